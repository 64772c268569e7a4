/-! THE CHECKER: numbers as 'a named number and a constant', named numbers in intervals, differences, what is known of the heap. -/
abbrev an_E : Type := Nat × Int
abbrev an_V : Type := Nat × an_E × an_E
abbrev an_B : Type := Nat × List (Nat × Int × Int) × List (Nat × Nat × Int) × List (Nat × Int)
def an_MN : Int := -2147483648
def an_MX : Int := 2147483647
def an_LN : Int := -9223372036854775808
def an_LX : Int := 9223372036854775807
def an_ev (σ : List Int) (e : an_E) : Option Int := match e with
  | (0, c) => some c
  | (i + 1, c) => (σ[i]?).map (fun x => x + c)
/-- the numbers are in their intervals, the differences hold, the numbers are none of those -/
def an_ok (B : an_B) (σ : List Int) : Prop := (σ.length = B.1 ∧ ∀ (i : Nat) (x : Int), σ[i]? = some x → an_LN ≤ x ∧ x ≤ an_LX) ∧ (∀ p ∈ B.2.1, ∃ x, σ[p.1]? = some x ∧ p.2.1 ≤ x ∧ x ≤ p.2.2) ∧
  (∀ f ∈ B.2.2.1, ∃ x y, σ[f.1]? = some x ∧ σ[f.2.1]? = some y ∧ x - y ≤ f.2.2) ∧ (∀ q ∈ B.2.2.2, ∃ x, σ[q.1]? = some x ∧ x ≠ q.2)
theorem an_nbq (a b : Nat) : Nat.beq a b = (a == b) := by
  rw [Bool.eq_iff_iff, Nat.beq_eq, beq_iff_eq]
def an_iv : List (Nat × Int × Int) → Nat → Int × Int
  | [], _ => (an_LN, an_LX)
  | p :: E, i => cond (Nat.beq p.1 i) p.2 (an_iv E i)
def an_lof (E : List (Nat × Int × Int)) (i : Nat) : List (Nat × Nat × Int) → Int → Int
  | [], a => a
  | f :: fs, a => an_lof E i fs (cond (Nat.beq f.2.1 i) (max a ((an_iv E f.1).1 - f.2.2)) a)
def an_hif (E : List (Nat × Int × Int)) (i : Nat) : List (Nat × Nat × Int) → Int → Int
  | [], a => a
  | f :: fs, a => an_hif E i fs (cond (Nat.beq f.1 i) (min a ((an_iv E f.2.1).2 + f.2.2)) a)
def an_lo (B : an_B) (e : an_E) : Int := match e with
  | (0, c) => c
  | (i + 1, c) => an_lof B.2.1 i B.2.2.1 (an_iv B.2.1 i).1 + c
def an_hi (B : an_B) (e : an_E) : Int := match e with
  | (0, c) => c
  | (i + 1, c) => an_hif B.2.1 i B.2.2.1 (an_iv B.2.1 i).2 + c
/-- b to j by one difference -/
def an_ub1 (b j : Nat) (k : Int) : List (Nat × Nat × Int) → Int → Int
  | [], a => a
  | f :: fs, a => an_ub1 b j k fs (cond (Nat.beq f.1 b && Nat.beq f.2.1 j) (min a (k + f.2.2)) a)
/-- at most so much is e1 - e2 -/
def an_ub (B : an_B) (e1 e2 : an_E) : Int := match e1, e2 with
  | (0, c), (0, d) => c - d
  | (0, c), (j + 1, d) => c - an_lo B (j + 1, d)
  | (i + 1, c), (0, d) => an_hi B (i + 1, c) - d
  | (i + 1, c), (j + 1, d) => if i == j then c - d else an_ub1 i j (c - d) B.2.2.1 (an_hi B (i + 1, c) - an_lo B (j + 1, d))
def an_sethi (E : List (Nat × Int × Int)) (i : Nat) (h : Int) : List (Nat × Int × Int) := if h < (an_iv E i).2 then (i, (an_iv E i).1, h) :: E else E
def an_setlo (E : List (Nat × Int × Int)) (i : Nat) (l : Int) : List (Nat × Int × Int) := if (an_iv E i).1 < l then (i, l, (an_iv E i).2) :: E else E
def an_fact (F : List (Nat × Nat × Int)) (a b : Nat) (k : Int) : List (Nat × Nat × Int) := if F.any (fun f => f.1 == a && (f.2.1 == b && decide (f.2.2 ≤ k))) then F else (a, b, k) :: F
/-- b to j by two differences -/
def an_ub2 (b j : Nat) (k : Int) (F : List (Nat × Nat × Int)) : List (Nat × Nat × Int) → Int → Int
  | [], a => a
  | f :: fs, a => an_ub2 b j k F fs (cond (Nat.beq f.1 b) (an_ub1 f.2.1 j (k + f.2.2) F a) a)
def an_ubT (B : an_B) (e1 e2 : an_E) : Int := match e1, e2 with
  | (i + 1, c), (j + 1, d) => if i == j then c - d else an_ub2 i j (c - d) B.2.2.1 B.2.2.1 (an_ub B (i + 1, c) (j + 1, d))
  | a, b => an_ub B a b
/-- e1 - e2 is at most k -/
def an_le (B : an_B) (e1 e2 : an_E) (k : Int) : Option an_B :=
  if k < - an_ubT B e2 e1 then none else match e1, e2 with
  | (0, _), (0, _) => some B
  | (i + 1, c), (0, d) => some (B.1, an_sethi B.2.1 i (d + k - c), B.2.2)
  | (0, c), (j + 1, d) => some (B.1, an_setlo B.2.1 j (c - k - d), B.2.2)
  | (i + 1, c), (j + 1, d) => if i == j then some B else some (B.1, an_setlo (an_sethi B.2.1 i (an_hi B (j + 1, d) + k - c)) j (an_lo B (i + 1, c) - k - d), an_fact B.2.2.1 i j (k + d - c), B.2.2.2)
def an_trl (N : List (Nat × Int)) (i : Nat) : Nat → Int → Int
  | 0, l => l
  | n + 1, l => if N.any (fun q => q.1 == i && decide (q.2 = l)) then an_trl N i n (l + 1) else l
def an_trh (N : List (Nat × Int)) (i : Nat) : Nat → Int → Int
  | 0, h => h
  | n + 1, h => if N.any (fun q => q.1 == i && decide (q.2 = h)) then an_trh N i n (h - 1) else h
/-- number i is not c -/
def an_nec (B : an_B) (i : Nat) (c : Int) : Option an_B :=
  let N := (i, c) :: B.2.2.2
  let l := an_trl N i (N.length + 1) (an_iv B.2.1 i).1
  let h := an_trh N i (N.length + 1) (an_iv B.2.1 i).2
  if h < l then none else some (B.1, (i, l, h) :: B.2.1, B.2.2.1, N)
def an_ne (B : an_B) (e1 e2 : an_E) : Option an_B :=
  if an_ub B e1 e2 ≤ 0 ∧ an_ub B e2 e1 ≤ 0 then none else match e1, e2 with
  | (0, _), (0, _) => some B
  | (i + 1, c), (0, d) => an_nec B i (d - c)
  | (0, c), (j + 1, d) => an_nec B j (c - d)
  | (i + 1, c), (j + 1, d) => if an_ub B (i + 1, c) (j + 1, d) = 0 then an_le B (i + 1, c) (j + 1, d) (-1) else if an_ub B (j + 1, d) (i + 1, c) = 0 then an_le B (j + 1, d) (i + 1, c) (-1) else some B
def an_isne (B : an_B) (e1 e2 : an_E) : Bool := match e1, e2 with
  | (i + 1, c), (0, d) => B.2.2.2.any (fun q => q.1 == i && decide (q.2 = d - c))
  | (0, c), (j + 1, d) => B.2.2.2.any (fun q => q.1 == j && decide (q.2 = c - d))
  | _, _ => false
def an_eq (B : an_B) (e1 e2 : an_E) : Option an_B := if an_isne B e1 e2 then none else (an_le B e1 e2 0).bind (fun B1 => an_le B1 e2 e1 0)
/-- the comparison holds -/
def an_asm (B : an_B) (c : ClassFile.Cond) (e1 e2 : an_E) : Option an_B := match c with
  | .eq => an_eq B e1 e2 | .ne => an_ne B e1 e2 | .lt => an_le B e1 e2 (-1) | .ge => an_le B e2 e1 0 | .gt => an_le B e2 e1 (-1) | .le => an_le B e1 e2 0
def an_not (c : ClassFile.Cond) : ClassFile.Cond := match c with
  | .eq => .ne | .ne => .eq | .lt => .ge | .ge => .lt | .gt => .le | .le => .gt
/-! that they say the truth -/
theorem an_evs {σ : List Int} {i : Nat} {c x : Int} (h : an_ev σ (i + 1, c) = some x) : σ[i]? = some (x - c) := by
  simp only [an_ev, Option.map_eq_some_iff] at h
  obtain ⟨y, h1, h2⟩ := h
  rw [h1, ← h2]
  congr 1
  omega
theorem an_ivE {σ : List Int} {i : Nat} {x : Int} (hx : σ[i]? = some x) (h0 : an_LN ≤ x ∧ x ≤ an_LX) : ∀ (E : List (Nat × Int × Int)), (∀ p ∈ E, ∃ x, σ[p.1]? = some x ∧ p.2.1 ≤ x ∧ x ≤ p.2.2) → (an_iv E i).1 ≤ x ∧ x ≤ (an_iv E i).2 := by
  intro E
  induction E with
  | nil => intro _; exact h0
  | cons p E ih =>
    intro h
    simp only [an_iv, Bool.cond_eq_ite, an_nbq]
    split
    · rename_i hb
      rw [beq_iff_eq] at hb
      obtain ⟨y, hy, h1⟩ := h p List.mem_cons_self
      rw [hb] at hy
      cases Option.some.inj (hy.symm.trans hx)
      exact h1
    · exact ih (fun q hq => h q (List.mem_cons_of_mem _ hq))
theorem an_ivs {B : an_B} {σ : List Int} (h : an_ok B σ) {i : Nat} {x : Int} (hx : σ[i]? = some x) : (an_iv B.2.1 i).1 ≤ x ∧ x ≤ (an_iv B.2.1 i).2 := an_ivE hx (h.1.2 i x hx) _ h.2.1
theorem an_lof_ok {B : an_B} {σ : List Int} (h : an_ok B σ) {i : Nat} {x : Int} (hx : σ[i]? = some x) : ∀ (F : List (Nat × Nat × Int)) (a : Int), (∀ f ∈ F, f ∈ B.2.2.1) → a ≤ x → an_lof B.2.1 i F a ≤ x := by
  intro F
  induction F with
  | nil => intro a _ ha; exact ha
  | cons f fs ih =>
    intro a hF ha
    refine ih _ (fun g hg => hF g (List.mem_cons_of_mem _ hg)) ?_
    rw [Bool.cond_eq_ite]
    simp only [an_nbq]
    split
    · rename_i hb
      obtain ⟨u, v, hu, hv, huv⟩ := h.2.2.1 f (hF f List.mem_cons_self)
      rw [beq_iff_eq] at hb
      rw [hb] at hv
      cases Option.some.inj (hv.symm.trans hx)
      have := (an_ivs h hu).1
      omega
    · exact ha
theorem an_hif_ok {B : an_B} {σ : List Int} (h : an_ok B σ) {i : Nat} {x : Int} (hx : σ[i]? = some x) : ∀ (F : List (Nat × Nat × Int)) (a : Int), (∀ f ∈ F, f ∈ B.2.2.1) → x ≤ a → x ≤ an_hif B.2.1 i F a := by
  intro F
  induction F with
  | nil => intro a _ ha; exact ha
  | cons f fs ih =>
    intro a hF ha
    refine ih _ (fun g hg => hF g (List.mem_cons_of_mem _ hg)) ?_
    rw [Bool.cond_eq_ite]
    simp only [an_nbq]
    split
    · rename_i hb
      obtain ⟨u, v, hu, hv, huv⟩ := h.2.2.1 f (hF f List.mem_cons_self)
      rw [beq_iff_eq] at hb
      rw [hb] at hu
      cases Option.some.inj (hu.symm.trans hx)
      have := (an_ivs h hv).2
      omega
    · exact ha
theorem an_lo_ok {B : an_B} {σ : List Int} (h : an_ok B σ) {e : an_E} {x : Int} (hx : an_ev σ e = some x) : an_lo B e ≤ x := by
  obtain ⟨i, c⟩ := e
  cases i with
  | zero => simp only [an_ev, Option.some.injEq] at hx; simp [an_lo, hx]
  | succ i =>
    have h1 := an_evs hx
    have h2 := an_lof_ok h h1 B.2.2.1 _ (fun _ q => q) (an_ivs h h1).1
    simp only [an_lo]
    omega
theorem an_hi_ok {B : an_B} {σ : List Int} (h : an_ok B σ) {e : an_E} {x : Int} (hx : an_ev σ e = some x) : x ≤ an_hi B e := by
  obtain ⟨i, c⟩ := e
  cases i with
  | zero => simp only [an_ev, Option.some.injEq] at hx; simp [an_hi, hx]
  | succ i =>
    have h1 := an_evs hx
    have h2 := an_hif_ok h h1 B.2.2.1 _ (fun _ q => q) (an_ivs h h1).2
    simp only [an_hi]
    omega
theorem an_ub1_ok {B : an_B} {σ : List Int} (h : an_ok B σ) {i j : Nat} {k x y : Int} (hx : σ[i]? = some x) (hy : σ[j]? = some y) : ∀ (F : List (Nat × Nat × Int)) (a : Int), (∀ f ∈ F, f ∈ B.2.2.1) → x + k - y ≤ a → x + k - y ≤ an_ub1 i j k F a := by
  intro F
  induction F with
  | nil => intro a _ ha; exact ha
  | cons f fs ih =>
    intro a hF ha
    refine ih _ (fun g hg => hF g (List.mem_cons_of_mem _ hg)) ?_
    rw [Bool.cond_eq_ite]
    simp only [an_nbq]
    split
    · rename_i hb
      rw [Bool.and_eq_true, beq_iff_eq, beq_iff_eq] at hb
      obtain ⟨p, q, hp, hq, hpq⟩ := h.2.2.1 f (hF f List.mem_cons_self)
      rw [hb.1] at hp
      rw [hb.2] at hq
      cases Option.some.inj (hp.symm.trans hx)
      cases Option.some.inj (hq.symm.trans hy)
      omega
    · exact ha
theorem an_ub_ok {B : an_B} {σ : List Int} (h : an_ok B σ) {e1 e2 : an_E} {x y : Int} (hx : an_ev σ e1 = some x) (hy : an_ev σ e2 = some y) : x - y ≤ an_ub B e1 e2 := by
  obtain ⟨i, c⟩ := e1
  obtain ⟨j, d⟩ := e2
  have l1 := an_lo_ok h hx
  have l2 := an_hi_ok h hx
  have l3 := an_lo_ok h hy
  have l4 := an_hi_ok h hy
  cases i with
  | zero =>
    cases j with
    | zero => simp only [an_ev, Option.some.injEq] at hx hy; simp [an_ub, hx, hy]
    | succ j => simp only [an_ev, Option.some.injEq] at hx; simp only [an_ub]; omega
  | succ i =>
    cases j with
    | zero => simp only [an_ev, Option.some.injEq] at hy; simp only [an_ub]; omega
    | succ j =>
      have h1 := an_evs hx
      have h2 := an_evs hy
      simp only [an_ub]
      split
      · rename_i hb
        rw [beq_iff_eq] at hb
        subst hb
        have := Option.some.inj (h1.symm.trans h2)
        omega
      · have := an_ub1_ok (k := c - d) h h1 h2 B.2.2.1 (an_hi B (i + 1, c) - an_lo B (j + 1, d)) (fun _ q => q) (by omega)
        omega
theorem an_ub1_le {B : an_B} {σ : List Int} (h : an_ok B σ) {i j : Nat} {k x y z : Int} (hx : σ[i]? = some x) (hy : σ[j]? = some y) (hz : z ≤ x + k - y) : ∀ (F : List (Nat × Nat × Int)) (a : Int), (∀ f ∈ F, f ∈ B.2.2.1) → z ≤ a → z ≤ an_ub1 i j k F a := by
  intro F
  induction F with
  | nil => intro a _ ha; exact ha
  | cons f fs ih =>
    intro a hF ha
    refine ih _ (fun g hg => hF g (List.mem_cons_of_mem _ hg)) ?_
    rw [Bool.cond_eq_ite]
    simp only [an_nbq]
    split
    · rename_i hb
      rw [Bool.and_eq_true, beq_iff_eq, beq_iff_eq] at hb
      obtain ⟨p, q, hp, hq, hpq⟩ := h.2.2.1 f (hF f List.mem_cons_self)
      rw [hb.1] at hp
      rw [hb.2] at hq
      cases Option.some.inj (hp.symm.trans hx)
      cases Option.some.inj (hq.symm.trans hy)
      omega
    · exact ha
theorem an_ub2_ok {B : an_B} {σ : List Int} (h : an_ok B σ) {i j : Nat} {k x y : Int} (hx : σ[i]? = some x) (hy : σ[j]? = some y) : ∀ (F : List (Nat × Nat × Int)) (a : Int), (∀ f ∈ F, f ∈ B.2.2.1) → x + k - y ≤ a → x + k - y ≤ an_ub2 i j k B.2.2.1 F a := by
  intro F
  induction F with
  | nil => intro a _ ha; exact ha
  | cons f fs ih =>
    intro a hF ha
    refine ih _ (fun g hg => hF g (List.mem_cons_of_mem _ hg)) ?_
    rw [Bool.cond_eq_ite]
    simp only [an_nbq]
    split
    · rename_i hb
      rw [beq_iff_eq] at hb
      obtain ⟨p, q, hp, hq, hpq⟩ := h.2.2.1 f (hF f List.mem_cons_self)
      rw [hb] at hp
      cases Option.some.inj (hp.symm.trans hx)
      exact an_ub1_le h hq hy (by omega) _ _ (fun _ q => q) ha
    · exact ha
theorem an_ubT_ok {B : an_B} {σ : List Int} (h : an_ok B σ) {e1 e2 : an_E} {x y : Int} (hx : an_ev σ e1 = some x) (hy : an_ev σ e2 = some y) : x - y ≤ an_ubT B e1 e2 := by
  have h0 := an_ub_ok h hx hy
  unfold an_ubT
  split
  · rename_i i c j d
    split
    · rename_i hb
      rw [beq_iff_eq] at hb
      subst hb
      have := Option.some.inj ((an_evs hx).symm.trans (an_evs hy))
      omega
    · have h1 := an_evs hx
      have h2 := an_evs hy
      have h0 : x - y ≤ an_ub B (i + 1, c) (j + 1, d) := h0
      have := an_ub2_ok (k := c - d) h h1 h2 B.2.2.1 (an_ub B (i + 1, c) (j + 1, d)) (fun _ q => q) (by omega)
      omega
  · exact h0
theorem an_set_ok {B : an_B} {σ : List Int} (h : an_ok B σ) {i : Nat} {p : Int × Int} {x : Int} (hx : σ[i]? = some x) (hp : p.1 ≤ x ∧ x ≤ p.2) : an_ok (B.1, (i, p.1, p.2) :: B.2.1, B.2.2) σ := by
  refine ⟨h.1, fun q hq => ?_, h.2.2⟩
  rcases List.mem_cons.mp hq with rfl | hq
  · exact ⟨x, hx, hp⟩
  · exact h.2.1 q hq
theorem an_sethi_ok {B : an_B} {σ : List Int} (h : an_ok B σ) {i : Nat} {u x : Int} (hx : σ[i]? = some x) (hu : x ≤ u) : an_ok (B.1, an_sethi B.2.1 i u, B.2.2) σ := by
  simp only [an_sethi]
  split
  · exact an_set_ok h (p := ((an_iv B.2.1 i).1, u)) hx ⟨(an_ivs h hx).1, hu⟩
  · exact h
theorem an_setlo_ok {B : an_B} {σ : List Int} (h : an_ok B σ) {i : Nat} {u x : Int} (hx : σ[i]? = some x) (hu : u ≤ x) : an_ok (B.1, an_setlo B.2.1 i u, B.2.2) σ := by
  simp only [an_setlo]
  split
  · exact an_set_ok h (p := (u, (an_iv B.2.1 i).2)) hx ⟨hu, (an_ivs h hx).2⟩
  · exact h
theorem an_fact_ok {B : an_B} {σ : List Int} (h : an_ok B σ) {a b : Nat} {k x y : Int} (hx : σ[a]? = some x) (hy : σ[b]? = some y) (hk : x - y ≤ k) : an_ok (B.1, B.2.1, an_fact B.2.2.1 a b k, B.2.2.2) σ := by
  refine ⟨h.1, h.2.1, fun f hf => ?_, h.2.2.2⟩
  simp only [an_fact] at hf
  split at hf
  · exact h.2.2.1 f hf
  · rcases List.mem_cons.mp hf with rfl | hf
    · exact ⟨x, y, hx, hy, hk⟩
    · exact h.2.2.1 f hf
theorem an_le_ok {B : an_B} {σ : List Int} (h : an_ok B σ) {e1 e2 : an_E} {x y k : Int} (hx : an_ev σ e1 = some x) (hy : an_ev σ e2 = some y) (hk : x - y ≤ k) : ∃ B1, an_le B e1 e2 k = some B1 ∧ an_ok B1 σ := by
  have h0 := an_ubT_ok h hy hx
  have l1 := an_lo_ok h hx
  have l4 := an_hi_ok h hy
  simp only [an_le]
  rw [if_neg (by omega)]
  obtain ⟨i, c⟩ := e1
  obtain ⟨j, d⟩ := e2
  cases i with
  | zero =>
    cases j with
    | zero => exact ⟨_, rfl, h⟩
    | succ j =>
      have h2 := an_evs hy
      simp only [an_ev, Option.some.injEq] at hx
      exact ⟨_, rfl, an_setlo_ok h h2 (by omega)⟩
  | succ i =>
    have h1 := an_evs hx
    cases j with
    | zero =>
      simp only [an_ev, Option.some.injEq] at hy
      exact ⟨_, rfl, an_sethi_ok h h1 (by omega)⟩
    | succ j =>
      have h2 := an_evs hy
      simp only
      split
      · exact ⟨_, rfl, h⟩
      · refine ⟨_, rfl, ?_⟩
        have k1 := an_sethi_ok h (i := i) (u := an_hi B (j + 1, d) + k - c) h1 (by omega)
        have k2 := an_setlo_ok k1 (i := j) (u := an_lo B (i + 1, c) - k - d) h2 (by omega)
        exact an_fact_ok k2 h1 h2 (by omega)
theorem an_trl_ok {N : List (Nat × Int)} {σ : List Int} {i : Nat} {x : Int} (hN : ∀ q ∈ N, ∃ v, σ[q.1]? = some v ∧ v ≠ q.2) (hx : σ[i]? = some x) : ∀ (n : Nat) (l : Int), l ≤ x → an_trl N i n l ≤ x := by
  intro n
  induction n with
  | zero => intro l h; exact h
  | succ n ih =>
    intro l h
    simp only [an_trl]
    split
    · rename_i hb
      rw [List.any_eq_true] at hb
      obtain ⟨q, hq, hb⟩ := hb
      simp only [Bool.and_eq_true, beq_iff_eq, decide_eq_true_eq] at hb
      obtain ⟨v, hv, hne⟩ := hN q hq
      rw [hb.1] at hv
      cases Option.some.inj (hv.symm.trans hx)
      refine ih _ ?_
      have := hb.2
      omega
    · exact h
theorem an_trh_ok {N : List (Nat × Int)} {σ : List Int} {i : Nat} {x : Int} (hN : ∀ q ∈ N, ∃ v, σ[q.1]? = some v ∧ v ≠ q.2) (hx : σ[i]? = some x) : ∀ (n : Nat) (u : Int), x ≤ u → x ≤ an_trh N i n u := by
  intro n
  induction n with
  | zero => intro l h; exact h
  | succ n ih =>
    intro l h
    simp only [an_trh]
    split
    · rename_i hb
      rw [List.any_eq_true] at hb
      obtain ⟨q, hq, hb⟩ := hb
      simp only [Bool.and_eq_true, beq_iff_eq, decide_eq_true_eq] at hb
      obtain ⟨v, hv, hne⟩ := hN q hq
      rw [hb.1] at hv
      cases Option.some.inj (hv.symm.trans hx)
      refine ih _ ?_
      have := hb.2
      omega
    · exact h
theorem an_nec_ok {B : an_B} {σ : List Int} (h : an_ok B σ) {i : Nat} {x c : Int} (hx : σ[i]? = some x) (hc : x ≠ c) : ∃ B1, an_nec B i c = some B1 ∧ an_ok B1 σ := by
  have hN : ∀ q ∈ (i, c) :: B.2.2.2, ∃ v, σ[q.1]? = some v ∧ v ≠ q.2 := by
    intro q hq
    rcases List.mem_cons.mp hq with rfl | hq
    · exact ⟨x, hx, hc⟩
    · exact h.2.2.2 q hq
  have h1 := an_trl_ok hN hx (((i, c) :: B.2.2.2).length + 1) _ (an_ivs h hx).1
  have h2 := an_trh_ok hN hx (((i, c) :: B.2.2.2).length + 1) _ (an_ivs h hx).2
  simp only [an_nec]
  rw [if_neg (by omega)]
  refine ⟨_, rfl, ?_⟩
  have k := an_set_ok h (i := i) (p := (an_trl ((i, c) :: B.2.2.2) i (((i, c) :: B.2.2.2).length + 1) (an_iv B.2.1 i).1, an_trh ((i, c) :: B.2.2.2) i (((i, c) :: B.2.2.2).length + 1) (an_iv B.2.1 i).2)) hx ⟨h1, h2⟩
  exact ⟨k.1, k.2.1, k.2.2.1, hN⟩
theorem an_ne_ok {B : an_B} {σ : List Int} (h : an_ok B σ) {e1 e2 : an_E} {x y : Int} (hx : an_ev σ e1 = some x) (hy : an_ev σ e2 = some y) (hk : x ≠ y) : ∃ B1, an_ne B e1 e2 = some B1 ∧ an_ok B1 σ := by
  have h0 := an_ub_ok h hy hx
  have h9 := an_ub_ok h hx hy
  simp only [an_ne]
  rw [if_neg (by omega)]
  obtain ⟨i, c⟩ := e1
  obtain ⟨j, d⟩ := e2
  cases i with
  | zero =>
    cases j with
    | zero => exact ⟨_, rfl, h⟩
    | succ j =>
      have h2 := an_evs hy
      simp only [an_ev, Option.some.injEq] at hx
      exact an_nec_ok h h2 (by omega)
  | succ i =>
    have h1 := an_evs hx
    cases j with
    | zero =>
      simp only [an_ev, Option.some.injEq] at hy
      exact an_nec_ok h h1 (by omega)
    | succ j =>
      simp only
      split
      · exact an_le_ok h hx hy (by omega)
      · split
        · exact an_le_ok h hy hx (by omega)
        · exact ⟨_, rfl, h⟩
theorem an_eq_ok {B : an_B} {σ : List Int} (h : an_ok B σ) {e1 e2 : an_E} {x : Int} (hx : an_ev σ e1 = some x) (hy : an_ev σ e2 = some x) : ∃ B1, an_eq B e1 e2 = some B1 ∧ an_ok B1 σ := by
  have hne : an_isne B e1 e2 = false := by
    rw [Bool.eq_false_iff]
    intro hb
    obtain ⟨i, c⟩ := e1
    obtain ⟨j, d⟩ := e2
    cases i with
    | zero =>
      cases j with
      | zero => simp [an_isne] at hb
      | succ j =>
        have h2 := an_evs hy
        simp only [an_ev, Option.some.injEq] at hx
        simp only [an_isne, List.any_eq_true, Bool.and_eq_true, beq_iff_eq, decide_eq_true_eq] at hb
        obtain ⟨q, hq, hb1, hb2⟩ := hb
        obtain ⟨v, hv, hn⟩ := h.2.2.2 q hq
        rw [hb1] at hv
        have := Option.some.inj (hv.symm.trans h2)
        omega
    | succ i =>
      have h1 := an_evs hx
      cases j with
      | zero =>
        simp only [an_ev, Option.some.injEq] at hy
        simp only [an_isne, List.any_eq_true, Bool.and_eq_true, beq_iff_eq, decide_eq_true_eq] at hb
        obtain ⟨q, hq, hb1, hb2⟩ := hb
        obtain ⟨v, hv, hn⟩ := h.2.2.2 q hq
        rw [hb1] at hv
        have := Option.some.inj (hv.symm.trans h1)
        omega
      | succ j => simp [an_isne] at hb
  simp only [an_eq, hne]
  obtain ⟨B1, e, h1⟩ := an_le_ok (k := 0) h hx hy (by omega)
  obtain ⟨B2, e2', h2⟩ := an_le_ok (k := 0) h1 hy hx (by omega)
  exact ⟨B2, by simp [e, e2'], h2⟩
def an_cI (c : ClassFile.Cond) (x y : Int) : Prop := match c with
  | .eq => x = y | .ne => x ≠ y | .lt => x < y | .ge => y ≤ x | .gt => y < x | .le => x ≤ y
theorem an_asm_ok {B : an_B} {σ : List Int} (h : an_ok B σ) {c : ClassFile.Cond} {e1 e2 : an_E} {x y : Int} (hx : an_ev σ e1 = some x) (hy : an_ev σ e2 = some y) (hc : an_cI c x y) : ∃ B1, an_asm B c e1 e2 = some B1 ∧ an_ok B1 σ := by
  cases c with
  | eq => have hc : x = y := hc; subst hc; exact an_eq_ok h hx hy
  | ne => exact an_ne_ok h hx hy hc
  | lt => have hc : x < y := hc; exact an_le_ok h hx hy (by omega)
  | ge => have hc : y ≤ x := hc; exact an_le_ok h hy hx (by omega)
  | gt => have hc : y < x := hc; exact an_le_ok h hy hx (by omega)
  | le => have hc : x ≤ y := hc; exact an_le_ok h hx hy (by omega)
theorem an_not_ok {c : ClassFile.Cond} {x y : Int} (h : ¬ an_cI c x y) : an_cI (an_not c) x y := by
  cases c <;> simp only [an_cI, an_not] at h ⊢ <;> omega
theorem an_evx {σ τ : List Int} {e : an_E} {x : Int} (h : an_ev σ e = some x) : an_ev (σ ++ τ) e = some x := by
  obtain ⟨i, c⟩ := e
  cases i with
  | zero => exact h
  | succ i =>
    simp only [an_ev, Option.map_eq_some_iff] at h ⊢
    obtain ⟨y, h1, h2⟩ := h
    refine ⟨y, ?_, h2⟩
    rw [List.getElem?_append_left (List.getElem?_eq_some_iff.mp h1).1]
    exact h1
def an_new (B : an_B) (lo hi : Int) : an_B × an_E := ((B.1 + 1, (B.1, lo, hi) :: B.2.1, B.2.2), (B.1 + 1, 0))
theorem an_xt {σ τ : List Int} {i : Nat} {x : Int} (h : σ[i]? = some x) : (σ ++ τ)[i]? = some x := by
  rw [List.getElem?_append_left (List.getElem?_eq_some_iff.mp h).1]; exact h
theorem an_new_ok {B : an_B} {σ : List Int} (h : an_ok B σ) {lo hi x : Int} (h1 : lo ≤ x ∧ x ≤ hi) (h2 : an_LN ≤ x ∧ x ≤ an_LX) : an_ok (an_new B lo hi).1 (σ ++ [x]) ∧ an_ev (σ ++ [x]) (an_new B lo hi).2 = some x := by
  have hx : (σ ++ [x])[B.1]? = some x := by rw [← h.1.1]; simp
  refine ⟨⟨⟨by simp [an_new, h.1.1], fun i y hy => ?_⟩, fun p hp => ?_, fun f hf => ?_, fun q hq => ?_⟩, ?_⟩
  · by_cases hi : i < σ.length
    · rw [List.getElem?_append_left hi] at hy; exact h.1.2 i y hy
    · rw [List.getElem?_append_right (by omega)] at hy
      cases hk : i - σ.length with
      | zero => rw [hk] at hy; simp at hy; subst hy; exact h2
      | succ n => rw [hk] at hy; simp at hy
  · rcases List.mem_cons.mp hp with rfl | hp
    · exact ⟨x, hx, h1⟩
    · obtain ⟨y, a, b⟩ := h.2.1 p hp; exact ⟨y, an_xt a, b⟩
  · obtain ⟨y, z, a, b, d⟩ := h.2.2.1 f hf; exact ⟨y, z, an_xt a, an_xt b, d⟩
  · obtain ⟨y, a, b⟩ := h.2.2.2 q hq; exact ⟨y, an_xt a, b⟩
  · simp only [an_new, an_ev, hx, Option.map_some]; simp
