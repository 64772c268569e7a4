/-! OPERATIONS: a result that is true of the machine's number. -/
def an_px (σ σ2 : List Int) : Prop := ∃ τ, σ2 = σ ++ τ
theorem an_px.rf {σ : List Int} : an_px σ σ := ⟨[], by simp⟩
theorem an_px.tr {a b c : List Int} (h : an_px a b) (g : an_px b c) : an_px a c := by
  obtain ⟨u, rfl⟩ := h
  obtain ⟨v, rfl⟩ := g
  exact ⟨u ++ v, by simp⟩
theorem an_px.one {σ : List Int} {x : Int} : an_px σ (σ ++ [x]) := ⟨[x], rfl⟩
theorem an_px.ev {σ σ2 : List Int} (h : an_px σ σ2) {e : an_E} {x : Int} (hx : an_ev σ e = some x) : an_ev σ2 e = some x := by
  obtain ⟨τ, rfl⟩ := h
  exact an_evx hx
theorem an_px.ix {σ σ2 : List Int} (h : an_px σ σ2) {i : Nat} {x : Int} (hx : σ[i]? = some x) : σ2[i]? = some x := by
  obtain ⟨τ, rfl⟩ := h
  exact an_xt hx
def an_mok (M : an_M) (σ : List Int) : Prop := ∀ q ∈ M, ∃ a b, an_ev σ q.1 = some a ∧ an_ev σ q.2.1 = some b ∧ an_ev σ q.2.2 = some (a + b) ∧ an_MN ≤ a + b ∧ a + b ≤ an_MX
theorem an_mok.px {M : an_M} {σ σ2 : List Int} (h : an_px σ σ2) (hM : an_mok M σ) : an_mok M σ2 := by
  intro q hq
  obtain ⟨a, b, h1, h2, h3, h4⟩ := hM q hq
  exact ⟨a, b, h.ev h1, h.ev h2, h.ev h3, h4⟩
/-- a result: the names have grown, what is said holds, the value is v -/
def an_res (B : an_B) (M : an_M) (e : an_E) (σ : List Int) (v : Int) : Prop := ∃ σ2, an_px σ σ2 ∧ an_ok B σ2 ∧ an_mok M σ2 ∧ an_ev σ2 e = some v
theorem an_resK {B : an_B} {M : an_M} {e : an_E} {σ : List Int} {v : Int} (hB : an_ok B σ) (hM : an_mok M σ) (h : an_ev σ e = some v) : an_res B M e σ v := ⟨σ, an_px.rf, hB, hM, h⟩
theorem an_resN {B : an_B} {M : an_M} {σ : List Int} {lo hi v : Int} (hB : an_ok B σ) (hM : an_mok M σ) (h1 : lo ≤ v) (h2 : v ≤ hi) (h3 : an_LN ≤ v ∧ v ≤ an_LX) : an_res (an_new B lo hi).1 M (an_new B lo hi).2 σ v := by
  obtain ⟨a, b⟩ := an_new_ok hB ⟨h1, h2⟩ h3
  exact ⟨_, an_px.one, a, an_mok.px an_px.one hM, b⟩
theorem an_resF {B : an_B} {M : an_M} {σ : List Int} (x : Int32) (hB : an_ok B σ) (hM : an_mok M σ) : an_res (an_full B).1 M (an_full B).2 σ x.toInt := an_resN hB hM (an_i32 x).1 (an_i32 x).2 (an_i32L x)
theorem an_nrm_ok {B : an_B} {σ : List Int} (hB : an_ok B σ) {e : an_E} {v : Int} (h : an_ev σ e = some v) : an_ev σ (an_nrm B e) = some v := by
  obtain ⟨i, c⟩ := e
  cases i with
  | zero => exact h
  | succ i =>
    simp only [an_nrm]
    split
    · rename_i hc
      have h1 := an_evs h
      have h2 := an_ivs hB h1
      simp only [an_ev, Option.some.injEq]
      omega
    · exact h
theorem an_addc_ok {B : an_B} {M : an_M} {σ : List Int} (hB : an_ok B σ) (hM : an_mok M σ) {e : an_E} {x y : Int32} (h : an_ev σ e = some x.toInt) : an_res (an_addc B e y.toInt).1 M (an_addc B e y.toInt).2 σ (x + y).toInt := by
  have l := an_lo_ok hB h
  have u := an_hi_ok hB h
  simp only [an_addc]
  split
  · rename_i hc
    refine an_resK hB hM ?_
    rw [an_addI (by omega) (by omega)]
    obtain ⟨i, c⟩ := e
    cases i with
    | zero => simp only [an_ev, Option.some.injEq] at h ⊢; omega
    | succ i =>
      have h1 := an_evs h
      simp only [an_ev, h1, Option.map_some, Option.some.injEq]
      omega
  · exact an_resF _ hB hM
theorem an_eqE_ok {a b : an_E} (h : an_eqE a b = true) : a = b := by
  simp only [an_eqE, an_nbq, Bool.and_eq_true, beq_iff_eq, decide_eq_true_eq] at h
  exact Prod.ext h.1 h.2
theorem an_memo_ok {σ : List Int} {e1 e2 e3 : an_E} {x y : Int} (h1 : an_ev σ e1 = some x) (h2 : an_ev σ e2 = some y) : ∀ (M : an_M), an_mok M σ → an_memo M e1 e2 = some e3 → an_ev σ e3 = some (x + y) ∧ an_MN ≤ x + y ∧ x + y ≤ an_MX := by
  intro M
  induction M with
  | nil => intro _ h; cases h
  | cons q M ih =>
    intro hM h
    simp only [an_memo] at h
    split at h
    · rename_i hb
      cases h
      obtain ⟨a, b, g1, g2, g3, g4⟩ := hM q List.mem_cons_self
      rw [Bool.or_eq_true, Bool.and_eq_true, Bool.and_eq_true] at hb
      rcases hb with ⟨b1, b2⟩ | ⟨b1, b2⟩
      · rw [an_eqE_ok b1] at g1
        rw [an_eqE_ok b2] at g2
        cases Option.some.inj (g1.symm.trans h1)
        cases Option.some.inj (g2.symm.trans h2)
        exact ⟨g3, g4⟩
      · rw [an_eqE_ok b1] at g1
        rw [an_eqE_ok b2] at g2
        cases Option.some.inj (g1.symm.trans h2)
        cases Option.some.inj (g2.symm.trans h1)
        rw [Int.add_comm y x] at g3 g4
        exact ⟨g3, g4⟩
    · exact ih (fun q hq => hM q (List.mem_cons_of_mem _ hq)) h
theorem an_sums_ok {B : an_B} {σ σ2 : List Int} (hB : an_ok B σ) (hp : an_px σ σ2) {e1 e2 : an_E} {n : Nat} {x y : Int} (h1 : an_ev σ e1 = some x) (h2 : an_ev σ e2 = some y) (hn : σ2[n]? = some (x + y)) :
    ∀ (M : an_M) (F : List (Nat × Nat × Int)), an_mok M σ → (∀ f ∈ F, ∃ u v, σ2[f.1]? = some u ∧ σ2[f.2.1]? = some v ∧ u - v ≤ f.2.2) → ∀ f ∈ an_sums B e1 e2 n M F, ∃ u v, σ2[f.1]? = some u ∧ σ2[f.2.1]? = some v ∧ u - v ≤ f.2.2 := by
  intro M
  induction M with
  | nil => intro F _ hF; exact hF
  | cons q M ih =>
    intro F hM hF
    have hM2 : an_mok M σ := fun q hq => hM q (List.mem_cons_of_mem _ hq)
    obtain ⟨a, b, g1, g2, g3, -⟩ := hM q List.mem_cons_self
    obtain ⟨q1, q2, q3, d⟩ := q
    cases q3 with
    | zero => exact ih F hM2 hF
    | succ z =>
      simp only [an_sums]
      split
      · rename_i hb
        have e := an_eqE_ok hb
        simp only at e g1 g2 g3
        rw [e] at g1
        have ea := Option.some.inj (g1.symm.trans h1)
        have gz := hp.ix (an_evs g3)
        have u1 := an_ub_ok hB h2 g2
        have u2 := an_ub_ok hB g2 h2
        refine ih _ hM2 ?_
        intro f hf
        rcases List.mem_cons.mp hf with rfl | hf
        · exact ⟨_, _, hn, gz, by simp only; omega⟩
        · rcases List.mem_cons.mp hf with rfl | hf
          · exact ⟨_, _, gz, hn, by simp only; omega⟩
          · exact hF f hf
      · split
        · rename_i hb
          have e := an_eqE_ok hb
          simp only at e g1 g2 g3
          rw [e] at g2
          have ea := Option.some.inj (g2.symm.trans h1)
          have gz := hp.ix (an_evs g3)
          have u1 := an_ub_ok hB h2 g1
          have u2 := an_ub_ok hB g1 h2
          refine ih _ hM2 ?_
          intro f hf
          rcases List.mem_cons.mp hf with rfl | hf
          · exact ⟨_, _, hn, gz, by simp only; omega⟩
          · rcases List.mem_cons.mp hf with rfl | hf
            · exact ⟨_, _, gz, hn, by simp only; omega⟩
            · exact hF f hf
        · exact ih F hM2 hF
theorem an_add_ok {B : an_B} {M : an_M} {σ : List Int} (hB : an_ok B σ) (hM : an_mok M σ) {e1 e2 : an_E} {x y : Int32} (h1 : an_ev σ e1 = some x.toInt) (h2 : an_ev σ e2 = some y.toInt) :
    an_res (an_add B M e1 e2).1 (an_add B M e1 e2).2.1 (an_add B M e1 e2).2.2 σ (x + y).toInt := by
  obtain ⟨i, c⟩ := e1
  obtain ⟨j, d⟩ := e2
  cases i with
  | zero =>
    simp only [an_ev, Option.some.injEq] at h1
    subst h1
    have := an_addc_ok (y := x) hB hM h2
    rw [Int32.add_comm] at this
    exact this
  | succ i =>
    cases j with
    | zero =>
      simp only [an_ev, Option.some.injEq] at h2
      subst h2
      exact an_addc_ok hB hM h1
    | succ j =>
      have l1 := an_lo_ok hB h1
      have u1 := an_hi_ok hB h1
      have l2 := an_lo_ok hB h2
      have u2 := an_hi_ok hB h2
      simp only [an_add]
      split
      · rename_i e3 he
        obtain ⟨h3, h4, h5⟩ := an_memo_ok h1 h2 M hM he
        exact an_resK hB hM (by rw [an_addI h4 h5]; exact h3)
      · split
        · rename_i hc
          have hs := an_addI (x := x) (y := y) (by omega) (by omega)
          have hL := an_i32L (x + y)
          obtain ⟨n1, n2⟩ := an_new_ok (lo := an_lo B (i + 1, c) + an_lo B (j + 1, d)) (hi := an_hi B (i + 1, c) + an_hi B (j + 1, d)) hB (x := (x + y).toInt) ⟨by omega, by omega⟩ hL
          have hn : (σ ++ [(x + y).toInt])[B.1]? = some (x.toInt + y.toInt) := by rw [← hB.1.1, ← hs]; simp
          have i1 := (an_px.one (x := (x + y).toInt)).ix (an_evs h1)
          have i2 := (an_px.one (x := (x + y).toInt)).ix (an_evs h2)
          refine ⟨σ ++ [(x + y).toInt], an_px.one, ⟨n1.1, n1.2.1, ?_, n1.2.2.2⟩, ?_, n2⟩
          · have hn2 : (σ ++ [(x + y).toInt])[B.1]? = some (y.toInt + x.toInt) := by rw [hn, Int.add_comm]
            refine an_sums_ok hB an_px.one h1 h2 hn M _ hM (an_sums_ok hB an_px.one h2 h1 hn2 M _ hM ?_)
            intro f hf
            rcases List.mem_cons.mp hf with rfl | hf
            · exact ⟨_, _, hn, i1, by simp only; omega⟩
            · rcases List.mem_cons.mp hf with rfl | hf
              · exact ⟨_, _, i1, hn, by simp only; omega⟩
              · rcases List.mem_cons.mp hf with rfl | hf
                · exact ⟨_, _, hn, i2, by simp only; omega⟩
                · rcases List.mem_cons.mp hf with rfl | hf
                  · exact ⟨_, _, i2, hn, by simp only; omega⟩
                  · exact n1.2.2.1 f hf
          · intro q hq
            rcases List.mem_cons.mp hq with rfl | hq
            · exact ⟨_, _, an_evx h1, an_evx h2, by rw [← hs]; exact n2, by omega, by omega⟩
            · exact an_mok.px an_px.one hM q hq
        · exact an_resF _ hB hM
theorem an_neg32 (x : Int32) (h : an_MN ≤ -x.toInt ∧ -x.toInt ≤ an_MX) : (-x).toInt = -x.toInt := by
  rw [Int32.toInt_neg, an_bm h.1 h.2]
theorem an_sub_ok {B : an_B} {M : an_M} {σ : List Int} (hB : an_ok B σ) (hM : an_mok M σ) {e1 e2 : an_E} {x y : Int32} (h1 : an_ev σ e1 = some x.toInt) (h2 : an_ev σ e2 = some y.toInt) : an_res (an_sub B e1 e2).1 M (an_sub B e1 e2).2 σ (x - y).toInt := by
  obtain ⟨j, d⟩ := e2
  have r1 := an_i32 x
  have r2 := an_i32 y
  cases j with
  | zero =>
    simp only [an_ev, Option.some.injEq] at h2
    subst h2
    have l := an_lo_ok hB h1
    have u := an_hi_ok hB h1
    simp only [an_sub, an_addc]
    split
    · rename_i hc
      refine an_resK hB hM ?_
      rw [an_subI (by omega) (by omega)]
      obtain ⟨i, c⟩ := e1
      cases i with
      | zero => simp only [an_ev, Option.some.injEq] at h1 ⊢; omega
      | succ i =>
        have h3 := an_evs h1
        simp only [an_ev, h3, Option.map_some, Option.some.injEq]
        omega
    · exact an_resF _ hB hM
  | succ j =>
    simp only [an_sub]
    split
    · rename_i hb
      rw [beq_iff_eq] at hb
      obtain ⟨i, c⟩ := e1
      simp only at hb
      subst hb
      have h3 := an_evs h1
      have h4 := an_evs h2
      have h5 := Option.some.inj (h3.symm.trans h4)
      split
      · rename_i hc
        refine an_resK hB hM ?_
        rw [an_subI (by omega) (by omega)]
        simp only [an_ev, Option.some.injEq]
        omega
      · exact an_resF _ hB hM
    · have u1 := an_ub_ok hB h1 h2
      have u2 := an_ub_ok hB h2 h1
      split
      · rename_i hc
        refine an_resN hB hM ?_ ?_ (an_i32L _) <;> rw [an_subI (by omega) (by omega)] <;> omega
      · exact an_resF _ hB hM
theorem an_rng_ok {B : an_B} {M : an_M} {σ : List Int} (hB : an_ok B σ) (hM : an_mok M σ) {l h mn mx v w : Int} (hw : mn ≤ w ∧ w ≤ mx) (hL : an_LN ≤ w ∧ w ≤ an_LX) (h1 : l ≤ v ∧ v ≤ h) (he : mn ≤ v → v ≤ mx → w = v) : an_res (an_rng B l h mn mx).1 M (an_rng B l h mn mx).2 σ w := by
  simp only [an_rng]
  split
  · rename_i hc
    have e := he (by omega) (by omega)
    exact an_resN hB hM (by omega) (by omega) hL
  · exact an_resN hB hM hw.1 hw.2 hL
theorem an_mul_ok {B : an_B} {M : an_M} {σ : List Int} (hB : an_ok B σ) (hM : an_mok M σ) {e1 e2 : an_E} {x y mn mx w : Int} (h1 : an_ev σ e1 = some x) (h2 : an_ev σ e2 = some y) (hw : mn ≤ w ∧ w ≤ mx) (hL : an_LN ≤ w ∧ w ≤ an_LX) (he : mn ≤ x * y → x * y ≤ mx → w = x * y) :
    an_res (an_mul B e1 e2 mn mx).1 M (an_mul B e1 e2 mn mx).2 σ w :=
  an_rng_ok hB hM hw hL (an_mulbd (an_lo_ok hB h1) (an_hi_ok hB h1) (an_lo_ok hB h2) (an_hi_ok hB h2)) he
theorem an_div_ok {B : an_B} {M : an_M} {σ : List Int} (hB : an_ok B σ) (hM : an_mok M σ) {e1 e2 : an_E} {x y : Int} {r : an_B × an_E} (h : an_div B e1 e2 = some r) (h1 : an_ev σ e1 = some x) (h2 : an_ev σ e2 = some y) (hx : an_LN ≤ x ∧ x ≤ an_LX) : 1 ≤ y ∧ an_res r.1 M r.2 σ (x.tdiv y) := by
  simp only [an_div] at h
  split at h
  · cases h
  · rename_i hc
    cases h
    have l1 := an_lo_ok hB h1
    have u1 := an_hi_ok hB h1
    have l2 := an_lo_ok hB h2
    have u2 := an_hi_ok hB h2
    have b := an_tdbd (by omega : 1 ≤ an_lo B e2) l1 u1 l2 u2
    have hy : 1 ≤ y := by omega
    refine ⟨hy, an_resN hB hM b.1 b.2 ?_⟩
    have q := an_tdle (a := x) hy
    simp only [an_LN, an_LX] at *
    by_cases h0 : 0 ≤ x
    · rw [if_pos h0] at q; omega
    · rw [if_neg h0] at q
      have e : x.tdiv y ≤ 0 := by
        have e2 : x.tdiv y = -((-x).tdiv y) := by rw [Int.neg_tdiv]; simp
        rw [e2, Int.tdiv_eq_ediv_of_nonneg (by omega)]
        have := Int.ediv_nonneg (by omega : (0:Int) ≤ -x) (by omega : (0:Int) ≤ y)
        omega
      omega
theorem an_remI {x y : Int32} (hy : 1 ≤ y.toInt) : (x - x / y * y).toInt = x.toInt.tmod y.toInt := by
  have hd := an_divI (x := x) hy
  have h1 := an_i32 x
  have h2 := an_i32 y
  have e := Int.mul_tdiv_add_tmod x.toInt y.toInt
  have e2 : x.toInt.tdiv y.toInt * y.toInt = y.toInt * x.toInt.tdiv y.toInt := Int.mul_comm _ _
  have m1 : x.toInt.tmod y.toInt < y.toInt ∧ -y.toInt < x.toInt.tmod y.toInt := ⟨Int.tmod_lt_of_pos _ (by omega), by have := Int.lt_tmod_of_pos x.toInt (by omega : 0 < y.toInt); omega⟩
  have m2 : (0 ≤ x.toInt → 0 ≤ x.toInt.tmod y.toInt) ∧ (x.toInt ≤ 0 → x.toInt.tmod y.toInt ≤ 0) := ⟨fun h => Int.tmod_nonneg _ h, fun h => by have h5 := Int.tmod_nonneg y.toInt (by omega : 0 ≤ -x.toInt); rw [Int.neg_tmod] at h5; omega⟩
  have r : an_MN ≤ x.toInt.tdiv y.toInt * y.toInt ∧ x.toInt.tdiv y.toInt * y.toInt ≤ an_MX := by
    simp only [an_MN, an_MX] at *
    by_cases h0 : 0 ≤ x.toInt
    · have k1 := m2.1 h0
      have k2 : 0 ≤ x.toInt.tdiv y.toInt := by rw [Int.tdiv_eq_ediv_of_nonneg h0]; exact Int.ediv_nonneg h0 (by omega)
      have k3 := Int.mul_nonneg k2 (by omega : 0 ≤ y.toInt)
      omega
    · have k1 := m2.2 (by omega)
      have k2 : 0 ≤ -(x.toInt.tdiv y.toInt) := by
        have e3 : x.toInt.tdiv y.toInt = -((-x.toInt).tdiv y.toInt) := by rw [Int.neg_tdiv]; simp
        rw [e3, Int.tdiv_eq_ediv_of_nonneg (by omega)]
        have := Int.ediv_nonneg (by omega : (0:Int) ≤ -x.toInt) (by omega : (0:Int) ≤ y.toInt)
        omega
      have k3 := Int.mul_nonneg k2 (by omega : 0 ≤ y.toInt)
      rw [Int.neg_mul] at k3
      omega
  have hm : (x / y * y).toInt = x.toInt.tdiv y.toInt * y.toInt := by
    rw [an_mulI (by rw [hd]; exact r.1) (by rw [hd]; exact r.2), hd]
  rw [an_subI (by rw [hm]; simp only [an_MN, an_MX] at *; omega) (by rw [hm]; simp only [an_MN, an_MX] at *; omega), hm]
  omega
theorem an_rem_ok {B : an_B} {M : an_M} {σ : List Int} (hB : an_ok B σ) (hM : an_mok M σ) {e1 e2 : an_E} {x y : Int32} {r : an_B × an_E} (h : an_rem B e1 e2 = some r) (h1 : an_ev σ e1 = some x.toInt) (h2 : an_ev σ e2 = some y.toInt) : 1 ≤ y.toInt ∧ an_res r.1 M r.2 σ (x - x / y * y).toInt := by
  simp only [an_rem] at h
  have l1 := an_lo_ok hB h1
  have u1 := an_hi_ok hB h1
  have l2 := an_lo_ok hB h2
  have u2 := an_hi_ok hB h2
  split at h
  · cases h
  · rename_i hc
    have hy : 1 ≤ y.toInt := by omega
    refine ⟨hy, ?_⟩
    have hL := an_i32L (x - x / y * y)
    have e := an_remI (x := x) hy
    have m1 : x.toInt.tmod y.toInt < y.toInt ∧ -y.toInt < x.toInt.tmod y.toInt := ⟨Int.tmod_lt_of_pos _ (by omega), by have := Int.lt_tmod_of_pos x.toInt (by omega : 0 < y.toInt); omega⟩
    split at h
    · rename_i h0
      cases h
      have k1 : 0 ≤ x.toInt.tmod y.toInt := Int.tmod_nonneg _ (by omega)
      have k2 : x.toInt.tmod y.toInt ≤ x.toInt := by
        rw [Int.tmod_eq_emod_of_nonneg (by omega)]
        have e9 := Int.mul_ediv_add_emod x.toInt y.toInt
        have p9 := Int.mul_nonneg (by omega : 0 ≤ y.toInt) (Int.ediv_nonneg (by omega : 0 ≤ x.toInt) (by omega : 0 ≤ y.toInt))
        omega
      exact an_resN hB hM (by omega) (by omega) hL
    · cases h
      exact an_resN hB hM (by omega) (by omega) hL
theorem an_bit_ok {B : an_B} {M : an_M} {σ : List Int} (hB : an_ok B σ) (hM : an_mok M σ) {e1 e2 : an_E} {x y z : Int32} {i : Instr} (h1 : an_ev σ e1 = some x.toInt) (h2 : an_ev σ e2 = some y.toInt) (hz : am_ib i x y = some z) (hi : i = .iand ∨ i = .ior ∨ i = .ixor ∨ i = .ishl ∨ i = .ishr ∨ i = .iushr) :
    an_res (an_bit i B e1 e2).1 M (an_bit i B e1 e2).2 σ z.toInt := by
  have l1 := an_lo_ok hB h1
  have u1 := an_hi_ok hB h1
  have l2 := an_lo_ok hB h2
  have u2 := an_hi_ok hB h2
  have rx := an_i32 x
  have ry := an_i32 y
  have hL := an_i32L z
  rcases hi with rfl | rfl | rfl | rfl | rfl | rfl
  · simp only [am_ib, Option.some.injEq] at hz
    subst hz
    simp only [an_bit]
    split
    · have a := an_andI (x := x) (y := y) (by omega)
      have b := an_andI (x := y) (y := x) (by omega)
      rw [an_andC y x] at b
      exact an_resN hB hM (by omega) (by omega) hL
    · split
      · have a := an_andI (x := x) (y := y) (by omega)
        exact an_resN hB hM (by omega) (by omega) hL
      · split
        · have b := an_andI (x := y) (y := x) (by omega)
          rw [an_andC y x] at b
          exact an_resN hB hM (by omega) (by omega) hL
        · exact an_resF _ hB hM
  · simp only [am_ib, Option.some.injEq] at hz
    subst hz
    simp only [an_bit]
    split
    · have aL := an_orL (x := x) (y := y) (by omega) (by omega)
      by_cases hb : max (an_hi B e1) (an_hi B e2) < 2147483648
      · have a := (an_orI (x := x) (y := y) (by omega) (by omega) u1 u2 hb).1
        exact an_resN hB hM (by omega) a.2 hL
      · have a : an_pw (max (an_hi B e1) (an_hi B e2)) 31 0 = 2147483648 := an_pwB hb 31 0 rfl
        rw [a]
        have a2 := (an_orI (x := x) (y := y) (b := x.toInt) (d := y.toInt) (by omega) (by omega) (Int.le_refl _) (Int.le_refl _) (by simp only [an_MX] at rx ry; omega)).1
        have a3 := an_i32 (x ||| y)
        simp only [an_MX] at a3
        exact an_resN hB hM (by omega) (by omega) hL
    · exact an_resF _ hB hM
  · simp only [am_ib, Option.some.injEq] at hz
    subst hz
    simp only [an_bit]
    split
    · by_cases hb : max (an_hi B e1) (an_hi B e2) < 2147483648
      · have a := (an_orI (x := x) (y := y) (by omega) (by omega) u1 u2 hb).2
        exact an_resN hB hM a.1 a.2 hL
      · have a : an_pw (max (an_hi B e1) (an_hi B e2)) 31 0 = 2147483648 := an_pwB hb 31 0 rfl
        rw [a]
        have a2 := (an_orI (x := x) (y := y) (b := x.toInt) (d := y.toInt) (by omega) (by omega) (Int.le_refl _) (Int.le_refl _) (by simp only [an_MX] at rx ry; omega)).2
        have a3 := an_i32 (x ^^^ y)
        simp only [an_MX] at a3
        exact an_resN hB hM a2.1 (by omega) hL
    · exact an_resF _ hB hM
  · simp only [am_ib, Option.some.injEq] at hz
    subst hz
    simp only [an_bit]
    split
    · rename_i hc
      obtain ⟨n, rfl, hn, -⟩ := an_nIof (x := y) (by omega)
      have hx : x = 1 := by
        have : x.toInt = (1 : Int32).toInt := by
          have e : (1 : Int32).toInt = 1 := by decide
          omega
        exact Int32.toInt_inj.mp this
      subst hx
      have e := an_shl1 n (by omega)
      rw [e] at hL ⊢
      refine an_resN hB hM ?_ ?_ hL
      · exact an_pmono (by omega)
      · exact an_pmono (by omega)
    · exact an_resF _ hB hM
  · simp only [am_ib, Option.some.injEq] at hz
    subst hz
    simp only [an_bit]
    split
    · rename_i hc
      obtain ⟨n, rfl, hn, -⟩ := an_nIof (x := y) (by omega)
      have e := an_shrI (x := x) (n := n) (by omega)
      have en : (an_lo B e2).toNat = n := by omega
      rw [en]
      have p : (0 : Int) < 2 ^ n := Int.pow_pos (by decide)
      refine an_resN hB hM ?_ ?_ hL
      · rw [e]; exact Int.ediv_le_ediv p l1
      · rw [e]; exact Int.ediv_le_ediv p u1
    · split
      · have a := an_shrA (x := x) (y := y) (by omega)
        exact an_resN hB hM a.1 (by omega) hL
      · exact an_resF _ hB hM
  · simp only [am_ib, Option.some.injEq] at hz
    subst hz
    simp only [an_bit]
    split
    · rename_i hc
      obtain ⟨n, rfl, hn, -⟩ := an_nIof (x := y) (by omega)
      have e := an_ushrI (x := x) (n := n) (by omega) (by omega)
      have en : (an_lo B e2).toNat = n := by omega
      rw [en]
      have p : (0 : Int) < 2 ^ n := Int.pow_pos (by decide)
      refine an_resN hB hM ?_ ?_ hL
      · rw [e]; exact Int.ediv_le_ediv p l1
      · rw [e]; exact Int.ediv_le_ediv p u1
    · split
      · rename_i hc
        obtain ⟨n, rfl, hn, -⟩ := an_nIof (x := y) (by omega)
        have a := an_ushrB (x := x) (n := n) (by omega) (by omega)
        have en : (32 - an_lo B e2).toNat = 32 - n := by omega
        rw [en]
        exact an_resN hB hM a.1 a.2 hL
      · split
        · have a := an_ushrA (x := x) (y := y) (by omega)
          exact an_resN hB hM a.1 (by omega) hL
        · exact an_resF _ hB hM
theorem an_ib_ok {B : an_B} {M : an_M} {σ : List Int} (hB : an_ok B σ) (hM : an_mok M σ) {f1 f2 : an_E} {x y : Int32} {i : Instr} {r : an_B × an_M × an_E} (h : an_ib i B M f1 f2 = some r) (h1 : an_ev σ f1 = some x.toInt) (h2 : an_ev σ f2 = some y.toInt) :
    ∃ z, am_ib i x y = some z ∧ an_res r.1 r.2.1 r.2.2 σ z.toInt := by
  have n1 := an_nrm_ok hB h1
  have n2 := an_nrm_ok hB h2
  simp only [an_ib] at h
  split at h
  · rename_i c d e1 e2
    rw [e1] at n1
    rw [e2] at n2
    simp only [an_ev, Option.some.injEq] at n1 n2
    rw [n1, n2, an_ofT, an_ofT] at h
    split at h
    · rename_i w hw
      cases h
      exact ⟨w, hw, an_resK hB hM rfl⟩
    · cases h
  · have hL := an_i32L
    cases i <;> simp only at h <;> first | (cases h; done) | skip
    case iadd => cases h; exact ⟨_, rfl, an_add_ok hB hM n1 n2⟩
    case isub => cases h; exact ⟨_, rfl, an_sub_ok hB hM n1 n2⟩
    case imul => cases h; exact ⟨_, rfl, an_mul_ok hB hM n1 n2 (an_i32 _) (hL _) (fun a b => an_mulI a b)⟩
    case idiv =>
      split at h
      · rename_i q hq
        cases h
        obtain ⟨a, b⟩ := an_div_ok hB hM hq n1 n2 (hL x)
        have hy : ¬ y = 0 := by rintro rfl; exact absurd a (by decide)
        exact ⟨x / y, by simp only [am_ib, if_neg hy], by rw [an_divI a]; exact b⟩
      · cases h
    case irem =>
      split at h
      · rename_i q hq
        cases h
        obtain ⟨a, b⟩ := an_rem_ok hB hM hq n1 n2
        have hy : ¬ y = 0 := by rintro rfl; exact absurd a (by decide)
        exact ⟨x - x / y * y, by simp only [am_ib, if_neg hy], b⟩
      · cases h
    case iand => cases h; exact ⟨_, rfl, an_bit_ok hB hM n1 n2 rfl (by simp)⟩
    case ior => cases h; exact ⟨_, rfl, an_bit_ok hB hM n1 n2 rfl (by simp)⟩
    case ixor => cases h; exact ⟨_, rfl, an_bit_ok hB hM n1 n2 rfl (by simp)⟩
    case ishl => cases h; exact ⟨_, rfl, an_bit_ok hB hM n1 n2 rfl (by simp)⟩
    case ishr => cases h; exact ⟨_, rfl, an_bit_ok hB hM n1 n2 rfl (by simp)⟩
    case iushr => cases h; exact ⟨_, rfl, an_bit_ok hB hM n1 n2 rfl (by simp)⟩
theorem an_addL {x y : Int64} (h1 : an_LN ≤ x.toInt + y.toInt) (h2 : x.toInt + y.toInt ≤ an_LX) : (x + y).toInt = x.toInt + y.toInt := by rw [Int64.toInt_add, an_bm64 h1 h2]
theorem an_subL {x y : Int64} (h1 : an_LN ≤ x.toInt - y.toInt) (h2 : x.toInt - y.toInt ≤ an_LX) : (x - y).toInt = x.toInt - y.toInt := by rw [Int64.toInt_sub, an_bm64 h1 h2]
theorem an_mulL {x y : Int64} (h1 : an_LN ≤ x.toInt * y.toInt) (h2 : x.toInt * y.toInt ≤ an_LX) : (x * y).toInt = x.toInt * y.toInt := by rw [Int64.toInt_mul, an_bm64 h1 h2]
theorem an_lb_ok {B : an_B} {M : an_M} {σ : List Int} (hB : an_ok B σ) (hM : an_mok M σ) {f1 f2 : an_E} {x y : Int64} {i : Instr} {r : an_B × an_E} (h : an_lb i B f1 f2 = some r) (h1 : an_ev σ f1 = some x.toInt) (h2 : an_ev σ f2 = some y.toInt) :
    ∃ z, am_lb i x y = some z ∧ an_res r.1 M r.2 σ z.toInt := by
  have l1 := an_lo_ok hB h1
  have u1 := an_hi_ok hB h1
  have l2 := an_lo_ok hB h2
  have u2 := an_hi_ok hB h2
  cases i <;> simp only [an_lb] at h <;> first | (cases h; done) | skip
  case ladd => cases h; exact ⟨_, rfl, an_rng_ok (v := x.toInt + y.toInt) hB hM (an_i64 _) (an_i64 _) ⟨by omega, by omega⟩ (fun a b => an_addL a b)⟩
  case lsub => cases h; exact ⟨_, rfl, an_rng_ok (v := x.toInt - y.toInt) hB hM (an_i64 _) (an_i64 _) ⟨by omega, by omega⟩ (fun a b => an_subL a b)⟩
  case lmul => cases h; exact ⟨_, rfl, an_mul_ok hB hM h1 h2 (an_i64 _) (an_i64 _) (fun a b => an_mulL a b)⟩
  case ldiv =>
    obtain ⟨a, b⟩ := an_div_ok hB hM h h1 h2 (an_i64 x)
    have hy : ¬ y = 0 := by rintro rfl; exact absurd a (by decide)
    exact ⟨x / y, by simp only [am_lb, if_neg hy], by rw [an_divL a]; exact b⟩
theorem an_shl_ok {B : an_B} {M : an_M} {σ : List Int} (hB : an_ok B σ) (hM : an_mok M σ) {f1 f2 : an_E} {x : Int64} {y : Int32} (h1 : an_ev σ f1 = some x.toInt) (h2 : an_ev σ f2 = some y.toInt) : an_res (an_shl B f1 f2).1 M (an_shl B f1 f2).2 σ (x <<< (y.toInt64 &&& 63)).toInt := by
  have l1 := an_lo_ok hB h1
  have u1 := an_hi_ok hB h1
  have l2 := an_lo_ok hB h2
  have u2 := an_hi_ok hB h2
  simp only [an_shl]
  split
  · rename_i hc
    obtain ⟨n, rfl, hn, -⟩ := an_nIof (x := y) (by omega)
    have hx : x = 1 := by
      have : x.toInt = (1 : Int64).toInt := by
        have e : (1 : Int64).toInt = 1 := by decide
        omega
      exact Int64.toInt_inj.mp this
    subst hx
    have e := an_shl1L n (by omega)
    have hL := an_i64 ((1 : Int64) <<< ((nI n).toInt64 &&& 63))
    rw [e] at hL ⊢
    exact an_resN hB hM (an_pmono (by omega)) (an_pmono (by omega)) hL
  · exact an_resN hB hM (an_i64 _).1 (an_i64 _).2 (an_i64 _)
