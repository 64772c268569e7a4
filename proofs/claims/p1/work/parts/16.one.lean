/-! ONE INSTRUCTION: where the checker goes on, the abstract machine may. -/
def an_Ook (O : am_O) : Prop := (∀ j, j < 3 → (an_OL j).1 ≤ ((O j).2.1 : Int) ∧ ((O j).2.1 : Int) ≤ (an_OL j).2 ∧ (O j).2.1 < 2147483648) ∧ ∀ c i : Nat, (O (c + 5)).2.2 i = rt_a (Int32.ofNat i) (Int32.ofInt ((c : Int) - 1))
/-- the types of a kind's fields are those of its class -/
def an_tyc (ty : FieldType) (t : an_Ty) : Bool := match ty, t with
  | .int, (0, _, _) => true
  | .boolean, (0, lo, hi) => decide (0 ≤ lo) && decide (hi ≤ 1)
  | .object _, (1, _, _) => true
  | .object _, (2, _, _) => true
  | .array _, (1, _, _) => true
  | .array _, (2, _, _) => true
  | _, _ => false
theorem an_kok : ∀ kd, kd < an_KT.length → (match an_ki kd with
  | (0, ci, tys, _) => decide (tys.length = (am_T.getD ci []).length) && (decide (tys.length < 1000) && (List.range tys.length).all (fun k => an_tyc (am_ty ci k) (tys.getD k (9, 0, 0))))
  | (1, _, _, _, _, (t0, _, _)) => t0 == 0
  | (2, _, _, _, _, (t0, _, _)) => t0 == 3
  | _ => true) = true := by decide +kernel
theorem an_ki_lt {kd : Nat} (h : (an_ki kd).1 ≠ 9) : kd < an_KT.length := by
  by_cases hk : kd < an_KT.length
  · exact hk
  · exfalso
    apply h
    simp only [an_ki, List.getD_eq_getElem?_getD, List.getElem?_eq_none (Nat.le_of_not_lt hk)]
    rfl
theorem an_fitI (ci k : Nat) (x : Int32) (h : am_ty ci k = .int) : am_fit ci k (.int x) = true := by
  simp [am_fit, h, fits, narrow]
theorem an_rf_fit {ci k : Nat} {x : Option Nat} (h : (∃ n, am_ty ci k = .object n) ∨ ∃ t, am_ty ci k = .array t) : am_fit ci k (va_rf x) = true := by
  rcases h with ⟨n, h⟩ | ⟨t, h⟩ <;> cases x <;> simp [am_fit, h, fits, narrow, va_rf]
theorem an_fitOf {κ : an_Ka} {ci k : Nat} {t : an_Ty} {w : Value} (ht : an_tyc (am_ty ci k) t = true) (hw : an_vt κ t w) : am_fit ci k w = true := by
  obtain ⟨t0, t1, t2⟩ := t
  cases hty : am_ty ci k <;> rw [hty] at ht
  case int =>
    match t0, ht, hw with
    | 0, ht, hw => obtain ⟨x, rfl, -⟩ := hw; exact an_fitI ci k x hty
    | n + 1, ht, hw => simp [an_tyc] at ht
  case boolean =>
    match t0, ht, hw with
    | 0, ht, hw =>
      obtain ⟨x, rfl, h1, h2⟩ := hw
      simp only [an_tyc, Bool.and_eq_true, decide_eq_true_eq] at ht
      have hx : x = 0 ∨ x = 1 := by
        have e0 : (0 : Int32).toInt = 0 := by decide
        have e1 : (1 : Int32).toInt = 1 := by decide
        by_cases h0 : x.toInt = 0
        · exact Or.inl (Int32.toInt_inj.mp (by omega))
        · exact Or.inr (Int32.toInt_inj.mp (by omega))
      rcases hx with rfl | rfl <;> simp [am_fit, hty] <;> decide
    | n + 1, ht, hw => simp [an_tyc] at ht
  case object s =>
    match t0, ht, hw with
    | 1, ht, hw => obtain ⟨a, rfl, -⟩ := hw; exact an_rf_fit (x := some a) (Or.inl ⟨_, hty⟩)
    | 2, ht, hw => obtain ⟨x, rfl⟩ := hw; exact an_rf_fit (Or.inl ⟨_, hty⟩)
    | 0, ht, hw => simp [an_tyc] at ht
    | n + 3, ht, hw => simp [an_tyc] at ht
  case array s =>
    match t0, ht, hw with
    | 1, ht, hw => obtain ⟨a, rfl, -⟩ := hw; exact an_rf_fit (x := some a) (Or.inr ⟨_, hty⟩)
    | 2, ht, hw => obtain ⟨x, rfl⟩ := hw; exact an_rf_fit (Or.inr ⟨_, hty⟩)
    | 0, ht, hw => simp [an_tyc] at ht
    | n + 3, ht, hw => simp [an_tyc] at ht
  all_goals (simp [an_tyc] at ht)
theorem an_obj {μ : an_Mu} {a ci n : Nat} (h : (μ a).map an_sh = some (.inl (ci, n))) : ∃ fs, μ a = some (.inr (ci, fs)) ∧ fs.length = n := by
  cases hm : μ a with
  | none => rw [hm] at h; cases h
  | some e =>
    rw [hm] at h
    simp only [Option.map_some, Option.some.injEq] at h
    rcases e with ⟨c, m, z⟩ | ⟨c, fs⟩
    · rcases z with z | z | z | z | z <;> simp [an_sh] at h
    · simp only [an_sh, Sum.inl.injEq, Prod.mk.injEq] at h
      exact ⟨fs, by rw [h.1], h.2⟩
theorem an_row0 {μ : an_Mu} {a n : Nat} {c : ClassId} (h : (μ a).map an_sh = some (.inr (c, n, 0))) : ∃ f, μ a = some (.inl (c, n, .inl f)) := by
  cases hm : μ a with
  | none => rw [hm] at h; cases h
  | some e =>
    rw [hm] at h
    simp only [Option.map_some, Option.some.injEq] at h
    rcases e with ⟨c2, m, z⟩ | ⟨c2, fs⟩
    · rcases z with z | z | z | z | z <;> simp [an_sh] at h
      exact ⟨z, by rw [h.1, h.2]⟩
    · simp [an_sh] at h
theorem an_row1 {μ : an_Mu} {a n : Nat} {c : ClassId} (h : (μ a).map an_sh = some (.inr (c, n, 1))) : ∃ f, μ a = some (.inl (c, n, .inr (.inl f))) := by
  cases hm : μ a with
  | none => rw [hm] at h; cases h
  | some e =>
    rw [hm] at h
    simp only [Option.map_some, Option.some.injEq] at h
    rcases e with ⟨c2, m, z⟩ | ⟨c2, fs⟩
    · rcases z with z | z | z | z | z <;> simp [an_sh] at h
      exact ⟨z, by rw [h.1, h.2]⟩
    · simp [an_sh] at h
theorem an_row4 {μ : an_Mu} {a n : Nat} {c : ClassId} (h : (μ a).map an_sh = some (.inr (c, n, 4))) : ∃ f, μ a = some (.inl (c, n, .inr (.inr (.inr (.inr f))))) := by
  cases hm : μ a with
  | none => rw [hm] at h; cases h
  | some e =>
    rw [hm] at h
    simp only [Option.map_some, Option.some.injEq] at h
    rcases e with ⟨c2, m, z⟩ | ⟨c2, fs⟩
    · rcases z with z | z | z | z | z <;> simp [an_sh] at h
      exact ⟨z, by rw [h.1, h.2]⟩
    · simp [an_sh] at h
/-- the named length is the row's -/
theorem an_len_ok {O : am_O} {X : Nat → ClassId} {σ : List Int} {ρ : List Nat} {κ : an_Ka} {μ : an_Mu} {S : an_S} (h : an_g O X σ ρ κ μ S) {r a n : Nat} {c : ClassId} {t : Nat} (hr : ρ[r]? = some a) (hs : (μ a).map an_sh = some (.inr (c, n, t))) {v : an_V} (hv : an_tget S.2.2.2 r 1001 (0, 0) = some v) : an_gv O σ ρ v (.int (Int32.ofNat n)) := by
  rcases h.2.2.2.2 _ (an_tget_mem hv) with ⟨h1, -⟩ | ⟨-, b, kd, j, w, e1, e2, e3, e4, e5⟩ | ⟨h1, -⟩
  · simp at h1
  rotate_left
  · simp at h1
  · simp only at e1 e3 e4 e5
    rw [an_rp_ne (by decide)] at e4
    cases Option.some.inj (e1.symm.trans hr)
    simp only [an_ev, Option.some.injEq] at e3
    have hj : j = 0 := by omega
    subst hj
    cases hm : μ a with
    | none => rw [hm] at hs; cases hs
    | some e =>
      rw [hm] at hs
      simp only [Option.map_some, Option.some.injEq] at hs
      rcases e with ⟨c2, m, z⟩ | ⟨c2, fs⟩
      · have hmn : m = n := by rcases z with z | z | z | z | z <;> simp [an_sh] at hs <;> exact hs.2.1
        subst hmn
        simp only [an_rd, hm, Option.bind_some, an_rde] at e4
        simp at e4
        rw [e4]
        exact e5
      · simp [an_sh] at hs
theorem an_ofNat {n : Nat} (h : n < 2147483648) : (Int32.ofNat n).toInt = (n : Int) := by
  have e : (Int32.ofNat n).toBitVec.toNat = n := by
    show (BitVec.ofNat 32 n).toNat = n
    rw [BitVec.toNat_ofNat, Nat.mod_eq_of_lt (by omega)]
  exact an_ofnn e h
theorem an_inb_ok {O : am_O} {X : Nat → ClassId} {σ : List Int} {ρ : List Nat} {κ : an_Ka} {μ : an_Mu} {S : an_S} (h : an_g O X σ ρ κ μ S) {r a n : Nat} {c : ClassId} {t : Nat} {e : an_E} {x : Int32} (hb : an_inb S r e = true) (hr : ρ[r]? = some a) (hs : (μ a).map an_sh = some (.inr (c, n, t))) (hn : n < 2147483648) (hlo : (an_ki (an_rk S r)).2.2.2.1 ≤ (n : Int)) (hx : an_ev σ e = some x.toInt) :
    vp_in x n ∧ an_ev σ e = some ((x.toNatClampNeg : Nat) : Int) ∧ x.toNatClampNeg < n := by
  simp only [an_inb, Bool.and_eq_true, Bool.or_eq_true, decide_eq_true_eq] at hb
  obtain ⟨h1, h2⟩ := hb
  have l := an_lo_ok h.1 hx
  have u := an_hi_ok h.1 hx
  have hin : x.toInt < n := by
    rcases h2 with h2 | h2
    · omega
    · split at h2
      · rename_i nE f hv
        obtain ⟨y, hy, hy2⟩ := an_len_ok h hr hs hv
        cases hy
        rw [an_ofNat hn] at hy2
        have := an_ub_ok h.1 hx hy2
        simp only [decide_eq_true_eq] at h2
        omega
      · cases h2
  have hc : ((x.toNatClampNeg : Nat) : Int) = x.toInt := by
    show ((x.toInt.toNat : Nat) : Int) = x.toInt
    omega
  exact ⟨vp_in_iff.mpr ⟨by omega, hin⟩, by rw [hc]; exact hx, by omega⟩
theorem an_lget_mem {L : an_L} {i : Nat} {v : an_V} (h : an_lget L i = some v) : (i, v) ∈ L := by
  induction L with
  | nil => cases h
  | cons p L ih =>
    simp only [an_lget, Bool.cond_eq_ite, an_nbq] at h
    split at h
    · rename_i hb
      rw [beq_iff_eq] at hb
      cases h
      rw [← hb]
      exact List.mem_cons_self
    · exact List.mem_cons_of_mem _ (ih h)
theorem an_lok.get {O : am_O} {σ : List Int} {ρ : List Nat} {L : an_L} {l : am_L} (h : an_lok O σ ρ L l) {i : Nat} {v : an_V} (hv : an_lget L i = some v) : ∃ w, (i, w) ∈ l ∧ an_gv O σ ρ v w := h _ (an_lget_mem hv)
/-- the width of a value -/
theorem an_gv.cat {O : am_O} {σ : List Int} {ρ : List Nat} {v : an_V} {w : Value} (h : an_gv O σ ρ v w) : w.category = an_cat v := by
  obtain ⟨t, e, f⟩ := v
  match t, h with
  | 0, h => obtain ⟨x, rfl, -⟩ := h; rfl
  | 1, h => obtain ⟨x, rfl, -⟩ := h; rfl
  | 2, h => obtain ⟨x, rfl, -⟩ := h; rfl
  | 3, h => obtain ⟨x, rfl⟩ := h; cases x <;> rfl
  | 4, h => obtain ⟨x, y, rfl, -⟩ := h; rfl
  | 5, h => cases h; rfl
  | n + 6, h => exact h.elim
theorem an_catB {v : an_V} : (v.1 == 1) = decide (an_cat v = 2) := by
  simp only [an_cat]
  split
  · rename_i h; rw [h]; rfl
  · rename_i h; simp only [Bool.not_eq_true] at h; rw [h]; rfl
theorem an_lok.put {O : am_O} {σ : List Int} {ρ : List Nat} {L : an_L} {l : am_L} (h : an_lok O σ ρ L l) {i : Nat} {v : an_V} {w : Value} (hv : an_gv O σ ρ v w) : an_lok O σ ρ (an_lput L i v) (am_put1 l i w) := by
  intro q hq
  rcases List.mem_cons.mp hq with rfl | hq
  · exact ⟨w, List.mem_cons_self, hv⟩
  · rw [List.mem_filter] at hq
    obtain ⟨hq, hc⟩ := hq
    obtain ⟨u, h1, h2⟩ := h q hq
    refine ⟨u, List.mem_cons_of_mem _ (List.mem_filter.mpr ⟨h1, ?_⟩), h2⟩
    have hcat := h2.cat
    simp only [an_catB] at hc
    simp only [hcat]
    exact hc
theorem an_lok.put2 {O : am_O} {σ : List Int} {ρ : List Nat} {L : an_L} {l : am_L} (h : an_lok O σ ρ L l) {i : Nat} {v : an_V} {w : Value} (hv : an_gv O σ ρ v w) : an_lok O σ ρ (an_lput2 L i v) (am_put2 l i w) := by
  intro q hq
  rcases List.mem_cons.mp hq with rfl | hq
  · exact ⟨w, List.mem_cons_self, hv⟩
  · rw [List.mem_filter] at hq
    obtain ⟨hq, hc⟩ := hq
    obtain ⟨u, h1, h2⟩ := h q hq
    refine ⟨u, List.mem_cons_of_mem _ (List.mem_filter.mpr ⟨h1, ?_⟩), h2⟩
    have hcat := h2.cat
    simp only [an_catB] at hc
    simp only [hcat]
    exact hc
theorem an_sok.cons {O : am_O} {σ : List Int} {ρ : List Nat} {v : an_V} {st : List an_V} {stc : List Value} (h : an_sok O σ ρ (v :: st) stc) : ∃ w r, stc = w :: r ∧ an_gv O σ ρ v w ∧ an_sok O σ ρ st r := by
  cases stc with
  | nil => exact h.elim
  | cons w r => exact ⟨w, r, rfl, h.1, h.2⟩
theorem an_sok.nil {O : am_O} {σ : List Int} {ρ : List Nat} {stc : List Value} (h : an_sok O σ ρ [] stc) : stc = [] := by
  cases stc with
  | nil => rfl
  | cons w r => exact h.elim
theorem an_sok.wt {O : am_O} {σ : List Int} {ρ : List Nat} : ∀ {st : List an_V} {stc : List Value}, an_sok O σ ρ st stc → am_wt stc = an_wt st := by
  intro st
  induction st with
  | nil => intro stc h; rw [h.nil]; rfl
  | cons v st ih =>
    intro stc h
    obtain ⟨w, r, rfl, h1, h2⟩ := h.cons
    have e := ih h2
    simp only [am_wt, List.map_cons, List.sum_cons, an_wt] at e ⊢
    rw [e, h1.cat]
/-- where it goes on -/
abbrev an_Go (O : am_O) (X : Nat → ClassId) (G : an_G) (dk ds : Nat) (σ : List Int) (ρ : List Nat) (its : List an_It) (K : am_K) : Prop :=
  ∀ it ∈ its, ∀ (σ2 : List Int) (ρ2 : List Nat) (κ2 : an_Ka) (l2 : am_L) (st2 : List Value) (k2 sl2 : Nat) (ws2 : va_W), an_px σ σ2 → an_pr ρ ρ2 → an_icf O X G dk ds it σ2 ρ2 κ2 l2 st2 k2 sl2 ws2 → K it.1 l2 st2 k2 sl2 ws2
section AN1
variable {O : am_O} {X : Nat → ClassId} {G : an_G} {dk ds : Nat} {σ : List Int} {ρ : List Nat} {κ : an_Ka} {l : am_L} {stc : List Value} {k sl kA sA : Nat} {ws : va_W} {L : an_L} {st : List an_V} {S : an_S} {its : List an_It} {K : am_K}
/-- one way on -/
theorem an_go1 {pc : Nat} {L2 : an_L} {st2 : List an_V} {k2 s2 : Nat} {S2 : an_S} (h : an_it pc L2 st2 k2 s2 S2 = some its) (hK : an_Go O X G dk ds σ ρ its K) {σ2 : List Int} {ρ2 : List Nat} {κ2 : an_Ka} {l2 : am_L} {stc2 : List Value} {kc sc : Nat} {ws2 : va_W}
    (h1 : an_px σ σ2) (h2 : an_pr ρ ρ2) (h3 : an_icf O X G dk ds (pc, L2, st2, k2, s2, S2) σ2 ρ2 κ2 l2 stc2 kc sc ws2) : K pc l2 stc2 kc sc ws2 := by
  simp only [an_it, Option.some.injEq] at h
  subst h
  exact hK _ List.mem_cons_self σ2 ρ2 κ2 l2 stc2 kc sc ws2 h1 h2 h3
/-- the stack alone changes -/
theorem an_goS {pc : Nat} {st2 : List an_V} {stc2 : List Value} (hc : an_icf O X G dk ds (0, L, st, kA, sA, S) σ ρ κ l stc k sl ws) (h : an_it pc L st2 kA sA S = some its) (hK : an_Go O X G dk ds σ ρ its K) (hs : an_sok O σ ρ st2 stc2) : K pc l stc2 k sl ws :=
  an_go1 h hK an_px.rf an_pr.rf ⟨hc.1, hc.2.1, hs, hc.2.2.2⟩
/-- a number is new -/
theorem an_goN {pc : Nat} {B : an_B} {M : an_M} {e : an_E} {x : Int32} {st2 : List an_V} {stc2 : List Value} (hc : an_icf O X G dk ds (0, L, st, kA, sA, S) σ ρ κ l stc k sl ws) (hr : an_res B M e σ x.toInt) (h : an_it pc L ((0, e, (0, 0)) :: st2) kA sA (B, M, S.2.2) = some its) (hK : an_Go O X G dk ds σ ρ its K) (hs : an_sok O σ ρ st2 stc2) : K pc l (.int x :: stc2) k sl ws := by
  obtain ⟨σ2, a, b, c, d⟩ := hr
  exact an_go1 h hK a an_pr.rf ⟨hc.1.num a b c, hc.2.1.px a an_pr.rf, ⟨⟨x, rfl, d⟩, hs.px a an_pr.rf⟩, hc.2.2.2⟩
theorem an_goL {pc : Nat} {B : an_B} {e : an_E} {x : Int64} {st2 : List an_V} {stc2 : List Value} (hc : an_icf O X G dk ds (0, L, st, kA, sA, S) σ ρ κ l stc k sl ws) (hr : an_res B S.2.1 e σ x.toInt) (h : an_it pc L ((1, e, (0, 0)) :: st2) kA sA (B, S.2) = some its) (hK : an_Go O X G dk ds σ ρ its K) (hs : an_sok O σ ρ st2 stc2) : K pc l (.long x :: stc2) k sl ws := by
  obtain ⟨σ2, a, b, c, d⟩ := hr
  exact an_go1 h hK a an_pr.rf ⟨hc.1.num a b c, hc.2.1.px a an_pr.rf, ⟨⟨x, rfl, d⟩, hs.px a an_pr.rf⟩, hc.2.2.2⟩
theorem an_cI_lt {c : ClassFile.Cond} {x y : Int32} : am_c c x y ↔ an_cI c x.toInt y.toInt := by
  cases c <;> simp only [am_c, an_cI, Int32.toInt_inj, Int32.lt_iff_toInt_lt, Int32.le_iff_toInt_le, ne_eq]
theorem an_br_ok {c : ClassFile.Cond} {e1 e2 : an_E} {x y : Int} {ta tb : Nat} (hc : an_icf O X G dk ds (0, L, st, kA, sA, S) σ ρ κ l stc k sl ws) (h1 : an_ev σ e1 = some x) (h2 : an_ev σ e2 = some y) {st2 : List an_V} {stc2 : List Value} (hs : an_sok O σ ρ st2 stc2)
    (hK : an_Go O X G dk ds σ ρ (an_br S.1 c e1 e2 (fun B => (ta, L, st2, kA, sA, (B, S.2))) (fun B => (tb, L, st2, kA, sA, (B, S.2)))) K) : (an_cI c x y → K ta l stc2 k sl ws) ∧ (¬ an_cI c x y → K tb l stc2 k sl ws) := by
  have g := hc.1.2.1
  constructor
  · intro hcc
    obtain ⟨B1, e, hB⟩ := an_asm_ok g.1 h1 h2 hcc
    refine hK (ta, L, st2, kA, sA, (B1, S.2)) ?_ σ ρ κ l stc2 k sl ws an_px.rf an_pr.rf ⟨hc.1.num an_px.rf hB g.2.1, hc.2.1, hs, hc.2.2.2⟩
    unfold an_br
    rw [e]
    cases an_asm S.1 (an_not c) e1 e2 <;> simp
  · intro hcc
    obtain ⟨B1, e, hB⟩ := an_asm_ok g.1 h1 h2 (an_not_ok hcc)
    refine hK (tb, L, st2, kA, sA, (B1, S.2)) ?_ σ ρ κ l stc2 k sl ws an_px.rf an_pr.rf ⟨hc.1.num an_px.rf hB g.2.1, hc.2.1, hs, hc.2.2.2⟩
    unfold an_br
    rw [e]
    cases an_asm S.1 c e1 e2 <;> simp
theorem an_cmp_lt {c : ClassFile.Cond} {x y : Int64} : am_c c (lg_cmp x y) 0 ↔ an_cI c x.toInt y.toInt := by
  have h1 : (x > y) ↔ y.toInt < x.toInt := Int64.lt_iff_toInt_lt
  have h2 : (x = y) ↔ x.toInt = y.toInt := Int64.toInt_inj.symm
  simp only [lg_cmp]
  by_cases a : x > y
  · rw [if_pos a]
    have := h1.mp a
    cases c <;> simp only [am_c, an_cI] <;> constructor <;> intro h <;> first | omega | decide | exact absurd h (by decide)
  · rw [if_neg a]
    by_cases b : x = y
    · rw [if_pos b]
      have := h2.mp b
      cases c <;> simp only [am_c, an_cI] <;> constructor <;> intro h <;> first | omega | decide | exact absurd h (by decide)
    · rw [if_neg b]
      have q1 : ¬ y.toInt < x.toInt := fun h => a (h1.mpr h)
      have q2 : ¬ x.toInt = y.toInt := fun h => b (h2.mpr h)
      cases c <;> simp only [am_c, an_cI] <;> constructor <;> intro h <;> first | omega | decide | exact absurd h (by decide)
end AN1
