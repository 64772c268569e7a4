/-! ENDS AND CALLS. -/
theorem an_fin_ok {O : am_O} {X : Nat → ClassId} {m pc : Nat} {i : Instr} {ra rb inf : Nat} {L : an_L} {st : List an_V} {kA sA : Nat} {S : an_S} {xs : List an_X} (h : an_fin m i inf L st kA sA S = some xs) {G : an_G} {dk ds : Nat} {σ : List Int} {ρ : List Nat} {κ : an_Ka} {l : am_L} {stc : List Value} {k sl : Nat} {ws : va_W} {Q : am_Q} {K : am_K} {Cl : Nat → List Value → va_W → am_Q → Prop}
    (hc : an_icf O X G dk ds (0, L, st, kA, sA, S) σ ρ κ l stc k sl ws) (hQ : ∀ x ∈ xs, ∀ r w, an_xok O X G σ ρ x r w → Q r w) : am_step O X K Cl Q m pc i ra rb l stc k sl ws := by
  have hk := hc.2.2.2
  simp only at hk
  have hg : an_g O X σ ρ κ (an_at ws) S := hc.1.2.1
  have hs : an_sok O σ ρ st stc := hc.2.2.1
  unfold an_fin at h
  split at h
  · rename_i hks
    split at h
    · split at h
      · rename_i x _
        obtain ⟨w, rc, rfl, h1, h2⟩ := hs.cons
        have := h2.nil
        subst this
        obtain ⟨y, rfl, hy⟩ := h1
        split at h
        · rename_i hr
          cases h
          refine ⟨y, rfl, ?_, by omega, by omega, hQ _ List.mem_cons_self _ _ ⟨σ, ρ, κ, an_px.rf, an_pr.rf, hc.1, _, rfl, y, rfl, an_nrm_ok hg.1 hy⟩⟩
          rcases hr with hr | ⟨hr, h3, h4⟩
          · exact Or.inl hr
          · refine Or.inr ⟨hr, ?_⟩
            have a := an_lo_ok hg.1 hy
            have b := an_hi_ok hg.1 hy
            have : y.toInt = 0 ∨ y.toInt = 1 := by omega
            rcases this with q | q
            · exact Or.inl (Int32.toInt_inj.mp (by rw [q]; rfl))
            · exact Or.inr (Int32.toInt_inj.mp (by rw [q]; rfl))
        · cases h
      · rename_i x y
        obtain ⟨w, rc, rfl, h1, h2⟩ := hs.cons
        have := h2.nil
        subst this
        obtain ⟨u, v, rfl, hu, hv⟩ := h1
        split at h
        · rename_i hr
          cases h
          exact ⟨_, rfl, Or.inl hr, by omega, by omega, hQ _ List.mem_cons_self _ _ ⟨σ, ρ, κ, an_px.rf, an_pr.rf, hc.1, _, rfl, u, v, rfl, hu, hv⟩⟩
        · cases h
      · cases h
    · split at h
      · rename_i x f
        obtain ⟨w, rc, rfl, h1, h2⟩ := hs.cons
        have := h2.nil
        subst this
        obtain ⟨a, rfl, ha⟩ := h1
        split at h
        · rename_i hr
          cases h
          exact ⟨some a, rfl, hr, by omega, by omega, hQ _ List.mem_cons_self _ _ ⟨σ, ρ, κ, an_px.rf, an_pr.rf, hc.1, _, rfl, a, rfl, ha⟩⟩
        · cases h
      · cases h
    · split at h
      · have := hs.nil
        subst this
        split at h
        · rename_i hr
          split at h
          · cases h
            exact ⟨rfl, hr, by omega, by omega, hQ _ List.mem_cons_self _ _ ⟨σ, ρ, κ, an_px.rf, an_pr.rf, hc.1, rfl⟩⟩
          · rename_i p
            split at h
            · rename_i S1 hp
              cases h
              obtain ⟨κ2, h2⟩ := an_prm_ok hc.1 hc.2.1 (an_pmN p) hp
              exact ⟨rfl, hr, by omega, by omega, hQ _ List.mem_cons_self _ _ ⟨σ, ρ, κ2, an_px.rf, an_pr.rf, h2, rfl⟩⟩
            · cases h
        · cases h
      · cases h
    · cases h
  · cases h
theorem an_sok.len {O : am_O} {σ : List Int} {ρ : List Nat} : ∀ {st : List an_V} {stc : List Value}, an_sok O σ ρ st stc → stc.length = st.length := by
  intro st
  induction st with
  | nil => intro stc h; rw [h.nil]; rfl
  | cons v st ih =>
    intro stc h
    obtain ⟨w, r, rfl, h1, h2⟩ := h.cons
    simp [ih h2]
theorem an_sok.app {O : am_O} {σ : List Int} {ρ : List Nat} : ∀ {a b : List an_V} {c d : List Value}, an_sok O σ ρ a c → an_sok O σ ρ b d → an_sok O σ ρ (a ++ b) (c ++ d) := by
  intro a
  induction a with
  | nil => intro b c d h1 h2; rw [h1.nil]; exact h2
  | cons v a ih =>
    intro b c d h1 h2
    obtain ⟨w, r, rfl, h3, h4⟩ := h1.cons
    exact ⟨h3, ih h4 h2⟩
theorem an_sok.cut {O : am_O} {σ : List Int} {ρ : List Nat} : ∀ {n : Nat} {st : List an_V} {stc : List Value}, an_sok O σ ρ st stc → an_sok O σ ρ (st.take n) (stc.take n) ∧ an_sok O σ ρ (st.drop n) (stc.drop n) := by
  intro n
  induction n with
  | zero => intro st stc h; exact ⟨trivial, h⟩
  | succ n ih =>
    intro st stc h
    cases st with
    | nil => rw [h.nil]; exact ⟨trivial, trivial⟩
    | cons v st =>
      obtain ⟨w, r, rfl, h3, h4⟩ := h.cons
      exact ⟨⟨h3, (ih h4).1⟩, (ih h4).2⟩
theorem an_sok.rev {O : am_O} {σ : List Int} {ρ : List Nat} : ∀ {a : List an_V} {c : List Value}, an_sok O σ ρ a c → an_sok O σ ρ a.reverse c.reverse := by
  intro a
  induction a with
  | nil => intro c h; rw [h.nil]; exact trivial
  | cons v a ih =>
    intro c h
    obtain ⟨w, r, rfl, h3, h4⟩ := h.cons
    rw [List.reverse_cons, List.reverse_cons]
    exact (ih h4).app ⟨h3, trivial⟩
theorem an_args_ok {O : am_O} {σ : List Int} {ρ : List Nat} : ∀ {as : List an_V} {asc : List Value} (j : Nat), an_sok O σ ρ as asc → an_lok O σ ρ (an_args j as) (lv_args j asc) := by
  intro as
  induction as with
  | nil => intro asc j h q hq; cases hq
  | cons v as ih =>
    intro asc j h q hq
    obtain ⟨w, r, rfl, h3, h4⟩ := h.cons
    rcases List.mem_cons.mp hq with rfl | hq
    · exact ⟨w, List.mem_cons_self, h3⟩
    · have hcat := h3.cat
      have e : (if w.category = 2 then j + 2 else j + 1) = j + an_cat v := by
        rw [hcat]
        simp only [an_cat]
        split <;> simp
      obtain ⟨w2, a1, a2⟩ := ih (j + an_cat v) h4 q hq
      refine ⟨w2, ?_, a2⟩
      simp only [lv_args]
      rw [e]
      exact List.mem_cons_of_mem _ a1
theorem an_sls_ok {O : am_O} {σ : List Int} {ρ : List Nat} : ∀ {as : List an_V} {asc : List Value}, an_sok O σ ρ as asc → (lg_sl asc).length = an_sls as := by
  intro as
  induction as with
  | nil => intro asc h; rw [h.nil]; rfl
  | cons v as ih =>
    intro asc h
    obtain ⟨w, r, rfl, h3, h4⟩ := h.cons
    have hcat := h3.cat
    have e := ih h4
    simp only [lg_sl, List.flatMap_cons, List.length_append, an_sls] at e ⊢
    rw [e]
    congr 1
    rw [hcat]
    simp only [an_cat]
    split <;> simp
/-! by contract -/
theorem an_fits_ok {O : am_O} {X : Nat → ClassId} {σ : List Int} {ρ : List Nat} {κ : an_Ka} {μ : an_Mu} {S : an_S} (h : an_g O X σ ρ κ μ S) : ∀ {as : List an_V} {ts : List an_Ty} {asc : List Value}, an_sok O σ ρ as asc → an_fits S as ts = true → an_vts κ ts asc := by
  intro as
  induction as with
  | nil =>
    intro ts asc hs hf
    rw [hs.nil]
    cases ts with
    | nil => trivial
    | cons t ts => cases hf
  | cons v as ih =>
    intro ts asc hs hf
    obtain ⟨w, r, rfl, h3, h4⟩ := hs.cons
    cases ts with
    | nil => cases hf
    | cons t ts =>
      simp only [an_fits, Bool.and_eq_true] at hf
      exact ⟨an_fit_ok h h3 hf.1, ih h4 hf.2⟩
/-- contracts ask of an object's fields alone -/
def an_ctkB (c : Option an_CI) : Bool := match c with
  | none => true
  | some ct => (ct.2.1.isEmpty && ct.2.2.2.1.isEmpty) || ((match ct.1 with | (1, kd, _) :: _ => decide (0 < kd) | _ => false) && (ct.2.1.all (fun q => decide (q.1 < 1000)) && ct.2.2.2.1.all (fun q => decide (q.1 < 1000))))
set_option maxRecDepth 100000 in
theorem an_ctkA : an_CT.all an_ctkB = true := by decide +kernel
theorem an_ctk {m : Nat} {ct : an_CI} (h : an_CT.getD m none = some ct) : (ct.2.1 = [] ∧ ct.2.2.2.1 = []) ∨ ((∃ kd x ts, ct.1 = (1, kd, x) :: ts ∧ 0 < kd) ∧ (∀ q ∈ ct.2.1, q.1 < 1000) ∧ ∀ q ∈ ct.2.2.2.1, q.1 < 1000) := by
  simp only [List.getD_eq_getElem?_getD] at h
  cases hm : an_CT[m]? with
  | none => rw [hm] at h; cases h
  | some c =>
    rw [hm] at h
    simp only [Option.getD_some] at h
    have h1 := List.all_eq_true.mp an_ctkA c (List.mem_of_getElem? hm)
    rw [h] at h1
    simp only [an_ctkB, Bool.or_eq_true, Bool.and_eq_true, List.isEmpty_iff, List.all_eq_true, decide_eq_true_eq] at h1
    rcases h1 with h1 | ⟨h1, h2⟩
    · exact Or.inl h1
    · refine Or.inr ⟨?_, h2⟩
      split at h1
      · rename_i kd x ts e
        exact ⟨kd, x, ts, e, of_decide_eq_true h1⟩
      · cases h1
theorem an_pre_ok {O : am_O} {X : Nat → ClassId} {σ : List Int} {ρ : List Nat} {κ : an_Ka} {ws : va_W} {S : an_S} (h : an_g O X σ ρ κ (an_at ws) S) {r a : Nat} (hr : ρ[r]? = some a) : ∀ {ps : List (Nat × Int × Int)}, (∀ q ∈ ps, q.1 < 1000) → an_pre S r ps = true → ∀ q ∈ ps, ∃ x : Int32, an_rd (an_at ws) a q.1 0 = some (.int x) ∧ q.2.1 ≤ x.toInt ∧ x.toInt ≤ q.2.2 := by
  intro ps
  induction ps with
  | nil => intro _ _ q hq; cases hq
  | cons p ps ih =>
    intro hl hp q hq
    simp only [an_pre, Bool.and_eq_true] at hp
    obtain ⟨h1, h2⟩ := hp
    rcases List.mem_cons.mp hq with rfl | hq
    · split at h1
      · rename_i e f hv
        simp only [Bool.and_eq_true, decide_eq_true_eq] at h1
        obtain ⟨w, w1, x, rfl, hx⟩ := an_tg_ok h hr (j := 0) rfl hv (by have := hl q List.mem_cons_self; omega)
        have a := an_lo_ok h.1 hx
        have b := an_hi_ok h.1 hx
        exact ⟨x, w1, by omega, by omega⟩
      · cases h1
    · exact ih (fun q hq => hl q (List.mem_cons_of_mem _ hq)) h2 q hq
theorem an_post_ok {O : am_O} {X : Nat → ClassId} {G : an_G} {ρ : List Nat} {κ : an_Ka} {ws : va_W} {r a kd : Nat} (hr : ρ[r]? = some a) (hk : κ a = some kd) : ∀ {ps : List (Nat × Int × Int)} {S : an_S} {σ : List Int}, (∀ q ∈ ps, q.1 < 1000) → an_cfg O X G S σ ρ κ ws → (∀ q ∈ ps, ∃ x : Int32, an_rd (an_at ws) a q.1 0 = some (.int x) ∧ q.2.1 ≤ x.toInt ∧ x.toInt ≤ q.2.2) →
    ∃ σ2, an_px σ σ2 ∧ an_cfg O X G (an_post r ps S) σ2 ρ κ ws := by
  intro ps
  induction ps with
  | nil => intro S σ _ h _; exact ⟨σ, an_px.rf, h⟩
  | cons p ps ih =>
    intro S σ hl h hx
    obtain ⟨x, x1, x2, x3⟩ := hx p List.mem_cons_self
    obtain ⟨σ2, a1, b1, c1, d1⟩ := an_resN (M := S.2.1) h.2.1.1 h.2.1.2.1 x2 x3 (an_i32L x)
    have h2 := (h.num a1 b1 c1).add (r := r) (key := p.1) (x := (0, 0)) (v := (0, (an_new S.1 p.2.1 p.2.2).2, (0, 0))) hr hk (j := 0) rfl x1 ⟨x, rfl, d1⟩ (by have := hl p List.mem_cons_self; omega)
    obtain ⟨σ3, a2, b2⟩ := ih (S := an_tadd ((an_new S.1 p.2.1 p.2.2).1, S.2) r p.1 (0, 0) (0, (an_new S.1 p.2.1 p.2.2).2, (0, 0))) (fun q hq => hl q (List.mem_cons_of_mem _ hq)) h2 (fun q hq => hx q (List.mem_cons_of_mem _ hq))
    exact ⟨σ3, a1.tr a2, b2⟩
theorem an_mem2_ok : ∀ {ms : List (Nat × Nat)} {a b : Nat}, an_mem2 ms a b = true ↔ (a, b) ∈ ms := by
  intro ms
  induction ms with
  | nil => intro a b; simp [an_mem2]
  | cons q ms ih =>
    intro a b
    simp only [an_mem2, an_nbq, Bool.or_eq_true, Bool.and_eq_true, beq_iff_eq, ih, List.mem_cons]
    constructor
    · rintro (⟨rfl, rfl⟩ | h)
      · exact Or.inl rfl
      · exact Or.inr h
    · rintro (h | h)
      · exact Or.inl ⟨by rw [← h], by rw [← h]⟩
      · exact Or.inr h
/-- behind a call that writes just what it may -/
theorem an_cfg.cut {O : am_O} {X : Nat → ClassId} {G : an_G} {S : an_S} {σ : List Int} {ρ : List Nat} {κ κ2 : an_Ka} {ws ws2 : va_W} (h : an_cfg O X G S σ ρ κ ws) {ms : List (Nat × Nat)} (hm : ∀ a kd key j, G.1 a = some kd → an_mem2 G.2.2.1 kd key = false → an_rp kd (an_at ws2) a key j = an_rp kd (an_at ws) a key j) (hn : an_nd ws2) (hh : an_hi2 O X κ2 (an_at ws2)) (hk : ∀ a kd, κ a = some kd → κ2 a = some kd)
    (hf : ∀ a kd key j, κ a = some kd → an_mem2 ms kd key = false → an_rp kd (an_at ws2) a key j = an_rp kd (an_at ws) a key j) : an_cfg O X G (an_tcut S ms) σ ρ κ2 ws2 := by
  obtain ⟨h1, ⟨g1, g2, ⟨r1, r2⟩, g4, g5⟩, ⟨f1, f2, f3⟩, h4⟩ := h
  have hS : (an_tcut S ms).1 = S.1 ∧ (an_tcut S ms).2.1 = S.2.1 ∧ (an_tcut S ms).2.2.1 = S.2.2.1 ∧ ∀ f ∈ (an_tcut S ms).2.2.2, f ∈ S.2.2.2 ∧ (f.2.1 = 1002 ∨ ms = [] ∨ (f.2.1 = 1003 ∧ ∀ q ∈ ms, an_mem2 (an_FPt f.2.2.2.1) q.1 q.2 = false) ∨ (f.2.1 ≠ 1003 ∧ an_rk S f.1 ≠ 0 ∧ an_mem2 ms (an_rk S f.1) f.2.1 = false)) := by
    unfold an_tcut
    split
    · exact ⟨rfl, rfl, rfl, fun f hf => ⟨hf, Or.inr (Or.inl rfl)⟩⟩
    · refine ⟨rfl, rfl, rfl, fun f hf => ?_⟩
      rw [List.mem_filter] at hf
      refine ⟨hf.1, ?_⟩
      have hf2 := hf.2
      by_cases h3 : f.2.1 = 1003
      · rw [Bool.cond_eq_ite, if_pos (by rw [an_nbq, beq_iff_eq]; exact h3)] at hf2
        refine Or.inr (Or.inr (Or.inl ⟨h3, fun q hq => ?_⟩))
        simp only [Bool.not_eq_true', List.any_eq_false] at hf2
        exact Bool.eq_false_iff.mpr (hf2 q hq)
      · rw [Bool.cond_eq_ite, if_neg (by rw [an_nbq, beq_iff_eq]; exact h3)] at hf2
        simp only [an_nbq, Bool.or_eq_true, Bool.and_eq_true, beq_iff_eq, Bool.not_eq_true', beq_eq_false_iff_ne, ne_eq] at hf2
        rcases hf2 with q | q
        · exact Or.inl q
        · exact Or.inr (Or.inr (Or.inr ⟨h3, q⟩))
  obtain ⟨e1, e2, e3, e4⟩ := hS
  have hR : an_rok κ2 ρ S.2.2.1 := ⟨r1, fun p hp => by
    obtain ⟨a, a1, a2⟩ := r2 p hp
    exact ⟨a, a1, hk _ _ a2⟩⟩
  have hF : ∀ f ∈ (an_tcut S ms).2.2.2, an_tf O σ ρ κ2 (an_at ws2) f := by
    intro f hf2
    obtain ⟨i1, i2⟩ := e4 f hf2
    rcases g5 f i1 with q | ⟨h0, a, kd, j, w, q1, q2, q3, q4, q5⟩ | ⟨h0, hgh⟩
    · exact Or.inl q
    rotate_left
    · refine Or.inr (Or.inr ⟨h0, hgh.fr (fun a2 kd2 q _ => hk _ _ q) (fun a2 kd2 key2 j2 q1 q2 => hf _ _ _ _ q1 ?_)⟩)
      rw [Bool.eq_false_iff]
      intro hb
      rw [an_mem2_ok] at hb
      rcases i2 with i2 | i2 | ⟨-, i2⟩ | ⟨i2, -⟩
      · rw [h0] at i2; cases i2
      · rw [i2] at hb; cases hb
      · have := i2 _ hb
        simp only at this
        rw [q2] at this
        cases this
      · exact i2 h0
    · refine Or.inr (Or.inl ⟨h0, a, kd, j, w, q1, hk _ _ q2, q3, ?_, q5⟩)
      rw [hf a kd f.2.1 j q2]
      · exact q4
      · rcases i2 with i2 | i2 | ⟨i2, -⟩ | ⟨-, i2, i3⟩
        · exact absurd i2 h0.1
        · rw [i2]; rfl
        · exact absurd i2 h0.2
        · obtain ⟨b, b1, b2⟩ := r2 _ (an_asg_mem i2)
          cases Option.some.inj (b1.symm.trans q1)
          cases Option.some.inj (b2.symm.trans q2)
          exact i3
  refine ⟨hn, ⟨by rw [e1]; exact g1, by rw [e2]; exact g2, by rw [e3]; exact hR, hh, hF⟩, ⟨fun a kd q => hk _ _ (f1 _ _ q), f2, fun a kd key j q hq => ?_⟩, by rw [e3]; exact h4⟩
  rw [hm a kd key j q hq]
  exact f3 a kd key j q hq
theorem an_cfg.cutM {O : am_O} {X : Nat → ClassId} {G : an_G} {S : an_S} {σ : List Int} {ρ : List Nat} {κ κ2 : an_Ka} {ws ws2 : va_W} (h : an_cfg O X G S σ ρ κ ws) {ms : List (Nat × Nat)} (hm : ∀ q ∈ ms, an_mem2 G.2.2.1 q.1 q.2 = true) (hn : an_nd ws2) (hh : an_hi2 O X κ2 (an_at ws2)) (hk : ∀ a kd, κ a = some kd → κ2 a = some kd)
    (hf : ∀ a kd key j, κ a = some kd → an_mem2 ms kd key = false → an_rp kd (an_at ws2) a key j = an_rp kd (an_at ws) a key j) : an_cfg O X G (an_tcut S ms) σ ρ κ2 ws2 := by
  obtain ⟨-, -, ⟨f1, f2, -⟩, -⟩ := id h
  refine h.cut (fun a kd key j q hq => hf a kd key j (f1 _ _ (f2 _ _ q)) ?_) hn hh hk hf
  rw [Bool.eq_false_iff]
  intro hb
  rw [an_mem2_ok] at hb
  have := hm _ hb
  simp only at this
  rw [hq] at this
  cases this
theorem an_ths_mem {S : an_S} {j : Nat} : ∀ {ths : List Nat}, j ∈ ths → (j + 2, an_zv, S) ∈ an_ths S ths := by
  intro ths
  induction ths with
  | nil => intro h; cases h
  | cons t ths ih =>
    intro h
    rcases List.mem_cons.mp h with rfl | h
    · exact List.mem_cons_self
    · exact List.mem_cons_of_mem _ (ih h)
theorem an_ctr_ok {O : am_O} {X : Nat → ClassId} {G : an_G} {m2 : Nat} {ct : an_CI} {as : List an_V} {S : an_S} {xs : List an_X} {σ : List Int} {ρ : List Nat} {κ : an_Ka} {asc : List Value} {ws : va_W} (hCS : an_CS O X m2) (hct : an_CT.getD m2 none = some ct)
    (h : an_ctr G.2.2.1 ct as S = some xs) (hc : an_cfg O X G S σ ρ κ ws) (hs : an_sok O σ ρ as asc) : ∃ Q1 : am_Q, am_Safe O X m2 0 (lv_args 0 asc) [] 0 0 ws Q1 ∧ ∀ r w2, Q1 r w2 → ∃ x ∈ xs, an_xok O X G σ ρ x r w2 := by
  have hkk := an_ctk hct
  obtain ⟨ps, pre, ret, post, ths, rets, ms⟩ := ct
  simp only at hkk
  have hg := hc.2.1
  simp only [an_ctr] at h
  split at h
  · rename_i hb
    simp only [Bool.and_eq_true, List.all_eq_true] at hb
    obtain ⟨hfit, hrec, hpre, hms⟩ := hb
    have hvts := an_fits_ok hg hs hfit
    have hrv : (pre = [] ∧ post = []) ∨ ∃ (r0 a : Nat) (bs : List Value) (kd : Nat), an_r0 as = r0 ∧ ρ[r0]? = some a ∧ asc = .ref a :: bs ∧ κ a = some kd ∧ (∀ q ∈ pre, q.1 < 1000) ∧ ∀ q ∈ post, q.1 < 1000 := by
      rcases hkk with hkk | ⟨⟨kd, x, ts, e, hkd⟩, hk1, hk2⟩
      · exact Or.inl hkk
      · right
        subst e
        cases as with
        | nil => simp [an_fits] at hfit
        | cons v as =>
          obtain ⟨w, rc, rfl, h3, h4⟩ := hs.cons
          simp only [an_fits, Bool.and_eq_true] at hfit
          obtain ⟨v0, v1, v2⟩ := v
          have hv0 : v0 = 2 := by
            have := hfit.1
            unfold an_fit at this
            match v0, this with
            | 2, _ => rfl
            | 0, q => simp at q
            | 1, q => simp at q
            | n + 3, q => simp at q
          subst hv0
          obtain ⟨a, rfl, ha⟩ := h3
          obtain ⟨b, e1, e2, e3⟩ := hvts.1
          cases e1
          exact ⟨v1.1, a, rc, _, rfl, ha, rfl, e2, hk1, hk2⟩
    have hflds : an_flds (an_at ws) asc pre := by
      rcases hrv with ⟨h1, -⟩ | ⟨r0, a, bs, kd, q1, q2, q3, q4, q5, q6⟩
      · exact Or.inl h1
      · rw [q1] at hpre
        exact Or.inr ⟨a, bs, q3, an_pre_ok hg q2 q5 hpre⟩
    refine ⟨_, hCS _ hct κ asc ws hc.1 hg.2.2.2.1 hvts hflds, ?_⟩
    intro r w2 hr
    obtain ⟨κ2, k1, k2, k3, k4, k5⟩ := hr
    have hcut := hc.cutM (ms := ms) (fun q hq => hms q hq) k1 k2 k3 k4
    -- behind the call, with what it says of the receiver
    have hpost : ∀ (S2 : an_S) (σ2 : List Int) (ρ2 : List Nat), an_px σ σ2 → an_pr ρ ρ2 → an_cfg O X G S2 σ2 ρ2 κ2 w2 → an_flds (an_at w2) asc post → ∃ σ3, an_px σ2 σ3 ∧ an_cfg O X G (an_post (an_r0 as) post S2) σ3 ρ2 κ2 w2 := by
      intro S2 σ2 ρ2 p1 p2 hc2 hfl
      rcases hrv with ⟨-, h1⟩ | ⟨r0, a, bs, kd, q1, q2, q3, q4, q5, q6⟩
      · subst h1
        exact ⟨σ2, an_px.rf, hc2⟩
      · rw [q1]
        refine an_post_ok (p2.ix q2) (k3 _ _ q4) q6 hc2 (fun q hq => ?_)
        rcases hfl with hfl | ⟨a2, bs2, e1, e2⟩
        · rw [hfl] at hq; cases hq
        · rw [q3] at e1
          cases e1
          exact e2 q hq
    cases r with
    | inr j =>
      simp only at k5
      refine ⟨(j + 2, an_zv, an_tcut S ms), ?_, σ, ρ, κ2, an_px.rf, an_pr.rf, hcut, rfl⟩
      split at h
      · split at h
        · cases h
          exact List.mem_cons_of_mem _ (an_ths_mem k5)
        · split at h
          · cases h
            exact List.mem_cons_of_mem _ (an_ths_mem k5)
          · cases h
      · cases h
        exact an_ths_mem k5
    | inl v =>
      cases v with
      | none =>
        obtain ⟨c1, c2, c3⟩ := k5
        simp only at c1 c2 c3
        subst c2
        simp only [c1, if_true, Option.some.injEq] at h
        subst h
        obtain ⟨σ3, p3, hc3⟩ := hpost _ σ ρ an_px.rf an_pr.rf hcut c3
        exact ⟨_, List.mem_cons_self, σ3, ρ, κ2, p3, an_pr.rf, hc3, rfl⟩
      | some v =>
        obtain ⟨c1, ⟨t, c2, c4⟩, c3⟩ := k5
        simp only at c1 c2 c3
        subst c2
        simp only [c1, if_true] at h
        split at h
        · rename_i S2 v2 hty
          simp only [Option.some.injEq] at h
          subst h
          obtain ⟨σ2, ρ2, p1, p2, hc2, hv2⟩ := an_typ_ok hcut hty c4
          obtain ⟨σ3, p3, hc3⟩ := hpost _ σ2 ρ2 p1 p2 hc2 c3
          exact ⟨_, List.mem_cons_self, σ3, ρ2, κ2, p1.tr p3, p2, hc3, _, rfl, hv2.px p3 an_pr.rf⟩
        · cases h
  · cases h
theorem an_is2_ok {as : List an_V} (h : an_is2 as = true) : ∃ r f as2, as = (2, r, f) :: as2 := by
  unfold an_is2 at h
  split at h
  · exact ⟨_, _, _, rfl⟩
  · cases h
theorem an_rcv_ok {S : an_S} {m2 : Nat} {as : List an_V} (h : an_rcv S m2 as = true) : ∃ (r f : an_E) (as2 : List an_V) (rest : List an_Ty × Int × Int × an_Ty), as = (2, r, f) :: as2 ∧ an_ki (an_rk S r.1) = (0, am_ci m2, rest) := by
  unfold an_rcv at h
  split at h
  · split at h
    · rename_i e
      rw [beq_iff_eq] at h
      subst h
      exact ⟨_, _, _, _, rfl, e⟩
    · cases h
  · cases h
/-! a call -/
theorem an_inv_ok {O : am_O} {X : Nat → ClassId} {mods : List (Nat × Nat)} {rec : an_Rec} (hrec : an_Spec O X mods rec) (hLS : an_LS O X) {m pc m2 mode : Nat} {cs : List am_I} {L : an_L} {st : List an_V} {kA sA : Nat} {acts : List an_Ac} {S : an_S} {xs : List an_X}
    (h : an_inv mods rec m pc m2 mode cs L st kA sA acts S = some xs) (n1 : an_sfx cs m) (n2 : an_at0 cs (pc + 3)) (hC : ∀ m2, m2 < m → an_CS O X m2) {G : an_G} {dk ds : Nat} {σ : List Int} {ρ : List Nat} {κ : an_Ka} {l : am_L} {stc : List Value} {k sl : Nat} {ws : va_W} {Q : am_Q} (hG : G.2.2.1 = mods)
    (hc : an_icf O X G dk ds (0, L, st, kA, sA, S) σ ρ κ l stc k sl ws) (hA : ∀ a ∈ acts, an_aok O X m G dk ds σ ρ Q a) (hQ : ∀ x ∈ xs, ∀ r w, an_xok O X G σ ρ x r w → Q r w) :
    mode < 5 ∧ am_call (fun pc' l' st' k' sl' ws' => am_Safe O X m pc' l' st' k' sl' ws' Q) (fun m2 as ws' Q' => ∃ Q1 : am_Q, am_Safe O X m2 0 (lv_args 0 as) [] 0 0 ws' Q1 ∧ ∀ r w, Q1 r w → Q' r w) Q m pc m2 mode l stc k sl ws := by
  have hk := hc.2.2.2
  simp only at hk
  have hg : an_g O X σ ρ κ (an_at ws) S := hc.1.2.1
  have hL : an_lok O σ ρ L l := hc.2.1
  have hs : an_sok O σ ρ st stc := hc.2.2.1
  obtain ⟨s1, s2⟩ := hs.cut (n := am_na m2)
  have s1 := s1.rev
  unfold an_inv at h
  simp only at h
  generalize ha : (st.take (am_na m2)).reverse = as at h s1
  generalize hr : st.drop (am_na m2) = rest at h s2
  split at h
  · rename_i hmay
    simp only [an_may, Bool.and_eq_true, decide_eq_true_eq] at hmay
    obtain ⟨⟨y1, y2⟩, y3, y4, y5, y6, y7, y8, y9, y10⟩ := hmay
    split at h
    · cases h
    · rename_i xs0 hx0
      refine ⟨y3, (stc.take (am_na m2)).reverse, stc.drop (am_na m2), by rw [List.reverse_reverse, List.take_append_drop], by rw [s1.len]; exact y1, by omega, by rw [an_sls_ok s1]; exact y4, by rw [s2.wt]; exact y5, ?_, ?_, by omega, by omega, y8, y9, ?_⟩
      · rintro rfl
        obtain ⟨r, f, as2, rest9, rfl, hki⟩ := an_rcv_ok y10
        obtain ⟨w, rc, e1, h3, h4⟩ := s1.cons
        obtain ⟨a, rfl, ha2⟩ := h3
        obtain ⟨hka, hk0, fs, q1, -⟩ := an_objK (tys := rest9.1) (rest := rest9.2) hc.1 ha2 hki
        exact ⟨a, rc, _, fs, e1, an_at_mem q1, rfl⟩
      · intro hm
        have y11 : an_is2 as = true := by
          rcases hm with rfl | rfl <;> exact y10
        obtain ⟨r, f, as2, rfl⟩ := an_is2_ok y11
        obtain ⟨w, rc, e1, h3, h4⟩ := s1.cons
        obtain ⟨a, rfl, ha2⟩ := h3
        exact ⟨a, rc, e1⟩
      · -- the callee
        have hcal : ∃ Q1 : am_Q, am_Safe O X m2 0 (lv_args 0 (stc.take (am_na m2)).reverse) [] 0 0 ws Q1 ∧ ∀ r w2, Q1 r w2 → ∃ x ∈ xs0, an_xok O X G σ ρ x r w2 := by
          split at hx0
          · rename_i w hw
            exact hLS w m2 hw G as S xs0 σ ρ κ _ ws (by rw [hG]; exact hx0) hc.1 s1
          · split at hx0
            · rename_i ct hct
              have hct2 : an_CT.getD m2 none = some ct := by
                split at hct
                · cases hct
                · exact hct
              exact an_ctr_ok (hC m2 y2) hct2 (by rw [hG]; exact hx0) hc.1 s1
            · refine ⟨fun r w => ∃ x ∈ xs0, an_xok O X G σ ρ x r w, ?_, fun r w q => q⟩
              exact hrec m2 _ _ _ _ _ _ _ xs0 hx0 0 (an_sfx_0 m2).1 (an_sfx_0 m2).2 (fun m3 h3 => hC m3 (by omega)) G 0 0 σ ρ κ _ [] 0 0 ws _ hG ⟨hc.1, an_args_ok 0 s1, trivial, Nat.le_refl _, Nat.le_refl _⟩ (fun a ha => by cases ha) (fun x hx r w hxo => ⟨x, hx, hxo⟩)
        obtain ⟨Q1, hs1, hq1⟩ := hcal
        refine ⟨Q1, hs1, fun r w2 hr2 => ?_⟩
        obtain ⟨x, hx, σ2, ρ2, κ2, p1, p2, hc2, hx3⟩ := hq1 r w2 hr2
        obtain ⟨ys, hy1, hy2⟩ := an_each_ok h x hx
        obtain ⟨x0, x1, x2⟩ := x
        have hacts : ∀ a ∈ acts, an_aok O X m G dk ds σ2 ρ2 Q a := fun a ha => (hA a ha).mono rfl rfl rfl (fun _ _ q => q) (Nat.le_refl _) (Nat.le_refl _) p1 p2
        have hQ2 : ∀ y ∈ ys, ∀ r w, an_xok O X G σ2 ρ2 y r w → Q r w := fun y hy r w q => hQ y (hy2 y hy) r w (q.px p1 p2)
        match x0, hx3, hy1 with
        | 0, hx3, hy1 =>
          simp only at hx3
          subst hx3
          exact hrec m cs _ _ _ _ _ _ ys hy1 (pc + 3) n1 n2 hC G dk ds σ2 ρ2 κ2 _ _ _ _ w2 Q hG ⟨hc2, hL.px p1 p2, s2.px p1 p2, by simp only; omega, by simp only; omega⟩ hacts hQ2
        | 1, hx3, hy1 =>
          obtain ⟨wv, rfl, hv⟩ := hx3
          exact hrec m cs _ _ _ _ _ _ ys hy1 (pc + 3) n1 n2 hC G dk ds σ2 ρ2 κ2 _ _ _ _ w2 Q hG ⟨hc2, hL.px p1 p2, ⟨hv, s2.px p1 p2⟩, by simp only; omega, by simp only; omega⟩ hacts hQ2
        | j + 2, hx3, hy1 =>
          simp only at hx3
          subst hx3
          simp only [an_beh] at hy1
          simp only [am_thr]
          split at hy1
          · rename_i t ht
            rw [ht]
            intro q
            exact hrec m _ _ _ _ _ _ _ ys hy1 t (an_find_ok m t).1 (an_find_ok m t).2 hC G dk ds σ2 ρ2 κ2 _ _ _ _ w2 Q hG ⟨hc2, hL.px p1 p2, ⟨⟨some q, rfl⟩, trivial⟩, by simp only; omega, by simp only; omega⟩ hacts hQ2
          · rename_i ht
            rw [ht]
            split at hy1
            · rename_i hks
              simp only [Option.some.injEq] at hy1
              subst hy1
              exact ⟨by omega, by omega, hQ2 _ List.mem_cons_self _ _ ⟨σ2, ρ2, κ2, an_px.rf, an_pr.rf, hc2, rfl⟩⟩
            · cases hy1
  · cases h
theorem an_stp_ok {O : am_O} {X : Nat → ClassId} {mods : List (Nat × Nat)} {rec : an_Rec} (hrec : an_Spec O X mods rec) (hO : an_Ook O) (hLS : an_LS O X) {m : Nat} {e : am_I} {cs : List am_I} {L : an_L} {st : List an_V} {kA sA : Nat} {acts : List an_Ac} {S : an_S} {xs : List an_X}
    (h : an_stp mods rec m e cs L st kA sA acts S = some xs) (hs : an_sfx (e :: cs) m) (hC : ∀ m2, m2 < m → an_CS O X m2) {G : an_G} {dk ds : Nat} {σ : List Int} {ρ : List Nat} {κ : an_Ka} {l : am_L} {stc : List Value} {k sl : Nat} {ws : va_W} {Q : am_Q} (hG : G.2.2.1 = mods)
    (hc : an_icf O X G dk ds (0, L, st, kA, sA, S) σ ρ κ l stc k sl ws) (hA : ∀ a ∈ acts, an_aok O X m G dk ds σ ρ Q a) (hQ : ∀ x ∈ xs, ∀ r w, an_xok O X G σ ρ x r w → Q r w) : am_Safe O X m e.1 l stc k sl ws Q := by
  obtain ⟨n1, n2, n3, n4⟩ := an_sfx_nx hs
  obtain ⟨pc, i, len, ra, rb, rw0, cu, inf⟩ := e
  simp only at n2 n4
  unfold an_stp at h
  simp only at h
  have hk := hc.2.2.2
  simp only at hk
  split at h
  · split at h
    · exact an_gox_ok hrec hO h hs hC hG hc hA hQ
    · rename_i q h5
      rw [beq_iff_eq] at h5
      obtain rfl := n4 rfl
      refine am_go n3 ?_
      simp only [am_step]
      rw [if_neg h5]
      exact (an_inv_ok hrec hLS h n1 n2 hC hG hc hA hQ).2
  · obtain rfl := n4 rfl
    refine am_go n3 ?_
    exact (an_inv_ok hrec hLS h n1 n2 hC hG hc hA hQ).2
  · obtain rfl := n4 rfl
    obtain ⟨h5, h6⟩ := an_inv_ok hrec hLS h n1 n2 hC hG hc hA hQ
    refine am_go n3 ?_
    simp only [am_step]
    rw [if_neg (by omega)]
    exact h6
  · split at h
    · rename_i q h0
      rw [beq_iff_eq] at h0
      split at h
      · rename_i hH
        split at h
        · rename_i hb
          simp only [Option.some.injEq] at h
          subst h
          refine am_go n3 ?_
          simp only [am_step]
          rw [if_pos h0]
          have hst : an_sok O σ ρ [] stc := hc.2.2.1
          exact ⟨hst.nil, by omega, by omega, hH, hb.2.2.1, hb.2.2.2, hQ _ List.mem_cons_self _ _ ⟨σ, ρ, κ, an_px.rf, an_pr.rf, hc.1, rfl⟩⟩
        · cases h
      · cases h
    · exact an_gox_ok hrec hO h hs hC hG hc hA hQ
  · exact am_go n3 (an_fin_ok h hc hQ)
  · exact am_go n3 (an_fin_ok h hc hQ)
  · exact am_go n3 (an_fin_ok h hc hQ)
  · split at h
    · exact an_gox_ok hrec hO h hs hC hG hc hA hQ
    · split at h
      · rename_i S1 hp
        obtain ⟨κ2, h2⟩ := an_prm_ok hc.1 hc.2.1 (an_pmN _) hp
        exact an_gox_ok (κ := κ2) hrec hO h hs hC hG ⟨h2, hc.2.1, hc.2.2.1, hc.2.2.2⟩ hA hQ
      · cases h
  · exact an_gox_ok hrec hO h hs hC hG hc hA hQ
