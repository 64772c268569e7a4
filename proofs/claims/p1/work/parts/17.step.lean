/-! ONE INSTRUCTION, all of them. -/
theorem an_sw_mem {pc : Nat} {e : an_E} {B : an_B} {σ : List Int} (hB : an_ok B σ) {g : Nat → an_B → an_It} {x : Int} (hx : an_ev σ e = some x) : ∀ (os : List Int) (v : Int), v ≤ x → ∀ o, os[(x - v).toNat]? = some o → ∃ B1, an_ok B1 σ ∧ g ((pc : Int) + o).toNat B1 ∈ an_sw pc e B g v os := by
  intro os
  induction os with
  | nil => intro v _ o ho; cases ho
  | cons o1 os ih =>
    intro v hv o ho
    simp only [an_sw]
    by_cases h : x = v
    · subst h
      simp only [Int.sub_self, Int.toNat_zero, List.getElem?_cons_zero, Option.some.injEq] at ho
      subst ho
      obtain ⟨B1, e1, h1⟩ := an_eq_ok hB (e2 := (0, x)) hx rfl
      rw [e1]
      exact ⟨B1, h1, List.mem_cons_self⟩
    · have e2 : (x - v).toNat = (x - (v + 1)).toNat + 1 := by omega
      rw [e2, List.getElem?_cons_succ] at ho
      obtain ⟨B1, h1, h2⟩ := ih (v + 1) (by omega) o ho
      refine ⟨B1, h1, ?_⟩
      split
      · exact List.mem_cons_of_mem _ h2
      · exact h2
theorem an_zeros_mem {r : Nat} {f : an_T} : ∀ {ds : List Value} {k : Nat}, f ∈ an_zeros r ds k → ∃ i x, ds[i]? = some (.int x) ∧ f = (r, k + i, (0, 0), (0, (0, 0), (0, 0))) := by
  intro ds
  induction ds with
  | nil => intro k h; cases h
  | cons d ds ih =>
    intro k h
    have tail : f ∈ an_zeros r ds (k + 1) → ∃ i x, (d :: ds)[i]? = some (.int x) ∧ f = (r, k + i, (0, 0), (0, (0, 0), (0, 0))) := by
      intro h
      obtain ⟨i, x, h1, h2⟩ := ih h
      exact ⟨i + 1, x, h1, by rw [h2]; congr 2; omega⟩
    cases d <;> simp only [an_zeros] at h <;> first | exact tail h | skip
    rcases List.mem_cons.mp h with rfl | h
    · exact ⟨0, _, rfl, rfl⟩
    · exact tail h
section AN2
variable {O : am_O} {X : Nat → ClassId} {G : an_G} {dk ds : Nat} {σ : List Int} {ρ : List Nat} {κ : an_Ka} {l : am_L} {stc : List Value} {k sl kA sA : Nat} {ws : va_W} {L : an_L} {st : List an_V} {S : an_S} {its : List an_It} {K : am_K}
/-- a fact is told of what is read there -/
theorem an_cfg.add (h : an_cfg O X G S σ ρ κ ws) {r a kd key j : Nat} {x : an_E} {v : an_V} {w : Value} (hr : ρ[r]? = some a) (hk : κ a = some kd) (hx : an_ev σ x = some (j : Int)) (hw : an_rd (an_at ws) a key j = some w) (hv : an_gv O σ ρ v w) (h9 : key < 1002) : an_cfg O X G (an_tadd S r key x v) σ ρ κ ws := by
  obtain ⟨h1, ⟨g1, g2, g3, g4, g5⟩, h3, h4⟩ := h
  refine ⟨h1, ⟨g1, g2, g3, g4, fun f hf => ?_⟩, h3, h4⟩
  rcases List.mem_cons.mp hf with rfl | hf
  · exact Or.inr (Or.inl ⟨⟨by first | omega | (simp only; omega), by first | omega | (simp only; omega)⟩, a, kd, j, w, hr, hk, hx, by rw [an_rp_ne (by first | omega | (simp only; omega))]; exact hw, hv⟩)
  · exact g5 f hf
/-- a fact of an old row -/
theorem an_cfg.addO (h : an_cfg O X G S σ ρ κ ws) {j : Nat} {i : Int} {x : an_E} {v : an_V} (hx : an_ev σ x = some i) (hv : an_gv O σ ρ v (.int (an_old O j i))) : an_cfg O X G (an_tadd S j 1002 x v) σ ρ κ ws := by
  obtain ⟨h1, ⟨g1, g2, g3, g4, g5⟩, h3, h4⟩ := h
  refine ⟨h1, ⟨g1, g2, g3, g4, fun f hf => ?_⟩, h3, h4⟩
  rcases List.mem_cons.mp hf with rfl | hf
  · exact Or.inl ⟨rfl, i, hx, hv⟩
  · exact g5 f hf
theorem an_tg_ok (h : an_g O X σ ρ κ (an_at ws) S) {r a key j : Nat} {x : an_E} {v : an_V} (hr : ρ[r]? = some a) (hx : an_ev σ x = some (j : Int)) (hv : an_tget S.2.2.2 r key x = some v) (h9 : key < 1002) : ∃ w, an_rd (an_at ws) a key j = some w ∧ an_gv O σ ρ v w := by
  rcases h.2.2.2.2 _ (an_tget_mem hv) with ⟨h1, -⟩ | ⟨-, b, kd, i, w, e1, e2, e3, e4, e5⟩ | ⟨h1, -⟩
  · simp only at h1; omega
  rotate_left
  · simp only at h1; omega
  · simp only at e1 e3 e4 e5
    cases Option.some.inj (e1.symm.trans hr)
    have := Option.some.inj (e3.symm.trans hx)
    have : i = j := by omega
    subst this
    rw [an_rp_ne (by omega)] at e4
    exact ⟨w, e4, e5⟩
/-- an element of a list that has a name -/
theorem an_tl_ok (h : an_g O X σ ρ κ (an_at ws) S) {r a : Nat} {x : an_E} {v : an_V} {d : Int} (hr : ρ[r]? = some a) (hk : κ a = some an_KL) (hx : an_ev σ x = some d) (hv : an_tget S.2.2.2 r 1004 x = some v) : ∃ (j : Nat) (w : Value), d = (j : Int) ∧ an_rle (an_at ws) a j = some w ∧ an_gv O σ ρ v w := by
  rcases h.2.2.2.2 _ (an_tget_mem hv) with ⟨h1, -⟩ | ⟨-, b, kd, i, w, e1, e2, e3, e4, e5⟩ | ⟨h1, -⟩
  · simp at h1
  rotate_left
  · simp at h1
  · simp only at e1 e3 e4 e5
    cases Option.some.inj (e1.symm.trans hr)
    cases Option.some.inj (e2.symm.trans hk)
    rw [an_rp_L] at e4
    exact ⟨i, w, Option.some.inj (hx.symm.trans e3), e4, e5⟩
theorem an_gfA_ok (h : an_g O X σ ρ κ (an_at ws) S) {t : Nat} {g : an_T} (hg : an_gf t S.2.2.2 = some g) : g.2.2.2.1 = t ∧ an_gh σ ρ κ (an_at ws) g := by
  have hm : ∀ T : List an_T, an_gf t T = some g → g ∈ T ∧ g.2.1 = 1003 ∧ g.2.2.2.1 = t := by
    intro T
    induction T with
    | nil => intro h; cases h
    | cons f T ih =>
      intro h
      simp only [an_gf, Bool.cond_eq_ite] at h
      split at h
      · rename_i hb
        rw [Bool.and_eq_true, an_nbq, an_nbq, beq_iff_eq, beq_iff_eq] at hb
        cases h
        exact ⟨List.mem_cons_self, hb⟩
      · exact ⟨List.mem_cons_of_mem _ (ih h).1, (ih h).2⟩
  obtain ⟨h1, h2, h4⟩ := hm _ hg
  rcases h.2.2.2.2 _ h1 with ⟨h3, -⟩ | ⟨h3, -⟩ | ⟨-, h3⟩
  · rw [h2] at h3; cases h3
  · exact absurd h2 h3.2
  · exact ⟨h4, h3⟩
theorem an_gf_ok (h : an_g O X σ ρ κ (an_at ws) S) {g : an_T} (hg : an_gf 7 S.2.2.2 = some g) : g.2.2.2.1 = 7 ∧ an_gh7 σ ρ κ (an_at ws) g := by
  obtain ⟨h1, h2⟩ := an_gfA_ok h hg
  rcases h2.tag with ⟨h2, -⟩ | ⟨-, h3⟩ | ⟨-, h3⟩
  · exact ⟨h1, h2⟩
  · omega
  · omega
theorem an_gf8_ok (h : an_g O X σ ρ κ (an_at ws) S) {g : an_T} (hg : an_gf 8 S.2.2.2 = some g) : g.2.2.2.1 = 8 ∧ an_gh8 σ ρ κ (an_at ws) g := by
  obtain ⟨h1, h2⟩ := an_gfA_ok h hg
  rcases h2.tag with ⟨-, h3⟩ | ⟨h2, -⟩ | ⟨-, h3⟩
  · omega
  · exact ⟨h1, h2⟩
  · omega
theorem an_same_ok {B : an_B} (hB : an_ok B σ) {e f : an_E} {x y : Int} (h : an_same B e f = true) (hx : an_ev σ e = some x) (hy : an_ev σ f = some y) : x = y := by
  simp only [an_same, Bool.and_eq_true, decide_eq_true_eq] at h
  have a := an_ub_ok hB hx hy
  have b := an_ub_ok hB hy hx
  omega
theorem an_gB_ok {S1 : an_S} {ws2 : va_W} (hc : an_cfg O X G S σ ρ κ ws) (hc1 : an_cfg O X G S1 σ ρ κ ws2) {r a key : Nat} {w : Value} (hr : ρ[r]? = some a) (hk0 : an_rk S r ≠ 0) (hkl : an_rk S r ≠ an_KL) (hu : an_upd (an_at ws) (an_at ws2) a key 0 w) : an_cfg O X G (an_gB S r key S1) σ ρ κ ws2 := by
  unfold an_gB
  split
  · rename_i hb
    rw [Bool.and_eq_true, an_nbq, an_nbq, beq_iff_eq, beq_iff_eq] at hb
    obtain ⟨rfl, hrk⟩ := hb
    split
    · rename_i g en f9 hg ht
      split
      · rename_i hd
        obtain ⟨q0, al, ar, d, q1, q2, q3, q4, q5, q6, q7⟩ := an_gf_ok hc.2.1 hg
        obtain ⟨z1, z2, z3, z4, z5, z6, z7, z8, z9, z10, z11⟩ := an_FPk
        obtain ⟨wn, w1, n, rfl, w2⟩ := an_tg_ok hc.2.1 hr (j := 0) rfl ht (by omega)
        have hka := (hc.2.1.kind hr hk0).1
        have hhi := hc.2.1.2.2.2.1
        have hd2 : d = -1 ∨ d = n.toInt := by
          rw [Bool.or_eq_true] at hd
          rcases hd with hd | hd
          · rw [an_eqE_ok hd] at q6
            simp only [an_ev, Option.some.injEq] at q6
            exact Or.inl q6.symm
          · have := an_nrm_ok hc.2.1.1 w2
            rw [← an_eqE_ok hd] at this
            exact Or.inr (Option.some.inj (q6.symm.trans this))
        refine hc1.addG (Or.inl ⟨al, ar, n.toInt, q1, q2, q3, q4, q5, an_nrm_ok hc.2.1.1 w2, fun i b hi => ?_⟩)
        have e1 := an_rp_upd hhi hu hka hkl (k := 1004) (i := i) q4 (by rintro ⟨-, h, -⟩; omega)
        rw [an_rp_L, an_rp_L] at e1
        rw [e1] at hi
        obtain ⟨k1, k2, k3⟩ := q7 i b hi
        obtain ⟨u1, u2, u3⟩ := id hu
        have hil := an_rl_lt hi
        refine ⟨k1, by rw [u3 _ _ _ (by rintro ⟨-, h, -⟩; exact z7 h)]; exact k2, fun hin => ?_⟩
        have hba : b ≠ a := by
          rintro rfl
          rw [w1] at k2
          cases k2
          rw [an_ofNat hil] at hin
          exact hin rfl
        obtain ⟨x, x1, x2⟩ := k3 (by omega)
        refine ⟨x, by rw [u3 _ _ _ (fun h => hba h.1)]; exact x1, ?_⟩
        rw [u3 _ _ _ (by rintro ⟨-, h, -⟩; omega)]
        exact x2
      · exact hc1
    · exact hc1
  · exact hc1
theorem an_gC_ok {S1 : an_S} {ws2 : va_W} (hc : an_cfg O X G S σ ρ κ ws) (hc1 : an_cfg O X G S1 σ ρ κ ws2) {r a j : Nat} {e : an_E} {v : an_V} {w : Value} (hr : ρ[r]? = some a) (he : an_ev σ e = some (j : Int)) (hv : an_gv O σ ρ v w) (hu : an_upd (an_at ws) (an_at ws2) a 1000 j w) : an_cfg O X G (an_gC S r e v S1) σ ρ κ ws2 := by
  unfold an_gC
  split
  · rename_i hb
    rw [an_nbq, beq_iff_eq] at hb
    split
    · rename_i g ev f9 hg
      split
      · rename_i hd
        rw [Bool.and_eq_true, an_nbq, beq_iff_eq] at hd
        split
        · rename_i t f8 ht
          split
          · rename_i ew f7 hw
            split
            · rename_i hs
              obtain ⟨q0, al, ar, d, q1, q2, q3, q4, q5, q6, q7⟩ := an_gf_ok hc.2.1 hg
              obtain ⟨z1, z2, z3, z4, z5, z6, z7, z8, z9, z10, z11⟩ := an_FPk
              have hka := (hc.2.1.kind hr (by rw [hb]; exact z11)).1
              rw [hb] at hka
              have hhi := hc.2.1.2.2.2.1
              rw [hd.1, hr] at q3
              cases q3
              have hdj : d = (j : Int) := an_same_ok hc.2.1.1 hd.2 q6 he
              obtain ⟨j2, wt, t1, t2, at1, rfl, t3⟩ := an_tl_ok hc.2.1 q2 q4 q6 ht
              have hj2 : j2 = j := by omega
              subst hj2
              obtain ⟨wz, y1, z, rfl, y2⟩ := an_tg_ok hc.2.1 t3 (j := 0) rfl hw (by omega)
              obtain ⟨y, rfl, y3⟩ := hv
              have hyz : y = z := Int32.toInt_inj.mp (an_same_ok hc.2.1.1 hs y3 y2)
              subst hyz
              obtain ⟨u1, u2, u3⟩ := id hu
              refine hc1.addG (Or.inl ⟨al, a, -1, q1, q2, by simp only; rw [hd.1]; exact hr, q4, q5, rfl, fun i b hi => ?_⟩)
              have e1 := an_rp_upd hhi hu hka z9 (k := 1004) (i := i) q4 (by rintro ⟨-, h, -⟩; omega)
              rw [an_rp_L, an_rp_L] at e1
              rw [e1] at hi
              obtain ⟨k1, k2, k3⟩ := q7 i b hi
              have hba : b ≠ a := by
                rintro rfl
                exact z8 (Option.some.inj (hka.symm.trans k1))
              refine ⟨k1, by rw [u3 _ _ _ (fun h => hba h.1)]; exact k2, fun _ => ?_⟩
              by_cases hij : i = j2
              · subst hij
                rw [t2] at hi
                cases hi
                exact ⟨y, by rw [u3 _ _ _ (fun h => hba h.1)]; exact y1, u2⟩
              · obtain ⟨x, x1, x2⟩ := k3 (by omega)
                exact ⟨x, by rw [u3 _ _ _ (fun h => hba h.1)]; exact x1, by rw [u3 _ _ _ (fun h => hij h.2.2)]; exact x2⟩
            · exact hc1
          · exact hc1
        · exact hc1
      · exact hc1
    · exact hc1
  · exact hc1
theorem an_gCx {σ : List Int} {e : an_E} {x : Int32} {n : Nat} (h : an_ev σ e = some x.toInt) (hv : vp_in x n) : an_ev σ e = some ((x.toNatClampNeg : Nat) : Int) := by
  have := vp_in_iff.mp hv
  rw [h]
  congr 1
  exact (Int.toNat_of_nonneg this.1).symm
theorem an_spB_ok {B : an_B} (hB : an_ok B σ) {e : an_E} {c : Nat} (he : an_ev σ e = some (c : Int)) : ∀ n : Nat, c < n → ∃ B1, (c, B1) ∈ an_spB B e n ∧ an_ok B1 σ := by
  intro n
  induction n with
  | zero => intro h; omega
  | succ n ih =>
    intro h
    simp only [an_spB]
    by_cases hc : c = n
    · subst hc
      obtain ⟨B1, e1, e2⟩ := an_eq_ok (e2 := (0, (c : Int))) hB he rfl
      rw [e1]
      exact ⟨B1, List.mem_cons_self, e2⟩
    · obtain ⟨B1, m1, m2⟩ := ih (by omega)
      refine ⟨B1, ?_, m2⟩
      split
      · exact List.mem_cons_of_mem _ m1
      · exact m1
theorem an_all_ok {α β : Type} {f : α → Option β} : ∀ {xs : List α} {ys : List β}, an_all f xs = some ys → ∀ x ∈ xs, ∃ y ∈ ys, f x = some y := by
  intro xs
  induction xs with
  | nil => intro ys h x hx; cases hx
  | cons z xs ih =>
    intro ys h x hx
    simp only [an_all] at h
    split at h
    · rename_i y zs h1 h2
      cases h
      rcases List.mem_cons.mp hx with rfl | hx
      · exact ⟨y, List.mem_cons_self, h1⟩
      · obtain ⟨u, u1, u2⟩ := ih h2 x hx
        exact ⟨u, List.mem_cons_of_mem _ u1, u2⟩
    · cases h
theorem an_spl_ok {r : Nat} {e : an_E} {ps : List (an_S × an_V)} {x : Int32} (hB : an_ok S.1 σ) (h : an_spl S r e = some ps) (hx : an_ev σ e = some x.toInt) : ∃ (B1 : an_B) (c : Nat) (p : an_S × an_V), p ∈ ps ∧ an_ok B1 σ ∧ x.toInt = (c : Int) ∧ an_ald 3 (B1, S.2) r (0, (c : Int)) = some p := by
  unfold an_spl at h
  split at h
  · rename_i hb
    simp only [Bool.and_eq_true, decide_eq_true_eq] at hb
    obtain ⟨-, -, -, b1, b2⟩ := hb
    have l1 := an_lo_ok hB hx
    have u1 := an_hi_ok hB hx
    have hc : x.toInt = ((x.toInt.toNat : Nat) : Int) := by omega
    rw [hc] at hx
    obtain ⟨B1, m1, m2⟩ := an_spB_ok hB hx 4 (by omega)
    obtain ⟨p, p1, p2⟩ := an_all_ok h _ m1
    exact ⟨B1, _, p, p1, m2, hc, p2⟩
  · cases h
theorem an_shs_ok {x y : an_E} {qs : List (an_B × an_M × an_E)} {w : Int32} (hB : an_ok S.1 σ) (h : an_shs S x y = some qs) (hy : an_ev σ y = some w.toInt) : ∃ (B1 : an_B) (c : Nat) (q : an_B × an_M × an_E), q ∈ qs ∧ an_ok B1 σ ∧ w.toInt = (c : Int) ∧ an_ib .ishl B1 S.2.1 x (0, (c : Int)) = some q := by
  unfold an_shs at h
  split at h
  · rename_i hb
    simp only [Bool.and_eq_true, decide_eq_true_eq] at hb
    obtain ⟨-, -, -, -, b1, b2⟩ := hb
    have l1 := an_lo_ok hB hy
    have u1 := an_hi_ok hB hy
    have hc : w.toInt = ((w.toInt.toNat : Nat) : Int) := by omega
    rw [hc] at hy
    obtain ⟨B1, m1, m2⟩ := an_spB_ok hB hy 16 (by omega)
    obtain ⟨p, p1, p2⟩ := an_all_ok h _ m1
    exact ⟨B1, _, p, p1, m2, hc, p2⟩
  · cases h
theorem an_gl_ok (hg : an_g O X σ ρ κ (an_at ws) S) {r : Nat} : ∀ T : List an_T, (∀ f ∈ T, f ∈ S.2.2.2) → an_gl S T = some r → ∃ a, ρ[r]? = some a ∧ κ a = some an_KL ∧ an_rd (an_at ws) a 2 0 = some (.int 0) := by
  intro T
  induction T with
  | nil => intro _ h; cases h
  | cons f T ih =>
    intro hT h
    have tl := ih (fun f hf => hT f (List.mem_cons_of_mem _ hf))
    simp only [an_gl] at h
    split at h
    · rename_i r2 x e f9
      split at h
      · rename_i hb
        simp only [Bool.and_eq_true, an_nbq, beq_iff_eq] at hb
        cases h
        obtain ⟨b1, b2, b3⟩ := hb
        have b2 := an_eqE_ok b2
        subst b2
        rcases hg.2.2.2.2 _ (hT _ List.mem_cons_self) with ⟨h1, -⟩ | ⟨-, a, kd, j, w, e1, e2, e3, e4, e5⟩ | ⟨h1, -⟩
        · simp at h1
        rotate_left
        · simp at h1
        · simp only at e1 e3 e4 e5
          obtain ⟨y, rfl, e5⟩ := e5
          have hka := (hg.kind e1 (by rw [b1]; exact an_KLk.2.2)).1
          rw [b1] at hka
          have e6 := an_nrm_ok hg.1 e5
          rw [an_eqE_ok b3] at e6
          simp only [an_ev, Option.some.injEq] at e3 e6
          have hj : j = 0 := by omega
          subst hj
          have hy : y = 0 := Int32.toInt_inj.mp (by rw [← e6]; rfl)
          subst hy
          rw [an_rp_ne (by decide)] at e4
          exact ⟨a, e1, hka, e4⟩
      · exact tl h
    · exact tl h
theorem an_gr_ok {kd r : Nat} : ∀ R : List (Nat × Nat), an_grk kd R = some r → (r, kd) ∈ R := by
  intro R
  induction R with
  | nil => intro h; cases h
  | cons p R ih =>
    intro h
    simp only [an_grk] at h
    split at h
    · rename_i hb
      rw [an_nbq, beq_iff_eq] at hb
      cases h
      rw [← hb]
      exact List.mem_cons_self
    · exact List.mem_cons_of_mem _ (ih h)
theorem an_cst_ok {e : an_E} {c x : Int} (h : an_cst e = some c) (hx : an_ev σ e = some x) : x = c := by
  unfold an_cst at h
  split at h
  · rename_i hb
    rw [an_nbq, beq_iff_eq] at hb
    obtain ⟨e1, e2⟩ := e
    simp only at hb h
    subst hb
    cases h
    simp only [an_ev, Option.some.injEq] at hx
    exact hx.symm
  · cases h
theorem an_bit_bi (w : Int32) (i : Nat) : (an_btw w i).toInt = an_bi w.toInt.toNat i := by
  unfold an_btw an_bi
  split
  · decide
  · decide
theorem an_gx_ok (hg : an_g O X σ ρ κ (an_at ws) S) {rr q : Nat} {x : an_E} : ∀ T : List an_T, (∀ f ∈ T, f ∈ S.2.2.2) → an_gx rr q T = some x → ∃ (a j b : Nat), ρ[rr]? = some a ∧ ρ[q]? = some b ∧ an_ev σ x = some (j : Int) ∧ an_rd (an_at ws) a 1000 j = some (.ref b) := by
  intro T
  induction T with
  | nil => intro _ h; cases h
  | cons f T ih =>
    intro hT h
    simp only [an_gx, Bool.cond_eq_ite] at h
    split at h
    · rename_i hb
      simp only [Bool.and_eq_true, an_nbq, beq_iff_eq] at hb
      obtain ⟨b1, b2, b3, b4⟩ := hb
      cases h
      rcases hg.2.2.2.2 _ (hT _ List.mem_cons_self) with ⟨h1, -⟩ | ⟨-, a, kd, j, w, e1, e2, e3, e4, e5⟩ | ⟨h1, -⟩
      · rw [b2] at h1; cases h1
      rotate_left
      · rw [b2] at h1; cases h1
      · obtain ⟨f1, f2, f3, f4, f5, f6⟩ := f
        simp only at b1 b2 b3 b4 e1 e3 e4 e5
        subst b1 b2 b3 b4
        obtain ⟨b, rfl, e5⟩ := e5
        rw [an_rp_ne (by decide)] at e4
        exact ⟨a, j, b, e1, e5, e3, e4⟩
    · exact ih (fun f hf => hT f (List.mem_cons_of_mem _ hf)) h
theorem an_g8w_mem {S : an_S} {rm q c w : Nat} : ∀ {n : Nat}, w < n → (an_tadd (an_tadd S rm an_FMO (0, 0) (0, (0, (w : Int)), (0, 0))) q an_FO (0, 0) (0, (0, an_bi w c), (0, 0)), an_bi w c) ∈ an_g8w S rm q c n := by
  intro n
  induction n with
  | zero => intro h; omega
  | succ n ih =>
    intro h
    simp only [an_g8w]
    by_cases hw : w = n
    · subst hw; exact List.mem_cons_self
    · exact List.mem_cons_of_mem _ (ih (by omega))
theorem an_g8c_mem {S : an_S} {B1 : an_B} {rm q c w : Nat} {x : an_E} (he : an_eq S.1 x (0, (c : Int)) = some B1) (hw : w < 16) : ∀ {n : Nat}, c < n → (an_tadd (an_tadd (B1, S.2) rm an_FMO (0, 0) (0, (0, (w : Int)), (0, 0))) q an_FO (0, 0) (0, (0, an_bi w c), (0, 0)), an_bi w c) ∈ an_g8c S rm q x n := by
  intro n
  induction n with
  | zero => intro h; omega
  | succ n ih =>
    intro h
    simp only [an_g8c]
    by_cases hc : c = n
    · subst hc
      rw [he]
      exact List.mem_append_left _ (an_g8w_mem hw)
    · split
      · exact List.mem_append_right _ (ih (by omega))
      · exact ih (by omega)
theorem an_g8_ok (hc : an_cfg O X G S σ ρ κ ws) {q b rb : Nat} {Ss : List (an_S × Int)} (hr : ρ[q]? = some b) (h : an_g8 S q rb = some Ss) : ∃ p ∈ Ss, an_cfg O X G p.1 σ ρ κ ws ∧ ∃ y : Int32, y.toInt = p.2 ∧ an_rd (an_at ws) b rb 0 = some (.int y) := by
  unfold an_g8 at h
  split at h
  · rename_i hb
    rw [Bool.and_eq_true, an_nbq, an_nbq, beq_iff_eq, beq_iff_eq] at hb
    obtain ⟨rfl, hrk⟩ := hb
    split at h
    · rename_i g hg
      split at h
      · rename_i x hx
        split at h
        · rename_i hd
          rw [Bool.and_eq_true, Bool.and_eq_true, decide_eq_true_eq, decide_eq_true_eq] at hd
          obtain ⟨hd1, hd2, hd3⟩ := hd
          simp only [Option.some.injEq] at h
          subst h
          obtain ⟨q0, ar, am, d, q1, q2, q3, q4, q5, q6, w, j1, j2, j3, j4⟩ := an_gf8_ok hc.2.1 hg
          obtain ⟨z1, z2, z3, z4, z5, z6, z7, z8, z9, z10, z11, z12, z13, z14⟩ := an_FPk8
          obtain ⟨a, j, b2, x1, x2, x3, x4⟩ := an_gx_ok hc.2.1 _ (fun _ q => q) hx
          cases Option.some.inj (x1.symm.trans q2)
          cases Option.some.inj (x2.symm.trans hr)
          have l1 := an_lo_ok hc.2.1.1 x3
          have u1 := an_hi_ok hc.2.1.1 x3
          have hj : j < 4 := by omega
          rw [an_eqE_ok hd1] at q6
          simp only [an_ev, Option.some.injEq] at q6
          obtain ⟨b3, k1, k2, k3⟩ := j4 j hj
          rw [x4] at k1
          cases k1
          have k3 := k3 (by omega)
          obtain ⟨B1, e1, e2⟩ := an_eq_ok (e2 := (0, (j : Int))) hc.2.1.1 x3 rfl
          have hw : w.toInt.toNat < 16 := by omega
          refine ⟨_, an_g8c_mem e1 hw hj, ?_, an_btw w j, an_bit_bi w j, k3⟩
          have d1 : an_cfg O X G (B1, S.2) σ ρ κ ws := hc.num an_px.rf e2 hc.2.1.2.1
          have d2 := d1.add (r := g.2.2.2.2.1.1) (key := an_FMO) (x := (0, 0)) (v := (0, (0, (w.toInt.toNat : Int)), (0, 0))) q3 q5 (j := 0) rfl j1 ⟨w, rfl, by simp only [an_ev, Option.some.injEq]; omega⟩ (by omega)
          exact d2.add (r := q) (key := an_FO) (x := (0, 0)) (v := (0, (0, an_bi w.toInt.toNat j), (0, 0))) hr k2 (j := 0) rfl k3 ⟨an_btw w j, rfl, by rw [an_bit_bi]; rfl⟩ (by omega)
        · cases h
      · cases h
    · cases h
  · cases h
theorem an_gB8_ok {S1 : an_S} {ws2 : va_W} (hc : an_cfg O X G S σ ρ κ ws) (hc1 : an_cfg O X G S1 σ ρ κ ws2) {r a key : Nat} {v : an_V} {w : Value} (hr : ρ[r]? = some a) (hv : an_gv O σ ρ v w) (hu : an_upd (an_at ws) (an_at ws2) a key 0 w) : an_cfg O X G (an_gB8 S r key v S1) σ ρ κ ws2 := by
  unfold an_gB8
  split
  · rename_i hb
    rw [Bool.and_eq_true, an_nbq, an_nbq, beq_iff_eq, beq_iff_eq] at hb
    obtain ⟨rfl, hrk⟩ := hb
    split
    · rename_i g hg
      split
      · rename_i x hx
        split
        · rename_i hd
          rw [Bool.and_eq_true, Bool.and_eq_true, decide_eq_true_eq, decide_eq_true_eq] at hd
          obtain ⟨hd, hd2, hd3⟩ := hd
          obtain ⟨q0, ar, am, d, q1, q2, q3, q4, q5, q6, wb, j1, j2, j3, j4⟩ := an_gf8_ok hc.2.1 hg
          obtain ⟨z1, z2, z3, z4, z5, z6, z7, z8, z9, z10, z11, z12, z13, z14⟩ := an_FPk8
          obtain ⟨a2, j, b2, x1, x2, x3, x4⟩ := an_gx_ok hc.2.1 _ (fun _ q => q) hx
          cases Option.some.inj (x1.symm.trans q2)
          cases Option.some.inj (x2.symm.trans hr)
          rw [an_eqE_ok hd] at q6
          simp only [an_ev, Option.some.injEq] at q6
          have l1 := an_lo_ok hc.2.1.1 x3
          have u1 := an_hi_ok hc.2.1.1 x3
          have hj4 : j < 4 := by omega
          have hka := (hc.2.1.kind hr (by rw [hrk]; exact z9)).1
          rw [hrk] at hka
          obtain ⟨u1, u2, u3⟩ := id hu
          have m1 : an_rd (an_at ws2) am an_FMO 0 = some (.int wb) := by
            rw [u3 _ _ _ (by rintro ⟨rfl, -⟩; exact z12 (Option.some.inj (hka.symm.trans q5)))]
            exact j1
          have m2 : ∀ i, an_rd (an_at ws2) ar 1000 i = an_rd (an_at ws) ar 1000 i := fun i => u3 _ _ _ (by rintro ⟨-, h, -⟩; omega)
          split
          · rename_i eo f1 ev f2 ho
            split
            · rename_i hs
              obtain ⟨wo, o1, yo, rfl, o2⟩ := an_tg_ok hc.2.1 hr (j := 0) rfl ho (by omega)
              obtain ⟨yv, rfl, o3⟩ := hv
              have hyy : yo = yv := Int32.toInt_inj.mp (an_same_ok hc.2.1.1 hs o2 o3)
              subst hyy
              refine hc1.addG (Or.inr (Or.inl ⟨ar, am, -1, q0, q2, q3, q4, q5, rfl, wb, m1, j2, fun i i2 b h1 h2 => by rw [m2, m2]; exact j3 i i2 b h1 h2, fun i hi => ?_⟩))
              obtain ⟨b, k1, k2, k3⟩ := j4 i hi
              refine ⟨b, by rw [m2]; exact k1, k2, fun hd9 => ?_⟩
              by_cases hba : b = a
              · subst hba
                rw [u2]
                rw [k3 (by omega)] at o1
                exact o1.symm
              · rw [u3 _ _ _ (fun h => hba h.1)]
                exact k3 (by omega)
            · refine hc1.addG (Or.inr (Or.inl ⟨ar, am, (j : Int), rfl, q2, q3, q4, q5, an_nrm_ok hc.2.1.1 x3, wb, m1, j2, fun i i2 b h1 h2 => by rw [m2, m2]; exact j3 i i2 b h1 h2, fun i hi => ?_⟩))
              obtain ⟨b, k1, k2, k3⟩ := j4 i hi
              refine ⟨b, by rw [m2]; exact k1, k2, fun hd9 => ?_⟩
              have hba : b ≠ a := by
                rintro rfl
                exact hd9 (by rw [j3 i j _ hi hj4 k1 x4])
              rw [u3 _ _ _ (fun h => hba h.1)]
              exact k3 (by omega)
          · exact hc1
        · exact hc1
      · exact hc1
    · exact hc1
  · exact hc1
theorem an_okb_ok {c w1 w2 vo : Int} (h : an_okb c w1 w2 vo = true) : (0 ≤ c ∧ c < 4 ∧ 0 ≤ w1 ∧ 0 ≤ w2 ∧ w2 ≤ 15) ∧ (∀ i : Nat, i < 4 → (i : Int) ≠ c → w1.toNat.testBit i = w2.toNat.testBit i) ∧ vo = an_bi w2.toNat c.toNat := by
  simp only [an_okb, Bool.and_eq_true, decide_eq_true_eq, List.all_eq_true, List.mem_range, Bool.or_eq_true, beq_iff_eq] at h
  obtain ⟨⟨a1, a2, a3, a4, a5⟩, a6, a7⟩ := h
  refine ⟨⟨a1, a2, a3, a4, a5⟩, fun i hi hc => ?_, a7⟩
  rcases a6 i hi with h | h
  · exact absurd h hc
  · exact h
theorem an_gC8_ok {S1 : an_S} {ws2 : va_W} (hc : an_cfg O X G S σ ρ κ ws) (hc1 : an_cfg O X G S1 σ ρ κ ws2) {r a key : Nat} {v : an_V} {w : Value} (hr : ρ[r]? = some a) (hv : an_gv O σ ρ v w) (hu : an_upd (an_at ws) (an_at ws2) a key 0 w) : an_cfg O X G (an_gC8 S r key v S1) σ ρ κ ws2 := by
  unfold an_gC8
  split
  · rename_i hb
    rw [Bool.and_eq_true, an_nbq, an_nbq, beq_iff_eq, beq_iff_eq] at hb
    obtain ⟨rfl, hrk⟩ := hb
    split
    · rename_i g ev f9 hg
      split
      · rename_i ew f1 eo f2 x hw ho hx
        split
        · rename_i c w1 w2 vo c1 c2 c3 c4
          split
          · rename_i hd
            rw [Bool.and_eq_true, Bool.and_eq_true, an_nbq, beq_iff_eq] at hd
            obtain ⟨hd1, hd2, hd3⟩ := hd
            obtain ⟨⟨b1, b2, b3, b4, b5⟩, b6, b7⟩ := an_okb_ok hd3
            obtain ⟨q0, ar, am, d, q1, q2, q3, q4, q5, q6, wb, j1, j2, j3, j4⟩ := an_gf8_ok hc.2.1 hg
            obtain ⟨z1, z2, z3, z4, z5, z6, z7, z8, z9, z10, z11, z12, z13, z14⟩ := an_FPk8
            obtain ⟨a2, j, bq, x1, x2, x3, x4⟩ := an_gx_ok hc.2.1 _ (fun _ q => q) hx
            cases Option.some.inj (x1.symm.trans q2)
            rw [hd1, hr] at q3
            cases q3
            have hdc := an_cst_ok c1 q6
            have hjd : (j : Int) = d := an_same_ok hc.2.1.1 hd2 x3 q6
            have hj4 : j < 4 := by omega
            obtain ⟨ww, w3, yw, rfl, w4⟩ := an_tg_ok hc.2.1 hr (j := 0) rfl hw (by omega)
            rw [w3] at j1
            cases j1
            have hw1 := an_cst_ok c2 (an_nrm_ok hc.2.1.1 w4)
            obtain ⟨y2, rfl, y3⟩ := hv
            have hw2 := an_cst_ok c3 (an_nrm_ok hc.2.1.1 y3)
            obtain ⟨wo, o1, yo, rfl, o2⟩ := an_tg_ok hc.2.1 x2 (j := 0) rfl ho (by omega)
            have hwo := an_cst_ok c4 (an_nrm_ok hc.2.1.1 o2)
            obtain ⟨u1, u2, u3⟩ := id hu
            have m2 : ∀ i, an_rd (an_at ws2) ar 1000 i = an_rd (an_at ws) ar 1000 i := fun i => u3 _ _ _ (by rintro ⟨-, h, -⟩; omega)
            refine hc1.addG (Or.inr (Or.inl ⟨ar, a, -1, rfl, q2, hr, q4, q5, rfl, y2, u2, by omega, fun i i2 b h1 h2 => by rw [m2, m2]; exact j3 i i2 b h1 h2, fun i hi => ?_⟩))
            obtain ⟨b, k1, k2, k3⟩ := j4 i hi
            refine ⟨b, by rw [m2]; exact k1, k2, fun _ => ?_⟩
            have hba : b ≠ a := by
              rintro rfl
              exact z12 (Option.some.inj (k2.symm.trans q5))
            rw [u3 _ _ _ (fun h => hba h.1)]
            by_cases hij : i = j
            · subst hij
              rw [x4] at k1
              cases k1
              rw [o1]
              have : yo = an_btw y2 i := Int32.toInt_inj.mp (by rw [an_bit_bi, hwo, b7, hw2, ← hdc, ← hjd]; rfl)
              rw [this]
            · rw [k3 (by omega)]
              have hb9 := b6 i hi (by omega)
              rw [← hw1, ← hw2] at hb9
              simp only [an_btw, hb9]
          · exact hc1
        · exact hc1
      · exact hc1
    · exact hc1
  · exact hc1
theorem an_g0_ok (hg : an_g O X σ ρ κ (an_at ws) S) {r a key : Nat} (hr : ρ[r]? = some a) (hk : key < 1002) (h : an_g0 S r key = true) : an_rd (an_at ws) a key 0 = some (.int 0) := by
  unfold an_g0 at h
  split at h
  · rename_i e f ht
    obtain ⟨w, w1, y, rfl, w2⟩ := an_tg_ok hg hr (j := 0) rfl ht hk
    have w3 := an_nrm_ok hg.1 w2
    rw [an_eqE_ok h] at w3
    simp only [an_ev, Option.some.injEq] at w3
    have hy : y = 0 := Int32.toInt_inj.mp (by rw [← w3]; rfl)
    rw [w1, hy]
  · cases h
theorem an_gel_ok (hg : an_g O X σ ρ κ (an_at ws) S) {rr ar i q : Nat} (hr : ρ[rr]? = some ar) (h : an_gel S rr i = some q) : ∃ b, ρ[q]? = some b ∧ an_rd (an_at ws) ar 1000 i = some (.ref b) ∧ κ b = some an_KRd ∧ an_rd (an_at ws) b an_FO 0 = some (.int 0) := by
  obtain ⟨z1, z2, z3, z4, z5, z6, z7, z8, z9, z10, z11, z12, z13, z14⟩ := an_FPk8
  unfold an_gel at h
  split at h
  · rename_i qq f ht
    split at h
    · rename_i hb
      rw [Bool.and_eq_true, an_nbq, beq_iff_eq] at hb
      cases h
      obtain ⟨w, w1, b, rfl, w2⟩ := an_tg_ok hg hr (j := i) (x := (0, (i : Int))) rfl ht (by decide)
      have hkb := (hg.kind w2 (by rw [hb.2]; exact z9)).1
      rw [hb.2] at hkb
      exact ⟨b, w2, w1, hkb, an_g0_ok hg w2 (by omega) hb.1⟩
    · cases h
  · cases h
theorem an_gd_ok (hg : an_g O X σ ρ κ (an_at ws) S) {a b x y : Nat} (ha : ρ[a]? = some x) (hb : ρ[b]? = some y) : ∀ T : List an_T, (∀ f ∈ T, f ∈ S.2.2.2) → an_gd a b T = true → x ≠ y := by
  intro T
  induction T with
  | nil => intro _ h; cases h
  | cons f T ih =>
    intro hT h
    simp only [an_gd, Bool.or_eq_true] at h
    rcases h with h | h
    · simp only [Bool.and_eq_true, an_nbq, beq_iff_eq, Bool.or_eq_true] at h
      obtain ⟨h1, h2, h3⟩ := h
      rcases hg.2.2.2.2 _ (hT _ List.mem_cons_self) with ⟨h4, -⟩ | ⟨h4, -⟩ | ⟨-, h4⟩
      · rw [h1] at h4; cases h4
      · exact absurd h1 h4.2
      · rcases h4.tag with ⟨-, q⟩ | ⟨-, q⟩ | ⟨⟨u, v, -, u1, v1, huv⟩, -⟩
        · omega
        · omega
        · rcases h3 with ⟨h5, h6⟩ | ⟨h5, h6⟩
          · rw [h5, ha] at u1
            rw [h6, hb] at v1
            cases u1
            cases v1
            exact huv
          · rw [h5, hb] at u1
            rw [h6, ha] at v1
            cases u1
            cases v1
            exact huv.symm
    · exact ih (fun f hf => hT f (List.mem_cons_of_mem _ hf)) h
theorem an_gi8_ok (hc : an_cfg O X G S σ ρ κ ws) : an_cfg O X G (an_gi8 S) σ ρ κ ws := by
  unfold an_gi8
  split
  · split
    · rename_i rr rm h1 h2
      split
      · rename_i a b c d e1 e2 e3 e4
        split
        · rename_i hb
          simp only [Bool.and_eq_true] at hb
          obtain ⟨b0, b1, b2, b3, b4, b5, b6⟩ := hb
          have hg := hc.2.1
          obtain ⟨z1, z2, z3, z4, z5, z6, z7, z8, z9, z10, z11, z12, z13, z14⟩ := an_FPk8
          obtain ⟨ar, r1, r2⟩ := hg.2.2.1.2 _ (an_gr_ok _ h1)
          obtain ⟨am, m1, m2⟩ := hg.2.2.1.2 _ (an_gr_ok _ h2)
          obtain ⟨xa, a1, a2, a3, a4⟩ := an_gel_ok hg r1 e1
          obtain ⟨xb, b11, b12, b13, b14⟩ := an_gel_ok hg r1 e2
          obtain ⟨xc, c1, c2, c3, c4⟩ := an_gel_ok hg r1 e3
          obtain ⟨xd, d1, d2, d3, d4⟩ := an_gel_ok hg r1 e4
          have n1 := an_gd_ok hg a1 b11 _ (fun _ q => q) b1
          have n2 := an_gd_ok hg a1 c1 _ (fun _ q => q) b2
          have n3 := an_gd_ok hg a1 d1 _ (fun _ q => q) b3
          have n4 := an_gd_ok hg b11 c1 _ (fun _ q => q) b4
          have n5 := an_gd_ok hg b11 d1 _ (fun _ q => q) b5
          have n6 := an_gd_ok hg c1 d1 _ (fun _ q => q) b6
          have bz : ∀ i, an_btw 0 i = 0 := by
            intro i
            unfold an_btw
            rw [if_neg]
            rw [show (0 : Int32).toInt.toNat = 0 from by decide]
            simp
          refine hc.addG (Or.inr (Or.inl ⟨ar, am, -1, rfl, r1, m1, r2, m2, rfl, 0, an_g0_ok hg m1 (by omega) b0, by decide, ?_, ?_⟩))
          · intro i j e hi hj h3 h4
            have hx : ∀ k, k < 4 → an_rd (an_at ws) ar 1000 k = some (.ref e) → (k = 0 ∧ xa = e) ∨ (k = 1 ∧ xb = e) ∨ (k = 2 ∧ xc = e) ∨ (k = 3 ∧ xd = e) := by
              intro k hk h5
              rcases (show k = 0 ∨ k = 1 ∨ k = 2 ∨ k = 3 by omega) with rfl | rfl | rfl | rfl
              · rw [a2] at h5; cases h5; exact Or.inl ⟨rfl, rfl⟩
              · rw [b12] at h5; cases h5; exact Or.inr (Or.inl ⟨rfl, rfl⟩)
              · rw [c2] at h5; cases h5; exact Or.inr (Or.inr (Or.inl ⟨rfl, rfl⟩))
              · rw [d2] at h5; cases h5; exact Or.inr (Or.inr (Or.inr ⟨rfl, rfl⟩))
            have p1 := hx i hi h3
            have p2 := hx j hj h4
            omega
          · intro i hi
            rcases (show i = 0 ∨ i = 1 ∨ i = 2 ∨ i = 3 by omega) with rfl | rfl | rfl | rfl
            · exact ⟨xa, a2, a3, fun _ => by rw [bz]; exact a4⟩
            · exact ⟨xb, b12, b13, fun _ => by rw [bz]; exact b14⟩
            · exact ⟨xc, c2, c3, fun _ => by rw [bz]; exact c4⟩
            · exact ⟨xd, d2, d3, fun _ => by rw [bz]; exact d4⟩
        · exact hc
      · exact hc
    · exact hc
  · exact hc
theorem an_gNl_mem {r kd : Nat} {f : an_T} : ∀ {R : List (Nat × Nat)}, f ∈ an_gNl r kd R → ∃ p ∈ R, p.2 = kd ∧ f = (r, 1003, (0, (p.1 : Int)), (12, (p.1, 0), (0, 0))) := by
  intro R
  induction R with
  | nil => intro h; cases h
  | cons p R ih =>
    intro h
    simp only [an_gNl] at h
    split at h
    · rename_i hb
      rw [an_nbq, beq_iff_eq] at hb
      rcases List.mem_cons.mp h with rfl | h
      · exact ⟨p, List.mem_cons_self, hb, rfl⟩
      · obtain ⟨q, q1, q2⟩ := ih h
        exact ⟨q, List.mem_cons_of_mem _ q1, q2⟩
    · obtain ⟨q, q1, q2⟩ := ih h
      exact ⟨q, List.mem_cons_of_mem _ q1, q2⟩
theorem an_gN_ok {S1 : an_S} {κ2 : an_Ka} {ws2 : va_W} {a inf : Nat} (hc1 : an_cfg O X G S1 σ (ρ ++ [a]) κ2 ws2) (hR : an_rok κ ρ S.2.2.1) (hr : (ρ ++ [a])[S.2.2.1.1]? = some a) (hn : ∀ b, κ b ≠ none → b ≠ a) : an_cfg O X G (an_gN S inf S1) σ (ρ ++ [a]) κ2 ws2 := by
  unfold an_gN
  split
  · obtain ⟨h1, ⟨g1, g2, g3, g4, g5⟩, h3, h4⟩ := hc1
    refine ⟨h1, ⟨g1, g2, g3, g4, fun f hf => ?_⟩, h3, h4⟩
    rcases List.mem_append.mp hf with hf | hf
    · obtain ⟨p, p1, -, rfl⟩ := an_gNl_mem hf
      obtain ⟨b, b1, b2⟩ := hR.2 p p1
      exact Or.inr (Or.inr ⟨rfl, Or.inr (Or.inr ⟨a, b, rfl, hr, an_pr.one.ix b1, (hn b (by rw [b2]; simp)).symm⟩)⟩)
    · exact g5 f hf
  · exact hc1
theorem an_gi_ok (hc : an_cfg O X G S σ ρ κ ws) : an_cfg O X G (an_gi S) σ ρ κ ws := by
  unfold an_gi
  split
  · split
    · rename_i r ra h1 h2
      obtain ⟨a, a1, a2, a3⟩ := an_gl_ok hc.2.1 _ (fun _ q => q) h1
      obtain ⟨b, b1, b2⟩ := hc.2.1.2.2.1.2 _ (an_gr_ok _ h2)
      refine hc.addG (Or.inl ⟨a, b, -1, rfl, a1, b1, a2, b2, rfl, fun i c hi => ?_⟩)
      unfold an_rle at hi
      rw [a3] at hi
      split at hi
      · rename_i s e hs he
        cases hs
        split at hi
        · rename_i hi2
          have h0 : (0 : Int32).toInt = 0 := by decide
          rw [h0] at hi2
          omega
        · cases hi
      · cases hi
    · exact hc
  · exact hc
/-- an element is read -/
theorem an_ald_ok (h : an_cfg O X G S σ ρ κ ws) {tg r a : Nat} {e : an_E} {x : Int32} {S1 : an_S} {v : an_V} (ha : an_ald tg S r e = some (S1, v)) (htg : tg = 1 ∨ tg = 2 ∨ tg = 3) (hr : ρ[r]? = some a) (hx : an_ev σ e = some x.toInt) :
    ∃ (n : Nat) (xx : Nat) (w : Value) (σ2 : List Int) (ρ2 : List Nat), (an_at ws a).map an_sh = some (.inr (X (if tg = 1 then 0 else if tg = 2 then 1 else xx), n, if tg = 1 then 0 else if tg = 2 then 1 else 4)) ∧ (xx = 2 ∨ xx = 3) ∧ vp_in x n ∧ an_rd (an_at ws) a 1000 x.toNatClampNeg = some w ∧ an_px σ σ2 ∧ an_pr ρ ρ2 ∧ an_cfg O X G S1 σ2 ρ2 κ ws ∧ an_gv O σ2 ρ2 v w := by
  simp only [an_ald] at ha
  split at ha
  · rename_i hb
    simp only [Bool.and_eq_true, beq_iff_eq] at hb
    obtain ⟨hk, hin⟩ := hb
    have hk0 : an_rk S r ≠ 0 := by
      intro h0
      rw [h0] at hk
      have : (an_ki 0).1 = 9 := by decide +kernel
      omega
    obtain ⟨hka, hkh⟩ := h.2.1.kind hr hk0
    have main : ∃ (n : Nat) (xx : Nat), (an_at ws a).map an_sh = some (.inr (X (if tg = 1 then 0 else if tg = 2 then 1 else xx), n, if tg = 1 then 0 else if tg = 2 then 1 else 4)) ∧ (xx = 2 ∨ xx = 3) ∧ n < 2147483648 ∧ (an_ki (an_rk S r)).2.2.2.1 ≤ (n : Int) ∧ ∀ i, i < n → ∃ w, an_rd (an_at ws) a 1000 i = some w ∧ an_vt κ (an_ki (an_rk S r)).2.2.2.2.2 w := by
      unfold an_kh at hkh
      split at hkh
      · rename_i e0; rw [e0] at hk; simp only at hk; omega
      · rename_i e0
        rw [e0] at hk ⊢
        simp only at hk
        subst hk
        obtain ⟨n, q1, q2, q3, q4, q5⟩ := hkh
        exact ⟨n, 2, q1, Or.inl rfl, q2, q3, q5⟩
      · rename_i e0
        rw [e0] at hk ⊢
        simp only at hk
        subst hk
        obtain ⟨n, q1, q2, q3, q4, q5⟩ := hkh
        exact ⟨n, 2, q1, Or.inl rfl, q2, q3, q5⟩
      · rename_i e0
        rw [e0] at hk ⊢
        simp only at hk
        subst hk
        obtain ⟨n, q1, q9, q2, q3, q4, q5⟩ := hkh
        exact ⟨n, _, q1, q9, q2, q3, q5⟩
      · exact hkh.elim
    obtain ⟨n, xx, m1, m2, m3, m4, m5⟩ := main
    obtain ⟨b1, b2, b3⟩ := an_inb_ok h.2.1 hin hr m1 m3 m4 hx
    split at ha
    · rename_i v2 hv
      cases ha
      obtain ⟨w, w1, w2⟩ := an_tg_ok h.2.1 hr b2 hv (by decide)
      exact ⟨n, xx, w, σ, ρ, m1, m2, b1, w1, an_px.rf, an_pr.rf, h, w2⟩
    · split at ha
      · rename_i S2 v2 ht
        cases ha
        obtain ⟨w, w1, w2⟩ := m5 _ b3
        obtain ⟨σ2, ρ2, p1, p2, p3, p4⟩ := an_typ_ok h ht w2
        exact ⟨n, xx, w, σ2, ρ2, m1, m2, b1, w1, p1, p2, p3.add (p2.ix hr) hka (p1.ev b2) w1 p4 (by decide), p4⟩
      · cases ha
  · cases ha
end AN2
theorem an_nrmI {B : an_B} {σ : List Int} (hB : an_ok B σ) {e : an_E} {x : Int32} (h : an_ev σ e = some x.toInt) : an_ev σ (an_nrm B e) = some x.toInt := an_nrm_ok hB h
theorem an_rdI {μ : an_Mu} {a n j : Nat} {c : ClassId} {f : Nat → Int32} {w : Value} (h : μ a = some (.inl (c, n, .inl f))) (hw : an_rd μ a 1000 j = some w) : w = .int (f j) := by
  simp only [an_rd, h, Option.bind_some, an_rde] at hw
  simpa using hw.symm
theorem an_rdL {μ : an_Mu} {a n j : Nat} {c : ClassId} {f : Nat → Int64} {w : Value} (h : μ a = some (.inl (c, n, .inr (.inl f)))) (hw : an_rd μ a 1000 j = some w) : w = .long (f j) := by
  simp only [an_rd, h, Option.bind_some, an_rde] at hw
  simpa using hw.symm
theorem an_rdA {μ : an_Mu} {a n j : Nat} {c : ClassId} {f : Nat → Option Nat} {w : Value} (h : μ a = some (.inl (c, n, .inr (.inr (.inr (.inr f)))))) (hw : an_rd μ a 1000 j = some w) : w = va_rf (f j) := by
  simp only [an_rd, h, Option.bind_some, an_rde] at hw
  simpa using hw.symm
section AN3
variable {O : am_O} {X : Nat → ClassId} {G : an_G} {dk ds : Nat} {σ : List Int} {ρ : List Nat} {κ : an_Ka} {l : am_L} {stc : List Value} {k sl kA sA : Nat} {ws : va_W} {L : an_L} {st : List an_V} {S : an_S} {its : List an_It} {K : am_K}
/-- an element of a row of ints, of longs, of references is told -/
theorem an_ast_ok (h : an_cfg O X G S σ ρ κ ws) {tg r a : Nat} {e : an_E} {x : Int32} {S1 : an_S} {v : an_V} {w : Value} (ha : an_ast tg G.2.2.1 S r e v = some S1) (htg : tg = 1 ∨ tg = 2 ∨ tg = 3) (hr : ρ[r]? = some a) (hx : an_ev σ e = some x.toInt) (hv : an_gv O σ ρ v w) :
    ∃ (n xx : Nat), (an_at ws a).map an_sh = some (.inr (X (if tg = 1 then 0 else if tg = 2 then 1 else xx), n, if tg = 1 then 0 else if tg = 2 then 1 else 4)) ∧ (xx = 2 ∨ xx = 3) ∧ vp_in x n ∧ ((tg = 1 → ∃ y : Int32, w = .int y) ∧ (tg = 2 → ∃ y : Int64, w = .long y)) ∧ (tg = 3 → an_rdr S r v = true ∧ ((an_ki (an_rk S r)).2.1 = 2 → xx = 2)) ∧
      ∀ ws2, an_nd ws2 → an_upd (an_at ws) (an_at ws2) a 1000 x.toNatClampNeg w → an_cfg O X G S1 σ ρ κ ws2 := by
  simp only [an_ast] at ha
  split at ha
  · rename_i hb
    cases ha
    simp only [Bool.and_eq_true, beq_iff_eq, Bool.or_eq_true, bne_iff_ne, ne_eq] at hb
    obtain ⟨hk, hin, hfit, hm, hrd⟩ := hb
    have hk0 : an_rk S r ≠ 0 := by
      intro h0
      rw [h0] at hk
      have : (an_ki 0).1 = 9 := by decide +kernel
      omega
    have hkl : an_rk S r ≠ an_KL := by
      intro h0
      rw [h0] at hk
      have := an_KLk.1
      omega
    obtain ⟨hka, hkh⟩ := h.2.1.kind hr hk0
    have hvt := an_fit_ok h.2.1 hv hfit
    have hkt : an_kt κ (an_rk S r) 1000 w := by
      unfold an_kt
      split
      · rename_i e0; rw [e0] at hk; simp only at hk; omega
      · rename_i e0; rw [e0] at hvt; exact fun _ => hvt
    have main : ∃ (n : Nat) (xx : Nat), (an_at ws a).map an_sh = some (.inr (X (if tg = 1 then 0 else if tg = 2 then 1 else xx), n, if tg = 1 then 0 else if tg = 2 then 1 else 4)) ∧ (xx = 2 ∨ xx = 3) ∧ n < 2147483648 ∧ (an_ki (an_rk S r)).2.2.2.1 ≤ (n : Int) ∧ (tg = 3 → (an_ki (an_rk S r)).2.1 = xx) := by
      unfold an_kh at hkh
      split at hkh
      · rename_i e0; rw [e0] at hk; simp only at hk; omega
      · rename_i e0
        rw [e0] at hk ⊢
        simp only at hk
        subst hk
        obtain ⟨n, q1, q2, q3, q4, q5⟩ := hkh
        exact ⟨n, 2, q1, Or.inl rfl, q2, q3, fun h => by omega⟩
      · rename_i e0
        rw [e0] at hk ⊢
        simp only at hk
        subst hk
        obtain ⟨n, q1, q2, q3, q4, q5⟩ := hkh
        exact ⟨n, 2, q1, Or.inl rfl, q2, q3, fun h => by omega⟩
      · rename_i e0
        rw [e0] at hk ⊢
        simp only at hk
        subst hk
        obtain ⟨n, q1, q9, q2, q3, q4, q5⟩ := hkh
        exact ⟨n, _, q1, q9, q2, q3, fun _ => rfl⟩
      · exact hkh.elim
    obtain ⟨n, xx, m1, m2, m3, m4, m5⟩ := main
    obtain ⟨b1, b2, b3⟩ := an_inb_ok h.2.1 hin hr m1 m3 m4 hx
    have hty : (tg = 1 → ∃ y : Int32, w = .int y) ∧ (tg = 2 → ∃ y : Int64, w = .long y) := by
      have hlt : an_rk S r < an_KT.length := an_ki_lt (by rcases htg with rfl | rfl | rfl <;> rw [hk] <;> decide)
      have hko := an_kok _ hlt
      constructor
      · rintro rfl
        rcases hkk : an_ki (an_rk S r) with ⟨k1, k2, k3, k4, k5, k6, k7, k8⟩
        rw [hkk] at hk hko hvt
        simp only at hk
        subst hk
        simp only [beq_iff_eq] at hko
        subst hko
        obtain ⟨y, rfl, -⟩ := hvt
        exact ⟨y, rfl⟩
      · rintro rfl
        rcases hkk : an_ki (an_rk S r) with ⟨k1, k2, k3, k4, k5, k6, k7, k8⟩
        rw [hkk] at hk hko hvt
        simp only at hk
        subst hk
        simp only [beq_iff_eq] at hko
        subst hko
        obtain ⟨y, rfl⟩ := hvt
        exact ⟨y, rfl⟩
    refine ⟨n, xx, m1, m2, b1, hty, fun h3 => ⟨?_, fun h2 => by rw [← m5 h3]; exact h2⟩, fun ws2 hn hu => h.put hr hk0 hkl hm hn hu hkt hv b2 (by decide)⟩
    rcases hrd with hrd | hrd
    · exact absurd h3 hrd
    · exact hrd
  · cases ha
/-- what an object's name stands for -/
theorem an_objK (h : an_cfg O X G S σ ρ κ ws) {r a ci : Nat} {tys : List an_Ty} {rest : Int × Int × an_Ty} (hr : ρ[r]? = some a) (hk : an_ki (an_rk S r) = (0, ci, tys, rest)) : κ a = some (an_rk S r) ∧ an_rk S r ≠ 0 ∧ ∃ fs, an_at ws a = some (.inr (ci, fs)) ∧ fs.length = tys.length ∧ tys.length < 1000 ∧ ∀ i t, tys[i]? = some t → ∃ w, fs[i]? = some w ∧ an_rd (an_at ws) a i 0 = some w ∧ an_vt κ t w := by
  have hk0 : an_rk S r ≠ 0 := by
    intro h0
    rw [h0] at hk
    have : (an_ki 0).1 = 9 := by decide +kernel
    rw [hk] at this
    cases this
  obtain ⟨hka, hkh⟩ := h.2.1.kind hr hk0
  unfold an_kh at hkh
  rw [hk] at hkh
  obtain ⟨lo, hi, t9⟩ := rest
  obtain ⟨h1, h2, h3⟩ := hkh
  obtain ⟨fs, q1, q2⟩ := an_obj h1
  refine ⟨hka, hk0, fs, q1, q2, h2, fun i t ht => ?_⟩
  obtain ⟨w, w1, w2⟩ := h3 i t ht
  have hi : i < tys.length := (List.getElem?_eq_some_iff.mp ht).1
  refine ⟨w, ?_, w1, w2⟩
  simp only [an_rd, q1, Option.bind_some, an_rde] at w1
  rw [if_pos (by first | exact ⟨by omega, rfl⟩ | exact ⟨by omega, trivial⟩)] at w1
  exact w1
end AN3
/-- a new row of a kind, its length named -/
theorem an_new_row {O : am_O} {X : Nat → ClassId} {G : an_G} {S : an_S} {σ : List Int} {ρ : List Nat} {κ : an_Ka} {ws : va_W} (h : an_cfg O X G S σ ρ κ ws) {a inf n : Nat} {c : ClassId} {z : (Nat → Int32) ⊕ (Nat → Int64) ⊕ (Nat → UInt32) ⊕ (Nat → UInt64) ⊕ (Nat → Option Nat)} {e : an_E} (hf : am_fresh ws a) (hkl : inf ≠ an_KL) (hn : n < 2147483648) (he : an_ev σ e = some (n : Int))
    (hkh : ∀ κ2 μ2, μ2 a = some (.inl (c, n, z)) → an_kh X κ2 μ2 a inf) (b : Bool) :
    an_cfg O X G (if b then (an_ref S inf true).1 else an_tadd (an_ref S inf true).1 S.2.2.1.1 1001 (0, 0) (0, e, (0, 0))) σ (ρ ++ [a]) (fun b => if b = a then some inf else κ b) (ws ++ [(a, .inl (c, n, z))]) ∧ an_gv O σ (ρ ++ [a]) (an_ref S inf true).2 (.ref a) := by
  have hat : an_at (ws ++ [(a, .inl (c, n, z))]) a = some (.inl (c, n, z)) := by rw [an_at_app hf, if_pos rfl]
  obtain ⟨c1, c2, c3, c4⟩ := h.new hf hkl (hkh _ _ hat)
  refine ⟨?_, c2⟩
  cases b with
  | true => exact c1
  | false =>
    refine c1.add c3 (kd := inf) (by simp) (j := 0) rfl (w := .int (Int32.ofNat n)) ?_ ⟨_, rfl, by rw [an_ofNat hn]; exact he⟩ (by decide)
    simp only [an_rd, hat, Option.bind_some, an_rde]
    simp
section AN4
variable {O : am_O} {X : Nat → ClassId} {G : an_G} {dk ds : Nat} {σ : List Int} {ρ : List Nat} {κ : an_Ka} {l : am_L} {stc : List Value} {k sl kA sA : Nat} {ws : va_W} {L : an_L} {st : List an_V} {S : an_S} {its : List an_It} {K : am_K}
theorem an_zrS_ok {κ2 : an_Ka} {ρ2 : List Nat} {ws2 : va_W} {r a kd : Nat} (hr : ρ2[r]? = some a) (hk : κ2 a = some kd) (hz : ∀ i, an_rd (an_at ws2) a 1000 i = some (.int 0)) : ∀ (n : Nat) (S1 : an_S), an_cfg O X G S1 σ ρ2 κ2 ws2 → an_cfg O X G (an_zrS r n S1) σ ρ2 κ2 ws2 := by
  intro n
  induction n with
  | zero => intro S1 h; exact h
  | succ n ih =>
    intro S1 h
    exact (ih S1 h).add (r := r) (key := 1000) (x := (0, (n : Int))) (v := (0, (0, 0), (0, 0))) hr hk (j := n) rfl (hz n) ⟨0, rfl, rfl⟩ (by decide)
theorem an_nz_ok {κ2 : an_Ka} {ρ2 : List Nat} {ws2 : va_W} {S1 : an_S} {r a kd tg : Nat} {n : an_E} (hc1 : an_cfg O X G S1 σ ρ2 κ2 ws2) (hr : ρ2[r]? = some a) (hk : κ2 a = some kd) (hz : tg = 1 → ∀ i, an_rd (an_at ws2) a 1000 i = some (.int 0)) : an_cfg O X G (an_nzS S r tg n S1) σ ρ2 κ2 ws2 := by
  unfold an_nzS
  split
  · rename_i hb
    rw [Bool.and_eq_true, an_nbq, beq_iff_eq] at hb
    split
    · split
      · exact an_zrS_ok hr hk (hz hb.2) _ _ hc1
      · exact hc1
    · exact hc1
  · exact hc1
theorem an_nwo_ok {tg w ra inf m pc : Nat} (h : an_nwo tg w ra inf m pc L st kA sA S = some its) (hc : an_icf O X G dk ds (0, L, st, kA, sA, S) σ ρ κ l stc k sl ws) (hK : an_Go O X G dk ds σ ρ its K) : ∃ (n : Nat) (rc : List Value), stc = .int (nI n) :: rc ∧ n ≤ 1000000 ∧ k + 1 ≤ am_mc m ∧ sl + n ≤ am_ms m ∧ (tg = 3 → ra = 2 ∨ ra = 3) ∧
    ∀ a, am_fresh ws a → ∀ (c : ClassId) (z : (Nat → Int32) ⊕ (Nat → Int64) ⊕ (Nat → UInt32) ⊕ (Nat → UInt64) ⊕ (Nat → Option Nat)), ((tg = 1 ∧ c = X 0 ∧ z = .inl (fun _ => 0)) ∨ (tg = 2 ∧ c = X 1 ∧ z = .inr (.inl (fun _ => 0))) ∨ (tg = 3 ∧ c = X ra ∧ z = .inr (.inr (.inr (.inr (fun _ => none)))))) → K (pc + w) l (.ref a :: rc) (k + 1) (sl + n) (ws ++ [(a, .inl (c, n, z))]) := by
  have hg : an_g O X σ ρ κ (an_at ws) S := hc.1.2.1
  have hL : an_lok O σ ρ L l := hc.2.1
  have hs : an_sok O σ ρ st stc := hc.2.2.1
  have hk := hc.2.2.2
  simp only at hk
  unfold an_nwo at h
  split at h
  · rename_i e f rest
    obtain ⟨w0, rc, rfl, ⟨x, rfl, hx⟩, h2⟩ := hs.cons
    split at h
    · rename_i hb
      obtain ⟨b1, b2, b3, b4, b5, b6, b7⟩ := hb
      have l1 := an_lo_ok hg.1 hx
      have u1 := an_hi_ok hg.1 hx
      obtain ⟨n, rfl, hn, hn2⟩ := an_nIof (x := x) (by omega)
      have hkl : inf ≠ an_KL := by
        rintro rfl
        have := an_KLk.1
        unfold an_zok an_zok1 an_zok2 an_zok3 at b7
        rcases hq : an_ki an_KL with ⟨q1, q2, q3, q4, q5, q6, q7, q8⟩
        rw [hq] at this b7
        simp only at this
        subst this
        split at b7 <;> simp at b7
      refine ⟨n, rc, rfl, by omega, by omega, by omega, ?_, fun a ha c z hz => ?_⟩
      · rintro rfl
        simp only [an_zok, an_zok3] at b7
        split at b7
        · simp only [Bool.and_eq_true, Bool.or_eq_true, beq_iff_eq] at b7
          exact b7.2
        · cases b7
      · have hkh : ∀ κ2 μ2, μ2 a = some (.inl (c, n, z)) → an_kh X κ2 μ2 a inf := by
          intro κ2 μ2 hm
          rcases hz with ⟨rfl, rfl, rfl⟩ | ⟨rfl, rfl, rfl⟩ | ⟨rfl, rfl, rfl⟩
          · simp only [an_zok, an_zok1] at b7
            split at b7
            · rename_i lo hi l0 h0 hq
              simp only [Bool.and_eq_true, decide_eq_true_eq] at b7
              rw [hq] at b2 b3
              simp only at b2 b3
              unfold an_kh
              rw [hq]
              exact ⟨n, by rw [hm]; rfl, hn2, by omega, by omega, fun i hi2 => ⟨.int 0, by simp only [an_rd, hm, Option.bind_some, an_rde]; simp, 0, rfl, by simpa using b7.1, by simpa using b7.2⟩⟩
            · cases b7
          · simp only [an_zok, an_zok2] at b7
            split at b7
            · rename_i lo hi l0 h0 hq
              rw [hq] at b2 b3
              simp only at b2 b3
              unfold an_kh
              rw [hq]
              exact ⟨n, by rw [hm]; rfl, hn2, by omega, by omega, fun i hi2 => ⟨.long 0, by simp only [an_rd, hm, Option.bind_some, an_rde]; simp, 0, rfl⟩⟩
            · cases b7
          · simp only [an_zok, an_zok3] at b7
            split at b7
            · rename_i x9 lo hi l0 h0 hq
              simp only [Bool.and_eq_true, Bool.or_eq_true, beq_iff_eq] at b7
              obtain ⟨rfl, b8⟩ := b7
              rw [hq] at b2 b3
              simp only at b2 b3
              unfold an_kh
              rw [hq]
              exact ⟨n, by rw [hm]; rfl, b8, hn2, by omega, by omega, fun i hi2 => ⟨va_rf none, by simp only [an_rd, hm, Option.bind_some, an_rde]; simp, none, rfl⟩⟩
            · cases b7
        have he : an_ev σ e = some (n : Int) := by rw [← hn]; exact hx
        by_cases hp : (an_ki inf).2.2.2.1 = (an_ki inf).2.2.2.2.1
        · rw [if_pos hp] at h
          obtain ⟨c1, c2⟩ := an_new_row hc.1 ha hkl hn2 he hkh true
          have hr9 : (ρ ++ [a])[S.2.2.1.1]? = some a := by
            obtain ⟨b9, e9, e10⟩ := id c2
            cases e9
            exact e10
          refine an_go1 h hK an_px.rf an_pr.one ⟨an_nz_ok c1 hr9 (kd := inf) (by simp) (fun ht i => ?_), hL.px an_px.rf an_pr.one, ⟨c2, h2.px an_px.rf an_pr.one⟩, by simp only; omega, by simp only; omega⟩
          rcases hz with ⟨-, rfl, rfl⟩ | ⟨h9, -⟩ | ⟨h9, -⟩
          · simp only [an_rd, an_at_app ha, if_true, Option.bind_some, an_rde]
            simp
          · omega
          · omega
        · rw [if_neg hp] at h
          obtain ⟨c1, c2⟩ := an_new_row hc.1 ha hkl hn2 he hkh false
          exact an_go1 h hK an_px.rf an_pr.one ⟨c1, hL.px an_px.rf an_pr.one, ⟨c2, h2.px an_px.rf an_pr.one⟩, by simp only; omega, by simp only; omega⟩
    · cases h
  · cases h
theorem an_zf_ok {v : Value} {t : an_Ty} (h : an_zf (v, t) = true) : (∃ lo hi, v = .int 0 ∧ t = (0, lo, hi) ∧ lo ≤ 0 ∧ 0 ≤ hi) ∨ (v = .null ∧ ∃ a b, t = (2, a, b)) := by
  unfold an_zf at h
  split at h
  · rename_i x lo hi heq
    cases heq
    simp only [Bool.and_eq_true, decide_eq_true_eq] at h
    obtain ⟨rfl, h1, h2⟩ := h
    exact Or.inl ⟨lo, hi, rfl, rfl, h1, h2⟩
  · rename_i heq
    cases heq
    exact Or.inr ⟨rfl, _, _, rfl⟩
  · cases h
theorem an_nwb_ok {ra rb inf m pc : Nat} {ix : Nat} {Cl : Nat → List Value → va_W → am_Q → Prop} {Q : am_Q} (h : an_nwb ra inf m pc L st kA sA S = some its) (hc : an_icf O X G dk ds (0, L, st, kA, sA, S) σ ρ κ l stc k sl ws) (hK : an_Go O X G dk ds σ ρ its K) : am_step O X K Cl Q m pc (.new ix) ra rb l stc k sl ws := by
  have hg : an_g O X σ ρ κ (an_at ws) S := hc.1.2.1
  have hL : an_lok O σ ρ L l := hc.2.1
  have hs : an_sok O σ ρ st stc := hc.2.2.1
  have hk := hc.2.2.2
  simp only at hk
  unfold an_nwb at h
  split at h
  · rename_i ci tys r9 hki
    split at h
    · rename_i hb
      simp only [Bool.and_eq_true, beq_iff_eq, Bool.not_eq_true', beq_eq_false_iff_ne, ne_eq, decide_eq_true_eq, List.all_eq_true] at hb
      obtain ⟨⟨rfl, hkl⟩, b1, b2, b3, b4⟩ := hb
      have hlt : inf < an_KT.length := an_ki_lt (by rw [hki]; simp)
      have hko := an_kok _ hlt
      rw [hki] at hko
      simp only [Bool.and_eq_true, decide_eq_true_eq] at hko
      have hl9 := hko.2.1
      simp only [am_step]
      rw [if_neg (by omega)]
      refine ⟨by omega, by simp only [Nat.add_sub_cancel]; omega, fun a ha => ?_⟩
      simp only [Nat.add_sub_cancel]
      have hat : an_at (ws ++ [(a, .inr (ci, am_dflt ci))]) a = some (.inr (ci, am_dflt ci)) := by rw [an_at_app ha, if_pos rfl]
      have hpair : ∀ (i : Nat) (v : Value) (t : an_Ty), (am_dflt ci)[i]? = some v → tys[i]? = some t → an_zf (v, t) = true := by
        intro i v t h1 h2
        refine b4 (v, t) (List.mem_of_getElem? (i := i) ?_)
        rw [List.getElem?_zip_eq_some]
        exact ⟨h1, h2⟩
      have hrd : ∀ (i : Nat) (v : Value), i < 1000 → (am_dflt ci)[i]? = some v → an_rd (an_at (ws ++ [(a, .inr (ci, am_dflt ci))])) a i 0 = some v := by
        intro i v hi h1
        simp only [an_rd, hat, Option.bind_some, an_rde]
        rw [if_pos (by first | exact ⟨hi, rfl⟩ | exact ⟨hi, trivial⟩)]
        exact h1
      have hkh : an_kh X (fun b => if b = a then some inf else κ b) (an_at (ws ++ [(a, .inr (ci, am_dflt ci))])) a inf := by
        unfold an_kh
        rw [hki]
        refine ⟨by rw [hat]; simp [an_sh, b3], hl9, fun i t ht => ?_⟩
        have hi : i < (am_dflt ci).length := by rw [b3]; exact (List.getElem?_eq_some_iff.mp ht).1
        have hv := List.getElem?_eq_getElem hi
        refine ⟨_, hrd i _ (by omega) hv, ?_⟩
        have hz := hpair i _ t hv ht
        generalize (am_dflt ci)[i] = v at hz
        rcases an_zf_ok hz with ⟨lo, hi, rfl, rfl, h1, h2⟩ | ⟨rfl, x1, x2, rfl⟩
        · exact ⟨0, rfl, by simpa using h1, by simpa using h2⟩
        · exact ⟨none, rfl⟩
      obtain ⟨⟨c1, ⟨g1, g2, g3, g4, g5⟩, g6, g7⟩, c2, c3, c4⟩ := hc.1.new ha hkl hkh
      refine an_go1 h hK an_px.rf an_pr.one ⟨an_gN_ok (inf := inf) ⟨c1, ⟨g1, g2, g3, g4, fun f hf => ?_⟩, g6, g7⟩ hg.2.2.1 c3 c4, hL.px an_px.rf an_pr.one, ⟨c2, hs.px an_px.rf an_pr.one⟩, by simp only; omega, by simp only; omega⟩
      rcases List.mem_append.mp hf with hf | hf
      · obtain ⟨i, x, h1, rfl⟩ := an_zeros_mem hf
        have hi : i < (am_dflt ci).length := (List.getElem?_eq_some_iff.mp h1).1
        have ht := List.getElem?_eq_getElem (show i < tys.length by omega)
        have hz := hpair i _ _ h1 ht
        have hx : x = 0 := by
          rcases an_zf_ok hz with ⟨lo, hi, h1, -⟩ | ⟨h1, -⟩
          · exact Value.int.inj h1
          · cases h1
        subst hx
        refine Or.inr (Or.inl ⟨⟨by first | omega | (simp only; omega), by first | omega | (simp only; omega)⟩, a, inf, 0, .int 0, c3, by simp, rfl, ?_, 0, rfl, rfl⟩)
        rw [an_rp_ne (by first | omega | (simp only; omega))]
        simp only [Nat.zero_add]
        exact hrd i _ (by omega) h1
      · exact g5 f hf
    · cases h
  · cases h
end AN4
set_option maxHeartbeats 4000000 in
set_option maxRecDepth 100000 in
theorem an_one_ok {O : am_O} {X : Nat → ClassId} {G : an_G} {dk ds : Nat} {σ : List Int} {ρ : List Nat} {κ : an_Ka} {l : am_L} {stc : List Value} {k sl kA sA : Nat} {ws : va_W} {L : an_L} {st : List an_V} {S : an_S} {its : List an_It} {K : am_K}
    (hO : an_Ook O) {m pc : Nat} {i : Instr} {ra rb inf : Nat} {Cl : Nat → List Value → va_W → am_Q → Prop} {Q : am_Q} (hc : an_icf O X G dk ds (0, L, st, kA, sA, S) σ ρ κ l stc k sl ws) (h : an_one G.2.2.1 m pc i ra rb inf L st kA sA S = some its) (hK : an_Go O X G dk ds σ ρ its K) : am_step O X K Cl Q m pc i ra rb l stc k sl ws := by
  have hg : an_g O X σ ρ κ (an_at ws) S := hc.1.2.1
  have hL : an_lok O σ ρ L l := hc.2.1
  have hs : an_sok O σ ρ st stc := hc.2.2.1
  have hk := hc.2.2.2
  cases i <;> first | (simp only [an_one] at h; cases h; done) | skip
  case iconst q =>
    simp only [an_one] at h
    show K _ l _ k sl ws
    exact an_goS hc h hK ⟨⟨_, rfl, rfl⟩, hs⟩
  case bipush q =>
    simp only [an_one] at h
    show K _ l _ k sl ws
    exact an_goS hc h hK ⟨⟨_, rfl, rfl⟩, hs⟩
  case sipush q =>
    simp only [an_one] at h
    show K _ l _ k sl ws
    exact an_goS hc h hK ⟨⟨_, rfl, rfl⟩, hs⟩
  case lconst q =>
    simp only [an_one] at h
    show K _ l _ k sl ws
    exact an_goS hc h hK ⟨⟨_, rfl, rfl⟩, hs⟩
  case aconst_null =>
    simp only [an_one] at h
    show K _ l _ k sl ws
    exact an_goS hc h hK ⟨⟨none, rfl⟩, hs⟩
  case ldc q =>
    simp only [an_one] at h
    show K _ l _ k sl ws
    exact an_goS hc h hK ⟨⟨_, rfl, rfl⟩, hs⟩
  case ldc_w q =>
    simp only [an_one] at h
    show K _ l _ k sl ws
    exact an_goS hc h hK ⟨⟨_, rfl, rfl⟩, hs⟩
  case ldc2_w q =>
    simp only [an_one] at h
    show K _ l _ k sl ws
    exact an_goS hc h hK ⟨⟨_, rfl, rfl⟩, hs⟩
  case iload_n q =>
    simp only [an_one] at h
    split at h
    · rename_i e f hv
      obtain ⟨w, h1, x, rfl, h3⟩ := hL.get hv
      exact ⟨x, h1, an_goS hc h hK ⟨⟨x, rfl, h3⟩, hs⟩⟩
    · cases h
  case iload q =>
    simp only [an_one] at h
    split at h
    · rename_i e f hv
      obtain ⟨w, h1, x, rfl, h3⟩ := hL.get hv
      exact ⟨x, h1, an_goS hc h hK ⟨⟨x, rfl, h3⟩, hs⟩⟩
    · cases h
  case lload_n q =>
    simp only [an_one] at h
    split at h
    · rename_i e f hv
      obtain ⟨w, h1, x, rfl, h3⟩ := hL.get hv
      exact ⟨x, h1, an_goS hc h hK ⟨⟨x, rfl, h3⟩, hs⟩⟩
    · cases h
  case lload q =>
    simp only [an_one] at h
    split at h
    · rename_i e f hv
      obtain ⟨w, h1, x, rfl, h3⟩ := hL.get hv
      exact ⟨x, h1, an_goS hc h hK ⟨⟨x, rfl, h3⟩, hs⟩⟩
    · cases h
  case aload_n q =>
    simp only [an_one] at h
    split at h
    · rename_i e f hv
      obtain ⟨w, h1, x, rfl, h3⟩ := hL.get hv
      exact ⟨some x, h1, an_goS hc h hK ⟨⟨x, rfl, h3⟩, hs⟩⟩
    · rename_i e f hv
      obtain ⟨w, h1, x, rfl⟩ := hL.get hv
      exact ⟨x, h1, an_goS hc h hK ⟨⟨x, rfl⟩, hs⟩⟩
    · rename_i e f hv
      obtain ⟨w, h1, h2⟩ := hL.get hv
      cases h2
      exact ⟨some _, h1, an_goS hc h hK ⟨rfl, hs⟩⟩
    · cases h
  case aload q =>
    simp only [an_one] at h
    split at h
    · rename_i e f hv
      obtain ⟨w, h1, x, rfl, h3⟩ := hL.get hv
      exact ⟨some x, h1, an_goS hc h hK ⟨⟨x, rfl, h3⟩, hs⟩⟩
    · rename_i e f hv
      obtain ⟨w, h1, x, rfl⟩ := hL.get hv
      exact ⟨x, h1, an_goS hc h hK ⟨⟨x, rfl⟩, hs⟩⟩
    · rename_i e f hv
      obtain ⟨w, h1, h2⟩ := hL.get hv
      cases h2
      exact ⟨some _, h1, an_goS hc h hK ⟨rfl, hs⟩⟩
    · cases h
  case istore_n q =>
    cases st with
    | nil => simp [an_one] at h
    | cons v r =>
      obtain ⟨w, rc, rfl, h1, h2⟩ := hs.cons
      obtain ⟨t, e, f⟩ := v
      match t, h, h1 with
      | 0, h, h1 =>
        simp only [an_one] at h
        split at h
        · rename_i hj
          obtain ⟨x, rfl, h3⟩ := h1
          exact ⟨x, rc, rfl, hj, an_go1 h hK an_px.rf an_pr.rf ⟨hc.1, hL.put ⟨x, rfl, h3⟩, h2, hk⟩⟩
        · cases h
      | n + 1, h, h1 =>
        simp [an_one] at h
  case istore q =>
    cases st with
    | nil => simp [an_one] at h
    | cons v r =>
      obtain ⟨w, rc, rfl, h1, h2⟩ := hs.cons
      obtain ⟨t, e, f⟩ := v
      match t, h, h1 with
      | 0, h, h1 =>
        simp only [an_one] at h
        split at h
        · rename_i hj
          obtain ⟨x, rfl, h3⟩ := h1
          exact ⟨x, rc, rfl, hj, an_go1 h hK an_px.rf an_pr.rf ⟨hc.1, hL.put ⟨x, rfl, h3⟩, h2, hk⟩⟩
        · cases h
      | n + 1, h, h1 =>
        simp [an_one] at h
  case lstore_n q =>
    cases st with
    | nil => simp [an_one] at h
    | cons v r =>
      obtain ⟨w, rc, rfl, h1, h2⟩ := hs.cons
      obtain ⟨t, e, f⟩ := v
      match t, h, h1 with
      | 1, h, h1 =>
        simp only [an_one] at h
        split at h
        · rename_i hj
          obtain ⟨x, rfl, h3⟩ := h1
          exact ⟨x, rc, rfl, hj, an_go1 h hK an_px.rf an_pr.rf ⟨hc.1, hL.put2 ⟨x, rfl, h3⟩, h2, hk⟩⟩
        · cases h
      | 0, h, h1 =>
        simp [an_one] at h
      | n + 2, h, h1 =>
        simp [an_one] at h
  case lstore q =>
    cases st with
    | nil => simp [an_one] at h
    | cons v r =>
      obtain ⟨w, rc, rfl, h1, h2⟩ := hs.cons
      obtain ⟨t, e, f⟩ := v
      match t, h, h1 with
      | 1, h, h1 =>
        simp only [an_one] at h
        split at h
        · rename_i hj
          obtain ⟨x, rfl, h3⟩ := h1
          exact ⟨x, rc, rfl, hj, an_go1 h hK an_px.rf an_pr.rf ⟨hc.1, hL.put2 ⟨x, rfl, h3⟩, h2, hk⟩⟩
        · cases h
      | 0, h, h1 =>
        simp [an_one] at h
      | n + 2, h, h1 =>
        simp [an_one] at h
  case astore_n q =>
    cases st with
    | nil => simp [an_one] at h
    | cons v r =>
      obtain ⟨w, rc, rfl, h1, h2⟩ := hs.cons
      obtain ⟨t, e, f⟩ := v
      match t, h, h1 with
      | 2, h, h1 =>
        simp only [an_one] at h
        split at h
        · rename_i hj
          obtain ⟨x, rfl, h3⟩ := h1
          exact ⟨some x, rc, rfl, hj, an_go1 h hK an_px.rf an_pr.rf ⟨hc.1, hL.put ⟨x, rfl, h3⟩, h2, hk⟩⟩
        · cases h
      | 3, h, h1 =>
        simp only [an_one] at h
        split at h
        · rename_i hj
          obtain ⟨x, rfl⟩ := h1
          exact ⟨x, rc, rfl, hj, an_go1 h hK an_px.rf an_pr.rf ⟨hc.1, hL.put ⟨x, rfl⟩, h2, hk⟩⟩
        · cases h
      | 0, h, h1 =>
        simp [an_one] at h
      | 1, h, h1 =>
        simp [an_one] at h
      | n + 4, h, h1 =>
        simp [an_one] at h
  case astore q =>
    cases st with
    | nil => simp [an_one] at h
    | cons v r =>
      obtain ⟨w, rc, rfl, h1, h2⟩ := hs.cons
      obtain ⟨t, e, f⟩ := v
      match t, h, h1 with
      | 2, h, h1 =>
        simp only [an_one] at h
        split at h
        · rename_i hj
          obtain ⟨x, rfl, h3⟩ := h1
          exact ⟨some x, rc, rfl, hj, an_go1 h hK an_px.rf an_pr.rf ⟨hc.1, hL.put ⟨x, rfl, h3⟩, h2, hk⟩⟩
        · cases h
      | 3, h, h1 =>
        simp only [an_one] at h
        split at h
        · rename_i hj
          obtain ⟨x, rfl⟩ := h1
          exact ⟨x, rc, rfl, hj, an_go1 h hK an_px.rf an_pr.rf ⟨hc.1, hL.put ⟨x, rfl⟩, h2, hk⟩⟩
        · cases h
      | 0, h, h1 =>
        simp [an_one] at h
      | 1, h, h1 =>
        simp [an_one] at h
      | n + 4, h, h1 =>
        simp [an_one] at h
  case iinc q w =>
    simp only [an_one] at h
    split at h
    · rename_i e f hv
      obtain ⟨u, h1, x, rfl, h3⟩ := hL.get hv
      refine ⟨x, h1, ?_⟩
      obtain ⟨σ2, a, b, c, d⟩ := an_add_ok (y := Int32.ofInt w) (e2 := (0, (Int32.ofInt w).toInt)) hg.1 hg.2.1 h3 rfl
      exact an_go1 h hK a an_pr.rf ⟨hc.1.num a b c, (hL.px a an_pr.rf).put ⟨_, rfl, d⟩, hs.px a an_pr.rf, hk⟩
    · cases h
  case iadd =>
    cases st with
    | nil => simp [an_one] at h
    | cons v r =>
      cases r with
      | nil => obtain ⟨t, e, f⟩ := v; simp [an_one] at h
      | cons v2 r =>
        obtain ⟨w, rc, rfl, h1, h2⟩ := hs.cons
        obtain ⟨w2, rc, rfl, h3, h4⟩ := h2.cons
        obtain ⟨t, e, f⟩ := v
        obtain ⟨t2, e2, f2⟩ := v2
        by_cases ht : t = 0 ∧ t2 = 0
        · obtain ⟨rfl, rfl⟩ := ht
          obtain ⟨y, rfl, h5⟩ := h1
          obtain ⟨x, rfl, h6⟩ := h3
          simp only [an_one] at h
          split at h
          · rename_i q hq
            obtain ⟨z, hz, hr⟩ := an_ib_ok hg.1 hg.2.1 hq h6 h5
            exact ⟨x, y, z, rc, rfl, hz, an_goN hc hr h hK h4⟩
          · cases h
        · simp only [an_one] at h
          split at h
          · rename_i heq
            simp only [List.cons.injEq, Prod.mk.injEq] at heq
            exact absurd ⟨heq.1.1, heq.2.1.1⟩ ht
          · cases h
  case isub =>
    cases st with
    | nil => simp [an_one] at h
    | cons v r =>
      cases r with
      | nil => obtain ⟨t, e, f⟩ := v; simp [an_one] at h
      | cons v2 r =>
        obtain ⟨w, rc, rfl, h1, h2⟩ := hs.cons
        obtain ⟨w2, rc, rfl, h3, h4⟩ := h2.cons
        obtain ⟨t, e, f⟩ := v
        obtain ⟨t2, e2, f2⟩ := v2
        by_cases ht : t = 0 ∧ t2 = 0
        · obtain ⟨rfl, rfl⟩ := ht
          obtain ⟨y, rfl, h5⟩ := h1
          obtain ⟨x, rfl, h6⟩ := h3
          simp only [an_one] at h
          split at h
          · rename_i q hq
            obtain ⟨z, hz, hr⟩ := an_ib_ok hg.1 hg.2.1 hq h6 h5
            exact ⟨x, y, z, rc, rfl, hz, an_goN hc hr h hK h4⟩
          · cases h
        · simp only [an_one] at h
          split at h
          · rename_i heq
            simp only [List.cons.injEq, Prod.mk.injEq] at heq
            exact absurd ⟨heq.1.1, heq.2.1.1⟩ ht
          · cases h
  case imul =>
    cases st with
    | nil => simp [an_one] at h
    | cons v r =>
      cases r with
      | nil => obtain ⟨t, e, f⟩ := v; simp [an_one] at h
      | cons v2 r =>
        obtain ⟨w, rc, rfl, h1, h2⟩ := hs.cons
        obtain ⟨w2, rc, rfl, h3, h4⟩ := h2.cons
        obtain ⟨t, e, f⟩ := v
        obtain ⟨t2, e2, f2⟩ := v2
        by_cases ht : t = 0 ∧ t2 = 0
        · obtain ⟨rfl, rfl⟩ := ht
          obtain ⟨y, rfl, h5⟩ := h1
          obtain ⟨x, rfl, h6⟩ := h3
          simp only [an_one] at h
          split at h
          · rename_i q hq
            obtain ⟨z, hz, hr⟩ := an_ib_ok hg.1 hg.2.1 hq h6 h5
            exact ⟨x, y, z, rc, rfl, hz, an_goN hc hr h hK h4⟩
          · cases h
        · simp only [an_one] at h
          split at h
          · rename_i heq
            simp only [List.cons.injEq, Prod.mk.injEq] at heq
            exact absurd ⟨heq.1.1, heq.2.1.1⟩ ht
          · cases h
  case iand =>
    cases st with
    | nil => simp [an_one] at h
    | cons v r =>
      cases r with
      | nil => obtain ⟨t, e, f⟩ := v; simp [an_one] at h
      | cons v2 r =>
        obtain ⟨w, rc, rfl, h1, h2⟩ := hs.cons
        obtain ⟨w2, rc, rfl, h3, h4⟩ := h2.cons
        obtain ⟨t, e, f⟩ := v
        obtain ⟨t2, e2, f2⟩ := v2
        by_cases ht : t = 0 ∧ t2 = 0
        · obtain ⟨rfl, rfl⟩ := ht
          obtain ⟨y, rfl, h5⟩ := h1
          obtain ⟨x, rfl, h6⟩ := h3
          simp only [an_one] at h
          split at h
          · rename_i q hq
            obtain ⟨z, hz, hr⟩ := an_ib_ok hg.1 hg.2.1 hq h6 h5
            exact ⟨x, y, z, rc, rfl, hz, an_goN hc hr h hK h4⟩
          · cases h
        · simp only [an_one] at h
          split at h
          · rename_i heq
            simp only [List.cons.injEq, Prod.mk.injEq] at heq
            exact absurd ⟨heq.1.1, heq.2.1.1⟩ ht
          · cases h
  case ior =>
    cases st with
    | nil => simp [an_one] at h
    | cons v r =>
      cases r with
      | nil => obtain ⟨t, e, f⟩ := v; simp [an_one] at h
      | cons v2 r =>
        obtain ⟨w, rc, rfl, h1, h2⟩ := hs.cons
        obtain ⟨w2, rc, rfl, h3, h4⟩ := h2.cons
        obtain ⟨t, e, f⟩ := v
        obtain ⟨t2, e2, f2⟩ := v2
        by_cases ht : t = 0 ∧ t2 = 0
        · obtain ⟨rfl, rfl⟩ := ht
          obtain ⟨y, rfl, h5⟩ := h1
          obtain ⟨x, rfl, h6⟩ := h3
          simp only [an_one] at h
          split at h
          · rename_i q hq
            obtain ⟨z, hz, hr⟩ := an_ib_ok hg.1 hg.2.1 hq h6 h5
            exact ⟨x, y, z, rc, rfl, hz, an_goN hc hr h hK h4⟩
          · cases h
        · simp only [an_one] at h
          split at h
          · rename_i heq
            simp only [List.cons.injEq, Prod.mk.injEq] at heq
            exact absurd ⟨heq.1.1, heq.2.1.1⟩ ht
          · cases h
  case ixor =>
    cases st with
    | nil => simp [an_one] at h
    | cons v r =>
      cases r with
      | nil => obtain ⟨t, e, f⟩ := v; simp [an_one] at h
      | cons v2 r =>
        obtain ⟨w, rc, rfl, h1, h2⟩ := hs.cons
        obtain ⟨w2, rc, rfl, h3, h4⟩ := h2.cons
        obtain ⟨t, e, f⟩ := v
        obtain ⟨t2, e2, f2⟩ := v2
        by_cases ht : t = 0 ∧ t2 = 0
        · obtain ⟨rfl, rfl⟩ := ht
          obtain ⟨y, rfl, h5⟩ := h1
          obtain ⟨x, rfl, h6⟩ := h3
          simp only [an_one] at h
          split at h
          · rename_i q hq
            obtain ⟨z, hz, hr⟩ := an_ib_ok hg.1 hg.2.1 hq h6 h5
            exact ⟨x, y, z, rc, rfl, hz, an_goN hc hr h hK h4⟩
          · cases h
        · simp only [an_one] at h
          split at h
          · rename_i heq
            simp only [List.cons.injEq, Prod.mk.injEq] at heq
            exact absurd ⟨heq.1.1, heq.2.1.1⟩ ht
          · cases h
  case ishl =>
    cases st with
    | nil => simp [an_one] at h
    | cons v r =>
      cases r with
      | nil => obtain ⟨t, e, f⟩ := v; simp [an_one] at h
      | cons v2 r =>
        obtain ⟨w, rc, rfl, h1, h2⟩ := hs.cons
        obtain ⟨w2, rc, rfl, h3, h4⟩ := h2.cons
        obtain ⟨t, e, f⟩ := v
        obtain ⟨t2, e2, f2⟩ := v2
        by_cases ht : t = 0 ∧ t2 = 0
        · obtain ⟨rfl, rfl⟩ := ht
          obtain ⟨y, rfl, h5⟩ := h1
          obtain ⟨x, rfl, h6⟩ := h3
          simp only [an_one] at h
          split at h
          · rename_i qs hqs
            obtain ⟨B1, c, q, q1, q2, q3, q4⟩ := an_shs_ok hg.1 hqs h5
            obtain ⟨z, hz, σ2, p1, p2, p3, p4⟩ := an_ib_ok q2 hg.2.1 q4 h6 (show an_ev σ (0, (c : Int)) = some y.toInt from by rw [q3]; rfl)
            simp only [Option.some.injEq] at h
            subst h
            exact ⟨x, y, z, rc, rfl, hz, hK _ (List.mem_map.mpr ⟨q, q1, rfl⟩) σ2 ρ κ l _ k sl ws p1 an_pr.rf ⟨hc.1.num p1 p2 p3, hL.px p1 an_pr.rf, ⟨⟨z, rfl, p4⟩, h4.px p1 an_pr.rf⟩, hk⟩⟩
          split at h
          · rename_i q hq
            obtain ⟨z, hz, hr⟩ := an_ib_ok hg.1 hg.2.1 hq h6 h5
            exact ⟨x, y, z, rc, rfl, hz, an_goN hc hr h hK h4⟩
          · cases h
        · simp only [an_one] at h
          split at h
          · rename_i heq
            simp only [List.cons.injEq, Prod.mk.injEq] at heq
            exact absurd ⟨heq.1.1, heq.2.1.1⟩ ht
          · cases h
  case ishr =>
    cases st with
    | nil => simp [an_one] at h
    | cons v r =>
      cases r with
      | nil => obtain ⟨t, e, f⟩ := v; simp [an_one] at h
      | cons v2 r =>
        obtain ⟨w, rc, rfl, h1, h2⟩ := hs.cons
        obtain ⟨w2, rc, rfl, h3, h4⟩ := h2.cons
        obtain ⟨t, e, f⟩ := v
        obtain ⟨t2, e2, f2⟩ := v2
        by_cases ht : t = 0 ∧ t2 = 0
        · obtain ⟨rfl, rfl⟩ := ht
          obtain ⟨y, rfl, h5⟩ := h1
          obtain ⟨x, rfl, h6⟩ := h3
          simp only [an_one] at h
          split at h
          · rename_i q hq
            obtain ⟨z, hz, hr⟩ := an_ib_ok hg.1 hg.2.1 hq h6 h5
            exact ⟨x, y, z, rc, rfl, hz, an_goN hc hr h hK h4⟩
          · cases h
        · simp only [an_one] at h
          split at h
          · rename_i heq
            simp only [List.cons.injEq, Prod.mk.injEq] at heq
            exact absurd ⟨heq.1.1, heq.2.1.1⟩ ht
          · cases h
  case iushr =>
    cases st with
    | nil => simp [an_one] at h
    | cons v r =>
      cases r with
      | nil => obtain ⟨t, e, f⟩ := v; simp [an_one] at h
      | cons v2 r =>
        obtain ⟨w, rc, rfl, h1, h2⟩ := hs.cons
        obtain ⟨w2, rc, rfl, h3, h4⟩ := h2.cons
        obtain ⟨t, e, f⟩ := v
        obtain ⟨t2, e2, f2⟩ := v2
        by_cases ht : t = 0 ∧ t2 = 0
        · obtain ⟨rfl, rfl⟩ := ht
          obtain ⟨y, rfl, h5⟩ := h1
          obtain ⟨x, rfl, h6⟩ := h3
          simp only [an_one] at h
          split at h
          · rename_i q hq
            obtain ⟨z, hz, hr⟩ := an_ib_ok hg.1 hg.2.1 hq h6 h5
            exact ⟨x, y, z, rc, rfl, hz, an_goN hc hr h hK h4⟩
          · cases h
        · simp only [an_one] at h
          split at h
          · rename_i heq
            simp only [List.cons.injEq, Prod.mk.injEq] at heq
            exact absurd ⟨heq.1.1, heq.2.1.1⟩ ht
          · cases h
  case idiv =>
    cases st with
    | nil => simp [an_one] at h
    | cons v r =>
      cases r with
      | nil => obtain ⟨t, e, f⟩ := v; simp [an_one] at h
      | cons v2 r =>
        obtain ⟨w, rc, rfl, h1, h2⟩ := hs.cons
        obtain ⟨w2, rc, rfl, h3, h4⟩ := h2.cons
        obtain ⟨t, e, f⟩ := v
        obtain ⟨t2, e2, f2⟩ := v2
        by_cases ht : t = 0 ∧ t2 = 0
        · obtain ⟨rfl, rfl⟩ := ht
          obtain ⟨y, rfl, h5⟩ := h1
          obtain ⟨x, rfl, h6⟩ := h3
          simp only [an_one] at h
          split at h
          · rename_i q hq
            obtain ⟨z, hz, hr⟩ := an_ib_ok hg.1 hg.2.1 hq h6 h5
            exact ⟨x, y, z, rc, rfl, hz, an_goN hc hr h hK h4⟩
          · cases h
        · simp only [an_one] at h
          split at h
          · rename_i heq
            simp only [List.cons.injEq, Prod.mk.injEq] at heq
            exact absurd ⟨heq.1.1, heq.2.1.1⟩ ht
          · cases h
  case irem =>
    cases st with
    | nil => simp [an_one] at h
    | cons v r =>
      cases r with
      | nil => obtain ⟨t, e, f⟩ := v; simp [an_one] at h
      | cons v2 r =>
        obtain ⟨w, rc, rfl, h1, h2⟩ := hs.cons
        obtain ⟨w2, rc, rfl, h3, h4⟩ := h2.cons
        obtain ⟨t, e, f⟩ := v
        obtain ⟨t2, e2, f2⟩ := v2
        by_cases ht : t = 0 ∧ t2 = 0
        · obtain ⟨rfl, rfl⟩ := ht
          obtain ⟨y, rfl, h5⟩ := h1
          obtain ⟨x, rfl, h6⟩ := h3
          simp only [an_one] at h
          split at h
          · rename_i q hq
            obtain ⟨z, hz, hr⟩ := an_ib_ok hg.1 hg.2.1 hq h6 h5
            exact ⟨x, y, z, rc, rfl, hz, an_goN hc hr h hK h4⟩
          · cases h
        · simp only [an_one] at h
          split at h
          · rename_i heq
            simp only [List.cons.injEq, Prod.mk.injEq] at heq
            exact absurd ⟨heq.1.1, heq.2.1.1⟩ ht
          · cases h
  case ladd =>
    cases st with
    | nil => simp [an_one] at h
    | cons v r =>
      cases r with
      | nil => obtain ⟨t, e, f⟩ := v; simp [an_one] at h
      | cons v2 r =>
        obtain ⟨w, rc, rfl, h1, h2⟩ := hs.cons
        obtain ⟨w2, rc, rfl, h3, h4⟩ := h2.cons
        obtain ⟨t, e, f⟩ := v
        obtain ⟨t2, e2, f2⟩ := v2
        by_cases ht : t = 1 ∧ t2 = 1
        · obtain ⟨rfl, rfl⟩ := ht
          obtain ⟨y, rfl, h5⟩ := h1
          obtain ⟨x, rfl, h6⟩ := h3
          simp only [an_one] at h
          split at h
          · rename_i q hq
            obtain ⟨z, hz, hr⟩ := an_lb_ok hg.1 hg.2.1 hq h6 h5
            exact ⟨x, y, z, rc, rfl, hz, an_goL hc hr h hK h4⟩
          · cases h
        · simp only [an_one] at h
          split at h
          · rename_i heq
            simp only [List.cons.injEq, Prod.mk.injEq] at heq
            exact absurd ⟨heq.1.1, heq.2.1.1⟩ ht
          · cases h
  case lsub =>
    cases st with
    | nil => simp [an_one] at h
    | cons v r =>
      cases r with
      | nil => obtain ⟨t, e, f⟩ := v; simp [an_one] at h
      | cons v2 r =>
        obtain ⟨w, rc, rfl, h1, h2⟩ := hs.cons
        obtain ⟨w2, rc, rfl, h3, h4⟩ := h2.cons
        obtain ⟨t, e, f⟩ := v
        obtain ⟨t2, e2, f2⟩ := v2
        by_cases ht : t = 1 ∧ t2 = 1
        · obtain ⟨rfl, rfl⟩ := ht
          obtain ⟨y, rfl, h5⟩ := h1
          obtain ⟨x, rfl, h6⟩ := h3
          simp only [an_one] at h
          split at h
          · rename_i q hq
            obtain ⟨z, hz, hr⟩ := an_lb_ok hg.1 hg.2.1 hq h6 h5
            exact ⟨x, y, z, rc, rfl, hz, an_goL hc hr h hK h4⟩
          · cases h
        · simp only [an_one] at h
          split at h
          · rename_i heq
            simp only [List.cons.injEq, Prod.mk.injEq] at heq
            exact absurd ⟨heq.1.1, heq.2.1.1⟩ ht
          · cases h
  case lmul =>
    cases st with
    | nil => simp [an_one] at h
    | cons v r =>
      cases r with
      | nil => obtain ⟨t, e, f⟩ := v; simp [an_one] at h
      | cons v2 r =>
        obtain ⟨w, rc, rfl, h1, h2⟩ := hs.cons
        obtain ⟨w2, rc, rfl, h3, h4⟩ := h2.cons
        obtain ⟨t, e, f⟩ := v
        obtain ⟨t2, e2, f2⟩ := v2
        by_cases ht : t = 1 ∧ t2 = 1
        · obtain ⟨rfl, rfl⟩ := ht
          obtain ⟨y, rfl, h5⟩ := h1
          obtain ⟨x, rfl, h6⟩ := h3
          simp only [an_one] at h
          split at h
          · rename_i q hq
            obtain ⟨z, hz, hr⟩ := an_lb_ok hg.1 hg.2.1 hq h6 h5
            exact ⟨x, y, z, rc, rfl, hz, an_goL hc hr h hK h4⟩
          · cases h
        · simp only [an_one] at h
          split at h
          · rename_i heq
            simp only [List.cons.injEq, Prod.mk.injEq] at heq
            exact absurd ⟨heq.1.1, heq.2.1.1⟩ ht
          · cases h
  case ldiv =>
    cases st with
    | nil => simp [an_one] at h
    | cons v r =>
      cases r with
      | nil => obtain ⟨t, e, f⟩ := v; simp [an_one] at h
      | cons v2 r =>
        obtain ⟨w, rc, rfl, h1, h2⟩ := hs.cons
        obtain ⟨w2, rc, rfl, h3, h4⟩ := h2.cons
        obtain ⟨t, e, f⟩ := v
        obtain ⟨t2, e2, f2⟩ := v2
        by_cases ht : t = 1 ∧ t2 = 1
        · obtain ⟨rfl, rfl⟩ := ht
          obtain ⟨y, rfl, h5⟩ := h1
          obtain ⟨x, rfl, h6⟩ := h3
          simp only [an_one] at h
          split at h
          · rename_i q hq
            obtain ⟨z, hz, hr⟩ := an_lb_ok hg.1 hg.2.1 hq h6 h5
            exact ⟨x, y, z, rc, rfl, hz, an_goL hc hr h hK h4⟩
          · cases h
        · simp only [an_one] at h
          split at h
          · rename_i heq
            simp only [List.cons.injEq, Prod.mk.injEq] at heq
            exact absurd ⟨heq.1.1, heq.2.1.1⟩ ht
          · cases h
  case lshl =>
    cases st with
    | nil => simp [an_one] at h
    | cons v r =>
      cases r with
      | nil => obtain ⟨t, e, f⟩ := v; simp [an_one] at h
      | cons v2 r =>
        obtain ⟨w, rc, rfl, h1, h2⟩ := hs.cons
        obtain ⟨w2, rc, rfl, h3, h4⟩ := h2.cons
        obtain ⟨t, e, f⟩ := v
        obtain ⟨t2, e2, f2⟩ := v2
        by_cases ht : t = 0 ∧ t2 = 1
        · obtain ⟨rfl, rfl⟩ := ht
          obtain ⟨y, rfl, h5⟩ := h1
          obtain ⟨x, rfl, h6⟩ := h3
          simp only [an_one] at h
          exact ⟨x, y, rc, rfl, an_goL hc (an_shl_ok hg.1 hg.2.1 h6 h5) h hK h4⟩
        · simp only [an_one] at h
          split at h
          · rename_i heq
            simp only [List.cons.injEq, Prod.mk.injEq] at heq
            exact absurd ⟨heq.1.1, heq.2.1.1⟩ ht
          · cases h
  case i2l =>
    cases st with
    | nil => simp [an_one] at h
    | cons v r =>
      obtain ⟨w, rc, rfl, h1, h2⟩ := hs.cons
      obtain ⟨t, e, f⟩ := v
      match t, h, h1 with
      | 0, h, h1 =>
        simp only [an_one] at h
        obtain ⟨x, rfl, h3⟩ := h1
        exact ⟨x, rc, rfl, an_goS hc h hK ⟨⟨x.toInt64, rfl, by rw [Int32.toInt_toInt64]; exact h3⟩, h2⟩⟩
      | n + 1, h, h1 =>
        simp [an_one] at h
  case l2i =>
    cases st with
    | nil => simp [an_one] at h
    | cons v r =>
      obtain ⟨w, rc, rfl, h1, h2⟩ := hs.cons
      obtain ⟨t, e, f⟩ := v
      match t, h, h1 with
      | 1, h, h1 =>
        simp only [an_one] at h
        obtain ⟨x, rfl, h3⟩ := h1
        split at h
        · rename_i hb
          have l1 := an_lo_ok hg.1 h3
          have u1 := an_hi_ok hg.1 h3
          exact ⟨x, rc, rfl, an_goS hc h hK ⟨⟨x.toInt32, rfl, by rw [Int64.toInt_toInt32, an_bm (n := x.toInt) (by omega) (by omega)]; exact h3⟩, h2⟩⟩
        · exact ⟨x, rc, rfl, an_goN hc (an_resF x.toInt32 hg.1 hg.2.1) h hK h2⟩
      | 0, h, h1 =>
        simp [an_one] at h
      | n + 2, h, h1 =>
        simp [an_one] at h
  case lcmp =>
    cases st with
    | nil => simp [an_one] at h
    | cons v r =>
      cases r with
      | nil => obtain ⟨t, e, f⟩ := v; simp [an_one] at h
      | cons v2 r =>
        obtain ⟨w, rc, rfl, h1, h2⟩ := hs.cons
        obtain ⟨w2, rc, rfl, h3, h4⟩ := h2.cons
        obtain ⟨t, e, f⟩ := v
        obtain ⟨t2, e2, f2⟩ := v2
        by_cases ht : t = 1 ∧ t2 = 1
        · obtain ⟨rfl, rfl⟩ := ht
          obtain ⟨y, rfl, h5⟩ := h1
          obtain ⟨x, rfl, h6⟩ := h3
          simp only [an_one] at h
          exact ⟨x, y, rc, rfl, an_goS hc h hK ⟨⟨x, y, rfl, h6, h5⟩, h4⟩⟩
        · simp only [an_one] at h
          split at h
          · rename_i heq
            simp only [List.cons.injEq, Prod.mk.injEq] at heq
            exact absurd ⟨heq.1.1, heq.2.1.1⟩ ht
          · cases h
  case ifCond cc off =>
    cases st with
    | nil => simp [an_one] at h
    | cons v r =>
      obtain ⟨w, rc, rfl, h1, h2⟩ := hs.cons
      obtain ⟨t, e, f⟩ := v
      match t, h, h1 with
      | 0, h, h1 =>
        simp only [an_one, Option.some.injEq] at h
        subst h
        obtain ⟨x, rfl, h3⟩ := h1
        have b := an_br_ok hc h3 (e2 := (0, 0)) (y := 0) rfl h2 hK
        exact ⟨x, rc, rfl, fun q => b.1 (an_cI_lt.mp q), fun q => b.2 (fun p => q (an_cI_lt.mpr p))⟩
      | 4, h, h1 =>
        simp only [an_one, Option.some.injEq] at h
        subst h
        obtain ⟨x, y, rfl, h3, h4⟩ := h1
        have b := an_br_ok hc h3 h4 h2 hK
        exact ⟨_, rc, rfl, fun q => b.1 (an_cmp_lt.mp q), fun q => b.2 (fun p => q (an_cmp_lt.mpr p))⟩
      | 1, h, h1 =>
        simp [an_one] at h
      | 2, h, h1 =>
        simp [an_one] at h
      | 3, h, h1 =>
        simp [an_one] at h
      | n + 5, h, h1 =>
        simp [an_one] at h
  case if_icmp cc off =>
    cases st with
    | nil => simp [an_one] at h
    | cons v r =>
      cases r with
      | nil => obtain ⟨t, e, f⟩ := v; simp [an_one] at h
      | cons v2 r =>
        obtain ⟨w, rc, rfl, h1, h2⟩ := hs.cons
        obtain ⟨w2, rc, rfl, h3, h4⟩ := h2.cons
        obtain ⟨t, e, f⟩ := v
        obtain ⟨t2, e2, f2⟩ := v2
        by_cases ht : t = 0 ∧ t2 = 0
        · obtain ⟨rfl, rfl⟩ := ht
          obtain ⟨y, rfl, h5⟩ := h1
          obtain ⟨x, rfl, h6⟩ := h3
          simp only [an_one] at h
          simp only [Option.some.injEq] at h
          subst h
          have b := an_br_ok hc h6 h5 h4 hK
          exact ⟨x, y, rc, rfl, fun q => b.1 (an_cI_lt.mp q), fun q => b.2 (fun p => q (an_cI_lt.mpr p))⟩
        · simp only [an_one] at h
          split at h
          · rename_i heq
            simp only [List.cons.injEq, Prod.mk.injEq] at heq
            exact absurd ⟨heq.1.1, heq.2.1.1⟩ ht
          · cases h
  case goto off =>
    simp only [an_one] at h
    show K _ l _ k sl ws
    exact an_goS hc h hK hs
  case tableswitch d lo hi offs =>
    cases st with
    | nil => simp [an_one] at h
    | cons v r =>
      obtain ⟨w, rc, rfl, h1, h2⟩ := hs.cons
      obtain ⟨t, e, f⟩ := v
      match t, h, h1 with
      | 0, h, h1 =>
        simp only [an_one] at h
        split at h
        · rename_i hb
          obtain ⟨x, rfl, h3⟩ := h1
          have go : ∀ (t : Nat) (B1 : an_B), an_ok B1 σ → (t, L, r, kA, sA, (B1, S.2)) ∈ its → K t l rc k sl ws := fun t B1 hB hm => hK _ hm σ ρ κ l rc k sl ws an_px.rf an_pr.rf ⟨hc.1.num an_px.rf hB hg.2.1, hL, h2, hk⟩
          have hin : ∀ it, it ∈ an_sw pc e S.1 (fun t B => (t, L, r, kA, sA, (B, S.2))) lo offs.toList → it ∈ its := by
            intro it hit
            cases h1' : an_le S.1 (0, hi) e (-1) with
            | none =>
              rw [h1'] at h
              simp only [Option.some.injEq] at h
              subst h
              cases h2' : an_le S.1 e (0, lo) (-1) with
              | none => exact hit
              | some B1 => exact List.mem_cons_of_mem _ hit
            | some B2 =>
              rw [h1'] at h
              simp only [Option.some.injEq] at h
              subst h
              refine List.mem_cons_of_mem _ ?_
              cases h2' : an_le S.1 e (0, lo) (-1) with
              | none => exact hit
              | some B1 => exact List.mem_cons_of_mem _ hit
          refine ⟨x, rc, rfl, fun ho => ?_, fun h5 h6 => ?_⟩
          · refine ⟨((pc : Int) + d).toNat, (Int.toNat_of_nonneg hb.2.2).symm, ?_⟩
            rcases ho with ho | ho
            · obtain ⟨B1, eB, hB⟩ := an_le_ok (k := -1) hg.1 h3 (e2 := (0, lo)) (y := lo) rfl (by omega)
              refine go _ B1 hB ?_
              rw [eB] at h
              cases h1' : an_le S.1 (0, hi) e (-1) with
              | none =>
                rw [h1'] at h
                simp only [Option.some.injEq] at h
                subst h
                exact List.mem_cons_self
              | some B2 =>
                rw [h1'] at h
                simp only [Option.some.injEq] at h
                subst h
                exact List.mem_cons_of_mem _ List.mem_cons_self
            · obtain ⟨B1, eB, hB⟩ := an_le_ok (k := -1) hg.1 (e1 := (0, hi)) (x := hi) rfl h3 (by omega)
              refine go _ B1 hB ?_
              rw [eB] at h
              simp only [Option.some.injEq] at h
              subst h
              exact List.mem_cons_self
          · have hlen : (x.toInt - lo).toNat < offs.toList.length := by omega
            have ho := List.getElem?_eq_getElem hlen
            obtain ⟨B1, hB, hm⟩ := an_sw_mem (pc := pc) hg.1 (g := fun t B => (t, L, r, kA, sA, (B, S.2))) h3 offs.toList lo (by omega) _ ho
            have hp : (0 : Int) ≤ (pc : Int) + offs.toList[(x.toInt - lo).toNat] := of_decide_eq_true (List.all_eq_true.mp hb.2.1 _ (List.getElem_mem hlen))
            exact ⟨_, _, by rw [← Array.getElem?_toList]; exact ho, (Int.toNat_of_nonneg hp).symm, go _ B1 hB (hin _ hm)⟩
        · cases h
      | n + 1, h, h1 =>
        simp [an_one] at h
  case getfield ix =>
    cases st with
    | nil => simp [an_one] at h
    | cons v r =>
      obtain ⟨w, rc, rfl, h1, h2⟩ := hs.cons
      obtain ⟨t, e, f⟩ := v
      match t, h, h1 with
      | 2, h, h1 =>
        simp only [an_one] at h
        obtain ⟨a, rfl, h3⟩ := h1
        split at h
        · rename_i ci tys rest hki
          obtain ⟨hka, hk0, fs, q1, q2, q3, q4⟩ := an_objK hc.1 h3 hki
          split at h
          · rename_i hci
            rw [Bool.and_eq_true, beq_iff_eq, decide_eq_true_eq] at hci
            obtain ⟨hci, hrb9⟩ := hci
            have hci2 := hci.symm
            subst hci2
            have go : ∀ (wv : Value), an_rd (an_at ws) a rb 0 = some wv → fs[rb]? = some wv := by
              intro wv hw
              simp only [an_rd, q1, Option.bind_some, an_rde] at hw
              split at hw
              · exact hw
              · cases hw
            split at h
            · rename_i v hv
              obtain ⟨wv, w1, w2⟩ := an_tg_ok hg h3 (j := 0) rfl hv (by omega)
              exact ⟨a, rc, fs, wv, rfl, an_at_mem q1, go _ w1, an_goS hc h hK ⟨w2, h2⟩⟩
            · split at h
              · rename_i Ss hS
                obtain ⟨p, hp, hcp, y, hy, hrd9⟩ := an_g8_ok hc.1 h3 hS
                simp only [Option.some.injEq] at h
                subst h
                exact ⟨a, rc, fs, .int y, rfl, an_at_mem q1, go _ hrd9, hK _ (List.mem_map.mpr ⟨p, hp, rfl⟩) σ ρ κ l _ k sl ws an_px.rf an_pr.rf ⟨hcp, hL, ⟨⟨y, rfl, by rw [hy]; rfl⟩, h2⟩, hk⟩⟩
              · split at h
                · rename_i t ht
                  obtain ⟨wv, w1, w2, w3⟩ := q4 rb t ht
                  have hrb : rb < tys.length := (List.getElem?_eq_some_iff.mp ht).1
                  split at h
                  · rename_i S1 v hty
                    obtain ⟨σ2, ρ2, p1, p2, p3, p4⟩ := an_typ_ok hc.1 hty w3
                    exact ⟨a, rc, fs, wv, rfl, an_at_mem q1, w1, an_go1 h hK p1 p2 ⟨p3.add (p2.ix h3) hka (j := 0) rfl w2 p4 (by omega), hL.px p1 p2, ⟨p4, h2.px p1 p2⟩, hk⟩⟩
                  · cases h
                · cases h
          · cases h
        · cases h
      | 0, h, h1 =>
        simp [an_one] at h
      | 1, h, h1 =>
        simp [an_one] at h
      | n + 3, h, h1 =>
        simp [an_one] at h
  case putfield ix =>
    cases st with
    | nil => simp [an_one] at h
    | cons v r =>
      cases r with
      | nil => simp [an_one] at h
      | cons v2 r =>
        obtain ⟨w, rc, rfl, h1, h2⟩ := hs.cons
        obtain ⟨w2, rc, rfl, h3, h4⟩ := h2.cons
        obtain ⟨t2, e2, f2⟩ := v2
        match t2, h, h3 with
        | 2, h, h3 =>
          obtain ⟨a, rfl, h5⟩ := h3
          simp only [an_one] at h
          split at h
          · rename_i ci tys rest hki
            obtain ⟨hka, hk0, fs, q1, q2, q3, q4⟩ := an_objK hc.1 h5 hki
            split at h
            · rename_i t ht
              split at h
              · rename_i hb
                simp only [Bool.and_eq_true, beq_iff_eq, Bool.not_eq_true', beq_eq_false_iff_ne, ne_eq] at hb
                obtain ⟨hci, hfit, hm, hci0⟩ := hb
                have hci2 := hci.symm
                subst hci2
                have hrb : rb < tys.length := (List.getElem?_eq_some_iff.mp ht).1
                have hvt := an_fit_ok hg h1 hfit
                have hkl : an_rk S e2.1 ≠ an_KL := by
                  intro h0
                  rw [h0] at hki
                  have := an_KLk.2.1
                  rw [hki] at this
                  exact hci0 this
                obtain ⟨q, hq⟩ := an_at_ix q1
                have hlt : an_rk S e2.1 < an_KT.length := an_ki_lt (by rw [hki]; simp)
                have hko := an_kok _ hlt
                rw [hki] at hko
                simp only [Bool.and_eq_true, decide_eq_true_eq, List.all_eq_true, List.mem_range] at hko
                have htc := hko.2.2 rb hrb
                rw [List.getD_eq_getElem?_getD, ht] at htc
                refine ⟨w, a, rc, q, fs, rfl, hq, by omega, an_fitOf htc hvt, ?_⟩
                refine an_go1 h hK an_px.rf an_pr.rf ⟨an_gC8_ok hc.1 (an_gB8_ok hc.1 (an_gB_ok hc.1 (hc.1.put h5 hk0 hkl hm (an_nd_set hc.1.1 hq) (an_upd_field hc.1.1 hq (by omega) (by omega)) ?_ h1 (j := 0) rfl (by omega)) h5 hk0 hkl (an_upd_field hc.1.1 hq (by omega) (by omega))) h5 h1 (an_upd_field hc.1.1 hq (by omega) (by omega))) h5 h1 (an_upd_field hc.1.1 hq (by omega) (by omega)), hL, h4, hk⟩
                unfold an_kt
                rw [hki]
                intro t9 ht9
                rw [ht] at ht9
                cases ht9
                exact hvt
              · cases h
            · cases h
          · cases h
        | 0, h, h3 => simp [an_one] at h
        | 1, h, h3 => simp [an_one] at h
        | n + 3, h, h3 => simp [an_one] at h
  case getstatic ix =>
    simp only [an_one] at h
    show K _ l _ k sl ws
    exact an_goS hc h hK ⟨rfl, hs⟩
  case iaload =>
    cases st with
    | nil => simp [an_one] at h
    | cons v r =>
      cases r with
      | nil => obtain ⟨t, e, f⟩ := v; simp [an_one] at h
      | cons v2 r =>
        obtain ⟨w, rc, rfl, h1, h2⟩ := hs.cons
        obtain ⟨w2, rc, rfl, h3, h4⟩ := h2.cons
        obtain ⟨t, e, f⟩ := v
        obtain ⟨t2, e2, f2⟩ := v2
        by_cases ht : t = 0 ∧ t2 = 2
        · obtain ⟨rfl, rfl⟩ := ht
          obtain ⟨x, rfl, h5⟩ := h1
          obtain ⟨a, rfl, h6⟩ := h3
          simp only [an_one] at h
          split at h
          · rename_i S1 v9 ha
            obtain ⟨n, xx, wv, σ2, ρ2, m1, m2, m3, m4, p1, p2, p3, p4⟩ := an_ald_ok hc.1 ha (by simp [an_tg]) h6 (an_nrmI hg.1 h5)
            obtain ⟨ff, hf⟩ := an_row0 m1
            have hw := an_rdI hf m4
            subst hw
            exact ⟨x, a, rc, n, ff, rfl, Or.inl (an_at_mem hf), m3, an_go1 h hK p1 p2 ⟨p3, hL.px p1 p2, ⟨p4, h4.px p1 p2⟩, hk⟩⟩
          · cases h
        · by_cases ht5 : t = 0 ∧ t2 = 5
          · obtain ⟨rfl, rfl⟩ := ht5
            obtain ⟨x, rfl, h5⟩ := h1
            cases h3
            simp only [an_one] at h
            split at h
            · rename_i hb
              simp only [an_oin, Bool.and_eq_true, Bool.or_eq_true, decide_eq_true_eq] at hb
              obtain ⟨hj, hlo, hhi⟩ := hb
              have l1 := an_lo_ok hg.1 h5
              have u1 := an_hi_ok hg.1 h5
              obtain ⟨o1, o2, o3⟩ := hO.1 _ hj
              have hin : vp_in x (O e2.1).2.1 := by
                refine vp_in_iff.mpr ⟨by omega, ?_⟩
                rcases hhi with hhi | hhi
                · omega
                · split at hhi
                  · rename_i nE f9 hv
                    rcases hg.2.2.2.2 _ (an_tget_mem hv) with ⟨-, i, hi, y, hy, hy2⟩ | ⟨h0, -⟩ | ⟨h0, -⟩
                    · simp only [an_ev, Option.some.injEq] at hi
                      subst hi
                      simp only [an_old] at hy
                      cases hy
                      simp only [show (-1 : Int) < 0 from by decide, if_true] at hy2
                      rw [an_ofNat o3] at hy2
                      have := an_ub_ok hg.1 h5 hy2
                      simp only [decide_eq_true_eq] at hhi
                      omega
                    · exact absurd rfl h0.1
                    · cases h0
                  · cases hhi
              have hx0 : 0 ≤ x.toInt := by omega
              have hov : an_old O e2.1 x.toInt = (O e2.1).2.2 x.toNatClampNeg := by
                simp only [an_old, if_neg (by omega : ¬ x.toInt < 0)]
                rfl
              have hnr := an_nrmI hg.1 h5
              refine ⟨x, _, rc, (O e2.1).2.1, (O e2.1).2.2, rfl, Or.inr ⟨e2.1, hj, rfl⟩, hin, ?_⟩
              split at h
              · rename_i v9 hv9
                rcases hg.2.2.2.2 _ (an_tget_mem hv9) with ⟨-, i, hi, hgv⟩ | ⟨h0, -⟩ | ⟨h0, -⟩
                · simp only at hi hgv
                  have := Option.some.inj (hi.symm.trans hnr)
                  rw [this, hov] at hgv
                  exact an_goS hc h hK ⟨hgv, h4⟩
                · exact absurd rfl h0.1
                · cases h0
              · obtain ⟨σ2, p1, p2, p3, p4⟩ := an_resF ((O e2.1).2.2 x.toNatClampNeg) hg.1 hg.2.1
                refine an_go1 h hK p1 an_pr.rf ⟨(hc.1.num p1 p2 p3).addO (p1.ev hnr) ?_, hL.px p1 an_pr.rf, ⟨⟨_, rfl, p4⟩, h4.px p1 an_pr.rf⟩, hk⟩
                rw [hov]
                exact ⟨_, rfl, p4⟩
            · cases h
          · simp only [an_one] at h
            split at h
            · rename_i heq
              simp only [List.cons.injEq, Prod.mk.injEq] at heq
              exact absurd ⟨heq.1.1, heq.2.1.1⟩ ht
            · rename_i heq
              simp only [List.cons.injEq, Prod.mk.injEq] at heq
              exact absurd ⟨heq.1.1, heq.2.1.1⟩ ht5
            · cases h
  case laload =>
    cases st with
    | nil => simp [an_one] at h
    | cons v r =>
      cases r with
      | nil => obtain ⟨t, e, f⟩ := v; simp [an_one] at h
      | cons v2 r =>
        obtain ⟨w, rc, rfl, h1, h2⟩ := hs.cons
        obtain ⟨w2, rc, rfl, h3, h4⟩ := h2.cons
        obtain ⟨t, e, f⟩ := v
        obtain ⟨t2, e2, f2⟩ := v2
        by_cases ht : t = 0 ∧ t2 = 2
        · obtain ⟨rfl, rfl⟩ := ht
          obtain ⟨x, rfl, h5⟩ := h1
          obtain ⟨a, rfl, h6⟩ := h3
          simp only [an_one] at h
          split at h
          · rename_i S1 v9 ha
            obtain ⟨n, xx, wv, σ2, ρ2, m1, m2, m3, m4, p1, p2, p3, p4⟩ := an_ald_ok hc.1 ha (by simp [an_tg]) h6 (an_nrmI hg.1 h5)
            obtain ⟨ff, hf⟩ := an_row1 m1
            have hw := an_rdL hf m4
            subst hw
            exact ⟨x, a, rc, n, ff, rfl, an_at_mem hf, m3, an_go1 h hK p1 p2 ⟨p3, hL.px p1 p2, ⟨p4, h4.px p1 p2⟩, hk⟩⟩
          · cases h
        · simp only [an_one] at h
          split at h
          · rename_i heq
            simp only [List.cons.injEq, Prod.mk.injEq] at heq
            exact absurd ⟨heq.1.1, heq.2.1.1⟩ ht
          · cases h
          · cases h
  case aaload =>
    cases st with
    | nil => simp [an_one] at h
    | cons v r =>
      cases r with
      | nil => obtain ⟨t, e, f⟩ := v; simp [an_one] at h
      | cons v2 r =>
        obtain ⟨w, rc, rfl, h1, h2⟩ := hs.cons
        obtain ⟨w2, rc, rfl, h3, h4⟩ := h2.cons
        obtain ⟨t, e, f⟩ := v
        obtain ⟨t2, e2, f2⟩ := v2
        by_cases ht : t = 0 ∧ t2 = 2
        · obtain ⟨rfl, rfl⟩ := ht
          obtain ⟨x, rfl, h5⟩ := h1
          obtain ⟨a, rfl, h6⟩ := h3
          simp only [an_one] at h
          split at h
          · rename_i ps hps
            obtain ⟨B1, c, ⟨S1, v9⟩, q1, q2, q3, ha⟩ := an_spl_ok hg.1 hps (an_nrmI hg.1 h5)
            obtain ⟨n, xx, wv, σ2, ρ2, m1, m2, m3, m4, p1, p2, p3, p4⟩ := an_ald_ok (hc.1.num an_px.rf q2 hg.2.1) ha (Or.inr (Or.inr rfl)) h6 (show an_ev σ (0, (c : Int)) = some x.toInt from by rw [q3]; rfl)
            obtain ⟨ff, hf⟩ := an_row4 m1
            have hw := an_rdA hf m4
            subst hw
            simp only [Option.some.injEq] at h
            subst h
            exact ⟨x, a, rc, xx, n, ff, rfl, m2, an_at_mem hf, m3, hK _ (List.mem_map.mpr ⟨(S1, v9), q1, rfl⟩) σ2 ρ2 κ l _ k sl ws p1 p2 ⟨p3, hL.px p1 p2, ⟨p4, h4.px p1 p2⟩, hk⟩⟩
          split at h
          · rename_i S1 v9 ha
            obtain ⟨n, xx, wv, σ2, ρ2, m1, m2, m3, m4, p1, p2, p3, p4⟩ := an_ald_ok hc.1 ha (by simp) h6 (an_nrmI hg.1 h5)
            obtain ⟨ff, hf⟩ := an_row4 m1
            have hw := an_rdA hf m4
            subst hw
            exact ⟨x, a, rc, xx, n, ff, rfl, m2, an_at_mem hf, m3, an_go1 h hK p1 p2 ⟨p3, hL.px p1 p2, ⟨p4, h4.px p1 p2⟩, hk⟩⟩
          · cases h
        · simp only [an_one] at h
          split at h
          · rename_i heq
            simp only [List.cons.injEq, Prod.mk.injEq] at heq
            exact absurd ⟨heq.1.1, heq.2.1.1⟩ ht
          · cases h
  case iastore =>
    cases st with
    | nil => simp [an_one] at h
    | cons v r =>
      cases r with
      | nil => simp [an_one] at h
      | cons v2 r =>
        cases r with
        | nil => obtain ⟨t, e, f⟩ := v2; simp [an_one] at h
        | cons v3 r =>
          obtain ⟨w, rc, rfl, h1, h2⟩ := hs.cons
          obtain ⟨w2, rc, rfl, h3, h2⟩ := h2.cons
          obtain ⟨w3, rc, rfl, h4, h9⟩ := h2.cons
          obtain ⟨t, e, f⟩ := v2
          obtain ⟨t2, e2, f2⟩ := v3
          by_cases ht : t = 0 ∧ t2 = 2
          · obtain ⟨rfl, rfl⟩ := ht
            obtain ⟨x, rfl, h5⟩ := h3
            obtain ⟨a, rfl, h6⟩ := h4
            simp only [an_one] at h
            split at h
            · rename_i S1 ha
              obtain ⟨n, xx, m1, m2, m3, m4, m6, m7⟩ := an_ast_ok hc.1 ha (by simp [an_tg]) h6 (an_nrmI hg.1 h5) h1
              obtain ⟨ff, hf⟩ := an_row0 m1
              obtain ⟨q, hq⟩ := an_at_ix hf
              have hy : ∃ y : Int32, w = .int y := m4.1 rfl
              obtain ⟨y, rfl⟩ := hy
              exact ⟨y, x, a, rc, q, n, ff, rfl, hq, m3, an_go1 h hK an_px.rf an_pr.rf ⟨an_gC_ok hc.1 (m7 _ (an_nd_set hc.1.1 hq) (an_upd_row (z2 := .inl (upd ff x.toNatClampNeg y)) hc.1.1 hq rfl (by simp [an_rde, upd]) (fun i hi => by simp [an_rde, upd, hi]))) h6 (an_gCx (an_nrmI hg.1 h5) m3) h1 (an_upd_row (z2 := .inl (upd ff x.toNatClampNeg y)) hc.1.1 hq rfl (by simp [an_rde, upd]) (fun i hi => by simp [an_rde, upd, hi])), hL, h9, hk⟩⟩
            · cases h
          · simp only [an_one] at h
            split at h
            · rename_i heq
              simp only [List.cons.injEq, Prod.mk.injEq] at heq
              exact absurd ⟨heq.2.1.1, heq.2.2.1.1⟩ ht
            · cases h
  case lastore =>
    cases st with
    | nil => simp [an_one] at h
    | cons v r =>
      cases r with
      | nil => simp [an_one] at h
      | cons v2 r =>
        cases r with
        | nil => obtain ⟨t, e, f⟩ := v2; simp [an_one] at h
        | cons v3 r =>
          obtain ⟨w, rc, rfl, h1, h2⟩ := hs.cons
          obtain ⟨w2, rc, rfl, h3, h2⟩ := h2.cons
          obtain ⟨w3, rc, rfl, h4, h9⟩ := h2.cons
          obtain ⟨t, e, f⟩ := v2
          obtain ⟨t2, e2, f2⟩ := v3
          by_cases ht : t = 0 ∧ t2 = 2
          · obtain ⟨rfl, rfl⟩ := ht
            obtain ⟨x, rfl, h5⟩ := h3
            obtain ⟨a, rfl, h6⟩ := h4
            simp only [an_one] at h
            split at h
            · rename_i S1 ha
              obtain ⟨n, xx, m1, m2, m3, m4, m6, m7⟩ := an_ast_ok hc.1 ha (by simp [an_tg]) h6 (an_nrmI hg.1 h5) h1
              obtain ⟨ff, hf⟩ := an_row1 m1
              obtain ⟨q, hq⟩ := an_at_ix hf
              have hy : ∃ y : Int64, w = .long y := m4.2 rfl
              obtain ⟨y, rfl⟩ := hy
              exact ⟨y, x, a, rc, q, n, ff, rfl, hq, m3, an_go1 h hK an_px.rf an_pr.rf ⟨an_gC_ok hc.1 (m7 _ (an_nd_set hc.1.1 hq) (an_upd_row (z2 := .inr (.inl (vp_updL ff x.toNatClampNeg y))) hc.1.1 hq rfl (by simp [an_rde, vp_updL]) (fun i hi => by simp [an_rde, vp_updL, hi]))) h6 (an_gCx (an_nrmI hg.1 h5) m3) h1 (an_upd_row (z2 := .inr (.inl (vp_updL ff x.toNatClampNeg y))) hc.1.1 hq rfl (by simp [an_rde, vp_updL]) (fun i hi => by simp [an_rde, vp_updL, hi])), hL, h9, hk⟩⟩
            · cases h
          · simp only [an_one] at h
            split at h
            · rename_i heq
              simp only [List.cons.injEq, Prod.mk.injEq] at heq
              exact absurd ⟨heq.2.1.1, heq.2.2.1.1⟩ ht
            · cases h
  case aastore =>
    cases st with
    | nil => simp [an_one] at h
    | cons v r =>
      cases r with
      | nil => simp [an_one] at h
      | cons v2 r =>
        cases r with
        | nil => obtain ⟨t, e, f⟩ := v2; simp [an_one] at h
        | cons v3 r =>
          obtain ⟨w, rc, rfl, h1, h2⟩ := hs.cons
          obtain ⟨w2, rc, rfl, h3, h2⟩ := h2.cons
          obtain ⟨w3, rc, rfl, h4, h9⟩ := h2.cons
          obtain ⟨t, e, f⟩ := v2
          obtain ⟨t2, e2, f2⟩ := v3
          by_cases ht : t = 0 ∧ t2 = 2
          · obtain ⟨rfl, rfl⟩ := ht
            obtain ⟨x, rfl, h5⟩ := h3
            obtain ⟨a, rfl, h6⟩ := h4
            simp only [an_one] at h
            split at h
            · rename_i S1 ha
              obtain ⟨n, xx, m1, m2, m3, m4, m6, m7⟩ := an_ast_ok hc.1 ha (by simp [an_tg]) h6 (an_nrmI hg.1 h5) h1
              obtain ⟨ff, hf⟩ := an_row4 m1
              obtain ⟨q, hq⟩ := an_at_ix hf
              obtain ⟨g1, g2⟩ := m6 rfl
              obtain ⟨v1, v2, v3⟩ := v
              match v1, g1, h1 with
              | 2, g1, h1 =>
                obtain ⟨b, rfl, hb⟩ := h1
                simp only [an_rdr, Bool.and_eq_true, beq_iff_eq] at g1
                have hx2 := g2 g1.1
                subst hx2
                have hki : an_ki (an_rk S v2.1) = (0, 9, (an_ki (an_rk S v2.1)).2.2) := by
                  rw [← g1.2.1, ← g1.2.2]
                obtain ⟨hka, hk0, fs, q1, q2, q3, q4⟩ := an_objK (rest := (an_ki (an_rk S v2.1)).2.2.2) hc.1 hb hki
                exact ⟨b, x, a, rc, q, 2, n, 9, fs, ff, rfl, Or.inl ⟨rfl, rfl⟩, an_at_mem q1, hq, m3, an_go1 h hK an_px.rf an_pr.rf ⟨an_gC_ok hc.1 (m7 _ (an_nd_set hc.1.1 hq) (an_upd_row (z2 := .inr (.inr (.inr (.inr (va_up ff x.toNatClampNeg (some b)))))) hc.1.1 hq rfl (by simp [an_rde, va_up]; rfl) (fun i hi => by simp [an_rde, va_up, hi]))) h6 (an_gCx (an_nrmI hg.1 h5) m3) (show an_gv O σ ρ (2, v2, v3) (.ref b) from ⟨b, rfl, hb⟩) (an_upd_row (z2 := .inr (.inr (.inr (.inr (va_up ff x.toNatClampNeg (some b)))))) hc.1.1 hq rfl (by simp [an_rde, va_up]; rfl) (fun i hi => by simp [an_rde, va_up, hi])), hL, h9, hk⟩⟩
              | 0, g1, h1 => simp [an_rdr] at g1
              | 1, g1, h1 => simp [an_rdr] at g1
              | n + 3, g1, h1 => simp [an_rdr] at g1
            · cases h
          · simp only [an_one] at h
            split at h
            · rename_i heq
              simp only [List.cons.injEq, Prod.mk.injEq] at heq
              exact absurd ⟨heq.2.1.1, heq.2.2.1.1⟩ ht
            · cases h
  case dup =>
    cases st with
    | nil => simp [an_one] at h
    | cons v r =>
      obtain ⟨w, rc, rfl, h1, h2⟩ := hs.cons
      simp only [an_one] at h
      split at h
      · cases h
      · rename_i hb
        rw [an_catB, Bool.not_eq_true, decide_eq_false_iff_not] at hb
        have hcat : w.category = 1 := by rw [h1.cat]; simp only [an_cat] at hb ⊢; split at hb <;> simp_all
        exact ⟨w, rc, rfl, hcat, an_goS hc h hK ⟨h1, h1, h2⟩⟩
  case pop =>
    cases st with
    | nil => simp [an_one] at h
    | cons v r =>
      obtain ⟨w, rc, rfl, h1, h2⟩ := hs.cons
      simp only [an_one] at h
      split at h
      · cases h
      · rename_i hb
        rw [an_catB, Bool.not_eq_true, decide_eq_false_iff_not] at hb
        have hcat : w.category = 1 := by rw [h1.cat]; simp only [an_cat] at hb ⊢; split at hb <;> simp_all
        exact ⟨w, rc, rfl, hcat, an_goS hc h hK h2⟩
  case dup_x1 =>
    cases st with
    | nil => simp [an_one] at h
    | cons v r =>
      cases r with
      | nil => simp [an_one] at h
      | cons v2 r =>
        obtain ⟨w, rc, rfl, h1, h2⟩ := hs.cons
        obtain ⟨w2, rc, rfl, h3, h4⟩ := h2.cons
        simp only [an_one] at h
        split at h
        · cases h
        · rename_i hb
          rw [Bool.not_eq_true, Bool.or_eq_false_iff, an_catB, an_catB, decide_eq_false_iff_not, decide_eq_false_iff_not] at hb
          have hcat : w.category = 1 := by rw [h1.cat]; have := hb.1; simp only [an_cat] at this ⊢; split at this <;> simp_all
          have hcat2 : w2.category = 1 := by rw [h3.cat]; have := hb.2; simp only [an_cat] at this ⊢; split at this <;> simp_all
          exact ⟨w, w2, rc, rfl, hcat, hcat2, an_goS hc h hK ⟨h1, h3, h1, h4⟩⟩
  case dup2 =>
    cases st with
    | nil => simp [an_one] at h
    | cons v r =>
      cases r with
      | nil => simp [an_one] at h
      | cons v2 r =>
        obtain ⟨w, rc, rfl, h1, h2⟩ := hs.cons
        obtain ⟨w2, rc, rfl, h3, h4⟩ := h2.cons
        simp only [an_one] at h
        split at h
        · cases h
        · rename_i hb
          rw [Bool.not_eq_true, Bool.or_eq_false_iff, an_catB, an_catB, decide_eq_false_iff_not, decide_eq_false_iff_not] at hb
          have hcat : w.category = 1 := by rw [h1.cat]; have := hb.1; simp only [an_cat] at this ⊢; split at this <;> simp_all
          have hcat2 : w2.category = 1 := by rw [h3.cat]; have := hb.2; simp only [an_cat] at this ⊢; split at this <;> simp_all
          exact ⟨w, w2, rc, rfl, hcat, hcat2, an_goS hc h hK ⟨h1, h3, h1, h3, h4⟩⟩
  case checkcast ix =>
    cases st with
    | nil => simp [an_one] at h
    | cons v r =>
      obtain ⟨w, rc, rfl, h1, h2⟩ := hs.cons
      obtain ⟨t, e, f⟩ := v
      match t, h, h1 with
      | 2, h, h1 =>
        simp only [an_one] at h
        obtain ⟨a, rfl, h3⟩ := h1
        split at h
        · rename_i ci rest hki
          split at h
          · rename_i hci
            rw [beq_iff_eq] at hci
            have hci2 := hci.symm
            subst hci2
            obtain ⟨hka, hk0, fs, q1, q2, q3, q4⟩ := an_objK (rest := rest.2) (tys := rest.1) hc.1 h3 hki
            exact ⟨a, rc, fs, rfl, an_at_mem q1, an_goS hc h hK ⟨⟨a, rfl, h3⟩, h2⟩⟩
          · cases h
        · cases h
      | 0, h, h1 =>
        simp [an_one] at h
      | 1, h, h1 =>
        simp [an_one] at h
      | n + 3, h, h1 =>
        simp [an_one] at h
  case invokespecial ix =>
    cases st with
    | nil => simp [an_one] at h
    | cons v r =>
      obtain ⟨w, rc, rfl, h1, h2⟩ := hs.cons
      obtain ⟨t, e, f⟩ := v
      match t, h, h1 with
      | 2, h, h1 =>
        simp only [an_one] at h
        obtain ⟨a, rfl, h3⟩ := h1
        split at h
        · rename_i hb
          simp only [Bool.and_eq_true, beq_iff_eq, decide_eq_true_eq] at hb
          obtain ⟨h5, hw, hf⟩ := hb
          simp only [am_step]
          rw [if_pos h5]
          exact ⟨a, rc, rfl, by rw [h2.wt]; exact hw, hf, an_goS hc h hK h2⟩
        · cases h
      | 0, h, h1 =>
        simp [an_one] at h
      | 1, h, h1 =>
        simp [an_one] at h
      | n + 3, h, h1 =>
        simp [an_one] at h
  case arraylength =>
    cases st with
    | nil => simp [an_one] at h
    | cons v r =>
      obtain ⟨w, rc, rfl, h1, h2⟩ := hs.cons
      obtain ⟨t, e, f⟩ := v
      match t, h, h1 with
      | 2, h, h1 =>
        obtain ⟨a, rfl, h3⟩ := h1
        simp only [an_one] at h
        split at h
        · cases h
        · rename_i hk0
          simp only [Bool.or_eq_true, beq_iff_eq, not_or] at hk0
          have hkz : an_rk S e.1 ≠ 0 := by
            intro h0
            rw [h0] at hk0
            exact hk0.2 (by decide +kernel)
          obtain ⟨hka, hkh⟩ := hg.kind h3 hkz
          have main : ∃ (n : Nat) (xx : Nat) (t9 : Nat), xx < 4 ∧ (an_at ws a).map an_sh = some (.inr (X xx, n, t9)) ∧ n < 2147483648 ∧ (an_ki (an_rk S e.1)).2.2.2.1 ≤ (n : Int) ∧ (n : Int) ≤ (an_ki (an_rk S e.1)).2.2.2.2.1 := by
            unfold an_kh at hkh
            split at hkh
            · rename_i e0; rw [e0] at hk0; exact absurd rfl hk0.1
            · rename_i e0; obtain ⟨n, q1, q2, q3, q4, -⟩ := hkh; rw [e0]; exact ⟨n, 0, 0, by omega, q1, q2, q3, q4⟩
            · rename_i e0; obtain ⟨n, q1, q2, q3, q4, -⟩ := hkh; rw [e0]; exact ⟨n, 1, 1, by omega, q1, q2, q3, q4⟩
            · rename_i e0; obtain ⟨n, q1, q9, q2, q3, q4, -⟩ := hkh; rw [e0]; exact ⟨n, _, 4, by omega, q1, q2, q3, q4⟩
            · exact hkh.elim
          obtain ⟨n, xx, t9, m0, m1, m2, m3, m4⟩ := main
          have hmem : ∃ z, (a, .inl (X xx, n, z)) ∈ ws := by
            cases hm : an_at ws a with
            | none => rw [hm] at m1; cases m1
            | some e9 =>
              rw [hm] at m1
              simp only [Option.map_some, Option.some.injEq] at m1
              rcases e9 with ⟨c2, n2, z⟩ | ⟨c2, fs⟩
              · have hmn : c2 = X xx ∧ n2 = n := by rcases z with z | z | z | z | z <;> simp [an_sh] at m1 <;> exact ⟨m1.1, m1.2.1⟩
                rw [hmn.1, hmn.2] at hm
                exact ⟨z, an_at_mem hm⟩
              · simp [an_sh] at m1
          obtain ⟨z, hz⟩ := hmem
          refine ⟨a, rc, n, rfl, Or.inl ⟨xx, z, m0, hz⟩, ?_⟩
          have hn := an_ofNat m2
          split at h
          · rename_i heq
            exact an_goS hc h hK ⟨⟨_, rfl, by rw [hn]; simp only [an_ev, Option.some.injEq]; omega⟩, h2⟩
          · split at h
            · rename_i v hv
              exact an_goS hc h hK ⟨an_len_ok hg h3 m1 hv, h2⟩
            · obtain ⟨σ2, p1, p2, p3, p4⟩ := an_resN (M := S.2.1) (lo := (an_ki (an_rk S e.1)).2.2.2.1) (hi := (an_ki (an_rk S e.1)).2.2.2.2.1) hg.1 hg.2.1 (v := (Int32.ofNat n).toInt) (by omega) (by omega) (an_i32L _)
              have hrd : an_rd (an_at ws) a 1001 0 = some (.int (Int32.ofNat n)) := by
                simp only [an_rd, an_mem_at hc.1.1 hz, Option.bind_some, an_rde]
                simp
              exact an_go1 h hK p1 an_pr.rf ⟨(hc.1.num p1 p2 p3).add h3 hka (j := 0) rfl hrd ⟨_, rfl, p4⟩ (by decide), hL.px p1 an_pr.rf, ⟨⟨_, rfl, p4⟩, h2.px p1 an_pr.rf⟩, hk⟩
      | 5, h, h1 =>
        cases h1
        simp only [an_one] at h
        split at h
        · rename_i hj
          obtain ⟨o1, o2, o3⟩ := hO.1 _ hj
          refine ⟨_, rc, (O e.1).2.1, rfl, Or.inr (Or.inl ⟨e.1, (O e.1).2.2, hj, rfl⟩), ?_⟩
          split at h
          · rename_i heq
            exact an_goS hc h hK ⟨⟨_, rfl, by rw [an_ofNat o3]; simp only [an_ev, Option.some.injEq]; omega⟩, h2⟩
          · split at h
            · rename_i v hv
              rcases hg.2.2.2.2 _ (an_tget_mem hv) with ⟨-, i, hi, hy⟩ | ⟨h0, -⟩ | ⟨h0, -⟩
              · simp only [an_ev, Option.some.injEq] at hi
                subst hi
                exact an_goS hc h hK ⟨hy, h2⟩
              · exact absurd rfl h0.1
              · cases h0
            · cases h
        · cases h
      | 0, h, h1 =>
        simp [an_one] at h
      | 1, h, h1 =>
        simp [an_one] at h
      | 3, h, h1 =>
        simp [an_one] at h
      | 4, h, h1 =>
        simp [an_one] at h
      | n + 6, h, h1 =>
        simp [an_one] at h
  case newarray ty =>
    cases ty <;> first | (simp only [an_one] at h; cases h; done) | skip
    case int =>
      simp only [an_one] at h
      obtain ⟨n, rc, h1, h2, h3, h4, -, h5⟩ := an_nwo_ok h hc hK
      exact ⟨n, rc, h1, h2, h3, h4, fun a ha => h5 a ha _ _ (Or.inl ⟨rfl, rfl, rfl⟩)⟩
    case long =>
      simp only [an_one] at h
      obtain ⟨n, rc, h1, h2, h3, h4, -, h5⟩ := an_nwo_ok h ⟨an_gi_ok (an_gi8_ok hc.1), hc.2⟩ hK
      exact ⟨n, rc, h1, h2, h3, h4, fun a ha => h5 a ha _ _ (Or.inr (Or.inl ⟨rfl, rfl, rfl⟩))⟩
  case anewarray ix =>
    simp only [an_one] at h
    obtain ⟨n, rc, h1, h2, h3, h4, h6, h5⟩ := an_nwo_ok h hc hK
    exact ⟨n, rc, h1, h6 rfl, h2, h3, h4, fun a ha => h5 a ha _ _ (Or.inr (Or.inr ⟨rfl, rfl, rfl⟩))⟩
  case new ix =>
    simp only [an_one] at h
    exact an_nwb_ok h hc hK
