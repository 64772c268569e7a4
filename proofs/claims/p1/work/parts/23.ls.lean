/-! THE LIST'S METHODS do what the checker says of them. -/
theorem an_klA : an_ki an_KL = (0, 0, [(0, -2147483648, 2147483647), (2, 0, 0), (0, 0, 16)], 0, 0, (9, 0, 0)) ∧ an_ki an_KL0 = (0, 0, [(0, -2147483648, 2147483647), (2, 0, 0), (0, 0, 16)], 0, 0, (9, 0, 0)) ∧ (an_ki an_KTg).1 = 0 ∧ (an_ki an_KTg).2.1 = 11 ∧ an_KTg ≠ 0 ∧ an_KTg ≠ an_KL ∧ an_KL0 ≠ an_KL ∧ an_KL ≠ 0 ∧ an_KL0 ≠ 0 := ⟨rfl, rfl, rfl, rfl, by decide, by decide, by decide, by decide, by decide⟩
/-- the cell at a list's address -/
theorem an_lcell {X : Nat → ClassId} {κ : an_Ka} {μ : an_Mu} {a kd : Nat} (hk : an_ki kd = (0, 0, [(0, -2147483648, 2147483647), (2, 0, 0), (0, 0, 16)], 0, 0, (9, 0, 0))) (h : an_kh X κ μ a kd) : ∃ (fs : List Value) (m0 s : Int32) (r : Option Nat), μ a = some (.inr (0, fs)) ∧ fs.length = 3 ∧ fs[0]? = some (.int m0) ∧ fs[1]? = some (va_rf r) ∧ fs[2]? = some (.int s) := by
  unfold an_kh at h
  rw [hk] at h
  obtain ⟨h1, -, h3⟩ := h
  obtain ⟨fs, q1, q2⟩ := an_obj h1
  have rd : ∀ i w, an_rd μ a i 0 = some w → fs[i]? = some w := by
    intro i w hw
    simp only [an_rd, q1, Option.bind_some, an_rde] at hw
    split at hw
    · exact hw
    · cases hw
  obtain ⟨w0, a0, m0, rfl, -⟩ := h3 0 _ rfl
  obtain ⟨w1, a1, r, rfl⟩ := h3 1 _ rfl
  obtain ⟨w2, a2, s, rfl, -⟩ := h3 2 _ rfl
  exact ⟨fs, m0, s, r, q1, q2, rd _ _ a0, rd _ _ a1, rd _ _ a2⟩
theorem an_rdO {μ : an_Mu} {a ci k : Nat} {fs : List Value} {w : Value} (h : μ a = some (.inr (ci, fs))) (hk : k < 1000) : an_rd μ a k 0 = some w ↔ fs[k]? = some w := by
  simp only [an_rd, h, Option.bind_some, an_rde]
  rw [if_pos (by first | exact ⟨hk, rfl⟩ | exact ⟨hk, trivial⟩)]
theorem an_rdN {μ : an_Mu} {a ci key j : Nat} {fs : List Value} (h : μ a = some (.inr (ci, fs))) (hn : fs.length = 3) (hk : key ≠ 0 ∧ key ≠ 1 ∧ key ≠ 2) : an_rd μ a key j = none := by
  simp only [an_rd, h, Option.bind_some, an_rde]
  split
  · exact List.getElem?_eq_none (by omega)
  · rfl
theorem an_khL {X : Nat → ClassId} {κ : an_Ka} {μ : an_Mu} {a kd : Nat} {fs : List Value} {m0 s : Int32} {r : Option Nat} (hk : an_ki kd = (0, 0, [(0, -2147483648, 2147483647), (2, 0, 0), (0, 0, 16)], 0, 0, (9, 0, 0))) (h : μ a = some (.inr (0, fs))) (hl : fs.length = 3) (h0 : fs[0]? = some (.int m0)) (h1 : fs[1]? = some (va_rf r)) (h2 : fs[2]? = some (.int s)) (hs : 0 ≤ s.toInt ∧ s.toInt ≤ 16) : an_kh X κ μ a kd := by
  unfold an_kh
  rw [hk]
  refine ⟨by rw [h]; simp [an_sh, hl], by decide, fun i t ht => ?_⟩
  match i, ht with
  | 0, ht =>
    cases ht
    have := an_i32 m0
    exact ⟨_, (an_rdO h (by omega)).mpr h0, m0, rfl, this.1, this.2⟩
  | 1, ht =>
    cases ht
    exact ⟨_, (an_rdO h (by omega)).mpr h1, r, rfl⟩
  | 2, ht =>
    cases ht
    exact ⟨_, (an_rdO h (by omega)).mpr h2, s, rfl, hs.1, hs.2⟩
  | i + 3, ht => simp at ht
/-- kinds where the cells of kinds but a's are as they were, and rows of lists hold tags still -/
theorem an_hiL {O : am_O} {X : Nat → ClassId} {κ : an_Ka} {μ μ2 : an_Mu} {a kd : Nat} (h : an_hi2 O X κ μ) (ha : κ a = some kd) (hb : ∀ b, κ b ≠ none → b ≠ a → μ2 b = μ b) (hk : an_kh X κ μ2 a kd) (hl : kd = an_KL → an_lh O X κ μ2 a)
    (hsh : ∀ e s, κ e = none → (μ e).map an_sh = some s → (μ2 e).map an_sh = some s) (hel : ∀ e i b, κ e = none → an_rd μ e 1000 i = some (.ref b) → κ b = some an_KTg → ∃ b2, an_rd μ2 e 1000 i = some (.ref b2) ∧ κ b2 = some an_KTg) : an_hi2 O X κ μ2 := by
  refine ⟨fun b kb hkb => ?_, fun b hkb => ?_⟩
  · by_cases hba : b = a
    · subst hba
      cases Option.some.inj (hkb.symm.trans ha)
      exact hk
    · exact an_kh_mono (fun _ _ q => q) (hb b (by rw [hkb]; simp) hba) (h.1 b kb hkb)
  · by_cases hba : b = a
    · subst hba
      exact hl (Option.some.inj (ha.symm.trans hkb))
    · have he := hb b (by rw [hkb]; simp) hba
      obtain ⟨e, n, s, l1, l2, l3, l4, l5, l6, l7⟩ := h.2 b hkb
      have hrd : ∀ k i, an_rd μ2 b k i = an_rd μ b k i := fun k i => by simp only [an_rd, he]
      refine ⟨e, n, s, by rw [hrd]; exact l1, by rw [hrd]; exact l2, l3, l4, l5, ?_, fun i hi => ?_⟩
      · rcases l6 with l6 | ⟨l6, l8⟩
        · exact Or.inl l6
        · exact Or.inr ⟨l6, hsh e _ l6 l8⟩
      · obtain ⟨c, c1, c2⟩ := l7 i hi
        rcases l6 with ⟨-, l6⟩ | ⟨l6, l8⟩
        · omega
        · exact hel e i c l6 c1 c2
theorem an_rkC {S : an_S} {ms : List (Nat × Nat)} (r : Nat) : an_rk (an_tcut S ms) r = an_rk S r := by
  simp only [an_rk, an_tcut]
  split <;> rfl
theorem an_soleC {S : an_S} {ms : List (Nat × Nat)} {r kd : Nat} : an_sole (an_tcut S ms) r kd = an_sole S r kd := by
  simp only [an_sole, an_tcut]
  split <;> rfl
/-- an element of a list is told -/
theorem an_cfg.addL {O : am_O} {X : Nat → ClassId} {G : an_G} {S : an_S} {σ : List Int} {ρ : List Nat} {κ : an_Ka} {ws : va_W} (h : an_cfg O X G S σ ρ κ ws) {r a j : Nat} {x : an_E} {v : an_V} {w : Value} (hr : ρ[r]? = some a) (hk : κ a = some an_KL) (hx : an_ev σ x = some (j : Int)) (hw : an_rle (an_at ws) a j = some w) (hv : an_gv O σ ρ v w) : an_cfg O X G (an_tadd S r 1004 x v) σ ρ κ ws := by
  obtain ⟨h1, ⟨g1, g2, g3, g4, g5⟩, h3, h4⟩ := h
  refine ⟨h1, ⟨g1, g2, g3, g4, fun f hf => ?_⟩, h3, h4⟩
  rcases List.mem_cons.mp hf with rfl | hf
  · exact Or.inr (Or.inl ⟨⟨by show (1004 : Nat) ≠ 1002; decide, by show (1004 : Nat) ≠ 1003; decide⟩, a, an_KL, j, w, hr, hk, hx, by rw [an_rp_L]; exact hw, hv⟩)
  · exact g5 f hf
theorem an_gA_ok {O : am_O} {X : Nat → ClassId} {G : an_G} {S : an_S} {σ : List Int} {ρ : List Nat} {κ : an_Ka} {ws : va_W} (hc : an_cfg O X G S σ ρ κ ws) {r a i b : Nat} {e : an_E} (hr : ρ[r]? = some a) (hka : κ a = some an_KL) (he : an_ev σ e = some (i : Int)) (hl : an_rle (an_at ws) a i = some (.ref b)) (hb : κ b = some an_KTg) :
    an_xok O X G σ ρ (an_gA S r e) (.inl (some (.ref b))) ws := by
  obtain ⟨c1, c2⟩ := hc.ref hb
  have plain : an_xok O X G σ ρ (1, (an_ref S an_KTg false).2, (an_ref S an_KTg false).1) (.inl (some (.ref b))) ws := ⟨σ, ρ ++ [b], κ, an_px.rf, an_pr.one, c1, _, rfl, c2⟩
  unfold an_gA
  split
  · rename_i v hv
    obtain ⟨j, w, h1, h2, h3⟩ := an_tl_ok hc.2.1 hr hka he hv
    have hj : j = i := by omega
    subst hj
    rw [h2] at hl
    cases hl
    exact ⟨σ, ρ, κ, an_px.rf, an_pr.rf, hc, _, rfl, h3⟩
  · split
    · rename_i g hg
      split
      · rename_i hd
        rw [Bool.and_eq_true, an_nbq, beq_iff_eq] at hd
        obtain ⟨hd1, hd2⟩ := hd
        obtain ⟨q0, al, ar, d, q1, q2, q3, q4, q5, q6, q7⟩ := an_gf_ok hc.2.1 hg
        obtain ⟨z1, z2, z3, z4, z5, z6, z7, z8, z9, z10, z11⟩ := an_FPk
        rw [hd1, hr] at q2
        cases q2
        rw [an_eqE_ok hd2] at q6
        simp only [an_ev, Option.some.injEq] at q6
        obtain ⟨k1, k2, k3⟩ := q7 i b hl
        obtain ⟨x, x1, x2⟩ := k3 (by omega)
        have hil := an_rl_lt hl
        obtain ⟨b2, hb2, hbx⟩ := id c2
        cases hb2
        obtain ⟨σ2, p1, p2, p3, p4⟩ := an_resF x hc.2.1.1 hc.2.1.2.1
        have d1 := c1.num p1 p2 p3
        have d2 := d1.add (r := g.2.2.2.2.1.1) (key := 1000) (x := e) (v := (0, (an_full S.1).2, (0, 0))) (an_pr.one.ix q3) q5 (p1.ev he) x2 ⟨x, rfl, p4⟩ (by decide)
        have d3 := d2.add (r := S.2.2.1.1) (key := an_FR) (x := (0, 0)) (v := (0, (an_full S.1).2, (0, 0))) hbx hb (j := 0) rfl x1 ⟨x, rfl, p4⟩ (by omega)
        have d4 := d3.add (r := S.2.2.1.1) (key := an_FN) (x := (0, 0)) (v := (0, e, (0, 0))) hbx hb (j := 0) rfl k2 ⟨Int32.ofNat i, rfl, by rw [an_ofNat hil]; exact p1.ev he⟩ (by omega)
        have c3 := c2.px p1 an_pr.rf
        have d5 := d4.addL (r := r) (x := e) (v := (an_ref S an_KTg false).2) (an_pr.one.ix hr) hka (p1.ev he) hl c3
        exact ⟨σ2, ρ ++ [b], κ, p1, an_pr.one, d5, _, rfl, c3⟩
      · exact plain
    · exact plain
theorem an_gD_ok {O : am_O} {X : Nat → ClassId} {G : an_G} {S S1 : an_S} {σ : List Int} {ρ : List Nat} {κ : an_Ka} {ws ws2 : va_W} (hc : an_cfg O X G S σ ρ κ ws) (hc1 : an_cfg O X G S1 σ ρ κ ws2) {r t a tt i : Nat} {n : an_E} (hr : ρ[r]? = some a) (ht : ρ[t]? = some tt) (hka : κ a = some an_KL) (hkt : κ tt = some an_KTg) (hn : an_ev σ n = some (i : Int))
    (h1 : ∀ j, j ≠ i → an_rle (an_at ws2) a j = an_rle (an_at ws) a j) (h2 : an_rle (an_at ws2) a i = some (.ref tt)) (hfr : ∀ b kd key j, κ b = some kd → kd ≠ an_KL → key ≠ 1004 → an_rd (an_at ws2) b key j = an_rd (an_at ws) b key j) : an_cfg O X G (an_gD S r t n S1) σ ρ κ ws2 := by
  unfold an_gD
  split
  · rename_i g en f9 hg hen
    split
    · rename_i hd
      simp only [Bool.and_eq_true, an_nbq, beq_iff_eq] at hd
      obtain ⟨hd1, hd2, hd3⟩ := hd
      obtain ⟨q0, al, ar, d, q1, q2, q3, q4, q5, q6, q7⟩ := an_gf_ok hc.2.1 hg
      obtain ⟨z1, z2, z3, z4, z5, z6, z7, z8, z9, z10, z11⟩ := an_FPk
      rw [hd1, hr] at q2
      cases q2
      rw [an_eqE_ok hd2] at q6
      simp only [an_ev, Option.some.injEq] at q6
      obtain ⟨wn, w1, x, rfl, w2⟩ := an_tg_ok hc.2.1 ht (j := 0) rfl hen (by omega)
      have hx : x.toInt = (i : Int) := an_same_ok hc.2.1.1 hd3 w2 hn
      have hil := an_rl_lt h2
      have hxi : x = Int32.ofNat i := Int32.toInt_inj.mp (by rw [an_ofNat hil]; exact hx)
      have hnn := an_nrm_ok hc.2.1.1 hn
      refine (hc1.addL (r := r) (v := (2, (t, 0), (0, 0))) hr hka hnn h2 ⟨tt, rfl, ht⟩).addG (Or.inl ⟨a, ar, (i : Int), q1, hr, q3, hka, q5, hnn, fun j b hj => ?_⟩)
      by_cases hji : j = i
      · subst hji
        rw [h2] at hj
        cases hj
        refine ⟨hkt, ?_, fun h => absurd rfl h⟩
        rw [hfr _ _ _ _ hkt z10 (by omega), w1, hxi]
      · rw [h1 j hji] at hj
        obtain ⟨k1, k2, k3⟩ := q7 j b hj
        refine ⟨k1, by rw [hfr _ _ _ _ k1 z10 (by omega)]; exact k2, fun _ => ?_⟩
        obtain ⟨y, y1, y2⟩ := k3 (by omega)
        exact ⟨y, by rw [hfr _ _ _ _ k1 z10 (by omega)]; exact y1, by rw [hfr _ _ _ _ q5 z9 (by decide)]; exact y2⟩
    · exact hc1
  · exact hc1
set_option maxHeartbeats 1000000 in
theorem an_ls0 {O : am_O} {X : Nat → ClassId} {G : an_G} {as : List an_V} {S : an_S} {xs : List an_X} {σ : List Int} {ρ : List Nat} {κ : an_Ka} {asc : List Value} {ws : va_W} (h : an_lop G.2.2.1 0 as S = some xs) (hc : an_cfg O X G S σ ρ κ ws) (hs : an_sok O σ ρ as asc) :
    ∃ Q1 : am_Q, am_Safe O X 3 0 (lv_args 0 asc) [] 0 0 ws Q1 ∧ ∀ r w2, Q1 r w2 → ∃ x ∈ xs, an_xok O X G σ ρ x r w2 := by
  obtain ⟨kA, kB, -, -, -, -, kC, kD, kE⟩ := an_klA
  unfold an_lop at h
  split at h
  · rename_i r f hh
    split at h
    · rename_i hb
      rw [Bool.and_eq_true, beq_iff_eq] at hb
      obtain ⟨hrk, hsole⟩ := hb
      split at h
      · rename_i e f9 ht
        split at h
        · rename_i he
          cases h
          obtain ⟨w0, rc, rfl, ⟨a, rfl, hr⟩, h2⟩ := hs.cons
          have := h2.nil
          subst this
          have hg := hc.2.1
          obtain ⟨hka, hkh⟩ := hg.kind hr (by rw [hrk]; exact kE)
          rw [hrk] at hka hkh
          obtain ⟨fs, m0, s, r1, q1, q2, q3, q4, q5⟩ := an_lcell kB hkh
          obtain ⟨w9, z1, z2⟩ := an_tg_ok hg hr (j := 0) rfl ht (by decide)
          obtain ⟨x9, rfl, z3⟩ := z2
          have z4 := (an_rdO q1 (by omega)).mp z1
          rw [q5] at z4
          cases z4
          have hs0 : s.toInt = 0 := by
            have z5 := an_nrm_ok hg.1 z3
            rw [an_eqE_ok he] at z5
            simpa [an_ev] using z5.symm
          obtain ⟨q, hq⟩ := an_at_ix q1
          have hnd := hc.1
          refine ⟨fun r w => r = .inl none ∧ w = ws.set q (a, .inr (0, (fs.set 0 (.int 0)).set 1 (.ref (O 3).1))), an_j3 hq q2 ⟨rfl, rfl⟩, ?_⟩
          rintro r' w2 ⟨rfl, rfl⟩
          refine ⟨_, List.mem_singleton.mpr rfl, σ, ρ, an_kch κ a an_KL, an_px.rf, an_pr.rf, ?_, rfl⟩
          have hnd2 := an_nd_set hnd hq (e2 := .inr (0, (fs.set 0 (.int 0)).set 1 (.ref (O 3).1)))
          have g1 := an_at_set hnd hq (e2 := .inr (0, (fs.set 0 (.int 0)).set 1 (.ref (O 3).1)))
          have hcell : an_at (ws.set q (a, .inr (0, (fs.set 0 (.int 0)).set 1 (.ref (O 3).1)))) a = some (.inr (0, (fs.set 0 (.int 0)).set 1 (.ref (O 3).1))) := by rw [g1, if_pos rfl]
          have f0 : ((fs.set 0 (.int 0)).set 1 (.ref (O 3).1))[0]? = some (.int 0) := by
            rw [List.getElem?_set_ne (by omega), List.getElem?_set, if_pos rfl, if_pos (by omega)]
          have f1 : ((fs.set 0 (.int 0)).set 1 (.ref (O 3).1))[1]? = some (va_rf (some (O 3).1)) := by
            rw [List.getElem?_set, if_pos rfl, if_pos (by simp only [List.length_set]; omega)]; rfl
          have f2 : ((fs.set 0 (.int 0)).set 1 (.ref (O 3).1))[2]? = some (.int s) := by
            rw [List.getElem?_set_ne (by omega), List.getElem?_set_ne (by omega)]; exact q5
          have fl : ((fs.set 0 (.int 0)).set 1 (.ref (O 3).1)).length = 3 := by simp only [List.length_set]; exact q2
          have hown := hsole
          simp only [an_sole, Bool.and_eq_true] at hown
          obtain ⟨b, b1, b2⟩ := hc.2.2.2 r.1 (an_memN_ok hown.2.1)
          cases Option.some.inj (b1.symm.trans hr)
          have hne : ∀ b kd, G.1 b = some kd → b ≠ a := by
            rintro b kd hb rfl
            have := hc.2.2.1.2.1 _ _ hb
            rw [b2] at this
            cases this
          have hrd : ∀ b k i, b ≠ a → an_rd (an_at (ws.set q (a, .inr (0, (fs.set 0 (.int 0)).set 1 (.ref (O 3).1))))) b k i = an_rd (an_at ws) b k i := fun b k i hb => by simp only [an_rd, g1, if_neg hb]
          have hhi : an_hi2 O X κ (an_at (ws.set q (a, .inr (0, (fs.set 0 (.int 0)).set 1 (.ref (O 3).1))))) := by
            refine an_hiL hg.2.2.2.1 hka (fun b _ hb => by rw [g1, if_neg hb]) (an_khL kB hcell fl f0 f1 f2 (by omega)) (fun h => absurd h kC) (fun e9 s9 he9 hs9 => ?_) (fun e9 i9 b9 he9 hs9 hb9 => ?_)
            · rw [g1, if_neg (by rintro rfl; rw [hka] at he9; cases he9)]
              exact hs9
            · exact ⟨b9, by rw [hrd _ _ _ (by rintro rfl; rw [hka] at he9; cases he9)]; exact hs9, hb9⟩
          have hrp : ∀ b kd key j, κ b = some kd → b ≠ a → an_rp kd (an_at (ws.set q (a, .inr (0, (fs.set 0 (.int 0)).set 1 (.ref (O 3).1))))) b key j = an_rp kd (an_at ws) b key j := by
            intro b kd key j hb hba
            by_cases hk4 : key = 1004
            · subst hk4
              by_cases hkl : kd = an_KL
              · subst hkl
                rw [an_rp_L, an_rp_L]
                exact an_rl_eq (hg.2.2.2.1.2 b hb) (hrd _ _ _ hba) (hrd _ _ _ hba) (fun e9 i9 n9 he9 _ => hrd _ _ _ (by rintro rfl; rw [hka] at he9; cases he9)) j
              · rw [an_rp_O hkl, an_rp_O hkl]
            · rw [an_rp_ne hk4, an_rp_ne hk4]
              exact hrd b key j hba
          have hcut := hc.cut (ms := [(an_KL0, 0), (an_KL0, 1)]) (fun b kd key j hb _ => hrp b kd key j (hc.2.2.1.1 _ _ (hc.2.2.1.2.1 _ _ hb)) (hne b kd hb)) hnd2 hhi (fun _ _ q => q) (fun b kd key j hb hm => ?_)
          · refine (hcut.toK hr (by rw [an_rkC, an_soleC, hrk]; exact hsole) (an_khL kA hcell fl f0 f1 f2 (by omega)) (fun _ => ?_)).2
            exact ⟨(O 3).1, 0, s, (an_rdO hcell (by omega)).mpr f1, (an_rdO hcell (by omega)).mpr f2, by omega, by omega, by omega, Or.inl ⟨rfl, rfl⟩, fun i hi => by omega⟩
          · by_cases hba : b = a
            · subst hba
              cases Option.some.inj (hb.symm.trans hka)
              by_cases hk4 : key = 1004
              · subst hk4
                rw [an_rp_O kC, an_rp_O kC]
              rw [an_rp_ne hk4, an_rp_ne hk4]
              by_cases hj : key = 2
              · subst hj
                by_cases hj0 : j = 0
                · subst hj0
                  rw [(an_rdO hcell (by omega)).mpr f2, (an_rdO q1 (by omega)).mpr q5]
                · simp only [an_rd, hcell, q1, Option.bind_some, an_rde, hj0, and_false, if_false]
              · have hk3 : key ≠ 0 ∧ key ≠ 1 ∧ key ≠ 2 := by
                  rw [Bool.eq_false_iff] at hm
                  refine ⟨fun h => hm ?_, fun h => hm ?_, hj⟩
                  · rw [an_mem2_ok, h]; simp
                  · rw [an_mem2_ok, h]; simp
                rw [an_rdN hcell fl hk3, an_rdN q1 q2 hk3]
            · exact hrp b kd key j hb hba
        · cases h
      · cases h
    · cases h
  · rename_i hh; cases hh
  · rename_i hh; cases hh
  · cases h
set_option maxHeartbeats 1000000 in
theorem an_ls1 {O : am_O} {X : Nat → ClassId} {G : an_G} {as : List an_V} {S : an_S} {xs : List an_X} {σ : List Int} {ρ : List Nat} {κ : an_Ka} {asc : List Value} {ws : va_W} (h : an_lop G.2.2.1 1 as S = some xs) (hc : an_cfg O X G S σ ρ κ ws) (hs : an_sok O σ ρ as asc) :
    ∃ Q1 : am_Q, am_Safe O X 41 0 (lv_args 0 asc) [] 0 0 ws Q1 ∧ ∀ r w2, Q1 r w2 → ∃ x ∈ xs, an_xok O X G σ ρ x r w2 := by
  obtain ⟨kA, kB, -, -, -, -, kC, kD, kE⟩ := an_klA
  unfold an_lop at h
  split at h
  · rename_i hh; cases hh
  · rename_i r f e f2 hh
    split at h
    · rename_i hrk
      rw [beq_iff_eq] at hrk
      split at h
      · rename_i n f9 ht
        split at h
        · rename_i hb
          simp only [Option.some.injEq] at h
          subst h
          obtain ⟨w0, rc, rfl, ⟨a, rfl, hr⟩, h2⟩ := hs.cons
          obtain ⟨w1, rc, rfl, ⟨x, rfl, hx⟩, h3⟩ := h2.cons
          have := h3.nil
          subst this
          have hg := hc.2.1
          obtain ⟨hka, hkh⟩ := hg.kind hr (by rw [hrk]; exact kD)
          rw [hrk] at hka hkh
          obtain ⟨fs, m0, s, r1, q1, q2, q3, q4, q5⟩ := an_lcell kA hkh
          obtain ⟨w9, z1, x9, rfl, z3⟩ := an_tg_ok hg hr (j := 0) rfl ht (by decide)
          have z4 := (an_rdO q1 (by omega)).mp z1
          rw [q5] at z4
          cases z4
          have l1 := an_lo_ok hg.1 hx
          have u1 := an_ub_ok hg.1 hx z3
          obtain ⟨e9, n9, s9, l2, l3, l4, l5, ⟨l6, l6b⟩, l7, l8⟩ := hg.2.2.2.1.2 a hka
          have y1 := (an_rdO q1 (by omega)).mp l2
          have y2 := (an_rdO q1 (by omega)).mp l3
          rw [q5] at y2
          cases y2
          obtain ⟨i, rfl, hi, hi2⟩ := an_nIof (x := x) (by omega)
          rcases l7 with ⟨-, l7⟩ | ⟨l7, l9⟩
          · omega
          obtain ⟨ff, hf⟩ := an_row4 l9
          obtain ⟨b, b1, b2⟩ := l8 i (by omega)
          have hfi : ff i = some b := by
            have := an_rdA hf b1
            cases hfx : ff i with
            | none => rw [hfx] at this; cases this
            | some c => rw [hfx] at this; cases this; rfl
          have hcl : (nI i).toNatClampNeg = i := an_clampN hi2
          refine ⟨fun r w => r = .inl (some (.ref b)) ∧ w = ws, an_j40 (an_at_mem q1) y1 q5 (an_at_mem hf) (by omega) (by omega) (vp_in_iff.mpr ⟨by omega, by omega⟩) ⟨by rw [hcl, hfi]; rfl, rfl⟩, ?_⟩
          rintro r' w2 ⟨rfl, rfl⟩
          exact ⟨_, List.mem_singleton.mpr rfl, an_gA_ok hc hr hka (by rw [← hi]; exact an_nrm_ok hg.1 hx) (by simp only [an_rle, l3, l2]; rw [if_pos (by omega)]; exact b1) b2⟩
        · cases h
      · cases h
    · cases h
  · rename_i hh; cases hh
  · cases h
set_option maxHeartbeats 2000000 in
theorem an_ls2 {O : am_O} {X : Nat → ClassId} {G : an_G} {as : List an_V} {S : an_S} {xs : List an_X} {σ : List Int} {ρ : List Nat} {κ : an_Ka} {asc : List Value} {ws : va_W} (h : an_lop G.2.2.1 2 as S = some xs) (hc : an_cfg O X G S σ ρ κ ws) (hs : an_sok O σ ρ as asc) :
    ∃ Q1 : am_Q, am_Safe O X 26 0 (lv_args 0 asc) [] 0 0 ws Q1 ∧ ∀ r w2, Q1 r w2 → ∃ x ∈ xs, an_xok O X G σ ρ x r w2 := by
  obtain ⟨kA, kB, kT1, kT2, kT3, kT4, kC, kD, kE⟩ := an_klA
  unfold an_lop at h
  split at h
  · rename_i hh; cases hh
  · rename_i hh; cases hh
  · rename_i r f t f2 hh
    split at h
    · rename_i hb
      simp only [Bool.and_eq_true, beq_iff_eq] at hb
      obtain ⟨hrk, htk, hm0, hm1, hm2, hm4⟩ := hb
      split at h
      · rename_i n f9 ht
        split at h
        · rename_i hb
          simp only [Option.some.injEq] at h
          subst h
          obtain ⟨w0, rc, rfl, ⟨a, rfl, hr⟩, h2⟩ := hs.cons
          obtain ⟨w1, rc, rfl, ⟨tt, rfl, htr⟩, h3⟩ := h2.cons
          have := h3.nil
          subst this
          have hg := hc.2.1
          have hnd := hc.1
          obtain ⟨hka, hkh⟩ := hg.kind hr (by rw [hrk]; exact kD)
          rw [hrk] at hka hkh
          obtain ⟨fs, m0, s, r1, q1, q2, q3, q4, q5⟩ := an_lcell kA hkh
          obtain ⟨w9, z1, x9, rfl, z3⟩ := an_tg_ok hg hr (j := 0) rfl ht (by decide)
          have z4 := (an_rdO q1 (by omega)).mp z1
          rw [q5] at z4
          cases z4
          have l1 := an_lo_ok hg.1 z3
          have u1 := an_hi_ok hg.1 z3
          obtain ⟨e9, n9, s9, l2, l3, l4, l5, ⟨l6, l6b⟩, l7, l8⟩ := hg.2.2.2.1.2 a hka
          have y1 := (an_rdO q1 (by omega)).mp l2
          have y2 := (an_rdO q1 (by omega)).mp l3
          rw [q5] at y2
          cases y2
          obtain ⟨i, rfl, hi, hi2⟩ := an_nIof (x := s) (by omega)
          obtain ⟨hkt, hkht⟩ := hg.kind htr (by rw [htk]; exact kT3)
          rw [htk] at hkt hkht
          obtain ⟨q, hq⟩ := an_at_ix q1
          have hTg : ∀ b, κ b = some an_KTg → ∃ vs, (b, .inr (11, vs)) ∈ ws := by
            intro b hb
            have hkht := hg.2.2.2.1.1 b _ hb
            unfold an_kh at hkht
            split at hkht
            · rename_i ci tys r3 hki
              rw [hki] at kT2
              simp only at kT2
              subst kT2
              obtain ⟨vs, v1, v2⟩ := an_obj hkht.1
              exact ⟨vs, an_at_mem v1⟩
            · rename_i e0; rw [e0] at kT1; cases kT1
            · rename_i e0; rw [e0] at kT1; cases kT1
            · rename_i e0; rw [e0] at kT1; cases kT1
            · exact hkht.elim
          have htag := hTg tt hkt
          obtain ⟨vs, hvs⟩ := htag
          have hrow : ∃ ff : Nat → Option Nat, an_rowO O X ws e9 n9 ff ∧ (1 ≤ n9 → e9 ≠ a) ∧ (1 ≤ n9 → κ e9 = none) ∧ (∀ j, j < i → ∃ b, ff j = some b ∧ κ b = some an_KTg) ∧ ∀ j, j < i → an_rd (an_at ws) e9 1000 j = some (va_rf (ff j)) := by
            rcases l7 with ⟨l7, l9⟩ | ⟨l7, l9⟩
            · exact ⟨fun _ => none, Or.inl ⟨l7, l9⟩, fun h => by omega, fun h => by omega, fun j hj => by omega, fun j hj => by omega⟩
            · obtain ⟨ff, hf⟩ := an_row4 l9
              refine ⟨ff, ?_, fun _ h => (by rw [h, hka] at l7; cases l7), fun _ => l7, fun j hj => ?_, fun j hj => by simp only [an_rd, hf, Option.bind_some, an_rde]; simp⟩
              · by_cases h0 : 1 ≤ n9
                · exact Or.inr ⟨h0, an_at_mem hf⟩
                · exact Or.inl ⟨l6b (by omega), by omega⟩
              · obtain ⟨b, b1, b2⟩ := l8 j (by omega)
                have := an_rdA hf b1
                cases hfx : ff j with
                | none => rw [hfx] at this; cases this
                | some c => rw [hfx] at this; cases this; exact ⟨_, rfl, b2⟩
          obtain ⟨ff, r1, r2, r3, r4, r5⟩ := hrow
          have i15 : i ≤ 15 := by omega
          have i1 : (nI (i + 1)).toInt = ((i + 1 : Nat) : Int) := an_ofNat (by omega)
          refine ⟨fun r w => r = .inl (some (.int 1)) ∧ ∃ ws1, an_nd ws1 ∧ (∀ b, an_at ws1 b = if b = a then some (.inr (0, fs.set 0 (.int (m0 + 1)))) else an_at ws b) ∧ an_ad X ws1 w a e9 n9 i tt (fs.set 0 (.int (m0 + 1))) ff, an_j26 hnd hq q2 q3 y1 q5 r1 r2 (by omega) l6 i15 hvs (fun j hj y hy => by
            obtain ⟨b, b1, b2⟩ := r4 j hj
            rw [hy] at b1; cases b1
            exact hTg _ b2) (fun ws1 ws2 a1 a2 a3 => ⟨rfl, ws1, a1, a2, a3⟩), ?_⟩
          rintro r' w2 ⟨rfl, ws1, a1, a2, hn2, e2, n2, f2, A1, A2, A3, A4, A5, A6, A7, A8⟩
          have hat1 : ∀ b, b ≠ a → an_at ws1 b = an_at ws b := fun b hb => by rw [a2, if_neg hb]
          have hke2 : κ e2 = none := by
            rcases A8 with ⟨rfl, rfl, h1, -⟩ | h1
            · exact r3 h1
            · have hne : e2 ≠ a := by
                rintro rfl
                rw [a2, if_pos rfl] at h1
                cases h1
              rw [hat1 _ hne] at h1
              cases hc9 : κ e2 with
              | none => rfl
              | some k9 =>
                obtain ⟨x9, hx9⟩ := an_kh_at (hg.2.2.2.1.1 _ _ hc9)
                rw [h1] at hx9
                cases hx9
          have hea2 : e2 ≠ a := by rintro rfl; rw [hka] at hke2; cases hke2
          have hat2 : ∀ b, b ≠ a → b ≠ e2 → an_at w2 b = an_at ws b := fun b h1 h2 => by rw [A7 b h1 h2, hat1 b h1]
          have F : fs.length = 3 := q2
          have f0 : (((fs.set 0 (.int (m0 + 1))).set 1 (.ref e2)).set 2 (.int (nI (i + 1))))[0]? = some (.int (m0 + 1)) := by
            rw [List.getElem?_set_ne (by omega), List.getElem?_set_ne (by omega), List.getElem?_set, if_pos rfl, if_pos (by omega)]
          have f1 : (((fs.set 0 (.int (m0 + 1))).set 1 (.ref e2)).set 2 (.int (nI (i + 1))))[1]? = some (va_rf (some e2)) := by
            rw [List.getElem?_set_ne (by omega), List.getElem?_set, if_pos rfl, if_pos (by simp only [List.length_set]; omega)]; rfl
          have f2' : (((fs.set 0 (.int (m0 + 1))).set 1 (.ref e2)).set 2 (.int (nI (i + 1))))[2]? = some (.int (nI (i + 1))) := by
            rw [List.getElem?_set, if_pos rfl, if_pos (by simp only [List.length_set]; omega)]
          have fl : (((fs.set 0 (.int (m0 + 1))).set 1 (.ref e2)).set 2 (.int (nI (i + 1)))).length = 3 := by simp only [List.length_set]; exact q2
          have hrd2 : ∀ j, an_rd (an_at w2) e2 1000 j = some (va_rf (f2 j)) := fun j => by simp only [an_rd, A4, Option.bind_some, an_rde]; simp
          have hold : (e2 = e9 ∧ n2 = n9 ∧ (∀ j, j ≠ i → f2 j = ff j) ∧ an_at ws e9 = some (.inl (X 3, n9, .inr (.inr (.inr (.inr ff)))))) ∨ an_at ws e2 = none := by
            rcases A8 with ⟨h1, h2, h3, h4⟩ | h1
            · refine Or.inl ⟨h1, h2, h4, ?_⟩
              rcases r1 with ⟨-, h5⟩ | ⟨-, h5⟩
              · omega
              · exact an_mem_at hnd h5
            · rw [hat1 _ hea2] at h1
              exact Or.inr h1
          have hhi : an_hi2 O X κ (an_at w2) := by
            refine an_hiL hg.2.2.2.1 hka (fun b hb hba => hat2 b hba (by rintro rfl; exact hb hke2)) (an_khL kA A3 fl f0 f1 f2' (by omega)) (fun _ => ?_) (fun e s he hs9 => ?_) (fun e j b he hr9 hb9 => ?_)
            · refine ⟨e2, n2, nI (i + 1), (an_rdO A3 (by omega)).mpr f1, (an_rdO A3 (by omega)).mpr f2', by omega, by omega, ⟨A2, fun h => by omega⟩, Or.inr ⟨hke2, by rw [A4]; rfl⟩, fun j hj => ?_⟩
              by_cases hji : j = i
              · subst hji
                exact ⟨tt, by rw [hrd2, A6]; rfl, hkt⟩
              · obtain ⟨b, b1, b2⟩ := r4 j (by omega)
                exact ⟨b, by rw [hrd2, A5 j (by omega), b1]; rfl, b2⟩
            · have hea : e ≠ a := by rintro rfl; rw [hka] at he; cases he
              by_cases hee : e = e2
              · subst hee
                rcases hold with ⟨rfl, rfl, h3, h4⟩ | h1
                · rw [h4] at hs9
                  rw [A4]
                  exact hs9
                · rw [h1] at hs9; cases hs9
              · rw [hat2 e hea hee]; exact hs9
            · have hea : e ≠ a := by rintro rfl; rw [hka] at he; cases he
              by_cases hee : e = e2
              · subst hee
                rcases hold with ⟨rfl, rfl, h3, h4⟩ | h1
                · have h5 := an_rdA h4 hr9
                  by_cases hji : j = i
                  · subst hji
                    exact ⟨tt, by rw [hrd2, A6]; rfl, hkt⟩
                  · exact ⟨b, by rw [hrd2, h3 j hji, ← h5], hb9⟩
                · simp only [an_rd, h1, Option.bind_none] at hr9
                  cases hr9
              · exact ⟨b, by simp only [an_rd, hat2 e hea hee]; exact hr9, hb9⟩
          have hcut := hc.cutM (ms := [(an_KL, 0), (an_KL, 1), (an_KL, 2), (an_KL, 1004)]) (fun q9 hq9 => ?_) hn2 hhi (fun _ _ q => q) (fun b kd key j hb9 hm => ?_)
          · have hs1 : an_rd (an_at w2) a 2 0 = some (.int (nI (i + 1))) := (an_rdO A3 (by omega)).mpr f2'
            have hs2 : an_rd (an_at w2) a 1 0 = some (.ref e2) := (an_rdO A3 (by omega)).mpr f1
            have hi0 : (nI i).toInt = (i : Int) := hi
            refine ⟨_, List.mem_singleton.mpr rfl, σ, ρ, κ, an_px.rf, an_pr.rf, an_gD_ok hc (hcut.add (x := (0, 0)) (v := (0, (n.1, n.2 + 1), (0, 0))) hr hka (j := 0) rfl ((an_rdO A3 (by omega)).mpr f2') ⟨_, rfl, ?_⟩ (by decide)) hr htr hka hkt (i := i) (by rw [← hi0]; exact z3) (fun j hji => ?_) ?_ (fun b kd key j hb9 hkl hk4 => ?_), _, rfl, 1, rfl, rfl⟩
            rotate_left
            · simp only [an_rle, hs1, hs2, l2, l3]
              rw [i1, hi0]
              by_cases hj : j < i
              · rw [if_pos (by omega), if_pos (by omega), hrd2, A5 j hj, r5 j hj]
              · rw [if_neg (by omega), if_neg (by omega)]
            · simp only [an_rle, hs1, hs2]
              rw [i1, if_pos (by omega), hrd2, A6]
              rfl
            · have hba : b ≠ a := by
                rintro rfl
                exact hkl (Option.some.inj (hb9.symm.trans hka))
              have hbe : b ≠ e2 := by rintro rfl; rw [hke2] at hb9; cases hb9
              simp only [an_rd, hat2 b hba hbe]
            rw [i1]
            have e1 : (nI i).toInt = (i : Int) := hi
            rw [e1] at z3
            obtain ⟨na, nb⟩ := n
            cases na with
            | zero => simp only [an_ev, Option.some.injEq] at z3 ⊢; omega
            | succ na =>
              simp only [an_ev, Option.map_eq_some_iff] at z3 ⊢
              obtain ⟨y, g1, g2⟩ := z3
              exact ⟨y, g1, by omega⟩
          · simp only [List.mem_cons, List.not_mem_nil, or_false] at hq9
            rcases hq9 with rfl | rfl | rfl | rfl
            · exact hm0
            · exact hm1
            · exact hm2
            · exact hm4
          · by_cases hk4 : key = 1004
            · subst hk4
              by_cases hkl : kd = an_KL
              · subst hkl
                rw [Bool.eq_false_iff] at hm
                exact absurd (by rw [an_mem2_ok]; simp) hm
              · rw [an_rp_O hkl, an_rp_O hkl]
            rw [an_rp_ne hk4, an_rp_ne hk4]
            by_cases hba : b = a
            · subst hba
              cases Option.some.inj (hb9.symm.trans hka)
              have hk3 : key ≠ 0 ∧ key ≠ 1 ∧ key ≠ 2 := by
                rw [Bool.eq_false_iff] at hm
                refine ⟨fun h => hm ?_, fun h => hm ?_, fun h => hm ?_⟩ <;> (rw [an_mem2_ok, h]; simp)
              rw [an_rdN A3 fl hk3, an_rdN q1 q2 hk3]
            · have hbe : b ≠ e2 := by rintro rfl; rw [hke2] at hb9; cases hb9
              simp only [an_rd, hat2 b hba hbe]
        · cases h
      · cases h
    · cases h
  · cases h
