/-! WHAT THE CHECKER SAYS of chances' methods -/
theorem ck_kO : an_ki an_KO = (0, 12, [(1, 7, 0), (1, 76, 0), (1, 23, 0), (1, 14, 0), (1, 8, 0), (1, 18, 0), (1, 5, 0), (1, 9, 0), (1, 12, 0), (1, 62, 0), (1, 63, 0), (1, 64, 0), (1, 65, 0)], 0, 0, (9, 0, 0)) := rfl
theorem ck_kC : an_ki an_KCl = (0, 2, [(0, (-2147483648), 2147483647), (0, (-2147483648), 2147483647), (0, (-2147483648), 2147483647), (0, (-2147483648), 2147483647)], 0, 0, (9, 0, 0)) := rfl
theorem ck_kR : an_ki an_KRd = (0, 9, [(0, 0, 1), (0, (-2147483648), 2147483647), (0, (-2147483648), 2147483647), (0, (-2147483648), 2147483647), (0, (-2147483648), 2147483647), (0, (-2147483648), 2147483647), (0, (-2147483648), 2147483647), (0, (-2147483648), 2147483647), (0, (-2147483648), 2147483647), (0, (-2147483648), 2147483647), (0, (-2147483648), 2147483647)], 0, 0, (9, 0, 0)) := rfl
theorem ck_kG : an_ki an_KTg = (0, 11, [(0, (-2147483648), 2147483647), (1, 7, 0), (1, 15, 0), (1, 10, 0), (0, (-2147483648), 2147483647), (0, 0, 1), (0, (-2147483648), 2147483647), (0, (-2147483648), 2147483647), (0, (-2147483648), 2147483647), (0, (-2147483648), 2147483647), (0, (-2147483648), 2147483647), (0, (-2147483648), 2147483647), (0, (-2147483648), 2147483647), (0, (-2147483648), 2147483647), (0, (-2147483648), 2147483647), (0, (-2147483648), 2147483647), (0, 0, 1), (0, 0, 1), (0, (-2147483648), 2147483647)], 0, 0, (9, 0, 0)) := rfl
theorem ck_kM : an_ki an_KM = (0, 13, [(0, (-2147483648), 2147483647), (0, 0, 99999), (0, 0, 999), (0, 0, 9999), (0, 0, 9999), (0, (-2147483648), 2147483647), (0, 0, 16), (0, (-2147483648), 2147483647), (1, 24, 0), (1, 25, 0), (1, 26, 0), (1, 27, 0), (1, 28, 0), (1, 29, 0), (1, 30, 0), (1, 31, 0), (1, 32, 0), (1, 33, 0), (1, 34, 0), (1, 35, 0), (1, 51, 0), (1, 52, 0), (1, 53, 0), (1, 36, 0), (1, 54, 0), (1, 37, 0), (1, 38, 0), (1, 39, 0), (1, 40, 0), (1, 41, 0), (1, 42, 0), (1, 43, 0), (1, 44, 0), (1, 45, 0), (1, 46, 0), (1, 47, 0), (1, 55, 0), (1, 48, 0), (1, 49, 0), (0, 0, 3), (0, 0, 255), (0, 0, 31), (0, (-2147483648), 2147483647), (0, 0, 8), (0, (-2147483648), 2147483647), (0, 0, 16), (0, (-1), 15), (1, 56, 0), (1, 57, 0), (0, 0, 8), (1, 58, 0), (1, 59, 0), (1, 60, 0), (0, 0, 128), (1, 61, 0), (0, 0, 40), (1, 50, 0)], 0, 0, (9, 0, 0)) := rfl
theorem ck_kRr : an_ki an_KRr = (3, 2, [], 4, 4, (1, 17, 0)) := rfl
theorem ck_kF9 : an_ki an_KF9 = (1, 0, [], 4, 4, (0, (-2147483648), 2147483647)) := rfl
theorem ck_kF10 : an_ki an_KF10 = (1, 0, [], 4, 4, (0, (-2147483648), 2147483647)) := rfl
theorem ck_kTB : an_ki an_KTB = (1, 0, [], 16, 16, (0, (-2147483648), 2147483647)) := rfl
theorem ck_kKR : an_ki an_KR = (1, 0, [], 16, 16, (0, (-2147483648), 2147483647)) := rfl
theorem ck_ob {X : Nat → ClassId} {κ : an_Ka} {μ : an_Mu} {a kd ci : Nat} {tys : List an_Ty} {rest : Int × Int × an_Ty} (hk : an_ki kd = (0, ci, tys, rest)) (h : an_kh X κ μ a kd) : ∃ fs, μ a = some (.inr (ci, fs)) := by
  unfold an_kh at h
  rw [hk] at h
  obtain ⟨h1, -⟩ := h
  obtain ⟨fs, q1, -⟩ := an_obj h1
  exact ⟨fs, q1⟩
theorem ck_rw {X : Nat → ClassId} {κ : an_Ka} {μ : an_Mu} {a kd N r1 : Nat} {r2 : List an_Ty} {t : an_Ty} (hk : an_ki kd = (1, r1, r2, (N : Int), (N : Int), t)) (h : an_kh X κ μ a kd) : ∃ f, μ a = some (.inl (X 0, N, .inl f)) := by
  unfold an_kh at h
  rw [hk] at h
  obtain ⟨n, q1, q2, q3, q4, -⟩ := h
  obtain ⟨f, hf⟩ := an_row0 q1
  have hn : n = N := by omega
  subst hn
  exact ⟨f, hf⟩
theorem ck_rdI {μ : an_Mu} {a n i : Nat} {c : ClassId} {f : Nat → Int32} (h : μ a = some (.inl (c, n, .inl f))) : an_rd μ a 1000 i = some (.int (f i)) := by
  simp only [an_rd, h, Option.bind_some, an_rde]
  simp
theorem ck_bt (w : Int32) (i : Nat) : an_btw w i = ck_bi (w.toInt.toNat.testBit i) := by
  unfold an_btw ck_bi
  split
  · decide +kernel
  · decide +kernel
theorem an_mc.det {κ : an_Ka} {μ : an_Mu} {am : Nat} {F w F2 w2 : Int32} {u v u2 v2 : Nat → Int32} (h : an_mc κ μ am F w u v) (h2 : an_mc κ μ am F2 w2 u2 v2) : F = F2 ∧ w = w2 ∧ ∀ i, i < 4 → u i = u2 i ∧ v i = v2 i := by
  obtain ⟨fr, tr, a1, a2, a3, a4, -, -, a5, -⟩ := h
  obtain ⟨fr2, tr2, b1, b2, b3, b4, -, -, b5, -⟩ := h2
  rw [a1] at b1
  rw [a2] at b2
  rw [a3] at b3
  rw [a4] at b4
  cases b1
  cases b2
  cases b3
  cases b4
  refine ⟨rfl, rfl, fun i hi => ?_⟩
  obtain ⟨c1, c2⟩ := a5 i hi
  obtain ⟨d1, d2⟩ := b5 i hi
  rw [c1] at d1
  rw [c2] at d2
  have d1 := Option.some.inj d1
  have d2 := Option.some.inj d2
  injection d1 with d1
  injection d2 with d2
  exact ⟨d1, d2⟩
theorem ck_T.congr {X : Nat → ClassId} {ws : va_W} {x : Nat} {fs : List Value} {F : Int32} {w : Nat} {u v u2 v2 : Nat → Int32} (h : ck_T X ws x fs F w u v) (he : ∀ i, i < 4 → u i = u2 i ∧ v i = v2 i) : ck_T X ws x fs F w u2 v2 := by
  obtain ⟨cs, c, rr, f, t1, t2, t3, t4, t5, t6, t7⟩ := h
  refine ⟨cs, c, rr, f, t1, t2, t3, t4, t5, t6, fun i hi => ?_⟩
  obtain ⟨b, rs, b1, b2, b3, b4, b5⟩ := t7 i hi
  exact ⟨b, rs, b1, b2, b3, by rw [← (he i hi).1]; exact b4, by rw [← (he i hi).2]; exact b5⟩
theorem ck_AC {F : Int32} {w wd r t o : Nat} {u v u2 v2 : Nat → Int32} (he : ∀ i, i < 4 → u i = u2 i ∧ v i = v2 i) (ho : o < 4) : ck_A F w u v wd r t o = ck_A F w u2 v2 wd r t o := by
  unfold ck_A ck_bs ck_bb
  rw [(he o ho).1, (he o ho).2]
theorem ck_chC {F : Int32} {w wd r : Nat} {u v u2 v2 : Nat → Int32} (he : ∀ i, i < 4 → u i = u2 i ∧ v i = v2 i) : ck_ch F w u v wd r = ck_ch F w u2 v2 wd r := by
  have e : (fun s => ck_hm F w u v wd r s) = fun s => ck_hm F w u2 v2 wd r s := by
    funext t
    show (w.testBit r && (wd.testBit r && (ck_A F w u v wd r t 0 && (ck_A F w u v wd r t 1 && (ck_A F w u v wd r t 2 && (ck_A F w u v wd r t 3 && true)))))) = _
    rw [ck_AC he (show 0 < 4 by decide), ck_AC he (show 1 < 4 by decide), ck_AC he (show 2 < 4 by decide), ck_AC he (show 3 < 4 by decide)]
    rfl
  unfold ck_ch
  rw [e]
theorem ck_nw {w : Int32} (h : 0 ≤ w.toInt ∧ w.toInt ≤ 15) : w = nI w.toInt.toNat := Int32.toInt_inj.mp (by rw [ck_ti (by omega)]; omega)
set_option maxHeartbeats 2000000 in
theorem ck_lc {O : am_O} {X : Nat → ClassId} {G : an_G} {S : an_S} {σ : List Int} {ρ : List Nat} {κ : an_Ka} {ws : va_W} (hc : an_cfg O X G S σ ρ κ ws) {x rr rm fa tk a : Nat} (hx : ρ[x]? = some a) (hrk : an_rk S x = an_KO) (h1 : an_lcr S x = some (rr, rm, fa, tk)) (h2 : an_lcf S x rm fa tk = true) :
    ∃ (am : Nat) (fs : List Value) (F w : Int32) (u v : Nat → Int32), ρ[rm]? = some am ∧ κ am = some an_KM ∧ an_at ws a = some (.inr (12, fs)) ∧ an_mc κ (an_at ws) am F w u v ∧ ck_T X ws a fs F w.toInt.toNat u v := by
  have hg := hc.2.1
  obtain ⟨z1, z2, z3, z4, z5, z6, z7, z8, z9, z10, z11, z12, z13, z14⟩ := an_FPk8
  obtain ⟨y1, y2, y3, y4, y5, y6, y7, y8, y9, y10, y11, y12, y13, y14, y15, y16, y17, y18, y19⟩ := an_FPk1
  unfold an_lcr at h1
  split at h1
  · rename_i g8 g9 g10 rq f9 e8 e9 e10 e11
    split at h1
    · rename_i hb
      simp only [Bool.and_eq_true, an_nbq, beq_iff_eq] at hb
      obtain ⟨⟨c8, c9, c10⟩, d8, d9, d10⟩ := hb
      simp only [Option.some.injEq, Prod.mk.injEq] at h1
      obtain ⟨rfl, rfl, rfl, rfl⟩ := h1
      unfold an_lcf at h2
      split at h2
      · rename_i c fc e2 f2 p9 f3 p10 f4 t1 t2 t3 t4
        split at h2
        · rename_i e1 f5 t5
          simp only [Bool.and_eq_true, an_nbq, beq_iff_eq, decide_eq_true_eq] at h2
          obtain ⟨k1, k2, k3, k4, k5, k6⟩ := h2
          obtain ⟨q0, ar, am, d, q1, q2, q3, q4, q5, q6, wb, j1, j2, j3, j4⟩ := an_gf8_ok hg e8
          obtain ⟨ar9, af, da, r0, r1, r2, r3, r4, r5, i9, l9⟩ := an_gf9_ok hg e9 (Or.inl rfl)
          obtain ⟨ar10, atk, db, s0, s1, s2, s3, s4, s5, i10, l10⟩ := an_gf9_ok hg e10 (Or.inr rfl)
          rw [d8] at q2
          rw [d9] at r1
          rw [d10] at s1
          cases Option.some.inj (r1.symm.trans q2)
          cases Option.some.inj (s1.symm.trans q2)
          rw [an_eqE_ok c8] at q6
          rw [an_eqE_ok c9] at r5
          rw [an_eqE_ok c10] at s5
          simp only [an_ev, Option.some.injEq] at q6 r5 s5
          obtain ⟨hka, -, fs, o1, -⟩ := an_objK hc hx (by rw [hrk]; exact ck_kO)
          obtain ⟨w1, a1, ar2, rfl, a2⟩ := an_tg_ok hg hx (j := 0) rfl e11 (by omega)
          cases Option.some.inj (a2.symm.trans q2)
          obtain ⟨w2, b1, cc, rfl, b2⟩ := an_tg_ok hg hx (j := 0) rfl t1 (by omega)
          obtain ⟨hkc, -, cs, oc, -⟩ := an_objK hc b2 (by rw [k2]; exact ck_kC)
          obtain ⟨w3, b3, y, rfl, b4⟩ := an_tg_ok hg b2 (j := 0) rfl t5 (by omega)
          obtain ⟨w4, b5, F, rfl, b6⟩ := an_tg_ok hg q3 (j := 0) rfl t2 (by omega)
          have hyF : y = F := Int32.toInt_inj.mp (an_same_ok hg.1 k1 b4 b6)
          subst hyF
          obtain ⟨w5, b7, af2, rfl, b8⟩ := an_tg_ok hg q3 (j := 0) rfl t3 (by omega)
          rw [k3] at b8
          cases Option.some.inj (b8.symm.trans r2)
          obtain ⟨w6, b9, at2, rfl, b10⟩ := an_tg_ok hg q3 (j := 0) rfl t4 (by omega)
          rw [k4] at b10
          cases Option.some.inj (b10.symm.trans s2)
          rw [y17] at r4
          rw [y18] at s4
          obtain ⟨u, hu⟩ := ck_rw (N := 4) ck_kF9 (hg.2.2.2.1.1 _ _ r4)
          obtain ⟨v, hv⟩ := ck_rw (N := 4) ck_kF10 (hg.2.2.2.1.1 _ _ s4)
          have hkr := hg.2.2.2.1.1 _ _ q4
          unfold an_kh at hkr
          rw [ck_kRr] at hkr
          obtain ⟨n, n1, -, n2, n3, n4, -⟩ := hkr
          have hn : n = 4 := by omega
          subst hn
          obtain ⟨f, hf⟩ := an_row4 n1
          have l1 := an_lo_ok hg.1 b6
          have l2 := an_hi_ok hg.1 b6
          have hall : ∀ i, i < 4 → ∃ (b : Nat) (rs : List Value), f i = some b ∧ an_at ws b = some (.inr (9, rs)) ∧ rs[0]? = some (.int (ck_bi (wb.toInt.toNat.testBit i))) ∧ rs[1]? = some (.int (u i)) ∧ rs[2]? = some (.int (v i)) ∧ (0 ≤ (u i).toInt ∧ (u i).toInt ≤ 999) ∧ (0 ≤ (v i).toInt ∧ (v i).toInt ≤ 999) := by
            intro i hi
            obtain ⟨b, x1, x2, x3⟩ := j4 i hi
            obtain ⟨bb, x4, x5, x6⟩ := l9 i hi
            obtain ⟨bc, x7, x8, x9⟩ := l10 i hi
            rw [x1] at x4 x7
            cases x4
            cases x7
            have x3 := x3 (by clear x3 x6 x9; omega)
            obtain ⟨yu, x10, x11, x12⟩ := x6 (by clear x6 x9; omega)
            obtain ⟨yv, x13, x14, x15⟩ := x9 (by clear x9; omega)
            rw [ck_rdI hu] at x11
            rw [ck_rdI hv] at x14
            cases x11
            cases x14
            obtain ⟨rs, hrs⟩ := ck_ob ck_kR (hg.2.2.2.1.1 _ _ x2)
            have hfi : f i = some b := by
              have := an_rdA hf x1
              cases hfx : f i with
              | none => rw [hfx] at this; cases this
              | some c9 => rw [hfx] at this; cases this; rfl
            rw [ck_bt] at x3
            exact ⟨b, rs, hfi, hrs, (an_rdO hrs (by omega)).mp x3, (an_rdO hrs (by decide)).mp x10, (an_rdO hrs (by decide)).mp x13, x12, x15⟩
          refine ⟨am, fs, y, wb, u, v, q3, q5, o1, ⟨af, atk, b5, j1, b7, b9, r4, s4, fun i hi => ⟨ck_rdI hu, ck_rdI hv⟩, j2, ⟨by omega, by omega⟩, fun i hi => ?_⟩, ⟨cs, cc, ar, f, an_at_mem o1, (an_rdO o1 (by omega)).mp b1, an_at_mem oc, (an_rdO oc (by omega)).mp b3, (an_rdO o1 (by omega)).mp a1, an_at_mem hf, fun i hi => ?_⟩⟩
          · obtain ⟨b, rs, -, -, -, -, -, h8, h9⟩ := hall i hi
            exact ⟨h8, h9⟩
          · obtain ⟨b, rs, h3, h4, h5, h6, h7, -⟩ := hall i hi
            exact ⟨b, rs, h3, an_at_mem h4, h5, h6, h7⟩
        · cases h2
      · cases h2
    · cases h1
  · cases h1
theorem ck_fp20 : an_FP20.all (fun p => !an_mem2 [(an_KTB, 1000)] p.1 p.2) = true := by decide +kernel
set_option maxHeartbeats 2000000 in
theorem ck_ls3 {O : am_O} {X : Nat → ClassId} {G : an_G} {as : List an_V} {S : an_S} {xs : List an_X} {σ : List Int} {ρ : List Nat} {κ : an_Ka} {asc : List Value} {ws : va_W} (h : an_lopC G.2.2.1 S as = some xs) (hc : an_cfg O X G S σ ρ κ ws) (hs : an_sok O σ ρ as asc) :
    ∃ Q1 : am_Q, am_Safe O X 264 0 (lv_args 0 asc) [] 0 0 ws Q1 ∧ ∀ r w2, Q1 r w2 → ∃ x ∈ xs, an_xok O X G σ ρ x r w2 := by
  obtain ⟨y1, y2, y3, y4, y5, y6, y7, y8, y9, y10, y11, y12, y13, y14, y15, y16, y17, y18, y19, y20, y21, y22⟩ := an_FPk1
  unfold an_lopC at h
  split at h
  · rename_i x f
    split at h
    · rename_i hb
      rw [Bool.and_eq_true, beq_iff_eq] at hb
      obtain ⟨hrk, hm⟩ := hb
      split at h
      · rename_i rr rm fa tk h1
        split at h
        · rename_i h2
          simp only [Option.some.injEq] at h
          subst h
          obtain ⟨w0, rc, rfl, ⟨a, rfl, hr⟩, h3⟩ := hs.cons
          have := h3.nil
          subst this
          have hg := hc.2.1
          obtain ⟨am, fs, F, w, u, v, m1, m2, o1, mc, hT⟩ := ck_lc hc hr hrk h1 h2
          obtain ⟨hka, -, fs2, o2, -, -, o3⟩ := an_objK hc hr (by rw [hrk]; exact ck_kO)
          rw [o1] at o2
          cases o2
          obtain ⟨wt, b1, b2, ta, rfl, b3, -⟩ := o3 10 _ rfl
          have b3 : κ ta = some an_KTB := b3
          rw [hrk] at hka
          obtain ⟨f0, hf0⟩ := ck_rw (N := 16) ck_kTB (hg.2.2.2.1.1 _ _ b3)
          obtain ⟨q, hq⟩ := an_at_ix hf0
          have hF : F.toInt ≤ 999 := by
            obtain ⟨fr, tr, -, -, -, -, -, -, -, -, hF, -⟩ := id mc
            exact hF.2
          refine ⟨fun r9 w9 => r9 = .inl none ∧ ∃ f2 : Nat → Int32, (∀ b, b < 16 → f2 b = nI (ck_cb F w.toInt.toNat u v (ck_n F) b)) ∧ w9 = ws.set q (ta, .inl (X 0, 16, .inl f2)), ck_ct b1 hF hq hT (fun f2 h9 => ⟨rfl, f2, h9, rfl⟩), ?_⟩
          rintro r9 w9 ⟨rfl, f2, hf2, rfl⟩
          refine ⟨_, List.mem_singleton.mpr rfl, σ, ρ, κ, an_px.rf, an_pr.rf, ?_, rfl⟩
          have hn := hc.1
          have hnd := an_nd_set (e2 := .inl (X 0, 16, .inl f2)) hn hq
          have g1 := an_at_set hn hq (e2 := .inl (X 0, 16, .inl f2))
          generalize hws : ws.set q (ta, .inl (X 0, 16, .inl f2)) = ws2 at hnd g1 ⊢
          have hcell : an_at ws2 ta = some (.inl (X 0, 16, .inl f2)) := by rw [g1, if_pos rfl]
          have hat : ∀ b, b ≠ ta → an_at ws2 b = an_at ws b := fun b hb => by rw [g1, if_neg hb]
          have hrd : ∀ b k i, b ≠ ta → an_rd (an_at ws2) b k i = an_rd (an_at ws) b k i := fun b k i hb => by simp only [an_rd, hat b hb]
          have hrp : ∀ b kd key j, κ b = some kd → an_mem2 [(an_KTB, 1000)] kd key = false → an_rp kd (an_at ws2) b key j = an_rp kd (an_at ws) b key j := by
            intro b kd key j hb hmm
            by_cases hk4 : key = 1004
            · subst hk4
              by_cases hkl : kd = an_KL
              · subst hkl
                rw [an_rp_L, an_rp_L]
                exact an_rl_eq (hg.2.2.2.1.2 b hb) (hrd _ _ _ (by rintro rfl; exact y13 (Option.some.inj (b3.symm.trans hb)))) (hrd _ _ _ (by rintro rfl; exact y13 (Option.some.inj (b3.symm.trans hb)))) (fun e9 i9 n9 he9 _ => hrd _ _ _ (by rintro rfl; rw [b3] at he9; cases he9)) j
              · rw [an_rp_O hkl, an_rp_O hkl]
            · rw [an_rp_ne hk4, an_rp_ne hk4]
              by_cases hba : b = ta
              · subst hba
                have hkk := Option.some.inj (b3.symm.trans hb)
                have hk1 : ¬ key = 1000 := by
                  rintro rfl
                  rw [← hkk, Bool.eq_false_iff] at hmm
                  exact hmm (by rw [an_mem2_ok]; simp)
                simp only [an_rd, hcell, hf0, Option.bind_some, an_rde, if_neg hk1]
              · exact hrd b key j hba
          have hhi : an_hi2 O X κ (an_at ws2) := by
            refine an_hiL hg.2.2.2.1 b3 (fun b _ hb => hat b hb) ?_ (fun h9 => absurd h9 y13) (fun e9 s9 he9 hs9 => ?_) (fun e9 i9 b9 he9 h8 h9 => ⟨b9, ?_, h9⟩)
            · unfold an_kh
              rw [ck_kTB]
              exact ⟨16, by rw [hcell]; rfl, by decide, by decide, by decide, fun i _ => ⟨_, ck_rdI hcell, _, rfl, (an_i32 _).1, (an_i32 _).2⟩⟩
            · rw [hat e9 (by rintro rfl; rw [b3] at he9; cases he9)]
              exact hs9
            · rw [hrd _ _ _ (by rintro rfl; rw [b3] at he9; cases he9)]
              exact h8
          have hcut := hc.cut (ms := [(an_KTB, 1000)]) (fun b kd key j hb hmm => hrp b kd key j (hc.2.2.1.1 _ _ (hc.2.2.1.2.1 _ _ hb)) (by
            rw [Bool.eq_false_iff]
            intro h9
            rw [an_mem2_ok, List.mem_singleton, Prod.mk.injEq] at h9
            obtain ⟨rfl, rfl⟩ := h9
            rw [hm] at hmm
            cases hmm)) hnd hhi (fun _ _ q9 => q9) hrp
          have haa : a ≠ ta := by
            rintro rfl
            exact y22 (Option.some.inj (b3.symm.trans hka))
          refine hcut.addG (Or.inr (Or.inr (Or.inr (Or.inr (Or.inr ⟨a, am, ta, F, w, u, v, rfl, hr, m1, hka, m2, ?_, b3, ?_, fun b hb => ?_⟩)))))
          · rw [hrd _ _ _ haa]
            exact b2
          · refine mc.fr (t := 20) (Or.inl rfl) m2 (fun _ _ q9 _ => q9) (fun b kd key j hb h9 => hrp b kd key j hb ?_)
            have h8 := List.all_eq_true.mp ck_fp20 _ (an_mem2_ok.mp (show an_mem2 an_FP20 kd key = true from h9))
            rw [Bool.not_eq_true'] at h8
            exact h8
          · rw [ck_rdI hcell, hf2 b hb]
        · cases h
      · cases h
    · cases h
  · cases h
set_option maxHeartbeats 2000000 in
theorem ck_ls4 {O : am_O} {X : Nat → ClassId} {G : an_G} {as : List an_V} {S : an_S} {xs : List an_X} {σ : List Int} {ρ : List Nat} {κ : an_Ka} {asc : List Value} {ws : va_W} (h : an_lopD S as = some xs) (hc : an_cfg O X G S σ ρ κ ws) (hs : an_sok O σ ρ as asc) :
    ∃ Q1 : am_Q, am_Safe O X 265 0 (lv_args 0 asc) [] 0 0 ws Q1 ∧ ∀ r w2, Q1 r w2 → ∃ x ∈ xs, an_xok O X G σ ρ x r w2 := by
  obtain ⟨y1, y2, y3, y4, y5, y6, y7, y8, y9, y10, y11, y12, y13, y14, y15, y16, y17, y18, y19⟩ := an_FPk1
  obtain ⟨z1, z2, z3, z4, z5, z6, z7, z8, z9, z10, z11⟩ := an_FPk
  unfold an_lopD at h
  split at h
  · rename_i x f1 er f2 t f3
    split at h
    · rename_i hb
      simp only [Bool.and_eq_true, beq_iff_eq, decide_eq_true_eq] at hb
      obtain ⟨⟨hrk, htk⟩, hl, hh⟩ := hb
      split at h
      · rename_i rr rm fa tk g ew f4 h1 hg21 hew
        split at h
        · rename_i hb2
          simp only [Bool.and_eq_true, an_nbq, beq_iff_eq, decide_eq_true_eq] at hb2
          obtain ⟨⟨h2, d1, d2⟩, w1, w2⟩ := hb2
          simp only [Option.some.injEq] at h
          subst h
          obtain ⟨w0, rc, rfl, ⟨a, rfl, hr⟩, h3⟩ := hs.cons
          obtain ⟨w9, rc, rfl, ⟨rv, rfl, her⟩, h4⟩ := h3.cons
          obtain ⟨w8, rc, rfl, ⟨tt, rfl, htr⟩, h5⟩ := h4.cons
          have := h5.nil
          subst this
          have hg := hc.2.1
          obtain ⟨am, fs, F, w, u, v, m1, m2, o1, mc, hT⟩ := ck_lc hc hr hrk h1 h2
          obtain ⟨ax, am2, tb, F2, wv2, u2, v2, g0, g1, g2, g3, g4, g5, g6, mc2, g8⟩ := an_gf21_ok hg hg21
          rw [d1, hr] at g1
          cases g1
          rw [d2, m1] at g2
          cases g2
          obtain ⟨e1, e2, e3⟩ := mc.det mc2
          subst e1 e2
          have hT := hT.congr e3
          obtain ⟨f0, hf0⟩ := ck_rw (N := 16) ck_kTB (hg.2.2.2.1.1 _ _ g6)
          obtain ⟨-, -, ts, ot, -⟩ := an_objK hc htr (by rw [htk]; exact ck_kG)
          obtain ⟨wz, b1, y, rfl, b2⟩ := an_tg_ok hg htr (j := 0) rfl hew (by omega)
          have l1 := an_lo_ok hg.1 b2
          have l2 := an_hi_ok hg.1 b2
          have l3 := an_lo_ok hg.1 her
          have l4 := an_hi_ok hg.1 her
          obtain ⟨wd, rfl, hwd, -⟩ := an_nIof (x := y) (by omega)
          obtain ⟨r, rfl, hrr, -⟩ := an_nIof (x := rv) (by omega)
          refine ⟨fun r9 w9 => r9 = .inl (some (.int (nI (ck_ch F w.toInt.toNat u2 v2 wd r)))) ∧ w9 = ws, ck_tc ((an_rdO o1 (by omega)).mp g5) (an_at_mem hf0) hT (an_at_mem ot) ((an_rdO ot (by omega)).mp b1) (by omega) (by omega) (fun b hb => ?_) ⟨rfl, rfl⟩, ?_⟩
          · have h9 := g8 b hb
            rw [ck_rdI hf0] at h9
            have h9 := Option.some.inj h9
            injection h9 with h9
          rintro r9 w9 ⟨rfl, rfl⟩
          obtain ⟨σ2, p1, p2, p3, p4⟩ := an_resF (nI (ck_ch F w.toInt.toNat u2 v2 wd r)) hg.1 hg.2.1
          rw [hrr] at her
          rw [hwd] at b2
          exact ⟨_, List.mem_singleton.mpr rfl, σ2, ρ, κ, p1, an_pr.rf, (hc.num p1 p2 p3).addG (Or.inr (Or.inr (Or.inr (Or.inr (Or.inl ⟨am, r, wd, F, w, _, u2, v2, rfl, m1, m2, p1.ev her, p1.ev b2, p4, by omega, by omega, mc2, rfl⟩))))), _, rfl, _, rfl, p4⟩
        · cases h
      · cases h
    · cases h
  · cases h
set_option maxHeartbeats 2000000 in
theorem ck_ls5 {O : am_O} {X : Nat → ClassId} {G : an_G} {as : List an_V} {S : an_S} {xs : List an_X} {σ : List Int} {ρ : List Nat} {κ : an_Ka} {asc : List Value} {ws : va_W} (h : an_lopE S as = some xs) (hc : an_cfg O X G S σ ρ κ ws) (hs : an_sok O σ ρ as asc) :
    ∃ Q1 : am_Q, am_Safe O X 268 0 (lv_args 0 asc) [] 0 0 ws Q1 ∧ ∀ r w2, Q1 r w2 → ∃ x ∈ xs, an_xok O X G σ ρ x r w2 := by
  obtain ⟨y1, y2, y3, y4, y5, y6, y7, y8, y9, y10, y11, y12, y13, y14, y15, y16, y17, y18, y19⟩ := an_FPk1
  obtain ⟨z1, z2, z3, z4, z5, z6, z7, z8, z9, z10, z11⟩ := an_FPk
  obtain ⟨-, -, -, -, x5, -⟩ := an_FPk8
  unfold an_lopE at h
  split at h
  · rename_i m f1 er f2 et f3
    split at h
    · rename_i hb
      simp only [Bool.and_eq_true, beq_iff_eq, decide_eq_true_eq] at hb
      obtain ⟨hrk, hl, hh⟩ := hb
      split at h
      · rename_i g ra f4 hg20 hra
        split at h
        · rename_i ew f5 hew
          split at h
          · rename_i hb2
            simp only [Bool.and_eq_true, an_nbq, beq_iff_eq] at hb2
            obtain ⟨⟨d1, d2⟩, s1, s2⟩ := hb2
            simp only [Option.some.injEq] at h
            subst h
            obtain ⟨w0, rc, rfl, ⟨am, rfl, hr⟩, h3⟩ := hs.cons
            obtain ⟨w9, rc, rfl, ⟨rv, rfl, her⟩, h4⟩ := h3.cons
            obtain ⟨w8, rc, rfl, ⟨tv, rfl, het⟩, h5⟩ := h4.cons
            have := h5.nil
            subst this
            have hg := hc.2.1
            obtain ⟨am2, r, wd, F, w, z, u, v, g0, g1, g2, g3, g4, g5, g6, g7, mc, g9⟩ := an_gf20_ok hg hg20
            rw [d1, hr] at g1
            cases g1
            have e1 : (r : Int) = rv.toInt := an_same_ok hg.1 s1 g3 her
            have hrv : rv = nI r := Int32.toInt_inj.mp (by rw [ck_ti (by omega)]; omega)
            subst hrv
            have l1 := an_lo_ok hg.1 het
            have l2 := an_hi_ok hg.1 het
            obtain ⟨tg, rfl, htg, -⟩ := an_nIof (x := tv) (by omega)
            obtain ⟨-, -, fs, o1, -⟩ := an_objK hc hr (by rw [hrk]; exact ck_kM)
            obtain ⟨fr, tr, c1, c2, c3, c4, c5, c6, c7, c8, c9, c10⟩ := id mc
            obtain ⟨u0, hu0⟩ := ck_rw (N := 4) ck_kF9 (hg.2.2.2.1.1 _ _ c5)
            obtain ⟨v0, hv0⟩ := ck_rw (N := 4) ck_kF10 (hg.2.2.2.1.1 _ _ c6)
            have he : ∀ i, i < 4 → u i = u0 i ∧ v i = v0 i := by
              intro i hi
              obtain ⟨q1, q2⟩ := c7 i hi
              rw [ck_rdI hu0] at q1
              rw [ck_rdI hv0] at q2
              have q1 := Option.some.inj q1
              have q2 := Option.some.inj q2
              injection q1 with q1
              injection q2 with q2
              exact ⟨q1.symm, q2.symm⟩
            obtain ⟨w7, a1, rad, rfl, a2⟩ := an_tg_ok hg hr (j := 0) rfl hra (by omega)
            have hkr := (hg.kind a2 (by rw [d2]; exact z11)).2
            rw [d2] at hkr
            obtain ⟨rr0, hrr0⟩ := ck_rw (N := 16) ck_kKR hkr
            have hne := an_nrm_ok hg.1 het
            rw [htg] at hne
            obtain ⟨w6, a3, y, rfl, a4⟩ := an_tg_ok hg a2 (j := tg) hne hew (by decide)
            have e2 : (wd : Int) = y.toInt := an_same_ok hg.1 s2 g4 a4
            have hy : y = nI wd := Int32.toInt_inj.mp (by rw [ck_ti (by omega)]; omega)
            subst hy
            rw [ck_rdI hrr0] at a3
            have hrt : rr0 tg = nI wd := by
              have a3 := Option.some.inj a3
              injection a3 with a3
            have hwn := ck_nw c8
            rw [hwn] at c2
            have hM : ck_M X ws am fs F w.toInt.toNat u0 v0 rr0 := ⟨fr, tr, rad, an_at_mem o1, (an_rdO o1 (by omega)).mp c1, (an_rdO o1 (by omega)).mp c2, (an_rdO o1 (by omega)).mp c3, an_at_mem hu0, (an_rdO o1 (by omega)).mp c4, an_at_mem hv0, (an_rdO o1 (by omega)).mp a1, an_at_mem hrr0⟩
            refine ⟨fun r9 w9 => r9 = .inl (some (.int (nI (ck_ch F w.toInt.toNat u0 v0 wd r)))) ∧ w9 = ws, ck_mc hM (by omega) (fun i hi => by rw [← (he i hi).1]; exact (c10 i hi).1) (fun i hi => by rw [← (he i hi).2]; exact (c10 i hi).2) c9 (by omega) hrt g7 g6 ⟨rfl, rfl⟩, ?_⟩
            rintro r9 w9 ⟨rfl, rfl⟩
            refine ⟨_, List.mem_singleton.mpr rfl, σ, ρ, κ, an_px.rf, an_pr.rf, hc, _, rfl, _, rfl, ?_⟩
            rw [← ck_chC he, ← g9]
            exact g5
          · cases h
        · cases h
      · cases h
    · cases h
  · cases h
theorem an_LSok {O : am_O} {X : Nat → ClassId} (hO : an_Ook O) : an_LS O X := by
  intro w m2 hw G as S xs σ ρ κ asc ws hx hc hs
  simp only [an_lno, an_LM] at hw
  split at hw
  · rename_i h1
    rw [beq_iff_eq] at h1
    cases hw
    subst h1
    exact an_ls0 hx hc hs
  · split at hw
    · rename_i h1
      rw [beq_iff_eq] at h1
      cases hw
      subst h1
      exact an_ls1 hx hc hs
    · split at hw
      · rename_i h1
        rw [beq_iff_eq] at h1
        cases hw
        subst h1
        exact an_ls2 hx hc hs
      · split at hw
        · rename_i h1
          rw [beq_iff_eq] at h1
          cases hw
          subst h1
          exact ck_ls3 hx hc hs
        · split at hw
          · rename_i h1
            rw [beq_iff_eq] at h1
            cases hw
            subst h1
            exact ck_ls4 hx hc hs
          · split at hw
            · rename_i h1
              rw [beq_iff_eq] at h1
              cases hw
              subst h1
              exact ck_ls5 hx hc hs
            · cases hw
