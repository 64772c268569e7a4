/-! THE WALK IS SOUND. -/
theorem an_tcut_sub {S : an_S} {ms : List (Nat × Nat)} : ∀ f ∈ (an_tcutH S ms).2.2.2, f ∈ S.2.2.2 := by
  intro f hf
  unfold an_tcutH at hf
  split at hf
  · exact hf
  · exact (List.mem_filter.mp hf).1
theorem an_wR_sub {dead : List Nat} {L2 : an_L} {T2 : List an_T} {ps : List (Nat × Nat × an_E)} {R : List (Nat × Nat)} : ∀ p ∈ an_wR dead L2 T2 ps R, p ∈ R := by
  intro p hp
  unfold an_wR at hp
  split at hp
  · exact (List.mem_filter.mp hp).1
  · exact hp
theorem an_eqF_ok {f g : an_T} (h : an_eqF f g = true) : f = g := by
  simp only [an_eqF, Bool.and_eq_true, an_nbq, beq_iff_eq] at h
  obtain ⟨h1, h2, h3, h4, h5, h6⟩ := h
  have h3 := an_eqE_ok h3
  have h5 := an_eqE_ok h5
  have h6 := an_eqE_ok h6
  obtain ⟨f1, f2, f3, f4, f5, f6⟩ := f
  obtain ⟨g1, g2, g3, g4, g5, g6⟩ := g
  simp only at h1 h2 h3 h4 h5 h6
  rw [h1, h2, h3, h4, h5, h6]
theorem an_subl_ok : ∀ (T fs : List an_T) (f : an_T), f ∈ fs → f ∈ an_subl T fs ∨ f ∈ T := by
  intro T
  induction T with
  | nil => intro fs f h; exact Or.inl h
  | cons g gs ih =>
    intro fs f h
    cases fs with
    | nil => cases h
    | cons f0 fs =>
      simp only [an_subl]
      cases hb : an_eqF f0 g with
      | true =>
        have e := an_eqF_ok hb
        rcases List.mem_cons.mp h with rfl | h
        · exact Or.inr (by rw [e]; exact List.mem_cons_self)
        · rcases ih fs f h with q | q
          · exact Or.inl q
          · exact Or.inr (List.mem_cons_of_mem _ q)
      | false =>
        rcases ih (f0 :: fs) f h with q | q
        · exact Or.inl q
        · exact Or.inr (List.mem_cons_of_mem _ q)
theorem an_eqV_rfl {B : an_B} {v : an_V} : an_eqV B v v = true := by
  simp [an_eqV, an_eqE, an_nbq]
theorem an_dkv {d v v2 : Nat} (h : v2 < v) : d * v2 + d ≤ d * v := by
  have := Nat.mul_le_mul_left d (show v2 + 1 ≤ v from h)
  rw [Nat.mul_add, Nat.mul_one] at this
  exact this
set_option maxHeartbeats 4000000 in
theorem an_loop_ok {O : am_O} {X : Nat → ClassId} {mods : List (Nat × Nat)} {rec : an_Rec} (hrec : an_Spec O X mods rec) (hO : an_Ook O) (hLS : an_LS O X) {m cu : Nat} {e : am_I} {cs : List am_I} {L L1 L2 : an_L} {T2 : List an_T} {ps : List (Nat × Nat × an_E)} {kA sA : Nat} {acts : List an_Ac} {S S1 : an_S} {xs : List an_X}
    (hh : an_head (an_CUT.getD cu an_c0) L S = some (L1, L2, T2, ps, S1))
    (h : an_stp mods rec m e cs L1 [] (kA + (an_CUT.getD cu an_c0).2.2.2.2.2.2.1 * an_rng2 (an_CUT.getD cu an_c0)) (sA + (an_CUT.getD cu an_c0).2.2.2.2.2.2.2 * an_rng2 (an_CUT.getD cu an_c0)) ((cu, e.1, L2, T2, ps, S.1.1, kA + (an_CUT.getD cu an_c0).2.2.2.2.2.2.1 * an_rng2 (an_CUT.getD cu an_c0), sA + (an_CUT.getD cu an_c0).2.2.2.2.2.2.2 * an_rng2 (an_CUT.getD cu an_c0)) :: acts) S1 = some xs)
    (hs : an_sfx (e :: cs) m) (hC : ∀ m2, m2 < m → an_CS O X m2) {G : an_G} {dk ds : Nat} {σ : List Int} {ρ : List Nat} {κ : an_Ka} {l : am_L} {k sl : Nat} {ws : va_W} {Q : am_Q} (hG : G.2.2.1 = mods)
    (hc : an_icf O X G dk ds (0, L, [], kA, sA, S) σ ρ κ l [] k sl ws) (hA : ∀ a ∈ acts, an_aok O X m G dk ds σ ρ Q a) (hQ : ∀ x ∈ an_own S.2.2.1.2.2 xs, ∀ r w, an_xok O X G σ ρ x r w → Q r w) : am_Safe O X m e.1 l [] k sl ws Q := by
  generalize hcd : an_CUT.getD cu an_c0 = c at hh h
  have hrng := @an_mea_le c
  obtain ⟨ss, ts, dead, drop, fs, ⟨j, up⟩, dkl, dsl⟩ := c
  generalize hrg : an_rng2 (ss, ts, dead, drop, fs, (j, up), dkl, dsl) = rg at h hrng
  simp only [an_cIV] at hrng
  simp only at h
  simp only [an_head] at hh
  split at hh
  · cases hh
  · rename_i ps9 hps
    split at hh
    · rename_i c1 c2 hc1 hc2
      split at hh
      · rename_i hif
        rw [Bool.and_eq_true] at hif
        simp only [Option.some.injEq, Prod.mk.injEq] at hh
        obtain ⟨rfl, rfl, rfl, rfl, rfl⟩ := hh
        obtain ⟨⟨hn, hg, hfr, hpro⟩, hL, -, hk, hsl⟩ := hc
        simp only at hk hsl hL
        have hg : an_g O X σ ρ κ (an_at ws) S := hg
        obtain ⟨hB, hM, hR, hhi, hT⟩ := id hg
        obtain ⟨fr1, fr2, fr3⟩ := id hfr
        obtain ⟨y1, a1, a2, a3⟩ := an_curL_ok hL hc1
        obtain ⟨y2, b1, b2, b3⟩ := an_curT_ok hT hc2
        have hcs : (c1 ++ c2).map (fun q => q.2.2) = ss.map (fun q => q.2.2) ++ ts.map (fun q => q.2.2.2) := by rw [List.map_append, a3, b3]
        have hvC := a2.app b2
        have hI := an_ivok_ok hB hvC hif.1
        have hF := an_fcok_ok hB hvC hif.2
        have hL2 : an_lok O σ ρ (L.filter (fun q => !an_memN dead q.1 && !an_memL ss q.1)) l := fun q hq => hL q ((List.mem_filter.mp hq).1)
        have hT2 : ∀ f ∈ (an_tcutH S (List.map (fun p => (an_rk S p.1, p.2.1)) ps9 ++ drop)).2.2.2, an_tf O σ ρ κ (an_at ws) f := fun f hf => hT f (an_tcut_sub f hf)
        generalize hTT : (an_tcutH S (List.map (fun p => (an_rk S p.1, p.2.1)) ps9 ++ drop)).2.2.2 = T2 at h hT2
        generalize hLL : L.filter (fun q => !an_memN dead q.1 && !an_memL ss q.1) = L2 at h hL2
        have hsub := @an_wR_sub dead L2 T2 ps9 S.2.2.1.2.1
        generalize an_wR dead L2 T2 ps9 S.2.2.1.2.1 = RR at h hsub
        have claim : ∀ (v : Nat) (ys : List Int) (κ' : an_Ka) (l' : am_L) (ws' : va_W) (k' sl' : Nat), an_mea (ss.map (fun q => q.2.2) ++ ts.map (fun q => q.2.2.2)) j up ys = v → an_vI ((c1 ++ c2).map (fun q => q.2.2)) ys → (∀ a kd, κ a = some kd → κ' a = some kd) →
            an_icf O X (G.1, G.2.1, G.2.2.1, κ') (dk + dkl * v) (ds + dsl * v) (0, an_hdL S.1.1 ss ++ L2, [], kA + dkl * rg, sA + dsl * rg, ((S.1.1 + (c1 ++ c2).length, an_newE S.1.1 (c1 ++ c2) ++ S.1.2.1, fs.map (fun f => (S.1.1 + f.1, S.1.1 + f.2.1, f.2.2)) ++ S.1.2.2.1, S.1.2.2.2), S.2.1, (S.2.2.1.1, RR, []), an_hdT (S.1.1 + ss.length) ps9 ++ T2)) (σ ++ ys) ρ κ' l' [] k' sl' ws' → am_Safe O X m e.1 l' [] k' sl' ws' Q := by
          intro v
          induction v using Nat.strongRecOn with
          | _ v ih =>
          intro ys κ' l' ws' k' sl' hv hIy hkk hic
          refine an_stp_ok hrec hO hLS h hs hC (G := (G.1, G.2.1, G.2.2.1, κ')) hG hic ?_ ?_
          · intro a ha
            rcases List.mem_cons.mp ha with rfl | ha
            · intro G2 dk2 ds2 σ2 ρ2 κ2 l2 ws2 k2 sl2 L9 kA9 sA9 S9 g1 g2 g3 g4 g5 g6 g7 g8 hc9 hb
              simp only [hcd, an_back] at hb
              split at hb
              · rename_i d1 d2 hd1 hd2
                simp only [Bool.and_eq_true, decide_eq_true_eq] at hb
                obtain ⟨q1, q2, q3, q4, q5, q6, q7⟩ := hb
                obtain ⟨⟨hn9, hg9, hfr9, hpro9⟩, hL9, -, hk9, hsl9⟩ := hc9
                simp only at hk9 hsl9 hL9
                have hg9 : an_g O X σ2 ρ2 κ2 (an_at ws2) S9 := hg9
                obtain ⟨hB9, hM9, hR9, hhi9, hT9⟩ := id hg9
                obtain ⟨u1, u2, u3⟩ := id hfr9
                obtain ⟨z1, a4, a5, a6⟩ := an_curL_ok hL9 hd1
                obtain ⟨z2, b4, b5, b6⟩ := an_curT_ok hT9 hd2
                have hds : (d1 ++ d2).map (fun q => q.2.2) = (c1 ++ c2).map (fun q => q.2.2) := by rw [hcs, List.map_append, a6, b6]
                have hvC9 := a5.app b5
                have hI9 := an_ivok_ok hB9 hvC9 q1
                rw [hds] at hI9
                have hF9 := an_fcok_ok hB9 hvC9 q2
                have hpx : an_px σ σ2 := (show an_px σ (σ ++ ys) from ⟨_, rfl⟩).tr g7
                have hκ : ∀ a kd, κ a = some kd → κ2 a = some kd := fun a kd q => u1 a kd (g4 a kd (hkk a kd q))
                have hlt : an_mea (ss.map (fun q => q.2.2) ++ ts.map (fun q => q.2.2.2)) j up (z1 ++ z2) < v := by
                  cases hj : (d1 ++ d2)[j]? with
                  | none => rw [hj] at q3; cases q3
                  | some p =>
                    rw [hj] at q3
                    obtain ⟨y, e1, e2⟩ := hvC9.ix j p hj
                    have hjm : (ss.map (fun q => q.2.2) ++ ts.map (fun q => q.2.2.2))[j]? = some p.2.2 := by
                      rw [← hcs, ← hds, List.getElem?_map, hj]; rfl
                    rw [hcs] at hIy hI9
                    obtain ⟨y0, i1, i2, i3⟩ := hIy.ix j _ hjm
                    obtain ⟨y9, j1, j2, j3⟩ := hI9.ix j _ hjm
                    cases Option.some.inj (j1.symm.trans e1)
                    have ho : an_ev σ2 (S.1.1 + j + 1, 0) = some y0 := by
                      obtain ⟨τ, rfl⟩ := g7
                      have hnn : σ.length = S.1.1 := hB.1.1
                      have : (σ ++ ys ++ τ)[S.1.1 + j]? = some y0 := by
                        rw [List.append_assoc, ← hnn, List.getElem?_append_right (by omega), show σ.length + j - σ.length = j by omega]
                        exact an_xt i1
                      show ((σ ++ ys ++ τ)[S.1.1 + j]?).map (fun x => x + 0) = some y0
                      rw [this]
                      simp
                    rw [← hv]
                    simp only [an_mea, hjm, i1, j1]
                    cases up with
                    | true =>
                      simp only [if_true] at q3
                      rw [decide_eq_true_eq] at q3
                      have := an_ub_ok hB9 ho e2
                      simp only [if_true]
                      omega
                    | false =>
                      simp only [Bool.false_eq_true, if_false] at q3
                      rw [decide_eq_true_eq] at q3
                      have := an_ub_ok hB9 e2 ho
                      simp only [Bool.false_eq_true, if_false]
                      omega
                have r1 := an_dkv (d := dkl) hlt
                have r2 := an_dkv (d := dsl) hlt
                refine ih _ hlt (z1 ++ z2) κ2 l2 ws2 k2 sl2 rfl hI9 hκ (an_hin hsub hn9 hB hM ⟨hR.1, fun p hp => ?_⟩ hhi9 (fun a kd q => u1 a kd (u2 a kd (by rw [g1]; exact q))) (fun a kd key jj q q9 => ?_) a4 (b1.back hpx g8 b4) hI9 hvC9.bd hF9 ?_ ?_ (by omega) (by omega))
                · obtain ⟨a, e1, e2⟩ := hR.2 p hp
                  exact ⟨a, e1, hκ _ _ e2⟩
                · have g2' : G2.2.1 = G.2.1 := g2
                  rw [← g2']
                  exact u3 a kd key jj (by rw [g1]; exact q) (by rw [g3]; exact q9)
                · intro q hq
                  have hq9 := List.all_eq_true.mp q6 q hq
                  obtain ⟨w0, w1, w2⟩ := hL2 q hq
                  split at hq9
                  · rename_i v9 hv9
                    obtain ⟨w9, f1, f2⟩ := hL9.get hv9
                    exact ⟨w9, f1, w2.back hpx g8 (an_eqV_ok hB9 hq9 f2 (w2.px hpx g8))⟩
                  · cases hq9
                · intro f hf
                  have hmv : ∃ v9, (f.1, f.2.1, f.2.2.1, v9) ∈ S9.2.2.2 ∧ an_eqV S9.1 v9 f.2.2.2 = true := by
                    rcases an_subl_ok S9.2.2.2 T2 f hf with h9 | h9
                    · have hf9 := List.all_eq_true.mp q7 f h9
                      split at hf9
                      · rename_i v9 hv9
                        exact ⟨v9, an_tget_mem hv9, hf9⟩
                      · cases hf9
                    · exact ⟨f.2.2.2, h9, an_eqV_rfl⟩
                  obtain ⟨v9, hv9, hf9⟩ := hmv
                  · skip
                    rcases hT2 f hf with t2 | ⟨h0, a0, kd0, j0, w0, e1, e2, e3, e4, e5⟩ | ⟨h0, hgh⟩
                    · exact Or.inl t2
                    rotate_left
                    · refine Or.inr (Or.inr ⟨h0, hgh.back hpx g8 ?_⟩)
                      have h7 : f.2.2.2.1 ≠ 0 := by
                        rcases hgh.tag with ⟨-, q⟩ | ⟨-, q⟩ | ⟨-, q⟩ <;> omega
                      have hvf : v9 = f.2.2.2 := by
                        simp only [an_eqV, Bool.or_eq_true, Bool.and_eq_true, beq_iff_eq] at hf9
                        rcases hf9 with ⟨e1, e2, e3⟩ | ⟨⟨e1, e2⟩, -⟩
                        · have e2 := an_eqE_ok e2
                          have e3 := an_eqE_ok e3
                          obtain ⟨v1, v2, v3⟩ := v9
                          obtain ⟨f1, f2, f3, f4, f5, f6⟩ := f
                          simp only at e1 e2 e3 ⊢
                          rw [e1, e2, e3]
                        · exact absurd e2 h7
                      have hm9 := hv9
                      rw [hvf] at hm9
                      rcases hT9 _ hm9 with ⟨t2, -⟩ | ⟨t2, -⟩ | ⟨-, t2⟩
                      · rw [h0] at t2; cases t2
                      · exact absurd h0 t2.2
                      · exact t2
                    · rcases hT9 _ (hv9) with ⟨t2, -⟩ | ⟨-, a, kd, jj, w, f1, f2, f3, f4, f5⟩ | ⟨t2, -⟩
                      · exact absurd t2 h0.1
                      rotate_left
                      · exact absurd t2 h0.2
                      · simp only at f1 f3 f4 f5
                        have s1 := Option.some.inj ((g8.ix e1).symm.trans f1)
                        have s2 := Option.some.inj ((hpx.ev e3).symm.trans f3)
                        exact Or.inr (Or.inl ⟨h0, a, kd, jj, w, by rw [← s1]; exact e1, f2, by rw [← s2]; exact e3, f4, e5.back hpx g8 (an_eqV_ok hB9 hf9 f5 (e5.px hpx g8))⟩)
              · cases hb
            · exact (hA a ha).mono rfl rfl rfl (fun a kd q => hkk a kd (fr1 a kd q)) (Nat.le_add_right _ _) (Nat.le_add_right _ _) ⟨_, rfl⟩ an_pr.rf
          · intro x hx r w hxo
            refine hQ _ (an_own_mem hx) r w ?_
            obtain ⟨σ3, ρ3, κ3, p1, p2, ⟨w1, ⟨w2, w3, w4, w5, w6⟩, ⟨w7, w8, w9⟩, w10⟩, p4⟩ := hxo
            refine ⟨σ3, ρ3, κ3, (show an_px σ (σ ++ ys) from ⟨_, rfl⟩).tr p1, p2, ⟨w1, ⟨w2, w3, w4, w5, w6⟩, ⟨fun a kd q => w7 a kd (hkk a kd (fr1 a kd q)), fr2, w9⟩, fun q hq => ?_⟩, p4⟩
            rcases List.mem_append.mp hq with hq | hq
            · exact an_pro.px p2 hpro q hq
            · obtain ⟨a, o1, o2⟩ := w10 q hq
              refine ⟨a, o1, ?_⟩
              cases hx9 : G.2.2.2 a with
              | none => rfl
              | some kd =>
                have := hkk a kd (fr1 a kd hx9)
                simp only at o2
                rw [o2] at this
                cases this
        have hle : an_mea (ss.map (fun q => q.2.2) ++ ts.map (fun q => q.2.2.2)) j up (y1 ++ y2) ≤ rg := hrng (by rw [← hcs]; exact hI)
        have m1 := Nat.mul_le_mul_left dkl hle
        have m2 := Nat.mul_le_mul_left dsl hle
        exact claim _ (y1 ++ y2) κ l ws k sl rfl hI (fun _ _ q => q) (an_hin hsub hn hB hM hR hhi (fun a kd q => fr1 a kd (fr2 a kd q)) fr3 a1 b1 hI hvC.bd hF hL2 hT2 (by omega) (by omega))
      · cases hh
    · cases hh
theorem an_acts_mem : ∀ {acts : List an_Ac} {cu pc : Nat} {a : an_Ac}, an_acts acts cu pc = some a → a ∈ acts ∧ a.1 = cu ∧ a.2.1 = pc := by
  intro acts
  induction acts with
  | nil => intro cu pc a h; cases h
  | cons b acts ih =>
    intro cu pc a h
    simp only [an_acts] at h
    split at h
    · rename_i hb
      simp only [Bool.and_eq_true, beq_iff_eq] at hb
      cases h
      exact ⟨List.mem_cons_self, hb.1, hb.2⟩
    · obtain ⟨h1, h2⟩ := ih h
      exact ⟨List.mem_cons_of_mem _ h1, h2⟩
theorem an_exb_ok {O : am_O} {X : Nat → ClassId} {mods : List (Nat × Nat)} {rec : an_Rec} (hrec : an_Spec O X mods rec) (hO : an_Ook O) (hLS : an_LS O X) : an_Spec O X mods (an_exb mods rec) := by
  intro m cs L st kA sA acts S xs h pc hs ha hC G dk ds σ ρ κ l stc k sl ws Q hG hc hA hQ
  unfold an_exb at h
  split at h
  · cases h
  · rename_i e cs2
    have hpc : e.1 = pc := ha e cs2 rfl
    split at h
    · rw [← hpc]
      exact an_stp_ok hrec hO hLS h hs hC hG hc hA hQ
    · rename_i cu hcu
      split at h
      · rename_i a hac
        obtain ⟨i1, i2, i3⟩ := an_acts_mem hac
        split at h
        · split at h
          · rename_i hb
            have hst : an_sok O σ ρ [] stc := hc.2.2.1
            have := hst.nil
            subst this
            rw [← hpc, ← i3]
            exact hA a i1 G dk ds σ ρ κ l ws k sl L kA sA S rfl rfl rfl (fun _ _ q => q) (Nat.le_refl _) (Nat.le_refl _) an_px.rf an_pr.rf hc (by rw [i2]; exact hb)
          · cases h
        · cases h
      · split at h
        · rename_i L1 L2 T2 ps S1 hh
          rw [an_fS_id, an_fLo_id] at h
          split at h
          · rename_i ys hy
            simp only [Option.some.injEq] at h
            subst h
            have hst : an_sok O σ ρ [] stc := hc.2.2.1
            have := hst.nil
            subst this
            rw [← hpc]
            exact an_loop_ok hrec hO hLS hh hy hs hC hG hc hA hQ
          · cases h
        · cases h
theorem an_ex_ok {O : am_O} {X : Nat → ClassId} {mods : List (Nat × Nat)} (hO : an_Ook O) (hLS : an_LS O X) : ∀ n, an_Spec O X mods (an_ex mods n) := by
  intro n
  induction n with
  | zero => intro m cs L st kA sA acts S xs h; cases h
  | succ n ih =>
    intro m cs L st kA sA acts S xs h
    simp only [an_ex] at h
    have h2 : an_exb mods (an_ex mods n) m cs L st kA sA acts S = some xs := by
      split at h
      · rw [an_fS_id, an_fLo_id, an_fL_id an_fV_id, an_fN_id, an_fN_id] at h
        exact h
      · exact h
    exact an_exb_ok ih hO hLS m cs L st kA sA acts S xs h2
/-! a contract that the checker has seen -/
theorem an_ent_ok {O : am_O} {X : Nat → ClassId} {G : an_G} {κ : an_Ka} {ws : va_W} : ∀ {ts : List an_Ty} {S S1 : an_S} {as : List an_V} {asc : List Value} {σ : List Int} {ρ : List Nat}, an_ent ts S = some (S1, as) → an_cfg O X G S σ ρ κ ws → an_vts κ ts asc → ∃ σ2 ρ2, an_px σ σ2 ∧ an_pr ρ ρ2 ∧ an_cfg O X G S1 σ2 ρ2 κ ws ∧ an_sok O σ2 ρ2 as asc := by
  intro ts
  induction ts with
  | nil =>
    intro S S1 as asc σ ρ h hc hv
    cases h
    cases asc with
    | nil => exact ⟨σ, ρ, an_px.rf, an_pr.rf, hc, trivial⟩
    | cons _ _ => exact hv.elim
  | cons t ts ih =>
    intro S S1 as asc σ ρ h hc hv
    cases asc with
    | nil => exact hv.elim
    | cons w asc =>
      simp only [an_ent] at h
      split at h
      · rename_i S2 v ht
        split at h
        · rename_i S3 vs h3
          cases h
          obtain ⟨σ2, ρ2, p1, p2, p3, p4⟩ := an_typ_ok hc ht hv.1
          obtain ⟨σ3, ρ3, q1, q2, q3, q4⟩ := ih h3 p3 hv.2
          exact ⟨σ3, ρ3, p1.tr q1, p2.tr q2, q3, ⟨p4.px q1 q2, q4⟩⟩
        · cases h
      · cases h
theorem an_chk_ok {O : am_O} {X : Nat → ClassId} (hO : an_Ook O) (hLS : an_LS O X) {fu m : Nat} (h : an_chk fu m = true) (hC : ∀ m2, m2 < m → an_CS O X m2) : an_CS O X m := by
  intro ct hct κ as ws hn hh hv hf
  have hkk := an_ctk hct
  unfold an_chk at h
  rw [hct] at h
  obtain ⟨ps, pre, ret, post, ths, rets, ms⟩ := ct
  simp only at h hkk hv hf
  split at h
  · cases h
  · rename_i S asA hent
    rw [Bool.and_eq_true] at h
    obtain ⟨h1, h2⟩ := h
    split at h2
    · cases h2
    · rename_i xs hx
      have c0 : an_cfg O X (κ, an_at ws, ms, κ) an_s0 [] [] κ ws := by
        refine ⟨hn, ⟨⟨⟨rfl, fun i x hx => by cases hx⟩, fun p hp => (by cases hp), fun f hf => (by cases hf), fun q hq => (by cases hq)⟩, fun q hq => (by cases hq), ⟨rfl, fun p hp => (by cases hp)⟩, hh, fun f hf => (by cases hf)⟩, ⟨fun _ _ q => q, fun _ _ q => q, fun _ _ _ _ _ _ => rfl⟩, fun r hr => (by cases hr)⟩
      obtain ⟨σ, ρ, p1, p2, c1, s1⟩ := an_ent_ok hent c0 hv
      have hrv : (pre = [] ∧ post = []) ∨ ∃ (r0 a : Nat) (bs : List Value) (kd : Nat), an_r0 asA = r0 ∧ ρ[r0]? = some a ∧ as = .ref a :: bs ∧ κ a = some kd ∧ (∀ q ∈ pre, q.1 < 1000) ∧ ∀ q ∈ post, q.1 < 1000 := by
        rcases hkk with hkk | ⟨⟨kd, x, ts, e, hkd⟩, hk1, hk2⟩
        · exact Or.inl hkk
        · right
          subst e
          cases as with
          | nil => exact hv.elim
          | cons w as =>
            obtain ⟨a, rfl, e2, e3⟩ := hv.1
            cases asA with
            | nil => exact s1.elim
            | cons v asA =>
              simp only [an_ent, an_typ] at hent
              split at hent
              · cases hent
                obtain ⟨a2, e4, e5⟩ := s1.1
                cases e4
                exact ⟨_, a, as, _, rfl, e5, rfl, e2, hk1, hk2⟩
              · cases hent
      have hcp : ∃ σ2, an_px σ σ2 ∧ an_cfg O X (κ, an_at ws, ms, κ) (an_post (an_r0 asA) pre S) σ2 ρ κ ws := by
        rcases hrv with ⟨h9, -⟩ | ⟨r0, a, bs, kd, q1, q2, q3, q4, q5, q6⟩
        · subst h9
          exact ⟨σ, an_px.rf, c1⟩
        · rw [q1]
          refine an_post_ok q2 q4 q5 c1 (fun q hq => ?_)
          rcases hf with hf | ⟨a2, bs2, e1, e2⟩
          · rw [hf] at hq; cases hq
          · rw [q3] at e1
            cases e1
            exact e2 q hq
      obtain ⟨σ2, p3, c2⟩ := hcp
      refine an_ex_ok hO hLS fu m _ _ _ _ _ _ _ xs hx 0 (an_sfx_0 m).1 (an_sfx_0 m).2 hC (κ, an_at ws, ms, κ) 0 0 σ2 ρ κ _ [] 0 0 ws _ rfl ⟨c2, an_args_ok 0 (s1.px p3 an_pr.rf), trivial, Nat.le_refl _, Nat.le_refl _⟩ (fun a ha => by cases ha) ?_
      intro x hx2 r w hxo
      have hb := List.all_eq_true.mp h2 x hx2
      obtain ⟨σ3, ρ3, κ3, t1, t2, ⟨t3, t4, ⟨t5, t6, t7⟩, -⟩, t9⟩ := hxo
      obtain ⟨x0, x1, x2⟩ := x
      have hpo : an_pre x2 (an_r0 asA) post = true → an_flds (an_at w) as post := by
        intro hp
        rcases hrv with ⟨-, h9⟩ | ⟨r0, a, bs, kd, q1, q2, q3, q4, q5, q6⟩
        · exact Or.inl h9
        · rw [q1] at hp
          exact Or.inr ⟨a, bs, q3, an_pre_ok t4 (t2.ix q2) q6 hp⟩
      refine ⟨κ3, t3, t4.2.2.2.1, t5, t7, ?_⟩
      match x0, hb, t9 with
      | 0, hb, t9 =>
        simp only [Bool.and_eq_true, Option.isNone_iff_eq_none] at hb
        simp only at t9
        subst t9
        exact ⟨hb.1, hb.2.1, hpo hb.2.2⟩
      | 1, hb, t9 =>
        simp only [Bool.and_eq_true] at hb
        obtain ⟨wv, rfl, hw⟩ := t9
        obtain ⟨h3, h4, h5⟩ := hb
        split at h4
        · rename_i t
          exact ⟨h3, ⟨t, rfl, an_fit_ok t4 hw h4⟩, hpo h5⟩
        · cases h4
      | j + 2, hb, t9 =>
        simp only at t9
        subst t9
        exact an_memN_ok hb
