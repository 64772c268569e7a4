/-! THE HEAP CHANGES: a place is told, a cell is new. -/
theorem an_KLk : (an_ki an_KL).1 = 0 ∧ (an_ki an_KL).2.1 = 0 ∧ an_KL ≠ 0 := by decide +kernel
/-- a value may stand there -/
def an_kt (κ : an_Ka) (kd key : Nat) (w : Value) : Prop := match an_ki kd with
  | (0, _, tys, _) => ∀ t, tys[key]? = some t → an_vt κ t w
  | (_, _, _, _, _, t) => key = 1000 → an_vt κ t w
theorem an_kh_upd {X : Nat → ClassId} {κ : an_Ka} {μ μ2 : an_Mu} {a key j kd : Nat} {w : Value} (hu : an_upd μ μ2 a key j w) (ha : κ a = some kd) (hw : an_kt κ kd key w) {b kb : Nat} (hb : κ b = some kb) (h : an_kh X κ μ b kb) : an_kh X κ μ2 b kb := by
  obtain ⟨u1, u2, u3⟩ := hu
  have rows : ∀ (t : an_Ty) (n : Nat), (an_ki kb).1 ≠ 0 → (an_ki kb).2.2.2.2.2 = t → (∀ i, i < n → ∃ w, an_rd μ b 1000 i = some w ∧ an_vt κ t w) → ∀ i, i < n → ∃ w, an_rd μ2 b 1000 i = some w ∧ an_vt κ t w := by
    intro t n h0 ht hr i hi
    by_cases hc : b = a ∧ 1000 = key ∧ i = j
    · obtain ⟨rfl, rfl, rfl⟩ := hc
      cases Option.some.inj (hb.symm.trans ha)
      refine ⟨w, u2, ?_⟩
      unfold an_kt at hw
      split at hw
      · rename_i e; rw [e] at h0; exact absurd rfl h0
      · rename_i e; rw [e] at ht; simp only at ht; subst ht; exact hw rfl
    · rw [u3 _ _ _ hc]; exact hr i hi
  unfold an_kh at h ⊢
  split at h
  · rename_i ci tys r3 hk
    obtain ⟨h1, h2, h3⟩ := h
    refine ⟨by rw [u1]; exact h1, h2, fun i t ht => ?_⟩
    by_cases hc : b = a ∧ i = key ∧ 0 = j
    · obtain ⟨rfl, rfl, rfl⟩ := hc
      cases Option.some.inj (hb.symm.trans ha)
      refine ⟨w, u2, ?_⟩
      unfold an_kt at hw
      rw [hk] at hw
      exact hw t ht
    · rw [u3 _ _ _ hc]; exact h3 i t ht
  · rename_i r1 r2 lo hi t hk
    obtain ⟨n, h1, h2, h3, h4, h5⟩ := h
    exact ⟨n, by rw [u1]; exact h1, h2, h3, h4, rows t n (by rw [hk]; simp) (by rw [hk]) h5⟩
  · rename_i r1 r2 lo hi t hk
    obtain ⟨n, h1, h2, h3, h4, h5⟩ := h
    exact ⟨n, by rw [u1]; exact h1, h2, h3, h4, rows t n (by rw [hk]; simp) (by rw [hk]) h5⟩
  · rename_i x r2 lo hi t hk
    obtain ⟨n, h1, h9, h2, h3, h4, h5⟩ := h
    exact ⟨n, by rw [u1]; exact h1, h9, h2, h3, h4, rows t n (by rw [hk]; simp) (by rw [hk]) h5⟩
  · exact h
theorem an_lh_upd {O : am_O} {X : Nat → ClassId} {κ : an_Ka} {μ μ2 : an_Mu} {a key j kd : Nat} {w : Value} (hu : an_upd μ μ2 a key j w) (ha : κ a = some kd) (hkd : kd ≠ an_KL) {b : Nat} (hb : κ b = some an_KL) (h : an_lh O X κ μ b) : an_lh O X κ μ2 b := by
  obtain ⟨u1, u2, u3⟩ := hu
  obtain ⟨e, n, s, h1, h2, h3, h4, h5, h6, h7⟩ := h
  have hba : b ≠ a := by
    rintro rfl
    exact hkd (Option.some.inj (ha.symm.trans hb))
  refine ⟨e, n, s, by rw [u3 _ _ _ (fun h => hba h.1)]; exact h1, by rw [u3 _ _ _ (fun h => hba h.1)]; exact h2, h3, h4, h5, ?_, fun i hi => ?_⟩
  · rcases h6 with h6 | ⟨h6, h8⟩
    · exact Or.inl h6
    · exact Or.inr ⟨h6, by rw [u1]; exact h8⟩
  · have hea : e ≠ a := by
      rcases h6 with ⟨-, h6⟩ | ⟨h6, h8⟩
      · omega
      · rintro rfl
        rw [h6] at ha
        cases ha
    rw [u3 _ _ _ (fun h => hea h.1)]
    exact h7 i hi
theorem an_ev_same {σ : List Int} {e f : an_E} {v : Int} (h : e.1 = f.1) (h1 : an_ev σ e = some v) (h2 : an_ev σ f = some v) : e.2 = f.2 := by
  obtain ⟨i, c⟩ := e
  obtain ⟨j, d⟩ := f
  simp only at h
  subst h
  cases i with
  | zero => simp only [an_ev, Option.some.injEq] at h1 h2; simp only; omega
  | succ i =>
    have a := an_evs h1
    have b := an_evs h2
    have := Option.some.inj (a.symm.trans b)
    simp only; omega
theorem an_gdT_ok {O : am_O} {σ : List Int} {ρ : List Nat} {κ : an_Ka} {μ : an_Mu} {T0 : List an_T} (hg : ∀ f ∈ T0, an_tf O σ ρ κ μ f) {a b x y : Nat} (ha : ρ[a]? = some x) (hb : ρ[b]? = some y) : ∀ T : List an_T, (∀ f ∈ T, f ∈ T0) → an_gd a b T = true → x ≠ y := by
  intro T
  induction T with
  | nil => intro _ h; cases h
  | cons f T ih =>
    intro hT h
    simp only [an_gd, Bool.or_eq_true] at h
    rcases h with h | h
    · simp only [Bool.and_eq_true, an_nbq, beq_iff_eq, Bool.or_eq_true] at h
      obtain ⟨h1, h2, h3⟩ := h
      rcases hg _ (hT _ List.mem_cons_self) with ⟨h4, -⟩ | ⟨h4, -⟩ | ⟨-, h4⟩
      · rw [h1] at h4; cases h4
      · exact absurd h1 h4.2
      · rcases h4.tag with ⟨-, q⟩ | ⟨-, q⟩ | ⟨⟨u, v, -, u1, v1, huv⟩, -⟩
        · omega
        · omega
        · rcases h3 with ⟨h5, h6⟩ | ⟨h5, h6⟩
          · rw [h5, ha] at u1
            rw [h6, hb] at v1
            cases u1
            cases v1
            exact huv
          · rw [h5, hb] at u1
            rw [h6, ha] at v1
            cases u1
            cases v1
            exact huv.symm
    · exact ih (fun f hf => hT f (List.mem_cons_of_mem _ hf)) h
theorem an_cfg.put {O : am_O} {X : Nat → ClassId} {G : an_G} {S : an_S} {σ : List Int} {ρ : List Nat} {κ : an_Ka} {ws ws2 : va_W} (h : an_cfg O X G S σ ρ κ ws) {r a key j : Nat} {x : an_E} {v : an_V} {w : Value} (hr : ρ[r]? = some a) (hk : an_rk S r ≠ 0) (hkl : an_rk S r ≠ an_KL)
    (hm : an_mem2 G.2.2.1 (an_rk S r) key = true) (hn : an_nd ws2) (hu : an_upd (an_at ws) (an_at ws2) a key j w) (hw : an_kt κ (an_rk S r) key w) (hv : an_gv O σ ρ v w) (hx : an_ev σ x = some (j : Int)) (h9 : key < 1002) : an_cfg O X G (an_tput S r key x v) σ ρ κ ws2 := by
  obtain ⟨h1, hg, ⟨f1, f2, f3⟩, h4⟩ := h
  obtain ⟨ha, -⟩ := hg.kind hr hk
  obtain ⟨g1, g2, g3, ⟨g4, g5⟩, g6⟩ := hg
  obtain ⟨u1, u2, u3⟩ := id hu
  refine ⟨hn, ⟨g1, g2, g3, ⟨fun b kb hb => an_kh_upd hu ha hw hb (g4 b kb hb), fun b hb => an_lh_upd hu ha hkl hb (g5 b hb)⟩, fun f hf => ?_⟩, ⟨f1, f2, fun b kb k i hb hmb => ?_⟩, h4⟩
  · rcases List.mem_cons.mp hf with rfl | hf
    · exact Or.inr (Or.inl ⟨⟨by first | omega | (simp only; omega), by first | omega | (simp only; omega)⟩, a, _, j, w, hr, ha, hx, by rw [an_rp_ne (by first | omega | (simp only; omega))]; exact u2, hv⟩)
    · rw [List.mem_filter] at hf
      obtain ⟨hf, hc⟩ := hf
      rcases g6 f hf with hl | ⟨h0, b, kb, i, y, e1, e2, e3, e4, e5⟩ | ⟨h0, hgh⟩
      · exact Or.inl hl
      · refine Or.inr (Or.inl ⟨h0, b, kb, i, y, e1, e2, e3, ?_, e5⟩)
        rw [an_rp_upd ⟨g4, g5⟩ hu ha hkl e2]
        · exact e4
        · rintro ⟨rfl, hk2, rfl⟩
          rw [Bool.cond_eq_ite, if_neg (by rw [an_nbq, beq_iff_eq]; exact h0.2)] at hc
          simp only [Bool.or_eq_true, Bool.and_eq_true, Bool.not_eq_true', beq_iff_eq, beq_eq_false_iff_ne, decide_eq_false_iff_not, ne_eq] at hc
          rcases hc with hc | ((hc | hc) | hc) | hc
          · exact hc hk2
          · exact h0.1 hc
          · have hk0 : an_rk S f.1 ≠ 0 := hc.2
            obtain ⟨b2, q1, q2⟩ := g3.2 _ (an_asg_mem hk0)
            cases Option.some.inj (q1.symm.trans e1)
            exact hc.1 (Option.some.inj (q2.symm.trans ha))
          · obtain ⟨c1, c2, c3⟩ := hc
            exact c3 (an_ev_same c2 e3 hx)
          · exact an_gdT_ok g6 e1 hr _ (fun _ q => q) hc.2 rfl
      · refine Or.inr (Or.inr ⟨h0, hgh.fr (fun _ _ q _ => q) (fun a2 kd2 key2 j2 q1 q2 => an_rp_upd ⟨g4, g5⟩ hu ha hkl q1 ?_)⟩)
        rintro ⟨rfl, rfl, rfl⟩
        rw [Bool.cond_eq_ite, if_pos (by rw [an_nbq, beq_iff_eq]; exact h0)] at hc
        cases Option.some.inj (q1.symm.trans ha)
        rw [q2] at hc
        cases hc
  · rw [an_rp_upd ⟨g4, g5⟩ hu ha hkl (f1 _ _ (f2 _ _ hb))]
    · exact f3 b kb k i hb hmb
    · rintro ⟨rfl, rfl, rfl⟩
      have := f1 _ _ (f2 _ _ hb)
      cases Option.some.inj (this.symm.trans ha)
      rw [hm] at hmb
      cases hmb
theorem an_vt.mono {κ κ2 : an_Ka} (hk : ∀ a kd, κ a = some kd → κ2 a = some kd) {t : an_Ty} {w : Value} (h : an_vt κ t w) : an_vt κ2 t w := by
  unfold an_vt at h ⊢
  split at h
  · exact h
  · obtain ⟨a, h1, h2, h3⟩ := h; exact ⟨a, h1, hk _ _ h2, h3⟩
  · exact h
  · exact h
  · exact h
theorem an_kh_at {X : Nat → ClassId} {κ : an_Ka} {μ : an_Mu} {a kd : Nat} (h : an_kh X κ μ a kd) : ∃ e, μ a = some e := by
  have key : ∀ {s : an_Sh}, (μ a).map an_sh = some s → ∃ e, μ a = some e := by
    intro s hs
    cases hm : μ a with
    | none => rw [hm] at hs; cases hs
    | some e => exact ⟨e, rfl⟩
  unfold an_kh at h
  split at h
  · exact key h.1
  · obtain ⟨n, h1, -⟩ := h; exact key h1
  · obtain ⟨n, h1, -⟩ := h; exact key h1
  · obtain ⟨n, h1, -⟩ := h; exact key h1
  · exact h.elim
/-- a kind holds where more addresses have kinds and the cell is as it was -/
theorem an_kh_mono {X : Nat → ClassId} {κ κ2 : an_Ka} {μ μ2 : an_Mu} {a kd : Nat} (hk : ∀ a kd, κ a = some kd → κ2 a = some kd) (he : μ2 a = μ a) (h : an_kh X κ μ a kd) : an_kh X κ2 μ2 a kd := by
  have hrd : ∀ k i, an_rd μ2 a k i = an_rd μ a k i := fun k i => by simp only [an_rd, he]
  unfold an_kh at h ⊢
  split at h
  · obtain ⟨h1, h2, h3⟩ := h
    refine ⟨by rw [he]; exact h1, h2, fun i t ht => ?_⟩
    obtain ⟨w, a1, a2⟩ := h3 i t ht
    exact ⟨w, by rw [hrd]; exact a1, a2.mono hk⟩
  · obtain ⟨n, h1, h2, h3, h4, h5⟩ := h
    refine ⟨n, by rw [he]; exact h1, h2, h3, h4, fun i hi => ?_⟩
    obtain ⟨w, a1, a2⟩ := h5 i hi
    exact ⟨w, by rw [hrd]; exact a1, a2.mono hk⟩
  · obtain ⟨n, h1, h2, h3, h4, h5⟩ := h
    refine ⟨n, by rw [he]; exact h1, h2, h3, h4, fun i hi => ?_⟩
    obtain ⟨w, a1, a2⟩ := h5 i hi
    exact ⟨w, by rw [hrd]; exact a1, a2.mono hk⟩
  · obtain ⟨n, h1, h9, h2, h3, h4, h5⟩ := h
    refine ⟨n, by rw [he]; exact h1, h9, h2, h3, h4, fun i hi => ?_⟩
    obtain ⟨w, a1, a2⟩ := h5 i hi
    exact ⟨w, by rw [hrd]; exact a1, a2.mono hk⟩
  · exact h
/-- a new cell of a kind -/
theorem an_cfg.new {O : am_O} {X : Nat → ClassId} {G : an_G} {S : an_S} {σ : List Int} {ρ : List Nat} {κ : an_Ka} {ws : va_W} (h : an_cfg O X G S σ ρ κ ws) {a kd : Nat} {e : va_E} (hf : am_fresh ws a) (hkl : kd ≠ an_KL)
    (hk : an_kh X (fun b => if b = a then some kd else κ b) (an_at (ws ++ [(a, e)])) a kd) :
    an_cfg O X G (an_ref S kd true).1 σ (ρ ++ [a]) (fun b => if b = a then some kd else κ b) (ws ++ [(a, e)]) ∧ an_gv O σ (ρ ++ [a]) (an_ref S kd true).2 (.ref a) ∧ (ρ ++ [a])[S.2.2.1.1]? = some a ∧ (∀ b, κ b ≠ none → b ≠ a) := by
  obtain ⟨h1, ⟨g1, g2, ⟨r1, r2⟩, ⟨g4, g5⟩, g6⟩, ⟨f1, f2, f3⟩, h4⟩ := h
  have hx : (ρ ++ [a])[S.2.2.1.1]? = some a := by rw [← r1]; simp
  have hna : an_at ws a = none := an_at_fresh hf
  have hka : κ a = none := by
    cases hc : κ a with
    | none => rfl
    | some k0 =>
      obtain ⟨e0, he⟩ := an_kh_at (g4 a k0 hc)
      rw [hna] at he
      cases he
  have hne : ∀ b, κ b ≠ none → b ≠ a := by rintro b hb rfl; exact hb hka
  have hmono : ∀ b k, κ b = some k → (if b = a then some kd else κ b) = some k := fun b k hb => by rw [if_neg (hne b (by rw [hb]; simp))]; exact hb
  have hat : ∀ b, b ≠ a → an_at (ws ++ [(a, e)]) b = an_at ws b := fun b hb => by rw [an_at_app hf, if_neg hb]
  have hrd : ∀ b k i, b ≠ a → an_rd (an_at (ws ++ [(a, e)])) b k i = an_rd (an_at ws) b k i := fun b k i hb => by simp only [an_rd, hat b hb]
  have hrp : ∀ b kb k i, κ b = some kb → an_rp kb (an_at (ws ++ [(a, e)])) b k i = an_rp kb (an_at ws) b k i := by
    intro b kb k i hb
    have hba := hne b (by rw [hb]; simp)
    by_cases hk : k = 1004
    · subst hk
      by_cases hl : kb = an_KL
      · subst hl
        rw [an_rp_L, an_rp_L]
        refine an_rl_eq (g5 b hb) (hrd _ _ _ hba) (hrd _ _ _ hba) (fun e9 i2 n he h8 => hrd _ _ _ ?_) i
        rintro rfl
        rw [hna] at h8
        cases h8
      · rw [an_rp_O hl, an_rp_O hl]
    · rw [an_rp_ne hk, an_rp_ne hk]
      exact hrd _ _ _ hba
  have hk1 : G.2.2.2 a = none := by
    cases hc : G.2.2.2 a with
    | none => rfl
    | some k0 => have := f1 _ _ hc; rw [hka] at this; cases this
  refine ⟨⟨an_nd_app h1 hf, ⟨g1, g2, ⟨by simp [an_ref, r1], fun p hp => ?_⟩, ⟨fun b kb hb => ?_, fun b hb => ?_⟩, fun f hf2 => ?_⟩, ⟨fun b kb hb => hmono _ _ (f1 _ _ hb), f2, fun b kb k i hb hm => ?_⟩, ?_⟩, ⟨a, rfl, hx⟩, hx, hne⟩
  · rcases List.mem_cons.mp hp with rfl | hp
    · exact ⟨a, hx, by simp⟩
    · obtain ⟨b, e1, e2⟩ := r2 p hp
      exact ⟨b, an_pr.one.ix e1, hmono _ _ e2⟩
  · by_cases hba : b = a
    · subst hba
      simp only [if_true, Option.some.injEq] at hb
      subst hb
      exact hk
    · simp only [if_neg hba] at hb
      exact an_kh_mono hmono (hat b hba) (g4 b kb hb)
  · by_cases hba : b = a
    · subst hba
      simp only [if_true, Option.some.injEq] at hb
      exact absurd hb hkl
    · simp only [if_neg hba] at hb
      obtain ⟨e9, n, s, l1, l2, l3, l4, l5, l6, l7⟩ := g5 b hb
      refine ⟨e9, n, s, by rw [hrd _ _ _ hba]; exact l1, by rw [hrd _ _ _ hba]; exact l2, l3, l4, l5, ?_, fun i hi => ?_⟩
      · rcases l6 with l6 | ⟨l6, l8⟩
        · exact Or.inl l6
        · have he9 : e9 ≠ a := by
            rintro rfl
            rw [hna] at l8
            cases l8
          exact Or.inr ⟨by simp only [if_neg he9]; exact l6, by rw [hat _ he9]; exact l8⟩
      · obtain ⟨c, c1, c2⟩ := l7 i hi
        have he9 : e9 ≠ a := by
          rintro rfl
          simp only [an_rd, hna] at c1
          cases c1
        exact ⟨c, by rw [hrd _ _ _ he9]; exact c1, hmono _ _ c2⟩
  · rcases (g6 f hf2).px an_px.rf (an_pr.one (a := a)) with hl | ⟨h0, b, kb, i, y, e1, e2, e3, e4, e5⟩ | ⟨h0, hgh⟩
    · exact Or.inl hl
    · exact Or.inr (Or.inl ⟨h0, b, kb, i, y, e1, hmono _ _ e2, e3, by rw [hrp _ _ _ _ e2]; exact e4, e5⟩)
    · exact Or.inr (Or.inr ⟨h0, hgh.fr (fun a2 kd2 q _ => hmono _ _ q) (fun a2 kd2 key2 j2 q1 _ => hrp _ _ _ _ q1)⟩)
  · rw [hrp _ _ _ _ (f1 _ _ (f2 _ _ hb))]
    exact f3 b kb k i hb hm
  · intro r hr
    simp only [an_ref, if_true] at hr
    rcases List.mem_cons.mp hr with rfl | hr
    · exact ⟨a, hx, hk1⟩
    · obtain ⟨b, e1, e2⟩ := h4 r hr
      exact ⟨b, an_pr.one.ix e1, e2⟩
