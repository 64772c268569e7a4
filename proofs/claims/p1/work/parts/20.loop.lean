/-! LOOPS. -/
def an_is (t : Nat) (w : Value) (y : Int) : Prop := (t = 0 ∧ ∃ x : Int32, w = .int x ∧ x.toInt = y) ∨ (t = 1 ∧ ∃ x : Int64, w = .long x ∧ x.toInt = y)
def an_vL (l : am_L) : List (Nat × Nat × Int × Int) → List Int → Prop
  | [], [] => True
  | s :: ss, y :: ys => (∃ w, (s.1, w) ∈ l ∧ an_is s.2.1 w y) ∧ an_vL l ss ys
  | _, _ => False
def an_vT (σ : List Int) (ρ : List Nat) (κ : an_Ka) (μ : an_Mu) : List (Nat × Nat × an_E) → List Int → Prop
  | [], [] => True
  | p :: ps, y :: ys => (∃ (a kd j : Nat) (x : Int32), ρ[p.1]? = some a ∧ κ a = some kd ∧ an_ev σ p.2.2 = some (j : Int) ∧ p.2.1 < 1002 ∧ an_rd μ a p.2.1 j = some (.int x) ∧ x.toInt = y) ∧ an_vT σ ρ κ μ ps ys
  | _, _ => False
def an_vC (σ : List Int) : List (Nat × an_E × Int × Int) → List Int → Prop
  | [], [] => True
  | c :: cs, y :: ys => (an_ev σ c.2.1 = some y ∧ an_LN ≤ y ∧ y ≤ an_LX) ∧ an_vC σ cs ys
  | _, _ => False
def an_vI : List (Int × Int) → List Int → Prop
  | [], [] => True
  | c :: cs, y :: ys => (c.1 ≤ y ∧ y ≤ c.2) ∧ an_vI cs ys
  | _, _ => False
theorem an_curL_ok {O : am_O} {σ : List Int} {ρ : List Nat} {L : an_L} {l : am_L} (hL : an_lok O σ ρ L l) : ∀ {ss : List (Nat × Nat × Int × Int)} {cs : List (Nat × an_E × Int × Int)}, an_curL L ss = some cs → ∃ ys, an_vL l ss ys ∧ an_vC σ cs ys ∧ cs.map (fun q => q.2.2) = ss.map (fun q => q.2.2) := by
  intro ss
  induction ss with
  | nil => intro cs h; cases h; exact ⟨[], trivial, trivial, rfl⟩
  | cons s ss ih =>
    intro cs h
    obtain ⟨i, t, lo, hi⟩ := s
    simp only [an_curL] at h
    split at h
    · rename_i t2 e f cs2 hv hcs
      split at h
      · rename_i hb
        simp only [Bool.and_eq_true, beq_iff_eq, decide_eq_true_eq] at hb
        obtain ⟨rfl, ht⟩ := hb
        cases h
        obtain ⟨ys, h1, h2, h3⟩ := ih hcs
        obtain ⟨w, w1, w2⟩ := hL.get hv
        have ht2 : t2 = 0 ∨ t2 = 1 := by omega
        rcases ht2 with rfl | rfl
        · obtain ⟨x, rfl, hx⟩ := w2
          exact ⟨x.toInt :: ys, ⟨⟨_, w1, Or.inl ⟨rfl, x, rfl, rfl⟩⟩, h1⟩, ⟨⟨hx, an_i32L x⟩, h2⟩, by simp [h3]⟩
        · obtain ⟨x, rfl, hx⟩ := w2
          exact ⟨x.toInt :: ys, ⟨⟨_, w1, Or.inr ⟨rfl, x, rfl, rfl⟩⟩, h1⟩, ⟨⟨hx, an_i64 x⟩, h2⟩, by simp [h3]⟩
      · cases h
    · cases h
theorem an_curT_ok {O : am_O} {σ : List Int} {ρ : List Nat} {κ : an_Ka} {μ : an_Mu} {T : List an_T} (hT : ∀ f ∈ T, an_tf O σ ρ κ μ f) : ∀ {ps : List (Nat × Nat × an_E)} {ts : List (Nat × Nat × Nat × Int × Int)} {cs : List (Nat × an_E × Int × Int)}, an_curT T ps ts = some cs →
    ∃ ys, an_vT σ ρ κ μ ps ys ∧ an_vC σ cs ys ∧ cs.map (fun q => q.2.2) = ts.map (fun q => q.2.2.2) := by
  intro ps
  induction ps with
  | nil =>
    intro ts cs h
    cases ts with
    | nil => cases h; exact ⟨[], trivial, trivial, rfl⟩
    | cons t ts => simp [an_curT] at h
  | cons p ps ih =>
    intro ts cs h
    cases ts with
    | nil => simp [an_curT] at h
    | cons t ts =>
      obtain ⟨t1, t2, t3, lo, hi⟩ := t
      simp only [an_curT] at h
      split at h
      · rename_i e f cs2 hv hcs
        split at h
        · cases h
        · rename_i hb
          rw [Nat.ble_eq] at hb
          cases h
          obtain ⟨ys, h1, h2, h3⟩ := ih hcs
          rcases hT _ (an_tget_mem hv) with ⟨q, -⟩ | ⟨h0, a, kd, j, w, e1, e2, e3, e4, x, rfl, hx⟩ | ⟨q, -⟩
          · simp only at q; omega
          rotate_left
          · simp only at q; omega
          · have hb : p.2.1 < 1002 := by omega
            rw [an_rp_ne (by first | omega | (simp only; omega))] at e4
            exact ⟨x.toInt :: ys, ⟨⟨a, kd, j, x, e1, e2, e3, hb, e4, rfl⟩, h1⟩, ⟨⟨hx, an_i32L x⟩, h2⟩, by simp [h3]⟩
      · cases h
theorem an_vC.app {σ : List Int} : ∀ {a b : List (Nat × an_E × Int × Int)} {x y : List Int}, an_vC σ a x → an_vC σ b y → an_vC σ (a ++ b) (x ++ y) := by
  intro a
  induction a with
  | nil => intro b x y h g; cases x with
    | nil => exact g
    | cons _ _ => exact h.elim
  | cons c a ih => intro b x y h g; cases x with
    | nil => exact h.elim
    | cons v x => exact ⟨h.1, ih h.2 g⟩
theorem an_vC.len {σ : List Int} : ∀ {a : List (Nat × an_E × Int × Int)} {x : List Int}, an_vC σ a x → x.length = a.length := by
  intro a
  induction a with
  | nil => intro x h; cases x with
    | nil => rfl
    | cons _ _ => exact h.elim
  | cons c a ih => intro x h; cases x with
    | nil => exact h.elim
    | cons v x => simp [ih h.2]
theorem an_vC.bd {σ : List Int} : ∀ {a : List (Nat × an_E × Int × Int)} {x : List Int}, an_vC σ a x → ∀ y ∈ x, an_LN ≤ y ∧ y ≤ an_LX := by
  intro a
  induction a with
  | nil => intro x h; cases x with
    | nil => intro y hy; cases hy
    | cons _ _ => exact h.elim
  | cons c a ih => intro x h; cases x with
    | nil => exact h.elim
    | cons v x =>
      intro y hy
      rcases List.mem_cons.mp hy with rfl | hy
      · exact h.1.2
      · exact ih h.2 y hy
theorem an_vC.ix {σ : List Int} : ∀ {a : List (Nat × an_E × Int × Int)} {x : List Int}, an_vC σ a x → ∀ (i : Nat) (p : Nat × an_E × Int × Int), a[i]? = some p → ∃ y, x[i]? = some y ∧ an_ev σ p.2.1 = some y := by
  intro a
  induction a with
  | nil => intro x h i p hp; cases hp
  | cons c a ih => intro x h; cases x with
    | nil => exact h.elim
    | cons v x =>
      intro i p hp
      cases i with
      | zero => simp only [List.getElem?_cons_zero, Option.some.injEq] at hp; subst hp; exact ⟨v, rfl, h.1.1⟩
      | succ i => simpa using ih h.2 i p (by simpa using hp)
theorem an_vI.len : ∀ {a : List (Int × Int)} {x : List Int}, an_vI a x → x.length = a.length := by
  intro a
  induction a with
  | nil => intro x h; cases x with
    | nil => rfl
    | cons _ _ => exact h.elim
  | cons c a ih => intro x h; cases x with
    | nil => exact h.elim
    | cons v x => simp [ih h.2]
theorem an_vI.ix : ∀ {a : List (Int × Int)} {x : List Int}, an_vI a x → ∀ (i : Nat) (p : Int × Int), a[i]? = some p → ∃ y, x[i]? = some y ∧ p.1 ≤ y ∧ y ≤ p.2 := by
  intro a
  induction a with
  | nil => intro x h i p hp; cases hp
  | cons c a ih => intro x h; cases x with
    | nil => exact h.elim
    | cons v x =>
      intro i p hp
      cases i with
      | zero => simp only [List.getElem?_cons_zero, Option.some.injEq] at hp; subst hp; exact ⟨v, rfl, h.1⟩
      | succ i => simpa using ih h.2 i p (by simpa using hp)
theorem an_ivok_ok {B : an_B} {σ : List Int} (hB : an_ok B σ) : ∀ {cs : List (Nat × an_E × Int × Int)} {ys : List Int}, an_vC σ cs ys → an_ivok B cs = true → an_vI (cs.map (fun q => q.2.2)) ys := by
  intro cs
  induction cs with
  | nil => intro ys h _; cases ys with
    | nil => trivial
    | cons _ _ => exact h.elim
  | cons c cs ih => intro ys h hi; cases ys with
    | nil => exact h.elim
    | cons y ys =>
      obtain ⟨t, e, lo, hi2⟩ := c
      simp only [an_ivok, Bool.and_eq_true, decide_eq_true_eq] at hi
      have a := an_lo_ok hB h.1.1
      have b := an_hi_ok hB h.1.1
      simp only at a b
      exact ⟨⟨by simp only; omega, by simp only; omega⟩, ih h.2 hi.2.2⟩
theorem an_fcok_ok {B : an_B} {σ : List Int} (hB : an_ok B σ) {cs : List (Nat × an_E × Int × Int)} {ys : List Int} (h : an_vC σ cs ys) : ∀ {fs : List (Nat × Nat × Int)}, an_fcok B cs fs = true → ∀ f ∈ fs, ∃ x y, ys[f.1]? = some x ∧ ys[f.2.1]? = some y ∧ x - y ≤ f.2.2 := by
  intro fs
  induction fs with
  | nil => intro _ f hf; cases hf
  | cons g fs ih =>
    intro hc f hf
    obtain ⟨a, b, k⟩ := g
    simp only [an_fcok, Bool.and_eq_true] at hc
    obtain ⟨h1, h2⟩ := hc
    rcases List.mem_cons.mp hf with rfl | hf
    · split at h1
      · rename_i p q hp hq
        rw [decide_eq_true_eq] at h1
        obtain ⟨x, x1, x2⟩ := h.ix _ _ hp
        obtain ⟨y, y1, y2⟩ := h.ix _ _ hq
        have := an_ub_ok hB x2 y2
        exact ⟨x, y, x1, y1, by simp only; omega⟩
      · cases h1
    · exact ih h2 f hf
theorem an_newE_ok {σ : List Int} : ∀ {cs : List (Nat × an_E × Int × Int)} {ys : List Int} {n : Nat}, an_vI (cs.map (fun q => q.2.2)) ys → (∀ (i : Nat) (y : Int), ys[i]? = some y → σ[n + i]? = some y) → ∀ p ∈ an_newE n cs, ∃ x, σ[p.1]? = some x ∧ p.2.1 ≤ x ∧ x ≤ p.2.2 := by
  intro cs
  induction cs with
  | nil => intro ys n _ _ p hp; cases hp
  | cons c cs ih => intro ys n h hy; cases ys with
    | nil => exact h.elim
    | cons y ys =>
      obtain ⟨t, e, lo, hi⟩ := c
      intro p hp
      rcases List.mem_cons.mp hp with rfl | hp
      · exact ⟨y, hy 0 y rfl, h.1⟩
      · exact ih h.2 (fun i z hz => by have := hy (i + 1) z (by simpa using hz); rw [show n + (i + 1) = n + 1 + i by omega] at this; exact this) p hp
theorem an_hdL_ok {O : am_O} {σ : List Int} {ρ : List Nat} {l : am_L} : ∀ {ss : List (Nat × Nat × Int × Int)} {ys : List Int} {n : Nat}, an_vL l ss ys → (∀ (i : Nat) (y : Int), ys[i]? = some y → σ[n + i]? = some y) → an_lok O σ ρ (an_hdL n ss) l := by
  intro ss
  induction ss with
  | nil => intro ys n _ _ q hq; cases hq
  | cons s ss ih => intro ys n h hy; cases ys with
    | nil => exact h.elim
    | cons y ys =>
      obtain ⟨i0, t, lo, hi⟩ := s
      intro q hq
      have h0 := hy 0 y rfl
      rw [Nat.add_zero] at h0
      have hev : an_ev σ (n + 1, 0) = some y := by simp [an_ev, h0]
      rcases List.mem_cons.mp hq with rfl | hq
      · obtain ⟨w, w1, w2⟩ := h.1
        refine ⟨w, w1, ?_⟩
        rcases w2 with ⟨w2, x, rfl, hx⟩ | ⟨w2, x, rfl, hx⟩
        · simp only at w2
          subst w2
          exact ⟨x, rfl, by rw [hx]; exact hev⟩
        · simp only at w2
          subst w2
          exact ⟨x, rfl, by rw [hx]; exact hev⟩
      · exact ih h.2 (fun i z hz => by have := hy (i + 1) z (by simpa using hz); rw [show n + (i + 1) = n + 1 + i by omega] at this; exact this) q hq
theorem an_hdT_ok {O : am_O} {σ σ2 : List Int} {ρ : List Nat} {κ : an_Ka} {μ : an_Mu} (hp : an_px σ σ2) : ∀ {ps : List (Nat × Nat × an_E)} {ys : List Int} {n : Nat}, an_vT σ ρ κ μ ps ys → (∀ (i : Nat) (y : Int), ys[i]? = some y → σ2[n + i]? = some y) → ∀ f ∈ an_hdT n ps, an_tf O σ2 ρ κ μ f := by
  intro ps
  induction ps with
  | nil => intro ys n _ _ q hq; cases hq
  | cons s ss ih => intro ys n h hy; cases ys with
    | nil => exact h.elim
    | cons y ys =>
      intro q hq
      have h0 := hy 0 y rfl
      rw [Nat.add_zero] at h0
      have hev : an_ev σ2 (n + 1, 0) = some y := by simp [an_ev, h0]
      rcases List.mem_cons.mp hq with rfl | hq
      · obtain ⟨a, kd, j, x, e1, e2, e3, e4, e5, e6⟩ := h.1
        exact Or.inr (Or.inl ⟨⟨by first | omega | (simp only; omega), by first | omega | (simp only; omega)⟩, a, kd, j, _, e1, e2, hp.ev e3, by rw [an_rp_ne (by first | omega | (simp only; omega))]; exact e5, x, rfl, by rw [e6]; exact hev⟩)
      · exact ih h.2 (fun i z hz => by have := hy (i + 1) z (by simpa using hz); rw [show n + (i + 1) = n + 1 + i by omega] at this; exact this) q hq
theorem an_vL.len {l : am_L} : ∀ {a : List (Nat × Nat × Int × Int)} {x : List Int}, an_vL l a x → x.length = a.length := by
  intro a
  induction a with
  | nil => intro x h; cases x with
    | nil => rfl
    | cons _ _ => exact h.elim
  | cons c a ih => intro x h; cases x with
    | nil => exact h.elim
    | cons v x => simp [ih h.2]
/-- the numbers at a head -/
theorem an_okH {B : an_B} {σ : List Int} (hB : an_ok B σ) {cs : List (Nat × an_E × Int × Int)} {ys : List Int} {fs : List (Nat × Nat × Int)} (hI : an_vI (cs.map (fun q => q.2.2)) ys) (hX : ∀ y ∈ ys, an_LN ≤ y ∧ y ≤ an_LX) (hF : ∀ f ∈ fs, ∃ x y, ys[f.1]? = some x ∧ ys[f.2.1]? = some y ∧ x - y ≤ f.2.2) :
    an_ok (B.1 + cs.length, an_newE B.1 cs ++ B.2.1, fs.map (fun f => (B.1 + f.1, B.1 + f.2.1, f.2.2)) ++ B.2.2.1, B.2.2.2) (σ ++ ys) := by
  have hn : σ.length = B.1 := hB.1.1
  have hlen : ys.length = cs.length := by rw [hI.len]; simp
  have hix : ∀ (i : Nat) (y : Int), ys[i]? = some y → (σ ++ ys)[B.1 + i]? = some y := by
    intro i y hy
    rw [← hn, List.getElem?_append_right (by omega)]
    rw [show σ.length + i - σ.length = i by omega]
    exact hy
  refine ⟨⟨by simp only [List.length_append]; omega, fun i x hx => ?_⟩, fun p hp => ?_, fun f hf => ?_, fun q hq => ?_⟩
  · by_cases hi : i < σ.length
    · rw [List.getElem?_append_left hi] at hx; exact hB.1.2 i x hx
    · rw [List.getElem?_append_right (by omega)] at hx
      exact hX x (List.mem_of_getElem? hx)
  · rcases List.mem_append.mp hp with hp | hp
    · exact an_newE_ok hI hix p hp
    · obtain ⟨y, a, b⟩ := hB.2.1 p hp; exact ⟨y, an_xt a, b⟩
  · rcases List.mem_append.mp hf with hf | hf
    · rw [List.mem_map] at hf
      obtain ⟨g, hg, rfl⟩ := hf
      obtain ⟨x, y, a, b, c⟩ := hF g hg
      exact ⟨x, y, hix _ _ a, hix _ _ b, c⟩
    · obtain ⟨y, z, a, b, d⟩ := hB.2.2.1 f hf; exact ⟨y, z, an_xt a, an_xt b, d⟩
  · obtain ⟨y, a, b⟩ := hB.2.2.2 q hq; exact ⟨y, an_xt a, b⟩
/-- a state at a head -/
theorem an_hin {O : am_O} {X : Nat → ClassId} {κ0 κ : an_Ka} {μ0 : an_Mu} {mods : List (Nat × Nat)} {S : an_S} {σ : List Int} {ρ : List Nat} {cs : List (Nat × an_E × Int × Int)} {ss : List (Nat × Nat × Int × Int)} {fs : List (Nat × Nat × Int)} {ps : List (Nat × Nat × an_E)} {L2 : an_L} {T2 : List an_T} {y1 y2 : List Int} {ws : va_W} {l : am_L} {k sl dk ds kA sA : Nat} {R2 : List (Nat × Nat)} (hR2 : ∀ p ∈ R2, p ∈ S.2.2.1.2.1)
    (hn : an_nd ws) (hB : an_ok S.1 σ) (hM : an_mok S.2.1 σ) (hR : an_rok κ ρ S.2.2.1) (hh : an_hi2 O X κ (an_at ws)) (h0 : ∀ a kd, κ0 a = some kd → κ a = some kd) (hf : ∀ a kd key j, κ0 a = some kd → an_mem2 mods kd key = false → an_rp kd (an_at ws) a key j = an_rp kd μ0 a key j)
    (hvL : an_vL l ss y1) (hvT : an_vT σ ρ κ (an_at ws) ps y2) (hI : an_vI (cs.map (fun q => q.2.2)) (y1 ++ y2)) (hX : ∀ y ∈ y1 ++ y2, an_LN ≤ y ∧ y ≤ an_LX) (hF : ∀ f ∈ fs, ∃ x y, (y1 ++ y2)[f.1]? = some x ∧ (y1 ++ y2)[f.2.1]? = some y ∧ x - y ≤ f.2.2)
    (hL2 : an_lok O σ ρ L2 l) (hT2 : ∀ f ∈ T2, an_tf O σ ρ κ (an_at ws) f) (hk : k + dk ≤ kA) (hs : sl + ds ≤ sA) :
    an_icf O X (κ0, μ0, mods, κ) dk ds (0, an_hdL S.1.1 ss ++ L2, [], kA, sA, ((S.1.1 + cs.length, an_newE S.1.1 cs ++ S.1.2.1, fs.map (fun f => (S.1.1 + f.1, S.1.1 + f.2.1, f.2.2)) ++ S.1.2.2.1, S.1.2.2.2), S.2.1, (S.2.2.1.1, R2, []), an_hdT (S.1.1 + ss.length) ps ++ T2)) (σ ++ (y1 ++ y2)) ρ κ l [] k sl ws := by
  have hpx : an_px σ (σ ++ (y1 ++ y2)) := ⟨_, rfl⟩
  have hnn : σ.length = S.1.1 := hB.1.1
  have hl1 := hvL.len
  have i1 : ∀ (i : Nat) (y : Int), y1[i]? = some y → (σ ++ (y1 ++ y2))[S.1.1 + i]? = some y := by
    intro i y hy
    rw [← hnn, List.getElem?_append_right (by omega)]
    rw [show σ.length + i - σ.length = i by omega]
    exact an_xt hy
  have i2 : ∀ (i : Nat) (y : Int), y2[i]? = some y → (σ ++ (y1 ++ y2))[S.1.1 + ss.length + i]? = some y := by
    intro i y hy
    rw [← hnn, ← hl1, List.getElem?_append_right (by omega), List.getElem?_append_right (by omega)]
    rw [show σ.length + y1.length + i - σ.length - y1.length = i by omega]
    exact hy
  refine ⟨⟨hn, ⟨an_okH hB hI hX hF, hM.px hpx, ⟨hR.1, fun p hp => hR.2 p (hR2 p hp)⟩, hh, fun f hf2 => ?_⟩, ⟨fun a kd q => q, h0, hf⟩, fun r hr => by cases hr⟩, ?_, trivial, hk, hs⟩
  · rcases List.mem_append.mp hf2 with hf2 | hf2
    · exact an_hdT_ok hpx hvT i2 f hf2
    · exact (hT2 f hf2).px hpx an_pr.rf
  · intro q hq
    rcases List.mem_append.mp hq with hq | hq
    · exact an_hdL_ok hvL i1 q hq
    · exact hL2.px hpx an_pr.rf q hq
/-- what was said early is said still -/
theorem an_gv.back {O : am_O} {σ σ2 : List Int} {ρ ρ2 : List Nat} (hs : an_px σ σ2) (hr : an_pr ρ ρ2) {v : an_V} {w w0 : Value} (h0 : an_gv O σ ρ v w0) (h : an_gv O σ2 ρ2 v w) : an_gv O σ ρ v w := by
  unfold an_gv at h0 h ⊢
  split at h
  · obtain ⟨x0, e0, g0⟩ := h0
    obtain ⟨x, e, g⟩ := h
    have := Option.some.inj ((hs.ev g0).symm.trans g)
    exact ⟨x, e, by rw [← this]; exact g0⟩
  · obtain ⟨x0, e0, g0⟩ := h0
    obtain ⟨x, e, g⟩ := h
    have := Option.some.inj ((hs.ev g0).symm.trans g)
    exact ⟨x, e, by rw [← this]; exact g0⟩
  · obtain ⟨x0, e0, g0⟩ := h0
    obtain ⟨x, e, g⟩ := h
    have := Option.some.inj ((hr.ix g0).symm.trans g)
    exact ⟨x, e, by rw [← this]; exact g0⟩
  · exact h
  · obtain ⟨x0, y0, e0, g0, k0⟩ := h0
    obtain ⟨x, y, e, g, k⟩ := h
    have a := Option.some.inj ((hs.ev g0).symm.trans g)
    have b := Option.some.inj ((hs.ev k0).symm.trans k)
    exact ⟨x, y, e, by rw [← a]; exact g0, by rw [← b]; exact k0⟩
  · exact h
  · exact h
theorem an_eqV_ok {O : am_O} {B : an_B} {σ : List Int} {ρ : List Nat} (hB : an_ok B σ) {v u : an_V} {w w0 : Value} (he : an_eqV B v u = true) (hv : an_gv O σ ρ v w) (hu : an_gv O σ ρ u w0) : an_gv O σ ρ u w := by
  obtain ⟨v0, v1, v2⟩ := v
  obtain ⟨u0, u1, u2⟩ := u
  simp only [an_eqV, Bool.or_eq_true, Bool.and_eq_true, beq_iff_eq] at he
  rcases he with ⟨e1, e2, e3⟩ | ⟨⟨e1, e2⟩, e3⟩
  · have e2 := an_eqE_ok e2
    have e3 := an_eqE_ok e3
    subst e1 e2 e3
    exact hv
  · subst e1 e2
    obtain ⟨x, rfl, hx⟩ := hv
    obtain ⟨y, rfl, hy⟩ := hu
    have a := an_nrm_ok hB hx
    have b := an_nrm_ok hB hy
    rw [an_eqE_ok e3] at a
    have := Option.some.inj (a.symm.trans b)
    exact ⟨x, rfl, by rw [this]; exact hy⟩
theorem an_vT.back {σ σ2 : List Int} {ρ ρ2 : List Nat} {κ κ2 : an_Ka} {μ μ2 : an_Mu} (hs : an_px σ σ2) (hr : an_pr ρ ρ2) : ∀ {ps : List (Nat × Nat × an_E)} {y0 ys : List Int}, an_vT σ ρ κ μ ps y0 → an_vT σ2 ρ2 κ2 μ2 ps ys → an_vT σ ρ κ2 μ2 ps ys := by
  intro ps
  induction ps with
  | nil => intro y0 ys h0 h; cases ys with
    | nil => trivial
    | cons _ _ => exact h.elim
  | cons p ps ih => intro y0 ys h0 h; cases y0 with
    | nil => exact h0.elim
    | cons z0 y0 => cases ys with
      | nil => exact h.elim
      | cons z ys =>
        obtain ⟨a0, kd0, j0, x0, e1, e2, e3, e4, e5, e6⟩ := h0.1
        obtain ⟨a, kd, j, x, f1, f2, f3, f4, f5, f6⟩ := h.1
        have q1 := Option.some.inj ((hr.ix e1).symm.trans f1)
        have q2 := Option.some.inj ((hs.ev e3).symm.trans f3)
        exact ⟨⟨a, kd, j, x, by rw [← q1]; exact e1, f2, by rw [← q2]; exact e3, f4, f5, f6⟩, ih h0.2 h.2⟩
theorem an_own_mem {pr : List Nat} : ∀ {xs : List an_X} {x : an_X}, x ∈ xs → (x.1, x.2.1, (x.2.2.1, x.2.2.2.1, (x.2.2.2.2.1.1, x.2.2.2.2.1.2.1, pr ++ x.2.2.2.2.1.2.2), x.2.2.2.2.2)) ∈ an_own pr xs := by
  intro xs
  induction xs with
  | nil => intro x h; cases h
  | cons y xs ih =>
    intro x h
    rcases List.mem_cons.mp h with rfl | h
    · exact List.mem_cons_self
    · exact List.mem_cons_of_mem _ (ih h)
def an_mea (ivs : List (Int × Int)) (j : Nat) (up : Bool) (ys : List Int) : Nat := match ivs[j]?, ys[j]? with
  | some p, some y => if up then (p.2 - y).toNat else (y - p.1).toNat
  | _, _ => 0
def an_cIV (c : an_CU) : List (Int × Int) := c.1.map (fun q => q.2.2) ++ c.2.1.map (fun q => q.2.2.2)
theorem an_mea_le {c : an_CU} {ys : List Int} (h : an_vI (an_cIV c) ys) : an_mea (an_cIV c) c.2.2.2.2.2.1.1 c.2.2.2.2.2.1.2 ys ≤ an_rng2 c := by
  obtain ⟨ss, ts, dead, drop, fs, ⟨j, up⟩, dk, ds⟩ := c
  simp only [an_mea, an_rng2, an_cIV] at h ⊢
  cases hj : (List.map (fun q => q.2.2) ss ++ List.map (fun q => q.2.2.2) ts)[j]? with
  | none => simp
  | some p =>
    obtain ⟨y, h1, h2, h3⟩ := h.ix j p hj
    rw [h1]
    obtain ⟨lo, hi⟩ := p
    simp only at h2 h3 ⊢
    split <;> omega
