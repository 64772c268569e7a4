/-! WHAT A STATE OF THE CHECKER SAYS. -/
def an_gv (O : am_O) (σ : List Int) (ρ : List Nat) (v : an_V) (w : Value) : Prop := match v with
  | (0, e, _) => ∃ x : Int32, w = .int x ∧ an_ev σ e = some x.toInt
  | (1, e, _) => ∃ x : Int64, w = .long x ∧ an_ev σ e = some x.toInt
  | (2, r, _) => ∃ a, w = .ref a ∧ ρ[r.1]? = some a
  | (3, _, _) => ∃ x, w = va_rf x
  | (4, e, f) => ∃ x y : Int64, w = .int (lg_cmp x y) ∧ an_ev σ e = some x.toInt ∧ an_ev σ f = some y.toInt
  | (5, j, _) => w = .ref (O j.1).1
  | _ => False
def an_pr (ρ ρ2 : List Nat) : Prop := ∃ τ, ρ2 = ρ ++ τ
theorem an_pr.rf {ρ : List Nat} : an_pr ρ ρ := ⟨[], by simp⟩
theorem an_pr.tr {a b c : List Nat} (h : an_pr a b) (g : an_pr b c) : an_pr a c := by
  obtain ⟨u, rfl⟩ := h
  obtain ⟨v, rfl⟩ := g
  exact ⟨u ++ v, by simp⟩
theorem an_pr.one {ρ : List Nat} {a : Nat} : an_pr ρ (ρ ++ [a]) := ⟨[a], rfl⟩
theorem an_pr.ix {ρ ρ2 : List Nat} (h : an_pr ρ ρ2) {i a : Nat} (hx : ρ[i]? = some a) : ρ2[i]? = some a := by
  obtain ⟨τ, rfl⟩ := h
  rw [List.getElem?_append_left (List.getElem?_eq_some_iff.mp hx).1]
  exact hx
theorem an_gv.px {O : am_O} {σ σ2 : List Int} {ρ ρ2 : List Nat} (hs : an_px σ σ2) (hr : an_pr ρ ρ2) {v : an_V} {w : Value} (h : an_gv O σ ρ v w) : an_gv O σ2 ρ2 v w := by
  unfold an_gv at h ⊢
  split at h
  · obtain ⟨x, h1, h2⟩ := h; exact ⟨x, h1, hs.ev h2⟩
  · obtain ⟨x, h1, h2⟩ := h; exact ⟨x, h1, hs.ev h2⟩
  · obtain ⟨x, h1, h2⟩ := h; exact ⟨x, h1, hr.ix h2⟩
  · exact h
  · obtain ⟨x, y, h1, h2, h3⟩ := h; exact ⟨x, y, h1, hs.ev h2, hs.ev h3⟩
  · exact h
  · exact h
def an_rok (κ : an_Ka) (ρ : List Nat) (R : an_R) : Prop := ρ.length = R.1 ∧ ∀ p ∈ R.2.1, ∃ a, ρ[p.1]? = some a ∧ κ a = some p.2
/-- of an old row: its length (at -1), its elements -/
def an_old (O : am_O) (j : Nat) (i : Int) : Int32 := if i < 0 then Int32.ofNat (O j).2.1 else (O j).2.2 i.toNat
/-- REACH: of each TAG of the list (but at place d) as the reference's row has it; its number is its place -/
def an_jr (κ : an_Ka) (μ : an_Mu) (al ar : Nat) (d : Int) : Prop := ∀ (i b : Nat), an_rle μ al i = some (.ref b) → κ b = some an_KTg ∧ an_rd μ b an_FN 0 = some (.int (Int32.ofNat i)) ∧ ((i : Int) ≠ d → ∃ x : Int32, an_rd μ b an_FR 0 = some (.int x) ∧ an_rd μ ar 1000 i = some (.int x))
def an_gh7 (σ : List Int) (ρ : List Nat) (κ : an_Ka) (μ : an_Mu) (f : an_T) : Prop := ∃ (al ar : Nat) (d : Int), f.2.2.2.1 = 7 ∧ ρ[f.1]? = some al ∧ ρ[f.2.2.2.2.1.1]? = some ar ∧ κ al = some an_KL ∧ κ ar = some an_KR ∧ an_ev σ f.2.2.1 = some d ∧ an_jr κ μ al ar d
/-- a bit -/
def an_btw (w : Int32) (i : Nat) : Int32 := if w.toInt.toNat.testBit i then 1 else 0
/-- ON: of each READER (but at place d) as the reference's bits have it; no READER stands twice -/
def an_jo (κ : an_Ka) (μ : an_Mu) (ar am : Nat) (d : Int) : Prop := ∃ w : Int32, an_rd μ am an_FMO 0 = some (.int w) ∧ (0 ≤ w.toInt ∧ w.toInt ≤ 15) ∧ (∀ i j b, i < 4 → j < 4 → an_rd μ ar 1000 i = some (.ref b) → an_rd μ ar 1000 j = some (.ref b) → i = j) ∧
  ∀ i, i < 4 → ∃ b, an_rd μ ar 1000 i = some (.ref b) ∧ κ b = some an_KRd ∧ ((i : Int) ≠ d → an_rd μ b an_FO 0 = some (.int (an_btw w i)))
def an_gh8 (σ : List Int) (ρ : List Nat) (κ : an_Ka) (μ : an_Mu) (f : an_T) : Prop := ∃ (ar am : Nat) (d : Int), f.2.2.2.1 = 8 ∧ ρ[f.1]? = some ar ∧ ρ[f.2.2.2.2.1.1]? = some am ∧ κ ar = some an_KRr ∧ κ am = some an_KM ∧ an_ev σ f.2.2.1 = some d ∧ an_jo κ μ ar am d
/-- two names of two addresses -/
def an_gh12 (ρ : List Nat) (f : an_T) : Prop := ∃ a b : Nat, f.2.2.2.1 = 12 ∧ ρ[f.1]? = some a ∧ ρ[f.2.2.2.2.1.1]? = some b ∧ a ≠ b
/-- a ghost: of many places at once -/
def an_gh (σ : List Int) (ρ : List Nat) (κ : an_Ka) (μ : an_Mu) (f : an_T) : Prop := an_gh7 σ ρ κ μ f ∨ an_gh8 σ ρ κ μ f ∨ an_gh12 ρ f
theorem an_FPk : an_mem2 an_FP an_KL 1004 = true ∧ an_mem2 an_FP an_KTg an_FN = true ∧ an_mem2 an_FP an_KTg an_FR = true ∧ an_mem2 an_FP an_KR 1000 = true ∧ an_FN < 1000 ∧ an_FR < 1000 ∧ an_FN ≠ an_FR ∧ an_KR ≠ an_KTg ∧ an_KR ≠ an_KL ∧ an_KTg ≠ an_KL ∧ an_KR ≠ 0 := by decide +kernel
theorem an_FPk8 : an_mem2 an_FP8 an_KRr 1000 = true ∧ an_mem2 an_FP8 an_KRd an_FO = true ∧ an_mem2 an_FP8 an_KM an_FMO = true ∧ an_FO < 1000 ∧ an_FMO < 1000 ∧ an_KRd ≠ an_KL ∧ an_KM ≠ an_KL ∧ an_KRr ≠ an_KL ∧ an_KRd ≠ 0 ∧ an_KM ≠ 0 ∧ an_KRr ≠ 0 ∧ an_KRd ≠ an_KM ∧ an_KRr ≠ an_KRd ∧ an_KRr ≠ an_KM := by decide +kernel
/-- where its places stand, a ghost holds still -/
theorem an_gh.fr {σ : List Int} {ρ : List Nat} {κ κ2 : an_Ka} {μ μ2 : an_Mu} {f : an_T} (h : an_gh σ ρ κ μ f) (hk : ∀ a kd, κ a = some kd → (∃ key, an_mem2 (an_FPt f.2.2.2.1) kd key = true) → κ2 a = some kd) (hf : ∀ a kd key j, κ a = some kd → an_mem2 (an_FPt f.2.2.2.1) kd key = true → an_rp kd μ2 a key j = an_rp kd μ a key j) : an_gh σ ρ κ2 μ2 f := by
  rcases h with ⟨al, ar, d, h0, h1, h2, h3, h4, h5, h6⟩ | ⟨ar, am, d, h0, h1, h2, h3, h4, h5, w, h6, h7, h8, h9⟩ | h
  · rw [h0] at hk hf
    obtain ⟨p1, p2, p3, p4, q1, q2, -⟩ := an_FPk
    refine Or.inl ⟨al, ar, d, h0, h1, h2, hk _ _ h3 ⟨_, p1⟩, hk _ _ h4 ⟨_, p4⟩, h5, fun i b hi => ?_⟩
    have e1 := hf al _ 1004 i h3 p1
    rw [an_rp_L, an_rp_L] at e1
    rw [e1] at hi
    obtain ⟨k1, k2, k3⟩ := h6 i b hi
    have e2 := hf b _ an_FN 0 k1 p2
    have e3 := hf b _ an_FR 0 k1 p3
    have e4 := hf ar _ 1000 i h4 p4
    rw [an_rp_ne (by omega), an_rp_ne (by omega)] at e2 e3
    rw [an_rp_ne (by decide), an_rp_ne (by decide)] at e4
    refine ⟨hk _ _ k1 ⟨_, p2⟩, by rw [e2]; exact k2, fun hd => ?_⟩
    rw [e3, e4]
    exact k3 hd
  · rw [h0] at hk hf
    obtain ⟨p1, p2, p3, q1, q2, -⟩ := an_FPk8
    have e1 : ∀ i, an_rd μ2 ar 1000 i = an_rd μ ar 1000 i := fun i => by
      have e := hf ar _ 1000 i h3 p1
      rw [an_rp_ne (by decide), an_rp_ne (by decide)] at e
      exact e
    have e2 := hf am _ an_FMO 0 h4 p3
    rw [an_rp_ne (by omega), an_rp_ne (by omega)] at e2
    refine Or.inr (Or.inl ⟨ar, am, d, h0, h1, h2, hk _ _ h3 ⟨_, p1⟩, hk _ _ h4 ⟨_, p3⟩, h5, w, by rw [e2]; exact h6, h7, fun i j b hi hj => by rw [e1, e1]; exact h8 i j b hi hj, fun i hi => ?_⟩)
    obtain ⟨b, k1, k2, k3⟩ := h9 i hi
    have e3 := hf b _ an_FO 0 k2 p2
    rw [an_rp_ne (by omega), an_rp_ne (by omega)] at e3
    exact ⟨b, by rw [e1]; exact k1, hk _ _ k2 ⟨_, p2⟩, fun hd => by rw [e3]; exact k3 hd⟩
  · exact Or.inr (Or.inr h)
theorem an_gh.px {σ σ2 : List Int} {ρ ρ2 : List Nat} (hs : an_px σ σ2) (hr : an_pr ρ ρ2) {κ : an_Ka} {μ : an_Mu} {f : an_T} (h : an_gh σ ρ κ μ f) : an_gh σ2 ρ2 κ μ f := by
  rcases h with ⟨al, ar, d, h0, h1, h2, h3, h4, h5, h6⟩ | ⟨al, ar, d, h0, h1, h2, h3, h4, h5, h6⟩ | ⟨a, b, h0, h1, h2, h3⟩
  · exact Or.inl ⟨al, ar, d, h0, hr.ix h1, hr.ix h2, h3, h4, hs.ev h5, h6⟩
  · exact Or.inr (Or.inl ⟨al, ar, d, h0, hr.ix h1, hr.ix h2, h3, h4, hs.ev h5, h6⟩)
  · exact Or.inr (Or.inr ⟨a, b, h0, hr.ix h1, hr.ix h2, h3⟩)
theorem an_gh.tag {σ : List Int} {ρ : List Nat} {κ : an_Ka} {μ : an_Mu} {f : an_T} (h : an_gh σ ρ κ μ f) : (an_gh7 σ ρ κ μ f ∧ f.2.2.2.1 = 7) ∨ (an_gh8 σ ρ κ μ f ∧ f.2.2.2.1 = 8) ∨ (an_gh12 ρ f ∧ f.2.2.2.1 = 12) := by
  rcases h with h | h | h
  · obtain ⟨_, _, _, q, -⟩ := id h; exact Or.inl ⟨h, q⟩
  · obtain ⟨_, _, _, q, -⟩ := id h; exact Or.inr (Or.inl ⟨h, q⟩)
  · obtain ⟨_, _, q, -⟩ := id h; exact Or.inr (Or.inr ⟨h, q⟩)
theorem an_gh.back {σ σ2 : List Int} {ρ ρ2 : List Nat} (hs : an_px σ σ2) (hr : an_pr ρ ρ2) {κ κ2 : an_Ka} {μ μ2 : an_Mu} {f : an_T} (h0 : an_gh σ ρ κ μ f) (h : an_gh σ2 ρ2 κ2 μ2 f) : an_gh σ ρ κ2 μ2 f := by
  rcases h0.tag with ⟨h0, t0⟩ | ⟨h0, t0⟩ | ⟨h0, t0⟩ <;> rcases h.tag with ⟨h, t1⟩ | ⟨h, t1⟩ | ⟨h, t1⟩ <;> first | (exfalso; omega) | skip
  · obtain ⟨al, ar, d, a0, a1, a2, a3, a4, a5, a6⟩ := h0
    obtain ⟨bl, br, c, b0, b1, b2, b3, b4, b5, b6⟩ := h
    cases Option.some.inj ((hr.ix a1).symm.trans b1)
    cases Option.some.inj ((hr.ix a2).symm.trans b2)
    cases Option.some.inj ((hs.ev a5).symm.trans b5)
    exact Or.inl ⟨al, ar, d, b0, a1, a2, b3, b4, a5, b6⟩
  · obtain ⟨al, ar, d, a0, a1, a2, a3, a4, a5, a6⟩ := h0
    obtain ⟨bl, br, c, b0, b1, b2, b3, b4, b5, b6⟩ := h
    cases Option.some.inj ((hr.ix a1).symm.trans b1)
    cases Option.some.inj ((hr.ix a2).symm.trans b2)
    cases Option.some.inj ((hs.ev a5).symm.trans b5)
    exact Or.inr (Or.inl ⟨al, ar, d, b0, a1, a2, b3, b4, a5, b6⟩)
  · exact Or.inr (Or.inr h0)
def an_tf (O : am_O) (σ : List Int) (ρ : List Nat) (κ : an_Ka) (μ : an_Mu) (f : an_T) : Prop :=
  (f.2.1 = 1002 ∧ ∃ i : Int, an_ev σ f.2.2.1 = some i ∧ an_gv O σ ρ f.2.2.2 (.int (an_old O f.1 i))) ∨ ((f.2.1 ≠ 1002 ∧ f.2.1 ≠ 1003) ∧ ∃ (a kd j : Nat) (w : Value), ρ[f.1]? = some a ∧ κ a = some kd ∧ an_ev σ f.2.2.1 = some (j : Int) ∧ an_rp kd μ a f.2.1 j = some w ∧ an_gv O σ ρ f.2.2.2 w) ∨ (f.2.1 = 1003 ∧ an_gh σ ρ κ μ f)
def an_g (O : am_O) (X : Nat → ClassId) (σ : List Int) (ρ : List Nat) (κ : an_Ka) (μ : an_Mu) (S : an_S) : Prop := an_ok S.1 σ ∧ an_mok S.2.1 σ ∧ an_rok κ ρ S.2.2.1 ∧ an_hi2 O X κ μ ∧ ∀ f ∈ S.2.2.2, an_tf O σ ρ κ μ f
def an_lok (O : am_O) (σ : List Int) (ρ : List Nat) (L : an_L) (l : am_L) : Prop := ∀ q ∈ L, ∃ w, (q.1, w) ∈ l ∧ an_gv O σ ρ q.2 w
def an_sok (O : am_O) (σ : List Int) (ρ : List Nat) : List an_V → List Value → Prop
  | [], [] => True
  | v :: st, w :: ws => an_gv O σ ρ v w ∧ an_sok O σ ρ st ws
  | _, _ => False
theorem an_lok.px {O : am_O} {σ σ2 : List Int} {ρ ρ2 : List Nat} (hs : an_px σ σ2) (hr : an_pr ρ ρ2) {L : an_L} {l : am_L} (h : an_lok O σ ρ L l) : an_lok O σ2 ρ2 L l := by
  intro q hq
  obtain ⟨w, h1, h2⟩ := h q hq
  exact ⟨w, h1, h2.px hs hr⟩
theorem an_sok.px {O : am_O} {σ σ2 : List Int} {ρ ρ2 : List Nat} (hs : an_px σ σ2) (hr : an_pr ρ ρ2) : ∀ {st : List an_V} {ws : List Value}, an_sok O σ ρ st ws → an_sok O σ2 ρ2 st ws := by
  intro st
  induction st with
  | nil => intro ws h; cases ws with
    | nil => exact h
    | cons w ws => exact h
  | cons v st ih => intro ws h; cases ws with
    | nil => exact h
    | cons w ws => exact ⟨h.1.px hs hr, ih h.2⟩
/-- the frame's start: kinds and heap of then, what may be written; kinds of the latest loop's head -/
abbrev an_G : Type := an_Ka × an_Mu × List (Nat × Nat) × an_Ka
def an_fr (G : an_G) (κ : an_Ka) (μ : an_Mu) : Prop := (∀ a kd, G.2.2.2 a = some kd → κ a = some kd) ∧ (∀ a kd, G.1 a = some kd → G.2.2.2 a = some kd) ∧
  ∀ a kd key j, G.1 a = some kd → an_mem2 G.2.2.1 kd key = false → an_rp kd μ a key j = an_rp kd G.2.1 a key j
def an_pro (κ1 : an_Ka) (ρ : List Nat) (pr : List Nat) : Prop := ∀ r ∈ pr, ∃ a, ρ[r]? = some a ∧ κ1 a = none
def an_cfg (O : am_O) (X : Nat → ClassId) (G : an_G) (S : an_S) (σ : List Int) (ρ : List Nat) (κ : an_Ka) (ws : va_W) : Prop := an_nd ws ∧ an_g O X σ ρ κ (an_at ws) S ∧ an_fr G κ (an_at ws) ∧ an_pro G.2.2.2 ρ S.2.2.1.2.2
def an_icf (O : am_O) (X : Nat → ClassId) (G : an_G) (dk ds : Nat) (it : an_It) (σ : List Int) (ρ : List Nat) (κ : an_Ka) (l : am_L) (st : List Value) (k sl : Nat) (ws : va_W) : Prop :=
  an_cfg O X G it.2.2.2.2.2 σ ρ κ ws ∧ an_lok O σ ρ it.2.1 l ∧ an_sok O σ ρ it.2.2.1 st ∧ k + dk ≤ it.2.2.2.1 ∧ sl + ds ≤ it.2.2.2.2.1
theorem an_tf.px {O : am_O} {σ σ2 : List Int} {ρ ρ2 : List Nat} (hs : an_px σ σ2) (hr : an_pr ρ ρ2) {κ : an_Ka} {μ : an_Mu} {f : an_T} (h : an_tf O σ ρ κ μ f) : an_tf O σ2 ρ2 κ μ f := by
  rcases h with ⟨h1, i, h6, h2⟩ | ⟨h0, a, kd, j, w, h1, h2, h3, h4, h5⟩ | ⟨h0, h1⟩
  · exact Or.inl ⟨h1, i, hs.ev h6, h2.px hs hr⟩
  · exact Or.inr (Or.inl ⟨h0, a, kd, j, w, hr.ix h1, h2, hs.ev h3, h4, h5.px hs hr⟩)
  · exact Or.inr (Or.inr ⟨h0, h1.px hs hr⟩)
/-- a ghost is told -/
theorem an_cfg.addG {O : am_O} {X : Nat → ClassId} {G : an_G} {S : an_S} {σ : List Int} {ρ : List Nat} {κ : an_Ka} {ws : va_W} (h : an_cfg O X G S σ ρ κ ws) {r : Nat} {x : an_E} {v : an_V} (hg : an_gh σ ρ κ (an_at ws) (r, 1003, x, v)) : an_cfg O X G (an_tadd S r 1003 x v) σ ρ κ ws := by
  obtain ⟨h1, ⟨g1, g2, g3, g4, g5⟩, h3, h4⟩ := h
  refine ⟨h1, ⟨g1, g2, g3, g4, fun f hf => ?_⟩, h3, h4⟩
  rcases List.mem_cons.mp hf with rfl | hf
  · exact Or.inr (Or.inr ⟨rfl, hg⟩)
  · exact g5 f hf
/-- new numbers -/
theorem an_cfg.num {O : am_O} {X : Nat → ClassId} {G : an_G} {S : an_S} {σ σ2 : List Int} {ρ : List Nat} {κ : an_Ka} {ws : va_W} (h : an_cfg O X G S σ ρ κ ws) (hs : an_px σ σ2) {B : an_B} {M : an_M} (hB : an_ok B σ2) (hM : an_mok M σ2) : an_cfg O X G (B, M, S.2.2) σ2 ρ κ ws := by
  obtain ⟨h1, ⟨g1, g2, g3, g4, g5⟩, h3, h4⟩ := h
  exact ⟨h1, ⟨hB, hM, g3, g4, fun f hf => (g5 f hf).px hs an_pr.rf⟩, h3, h4⟩
theorem an_pro.px {κ1 : an_Ka} {ρ ρ2 : List Nat} (hr : an_pr ρ ρ2) {pr : List Nat} (h : an_pro κ1 ρ pr) : an_pro κ1 ρ2 pr := by
  intro r hr2
  obtain ⟨a, h1, h2⟩ := h r hr2
  exact ⟨a, hr.ix h1, h2⟩
/-- a new name for an address that has the kind -/
theorem an_cfg.ref {O : am_O} {X : Nat → ClassId} {G : an_G} {S : an_S} {σ : List Int} {ρ : List Nat} {κ : an_Ka} {ws : va_W} (h : an_cfg O X G S σ ρ κ ws) {a kd : Nat} (hk : κ a = some kd) : an_cfg O X G (an_ref S kd false).1 σ (ρ ++ [a]) κ ws ∧ an_gv O σ (ρ ++ [a]) (an_ref S kd false).2 (.ref a) := by
  obtain ⟨h1, ⟨g1, g2, ⟨r1, r2⟩, g4, g5⟩, h3, h4⟩ := h
  have hx : (ρ ++ [a])[S.2.2.1.1]? = some a := by rw [← r1]; simp
  refine ⟨⟨h1, ⟨g1, g2, ⟨by simp [an_ref, r1], fun p hp => ?_⟩, g4, fun f hf => (g5 f hf).px an_px.rf an_pr.one⟩, h3, an_pro.px an_pr.one h4⟩, ⟨a, rfl, hx⟩⟩
  rcases List.mem_cons.mp hp with rfl | hp
  · exact ⟨a, hx, hk⟩
  · obtain ⟨b, e1, e2⟩ := r2 p hp
    exact ⟨b, an_pr.one.ix e1, e2⟩
theorem an_asg_mem {R : List (Nat × Nat)} {r : Nat} (h : an_asg R r ≠ 0) : (r, an_asg R r) ∈ R := by
  induction R with
  | nil => exact absurd rfl h
  | cons p R ih =>
    simp only [an_asg, Bool.cond_eq_ite, an_nbq] at h ⊢
    split
    · rename_i hb
      rw [beq_iff_eq] at hb
      rw [← hb]
      exact List.mem_cons_self
    · rename_i hb
      rw [if_neg hb] at h
      exact List.mem_cons_of_mem _ (ih h)
/-- the kind of a name -/
theorem an_g.kind {O : am_O} {X : Nat → ClassId} {σ : List Int} {ρ : List Nat} {κ : an_Ka} {μ : an_Mu} {S : an_S} (h : an_g O X σ ρ κ μ S) {r a : Nat} (hr : ρ[r]? = some a) (hk : an_rk S r ≠ 0) : κ a = some (an_rk S r) ∧ an_kh X κ μ a (an_rk S r) := by
  obtain ⟨b, h1, h2⟩ := h.2.2.1.2 _ (an_asg_mem hk)
  cases Option.some.inj (h1.symm.trans hr)
  exact ⟨h2, h.2.2.2.1.1 a _ h2⟩
theorem an_tget_mem {T : List an_T} {r key : Nat} {x : an_E} {v : an_V} (h : an_tget T r key x = some v) : (r, key, x, v) ∈ T := by
  induction T with
  | nil => cases h
  | cons f T ih =>
    simp only [an_tget, Bool.cond_eq_ite, an_nbq] at h
    split at h
    · rename_i hb
      simp only [Bool.and_eq_true, beq_iff_eq] at hb
      obtain ⟨h1, h2, h3⟩ := hb
      have h3 := an_eqE_ok h3
      cases h
      obtain ⟨f1, f2, f3, f4⟩ := f
      simp only at h1 h2 h3
      subst h1 h2 h3
      exact List.mem_cons_self
    · exact List.mem_cons_of_mem _ (ih h)
/-- a value of a type, named -/
theorem an_typ_ok {O : am_O} {X : Nat → ClassId} {G : an_G} {S S1 : an_S} {σ : List Int} {ρ : List Nat} {κ : an_Ka} {ws : va_W} (h : an_cfg O X G S σ ρ κ ws) {t : an_Ty} {v : an_V} (ht : an_typ S t = some (S1, v)) {w : Value} (hw : an_vt κ t w) :
    ∃ σ2 ρ2, an_px σ σ2 ∧ an_pr ρ ρ2 ∧ an_cfg O X G S1 σ2 ρ2 κ ws ∧ an_gv O σ2 ρ2 v w := by
  obtain ⟨t0, t1, t2⟩ := t
  have h0 := h.2.1
  match t0, ht, hw with
  | 0, ht, hw =>
    obtain ⟨x, rfl, h1, h2⟩ := hw
    simp only [an_typ] at ht
    split at ht
    · rename_i he
      cases ht
      exact ⟨σ, ρ, an_px.rf, an_pr.rf, h, x, rfl, by simp only [an_ev, Option.some.injEq]; omega⟩
    · cases ht
      obtain ⟨σ2, a, b, c, d⟩ := an_resN (M := S.2.1) h0.1 h0.2.1 h1 h2 (an_i32L x)
      exact ⟨σ2, ρ, a, an_pr.rf, h.num a b c, x, rfl, d⟩
  | 1, ht, hw =>
    obtain ⟨a, rfl, h1, h2⟩ := hw
    simp only [an_typ, Option.some.injEq] at ht
    obtain ⟨q1, q2⟩ := h.ref h1
    cases ht
    exact ⟨σ, ρ ++ [a], an_px.rf, an_pr.one, q1, q2⟩
  | 2, ht, hw =>
    simp only [an_typ, Option.some.injEq] at ht
    cases ht
    exact ⟨σ, ρ, an_px.rf, an_pr.rf, h, hw⟩
  | 3, ht, hw =>
    obtain ⟨x, rfl⟩ := hw
    simp only [an_typ, Option.some.injEq] at ht
    cases ht
    obtain ⟨σ2, a, b, c, d⟩ := an_resN (M := S.2.1) h0.1 h0.2.1 (an_i64 x).1 (an_i64 x).2 (an_i64 x)
    exact ⟨σ2, ρ, a, an_pr.rf, h.num a b c, x, rfl, d⟩
  | n + 4, ht, hw => exact hw.elim
theorem an_cmpI (x y : Int64) : -1 ≤ (lg_cmp x y).toInt ∧ (lg_cmp x y).toInt ≤ 1 := by
  simp only [lg_cmp]
  split
  · decide
  · split <;> decide
/-- what fits is of the type -/
theorem an_fit_ok {O : am_O} {X : Nat → ClassId} {S : an_S} {σ : List Int} {ρ : List Nat} {κ : an_Ka} {μ : an_Mu} (h : an_g O X σ ρ κ μ S) {t : an_Ty} {v : an_V} {w : Value} (hv : an_gv O σ ρ v w) (hf : an_fit S v t = true) : an_vt κ t w := by
  obtain ⟨t0, t1, t2⟩ := t
  obtain ⟨v0, v1, v2⟩ := v
  match t0, hf with
  | 0, hf =>
    match v0, hf, hv with
    | 0, hf, hv =>
      obtain ⟨x, rfl, h1⟩ := hv
      simp only [an_fit, Bool.and_eq_true, decide_eq_true_eq] at hf
      have a := an_lo_ok h.1 h1
      have b := an_hi_ok h.1 h1
      exact ⟨x, rfl, by omega, by omega⟩
    | 4, hf, hv =>
      obtain ⟨x, y, rfl, h1, h2⟩ := hv
      simp only [an_fit, Bool.and_eq_true, decide_eq_true_eq] at hf
      have a := an_cmpI x y
      exact ⟨_, rfl, by omega, by omega⟩
    | 1, hf, hv => simp [an_fit] at hf
    | 2, hf, hv => simp [an_fit] at hf
    | 3, hf, hv => simp [an_fit] at hf
    | n + 5, hf, hv => simp [an_fit] at hf
  | 1, hf =>
    match v0, hf, hv with
    | 2, hf, hv =>
      obtain ⟨a, rfl, h1⟩ := hv
      simp only [an_fit, Bool.and_eq_true, beq_iff_eq, decide_eq_true_eq] at hf
      have hk : an_rk S v1.1 ≠ 0 := by rw [hf.1]; omega
      exact ⟨a, rfl, by rw [← hf.1]; exact (h.kind h1 hk).1, hf.2⟩
    | 0, hf, hv => simp [an_fit] at hf
    | 1, hf, hv => simp [an_fit] at hf
    | n + 3, hf, hv => simp [an_fit] at hf
  | 2, hf =>
    match v0, hf, hv with
    | 2, hf, hv => obtain ⟨a, rfl, h1⟩ := hv; exact ⟨some a, rfl⟩
    | 3, hf, hv => exact hv
    | 0, hf, hv => simp [an_fit] at hf
    | 1, hf, hv => simp [an_fit] at hf
    | n + 4, hf, hv => simp [an_fit] at hf
  | 3, hf =>
    match v0, hf, hv with
    | 1, hf, hv => obtain ⟨x, rfl, h1⟩ := hv; exact ⟨x, rfl⟩
    | 0, hf, hv => simp [an_fit] at hf
    | n + 2, hf, hv => simp [an_fit] at hf
  | n + 4, hf => simp [an_fit] at hf
