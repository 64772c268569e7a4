/-! THE ROAD: what the checker's walk promises. -/
def an_xok (O : am_O) (X : Nat → ClassId) (G : an_G) (σ : List Int) (ρ : List Nat) (x : an_X) (r : am_R) (ws2 : va_W) : Prop :=
  ∃ (σ2 : List Int) (ρ2 : List Nat) (κ2 : an_Ka), an_px σ σ2 ∧ an_pr ρ ρ2 ∧ an_cfg O X G x.2.2 σ2 ρ2 κ2 ws2 ∧
    (match x.1 with
    | 0 => r = .inl none
    | 1 => ∃ w, r = .inl (some w) ∧ an_gv O σ2 ρ2 x.2.1 w
    | j + 2 => r = .inr j)
theorem an_xok.px {O : am_O} {X : Nat → ClassId} {G : an_G} {σ σ2 : List Int} {ρ ρ2 : List Nat} {x : an_X} {r : am_R} {w : va_W} (hs : an_px σ σ2) (hr : an_pr ρ ρ2) (h : an_xok O X G σ2 ρ2 x r w) : an_xok O X G σ ρ x r w := by
  obtain ⟨s, p, κ, a, b, c⟩ := h
  exact ⟨s, p, κ, hs.tr a, hr.tr b, c⟩
def an_vts (κ : an_Ka) : List an_Ty → List Value → Prop
  | [], [] => True
  | t :: ts, w :: ws => an_vt κ t w ∧ an_vts κ ts ws
  | _, _ => False
/-- fields of the receiver lie in intervals -/
def an_flds (μ : an_Mu) (as : List Value) (ps : List (Nat × Int × Int)) : Prop := ps = [] ∨ ∃ a bs, as = .ref a :: bs ∧ ∀ q ∈ ps, ∃ x : Int32, an_rd μ a q.1 0 = some (.int x) ∧ q.2.1 ≤ x.toInt ∧ x.toInt ≤ q.2.2
/-- what a contract says of its end -/
def an_CQ (O : am_O) (X : Nat → ClassId) (ct : an_CI) (κ : an_Ka) (as : List Value) (ws : va_W) : am_Q := fun r ws2 => ∃ κ2 : an_Ka, an_nd ws2 ∧ an_hi2 O X κ2 (an_at ws2) ∧ (∀ a kd, κ a = some kd → κ2 a = some kd) ∧
  (∀ a kd key j, κ a = some kd → an_mem2 ct.2.2.2.2.2.2 kd key = false → an_rp kd (an_at ws2) a key j = an_rp kd (an_at ws) a key j) ∧
      (match r with
      | .inl none => ct.2.2.2.2.2.1 = true ∧ ct.2.2.1 = none ∧ an_flds (an_at ws2) as ct.2.2.2.1
      | .inl (some v) => ct.2.2.2.2.2.1 = true ∧ (∃ t, ct.2.2.1 = some t ∧ an_vt κ2 t v) ∧ an_flds (an_at ws2) as ct.2.2.2.1
      | .inr j => j ∈ ct.2.2.2.2.1)
/-- the contract of method m -/
def an_CS (O : am_O) (X : Nat → ClassId) (m : Nat) : Prop := ∀ (ct : an_CI), an_CT.getD m none = some ct →
  ∀ (κ : an_Ka) (as : List Value) (ws : va_W), an_nd ws → an_hi2 O X κ (an_at ws) → an_vts κ ct.1 as → an_flds (an_at ws) as ct.2.1 →
    am_Safe O X m 0 (lv_args 0 as) [] 0 0 ws (an_CQ O X ct κ as ws)
/-- the list's own methods -/
def an_LS (O : am_O) (X : Nat → ClassId) : Prop := ∀ (w m2 : Nat), an_lno m2 an_LM 0 = some w → ∀ (G : an_G) (as : List an_V) (S : an_S) (xs : List an_X) (σ : List Int) (ρ : List Nat) (κ : an_Ka) (asc : List Value) (ws : va_W),
  an_lopA G.2.2.1 w as S = some xs → an_cfg O X G S σ ρ κ ws → an_sok O σ ρ as asc → ∃ Q1 : am_Q, am_Safe O X m2 0 (lv_args 0 asc) [] 0 0 ws Q1 ∧ ∀ r w2, Q1 r w2 → ∃ x ∈ xs, an_xok O X G σ ρ x r w2
/-! the code's order -/
def an_sfx (cs : List am_I) (m : Nat) : Prop := ∃ as, am_code m = as ++ cs
def an_at0 (cs : List am_I) (pc : Nat) : Prop := ∀ e cs2, cs = e :: cs2 → e.1 = pc
def an_inv3 : Instr → Bool
  | .invokespecial _ | .invokevirtual _ | .invokestatic _ => true
  | _ => false
def an_ctg : Nat → List am_I → Bool
  | _, [] => true
  | pc, e :: cs => (e.1 == pc && (!(an_inv3 e.2.1) || e.2.2.1 == 3)) && an_ctg (pc + e.2.2.1) cs
set_option maxRecDepth 100000 in
theorem an_ctgC : am_C.all (an_ctg 0) = true := by decide +kernel
theorem an_ctgs (m : Nat) : an_ctg 0 (am_code m) = true := by
  simp only [am_code, List.getD_eq_getElem?_getD]
  cases hm : am_C[m]? with
  | none => rfl
  | some c => exact List.all_eq_true.mp an_ctgC c (List.mem_of_getElem? hm)
theorem an_ctg_app : ∀ (as cs : List am_I) (p : Nat), an_ctg p (as ++ cs) = true → ∃ q, an_ctg q cs = true := by
  intro as
  induction as with
  | nil => intro cs p h; exact ⟨p, h⟩
  | cons e as ih =>
    intro cs p h
    simp only [List.cons_append, an_ctg, Bool.and_eq_true] at h
    exact ih cs _ h.2
theorem an_sfx_nx {m : Nat} {e : am_I} {cs : List am_I} (h : an_sfx (e :: cs) m) : an_sfx cs m ∧ an_at0 cs (e.1 + e.2.2.1) ∧ e ∈ am_code m ∧ (an_inv3 e.2.1 = true → e.2.2.1 = 3) := by
  obtain ⟨as, h⟩ := h
  have h0 := an_ctgs m
  rw [h] at h0
  obtain ⟨q, hq⟩ := an_ctg_app _ _ _ h0
  simp only [an_ctg, Bool.and_eq_true, Bool.or_eq_true, beq_iff_eq, Bool.not_eq_true'] at hq
  obtain ⟨⟨h1, h2⟩, h3⟩ := hq
  refine ⟨⟨as ++ [e], by rw [h]; simp⟩, ?_, by rw [h]; simp, fun hi => ?_⟩
  · intro f cs3 hcs
    subst hcs
    simp only [an_ctg, Bool.and_eq_true, beq_iff_eq] at h3
    rw [h3.1.1, h1]
  · rcases h2 with h2 | h2
    · rw [hi] at h2; cases h2
    · exact h2
theorem an_sfx_0 (m : Nat) : an_sfx (am_code m) m ∧ an_at0 (am_code m) 0 := by
  refine ⟨⟨[], rfl⟩, ?_⟩
  intro e cs h
  have h0 := an_ctgs m
  rw [h] at h0
  simp only [an_ctg, Bool.and_eq_true, beq_iff_eq] at h0
  exact h0.1.1
theorem an_find_app (pc : Nat) : ∀ l : List am_I, (∃ as, l = as ++ an_find l pc) ∧ an_at0 (an_find l pc) pc := by
  intro l
  induction l with
  | nil => exact ⟨⟨[], rfl⟩, fun e cs h => by simp [an_find] at h⟩
  | cons e l ih =>
    simp only [an_find, Bool.cond_eq_ite, an_nbq]
    split
    · rename_i hb
      rw [beq_iff_eq] at hb
      refine ⟨⟨[], rfl⟩, fun e2 cs h => ?_⟩
      cases h
      exact hb
    · obtain ⟨⟨as, h1⟩, h2⟩ := ih
      exact ⟨⟨e :: as, by rw [List.cons_append, ← h1]⟩, h2⟩
theorem an_find_ok (m pc : Nat) : an_sfx (an_find (am_code m) pc) m ∧ an_at0 (an_find (am_code m) pc) pc := an_find_app pc (am_code m)
theorem an_each_ok {α : Type} {f : α → Option (List an_X)} : ∀ {its : List α} {xs : List an_X}, an_each f its = some xs → ∀ it ∈ its, ∃ ys, f it = some ys ∧ ∀ y ∈ ys, y ∈ xs := by
  intro its
  induction its with
  | nil => intro xs h it hit; cases hit
  | cons i its ih =>
    intro xs h it hit
    simp only [an_each] at h
    split at h
    · cases h
    · rename_i ys hy
      split at h
      · cases h
      · rename_i zs hz
        cases h
        rcases List.mem_cons.mp hit with rfl | hit
        · exact ⟨ys, hy, fun y h => List.mem_append_left _ h⟩
        · obtain ⟨us, h1, h2⟩ := ih hz it hit
          exact ⟨us, h1, fun y h => List.mem_append_right _ (h2 y h)⟩
/-! what is owed of the walk -/
/-- back at the head of an act: from there it is safe -/
def an_aok (O : am_O) (X : Nat → ClassId) (m : Nat) (G : an_G) (dk ds : Nat) (σ : List Int) (ρ : List Nat) (Q : am_Q) (a : an_Ac) : Prop :=
  ∀ (G2 : an_G) (dk2 ds2 : Nat) (σ2 : List Int) (ρ2 : List Nat) (κ2 : an_Ka) (l : am_L) (ws : va_W) (k sl : Nat) (L : an_L) (kA sA : Nat) (S : an_S),
    G2.1 = G.1 → G2.2.1 = G.2.1 → G2.2.2.1 = G.2.2.1 → (∀ a kd, G.2.2.2 a = some kd → G2.2.2.2 a = some kd) → dk ≤ dk2 → ds ≤ ds2 → an_px σ σ2 → an_pr ρ ρ2 →
    an_icf O X G2 dk2 ds2 (0, L, [], kA, sA, S) σ2 ρ2 κ2 l [] k sl ws → an_back (an_CUT.getD a.1 an_c0) a L kA sA S = true → am_Safe O X m a.2.1 l [] k sl ws Q
theorem an_aok.mono {O : am_O} {X : Nat → ClassId} {m : Nat} {G G2 : an_G} {dk ds dk2 ds2 : Nat} {σ σ2 : List Int} {ρ ρ2 : List Nat} {Q : am_Q} {a : an_Ac} (h : an_aok O X m G dk ds σ ρ Q a)
    (h1 : G2.1 = G.1) (h2 : G2.2.1 = G.2.1) (h3 : G2.2.2.1 = G.2.2.1) (h4 : ∀ a kd, G.2.2.2 a = some kd → G2.2.2.2 a = some kd) (h5 : dk ≤ dk2) (h6 : ds ≤ ds2) (h7 : an_px σ σ2) (h8 : an_pr ρ ρ2) : an_aok O X m G2 dk2 ds2 σ2 ρ2 Q a := by
  intro G3 dk3 ds3 σ3 ρ3 κ3 l ws k sl L kA sA S g1 g2 g3 g4 g5 g6 g7 g8 hc hb
  exact h G3 dk3 ds3 σ3 ρ3 κ3 l ws k sl L kA sA S (g1.trans h1) (g2.trans h2) (g3.trans h3) (fun a kd q => g4 a kd (h4 a kd q)) (Nat.le_trans h5 g5) (Nat.le_trans h6 g6) (h7.tr g7) (h8.tr g8) hc hb
def an_Spec (O : am_O) (X : Nat → ClassId) (mods : List (Nat × Nat)) (rec : an_Rec) : Prop :=
  ∀ (m : Nat) (cs : List am_I) (L : an_L) (st : List an_V) (kA sA : Nat) (acts : List an_Ac) (S : an_S) (xs : List an_X), rec m cs L st kA sA acts S = some xs → ∀ pc, an_sfx cs m → an_at0 cs pc → (∀ m2, m2 < m → an_CS O X m2) →
  ∀ (G : an_G) (dk ds : Nat) (σ : List Int) (ρ : List Nat) (κ : an_Ka) (l : am_L) (stc : List Value) (k sl : Nat) (ws : va_W) (Q : am_Q), G.2.2.1 = mods → an_icf O X G dk ds (0, L, st, kA, sA, S) σ ρ κ l stc k sl ws →
    (∀ a ∈ acts, an_aok O X m G dk ds σ ρ Q a) → (∀ x ∈ xs, ∀ r w, an_xok O X G σ ρ x r w → Q r w) → am_Safe O X m pc l stc k sl ws Q
theorem an_gox_ok {O : am_O} {X : Nat → ClassId} {mods : List (Nat × Nat)} {rec : an_Rec} (hrec : an_Spec O X mods rec) (hO : an_Ook O) {m pc len ra rb rw0 cu inf : Nat} {i : Instr} {cs : List am_I} {L : an_L} {st : List an_V} {kA sA : Nat} {acts : List an_Ac} {S : an_S} {xs : List an_X}
    (h : an_gox mods rec m pc len i ra rb inf cs L st kA sA acts S = some xs) (hs : an_sfx ((pc, i, len, ra, rb, rw0, cu, inf) :: cs) m) (hC : ∀ m2, m2 < m → an_CS O X m2) {G : an_G} {dk ds : Nat} {σ : List Int} {ρ : List Nat} {κ : an_Ka} {l : am_L} {stc : List Value} {k sl : Nat} {ws : va_W} {Q : am_Q} (hG : G.2.2.1 = mods)
    (hc : an_icf O X G dk ds (0, L, st, kA, sA, S) σ ρ κ l stc k sl ws) (hA : ∀ a ∈ acts, an_aok O X m G dk ds σ ρ Q a) (hQ : ∀ x ∈ xs, ∀ r w, an_xok O X G σ ρ x r w → Q r w) : am_Safe O X m pc l stc k sl ws Q := by
  obtain ⟨n1, n2, n3, -⟩ := an_sfx_nx hs
  have key : ∃ its, an_one mods m pc i ra rb inf L st kA sA S = some its ∧ ∀ it ∈ its, ∃ cs' ys, rec m cs' it.2.1 it.2.2.1 it.2.2.2.1 it.2.2.2.2.1 acts it.2.2.2.2.2 = some ys ∧ an_sfx cs' m ∧ an_at0 cs' it.1 ∧ ∀ y ∈ ys, y ∈ xs := by
    unfold an_gox at h
    split at h
    · cases h
    · rename_i pc2 L2 st2 k2 s2 S2 he
      refine ⟨_, he, fun it hit => ?_⟩
      rw [List.mem_singleton] at hit
      subst hit
      split at h
      · rename_i hp
        rw [beq_iff_eq] at hp
        exact ⟨cs, xs, h, n1, by rw [hp]; exact n2, fun _ q => q⟩
      · exact ⟨_, xs, h, (an_find_ok m pc2).1, (an_find_ok m pc2).2, fun _ q => q⟩
    · rename_i its _ he
      refine ⟨_, he, fun it hit => ?_⟩
      obtain ⟨ys, e1, e2⟩ := an_each_ok h it hit
      exact ⟨_, ys, e1, (an_find_ok m it.1).1, (an_find_ok m it.1).2, e2⟩
  obtain ⟨its, he, hgo⟩ := key
  refine am_go n3 (an_one_ok hO (G := G) hc (by rw [hG]; exact he) ?_)
  intro it hit σ2 ρ2 κ2 l2 st2 k2 sl2 ws2 p1 p2 hc2
  obtain ⟨cs', ys, e1, e2, e3, e4⟩ := hgo it hit
  exact hrec m cs' _ _ _ _ _ _ ys e1 it.1 e2 e3 hC G dk ds σ2 ρ2 κ2 l2 st2 k2 sl2 ws2 Q hG hc2 (fun a ha => (hA a ha).mono rfl rfl rfl (fun _ _ q => q) (Nat.le_refl _) (Nat.le_refl _) p1 p2) (fun y hy r w hx => hQ y (e4 y hy) r w (hx.px p1 p2))
/-! promotion: a cell made since the last head is of another kind from now on -/
set_option maxRecDepth 100000 in
theorem an_hkA : an_HK.all (fun kd => decide (kd ≠ 0) && (decide (kd ≠ an_KL) && (decide (kd ≠ an_KTg) && an_KT.all (fun q => q.2.2.1.all (fun t => !(t.1 == 1 && decide (t.2.1 = (kd : Int)))) && !(q.2.2.2.2.2.1 == 1 && decide (q.2.2.2.2.2.2.1 = (kd : Int))))))) = true := by decide +kernel
theorem an_memN_ok : ∀ {l : List Nat} {x : Nat}, an_memN l x = true → x ∈ l := by
  intro l
  induction l with
  | nil => intro x h; cases h
  | cons y l ih =>
    intro x h
    simp only [an_memN, an_nbq, Bool.or_eq_true, beq_iff_eq] at h
    rcases h with rfl | h
    · exact List.mem_cons_self
    · exact List.mem_cons_of_mem _ (ih h)
theorem an_hkO {kd : Nat} (h : an_memN an_HK kd = true) : kd ≠ 0 ∧ kd ≠ an_KL ∧ kd ≠ an_KTg ∧ ∀ kb, (∀ t ∈ (an_ki kb).2.2.1, ¬ (t.1 = 1 ∧ t.2.1 = (kd : Int))) ∧ ¬ ((an_ki kb).2.2.2.2.2.1 = 1 ∧ (an_ki kb).2.2.2.2.2.2.1 = (kd : Int)) := by
  have h1 := List.all_eq_true.mp an_hkA _ (an_memN_ok h)
  simp only [Bool.and_eq_true, decide_eq_true_eq] at h1
  obtain ⟨a, b, c, d⟩ := h1
  refine ⟨a, b, c, fun kb => ?_⟩
  simp only [an_ki, List.getD_eq_getElem?_getD]
  cases hm : an_KT[kb]? with
  | none => exact ⟨fun t ht => (by cases ht), fun h => (by cases h.1)⟩
  | some q =>
    have h2 := List.all_eq_true.mp d q (List.mem_of_getElem? hm)
    simp only [Bool.and_eq_true, List.all_eq_true, Bool.not_eq_true', Bool.and_eq_false_iff, beq_eq_false_iff_ne, decide_eq_false_iff_not, ne_eq] at h2
    refine ⟨fun t ht hh => ?_, fun hh => ?_⟩
    · rcases h2.1 t ht with h3 | h3
      · exact h3 hh.1
      · exact h3 hh.2
    · rcases h2.2 with h3 | h3
      · exact h3 hh.1
      · exact h3 hh.2
def an_kch (κ : an_Ka) (a nk : Nat) : an_Ka := fun b => if b = a then some nk else κ b
theorem an_vt.chg {κ : an_Ka} {a nk kd : Nat} (ha : κ a = some kd) {t : an_Ty} {w : Value} (ht : ¬ (t.1 = 1 ∧ t.2.1 = (kd : Int))) (h : an_vt κ t w) : an_vt (an_kch κ a nk) t w := by
  obtain ⟨t0, t1, t2⟩ := t
  match t0, ht, h with
  | 0, _, h => exact h
  | 1, ht, h =>
    obtain ⟨b, h1, h2, h3⟩ := h
    refine ⟨b, h1, ?_, h3⟩
    simp only [an_kch]
    rw [if_neg]
    · exact h2
    · rintro rfl
      have := Option.some.inj (h2.symm.trans ha)
      exact ht ⟨rfl, by simp only; omega⟩
  | 2, _, h => exact h
  | 3, _, h => exact h
  | n + 4, _, h => exact h.elim
theorem an_kh_chg {X : Nat → ClassId} {κ : an_Ka} {μ : an_Mu} {a nk kd : Nat} (ha : κ a = some kd) (hk : an_memN an_HK kd = true) {b kb : Nat} (h : an_kh X κ μ b kb) : an_kh X (an_kch κ a nk) μ b kb := by
  obtain ⟨-, -, -, h4⟩ := an_hkO hk
  obtain ⟨h5, h6⟩ := h4 kb
  unfold an_kh at h ⊢
  split at h
  · rename_i e
    rw [e] at h5
    obtain ⟨h1, h2, h3⟩ := h
    refine ⟨h1, h2, fun i t ht => ?_⟩
    obtain ⟨w, a1, a2⟩ := h3 i t ht
    exact ⟨w, a1, a2.chg ha (h5 t (List.mem_of_getElem? ht))⟩
  · rename_i e
    rw [e] at h6
    obtain ⟨n, h1, h2, h3, h7, h8⟩ := h
    refine ⟨n, h1, h2, h3, h7, fun i hi => ?_⟩
    obtain ⟨w, a1, a2⟩ := h8 i hi
    exact ⟨w, a1, a2.chg ha h6⟩
  · rename_i e
    rw [e] at h6
    obtain ⟨n, h1, h2, h3, h7, h8⟩ := h
    refine ⟨n, h1, h2, h3, h7, fun i hi => ?_⟩
    obtain ⟨w, a1, a2⟩ := h8 i hi
    exact ⟨w, a1, a2.chg ha h6⟩
  · rename_i e
    rw [e] at h6
    obtain ⟨n, h1, h9, h2, h3, h7, h8⟩ := h
    refine ⟨n, h1, h9, h2, h3, h7, fun i hi => ?_⟩
    obtain ⟨w, a1, a2⟩ := h8 i hi
    exact ⟨w, a1, a2.chg ha h6⟩
  · exact h
theorem an_lh_chg {O : am_O} {X : Nat → ClassId} {κ : an_Ka} {μ : an_Mu} {a nk kd : Nat} (ha : κ a = some kd) (hk : an_memN an_HK kd = true) {b : Nat} (h : an_lh O X κ μ b) : an_lh O X (an_kch κ a nk) μ b := by
  obtain ⟨-, -, h3, -⟩ := an_hkO hk
  obtain ⟨e, n, s, l1, l2, l3, l4, l5, l6, l7⟩ := h
  refine ⟨e, n, s, l1, l2, l3, l4, l5, ?_, fun i hi => ?_⟩
  · rcases l6 with l6 | ⟨l6, l8⟩
    · exact Or.inl l6
    · refine Or.inr ⟨?_, l8⟩
      simp only [an_kch]
      rw [if_neg]
      · exact l6
      · rintro rfl; rw [l6] at ha; cases ha
  · obtain ⟨c, c1, c2⟩ := l7 i hi
    refine ⟨c, c1, ?_⟩
    simp only [an_kch]
    rw [if_neg]
    · exact c2
    · rintro rfl
      exact h3 (Option.some.inj (ha.symm.trans c2))
theorem an_hkF0 : an_HK.all (fun kd => !an_FP.any (fun q => q.1 == kd) && !an_FP8.any (fun q => q.1 == kd)) = true := by decide +kernel
theorem an_mem2_any : ∀ {l : List (Nat × Nat)} {a b : Nat}, an_mem2 l a b = true → l.any (fun q => q.1 == a) = true := by
  intro l
  induction l with
  | nil => intro a b h; cases h
  | cons q l ih =>
    intro a b h
    simp only [an_mem2, an_nbq, Bool.or_eq_true, Bool.and_eq_true] at h
    simp only [List.any_cons, Bool.or_eq_true]
    rcases h with h | h
    · exact Or.inl h.1
    · exact Or.inr (ih h)
theorem an_hkF {kd t : Nat} (h : an_memN an_HK kd = true) (h2 : ∃ key, an_mem2 (an_FPt t) kd key = true) : False := by
  have h1 := List.all_eq_true.mp an_hkF0 _ (an_memN_ok h)
  simp only [Bool.and_eq_true, Bool.not_eq_true'] at h1
  obtain ⟨key, h2⟩ := h2
  have h3 := an_mem2_any h2
  unfold an_FPt at h3
  split at h3
  · rw [h1.1] at h3; cases h3
  · rw [h1.2] at h3; cases h3
  · cases h3
theorem an_hkR : an_memN an_HK an_KR = false ∧ an_memN an_HK an_KL = false := by decide +kernel
theorem an_cfg.toK {O : am_O} {X : Nat → ClassId} {G : an_G} {S : an_S} {σ : List Int} {ρ : List Nat} {κ : an_Ka} {ws : va_W} (h : an_cfg O X G S σ ρ κ ws) {r a nk : Nat} (hr : ρ[r]? = some a) (hs : an_sole S r (an_rk S r) = true)
    (hk : an_kh X (an_kch κ a nk) (an_at ws) a nk) (hl : nk = an_KL → an_lh O X (an_kch κ a nk) (an_at ws) a) : κ a = some (an_rk S r) ∧ an_cfg O X G (an_toK S r nk) σ ρ (an_kch κ a nk) ws := by
  simp only [an_sole, Bool.and_eq_true, List.all_eq_true, Bool.or_eq_true, Bool.not_eq_true', beq_iff_eq, beq_eq_false_iff_ne, ne_eq] at hs
  obtain ⟨hh, ho, hal⟩ := hs
  obtain ⟨o1, o2, o3, -⟩ := an_hkO hh
  have ha := (h.2.1.kind hr o1).1
  refine ⟨ha, ?_⟩
  obtain ⟨h1, ⟨g1, g2, ⟨r1, r2⟩, ⟨g4, g5⟩, g6⟩, ⟨f1, f2, f3⟩, h4⟩ := h
  have hka : G.2.2.2 a = none := by
    obtain ⟨b, b1, b2⟩ := h4 r (an_memN_ok ho)
    cases Option.some.inj (b1.symm.trans hr)
    exact b2
  refine ⟨h1, ⟨g1, g2, ⟨r1, fun p hp => ?_⟩, ⟨fun b kb hb => ?_, fun b hb => ?_⟩, fun f hf => ?_⟩, ⟨fun b kb hb => ?_, f2, f3⟩, fun q hq => ?_⟩
  · rcases List.mem_cons.mp hp with rfl | hp
    · exact ⟨a, hr, by simp [an_kch]⟩
    · rw [List.mem_filter] at hp
      obtain ⟨hp, hne⟩ := hp
      simp only [Bool.not_eq_true', beq_eq_false_iff_ne, ne_eq] at hne
      obtain ⟨b, e1, e2⟩ := r2 p hp
      refine ⟨b, e1, ?_⟩
      simp only [an_kch]
      rw [if_neg]
      · exact e2
      · rintro rfl
        rcases hal p hp with q | q
        · exact q (Option.some.inj (e2.symm.trans ha))
        · exact hne q
  · by_cases hba : b = a
    · subst hba
      simp only [an_kch, if_true, Option.some.injEq] at hb
      subst hb
      exact hk
    · simp only [an_kch, if_neg hba] at hb
      exact an_kh_chg ha hh (g4 b kb hb)
  · by_cases hba : b = a
    · subst hba
      simp only [an_kch, if_true, Option.some.injEq] at hb
      exact hl hb
    · simp only [an_kch, if_neg hba] at hb
      exact an_lh_chg ha hh (g5 b hb)
  · rcases g6 f hf with hl | ⟨h0, b, kb, j, w, e1, e2, e3, e4, e5⟩ | ⟨h0, hgh⟩
    · exact Or.inl hl
    · by_cases hba : b = a
      · refine Or.inr (Or.inl ⟨h0, b, nk, j, w, e1, by simp [an_kch, hba], e3, ?_, e5⟩)
        have hkb : kb ≠ an_KL := by
          rintro rfl
          rw [hba] at e2
          rw [← Option.some.inj (e2.symm.trans ha)] at hh
          rw [an_hkR.2] at hh
          cases hh
        by_cases hk4 : f.2.1 = 1004
        · rw [hk4, an_rp_O hkb] at e4
          cases e4
        · rw [an_rp_ne hk4] at e4 ⊢
          exact e4
      · exact Or.inr (Or.inl ⟨h0, b, kb, j, w, e1, by simp only [an_kch, if_neg hba]; exact e2, e3, e4, e5⟩)
    · refine Or.inr (Or.inr ⟨h0, hgh.fr (fun a2 kd2 q1 q2 => ?_) (fun _ _ _ _ _ _ => rfl)⟩)
      simp only [an_kch]
      rw [if_neg]
      · exact q1
      · rintro rfl
        have hkk := Option.some.inj (q1.symm.trans ha)
        rw [← hkk] at hh
        exact an_hkF hh q2
  · simp only [an_kch]
    rw [if_neg]
    · exact f1 b kb hb
    · rintro rfl
      rw [hka] at hb
      cases hb
  · exact h4 q ((List.mem_filter.mp hq).1)
theorem an_els_ok {O : am_O} {X : Nat → ClassId} {σ : List Int} {ρ : List Nat} {κ : an_Ka} {ws : va_W} {S : an_S} (h : an_g O X σ ρ κ (an_at ws) S) {r a : Nat} (hr : ρ[r]? = some a) {t : an_Ty} : ∀ {n : Nat}, an_els S r t n = true → ∀ i, i < n → ∃ w, an_rd (an_at ws) a 1000 i = some w ∧ an_vt κ t w := by
  intro n
  induction n with
  | zero => intro _ i hi; omega
  | succ n ih =>
    intro he i hi
    simp only [an_els, Bool.and_eq_true] at he
    obtain ⟨e1, e2⟩ := he
    by_cases hin : i = n
    · subst hin
      split at e1
      · rename_i v hv
        obtain ⟨w, w1, w2⟩ := an_tg_ok h hr (j := i) (x := (0, (i : Int))) rfl hv (by decide)
        exact ⟨w, w1, an_fit_ok h w2 e1⟩
      · cases e1
    · exact ih e2 i (by omega)
theorem an_fld_ok {O : am_O} {X : Nat → ClassId} {σ : List Int} {ρ : List Nat} {κ : an_Ka} {ws : va_W} {S : an_S} (h : an_g O X σ ρ κ (an_at ws) S) {r a : Nat} (hr : ρ[r]? = some a) : ∀ {ts us : List an_Ty} {k : Nat}, an_fld S r k ts us = true → k + ts.length < 1000 → (∀ i t, ts[i]? = some t → ∃ w, an_rd (an_at ws) a (k + i) 0 = some w ∧ an_vt κ t w) →
    ts.length = us.length ∧ ∀ i u, us[i]? = some u → ∃ w, an_rd (an_at ws) a (k + i) 0 = some w ∧ an_vt κ u w := by
  intro ts
  induction ts with
  | nil =>
    intro us k he hl ht
    cases us with
    | nil => exact ⟨rfl, fun i u hu => by cases hu⟩
    | cons u us => cases he
  | cons t ts ih =>
    intro us k he hl ht
    cases us with
    | nil => cases he
    | cons u us =>
      simp only [an_fld, Bool.and_eq_true, Bool.or_eq_true, decide_eq_true_eq] at he
      obtain ⟨e1, e2⟩ := he
      obtain ⟨i1, i2⟩ := ih e2 (by simp only [List.length_cons] at hl; omega) (fun i t2 h2 => by
        have := ht (i + 1) t2 (by simpa using h2)
        rw [show k + (i + 1) = k + 1 + i by omega] at this
        exact this)
      refine ⟨by simp [i1], fun i u2 hu => ?_⟩
      cases i with
      | zero =>
        simp only [List.getElem?_cons_zero, Option.some.injEq] at hu
        subst hu
        obtain ⟨w, w1, w2⟩ := ht 0 t rfl
        rcases e1 with e1 | e1
        · exact ⟨w, w1, by rw [← e1]; exact w2⟩
        · split at e1
          · rename_i v hv
            obtain ⟨w9, q1, q2⟩ := an_tg_ok h hr (j := 0) rfl hv (by simp only [List.length_cons] at hl; omega)
            exact ⟨w9, q1, an_fit_ok h q2 e1⟩
          · cases e1
      | succ i =>
        obtain ⟨w, w1, w2⟩ := i2 i u2 (by simpa using hu)
        exact ⟨w, by rw [show k + (i + 1) = k + 1 + i by omega]; exact w1, w2⟩
theorem an_prA_ok {O : am_O} {X : Nat → ClassId} {G : an_G} {S S1 : an_S} {σ : List Int} {ρ : List Nat} {κ : an_Ka} {ws : va_W} (h : an_cfg O X G S σ ρ κ ws) {r a nk : Nat} (hr : ρ[r]? = some a) (hp : an_prA S r nk = some S1) : ∃ κ2, an_cfg O X G S1 σ ρ κ2 ws := by
  unfold an_prA at hp
  split at hp
  · rename_i x _ lo hi _ y _ lo2 hi2 t e1 e2
    split at hp
    · rename_i hb
      cases hp
      simp only [Bool.and_eq_true, beq_iff_eq, decide_eq_true_eq] at hb
      obtain ⟨hs, rfl, ⟨e3, e4, e5⟩, he⟩ := hb
      have hs2 := hs
      simp only [an_sole, Bool.and_eq_true] at hs2
      obtain ⟨o1, o2, o3, o4⟩ := an_hkO hs2.1
      obtain ⟨ha, hkh⟩ := h.2.1.kind hr o1
      have hne := (o4 nk).2
      rw [e2] at hne
      refine ⟨_, (h.toK hr hs ?_ ?_).2⟩
      · unfold an_kh at hkh ⊢
        rw [e1] at hkh
        rw [e2]
        obtain ⟨n, h1, h9, h2, h3, h4, h5⟩ := hkh
        refine ⟨n, h1, h9, h2, by omega, by omega, fun i hi2 => ?_⟩
        obtain ⟨w, w1, w2⟩ := an_els_ok h.2.1 hr he i (by omega)
        exact ⟨w, w1, w2.chg ha hne⟩
      · rintro rfl
        have := an_KLk.1
        rw [e2] at this
        cases this
    · cases hp
  · cases hp
theorem an_prO_ok {O : am_O} {X : Nat → ClassId} {G : an_G} {S S1 : an_S} {σ : List Int} {ρ : List Nat} {κ : an_Ka} {ws : va_W} (h : an_cfg O X G S σ ρ κ ws) {r a nk : Nat} (hnk : nk ≠ an_KL) (hr : ρ[r]? = some a) (hp : an_prO S r nk = some S1) : ∃ κ2, an_cfg O X G S1 σ ρ κ2 ws := by
  unfold an_prO at hp
  split at hp
  · rename_i x ts _ y us _ e1 e2
    split at hp
    · rename_i hb
      cases hp
      simp only [Bool.and_eq_true, beq_iff_eq] at hb
      obtain ⟨hs, rfl, he⟩ := hb
      have hs2 := hs
      simp only [an_sole, Bool.and_eq_true] at hs2
      obtain ⟨o1, o2, o3, o4⟩ := an_hkO hs2.1
      obtain ⟨ha, hkh⟩ := h.2.1.kind hr o1
      have hne := (o4 nk).1
      rw [e2] at hne
      refine ⟨_, (h.toK hr hs ?_ (fun q => absurd q hnk)).2⟩
      unfold an_kh at hkh ⊢
      rw [e1] at hkh
      rw [e2]
      obtain ⟨h1, h2, h3⟩ := hkh
      obtain ⟨i1, i2⟩ := an_fld_ok h.2.1 hr he (by omega) (fun i t ht => by rw [Nat.zero_add]; exact h3 i t ht)
      refine ⟨by rw [← i1]; exact h1, by omega, fun i u hu => ?_⟩
      obtain ⟨w, w1, w2⟩ := i2 i u hu
      rw [Nat.zero_add] at w1
      exact ⟨w, w1, w2.chg ha (hne u (List.mem_of_getElem? hu))⟩
    · cases hp
  · cases hp
theorem an_pmA : an_PM.all (fun p => decide (p.2.2 ≠ an_KL) && decide (p.1 < 1000)) = true := by decide +kernel
theorem an_pmN (p : Nat) : (an_PM.getD p (0, 0, 0)).2.2 ≠ an_KL ∧ (an_PM.getD p (0, 0, 0)).1 < 1000 := by
  simp only [List.getD_eq_getElem?_getD]
  cases hm : an_PM[p]? with
  | none => exact ⟨fun h => an_KLk.2.2 h.symm, by decide⟩
  | some q =>
    have := List.all_eq_true.mp an_pmA q (List.mem_of_getElem? hm)
    simp only [Bool.and_eq_true, decide_eq_true_eq] at this
    exact this
theorem an_prm_ok {O : am_O} {X : Nat → ClassId} {G : an_G} {S S1 : an_S} {σ : List Int} {ρ : List Nat} {κ : an_Ka} {ws : va_W} {L : an_L} {l : am_L} (h : an_cfg O X G S σ ρ κ ws) (hL : an_lok O σ ρ L l) {p : Nat × Nat × Nat} (hp : p.2.2 ≠ an_KL ∧ p.1 < 1000) (he : an_prm S L p = some S1) : ∃ κ2, an_cfg O X G S1 σ ρ κ2 ws := by
  unfold an_prm at he
  split at he
  · rename_i r _ hv
    obtain ⟨w, -, a, -, hr⟩ := hL.get hv
    obtain ⟨f, na, nk⟩ := p
    cases f with
    | zero => exact an_prO_ok h hp.1 hr he
    | succ f =>
      simp only at he
      split at he
      · rename_i q _ ht
        obtain ⟨w2, w1, b, rfl, hb⟩ := an_tg_ok h.2.1 hr (j := 0) rfl ht (by have := hp.2; simp only at this; omega)
        split at he
        · rename_i S2 hA
          obtain ⟨κ2, h2⟩ := an_prA_ok h hb hA
          exact an_prO_ok h2 hp.1 hr he
        · cases he
      · cases he
  · cases he
