/-! THE LAW'S WALK, the ways of its switch one by one: ahead of the switch one run tells what is known there (an_D0); each way is a run of its own; the walk itself stops at the switch where what is known is that. -/
def an_LS0 : an_S := ((1, [(0, 0, 6)], [], []), [], (0, [], []), [(0, 1002, (0, -1), (0, (1, 0), (0, 0)))])
def an_lawR (x : an_X) : Bool := x.1 == 1 && (x.2.1.1 == 0 && an_eqE x.2.1.2.1 (0, 1))
abbrev an_D : Type := an_L × List an_V × Nat × Nat × List an_Ac × an_S
def an_SW : Nat := 40
def an_swE : List am_I := an_find (am_code am_LAW) an_SW
def an_at1 (m : Nat) (cs : List am_I) : Bool := Nat.beq m am_LAW && (match cs with
  | e :: _ => Nat.beq e.1 an_SW
  | [] => false)
def an_exK (stop : an_Rec) (mods : List (Nat × Nat)) : Nat → an_Rec
  | 0 => fun _ _ _ _ _ _ _ _ => none
  | n + 1 => fun m cs L st k sl acts S => if an_at1 m cs then stop m cs L st k sl acts S else if n % 32 == 0 then an_fS S (fun S => an_fLo L (fun L => an_fL an_fV st (fun st => an_fN k (fun k => an_fN sl (fun sl => an_exb2 mods (an_exK stop mods n) m cs L st k sl acts S))))) else an_exb2 mods (an_exK stop mods n) m cs L st k sl acts S
theorem an_exK_ok {O : am_O} {X : Nat → ClassId} {mods : List (Nat × Nat)} {stop : an_Rec} (hO : an_Ook O) (hLS : an_LS O X) (hst : an_Spec O X mods stop) : ∀ n, an_Spec O X mods (an_exK stop mods n) := by
  intro n
  induction n with
  | zero => intro m cs L st kA sA acts S xs h; cases h
  | succ n ih =>
    intro m cs L st kA sA acts S xs h
    simp only [an_exK] at h
    split at h
    · exact hst m cs L st kA sA acts S xs h
    · have h2 : an_exb mods (an_exK stop mods n) m cs L st kA sA acts S = some xs := by
        rw [← an_exb2_eq]
        split at h
        · rw [an_fS_id, an_fLo_id, an_fL_id an_fV_id, an_fN_id, an_fN_id] at h
          exact h
        · exact h
      exact an_exb_ok ih hO hLS m cs L st kA sA acts S xs h2
/-! what is known at the switch, written as ends of a walk, and read again -/
def an_cL (L : an_L) : List an_T := L.map (fun q => (q.1, 0, (0, 0), q.2))
def an_cS (n : Nat) (T : List an_T) : an_S := ((n, [], [], []), [], (0, [], []), T)
def an_cAs : List an_Ac → List an_X
  | [] => []
  | a :: r => (1000 + a.1, an_zv, an_cS a.2.1 (an_cL a.2.2.1)) :: (1000 + a.2.2.2.2.2.1, an_zv, an_cS a.2.2.2.2.2.2.1 a.2.2.2.1) :: (1000 + a.2.2.2.2.2.2.2, an_zv, an_cS 0 (a.2.2.2.2.1.map (fun p => (p.1, p.2.1, p.2.2, an_zv)))) :: an_cAs r
def an_col : an_Rec := fun _ _ L st k sl acts S => some ((1000, an_zv, S) :: (1000 + k, an_zv, an_cS sl (an_cL L)) :: (1000, an_zv, an_cS 0 (st.map (fun v => (0, 0, (0, 0), v)))) :: an_cAs acts)
def an_dL (T : List an_T) : an_L := T.map (fun f => (f.1, f.2.2.2))
def an_dA : List an_X → List an_Ac
  | x :: y :: z :: r => (x.1 - 1000, x.2.2.1.1, an_dL x.2.2.2.2.2, y.2.2.2.2.2, z.2.2.2.2.2.map (fun f => (f.1, f.2.1, f.2.2.1)), y.1 - 1000, y.2.2.1.1, z.1 - 1000) :: an_dA r
  | _ => []
def an_dec (xs : List an_X) : Option an_D := match xs with
  | x :: y :: z :: r => some (an_dL y.2.2.2.2.2, z.2.2.2.2.2.map (fun f => f.2.2.2), y.1 - 1000, y.2.2.1.1, an_dA r, (x.2.2.1, x.2.2.2.1, (x.2.2.2.2.1.1, x.2.2.2.2.1.2.1, x.2.2.2.2.1.2.2), x.2.2.2.2.2))
  | _ => none
def an_D0 : Option an_D := match an_exK an_col an_LMods 6000 am_LAW (am_code am_LAW) [(0, (5, (0, 0), (0, 0)))] [] 0 0 [] an_LS0 with
  | none => none
  | some xs => an_dec (xs.filter (fun x => Nat.ble 1000 x.1))
def an_lcR (d : an_D) : Option (List an_It) := match an_swE with
  | e :: _ => an_one an_LMods am_LAW e.1 e.2.1 0 0 0 d.1 d.2.1 d.2.2.1 d.2.2.2.1 d.2.2.2.2.2
  | [] => none
/-- one way: back at the head, with what is asked for there -/
def an_lc1 (d : an_D) (it : an_It) : Bool := an_fS it.2.2.2.2.2 (fun S => an_fLo it.2.1 (fun L => match an_ex2 an_LMods 6000 am_LAW (an_find (am_code am_LAW) it.1) L it.2.2.1 it.2.2.2.1 it.2.2.2.2.1 d.2.2.2.2.1 S with
  | some xs => xs.all an_lawR
  | none => false))
/-- the law's end, seen from the switch -/
def an_xe (S : an_S) : an_X := (1, (0, (0, 1), (0, 0)), (S.1, S.2.1, (S.2.2.1.1, [], []), []))
theorem an_xe_ok {O : am_O} {X : Nat → ClassId} {G : an_G} {S : an_S} {σ σ2 : List Int} {ρ ρ2 : List Nat} {κ : an_Ka} {ws w : va_W} {y : an_X} {r : am_R} (hc : an_cfg O X G S σ ρ κ ws) (hy : an_lawR y = true) (hx : an_xok O X G σ2 ρ2 y r w) : an_xok O X G σ ρ (an_xe S) r w := by
  simp only [an_lawR, Bool.and_eq_true, beq_iff_eq] at hy
  obtain ⟨h1, h2, h3⟩ := hy
  obtain ⟨σ3, ρ3, κ3, -, -, ⟨c1, ⟨g1, g2, g3, g4, g5⟩, fr, pro⟩, hr⟩ := hx
  obtain ⟨y0, ⟨v0, v1, v2⟩, y2⟩ := y
  simp only at h1 h2 h3 hr
  subst h1 h2
  have h3 := an_eqE_ok h3
  subst h3
  obtain ⟨wv, rfl, z, rfl, hz⟩ := hr
  exact ⟨σ, ρ, κ3, an_px.rf, an_pr.rf, ⟨c1, ⟨hc.2.1.1, hc.2.1.2.1, ⟨hc.2.1.2.2.1.1, fun p hp => by cases hp⟩, g4, fun f hf => by cases hf⟩, fr, fun q hq => by cases hq⟩, _, rfl, z, rfl, hz⟩
def an_lc (i : Nat) : Bool := match an_D0 with
  | some d => match an_lcR d with
    | some its => match its[i]? with
      | some it => an_lc1 d it
      | none => true
    | none => false
  | none => false
def an_lcN : Bool := match an_D0 with
  | some d => match an_lcR d with
    | some its => Nat.ble its.length 40
    | none => false
  | none => false
/-- a way told apart by a number of its own -/
def an_spC (n : Nat) (B : an_B) (v : an_E) (c : Nat) : Option an_B := if c = 0 then an_le B v (0, -1) 0 else if c ≤ n then an_eq B v (0, (c : Int) - 1) else an_le B (0, (n : Int)) v 0
def an_spI (k : Nat) (it : an_It) (e : an_E) (B1 : an_B) : an_S := an_tadd (B1, it.2.2.2.2.2.2) 0 1002 (an_nrm it.2.2.2.2.2.1 (e.1, e.2 + (k : Int))) (0, (an_full it.2.2.2.2.2.1).2, (0, 0))
def an_lcs (k n i c : Nat) : Bool := match an_D0 with
  | some d => match an_lcR d with
    | some its => match its[i]? with
      | some it => match an_lget it.2.1 4 with
        | some (0, e, _) => match an_spC n (an_full it.2.2.2.2.2.1).1 (an_full it.2.2.2.2.2.1).2 c with
          | some B1 => an_lc1 d (it.1, it.2.1, it.2.2.1, it.2.2.2.1, it.2.2.2.2.1, an_spI k it e B1)
          | none => true
        | _ => false
      | none => true
    | none => false
  | none => false
theorem an_evp {σ : List Int} {e : an_E} {x k : Int} (h : an_ev σ e = some x) : an_ev σ (e.1, e.2 + k) = some (x + k) := by
  obtain ⟨i, c⟩ := e
  cases i with
  | zero => simp only [an_ev, Option.some.injEq] at h ⊢; omega
  | succ i =>
    simp only [an_ev, Option.map_eq_some_iff] at h ⊢
    obtain ⟨y, h1, h2⟩ := h
    exact ⟨y, h1, by omega⟩
theorem an_spC_ok {n : Nat} {B : an_B} {σ : List Int} {v : an_E} {y : Int} (h : an_ok B σ) (hv : an_ev σ v = some y) : ∃ (c : Nat) (B1 : an_B), c < n + 2 ∧ an_spC n B v c = some B1 ∧ an_ok B1 σ := by
  by_cases h0 : y ≤ -1
  · obtain ⟨B1, e1, e2⟩ := an_le_ok (e2 := (0, -1)) (k := 0) h hv rfl (by omega)
    exact ⟨0, B1, by omega, by unfold an_spC; rw [if_pos rfl]; exact e1, e2⟩
  by_cases h1 : y < (n : Int)
  · obtain ⟨B1, e1, e2⟩ := an_eq_ok (e2 := (0, ((y.toNat + 1 : Nat) : Int) - 1)) h hv (by simp only [an_ev, Option.some.injEq]; omega)
    exact ⟨y.toNat + 1, B1, by omega, by unfold an_spC; rw [if_neg (by omega), if_pos (by omega)]; exact e1, e2⟩
  obtain ⟨B1, e1, e2⟩ := an_le_ok (e1 := (0, (n : Int))) (k := 0) h rfl hv (by omega)
  exact ⟨n + 1, B1, by omega, by unfold an_spC; rw [if_neg (by omega), if_neg (by omega)]; exact e1, e2⟩
/-- one way, told apart by many numbers of its own -/
def an_lc2 (d : an_D) : List (Nat × Nat × Nat) → an_It → Bool
  | [], it => an_lc1 d it
  | (k, n, c) :: ks, it => match an_lget it.2.1 4 with
    | some (0, e, _) => match an_spC n (an_full it.2.2.2.2.2.1).1 (an_full it.2.2.2.2.2.1).2 c with
      | some B1 => an_lc2 d ks (it.1, it.2.1, it.2.2.1, it.2.2.2.1, it.2.2.2.2.1, an_spI k it e B1)
      | none => true
    | _ => false
def an_lct (i : Nat) (ks : List (Nat × Nat × Nat)) : Bool := match an_D0 with
  | some d => match an_lcR d with
    | some its => match its[i]? with
      | some it => an_lc2 d ks it
      | none => true
    | none => false
  | none => false
/-- for all classes of these numbers -/
def an_allc : List (Nat × Nat) → (List (Nat × Nat × Nat) → Prop) → Prop
  | [], P => P []
  | q :: r, P => ∀ c, c < q.2 + 2 → an_allc r (fun ks => P ((q.1, q.2, c) :: ks))
theorem an_allc_ex : ∀ (qs : List (Nat × Nat)) (P : List (Nat × Nat × Nat) → Prop), an_allc qs P → ∃ ks, P ks := by
  intro qs
  induction qs with
  | nil => intro P h; exact ⟨[], h⟩
  | cons q r ih =>
    intro P h
    obtain ⟨ks, hk⟩ := ih _ (h 0 (by omega))
    exact ⟨_, hk⟩
theorem an_allc_mono : ∀ (qs : List (Nat × Nat)) (P Q : List (Nat × Nat × Nat) → Prop), (∀ ks, P ks → Q ks) → an_allc qs P → an_allc qs Q := by
  intro qs
  induction qs with
  | nil => intro P Q h hp; exact h _ hp
  | cons q r ih => intro P Q h hp c hc; exact ih _ _ (fun ks => h _) (hp c hc)
theorem an_lct_it {i : Nat} {ks : List (Nat × Nat × Nat)} {d : an_D} {its : List an_It} {it : an_It} (b3 : an_D0 = some d) (hits : an_lcR d = some its) (hix : its[i]? = some it) (h : an_lct i ks = true) : an_lc2 d ks it = true := by
  unfold an_lct at h
  rw [b3] at h
  simp only [hits, hix] at h
  exact h
theorem an_lc2_get {d : an_D} {k n c : Nat} {ks : List (Nat × Nat × Nat)} {it : an_It} (h : an_lc2 d ((k, n, c) :: ks) it = true) : ∃ e f, an_lget it.2.1 4 = some (0, e, f) := by
  unfold an_lc2 at h
  split at h
  · rename_i e f he
    exact ⟨e, f, he⟩
  · cases h
theorem an_lc2_nx {d : an_D} {k n c : Nat} {ks : List (Nat × Nat × Nat)} {it : an_It} {e f : an_E} {B1 : an_B} (he : an_lget it.2.1 4 = some (0, e, f)) (hB : an_spC n (an_full it.2.2.2.2.2.1).1 (an_full it.2.2.2.2.2.1).2 c = some B1) (h : an_lc2 d ((k, n, c) :: ks) it = true) : an_lc2 d ks (it.1, it.2.1, it.2.2.1, it.2.2.2.1, it.2.2.2.2.1, an_spI k it e B1) = true := by
  unfold an_lc2 at h
  simp only [he, hB] at h
  exact h
theorem an_spX {O : am_O} {X : Nat → ClassId} {G : an_G} {dk ds : Nat} {it : an_It} {k n : Nat} {e f9 : an_E} {σ2 : List Int} {ρ2 : List Nat} {κ2 : an_Ka} {l2 : am_L} {st2 : List Value} {k2 sl2 : Nat} {ws2 : va_W} (he : an_lget it.2.1 4 = some (0, e, f9)) (hc2 : an_icf O X G dk ds it σ2 ρ2 κ2 l2 st2 k2 sl2 ws2) :
    ∃ c B1 σ3, c < n + 2 ∧ an_spC n (an_full it.2.2.2.2.2.1).1 (an_full it.2.2.2.2.2.1).2 c = some B1 ∧ an_px σ2 σ3 ∧ an_icf O X G dk ds (it.1, it.2.1, it.2.2.1, it.2.2.2.1, it.2.2.2.2.1, an_spI k it e B1) σ3 ρ2 κ2 l2 st2 k2 sl2 ws2 := by
  have hg2 := hc2.1.2.1
  obtain ⟨w8, w1, x8, rfl, w2⟩ := hc2.2.1.get he
  obtain ⟨σ3, q1, q2, q3, q4⟩ := an_resF (an_old O 0 (x8.toInt + (k : Int))) hg2.1 hg2.2.1
  obtain ⟨c, B1, hc6, hB, hok⟩ := an_spC_ok (n := n) q2 q4
  exact ⟨c, B1, σ3, hc6, hB, q1, ⟨(hc2.1.num q1 hok q3).addO (q1.ev (an_nrm_ok hg2.1 (an_evp w2))) ⟨_, rfl, q4⟩, hc2.2.1.px q1 an_pr.rf, hc2.2.2.1.px q1 an_pr.rf, hc2.2.2.2⟩⟩
/-- the same switch -/
def an_swq (e : am_I) : Bool := match an_swE with
  | e0 :: _ => (match e.2.1, e0.2.1 with
    | .tableswitch d lo hi offs, .tableswitch d2 lo2 hi2 offs2 => decide (d = d2 ∧ lo = lo2 ∧ hi = hi2 ∧ offs.toList = offs2.toList)
    | _, _ => false) && Nat.beq e.1 e0.1
  | [] => false
def an_eqD (a b : an_D) : Decidable (a = b) :=
  letI _j1 : DecidableEq an_E := inferInstance
  letI _i1 : DecidableEq an_V := inferInstance
  letI _i2 : DecidableEq an_L := inferInstance
  letI _i3 : DecidableEq an_T := inferInstance
  letI _i4 : DecidableEq an_M := inferInstance
  letI _i5 : DecidableEq an_R := inferInstance
  letI _j2 : DecidableEq (List (Nat × Int × Int)) := inferInstance
  letI _j3 : DecidableEq (List (Nat × Nat × Int)) := inferInstance
  letI _j4 : DecidableEq (List (Nat × Int)) := inferInstance
  letI _j5 : DecidableEq (List (Nat × Nat × Int) × List (Nat × Int)) := inferInstance
  letI _j6 : DecidableEq (List (Nat × Int × Int) × List (Nat × Nat × Int) × List (Nat × Int)) := inferInstance
  letI _i6 : DecidableEq an_B := inferInstance
  letI _i7 : DecidableEq an_S := inferInstance
  letI _j7 : DecidableEq (List (Nat × Nat × an_E)) := inferInstance
  letI _j8 : DecidableEq (List an_T) := inferInstance
  letI _j9 : DecidableEq (Nat × Nat × Nat) := inferInstance
  letI _j10 : DecidableEq (List (Nat × Nat × an_E) × Nat × Nat × Nat) := inferInstance
  letI _j11 : DecidableEq (List an_T × List (Nat × Nat × an_E) × Nat × Nat × Nat) := inferInstance
  letI _j12 : DecidableEq (an_L × List an_T × List (Nat × Nat × an_E) × Nat × Nat × Nat) := inferInstance
  letI _i8 : DecidableEq an_Ac := inferInstance
  inferInstance
def an_isD (d : an_D) : Bool := match an_D0 with
  | some d0 => @decide (d0 = d) (an_eqD d0 d)
  | none => false
theorem an_isD_ok {d : an_D} (h : an_isD d = true) : an_D0 = some d := by
  unfold an_isD at h
  split at h
  · rename_i d0 h0
    rw [h0, @of_decide_eq_true _ (an_eqD d0 d) h]
  · cases h
def an_orc : an_Rec := fun m cs L st k sl acts S => match cs with
  | e :: _ => if an_swq e && (Nat.beq m am_LAW && an_isD (L, st, k, sl, acts, S)) then some [an_xe S] else none
  | [] => none
theorem an_swq_ok {e : am_I} (h : an_swq e = true) (mods : List (Nat × Nat)) (m ra rb inf : Nat) (L : an_L) (st : List an_V) (k sl : Nat) (S : an_S) : ∃ e0 r, an_swE = e0 :: r ∧ an_one mods m e.1 e.2.1 ra rb inf L st k sl S = an_one mods m e0.1 e0.2.1 0 0 0 L st k sl S := by
  unfold an_swq at h
  split at h
  · rename_i e0 r he
    refine ⟨e0, r, he, ?_⟩
    rw [Bool.and_eq_true] at h
    obtain ⟨h1, h2⟩ := h
    rw [an_nbq, beq_iff_eq] at h2
    split at h1
    · rename_i d lo hi offs d2 lo2 hi2 offs2 e1 e2
      rw [decide_eq_true_eq] at h1
      obtain ⟨rfl, rfl, rfl, h3⟩ := h1
      have h3 := Array.toList_inj.mp h3
      subst h3
      rw [e1, e2, h2]
      rfl
    · cases h1
  · cases h
theorem an_orc_ok {O : am_O} {X : Nat → ClassId} (hO : an_Ook O) (hLS : an_LS O X) (hall : ∀ i, i < 40 → an_lc i = true ∨ (∃ k n, ∀ c, c < n + 2 → an_lcs k n i c = true) ∨ ∃ k n, ∀ c, c < n + 2 → ∃ qs, an_allc qs (fun ks => an_lct i ((k, n, c) :: ks) = true)) (hlen : an_lcN = true) : an_Spec O X an_LMods an_orc := by
  intro m cs L st kA sA acts S xs h pc hs ha hC G dk ds σ ρ κ l stc k sl ws Q hG hc hA hQ
  unfold an_orc at h
  split at h
  · rename_i e cs2
    split at h
    · rename_i hb
      rw [Bool.and_eq_true, Bool.and_eq_true, an_nbq, beq_iff_eq] at hb
      obtain ⟨b1, rfl, b4⟩ := hb
      have b3 := an_isD_ok b4
      simp only [Option.some.injEq] at h
      subst h
      have hpc : e.1 = pc := ha e cs2 rfl
      subst hpc
      obtain ⟨n1, n2, n3, -⟩ := an_sfx_nx hs
      obtain ⟨pc, i, len, ra, rb, rw0, cu, inf⟩ := e
      obtain ⟨e0, r0, g1, g2⟩ := an_swq_ok b1 an_LMods am_LAW ra rb inf L st kA sA S
      have hlen2 := hlen
      unfold an_lcN at hlen2
      rw [b3] at hlen2
      simp only at hlen2
      split at hlen2
      · rename_i its hits
        rw [Nat.ble_eq] at hlen2
        have hone : an_one an_LMods am_LAW pc i ra rb inf L st kA sA S = some its := by
          have h0 := hits
          unfold an_lcR at h0
          rw [g1] at h0
          simp only at h0
          exact g2.trans h0
        refine am_go n3 (an_one_ok hO (G := G) hc (by rw [hG]; exact hone) ?_)
        intro it hit σ2 ρ2 κ2 l2 st2 k2 sl2 ws2 p1 p2 hc2
        obtain ⟨ix, hix⟩ := List.getElem?_of_mem hit
        have hlt := (List.getElem?_eq_some_iff.mp hix).1
        have hrun := hall ix (by omega)
        have key : ∀ (S3 : an_S) (σ3 : List Int), an_lc1 (L, st, kA, sA, acts, S) (it.1, it.2.1, it.2.2.1, it.2.2.2.1, it.2.2.2.2.1, S3) = true → an_px σ2 σ3 → an_icf O X G dk ds (it.1, it.2.1, it.2.2.1, it.2.2.2.1, it.2.2.2.2.1, S3) σ3 ρ2 κ2 l2 st2 k2 sl2 ws2 → am_Safe O X am_LAW it.1 l2 st2 k2 sl2 ws2 Q := by
          intro S3 σ3 hrun p3 hc3
          unfold an_lc1 at hrun
          rw [an_fS_id, an_fLo_id] at hrun
          split at hrun
          · rename_i ys hex
            rw [an_ex2_eq] at hex
            exact an_ex_ok hO hLS 6000 am_LAW _ _ _ _ _ _ _ ys hex it.1 (an_find_ok am_LAW it.1).1 (an_find_ok am_LAW it.1).2 hC G dk ds σ3 ρ2 κ2 l2 st2 k2 sl2 ws2 Q hG hc3 (fun a ha => (hA a ha).mono rfl rfl rfl (fun _ _ q => q) (Nat.le_refl _) (Nat.le_refl _) (p1.tr p3) p2) (fun y hy r9 w9 hx9 => hQ (an_xe S) (List.mem_singleton.mpr rfl) r9 w9 (an_xe_ok hc.1 (List.all_eq_true.mp hrun y hy) hx9))
          · cases hrun
        have key2 : ∀ (qs : List (Nat × Nat)) (S3 : an_S) (σ3 : List Int), an_allc qs (fun ks => an_lc2 (L, st, kA, sA, acts, S) ks (it.1, it.2.1, it.2.2.1, it.2.2.2.1, it.2.2.2.2.1, S3) = true) → an_px σ2 σ3 → an_icf O X G dk ds (it.1, it.2.1, it.2.2.1, it.2.2.2.1, it.2.2.2.2.1, S3) σ3 ρ2 κ2 l2 st2 k2 sl2 ws2 → am_Safe O X am_LAW it.1 l2 st2 k2 sl2 ws2 Q := by
          intro qs
          induction qs with
          | nil => intro S3 σ3 h p3 hc3; exact key S3 σ3 h p3 hc3
          | cons q qs ih =>
            intro S3 σ3 h p3 hc3
            obtain ⟨kk, nn⟩ := q
            obtain ⟨ks, h0⟩ := an_allc_ex qs _ (h 0 (by omega))
            obtain ⟨e, f9, he⟩ := an_lc2_get h0
            obtain ⟨c, B1, σ4, hc6, hB, q1, hc4⟩ := an_spX (it := (it.1, it.2.1, it.2.2.1, it.2.2.2.1, it.2.2.2.2.1, S3)) (k := kk) (n := nn) he hc3
            exact ih (an_spI kk (it.1, it.2.1, it.2.2.1, it.2.2.2.1, it.2.2.2.2.1, S3) e B1) σ4 (an_allc_mono qs _ _ (fun ks hk => an_lc2_nx (it := (it.1, it.2.1, it.2.2.1, it.2.2.2.1, it.2.2.2.2.1, S3)) he hB hk) (h c hc6)) (p3.tr q1) hc4
        rcases hrun with hrun | hrun | hrun
        · unfold an_lc at hrun
          rw [b3] at hrun
          simp only [hits, hix] at hrun
          exact key it.2.2.2.2.2 σ2 hrun an_px.rf hc2
        · obtain ⟨kk, nn, hrun⟩ := hrun
          have h0 := hrun 0 (by omega)
          unfold an_lcs at h0
          rw [b3] at h0
          simp only [hits, hix] at h0
          split at h0
          · rename_i e f9 he
            have hg2 := hc2.1.2.1
            obtain ⟨w8, w1, x8, rfl, w2⟩ := hc2.2.1.get he
            obtain ⟨σ3, q1, q2, q3, q4⟩ := an_resF (an_old O 0 (x8.toInt + (kk : Int))) hg2.1 hg2.2.1
            obtain ⟨c, B1, hc6, hB, hok⟩ := an_spC_ok (n := nn) q2 q4
            have h1 := hrun c hc6
            unfold an_lcs at h1
            rw [b3] at h1
            simp only [hits, hix, he, hB] at h1
            exact key (an_spI kk it e B1) σ3 h1 q1 ⟨(hc2.1.num q1 hok q3).addO (q1.ev (an_nrm_ok hg2.1 (an_evp w2))) ⟨_, rfl, q4⟩, hc2.2.1.px q1 an_pr.rf, hc2.2.2.1.px q1 an_pr.rf, hc2.2.2.2⟩
          · cases h0
        · obtain ⟨kk, nn, hrun⟩ := hrun
          obtain ⟨qs0, h00⟩ := hrun 0 (by omega)
          obtain ⟨ks0, h0⟩ := an_allc_ex _ _ h00
          obtain ⟨e, f9, he⟩ := an_lc2_get (an_lct_it b3 hits hix h0)
          obtain ⟨c, B1, σ3, hc6, hB, q1, hc4⟩ := an_spX (k := kk) (n := nn) he hc2
          obtain ⟨qs, h1⟩ := hrun c hc6
          exact key2 qs (an_spI kk it e B1) σ3 (an_allc_mono qs _ _ (fun ks hk => an_lc2_nx he hB (an_lct_it b3 hits hix hk)) h1) q1 hc4
      · cases hlen2
    · cases h
  · cases h
def an_lawB : Bool := match an_exK an_orc an_LMods 6000 am_LAW (am_code am_LAW) [(0, (5, (0, 0), (0, 0)))] [] 0 0 [] an_LS0 with
  | none => false
  | some xs => xs.all an_lawR
