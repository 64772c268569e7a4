/-! A CONTRACT CHECKED NUMBER BY NUMBER (no fields asked for, none promised). -/
def an_chkc2 (fu m : Nat) (ps : List an_Ty) (ret : Option an_Ty) (ths : List Nat) (rets : Bool) (ms : List (Nat × Nat)) : Bool := match an_ent ps an_s0 with
  | none => false
  | some (S, as) => match an_ex2 ms fu m (am_code m) (an_args 0 as) [] 0 0 [] S with
    | none => false
    | some xs => xs.all (fun x => match x with
      | (0, _, _) => rets && ret.isNone
      | (1, v, S1) => rets && (match ret with
        | some t => an_fit S1 v t
        | none => false)
      | (j + 2, _, _) => an_memN ths j)
theorem an_chkc2_ok {O : am_O} {X : Nat → ClassId} (hO : an_Ook O) {fu m : Nat} {ps ps0 : List an_Ty} {ret : Option an_Ty} {ths : List Nat} {rets : Bool} {ms : List (Nat × Nat)} (h : an_chkc2 fu m ps ret ths rets ms = true) (hC : ∀ m2, m2 < m → an_CS O X m2)
    {κ : an_Ka} {as : List Value} {ws : va_W} (hn : an_nd ws) (hh : an_hi2 O X κ (an_at ws)) (hv : an_vts κ ps as) : am_Safe O X m 0 (lv_args 0 as) [] 0 0 ws (an_CQ O X (ps0, [], ret, [], ths, rets, ms) κ as ws) := by
  unfold an_chkc2 at h
  split at h
  · cases h
  · rename_i S asA hent
    split at h
    · cases h
    · rename_i xs hx
      rw [an_ex2_eq] at hx
      have c0 : an_cfg O X (κ, an_at ws, ms, κ) an_s0 [] [] κ ws := by
        refine ⟨hn, ⟨⟨⟨rfl, fun i x hx => by cases hx⟩, fun p hp => (by cases hp), fun f hf => (by cases hf), fun q hq => (by cases hq)⟩, fun q hq => (by cases hq), ⟨rfl, fun p hp => (by cases hp)⟩, hh, fun f hf => (by cases hf)⟩, ⟨fun _ _ q => q, fun _ _ q => q, fun _ _ _ _ _ _ => rfl⟩, fun r hr => (by cases hr)⟩
      obtain ⟨σ, ρ, p1, p2, c1, s1⟩ := an_ent_ok hent c0 hv
      refine an_ex_ok hO (an_LSok hO) fu m _ _ _ _ _ _ _ xs hx 0 (an_sfx_0 m).1 (an_sfx_0 m).2 hC (κ, an_at ws, ms, κ) 0 0 σ ρ κ _ [] 0 0 ws _ rfl ⟨c1, an_args_ok 0 s1, trivial, Nat.le_refl _, Nat.le_refl _⟩ (fun a ha => by cases ha) ?_
      intro x hx2 r w hxo
      have hb := List.all_eq_true.mp h x hx2
      obtain ⟨σ3, ρ3, κ3, t1, t2, ⟨t3, t4, ⟨t5, t6, t7⟩, -⟩, t9⟩ := hxo
      obtain ⟨x0, x1, x2⟩ := x
      refine ⟨κ3, t3, t4.2.2.2.1, t5, t7, ?_⟩
      match x0, hb, t9 with
      | 0, hb, t9 =>
        simp only [Bool.and_eq_true, Option.isNone_iff_eq_none] at hb
        simp only at t9
        subst t9
        exact ⟨hb.1, hb.2, Or.inl rfl⟩
      | 1, hb, t9 =>
        simp only [Bool.and_eq_true] at hb
        obtain ⟨wv, rfl, hw⟩ := t9
        obtain ⟨h3, h4⟩ := hb
        split at h4
        · rename_i t
          exact ⟨h3, ⟨t, rfl, an_fit_ok t4 hw h4⟩, Or.inl rfl⟩
        · cases h4
      | j + 2, hb, t9 =>
        simp only at t9
        subst t9
        exact an_memN_ok hb
/-- a method of one int, from lo on n of them -/
theorem an_csP {O : am_O} {X : Nat → ClassId} (hO : an_Ook O) {fu m n : Nat} {lo hi : Int} {ret : Option an_Ty} {ths : List Nat} {rets : Bool} {ms : List (Nat × Nat)} (hct : an_CT.getD m none = some ([(0, lo, hi)], [], ret, [], ths, rets, ms)) (hn : hi - lo < (n : Int)) (h : (List.range n).all (fun c => an_chkc2 fu m [(0, lo + (c : Int), lo + (c : Int))] ret ths rets ms) = true)
    (hC : ∀ m2, m2 < m → an_CS O X m2) : an_CS O X m := by
  intro ct hct2 κ as ws hnd hh hv hf
  rw [hct] at hct2
  cases hct2
  match as, hv with
  | [w], hv =>
    obtain ⟨⟨x, rfl, x1, x2⟩, hv2⟩ := hv
    have hc : x.toInt = lo + (((x.toInt - lo).toNat : Nat) : Int) := by omega
    have h1 := List.all_eq_true.mp h (x.toInt - lo).toNat (List.mem_range.mpr (by omega))
    exact an_chkc2_ok hO h1 hC hnd hh ⟨⟨x, rfl, by omega, by omega⟩, trivial⟩
  | [], hv => exact hv.elim
  | _ :: _ :: _, hv => exact hv.2.elim
