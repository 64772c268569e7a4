/-! THE LAW'S WALK, by the checker and the simulation. -/
theorem w0_flags {l : Launch} (h : l.flags = flags0) : l.stackTraces = false := by
  unfold Launch.stackTraces
  rw [h]
  decide +kernel
theorem w0_ook {b L : Nat} {xs : Nat → Int32} {t1 t2 t3 t4 : Nat} (hL : L ≤ 3072) : an_Ook (w0_O b L xs t1 t2 t3 t4) := by
  refine ⟨fun j hj => ?_, fun c i => rfl⟩
  match j, hj with
  | 0, _ =>
    refine ⟨?_, ?_, ?_⟩
    · show (0 : Int) ≤ (L : Int)
      omega
    · show (L : Int) ≤ 3072
      omega
    · show L < 2147483648
      omega
  | 1, _ => exact ⟨(show (an_OL 1).1 ≤ ((8 : Nat) : Int) from by decide), (show ((8 : Nat) : Int) ≤ (an_OL 1).2 from by decide), (show 8 < 2147483648 from by decide)⟩
  | 2, _ => exact ⟨(show (an_OL 2).1 ≤ ((8 : Nat) : Int) from by decide), (show ((8 : Nat) : Int) ≤ (an_OL 2).2 from by decide), (show 8 < 2147483648 from by decide)⟩
  | j + 3, hj => omega
theorem w0_safe {X : Nat → ClassId} {b L : Nat} {xs : Nat → Int32} {t1 t2 t3 t4 : Nat} (hL : L ≤ 6) : am_Safe (w0_O b L xs t1 t2 t3 t4) X am_LAW 0 [(0, .ref b)] [] 0 0 [] (fun r _ => r = .inl (some (.int 1))) := by
  have hO := w0_ook (b := b) (xs := xs) (t1 := t1) (t2 := t2) (t3 := t3) (t4 := t4) (Nat.le_trans hL (by decide))
  have hT := an_lawT
  unfold an_lawB at hT
  split at hT
  · cases hT
  · rename_i xs0 hx
    refine an_exK_ok hO (an_LSok hO) (an_orc_ok hO (an_LSok hO) an_lcA an_lcNt) 6000 am_LAW _ _ _ _ _ _ _ xs0 hx 0 (an_sfx_0 am_LAW).1 (an_sfx_0 am_LAW).2 (fun m2 h => an_csA hO m2 h) (fun _ => none, an_at [], an_LMods, fun _ => none) 0 0 [(L : Int)] [] (fun _ => none) [(0, .ref b)] [] 0 0 [] _ rfl ?_ (fun a ha => by cases ha) ?_
    · refine ⟨⟨List.nodup_nil, ⟨⟨⟨rfl, fun i x hx => ?_⟩, fun p hp => ?_, fun f hf => (by cases hf), fun q hq => (by cases hq)⟩, fun q hq => (by cases hq), ⟨rfl, fun p hp => (by cases hp)⟩, ⟨fun a kd h => (by cases h), fun a h => (by cases h)⟩, fun f hf => ?_⟩, ⟨fun _ _ q => q, fun _ _ q => q, fun _ _ _ _ _ _ => rfl⟩, fun r hr => (by cases hr)⟩, fun q hq => ?_, trivial, Nat.le_refl _, Nat.le_refl _⟩
      · have : x = (L : Int) := by
          have := List.mem_of_getElem? hx
          simpa using this
        subst this
        simp only [an_LN, an_LX]
        omega
      · have hp2 : p = (0, 0, 6) := by simpa [an_LS0] using hp
        subst hp2
        exact ⟨(L : Int), rfl, by simp only; omega, by simp only; omega⟩
      · have hf2 : f = (0, 1002, (0, -1), (0, (1, 0), (0, 0))) := by simpa [an_LS0] using hf
        subst hf2
        refine Or.inl ⟨rfl, -1, rfl, Int32.ofNat L, rfl, ?_⟩
        rw [an_ofNat (by omega)]
        simp [an_ev]
      · have hq2 : q = (0, (5, (0, 0), (0, 0))) := by simpa using hq
        subst hq2
        exact ⟨.ref b, by simp, rfl⟩
    · intro x hx2 r w hxo
      have hb := List.all_eq_true.mp hT x hx2
      simp only [an_lawR, Bool.and_eq_true, beq_iff_eq] at hb
      obtain ⟨h1, h2, h3⟩ := hb
      obtain ⟨σ2, ρ2, κ2, -, -, -, h4⟩ := hxo
      obtain ⟨x0, ⟨v0, v1, v2⟩, x2⟩ := x
      simp only at h1 h2 h3 h4
      subst h1 h2
      have h3 := an_eqE_ok h3
      subst h3
      obtain ⟨wv, rfl, y, rfl, hy⟩ := h4
      simp only [an_ev, Option.some.injEq] at hy
      have : y = 1 := Int32.toInt_inj.mp (by rw [← hy]; rfl)
      rw [this]
set_option maxHeartbeats 4000000 in
set_option maxRecDepth 100000 in
theorem whole_start {p : Program} {e : Env} {s : State} {m : MethodId} {below : List Frame} {meth : Method} {c : Code} (l : Launch) (hflags : l.flags = flags0) {b L : Nat} {xs : Nat → Int32} (hL : L ≤ 6) (C0 : w0_At p s m meth c b L xs) : W p l e room_1 s m #[Value.ref b] below meth c s.heap [] 0 0 (lw_Z below #[Value.ref b] s) (entryFrame m ([Value.ref b] : List Value).toArray 7) := by
  obtain ⟨D, X, t1, t2, t3, t4, hVm, hOld⟩ := w0_vm C0
  obtain ⟨hx, hb, hret, hml, hown, hts, hX, hbl, hlocks, hgv, hname⟩ := C0
  have htr := w0_flags hflags
  have hj : am_M[am_LAW]? = some (⟨"TagRoundsLaw", "law", "([I)Z"⟩, code, some .boolean, []) := rfl
  have hdl := am_dlA am_LAW (by decide) _ hj
  have hn : am_n am_LAW = (1, 2, 600002, 7302232, 12, 478, 7) := rfl
  have n1 : am_rk am_LAW = 2 := by simp only [am_rk, hn]
  have n2 : am_mc am_LAW = 600002 := by simp only [am_mc, hn]
  have n3 : am_ms am_LAW = 7302232 := by simp only [am_ms, hn]
  have n4 : am_F am_LAW = 12 := by simp only [am_F, hn]
  have n5 : am_Lc am_LAW = 478 := by simp only [am_Lc, hn]
  have n6 : am_ml am_LAW = 7 := by simp only [am_ml, hn]
  have nH : am_H.getD am_LAW [] = [] := rfl
  have hhnd : ∀ pc x, am_hnd am_LAW pc x = none := fun pc x => by simp only [am_hnd, nH]; rfl
  have Cx : am_Cx p l room_1 s m meth c am_LAW (⟨"TagRoundsLaw", "law", "([I)Z"⟩, code, some .boolean, []) D X (w0_O b L xs t1 t2 t3 t4) s.heap.size :=
    ⟨hx, hb, by rw [n6]; exact hml, hown, hlocks, hname, hVm, hOld, Nat.le_refl _, ⟨by rw [n4]; exact Nat.le_refl _, by rw [n5]; exact Nat.le_refl _, by rw [n2]; exact Nat.le_refl _, by rw [n3]; exact Nat.le_refl _⟩, hj, htr, hdl.1, hdl.2⟩
  have Ex : am_Ex p l e room_1 s m #[Value.ref b] below meth c D s.heap.size am_LAW (fun r _ => r = .inl (some (.int 1))) (lw_Z below #[Value.ref b] s) := by
    refine ⟨?_, ?_, ?_, ?_, ?_, ?_⟩
    · intro H locs k sl ws pc ls x hQ hW hk hs hd hr
      have hx1 : x = 1 := by simpa using hQ
      subst hx1
      rw [n2] at hk
      rw [n3] at hs
      refine va_forget (fun q hq => hW.2.2.2.2 q hq) (W.widen hk hs ?_)
      exact lw_ret hx hb hret hlocks (by rw [← hb]; exact hd)
    · intro H locs k sl ws pc ls x hQ hW hk hs hd hr
      rw [n1] at hr
      cases hr
    · intro H locs k sl ws pc ls hQ hW hk hs hd hr
      rw [n1] at hr
      cases hr
    · intro H locs k sl ws pc ls rest x q ce hQ
      cases hQ
    · intro pc t H locs k sl ls rest x q ce hh
      rw [hhnd] at hh
      cases hh
    · intro H locs k sl ws pc ix ic ls own x hQ
      cases hQ
  have hl := lv_entry [Value.ref b] (n := 7) (Nat.le_of_ble_eq_true rfl)
  rw [lg_entry_eq]
  refine am_simAll htr (w0_safe (X := X) (t1 := t1) (t2 := t2) (t3 := t3) (t4 := t4) hL) p e room_1 s m #[Value.ref b] below meth c _ _ s.heap [] _ Cx Ex ?_ ⟨fun k q hq => (by simp at hq), ⟨fun i j p q hi => (by simp at hi), fun k q hq => (by simp at hq)⟩, va_S.rf⟩
  rw [n6]
  exact hl
