/-! EVERY METHOD'S CONTRACT, by the abstract machine. -/
/-- a contract out of a walk of the body, for a method that no entry overrides, whatever its class is called -/
theorem am_ofW {l : Launch} {y : MethodName} {ws ws' : List Cond} {rm : Room} {Pc : Array Value → State → Prop} {Qc : Array Value → State → Outcome → State → Prop} {XC : String → State → State → Prop} {mc ms : Nat} {free : Addr → Prop} {cc : ByteArray} {maxL : Nat} {ret : Option FieldType}
    (hy : plainFor y = true) (hw : ws = Cond.code y cc maxL ret :: ws')
    (body : ∀ p e s m args below meth c s₁, BodyLoose p l y (headSpec ws rm) cc maxL ret e s m args below meth c s₁ → c.maxLocals = maxL → (∀ x ∈ c.exceptionTable.toList, False) → Pc args s →
      W p l e (headSpec ws rm).room s m args below meth c s.heap [] 0 0 (vx_MQ below Qc XC args s mc ms free) (entryFrame m args maxL)) : vx_Met l y ws rm Pc Qc XC mc ms free := by
  subst hw
  have hcode : ∀ (args : Array Value) (s : State), (headSpec (Cond.code y cc maxL ret :: ws') rm).pre.before args s = true → (Cond.code y cc maxL ret).before args s = true := fun args s h => atoms_spec (ws := Cond.code y cc maxL ret :: ws') h _ List.mem_cons_self
  refine MetFree.of_bodySF (code := cc) (maxLocals := maxL) (ret := ret) hy (fun args s m h hn => ?_) (fun p e s m args below meth c s₁ B hml hP _ => ?_)
  · obtain ⟨me, co, g1, g2, g3, g4, g5, g6, -, -⟩ := Cond.code_spec hn (hcode args s h)
    exact ⟨me, co, g1, g2, g3, g4, g5, g6⟩
  · have hnone : ∀ x ∈ c.exceptionTable.toList, False := by
      obtain ⟨me, co, g1, g2, -, -, -, -, g7, -⟩ := Cond.code_spec B.named (hcode args s B.pre)
      cases Option.some.inj (g1.symm.trans B.method)
      cases Option.some.inj (g2.symm.trans (Stand.of_body B).code)
      intro x hx
      rw [Array.isEmpty_iff.mp g7] at hx
      cases hx
    obtain ⟨t, a1, o, b1, b2, b3⟩ := body p e s m args below meth c s₁ B hml hnone hP s₁ (by rw [B.state]; rfl) (Stand.of_body B)
    exact ⟨t, o, a1, b1, b2, b3⟩
theorem am_cov {x : ExceptionTableEntry} {pc : Nat} : covers x pc = (decide (x.startPc ≤ pc) && decide (pc < x.endPc)) := rfl
/-- the rows of the class file's table and the table's -/
theorem am_tabs {T : List ExceptionTableEntry} {j : am_J} {h : List (Nat × Nat × Nat × Nat)} (hT : T.map (fun x => (x.startPc, x.endPc, x.handlerPc, x.catchType)) = j.2.2.2) (hh : am_hOk j h = true) : T.length = h.length ∧
    ∀ (i : Nat) (x : ExceptionTableEntry) (y : Nat × Nat × Nat × Nat), T[i]? = some x → h[i]? = some y → x.startPc = y.1 ∧ x.endPc = y.2.1 ∧ x.handlerPc = y.2.2.1 ∧ y.2.2.2 < 4 ∧ x.catchType ≠ 0 ∧ Cond.classLink j.1.cls x.catchType (am_X y.2.2.2) ∈ lw_tbl := by
  simp only [am_hOk, Bool.and_eq_true, decide_eq_true_eq] at hh
  obtain ⟨h1, h2⟩ := hh
  refine ⟨by rw [← h1, ← hT, List.length_map], fun i x y hx hy => ?_⟩
  have hj : j.2.2.2[i]? = some (x.startPc, x.endPc, x.handlerPc, x.catchType) := by rw [← hT, List.getElem?_map, hx]; rfl
  have hz : (j.2.2.2.zip h)[i]? = some ((x.startPc, x.endPc, x.handlerPc, x.catchType), y) := by
    rw [List.getElem?_zip_eq_some]; exact ⟨hj, hy⟩
  have h9 := List.all_eq_true.mp h2 _ (List.mem_of_getElem? hz)
  simp only [Bool.and_eq_true, decide_eq_true_eq] at h9
  exact h9
section AMC
variable {p : Program} {l : Launch} {e : Env} {R : Room} {s : State} {mi : MethodId} {args : Array Value} {below : List Frame} {meth : Method} {c : Code} {H : Heap} {locs : List Loc} {k sl : Nat} {QQ : State → Prop}
variable {D : va_G} {X : Nat → ClassId} {O : am_O} {z m : Nat} {j : am_J}
theorem am_hin (hm : m ≤ am_LAW) (hj : am_M[m]? = some j) : am_hOk j (am_H.getD m []) = true := by
  obtain ⟨l1, l2, l3, l4, l5, l6, l7⟩ := am_mlen
  have g1 : am_H[m]? = some (am_H.getD m []) := am_get (by omega) _
  refine am_hw (j, am_H.getD m []) (List.mem_of_getElem? (i := m) ?_)
  rw [List.getElem?_zip_eq_some]
  exact ⟨hj, g1⟩
set_option maxHeartbeats 4000000 in
theorem am_caught (hm : m ≤ am_LAW) (hj : am_M[m]? = some j) (hown : s.vm.findClass j.1.cls = some mi.cls) (hVm : am_Vm D X s) (hT : c.exceptionTable.toList.map (fun x => (x.startPc, x.endPc, x.handlerPc, x.catchType)) = j.2.2.2)
    {pc t : Nat} {ls : Array Slot} {rest : List Value} {x : Nat} {q : Addr} {ce : Cell} (hh : am_hnd m pc x = some t) (hx4 : x < 4) (hce : H[q]? = some ce) (hcv : ce.vm = .none) (hcl : s.vm.findClass (am_X x) = some ce.cls)
    (kk : W p l e R s mi args below meth c H locs k sl QQ (F0 mi t ls [.ref q])) : vx_W p l e R s mi args below meth c H locs k sl QQ (F0 mi pc ls rest) q := by
  obtain ⟨hlen, htab⟩ := am_tabs hT (am_hin hm hj)
  simp only [am_hnd, Option.map_eq_some_iff] at hh
  obtain ⟨y, hy, rfl⟩ := hh
  obtain ⟨hp, as, bs, hsp, hno⟩ := List.find?_eq_some_iff_append.mp hy
  have hi : (am_H.getD m [])[as.length]? = some y := by rw [hsp]; simp
  have hlt : as.length < c.exceptionTable.toList.length := by rw [hlen, hsp]; simp
  obtain ⟨w, hw⟩ : ∃ w, c.exceptionTable.toList[as.length]? = some w := ⟨_, List.getElem?_eq_getElem hlt⟩
  obtain ⟨f1, f2, f3, f4, f5, f6⟩ := htab _ _ _ hw hi
  simp only [Bool.and_eq_true, decide_eq_true_eq, beq_iff_eq] at hp
  have hx9 : y.2.2.2 = x := hp.2.2
  have hcov : covers w pc = true := by
    rw [am_cov, f1, f2]
    simp [hp.1, hp.2.1]
  refine vx_catch (name := am_X y.2.2.2) hown (c.exceptionTable.toList.take as.length) w (c.exceptionTable.toList.drop (as.length + 1)) ?_ ?_ hcov f5 (am_word hVm args f6 rfl) ?_ hce hcv hcl (by rw [f3]; exact kk)
  · rw [List.getElem?_eq_getElem hlt] at hw
    cases Option.some.inj hw
    rw [← List.drop_eq_getElem_cons hlt, List.take_append_drop]
  · intro w2 hw2
    obtain ⟨i, hi2⟩ := List.getElem?_of_mem hw2
    have hil : i < as.length := by
      have := (List.getElem?_eq_some_iff.mp hi2).1
      rw [List.length_take] at this
      omega
    rw [List.getElem?_take_of_lt hil] at hi2
    have hih : (am_H.getD m [])[i]? = some as[i] := by rw [hsp, List.getElem?_append_left hil]; exact List.getElem?_eq_getElem hil
    obtain ⟨g1, g2, g3, g4, g5, g6⟩ := htab _ _ _ hi2 hih
    have h8 := hno as[i] (List.getElem_mem hil)
    by_cases hc : covers w2 pc = false
    · exact Or.inl hc
    · right
      refine ⟨g5, am_X as[i].2.2.2, am_word hVm args g6 rfl, ?_⟩
      refine hVm.2.2.2.2.2 x as[i].2.2.2 hx4 g4 (fun he => ?_)
      rw [am_cov, g1, g2, Bool.not_eq_false, Bool.and_eq_true] at hc
      simp [hc.1, hc.2, ← he] at h8
  · rw [hx9]
    exact va_Nw.use rfl (hVm.2.2.1 _ (am_exw x hx4).2.1 rfl)
theorem am_passed (hm : m ≤ am_LAW) (hj : am_M[m]? = some j) (hVm : am_Vm D X s) (hT : c.exceptionTable.toList.map (fun x => (x.startPc, x.endPc, x.handlerPc, x.catchType)) = j.2.2.2)
    {pc x : Nat} (hh : am_hnd m pc x = none) (hx4 : x < 4) : ∀ w ∈ c.exceptionTable.toList, covers w pc = false ∨ (w.catchType ≠ 0 ∧ ∃ nm : String, (Cond.classLink j.1.cls w.catchType nm).before args s = true ∧ va_Nc (am_X x) nm s) := by
  obtain ⟨hlen, htab⟩ := am_tabs hT (am_hin hm hj)
  simp only [am_hnd, Option.map_eq_none_iff, List.find?_eq_none] at hh
  intro w hw
  obtain ⟨i, hi⟩ := List.getElem?_of_mem hw
  have hil : i < (am_H.getD m []).length := by rw [← hlen]; exact (List.getElem?_eq_some_iff.mp hi).1
  have hih := List.getElem?_eq_getElem hil
  obtain ⟨g1, g2, g3, g4, g5, g6⟩ := htab _ _ _ hi hih
  have h8 := hh _ (List.getElem_mem hil)
  by_cases hc : covers w pc = false
  · exact Or.inl hc
  · right
    refine ⟨g5, _, am_word hVm args g6 rfl, ?_⟩
    refine hVm.2.2.2.2.2 x _ hx4 g4 (fun he => ?_)
    rw [am_cov, g1, g2, Bool.not_eq_false, Bool.and_eq_true] at hc
    have h1 := of_decide_eq_true hc.1
    have h2 := of_decide_eq_true hc.2
    exact h8 (by rw [decide_eq_true h1, decide_eq_true h2, ← he]; simp)
end AMC
set_option maxHeartbeats 4000000 in
set_option maxRecDepth 100000 in
/-- what a method owes at its ends -/
theorem am_ends {p : Program} {l : Launch} {e : Env} {R : Room} {s : State} {mi : MethodId} {args : Array Value} {below : List Frame} {meth : Method} {c : Code} {D : va_G} {X : Nat → ClassId} {O : am_O} {z m : Nat} {j : am_J} {Q : am_Q}
    (Cx : am_Cx p l R s mi meth c m j D X O z) (hm : m < am_LAW) (hret : meth.sig.returnType = j.2.2.1) (hT : c.exceptionTable.toList.map (fun x => (x.startPc, x.endPc, x.handlerPc, x.catchType)) = j.2.2.2) :
    am_Ex p l e R s mi args below meth c D z m Q (vx_MQ below
    (fun _ st o t => ∃ (v : Option Value) (ws2 : va_W), o = .returned v ∧ Q (.inl v) ws2 ∧ va_P D vwCl ws2 t.heap ∧ va_D (am_A z) ws2 ∧ va_F (am_A z) st t)
    (fun E st t => ∃ (x : Nat) (ws2 : va_W), x < 4 ∧ E = am_X x ∧ Q (.inr x) ws2 ∧ va_P D vwCl ws2 t.heap ∧ va_D (am_A z) ws2 ∧ va_F (am_A z) st t) args s (am_mc m) (am_ms m) (am_A z)) := by
  obtain ⟨hx, hb, hml, hown, hlocks, hname, hVm, hOld, hz, ⟨hRf, hRl, hRc, hRs⟩, hM, htr, hdec, hlnk⟩ := id Cx
  obtain ⟨j2, st, ini, hj2, hnm, hms2, hmw, hpl, hne1, hne2, hdesc, hrk, hcls, hii⟩ := am_mws hm
  cases Option.some.inj (hM.symm.trans hj2)
  refine ⟨?_, ?_, ?_, ?_, ?_, ?_⟩
  · intro H locs k sl ws pc ls x hQ hW hk hs hd hr
    obtain ⟨hP, hD, hS⟩ := hW
    refine W.widen hk hs (vx_ret ?_)
    rcases hr with hr | ⟨hr, hx01⟩
    · have h1 : meth.sig.returnType = some .int := by
        rw [hret]
        rw [hrk] at hr
        split at hr <;> first | assumption | (simp at hr)
      exact W.iret hx rfl h1 (fun t ht hw => ⟨_, ws, rfl, hQ, by rw [ht]; exact hP, hD, hS.F ht⟩) hS.2.2 hd hlocks
    · have h1 : meth.sig.returnType = some .boolean := by
        rw [hret]
        rw [hrk] at hr
        split at hr <;> first | assumption | (simp at hr)
      refine W.zret hx rfl h1 ?_ (fun t ht hw => ⟨_, ws, rfl, hQ, by rw [ht]; exact hP, hD, hS.F ht⟩) hS.2.2 hd hlocks
      rcases hx01 with rfl | rfl <;> rfl
  · intro H locs k sl ws pc ls x hQ hW hk hs hd hr
    obtain ⟨hP, hD, hS⟩ := hW
    refine W.widen hk hs (vx_ret ?_)
    have h1 : ∃ rt, meth.sig.returnType = some rt ∧ ((∃ n, rt = .object n) ∨ ∃ t, rt = .array t) := by
      rw [hret]
      rw [hrk] at hr
      split at hr <;> first | (simp at hr; done) | exact ⟨_, by assumption, Or.inl ⟨_, rfl⟩⟩ | exact ⟨_, by assumption, Or.inr ⟨_, rfl⟩⟩
    obtain ⟨rt, h1, h2⟩ := h1
    refine W.aret hx rfl h1 h2 ?_ (fun t ht hw => ⟨_, ws, rfl, hQ, by rw [ht]; exact hP, hD, hS.F ht⟩) hS.2.2 hd hlocks
    cases x with
    | none => exact Or.inl rfl
    | some a => exact Or.inr ⟨a, rfl⟩
  · intro H locs k sl ws pc ls hQ hW hk hs hd hr
    obtain ⟨hP, hD, hS⟩ := hW
    refine W.widen hk hs (vx_ret ?_)
    have h1 : meth.sig.returnType = none := by
      rw [hret]
      rw [hrk] at hr
      split at hr <;> first | assumption | (simp at hr)
    exact W.vret hx rfl h1 (fun t ht hw => ⟨_, ws, rfl, hQ, by rw [ht]; exact hP, hD, hS.F ht⟩) hS.2.2 hd hlocks
  · intro H locs k sl ws pc ls rest x q ce hQ hW hk hs hx4 hce hcv hcl hh
    obtain ⟨hP, hD, hS⟩ := hW
    exact vx_outP hown hlocks (am_passed (Nat.le_of_lt hm) hM hVm hT hh hx4) hce hcv hcl (fun t ht hw => ⟨x, ws, hx4, rfl, hQ, by rw [ht]; exact hP, hD, hS.F ht⟩) hS.2.2 hk hs
  · intro pc t H locs k sl ls rest x q ce hh hx4 hce hcv hcl kk
    exact am_caught (Nat.le_of_lt hm) hM hown hVm hT hh hx4 hce hcv hcl kk
  · intro H locs k sl ws pc ix ic ls own x hQ hW hk hs hx4 hF hLc hH hls hown2 hth hlk d0 d3 d4 d7
    obtain ⟨hP, hD, hS⟩ := hW
    have hT0 : c.exceptionTable.toList = [] := by
      have h1 := (am_tabs hT (am_hin (Nat.le_of_lt hm) hM)).1
      rw [hH] at h1
      exact List.length_eq_zero_iff.mp h1
    obtain ⟨w1, w2, w3⟩ := am_exw x hx4
    refine vx_throw0 (names := am_thrN) hx rfl htr hown2 w3 (by decide) hlk (am_word hVm args (List.mem_filter.mp w1).1 (List.mem_filter.mp w1).2) ?_ ?_ hOld.2.2.2.1 hOld.2.2.2.2.1 hS hls d0 d3 d4 d7 (by rw [hT0]; intro y hy; cases hy) ?_ ?_ (Nat.le_trans hk hRc) (Nat.le_trans hs hRs) hlocks ?_ hS.2.2 hk hs
    · intro w hw
      obtain ⟨a1, a2⟩ := am_thw _ hth w hw
      rw [Bool.or_eq_true] at a2
      rcases a2 with a2 | a2
      · exact am_word hVm args a1 a2
      · refine va_Nw.use ?_ (hVm.2.2.1 w a1 a2)
        cases w <;> first | rfl | (simp [am_ngw] at a2)
    · intro w hw
      rcases List.mem_cons.mp hw with rfl | hw
      · rfl
      · rcases List.mem_cons.mp hw with rfl | hw
        · rfl
        · exact am_thg _ hth w hw
    · show 2 + 3 < R.frames
      omega
    · show 0 + (13 * (2 + 1) + 42) ≤ R.locals
      omega
    · intro t hw hsz hkeep
      have hS2 : va_S (am_A z) s.heap t.heap locs := ⟨Nat.le_trans hS.1 hsz, fun q h1 h2 => by rw [hkeep q (Nat.lt_of_lt_of_le h1 hS.1)]; exact hS.2.1 q h1 h2, hS.2.2⟩
      refine ⟨x, ws, hx4, rfl, hQ, va_P.kept hP (fun i y hy => hkeep _ ?_), hD, hS2.F rfl⟩
      exact va_at.lt (hP i y hy)
/-- what the simulation says of a place -/
def am_Sm (l : Launch) (D : va_G) (X : Nat → ClassId) (O : am_O) (z : Nat) : am_P := fun m pc lo st k sl ws Q => ∀ (p : Program) (e : Env) (R : Room) (s : State) (mi : MethodId) (args : Array Value) (below : List Frame) (meth : Method) (c : Code) (QQ : State → Prop) (j : am_J) (H : Heap) (locs : List Loc) (ls : Array Slot),
  am_Cx p l R s mi meth c m j D X O z → am_Ex p l e R s mi args below meth c D z m Q QQ → lv_has ls (am_ml m) lo → am_Wd D z s ws H locs → W p l e R s mi args below meth c H locs k sl QQ (F0 mi pc ls st)
set_option maxHeartbeats 4000000 in
set_option maxRecDepth 100000 in
theorem am_cnOf {l : Launch} {D : va_G} {X : Nat → ClassId} {O : am_O} {z m : Nat} {as : List Value} {ws : va_W} {Q : am_Q} (htr : l.stackTraces = false) (hS : am_Sm l D X O z m 0 (lv_args 0 as) [] 0 0 ws Q) : am_Cn l D X O z m as ws Q := by
  intro j hm hj hsl
  obtain ⟨j2, st, ini, hj2, hnm, hms2, hmw, hpl, hne1, hne2, hdesc, hrk, hcls, hii⟩ := am_mws hm
  cases Option.some.inj (hj.symm.trans hj2)
  have hdl := am_dl hm hj
  simp only [am_plN, Bool.and_eq_true, Bool.or_eq_true, decide_eq_true_eq] at hpl
  obtain ⟨hpl1, hpl2⟩ := hpl
  by_cases h0 : j.2.2.2 = []
  · rw [if_pos h0]
    refine am_ofW (cc := j.2.1) (maxL := am_ml m) (ret := j.2.2.1) hpl1 rfl ?_
    intro p e s mi args below meth c s₁ B hml htab hPc
    obtain ⟨rfl, hVm, hOld, hz, hP, hD⟩ := hPc
    have hT0 : c.exceptionTable.toList = [] := List.eq_nil_iff_forall_not_mem.mpr (fun y hy => htab y hy)
    have Cx : am_Cx p l (am_rm m) s mi meth c m j D X O z := ⟨B.exec, B.bytes, hml, findClass_of_methodNamed B.named, B.notSynchronized, (name_of_methodNamed B.named B.method).1, hVm, hOld, hz, ⟨Nat.le_refl _, Nat.le_refl _, Nat.le_refl _, Nat.le_refl _⟩, hj, htr, hdl.1, hdl.2⟩
    have Ex := am_ends (e := e) (args := as.toArray) (below := below) (Q := Q) Cx hm B.returns (by rw [hT0, h0]; rfl)
    have hl := lv_entry as (n := am_ml m) hsl
    rw [lg_entry_eq]
    exact hS _ _ _ _ _ _ _ _ _ _ _ _ _ _ Cx Ex hl ⟨hP, hD, va_S.rf⟩
  · rw [if_neg h0]
    refine vx_ofWH (cc := j.2.1) (maxL := am_ml m) (ret := j.2.2.1) (hh := j.2.2.2) (hpl2.resolve_left h0) rfl ?_
    intro p e s mi args below meth c s₁ B hml hPc
    obtain ⟨rfl, hVm, hOld, hz, hP, hD⟩ := hPc
    have hT : c.exceptionTable.toList.map (fun x => (x.startPc, x.endPc, x.handlerPc, x.catchType)) = j.2.2.2 := by
      obtain ⟨m9, meth9, c9, hn9, h1, h2, h3, h4, h5, -⟩ := Cond.codeWith_spec (atoms_spec (ws := [Cond.codeWith j.1 j.2.1 (am_ml m) j.2.2.1 j.2.2.2]) B.pre _ List.mem_cons_self)
      cases Option.some.inj (hn9.symm.trans B.named)
      cases Option.some.inj (h1.symm.trans B.method)
      have hc : meth.code = some c := by
        have h := B.here.code
        rw [State.code?_eq, B.method₁] at h
        exact h
      cases Option.some.inj (h2.symm.trans hc)
      exact h5
    have Cx : am_Cx p l (am_rm m) s mi meth c m j D X O z := ⟨B.exec, B.bytes, hml, findClass_of_methodNamed B.named, B.notSynchronized, (name_of_methodNamed B.named B.method).1, hVm, hOld, hz, ⟨Nat.le_refl _, Nat.le_refl _, Nat.le_refl _, Nat.le_refl _⟩, hj, htr, hdl.1, hdl.2⟩
    have Ex := am_ends (e := e) (args := as.toArray) (below := below) (Q := Q) Cx hm B.returns hT
    have hl := lv_entry as (n := am_ml m) hsl
    rw [lg_entry_eq]
    exact hS _ _ _ _ _ _ _ _ _ _ _ _ _ _ Cx Ex hl ⟨hP, hD, va_S.rf⟩
theorem am_simAll {l : Launch} {D : va_G} {X : Nat → ClassId} {O : am_O} {z : Nat} (htr : l.stackTraces = false) {m pc : Nat} {lo : am_L} {st : List Value} {k sl : Nat} {ws : va_W} {Q : am_Q} (h : am_Safe O X m pc lo st k sl ws Q) : am_Sm l D X O z m pc lo st k sl ws Q := by
  refine h _ ?_
  intro m pc lo st k sl ws Q hG p e R s mi args below meth c QQ j H locs ls Cx Ex hl hWd
  obtain ⟨K, Cl, i, len, ra, rb, rw0, cu, inf, h1, h2, h3, h4⟩ := hG
  refine am_body Cx Ex (K := K) (Cl := Cl) (fun pc lo st k sl ws H locs ls hk hl2 hW2 => h3 _ _ _ _ _ _ hk _ _ _ _ _ _ _ _ _ _ _ _ _ _ Cx Ex hl2 hW2) (fun m2 as ws2 Q' hc => ?_) pc lo st k sl ws H locs ls i len ra rb rw0 cu inf h1 h2 hl hWd
  obtain ⟨Q1, a, b⟩ := h4 _ _ _ _ hc
  exact ⟨Q1, am_cnOf htr a, b⟩
