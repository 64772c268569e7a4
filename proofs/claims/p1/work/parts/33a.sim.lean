/-! THE MACHINE FOLLOWS THE ABSTRACT ONE. -/
def am_A (z : Nat) : Nat → Prop := fun q => z ≤ q
/-- what lies in the cells of before: the statics, the old rows of ints, the empty row of objects -/
def am_Old (O : am_O) (z : Nat) (U : State) (H : Heap) : Prop :=
  (va_Z "TagRounds$Tag" "TO_MATCHING" "[I" (.ref (O 1).1) (am_A z) U H ∧ va_Z "TagRounds$Tag" "TO_OTHERS" "[I" (.ref (O 2).1) (am_A z) U H ∧ va_Z "java/util/ArrayList" "DEFAULTCAPACITY_EMPTY_ELEMENTDATA" "[Ljava/lang/Object;" (.ref (O 3).1) (am_A z) U H) ∧
  (∀ j, j < 3 → va_X (O j).1 (O j).2.1 (O j).2.2 U H ∧ (O j).1 < H.size ∧ ¬ am_A z (O j).1) ∧
  (∃ cell : Cell, H[(O 3).1]? = some cell ∧ U.isArrayOf cell (.object "java/lang/Object") ∧ cell.slots.size = 0 ∧ ¬ am_A z (O 3).1) ∧
  vx_Zq Bundle.tN "UNASSIGNED_STACK" Bundle.steD (am_A z) U H ∧ vx_Zq Bundle.tN "SUPPRESSED_SENTINEL" Bundle.listD (am_A z) U H ∧ va_Mi "[Ljava/lang/Object;" (O 4).1 U
/-- what the tables say of a state -/
def am_Vm (D : va_G) (X : Nat → ClassId) (U : State) : Prop :=
  va_K D vwCl (am_tys X) U ∧ (∀ w ∈ lw_tbl, goodWord w = true → w.before #[] U = true) ∧ (∀ w ∈ lw_tbl, am_ngw w = true → va_Nw w U) ∧ va_AO "TagRounds$Reader" U ∧ va_AO "java/lang/Object" U ∧
  (∀ i j, i < 4 → j < 4 → i ≠ j → va_Nc (am_X i) (am_X j) U)
theorem am_Old.moved {O : am_O} {z : Nat} {u U : State} {H : Heap} (hvm : u.vm.Alike U.vm) (h : am_Old O z u H) : am_Old O z U H := by
  obtain ⟨⟨a1, a2, a3⟩, b, ⟨cell, c1, c2, c3, c4⟩, d1, d2, d3⟩ := h
  exact ⟨⟨va_Z.moved hvm a1, va_Z.moved hvm a2, va_Z.moved hvm a3⟩, fun j hj => ⟨va_X.moved hvm (b j hj).1, (b j hj).2⟩, ⟨cell, c1, State.isArrayOf_alike hvm c2, c3, c4⟩, vx_Zq.moved hvm d1, vx_Zq.moved hvm d2, va_Mi.moved hvm d3⟩
theorem am_Old.kept {O : am_O} {z : Nat} {U : State} {H H1 : Heap} (h : am_Old O z U H) (hz : H.size ≤ H1.size) (hq : ∀ a : Nat, a < H.size → ¬ am_A z a → H1[a]? = H[a]?) : am_Old O z U H1 := by
  obtain ⟨⟨a1, a2, a3⟩, b, ⟨cell, c1, c2, c3, c4⟩, d1, d2, d3⟩ := h
  exact ⟨⟨va_Z.kept a1 hq, va_Z.kept a2 hq, va_Z.kept a3 hq⟩, fun j hj => ⟨va_X.kept (b j hj).1 (hq _ (b j hj).2.1 (b j hj).2.2), Nat.lt_of_lt_of_le (b j hj).2.1 hz, (b j hj).2.2⟩,
    ⟨cell, by rw [hq _ (Array.getElem?_eq_some_iff.mp c1).1 c4]; exact c1, c2, c3, c4⟩, vx_Zq.kept d1 hq, vx_Zq.kept d2 hq, d3⟩
theorem am_Vm.warm {D : va_G} {X : Nat → ClassId} {s U : State} (hW : s.WarmedH U.vm) (h : am_Vm D X s) : am_Vm D X U := by
  obtain ⟨h1, h2, h3, h4, h5, h6⟩ := h
  refine ⟨va_K.moved hW.alike h1, fun w hw hg => word_at hW (good_of_word hg) (h2 w hw hg), fun w hw hg => ?_, va_AO.moved hW.alike h4, va_AO.moved hW.alike h5, fun i j hi hj hn => va_Nc.moved hW.alike (h6 i j hi hj hn)⟩
  have h9 := h3 w hw hg
  cases w <;> first | exact va_Nw.warmC hW h9 | exact va_Nw.warmD hW h9 | exact va_Nw.warmM hW h9 | (simp [am_ngw] at hg)
/-- the world of the method: its cells, and what it has written since its start -/
def am_Wd (D : va_G) (z : Nat) (s : State) (ws : va_W) (H : Heap) (locs : List Loc) : Prop := va_P D vwCl ws H ∧ va_D (am_A z) ws ∧ va_S (am_A z) s.heap H locs
/-- where a method stands: the machine, its code, its room -/
def am_Cx (p : Program) (l : Launch) (R : Room) (s : State) (mi : MethodId) (meth : Method) (c : Code) (m : Nat) (j : am_J) (D : va_G) (X : Nat → ClassId) (O : am_O) (z : Nat) : Prop :=
  p.tables.exec = Jvm.exec ∧ c.code = j.2.1 ∧ c.maxLocals = am_ml m ∧ s.vm.findClass j.1.cls = some mi.cls ∧ meth.locks = false ∧ meth.name = j.1.name ∧ am_Vm D X s ∧ am_Old O z s s.heap ∧ z ≤ s.heap.size ∧
  (am_F m ≤ R.frames ∧ am_Lc m ≤ R.locals ∧ am_mc m ≤ R.cells ∧ am_ms m ≤ R.slots) ∧ am_M[m]? = some j ∧ l.stackTraces = false ∧
  (∀ e ∈ am_code m, am_deOk j.2.1 e = true) ∧ (∀ e ∈ am_code m, am_ok j.1 m e = true)
/-- what is owed at the method's ends -/
def am_Ex (p : Program) (l : Launch) (e : Env) (R : Room) (s : State) (mi : MethodId) (args : Array Value) (below : List Frame) (meth : Method) (c : Code) (D : va_G) (z m : Nat) (Q : am_Q) (QQ : State → Prop) : Prop :=
  (∀ (H : Heap) (locs : List Loc) (k sl : Nat) (ws : va_W) (pc : Nat) (ls : Array Slot) (x : Int32), Q (.inl (some (.int x))) ws → am_Wd D z s ws H locs → k ≤ am_mc m → sl ≤ am_ms m → decode c.code pc = .ok (.ireturn, 1) → (am_rk m = 1 ∨ am_rk m = 2 ∧ (x = 0 ∨ x = 1)) → W p l e R s mi args below meth c H locs k sl QQ (F0 mi pc ls [.int x])) ∧
  (∀ (H : Heap) (locs : List Loc) (k sl : Nat) (ws : va_W) (pc : Nat) (ls : Array Slot) (x : Option Nat), Q (.inl (some (va_rf x))) ws → am_Wd D z s ws H locs → k ≤ am_mc m → sl ≤ am_ms m → decode c.code pc = .ok (.areturn, 1) → am_rk m = 3 → W p l e R s mi args below meth c H locs k sl QQ (F0 mi pc ls [va_rf x])) ∧
  (∀ (H : Heap) (locs : List Loc) (k sl : Nat) (ws : va_W) (pc : Nat) (ls : Array Slot), Q (.inl none) ws → am_Wd D z s ws H locs → k ≤ am_mc m → sl ≤ am_ms m → decode c.code pc = .ok (.return_, 1) → am_rk m = 0 → W p l e R s mi args below meth c H locs k sl QQ (F0 mi pc ls [])) ∧
  (∀ (H : Heap) (locs : List Loc) (k sl : Nat) (ws : va_W) (pc : Nat) (ls : Array Slot) (rest : List Value) (x : Nat) (q : Addr) (ce : Cell), Q (.inr x) ws → am_Wd D z s ws H locs → k ≤ am_mc m → sl ≤ am_ms m → x < 4 → H[q]? = some ce → ce.vm = .none → s.vm.findClass (am_X x) = some ce.cls → am_hnd m pc x = none → vx_W p l e R s mi args below meth c H locs k sl QQ (F0 mi pc ls rest) q) ∧
  (∀ (pc t : Nat) (H : Heap) (locs : List Loc) (k sl : Nat) (ls : Array Slot) (rest : List Value) (x : Nat) (q : Addr) (ce : Cell), am_hnd m pc x = some t → x < 4 → H[q]? = some ce → ce.vm = .none → s.vm.findClass (am_X x) = some ce.cls → W p l e R s mi args below meth c H locs k sl QQ (F0 mi t ls [.ref q]) → vx_W p l e R s mi args below meth c H locs k sl QQ (F0 mi pc ls rest) q) ∧
  (∀ (H : Heap) (locs : List Loc) (k sl : Nat) (ws : va_W) (pc ix ic : Nat) (ls : Array Slot) (own : String) (x : Nat), Q (.inr x) ws → am_Wd D z s ws H locs → k + 1 ≤ am_mc m → sl + 6 ≤ am_ms m → x < 4 → 5 < am_F m → 81 ≤ am_Lc m → am_H.getD m [] = [] → ls.size = c.maxLocals → s.vm.findClass own = some mi.cls → (own, ic, x) ∈ am_TH → (Cond.classLink own ix (am_X x)).before args s = true →
    decode c.code pc = .ok (.new ix, 3) → decode c.code (pc + 3) = .ok (.dup, 1) → decode c.code (pc + 4) = .ok (.invokespecial ic, 3) → decode c.code (pc + 7) = .ok (.athrow, 1) → W p l e R s mi args below meth c H locs k sl QQ (F0 mi pc ls []))
def am_rm (m : Nat) : Room := { frames := am_F m, cells := am_mc m, slots := am_ms m, locals := am_Lc m }
/-- the contract of a call of method m -/
def am_Cn (l : Launch) (D : va_G) (X : Nat → ClassId) (O : am_O) (z m : Nat) (as : List Value) (ws : va_W) (Q : am_Q) : Prop := ∀ (j : am_J), m < am_LAW → am_M[m]? = some j → (lg_sl as).length ≤ am_ml m →
  vx_Met l j.1 [if j.2.2.2 = [] then .code j.1 j.2.1 (am_ml m) j.2.2.1 else .codeWith j.1 j.2.1 (am_ml m) j.2.2.1 j.2.2.2] (am_rm m)
    (va_Pc as (fun U => am_Vm D X U ∧ am_Old O z U U.heap ∧ z ≤ U.heap.size ∧ va_P D vwCl ws U.heap ∧ va_D (am_A z) ws))
    (fun _ st o t => ∃ (v : Option Value) (ws2 : va_W), o = .returned v ∧ Q (.inl v) ws2 ∧ va_P D vwCl ws2 t.heap ∧ va_D (am_A z) ws2 ∧ va_F (am_A z) st t)
    (fun E st t => ∃ (x : Nat) (ws2 : va_W), x < 4 ∧ E = am_X x ∧ Q (.inr x) ws2 ∧ va_P D vwCl ws2 t.heap ∧ va_D (am_A z) ws2 ∧ va_F (am_A z) st t)
    (am_mc m) (am_ms m) (am_A z)
theorem am_word {D : va_G} {X : Nat → ClassId} {s : State} (h : am_Vm D X s) {w : Cond} (args : Array Value) (hw : w ∈ lw_tbl) (hg : goodWord w = true) : w.before args s = true := word_at (State.WarmedH.refl s) (good_of_word hg) (h.2.1 w hw hg)
section AMS
variable {p : Program} {l : Launch} {e : Env} {R : Room} {s : State} {mi : MethodId} {args : Array Value} {below : List Frame} {meth : Method} {c : Code} {H : Heap} {locs : List Loc} {k sl : Nat} {QQ : State → Prop}
variable {D : va_G} {X : Nat → ClassId} {O : am_O} {z : Nat}
/-- behind a call, by the callee's contract -/
theorem am_run {Q' : am_Q} {mc ms pc : Nat} {ls : Array Slot} {st rest : List Value} {a : Array Value} (hz : z ≤ s.heap.size)
    (hr : vx_Run p l e R s mi args below meth c H locs k sl mc ms (F0 mi pc ls st) rest
      ((fun (_ : Array Value) (st : State) (o : Outcome) (t : State) => ∃ (v : Option Value) (ws2 : va_W), o = .returned v ∧ Q' (.inl v) ws2 ∧ va_P D vwCl ws2 t.heap ∧ va_D (am_A z) ws2 ∧ va_F (am_A z) st t) a)
      (fun E st t => ∃ (x : Nat) (ws2 : va_W), x < 4 ∧ E = am_X x ∧ Q' (.inr x) ws2 ∧ va_P D vwCl ws2 t.heap ∧ va_D (am_A z) ws2 ∧ va_F (am_A z) st t) (am_A z))
    (hS : va_S (am_A z) s.heap H locs)
    (kk : ∀ (v : Option Value) (ws2 : va_W) (H1 : Heap) (locs1 : List Loc), Q' (.inl v) ws2 → am_Wd D z s ws2 H1 locs1 → W p l e R s mi args below meth c H1 locs1 (k + mc) (sl + ms) QQ (F0 mi (pc + 3) ls (v.toList ++ rest)))
    (kx : ∀ (x : Nat) (ws2 : va_W) (H1 : Heap) (locs1 : List Loc) (q : Addr) (ce : Cell), x < 4 → Q' (.inr x) ws2 → am_Wd D z s ws2 H1 locs1 → H1[q]? = some ce → ce.vm = .none → s.vm.findClass (am_X x) = some ce.cls → vx_W p l e R s mi args below meth c H1 locs1 (k + mc) (sl + ms) QQ (F0 mi pc ls rest) q) :
    W p l e R s mi args below meth c H locs k sl QQ (F0 mi pc ls st) := by
  intro T hT X9
  rcases hr T hT X9 with ⟨v, st₀, t, T', L, h0, X', hL, e1, e2, ⟨v2, ws2, hv, hq, hP, hD, hF⟩, go⟩ | ⟨q, st₀, t, T', L, E, ce, h0, X', hL, e1, e2, ⟨x, ws2, hx4, hE, hq, hP, hD, hF⟩, hce, hcv, hcl, go⟩
  · cases hv
    obtain ⟨-, -, k3⟩ := vx_keep (A0 := am_A z) (A1 := am_A z) (free := am_A z) h0 e1 hS (fun _ _ h => h) (fun _ h => h) hL hF
    obtain ⟨t2, a1, b1⟩ := kk v ws2 T'.heap (locs ++ L) hq ⟨by rw [e1]; exact hP, hD, k3⟩ T' rfl X'
    exact ⟨t2, go t2 a1, b1⟩
  · obtain ⟨-, -, k3⟩ := vx_keep (A0 := am_A z) (A1 := am_A z) (free := am_A z) h0 e1 hS (fun _ _ h => h) (fun _ h => h) hL hF
    subst hE
    obtain ⟨t2, a1, b1⟩ := kx x ws2 T'.heap (locs ++ L) q ce hx4 hq ⟨by rw [e1]; exact hP, hD, k3⟩ (by rw [e1]; exact hce) hcv hcl T' rfl X'
    exact ⟨t2, go.trans a1, b1⟩
theorem am_mem {ws : va_W} {q : Nat × va_E} (h : q ∈ ws) : ∃ i : Nat, ws[i]? = some q := List.getElem?_of_mem h
theorem am_lv {ls : Array Slot} {nL : Nat} {l : am_L} (h : lv_has ls nL l) {i : Nat} {v : Value} (hm : (i, v) ∈ l) : ls[i]? = some (.val v) := h.2.2 (i, v) hm
theorem am_freshP {ws : va_W} {q : Nat} {x : va_E} (h : va_D (am_A z) (ws ++ [(q, x)])) : am_fresh ws q := by
  intro y hy he
  obtain ⟨i, hi⟩ := am_mem hy
  have hlt := (List.getElem?_eq_some_iff.mp hi).1
  have h1 : (ws ++ [(q, x)])[i]? = some y := by rw [List.getElem?_append_left hlt]; exact hi
  have h2 : (ws ++ [(q, x)])[ws.length]? = some (q, x) := by simp
  have := h.1 i ws.length y (q, x) h1 h2 he
  omega
end AMS
theorem am_wl {D : va_G} {X : Nat → ClassId} {s : State} (hV : am_Vm D X s) (args : Array Value) {r : Nat} {w : Cond} (h : am_WL[r]? = some w) (hg : goodWord w = true) : w.before args s = true := am_word hV args (am_wlm h) hg
/-- a field's link: its word, and the name by which javac spells it -/
theorem am_fl {D : va_G} {X : Nat → ClassId} {s : State} (hV : am_Vm D X s) (args : Array Value) {r : Nat} {o rf : String} {ix ci k wi : Nat} (h : am_WF[r]? = some (o, ix, rf, ci, k, wi)) :
    vwCl[ci]? = some (am_cl ci) ∧ ci < 14 ∧ k < (am_cl ci).2.2 ∧ (Cond.fieldLink o ix rf ((am_cl ci).2.1 k).2.1 ((am_cl ci).2.1 k).2.2.1).before args s = true ∧
    (∀ x, s.fieldFound? ((am_cl ci).2.1 k).1 ((am_cl ci).2.1 k).2.1 ((am_cl ci).2.1 k).2.2.1 = some x → s.fieldFound? rf ((am_cl ci).2.1 k).2.1 ((am_cl ci).2.1 k).2.2.1 = some x) := by
  have h1 := am_wf_ok _ (List.mem_of_getElem? h)
  simp only [am_wfOk, Bool.and_eq_true, Bool.or_eq_true, decide_eq_true_eq] at h1
  obtain ⟨hw, hk, hc, hs⟩ := h1
  have hcl : vwCl[ci]? = some (am_cl ci) := by
    have : ci < vwCl.length := hc
    rw [List.getElem?_eq_getElem this]
    simp [am_cl, List.getD_eq_getElem?_getD, List.getElem?_eq_getElem this]
  refine ⟨hcl, hc, hk, am_word hV args (List.mem_of_getElem? hw) rfl, ?_⟩
  rcases hs with rfl | ⟨rfl, rfl, rfl⟩
  · exact fun x hx => hx
  · intro x hx
    have hsm : (Cond.sameField "java/util/ArrayList" "java/util/AbstractList" "modCount" "I").before args s = true := am_word hV args (List.mem_filter.mp am_same.1).1 rfl
    exact u_same hsm x hx
abbrev am_Pc (D : va_G) (X : Nat → ClassId) (O : am_O) (z : Nat) (as : List Value) (ws : va_W) : Array Value → State → Prop := va_Pc as (fun U => am_Vm D X U ∧ am_Old O z U U.heap ∧ z ≤ U.heap.size ∧ va_P D vwCl ws U.heap ∧ va_D (am_A z) ws)
theorem am_blind {D : va_G} {X : Nat → ClassId} {O : am_O} {z : Nat} {as : List Value} {ws : va_W} : FrameBlind (am_Pc D X O z as ws) := by
  intro a U g mk h
  obtain ⟨h0, h1, h2, h3⟩ := h
  exact ⟨h0, am_Vm.warm (s := U) (U := U.calling g mk a) (State.WarmedH.refl U) h1, am_Old.moved (u := U) (U := U.calling g mk a) (Vm.Alike.refl U.vm) h2, h3⟩
theorem am_pre {D : va_G} {X : Nat → ClassId} {O : am_O} {z : Nat} {s : State} {as : List Value} {ws : va_W} {H : Heap} {locs : List Loc} (hVm : am_Vm D X s) (hOld : am_Old O z s s.heap) (hz : z ≤ s.heap.size) (hW : am_Wd D z s ws H locs) :
    ∀ U : State, U.heap = H → s.WarmedH U.vm → am_Pc D X O z as ws as.toArray U := by
  intro U hU hv
  obtain ⟨hP, hD, hS⟩ := hW
  refine ⟨rfl, am_Vm.warm hv hVm, ?_, ?_, ?_, hD⟩
  · rw [hU]; exact am_Old.moved hv.alike (am_Old.kept hOld hS.1 hS.2.1)
  · rw [hU]; exact Nat.le_trans hz hS.1
  · rw [hU]; exact hP
set_option maxHeartbeats 4000000 in
set_option maxRecDepth 100000 in
/-- a call of method m2, by its contract -/
theorem am_crun {p : Program} {l : Launch} {e : Env} {R : Room} {s : State} {mi : MethodId} {args : Array Value} {below : List Frame} {meth : Method} {c : Code} {D : va_G} {X : Nat → ClassId} {O : am_O} {z m : Nat} {j : am_J} {H : Heap} {locs : List Loc} {k sl : Nat} {ws : va_W}
    (Cx : am_Cx p l R s mi meth c m j D X O z) (hWd : am_Wd D z s ws H locs) {pc m2 mode rw0 len cu inf : Nat} {i : Instr} (hi : (∃ ix, i = .invokespecial ix ∧ (mode = 2 ∨ mode = 3)) ∨ (∃ ix, i = .invokevirtual ix ∧ mode = 1) ∨ (∃ ix, i = .invokestatic ix ∧ (mode = 0 ∨ mode = 4)))
    (hok : am_ok j.1 m (pc, i, len, m2, mode, rw0, cu, inf) = true) {as rest : List Value} (hd : decode j.2.1 pc = .ok (i, 3)) {ls : Array Slot} (hls : ls.size = am_ml m) (has : as.length = am_na m2) (hsl : (lg_sl as).length ≤ am_ml m2) (hwt : am_wt rest ≤ 8)
    (hrv : mode = 1 → ∃ (a : Nat) (bs : List Value) (ci : Nat) (fs : List Value), as = .ref a :: bs ∧ (a, .inr (ci, fs)) ∈ ws ∧ am_ci m2 = ci) (hri : mode = 2 ∨ mode = 3 → ∃ (a : Nat) (bs : List Value), as = .ref a :: bs)
    (hk : k + am_mc m2 ≤ am_mc m) (hs2 : sl + am_ms m2 ≤ am_ms m) (hF : am_F m2 + 1 ≤ am_F m) (hLc : 8 + (am_ml m2 + 11) + am_Lc m2 ≤ am_Lc m) {Q' : am_Q} (hCn : am_Cn l D X O z m2 as ws Q') :
    vx_Run p l e R s mi args below meth c H locs k sl (am_mc m2) (am_ms m2) (F0 mi pc ls (as.reverse ++ rest)) rest
      ((fun (_ : Array Value) (st : State) (o : Outcome) (t : State) => ∃ (v : Option Value) (ws2 : va_W), o = .returned v ∧ Q' (.inl v) ws2 ∧ va_P D vwCl ws2 t.heap ∧ va_D (am_A z) ws2 ∧ va_F (am_A z) st t) as.toArray)
      (fun E st t => ∃ (x : Nat) (ws2 : va_W), x < 4 ∧ E = am_X x ∧ Q' (.inr x) ws2 ∧ va_P D vwCl ws2 t.heap ∧ va_D (am_A z) ws2 ∧ va_F (am_A z) st t) (am_A z) := by
  obtain ⟨hx, hb, hml, hown, hlocks, hname, hVm, hOld, hz, ⟨hRf, hRl, hRc, hRs⟩, hM, htr, hdec, hlnk⟩ := id Cx
  have hK : va_K D vwCl (am_tys X) s := hVm.1
  have hts : ∀ w ∈ lw_tbl.filter goodWord, w.before args s = true := fun w hw => am_word hVm args (List.mem_filter.mp hw).1 (List.mem_filter.mp hw).2
  have hkd : ∃ st ini noh, am_kd m2 st ini noh = true ∧ ((mode = 0 ∧ st = true ∧ ini = false ∧ noh = true) ∨ (mode = 4 ∧ st = true ∧ ini = false ∧ noh = false) ∨ (mode = 1 ∧ st = false ∧ ini = false ∧ noh = true) ∨ ((mode = 2 ∨ mode = 3) ∧ st = false ∧ ini = true ∧ noh = true)) ∧
      (mode ≠ 3 → ∃ ix, (Cond.methodLink j.1.cls ix (am_nm m2)).before args s = true ∧ (i = .invokespecial ix ∨ i = .invokevirtual ix ∨ i = .invokestatic ix)) ∧ (mode = 3 → ∃ ix, va_Nw (.methodLinkNest j.1.cls ix (am_nm m2) "TagRounds") s ∧ i = .invokespecial ix) := by
    rcases hi with ⟨ix, rfl, rfl | rfl⟩ | ⟨ix, rfl, rfl⟩ | ⟨ix, rfl, rfl | rfl⟩
    · simp only [am_ok, Bool.and_eq_true, decide_eq_true_eq] at hok
      simp at hok
      exact ⟨_, _, _, hok.2, by simp, fun _ => ⟨ix, am_wl hVm args hok.1 rfl, Or.inl rfl⟩, fun h => by simp at h⟩
    · simp only [am_ok, Bool.and_eq_true, decide_eq_true_eq] at hok
      simp at hok
      exact ⟨_, _, _, hok.2, by simp, fun h => by simp at h, fun _ => ⟨ix, hVm.2.2.1 _ (am_wlm hok.1) rfl, rfl⟩⟩
    · simp only [am_ok, Bool.and_eq_true, Bool.or_eq_true, decide_eq_true_eq] at hok
      simp at hok
      exact ⟨_, _, _, hok.2, by simp, fun _ => ⟨ix, am_wl hVm args hok.1 rfl, Or.inr (Or.inl rfl)⟩, fun h => by simp at h⟩
    · simp only [am_ok, Bool.and_eq_true, decide_eq_true_eq] at hok
      simp at hok
      exact ⟨_, _, _, hok.2, by simp, fun _ => ⟨ix, am_wl hVm args hok.1 rfl, Or.inr (Or.inr rfl)⟩, fun h => by simp at h⟩
    · simp only [am_ok, Bool.and_eq_true, decide_eq_true_eq] at hok
      simp at hok
      exact ⟨_, _, _, hok.2, by simp, fun _ => ⟨ix, am_wl hVm args hok.1 rfl, Or.inr (Or.inr rfl)⟩, fun h => by simp at h⟩
  obtain ⟨st, ini, noh, hkd, hmode, hl1, hl3⟩ := hkd
  simp only [am_kd, Bool.and_eq_true, decide_eq_true_eq] at hkd
  obtain ⟨hm2, hms, hnoh⟩ := hkd
  obtain ⟨j2, st2, ini2, hj2, hnm, hms2, hmw, hpl, hne1, hne2, hdesc, hrk, hcls, hii⟩ := am_mws hm2
  cases Option.some.inj (hms.symm.trans hms2)
  have hjd : am_M.getD m2 (⟨"", "", ""⟩, .empty, none, []) = j2 := by simp [List.getD_eq_getElem?_getD, hj2]
  rw [hjd] at hnoh
  rw [hnm] at hl1 hl3
  have hM2 := hCn j2 hm2 hj2 hsl
  obtain ⟨wc, wi, wr⟩ := am_in4 hmw
  have hini : (Cond.initialized j2.1.cls).before args s = true := am_word hVm args wi.1 wi.2
  have hcode := am_word hVm args wc.1 wc.2
  have hws : ∀ w ∈ [if j2.2.2.2 = [] then Cond.code j2.1 j2.2.1 (am_ml m2) j2.2.2.1 else Cond.codeWith j2.1 j2.2.1 (am_ml m2) j2.2.2.1 j2.2.2.2], ∀ (a' : Array Value) (U : State), s.WarmedH U.vm → w.before a' U = true := by
    intro w hw a' U hW
    rw [List.mem_singleton] at hw
    subst hw
    exact word_at hW (good_of_word wc.2) hcode
  have hroom : (am_rm m2).frames + 1 ≤ R.frames ∧ 8 + (am_ml m2 + 11) + (am_rm m2).locals ≤ R.locals := ⟨Nat.le_trans hF hRf, Nat.le_trans hLc hRl⟩
  have hlen : ∀ sig, parseMethodDescriptor j2.1.desc = some sig → am_na m2 = sig.parameters.length + (if st then 0 else 1) := by
    intro sig h; rw [h] at hdesc; exact (Option.some.inj hdesc).symm
  have hfit : k + am_mc m2 ≤ R.cells ∧ sl + am_ms m2 ≤ R.slots := ⟨Nat.le_trans hk hRc, Nat.le_trans hs2 hRs⟩
  have hfx : CallFix p mi c j.2.1 (am_ml m) s args (lw_tbl.filter goodWord) j.1.cls := ⟨hx, hb, hml, hown, hts⟩
  have hpre := am_pre hVm hOld hz hWd (as := as)
  rcases hmode with ⟨rfl, rfl, rfl, rfl⟩ | ⟨rfl, rfl, rfl, rfl⟩ | ⟨rfl, rfl, rfl, rfl⟩ | ⟨hm23, rfl, rfl, rfl⟩
  · have h0 : j2.2.2.2 = [] := by simpa using hnoh
    rw [if_pos h0] at hM2 hcode hws
    obtain ⟨ix, hlk, hix⟩ := hl1 (by decide)
    have hst : (Cond.static j2.1).before args s = true := am_word hVm args (wr _ (by simp)).1 (wr _ (by simp)).2
    have hi2 : i = .invokestatic ix := by
      rcases hi with ⟨ix2, rfl, h | h⟩ | ⟨ix2, rfl, h⟩ | ⟨ix2, rfl, h | h⟩
      · cases h
      · cases h
      · cases h
      · simpa using hix
      · cases h
    subst hi2
    refine vx_runS (n := am_na m2) hfx hM2 ⟨⟨rfl, rfl, hroom.1, hroom.2, hws, by simp, hcode, hini, ⟨hne1, hne2⟩, fun sig h => by simpa using hlen sig h, hlk⟩, hst⟩ ⟨am_blind, hpre⟩ rfl has hls rfl ?_ hd hfit
    exact lv_room hwt
  · have h0 : ¬ j2.2.2.2 = [] := by simpa using hnoh
    rw [if_neg h0] at hM2 hcode hws
    obtain ⟨ix, hlk, hix⟩ := hl1 (by decide)
    have hst : (Cond.static j2.1).before args s = true := am_word hVm args (wr _ (by simp)).1 (wr _ (by simp)).2
    have hi2 : i = .invokestatic ix := by
      rcases hi with ⟨ix2, rfl, h | h⟩ | ⟨ix2, rfl, h⟩ | ⟨ix2, rfl, h | h⟩
      · cases h
      · cases h
      · cases h
      · cases h
      · simpa using hix
    subst hi2
    refine vx_runSX (n := am_na m2) hfx hM2 ⟨⟨rfl, rfl, hroom.1, hroom.2, hws, by simp⟩, hcode, hini, ⟨hne1, hne2⟩, fun sig h => by simpa using hlen sig h, hlk, hst⟩ ⟨am_blind, hpre⟩ rfl has hls rfl ?_ hd hfit
    exact lv_room hwt
  · have h0 : j2.2.2.2 = [] := by simpa using hnoh
    rw [if_pos h0] at hM2 hcode hws
    obtain ⟨ix, hlk, hix⟩ := hl1 (by decide)
    obtain ⟨a, bs, ci, fs, rfl, hmem, hci⟩ := hrv rfl
    have hw1 : (Cond.instanceMethod j2.1).before args s = true := am_word hVm args (wr _ (by simp)).1 (wr _ (by simp)).2
    have hw2 : (Cond.selects j2.1.cls j2.1 j2.1).before args s = true := am_word hVm args (wr _ (by simp)).1 (wr _ (by simp)).2
    have hi2 : i = .invokevirtual ix := by
      rcases hi with ⟨ix2, rfl, h | h⟩ | ⟨ix2, rfl, h⟩ | ⟨ix2, rfl, h | h⟩
      · cases h
      · cases h
      · simpa using hix
      · cases h
      · cases h
    subst hi2
    obtain ⟨q0, hq0⟩ := am_mem hmem
    have hcl : vwCl[ci]? = some (am_cl ci) := by
      obtain ⟨hP, -, -⟩ := hWd
      obtain ⟨r, hr, -⟩ := hP q0 _ hq0
      have hr : vwCl[ci]? = some r := hr
      have : ci < vwCl.length := (List.getElem?_eq_some_iff.mp hr).1
      exact am_get this _
    have hnmc : j2.1.cls = (am_cl ci).1 := by
      rcases hcls with h | h | h
      · cases h
      · cases h
      · rw [← hci]; exact h
    have hrecv := va_recv hK hWd.1 (ci := ci) (q0 := q0) hcl hq0
    rw [← hnmc] at hrecv
    refine vx_runV (n := bs.length) (C := j2.1.cls) (b := a) (As := bs) hfx hM2 ⟨⟨rfl, rfl, hroom.1, hroom.2, hws, by simp, hcode, hini, ⟨hne1, hne2⟩, fun sig h => ?_, hlk⟩, hw1, hw2⟩ ⟨am_blind, hrecv, hpre⟩ rfl rfl hls (by simp) ?_ hd hfit
    · have h1 := hlen sig h
      rw [← has] at h1
      simp at h1
      exact h1
    · exact lv_room hwt
  · have h0 : j2.2.2.2 = [] := by simpa using hnoh
    rw [if_pos h0] at hM2 hcode hws
    obtain ⟨a, bs, rfl⟩ := hri hm23
    have hw1 : (Cond.instanceMethod j2.1).before args s = true := am_word hVm args (wr _ (by simp)).1 (wr _ (by simp)).2
    have hnmi : j2.1.name = "<init>" ∧ j2.2.2.1 = none := hii rfl
    have hret : j2.2.2.1 = none := hnmi.2
    rw [hret] at hM2 hcode hws
    have hlen2 : ∀ sig, parseMethodDescriptor j2.1.desc = some sig → bs.length = sig.parameters.length := by
      intro sig h
      have h1 := hlen sig h
      rw [← has] at h1
      simp at h1
      exact h1
    rcases hm23 with rfl | rfl
    · obtain ⟨ix, hlk, hix⟩ := hl1 (by decide)
      have hi2 : i = .invokespecial ix := by
        rcases hi with ⟨ix2, rfl, h | h⟩ | ⟨ix2, rfl, h⟩ | ⟨ix2, rfl, h | h⟩
        · simpa using hix
        · cases h
        · cases h
        · cases h
        · cases h
      subst hi2
      exact vx_runI (n := bs.length) (b := a) (As := bs) hfx hM2 ⟨⟨rfl, rfl, hroom.1, hroom.2, hws, by simp, hcode, hini, ⟨hne1, hne2⟩, hlen2, hlk⟩, hnmi.1, hw1⟩ ⟨am_blind, hpre⟩ rfl rfl hls (by simp) (lv_room hwt) hd hfit
    · obtain ⟨ix, hlk, rfl⟩ := hl3 rfl
      exact vx_runIN (n := bs.length) (host := "TagRounds") (b := a) (As := bs) hfx hM2 ⟨⟨⟨rfl, rfl, hroom.1, hroom.2, hws, by simp⟩, hcode, hini, ⟨hne1, hne2⟩, hlen2, va_Nw.use rfl hlk⟩, hnmi.1, hw1⟩ ⟨am_blind, hpre⟩ rfl rfl hls (by simp) (lv_room hwt) hd hfit
