/-! THE MACHINE FOLLOWS THE ABSTRACT ONE. -/
def am_A (z : Nat) : Nat → Prop := fun q => z ≤ q
/-- what lies in the cells of before: the statics, the old rows of ints, the empty row of objects -/
def am_Old (O : am_O) (z : Nat) (U : State) (H : Heap) : Prop :=
  (va_Z "TagRounds$Tag" "TO_MATCHING" "[I" (.ref (O 1).1) (am_A z) U H ∧ va_Z "TagRounds$Tag" "TO_OTHERS" "[I" (.ref (O 2).1) (am_A z) U H ∧ va_Z "java/util/ArrayList" "DEFAULTCAPACITY_EMPTY_ELEMENTDATA" "[Ljava/lang/Object;" (.ref (O 3).1) (am_A z) U H) ∧
  (∀ j, j < 3 → va_X (O j).1 (O j).2.1 (O j).2.2 U H ∧ (O j).1 < H.size ∧ ¬ am_A z (O j).1) ∧
  (∃ cell : Cell, H[(O 3).1]? = some cell ∧ U.isArrayOf cell (.object "java/lang/Object") ∧ cell.slots.size = 0 ∧ ¬ am_A z (O 3).1) ∧
  vx_Zq Bundle.tN "UNASSIGNED_STACK" Bundle.steD (am_A z) U H ∧ vx_Zq Bundle.tN "SUPPRESSED_SENTINEL" Bundle.listD (am_A z) U H
/-- what the tables say of a state -/
def am_Vm (D : va_G) (X : Nat → ClassId) (U : State) : Prop :=
  va_K D vwCl (am_tys X) U ∧ (∀ w ∈ lw_tbl, goodWord w = true → w.before #[] U = true) ∧ (∀ w ∈ lw_tbl, am_ngw w = true → va_Nw w U) ∧ va_AO "TagRounds$Reader" U ∧ va_AO "java/lang/Object" U ∧
  (∀ i j, i < 4 → j < 4 → i ≠ j → va_Nc (am_X i) (am_X j) U)
theorem am_Old.moved {O : am_O} {z : Nat} {u U : State} {H : Heap} (hvm : u.vm.Alike U.vm) (h : am_Old O z u H) : am_Old O z U H := by
  obtain ⟨⟨a1, a2, a3⟩, b, ⟨cell, c1, c2, c3, c4⟩, d1, d2⟩ := h
  exact ⟨⟨va_Z.moved hvm a1, va_Z.moved hvm a2, va_Z.moved hvm a3⟩, fun j hj => ⟨va_X.moved hvm (b j hj).1, (b j hj).2⟩, ⟨cell, c1, State.isArrayOf_alike hvm c2, c3, c4⟩, vx_Zq.moved hvm d1, vx_Zq.moved hvm d2⟩
theorem am_Old.kept {O : am_O} {z : Nat} {U : State} {H H1 : Heap} (h : am_Old O z U H) (hz : H.size ≤ H1.size) (hq : ∀ a : Nat, a < H.size → ¬ am_A z a → H1[a]? = H[a]?) : am_Old O z U H1 := by
  obtain ⟨⟨a1, a2, a3⟩, b, ⟨cell, c1, c2, c3, c4⟩, d1, d2⟩ := h
  exact ⟨⟨va_Z.kept a1 hq, va_Z.kept a2 hq, va_Z.kept a3 hq⟩, fun j hj => ⟨va_X.kept (b j hj).1 (hq _ (b j hj).2.1 (b j hj).2.2), Nat.lt_of_lt_of_le (b j hj).2.1 hz, (b j hj).2.2⟩,
    ⟨cell, by rw [hq _ (Array.getElem?_eq_some_iff.mp c1).1 c4]; exact c1, c2, c3, c4⟩, vx_Zq.kept d1 hq, vx_Zq.kept d2 hq⟩
theorem am_Vm.warm {D : va_G} {X : Nat → ClassId} {s U : State} (hW : s.WarmedH U.vm) (h : am_Vm D X s) : am_Vm D X U := by
  obtain ⟨h1, h2, h3, h4, h5, h6⟩ := h
  refine ⟨va_K.moved hW.alike h1, fun w hw hg => word_at hW (good_of_word hg) (h2 w hw hg), fun w hw hg => ?_, va_AO.moved hW.alike h4, va_AO.moved hW.alike h5, fun i j hi hj hn => va_Nc.moved hW.alike (h6 i j hi hj hn)⟩
  have h9 := h3 w hw hg
  cases w <;> first | exact va_Nw.warmC hW h9 | exact va_Nw.warmD hW h9 | exact va_Nw.warmM hW h9 | (simp [am_ngw] at hg)
/-- the world of the method: its cells, and what it has written since its start -/
def am_Wd (D : va_G) (z : Nat) (s : State) (ws : va_W) (H : Heap) (locs : List Loc) : Prop := va_P D vwCl ws H ∧ va_D (am_A z) ws ∧ va_S (am_A z) s.heap H locs
/-- where a method stands: the machine, its code, its room -/
def am_Cx (p : Program) (l : Launch) (R : Room) (s : State) (mi : MethodId) (meth : Method) (c : Code) (m : Nat) (j : am_J) (D : va_G) (X : Nat → ClassId) (O : am_O) (z : Nat) : Prop :=
  p.tables.exec = Jvm.exec ∧ c.code = j.2.1 ∧ c.maxLocals = am_ml m ∧ s.vm.findClass j.1.cls = some mi.cls ∧ meth.locks = false ∧ meth.name = j.1.name ∧ am_Vm D X s ∧ am_Old O z s s.heap ∧ z ≤ s.heap.size ∧
  (am_F m ≤ R.frames ∧ am_Lc m ≤ R.locals ∧ am_mc m ≤ R.cells ∧ am_ms m ≤ R.slots) ∧ am_M[m]? = some j ∧ l.stackTraces = false ∧
  (∀ e ∈ am_code m, am_deOk j.2.1 e = true) ∧ (∀ e ∈ am_code m, am_ok j.1 m e = true)
/-- what is owed at the method's ends -/
def am_Ex (p : Program) (l : Launch) (e : Env) (R : Room) (s : State) (mi : MethodId) (args : Array Value) (below : List Frame) (meth : Method) (c : Code) (D : va_G) (z m : Nat) (Q : am_Q) (QQ : State → Prop) : Prop :=
  (∀ (H : Heap) (locs : List Loc) (k sl : Nat) (ws : va_W) (pc : Nat) (ls : Array Slot) (x : Int32), Q (.inl (some (.int x))) ws → am_Wd D z s ws H locs → k ≤ am_mc m → sl ≤ am_ms m → decode c.code pc = .ok (.ireturn, 1) → (am_rk m = 1 ∨ am_rk m = 2 ∧ (x = 0 ∨ x = 1)) → W p l e R s mi args below meth c H locs k sl QQ (F0 mi pc ls [.int x])) ∧
  (∀ (H : Heap) (locs : List Loc) (k sl : Nat) (ws : va_W) (pc : Nat) (ls : Array Slot) (x : Option Nat), Q (.inl (some (va_rf x))) ws → am_Wd D z s ws H locs → k ≤ am_mc m → sl ≤ am_ms m → decode c.code pc = .ok (.areturn, 1) → am_rk m = 3 → W p l e R s mi args below meth c H locs k sl QQ (F0 mi pc ls [va_rf x])) ∧
  (∀ (H : Heap) (locs : List Loc) (k sl : Nat) (ws : va_W) (pc : Nat) (ls : Array Slot), Q (.inl none) ws → am_Wd D z s ws H locs → k ≤ am_mc m → sl ≤ am_ms m → decode c.code pc = .ok (.return_, 1) → am_rk m = 0 → W p l e R s mi args below meth c H locs k sl QQ (F0 mi pc ls [])) ∧
  (∀ (H : Heap) (locs : List Loc) (k sl : Nat) (ws : va_W) (pc : Nat) (ls : Array Slot) (rest : List Value) (x : Nat) (q : Addr) (ce : Cell), Q (.inr x) ws → am_Wd D z s ws H locs → k ≤ am_mc m → sl ≤ am_ms m → x < 4 → H[q]? = some ce → ce.vm = .none → s.vm.findClass (am_X x) = some ce.cls → am_hnd m pc x = none → vx_W p l e R s mi args below meth c H locs k sl QQ (F0 mi pc ls rest) q) ∧
  (∀ (pc t : Nat) (H : Heap) (locs : List Loc) (k sl : Nat) (ls : Array Slot) (rest : List Value) (x : Nat) (q : Addr) (ce : Cell), am_hnd m pc x = some t → x < 4 → H[q]? = some ce → ce.vm = .none → s.vm.findClass (am_X x) = some ce.cls → W p l e R s mi args below meth c H locs k sl QQ (F0 mi t ls [.ref q]) → vx_W p l e R s mi args below meth c H locs k sl QQ (F0 mi pc ls rest) q) ∧
  (∀ (H : Heap) (locs : List Loc) (k sl : Nat) (ws : va_W) (pc ix ic : Nat) (ls : Array Slot) (own : String) (x : Nat), Q (.inr x) ws → am_Wd D z s ws H locs → k + 1 ≤ am_mc m → sl + 6 ≤ am_ms m → x < 4 → 5 < am_F m → 81 ≤ am_Lc m → am_H.getD m [] = [] → ls.size = c.maxLocals → s.vm.findClass own = some mi.cls → (own, ic, x) ∈ am_TH → (Cond.classLink own ix (am_X x)).before args s = true →
    decode c.code pc = .ok (.new ix, 3) → decode c.code (pc + 3) = .ok (.dup, 1) → decode c.code (pc + 4) = .ok (.invokespecial ic, 3) → decode c.code (pc + 7) = .ok (.athrow, 1) → W p l e R s mi args below meth c H locs k sl QQ (F0 mi pc ls []))
def am_rm (m : Nat) : Room := { frames := am_F m, cells := am_mc m, slots := am_ms m, locals := am_Lc m }
/-- the contract of a call of method m -/
def am_Cn (l : Launch) (D : va_G) (X : Nat → ClassId) (O : am_O) (z m : Nat) (as : List Value) (ws : va_W) (Q : am_Q) : Prop := ∀ (j : am_J), m < am_LAW → am_M[m]? = some j → (lg_sl as).length ≤ am_ml m →
  vx_Met l j.1 [if j.2.2.2 = [] then .code j.1 j.2.1 (am_ml m) j.2.2.1 else .codeWith j.1 j.2.1 (am_ml m) j.2.2.1 j.2.2.2] (am_rm m)
    (va_Pc as (fun U => am_Vm D X U ∧ am_Old O z U U.heap ∧ z ≤ U.heap.size ∧ va_P D vwCl ws U.heap ∧ va_D (am_A z) ws))
    (fun _ st o t => ∃ (v : Option Value) (ws2 : va_W), o = .returned v ∧ Q (.inl v) ws2 ∧ va_P D vwCl ws2 t.heap ∧ va_D (am_A z) ws2 ∧ va_F (am_A z) st t)
    (fun E st t => ∃ (x : Nat) (ws2 : va_W), x < 4 ∧ E = am_X x ∧ Q (.inr x) ws2 ∧ va_P D vwCl ws2 t.heap ∧ va_D (am_A z) ws2 ∧ va_F (am_A z) st t)
    (am_mc m) (am_ms m) (am_A z)
theorem am_word {D : va_G} {X : Nat → ClassId} {s : State} (h : am_Vm D X s) {w : Cond} (args : Array Value) (hw : w ∈ lw_tbl) (hg : goodWord w = true) : w.before args s = true := word_at (State.WarmedH.refl s) (good_of_word hg) (h.2.1 w hw hg)
section AMS
variable {p : Program} {l : Launch} {e : Env} {R : Room} {s : State} {mi : MethodId} {args : Array Value} {below : List Frame} {meth : Method} {c : Code} {H : Heap} {locs : List Loc} {k sl : Nat} {QQ : State → Prop}
variable {D : va_G} {X : Nat → ClassId} {O : am_O} {z : Nat}
/-- behind a call, by the callee's contract -/
theorem am_run {Q' : am_Q} {mc ms pc : Nat} {ls : Array Slot} {st rest : List Value} {a : Array Value} (hz : z ≤ s.heap.size)
    (hr : vx_Run p l e R s mi args below meth c H locs k sl mc ms (F0 mi pc ls st) rest
      ((fun (_ : Array Value) (st : State) (o : Outcome) (t : State) => ∃ (v : Option Value) (ws2 : va_W), o = .returned v ∧ Q' (.inl v) ws2 ∧ va_P D vwCl ws2 t.heap ∧ va_D (am_A z) ws2 ∧ va_F (am_A z) st t) a)
      (fun E st t => ∃ (x : Nat) (ws2 : va_W), x < 4 ∧ E = am_X x ∧ Q' (.inr x) ws2 ∧ va_P D vwCl ws2 t.heap ∧ va_D (am_A z) ws2 ∧ va_F (am_A z) st t) (am_A z))
    (hS : va_S (am_A z) s.heap H locs)
    (kk : ∀ (v : Option Value) (ws2 : va_W) (H1 : Heap) (locs1 : List Loc), Q' (.inl v) ws2 → am_Wd D z s ws2 H1 locs1 → W p l e R s mi args below meth c H1 locs1 (k + mc) (sl + ms) QQ (F0 mi (pc + 3) ls (v.toList ++ rest)))
    (kx : ∀ (x : Nat) (ws2 : va_W) (H1 : Heap) (locs1 : List Loc) (q : Addr) (ce : Cell), x < 4 → Q' (.inr x) ws2 → am_Wd D z s ws2 H1 locs1 → H1[q]? = some ce → ce.vm = .none → s.vm.findClass (am_X x) = some ce.cls → vx_W p l e R s mi args below meth c H1 locs1 (k + mc) (sl + ms) QQ (F0 mi pc ls rest) q) :
    W p l e R s mi args below meth c H locs k sl QQ (F0 mi pc ls st) := by
  intro T hT X9
  rcases hr T hT X9 with ⟨v, st₀, t, T', L, h0, X', hL, e1, e2, ⟨v2, ws2, hv, hq, hP, hD, hF⟩, go⟩ | ⟨q, st₀, t, T', L, E, ce, h0, X', hL, e1, e2, ⟨x, ws2, hx4, hE, hq, hP, hD, hF⟩, hce, hcv, hcl, go⟩
  · cases hv
    obtain ⟨-, -, k3⟩ := vx_keep (A0 := am_A z) (A1 := am_A z) (free := am_A z) h0 e1 hS (fun _ _ h => h) (fun _ h => h) hL hF
    obtain ⟨t2, a1, b1⟩ := kk v ws2 T'.heap (locs ++ L) hq ⟨by rw [e1]; exact hP, hD, k3⟩ T' rfl X'
    exact ⟨t2, go t2 a1, b1⟩
  · obtain ⟨-, -, k3⟩ := vx_keep (A0 := am_A z) (A1 := am_A z) (free := am_A z) h0 e1 hS (fun _ _ h => h) (fun _ h => h) hL hF
    subst hE
    obtain ⟨t2, a1, b1⟩ := kx x ws2 T'.heap (locs ++ L) q ce hx4 hq ⟨by rw [e1]; exact hP, hD, k3⟩ (by rw [e1]; exact hce) hcv hcl T' rfl X'
    exact ⟨t2, go.trans a1, b1⟩
theorem am_mem {ws : va_W} {q : Nat × va_E} (h : q ∈ ws) : ∃ i : Nat, ws[i]? = some q := List.getElem?_of_mem h
theorem am_lv {ls : Array Slot} {nL : Nat} {l : am_L} (h : lv_has ls nL l) {i : Nat} {v : Value} (hm : (i, v) ∈ l) : ls[i]? = some (.val v) := h.2.2 (i, v) hm
theorem am_freshP {ws : va_W} {q : Nat} {x : va_E} (h : va_D (am_A z) (ws ++ [(q, x)])) : am_fresh ws q := by
  intro y hy he
  obtain ⟨i, hi⟩ := am_mem hy
  have hlt := (List.getElem?_eq_some_iff.mp hi).1
  have h1 : (ws ++ [(q, x)])[i]? = some y := by rw [List.getElem?_append_left hlt]; exact hi
  have h2 : (ws ++ [(q, x)])[ws.length]? = some (q, x) := by simp
  have := h.1 i ws.length y (q, x) h1 h2 he
  omega
end AMS
theorem am_wl {D : va_G} {X : Nat → ClassId} {s : State} (hV : am_Vm D X s) (args : Array Value) {r : Nat} {w : Cond} (h : am_WL[r]? = some w) (hg : goodWord w = true) : w.before args s = true := am_word hV args (am_wlm h) hg
/-- a field's link: its word, and the name by which javac spells it -/
theorem am_fl {D : va_G} {X : Nat → ClassId} {s : State} (hV : am_Vm D X s) (args : Array Value) {r : Nat} {o rf : String} {ix ci k wi : Nat} (h : am_WF[r]? = some (o, ix, rf, ci, k, wi)) :
    vwCl[ci]? = some (am_cl ci) ∧ ci < 14 ∧ k < (am_cl ci).2.2 ∧ (Cond.fieldLink o ix rf ((am_cl ci).2.1 k).2.1 ((am_cl ci).2.1 k).2.2.1).before args s = true ∧
    (∀ x, s.fieldFound? ((am_cl ci).2.1 k).1 ((am_cl ci).2.1 k).2.1 ((am_cl ci).2.1 k).2.2.1 = some x → s.fieldFound? rf ((am_cl ci).2.1 k).2.1 ((am_cl ci).2.1 k).2.2.1 = some x) := by
  have h1 := am_wf_ok _ (List.mem_of_getElem? h)
  simp only [am_wfOk, Bool.and_eq_true, Bool.or_eq_true, decide_eq_true_eq] at h1
  obtain ⟨hw, hk, hc, hs⟩ := h1
  have hcl : vwCl[ci]? = some (am_cl ci) := by
    have : ci < vwCl.length := hc
    rw [List.getElem?_eq_getElem this]
    simp [am_cl, List.getD_eq_getElem?_getD, List.getElem?_eq_getElem this]
  refine ⟨hcl, hc, hk, am_word hV args (List.mem_of_getElem? hw) rfl, ?_⟩
  rcases hs with rfl | ⟨rfl, rfl, rfl⟩
  · exact fun x hx => hx
  · intro x hx
    have hsm : (Cond.sameField "java/util/ArrayList" "java/util/AbstractList" "modCount" "I").before args s = true := am_word hV args (List.mem_filter.mp am_same.1).1 rfl
    exact u_same hsm x hx
abbrev am_Pc (D : va_G) (X : Nat → ClassId) (O : am_O) (z : Nat) (as : List Value) (ws : va_W) : Array Value → State → Prop := va_Pc as (fun U => am_Vm D X U ∧ am_Old O z U U.heap ∧ z ≤ U.heap.size ∧ va_P D vwCl ws U.heap ∧ va_D (am_A z) ws)
theorem am_blind {D : va_G} {X : Nat → ClassId} {O : am_O} {z : Nat} {as : List Value} {ws : va_W} : FrameBlind (am_Pc D X O z as ws) := by
  intro a U g mk h
  obtain ⟨h0, h1, h2, h3⟩ := h
  exact ⟨h0, am_Vm.warm (s := U) (U := U.calling g mk a) (State.WarmedH.refl U) h1, am_Old.moved (u := U) (U := U.calling g mk a) (Vm.Alike.refl U.vm) h2, h3⟩
theorem am_pre {D : va_G} {X : Nat → ClassId} {O : am_O} {z : Nat} {s : State} {as : List Value} {ws : va_W} {H : Heap} {locs : List Loc} (hVm : am_Vm D X s) (hOld : am_Old O z s s.heap) (hz : z ≤ s.heap.size) (hW : am_Wd D z s ws H locs) :
    ∀ U : State, U.heap = H → s.WarmedH U.vm → am_Pc D X O z as ws as.toArray U := by
  intro U hU hv
  obtain ⟨hP, hD, hS⟩ := hW
  refine ⟨rfl, am_Vm.warm hv hVm, ?_, ?_, ?_, hD⟩
  · rw [hU]; exact am_Old.moved hv.alike (am_Old.kept hOld hS.1 hS.2.1)
  · rw [hU]; exact Nat.le_trans hz hS.1
  · rw [hU]; exact hP
set_option maxHeartbeats 4000000 in
set_option maxRecDepth 100000 in
/-- a call of method m2, by its contract -/
theorem am_crun {p : Program} {l : Launch} {e : Env} {R : Room} {s : State} {mi : MethodId} {args : Array Value} {below : List Frame} {meth : Method} {c : Code} {D : va_G} {X : Nat → ClassId} {O : am_O} {z m : Nat} {j : am_J} {H : Heap} {locs : List Loc} {k sl : Nat} {ws : va_W}
    (Cx : am_Cx p l R s mi meth c m j D X O z) (hWd : am_Wd D z s ws H locs) {pc m2 mode rw0 len cu inf : Nat} {i : Instr} (hi : (∃ ix, i = .invokespecial ix ∧ (mode = 2 ∨ mode = 3)) ∨ (∃ ix, i = .invokevirtual ix ∧ mode = 1) ∨ (∃ ix, i = .invokestatic ix ∧ (mode = 0 ∨ mode = 4)))
    (hok : am_ok j.1 m (pc, i, len, m2, mode, rw0, cu, inf) = true) {as rest : List Value} (hd : decode j.2.1 pc = .ok (i, 3)) {ls : Array Slot} (hls : ls.size = am_ml m) (has : as.length = am_na m2) (hsl : (lg_sl as).length ≤ am_ml m2) (hwt : am_wt rest ≤ 8)
    (hrv : mode = 1 → ∃ (a : Nat) (bs : List Value) (ci : Nat) (fs : List Value), as = .ref a :: bs ∧ (a, .inr (ci, fs)) ∈ ws ∧ am_ci m2 = ci) (hri : mode = 2 ∨ mode = 3 → ∃ (a : Nat) (bs : List Value), as = .ref a :: bs)
    (hk : k + am_mc m2 ≤ am_mc m) (hs2 : sl + am_ms m2 ≤ am_ms m) (hF : am_F m2 + 1 ≤ am_F m) (hLc : 8 + (am_ml m2 + 11) + am_Lc m2 ≤ am_Lc m) {Q' : am_Q} (hCn : am_Cn l D X O z m2 as ws Q') :
    vx_Run p l e R s mi args below meth c H locs k sl (am_mc m2) (am_ms m2) (F0 mi pc ls (as.reverse ++ rest)) rest
      ((fun (_ : Array Value) (st : State) (o : Outcome) (t : State) => ∃ (v : Option Value) (ws2 : va_W), o = .returned v ∧ Q' (.inl v) ws2 ∧ va_P D vwCl ws2 t.heap ∧ va_D (am_A z) ws2 ∧ va_F (am_A z) st t) as.toArray)
      (fun E st t => ∃ (x : Nat) (ws2 : va_W), x < 4 ∧ E = am_X x ∧ Q' (.inr x) ws2 ∧ va_P D vwCl ws2 t.heap ∧ va_D (am_A z) ws2 ∧ va_F (am_A z) st t) (am_A z) := by
  obtain ⟨hx, hb, hml, hown, hlocks, hname, hVm, hOld, hz, ⟨hRf, hRl, hRc, hRs⟩, hM, htr, hdec, hlnk⟩ := id Cx
  have hK : va_K D vwCl (am_tys X) s := hVm.1
  have hts : ∀ w ∈ lw_tbl.filter goodWord, w.before args s = true := fun w hw => am_word hVm args (List.mem_filter.mp hw).1 (List.mem_filter.mp hw).2
  have hkd : ∃ st ini noh, am_kd m2 st ini noh = true ∧ ((mode = 0 ∧ st = true ∧ ini = false ∧ noh = true) ∨ (mode = 4 ∧ st = true ∧ ini = false ∧ noh = false) ∨ (mode = 1 ∧ st = false ∧ ini = false ∧ noh = true) ∨ ((mode = 2 ∨ mode = 3) ∧ st = false ∧ ini = true ∧ noh = true)) ∧
      (mode ≠ 3 → ∃ ix, (Cond.methodLink j.1.cls ix (am_nm m2)).before args s = true ∧ (i = .invokespecial ix ∨ i = .invokevirtual ix ∨ i = .invokestatic ix)) ∧ (mode = 3 → ∃ ix, va_Nw (.methodLinkNest j.1.cls ix (am_nm m2) "TagRounds") s ∧ i = .invokespecial ix) := by
    rcases hi with ⟨ix, rfl, rfl | rfl⟩ | ⟨ix, rfl, rfl⟩ | ⟨ix, rfl, rfl | rfl⟩
    · simp only [am_ok, Bool.and_eq_true, decide_eq_true_eq] at hok
      simp at hok
      exact ⟨_, _, _, hok.2, by simp, fun _ => ⟨ix, am_wl hVm args hok.1 rfl, Or.inl rfl⟩, fun h => by simp at h⟩
    · simp only [am_ok, Bool.and_eq_true, decide_eq_true_eq] at hok
      simp at hok
      exact ⟨_, _, _, hok.2, by simp, fun h => by simp at h, fun _ => ⟨ix, hVm.2.2.1 _ (am_wlm hok.1) rfl, rfl⟩⟩
    · simp only [am_ok, Bool.and_eq_true, Bool.or_eq_true, decide_eq_true_eq] at hok
      simp at hok
      exact ⟨_, _, _, hok.2, by simp, fun _ => ⟨ix, am_wl hVm args hok.1 rfl, Or.inr (Or.inl rfl)⟩, fun h => by simp at h⟩
    · simp only [am_ok, Bool.and_eq_true, decide_eq_true_eq] at hok
      simp at hok
      exact ⟨_, _, _, hok.2, by simp, fun _ => ⟨ix, am_wl hVm args hok.1 rfl, Or.inr (Or.inr rfl)⟩, fun h => by simp at h⟩
    · simp only [am_ok, Bool.and_eq_true, decide_eq_true_eq] at hok
      simp at hok
      exact ⟨_, _, _, hok.2, by simp, fun _ => ⟨ix, am_wl hVm args hok.1 rfl, Or.inr (Or.inr rfl)⟩, fun h => by simp at h⟩
  obtain ⟨st, ini, noh, hkd, hmode, hl1, hl3⟩ := hkd
  simp only [am_kd, Bool.and_eq_true, decide_eq_true_eq] at hkd
  obtain ⟨hm2, hms, hnoh⟩ := hkd
  obtain ⟨j2, st2, ini2, hj2, hnm, hms2, hmw, hpl, hne1, hne2, hdesc, hrk, hcls, hii⟩ := am_mws hm2
  cases Option.some.inj (hms.symm.trans hms2)
  have hjd : am_M.getD m2 (⟨"", "", ""⟩, .empty, none, []) = j2 := by simp [List.getD_eq_getElem?_getD, hj2]
  rw [hjd] at hnoh
  rw [hnm] at hl1 hl3
  have hM2 := hCn j2 hm2 hj2 hsl
  obtain ⟨wc, wi, wr⟩ := am_in4 hmw
  have hini : (Cond.initialized j2.1.cls).before args s = true := am_word hVm args wi.1 wi.2
  have hcode := am_word hVm args wc.1 wc.2
  have hws : ∀ w ∈ [if j2.2.2.2 = [] then Cond.code j2.1 j2.2.1 (am_ml m2) j2.2.2.1 else Cond.codeWith j2.1 j2.2.1 (am_ml m2) j2.2.2.1 j2.2.2.2], ∀ (a' : Array Value) (U : State), s.WarmedH U.vm → w.before a' U = true := by
    intro w hw a' U hW
    rw [List.mem_singleton] at hw
    subst hw
    exact word_at hW (good_of_word wc.2) hcode
  have hroom : (am_rm m2).frames + 1 ≤ R.frames ∧ 8 + (am_ml m2 + 11) + (am_rm m2).locals ≤ R.locals := ⟨Nat.le_trans hF hRf, Nat.le_trans hLc hRl⟩
  have hlen : ∀ sig, parseMethodDescriptor j2.1.desc = some sig → am_na m2 = sig.parameters.length + (if st then 0 else 1) := by
    intro sig h; rw [h] at hdesc; exact (Option.some.inj hdesc).symm
  have hfit : k + am_mc m2 ≤ R.cells ∧ sl + am_ms m2 ≤ R.slots := ⟨Nat.le_trans hk hRc, Nat.le_trans hs2 hRs⟩
  have hfx : CallFix p mi c j.2.1 (am_ml m) s args (lw_tbl.filter goodWord) j.1.cls := ⟨hx, hb, hml, hown, hts⟩
  have hpre := am_pre hVm hOld hz hWd (as := as)
  rcases hmode with ⟨rfl, rfl, rfl, rfl⟩ | ⟨rfl, rfl, rfl, rfl⟩ | ⟨rfl, rfl, rfl, rfl⟩ | ⟨hm23, rfl, rfl, rfl⟩
  · have h0 : j2.2.2.2 = [] := by simpa using hnoh
    rw [if_pos h0] at hM2 hcode hws
    obtain ⟨ix, hlk, hix⟩ := hl1 (by decide)
    have hst : (Cond.static j2.1).before args s = true := am_word hVm args (wr _ (by simp)).1 (wr _ (by simp)).2
    have hi2 : i = .invokestatic ix := by
      rcases hi with ⟨ix2, rfl, h | h⟩ | ⟨ix2, rfl, h⟩ | ⟨ix2, rfl, h | h⟩
      · cases h
      · cases h
      · cases h
      · simpa using hix
      · cases h
    subst hi2
    refine vx_runS (n := am_na m2) hfx hM2 ⟨⟨rfl, rfl, hroom.1, hroom.2, hws, by simp, hcode, hini, ⟨hne1, hne2⟩, fun sig h => by simpa using hlen sig h, hlk⟩, hst⟩ ⟨am_blind, hpre⟩ rfl has hls rfl ?_ hd hfit
    exact lv_room hwt
  · have h0 : ¬ j2.2.2.2 = [] := by simpa using hnoh
    rw [if_neg h0] at hM2 hcode hws
    obtain ⟨ix, hlk, hix⟩ := hl1 (by decide)
    have hst : (Cond.static j2.1).before args s = true := am_word hVm args (wr _ (by simp)).1 (wr _ (by simp)).2
    have hi2 : i = .invokestatic ix := by
      rcases hi with ⟨ix2, rfl, h | h⟩ | ⟨ix2, rfl, h⟩ | ⟨ix2, rfl, h | h⟩
      · cases h
      · cases h
      · cases h
      · cases h
      · simpa using hix
    subst hi2
    refine vx_runSX (n := am_na m2) hfx hM2 ⟨⟨rfl, rfl, hroom.1, hroom.2, hws, by simp⟩, hcode, hini, ⟨hne1, hne2⟩, fun sig h => by simpa using hlen sig h, hlk, hst⟩ ⟨am_blind, hpre⟩ rfl has hls rfl ?_ hd hfit
    exact lv_room hwt
  · have h0 : j2.2.2.2 = [] := by simpa using hnoh
    rw [if_pos h0] at hM2 hcode hws
    obtain ⟨ix, hlk, hix⟩ := hl1 (by decide)
    obtain ⟨a, bs, ci, fs, rfl, hmem, hci⟩ := hrv rfl
    have hw1 : (Cond.instanceMethod j2.1).before args s = true := am_word hVm args (wr _ (by simp)).1 (wr _ (by simp)).2
    have hw2 : (Cond.selects j2.1.cls j2.1 j2.1).before args s = true := am_word hVm args (wr _ (by simp)).1 (wr _ (by simp)).2
    have hi2 : i = .invokevirtual ix := by
      rcases hi with ⟨ix2, rfl, h | h⟩ | ⟨ix2, rfl, h⟩ | ⟨ix2, rfl, h | h⟩
      · cases h
      · cases h
      · simpa using hix
      · cases h
      · cases h
    subst hi2
    obtain ⟨q0, hq0⟩ := am_mem hmem
    have hcl : vwCl[ci]? = some (am_cl ci) := by
      obtain ⟨hP, -, -⟩ := hWd
      obtain ⟨r, hr, -⟩ := hP q0 _ hq0
      have hr : vwCl[ci]? = some r := hr
      have : ci < vwCl.length := (List.getElem?_eq_some_iff.mp hr).1
      exact am_get this _
    have hnmc : j2.1.cls = (am_cl ci).1 := by
      rcases hcls with h | h | h
      · cases h
      · cases h
      · rw [← hci]; exact h
    have hrecv := va_recv hK hWd.1 (ci := ci) (q0 := q0) hcl hq0
    rw [← hnmc] at hrecv
    refine vx_runV (n := bs.length) (C := j2.1.cls) (b := a) (As := bs) hfx hM2 ⟨⟨rfl, rfl, hroom.1, hroom.2, hws, by simp, hcode, hini, ⟨hne1, hne2⟩, fun sig h => ?_, hlk⟩, hw1, hw2⟩ ⟨am_blind, hrecv, hpre⟩ rfl rfl hls (by simp) ?_ hd hfit
    · have h1 := hlen sig h
      rw [← has] at h1
      simp at h1
      exact h1
    · exact lv_room hwt
  · have h0 : j2.2.2.2 = [] := by simpa using hnoh
    rw [if_pos h0] at hM2 hcode hws
    obtain ⟨a, bs, rfl⟩ := hri hm23
    have hw1 : (Cond.instanceMethod j2.1).before args s = true := am_word hVm args (wr _ (by simp)).1 (wr _ (by simp)).2
    have hnmi : j2.1.name = "<init>" ∧ j2.2.2.1 = none := hii rfl
    have hret : j2.2.2.1 = none := hnmi.2
    rw [hret] at hM2 hcode hws
    have hlen2 : ∀ sig, parseMethodDescriptor j2.1.desc = some sig → bs.length = sig.parameters.length := by
      intro sig h
      have h1 := hlen sig h
      rw [← has] at h1
      simp at h1
      exact h1
    rcases hm23 with rfl | rfl
    · obtain ⟨ix, hlk, hix⟩ := hl1 (by decide)
      have hi2 : i = .invokespecial ix := by
        rcases hi with ⟨ix2, rfl, h | h⟩ | ⟨ix2, rfl, h⟩ | ⟨ix2, rfl, h | h⟩
        · simpa using hix
        · cases h
        · cases h
        · cases h
        · cases h
      subst hi2
      exact vx_runI (n := bs.length) (b := a) (As := bs) hfx hM2 ⟨⟨rfl, rfl, hroom.1, hroom.2, hws, by simp, hcode, hini, ⟨hne1, hne2⟩, hlen2, hlk⟩, hnmi.1, hw1⟩ ⟨am_blind, hpre⟩ rfl rfl hls (by simp) (lv_room hwt) hd hfit
    · obtain ⟨ix, hlk, rfl⟩ := hl3 rfl
      exact vx_runIN (n := bs.length) (host := "TagRounds") (b := a) (As := bs) hfx hM2 ⟨⟨⟨rfl, rfl, hroom.1, hroom.2, hws, by simp⟩, hcode, hini, ⟨hne1, hne2⟩, hlen2, va_Nw.use rfl hlk⟩, hnmi.1, hw1⟩ ⟨am_blind, hpre⟩ rfl rfl hls (by simp) (lv_room hwt) hd hfit
set_option maxHeartbeats 4000000 in
set_option maxRecDepth 100000 in
/-- one frame: where the abstract machine is safe, the machine comes to its end -/
theorem am_body {p : Program} {l : Launch} {e : Env} {R : Room} {s : State} {mi : MethodId} {args : Array Value} {below : List Frame} {meth : Method} {c : Code} {QQ : State → Prop} {D : va_G} {X : Nat → ClassId} {O : am_O} {z m : Nat} {j : am_J} {Q : am_Q}
    (Cx : am_Cx p l R s mi meth c m j D X O z) (Ex : am_Ex p l e R s mi args below meth c D z m Q QQ)
    {K : am_K} {Cl : Nat → List Value → va_W → am_Q → Prop}
    (ihK : ∀ (pc : Nat) (lo : am_L) (st : List Value) (k sl : Nat) (ws : va_W) (H : Heap) (locs : List Loc) (ls : Array Slot), K pc lo st k sl ws → lv_has ls (am_ml m) lo → am_Wd D z s ws H locs → W p l e R s mi args below meth c H locs k sl QQ (F0 mi pc ls st))
    (ihC : ∀ (m2 : Nat) (as : List Value) (ws : va_W) (Q' : am_Q), Cl m2 as ws Q' → ∃ Q1 : am_Q, am_Cn l D X O z m2 as ws Q1 ∧ ∀ r w, Q1 r w → Q' r w)
    (pc : Nat) (lo : am_L) (st : List Value) (k sl : Nat) (ws : va_W) (H : Heap) (locs : List Loc) (ls : Array Slot) (i : Instr) (len ra rb rw0 cu inf : Nat) (hmem : (pc, i, len, ra, rb, rw0, cu, inf) ∈ am_code m)
    (hst : am_step O X K Cl Q m pc i ra rb lo st k sl ws) (hl : lv_has ls (am_ml m) lo) (hWd : am_Wd D z s ws H locs) : W p l e R s mi args below meth c H locs k sl QQ (F0 mi pc ls st) := by
  obtain ⟨hx, hb, hml, hown, hlocks, hname, hVm, hOld, hz, ⟨hRf, hRl, hRc, hRs⟩, hM, htr, hdec, hlnk⟩ := Cx
  obtain ⟨hEi, hEa, hEv, hEx, hEh, hEt⟩ := Ex
  have hK : va_K D vwCl (am_tys X) s := hVm.1
  have hts : ∀ w ∈ lw_tbl.filter goodWord, w.before args s = true := fun w hw => am_word hVm args (List.mem_filter.mp hw).1 (List.mem_filter.mp hw).2
  have hA : ∀ q, s.heap.size ≤ q → am_A z q := fun q h => Nat.le_trans hz h
  have hthr : ∀ (pc : Nat) (lo : am_L) (x k sl : Nat) (ws : va_W) (H : Heap) (locs : List Loc) (ls : Array Slot) (rest : List Value) (q : Addr) (ce : Cell), am_thr K Q m pc lo x k sl ws → lv_has ls (am_ml m) lo → am_Wd D z s ws H locs → x < 4 → H[q]? = some ce → ce.vm = .none → s.vm.findClass (am_X x) = some ce.cls →
      vx_W p l e R s mi args below meth c H locs k sl QQ (F0 mi pc ls rest) q := by
    intro pc lo x k sl ws H locs ls rest q ce h hl hw hx4 hce hcv hcl
    unfold am_thr at h
    split at h
    next t ht => exact hEh pc t H locs k sl ls rest x q ce ht hx4 hce hcv hcl (ihK _ _ _ _ _ _ _ _ _ (h q) hl hw)
    next ht => exact hEx H locs k sl ws pc ls rest x q ce h.2.2 hw h.1 h.2.1 hx4 hce hcv hcl ht
  have hde := hdec _ hmem
  have hok := hlnk _ hmem
  obtain ⟨hP, hD, hSS⟩ := id hWd
  simp only [am_deOk, Bool.and_eq_true, decide_eq_true_eq] at hde
  obtain ⟨hd, hlen⟩ := hde
  cases i with
  | iconst q => cases (show len = 1 by simpa [am_len] using hlen); exact lv_iconst hx hb hd rfl (ihK _ _ _ _ _ _ _ _ _ hst hl hWd)
  | bipush q => cases (show len = 2 by simpa [am_len] using hlen); exact lv_bipush hx hb hd rfl (ihK _ _ _ _ _ _ _ _ _ hst hl hWd)
  | sipush q => cases (show len = 3 by simpa [am_len] using hlen); exact lv_sipush hx hb hd rfl (ihK _ _ _ _ _ _ _ _ _ hst hl hWd)
  | lconst q => cases (show len = 1 by simpa [am_len] using hlen); exact lv_lconst hx hb hd rfl (ihK _ _ _ _ _ _ _ _ _ hst hl hWd)
  | aconst_null => cases (show len = 1 by simpa [am_len] using hlen); exact lv_null hx hb hd (ihK _ _ _ _ _ _ _ _ _ hst hl hWd)
  | ldc q =>
    cases (show len = 2 by simpa [am_len] using hlen)
    simp only [am_ok, decide_eq_true_eq] at hok
    exact lv_ldc hx hb hown (am_wl hVm args hok rfl) hd (ihK _ _ _ _ _ _ _ _ _ hst hl hWd)
  | ldc_w q =>
    cases (show len = 3 by simpa [am_len] using hlen)
    simp only [am_ok, decide_eq_true_eq] at hok
    exact lv_ldcw hx hb hown (am_wl hVm args hok rfl) hd (ihK _ _ _ _ _ _ _ _ _ hst hl hWd)
  | ldc2_w q =>
    cases (show len = 3 by simpa [am_len] using hlen)
    simp only [am_ok, decide_eq_true_eq] at hok
    exact lv_ldc2 hx hb hown (am_wl hVm args hok rfl) hd (ihK _ _ _ _ _ _ _ _ _ hst hl hWd)
  | iload_n q => cases (show len = 1 by simpa [am_len] using hlen); obtain ⟨x, h1, h2⟩ := hst; exact lv_iload_n hx hb hd rfl (am_lv hl h1) (ihK _ _ _ _ _ _ _ _ _ h2 hl hWd)
  | iload q => cases (show len = 2 by simpa [am_len] using hlen); obtain ⟨x, h1, h2⟩ := hst; exact lv_iload hx hb hd (am_lv hl h1) (ihK _ _ _ _ _ _ _ _ _ h2 hl hWd)
  | lload_n q => cases (show len = 1 by simpa [am_len] using hlen); obtain ⟨x, h1, h2⟩ := hst; exact lv_lload_n hx hb hd rfl (am_lv hl h1) (ihK _ _ _ _ _ _ _ _ _ h2 hl hWd)
  | lload q => cases (show len = 2 by simpa [am_len] using hlen); obtain ⟨x, h1, h2⟩ := hst; exact lv_lload hx hb hd (am_lv hl h1) (ihK _ _ _ _ _ _ _ _ _ h2 hl hWd)
  | aload_n q =>
    cases (show len = 1 by simpa [am_len] using hlen); obtain ⟨x, h1, h2⟩ := hst
    cases x with
    | none => exact lv_aload_nN hx hb hd rfl (am_lv hl h1) (ihK _ _ _ _ _ _ _ _ _ h2 hl hWd)
    | some a => exact lv_aload_n hx hb hd rfl (am_lv hl h1) (ihK _ _ _ _ _ _ _ _ _ h2 hl hWd)
  | aload q =>
    cases (show len = 2 by simpa [am_len] using hlen); obtain ⟨x, h1, h2⟩ := hst
    cases x with
    | none => exact lv_aloadN hx hb hd (am_lv hl h1) (ihK _ _ _ _ _ _ _ _ _ h2 hl hWd)
    | some a => exact lv_aload hx hb hd (am_lv hl h1) (ihK _ _ _ _ _ _ _ _ _ h2 hl hWd)
  | istore_n q => cases (show len = 1 by simpa [am_len] using hlen); obtain ⟨x, r, rfl, h1, h2⟩ := hst; exact lv_istore_n hx hb hd rfl hl h1 rfl (fun ls' hl' => ihK _ _ _ _ _ _ _ _ _ h2 hl' hWd)
  | istore q => cases (show len = 2 by simpa [am_len] using hlen); obtain ⟨x, r, rfl, h1, h2⟩ := hst; exact lv_istore hx hb hd hl h1 rfl (fun ls' hl' => ihK _ _ _ _ _ _ _ _ _ h2 hl' hWd)
  | lstore_n q => cases (show len = 1 by simpa [am_len] using hlen); obtain ⟨x, r, rfl, h1, h2⟩ := hst; exact lv_lstore_n hx hb hd rfl hl h1 rfl (fun ls' hl' => ihK _ _ _ _ _ _ _ _ _ h2 hl' hWd)
  | lstore q => cases (show len = 2 by simpa [am_len] using hlen); obtain ⟨x, r, rfl, h1, h2⟩ := hst; exact lv_lstore hx hb hd hl h1 rfl (fun ls' hl' => ihK _ _ _ _ _ _ _ _ _ h2 hl' hWd)
  | astore_n q =>
    cases (show len = 1 by simpa [am_len] using hlen); obtain ⟨x, r, rfl, h1, h2⟩ := hst
    cases x with
    | none => exact lv_astore_nN hx hb hd rfl hl h1 rfl (fun ls' hl' => ihK _ _ _ _ _ _ _ _ _ h2 hl' hWd)
    | some a => exact lv_astore_n hx hb hd rfl hl h1 rfl (fun ls' hl' => ihK _ _ _ _ _ _ _ _ _ h2 hl' hWd)
  | astore q =>
    cases (show len = 2 by simpa [am_len] using hlen); obtain ⟨x, r, rfl, h1, h2⟩ := hst
    cases x with
    | none => exact lv_astoreN hx hb hd hl h1 rfl (fun ls' hl' => ihK _ _ _ _ _ _ _ _ _ h2 hl' hWd)
    | some a => exact lv_astore hx hb hd hl h1 rfl (fun ls' hl' => ihK _ _ _ _ _ _ _ _ _ h2 hl' hWd)
  | iinc q w =>
    cases (show len = 3 by simpa [am_len] using hlen); obtain ⟨x, h1, h2⟩ := hst
    obtain ⟨k9, hk9⟩ := List.getElem?_of_mem h1
    have hlt : q < am_ml m := by rw [← hl.1]; exact (Array.getElem?_eq_some_iff.mp (am_lv hl h1)).1
    exact lv_iinc hx hb hd hl hk9 rfl hlt rfl (fun ls' hl' => ihK _ _ _ _ _ _ _ _ _ h2 hl' hWd)
  | iadd => cases (show len = 1 by simpa [am_len] using hlen); obtain ⟨x, y, w, r, rfl, h1, h2⟩ := hst; cases h1; exact lv_iadd hx hb hd (ihK _ _ _ _ _ _ _ _ _ h2 hl hWd)
  | isub => cases (show len = 1 by simpa [am_len] using hlen); obtain ⟨x, y, w, r, rfl, h1, h2⟩ := hst; cases h1; exact lv_isub hx hb hd (ihK _ _ _ _ _ _ _ _ _ h2 hl hWd)
  | imul => cases (show len = 1 by simpa [am_len] using hlen); obtain ⟨x, y, w, r, rfl, h1, h2⟩ := hst; cases h1; exact lv_imul hx hb hd (ihK _ _ _ _ _ _ _ _ _ h2 hl hWd)
  | iand => cases (show len = 1 by simpa [am_len] using hlen); obtain ⟨x, y, w, r, rfl, h1, h2⟩ := hst; cases h1; exact lv_iand hx hb hd (ihK _ _ _ _ _ _ _ _ _ h2 hl hWd)
  | ior => cases (show len = 1 by simpa [am_len] using hlen); obtain ⟨x, y, w, r, rfl, h1, h2⟩ := hst; cases h1; exact lv_ior hx hb hd (ihK _ _ _ _ _ _ _ _ _ h2 hl hWd)
  | ixor => cases (show len = 1 by simpa [am_len] using hlen); obtain ⟨x, y, w, r, rfl, h1, h2⟩ := hst; cases h1; exact lv_ixor hx hb hd (ihK _ _ _ _ _ _ _ _ _ h2 hl hWd)
  | ishl => cases (show len = 1 by simpa [am_len] using hlen); obtain ⟨x, y, w, r, rfl, h1, h2⟩ := hst; cases h1; exact lv_ishl hx hb hd (ihK _ _ _ _ _ _ _ _ _ h2 hl hWd)
  | ishr => cases (show len = 1 by simpa [am_len] using hlen); obtain ⟨x, y, w, r, rfl, h1, h2⟩ := hst; cases h1; exact lv_ishr hx hb hd (ihK _ _ _ _ _ _ _ _ _ h2 hl hWd)
  | iushr => cases (show len = 1 by simpa [am_len] using hlen); obtain ⟨x, y, w, r, rfl, h1, h2⟩ := hst; exact lv_iushr hx hb hd (Option.some.inj h1) (ihK _ _ _ _ _ _ _ _ _ h2 hl hWd)
  | idiv =>
    cases (show len = 1 by simpa [am_len] using hlen); obtain ⟨x, y, w, r, rfl, h1, h2⟩ := hst
    by_cases hy : y = 0
    · simp [am_ib, hy] at h1
    · simp only [am_ib, if_neg hy, Option.some.injEq] at h1; subst h1; exact lv_idiv hx hb hd hy (ihK _ _ _ _ _ _ _ _ _ h2 hl hWd)
  | irem =>
    cases (show len = 1 by simpa [am_len] using hlen); obtain ⟨x, y, w, r, rfl, h1, h2⟩ := hst
    by_cases hy : y = 0
    · simp [am_ib, hy] at h1
    · simp only [am_ib, if_neg hy, Option.some.injEq] at h1; subst h1; exact lv_irem hx hb hd hy (ihK _ _ _ _ _ _ _ _ _ h2 hl hWd)
  | ladd => cases (show len = 1 by simpa [am_len] using hlen); obtain ⟨x, y, w, r, rfl, h1, h2⟩ := hst; cases h1; exact lv_ladd hx hb hd (ihK _ _ _ _ _ _ _ _ _ h2 hl hWd)
  | lsub => cases (show len = 1 by simpa [am_len] using hlen); obtain ⟨x, y, w, r, rfl, h1, h2⟩ := hst; cases h1; exact lv_lsub hx hb hd (ihK _ _ _ _ _ _ _ _ _ h2 hl hWd)
  | lmul => cases (show len = 1 by simpa [am_len] using hlen); obtain ⟨x, y, w, r, rfl, h1, h2⟩ := hst; cases h1; exact lv_lmul hx hb hd (ihK _ _ _ _ _ _ _ _ _ h2 hl hWd)
  | ldiv =>
    cases (show len = 1 by simpa [am_len] using hlen); obtain ⟨x, y, w, r, rfl, h1, h2⟩ := hst
    by_cases hy : y = 0
    · simp [am_lb, hy] at h1
    · simp only [am_lb, if_neg hy, Option.some.injEq] at h1; subst h1; exact lv_ldiv hx hb hd hy (ihK _ _ _ _ _ _ _ _ _ h2 hl hWd)
  | lshl => cases (show len = 1 by simpa [am_len] using hlen); obtain ⟨x, y, r, rfl, h2⟩ := hst; exact lv_lshl hx hb hd rfl (ihK _ _ _ _ _ _ _ _ _ h2 hl hWd)
  | i2l => cases (show len = 1 by simpa [am_len] using hlen); obtain ⟨x, r, rfl, h2⟩ := hst; exact lv_i2l hx hb hd rfl (ihK _ _ _ _ _ _ _ _ _ h2 hl hWd)
  | l2i => cases (show len = 1 by simpa [am_len] using hlen); obtain ⟨x, r, rfl, h2⟩ := hst; exact lv_l2i hx hb hd rfl (ihK _ _ _ _ _ _ _ _ _ h2 hl hWd)
  | lcmp => cases (show len = 1 by simpa [am_len] using hlen); obtain ⟨x, y, r, rfl, h2⟩ := hst; exact W.lcmp hx hb hd (ihK _ _ _ _ _ _ _ _ _ h2 hl hWd)
  | ifCond cc off =>
    cases (show len = 3 by simpa [am_len] using hlen); obtain ⟨x, r, rfl, h1, h2⟩ := hst
    simp only [am_ok, decide_eq_true_eq] at hok
    cases cc with
    | eq => exact lv_if_eq hx hb hd hok (fun h => ihK _ _ _ _ _ _ _ _ _ (h1 h) hl hWd) (fun h => ihK _ _ _ _ _ _ _ _ _ (h2 h) hl hWd)
    | ne => exact lv_if_ne hx hb hd hok (fun h => ihK _ _ _ _ _ _ _ _ _ (h1 h) hl hWd) (fun h => ihK _ _ _ _ _ _ _ _ _ (h2 (fun q => q h)) hl hWd)
    | lt => exact lv_if_lt hx hb hd hok (fun h => ihK _ _ _ _ _ _ _ _ _ (h1 h) hl hWd) (fun h => ihK _ _ _ _ _ _ _ _ _ (h2 h) hl hWd)
    | ge => exact lv_if_ge hx hb hd hok (fun h => ihK _ _ _ _ _ _ _ _ _ (h1 h) hl hWd) (fun h => ihK _ _ _ _ _ _ _ _ _ (h2 h) hl hWd)
    | gt => exact lv_if_gt hx hb hd hok (fun h => ihK _ _ _ _ _ _ _ _ _ (h1 h) hl hWd) (fun h => ihK _ _ _ _ _ _ _ _ _ (h2 h) hl hWd)
    | le => exact lv_if_le hx hb hd hok (fun h => ihK _ _ _ _ _ _ _ _ _ (h1 h) hl hWd) (fun h => ihK _ _ _ _ _ _ _ _ _ (h2 h) hl hWd)
  | if_icmp cc off =>
    cases (show len = 3 by simpa [am_len] using hlen); obtain ⟨x, y, r, rfl, h1, h2⟩ := hst
    simp only [am_ok, decide_eq_true_eq] at hok
    cases cc with
    | eq => exact lv_icmp_eq hx hb hd hok (fun h => ihK _ _ _ _ _ _ _ _ _ (h1 h) hl hWd) (fun h => ihK _ _ _ _ _ _ _ _ _ (h2 h) hl hWd)
    | ne => exact lv_icmp_ne hx hb hd hok (fun h => ihK _ _ _ _ _ _ _ _ _ (h1 h) hl hWd) (fun h => ihK _ _ _ _ _ _ _ _ _ (h2 (fun q => q h)) hl hWd)
    | lt => exact lv_icmp_lt hx hb hd hok (fun h => ihK _ _ _ _ _ _ _ _ _ (h1 h) hl hWd) (fun h => ihK _ _ _ _ _ _ _ _ _ (h2 h) hl hWd)
    | ge => exact lv_icmp_ge hx hb hd hok (fun h => ihK _ _ _ _ _ _ _ _ _ (h1 h) hl hWd) (fun h => ihK _ _ _ _ _ _ _ _ _ (h2 h) hl hWd)
    | gt => exact lv_icmp_gt hx hb hd hok (fun h => ihK _ _ _ _ _ _ _ _ _ (h1 h) hl hWd) (fun h => ihK _ _ _ _ _ _ _ _ _ (h2 h) hl hWd)
    | le => exact lv_icmp_le hx hb hd hok (fun h => ihK _ _ _ _ _ _ _ _ _ (h1 h) hl hWd) (fun h => ihK _ _ _ _ _ _ _ _ _ (h2 h) hl hWd)
  | if_acmp cc off =>
    cases (show len = 3 by simpa [am_len] using hlen)
    simp only [am_ok, decide_eq_true_eq] at hok
    cases cc with
    | eq => obtain ⟨x, y, r, rfl, h1, h2⟩ := hst; exact lv_acmp_eq hx hb hd hok (fun h => ihK _ _ _ _ _ _ _ _ _ (h1 h) hl hWd) (fun h => ihK _ _ _ _ _ _ _ _ _ (h2 h) hl hWd)
    | ne => exact hst.elim
  | goto off =>
    cases (show len = 3 by simpa [am_len] using hlen)
    simp only [am_ok, decide_eq_true_eq] at hok
    exact lv_goto hx hb hd hok (ihK _ _ _ _ _ _ _ _ _ hst hl hWd)
  | tableswitch d lo hi offs =>
    obtain ⟨x, r, rfl, h1, h2⟩ := hst
    by_cases ho : x.toInt < lo ∨ hi < x.toInt
    · obtain ⟨t, ht, h3⟩ := h1 ho
      exact lv_tableOut hx hb hd ho ht (ihK _ _ _ _ _ _ _ _ _ h3 hl hWd)
    · have h4 : ¬ x.toInt < lo := fun q => ho (Or.inl q)
      have h5 : ¬ hi < x.toInt := fun q => ho (Or.inr q)
      obtain ⟨o, t, hoff, ht, h3⟩ := h2 h4 h5
      exact lv_tableIn hx hb hd h4 h5 hoff ht (ihK _ _ _ _ _ _ _ _ _ h3 hl hWd)
  | getfield ix =>
    cases (show len = 3 by simpa [am_len] using hlen)
    obtain ⟨a, r, fs, v, rfl, h1, h2, h3⟩ := hst
    simp only [am_ok] at hok
    split at hok
    next o ix2 rf ci kf wi hrow =>
      simp only [Bool.and_eq_true, decide_eq_true_eq] at hok
      obtain ⟨rfl, rfl, rfl, rfl⟩ := hok
      obtain ⟨f1, f2, f3, f4, f5⟩ := am_fl hVm args hrow
      obtain ⟨q0, hq0⟩ := am_mem h1
      exact va_get hx hb hts (am_uws _ (List.mem_of_getElem? f1)) hown hK hP q0 hq0 f1 kf f3 f4 f5 h2 hd (ihK _ _ _ _ _ _ _ _ _ h3 hl hWd)
    next => cases hok
  | putfield ix =>
    cases (show len = 3 by simpa [am_len] using hlen)
    obtain ⟨v, a, r, q, fs, rfl, h1, h2, hfit, h3⟩ := hst
    simp only [am_ok] at hok
    split at hok
    next o ix2 rf ci kf wi hrow =>
      simp only [Bool.and_eq_true, decide_eq_true_eq, Bool.or_eq_true, Bool.not_eq_true'] at hok
      obtain ⟨rfl, rfl, rfl, rfl, hfin⟩ := hok
      obtain ⟨f1, f2, f3, f4, f5⟩ := am_fl hVm args hrow
      simp only [am_fit, Bool.and_eq_true, decide_eq_true_eq] at hfit
      rcases hfin with hfin | ⟨hini, hdecl⟩
      · exact va_put hx hb hts (am_uws _ (List.mem_of_getElem? f1)) (am_ty ci) (am_tyok ci f2) (am_nmok ci f2) hown hK hP hD hSS q h1 f1 kf f3 f4 f5 hfin (am_tyok ci f2 kf f3) hfit.2 hfit.1 h2 hd (fun H1 locs1 k1 k2 k3 => ihK _ _ _ _ _ _ _ _ _ h3 hl ⟨k1, k2, k3⟩)
      · cases hf : ((am_cl ci).2.1 kf).2.2.2 with
        | false => exact va_put hx hb hts (am_uws _ (List.mem_of_getElem? f1)) (am_ty ci) (am_tyok ci f2) (am_nmok ci f2) hown hK hP hD hSS q h1 f1 kf f3 f4 f5 hf (am_tyok ci f2 kf f3) hfit.2 hfit.1 h2 hd (fun H1 locs1 k1 k2 k3 => ihK _ _ _ _ _ _ _ _ _ h3 hl ⟨k1, k2, k3⟩)
        | true => exact va_putF hx hb hts (am_uws _ (List.mem_of_getElem? f1)) (am_ty ci) (am_tyok ci f2) (am_nmok ci f2) hown hK hP hD hSS q h1 f1 kf f3 f4 f5 hf (hname.trans hini) hdecl (am_tyok ci f2 kf f3) hfit.2 hfit.1 h2 hd (fun H1 locs1 k1 k2 k3 => ihK _ _ _ _ _ _ _ _ _ h3 hl ⟨k1, k2, k3⟩)
    next => cases hok
  | getstatic ix =>
    cases (show len = 3 by simpa [am_len] using hlen)
    simp only [am_ok] at hok
    split at hok
    · rename_i hra; subst hra
      exact va_gets hx hb hOld.1.1 hSS hown (am_wl hVm args (of_decide_eq_true hok) rfl) (fun x h => h) hd (ihK _ _ _ _ _ _ _ _ _ hst hl hWd)
    · split at hok
      · rename_i hra; subst hra
        exact va_gets hx hb hOld.1.2.1 hSS hown (am_wl hVm args (of_decide_eq_true hok) rfl) (fun x h => h) hd (ihK _ _ _ _ _ _ _ _ _ hst hl hWd)
      · simp only [Bool.and_eq_true, decide_eq_true_eq] at hok
        obtain ⟨rfl, hok⟩ := hok
        exact va_gets hx hb hOld.1.2.2 hSS hown (am_wl hVm args hok rfl) (fun x h => h) hd (ihK _ _ _ _ _ _ _ _ _ hst hl hWd)
  | iaload =>
    cases (show len = 1 by simpa [am_len] using hlen)
    obtain ⟨jx, a, r, nn, f, rfl, h1, h2, h3⟩ := hst
    rcases h1 with h1 | ⟨jo, hjo, h1⟩
    · obtain ⟨q0, hq0⟩ := am_mem h1
      exact va_iald hx hb hK hP q0 0 hq0 rfl h2 hd (ihK _ _ _ _ _ _ _ _ _ h3 hl hWd)
    · obtain ⟨g1, g2, g3⟩ := hOld.2.1 jo hjo
      rw [h1] at g1 g2 g3
      exact va_sld hx hb g1 g2 g3 hSS h2 hd (ihK _ _ _ _ _ _ _ _ _ h3 hl hWd)
  | laload =>
    cases (show len = 1 by simpa [am_len] using hlen)
    obtain ⟨jx, a, r, nn, f, rfl, h1, h2, h3⟩ := hst
    obtain ⟨q0, hq0⟩ := am_mem h1
    exact va_lald hx hb hK hP q0 1 hq0 rfl h2 hd (ihK _ _ _ _ _ _ _ _ _ h3 hl hWd)
  | aaload =>
    cases (show len = 1 by simpa [am_len] using hlen)
    obtain ⟨jx, a, r, x, nn, f, rfl, hxx, h1, h2, h3⟩ := hst
    obtain ⟨q0, hq0⟩ := am_mem h1
    rcases hxx with rfl | rfl
    · exact va_aldq hx hb hK hP q0 2 hq0 rfl h2 hd (ihK _ _ _ _ _ _ _ _ _ h3 hl hWd)
    · exact va_aldq hx hb hK hP q0 3 hq0 rfl h2 hd (ihK _ _ _ _ _ _ _ _ _ h3 hl hWd)
  | iastore =>
    cases (show len = 1 by simpa [am_len] using hlen)
    obtain ⟨x, jx, a, r, q, nn, f, rfl, h1, h2, h3⟩ := hst
    exact va_iast hx hb hK hP hD hSS q 0 h1 rfl h2 hd (fun H1 locs1 k1 k2 k3 => ihK _ _ _ _ _ _ _ _ _ h3 hl ⟨k1, k2, k3⟩)
  | lastore =>
    cases (show len = 1 by simpa [am_len] using hlen)
    obtain ⟨x, jx, a, r, q, nn, f, rfl, h1, h2, h3⟩ := hst
    exact va_last hx hb hK hP hD hSS q 1 h1 rfl h2 hd (fun H1 locs1 k1 k2 k3 => ihK _ _ _ _ _ _ _ _ _ h3 hl ⟨k1, k2, k3⟩)
  | aastore =>
    cases (show len = 1 by simpa [am_len] using hlen)
    obtain ⟨v, jx, a, r, q, x, nn, ci, vs, f, rfl, hxx, hv, h1, h2, h3⟩ := hst
    obtain ⟨qk, hqk⟩ := am_mem hv
    rcases hxx with ⟨rfl, rfl⟩ | ⟨rfl, rfl⟩
    · exact va_astq hx hb hK hP hD hSS q 2 qk 9 h1 rfl hqk (show vwCl[9]? = some (am_cl 9) from rfl) h2 hd (fun H1 locs1 k1 k2 k3 => ihK _ _ _ _ _ _ _ _ _ h3 hl ⟨k1, k2, k3⟩)
    · exact va_astqO (E := "java/lang/Object") hx hb hK hP hD hSS q 3 qk 11 h1 rfl (show va_Nw (.castable (am_cl 11).1 "java/lang/Object") s from hVm.2.2.1 _ am_same.2.1 rfl) hqk (show vwCl[11]? = some (am_cl 11) from rfl) h2 hd (fun H1 locs1 k1 k2 k3 => ihK _ _ _ _ _ _ _ _ _ h3 hl ⟨k1, k2, k3⟩)
  | arraylength =>
    cases (show len = 1 by simpa [am_len] using hlen)
    obtain ⟨a, r, nn, rfl, h1, h3⟩ := hst
    rcases h1 with ⟨x, zz, hx4, h1⟩ | ⟨jo, f, hjo, h1⟩ | ⟨rfl, rfl⟩
    · obtain ⟨q0, hq0⟩ := am_mem h1
      have ht : ∃ ty, (am_tys X)[x]? = some (X x, ty) := by
        rcases (show x = 0 ∨ x = 1 ∨ x = 2 ∨ x = 3 by omega) with rfl | rfl | rfl | rfl <;> exact ⟨_, rfl⟩
      obtain ⟨ty, ht⟩ := ht
      exact va_alen hx hb hK hP q0 x hq0 ht rfl hd (ihK _ _ _ _ _ _ _ _ _ h3 hl hWd)
    · obtain ⟨g1, g2, g3⟩ := hOld.2.1 jo hjo
      rw [h1] at g1 g2 g3
      exact va_slen hx hb g1 g2 g3 hSS hd (ihK _ _ _ _ _ _ _ _ _ h3 hl hWd)
    · obtain ⟨cell, c1, c2, c3, c4⟩ := hOld.2.2.1
      have c5 : H[(O 3).1]? = some cell := by rw [hSS.2.1 _ (Array.getElem?_eq_some_iff.mp c1).1 c4]; exact c1
      exact W.alen hx hb c5 c2 (by rw [c3]) rfl rfl hd (ihK _ _ _ _ _ _ _ _ _ h3 hl hWd)
  | newarray ty =>
    cases (show len = 2 by simpa [am_len] using hlen)
    cases ty with
    | int =>
      obtain ⟨nn, r, rfl, hnn, hk1, hs1, h3⟩ := hst
      refine va_newa (atype := .int) (a0 := (nn, .inl (fun _ => 0))) (N' := nn) hx hb (am_word hVm args (List.mem_filter.mp am_same.2.2.1).1 rfl) rfl hK hP hD hSS hA (fun cA => rfl) (nI_pos (by omega)) (nI_clamp (by omega)) (show nn * 4 ≤ 536870912 by omega) (Nat.le_trans hk1 hRc) (Nat.le_trans hs1 hRs) hd (fun q cA H1 k0 k1 k2 k3 => ?_)
      have hcA : cA = X 0 := by
        have e1 := (k0.2 4 (cA, .int) rfl).2
        have e2 := (hK.2 0 (X 0, .int) rfl).2
        exact Option.some.inj (e1.symm.trans e2)
      subst hcA
      exact ihK _ _ _ _ _ _ _ _ _ (h3 q (am_freshP k2)) hl ⟨k1, k2, k3⟩
    | long =>
      obtain ⟨nn, r, rfl, hnn, hk1, hs1, h3⟩ := hst
      refine va_newa (atype := .long) (a0 := (nn, .inr (.inl (fun _ => 0)))) (N' := nn) hx hb (am_word hVm args (List.mem_filter.mp am_same.2.2.2).1 rfl) rfl hK hP hD hSS hA (fun cA => rfl) (nI_pos (by omega)) (nI_clamp (by omega)) (show nn * 8 ≤ 536870912 by omega) (Nat.le_trans hk1 hRc) (Nat.le_trans hs1 hRs) hd (fun q cA H1 k0 k1 k2 k3 => ?_)
      have hcA : cA = X 1 := by
        have e1 := (k0.2 4 (cA, .long) rfl).2
        have e2 := (hK.2 1 (X 1, .long) rfl).2
        exact Option.some.inj (e1.symm.trans e2)
      subst hcA
      exact ihK _ _ _ _ _ _ _ _ _ (h3 q (am_freshP k2)) hl ⟨k1, k2, k3⟩
    | _ => exact hst.elim
  | anewarray ix =>
    cases (show len = 3 by simpa [am_len] using hlen)
    obtain ⟨nn, r, rfl, hra, hnn, hk1, hs1, h3⟩ := hst
    simp only [am_ok, Bool.and_eq_true, decide_eq_true_eq] at hok
    rcases hra with rfl | rfl
    · refine va_newq (C := "TagRounds$Reader") (N' := nn) hx hb hown (am_wl hVm args hok.1 rfl) hVm.2.2.2.1 hK hP hD hSS hA (nI_pos (by omega)) (nI_clamp (by omega)) (by omega) (Nat.le_trans hk1 hRc) (Nat.le_trans hs1 hRs) hd (fun q cA H1 k0 k1 k2 k3 => ?_)
      have hcA : cA = X 2 := by
        obtain ⟨kA, comp, -, -, -, e1⟩ := (k0.2 4 (cA, .object "TagRounds$Reader") rfl).2
        obtain ⟨kB, comp2, -, -, -, e2⟩ := (hK.2 2 (X 2, .object "TagRounds$Reader") rfl).2
        exact Option.some.inj (e1.symm.trans e2)
      subst hcA
      exact ihK _ _ _ _ _ _ _ _ _ (h3 q (am_freshP k2)) hl ⟨k1, k2, k3⟩
    · refine va_newq (C := "java/lang/Object") (N' := nn) hx hb hown (am_wl hVm args hok.1 rfl) hVm.2.2.2.2.1 hK hP hD hSS hA (nI_pos (by omega)) (nI_clamp (by omega)) (by omega) (Nat.le_trans hk1 hRc) (Nat.le_trans hs1 hRs) hd (fun q cA H1 k0 k1 k2 k3 => ?_)
      have hcA : cA = X 3 := by
        obtain ⟨kA, comp, -, -, -, e1⟩ := (k0.2 4 (cA, .object "java/lang/Object") rfl).2
        obtain ⟨kB, comp2, -, -, -, e2⟩ := (hK.2 3 (X 3, .object "java/lang/Object") rfl).2
        exact Option.some.inj (e1.symm.trans e2)
      subst hcA
      exact ihK _ _ _ _ _ _ _ _ _ (h3 q (am_freshP k2)) hl ⟨k1, k2, k3⟩
  | new ix =>
    cases (show len = 3 by simpa [am_len] using hlen)
    simp only [am_step] at hst
    simp only [am_ok] at hok
    by_cases hra : ra = 0
    · rw [if_pos hra] at hst hok
      obtain ⟨rfl, hk1, hs1, hH, hF, hLc, hQ⟩ := hst
      simp only [Bool.and_eq_true, decide_eq_true_eq] at hok
      obtain ⟨hw, hrb, hth⟩ := hok
      simp only [am_thrOk, Bool.and_eq_true, List.any_eq_true, decide_eq_true_eq] at hth
      obtain ⟨⟨e1, m1, ⟨⟨p1, i1⟩, l1⟩⟩, ⟨e2, m2, ⟨⟨p2, i2⟩, l2⟩⟩, ⟨e3, m3, p3, l3, hic⟩⟩ := hth
      have g1 := hdec _ m1
      have g2 := hdec _ m2
      have g3 := hdec _ m3
      simp only [am_deOk, Bool.and_eq_true, decide_eq_true_eq] at g1 g2 g3
      split at hic
      next ic hicE =>
        refine hEt H locs k sl ws pc ix ic ls j.1.cls rb hQ hWd hk1 hs1 hrb hF hLc hH (hl.1.trans hml.symm) hown (of_decide_eq_true hic) (am_wl hVm args hw rfl) (by rw [hb]; exact hd) ?_ ?_ ?_
        · rw [hb, ← p1, ← i1, ← l1]; exact g1.1
        · rw [hb, ← p3, ← hicE, ← l3]; exact g3.1
        · rw [hb, ← p2, ← i2, ← l2]; exact g2.1
      next => cases hic
    · rw [if_neg hra] at hst hok
      obtain ⟨hk1, hs1, h3⟩ := hst
      simp only [Bool.and_eq_true, decide_eq_true_eq] at hok
      have hci : ra - 1 < 14 := by omega
      have hcl : vwCl[ra - 1]? = some (am_cl (ra - 1)) := by
        have : ra - 1 < vwCl.length := hci
        rw [List.getElem?_eq_getElem this]
        simp [am_cl, List.getD_eq_getElem?_getD, List.getElem?_eq_getElem this]
      obtain ⟨d1, d2⟩ := am_dlen _ hci
      rw [d1] at hs1 h3
      have hin := am_cls _ (List.mem_of_getElem? hcl)
      exact va_new hx hb hts (am_uws _ (List.mem_of_getElem? hcl)) (am_ty (ra - 1)) (am_tyok _ hci) hown (am_wl hVm args hok.1 rfl) (hts _ hin.1) (hts _ hin.2) hK hP hD hSS hA hcl d2 (Nat.le_trans hk1 hRc) (Nat.le_trans hs1 hRs) hd (fun q H1 k1 k2 k3 => ihK _ _ _ _ _ _ _ _ _ (h3 q (am_freshP k2)) hl ⟨k1, k2, k3⟩)
  | dup => cases (show len = 1 by simpa [am_len] using hlen); obtain ⟨v, r, rfl, h1, h2⟩ := hst; exact lv_dup hx hb hd h1 (ihK _ _ _ _ _ _ _ _ _ h2 hl hWd)
  | dup_x1 => cases (show len = 1 by simpa [am_len] using hlen); obtain ⟨v, w, r, rfl, h1, h2, h3⟩ := hst; exact lv_dup_x1 hx hb hd h1 h2 (ihK _ _ _ _ _ _ _ _ _ h3 hl hWd)
  | dup2 => cases (show len = 1 by simpa [am_len] using hlen); obtain ⟨v, w, r, rfl, h1, h2, h3⟩ := hst; exact lv_dup2_11 hx hb hd h1 h2 (ihK _ _ _ _ _ _ _ _ _ h3 hl hWd)
  | pop => cases (show len = 1 by simpa [am_len] using hlen); obtain ⟨v, r, rfl, h1, h2⟩ := hst; exact lv_pop hx hb hd h1 (ihK _ _ _ _ _ _ _ _ _ h2 hl hWd)
  | checkcast ix =>
    cases (show len = 3 by simpa [am_len] using hlen)
    obtain ⟨a, r, fs, rfl, h1, h3⟩ := hst
    simp only [am_ok, Bool.and_eq_true, decide_eq_true_eq] at hok
    obtain ⟨hok, rfl⟩ := hok
    obtain ⟨q0, hq0⟩ := am_mem h1
    exact va_castS hx hb hown (am_wl hVm args hok rfl) (hK.1 11 (am_cl 11) rfl).2 (va_recv hK hP (ci := 11) (q0 := q0) rfl hq0) hd (ihK _ _ _ _ _ _ _ _ _ h3 hl hWd)
  | invokespecial ix =>
    cases (show len = 3 by simpa [am_len] using hlen)
    simp only [am_step] at hst
    by_cases h5 : rb = 5
    · rw [if_pos h5] at hst
      obtain ⟨a, r, rfl, hw, hf, h3⟩ := hst
      simp only [am_ok, if_pos h5, decide_eq_true_eq] at hok
      refine W.objInit hx hb hown (am_wl hVm args hok rfl) (hts _ am_obj.1) (hts _ am_obj.2) rfl (hl.1.trans hml.symm) rfl hd (Nat.le_trans hf hRf) ?_ (ihK _ _ _ _ _ _ _ _ _ h3 hl hWd)
      have : am_wt r + 12 ≤ R.locals := Nat.le_trans hw hRl
      simpa [am_wt, JFrame.monitorRoom] using this
    · rw [if_neg h5] at hst
      obtain ⟨as, rest, rfl, has, h9, hsl, hwt, hrv, hri, hk, hs2, hF, hLc, hcl⟩ := hst
      have hm : rb = 2 ∨ rb = 3 := by
        by_cases h2 : rb = 2
        · exact Or.inl h2
        · by_cases h3 : rb = 3
          · exact Or.inr h3
          · exfalso
            simp only [am_ok, if_neg h5, if_neg h2, if_neg h3, decide_eq_true_eq] at hok
            exact h9 hok
      obtain ⟨Q1, hC1, hQ1⟩ := ihC _ _ _ _ hcl
      exact am_run (a := as.toArray) hz (am_crun ⟨hx, hb, hml, hown, hlocks, hname, hVm, hOld, hz, ⟨hRf, hRl, hRc, hRs⟩, hM, htr, hdec, hlnk⟩ hWd (Or.inl ⟨ix, rfl, hm⟩) hok hd hl.1 has hsl hwt hrv hri hk hs2 hF hLc hC1) hSS
        (fun v ws2 H1 locs1 hq hw => ihK _ _ _ _ _ _ _ _ _ (hQ1 _ _ hq) hl hw) (fun x ws2 H1 locs1 q ce hx4 hq hw hce hcv hcl2 => hthr _ _ _ _ _ _ _ _ _ _ _ _ (hQ1 _ _ hq) hl hw hx4 hce hcv hcl2)
  | invokevirtual ix =>
    cases (show len = 3 by simpa [am_len] using hlen)
    obtain ⟨as, rest, rfl, has, h9, hsl, hwt, hrv, hri, hk, hs2, hF, hLc, hcl⟩ := hst
    have hm : rb = 1 := by
      simp only [am_ok, Bool.or_eq_true, Bool.and_eq_true, decide_eq_true_eq] at hok
      rcases hok with h | h
      · exact h.1
      · exact absurd h h9
    obtain ⟨Q1, hC1, hQ1⟩ := ihC _ _ _ _ hcl
    exact am_run (a := as.toArray) hz (am_crun ⟨hx, hb, hml, hown, hlocks, hname, hVm, hOld, hz, ⟨hRf, hRl, hRc, hRs⟩, hM, htr, hdec, hlnk⟩ hWd (Or.inr (Or.inl ⟨ix, rfl, hm⟩)) hok hd hl.1 has hsl hwt hrv hri hk hs2 hF hLc hC1) hSS
      (fun v ws2 H1 locs1 hq hw => ihK _ _ _ _ _ _ _ _ _ (hQ1 _ _ hq) hl hw) (fun x ws2 H1 locs1 q ce hx4 hq hw hce hcv hcl2 => hthr _ _ _ _ _ _ _ _ _ _ _ _ (hQ1 _ _ hq) hl hw hx4 hce hcv hcl2)
  | invokestatic ix =>
    cases (show len = 3 by simpa [am_len] using hlen)
    simp only [am_step] at hst
    by_cases h6 : rb = 6
    · sorry
    · rw [if_neg h6] at hst
      obtain ⟨as, rest, rfl, has, h9, hsl, hwt, hrv, hri, hk, hs2, hF, hLc, hcl⟩ := hst
      have hm : rb = 0 ∨ rb = 4 := by
        by_cases h2 : rb = 0 ∨ rb = 4
        · exact h2
        · exfalso
          simp only [am_ok, if_neg h2, if_neg h6, decide_eq_true_eq] at hok
          exact h9 hok
      obtain ⟨Q1, hC1, hQ1⟩ := ihC _ _ _ _ hcl
      exact am_run (a := as.toArray) hz (am_crun ⟨hx, hb, hml, hown, hlocks, hname, hVm, hOld, hz, ⟨hRf, hRl, hRc, hRs⟩, hM, htr, hdec, hlnk⟩ hWd (Or.inr (Or.inr ⟨ix, rfl, hm⟩)) hok hd hl.1 has hsl hwt hrv hri hk hs2 hF hLc hC1) hSS
        (fun v ws2 H1 locs1 hq hw => ihK _ _ _ _ _ _ _ _ _ (hQ1 _ _ hq) hl hw) (fun x ws2 H1 locs1 q ce hx4 hq hw hce hcv hcl2 => hthr _ _ _ _ _ _ _ _ _ _ _ _ (hQ1 _ _ hq) hl hw hx4 hce hcv hcl2)
  | ireturn =>
    cases (show len = 1 by simpa [am_len] using hlen)
    obtain ⟨x, rfl, h1, h2, h3, h4⟩ := hst
    exact hEi H locs k sl ws pc ls x h4 hWd h2 h3 (by rw [hb]; exact hd) h1
  | areturn =>
    cases (show len = 1 by simpa [am_len] using hlen)
    obtain ⟨x, rfl, h1, h2, h3, h4⟩ := hst
    exact hEa H locs k sl ws pc ls x h4 hWd h2 h3 (by rw [hb]; exact hd) h1
  | return_ =>
    cases (show len = 1 by simpa [am_len] using hlen)
    obtain ⟨rfl, h1, h2, h3, h4⟩ := hst
    exact hEv H locs k sl ws pc ls h4 hWd h2 h3 (by rw [hb]; exact hd) h1
  | _ => exact hst.elim
