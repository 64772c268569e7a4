/-! THE START: what the Statement gives, as the simulation wants it. -/
theorem w0_eqi {args : Array Value} {s : State} {t : Term} {z : Int32} (h : (Cond.eq t (.int z)).before args s = true) : t.eval args s none [] s = some (.int z) := by
  cases hv : t.eval args s none [] s with
  | none => simp [Cond.before, Cond.holds, Cond.value, hv] at h
  | some w =>
    have hz : (Term.int z).eval args s none [] s = some (.int z) := rfl
    simp only [Cond.before, Cond.holds, Cond.value, hv, hz] at h
    cases w <;> simp_all
theorem w0_len {args : Array Value} {s : State} {t : Term} {n : Int32} (h : (Term.length t).eval args s none [] s = some (.int n)) : ∃ (a : Addr) (cell : Cell), t.eval args s none [] s = some (.ref a) ∧ s.arrayAt? a = some cell ∧ cell.slots.size < 2 ^ 31 ∧ cell.slots.size.toInt32 = n := by
  cases hv : t.eval args s none [] s with
  | none => simp [Term.eval, hv] at h
  | some w =>
    cases w with
    | ref a =>
      cases hc : s.arrayAt? a with
      | none => simp [Term.eval, hv, hc] at h
      | some cell =>
        by_cases hn : cell.slots.size < 2 ^ 31
        · refine ⟨a, cell, rfl, hc, hn, ?_⟩
          simpa [Term.eval, hv, hc, hn] using h
        · simp [Term.eval, hv, hc, hn] at h
    | _ => simp [Term.eval, hv] at h
theorem w0_el {args : Array Value} {s : State} {t : Term} {a : Addr} {cell : Cell} {j v : Int32} (ht : t.eval args s none [] s = some (.ref a)) (hc : s.arrayAt? a = some cell) (h : (Term.elem t (.int j)).eval args s none [] s = some (.int v)) : cell.slots[j.toNatClampNeg]? = some (.int v) := by
  have hz : (Term.int j).eval args s none [] s = some (.int j) := rfl
  by_cases hj : j < 0
  · simp [Term.eval, ht, hj] at h
  · simpa [Term.eval, ht, hc, hj] using h
theorem w0_size {n L : Nat} (h : n < 2 ^ 31) (hL : L < 2 ^ 31) (e : n.toInt32 = nI L) : n = L := by
  have h1 : (Int32.ofNat n).toInt = (n : Int) := an_ofNat (by omega)
  have h2 : (Int32.ofNat L).toInt = (L : Int) := an_ofNat (by omega)
  have h3 : Int32.ofNat n = Int32.ofNat L := e
  rw [h3, h2] at h1
  omega
/-- a static row of ints -/
theorem w0_row {args : Array Value} {s : State} {C n d : String} {L : Nat} {f : Nat → Int32} {A : Nat → Prop} (hL : L < 100) (hl : (Cond.laysStatic C n d).before args s = true) (hini : (Cond.initialized C).before args s = true) (harr : (Cond.arrayOf (.static C n d) .int).before args s = true)
    (hlen : (Cond.eq (.length (.static C n d)) (.int (nI L))).before args s = true) (hel : ∀ j, j < L → (Cond.eq (.elem (.static C n d) (.int (nI j))) (.int (f j))).before args s = true) (hA : ∀ a : Nat, a < s.heap.size → ¬ A a) : ∃ t : Nat, va_Z C n d (.ref t) A s s.heap ∧ va_X t L f s s.heap ∧ t < s.heap.size := by
  obtain ⟨t, cell, h1, h2, h3, h4⟩ := w0_len (w0_eqi hlen)
  obtain ⟨g1, g2, g3, g4⟩ := State.arrayAt?_spec h2
  have hsz := w0_size h3 (by omega) h4
  refine ⟨t, va_Zref hl hini h1 hA, ⟨cell, g1, (Cond.arrayOf_spec harr h1 g1).1, g2, hsz, fun j hj => ?_⟩, (Array.getElem?_eq_some_iff.mp g1).1⟩
  have h5 := w0_el h1 h2 (w0_eqi (hel j hj))
  rw [show (nI j).toNatClampNeg = j from nI_clamp (by omega)] at h5
  exact h5
theorem w0_ex {ci : Nat} {q : vw_C} (h : vwCl[ci]? = some q) : ci < 14 ∧ q = am_cl ci := by
  have h1 : ci < vwCl.length := (List.getElem?_eq_some_iff.mp h).1
  refine ⟨h1, ?_⟩
  simp only [am_cl, List.getD_eq_getElem?_getD, h, Option.getD_some]
/-- what holds at the law's entry, its name too -/
def w0_At (p : Program) (s : State) (m : MethodId) (meth : Method) (c : Code) (b L : Nat) (xs : Nat → Int32) : Prop :=
  p.tables.exec = Jvm.exec ∧ c.code = code ∧ meth.sig.returnType = ret ∧ c.maxLocals = 7 ∧ s.vm.findClass R_law = some m.cls ∧ (∀ w ∈ lw_tbl, w.before #[Value.ref b] s = true) ∧ va_X b L xs s s.heap ∧ b < s.heap.size ∧ meth.locks = false ∧ (Jvm.Cond.and given_1 narrow_1).before #[Value.ref b] s = true ∧ meth.name = "law"
def w0_f1 : Nat → Int32 := fun j => ([0, 0, 3, 2, 1, 1, 3, 3] : List Int32).getD j 0
def w0_f2 : Nat → Int32 := fun j => ([1, 3, 1, 3, 0, 3, 0, 2] : List Int32).getD j 0
def w0_X (c0 c1 c2 c3 : ClassId) : Nat → ClassId := fun j => match j with
  | 0 => c0
  | 1 => c1
  | 2 => c2
  | _ => c3
def w0_O (b L : Nat) (xs : Nat → Int32) (t1 t2 t3 t4 : Nat) : am_O := fun j => match j with
  | 0 => (b, L, xs)
  | 1 => (t1, 8, w0_f1)
  | 2 => (t2, 8, w0_f2)
  | 3 => (t3, 0, fun _ => 0)
  | 4 => (t4, 0, fun _ => 0)
  | c + 5 => (t4, 0, fun i => rt_a (Int32.ofNat i) (Int32.ofInt ((c : Int) - 1)))
theorem w0_bySt {args : Array Value} {s : State} {w : Cond} (hw : w ∈ lw_tbl) (hts : ∀ w ∈ lw_tbl, w.before args s = true) (hg : am_ngw w = true) : va_Nw w s := by
  have h := hts w hw
  cases w <;> first | exact va_any rfl h | (simp [am_ngw] at hg)
set_option maxHeartbeats 4000000 in
set_option maxRecDepth 100000 in
theorem w0_vm {p : Program} {s : State} {m : MethodId} {meth : Method} {c : Code} {b L : Nat} {xs : Nat → Int32} (C0 : w0_At p s m meth c b L xs) : ∃ (D : va_G) (X : Nat → ClassId) (t1 t2 t3 t4 : Nat), am_Vm D X s ∧ am_Old (w0_O b L xs t1 t2 t3 t4) s.heap.size s s.heap := by
  obtain ⟨hx, hb, hret, hml, hown, hts, hX, hbl, hlocks, hgv, hname⟩ := C0
  have hs := flat_of_before _ hgv
  have hts2 : ∀ w ∈ lw_tbl.filter goodWord, w.before #[Value.ref b] s = true := fun w hw => hts w (List.mem_filter.mp hw).1
  have hA : ∀ a : Nat, a < s.heap.size → ¬ am_A s.heap.size a := fun a ha h => absurd h (Nat.not_le.mpr ha)
  -- the classes
  have hcl : ∀ ci : Nat, ∃ q : ClassId × (Nat → Nat), ci < 14 → u_Kn s (am_cl ci).1 (am_cl ci).2.1 (am_cl ci).2.2 q.1 q.2 := by
    intro ci
    by_cases h : ci < 14
    · have hm : am_cl ci ∈ vwCl := by
        have h1 : ci < vwCl.length := h
        refine List.mem_of_getElem? (i := ci) ?_
        simp [am_cl, List.getD_eq_getElem?_getD, List.getElem?_eq_getElem h1]
      obtain ⟨cC, iS, h2⟩ := u_known hts2 (am_uws _ hm) (hts2 _ (am_cls _ hm).1)
      exact ⟨(cC, iS), fun _ => h2⟩
    · exact ⟨(m.cls, fun _ => 0), fun h2 => absurd h2 h⟩
  obtain ⟨F, hF⟩ := Classical.axiomOfChoice hcl
  obtain ⟨c0, k0, m0, a1, a2, a3⟩ := Cond.arrayClass_spec (hts2 _ am_same.2.2.1)
  obtain ⟨c1, k1, m1, b1, b2, b3⟩ := Cond.arrayClass_spec (hts2 _ am_same.2.2.2)
  have hao2 : (Cond.arrayOver (.object "TagRounds$Reader")).before #[Value.ref b] s = true := hts _ am_ao2
  have hao3 : (Cond.arrayOver (.object "java/lang/Object")).before #[Value.ref b] s = true := hts _ am_ao3
  obtain ⟨m2, c2, k2, d1, -, d3, d4, d5⟩ := Cond.arrayOver_spec hao2
  obtain ⟨m3, c3, k3, e1, -, e3, e4, e5⟩ := Cond.arrayOver_spec hao3
  -- the rows of before
  obtain ⟨t1, z1, x1, l1⟩ := w0_row (A := am_A s.heap.size) (L := 8) (f := w0_f1) (by omega) (hts _ am_ls1) (hts2 _ am_in1) (hs _ (by decide +kernel)) (hs _ (by decide +kernel)) (fun j hj => by
    rcases (show j = 0 ∨ j = 1 ∨ j = 2 ∨ j = 3 ∨ j = 4 ∨ j = 5 ∨ j = 6 ∨ j = 7 by omega) with rfl | rfl | rfl | rfl | rfl | rfl | rfl | rfl <;> exact hs _ (by decide +kernel)) hA
  obtain ⟨t2, z2, x2, l2⟩ := w0_row (A := am_A s.heap.size) (L := 8) (f := w0_f2) (by omega) (hts _ am_ls2) (hts2 _ am_in1) (hs _ (by decide +kernel)) (hs _ (by decide +kernel)) (fun j hj => by
    rcases (show j = 0 ∨ j = 1 ∨ j = 2 ∨ j = 3 ∨ j = 4 ∨ j = 5 ∨ j = 6 ∨ j = 7 by omega) with rfl | rfl | rfl | rfl | rfl | rfl | rfl | rfl <;> exact hs _ (by decide +kernel)) hA
  have hD : (Cond.eq (.length (.static "java/util/ArrayList" "DEFAULTCAPACITY_EMPTY_ELEMENTDATA" "[Ljava/lang/Object;")) (.int 0)).before #[Value.ref b] s = true := hs _ (by decide +kernel)
  have hDa : (Cond.arrayOf (.static "java/util/ArrayList" "DEFAULTCAPACITY_EMPTY_ELEMENTDATA" "[Ljava/lang/Object;") (.object "java/lang/Object")).before #[Value.ref b] s = true := hs _ (by decide +kernel)
  obtain ⟨t3, cell, h1, h2, h3, h4⟩ := w0_len (w0_eqi hD)
  obtain ⟨g1, g2, g3, g4⟩ := State.arrayAt?_spec h2
  have hsz : cell.slots.size = 0 := w0_size (L := 0) h3 (by omega) h4
  obtain ⟨t4, hM4⟩ := va_Mi.of (C := "[Ljava/lang/Object;") (args := #[Value.ref b]) (s := s) (hs _ (by decide +kernel))
  refine ⟨(fun ci => (F ci).1, fun ci => (F ci).2), w0_X c0 c1 c2 c3, t1, t2, t3, t4, ⟨⟨fun ci q hq => ?_, fun k q hq => ?_⟩, fun w hw hg => ?_, fun w hw hg => w0_bySt hw hts hg, ?_, ?_, fun i j hi hj hij => ?_⟩, ⟨z1, z2, va_Zref (hts _ am_ls3) (hts2 _ am_in3) h1 hA⟩, fun j hj => ?_, ⟨cell, g1, (Cond.arrayOf_spec hDa h1 g1).1, hsz, hA _ (Array.getElem?_eq_some_iff.mp g1).1⟩, ?_, ?_, hM4⟩
  · obtain ⟨hci, rfl⟩ := w0_ex hq
    exact hF ci hci
  · match k, hq with
    | 0, hq => cases hq; exact ⟨fun n z => ⟨fun k h => (by cases h), k0, a2, m0, a3⟩, a1⟩
    | 1, hq => cases hq; exact ⟨fun n z => ⟨fun k h => (by cases h), k1, b2, m1, b3⟩, b1⟩
    | 2, hq => cases hq; exact ⟨fun n z => ⟨fun k h => (by cases h), k2, d3, m2, d4⟩, k2, m2, d3, d4, d1, d5⟩
    | 3, hq => cases hq; exact ⟨fun n z => ⟨fun k h => (by cases h), k3, e3, m3, e4⟩, k3, m3, e3, e4, e1, e5⟩
    | k + 4, hq => simp [am_tys] at hq
  · exact word_at (State.WarmedH.refl s) (good_of_word hg) (hts w hw)
  · exact va_AO.of hao2
  · exact va_AO.of hao3
  · rcases (show i = 0 ∨ i = 1 ∨ i = 2 ∨ i = 3 by omega) with rfl | rfl | rfl | rfl <;> rcases (show j = 0 ∨ j = 1 ∨ j = 2 ∨ j = 3 by omega) with rfl | rfl | rfl | rfl <;> first | exact absurd rfl hij | exact va_Nc.of (hs _ (by decide +kernel))
  · match j, hj with
    | 0, _ => exact ⟨hX, hbl, hA _ hbl⟩
    | 1, _ => exact ⟨x1, l1, hA _ l1⟩
    | 2, _ => exact ⟨x2, l2, hA _ l2⟩
    | j + 3, hj => omega
  · exact vx_Zqof (hts _ am_ls4) (hts2 _ am_in9) (hs _ (by decide +kernel)) hA
  · exact vx_Zqof (hts _ am_ls5) (hts2 _ am_in9) (hs _ (by decide +kernel)) hA
