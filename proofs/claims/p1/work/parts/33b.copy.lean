/-! Arrays.copyOf of a row of objects that holds tags. -/
def am_gC : MethodName := ⟨"java/lang/Object", "getClass", "()Ljava/lang/Class;"⟩
def am_cy2 : MethodName := ⟨"java/util/Arrays", "copyOf", "([Ljava/lang/Object;I)[Ljava/lang/Object;"⟩
def am_cy3 : MethodName := ⟨"java/util/Arrays", "copyOf", "([Ljava/lang/Object;ILjava/lang/Class;)[Ljava/lang/Object;"⟩
def am_rtO : Option FieldType := some (.array (.object "java/lang/Object"))
def am_cW2 : Cond := .code am_cy2 prog_30_method_119_code 2 am_rtO
def am_cW3 : Cond := .code am_cy3 prog_30_method_120_code 4 am_rtO
def am_cwL : List Cond := [am_cW2, am_cW3, .static am_cy2, .static am_cy3, .initialized "java/util/Arrays", .methodLink "java/util/ArrayList" 66 am_cy2, .methodLink "java/util/Arrays" 86 am_gC, .selects "[Ljava/lang/Object;" am_gC am_gC, .instanceMethod am_gC, .native am_gC,
  .methodLink "java/util/Arrays" 300 am_cy3, .classLink "java/util/Arrays" 110 "[Ljava/lang/Object;", .classLink "java/util/Arrays" 2 "java/lang/Object", .methodLink "java/util/Arrays" 304 Lib.Math.min.name, .static Lib.Math.min.name, .initialized "java/lang/Math",
  .code Lib.Math.min.name Lib.Math.min.code 2 (some .int), .methodLink "java/util/Arrays" 150 arraycopyName, .native arraycopyName, .static arraycopyName, .initialized "java/lang/System"]
theorem am_c2In : am_cW2 ∈ am_cwL := List.mem_cons_self
theorem am_c3In : am_cW3 ∈ am_cwL := List.mem_cons_of_mem _ List.mem_cons_self
theorem am_cwIn : ∀ w ∈ am_cwL, w ∈ lw_tbl := by decide +kernel
theorem am_cwGd : ∀ w ∈ am_cwL, goodWord w = true := by decide +kernel
theorem am_cwDc : Cond.declares am_gC ∈ lw_tbl := by decide +kernel
theorem am_c2_0 : decode prog_30_method_119_code 0 = .ok (.aload_n 0, 1) := by decide +kernel
theorem am_c2_1 : decode prog_30_method_119_code 1 = .ok (.iload_n 1, 1) := by decide +kernel
theorem am_c2_2 : decode prog_30_method_119_code 2 = .ok (.aload_n 0, 1) := by decide +kernel
theorem am_c2_3 : decode prog_30_method_119_code 3 = .ok (.invokevirtual 86, 3) := by decide +kernel
theorem am_c2_6 : decode prog_30_method_119_code 6 = .ok (.invokestatic 300, 3) := by decide +kernel
theorem am_c2_9 : decode prog_30_method_119_code 9 = .ok (.areturn, 1) := by decide +kernel
theorem am_c3_0 : decode prog_30_method_120_code 0 = .ok (.aload_n 2, 1) := by decide +kernel
theorem am_c3_1 : decode prog_30_method_120_code 1 = .ok (.ldc 110, 2) := by decide +kernel
theorem am_c3_3 : decode prog_30_method_120_code 3 = .ok (.if_acmp .ne 10, 3) := by decide +kernel
theorem am_c3_6 : decode prog_30_method_120_code 6 = .ok (.iload_n 1, 1) := by decide +kernel
theorem am_c3_7 : decode prog_30_method_120_code 7 = .ok (.anewarray 2, 3) := by decide +kernel
theorem am_c3_10 : decode prog_30_method_120_code 10 = .ok (.goto 14, 3) := by decide +kernel
theorem am_c3_24 : decode prog_30_method_120_code 24 = .ok (.astore_n 3, 1) := by decide +kernel
theorem am_c3_25 : decode prog_30_method_120_code 25 = .ok (.aload_n 0, 1) := by decide +kernel
theorem am_c3_26 : decode prog_30_method_120_code 26 = .ok (.iconst 0, 1) := by decide +kernel
theorem am_c3_27 : decode prog_30_method_120_code 27 = .ok (.aload_n 3, 1) := by decide +kernel
theorem am_c3_28 : decode prog_30_method_120_code 28 = .ok (.iconst 0, 1) := by decide +kernel
theorem am_c3_29 : decode prog_30_method_120_code 29 = .ok (.aload_n 0, 1) := by decide +kernel
theorem am_c3_30 : decode prog_30_method_120_code 30 = .ok (.arraylength, 1) := by decide +kernel
theorem am_c3_31 : decode prog_30_method_120_code 31 = .ok (.iload_n 1, 1) := by decide +kernel
theorem am_c3_32 : decode prog_30_method_120_code 32 = .ok (.invokestatic 304, 3) := by decide +kernel
theorem am_c3_35 : decode prog_30_method_120_code 35 = .ok (.invokestatic 150, 3) := by decide +kernel
theorem am_c3_38 : decode prog_30_method_120_code 38 = .ok (.aload_n 3, 1) := by decide +kernel
theorem am_c3_39 : decode prog_30_method_120_code 39 = .ok (.areturn, 1) := by decide +kernel
def am_cRm3 (n : Nat) : Room := { frames := 1, cells := 1, slots := n, locals := 60 }
def am_cRm2 (n : Nat) : Room := { frames := 2, cells := 1, slots := n, locals := 100 }
/-- the copy -/
def am_cpC (X : Nat → ClassId) (n cn : Nat) (f : Nat → Option Nat) : va_E := .inl (X 3, n, .inr (.inr (.inr (.inr (fun j => if j < cn then f j else none)))))
def am_cpQ (D : va_G) (X : Nat → ClassId) (z : Nat) (ws : va_W) (n cn : Nat) (f : Nat → Option Nat) : Array Value → State → Outcome → State → Prop := fun _ st o t => ∃ b : Nat, o = .returned (some (.ref b)) ∧ am_fresh ws b ∧
  va_P D vwCl (ws ++ [(b, am_cpC X n cn f)]) t.heap ∧ va_D (am_A z) (ws ++ [(b, am_cpC X n cn f)]) ∧ va_F (am_A z) st t
theorem am_setLast (ws : va_W) (x y : Nat × va_E) : (ws ++ [x]).set ws.length y = ws ++ [y] := by
  rw [List.set_append_right _ _ (Nat.le_refl _)]
  simp
set_option maxHeartbeats 4000000 in
set_option maxRecDepth 100000 in
theorem am_cp3 {l : Launch} {D : va_G} {X : Nat → ClassId} {O : am_O} {z a n cn mi : Nat} {f : Nat → Option Nat} {ws : va_W} (hma : (a, .inl (X 3, cn, .inr (.inr (.inr (.inr f))))) ∈ ws)
    (hf : ∀ i, i < cn → ∀ y, f i = some y → ∃ vs, (y, .inr (11, vs)) ∈ ws) (hcn : cn ≤ n) (hn : n ≤ 1000000) :
    vx_Met l am_cy3 [am_cW3] (am_cRm3 n) (va_Pc [.ref a, .int (nI n), .ref mi] (fun U => am_Vm D X U ∧ am_Old O z U U.heap ∧ z ≤ U.heap.size ∧ va_P D vwCl ws U.heap ∧ va_D (am_A z) ws ∧ va_Mi "[Ljava/lang/Object;" mi U))
      (am_cpQ D X z ws n cn f) (fun _ _ _ => False) 1 n (am_A z) := by
  refine vx_ofW (cc := prog_30_method_120_code) (maxL := 4) (ret := am_rtO) rfl rfl ?_
  intro p e s m args below meth c s₁ B hml htab hPc
  obtain ⟨rfl, hVm, hOld, hz, hP, hD, hMi⟩ := hPc
  have hx := B.exec
  have hb := B.bytes
  have hown : s.vm.findClass "java/util/Arrays" = some m.cls := findClass_of_methodNamed B.named
  have hK : va_K D vwCl (am_tys X) s := hVm.1
  have hw : ∀ w ∈ am_cwL, w.before (List.toArray [.ref a, .int (nI n), .ref mi]) s = true := fun w hw => am_word hVm _ (am_cwIn w hw) (am_cwGd w hw)
  have hA : ∀ q, s.heap.size ≤ q → am_A z q := fun q h => Nat.le_trans hz h
  have hSS : va_S (am_A z) s.heap s.heap [] := va_S.rf
  obtain ⟨q0, hq0⟩ := am_mem hma
  have hl : lv_has _ 4 (lv_args 0 [Value.ref a, .int (nI n), .ref mi]) := lv_entry [Value.ref a, .int (nI n), .ref mi] (n := 4) (Nat.le_of_ble_eq_true rfl)
  rw [lg_entry_eq]
  generalize ((lg_sl [Value.ref a, .int (nI n), .ref mi] ++ List.replicate (4 - (lg_sl [Value.ref a, .int (nI n), .ref mi]).length) Slot.unset).toArray) = ls at hl ⊢
  have hls : ls.size = 4 := hl.1
  refine lv_aload_n hx hb am_c3_0 (i := 2) rfl (am_lv (v := .ref mi) hl (by simp [lv_args, Value.category])) ?_
  refine va_ldcM hx hb hown (hw _ (by simp [am_cwL])) hMi am_c3_1 ?_
  refine lv_acmp_ne (rx := some mi) (ry := some mi) (tgt := 13) hx hb am_c3_3 rfl (fun h => absurd rfl h) (fun _ => ?_)
  refine lv_iload_n hx hb am_c3_6 (i := 1) rfl (am_lv (v := .int (nI n)) hl (by simp [lv_args, Value.category])) ?_
  refine va_newq (C := "java/lang/Object") (N' := n) hx hb hown (hw _ (by simp [am_cwL])) hVm.2.2.2.2.1 hK hP hD hSS hA (nI_pos (by omega)) (nI_clamp (by omega)) (by omega) (by show 0 + 1 ≤ 1; omega) (by show 0 + n ≤ n; omega) am_c3_7 (fun q cA H1 k0 k1 k2 k3 => ?_)
  have hcA : cA = X 3 := by
    obtain ⟨kA, comp, -, -, -, e1⟩ := (k0.2 4 (cA, .object "java/lang/Object") rfl).2
    obtain ⟨kB, comp2, -, -, -, e2⟩ := (hK.2 3 (X 3, .object "java/lang/Object") rfl).2
    exact Option.some.inj (e1.symm.trans e2)
  subst hcA
  refine lv_goto (tgt := 24) hx hb am_c3_10 rfl ?_
  refine lv_astore_n (i := 3) (nL := 4) hx hb am_c3_24 rfl hl (by decide) rfl (fun ls2 hl2 => ?_)
  have hls2 : ls2.size = 4 := hl2.1
  refine lv_aload_n hx hb am_c3_25 (i := 0) rfl (am_lv (v := .ref a) hl2 (by simp [lv_args, Value.category])) ?_
  refine lv_iconst hx hb am_c3_26 (v := 0) rfl ?_
  refine lv_aload_n hx hb am_c3_27 (i := 3) rfl (am_lv (v := .ref q) hl2 (by simp [lv_args, Value.category])) ?_
  refine lv_iconst hx hb am_c3_28 (v := 0) rfl ?_
  refine lv_aload_n hx hb am_c3_29 (i := 0) rfl (am_lv (v := .ref a) hl2 (by simp [lv_args, Value.category])) ?_
  have hq1 : (ws ++ [(q, (.inl (X 3, n, .inr (.inr (.inr (.inr (fun _ => none))))) : va_E))])[q0]? = some (a, .inl (X 3, cn, .inr (.inr (.inr (.inr f))))) := by
    rw [List.getElem?_append_left (List.getElem?_eq_some_iff.mp hq0).1]; exact hq0
  have hq2 : (ws ++ [(q, (.inl (X 3, n, .inr (.inr (.inr (.inr (fun _ => none))))) : va_E))])[ws.length]? = some (q, .inl (X 3, n, .inr (.inr (.inr (.inr (fun _ => none)))))) := by simp
  refine va_alen (v := Int32.ofNat cn) hx hb hK k1 q0 3 hq1 (ty := .object "java/lang/Object") rfl rfl am_c3_30 ?_
  refine lv_iload_n hx hb am_c3_31 (i := 1) rfl (am_lv (v := .int (nI n)) hl2 (by simp [lv_args, Value.category])) ?_
  refine va_mmin hx hb (hml.trans hls2.symm) hown (hw _ (by simp [am_cwL])) (hw _ (by simp [am_cwL])) (hw _ (by simp [am_cwL])) (hw _ (by simp [am_cwL])) (Nat.le_refl _) (by show _ + 13 ≤ 60; simp [Value.category]) (by show 0 + 1 ≤ 1; omega) (by show 0 + n ≤ n; omega) am_c3_32 ?_
  have hmin : (if nI n < Int32.ofNat cn then nI n else Int32.ofNat cn) = nI cn := by
    by_cases h : nI n < Int32.ofNat cn
    · exfalso
      have h2 : Int32.ofNat cn = nI cn := rfl
      rw [h2, Int32.lt_iff_toInt_lt, nI_toInt (by omega), nI_toInt (by omega)] at h
      omega
    · rw [if_neg h]; rfl
  rw [hmin]
  have hcl : (nI cn).toNatClampNeg = cn := nI_clamp (by omega)
  have h00 : (0 : Int32).toNatClampNeg = 0 := by decide
  refine va_copyq (C := (am_cl 11).1) hx hb (hml.trans hls2.symm) hown (hw _ (by simp [am_cwL])) (hw _ (by simp [am_cwL])) (hw _ (by simp [am_cwL])) (hw _ (by simp [am_cwL])) hK k1 k2 k3 q0 ws.length 3 3 hq1 hq2 (E0 := "java/lang/Object") (E1 := "java/lang/Object") rfl rfl
    (by decide) (by decide) (nI_pos (by omega)) (by rw [h00, hcl]; omega) (by rw [h00, hcl]; omega) ?_ ?_ (Nat.le_refl _) (by show 0 + (nativeFrameWords "java/lang/System" "arraycopy" 5 + 11) ≤ 60; decide) am_c3_35 ?_
  · intro i hi y hy
    rw [hcl] at hi
    rw [h00, Nat.zero_add] at hy
    obtain ⟨vs, hvs⟩ := hf i hi y hy
    obtain ⟨qk, hqk⟩ := am_mem hvs
    exact va_recv (ci := 11) (q0 := qk) (fs := vs) (q := am_cl 11) hK k1 rfl (by rw [List.getElem?_append_left (List.getElem?_eq_some_iff.mp hqk).1]; exact hqk)
  · intro comp c0 e1 e2
    obtain ⟨c1, t1, f1, f2, f3⟩ := Cond.castable_spec (va_Nw.use (A := #[]) rfl (show va_Nw (.castable (am_cl 11).1 "java/lang/Object") s from hVm.2.2.1 _ am_same.2.1 rfl))
    cases e2.symm.trans f1
    cases e1.symm.trans f2
    exact f3
  intro H2 locs2 w1 w2 w3
  rw [am_setLast, h00, hcl] at w1 w2
  have hcpy : (va_cpy f (fun _ => none) 0 0 cn : Nat → Option Nat) = fun j => if j < cn then f j else none := by
    funext j
    simp [va_cpy]
  rw [hcpy] at w1 w2
  refine lv_aload_n hx hb am_c3_38 (i := 3) rfl (am_lv (v := .ref q) hl2 (by simp [lv_args, Value.category])) ?_
  refine W.widen (by show 0 + 1 ≤ 1; omega) (by show 0 + n ≤ n; omega) (vx_ret ?_)
  exact W.aret hx rfl B.returns (Or.inr ⟨_, rfl⟩) (Or.inr ⟨q, rfl⟩) (fun t ht hw => ⟨q, rfl, am_freshP k2, by rw [ht]; exact w1, w2, w3.F ht⟩) w3.2.2 (by rw [hb]; exact am_c3_39) B.notSynchronized
section CPR
variable {p : Program} {l : Launch} {e : Env} {R : Room} {s : State} {mi : MethodId} {args : Array Value} {below : List Frame} {meth : Method} {c : Code} {H : Heap} {locs : List Loc} {k sl : Nat} {QQ : State → Prop}
variable {D : va_G} {X : Nat → ClassId} {O : am_O} {z : Nat}
/-- behind the copy -/
theorem am_cpRun {pc n cn : Nat} {ls : Array Slot} {st rest : List Value} {a : Array Value} {ws : va_W} {f : Nat → Option Nat}
    (hr : vx_Run p l e R s mi args below meth c H locs k sl 1 n (F0 mi pc ls st) rest (am_cpQ D X z ws n cn f a) (fun _ _ _ => False) (am_A z)) (hS : va_S (am_A z) s.heap H locs)
    (kk : ∀ (b : Nat) (H1 : Heap) (locs1 : List Loc), am_fresh ws b → am_Wd D z s (ws ++ [(b, am_cpC X n cn f)]) H1 locs1 → W p l e R s mi args below meth c H1 locs1 (k + 1) (sl + n) QQ (F0 mi (pc + 3) ls (.ref b :: rest))) :
    W p l e R s mi args below meth c H locs k sl QQ (F0 mi pc ls st) := by
  intro T hT X9
  rcases hr T hT X9 with ⟨v, st₀, t, T', L, h0, X', hL, e1, e2, ⟨b, hv, hfr, hP, hD, hF⟩, go⟩ | ⟨q, st₀, t, T', L, E, ce, h0, X', hL, e1, e2, hf, -⟩
  · cases hv
    obtain ⟨-, -, k3⟩ := vx_keep (A0 := am_A z) (A1 := am_A z) (free := am_A z) h0 e1 hS (fun _ _ h => h) (fun _ h => h) hL hF
    obtain ⟨t2, a1, b1⟩ := kk b T'.heap (locs ++ L) hfr ⟨by rw [e1]; exact hP, hD, k3⟩ T' rfl X'
    exact ⟨t2, go t2 a1, b1⟩
  · exact hf.elim
end CPR
theorem am_cw3At {s : State} {args : Array Value} (h : am_cW3.before args s = true) : ∀ w ∈ [am_cW3], ∀ (a' : Array Value) (U : State), s.WarmedH U.vm → w.before a' U = true := by
  intro w hw a' U hW
  rw [List.mem_singleton] at hw
  subst hw
  exact word_at hW (good_of_word (am_cwGd am_cW3 am_c3In)) h
theorem am_cw2At {s : State} {args : Array Value} (h : am_cW2.before args s = true) : ∀ w ∈ [am_cW2], ∀ (a' : Array Value) (U : State), s.WarmedH U.vm → w.before a' U = true := by
  intro w hw a' U hW
  rw [List.mem_singleton] at hw
  subst hw
  exact word_at hW (good_of_word (am_cwGd am_cW2 am_c2In)) h
theorem am_cyD3 : (parseMethodDescriptor am_cy3.desc).map (fun g => g.parameters.length) = some 3 := by decide +kernel
theorem am_cyD2 : (parseMethodDescriptor am_cy2.desc).map (fun g => g.parameters.length) = some 2 := by decide +kernel
set_option maxHeartbeats 4000000 in
set_option maxRecDepth 100000 in
theorem am_cp2 {l : Launch} {D : va_G} {X : Nat → ClassId} {O : am_O} {z a n cn : Nat} {f : Nat → Option Nat} {ws : va_W} (hma : (a, .inl (X 3, cn, .inr (.inr (.inr (.inr f))))) ∈ ws)
    (hf : ∀ i, i < cn → ∀ y, f i = some y → ∃ vs, (y, .inr (11, vs)) ∈ ws) (hcn : cn ≤ n) (hn : n ≤ 1000000) :
    vx_Met l am_cy2 [am_cW2] (am_cRm2 n) (am_Pc D X O z [.ref a, .int (nI n)] ws) (am_cpQ D X z ws n cn f) (fun _ _ _ => False) 1 n (am_A z) := by
  refine vx_ofW (cc := prog_30_method_119_code) (maxL := 2) (ret := am_rtO) rfl rfl ?_
  intro p e s m args below meth c s₁ B hml htab hPc
  obtain ⟨rfl, hVm, hOld, hz, hP, hD⟩ := hPc
  have hMi : va_Mi "[Ljava/lang/Object;" (O 4).1 s := hOld.2.2.2.2.2
  have hx := B.exec
  have hb := B.bytes
  have hown : s.vm.findClass "java/util/Arrays" = some m.cls := findClass_of_methodNamed B.named
  have hK : va_K D vwCl (am_tys X) s := hVm.1
  have hw : ∀ w ∈ am_cwL, w.before (List.toArray [.ref a, .int (nI n)]) s = true := fun w hw => am_word hVm _ (am_cwIn w hw) (am_cwGd w hw)
  have hSS : va_S (am_A z) s.heap s.heap [] := va_S.rf
  obtain ⟨q0, hq0⟩ := am_mem hma
  have hl : lv_has _ 2 (lv_args 0 [Value.ref a, .int (nI n)]) := lv_entry [Value.ref a, .int (nI n)] (n := 2) (Nat.le_of_ble_eq_true rfl)
  rw [lg_entry_eq]
  generalize ((lg_sl [Value.ref a, .int (nI n)] ++ List.replicate (2 - (lg_sl [Value.ref a, .int (nI n)]).length) Slot.unset).toArray) = ls at hl ⊢
  have hls : ls.size = 2 := hl.1
  refine lv_aload_n hx hb am_c2_0 (i := 0) rfl (am_lv (v := .ref a) hl (by simp [lv_args, Value.category])) ?_
  refine lv_iload_n hx hb am_c2_1 (i := 1) rfl (am_lv (v := .int (nI n)) hl (by simp [lv_args, Value.category])) ?_
  refine lv_aload_n hx hb am_c2_2 (i := 0) rfl (am_lv (v := .ref a) hl (by simp [lv_args, Value.category])) ?_
  refine va_getC (C := "[Ljava/lang/Object;") (mi := (O 4).1) hx hb (hml.trans hls.symm) hown (hw (.methodLink "java/util/Arrays" 86 am_gC) (by simp [am_cwL])) (va_Nw.use rfl (hVm.2.2.1 _ am_cwDc rfl)) (hw (.selects "[Ljava/lang/Object;" am_gC am_gC) (by simp [am_cwL])) (hw (.instanceMethod am_gC) (by simp [am_cwL])) (hw (.native am_gC) (by simp [am_cwL])) hMi
    ⟨_, hP q0 _ hq0, rfl, va_nmO (hK.2 3 (X 3, .object "java/lang/Object") rfl).2 (by decide)⟩ (by show 1 ≤ 2; omega) (by show _ + 14 ≤ 100; simp [Value.category]) am_c2_3 ?_
  have hfx : CallFix p m c prog_30_method_119_code 2 s (List.toArray [.ref a, .int (nI n)]) (lw_tbl.filter goodWord) "java/util/Arrays" := ⟨hx, hb, hml, hown, fun w hw => am_word hVm _ (List.mem_filter.mp hw).1 (List.mem_filter.mp hw).2⟩
  refine am_cpRun (vx_runS (n := 3) (As := [.ref a, .int (nI n), .ref (O 4).1]) (rest := []) hfx (am_cp3 (l := l) (O := O) (z := z) (mi := (O 4).1) (D := D) hma hf hcn hn)
    ⟨⟨rfl, rfl, Nat.le_refl _, by show 8 + (4 + 11) + 60 ≤ 100; omega, am_cw3At (hw _ am_c3In), List.mem_singleton.mpr rfl, hw am_cW3 am_c3In, hw (.initialized "java/util/Arrays") (by simp [am_cwL]), ⟨by decide, by decide⟩, fun sig h => ?_, hw (.methodLink "java/util/Arrays" 300 am_cy3) (by simp [am_cwL])⟩, hw (.static am_cy3) (by simp [am_cwL])⟩ ⟨?_, ?_⟩ rfl rfl hls rfl ?_ am_c2_6 ⟨by show 0 + 1 ≤ 1; omega, by show 0 + n ≤ n; omega⟩) hSS (fun b H1 locs1 hfr hW => ?_)
  · have h1 := am_cyD3
    rw [h] at h1
    exact (Option.some.inj h1).symm
  · intro a' U g mk h
    obtain ⟨h0, h1, h2, h3, h4, h5, h6⟩ := h
    exact ⟨h0, am_Vm.warm (s := U) (U := U.calling g mk a') (State.WarmedH.refl U) h1, am_Old.moved (u := U) (U := U.calling g mk a') (Vm.Alike.refl U.vm) h2, h3, h4, h5, va_Mi.moved (u := U) (U := U.calling g mk a') (Vm.Alike.refl U.vm) h6⟩
  · intro U hU hv
    refine ⟨rfl, am_Vm.warm hv hVm, ?_, ?_, ?_, hD, va_Mi.moved hv.alike hMi⟩
    · rw [hU]; exact am_Old.moved hv.alike hOld
    · rw [hU]; exact hz
    · rw [hU]; exact hP
  · exact lv_room (by decide)
  obtain ⟨w1, w2, w3⟩ := hW
  refine W.widen (by show 0 + 1 ≤ 1; omega) (by show 0 + n ≤ n; omega) (vx_ret ?_)
  exact W.aret hx rfl B.returns (Or.inr ⟨_, rfl⟩) (Or.inr ⟨b, rfl⟩) (fun t ht hw => ⟨b, rfl, hfr, by rw [ht]; exact w1, w2, w3.F ht⟩) w3.2.2 (by rw [hb]; exact am_c2_9) B.notSynchronized
