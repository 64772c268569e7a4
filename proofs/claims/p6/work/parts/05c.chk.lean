def am_tys (X : Nat → ClassId) : List (ClassId × FieldType) := [(X 0, .int), (X 1, .long), (X 2, .object "TagRounds$Reader"), (X 3, .object "java/lang/Object")]
def am_ngw : Cond → Bool
  | .castable .. | .declares .. | .methodLinkNest .. => true
  | _ => false
set_option maxRecDepth 100000 in
theorem am_tyok0 : ∀ k, k < (am_cl 0).2.2 → parseFieldDescriptor ((am_cl 0).2.1 k).2.2.1 = some (am_ty 0 k) := by decide +kernel
set_option maxRecDepth 100000 in
theorem am_nmB0 : (List.range (am_cl 0).2.2).all (fun a => (List.range a).all (fun b => decide (((am_cl 0).2.1 a).2.1 ≠ ((am_cl 0).2.1 b).2.1))) = true := by decide +kernel
set_option maxRecDepth 100000 in
theorem am_dlen0 : (am_dflt 0).length = (am_cl 0).2.2 ∧ (∀ k, k < (am_cl 0).2.2 → defaultValue (am_ty 0 k) = vp_V (am_dflt 0) k) := by decide +kernel
set_option maxRecDepth 100000 in
theorem am_tyok1 : ∀ k, k < (am_cl 1).2.2 → parseFieldDescriptor ((am_cl 1).2.1 k).2.2.1 = some (am_ty 1 k) := by decide +kernel
set_option maxRecDepth 100000 in
theorem am_nmB1 : (List.range (am_cl 1).2.2).all (fun a => (List.range a).all (fun b => decide (((am_cl 1).2.1 a).2.1 ≠ ((am_cl 1).2.1 b).2.1))) = true := by decide +kernel
set_option maxRecDepth 100000 in
theorem am_dlen1 : (am_dflt 1).length = (am_cl 1).2.2 ∧ (∀ k, k < (am_cl 1).2.2 → defaultValue (am_ty 1 k) = vp_V (am_dflt 1) k) := by decide +kernel
set_option maxRecDepth 100000 in
theorem am_tyok2 : ∀ k, k < (am_cl 2).2.2 → parseFieldDescriptor ((am_cl 2).2.1 k).2.2.1 = some (am_ty 2 k) := by decide +kernel
set_option maxRecDepth 100000 in
theorem am_nmB2 : (List.range (am_cl 2).2.2).all (fun a => (List.range a).all (fun b => decide (((am_cl 2).2.1 a).2.1 ≠ ((am_cl 2).2.1 b).2.1))) = true := by decide +kernel
set_option maxRecDepth 100000 in
theorem am_dlen2 : (am_dflt 2).length = (am_cl 2).2.2 ∧ (∀ k, k < (am_cl 2).2.2 → defaultValue (am_ty 2 k) = vp_V (am_dflt 2) k) := by decide +kernel
set_option maxRecDepth 100000 in
theorem am_tyok3 : ∀ k, k < (am_cl 3).2.2 → parseFieldDescriptor ((am_cl 3).2.1 k).2.2.1 = some (am_ty 3 k) := by decide +kernel
set_option maxRecDepth 100000 in
theorem am_nmB3 : (List.range (am_cl 3).2.2).all (fun a => (List.range a).all (fun b => decide (((am_cl 3).2.1 a).2.1 ≠ ((am_cl 3).2.1 b).2.1))) = true := by decide +kernel
set_option maxRecDepth 100000 in
theorem am_dlen3 : (am_dflt 3).length = (am_cl 3).2.2 ∧ (∀ k, k < (am_cl 3).2.2 → defaultValue (am_ty 3 k) = vp_V (am_dflt 3) k) := by decide +kernel
set_option maxRecDepth 100000 in
theorem am_tyok4 : ∀ k, k < (am_cl 4).2.2 → parseFieldDescriptor ((am_cl 4).2.1 k).2.2.1 = some (am_ty 4 k) := by decide +kernel
set_option maxRecDepth 100000 in
theorem am_nmB4 : (List.range (am_cl 4).2.2).all (fun a => (List.range a).all (fun b => decide (((am_cl 4).2.1 a).2.1 ≠ ((am_cl 4).2.1 b).2.1))) = true := by decide +kernel
set_option maxRecDepth 100000 in
theorem am_dlen4 : (am_dflt 4).length = (am_cl 4).2.2 ∧ (∀ k, k < (am_cl 4).2.2 → defaultValue (am_ty 4 k) = vp_V (am_dflt 4) k) := by decide +kernel
set_option maxRecDepth 100000 in
theorem am_tyok5 : ∀ k, k < (am_cl 5).2.2 → parseFieldDescriptor ((am_cl 5).2.1 k).2.2.1 = some (am_ty 5 k) := by decide +kernel
set_option maxRecDepth 100000 in
theorem am_nmB5 : (List.range (am_cl 5).2.2).all (fun a => (List.range a).all (fun b => decide (((am_cl 5).2.1 a).2.1 ≠ ((am_cl 5).2.1 b).2.1))) = true := by decide +kernel
set_option maxRecDepth 100000 in
theorem am_dlen5 : (am_dflt 5).length = (am_cl 5).2.2 ∧ (∀ k, k < (am_cl 5).2.2 → defaultValue (am_ty 5 k) = vp_V (am_dflt 5) k) := by decide +kernel
set_option maxRecDepth 100000 in
theorem am_tyok6 : ∀ k, k < (am_cl 6).2.2 → parseFieldDescriptor ((am_cl 6).2.1 k).2.2.1 = some (am_ty 6 k) := by decide +kernel
set_option maxRecDepth 100000 in
theorem am_nmB6 : (List.range (am_cl 6).2.2).all (fun a => (List.range a).all (fun b => decide (((am_cl 6).2.1 a).2.1 ≠ ((am_cl 6).2.1 b).2.1))) = true := by decide +kernel
set_option maxRecDepth 100000 in
theorem am_dlen6 : (am_dflt 6).length = (am_cl 6).2.2 ∧ (∀ k, k < (am_cl 6).2.2 → defaultValue (am_ty 6 k) = vp_V (am_dflt 6) k) := by decide +kernel
set_option maxRecDepth 100000 in
theorem am_tyok7 : ∀ k, k < (am_cl 7).2.2 → parseFieldDescriptor ((am_cl 7).2.1 k).2.2.1 = some (am_ty 7 k) := by decide +kernel
set_option maxRecDepth 100000 in
theorem am_nmB7 : (List.range (am_cl 7).2.2).all (fun a => (List.range a).all (fun b => decide (((am_cl 7).2.1 a).2.1 ≠ ((am_cl 7).2.1 b).2.1))) = true := by decide +kernel
set_option maxRecDepth 100000 in
theorem am_dlen7 : (am_dflt 7).length = (am_cl 7).2.2 ∧ (∀ k, k < (am_cl 7).2.2 → defaultValue (am_ty 7 k) = vp_V (am_dflt 7) k) := by decide +kernel
set_option maxRecDepth 100000 in
theorem am_tyok8 : ∀ k, k < (am_cl 8).2.2 → parseFieldDescriptor ((am_cl 8).2.1 k).2.2.1 = some (am_ty 8 k) := by decide +kernel
set_option maxRecDepth 100000 in
theorem am_nmB8 : (List.range (am_cl 8).2.2).all (fun a => (List.range a).all (fun b => decide (((am_cl 8).2.1 a).2.1 ≠ ((am_cl 8).2.1 b).2.1))) = true := by decide +kernel
set_option maxRecDepth 100000 in
theorem am_dlen8 : (am_dflt 8).length = (am_cl 8).2.2 ∧ (∀ k, k < (am_cl 8).2.2 → defaultValue (am_ty 8 k) = vp_V (am_dflt 8) k) := by decide +kernel
set_option maxRecDepth 100000 in
theorem am_tyok9 : ∀ k, k < (am_cl 9).2.2 → parseFieldDescriptor ((am_cl 9).2.1 k).2.2.1 = some (am_ty 9 k) := by decide +kernel
set_option maxRecDepth 100000 in
theorem am_nmB9 : (List.range (am_cl 9).2.2).all (fun a => (List.range a).all (fun b => decide (((am_cl 9).2.1 a).2.1 ≠ ((am_cl 9).2.1 b).2.1))) = true := by decide +kernel
set_option maxRecDepth 100000 in
theorem am_dlen9 : (am_dflt 9).length = (am_cl 9).2.2 ∧ (∀ k, k < (am_cl 9).2.2 → defaultValue (am_ty 9 k) = vp_V (am_dflt 9) k) := by decide +kernel
set_option maxRecDepth 100000 in
theorem am_tyok10 : ∀ k, k < (am_cl 10).2.2 → parseFieldDescriptor ((am_cl 10).2.1 k).2.2.1 = some (am_ty 10 k) := by decide +kernel
set_option maxRecDepth 100000 in
theorem am_nmB10 : (List.range (am_cl 10).2.2).all (fun a => (List.range a).all (fun b => decide (((am_cl 10).2.1 a).2.1 ≠ ((am_cl 10).2.1 b).2.1))) = true := by decide +kernel
set_option maxRecDepth 100000 in
theorem am_dlen10 : (am_dflt 10).length = (am_cl 10).2.2 ∧ (∀ k, k < (am_cl 10).2.2 → defaultValue (am_ty 10 k) = vp_V (am_dflt 10) k) := by decide +kernel
set_option maxRecDepth 100000 in
theorem am_tyok11 : ∀ k, k < (am_cl 11).2.2 → parseFieldDescriptor ((am_cl 11).2.1 k).2.2.1 = some (am_ty 11 k) := by decide +kernel
set_option maxRecDepth 100000 in
theorem am_nmB11 : (List.range (am_cl 11).2.2).all (fun a => (List.range a).all (fun b => decide (((am_cl 11).2.1 a).2.1 ≠ ((am_cl 11).2.1 b).2.1))) = true := by decide +kernel
set_option maxRecDepth 100000 in
theorem am_dlen11 : (am_dflt 11).length = (am_cl 11).2.2 ∧ (∀ k, k < (am_cl 11).2.2 → defaultValue (am_ty 11 k) = vp_V (am_dflt 11) k) := by decide +kernel
set_option maxRecDepth 100000 in
theorem am_tyok12 : ∀ k, k < (am_cl 12).2.2 → parseFieldDescriptor ((am_cl 12).2.1 k).2.2.1 = some (am_ty 12 k) := by decide +kernel
set_option maxRecDepth 100000 in
theorem am_nmB12 : (List.range (am_cl 12).2.2).all (fun a => (List.range a).all (fun b => decide (((am_cl 12).2.1 a).2.1 ≠ ((am_cl 12).2.1 b).2.1))) = true := by decide +kernel
set_option maxRecDepth 100000 in
theorem am_dlen12 : (am_dflt 12).length = (am_cl 12).2.2 ∧ (∀ k, k < (am_cl 12).2.2 → defaultValue (am_ty 12 k) = vp_V (am_dflt 12) k) := by decide +kernel
set_option maxRecDepth 100000 in
theorem am_tyok13 : ∀ k, k < (am_cl 13).2.2 → parseFieldDescriptor ((am_cl 13).2.1 k).2.2.1 = some (am_ty 13 k) := by decide +kernel
set_option maxRecDepth 100000 in
theorem am_nmB13 : (List.range (am_cl 13).2.2).all (fun a => (List.range a).all (fun b => decide (((am_cl 13).2.1 a).2.1 ≠ ((am_cl 13).2.1 b).2.1))) = true := by decide +kernel
set_option maxRecDepth 100000 in
theorem am_dlen13 : (am_dflt 13).length = (am_cl 13).2.2 ∧ (∀ k, k < (am_cl 13).2.2 → defaultValue (am_ty 13 k) = vp_V (am_dflt 13) k) := by decide +kernel
theorem am_tyok : ∀ ci, ci < 14 → ∀ k, k < (am_cl ci).2.2 → parseFieldDescriptor ((am_cl ci).2.1 k).2.2.1 = some (am_ty ci k) := by
  intro ci h
  rcases (show ci = 0 ∨ ci = 1 ∨ ci = 2 ∨ ci = 3 ∨ ci = 4 ∨ ci = 5 ∨ ci = 6 ∨ ci = 7 ∨ ci = 8 ∨ ci = 9 ∨ ci = 10 ∨ ci = 11 ∨ ci = 12 ∨ ci = 13 by omega) with rfl | rfl | rfl | rfl | rfl | rfl | rfl | rfl | rfl | rfl | rfl | rfl | rfl | rfl
  · exact am_tyok0
  · exact am_tyok1
  · exact am_tyok2
  · exact am_tyok3
  · exact am_tyok4
  · exact am_tyok5
  · exact am_tyok6
  · exact am_tyok7
  · exact am_tyok8
  · exact am_tyok9
  · exact am_tyok10
  · exact am_tyok11
  · exact am_tyok12
  · exact am_tyok13
theorem am_nmA : ∀ ci, ci < 14 → (List.range (am_cl ci).2.2).all (fun a => (List.range a).all (fun b => decide (((am_cl ci).2.1 a).2.1 ≠ ((am_cl ci).2.1 b).2.1))) = true := by
  intro ci h
  rcases (show ci = 0 ∨ ci = 1 ∨ ci = 2 ∨ ci = 3 ∨ ci = 4 ∨ ci = 5 ∨ ci = 6 ∨ ci = 7 ∨ ci = 8 ∨ ci = 9 ∨ ci = 10 ∨ ci = 11 ∨ ci = 12 ∨ ci = 13 by omega) with rfl | rfl | rfl | rfl | rfl | rfl | rfl | rfl | rfl | rfl | rfl | rfl | rfl | rfl
  · exact am_nmB0
  · exact am_nmB1
  · exact am_nmB2
  · exact am_nmB3
  · exact am_nmB4
  · exact am_nmB5
  · exact am_nmB6
  · exact am_nmB7
  · exact am_nmB8
  · exact am_nmB9
  · exact am_nmB10
  · exact am_nmB11
  · exact am_nmB12
  · exact am_nmB13
theorem am_dlen : ∀ ci, ci < 14 → (am_dflt ci).length = (am_cl ci).2.2 ∧ (∀ k, k < (am_cl ci).2.2 → defaultValue (am_ty ci k) = vp_V (am_dflt ci) k) := by
  intro ci h
  rcases (show ci = 0 ∨ ci = 1 ∨ ci = 2 ∨ ci = 3 ∨ ci = 4 ∨ ci = 5 ∨ ci = 6 ∨ ci = 7 ∨ ci = 8 ∨ ci = 9 ∨ ci = 10 ∨ ci = 11 ∨ ci = 12 ∨ ci = 13 by omega) with rfl | rfl | rfl | rfl | rfl | rfl | rfl | rfl | rfl | rfl | rfl | rfl | rfl | rfl
  · exact am_dlen0
  · exact am_dlen1
  · exact am_dlen2
  · exact am_dlen3
  · exact am_dlen4
  · exact am_dlen5
  · exact am_dlen6
  · exact am_dlen7
  · exact am_dlen8
  · exact am_dlen9
  · exact am_dlen10
  · exact am_dlen11
  · exact am_dlen12
  · exact am_dlen13
theorem am_nmok : ∀ ci, ci < 14 → ∀ a, a < (am_cl ci).2.2 → ∀ b, b < (am_cl ci).2.2 → a ≠ b → ((am_cl ci).2.1 a).2.1 ≠ ((am_cl ci).2.1 b).2.1 := by
  intro ci h a ha b hb hab
  have key : ∀ a b, a < (am_cl ci).2.2 → b < a → ((am_cl ci).2.1 a).2.1 ≠ ((am_cl ci).2.1 b).2.1 := by
    intro a b ha hb
    have h1 := List.all_eq_true.mp (am_nmA ci h) a (List.mem_range.mpr ha)
    exact of_decide_eq_true (List.all_eq_true.mp h1 b (List.mem_range.mpr hb))
  by_cases hl : b < a
  · exact key a b ha hl
  · exact fun he => key b a hb (by omega) he.symm
theorem am_same : Cond.sameField "java/util/ArrayList" "java/util/AbstractList" "modCount" "I" ∈ lw_tbl.filter goodWord ∧ Cond.castable "TagRounds$Tag" "java/lang/Object" ∈ lw_tbl ∧ Cond.arrayClass .int ∈ lw_tbl.filter goodWord ∧ Cond.arrayClass .long ∈ lw_tbl.filter goodWord := ⟨List.mem_filter.mpr ⟨List.mem_of_getElem? (i := 184) (by decide +kernel), rfl⟩, List.mem_of_getElem? (i := 2166) (by decide +kernel), List.mem_filter.mpr ⟨List.mem_of_getElem? (i := 321) (by decide +kernel), rfl⟩, List.mem_filter.mpr ⟨List.mem_of_getElem? (i := 2151) (by decide +kernel), rfl⟩⟩
theorem am_exw : ∀ x, x < 4 → Cond.initialized (am_X x) ∈ lw_tbl.filter goodWord ∧ Cond.castable (am_X x) (am_X x) ∈ lw_tbl ∧ Bundle.fit (am_X x) = true := by
  intro x hx
  rcases (show x = 0 ∨ x = 1 ∨ x = 2 ∨ x = 3 by omega) with rfl | rfl | rfl | rfl
  · exact ⟨List.mem_filter.mpr ⟨List.mem_of_getElem? (i := 118) (by decide +kernel), rfl⟩, List.mem_of_getElem? (i := 612) (by decide +kernel), by decide +kernel⟩
  · exact ⟨List.mem_filter.mpr ⟨List.mem_of_getElem? (i := 119) (by decide +kernel), rfl⟩, List.mem_of_getElem? (i := 676) (by decide +kernel), by decide +kernel⟩
  · exact ⟨List.mem_filter.mpr ⟨List.mem_of_getElem? (i := 127) (by decide +kernel), rfl⟩, List.mem_of_getElem? (i := 893) (by decide +kernel), by decide +kernel⟩
  · exact ⟨List.mem_filter.mpr ⟨List.mem_of_getElem? (i := 130) (by decide +kernel), rfl⟩, List.mem_of_getElem? (i := 931) (by decide +kernel), by decide +kernel⟩
set_option maxRecDepth 100000 in
theorem am_obj : Cond.instanceMethod Lib.objectInit ∈ lw_tbl.filter goodWord ∧ Cond.code Lib.objectInit ⟨#[0xb1]⟩ 1 none ∈ lw_tbl.filter goodWord := by decide +kernel
set_option maxRecDepth 100000 in
theorem am_thw0 : ∀ w ∈ vx_at0 "TagRounds" 97 (am_X 1) am_thrN, w ∈ lw_tbl ∧ (goodWord w || am_ngw w) = true := by decide +kernel
set_option maxRecDepth 100000 in
theorem am_thg0 : ∀ w ∈ vx_at0 "TagRounds" 97 (am_X 1) am_thrN, vx_ot w = true := by decide +kernel
set_option maxRecDepth 100000 in
theorem am_thw1 : ∀ w ∈ vx_at0 "TagRounds" 181 (am_X 2) am_thrN, w ∈ lw_tbl ∧ (goodWord w || am_ngw w) = true := by decide +kernel
set_option maxRecDepth 100000 in
theorem am_thg1 : ∀ w ∈ vx_at0 "TagRounds" 181 (am_X 2) am_thrN, vx_ot w = true := by decide +kernel
set_option maxRecDepth 100000 in
theorem am_thw2 : ∀ w ∈ vx_at0 "TagRounds" 368 (am_X 3) am_thrN, w ∈ lw_tbl ∧ (goodWord w || am_ngw w) = true := by decide +kernel
set_option maxRecDepth 100000 in
theorem am_thg2 : ∀ w ∈ vx_at0 "TagRounds" 368 (am_X 3) am_thrN, vx_ot w = true := by decide +kernel
set_option maxRecDepth 100000 in
theorem am_thw3 : ∀ w ∈ vx_at0 "TagRounds" 371 (am_X 0) am_thrN, w ∈ lw_tbl ∧ (goodWord w || am_ngw w) = true := by decide +kernel
set_option maxRecDepth 100000 in
theorem am_thg3 : ∀ w ∈ vx_at0 "TagRounds" 371 (am_X 0) am_thrN, vx_ot w = true := by decide +kernel
theorem am_thw : ∀ t ∈ am_TH, ∀ w ∈ vx_at0 t.1 t.2.1 (am_X t.2.2) am_thrN, w ∈ lw_tbl ∧ (goodWord w || am_ngw w) = true := by
  intro t ht
  simp only [am_TH, List.mem_cons, List.not_mem_nil, or_false] at ht
  rcases ht with rfl | rfl | rfl | rfl
  · exact am_thw0
  · exact am_thw1
  · exact am_thw2
  · exact am_thw3
theorem am_thg : ∀ t ∈ am_TH, ∀ w ∈ vx_at0 t.1 t.2.1 (am_X t.2.2) am_thrN, vx_ot w = true := by
  intro t ht
  simp only [am_TH, List.mem_cons, List.not_mem_nil, or_false] at ht
  rcases ht with rfl | rfl | rfl | rfl
  · exact am_thg0
  · exact am_thg1
  · exact am_thg2
  · exact am_thg3
set_option maxRecDepth 100000 in
/-- the words of the methods, and what their descriptors say -/
theorem am_mw : ∀ q ∈ (am_M.zip (am_MS.zip (am_N.zip am_MWi))).take am_LAW, ((am_MW q.1 q.2.1.1 q.2.1.2 q.2.2.1.2.2.2.2.2.2).zip q.2.2.2).all (fun x => decide (lw_tbl[x.2]? = some x.1)) = true ∧ (am_MW q.1 q.2.1.1 q.2.1.2 q.2.2.1.2.2.2.2.2.2).length = q.2.2.2.length ∧ (am_MW q.1 q.2.1.1 q.2.1.2 q.2.2.1.2.2.2.2.2.2).all goodWord = true := by decide +kernel
set_option maxRecDepth 100000 in
theorem am_md : ∀ q ∈ am_M.zip (am_MS.zip am_N), plainName q.1.1.cls = true ∧ q.1.1.cls ≠ "java/lang/invoke/MethodHandle" ∧ q.1.1.cls ≠ "java/lang/invoke/VarHandle" ∧ (parseMethodDescriptor q.1.1.desc).map (fun d => d.parameters.length + (if q.2.1.1 then 0 else 1)) = some q.2.2.1 ∧
    q.2.2.2.1 = (match q.1.2.2.1 with | none => 0 | some .int => 1 | some .boolean => 2 | some (.object _) => 3 | some (.array _) => 3 | some _ => 9) ∧ (q.2.1.2 = true → q.1.1.name = "<init>" ∧ q.1.2.2.1 = none) := by decide +kernel
set_option maxRecDepth 100000 in
/-- what stands in a row of calls: static, constructor, receiver's class -/
theorem am_mci : ∀ q ∈ am_M.zip (am_MS.zip am_CI), q.2.1.1 = true ∨ q.2.1.2 = true ∨ q.1.1.cls = (am_cl q.2.2).1 := by decide +kernel
theorem am_mlen : am_M.length = am_LAW + 1 ∧ am_MS.length = am_LAW + 1 ∧ am_N.length = am_LAW + 1 ∧ am_MWi.length = am_LAW + 1 ∧ am_CI.length = am_LAW + 1 ∧ am_H.length = am_LAW + 1 ∧ am_C.length = am_LAW + 1 := by decide +kernel
/-- handlers: the table's rows, their classes by the links -/
def am_hOk (j : am_J) (h : List (Nat × Nat × Nat × Nat)) : Bool := decide (j.2.2.2.length = h.length) && (j.2.2.2.zip h).all (fun q => decide (q.1.1 = q.2.1) && (decide (q.1.2.1 = q.2.2.1) && (decide (q.1.2.2.1 = q.2.2.2.1) && (decide (q.2.2.2.2 < 4) && (decide (q.1.2.2.2 ≠ 0) && decide (Cond.classLink j.1.cls q.1.2.2.2 (am_X q.2.2.2.2) ∈ lw_tbl))))))
def am_hOkI (j : am_J) (h : List (Nat × Nat × Nat × Nat)) (ix : List Nat) : Bool := decide (j.2.2.2.length = h.length) && (decide (h.length = ix.length) && ((j.2.2.2.zip h).zip ix).all (fun q => decide (q.1.1.1 = q.1.2.1) && (decide (q.1.1.2.1 = q.1.2.2.1) && (decide (q.1.1.2.2.1 = q.1.2.2.2.1) && (decide (q.1.2.2.2.2 < 4) && (decide (q.1.1.2.2.2 ≠ 0) && decide (lw_tbl[q.2]? = some (Cond.classLink j.1.cls q.1.1.2.2.2 (am_X q.1.2.2.2.2)))))))))
theorem am_hI {j : am_J} {h : List (Nat × Nat × Nat × Nat)} {ix : List Nat} (hh : am_hOkI j h ix = true) : am_hOk j h = true := by
  simp only [am_hOkI, Bool.and_eq_true, decide_eq_true_eq] at hh
  obtain ⟨h1, h2, h3⟩ := hh
  simp only [am_hOk, Bool.and_eq_true, decide_eq_true_eq]
  refine ⟨h1, List.all_eq_true.mpr (fun q hq => ?_)⟩
  obtain ⟨i, hi⟩ := List.getElem?_of_mem hq
  have hl := (List.getElem?_eq_some_iff.mp hi).1
  rw [List.length_zip] at hl
  have hl2 : i < ix.length := by omega
  have hz : ((j.2.2.2.zip h).zip ix)[i]? = some (q, ix[i]) := by
    rw [List.getElem?_zip_eq_some]
    exact ⟨hi, List.getElem?_eq_getElem hl2⟩
  have h9 := List.all_eq_true.mp h3 _ (List.mem_of_getElem? hz)
  simp only [Bool.and_eq_true, decide_eq_true_eq] at h9 ⊢
  obtain ⟨a1, a2, a3, a4, a5, a6⟩ := h9
  exact ⟨a1, a2, a3, a4, a5, List.mem_of_getElem? a6⟩
def am_HWi : List (List Nat) := [[], [], [], [], [], [], [], [], [], [], [], [], [], [], [], [], [], [], [], [], [], [], [], [], [], [], [], [], [], [], [], [600, 601], [], [], [], [], [], [], [], [], [], [], [], [882, 600], [], [], [], [], [], [], [], [], [], [882], [], [], [], [], [], [], [], [], [], [], [], [], [920, 600], [], [], [], [882, 600], [], [], [], [], [600], [], [], [], [882], [], [], [], [], [], [], [], [882, 600], [], [], [], [], [], [], [600], [], [], [], [], [], [], [], [], [], [], [], [], [], [], [], [], [], [], [], [], [], [], [], [], [], [], [], [], [], [], [], [], [], [], [], [], [], [], [], [], [], [], [], [], [], [], [], [], [], [], [], [], [], [], [], [], [882, 600, 601], [], [], [], [], [], [], [], [], [], [], [], [], [], [], [882, 600, 601], [], [], [], [], [], [], [], [], [], [], [], [882, 600, 601], [], [], [], [], [882, 600, 601], [], [], [], [882, 601], [], [], [], [], [], [882, 601], [], [], [882, 601], [], [], [], [882, 600, 601], [], [], [], [], [], [], [], [882, 600, 601], [], [], [], [882, 600, 601], [], [], [], [882, 600, 601], [], [], [], [], [], [], [], [882, 920, 600], [], [], [], [], [], [], [], [], [], [], [], [], [882, 600, 601], [], [], [], [], [], [], [], [], [], [], [], [], [], [], [], [], [], [882, 920, 600], [], [], [], [], [], [], [], [882, 600], [], [], [], [], [882], [], [], [], [], [], [], [], [], [], [], [], [], [882, 920], [], [], [], [], [], [], [], [], [], [], [], [], [882, 920], [], [], [], [], [882, 600], [], [], [], [882, 600], [], [], [882], [], [], [882, 600], [], [], [], [920], [], [], [600], [], [], [], [], [600], [], [], [], [], [], [], [], []]
set_option maxRecDepth 100000 in
theorem am_hwI : ∀ q ∈ (am_M.zip am_H).zip am_HWi, am_hOkI q.1.1 q.1.2 q.2 = true := by decide +kernel
theorem am_hwL : am_HWi.length = am_LAW + 1 := by decide +kernel
theorem am_hw : ∀ q ∈ am_M.zip am_H, am_hOk q.1 q.2 = true := by
  intro q hq
  obtain ⟨i, hi⟩ := List.getElem?_of_mem hq
  have hl := (List.getElem?_eq_some_iff.mp hi).1
  rw [List.length_zip] at hl
  have hl2 : i < am_HWi.length := by
    rw [am_hwL, ← am_mlen.1]
    omega
  have hz : ((am_M.zip am_H).zip am_HWi)[i]? = some (q, am_HWi[i]) := by
    rw [List.getElem?_zip_eq_some]
    exact ⟨hi, List.getElem?_eq_getElem hl2⟩
  exact am_hI (am_hwI _ (List.mem_of_getElem? hz))
theorem am_wlm {r : Nat} {w : Cond} (h : am_WL[r]? = some w) : w ∈ lw_tbl := by
  have hl := (List.getElem?_eq_some_iff.mp h).1
  have hl2 : r < am_WLi.length := by rw [← am_wl_len]; exact hl
  have hz : (am_WL.zip am_WLi)[r]? = some (w, am_WLi[r]) := by
    rw [List.getElem?_zip_eq_some]
    exact ⟨h, List.getElem?_eq_getElem hl2⟩
  exact List.mem_of_getElem? (of_decide_eq_true (am_wl_ok _ (List.mem_of_getElem? hz)))
