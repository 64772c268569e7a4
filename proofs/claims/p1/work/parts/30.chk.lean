def am_tys (X : Nat → ClassId) : List (ClassId × FieldType) := [(X 0, .int), (X 1, .long), (X 2, .object "TagRounds$Reader"), (X 3, .object "java/lang/Object")]
def am_ngw : Cond → Bool
  | .castable .. | .declares .. | .methodLinkNest .. => true
  | _ => false
set_option maxRecDepth 100000 in
theorem am_tyok0 : ∀ k, k < (am_cl 0).2.2 → parseFieldDescriptor ((am_cl 0).2.1 k).2.2.1 = some (am_ty 0 k) := by decide +kernel
set_option maxRecDepth 100000 in
theorem am_nmB0 : (List.range (am_cl 0).2.2).all (fun a => (List.range a).all (fun b => decide (((am_cl 0).2.1 a).2.1 ≠ ((am_cl 0).2.1 b).2.1))) = true := by decide +kernel
set_option maxRecDepth 100000 in
theorem am_dlen0 : (am_dflt 0).length = (am_cl 0).2.2 ∧ (∀ k, k < (am_cl 0).2.2 → defaultValue (am_ty 0 k) = vp_V (am_dflt 0) k) := by decide +kernel
set_option maxRecDepth 100000 in
theorem am_tyok1 : ∀ k, k < (am_cl 1).2.2 → parseFieldDescriptor ((am_cl 1).2.1 k).2.2.1 = some (am_ty 1 k) := by decide +kernel
set_option maxRecDepth 100000 in
theorem am_nmB1 : (List.range (am_cl 1).2.2).all (fun a => (List.range a).all (fun b => decide (((am_cl 1).2.1 a).2.1 ≠ ((am_cl 1).2.1 b).2.1))) = true := by decide +kernel
set_option maxRecDepth 100000 in
theorem am_dlen1 : (am_dflt 1).length = (am_cl 1).2.2 ∧ (∀ k, k < (am_cl 1).2.2 → defaultValue (am_ty 1 k) = vp_V (am_dflt 1) k) := by decide +kernel
set_option maxRecDepth 100000 in
theorem am_tyok2 : ∀ k, k < (am_cl 2).2.2 → parseFieldDescriptor ((am_cl 2).2.1 k).2.2.1 = some (am_ty 2 k) := by decide +kernel
set_option maxRecDepth 100000 in
theorem am_nmB2 : (List.range (am_cl 2).2.2).all (fun a => (List.range a).all (fun b => decide (((am_cl 2).2.1 a).2.1 ≠ ((am_cl 2).2.1 b).2.1))) = true := by decide +kernel
set_option maxRecDepth 100000 in
theorem am_dlen2 : (am_dflt 2).length = (am_cl 2).2.2 ∧ (∀ k, k < (am_cl 2).2.2 → defaultValue (am_ty 2 k) = vp_V (am_dflt 2) k) := by decide +kernel
set_option maxRecDepth 100000 in
theorem am_tyok3 : ∀ k, k < (am_cl 3).2.2 → parseFieldDescriptor ((am_cl 3).2.1 k).2.2.1 = some (am_ty 3 k) := by decide +kernel
set_option maxRecDepth 100000 in
theorem am_nmB3 : (List.range (am_cl 3).2.2).all (fun a => (List.range a).all (fun b => decide (((am_cl 3).2.1 a).2.1 ≠ ((am_cl 3).2.1 b).2.1))) = true := by decide +kernel
set_option maxRecDepth 100000 in
theorem am_dlen3 : (am_dflt 3).length = (am_cl 3).2.2 ∧ (∀ k, k < (am_cl 3).2.2 → defaultValue (am_ty 3 k) = vp_V (am_dflt 3) k) := by decide +kernel
set_option maxRecDepth 100000 in
theorem am_tyok4 : ∀ k, k < (am_cl 4).2.2 → parseFieldDescriptor ((am_cl 4).2.1 k).2.2.1 = some (am_ty 4 k) := by decide +kernel
set_option maxRecDepth 100000 in
theorem am_nmB4 : (List.range (am_cl 4).2.2).all (fun a => (List.range a).all (fun b => decide (((am_cl 4).2.1 a).2.1 ≠ ((am_cl 4).2.1 b).2.1))) = true := by decide +kernel
set_option maxRecDepth 100000 in
theorem am_dlen4 : (am_dflt 4).length = (am_cl 4).2.2 ∧ (∀ k, k < (am_cl 4).2.2 → defaultValue (am_ty 4 k) = vp_V (am_dflt 4) k) := by decide +kernel
set_option maxRecDepth 100000 in
theorem am_tyok5 : ∀ k, k < (am_cl 5).2.2 → parseFieldDescriptor ((am_cl 5).2.1 k).2.2.1 = some (am_ty 5 k) := by decide +kernel
set_option maxRecDepth 100000 in
theorem am_nmB5 : (List.range (am_cl 5).2.2).all (fun a => (List.range a).all (fun b => decide (((am_cl 5).2.1 a).2.1 ≠ ((am_cl 5).2.1 b).2.1))) = true := by decide +kernel
set_option maxRecDepth 100000 in
theorem am_dlen5 : (am_dflt 5).length = (am_cl 5).2.2 ∧ (∀ k, k < (am_cl 5).2.2 → defaultValue (am_ty 5 k) = vp_V (am_dflt 5) k) := by decide +kernel
set_option maxRecDepth 100000 in
theorem am_tyok6 : ∀ k, k < (am_cl 6).2.2 → parseFieldDescriptor ((am_cl 6).2.1 k).2.2.1 = some (am_ty 6 k) := by decide +kernel
set_option maxRecDepth 100000 in
theorem am_nmB6 : (List.range (am_cl 6).2.2).all (fun a => (List.range a).all (fun b => decide (((am_cl 6).2.1 a).2.1 ≠ ((am_cl 6).2.1 b).2.1))) = true := by decide +kernel
set_option maxRecDepth 100000 in
theorem am_dlen6 : (am_dflt 6).length = (am_cl 6).2.2 ∧ (∀ k, k < (am_cl 6).2.2 → defaultValue (am_ty 6 k) = vp_V (am_dflt 6) k) := by decide +kernel
set_option maxRecDepth 100000 in
theorem am_tyok7 : ∀ k, k < (am_cl 7).2.2 → parseFieldDescriptor ((am_cl 7).2.1 k).2.2.1 = some (am_ty 7 k) := by decide +kernel
set_option maxRecDepth 100000 in
theorem am_nmB7 : (List.range (am_cl 7).2.2).all (fun a => (List.range a).all (fun b => decide (((am_cl 7).2.1 a).2.1 ≠ ((am_cl 7).2.1 b).2.1))) = true := by decide +kernel
set_option maxRecDepth 100000 in
theorem am_dlen7 : (am_dflt 7).length = (am_cl 7).2.2 ∧ (∀ k, k < (am_cl 7).2.2 → defaultValue (am_ty 7 k) = vp_V (am_dflt 7) k) := by decide +kernel
set_option maxRecDepth 100000 in
theorem am_tyok8 : ∀ k, k < (am_cl 8).2.2 → parseFieldDescriptor ((am_cl 8).2.1 k).2.2.1 = some (am_ty 8 k) := by decide +kernel
set_option maxRecDepth 100000 in
theorem am_nmB8 : (List.range (am_cl 8).2.2).all (fun a => (List.range a).all (fun b => decide (((am_cl 8).2.1 a).2.1 ≠ ((am_cl 8).2.1 b).2.1))) = true := by decide +kernel
set_option maxRecDepth 100000 in
theorem am_dlen8 : (am_dflt 8).length = (am_cl 8).2.2 ∧ (∀ k, k < (am_cl 8).2.2 → defaultValue (am_ty 8 k) = vp_V (am_dflt 8) k) := by decide +kernel
set_option maxRecDepth 100000 in
theorem am_tyok9 : ∀ k, k < (am_cl 9).2.2 → parseFieldDescriptor ((am_cl 9).2.1 k).2.2.1 = some (am_ty 9 k) := by decide +kernel
set_option maxRecDepth 100000 in
theorem am_nmB9 : (List.range (am_cl 9).2.2).all (fun a => (List.range a).all (fun b => decide (((am_cl 9).2.1 a).2.1 ≠ ((am_cl 9).2.1 b).2.1))) = true := by decide +kernel
set_option maxRecDepth 100000 in
theorem am_dlen9 : (am_dflt 9).length = (am_cl 9).2.2 ∧ (∀ k, k < (am_cl 9).2.2 → defaultValue (am_ty 9 k) = vp_V (am_dflt 9) k) := by decide +kernel
set_option maxRecDepth 100000 in
theorem am_tyok10 : ∀ k, k < (am_cl 10).2.2 → parseFieldDescriptor ((am_cl 10).2.1 k).2.2.1 = some (am_ty 10 k) := by decide +kernel
set_option maxRecDepth 100000 in
theorem am_nmB10 : (List.range (am_cl 10).2.2).all (fun a => (List.range a).all (fun b => decide (((am_cl 10).2.1 a).2.1 ≠ ((am_cl 10).2.1 b).2.1))) = true := by decide +kernel
set_option maxRecDepth 100000 in
theorem am_dlen10 : (am_dflt 10).length = (am_cl 10).2.2 ∧ (∀ k, k < (am_cl 10).2.2 → defaultValue (am_ty 10 k) = vp_V (am_dflt 10) k) := by decide +kernel
set_option maxRecDepth 100000 in
theorem am_tyok11 : ∀ k, k < (am_cl 11).2.2 → parseFieldDescriptor ((am_cl 11).2.1 k).2.2.1 = some (am_ty 11 k) := by decide +kernel
set_option maxRecDepth 100000 in
theorem am_nmB11 : (List.range (am_cl 11).2.2).all (fun a => (List.range a).all (fun b => decide (((am_cl 11).2.1 a).2.1 ≠ ((am_cl 11).2.1 b).2.1))) = true := by decide +kernel
set_option maxRecDepth 100000 in
theorem am_dlen11 : (am_dflt 11).length = (am_cl 11).2.2 ∧ (∀ k, k < (am_cl 11).2.2 → defaultValue (am_ty 11 k) = vp_V (am_dflt 11) k) := by decide +kernel
set_option maxRecDepth 100000 in
theorem am_tyok12 : ∀ k, k < (am_cl 12).2.2 → parseFieldDescriptor ((am_cl 12).2.1 k).2.2.1 = some (am_ty 12 k) := by decide +kernel
set_option maxRecDepth 100000 in
theorem am_nmB12 : (List.range (am_cl 12).2.2).all (fun a => (List.range a).all (fun b => decide (((am_cl 12).2.1 a).2.1 ≠ ((am_cl 12).2.1 b).2.1))) = true := by decide +kernel
set_option maxRecDepth 100000 in
theorem am_dlen12 : (am_dflt 12).length = (am_cl 12).2.2 ∧ (∀ k, k < (am_cl 12).2.2 → defaultValue (am_ty 12 k) = vp_V (am_dflt 12) k) := by decide +kernel
set_option maxRecDepth 100000 in
theorem am_tyok13 : ∀ k, k < (am_cl 13).2.2 → parseFieldDescriptor ((am_cl 13).2.1 k).2.2.1 = some (am_ty 13 k) := by decide +kernel
set_option maxRecDepth 100000 in
theorem am_nmB13 : (List.range (am_cl 13).2.2).all (fun a => (List.range a).all (fun b => decide (((am_cl 13).2.1 a).2.1 ≠ ((am_cl 13).2.1 b).2.1))) = true := by decide +kernel
set_option maxRecDepth 100000 in
theorem am_dlen13 : (am_dflt 13).length = (am_cl 13).2.2 ∧ (∀ k, k < (am_cl 13).2.2 → defaultValue (am_ty 13 k) = vp_V (am_dflt 13) k) := by decide +kernel
theorem am_tyok : ∀ ci, ci < 14 → ∀ k, k < (am_cl ci).2.2 → parseFieldDescriptor ((am_cl ci).2.1 k).2.2.1 = some (am_ty ci k) := by
  intro ci h
  rcases (show ci = 0 ∨ ci = 1 ∨ ci = 2 ∨ ci = 3 ∨ ci = 4 ∨ ci = 5 ∨ ci = 6 ∨ ci = 7 ∨ ci = 8 ∨ ci = 9 ∨ ci = 10 ∨ ci = 11 ∨ ci = 12 ∨ ci = 13 by omega) with rfl | rfl | rfl | rfl | rfl | rfl | rfl | rfl | rfl | rfl | rfl | rfl | rfl | rfl
  · exact am_tyok0
  · exact am_tyok1
  · exact am_tyok2
  · exact am_tyok3
  · exact am_tyok4
  · exact am_tyok5
  · exact am_tyok6
  · exact am_tyok7
  · exact am_tyok8
  · exact am_tyok9
  · exact am_tyok10
  · exact am_tyok11
  · exact am_tyok12
  · exact am_tyok13
theorem am_nmA : ∀ ci, ci < 14 → (List.range (am_cl ci).2.2).all (fun a => (List.range a).all (fun b => decide (((am_cl ci).2.1 a).2.1 ≠ ((am_cl ci).2.1 b).2.1))) = true := by
  intro ci h
  rcases (show ci = 0 ∨ ci = 1 ∨ ci = 2 ∨ ci = 3 ∨ ci = 4 ∨ ci = 5 ∨ ci = 6 ∨ ci = 7 ∨ ci = 8 ∨ ci = 9 ∨ ci = 10 ∨ ci = 11 ∨ ci = 12 ∨ ci = 13 by omega) with rfl | rfl | rfl | rfl | rfl | rfl | rfl | rfl | rfl | rfl | rfl | rfl | rfl | rfl
  · exact am_nmB0
  · exact am_nmB1
  · exact am_nmB2
  · exact am_nmB3
  · exact am_nmB4
  · exact am_nmB5
  · exact am_nmB6
  · exact am_nmB7
  · exact am_nmB8
  · exact am_nmB9
  · exact am_nmB10
  · exact am_nmB11
  · exact am_nmB12
  · exact am_nmB13
theorem am_dlen : ∀ ci, ci < 14 → (am_dflt ci).length = (am_cl ci).2.2 ∧ (∀ k, k < (am_cl ci).2.2 → defaultValue (am_ty ci k) = vp_V (am_dflt ci) k) := by
  intro ci h
  rcases (show ci = 0 ∨ ci = 1 ∨ ci = 2 ∨ ci = 3 ∨ ci = 4 ∨ ci = 5 ∨ ci = 6 ∨ ci = 7 ∨ ci = 8 ∨ ci = 9 ∨ ci = 10 ∨ ci = 11 ∨ ci = 12 ∨ ci = 13 by omega) with rfl | rfl | rfl | rfl | rfl | rfl | rfl | rfl | rfl | rfl | rfl | rfl | rfl | rfl
  · exact am_dlen0
  · exact am_dlen1
  · exact am_dlen2
  · exact am_dlen3
  · exact am_dlen4
  · exact am_dlen5
  · exact am_dlen6
  · exact am_dlen7
  · exact am_dlen8
  · exact am_dlen9
  · exact am_dlen10
  · exact am_dlen11
  · exact am_dlen12
  · exact am_dlen13
theorem am_nmok : ∀ ci, ci < 14 → ∀ a, a < (am_cl ci).2.2 → ∀ b, b < (am_cl ci).2.2 → a ≠ b → ((am_cl ci).2.1 a).2.1 ≠ ((am_cl ci).2.1 b).2.1 := by
  intro ci h a ha b hb hab
  have key : ∀ a b, a < (am_cl ci).2.2 → b < a → ((am_cl ci).2.1 a).2.1 ≠ ((am_cl ci).2.1 b).2.1 := by
    intro a b ha hb
    have h1 := List.all_eq_true.mp (am_nmA ci h) a (List.mem_range.mpr ha)
    exact of_decide_eq_true (List.all_eq_true.mp h1 b (List.mem_range.mpr hb))
  by_cases hl : b < a
  · exact key a b ha hl
  · exact fun he => key b a hb (by omega) he.symm
theorem am_same : Cond.sameField "java/util/ArrayList" "java/util/AbstractList" "modCount" "I" ∈ lw_tbl.filter goodWord ∧ Cond.castable "TagRounds$Tag" "java/lang/Object" ∈ lw_tbl ∧ Cond.arrayClass .int ∈ lw_tbl.filter goodWord ∧ Cond.arrayClass .long ∈ lw_tbl.filter goodWord := ⟨List.mem_filter.mpr ⟨List.mem_of_getElem? (i := 184) (by decide +kernel), rfl⟩, List.mem_of_getElem? (i := 2166) (by decide +kernel), List.mem_filter.mpr ⟨List.mem_of_getElem? (i := 321) (by decide +kernel), rfl⟩, List.mem_filter.mpr ⟨List.mem_of_getElem? (i := 2151) (by decide +kernel), rfl⟩⟩
theorem am_exw : ∀ x, x < 4 → Cond.initialized (am_X x) ∈ lw_tbl.filter goodWord ∧ Cond.castable (am_X x) (am_X x) ∈ lw_tbl ∧ Bundle.fit (am_X x) = true := by
  intro x hx
  rcases (show x = 0 ∨ x = 1 ∨ x = 2 ∨ x = 3 by omega) with rfl | rfl | rfl | rfl
  · exact ⟨List.mem_filter.mpr ⟨List.mem_of_getElem? (i := 118) (by decide +kernel), rfl⟩, List.mem_of_getElem? (i := 612) (by decide +kernel), by decide +kernel⟩
  · exact ⟨List.mem_filter.mpr ⟨List.mem_of_getElem? (i := 119) (by decide +kernel), rfl⟩, List.mem_of_getElem? (i := 676) (by decide +kernel), by decide +kernel⟩
  · exact ⟨List.mem_filter.mpr ⟨List.mem_of_getElem? (i := 127) (by decide +kernel), rfl⟩, List.mem_of_getElem? (i := 893) (by decide +kernel), by decide +kernel⟩
  · exact ⟨List.mem_filter.mpr ⟨List.mem_of_getElem? (i := 130) (by decide +kernel), rfl⟩, List.mem_of_getElem? (i := 931) (by decide +kernel), by decide +kernel⟩
set_option maxRecDepth 100000 in
theorem am_obj : Cond.instanceMethod Lib.objectInit ∈ lw_tbl.filter goodWord ∧ Cond.code Lib.objectInit ⟨#[0xb1]⟩ 1 none ∈ lw_tbl.filter goodWord := by decide +kernel
set_option maxRecDepth 100000 in
theorem am_thw0 : ∀ w ∈ vx_at0 "TagRounds" 97 (am_X 1) am_thrN, w ∈ lw_tbl ∧ (goodWord w || am_ngw w) = true := by decide +kernel
set_option maxRecDepth 100000 in
theorem am_thg0 : ∀ w ∈ vx_at0 "TagRounds" 97 (am_X 1) am_thrN, vx_ot w = true := by decide +kernel
set_option maxRecDepth 100000 in
theorem am_thw1 : ∀ w ∈ vx_at0 "TagRounds" 181 (am_X 2) am_thrN, w ∈ lw_tbl ∧ (goodWord w || am_ngw w) = true := by decide +kernel
set_option maxRecDepth 100000 in
theorem am_thg1 : ∀ w ∈ vx_at0 "TagRounds" 181 (am_X 2) am_thrN, vx_ot w = true := by decide +kernel
set_option maxRecDepth 100000 in
theorem am_thw2 : ∀ w ∈ vx_at0 "TagRounds" 368 (am_X 3) am_thrN, w ∈ lw_tbl ∧ (goodWord w || am_ngw w) = true := by decide +kernel
set_option maxRecDepth 100000 in
theorem am_thg2 : ∀ w ∈ vx_at0 "TagRounds" 368 (am_X 3) am_thrN, vx_ot w = true := by decide +kernel
set_option maxRecDepth 100000 in
theorem am_thw3 : ∀ w ∈ vx_at0 "TagRounds" 371 (am_X 0) am_thrN, w ∈ lw_tbl ∧ (goodWord w || am_ngw w) = true := by decide +kernel
set_option maxRecDepth 100000 in
theorem am_thg3 : ∀ w ∈ vx_at0 "TagRounds" 371 (am_X 0) am_thrN, vx_ot w = true := by decide +kernel
theorem am_thw : ∀ t ∈ am_TH, ∀ w ∈ vx_at0 t.1 t.2.1 (am_X t.2.2) am_thrN, w ∈ lw_tbl ∧ (goodWord w || am_ngw w) = true := by
  intro t ht
  simp only [am_TH, List.mem_cons, List.not_mem_nil, or_false] at ht
  rcases ht with rfl | rfl | rfl | rfl
  · exact am_thw0
  · exact am_thw1
  · exact am_thw2
  · exact am_thw3
theorem am_thg : ∀ t ∈ am_TH, ∀ w ∈ vx_at0 t.1 t.2.1 (am_X t.2.2) am_thrN, vx_ot w = true := by
  intro t ht
  simp only [am_TH, List.mem_cons, List.not_mem_nil, or_false] at ht
  rcases ht with rfl | rfl | rfl | rfl
  · exact am_thg0
  · exact am_thg1
  · exact am_thg2
  · exact am_thg3
