def am_tys (X : Nat → ClassId) : List (ClassId × FieldType) := [(X 0, .int), (X 1, .long), (X 2, .object "TagRounds$Reader"), (X 3, .object "java/lang/Object")]
def am_ngw : Cond → Bool
  | .castable .. | .declares .. | .methodLinkNest .. => true
  | _ => false
set_option maxRecDepth 100000 in
theorem am_tyok : ∀ ci, ci < 14 → ∀ k, k < (am_cl ci).2.2 → parseFieldDescriptor ((am_cl ci).2.1 k).2.2.1 = some (am_ty ci k) := sorry
set_option maxRecDepth 100000 in
theorem am_nmok : ∀ ci, ci < 14 → ∀ a, a < (am_cl ci).2.2 → ∀ b, b < (am_cl ci).2.2 → a ≠ b → ((am_cl ci).2.1 a).2.1 ≠ ((am_cl ci).2.1 b).2.1 := sorry
set_option maxRecDepth 100000 in
theorem am_dlen : ∀ ci, ci < 14 → (am_dflt ci).length = (am_cl ci).2.2 ∧ (∀ k, k < (am_cl ci).2.2 → defaultValue (am_ty ci k) = vp_V (am_dflt ci) k) := sorry
set_option maxRecDepth 100000 in
theorem am_same : Cond.sameField "java/util/ArrayList" "java/util/AbstractList" "modCount" "I" ∈ lw_tbl.filter goodWord ∧ Cond.castable "TagRounds$Tag" "TagRounds$Tag" ∈ lw_tbl ∧ Cond.arrayClass .int ∈ lw_tbl.filter goodWord ∧ Cond.arrayClass .long ∈ lw_tbl.filter goodWord := sorry
set_option maxRecDepth 100000 in
theorem am_exw : ∀ x, x < 4 → Cond.initialized (am_X x) ∈ lw_tbl.filter goodWord ∧ Cond.castable (am_X x) (am_X x) ∈ lw_tbl ∧ Bundle.fit (am_X x) = true := sorry
set_option maxRecDepth 100000 in
theorem am_obj : Cond.instanceMethod Lib.objectInit ∈ lw_tbl.filter goodWord ∧ Cond.code Lib.objectInit ⟨#[0xb1]⟩ 1 none ∈ lw_tbl.filter goodWord := sorry
set_option maxRecDepth 100000 in
/-- the words of the throws -/
theorem am_thw : ∀ t ∈ am_TH, ∀ w ∈ vx_at0 t.1 t.2.1 (am_X t.2.2) am_thrN, w ∈ lw_tbl ∧ (goodWord w || am_ngw w) = true := sorry
set_option maxRecDepth 100000 in
theorem am_thg : ∀ t ∈ am_TH, ∀ w ∈ vx_at0 t.1 t.2.1 (am_X t.2.2) am_thrN, vx_ot w = true := sorry
set_option maxRecDepth 100000 in
/-- the words of the methods, and what their descriptors say -/
theorem am_mw : ∀ q ∈ (am_M.zip (am_MS.zip (am_N.zip am_MWi))).take am_LAW, ((am_MW q.1 q.2.1.1 q.2.1.2 q.2.2.1.2.2.2.2.2.2).zip q.2.2.2).all (fun x => decide (lw_tbl[x.2]? = some x.1)) = true ∧ (am_MW q.1 q.2.1.1 q.2.1.2 q.2.2.1.2.2.2.2.2.2).length = q.2.2.2.length ∧ (am_MW q.1 q.2.1.1 q.2.1.2 q.2.2.1.2.2.2.2.2.2).all goodWord = true := sorry
set_option maxRecDepth 100000 in
theorem am_md : ∀ q ∈ am_M.zip (am_MS.zip am_N), plainName q.1.1.cls = true ∧ q.1.1.cls ≠ "java/lang/invoke/MethodHandle" ∧ q.1.1.cls ≠ "java/lang/invoke/VarHandle" ∧ (parseMethodDescriptor q.1.1.desc).map (fun d => d.parameters.length + (if q.2.1.1 then 0 else 1)) = some q.2.2.1 ∧
    q.2.2.2.1 = (match q.1.2.2.1 with | none => 0 | some .int => 1 | some .boolean => 2 | some (.object _) => 3 | some (.array _) => 3 | some _ => 9) ∧ (q.2.1.2 = true → q.1.1.name = "<init>" ∧ q.1.2.2.1 = none) := sorry
set_option maxRecDepth 100000 in
/-- what stands in a row of calls: static, constructor, receiver's class -/
theorem am_mci : ∀ q ∈ am_M.zip (am_MS.zip am_CI), q.2.1.1 = true ∨ q.2.1.2 = true ∨ q.1.1.cls = (am_cl q.2.2).1 := sorry
theorem am_mlen : am_M.length = am_LAW + 1 ∧ am_MS.length = am_LAW + 1 ∧ am_N.length = am_LAW + 1 ∧ am_MWi.length = am_LAW + 1 ∧ am_CI.length = am_LAW + 1 ∧ am_H.length = am_LAW + 1 ∧ am_C.length = am_LAW + 1 := sorry
/-- handlers: the table's rows, their classes by the links -/
def am_hOk (j : am_J) (h : List (Nat × Nat × Nat × Nat)) : Bool := decide (j.2.2.2.length = h.length) && (j.2.2.2.zip h).all (fun q => decide (q.1.1 = q.2.1) && (decide (q.1.2.1 = q.2.2.1) && (decide (q.1.2.2.1 = q.2.2.2.1) && (decide (q.2.2.2.2 < 4) && (decide (q.1.2.2.2 ≠ 0) && decide (Cond.classLink j.1.cls q.1.2.2.2 (am_X q.2.2.2.2) ∈ lw_tbl))))))
set_option maxRecDepth 100000 in
theorem am_hw : ∀ q ∈ am_M.zip am_H, am_hOk q.1 q.2 = true := sorry
theorem am_wlm {r : Nat} {w : Cond} (h : am_WL[r]? = some w) : w ∈ lw_tbl := by
  have hl := (List.getElem?_eq_some_iff.mp h).1
  have hl2 : r < am_WLi.length := by rw [← am_wl_len]; exact hl
  have hz : (am_WL.zip am_WLi)[r]? = some (w, am_WLi[r]) := by
    rw [List.getElem?_zip_eq_some]
    exact ⟨h, List.getElem?_eq_getElem hl2⟩
  exact List.mem_of_getElem? (of_decide_eq_true (am_wl_ok _ (List.mem_of_getElem? hz)))
