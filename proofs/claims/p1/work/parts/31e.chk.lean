theorem am_mwE : am_ZZ.drop 330 = [] := by decide +kernel
theorem am_mwA : ∀ q ∈ am_ZZ.drop 0, am_ZP q = true := (am_cut15 0 15 am_mw0 (am_cut15 15 15 am_mw15 (am_cut15 30 15 am_mw30 (am_cut15 45 15 am_mw45 (am_cut15 60 15 am_mw60 (am_cut15 75 15 am_mw75 (am_cut15 90 15 am_mw90 (am_cut15 105 15 am_mw105 (am_cut15 120 15 am_mw120 (am_cut15 135 15 am_mw135 (am_cut15 150 15 am_mw150 (am_cut15 165 15 am_mw165 (am_cut15 180 15 am_mw180 (am_cut15 195 15 am_mw195 (am_cut15 210 15 am_mw210 (am_cut15 225 15 am_mw225 (am_cut15 240 15 am_mw240 (am_cut15 255 15 am_mw255 (am_cut15 270 15 am_mw270 (am_cut15 285 15 am_mw285 (am_cut15 300 15 am_mw300 (am_cut15 315 15 am_mw315 (fun q hq => by rw [am_mwE] at hq; cases hq)))))))))))))))))))))))
theorem am_mw : ∀ q ∈ (am_M.zip (am_MS.zip (am_N.zip am_MWi))).take am_LAW, ((am_MW q.1 q.2.1.1 q.2.1.2 q.2.2.1.2.2.2.2.2.2).zip q.2.2.2).all (fun x => decide (lw_tbl[x.2]? = some x.1)) = true ∧ (am_MW q.1 q.2.1.1 q.2.1.2 q.2.2.1.2.2.2.2.2.2).length = q.2.2.2.length ∧ (am_MW q.1 q.2.1.1 q.2.1.2 q.2.2.1.2.2.2.2.2.2).all goodWord = true := by
  intro q hq
  have h := am_mwA q hq
  simp only [am_ZP, Bool.and_eq_true, decide_eq_true_eq] at h
  exact ⟨List.all_eq_true.mpr (fun x hx => decide_eq_true (am_atT_ok (List.all_eq_true.mp h.1 x hx))), h.2⟩
/-- the method is run from its bytecode, whatever its class's name -/
def am_plN (j : am_J) : Bool := plainFor j.1 && (decide (j.2.2.2 = []) || plainName j.1.cls)
set_option maxRecDepth 100000 in
theorem am_mdA : ∀ q ∈ am_M, am_plN q = true := by decide +kernel
set_option maxRecDepth 100000 in
theorem am_mdB : ∀ q ∈ am_M, q.1.cls ≠ "java/lang/invoke/MethodHandle" ∧ q.1.cls ≠ "java/lang/invoke/VarHandle" := by decide +kernel
set_option maxRecDepth 100000 in
theorem am_mdC : ∀ q ∈ am_M.zip (am_MS.zip am_N), (parseMethodDescriptor q.1.1.desc).map (fun d => d.parameters.length + (if q.2.1.1 then 0 else 1)) = some q.2.2.1 := by decide +kernel
set_option maxRecDepth 100000 in
theorem am_mdD : ∀ q ∈ am_M.zip (am_MS.zip am_N), q.2.2.2.1 = (match q.1.2.2.1 with | none => 0 | some .int => 1 | some .boolean => 2 | some (.object _) => 3 | some (.array _) => 3 | some _ => 9) := by decide +kernel
set_option maxRecDepth 100000 in
theorem am_mdE : ∀ q ∈ am_M.zip (am_MS.zip am_N), (q.2.1.2 = true → q.1.1.name = "<init>" ∧ q.1.2.2.1 = none) := by decide +kernel
theorem am_md : ∀ q ∈ am_M.zip (am_MS.zip am_N), am_plN q.1 = true ∧ q.1.1.cls ≠ "java/lang/invoke/MethodHandle" ∧ q.1.1.cls ≠ "java/lang/invoke/VarHandle" ∧ (parseMethodDescriptor q.1.1.desc).map (fun d => d.parameters.length + (if q.2.1.1 then 0 else 1)) = some q.2.2.1 ∧
    q.2.2.2.1 = (match q.1.2.2.1 with | none => 0 | some .int => 1 | some .boolean => 2 | some (.object _) => 3 | some (.array _) => 3 | some _ => 9) ∧ (q.2.1.2 = true → q.1.1.name = "<init>" ∧ q.1.2.2.1 = none) := fun q hq =>
  have h1 : q.1 ∈ am_M := (List.of_mem_zip (a := q.1) (b := q.2) hq).1
  ⟨am_mdA _ h1, (am_mdB _ h1).1, (am_mdB _ h1).2, am_mdC q hq, am_mdD q hq, am_mdE q hq⟩
set_option maxRecDepth 100000 in
/-- what stands in a row of calls: static, constructor, receiver's class -/
theorem am_mci : ∀ q ∈ am_M.zip (am_MS.zip am_CI), q.2.1.1 = true ∨ q.2.1.2 = true ∨ q.1.1.cls = (am_cl q.2.2).1 := by decide +kernel
theorem am_mlen : am_M.length = am_LAW + 1 ∧ am_MS.length = am_LAW + 1 ∧ am_N.length = am_LAW + 1 ∧ am_MWi.length = am_LAW + 1 ∧ am_CI.length = am_LAW + 1 ∧ am_H.length = am_LAW + 1 ∧ am_C.length = am_LAW + 1 := by decide +kernel
/-- handlers: the table's rows, their classes by the links -/
def am_hOk (j : am_J) (h : List (Nat × Nat × Nat × Nat)) : Bool := decide (j.2.2.2.length = h.length) && (j.2.2.2.zip h).all (fun q => decide (q.1.1 = q.2.1) && (decide (q.1.2.1 = q.2.2.1) && (decide (q.1.2.2.1 = q.2.2.2.1) && (decide (q.2.2.2.2 < 4) && (decide (q.1.2.2.2 ≠ 0) && decide (Cond.classLink j.1.cls q.1.2.2.2 (am_X q.2.2.2.2) ∈ lw_tbl))))))
def am_hOkI (j : am_J) (h : List (Nat × Nat × Nat × Nat)) (ix : List Nat) : Bool := decide (j.2.2.2.length = h.length) && (decide (h.length = ix.length) && ((j.2.2.2.zip h).zip ix).all (fun q => decide (q.1.1.1 = q.1.2.1) && (decide (q.1.1.2.1 = q.1.2.2.1) && (decide (q.1.1.2.2.1 = q.1.2.2.2.1) && (decide (q.1.2.2.2.2 < 4) && (decide (q.1.1.2.2.2 ≠ 0) && decide (lw_tbl[q.2]? = some (Cond.classLink j.1.cls q.1.1.2.2.2 (am_X q.1.2.2.2.2)))))))))
theorem am_hI {j : am_J} {h : List (Nat × Nat × Nat × Nat)} {ix : List Nat} (hh : am_hOkI j h ix = true) : am_hOk j h = true := by
  simp only [am_hOkI, Bool.and_eq_true, decide_eq_true_eq] at hh
  obtain ⟨h1, h2, h3⟩ := hh
  simp only [am_hOk, Bool.and_eq_true, decide_eq_true_eq]
  refine ⟨h1, List.all_eq_true.mpr (fun q hq => ?_)⟩
  obtain ⟨i, hi⟩ := List.getElem?_of_mem hq
  have hl := (List.getElem?_eq_some_iff.mp hi).1
  rw [List.length_zip] at hl
  have hl2 : i < ix.length := by omega
  have hz : ((j.2.2.2.zip h).zip ix)[i]? = some (q, ix[i]) := by
    rw [List.getElem?_zip_eq_some]
    exact ⟨hi, List.getElem?_eq_getElem hl2⟩
  have h9 := List.all_eq_true.mp h3 _ (List.mem_of_getElem? hz)
  simp only [Bool.and_eq_true, decide_eq_true_eq] at h9 ⊢
  obtain ⟨a1, a2, a3, a4, a5, a6⟩ := h9
  exact ⟨a1, a2, a3, a4, a5, List.mem_of_getElem? a6⟩
def am_HWi : List (List Nat) := [[], [], [], [], [], [], [], [], [], [], [], [], [], [], [], [], [], [], [], [], [], [], [], [], [], [], [], [], [], [], [], [600, 601], [], [], [], [], [], [], [], [], [], [], [], [], [882, 600], [], [], [], [], [], [], [], [], [], [882], [], [], [], [], [], [], [], [], [], [], [], [], [920, 600], [], [], [], [882, 600], [], [], [], [600], [], [], [], [882], [], [], [], [], [], [], [], [882, 600], [], [], [], [], [], [], [600], [], [], [], [], [], [], [], [], [], [], [], [], [], [], [], [], [], [], [], [], [], [], [], [], [], [], [], [], [], [], [], [], [], [], [], [], [], [], [], [], [], [], [], [], [], [], [], [], [], [], [], [], [], [], [], [], [882, 600, 601], [], [], [], [], [], [], [], [], [], [], [], [], [], [], [882, 600, 601], [], [], [], [], [], [], [], [], [], [], [], [882, 600, 601], [], [], [], [], [882, 600, 601], [], [], [], [882, 601], [], [], [], [], [], [882, 601], [], [], [882, 601], [], [], [], [882, 600, 601], [], [], [], [], [], [], [], [882, 600, 601], [], [], [], [882, 600, 601], [], [], [], [882, 600, 601], [], [], [], [], [], [], [], [882, 920, 600], [], [], [], [], [], [], [], [], [], [], [], [], [882, 600, 601], [], [], [], [], [], [], [], [], [], [], [], [], [], [], [], [], [], [882, 920, 600], [], [], [], [], [], [], [], [882, 600], [], [], [], [], [882], [], [], [], [], [], [], [], [], [], [], [], [], [882, 920], [], [], [], [], [], [], [], [], [], [], [], [], [882, 920], [], [], [], [], [882, 600], [], [], [], [882, 600], [], [], [882], [], [], [882, 600], [], [], [], [920], [], [], [600], [], [], [], [], [600], [], [], [], [], [], [], [], []]
set_option maxRecDepth 100000 in
theorem am_hwI : ∀ q ∈ (am_M.zip am_H).zip am_HWi, am_hOkI q.1.1 q.1.2 q.2 = true := by decide +kernel
theorem am_hwL : am_HWi.length = am_LAW + 1 := by decide +kernel
theorem am_hw : ∀ q ∈ am_M.zip am_H, am_hOk q.1 q.2 = true := by
  intro q hq
  obtain ⟨i, hi⟩ := List.getElem?_of_mem hq
  have hl := (List.getElem?_eq_some_iff.mp hi).1
  rw [List.length_zip] at hl
  have hl2 : i < am_HWi.length := by
    rw [am_hwL, ← am_mlen.1]
    omega
  have hz : ((am_M.zip am_H).zip am_HWi)[i]? = some (q, am_HWi[i]) := by
    rw [List.getElem?_zip_eq_some]
    exact ⟨hi, List.getElem?_eq_getElem hl2⟩
  exact am_hI (am_hwI _ (List.mem_of_getElem? hz))
theorem am_wlm {r : Nat} {w : Cond} (h : am_WL[r]? = some w) : w ∈ lw_tbl := by
  have hl := (List.getElem?_eq_some_iff.mp h).1
  have hl2 : r < am_WLi.length := by rw [← am_wl_len]; exact hl
  have hz : (am_WL.zip am_WLi)[r]? = some (w, am_WLi[r]) := by
    rw [List.getElem?_zip_eq_some]
    exact ⟨h, List.getElem?_eq_getElem hl2⟩
  exact List.mem_of_getElem? (of_decide_eq_true (am_wl_ok _ (List.mem_of_getElem? hz)))
