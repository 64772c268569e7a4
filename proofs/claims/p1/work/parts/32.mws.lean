theorem am_get {α : Type} {l : List α} {i : Nat} (h : i < l.length) (d : α) : l[i]? = some (l.getD i d) := by
  simp [List.getD_eq_getElem?_getD, List.getElem?_eq_getElem h]
/-- what the tables say of method m2 -/
theorem am_mws {m2 : Nat} (hm : m2 < am_LAW) : ∃ (j2 : am_J) (st ini : Bool), am_M[m2]? = some j2 ∧ am_nm m2 = j2.1 ∧ am_MS[m2]? = some (st, ini) ∧ (∀ w ∈ am_MW j2 st ini (am_ml m2), w ∈ lw_tbl ∧ goodWord w = true) ∧
    am_plN j2 = true ∧ j2.1.cls ≠ "java/lang/invoke/MethodHandle" ∧ j2.1.cls ≠ "java/lang/invoke/VarHandle" ∧ (parseMethodDescriptor j2.1.desc).map (fun d => d.parameters.length + (if st then 0 else 1)) = some (am_na m2) ∧
    am_rk m2 = (match j2.2.2.1 with | none => 0 | some .int => 1 | some .boolean => 2 | some (.object _) => 3 | some (.array _) => 3 | some _ => 9) ∧ (st = true ∨ ini = true ∨ j2.1.cls = (am_cl (am_ci m2)).1) ∧ (ini = true → j2.1.name = "<init>" ∧ j2.2.2.1 = none) := by
  obtain ⟨l1, l2, l3, l4, l5, l6, l7⟩ := am_mlen
  have g1 : am_M[m2]? = some (am_M.getD m2 (⟨"", "", ""⟩, .empty, none, [])) := am_get (by omega) _
  have g2 : am_MS[m2]? = some (am_MS.getD m2 (false, false)) := am_get (by omega) _
  have g3 : am_N[m2]? = some (am_n m2) := am_get (by omega) _
  have g4 : am_MWi[m2]? = some (am_MWi.getD m2 []) := am_get (by omega) _
  have g5 : am_CI[m2]? = some (am_ci m2) := am_get (by omega) _
  generalize hj : am_M.getD m2 (⟨"", "", ""⟩, .empty, none, []) = j2 at g1
  generalize hs : am_MS.getD m2 (false, false) = si at g2
  generalize hi : am_MWi.getD m2 [] = ix at g4
  obtain ⟨st, ini⟩ := si
  have z1 : ((am_M.zip (am_MS.zip (am_N.zip am_MWi))).take am_LAW)[m2]? = some (j2, (st, ini), am_n m2, ix) := by
    rw [List.getElem?_take_of_lt hm, List.getElem?_zip_eq_some]
    refine ⟨g1, ?_⟩
    rw [List.getElem?_zip_eq_some]
    refine ⟨g2, ?_⟩
    rw [List.getElem?_zip_eq_some]
    exact ⟨g3, g4⟩
  have z2 : (am_M.zip (am_MS.zip am_N))[m2]? = some (j2, (st, ini), am_n m2) := by
    rw [List.getElem?_zip_eq_some]
    refine ⟨g1, ?_⟩
    rw [List.getElem?_zip_eq_some]
    exact ⟨g2, g3⟩
  have z3 : (am_M.zip (am_MS.zip am_CI))[m2]? = some (j2, (st, ini), am_ci m2) := by
    rw [List.getElem?_zip_eq_some]
    refine ⟨g1, ?_⟩
    rw [List.getElem?_zip_eq_some]
    exact ⟨g2, g5⟩
  obtain ⟨a1, a2, a3⟩ := am_mw _ (List.mem_of_getElem? z1)
  obtain ⟨b1, b2, b3, b4, b5, b6⟩ := am_md _ (List.mem_of_getElem? z2)
  have c1 := am_mci _ (List.mem_of_getElem? z3)
  refine ⟨j2, st, ini, g1, by rw [am_nm, hj], g2, fun w hw => ?_, b1, b2, b3, b4, b5, c1, b6⟩
  refine ⟨?_, List.all_eq_true.mp a3 w hw⟩
  obtain ⟨i, hi⟩ := List.getElem?_of_mem hw
  have hl := (List.getElem?_eq_some_iff.mp hi).1
  have hl2 : i < ix.length := by rw [← a2]; exact hl
  have hz : ((am_MW j2 st ini (am_ml m2)).zip ix)[i]? = some (w, ix[i]) := by
    rw [List.getElem?_zip_eq_some]
    exact ⟨hi, List.getElem?_eq_getElem hl2⟩
  have h9 := List.all_eq_true.mp a1 _ (List.mem_of_getElem? hz)
  exact List.mem_of_getElem? (of_decide_eq_true h9)
theorem am_in4 {α : Type} {P : α → Prop} {a b : α} {r : List α} (h : ∀ w ∈ [a, b] ++ r, P w) : P a ∧ P b ∧ ∀ w ∈ r, P w := ⟨h a (by simp), h b (by simp), fun w hw => h w (by simp [hw])⟩
theorem am_dl {m : Nat} {j : am_J} (hm : m < am_LAW) (hj : am_M[m]? = some j) : (∀ e ∈ am_code m, am_deOk j.2.1 e = true) ∧ (∀ e ∈ am_code m, am_ok j.1 m e = true) := am_dlA m (Nat.lt_succ_of_lt hm) j hj
