/-! where the words of the classes stand -/
def am_UI : List (List Nat) := [[189, 185, 187], [333, 335, 337, 339], [155, 157, 159, 161], [272, 274, 276, 278, 280, 282, 284, 286, 288, 290, 292, 294, 296, 298, 300, 302, 304], [354, 356, 358, 360, 362, 364], [740, 742], [376, 378], [206, 208, 210, 212], [716, 718, 720, 722, 724], [404, 406, 408, 410, 412, 414, 416, 418, 420, 422, 424], [316, 318], [771, 773, 775, 777, 779, 781, 783, 785, 787, 789, 791, 793, 795, 797, 799, 801, 803, 805, 807], [440, 442, 444, 446, 448, 450, 452, 454, 456, 458, 460, 462, 464], [1604, 1606, 1608, 1610, 1612, 1614, 1616, 1618, 1620, 1622, 1624, 1626, 1628, 1630, 1632, 1634, 1636, 1638, 1640, 1642, 1644, 1646, 1648, 1650, 1652, 1654, 1656, 1658, 1660, 1662, 1664, 1666, 1668, 1670, 1672, 1674, 1676, 1678, 1680, 1682, 1684, 1686, 1688, 1690, 1692, 1694, 1696, 1698, 1700, 1702, 1704, 1706, 1708, 1710, 1712, 1714, 1716]]
def am_CLI : List (Nat × Nat) := [(167, 106), (323, 110), (141, 103), (216, 108), (343, 111), (732, 123), (368, 112), (193, 107), (691, 121), (381, 113), (308, 109), (689, 120), (133, 102), (1542, 114)]
theorem am_uiL : am_UI.length = vwCl.length ∧ am_CLI.length = vwCl.length := by decide +kernel
set_option maxRecDepth 100000 in
theorem am_uwsI : ∀ q ∈ vwCl.zip am_UI, ((u_ws q.1.1 q.1.2.1 q.1.2.2).zip q.2).all (fun x => decide (lw_tbl[x.2]? = some x.1) && goodWord x.1) = true ∧ (u_ws q.1.1 q.1.2.1 q.1.2.2).length = q.2.length := by decide +kernel
set_option maxRecDepth 100000 in
theorem am_clsI : ∀ q ∈ vwCl.zip am_CLI, lw_tbl[q.2.1]? = some (Cond.instantiable q.1.1 q.1.2.2) ∧ lw_tbl[q.2.2]? = some (Cond.initialized q.1.1) := by decide +kernel
theorem am_zipOf {α β : Type} {l : List α} {m : List β} (h : m.length = l.length) {q : α} (hq : q ∈ l) : ∃ x, (q, x) ∈ l.zip m := by
  obtain ⟨i, hi⟩ := List.getElem?_of_mem hq
  have hl := (List.getElem?_eq_some_iff.mp hi).1
  have hm : i < m.length := by rw [h]; exact hl
  refine ⟨m[i], List.mem_of_getElem? (i := i) ?_⟩
  rw [List.getElem?_zip_eq_some]
  exact ⟨hi, List.getElem?_eq_getElem hm⟩
theorem am_uws : ∀ q ∈ vwCl, ∀ w ∈ u_ws q.1 q.2.1 q.2.2, w ∈ lw_tbl.filter goodWord := by
  intro q hq w hw
  obtain ⟨ix, hx⟩ := am_zipOf am_uiL.1 hq
  obtain ⟨h1, h2⟩ := am_uwsI _ hx
  obtain ⟨i, hi⟩ := am_zipOf h2.symm hw
  have h3 := List.all_eq_true.mp h1 _ hi
  rw [Bool.and_eq_true] at h3
  exact List.mem_filter.mpr ⟨List.mem_of_getElem? (of_decide_eq_true h3.1), h3.2⟩
theorem am_cls : ∀ q ∈ vwCl, Cond.instantiable q.1 q.2.2 ∈ lw_tbl.filter goodWord ∧ Cond.initialized q.1 ∈ lw_tbl.filter goodWord := by
  intro q hq
  obtain ⟨ix, hx⟩ := am_zipOf am_uiL.2 hq
  obtain ⟨h1, h2⟩ := am_clsI _ hx
  exact ⟨List.mem_filter.mpr ⟨List.mem_of_getElem? h1, rfl⟩, List.mem_filter.mpr ⟨List.mem_of_getElem? h2, rfl⟩⟩
