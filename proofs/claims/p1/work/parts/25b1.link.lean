theorem am_app {α : Type} {p : α → Bool} {a b : List α} (ha : ∀ e ∈ a, p e = true) (hb : ∀ e ∈ b, p e = true) : ∀ e ∈ a ++ b, p e = true := fun e he => (List.mem_append.mp he).elim (ha e) (hb e)
set_option maxRecDepth 100000 in
theorem am_wf_ok : ∀ r ∈ am_WF, am_wfOk r = true := List.all_eq_true.mp (by decide +kernel)
set_option maxRecDepth 100000 in
theorem am_wl_ok : ∀ q ∈ am_WL.zip am_WLi, decide (lw_tbl[q.2]? = some q.1) = true := List.all_eq_true.mp (by decide +kernel)
set_option maxRecDepth 100000 in
theorem am_wl_len : am_WL.length = am_WLi.length := by decide +kernel
