set_option maxHeartbeats 4000000 in
set_option maxRecDepth 100000 in
/-- one frame: where the abstract machine is safe, the machine comes to its end -/
theorem am_body {p : Program} {l : Launch} {e : Env} {R : Room} {s : State} {mi : MethodId} {args : Array Value} {below : List Frame} {meth : Method} {c : Code} {QQ : State → Prop} {D : va_G} {X : Nat → ClassId} {O : am_O} {z m : Nat} {j : am_J} {Q : am_Q}
    (Cx : am_Cx p l R s mi meth c m j D X O z) (Ex : am_Ex p l e R s mi args below meth c D z m Q QQ)
    {K : am_K} {Cl : Nat → List Value → va_W → am_Q → Prop}
    (ihK : ∀ (pc : Nat) (lo : am_L) (st : List Value) (k sl : Nat) (ws : va_W) (H : Heap) (locs : List Loc) (ls : Array Slot), K pc lo st k sl ws → lv_has ls (am_ml m) lo → am_Wd D z s ws H locs → W p l e R s mi args below meth c H locs k sl QQ (F0 mi pc ls st))
    (ihC : ∀ (m2 : Nat) (as : List Value) (ws : va_W) (Q' : am_Q), Cl m2 as ws Q' → ∃ Q1 : am_Q, am_Cn l D X O z m2 as ws Q1 ∧ ∀ r w, Q1 r w → Q' r w)
    (pc : Nat) (lo : am_L) (st : List Value) (k sl : Nat) (ws : va_W) (H : Heap) (locs : List Loc) (ls : Array Slot) (i : Instr) (len ra rb rw0 cu inf : Nat) (hmem : (pc, i, len, ra, rb, rw0, cu, inf) ∈ am_code m)
    (hst : am_step O X K Cl Q m pc i ra rb lo st k sl ws) (hl : lv_has ls (am_ml m) lo) (hWd : am_Wd D z s ws H locs) : W p l e R s mi args below meth c H locs k sl QQ (F0 mi pc ls st) := by
  obtain ⟨hx, hb, hml, hown, hlocks, hname, hVm, hOld, hz, ⟨hRf, hRl, hRc, hRs⟩, hM, htr, hdec, hlnk⟩ := Cx
  obtain ⟨hEi, hEa, hEv, hEx, hEh, hEt⟩ := Ex
  have hK : va_K D vwCl (am_tys X) s := hVm.1
  have hts : ∀ w ∈ lw_tbl.filter goodWord, w.before args s = true := fun w hw => am_word hVm args (List.mem_filter.mp hw).1 (List.mem_filter.mp hw).2
  have hA : ∀ q, s.heap.size ≤ q → am_A z q := fun q h => Nat.le_trans hz h
  have hthr : ∀ (pc : Nat) (lo : am_L) (x k sl : Nat) (ws : va_W) (H : Heap) (locs : List Loc) (ls : Array Slot) (rest : List Value) (q : Addr) (ce : Cell), am_thr K Q m pc lo x k sl ws → lv_has ls (am_ml m) lo → am_Wd D z s ws H locs → x < 4 → H[q]? = some ce → ce.vm = .none → s.vm.findClass (am_X x) = some ce.cls →
      vx_W p l e R s mi args below meth c H locs k sl QQ (F0 mi pc ls rest) q := by
    intro pc lo x k sl ws H locs ls rest q ce h hl hw hx4 hce hcv hcl
    unfold am_thr at h
    split at h
    next t ht => exact hEh pc t H locs k sl ls rest x q ce ht hx4 hce hcv hcl (ihK _ _ _ _ _ _ _ _ _ (h q) hl hw)
    next ht => exact hEx H locs k sl ws pc ls rest x q ce h.2.2 hw h.1 h.2.1 hx4 hce hcv hcl ht
  have hde := hdec _ hmem
  have hok := hlnk _ hmem
  obtain ⟨hP, hD, hSS⟩ := id hWd
  simp only [am_deOk, Bool.and_eq_true, decide_eq_true_eq] at hde
  obtain ⟨hd, hlen⟩ := hde
  cases i with
  | iconst q => cases (show len = 1 by simpa [am_len] using hlen); exact lv_iconst hx hb hd rfl (ihK _ _ _ _ _ _ _ _ _ hst hl hWd)
  | bipush q => cases (show len = 2 by simpa [am_len] using hlen); exact lv_bipush hx hb hd rfl (ihK _ _ _ _ _ _ _ _ _ hst hl hWd)
  | sipush q => cases (show len = 3 by simpa [am_len] using hlen); exact lv_sipush hx hb hd rfl (ihK _ _ _ _ _ _ _ _ _ hst hl hWd)
  | lconst q => cases (show len = 1 by simpa [am_len] using hlen); exact lv_lconst hx hb hd rfl (ihK _ _ _ _ _ _ _ _ _ hst hl hWd)
  | aconst_null => cases (show len = 1 by simpa [am_len] using hlen); exact lv_null hx hb hd (ihK _ _ _ _ _ _ _ _ _ hst hl hWd)
  | ldc q =>
    cases (show len = 2 by simpa [am_len] using hlen)
    simp only [am_ok, decide_eq_true_eq] at hok
    exact lv_ldc hx hb hown (am_wl hVm args hok rfl) hd (ihK _ _ _ _ _ _ _ _ _ hst hl hWd)
  | ldc_w q =>
    cases (show len = 3 by simpa [am_len] using hlen)
    simp only [am_ok, decide_eq_true_eq] at hok
    exact lv_ldcw hx hb hown (am_wl hVm args hok rfl) hd (ihK _ _ _ _ _ _ _ _ _ hst hl hWd)
  | ldc2_w q =>
    cases (show len = 3 by simpa [am_len] using hlen)
    simp only [am_ok, decide_eq_true_eq] at hok
    exact lv_ldc2 hx hb hown (am_wl hVm args hok rfl) hd (ihK _ _ _ _ _ _ _ _ _ hst hl hWd)
  | iload_n q => cases (show len = 1 by simpa [am_len] using hlen); obtain ⟨x, h1, h2⟩ := hst; exact lv_iload_n hx hb hd rfl (am_lv hl h1) (ihK _ _ _ _ _ _ _ _ _ h2 hl hWd)
  | iload q => cases (show len = 2 by simpa [am_len] using hlen); obtain ⟨x, h1, h2⟩ := hst; exact lv_iload hx hb hd (am_lv hl h1) (ihK _ _ _ _ _ _ _ _ _ h2 hl hWd)
  | lload_n q => cases (show len = 1 by simpa [am_len] using hlen); obtain ⟨x, h1, h2⟩ := hst; exact lv_lload_n hx hb hd rfl (am_lv hl h1) (ihK _ _ _ _ _ _ _ _ _ h2 hl hWd)
  | lload q => cases (show len = 2 by simpa [am_len] using hlen); obtain ⟨x, h1, h2⟩ := hst; exact lv_lload hx hb hd (am_lv hl h1) (ihK _ _ _ _ _ _ _ _ _ h2 hl hWd)
  | aload_n q =>
    cases (show len = 1 by simpa [am_len] using hlen); obtain ⟨x, h1, h2⟩ := hst
    cases x with
    | none => exact lv_aload_nN hx hb hd rfl (am_lv hl h1) (ihK _ _ _ _ _ _ _ _ _ h2 hl hWd)
    | some a => exact lv_aload_n hx hb hd rfl (am_lv hl h1) (ihK _ _ _ _ _ _ _ _ _ h2 hl hWd)
  | aload q =>
    cases (show len = 2 by simpa [am_len] using hlen); obtain ⟨x, h1, h2⟩ := hst
    cases x with
    | none => exact lv_aloadN hx hb hd (am_lv hl h1) (ihK _ _ _ _ _ _ _ _ _ h2 hl hWd)
    | some a => exact lv_aload hx hb hd (am_lv hl h1) (ihK _ _ _ _ _ _ _ _ _ h2 hl hWd)
  | istore_n q => cases (show len = 1 by simpa [am_len] using hlen); obtain ⟨x, r, rfl, h1, h2⟩ := hst; exact lv_istore_n hx hb hd rfl hl h1 rfl (fun ls' hl' => ihK _ _ _ _ _ _ _ _ _ h2 hl' hWd)
  | istore q => cases (show len = 2 by simpa [am_len] using hlen); obtain ⟨x, r, rfl, h1, h2⟩ := hst; exact lv_istore hx hb hd hl h1 rfl (fun ls' hl' => ihK _ _ _ _ _ _ _ _ _ h2 hl' hWd)
  | lstore_n q => cases (show len = 1 by simpa [am_len] using hlen); obtain ⟨x, r, rfl, h1, h2⟩ := hst; exact lv_lstore_n hx hb hd rfl hl h1 rfl (fun ls' hl' => ihK _ _ _ _ _ _ _ _ _ h2 hl' hWd)
  | lstore q => cases (show len = 2 by simpa [am_len] using hlen); obtain ⟨x, r, rfl, h1, h2⟩ := hst; exact lv_lstore hx hb hd hl h1 rfl (fun ls' hl' => ihK _ _ _ _ _ _ _ _ _ h2 hl' hWd)
  | astore_n q =>
    cases (show len = 1 by simpa [am_len] using hlen); obtain ⟨x, r, rfl, h1, h2⟩ := hst
    cases x with
    | none => exact lv_astore_nN hx hb hd rfl hl h1 rfl (fun ls' hl' => ihK _ _ _ _ _ _ _ _ _ h2 hl' hWd)
    | some a => exact lv_astore_n hx hb hd rfl hl h1 rfl (fun ls' hl' => ihK _ _ _ _ _ _ _ _ _ h2 hl' hWd)
  | astore q =>
    cases (show len = 2 by simpa [am_len] using hlen); obtain ⟨x, r, rfl, h1, h2⟩ := hst
    cases x with
    | none => exact lv_astoreN hx hb hd hl h1 rfl (fun ls' hl' => ihK _ _ _ _ _ _ _ _ _ h2 hl' hWd)
    | some a => exact lv_astore hx hb hd hl h1 rfl (fun ls' hl' => ihK _ _ _ _ _ _ _ _ _ h2 hl' hWd)
  | iinc q w =>
    cases (show len = 3 by simpa [am_len] using hlen); obtain ⟨x, h1, h2⟩ := hst
    obtain ⟨k9, hk9⟩ := List.getElem?_of_mem h1
    have hlt : q < am_ml m := by rw [← hl.1]; exact (Array.getElem?_eq_some_iff.mp (am_lv hl h1)).1
    exact lv_iinc hx hb hd hl hk9 rfl hlt rfl (fun ls' hl' => ihK _ _ _ _ _ _ _ _ _ h2 hl' hWd)
  | iadd => cases (show len = 1 by simpa [am_len] using hlen); obtain ⟨x, y, w, r, rfl, h1, h2⟩ := hst; cases h1; exact lv_iadd hx hb hd (ihK _ _ _ _ _ _ _ _ _ h2 hl hWd)
  | isub => cases (show len = 1 by simpa [am_len] using hlen); obtain ⟨x, y, w, r, rfl, h1, h2⟩ := hst; cases h1; exact lv_isub hx hb hd (ihK _ _ _ _ _ _ _ _ _ h2 hl hWd)
  | imul => cases (show len = 1 by simpa [am_len] using hlen); obtain ⟨x, y, w, r, rfl, h1, h2⟩ := hst; cases h1; exact lv_imul hx hb hd (ihK _ _ _ _ _ _ _ _ _ h2 hl hWd)
  | iand => cases (show len = 1 by simpa [am_len] using hlen); obtain ⟨x, y, w, r, rfl, h1, h2⟩ := hst; cases h1; exact lv_iand hx hb hd (ihK _ _ _ _ _ _ _ _ _ h2 hl hWd)
  | ior => cases (show len = 1 by simpa [am_len] using hlen); obtain ⟨x, y, w, r, rfl, h1, h2⟩ := hst; cases h1; exact lv_ior hx hb hd (ihK _ _ _ _ _ _ _ _ _ h2 hl hWd)
  | ixor => cases (show len = 1 by simpa [am_len] using hlen); obtain ⟨x, y, w, r, rfl, h1, h2⟩ := hst; cases h1; exact lv_ixor hx hb hd (ihK _ _ _ _ _ _ _ _ _ h2 hl hWd)
  | ishl => cases (show len = 1 by simpa [am_len] using hlen); obtain ⟨x, y, w, r, rfl, h1, h2⟩ := hst; cases h1; exact lv_ishl hx hb hd (ihK _ _ _ _ _ _ _ _ _ h2 hl hWd)
  | ishr => cases (show len = 1 by simpa [am_len] using hlen); obtain ⟨x, y, w, r, rfl, h1, h2⟩ := hst; cases h1; exact lv_ishr hx hb hd (ihK _ _ _ _ _ _ _ _ _ h2 hl hWd)
  | iushr => cases (show len = 1 by simpa [am_len] using hlen); obtain ⟨x, y, w, r, rfl, h1, h2⟩ := hst; exact lv_iushr hx hb hd (Option.some.inj h1) (ihK _ _ _ _ _ _ _ _ _ h2 hl hWd)
  | idiv =>
    cases (show len = 1 by simpa [am_len] using hlen); obtain ⟨x, y, w, r, rfl, h1, h2⟩ := hst
    by_cases hy : y = 0
    · simp [am_ib, hy] at h1
    · simp only [am_ib, if_neg hy, Option.some.injEq] at h1; subst h1; exact lv_idiv hx hb hd hy (ihK _ _ _ _ _ _ _ _ _ h2 hl hWd)
  | irem =>
    cases (show len = 1 by simpa [am_len] using hlen); obtain ⟨x, y, w, r, rfl, h1, h2⟩ := hst
    by_cases hy : y = 0
    · simp [am_ib, hy] at h1
    · simp only [am_ib, if_neg hy, Option.some.injEq] at h1; subst h1; exact lv_irem hx hb hd hy (ihK _ _ _ _ _ _ _ _ _ h2 hl hWd)
  | ladd => cases (show len = 1 by simpa [am_len] using hlen); obtain ⟨x, y, w, r, rfl, h1, h2⟩ := hst; cases h1; exact lv_ladd hx hb hd (ihK _ _ _ _ _ _ _ _ _ h2 hl hWd)
  | lsub => cases (show len = 1 by simpa [am_len] using hlen); obtain ⟨x, y, w, r, rfl, h1, h2⟩ := hst; cases h1; exact lv_lsub hx hb hd (ihK _ _ _ _ _ _ _ _ _ h2 hl hWd)
  | lmul => cases (show len = 1 by simpa [am_len] using hlen); obtain ⟨x, y, w, r, rfl, h1, h2⟩ := hst; cases h1; exact lv_lmul hx hb hd (ihK _ _ _ _ _ _ _ _ _ h2 hl hWd)
  | ldiv =>
    cases (show len = 1 by simpa [am_len] using hlen); obtain ⟨x, y, w, r, rfl, h1, h2⟩ := hst
    by_cases hy : y = 0
    · simp [am_lb, hy] at h1
    · simp only [am_lb, if_neg hy, Option.some.injEq] at h1; subst h1; exact lv_ldiv hx hb hd hy (ihK _ _ _ _ _ _ _ _ _ h2 hl hWd)
  | lshl => cases (show len = 1 by simpa [am_len] using hlen); obtain ⟨x, y, r, rfl, h2⟩ := hst; exact lv_lshl hx hb hd rfl (ihK _ _ _ _ _ _ _ _ _ h2 hl hWd)
  | i2l => cases (show len = 1 by simpa [am_len] using hlen); obtain ⟨x, r, rfl, h2⟩ := hst; exact lv_i2l hx hb hd rfl (ihK _ _ _ _ _ _ _ _ _ h2 hl hWd)
  | l2i => cases (show len = 1 by simpa [am_len] using hlen); obtain ⟨x, r, rfl, h2⟩ := hst; exact lv_l2i hx hb hd rfl (ihK _ _ _ _ _ _ _ _ _ h2 hl hWd)
  | lcmp => cases (show len = 1 by simpa [am_len] using hlen); obtain ⟨x, y, r, rfl, h2⟩ := hst; exact W.lcmp hx hb hd (ihK _ _ _ _ _ _ _ _ _ h2 hl hWd)
  | ifCond cc off =>
    cases (show len = 3 by simpa [am_len] using hlen); obtain ⟨x, r, rfl, h1, h2⟩ := hst
    simp only [am_ok, decide_eq_true_eq] at hok
    cases cc with
    | eq => exact lv_if_eq hx hb hd hok (fun h => ihK _ _ _ _ _ _ _ _ _ (h1 h) hl hWd) (fun h => ihK _ _ _ _ _ _ _ _ _ (h2 h) hl hWd)
    | ne => exact lv_if_ne hx hb hd hok (fun h => ihK _ _ _ _ _ _ _ _ _ (h1 h) hl hWd) (fun h => ihK _ _ _ _ _ _ _ _ _ (h2 (fun q => q h)) hl hWd)
    | lt => exact lv_if_lt hx hb hd hok (fun h => ihK _ _ _ _ _ _ _ _ _ (h1 h) hl hWd) (fun h => ihK _ _ _ _ _ _ _ _ _ (h2 h) hl hWd)
    | ge => exact lv_if_ge hx hb hd hok (fun h => ihK _ _ _ _ _ _ _ _ _ (h1 h) hl hWd) (fun h => ihK _ _ _ _ _ _ _ _ _ (h2 h) hl hWd)
    | gt => exact lv_if_gt hx hb hd hok (fun h => ihK _ _ _ _ _ _ _ _ _ (h1 h) hl hWd) (fun h => ihK _ _ _ _ _ _ _ _ _ (h2 h) hl hWd)
    | le => exact lv_if_le hx hb hd hok (fun h => ihK _ _ _ _ _ _ _ _ _ (h1 h) hl hWd) (fun h => ihK _ _ _ _ _ _ _ _ _ (h2 h) hl hWd)
  | if_icmp cc off =>
    cases (show len = 3 by simpa [am_len] using hlen); obtain ⟨x, y, r, rfl, h1, h2⟩ := hst
    simp only [am_ok, decide_eq_true_eq] at hok
    cases cc with
    | eq => exact lv_icmp_eq hx hb hd hok (fun h => ihK _ _ _ _ _ _ _ _ _ (h1 h) hl hWd) (fun h => ihK _ _ _ _ _ _ _ _ _ (h2 h) hl hWd)
    | ne => exact lv_icmp_ne hx hb hd hok (fun h => ihK _ _ _ _ _ _ _ _ _ (h1 h) hl hWd) (fun h => ihK _ _ _ _ _ _ _ _ _ (h2 (fun q => q h)) hl hWd)
    | lt => exact lv_icmp_lt hx hb hd hok (fun h => ihK _ _ _ _ _ _ _ _ _ (h1 h) hl hWd) (fun h => ihK _ _ _ _ _ _ _ _ _ (h2 h) hl hWd)
    | ge => exact lv_icmp_ge hx hb hd hok (fun h => ihK _ _ _ _ _ _ _ _ _ (h1 h) hl hWd) (fun h => ihK _ _ _ _ _ _ _ _ _ (h2 h) hl hWd)
    | gt => exact lv_icmp_gt hx hb hd hok (fun h => ihK _ _ _ _ _ _ _ _ _ (h1 h) hl hWd) (fun h => ihK _ _ _ _ _ _ _ _ _ (h2 h) hl hWd)
    | le => exact lv_icmp_le hx hb hd hok (fun h => ihK _ _ _ _ _ _ _ _ _ (h1 h) hl hWd) (fun h => ihK _ _ _ _ _ _ _ _ _ (h2 h) hl hWd)
  | if_acmp cc off =>
    cases (show len = 3 by simpa [am_len] using hlen)
    simp only [am_ok, decide_eq_true_eq] at hok
    cases cc with
    | eq => obtain ⟨x, y, r, rfl, h1, h2⟩ := hst; exact lv_acmp_eq hx hb hd hok (fun h => ihK _ _ _ _ _ _ _ _ _ (h1 h) hl hWd) (fun h => ihK _ _ _ _ _ _ _ _ _ (h2 h) hl hWd)
    | ne => exact hst.elim
  | goto off =>
    cases (show len = 3 by simpa [am_len] using hlen)
    simp only [am_ok, decide_eq_true_eq] at hok
    exact lv_goto hx hb hd hok (ihK _ _ _ _ _ _ _ _ _ hst hl hWd)
  | tableswitch d lo hi offs =>
    obtain ⟨x, r, rfl, h1, h2⟩ := hst
    by_cases ho : x.toInt < lo ∨ hi < x.toInt
    · obtain ⟨t, ht, h3⟩ := h1 ho
      exact lv_tableOut hx hb hd ho ht (ihK _ _ _ _ _ _ _ _ _ h3 hl hWd)
    · have h4 : ¬ x.toInt < lo := fun q => ho (Or.inl q)
      have h5 : ¬ hi < x.toInt := fun q => ho (Or.inr q)
      obtain ⟨o, t, hoff, ht, h3⟩ := h2 h4 h5
      exact lv_tableIn hx hb hd h4 h5 hoff ht (ihK _ _ _ _ _ _ _ _ _ h3 hl hWd)
  | getfield ix =>
    cases (show len = 3 by simpa [am_len] using hlen)
    obtain ⟨a, r, fs, v, rfl, h1, h2, h3⟩ := hst
    simp only [am_ok] at hok
    split at hok
    next o ix2 rf ci kf wi hrow =>
      simp only [Bool.and_eq_true, decide_eq_true_eq] at hok
      obtain ⟨rfl, rfl, rfl, rfl⟩ := hok
      obtain ⟨f1, f2, f3, f4, f5⟩ := am_fl hVm args hrow
      obtain ⟨q0, hq0⟩ := am_mem h1
      exact va_get hx hb hts (am_uws _ (List.mem_of_getElem? f1)) hown hK hP q0 hq0 f1 kf f3 f4 f5 h2 hd (ihK _ _ _ _ _ _ _ _ _ h3 hl hWd)
    next => cases hok
  | putfield ix =>
    cases (show len = 3 by simpa [am_len] using hlen)
    obtain ⟨v, a, r, q, fs, rfl, h1, h2, hfit, h3⟩ := hst
    simp only [am_ok] at hok
    split at hok
    next o ix2 rf ci kf wi hrow =>
      simp only [Bool.and_eq_true, decide_eq_true_eq, Bool.or_eq_true, Bool.not_eq_true'] at hok
      obtain ⟨rfl, rfl, rfl, rfl, hfin⟩ := hok
      obtain ⟨f1, f2, f3, f4, f5⟩ := am_fl hVm args hrow
      simp only [am_fit, Bool.and_eq_true, decide_eq_true_eq] at hfit
      rcases hfin with hfin | ⟨hini, hdecl⟩
      · exact va_put hx hb hts (am_uws _ (List.mem_of_getElem? f1)) (am_ty ci) (am_tyok ci f2) (am_nmok ci f2) hown hK hP hD hSS q h1 f1 kf f3 f4 f5 hfin (am_tyok ci f2 kf f3) hfit.2 hfit.1 h2 hd (fun H1 locs1 k1 k2 k3 => ihK _ _ _ _ _ _ _ _ _ h3 hl ⟨k1, k2, k3⟩)
      · cases hf : ((am_cl ci).2.1 kf).2.2.2 with
        | false => exact va_put hx hb hts (am_uws _ (List.mem_of_getElem? f1)) (am_ty ci) (am_tyok ci f2) (am_nmok ci f2) hown hK hP hD hSS q h1 f1 kf f3 f4 f5 hf (am_tyok ci f2 kf f3) hfit.2 hfit.1 h2 hd (fun H1 locs1 k1 k2 k3 => ihK _ _ _ _ _ _ _ _ _ h3 hl ⟨k1, k2, k3⟩)
        | true => exact va_putF hx hb hts (am_uws _ (List.mem_of_getElem? f1)) (am_ty ci) (am_tyok ci f2) (am_nmok ci f2) hown hK hP hD hSS q h1 f1 kf f3 f4 f5 hf (hname.trans hini) hdecl (am_tyok ci f2 kf f3) hfit.2 hfit.1 h2 hd (fun H1 locs1 k1 k2 k3 => ihK _ _ _ _ _ _ _ _ _ h3 hl ⟨k1, k2, k3⟩)
    next => cases hok
  | getstatic ix =>
    cases (show len = 3 by simpa [am_len] using hlen)
    simp only [am_ok] at hok
    split at hok
    · rename_i hra; subst hra
      exact va_gets hx hb hOld.1.1 hSS hown (am_wl hVm args (of_decide_eq_true hok) rfl) (fun x h => h) hd (ihK _ _ _ _ _ _ _ _ _ hst hl hWd)
    · split at hok
      · rename_i hra; subst hra
        exact va_gets hx hb hOld.1.2.1 hSS hown (am_wl hVm args (of_decide_eq_true hok) rfl) (fun x h => h) hd (ihK _ _ _ _ _ _ _ _ _ hst hl hWd)
      · simp only [Bool.and_eq_true, decide_eq_true_eq] at hok
        obtain ⟨rfl, hok⟩ := hok
        exact va_gets hx hb hOld.1.2.2 hSS hown (am_wl hVm args hok rfl) (fun x h => h) hd (ihK _ _ _ _ _ _ _ _ _ hst hl hWd)
  | iaload =>
    cases (show len = 1 by simpa [am_len] using hlen)
    obtain ⟨jx, a, r, nn, f, rfl, h1, h2, h3⟩ := hst
    rcases h1 with h1 | ⟨jo, hjo, h1⟩
    · obtain ⟨q0, hq0⟩ := am_mem h1
      exact va_iald hx hb hK hP q0 0 hq0 rfl h2 hd (ihK _ _ _ _ _ _ _ _ _ h3 hl hWd)
    · obtain ⟨g1, g2, g3⟩ := hOld.2.1 jo hjo
      rw [h1] at g1 g2 g3
      exact va_sld hx hb g1 g2 g3 hSS h2 hd (ihK _ _ _ _ _ _ _ _ _ h3 hl hWd)
  | laload =>
    cases (show len = 1 by simpa [am_len] using hlen)
    obtain ⟨jx, a, r, nn, f, rfl, h1, h2, h3⟩ := hst
    obtain ⟨q0, hq0⟩ := am_mem h1
    exact va_lald hx hb hK hP q0 1 hq0 rfl h2 hd (ihK _ _ _ _ _ _ _ _ _ h3 hl hWd)
  | aaload =>
    cases (show len = 1 by simpa [am_len] using hlen)
    obtain ⟨jx, a, r, x, nn, f, rfl, hxx, h1, h2, h3⟩ := hst
    obtain ⟨q0, hq0⟩ := am_mem h1
    rcases hxx with rfl | rfl
    · exact va_aldq hx hb hK hP q0 2 hq0 rfl h2 hd (ihK _ _ _ _ _ _ _ _ _ h3 hl hWd)
    · exact va_aldq hx hb hK hP q0 3 hq0 rfl h2 hd (ihK _ _ _ _ _ _ _ _ _ h3 hl hWd)
  | iastore =>
    cases (show len = 1 by simpa [am_len] using hlen)
    obtain ⟨x, jx, a, r, q, nn, f, rfl, h1, h2, h3⟩ := hst
    exact va_iast hx hb hK hP hD hSS q 0 h1 rfl h2 hd (fun H1 locs1 k1 k2 k3 => ihK _ _ _ _ _ _ _ _ _ h3 hl ⟨k1, k2, k3⟩)
  | lastore =>
    cases (show len = 1 by simpa [am_len] using hlen)
    obtain ⟨x, jx, a, r, q, nn, f, rfl, h1, h2, h3⟩ := hst
    exact va_last hx hb hK hP hD hSS q 1 h1 rfl h2 hd (fun H1 locs1 k1 k2 k3 => ihK _ _ _ _ _ _ _ _ _ h3 hl ⟨k1, k2, k3⟩)
  | aastore =>
    cases (show len = 1 by simpa [am_len] using hlen)
    obtain ⟨v, jx, a, r, q, x, nn, ci, vs, f, rfl, hxx, hv, h1, h2, h3⟩ := hst
    obtain ⟨qk, hqk⟩ := am_mem hv
    rcases hxx with ⟨rfl, rfl⟩ | ⟨rfl, rfl⟩
    · exact va_astq hx hb hK hP hD hSS q 2 qk 9 h1 rfl hqk (show vwCl[9]? = some (am_cl 9) from rfl) h2 hd (fun H1 locs1 k1 k2 k3 => ihK _ _ _ _ _ _ _ _ _ h3 hl ⟨k1, k2, k3⟩)
    · exact va_astqO (E := "java/lang/Object") hx hb hK hP hD hSS q 3 qk 11 h1 rfl (show va_Nw (.castable (am_cl 11).1 "java/lang/Object") s from hVm.2.2.1 _ am_same.2.1 rfl) hqk (show vwCl[11]? = some (am_cl 11) from rfl) h2 hd (fun H1 locs1 k1 k2 k3 => ihK _ _ _ _ _ _ _ _ _ h3 hl ⟨k1, k2, k3⟩)
  | arraylength =>
    cases (show len = 1 by simpa [am_len] using hlen)
    obtain ⟨a, r, nn, rfl, h1, h3⟩ := hst
    rcases h1 with ⟨x, zz, hx4, h1⟩ | ⟨jo, f, hjo, h1⟩ | ⟨rfl, rfl⟩
    · obtain ⟨q0, hq0⟩ := am_mem h1
      have ht : ∃ ty, (am_tys X)[x]? = some (X x, ty) := by
        rcases (show x = 0 ∨ x = 1 ∨ x = 2 ∨ x = 3 by omega) with rfl | rfl | rfl | rfl <;> exact ⟨_, rfl⟩
      obtain ⟨ty, ht⟩ := ht
      exact va_alen hx hb hK hP q0 x hq0 ht rfl hd (ihK _ _ _ _ _ _ _ _ _ h3 hl hWd)
    · obtain ⟨g1, g2, g3⟩ := hOld.2.1 jo hjo
      rw [h1] at g1 g2 g3
      exact va_slen hx hb g1 g2 g3 hSS hd (ihK _ _ _ _ _ _ _ _ _ h3 hl hWd)
    · obtain ⟨cell, c1, c2, c3, c4⟩ := hOld.2.2.1
      have c5 : H[(O 3).1]? = some cell := by rw [hSS.2.1 _ (Array.getElem?_eq_some_iff.mp c1).1 c4]; exact c1
      exact W.alen hx hb c5 c2 (by rw [c3]) rfl rfl hd (ihK _ _ _ _ _ _ _ _ _ h3 hl hWd)
  | newarray ty =>
    cases (show len = 2 by simpa [am_len] using hlen)
    cases ty with
    | int =>
      obtain ⟨nn, r, rfl, hnn, hk1, hs1, h3⟩ := hst
      refine va_newa (atype := .int) (a0 := (nn, .inl (fun _ => 0))) (N' := nn) hx hb (am_word hVm args (List.mem_filter.mp am_same.2.2.1).1 rfl) rfl hK hP hD hSS hA (fun cA => rfl) (nI_pos (by omega)) (nI_clamp (by omega)) (show nn * 4 ≤ 536870912 by omega) (Nat.le_trans hk1 hRc) (Nat.le_trans hs1 hRs) hd (fun q cA H1 k0 k1 k2 k3 => ?_)
      have hcA : cA = X 0 := by
        have e1 := (k0.2 4 (cA, .int) rfl).2
        have e2 := (hK.2 0 (X 0, .int) rfl).2
        exact Option.some.inj (e1.symm.trans e2)
      subst hcA
      exact ihK _ _ _ _ _ _ _ _ _ (h3 q (am_freshP k2)) hl ⟨k1, k2, k3⟩
    | long =>
      obtain ⟨nn, r, rfl, hnn, hk1, hs1, h3⟩ := hst
      refine va_newa (atype := .long) (a0 := (nn, .inr (.inl (fun _ => 0)))) (N' := nn) hx hb (am_word hVm args (List.mem_filter.mp am_same.2.2.2).1 rfl) rfl hK hP hD hSS hA (fun cA => rfl) (nI_pos (by omega)) (nI_clamp (by omega)) (show nn * 8 ≤ 536870912 by omega) (Nat.le_trans hk1 hRc) (Nat.le_trans hs1 hRs) hd (fun q cA H1 k0 k1 k2 k3 => ?_)
      have hcA : cA = X 1 := by
        have e1 := (k0.2 4 (cA, .long) rfl).2
        have e2 := (hK.2 1 (X 1, .long) rfl).2
        exact Option.some.inj (e1.symm.trans e2)
      subst hcA
      exact ihK _ _ _ _ _ _ _ _ _ (h3 q (am_freshP k2)) hl ⟨k1, k2, k3⟩
    | _ => exact hst.elim
  | anewarray ix =>
    cases (show len = 3 by simpa [am_len] using hlen)
    obtain ⟨nn, r, rfl, hra, hnn, hk1, hs1, h3⟩ := hst
    simp only [am_ok, Bool.and_eq_true, decide_eq_true_eq] at hok
    rcases hra with rfl | rfl
    · refine va_newq (C := "TagRounds$Reader") (N' := nn) hx hb hown (am_wl hVm args hok.1 rfl) hVm.2.2.2.1 hK hP hD hSS hA (nI_pos (by omega)) (nI_clamp (by omega)) (by omega) (Nat.le_trans hk1 hRc) (Nat.le_trans hs1 hRs) hd (fun q cA H1 k0 k1 k2 k3 => ?_)
      have hcA : cA = X 2 := by
        obtain ⟨kA, comp, -, -, -, e1⟩ := (k0.2 4 (cA, .object "TagRounds$Reader") rfl).2
        obtain ⟨kB, comp2, -, -, -, e2⟩ := (hK.2 2 (X 2, .object "TagRounds$Reader") rfl).2
        exact Option.some.inj (e1.symm.trans e2)
      subst hcA
      exact ihK _ _ _ _ _ _ _ _ _ (h3 q (am_freshP k2)) hl ⟨k1, k2, k3⟩
    · refine va_newq (C := "java/lang/Object") (N' := nn) hx hb hown (am_wl hVm args hok.1 rfl) hVm.2.2.2.2.1 hK hP hD hSS hA (nI_pos (by omega)) (nI_clamp (by omega)) (by omega) (Nat.le_trans hk1 hRc) (Nat.le_trans hs1 hRs) hd (fun q cA H1 k0 k1 k2 k3 => ?_)
      have hcA : cA = X 3 := by
        obtain ⟨kA, comp, -, -, -, e1⟩ := (k0.2 4 (cA, .object "java/lang/Object") rfl).2
        obtain ⟨kB, comp2, -, -, -, e2⟩ := (hK.2 3 (X 3, .object "java/lang/Object") rfl).2
        exact Option.some.inj (e1.symm.trans e2)
      subst hcA
      exact ihK _ _ _ _ _ _ _ _ _ (h3 q (am_freshP k2)) hl ⟨k1, k2, k3⟩
  | new ix =>
    cases (show len = 3 by simpa [am_len] using hlen)
    simp only [am_step] at hst
    simp only [am_ok] at hok
    by_cases hra : ra = 0
    · rw [if_pos hra] at hst hok
      obtain ⟨rfl, hk1, hs1, hH, hF, hLc, hQ⟩ := hst
      simp only [Bool.and_eq_true, decide_eq_true_eq] at hok
      obtain ⟨hw, hrb, hth⟩ := hok
      simp only [am_thrOk, Bool.and_eq_true, List.any_eq_true, decide_eq_true_eq] at hth
      obtain ⟨⟨e1, m1, ⟨⟨p1, i1⟩, l1⟩⟩, ⟨e2, m2, ⟨⟨p2, i2⟩, l2⟩⟩, ⟨e3, m3, p3, l3, hic⟩⟩ := hth
      have g1 := hdec _ m1
      have g2 := hdec _ m2
      have g3 := hdec _ m3
      simp only [am_deOk, Bool.and_eq_true, decide_eq_true_eq] at g1 g2 g3
      split at hic
      next ic hicE =>
        refine hEt H locs k sl ws pc ix ic ls j.1.cls rb hQ hWd hk1 hs1 hrb hF hLc hH (hl.1.trans hml.symm) hown (of_decide_eq_true hic) (am_wl hVm args hw rfl) (by rw [hb]; exact hd) ?_ ?_ ?_
        · rw [hb, ← p1, ← i1, ← l1]; exact g1.1
        · rw [hb, ← p3, ← hicE, ← l3]; exact g3.1
        · rw [hb, ← p2, ← i2, ← l2]; exact g2.1
      next => cases hic
    · rw [if_neg hra] at hst hok
      obtain ⟨hk1, hs1, h3⟩ := hst
      simp only [Bool.and_eq_true, decide_eq_true_eq] at hok
      have hci : ra - 1 < 14 := by omega
      have hcl : vwCl[ra - 1]? = some (am_cl (ra - 1)) := by
        have : ra - 1 < vwCl.length := hci
        rw [List.getElem?_eq_getElem this]
        simp [am_cl, List.getD_eq_getElem?_getD, List.getElem?_eq_getElem this]
      obtain ⟨d1, d2⟩ := am_dlen _ hci
      rw [d1] at hs1 h3
      have hin := am_cls _ (List.mem_of_getElem? hcl)
      exact va_new hx hb hts (am_uws _ (List.mem_of_getElem? hcl)) (am_ty (ra - 1)) (am_tyok _ hci) hown (am_wl hVm args hok.1 rfl) (hts _ hin.1) (hts _ hin.2) hK hP hD hSS hA hcl d2 (Nat.le_trans hk1 hRc) (Nat.le_trans hs1 hRs) hd (fun q H1 k1 k2 k3 => ihK _ _ _ _ _ _ _ _ _ (h3 q (am_freshP k2)) hl ⟨k1, k2, k3⟩)
  | dup => cases (show len = 1 by simpa [am_len] using hlen); obtain ⟨v, r, rfl, h1, h2⟩ := hst; exact lv_dup hx hb hd h1 (ihK _ _ _ _ _ _ _ _ _ h2 hl hWd)
  | dup_x1 => cases (show len = 1 by simpa [am_len] using hlen); obtain ⟨v, w, r, rfl, h1, h2, h3⟩ := hst; exact lv_dup_x1 hx hb hd h1 h2 (ihK _ _ _ _ _ _ _ _ _ h3 hl hWd)
  | dup2 => cases (show len = 1 by simpa [am_len] using hlen); obtain ⟨v, w, r, rfl, h1, h2, h3⟩ := hst; exact lv_dup2_11 hx hb hd h1 h2 (ihK _ _ _ _ _ _ _ _ _ h3 hl hWd)
  | pop => cases (show len = 1 by simpa [am_len] using hlen); obtain ⟨v, r, rfl, h1, h2⟩ := hst; exact lv_pop hx hb hd h1 (ihK _ _ _ _ _ _ _ _ _ h2 hl hWd)
  | checkcast ix =>
    cases (show len = 3 by simpa [am_len] using hlen)
    obtain ⟨a, r, fs, rfl, h1, h3⟩ := hst
    simp only [am_ok, Bool.and_eq_true, decide_eq_true_eq] at hok
    obtain ⟨hok, rfl⟩ := hok
    obtain ⟨q0, hq0⟩ := am_mem h1
    exact va_castS hx hb hown (am_wl hVm args hok rfl) (hK.1 11 (am_cl 11) rfl).2 (va_recv hK hP (ci := 11) (q0 := q0) rfl hq0) hd (ihK _ _ _ _ _ _ _ _ _ h3 hl hWd)
  | invokespecial ix =>
    cases (show len = 3 by simpa [am_len] using hlen)
    simp only [am_step] at hst
    by_cases h5 : rb = 5
    · rw [if_pos h5] at hst
      obtain ⟨a, r, rfl, hw, hf, h3⟩ := hst
      simp only [am_ok, if_pos h5, decide_eq_true_eq] at hok
      refine W.objInit hx hb hown (am_wl hVm args hok rfl) (hts _ am_obj.1) (hts _ am_obj.2) rfl (hl.1.trans hml.symm) rfl hd (Nat.le_trans hf hRf) ?_ (ihK _ _ _ _ _ _ _ _ _ h3 hl hWd)
      have : am_wt r + 12 ≤ R.locals := Nat.le_trans hw hRl
      simpa [am_wt, JFrame.monitorRoom] using this
    · rw [if_neg h5] at hst
      obtain ⟨as, rest, rfl, has, h9, hsl, hwt, hrv, hri, hk, hs2, hF, hLc, hcl⟩ := hst
      have hm : rb = 2 ∨ rb = 3 := by
        by_cases h2 : rb = 2
        · exact Or.inl h2
        · by_cases h3 : rb = 3
          · exact Or.inr h3
          · exfalso
            simp only [am_ok, if_neg h5, if_neg h2, if_neg h3, decide_eq_true_eq] at hok
            exact h9 hok
      obtain ⟨Q1, hC1, hQ1⟩ := ihC _ _ _ _ hcl
      exact am_run (a := as.toArray) hz (am_crun ⟨hx, hb, hml, hown, hlocks, hname, hVm, hOld, hz, ⟨hRf, hRl, hRc, hRs⟩, hM, htr, hdec, hlnk⟩ hWd (Or.inl ⟨ix, rfl, hm⟩) hok hd hl.1 has hsl hwt hrv hri hk hs2 hF hLc hC1) hSS
        (fun v ws2 H1 locs1 hq hw => ihK _ _ _ _ _ _ _ _ _ (hQ1 _ _ hq) hl hw) (fun x ws2 H1 locs1 q ce hx4 hq hw hce hcv hcl2 => hthr _ _ _ _ _ _ _ _ _ _ _ _ (hQ1 _ _ hq) hl hw hx4 hce hcv hcl2)
  | invokevirtual ix =>
    cases (show len = 3 by simpa [am_len] using hlen)
    obtain ⟨as, rest, rfl, has, h9, hsl, hwt, hrv, hri, hk, hs2, hF, hLc, hcl⟩ := hst
    have hm : rb = 1 := by
      simp only [am_ok, Bool.or_eq_true, Bool.and_eq_true, decide_eq_true_eq] at hok
      rcases hok with h | h
      · exact h.1
      · exact absurd h h9
    obtain ⟨Q1, hC1, hQ1⟩ := ihC _ _ _ _ hcl
    exact am_run (a := as.toArray) hz (am_crun ⟨hx, hb, hml, hown, hlocks, hname, hVm, hOld, hz, ⟨hRf, hRl, hRc, hRs⟩, hM, htr, hdec, hlnk⟩ hWd (Or.inr (Or.inl ⟨ix, rfl, hm⟩)) hok hd hl.1 has hsl hwt hrv hri hk hs2 hF hLc hC1) hSS
      (fun v ws2 H1 locs1 hq hw => ihK _ _ _ _ _ _ _ _ _ (hQ1 _ _ hq) hl hw) (fun x ws2 H1 locs1 q ce hx4 hq hw hce hcv hcl2 => hthr _ _ _ _ _ _ _ _ _ _ _ _ (hQ1 _ _ hq) hl hw hx4 hce hcv hcl2)
  | invokestatic ix =>
    cases (show len = 3 by simpa [am_len] using hlen)
    simp only [am_step] at hst
    by_cases h6 : rb = 6
    · subst h6
      rw [if_pos rfl] at hst
      obtain ⟨n, a, r, cn, f, rfl, hma, hTg, hcn, hn, hwt, hk1, hs1, hF, hLc, h3⟩ := hst
      simp [am_ok] at hok
      obtain ⟨hoc, rfl⟩ := hok
      have hw : ∀ w ∈ am_cwL, w.before args s = true := fun w hw => am_word hVm args (am_cwIn w hw) (am_cwGd w hw)
      have hfx : CallFix p mi c j.2.1 (am_ml m) s args (lw_tbl.filter goodWord) j.1.cls := ⟨hx, hb, hml, hown, hts⟩
      refine am_cpRun (vx_runS (n := 2) (As := [.ref a, .int (nI n)]) (rest := r) hfx (am_cp2 (l := l) (O := O) (z := z) (D := D) hma hTg hcn hn)
        ⟨⟨rfl, rfl, by show 2 + 1 ≤ R.frames; omega, by show 8 + (2 + 11) + 100 ≤ R.locals; omega, am_cw2At (hw _ am_c2In), List.mem_singleton.mpr rfl, hw am_cW2 am_c2In, hw (.initialized "java/util/Arrays") (by simp [am_cwL]), ⟨by decide, by decide⟩, fun sig h => ?_, by rw [hoc]; exact hw (.methodLink "java/util/ArrayList" 66 am_cy2) (by simp [am_cwL])⟩, hw (.static am_cy2) (by simp [am_cwL])⟩
        ⟨am_blind, am_pre hVm hOld hz hWd⟩ rfl rfl (hl.1.trans rfl) rfl (lv_room hwt) hd ⟨Nat.le_trans hk1 hRc, Nat.le_trans hs1 hRs⟩) hSS (fun b H1 locs1 hfr hW => ihK _ _ _ _ _ _ _ _ _ (h3 b hfr) hl hW)
      have h1 := am_cyD2
      rw [h] at h1
      exact (Option.some.inj h1).symm
    · rw [if_neg h6] at hst
      obtain ⟨as, rest, rfl, has, h9, hsl, hwt, hrv, hri, hk, hs2, hF, hLc, hcl⟩ := hst
      have hm : rb = 0 ∨ rb = 4 := by
        by_cases h2 : rb = 0 ∨ rb = 4
        · exact h2
        · exfalso
          simp only [am_ok, if_neg h2, if_neg h6, decide_eq_true_eq] at hok
          exact h9 hok
      obtain ⟨Q1, hC1, hQ1⟩ := ihC _ _ _ _ hcl
      exact am_run (a := as.toArray) hz (am_crun ⟨hx, hb, hml, hown, hlocks, hname, hVm, hOld, hz, ⟨hRf, hRl, hRc, hRs⟩, hM, htr, hdec, hlnk⟩ hWd (Or.inr (Or.inr ⟨ix, rfl, hm⟩)) hok hd hl.1 has hsl hwt hrv hri hk hs2 hF hLc hC1) hSS
        (fun v ws2 H1 locs1 hq hw => ihK _ _ _ _ _ _ _ _ _ (hQ1 _ _ hq) hl hw) (fun x ws2 H1 locs1 q ce hx4 hq hw hce hcv hcl2 => hthr _ _ _ _ _ _ _ _ _ _ _ _ (hQ1 _ _ hq) hl hw hx4 hce hcv hcl2)
  | ireturn =>
    cases (show len = 1 by simpa [am_len] using hlen)
    obtain ⟨x, rfl, h1, h2, h3, h4⟩ := hst
    exact hEi H locs k sl ws pc ls x h4 hWd h2 h3 (by rw [hb]; exact hd) h1
  | areturn =>
    cases (show len = 1 by simpa [am_len] using hlen)
    obtain ⟨x, rfl, h1, h2, h3, h4⟩ := hst
    exact hEa H locs k sl ws pc ls x h4 hWd h2 h3 (by rw [hb]; exact hd) h1
  | return_ =>
    cases (show len = 1 by simpa [am_len] using hlen)
    obtain ⟨rfl, h1, h2, h3, h4⟩ := hst
    exact hEv H locs k sl ws pc ls h4 hWd h2 h3 (by rw [hb]; exact hd) h1
  | _ => exact hst.elim
