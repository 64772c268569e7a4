/-! THE CHECKER'S ROAD: calls, ends, loops. -/
def an_fN {β : Type} (n : Nat) (k : Nat → β) : β := match n with
  | 0 => k 0
  | Nat.succ n => k (Nat.succ n)
def an_fI {β : Type} (i : Int) (k : Int → β) : β := match i with
  | .ofNat n => an_fN n (fun n => k (.ofNat n))
  | .negSucc n => an_fN n (fun n => k (.negSucc n))
def an_fP {α γ β : Type} (f : α → (α → β) → β) (g : γ → (γ → β) → β) (p : α × γ) (k : α × γ → β) : β := f p.1 (fun a => g p.2 (fun b => k (a, b)))
def an_fL {α β : Type} (f : α → (α → β) → β) : List α → (List α → β) → β
  | [], k => k []
  | x :: xs, k => f x (fun y => an_fL f xs (fun ys => k (y :: ys)))
def an_fE {β : Type} : an_E → (an_E → β) → β := an_fP an_fN an_fI
def an_fV {β : Type} : an_V → (an_V → β) → β := an_fP an_fN (an_fP an_fE an_fE)
def an_fB {β : Type} : an_B → (an_B → β) → β := an_fP an_fN (an_fP (an_fL (an_fP an_fN (an_fP an_fI an_fI))) (an_fP (an_fL (an_fP an_fN (an_fP an_fN an_fI))) (an_fL (an_fP an_fN an_fI))))
def an_fS {β : Type} : an_S → (an_S → β) → β := an_fP an_fB (an_fP (an_fL (an_fP an_fE (an_fP an_fE an_fE))) (an_fP (an_fP an_fN (an_fP (an_fL (an_fP an_fN an_fN)) (an_fL an_fN))) (an_fL (an_fP an_fN (an_fP an_fN (an_fP an_fE an_fV))))))
def an_fLo {β : Type} : an_L → (an_L → β) → β := an_fL (an_fP an_fN an_fV)
theorem an_fN_id {β : Type} (n : Nat) (k : Nat → β) : an_fN n k = k n := by cases n <;> rfl
theorem an_fI_id {β : Type} (i : Int) (k : Int → β) : an_fI i k = k i := by cases i <;> simp [an_fI, an_fN_id]
theorem an_fP_id {α γ β : Type} {f : α → (α → β) → β} {g : γ → (γ → β) → β} (hf : ∀ a k, f a k = k a) (hg : ∀ a k, g a k = k a) (p : α × γ) (k : α × γ → β) : an_fP f g p k = k p := by
  obtain ⟨a, b⟩ := p; simp [an_fP, hf, hg]
theorem an_fL_id {α β : Type} {f : α → (α → β) → β} (hf : ∀ a k, f a k = k a) : ∀ (l : List α) (k : List α → β), an_fL f l k = k l := by
  intro l
  induction l with
  | nil => intro k; rfl
  | cons x xs ih => intro k; simp only [an_fL, hf, ih]
theorem an_fE_id {β : Type} (e : an_E) (k : an_E → β) : an_fE e k = k e := an_fP_id an_fN_id an_fI_id e k
theorem an_fV_id {β : Type} (e : an_V) (k : an_V → β) : an_fV e k = k e := an_fP_id an_fN_id (an_fP_id an_fE_id an_fE_id) e k
theorem an_fS_id {β : Type} (e : an_S) (k : an_S → β) : an_fS e k = k e :=
  an_fP_id (an_fP_id an_fN_id (an_fP_id (an_fL_id (an_fP_id an_fN_id (an_fP_id an_fI_id an_fI_id))) (an_fP_id (an_fL_id (an_fP_id an_fN_id (an_fP_id an_fN_id an_fI_id))) (an_fL_id (an_fP_id an_fN_id an_fI_id)))))
    (an_fP_id (an_fL_id (an_fP_id an_fE_id (an_fP_id an_fE_id an_fE_id))) (an_fP_id (an_fP_id an_fN_id (an_fP_id (an_fL_id (an_fP_id an_fN_id an_fN_id)) (an_fL_id an_fN_id))) (an_fL_id (an_fP_id an_fN_id (an_fP_id an_fN_id (an_fP_id an_fE_id an_fV_id)))))) e k
theorem an_fLo_id {β : Type} (e : an_L) (k : an_L → β) : an_fLo e k = k e := an_fL_id (an_fP_id an_fN_id an_fV_id) e k
def an_each {α : Type} (f : α → Option (List an_X)) : List α → Option (List an_X)
  | [] => some []
  | it :: its => match f it with
    | none => none
    | some xs => match an_each f its with
      | none => none
      | some ys => some (xs ++ ys)
def an_find : List am_I → Nat → List am_I
  | [], _ => []
  | e :: cs, pc => cond (Nat.beq e.1 pc) (e :: cs) (an_find cs pc)
def an_args : Nat → List an_V → an_L
  | _, [] => []
  | j, v :: as => (j, v) :: an_args (j + an_cat v) as
def an_fits (S : an_S) : List an_V → List an_Ty → Bool
  | [], [] => true
  | v :: as, t :: ts => an_fit S v t && an_fits S as ts
  | _, _ => false
/-- a field's fact lies in an interval -/
def an_pre (S : an_S) (r : Nat) : List (Nat × Int × Int) → Bool
  | [] => true
  | q :: ps => (match an_tget S.2.2.2 r q.1 (0, 0) with
    | some (0, e, _) => decide (q.2.1 ≤ an_lo S.1 e) && decide (an_hi S.1 e ≤ q.2.2)
    | _ => false) && an_pre S r ps
def an_post (r : Nat) : List (Nat × Int × Int) → an_S → an_S
  | [], S => S
  | q :: ps, S => let w := an_num S 0 (an_new S.1 q.2.1 q.2.2); an_post r ps (an_tadd w.1 r q.1 (0, 0) w.2)
def an_r0 (as : List an_V) : Nat := match as with
  | (2, r, _) :: _ => r.1
  | _ => 0
def an_ths (S : an_S) : List Nat → List an_X
  | [] => []
  | j :: js => (j + 2, an_zv, S) :: an_ths S js
def an_is2 (as : List an_V) : Bool := match as with
  | (2, _, _) :: _ => true
  | _ => false
/-- a call by contract -/
def an_ctr (mods : List (Nat × Nat)) (ct : an_CI) (as : List an_V) (S : an_S) : Option (List an_X) := match ct with
  | (ps, pre, ret, post, ths, rets, ms) =>
    if an_fits S as ps && ((pre.isEmpty && post.isEmpty || an_is2 as) && (an_pre S (an_r0 as) pre && ms.all (fun q => an_mem2 mods q.1 q.2))) then
      let S1 := an_tcut S ms
      if rets then match ret with
        | none => some ((0, an_zv, an_post (an_r0 as) post S1) :: an_ths S1 ths)
        | some t => match an_typ S1 t with
          | some (S2, v) => some ((1, v, an_post (an_r0 as) post S2) :: an_ths S1 ths)
          | none => none
      else some (an_ths S1 ths)
    else none
def an_memN : List Nat → Nat → Bool
  | [], _ => false
  | x :: xs, y => Nat.beq x y || an_memN xs y
/-- r alone is of kind kd, and was made since the last loop's head -/
def an_sole (S : an_S) (r kd : Nat) : Bool := an_memN an_HK kd && (an_memN S.2.2.1.2.2 r && S.2.2.1.2.1.all (fun p => !(p.2 == kd) || p.1 == r))
def an_toK (S : an_S) (r nk : Nat) : an_S := (S.1, S.2.1, (S.2.2.1.1, (r, nk) :: S.2.2.1.2.1.filter (fun p => !(p.1 == r)), S.2.2.1.2.2.filter (fun x => !(x == r))), S.2.2.2)
def an_els (S : an_S) (r : Nat) (t : an_Ty) : Nat → Bool
  | 0 => true
  | n + 1 => (match an_tget S.2.2.2 r 1000 (0, (n : Int)) with
    | some v => an_fit S v t
    | none => false) && an_els S r t n
def an_fld (S : an_S) (r : Nat) : Nat → List an_Ty → List an_Ty → Bool
  | _, [], [] => true
  | k, t :: ts, u :: us => (decide (t = u) || (match an_tget S.2.2.2 r k (0, 0) with
    | some v => an_fit S v u
    | none => false)) && an_fld S r (k + 1) ts us
  | _, _, _ => false
def an_prA (S : an_S) (r nk : Nat) : Option an_S := match an_ki (an_rk S r), an_ki nk with
  | (3, x, _, lo, hi, _), (3, y, _, lo2, hi2, t) => if an_sole S r (an_rk S r) && (x == y && (decide (lo = hi ∧ lo2 = lo ∧ hi2 = hi) && an_els S r t hi.toNat)) then some (an_toK S r nk) else none
  | _, _ => none
def an_prO (S : an_S) (r nk : Nat) : Option an_S := match an_ki (an_rk S r), an_ki nk with
  | (0, x, ts, _), (0, y, us, _) => if an_sole S r (an_rk S r) && (x == y && an_fld S r 0 ts us) then some (an_toK S r nk) else none
  | _, _ => none
/-- the end of a constructor: a row that this owns, and this, are of their kinds now -/
def an_prm (S : an_S) (L : an_L) (p : Nat × Nat × Nat) : Option an_S := match an_lget L 0 with
  | some (2, r, _) => match p with
    | (0, _, nk) => an_prO S r.1 nk
    | (f + 1, na, nk) => match an_tget S.2.2.2 r.1 f (0, 0) with
      | some (2, q, _) => match an_prA S q.1 na with
        | some S1 => an_prO S1 r.1 nk
        | none => none
      | _ => none
  | _ => none
/-- an element of the list: named already, or named now, with what the columns say of it -/
def an_gA (S : an_S) (r : Nat) (e : an_E) : an_X := match an_tget S.2.2.2 r 1004 e with
  | some v => (1, v, S)
  | none => match an_gf 7 S.2.2.2 with
    | some g => if Nat.beq g.1 r && an_eqE g.2.2.1 (0, -1) then
        (1, (an_ref S an_KTg false).2, an_tadd (an_tadd (an_tadd (an_tadd (an_num (an_ref S an_KTg false).1 0 (an_full S.1)).1 g.2.2.2.2.1.1 1000 e (0, (an_full S.1).2, (0, 0))) S.2.2.1.1 an_FR (0, 0) (0, (an_full S.1).2, (0, 0))) S.2.2.1.1 an_FN (0, 0) (0, e, (0, 0))) r 1004 e (an_ref S an_KTg false).2)
      else (1, (an_ref S an_KTg false).2, (an_ref S an_KTg false).1)
    | none => (1, (an_ref S an_KTg false).2, (an_ref S an_KTg false).1)
/-- behind an add: the element, and where the columns may differ -/
def an_gD (S : an_S) (r t : Nat) (n : an_E) (S1 : an_S) : an_S := match an_gf 7 S.2.2.2, an_tget S.2.2.2 t an_FN (0, 0) with
  | some g, some (0, en, _) => if Nat.beq g.1 r && (an_eqE g.2.2.1 (0, -1) && an_same S.1 en n) then an_tadd (an_tadd S1 r 1004 (an_nrm S.1 n) (2, (t, 0), (0, 0))) r 1003 (an_nrm S.1 n) g.2.2.2 else S1
  | _, _ => S1
/-- the list's own methods: made, read, added to -/
def an_lop (mods : List (Nat × Nat)) (w : Nat) (as : List an_V) (S : an_S) : Option (List an_X) := match w, as with
  | 0, [(2, r, _)] => if an_rk S r.1 == an_KL0 && an_sole S r.1 an_KL0 then match an_tget S.2.2.2 r.1 2 (0, 0) with
      | some (0, e, _) => if an_eqE (an_nrm S.1 e) (0, 0) then some [(0, an_zv, an_toK (an_tcut S [(an_KL0, 0), (an_KL0, 1)]) r.1 an_KL)] else none
      | _ => none
    else none
  | 1, [(2, r, _), (0, e, _)] => if an_rk S r.1 == an_KL then match an_tget S.2.2.2 r.1 2 (0, 0) with
      | some (0, n, _) => if 0 ≤ an_lo S.1 e ∧ an_ub S.1 e n ≤ -1 then some [an_gA S r.1 (an_nrm S.1 e)] else none
      | _ => none
    else none
  | 2, [(2, r, _), (2, t, _)] => if an_rk S r.1 == an_KL && (an_rk S t.1 == an_KTg && (an_mem2 mods an_KL 0 && (an_mem2 mods an_KL 1 && (an_mem2 mods an_KL 2 && an_mem2 mods an_KL 1004)))) then match an_tget S.2.2.2 r.1 2 (0, 0) with
      | some (0, n, _) => if 0 ≤ an_lo S.1 n ∧ an_hi S.1 n ≤ 15 then some [(1, (0, (0, 1), (0, 0)), an_gD S r.1 t.1 n (an_tadd (an_tcut S [(an_KL, 0), (an_KL, 1), (an_KL, 2), (an_KL, 1004)]) r.1 2 (0, 0) (0, (n.1, n.2 + 1), (0, 0))))] else none
      | _ => none
    else none
  | _, _ => none
/-- the numbers of rate told apart: q by its place (q - 1), 17 what is no number of it -/
def an_rq (B : an_B) (eq : an_E) : Nat → List (Nat × an_B)
  | 0 => []
  | n + 1 => match an_eq B eq (0, (n : Int) - 1) with
    | some B1 => (n, B1) :: an_rq B eq n
    | none => an_rq B eq n
def an_rl (o : Option an_B) (k : an_B → List (Nat × an_B)) : List (Nat × an_B) := match o with
  | some B => k B
  | none => []
def an_rts (B : an_B) (en eq : an_E) : List (Nat × an_B) :=
  an_rl (an_le B en (0, 0) 0) (fun B1 => [(17, B1)]) ++ (an_rl (an_le B (0, 100) en 0) (fun B1 => [(17, B1)]) ++
    an_rl (an_le B (0, 1) en 0) (fun B1 => an_rl (an_le B1 en (0, 99) 0) (fun B2 =>
      an_rl (an_le B2 eq (0, -2) 0) (fun B3 => [(17, B3)]) ++ (an_rl (an_le B2 (0, 16) eq 0) (fun B3 => [(17, B3)]) ++ an_rq B2 eq 17))))
def an_rx (S : an_S) (en : an_E) (p : Nat × an_B) : an_X := if p.1 == 17 then (2, an_zv, (p.2, S.2)) else match an_tget S.2.2.2 (p.1 + 5) 1002 (an_nrm p.2 en) with
  | some v => (1, v, (p.2, S.2))
  | none => (1, (an_num (p.2, S.2) 0 (an_full p.2)).2, an_tadd (an_num (p.2, S.2) 0 (an_full p.2)).1 (p.1 + 5) 1002 (an_nrm p.2 en) (an_num (p.2, S.2) 0 (an_full p.2)).2)
def an_ry (S : an_S) (r : Nat) (en : an_E) (p : Nat × an_B) : an_X := if p.1 == 17 then (1, (0, (0, 0), (0, 0)), an_tput (p.2, S.2) r 0 (0, 0) (0, (0, 1), (0, 0))) else an_rx (an_tput (p.2, S.2) r 0 (0, 0) (0, (0, 0), (0, 0))) en p
/-- RATE of the class -/
def an_lopR (S : an_S) (as : List an_V) : Option (List an_X) := match as with
  | [(2, r, _), (0, en, _), (0, eq, _)] => if an_rk S r.1 == an_KO then some ((an_rts S.1 en eq).map (an_rx S en)) else none
  | _ => none
/-- RATE of the reference -/
def an_lopM (mods : List (Nat × Nat)) (S : an_S) (as : List an_V) : Option (List an_X) := match as with
  | [(2, r, _), (0, en, _), (0, eq, _)] => if an_rk S r.1 == an_KM && an_mem2 mods an_KM 0 then some ((an_rts S.1 en eq).map (an_ry S r.1 en)) else none
  | _ => none
/-- methods that are known by hand -/
def an_lopA (mods : List (Nat × Nat)) (w : Nat) (as : List an_V) (S : an_S) : Option (List an_X) := match w with
  | 3 => an_lopR S as
  | 4 => an_lopM mods S as
  | w => an_lop mods w as S
def an_lno (m2 : Nat) : List Nat → Nat → Option Nat
  | [], _ => none
  | x :: xs, k => if x == m2 then some k else an_lno m2 xs (k + 1)
def an_sls : List an_V → Nat
  | [] => 0
  | v :: as => an_cat v + an_sls as
def an_rcv (S : an_S) (m2 : Nat) (as : List an_V) : Bool := match as with
  | (2, r, _) :: _ => (match an_ki (an_rk S r.1) with
    | (0, ci, _) => ci == am_ci m2
    | _ => false)
  | _ => false
/-- room, receiver -/
def an_may (m m2 mode : Nat) (as rest : List an_V) (k sl : Nat) (S : an_S) : Bool :=
  (decide (as.length = am_na m2) && decide (m2 < m)) && (decide (mode < 5) && (decide (an_sls as ≤ am_ml m2) && (decide (an_wt rest ≤ 8) && (decide (k + am_mc m2 ≤ am_mc m) && (decide (sl + am_ms m2 ≤ am_ms m) && (decide (am_F m2 + 1 ≤ am_F m) && (decide (8 + (am_ml m2 + 11) + am_Lc m2 ≤ am_Lc m) &&
    (match mode with
    | 0 => true
    | 4 => true
    | 1 => an_rcv S m2 as
    | _ => an_is2 as))))))))
def an_hash (S : an_S) (as : List an_V) : Bool := match as with
  | (2, r, _) :: _ => an_memN an_HK (an_rk S r.1)
  | _ => false
/-- walked through: of a kind in the making, by the list, or what its contract asks for isn't known -/
def an_noc (m m2 : Nat) (S : an_S) (as : List an_V) : Bool := an_hash S as || ((an_SPL && (an_memN an_CWL m2 && as.all (fun v => !(Nat.beq v.1 0) || an_isc (an_nrm S.1 v.2.1)))) || (an_IL.any (fun p => p.1 == m2 && an_memN p.2 m) || (match an_CT.getD m2 none with
  | some (_, pre, _) => !(an_pre S (an_r0 as) pre)
  | none => false)))
abbrev an_Rec : Type := Nat → List am_I → an_L → List an_V → Nat → Nat → List an_Ac → an_S → Option (List an_X)
/-- behind a call -/
def an_beh (rec : an_Rec) (m pc : Nat) (cs : List am_I) (L : an_L) (rest : List an_V) (k sl : Nat) (acts : List an_Ac) (x : an_X) : Option (List an_X) := match x with
  | (0, _, S) => rec m cs L rest k sl acts S
  | (1, v, S) => rec m cs L (v :: rest) k sl acts S
  | (j + 2, _, S) => match am_hnd m pc j with
    | some t => rec m (an_find (am_code m) t) L [an_zv] k sl acts S
    | none => if k ≤ am_mc m ∧ sl ≤ am_ms m then some [(j + 2, an_zv, S)] else none
def an_inv (mods : List (Nat × Nat)) (rec : an_Rec) (m pc m2 mode : Nat) (cs : List am_I) (L : an_L) (st : List an_V) (k sl : Nat) (acts : List an_Ac) (S : an_S) : Option (List an_X) :=
  let as := (st.take (am_na m2)).reverse
  let rest := st.drop (am_na m2)
  if an_may m m2 mode as rest k sl S then
    match (match an_lno m2 an_LM 0 with
      | some w => an_lopA mods w as S
      | none => match (if an_noc m m2 S as then none else an_CT.getD m2 none) with
        | some ct => an_ctr mods ct as S
        | none => rec m2 (am_code m2) (an_args 0 as) [] 0 0 [] S) with
    | none => none
    | some xs => an_each (an_beh rec m pc cs L rest (k + am_mc m2) (sl + am_ms m2) acts) xs
  else none
/-- one instruction that calls nothing, and on -/
def an_gox (mods : List (Nat × Nat)) (rec : an_Rec) (m pc len : Nat) (i : Instr) (ra rb inf : Nat) (cs : List am_I) (L : an_L) (st : List an_V) (k sl : Nat) (acts : List an_Ac) (S : an_S) : Option (List an_X) := match an_one mods m pc i ra rb inf L st k sl S with
  | none => none
  | some [(pc2, L2, st2, k2, sl2, S2)] => if pc2 == pc + len then rec m cs L2 st2 k2 sl2 acts S2 else rec m (an_find (am_code m) pc2) L2 st2 k2 sl2 acts S2
  | some its => an_each (fun it => rec m (an_find (am_code m) it.1) it.2.1 it.2.2.1 it.2.2.2.1 it.2.2.2.2.1 acts it.2.2.2.2.2) its
/-- an end -/
def an_fin (m : Nat) (i : Instr) (inf : Nat) (L : an_L) (st : List an_V) (k sl : Nat) (S : an_S) : Option (List an_X) := if k ≤ am_mc m ∧ sl ≤ am_ms m then (match i with
    | .ireturn => match st with
      | [(0, x, _)] => if am_rk m = 1 ∨ (am_rk m = 2 ∧ 0 ≤ an_lo S.1 x ∧ an_hi S.1 x ≤ 1) then some [(1, (0, an_nrm S.1 x, (0, 0)), S)] else none
      | [(4, x, y)] => if am_rk m = 1 then some [(1, (4, x, y), S)] else none
      | _ => none
    | .areturn => match st with
      | [(2, x, f)] => if am_rk m = 3 then some [(1, (2, x, f), S)] else none
      | _ => none
    | .return_ => match st with
      | [] => if am_rk m = 0 then (match inf with
        | 0 => some [(0, an_zv, S)]
        | p + 1 => match an_prm S L (an_PM.getD p (0, 0, 0)) with
          | some S1 => some [(0, an_zv, S1)]
          | none => none) else none
      | _ => none
    | _ => none) else none
/-- one instruction, and on -/
def an_stp (mods : List (Nat × Nat)) (rec : an_Rec) (m : Nat) (e : am_I) (cs : List am_I) (L : an_L) (st : List an_V) (k sl : Nat) (acts : List an_Ac) (S : an_S) : Option (List an_X) := match e with
  | (pc, i, len, ra, rb, _, _, inf) => match i with
    | .invokespecial q => if rb == 5 then an_gox mods rec m pc len (.invokespecial q) ra rb inf cs L st k sl acts S else an_inv mods rec m pc ra rb cs L st k sl acts S
    | .invokevirtual _ => an_inv mods rec m pc ra rb cs L st k sl acts S
    | .invokestatic _ => an_inv mods rec m pc ra rb cs L st k sl acts S
    | .new q => if ra == 0 then (match st, am_H.getD m [] with
        | [], [] => if k + 1 ≤ am_mc m ∧ sl + 6 ≤ am_ms m ∧ 5 < am_F m ∧ 81 ≤ am_Lc m then some [(rb + 2, an_zv, S)] else none
        | _, _ => none) else an_gox mods rec m pc len (.new q) ra rb inf cs L st k sl acts S
    | .ireturn => an_fin m .ireturn inf L st k sl S
    | .areturn => an_fin m .areturn inf L st k sl S
    | .return_ => an_fin m .return_ inf L st k sl S
    | .iconst q => (match inf with
      | 0 => an_gox mods rec m pc len (.iconst q) ra rb 0 cs L st k sl acts S
      | p + 1 => match an_prm S L (an_PM.getD p (0, 0, 0)) with
        | some S1 => an_gox mods rec m pc len (.iconst q) ra rb (p + 1) cs L st k sl acts S1
        | none => none)
    | j => an_gox mods rec m pc len j ra rb inf cs L st k sl acts S
/-- loops -/
def an_c0 : an_CU := ([], [], [], [], [], (0, true), (0, 0))
/-- where the followed places of the heap lie -/
def an_plc (L : an_L) (S : an_S) : List (Nat × Nat × Nat × Int × Int) → Option (List (Nat × Nat × an_E))
  | [] => some []
  | (i, f, 0, _, _) :: ts => match an_lget L i, an_plc L S ts with
    | some (2, r, _), some ps => some ((r.1, f, (0, 0)) :: ps)
    | _, _ => none
  | (i, f, j + 1, _, _) :: ts => if 100 ≤ j then (match an_lget L i, an_plc L S ts with
      | some (2, r, _), some ps => match an_tget S.2.2.2 r.1 f (0, 0) with
        | some (2, q, _) => some ((q.1, j - 100, (0, 0)) :: ps)
        | _ => none
      | _, _ => none)
    else match an_lget L i, an_lget L j, an_plc L S ts with
    | some (2, r, _), some (0, e, _), some ps => match an_tget S.2.2.2 r.1 f (0, 0) with
      | some (2, q, _) => some ((q.1, 1000, an_nrm S.1 e) :: ps)
      | _ => none
    | _, _, _ => none
/-- what changes, as it is now: tag, value, interval -/
def an_curL (L : an_L) : List (Nat × Nat × Int × Int) → Option (List (Nat × an_E × Int × Int))
  | [] => some []
  | (i, t, lo, hi) :: ss => match an_lget L i, an_curL L ss with
    | some (t2, e, _), some cs => if t2 == t && decide (t < 2) then some ((t, e, lo, hi) :: cs) else none
    | _, _ => none
def an_curT (T : List an_T) : List (Nat × Nat × an_E) → List (Nat × Nat × Nat × Int × Int) → Option (List (Nat × an_E × Int × Int))
  | [], [] => some []
  | p :: ps, (_, _, _, lo, hi) :: ts => match an_tget T p.1 p.2.1 p.2.2, an_curT T ps ts with
    | some (0, e, _), some cs => if Nat.ble 1002 p.2.1 then none else some ((0, e, lo, hi) :: cs)
    | _, _ => none
  | _, _ => none
def an_ivok (B : an_B) : List (Nat × an_E × Int × Int) → Bool
  | [] => true
  | (_, e, lo, hi) :: cs => decide (lo ≤ an_lo B e) && (decide (an_hi B e ≤ hi) && an_ivok B cs)
def an_fcok (B : an_B) (cs : List (Nat × an_E × Int × Int)) : List (Nat × Nat × Int) → Bool
  | [] => true
  | (a, b, k) :: fs => (match cs[a]?, cs[b]? with
    | some p, some q => decide (an_ub B p.2.1 q.2.1 ≤ k)
    | _, _ => false) && an_fcok B cs fs
def an_newE (n : Nat) : List (Nat × an_E × Int × Int) → List (Nat × Int × Int)
  | [] => []
  | (_, _, lo, hi) :: cs => (n, lo, hi) :: an_newE (n + 1) cs
def an_hdL (n : Nat) : List (Nat × Nat × Int × Int) → an_L
  | [] => []
  | (i, t, _, _) :: ss => (i, (t, (n + 1, 0), (0, 0))) :: an_hdL (n + 1) ss
def an_hdT (n : Nat) : List (Nat × Nat × an_E) → List an_T
  | [] => []
  | p :: ps => (p.1, p.2.1, p.2.2, (0, (n + 1, 0), (0, 0))) :: an_hdT (n + 1) ps
def an_memL (ss : List (Nat × Nat × Int × Int)) (i : Nat) : Bool := ss.any (fun q => q.1 == i)
/-- at the law's head: names of which nothing is said any more are forgotten -/
def an_wR (dead : List Nat) (L2 : an_L) (T2 : List an_T) (ps : List (Nat × Nat × an_E)) (R : List (Nat × Nat)) : List (Nat × Nat) := if an_memN dead 999 then R.filter (fun p => L2.any (fun q => Nat.beq q.2.1 2 && Nat.beq q.2.2.1.1 p.1) || (ps.any (fun q => Nat.beq q.1 p.1) || T2.any (fun f => Nat.beq f.1 p.1 || Nat.beq f.2.2.2.2.1.1 p.1))) else R
/-- the state at a loop's head: all locals, the others alone, the other facts alone, the places, the state -/
def an_head (c : an_CU) (L : an_L) (S : an_S) : Option (an_L × an_L × List an_T × List (Nat × Nat × an_E) × an_S) := match c with
  | (ss, ts, dead, drop, fs, _, _) => match an_plc L S ts with
    | none => none
    | some ps => match an_curL L ss, an_curT S.2.2.2 ps ts with
      | some c1, some c2 =>
        let cs := c1 ++ c2
        if an_ivok S.1 cs && an_fcok S.1 cs fs then
          let n := S.1.1
          let L2 := L.filter (fun q => !an_memN dead q.1 && !an_memL ss q.1)
          let B1 : an_B := (n + cs.length, an_newE n cs ++ S.1.2.1, fs.map (fun f => (n + f.1, n + f.2.1, f.2.2)) ++ S.1.2.2.1, S.1.2.2.2)
          let T2 := (an_tcutH S (ps.map (fun p => (an_rk S p.1, p.2.1)) ++ drop)).2.2.2
          some (an_hdL n ss ++ L2, L2, T2, ps, (B1, S.2.1, (S.2.2.1.1, an_wR dead L2 T2 ps S.2.2.1.2.1, []), an_hdT (n + ss.length) ps ++ T2))
        else none
      | _, _ => none
def an_eqV (B : an_B) (v w : an_V) : Bool := (v.1 == w.1 && (an_eqE v.2.1 w.2.1 && an_eqE v.2.2 w.2.2)) || ((v.1 == 0 && w.1 == 0) && an_eqE (an_nrm B v.2.1) (an_nrm B w.2.1))
def an_eqF (f g : an_T) : Bool := Nat.beq f.1 g.1 && (Nat.beq f.2.1 g.2.1 && (an_eqE f.2.2.1 g.2.2.1 && (Nat.beq f.2.2.2.1 g.2.2.2.1 && (an_eqE f.2.2.2.2.1 g.2.2.2.2.1 && an_eqE f.2.2.2.2.2 g.2.2.2.2.2))))
/-- those of fs that aren't found in T in their order -/
def an_subl : List an_T → List an_T → List an_T
  | [], fs => fs
  | g :: gs, fs => match fs with
    | [] => []
    | f :: fs2 => cond (an_eqF f g) (an_subl gs fs2) (an_subl gs (f :: fs2))
/-- back at the head -/
def an_back (c : an_CU) (a : an_Ac) (L : an_L) (k sl : Nat) (S : an_S) : Bool := match c, a with
  | (ss, ts, _, _, fs, (j, up), (dk, ds)), (_, _, L2, T2, ps, n, k0, sl0) => match an_curL L ss, an_curT S.2.2.2 ps ts with
    | some c1, some c2 =>
      let cs := c1 ++ c2
      an_ivok S.1 cs && (an_fcok S.1 cs fs && (
      (match cs[j]? with
        | some p => if up then decide (an_ub S.1 (n + j + 1, 0) p.2.1 ≤ -1) else decide (an_ub S.1 p.2.1 (n + j + 1, 0) ≤ -1)
        | none => false) && (decide (k ≤ k0 + dk) && (decide (sl ≤ sl0 + ds) &&
      (L2.all (fun q => match an_lget L q.1 with
        | some v => an_eqV S.1 v q.2
        | none => false) &&
      (an_subl S.2.2.2 T2).all (fun f => match an_tget S.2.2.2 f.1 f.2.1 f.2.2.1 with
        | some v => an_eqV S.1 v f.2.2.2
        | none => false))))))
    | _, _ => false
def an_rng2 (c : an_CU) : Nat := match c with
  | (ss, ts, _, _, _, (j, _), _) => match (ss.map (fun q => q.2.2) ++ ts.map (fun q => q.2.2.2))[j]? with
    | some (lo, hi) => (hi - lo).toNat
    | none => 0
def an_acts : List an_Ac → Nat → Nat → Option an_Ac
  | [], _, _ => none
  | a :: as, cu, pc => if a.1 == cu && a.2.1 == pc then some a else an_acts as cu pc
def an_own (pr : List Nat) : List an_X → List an_X
  | [] => []
  | (t, v, S) :: xs => (t, v, (S.1, S.2.1, (S.2.2.1.1, S.2.2.1.2.1, pr ++ S.2.2.1.2.2), S.2.2.2)) :: an_own pr xs
def an_exb (mods : List (Nat × Nat)) (rec : an_Rec) : an_Rec := fun m cs L st k sl acts S => match cs with
  | [] => none
  | e :: cs2 => match e.2.2.2.2.2.2.1 with
    | 0 => an_stp mods rec m e cs2 L st k sl acts S
    | cu + 1 => match an_acts acts cu e.1 with
      | some a => match st with
        | [] => if an_back (an_CUT.getD cu an_c0) a L k sl S then some [] else none
        | _ => none
      | none => match st, an_head (an_CUT.getD cu an_c0) L S with
        | [], some (L1, L2, T2, ps, S1) => an_fS S1 (fun S1 => an_fLo L1 (fun L1 =>
          match an_stp mods rec m e cs2 L1 [] (k + (an_CUT.getD cu an_c0).2.2.2.2.2.2.1 * an_rng2 (an_CUT.getD cu an_c0)) (sl + (an_CUT.getD cu an_c0).2.2.2.2.2.2.2 * an_rng2 (an_CUT.getD cu an_c0))
            ((cu, e.1, L2, T2, ps, S.1.1, k + (an_CUT.getD cu an_c0).2.2.2.2.2.2.1 * an_rng2 (an_CUT.getD cu an_c0), sl + (an_CUT.getD cu an_c0).2.2.2.2.2.2.2 * an_rng2 (an_CUT.getD cu an_c0)) :: acts) S1 with
          | some xs => some (an_own S.2.2.1.2.2 xs)
          | none => none))
        | _, _ => none
def an_ex (mods : List (Nat × Nat)) : Nat → an_Rec
  | 0 => fun _ _ _ _ _ _ _ _ => none
  | n + 1 => fun m cs L st k sl acts S => if n % 32 == 0 then an_fS S (fun S => an_fLo L (fun L => an_fL an_fV st (fun st => an_fN k (fun k => an_fN sl (fun sl => an_exb mods (an_ex mods n) m cs L st k sl acts S))))) else an_exb mods (an_ex mods n) m cs L st k sl acts S
/-- parameters of their types -/
def an_ent : List an_Ty → an_S → Option (an_S × List an_V)
  | [], S => some (S, [])
  | t :: ts, S => match an_typ S t with
    | some (S1, v) => match an_ent ts S1 with
      | some (S2, vs) => some (S2, v :: vs)
      | none => none
    | none => none
def an_s0 : an_S := ((0, [], [], []), [], (0, [], []), [])
/-- a contract's method keeps it -/
def an_chk (fu m : Nat) : Bool := match an_CT.getD m none with
  | none => false
  | some (ps, pre, ret, post, ths, rets, ms) => match an_ent ps an_s0 with
    | none => false
    | some (S, as) => (pre.isEmpty && post.isEmpty || an_is2 as) && (match an_ex ms fu m (am_code m) (an_args 0 as) [] 0 0 [] (an_post (an_r0 as) pre S) with
      | none => false
      | some xs => xs.all (fun x => match x with
        | (0, _, S1) => rets && (ret.isNone && an_pre S1 (an_r0 as) post)
        | (1, v, S1) => rets && ((match ret with
          | some t => an_fit S1 v t
          | none => false) && an_pre S1 (an_r0 as) post)
        | (j + 2, _, _) => an_memN ths j))
