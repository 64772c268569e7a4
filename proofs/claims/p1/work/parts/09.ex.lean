/-! THE CHECKER'S WALK. Values: 0 an int, 1 a long, 2 a named reference, 3 any reference, 4 the comparison of two longs, 5 an old row of ints (which). -/
abbrev an_M : Type := List (an_E × an_E × an_E)
abbrev an_R : Type := Nat × List (Nat × Nat) × List Nat
abbrev an_T : Type := Nat × Nat × an_E × an_V
abbrev an_S : Type := an_B × an_M × an_R × List an_T
abbrev an_L : Type := List (Nat × an_V)
abbrev an_Ty : Type := Nat × Int × Int
/-- a kind: 0 an object (class, types of its fields), 1 a row of ints, 2 of longs, 3 of references; its length; what it holds -/
abbrev an_KI : Type := Nat × Nat × List an_Ty × Int × Int × an_Ty
/-- a contract: parameters, fields of the receiver that it asks for, its answer, fields of the receiver behind it, throws, may it return, what it writes -/
abbrev an_CI : Type := List an_Ty × List (Nat × Int × Int) × Option an_Ty × List (Nat × Int × Int) × List Nat × Bool × List (Nat × Nat)
/-- a loop: what changes (locals: place, tag, interval), (of the heap: local, field, local of the index + 1, interval), what is forgotten, differences of those, the rank's place and direction, cells and slots of one time -/
abbrev an_CU : Type := List (Nat × Nat × Int × Int) × List (Nat × Nat × Nat × Int × Int) × List Nat × List (Nat × Nat) × List (Nat × Nat × Int) × (Nat × Bool) × (Nat × Nat)
abbrev an_X : Type := Nat × an_V × an_S
abbrev an_It : Type := Nat × an_L × List an_V × Nat × Nat × an_S
abbrev an_Ac : Type := Nat × Nat × an_L × List an_T × List (Nat × Nat × an_E) × Nat × Nat × Nat
def an_z : an_E := (0, 0)
def an_zv : an_V := (3, (0, 0), (0, 0))
def an_full (B : an_B) : an_B × an_E := an_new B an_MN an_MX
def an_nrm (B : an_B) (e : an_E) : an_E := match e with
  | (0, c) => (0, c)
  | (i + 1, c) => if (an_iv B.2.1 i).1 = (an_iv B.2.1 i).2 then (0, (an_iv B.2.1 i).1 + c) else (i + 1, c)
def an_addc (B : an_B) (e : an_E) (k : Int) : an_B × an_E := if an_MN ≤ an_lo B e + k ∧ an_hi B e + k ≤ an_MX then (B, (e.1, e.2 + k)) else an_full B
def an_eqE (a b : an_E) : Bool := Nat.beq a.1 b.1 && decide (a.2 = b.2)
def an_memo (M : an_M) (e1 e2 : an_E) : Option an_E := match M with
  | [] => none
  | q :: M => if (an_eqE q.1 e1 && an_eqE q.2.1 e2) || (an_eqE q.1 e2 && an_eqE q.2.1 e1) then some q.2.2 else an_memo M e1 e2
/-- differences of a new sum n = e1 + e2 and an elder one of the same first part -/
def an_sums (B : an_B) (e1 e2 : an_E) (n : Nat) : an_M → List (Nat × Nat × Int) → List (Nat × Nat × Int)
  | [], F => F
  | q :: M, F => match q.2.2 with
    | (0, _) => an_sums B e1 e2 n M F
    | (y + 1, d) => if an_eqE q.1 e1 then an_sums B e1 e2 n M ((n, y, an_ub B e2 q.2.1 + d) :: (y, n, an_ub B q.2.1 e2 - d) :: F)
      else if an_eqE q.2.1 e1 then an_sums B e1 e2 n M ((n, y, an_ub B e2 q.1 + d) :: (y, n, an_ub B q.1 e2 - d) :: F) else an_sums B e1 e2 n M F
def an_add (B : an_B) (M : an_M) (e1 e2 : an_E) : an_B × an_M × an_E := match e1, e2 with
  | (0, c), e => let r := an_addc B e c; (r.1, M, r.2)
  | (i + 1, c), (0, d) => let r := an_addc B (i + 1, c) d; (r.1, M, r.2)
  | (i + 1, c), (j + 1, d) => match an_memo M (i + 1, c) (j + 1, d) with
    | some e3 => (B, M, e3)
    | none =>
      let l1 := an_lo B (i + 1, c); let h1 := an_hi B (i + 1, c); let l2 := an_lo B (j + 1, d); let h2 := an_hi B (j + 1, d)
      if an_MN ≤ l1 + l2 ∧ h1 + h2 ≤ an_MX then
        let n := B.1
        let F := an_sums B (i + 1, c) (j + 1, d) n M (an_sums B (j + 1, d) (i + 1, c) n M ((n, i, c + h2) :: (i, n, -(c + l2)) :: (n, j, d + h1) :: (j, n, -(d + l1)) :: B.2.2.1))
        ((n + 1, (n, l1 + l2, h1 + h2) :: B.2.1, F, B.2.2.2), ((i + 1, c), (j + 1, d), (n + 1, 0)) :: M, (n + 1, 0))
      else let r := an_full B; (r.1, M, r.2)
def an_sub (B : an_B) (e1 e2 : an_E) : an_B × an_E := match e2 with
  | (0, d) => an_addc B e1 (-d)
  | (j + 1, d) => if e1.1 == j + 1 then (if an_MN ≤ e1.2 - d ∧ e1.2 - d ≤ an_MX then (B, (0, e1.2 - d)) else an_full B) else
    let h := an_ub B e1 (j + 1, d); let l := - an_ub B (j + 1, d) e1
    if an_MN ≤ l ∧ h ≤ an_MX then an_new B l h else an_full B
def an_rng (B : an_B) (l h mn mx : Int) : an_B × an_E := if mn ≤ l ∧ h ≤ mx then an_new B l h else an_new B mn mx
def an_mul (B : an_B) (e1 e2 : an_E) (mn mx : Int) : an_B × an_E :=
  let a := an_lo B e1; let b := an_hi B e1; let c := an_lo B e2; let d := an_hi B e2
  an_rng B (min (min (a * c) (a * d)) (min (b * c) (b * d))) (max (max (a * c) (a * d)) (max (b * c) (b * d))) mn mx
/-- a quotient by a divisor of 1 or more -/
def an_div (B : an_B) (e1 e2 : an_E) : Option (an_B × an_E) :=
  let a := an_lo B e1; let b := an_hi B e1; let c := an_lo B e2; let d := an_hi B e2
  if c < 1 then none else some (an_new B (if a < 0 then a.tdiv c else a.tdiv d) (if 0 ≤ b then b.tdiv c else b.tdiv d))
def an_rem (B : an_B) (e1 e2 : an_E) : Option (an_B × an_E) :=
  let a := an_lo B e1; let b := an_hi B e1; let c := an_lo B e2; let d := an_hi B e2
  if c < 1 then none else some (if 0 ≤ a then an_new B 0 (min b (d - 1)) else an_new B (-(d - 1)) (d - 1))
/-- 2 to a power above a number -/
def an_pw (h : Int) : Nat → Nat → Int
  | 0, _ => 2147483648
  | n + 1, k => if h < 2 ^ k then 2 ^ k else an_pw h n (k + 1)
def an_bit (i : Instr) (B : an_B) (e1 e2 : an_E) : an_B × an_E :=
  let a := an_lo B e1; let b := an_hi B e1; let c := an_lo B e2; let d := an_hi B e2
  match i with
  | .iand => if 0 ≤ a ∧ 0 ≤ c then an_new B 0 (min b d) else if 0 ≤ a then an_new B 0 b else if 0 ≤ c then an_new B 0 d else an_full B
  | .ior => if 0 ≤ a ∧ 0 ≤ c then an_new B (max a c) (an_pw (max b d) 31 0 - 1) else an_full B
  | .ixor => if 0 ≤ a ∧ 0 ≤ c then an_new B 0 (an_pw (max b d) 31 0 - 1) else an_full B
  | .ishl => if a = 1 ∧ b = 1 ∧ 0 ≤ c ∧ d ≤ 30 then an_new B (2 ^ c.toNat) (2 ^ d.toNat) else an_full B
  | .ishr => if 0 ≤ a ∧ c = d ∧ 0 ≤ c ∧ c ≤ 31 then an_new B (a / 2 ^ c.toNat) (b / 2 ^ c.toNat) else if 0 ≤ a then an_new B 0 b else an_full B
  | .iushr => if 0 ≤ a ∧ c = d ∧ 0 ≤ c ∧ c ≤ 31 then an_new B (a / 2 ^ c.toNat) (b / 2 ^ c.toNat) else if c = d ∧ 1 ≤ c ∧ c ≤ 31 then an_new B 0 (2 ^ (32 - c).toNat - 1) else if 0 ≤ a then an_new B 0 b else an_full B
  | _ => an_full B
/-- an operation on two ints -/
def an_ib (i : Instr) (B : an_B) (M : an_M) (f1 f2 : an_E) : Option (an_B × an_M × an_E) :=
  match an_nrm B f1, an_nrm B f2 with
  | (0, c), (0, d) => match am_ib i (Int32.ofInt c) (Int32.ofInt d) with
    | some w => some (B, M, (0, w.toInt))
    | none => none
  | e1, e2 => match i with
    | .iadd => some (an_add B M e1 e2)
    | .isub => let r := an_sub B e1 e2; some (r.1, M, r.2)
    | .imul => let r := an_mul B e1 e2 an_MN an_MX; some (r.1, M, r.2)
    | .idiv => match an_div B e1 e2 with
      | some r => some (r.1, M, r.2)
      | none => none
    | .irem => match an_rem B e1 e2 with
      | some r => some (r.1, M, r.2)
      | none => none
    | .iand | .ior | .ixor | .ishl | .ishr | .iushr => let r := an_bit i B e1 e2; some (r.1, M, r.2)
    | _ => none
/-- an operation on two longs -/
def an_lb (i : Instr) (B : an_B) (e1 e2 : an_E) : Option (an_B × an_E) := match i with
  | .lsub => some (an_rng B (an_lo B e1 - an_hi B e2) (an_hi B e1 - an_lo B e2) an_LN an_LX)
  | .ladd => some (an_rng B (an_lo B e1 + an_lo B e2) (an_hi B e1 + an_hi B e2) an_LN an_LX)
  | .lmul => some (an_mul B e1 e2 an_LN an_LX)
  | .ldiv => an_div B e1 e2
  | _ => none
/-- 1L moved -/
def an_shl (B : an_B) (e1 e2 : an_E) : an_B × an_E := if an_lo B e1 = 1 ∧ an_hi B e1 = 1 ∧ 0 ≤ an_lo B e2 ∧ an_hi B e2 ≤ 62 then an_new B (2 ^ (an_lo B e2).toNat) (2 ^ (an_hi B e2).toNat) else an_new B an_LN an_LX
def an_k0 : an_KI := (9, 0, [], 0, 0, (9, 0, 0))
def an_ki (kd : Nat) : an_KI := an_KT.getD kd an_k0
def an_asg : List (Nat × Nat) → Nat → Nat
  | [], _ => 0
  | p :: R, r => cond (Nat.beq p.1 r) p.2 (an_asg R r)
def an_rk (S : an_S) (r : Nat) : Nat := an_asg S.2.2.1.2.1 r
/-- a new name for a reference of a kind -/
def an_ref (S : an_S) (kd : Nat) (own : Bool) : an_S × an_V := ((S.1, S.2.1, (S.2.2.1.1 + 1, (S.2.2.1.1, kd) :: S.2.2.1.2.1, if own then S.2.2.1.1 :: S.2.2.1.2.2 else S.2.2.1.2.2), S.2.2.2), (2, (S.2.2.1.1, 0), (0, 0)))
def an_num (S : an_S) (t : Nat) (r : an_B × an_E) : an_S × an_V := ((r.1, S.2), (t, r.2, (0, 0)))
/-- a value of a type -/
def an_typ (S : an_S) (t : an_Ty) : Option (an_S × an_V) := match t with
  | (0, lo, hi) => if lo = hi then some (S, (0, (0, lo), (0, 0))) else some (an_num S 0 (an_new S.1 lo hi))
  | (1, kd, _) => some (an_ref S kd.toNat false)
  | (2, _, _) => some (S, an_zv)
  | (3, _, _) => some (an_num S 1 (an_new S.1 an_LN an_LX))
  | _ => none
def an_fit (S : an_S) (v : an_V) (t : an_Ty) : Bool := match t with
  | (0, lo, hi) => match v with
    | (0, e, _) => decide (lo ≤ an_lo S.1 e) && decide (an_hi S.1 e ≤ hi)
    | (4, _, _) => decide (lo ≤ -1) && decide (1 ≤ hi)
    | _ => false
  | (1, kd, _) => match v with
    | (2, r, _) => an_rk S r.1 == kd.toNat && decide (0 < kd)
    | _ => false
  | (2, _, _) => match v with
    | (2, _, _) => true
    | (3, _, _) => true
    | _ => false
  | (3, _, _) => match v with
    | (1, _, _) => true
    | _ => false
  | _ => false
def an_tget (T : List an_T) (r key : Nat) (x : an_E) : Option an_V := match T with
  | [] => none
  | f :: T => cond (Nat.beq f.1 r && (Nat.beq f.2.1 key && an_eqE f.2.2.1 x)) (some f.2.2.2) (an_tget T r key x)
def an_mem2 (ms : List (Nat × Nat)) (a b : Nat) : Bool := match ms with
  | [] => false
  | q :: ms => (Nat.beq q.1 a && Nat.beq q.2 b) || an_mem2 ms a b
/-- what a ghost of kind t rests on -/
def an_FPt (t : Nat) : List (Nat × Nat) := match t with
  | 7 => an_FP
  | 8 => an_FP8
  | _ => []
def an_gd (a b : Nat) : List an_T → Bool
  | [] => false
  | f :: T => (Nat.beq f.2.1 1003 && (Nat.beq f.2.2.2.1 12 && (Nat.beq f.1 a && Nat.beq f.2.2.2.2.1.1 b || Nat.beq f.1 b && Nat.beq f.2.2.2.2.1.1 a))) || an_gd a b T
/-- told there: what may be the same place is forgotten -/
def an_tput (S : an_S) (r key : Nat) (x : an_E) (v : an_V) : an_S :=
  let kd := an_rk S r
  (S.1, S.2.1, S.2.2.1, (r, key, x, v) :: S.2.2.2.filter (fun f => cond (Nat.beq f.2.1 1003) (!an_mem2 (an_FPt f.2.2.2.1) kd key) (!(f.2.1 == key) || (f.2.1 == 1002 || !(an_rk S f.1 == kd) && !(an_rk S f.1 == 0) || (f.1 == r && (f.2.2.1.1 == x.1 && !decide (f.2.2.1.2 = x.2))) || (an_SPL && an_gd f.1 r S.2.2.2)))))
def an_tcut (S : an_S) (ms : List (Nat × Nat)) : an_S := match ms with
  | [] => S
  | _ => (S.1, S.2.1, S.2.2.1, S.2.2.2.filter (fun f => cond (Nat.beq f.2.1 1003) (!ms.any (fun q => an_mem2 (an_FPt f.2.2.2.1) q.1 q.2)) (Nat.beq f.2.1 1002 || (!(Nat.beq (an_rk S f.1) 0) && !an_mem2 ms (an_rk S f.1) f.2.1))))
/-- the same, at a loop's head: ghosts stay -/
def an_tcutH (S : an_S) (ms : List (Nat × Nat)) : an_S := match ms with
  | [] => S
  | _ => (S.1, S.2.1, S.2.2.1, S.2.2.2.filter (fun f => cond (Nat.beq f.2.1 1003) true (Nat.beq f.2.1 1002 || (!(Nat.beq (an_rk S f.1) 0) && !an_mem2 ms (an_rk S f.1) f.2.1))))
def an_tadd (S : an_S) (r key : Nat) (x : an_E) (v : an_V) : an_S := (S.1, S.2.1, S.2.2.1, (r, key, x, v) :: S.2.2.2)
/-- a ghost of kind t -/
def an_gf (t : Nat) : List an_T → Option an_T
  | [] => none
  | f :: T => cond (Nat.beq f.2.1 1003 && Nat.beq f.2.2.2.1 t) (some f) (an_gf t T)
def an_same (B : an_B) (e f : an_E) : Bool := decide (an_ub B e f ≤ 0) && decide (an_ub B f e ≤ 0)
/-- REACH of a TAG is told: at its number the columns may differ -/
def an_gB (S : an_S) (r key : Nat) (S1 : an_S) : an_S := if Nat.beq key an_FR && Nat.beq (an_rk S r) an_KTg then (match an_gf 7 S.2.2.2, an_tget S.2.2.2 r an_FN (0, 0) with
  | some g, some (0, en, _) => if an_eqE g.2.2.1 (0, -1) || an_eqE g.2.2.1 (an_nrm S.1 en) then an_tadd S1 g.1 1003 (an_nrm S.1 en) g.2.2.2 else S1
  | _, _ => S1) else S1
/-- the other column is told: they are the same again -/
def an_gC (S : an_S) (r : Nat) (e : an_E) (v : an_V) (S1 : an_S) : an_S := if Nat.beq (an_rk S r) an_KR then (match an_gf 7 S.2.2.2, v with
  | some g, (0, ev, _) => if Nat.beq g.2.2.2.2.1.1 r && an_same S.1 g.2.2.1 e then (match an_tget S.2.2.2 g.1 1004 g.2.2.1 with
    | some (2, t, _) => (match an_tget S.2.2.2 t.1 an_FR (0, 0) with
      | some (0, ew, _) => if an_same S.1 ev ew then an_tadd S1 g.1 1003 (0, -1) g.2.2.2 else S1
      | _ => S1)
    | _ => S1) else S1
  | _, _ => S1) else S1
def an_gl (S : an_S) : List an_T → Option Nat
  | [] => none
  | f :: T => match f with
    | (r, 2, x, (0, e, _)) => if Nat.beq (an_rk S r) an_KL && (an_eqE x (0, 0) && an_eqE (an_nrm S.1 e) (0, 0)) then some r else an_gl S T
    | _ => an_gl S T
def an_grk (kd : Nat) : List (Nat × Nat) → Option Nat
  | [] => none
  | p :: R => if Nat.beq p.2 kd then some p.1 else an_grk kd R
/-- where the row rr has the element q -/
def an_gx (rr q : Nat) : List an_T → Option an_E
  | [] => none
  | f :: T => cond (Nat.beq f.1 rr && (Nat.beq f.2.1 1000 && (Nat.beq f.2.2.2.1 2 && Nat.beq f.2.2.2.2.1.1 q))) (some f.2.2.1) (an_gx rr q T)
def an_bi (w c : Nat) : Int := if w.testBit c then 1 else 0
def an_g8w (S : an_S) (rm q c : Nat) : Nat → List (an_S × Int)
  | 0 => []
  | w + 1 => (an_tadd (an_tadd S rm an_FMO (0, 0) (0, (0, (w : Int)), (0, 0))) q an_FO (0, 0) (0, (0, an_bi w c), (0, 0)), an_bi w c) :: an_g8w S rm q c w
def an_g8c (S : an_S) (rm q : Nat) (x : an_E) : Nat → List (an_S × Int)
  | 0 => []
  | c + 1 => match an_eq S.1 x (0, (c : Int)) with
    | some B1 => an_g8w (B1, S.2) rm q c 16 ++ an_g8c S rm q x c
    | none => an_g8c S rm q x c
/-- ON of a READER is asked for: which READER it is, and all bits, told apart -/
def an_g8 (S : an_S) (q rb : Nat) : Option (List (an_S × Int)) := if Nat.beq rb an_FO && Nat.beq (an_rk S q) an_KRd then (match an_gf 8 S.2.2.2 with
  | some g => (match an_gx g.1 q S.2.2.2 with
    | some x => if an_eqE g.2.2.1 (0, -1) && (decide (0 ≤ an_lo S.1 x) && decide (an_hi S.1 x ≤ 3)) then some (an_g8c S g.2.2.2.2.1.1 q x 4) else none
    | none => none)
  | none => none) else none
/-- ON of a READER is told -/
def an_gB8 (S : an_S) (r key : Nat) (v : an_V) (S1 : an_S) : an_S := if Nat.beq key an_FO && Nat.beq (an_rk S r) an_KRd then (match an_gf 8 S.2.2.2 with
  | some g => (match an_gx g.1 r S.2.2.2 with
    | some x => if an_eqE g.2.2.1 (0, -1) && (decide (0 ≤ an_lo S.1 x) && decide (an_hi S.1 x ≤ 3)) then (match an_tget S.2.2.2 r an_FO (0, 0), v with
        | some (0, eo, _), (0, ev, _) => if an_same S.1 eo ev then an_tadd S1 g.1 1003 (0, -1) g.2.2.2 else an_tadd S1 g.1 1003 (an_nrm S.1 x) (8, (g.2.2.2.2.1.1, 0), (r, 0))
        | _, _ => S1) else S1
    | none => S1)
  | none => S1) else S1
def an_cst (e : an_E) : Option Int := if Nat.beq e.1 0 then some e.2 else none
def an_okb (c w1 w2 vo : Int) : Bool := (decide (0 ≤ c) && (decide (c < 4) && (decide (0 ≤ w1) && (decide (0 ≤ w2) && decide (w2 ≤ 15))))) && ((List.range 4).all (fun i => decide ((i : Int) = c) || (w1.toNat.testBit i == w2.toNat.testBit i)) && decide (vo = an_bi w2.toNat c.toNat))
/-- the reference's bits are told -/
def an_gC8 (S : an_S) (r key : Nat) (v : an_V) (S1 : an_S) : an_S := if Nat.beq key an_FMO && Nat.beq (an_rk S r) an_KM then (match an_gf 8 S.2.2.2, v with
  | some g, (0, ev, _) => (match an_tget S.2.2.2 r an_FMO (0, 0), an_tget S.2.2.2 g.2.2.2.2.2.1 an_FO (0, 0), an_gx g.1 g.2.2.2.2.2.1 S.2.2.2 with
    | some (0, ew, _), some (0, eo, _), some x => (match an_cst g.2.2.1, an_cst (an_nrm S.1 ew), an_cst (an_nrm S.1 ev), an_cst (an_nrm S.1 eo) with
      | some c, some w1, some w2, some vo => if Nat.beq g.2.2.2.2.1.1 r && (an_same S.1 x g.2.2.1 && an_okb c w1 w2 vo) then an_tadd S1 g.1 1003 (0, -1) (8, (r, 0), (0, 0)) else S1
      | _, _, _, _ => S1)
    | _, _, _ => S1)
  | _, _ => S1) else S1
def an_gNl (r kd : Nat) : List (Nat × Nat) → List an_T
  | [] => []
  | p :: R => if Nat.beq p.2 kd then (r, 1003, (0, (p.1 : Int)), (12, (p.1, 0), (0, 0))) :: an_gNl r kd R else an_gNl r kd R
/-- a new READER is none of those before -/
def an_gN (S : an_S) (inf : Nat) (S1 : an_S) : an_S := if an_GN && Nat.beq inf an_KRd then (S1.1, S1.2.1, S1.2.2.1, an_gNl S.2.2.1.1 inf S.2.2.1.2.1 ++ S1.2.2.2) else S1
/-- an object's field is 0 -/
def an_g0 (S : an_S) (r key : Nat) : Bool := match an_tget S.2.2.2 r key (0, 0) with
  | some (0, e, _) => an_eqE (an_nrm S.1 e) (0, 0)
  | _ => false
def an_gel (S : an_S) (rr i : Nat) : Option Nat := match an_tget S.2.2.2 rr 1000 (0, (i : Int)) with
  | some (2, q, _) => if an_g0 S q.1 an_FO && Nat.beq (an_rk S q.1) an_KRd then some q.1 else none
  | _ => none
/-- all READERS are OFF -/
def an_gi8 (S : an_S) : an_S := if an_GI8 then (match an_grk an_KRr S.2.2.1.2.1, an_grk an_KM S.2.2.1.2.1 with
  | some rr, some rm => (match an_gel S rr 0, an_gel S rr 1, an_gel S rr 2, an_gel S rr 3 with
    | some a, some b, some c, some d => if an_g0 S rm an_FMO && (an_gd a b S.2.2.2 && (an_gd a c S.2.2.2 && (an_gd a d S.2.2.2 && (an_gd b c S.2.2.2 && (an_gd b d S.2.2.2 && an_gd c d S.2.2.2))))) then an_tadd S rr 1003 (0, -1) (8, (rm, 0), (0, 0)) else S
    | _, _, _, _ => S)
  | _, _ => S) else S
/-- no TAGS: the columns are the same -/
def an_gi (S : an_S) : an_S := if an_GI then (match an_gl S S.2.2.2, an_grk an_KR S.2.2.1.2.1 with
  | some r, some ra => an_tadd S r 1003 (0, -1) (7, (ra, 0), (0, 0))
  | _, _ => S) else S
def an_nv (B : an_B) (v : an_V) : an_V := match v with
  | (0, e, _) => (0, an_nrm B e, (0, 0))
  | (1, e, _) => (1, an_nrm B e, (0, 0))
  | w => w
def an_lget : an_L → Nat → Option an_V
  | [], _ => none
  | p :: l, i => cond (Nat.beq p.1 i) (some p.2) (an_lget l i)
def an_lput (l : an_L) (i : Nat) (v : an_V) : an_L := (i, v) :: l.filter (fun q => !(q.1 == i) && !(q.1 + 1 == i && q.2.1 == 1))
def an_lput2 (l : an_L) (i : Nat) (v : an_V) : an_L := (i, v) :: l.filter (fun q => !(q.1 == i) && (!(q.1 == i + 1) && !(q.1 + 1 == i && q.2.1 == 1)))
/-- the index lies in the row -/
def an_inb (S : an_S) (r : Nat) (e : an_E) : Bool :=
  let q := an_ki (an_rk S r)
  decide (0 ≤ an_lo S.1 e) && (decide (an_hi S.1 e < q.2.2.2.1) || (match an_tget S.2.2.2 r 1001 (0, 0) with
    | some (0, n, _) => decide (an_ub S.1 e n ≤ -1)
    | _ => false))
def an_cat (v : an_V) : Nat := if v.1 == 1 then 2 else 1
def an_wt : List an_V → Nat
  | [] => 0
  | v :: st => an_cat v + an_wt st
def an_it (pc : Nat) (L : an_L) (st : List an_V) (k sl : Nat) (S : an_S) : Option (List an_It) := some [(pc, L, st, k, sl, S)]
/-- an element is read -/
def an_ald (tg : Nat) (S : an_S) (r : Nat) (e : an_E) : Option (an_S × an_V) :=
  if (an_ki (an_rk S r)).1 == tg && an_inb S r e then match an_tget S.2.2.2 r 1000 e with
    | some v => some (S, v)
    | none => let q := an_ki (an_rk S r); match an_typ S q.2.2.2.2.2 with
      | some (S1, v) => some (an_tadd S1 r 1000 e v, v)
      | none => none
  else none
/-- a reader for a row of readers -/
def an_rdr (S : an_S) (r : Nat) (v : an_V) : Bool := match v with
  | (2, q, _) => (an_ki (an_rk S r)).2.1 == 2 && ((an_ki (an_rk S q.1)).1 == 0 && (an_ki (an_rk S q.1)).2.1 == 9)
  | _ => false
def an_tg (i : Instr) : Nat := match i with
  | .iaload => 1
  | .iastore => 1
  | .laload => 2
  | .lastore => 2
  | _ => 3
/-- an element is told -/
def an_ast (tg : Nat) (mods : List (Nat × Nat)) (S : an_S) (r : Nat) (e : an_E) (v : an_V) : Option an_S :=
  if (an_ki (an_rk S r)).1 == tg && (an_inb S r e && (an_fit S v (an_ki (an_rk S r)).2.2.2.2.2 && (an_mem2 mods (an_rk S r) 1000 && (tg != 3 || an_rdr S r v)))) then some (an_tput S r 1000 e v) else none
/-- both ways of a comparison -/
def an_br (B : an_B) (c : ClassFile.Cond) (e1 e2 : an_E) (f g : an_B → an_It) : List an_It :=
  match an_asm B c e1 e2, an_asm B (an_not c) e1 e2 with
  | some B1, some B2 => [f B1, g B2]
  | some B1, none => [f B1]
  | none, some B2 => [g B2]
  | none, none => []
def an_sw (pc : Nat) (e : an_E) (B : an_B) (g : Nat → an_B → an_It) : Int → List Int → List an_It
  | _, [] => []
  | v, o :: os => match an_eq B e (0, v) with
    | some B1 => g ((pc : Int) + o).toNat B1 :: an_sw pc e B g (v + 1) os
    | none => an_sw pc e B g (v + 1) os
def an_zeros (r : Nat) : List Value → Nat → List an_T
  | [], _ => []
  | .int _ :: fs, k => (r, k, (0, 0), (0, (0, 0), (0, 0))) :: an_zeros r fs (k + 1)
  | _ :: fs, k => an_zeros r fs (k + 1)
def an_OL (j : Nat) : Int × Int := an_OLn.getD j (0, 0)
/-- an index of an old row -/
def an_oin (S : an_S) (j : Nat) (e : an_E) : Bool := decide (j < 3) && (decide (0 ≤ an_lo S.1 e) && (decide (an_hi S.1 e < (an_OL j).1) || (match an_tget S.2.2.2 j 1002 (0, -1) with
  | some (0, n, _) => decide (an_ub S.1 e n ≤ -1)
  | _ => false)))
/-- a new row: of ints, of longs, of references -/
def an_zok1 (q : an_KI) : Bool := match q with
  | (1, _, _, _, _, (0, lo, hi)) => decide (lo ≤ 0) && decide (0 ≤ hi)
  | _ => false
def an_zok2 (q : an_KI) : Bool := match q with
  | (2, _, _, _, _, (3, _, _)) => true
  | _ => false
def an_zok3 (ra : Nat) (q : an_KI) : Bool := match q with
  | (3, x, _, _, _, (2, _, _)) => x == ra && (ra == 2 || ra == 3)
  | _ => false
def an_zok (tg ra : Nat) (q : an_KI) : Bool := match tg with
  | 1 => an_zok1 q
  | 2 => an_zok2 q
  | _ => an_zok3 ra q
def an_zrS (r : Nat) : Nat → an_S → an_S
  | 0, S1 => S1
  | i + 1, S1 => an_tadd (an_zrS r i S1) r 1000 (0, (i : Int)) (0, (0, 0), (0, 0))
def an_nzS (S : an_S) (r tg : Nat) (n : an_E) (S1 : an_S) : an_S := if an_SPL && Nat.beq tg 1 then (match an_cst (an_nrm S.1 n) with
  | some c => if c ≤ 4 then an_zrS r c.toNat S1 else S1
  | none => S1) else S1
def an_nwo (tg w ra inf m pc : Nat) (L : an_L) (st : List an_V) (k sl : Nat) (S : an_S) : Option (List an_It) := match st with
  | (0, n, _) :: rest => if 0 ≤ an_lo S.1 n ∧ (an_ki inf).2.2.2.1 ≤ an_lo S.1 n ∧ an_hi S.1 n ≤ (an_ki inf).2.2.2.2.1 ∧ an_hi S.1 n ≤ 1000000 ∧ k + 1 ≤ am_mc m ∧ sl + (an_hi S.1 n).toNat ≤ am_ms m ∧ an_zok tg ra (an_ki inf) = true then
      an_it (pc + w) L ((an_ref S inf true).2 :: rest) (k + 1) (sl + (an_hi S.1 n).toNat) (if (an_ki inf).2.2.2.1 = (an_ki inf).2.2.2.2.1 then an_nzS S S.2.2.1.1 tg n (an_ref S inf true).1 else an_tadd (an_ref S inf true).1 S.2.2.1.1 1001 (0, 0) (0, n, (0, 0)))
    else none
  | _ => none
/-- a new object -/
def an_zf (q : Value × an_Ty) : Bool := match q with
  | (.int x, (0, lo, hi)) => decide (x = 0) && (decide (lo ≤ 0) && decide (0 ≤ hi))
  | (.null, (2, _, _)) => true
  | _ => false
def an_nwb (ra inf m pc : Nat) (L : an_L) (st : List an_V) (k sl : Nat) (S : an_S) : Option (List an_It) := match an_ki inf with
  | (0, ci, tys, _) => if (ra == ci + 1 && !(inf == an_KL)) && (decide (k + 1 ≤ am_mc m) && (decide (sl + (am_dflt ci).length ≤ am_ms m) && (decide ((am_dflt ci).length = tys.length) && ((am_dflt ci).zip tys).all an_zf))) then
      an_it (pc + 3) L ((an_ref S inf true).2 :: st) (k + 1) (sl + (am_dflt ci).length) (an_gN S inf ((an_ref S inf true).1.1, (an_ref S inf true).1.2.1, (an_ref S inf true).1.2.2.1, an_zeros S.2.2.1.1 (am_dflt ci) 0 ++ (an_ref S inf true).1.2.2.2))
    else none
  | _ => none
/-- a small number told apart -/
def an_spB (B : an_B) (e : an_E) : Nat → List (Nat × an_B)
  | 0 => []
  | n + 1 => match an_eq B e (0, (n : Int)) with
    | some B1 => (n, B1) :: an_spB B e n
    | none => an_spB B e n
def an_isc (e : an_E) : Bool := Nat.beq e.1 0
def an_all {α β : Type} (f : α → Option β) : List α → Option (List β)
  | [] => some []
  | x :: xs => match f x, an_all f xs with
    | some y, some ys => some (y :: ys)
    | _, _ => none
/-- which READER -/
def an_spl (S : an_S) (r : Nat) (e : an_E) : Option (List (an_S × an_V)) := if an_SPL && (Nat.beq (an_rk S r) an_KRr && (!an_isc e && (decide (0 ≤ an_lo S.1 e) && decide (an_hi S.1 e ≤ 3)))) then an_all (fun p => an_ald 3 (p.2, S.2) r (0, (p.1 : Int))) (an_spB S.1 e 4) else none
/-- 1 moved by a small number -/
def an_shs (S : an_S) (x y : an_E) : Option (List (an_B × an_M × an_E)) := if an_SPL && (an_eqE (an_nrm S.1 x) (0, 1) && (!an_isc (an_nrm S.1 y) && (decide (4 ≤ an_hi S.1 y) && (decide (0 ≤ an_lo S.1 y) && decide (an_hi S.1 y ≤ 15))))) then an_all (fun p => an_ib .ishl p.2 S.2.1 x (0, (p.1 : Int))) (an_spB S.1 y 16) else none
/-- one instruction that calls nothing and ends nothing -/
def an_one (mods : List (Nat × Nat)) (m pc : Nat) (i : Instr) (ra rb inf : Nat) (L : an_L) (st : List an_V) (k sl : Nat) (S : an_S) : Option (List an_It) := match i with
  | .iconst n => an_it (pc + 1) L ((0, (0, (Int32.ofInt n).toInt), (0, 0)) :: st) k sl S
  | .bipush n => an_it (pc + 2) L ((0, (0, (Int8.ofInt n).toInt32.toInt), (0, 0)) :: st) k sl S
  | .sipush n => an_it (pc + 3) L ((0, (0, (Int16.ofInt n).toInt32.toInt), (0, 0)) :: st) k sl S
  | .lconst n => an_it (pc + 1) L ((1, (0, (Int64.ofNat n).toInt), (0, 0)) :: st) k sl S
  | .aconst_null => an_it (pc + 1) L (an_zv :: st) k sl S
  | .ldc _ => an_it (pc + 2) L ((0, (0, (Int32.ofNat ra).toInt), (0, 0)) :: st) k sl S
  | .ldc_w _ => an_it (pc + 3) L ((0, (0, (Int32.ofNat ra).toInt), (0, 0)) :: st) k sl S
  | .ldc2_w _ => an_it (pc + 3) L ((1, (0, (Int64.ofNat ra).toInt), (0, 0)) :: st) k sl S
  | .iload_n j => match an_lget L j.val with
    | some (0, e, f) => an_it (pc + 1) L ((0, e, f) :: st) k sl S
    | _ => none
  | .iload j => match an_lget L j with
    | some (0, e, f) => an_it (pc + 2) L ((0, e, f) :: st) k sl S
    | _ => none
  | .lload_n j => match an_lget L j.val with
    | some (1, e, f) => an_it (pc + 1) L ((1, e, f) :: st) k sl S
    | _ => none
  | .lload j => match an_lget L j with
    | some (1, e, f) => an_it (pc + 2) L ((1, e, f) :: st) k sl S
    | _ => none
  | .aload_n j => match an_lget L j.val with
    | some (2, e, f) => an_it (pc + 1) L ((2, e, f) :: st) k sl S
    | some (3, e, f) => an_it (pc + 1) L ((3, e, f) :: st) k sl S
    | some (5, e, f) => an_it (pc + 1) L ((5, e, f) :: st) k sl S
    | _ => none
  | .aload j => match an_lget L j with
    | some (2, e, f) => an_it (pc + 2) L ((2, e, f) :: st) k sl S
    | some (3, e, f) => an_it (pc + 2) L ((3, e, f) :: st) k sl S
    | some (5, e, f) => an_it (pc + 2) L ((5, e, f) :: st) k sl S
    | _ => none
  | .istore_n j => match st with
    | (0, e, f) :: r => if j.val < am_ml m then an_it (pc + 1) (an_lput L j.val (0, e, f)) r k sl S else none
    | _ => none
  | .istore j => match st with
    | (0, e, f) :: r => if j < am_ml m then an_it (pc + 2) (an_lput L j (0, e, f)) r k sl S else none
    | _ => none
  | .lstore_n j => match st with
    | (1, e, f) :: r => if j.val + 1 < am_ml m then an_it (pc + 1) (an_lput2 L j.val (1, e, f)) r k sl S else none
    | _ => none
  | .lstore j => match st with
    | (1, e, f) :: r => if j + 1 < am_ml m then an_it (pc + 2) (an_lput2 L j (1, e, f)) r k sl S else none
    | _ => none
  | .astore_n j => match st with
    | (2, e, f) :: r => if j.val < am_ml m then an_it (pc + 1) (an_lput L j.val (2, e, f)) r k sl S else none
    | (3, e, f) :: r => if j.val < am_ml m then an_it (pc + 1) (an_lput L j.val (3, e, f)) r k sl S else none
    | _ => none
  | .astore j => match st with
    | (2, e, f) :: r => if j < am_ml m then an_it (pc + 2) (an_lput L j (2, e, f)) r k sl S else none
    | (3, e, f) :: r => if j < am_ml m then an_it (pc + 2) (an_lput L j (3, e, f)) r k sl S else none
    | _ => none
  | .iinc j n => match an_lget L j with
    | some (0, e, _) => let r := an_add S.1 S.2.1 e (0, (Int32.ofInt n).toInt); an_it (pc + 3) (an_lput L j (0, r.2.2, (0, 0))) st k sl (r.1, r.2.1, S.2.2)
    | _ => none
  | .ishl => match st with
    | (0, y, _) :: (0, x, _) :: r => match an_shs S x y with
      | some qs => some (qs.map (fun q => (pc + 1, L, (0, q.2.2, (0, 0)) :: r, k, sl, (q.1, q.2.1, S.2.2))))
      | none => match an_ib .ishl S.1 S.2.1 x y with
        | some q => an_it (pc + 1) L ((0, q.2.2, (0, 0)) :: r) k sl (q.1, q.2.1, S.2.2)
        | none => none
    | _ => none
  | .iadd | .isub | .imul | .iand | .ior | .ixor | .ishr | .iushr | .idiv | .irem => match st with
    | (0, y, _) :: (0, x, _) :: r => match an_ib i S.1 S.2.1 x y with
      | some q => an_it (pc + 1) L ((0, q.2.2, (0, 0)) :: r) k sl (q.1, q.2.1, S.2.2)
      | none => none
    | _ => none
  | .ladd | .lsub | .lmul | .ldiv => match st with
    | (1, y, _) :: (1, x, _) :: r => match an_lb i S.1 x y with
      | some q => an_it (pc + 1) L ((1, q.2, (0, 0)) :: r) k sl (q.1, S.2)
      | none => none
    | _ => none
  | .lshl => match st with
    | (0, y, _) :: (1, x, _) :: r => let q := an_shl S.1 x y; an_it (pc + 1) L ((1, q.2, (0, 0)) :: r) k sl (q.1, S.2)
    | _ => none
  | .i2l => match st with
    | (0, x, _) :: r => an_it (pc + 1) L ((1, x, (0, 0)) :: r) k sl S
    | _ => none
  | .l2i => match st with
    | (1, x, _) :: r => if an_MN ≤ an_lo S.1 x ∧ an_hi S.1 x ≤ an_MX then an_it (pc + 1) L ((0, x, (0, 0)) :: r) k sl S else let q := an_full S.1; an_it (pc + 1) L ((0, q.2, (0, 0)) :: r) k sl (q.1, S.2)
    | _ => none
  | .lcmp => match st with
    | (1, y, _) :: (1, x, _) :: r => an_it (pc + 1) L ((4, x, y) :: r) k sl S
    | _ => none
  | .ifCond c _ => match st with
    | (0, x, _) :: r => some (an_br S.1 c x (0, 0) (fun B => (ra, L, r, k, sl, (B, S.2))) (fun B => (pc + 3, L, r, k, sl, (B, S.2))))
    | (4, x, y) :: r => some (an_br S.1 c x y (fun B => (ra, L, r, k, sl, (B, S.2))) (fun B => (pc + 3, L, r, k, sl, (B, S.2))))
    | _ => none
  | .if_icmp c _ => match st with
    | (0, y, _) :: (0, x, _) :: r => some (an_br S.1 c x y (fun B => (ra, L, r, k, sl, (B, S.2))) (fun B => (pc + 3, L, r, k, sl, (B, S.2))))
    | _ => none
  | .goto _ => an_it ra L st k sl S
  | .tableswitch d lo hi offs => match st with
    | (0, x, _) :: r => if (hi - lo + 1).toNat = offs.toList.length ∧ offs.toList.all (fun o => decide (0 ≤ (pc : Int) + o)) = true ∧ 0 ≤ (pc : Int) + d then
        let g : Nat → an_B → an_It := fun t B => (t, L, r, k, sl, (B, S.2))
        let a := an_sw pc x S.1 g lo offs.toList
        let b := match an_le S.1 x (0, lo) (-1) with
          | some B1 => g ((pc : Int) + d).toNat B1 :: a
          | none => a
        match an_le S.1 (0, hi) x (-1) with
          | some B1 => some (g ((pc : Int) + d).toNat B1 :: b)
          | none => some b
      else none
    | _ => none
  | .getfield _ => match st with
    | (2, r, _) :: rest => match an_ki (an_rk S r.1) with
      | (0, ci, tys, _) => if ci == ra && decide (rb < 1000) then match an_tget S.2.2.2 r.1 rb (0, 0) with
          | some v => an_it (pc + 3) L (v :: rest) k sl S
          | none => match an_g8 S r.1 rb with
          | some Ss => some (Ss.map (fun p => (pc + 3, L, (0, (0, p.2), (0, 0)) :: rest, k, sl, p.1)))
          | none => match tys[rb]? with
            | some t => match an_typ S t with
              | some (S1, v) => an_it (pc + 3) L (v :: rest) k sl (an_tadd S1 r.1 rb (0, 0) v)
              | none => none
            | none => none
        else none
      | _ => none
    | _ => none
  | .putfield _ => match st with
    | v :: (2, r, _) :: rest => match an_ki (an_rk S r.1) with
      | (0, ci, tys, _) => match tys[rb]? with
        | some t => if ci == ra && (an_fit S v t && (an_mem2 mods (an_rk S r.1) rb && !(ci == 0))) then an_it (pc + 3) L rest k sl (an_gC8 S r.1 rb v (an_gB8 S r.1 rb v (an_gB S r.1 rb (an_tput S r.1 rb (0, 0) v)))) else none
        | none => none
      | _ => none
    | _ => none
  | .getstatic _ => an_it (pc + 3) L ((5, (ra, 0), (0, 0)) :: st) k sl S
  | .aaload => match st with
    | (0, e, _) :: (2, r, _) :: rest => match an_spl S r.1 (an_nrm S.1 e) with
      | some ps => some (ps.map (fun p => (pc + 1, L, p.2 :: rest, k, sl, p.1)))
      | none => match an_ald 3 S r.1 (an_nrm S.1 e) with
        | some (S1, v) => an_it (pc + 1) L (v :: rest) k sl S1
        | none => none
    | _ => none
  | .iaload | .laload => match st with
    | (0, e, _) :: (2, r, _) :: rest => match an_ald (an_tg i) S r.1 (an_nrm S.1 e) with
      | some (S1, v) => an_it (pc + 1) L (v :: rest) k sl S1
      | none => none
    | (0, e, _) :: (5, j, _) :: rest => match i with
      | .iaload => if an_oin S j.1 e then match an_tget S.2.2.2 j.1 1002 (an_nrm S.1 e) with
          | some v => an_it (pc + 1) L (v :: rest) k sl S
          | none => an_it (pc + 1) L ((an_num S 0 (an_full S.1)).2 :: rest) k sl (an_tadd (an_num S 0 (an_full S.1)).1 j.1 1002 (an_nrm S.1 e) (an_num S 0 (an_full S.1)).2)
        else none
      | _ => none
    | _ => none
  | .iastore | .lastore | .aastore => match st with
    | v :: (0, e, _) :: (2, r, _) :: rest => match an_ast (an_tg i) mods S r.1 (an_nrm S.1 e) v with
      | some S1 => an_it (pc + 1) L rest k sl (an_gC S r.1 (an_nrm S.1 e) v S1)
      | none => none
    | _ => none
  | .arraylength => match st with
    | (2, r, _) :: rest => let q := an_ki (an_rk S r.1)
      if q.1 == 0 || q.1 == 9 then none else if q.2.2.2.1 = q.2.2.2.2.1 then an_it (pc + 1) L ((0, (0, q.2.2.2.1), (0, 0)) :: rest) k sl S else match an_tget S.2.2.2 r.1 1001 (0, 0) with
        | some v => an_it (pc + 1) L (v :: rest) k sl S
        | none => let w := an_num S 0 (an_new S.1 q.2.2.2.1 q.2.2.2.2.1); an_it (pc + 1) L (w.2 :: rest) k sl (an_tadd w.1 r.1 1001 (0, 0) w.2)
    | (5, j, _) :: rest => if j.1 < 3 then (if (an_OL j.1).1 = (an_OL j.1).2 then an_it (pc + 1) L ((0, (0, (an_OL j.1).1), (0, 0)) :: rest) k sl S else match an_tget S.2.2.2 j.1 1002 (0, -1) with
        | some v => an_it (pc + 1) L (v :: rest) k sl S
        | none => none) else none
    | _ => none
  | .newarray .int => an_nwo 1 2 ra inf m pc L st k sl S
  | .newarray .long => an_nwo 2 2 ra inf m pc L st k sl (an_gi (an_gi8 S))
  | .anewarray _ => an_nwo 3 3 ra inf m pc L st k sl S
  | .new _ => an_nwb ra inf m pc L st k sl S
  | .dup => match st with
    | v :: r => if v.1 == 1 then none else an_it (pc + 1) L (v :: v :: r) k sl S
    | _ => none
  | .dup_x1 => match st with
    | v :: w :: r => if v.1 == 1 || w.1 == 1 then none else an_it (pc + 1) L (v :: w :: v :: r) k sl S
    | _ => none
  | .dup2 => match st with
    | v :: w :: r => if v.1 == 1 || w.1 == 1 then none else an_it (pc + 1) L (v :: w :: v :: w :: r) k sl S
    | _ => none
  | .pop => match st with
    | v :: r => if v.1 == 1 then none else an_it (pc + 1) L r k sl S
    | _ => none
  | .checkcast _ => match st with
    | (2, r, f) :: rest => match an_ki (an_rk S r.1) with
      | (0, ci, _) => if ci == ra then an_it (pc + 3) L ((2, r, f) :: rest) k sl S else none
      | _ => none
    | _ => none
  | .invokespecial _ => match st with
    | (2, _, _) :: rest => if rb == 5 && (decide (an_wt rest + 12 ≤ am_Lc m) && decide (1 ≤ am_F m)) then an_it (pc + 3) L rest k sl S else none
    | _ => none
  | _ => none
