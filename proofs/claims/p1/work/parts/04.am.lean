/-! THE ABSTRACT MACHINE: the kit's worlds (lists of cells at their addresses) as heap, locals and stack as lists; 'am_Safe ..': from here the method ends, in Q. No word of it speaks of the JVM's tables. -/
abbrev am_I : Type := Nat × Instr × Nat × Nat × Nat × Nat × Nat × Nat
abbrev am_L : Type := List (Nat × Value)
abbrev am_R : Type := Option Value ⊕ Nat
abbrev am_O : Type := Nat → Nat × Nat × (Nat → Int32)
abbrev am_K : Type := Nat → am_L → List Value → Nat → Nat → va_W → Prop
abbrev am_Q : Type := am_R → va_W → Prop
abbrev am_P : Type := Nat → Nat → am_L → List Value → Nat → Nat → va_W → am_Q → Prop
def am_put1 (l : am_L) (i : Nat) (v : Value) : am_L := (i, v) :: l.filter (fun q => !(q.1 == i) && !(q.1 + 1 == i && q.2.category == 2))
def am_put2 (l : am_L) (i : Nat) (v : Value) : am_L := (i, v) :: l.filter (fun q => !(q.1 == i) && (!(q.1 == i + 1) && !(q.1 + 1 == i && q.2.category == 2)))
def am_wt (st : List Value) : Nat := (st.map fun v => v.category).sum
def am_c (c : ClassFile.Cond) (x y : Int32) : Prop := match c with
  | .eq => x = y | .ne => ¬ x = y | .lt => x < y | .ge => y ≤ x | .gt => y < x | .le => x ≤ y
/-- a row of ints that can be read: one of the world's, or an old one -/
def am_rd (O : am_O) (X : Nat → ClassId) (ws : va_W) (a n : Nat) (f : Nat → Int32) : Prop := (a, .inl (X 0, n, .inl f)) ∈ ws ∨ ∃ j, j < 3 ∧ O j = (a, n, f)
def am_ib (i : Instr) (x y : Int32) : Option Int32 := match i with
  | .iadd => some (x + y) | .isub => some (x - y) | .imul => some (x * y) | .iand => some (x &&& y) | .ior => some (x ||| y) | .ixor => some (x ^^^ y)
  | .ishl => some (x <<< (y &&& 31)) | .ishr => some (x >>> (y &&& 31)) | .iushr => some (x.toUInt32 >>> (y.toUInt32 &&& Int32.toUInt32 31)).toInt32
  | .idiv => if y = 0 then none else some (x / y) | .irem => if y = 0 then none else some (x - x / y * y)
  | _ => none
def am_lb (i : Instr) (x y : Int64) : Option Int64 := match i with
  | .ladd => some (x + y) | .lsub => some (x - y) | .lmul => some (x * y) | .ldiv => if y = 0 then none else some (x / y)
  | _ => none
/-- of method m: arguments, kind of answer (0 none, 1 int, 2 boolean, 3 a reference), cells and slots that it may make, frames and locals that it may use, its own locals -/
def am_n (m : Nat) : Nat × Nat × Nat × Nat × Nat × Nat × Nat := am_N.getD m (0, 0, 0, 0, 0, 0, 0)
def am_na (m : Nat) : Nat := (am_n m).1
def am_rk (m : Nat) : Nat := (am_n m).2.1
def am_mc (m : Nat) : Nat := (am_n m).2.2.1
def am_ms (m : Nat) : Nat := (am_n m).2.2.2.1
def am_F (m : Nat) : Nat := (am_n m).2.2.2.2.1
def am_Lc (m : Nat) : Nat := (am_n m).2.2.2.2.2.1
def am_ml (m : Nat) : Nat := (am_n m).2.2.2.2.2.2
def am_code (m : Nat) : List am_I := am_C.getD m []
/-- where an exception of kind j, thrown at pc, goes on in method m -/
def am_hnd (m pc j : Nat) : Option Nat := ((am_H.getD m []).find? (fun h => decide (h.1 ≤ pc) && (decide (pc < h.2.1) && h.2.2.2 == j))).map (fun h => h.2.2.1)
def am_thr (K : am_K) (Q : am_Q) (m pc : Nat) (l : am_L) (j k sl : Nat) (ws : va_W) : Prop := match am_hnd m pc j with
  | some t => ∀ q : Nat, K t l [.ref q] k sl ws
  | none => k ≤ am_mc m ∧ sl ≤ am_ms m ∧ Q (.inr j) ws
def am_fresh (ws : va_W) (a : Nat) : Prop := ∀ q ∈ ws, q.1 ≠ a
/-- a call of method m2 (mode 0 static, 1 of an object, 2 a constructor, 3 a constructor of a nest mate, 4 static with a table) -/
def am_call (K : am_K) (Cl : Nat → List Value → va_W → am_Q → Prop) (Q : am_Q) (m pc m2 mode : Nat) (l : am_L) (st : List Value) (k sl : Nat) (ws : va_W) : Prop :=
  ∃ as rest : List Value, st = as.reverse ++ rest ∧ as.length = am_na m2 ∧ mode ≠ 9 ∧ (lg_sl as).length ≤ am_ml m2 ∧ am_wt rest ≤ 8 ∧
    (mode = 1 → ∃ (a : Nat) (bs : List Value) (ci : Nat) (fs : List Value), as = .ref a :: bs ∧ (a, .inr (ci, fs)) ∈ ws ∧ am_ci m2 = ci) ∧
    (mode = 2 ∨ mode = 3 → ∃ (a : Nat) (bs : List Value), as = .ref a :: bs) ∧
    k + am_mc m2 ≤ am_mc m ∧ sl + am_ms m2 ≤ am_ms m ∧ am_F m2 + 1 ≤ am_F m ∧ 8 + (am_ml m2 + 11) + am_Lc m2 ≤ am_Lc m ∧
    Cl m2 as ws (fun r ws' => match r with
      | .inl v => K (pc + 3) l (v.toList ++ rest) (k + am_mc m2) (sl + am_ms m2) ws'
      | .inr j => am_thr K Q m pc l j (k + am_mc m2) (sl + am_ms m2) ws')
def am_dflt (ci : Nat) : List Value := am_D.getD ci []
def am_step (O : am_O) (X : Nat → ClassId) (K : am_K) (Cl : Nat → List Value → va_W → am_Q → Prop) (Q : am_Q) (m pc : Nat) (i : Instr) (ra rb : Nat) (l : am_L) (st : List Value) (k sl : Nat) (ws : va_W) : Prop :=
  match i with
  | .iconst n => K (pc + 1) l (.int (Int32.ofInt n) :: st) k sl ws
  | .bipush n => K (pc + 2) l (.int (Int8.ofInt n).toInt32 :: st) k sl ws
  | .sipush n => K (pc + 3) l (.int (Int16.ofInt n).toInt32 :: st) k sl ws
  | .lconst n => K (pc + 1) l (.long (Int64.ofNat n) :: st) k sl ws
  | .aconst_null => K (pc + 1) l (.null :: st) k sl ws
  | .ldc _ => K (pc + 2) l (.int (Int32.ofNat ra) :: st) k sl ws
  | .ldc_w _ => K (pc + 3) l (.int (Int32.ofNat ra) :: st) k sl ws
  | .ldc2_w _ => K (pc + 3) l (.long (Int64.ofNat ra) :: st) k sl ws
  | .iload_n j => ∃ x : Int32, (j.val, .int x) ∈ l ∧ K (pc + 1) l (.int x :: st) k sl ws
  | .iload j => ∃ x : Int32, (j, .int x) ∈ l ∧ K (pc + 2) l (.int x :: st) k sl ws
  | .lload_n j => ∃ x : Int64, (j.val, .long x) ∈ l ∧ K (pc + 1) l (.long x :: st) k sl ws
  | .lload j => ∃ x : Int64, (j, .long x) ∈ l ∧ K (pc + 2) l (.long x :: st) k sl ws
  | .aload_n j => ∃ x : Option Nat, (j.val, va_rf x) ∈ l ∧ K (pc + 1) l (va_rf x :: st) k sl ws
  | .aload j => ∃ x : Option Nat, (j, va_rf x) ∈ l ∧ K (pc + 2) l (va_rf x :: st) k sl ws
  | .istore_n j => ∃ (x : Int32) (r : List Value), st = .int x :: r ∧ j.val < am_ml m ∧ K (pc + 1) (am_put1 l j.val (.int x)) r k sl ws
  | .istore j => ∃ (x : Int32) (r : List Value), st = .int x :: r ∧ j < am_ml m ∧ K (pc + 2) (am_put1 l j (.int x)) r k sl ws
  | .lstore_n j => ∃ (x : Int64) (r : List Value), st = .long x :: r ∧ j.val + 1 < am_ml m ∧ K (pc + 1) (am_put2 l j.val (.long x)) r k sl ws
  | .lstore j => ∃ (x : Int64) (r : List Value), st = .long x :: r ∧ j + 1 < am_ml m ∧ K (pc + 2) (am_put2 l j (.long x)) r k sl ws
  | .astore_n j => ∃ (x : Option Nat) (r : List Value), st = va_rf x :: r ∧ j.val < am_ml m ∧ K (pc + 1) (am_put1 l j.val (va_rf x)) r k sl ws
  | .astore j => ∃ (x : Option Nat) (r : List Value), st = va_rf x :: r ∧ j < am_ml m ∧ K (pc + 2) (am_put1 l j (va_rf x)) r k sl ws
  | .iinc j n => ∃ x : Int32, (j, .int x) ∈ l ∧ K (pc + 3) (am_put1 l j (.int (x + Int32.ofInt n))) st k sl ws
  | .iadd | .isub | .imul | .iand | .ior | .ixor | .ishl | .ishr | .iushr | .idiv | .irem => ∃ (x y z : Int32) (r : List Value), st = .int y :: .int x :: r ∧ am_ib i x y = some z ∧ K (pc + 1) l (.int z :: r) k sl ws
  | .ladd | .lsub | .lmul | .ldiv => ∃ (x y z : Int64) (r : List Value), st = .long y :: .long x :: r ∧ am_lb i x y = some z ∧ K (pc + 1) l (.long z :: r) k sl ws
  | .lshl => ∃ (x : Int64) (y : Int32) (r : List Value), st = .int y :: .long x :: r ∧ K (pc + 1) l (.long (x <<< (y.toInt64 &&& 63)) :: r) k sl ws
  | .i2l => ∃ (x : Int32) (r : List Value), st = .int x :: r ∧ K (pc + 1) l (.long x.toInt64 :: r) k sl ws
  | .l2i => ∃ (x : Int64) (r : List Value), st = .long x :: r ∧ K (pc + 1) l (.int x.toInt32 :: r) k sl ws
  | .lcmp => ∃ (x y : Int64) (r : List Value), st = .long y :: .long x :: r ∧ K (pc + 1) l (.int (lg_cmp x y) :: r) k sl ws
  | .ifCond c _ => ∃ (x : Int32) (r : List Value), st = .int x :: r ∧ (am_c c x 0 → K ra l r k sl ws) ∧ (¬ am_c c x 0 → K (pc + 3) l r k sl ws)
  | .if_icmp c _ => ∃ (x y : Int32) (r : List Value), st = .int y :: .int x :: r ∧ (am_c c x y → K ra l r k sl ws) ∧ (¬ am_c c x y → K (pc + 3) l r k sl ws)
  | .if_acmp .eq _ => ∃ (x y : Option Nat) (r : List Value), st = va_rf y :: va_rf x :: r ∧ (x = y → K ra l r k sl ws) ∧ (¬ x = y → K (pc + 3) l r k sl ws)
  | .goto _ => K ra l st k sl ws
  | .tableswitch d lo hi offs => ∃ (x : Int32) (r : List Value), st = .int x :: r ∧
      (x.toInt < lo ∨ hi < x.toInt → ∃ t : Nat, (pc : Int) + d = (t : Int) ∧ K t l r k sl ws) ∧
      (¬ x.toInt < lo → ¬ hi < x.toInt → ∃ (o : Int) (t : Nat), offs[(x.toInt - lo).toNat]? = some o ∧ (pc : Int) + o = (t : Int) ∧ K t l r k sl ws)
  | .getfield _ => ∃ (a : Nat) (r : List Value) (fs : List Value) (v : Value), st = .ref a :: r ∧ (a, .inr (ra, fs)) ∈ ws ∧ fs[rb]? = some v ∧ K (pc + 3) l (v :: r) k sl ws
  | .putfield _ => ∃ (v : Value) (a : Nat) (r : List Value) (q : Nat) (fs : List Value), st = v :: .ref a :: r ∧ ws[q]? = some (a, .inr (ra, fs)) ∧ rb < fs.length ∧ am_fit ra rb v = true ∧
      K (pc + 3) l r k sl (ws.set q (a, .inr (ra, fs.set rb v)))
  | .getstatic _ => K (pc + 3) l (.ref (O ra).1 :: st) k sl ws
  | .iaload => ∃ (j : Int32) (a : Nat) (r : List Value) (n : Nat) (f : Nat → Int32), st = .int j :: .ref a :: r ∧ am_rd O X ws a n f ∧ vp_in j n ∧ K (pc + 1) l (.int (f j.toNatClampNeg) :: r) k sl ws
  | .laload => ∃ (j : Int32) (a : Nat) (r : List Value) (n : Nat) (f : Nat → Int64), st = .int j :: .ref a :: r ∧ (a, .inl (X 1, n, .inr (.inl f))) ∈ ws ∧ vp_in j n ∧ K (pc + 1) l (.long (f j.toNatClampNeg) :: r) k sl ws
  | .aaload => ∃ (j : Int32) (a : Nat) (r : List Value) (x n : Nat) (f : Nat → Option Nat), st = .int j :: .ref a :: r ∧ (x = 2 ∨ x = 3) ∧ (a, .inl (X x, n, .inr (.inr (.inr (.inr f))))) ∈ ws ∧ vp_in j n ∧ K (pc + 1) l (va_rf (f j.toNatClampNeg) :: r) k sl ws
  | .iastore => ∃ (x j : Int32) (a : Nat) (r : List Value) (q n : Nat) (f : Nat → Int32), st = .int x :: .int j :: .ref a :: r ∧ ws[q]? = some (a, .inl (X 0, n, .inl f)) ∧ vp_in j n ∧
      K (pc + 1) l r k sl (ws.set q (a, .inl (X 0, n, .inl (upd f j.toNatClampNeg x))))
  | .lastore => ∃ (x : Int64) (j : Int32) (a : Nat) (r : List Value) (q n : Nat) (f : Nat → Int64), st = .long x :: .int j :: .ref a :: r ∧ ws[q]? = some (a, .inl (X 1, n, .inr (.inl f))) ∧ vp_in j n ∧
      K (pc + 1) l r k sl (ws.set q (a, .inl (X 1, n, .inr (.inl (vp_updL f j.toNatClampNeg x)))))
  | .aastore => ∃ (v : Nat) (j : Int32) (a : Nat) (r : List Value) (q x n ci : Nat) (vs : List Value) (f : Nat → Option Nat), st = .ref v :: .int j :: .ref a :: r ∧ ((x = 2 ∧ ci = 9) ∨ (x = 3 ∧ ci = 11)) ∧ (v, .inr (ci, vs)) ∈ ws ∧
      ws[q]? = some (a, .inl (X x, n, .inr (.inr (.inr (.inr f))))) ∧ vp_in j n ∧ K (pc + 1) l r k sl (ws.set q (a, .inl (X x, n, .inr (.inr (.inr (.inr (va_up f j.toNatClampNeg (some v))))))))
  | .arraylength => ∃ (a : Nat) (r : List Value) (n : Nat), st = .ref a :: r ∧ ((∃ (x : Nat) (z : (Nat → Int32) ⊕ (Nat → Int64) ⊕ (Nat → UInt32) ⊕ (Nat → UInt64) ⊕ (Nat → Option Nat)), x < 4 ∧ (a, .inl (X x, n, z)) ∈ ws) ∨ (∃ j f, j < 3 ∧ O j = (a, n, f)) ∨ (n = 0 ∧ a = (O 3).1)) ∧
      K (pc + 1) l (.int (Int32.ofNat n) :: r) k sl ws
  | .newarray .int => ∃ (n : Nat) (r : List Value), st = .int (nI n) :: r ∧ n ≤ 1000000 ∧ k + 1 ≤ am_mc m ∧ sl + n ≤ am_ms m ∧
      ∀ a, am_fresh ws a → K (pc + 2) l (.ref a :: r) (k + 1) (sl + n) (ws ++ [(a, .inl (X 0, n, .inl (fun _ => 0)))])
  | .newarray .long => ∃ (n : Nat) (r : List Value), st = .int (nI n) :: r ∧ n ≤ 1000000 ∧ k + 1 ≤ am_mc m ∧ sl + n ≤ am_ms m ∧
      ∀ a, am_fresh ws a → K (pc + 2) l (.ref a :: r) (k + 1) (sl + n) (ws ++ [(a, .inl (X 1, n, .inr (.inl (fun _ => 0))))])
  | .anewarray _ => ∃ (n : Nat) (r : List Value), st = .int (nI n) :: r ∧ (ra = 2 ∨ ra = 3) ∧ n ≤ 1000000 ∧ k + 1 ≤ am_mc m ∧ sl + n ≤ am_ms m ∧
      ∀ a, am_fresh ws a → K (pc + 3) l (.ref a :: r) (k + 1) (sl + n) (ws ++ [(a, .inl (X ra, n, .inr (.inr (.inr (.inr (fun _ => none))))))])
  | .new _ => if ra = 0 then st = [] ∧ k + 1 ≤ am_mc m ∧ sl + 6 ≤ am_ms m ∧ am_H.getD m [] = [] ∧ 5 < am_F m ∧ 81 ≤ am_Lc m ∧ Q (.inr rb) ws
      else k + 1 ≤ am_mc m ∧ sl + (am_dflt (ra - 1)).length ≤ am_ms m ∧ ∀ a, am_fresh ws a → K (pc + 3) l (.ref a :: st) (k + 1) (sl + (am_dflt (ra - 1)).length) (ws ++ [(a, .inr (ra - 1, am_dflt (ra - 1)))])
  | .dup => ∃ (v : Value) (r : List Value), st = v :: r ∧ v.category = 1 ∧ K (pc + 1) l (v :: v :: r) k sl ws
  | .dup_x1 => ∃ (v w : Value) (r : List Value), st = v :: w :: r ∧ v.category = 1 ∧ w.category = 1 ∧ K (pc + 1) l (v :: w :: v :: r) k sl ws
  | .dup2 => ∃ (v w : Value) (r : List Value), st = v :: w :: r ∧ v.category = 1 ∧ w.category = 1 ∧ K (pc + 1) l (v :: w :: v :: w :: r) k sl ws
  | .pop => ∃ (v : Value) (r : List Value), st = v :: r ∧ v.category = 1 ∧ K (pc + 1) l r k sl ws
  | .checkcast _ => ∃ (a : Nat) (r : List Value) (fs : List Value), st = .ref a :: r ∧ (a, .inr (ra, fs)) ∈ ws ∧ K (pc + 3) l (.ref a :: r) k sl ws
  | .invokespecial _ => if rb = 5 then ∃ (a : Nat) (r : List Value), st = .ref a :: r ∧ am_wt r + 12 ≤ am_Lc m ∧ 1 ≤ am_F m ∧ K (pc + 3) l r k sl ws else am_call K Cl Q m pc ra rb l st k sl ws
  | .invokevirtual _ => am_call K Cl Q m pc ra rb l st k sl ws
  | .invokestatic _ => if rb = 6 then
        ∃ (n a : Nat) (r : List Value) (c : Nat) (f : Nat → Option Nat), st = .int (nI n) :: .ref a :: r ∧ (a, .inl (X 3, c, .inr (.inr (.inr (.inr f))))) ∈ ws ∧ (∀ i, i < c → ∀ y, f i = some y → ∃ vs, (y, .inr (11, vs)) ∈ ws) ∧ c ≤ n ∧ n ≤ 1000000 ∧ am_wt r ≤ 8 ∧ k + 1 ≤ am_mc m ∧ sl + n ≤ am_ms m ∧ 6 ≤ am_F m ∧ 200 ≤ am_Lc m ∧
          ∀ b, am_fresh ws b → K (pc + 3) l (.ref b :: r) (k + 1) (sl + n) (ws ++ [(b, .inl (X 3, n, .inr (.inr (.inr (.inr (fun j => if j < c then f j else none))))))])
      else am_call K Cl Q m pc ra rb l st k sl ws
  | .ireturn => ∃ x : Int32, st = [.int x] ∧ (am_rk m = 1 ∨ am_rk m = 2 ∧ (x = 0 ∨ x = 1)) ∧ k ≤ am_mc m ∧ sl ≤ am_ms m ∧ Q (.inl (some (.int x))) ws
  | .areturn => ∃ x : Option Nat, st = [va_rf x] ∧ am_rk m = 3 ∧ k ≤ am_mc m ∧ sl ≤ am_ms m ∧ Q (.inl (some (va_rf x))) ws
  | .return_ => st = [] ∧ am_rk m = 0 ∧ k ≤ am_mc m ∧ sl ≤ am_ms m ∧ Q (.inl none) ws
  | _ => False
/-- one step, seen from a predicate: where it goes, 'P' holds; a call asks for P at the callee's start with an end that serves -/
def am_G (O : am_O) (X : Nat → ClassId) (P : am_P) (m pc : Nat) (l : am_L) (st : List Value) (k sl : Nat) (ws : va_W) (Q : am_Q) : Prop :=
  ∃ (K : am_K) (Cl : Nat → List Value → va_W → am_Q → Prop) (i : Instr) (len ra rb rw cu inf : Nat), (pc, i, len, ra, rb, rw, cu, inf) ∈ am_code m ∧ am_step O X K Cl Q m pc i ra rb l st k sl ws ∧
    (∀ pc' l' st' k' sl' ws', K pc' l' st' k' sl' ws' → P m pc' l' st' k' sl' ws' Q) ∧
    (∀ m2 as ws' Q', Cl m2 as ws' Q' → ∃ Q1 : am_Q, P m2 0 (lv_args 0 as) [] 0 0 ws' Q1 ∧ ∀ r w, Q1 r w → Q' r w)
/-- from here the method ends, in Q, and nothing goes wrong on the way: the least predicate that is closed under steps -/
def am_Safe (O : am_O) (X : Nat → ClassId) (m pc : Nat) (l : am_L) (st : List Value) (k sl : Nat) (ws : va_W) (Q : am_Q) : Prop :=
  ∀ P : am_P, (∀ m pc l st k sl ws Q, am_G O X P m pc l st k sl ws Q → P m pc l st k sl ws Q) → P m pc l st k sl ws Q
theorem am_intro {O : am_O} {X : Nat → ClassId} {m pc : Nat} {l : am_L} {st : List Value} {k sl : Nat} {ws : va_W} {Q : am_Q} (h : am_G O X (am_Safe O X) m pc l st k sl ws Q) : am_Safe O X m pc l st k sl ws Q := by
  intro P hP
  obtain ⟨K, Cl, i, len, ra, rb, rw, cu, inf, h1, h2, h3, h4⟩ := h
  refine hP _ _ _ _ _ _ _ _ ⟨K, Cl, i, len, ra, rb, rw, cu, inf, h1, h2, fun pc' l' st' k' sl' ws' hk => h3 _ _ _ _ _ _ hk P hP, fun m2 as ws' Q' hc => ?_⟩
  obtain ⟨Q1, a, b⟩ := h4 _ _ _ _ hc
  exact ⟨Q1, a P hP, b⟩
/-- a step by what it asks for -/
theorem am_go {O : am_O} {X : Nat → ClassId} {m pc : Nat} {l : am_L} {st : List Value} {k sl : Nat} {ws : va_W} {Q : am_Q} {i : Instr} {len ra rb rw cu inf : Nat} (h1 : (pc, i, len, ra, rb, rw, cu, inf) ∈ am_code m)
    (h2 : am_step O X (fun pc' l' st' k' sl' ws' => am_Safe O X m pc' l' st' k' sl' ws' Q) (fun m2 as ws' Q' => ∃ Q1 : am_Q, am_Safe O X m2 0 (lv_args 0 as) [] 0 0 ws' Q1 ∧ ∀ r w, Q1 r w → Q' r w) Q m pc i ra rb l st k sl ws) : am_Safe O X m pc l st k sl ws Q :=
  am_intro ⟨_, _, i, len, ra, rb, rw, cu, inf, h1, h2, fun _ _ _ _ _ _ hk => hk, fun _ _ _ _ hc => hc⟩
