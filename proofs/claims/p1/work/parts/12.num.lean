/-! THE CHECKER'S NUMBERS say the truth of the machine's. -/
theorem an_i32 (x : Int32) : an_MN ≤ x.toInt ∧ x.toInt ≤ an_MX := ⟨x.le_toInt, by have := x.toInt_lt; simp only [an_MX]; omega⟩
theorem an_i64 (x : Int64) : an_LN ≤ x.toInt ∧ x.toInt ≤ an_LX := ⟨x.le_toInt, by have := x.toInt_lt; simp only [an_LX]; omega⟩
theorem an_i32L (x : Int32) : an_LN ≤ x.toInt ∧ x.toInt ≤ an_LX := by
  have := an_i32 x
  simp only [an_MN, an_MX] at this
  simp only [an_LN, an_LX]
  omega
theorem an_bm {n : Int} (h1 : an_MN ≤ n) (h2 : n ≤ an_MX) : n.bmod (2 ^ 32) = n := by
  simp only [an_MN, an_MX] at h1 h2
  exact Int.bmod_eq_of_le (by simp; omega) (by simp; omega)
theorem an_bm64 {n : Int} (h1 : an_LN ≤ n) (h2 : n ≤ an_LX) : n.bmod (2 ^ 64) = n := by
  simp only [an_LN, an_LX] at h1 h2
  exact Int.bmod_eq_of_le (by simp; omega) (by simp; omega)
theorem an_addI {x y : Int32} (h1 : an_MN ≤ x.toInt + y.toInt) (h2 : x.toInt + y.toInt ≤ an_MX) : (x + y).toInt = x.toInt + y.toInt := by rw [Int32.toInt_add, an_bm h1 h2]
theorem an_subI {x y : Int32} (h1 : an_MN ≤ x.toInt - y.toInt) (h2 : x.toInt - y.toInt ≤ an_MX) : (x - y).toInt = x.toInt - y.toInt := by rw [Int32.toInt_sub, an_bm h1 h2]
theorem an_mulI {x y : Int32} (h1 : an_MN ≤ x.toInt * y.toInt) (h2 : x.toInt * y.toInt ≤ an_MX) : (x * y).toInt = x.toInt * y.toInt := by rw [Int32.toInt_mul, an_bm h1 h2]
theorem an_ofI {n : Int} (h1 : an_MN ≤ n) (h2 : n ≤ an_MX) : (Int32.ofInt n).toInt = n := by rw [Int32.toInt_ofInt, an_bm h1 h2]
theorem an_ofT (x : Int32) : Int32.ofInt x.toInt = x := by simp
theorem an_tdle {a c : Int} (hc : 1 ≤ c) : -(if 0 ≤ a then a else -a) ≤ a.tdiv c ∧ a.tdiv c ≤ (if 0 ≤ a then a else -a) := by
  by_cases h : 0 ≤ a
  · rw [if_pos h, Int.tdiv_eq_ediv_of_nonneg h]
    have h1 := Int.ediv_nonneg h (by omega : (0:Int) ≤ c)
    have h2 := Int.ediv_le_self (b := c) h
    omega
  · rw [if_neg h]
    have e : a.tdiv c = -((-a).tdiv c) := by rw [Int.neg_tdiv]; simp
    rw [e, Int.tdiv_eq_ediv_of_nonneg (by omega)]
    have h1 := Int.ediv_nonneg (by omega : (0:Int) ≤ -a) (by omega : (0:Int) ≤ c)
    have h2 := Int.ediv_le_self (a := -a) (b := c) (by omega)
    omega
theorem an_divI {x y : Int32} (hy : 1 ≤ y.toInt) : (x / y).toInt = x.toInt.tdiv y.toInt := by
  have h1 := an_i32 x
  have h := an_tdle (a := x.toInt) hy
  rw [Int32.toInt_div]
  refine an_bm ?_ ?_
  · simp only [an_MN, an_MX] at *
    split at h <;> omega
  · by_cases h0 : 0 ≤ x.toInt
    · rw [if_pos h0] at h; omega
    · have e : x.toInt.tdiv y.toInt ≤ 0 := by
        have e2 : x.toInt.tdiv y.toInt = -((-x.toInt).tdiv y.toInt) := by rw [Int.neg_tdiv]; simp
        rw [e2, Int.tdiv_eq_ediv_of_nonneg (by omega)]
        have := Int.ediv_nonneg (by omega : (0:Int) ≤ -x.toInt) (by omega : (0:Int) ≤ y.toInt)
        omega
      simp only [an_MX]; omega
theorem an_divL {x y : Int64} (hy : 1 ≤ y.toInt) : (x / y).toInt = x.toInt.tdiv y.toInt := by
  have h1 := an_i64 x
  have h := an_tdle (a := x.toInt) hy
  rw [Int64.toInt_div]
  refine an_bm64 ?_ ?_
  · simp only [an_LN, an_LX] at *
    split at h <;> omega
  · by_cases h0 : 0 ≤ x.toInt
    · rw [if_pos h0] at h; omega
    · have e : x.toInt.tdiv y.toInt ≤ 0 := by
        have e2 : x.toInt.tdiv y.toInt = -((-x.toInt).tdiv y.toInt) := by rw [Int.neg_tdiv]; simp
        rw [e2, Int.tdiv_eq_ediv_of_nonneg (by omega)]
        have := Int.ediv_nonneg (by omega : (0:Int) ≤ -x.toInt) (by omega : (0:Int) ≤ y.toInt)
        omega
      simp only [an_LX]; omega
/-- the quotient lies between those of the bounds -/
theorem an_tdmono {a b c : Int} (h : a ≤ b) (hc : 1 ≤ c) : a.tdiv c ≤ b.tdiv c := by
  by_cases ha : 0 ≤ a
  · rw [Int.tdiv_eq_ediv_of_nonneg ha, Int.tdiv_eq_ediv_of_nonneg (by omega)]
    exact Int.ediv_le_ediv (by omega) h
  · have ea : a.tdiv c = -((-a).tdiv c) := by rw [Int.neg_tdiv]; simp
    have h1 : (0:Int) ≤ (-a).tdiv c := by rw [Int.tdiv_eq_ediv_of_nonneg (by omega)]; exact Int.ediv_nonneg (by omega) (by omega)
    by_cases hb : 0 ≤ b
    · have h2 : (0:Int) ≤ b.tdiv c := by rw [Int.tdiv_eq_ediv_of_nonneg hb]; exact Int.ediv_nonneg hb (by omega)
      omega
    · have eb : b.tdiv c = -((-b).tdiv c) := by rw [Int.neg_tdiv]; simp
      rw [ea, eb, Int.tdiv_eq_ediv_of_nonneg (by omega : (0:Int) ≤ -a), Int.tdiv_eq_ediv_of_nonneg (by omega : (0:Int) ≤ -b)]
      have := Int.ediv_le_ediv (by omega : (0:Int) < c) (by omega : -b ≤ -a)
      omega
theorem an_tdanti {a c d : Int} (ha : 0 ≤ a) (hc : 1 ≤ c) (h : c ≤ d) : a.tdiv d ≤ a.tdiv c := by
  rw [Int.tdiv_eq_ediv_of_nonneg ha, Int.tdiv_eq_ediv_of_nonneg ha]
  have h1 : a / d * d ≤ a := Int.ediv_mul_le a (by omega)
  have h2 : (0:Int) ≤ a / d := Int.ediv_nonneg ha (by omega)
  refine (Int.le_ediv_iff_mul_le (by omega)).mpr ?_
  have : a / d * c ≤ a / d * d := Int.mul_le_mul_of_nonneg_left h h2
  omega
theorem an_tdbd {x y a b c d : Int} (hc : 1 ≤ c) (h1 : a ≤ x) (h2 : x ≤ b) (h3 : c ≤ y) (h4 : y ≤ d) : (if a < 0 then a.tdiv c else a.tdiv d) ≤ x.tdiv y ∧ x.tdiv y ≤ (if 0 ≤ b then b.tdiv c else b.tdiv d) := by
  have neg : ∀ (u v w : Int), u < 0 → 1 ≤ v → v ≤ w → u.tdiv v ≤ u.tdiv w := by
    intro u v w hu hv hw
    have e1 : u.tdiv v = -((-u).tdiv v) := by rw [Int.neg_tdiv]; simp
    have e2 : u.tdiv w = -((-u).tdiv w) := by rw [Int.neg_tdiv]; simp
    have := an_tdanti (a := -u) (by omega) hv hw
    omega
  constructor
  · split
    · rename_i ha
      exact Int.le_trans (neg a c y ha hc h3) (an_tdmono h1 (by omega))
    · exact Int.le_trans (an_tdanti (by omega) (by omega) h4) (an_tdmono h1 (by omega))
  · split
    · rename_i hb
      exact Int.le_trans (an_tdmono h2 (by omega)) (an_tdanti hb hc h3)
    · exact Int.le_trans (an_tdmono h2 (by omega)) (neg b y d (by omega) (by omega) h4)
theorem an_mulbd {x y a b c d : Int} (h1 : a ≤ x) (h2 : x ≤ b) (h3 : c ≤ y) (h4 : y ≤ d) : min (min (a * c) (a * d)) (min (b * c) (b * d)) ≤ x * y ∧ x * y ≤ max (max (a * c) (a * d)) (max (b * c) (b * d)) := by
  have key : ∀ (u l h t : Int), l ≤ t → t ≤ h → (u * l ≤ u * t ∧ u * t ≤ u * h) ∨ (u * h ≤ u * t ∧ u * t ≤ u * l) := by
    intro u l h t hl hh
    by_cases hu : 0 ≤ u
    · exact Or.inl ⟨Int.mul_le_mul_of_nonneg_left hl hu, Int.mul_le_mul_of_nonneg_left hh hu⟩
    · exact Or.inr ⟨Int.mul_le_mul_of_nonpos_left (by omega) hh, Int.mul_le_mul_of_nonpos_left (by omega) hl⟩
  have k1 := key y a b x h1 h2
  rw [Int.mul_comm y a, Int.mul_comm y b, Int.mul_comm y x] at k1
  have k2 := key a c d y h3 h4
  have k3 := key b c d y h3 h4
  omega
theorem an_nn {x : Int32} (h : 0 ≤ x.toInt) : x.toInt = (x.toBitVec.toNat : Int) ∧ x.toBitVec.toNat < 2147483648 := by
  have e : x.toInt = x.toBitVec.toInt := rfl
  rw [e] at h ⊢
  have h2 := BitVec.toInt_eq_toNat_cond x.toBitVec
  have h3 := x.toBitVec.isLt
  rw [h2] at h ⊢
  split at h
  · rename_i hc
    rw [if_pos hc]
    exact ⟨rfl, by omega⟩
  · omega
theorem an_ofnn {x : Int32} {n : Nat} (h : x.toBitVec.toNat = n) (hn : n < 2147483648) : x.toInt = (n : Int) := by
  have e : x.toInt = x.toBitVec.toInt := rfl
  rw [e, BitVec.toInt_eq_toNat_cond, h, if_pos (by omega)]
theorem an_andI {x y : Int32} (h : 0 ≤ x.toInt) : 0 ≤ (x &&& y).toInt ∧ (x &&& y).toInt ≤ x.toInt := by
  obtain ⟨h1, h2⟩ := an_nn h
  have e : (x &&& y).toBitVec.toNat = x.toBitVec.toNat &&& y.toBitVec.toNat := by rw [Int32.toBitVec_and, BitVec.toNat_and]
  have l := Nat.and_le_left (n := x.toBitVec.toNat) (m := y.toBitVec.toNat)
  rw [an_ofnn e (by omega), h1]
  omega
theorem an_andC (x y : Int32) : x &&& y = y &&& x := Int32.and_comm x y
theorem an_pwI {h : Int} : ∀ (n k : Nat), n + k = 31 → h < 2147483648 → ∃ m, an_pw h n k = 2 ^ m ∧ m ≤ 31 ∧ h < 2 ^ m := by
  intro n
  induction n with
  | zero => intro k hk hh; exact ⟨31, rfl, Nat.le_refl _, hh⟩
  | succ n ih =>
    intro k hk hh
    simp only [an_pw]
    split
    · exact ⟨k, rfl, by omega, by assumption⟩
    · exact ih (k + 1) (by omega) hh
theorem an_pwB {h : Int} (hb : ¬ h < 2147483648) : ∀ (n k : Nat), n + k = 31 → an_pw h n k = 2147483648 := by
  intro n
  induction n with
  | zero => intro k _; rfl
  | succ n ih =>
    intro k hk
    simp only [an_pw]
    rw [if_neg]
    · exact ih (k + 1) (by omega)
    · have h1 : (2 : Nat) ^ k ≤ 2 ^ 31 := Nat.pow_le_pow_right (by decide) (by omega)
      have p1 : ((2 ^ k : Nat) : Int) = (2 : Int) ^ k := by push_cast; rfl
      have p3 : (2 : Nat) ^ 31 = 2147483648 := by decide
      omega
theorem an_natlt {n m : Nat} {x : Int} (h : x = (n : Int)) (h2 : x < 2 ^ m) : n < 2 ^ m := by
  have : ((2 ^ m : Nat) : Int) = (2 : Int) ^ m := by push_cast; rfl
  omega
theorem an_orI {x y : Int32} {b d : Int} (hx : 0 ≤ x.toInt) (hy : 0 ≤ y.toInt) (hb : x.toInt ≤ b) (hd : y.toInt ≤ d) (hbd : max b d < 2147483648) :
    (0 ≤ (x ||| y).toInt ∧ (x ||| y).toInt ≤ an_pw (max b d) 31 0 - 1) ∧ (0 ≤ (x ^^^ y).toInt ∧ (x ^^^ y).toInt ≤ an_pw (max b d) 31 0 - 1) := by
  obtain ⟨m, hm, hm2, hm3⟩ := an_pwI (h := max b d) 31 0 rfl hbd
  obtain ⟨h1, h2⟩ := an_nn hx
  obtain ⟨g1, g2⟩ := an_nn hy
  have l1 : x.toBitVec.toNat < 2 ^ m := an_natlt h1 (by omega)
  have l2 : y.toBitVec.toNat < 2 ^ m := an_natlt g1 (by omega)
  have p : (2 : Nat) ^ m ≤ 2 ^ 31 := Nat.pow_le_pow_right (by decide) hm2
  have p2 : ((2 ^ m : Nat) : Int) = (2 : Int) ^ m := by push_cast; rfl
  have e1 : (x ||| y).toBitVec.toNat = x.toBitVec.toNat ||| y.toBitVec.toNat := by rw [Int32.toBitVec_or, BitVec.toNat_or]
  have e2 : (x ^^^ y).toBitVec.toNat = x.toBitVec.toNat ^^^ y.toBitVec.toNat := by rw [Int32.toBitVec_xor, BitVec.toNat_xor]
  have o1 := Nat.or_lt_two_pow l1 l2
  have o2 := Nat.xor_lt_two_pow l1 l2
  have p3 : (2 : Nat) ^ 31 = 2147483648 := by decide
  rw [hm, an_ofnn e1 (by omega), an_ofnn e2 (by omega)]
  omega
theorem an_orL {x y : Int32} (hx : 0 ≤ x.toInt) (hy : 0 ≤ y.toInt) : x.toInt ≤ (x ||| y).toInt ∧ y.toInt ≤ (x ||| y).toInt := by
  obtain ⟨h1, h2⟩ := an_nn hx
  obtain ⟨g1, g2⟩ := an_nn hy
  have e1 : (x ||| y).toBitVec.toNat = x.toBitVec.toNat ||| y.toBitVec.toNat := by rw [Int32.toBitVec_or, BitVec.toNat_or]
  have p3 : (2 : Nat) ^ 31 = 2147483648 := by decide
  have l1 : x.toBitVec.toNat < 2 ^ 31 := by omega
  have l2 : y.toBitVec.toNat < 2 ^ 31 := by omega
  have o1 := Nat.or_lt_two_pow l1 l2
  have m1 : x.toBitVec.toNat ≤ x.toBitVec.toNat ||| y.toBitVec.toNat := Nat.left_le_or
  have m2 : y.toBitVec.toNat ≤ x.toBitVec.toNat ||| y.toBitVec.toNat := Nat.right_le_or
  rw [an_ofnn e1 (by omega)]
  omega
theorem an_shl1 : ∀ l, l < 31 → ((1 : Int32) <<< (nI l &&& 31)).toInt = 2 ^ l := by decide +kernel
theorem an_shl1L : ∀ l, l < 63 → ((1 : Int64) <<< ((nI l).toInt64 &&& 63)).toInt = 2 ^ l := by decide +kernel
theorem an_nIof {x : Int32} (h : 0 ≤ x.toInt) : ∃ n : Nat, x = nI n ∧ x.toInt = (n : Int) ∧ n < 2147483648 := by
  obtain ⟨h1, h2⟩ := an_nn h
  refine ⟨x.toBitVec.toNat, Int32.toBitVec_inj.mp ?_, h1, h2⟩
  show _ = BitVec.ofNat 32 _
  simp
theorem an_pmono {a b : Nat} (h : a ≤ b) : (2 : Int) ^ a ≤ 2 ^ b := by
  have h1 : (2 : Nat) ^ a ≤ 2 ^ b := Nat.pow_le_pow_right (by decide) h
  have p1 : ((2 ^ a : Nat) : Int) = (2 : Int) ^ a := by push_cast; rfl
  have p2 : ((2 ^ b : Nat) : Int) = (2 : Int) ^ b := by push_cast; rfl
  omega
theorem an_smod : ∀ n, n < 32 → ((nI n &&& 31).toBitVec.smod 32).toNat = n := by decide +kernel
theorem an_umod : ∀ n, n < 32 → (((nI n).toUInt32 &&& Int32.toUInt32 31).toBitVec % 32).toNat = n := by decide +kernel
theorem an_ssh {w v : Nat} (x : BitVec w) (y : BitVec v) : BitVec.sshiftRight' x y = x.sshiftRight y.toNat := rfl
theorem an_shrI {x : Int32} {n : Nat} (hn : n < 32) : (x >>> (nI n &&& 31)).toInt = x.toInt / 2 ^ n := by
  show (BitVec.sshiftRight' x.toBitVec ((nI n &&& 31).toBitVec.smod 32)).toInt = _
  rw [an_ssh, an_smod n hn, BitVec.toInt_sshiftRight, Int.shiftRight_eq_div_pow]
  rfl
theorem an_ushrI {x : Int32} {n : Nat} (hn : n < 32) (hx : 0 ≤ x.toInt) : ((x.toUInt32 >>> ((nI n).toUInt32 &&& Int32.toUInt32 31)).toInt32).toInt = x.toInt / 2 ^ n := by
  obtain ⟨h1, h2⟩ := an_nn hx
  have e : ((x.toUInt32 >>> ((nI n).toUInt32 &&& Int32.toUInt32 31)).toInt32).toBitVec.toNat = x.toBitVec.toNat / 2 ^ n := by
    show (x.toBitVec >>> (((nI n).toUInt32 &&& Int32.toUInt32 31).toBitVec % 32)).toNat = _
    rw [BitVec.ushiftRight_eq', an_umod n hn, BitVec.toNat_ushiftRight, Nat.shiftRight_eq_div_pow]
  have l : x.toBitVec.toNat / 2 ^ n ≤ x.toBitVec.toNat := Nat.div_le_self _ _
  rw [an_ofnn e (by omega), h1]
  push_cast
  rfl
theorem an_ushrB {x : Int32} {n : Nat} (hn : n < 32) (h0 : 1 ≤ n) : 0 ≤ ((x.toUInt32 >>> ((nI n).toUInt32 &&& Int32.toUInt32 31)).toInt32).toInt ∧ ((x.toUInt32 >>> ((nI n).toUInt32 &&& Int32.toUInt32 31)).toInt32).toInt ≤ 2 ^ (32 - n) - 1 := by
  have e : ((x.toUInt32 >>> ((nI n).toUInt32 &&& Int32.toUInt32 31)).toInt32).toBitVec.toNat = x.toBitVec.toNat / 2 ^ n := by
    show (x.toBitVec >>> (((nI n).toUInt32 &&& Int32.toUInt32 31).toBitVec % 32)).toNat = _
    rw [BitVec.ushiftRight_eq', an_umod n hn, BitVec.toNat_ushiftRight, Nat.shiftRight_eq_div_pow]
  have l : x.toBitVec.toNat / 2 ^ n < 2 ^ (32 - n) := by
    rw [Nat.div_lt_iff_lt_mul (Nat.two_pow_pos n), ← Nat.pow_add]
    have : 32 - n + n = 32 := by omega
    rw [this]
    exact x.toBitVec.isLt
  have p : (2 : Nat) ^ (32 - n) ≤ 2 ^ 31 := Nat.pow_le_pow_right (by decide) (by omega)
  have p3 : (2 : Nat) ^ 31 = 2147483648 := by decide
  have p2 : ((2 ^ (32 - n) : Nat) : Int) = (2 : Int) ^ (32 - n) := by push_cast; rfl
  rw [an_ofnn e (by omega)]
  omega
theorem an_shrA {x y : Int32} (h : 0 ≤ x.toInt) : 0 ≤ (x >>> (y &&& 31)).toInt ∧ (x >>> (y &&& 31)).toInt ≤ x.toInt := by
  show 0 ≤ (BitVec.sshiftRight' x.toBitVec ((y &&& 31).toBitVec.smod 32)).toInt ∧ (BitVec.sshiftRight' x.toBitVec ((y &&& 31).toBitVec.smod 32)).toInt ≤ x.toBitVec.toInt
  rw [an_ssh, BitVec.toInt_sshiftRight, Int.shiftRight_eq_div_pow]
  have h0 : 0 ≤ x.toBitVec.toInt := h
  have p : (0 : Int) < ((2 ^ ((y &&& 31).toBitVec.smod 32).toNat : Nat) : Int) := by exact_mod_cast Nat.two_pow_pos _
  exact ⟨Int.ediv_nonneg h0 (by omega), Int.ediv_le_self _ h0⟩
theorem an_ushrA {x y : Int32} (h : 0 ≤ x.toInt) : 0 ≤ ((x.toUInt32 >>> (y.toUInt32 &&& Int32.toUInt32 31)).toInt32).toInt ∧ ((x.toUInt32 >>> (y.toUInt32 &&& Int32.toUInt32 31)).toInt32).toInt ≤ x.toInt := by
  obtain ⟨h1, h2⟩ := an_nn h
  have e : ((x.toUInt32 >>> (y.toUInt32 &&& Int32.toUInt32 31)).toInt32).toBitVec.toNat = x.toBitVec.toNat / 2 ^ ((y.toUInt32 &&& Int32.toUInt32 31).toBitVec % 32).toNat := by
    show (x.toBitVec >>> ((y.toUInt32 &&& Int32.toUInt32 31).toBitVec % 32)).toNat = _
    rw [BitVec.ushiftRight_eq', BitVec.toNat_ushiftRight, Nat.shiftRight_eq_div_pow]
  have l : x.toBitVec.toNat / 2 ^ ((y.toUInt32 &&& Int32.toUInt32 31).toBitVec % 32).toNat ≤ x.toBitVec.toNat := Nat.div_le_self _ _
  rw [an_ofnn e (by omega), h1]
  omega
