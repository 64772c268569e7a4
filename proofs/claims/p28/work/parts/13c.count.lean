/-! COUNTING: ticks by what was busy, and at once. -/
def ch_cnt (p : Nat → Bool) : Nat → Nat
  | 0 => 0
  | n + 1 => ch_cnt p n + (if p n then 1 else 0)
def ch_sum (g : Nat → Nat) : Nat → Nat
  | 0 => 0
  | b + 1 => ch_sum g b + g b
theorem ch_sum_add (g h : Nat → Nat) : ∀ m, ch_sum (fun b => g b + h b) m = ch_sum g m + ch_sum h m := by
  intro m
  induction m with
  | zero => rfl
  | succ m ih => simp only [ch_sum, ih]; omega
theorem ch_sum_ext {g h : Nat → Nat} : ∀ m, (∀ b, b < m → g b = h b) → ch_sum g m = ch_sum h m := by
  intro m
  induction m with
  | zero => intro _; rfl
  | succ m ih =>
    intro hb
    simp only [ch_sum]
    rw [ih (fun b h => hb b (by omega)), hb m (by omega)]
theorem ch_sum_one (k c : Nat) : ∀ m, ch_sum (fun b => if b = k then c else 0) m = if k < m then c else 0 := by
  intro m
  induction m with
  | zero => simp [ch_sum]
  | succ m ih =>
    simp only [ch_sum, ih]
    by_cases h1 : k < m
    · rw [if_pos h1, if_neg (show ¬ m = k by omega), if_pos (show k < m + 1 by omega), Nat.add_zero]
    · rw [if_neg h1]
      by_cases h2 : m = k
      · rw [if_pos h2, if_pos (by omega)]; omega
      · rw [if_neg h2, if_neg (by omega)]
theorem ch_cnt_le (p : Nat → Bool) : ∀ n, ch_cnt p n ≤ n := by
  intro n
  induction n with
  | zero => exact Nat.le_refl _
  | succ n ih => simp only [ch_cnt]; split <;> omega
theorem ch_key {f : Nat → Nat} (H : Nat → Bool) (hf : ∀ t, f t < 16) : ∀ n, ch_sum (fun b => if H b then ch_cnt (fun t => f t == b) n else 0) 16 = ch_cnt (fun t => H (f t)) n := by
  intro n
  induction n with
  | zero =>
    have : ∀ m, ch_sum (fun b => if H b then ch_cnt (fun t => f t == b) 0 else 0) m = 0 := by
      intro m
      induction m with
      | zero => rfl
      | succ m ih =>
        show ch_sum (fun b => if H b = true then ch_cnt (fun t => f t == b) 0 else 0) m + (if H m = true then ch_cnt (fun t => f t == m) 0 else 0) = 0
        rw [ih]
        split <;> rfl
    exact this 16
  | succ n ih =>
    have h1 : ∀ b, (if H b then ch_cnt (fun t => f t == b) (n + 1) else 0) = (if H b then ch_cnt (fun t => f t == b) n else 0) + (if b = f n then (if H (f n) then 1 else 0) else 0) := by
      intro b
      simp only [ch_cnt]
      by_cases hb : b = f n
      · subst hb
        rw [if_pos rfl]
        by_cases hh : H (f n) = true
        · rw [if_pos hh, if_pos hh, if_pos hh, if_pos (by simp)]
        · rw [if_neg hh, if_neg hh, if_neg hh]
      · rw [if_neg hb, Nat.add_zero]
        by_cases hh : H b = true
        · rw [if_pos hh, if_pos hh, if_neg (by simp only [beq_iff_eq]; exact fun q => hb q.symm), Nat.add_zero]
        · rw [if_neg hh, if_neg hh]
    rw [ch_sum_ext 16 (fun b _ => h1 b), ch_sum_add, ih, ch_sum_one, if_pos (hf n)]
    simp only [ch_cnt]
/-! what the methods compute -/
def ck_bi (b : Bool) : Int32 := if b then Int32.ofInt 1 else Int32.ofInt 0
def ck_in (p g h : Int32) : Bool := decide (g.toInt ≤ p.toInt) && decide (p.toInt < (g + h).toInt)
/-- READER i is BUSY at a place of the FRAME -/
def ck_bb (w : Nat) (p : Int32) (u v : Nat → Int32) (i : Nat) : Bool := w.testBit i && ck_in p (u i) (v i)
def ck_pl (F : Int32) (t : Nat) : Int32 := nI t - nI t / F * F
def ck_bs (F : Int32) (w : Nat) (u v : Nat → Int32) (t i : Nat) : Bool := decide (0 < F.toInt) && ck_bb w (ck_pl F t) u v i
def ck_mask (B : Nat → Bool) : Nat := (if B 0 then 1 else 0) + (if B 1 then 2 else 0) + (if B 2 then 4 else 0) + (if B 3 then 8 else 0)
def ck_ms (F : Int32) (w : Nat) (u v : Nat → Int32) (t : Nat) : Nat := ck_mask (ck_bs F w u v t)
def ck_ow (r : Nat) : Int32 := Int32.ofInt 1 <<< (nI r &&& 31)
def ck_hh (wd r b : Nat) : Bool := !decide (nI wd &&& ck_ow r = 0) && decide (nI wd &&& nI b &&& (ck_ow r ^^^ Int32.ofInt (-1)) = 0)
def ck_A (F : Int32) (w : Nat) (u v : Nat → Int32) (wd r t o : Nat) : Bool := decide (o = r) || (!(wd.testBit o) || !(ck_bs F w u v t o))
def ck_al (A : Nat → Bool) : Nat → Nat → Bool
  | 0, _ => true
  | n + 1, o => A o && ck_al A n (o + 1)
/-- the TAG hears READER r in tick t, as the reference says it -/
def ck_hm (F : Int32) (w : Nat) (u v : Nat → Int32) (wd r t : Nat) : Bool := w.testBit r && (wd.testBit r && ck_al (ck_A F w u v wd r t) 4 0)
/-- so many ticks -/
def ck_n (F : Int32) : Nat := (max 1 F.toInt).toNat
def ck_cb (F : Int32) (w : Nat) (u v : Nat → Int32) (n b : Nat) : Nat := ch_cnt (fun s => ck_ms F w u v s == b) n
def ck_ch (F : Int32) (w : Nat) (u v : Nat → Int32) (wd r : Nat) : Nat := ch_cnt (fun s => ck_hm F w u v wd r s) (ck_n F)
theorem ck_mask_lt (B : Nat → Bool) : ck_mask B < 16 := by
  unfold ck_mask
  split <;> split <;> split <;> split <;> omega
theorem ck_ms_lt (F : Int32) (w : Nat) (u v : Nat → Int32) (t : Nat) : ck_ms F w u v t < 16 := ck_mask_lt _
set_option maxRecDepth 100000 in
theorem ck_eqF : ∀ (wd : Fin 16) (r : Fin 4) (b0 b1 b2 b3 : Bool), ck_hh wd.val r.val ((if b0 then 1 else 0) + (if b1 then 2 else 0) + (if b2 then 4 else 0) + (if b3 then 8 else 0)) = (wd.val.testBit r.val && ((decide (0 = r.val) || (!(wd.val.testBit 0) || !b0)) && ((decide (1 = r.val) || (!(wd.val.testBit 1) || !b1)) && ((decide (2 = r.val) || (!(wd.val.testBit 2) || !b2)) && ((decide (3 = r.val) || (!(wd.val.testBit 3) || !b3)) && true))))) := by decide +kernel
theorem ck_eq {F : Int32} {w wd r t : Nat} {u v : Nat → Int32} (h1 : wd < 16) (h2 : r < 4) : (w.testBit r && ck_hh wd r (ck_ms F w u v t)) = ck_hm F w u v wd r t := by
  have h := ck_eqF ⟨wd, h1⟩ ⟨r, h2⟩ (ck_bs F w u v t 0) (ck_bs F w u v t 1) (ck_bs F w u v t 2) (ck_bs F w u v t 3)
  have h3 : ck_hh wd r (ck_ms F w u v t) = (wd.testBit r && ck_al (ck_A F w u v wd r t) 4 0) := h
  rw [h3]
  rfl
theorem ck_tot {F : Int32} {w wd r : Nat} {u v : Nat → Int32} (h1 : wd < 16) (h2 : r < 4) : ch_sum (fun b => if (w.testBit r && ck_hh wd r b) then ck_cb F w u v (ck_n F) b else 0) 16 = ck_ch F w u v wd r := by
  have h := ch_key (f := ck_ms F w u v) (fun b => w.testBit r && ck_hh wd r b) (fun t => ck_ms_lt F w u v t) (ck_n F)
  have e : (fun t => w.testBit r && ck_hh wd r (ck_ms F w u v t)) = fun s => ck_hm F w u v wd r s := by
    funext t
    exact ck_eq h1 h2
  simp only [e] at h
  exact h
theorem ck_n1 {F : Int32} (h : F.toInt ≤ 999) : 1 ≤ ck_n F ∧ ck_n F ≤ 999 := by
  unfold ck_n
  omega
