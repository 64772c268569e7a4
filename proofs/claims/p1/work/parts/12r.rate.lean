/-! RATE, as both classes count it: in longs, step by step. -/
def rt_w (q : Int32) : Int64 := Int64.ofNat 1 <<< (q.toInt64 &&& 63)
def rt_i (w : Int64) : Nat → Int64 → Int64
  | 0, v => v
  | k + 1, v => rt_i w k (v * (w - Int64.ofNat 1) / w)
def rt_v (n q : Int32) : Int32 := (rt_i (rt_w q) (n.toInt.toNat - 1) (Int64.ofNat 1000000 * n.toInt64 / rt_w q)).toInt32
/-- the best of those from q on, b so far -/
def rt_b (n : Int32) : Nat → Int32 → Int32 → Int32
  | 0, _, b => b
  | k + 1, q, b => rt_b n k (q + Int32.ofInt 1) (if rt_v n q ≤ rt_v n b then b else q)
def rt_a (n q : Int32) : Int32 := if q.toInt = -1 then rt_b n 15 (Int32.ofInt 1) (Int32.ofInt 0) else rt_v n q
def rt_ok (n q : Int32) : Prop := (1 ≤ n.toInt ∧ n.toInt ≤ 99) ∧ (-1 ≤ q.toInt ∧ q.toInt ≤ 15)
