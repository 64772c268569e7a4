/-! the checker over the law's own body -/
def an_LS0 : an_S := ((1, [(0, 0, 3072)], [], []), [], (0, [], []), [(0, 1002, (0, -1), (0, (1, 0), (0, 0)))])
def an_lawR (x : an_X) : Bool := x.1 == 1 && (x.2.1.1 == 0 && an_eqE x.2.1.2.1 (0, 1))
def an_lawB (fu : Nat) : Bool := match an_ex2 an_LMods fu am_LAW (am_code am_LAW) [(0, (5, (0, 0), (0, 0)))] [] 0 0 [] an_LS0 with
  | none => false
  | some xs => xs.all an_lawR
set_option maxRecDepth 100000 in
theorem an_lawT : an_lawB 6000 = true := by decide +kernel
