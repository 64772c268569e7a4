
theorem an_LSok {O : am_O} {X : Nat → ClassId} (hO : an_Ook O) : an_LS O X := by
  intro w m2 hw G as S xs σ ρ κ asc ws hx hc hs
  simp only [an_lno, an_LM] at hw
  split at hw
  · rename_i h1
    rw [beq_iff_eq] at h1
    cases hw
    subst h1
    exact an_ls0 hx hc hs
  · split at hw
    · rename_i h1
      rw [beq_iff_eq] at h1
      cases hw
      subst h1
      exact an_ls1 hx hc hs
    · split at hw
      · rename_i h1
        rw [beq_iff_eq] at h1
        cases hw
        subst h1
        exact an_ls2 hx hc hs
      · cases hw
