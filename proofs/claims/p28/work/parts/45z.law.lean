set_option maxRecDepth 100000 in
theorem an_lcNt : an_lcN = true := by decide +kernel
set_option maxRecDepth 100000 in
theorem an_lawT : an_lawB = true := by decide +kernel
theorem an_lcS3 (c : Nat) (hc : c < 6) : an_lcs 3 c = true := by
  rcases (show c = 0 ∨ c = 1 ∨ c = 2 ∨ c = 3 ∨ c = 4 ∨ c = 5 by omega) with rfl | rfl | rfl | rfl | rfl | rfl
  · exact an_lcS3_0
  · exact an_lcS3_1
  · exact an_lcS3_2
  · exact an_lcS3_3
  · exact an_lcS3_4
  · exact an_lcS3_5
theorem an_lcA (i : Nat) (hi : i < 40) : an_lc i = true ∨ ∀ c, c < 6 → an_lcs i c = true := by
  have h : ∀ j : Fin 40, j.val ∈ ([0, 7, 8, 9, 10, 11, 12, 13, 14, 15, 16] : List Nat) ∨ j.val ∈ ([17, 18, 19, 20, 21, 22, 23, 24, 25, 26, 28] : List Nat) ∨ j.val ∈ ([29, 30, 31, 32, 33, 34, 35, 36, 37, 38, 39] : List Nat) ∨ j.val ∈ ([1] : List Nat) ∨ j.val ∈ ([2] : List Nat) ∨ j.val ∈ ([4] : List Nat) ∨ j.val ∈ ([5] : List Nat) ∨ j.val ∈ ([6] : List Nat) ∨ j.val ∈ ([27] : List Nat) ∨ j.val = 3 := by decide
  rcases h ⟨i, hi⟩ with h | h | h | h | h | h | h | h | h | h
  · exact Or.inl (List.all_eq_true.mp an_lcG0 i h)
  · exact Or.inl (List.all_eq_true.mp an_lcG1 i h)
  · exact Or.inl (List.all_eq_true.mp an_lcG2 i h)
  · exact Or.inl (List.all_eq_true.mp an_lcG3 i h)
  · exact Or.inl (List.all_eq_true.mp an_lcG4 i h)
  · exact Or.inl (List.all_eq_true.mp an_lcG5 i h)
  · exact Or.inl (List.all_eq_true.mp an_lcG6 i h)
  · exact Or.inl (List.all_eq_true.mp an_lcG7 i h)
  · exact Or.inl (List.all_eq_true.mp an_lcG8 i h)
  · have h : i = 3 := h
    subst h
    exact Or.inr an_lcS3
