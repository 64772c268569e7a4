set_option maxRecDepth 100000 in
theorem an_lcNt : an_lcN = true := by decide +kernel
set_option maxRecDepth 100000 in
theorem an_lawT : an_lawB = true := by decide +kernel
theorem an_lcS28 (c : Nat) (hc : c < 16 + 2) : an_lcs 2 16 28 c = true := by
  rcases (show c = 0 ∨ c = 1 ∨ c = 2 ∨ c = 3 ∨ c = 4 ∨ c = 5 ∨ c = 6 ∨ c = 7 ∨ c = 8 ∨ c = 9 ∨ c = 10 ∨ c = 11 ∨ c = 12 ∨ c = 13 ∨ c = 14 ∨ c = 15 ∨ c = 16 ∨ c = 17 by omega) with rfl | rfl | rfl | rfl | rfl | rfl | rfl | rfl | rfl | rfl | rfl | rfl | rfl | rfl | rfl | rfl | rfl | rfl
  · exact an_lcS28_0
  · exact an_lcS28_1
  · exact an_lcS28_2
  · exact an_lcS28_3
  · exact an_lcS28_4
  · exact an_lcS28_5
  · exact an_lcS28_6
  · exact an_lcS28_7
  · exact an_lcS28_8
  · exact an_lcS28_9
  · exact an_lcS28_10
  · exact an_lcS28_11
  · exact an_lcS28_12
  · exact an_lcS28_13
  · exact an_lcS28_14
  · exact an_lcS28_15
  · exact an_lcS28_16
  · exact an_lcS28_17
theorem an_lcS11 (c : Nat) (hc : c < 4 + 2) : an_lcs 1 4 11 c = true := by
  rcases (show c = 0 ∨ c = 1 ∨ c = 2 ∨ c = 3 ∨ c = 4 ∨ c = 5 by omega) with rfl | rfl | rfl | rfl | rfl | rfl
  · exact an_lcS11_0
  · exact an_lcS11_1
  · exact an_lcS11_2
  · exact an_lcS11_3
  · exact an_lcS11_4
  · exact an_lcS11_5
theorem an_lcS23 (c : Nat) (hc : c < 4 + 2) : an_lcs 1 4 23 c = true := by
  rcases (show c = 0 ∨ c = 1 ∨ c = 2 ∨ c = 3 ∨ c = 4 ∨ c = 5 by omega) with rfl | rfl | rfl | rfl | rfl | rfl
  · exact an_lcS23_0
  · exact an_lcS23_1
  · exact an_lcS23_2
  · exact an_lcS23_3
  · exact an_lcS23_4
  · exact an_lcS23_5
theorem an_lcS26 (c : Nat) (hc : c < 4 + 2) : an_lcs 1 4 26 c = true := by
  rcases (show c = 0 ∨ c = 1 ∨ c = 2 ∨ c = 3 ∨ c = 4 ∨ c = 5 by omega) with rfl | rfl | rfl | rfl | rfl | rfl
  · exact an_lcS26_0
  · exact an_lcS26_1
  · exact an_lcS26_2
  · exact an_lcS26_3
  · exact an_lcS26_4
  · exact an_lcS26_5
theorem an_lcS22 (c : Nat) (hc : c < 4 + 2) : an_lcs 1 4 22 c = true := by
  rcases (show c = 0 ∨ c = 1 ∨ c = 2 ∨ c = 3 ∨ c = 4 ∨ c = 5 by omega) with rfl | rfl | rfl | rfl | rfl | rfl
  · exact an_lcS22_0
  · exact an_lcS22_1
  · exact an_lcS22_2
  · exact an_lcS22_3
  · exact an_lcS22_4
  · exact an_lcS22_5
theorem an_lcT25 (c : Nat) (hc : c < 3 + 2) : ∃ qs, an_allc qs (fun ks => an_lct 25 ((5, 3, c) :: ks) = true) := by
  rcases (show c = 0 ∨ c = 1 ∨ c = 2 ∨ c = 3 ∨ c = 4 by omega) with rfl | rfl | rfl | rfl | rfl
  · exact ⟨[], an_lcT25_0⟩
  · refine ⟨[(1, 3)], fun c hc => ?_⟩
    have hc : c < 5 := hc
    rcases (show c = 0 ∨ c = 1 ∨ c = 2 ∨ c = 3 ∨ c = 4 by omega) with rfl | rfl | rfl | rfl | rfl
    · exact an_lcT25_1_0
    · exact an_lcT25_1_1
    · exact an_lcT25_1_2
    · exact an_lcT25_1_3
    · exact an_lcT25_1_4
  · refine ⟨[(1, 3)], fun c hc => ?_⟩
    have hc : c < 5 := hc
    rcases (show c = 0 ∨ c = 1 ∨ c = 2 ∨ c = 3 ∨ c = 4 by omega) with rfl | rfl | rfl | rfl | rfl
    · exact an_lcT25_2_0
    · exact an_lcT25_2_1
    · exact an_lcT25_2_2
    · exact an_lcT25_2_3
    · exact an_lcT25_2_4
  · refine ⟨[(1, 3)], fun c hc => ?_⟩
    have hc : c < 5 := hc
    rcases (show c = 0 ∨ c = 1 ∨ c = 2 ∨ c = 3 ∨ c = 4 by omega) with rfl | rfl | rfl | rfl | rfl
    · exact an_lcT25_3_0
    · exact an_lcT25_3_1
    · exact an_lcT25_3_2
    · exact an_lcT25_3_3
    · exact an_lcT25_3_4
  · refine ⟨[(1, 3)], fun c hc => ?_⟩
    have hc : c < 5 := hc
    rcases (show c = 0 ∨ c = 1 ∨ c = 2 ∨ c = 3 ∨ c = 4 by omega) with rfl | rfl | rfl | rfl | rfl
    · exact an_lcT25_4_0
    · exact an_lcT25_4_1
    · exact an_lcT25_4_2
    · exact an_lcT25_4_3
    · exact an_lcT25_4_4
theorem an_lcA (i : Nat) (hi : i < 40) : an_lc i = true ∨ (∃ k n, ∀ c, c < n + 2 → an_lcs k n i c = true) ∨ ∃ k n, ∀ c, c < n + 2 → ∃ qs, an_allc qs (fun ks => an_lct i ((k, n, c) :: ks) = true) := by
  have h : ∀ j : Fin 40, j.val ∈ ([0, 2, 6, 7, 8] : List Nat) ∨ j.val ∈ ([21, 24, 29, 30, 31] : List Nat) ∨ j.val ∈ ([32, 33, 34, 38, 39] : List Nat) ∨ j.val ∈ ([1] : List Nat) ∨ j.val ∈ ([20] : List Nat) ∨ j.val ∈ ([18] : List Nat) ∨ j.val ∈ ([17] : List Nat) ∨ j.val ∈ ([19] : List Nat) ∨ j.val ∈ ([10] : List Nat) ∨ j.val ∈ ([12] : List Nat) ∨ j.val ∈ ([5] : List Nat) ∨ j.val ∈ ([37] : List Nat) ∨ j.val ∈ ([3] : List Nat) ∨ j.val ∈ ([13] : List Nat) ∨ j.val ∈ ([4, 27] : List Nat) ∨ j.val ∈ ([9, 36, 14] : List Nat) ∨ j.val ∈ ([16, 15, 35] : List Nat) ∨ j.val = 28 ∨ j.val = 11 ∨ j.val = 23 ∨ j.val = 26 ∨ j.val = 22 ∨ j.val = 25 := by decide
  rcases h ⟨i, hi⟩ with h | h | h | h | h | h | h | h | h | h | h | h | h | h | h | h | h | h | h | h | h | h | h
  · exact Or.inl (List.all_eq_true.mp an_lcG0 i h)
  · exact Or.inl (List.all_eq_true.mp an_lcG1 i h)
  · exact Or.inl (List.all_eq_true.mp an_lcG2 i h)
  · exact Or.inl (List.all_eq_true.mp an_lcG3 i h)
  · exact Or.inl (List.all_eq_true.mp an_lcG4 i h)
  · exact Or.inl (List.all_eq_true.mp an_lcG5 i h)
  · exact Or.inl (List.all_eq_true.mp an_lcG6 i h)
  · exact Or.inl (List.all_eq_true.mp an_lcG7 i h)
  · exact Or.inl (List.all_eq_true.mp an_lcG8 i h)
  · exact Or.inl (List.all_eq_true.mp an_lcG9 i h)
  · exact Or.inl (List.all_eq_true.mp an_lcG10 i h)
  · exact Or.inl (List.all_eq_true.mp an_lcG11 i h)
  · exact Or.inl (List.all_eq_true.mp an_lcG12 i h)
  · exact Or.inl (List.all_eq_true.mp an_lcG13 i h)
  · exact Or.inl (List.all_eq_true.mp an_lcG14 i h)
  · exact Or.inl (List.all_eq_true.mp an_lcG15 i h)
  · exact Or.inl (List.all_eq_true.mp an_lcG16 i h)
  · have h : i = 28 := h
    subst h
    exact Or.inr (Or.inl ⟨2, 16, an_lcS28⟩)
  · have h : i = 11 := h
    subst h
    exact Or.inr (Or.inl ⟨1, 4, an_lcS11⟩)
  · have h : i = 23 := h
    subst h
    exact Or.inr (Or.inl ⟨1, 4, an_lcS23⟩)
  · have h : i = 26 := h
    subst h
    exact Or.inr (Or.inl ⟨1, 4, an_lcS26⟩)
  · have h : i = 22 := h
    subst h
    exact Or.inr (Or.inl ⟨1, 4, an_lcS22⟩)
  · have h : i = 25 := h
    subst h
    exact Or.inr (Or.inr ⟨5, 3, an_lcT25⟩)
