theorem an_lcG0 : ([0, 2, 6, 7, 8] : List Nat).all an_lc = true := by sorry
theorem an_lcG1 : ([21, 24, 29, 30, 31] : List Nat).all an_lc = true := by sorry
theorem an_lcG2 : ([32, 33, 34, 38, 39] : List Nat).all an_lc = true := by sorry
theorem an_lcG3 : ([1] : List Nat).all an_lc = true := by sorry
theorem an_lcG4 : ([20] : List Nat).all an_lc = true := by sorry
theorem an_lcG5 : ([18] : List Nat).all an_lc = true := by sorry
theorem an_lcG6 : ([17] : List Nat).all an_lc = true := by sorry
theorem an_lcG7 : ([19] : List Nat).all an_lc = true := by sorry
theorem an_lcG8 : ([10] : List Nat).all an_lc = true := by sorry
theorem an_lcG9 : ([12] : List Nat).all an_lc = true := by sorry
theorem an_lcG10 : ([5] : List Nat).all an_lc = true := by sorry
theorem an_lcG11 : ([37] : List Nat).all an_lc = true := by sorry
theorem an_lcG12 : ([3] : List Nat).all an_lc = true := by sorry
theorem an_lcG13 : ([13] : List Nat).all an_lc = true := by sorry
theorem an_lcG14 : ([4, 27] : List Nat).all an_lc = true := by sorry
theorem an_lcG15 : ([9, 36, 14] : List Nat).all an_lc = true := by sorry
theorem an_lcG16 : ([16, 15, 35] : List Nat).all an_lc = true := by sorry
theorem an_lcS28_0 : an_lcs 2 16 28 0 = true := by sorry
theorem an_lcS28_1 : an_lcs 2 16 28 1 = true := by sorry
theorem an_lcS28_2 : an_lcs 2 16 28 2 = true := by sorry
theorem an_lcS28_3 : an_lcs 2 16 28 3 = true := by sorry
theorem an_lcS28_4 : an_lcs 2 16 28 4 = true := by sorry
theorem an_lcS28_5 : an_lcs 2 16 28 5 = true := by sorry
theorem an_lcS28_6 : an_lcs 2 16 28 6 = true := by sorry
theorem an_lcS28_7 : an_lcs 2 16 28 7 = true := by sorry
theorem an_lcS28_8 : an_lcs 2 16 28 8 = true := by sorry
theorem an_lcS28_9 : an_lcs 2 16 28 9 = true := by sorry
theorem an_lcS28_10 : an_lcs 2 16 28 10 = true := by sorry
theorem an_lcS28_11 : an_lcs 2 16 28 11 = true := by sorry
theorem an_lcS28_12 : an_lcs 2 16 28 12 = true := by sorry
theorem an_lcS28_13 : an_lcs 2 16 28 13 = true := by sorry
theorem an_lcS28_14 : an_lcs 2 16 28 14 = true := by sorry
theorem an_lcS28_15 : an_lcs 2 16 28 15 = true := by sorry
theorem an_lcS28_16 : an_lcs 2 16 28 16 = true := by sorry
theorem an_lcS28_17 : an_lcs 2 16 28 17 = true := by sorry
theorem an_lcS11_0 : an_lcs 1 4 11 0 = true := by sorry
theorem an_lcS11_1 : an_lcs 1 4 11 1 = true := by sorry
theorem an_lcS11_2 : an_lcs 1 4 11 2 = true := by sorry
theorem an_lcS11_3 : an_lcs 1 4 11 3 = true := by sorry
theorem an_lcS11_4 : an_lcs 1 4 11 4 = true := by sorry
theorem an_lcS11_5 : an_lcs 1 4 11 5 = true := by sorry
theorem an_lcS23_0 : an_lcs 1 4 23 0 = true := by sorry
theorem an_lcS23_1 : an_lcs 1 4 23 1 = true := by sorry
theorem an_lcS23_2 : an_lcs 1 4 23 2 = true := by sorry
theorem an_lcS23_3 : an_lcs 1 4 23 3 = true := by sorry
theorem an_lcS23_4 : an_lcs 1 4 23 4 = true := by sorry
theorem an_lcS23_5 : an_lcs 1 4 23 5 = true := by sorry
theorem an_lcS26_0 : an_lcs 1 4 26 0 = true := by sorry
theorem an_lcS26_1 : an_lcs 1 4 26 1 = true := by sorry
theorem an_lcS26_2 : an_lcs 1 4 26 2 = true := by sorry
theorem an_lcS26_3 : an_lcs 1 4 26 3 = true := by sorry
theorem an_lcS26_4 : an_lcs 1 4 26 4 = true := by sorry
theorem an_lcS26_5 : an_lcs 1 4 26 5 = true := by sorry
theorem an_lcS22_0 : an_lcs 1 4 22 0 = true := by sorry
theorem an_lcS22_1 : an_lcs 1 4 22 1 = true := by sorry
theorem an_lcS22_2 : an_lcs 1 4 22 2 = true := by sorry
theorem an_lcS22_3 : an_lcs 1 4 22 3 = true := by sorry
theorem an_lcS22_4 : an_lcs 1 4 22 4 = true := by sorry
theorem an_lcS22_5 : an_lcs 1 4 22 5 = true := by sorry
theorem an_lcT25_0 : an_lct 25 [(5, 3, 0)] = true := by sorry
theorem an_lcT25_1_0 : an_lct 25 [(5, 3, 1), (1, 3, 0)] = true := by sorry
theorem an_lcT25_2_0 : an_lct 25 [(5, 3, 2), (1, 3, 0)] = true := by sorry
theorem an_lcT25_3_0 : an_lct 25 [(5, 3, 3), (1, 3, 0)] = true := by sorry
theorem an_lcT25_4_0 : an_lct 25 [(5, 3, 4), (1, 3, 0)] = true := by sorry
theorem an_lcT25_1_1 : an_lct 25 [(5, 3, 1), (1, 3, 1)] = true := by sorry
theorem an_lcT25_1_2 : an_lct 25 [(5, 3, 1), (1, 3, 2)] = true := by sorry
theorem an_lcT25_1_3 : an_lct 25 [(5, 3, 1), (1, 3, 3)] = true := by sorry
theorem an_lcT25_1_4 : an_lct 25 [(5, 3, 1), (1, 3, 4)] = true := by sorry
theorem an_lcT25_2_1 : an_lct 25 [(5, 3, 2), (1, 3, 1)] = true := by sorry
theorem an_lcT25_2_2 : an_lct 25 [(5, 3, 2), (1, 3, 2)] = true := by sorry
theorem an_lcT25_2_3 : an_lct 25 [(5, 3, 2), (1, 3, 3)] = true := by sorry
theorem an_lcT25_2_4 : an_lct 25 [(5, 3, 2), (1, 3, 4)] = true := by sorry
theorem an_lcT25_3_1 : an_lct 25 [(5, 3, 3), (1, 3, 1)] = true := by sorry
theorem an_lcT25_3_2 : an_lct 25 [(5, 3, 3), (1, 3, 2)] = true := by sorry
theorem an_lcT25_3_3 : an_lct 25 [(5, 3, 3), (1, 3, 3)] = true := by sorry
theorem an_lcT25_3_4 : an_lct 25 [(5, 3, 3), (1, 3, 4)] = true := by sorry
theorem an_lcT25_4_1 : an_lct 25 [(5, 3, 4), (1, 3, 1)] = true := by sorry
theorem an_lcT25_4_2 : an_lct 25 [(5, 3, 4), (1, 3, 2)] = true := by sorry
theorem an_lcT25_4_3 : an_lct 25 [(5, 3, 4), (1, 3, 3)] = true := by sorry
theorem an_lcT25_4_4 : an_lct 25 [(5, 3, 4), (1, 3, 4)] = true := by sorry
set_option maxRecDepth 100000 in
theorem an_lcNt : an_lcN = true := by decide +kernel
set_option maxRecDepth 100000 in
theorem an_lawT : an_lawB = true := by decide +kernel
theorem an_lcS28 (c : Nat) (hc : c < 16 + 2) : an_lcs 2 16 28 c = true := by
  rcases (show c = 0 ∨ c = 1 ∨ c = 2 ∨ c = 3 ∨ c = 4 ∨ c = 5 ∨ c = 6 ∨ c = 7 ∨ c = 8 ∨ c = 9 ∨ c = 10 ∨ c = 11 ∨ c = 12 ∨ c = 13 ∨ c = 14 ∨ c = 15 ∨ c = 16 ∨ c = 17 by omega) with rfl | rfl | rfl | rfl | rfl | rfl | rfl | rfl | rfl | rfl | rfl | rfl | rfl | rfl | rfl | rfl | rfl | rfl
  · exact an_lcS28_0
  · exact an_lcS28_1
  · exact an_lcS28_2
  · exact an_lcS28_3
  · exact an_lcS28_4
  · exact an_lcS28_5
  · exact an_lcS28_6
  · exact an_lcS28_7
  · exact an_lcS28_8
  · exact an_lcS28_9
  · exact an_lcS28_10
  · exact an_lcS28_11
  · exact an_lcS28_12
  · exact an_lcS28_13
  · exact an_lcS28_14
  · exact an_lcS28_15
  · exact an_lcS28_16
  · exact an_lcS28_17
theorem an_lcS11 (c : Nat) (hc : c < 4 + 2) : an_lcs 1 4 11 c = true := by
  rcases (show c = 0 ∨ c = 1 ∨ c = 2 ∨ c = 3 ∨ c = 4 ∨ c = 5 by omega) with rfl | rfl | rfl | rfl | rfl | rfl
  · exact an_lcS11_0
  · exact an_lcS11_1
  · exact an_lcS11_2
  · exact an_lcS11_3
  · exact an_lcS11_4
  · exact an_lcS11_5
theorem an_lcS23 (c : Nat) (hc : c < 4 + 2) : an_lcs 1 4 23 c = true := by
  rcases (show c = 0 ∨ c = 1 ∨ c = 2 ∨ c = 3 ∨ c = 4 ∨ c = 5 by omega) with rfl | rfl | rfl | rfl | rfl | rfl
  · exact an_lcS23_0
  · exact an_lcS23_1
  · exact an_lcS23_2
  · exact an_lcS23_3
  · exact an_lcS23_4
  · exact an_lcS23_5
theorem an_lcS26 (c : Nat) (hc : c < 4 + 2) : an_lcs 1 4 26 c = true := by
  rcases (show c = 0 ∨ c = 1 ∨ c = 2 ∨ c = 3 ∨ c = 4 ∨ c = 5 by omega) with rfl | rfl | rfl | rfl | rfl | rfl
  · exact an_lcS26_0
  · exact an_lcS26_1
  · exact an_lcS26_2
  · exact an_lcS26_3
  · exact an_lcS26_4
  · exact an_lcS26_5
theorem an_lcS22 (c : Nat) (hc : c < 4 + 2) : an_lcs 1 4 22 c = true := by
  rcases (show c = 0 ∨ c = 1 ∨ c = 2 ∨ c = 3 ∨ c = 4 ∨ c = 5 by omega) with rfl | rfl | rfl | rfl | rfl | rfl
  · exact an_lcS22_0
  · exact an_lcS22_1
  · exact an_lcS22_2
  · exact an_lcS22_3
  · exact an_lcS22_4
  · exact an_lcS22_5
theorem an_lcT25 (c : Nat) (hc : c < 3 + 2) : ∃ qs, an_allc qs (fun ks => an_lct 25 ((5, 3, c) :: ks) = true) := by
  rcases (show c = 0 ∨ c = 1 ∨ c = 2 ∨ c = 3 ∨ c = 4 by omega) with rfl | rfl | rfl | rfl | rfl
  · exact ⟨[], an_lcT25_0⟩
  · refine ⟨[(1, 3)], fun c hc => ?_⟩
    have hc : c < 5 := hc
    rcases (show c = 0 ∨ c = 1 ∨ c = 2 ∨ c = 3 ∨ c = 4 by omega) with rfl | rfl | rfl | rfl | rfl
    · exact an_lcT25_1_0
    · exact an_lcT25_1_1
    · exact an_lcT25_1_2
    · exact an_lcT25_1_3
    · exact an_lcT25_1_4
  · refine ⟨[(1, 3)], fun c hc => ?_⟩
    have hc : c < 5 := hc
    rcases (show c = 0 ∨ c = 1 ∨ c = 2 ∨ c = 3 ∨ c = 4 by omega) with rfl | rfl | rfl | rfl | rfl
    · exact an_lcT25_2_0
    · exact an_lcT25_2_1
    · exact an_lcT25_2_2
    · exact an_lcT25_2_3
    · exact an_lcT25_2_4
  · refine ⟨[(1, 3)], fun c hc => ?_⟩
    have hc : c < 5 := hc
    rcases (show c = 0 ∨ c = 1 ∨ c = 2 ∨ c = 3 ∨ c = 4 by omega) with rfl | rfl | rfl | rfl | rfl
    · exact an_lcT25_3_0
    · exact an_lcT25_3_1
    · exact an_lcT25_3_2
    · exact an_lcT25_3_3
    · exact an_lcT25_3_4
  · refine ⟨[(1, 3)], fun c hc => ?_⟩
    have hc : c < 5 := hc
    rcases (show c = 0 ∨ c = 1 ∨ c = 2 ∨ c = 3 ∨ c = 4 by omega) with rfl | rfl | rfl | rfl | rfl
    · exact an_lcT25_4_0
    · exact an_lcT25_4_1
    · exact an_lcT25_4_2
    · exact an_lcT25_4_3
    · exact an_lcT25_4_4
theorem an_lcA (i : Nat) (hi : i < 40) : an_lc i = true ∨ (∃ k n, ∀ c, c < n + 2 → an_lcs k n i c = true) ∨ ∃ k n, ∀ c, c < n + 2 → ∃ qs, an_allc qs (fun ks => an_lct i ((k, n, c) :: ks) = true) := by
  have h : ∀ j : Fin 40, j.val ∈ ([0, 2, 6, 7, 8] : List Nat) ∨ j.val ∈ ([21, 24, 29, 30, 31] : List Nat) ∨ j.val ∈ ([32, 33, 34, 38, 39] : List Nat) ∨ j.val ∈ ([1] : List Nat) ∨ j.val ∈ ([20] : List Nat) ∨ j.val ∈ ([18] : List Nat) ∨ j.val ∈ ([17] : List Nat) ∨ j.val ∈ ([19] : List Nat) ∨ j.val ∈ ([10] : List Nat) ∨ j.val ∈ ([12] : List Nat) ∨ j.val ∈ ([5] : List Nat) ∨ j.val ∈ ([37] : List Nat) ∨ j.val ∈ ([3] : List Nat) ∨ j.val ∈ ([13] : List Nat) ∨ j.val ∈ ([4, 27] : List Nat) ∨ j.val ∈ ([9, 36, 14] : List Nat) ∨ j.val ∈ ([16, 15, 35] : List Nat) ∨ j.val = 28 ∨ j.val = 11 ∨ j.val = 23 ∨ j.val = 26 ∨ j.val = 22 ∨ j.val = 25 := by decide
  rcases h ⟨i, hi⟩ with h | h | h | h | h | h | h | h | h | h | h | h | h | h | h | h | h | h | h | h | h | h | h
  · exact Or.inl (List.all_eq_true.mp an_lcG0 i h)
  · exact Or.inl (List.all_eq_true.mp an_lcG1 i h)
  · exact Or.inl (List.all_eq_true.mp an_lcG2 i h)
  · exact Or.inl (List.all_eq_true.mp an_lcG3 i h)
  · exact Or.inl (List.all_eq_true.mp an_lcG4 i h)
  · exact Or.inl (List.all_eq_true.mp an_lcG5 i h)
  · exact Or.inl (List.all_eq_true.mp an_lcG6 i h)
  · exact Or.inl (List.all_eq_true.mp an_lcG7 i h)
  · exact Or.inl (List.all_eq_true.mp an_lcG8 i h)
  · exact Or.inl (List.all_eq_true.mp an_lcG9 i h)
  · exact Or.inl (List.all_eq_true.mp an_lcG10 i h)
  · exact Or.inl (List.all_eq_true.mp an_lcG11 i h)
  · exact Or.inl (List.all_eq_true.mp an_lcG12 i h)
  · exact Or.inl (List.all_eq_true.mp an_lcG13 i h)
  · exact Or.inl (List.all_eq_true.mp an_lcG14 i h)
  · exact Or.inl (List.all_eq_true.mp an_lcG15 i h)
  · exact Or.inl (List.all_eq_true.mp an_lcG16 i h)
  · have h : i = 28 := h
    subst h
    exact Or.inr (Or.inl ⟨2, 16, an_lcS28⟩)
  · have h : i = 11 := h
    subst h
    exact Or.inr (Or.inl ⟨1, 4, an_lcS11⟩)
  · have h : i = 23 := h
    subst h
    exact Or.inr (Or.inl ⟨1, 4, an_lcS23⟩)
  · have h : i = 26 := h
    subst h
    exact Or.inr (Or.inl ⟨1, 4, an_lcS26⟩)
  · have h : i = 22 := h
    subst h
    exact Or.inr (Or.inl ⟨1, 4, an_lcS22⟩)
  · have h : i = 25 := h
    subst h
    exact Or.inr (Or.inr ⟨5, 3, an_lcT25⟩)
