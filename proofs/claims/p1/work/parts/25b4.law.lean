set_option maxRecDepth 100000 in
theorem am_de329_0 : ∀ e ∈ am_c329_0, am_deOk code e = true := List.all_eq_true.mp (by decide +kernel)
set_option maxRecDepth 100000 in
theorem am_ok329_0 : ∀ e ∈ am_c329_0, am_ok ⟨"TagRoundsLaw", "law", "([I)Z"⟩ 329 e = true := List.all_eq_true.mp (by decide +kernel)
set_option maxRecDepth 100000 in
theorem am_de329_1 : ∀ e ∈ am_c329_1, am_deOk code e = true := List.all_eq_true.mp (by decide +kernel)
set_option maxRecDepth 100000 in
theorem am_ok329_1 : ∀ e ∈ am_c329_1, am_ok ⟨"TagRoundsLaw", "law", "([I)Z"⟩ 329 e = true := List.all_eq_true.mp (by decide +kernel)
set_option maxRecDepth 100000 in
theorem am_de329_2 : ∀ e ∈ am_c329_2, am_deOk code e = true := List.all_eq_true.mp (by decide +kernel)
set_option maxRecDepth 100000 in
theorem am_ok329_2 : ∀ e ∈ am_c329_2, am_ok ⟨"TagRoundsLaw", "law", "([I)Z"⟩ 329 e = true := List.all_eq_true.mp (by decide +kernel)
set_option maxRecDepth 100000 in
theorem am_de329_3 : ∀ e ∈ am_c329_3, am_deOk code e = true := List.all_eq_true.mp (by decide +kernel)
set_option maxRecDepth 100000 in
theorem am_ok329_3 : ∀ e ∈ am_c329_3, am_ok ⟨"TagRoundsLaw", "law", "([I)Z"⟩ 329 e = true := List.all_eq_true.mp (by decide +kernel)
set_option maxRecDepth 100000 in
theorem am_de329_4 : ∀ e ∈ am_c329_4, am_deOk code e = true := List.all_eq_true.mp (by decide +kernel)
set_option maxRecDepth 100000 in
theorem am_ok329_4 : ∀ e ∈ am_c329_4, am_ok ⟨"TagRoundsLaw", "law", "([I)Z"⟩ 329 e = true := List.all_eq_true.mp (by decide +kernel)
set_option maxRecDepth 100000 in
theorem am_de329_5 : ∀ e ∈ am_c329_5, am_deOk code e = true := List.all_eq_true.mp (by decide +kernel)
set_option maxRecDepth 100000 in
theorem am_ok329_5 : ∀ e ∈ am_c329_5, am_ok ⟨"TagRoundsLaw", "law", "([I)Z"⟩ 329 e = true := List.all_eq_true.mp (by decide +kernel)
set_option maxRecDepth 100000 in
theorem am_de329_6 : ∀ e ∈ am_c329_6, am_deOk code e = true := List.all_eq_true.mp (by decide +kernel)
set_option maxRecDepth 100000 in
theorem am_ok329_6 : ∀ e ∈ am_c329_6, am_ok ⟨"TagRoundsLaw", "law", "([I)Z"⟩ 329 e = true := List.all_eq_true.mp (by decide +kernel)
set_option maxRecDepth 100000 in
theorem am_de329_7 : ∀ e ∈ am_c329_7, am_deOk code e = true := List.all_eq_true.mp (by decide +kernel)
set_option maxRecDepth 100000 in
theorem am_ok329_7 : ∀ e ∈ am_c329_7, am_ok ⟨"TagRoundsLaw", "law", "([I)Z"⟩ 329 e = true := List.all_eq_true.mp (by decide +kernel)
set_option maxRecDepth 100000 in
theorem am_de329_8 : ∀ e ∈ am_c329_8, am_deOk code e = true := List.all_eq_true.mp (by decide +kernel)
set_option maxRecDepth 100000 in
theorem am_ok329_8 : ∀ e ∈ am_c329_8, am_ok ⟨"TagRoundsLaw", "law", "([I)Z"⟩ 329 e = true := List.all_eq_true.mp (by decide +kernel)
set_option maxRecDepth 100000 in
theorem am_de329_9 : ∀ e ∈ am_c329_9, am_deOk code e = true := List.all_eq_true.mp (by decide +kernel)
set_option maxRecDepth 100000 in
theorem am_ok329_9 : ∀ e ∈ am_c329_9, am_ok ⟨"TagRoundsLaw", "law", "([I)Z"⟩ 329 e = true := List.all_eq_true.mp (by decide +kernel)
set_option maxRecDepth 100000 in
theorem am_de329_10 : ∀ e ∈ am_c329_10, am_deOk code e = true := List.all_eq_true.mp (by decide +kernel)
set_option maxRecDepth 100000 in
theorem am_ok329_10 : ∀ e ∈ am_c329_10, am_ok ⟨"TagRoundsLaw", "law", "([I)Z"⟩ 329 e = true := List.all_eq_true.mp (by decide +kernel)
set_option maxRecDepth 100000 in
theorem am_de329_11 : ∀ e ∈ am_c329_11, am_deOk code e = true := List.all_eq_true.mp (by decide +kernel)
set_option maxRecDepth 100000 in
theorem am_ok329_11 : ∀ e ∈ am_c329_11, am_ok ⟨"TagRoundsLaw", "law", "([I)Z"⟩ 329 e = true := List.all_eq_true.mp (by decide +kernel)
set_option maxRecDepth 100000 in
theorem am_de329_12 : ∀ e ∈ am_c329_12, am_deOk code e = true := List.all_eq_true.mp (by decide +kernel)
set_option maxRecDepth 100000 in
theorem am_ok329_12 : ∀ e ∈ am_c329_12, am_ok ⟨"TagRoundsLaw", "law", "([I)Z"⟩ 329 e = true := List.all_eq_true.mp (by decide +kernel)
set_option maxRecDepth 100000 in
theorem am_de329_13 : ∀ e ∈ am_c329_13, am_deOk code e = true := List.all_eq_true.mp (by decide +kernel)
set_option maxRecDepth 100000 in
theorem am_ok329_13 : ∀ e ∈ am_c329_13, am_ok ⟨"TagRoundsLaw", "law", "([I)Z"⟩ 329 e = true := List.all_eq_true.mp (by decide +kernel)
set_option maxRecDepth 100000 in
theorem am_de329_14 : ∀ e ∈ am_c329_14, am_deOk code e = true := List.all_eq_true.mp (by decide +kernel)
set_option maxRecDepth 100000 in
theorem am_ok329_14 : ∀ e ∈ am_c329_14, am_ok ⟨"TagRoundsLaw", "law", "([I)Z"⟩ 329 e = true := List.all_eq_true.mp (by decide +kernel)
set_option maxRecDepth 100000 in
theorem am_de329_15 : ∀ e ∈ am_c329_15, am_deOk code e = true := List.all_eq_true.mp (by decide +kernel)
set_option maxRecDepth 100000 in
theorem am_ok329_15 : ∀ e ∈ am_c329_15, am_ok ⟨"TagRoundsLaw", "law", "([I)Z"⟩ 329 e = true := List.all_eq_true.mp (by decide +kernel)
set_option maxRecDepth 100000 in
theorem am_de329_16 : ∀ e ∈ am_c329_16, am_deOk code e = true := List.all_eq_true.mp (by decide +kernel)
set_option maxRecDepth 100000 in
theorem am_ok329_16 : ∀ e ∈ am_c329_16, am_ok ⟨"TagRoundsLaw", "law", "([I)Z"⟩ 329 e = true := List.all_eq_true.mp (by decide +kernel)
set_option maxRecDepth 100000 in
theorem am_de329_17 : ∀ e ∈ am_c329_17, am_deOk code e = true := List.all_eq_true.mp (by decide +kernel)
set_option maxRecDepth 100000 in
theorem am_ok329_17 : ∀ e ∈ am_c329_17, am_ok ⟨"TagRoundsLaw", "law", "([I)Z"⟩ 329 e = true := List.all_eq_true.mp (by decide +kernel)
set_option maxRecDepth 100000 in
theorem am_de329_18 : ∀ e ∈ am_c329_18, am_deOk code e = true := List.all_eq_true.mp (by decide +kernel)
set_option maxRecDepth 100000 in
theorem am_ok329_18 : ∀ e ∈ am_c329_18, am_ok ⟨"TagRoundsLaw", "law", "([I)Z"⟩ 329 e = true := List.all_eq_true.mp (by decide +kernel)
set_option maxRecDepth 100000 in
theorem am_de329_19 : ∀ e ∈ am_c329_19, am_deOk code e = true := List.all_eq_true.mp (by decide +kernel)
set_option maxRecDepth 100000 in
theorem am_ok329_19 : ∀ e ∈ am_c329_19, am_ok ⟨"TagRoundsLaw", "law", "([I)Z"⟩ 329 e = true := List.all_eq_true.mp (by decide +kernel)
set_option maxRecDepth 100000 in
theorem am_de329_20 : ∀ e ∈ am_c329_20, am_deOk code e = true := List.all_eq_true.mp (by decide +kernel)
set_option maxRecDepth 100000 in
theorem am_ok329_20 : ∀ e ∈ am_c329_20, am_ok ⟨"TagRoundsLaw", "law", "([I)Z"⟩ 329 e = true := List.all_eq_true.mp (by decide +kernel)
set_option maxRecDepth 100000 in
theorem am_de329_21 : ∀ e ∈ am_c329_21, am_deOk code e = true := List.all_eq_true.mp (by decide +kernel)
set_option maxRecDepth 100000 in
theorem am_ok329_21 : ∀ e ∈ am_c329_21, am_ok ⟨"TagRoundsLaw", "law", "([I)Z"⟩ 329 e = true := List.all_eq_true.mp (by decide +kernel)
set_option maxRecDepth 100000 in
theorem am_de329_22 : ∀ e ∈ am_c329_22, am_deOk code e = true := List.all_eq_true.mp (by decide +kernel)
set_option maxRecDepth 100000 in
theorem am_ok329_22 : ∀ e ∈ am_c329_22, am_ok ⟨"TagRoundsLaw", "law", "([I)Z"⟩ 329 e = true := List.all_eq_true.mp (by decide +kernel)
set_option maxRecDepth 100000 in
theorem am_de329_23 : ∀ e ∈ am_c329_23, am_deOk code e = true := List.all_eq_true.mp (by decide +kernel)
set_option maxRecDepth 100000 in
theorem am_ok329_23 : ∀ e ∈ am_c329_23, am_ok ⟨"TagRoundsLaw", "law", "([I)Z"⟩ 329 e = true := List.all_eq_true.mp (by decide +kernel)
set_option maxRecDepth 100000 in
theorem am_de329_24 : ∀ e ∈ am_c329_24, am_deOk code e = true := List.all_eq_true.mp (by decide +kernel)
set_option maxRecDepth 100000 in
theorem am_ok329_24 : ∀ e ∈ am_c329_24, am_ok ⟨"TagRoundsLaw", "law", "([I)Z"⟩ 329 e = true := List.all_eq_true.mp (by decide +kernel)
set_option maxRecDepth 100000 in
theorem am_de329_25 : ∀ e ∈ am_c329_25, am_deOk code e = true := List.all_eq_true.mp (by decide +kernel)
set_option maxRecDepth 100000 in
theorem am_ok329_25 : ∀ e ∈ am_c329_25, am_ok ⟨"TagRoundsLaw", "law", "([I)Z"⟩ 329 e = true := List.all_eq_true.mp (by decide +kernel)
set_option maxRecDepth 100000 in
theorem am_de329_26 : ∀ e ∈ am_c329_26, am_deOk code e = true := List.all_eq_true.mp (by decide +kernel)
set_option maxRecDepth 100000 in
theorem am_ok329_26 : ∀ e ∈ am_c329_26, am_ok ⟨"TagRoundsLaw", "law", "([I)Z"⟩ 329 e = true := List.all_eq_true.mp (by decide +kernel)
set_option maxRecDepth 100000 in
theorem am_de329_27 : ∀ e ∈ am_c329_27, am_deOk code e = true := List.all_eq_true.mp (by decide +kernel)
set_option maxRecDepth 100000 in
theorem am_ok329_27 : ∀ e ∈ am_c329_27, am_ok ⟨"TagRoundsLaw", "law", "([I)Z"⟩ 329 e = true := List.all_eq_true.mp (by decide +kernel)
set_option maxRecDepth 100000 in
theorem am_de329_28 : ∀ e ∈ am_c329_28, am_deOk code e = true := List.all_eq_true.mp (by decide +kernel)
set_option maxRecDepth 100000 in
theorem am_ok329_28 : ∀ e ∈ am_c329_28, am_ok ⟨"TagRoundsLaw", "law", "([I)Z"⟩ 329 e = true := List.all_eq_true.mp (by decide +kernel)
set_option maxRecDepth 100000 in
theorem am_de329_29 : ∀ e ∈ am_c329_29, am_deOk code e = true := List.all_eq_true.mp (by decide +kernel)
set_option maxRecDepth 100000 in
theorem am_ok329_29 : ∀ e ∈ am_c329_29, am_ok ⟨"TagRoundsLaw", "law", "([I)Z"⟩ 329 e = true := List.all_eq_true.mp (by decide +kernel)
set_option maxRecDepth 100000 in
theorem am_de329_30 : ∀ e ∈ am_c329_30, am_deOk code e = true := List.all_eq_true.mp (by decide +kernel)
set_option maxRecDepth 100000 in
theorem am_ok329_30 : ∀ e ∈ am_c329_30, am_ok ⟨"TagRoundsLaw", "law", "([I)Z"⟩ 329 e = true := List.all_eq_true.mp (by decide +kernel)
set_option maxRecDepth 100000 in
theorem am_de329_31 : ∀ e ∈ am_c329_31, am_deOk code e = true := List.all_eq_true.mp (by decide +kernel)
set_option maxRecDepth 100000 in
theorem am_ok329_31 : ∀ e ∈ am_c329_31, am_ok ⟨"TagRoundsLaw", "law", "([I)Z"⟩ 329 e = true := List.all_eq_true.mp (by decide +kernel)
set_option maxRecDepth 100000 in
theorem am_de329_32 : ∀ e ∈ am_c329_32, am_deOk code e = true := List.all_eq_true.mp (by decide +kernel)
set_option maxRecDepth 100000 in
theorem am_ok329_32 : ∀ e ∈ am_c329_32, am_ok ⟨"TagRoundsLaw", "law", "([I)Z"⟩ 329 e = true := List.all_eq_true.mp (by decide +kernel)
set_option maxRecDepth 100000 in
theorem am_de329_33 : ∀ e ∈ am_c329_33, am_deOk code e = true := List.all_eq_true.mp (by decide +kernel)
set_option maxRecDepth 100000 in
theorem am_ok329_33 : ∀ e ∈ am_c329_33, am_ok ⟨"TagRoundsLaw", "law", "([I)Z"⟩ 329 e = true := List.all_eq_true.mp (by decide +kernel)
set_option maxRecDepth 100000 in
theorem am_de329_34 : ∀ e ∈ am_c329_34, am_deOk code e = true := List.all_eq_true.mp (by decide +kernel)
set_option maxRecDepth 100000 in
theorem am_ok329_34 : ∀ e ∈ am_c329_34, am_ok ⟨"TagRoundsLaw", "law", "([I)Z"⟩ 329 e = true := List.all_eq_true.mp (by decide +kernel)
set_option maxRecDepth 100000 in
theorem am_de329_35 : ∀ e ∈ am_c329_35, am_deOk code e = true := List.all_eq_true.mp (by decide +kernel)
set_option maxRecDepth 100000 in
theorem am_ok329_35 : ∀ e ∈ am_c329_35, am_ok ⟨"TagRoundsLaw", "law", "([I)Z"⟩ 329 e = true := List.all_eq_true.mp (by decide +kernel)
set_option maxRecDepth 100000 in
theorem am_de329_36 : ∀ e ∈ am_c329_36, am_deOk code e = true := List.all_eq_true.mp (by decide +kernel)
set_option maxRecDepth 100000 in
theorem am_ok329_36 : ∀ e ∈ am_c329_36, am_ok ⟨"TagRoundsLaw", "law", "([I)Z"⟩ 329 e = true := List.all_eq_true.mp (by decide +kernel)
set_option maxRecDepth 100000 in
theorem am_de329_37 : ∀ e ∈ am_c329_37, am_deOk code e = true := List.all_eq_true.mp (by decide +kernel)
set_option maxRecDepth 100000 in
theorem am_ok329_37 : ∀ e ∈ am_c329_37, am_ok ⟨"TagRoundsLaw", "law", "([I)Z"⟩ 329 e = true := List.all_eq_true.mp (by decide +kernel)
set_option maxRecDepth 100000 in
theorem am_de329_38 : ∀ e ∈ am_c329_38, am_deOk code e = true := List.all_eq_true.mp (by decide +kernel)
set_option maxRecDepth 100000 in
theorem am_ok329_38 : ∀ e ∈ am_c329_38, am_ok ⟨"TagRoundsLaw", "law", "([I)Z"⟩ 329 e = true := List.all_eq_true.mp (by decide +kernel)
set_option maxRecDepth 100000 in
theorem am_de329_39 : ∀ e ∈ am_c329_39, am_deOk code e = true := List.all_eq_true.mp (by decide +kernel)
set_option maxRecDepth 100000 in
theorem am_ok329_39 : ∀ e ∈ am_c329_39, am_ok ⟨"TagRoundsLaw", "law", "([I)Z"⟩ 329 e = true := List.all_eq_true.mp (by decide +kernel)
set_option maxRecDepth 100000 in
theorem am_de329_40 : ∀ e ∈ am_c329_40, am_deOk code e = true := List.all_eq_true.mp (by decide +kernel)
set_option maxRecDepth 100000 in
theorem am_ok329_40 : ∀ e ∈ am_c329_40, am_ok ⟨"TagRoundsLaw", "law", "([I)Z"⟩ 329 e = true := List.all_eq_true.mp (by decide +kernel)
set_option maxRecDepth 100000 in
theorem am_de329_41 : ∀ e ∈ am_c329_41, am_deOk code e = true := List.all_eq_true.mp (by decide +kernel)
set_option maxRecDepth 100000 in
theorem am_ok329_41 : ∀ e ∈ am_c329_41, am_ok ⟨"TagRoundsLaw", "law", "([I)Z"⟩ 329 e = true := List.all_eq_true.mp (by decide +kernel)
set_option maxRecDepth 100000 in
theorem am_de329_42 : ∀ e ∈ am_c329_42, am_deOk code e = true := List.all_eq_true.mp (by decide +kernel)
set_option maxRecDepth 100000 in
theorem am_ok329_42 : ∀ e ∈ am_c329_42, am_ok ⟨"TagRoundsLaw", "law", "([I)Z"⟩ 329 e = true := List.all_eq_true.mp (by decide +kernel)
set_option maxRecDepth 100000 in
theorem am_de329_43 : ∀ e ∈ am_c329_43, am_deOk code e = true := List.all_eq_true.mp (by decide +kernel)
set_option maxRecDepth 100000 in
theorem am_ok329_43 : ∀ e ∈ am_c329_43, am_ok ⟨"TagRoundsLaw", "law", "([I)Z"⟩ 329 e = true := List.all_eq_true.mp (by decide +kernel)
set_option maxRecDepth 100000 in
theorem am_de329_44 : ∀ e ∈ am_c329_44, am_deOk code e = true := List.all_eq_true.mp (by decide +kernel)
set_option maxRecDepth 100000 in
theorem am_ok329_44 : ∀ e ∈ am_c329_44, am_ok ⟨"TagRoundsLaw", "law", "([I)Z"⟩ 329 e = true := List.all_eq_true.mp (by decide +kernel)
set_option maxRecDepth 100000 in
theorem am_de329_45 : ∀ e ∈ am_c329_45, am_deOk code e = true := List.all_eq_true.mp (by decide +kernel)
set_option maxRecDepth 100000 in
theorem am_ok329_45 : ∀ e ∈ am_c329_45, am_ok ⟨"TagRoundsLaw", "law", "([I)Z"⟩ 329 e = true := List.all_eq_true.mp (by decide +kernel)
set_option maxRecDepth 100000 in
theorem am_de329_46 : ∀ e ∈ am_c329_46, am_deOk code e = true := List.all_eq_true.mp (by decide +kernel)
set_option maxRecDepth 100000 in
theorem am_ok329_46 : ∀ e ∈ am_c329_46, am_ok ⟨"TagRoundsLaw", "law", "([I)Z"⟩ 329 e = true := List.all_eq_true.mp (by decide +kernel)
set_option maxRecDepth 100000 in
theorem am_de329_47 : ∀ e ∈ am_c329_47, am_deOk code e = true := List.all_eq_true.mp (by decide +kernel)
set_option maxRecDepth 100000 in
theorem am_ok329_47 : ∀ e ∈ am_c329_47, am_ok ⟨"TagRoundsLaw", "law", "([I)Z"⟩ 329 e = true := List.all_eq_true.mp (by decide +kernel)
set_option maxRecDepth 100000 in
theorem am_de329_48 : ∀ e ∈ am_c329_48, am_deOk code e = true := List.all_eq_true.mp (by decide +kernel)
set_option maxRecDepth 100000 in
theorem am_ok329_48 : ∀ e ∈ am_c329_48, am_ok ⟨"TagRoundsLaw", "law", "([I)Z"⟩ 329 e = true := List.all_eq_true.mp (by decide +kernel)
set_option maxRecDepth 100000 in
theorem am_de329_49 : ∀ e ∈ am_c329_49, am_deOk code e = true := List.all_eq_true.mp (by decide +kernel)
set_option maxRecDepth 100000 in
theorem am_ok329_49 : ∀ e ∈ am_c329_49, am_ok ⟨"TagRoundsLaw", "law", "([I)Z"⟩ 329 e = true := List.all_eq_true.mp (by decide +kernel)
set_option maxRecDepth 100000 in
theorem am_de329_50 : ∀ e ∈ am_c329_50, am_deOk code e = true := List.all_eq_true.mp (by decide +kernel)
set_option maxRecDepth 100000 in
theorem am_ok329_50 : ∀ e ∈ am_c329_50, am_ok ⟨"TagRoundsLaw", "law", "([I)Z"⟩ 329 e = true := List.all_eq_true.mp (by decide +kernel)
set_option maxRecDepth 100000 in
theorem am_de329_51 : ∀ e ∈ am_c329_51, am_deOk code e = true := List.all_eq_true.mp (by decide +kernel)
set_option maxRecDepth 100000 in
theorem am_ok329_51 : ∀ e ∈ am_c329_51, am_ok ⟨"TagRoundsLaw", "law", "([I)Z"⟩ 329 e = true := List.all_eq_true.mp (by decide +kernel)
set_option maxRecDepth 100000 in
theorem am_de329_52 : ∀ e ∈ am_c329_52, am_deOk code e = true := List.all_eq_true.mp (by decide +kernel)
set_option maxRecDepth 100000 in
theorem am_ok329_52 : ∀ e ∈ am_c329_52, am_ok ⟨"TagRoundsLaw", "law", "([I)Z"⟩ 329 e = true := List.all_eq_true.mp (by decide +kernel)
set_option maxRecDepth 100000 in
theorem am_de329_53 : ∀ e ∈ am_c329_53, am_deOk code e = true := List.all_eq_true.mp (by decide +kernel)
set_option maxRecDepth 100000 in
theorem am_ok329_53 : ∀ e ∈ am_c329_53, am_ok ⟨"TagRoundsLaw", "law", "([I)Z"⟩ 329 e = true := List.all_eq_true.mp (by decide +kernel)
set_option maxRecDepth 100000 in
theorem am_de329_54 : ∀ e ∈ am_c329_54, am_deOk code e = true := List.all_eq_true.mp (by decide +kernel)
set_option maxRecDepth 100000 in
theorem am_ok329_54 : ∀ e ∈ am_c329_54, am_ok ⟨"TagRoundsLaw", "law", "([I)Z"⟩ 329 e = true := List.all_eq_true.mp (by decide +kernel)
set_option maxRecDepth 100000 in
theorem am_de329_55 : ∀ e ∈ am_c329_55, am_deOk code e = true := List.all_eq_true.mp (by decide +kernel)
set_option maxRecDepth 100000 in
theorem am_ok329_55 : ∀ e ∈ am_c329_55, am_ok ⟨"TagRoundsLaw", "law", "([I)Z"⟩ 329 e = true := List.all_eq_true.mp (by decide +kernel)
set_option maxRecDepth 100000 in
theorem am_de329_56 : ∀ e ∈ am_c329_56, am_deOk code e = true := List.all_eq_true.mp (by decide +kernel)
set_option maxRecDepth 100000 in
theorem am_ok329_56 : ∀ e ∈ am_c329_56, am_ok ⟨"TagRoundsLaw", "law", "([I)Z"⟩ 329 e = true := List.all_eq_true.mp (by decide +kernel)
set_option maxRecDepth 100000 in
theorem am_de329_57 : ∀ e ∈ am_c329_57, am_deOk code e = true := List.all_eq_true.mp (by decide +kernel)
set_option maxRecDepth 100000 in
theorem am_ok329_57 : ∀ e ∈ am_c329_57, am_ok ⟨"TagRoundsLaw", "law", "([I)Z"⟩ 329 e = true := List.all_eq_true.mp (by decide +kernel)
set_option maxRecDepth 100000 in
theorem am_de329_58 : ∀ e ∈ am_c329_58, am_deOk code e = true := List.all_eq_true.mp (by decide +kernel)
set_option maxRecDepth 100000 in
theorem am_ok329_58 : ∀ e ∈ am_c329_58, am_ok ⟨"TagRoundsLaw", "law", "([I)Z"⟩ 329 e = true := List.all_eq_true.mp (by decide +kernel)
set_option maxRecDepth 100000 in
theorem am_de329_59 : ∀ e ∈ am_c329_59, am_deOk code e = true := List.all_eq_true.mp (by decide +kernel)
set_option maxRecDepth 100000 in
theorem am_ok329_59 : ∀ e ∈ am_c329_59, am_ok ⟨"TagRoundsLaw", "law", "([I)Z"⟩ 329 e = true := List.all_eq_true.mp (by decide +kernel)
set_option maxRecDepth 100000 in
theorem am_de329_60 : ∀ e ∈ am_c329_60, am_deOk code e = true := List.all_eq_true.mp (by decide +kernel)
set_option maxRecDepth 100000 in
theorem am_ok329_60 : ∀ e ∈ am_c329_60, am_ok ⟨"TagRoundsLaw", "law", "([I)Z"⟩ 329 e = true := List.all_eq_true.mp (by decide +kernel)
set_option maxRecDepth 100000 in
theorem am_de329_61 : ∀ e ∈ am_c329_61, am_deOk code e = true := List.all_eq_true.mp (by decide +kernel)
set_option maxRecDepth 100000 in
theorem am_ok329_61 : ∀ e ∈ am_c329_61, am_ok ⟨"TagRoundsLaw", "law", "([I)Z"⟩ 329 e = true := List.all_eq_true.mp (by decide +kernel)
set_option maxRecDepth 100000 in
theorem am_de329_62 : ∀ e ∈ am_c329_62, am_deOk code e = true := List.all_eq_true.mp (by decide +kernel)
set_option maxRecDepth 100000 in
theorem am_ok329_62 : ∀ e ∈ am_c329_62, am_ok ⟨"TagRoundsLaw", "law", "([I)Z"⟩ 329 e = true := List.all_eq_true.mp (by decide +kernel)
set_option maxRecDepth 100000 in
theorem am_de329_63 : ∀ e ∈ am_c329_63, am_deOk code e = true := List.all_eq_true.mp (by decide +kernel)
set_option maxRecDepth 100000 in
theorem am_ok329_63 : ∀ e ∈ am_c329_63, am_ok ⟨"TagRoundsLaw", "law", "([I)Z"⟩ 329 e = true := List.all_eq_true.mp (by decide +kernel)
set_option maxRecDepth 100000 in
theorem am_de329_64 : ∀ e ∈ am_c329_64, am_deOk code e = true := List.all_eq_true.mp (by decide +kernel)
set_option maxRecDepth 100000 in
theorem am_ok329_64 : ∀ e ∈ am_c329_64, am_ok ⟨"TagRoundsLaw", "law", "([I)Z"⟩ 329 e = true := List.all_eq_true.mp (by decide +kernel)
set_option maxRecDepth 100000 in
theorem am_de329_65 : ∀ e ∈ am_c329_65, am_deOk code e = true := List.all_eq_true.mp (by decide +kernel)
set_option maxRecDepth 100000 in
theorem am_ok329_65 : ∀ e ∈ am_c329_65, am_ok ⟨"TagRoundsLaw", "law", "([I)Z"⟩ 329 e = true := List.all_eq_true.mp (by decide +kernel)
set_option maxRecDepth 100000 in
theorem am_de329_66 : ∀ e ∈ am_c329_66, am_deOk code e = true := List.all_eq_true.mp (by decide +kernel)
set_option maxRecDepth 100000 in
theorem am_ok329_66 : ∀ e ∈ am_c329_66, am_ok ⟨"TagRoundsLaw", "law", "([I)Z"⟩ 329 e = true := List.all_eq_true.mp (by decide +kernel)
set_option maxRecDepth 100000 in
theorem am_de329_67 : ∀ e ∈ am_c329_67, am_deOk code e = true := List.all_eq_true.mp (by decide +kernel)
set_option maxRecDepth 100000 in
theorem am_ok329_67 : ∀ e ∈ am_c329_67, am_ok ⟨"TagRoundsLaw", "law", "([I)Z"⟩ 329 e = true := List.all_eq_true.mp (by decide +kernel)
set_option maxRecDepth 100000 in
theorem am_de329_68 : ∀ e ∈ am_c329_68, am_deOk code e = true := List.all_eq_true.mp (by decide +kernel)
set_option maxRecDepth 100000 in
theorem am_ok329_68 : ∀ e ∈ am_c329_68, am_ok ⟨"TagRoundsLaw", "law", "([I)Z"⟩ 329 e = true := List.all_eq_true.mp (by decide +kernel)
set_option maxRecDepth 100000 in
theorem am_de329_69 : ∀ e ∈ am_c329_69, am_deOk code e = true := List.all_eq_true.mp (by decide +kernel)
set_option maxRecDepth 100000 in
theorem am_ok329_69 : ∀ e ∈ am_c329_69, am_ok ⟨"TagRoundsLaw", "law", "([I)Z"⟩ 329 e = true := List.all_eq_true.mp (by decide +kernel)
set_option maxRecDepth 100000 in
theorem am_de329_70 : ∀ e ∈ am_c329_70, am_deOk code e = true := List.all_eq_true.mp (by decide +kernel)
set_option maxRecDepth 100000 in
theorem am_ok329_70 : ∀ e ∈ am_c329_70, am_ok ⟨"TagRoundsLaw", "law", "([I)Z"⟩ 329 e = true := List.all_eq_true.mp (by decide +kernel)
set_option maxRecDepth 100000 in
theorem am_de329_71 : ∀ e ∈ am_c329_71, am_deOk code e = true := List.all_eq_true.mp (by decide +kernel)
set_option maxRecDepth 100000 in
theorem am_ok329_71 : ∀ e ∈ am_c329_71, am_ok ⟨"TagRoundsLaw", "law", "([I)Z"⟩ 329 e = true := List.all_eq_true.mp (by decide +kernel)
set_option maxRecDepth 100000 in
theorem am_de329_72 : ∀ e ∈ am_c329_72, am_deOk code e = true := List.all_eq_true.mp (by decide +kernel)
set_option maxRecDepth 100000 in
theorem am_ok329_72 : ∀ e ∈ am_c329_72, am_ok ⟨"TagRoundsLaw", "law", "([I)Z"⟩ 329 e = true := List.all_eq_true.mp (by decide +kernel)
set_option maxRecDepth 100000 in
theorem am_de329_73 : ∀ e ∈ am_c329_73, am_deOk code e = true := List.all_eq_true.mp (by decide +kernel)
set_option maxRecDepth 100000 in
theorem am_ok329_73 : ∀ e ∈ am_c329_73, am_ok ⟨"TagRoundsLaw", "law", "([I)Z"⟩ 329 e = true := List.all_eq_true.mp (by decide +kernel)
set_option maxRecDepth 100000 in
theorem am_de329_74 : ∀ e ∈ am_c329_74, am_deOk code e = true := List.all_eq_true.mp (by decide +kernel)
set_option maxRecDepth 100000 in
theorem am_ok329_74 : ∀ e ∈ am_c329_74, am_ok ⟨"TagRoundsLaw", "law", "([I)Z"⟩ 329 e = true := List.all_eq_true.mp (by decide +kernel)
set_option maxRecDepth 100000 in
theorem am_de329_75 : ∀ e ∈ am_c329_75, am_deOk code e = true := List.all_eq_true.mp (by decide +kernel)
set_option maxRecDepth 100000 in
theorem am_ok329_75 : ∀ e ∈ am_c329_75, am_ok ⟨"TagRoundsLaw", "law", "([I)Z"⟩ 329 e = true := List.all_eq_true.mp (by decide +kernel)
set_option maxRecDepth 100000 in
theorem am_de329 : ∀ e ∈ am_c329, am_deOk code e = true := am_app am_de329_0 (am_app am_de329_1 (am_app am_de329_2 (am_app am_de329_3 (am_app am_de329_4 (am_app am_de329_5 (am_app am_de329_6 (am_app am_de329_7 (am_app am_de329_8 (am_app am_de329_9 (am_app am_de329_10 (am_app am_de329_11 (am_app am_de329_12 (am_app am_de329_13 (am_app am_de329_14 (am_app am_de329_15 (am_app am_de329_16 (am_app am_de329_17 (am_app am_de329_18 (am_app am_de329_19 (am_app am_de329_20 (am_app am_de329_21 (am_app am_de329_22 (am_app am_de329_23 (am_app am_de329_24 (am_app am_de329_25 (am_app am_de329_26 (am_app am_de329_27 (am_app am_de329_28 (am_app am_de329_29 (am_app am_de329_30 (am_app am_de329_31 (am_app am_de329_32 (am_app am_de329_33 (am_app am_de329_34 (am_app am_de329_35 (am_app am_de329_36 (am_app am_de329_37 (am_app am_de329_38 (am_app am_de329_39 (am_app am_de329_40 (am_app am_de329_41 (am_app am_de329_42 (am_app am_de329_43 (am_app am_de329_44 (am_app am_de329_45 (am_app am_de329_46 (am_app am_de329_47 (am_app am_de329_48 (am_app am_de329_49 (am_app am_de329_50 (am_app am_de329_51 (am_app am_de329_52 (am_app am_de329_53 (am_app am_de329_54 (am_app am_de329_55 (am_app am_de329_56 (am_app am_de329_57 (am_app am_de329_58 (am_app am_de329_59 (am_app am_de329_60 (am_app am_de329_61 (am_app am_de329_62 (am_app am_de329_63 (am_app am_de329_64 (am_app am_de329_65 (am_app am_de329_66 (am_app am_de329_67 (am_app am_de329_68 (am_app am_de329_69 (am_app am_de329_70 (am_app am_de329_71 (am_app am_de329_72 (am_app am_de329_73 (am_app am_de329_74 (am_de329_75)))))))))))))))))))))))))))))))))))))))))))))))))))))))))))))))))))))))))))
set_option maxRecDepth 100000 in
theorem am_ok329 : ∀ e ∈ am_c329, am_ok ⟨"TagRoundsLaw", "law", "([I)Z"⟩ 329 e = true := am_app am_ok329_0 (am_app am_ok329_1 (am_app am_ok329_2 (am_app am_ok329_3 (am_app am_ok329_4 (am_app am_ok329_5 (am_app am_ok329_6 (am_app am_ok329_7 (am_app am_ok329_8 (am_app am_ok329_9 (am_app am_ok329_10 (am_app am_ok329_11 (am_app am_ok329_12 (am_app am_ok329_13 (am_app am_ok329_14 (am_app am_ok329_15 (am_app am_ok329_16 (am_app am_ok329_17 (am_app am_ok329_18 (am_app am_ok329_19 (am_app am_ok329_20 (am_app am_ok329_21 (am_app am_ok329_22 (am_app am_ok329_23 (am_app am_ok329_24 (am_app am_ok329_25 (am_app am_ok329_26 (am_app am_ok329_27 (am_app am_ok329_28 (am_app am_ok329_29 (am_app am_ok329_30 (am_app am_ok329_31 (am_app am_ok329_32 (am_app am_ok329_33 (am_app am_ok329_34 (am_app am_ok329_35 (am_app am_ok329_36 (am_app am_ok329_37 (am_app am_ok329_38 (am_app am_ok329_39 (am_app am_ok329_40 (am_app am_ok329_41 (am_app am_ok329_42 (am_app am_ok329_43 (am_app am_ok329_44 (am_app am_ok329_45 (am_app am_ok329_46 (am_app am_ok329_47 (am_app am_ok329_48 (am_app am_ok329_49 (am_app am_ok329_50 (am_app am_ok329_51 (am_app am_ok329_52 (am_app am_ok329_53 (am_app am_ok329_54 (am_app am_ok329_55 (am_app am_ok329_56 (am_app am_ok329_57 (am_app am_ok329_58 (am_app am_ok329_59 (am_app am_ok329_60 (am_app am_ok329_61 (am_app am_ok329_62 (am_app am_ok329_63 (am_app am_ok329_64 (am_app am_ok329_65 (am_app am_ok329_66 (am_app am_ok329_67 (am_app am_ok329_68 (am_app am_ok329_69 (am_app am_ok329_70 (am_app am_ok329_71 (am_app am_ok329_72 (am_app am_ok329_73 (am_app am_ok329_74 (am_ok329_75)))))))))))))))))))))))))))))))))))))))))))))))))))))))))))))))))))))))))))
