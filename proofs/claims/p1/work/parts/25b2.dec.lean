set_option maxRecDepth 100000 in
theorem am_de0 : ∀ e ∈ am_c0, am_deOk prog_3_method_1_code e = true := List.all_eq_true.mp (by decide +kernel)
set_option maxRecDepth 100000 in
theorem am_ok0 : ∀ e ∈ am_c0, am_ok ⟨"TagRounds$Clock", "<init>", "()V"⟩ 0 e = true := List.all_eq_true.mp (by decide +kernel)
set_option maxRecDepth 100000 in
theorem am_de1 : ∀ e ∈ am_c1, am_deOk prog_27_method_1_code e = true := List.all_eq_true.mp (by decide +kernel)
set_option maxRecDepth 100000 in
theorem am_ok1 : ∀ e ∈ am_c1, am_ok ⟨"java/util/AbstractCollection", "<init>", "()V"⟩ 1 e = true := List.all_eq_true.mp (by decide +kernel)
set_option maxRecDepth 100000 in
theorem am_de2 : ∀ e ∈ am_c2, am_deOk prog_28_method_1_code e = true := List.all_eq_true.mp (by decide +kernel)
set_option maxRecDepth 100000 in
theorem am_ok2 : ∀ e ∈ am_c2, am_ok ⟨"java/util/AbstractList", "<init>", "()V"⟩ 2 e = true := List.all_eq_true.mp (by decide +kernel)
set_option maxRecDepth 100000 in
theorem am_de3 : ∀ e ∈ am_c3, am_deOk prog_29_method_2_code e = true := List.all_eq_true.mp (by decide +kernel)
set_option maxRecDepth 100000 in
theorem am_ok3 : ∀ e ∈ am_c3, am_ok ⟨"java/util/ArrayList", "<init>", "()V"⟩ 3 e = true := List.all_eq_true.mp (by decide +kernel)
set_option maxRecDepth 100000 in
theorem am_de4 : ∀ e ∈ am_c4, am_deOk prog_8_method_1_code e = true := List.all_eq_true.mp (by decide +kernel)
set_option maxRecDepth 100000 in
theorem am_ok4 : ∀ e ∈ am_c4, am_ok ⟨"TagRounds$Mask", "<init>", "()V"⟩ 4 e = true := List.all_eq_true.mp (by decide +kernel)
set_option maxRecDepth 100000 in
theorem am_de5 : ∀ e ∈ am_c5, am_deOk prog_4_method_1_code e = true := List.all_eq_true.mp (by decide +kernel)
set_option maxRecDepth 100000 in
theorem am_ok5 : ∀ e ∈ am_c5, am_ok ⟨"TagRounds$Command", "<init>", "()V"⟩ 5 e = true := List.all_eq_true.mp (by decide +kernel)
set_option maxRecDepth 100000 in
theorem am_de6 : ∀ e ∈ am_c6, am_deOk prog_11_method_1_code e = true := List.all_eq_true.mp (by decide +kernel)
set_option maxRecDepth 100000 in
theorem am_ok6 : ∀ e ∈ am_c6, am_ok ⟨"TagRounds$Signal", "<init>", "()V"⟩ 6 e = true := List.all_eq_true.mp (by decide +kernel)
set_option maxRecDepth 100000 in
theorem am_de7 : ∀ e ∈ am_c7, am_deOk prog_2_method_1_code e = true := List.all_eq_true.mp (by decide +kernel)
set_option maxRecDepth 100000 in
theorem am_ok7 : ∀ e ∈ am_c7, am_ok ⟨"TagRounds$Answer", "<init>", "()V"⟩ 7 e = true := List.all_eq_true.mp (by decide +kernel)
set_option maxRecDepth 100000 in
theorem am_de8 : ∀ e ∈ am_c8, am_deOk prog_5_method_1_code e = true := List.all_eq_true.mp (by decide +kernel)
set_option maxRecDepth 100000 in
theorem am_ok8 : ∀ e ∈ am_c8, am_ok ⟨"TagRounds$Course", "<init>", "()V"⟩ 8 e = true := List.all_eq_true.mp (by decide +kernel)
set_option maxRecDepth 100000 in
theorem am_de9 : ∀ e ∈ am_c9, am_deOk prog_7_method_1_code e = true := List.all_eq_true.mp (by decide +kernel)
set_option maxRecDepth 100000 in
theorem am_ok9 : ∀ e ∈ am_c9, am_ok ⟨"TagRounds$Journal", "<init>", "()V"⟩ 9 e = true := List.all_eq_true.mp (by decide +kernel)
set_option maxRecDepth 100000 in
theorem am_de10 : ∀ e ∈ am_c10, am_deOk prog_10_method_1_code e = true := List.all_eq_true.mp (by decide +kernel)
set_option maxRecDepth 100000 in
theorem am_ok10 : ∀ e ∈ am_c10, am_ok ⟨"TagRounds$Reader", "<init>", "()V"⟩ 10 e = true := List.all_eq_true.mp (by decide +kernel)
set_option maxRecDepth 100000 in
theorem am_de11 : ∀ e ∈ am_c11, am_deOk prog_1_method_1_code e = true := List.all_eq_true.mp (by decide +kernel)
set_option maxRecDepth 100000 in
theorem am_ok11 : ∀ e ∈ am_c11, am_ok ⟨"TagRounds", "<init>", "()V"⟩ 11 e = true := List.all_eq_true.mp (by decide +kernel)
set_option maxRecDepth 100000 in
theorem am_de12_0 : ∀ e ∈ am_c12_0, am_deOk prog_14_method_6_code e = true := List.all_eq_true.mp (by decide +kernel)
set_option maxRecDepth 100000 in
theorem am_ok12_0 : ∀ e ∈ am_c12_0, am_ok ⟨"TagRoundsModel", "<init>", "()V"⟩ 12 e = true := List.all_eq_true.mp (by decide +kernel)
set_option maxRecDepth 100000 in
theorem am_de12_1 : ∀ e ∈ am_c12_1, am_deOk prog_14_method_6_code e = true := List.all_eq_true.mp (by decide +kernel)
set_option maxRecDepth 100000 in
theorem am_ok12_1 : ∀ e ∈ am_c12_1, am_ok ⟨"TagRoundsModel", "<init>", "()V"⟩ 12 e = true := List.all_eq_true.mp (by decide +kernel)
set_option maxRecDepth 100000 in
theorem am_de12_2 : ∀ e ∈ am_c12_2, am_deOk prog_14_method_6_code e = true := List.all_eq_true.mp (by decide +kernel)
set_option maxRecDepth 100000 in
theorem am_ok12_2 : ∀ e ∈ am_c12_2, am_ok ⟨"TagRoundsModel", "<init>", "()V"⟩ 12 e = true := List.all_eq_true.mp (by decide +kernel)
set_option maxRecDepth 100000 in
theorem am_de12_3 : ∀ e ∈ am_c12_3, am_deOk prog_14_method_6_code e = true := List.all_eq_true.mp (by decide +kernel)
set_option maxRecDepth 100000 in
theorem am_ok12_3 : ∀ e ∈ am_c12_3, am_ok ⟨"TagRoundsModel", "<init>", "()V"⟩ 12 e = true := List.all_eq_true.mp (by decide +kernel)
set_option maxRecDepth 100000 in
theorem am_de12 : ∀ e ∈ am_c12, am_deOk prog_14_method_6_code e = true := am_app am_de12_0 (am_app am_de12_1 (am_app am_de12_2 (am_de12_3)))
set_option maxRecDepth 100000 in
theorem am_ok12 : ∀ e ∈ am_c12, am_ok ⟨"TagRoundsModel", "<init>", "()V"⟩ 12 e = true := am_app am_ok12_0 (am_app am_ok12_1 (am_app am_ok12_2 (am_ok12_3)))
set_option maxRecDepth 100000 in
theorem am_de13 : ∀ e ∈ am_c13, am_deOk prog_1_method_42_code e = true := List.all_eq_true.mp (by decide +kernel)
set_option maxRecDepth 100000 in
theorem am_ok13 : ∀ e ∈ am_c13, am_ok ⟨"TagRounds", "needRange", "(III)V"⟩ 13 e = true := List.all_eq_true.mp (by decide +kernel)
set_option maxRecDepth 100000 in
theorem am_de14 : ∀ e ∈ am_c14, am_deOk prog_29_method_8_code e = true := List.all_eq_true.mp (by decide +kernel)
set_option maxRecDepth 100000 in
theorem am_ok14 : ∀ e ∈ am_c14, am_ok ⟨"java/util/ArrayList", "size", "()I"⟩ 14 e = true := List.all_eq_true.mp (by decide +kernel)
set_option maxRecDepth 100000 in
theorem am_de15 : ∀ e ∈ am_c15, am_deOk prog_23_method_69_code e = true := List.all_eq_true.mp (by decide +kernel)
set_option maxRecDepth 100000 in
theorem am_ok15 : ∀ e ∈ am_c15, am_ok ⟨"java/lang/Math", "min", "(II)I"⟩ 15 e = true := List.all_eq_true.mp (by decide +kernel)
set_option maxRecDepth 100000 in
theorem am_de16 : ∀ e ∈ am_c16, am_deOk prog_23_method_65_code e = true := List.all_eq_true.mp (by decide +kernel)
set_option maxRecDepth 100000 in
theorem am_ok16 : ∀ e ∈ am_c16, am_ok ⟨"java/lang/Math", "max", "(II)I"⟩ 16 e = true := List.all_eq_true.mp (by decide +kernel)
set_option maxRecDepth 100000 in
theorem am_de17 : ∀ e ∈ am_c17, am_deOk prog_11_method_2_code e = true := List.all_eq_true.mp (by decide +kernel)
set_option maxRecDepth 100000 in
theorem am_ok17 : ∀ e ∈ am_c17, am_ok ⟨"TagRounds$Signal", "step16", "(II)I"⟩ 17 e = true := List.all_eq_true.mp (by decide +kernel)
set_option maxRecDepth 100000 in
theorem am_de18 : ∀ e ∈ am_c18, am_deOk prog_9_method_2_code e = true := List.all_eq_true.mp (by decide +kernel)
set_option maxRecDepth 100000 in
theorem am_ok18 : ∀ e ∈ am_c18, am_ok ⟨"TagRounds$Memory", "refreshSum", "()V"⟩ 18 e = true := List.all_eq_true.mp (by decide +kernel)
set_option maxRecDepth 100000 in
theorem am_de19_0 : ∀ e ∈ am_c19_0, am_deOk prog_9_method_1_code e = true := List.all_eq_true.mp (by decide +kernel)
set_option maxRecDepth 100000 in
theorem am_ok19_0 : ∀ e ∈ am_c19_0, am_ok ⟨"TagRounds$Memory", "<init>", "(IIII)V"⟩ 19 e = true := List.all_eq_true.mp (by decide +kernel)
set_option maxRecDepth 100000 in
theorem am_de19_1 : ∀ e ∈ am_c19_1, am_deOk prog_9_method_1_code e = true := List.all_eq_true.mp (by decide +kernel)
set_option maxRecDepth 100000 in
theorem am_ok19_1 : ∀ e ∈ am_c19_1, am_ok ⟨"TagRounds$Memory", "<init>", "(IIII)V"⟩ 19 e = true := List.all_eq_true.mp (by decide +kernel)
set_option maxRecDepth 100000 in
theorem am_de19 : ∀ e ∈ am_c19, am_deOk prog_9_method_1_code e = true := am_app am_de19_0 (am_de19_1)
set_option maxRecDepth 100000 in
theorem am_ok19 : ∀ e ∈ am_c19, am_ok ⟨"TagRounds$Memory", "<init>", "(IIII)V"⟩ 19 e = true := am_app am_ok19_0 (am_ok19_1)
set_option maxRecDepth 100000 in
theorem am_de20 : ∀ e ∈ am_c20, am_deOk prog_6_method_1_code e = true := List.all_eq_true.mp (by decide +kernel)
set_option maxRecDepth 100000 in
theorem am_ok20 : ∀ e ∈ am_c20, am_ok ⟨"TagRounds$Flags", "<init>", "()V"⟩ 20 e = true := List.all_eq_true.mp (by decide +kernel)
set_option maxRecDepth 100000 in
theorem am_de21 : ∀ e ∈ am_c21, am_deOk prog_12_method_1_code e = true := List.all_eq_true.mp (by decide +kernel)
set_option maxRecDepth 100000 in
theorem am_ok21 : ∀ e ∈ am_c21, am_ok ⟨"TagRounds$Tag", "<init>", "(ILTagRounds$Clock;LTagRounds$Memory;)V"⟩ 21 e = true := List.all_eq_true.mp (by decide +kernel)
set_option maxRecDepth 100000 in
theorem am_de22 : ∀ e ∈ am_c22, am_deOk prog_37_method_27_code e = true := List.all_eq_true.mp (by decide +kernel)
set_option maxRecDepth 100000 in
theorem am_ok22 : ∀ e ∈ am_c22, am_ok ⟨"jdk/internal/util/ArraysSupport", "newLength", "(III)I"⟩ 22 e = true := List.all_eq_true.mp (by decide +kernel)
set_option maxRecDepth 100000 in
theorem am_de23 : ∀ e ∈ am_c23, am_deOk prog_29_method_6_code e = true := List.all_eq_true.mp (by decide +kernel)
set_option maxRecDepth 100000 in
theorem am_ok23 : ∀ e ∈ am_c23, am_ok ⟨"java/util/ArrayList", "grow", "(I)[Ljava/lang/Object;"⟩ 23 e = true := List.all_eq_true.mp (by decide +kernel)
set_option maxRecDepth 100000 in
theorem am_de24 : ∀ e ∈ am_c24, am_deOk prog_29_method_7_code e = true := List.all_eq_true.mp (by decide +kernel)
set_option maxRecDepth 100000 in
theorem am_ok24 : ∀ e ∈ am_c24, am_ok ⟨"java/util/ArrayList", "grow", "()[Ljava/lang/Object;"⟩ 24 e = true := List.all_eq_true.mp (by decide +kernel)
set_option maxRecDepth 100000 in
theorem am_de25 : ∀ e ∈ am_c25, am_deOk prog_29_method_24_code e = true := List.all_eq_true.mp (by decide +kernel)
set_option maxRecDepth 100000 in
theorem am_ok25 : ∀ e ∈ am_c25, am_ok ⟨"java/util/ArrayList", "add", "(Ljava/lang/Object;[Ljava/lang/Object;I)V"⟩ 25 e = true := List.all_eq_true.mp (by decide +kernel)
set_option maxRecDepth 100000 in
theorem am_de26 : ∀ e ∈ am_c26, am_deOk prog_29_method_25_code e = true := List.all_eq_true.mp (by decide +kernel)
set_option maxRecDepth 100000 in
theorem am_ok26 : ∀ e ∈ am_c26, am_ok ⟨"java/util/ArrayList", "add", "(Ljava/lang/Object;)Z"⟩ 26 e = true := List.all_eq_true.mp (by decide +kernel)
set_option maxRecDepth 100000 in
theorem am_de27 : ∀ e ∈ am_c27, am_deOk prog_1_method_47_code e = true := List.all_eq_true.mp (by decide +kernel)
set_option maxRecDepth 100000 in
theorem am_ok27 : ∀ e ∈ am_c27, am_ok ⟨"TagRounds", "onBits", "()I"⟩ 27 e = true := List.all_eq_true.mp (by decide +kernel)
set_option maxRecDepth 100000 in
theorem am_de28 : ∀ e ∈ am_c28, am_deOk prog_6_method_3_code e = true := List.all_eq_true.mp (by decide +kernel)
set_option maxRecDepth 100000 in
theorem am_ok28 : ∀ e ∈ am_c28, am_ok ⟨"TagRounds$Flags", "tell", "(III)V"⟩ 28 e = true := List.all_eq_true.mp (by decide +kernel)
set_option maxRecDepth 100000 in
theorem am_de29 : ∀ e ∈ am_c29, am_deOk prog_12_method_2_code e = true := List.all_eq_true.mp (by decide +kernel)
set_option maxRecDepth 100000 in
theorem am_ok29 : ∀ e ∈ am_c29, am_ok ⟨"TagRounds$Tag", "setPower", "(Z)V"⟩ 29 e = true := List.all_eq_true.mp (by decide +kernel)
set_option maxRecDepth 100000 in
theorem am_de30 : ∀ e ∈ am_c30, am_deOk prog_1_method_2_code e = true := List.all_eq_true.mp (by decide +kernel)
set_option maxRecDepth 100000 in
theorem am_ok30 : ∀ e ∈ am_c30, am_ok ⟨"TagRounds", "add", "(IIII)I"⟩ 30 e = true := List.all_eq_true.mp (by decide +kernel)
set_option maxRecDepth 100000 in
theorem am_de31 : ∀ e ∈ am_c31, am_deOk method_3_code e = true := List.all_eq_true.mp (by decide +kernel)
set_option maxRecDepth 100000 in
theorem am_ok31 : ∀ e ∈ am_c31, am_ok ⟨"TagRoundsLaw", "add", "(LTagRounds;IIII[J)I"⟩ 31 e = true := List.all_eq_true.mp (by decide +kernel)
set_option maxRecDepth 100000 in
theorem am_de32 : ∀ e ∈ am_c32, am_deOk prog_14_method_3_code e = true := List.all_eq_true.mp (by decide +kernel)
set_option maxRecDepth 100000 in
theorem am_ok32 : ∀ e ∈ am_c32, am_ok ⟨"TagRoundsModel", "in", "(III)Z"⟩ 32 e = true := List.all_eq_true.mp (by decide +kernel)
set_option maxRecDepth 100000 in
theorem am_de33 : ∀ e ∈ am_c33, am_deOk prog_14_method_2_code e = true := List.all_eq_true.mp (by decide +kernel)
set_option maxRecDepth 100000 in
theorem am_ok33 : ∀ e ∈ am_c33, am_ok ⟨"TagRoundsModel", "throwsIf", "(ZI)Z"⟩ 33 e = true := List.all_eq_true.mp (by decide +kernel)
set_option maxRecDepth 100000 in
theorem am_de34 : ∀ e ∈ am_c34, am_deOk prog_14_method_23_code e = true := List.all_eq_true.mp (by decide +kernel)
set_option maxRecDepth 100000 in
theorem am_ok34 : ∀ e ∈ am_c34, am_ok ⟨"TagRoundsModel", "wordAt", "(III)I"⟩ 34 e = true := List.all_eq_true.mp (by decide +kernel)
set_option maxRecDepth 100000 in
theorem am_de35 : ∀ e ∈ am_c35, am_deOk prog_14_method_25_code e = true := List.all_eq_true.mp (by decide +kernel)
set_option maxRecDepth 100000 in
theorem am_ok35 : ∀ e ∈ am_c35, am_ok ⟨"TagRoundsModel", "sums", "(I)V"⟩ 35 e = true := List.all_eq_true.mp (by decide +kernel)
set_option maxRecDepth 100000 in
theorem am_de36_0 : ∀ e ∈ am_c36_0, am_deOk prog_14_method_27_code e = true := List.all_eq_true.mp (by decide +kernel)
set_option maxRecDepth 100000 in
theorem am_ok36_0 : ∀ e ∈ am_c36_0, am_ok ⟨"TagRoundsModel", "add", "(IIII)I"⟩ 36 e = true := List.all_eq_true.mp (by decide +kernel)
set_option maxRecDepth 100000 in
theorem am_de36_1 : ∀ e ∈ am_c36_1, am_deOk prog_14_method_27_code e = true := List.all_eq_true.mp (by decide +kernel)
set_option maxRecDepth 100000 in
theorem am_ok36_1 : ∀ e ∈ am_c36_1, am_ok ⟨"TagRoundsModel", "add", "(IIII)I"⟩ 36 e = true := List.all_eq_true.mp (by decide +kernel)
set_option maxRecDepth 100000 in
theorem am_de36 : ∀ e ∈ am_c36, am_deOk prog_14_method_27_code e = true := am_app am_de36_0 (am_de36_1)
set_option maxRecDepth 100000 in
theorem am_ok36 : ∀ e ∈ am_c36, am_ok ⟨"TagRoundsModel", "add", "(IIII)I"⟩ 36 e = true := am_app am_ok36_0 (am_ok36_1)
set_option maxRecDepth 100000 in
theorem am_de37 : ∀ e ∈ am_c37, am_deOk prog_14_method_1_code e = true := List.all_eq_true.mp (by decide +kernel)
set_option maxRecDepth 100000 in
theorem am_ok37 : ∀ e ∈ am_c37, am_ok ⟨"TagRoundsModel", "thrown", "()I"⟩ 37 e = true := List.all_eq_true.mp (by decide +kernel)
set_option maxRecDepth 100000 in
theorem am_de38 : ∀ e ∈ am_c38, am_deOk prog_38_method_11_code e = true := List.all_eq_true.mp (by decide +kernel)
set_option maxRecDepth 100000 in
theorem am_ok38 : ∀ e ∈ am_c38, am_ok ⟨"jdk/internal/util/Preconditions", "checkIndex", "(IILjava/util/function/BiFunction;)I"⟩ 38 e = true := List.all_eq_true.mp (by decide +kernel)
set_option maxRecDepth 100000 in
theorem am_de39 : ∀ e ∈ am_c39, am_deOk prog_34_method_17_code e = true := List.all_eq_true.mp (by decide +kernel)
set_option maxRecDepth 100000 in
theorem am_ok39 : ∀ e ∈ am_c39, am_ok ⟨"java/util/Objects", "checkIndex", "(II)I"⟩ 39 e = true := List.all_eq_true.mp (by decide +kernel)
set_option maxRecDepth 100000 in
theorem am_de40 : ∀ e ∈ am_c40, am_deOk prog_29_method_18_code e = true := List.all_eq_true.mp (by decide +kernel)
set_option maxRecDepth 100000 in
theorem am_ok40 : ∀ e ∈ am_c40, am_ok ⟨"java/util/ArrayList", "elementData", "(I)Ljava/lang/Object;"⟩ 40 e = true := List.all_eq_true.mp (by decide +kernel)
set_option maxRecDepth 100000 in
theorem am_de41 : ∀ e ∈ am_c41, am_deOk prog_29_method_20_code e = true := List.all_eq_true.mp (by decide +kernel)
set_option maxRecDepth 100000 in
theorem am_ok41 : ∀ e ∈ am_c41, am_ok ⟨"java/util/ArrayList", "get", "(I)Ljava/lang/Object;"⟩ 41 e = true := List.all_eq_true.mp (by decide +kernel)
set_option maxRecDepth 100000 in
theorem am_de42 : ∀ e ∈ am_c42, am_deOk prog_1_method_40_code e = true := List.all_eq_true.mp (by decide +kernel)
set_option maxRecDepth 100000 in
theorem am_ok42 : ∀ e ∈ am_c42, am_ok ⟨"TagRounds", "needTag", "(I)LTagRounds$Tag;"⟩ 42 e = true := List.all_eq_true.mp (by decide +kernel)
set_option maxRecDepth 100000 in
theorem am_de43 : ∀ e ∈ am_c43, am_deOk prog_1_method_3_code e = true := List.all_eq_true.mp (by decide +kernel)
set_option maxRecDepth 100000 in
theorem am_ok43 : ∀ e ∈ am_c43, am_ok ⟨"TagRounds", "move", "(II)I"⟩ 43 e = true := List.all_eq_true.mp (by decide +kernel)
set_option maxRecDepth 100000 in
theorem am_de44 : ∀ e ∈ am_c44, am_deOk method_4_code e = true := List.all_eq_true.mp (by decide +kernel)
set_option maxRecDepth 100000 in
theorem am_ok44 : ∀ e ∈ am_c44, am_ok ⟨"TagRoundsLaw", "move", "(LTagRounds;II[J)I"⟩ 44 e = true := List.all_eq_true.mp (by decide +kernel)
set_option maxRecDepth 100000 in
theorem am_de45 : ∀ e ∈ am_c45, am_deOk prog_14_method_8_code e = true := List.all_eq_true.mp (by decide +kernel)
set_option maxRecDepth 100000 in
theorem am_ok45 : ∀ e ∈ am_c45, am_ok ⟨"TagRoundsModel", "isTag", "(I)Z"⟩ 45 e = true := List.all_eq_true.mp (by decide +kernel)
set_option maxRecDepth 100000 in
theorem am_de46 : ∀ e ∈ am_c46, am_deOk prog_14_method_11_code e = true := List.all_eq_true.mp (by decide +kernel)
set_option maxRecDepth 100000 in
theorem am_ok46 : ∀ e ∈ am_c46, am_ok ⟨"TagRoundsModel", "hasPower", "(I)Z"⟩ 46 e = true := List.all_eq_true.mp (by decide +kernel)
set_option maxRecDepth 100000 in
theorem am_de47 : ∀ e ∈ am_c47, am_deOk prog_14_method_19_code e = true := List.all_eq_true.mp (by decide +kernel)
set_option maxRecDepth 100000 in
theorem am_ok47 : ∀ e ∈ am_c47, am_ok ⟨"TagRoundsModel", "rests", "(II)V"⟩ 47 e = true := List.all_eq_true.mp (by decide +kernel)
set_option maxRecDepth 100000 in
theorem am_de48 : ∀ e ∈ am_c48, am_deOk prog_14_method_14_code e = true := List.all_eq_true.mp (by decide +kernel)
set_option maxRecDepth 100000 in
theorem am_ok48 : ∀ e ∈ am_c48, am_ok ⟨"TagRoundsModel", "flagOf", "(II)I"⟩ 48 e = true := List.all_eq_true.mp (by decide +kernel)
set_option maxRecDepth 100000 in
theorem am_de49 : ∀ e ∈ am_c49, am_deOk prog_14_method_16_code e = true := List.all_eq_true.mp (by decide +kernel)
set_option maxRecDepth 100000 in
theorem am_ok49 : ∀ e ∈ am_c49, am_ok ⟨"TagRoundsModel", "fadesOne", "(I)V"⟩ 49 e = true := List.all_eq_true.mp (by decide +kernel)
set_option maxRecDepth 100000 in
theorem am_de50 : ∀ e ∈ am_c50, am_deOk prog_14_method_20_code e = true := List.all_eq_true.mp (by decide +kernel)
set_option maxRecDepth 100000 in
theorem am_ok50 : ∀ e ∈ am_c50, am_ok ⟨"TagRoundsModel", "looks", "(IZ)V"⟩ 50 e = true := List.all_eq_true.mp (by decide +kernel)
set_option maxRecDepth 100000 in
theorem am_de51 : ∀ e ∈ am_c51, am_deOk prog_14_method_28_code e = true := List.all_eq_true.mp (by decide +kernel)
set_option maxRecDepth 100000 in
theorem am_ok51 : ∀ e ∈ am_c51, am_ok ⟨"TagRoundsModel", "move", "(II)I"⟩ 51 e = true := List.all_eq_true.mp (by decide +kernel)
set_option maxRecDepth 100000 in
theorem am_de52 : ∀ e ∈ am_c52, am_deOk prog_1_method_39_code e = true := List.all_eq_true.mp (by decide +kernel)
set_option maxRecDepth 100000 in
theorem am_ok52 : ∀ e ∈ am_c52, am_ok ⟨"TagRounds", "needReader", "(I)LTagRounds$Reader;"⟩ 52 e = true := List.all_eq_true.mp (by decide +kernel)
set_option maxRecDepth 100000 in
theorem am_de53 : ∀ e ∈ am_c53, am_deOk prog_1_method_4_code e = true := List.all_eq_true.mp (by decide +kernel)
set_option maxRecDepth 100000 in
theorem am_ok53 : ∀ e ∈ am_c53, am_ok ⟨"TagRounds", "power", "(IZ)Z"⟩ 53 e = true := List.all_eq_true.mp (by decide +kernel)
set_option maxRecDepth 100000 in
theorem am_de54 : ∀ e ∈ am_c54, am_deOk method_5_code e = true := List.all_eq_true.mp (by decide +kernel)
set_option maxRecDepth 100000 in
theorem am_ok54 : ∀ e ∈ am_c54, am_ok ⟨"TagRoundsLaw", "power", "(LTagRounds;IZ[J)I"⟩ 54 e = true := List.all_eq_true.mp (by decide +kernel)
set_option maxRecDepth 100000 in
theorem am_de55 : ∀ e ∈ am_c55, am_deOk prog_14_method_7_code e = true := List.all_eq_true.mp (by decide +kernel)
set_option maxRecDepth 100000 in
theorem am_ok55 : ∀ e ∈ am_c55, am_ok ⟨"TagRoundsModel", "isReader", "(I)Z"⟩ 55 e = true := List.all_eq_true.mp (by decide +kernel)
set_option maxRecDepth 100000 in
theorem am_de56 : ∀ e ∈ am_c56, am_deOk prog_14_method_4_code e = true := List.all_eq_true.mp (by decide +kernel)
set_option maxRecDepth 100000 in
theorem am_ok56 : ∀ e ∈ am_c56, am_ok ⟨"TagRoundsModel", "holds", "(II)Z"⟩ 56 e = true := List.all_eq_true.mp (by decide +kernel)
set_option maxRecDepth 100000 in
theorem am_de57 : ∀ e ∈ am_c57, am_deOk prog_14_method_9_code e = true := List.all_eq_true.mp (by decide +kernel)
set_option maxRecDepth 100000 in
theorem am_ok57 : ∀ e ∈ am_c57, am_ok ⟨"TagRoundsModel", "isOn", "(I)Z"⟩ 57 e = true := List.all_eq_true.mp (by decide +kernel)
set_option maxRecDepth 100000 in
theorem am_de58 : ∀ e ∈ am_c58, am_deOk prog_14_method_29_code e = true := List.all_eq_true.mp (by decide +kernel)
set_option maxRecDepth 100000 in
theorem am_ok58 : ∀ e ∈ am_c58, am_ok ⟨"TagRoundsModel", "power", "(IZ)Z"⟩ 58 e = true := List.all_eq_true.mp (by decide +kernel)
set_option maxRecDepth 100000 in
theorem am_de59 : ∀ e ∈ am_c59, am_deOk prog_1_method_41_code e = true := List.all_eq_true.mp (by decide +kernel)
set_option maxRecDepth 100000 in
theorem am_ok59 : ∀ e ∈ am_c59, am_ok ⟨"TagRounds", "needKind", "(II)V"⟩ 59 e = true := List.all_eq_true.mp (by decide +kernel)
set_option maxRecDepth 100000 in
theorem am_de60 : ∀ e ∈ am_c60, am_deOk prog_3_method_4_code e = true := List.all_eq_true.mp (by decide +kernel)
set_option maxRecDepth 100000 in
theorem am_ok60 : ∀ e ∈ am_c60, am_ok ⟨"TagRounds$Clock", "told", "(I)I"⟩ 60 e = true := List.all_eq_true.mp (by decide +kernel)
set_option maxRecDepth 100000 in
theorem am_de61 : ∀ e ∈ am_c61, am_deOk prog_3_method_5_code e = true := List.all_eq_true.mp (by decide +kernel)
set_option maxRecDepth 100000 in
theorem am_ok61 : ∀ e ∈ am_c61, am_ok ⟨"TagRounds$Clock", "tell", "(II)V"⟩ 61 e = true := List.all_eq_true.mp (by decide +kernel)
set_option maxRecDepth 100000 in
theorem am_de62 : ∀ e ∈ am_c62, am_deOk prog_6_method_5_code e = true := List.all_eq_true.mp (by decide +kernel)
set_option maxRecDepth 100000 in
theorem am_ok62 : ∀ e ∈ am_c62, am_ok ⟨"TagRounds$Flags", "dropHeld", "()V"⟩ 62 e = true := List.all_eq_true.mp (by decide +kernel)
set_option maxRecDepth 100000 in
theorem am_de63 : ∀ e ∈ am_c63, am_deOk prog_6_method_6_code e = true := List.all_eq_true.mp (by decide +kernel)
set_option maxRecDepth 100000 in
theorem am_ok63 : ∀ e ∈ am_c63, am_ok ⟨"TagRounds$Flags", "dropKept", "()V"⟩ 63 e = true := List.all_eq_true.mp (by decide +kernel)
set_option maxRecDepth 100000 in
theorem am_de64 : ∀ e ∈ am_c64, am_deOk prog_12_method_3_code e = true := List.all_eq_true.mp (by decide +kernel)
set_option maxRecDepth 100000 in
theorem am_ok64 : ∀ e ∈ am_c64, am_ok ⟨"TagRounds$Tag", "fade", "()V"⟩ 64 e = true := List.all_eq_true.mp (by decide +kernel)
set_option maxRecDepth 100000 in
theorem am_de65 : ∀ e ∈ am_c65, am_deOk prog_1_method_46_code e = true := List.all_eq_true.mp (by decide +kernel)
set_option maxRecDepth 100000 in
theorem am_ok65 : ∀ e ∈ am_c65, am_ok ⟨"TagRounds", "fadeFlags", "()V"⟩ 65 e = true := List.all_eq_true.mp (by decide +kernel)
set_option maxRecDepth 100000 in
theorem am_de66 : ∀ e ∈ am_c66, am_deOk prog_1_method_5_code e = true := List.all_eq_true.mp (by decide +kernel)
set_option maxRecDepth 100000 in
theorem am_ok66 : ∀ e ∈ am_c66, am_ok ⟨"TagRounds", "time", "(II)I"⟩ 66 e = true := List.all_eq_true.mp (by decide +kernel)
set_option maxRecDepth 100000 in
theorem am_de67 : ∀ e ∈ am_c67, am_deOk method_6_code e = true := List.all_eq_true.mp (by decide +kernel)
set_option maxRecDepth 100000 in
theorem am_ok67 : ∀ e ∈ am_c67, am_ok ⟨"TagRoundsLaw", "time", "(LTagRounds;II[J)I"⟩ 67 e = true := List.all_eq_true.mp (by decide +kernel)
set_option maxRecDepth 100000 in
theorem am_de68 : ∀ e ∈ am_c68, am_deOk prog_14_method_17_code e = true := List.all_eq_true.mp (by decide +kernel)
set_option maxRecDepth 100000 in
theorem am_ok68 : ∀ e ∈ am_c68, am_ok ⟨"TagRoundsModel", "fadesAll", "()V"⟩ 68 e = true := List.all_eq_true.mp (by decide +kernel)
set_option maxRecDepth 100000 in
theorem am_de69_0 : ∀ e ∈ am_c69_0, am_deOk prog_14_method_30_code e = true := List.all_eq_true.mp (by decide +kernel)
set_option maxRecDepth 100000 in
theorem am_ok69_0 : ∀ e ∈ am_c69_0, am_ok ⟨"TagRoundsModel", "time", "(II)I"⟩ 69 e = true := List.all_eq_true.mp (by decide +kernel)
set_option maxRecDepth 100000 in
theorem am_de69_1 : ∀ e ∈ am_c69_1, am_deOk prog_14_method_30_code e = true := List.all_eq_true.mp (by decide +kernel)
set_option maxRecDepth 100000 in
theorem am_ok69_1 : ∀ e ∈ am_c69_1, am_ok ⟨"TagRoundsModel", "time", "(II)I"⟩ 69 e = true := List.all_eq_true.mp (by decide +kernel)
set_option maxRecDepth 100000 in
theorem am_de69 : ∀ e ∈ am_c69, am_deOk prog_14_method_30_code e = true := am_app am_de69_0 (am_de69_1)
set_option maxRecDepth 100000 in
theorem am_ok69 : ∀ e ∈ am_c69, am_ok ⟨"TagRoundsModel", "time", "(II)I"⟩ 69 e = true := am_app am_ok69_0 (am_ok69_1)
set_option maxRecDepth 100000 in
theorem am_de70 : ∀ e ∈ am_c70, am_deOk prog_1_method_6_code e = true := List.all_eq_true.mp (by decide +kernel)
set_option maxRecDepth 100000 in
theorem am_ok70 : ∀ e ∈ am_c70, am_ok ⟨"TagRounds", "slice", "(III)V"⟩ 70 e = true := List.all_eq_true.mp (by decide +kernel)
set_option maxRecDepth 100000 in
theorem am_de71 : ∀ e ∈ am_c71, am_deOk method_7_code e = true := List.all_eq_true.mp (by decide +kernel)
set_option maxRecDepth 100000 in
theorem am_ok71 : ∀ e ∈ am_c71, am_ok ⟨"TagRoundsLaw", "slice", "(LTagRounds;III)I"⟩ 71 e = true := List.all_eq_true.mp (by decide +kernel)
set_option maxRecDepth 100000 in
theorem am_de72 : ∀ e ∈ am_c72, am_deOk prog_14_method_31_code e = true := List.all_eq_true.mp (by decide +kernel)
set_option maxRecDepth 100000 in
theorem am_ok72 : ∀ e ∈ am_c72, am_ok ⟨"TagRoundsModel", "slice", "(III)V"⟩ 72 e = true := List.all_eq_true.mp (by decide +kernel)
set_option maxRecDepth 100000 in
theorem am_de73 : ∀ e ∈ am_c73, am_deOk prog_3_method_2_code e = true := List.all_eq_true.mp (by decide +kernel)
set_option maxRecDepth 100000 in
theorem am_ok73 : ∀ e ∈ am_c73, am_ok ⟨"TagRounds$Clock", "elapse", "(I)V"⟩ 73 e = true := List.all_eq_true.mp (by decide +kernel)
set_option maxRecDepth 100000 in
theorem am_de74 : ∀ e ∈ am_c74, am_deOk prog_1_method_7_code e = true := List.all_eq_true.mp (by decide +kernel)
set_option maxRecDepth 100000 in
theorem am_ok74 : ∀ e ∈ am_c74, am_ok ⟨"TagRounds", "rest", "(I)I"⟩ 74 e = true := List.all_eq_true.mp (by decide +kernel)
set_option maxRecDepth 100000 in
theorem am_de75 : ∀ e ∈ am_c75, am_deOk method_8_code e = true := List.all_eq_true.mp (by decide +kernel)
set_option maxRecDepth 100000 in
theorem am_ok75 : ∀ e ∈ am_c75, am_ok ⟨"TagRoundsLaw", "rest", "(LTagRounds;I[J)I"⟩ 75 e = true := List.all_eq_true.mp (by decide +kernel)
set_option maxRecDepth 100000 in
theorem am_de76 : ∀ e ∈ am_c76, am_deOk prog_14_method_18_code e = true := List.all_eq_true.mp (by decide +kernel)
set_option maxRecDepth 100000 in
theorem am_ok76 : ∀ e ∈ am_c76, am_ok ⟨"TagRoundsModel", "goes", "(I)V"⟩ 76 e = true := List.all_eq_true.mp (by decide +kernel)
set_option maxRecDepth 100000 in
theorem am_de77 : ∀ e ∈ am_c77, am_deOk prog_14_method_32_code e = true := List.all_eq_true.mp (by decide +kernel)
set_option maxRecDepth 100000 in
theorem am_ok77 : ∀ e ∈ am_c77, am_ok ⟨"TagRoundsModel", "rest", "(I)I"⟩ 77 e = true := List.all_eq_true.mp (by decide +kernel)
set_option maxRecDepth 100000 in
theorem am_de78 : ∀ e ∈ am_c78, am_deOk prog_1_method_8_code e = true := List.all_eq_true.mp (by decide +kernel)
set_option maxRecDepth 100000 in
theorem am_ok78 : ∀ e ∈ am_c78, am_ok ⟨"TagRounds", "seed", "(II)I"⟩ 78 e = true := List.all_eq_true.mp (by decide +kernel)
set_option maxRecDepth 100000 in
theorem am_de79 : ∀ e ∈ am_c79, am_deOk method_9_code e = true := List.all_eq_true.mp (by decide +kernel)
set_option maxRecDepth 100000 in
theorem am_ok79 : ∀ e ∈ am_c79, am_ok ⟨"TagRoundsLaw", "seed", "(LTagRounds;II[J)I"⟩ 79 e = true := List.all_eq_true.mp (by decide +kernel)
set_option maxRecDepth 100000 in
theorem am_de80 : ∀ e ∈ am_c80, am_deOk prog_14_method_33_code e = true := List.all_eq_true.mp (by decide +kernel)
set_option maxRecDepth 100000 in
theorem am_ok80 : ∀ e ∈ am_c80, am_ok ⟨"TagRoundsModel", "seed", "(II)I"⟩ 80 e = true := List.all_eq_true.mp (by decide +kernel)
set_option maxRecDepth 100000 in
theorem am_de81 : ∀ e ∈ am_c81, am_deOk prog_9_method_3_code e = true := List.all_eq_true.mp (by decide +kernel)
set_option maxRecDepth 100000 in
theorem am_ok81 : ∀ e ∈ am_c81, am_ok ⟨"TagRounds$Memory", "bankOf", "(I)[I"⟩ 81 e = true := List.all_eq_true.mp (by decide +kernel)
set_option maxRecDepth 100000 in
theorem am_de82 : ∀ e ∈ am_c82, am_deOk prog_9_method_4_code e = true := List.all_eq_true.mp (by decide +kernel)
set_option maxRecDepth 100000 in
theorem am_ok82 : ∀ e ∈ am_c82, am_ok ⟨"TagRounds$Memory", "has", "(III)Z"⟩ 82 e = true := List.all_eq_true.mp (by decide +kernel)
set_option maxRecDepth 100000 in
theorem am_de83 : ∀ e ∈ am_c83, am_deOk prog_9_method_5_code e = true := List.all_eq_true.mp (by decide +kernel)
set_option maxRecDepth 100000 in
theorem am_ok83 : ∀ e ∈ am_c83, am_ok ⟨"TagRounds$Memory", "mayChange", "(II)Z"⟩ 83 e = true := List.all_eq_true.mp (by decide +kernel)
set_option maxRecDepth 100000 in
theorem am_de84 : ∀ e ∈ am_c84, am_deOk prog_9_method_6_code e = true := List.all_eq_true.mp (by decide +kernel)
set_option maxRecDepth 100000 in
theorem am_ok84 : ∀ e ∈ am_c84, am_ok ⟨"TagRounds$Memory", "get", "(II)I"⟩ 84 e = true := List.all_eq_true.mp (by decide +kernel)
set_option maxRecDepth 100000 in
theorem am_de85 : ∀ e ∈ am_c85, am_deOk prog_9_method_7_code e = true := List.all_eq_true.mp (by decide +kernel)
set_option maxRecDepth 100000 in
theorem am_ok85 : ∀ e ∈ am_c85, am_ok ⟨"TagRounds$Memory", "set", "(III)V"⟩ 85 e = true := List.all_eq_true.mp (by decide +kernel)
set_option maxRecDepth 100000 in
theorem am_de86 : ∀ e ∈ am_c86, am_deOk prog_1_method_9_code e = true := List.all_eq_true.mp (by decide +kernel)
set_option maxRecDepth 100000 in
theorem am_ok86 : ∀ e ∈ am_c86, am_ok ⟨"TagRounds", "store", "(IIII)I"⟩ 86 e = true := List.all_eq_true.mp (by decide +kernel)
set_option maxRecDepth 100000 in
theorem am_de87 : ∀ e ∈ am_c87, am_deOk method_10_code e = true := List.all_eq_true.mp (by decide +kernel)
set_option maxRecDepth 100000 in
theorem am_ok87 : ∀ e ∈ am_c87, am_ok ⟨"TagRoundsLaw", "store", "(LTagRounds;IIII[J)I"⟩ 87 e = true := List.all_eq_true.mp (by decide +kernel)
set_option maxRecDepth 100000 in
theorem am_de88 : ∀ e ∈ am_c88, am_deOk prog_14_method_21_code e = true := List.all_eq_true.mp (by decide +kernel)
set_option maxRecDepth 100000 in
theorem am_ok88 : ∀ e ∈ am_c88, am_ok ⟨"TagRoundsModel", "manyWords", "(II)I"⟩ 88 e = true := List.all_eq_true.mp (by decide +kernel)
set_option maxRecDepth 100000 in
theorem am_de89 : ∀ e ∈ am_c89, am_deOk prog_14_method_22_code e = true := List.all_eq_true.mp (by decide +kernel)
set_option maxRecDepth 100000 in
theorem am_ok89 : ∀ e ∈ am_c89, am_ok ⟨"TagRoundsModel", "isWord", "(III)Z"⟩ 89 e = true := List.all_eq_true.mp (by decide +kernel)
set_option maxRecDepth 100000 in
theorem am_de90 : ∀ e ∈ am_c90, am_deOk prog_14_method_24_code e = true := List.all_eq_true.mp (by decide +kernel)
set_option maxRecDepth 100000 in
theorem am_ok90 : ∀ e ∈ am_c90, am_ok ⟨"TagRoundsModel", "putsWord", "(IIII)V"⟩ 90 e = true := List.all_eq_true.mp (by decide +kernel)
set_option maxRecDepth 100000 in
theorem am_de91 : ∀ e ∈ am_c91, am_deOk prog_14_method_34_code e = true := List.all_eq_true.mp (by decide +kernel)
set_option maxRecDepth 100000 in
theorem am_ok91 : ∀ e ∈ am_c91, am_ok ⟨"TagRoundsModel", "store", "(IIII)I"⟩ 91 e = true := List.all_eq_true.mp (by decide +kernel)
set_option maxRecDepth 100000 in
theorem am_de92 : ∀ e ∈ am_c92, am_deOk prog_8_method_2_code e = true := List.all_eq_true.mp (by decide +kernel)
set_option maxRecDepth 100000 in
theorem am_ok92 : ∀ e ∈ am_c92, am_ok ⟨"TagRounds$Mask", "tell", "(IIII)V"⟩ 92 e = true := List.all_eq_true.mp (by decide +kernel)
set_option maxRecDepth 100000 in
theorem am_de93 : ∀ e ∈ am_c93, am_deOk prog_1_method_10_code e = true := List.all_eq_true.mp (by decide +kernel)
set_option maxRecDepth 100000 in
theorem am_ok93 : ∀ e ∈ am_c93, am_ok ⟨"TagRounds", "mask", "(IIII)V"⟩ 93 e = true := List.all_eq_true.mp (by decide +kernel)
set_option maxRecDepth 100000 in
theorem am_de94 : ∀ e ∈ am_c94, am_deOk method_11_code e = true := List.all_eq_true.mp (by decide +kernel)
set_option maxRecDepth 100000 in
theorem am_ok94 : ∀ e ∈ am_c94, am_ok ⟨"TagRoundsLaw", "mask", "(LTagRounds;IIII)I"⟩ 94 e = true := List.all_eq_true.mp (by decide +kernel)
set_option maxRecDepth 100000 in
theorem am_de95 : ∀ e ∈ am_c95, am_deOk prog_14_method_35_code e = true := List.all_eq_true.mp (by decide +kernel)
set_option maxRecDepth 100000 in
theorem am_ok95 : ∀ e ∈ am_c95, am_ok ⟨"TagRoundsModel", "mask", "(IIII)V"⟩ 95 e = true := List.all_eq_true.mp (by decide +kernel)
set_option maxRecDepth 100000 in
theorem am_de96 : ∀ e ∈ am_c96, am_deOk prog_3_method_3_code e = true := List.all_eq_true.mp (by decide +kernel)
set_option maxRecDepth 100000 in
theorem am_ok96 : ∀ e ∈ am_c96, am_ok ⟨"TagRounds$Clock", "isOver", "()Z"⟩ 96 e = true := List.all_eq_true.mp (by decide +kernel)
set_option maxRecDepth 100000 in
theorem am_de97 : ∀ e ∈ am_c97, am_deOk prog_1_method_43_code e = true := List.all_eq_true.mp (by decide +kernel)
set_option maxRecDepth 100000 in
theorem am_ok97 : ∀ e ∈ am_c97, am_ok ⟨"TagRounds", "needCommand", "(LTagRounds$Reader;)V"⟩ 97 e = true := List.all_eq_true.mp (by decide +kernel)
set_option maxRecDepth 100000 in
theorem am_de98 : ∀ e ∈ am_c98, am_deOk prog_9_method_8_code e = true := List.all_eq_true.mp (by decide +kernel)
set_option maxRecDepth 100000 in
theorem am_ok98 : ∀ e ∈ am_c98, am_ok ⟨"TagRounds$Memory", "bitOf", "(II)I"⟩ 98 e = true := List.all_eq_true.mp (by decide +kernel)
set_option maxRecDepth 100000 in
theorem am_de99 : ∀ e ∈ am_c99, am_deOk prog_8_method_3_code e = true := List.all_eq_true.mp (by decide +kernel)
set_option maxRecDepth 100000 in
theorem am_ok99 : ∀ e ∈ am_c99, am_ok ⟨"TagRounds$Mask", "matches", "(LTagRounds$Memory;)Z"⟩ 99 e = true := List.all_eq_true.mp (by decide +kernel)
set_option maxRecDepth 100000 in
theorem am_de100 : ∀ e ∈ am_c100, am_deOk prog_1_method_54_code e = true := List.all_eq_true.mp (by decide +kernel)
set_option maxRecDepth 100000 in
theorem am_ok100 : ∀ e ∈ am_c100, am_ok ⟨"TagRounds", "matchingBits", "()I"⟩ 100 e = true := List.all_eq_true.mp (by decide +kernel)
set_option maxRecDepth 100000 in
theorem am_de101 : ∀ e ∈ am_c101, am_deOk prog_10_method_2_code e = true := List.all_eq_true.mp (by decide +kernel)
set_option maxRecDepth 100000 in
theorem am_ok101 : ∀ e ∈ am_c101, am_ok ⟨"TagRounds$Reader", "isBusyAt", "(I)Z"⟩ 101 e = true := List.all_eq_true.mp (by decide +kernel)
set_option maxRecDepth 100000 in
theorem am_de102 : ∀ e ∈ am_c102, am_deOk prog_1_method_48_code e = true := List.all_eq_true.mp (by decide +kernel)
set_option maxRecDepth 100000 in
theorem am_ok102 : ∀ e ∈ am_c102, am_ok ⟨"TagRounds", "busyAt", "(I)I"⟩ 102 e = true := List.all_eq_true.mp (by decide +kernel)
set_option maxRecDepth 100000 in
theorem am_de103 : ∀ e ∈ am_c103, am_deOk prog_1_method_49_code e = true := List.all_eq_true.mp (by decide +kernel)
set_option maxRecDepth 100000 in
theorem am_ok103 : ∀ e ∈ am_c103, am_ok ⟨"TagRounds", "hears", "(LTagRounds$Tag;II)Z"⟩ 103 e = true := List.all_eq_true.mp (by decide +kernel)
set_option maxRecDepth 100000 in
theorem am_de104 : ∀ e ∈ am_c104, am_deOk prog_1_method_50_code e = true := List.all_eq_true.mp (by decide +kernel)
set_option maxRecDepth 100000 in
theorem am_ok104 : ∀ e ∈ am_c104, am_ok ⟨"TagRounds", "hearingBits", "(I)I"⟩ 104 e = true := List.all_eq_true.mp (by decide +kernel)
set_option maxRecDepth 100000 in
theorem am_de105 : ∀ e ∈ am_c105, am_deOk prog_1_method_53_code e = true := List.all_eq_true.mp (by decide +kernel)
set_option maxRecDepth 100000 in
theorem am_ok105 : ∀ e ∈ am_c105, am_ok ⟨"TagRounds", "killedBits", "()I"⟩ 105 e = true := List.all_eq_true.mp (by decide +kernel)
set_option maxRecDepth 100000 in
theorem am_de106 : ∀ e ∈ am_c106, am_deOk prog_21_method_49_code e = true := List.all_eq_true.mp (by decide +kernel)
set_option maxRecDepth 100000 in
theorem am_ok106 : ∀ e ∈ am_c106, am_ok ⟨"java/lang/Integer", "bitCount", "(I)I"⟩ 106 e = true := List.all_eq_true.mp (by decide +kernel)
set_option maxRecDepth 100000 in
theorem am_de107 : ∀ e ∈ am_c107, am_deOk prog_4_method_2_code e = true := List.all_eq_true.mp (by decide +kernel)
set_option maxRecDepth 100000 in
theorem am_ok107 : ∀ e ∈ am_c107, am_ok ⟨"TagRounds$Command", "setSelect", "(II)V"⟩ 107 e = true := List.all_eq_true.mp (by decide +kernel)
set_option maxRecDepth 100000 in
theorem am_de108 : ∀ e ∈ am_c108, am_deOk prog_11_method_5_code e = true := List.all_eq_true.mp (by decide +kernel)
set_option maxRecDepth 100000 in
theorem am_ok108 : ∀ e ∈ am_c108, am_ok ⟨"TagRounds$Signal", "put", "(II)V"⟩ 108 e = true := List.all_eq_true.mp (by decide +kernel)
set_option maxRecDepth 100000 in
theorem am_de109 : ∀ e ∈ am_c109, am_deOk prog_11_method_10_code e = true := List.all_eq_true.mp (by decide +kernel)
set_option maxRecDepth 100000 in
theorem am_ok109 : ∀ e ∈ am_c109, am_ok ⟨"TagRounds$Signal", "putCheck16", "()V"⟩ 109 e = true := List.all_eq_true.mp (by decide +kernel)
set_option maxRecDepth 100000 in
theorem am_de110 : ∀ e ∈ am_c110, am_deOk prog_11_method_7_code e = true := List.all_eq_true.mp (by decide +kernel)
set_option maxRecDepth 100000 in
theorem am_ok110 : ∀ e ∈ am_c110, am_ok ⟨"TagRounds$Signal", "putSelect", "(LTagRounds$Command;LTagRounds$Mask;)V"⟩ 110 e = true := List.all_eq_true.mp (by decide +kernel)
set_option maxRecDepth 100000 in
theorem am_de111 : ∀ e ∈ am_c111, am_deOk prog_11_method_3_code e = true := List.all_eq_true.mp (by decide +kernel)
set_option maxRecDepth 100000 in
theorem am_ok111 : ∀ e ∈ am_c111, am_ok ⟨"TagRounds$Signal", "step5", "(II)I"⟩ 111 e = true := List.all_eq_true.mp (by decide +kernel)
set_option maxRecDepth 100000 in
theorem am_de112 : ∀ e ∈ am_c112, am_deOk prog_11_method_11_code e = true := List.all_eq_true.mp (by decide +kernel)
set_option maxRecDepth 100000 in
theorem am_ok112 : ∀ e ∈ am_c112, am_ok ⟨"TagRounds$Signal", "putCheck5", "()V"⟩ 112 e = true := List.all_eq_true.mp (by decide +kernel)
set_option maxRecDepth 100000 in
theorem am_de113 : ∀ e ∈ am_c113, am_deOk prog_11_method_8_code e = true := List.all_eq_true.mp (by decide +kernel)
set_option maxRecDepth 100000 in
theorem am_ok113 : ∀ e ∈ am_c113, am_ok ⟨"TagRounds$Signal", "putQuery", "(LTagRounds$Command;)V"⟩ 113 e = true := List.all_eq_true.mp (by decide +kernel)
set_option maxRecDepth 100000 in
theorem am_de114_0 : ∀ e ∈ am_c114_0, am_deOk prog_11_method_9_code e = true := List.all_eq_true.mp (by decide +kernel)
set_option maxRecDepth 100000 in
theorem am_ok114_0 : ∀ e ∈ am_c114_0, am_ok ⟨"TagRounds$Signal", "putAccess", "(LTagRounds$Command;)V"⟩ 114 e = true := List.all_eq_true.mp (by decide +kernel)
set_option maxRecDepth 100000 in
theorem am_de114_1 : ∀ e ∈ am_c114_1, am_deOk prog_11_method_9_code e = true := List.all_eq_true.mp (by decide +kernel)
set_option maxRecDepth 100000 in
theorem am_ok114_1 : ∀ e ∈ am_c114_1, am_ok ⟨"TagRounds$Signal", "putAccess", "(LTagRounds$Command;)V"⟩ 114 e = true := List.all_eq_true.mp (by decide +kernel)
set_option maxRecDepth 100000 in
theorem am_de114 : ∀ e ∈ am_c114, am_deOk prog_11_method_9_code e = true := am_app am_de114_0 (am_de114_1)
set_option maxRecDepth 100000 in
theorem am_ok114 : ∀ e ∈ am_c114, am_ok ⟨"TagRounds$Signal", "putAccess", "(LTagRounds$Command;)V"⟩ 114 e = true := am_app am_ok114_0 (am_ok114_1)
set_option maxRecDepth 100000 in
theorem am_de115 : ∀ e ∈ am_c115, am_deOk prog_11_method_6_code e = true := List.all_eq_true.mp (by decide +kernel)
set_option maxRecDepth 100000 in
theorem am_ok115 : ∀ e ∈ am_c115, am_ok ⟨"TagRounds$Signal", "encode", "(LTagRounds$Command;LTagRounds$Mask;)V"⟩ 115 e = true := List.all_eq_true.mp (by decide +kernel)
set_option maxRecDepth 100000 in
theorem am_de116 : ∀ e ∈ am_c116, am_deOk prog_4_method_8_code e = true := List.all_eq_true.mp (by decide +kernel)
set_option maxRecDepth 100000 in
theorem am_ok116 : ∀ e ∈ am_c116, am_ok ⟨"TagRounds$Command", "isAnswered", "()Z"⟩ 116 e = true := List.all_eq_true.mp (by decide +kernel)
set_option maxRecDepth 100000 in
theorem am_de117 : ∀ e ∈ am_c117, am_deOk prog_2_method_2_code e = true := List.all_eq_true.mp (by decide +kernel)
set_option maxRecDepth 100000 in
theorem am_ok117 : ∀ e ∈ am_c117, am_ok ⟨"TagRounds$Answer", "clear", "()V"⟩ 117 e = true := List.all_eq_true.mp (by decide +kernel)
set_option maxRecDepth 100000 in
theorem am_de118 : ∀ e ∈ am_c118, am_deOk prog_4_method_9_code e = true := List.all_eq_true.mp (by decide +kernel)
set_option maxRecDepth 100000 in
theorem am_ok118 : ∀ e ∈ am_c118, am_ok ⟨"TagRounds$Command", "keepsHalfOf", "(Z)Z"⟩ 118 e = true := List.all_eq_true.mp (by decide +kernel)
set_option maxRecDepth 100000 in
theorem am_de119 : ∀ e ∈ am_c119, am_deOk prog_12_method_13_code e = true := List.all_eq_true.mp (by decide +kernel)
set_option maxRecDepth 100000 in
theorem am_ok119 : ∀ e ∈ am_c119, am_ok ⟨"TagRounds$Tag", "beReady", "()V"⟩ 119 e = true := List.all_eq_true.mp (by decide +kernel)
set_option maxRecDepth 100000 in
theorem am_de120 : ∀ e ∈ am_c120, am_deOk prog_12_method_18_code e = true := List.all_eq_true.mp (by decide +kernel)
set_option maxRecDepth 100000 in
theorem am_ok120 : ∀ e ∈ am_c120, am_ok ⟨"TagRounds$Tag", "toDoBy", "([II)I"⟩ 120 e = true := List.all_eq_true.mp (by decide +kernel)
set_option maxRecDepth 100000 in
theorem am_de121 : ∀ e ∈ am_c121, am_deOk prog_6_method_2_code e = true := List.all_eq_true.mp (by decide +kernel)
set_option maxRecDepth 100000 in
theorem am_ok121 : ∀ e ∈ am_c121, am_ok ⟨"TagRounds$Flags", "get", "(I)I"⟩ 121 e = true := List.all_eq_true.mp (by decide +kernel)
set_option maxRecDepth 100000 in
theorem am_de122 : ∀ e ∈ am_c122, am_deOk prog_6_method_4_code e = true := List.all_eq_true.mp (by decide +kernel)
set_option maxRecDepth 100000 in
theorem am_ok122 : ∀ e ∈ am_c122, am_ok ⟨"TagRounds$Flags", "flip", "(II)V"⟩ 122 e = true := List.all_eq_true.mp (by decide +kernel)
set_option maxRecDepth 100000 in
theorem am_de123 : ∀ e ∈ am_c123, am_deOk prog_12_method_17_code e = true := List.all_eq_true.mp (by decide +kernel)
set_option maxRecDepth 100000 in
theorem am_ok123 : ∀ e ∈ am_c123, am_ok ⟨"TagRounds$Tag", "obeySelect", "(LTagRounds$Command;Z)V"⟩ 123 e = true := List.all_eq_true.mp (by decide +kernel)
set_option maxRecDepth 100000 in
theorem am_de124 : ∀ e ∈ am_c124, am_deOk prog_12_method_7_code e = true := List.all_eq_true.mp (by decide +kernel)
set_option maxRecDepth 100000 in
theorem am_ok124 : ∀ e ∈ am_c124, am_ok ⟨"TagRounds$Tag", "isOpen", "()Z"⟩ 124 e = true := List.all_eq_true.mp (by decide +kernel)
set_option maxRecDepth 100000 in
theorem am_de125 : ∀ e ∈ am_c125, am_deOk prog_12_method_6_code e = true := List.all_eq_true.mp (by decide +kernel)
set_option maxRecDepth 100000 in
theorem am_ok125 : ∀ e ∈ am_c125, am_ok ⟨"TagRounds$Tag", "isSingled", "()Z"⟩ 125 e = true := List.all_eq_true.mp (by decide +kernel)
set_option maxRecDepth 100000 in
theorem am_de126 : ∀ e ∈ am_c126, am_deOk prog_12_method_8_code e = true := List.all_eq_true.mp (by decide +kernel)
set_option maxRecDepth 100000 in
theorem am_ok126 : ∀ e ∈ am_c126, am_ok ⟨"TagRounds$Tag", "draw", "()I"⟩ 126 e = true := List.all_eq_true.mp (by decide +kernel)
set_option maxRecDepth 100000 in
theorem am_de127 : ∀ e ∈ am_c127, am_deOk prog_2_method_3_code e = true := List.all_eq_true.mp (by decide +kernel)
set_option maxRecDepth 100000 in
theorem am_ok127 : ∀ e ∈ am_c127, am_ok ⟨"TagRounds$Answer", "say", "(II)V"⟩ 127 e = true := List.all_eq_true.mp (by decide +kernel)
set_option maxRecDepth 100000 in
theorem am_de128 : ∀ e ∈ am_c128, am_deOk prog_12_method_14_code e = true := List.all_eq_true.mp (by decide +kernel)
set_option maxRecDepth 100000 in
theorem am_ok128 : ∀ e ∈ am_c128, am_ok ⟨"TagRounds$Tag", "waitOn", "()V"⟩ 128 e = true := List.all_eq_true.mp (by decide +kernel)
set_option maxRecDepth 100000 in
theorem am_de129 : ∀ e ∈ am_c129, am_deOk prog_12_method_16_code e = true := List.all_eq_true.mp (by decide +kernel)
set_option maxRecDepth 100000 in
theorem am_ok129 : ∀ e ∈ am_c129, am_ok ⟨"TagRounds$Tag", "replyOrWait", "(LTagRounds$Answer;)V"⟩ 129 e = true := List.all_eq_true.mp (by decide +kernel)
set_option maxRecDepth 100000 in
theorem am_de130 : ∀ e ∈ am_c130, am_deOk prog_12_method_15_code e = true := List.all_eq_true.mp (by decide +kernel)
set_option maxRecDepth 100000 in
theorem am_ok130 : ∀ e ∈ am_c130, am_ok ⟨"TagRounds$Tag", "drawSlot", "(ILTagRounds$Answer;)V"⟩ 130 e = true := List.all_eq_true.mp (by decide +kernel)
set_option maxRecDepth 100000 in
theorem am_de131 : ∀ e ∈ am_c131, am_deOk prog_12_method_19_code e = true := List.all_eq_true.mp (by decide +kernel)
set_option maxRecDepth 100000 in
theorem am_ok131 : ∀ e ∈ am_c131, am_ok ⟨"TagRounds$Tag", "obeyQuery", "(LTagRounds$Command;LTagRounds$Answer;)V"⟩ 131 e = true := List.all_eq_true.mp (by decide +kernel)
set_option maxRecDepth 100000 in
theorem am_de132 : ∀ e ∈ am_c132, am_deOk prog_12_method_5_code e = true := List.all_eq_true.mp (by decide +kernel)
set_option maxRecDepth 100000 in
theorem am_ok132 : ∀ e ∈ am_c132, am_ok ⟨"TagRounds$Tag", "isInRound", "(I)Z"⟩ 132 e = true := List.all_eq_true.mp (by decide +kernel)
set_option maxRecDepth 100000 in
theorem am_de133 : ∀ e ∈ am_c133, am_deOk prog_12_method_20_code e = true := List.all_eq_true.mp (by decide +kernel)
set_option maxRecDepth 100000 in
theorem am_ok133 : ∀ e ∈ am_c133, am_ok ⟨"TagRounds$Tag", "obeyStep", "(LTagRounds$Command;LTagRounds$Answer;)V"⟩ 133 e = true := List.all_eq_true.mp (by decide +kernel)
set_option maxRecDepth 100000 in
theorem am_de134 : ∀ e ∈ am_c134, am_deOk prog_2_method_4_code e = true := List.all_eq_true.mp (by decide +kernel)
set_option maxRecDepth 100000 in
theorem am_ok134 : ∀ e ∈ am_c134, am_ok ⟨"TagRounds$Answer", "put", "(I)V"⟩ 134 e = true := List.all_eq_true.mp (by decide +kernel)
set_option maxRecDepth 100000 in
theorem am_de135 : ∀ e ∈ am_c135, am_deOk prog_12_method_21_code e = true := List.all_eq_true.mp (by decide +kernel)
set_option maxRecDepth 100000 in
theorem am_ok135 : ∀ e ∈ am_c135, am_ok ⟨"TagRounds$Tag", "obeyAck", "(LTagRounds$Command;LTagRounds$Answer;)V"⟩ 135 e = true := List.all_eq_true.mp (by decide +kernel)
set_option maxRecDepth 100000 in
theorem am_de136 : ∀ e ∈ am_c136, am_deOk prog_9_method_13_code e = true := List.all_eq_true.mp (by decide +kernel)
set_option maxRecDepth 100000 in
theorem am_ok136 : ∀ e ∈ am_c136, am_ok ⟨"TagRounds$Memory", "isAccessFree", "()Z"⟩ 136 e = true := List.all_eq_true.mp (by decide +kernel)
set_option maxRecDepth 100000 in
theorem am_de137 : ∀ e ∈ am_c137, am_deOk prog_12_method_22_code e = true := List.all_eq_true.mp (by decide +kernel)
set_option maxRecDepth 100000 in
theorem am_ok137 : ∀ e ∈ am_c137, am_ok ⟨"TagRounds$Tag", "obeyRenew", "(LTagRounds$Command;LTagRounds$Answer;)V"⟩ 137 e = true := List.all_eq_true.mp (by decide +kernel)
set_option maxRecDepth 100000 in
theorem am_de138 : ∀ e ∈ am_c138, am_deOk prog_9_method_14_code e = true := List.all_eq_true.mp (by decide +kernel)
set_option maxRecDepth 100000 in
theorem am_ok138 : ∀ e ∈ am_c138, am_ok ⟨"TagRounds$Memory", "isRight", "(ZII)Z"⟩ 138 e = true := List.all_eq_true.mp (by decide +kernel)
set_option maxRecDepth 100000 in
theorem am_de139 : ∀ e ∈ am_c139, am_deOk prog_12_method_25_code e = true := List.all_eq_true.mp (by decide +kernel)
set_option maxRecDepth 100000 in
theorem am_ok139 : ∀ e ∈ am_c139, am_ok ⟨"TagRounds$Tag", "obeyPass", "(LTagRounds$Command;LTagRounds$Answer;)V"⟩ 139 e = true := List.all_eq_true.mp (by decide +kernel)
set_option maxRecDepth 100000 in
theorem am_de140 : ∀ e ∈ am_c140, am_deOk prog_9_method_10_code e = true := List.all_eq_true.mp (by decide +kernel)
set_option maxRecDepth 100000 in
theorem am_ok140 : ∀ e ∈ am_c140, am_ok ⟨"TagRounds$Memory", "modeOf", "(I)I"⟩ 140 e = true := List.all_eq_true.mp (by decide +kernel)
set_option maxRecDepth 100000 in
theorem am_de141 : ∀ e ∈ am_c141, am_deOk prog_9_method_9_code e = true := List.all_eq_true.mp (by decide +kernel)
set_option maxRecDepth 100000 in
theorem am_ok141 : ∀ e ∈ am_c141, am_ok ⟨"TagRounds$Memory", "areaOf", "(II)I"⟩ 141 e = true := List.all_eq_true.mp (by decide +kernel)
set_option maxRecDepth 100000 in
theorem am_de142 : ∀ e ∈ am_c142, am_deOk prog_9_method_12_code e = true := List.all_eq_true.mp (by decide +kernel)
set_option maxRecDepth 100000 in
theorem am_ok142 : ∀ e ∈ am_c142, am_ok ⟨"TagRounds$Memory", "isShut", "(IIZ)Z"⟩ 142 e = true := List.all_eq_true.mp (by decide +kernel)
set_option maxRecDepth 100000 in
theorem am_de143_0 : ∀ e ∈ am_c143_0, am_deOk prog_12_method_24_code e = true := List.all_eq_true.mp (by decide +kernel)
set_option maxRecDepth 100000 in
theorem am_ok143_0 : ∀ e ∈ am_c143_0, am_ok ⟨"TagRounds$Tag", "codeOf", "(LTagRounds$Command;)I"⟩ 143 e = true := List.all_eq_true.mp (by decide +kernel)
set_option maxRecDepth 100000 in
theorem am_de143_1 : ∀ e ∈ am_c143_1, am_deOk prog_12_method_24_code e = true := List.all_eq_true.mp (by decide +kernel)
set_option maxRecDepth 100000 in
theorem am_ok143_1 : ∀ e ∈ am_c143_1, am_ok ⟨"TagRounds$Tag", "codeOf", "(LTagRounds$Command;)I"⟩ 143 e = true := List.all_eq_true.mp (by decide +kernel)
set_option maxRecDepth 100000 in
theorem am_de143 : ∀ e ∈ am_c143, am_deOk prog_12_method_24_code e = true := am_app am_de143_0 (am_de143_1)
set_option maxRecDepth 100000 in
theorem am_ok143 : ∀ e ∈ am_c143, am_ok ⟨"TagRounds$Tag", "codeOf", "(LTagRounds$Command;)I"⟩ 143 e = true := am_app am_ok143_0 (am_ok143_1)
set_option maxRecDepth 100000 in
theorem am_de144 : ∀ e ∈ am_c144, am_deOk prog_9_method_11_code e = true := List.all_eq_true.mp (by decide +kernel)
set_option maxRecDepth 100000 in
theorem am_ok144 : ∀ e ∈ am_c144, am_ok ⟨"TagRounds$Memory", "setMode", "(II)V"⟩ 144 e = true := List.all_eq_true.mp (by decide +kernel)
set_option maxRecDepth 100000 in
theorem am_de145_0 : ∀ e ∈ am_c145_0, am_deOk prog_12_method_23_code e = true := List.all_eq_true.mp (by decide +kernel)
set_option maxRecDepth 100000 in
theorem am_ok145_0 : ∀ e ∈ am_c145_0, am_ok ⟨"TagRounds$Tag", "obeyAccess", "(LTagRounds$Command;LTagRounds$Answer;)V"⟩ 145 e = true := List.all_eq_true.mp (by decide +kernel)
set_option maxRecDepth 100000 in
theorem am_de145_1 : ∀ e ∈ am_c145_1, am_deOk prog_12_method_23_code e = true := List.all_eq_true.mp (by decide +kernel)
set_option maxRecDepth 100000 in
theorem am_ok145_1 : ∀ e ∈ am_c145_1, am_ok ⟨"TagRounds$Tag", "obeyAccess", "(LTagRounds$Command;LTagRounds$Answer;)V"⟩ 145 e = true := List.all_eq_true.mp (by decide +kernel)
set_option maxRecDepth 100000 in
theorem am_de145 : ∀ e ∈ am_c145, am_deOk prog_12_method_23_code e = true := am_app am_de145_0 (am_de145_1)
set_option maxRecDepth 100000 in
theorem am_ok145 : ∀ e ∈ am_c145, am_ok ⟨"TagRounds$Tag", "obeyAccess", "(LTagRounds$Command;LTagRounds$Answer;)V"⟩ 145 e = true := am_app am_ok145_0 (am_ok145_1)
set_option maxRecDepth 100000 in
theorem am_de146 : ∀ e ∈ am_c146, am_deOk prog_12_method_12_code e = true := List.all_eq_true.mp (by decide +kernel)
set_option maxRecDepth 100000 in
theorem am_ok146 : ∀ e ∈ am_c146, am_ok ⟨"TagRounds$Tag", "obey", "(LTagRounds$Command;LTagRounds$Mask;LTagRounds$Answer;)V"⟩ 146 e = true := List.all_eq_true.mp (by decide +kernel)
set_option maxRecDepth 100000 in
theorem am_de147 : ∀ e ∈ am_c147, am_deOk prog_2_method_7_code e = true := List.all_eq_true.mp (by decide +kernel)
set_option maxRecDepth 100000 in
theorem am_ok147 : ∀ e ∈ am_c147, am_ok ⟨"TagRounds$Answer", "ticks", "()I"⟩ 147 e = true := List.all_eq_true.mp (by decide +kernel)
set_option maxRecDepth 100000 in
theorem am_de148 : ∀ e ∈ am_c148, am_deOk prog_2_method_8_code e = true := List.all_eq_true.mp (by decide +kernel)
set_option maxRecDepth 100000 in
theorem am_ok148 : ∀ e ∈ am_c148, am_ok ⟨"TagRounds$Answer", "outcome", "()I"⟩ 148 e = true := List.all_eq_true.mp (by decide +kernel)
set_option maxRecDepth 100000 in
theorem am_de149_0 : ∀ e ∈ am_c149_0, am_deOk prog_1_method_44_code e = true := List.all_eq_true.mp (by decide +kernel)
set_option maxRecDepth 100000 in
theorem am_ok149_0 : ∀ e ∈ am_c149_0, am_ok ⟨"TagRounds", "transmit", "(I)I"⟩ 149 e = true := List.all_eq_true.mp (by decide +kernel)
set_option maxRecDepth 100000 in
theorem am_de149_1 : ∀ e ∈ am_c149_1, am_deOk prog_1_method_44_code e = true := List.all_eq_true.mp (by decide +kernel)
set_option maxRecDepth 100000 in
theorem am_ok149_1 : ∀ e ∈ am_c149_1, am_ok ⟨"TagRounds", "transmit", "(I)I"⟩ 149 e = true := List.all_eq_true.mp (by decide +kernel)
set_option maxRecDepth 100000 in
theorem am_de149 : ∀ e ∈ am_c149, am_deOk prog_1_method_44_code e = true := am_app am_de149_0 (am_de149_1)
set_option maxRecDepth 100000 in
theorem am_ok149 : ∀ e ∈ am_c149, am_ok ⟨"TagRounds", "transmit", "(I)I"⟩ 149 e = true := am_app am_ok149_0 (am_ok149_1)
set_option maxRecDepth 100000 in
theorem am_de150 : ∀ e ∈ am_c150, am_deOk prog_1_method_11_code e = true := List.all_eq_true.mp (by decide +kernel)
set_option maxRecDepth 100000 in
theorem am_ok150 : ∀ e ∈ am_c150, am_ok ⟨"TagRounds", "select", "(III)I"⟩ 150 e = true := List.all_eq_true.mp (by decide +kernel)
set_option maxRecDepth 100000 in
theorem am_de151 : ∀ e ∈ am_c151, am_deOk method_12_code e = true := List.all_eq_true.mp (by decide +kernel)
set_option maxRecDepth 100000 in
theorem am_ok151 : ∀ e ∈ am_c151, am_ok ⟨"TagRoundsLaw", "select", "(LTagRounds;III[J)I"⟩ 151 e = true := List.all_eq_true.mp (by decide +kernel)
set_option maxRecDepth 100000 in
theorem am_de152 : ∀ e ∈ am_c152, am_deOk prog_14_method_37_code e = true := List.all_eq_true.mp (by decide +kernel)
set_option maxRecDepth 100000 in
theorem am_ok152 : ∀ e ∈ am_c152, am_ok ⟨"TagRoundsModel", "cannot", "(II)Z"⟩ 152 e = true := List.all_eq_true.mp (by decide +kernel)
set_option maxRecDepth 100000 in
theorem am_de153 : ∀ e ∈ am_c153, am_deOk prog_14_method_47_code e = true := List.all_eq_true.mp (by decide +kernel)
set_option maxRecDepth 100000 in
theorem am_ok153 : ∀ e ∈ am_c153, am_ok ⟨"TagRoundsModel", "sends", "(II)V"⟩ 153 e = true := List.all_eq_true.mp (by decide +kernel)
set_option maxRecDepth 100000 in
theorem am_de154 : ∀ e ∈ am_c154, am_deOk prog_14_method_48_code e = true := List.all_eq_true.mp (by decide +kernel)
set_option maxRecDepth 100000 in
theorem am_ok154 : ∀ e ∈ am_c154, am_ok ⟨"TagRoundsModel", "begun", "(II)V"⟩ 154 e = true := List.all_eq_true.mp (by decide +kernel)
set_option maxRecDepth 100000 in
theorem am_de155 : ∀ e ∈ am_c155, am_deOk prog_14_method_49_code e = true := List.all_eq_true.mp (by decide +kernel)
set_option maxRecDepth 100000 in
theorem am_ok155 : ∀ e ∈ am_c155, am_ok ⟨"TagRoundsModel", "check", "(III)I"⟩ 155 e = true := List.all_eq_true.mp (by decide +kernel)
set_option maxRecDepth 100000 in
theorem am_de156 : ∀ e ∈ am_c156, am_deOk prog_14_method_50_code e = true := List.all_eq_true.mp (by decide +kernel)
set_option maxRecDepth 100000 in
theorem am_ok156 : ∀ e ∈ am_c156, am_ok ⟨"TagRoundsModel", "checks", "()V"⟩ 156 e = true := List.all_eq_true.mp (by decide +kernel)
set_option maxRecDepth 100000 in
theorem am_de157 : ∀ e ∈ am_c157, am_deOk prog_14_method_10_code e = true := List.all_eq_true.mp (by decide +kernel)
set_option maxRecDepth 100000 in
theorem am_ok157 : ∀ e ∈ am_c157, am_ok ⟨"TagRoundsModel", "isBusy", "(II)Z"⟩ 157 e = true := List.all_eq_true.mp (by decide +kernel)
set_option maxRecDepth 100000 in
theorem am_de158 : ∀ e ∈ am_c158, am_deOk prog_14_method_12_code e = true := List.all_eq_true.mp (by decide +kernel)
set_option maxRecDepth 100000 in
theorem am_ok158 : ∀ e ∈ am_c158, am_ok ⟨"TagRoundsModel", "hearsAt", "(III)Z"⟩ 158 e = true := List.all_eq_true.mp (by decide +kernel)
set_option maxRecDepth 100000 in
theorem am_de159 : ∀ e ∈ am_c159, am_deOk prog_14_method_13_code e = true := List.all_eq_true.mp (by decide +kernel)
set_option maxRecDepth 100000 in
theorem am_ok159 : ∀ e ∈ am_c159, am_ok ⟨"TagRoundsModel", "hears", "(II)Z"⟩ 159 e = true := List.all_eq_true.mp (by decide +kernel)
set_option maxRecDepth 100000 in
theorem am_de160 : ∀ e ∈ am_c160, am_deOk prog_14_method_38_code e = true := List.all_eq_true.mp (by decide +kernel)
set_option maxRecDepth 100000 in
theorem am_ok160 : ∀ e ∈ am_c160, am_ok ⟨"TagRoundsModel", "begins", "(II)V"⟩ 160 e = true := List.all_eq_true.mp (by decide +kernel)
set_option maxRecDepth 100000 in
theorem am_de161 : ∀ e ∈ am_c161, am_deOk prog_14_method_36_code e = true := List.all_eq_true.mp (by decide +kernel)
set_option maxRecDepth 100000 in
theorem am_ok161 : ∀ e ∈ am_c161, am_ok ⟨"TagRoundsModel", "matches", "(I)Z"⟩ 161 e = true := List.all_eq_true.mp (by decide +kernel)
set_option maxRecDepth 100000 in
theorem am_de162 : ∀ e ∈ am_c162, am_deOk prog_14_method_15_code e = true := List.all_eq_true.mp (by decide +kernel)
set_option maxRecDepth 100000 in
theorem am_ok162 : ∀ e ∈ am_c162, am_ok ⟨"TagRoundsModel", "tellsFlag", "(III)V"⟩ 162 e = true := List.all_eq_true.mp (by decide +kernel)
set_option maxRecDepth 100000 in
theorem am_de163_0 : ∀ e ∈ am_c163_0, am_deOk prog_14_method_52_code e = true := List.all_eq_true.mp (by decide +kernel)
set_option maxRecDepth 100000 in
theorem am_ok163_0 : ∀ e ∈ am_c163_0, am_ok ⟨"TagRoundsModel", "select", "(III)I"⟩ 163 e = true := List.all_eq_true.mp (by decide +kernel)
set_option maxRecDepth 100000 in
theorem am_de163_1 : ∀ e ∈ am_c163_1, am_deOk prog_14_method_52_code e = true := List.all_eq_true.mp (by decide +kernel)
set_option maxRecDepth 100000 in
theorem am_ok163_1 : ∀ e ∈ am_c163_1, am_ok ⟨"TagRoundsModel", "select", "(III)I"⟩ 163 e = true := List.all_eq_true.mp (by decide +kernel)
set_option maxRecDepth 100000 in
theorem am_de163 : ∀ e ∈ am_c163, am_deOk prog_14_method_52_code e = true := am_app am_de163_0 (am_de163_1)
set_option maxRecDepth 100000 in
theorem am_ok163 : ∀ e ∈ am_c163, am_ok ⟨"TagRoundsModel", "select", "(III)I"⟩ 163 e = true := am_app am_ok163_0 (am_ok163_1)
set_option maxRecDepth 100000 in
theorem am_de164 : ∀ e ∈ am_c164, am_deOk prog_4_method_3_code e = true := List.all_eq_true.mp (by decide +kernel)
set_option maxRecDepth 100000 in
theorem am_ok164 : ∀ e ∈ am_c164, am_ok ⟨"TagRounds$Command", "setQuery", "(IIII)V"⟩ 164 e = true := List.all_eq_true.mp (by decide +kernel)
