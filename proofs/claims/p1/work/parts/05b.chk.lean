theorem am_app {α : Type} {p : α → Bool} {a b : List α} (ha : ∀ e ∈ a, p e = true) (hb : ∀ e ∈ b, p e = true) : ∀ e ∈ a ++ b, p e = true := fun e he => (List.mem_append.mp he).elim (ha e) (hb e)
set_option maxRecDepth 100000 in
theorem am_wf_ok : ∀ r ∈ am_WF, am_wfOk r = true := List.all_eq_true.mp (by decide +kernel)
set_option maxRecDepth 100000 in
theorem am_wl_ok : ∀ q ∈ am_WL.zip am_WLi, decide (lw_tbl[q.2]? = some q.1) = true := List.all_eq_true.mp (by decide +kernel)
set_option maxRecDepth 100000 in
theorem am_wl_len : am_WL.length = am_WLi.length := by decide +kernel
/-- a method's code, decoded as the table says, its links as the words say -/
set_option maxRecDepth 100000 in
theorem am_de0 : ∀ e ∈ am_c0, am_deOk prog_3_method_1_code e = true := List.all_eq_true.mp (by decide +kernel)
set_option maxRecDepth 100000 in
theorem am_ok0 : ∀ e ∈ am_c0, am_ok ⟨"TagRounds$Clock", "<init>", "()V"⟩ 0 e = true := List.all_eq_true.mp (by decide +kernel)
set_option maxRecDepth 100000 in
theorem am_de1 : ∀ e ∈ am_c1, am_deOk prog_27_method_1_code e = true := List.all_eq_true.mp (by decide +kernel)
set_option maxRecDepth 100000 in
theorem am_ok1 : ∀ e ∈ am_c1, am_ok ⟨"java/util/AbstractCollection", "<init>", "()V"⟩ 1 e = true := List.all_eq_true.mp (by decide +kernel)
set_option maxRecDepth 100000 in
theorem am_de2 : ∀ e ∈ am_c2, am_deOk prog_28_method_1_code e = true := List.all_eq_true.mp (by decide +kernel)
set_option maxRecDepth 100000 in
theorem am_ok2 : ∀ e ∈ am_c2, am_ok ⟨"java/util/AbstractList", "<init>", "()V"⟩ 2 e = true := List.all_eq_true.mp (by decide +kernel)
set_option maxRecDepth 100000 in
theorem am_de3 : ∀ e ∈ am_c3, am_deOk prog_29_method_2_code e = true := List.all_eq_true.mp (by decide +kernel)
set_option maxRecDepth 100000 in
theorem am_ok3 : ∀ e ∈ am_c3, am_ok ⟨"java/util/ArrayList", "<init>", "()V"⟩ 3 e = true := List.all_eq_true.mp (by decide +kernel)
set_option maxRecDepth 100000 in
theorem am_de4 : ∀ e ∈ am_c4, am_deOk prog_8_method_1_code e = true := List.all_eq_true.mp (by decide +kernel)
set_option maxRecDepth 100000 in
theorem am_ok4 : ∀ e ∈ am_c4, am_ok ⟨"TagRounds$Mask", "<init>", "()V"⟩ 4 e = true := List.all_eq_true.mp (by decide +kernel)
set_option maxRecDepth 100000 in
theorem am_de5 : ∀ e ∈ am_c5, am_deOk prog_4_method_1_code e = true := List.all_eq_true.mp (by decide +kernel)
set_option maxRecDepth 100000 in
theorem am_ok5 : ∀ e ∈ am_c5, am_ok ⟨"TagRounds$Command", "<init>", "()V"⟩ 5 e = true := List.all_eq_true.mp (by decide +kernel)
set_option maxRecDepth 100000 in
theorem am_de6 : ∀ e ∈ am_c6, am_deOk prog_11_method_1_code e = true := List.all_eq_true.mp (by decide +kernel)
set_option maxRecDepth 100000 in
theorem am_ok6 : ∀ e ∈ am_c6, am_ok ⟨"TagRounds$Signal", "<init>", "()V"⟩ 6 e = true := List.all_eq_true.mp (by decide +kernel)
set_option maxRecDepth 100000 in
theorem am_de7 : ∀ e ∈ am_c7, am_deOk prog_2_method_1_code e = true := List.all_eq_true.mp (by decide +kernel)
set_option maxRecDepth 100000 in
theorem am_ok7 : ∀ e ∈ am_c7, am_ok ⟨"TagRounds$Answer", "<init>", "()V"⟩ 7 e = true := List.all_eq_true.mp (by decide +kernel)
set_option maxRecDepth 100000 in
theorem am_de8 : ∀ e ∈ am_c8, am_deOk prog_5_method_1_code e = true := List.all_eq_true.mp (by decide +kernel)
set_option maxRecDepth 100000 in
theorem am_ok8 : ∀ e ∈ am_c8, am_ok ⟨"TagRounds$Course", "<init>", "()V"⟩ 8 e = true := List.all_eq_true.mp (by decide +kernel)
set_option maxRecDepth 100000 in
theorem am_de9 : ∀ e ∈ am_c9, am_deOk prog_7_method_1_code e = true := List.all_eq_true.mp (by decide +kernel)
set_option maxRecDepth 100000 in
theorem am_ok9 : ∀ e ∈ am_c9, am_ok ⟨"TagRounds$Journal", "<init>", "()V"⟩ 9 e = true := List.all_eq_true.mp (by decide +kernel)
set_option maxRecDepth 100000 in
theorem am_de10 : ∀ e ∈ am_c10, am_deOk prog_10_method_1_code e = true := List.all_eq_true.mp (by decide +kernel)
set_option maxRecDepth 100000 in
theorem am_ok10 : ∀ e ∈ am_c10, am_ok ⟨"TagRounds$Reader", "<init>", "()V"⟩ 10 e = true := List.all_eq_true.mp (by decide +kernel)
set_option maxRecDepth 100000 in
theorem am_de11 : ∀ e ∈ am_c11, am_deOk prog_1_method_1_code e = true := List.all_eq_true.mp (by decide +kernel)
set_option maxRecDepth 100000 in
theorem am_ok11 : ∀ e ∈ am_c11, am_ok ⟨"TagRounds", "<init>", "()V"⟩ 11 e = true := List.all_eq_true.mp (by decide +kernel)
set_option maxRecDepth 100000 in
theorem am_de12 : ∀ e ∈ am_c12, am_deOk prog_14_method_6_code e = true := List.all_eq_true.mp (by decide +kernel)
set_option maxRecDepth 100000 in
theorem am_ok12 : ∀ e ∈ am_c12, am_ok ⟨"TagRoundsModel", "<init>", "()V"⟩ 12 e = true := List.all_eq_true.mp (by decide +kernel)
set_option maxRecDepth 100000 in
theorem am_de13 : ∀ e ∈ am_c13, am_deOk prog_1_method_42_code e = true := List.all_eq_true.mp (by decide +kernel)
set_option maxRecDepth 100000 in
theorem am_ok13 : ∀ e ∈ am_c13, am_ok ⟨"TagRounds", "needRange", "(III)V"⟩ 13 e = true := List.all_eq_true.mp (by decide +kernel)
set_option maxRecDepth 100000 in
theorem am_de14 : ∀ e ∈ am_c14, am_deOk prog_29_method_8_code e = true := List.all_eq_true.mp (by decide +kernel)
set_option maxRecDepth 100000 in
theorem am_ok14 : ∀ e ∈ am_c14, am_ok ⟨"java/util/ArrayList", "size", "()I"⟩ 14 e = true := List.all_eq_true.mp (by decide +kernel)
set_option maxRecDepth 100000 in
theorem am_de15 : ∀ e ∈ am_c15, am_deOk prog_23_method_69_code e = true := List.all_eq_true.mp (by decide +kernel)
set_option maxRecDepth 100000 in
theorem am_ok15 : ∀ e ∈ am_c15, am_ok ⟨"java/lang/Math", "min", "(II)I"⟩ 15 e = true := List.all_eq_true.mp (by decide +kernel)
set_option maxRecDepth 100000 in
theorem am_de16 : ∀ e ∈ am_c16, am_deOk prog_23_method_65_code e = true := List.all_eq_true.mp (by decide +kernel)
set_option maxRecDepth 100000 in
theorem am_ok16 : ∀ e ∈ am_c16, am_ok ⟨"java/lang/Math", "max", "(II)I"⟩ 16 e = true := List.all_eq_true.mp (by decide +kernel)
set_option maxRecDepth 100000 in
theorem am_de17 : ∀ e ∈ am_c17, am_deOk prog_11_method_2_code e = true := List.all_eq_true.mp (by decide +kernel)
set_option maxRecDepth 100000 in
theorem am_ok17 : ∀ e ∈ am_c17, am_ok ⟨"TagRounds$Signal", "step16", "(II)I"⟩ 17 e = true := List.all_eq_true.mp (by decide +kernel)
set_option maxRecDepth 100000 in
theorem am_de18 : ∀ e ∈ am_c18, am_deOk prog_9_method_2_code e = true := List.all_eq_true.mp (by decide +kernel)
set_option maxRecDepth 100000 in
theorem am_ok18 : ∀ e ∈ am_c18, am_ok ⟨"TagRounds$Memory", "refreshSum", "()V"⟩ 18 e = true := List.all_eq_true.mp (by decide +kernel)
set_option maxRecDepth 100000 in
theorem am_de19 : ∀ e ∈ am_c19, am_deOk prog_9_method_1_code e = true := List.all_eq_true.mp (by decide +kernel)
set_option maxRecDepth 100000 in
theorem am_ok19 : ∀ e ∈ am_c19, am_ok ⟨"TagRounds$Memory", "<init>", "(IIII)V"⟩ 19 e = true := List.all_eq_true.mp (by decide +kernel)
set_option maxRecDepth 100000 in
theorem am_de20 : ∀ e ∈ am_c20, am_deOk prog_6_method_1_code e = true := List.all_eq_true.mp (by decide +kernel)
set_option maxRecDepth 100000 in
theorem am_ok20 : ∀ e ∈ am_c20, am_ok ⟨"TagRounds$Flags", "<init>", "()V"⟩ 20 e = true := List.all_eq_true.mp (by decide +kernel)
set_option maxRecDepth 100000 in
theorem am_de21 : ∀ e ∈ am_c21, am_deOk prog_12_method_1_code e = true := List.all_eq_true.mp (by decide +kernel)
set_option maxRecDepth 100000 in
theorem am_ok21 : ∀ e ∈ am_c21, am_ok ⟨"TagRounds$Tag", "<init>", "(ILTagRounds$Clock;LTagRounds$Memory;)V"⟩ 21 e = true := List.all_eq_true.mp (by decide +kernel)
set_option maxRecDepth 100000 in
theorem am_de22 : ∀ e ∈ am_c22, am_deOk prog_37_method_27_code e = true := List.all_eq_true.mp (by decide +kernel)
set_option maxRecDepth 100000 in
theorem am_ok22 : ∀ e ∈ am_c22, am_ok ⟨"jdk/internal/util/ArraysSupport", "newLength", "(III)I"⟩ 22 e = true := List.all_eq_true.mp (by decide +kernel)
set_option maxRecDepth 100000 in
theorem am_de23 : ∀ e ∈ am_c23, am_deOk prog_29_method_6_code e = true := List.all_eq_true.mp (by decide +kernel)
set_option maxRecDepth 100000 in
theorem am_ok23 : ∀ e ∈ am_c23, am_ok ⟨"java/util/ArrayList", "grow", "(I)[Ljava/lang/Object;"⟩ 23 e = true := List.all_eq_true.mp (by decide +kernel)
set_option maxRecDepth 100000 in
theorem am_de24 : ∀ e ∈ am_c24, am_deOk prog_29_method_7_code e = true := List.all_eq_true.mp (by decide +kernel)
set_option maxRecDepth 100000 in
theorem am_ok24 : ∀ e ∈ am_c24, am_ok ⟨"java/util/ArrayList", "grow", "()[Ljava/lang/Object;"⟩ 24 e = true := List.all_eq_true.mp (by decide +kernel)
set_option maxRecDepth 100000 in
theorem am_de25 : ∀ e ∈ am_c25, am_deOk prog_29_method_24_code e = true := List.all_eq_true.mp (by decide +kernel)
set_option maxRecDepth 100000 in
theorem am_ok25 : ∀ e ∈ am_c25, am_ok ⟨"java/util/ArrayList", "add", "(Ljava/lang/Object;[Ljava/lang/Object;I)V"⟩ 25 e = true := List.all_eq_true.mp (by decide +kernel)
set_option maxRecDepth 100000 in
theorem am_de26 : ∀ e ∈ am_c26, am_deOk prog_29_method_25_code e = true := List.all_eq_true.mp (by decide +kernel)
set_option maxRecDepth 100000 in
theorem am_ok26 : ∀ e ∈ am_c26, am_ok ⟨"java/util/ArrayList", "add", "(Ljava/lang/Object;)Z"⟩ 26 e = true := List.all_eq_true.mp (by decide +kernel)
set_option maxRecDepth 100000 in
theorem am_de27 : ∀ e ∈ am_c27, am_deOk prog_1_method_47_code e = true := List.all_eq_true.mp (by decide +kernel)
set_option maxRecDepth 100000 in
theorem am_ok27 : ∀ e ∈ am_c27, am_ok ⟨"TagRounds", "onBits", "()I"⟩ 27 e = true := List.all_eq_true.mp (by decide +kernel)
set_option maxRecDepth 100000 in
theorem am_de28 : ∀ e ∈ am_c28, am_deOk prog_6_method_3_code e = true := List.all_eq_true.mp (by decide +kernel)
set_option maxRecDepth 100000 in
theorem am_ok28 : ∀ e ∈ am_c28, am_ok ⟨"TagRounds$Flags", "tell", "(III)V"⟩ 28 e = true := List.all_eq_true.mp (by decide +kernel)
set_option maxRecDepth 100000 in
theorem am_de29 : ∀ e ∈ am_c29, am_deOk prog_12_method_2_code e = true := List.all_eq_true.mp (by decide +kernel)
set_option maxRecDepth 100000 in
theorem am_ok29 : ∀ e ∈ am_c29, am_ok ⟨"TagRounds$Tag", "setPower", "(Z)V"⟩ 29 e = true := List.all_eq_true.mp (by decide +kernel)
set_option maxRecDepth 100000 in
theorem am_de30 : ∀ e ∈ am_c30, am_deOk prog_1_method_2_code e = true := List.all_eq_true.mp (by decide +kernel)
set_option maxRecDepth 100000 in
theorem am_ok30 : ∀ e ∈ am_c30, am_ok ⟨"TagRounds", "add", "(IIII)I"⟩ 30 e = true := List.all_eq_true.mp (by decide +kernel)
set_option maxRecDepth 100000 in
theorem am_de31 : ∀ e ∈ am_c31, am_deOk method_3_code e = true := List.all_eq_true.mp (by decide +kernel)
set_option maxRecDepth 100000 in
theorem am_ok31 : ∀ e ∈ am_c31, am_ok ⟨"TagRoundsLaw", "add", "(LTagRounds;IIII[J)I"⟩ 31 e = true := List.all_eq_true.mp (by decide +kernel)
set_option maxRecDepth 100000 in
theorem am_de32 : ∀ e ∈ am_c32, am_deOk prog_14_method_3_code e = true := List.all_eq_true.mp (by decide +kernel)
set_option maxRecDepth 100000 in
theorem am_ok32 : ∀ e ∈ am_c32, am_ok ⟨"TagRoundsModel", "in", "(III)Z"⟩ 32 e = true := List.all_eq_true.mp (by decide +kernel)
set_option maxRecDepth 100000 in
theorem am_de33 : ∀ e ∈ am_c33, am_deOk prog_14_method_2_code e = true := List.all_eq_true.mp (by decide +kernel)
set_option maxRecDepth 100000 in
theorem am_ok33 : ∀ e ∈ am_c33, am_ok ⟨"TagRoundsModel", "throwsIf", "(ZI)Z"⟩ 33 e = true := List.all_eq_true.mp (by decide +kernel)
set_option maxRecDepth 100000 in
theorem am_de34 : ∀ e ∈ am_c34, am_deOk prog_14_method_23_code e = true := List.all_eq_true.mp (by decide +kernel)
set_option maxRecDepth 100000 in
theorem am_ok34 : ∀ e ∈ am_c34, am_ok ⟨"TagRoundsModel", "wordAt", "(III)I"⟩ 34 e = true := List.all_eq_true.mp (by decide +kernel)
set_option maxRecDepth 100000 in
theorem am_de35 : ∀ e ∈ am_c35, am_deOk prog_14_method_25_code e = true := List.all_eq_true.mp (by decide +kernel)
set_option maxRecDepth 100000 in
theorem am_ok35 : ∀ e ∈ am_c35, am_ok ⟨"TagRoundsModel", "sums", "(I)V"⟩ 35 e = true := List.all_eq_true.mp (by decide +kernel)
set_option maxRecDepth 100000 in
theorem am_de36 : ∀ e ∈ am_c36, am_deOk prog_14_method_27_code e = true := List.all_eq_true.mp (by decide +kernel)
set_option maxRecDepth 100000 in
theorem am_ok36 : ∀ e ∈ am_c36, am_ok ⟨"TagRoundsModel", "add", "(IIII)I"⟩ 36 e = true := List.all_eq_true.mp (by decide +kernel)
set_option maxRecDepth 100000 in
theorem am_de37 : ∀ e ∈ am_c37, am_deOk prog_14_method_1_code e = true := List.all_eq_true.mp (by decide +kernel)
set_option maxRecDepth 100000 in
theorem am_ok37 : ∀ e ∈ am_c37, am_ok ⟨"TagRoundsModel", "thrown", "()I"⟩ 37 e = true := List.all_eq_true.mp (by decide +kernel)
set_option maxRecDepth 100000 in
theorem am_de38 : ∀ e ∈ am_c38, am_deOk prog_38_method_11_code e = true := List.all_eq_true.mp (by decide +kernel)
set_option maxRecDepth 100000 in
theorem am_ok38 : ∀ e ∈ am_c38, am_ok ⟨"jdk/internal/util/Preconditions", "checkIndex", "(IILjava/util/function/BiFunction;)I"⟩ 38 e = true := List.all_eq_true.mp (by decide +kernel)
set_option maxRecDepth 100000 in
theorem am_de39 : ∀ e ∈ am_c39, am_deOk prog_34_method_17_code e = true := List.all_eq_true.mp (by decide +kernel)
set_option maxRecDepth 100000 in
theorem am_ok39 : ∀ e ∈ am_c39, am_ok ⟨"java/util/Objects", "checkIndex", "(II)I"⟩ 39 e = true := List.all_eq_true.mp (by decide +kernel)
set_option maxRecDepth 100000 in
theorem am_de40 : ∀ e ∈ am_c40, am_deOk prog_29_method_18_code e = true := List.all_eq_true.mp (by decide +kernel)
set_option maxRecDepth 100000 in
theorem am_ok40 : ∀ e ∈ am_c40, am_ok ⟨"java/util/ArrayList", "elementData", "(I)Ljava/lang/Object;"⟩ 40 e = true := List.all_eq_true.mp (by decide +kernel)
set_option maxRecDepth 100000 in
theorem am_de41 : ∀ e ∈ am_c41, am_deOk prog_29_method_20_code e = true := List.all_eq_true.mp (by decide +kernel)
set_option maxRecDepth 100000 in
theorem am_ok41 : ∀ e ∈ am_c41, am_ok ⟨"java/util/ArrayList", "get", "(I)Ljava/lang/Object;"⟩ 41 e = true := List.all_eq_true.mp (by decide +kernel)
set_option maxRecDepth 100000 in
theorem am_de42 : ∀ e ∈ am_c42, am_deOk prog_1_method_40_code e = true := List.all_eq_true.mp (by decide +kernel)
set_option maxRecDepth 100000 in
theorem am_ok42 : ∀ e ∈ am_c42, am_ok ⟨"TagRounds", "needTag", "(I)LTagRounds$Tag;"⟩ 42 e = true := List.all_eq_true.mp (by decide +kernel)
set_option maxRecDepth 100000 in
theorem am_de43 : ∀ e ∈ am_c43, am_deOk prog_1_method_3_code e = true := List.all_eq_true.mp (by decide +kernel)
set_option maxRecDepth 100000 in
theorem am_ok43 : ∀ e ∈ am_c43, am_ok ⟨"TagRounds", "move", "(II)I"⟩ 43 e = true := List.all_eq_true.mp (by decide +kernel)
set_option maxRecDepth 100000 in
theorem am_de44 : ∀ e ∈ am_c44, am_deOk method_4_code e = true := List.all_eq_true.mp (by decide +kernel)
set_option maxRecDepth 100000 in
theorem am_ok44 : ∀ e ∈ am_c44, am_ok ⟨"TagRoundsLaw", "move", "(LTagRounds;II[J)I"⟩ 44 e = true := List.all_eq_true.mp (by decide +kernel)
set_option maxRecDepth 100000 in
theorem am_de45 : ∀ e ∈ am_c45, am_deOk prog_14_method_8_code e = true := List.all_eq_true.mp (by decide +kernel)
set_option maxRecDepth 100000 in
theorem am_ok45 : ∀ e ∈ am_c45, am_ok ⟨"TagRoundsModel", "isTag", "(I)Z"⟩ 45 e = true := List.all_eq_true.mp (by decide +kernel)
set_option maxRecDepth 100000 in
theorem am_de46 : ∀ e ∈ am_c46, am_deOk prog_14_method_11_code e = true := List.all_eq_true.mp (by decide +kernel)
set_option maxRecDepth 100000 in
theorem am_ok46 : ∀ e ∈ am_c46, am_ok ⟨"TagRoundsModel", "hasPower", "(I)Z"⟩ 46 e = true := List.all_eq_true.mp (by decide +kernel)
set_option maxRecDepth 100000 in
theorem am_de47 : ∀ e ∈ am_c47, am_deOk prog_14_method_19_code e = true := List.all_eq_true.mp (by decide +kernel)
set_option maxRecDepth 100000 in
theorem am_ok47 : ∀ e ∈ am_c47, am_ok ⟨"TagRoundsModel", "rests", "(II)V"⟩ 47 e = true := List.all_eq_true.mp (by decide +kernel)
set_option maxRecDepth 100000 in
theorem am_de48 : ∀ e ∈ am_c48, am_deOk prog_14_method_14_code e = true := List.all_eq_true.mp (by decide +kernel)
set_option maxRecDepth 100000 in
theorem am_ok48 : ∀ e ∈ am_c48, am_ok ⟨"TagRoundsModel", "flagOf", "(II)I"⟩ 48 e = true := List.all_eq_true.mp (by decide +kernel)
set_option maxRecDepth 100000 in
theorem am_de49 : ∀ e ∈ am_c49, am_deOk prog_14_method_16_code e = true := List.all_eq_true.mp (by decide +kernel)
set_option maxRecDepth 100000 in
theorem am_ok49 : ∀ e ∈ am_c49, am_ok ⟨"TagRoundsModel", "fadesOne", "(I)V"⟩ 49 e = true := List.all_eq_true.mp (by decide +kernel)
set_option maxRecDepth 100000 in
theorem am_de50 : ∀ e ∈ am_c50, am_deOk prog_14_method_20_code e = true := List.all_eq_true.mp (by decide +kernel)
set_option maxRecDepth 100000 in
theorem am_ok50 : ∀ e ∈ am_c50, am_ok ⟨"TagRoundsModel", "looks", "(IZ)V"⟩ 50 e = true := List.all_eq_true.mp (by decide +kernel)
set_option maxRecDepth 100000 in
theorem am_de51 : ∀ e ∈ am_c51, am_deOk prog_14_method_28_code e = true := List.all_eq_true.mp (by decide +kernel)
set_option maxRecDepth 100000 in
theorem am_ok51 : ∀ e ∈ am_c51, am_ok ⟨"TagRoundsModel", "move", "(II)I"⟩ 51 e = true := List.all_eq_true.mp (by decide +kernel)
set_option maxRecDepth 100000 in
theorem am_de52 : ∀ e ∈ am_c52, am_deOk prog_1_method_39_code e = true := List.all_eq_true.mp (by decide +kernel)
set_option maxRecDepth 100000 in
theorem am_ok52 : ∀ e ∈ am_c52, am_ok ⟨"TagRounds", "needReader", "(I)LTagRounds$Reader;"⟩ 52 e = true := List.all_eq_true.mp (by decide +kernel)
set_option maxRecDepth 100000 in
theorem am_de53 : ∀ e ∈ am_c53, am_deOk prog_1_method_4_code e = true := List.all_eq_true.mp (by decide +kernel)
set_option maxRecDepth 100000 in
theorem am_ok53 : ∀ e ∈ am_c53, am_ok ⟨"TagRounds", "power", "(IZ)Z"⟩ 53 e = true := List.all_eq_true.mp (by decide +kernel)
set_option maxRecDepth 100000 in
theorem am_de54 : ∀ e ∈ am_c54, am_deOk method_5_code e = true := List.all_eq_true.mp (by decide +kernel)
set_option maxRecDepth 100000 in
theorem am_ok54 : ∀ e ∈ am_c54, am_ok ⟨"TagRoundsLaw", "power", "(LTagRounds;IZ[J)I"⟩ 54 e = true := List.all_eq_true.mp (by decide +kernel)
set_option maxRecDepth 100000 in
theorem am_de55 : ∀ e ∈ am_c55, am_deOk prog_14_method_7_code e = true := List.all_eq_true.mp (by decide +kernel)
set_option maxRecDepth 100000 in
theorem am_ok55 : ∀ e ∈ am_c55, am_ok ⟨"TagRoundsModel", "isReader", "(I)Z"⟩ 55 e = true := List.all_eq_true.mp (by decide +kernel)
set_option maxRecDepth 100000 in
theorem am_de56 : ∀ e ∈ am_c56, am_deOk prog_14_method_4_code e = true := List.all_eq_true.mp (by decide +kernel)
set_option maxRecDepth 100000 in
theorem am_ok56 : ∀ e ∈ am_c56, am_ok ⟨"TagRoundsModel", "holds", "(II)Z"⟩ 56 e = true := List.all_eq_true.mp (by decide +kernel)
set_option maxRecDepth 100000 in
theorem am_de57 : ∀ e ∈ am_c57, am_deOk prog_14_method_9_code e = true := List.all_eq_true.mp (by decide +kernel)
set_option maxRecDepth 100000 in
theorem am_ok57 : ∀ e ∈ am_c57, am_ok ⟨"TagRoundsModel", "isOn", "(I)Z"⟩ 57 e = true := List.all_eq_true.mp (by decide +kernel)
set_option maxRecDepth 100000 in
theorem am_de58 : ∀ e ∈ am_c58, am_deOk prog_14_method_29_code e = true := List.all_eq_true.mp (by decide +kernel)
set_option maxRecDepth 100000 in
theorem am_ok58 : ∀ e ∈ am_c58, am_ok ⟨"TagRoundsModel", "power", "(IZ)Z"⟩ 58 e = true := List.all_eq_true.mp (by decide +kernel)
set_option maxRecDepth 100000 in
theorem am_de59 : ∀ e ∈ am_c59, am_deOk prog_1_method_41_code e = true := List.all_eq_true.mp (by decide +kernel)
set_option maxRecDepth 100000 in
theorem am_ok59 : ∀ e ∈ am_c59, am_ok ⟨"TagRounds", "needKind", "(II)V"⟩ 59 e = true := List.all_eq_true.mp (by decide +kernel)
set_option maxRecDepth 100000 in
theorem am_de60 : ∀ e ∈ am_c60, am_deOk prog_3_method_4_code e = true := List.all_eq_true.mp (by decide +kernel)
set_option maxRecDepth 100000 in
theorem am_ok60 : ∀ e ∈ am_c60, am_ok ⟨"TagRounds$Clock", "told", "(I)I"⟩ 60 e = true := List.all_eq_true.mp (by decide +kernel)
set_option maxRecDepth 100000 in
theorem am_de61 : ∀ e ∈ am_c61, am_deOk prog_3_method_5_code e = true := List.all_eq_true.mp (by decide +kernel)
set_option maxRecDepth 100000 in
theorem am_ok61 : ∀ e ∈ am_c61, am_ok ⟨"TagRounds$Clock", "tell", "(II)V"⟩ 61 e = true := List.all_eq_true.mp (by decide +kernel)
set_option maxRecDepth 100000 in
theorem am_de62 : ∀ e ∈ am_c62, am_deOk prog_6_method_5_code e = true := List.all_eq_true.mp (by decide +kernel)
set_option maxRecDepth 100000 in
theorem am_ok62 : ∀ e ∈ am_c62, am_ok ⟨"TagRounds$Flags", "dropHeld", "()V"⟩ 62 e = true := List.all_eq_true.mp (by decide +kernel)
set_option maxRecDepth 100000 in
theorem am_de63 : ∀ e ∈ am_c63, am_deOk prog_6_method_6_code e = true := List.all_eq_true.mp (by decide +kernel)
set_option maxRecDepth 100000 in
theorem am_ok63 : ∀ e ∈ am_c63, am_ok ⟨"TagRounds$Flags", "dropKept", "()V"⟩ 63 e = true := List.all_eq_true.mp (by decide +kernel)
set_option maxRecDepth 100000 in
theorem am_de64 : ∀ e ∈ am_c64, am_deOk prog_12_method_3_code e = true := List.all_eq_true.mp (by decide +kernel)
set_option maxRecDepth 100000 in
theorem am_ok64 : ∀ e ∈ am_c64, am_ok ⟨"TagRounds$Tag", "fade", "()V"⟩ 64 e = true := List.all_eq_true.mp (by decide +kernel)
set_option maxRecDepth 100000 in
theorem am_de65 : ∀ e ∈ am_c65, am_deOk prog_1_method_46_code e = true := List.all_eq_true.mp (by decide +kernel)
set_option maxRecDepth 100000 in
theorem am_ok65 : ∀ e ∈ am_c65, am_ok ⟨"TagRounds", "fadeFlags", "()V"⟩ 65 e = true := List.all_eq_true.mp (by decide +kernel)
set_option maxRecDepth 100000 in
theorem am_de66 : ∀ e ∈ am_c66, am_deOk prog_1_method_5_code e = true := List.all_eq_true.mp (by decide +kernel)
set_option maxRecDepth 100000 in
theorem am_ok66 : ∀ e ∈ am_c66, am_ok ⟨"TagRounds", "time", "(II)I"⟩ 66 e = true := List.all_eq_true.mp (by decide +kernel)
set_option maxRecDepth 100000 in
theorem am_de67 : ∀ e ∈ am_c67, am_deOk method_6_code e = true := List.all_eq_true.mp (by decide +kernel)
set_option maxRecDepth 100000 in
theorem am_ok67 : ∀ e ∈ am_c67, am_ok ⟨"TagRoundsLaw", "time", "(LTagRounds;II[J)I"⟩ 67 e = true := List.all_eq_true.mp (by decide +kernel)
set_option maxRecDepth 100000 in
theorem am_de68 : ∀ e ∈ am_c68, am_deOk prog_14_method_17_code e = true := List.all_eq_true.mp (by decide +kernel)
set_option maxRecDepth 100000 in
theorem am_ok68 : ∀ e ∈ am_c68, am_ok ⟨"TagRoundsModel", "fadesAll", "()V"⟩ 68 e = true := List.all_eq_true.mp (by decide +kernel)
set_option maxRecDepth 100000 in
theorem am_de69 : ∀ e ∈ am_c69, am_deOk prog_14_method_30_code e = true := List.all_eq_true.mp (by decide +kernel)
set_option maxRecDepth 100000 in
theorem am_ok69 : ∀ e ∈ am_c69, am_ok ⟨"TagRoundsModel", "time", "(II)I"⟩ 69 e = true := List.all_eq_true.mp (by decide +kernel)
set_option maxRecDepth 100000 in
theorem am_de70 : ∀ e ∈ am_c70, am_deOk prog_1_method_6_code e = true := List.all_eq_true.mp (by decide +kernel)
set_option maxRecDepth 100000 in
theorem am_ok70 : ∀ e ∈ am_c70, am_ok ⟨"TagRounds", "slice", "(III)V"⟩ 70 e = true := List.all_eq_true.mp (by decide +kernel)
set_option maxRecDepth 100000 in
theorem am_de71 : ∀ e ∈ am_c71, am_deOk method_7_code e = true := List.all_eq_true.mp (by decide +kernel)
set_option maxRecDepth 100000 in
theorem am_ok71 : ∀ e ∈ am_c71, am_ok ⟨"TagRoundsLaw", "slice", "(LTagRounds;III)I"⟩ 71 e = true := List.all_eq_true.mp (by decide +kernel)
set_option maxRecDepth 100000 in
theorem am_de72 : ∀ e ∈ am_c72, am_deOk prog_14_method_31_code e = true := List.all_eq_true.mp (by decide +kernel)
set_option maxRecDepth 100000 in
theorem am_ok72 : ∀ e ∈ am_c72, am_ok ⟨"TagRoundsModel", "slice", "(III)V"⟩ 72 e = true := List.all_eq_true.mp (by decide +kernel)
set_option maxRecDepth 100000 in
theorem am_de73 : ∀ e ∈ am_c73, am_deOk prog_3_method_2_code e = true := List.all_eq_true.mp (by decide +kernel)
set_option maxRecDepth 100000 in
theorem am_ok73 : ∀ e ∈ am_c73, am_ok ⟨"TagRounds$Clock", "elapse", "(I)V"⟩ 73 e = true := List.all_eq_true.mp (by decide +kernel)
set_option maxRecDepth 100000 in
theorem am_de74 : ∀ e ∈ am_c74, am_deOk prog_1_method_7_code e = true := List.all_eq_true.mp (by decide +kernel)
set_option maxRecDepth 100000 in
theorem am_ok74 : ∀ e ∈ am_c74, am_ok ⟨"TagRounds", "rest", "(I)I"⟩ 74 e = true := List.all_eq_true.mp (by decide +kernel)
set_option maxRecDepth 100000 in
theorem am_de75 : ∀ e ∈ am_c75, am_deOk method_8_code e = true := List.all_eq_true.mp (by decide +kernel)
set_option maxRecDepth 100000 in
theorem am_ok75 : ∀ e ∈ am_c75, am_ok ⟨"TagRoundsLaw", "rest", "(LTagRounds;I[J)I"⟩ 75 e = true := List.all_eq_true.mp (by decide +kernel)
set_option maxRecDepth 100000 in
theorem am_de76 : ∀ e ∈ am_c76, am_deOk prog_14_method_18_code e = true := List.all_eq_true.mp (by decide +kernel)
set_option maxRecDepth 100000 in
theorem am_ok76 : ∀ e ∈ am_c76, am_ok ⟨"TagRoundsModel", "goes", "(I)V"⟩ 76 e = true := List.all_eq_true.mp (by decide +kernel)
set_option maxRecDepth 100000 in
theorem am_de77 : ∀ e ∈ am_c77, am_deOk prog_14_method_32_code e = true := List.all_eq_true.mp (by decide +kernel)
set_option maxRecDepth 100000 in
theorem am_ok77 : ∀ e ∈ am_c77, am_ok ⟨"TagRoundsModel", "rest", "(I)I"⟩ 77 e = true := List.all_eq_true.mp (by decide +kernel)
set_option maxRecDepth 100000 in
theorem am_de78 : ∀ e ∈ am_c78, am_deOk prog_1_method_8_code e = true := List.all_eq_true.mp (by decide +kernel)
set_option maxRecDepth 100000 in
theorem am_ok78 : ∀ e ∈ am_c78, am_ok ⟨"TagRounds", "seed", "(II)I"⟩ 78 e = true := List.all_eq_true.mp (by decide +kernel)
set_option maxRecDepth 100000 in
theorem am_de79 : ∀ e ∈ am_c79, am_deOk method_9_code e = true := List.all_eq_true.mp (by decide +kernel)
set_option maxRecDepth 100000 in
theorem am_ok79 : ∀ e ∈ am_c79, am_ok ⟨"TagRoundsLaw", "seed", "(LTagRounds;II[J)I"⟩ 79 e = true := List.all_eq_true.mp (by decide +kernel)
set_option maxRecDepth 100000 in
theorem am_de80 : ∀ e ∈ am_c80, am_deOk prog_14_method_33_code e = true := List.all_eq_true.mp (by decide +kernel)
set_option maxRecDepth 100000 in
theorem am_ok80 : ∀ e ∈ am_c80, am_ok ⟨"TagRoundsModel", "seed", "(II)I"⟩ 80 e = true := List.all_eq_true.mp (by decide +kernel)
set_option maxRecDepth 100000 in
theorem am_de81 : ∀ e ∈ am_c81, am_deOk prog_9_method_3_code e = true := List.all_eq_true.mp (by decide +kernel)
set_option maxRecDepth 100000 in
theorem am_ok81 : ∀ e ∈ am_c81, am_ok ⟨"TagRounds$Memory", "bankOf", "(I)[I"⟩ 81 e = true := List.all_eq_true.mp (by decide +kernel)
set_option maxRecDepth 100000 in
theorem am_de82 : ∀ e ∈ am_c82, am_deOk prog_9_method_4_code e = true := List.all_eq_true.mp (by decide +kernel)
set_option maxRecDepth 100000 in
theorem am_ok82 : ∀ e ∈ am_c82, am_ok ⟨"TagRounds$Memory", "has", "(III)Z"⟩ 82 e = true := List.all_eq_true.mp (by decide +kernel)
set_option maxRecDepth 100000 in
theorem am_de83 : ∀ e ∈ am_c83, am_deOk prog_9_method_5_code e = true := List.all_eq_true.mp (by decide +kernel)
set_option maxRecDepth 100000 in
theorem am_ok83 : ∀ e ∈ am_c83, am_ok ⟨"TagRounds$Memory", "mayChange", "(II)Z"⟩ 83 e = true := List.all_eq_true.mp (by decide +kernel)
set_option maxRecDepth 100000 in
theorem am_de84 : ∀ e ∈ am_c84, am_deOk prog_9_method_6_code e = true := List.all_eq_true.mp (by decide +kernel)
set_option maxRecDepth 100000 in
theorem am_ok84 : ∀ e ∈ am_c84, am_ok ⟨"TagRounds$Memory", "get", "(II)I"⟩ 84 e = true := List.all_eq_true.mp (by decide +kernel)
set_option maxRecDepth 100000 in
theorem am_de85 : ∀ e ∈ am_c85, am_deOk prog_9_method_7_code e = true := List.all_eq_true.mp (by decide +kernel)
set_option maxRecDepth 100000 in
theorem am_ok85 : ∀ e ∈ am_c85, am_ok ⟨"TagRounds$Memory", "set", "(III)V"⟩ 85 e = true := List.all_eq_true.mp (by decide +kernel)
set_option maxRecDepth 100000 in
theorem am_de86 : ∀ e ∈ am_c86, am_deOk prog_1_method_9_code e = true := List.all_eq_true.mp (by decide +kernel)
set_option maxRecDepth 100000 in
theorem am_ok86 : ∀ e ∈ am_c86, am_ok ⟨"TagRounds", "store", "(IIII)I"⟩ 86 e = true := List.all_eq_true.mp (by decide +kernel)
set_option maxRecDepth 100000 in
theorem am_de87 : ∀ e ∈ am_c87, am_deOk method_10_code e = true := List.all_eq_true.mp (by decide +kernel)
set_option maxRecDepth 100000 in
theorem am_ok87 : ∀ e ∈ am_c87, am_ok ⟨"TagRoundsLaw", "store", "(LTagRounds;IIII[J)I"⟩ 87 e = true := List.all_eq_true.mp (by decide +kernel)
set_option maxRecDepth 100000 in
theorem am_de88 : ∀ e ∈ am_c88, am_deOk prog_14_method_21_code e = true := List.all_eq_true.mp (by decide +kernel)
set_option maxRecDepth 100000 in
theorem am_ok88 : ∀ e ∈ am_c88, am_ok ⟨"TagRoundsModel", "manyWords", "(II)I"⟩ 88 e = true := List.all_eq_true.mp (by decide +kernel)
set_option maxRecDepth 100000 in
theorem am_de89 : ∀ e ∈ am_c89, am_deOk prog_14_method_22_code e = true := List.all_eq_true.mp (by decide +kernel)
set_option maxRecDepth 100000 in
theorem am_ok89 : ∀ e ∈ am_c89, am_ok ⟨"TagRoundsModel", "isWord", "(III)Z"⟩ 89 e = true := List.all_eq_true.mp (by decide +kernel)
set_option maxRecDepth 100000 in
theorem am_de90 : ∀ e ∈ am_c90, am_deOk prog_14_method_24_code e = true := List.all_eq_true.mp (by decide +kernel)
set_option maxRecDepth 100000 in
theorem am_ok90 : ∀ e ∈ am_c90, am_ok ⟨"TagRoundsModel", "putsWord", "(IIII)V"⟩ 90 e = true := List.all_eq_true.mp (by decide +kernel)
set_option maxRecDepth 100000 in
theorem am_de91 : ∀ e ∈ am_c91, am_deOk prog_14_method_34_code e = true := List.all_eq_true.mp (by decide +kernel)
set_option maxRecDepth 100000 in
theorem am_ok91 : ∀ e ∈ am_c91, am_ok ⟨"TagRoundsModel", "store", "(IIII)I"⟩ 91 e = true := List.all_eq_true.mp (by decide +kernel)
set_option maxRecDepth 100000 in
theorem am_de92 : ∀ e ∈ am_c92, am_deOk prog_8_method_2_code e = true := List.all_eq_true.mp (by decide +kernel)
set_option maxRecDepth 100000 in
theorem am_ok92 : ∀ e ∈ am_c92, am_ok ⟨"TagRounds$Mask", "tell", "(IIII)V"⟩ 92 e = true := List.all_eq_true.mp (by decide +kernel)
set_option maxRecDepth 100000 in
theorem am_de93 : ∀ e ∈ am_c93, am_deOk prog_1_method_10_code e = true := List.all_eq_true.mp (by decide +kernel)
set_option maxRecDepth 100000 in
theorem am_ok93 : ∀ e ∈ am_c93, am_ok ⟨"TagRounds", "mask", "(IIII)V"⟩ 93 e = true := List.all_eq_true.mp (by decide +kernel)
set_option maxRecDepth 100000 in
theorem am_de94 : ∀ e ∈ am_c94, am_deOk method_11_code e = true := List.all_eq_true.mp (by decide +kernel)
set_option maxRecDepth 100000 in
theorem am_ok94 : ∀ e ∈ am_c94, am_ok ⟨"TagRoundsLaw", "mask", "(LTagRounds;IIII)I"⟩ 94 e = true := List.all_eq_true.mp (by decide +kernel)
set_option maxRecDepth 100000 in
theorem am_de95 : ∀ e ∈ am_c95, am_deOk prog_14_method_35_code e = true := List.all_eq_true.mp (by decide +kernel)
set_option maxRecDepth 100000 in
theorem am_ok95 : ∀ e ∈ am_c95, am_ok ⟨"TagRoundsModel", "mask", "(IIII)V"⟩ 95 e = true := List.all_eq_true.mp (by decide +kernel)
set_option maxRecDepth 100000 in
theorem am_de96 : ∀ e ∈ am_c96, am_deOk prog_3_method_3_code e = true := List.all_eq_true.mp (by decide +kernel)
set_option maxRecDepth 100000 in
theorem am_ok96 : ∀ e ∈ am_c96, am_ok ⟨"TagRounds$Clock", "isOver", "()Z"⟩ 96 e = true := List.all_eq_true.mp (by decide +kernel)
set_option maxRecDepth 100000 in
theorem am_de97 : ∀ e ∈ am_c97, am_deOk prog_1_method_43_code e = true := List.all_eq_true.mp (by decide +kernel)
set_option maxRecDepth 100000 in
theorem am_ok97 : ∀ e ∈ am_c97, am_ok ⟨"TagRounds", "needCommand", "(LTagRounds$Reader;)V"⟩ 97 e = true := List.all_eq_true.mp (by decide +kernel)
set_option maxRecDepth 100000 in
theorem am_de98 : ∀ e ∈ am_c98, am_deOk prog_9_method_8_code e = true := List.all_eq_true.mp (by decide +kernel)
set_option maxRecDepth 100000 in
theorem am_ok98 : ∀ e ∈ am_c98, am_ok ⟨"TagRounds$Memory", "bitOf", "(II)I"⟩ 98 e = true := List.all_eq_true.mp (by decide +kernel)
set_option maxRecDepth 100000 in
theorem am_de99 : ∀ e ∈ am_c99, am_deOk prog_8_method_3_code e = true := List.all_eq_true.mp (by decide +kernel)
set_option maxRecDepth 100000 in
theorem am_ok99 : ∀ e ∈ am_c99, am_ok ⟨"TagRounds$Mask", "matches", "(LTagRounds$Memory;)Z"⟩ 99 e = true := List.all_eq_true.mp (by decide +kernel)
set_option maxRecDepth 100000 in
theorem am_de100 : ∀ e ∈ am_c100, am_deOk prog_1_method_54_code e = true := List.all_eq_true.mp (by decide +kernel)
set_option maxRecDepth 100000 in
theorem am_ok100 : ∀ e ∈ am_c100, am_ok ⟨"TagRounds", "matchingBits", "()I"⟩ 100 e = true := List.all_eq_true.mp (by decide +kernel)
set_option maxRecDepth 100000 in
theorem am_de101 : ∀ e ∈ am_c101, am_deOk prog_10_method_2_code e = true := List.all_eq_true.mp (by decide +kernel)
set_option maxRecDepth 100000 in
theorem am_ok101 : ∀ e ∈ am_c101, am_ok ⟨"TagRounds$Reader", "isBusyAt", "(I)Z"⟩ 101 e = true := List.all_eq_true.mp (by decide +kernel)
set_option maxRecDepth 100000 in
theorem am_de102 : ∀ e ∈ am_c102, am_deOk prog_1_method_48_code e = true := List.all_eq_true.mp (by decide +kernel)
set_option maxRecDepth 100000 in
theorem am_ok102 : ∀ e ∈ am_c102, am_ok ⟨"TagRounds", "busyAt", "(I)I"⟩ 102 e = true := List.all_eq_true.mp (by decide +kernel)
set_option maxRecDepth 100000 in
theorem am_de103 : ∀ e ∈ am_c103, am_deOk prog_1_method_49_code e = true := List.all_eq_true.mp (by decide +kernel)
set_option maxRecDepth 100000 in
theorem am_ok103 : ∀ e ∈ am_c103, am_ok ⟨"TagRounds", "hears", "(LTagRounds$Tag;II)Z"⟩ 103 e = true := List.all_eq_true.mp (by decide +kernel)
set_option maxRecDepth 100000 in
theorem am_de104 : ∀ e ∈ am_c104, am_deOk prog_1_method_50_code e = true := List.all_eq_true.mp (by decide +kernel)
set_option maxRecDepth 100000 in
theorem am_ok104 : ∀ e ∈ am_c104, am_ok ⟨"TagRounds", "hearingBits", "(I)I"⟩ 104 e = true := List.all_eq_true.mp (by decide +kernel)
set_option maxRecDepth 100000 in
theorem am_de105 : ∀ e ∈ am_c105, am_deOk prog_1_method_53_code e = true := List.all_eq_true.mp (by decide +kernel)
set_option maxRecDepth 100000 in
theorem am_ok105 : ∀ e ∈ am_c105, am_ok ⟨"TagRounds", "killedBits", "()I"⟩ 105 e = true := List.all_eq_true.mp (by decide +kernel)
set_option maxRecDepth 100000 in
theorem am_de106 : ∀ e ∈ am_c106, am_deOk prog_21_method_49_code e = true := List.all_eq_true.mp (by decide +kernel)
set_option maxRecDepth 100000 in
theorem am_ok106 : ∀ e ∈ am_c106, am_ok ⟨"java/lang/Integer", "bitCount", "(I)I"⟩ 106 e = true := List.all_eq_true.mp (by decide +kernel)
set_option maxRecDepth 100000 in
theorem am_de107 : ∀ e ∈ am_c107, am_deOk prog_4_method_2_code e = true := List.all_eq_true.mp (by decide +kernel)
set_option maxRecDepth 100000 in
theorem am_ok107 : ∀ e ∈ am_c107, am_ok ⟨"TagRounds$Command", "setSelect", "(II)V"⟩ 107 e = true := List.all_eq_true.mp (by decide +kernel)
set_option maxRecDepth 100000 in
theorem am_de108 : ∀ e ∈ am_c108, am_deOk prog_11_method_5_code e = true := List.all_eq_true.mp (by decide +kernel)
set_option maxRecDepth 100000 in
theorem am_ok108 : ∀ e ∈ am_c108, am_ok ⟨"TagRounds$Signal", "put", "(II)V"⟩ 108 e = true := List.all_eq_true.mp (by decide +kernel)
set_option maxRecDepth 100000 in
theorem am_de109 : ∀ e ∈ am_c109, am_deOk prog_11_method_10_code e = true := List.all_eq_true.mp (by decide +kernel)
set_option maxRecDepth 100000 in
theorem am_ok109 : ∀ e ∈ am_c109, am_ok ⟨"TagRounds$Signal", "putCheck16", "()V"⟩ 109 e = true := List.all_eq_true.mp (by decide +kernel)
set_option maxRecDepth 100000 in
theorem am_de110 : ∀ e ∈ am_c110, am_deOk prog_11_method_7_code e = true := List.all_eq_true.mp (by decide +kernel)
set_option maxRecDepth 100000 in
theorem am_ok110 : ∀ e ∈ am_c110, am_ok ⟨"TagRounds$Signal", "putSelect", "(LTagRounds$Command;LTagRounds$Mask;)V"⟩ 110 e = true := List.all_eq_true.mp (by decide +kernel)
set_option maxRecDepth 100000 in
theorem am_de111 : ∀ e ∈ am_c111, am_deOk prog_11_method_3_code e = true := List.all_eq_true.mp (by decide +kernel)
set_option maxRecDepth 100000 in
theorem am_ok111 : ∀ e ∈ am_c111, am_ok ⟨"TagRounds$Signal", "step5", "(II)I"⟩ 111 e = true := List.all_eq_true.mp (by decide +kernel)
set_option maxRecDepth 100000 in
theorem am_de112 : ∀ e ∈ am_c112, am_deOk prog_11_method_11_code e = true := List.all_eq_true.mp (by decide +kernel)
set_option maxRecDepth 100000 in
theorem am_ok112 : ∀ e ∈ am_c112, am_ok ⟨"TagRounds$Signal", "putCheck5", "()V"⟩ 112 e = true := List.all_eq_true.mp (by decide +kernel)
set_option maxRecDepth 100000 in
theorem am_de113 : ∀ e ∈ am_c113, am_deOk prog_11_method_8_code e = true := List.all_eq_true.mp (by decide +kernel)
set_option maxRecDepth 100000 in
theorem am_ok113 : ∀ e ∈ am_c113, am_ok ⟨"TagRounds$Signal", "putQuery", "(LTagRounds$Command;)V"⟩ 113 e = true := List.all_eq_true.mp (by decide +kernel)
set_option maxRecDepth 100000 in
theorem am_de114 : ∀ e ∈ am_c114, am_deOk prog_11_method_9_code e = true := List.all_eq_true.mp (by decide +kernel)
set_option maxRecDepth 100000 in
theorem am_ok114 : ∀ e ∈ am_c114, am_ok ⟨"TagRounds$Signal", "putAccess", "(LTagRounds$Command;)V"⟩ 114 e = true := List.all_eq_true.mp (by decide +kernel)
set_option maxRecDepth 100000 in
theorem am_de115 : ∀ e ∈ am_c115, am_deOk prog_11_method_6_code e = true := List.all_eq_true.mp (by decide +kernel)
set_option maxRecDepth 100000 in
theorem am_ok115 : ∀ e ∈ am_c115, am_ok ⟨"TagRounds$Signal", "encode", "(LTagRounds$Command;LTagRounds$Mask;)V"⟩ 115 e = true := List.all_eq_true.mp (by decide +kernel)
set_option maxRecDepth 100000 in
theorem am_de116 : ∀ e ∈ am_c116, am_deOk prog_4_method_8_code e = true := List.all_eq_true.mp (by decide +kernel)
set_option maxRecDepth 100000 in
theorem am_ok116 : ∀ e ∈ am_c116, am_ok ⟨"TagRounds$Command", "isAnswered", "()Z"⟩ 116 e = true := List.all_eq_true.mp (by decide +kernel)
set_option maxRecDepth 100000 in
theorem am_de117 : ∀ e ∈ am_c117, am_deOk prog_2_method_2_code e = true := List.all_eq_true.mp (by decide +kernel)
set_option maxRecDepth 100000 in
theorem am_ok117 : ∀ e ∈ am_c117, am_ok ⟨"TagRounds$Answer", "clear", "()V"⟩ 117 e = true := List.all_eq_true.mp (by decide +kernel)
set_option maxRecDepth 100000 in
theorem am_de118 : ∀ e ∈ am_c118, am_deOk prog_4_method_9_code e = true := List.all_eq_true.mp (by decide +kernel)
set_option maxRecDepth 100000 in
theorem am_ok118 : ∀ e ∈ am_c118, am_ok ⟨"TagRounds$Command", "keepsHalfOf", "(Z)Z"⟩ 118 e = true := List.all_eq_true.mp (by decide +kernel)
set_option maxRecDepth 100000 in
theorem am_de119 : ∀ e ∈ am_c119, am_deOk prog_12_method_13_code e = true := List.all_eq_true.mp (by decide +kernel)
set_option maxRecDepth 100000 in
theorem am_ok119 : ∀ e ∈ am_c119, am_ok ⟨"TagRounds$Tag", "beReady", "()V"⟩ 119 e = true := List.all_eq_true.mp (by decide +kernel)
set_option maxRecDepth 100000 in
theorem am_de120 : ∀ e ∈ am_c120, am_deOk prog_12_method_18_code e = true := List.all_eq_true.mp (by decide +kernel)
set_option maxRecDepth 100000 in
theorem am_ok120 : ∀ e ∈ am_c120, am_ok ⟨"TagRounds$Tag", "toDoBy", "([II)I"⟩ 120 e = true := List.all_eq_true.mp (by decide +kernel)
set_option maxRecDepth 100000 in
theorem am_de121 : ∀ e ∈ am_c121, am_deOk prog_6_method_2_code e = true := List.all_eq_true.mp (by decide +kernel)
set_option maxRecDepth 100000 in
theorem am_ok121 : ∀ e ∈ am_c121, am_ok ⟨"TagRounds$Flags", "get", "(I)I"⟩ 121 e = true := List.all_eq_true.mp (by decide +kernel)
set_option maxRecDepth 100000 in
theorem am_de122 : ∀ e ∈ am_c122, am_deOk prog_6_method_4_code e = true := List.all_eq_true.mp (by decide +kernel)
set_option maxRecDepth 100000 in
theorem am_ok122 : ∀ e ∈ am_c122, am_ok ⟨"TagRounds$Flags", "flip", "(II)V"⟩ 122 e = true := List.all_eq_true.mp (by decide +kernel)
set_option maxRecDepth 100000 in
theorem am_de123 : ∀ e ∈ am_c123, am_deOk prog_12_method_17_code e = true := List.all_eq_true.mp (by decide +kernel)
set_option maxRecDepth 100000 in
theorem am_ok123 : ∀ e ∈ am_c123, am_ok ⟨"TagRounds$Tag", "obeySelect", "(LTagRounds$Command;Z)V"⟩ 123 e = true := List.all_eq_true.mp (by decide +kernel)
set_option maxRecDepth 100000 in
theorem am_de124 : ∀ e ∈ am_c124, am_deOk prog_12_method_7_code e = true := List.all_eq_true.mp (by decide +kernel)
set_option maxRecDepth 100000 in
theorem am_ok124 : ∀ e ∈ am_c124, am_ok ⟨"TagRounds$Tag", "isOpen", "()Z"⟩ 124 e = true := List.all_eq_true.mp (by decide +kernel)
set_option maxRecDepth 100000 in
theorem am_de125 : ∀ e ∈ am_c125, am_deOk prog_12_method_6_code e = true := List.all_eq_true.mp (by decide +kernel)
set_option maxRecDepth 100000 in
theorem am_ok125 : ∀ e ∈ am_c125, am_ok ⟨"TagRounds$Tag", "isSingled", "()Z"⟩ 125 e = true := List.all_eq_true.mp (by decide +kernel)
set_option maxRecDepth 100000 in
theorem am_de126 : ∀ e ∈ am_c126, am_deOk prog_12_method_8_code e = true := List.all_eq_true.mp (by decide +kernel)
set_option maxRecDepth 100000 in
theorem am_ok126 : ∀ e ∈ am_c126, am_ok ⟨"TagRounds$Tag", "draw", "()I"⟩ 126 e = true := List.all_eq_true.mp (by decide +kernel)
set_option maxRecDepth 100000 in
theorem am_de127 : ∀ e ∈ am_c127, am_deOk prog_2_method_3_code e = true := List.all_eq_true.mp (by decide +kernel)
set_option maxRecDepth 100000 in
theorem am_ok127 : ∀ e ∈ am_c127, am_ok ⟨"TagRounds$Answer", "say", "(II)V"⟩ 127 e = true := List.all_eq_true.mp (by decide +kernel)
set_option maxRecDepth 100000 in
theorem am_de128 : ∀ e ∈ am_c128, am_deOk prog_12_method_14_code e = true := List.all_eq_true.mp (by decide +kernel)
set_option maxRecDepth 100000 in
theorem am_ok128 : ∀ e ∈ am_c128, am_ok ⟨"TagRounds$Tag", "waitOn", "()V"⟩ 128 e = true := List.all_eq_true.mp (by decide +kernel)
set_option maxRecDepth 100000 in
theorem am_de129 : ∀ e ∈ am_c129, am_deOk prog_12_method_16_code e = true := List.all_eq_true.mp (by decide +kernel)
set_option maxRecDepth 100000 in
theorem am_ok129 : ∀ e ∈ am_c129, am_ok ⟨"TagRounds$Tag", "replyOrWait", "(LTagRounds$Answer;)V"⟩ 129 e = true := List.all_eq_true.mp (by decide +kernel)
set_option maxRecDepth 100000 in
theorem am_de130 : ∀ e ∈ am_c130, am_deOk prog_12_method_15_code e = true := List.all_eq_true.mp (by decide +kernel)
set_option maxRecDepth 100000 in
theorem am_ok130 : ∀ e ∈ am_c130, am_ok ⟨"TagRounds$Tag", "drawSlot", "(ILTagRounds$Answer;)V"⟩ 130 e = true := List.all_eq_true.mp (by decide +kernel)
set_option maxRecDepth 100000 in
theorem am_de131 : ∀ e ∈ am_c131, am_deOk prog_12_method_19_code e = true := List.all_eq_true.mp (by decide +kernel)
set_option maxRecDepth 100000 in
theorem am_ok131 : ∀ e ∈ am_c131, am_ok ⟨"TagRounds$Tag", "obeyQuery", "(LTagRounds$Command;LTagRounds$Answer;)V"⟩ 131 e = true := List.all_eq_true.mp (by decide +kernel)
set_option maxRecDepth 100000 in
theorem am_de132 : ∀ e ∈ am_c132, am_deOk prog_12_method_5_code e = true := List.all_eq_true.mp (by decide +kernel)
set_option maxRecDepth 100000 in
theorem am_ok132 : ∀ e ∈ am_c132, am_ok ⟨"TagRounds$Tag", "isInRound", "(I)Z"⟩ 132 e = true := List.all_eq_true.mp (by decide +kernel)
set_option maxRecDepth 100000 in
theorem am_de133 : ∀ e ∈ am_c133, am_deOk prog_12_method_20_code e = true := List.all_eq_true.mp (by decide +kernel)
set_option maxRecDepth 100000 in
theorem am_ok133 : ∀ e ∈ am_c133, am_ok ⟨"TagRounds$Tag", "obeyStep", "(LTagRounds$Command;LTagRounds$Answer;)V"⟩ 133 e = true := List.all_eq_true.mp (by decide +kernel)
set_option maxRecDepth 100000 in
theorem am_de134 : ∀ e ∈ am_c134, am_deOk prog_2_method_4_code e = true := List.all_eq_true.mp (by decide +kernel)
set_option maxRecDepth 100000 in
theorem am_ok134 : ∀ e ∈ am_c134, am_ok ⟨"TagRounds$Answer", "put", "(I)V"⟩ 134 e = true := List.all_eq_true.mp (by decide +kernel)
set_option maxRecDepth 100000 in
theorem am_de135 : ∀ e ∈ am_c135, am_deOk prog_12_method_21_code e = true := List.all_eq_true.mp (by decide +kernel)
set_option maxRecDepth 100000 in
theorem am_ok135 : ∀ e ∈ am_c135, am_ok ⟨"TagRounds$Tag", "obeyAck", "(LTagRounds$Command;LTagRounds$Answer;)V"⟩ 135 e = true := List.all_eq_true.mp (by decide +kernel)
set_option maxRecDepth 100000 in
theorem am_de136 : ∀ e ∈ am_c136, am_deOk prog_9_method_13_code e = true := List.all_eq_true.mp (by decide +kernel)
set_option maxRecDepth 100000 in
theorem am_ok136 : ∀ e ∈ am_c136, am_ok ⟨"TagRounds$Memory", "isAccessFree", "()Z"⟩ 136 e = true := List.all_eq_true.mp (by decide +kernel)
set_option maxRecDepth 100000 in
theorem am_de137 : ∀ e ∈ am_c137, am_deOk prog_12_method_22_code e = true := List.all_eq_true.mp (by decide +kernel)
set_option maxRecDepth 100000 in
theorem am_ok137 : ∀ e ∈ am_c137, am_ok ⟨"TagRounds$Tag", "obeyRenew", "(LTagRounds$Command;LTagRounds$Answer;)V"⟩ 137 e = true := List.all_eq_true.mp (by decide +kernel)
set_option maxRecDepth 100000 in
theorem am_de138 : ∀ e ∈ am_c138, am_deOk prog_9_method_14_code e = true := List.all_eq_true.mp (by decide +kernel)
set_option maxRecDepth 100000 in
theorem am_ok138 : ∀ e ∈ am_c138, am_ok ⟨"TagRounds$Memory", "isRight", "(ZII)Z"⟩ 138 e = true := List.all_eq_true.mp (by decide +kernel)
set_option maxRecDepth 100000 in
theorem am_de139 : ∀ e ∈ am_c139, am_deOk prog_12_method_25_code e = true := List.all_eq_true.mp (by decide +kernel)
set_option maxRecDepth 100000 in
theorem am_ok139 : ∀ e ∈ am_c139, am_ok ⟨"TagRounds$Tag", "obeyPass", "(LTagRounds$Command;LTagRounds$Answer;)V"⟩ 139 e = true := List.all_eq_true.mp (by decide +kernel)
set_option maxRecDepth 100000 in
theorem am_de140 : ∀ e ∈ am_c140, am_deOk prog_9_method_10_code e = true := List.all_eq_true.mp (by decide +kernel)
set_option maxRecDepth 100000 in
theorem am_ok140 : ∀ e ∈ am_c140, am_ok ⟨"TagRounds$Memory", "modeOf", "(I)I"⟩ 140 e = true := List.all_eq_true.mp (by decide +kernel)
set_option maxRecDepth 100000 in
theorem am_de141 : ∀ e ∈ am_c141, am_deOk prog_9_method_9_code e = true := List.all_eq_true.mp (by decide +kernel)
set_option maxRecDepth 100000 in
theorem am_ok141 : ∀ e ∈ am_c141, am_ok ⟨"TagRounds$Memory", "areaOf", "(II)I"⟩ 141 e = true := List.all_eq_true.mp (by decide +kernel)
set_option maxRecDepth 100000 in
theorem am_de142 : ∀ e ∈ am_c142, am_deOk prog_9_method_12_code e = true := List.all_eq_true.mp (by decide +kernel)
set_option maxRecDepth 100000 in
theorem am_ok142 : ∀ e ∈ am_c142, am_ok ⟨"TagRounds$Memory", "isShut", "(IIZ)Z"⟩ 142 e = true := List.all_eq_true.mp (by decide +kernel)
set_option maxRecDepth 100000 in
theorem am_de143 : ∀ e ∈ am_c143, am_deOk prog_12_method_24_code e = true := List.all_eq_true.mp (by decide +kernel)
set_option maxRecDepth 100000 in
theorem am_ok143 : ∀ e ∈ am_c143, am_ok ⟨"TagRounds$Tag", "codeOf", "(LTagRounds$Command;)I"⟩ 143 e = true := List.all_eq_true.mp (by decide +kernel)
set_option maxRecDepth 100000 in
theorem am_de144 : ∀ e ∈ am_c144, am_deOk prog_9_method_11_code e = true := List.all_eq_true.mp (by decide +kernel)
set_option maxRecDepth 100000 in
theorem am_ok144 : ∀ e ∈ am_c144, am_ok ⟨"TagRounds$Memory", "setMode", "(II)V"⟩ 144 e = true := List.all_eq_true.mp (by decide +kernel)
set_option maxRecDepth 100000 in
theorem am_de145 : ∀ e ∈ am_c145, am_deOk prog_12_method_23_code e = true := List.all_eq_true.mp (by decide +kernel)
set_option maxRecDepth 100000 in
theorem am_ok145 : ∀ e ∈ am_c145, am_ok ⟨"TagRounds$Tag", "obeyAccess", "(LTagRounds$Command;LTagRounds$Answer;)V"⟩ 145 e = true := List.all_eq_true.mp (by decide +kernel)
set_option maxRecDepth 100000 in
theorem am_de146 : ∀ e ∈ am_c146, am_deOk prog_12_method_12_code e = true := List.all_eq_true.mp (by decide +kernel)
set_option maxRecDepth 100000 in
theorem am_ok146 : ∀ e ∈ am_c146, am_ok ⟨"TagRounds$Tag", "obey", "(LTagRounds$Command;LTagRounds$Mask;LTagRounds$Answer;)V"⟩ 146 e = true := List.all_eq_true.mp (by decide +kernel)
set_option maxRecDepth 100000 in
theorem am_de147 : ∀ e ∈ am_c147, am_deOk prog_2_method_7_code e = true := List.all_eq_true.mp (by decide +kernel)
set_option maxRecDepth 100000 in
theorem am_ok147 : ∀ e ∈ am_c147, am_ok ⟨"TagRounds$Answer", "ticks", "()I"⟩ 147 e = true := List.all_eq_true.mp (by decide +kernel)
set_option maxRecDepth 100000 in
theorem am_de148 : ∀ e ∈ am_c148, am_deOk prog_2_method_8_code e = true := List.all_eq_true.mp (by decide +kernel)
set_option maxRecDepth 100000 in
theorem am_ok148 : ∀ e ∈ am_c148, am_ok ⟨"TagRounds$Answer", "outcome", "()I"⟩ 148 e = true := List.all_eq_true.mp (by decide +kernel)
set_option maxRecDepth 100000 in
theorem am_de149 : ∀ e ∈ am_c149, am_deOk prog_1_method_44_code e = true := List.all_eq_true.mp (by decide +kernel)
set_option maxRecDepth 100000 in
theorem am_ok149 : ∀ e ∈ am_c149, am_ok ⟨"TagRounds", "transmit", "(I)I"⟩ 149 e = true := List.all_eq_true.mp (by decide +kernel)
set_option maxRecDepth 100000 in
theorem am_de150 : ∀ e ∈ am_c150, am_deOk prog_1_method_11_code e = true := List.all_eq_true.mp (by decide +kernel)
set_option maxRecDepth 100000 in
theorem am_ok150 : ∀ e ∈ am_c150, am_ok ⟨"TagRounds", "select", "(III)I"⟩ 150 e = true := List.all_eq_true.mp (by decide +kernel)
set_option maxRecDepth 100000 in
theorem am_de151 : ∀ e ∈ am_c151, am_deOk method_12_code e = true := List.all_eq_true.mp (by decide +kernel)
set_option maxRecDepth 100000 in
theorem am_ok151 : ∀ e ∈ am_c151, am_ok ⟨"TagRoundsLaw", "select", "(LTagRounds;III[J)I"⟩ 151 e = true := List.all_eq_true.mp (by decide +kernel)
set_option maxRecDepth 100000 in
theorem am_de152 : ∀ e ∈ am_c152, am_deOk prog_14_method_37_code e = true := List.all_eq_true.mp (by decide +kernel)
set_option maxRecDepth 100000 in
theorem am_ok152 : ∀ e ∈ am_c152, am_ok ⟨"TagRoundsModel", "cannot", "(II)Z"⟩ 152 e = true := List.all_eq_true.mp (by decide +kernel)
set_option maxRecDepth 100000 in
theorem am_de153 : ∀ e ∈ am_c153, am_deOk prog_14_method_47_code e = true := List.all_eq_true.mp (by decide +kernel)
set_option maxRecDepth 100000 in
theorem am_ok153 : ∀ e ∈ am_c153, am_ok ⟨"TagRoundsModel", "sends", "(II)V"⟩ 153 e = true := List.all_eq_true.mp (by decide +kernel)
set_option maxRecDepth 100000 in
theorem am_de154 : ∀ e ∈ am_c154, am_deOk prog_14_method_48_code e = true := List.all_eq_true.mp (by decide +kernel)
set_option maxRecDepth 100000 in
theorem am_ok154 : ∀ e ∈ am_c154, am_ok ⟨"TagRoundsModel", "begun", "(II)V"⟩ 154 e = true := List.all_eq_true.mp (by decide +kernel)
set_option maxRecDepth 100000 in
theorem am_de155 : ∀ e ∈ am_c155, am_deOk prog_14_method_49_code e = true := List.all_eq_true.mp (by decide +kernel)
set_option maxRecDepth 100000 in
theorem am_ok155 : ∀ e ∈ am_c155, am_ok ⟨"TagRoundsModel", "check", "(III)I"⟩ 155 e = true := List.all_eq_true.mp (by decide +kernel)
set_option maxRecDepth 100000 in
theorem am_de156 : ∀ e ∈ am_c156, am_deOk prog_14_method_50_code e = true := List.all_eq_true.mp (by decide +kernel)
set_option maxRecDepth 100000 in
theorem am_ok156 : ∀ e ∈ am_c156, am_ok ⟨"TagRoundsModel", "checks", "()V"⟩ 156 e = true := List.all_eq_true.mp (by decide +kernel)
set_option maxRecDepth 100000 in
theorem am_de157 : ∀ e ∈ am_c157, am_deOk prog_14_method_10_code e = true := List.all_eq_true.mp (by decide +kernel)
set_option maxRecDepth 100000 in
theorem am_ok157 : ∀ e ∈ am_c157, am_ok ⟨"TagRoundsModel", "isBusy", "(II)Z"⟩ 157 e = true := List.all_eq_true.mp (by decide +kernel)
set_option maxRecDepth 100000 in
theorem am_de158 : ∀ e ∈ am_c158, am_deOk prog_14_method_12_code e = true := List.all_eq_true.mp (by decide +kernel)
set_option maxRecDepth 100000 in
theorem am_ok158 : ∀ e ∈ am_c158, am_ok ⟨"TagRoundsModel", "hearsAt", "(III)Z"⟩ 158 e = true := List.all_eq_true.mp (by decide +kernel)
set_option maxRecDepth 100000 in
theorem am_de159 : ∀ e ∈ am_c159, am_deOk prog_14_method_13_code e = true := List.all_eq_true.mp (by decide +kernel)
set_option maxRecDepth 100000 in
theorem am_ok159 : ∀ e ∈ am_c159, am_ok ⟨"TagRoundsModel", "hears", "(II)Z"⟩ 159 e = true := List.all_eq_true.mp (by decide +kernel)
set_option maxRecDepth 100000 in
theorem am_de160 : ∀ e ∈ am_c160, am_deOk prog_14_method_38_code e = true := List.all_eq_true.mp (by decide +kernel)
set_option maxRecDepth 100000 in
theorem am_ok160 : ∀ e ∈ am_c160, am_ok ⟨"TagRoundsModel", "begins", "(II)V"⟩ 160 e = true := List.all_eq_true.mp (by decide +kernel)
set_option maxRecDepth 100000 in
theorem am_de161 : ∀ e ∈ am_c161, am_deOk prog_14_method_36_code e = true := List.all_eq_true.mp (by decide +kernel)
set_option maxRecDepth 100000 in
theorem am_ok161 : ∀ e ∈ am_c161, am_ok ⟨"TagRoundsModel", "matches", "(I)Z"⟩ 161 e = true := List.all_eq_true.mp (by decide +kernel)
set_option maxRecDepth 100000 in
theorem am_de162 : ∀ e ∈ am_c162, am_deOk prog_14_method_15_code e = true := List.all_eq_true.mp (by decide +kernel)
set_option maxRecDepth 100000 in
theorem am_ok162 : ∀ e ∈ am_c162, am_ok ⟨"TagRoundsModel", "tellsFlag", "(III)V"⟩ 162 e = true := List.all_eq_true.mp (by decide +kernel)
set_option maxRecDepth 100000 in
theorem am_de163 : ∀ e ∈ am_c163, am_deOk prog_14_method_52_code e = true := List.all_eq_true.mp (by decide +kernel)
set_option maxRecDepth 100000 in
theorem am_ok163 : ∀ e ∈ am_c163, am_ok ⟨"TagRoundsModel", "select", "(III)I"⟩ 163 e = true := List.all_eq_true.mp (by decide +kernel)
set_option maxRecDepth 100000 in
theorem am_de164 : ∀ e ∈ am_c164, am_deOk prog_4_method_3_code e = true := List.all_eq_true.mp (by decide +kernel)
set_option maxRecDepth 100000 in
theorem am_ok164 : ∀ e ∈ am_c164, am_ok ⟨"TagRounds$Command", "setQuery", "(IIII)V"⟩ 164 e = true := List.all_eq_true.mp (by decide +kernel)
set_option maxRecDepth 100000 in
theorem am_de165 : ∀ e ∈ am_c165, am_deOk prog_1_method_12_code e = true := List.all_eq_true.mp (by decide +kernel)
set_option maxRecDepth 100000 in
theorem am_ok165 : ∀ e ∈ am_c165, am_ok ⟨"TagRounds", "query", "(IIIII)I"⟩ 165 e = true := List.all_eq_true.mp (by decide +kernel)
set_option maxRecDepth 100000 in
theorem am_de166 : ∀ e ∈ am_c166, am_deOk method_13_code e = true := List.all_eq_true.mp (by decide +kernel)
set_option maxRecDepth 100000 in
theorem am_ok166 : ∀ e ∈ am_c166, am_ok ⟨"TagRoundsLaw", "query", "(LTagRounds;IIIII[J)I"⟩ 166 e = true := List.all_eq_true.mp (by decide +kernel)
set_option maxRecDepth 100000 in
theorem am_de167 : ∀ e ∈ am_c167, am_deOk prog_14_method_41_code e = true := List.all_eq_true.mp (by decide +kernel)
set_option maxRecDepth 100000 in
theorem am_ok167 : ∀ e ∈ am_c167, am_ok ⟨"TagRoundsModel", "isDeep", "(I)Z"⟩ 167 e = true := List.all_eq_true.mp (by decide +kernel)
set_option maxRecDepth 100000 in
theorem am_de168 : ∀ e ∈ am_c168, am_deOk prog_14_method_43_code e = true := List.all_eq_true.mp (by decide +kernel)
set_option maxRecDepth 100000 in
theorem am_ok168 : ∀ e ∈ am_c168, am_ok ⟨"TagRoundsModel", "flips", "(I)V"⟩ 168 e = true := List.all_eq_true.mp (by decide +kernel)
set_option maxRecDepth 100000 in
theorem am_de169 : ∀ e ∈ am_c169, am_deOk prog_14_method_26_code e = true := List.all_eq_true.mp (by decide +kernel)
set_option maxRecDepth 100000 in
theorem am_ok169 : ∀ e ∈ am_c169, am_ok ⟨"TagRoundsModel", "draws", "(I)I"⟩ 169 e = true := List.all_eq_true.mp (by decide +kernel)
set_option maxRecDepth 100000 in
theorem am_de170 : ∀ e ∈ am_c170, am_deOk prog_14_method_39_code e = true := List.all_eq_true.mp (by decide +kernel)
set_option maxRecDepth 100000 in
theorem am_ok170 : ∀ e ∈ am_c170, am_ok ⟨"TagRoundsModel", "says", "(II)V"⟩ 170 e = true := List.all_eq_true.mp (by decide +kernel)
set_option maxRecDepth 100000 in
theorem am_de171 : ∀ e ∈ am_c171, am_deOk prog_14_method_44_code e = true := List.all_eq_true.mp (by decide +kernel)
set_option maxRecDepth 100000 in
theorem am_ok171 : ∀ e ∈ am_c171, am_ok ⟨"TagRoundsModel", "replies", "(I)V"⟩ 171 e = true := List.all_eq_true.mp (by decide +kernel)
set_option maxRecDepth 100000 in
theorem am_de172 : ∀ e ∈ am_c172, am_deOk prog_14_method_45_code e = true := List.all_eq_true.mp (by decide +kernel)
set_option maxRecDepth 100000 in
theorem am_ok172 : ∀ e ∈ am_c172, am_ok ⟨"TagRoundsModel", "drawsSlot", "(I)V"⟩ 172 e = true := List.all_eq_true.mp (by decide +kernel)
set_option maxRecDepth 100000 in
theorem am_de173 : ∀ e ∈ am_c173, am_deOk prog_14_method_53_code e = true := List.all_eq_true.mp (by decide +kernel)
set_option maxRecDepth 100000 in
theorem am_ok173 : ∀ e ∈ am_c173, am_ok ⟨"TagRoundsModel", "queries", "(IIIII)V"⟩ 173 e = true := List.all_eq_true.mp (by decide +kernel)
set_option maxRecDepth 100000 in
theorem am_de174 : ∀ e ∈ am_c174, am_deOk prog_14_method_40_code e = true := List.all_eq_true.mp (by decide +kernel)
set_option maxRecDepth 100000 in
theorem am_ok174 : ∀ e ∈ am_c174, am_ok ⟨"TagRoundsModel", "ends", "(I)I"⟩ 174 e = true := List.all_eq_true.mp (by decide +kernel)
set_option maxRecDepth 100000 in
theorem am_de175 : ∀ e ∈ am_c175, am_deOk prog_14_method_54_code e = true := List.all_eq_true.mp (by decide +kernel)
set_option maxRecDepth 100000 in
theorem am_ok175 : ∀ e ∈ am_c175, am_ok ⟨"TagRoundsModel", "query", "(IIIII)I"⟩ 175 e = true := List.all_eq_true.mp (by decide +kernel)
set_option maxRecDepth 100000 in
theorem am_de176 : ∀ e ∈ am_c176, am_deOk prog_4_method_4_code e = true := List.all_eq_true.mp (by decide +kernel)
set_option maxRecDepth 100000 in
theorem am_ok176 : ∀ e ∈ am_c176, am_ok ⟨"TagRounds$Command", "setAdjust", "(II)V"⟩ 176 e = true := List.all_eq_true.mp (by decide +kernel)
set_option maxRecDepth 100000 in
theorem am_de177 : ∀ e ∈ am_c177, am_deOk prog_1_method_13_code e = true := List.all_eq_true.mp (by decide +kernel)
set_option maxRecDepth 100000 in
theorem am_ok177 : ∀ e ∈ am_c177, am_ok ⟨"TagRounds", "adjust", "(III)I"⟩ 177 e = true := List.all_eq_true.mp (by decide +kernel)
set_option maxRecDepth 100000 in
theorem am_de178 : ∀ e ∈ am_c178, am_deOk method_14_code e = true := List.all_eq_true.mp (by decide +kernel)
set_option maxRecDepth 100000 in
theorem am_ok178 : ∀ e ∈ am_c178, am_ok ⟨"TagRoundsLaw", "adjust", "(LTagRounds;III[J)I"⟩ 178 e = true := List.all_eq_true.mp (by decide +kernel)
set_option maxRecDepth 100000 in
theorem am_de179 : ∀ e ∈ am_c179, am_deOk prog_14_method_55_code e = true := List.all_eq_true.mp (by decide +kernel)
set_option maxRecDepth 100000 in
theorem am_ok179 : ∀ e ∈ am_c179, am_ok ⟨"TagRoundsModel", "goesOn", "(IIIZ)V"⟩ 179 e = true := List.all_eq_true.mp (by decide +kernel)
set_option maxRecDepth 100000 in
theorem am_de180 : ∀ e ∈ am_c180, am_deOk prog_14_method_56_code e = true := List.all_eq_true.mp (by decide +kernel)
set_option maxRecDepth 100000 in
theorem am_ok180 : ∀ e ∈ am_c180, am_ok ⟨"TagRoundsModel", "adjust", "(III)I"⟩ 180 e = true := List.all_eq_true.mp (by decide +kernel)
set_option maxRecDepth 100000 in
theorem am_de181 : ∀ e ∈ am_c181, am_deOk prog_4_method_5_code e = true := List.all_eq_true.mp (by decide +kernel)
set_option maxRecDepth 100000 in
theorem am_ok181 : ∀ e ∈ am_c181, am_ok ⟨"TagRounds$Command", "setNext", "(I)V"⟩ 181 e = true := List.all_eq_true.mp (by decide +kernel)
set_option maxRecDepth 100000 in
theorem am_de182 : ∀ e ∈ am_c182, am_deOk prog_1_method_14_code e = true := List.all_eq_true.mp (by decide +kernel)
set_option maxRecDepth 100000 in
theorem am_ok182 : ∀ e ∈ am_c182, am_ok ⟨"TagRounds", "next", "(II)I"⟩ 182 e = true := List.all_eq_true.mp (by decide +kernel)
set_option maxRecDepth 100000 in
theorem am_de183 : ∀ e ∈ am_c183, am_deOk method_15_code e = true := List.all_eq_true.mp (by decide +kernel)
set_option maxRecDepth 100000 in
theorem am_ok183 : ∀ e ∈ am_c183, am_ok ⟨"TagRoundsLaw", "next", "(LTagRounds;II[J)I"⟩ 183 e = true := List.all_eq_true.mp (by decide +kernel)
set_option maxRecDepth 100000 in
theorem am_de184 : ∀ e ∈ am_c184, am_deOk prog_14_method_57_code e = true := List.all_eq_true.mp (by decide +kernel)
set_option maxRecDepth 100000 in
theorem am_ok184 : ∀ e ∈ am_c184, am_ok ⟨"TagRoundsModel", "next", "(II)I"⟩ 184 e = true := List.all_eq_true.mp (by decide +kernel)
set_option maxRecDepth 100000 in
theorem am_de185 : ∀ e ∈ am_c185, am_deOk prog_4_method_6_code e = true := List.all_eq_true.mp (by decide +kernel)
set_option maxRecDepth 100000 in
theorem am_ok185 : ∀ e ∈ am_c185, am_ok ⟨"TagRounds$Command", "setNumber", "(III)V"⟩ 185 e = true := List.all_eq_true.mp (by decide +kernel)
set_option maxRecDepth 100000 in
theorem am_de186 : ∀ e ∈ am_c186, am_deOk prog_1_method_15_code e = true := List.all_eq_true.mp (by decide +kernel)
set_option maxRecDepth 100000 in
theorem am_ok186 : ∀ e ∈ am_c186, am_ok ⟨"TagRounds", "ack", "(II)I"⟩ 186 e = true := List.all_eq_true.mp (by decide +kernel)
set_option maxRecDepth 100000 in
theorem am_de187 : ∀ e ∈ am_c187, am_deOk method_16_code e = true := List.all_eq_true.mp (by decide +kernel)
set_option maxRecDepth 100000 in
theorem am_ok187 : ∀ e ∈ am_c187, am_ok ⟨"TagRoundsLaw", "ack", "(LTagRounds;II[J)I"⟩ 187 e = true := List.all_eq_true.mp (by decide +kernel)
set_option maxRecDepth 100000 in
theorem am_de188 : ∀ e ∈ am_c188, am_deOk prog_14_method_42_code e = true := List.all_eq_true.mp (by decide +kernel)
set_option maxRecDepth 100000 in
theorem am_ok188 : ∀ e ∈ am_c188, am_ok ⟨"TagRoundsModel", "isHeld", "(II)Z"⟩ 188 e = true := List.all_eq_true.mp (by decide +kernel)
set_option maxRecDepth 100000 in
theorem am_de189 : ∀ e ∈ am_c189, am_deOk prog_14_method_46_code e = true := List.all_eq_true.mp (by decide +kernel)
set_option maxRecDepth 100000 in
theorem am_ok189 : ∀ e ∈ am_c189, am_ok ⟨"TagRoundsModel", "othersWait", "(IZ)V"⟩ 189 e = true := List.all_eq_true.mp (by decide +kernel)
set_option maxRecDepth 100000 in
theorem am_de190 : ∀ e ∈ am_c190, am_deOk prog_14_method_58_code e = true := List.all_eq_true.mp (by decide +kernel)
set_option maxRecDepth 100000 in
theorem am_ok190 : ∀ e ∈ am_c190, am_ok ⟨"TagRoundsModel", "acks", "(II)V"⟩ 190 e = true := List.all_eq_true.mp (by decide +kernel)
set_option maxRecDepth 100000 in
theorem am_de191 : ∀ e ∈ am_c191, am_deOk prog_14_method_59_code e = true := List.all_eq_true.mp (by decide +kernel)
set_option maxRecDepth 100000 in
theorem am_ok191 : ∀ e ∈ am_c191, am_ok ⟨"TagRoundsModel", "ack", "(II)I"⟩ 191 e = true := List.all_eq_true.mp (by decide +kernel)
set_option maxRecDepth 100000 in
theorem am_de192 : ∀ e ∈ am_c192, am_deOk prog_1_method_16_code e = true := List.all_eq_true.mp (by decide +kernel)
set_option maxRecDepth 100000 in
theorem am_ok192 : ∀ e ∈ am_c192, am_ok ⟨"TagRounds", "nak", "(I)I"⟩ 192 e = true := List.all_eq_true.mp (by decide +kernel)
set_option maxRecDepth 100000 in
theorem am_de193 : ∀ e ∈ am_c193, am_deOk method_17_code e = true := List.all_eq_true.mp (by decide +kernel)
set_option maxRecDepth 100000 in
theorem am_ok193 : ∀ e ∈ am_c193, am_ok ⟨"TagRoundsLaw", "nak", "(LTagRounds;I[J)I"⟩ 193 e = true := List.all_eq_true.mp (by decide +kernel)
set_option maxRecDepth 100000 in
theorem am_de194 : ∀ e ∈ am_c194, am_deOk prog_14_method_60_code e = true := List.all_eq_true.mp (by decide +kernel)
set_option maxRecDepth 100000 in
theorem am_ok194 : ∀ e ∈ am_c194, am_ok ⟨"TagRoundsModel", "nak", "(I)I"⟩ 194 e = true := List.all_eq_true.mp (by decide +kernel)
set_option maxRecDepth 100000 in
theorem am_de195 : ∀ e ∈ am_c195, am_deOk prog_1_method_17_code e = true := List.all_eq_true.mp (by decide +kernel)
set_option maxRecDepth 100000 in
theorem am_ok195 : ∀ e ∈ am_c195, am_ok ⟨"TagRounds", "renew", "(II)I"⟩ 195 e = true := List.all_eq_true.mp (by decide +kernel)
set_option maxRecDepth 100000 in
theorem am_de196 : ∀ e ∈ am_c196, am_deOk method_18_code e = true := List.all_eq_true.mp (by decide +kernel)
set_option maxRecDepth 100000 in
theorem am_ok196 : ∀ e ∈ am_c196, am_ok ⟨"TagRoundsLaw", "renew", "(LTagRounds;II[J)I"⟩ 196 e = true := List.all_eq_true.mp (by decide +kernel)
set_option maxRecDepth 100000 in
theorem am_de197 : ∀ e ∈ am_c197, am_deOk prog_14_method_61_code e = true := List.all_eq_true.mp (by decide +kernel)
set_option maxRecDepth 100000 in
theorem am_ok197 : ∀ e ∈ am_c197, am_ok ⟨"TagRoundsModel", "renew", "(II)I"⟩ 197 e = true := List.all_eq_true.mp (by decide +kernel)
set_option maxRecDepth 100000 in
theorem am_de198 : ∀ e ∈ am_c198, am_deOk prog_4_method_7_code e = true := List.all_eq_true.mp (by decide +kernel)
set_option maxRecDepth 100000 in
theorem am_ok198 : ∀ e ∈ am_c198, am_ok ⟨"TagRounds$Command", "setWords", "(III)V"⟩ 198 e = true := List.all_eq_true.mp (by decide +kernel)
set_option maxRecDepth 100000 in
theorem am_de199 : ∀ e ∈ am_c199, am_deOk prog_1_method_18_code e = true := List.all_eq_true.mp (by decide +kernel)
set_option maxRecDepth 100000 in
theorem am_ok199 : ∀ e ∈ am_c199, am_ok ⟨"TagRounds", "read", "(IIIII)I"⟩ 199 e = true := List.all_eq_true.mp (by decide +kernel)
set_option maxRecDepth 100000 in
theorem am_de200 : ∀ e ∈ am_c200, am_deOk method_19_code e = true := List.all_eq_true.mp (by decide +kernel)
set_option maxRecDepth 100000 in
theorem am_ok200 : ∀ e ∈ am_c200, am_ok ⟨"TagRoundsLaw", "read", "(LTagRounds;IIIII[J)I"⟩ 200 e = true := List.all_eq_true.mp (by decide +kernel)
set_option maxRecDepth 100000 in
theorem am_de201 : ∀ e ∈ am_c201, am_deOk prog_14_method_67_code e = true := List.all_eq_true.mp (by decide +kernel)
set_option maxRecDepth 100000 in
theorem am_ok201 : ∀ e ∈ am_c201, am_ok ⟨"TagRoundsModel", "isAsked", "(II)Z"⟩ 201 e = true := List.all_eq_true.mp (by decide +kernel)
set_option maxRecDepth 100000 in
theorem am_de202 : ∀ e ∈ am_c202, am_deOk prog_14_method_62_code e = true := List.all_eq_true.mp (by decide +kernel)
set_option maxRecDepth 100000 in
theorem am_ok202 : ∀ e ∈ am_c202, am_ok ⟨"TagRoundsModel", "areaOf", "(II)I"⟩ 202 e = true := List.all_eq_true.mp (by decide +kernel)
set_option maxRecDepth 100000 in
theorem am_de203 : ∀ e ∈ am_c203, am_deOk prog_14_method_63_code e = true := List.all_eq_true.mp (by decide +kernel)
set_option maxRecDepth 100000 in
theorem am_ok203 : ∀ e ∈ am_c203, am_ok ⟨"TagRoundsModel", "isShut", "(II)Z"⟩ 203 e = true := List.all_eq_true.mp (by decide +kernel)
set_option maxRecDepth 100000 in
theorem am_de204 : ∀ e ∈ am_c204, am_deOk prog_14_method_64_code e = true := List.all_eq_true.mp (by decide +kernel)
set_option maxRecDepth 100000 in
theorem am_ok204 : ∀ e ∈ am_c204, am_ok ⟨"TagRoundsModel", "whyNoRead", "(IIII)I"⟩ 204 e = true := List.all_eq_true.mp (by decide +kernel)
set_option maxRecDepth 100000 in
theorem am_de205 : ∀ e ∈ am_c205, am_deOk prog_14_method_68_code e = true := List.all_eq_true.mp (by decide +kernel)
set_option maxRecDepth 100000 in
theorem am_ok205 : ∀ e ∈ am_c205, am_ok ⟨"TagRoundsModel", "saysCode", "(II)Z"⟩ 205 e = true := List.all_eq_true.mp (by decide +kernel)
set_option maxRecDepth 100000 in
theorem am_de206 : ∀ e ∈ am_c206, am_deOk prog_14_method_69_code e = true := List.all_eq_true.mp (by decide +kernel)
set_option maxRecDepth 100000 in
theorem am_ok206 : ∀ e ∈ am_c206, am_ok ⟨"TagRoundsModel", "read", "(IIIII)I"⟩ 206 e = true := List.all_eq_true.mp (by decide +kernel)
set_option maxRecDepth 100000 in
theorem am_de207 : ∀ e ∈ am_c207, am_deOk prog_1_method_19_code e = true := List.all_eq_true.mp (by decide +kernel)
set_option maxRecDepth 100000 in
theorem am_ok207 : ∀ e ∈ am_c207, am_ok ⟨"TagRounds", "write", "(IIIII)I"⟩ 207 e = true := List.all_eq_true.mp (by decide +kernel)
set_option maxRecDepth 100000 in
theorem am_de208 : ∀ e ∈ am_c208, am_deOk method_20_code e = true := List.all_eq_true.mp (by decide +kernel)
set_option maxRecDepth 100000 in
theorem am_ok208 : ∀ e ∈ am_c208, am_ok ⟨"TagRoundsLaw", "write", "(LTagRounds;IIIII[J)I"⟩ 208 e = true := List.all_eq_true.mp (by decide +kernel)
set_option maxRecDepth 100000 in
theorem am_de209 : ∀ e ∈ am_c209, am_deOk prog_14_method_65_code e = true := List.all_eq_true.mp (by decide +kernel)
set_option maxRecDepth 100000 in
theorem am_ok209 : ∀ e ∈ am_c209, am_ok ⟨"TagRoundsModel", "whyNoWrite", "(III)I"⟩ 209 e = true := List.all_eq_true.mp (by decide +kernel)
set_option maxRecDepth 100000 in
theorem am_de210 : ∀ e ∈ am_c210, am_deOk prog_14_method_70_code e = true := List.all_eq_true.mp (by decide +kernel)
set_option maxRecDepth 100000 in
theorem am_ok210 : ∀ e ∈ am_c210, am_ok ⟨"TagRoundsModel", "write", "(IIIII)I"⟩ 210 e = true := List.all_eq_true.mp (by decide +kernel)
set_option maxRecDepth 100000 in
theorem am_de211 : ∀ e ∈ am_c211, am_deOk prog_1_method_20_code e = true := List.all_eq_true.mp (by decide +kernel)
set_option maxRecDepth 100000 in
theorem am_ok211 : ∀ e ∈ am_c211, am_ok ⟨"TagRounds", "lock", "(IIII)I"⟩ 211 e = true := List.all_eq_true.mp (by decide +kernel)
set_option maxRecDepth 100000 in
theorem am_de212 : ∀ e ∈ am_c212, am_deOk method_21_code e = true := List.all_eq_true.mp (by decide +kernel)
set_option maxRecDepth 100000 in
theorem am_ok212 : ∀ e ∈ am_c212, am_ok ⟨"TagRoundsLaw", "lock", "(LTagRounds;IIII[J)I"⟩ 212 e = true := List.all_eq_true.mp (by decide +kernel)
set_option maxRecDepth 100000 in
theorem am_de213 : ∀ e ∈ am_c213, am_deOk prog_14_method_66_code e = true := List.all_eq_true.mp (by decide +kernel)
set_option maxRecDepth 100000 in
theorem am_ok213 : ∀ e ∈ am_c213, am_ok ⟨"TagRoundsModel", "whyNoLock", "(III)I"⟩ 213 e = true := List.all_eq_true.mp (by decide +kernel)
set_option maxRecDepth 100000 in
theorem am_de214 : ∀ e ∈ am_c214, am_deOk prog_14_method_71_code e = true := List.all_eq_true.mp (by decide +kernel)
set_option maxRecDepth 100000 in
theorem am_ok214 : ∀ e ∈ am_c214, am_ok ⟨"TagRoundsModel", "lock", "(IIII)I"⟩ 214 e = true := List.all_eq_true.mp (by decide +kernel)
set_option maxRecDepth 100000 in
theorem am_de215 : ∀ e ∈ am_c215, am_deOk prog_1_method_21_code e = true := List.all_eq_true.mp (by decide +kernel)
set_option maxRecDepth 100000 in
theorem am_ok215 : ∀ e ∈ am_c215, am_ok ⟨"TagRounds", "pass", "(IIIZ)I"⟩ 215 e = true := List.all_eq_true.mp (by decide +kernel)
set_option maxRecDepth 100000 in
theorem am_de216 : ∀ e ∈ am_c216, am_deOk method_22_code e = true := List.all_eq_true.mp (by decide +kernel)
set_option maxRecDepth 100000 in
theorem am_ok216 : ∀ e ∈ am_c216, am_ok ⟨"TagRoundsLaw", "pass", "(LTagRounds;IIIZ[J)I"⟩ 216 e = true := List.all_eq_true.mp (by decide +kernel)
set_option maxRecDepth 100000 in
theorem am_de217 : ∀ e ∈ am_c217, am_deOk prog_14_method_72_code e = true := List.all_eq_true.mp (by decide +kernel)
set_option maxRecDepth 100000 in
theorem am_ok217 : ∀ e ∈ am_c217, am_ok ⟨"TagRoundsModel", "passes", "(IIZ)V"⟩ 217 e = true := List.all_eq_true.mp (by decide +kernel)
set_option maxRecDepth 100000 in
theorem am_de218 : ∀ e ∈ am_c218, am_deOk prog_14_method_73_code e = true := List.all_eq_true.mp (by decide +kernel)
set_option maxRecDepth 100000 in
theorem am_ok218 : ∀ e ∈ am_c218, am_ok ⟨"TagRoundsModel", "pass", "(IIIZ)I"⟩ 218 e = true := List.all_eq_true.mp (by decide +kernel)
set_option maxRecDepth 100000 in
theorem am_de219 : ∀ e ∈ am_c219, am_deOk prog_2_method_5_code e = true := List.all_eq_true.mp (by decide +kernel)
set_option maxRecDepth 100000 in
theorem am_ok219 : ∀ e ∈ am_c219, am_ok ⟨"TagRounds$Answer", "size", "()I"⟩ 219 e = true := List.all_eq_true.mp (by decide +kernel)
set_option maxRecDepth 100000 in
theorem am_de220 : ∀ e ∈ am_c220, am_deOk prog_2_method_6_code e = true := List.all_eq_true.mp (by decide +kernel)
set_option maxRecDepth 100000 in
theorem am_ok220 : ∀ e ∈ am_c220, am_ok ⟨"TagRounds$Answer", "wordAt", "(I)I"⟩ 220 e = true := List.all_eq_true.mp (by decide +kernel)
set_option maxRecDepth 100000 in
theorem am_de221 : ∀ e ∈ am_c221, am_deOk prog_1_method_22_code e = true := List.all_eq_true.mp (by decide +kernel)
set_option maxRecDepth 100000 in
theorem am_ok221 : ∀ e ∈ am_c221, am_ok ⟨"TagRounds", "heard", "(I)I"⟩ 221 e = true := List.all_eq_true.mp (by decide +kernel)
set_option maxRecDepth 100000 in
theorem am_de222 : ∀ e ∈ am_c222, am_deOk prog_14_method_74_code e = true := List.all_eq_true.mp (by decide +kernel)
set_option maxRecDepth 100000 in
theorem am_ok222 : ∀ e ∈ am_c222, am_ok ⟨"TagRoundsModel", "heard", "(I)I"⟩ 222 e = true := List.all_eq_true.mp (by decide +kernel)
set_option maxRecDepth 100000 in
theorem am_de223 : ∀ e ∈ am_c223, am_deOk prog_1_method_23_code e = true := List.all_eq_true.mp (by decide +kernel)
set_option maxRecDepth 100000 in
theorem am_ok223 : ∀ e ∈ am_c223, am_ok ⟨"TagRounds", "steer", "(III)I"⟩ 223 e = true := List.all_eq_true.mp (by decide +kernel)
set_option maxRecDepth 100000 in
theorem am_de224 : ∀ e ∈ am_c224, am_deOk method_23_code e = true := List.all_eq_true.mp (by decide +kernel)
set_option maxRecDepth 100000 in
theorem am_ok224 : ∀ e ∈ am_c224, am_ok ⟨"TagRoundsLaw", "steer", "(LTagRounds;III[J)I"⟩ 224 e = true := List.all_eq_true.mp (by decide +kernel)
set_option maxRecDepth 100000 in
theorem am_de225 : ∀ e ∈ am_c225, am_deOk prog_14_method_76_code e = true := List.all_eq_true.mp (by decide +kernel)
set_option maxRecDepth 100000 in
theorem am_ok225 : ∀ e ∈ am_c225, am_ok ⟨"TagRoundsModel", "steer", "(III)I"⟩ 225 e = true := List.all_eq_true.mp (by decide +kernel)
set_option maxRecDepth 100000 in
theorem am_de226 : ∀ e ∈ am_c226, am_deOk prog_10_method_4_code e = true := List.all_eq_true.mp (by decide +kernel)
set_option maxRecDepth 100000 in
theorem am_ok226 : ∀ e ∈ am_c226, am_ok ⟨"TagRounds$Reader", "beginRound", "()V"⟩ 226 e = true := List.all_eq_true.mp (by decide +kernel)
set_option maxRecDepth 100000 in
theorem am_de227 : ∀ e ∈ am_c227, am_deOk prog_10_method_3_code e = true := List.all_eq_true.mp (by decide +kernel)
set_option maxRecDepth 100000 in
theorem am_ok227 : ∀ e ∈ am_c227, am_ok ⟨"TagRounds$Reader", "aimedQ", "()I"⟩ 227 e = true := List.all_eq_true.mp (by decide +kernel)
set_option maxRecDepth 100000 in
theorem am_de228 : ∀ e ∈ am_c228, am_deOk prog_5_method_3_code e = true := List.all_eq_true.mp (by decide +kernel)
set_option maxRecDepth 100000 in
theorem am_ok228 : ∀ e ∈ am_c228, am_ok ⟨"TagRounds$Course", "setQ", "(I)V"⟩ 228 e = true := List.all_eq_true.mp (by decide +kernel)
set_option maxRecDepth 100000 in
theorem am_de229 : ∀ e ∈ am_c229, am_deOk prog_5_method_2_code e = true := List.all_eq_true.mp (by decide +kernel)
set_option maxRecDepth 100000 in
theorem am_ok229 : ∀ e ∈ am_c229, am_ok ⟨"TagRounds$Course", "begin", "(IIII)V"⟩ 229 e = true := List.all_eq_true.mp (by decide +kernel)
set_option maxRecDepth 100000 in
theorem am_de230 : ∀ e ∈ am_c230, am_deOk prog_10_method_5_code e = true := List.all_eq_true.mp (by decide +kernel)
set_option maxRecDepth 100000 in
theorem am_ok230 : ∀ e ∈ am_c230, am_ok ⟨"TagRounds$Reader", "tally", "(I)V"⟩ 230 e = true := List.all_eq_true.mp (by decide +kernel)
set_option maxRecDepth 100000 in
theorem am_de231 : ∀ e ∈ am_c231, am_deOk prog_5_method_4_code e = true := List.all_eq_true.mp (by decide +kernel)
set_option maxRecDepth 100000 in
theorem am_ok231 : ∀ e ∈ am_c231, am_ok ⟨"TagRounds$Course", "note", "(I)V"⟩ 231 e = true := List.all_eq_true.mp (by decide +kernel)
set_option maxRecDepth 100000 in
theorem am_de232 : ∀ e ∈ am_c232, am_deOk prog_23_method_50_code e = true := List.all_eq_true.mp (by decide +kernel)
set_option maxRecDepth 100000 in
theorem am_ok232 : ∀ e ∈ am_c232, am_ok ⟨"java/lang/Math", "floorMod", "(II)I"⟩ 232 e = true := List.all_eq_true.mp (by decide +kernel)
set_option maxRecDepth 100000 in
theorem am_de233 : ∀ e ∈ am_c233, am_deOk prog_7_method_2_code e = true := List.all_eq_true.mp (by decide +kernel)
set_option maxRecDepth 100000 in
theorem am_ok233 : ∀ e ∈ am_c233, am_ok ⟨"TagRounds$Journal", "note", "(IIII)V"⟩ 233 e = true := List.all_eq_true.mp (by decide +kernel)
set_option maxRecDepth 100000 in
theorem am_de234 : ∀ e ∈ am_c234, am_deOk prog_1_method_45_code e = true := List.all_eq_true.mp (by decide +kernel)
set_option maxRecDepth 100000 in
theorem am_ok234 : ∀ e ∈ am_c234, am_ok ⟨"TagRounds", "acknowledge", "(ILTagRounds$Reader;I)V"⟩ 234 e = true := List.all_eq_true.mp (by decide +kernel)
set_option maxRecDepth 100000 in
theorem am_de235 : ∀ e ∈ am_c235, am_deOk prog_5_method_5_code e = true := List.all_eq_true.mp (by decide +kernel)
set_option maxRecDepth 100000 in
theorem am_ok235 : ∀ e ∈ am_c235, am_ok ⟨"TagRounds$Course", "prepare", "(LTagRounds$Command;I)Z"⟩ 235 e = true := List.all_eq_true.mp (by decide +kernel)
set_option maxRecDepth 100000 in
theorem am_de236 : ∀ e ∈ am_c236, am_deOk prog_1_method_24_code e = true := List.all_eq_true.mp (by decide +kernel)
set_option maxRecDepth 100000 in
theorem am_ok236 : ∀ e ∈ am_c236, am_ok ⟨"TagRounds", "round", "(IIIII)I"⟩ 236 e = true := List.all_eq_true.mp (by decide +kernel)
set_option maxRecDepth 100000 in
theorem am_de237 : ∀ e ∈ am_c237, am_deOk method_24_code e = true := List.all_eq_true.mp (by decide +kernel)
set_option maxRecDepth 100000 in
theorem am_ok237 : ∀ e ∈ am_c237, am_ok ⟨"TagRoundsLaw", "round", "(LTagRounds;IIIII[J)I"⟩ 237 e = true := List.all_eq_true.mp (by decide +kernel)
set_option maxRecDepth 100000 in
theorem am_de238 : ∀ e ∈ am_c238, am_deOk prog_14_method_77_code e = true := List.all_eq_true.mp (by decide +kernel)
set_option maxRecDepth 100000 in
theorem am_ok238 : ∀ e ∈ am_c238, am_ok ⟨"TagRoundsModel", "aimed", "(I)I"⟩ 238 e = true := List.all_eq_true.mp (by decide +kernel)
set_option maxRecDepth 100000 in
theorem am_de239 : ∀ e ∈ am_c239, am_deOk prog_14_method_75_code e = true := List.all_eq_true.mp (by decide +kernel)
set_option maxRecDepth 100000 in
theorem am_ok239 : ∀ e ∈ am_c239, am_ok ⟨"TagRoundsModel", "logs", "(IIII)V"⟩ 239 e = true := List.all_eq_true.mp (by decide +kernel)
set_option maxRecDepth 100000 in
theorem am_de240 : ∀ e ∈ am_c240, am_deOk prog_14_method_78_code e = true := List.all_eq_true.mp (by decide +kernel)
set_option maxRecDepth 100000 in
theorem am_ok240 : ∀ e ∈ am_c240, am_ok ⟨"TagRoundsModel", "knows", "(II)Z"⟩ 240 e = true := List.all_eq_true.mp (by decide +kernel)
set_option maxRecDepth 100000 in
theorem am_de241 : ∀ e ∈ am_c241, am_deOk prog_14_method_79_code e = true := List.all_eq_true.mp (by decide +kernel)
set_option maxRecDepth 100000 in
theorem am_ok241 : ∀ e ∈ am_c241, am_ok ⟨"TagRoundsModel", "steers", "(III)Z"⟩ 241 e = true := List.all_eq_true.mp (by decide +kernel)
set_option maxRecDepth 100000 in
theorem am_de242 : ∀ e ∈ am_c242, am_deOk prog_14_method_80_code e = true := List.all_eq_true.mp (by decide +kernel)
set_option maxRecDepth 100000 in
theorem am_ok242 : ∀ e ∈ am_c242, am_ok ⟨"TagRoundsModel", "round", "(IIIII)I"⟩ 242 e = true := List.all_eq_true.mp (by decide +kernel)
set_option maxRecDepth 100000 in
theorem am_de243 : ∀ e ∈ am_c243, am_deOk prog_11_method_4_code e = true := List.all_eq_true.mp (by decide +kernel)
set_option maxRecDepth 100000 in
theorem am_ok243 : ∀ e ∈ am_c243, am_ok ⟨"TagRounds$Signal", "bitAt", "(I)I"⟩ 243 e = true := List.all_eq_true.mp (by decide +kernel)
set_option maxRecDepth 100000 in
theorem am_de244 : ∀ e ∈ am_c244, am_deOk prog_1_method_25_code e = true := List.all_eq_true.mp (by decide +kernel)
set_option maxRecDepth 100000 in
theorem am_ok244 : ∀ e ∈ am_c244, am_ok ⟨"TagRounds", "sent", "(I)I"⟩ 244 e = true := List.all_eq_true.mp (by decide +kernel)
set_option maxRecDepth 100000 in
theorem am_de245 : ∀ e ∈ am_c245, am_deOk prog_14_method_51_code e = true := List.all_eq_true.mp (by decide +kernel)
set_option maxRecDepth 100000 in
theorem am_ok245 : ∀ e ∈ am_c245, am_ok ⟨"TagRoundsModel", "sent", "(I)I"⟩ 245 e = true := List.all_eq_true.mp (by decide +kernel)
set_option maxRecDepth 100000 in
theorem am_de246 : ∀ e ∈ am_c246, am_deOk prog_30_method_103_code e = true := List.all_eq_true.mp (by decide +kernel)
set_option maxRecDepth 100000 in
theorem am_ok246 : ∀ e ∈ am_c246, am_ok ⟨"java/util/Arrays", "fill", "([II)V"⟩ 246 e = true := List.all_eq_true.mp (by decide +kernel)
set_option maxRecDepth 100000 in
theorem am_de247 : ∀ e ∈ am_c247, am_deOk prog_12_method_10_code e = true := List.all_eq_true.mp (by decide +kernel)
set_option maxRecDepth 100000 in
theorem am_ok247 : ∀ e ∈ am_c247, am_ok ⟨"TagRounds$Tag", "wouldDraw", "(II)Z"⟩ 247 e = true := List.all_eq_true.mp (by decide +kernel)
set_option maxRecDepth 100000 in
theorem am_de248 : ∀ e ∈ am_c248, am_deOk prog_12_method_9_code e = true := List.all_eq_true.mp (by decide +kernel)
set_option maxRecDepth 100000 in
theorem am_ok248 : ∀ e ∈ am_c248, am_ok ⟨"TagRounds$Tag", "foreseenSlot", "(I)I"⟩ 248 e = true := List.all_eq_true.mp (by decide +kernel)
set_option maxRecDepth 100000 in
theorem am_de249 : ∀ e ∈ am_c249, am_deOk prog_1_method_59_code e = true := List.all_eq_true.mp (by decide +kernel)
set_option maxRecDepth 100000 in
theorem am_ok249 : ∀ e ∈ am_c249, am_ok ⟨"TagRounds", "foreseeSlots", "(IIII)V"⟩ 249 e = true := List.all_eq_true.mp (by decide +kernel)
set_option maxRecDepth 100000 in
theorem am_de250 : ∀ e ∈ am_c250, am_deOk prog_1_method_60_code e = true := List.all_eq_true.mp (by decide +kernel)
set_option maxRecDepth 100000 in
theorem am_ok250 : ∀ e ∈ am_c250, am_ok ⟨"TagRounds", "tagsIn", "(I)I"⟩ 250 e = true := List.all_eq_true.mp (by decide +kernel)
set_option maxRecDepth 100000 in
theorem am_de251 : ∀ e ∈ am_c251, am_deOk prog_1_method_63_code e = true := List.all_eq_true.mp (by decide +kernel)
set_option maxRecDepth 100000 in
theorem am_ok251 : ∀ e ∈ am_c251, am_ok ⟨"TagRounds", "firstSingle", "()I"⟩ 251 e = true := List.all_eq_true.mp (by decide +kernel)
set_option maxRecDepth 100000 in
theorem am_de252 : ∀ e ∈ am_c252, am_deOk prog_1_method_62_code e = true := List.all_eq_true.mp (by decide +kernel)
set_option maxRecDepth 100000 in
theorem am_ok252 : ∀ e ∈ am_c252, am_ok ⟨"TagRounds", "wasAhead", "(I)Z"⟩ 252 e = true := List.all_eq_true.mp (by decide +kernel)
set_option maxRecDepth 100000 in
theorem am_de253 : ∀ e ∈ am_c253, am_deOk prog_1_method_61_code e = true := List.all_eq_true.mp (by decide +kernel)
set_option maxRecDepth 100000 in
theorem am_ok253 : ∀ e ∈ am_c253, am_ok ⟨"TagRounds", "countSlots", "(Z)I"⟩ 253 e = true := List.all_eq_true.mp (by decide +kernel)
set_option maxRecDepth 100000 in
theorem am_de254 : ∀ e ∈ am_c254, am_deOk prog_1_method_26_code e = true := List.all_eq_true.mp (by decide +kernel)
set_option maxRecDepth 100000 in
theorem am_ok254 : ∀ e ∈ am_c254, am_ok ⟨"TagRounds", "foresee", "(IIIII)I"⟩ 254 e = true := List.all_eq_true.mp (by decide +kernel)
set_option maxRecDepth 100000 in
theorem am_de255 : ∀ e ∈ am_c255, am_deOk method_25_code e = true := List.all_eq_true.mp (by decide +kernel)
set_option maxRecDepth 100000 in
theorem am_ok255 : ∀ e ∈ am_c255, am_ok ⟨"TagRoundsLaw", "foresee", "(LTagRounds;IIIII[J)I"⟩ 255 e = true := List.all_eq_true.mp (by decide +kernel)
set_option maxRecDepth 100000 in
theorem am_de256 : ∀ e ∈ am_c256, am_deOk prog_14_method_85_code e = true := List.all_eq_true.mp (by decide +kernel)
set_option maxRecDepth 100000 in
theorem am_ok256 : ∀ e ∈ am_c256, am_ok ⟨"TagRoundsModel", "isNoRound", "(III)Z"⟩ 256 e = true := List.all_eq_true.mp (by decide +kernel)
set_option maxRecDepth 100000 in
theorem am_de257 : ∀ e ∈ am_c257, am_deOk prog_14_method_81_code e = true := List.all_eq_true.mp (by decide +kernel)
set_option maxRecDepth 100000 in
theorem am_ok257 : ∀ e ∈ am_c257, am_ok ⟨"TagRoundsModel", "foresees", "(III)V"⟩ 257 e = true := List.all_eq_true.mp (by decide +kernel)
set_option maxRecDepth 100000 in
theorem am_de258 : ∀ e ∈ am_c258, am_deOk prog_14_method_82_code e = true := List.all_eq_true.mp (by decide +kernel)
set_option maxRecDepth 100000 in
theorem am_ok258 : ∀ e ∈ am_c258, am_ok ⟨"TagRoundsModel", "manyIn", "(II)I"⟩ 258 e = true := List.all_eq_true.mp (by decide +kernel)
set_option maxRecDepth 100000 in
theorem am_de259 : ∀ e ∈ am_c259, am_deOk prog_14_method_84_code e = true := List.all_eq_true.mp (by decide +kernel)
set_option maxRecDepth 100000 in
theorem am_ok259 : ∀ e ∈ am_c259, am_ok ⟨"TagRoundsModel", "firstSingle", "(I)I"⟩ 259 e = true := List.all_eq_true.mp (by decide +kernel)
set_option maxRecDepth 100000 in
theorem am_de260 : ∀ e ∈ am_c260, am_deOk prog_14_method_83_code e = true := List.all_eq_true.mp (by decide +kernel)
set_option maxRecDepth 100000 in
theorem am_ok260 : ∀ e ∈ am_c260, am_ok ⟨"TagRoundsModel", "slotsWith", "(IZ)I"⟩ 260 e = true := List.all_eq_true.mp (by decide +kernel)
set_option maxRecDepth 100000 in
theorem am_de261 : ∀ e ∈ am_c261, am_deOk prog_14_method_86_code e = true := List.all_eq_true.mp (by decide +kernel)
set_option maxRecDepth 100000 in
theorem am_ok261 : ∀ e ∈ am_c261, am_ok ⟨"TagRoundsModel", "foresee", "(IIIII)I"⟩ 261 e = true := List.all_eq_true.mp (by decide +kernel)
set_option maxRecDepth 100000 in
theorem am_de262 : ∀ e ∈ am_c262, am_deOk prog_1_method_27_code e = true := List.all_eq_true.mp (by decide +kernel)
set_option maxRecDepth 100000 in
theorem am_ok262 : ∀ e ∈ am_c262, am_ok ⟨"TagRounds", "wise", "(III)I"⟩ 262 e = true := List.all_eq_true.mp (by decide +kernel)
set_option maxRecDepth 100000 in
theorem am_de263 : ∀ e ∈ am_c263, am_deOk method_26_code e = true := List.all_eq_true.mp (by decide +kernel)
set_option maxRecDepth 100000 in
theorem am_ok263 : ∀ e ∈ am_c263, am_ok ⟨"TagRoundsLaw", "wise", "(LTagRounds;III[J)I"⟩ 263 e = true := List.all_eq_true.mp (by decide +kernel)
set_option maxRecDepth 100000 in
theorem am_de264 : ∀ e ∈ am_c264, am_deOk prog_14_method_87_code e = true := List.all_eq_true.mp (by decide +kernel)
set_option maxRecDepth 100000 in
theorem am_ok264 : ∀ e ∈ am_c264, am_ok ⟨"TagRoundsModel", "wise", "(III)I"⟩ 264 e = true := List.all_eq_true.mp (by decide +kernel)
set_option maxRecDepth 100000 in
theorem am_de265 : ∀ e ∈ am_c265, am_deOk prog_1_method_55_code e = true := List.all_eq_true.mp (by decide +kernel)
set_option maxRecDepth 100000 in
theorem am_ok265 : ∀ e ∈ am_c265, am_ok ⟨"TagRounds", "countTicksByBusy", "()V"⟩ 265 e = true := List.all_eq_true.mp (by decide +kernel)
set_option maxRecDepth 100000 in
theorem am_de266 : ∀ e ∈ am_c266, am_deOk prog_1_method_56_code e = true := List.all_eq_true.mp (by decide +kernel)
set_option maxRecDepth 100000 in
theorem am_ok266 : ∀ e ∈ am_c266, am_ok ⟨"TagRounds", "chancesOf", "(ILTagRounds$Tag;)I"⟩ 266 e = true := List.all_eq_true.mp (by decide +kernel)
set_option maxRecDepth 100000 in
theorem am_de267 : ∀ e ∈ am_c267, am_deOk prog_1_method_28_code e = true := List.all_eq_true.mp (by decide +kernel)
set_option maxRecDepth 100000 in
theorem am_ok267 : ∀ e ∈ am_c267, am_ok ⟨"TagRounds", "chances", "(II)I"⟩ 267 e = true := List.all_eq_true.mp (by decide +kernel)
set_option maxRecDepth 100000 in
theorem am_de268 : ∀ e ∈ am_c268, am_deOk method_27_code e = true := List.all_eq_true.mp (by decide +kernel)
set_option maxRecDepth 100000 in
theorem am_ok268 : ∀ e ∈ am_c268, am_ok ⟨"TagRoundsLaw", "chances", "(LTagRounds;II[J)I"⟩ 268 e = true := List.all_eq_true.mp (by decide +kernel)
set_option maxRecDepth 100000 in
theorem am_de269 : ∀ e ∈ am_c269, am_deOk prog_14_method_88_code e = true := List.all_eq_true.mp (by decide +kernel)
set_option maxRecDepth 100000 in
theorem am_ok269 : ∀ e ∈ am_c269, am_ok ⟨"TagRoundsModel", "chancesOf", "(II)I"⟩ 269 e = true := List.all_eq_true.mp (by decide +kernel)
set_option maxRecDepth 100000 in
theorem am_de270 : ∀ e ∈ am_c270, am_deOk prog_14_method_89_code e = true := List.all_eq_true.mp (by decide +kernel)
set_option maxRecDepth 100000 in
theorem am_ok270 : ∀ e ∈ am_c270, am_ok ⟨"TagRoundsModel", "chances", "(II)I"⟩ 270 e = true := List.all_eq_true.mp (by decide +kernel)
set_option maxRecDepth 100000 in
theorem am_de271 : ∀ e ∈ am_c271, am_deOk prog_1_method_66_code e = true := List.all_eq_true.mp (by decide +kernel)
set_option maxRecDepth 100000 in
theorem am_ok271 : ∀ e ∈ am_c271, am_ok ⟨"TagRounds", "rivalsOf", "(I)I"⟩ 271 e = true := List.all_eq_true.mp (by decide +kernel)
set_option maxRecDepth 100000 in
theorem am_de272 : ∀ e ∈ am_c272, am_deOk prog_1_method_67_code e = true := List.all_eq_true.mp (by decide +kernel)
set_option maxRecDepth 100000 in
theorem am_ok272 : ∀ e ∈ am_c272, am_ok ⟨"TagRounds", "clearTick", "(I)I"⟩ 272 e = true := List.all_eq_true.mp (by decide +kernel)
set_option maxRecDepth 100000 in
theorem am_de273 : ∀ e ∈ am_c273, am_deOk prog_1_method_70_code e = true := List.all_eq_true.mp (by decide +kernel)
set_option maxRecDepth 100000 in
theorem am_ok273 : ∀ e ∈ am_c273, am_ok ⟨"TagRounds", "colourBy", "(II)V"⟩ 273 e = true := List.all_eq_true.mp (by decide +kernel)
set_option maxRecDepth 100000 in
theorem am_de274 : ∀ e ∈ am_c274, am_deOk prog_1_method_71_code e = true := List.all_eq_true.mp (by decide +kernel)
set_option maxRecDepth 100000 in
theorem am_ok274 : ∀ e ∈ am_c274, am_ok ⟨"TagRounds", "isProper", "()Z"⟩ 274 e = true := List.all_eq_true.mp (by decide +kernel)
set_option maxRecDepth 100000 in
theorem am_de275 : ∀ e ∈ am_c275, am_deOk prog_1_method_69_code e = true := List.all_eq_true.mp (by decide +kernel)
set_option maxRecDepth 100000 in
theorem am_ok275 : ∀ e ∈ am_c275, am_ok ⟨"TagRounds", "colourWith", "(I)Z"⟩ 275 e = true := List.all_eq_true.mp (by decide +kernel)
set_option maxRecDepth 100000 in
theorem am_de276 : ∀ e ∈ am_c276, am_deOk prog_1_method_68_code e = true := List.all_eq_true.mp (by decide +kernel)
set_option maxRecDepth 100000 in
theorem am_ok276 : ∀ e ∈ am_c276, am_ok ⟨"TagRounds", "plan", "()I"⟩ 276 e = true := List.all_eq_true.mp (by decide +kernel)
set_option maxRecDepth 100000 in
theorem am_de277 : ∀ e ∈ am_c277, am_deOk prog_1_method_72_code e = true := List.all_eq_true.mp (by decide +kernel)
set_option maxRecDepth 100000 in
theorem am_ok277 : ∀ e ∈ am_c277, am_ok ⟨"TagRounds", "colourOf", "(I)I"⟩ 277 e = true := List.all_eq_true.mp (by decide +kernel)
set_option maxRecDepth 100000 in
theorem am_de278 : ∀ e ∈ am_c278, am_deOk prog_1_method_51_code e = true := List.all_eq_true.mp (by decide +kernel)
set_option maxRecDepth 100000 in
theorem am_ok278 : ∀ e ∈ am_c278, am_ok ⟨"TagRounds", "reachedBits", "(I)I"⟩ 278 e = true := List.all_eq_true.mp (by decide +kernel)
set_option maxRecDepth 100000 in
theorem am_de279 : ∀ e ∈ am_c279, am_deOk prog_10_method_6_code e = true := List.all_eq_true.mp (by decide +kernel)
set_option maxRecDepth 100000 in
theorem am_ok279 : ∀ e ∈ am_c279, am_ok ⟨"TagRounds$Reader", "told", "(I)I"⟩ 279 e = true := List.all_eq_true.mp (by decide +kernel)
set_option maxRecDepth 100000 in
theorem am_de280 : ∀ e ∈ am_c280, am_deOk prog_1_method_29_code e = true := List.all_eq_true.mp (by decide +kernel)
set_option maxRecDepth 100000 in
theorem am_ok280 : ∀ e ∈ am_c280, am_ok ⟨"TagRounds", "reader", "(II)I"⟩ 280 e = true := List.all_eq_true.mp (by decide +kernel)
set_option maxRecDepth 100000 in
theorem am_de281 : ∀ e ∈ am_c281, am_deOk method_28_code e = true := List.all_eq_true.mp (by decide +kernel)
set_option maxRecDepth 100000 in
theorem am_ok281 : ∀ e ∈ am_c281, am_ok ⟨"TagRoundsLaw", "reader", "(LTagRounds;II[J)I"⟩ 281 e = true := List.all_eq_true.mp (by decide +kernel)
set_option maxRecDepth 100000 in
theorem am_de282 : ∀ e ∈ am_c282, am_deOk prog_14_method_91_code e = true := List.all_eq_true.mp (by decide +kernel)
set_option maxRecDepth 100000 in
theorem am_ok282 : ∀ e ∈ am_c282, am_ok ⟨"TagRoundsModel", "reachedBy", "(IZ)I"⟩ 282 e = true := List.all_eq_true.mp (by decide +kernel)
set_option maxRecDepth 100000 in
theorem am_de283 : ∀ e ∈ am_c283, am_deOk prog_14_method_92_code e = true := List.all_eq_true.mp (by decide +kernel)
set_option maxRecDepth 100000 in
theorem am_ok283 : ∀ e ∈ am_c283, am_ok ⟨"TagRoundsModel", "areApart", "(II)Z"⟩ 283 e = true := List.all_eq_true.mp (by decide +kernel)
set_option maxRecDepth 100000 in
theorem am_de284 : ∀ e ∈ am_c284, am_deOk prog_14_method_97_code e = true := List.all_eq_true.mp (by decide +kernel)
set_option maxRecDepth 100000 in
theorem am_ok284 : ∀ e ∈ am_c284, am_ok ⟨"TagRoundsModel", "clearOf", "(I)I"⟩ 284 e = true := List.all_eq_true.mp (by decide +kernel)
set_option maxRecDepth 100000 in
theorem am_de285 : ∀ e ∈ am_c285, am_deOk prog_14_method_93_code e = true := List.all_eq_true.mp (by decide +kernel)
set_option maxRecDepth 100000 in
theorem am_ok285 : ∀ e ∈ am_c285, am_ok ⟨"TagRoundsModel", "colourOf", "(II)I"⟩ 285 e = true := List.all_eq_true.mp (by decide +kernel)
set_option maxRecDepth 100000 in
theorem am_de286 : ∀ e ∈ am_c286, am_deOk prog_14_method_94_code e = true := List.all_eq_true.mp (by decide +kernel)
set_option maxRecDepth 100000 in
theorem am_ok286 : ∀ e ∈ am_c286, am_ok ⟨"TagRoundsModel", "parts", "(I)Z"⟩ 286 e = true := List.all_eq_true.mp (by decide +kernel)
set_option maxRecDepth 100000 in
theorem am_de287 : ∀ e ∈ am_c287, am_deOk prog_14_method_5_code e = true := List.all_eq_true.mp (by decide +kernel)
set_option maxRecDepth 100000 in
theorem am_ok287 : ∀ e ∈ am_c287, am_ok ⟨"TagRoundsModel", "bits", "(I)I"⟩ 287 e = true := List.all_eq_true.mp (by decide +kernel)
set_option maxRecDepth 100000 in
theorem am_de288 : ∀ e ∈ am_c288, am_deOk prog_14_method_95_code e = true := List.all_eq_true.mp (by decide +kernel)
set_option maxRecDepth 100000 in
theorem am_ok288 : ∀ e ∈ am_c288, am_ok ⟨"TagRoundsModel", "coloursIn", "(I)I"⟩ 288 e = true := List.all_eq_true.mp (by decide +kernel)
set_option maxRecDepth 100000 in
theorem am_de289 : ∀ e ∈ am_c289, am_deOk prog_14_method_96_code e = true := List.all_eq_true.mp (by decide +kernel)
set_option maxRecDepth 100000 in
theorem am_ok289 : ∀ e ∈ am_c289, am_ok ⟨"TagRoundsModel", "plan", "()I"⟩ 289 e = true := List.all_eq_true.mp (by decide +kernel)
set_option maxRecDepth 100000 in
theorem am_de290 : ∀ e ∈ am_c290, am_deOk prog_14_method_98_code e = true := List.all_eq_true.mp (by decide +kernel)
set_option maxRecDepth 100000 in
theorem am_ok290 : ∀ e ∈ am_c290, am_ok ⟨"TagRoundsModel", "reader", "(II)I"⟩ 290 e = true := List.all_eq_true.mp (by decide +kernel)
set_option maxRecDepth 100000 in
theorem am_de291 : ∀ e ∈ am_c291, am_deOk prog_1_method_57_code e = true := List.all_eq_true.mp (by decide +kernel)
set_option maxRecDepth 100000 in
theorem am_ok291 : ∀ e ∈ am_c291, am_ok ⟨"TagRounds", "likeliestReader", "(LTagRounds$Tag;)I"⟩ 291 e = true := List.all_eq_true.mp (by decide +kernel)
set_option maxRecDepth 100000 in
theorem am_de292 : ∀ e ∈ am_c292, am_deOk prog_12_method_11_code e = true := List.all_eq_true.mp (by decide +kernel)
set_option maxRecDepth 100000 in
theorem am_ok292 : ∀ e ∈ am_c292, am_ok ⟨"TagRounds$Tag", "told", "(I)I"⟩ 292 e = true := List.all_eq_true.mp (by decide +kernel)
set_option maxRecDepth 100000 in
theorem am_de293 : ∀ e ∈ am_c293, am_deOk prog_1_method_30_code e = true := List.all_eq_true.mp (by decide +kernel)
set_option maxRecDepth 100000 in
theorem am_ok293 : ∀ e ∈ am_c293, am_ok ⟨"TagRounds", "tag", "(II)I"⟩ 293 e = true := List.all_eq_true.mp (by decide +kernel)
set_option maxRecDepth 100000 in
theorem am_de294 : ∀ e ∈ am_c294, am_deOk method_29_code e = true := List.all_eq_true.mp (by decide +kernel)
set_option maxRecDepth 100000 in
theorem am_ok294 : ∀ e ∈ am_c294, am_ok ⟨"TagRoundsLaw", "tag", "(LTagRounds;II[J)I"⟩ 294 e = true := List.all_eq_true.mp (by decide +kernel)
set_option maxRecDepth 100000 in
theorem am_de295 : ∀ e ∈ am_c295, am_deOk prog_14_method_99_code e = true := List.all_eq_true.mp (by decide +kernel)
set_option maxRecDepth 100000 in
theorem am_ok295 : ∀ e ∈ am_c295, am_ok ⟨"TagRoundsModel", "isAway", "(I)Z"⟩ 295 e = true := List.all_eq_true.mp (by decide +kernel)
set_option maxRecDepth 100000 in
theorem am_de296 : ∀ e ∈ am_c296, am_deOk prog_14_method_90_code e = true := List.all_eq_true.mp (by decide +kernel)
set_option maxRecDepth 100000 in
theorem am_ok296 : ∀ e ∈ am_c296, am_ok ⟨"TagRoundsModel", "nearest", "(I)I"⟩ 296 e = true := List.all_eq_true.mp (by decide +kernel)
set_option maxRecDepth 100000 in
theorem am_de297 : ∀ e ∈ am_c297, am_deOk prog_14_method_100_code e = true := List.all_eq_true.mp (by decide +kernel)
set_option maxRecDepth 100000 in
theorem am_ok297 : ∀ e ∈ am_c297, am_ok ⟨"TagRoundsModel", "tag", "(II)I"⟩ 297 e = true := List.all_eq_true.mp (by decide +kernel)
set_option maxRecDepth 100000 in
theorem am_de298 : ∀ e ∈ am_c298, am_deOk prog_1_method_31_code e = true := List.all_eq_true.mp (by decide +kernel)
set_option maxRecDepth 100000 in
theorem am_ok298 : ∀ e ∈ am_c298, am_ok ⟨"TagRounds", "flag", "(II)I"⟩ 298 e = true := List.all_eq_true.mp (by decide +kernel)
set_option maxRecDepth 100000 in
theorem am_de299 : ∀ e ∈ am_c299, am_deOk method_30_code e = true := List.all_eq_true.mp (by decide +kernel)
set_option maxRecDepth 100000 in
theorem am_ok299 : ∀ e ∈ am_c299, am_ok ⟨"TagRoundsLaw", "flag", "(LTagRounds;II[J)I"⟩ 299 e = true := List.all_eq_true.mp (by decide +kernel)
set_option maxRecDepth 100000 in
theorem am_de300 : ∀ e ∈ am_c300, am_deOk prog_14_method_101_code e = true := List.all_eq_true.mp (by decide +kernel)
set_option maxRecDepth 100000 in
theorem am_ok300 : ∀ e ∈ am_c300, am_ok ⟨"TagRoundsModel", "flag", "(II)I"⟩ 300 e = true := List.all_eq_true.mp (by decide +kernel)
set_option maxRecDepth 100000 in
theorem am_de301 : ∀ e ∈ am_c301, am_deOk prog_12_method_4_code e = true := List.all_eq_true.mp (by decide +kernel)
set_option maxRecDepth 100000 in
theorem am_ok301 : ∀ e ∈ am_c301, am_ok ⟨"TagRounds$Tag", "ticksLeftOf", "(I)I"⟩ 301 e = true := List.all_eq_true.mp (by decide +kernel)
set_option maxRecDepth 100000 in
theorem am_de302 : ∀ e ∈ am_c302, am_deOk prog_1_method_32_code e = true := List.all_eq_true.mp (by decide +kernel)
set_option maxRecDepth 100000 in
theorem am_ok302 : ∀ e ∈ am_c302, am_ok ⟨"TagRounds", "fades", "(II)I"⟩ 302 e = true := List.all_eq_true.mp (by decide +kernel)
set_option maxRecDepth 100000 in
theorem am_de303 : ∀ e ∈ am_c303, am_deOk method_31_code e = true := List.all_eq_true.mp (by decide +kernel)
set_option maxRecDepth 100000 in
theorem am_ok303 : ∀ e ∈ am_c303, am_ok ⟨"TagRoundsLaw", "fades", "(LTagRounds;II[J)I"⟩ 303 e = true := List.all_eq_true.mp (by decide +kernel)
set_option maxRecDepth 100000 in
theorem am_de304 : ∀ e ∈ am_c304, am_deOk prog_14_method_102_code e = true := List.all_eq_true.mp (by decide +kernel)
set_option maxRecDepth 100000 in
theorem am_ok304 : ∀ e ∈ am_c304, am_ok ⟨"TagRoundsModel", "fades", "(II)I"⟩ 304 e = true := List.all_eq_true.mp (by decide +kernel)
set_option maxRecDepth 100000 in
theorem am_de305 : ∀ e ∈ am_c305, am_deOk prog_1_method_33_code e = true := List.all_eq_true.mp (by decide +kernel)
set_option maxRecDepth 100000 in
theorem am_ok305 : ∀ e ∈ am_c305, am_ok ⟨"TagRounds", "word", "(III)I"⟩ 305 e = true := List.all_eq_true.mp (by decide +kernel)
set_option maxRecDepth 100000 in
theorem am_de306 : ∀ e ∈ am_c306, am_deOk method_32_code e = true := List.all_eq_true.mp (by decide +kernel)
set_option maxRecDepth 100000 in
theorem am_ok306 : ∀ e ∈ am_c306, am_ok ⟨"TagRoundsLaw", "word", "(LTagRounds;III[J)I"⟩ 306 e = true := List.all_eq_true.mp (by decide +kernel)
set_option maxRecDepth 100000 in
theorem am_de307 : ∀ e ∈ am_c307, am_deOk prog_14_method_103_code e = true := List.all_eq_true.mp (by decide +kernel)
set_option maxRecDepth 100000 in
theorem am_ok307 : ∀ e ∈ am_c307, am_ok ⟨"TagRoundsModel", "word", "(III)I"⟩ 307 e = true := List.all_eq_true.mp (by decide +kernel)
set_option maxRecDepth 100000 in
theorem am_de308 : ∀ e ∈ am_c308, am_deOk prog_1_method_34_code e = true := List.all_eq_true.mp (by decide +kernel)
set_option maxRecDepth 100000 in
theorem am_ok308 : ∀ e ∈ am_c308, am_ok ⟨"TagRounds", "mode", "(II)I"⟩ 308 e = true := List.all_eq_true.mp (by decide +kernel)
set_option maxRecDepth 100000 in
theorem am_de309 : ∀ e ∈ am_c309, am_deOk method_33_code e = true := List.all_eq_true.mp (by decide +kernel)
set_option maxRecDepth 100000 in
theorem am_ok309 : ∀ e ∈ am_c309, am_ok ⟨"TagRoundsLaw", "mode", "(LTagRounds;II[J)I"⟩ 309 e = true := List.all_eq_true.mp (by decide +kernel)
set_option maxRecDepth 100000 in
theorem am_de310 : ∀ e ∈ am_c310, am_deOk prog_14_method_104_code e = true := List.all_eq_true.mp (by decide +kernel)
set_option maxRecDepth 100000 in
theorem am_ok310 : ∀ e ∈ am_c310, am_ok ⟨"TagRoundsModel", "mode", "(II)I"⟩ 310 e = true := List.all_eq_true.mp (by decide +kernel)
set_option maxRecDepth 100000 in
theorem am_de311 : ∀ e ∈ am_c311, am_deOk prog_7_method_3_code e = true := List.all_eq_true.mp (by decide +kernel)
set_option maxRecDepth 100000 in
theorem am_ok311 : ∀ e ∈ am_c311, am_ok ⟨"TagRounds$Journal", "get", "(II)I"⟩ 311 e = true := List.all_eq_true.mp (by decide +kernel)
set_option maxRecDepth 100000 in
theorem am_de312 : ∀ e ∈ am_c312, am_deOk prog_1_method_35_code e = true := List.all_eq_true.mp (by decide +kernel)
set_option maxRecDepth 100000 in
theorem am_ok312 : ∀ e ∈ am_c312, am_ok ⟨"TagRounds", "log", "(II)I"⟩ 312 e = true := List.all_eq_true.mp (by decide +kernel)
set_option maxRecDepth 100000 in
theorem am_de313 : ∀ e ∈ am_c313, am_deOk method_34_code e = true := List.all_eq_true.mp (by decide +kernel)
set_option maxRecDepth 100000 in
theorem am_ok313 : ∀ e ∈ am_c313, am_ok ⟨"TagRoundsLaw", "log", "(LTagRounds;II[J)I"⟩ 313 e = true := List.all_eq_true.mp (by decide +kernel)
set_option maxRecDepth 100000 in
theorem am_de314 : ∀ e ∈ am_c314, am_deOk prog_14_method_105_code e = true := List.all_eq_true.mp (by decide +kernel)
set_option maxRecDepth 100000 in
theorem am_ok314 : ∀ e ∈ am_c314, am_ok ⟨"TagRoundsModel", "log", "(II)I"⟩ 314 e = true := List.all_eq_true.mp (by decide +kernel)
set_option maxRecDepth 100000 in
theorem am_de315 : ∀ e ∈ am_c315, am_deOk prog_1_method_36_code e = true := List.all_eq_true.mp (by decide +kernel)
set_option maxRecDepth 100000 in
theorem am_ok315 : ∀ e ∈ am_c315, am_ok ⟨"TagRounds", "left", "(II)I"⟩ 315 e = true := List.all_eq_true.mp (by decide +kernel)
set_option maxRecDepth 100000 in
theorem am_de316 : ∀ e ∈ am_c316, am_deOk method_35_code e = true := List.all_eq_true.mp (by decide +kernel)
set_option maxRecDepth 100000 in
theorem am_ok316 : ∀ e ∈ am_c316, am_ok ⟨"TagRoundsLaw", "left", "(LTagRounds;II[J)I"⟩ 316 e = true := List.all_eq_true.mp (by decide +kernel)
set_option maxRecDepth 100000 in
theorem am_de317 : ∀ e ∈ am_c317, am_deOk prog_14_method_106_code e = true := List.all_eq_true.mp (by decide +kernel)
set_option maxRecDepth 100000 in
theorem am_ok317 : ∀ e ∈ am_c317, am_ok ⟨"TagRoundsModel", "left", "(II)I"⟩ 317 e = true := List.all_eq_true.mp (by decide +kernel)
set_option maxRecDepth 100000 in
theorem am_de318 : ∀ e ∈ am_c318, am_deOk prog_1_method_64_code e = true := List.all_eq_true.mp (by decide +kernel)
set_option maxRecDepth 100000 in
theorem am_ok318 : ∀ e ∈ am_c318, am_ok ⟨"TagRounds", "rateOf", "(II)I"⟩ 318 e = true := List.all_eq_true.mp (by decide +kernel)
set_option maxRecDepth 100000 in
theorem am_de319 : ∀ e ∈ am_c319, am_deOk prog_1_method_65_code e = true := List.all_eq_true.mp (by decide +kernel)
set_option maxRecDepth 100000 in
theorem am_ok319 : ∀ e ∈ am_c319, am_ok ⟨"TagRounds", "bestQ", "(I)I"⟩ 319 e = true := List.all_eq_true.mp (by decide +kernel)
set_option maxRecDepth 100000 in
theorem am_de320 : ∀ e ∈ am_c320, am_deOk prog_1_method_37_code e = true := List.all_eq_true.mp (by decide +kernel)
set_option maxRecDepth 100000 in
theorem am_ok320 : ∀ e ∈ am_c320, am_ok ⟨"TagRounds", "rate", "(II)I"⟩ 320 e = true := List.all_eq_true.mp (by decide +kernel)
set_option maxRecDepth 100000 in
theorem am_de321 : ∀ e ∈ am_c321, am_deOk method_36_code e = true := List.all_eq_true.mp (by decide +kernel)
set_option maxRecDepth 100000 in
theorem am_ok321 : ∀ e ∈ am_c321, am_ok ⟨"TagRoundsLaw", "rate", "(LTagRounds;II[J)I"⟩ 321 e = true := List.all_eq_true.mp (by decide +kernel)
set_option maxRecDepth 100000 in
theorem am_de322 : ∀ e ∈ am_c322, am_deOk prog_14_method_107_code e = true := List.all_eq_true.mp (by decide +kernel)
set_option maxRecDepth 100000 in
theorem am_ok322 : ∀ e ∈ am_c322, am_ok ⟨"TagRoundsModel", "rateOf", "(II)I"⟩ 322 e = true := List.all_eq_true.mp (by decide +kernel)
set_option maxRecDepth 100000 in
theorem am_de323 : ∀ e ∈ am_c323, am_deOk prog_14_method_108_code e = true := List.all_eq_true.mp (by decide +kernel)
set_option maxRecDepth 100000 in
theorem am_ok323 : ∀ e ∈ am_c323, am_ok ⟨"TagRoundsModel", "rate", "(II)I"⟩ 323 e = true := List.all_eq_true.mp (by decide +kernel)
set_option maxRecDepth 100000 in
theorem am_de324 : ∀ e ∈ am_c324, am_deOk prog_1_method_52_code e = true := List.all_eq_true.mp (by decide +kernel)
set_option maxRecDepth 100000 in
theorem am_ok324 : ∀ e ∈ am_c324, am_ok ⟨"TagRounds", "poweredBits", "()I"⟩ 324 e = true := List.all_eq_true.mp (by decide +kernel)
set_option maxRecDepth 100000 in
theorem am_de325 : ∀ e ∈ am_c325, am_deOk prog_1_method_58_code e = true := List.all_eq_true.mp (by decide +kernel)
set_option maxRecDepth 100000 in
theorem am_ok325 : ∀ e ∈ am_c325, am_ok ⟨"TagRounds", "darkBits", "()I"⟩ 325 e = true := List.all_eq_true.mp (by decide +kernel)
set_option maxRecDepth 100000 in
theorem am_de326 : ∀ e ∈ am_c326, am_deOk prog_1_method_38_code e = true := List.all_eq_true.mp (by decide +kernel)
set_option maxRecDepth 100000 in
theorem am_ok326 : ∀ e ∈ am_c326, am_ok ⟨"TagRounds", "count", "(I)I"⟩ 326 e = true := List.all_eq_true.mp (by decide +kernel)
set_option maxRecDepth 100000 in
theorem am_de327 : ∀ e ∈ am_c327, am_deOk prog_14_method_109_code e = true := List.all_eq_true.mp (by decide +kernel)
set_option maxRecDepth 100000 in
theorem am_ok327 : ∀ e ∈ am_c327, am_ok ⟨"TagRoundsModel", "setOf", "(I)I"⟩ 327 e = true := List.all_eq_true.mp (by decide +kernel)
set_option maxRecDepth 100000 in
theorem am_de328 : ∀ e ∈ am_c328, am_deOk prog_14_method_110_code e = true := List.all_eq_true.mp (by decide +kernel)
set_option maxRecDepth 100000 in
theorem am_ok328 : ∀ e ∈ am_c328, am_ok ⟨"TagRoundsModel", "count", "(I)I"⟩ 328 e = true := List.all_eq_true.mp (by decide +kernel)
set_option maxRecDepth 100000 in
theorem am_de329_0 : ∀ e ∈ am_c329_0, am_deOk code e = true := List.all_eq_true.mp (by decide +kernel)
set_option maxRecDepth 100000 in
theorem am_ok329_0 : ∀ e ∈ am_c329_0, am_ok ⟨"TagRoundsLaw", "law", "([I)Z"⟩ 329 e = true := List.all_eq_true.mp (by decide +kernel)
set_option maxRecDepth 100000 in
theorem am_de329_1 : ∀ e ∈ am_c329_1, am_deOk code e = true := List.all_eq_true.mp (by decide +kernel)
set_option maxRecDepth 100000 in
theorem am_ok329_1 : ∀ e ∈ am_c329_1, am_ok ⟨"TagRoundsLaw", "law", "([I)Z"⟩ 329 e = true := List.all_eq_true.mp (by decide +kernel)
set_option maxRecDepth 100000 in
theorem am_de329_2 : ∀ e ∈ am_c329_2, am_deOk code e = true := List.all_eq_true.mp (by decide +kernel)
set_option maxRecDepth 100000 in
theorem am_ok329_2 : ∀ e ∈ am_c329_2, am_ok ⟨"TagRoundsLaw", "law", "([I)Z"⟩ 329 e = true := List.all_eq_true.mp (by decide +kernel)
set_option maxRecDepth 100000 in
theorem am_de329_3 : ∀ e ∈ am_c329_3, am_deOk code e = true := List.all_eq_true.mp (by decide +kernel)
set_option maxRecDepth 100000 in
theorem am_ok329_3 : ∀ e ∈ am_c329_3, am_ok ⟨"TagRoundsLaw", "law", "([I)Z"⟩ 329 e = true := List.all_eq_true.mp (by decide +kernel)
set_option maxRecDepth 100000 in
theorem am_de329_4 : ∀ e ∈ am_c329_4, am_deOk code e = true := List.all_eq_true.mp (by decide +kernel)
set_option maxRecDepth 100000 in
theorem am_ok329_4 : ∀ e ∈ am_c329_4, am_ok ⟨"TagRoundsLaw", "law", "([I)Z"⟩ 329 e = true := List.all_eq_true.mp (by decide +kernel)
set_option maxRecDepth 100000 in
theorem am_de329_5 : ∀ e ∈ am_c329_5, am_deOk code e = true := List.all_eq_true.mp (by decide +kernel)
set_option maxRecDepth 100000 in
theorem am_ok329_5 : ∀ e ∈ am_c329_5, am_ok ⟨"TagRoundsLaw", "law", "([I)Z"⟩ 329 e = true := List.all_eq_true.mp (by decide +kernel)
set_option maxRecDepth 100000 in
theorem am_de329_6 : ∀ e ∈ am_c329_6, am_deOk code e = true := List.all_eq_true.mp (by decide +kernel)
set_option maxRecDepth 100000 in
theorem am_ok329_6 : ∀ e ∈ am_c329_6, am_ok ⟨"TagRoundsLaw", "law", "([I)Z"⟩ 329 e = true := List.all_eq_true.mp (by decide +kernel)
set_option maxRecDepth 100000 in
theorem am_de329_7 : ∀ e ∈ am_c329_7, am_deOk code e = true := List.all_eq_true.mp (by decide +kernel)
set_option maxRecDepth 100000 in
theorem am_ok329_7 : ∀ e ∈ am_c329_7, am_ok ⟨"TagRoundsLaw", "law", "([I)Z"⟩ 329 e = true := List.all_eq_true.mp (by decide +kernel)
set_option maxRecDepth 100000 in
theorem am_de329_8 : ∀ e ∈ am_c329_8, am_deOk code e = true := List.all_eq_true.mp (by decide +kernel)
set_option maxRecDepth 100000 in
theorem am_ok329_8 : ∀ e ∈ am_c329_8, am_ok ⟨"TagRoundsLaw", "law", "([I)Z"⟩ 329 e = true := List.all_eq_true.mp (by decide +kernel)
set_option maxRecDepth 100000 in
theorem am_de329_9 : ∀ e ∈ am_c329_9, am_deOk code e = true := List.all_eq_true.mp (by decide +kernel)
set_option maxRecDepth 100000 in
theorem am_ok329_9 : ∀ e ∈ am_c329_9, am_ok ⟨"TagRoundsLaw", "law", "([I)Z"⟩ 329 e = true := List.all_eq_true.mp (by decide +kernel)
set_option maxRecDepth 100000 in
theorem am_de329 : ∀ e ∈ am_c329, am_deOk code e = true := am_app am_de329_0 (am_app am_de329_1 (am_app am_de329_2 (am_app am_de329_3 (am_app am_de329_4 (am_app am_de329_5 (am_app am_de329_6 (am_app am_de329_7 (am_app am_de329_8 (am_de329_9)))))))))
set_option maxRecDepth 100000 in
theorem am_ok329 : ∀ e ∈ am_c329, am_ok ⟨"TagRoundsLaw", "law", "([I)Z"⟩ 329 e = true := am_app am_ok329_0 (am_app am_ok329_1 (am_app am_ok329_2 (am_app am_ok329_3 (am_app am_ok329_4 (am_app am_ok329_5 (am_app am_ok329_6 (am_app am_ok329_7 (am_app am_ok329_8 (am_ok329_9)))))))))
def am_dlP (m : Nat) : Prop := ∀ j, am_M[m]? = some j → (∀ e ∈ am_code0 m, am_deOk j.2.1 e = true) ∧ (∀ e ∈ am_code0 m, am_ok j.1 m e = true)
set_option maxRecDepth 100000 in
theorem am_dl0 : am_dlP 0 := fun j hj => by cases Option.some.inj hj; exact ⟨am_de0, am_ok0⟩
set_option maxRecDepth 100000 in
theorem am_dl1 : am_dlP 1 := fun j hj => by cases Option.some.inj hj; exact ⟨am_de1, am_ok1⟩
set_option maxRecDepth 100000 in
theorem am_dl2 : am_dlP 2 := fun j hj => by cases Option.some.inj hj; exact ⟨am_de2, am_ok2⟩
set_option maxRecDepth 100000 in
theorem am_dl3 : am_dlP 3 := fun j hj => by cases Option.some.inj hj; exact ⟨am_de3, am_ok3⟩
set_option maxRecDepth 100000 in
theorem am_dl4 : am_dlP 4 := fun j hj => by cases Option.some.inj hj; exact ⟨am_de4, am_ok4⟩
set_option maxRecDepth 100000 in
theorem am_dl5 : am_dlP 5 := fun j hj => by cases Option.some.inj hj; exact ⟨am_de5, am_ok5⟩
set_option maxRecDepth 100000 in
theorem am_dl6 : am_dlP 6 := fun j hj => by cases Option.some.inj hj; exact ⟨am_de6, am_ok6⟩
set_option maxRecDepth 100000 in
theorem am_dl7 : am_dlP 7 := fun j hj => by cases Option.some.inj hj; exact ⟨am_de7, am_ok7⟩
set_option maxRecDepth 100000 in
theorem am_dl8 : am_dlP 8 := fun j hj => by cases Option.some.inj hj; exact ⟨am_de8, am_ok8⟩
set_option maxRecDepth 100000 in
theorem am_dl9 : am_dlP 9 := fun j hj => by cases Option.some.inj hj; exact ⟨am_de9, am_ok9⟩
set_option maxRecDepth 100000 in
theorem am_dl10 : am_dlP 10 := fun j hj => by cases Option.some.inj hj; exact ⟨am_de10, am_ok10⟩
set_option maxRecDepth 100000 in
theorem am_dl11 : am_dlP 11 := fun j hj => by cases Option.some.inj hj; exact ⟨am_de11, am_ok11⟩
set_option maxRecDepth 100000 in
theorem am_dl12 : am_dlP 12 := fun j hj => by cases Option.some.inj hj; exact ⟨am_de12, am_ok12⟩
set_option maxRecDepth 100000 in
theorem am_dl13 : am_dlP 13 := fun j hj => by cases Option.some.inj hj; exact ⟨am_de13, am_ok13⟩
set_option maxRecDepth 100000 in
theorem am_dl14 : am_dlP 14 := fun j hj => by cases Option.some.inj hj; exact ⟨am_de14, am_ok14⟩
set_option maxRecDepth 100000 in
theorem am_dl15 : am_dlP 15 := fun j hj => by cases Option.some.inj hj; exact ⟨am_de15, am_ok15⟩
set_option maxRecDepth 100000 in
theorem am_dl16 : am_dlP 16 := fun j hj => by cases Option.some.inj hj; exact ⟨am_de16, am_ok16⟩
set_option maxRecDepth 100000 in
theorem am_dl17 : am_dlP 17 := fun j hj => by cases Option.some.inj hj; exact ⟨am_de17, am_ok17⟩
set_option maxRecDepth 100000 in
theorem am_dl18 : am_dlP 18 := fun j hj => by cases Option.some.inj hj; exact ⟨am_de18, am_ok18⟩
set_option maxRecDepth 100000 in
theorem am_dl19 : am_dlP 19 := fun j hj => by cases Option.some.inj hj; exact ⟨am_de19, am_ok19⟩
set_option maxRecDepth 100000 in
theorem am_dl20 : am_dlP 20 := fun j hj => by cases Option.some.inj hj; exact ⟨am_de20, am_ok20⟩
set_option maxRecDepth 100000 in
theorem am_dl21 : am_dlP 21 := fun j hj => by cases Option.some.inj hj; exact ⟨am_de21, am_ok21⟩
set_option maxRecDepth 100000 in
theorem am_dl22 : am_dlP 22 := fun j hj => by cases Option.some.inj hj; exact ⟨am_de22, am_ok22⟩
set_option maxRecDepth 100000 in
theorem am_dl23 : am_dlP 23 := fun j hj => by cases Option.some.inj hj; exact ⟨am_de23, am_ok23⟩
set_option maxRecDepth 100000 in
theorem am_dl24 : am_dlP 24 := fun j hj => by cases Option.some.inj hj; exact ⟨am_de24, am_ok24⟩
set_option maxRecDepth 100000 in
theorem am_dl25 : am_dlP 25 := fun j hj => by cases Option.some.inj hj; exact ⟨am_de25, am_ok25⟩
set_option maxRecDepth 100000 in
theorem am_dl26 : am_dlP 26 := fun j hj => by cases Option.some.inj hj; exact ⟨am_de26, am_ok26⟩
set_option maxRecDepth 100000 in
theorem am_dl27 : am_dlP 27 := fun j hj => by cases Option.some.inj hj; exact ⟨am_de27, am_ok27⟩
set_option maxRecDepth 100000 in
theorem am_dl28 : am_dlP 28 := fun j hj => by cases Option.some.inj hj; exact ⟨am_de28, am_ok28⟩
set_option maxRecDepth 100000 in
theorem am_dl29 : am_dlP 29 := fun j hj => by cases Option.some.inj hj; exact ⟨am_de29, am_ok29⟩
set_option maxRecDepth 100000 in
theorem am_dl30 : am_dlP 30 := fun j hj => by cases Option.some.inj hj; exact ⟨am_de30, am_ok30⟩
set_option maxRecDepth 100000 in
theorem am_dl31 : am_dlP 31 := fun j hj => by cases Option.some.inj hj; exact ⟨am_de31, am_ok31⟩
set_option maxRecDepth 100000 in
theorem am_dl32 : am_dlP 32 := fun j hj => by cases Option.some.inj hj; exact ⟨am_de32, am_ok32⟩
set_option maxRecDepth 100000 in
theorem am_dl33 : am_dlP 33 := fun j hj => by cases Option.some.inj hj; exact ⟨am_de33, am_ok33⟩
set_option maxRecDepth 100000 in
theorem am_dl34 : am_dlP 34 := fun j hj => by cases Option.some.inj hj; exact ⟨am_de34, am_ok34⟩
set_option maxRecDepth 100000 in
theorem am_dl35 : am_dlP 35 := fun j hj => by cases Option.some.inj hj; exact ⟨am_de35, am_ok35⟩
set_option maxRecDepth 100000 in
theorem am_dl36 : am_dlP 36 := fun j hj => by cases Option.some.inj hj; exact ⟨am_de36, am_ok36⟩
set_option maxRecDepth 100000 in
theorem am_dl37 : am_dlP 37 := fun j hj => by cases Option.some.inj hj; exact ⟨am_de37, am_ok37⟩
set_option maxRecDepth 100000 in
theorem am_dl38 : am_dlP 38 := fun j hj => by cases Option.some.inj hj; exact ⟨am_de38, am_ok38⟩
set_option maxRecDepth 100000 in
theorem am_dl39 : am_dlP 39 := fun j hj => by cases Option.some.inj hj; exact ⟨am_de39, am_ok39⟩
set_option maxRecDepth 100000 in
theorem am_dl40 : am_dlP 40 := fun j hj => by cases Option.some.inj hj; exact ⟨am_de40, am_ok40⟩
set_option maxRecDepth 100000 in
theorem am_dl41 : am_dlP 41 := fun j hj => by cases Option.some.inj hj; exact ⟨am_de41, am_ok41⟩
set_option maxRecDepth 100000 in
theorem am_dl42 : am_dlP 42 := fun j hj => by cases Option.some.inj hj; exact ⟨am_de42, am_ok42⟩
set_option maxRecDepth 100000 in
theorem am_dl43 : am_dlP 43 := fun j hj => by cases Option.some.inj hj; exact ⟨am_de43, am_ok43⟩
set_option maxRecDepth 100000 in
theorem am_dl44 : am_dlP 44 := fun j hj => by cases Option.some.inj hj; exact ⟨am_de44, am_ok44⟩
set_option maxRecDepth 100000 in
theorem am_dl45 : am_dlP 45 := fun j hj => by cases Option.some.inj hj; exact ⟨am_de45, am_ok45⟩
set_option maxRecDepth 100000 in
theorem am_dl46 : am_dlP 46 := fun j hj => by cases Option.some.inj hj; exact ⟨am_de46, am_ok46⟩
set_option maxRecDepth 100000 in
theorem am_dl47 : am_dlP 47 := fun j hj => by cases Option.some.inj hj; exact ⟨am_de47, am_ok47⟩
set_option maxRecDepth 100000 in
theorem am_dl48 : am_dlP 48 := fun j hj => by cases Option.some.inj hj; exact ⟨am_de48, am_ok48⟩
set_option maxRecDepth 100000 in
theorem am_dl49 : am_dlP 49 := fun j hj => by cases Option.some.inj hj; exact ⟨am_de49, am_ok49⟩
set_option maxRecDepth 100000 in
theorem am_dl50 : am_dlP 50 := fun j hj => by cases Option.some.inj hj; exact ⟨am_de50, am_ok50⟩
set_option maxRecDepth 100000 in
theorem am_dl51 : am_dlP 51 := fun j hj => by cases Option.some.inj hj; exact ⟨am_de51, am_ok51⟩
set_option maxRecDepth 100000 in
theorem am_dl52 : am_dlP 52 := fun j hj => by cases Option.some.inj hj; exact ⟨am_de52, am_ok52⟩
set_option maxRecDepth 100000 in
theorem am_dl53 : am_dlP 53 := fun j hj => by cases Option.some.inj hj; exact ⟨am_de53, am_ok53⟩
set_option maxRecDepth 100000 in
theorem am_dl54 : am_dlP 54 := fun j hj => by cases Option.some.inj hj; exact ⟨am_de54, am_ok54⟩
set_option maxRecDepth 100000 in
theorem am_dl55 : am_dlP 55 := fun j hj => by cases Option.some.inj hj; exact ⟨am_de55, am_ok55⟩
set_option maxRecDepth 100000 in
theorem am_dl56 : am_dlP 56 := fun j hj => by cases Option.some.inj hj; exact ⟨am_de56, am_ok56⟩
set_option maxRecDepth 100000 in
theorem am_dl57 : am_dlP 57 := fun j hj => by cases Option.some.inj hj; exact ⟨am_de57, am_ok57⟩
set_option maxRecDepth 100000 in
theorem am_dl58 : am_dlP 58 := fun j hj => by cases Option.some.inj hj; exact ⟨am_de58, am_ok58⟩
set_option maxRecDepth 100000 in
theorem am_dl59 : am_dlP 59 := fun j hj => by cases Option.some.inj hj; exact ⟨am_de59, am_ok59⟩
set_option maxRecDepth 100000 in
theorem am_dl60 : am_dlP 60 := fun j hj => by cases Option.some.inj hj; exact ⟨am_de60, am_ok60⟩
set_option maxRecDepth 100000 in
theorem am_dl61 : am_dlP 61 := fun j hj => by cases Option.some.inj hj; exact ⟨am_de61, am_ok61⟩
set_option maxRecDepth 100000 in
theorem am_dl62 : am_dlP 62 := fun j hj => by cases Option.some.inj hj; exact ⟨am_de62, am_ok62⟩
set_option maxRecDepth 100000 in
theorem am_dl63 : am_dlP 63 := fun j hj => by cases Option.some.inj hj; exact ⟨am_de63, am_ok63⟩
set_option maxRecDepth 100000 in
theorem am_dl64 : am_dlP 64 := fun j hj => by cases Option.some.inj hj; exact ⟨am_de64, am_ok64⟩
set_option maxRecDepth 100000 in
theorem am_dl65 : am_dlP 65 := fun j hj => by cases Option.some.inj hj; exact ⟨am_de65, am_ok65⟩
set_option maxRecDepth 100000 in
theorem am_dl66 : am_dlP 66 := fun j hj => by cases Option.some.inj hj; exact ⟨am_de66, am_ok66⟩
set_option maxRecDepth 100000 in
theorem am_dl67 : am_dlP 67 := fun j hj => by cases Option.some.inj hj; exact ⟨am_de67, am_ok67⟩
set_option maxRecDepth 100000 in
theorem am_dl68 : am_dlP 68 := fun j hj => by cases Option.some.inj hj; exact ⟨am_de68, am_ok68⟩
set_option maxRecDepth 100000 in
theorem am_dl69 : am_dlP 69 := fun j hj => by cases Option.some.inj hj; exact ⟨am_de69, am_ok69⟩
set_option maxRecDepth 100000 in
theorem am_dl70 : am_dlP 70 := fun j hj => by cases Option.some.inj hj; exact ⟨am_de70, am_ok70⟩
set_option maxRecDepth 100000 in
theorem am_dl71 : am_dlP 71 := fun j hj => by cases Option.some.inj hj; exact ⟨am_de71, am_ok71⟩
set_option maxRecDepth 100000 in
theorem am_dl72 : am_dlP 72 := fun j hj => by cases Option.some.inj hj; exact ⟨am_de72, am_ok72⟩
set_option maxRecDepth 100000 in
theorem am_dl73 : am_dlP 73 := fun j hj => by cases Option.some.inj hj; exact ⟨am_de73, am_ok73⟩
set_option maxRecDepth 100000 in
theorem am_dl74 : am_dlP 74 := fun j hj => by cases Option.some.inj hj; exact ⟨am_de74, am_ok74⟩
set_option maxRecDepth 100000 in
theorem am_dl75 : am_dlP 75 := fun j hj => by cases Option.some.inj hj; exact ⟨am_de75, am_ok75⟩
set_option maxRecDepth 100000 in
theorem am_dl76 : am_dlP 76 := fun j hj => by cases Option.some.inj hj; exact ⟨am_de76, am_ok76⟩
set_option maxRecDepth 100000 in
theorem am_dl77 : am_dlP 77 := fun j hj => by cases Option.some.inj hj; exact ⟨am_de77, am_ok77⟩
set_option maxRecDepth 100000 in
theorem am_dl78 : am_dlP 78 := fun j hj => by cases Option.some.inj hj; exact ⟨am_de78, am_ok78⟩
set_option maxRecDepth 100000 in
theorem am_dl79 : am_dlP 79 := fun j hj => by cases Option.some.inj hj; exact ⟨am_de79, am_ok79⟩
set_option maxRecDepth 100000 in
theorem am_dl80 : am_dlP 80 := fun j hj => by cases Option.some.inj hj; exact ⟨am_de80, am_ok80⟩
set_option maxRecDepth 100000 in
theorem am_dl81 : am_dlP 81 := fun j hj => by cases Option.some.inj hj; exact ⟨am_de81, am_ok81⟩
set_option maxRecDepth 100000 in
theorem am_dl82 : am_dlP 82 := fun j hj => by cases Option.some.inj hj; exact ⟨am_de82, am_ok82⟩
set_option maxRecDepth 100000 in
theorem am_dl83 : am_dlP 83 := fun j hj => by cases Option.some.inj hj; exact ⟨am_de83, am_ok83⟩
set_option maxRecDepth 100000 in
theorem am_dl84 : am_dlP 84 := fun j hj => by cases Option.some.inj hj; exact ⟨am_de84, am_ok84⟩
set_option maxRecDepth 100000 in
theorem am_dl85 : am_dlP 85 := fun j hj => by cases Option.some.inj hj; exact ⟨am_de85, am_ok85⟩
set_option maxRecDepth 100000 in
theorem am_dl86 : am_dlP 86 := fun j hj => by cases Option.some.inj hj; exact ⟨am_de86, am_ok86⟩
set_option maxRecDepth 100000 in
theorem am_dl87 : am_dlP 87 := fun j hj => by cases Option.some.inj hj; exact ⟨am_de87, am_ok87⟩
set_option maxRecDepth 100000 in
theorem am_dl88 : am_dlP 88 := fun j hj => by cases Option.some.inj hj; exact ⟨am_de88, am_ok88⟩
set_option maxRecDepth 100000 in
theorem am_dl89 : am_dlP 89 := fun j hj => by cases Option.some.inj hj; exact ⟨am_de89, am_ok89⟩
set_option maxRecDepth 100000 in
theorem am_dl90 : am_dlP 90 := fun j hj => by cases Option.some.inj hj; exact ⟨am_de90, am_ok90⟩
set_option maxRecDepth 100000 in
theorem am_dl91 : am_dlP 91 := fun j hj => by cases Option.some.inj hj; exact ⟨am_de91, am_ok91⟩
set_option maxRecDepth 100000 in
theorem am_dl92 : am_dlP 92 := fun j hj => by cases Option.some.inj hj; exact ⟨am_de92, am_ok92⟩
set_option maxRecDepth 100000 in
theorem am_dl93 : am_dlP 93 := fun j hj => by cases Option.some.inj hj; exact ⟨am_de93, am_ok93⟩
set_option maxRecDepth 100000 in
theorem am_dl94 : am_dlP 94 := fun j hj => by cases Option.some.inj hj; exact ⟨am_de94, am_ok94⟩
set_option maxRecDepth 100000 in
theorem am_dl95 : am_dlP 95 := fun j hj => by cases Option.some.inj hj; exact ⟨am_de95, am_ok95⟩
set_option maxRecDepth 100000 in
theorem am_dl96 : am_dlP 96 := fun j hj => by cases Option.some.inj hj; exact ⟨am_de96, am_ok96⟩
set_option maxRecDepth 100000 in
theorem am_dl97 : am_dlP 97 := fun j hj => by cases Option.some.inj hj; exact ⟨am_de97, am_ok97⟩
set_option maxRecDepth 100000 in
theorem am_dl98 : am_dlP 98 := fun j hj => by cases Option.some.inj hj; exact ⟨am_de98, am_ok98⟩
set_option maxRecDepth 100000 in
theorem am_dl99 : am_dlP 99 := fun j hj => by cases Option.some.inj hj; exact ⟨am_de99, am_ok99⟩
set_option maxRecDepth 100000 in
theorem am_dl100 : am_dlP 100 := fun j hj => by cases Option.some.inj hj; exact ⟨am_de100, am_ok100⟩
set_option maxRecDepth 100000 in
theorem am_dl101 : am_dlP 101 := fun j hj => by cases Option.some.inj hj; exact ⟨am_de101, am_ok101⟩
set_option maxRecDepth 100000 in
theorem am_dl102 : am_dlP 102 := fun j hj => by cases Option.some.inj hj; exact ⟨am_de102, am_ok102⟩
set_option maxRecDepth 100000 in
theorem am_dl103 : am_dlP 103 := fun j hj => by cases Option.some.inj hj; exact ⟨am_de103, am_ok103⟩
set_option maxRecDepth 100000 in
theorem am_dl104 : am_dlP 104 := fun j hj => by cases Option.some.inj hj; exact ⟨am_de104, am_ok104⟩
set_option maxRecDepth 100000 in
theorem am_dl105 : am_dlP 105 := fun j hj => by cases Option.some.inj hj; exact ⟨am_de105, am_ok105⟩
set_option maxRecDepth 100000 in
theorem am_dl106 : am_dlP 106 := fun j hj => by cases Option.some.inj hj; exact ⟨am_de106, am_ok106⟩
set_option maxRecDepth 100000 in
theorem am_dl107 : am_dlP 107 := fun j hj => by cases Option.some.inj hj; exact ⟨am_de107, am_ok107⟩
set_option maxRecDepth 100000 in
theorem am_dl108 : am_dlP 108 := fun j hj => by cases Option.some.inj hj; exact ⟨am_de108, am_ok108⟩
set_option maxRecDepth 100000 in
theorem am_dl109 : am_dlP 109 := fun j hj => by cases Option.some.inj hj; exact ⟨am_de109, am_ok109⟩
set_option maxRecDepth 100000 in
theorem am_dl110 : am_dlP 110 := fun j hj => by cases Option.some.inj hj; exact ⟨am_de110, am_ok110⟩
set_option maxRecDepth 100000 in
theorem am_dl111 : am_dlP 111 := fun j hj => by cases Option.some.inj hj; exact ⟨am_de111, am_ok111⟩
set_option maxRecDepth 100000 in
theorem am_dl112 : am_dlP 112 := fun j hj => by cases Option.some.inj hj; exact ⟨am_de112, am_ok112⟩
set_option maxRecDepth 100000 in
theorem am_dl113 : am_dlP 113 := fun j hj => by cases Option.some.inj hj; exact ⟨am_de113, am_ok113⟩
set_option maxRecDepth 100000 in
theorem am_dl114 : am_dlP 114 := fun j hj => by cases Option.some.inj hj; exact ⟨am_de114, am_ok114⟩
set_option maxRecDepth 100000 in
theorem am_dl115 : am_dlP 115 := fun j hj => by cases Option.some.inj hj; exact ⟨am_de115, am_ok115⟩
set_option maxRecDepth 100000 in
theorem am_dl116 : am_dlP 116 := fun j hj => by cases Option.some.inj hj; exact ⟨am_de116, am_ok116⟩
set_option maxRecDepth 100000 in
theorem am_dl117 : am_dlP 117 := fun j hj => by cases Option.some.inj hj; exact ⟨am_de117, am_ok117⟩
set_option maxRecDepth 100000 in
theorem am_dl118 : am_dlP 118 := fun j hj => by cases Option.some.inj hj; exact ⟨am_de118, am_ok118⟩
set_option maxRecDepth 100000 in
theorem am_dl119 : am_dlP 119 := fun j hj => by cases Option.some.inj hj; exact ⟨am_de119, am_ok119⟩
set_option maxRecDepth 100000 in
theorem am_dl120 : am_dlP 120 := fun j hj => by cases Option.some.inj hj; exact ⟨am_de120, am_ok120⟩
set_option maxRecDepth 100000 in
theorem am_dl121 : am_dlP 121 := fun j hj => by cases Option.some.inj hj; exact ⟨am_de121, am_ok121⟩
set_option maxRecDepth 100000 in
theorem am_dl122 : am_dlP 122 := fun j hj => by cases Option.some.inj hj; exact ⟨am_de122, am_ok122⟩
set_option maxRecDepth 100000 in
theorem am_dl123 : am_dlP 123 := fun j hj => by cases Option.some.inj hj; exact ⟨am_de123, am_ok123⟩
set_option maxRecDepth 100000 in
theorem am_dl124 : am_dlP 124 := fun j hj => by cases Option.some.inj hj; exact ⟨am_de124, am_ok124⟩
set_option maxRecDepth 100000 in
theorem am_dl125 : am_dlP 125 := fun j hj => by cases Option.some.inj hj; exact ⟨am_de125, am_ok125⟩
set_option maxRecDepth 100000 in
theorem am_dl126 : am_dlP 126 := fun j hj => by cases Option.some.inj hj; exact ⟨am_de126, am_ok126⟩
set_option maxRecDepth 100000 in
theorem am_dl127 : am_dlP 127 := fun j hj => by cases Option.some.inj hj; exact ⟨am_de127, am_ok127⟩
set_option maxRecDepth 100000 in
theorem am_dl128 : am_dlP 128 := fun j hj => by cases Option.some.inj hj; exact ⟨am_de128, am_ok128⟩
set_option maxRecDepth 100000 in
theorem am_dl129 : am_dlP 129 := fun j hj => by cases Option.some.inj hj; exact ⟨am_de129, am_ok129⟩
set_option maxRecDepth 100000 in
theorem am_dl130 : am_dlP 130 := fun j hj => by cases Option.some.inj hj; exact ⟨am_de130, am_ok130⟩
set_option maxRecDepth 100000 in
theorem am_dl131 : am_dlP 131 := fun j hj => by cases Option.some.inj hj; exact ⟨am_de131, am_ok131⟩
set_option maxRecDepth 100000 in
theorem am_dl132 : am_dlP 132 := fun j hj => by cases Option.some.inj hj; exact ⟨am_de132, am_ok132⟩
set_option maxRecDepth 100000 in
theorem am_dl133 : am_dlP 133 := fun j hj => by cases Option.some.inj hj; exact ⟨am_de133, am_ok133⟩
set_option maxRecDepth 100000 in
theorem am_dl134 : am_dlP 134 := fun j hj => by cases Option.some.inj hj; exact ⟨am_de134, am_ok134⟩
set_option maxRecDepth 100000 in
theorem am_dl135 : am_dlP 135 := fun j hj => by cases Option.some.inj hj; exact ⟨am_de135, am_ok135⟩
set_option maxRecDepth 100000 in
theorem am_dl136 : am_dlP 136 := fun j hj => by cases Option.some.inj hj; exact ⟨am_de136, am_ok136⟩
set_option maxRecDepth 100000 in
theorem am_dl137 : am_dlP 137 := fun j hj => by cases Option.some.inj hj; exact ⟨am_de137, am_ok137⟩
set_option maxRecDepth 100000 in
theorem am_dl138 : am_dlP 138 := fun j hj => by cases Option.some.inj hj; exact ⟨am_de138, am_ok138⟩
set_option maxRecDepth 100000 in
theorem am_dl139 : am_dlP 139 := fun j hj => by cases Option.some.inj hj; exact ⟨am_de139, am_ok139⟩
set_option maxRecDepth 100000 in
theorem am_dl140 : am_dlP 140 := fun j hj => by cases Option.some.inj hj; exact ⟨am_de140, am_ok140⟩
set_option maxRecDepth 100000 in
theorem am_dl141 : am_dlP 141 := fun j hj => by cases Option.some.inj hj; exact ⟨am_de141, am_ok141⟩
set_option maxRecDepth 100000 in
theorem am_dl142 : am_dlP 142 := fun j hj => by cases Option.some.inj hj; exact ⟨am_de142, am_ok142⟩
set_option maxRecDepth 100000 in
theorem am_dl143 : am_dlP 143 := fun j hj => by cases Option.some.inj hj; exact ⟨am_de143, am_ok143⟩
set_option maxRecDepth 100000 in
theorem am_dl144 : am_dlP 144 := fun j hj => by cases Option.some.inj hj; exact ⟨am_de144, am_ok144⟩
set_option maxRecDepth 100000 in
theorem am_dl145 : am_dlP 145 := fun j hj => by cases Option.some.inj hj; exact ⟨am_de145, am_ok145⟩
set_option maxRecDepth 100000 in
theorem am_dl146 : am_dlP 146 := fun j hj => by cases Option.some.inj hj; exact ⟨am_de146, am_ok146⟩
set_option maxRecDepth 100000 in
theorem am_dl147 : am_dlP 147 := fun j hj => by cases Option.some.inj hj; exact ⟨am_de147, am_ok147⟩
set_option maxRecDepth 100000 in
theorem am_dl148 : am_dlP 148 := fun j hj => by cases Option.some.inj hj; exact ⟨am_de148, am_ok148⟩
set_option maxRecDepth 100000 in
theorem am_dl149 : am_dlP 149 := fun j hj => by cases Option.some.inj hj; exact ⟨am_de149, am_ok149⟩
set_option maxRecDepth 100000 in
theorem am_dl150 : am_dlP 150 := fun j hj => by cases Option.some.inj hj; exact ⟨am_de150, am_ok150⟩
set_option maxRecDepth 100000 in
theorem am_dl151 : am_dlP 151 := fun j hj => by cases Option.some.inj hj; exact ⟨am_de151, am_ok151⟩
set_option maxRecDepth 100000 in
theorem am_dl152 : am_dlP 152 := fun j hj => by cases Option.some.inj hj; exact ⟨am_de152, am_ok152⟩
set_option maxRecDepth 100000 in
theorem am_dl153 : am_dlP 153 := fun j hj => by cases Option.some.inj hj; exact ⟨am_de153, am_ok153⟩
set_option maxRecDepth 100000 in
theorem am_dl154 : am_dlP 154 := fun j hj => by cases Option.some.inj hj; exact ⟨am_de154, am_ok154⟩
set_option maxRecDepth 100000 in
theorem am_dl155 : am_dlP 155 := fun j hj => by cases Option.some.inj hj; exact ⟨am_de155, am_ok155⟩
set_option maxRecDepth 100000 in
theorem am_dl156 : am_dlP 156 := fun j hj => by cases Option.some.inj hj; exact ⟨am_de156, am_ok156⟩
set_option maxRecDepth 100000 in
theorem am_dl157 : am_dlP 157 := fun j hj => by cases Option.some.inj hj; exact ⟨am_de157, am_ok157⟩
set_option maxRecDepth 100000 in
theorem am_dl158 : am_dlP 158 := fun j hj => by cases Option.some.inj hj; exact ⟨am_de158, am_ok158⟩
set_option maxRecDepth 100000 in
theorem am_dl159 : am_dlP 159 := fun j hj => by cases Option.some.inj hj; exact ⟨am_de159, am_ok159⟩
set_option maxRecDepth 100000 in
theorem am_dl160 : am_dlP 160 := fun j hj => by cases Option.some.inj hj; exact ⟨am_de160, am_ok160⟩
set_option maxRecDepth 100000 in
theorem am_dl161 : am_dlP 161 := fun j hj => by cases Option.some.inj hj; exact ⟨am_de161, am_ok161⟩
set_option maxRecDepth 100000 in
theorem am_dl162 : am_dlP 162 := fun j hj => by cases Option.some.inj hj; exact ⟨am_de162, am_ok162⟩
set_option maxRecDepth 100000 in
theorem am_dl163 : am_dlP 163 := fun j hj => by cases Option.some.inj hj; exact ⟨am_de163, am_ok163⟩
set_option maxRecDepth 100000 in
theorem am_dl164 : am_dlP 164 := fun j hj => by cases Option.some.inj hj; exact ⟨am_de164, am_ok164⟩
set_option maxRecDepth 100000 in
theorem am_dl165 : am_dlP 165 := fun j hj => by cases Option.some.inj hj; exact ⟨am_de165, am_ok165⟩
set_option maxRecDepth 100000 in
theorem am_dl166 : am_dlP 166 := fun j hj => by cases Option.some.inj hj; exact ⟨am_de166, am_ok166⟩
set_option maxRecDepth 100000 in
theorem am_dl167 : am_dlP 167 := fun j hj => by cases Option.some.inj hj; exact ⟨am_de167, am_ok167⟩
set_option maxRecDepth 100000 in
theorem am_dl168 : am_dlP 168 := fun j hj => by cases Option.some.inj hj; exact ⟨am_de168, am_ok168⟩
set_option maxRecDepth 100000 in
theorem am_dl169 : am_dlP 169 := fun j hj => by cases Option.some.inj hj; exact ⟨am_de169, am_ok169⟩
set_option maxRecDepth 100000 in
theorem am_dl170 : am_dlP 170 := fun j hj => by cases Option.some.inj hj; exact ⟨am_de170, am_ok170⟩
set_option maxRecDepth 100000 in
theorem am_dl171 : am_dlP 171 := fun j hj => by cases Option.some.inj hj; exact ⟨am_de171, am_ok171⟩
set_option maxRecDepth 100000 in
theorem am_dl172 : am_dlP 172 := fun j hj => by cases Option.some.inj hj; exact ⟨am_de172, am_ok172⟩
set_option maxRecDepth 100000 in
theorem am_dl173 : am_dlP 173 := fun j hj => by cases Option.some.inj hj; exact ⟨am_de173, am_ok173⟩
set_option maxRecDepth 100000 in
theorem am_dl174 : am_dlP 174 := fun j hj => by cases Option.some.inj hj; exact ⟨am_de174, am_ok174⟩
set_option maxRecDepth 100000 in
theorem am_dl175 : am_dlP 175 := fun j hj => by cases Option.some.inj hj; exact ⟨am_de175, am_ok175⟩
set_option maxRecDepth 100000 in
theorem am_dl176 : am_dlP 176 := fun j hj => by cases Option.some.inj hj; exact ⟨am_de176, am_ok176⟩
set_option maxRecDepth 100000 in
theorem am_dl177 : am_dlP 177 := fun j hj => by cases Option.some.inj hj; exact ⟨am_de177, am_ok177⟩
set_option maxRecDepth 100000 in
theorem am_dl178 : am_dlP 178 := fun j hj => by cases Option.some.inj hj; exact ⟨am_de178, am_ok178⟩
set_option maxRecDepth 100000 in
theorem am_dl179 : am_dlP 179 := fun j hj => by cases Option.some.inj hj; exact ⟨am_de179, am_ok179⟩
set_option maxRecDepth 100000 in
theorem am_dl180 : am_dlP 180 := fun j hj => by cases Option.some.inj hj; exact ⟨am_de180, am_ok180⟩
set_option maxRecDepth 100000 in
theorem am_dl181 : am_dlP 181 := fun j hj => by cases Option.some.inj hj; exact ⟨am_de181, am_ok181⟩
set_option maxRecDepth 100000 in
theorem am_dl182 : am_dlP 182 := fun j hj => by cases Option.some.inj hj; exact ⟨am_de182, am_ok182⟩
set_option maxRecDepth 100000 in
theorem am_dl183 : am_dlP 183 := fun j hj => by cases Option.some.inj hj; exact ⟨am_de183, am_ok183⟩
set_option maxRecDepth 100000 in
theorem am_dl184 : am_dlP 184 := fun j hj => by cases Option.some.inj hj; exact ⟨am_de184, am_ok184⟩
set_option maxRecDepth 100000 in
theorem am_dl185 : am_dlP 185 := fun j hj => by cases Option.some.inj hj; exact ⟨am_de185, am_ok185⟩
set_option maxRecDepth 100000 in
theorem am_dl186 : am_dlP 186 := fun j hj => by cases Option.some.inj hj; exact ⟨am_de186, am_ok186⟩
set_option maxRecDepth 100000 in
theorem am_dl187 : am_dlP 187 := fun j hj => by cases Option.some.inj hj; exact ⟨am_de187, am_ok187⟩
set_option maxRecDepth 100000 in
theorem am_dl188 : am_dlP 188 := fun j hj => by cases Option.some.inj hj; exact ⟨am_de188, am_ok188⟩
set_option maxRecDepth 100000 in
theorem am_dl189 : am_dlP 189 := fun j hj => by cases Option.some.inj hj; exact ⟨am_de189, am_ok189⟩
set_option maxRecDepth 100000 in
theorem am_dl190 : am_dlP 190 := fun j hj => by cases Option.some.inj hj; exact ⟨am_de190, am_ok190⟩
set_option maxRecDepth 100000 in
theorem am_dl191 : am_dlP 191 := fun j hj => by cases Option.some.inj hj; exact ⟨am_de191, am_ok191⟩
set_option maxRecDepth 100000 in
theorem am_dl192 : am_dlP 192 := fun j hj => by cases Option.some.inj hj; exact ⟨am_de192, am_ok192⟩
set_option maxRecDepth 100000 in
theorem am_dl193 : am_dlP 193 := fun j hj => by cases Option.some.inj hj; exact ⟨am_de193, am_ok193⟩
set_option maxRecDepth 100000 in
theorem am_dl194 : am_dlP 194 := fun j hj => by cases Option.some.inj hj; exact ⟨am_de194, am_ok194⟩
set_option maxRecDepth 100000 in
theorem am_dl195 : am_dlP 195 := fun j hj => by cases Option.some.inj hj; exact ⟨am_de195, am_ok195⟩
set_option maxRecDepth 100000 in
theorem am_dl196 : am_dlP 196 := fun j hj => by cases Option.some.inj hj; exact ⟨am_de196, am_ok196⟩
set_option maxRecDepth 100000 in
theorem am_dl197 : am_dlP 197 := fun j hj => by cases Option.some.inj hj; exact ⟨am_de197, am_ok197⟩
set_option maxRecDepth 100000 in
theorem am_dl198 : am_dlP 198 := fun j hj => by cases Option.some.inj hj; exact ⟨am_de198, am_ok198⟩
set_option maxRecDepth 100000 in
theorem am_dl199 : am_dlP 199 := fun j hj => by cases Option.some.inj hj; exact ⟨am_de199, am_ok199⟩
set_option maxRecDepth 100000 in
theorem am_dl200 : am_dlP 200 := fun j hj => by cases Option.some.inj hj; exact ⟨am_de200, am_ok200⟩
set_option maxRecDepth 100000 in
theorem am_dl201 : am_dlP 201 := fun j hj => by cases Option.some.inj hj; exact ⟨am_de201, am_ok201⟩
set_option maxRecDepth 100000 in
theorem am_dl202 : am_dlP 202 := fun j hj => by cases Option.some.inj hj; exact ⟨am_de202, am_ok202⟩
set_option maxRecDepth 100000 in
theorem am_dl203 : am_dlP 203 := fun j hj => by cases Option.some.inj hj; exact ⟨am_de203, am_ok203⟩
set_option maxRecDepth 100000 in
theorem am_dl204 : am_dlP 204 := fun j hj => by cases Option.some.inj hj; exact ⟨am_de204, am_ok204⟩
set_option maxRecDepth 100000 in
theorem am_dl205 : am_dlP 205 := fun j hj => by cases Option.some.inj hj; exact ⟨am_de205, am_ok205⟩
set_option maxRecDepth 100000 in
theorem am_dl206 : am_dlP 206 := fun j hj => by cases Option.some.inj hj; exact ⟨am_de206, am_ok206⟩
set_option maxRecDepth 100000 in
theorem am_dl207 : am_dlP 207 := fun j hj => by cases Option.some.inj hj; exact ⟨am_de207, am_ok207⟩
set_option maxRecDepth 100000 in
theorem am_dl208 : am_dlP 208 := fun j hj => by cases Option.some.inj hj; exact ⟨am_de208, am_ok208⟩
set_option maxRecDepth 100000 in
theorem am_dl209 : am_dlP 209 := fun j hj => by cases Option.some.inj hj; exact ⟨am_de209, am_ok209⟩
set_option maxRecDepth 100000 in
theorem am_dl210 : am_dlP 210 := fun j hj => by cases Option.some.inj hj; exact ⟨am_de210, am_ok210⟩
set_option maxRecDepth 100000 in
theorem am_dl211 : am_dlP 211 := fun j hj => by cases Option.some.inj hj; exact ⟨am_de211, am_ok211⟩
set_option maxRecDepth 100000 in
theorem am_dl212 : am_dlP 212 := fun j hj => by cases Option.some.inj hj; exact ⟨am_de212, am_ok212⟩
set_option maxRecDepth 100000 in
theorem am_dl213 : am_dlP 213 := fun j hj => by cases Option.some.inj hj; exact ⟨am_de213, am_ok213⟩
set_option maxRecDepth 100000 in
theorem am_dl214 : am_dlP 214 := fun j hj => by cases Option.some.inj hj; exact ⟨am_de214, am_ok214⟩
set_option maxRecDepth 100000 in
theorem am_dl215 : am_dlP 215 := fun j hj => by cases Option.some.inj hj; exact ⟨am_de215, am_ok215⟩
set_option maxRecDepth 100000 in
theorem am_dl216 : am_dlP 216 := fun j hj => by cases Option.some.inj hj; exact ⟨am_de216, am_ok216⟩
set_option maxRecDepth 100000 in
theorem am_dl217 : am_dlP 217 := fun j hj => by cases Option.some.inj hj; exact ⟨am_de217, am_ok217⟩
set_option maxRecDepth 100000 in
theorem am_dl218 : am_dlP 218 := fun j hj => by cases Option.some.inj hj; exact ⟨am_de218, am_ok218⟩
set_option maxRecDepth 100000 in
theorem am_dl219 : am_dlP 219 := fun j hj => by cases Option.some.inj hj; exact ⟨am_de219, am_ok219⟩
set_option maxRecDepth 100000 in
theorem am_dl220 : am_dlP 220 := fun j hj => by cases Option.some.inj hj; exact ⟨am_de220, am_ok220⟩
set_option maxRecDepth 100000 in
theorem am_dl221 : am_dlP 221 := fun j hj => by cases Option.some.inj hj; exact ⟨am_de221, am_ok221⟩
set_option maxRecDepth 100000 in
theorem am_dl222 : am_dlP 222 := fun j hj => by cases Option.some.inj hj; exact ⟨am_de222, am_ok222⟩
set_option maxRecDepth 100000 in
theorem am_dl223 : am_dlP 223 := fun j hj => by cases Option.some.inj hj; exact ⟨am_de223, am_ok223⟩
set_option maxRecDepth 100000 in
theorem am_dl224 : am_dlP 224 := fun j hj => by cases Option.some.inj hj; exact ⟨am_de224, am_ok224⟩
set_option maxRecDepth 100000 in
theorem am_dl225 : am_dlP 225 := fun j hj => by cases Option.some.inj hj; exact ⟨am_de225, am_ok225⟩
set_option maxRecDepth 100000 in
theorem am_dl226 : am_dlP 226 := fun j hj => by cases Option.some.inj hj; exact ⟨am_de226, am_ok226⟩
set_option maxRecDepth 100000 in
theorem am_dl227 : am_dlP 227 := fun j hj => by cases Option.some.inj hj; exact ⟨am_de227, am_ok227⟩
set_option maxRecDepth 100000 in
theorem am_dl228 : am_dlP 228 := fun j hj => by cases Option.some.inj hj; exact ⟨am_de228, am_ok228⟩
set_option maxRecDepth 100000 in
theorem am_dl229 : am_dlP 229 := fun j hj => by cases Option.some.inj hj; exact ⟨am_de229, am_ok229⟩
set_option maxRecDepth 100000 in
theorem am_dl230 : am_dlP 230 := fun j hj => by cases Option.some.inj hj; exact ⟨am_de230, am_ok230⟩
set_option maxRecDepth 100000 in
theorem am_dl231 : am_dlP 231 := fun j hj => by cases Option.some.inj hj; exact ⟨am_de231, am_ok231⟩
set_option maxRecDepth 100000 in
theorem am_dl232 : am_dlP 232 := fun j hj => by cases Option.some.inj hj; exact ⟨am_de232, am_ok232⟩
set_option maxRecDepth 100000 in
theorem am_dl233 : am_dlP 233 := fun j hj => by cases Option.some.inj hj; exact ⟨am_de233, am_ok233⟩
set_option maxRecDepth 100000 in
theorem am_dl234 : am_dlP 234 := fun j hj => by cases Option.some.inj hj; exact ⟨am_de234, am_ok234⟩
set_option maxRecDepth 100000 in
theorem am_dl235 : am_dlP 235 := fun j hj => by cases Option.some.inj hj; exact ⟨am_de235, am_ok235⟩
set_option maxRecDepth 100000 in
theorem am_dl236 : am_dlP 236 := fun j hj => by cases Option.some.inj hj; exact ⟨am_de236, am_ok236⟩
set_option maxRecDepth 100000 in
theorem am_dl237 : am_dlP 237 := fun j hj => by cases Option.some.inj hj; exact ⟨am_de237, am_ok237⟩
set_option maxRecDepth 100000 in
theorem am_dl238 : am_dlP 238 := fun j hj => by cases Option.some.inj hj; exact ⟨am_de238, am_ok238⟩
set_option maxRecDepth 100000 in
theorem am_dl239 : am_dlP 239 := fun j hj => by cases Option.some.inj hj; exact ⟨am_de239, am_ok239⟩
set_option maxRecDepth 100000 in
theorem am_dl240 : am_dlP 240 := fun j hj => by cases Option.some.inj hj; exact ⟨am_de240, am_ok240⟩
set_option maxRecDepth 100000 in
theorem am_dl241 : am_dlP 241 := fun j hj => by cases Option.some.inj hj; exact ⟨am_de241, am_ok241⟩
set_option maxRecDepth 100000 in
theorem am_dl242 : am_dlP 242 := fun j hj => by cases Option.some.inj hj; exact ⟨am_de242, am_ok242⟩
set_option maxRecDepth 100000 in
theorem am_dl243 : am_dlP 243 := fun j hj => by cases Option.some.inj hj; exact ⟨am_de243, am_ok243⟩
set_option maxRecDepth 100000 in
theorem am_dl244 : am_dlP 244 := fun j hj => by cases Option.some.inj hj; exact ⟨am_de244, am_ok244⟩
set_option maxRecDepth 100000 in
theorem am_dl245 : am_dlP 245 := fun j hj => by cases Option.some.inj hj; exact ⟨am_de245, am_ok245⟩
set_option maxRecDepth 100000 in
theorem am_dl246 : am_dlP 246 := fun j hj => by cases Option.some.inj hj; exact ⟨am_de246, am_ok246⟩
set_option maxRecDepth 100000 in
theorem am_dl247 : am_dlP 247 := fun j hj => by cases Option.some.inj hj; exact ⟨am_de247, am_ok247⟩
set_option maxRecDepth 100000 in
theorem am_dl248 : am_dlP 248 := fun j hj => by cases Option.some.inj hj; exact ⟨am_de248, am_ok248⟩
set_option maxRecDepth 100000 in
theorem am_dl249 : am_dlP 249 := fun j hj => by cases Option.some.inj hj; exact ⟨am_de249, am_ok249⟩
set_option maxRecDepth 100000 in
theorem am_dl250 : am_dlP 250 := fun j hj => by cases Option.some.inj hj; exact ⟨am_de250, am_ok250⟩
set_option maxRecDepth 100000 in
theorem am_dl251 : am_dlP 251 := fun j hj => by cases Option.some.inj hj; exact ⟨am_de251, am_ok251⟩
set_option maxRecDepth 100000 in
theorem am_dl252 : am_dlP 252 := fun j hj => by cases Option.some.inj hj; exact ⟨am_de252, am_ok252⟩
set_option maxRecDepth 100000 in
theorem am_dl253 : am_dlP 253 := fun j hj => by cases Option.some.inj hj; exact ⟨am_de253, am_ok253⟩
set_option maxRecDepth 100000 in
theorem am_dl254 : am_dlP 254 := fun j hj => by cases Option.some.inj hj; exact ⟨am_de254, am_ok254⟩
set_option maxRecDepth 100000 in
theorem am_dl255 : am_dlP 255 := fun j hj => by cases Option.some.inj hj; exact ⟨am_de255, am_ok255⟩
set_option maxRecDepth 100000 in
theorem am_dl256 : am_dlP 256 := fun j hj => by cases Option.some.inj hj; exact ⟨am_de256, am_ok256⟩
set_option maxRecDepth 100000 in
theorem am_dl257 : am_dlP 257 := fun j hj => by cases Option.some.inj hj; exact ⟨am_de257, am_ok257⟩
set_option maxRecDepth 100000 in
theorem am_dl258 : am_dlP 258 := fun j hj => by cases Option.some.inj hj; exact ⟨am_de258, am_ok258⟩
set_option maxRecDepth 100000 in
theorem am_dl259 : am_dlP 259 := fun j hj => by cases Option.some.inj hj; exact ⟨am_de259, am_ok259⟩
set_option maxRecDepth 100000 in
theorem am_dl260 : am_dlP 260 := fun j hj => by cases Option.some.inj hj; exact ⟨am_de260, am_ok260⟩
set_option maxRecDepth 100000 in
theorem am_dl261 : am_dlP 261 := fun j hj => by cases Option.some.inj hj; exact ⟨am_de261, am_ok261⟩
set_option maxRecDepth 100000 in
theorem am_dl262 : am_dlP 262 := fun j hj => by cases Option.some.inj hj; exact ⟨am_de262, am_ok262⟩
set_option maxRecDepth 100000 in
theorem am_dl263 : am_dlP 263 := fun j hj => by cases Option.some.inj hj; exact ⟨am_de263, am_ok263⟩
set_option maxRecDepth 100000 in
theorem am_dl264 : am_dlP 264 := fun j hj => by cases Option.some.inj hj; exact ⟨am_de264, am_ok264⟩
set_option maxRecDepth 100000 in
theorem am_dl265 : am_dlP 265 := fun j hj => by cases Option.some.inj hj; exact ⟨am_de265, am_ok265⟩
set_option maxRecDepth 100000 in
theorem am_dl266 : am_dlP 266 := fun j hj => by cases Option.some.inj hj; exact ⟨am_de266, am_ok266⟩
set_option maxRecDepth 100000 in
theorem am_dl267 : am_dlP 267 := fun j hj => by cases Option.some.inj hj; exact ⟨am_de267, am_ok267⟩
set_option maxRecDepth 100000 in
theorem am_dl268 : am_dlP 268 := fun j hj => by cases Option.some.inj hj; exact ⟨am_de268, am_ok268⟩
set_option maxRecDepth 100000 in
theorem am_dl269 : am_dlP 269 := fun j hj => by cases Option.some.inj hj; exact ⟨am_de269, am_ok269⟩
set_option maxRecDepth 100000 in
theorem am_dl270 : am_dlP 270 := fun j hj => by cases Option.some.inj hj; exact ⟨am_de270, am_ok270⟩
set_option maxRecDepth 100000 in
theorem am_dl271 : am_dlP 271 := fun j hj => by cases Option.some.inj hj; exact ⟨am_de271, am_ok271⟩
set_option maxRecDepth 100000 in
theorem am_dl272 : am_dlP 272 := fun j hj => by cases Option.some.inj hj; exact ⟨am_de272, am_ok272⟩
set_option maxRecDepth 100000 in
theorem am_dl273 : am_dlP 273 := fun j hj => by cases Option.some.inj hj; exact ⟨am_de273, am_ok273⟩
set_option maxRecDepth 100000 in
theorem am_dl274 : am_dlP 274 := fun j hj => by cases Option.some.inj hj; exact ⟨am_de274, am_ok274⟩
set_option maxRecDepth 100000 in
theorem am_dl275 : am_dlP 275 := fun j hj => by cases Option.some.inj hj; exact ⟨am_de275, am_ok275⟩
set_option maxRecDepth 100000 in
theorem am_dl276 : am_dlP 276 := fun j hj => by cases Option.some.inj hj; exact ⟨am_de276, am_ok276⟩
set_option maxRecDepth 100000 in
theorem am_dl277 : am_dlP 277 := fun j hj => by cases Option.some.inj hj; exact ⟨am_de277, am_ok277⟩
set_option maxRecDepth 100000 in
theorem am_dl278 : am_dlP 278 := fun j hj => by cases Option.some.inj hj; exact ⟨am_de278, am_ok278⟩
set_option maxRecDepth 100000 in
theorem am_dl279 : am_dlP 279 := fun j hj => by cases Option.some.inj hj; exact ⟨am_de279, am_ok279⟩
set_option maxRecDepth 100000 in
theorem am_dl280 : am_dlP 280 := fun j hj => by cases Option.some.inj hj; exact ⟨am_de280, am_ok280⟩
set_option maxRecDepth 100000 in
theorem am_dl281 : am_dlP 281 := fun j hj => by cases Option.some.inj hj; exact ⟨am_de281, am_ok281⟩
set_option maxRecDepth 100000 in
theorem am_dl282 : am_dlP 282 := fun j hj => by cases Option.some.inj hj; exact ⟨am_de282, am_ok282⟩
set_option maxRecDepth 100000 in
theorem am_dl283 : am_dlP 283 := fun j hj => by cases Option.some.inj hj; exact ⟨am_de283, am_ok283⟩
set_option maxRecDepth 100000 in
theorem am_dl284 : am_dlP 284 := fun j hj => by cases Option.some.inj hj; exact ⟨am_de284, am_ok284⟩
set_option maxRecDepth 100000 in
theorem am_dl285 : am_dlP 285 := fun j hj => by cases Option.some.inj hj; exact ⟨am_de285, am_ok285⟩
set_option maxRecDepth 100000 in
theorem am_dl286 : am_dlP 286 := fun j hj => by cases Option.some.inj hj; exact ⟨am_de286, am_ok286⟩
set_option maxRecDepth 100000 in
theorem am_dl287 : am_dlP 287 := fun j hj => by cases Option.some.inj hj; exact ⟨am_de287, am_ok287⟩
set_option maxRecDepth 100000 in
theorem am_dl288 : am_dlP 288 := fun j hj => by cases Option.some.inj hj; exact ⟨am_de288, am_ok288⟩
set_option maxRecDepth 100000 in
theorem am_dl289 : am_dlP 289 := fun j hj => by cases Option.some.inj hj; exact ⟨am_de289, am_ok289⟩
set_option maxRecDepth 100000 in
theorem am_dl290 : am_dlP 290 := fun j hj => by cases Option.some.inj hj; exact ⟨am_de290, am_ok290⟩
set_option maxRecDepth 100000 in
theorem am_dl291 : am_dlP 291 := fun j hj => by cases Option.some.inj hj; exact ⟨am_de291, am_ok291⟩
set_option maxRecDepth 100000 in
theorem am_dl292 : am_dlP 292 := fun j hj => by cases Option.some.inj hj; exact ⟨am_de292, am_ok292⟩
set_option maxRecDepth 100000 in
theorem am_dl293 : am_dlP 293 := fun j hj => by cases Option.some.inj hj; exact ⟨am_de293, am_ok293⟩
set_option maxRecDepth 100000 in
theorem am_dl294 : am_dlP 294 := fun j hj => by cases Option.some.inj hj; exact ⟨am_de294, am_ok294⟩
set_option maxRecDepth 100000 in
theorem am_dl295 : am_dlP 295 := fun j hj => by cases Option.some.inj hj; exact ⟨am_de295, am_ok295⟩
set_option maxRecDepth 100000 in
theorem am_dl296 : am_dlP 296 := fun j hj => by cases Option.some.inj hj; exact ⟨am_de296, am_ok296⟩
set_option maxRecDepth 100000 in
theorem am_dl297 : am_dlP 297 := fun j hj => by cases Option.some.inj hj; exact ⟨am_de297, am_ok297⟩
set_option maxRecDepth 100000 in
theorem am_dl298 : am_dlP 298 := fun j hj => by cases Option.some.inj hj; exact ⟨am_de298, am_ok298⟩
set_option maxRecDepth 100000 in
theorem am_dl299 : am_dlP 299 := fun j hj => by cases Option.some.inj hj; exact ⟨am_de299, am_ok299⟩
set_option maxRecDepth 100000 in
theorem am_dl300 : am_dlP 300 := fun j hj => by cases Option.some.inj hj; exact ⟨am_de300, am_ok300⟩
set_option maxRecDepth 100000 in
theorem am_dl301 : am_dlP 301 := fun j hj => by cases Option.some.inj hj; exact ⟨am_de301, am_ok301⟩
set_option maxRecDepth 100000 in
theorem am_dl302 : am_dlP 302 := fun j hj => by cases Option.some.inj hj; exact ⟨am_de302, am_ok302⟩
set_option maxRecDepth 100000 in
theorem am_dl303 : am_dlP 303 := fun j hj => by cases Option.some.inj hj; exact ⟨am_de303, am_ok303⟩
set_option maxRecDepth 100000 in
theorem am_dl304 : am_dlP 304 := fun j hj => by cases Option.some.inj hj; exact ⟨am_de304, am_ok304⟩
set_option maxRecDepth 100000 in
theorem am_dl305 : am_dlP 305 := fun j hj => by cases Option.some.inj hj; exact ⟨am_de305, am_ok305⟩
set_option maxRecDepth 100000 in
theorem am_dl306 : am_dlP 306 := fun j hj => by cases Option.some.inj hj; exact ⟨am_de306, am_ok306⟩
set_option maxRecDepth 100000 in
theorem am_dl307 : am_dlP 307 := fun j hj => by cases Option.some.inj hj; exact ⟨am_de307, am_ok307⟩
set_option maxRecDepth 100000 in
theorem am_dl308 : am_dlP 308 := fun j hj => by cases Option.some.inj hj; exact ⟨am_de308, am_ok308⟩
set_option maxRecDepth 100000 in
theorem am_dl309 : am_dlP 309 := fun j hj => by cases Option.some.inj hj; exact ⟨am_de309, am_ok309⟩
set_option maxRecDepth 100000 in
theorem am_dl310 : am_dlP 310 := fun j hj => by cases Option.some.inj hj; exact ⟨am_de310, am_ok310⟩
set_option maxRecDepth 100000 in
theorem am_dl311 : am_dlP 311 := fun j hj => by cases Option.some.inj hj; exact ⟨am_de311, am_ok311⟩
set_option maxRecDepth 100000 in
theorem am_dl312 : am_dlP 312 := fun j hj => by cases Option.some.inj hj; exact ⟨am_de312, am_ok312⟩
set_option maxRecDepth 100000 in
theorem am_dl313 : am_dlP 313 := fun j hj => by cases Option.some.inj hj; exact ⟨am_de313, am_ok313⟩
set_option maxRecDepth 100000 in
theorem am_dl314 : am_dlP 314 := fun j hj => by cases Option.some.inj hj; exact ⟨am_de314, am_ok314⟩
set_option maxRecDepth 100000 in
theorem am_dl315 : am_dlP 315 := fun j hj => by cases Option.some.inj hj; exact ⟨am_de315, am_ok315⟩
set_option maxRecDepth 100000 in
theorem am_dl316 : am_dlP 316 := fun j hj => by cases Option.some.inj hj; exact ⟨am_de316, am_ok316⟩
set_option maxRecDepth 100000 in
theorem am_dl317 : am_dlP 317 := fun j hj => by cases Option.some.inj hj; exact ⟨am_de317, am_ok317⟩
set_option maxRecDepth 100000 in
theorem am_dl318 : am_dlP 318 := fun j hj => by cases Option.some.inj hj; exact ⟨am_de318, am_ok318⟩
set_option maxRecDepth 100000 in
theorem am_dl319 : am_dlP 319 := fun j hj => by cases Option.some.inj hj; exact ⟨am_de319, am_ok319⟩
set_option maxRecDepth 100000 in
theorem am_dl320 : am_dlP 320 := fun j hj => by cases Option.some.inj hj; exact ⟨am_de320, am_ok320⟩
set_option maxRecDepth 100000 in
theorem am_dl321 : am_dlP 321 := fun j hj => by cases Option.some.inj hj; exact ⟨am_de321, am_ok321⟩
set_option maxRecDepth 100000 in
theorem am_dl322 : am_dlP 322 := fun j hj => by cases Option.some.inj hj; exact ⟨am_de322, am_ok322⟩
set_option maxRecDepth 100000 in
theorem am_dl323 : am_dlP 323 := fun j hj => by cases Option.some.inj hj; exact ⟨am_de323, am_ok323⟩
set_option maxRecDepth 100000 in
theorem am_dl324 : am_dlP 324 := fun j hj => by cases Option.some.inj hj; exact ⟨am_de324, am_ok324⟩
set_option maxRecDepth 100000 in
theorem am_dl325 : am_dlP 325 := fun j hj => by cases Option.some.inj hj; exact ⟨am_de325, am_ok325⟩
set_option maxRecDepth 100000 in
theorem am_dl326 : am_dlP 326 := fun j hj => by cases Option.some.inj hj; exact ⟨am_de326, am_ok326⟩
set_option maxRecDepth 100000 in
theorem am_dl327 : am_dlP 327 := fun j hj => by cases Option.some.inj hj; exact ⟨am_de327, am_ok327⟩
set_option maxRecDepth 100000 in
theorem am_dl328 : am_dlP 328 := fun j hj => by cases Option.some.inj hj; exact ⟨am_de328, am_ok328⟩
set_option maxRecDepth 100000 in
theorem am_dl329 : am_dlP 329 := fun j hj => by cases Option.some.inj hj; exact ⟨am_de329, am_ok329⟩
set_option maxRecDepth 100000 in
theorem am_pu30 : ∀ a, a < 30 → am_dlP a := lt_s (lt_s (lt_s (lt_s (lt_s (lt_s (lt_s (lt_s (lt_s (lt_s (lt_s (lt_s (lt_s (lt_s (lt_s (lt_s (lt_s (lt_s (lt_s (lt_s (lt_s (lt_s (lt_s (lt_s (lt_s (lt_s (lt_s (lt_s (lt_s (lt_s (lt_0) am_dl0) am_dl1) am_dl2) am_dl3) am_dl4) am_dl5) am_dl6) am_dl7) am_dl8) am_dl9) am_dl10) am_dl11) am_dl12) am_dl13) am_dl14) am_dl15) am_dl16) am_dl17) am_dl18) am_dl19) am_dl20) am_dl21) am_dl22) am_dl23) am_dl24) am_dl25) am_dl26) am_dl27) am_dl28) am_dl29
set_option maxRecDepth 100000 in
theorem am_pu60 : ∀ a, a < 60 → am_dlP a := lt_s (lt_s (lt_s (lt_s (lt_s (lt_s (lt_s (lt_s (lt_s (lt_s (lt_s (lt_s (lt_s (lt_s (lt_s (lt_s (lt_s (lt_s (lt_s (lt_s (lt_s (lt_s (lt_s (lt_s (lt_s (lt_s (lt_s (lt_s (lt_s (lt_s (am_pu30) am_dl30) am_dl31) am_dl32) am_dl33) am_dl34) am_dl35) am_dl36) am_dl37) am_dl38) am_dl39) am_dl40) am_dl41) am_dl42) am_dl43) am_dl44) am_dl45) am_dl46) am_dl47) am_dl48) am_dl49) am_dl50) am_dl51) am_dl52) am_dl53) am_dl54) am_dl55) am_dl56) am_dl57) am_dl58) am_dl59
set_option maxRecDepth 100000 in
theorem am_pu90 : ∀ a, a < 90 → am_dlP a := lt_s (lt_s (lt_s (lt_s (lt_s (lt_s (lt_s (lt_s (lt_s (lt_s (lt_s (lt_s (lt_s (lt_s (lt_s (lt_s (lt_s (lt_s (lt_s (lt_s (lt_s (lt_s (lt_s (lt_s (lt_s (lt_s (lt_s (lt_s (lt_s (lt_s (am_pu60) am_dl60) am_dl61) am_dl62) am_dl63) am_dl64) am_dl65) am_dl66) am_dl67) am_dl68) am_dl69) am_dl70) am_dl71) am_dl72) am_dl73) am_dl74) am_dl75) am_dl76) am_dl77) am_dl78) am_dl79) am_dl80) am_dl81) am_dl82) am_dl83) am_dl84) am_dl85) am_dl86) am_dl87) am_dl88) am_dl89
set_option maxRecDepth 100000 in
theorem am_pu120 : ∀ a, a < 120 → am_dlP a := lt_s (lt_s (lt_s (lt_s (lt_s (lt_s (lt_s (lt_s (lt_s (lt_s (lt_s (lt_s (lt_s (lt_s (lt_s (lt_s (lt_s (lt_s (lt_s (lt_s (lt_s (lt_s (lt_s (lt_s (lt_s (lt_s (lt_s (lt_s (lt_s (lt_s (am_pu90) am_dl90) am_dl91) am_dl92) am_dl93) am_dl94) am_dl95) am_dl96) am_dl97) am_dl98) am_dl99) am_dl100) am_dl101) am_dl102) am_dl103) am_dl104) am_dl105) am_dl106) am_dl107) am_dl108) am_dl109) am_dl110) am_dl111) am_dl112) am_dl113) am_dl114) am_dl115) am_dl116) am_dl117) am_dl118) am_dl119
set_option maxRecDepth 100000 in
theorem am_pu150 : ∀ a, a < 150 → am_dlP a := lt_s (lt_s (lt_s (lt_s (lt_s (lt_s (lt_s (lt_s (lt_s (lt_s (lt_s (lt_s (lt_s (lt_s (lt_s (lt_s (lt_s (lt_s (lt_s (lt_s (lt_s (lt_s (lt_s (lt_s (lt_s (lt_s (lt_s (lt_s (lt_s (lt_s (am_pu120) am_dl120) am_dl121) am_dl122) am_dl123) am_dl124) am_dl125) am_dl126) am_dl127) am_dl128) am_dl129) am_dl130) am_dl131) am_dl132) am_dl133) am_dl134) am_dl135) am_dl136) am_dl137) am_dl138) am_dl139) am_dl140) am_dl141) am_dl142) am_dl143) am_dl144) am_dl145) am_dl146) am_dl147) am_dl148) am_dl149
set_option maxRecDepth 100000 in
theorem am_pu180 : ∀ a, a < 180 → am_dlP a := lt_s (lt_s (lt_s (lt_s (lt_s (lt_s (lt_s (lt_s (lt_s (lt_s (lt_s (lt_s (lt_s (lt_s (lt_s (lt_s (lt_s (lt_s (lt_s (lt_s (lt_s (lt_s (lt_s (lt_s (lt_s (lt_s (lt_s (lt_s (lt_s (lt_s (am_pu150) am_dl150) am_dl151) am_dl152) am_dl153) am_dl154) am_dl155) am_dl156) am_dl157) am_dl158) am_dl159) am_dl160) am_dl161) am_dl162) am_dl163) am_dl164) am_dl165) am_dl166) am_dl167) am_dl168) am_dl169) am_dl170) am_dl171) am_dl172) am_dl173) am_dl174) am_dl175) am_dl176) am_dl177) am_dl178) am_dl179
set_option maxRecDepth 100000 in
theorem am_pu210 : ∀ a, a < 210 → am_dlP a := lt_s (lt_s (lt_s (lt_s (lt_s (lt_s (lt_s (lt_s (lt_s (lt_s (lt_s (lt_s (lt_s (lt_s (lt_s (lt_s (lt_s (lt_s (lt_s (lt_s (lt_s (lt_s (lt_s (lt_s (lt_s (lt_s (lt_s (lt_s (lt_s (lt_s (am_pu180) am_dl180) am_dl181) am_dl182) am_dl183) am_dl184) am_dl185) am_dl186) am_dl187) am_dl188) am_dl189) am_dl190) am_dl191) am_dl192) am_dl193) am_dl194) am_dl195) am_dl196) am_dl197) am_dl198) am_dl199) am_dl200) am_dl201) am_dl202) am_dl203) am_dl204) am_dl205) am_dl206) am_dl207) am_dl208) am_dl209
set_option maxRecDepth 100000 in
theorem am_pu240 : ∀ a, a < 240 → am_dlP a := lt_s (lt_s (lt_s (lt_s (lt_s (lt_s (lt_s (lt_s (lt_s (lt_s (lt_s (lt_s (lt_s (lt_s (lt_s (lt_s (lt_s (lt_s (lt_s (lt_s (lt_s (lt_s (lt_s (lt_s (lt_s (lt_s (lt_s (lt_s (lt_s (lt_s (am_pu210) am_dl210) am_dl211) am_dl212) am_dl213) am_dl214) am_dl215) am_dl216) am_dl217) am_dl218) am_dl219) am_dl220) am_dl221) am_dl222) am_dl223) am_dl224) am_dl225) am_dl226) am_dl227) am_dl228) am_dl229) am_dl230) am_dl231) am_dl232) am_dl233) am_dl234) am_dl235) am_dl236) am_dl237) am_dl238) am_dl239
set_option maxRecDepth 100000 in
theorem am_pu270 : ∀ a, a < 270 → am_dlP a := lt_s (lt_s (lt_s (lt_s (lt_s (lt_s (lt_s (lt_s (lt_s (lt_s (lt_s (lt_s (lt_s (lt_s (lt_s (lt_s (lt_s (lt_s (lt_s (lt_s (lt_s (lt_s (lt_s (lt_s (lt_s (lt_s (lt_s (lt_s (lt_s (lt_s (am_pu240) am_dl240) am_dl241) am_dl242) am_dl243) am_dl244) am_dl245) am_dl246) am_dl247) am_dl248) am_dl249) am_dl250) am_dl251) am_dl252) am_dl253) am_dl254) am_dl255) am_dl256) am_dl257) am_dl258) am_dl259) am_dl260) am_dl261) am_dl262) am_dl263) am_dl264) am_dl265) am_dl266) am_dl267) am_dl268) am_dl269
set_option maxRecDepth 100000 in
theorem am_pu300 : ∀ a, a < 300 → am_dlP a := lt_s (lt_s (lt_s (lt_s (lt_s (lt_s (lt_s (lt_s (lt_s (lt_s (lt_s (lt_s (lt_s (lt_s (lt_s (lt_s (lt_s (lt_s (lt_s (lt_s (lt_s (lt_s (lt_s (lt_s (lt_s (lt_s (lt_s (lt_s (lt_s (lt_s (am_pu270) am_dl270) am_dl271) am_dl272) am_dl273) am_dl274) am_dl275) am_dl276) am_dl277) am_dl278) am_dl279) am_dl280) am_dl281) am_dl282) am_dl283) am_dl284) am_dl285) am_dl286) am_dl287) am_dl288) am_dl289) am_dl290) am_dl291) am_dl292) am_dl293) am_dl294) am_dl295) am_dl296) am_dl297) am_dl298) am_dl299
set_option maxRecDepth 100000 in
theorem am_pu330 : ∀ a, a < 330 → am_dlP a := lt_s (lt_s (lt_s (lt_s (lt_s (lt_s (lt_s (lt_s (lt_s (lt_s (lt_s (lt_s (lt_s (lt_s (lt_s (lt_s (lt_s (lt_s (lt_s (lt_s (lt_s (lt_s (lt_s (lt_s (lt_s (lt_s (lt_s (lt_s (lt_s (lt_s (am_pu300) am_dl300) am_dl301) am_dl302) am_dl303) am_dl304) am_dl305) am_dl306) am_dl307) am_dl308) am_dl309) am_dl310) am_dl311) am_dl312) am_dl313) am_dl314) am_dl315) am_dl316) am_dl317) am_dl318) am_dl319) am_dl320) am_dl321) am_dl322) am_dl323) am_dl324) am_dl325) am_dl326) am_dl327) am_dl328) am_dl329
set_option maxRecDepth 100000 in
theorem am_dlA : ∀ a, a < 330 → am_dlP a := am_pu330
