set_option maxRecDepth 100000 in
theorem am_de165 : ∀ e ∈ am_c165, am_deOk prog_1_method_12_code e = true := List.all_eq_true.mp (by decide +kernel)
set_option maxRecDepth 100000 in
theorem am_ok165 : ∀ e ∈ am_c165, am_ok ⟨"TagRounds", "query", "(IIIII)I"⟩ 165 e = true := List.all_eq_true.mp (by decide +kernel)
set_option maxRecDepth 100000 in
theorem am_de166 : ∀ e ∈ am_c166, am_deOk method_13_code e = true := List.all_eq_true.mp (by decide +kernel)
set_option maxRecDepth 100000 in
theorem am_ok166 : ∀ e ∈ am_c166, am_ok ⟨"TagRoundsLaw", "query", "(LTagRounds;IIIII[J)I"⟩ 166 e = true := List.all_eq_true.mp (by decide +kernel)
set_option maxRecDepth 100000 in
theorem am_de167 : ∀ e ∈ am_c167, am_deOk prog_14_method_41_code e = true := List.all_eq_true.mp (by decide +kernel)
set_option maxRecDepth 100000 in
theorem am_ok167 : ∀ e ∈ am_c167, am_ok ⟨"TagRoundsModel", "isDeep", "(I)Z"⟩ 167 e = true := List.all_eq_true.mp (by decide +kernel)
set_option maxRecDepth 100000 in
theorem am_de168 : ∀ e ∈ am_c168, am_deOk prog_14_method_43_code e = true := List.all_eq_true.mp (by decide +kernel)
set_option maxRecDepth 100000 in
theorem am_ok168 : ∀ e ∈ am_c168, am_ok ⟨"TagRoundsModel", "flips", "(I)V"⟩ 168 e = true := List.all_eq_true.mp (by decide +kernel)
set_option maxRecDepth 100000 in
theorem am_de169 : ∀ e ∈ am_c169, am_deOk prog_14_method_26_code e = true := List.all_eq_true.mp (by decide +kernel)
set_option maxRecDepth 100000 in
theorem am_ok169 : ∀ e ∈ am_c169, am_ok ⟨"TagRoundsModel", "draws", "(I)I"⟩ 169 e = true := List.all_eq_true.mp (by decide +kernel)
set_option maxRecDepth 100000 in
theorem am_de170 : ∀ e ∈ am_c170, am_deOk prog_14_method_39_code e = true := List.all_eq_true.mp (by decide +kernel)
set_option maxRecDepth 100000 in
theorem am_ok170 : ∀ e ∈ am_c170, am_ok ⟨"TagRoundsModel", "says", "(II)V"⟩ 170 e = true := List.all_eq_true.mp (by decide +kernel)
set_option maxRecDepth 100000 in
theorem am_de171 : ∀ e ∈ am_c171, am_deOk prog_14_method_44_code e = true := List.all_eq_true.mp (by decide +kernel)
set_option maxRecDepth 100000 in
theorem am_ok171 : ∀ e ∈ am_c171, am_ok ⟨"TagRoundsModel", "replies", "(I)V"⟩ 171 e = true := List.all_eq_true.mp (by decide +kernel)
set_option maxRecDepth 100000 in
theorem am_de172 : ∀ e ∈ am_c172, am_deOk prog_14_method_45_code e = true := List.all_eq_true.mp (by decide +kernel)
set_option maxRecDepth 100000 in
theorem am_ok172 : ∀ e ∈ am_c172, am_ok ⟨"TagRoundsModel", "drawsSlot", "(I)V"⟩ 172 e = true := List.all_eq_true.mp (by decide +kernel)
set_option maxRecDepth 100000 in
theorem am_de173_0 : ∀ e ∈ am_c173_0, am_deOk prog_14_method_53_code e = true := List.all_eq_true.mp (by decide +kernel)
set_option maxRecDepth 100000 in
theorem am_ok173_0 : ∀ e ∈ am_c173_0, am_ok ⟨"TagRoundsModel", "queries", "(IIIII)V"⟩ 173 e = true := List.all_eq_true.mp (by decide +kernel)
set_option maxRecDepth 100000 in
theorem am_de173_1 : ∀ e ∈ am_c173_1, am_deOk prog_14_method_53_code e = true := List.all_eq_true.mp (by decide +kernel)
set_option maxRecDepth 100000 in
theorem am_ok173_1 : ∀ e ∈ am_c173_1, am_ok ⟨"TagRoundsModel", "queries", "(IIIII)V"⟩ 173 e = true := List.all_eq_true.mp (by decide +kernel)
set_option maxRecDepth 100000 in
theorem am_de173 : ∀ e ∈ am_c173, am_deOk prog_14_method_53_code e = true := am_app am_de173_0 (am_de173_1)
set_option maxRecDepth 100000 in
theorem am_ok173 : ∀ e ∈ am_c173, am_ok ⟨"TagRoundsModel", "queries", "(IIIII)V"⟩ 173 e = true := am_app am_ok173_0 (am_ok173_1)
set_option maxRecDepth 100000 in
theorem am_de174 : ∀ e ∈ am_c174, am_deOk prog_14_method_40_code e = true := List.all_eq_true.mp (by decide +kernel)
set_option maxRecDepth 100000 in
theorem am_ok174 : ∀ e ∈ am_c174, am_ok ⟨"TagRoundsModel", "ends", "(I)I"⟩ 174 e = true := List.all_eq_true.mp (by decide +kernel)
set_option maxRecDepth 100000 in
theorem am_de175 : ∀ e ∈ am_c175, am_deOk prog_14_method_54_code e = true := List.all_eq_true.mp (by decide +kernel)
set_option maxRecDepth 100000 in
theorem am_ok175 : ∀ e ∈ am_c175, am_ok ⟨"TagRoundsModel", "query", "(IIIII)I"⟩ 175 e = true := List.all_eq_true.mp (by decide +kernel)
set_option maxRecDepth 100000 in
theorem am_de176 : ∀ e ∈ am_c176, am_deOk prog_4_method_4_code e = true := List.all_eq_true.mp (by decide +kernel)
set_option maxRecDepth 100000 in
theorem am_ok176 : ∀ e ∈ am_c176, am_ok ⟨"TagRounds$Command", "setAdjust", "(II)V"⟩ 176 e = true := List.all_eq_true.mp (by decide +kernel)
set_option maxRecDepth 100000 in
theorem am_de177 : ∀ e ∈ am_c177, am_deOk prog_1_method_13_code e = true := List.all_eq_true.mp (by decide +kernel)
set_option maxRecDepth 100000 in
theorem am_ok177 : ∀ e ∈ am_c177, am_ok ⟨"TagRounds", "adjust", "(III)I"⟩ 177 e = true := List.all_eq_true.mp (by decide +kernel)
set_option maxRecDepth 100000 in
theorem am_de178 : ∀ e ∈ am_c178, am_deOk method_14_code e = true := List.all_eq_true.mp (by decide +kernel)
set_option maxRecDepth 100000 in
theorem am_ok178 : ∀ e ∈ am_c178, am_ok ⟨"TagRoundsLaw", "adjust", "(LTagRounds;III[J)I"⟩ 178 e = true := List.all_eq_true.mp (by decide +kernel)
set_option maxRecDepth 100000 in
theorem am_de179_0 : ∀ e ∈ am_c179_0, am_deOk prog_14_method_55_code e = true := List.all_eq_true.mp (by decide +kernel)
set_option maxRecDepth 100000 in
theorem am_ok179_0 : ∀ e ∈ am_c179_0, am_ok ⟨"TagRoundsModel", "goesOn", "(IIIZ)V"⟩ 179 e = true := List.all_eq_true.mp (by decide +kernel)
set_option maxRecDepth 100000 in
theorem am_de179_1 : ∀ e ∈ am_c179_1, am_deOk prog_14_method_55_code e = true := List.all_eq_true.mp (by decide +kernel)
set_option maxRecDepth 100000 in
theorem am_ok179_1 : ∀ e ∈ am_c179_1, am_ok ⟨"TagRoundsModel", "goesOn", "(IIIZ)V"⟩ 179 e = true := List.all_eq_true.mp (by decide +kernel)
set_option maxRecDepth 100000 in
theorem am_de179 : ∀ e ∈ am_c179, am_deOk prog_14_method_55_code e = true := am_app am_de179_0 (am_de179_1)
set_option maxRecDepth 100000 in
theorem am_ok179 : ∀ e ∈ am_c179, am_ok ⟨"TagRoundsModel", "goesOn", "(IIIZ)V"⟩ 179 e = true := am_app am_ok179_0 (am_ok179_1)
set_option maxRecDepth 100000 in
theorem am_de180 : ∀ e ∈ am_c180, am_deOk prog_14_method_56_code e = true := List.all_eq_true.mp (by decide +kernel)
set_option maxRecDepth 100000 in
theorem am_ok180 : ∀ e ∈ am_c180, am_ok ⟨"TagRoundsModel", "adjust", "(III)I"⟩ 180 e = true := List.all_eq_true.mp (by decide +kernel)
set_option maxRecDepth 100000 in
theorem am_de181 : ∀ e ∈ am_c181, am_deOk prog_4_method_5_code e = true := List.all_eq_true.mp (by decide +kernel)
set_option maxRecDepth 100000 in
theorem am_ok181 : ∀ e ∈ am_c181, am_ok ⟨"TagRounds$Command", "setNext", "(I)V"⟩ 181 e = true := List.all_eq_true.mp (by decide +kernel)
set_option maxRecDepth 100000 in
theorem am_de182 : ∀ e ∈ am_c182, am_deOk prog_1_method_14_code e = true := List.all_eq_true.mp (by decide +kernel)
set_option maxRecDepth 100000 in
theorem am_ok182 : ∀ e ∈ am_c182, am_ok ⟨"TagRounds", "next", "(II)I"⟩ 182 e = true := List.all_eq_true.mp (by decide +kernel)
set_option maxRecDepth 100000 in
theorem am_de183 : ∀ e ∈ am_c183, am_deOk method_15_code e = true := List.all_eq_true.mp (by decide +kernel)
set_option maxRecDepth 100000 in
theorem am_ok183 : ∀ e ∈ am_c183, am_ok ⟨"TagRoundsLaw", "next", "(LTagRounds;II[J)I"⟩ 183 e = true := List.all_eq_true.mp (by decide +kernel)
set_option maxRecDepth 100000 in
theorem am_de184 : ∀ e ∈ am_c184, am_deOk prog_14_method_57_code e = true := List.all_eq_true.mp (by decide +kernel)
set_option maxRecDepth 100000 in
theorem am_ok184 : ∀ e ∈ am_c184, am_ok ⟨"TagRoundsModel", "next", "(II)I"⟩ 184 e = true := List.all_eq_true.mp (by decide +kernel)
set_option maxRecDepth 100000 in
theorem am_de185 : ∀ e ∈ am_c185, am_deOk prog_4_method_6_code e = true := List.all_eq_true.mp (by decide +kernel)
set_option maxRecDepth 100000 in
theorem am_ok185 : ∀ e ∈ am_c185, am_ok ⟨"TagRounds$Command", "setNumber", "(III)V"⟩ 185 e = true := List.all_eq_true.mp (by decide +kernel)
set_option maxRecDepth 100000 in
theorem am_de186 : ∀ e ∈ am_c186, am_deOk prog_1_method_15_code e = true := List.all_eq_true.mp (by decide +kernel)
set_option maxRecDepth 100000 in
theorem am_ok186 : ∀ e ∈ am_c186, am_ok ⟨"TagRounds", "ack", "(II)I"⟩ 186 e = true := List.all_eq_true.mp (by decide +kernel)
set_option maxRecDepth 100000 in
theorem am_de187 : ∀ e ∈ am_c187, am_deOk method_16_code e = true := List.all_eq_true.mp (by decide +kernel)
set_option maxRecDepth 100000 in
theorem am_ok187 : ∀ e ∈ am_c187, am_ok ⟨"TagRoundsLaw", "ack", "(LTagRounds;II[J)I"⟩ 187 e = true := List.all_eq_true.mp (by decide +kernel)
set_option maxRecDepth 100000 in
theorem am_de188 : ∀ e ∈ am_c188, am_deOk prog_14_method_42_code e = true := List.all_eq_true.mp (by decide +kernel)
set_option maxRecDepth 100000 in
theorem am_ok188 : ∀ e ∈ am_c188, am_ok ⟨"TagRoundsModel", "isHeld", "(II)Z"⟩ 188 e = true := List.all_eq_true.mp (by decide +kernel)
set_option maxRecDepth 100000 in
theorem am_de189 : ∀ e ∈ am_c189, am_deOk prog_14_method_46_code e = true := List.all_eq_true.mp (by decide +kernel)
set_option maxRecDepth 100000 in
theorem am_ok189 : ∀ e ∈ am_c189, am_ok ⟨"TagRoundsModel", "othersWait", "(IZ)V"⟩ 189 e = true := List.all_eq_true.mp (by decide +kernel)
set_option maxRecDepth 100000 in
theorem am_de190_0 : ∀ e ∈ am_c190_0, am_deOk prog_14_method_58_code e = true := List.all_eq_true.mp (by decide +kernel)
set_option maxRecDepth 100000 in
theorem am_ok190_0 : ∀ e ∈ am_c190_0, am_ok ⟨"TagRoundsModel", "acks", "(II)V"⟩ 190 e = true := List.all_eq_true.mp (by decide +kernel)
set_option maxRecDepth 100000 in
theorem am_de190_1 : ∀ e ∈ am_c190_1, am_deOk prog_14_method_58_code e = true := List.all_eq_true.mp (by decide +kernel)
set_option maxRecDepth 100000 in
theorem am_ok190_1 : ∀ e ∈ am_c190_1, am_ok ⟨"TagRoundsModel", "acks", "(II)V"⟩ 190 e = true := List.all_eq_true.mp (by decide +kernel)
set_option maxRecDepth 100000 in
theorem am_de190 : ∀ e ∈ am_c190, am_deOk prog_14_method_58_code e = true := am_app am_de190_0 (am_de190_1)
set_option maxRecDepth 100000 in
theorem am_ok190 : ∀ e ∈ am_c190, am_ok ⟨"TagRoundsModel", "acks", "(II)V"⟩ 190 e = true := am_app am_ok190_0 (am_ok190_1)
set_option maxRecDepth 100000 in
theorem am_de191 : ∀ e ∈ am_c191, am_deOk prog_14_method_59_code e = true := List.all_eq_true.mp (by decide +kernel)
set_option maxRecDepth 100000 in
theorem am_ok191 : ∀ e ∈ am_c191, am_ok ⟨"TagRoundsModel", "ack", "(II)I"⟩ 191 e = true := List.all_eq_true.mp (by decide +kernel)
set_option maxRecDepth 100000 in
theorem am_de192 : ∀ e ∈ am_c192, am_deOk prog_1_method_16_code e = true := List.all_eq_true.mp (by decide +kernel)
set_option maxRecDepth 100000 in
theorem am_ok192 : ∀ e ∈ am_c192, am_ok ⟨"TagRounds", "nak", "(I)I"⟩ 192 e = true := List.all_eq_true.mp (by decide +kernel)
set_option maxRecDepth 100000 in
theorem am_de193 : ∀ e ∈ am_c193, am_deOk method_17_code e = true := List.all_eq_true.mp (by decide +kernel)
set_option maxRecDepth 100000 in
theorem am_ok193 : ∀ e ∈ am_c193, am_ok ⟨"TagRoundsLaw", "nak", "(LTagRounds;I[J)I"⟩ 193 e = true := List.all_eq_true.mp (by decide +kernel)
set_option maxRecDepth 100000 in
theorem am_de194 : ∀ e ∈ am_c194, am_deOk prog_14_method_60_code e = true := List.all_eq_true.mp (by decide +kernel)
set_option maxRecDepth 100000 in
theorem am_ok194 : ∀ e ∈ am_c194, am_ok ⟨"TagRoundsModel", "nak", "(I)I"⟩ 194 e = true := List.all_eq_true.mp (by decide +kernel)
set_option maxRecDepth 100000 in
theorem am_de195 : ∀ e ∈ am_c195, am_deOk prog_1_method_17_code e = true := List.all_eq_true.mp (by decide +kernel)
set_option maxRecDepth 100000 in
theorem am_ok195 : ∀ e ∈ am_c195, am_ok ⟨"TagRounds", "renew", "(II)I"⟩ 195 e = true := List.all_eq_true.mp (by decide +kernel)
set_option maxRecDepth 100000 in
theorem am_de196 : ∀ e ∈ am_c196, am_deOk method_18_code e = true := List.all_eq_true.mp (by decide +kernel)
set_option maxRecDepth 100000 in
theorem am_ok196 : ∀ e ∈ am_c196, am_ok ⟨"TagRoundsLaw", "renew", "(LTagRounds;II[J)I"⟩ 196 e = true := List.all_eq_true.mp (by decide +kernel)
set_option maxRecDepth 100000 in
theorem am_de197_0 : ∀ e ∈ am_c197_0, am_deOk prog_14_method_61_code e = true := List.all_eq_true.mp (by decide +kernel)
set_option maxRecDepth 100000 in
theorem am_ok197_0 : ∀ e ∈ am_c197_0, am_ok ⟨"TagRoundsModel", "renew", "(II)I"⟩ 197 e = true := List.all_eq_true.mp (by decide +kernel)
set_option maxRecDepth 100000 in
theorem am_de197_1 : ∀ e ∈ am_c197_1, am_deOk prog_14_method_61_code e = true := List.all_eq_true.mp (by decide +kernel)
set_option maxRecDepth 100000 in
theorem am_ok197_1 : ∀ e ∈ am_c197_1, am_ok ⟨"TagRoundsModel", "renew", "(II)I"⟩ 197 e = true := List.all_eq_true.mp (by decide +kernel)
set_option maxRecDepth 100000 in
theorem am_de197 : ∀ e ∈ am_c197, am_deOk prog_14_method_61_code e = true := am_app am_de197_0 (am_de197_1)
set_option maxRecDepth 100000 in
theorem am_ok197 : ∀ e ∈ am_c197, am_ok ⟨"TagRoundsModel", "renew", "(II)I"⟩ 197 e = true := am_app am_ok197_0 (am_ok197_1)
set_option maxRecDepth 100000 in
theorem am_de198 : ∀ e ∈ am_c198, am_deOk prog_4_method_7_code e = true := List.all_eq_true.mp (by decide +kernel)
set_option maxRecDepth 100000 in
theorem am_ok198 : ∀ e ∈ am_c198, am_ok ⟨"TagRounds$Command", "setWords", "(III)V"⟩ 198 e = true := List.all_eq_true.mp (by decide +kernel)
set_option maxRecDepth 100000 in
theorem am_de199 : ∀ e ∈ am_c199, am_deOk prog_1_method_18_code e = true := List.all_eq_true.mp (by decide +kernel)
set_option maxRecDepth 100000 in
theorem am_ok199 : ∀ e ∈ am_c199, am_ok ⟨"TagRounds", "read", "(IIIII)I"⟩ 199 e = true := List.all_eq_true.mp (by decide +kernel)
set_option maxRecDepth 100000 in
theorem am_de200 : ∀ e ∈ am_c200, am_deOk method_19_code e = true := List.all_eq_true.mp (by decide +kernel)
set_option maxRecDepth 100000 in
theorem am_ok200 : ∀ e ∈ am_c200, am_ok ⟨"TagRoundsLaw", "read", "(LTagRounds;IIIII[J)I"⟩ 200 e = true := List.all_eq_true.mp (by decide +kernel)
set_option maxRecDepth 100000 in
theorem am_de201 : ∀ e ∈ am_c201, am_deOk prog_14_method_67_code e = true := List.all_eq_true.mp (by decide +kernel)
set_option maxRecDepth 100000 in
theorem am_ok201 : ∀ e ∈ am_c201, am_ok ⟨"TagRoundsModel", "isAsked", "(II)Z"⟩ 201 e = true := List.all_eq_true.mp (by decide +kernel)
set_option maxRecDepth 100000 in
theorem am_de202 : ∀ e ∈ am_c202, am_deOk prog_14_method_62_code e = true := List.all_eq_true.mp (by decide +kernel)
set_option maxRecDepth 100000 in
theorem am_ok202 : ∀ e ∈ am_c202, am_ok ⟨"TagRoundsModel", "areaOf", "(II)I"⟩ 202 e = true := List.all_eq_true.mp (by decide +kernel)
set_option maxRecDepth 100000 in
theorem am_de203 : ∀ e ∈ am_c203, am_deOk prog_14_method_63_code e = true := List.all_eq_true.mp (by decide +kernel)
set_option maxRecDepth 100000 in
theorem am_ok203 : ∀ e ∈ am_c203, am_ok ⟨"TagRoundsModel", "isShut", "(II)Z"⟩ 203 e = true := List.all_eq_true.mp (by decide +kernel)
set_option maxRecDepth 100000 in
theorem am_de204 : ∀ e ∈ am_c204, am_deOk prog_14_method_64_code e = true := List.all_eq_true.mp (by decide +kernel)
set_option maxRecDepth 100000 in
theorem am_ok204 : ∀ e ∈ am_c204, am_ok ⟨"TagRoundsModel", "whyNoRead", "(IIII)I"⟩ 204 e = true := List.all_eq_true.mp (by decide +kernel)
set_option maxRecDepth 100000 in
theorem am_de205 : ∀ e ∈ am_c205, am_deOk prog_14_method_68_code e = true := List.all_eq_true.mp (by decide +kernel)
set_option maxRecDepth 100000 in
theorem am_ok205 : ∀ e ∈ am_c205, am_ok ⟨"TagRoundsModel", "saysCode", "(II)Z"⟩ 205 e = true := List.all_eq_true.mp (by decide +kernel)
set_option maxRecDepth 100000 in
theorem am_de206_0 : ∀ e ∈ am_c206_0, am_deOk prog_14_method_69_code e = true := List.all_eq_true.mp (by decide +kernel)
set_option maxRecDepth 100000 in
theorem am_ok206_0 : ∀ e ∈ am_c206_0, am_ok ⟨"TagRoundsModel", "read", "(IIIII)I"⟩ 206 e = true := List.all_eq_true.mp (by decide +kernel)
set_option maxRecDepth 100000 in
theorem am_de206_1 : ∀ e ∈ am_c206_1, am_deOk prog_14_method_69_code e = true := List.all_eq_true.mp (by decide +kernel)
set_option maxRecDepth 100000 in
theorem am_ok206_1 : ∀ e ∈ am_c206_1, am_ok ⟨"TagRoundsModel", "read", "(IIIII)I"⟩ 206 e = true := List.all_eq_true.mp (by decide +kernel)
set_option maxRecDepth 100000 in
theorem am_de206 : ∀ e ∈ am_c206, am_deOk prog_14_method_69_code e = true := am_app am_de206_0 (am_de206_1)
set_option maxRecDepth 100000 in
theorem am_ok206 : ∀ e ∈ am_c206, am_ok ⟨"TagRoundsModel", "read", "(IIIII)I"⟩ 206 e = true := am_app am_ok206_0 (am_ok206_1)
set_option maxRecDepth 100000 in
theorem am_de207 : ∀ e ∈ am_c207, am_deOk prog_1_method_19_code e = true := List.all_eq_true.mp (by decide +kernel)
set_option maxRecDepth 100000 in
theorem am_ok207 : ∀ e ∈ am_c207, am_ok ⟨"TagRounds", "write", "(IIIII)I"⟩ 207 e = true := List.all_eq_true.mp (by decide +kernel)
set_option maxRecDepth 100000 in
theorem am_de208 : ∀ e ∈ am_c208, am_deOk method_20_code e = true := List.all_eq_true.mp (by decide +kernel)
set_option maxRecDepth 100000 in
theorem am_ok208 : ∀ e ∈ am_c208, am_ok ⟨"TagRoundsLaw", "write", "(LTagRounds;IIIII[J)I"⟩ 208 e = true := List.all_eq_true.mp (by decide +kernel)
set_option maxRecDepth 100000 in
theorem am_de209 : ∀ e ∈ am_c209, am_deOk prog_14_method_65_code e = true := List.all_eq_true.mp (by decide +kernel)
set_option maxRecDepth 100000 in
theorem am_ok209 : ∀ e ∈ am_c209, am_ok ⟨"TagRoundsModel", "whyNoWrite", "(III)I"⟩ 209 e = true := List.all_eq_true.mp (by decide +kernel)
set_option maxRecDepth 100000 in
theorem am_de210_0 : ∀ e ∈ am_c210_0, am_deOk prog_14_method_70_code e = true := List.all_eq_true.mp (by decide +kernel)
set_option maxRecDepth 100000 in
theorem am_ok210_0 : ∀ e ∈ am_c210_0, am_ok ⟨"TagRoundsModel", "write", "(IIIII)I"⟩ 210 e = true := List.all_eq_true.mp (by decide +kernel)
set_option maxRecDepth 100000 in
theorem am_de210_1 : ∀ e ∈ am_c210_1, am_deOk prog_14_method_70_code e = true := List.all_eq_true.mp (by decide +kernel)
set_option maxRecDepth 100000 in
theorem am_ok210_1 : ∀ e ∈ am_c210_1, am_ok ⟨"TagRoundsModel", "write", "(IIIII)I"⟩ 210 e = true := List.all_eq_true.mp (by decide +kernel)
set_option maxRecDepth 100000 in
theorem am_de210 : ∀ e ∈ am_c210, am_deOk prog_14_method_70_code e = true := am_app am_de210_0 (am_de210_1)
set_option maxRecDepth 100000 in
theorem am_ok210 : ∀ e ∈ am_c210, am_ok ⟨"TagRoundsModel", "write", "(IIIII)I"⟩ 210 e = true := am_app am_ok210_0 (am_ok210_1)
set_option maxRecDepth 100000 in
theorem am_de211 : ∀ e ∈ am_c211, am_deOk prog_1_method_20_code e = true := List.all_eq_true.mp (by decide +kernel)
set_option maxRecDepth 100000 in
theorem am_ok211 : ∀ e ∈ am_c211, am_ok ⟨"TagRounds", "lock", "(IIII)I"⟩ 211 e = true := List.all_eq_true.mp (by decide +kernel)
set_option maxRecDepth 100000 in
theorem am_de212 : ∀ e ∈ am_c212, am_deOk method_21_code e = true := List.all_eq_true.mp (by decide +kernel)
set_option maxRecDepth 100000 in
theorem am_ok212 : ∀ e ∈ am_c212, am_ok ⟨"TagRoundsLaw", "lock", "(LTagRounds;IIII[J)I"⟩ 212 e = true := List.all_eq_true.mp (by decide +kernel)
set_option maxRecDepth 100000 in
theorem am_de213 : ∀ e ∈ am_c213, am_deOk prog_14_method_66_code e = true := List.all_eq_true.mp (by decide +kernel)
set_option maxRecDepth 100000 in
theorem am_ok213 : ∀ e ∈ am_c213, am_ok ⟨"TagRoundsModel", "whyNoLock", "(III)I"⟩ 213 e = true := List.all_eq_true.mp (by decide +kernel)
set_option maxRecDepth 100000 in
theorem am_de214_0 : ∀ e ∈ am_c214_0, am_deOk prog_14_method_71_code e = true := List.all_eq_true.mp (by decide +kernel)
set_option maxRecDepth 100000 in
theorem am_ok214_0 : ∀ e ∈ am_c214_0, am_ok ⟨"TagRoundsModel", "lock", "(IIII)I"⟩ 214 e = true := List.all_eq_true.mp (by decide +kernel)
set_option maxRecDepth 100000 in
theorem am_de214_1 : ∀ e ∈ am_c214_1, am_deOk prog_14_method_71_code e = true := List.all_eq_true.mp (by decide +kernel)
set_option maxRecDepth 100000 in
theorem am_ok214_1 : ∀ e ∈ am_c214_1, am_ok ⟨"TagRoundsModel", "lock", "(IIII)I"⟩ 214 e = true := List.all_eq_true.mp (by decide +kernel)
set_option maxRecDepth 100000 in
theorem am_de214 : ∀ e ∈ am_c214, am_deOk prog_14_method_71_code e = true := am_app am_de214_0 (am_de214_1)
set_option maxRecDepth 100000 in
theorem am_ok214 : ∀ e ∈ am_c214, am_ok ⟨"TagRoundsModel", "lock", "(IIII)I"⟩ 214 e = true := am_app am_ok214_0 (am_ok214_1)
set_option maxRecDepth 100000 in
theorem am_de215 : ∀ e ∈ am_c215, am_deOk prog_1_method_21_code e = true := List.all_eq_true.mp (by decide +kernel)
set_option maxRecDepth 100000 in
theorem am_ok215 : ∀ e ∈ am_c215, am_ok ⟨"TagRounds", "pass", "(IIIZ)I"⟩ 215 e = true := List.all_eq_true.mp (by decide +kernel)
set_option maxRecDepth 100000 in
theorem am_de216 : ∀ e ∈ am_c216, am_deOk method_22_code e = true := List.all_eq_true.mp (by decide +kernel)
set_option maxRecDepth 100000 in
theorem am_ok216 : ∀ e ∈ am_c216, am_ok ⟨"TagRoundsLaw", "pass", "(LTagRounds;IIIZ[J)I"⟩ 216 e = true := List.all_eq_true.mp (by decide +kernel)
set_option maxRecDepth 100000 in
theorem am_de217 : ∀ e ∈ am_c217, am_deOk prog_14_method_72_code e = true := List.all_eq_true.mp (by decide +kernel)
set_option maxRecDepth 100000 in
theorem am_ok217 : ∀ e ∈ am_c217, am_ok ⟨"TagRoundsModel", "passes", "(IIZ)V"⟩ 217 e = true := List.all_eq_true.mp (by decide +kernel)
set_option maxRecDepth 100000 in
theorem am_de218_0 : ∀ e ∈ am_c218_0, am_deOk prog_14_method_73_code e = true := List.all_eq_true.mp (by decide +kernel)
set_option maxRecDepth 100000 in
theorem am_ok218_0 : ∀ e ∈ am_c218_0, am_ok ⟨"TagRoundsModel", "pass", "(IIIZ)I"⟩ 218 e = true := List.all_eq_true.mp (by decide +kernel)
set_option maxRecDepth 100000 in
theorem am_de218_1 : ∀ e ∈ am_c218_1, am_deOk prog_14_method_73_code e = true := List.all_eq_true.mp (by decide +kernel)
set_option maxRecDepth 100000 in
theorem am_ok218_1 : ∀ e ∈ am_c218_1, am_ok ⟨"TagRoundsModel", "pass", "(IIIZ)I"⟩ 218 e = true := List.all_eq_true.mp (by decide +kernel)
set_option maxRecDepth 100000 in
theorem am_de218 : ∀ e ∈ am_c218, am_deOk prog_14_method_73_code e = true := am_app am_de218_0 (am_de218_1)
set_option maxRecDepth 100000 in
theorem am_ok218 : ∀ e ∈ am_c218, am_ok ⟨"TagRoundsModel", "pass", "(IIIZ)I"⟩ 218 e = true := am_app am_ok218_0 (am_ok218_1)
set_option maxRecDepth 100000 in
theorem am_de219 : ∀ e ∈ am_c219, am_deOk prog_2_method_5_code e = true := List.all_eq_true.mp (by decide +kernel)
set_option maxRecDepth 100000 in
theorem am_ok219 : ∀ e ∈ am_c219, am_ok ⟨"TagRounds$Answer", "size", "()I"⟩ 219 e = true := List.all_eq_true.mp (by decide +kernel)
set_option maxRecDepth 100000 in
theorem am_de220 : ∀ e ∈ am_c220, am_deOk prog_2_method_6_code e = true := List.all_eq_true.mp (by decide +kernel)
set_option maxRecDepth 100000 in
theorem am_ok220 : ∀ e ∈ am_c220, am_ok ⟨"TagRounds$Answer", "wordAt", "(I)I"⟩ 220 e = true := List.all_eq_true.mp (by decide +kernel)
set_option maxRecDepth 100000 in
theorem am_de221 : ∀ e ∈ am_c221, am_deOk prog_1_method_22_code e = true := List.all_eq_true.mp (by decide +kernel)
set_option maxRecDepth 100000 in
theorem am_ok221 : ∀ e ∈ am_c221, am_ok ⟨"TagRounds", "heard", "(I)I"⟩ 221 e = true := List.all_eq_true.mp (by decide +kernel)
set_option maxRecDepth 100000 in
theorem am_de222 : ∀ e ∈ am_c222, am_deOk prog_14_method_74_code e = true := List.all_eq_true.mp (by decide +kernel)
set_option maxRecDepth 100000 in
theorem am_ok222 : ∀ e ∈ am_c222, am_ok ⟨"TagRoundsModel", "heard", "(I)I"⟩ 222 e = true := List.all_eq_true.mp (by decide +kernel)
set_option maxRecDepth 100000 in
theorem am_de223 : ∀ e ∈ am_c223, am_deOk prog_1_method_23_code e = true := List.all_eq_true.mp (by decide +kernel)
set_option maxRecDepth 100000 in
theorem am_ok223 : ∀ e ∈ am_c223, am_ok ⟨"TagRounds", "steer", "(III)I"⟩ 223 e = true := List.all_eq_true.mp (by decide +kernel)
set_option maxRecDepth 100000 in
theorem am_de224 : ∀ e ∈ am_c224, am_deOk method_23_code e = true := List.all_eq_true.mp (by decide +kernel)
set_option maxRecDepth 100000 in
theorem am_ok224 : ∀ e ∈ am_c224, am_ok ⟨"TagRoundsLaw", "steer", "(LTagRounds;III[J)I"⟩ 224 e = true := List.all_eq_true.mp (by decide +kernel)
set_option maxRecDepth 100000 in
theorem am_de225 : ∀ e ∈ am_c225, am_deOk prog_14_method_76_code e = true := List.all_eq_true.mp (by decide +kernel)
set_option maxRecDepth 100000 in
theorem am_ok225 : ∀ e ∈ am_c225, am_ok ⟨"TagRoundsModel", "steer", "(III)I"⟩ 225 e = true := List.all_eq_true.mp (by decide +kernel)
set_option maxRecDepth 100000 in
theorem am_de226 : ∀ e ∈ am_c226, am_deOk prog_10_method_4_code e = true := List.all_eq_true.mp (by decide +kernel)
set_option maxRecDepth 100000 in
theorem am_ok226 : ∀ e ∈ am_c226, am_ok ⟨"TagRounds$Reader", "beginRound", "()V"⟩ 226 e = true := List.all_eq_true.mp (by decide +kernel)
set_option maxRecDepth 100000 in
theorem am_de227 : ∀ e ∈ am_c227, am_deOk prog_10_method_3_code e = true := List.all_eq_true.mp (by decide +kernel)
set_option maxRecDepth 100000 in
theorem am_ok227 : ∀ e ∈ am_c227, am_ok ⟨"TagRounds$Reader", "aimedQ", "()I"⟩ 227 e = true := List.all_eq_true.mp (by decide +kernel)
set_option maxRecDepth 100000 in
theorem am_de228 : ∀ e ∈ am_c228, am_deOk prog_5_method_3_code e = true := List.all_eq_true.mp (by decide +kernel)
set_option maxRecDepth 100000 in
theorem am_ok228 : ∀ e ∈ am_c228, am_ok ⟨"TagRounds$Course", "setQ", "(I)V"⟩ 228 e = true := List.all_eq_true.mp (by decide +kernel)
set_option maxRecDepth 100000 in
theorem am_de229 : ∀ e ∈ am_c229, am_deOk prog_5_method_2_code e = true := List.all_eq_true.mp (by decide +kernel)
set_option maxRecDepth 100000 in
theorem am_ok229 : ∀ e ∈ am_c229, am_ok ⟨"TagRounds$Course", "begin", "(IIII)V"⟩ 229 e = true := List.all_eq_true.mp (by decide +kernel)
set_option maxRecDepth 100000 in
theorem am_de230 : ∀ e ∈ am_c230, am_deOk prog_10_method_5_code e = true := List.all_eq_true.mp (by decide +kernel)
set_option maxRecDepth 100000 in
theorem am_ok230 : ∀ e ∈ am_c230, am_ok ⟨"TagRounds$Reader", "tally", "(I)V"⟩ 230 e = true := List.all_eq_true.mp (by decide +kernel)
set_option maxRecDepth 100000 in
theorem am_de231 : ∀ e ∈ am_c231, am_deOk prog_5_method_4_code e = true := List.all_eq_true.mp (by decide +kernel)
set_option maxRecDepth 100000 in
theorem am_ok231 : ∀ e ∈ am_c231, am_ok ⟨"TagRounds$Course", "note", "(I)V"⟩ 231 e = true := List.all_eq_true.mp (by decide +kernel)
set_option maxRecDepth 100000 in
theorem am_de232 : ∀ e ∈ am_c232, am_deOk prog_23_method_50_code e = true := List.all_eq_true.mp (by decide +kernel)
set_option maxRecDepth 100000 in
theorem am_ok232 : ∀ e ∈ am_c232, am_ok ⟨"java/lang/Math", "floorMod", "(II)I"⟩ 232 e = true := List.all_eq_true.mp (by decide +kernel)
set_option maxRecDepth 100000 in
theorem am_de233 : ∀ e ∈ am_c233, am_deOk prog_7_method_2_code e = true := List.all_eq_true.mp (by decide +kernel)
set_option maxRecDepth 100000 in
theorem am_ok233 : ∀ e ∈ am_c233, am_ok ⟨"TagRounds$Journal", "note", "(IIII)V"⟩ 233 e = true := List.all_eq_true.mp (by decide +kernel)
set_option maxRecDepth 100000 in
theorem am_de234 : ∀ e ∈ am_c234, am_deOk prog_1_method_45_code e = true := List.all_eq_true.mp (by decide +kernel)
set_option maxRecDepth 100000 in
theorem am_ok234 : ∀ e ∈ am_c234, am_ok ⟨"TagRounds", "acknowledge", "(ILTagRounds$Reader;I)V"⟩ 234 e = true := List.all_eq_true.mp (by decide +kernel)
set_option maxRecDepth 100000 in
theorem am_de235 : ∀ e ∈ am_c235, am_deOk prog_5_method_5_code e = true := List.all_eq_true.mp (by decide +kernel)
set_option maxRecDepth 100000 in
theorem am_ok235 : ∀ e ∈ am_c235, am_ok ⟨"TagRounds$Course", "prepare", "(LTagRounds$Command;I)Z"⟩ 235 e = true := List.all_eq_true.mp (by decide +kernel)
set_option maxRecDepth 100000 in
theorem am_de236_0 : ∀ e ∈ am_c236_0, am_deOk prog_1_method_24_code e = true := List.all_eq_true.mp (by decide +kernel)
set_option maxRecDepth 100000 in
theorem am_ok236_0 : ∀ e ∈ am_c236_0, am_ok ⟨"TagRounds", "round", "(IIIII)I"⟩ 236 e = true := List.all_eq_true.mp (by decide +kernel)
set_option maxRecDepth 100000 in
theorem am_de236_1 : ∀ e ∈ am_c236_1, am_deOk prog_1_method_24_code e = true := List.all_eq_true.mp (by decide +kernel)
set_option maxRecDepth 100000 in
theorem am_ok236_1 : ∀ e ∈ am_c236_1, am_ok ⟨"TagRounds", "round", "(IIIII)I"⟩ 236 e = true := List.all_eq_true.mp (by decide +kernel)
set_option maxRecDepth 100000 in
theorem am_de236 : ∀ e ∈ am_c236, am_deOk prog_1_method_24_code e = true := am_app am_de236_0 (am_de236_1)
set_option maxRecDepth 100000 in
theorem am_ok236 : ∀ e ∈ am_c236, am_ok ⟨"TagRounds", "round", "(IIIII)I"⟩ 236 e = true := am_app am_ok236_0 (am_ok236_1)
set_option maxRecDepth 100000 in
theorem am_de237 : ∀ e ∈ am_c237, am_deOk method_24_code e = true := List.all_eq_true.mp (by decide +kernel)
set_option maxRecDepth 100000 in
theorem am_ok237 : ∀ e ∈ am_c237, am_ok ⟨"TagRoundsLaw", "round", "(LTagRounds;IIIII[J)I"⟩ 237 e = true := List.all_eq_true.mp (by decide +kernel)
set_option maxRecDepth 100000 in
theorem am_de238 : ∀ e ∈ am_c238, am_deOk prog_14_method_77_code e = true := List.all_eq_true.mp (by decide +kernel)
set_option maxRecDepth 100000 in
theorem am_ok238 : ∀ e ∈ am_c238, am_ok ⟨"TagRoundsModel", "aimed", "(I)I"⟩ 238 e = true := List.all_eq_true.mp (by decide +kernel)
set_option maxRecDepth 100000 in
theorem am_de239 : ∀ e ∈ am_c239, am_deOk prog_14_method_75_code e = true := List.all_eq_true.mp (by decide +kernel)
set_option maxRecDepth 100000 in
theorem am_ok239 : ∀ e ∈ am_c239, am_ok ⟨"TagRoundsModel", "logs", "(IIII)V"⟩ 239 e = true := List.all_eq_true.mp (by decide +kernel)
set_option maxRecDepth 100000 in
theorem am_de240 : ∀ e ∈ am_c240, am_deOk prog_14_method_78_code e = true := List.all_eq_true.mp (by decide +kernel)
set_option maxRecDepth 100000 in
theorem am_ok240 : ∀ e ∈ am_c240, am_ok ⟨"TagRoundsModel", "knows", "(II)Z"⟩ 240 e = true := List.all_eq_true.mp (by decide +kernel)
set_option maxRecDepth 100000 in
theorem am_de241_0 : ∀ e ∈ am_c241_0, am_deOk prog_14_method_79_code e = true := List.all_eq_true.mp (by decide +kernel)
set_option maxRecDepth 100000 in
theorem am_ok241_0 : ∀ e ∈ am_c241_0, am_ok ⟨"TagRoundsModel", "steers", "(III)Z"⟩ 241 e = true := List.all_eq_true.mp (by decide +kernel)
set_option maxRecDepth 100000 in
theorem am_de241_1 : ∀ e ∈ am_c241_1, am_deOk prog_14_method_79_code e = true := List.all_eq_true.mp (by decide +kernel)
set_option maxRecDepth 100000 in
theorem am_ok241_1 : ∀ e ∈ am_c241_1, am_ok ⟨"TagRoundsModel", "steers", "(III)Z"⟩ 241 e = true := List.all_eq_true.mp (by decide +kernel)
set_option maxRecDepth 100000 in
theorem am_de241 : ∀ e ∈ am_c241, am_deOk prog_14_method_79_code e = true := am_app am_de241_0 (am_de241_1)
set_option maxRecDepth 100000 in
theorem am_ok241 : ∀ e ∈ am_c241, am_ok ⟨"TagRoundsModel", "steers", "(III)Z"⟩ 241 e = true := am_app am_ok241_0 (am_ok241_1)
set_option maxRecDepth 100000 in
theorem am_de242_0 : ∀ e ∈ am_c242_0, am_deOk prog_14_method_80_code e = true := List.all_eq_true.mp (by decide +kernel)
set_option maxRecDepth 100000 in
theorem am_ok242_0 : ∀ e ∈ am_c242_0, am_ok ⟨"TagRoundsModel", "round", "(IIIII)I"⟩ 242 e = true := List.all_eq_true.mp (by decide +kernel)
set_option maxRecDepth 100000 in
theorem am_de242_1 : ∀ e ∈ am_c242_1, am_deOk prog_14_method_80_code e = true := List.all_eq_true.mp (by decide +kernel)
set_option maxRecDepth 100000 in
theorem am_ok242_1 : ∀ e ∈ am_c242_1, am_ok ⟨"TagRoundsModel", "round", "(IIIII)I"⟩ 242 e = true := List.all_eq_true.mp (by decide +kernel)
set_option maxRecDepth 100000 in
theorem am_de242_2 : ∀ e ∈ am_c242_2, am_deOk prog_14_method_80_code e = true := List.all_eq_true.mp (by decide +kernel)
set_option maxRecDepth 100000 in
theorem am_ok242_2 : ∀ e ∈ am_c242_2, am_ok ⟨"TagRoundsModel", "round", "(IIIII)I"⟩ 242 e = true := List.all_eq_true.mp (by decide +kernel)
set_option maxRecDepth 100000 in
theorem am_de242 : ∀ e ∈ am_c242, am_deOk prog_14_method_80_code e = true := am_app am_de242_0 (am_app am_de242_1 (am_de242_2))
set_option maxRecDepth 100000 in
theorem am_ok242 : ∀ e ∈ am_c242, am_ok ⟨"TagRoundsModel", "round", "(IIIII)I"⟩ 242 e = true := am_app am_ok242_0 (am_app am_ok242_1 (am_ok242_2))
set_option maxRecDepth 100000 in
theorem am_de243 : ∀ e ∈ am_c243, am_deOk prog_11_method_4_code e = true := List.all_eq_true.mp (by decide +kernel)
set_option maxRecDepth 100000 in
theorem am_ok243 : ∀ e ∈ am_c243, am_ok ⟨"TagRounds$Signal", "bitAt", "(I)I"⟩ 243 e = true := List.all_eq_true.mp (by decide +kernel)
set_option maxRecDepth 100000 in
theorem am_de244 : ∀ e ∈ am_c244, am_deOk prog_1_method_25_code e = true := List.all_eq_true.mp (by decide +kernel)
set_option maxRecDepth 100000 in
theorem am_ok244 : ∀ e ∈ am_c244, am_ok ⟨"TagRounds", "sent", "(I)I"⟩ 244 e = true := List.all_eq_true.mp (by decide +kernel)
set_option maxRecDepth 100000 in
theorem am_de245 : ∀ e ∈ am_c245, am_deOk prog_14_method_51_code e = true := List.all_eq_true.mp (by decide +kernel)
set_option maxRecDepth 100000 in
theorem am_ok245 : ∀ e ∈ am_c245, am_ok ⟨"TagRoundsModel", "sent", "(I)I"⟩ 245 e = true := List.all_eq_true.mp (by decide +kernel)
set_option maxRecDepth 100000 in
theorem am_de246 : ∀ e ∈ am_c246, am_deOk prog_30_method_103_code e = true := List.all_eq_true.mp (by decide +kernel)
set_option maxRecDepth 100000 in
theorem am_ok246 : ∀ e ∈ am_c246, am_ok ⟨"java/util/Arrays", "fill", "([II)V"⟩ 246 e = true := List.all_eq_true.mp (by decide +kernel)
set_option maxRecDepth 100000 in
theorem am_de247 : ∀ e ∈ am_c247, am_deOk prog_12_method_10_code e = true := List.all_eq_true.mp (by decide +kernel)
set_option maxRecDepth 100000 in
theorem am_ok247 : ∀ e ∈ am_c247, am_ok ⟨"TagRounds$Tag", "wouldDraw", "(II)Z"⟩ 247 e = true := List.all_eq_true.mp (by decide +kernel)
set_option maxRecDepth 100000 in
theorem am_de248 : ∀ e ∈ am_c248, am_deOk prog_12_method_9_code e = true := List.all_eq_true.mp (by decide +kernel)
set_option maxRecDepth 100000 in
theorem am_ok248 : ∀ e ∈ am_c248, am_ok ⟨"TagRounds$Tag", "foreseenSlot", "(I)I"⟩ 248 e = true := List.all_eq_true.mp (by decide +kernel)
set_option maxRecDepth 100000 in
theorem am_de249 : ∀ e ∈ am_c249, am_deOk prog_1_method_59_code e = true := List.all_eq_true.mp (by decide +kernel)
set_option maxRecDepth 100000 in
theorem am_ok249 : ∀ e ∈ am_c249, am_ok ⟨"TagRounds", "foreseeSlots", "(IIII)V"⟩ 249 e = true := List.all_eq_true.mp (by decide +kernel)
set_option maxRecDepth 100000 in
theorem am_de250 : ∀ e ∈ am_c250, am_deOk prog_1_method_60_code e = true := List.all_eq_true.mp (by decide +kernel)
set_option maxRecDepth 100000 in
theorem am_ok250 : ∀ e ∈ am_c250, am_ok ⟨"TagRounds", "tagsIn", "(I)I"⟩ 250 e = true := List.all_eq_true.mp (by decide +kernel)
set_option maxRecDepth 100000 in
theorem am_de251 : ∀ e ∈ am_c251, am_deOk prog_1_method_63_code e = true := List.all_eq_true.mp (by decide +kernel)
set_option maxRecDepth 100000 in
theorem am_ok251 : ∀ e ∈ am_c251, am_ok ⟨"TagRounds", "firstSingle", "()I"⟩ 251 e = true := List.all_eq_true.mp (by decide +kernel)
set_option maxRecDepth 100000 in
theorem am_de252 : ∀ e ∈ am_c252, am_deOk prog_1_method_62_code e = true := List.all_eq_true.mp (by decide +kernel)
set_option maxRecDepth 100000 in
theorem am_ok252 : ∀ e ∈ am_c252, am_ok ⟨"TagRounds", "wasAhead", "(I)Z"⟩ 252 e = true := List.all_eq_true.mp (by decide +kernel)
set_option maxRecDepth 100000 in
theorem am_de253 : ∀ e ∈ am_c253, am_deOk prog_1_method_61_code e = true := List.all_eq_true.mp (by decide +kernel)
set_option maxRecDepth 100000 in
theorem am_ok253 : ∀ e ∈ am_c253, am_ok ⟨"TagRounds", "countSlots", "(Z)I"⟩ 253 e = true := List.all_eq_true.mp (by decide +kernel)
set_option maxRecDepth 100000 in
theorem am_de254 : ∀ e ∈ am_c254, am_deOk prog_1_method_26_code e = true := List.all_eq_true.mp (by decide +kernel)
set_option maxRecDepth 100000 in
theorem am_ok254 : ∀ e ∈ am_c254, am_ok ⟨"TagRounds", "foresee", "(IIIII)I"⟩ 254 e = true := List.all_eq_true.mp (by decide +kernel)
set_option maxRecDepth 100000 in
theorem am_de255 : ∀ e ∈ am_c255, am_deOk method_25_code e = true := List.all_eq_true.mp (by decide +kernel)
set_option maxRecDepth 100000 in
theorem am_ok255 : ∀ e ∈ am_c255, am_ok ⟨"TagRoundsLaw", "foresee", "(LTagRounds;IIIII[J)I"⟩ 255 e = true := List.all_eq_true.mp (by decide +kernel)
set_option maxRecDepth 100000 in
theorem am_de256 : ∀ e ∈ am_c256, am_deOk prog_14_method_85_code e = true := List.all_eq_true.mp (by decide +kernel)
set_option maxRecDepth 100000 in
theorem am_ok256 : ∀ e ∈ am_c256, am_ok ⟨"TagRoundsModel", "isNoRound", "(III)Z"⟩ 256 e = true := List.all_eq_true.mp (by decide +kernel)
set_option maxRecDepth 100000 in
theorem am_de257 : ∀ e ∈ am_c257, am_deOk prog_14_method_81_code e = true := List.all_eq_true.mp (by decide +kernel)
set_option maxRecDepth 100000 in
theorem am_ok257 : ∀ e ∈ am_c257, am_ok ⟨"TagRoundsModel", "foresees", "(III)V"⟩ 257 e = true := List.all_eq_true.mp (by decide +kernel)
set_option maxRecDepth 100000 in
theorem am_de258 : ∀ e ∈ am_c258, am_deOk prog_14_method_82_code e = true := List.all_eq_true.mp (by decide +kernel)
set_option maxRecDepth 100000 in
theorem am_ok258 : ∀ e ∈ am_c258, am_ok ⟨"TagRoundsModel", "manyIn", "(II)I"⟩ 258 e = true := List.all_eq_true.mp (by decide +kernel)
set_option maxRecDepth 100000 in
theorem am_de259 : ∀ e ∈ am_c259, am_deOk prog_14_method_84_code e = true := List.all_eq_true.mp (by decide +kernel)
set_option maxRecDepth 100000 in
theorem am_ok259 : ∀ e ∈ am_c259, am_ok ⟨"TagRoundsModel", "firstSingle", "(I)I"⟩ 259 e = true := List.all_eq_true.mp (by decide +kernel)
set_option maxRecDepth 100000 in
theorem am_de260 : ∀ e ∈ am_c260, am_deOk prog_14_method_83_code e = true := List.all_eq_true.mp (by decide +kernel)
set_option maxRecDepth 100000 in
theorem am_ok260 : ∀ e ∈ am_c260, am_ok ⟨"TagRoundsModel", "slotsWith", "(IZ)I"⟩ 260 e = true := List.all_eq_true.mp (by decide +kernel)
set_option maxRecDepth 100000 in
theorem am_de261 : ∀ e ∈ am_c261, am_deOk prog_14_method_86_code e = true := List.all_eq_true.mp (by decide +kernel)
set_option maxRecDepth 100000 in
theorem am_ok261 : ∀ e ∈ am_c261, am_ok ⟨"TagRoundsModel", "foresee", "(IIIII)I"⟩ 261 e = true := List.all_eq_true.mp (by decide +kernel)
set_option maxRecDepth 100000 in
theorem am_de262 : ∀ e ∈ am_c262, am_deOk prog_1_method_27_code e = true := List.all_eq_true.mp (by decide +kernel)
set_option maxRecDepth 100000 in
theorem am_ok262 : ∀ e ∈ am_c262, am_ok ⟨"TagRounds", "wise", "(III)I"⟩ 262 e = true := List.all_eq_true.mp (by decide +kernel)
set_option maxRecDepth 100000 in
theorem am_de263 : ∀ e ∈ am_c263, am_deOk method_26_code e = true := List.all_eq_true.mp (by decide +kernel)
set_option maxRecDepth 100000 in
theorem am_ok263 : ∀ e ∈ am_c263, am_ok ⟨"TagRoundsLaw", "wise", "(LTagRounds;III[J)I"⟩ 263 e = true := List.all_eq_true.mp (by decide +kernel)
set_option maxRecDepth 100000 in
theorem am_de264 : ∀ e ∈ am_c264, am_deOk prog_14_method_87_code e = true := List.all_eq_true.mp (by decide +kernel)
set_option maxRecDepth 100000 in
theorem am_ok264 : ∀ e ∈ am_c264, am_ok ⟨"TagRoundsModel", "wise", "(III)I"⟩ 264 e = true := List.all_eq_true.mp (by decide +kernel)
set_option maxRecDepth 100000 in
theorem am_de265 : ∀ e ∈ am_c265, am_deOk prog_1_method_55_code e = true := List.all_eq_true.mp (by decide +kernel)
set_option maxRecDepth 100000 in
theorem am_ok265 : ∀ e ∈ am_c265, am_ok ⟨"TagRounds", "countTicksByBusy", "()V"⟩ 265 e = true := List.all_eq_true.mp (by decide +kernel)
set_option maxRecDepth 100000 in
theorem am_de266 : ∀ e ∈ am_c266, am_deOk prog_1_method_56_code e = true := List.all_eq_true.mp (by decide +kernel)
set_option maxRecDepth 100000 in
theorem am_ok266 : ∀ e ∈ am_c266, am_ok ⟨"TagRounds", "chancesOf", "(ILTagRounds$Tag;)I"⟩ 266 e = true := List.all_eq_true.mp (by decide +kernel)
set_option maxRecDepth 100000 in
theorem am_de267 : ∀ e ∈ am_c267, am_deOk prog_1_method_28_code e = true := List.all_eq_true.mp (by decide +kernel)
set_option maxRecDepth 100000 in
theorem am_ok267 : ∀ e ∈ am_c267, am_ok ⟨"TagRounds", "chances", "(II)I"⟩ 267 e = true := List.all_eq_true.mp (by decide +kernel)
set_option maxRecDepth 100000 in
theorem am_de268 : ∀ e ∈ am_c268, am_deOk method_27_code e = true := List.all_eq_true.mp (by decide +kernel)
set_option maxRecDepth 100000 in
theorem am_ok268 : ∀ e ∈ am_c268, am_ok ⟨"TagRoundsLaw", "chances", "(LTagRounds;II[J)I"⟩ 268 e = true := List.all_eq_true.mp (by decide +kernel)
set_option maxRecDepth 100000 in
theorem am_de269 : ∀ e ∈ am_c269, am_deOk prog_14_method_88_code e = true := List.all_eq_true.mp (by decide +kernel)
set_option maxRecDepth 100000 in
theorem am_ok269 : ∀ e ∈ am_c269, am_ok ⟨"TagRoundsModel", "chancesOf", "(II)I"⟩ 269 e = true := List.all_eq_true.mp (by decide +kernel)
set_option maxRecDepth 100000 in
theorem am_de270 : ∀ e ∈ am_c270, am_deOk prog_14_method_89_code e = true := List.all_eq_true.mp (by decide +kernel)
set_option maxRecDepth 100000 in
theorem am_ok270 : ∀ e ∈ am_c270, am_ok ⟨"TagRoundsModel", "chances", "(II)I"⟩ 270 e = true := List.all_eq_true.mp (by decide +kernel)
set_option maxRecDepth 100000 in
theorem am_de271 : ∀ e ∈ am_c271, am_deOk prog_1_method_66_code e = true := List.all_eq_true.mp (by decide +kernel)
set_option maxRecDepth 100000 in
theorem am_ok271 : ∀ e ∈ am_c271, am_ok ⟨"TagRounds", "rivalsOf", "(I)I"⟩ 271 e = true := List.all_eq_true.mp (by decide +kernel)
set_option maxRecDepth 100000 in
theorem am_de272 : ∀ e ∈ am_c272, am_deOk prog_1_method_67_code e = true := List.all_eq_true.mp (by decide +kernel)
set_option maxRecDepth 100000 in
theorem am_ok272 : ∀ e ∈ am_c272, am_ok ⟨"TagRounds", "clearTick", "(I)I"⟩ 272 e = true := List.all_eq_true.mp (by decide +kernel)
set_option maxRecDepth 100000 in
theorem am_de273 : ∀ e ∈ am_c273, am_deOk prog_1_method_70_code e = true := List.all_eq_true.mp (by decide +kernel)
set_option maxRecDepth 100000 in
theorem am_ok273 : ∀ e ∈ am_c273, am_ok ⟨"TagRounds", "colourBy", "(II)V"⟩ 273 e = true := List.all_eq_true.mp (by decide +kernel)
set_option maxRecDepth 100000 in
theorem am_de274 : ∀ e ∈ am_c274, am_deOk prog_1_method_71_code e = true := List.all_eq_true.mp (by decide +kernel)
set_option maxRecDepth 100000 in
theorem am_ok274 : ∀ e ∈ am_c274, am_ok ⟨"TagRounds", "isProper", "()Z"⟩ 274 e = true := List.all_eq_true.mp (by decide +kernel)
set_option maxRecDepth 100000 in
theorem am_de275 : ∀ e ∈ am_c275, am_deOk prog_1_method_69_code e = true := List.all_eq_true.mp (by decide +kernel)
set_option maxRecDepth 100000 in
theorem am_ok275 : ∀ e ∈ am_c275, am_ok ⟨"TagRounds", "colourWith", "(I)Z"⟩ 275 e = true := List.all_eq_true.mp (by decide +kernel)
set_option maxRecDepth 100000 in
theorem am_de276 : ∀ e ∈ am_c276, am_deOk prog_1_method_68_code e = true := List.all_eq_true.mp (by decide +kernel)
set_option maxRecDepth 100000 in
theorem am_ok276 : ∀ e ∈ am_c276, am_ok ⟨"TagRounds", "plan", "()I"⟩ 276 e = true := List.all_eq_true.mp (by decide +kernel)
set_option maxRecDepth 100000 in
theorem am_de277 : ∀ e ∈ am_c277, am_deOk prog_1_method_72_code e = true := List.all_eq_true.mp (by decide +kernel)
set_option maxRecDepth 100000 in
theorem am_ok277 : ∀ e ∈ am_c277, am_ok ⟨"TagRounds", "colourOf", "(I)I"⟩ 277 e = true := List.all_eq_true.mp (by decide +kernel)
set_option maxRecDepth 100000 in
theorem am_de278 : ∀ e ∈ am_c278, am_deOk prog_1_method_51_code e = true := List.all_eq_true.mp (by decide +kernel)
set_option maxRecDepth 100000 in
theorem am_ok278 : ∀ e ∈ am_c278, am_ok ⟨"TagRounds", "reachedBits", "(I)I"⟩ 278 e = true := List.all_eq_true.mp (by decide +kernel)
set_option maxRecDepth 100000 in
theorem am_de279 : ∀ e ∈ am_c279, am_deOk prog_10_method_6_code e = true := List.all_eq_true.mp (by decide +kernel)
set_option maxRecDepth 100000 in
theorem am_ok279 : ∀ e ∈ am_c279, am_ok ⟨"TagRounds$Reader", "told", "(I)I"⟩ 279 e = true := List.all_eq_true.mp (by decide +kernel)
set_option maxRecDepth 100000 in
theorem am_de280 : ∀ e ∈ am_c280, am_deOk prog_1_method_29_code e = true := List.all_eq_true.mp (by decide +kernel)
set_option maxRecDepth 100000 in
theorem am_ok280 : ∀ e ∈ am_c280, am_ok ⟨"TagRounds", "reader", "(II)I"⟩ 280 e = true := List.all_eq_true.mp (by decide +kernel)
set_option maxRecDepth 100000 in
theorem am_de281 : ∀ e ∈ am_c281, am_deOk method_28_code e = true := List.all_eq_true.mp (by decide +kernel)
set_option maxRecDepth 100000 in
theorem am_ok281 : ∀ e ∈ am_c281, am_ok ⟨"TagRoundsLaw", "reader", "(LTagRounds;II[J)I"⟩ 281 e = true := List.all_eq_true.mp (by decide +kernel)
set_option maxRecDepth 100000 in
theorem am_de282 : ∀ e ∈ am_c282, am_deOk prog_14_method_91_code e = true := List.all_eq_true.mp (by decide +kernel)
set_option maxRecDepth 100000 in
theorem am_ok282 : ∀ e ∈ am_c282, am_ok ⟨"TagRoundsModel", "reachedBy", "(IZ)I"⟩ 282 e = true := List.all_eq_true.mp (by decide +kernel)
set_option maxRecDepth 100000 in
theorem am_de283 : ∀ e ∈ am_c283, am_deOk prog_14_method_92_code e = true := List.all_eq_true.mp (by decide +kernel)
set_option maxRecDepth 100000 in
theorem am_ok283 : ∀ e ∈ am_c283, am_ok ⟨"TagRoundsModel", "areApart", "(II)Z"⟩ 283 e = true := List.all_eq_true.mp (by decide +kernel)
set_option maxRecDepth 100000 in
theorem am_de284 : ∀ e ∈ am_c284, am_deOk prog_14_method_97_code e = true := List.all_eq_true.mp (by decide +kernel)
set_option maxRecDepth 100000 in
theorem am_ok284 : ∀ e ∈ am_c284, am_ok ⟨"TagRoundsModel", "clearOf", "(I)I"⟩ 284 e = true := List.all_eq_true.mp (by decide +kernel)
set_option maxRecDepth 100000 in
theorem am_de285 : ∀ e ∈ am_c285, am_deOk prog_14_method_93_code e = true := List.all_eq_true.mp (by decide +kernel)
set_option maxRecDepth 100000 in
theorem am_ok285 : ∀ e ∈ am_c285, am_ok ⟨"TagRoundsModel", "colourOf", "(II)I"⟩ 285 e = true := List.all_eq_true.mp (by decide +kernel)
set_option maxRecDepth 100000 in
theorem am_de286 : ∀ e ∈ am_c286, am_deOk prog_14_method_94_code e = true := List.all_eq_true.mp (by decide +kernel)
set_option maxRecDepth 100000 in
theorem am_ok286 : ∀ e ∈ am_c286, am_ok ⟨"TagRoundsModel", "parts", "(I)Z"⟩ 286 e = true := List.all_eq_true.mp (by decide +kernel)
set_option maxRecDepth 100000 in
theorem am_de287 : ∀ e ∈ am_c287, am_deOk prog_14_method_5_code e = true := List.all_eq_true.mp (by decide +kernel)
set_option maxRecDepth 100000 in
theorem am_ok287 : ∀ e ∈ am_c287, am_ok ⟨"TagRoundsModel", "bits", "(I)I"⟩ 287 e = true := List.all_eq_true.mp (by decide +kernel)
set_option maxRecDepth 100000 in
theorem am_de288 : ∀ e ∈ am_c288, am_deOk prog_14_method_95_code e = true := List.all_eq_true.mp (by decide +kernel)
set_option maxRecDepth 100000 in
theorem am_ok288 : ∀ e ∈ am_c288, am_ok ⟨"TagRoundsModel", "coloursIn", "(I)I"⟩ 288 e = true := List.all_eq_true.mp (by decide +kernel)
set_option maxRecDepth 100000 in
theorem am_de289 : ∀ e ∈ am_c289, am_deOk prog_14_method_96_code e = true := List.all_eq_true.mp (by decide +kernel)
set_option maxRecDepth 100000 in
theorem am_ok289 : ∀ e ∈ am_c289, am_ok ⟨"TagRoundsModel", "plan", "()I"⟩ 289 e = true := List.all_eq_true.mp (by decide +kernel)
set_option maxRecDepth 100000 in
theorem am_de290_0 : ∀ e ∈ am_c290_0, am_deOk prog_14_method_98_code e = true := List.all_eq_true.mp (by decide +kernel)
set_option maxRecDepth 100000 in
theorem am_ok290_0 : ∀ e ∈ am_c290_0, am_ok ⟨"TagRoundsModel", "reader", "(II)I"⟩ 290 e = true := List.all_eq_true.mp (by decide +kernel)
set_option maxRecDepth 100000 in
theorem am_de290_1 : ∀ e ∈ am_c290_1, am_deOk prog_14_method_98_code e = true := List.all_eq_true.mp (by decide +kernel)
set_option maxRecDepth 100000 in
theorem am_ok290_1 : ∀ e ∈ am_c290_1, am_ok ⟨"TagRoundsModel", "reader", "(II)I"⟩ 290 e = true := List.all_eq_true.mp (by decide +kernel)
set_option maxRecDepth 100000 in
theorem am_de290 : ∀ e ∈ am_c290, am_deOk prog_14_method_98_code e = true := am_app am_de290_0 (am_de290_1)
set_option maxRecDepth 100000 in
theorem am_ok290 : ∀ e ∈ am_c290, am_ok ⟨"TagRoundsModel", "reader", "(II)I"⟩ 290 e = true := am_app am_ok290_0 (am_ok290_1)
set_option maxRecDepth 100000 in
theorem am_de291 : ∀ e ∈ am_c291, am_deOk prog_1_method_57_code e = true := List.all_eq_true.mp (by decide +kernel)
set_option maxRecDepth 100000 in
theorem am_ok291 : ∀ e ∈ am_c291, am_ok ⟨"TagRounds", "likeliestReader", "(LTagRounds$Tag;)I"⟩ 291 e = true := List.all_eq_true.mp (by decide +kernel)
set_option maxRecDepth 100000 in
theorem am_de292_0 : ∀ e ∈ am_c292_0, am_deOk prog_12_method_11_code e = true := List.all_eq_true.mp (by decide +kernel)
set_option maxRecDepth 100000 in
theorem am_ok292_0 : ∀ e ∈ am_c292_0, am_ok ⟨"TagRounds$Tag", "told", "(I)I"⟩ 292 e = true := List.all_eq_true.mp (by decide +kernel)
set_option maxRecDepth 100000 in
theorem am_de292_1 : ∀ e ∈ am_c292_1, am_deOk prog_12_method_11_code e = true := List.all_eq_true.mp (by decide +kernel)
set_option maxRecDepth 100000 in
theorem am_ok292_1 : ∀ e ∈ am_c292_1, am_ok ⟨"TagRounds$Tag", "told", "(I)I"⟩ 292 e = true := List.all_eq_true.mp (by decide +kernel)
set_option maxRecDepth 100000 in
theorem am_de292 : ∀ e ∈ am_c292, am_deOk prog_12_method_11_code e = true := am_app am_de292_0 (am_de292_1)
set_option maxRecDepth 100000 in
theorem am_ok292 : ∀ e ∈ am_c292, am_ok ⟨"TagRounds$Tag", "told", "(I)I"⟩ 292 e = true := am_app am_ok292_0 (am_ok292_1)
set_option maxRecDepth 100000 in
theorem am_de293 : ∀ e ∈ am_c293, am_deOk prog_1_method_30_code e = true := List.all_eq_true.mp (by decide +kernel)
set_option maxRecDepth 100000 in
theorem am_ok293 : ∀ e ∈ am_c293, am_ok ⟨"TagRounds", "tag", "(II)I"⟩ 293 e = true := List.all_eq_true.mp (by decide +kernel)
set_option maxRecDepth 100000 in
theorem am_de294 : ∀ e ∈ am_c294, am_deOk method_29_code e = true := List.all_eq_true.mp (by decide +kernel)
set_option maxRecDepth 100000 in
theorem am_ok294 : ∀ e ∈ am_c294, am_ok ⟨"TagRoundsLaw", "tag", "(LTagRounds;II[J)I"⟩ 294 e = true := List.all_eq_true.mp (by decide +kernel)
set_option maxRecDepth 100000 in
theorem am_de295 : ∀ e ∈ am_c295, am_deOk prog_14_method_99_code e = true := List.all_eq_true.mp (by decide +kernel)
set_option maxRecDepth 100000 in
theorem am_ok295 : ∀ e ∈ am_c295, am_ok ⟨"TagRoundsModel", "isAway", "(I)Z"⟩ 295 e = true := List.all_eq_true.mp (by decide +kernel)
set_option maxRecDepth 100000 in
theorem am_de296 : ∀ e ∈ am_c296, am_deOk prog_14_method_90_code e = true := List.all_eq_true.mp (by decide +kernel)
set_option maxRecDepth 100000 in
theorem am_ok296 : ∀ e ∈ am_c296, am_ok ⟨"TagRoundsModel", "nearest", "(I)I"⟩ 296 e = true := List.all_eq_true.mp (by decide +kernel)
set_option maxRecDepth 100000 in
theorem am_de297_0 : ∀ e ∈ am_c297_0, am_deOk prog_14_method_100_code e = true := List.all_eq_true.mp (by decide +kernel)
set_option maxRecDepth 100000 in
theorem am_ok297_0 : ∀ e ∈ am_c297_0, am_ok ⟨"TagRoundsModel", "tag", "(II)I"⟩ 297 e = true := List.all_eq_true.mp (by decide +kernel)
set_option maxRecDepth 100000 in
theorem am_de297_1 : ∀ e ∈ am_c297_1, am_deOk prog_14_method_100_code e = true := List.all_eq_true.mp (by decide +kernel)
set_option maxRecDepth 100000 in
theorem am_ok297_1 : ∀ e ∈ am_c297_1, am_ok ⟨"TagRoundsModel", "tag", "(II)I"⟩ 297 e = true := List.all_eq_true.mp (by decide +kernel)
set_option maxRecDepth 100000 in
theorem am_de297 : ∀ e ∈ am_c297, am_deOk prog_14_method_100_code e = true := am_app am_de297_0 (am_de297_1)
set_option maxRecDepth 100000 in
theorem am_ok297 : ∀ e ∈ am_c297, am_ok ⟨"TagRoundsModel", "tag", "(II)I"⟩ 297 e = true := am_app am_ok297_0 (am_ok297_1)
set_option maxRecDepth 100000 in
theorem am_de298 : ∀ e ∈ am_c298, am_deOk prog_1_method_31_code e = true := List.all_eq_true.mp (by decide +kernel)
set_option maxRecDepth 100000 in
theorem am_ok298 : ∀ e ∈ am_c298, am_ok ⟨"TagRounds", "flag", "(II)I"⟩ 298 e = true := List.all_eq_true.mp (by decide +kernel)
set_option maxRecDepth 100000 in
theorem am_de299 : ∀ e ∈ am_c299, am_deOk method_30_code e = true := List.all_eq_true.mp (by decide +kernel)
set_option maxRecDepth 100000 in
theorem am_ok299 : ∀ e ∈ am_c299, am_ok ⟨"TagRoundsLaw", "flag", "(LTagRounds;II[J)I"⟩ 299 e = true := List.all_eq_true.mp (by decide +kernel)
set_option maxRecDepth 100000 in
theorem am_de300 : ∀ e ∈ am_c300, am_deOk prog_14_method_101_code e = true := List.all_eq_true.mp (by decide +kernel)
set_option maxRecDepth 100000 in
theorem am_ok300 : ∀ e ∈ am_c300, am_ok ⟨"TagRoundsModel", "flag", "(II)I"⟩ 300 e = true := List.all_eq_true.mp (by decide +kernel)
set_option maxRecDepth 100000 in
theorem am_de301 : ∀ e ∈ am_c301, am_deOk prog_12_method_4_code e = true := List.all_eq_true.mp (by decide +kernel)
set_option maxRecDepth 100000 in
theorem am_ok301 : ∀ e ∈ am_c301, am_ok ⟨"TagRounds$Tag", "ticksLeftOf", "(I)I"⟩ 301 e = true := List.all_eq_true.mp (by decide +kernel)
set_option maxRecDepth 100000 in
theorem am_de302 : ∀ e ∈ am_c302, am_deOk prog_1_method_32_code e = true := List.all_eq_true.mp (by decide +kernel)
set_option maxRecDepth 100000 in
theorem am_ok302 : ∀ e ∈ am_c302, am_ok ⟨"TagRounds", "fades", "(II)I"⟩ 302 e = true := List.all_eq_true.mp (by decide +kernel)
set_option maxRecDepth 100000 in
theorem am_de303 : ∀ e ∈ am_c303, am_deOk method_31_code e = true := List.all_eq_true.mp (by decide +kernel)
set_option maxRecDepth 100000 in
theorem am_ok303 : ∀ e ∈ am_c303, am_ok ⟨"TagRoundsLaw", "fades", "(LTagRounds;II[J)I"⟩ 303 e = true := List.all_eq_true.mp (by decide +kernel)
set_option maxRecDepth 100000 in
theorem am_de304 : ∀ e ∈ am_c304, am_deOk prog_14_method_102_code e = true := List.all_eq_true.mp (by decide +kernel)
set_option maxRecDepth 100000 in
theorem am_ok304 : ∀ e ∈ am_c304, am_ok ⟨"TagRoundsModel", "fades", "(II)I"⟩ 304 e = true := List.all_eq_true.mp (by decide +kernel)
set_option maxRecDepth 100000 in
theorem am_de305 : ∀ e ∈ am_c305, am_deOk prog_1_method_33_code e = true := List.all_eq_true.mp (by decide +kernel)
set_option maxRecDepth 100000 in
theorem am_ok305 : ∀ e ∈ am_c305, am_ok ⟨"TagRounds", "word", "(III)I"⟩ 305 e = true := List.all_eq_true.mp (by decide +kernel)
set_option maxRecDepth 100000 in
theorem am_de306 : ∀ e ∈ am_c306, am_deOk method_32_code e = true := List.all_eq_true.mp (by decide +kernel)
set_option maxRecDepth 100000 in
theorem am_ok306 : ∀ e ∈ am_c306, am_ok ⟨"TagRoundsLaw", "word", "(LTagRounds;III[J)I"⟩ 306 e = true := List.all_eq_true.mp (by decide +kernel)
set_option maxRecDepth 100000 in
theorem am_de307 : ∀ e ∈ am_c307, am_deOk prog_14_method_103_code e = true := List.all_eq_true.mp (by decide +kernel)
set_option maxRecDepth 100000 in
theorem am_ok307 : ∀ e ∈ am_c307, am_ok ⟨"TagRoundsModel", "word", "(III)I"⟩ 307 e = true := List.all_eq_true.mp (by decide +kernel)
set_option maxRecDepth 100000 in
theorem am_de308 : ∀ e ∈ am_c308, am_deOk prog_1_method_34_code e = true := List.all_eq_true.mp (by decide +kernel)
set_option maxRecDepth 100000 in
theorem am_ok308 : ∀ e ∈ am_c308, am_ok ⟨"TagRounds", "mode", "(II)I"⟩ 308 e = true := List.all_eq_true.mp (by decide +kernel)
set_option maxRecDepth 100000 in
theorem am_de309 : ∀ e ∈ am_c309, am_deOk method_33_code e = true := List.all_eq_true.mp (by decide +kernel)
set_option maxRecDepth 100000 in
theorem am_ok309 : ∀ e ∈ am_c309, am_ok ⟨"TagRoundsLaw", "mode", "(LTagRounds;II[J)I"⟩ 309 e = true := List.all_eq_true.mp (by decide +kernel)
set_option maxRecDepth 100000 in
theorem am_de310 : ∀ e ∈ am_c310, am_deOk prog_14_method_104_code e = true := List.all_eq_true.mp (by decide +kernel)
set_option maxRecDepth 100000 in
theorem am_ok310 : ∀ e ∈ am_c310, am_ok ⟨"TagRoundsModel", "mode", "(II)I"⟩ 310 e = true := List.all_eq_true.mp (by decide +kernel)
set_option maxRecDepth 100000 in
theorem am_de311 : ∀ e ∈ am_c311, am_deOk prog_7_method_3_code e = true := List.all_eq_true.mp (by decide +kernel)
set_option maxRecDepth 100000 in
theorem am_ok311 : ∀ e ∈ am_c311, am_ok ⟨"TagRounds$Journal", "get", "(II)I"⟩ 311 e = true := List.all_eq_true.mp (by decide +kernel)
set_option maxRecDepth 100000 in
theorem am_de312 : ∀ e ∈ am_c312, am_deOk prog_1_method_35_code e = true := List.all_eq_true.mp (by decide +kernel)
set_option maxRecDepth 100000 in
theorem am_ok312 : ∀ e ∈ am_c312, am_ok ⟨"TagRounds", "log", "(II)I"⟩ 312 e = true := List.all_eq_true.mp (by decide +kernel)
set_option maxRecDepth 100000 in
theorem am_de313 : ∀ e ∈ am_c313, am_deOk method_34_code e = true := List.all_eq_true.mp (by decide +kernel)
set_option maxRecDepth 100000 in
theorem am_ok313 : ∀ e ∈ am_c313, am_ok ⟨"TagRoundsLaw", "log", "(LTagRounds;II[J)I"⟩ 313 e = true := List.all_eq_true.mp (by decide +kernel)
set_option maxRecDepth 100000 in
theorem am_de314 : ∀ e ∈ am_c314, am_deOk prog_14_method_105_code e = true := List.all_eq_true.mp (by decide +kernel)
set_option maxRecDepth 100000 in
theorem am_ok314 : ∀ e ∈ am_c314, am_ok ⟨"TagRoundsModel", "log", "(II)I"⟩ 314 e = true := List.all_eq_true.mp (by decide +kernel)
set_option maxRecDepth 100000 in
theorem am_de315 : ∀ e ∈ am_c315, am_deOk prog_1_method_36_code e = true := List.all_eq_true.mp (by decide +kernel)
set_option maxRecDepth 100000 in
theorem am_ok315 : ∀ e ∈ am_c315, am_ok ⟨"TagRounds", "left", "(II)I"⟩ 315 e = true := List.all_eq_true.mp (by decide +kernel)
set_option maxRecDepth 100000 in
theorem am_de316 : ∀ e ∈ am_c316, am_deOk method_35_code e = true := List.all_eq_true.mp (by decide +kernel)
set_option maxRecDepth 100000 in
theorem am_ok316 : ∀ e ∈ am_c316, am_ok ⟨"TagRoundsLaw", "left", "(LTagRounds;II[J)I"⟩ 316 e = true := List.all_eq_true.mp (by decide +kernel)
set_option maxRecDepth 100000 in
theorem am_de317 : ∀ e ∈ am_c317, am_deOk prog_14_method_106_code e = true := List.all_eq_true.mp (by decide +kernel)
set_option maxRecDepth 100000 in
theorem am_ok317 : ∀ e ∈ am_c317, am_ok ⟨"TagRoundsModel", "left", "(II)I"⟩ 317 e = true := List.all_eq_true.mp (by decide +kernel)
set_option maxRecDepth 100000 in
theorem am_de318 : ∀ e ∈ am_c318, am_deOk prog_1_method_64_code e = true := List.all_eq_true.mp (by decide +kernel)
set_option maxRecDepth 100000 in
theorem am_ok318 : ∀ e ∈ am_c318, am_ok ⟨"TagRounds", "rateOf", "(II)I"⟩ 318 e = true := List.all_eq_true.mp (by decide +kernel)
set_option maxRecDepth 100000 in
theorem am_de319 : ∀ e ∈ am_c319, am_deOk prog_1_method_65_code e = true := List.all_eq_true.mp (by decide +kernel)
set_option maxRecDepth 100000 in
theorem am_ok319 : ∀ e ∈ am_c319, am_ok ⟨"TagRounds", "bestQ", "(I)I"⟩ 319 e = true := List.all_eq_true.mp (by decide +kernel)
set_option maxRecDepth 100000 in
theorem am_de320 : ∀ e ∈ am_c320, am_deOk prog_1_method_37_code e = true := List.all_eq_true.mp (by decide +kernel)
set_option maxRecDepth 100000 in
theorem am_ok320 : ∀ e ∈ am_c320, am_ok ⟨"TagRounds", "rate", "(II)I"⟩ 320 e = true := List.all_eq_true.mp (by decide +kernel)
set_option maxRecDepth 100000 in
theorem am_de321 : ∀ e ∈ am_c321, am_deOk method_36_code e = true := List.all_eq_true.mp (by decide +kernel)
set_option maxRecDepth 100000 in
theorem am_ok321 : ∀ e ∈ am_c321, am_ok ⟨"TagRoundsLaw", "rate", "(LTagRounds;II[J)I"⟩ 321 e = true := List.all_eq_true.mp (by decide +kernel)
set_option maxRecDepth 100000 in
theorem am_de322 : ∀ e ∈ am_c322, am_deOk prog_14_method_107_code e = true := List.all_eq_true.mp (by decide +kernel)
set_option maxRecDepth 100000 in
theorem am_ok322 : ∀ e ∈ am_c322, am_ok ⟨"TagRoundsModel", "rateOf", "(II)I"⟩ 322 e = true := List.all_eq_true.mp (by decide +kernel)
set_option maxRecDepth 100000 in
theorem am_de323 : ∀ e ∈ am_c323, am_deOk prog_14_method_108_code e = true := List.all_eq_true.mp (by decide +kernel)
set_option maxRecDepth 100000 in
theorem am_ok323 : ∀ e ∈ am_c323, am_ok ⟨"TagRoundsModel", "rate", "(II)I"⟩ 323 e = true := List.all_eq_true.mp (by decide +kernel)
set_option maxRecDepth 100000 in
theorem am_de324 : ∀ e ∈ am_c324, am_deOk prog_1_method_52_code e = true := List.all_eq_true.mp (by decide +kernel)
set_option maxRecDepth 100000 in
theorem am_ok324 : ∀ e ∈ am_c324, am_ok ⟨"TagRounds", "poweredBits", "()I"⟩ 324 e = true := List.all_eq_true.mp (by decide +kernel)
set_option maxRecDepth 100000 in
theorem am_de325 : ∀ e ∈ am_c325, am_deOk prog_1_method_58_code e = true := List.all_eq_true.mp (by decide +kernel)
set_option maxRecDepth 100000 in
theorem am_ok325 : ∀ e ∈ am_c325, am_ok ⟨"TagRounds", "darkBits", "()I"⟩ 325 e = true := List.all_eq_true.mp (by decide +kernel)
set_option maxRecDepth 100000 in
theorem am_de326 : ∀ e ∈ am_c326, am_deOk prog_1_method_38_code e = true := List.all_eq_true.mp (by decide +kernel)
set_option maxRecDepth 100000 in
theorem am_ok326 : ∀ e ∈ am_c326, am_ok ⟨"TagRounds", "count", "(I)I"⟩ 326 e = true := List.all_eq_true.mp (by decide +kernel)
set_option maxRecDepth 100000 in
theorem am_de327 : ∀ e ∈ am_c327, am_deOk prog_14_method_109_code e = true := List.all_eq_true.mp (by decide +kernel)
set_option maxRecDepth 100000 in
theorem am_ok327 : ∀ e ∈ am_c327, am_ok ⟨"TagRoundsModel", "setOf", "(I)I"⟩ 327 e = true := List.all_eq_true.mp (by decide +kernel)
set_option maxRecDepth 100000 in
theorem am_de328 : ∀ e ∈ am_c328, am_deOk prog_14_method_110_code e = true := List.all_eq_true.mp (by decide +kernel)
set_option maxRecDepth 100000 in
theorem am_ok328 : ∀ e ∈ am_c328, am_ok ⟨"TagRoundsModel", "count", "(I)I"⟩ 328 e = true := List.all_eq_true.mp (by decide +kernel)
