theorem am_ao2 : Cond.arrayOver (.object "TagRounds$Reader") ∈ lw_tbl := List.mem_of_getElem? (i := 165) (by decide +kernel)
theorem am_ao3 : Cond.arrayOver (.object "java/lang/Object") ∈ lw_tbl := List.mem_of_getElem? (i := 863) (by decide +kernel)
theorem am_ls1 : Cond.laysStatic "TagRounds$Tag" "TO_MATCHING" "[I" ∈ lw_tbl := List.mem_of_getElem? (i := 1117) (by decide +kernel)
theorem am_ls2 : Cond.laysStatic "TagRounds$Tag" "TO_OTHERS" "[I" ∈ lw_tbl := List.mem_of_getElem? (i := 1119) (by decide +kernel)
theorem am_ls3 : Cond.laysStatic "java/util/ArrayList" "DEFAULTCAPACITY_EMPTY_ELEMENTDATA" "[Ljava/lang/Object;" ∈ lw_tbl := List.mem_of_getElem? (i := 179) (by decide +kernel)
theorem am_ls4 : Cond.laysStatic Bundle.tN "UNASSIGNED_STACK" Bundle.steD ∈ lw_tbl := List.mem_of_getElem? (i := 637) (by decide +kernel)
theorem am_ls5 : Cond.laysStatic Bundle.tN "SUPPRESSED_SENTINEL" Bundle.listD ∈ lw_tbl := List.mem_of_getElem? (i := 639) (by decide +kernel)
theorem am_in1 : Cond.initialized "TagRounds$Tag" ∈ lw_tbl.filter goodWord := List.mem_filter.mpr ⟨List.mem_of_getElem? (i := 120) (by decide +kernel), rfl⟩
theorem am_in3 : Cond.initialized "java/util/ArrayList" ∈ lw_tbl.filter goodWord := List.mem_filter.mpr ⟨List.mem_of_getElem? (i := 106) (by decide +kernel), rfl⟩
theorem am_in9 : Cond.initialized Bundle.tN ∈ lw_tbl.filter goodWord := List.mem_filter.mpr ⟨List.mem_of_getElem? (i := 115) (by decide +kernel), rfl⟩
