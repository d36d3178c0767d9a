theorem ti_I : Cond.initialized "java/lang/IndexOutOfBoundsException" ∈ gtb := mt1 (List.mem_of_getElem? (i := 14) (by decide +kernel)) rfl
theorem tk_I : Cond.classLink RX10 263 "java/lang/IndexOutOfBoundsException" ∈ gtb := mt3 (List.mem_of_getElem? (i := 93) (by decide +kernel)) rfl
theorem tf_I : Bundle.fit "java/lang/IndexOutOfBoundsException" = true := by decide +kernel
theorem tw_I : gThw RX10 267 "java/lang/IndexOutOfBoundsException" := by unfold gThw; decide +kernel
theorem tg_I : ∀ w ∈ Cond.classLink RX10 263 "java/lang/IndexOutOfBoundsException" :: Cond.initialized "java/lang/IndexOutOfBoundsException" :: vx_atS RX10 267 "java/lang/IndexOutOfBoundsException" xNm, vx_ot w = true := by decide +kernel
abbrev xcI : String := "java/lang/IndexOutOfBoundsException"
theorem ti_S : Cond.initialized "java/lang/IllegalStateException" ∈ gtb := mt1 (List.mem_of_getElem? (i := 16) (by decide +kernel)) rfl
theorem tk_S : Cond.classLink RX10 65 "java/lang/IllegalStateException" ∈ gtb := mt3 (List.mem_of_getElem? (i := 186) (by decide +kernel)) rfl
theorem tf_S : Bundle.fit "java/lang/IllegalStateException" = true := by decide +kernel
theorem tw_S : gThw RX10 69 "java/lang/IllegalStateException" := by unfold gThw; decide +kernel
theorem tg_S : ∀ w ∈ Cond.classLink RX10 65 "java/lang/IllegalStateException" :: Cond.initialized "java/lang/IllegalStateException" :: vx_atS RX10 69 "java/lang/IllegalStateException" xNm, vx_ot w = true := by decide +kernel
abbrev xcS : String := "java/lang/IllegalStateException"
theorem ti_A : Cond.initialized "java/lang/IllegalArgumentException" ∈ gtb := mt1 (List.mem_of_getElem? (i := 18) (by decide +kernel)) rfl
theorem tk_A : Cond.classLink RX10 109 "java/lang/IllegalArgumentException" ∈ gtb := mt4 (List.mem_of_getElem? (i := 65) (by decide +kernel)) rfl
theorem tf_A : Bundle.fit "java/lang/IllegalArgumentException" = true := by decide +kernel
theorem tw_A : gThw RX10 113 "java/lang/IllegalArgumentException" := by unfold gThw; decide +kernel
theorem tg_A : ∀ w ∈ Cond.classLink RX10 109 "java/lang/IllegalArgumentException" :: Cond.initialized "java/lang/IllegalArgumentException" :: vx_atS RX10 113 "java/lang/IllegalArgumentException" xNm, vx_ot w = true := by decide +kernel
abbrev xcA : String := "java/lang/IllegalArgumentException"
theorem ts_265 : (265, "no such replica") ∈ gstr := List.mem_of_getElem? (i := 0) rfl
theorem ts_268 : (268, "no such position") ∈ gstr := List.mem_of_getElem? (i := 1) rfl
theorem ts_67 : (67, "no further line can be made here") ∈ gstr := List.mem_of_getElem? (i := 2) rfl
theorem ts_274 : (274, "the log is full") ∈ gstr := List.mem_of_getElem? (i := 3) rfl
theorem ts_80 : (80, "no room between the lines") ∈ gstr := List.mem_of_getElem? (i := 4) rfl
theorem ts_270 : (270, "the argument is out of range") ∈ gstr := List.mem_of_getElem? (i := 5) rfl
theorem ts_111 : (111, "the text is no formula at this replica") ∈ gstr := List.mem_of_getElem? (i := 6) rfl
theorem ts_149 : (149, "the cell has no formula") ∈ gstr := List.mem_of_getElem? (i := 7) rfl
theorem ts_272 : (272, "it is the same replica") ∈ gstr := List.mem_of_getElem? (i := 8) rfl
theorem ts_231 : (231, "the text is full") ∈ gstr := List.mem_of_getElem? (i := 9) rfl
theorem ts_240 : (240, "there is no record") ∈ gstr := List.mem_of_getElem? (i := 10) rfl
