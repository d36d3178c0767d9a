theorem mt0 {w : Cond} (h : w ∈ k2_sels lw_privs) (hg : goodWord w = true) : w ∈ gtb := gtb_mem (List.mem_append_left _ h) hg
theorem mt1 {w : Cond} (h : w ∈ tables_1_1) (hg : goodWord w = true) : w ∈ gtb := gtb_mem (List.mem_append_right _ (by unfold tables_1; exact List.mem_append_left _ h)) hg
theorem mt2 {w : Cond} (h : w ∈ tables_1_2) (hg : goodWord w = true) : w ∈ gtb := gtb_mem (List.mem_append_right _ (by unfold tables_1; exact List.mem_append_right _ (List.mem_append_left _ h))) hg
theorem mt3 {w : Cond} (h : w ∈ tables_1_3) (hg : goodWord w = true) : w ∈ gtb := gtb_mem (List.mem_append_right _ (by unfold tables_1; exact List.mem_append_right _ (List.mem_append_right _ (List.mem_append_left _ h)))) hg
theorem mt4 {w : Cond} (h : w ∈ tables_1_4) (hg : goodWord w = true) : w ∈ gtb := gtb_mem (List.mem_append_right _ (by unfold tables_1; exact List.mem_append_right _ (List.mem_append_right _ (List.mem_append_right _ (List.mem_append_left _ h))))) hg
theorem mt5 {w : Cond} (h : w ∈ tables_1_5) (hg : goodWord w = true) : w ∈ gtb := gtb_mem (List.mem_append_right _ (by unfold tables_1; exact List.mem_append_right _ (List.mem_append_right _ (List.mem_append_right _ (List.mem_append_right _ (List.mem_append_left _ h)))))) hg
theorem mt6 {w : Cond} (h : w ∈ tables_1_6) (hg : goodWord w = true) : w ∈ gtb := gtb_mem (List.mem_append_right _ (by unfold tables_1; exact List.mem_append_right _ (List.mem_append_right _ (List.mem_append_right _ (List.mem_append_right _ (List.mem_append_right _ (List.mem_append_left _ h))))))) hg
theorem mt7 {w : Cond} (h : w ∈ tables_1_7) (hg : goodWord w = true) : w ∈ gtb := gtb_mem (List.mem_append_right _ (by unfold tables_1; exact List.mem_append_right _ (List.mem_append_right _ (List.mem_append_right _ (List.mem_append_right _ (List.mem_append_right _ (List.mem_append_right _ (h)))))))) hg
set_option maxRecDepth 100000 in
theorem cd_yX0_init : Cond.code yX0_init cX0_init 1 none ∈ gtb := mt1 (List.mem_of_getElem? (i := 127) rfl) rfl
theorem im_yX0_init : Cond.instanceMethod yX0_init ∈ gtb := mt1 (List.mem_of_getElem? (i := 126) (by decide +kernel)) rfl
set_option maxRecDepth 100000 in
theorem cd_yX0_outdate : Cond.code yX0_outdate cX0_outdate 1 none ∈ gtb := mt2 (List.mem_of_getElem? (i := 78) rfl) rfl
theorem im_yX0_outdate : Cond.instanceMethod yX0_outdate ∈ gtb := mt2 (List.mem_of_getElem? (i := 76) (by decide +kernel)) rfl
theorem se_yX0_outdate : Cond.selects yX0_outdate.cls yX0_outdate yX0_outdate ∈ gtb := mt2 (List.mem_of_getElem? (i := 77) (by decide +kernel)) rfl
set_option maxRecDepth 100000 in
theorem cd_yX0_upToDate : Cond.code yX0_upToDate cX0_upToDate 2 (some (.object "SharedSheet$Calculation")) ∈ gtb := mt2 (List.mem_of_getElem? (i := 128) rfl) rfl
theorem im_yX0_upToDate : Cond.instanceMethod yX0_upToDate ∈ gtb := mt2 (List.mem_of_getElem? (i := 126) (by decide +kernel)) rfl
theorem se_yX0_upToDate : Cond.selects yX0_upToDate.cls yX0_upToDate yX0_upToDate ∈ gtb := mt2 (List.mem_of_getElem? (i := 127) (by decide +kernel)) rfl
set_option maxRecDepth 100000 in
theorem cd_yX0_valueAt : Cond.code yX0_valueAt cX0_valueAt 2 (some .int) ∈ gtb := mt3 (List.mem_of_getElem? (i := 53) rfl) rfl
theorem im_yX0_valueAt : Cond.instanceMethod yX0_valueAt ∈ gtb := mt3 (List.mem_of_getElem? (i := 51) (by decide +kernel)) rfl
theorem se_yX0_valueAt : Cond.selects yX0_valueAt.cls yX0_valueAt yX0_valueAt ∈ gtb := mt3 (List.mem_of_getElem? (i := 52) (by decide +kernel)) rfl
set_option maxRecDepth 100000 in
theorem cd_yX0_errorAt : Cond.code yX0_errorAt cX0_errorAt 2 (some .int) ∈ gtb := mt3 (List.mem_of_getElem? (i := 57) rfl) rfl
theorem im_yX0_errorAt : Cond.instanceMethod yX0_errorAt ∈ gtb := mt3 (List.mem_of_getElem? (i := 55) (by decide +kernel)) rfl
theorem se_yX0_errorAt : Cond.selects yX0_errorAt.cls yX0_errorAt yX0_errorAt ∈ gtb := mt3 (List.mem_of_getElem? (i := 56) (by decide +kernel)) rfl
set_option maxRecDepth 100000 in
theorem cd_yX0_cycleCount : Cond.code yX0_cycleCount cX0_cycleCount 1 (some .int) ∈ gtb := mt3 (List.mem_of_getElem? (i := 64) rfl) rfl
theorem im_yX0_cycleCount : Cond.instanceMethod yX0_cycleCount ∈ gtb := mt3 (List.mem_of_getElem? (i := 62) (by decide +kernel)) rfl
theorem se_yX0_cycleCount : Cond.selects yX0_cycleCount.cls yX0_cycleCount yX0_cycleCount ∈ gtb := mt3 (List.mem_of_getElem? (i := 63) (by decide +kernel)) rfl
set_option maxRecDepth 100000 in
theorem cd_yX0_orderedCount : Cond.code yX0_orderedCount cX0_orderedCount 1 (some .int) ∈ gtb := mt3 (List.mem_of_getElem? (i := 68) rfl) rfl
theorem im_yX0_orderedCount : Cond.instanceMethod yX0_orderedCount ∈ gtb := mt3 (List.mem_of_getElem? (i := 66) (by decide +kernel)) rfl
theorem se_yX0_orderedCount : Cond.selects yX0_orderedCount.cls yX0_orderedCount yX0_orderedCount ∈ gtb := mt3 (List.mem_of_getElem? (i := 67) (by decide +kernel)) rfl
set_option maxRecDepth 100000 in
theorem cd_yX0_orderedAt : Cond.code yX0_orderedAt cX0_orderedAt 2 (some .int) ∈ gtb := mt3 (List.mem_of_getElem? (i := 75) rfl) rfl
theorem im_yX0_orderedAt : Cond.instanceMethod yX0_orderedAt ∈ gtb := mt3 (List.mem_of_getElem? (i := 73) (by decide +kernel)) rfl
theorem se_yX0_orderedAt : Cond.selects yX0_orderedAt.cls yX0_orderedAt yX0_orderedAt ∈ gtb := mt3 (List.mem_of_getElem? (i := 74) (by decide +kernel)) rfl
set_option maxRecDepth 100000 in
theorem cd_yX0_isOnCycle : Cond.code yX0_isOnCycle cX0_isOnCycle 2 (some .boolean) ∈ gtb := mt3 (List.mem_of_getElem? (i := 41) rfl) rfl
theorem im_yX0_isOnCycle : Cond.instanceMethod yX0_isOnCycle ∈ gtb := mt3 (List.mem_of_getElem? (i := 39) (by decide +kernel)) rfl
theorem se_yX0_isOnCycle : Cond.selects yX0_isOnCycle.cls yX0_isOnCycle yX0_isOnCycle ∈ gtb := mt3 (List.mem_of_getElem? (i := 40) (by decide +kernel)) rfl
set_option maxRecDepth 100000 in
theorem cd_yX0_countReferences : Cond.code yX0_countReferences cX0_countReferences 2 (some .int) ∈ gtb := mt4 (List.mem_of_getElem? (i := 191) rfl) rfl
theorem im_yX0_countReferences : Cond.instanceMethod yX0_countReferences ∈ gtb := mt4 (List.mem_of_getElem? (i := 189) (by decide +kernel)) rfl
theorem se_yX0_countReferences : Cond.selects yX0_countReferences.cls yX0_countReferences yX0_countReferences ∈ gtb := mt4 (List.mem_of_getElem? (i := 190) (by decide +kernel)) rfl
set_option maxRecDepth 100000 in
theorem cd_yX0_countReferrers : Cond.code yX0_countReferrers cX0_countReferrers 4 (some .int) ∈ gtb := mt4 (List.mem_of_getElem? (i := 205) rfl) rfl
theorem im_yX0_countReferrers : Cond.instanceMethod yX0_countReferrers ∈ gtb := mt4 (List.mem_of_getElem? (i := 203) (by decide +kernel)) rfl
theorem se_yX0_countReferrers : Cond.selects yX0_countReferrers.cls yX0_countReferrers yX0_countReferrers ∈ gtb := mt4 (List.mem_of_getElem? (i := 204) (by decide +kernel)) rfl
set_option maxRecDepth 100000 in
theorem cd_yX0_readCells : Cond.code yX0_readCells cX0_readCells 6 none ∈ gtb := mt2 (List.mem_of_getElem? (i := 132) rfl) rfl
theorem im_yX0_readCells : Cond.instanceMethod yX0_readCells ∈ gtb := mt2 (List.mem_of_getElem? (i := 131) (by decide +kernel)) rfl
theorem se_yX0_readCells : Cond.selects yX0_readCells.cls yX0_readCells yX0_readCells ∈ gtb := mt0 (List.mem_of_getElem? (i := 4) (by decide +kernel)) rfl
set_option maxRecDepth 100000 in
theorem cd_yX0_addFormula : Cond.code yX0_addFormula cX0_addFormula 3 none ∈ gtb := mt2 (List.mem_of_getElem? (i := 157) rfl) rfl
theorem im_yX0_addFormula : Cond.instanceMethod yX0_addFormula ∈ gtb := mt2 (List.mem_of_getElem? (i := 156) (by decide +kernel)) rfl
theorem se_yX0_addFormula : Cond.selects yX0_addFormula.cls yX0_addFormula yX0_addFormula ∈ gtb := mt0 (List.mem_of_getElem? (i := 5) (by decide +kernel)) rfl
set_option maxRecDepth 100000 in
theorem cd_yX0_findReferences : Cond.code yX0_findReferences cX0_findReferences 7 none ∈ gtb := mt2 (List.mem_of_getElem? (i := 161) rfl) rfl
theorem im_yX0_findReferences : Cond.instanceMethod yX0_findReferences ∈ gtb := mt2 (List.mem_of_getElem? (i := 160) (by decide +kernel)) rfl
theorem se_yX0_findReferences : Cond.selects yX0_findReferences.cls yX0_findReferences yX0_findReferences ∈ gtb := mt0 (List.mem_of_getElem? (i := 6) (by decide +kernel)) rfl
set_option maxRecDepth 100000 in
theorem cd_yX0_addReferences : Cond.code yX0_addReferences cX0_addReferences 4 none ∈ gtb := mt2 (List.mem_of_getElem? (i := 209) rfl) rfl
theorem im_yX0_addReferences : Cond.instanceMethod yX0_addReferences ∈ gtb := mt2 (List.mem_of_getElem? (i := 208) (by decide +kernel)) rfl
theorem se_yX0_addReferences : Cond.selects yX0_addReferences.cls yX0_addReferences yX0_addReferences ∈ gtb := mt0 (List.mem_of_getElem? (i := 8) (by decide +kernel)) rfl
set_option maxRecDepth 100000 in
theorem cd_yX0_addRectangle : Cond.code yX0_addRectangle cX0_addRectangle 8 none ∈ gtb := mt2 (List.mem_of_getElem? (i := 213) rfl) rfl
theorem im_yX0_addRectangle : Cond.instanceMethod yX0_addRectangle ∈ gtb := mt2 (List.mem_of_getElem? (i := 212) (by decide +kernel)) rfl
theorem se_yX0_addRectangle : Cond.selects yX0_addRectangle.cls yX0_addRectangle yX0_addRectangle ∈ gtb := mt0 (List.mem_of_getElem? (i := 9) (by decide +kernel)) rfl
set_option maxRecDepth 100000 in
theorem cd_yX0_findCycles : Cond.code yX0_findCycles cX0_findCycles 3 none ∈ gtb := mt2 (List.mem_of_getElem? (i := 219) rfl) rfl
theorem im_yX0_findCycles : Cond.instanceMethod yX0_findCycles ∈ gtb := mt2 (List.mem_of_getElem? (i := 218) (by decide +kernel)) rfl
theorem se_yX0_findCycles : Cond.selects yX0_findCycles.cls yX0_findCycles yX0_findCycles ∈ gtb := mt0 (List.mem_of_getElem? (i := 10) (by decide +kernel)) rfl
set_option maxRecDepth 100000 in
theorem cd_yX0_endWaitOfCycles : Cond.code yX0_endWaitOfCycles cX0_endWaitOfCycles 3 none ∈ gtb := mt3 (List.mem_of_getElem? (i := 37) rfl) rfl
theorem im_yX0_endWaitOfCycles : Cond.instanceMethod yX0_endWaitOfCycles ∈ gtb := mt3 (List.mem_of_getElem? (i := 36) (by decide +kernel)) rfl
theorem se_yX0_endWaitOfCycles : Cond.selects yX0_endWaitOfCycles.cls yX0_endWaitOfCycles yX0_endWaitOfCycles ∈ gtb := mt0 (List.mem_of_getElem? (i := 17) (by decide +kernel)) rfl
set_option maxRecDepth 100000 in
theorem cd_yX0_calculateWaiting : Cond.code yX0_calculateWaiting cX0_calculateWaiting 6 none ∈ gtb := mt2 (List.mem_of_getElem? (i := 238) rfl) rfl
theorem im_yX0_calculateWaiting : Cond.instanceMethod yX0_calculateWaiting ∈ gtb := mt2 (List.mem_of_getElem? (i := 237) (by decide +kernel)) rfl
theorem se_yX0_calculateWaiting : Cond.selects yX0_calculateWaiting.cls yX0_calculateWaiting yX0_calculateWaiting ∈ gtb := mt0 (List.mem_of_getElem? (i := 11) (by decide +kernel)) rfl
set_option maxRecDepth 100000 in
theorem cd_yX0_firstReady : Cond.code yX0_firstReady cX0_firstReady 3 (some .int) ∈ gtb := mt3 (List.mem_of_getElem? (i := 2) rfl) rfl
theorem im_yX0_firstReady : Cond.instanceMethod yX0_firstReady ∈ gtb := mt3 (List.mem_of_getElem? (i := 1) (by decide +kernel)) rfl
theorem se_yX0_firstReady : Cond.selects yX0_firstReady.cls yX0_firstReady yX0_firstReady ∈ gtb := mt0 (List.mem_of_getElem? (i := 12) (by decide +kernel)) rfl
set_option maxRecDepth 100000 in
theorem cd_yX0_calculateFormula : Cond.code yX0_calculateFormula cX0_calculateFormula 10 none ∈ gtb := mt3 (List.mem_of_getElem? (i := 15) rfl) rfl
theorem im_yX0_calculateFormula : Cond.instanceMethod yX0_calculateFormula ∈ gtb := mt3 (List.mem_of_getElem? (i := 14) (by decide +kernel)) rfl
theorem se_yX0_calculateFormula : Cond.selects yX0_calculateFormula.cls yX0_calculateFormula yX0_calculateFormula ∈ gtb := mt0 (List.mem_of_getElem? (i := 13) (by decide +kernel)) rfl
set_option maxRecDepth 100000 in
theorem cd_yX0_factorOf : Cond.code yX0_factorOf cX0_factorOf 6 (some .long) ∈ gtb := mt3 (List.mem_of_getElem? (i := 23) rfl) rfl
theorem im_yX0_factorOf : Cond.instanceMethod yX0_factorOf ∈ gtb := mt3 (List.mem_of_getElem? (i := 22) (by decide +kernel)) rfl
theorem se_yX0_factorOf : Cond.selects yX0_factorOf.cls yX0_factorOf yX0_factorOf ∈ gtb := mt0 (List.mem_of_getElem? (i := 14) (by decide +kernel)) rfl
set_option maxRecDepth 100000 in
theorem cd_yX0_sumOf : Cond.code yX0_sumOf cX0_sumOf 9 (some .long) ∈ gtb := mt3 (List.mem_of_getElem? (i := 27) rfl) rfl
theorem im_yX0_sumOf : Cond.instanceMethod yX0_sumOf ∈ gtb := mt3 (List.mem_of_getElem? (i := 26) (by decide +kernel)) rfl
theorem se_yX0_sumOf : Cond.selects yX0_sumOf.cls yX0_sumOf yX0_sumOf ∈ gtb := mt0 (List.mem_of_getElem? (i := 15) (by decide +kernel)) rfl
set_option maxRecDepth 100000 in
theorem cd_yX0_limited : Cond.code yX0_limited cX0_limited 3 (some .long) ∈ gtb := mt3 (List.mem_of_getElem? (i := 31) rfl) rfl
theorem im_yX0_limited : Cond.instanceMethod yX0_limited ∈ gtb := mt3 (List.mem_of_getElem? (i := 30) (by decide +kernel)) rfl
theorem se_yX0_limited : Cond.selects yX0_limited.cls yX0_limited yX0_limited ∈ gtb := mt0 (List.mem_of_getElem? (i := 16) (by decide +kernel)) rfl
set_option maxRecDepth 100000 in
theorem cd_yX1_init : Cond.code yX1_init cX1_init 1 none ∈ gtb := mt1 (List.mem_of_getElem? (i := 135) rfl) rfl
theorem im_yX1_init : Cond.instanceMethod yX1_init ∈ gtb := mt1 (List.mem_of_getElem? (i := 134) (by decide +kernel)) rfl
set_option maxRecDepth 100000 in
theorem cd_yX1_empty : Cond.code yX1_empty cX1_empty 1 none ∈ gtb := mt2 (List.mem_of_getElem? (i := 165) rfl) rfl
theorem im_yX1_empty : Cond.instanceMethod yX1_empty ∈ gtb := mt2 (List.mem_of_getElem? (i := 163) (by decide +kernel)) rfl
theorem se_yX1_empty : Cond.selects yX1_empty.cls yX1_empty yX1_empty ∈ gtb := mt2 (List.mem_of_getElem? (i := 164) (by decide +kernel)) rfl
set_option maxRecDepth 100000 in
theorem cd_yX1_copyFrom : Cond.code yX1_copyFrom cX1_copyFrom 2 none ∈ gtb := mt2 (List.mem_of_getElem? (i := 223) rfl) rfl
theorem im_yX1_copyFrom : Cond.instanceMethod yX1_copyFrom ∈ gtb := mt2 (List.mem_of_getElem? (i := 221) (by decide +kernel)) rfl
theorem se_yX1_copyFrom : Cond.selects yX1_copyFrom.cls yX1_copyFrom yX1_copyFrom ∈ gtb := mt2 (List.mem_of_getElem? (i := 222) (by decide +kernel)) rfl
set_option maxRecDepth 100000 in
theorem cd_yX1_put : Cond.code yX1_put cX1_put 3 none ∈ gtb := mt2 (List.mem_of_getElem? (i := 172) rfl) rfl
theorem im_yX1_put : Cond.instanceMethod yX1_put ∈ gtb := mt2 (List.mem_of_getElem? (i := 170) (by decide +kernel)) rfl
theorem se_yX1_put : Cond.selects yX1_put.cls yX1_put yX1_put ∈ gtb := mt2 (List.mem_of_getElem? (i := 171) (by decide +kernel)) rfl
set_option maxRecDepth 100000 in
theorem cd_yX1_drop : Cond.code yX1_drop cX1_drop 3 none ∈ gtb := mt3 (List.mem_of_getElem? (i := 10) rfl) rfl
theorem im_yX1_drop : Cond.instanceMethod yX1_drop ∈ gtb := mt3 (List.mem_of_getElem? (i := 8) (by decide +kernel)) rfl
theorem se_yX1_drop : Cond.selects yX1_drop.cls yX1_drop yX1_drop ∈ gtb := mt3 (List.mem_of_getElem? (i := 9) (by decide +kernel)) rfl
set_option maxRecDepth 100000 in
theorem cd_yX1_has : Cond.code yX1_has cX1_has 3 (some .boolean) ∈ gtb := mt2 (List.mem_of_getElem? (i := 230) rfl) rfl
theorem im_yX1_has : Cond.instanceMethod yX1_has ∈ gtb := mt2 (List.mem_of_getElem? (i := 228) (by decide +kernel)) rfl
theorem se_yX1_has : Cond.selects yX1_has.cls yX1_has yX1_has ∈ gtb := mt2 (List.mem_of_getElem? (i := 229) (by decide +kernel)) rfl
set_option maxRecDepth 100000 in
theorem cd_yX1_join : Cond.code yX1_join cX1_join 4 none ∈ gtb := mt2 (List.mem_of_getElem? (i := 234) rfl) rfl
theorem im_yX1_join : Cond.instanceMethod yX1_join ∈ gtb := mt2 (List.mem_of_getElem? (i := 232) (by decide +kernel)) rfl
theorem se_yX1_join : Cond.selects yX1_join.cls yX1_join yX1_join ∈ gtb := mt2 (List.mem_of_getElem? (i := 233) (by decide +kernel)) rfl
set_option maxRecDepth 100000 in
theorem cd_yX1_haveCommon : Cond.code yX1_haveCommon cX1_haveCommon 4 (some .boolean) ∈ gtb := mt3 (List.mem_of_getElem? (i := 6) rfl) rfl
theorem im_yX1_haveCommon : Cond.instanceMethod yX1_haveCommon ∈ gtb := mt3 (List.mem_of_getElem? (i := 4) (by decide +kernel)) rfl
theorem se_yX1_haveCommon : Cond.selects yX1_haveCommon.cls yX1_haveCommon yX1_haveCommon ∈ gtb := mt3 (List.mem_of_getElem? (i := 5) (by decide +kernel)) rfl
set_option maxRecDepth 100000 in
theorem cd_yX1_size : Cond.code yX1_size cX1_size 4 (some .int) ∈ gtb := mt4 (List.mem_of_getElem? (i := 195) rfl) rfl
theorem im_yX1_size : Cond.instanceMethod yX1_size ∈ gtb := mt4 (List.mem_of_getElem? (i := 193) (by decide +kernel)) rfl
theorem se_yX1_size : Cond.selects yX1_size.cls yX1_size yX1_size ∈ gtb := mt4 (List.mem_of_getElem? (i := 194) (by decide +kernel)) rfl
set_option maxRecDepth 100000 in
theorem cd_yX1_isSet : Cond.code yX1_isSet cX1_isSet 1 (some .boolean) ∈ gtb := mt2 (List.mem_of_getElem? (i := 175) rfl) rfl
theorem sm_yX1_isSet : Cond.static yX1_isSet ∈ gtb := mt2 (List.mem_of_getElem? (i := 174) (by decide +kernel)) rfl
set_option maxRecDepth 100000 in
theorem cd_yX2_init : Cond.code yX2_init cX2_init 4 none ∈ gtb := mt1 (List.mem_of_getElem? (i := 185) rfl) rfl
theorem im_yX2_init : Cond.instanceMethod yX2_init ∈ gtb := mt1 (List.mem_of_getElem? (i := 184) (by decide +kernel)) rfl
set_option maxRecDepth 100000 in
theorem cd_yX3_init : Cond.code yX3_init cX3_init 2 none ∈ gtb := mt4 (List.mem_of_getElem? (i := 172) rfl) rfl
theorem im_yX3_init : Cond.instanceMethod yX3_init ∈ gtb := mt4 (List.mem_of_getElem? (i := 171) (by decide +kernel)) rfl
set_option maxRecDepth 100000 in
theorem cd_yX3_factors : Cond.code yX3_factors cX3_factors 1 (some .int) ∈ gtb := mt2 (List.mem_of_getElem? (i := 180) rfl) rfl
theorem im_yX3_factors : Cond.instanceMethod yX3_factors ∈ gtb := mt2 (List.mem_of_getElem? (i := 178) (by decide +kernel)) rfl
theorem se_yX3_factors : Cond.selects yX3_factors.cls yX3_factors yX3_factors ∈ gtb := mt2 (List.mem_of_getElem? (i := 179) (by decide +kernel)) rfl
set_option maxRecDepth 100000 in
theorem cd_yX3_signOf : Cond.code yX3_signOf cX3_signOf 2 (some .int) ∈ gtb := mt3 (List.mem_of_getElem? (i := 19) rfl) rfl
theorem im_yX3_signOf : Cond.instanceMethod yX3_signOf ∈ gtb := mt3 (List.mem_of_getElem? (i := 17) (by decide +kernel)) rfl
theorem se_yX3_signOf : Cond.selects yX3_signOf.cls yX3_signOf yX3_signOf ∈ gtb := mt3 (List.mem_of_getElem? (i := 18) (by decide +kernel)) rfl
set_option maxRecDepth 100000 in
theorem cd_yX3_kindOf : Cond.code yX3_kindOf cX3_kindOf 2 (some .int) ∈ gtb := mt2 (List.mem_of_getElem? (i := 184) rfl) rfl
theorem im_yX3_kindOf : Cond.instanceMethod yX3_kindOf ∈ gtb := mt2 (List.mem_of_getElem? (i := 182) (by decide +kernel)) rfl
theorem se_yX3_kindOf : Cond.selects yX3_kindOf.cls yX3_kindOf yX3_kindOf ∈ gtb := mt2 (List.mem_of_getElem? (i := 183) (by decide +kernel)) rfl
set_option maxRecDepth 100000 in
theorem cd_yX3_firstOf : Cond.code yX3_firstOf cX3_firstOf 2 (some .int) ∈ gtb := mt2 (List.mem_of_getElem? (i := 193) rfl) rfl
theorem im_yX3_firstOf : Cond.instanceMethod yX3_firstOf ∈ gtb := mt2 (List.mem_of_getElem? (i := 191) (by decide +kernel)) rfl
theorem se_yX3_firstOf : Cond.selects yX3_firstOf.cls yX3_firstOf yX3_firstOf ∈ gtb := mt2 (List.mem_of_getElem? (i := 192) (by decide +kernel)) rfl
set_option maxRecDepth 100000 in
theorem cd_yX3_secondOf : Cond.code yX3_secondOf cX3_secondOf 2 (some .int) ∈ gtb := mt2 (List.mem_of_getElem? (i := 205) rfl) rfl
theorem im_yX3_secondOf : Cond.instanceMethod yX3_secondOf ∈ gtb := mt2 (List.mem_of_getElem? (i := 203) (by decide +kernel)) rfl
theorem se_yX3_secondOf : Cond.selects yX3_secondOf.cls yX3_secondOf yX3_secondOf ∈ gtb := mt2 (List.mem_of_getElem? (i := 204) (by decide +kernel)) rfl
set_option maxRecDepth 100000 in
theorem cd_yX3_partAt : Cond.code yX3_partAt cX3_partAt 2 (some .int) ∈ gtb := mt2 (List.mem_of_getElem? (i := 189) rfl) rfl
theorem im_yX3_partAt : Cond.instanceMethod yX3_partAt ∈ gtb := mt2 (List.mem_of_getElem? (i := 187) (by decide +kernel)) rfl
theorem se_yX3_partAt : Cond.selects yX3_partAt.cls yX3_partAt yX3_partAt ∈ gtb := mt0 (List.mem_of_getElem? (i := 7) (by decide +kernel)) rfl
set_option maxRecDepth 100000 in
theorem cd_yX3_appendTo : Cond.code yX3_appendTo cX3_appendTo 4 none ∈ gtb := mt4 (List.mem_of_getElem? (i := 232) rfl) rfl
theorem im_yX3_appendTo : Cond.instanceMethod yX3_appendTo ∈ gtb := mt4 (List.mem_of_getElem? (i := 230) (by decide +kernel)) rfl
theorem se_yX3_appendTo : Cond.selects yX3_appendTo.cls yX3_appendTo yX3_appendTo ∈ gtb := mt4 (List.mem_of_getElem? (i := 231) (by decide +kernel)) rfl
set_option maxRecDepth 100000 in
theorem cd_yX3_appendCell : Cond.code yX3_appendCell cX3_appendCell 4 none ∈ gtb := mt5 (List.mem_of_getElem? (i := 12) rfl) rfl
theorem sm_yX3_appendCell : Cond.static yX3_appendCell ∈ gtb := mt5 (List.mem_of_getElem? (i := 11) (by decide +kernel)) rfl
set_option maxRecDepth 100000 in
theorem cd_yX4_init : Cond.code yX4_init cX4_init 1 none ∈ gtb := mt1 (List.mem_of_getElem? (i := 86) rfl) rfl
theorem im_yX4_init : Cond.instanceMethod yX4_init ∈ gtb := mt1 (List.mem_of_getElem? (i := 85) (by decide +kernel)) rfl
set_option maxRecDepth 100000 in
theorem cd_yX4_reset : Cond.code yX4_reset cX4_reset 3 none ∈ gtb := mt1 (List.mem_of_getElem? (i := 91) rfl) rfl
theorem im_yX4_reset : Cond.instanceMethod yX4_reset ∈ gtb := mt1 (List.mem_of_getElem? (i := 89) (by decide +kernel)) rfl
theorem se_yX4_reset : Cond.selects yX4_reset.cls yX4_reset yX4_reset ∈ gtb := mt1 (List.mem_of_getElem? (i := 90) (by decide +kernel)) rfl
set_option maxRecDepth 100000 in
theorem cd_yX4_count : Cond.code yX4_count cX4_count 1 (some .int) ∈ gtb := mt2 (List.mem_of_getElem? (i := 116) rfl) rfl
theorem im_yX4_count : Cond.instanceMethod yX4_count ∈ gtb := mt2 (List.mem_of_getElem? (i := 114) (by decide +kernel)) rfl
theorem se_yX4_count : Cond.selects yX4_count.cls yX4_count yX4_count ∈ gtb := mt2 (List.mem_of_getElem? (i := 115) (by decide +kernel)) rfl
set_option maxRecDepth 100000 in
theorem cd_yX4_numberAt : Cond.code yX4_numberAt cX4_numberAt 2 (some .int) ∈ gtb := mt2 (List.mem_of_getElem? (i := 120) rfl) rfl
theorem im_yX4_numberAt : Cond.instanceMethod yX4_numberAt ∈ gtb := mt2 (List.mem_of_getElem? (i := 118) (by decide +kernel)) rfl
theorem se_yX4_numberAt : Cond.selects yX4_numberAt.cls yX4_numberAt yX4_numberAt ∈ gtb := mt2 (List.mem_of_getElem? (i := 119) (by decide +kernel)) rfl
set_option maxRecDepth 100000 in
theorem cd_yX4_positionOf : Cond.code yX4_positionOf cX4_positionOf 3 (some .int) ∈ gtb := mt2 (List.mem_of_getElem? (i := 201) rfl) rfl
theorem im_yX4_positionOf : Cond.instanceMethod yX4_positionOf ∈ gtb := mt2 (List.mem_of_getElem? (i := 199) (by decide +kernel)) rfl
theorem se_yX4_positionOf : Cond.selects yX4_positionOf.cls yX4_positionOf yX4_positionOf ∈ gtb := mt2 (List.mem_of_getElem? (i := 200) (by decide +kernel)) rfl
set_option maxRecDepth 100000 in
theorem cd_yX4_placeOf : Cond.code yX4_placeOf cX4_placeOf 2 (some .int) ∈ gtb := mt2 (List.mem_of_getElem? (i := 124) rfl) rfl
theorem im_yX4_placeOf : Cond.instanceMethod yX4_placeOf ∈ gtb := mt2 (List.mem_of_getElem? (i := 122) (by decide +kernel)) rfl
theorem se_yX4_placeOf : Cond.selects yX4_placeOf.cls yX4_placeOf yX4_placeOf ∈ gtb := mt2 (List.mem_of_getElem? (i := 123) (by decide +kernel)) rfl
set_option maxRecDepth 100000 in
theorem cd_yX4_isMade : Cond.code yX4_isMade cX4_isMade 2 (some .boolean) ∈ gtb := mt3 (List.mem_of_getElem? (i := 173) rfl) rfl
theorem im_yX4_isMade : Cond.instanceMethod yX4_isMade ∈ gtb := mt3 (List.mem_of_getElem? (i := 171) (by decide +kernel)) rfl
theorem se_yX4_isMade : Cond.selects yX4_isMade.cls yX4_isMade yX4_isMade ∈ gtb := mt3 (List.mem_of_getElem? (i := 172) (by decide +kernel)) rfl
set_option maxRecDepth 100000 in
theorem cd_yX4_isArrangedLike : Cond.code yX4_isArrangedLike cX4_isArrangedLike 3 (some .boolean) ∈ gtb := mt5 (List.mem_of_getElem? (i := 75) rfl) rfl
theorem im_yX4_isArrangedLike : Cond.instanceMethod yX4_isArrangedLike ∈ gtb := mt5 (List.mem_of_getElem? (i := 73) (by decide +kernel)) rfl
theorem se_yX4_isArrangedLike : Cond.selects yX4_isArrangedLike.cls yX4_isArrangedLike yX4_isArrangedLike ∈ gtb := mt5 (List.mem_of_getElem? (i := 74) (by decide +kernel)) rfl
set_option maxRecDepth 100000 in
theorem cd_yX4_carryOut : Cond.code yX4_carryOut cX4_carryOut 3 none ∈ gtb := mt2 (List.mem_of_getElem? (i := 73) rfl) rfl
theorem im_yX4_carryOut : Cond.instanceMethod yX4_carryOut ∈ gtb := mt2 (List.mem_of_getElem? (i := 71) (by decide +kernel)) rfl
theorem se_yX4_carryOut : Cond.selects yX4_carryOut.cls yX4_carryOut yX4_carryOut ∈ gtb := mt2 (List.mem_of_getElem? (i := 72) (by decide +kernel)) rfl
set_option maxRecDepth 100000 in
theorem cd_yX4_placeBetween : Cond.code yX4_placeBetween cX4_placeBetween 8 (some .int) ∈ gtb := mt3 (List.mem_of_getElem? (i := 177) rfl) rfl
theorem im_yX4_placeBetween : Cond.instanceMethod yX4_placeBetween ∈ gtb := mt3 (List.mem_of_getElem? (i := 175) (by decide +kernel)) rfl
theorem se_yX4_placeBetween : Cond.selects yX4_placeBetween.cls yX4_placeBetween yX4_placeBetween ∈ gtb := mt3 (List.mem_of_getElem? (i := 176) (by decide +kernel)) rfl
set_option maxRecDepth 100000 in
theorem cd_yX4_numberWithout : Cond.code yX4_numberWithout cX4_numberWithout 4 (some .int) ∈ gtb := mt3 (List.mem_of_getElem? (i := 181) rfl) rfl
theorem im_yX4_numberWithout : Cond.instanceMethod yX4_numberWithout ∈ gtb := mt3 (List.mem_of_getElem? (i := 180) (by decide +kernel)) rfl
theorem se_yX4_numberWithout : Cond.selects yX4_numberWithout.cls yX4_numberWithout yX4_numberWithout ∈ gtb := mt0 (List.mem_of_getElem? (i := 20) (by decide +kernel)) rfl
set_option maxRecDepth 100000 in
theorem cd_yX4_arrange : Cond.code yX4_arrange cX4_arrange 4 none ∈ gtb := mt1 (List.mem_of_getElem? (i := 95) rfl) rfl
theorem im_yX4_arrange : Cond.instanceMethod yX4_arrange ∈ gtb := mt1 (List.mem_of_getElem? (i := 94) (by decide +kernel)) rfl
theorem se_yX4_arrange : Cond.selects yX4_arrange.cls yX4_arrange yX4_arrange ∈ gtb := mt0 (List.mem_of_getElem? (i := 0) (by decide +kernel)) rfl
set_option maxRecDepth 100000 in
theorem cd_yX4_isBefore : Cond.code yX4_isBefore cX4_isBefore 3 (some .boolean) ∈ gtb := mt1 (List.mem_of_getElem? (i := 99) rfl) rfl
theorem im_yX4_isBefore : Cond.instanceMethod yX4_isBefore ∈ gtb := mt1 (List.mem_of_getElem? (i := 98) (by decide +kernel)) rfl
theorem se_yX4_isBefore : Cond.selects yX4_isBefore.cls yX4_isBefore yX4_isBefore ∈ gtb := mt0 (List.mem_of_getElem? (i := 1) (by decide +kernel)) rfl
set_option maxRecDepth 100000 in
theorem cd_yX5_init : Cond.code yX5_init cX5_init 8 none ∈ gtb := mt3 (List.mem_of_getElem? (i := 218) rfl) rfl
theorem im_yX5_init : Cond.instanceMethod yX5_init ∈ gtb := mt3 (List.mem_of_getElem? (i := 217) (by decide +kernel)) rfl
set_option maxRecDepth 100000 in
theorem cd_yX5_isLaterThan : Cond.code yX5_isLaterThan cX5_isLaterThan 3 (some .boolean) ∈ gtb := mt2 (List.mem_of_getElem? (i := 65) rfl) rfl
theorem im_yX5_isLaterThan : Cond.instanceMethod yX5_isLaterThan ∈ gtb := mt2 (List.mem_of_getElem? (i := 63) (by decide +kernel)) rfl
theorem se_yX5_isLaterThan : Cond.selects yX5_isLaterThan.cls yX5_isLaterThan yX5_isLaterThan ∈ gtb := mt2 (List.mem_of_getElem? (i := 64) (by decide +kernel)) rfl
set_option maxRecDepth 100000 in
theorem cd_yX6_init : Cond.code yX6_init cX6_init 1 none ∈ gtb := mt1 (List.mem_of_getElem? (i := 65) rfl) rfl
theorem im_yX6_init : Cond.instanceMethod yX6_init ∈ gtb := mt1 (List.mem_of_getElem? (i := 64) (by decide +kernel)) rfl
set_option maxRecDepth 100000 in
theorem cd_yX6_read : Cond.code yX6_read cX6_read 5 (some .int) ∈ gtb := mt4 (List.mem_of_getElem? (i := 121) rfl) rfl
theorem im_yX6_read : Cond.instanceMethod yX6_read ∈ gtb := mt4 (List.mem_of_getElem? (i := 119) (by decide +kernel)) rfl
theorem se_yX6_read : Cond.selects yX6_read.cls yX6_read yX6_read ∈ gtb := mt4 (List.mem_of_getElem? (i := 120) (by decide +kernel)) rfl
set_option maxRecDepth 100000 in
theorem cd_yX6_formula : Cond.code yX6_formula cX6_formula 1 (some (.object "SharedSheet$Formula")) ∈ gtb := mt4 (List.mem_of_getElem? (i := 156) rfl) rfl
theorem im_yX6_formula : Cond.instanceMethod yX6_formula ∈ gtb := mt4 (List.mem_of_getElem? (i := 154) (by decide +kernel)) rfl
theorem se_yX6_formula : Cond.selects yX6_formula.cls yX6_formula yX6_formula ∈ gtb := mt4 (List.mem_of_getElem? (i := 155) (by decide +kernel)) rfl
set_option maxRecDepth 100000 in
theorem cd_yX6_readFactor : Cond.code yX6_readFactor cX6_readFactor 6 (some .boolean) ∈ gtb := mt4 (List.mem_of_getElem? (i := 125) rfl) rfl
theorem im_yX6_readFactor : Cond.instanceMethod yX6_readFactor ∈ gtb := mt4 (List.mem_of_getElem? (i := 124) (by decide +kernel)) rfl
theorem se_yX6_readFactor : Cond.selects yX6_readFactor.cls yX6_readFactor yX6_readFactor ∈ gtb := mt0 (List.mem_of_getElem? (i := 23) (by decide +kernel)) rfl
set_option maxRecDepth 100000 in
theorem cd_yX6_readSum : Cond.code yX6_readSum cX6_readSum 6 (some .boolean) ∈ gtb := mt4 (List.mem_of_getElem? (i := 141) rfl) rfl
theorem im_yX6_readSum : Cond.instanceMethod yX6_readSum ∈ gtb := mt4 (List.mem_of_getElem? (i := 140) (by decide +kernel)) rfl
theorem se_yX6_readSum : Cond.selects yX6_readSum.cls yX6_readSum yX6_readSum ∈ gtb := mt0 (List.mem_of_getElem? (i := 26) (by decide +kernel)) rfl
set_option maxRecDepth 100000 in
theorem cd_yX6_readSign : Cond.code yX6_readSign cX6_readSign 3 (some .boolean) ∈ gtb := mt4 (List.mem_of_getElem? (i := 145) rfl) rfl
theorem im_yX6_readSign : Cond.instanceMethod yX6_readSign ∈ gtb := mt4 (List.mem_of_getElem? (i := 144) (by decide +kernel)) rfl
theorem se_yX6_readSign : Cond.selects yX6_readSign.cls yX6_readSign yX6_readSign ∈ gtb := mt0 (List.mem_of_getElem? (i := 27) (by decide +kernel)) rfl
set_option maxRecDepth 100000 in
theorem cd_yX6_readNumber : Cond.code yX6_readNumber cX6_readNumber 4 (some .int) ∈ gtb := mt4 (List.mem_of_getElem? (i := 133) rfl) rfl
theorem im_yX6_readNumber : Cond.instanceMethod yX6_readNumber ∈ gtb := mt4 (List.mem_of_getElem? (i := 132) (by decide +kernel)) rfl
theorem se_yX6_readNumber : Cond.selects yX6_readNumber.cls yX6_readNumber yX6_readNumber ∈ gtb := mt0 (List.mem_of_getElem? (i := 24) (by decide +kernel)) rfl
set_option maxRecDepth 100000 in
theorem cd_yX6_readCell : Cond.code yX6_readCell cX6_readCell 6 (some .int) ∈ gtb := mt4 (List.mem_of_getElem? (i := 149) rfl) rfl
theorem im_yX6_readCell : Cond.instanceMethod yX6_readCell ∈ gtb := mt4 (List.mem_of_getElem? (i := 148) (by decide +kernel)) rfl
theorem se_yX6_readCell : Cond.selects yX6_readCell.cls yX6_readCell yX6_readCell ∈ gtb := mt0 (List.mem_of_getElem? (i := 28) (by decide +kernel)) rfl
set_option maxRecDepth 100000 in
theorem cd_yX6_addFactor : Cond.code yX6_addFactor cX6_addFactor 6 none ∈ gtb := mt4 (List.mem_of_getElem? (i := 137) rfl) rfl
theorem im_yX6_addFactor : Cond.instanceMethod yX6_addFactor ∈ gtb := mt4 (List.mem_of_getElem? (i := 136) (by decide +kernel)) rfl
theorem se_yX6_addFactor : Cond.selects yX6_addFactor.cls yX6_addFactor yX6_addFactor ∈ gtb := mt0 (List.mem_of_getElem? (i := 25) (by decide +kernel)) rfl
set_option maxRecDepth 100000 in
theorem cd_yX6_isDigit : Cond.code yX6_isDigit cX6_isDigit 1 (some .boolean) ∈ gtb := mt4 (List.mem_of_getElem? (i := 129) rfl) rfl
theorem sm_yX6_isDigit : Cond.static yX6_isDigit ∈ gtb := mt4 (List.mem_of_getElem? (i := 128) (by decide +kernel)) rfl
set_option maxRecDepth 100000 in
theorem cd_yX7_init : Cond.code yX7_init cX7_init 1 none ∈ gtb := mt1 (List.mem_of_getElem? (i := 37) rfl) rfl
theorem im_yX7_init : Cond.instanceMethod yX7_init ∈ gtb := mt1 (List.mem_of_getElem? (i := 36) (by decide +kernel)) rfl
set_option maxRecDepth 100000 in
theorem cd_yX7_count : Cond.code yX7_count cX7_count 1 (some .int) ∈ gtb := mt3 (List.mem_of_getElem? (i := 79) rfl) rfl
theorem im_yX7_count : Cond.instanceMethod yX7_count ∈ gtb := mt3 (List.mem_of_getElem? (i := 77) (by decide +kernel)) rfl
theorem se_yX7_count : Cond.selects yX7_count.cls yX7_count yX7_count ∈ gtb := mt3 (List.mem_of_getElem? (i := 78) (by decide +kernel)) rfl
set_option maxRecDepth 100000 in
theorem cd_yX7_keep : Cond.code yX7_keep cX7_keep 3 none ∈ gtb := mt2 (List.mem_of_getElem? (i := 19) rfl) rfl
theorem im_yX7_keep : Cond.instanceMethod yX7_keep ∈ gtb := mt2 (List.mem_of_getElem? (i := 17) (by decide +kernel)) rfl
theorem se_yX7_keep : Cond.selects yX7_keep.cls yX7_keep yX7_keep ∈ gtb := mt2 (List.mem_of_getElem? (i := 18) (by decide +kernel)) rfl
set_option maxRecDepth 100000 in
theorem cd_yX7_dropOldest : Cond.code yX7_dropOldest cX7_dropOldest 2 none ∈ gtb := mt2 (List.mem_of_getElem? (i := 23) rfl) rfl
theorem im_yX7_dropOldest : Cond.instanceMethod yX7_dropOldest ∈ gtb := mt2 (List.mem_of_getElem? (i := 22) (by decide +kernel)) rfl
theorem se_yX7_dropOldest : Cond.selects yX7_dropOldest.cls yX7_dropOldest yX7_dropOldest ∈ gtb := mt0 (List.mem_of_getElem? (i := 2) (by decide +kernel)) rfl
set_option maxRecDepth 100000 in
theorem cd_yX7_restoreLatest : Cond.code yX7_restoreLatest cX7_restoreLatest 6 none ∈ gtb := mt5 (List.mem_of_getElem? (i := 121) rfl) rfl
theorem im_yX7_restoreLatest : Cond.instanceMethod yX7_restoreLatest ∈ gtb := mt5 (List.mem_of_getElem? (i := 119) (by decide +kernel)) rfl
theorem se_yX7_restoreLatest : Cond.selects yX7_restoreLatest.cls yX7_restoreLatest yX7_restoreLatest ∈ gtb := mt5 (List.mem_of_getElem? (i := 120) (by decide +kernel)) rfl
set_option maxRecDepth 100000 in
theorem cd_yX8_init : Cond.code yX8_init cX8_init 2 none ∈ gtb := mt1 (List.mem_of_getElem? (i := 80) rfl) rfl
theorem im_yX8_init : Cond.instanceMethod yX8_init ∈ gtb := mt1 (List.mem_of_getElem? (i := 79) (by decide +kernel)) rfl
set_option maxRecDepth 100000 in
theorem cd_yX8_linesOf : Cond.code yX8_linesOf cX8_linesOf 2 (some (.object "SharedSheet$Lines")) ∈ gtb := mt2 (List.mem_of_getElem? (i := 69) rfl) rfl
theorem im_yX8_linesOf : Cond.instanceMethod yX8_linesOf ∈ gtb := mt2 (List.mem_of_getElem? (i := 67) (by decide +kernel)) rfl
theorem se_yX8_linesOf : Cond.selects yX8_linesOf.cls yX8_linesOf yX8_linesOf ∈ gtb := mt2 (List.mem_of_getElem? (i := 68) (by decide +kernel)) rfl
set_option maxRecDepth 100000 in
theorem cd_yX8_nextClock : Cond.code yX8_nextClock cX8_nextClock 1 (some .int) ∈ gtb := mt3 (List.mem_of_getElem? (i := 215) rfl) rfl
theorem im_yX8_nextClock : Cond.instanceMethod yX8_nextClock ∈ gtb := mt3 (List.mem_of_getElem? (i := 213) (by decide +kernel)) rfl
theorem se_yX8_nextClock : Cond.selects yX8_nextClock.cls yX8_nextClock yX8_nextClock ∈ gtb := mt3 (List.mem_of_getElem? (i := 214) (by decide +kernel)) rfl
set_option maxRecDepth 100000 in
theorem cd_yX8_nextLine : Cond.code yX8_nextLine cX8_nextLine 4 (some .int) ∈ gtb := mt3 (List.mem_of_getElem? (i := 169) rfl) rfl
theorem im_yX8_nextLine : Cond.instanceMethod yX8_nextLine ∈ gtb := mt3 (List.mem_of_getElem? (i := 167) (by decide +kernel)) rfl
theorem se_yX8_nextLine : Cond.selects yX8_nextLine.cls yX8_nextLine yX8_nextLine ∈ gtb := mt3 (List.mem_of_getElem? (i := 168) (by decide +kernel)) rfl
set_option maxRecDepth 100000 in
theorem cd_yX8_carriedOf : Cond.code yX8_carriedOf cX8_carriedOf 2 (some .int) ∈ gtb := mt2 (List.mem_of_getElem? (i := 27) rfl) rfl
theorem im_yX8_carriedOf : Cond.instanceMethod yX8_carriedOf ∈ gtb := mt2 (List.mem_of_getElem? (i := 25) (by decide +kernel)) rfl
theorem se_yX8_carriedOf : Cond.selects yX8_carriedOf.cls yX8_carriedOf yX8_carriedOf ∈ gtb := mt2 (List.mem_of_getElem? (i := 26) (by decide +kernel)) rfl
set_option maxRecDepth 100000 in
theorem cd_yX8_logLength : Cond.code yX8_logLength cX8_logLength 1 (some .int) ∈ gtb := mt2 (List.mem_of_getElem? (i := 39) rfl) rfl
theorem im_yX8_logLength : Cond.instanceMethod yX8_logLength ∈ gtb := mt2 (List.mem_of_getElem? (i := 37) (by decide +kernel)) rfl
theorem se_yX8_logLength : Cond.selects yX8_logLength.cls yX8_logLength yX8_logLength ∈ gtb := mt2 (List.mem_of_getElem? (i := 38) (by decide +kernel)) rfl
set_option maxRecDepth 100000 in
theorem cd_yX8_logged : Cond.code yX8_logged cX8_logged 2 (some (.object "SharedSheet$Operation")) ∈ gtb := mt2 (List.mem_of_getElem? (i := 47) rfl) rfl
theorem im_yX8_logged : Cond.instanceMethod yX8_logged ∈ gtb := mt2 (List.mem_of_getElem? (i := 45) (by decide +kernel)) rfl
theorem se_yX8_logged : Cond.selects yX8_logged.cls yX8_logged yX8_logged ∈ gtb := mt2 (List.mem_of_getElem? (i := 46) (by decide +kernel)) rfl
set_option maxRecDepth 100000 in
theorem cd_yX8_lacking : Cond.code yX8_lacking cX8_lacking 2 (some .int) ∈ gtb := mt2 (List.mem_of_getElem? (i := 35) rfl) rfl
theorem im_yX8_lacking : Cond.instanceMethod yX8_lacking ∈ gtb := mt2 (List.mem_of_getElem? (i := 33) (by decide +kernel)) rfl
theorem se_yX8_lacking : Cond.selects yX8_lacking.cls yX8_lacking yX8_lacking ∈ gtb := mt2 (List.mem_of_getElem? (i := 34) (by decide +kernel)) rfl
set_option maxRecDepth 100000 in
theorem cd_yX8_append : Cond.code yX8_append cX8_append 3 none ∈ gtb := mt4 (List.mem_of_getElem? (i := 23) rfl) rfl
theorem im_yX8_append : Cond.instanceMethod yX8_append ∈ gtb := mt4 (List.mem_of_getElem? (i := 21) (by decide +kernel)) rfl
theorem se_yX8_append : Cond.selects yX8_append.cls yX8_append yX8_append ∈ gtb := mt4 (List.mem_of_getElem? (i := 22) (by decide +kernel)) rfl
set_option maxRecDepth 100000 in
theorem cd_yX8_take : Cond.code yX8_take cX8_take 5 (some .int) ∈ gtb := mt2 (List.mem_of_getElem? (i := 31) rfl) rfl
theorem im_yX8_take : Cond.instanceMethod yX8_take ∈ gtb := mt2 (List.mem_of_getElem? (i := 29) (by decide +kernel)) rfl
theorem se_yX8_take : Cond.selects yX8_take.cls yX8_take yX8_take ∈ gtb := mt2 (List.mem_of_getElem? (i := 30) (by decide +kernel)) rfl
set_option maxRecDepth 100000 in
theorem cd_yX8_reset : Cond.code yX8_reset cX8_reset 2 none ∈ gtb := mt5 (List.mem_of_getElem? (i := 125) rfl) rfl
theorem im_yX8_reset : Cond.instanceMethod yX8_reset ∈ gtb := mt5 (List.mem_of_getElem? (i := 123) (by decide +kernel)) rfl
theorem se_yX8_reset : Cond.selects yX8_reset.cls yX8_reset yX8_reset ∈ gtb := mt5 (List.mem_of_getElem? (i := 124) (by decide +kernel)) rfl
set_option maxRecDepth 100000 in
theorem cd_yX8_carryOut : Cond.code yX8_carryOut cX8_carryOut 2 none ∈ gtb := mt2 (List.mem_of_getElem? (i := 51) rfl) rfl
theorem im_yX8_carryOut : Cond.instanceMethod yX8_carryOut ∈ gtb := mt2 (List.mem_of_getElem? (i := 49) (by decide +kernel)) rfl
theorem se_yX8_carryOut : Cond.selects yX8_carryOut.cls yX8_carryOut yX8_carryOut ∈ gtb := mt2 (List.mem_of_getElem? (i := 50) (by decide +kernel)) rfl
set_option maxRecDepth 100000 in
theorem cd_yX8_carryOutWrite : Cond.code yX8_carryOutWrite cX8_carryOutWrite 4 none ∈ gtb := mt2 (List.mem_of_getElem? (i := 58) rfl) rfl
theorem im_yX8_carryOutWrite : Cond.instanceMethod yX8_carryOutWrite ∈ gtb := mt2 (List.mem_of_getElem? (i := 57) (by decide +kernel)) rfl
theorem se_yX8_carryOutWrite : Cond.selects yX8_carryOutWrite.cls yX8_carryOutWrite yX8_carryOutWrite ∈ gtb := mt0 (List.mem_of_getElem? (i := 3) (by decide +kernel)) rfl
set_option maxRecDepth 100000 in
theorem cd_yX8_writerOf : Cond.code yX8_writerOf cX8_writerOf 2 (some (.object "SharedSheet$Operation")) ∈ gtb := mt2 (List.mem_of_getElem? (i := 153) rfl) rfl
theorem im_yX8_writerOf : Cond.instanceMethod yX8_writerOf ∈ gtb := mt2 (List.mem_of_getElem? (i := 151) (by decide +kernel)) rfl
theorem se_yX8_writerOf : Cond.selects yX8_writerOf.cls yX8_writerOf yX8_writerOf ∈ gtb := mt2 (List.mem_of_getElem? (i := 152) (by decide +kernel)) rfl
set_option maxRecDepth 100000 in
theorem cd_yX8_writerAt : Cond.code yX8_writerAt cX8_writerAt 4 (some (.object "SharedSheet$Operation")) ∈ gtb := mt2 (List.mem_of_getElem? (i := 142) rfl) rfl
theorem im_yX8_writerAt : Cond.instanceMethod yX8_writerAt ∈ gtb := mt2 (List.mem_of_getElem? (i := 140) (by decide +kernel)) rfl
theorem se_yX8_writerAt : Cond.selects yX8_writerAt.cls yX8_writerAt yX8_writerAt ∈ gtb := mt2 (List.mem_of_getElem? (i := 141) (by decide +kernel)) rfl
set_option maxRecDepth 100000 in
theorem cd_yX8_cellOf : Cond.code yX8_cellOf cX8_cellOf 4 (some .int) ∈ gtb := mt2 (List.mem_of_getElem? (i := 197) rfl) rfl
theorem im_yX8_cellOf : Cond.instanceMethod yX8_cellOf ∈ gtb := mt2 (List.mem_of_getElem? (i := 195) (by decide +kernel)) rfl
theorem se_yX8_cellOf : Cond.selects yX8_cellOf.cls yX8_cellOf yX8_cellOf ∈ gtb := mt2 (List.mem_of_getElem? (i := 196) (by decide +kernel)) rfl
set_option maxRecDepth 100000 in
theorem cd_yX8_contentAt : Cond.code yX8_contentAt cX8_contentAt 3 (some (.object "SharedSheet$Content")) ∈ gtb := mt2 (List.mem_of_getElem? (i := 138) rfl) rfl
theorem im_yX8_contentAt : Cond.instanceMethod yX8_contentAt ∈ gtb := mt2 (List.mem_of_getElem? (i := 136) (by decide +kernel)) rfl
theorem se_yX8_contentAt : Cond.selects yX8_contentAt.cls yX8_contentAt yX8_contentAt ∈ gtb := mt2 (List.mem_of_getElem? (i := 137) (by decide +kernel)) rfl
set_option maxRecDepth 100000 in
theorem cd_yX9_init : Cond.code yX9_init cX9_init 1 none ∈ gtb := mt1 (List.mem_of_getElem? (i := 51) rfl) rfl
theorem im_yX9_init : Cond.instanceMethod yX9_init ∈ gtb := mt1 (List.mem_of_getElem? (i := 50) (by decide +kernel)) rfl
set_option maxRecDepth 100000 in
theorem cd_yX9_length : Cond.code yX9_length cX9_length 1 (some .int) ∈ gtb := mt2 (List.mem_of_getElem? (i := 86) rfl) rfl
theorem im_yX9_length : Cond.instanceMethod yX9_length ∈ gtb := mt2 (List.mem_of_getElem? (i := 84) (by decide +kernel)) rfl
theorem se_yX9_length : Cond.selects yX9_length.cls yX9_length yX9_length ∈ gtb := mt2 (List.mem_of_getElem? (i := 85) (by decide +kernel)) rfl
set_option maxRecDepth 100000 in
theorem cd_yX9_isFull : Cond.code yX9_isFull cX9_isFull 1 (some .boolean) ∈ gtb := mt5 (List.mem_of_getElem? (i := 2) rfl) rfl
theorem im_yX9_isFull : Cond.instanceMethod yX9_isFull ∈ gtb := mt5 (List.mem_of_getElem? (i := 0) (by decide +kernel)) rfl
theorem se_yX9_isFull : Cond.selects yX9_isFull.cls yX9_isFull yX9_isFull ∈ gtb := mt5 (List.mem_of_getElem? (i := 1) (by decide +kernel)) rfl
set_option maxRecDepth 100000 in
theorem cd_yX9_at : Cond.code yX9_at cX9_at 2 (some .int) ∈ gtb := mt2 (List.mem_of_getElem? (i := 98) rfl) rfl
theorem im_yX9_at : Cond.instanceMethod yX9_at ∈ gtb := mt2 (List.mem_of_getElem? (i := 96) (by decide +kernel)) rfl
theorem se_yX9_at : Cond.selects yX9_at.cls yX9_at yX9_at ∈ gtb := mt2 (List.mem_of_getElem? (i := 97) (by decide +kernel)) rfl
set_option maxRecDepth 100000 in
theorem cd_yX9_empty : Cond.code yX9_empty cX9_empty 1 none ∈ gtb := mt2 (List.mem_of_getElem? (i := 90) rfl) rfl
theorem im_yX9_empty : Cond.instanceMethod yX9_empty ∈ gtb := mt2 (List.mem_of_getElem? (i := 88) (by decide +kernel)) rfl
theorem se_yX9_empty : Cond.selects yX9_empty.cls yX9_empty yX9_empty ∈ gtb := mt2 (List.mem_of_getElem? (i := 89) (by decide +kernel)) rfl
set_option maxRecDepth 100000 in
theorem cd_yX9_append : Cond.code yX9_append cX9_append 2 none ∈ gtb := mt4 (List.mem_of_getElem? (i := 238) rfl) rfl
theorem im_yX9_append : Cond.instanceMethod yX9_append ∈ gtb := mt4 (List.mem_of_getElem? (i := 236) (by decide +kernel)) rfl
theorem se_yX9_append : Cond.selects yX9_append.cls yX9_append yX9_append ∈ gtb := mt4 (List.mem_of_getElem? (i := 237) (by decide +kernel)) rfl
set_option maxRecDepth 100000 in
theorem cd_yX9_appendNumber : Cond.code yX9_appendNumber cX9_appendNumber 3 none ∈ gtb := mt5 (List.mem_of_getElem? (i := 8) rfl) rfl
theorem im_yX9_appendNumber : Cond.instanceMethod yX9_appendNumber ∈ gtb := mt5 (List.mem_of_getElem? (i := 6) (by decide +kernel)) rfl
theorem se_yX9_appendNumber : Cond.selects yX9_appendNumber.cls yX9_appendNumber yX9_appendNumber ∈ gtb := mt5 (List.mem_of_getElem? (i := 7) (by decide +kernel)) rfl
set_option maxRecDepth 100000 in
theorem cd_yX10_init : Cond.code yX10_init cX10_init 2 none ∈ gtb := mt1 (List.mem_of_getElem? (i := 27) rfl) rfl
theorem im_yX10_init : Cond.instanceMethod yX10_init ∈ gtb := mt1 (List.mem_of_getElem? (i := 26) (by decide +kernel)) rfl
set_option maxRecDepth 100000 in
theorem cd_yX10_make : Cond.code yX10_make cX10_make 8 (some .int) ∈ gtb := mt3 (List.mem_of_getElem? (i := 88) rfl) rfl
theorem im_yX10_make : Cond.instanceMethod yX10_make ∈ gtb := mt3 (List.mem_of_getElem? (i := 86) (by decide +kernel)) rfl
theorem se_yX10_make : Cond.selects yX10_make.cls yX10_make yX10_make ∈ gtb := mt3 (List.mem_of_getElem? (i := 87) (by decide +kernel)) rfl
set_option maxRecDepth 100000 in
theorem cd_yX10_move : Cond.code yX10_move cX10_move 9 (some .int) ∈ gtb := mt4 (List.mem_of_getElem? (i := 30) rfl) rfl
theorem im_yX10_move : Cond.instanceMethod yX10_move ∈ gtb := mt4 (List.mem_of_getElem? (i := 28) (by decide +kernel)) rfl
theorem se_yX10_move : Cond.selects yX10_move.cls yX10_move yX10_move ∈ gtb := mt4 (List.mem_of_getElem? (i := 29) (by decide +kernel)) rfl
set_option maxRecDepth 100000 in
theorem cd_yX10_remove : Cond.code yX10_remove cX10_remove 6 (some .int) ∈ gtb := mt4 (List.mem_of_getElem? (i := 39) rfl) rfl
theorem im_yX10_remove : Cond.instanceMethod yX10_remove ∈ gtb := mt4 (List.mem_of_getElem? (i := 37) (by decide +kernel)) rfl
theorem se_yX10_remove : Cond.selects yX10_remove.cls yX10_remove yX10_remove ∈ gtb := mt4 (List.mem_of_getElem? (i := 38) (by decide +kernel)) rfl
set_option maxRecDepth 100000 in
theorem cd_yX10_shown : Cond.code yX10_shown cX10_shown 3 (some .int) ∈ gtb := mt4 (List.mem_of_getElem? (i := 46) rfl) rfl
theorem im_yX10_shown : Cond.instanceMethod yX10_shown ∈ gtb := mt4 (List.mem_of_getElem? (i := 44) (by decide +kernel)) rfl
theorem se_yX10_shown : Cond.selects yX10_shown.cls yX10_shown yX10_shown ∈ gtb := mt4 (List.mem_of_getElem? (i := 45) (by decide +kernel)) rfl
set_option maxRecDepth 100000 in
theorem cd_yX10_line : Cond.code yX10_line cX10_line 4 (some .int) ∈ gtb := mt4 (List.mem_of_getElem? (i := 53) rfl) rfl
theorem im_yX10_line : Cond.instanceMethod yX10_line ∈ gtb := mt4 (List.mem_of_getElem? (i := 51) (by decide +kernel)) rfl
theorem se_yX10_line : Cond.selects yX10_line.cls yX10_line yX10_line ∈ gtb := mt4 (List.mem_of_getElem? (i := 52) (by decide +kernel)) rfl
set_option maxRecDepth 100000 in
theorem cd_yX10_position : Cond.code yX10_position cX10_position 5 (some .int) ∈ gtb := mt4 (List.mem_of_getElem? (i := 61) rfl) rfl
theorem im_yX10_position : Cond.instanceMethod yX10_position ∈ gtb := mt4 (List.mem_of_getElem? (i := 59) (by decide +kernel)) rfl
theorem se_yX10_position : Cond.selects yX10_position.cls yX10_position yX10_position ∈ gtb := mt4 (List.mem_of_getElem? (i := 60) (by decide +kernel)) rfl
set_option maxRecDepth 100000 in
theorem cd_yX10_place : Cond.code yX10_place cX10_place 5 (some .int) ∈ gtb := mt4 (List.mem_of_getElem? (i := 87) rfl) rfl
theorem im_yX10_place : Cond.instanceMethod yX10_place ∈ gtb := mt4 (List.mem_of_getElem? (i := 85) (by decide +kernel)) rfl
theorem se_yX10_place : Cond.selects yX10_place.cls yX10_place yX10_place ∈ gtb := mt4 (List.mem_of_getElem? (i := 86) (by decide +kernel)) rfl
set_option maxRecDepth 100000 in
theorem cd_yX10_setNumber : Cond.code yX10_setNumber cX10_setNumber 6 (some .int) ∈ gtb := mt4 (List.mem_of_getElem? (i := 94) rfl) rfl
theorem im_yX10_setNumber : Cond.instanceMethod yX10_setNumber ∈ gtb := mt4 (List.mem_of_getElem? (i := 92) (by decide +kernel)) rfl
theorem se_yX10_setNumber : Cond.selects yX10_setNumber.cls yX10_setNumber yX10_setNumber ∈ gtb := mt4 (List.mem_of_getElem? (i := 93) (by decide +kernel)) rfl
set_option maxRecDepth 100000 in
theorem cd_yX10_clearCell : Cond.code yX10_clearCell cX10_clearCell 5 (some .int) ∈ gtb := mt4 (List.mem_of_getElem? (i := 110) rfl) rfl
theorem im_yX10_clearCell : Cond.instanceMethod yX10_clearCell ∈ gtb := mt4 (List.mem_of_getElem? (i := 108) (by decide +kernel)) rfl
theorem se_yX10_clearCell : Cond.selects yX10_clearCell.cls yX10_clearCell yX10_clearCell ∈ gtb := mt4 (List.mem_of_getElem? (i := 109) (by decide +kernel)) rfl
set_option maxRecDepth 100000 in
theorem cd_yX10_setFormula : Cond.code yX10_setFormula cX10_setFormula 5 (some .int) ∈ gtb := mt4 (List.mem_of_getElem? (i := 117) rfl) rfl
theorem im_yX10_setFormula : Cond.instanceMethod yX10_setFormula ∈ gtb := mt4 (List.mem_of_getElem? (i := 115) (by decide +kernel)) rfl
theorem se_yX10_setFormula : Cond.selects yX10_setFormula.cls yX10_setFormula yX10_setFormula ∈ gtb := mt4 (List.mem_of_getElem? (i := 116) (by decide +kernel)) rfl
set_option maxRecDepth 100000 in
theorem cd_yX10_cell : Cond.code yX10_cell cX10_cell 7 (some .int) ∈ gtb := mt4 (List.mem_of_getElem? (i := 184) rfl) rfl
theorem im_yX10_cell : Cond.instanceMethod yX10_cell ∈ gtb := mt4 (List.mem_of_getElem? (i := 182) (by decide +kernel)) rfl
theorem se_yX10_cell : Cond.selects yX10_cell.cls yX10_cell yX10_cell ∈ gtb := mt4 (List.mem_of_getElem? (i := 183) (by decide +kernel)) rfl
set_option maxRecDepth 100000 in
theorem cd_yX10_value : Cond.code yX10_value cX10_value 5 (some .int) ∈ gtb := mt4 (List.mem_of_getElem? (i := 213) rfl) rfl
theorem im_yX10_value : Cond.instanceMethod yX10_value ∈ gtb := mt4 (List.mem_of_getElem? (i := 211) (by decide +kernel)) rfl
theorem se_yX10_value : Cond.selects yX10_value.cls yX10_value yX10_value ∈ gtb := mt4 (List.mem_of_getElem? (i := 212) (by decide +kernel)) rfl
set_option maxRecDepth 100000 in
theorem cd_yX10_error : Cond.code yX10_error cX10_error 5 (some .int) ∈ gtb := mt4 (List.mem_of_getElem? (i := 220) rfl) rfl
theorem im_yX10_error : Cond.instanceMethod yX10_error ∈ gtb := mt4 (List.mem_of_getElem? (i := 218) (by decide +kernel)) rfl
theorem se_yX10_error : Cond.selects yX10_error.cls yX10_error yX10_error ∈ gtb := mt4 (List.mem_of_getElem? (i := 219) (by decide +kernel)) rfl
set_option maxRecDepth 100000 in
theorem cd_yX10_write : Cond.code yX10_write cX10_write 6 (some .int) ∈ gtb := mt4 (List.mem_of_getElem? (i := 227) rfl) rfl
theorem im_yX10_write : Cond.instanceMethod yX10_write ∈ gtb := mt4 (List.mem_of_getElem? (i := 225) (by decide +kernel)) rfl
theorem se_yX10_write : Cond.selects yX10_write.cls yX10_write yX10_write ∈ gtb := mt4 (List.mem_of_getElem? (i := 226) (by decide +kernel)) rfl
set_option maxRecDepth 100000 in
theorem cd_yX10_cycles : Cond.code yX10_cycles cX10_cycles 3 (some .int) ∈ gtb := mt5 (List.mem_of_getElem? (i := 21) rfl) rfl
theorem im_yX10_cycles : Cond.instanceMethod yX10_cycles ∈ gtb := mt5 (List.mem_of_getElem? (i := 19) (by decide +kernel)) rfl
theorem se_yX10_cycles : Cond.selects yX10_cycles.cls yX10_cycles yX10_cycles ∈ gtb := mt5 (List.mem_of_getElem? (i := 20) (by decide +kernel)) rfl
set_option maxRecDepth 100000 in
theorem cd_yX10_order : Cond.code yX10_order cX10_order 4 (some .int) ∈ gtb := mt5 (List.mem_of_getElem? (i := 28) rfl) rfl
theorem im_yX10_order : Cond.instanceMethod yX10_order ∈ gtb := mt5 (List.mem_of_getElem? (i := 26) (by decide +kernel)) rfl
theorem se_yX10_order : Cond.selects yX10_order.cls yX10_order yX10_order ∈ gtb := mt5 (List.mem_of_getElem? (i := 27) (by decide +kernel)) rfl
set_option maxRecDepth 100000 in
theorem cd_yX10_receive : Cond.code yX10_receive cX10_receive 6 (some .int) ∈ gtb := mt5 (List.mem_of_getElem? (i := 35) rfl) rfl
theorem im_yX10_receive : Cond.instanceMethod yX10_receive ∈ gtb := mt5 (List.mem_of_getElem? (i := 33) (by decide +kernel)) rfl
theorem se_yX10_receive : Cond.selects yX10_receive.cls yX10_receive yX10_receive ∈ gtb := mt5 (List.mem_of_getElem? (i := 34) (by decide +kernel)) rfl
set_option maxRecDepth 100000 in
theorem cd_yX10_settle : Cond.code yX10_settle cX10_settle 4 (some .int) ∈ gtb := mt2 (List.mem_of_getElem? (i := 15) rfl) rfl
theorem im_yX10_settle : Cond.instanceMethod yX10_settle ∈ gtb := mt2 (List.mem_of_getElem? (i := 13) (by decide +kernel)) rfl
theorem se_yX10_settle : Cond.selects yX10_settle.cls yX10_settle yX10_settle ∈ gtb := mt2 (List.mem_of_getElem? (i := 14) (by decide +kernel)) rfl
set_option maxRecDepth 100000 in
theorem cd_yX10_missing : Cond.code yX10_missing cX10_missing 5 (some .int) ∈ gtb := mt5 (List.mem_of_getElem? (i := 46) rfl) rfl
theorem im_yX10_missing : Cond.instanceMethod yX10_missing ∈ gtb := mt5 (List.mem_of_getElem? (i := 44) (by decide +kernel)) rfl
theorem se_yX10_missing : Cond.selects yX10_missing.cls yX10_missing yX10_missing ∈ gtb := mt5 (List.mem_of_getElem? (i := 45) (by decide +kernel)) rfl
set_option maxRecDepth 100000 in
theorem cd_yX10_clock : Cond.code yX10_clock cX10_clock 2 (some .int) ∈ gtb := mt5 (List.mem_of_getElem? (i := 53) rfl) rfl
theorem im_yX10_clock : Cond.instanceMethod yX10_clock ∈ gtb := mt5 (List.mem_of_getElem? (i := 51) (by decide +kernel)) rfl
theorem se_yX10_clock : Cond.selects yX10_clock.cls yX10_clock yX10_clock ∈ gtb := mt5 (List.mem_of_getElem? (i := 52) (by decide +kernel)) rfl
set_option maxRecDepth 100000 in
theorem cd_yX10_operation : Cond.code yX10_operation cX10_operation 6 (some .int) ∈ gtb := mt5 (List.mem_of_getElem? (i := 60) rfl) rfl
theorem im_yX10_operation : Cond.instanceMethod yX10_operation ∈ gtb := mt5 (List.mem_of_getElem? (i := 58) (by decide +kernel)) rfl
theorem se_yX10_operation : Cond.selects yX10_operation.cls yX10_operation yX10_operation ∈ gtb := mt5 (List.mem_of_getElem? (i := 59) (by decide +kernel)) rfl
set_option maxRecDepth 100000 in
theorem cd_yX10_areAlike : Cond.code yX10_areAlike cX10_areAlike 10 (some .boolean) ∈ gtb := mt5 (List.mem_of_getElem? (i := 71) rfl) rfl
theorem im_yX10_areAlike : Cond.instanceMethod yX10_areAlike ∈ gtb := mt5 (List.mem_of_getElem? (i := 69) (by decide +kernel)) rfl
theorem se_yX10_areAlike : Cond.selects yX10_areAlike.cls yX10_areAlike yX10_areAlike ∈ gtb := mt5 (List.mem_of_getElem? (i := 70) (by decide +kernel)) rfl
set_option maxRecDepth 100000 in
theorem cd_yX10_different : Cond.code yX10_different cX10_different 7 (some .int) ∈ gtb := mt5 (List.mem_of_getElem? (i := 88) rfl) rfl
theorem im_yX10_different : Cond.instanceMethod yX10_different ∈ gtb := mt5 (List.mem_of_getElem? (i := 86) (by decide +kernel)) rfl
theorem se_yX10_different : Cond.selects yX10_different.cls yX10_different yX10_different ∈ gtb := mt5 (List.mem_of_getElem? (i := 87) (by decide +kernel)) rfl
set_option maxRecDepth 100000 in
theorem cd_yX10_type : Cond.code yX10_type cX10_type 2 (some .int) ∈ gtb := mt5 (List.mem_of_getElem? (i := 99) rfl) rfl
theorem im_yX10_type : Cond.instanceMethod yX10_type ∈ gtb := mt5 (List.mem_of_getElem? (i := 97) (by decide +kernel)) rfl
theorem se_yX10_type : Cond.selects yX10_type.cls yX10_type yX10_type ∈ gtb := mt5 (List.mem_of_getElem? (i := 98) (by decide +kernel)) rfl
set_option maxRecDepth 100000 in
theorem cd_yX10_clearText : Cond.code yX10_clearText cX10_clearText 2 (some .int) ∈ gtb := mt2 (List.mem_of_getElem? (i := 82) rfl) rfl
theorem im_yX10_clearText : Cond.instanceMethod yX10_clearText ∈ gtb := mt2 (List.mem_of_getElem? (i := 80) (by decide +kernel)) rfl
theorem se_yX10_clearText : Cond.selects yX10_clearText.cls yX10_clearText yX10_clearText ∈ gtb := mt2 (List.mem_of_getElem? (i := 81) (by decide +kernel)) rfl
set_option maxRecDepth 100000 in
theorem cd_yX10_fault : Cond.code yX10_fault cX10_fault 2 (some .int) ∈ gtb := mt5 (List.mem_of_getElem? (i := 109) rfl) rfl
theorem im_yX10_fault : Cond.instanceMethod yX10_fault ∈ gtb := mt5 (List.mem_of_getElem? (i := 107) (by decide +kernel)) rfl
theorem se_yX10_fault : Cond.selects yX10_fault.cls yX10_fault yX10_fault ∈ gtb := mt5 (List.mem_of_getElem? (i := 108) (by decide +kernel)) rfl
set_option maxRecDepth 100000 in
theorem cd_yX10_character : Cond.code yX10_character cX10_character 2 (some .int) ∈ gtb := mt2 (List.mem_of_getElem? (i := 94) rfl) rfl
theorem im_yX10_character : Cond.instanceMethod yX10_character ∈ gtb := mt2 (List.mem_of_getElem? (i := 92) (by decide +kernel)) rfl
theorem se_yX10_character : Cond.selects yX10_character.cls yX10_character yX10_character ∈ gtb := mt2 (List.mem_of_getElem? (i := 93) (by decide +kernel)) rfl
set_option maxRecDepth 100000 in
theorem cd_yX10_undo : Cond.code yX10_undo cX10_undo 1 (some .int) ∈ gtb := mt5 (List.mem_of_getElem? (i := 116) rfl) rfl
theorem im_yX10_undo : Cond.instanceMethod yX10_undo ∈ gtb := mt5 (List.mem_of_getElem? (i := 114) (by decide +kernel)) rfl
theorem se_yX10_undo : Cond.selects yX10_undo.cls yX10_undo yX10_undo ∈ gtb := mt5 (List.mem_of_getElem? (i := 115) (by decide +kernel)) rfl
set_option maxRecDepth 100000 in
theorem cd_yX10_checksum : Cond.code yX10_checksum cX10_checksum 6 (some .long) ∈ gtb := mt2 (List.mem_of_getElem? (i := 102) rfl) rfl
theorem im_yX10_checksum : Cond.instanceMethod yX10_checksum ∈ gtb := mt2 (List.mem_of_getElem? (i := 100) (by decide +kernel)) rfl
theorem se_yX10_checksum : Cond.selects yX10_checksum.cls yX10_checksum yX10_checksum ∈ gtb := mt2 (List.mem_of_getElem? (i := 101) (by decide +kernel)) rfl
set_option maxRecDepth 100000 in
theorem cd_yX10_replicaAt : Cond.code yX10_replicaAt cX10_replicaAt 2 (some (.object "SharedSheet$Replica")) ∈ gtb := mt3 (List.mem_of_getElem? (i := 92) rfl) rfl
theorem im_yX10_replicaAt : Cond.instanceMethod yX10_replicaAt ∈ gtb := mt3 (List.mem_of_getElem? (i := 91) (by decide +kernel)) rfl
theorem se_yX10_replicaAt : Cond.selects yX10_replicaAt.cls yX10_replicaAt yX10_replicaAt ∈ gtb := mt0 (List.mem_of_getElem? (i := 18) (by decide +kernel)) rfl
set_option maxRecDepth 100000 in
theorem cd_yX10_requireIndex : Cond.code yX10_requireIndex cX10_requireIndex 2 none ∈ gtb := mt3 (List.mem_of_getElem? (i := 164) rfl) rfl
theorem sm_yX10_requireIndex : Cond.static yX10_requireIndex ∈ gtb := mt3 (List.mem_of_getElem? (i := 163) (by decide +kernel)) rfl
set_option maxRecDepth 100000 in
theorem cd_yX10_requireCell : Cond.code yX10_requireCell cX10_requireCell 3 none ∈ gtb := mt4 (List.mem_of_getElem? (i := 97) rfl) rfl
theorem sm_yX10_requireCell : Cond.static yX10_requireCell ∈ gtb := mt4 (List.mem_of_getElem? (i := 96) (by decide +kernel)) rfl
set_option maxRecDepth 100000 in
theorem cd_yX10_requireArgument : Cond.code yX10_requireArgument cX10_requireArgument 3 none ∈ gtb := mt4 (List.mem_of_getElem? (i := 64) rfl) rfl
theorem sm_yX10_requireArgument : Cond.static yX10_requireArgument ∈ gtb := mt4 (List.mem_of_getElem? (i := 63) (by decide +kernel)) rfl
set_option maxRecDepth 100000 in
theorem cd_yX10_requireOther : Cond.code yX10_requireOther cX10_requireOther 2 none ∈ gtb := mt5 (List.mem_of_getElem? (i := 38) rfl) rfl
theorem sm_yX10_requireOther : Cond.static yX10_requireOther ∈ gtb := mt5 (List.mem_of_getElem? (i := 37) (by decide +kernel)) rfl
set_option maxRecDepth 100000 in
theorem cd_yX10_requireLogRoom : Cond.code yX10_requireLogRoom cX10_requireLogRoom 1 none ∈ gtb := mt3 (List.mem_of_getElem? (i := 208) rfl) rfl
theorem sm_yX10_requireLogRoom : Cond.static yX10_requireLogRoom ∈ gtb := mt3 (List.mem_of_getElem? (i := 207) (by decide +kernel)) rfl
set_option maxRecDepth 100000 in
theorem cd_yX10_changeLine : Cond.code yX10_changeLine cX10_changeLine 6 none ∈ gtb := mt3 (List.mem_of_getElem? (i := 205) rfl) rfl
theorem im_yX10_changeLine : Cond.instanceMethod yX10_changeLine ∈ gtb := mt3 (List.mem_of_getElem? (i := 204) (by decide +kernel)) rfl
theorem se_yX10_changeLine : Cond.selects yX10_changeLine.cls yX10_changeLine yX10_changeLine ∈ gtb := mt0 (List.mem_of_getElem? (i := 21) (by decide +kernel)) rfl
set_option maxRecDepth 100000 in
theorem cd_yX10_writeContent : Cond.code yX10_writeContent cX10_writeContent 7 (some .int) ∈ gtb := mt4 (List.mem_of_getElem? (i := 103) rfl) rfl
theorem im_yX10_writeContent : Cond.instanceMethod yX10_writeContent ∈ gtb := mt4 (List.mem_of_getElem? (i := 102) (by decide +kernel)) rfl
theorem se_yX10_writeContent : Cond.selects yX10_writeContent.cls yX10_writeContent yX10_writeContent ∈ gtb := mt0 (List.mem_of_getElem? (i := 22) (by decide +kernel)) rfl
set_option maxRecDepth 100000 in
theorem cd_yX10_aboutContent : Cond.code yX10_aboutContent cX10_aboutContent 4 (some .int) ∈ gtb := mt3 (List.mem_of_getElem? (i := 47) rfl) rfl
theorem sm_yX10_aboutContent : Cond.static yX10_aboutContent ∈ gtb := mt3 (List.mem_of_getElem? (i := 46) (by decide +kernel)) rfl
set_option maxRecDepth 100000 in
theorem cd_yX10_aboutReferences : Cond.code yX10_aboutReferences cX10_aboutReferences 3 (some .int) ∈ gtb := mt4 (List.mem_of_getElem? (i := 187) rfl) rfl
theorem sm_yX10_aboutReferences : Cond.static yX10_aboutReferences ∈ gtb := mt4 (List.mem_of_getElem? (i := 186) (by decide +kernel)) rfl
set_option maxRecDepth 100000 in
theorem cd_yX10_aboutOperation : Cond.code yX10_aboutOperation cX10_aboutOperation 2 (some .int) ∈ gtb := mt5 (List.mem_of_getElem? (i := 64) rfl) rfl
theorem sm_yX10_aboutOperation : Cond.static yX10_aboutOperation ∈ gtb := mt5 (List.mem_of_getElem? (i := 63) (by decide +kernel)) rfl
set_option maxRecDepth 100000 in
theorem cd_yX10_toldOrder : Cond.code yX10_toldOrder cX10_toldOrder 3 (some .int) ∈ gtb := mt3 (List.mem_of_getElem? (i := 71) rfl) rfl
theorem sm_yX10_toldOrder : Cond.static yX10_toldOrder ∈ gtb := mt3 (List.mem_of_getElem? (i := 70) (by decide +kernel)) rfl
set_option maxRecDepth 100000 in
theorem cd_yX10_hasSameContent : Cond.code yX10_hasSameContent cX10_hasSameContent 5 (some .boolean) ∈ gtb := mt5 (List.mem_of_getElem? (i := 78) rfl) rfl
theorem sm_yX10_hasSameContent : Cond.static yX10_hasSameContent ∈ gtb := mt5 (List.mem_of_getElem? (i := 77) (by decide +kernel)) rfl
set_option maxRecDepth 100000 in
theorem cd_yX10_hasSameResult : Cond.code yX10_hasSameResult cX10_hasSameResult 3 (some .boolean) ∈ gtb := mt5 (List.mem_of_getElem? (i := 81) rfl) rfl
theorem sm_yX10_hasSameResult : Cond.static yX10_hasSameResult ∈ gtb := mt5 (List.mem_of_getElem? (i := 80) (by decide +kernel)) rfl
set_option maxRecDepth 100000 in
theorem cd_yX10_hasSameStamp : Cond.code yX10_hasSameStamp cX10_hasSameStamp 2 (some .boolean) ∈ gtb := mt5 (List.mem_of_getElem? (i := 92) rfl) rfl
theorem sm_yX10_hasSameStamp : Cond.static yX10_hasSameStamp ∈ gtb := mt5 (List.mem_of_getElem? (i := 91) (by decide +kernel)) rfl
set_option maxRecDepth 100000 in
theorem cd_yX10_mixed : Cond.code yX10_mixed cX10_mixed 4 (some .long) ∈ gtb := mt2 (List.mem_of_getElem? (i := 106) rfl) rfl
theorem sm_yX10_mixed : Cond.static yX10_mixed ∈ gtb := mt2 (List.mem_of_getElem? (i := 105) (by decide +kernel)) rfl
set_option maxRecDepth 100000 in
theorem cd_yX10_mixedLines : Cond.code yX10_mixedLines cX10_mixedLines 7 (some .long) ∈ gtb := mt2 (List.mem_of_getElem? (i := 112) rfl) rfl
theorem sm_yX10_mixedLines : Cond.static yX10_mixedLines ∈ gtb := mt2 (List.mem_of_getElem? (i := 111) (by decide +kernel)) rfl
set_option maxRecDepth 100000 in
theorem cd_yX10_mixedCells : Cond.code yX10_mixedCells cX10_mixedCells 10 (some .long) ∈ gtb := mt3 (List.mem_of_getElem? (i := 44) rfl) rfl
theorem sm_yX10_mixedCells : Cond.static yX10_mixedCells ∈ gtb := mt3 (List.mem_of_getElem? (i := 43) (by decide +kernel)) rfl
set_option maxRecDepth 100000 in
theorem cd_yX10_mixedOrder : Cond.code yX10_mixedOrder cX10_mixedOrder 6 (some .long) ∈ gtb := mt3 (List.mem_of_getElem? (i := 60) rfl) rfl
theorem sm_yX10_mixedOrder : Cond.static yX10_mixedOrder ∈ gtb := mt3 (List.mem_of_getElem? (i := 59) (by decide +kernel)) rfl
set_option maxRecDepth 100000 in
theorem cd_yX10_isCell : Cond.code yX10_isCell cX10_isCell 1 (some .boolean) ∈ gtb := mt2 (List.mem_of_getElem? (i := 61) rfl) rfl
theorem sm_yX10_isCell : Cond.static yX10_isCell ∈ gtb := mt2 (List.mem_of_getElem? (i := 60) (by decide +kernel)) rfl
set_option maxRecDepth 100000 in
theorem cd_yX11_init : Cond.code yX11_init cX11_init 5 none ∈ gtb := mt5 (List.mem_of_getElem? (i := 136) rfl) rfl
theorem im_yX11_init : Cond.instanceMethod yX11_init ∈ gtb := mt5 (List.mem_of_getElem? (i := 135) (by decide +kernel)) rfl
set_option maxRecDepth 100000 in
theorem cd_yX11_thrown : Cond.code yX11_thrown cX11_thrown 1 (some .int) ∈ gtb := mt5 (List.mem_of_getElem? (i := 238) rfl) rfl
theorem im_yX11_thrown : Cond.instanceMethod yX11_thrown ∈ gtb := mt5 (List.mem_of_getElem? (i := 236) (by decide +kernel)) rfl
theorem se_yX11_thrown : Cond.selects yX11_thrown.cls yX11_thrown yX11_thrown ∈ gtb := mt5 (List.mem_of_getElem? (i := 237) (by decide +kernel)) rfl
set_option maxRecDepth 100000 in
theorem cd_yX11_in : Cond.code yX11_in cX11_in 3 (some .boolean) ∈ gtb := mt6 (List.mem_of_getElem? (i := 11) rfl) rfl
theorem sm_yX11_in : Cond.static yX11_in ∈ gtb := mt6 (List.mem_of_getElem? (i := 10) (by decide +kernel)) rfl
set_option maxRecDepth 100000 in
theorem cd_yX11_fails : Cond.code yX11_fails cX11_fails 2 (some .int) ∈ gtb := mt6 (List.mem_of_getElem? (i := 15) rfl) rfl
theorem im_yX11_fails : Cond.instanceMethod yX11_fails ∈ gtb := mt6 (List.mem_of_getElem? (i := 14) (by decide +kernel)) rfl
theorem se_yX11_fails : Cond.selects yX11_fails.cls yX11_fails yX11_fails ∈ gtb := mt0 (List.mem_of_getElem? (i := 29) (by decide +kernel)) rfl
set_option maxRecDepth 100000 in
theorem cd_yX11_tells : Cond.code yX11_tells cX11_tells 2 (some .int) ∈ gtb := mt6 (List.mem_of_getElem? (i := 66) rfl) rfl
theorem im_yX11_tells : Cond.instanceMethod yX11_tells ∈ gtb := mt6 (List.mem_of_getElem? (i := 65) (by decide +kernel)) rfl
theorem se_yX11_tells : Cond.selects yX11_tells.cls yX11_tells yX11_tells ∈ gtb := mt0 (List.mem_of_getElem? (i := 41) (by decide +kernel)) rfl
set_option maxRecDepth 100000 in
theorem cd_yX11_hold : Cond.code yX11_hold cX11_hold 2 none ∈ gtb := mt6 (List.mem_of_getElem? (i := 39) rfl) rfl
theorem im_yX11_hold : Cond.instanceMethod yX11_hold ∈ gtb := mt6 (List.mem_of_getElem? (i := 38) (by decide +kernel)) rfl
theorem se_yX11_hold : Cond.selects yX11_hold.cls yX11_hold yX11_hold ∈ gtb := mt0 (List.mem_of_getElem? (i := 35) (by decide +kernel)) rfl
set_option maxRecDepth 100000 in
theorem cd_yX11_ends : Cond.code yX11_ends cX11_ends 3 (some .int) ∈ gtb := mt6 (List.mem_of_getElem? (i := 62) rfl) rfl
theorem im_yX11_ends : Cond.instanceMethod yX11_ends ∈ gtb := mt6 (List.mem_of_getElem? (i := 61) (by decide +kernel)) rfl
theorem se_yX11_ends : Cond.selects yX11_ends.cls yX11_ends yX11_ends ∈ gtb := mt0 (List.mem_of_getElem? (i := 40) (by decide +kernel)) rfl
set_option maxRecDepth 100000 in
theorem cd_yX11_isReplica : Cond.code yX11_isReplica cX11_isReplica 1 (some .boolean) ∈ gtb := mt6 (List.mem_of_getElem? (i := 8) rfl) rfl
theorem sm_yX11_isReplica : Cond.static yX11_isReplica ∈ gtb := mt6 (List.mem_of_getElem? (i := 7) (by decide +kernel)) rfl
set_option maxRecDepth 100000 in
theorem cd_yX11_lineAt : Cond.code yX11_lineAt cX11_lineAt 2 (some .int) ∈ gtb := mt5 (List.mem_of_getElem? (i := 140) rfl) rfl
theorem sm_yX11_lineAt : Cond.static yX11_lineAt ∈ gtb := mt5 (List.mem_of_getElem? (i := 139) (by decide +kernel)) rfl
set_option maxRecDepth 100000 in
theorem cd_yX11_of : Cond.code yX11_of cX11_of 3 (some .int) ∈ gtb := mt6 (List.mem_of_getElem? (i := 31) rfl) rfl
theorem im_yX11_of : Cond.instanceMethod yX11_of ∈ gtb := mt6 (List.mem_of_getElem? (i := 30) (by decide +kernel)) rfl
theorem se_yX11_of : Cond.selects yX11_of.cls yX11_of yX11_of ∈ gtb := mt0 (List.mem_of_getElem? (i := 33) (by decide +kernel)) rfl
set_option maxRecDepth 100000 in
theorem cd_yX11_puts : Cond.code yX11_puts cX11_puts 4 none ∈ gtb := mt6 (List.mem_of_getElem? (i := 43) rfl) rfl
theorem im_yX11_puts : Cond.instanceMethod yX11_puts ∈ gtb := mt6 (List.mem_of_getElem? (i := 42) (by decide +kernel)) rfl
theorem se_yX11_puts : Cond.selects yX11_puts.cls yX11_puts yX11_puts ∈ gtb := mt0 (List.mem_of_getElem? (i := 36) (by decide +kernel)) rfl
set_option maxRecDepth 100000 in
theorem cd_yX11_op : Cond.code yX11_op cX11_op 3 (some .int) ∈ gtb := mt6 (List.mem_of_getElem? (i := 55) rfl) rfl
theorem im_yX11_op : Cond.instanceMethod yX11_op ∈ gtb := mt6 (List.mem_of_getElem? (i := 54) (by decide +kernel)) rfl
theorem se_yX11_op : Cond.selects yX11_op.cls yX11_op yX11_op ∈ gtb := mt0 (List.mem_of_getElem? (i := 39) (by decide +kernel)) rfl
set_option maxRecDepth 100000 in
theorem cd_yX11_isShown : Cond.code yX11_isShown cX11_isShown 3 (some .boolean) ∈ gtb := mt6 (List.mem_of_getElem? (i := 23) rfl) rfl
theorem im_yX11_isShown : Cond.instanceMethod yX11_isShown ∈ gtb := mt6 (List.mem_of_getElem? (i := 22) (by decide +kernel)) rfl
theorem se_yX11_isShown : Cond.selects yX11_isShown.cls yX11_isShown yX11_isShown ∈ gtb := mt0 (List.mem_of_getElem? (i := 31) (by decide +kernel)) rfl
set_option maxRecDepth 100000 in
theorem cd_yX11_lays : Cond.code yX11_lays cX11_lays 9 (some .int) ∈ gtb := mt6 (List.mem_of_getElem? (i := 19) rfl) rfl
theorem im_yX11_lays : Cond.instanceMethod yX11_lays ∈ gtb := mt6 (List.mem_of_getElem? (i := 18) (by decide +kernel)) rfl
theorem se_yX11_lays : Cond.selects yX11_lays.cls yX11_lays yX11_lays ∈ gtb := mt0 (List.mem_of_getElem? (i := 30) (by decide +kernel)) rfl
set_option maxRecDepth 100000 in
theorem cd_yX11_looks : Cond.code yX11_looks cX11_looks 2 none ∈ gtb := mt6 (List.mem_of_getElem? (i := 106) rfl) rfl
theorem im_yX11_looks : Cond.instanceMethod yX11_looks ∈ gtb := mt6 (List.mem_of_getElem? (i := 105) (by decide +kernel)) rfl
theorem se_yX11_looks : Cond.selects yX11_looks.cls yX11_looks yX11_looks ∈ gtb := mt0 (List.mem_of_getElem? (i := 44) (by decide +kernel)) rfl
set_option maxRecDepth 100000 in
theorem cd_yX11_positionOf : Cond.code yX11_positionOf cX11_positionOf 6 (some .int) ∈ gtb := mt6 (List.mem_of_getElem? (i := 74) rfl) rfl
theorem im_yX11_positionOf : Cond.instanceMethod yX11_positionOf ∈ gtb := mt6 (List.mem_of_getElem? (i := 73) (by decide +kernel)) rfl
theorem se_yX11_positionOf : Cond.selects yX11_positionOf.cls yX11_positionOf yX11_positionOf ∈ gtb := mt0 (List.mem_of_getElem? (i := 42) (by decide +kernel)) rfl
set_option maxRecDepth 100000 in
theorem cd_yX11_between : Cond.code yX11_between cX11_between 8 (some .int) ∈ gtb := mt6 (List.mem_of_getElem? (i := 27) rfl) rfl
theorem im_yX11_between : Cond.instanceMethod yX11_between ∈ gtb := mt6 (List.mem_of_getElem? (i := 26) (by decide +kernel)) rfl
theorem se_yX11_between : Cond.selects yX11_between.cls yX11_between yX11_between ∈ gtb := mt0 (List.mem_of_getElem? (i := 32) (by decide +kernel)) rfl
set_option maxRecDepth 100000 in
theorem cd_yX11_isLater : Cond.code yX11_isLater cX11_isLater 4 (some .boolean) ∈ gtb := mt6 (List.mem_of_getElem? (i := 58) rfl) rfl
theorem sm_yX11_isLater : Cond.static yX11_isLater ∈ gtb := mt6 (List.mem_of_getElem? (i := 57) (by decide +kernel)) rfl
set_option maxRecDepth 100000 in
theorem cd_yX11_isFull : Cond.code yX11_isFull cX11_isFull 2 (some .boolean) ∈ gtb := mt6 (List.mem_of_getElem? (i := 35) rfl) rfl
theorem im_yX11_isFull : Cond.instanceMethod yX11_isFull ∈ gtb := mt6 (List.mem_of_getElem? (i := 34) (by decide +kernel)) rfl
theorem se_yX11_isFull : Cond.selects yX11_isFull.cls yX11_isFull yX11_isFull ∈ gtb := mt0 (List.mem_of_getElem? (i := 34) (by decide +kernel)) rfl
set_option maxRecDepth 100000 in
theorem cd_yX11_carries : Cond.code yX11_carries cX11_carries 7 none ∈ gtb := mt6 (List.mem_of_getElem? (i := 51) rfl) rfl
theorem im_yX11_carries : Cond.instanceMethod yX11_carries ∈ gtb := mt6 (List.mem_of_getElem? (i := 50) (by decide +kernel)) rfl
theorem se_yX11_carries : Cond.selects yX11_carries.cls yX11_carries yX11_carries ∈ gtb := mt0 (List.mem_of_getElem? (i := 38) (by decide +kernel)) rfl
set_option maxRecDepth 100000 in
theorem cd_yX11_makes : Cond.code yX11_makes cX11_makes 8 none ∈ gtb := mt6 (List.mem_of_getElem? (i := 47) rfl) rfl
theorem im_yX11_makes : Cond.instanceMethod yX11_makes ∈ gtb := mt6 (List.mem_of_getElem? (i := 46) (by decide +kernel)) rfl
theorem se_yX11_makes : Cond.selects yX11_makes.cls yX11_makes yX11_makes ∈ gtb := mt0 (List.mem_of_getElem? (i := 37) (by decide +kernel)) rfl
set_option maxRecDepth 100000 in
theorem cd_yX11_kindOf : Cond.code yX11_kindOf cX11_kindOf 1 (some .int) ∈ gtb := mt6 (List.mem_of_getElem? (i := 5) rfl) rfl
theorem sm_yX11_kindOf : Cond.static yX11_kindOf ∈ gtb := mt6 (List.mem_of_getElem? (i := 4) (by decide +kernel)) rfl
set_option maxRecDepth 100000 in
theorem cd_yX11_make : Cond.code yX11_make cX11_make 9 (some .int) ∈ gtb := mt6 (List.mem_of_getElem? (i := 2) rfl) rfl
theorem im_yX11_make : Cond.instanceMethod yX11_make ∈ gtb := mt6 (List.mem_of_getElem? (i := 0) (by decide +kernel)) rfl
theorem se_yX11_make : Cond.selects yX11_make.cls yX11_make yX11_make ∈ gtb := mt6 (List.mem_of_getElem? (i := 1) (by decide +kernel)) rfl
set_option maxRecDepth 100000 in
theorem cd_yX11_move : Cond.code yX11_move cX11_move 10 (some .int) ∈ gtb := mt6 (List.mem_of_getElem? (i := 70) rfl) rfl
theorem im_yX11_move : Cond.instanceMethod yX11_move ∈ gtb := mt6 (List.mem_of_getElem? (i := 68) (by decide +kernel)) rfl
theorem se_yX11_move : Cond.selects yX11_move.cls yX11_move yX11_move ∈ gtb := mt6 (List.mem_of_getElem? (i := 69) (by decide +kernel)) rfl
set_option maxRecDepth 100000 in
theorem cd_yX11_remove : Cond.code yX11_remove cX11_remove 6 (some .int) ∈ gtb := mt6 (List.mem_of_getElem? (i := 78) rfl) rfl
theorem im_yX11_remove : Cond.instanceMethod yX11_remove ∈ gtb := mt6 (List.mem_of_getElem? (i := 76) (by decide +kernel)) rfl
theorem se_yX11_remove : Cond.selects yX11_remove.cls yX11_remove yX11_remove ∈ gtb := mt6 (List.mem_of_getElem? (i := 77) (by decide +kernel)) rfl
set_option maxRecDepth 100000 in
theorem cd_yX11_shown : Cond.code yX11_shown cX11_shown 3 (some .int) ∈ gtb := mt6 (List.mem_of_getElem? (i := 82) rfl) rfl
theorem im_yX11_shown : Cond.instanceMethod yX11_shown ∈ gtb := mt6 (List.mem_of_getElem? (i := 80) (by decide +kernel)) rfl
theorem se_yX11_shown : Cond.selects yX11_shown.cls yX11_shown yX11_shown ∈ gtb := mt6 (List.mem_of_getElem? (i := 81) (by decide +kernel)) rfl
set_option maxRecDepth 100000 in
theorem cd_yX11_line : Cond.code yX11_line cX11_line 5 (some .int) ∈ gtb := mt6 (List.mem_of_getElem? (i := 86) rfl) rfl
theorem im_yX11_line : Cond.instanceMethod yX11_line ∈ gtb := mt6 (List.mem_of_getElem? (i := 84) (by decide +kernel)) rfl
theorem se_yX11_line : Cond.selects yX11_line.cls yX11_line yX11_line ∈ gtb := mt6 (List.mem_of_getElem? (i := 85) (by decide +kernel)) rfl
set_option maxRecDepth 100000 in
theorem cd_yX11_position : Cond.code yX11_position cX11_position 4 (some .int) ∈ gtb := mt6 (List.mem_of_getElem? (i := 90) rfl) rfl
theorem im_yX11_position : Cond.instanceMethod yX11_position ∈ gtb := mt6 (List.mem_of_getElem? (i := 88) (by decide +kernel)) rfl
theorem se_yX11_position : Cond.selects yX11_position.cls yX11_position yX11_position ∈ gtb := mt6 (List.mem_of_getElem? (i := 89) (by decide +kernel)) rfl
set_option maxRecDepth 100000 in
theorem cd_yX11_place : Cond.code yX11_place cX11_place 4 (some .int) ∈ gtb := mt6 (List.mem_of_getElem? (i := 94) rfl) rfl
theorem im_yX11_place : Cond.instanceMethod yX11_place ∈ gtb := mt6 (List.mem_of_getElem? (i := 92) (by decide +kernel)) rfl
theorem se_yX11_place : Cond.selects yX11_place.cls yX11_place yX11_place ∈ gtb := mt6 (List.mem_of_getElem? (i := 93) (by decide +kernel)) rfl
set_option maxRecDepth 100000 in
theorem cd_yX11_isCell : Cond.code yX11_isCell cX11_isCell 4 (some .boolean) ∈ gtb := mt6 (List.mem_of_getElem? (i := 102) rfl) rfl
theorem im_yX11_isCell : Cond.instanceMethod yX11_isCell ∈ gtb := mt6 (List.mem_of_getElem? (i := 101) (by decide +kernel)) rfl
theorem se_yX11_isCell : Cond.selects yX11_isCell.cls yX11_isCell yX11_isCell ∈ gtb := mt0 (List.mem_of_getElem? (i := 43) (by decide +kernel)) rfl
set_option maxRecDepth 100000 in
theorem cd_yX11_writes : Cond.code yX11_writes cX11_writes 9 (some .int) ∈ gtb := mt6 (List.mem_of_getElem? (i := 110) rfl) rfl
theorem im_yX11_writes : Cond.instanceMethod yX11_writes ∈ gtb := mt6 (List.mem_of_getElem? (i := 109) (by decide +kernel)) rfl
theorem se_yX11_writes : Cond.selects yX11_writes.cls yX11_writes yX11_writes ∈ gtb := mt0 (List.mem_of_getElem? (i := 45) (by decide +kernel)) rfl
set_option maxRecDepth 100000 in
theorem cd_yX11_setNumber : Cond.code yX11_setNumber cX11_setNumber 5 (some .int) ∈ gtb := mt6 (List.mem_of_getElem? (i := 98) rfl) rfl
theorem im_yX11_setNumber : Cond.instanceMethod yX11_setNumber ∈ gtb := mt6 (List.mem_of_getElem? (i := 96) (by decide +kernel)) rfl
theorem se_yX11_setNumber : Cond.selects yX11_setNumber.cls yX11_setNumber yX11_setNumber ∈ gtb := mt6 (List.mem_of_getElem? (i := 97) (by decide +kernel)) rfl
set_option maxRecDepth 100000 in
theorem cd_yX11_clearCell : Cond.code yX11_clearCell cX11_clearCell 4 (some .int) ∈ gtb := mt6 (List.mem_of_getElem? (i := 114) rfl) rfl
theorem im_yX11_clearCell : Cond.instanceMethod yX11_clearCell ∈ gtb := mt6 (List.mem_of_getElem? (i := 112) (by decide +kernel)) rfl
theorem se_yX11_clearCell : Cond.selects yX11_clearCell.cls yX11_clearCell yX11_clearCell ∈ gtb := mt6 (List.mem_of_getElem? (i := 113) (by decide +kernel)) rfl
set_option maxRecDepth 100000 in
theorem cd_yX11_setFormula : Cond.code yX11_setFormula cX11_setFormula 4 (some .int) ∈ gtb := mt6 (List.mem_of_getElem? (i := 118) rfl) rfl
theorem im_yX11_setFormula : Cond.instanceMethod yX11_setFormula ∈ gtb := mt6 (List.mem_of_getElem? (i := 116) (by decide +kernel)) rfl
theorem se_yX11_setFormula : Cond.selects yX11_setFormula.cls yX11_setFormula yX11_setFormula ∈ gtb := mt6 (List.mem_of_getElem? (i := 117) (by decide +kernel)) rfl
set_option maxRecDepth 100000 in
theorem cd_yX11_isAt : Cond.code yX11_isAt cX11_isAt 3 (some .boolean) ∈ gtb := mt6 (List.mem_of_getElem? (i := 130) rfl) rfl
theorem im_yX11_isAt : Cond.instanceMethod yX11_isAt ∈ gtb := mt6 (List.mem_of_getElem? (i := 129) (by decide +kernel)) rfl
theorem se_yX11_isAt : Cond.selects yX11_isAt.cls yX11_isAt yX11_isAt ∈ gtb := mt0 (List.mem_of_getElem? (i := 48) (by decide +kernel)) rfl
set_option maxRecDepth 100000 in
theorem cd_yX11_adds : Cond.code yX11_adds cX11_adds 2 none ∈ gtb := mt6 (List.mem_of_getElem? (i := 134) rfl) rfl
theorem im_yX11_adds : Cond.instanceMethod yX11_adds ∈ gtb := mt6 (List.mem_of_getElem? (i := 133) (by decide +kernel)) rfl
theorem se_yX11_adds : Cond.selects yX11_adds.cls yX11_adds yX11_adds ∈ gtb := mt0 (List.mem_of_getElem? (i := 49) (by decide +kernel)) rfl
set_option maxRecDepth 100000 in
theorem cd_yX11_takes : Cond.code yX11_takes cX11_takes 3 (some .boolean) ∈ gtb := mt6 (List.mem_of_getElem? (i := 138) rfl) rfl
theorem im_yX11_takes : Cond.instanceMethod yX11_takes ∈ gtb := mt6 (List.mem_of_getElem? (i := 137) (by decide +kernel)) rfl
theorem se_yX11_takes : Cond.selects yX11_takes.cls yX11_takes yX11_takes ∈ gtb := mt0 (List.mem_of_getElem? (i := 50) (by decide +kernel)) rfl
set_option maxRecDepth 100000 in
theorem cd_yX11_isNamed : Cond.code yX11_isNamed cX11_isNamed 2 (some .boolean) ∈ gtb := mt6 (List.mem_of_getElem? (i := 142) rfl) rfl
theorem im_yX11_isNamed : Cond.instanceMethod yX11_isNamed ∈ gtb := mt6 (List.mem_of_getElem? (i := 141) (by decide +kernel)) rfl
theorem se_yX11_isNamed : Cond.selects yX11_isNamed.cls yX11_isNamed yX11_isNamed ∈ gtb := mt0 (List.mem_of_getElem? (i := 51) (by decide +kernel)) rfl
set_option maxRecDepth 100000 in
theorem cd_yX11_isFactor : Cond.code yX11_isFactor cX11_isFactor 3 (some .boolean) ∈ gtb := mt6 (List.mem_of_getElem? (i := 126) rfl) rfl
theorem im_yX11_isFactor : Cond.instanceMethod yX11_isFactor ∈ gtb := mt6 (List.mem_of_getElem? (i := 125) (by decide +kernel)) rfl
theorem se_yX11_isFactor : Cond.selects yX11_isFactor.cls yX11_isFactor yX11_isFactor ∈ gtb := mt0 (List.mem_of_getElem? (i := 47) (by decide +kernel)) rfl
set_option maxRecDepth 100000 in
theorem cd_yX11_faultAt : Cond.code yX11_faultAt cX11_faultAt 3 (some .int) ∈ gtb := mt6 (List.mem_of_getElem? (i := 122) rfl) rfl
theorem im_yX11_faultAt : Cond.instanceMethod yX11_faultAt ∈ gtb := mt6 (List.mem_of_getElem? (i := 121) (by decide +kernel)) rfl
theorem se_yX11_faultAt : Cond.selects yX11_faultAt.cls yX11_faultAt yX11_faultAt ∈ gtb := mt0 (List.mem_of_getElem? (i := 46) (by decide +kernel)) rfl
set_option maxRecDepth 100000 in
theorem cd_yX11_fault : Cond.code yX11_fault cX11_fault 2 (some .int) ∈ gtb := mt6 (List.mem_of_getElem? (i := 146) rfl) rfl
theorem im_yX11_fault : Cond.instanceMethod yX11_fault ∈ gtb := mt6 (List.mem_of_getElem? (i := 144) (by decide +kernel)) rfl
theorem se_yX11_fault : Cond.selects yX11_fault.cls yX11_fault yX11_fault ∈ gtb := mt6 (List.mem_of_getElem? (i := 145) (by decide +kernel)) rfl
set_option maxRecDepth 100000 in
theorem cd_yX11_find : Cond.code yX11_find cX11_find 4 (some .int) ∈ gtb := mt6 (List.mem_of_getElem? (i := 169) rfl) rfl
theorem sm_yX11_find : Cond.static yX11_find ∈ gtb := mt6 (List.mem_of_getElem? (i := 168) (by decide +kernel)) rfl
set_option maxRecDepth 100000 in
theorem cd_yX11_seen : Cond.code yX11_seen cX11_seen 4 (some .int) ∈ gtb := mt6 (List.mem_of_getElem? (i := 166) rfl) rfl
theorem im_yX11_seen : Cond.instanceMethod yX11_seen ∈ gtb := mt6 (List.mem_of_getElem? (i := 165) (by decide +kernel)) rfl
theorem se_yX11_seen : Cond.selects yX11_seen.cls yX11_seen yX11_seen ∈ gtb := mt0 (List.mem_of_getElem? (i := 55) (by decide +kernel)) rfl
set_option maxRecDepth 100000 in
theorem cd_yX11_opAt : Cond.code yX11_opAt cX11_opAt 3 (some .int) ∈ gtb := mt6 (List.mem_of_getElem? (i := 158) rfl) rfl
theorem im_yX11_opAt : Cond.instanceMethod yX11_opAt ∈ gtb := mt6 (List.mem_of_getElem? (i := 157) (by decide +kernel)) rfl
theorem se_yX11_opAt : Cond.selects yX11_opAt.cls yX11_opAt yX11_opAt ∈ gtb := mt0 (List.mem_of_getElem? (i := 53) (by decide +kernel)) rfl
set_option maxRecDepth 100000 in
theorem cd_yX11_least : Cond.code yX11_least cX11_least 2 (some .int) ∈ gtb := mt6 (List.mem_of_getElem? (i := 176) rfl) rfl
theorem sm_yX11_least : Cond.static yX11_least ∈ gtb := mt6 (List.mem_of_getElem? (i := 175) (by decide +kernel)) rfl
set_option maxRecDepth 100000 in
theorem cd_yX11_greatest : Cond.code yX11_greatest cX11_greatest 2 (some .int) ∈ gtb := mt6 (List.mem_of_getElem? (i := 179) rfl) rfl
theorem sm_yX11_greatest : Cond.static yX11_greatest ∈ gtb := mt6 (List.mem_of_getElem? (i := 178) (by decide +kernel)) rfl
set_option maxRecDepth 100000 in
theorem cd_yX11_refersTo : Cond.code yX11_refersTo cX11_refersTo 8 none ∈ gtb := mt6 (List.mem_of_getElem? (i := 162) rfl) rfl
theorem im_yX11_refersTo : Cond.instanceMethod yX11_refersTo ∈ gtb := mt6 (List.mem_of_getElem? (i := 161) (by decide +kernel)) rfl
theorem se_yX11_refersTo : Cond.selects yX11_refersTo.cls yX11_refersTo yX11_refersTo ∈ gtb := mt0 (List.mem_of_getElem? (i := 54) (by decide +kernel)) rfl
set_option maxRecDepth 100000 in
theorem cd_yX11_spans : Cond.code yX11_spans cX11_spans 6 none ∈ gtb := mt6 (List.mem_of_getElem? (i := 173) rfl) rfl
theorem im_yX11_spans : Cond.instanceMethod yX11_spans ∈ gtb := mt6 (List.mem_of_getElem? (i := 172) (by decide +kernel)) rfl
theorem se_yX11_spans : Cond.selects yX11_spans.cls yX11_spans yX11_spans ∈ gtb := mt0 (List.mem_of_getElem? (i := 56) (by decide +kernel)) rfl
set_option maxRecDepth 100000 in
theorem cd_yX11_comesBack : Cond.code yX11_comesBack cX11_comesBack 5 (some .boolean) ∈ gtb := mt6 (List.mem_of_getElem? (i := 183) rfl) rfl
theorem im_yX11_comesBack : Cond.instanceMethod yX11_comesBack ∈ gtb := mt6 (List.mem_of_getElem? (i := 182) (by decide +kernel)) rfl
theorem se_yX11_comesBack : Cond.selects yX11_comesBack.cls yX11_comesBack yX11_comesBack ∈ gtb := mt0 (List.mem_of_getElem? (i := 57) (by decide +kernel)) rfl
set_option maxRecDepth 100000 in
theorem cd_yX11_isReady : Cond.code yX11_isReady cX11_isReady 5 (some .boolean) ∈ gtb := mt6 (List.mem_of_getElem? (i := 207) rfl) rfl
theorem im_yX11_isReady : Cond.instanceMethod yX11_isReady ∈ gtb := mt6 (List.mem_of_getElem? (i := 206) (by decide +kernel)) rfl
theorem se_yX11_isReady : Cond.selects yX11_isReady.cls yX11_isReady yX11_isReady ∈ gtb := mt0 (List.mem_of_getElem? (i := 62) (by decide +kernel)) rfl
set_option maxRecDepth 100000 in
theorem cd_yX11_gathers : Cond.code yX11_gathers cX11_gathers 6 none ∈ gtb := mt6 (List.mem_of_getElem? (i := 154) rfl) rfl
theorem im_yX11_gathers : Cond.instanceMethod yX11_gathers ∈ gtb := mt6 (List.mem_of_getElem? (i := 153) (by decide +kernel)) rfl
theorem se_yX11_gathers : Cond.selects yX11_gathers.cls yX11_gathers yX11_gathers ∈ gtb := mt0 (List.mem_of_getElem? (i := 52) (by decide +kernel)) rfl
set_option maxRecDepth 100000 in
theorem cd_yX11_works : Cond.code yX11_works cX11_works 4 none ∈ gtb := mt6 (List.mem_of_getElem? (i := 203) rfl) rfl
theorem im_yX11_works : Cond.instanceMethod yX11_works ∈ gtb := mt6 (List.mem_of_getElem? (i := 202) (by decide +kernel)) rfl
theorem se_yX11_works : Cond.selects yX11_works.cls yX11_works yX11_works ∈ gtb := mt0 (List.mem_of_getElem? (i := 61) (by decide +kernel)) rfl
set_option maxRecDepth 100000 in
theorem cd_yX11_isFar : Cond.code yX11_isFar cX11_isFar 2 (some .boolean) ∈ gtb := mt6 (List.mem_of_getElem? (i := 226) rfl) rfl
theorem sm_yX11_isFar : Cond.static yX11_isFar ∈ gtb := mt6 (List.mem_of_getElem? (i := 225) (by decide +kernel)) rfl
set_option maxRecDepth 100000 in
theorem cd_yX11_meets : Cond.code yX11_meets cX11_meets 2 none ∈ gtb := mt6 (List.mem_of_getElem? (i := 223) rfl) rfl
theorem im_yX11_meets : Cond.instanceMethod yX11_meets ∈ gtb := mt6 (List.mem_of_getElem? (i := 222) (by decide +kernel)) rfl
theorem se_yX11_meets : Cond.selects yX11_meets.cls yX11_meets yX11_meets ∈ gtb := mt0 (List.mem_of_getElem? (i := 66) (by decide +kernel)) rfl
set_option maxRecDepth 100000 in
theorem cd_yX11_sums : Cond.code yX11_sums cX11_sums 7 none ∈ gtb := mt6 (List.mem_of_getElem? (i := 219) rfl) rfl
theorem im_yX11_sums : Cond.instanceMethod yX11_sums ∈ gtb := mt6 (List.mem_of_getElem? (i := 218) (by decide +kernel)) rfl
theorem se_yX11_sums : Cond.selects yX11_sums.cls yX11_sums yX11_sums ∈ gtb := mt0 (List.mem_of_getElem? (i := 65) (by decide +kernel)) rfl
set_option maxRecDepth 100000 in
theorem cd_yX11_reckons : Cond.code yX11_reckons cX11_reckons 6 (some .int) ∈ gtb := mt6 (List.mem_of_getElem? (i := 215) rfl) rfl
theorem im_yX11_reckons : Cond.instanceMethod yX11_reckons ∈ gtb := mt6 (List.mem_of_getElem? (i := 214) (by decide +kernel)) rfl
theorem se_yX11_reckons : Cond.selects yX11_reckons.cls yX11_reckons yX11_reckons ∈ gtb := mt0 (List.mem_of_getElem? (i := 64) (by decide +kernel)) rfl
set_option maxRecDepth 100000 in
theorem cd_yX11_calculates : Cond.code yX11_calculates cX11_calculates 12 none ∈ gtb := mt6 (List.mem_of_getElem? (i := 211) rfl) rfl
theorem im_yX11_calculates : Cond.instanceMethod yX11_calculates ∈ gtb := mt6 (List.mem_of_getElem? (i := 210) (by decide +kernel)) rfl
theorem se_yX11_calculates : Cond.selects yX11_calculates.cls yX11_calculates yX11_calculates ∈ gtb := mt0 (List.mem_of_getElem? (i := 63) (by decide +kernel)) rfl
set_option maxRecDepth 100000 in
theorem cd_yX11_referred : Cond.code yX11_referred cX11_referred 5 (some .int) ∈ gtb := mt6 (List.mem_of_getElem? (i := 191) rfl) rfl
theorem im_yX11_referred : Cond.instanceMethod yX11_referred ∈ gtb := mt6 (List.mem_of_getElem? (i := 190) (by decide +kernel)) rfl
theorem se_yX11_referred : Cond.selects yX11_referred.cls yX11_referred yX11_referred ∈ gtb := mt0 (List.mem_of_getElem? (i := 59) (by decide +kernel)) rfl
set_option maxRecDepth 100000 in
theorem cd_yX11_referring : Cond.code yX11_referring cX11_referring 4 (some .int) ∈ gtb := mt6 (List.mem_of_getElem? (i := 195) rfl) rfl
theorem im_yX11_referring : Cond.instanceMethod yX11_referring ∈ gtb := mt6 (List.mem_of_getElem? (i := 194) (by decide +kernel)) rfl
theorem se_yX11_referring : Cond.selects yX11_referring.cls yX11_referring yX11_referring ∈ gtb := mt0 (List.mem_of_getElem? (i := 60) (by decide +kernel)) rfl
set_option maxRecDepth 100000 in
theorem cd_yX11_told : Cond.code yX11_told cX11_told 6 (some .int) ∈ gtb := mt6 (List.mem_of_getElem? (i := 187) rfl) rfl
theorem im_yX11_told : Cond.instanceMethod yX11_told ∈ gtb := mt6 (List.mem_of_getElem? (i := 186) (by decide +kernel)) rfl
theorem se_yX11_told : Cond.selects yX11_told.cls yX11_told yX11_told ∈ gtb := mt0 (List.mem_of_getElem? (i := 58) (by decide +kernel)) rfl
set_option maxRecDepth 100000 in
theorem cd_yX11_cell : Cond.code yX11_cell cX11_cell 5 (some .int) ∈ gtb := mt6 (List.mem_of_getElem? (i := 150) rfl) rfl
theorem im_yX11_cell : Cond.instanceMethod yX11_cell ∈ gtb := mt6 (List.mem_of_getElem? (i := 148) (by decide +kernel)) rfl
theorem se_yX11_cell : Cond.selects yX11_cell.cls yX11_cell yX11_cell ∈ gtb := mt6 (List.mem_of_getElem? (i := 149) (by decide +kernel)) rfl
set_option maxRecDepth 100000 in
theorem cd_yX11_value : Cond.code yX11_value cX11_value 4 (some .int) ∈ gtb := mt6 (List.mem_of_getElem? (i := 199) rfl) rfl
theorem im_yX11_value : Cond.instanceMethod yX11_value ∈ gtb := mt6 (List.mem_of_getElem? (i := 197) (by decide +kernel)) rfl
theorem se_yX11_value : Cond.selects yX11_value.cls yX11_value yX11_value ∈ gtb := mt6 (List.mem_of_getElem? (i := 198) (by decide +kernel)) rfl
set_option maxRecDepth 100000 in
theorem cd_yX11_error : Cond.code yX11_error cX11_error 4 (some .int) ∈ gtb := mt6 (List.mem_of_getElem? (i := 232) rfl) rfl
theorem im_yX11_error : Cond.instanceMethod yX11_error ∈ gtb := mt6 (List.mem_of_getElem? (i := 230) (by decide +kernel)) rfl
theorem se_yX11_error : Cond.selects yX11_error.cls yX11_error yX11_error ∈ gtb := mt6 (List.mem_of_getElem? (i := 231) (by decide +kernel)) rfl
set_option maxRecDepth 100000 in
theorem cd_yX11_shows : Cond.code yX11_shows cX11_shows 2 none ∈ gtb := mt7 (List.mem_of_getElem? (i := 0) rfl) rfl
theorem im_yX11_shows : Cond.instanceMethod yX11_shows ∈ gtb := mt6 (List.mem_of_getElem? (i := 239) (by decide +kernel)) rfl
theorem se_yX11_shows : Cond.selects yX11_shows.cls yX11_shows yX11_shows ∈ gtb := mt0 (List.mem_of_getElem? (i := 67) (by decide +kernel)) rfl
set_option maxRecDepth 100000 in
theorem cd_yX11_showsNamed : Cond.code yX11_showsNamed cX11_showsNamed 3 none ∈ gtb := mt7 (List.mem_of_getElem? (i := 4) rfl) rfl
theorem im_yX11_showsNamed : Cond.instanceMethod yX11_showsNamed ∈ gtb := mt7 (List.mem_of_getElem? (i := 3) (by decide +kernel)) rfl
theorem se_yX11_showsNamed : Cond.selects yX11_showsNamed.cls yX11_showsNamed yX11_showsNamed ∈ gtb := mt0 (List.mem_of_getElem? (i := 68) (by decide +kernel)) rfl
set_option maxRecDepth 100000 in
theorem cd_yX11_showsNumber : Cond.code yX11_showsNumber cX11_showsNumber 4 none ∈ gtb := mt7 (List.mem_of_getElem? (i := 8) rfl) rfl
theorem im_yX11_showsNumber : Cond.instanceMethod yX11_showsNumber ∈ gtb := mt7 (List.mem_of_getElem? (i := 7) (by decide +kernel)) rfl
theorem se_yX11_showsNumber : Cond.selects yX11_showsNumber.cls yX11_showsNumber yX11_showsNumber ∈ gtb := mt0 (List.mem_of_getElem? (i := 69) (by decide +kernel)) rfl
set_option maxRecDepth 100000 in
theorem cd_yX11_write : Cond.code yX11_write cX11_write 8 (some .int) ∈ gtb := mt6 (List.mem_of_getElem? (i := 236) rfl) rfl
theorem im_yX11_write : Cond.instanceMethod yX11_write ∈ gtb := mt6 (List.mem_of_getElem? (i := 234) (by decide +kernel)) rfl
theorem se_yX11_write : Cond.selects yX11_write.cls yX11_write yX11_write ∈ gtb := mt6 (List.mem_of_getElem? (i := 235) (by decide +kernel)) rfl
set_option maxRecDepth 100000 in
theorem cd_yX11_cycleMany : Cond.code yX11_cycleMany cX11_cycleMany 3 (some .int) ∈ gtb := mt7 (List.mem_of_getElem? (i := 16) rfl) rfl
theorem im_yX11_cycleMany : Cond.instanceMethod yX11_cycleMany ∈ gtb := mt7 (List.mem_of_getElem? (i := 15) (by decide +kernel)) rfl
theorem se_yX11_cycleMany : Cond.selects yX11_cycleMany.cls yX11_cycleMany yX11_cycleMany ∈ gtb := mt0 (List.mem_of_getElem? (i := 70) (by decide +kernel)) rfl
set_option maxRecDepth 100000 in
theorem cd_yX11_cycles : Cond.code yX11_cycles cX11_cycles 2 (some .int) ∈ gtb := mt7 (List.mem_of_getElem? (i := 12) rfl) rfl
theorem im_yX11_cycles : Cond.instanceMethod yX11_cycles ∈ gtb := mt7 (List.mem_of_getElem? (i := 10) (by decide +kernel)) rfl
theorem se_yX11_cycles : Cond.selects yX11_cycles.cls yX11_cycles yX11_cycles ∈ gtb := mt7 (List.mem_of_getElem? (i := 11) (by decide +kernel)) rfl
set_option maxRecDepth 100000 in
theorem cd_yX11_orders : Cond.code yX11_orders cX11_orders 4 (some .int) ∈ gtb := mt7 (List.mem_of_getElem? (i := 24) rfl) rfl
theorem im_yX11_orders : Cond.instanceMethod yX11_orders ∈ gtb := mt7 (List.mem_of_getElem? (i := 23) (by decide +kernel)) rfl
theorem se_yX11_orders : Cond.selects yX11_orders.cls yX11_orders yX11_orders ∈ gtb := mt0 (List.mem_of_getElem? (i := 71) (by decide +kernel)) rfl
set_option maxRecDepth 100000 in
theorem cd_yX11_order : Cond.code yX11_order cX11_order 4 (some .int) ∈ gtb := mt7 (List.mem_of_getElem? (i := 20) rfl) rfl
theorem im_yX11_order : Cond.instanceMethod yX11_order ∈ gtb := mt7 (List.mem_of_getElem? (i := 18) (by decide +kernel)) rfl
theorem se_yX11_order : Cond.selects yX11_order.cls yX11_order yX11_order ∈ gtb := mt7 (List.mem_of_getElem? (i := 19) (by decide +kernel)) rfl
set_option maxRecDepth 100000 in
theorem cd_yX11_missed : Cond.code yX11_missed cX11_missed 3 (some .int) ∈ gtb := mt7 (List.mem_of_getElem? (i := 36) rfl) rfl
theorem im_yX11_missed : Cond.instanceMethod yX11_missed ∈ gtb := mt7 (List.mem_of_getElem? (i := 35) (by decide +kernel)) rfl
theorem se_yX11_missed : Cond.selects yX11_missed.cls yX11_missed yX11_missed ∈ gtb := mt0 (List.mem_of_getElem? (i := 73) (by decide +kernel)) rfl
set_option maxRecDepth 100000 in
theorem cd_yX11_gets : Cond.code yX11_gets cX11_gets 7 (some .int) ∈ gtb := mt7 (List.mem_of_getElem? (i := 32) rfl) rfl
theorem im_yX11_gets : Cond.instanceMethod yX11_gets ∈ gtb := mt7 (List.mem_of_getElem? (i := 31) (by decide +kernel)) rfl
theorem se_yX11_gets : Cond.selects yX11_gets.cls yX11_gets yX11_gets ∈ gtb := mt0 (List.mem_of_getElem? (i := 72) (by decide +kernel)) rfl
set_option maxRecDepth 100000 in
theorem cd_yX11_receive : Cond.code yX11_receive cX11_receive 4 (some .int) ∈ gtb := mt7 (List.mem_of_getElem? (i := 28) rfl) rfl
theorem im_yX11_receive : Cond.instanceMethod yX11_receive ∈ gtb := mt7 (List.mem_of_getElem? (i := 26) (by decide +kernel)) rfl
theorem se_yX11_receive : Cond.selects yX11_receive.cls yX11_receive yX11_receive ∈ gtb := mt7 (List.mem_of_getElem? (i := 27) (by decide +kernel)) rfl
set_option maxRecDepth 100000 in
theorem cd_yX11_settle : Cond.code yX11_settle cX11_settle 4 (some .int) ∈ gtb := mt7 (List.mem_of_getElem? (i := 40) rfl) rfl
theorem im_yX11_settle : Cond.instanceMethod yX11_settle ∈ gtb := mt7 (List.mem_of_getElem? (i := 38) (by decide +kernel)) rfl
theorem se_yX11_settle : Cond.selects yX11_settle.cls yX11_settle yX11_settle ∈ gtb := mt7 (List.mem_of_getElem? (i := 39) (by decide +kernel)) rfl
set_option maxRecDepth 100000 in
theorem cd_yX11_missing : Cond.code yX11_missing cX11_missing 3 (some .int) ∈ gtb := mt7 (List.mem_of_getElem? (i := 44) rfl) rfl
theorem im_yX11_missing : Cond.instanceMethod yX11_missing ∈ gtb := mt7 (List.mem_of_getElem? (i := 42) (by decide +kernel)) rfl
theorem se_yX11_missing : Cond.selects yX11_missing.cls yX11_missing yX11_missing ∈ gtb := mt7 (List.mem_of_getElem? (i := 43) (by decide +kernel)) rfl
set_option maxRecDepth 100000 in
theorem cd_yX11_clock : Cond.code yX11_clock cX11_clock 2 (some .int) ∈ gtb := mt7 (List.mem_of_getElem? (i := 48) rfl) rfl
theorem im_yX11_clock : Cond.instanceMethod yX11_clock ∈ gtb := mt7 (List.mem_of_getElem? (i := 46) (by decide +kernel)) rfl
theorem se_yX11_clock : Cond.selects yX11_clock.cls yX11_clock yX11_clock ∈ gtb := mt7 (List.mem_of_getElem? (i := 47) (by decide +kernel)) rfl
set_option maxRecDepth 100000 in
theorem cd_yX11_operation : Cond.code yX11_operation cX11_operation 4 (some .int) ∈ gtb := mt7 (List.mem_of_getElem? (i := 52) rfl) rfl
theorem im_yX11_operation : Cond.instanceMethod yX11_operation ∈ gtb := mt7 (List.mem_of_getElem? (i := 50) (by decide +kernel)) rfl
theorem se_yX11_operation : Cond.selects yX11_operation.cls yX11_operation yX11_operation ∈ gtb := mt7 (List.mem_of_getElem? (i := 51) (by decide +kernel)) rfl
set_option maxRecDepth 100000 in
theorem cd_yX11_pictures : Cond.code yX11_pictures cX11_pictures 3 none ∈ gtb := mt7 (List.mem_of_getElem? (i := 60) rfl) rfl
theorem im_yX11_pictures : Cond.instanceMethod yX11_pictures ∈ gtb := mt7 (List.mem_of_getElem? (i := 59) (by decide +kernel)) rfl
theorem se_yX11_pictures : Cond.selects yX11_pictures.cls yX11_pictures yX11_pictures ∈ gtb := mt0 (List.mem_of_getElem? (i := 74) (by decide +kernel)) rfl
set_option maxRecDepth 100000 in
theorem cd_yX11_areAlike : Cond.code yX11_areAlike cX11_areAlike 5 (some .boolean) ∈ gtb := mt7 (List.mem_of_getElem? (i := 56) rfl) rfl
theorem im_yX11_areAlike : Cond.instanceMethod yX11_areAlike ∈ gtb := mt7 (List.mem_of_getElem? (i := 54) (by decide +kernel)) rfl
theorem se_yX11_areAlike : Cond.selects yX11_areAlike.cls yX11_areAlike yX11_areAlike ∈ gtb := mt7 (List.mem_of_getElem? (i := 55) (by decide +kernel)) rfl
set_option maxRecDepth 100000 in
theorem cd_yX11_different : Cond.code yX11_different cX11_different 5 (some .int) ∈ gtb := mt7 (List.mem_of_getElem? (i := 64) rfl) rfl
theorem im_yX11_different : Cond.instanceMethod yX11_different ∈ gtb := mt7 (List.mem_of_getElem? (i := 62) (by decide +kernel)) rfl
theorem se_yX11_different : Cond.selects yX11_different.cls yX11_different yX11_different ∈ gtb := mt7 (List.mem_of_getElem? (i := 63) (by decide +kernel)) rfl
set_option maxRecDepth 100000 in
theorem cd_yX11_type : Cond.code yX11_type cX11_type 2 (some .int) ∈ gtb := mt7 (List.mem_of_getElem? (i := 68) rfl) rfl
theorem im_yX11_type : Cond.instanceMethod yX11_type ∈ gtb := mt7 (List.mem_of_getElem? (i := 66) (by decide +kernel)) rfl
theorem se_yX11_type : Cond.selects yX11_type.cls yX11_type yX11_type ∈ gtb := mt7 (List.mem_of_getElem? (i := 67) (by decide +kernel)) rfl
set_option maxRecDepth 100000 in
theorem cd_yX11_clearText : Cond.code yX11_clearText cX11_clearText 2 (some .int) ∈ gtb := mt7 (List.mem_of_getElem? (i := 72) rfl) rfl
theorem im_yX11_clearText : Cond.instanceMethod yX11_clearText ∈ gtb := mt7 (List.mem_of_getElem? (i := 70) (by decide +kernel)) rfl
theorem se_yX11_clearText : Cond.selects yX11_clearText.cls yX11_clearText yX11_clearText ∈ gtb := mt7 (List.mem_of_getElem? (i := 71) (by decide +kernel)) rfl
set_option maxRecDepth 100000 in
theorem cd_yX11_character : Cond.code yX11_character cX11_character 2 (some .int) ∈ gtb := mt7 (List.mem_of_getElem? (i := 76) rfl) rfl
theorem im_yX11_character : Cond.instanceMethod yX11_character ∈ gtb := mt7 (List.mem_of_getElem? (i := 74) (by decide +kernel)) rfl
theorem se_yX11_character : Cond.selects yX11_character.cls yX11_character yX11_character ∈ gtb := mt7 (List.mem_of_getElem? (i := 75) (by decide +kernel)) rfl
set_option maxRecDepth 100000 in
theorem cd_yX11_undo : Cond.code yX11_undo cX11_undo 2 (some .int) ∈ gtb := mt7 (List.mem_of_getElem? (i := 80) rfl) rfl
theorem im_yX11_undo : Cond.instanceMethod yX11_undo ∈ gtb := mt7 (List.mem_of_getElem? (i := 78) (by decide +kernel)) rfl
theorem se_yX11_undo : Cond.selects yX11_undo.cls yX11_undo yX11_undo ∈ gtb := mt7 (List.mem_of_getElem? (i := 79) (by decide +kernel)) rfl
set_option maxRecDepth 100000 in
theorem cd_yX11_mix : Cond.code yX11_mix cX11_mix 3 none ∈ gtb := mt7 (List.mem_of_getElem? (i := 93) rfl) rfl
theorem im_yX11_mix : Cond.instanceMethod yX11_mix ∈ gtb := mt7 (List.mem_of_getElem? (i := 92) (by decide +kernel)) rfl
theorem se_yX11_mix : Cond.selects yX11_mix.cls yX11_mix yX11_mix ∈ gtb := mt0 (List.mem_of_getElem? (i := 76) (by decide +kernel)) rfl
set_option maxRecDepth 100000 in
theorem cd_yX11_mixLines : Cond.code yX11_mixLines cX11_mixLines 5 none ∈ gtb := mt7 (List.mem_of_getElem? (i := 98) rfl) rfl
theorem im_yX11_mixLines : Cond.instanceMethod yX11_mixLines ∈ gtb := mt7 (List.mem_of_getElem? (i := 97) (by decide +kernel)) rfl
theorem se_yX11_mixLines : Cond.selects yX11_mixLines.cls yX11_mixLines yX11_mixLines ∈ gtb := mt0 (List.mem_of_getElem? (i := 77) (by decide +kernel)) rfl
set_option maxRecDepth 100000 in
theorem cd_yX11_mixReplica : Cond.code yX11_mixReplica cX11_mixReplica 6 none ∈ gtb := mt7 (List.mem_of_getElem? (i := 89) rfl) rfl
theorem im_yX11_mixReplica : Cond.instanceMethod yX11_mixReplica ∈ gtb := mt7 (List.mem_of_getElem? (i := 88) (by decide +kernel)) rfl
theorem se_yX11_mixReplica : Cond.selects yX11_mixReplica.cls yX11_mixReplica yX11_mixReplica ∈ gtb := mt0 (List.mem_of_getElem? (i := 75) (by decide +kernel)) rfl
set_option maxRecDepth 100000 in
theorem cd_yX11_checksum : Cond.code yX11_checksum cX11_checksum 2 (some .long) ∈ gtb := mt7 (List.mem_of_getElem? (i := 84) rfl) rfl
theorem im_yX11_checksum : Cond.instanceMethod yX11_checksum ∈ gtb := mt7 (List.mem_of_getElem? (i := 82) (by decide +kernel)) rfl
theorem se_yX11_checksum : Cond.selects yX11_checksum.cls yX11_checksum yX11_checksum ∈ gtb := mt7 (List.mem_of_getElem? (i := 83) (by decide +kernel)) rfl
set_option maxRecDepth 100000 in
theorem cd_yJ13_bitCount_95d88 : Cond.code yJ13_bitCount_95d88 cJ13_bitCount_95d88 2 (some .int) ∈ gtb := mt4 (List.mem_of_getElem? (i := 198) rfl) rfl
theorem sm_yJ13_bitCount_95d88 : Cond.static yJ13_bitCount_95d88 ∈ gtb := mt4 (List.mem_of_getElem? (i := 197) (by decide +kernel)) rfl
set_option maxRecDepth 100000 in
theorem cd_yJ9_floorDiv_7cf53 : Cond.code yJ9_floorDiv_7cf53 cJ9_floorDiv_7cf53 3 (some .int) ∈ gtb := mt2 (List.mem_of_getElem? (i := 145) rfl) rfl
theorem sm_yJ9_floorDiv_7cf53 : Cond.static yJ9_floorDiv_7cf53 ∈ gtb := mt2 (List.mem_of_getElem? (i := 144) (by decide +kernel)) rfl
set_option maxRecDepth 100000 in
theorem cd_yJ9_floorMod_7cf53 : Cond.code yJ9_floorMod_7cf53 cJ9_floorMod_7cf53 3 (some .int) ∈ gtb := mt2 (List.mem_of_getElem? (i := 149) rfl) rfl
theorem sm_yJ9_floorMod_7cf53 : Cond.static yJ9_floorMod_7cf53 ∈ gtb := mt2 (List.mem_of_getElem? (i := 148) (by decide +kernel)) rfl
set_option maxRecDepth 100000 in
theorem cd_yJ9_max_7cf53 : Cond.code yJ9_max_7cf53 cJ9_max_7cf53 2 (some .int) ∈ gtb := mt2 (List.mem_of_getElem? (i := 54) rfl) rfl
theorem sm_yJ9_max_7cf53 : Cond.static yJ9_max_7cf53 ∈ gtb := mt2 (List.mem_of_getElem? (i := 53) (by decide +kernel)) rfl
set_option maxRecDepth 100000 in
theorem cd_yJ9_min_7cf53 : Cond.code yJ9_min_7cf53 cJ9_min_7cf53 2 (some .int) ∈ gtb := mt2 (List.mem_of_getElem? (i := 43) rfl) rfl
theorem sm_yJ9_min_7cf53 : Cond.static yJ9_min_7cf53 ∈ gtb := mt2 (List.mem_of_getElem? (i := 42) (by decide +kernel)) rfl
set_option maxRecDepth 100000 in
theorem cd_yJ7_fill_d0a16 : Cond.code yJ7_fill_d0a16 cJ7_fill_d0a16 5 none ∈ gtb := mt2 (List.mem_of_getElem? (i := 168) rfl) rfl
theorem sm_yJ7_fill_d0a16 : Cond.static yJ7_fill_d0a16 ∈ gtb := mt2 (List.mem_of_getElem? (i := 167) (by decide +kernel)) rfl
set_option maxRecDepth 100000 in
theorem cd_yJ7_fill_53178 : Cond.code yJ7_fill_53178 cJ7_fill_53178 4 none ∈ gtb := mt5 (List.mem_of_getElem? (i := 128) rfl) rfl
theorem sm_yJ7_fill_53178 : Cond.static yJ7_fill_53178 ∈ gtb := mt5 (List.mem_of_getElem? (i := 127) (by decide +kernel)) rfl
set_option maxRecDepth 100000 in
theorem cd_yJ7_copyOf_59c91 : Cond.code yJ7_copyOf_59c91 cJ7_copyOf_59c91 3 (some (.array .int)) ∈ gtb := mt4 (List.mem_of_getElem? (i := 160) rfl) rfl
theorem sm_yJ7_copyOf_59c91 : Cond.static yJ7_copyOf_59c91 ∈ gtb := mt4 (List.mem_of_getElem? (i := 159) (by decide +kernel)) rfl
theorem ini_X0 : Cond.initialized RX0 ∈ gtb := mt1 (List.mem_of_getElem? (i := 7) (by decide +kernel)) rfl
theorem ini_X1 : Cond.initialized RX1 ∈ gtb := mt1 (List.mem_of_getElem? (i := 8) (by decide +kernel)) rfl
theorem ini_X2 : Cond.initialized RX2 ∈ gtb := mt1 (List.mem_of_getElem? (i := 9) (by decide +kernel)) rfl
theorem ini_X3 : Cond.initialized RX3 ∈ gtb := mt1 (List.mem_of_getElem? (i := 19) (by decide +kernel)) rfl
theorem ini_X4 : Cond.initialized RX4 ∈ gtb := mt1 (List.mem_of_getElem? (i := 6) (by decide +kernel)) rfl
theorem ini_X5 : Cond.initialized RX5 ∈ gtb := mt1 (List.mem_of_getElem? (i := 17) (by decide +kernel)) rfl
theorem ini_X6 : Cond.initialized RX6 ∈ gtb := mt1 (List.mem_of_getElem? (i := 4) (by decide +kernel)) rfl
theorem ini_X7 : Cond.initialized RX7 ∈ gtb := mt1 (List.mem_of_getElem? (i := 2) (by decide +kernel)) rfl
theorem ini_X8 : Cond.initialized RX8 ∈ gtb := mt1 (List.mem_of_getElem? (i := 5) (by decide +kernel)) rfl
theorem ini_X9 : Cond.initialized RX9 ∈ gtb := mt1 (List.mem_of_getElem? (i := 3) (by decide +kernel)) rfl
theorem ini_X10 : Cond.initialized RX10 ∈ gtb := mt1 (List.mem_of_getElem? (i := 1) (by decide +kernel)) rfl
theorem ini_X11 : Cond.initialized RX11 ∈ gtb := mt1 (List.mem_of_getElem? (i := 10) (by decide +kernel)) rfl
theorem ini_J13 : Cond.initialized RJ13 ∈ gtb := mt1 (List.mem_of_getElem? (i := 22) (by decide +kernel)) rfl
theorem ini_J9 : Cond.initialized RJ9 ∈ gtb := mt1 (List.mem_of_getElem? (i := 15) (by decide +kernel)) rfl
theorem ini_J10 : Cond.initialized RJ10 ∈ gtb := mt1 (List.mem_of_getElem? (i := 21) (by decide +kernel)) rfl
theorem ini_J7 : Cond.initialized RJ7 ∈ gtb := mt1 (List.mem_of_getElem? (i := 20) (by decide +kernel)) rfl
theorem ini_L : Cond.initialized RL ∈ gtb := mt1 (List.mem_of_getElem? (i := 0) (by decide +kernel)) rfl
theorem kL_99 : Lk RL 99 yX10_init cX10_init 2 none 0 := ⟨mt1 (List.mem_of_getElem? (i := 25) (by decide +kernel)) rfl, ini_X10, cd_yX10_init, by decide, by decide, by decide +kernel⟩
theorem fX7_11 : Lf RX7 11 7 0 0 := ⟨by decide, rfl, rfl, mt1 (List.mem_of_getElem? (i := 39) (by decide +kernel)) rfl, rfl⟩
theorem fX7_15 : Lf RX7 15 7 1 1 := ⟨by decide, rfl, rfl, mt1 (List.mem_of_getElem? (i := 40) (by decide +kernel)) rfl, rfl⟩
theorem fX9_9 : Lf RX9 9 9 0 0 := ⟨by decide, rfl, rfl, mt1 (List.mem_of_getElem? (i := 53) (by decide +kernel)) rfl, rfl⟩
theorem fX9_15 : Lf RX9 15 9 1 1 := ⟨by decide, rfl, rfl, mt1 (List.mem_of_getElem? (i := 54) (by decide +kernel)) rfl, rfl⟩
theorem fX6_13 : Lf RX6 13 6 0 0 := ⟨by decide, rfl, rfl, mt1 (List.mem_of_getElem? (i := 67) (by decide +kernel)) rfl, rfl⟩
theorem fX6_17 : Lf RX6 17 6 1 1 := ⟨by decide, rfl, rfl, mt1 (List.mem_of_getElem? (i := 68) (by decide +kernel)) rfl, rfl⟩
theorem fX6_21 : Lf RX6 21 6 2 2 := ⟨by decide, rfl, rfl, mt1 (List.mem_of_getElem? (i := 69) (by decide +kernel)) rfl, rfl⟩
theorem kX10_36 : Lk RX10 36 yX8_init cX8_init 2 none 1 := ⟨mt1 (List.mem_of_getElem? (i := 78) (by decide +kernel)) rfl, ini_X8, cd_yX8_init, by decide, by decide, by decide +kernel⟩
theorem kX8_11 : Lk RX8 11 yX4_init cX4_init 1 none 0 := ⟨mt1 (List.mem_of_getElem? (i := 84) (by decide +kernel)) rfl, ini_X4, cd_yX4_init, by decide, by decide, by decide +kernel⟩
theorem kX4_31 : Lk RX4 31 yX4_reset cX4_reset 3 none 0 := ⟨mt1 (List.mem_of_getElem? (i := 88) (by decide +kernel)) rfl, ini_X4, cd_yX4_reset, by decide, by decide, by decide +kernel⟩
theorem kX4_38 : Lk RX4 38 yX4_arrange cX4_arrange 4 none 1 := ⟨mt1 (List.mem_of_getElem? (i := 92) (by decide +kernel)) rfl, ini_X4, cd_yX4_arrange, by decide, by decide, by decide +kernel⟩
theorem kX4_82 : Lk RX4 82 yX4_isBefore cX4_isBefore 3 (some .boolean) 2 := ⟨mt1 (List.mem_of_getElem? (i := 96) (by decide +kernel)) rfl, ini_X4, cd_yX4_isBefore, by decide, by decide, by decide +kernel⟩
theorem fX4_9 : Lf RX4 9 4 0 0 := ⟨by decide, rfl, rfl, mt1 (List.mem_of_getElem? (i := 100) (by decide +kernel)) rfl, rfl⟩
theorem fX4_15 : Lf RX4 15 4 1 1 := ⟨by decide, rfl, rfl, mt1 (List.mem_of_getElem? (i := 101) (by decide +kernel)) rfl, rfl⟩
theorem fX4_18 : Lf RX4 18 4 2 2 := ⟨by decide, rfl, rfl, mt1 (List.mem_of_getElem? (i := 102) (by decide +kernel)) rfl, rfl⟩
theorem fX4_21 : Lf RX4 21 4 3 3 := ⟨by decide, rfl, rfl, mt1 (List.mem_of_getElem? (i := 103) (by decide +kernel)) rfl, rfl⟩
theorem fX4_25 : Lf RX4 25 4 4 4 := ⟨by decide, rfl, rfl, mt1 (List.mem_of_getElem? (i := 104) (by decide +kernel)) rfl, rfl⟩
theorem fX4_28 : Lf RX4 28 4 5 5 := ⟨by decide, rfl, rfl, mt1 (List.mem_of_getElem? (i := 105) (by decide +kernel)) rfl, rfl⟩
theorem fX4_34 : Lf RX4 34 4 6 6 := ⟨by decide, rfl, rfl, mt1 (List.mem_of_getElem? (i := 106) (by decide +kernel)) rfl, rfl⟩
theorem fX1_11 : Lf RX1 11 1 0 0 := ⟨by decide, rfl, rfl, mt1 (List.mem_of_getElem? (i := 137) (by decide +kernel)) rfl, rfl⟩
theorem fX0_9 : Lf RX0 9 0 0 0 := ⟨by decide, rfl, rfl, mt1 (List.mem_of_getElem? (i := 142) (by decide +kernel)) rfl, rfl⟩
theorem fX0_15 : Lf RX0 15 0 1 1 := ⟨by decide, rfl, rfl, mt1 (List.mem_of_getElem? (i := 143) (by decide +kernel)) rfl, rfl⟩
theorem fX0_18 : Lf RX0 18 0 2 2 := ⟨by decide, rfl, rfl, mt1 (List.mem_of_getElem? (i := 144) (by decide +kernel)) rfl, rfl⟩
theorem fX0_23 : Lf RX0 23 0 3 3 := ⟨by decide, rfl, rfl, mt1 (List.mem_of_getElem? (i := 145) (by decide +kernel)) rfl, rfl⟩
theorem fX0_80 : Lf RX0 80 0 4 4 := ⟨by decide, rfl, rfl, mt1 (List.mem_of_getElem? (i := 146) (by decide +kernel)) rfl, rfl⟩
theorem fX0_27 : Lf RX0 27 0 5 5 := ⟨by decide, rfl, rfl, mt1 (List.mem_of_getElem? (i := 147) (by decide +kernel)) rfl, rfl⟩
theorem fX0_54 : Lf RX0 54 0 6 6 := ⟨by decide, rfl, rfl, mt1 (List.mem_of_getElem? (i := 148) (by decide +kernel)) rfl, rfl⟩
theorem fX0_69 : Lf RX0 69 0 7 7 := ⟨by decide, rfl, rfl, mt1 (List.mem_of_getElem? (i := 149) (by decide +kernel)) rfl, rfl⟩
theorem fX0_33 : Lf RX0 33 0 8 8 := ⟨by decide, rfl, rfl, mt1 (List.mem_of_getElem? (i := 150) (by decide +kernel)) rfl, rfl⟩
theorem fX0_37 : Lf RX0 37 0 9 9 := ⟨by decide, rfl, rfl, mt1 (List.mem_of_getElem? (i := 151) (by decide +kernel)) rfl, rfl⟩
theorem fX0_176 : Lf RX0 176 0 10 10 := ⟨by decide, rfl, rfl, mt1 (List.mem_of_getElem? (i := 152) (by decide +kernel)) rfl, rfl⟩
theorem fX0_40 : Lf RX0 40 0 11 11 := ⟨by decide, rfl, rfl, mt1 (List.mem_of_getElem? (i := 153) (by decide +kernel)) rfl, rfl⟩
theorem kX8_43 : Lk RX8 43 yX2_init cX2_init 4 none 3 := ⟨mt1 (List.mem_of_getElem? (i := 183) (by decide +kernel)) rfl, ini_X2, cd_yX2_init, by decide, by decide, by decide +kernel⟩
theorem fX2_7 : Lf RX2 7 2 0 0 := ⟨by decide, rfl, rfl, mt1 (List.mem_of_getElem? (i := 187) (by decide +kernel)) rfl, rfl⟩
theorem fX10_297 : Lf RX10 297 2 0 0 := ⟨by decide, rfl, rfl, mt1 (List.mem_of_getElem? (i := 188) (by decide +kernel)) rfl, rfl⟩
theorem fX2_13 : Lf RX2 13 2 1 1 := ⟨by decide, rfl, rfl, mt1 (List.mem_of_getElem? (i := 189) (by decide +kernel)) rfl, rfl⟩
theorem fX0_102 : Lf RX0 102 2 1 1 := ⟨by decide, rfl, rfl, mt1 (List.mem_of_getElem? (i := 190) (by decide +kernel)) rfl, rfl⟩
theorem fX10_304 : Lf RX10 304 2 1 1 := ⟨by decide, rfl, rfl, mt1 (List.mem_of_getElem? (i := 191) (by decide +kernel)) rfl, rfl⟩
theorem fX2_16 : Lf RX2 16 2 2 2 := ⟨by decide, rfl, rfl, mt1 (List.mem_of_getElem? (i := 192) (by decide +kernel)) rfl, rfl⟩
theorem fX0_107 : Lf RX0 107 2 2 2 := ⟨by decide, rfl, rfl, mt1 (List.mem_of_getElem? (i := 193) (by decide +kernel)) rfl, rfl⟩
theorem fX10_146 : Lf RX10 146 2 2 2 := ⟨by decide, rfl, rfl, mt1 (List.mem_of_getElem? (i := 194) (by decide +kernel)) rfl, rfl⟩
theorem fX8_50 : Lf RX8 50 8 0 0 := ⟨by decide, rfl, rfl, mt1 (List.mem_of_getElem? (i := 202) (by decide +kernel)) rfl, rfl⟩
theorem fX10_285 : Lf RX10 285 8 0 0 := ⟨by decide, rfl, rfl, mt1 (List.mem_of_getElem? (i := 203) (by decide +kernel)) rfl, rfl⟩
theorem fX8_12 : Lf RX8 12 8 1 1 := ⟨by decide, rfl, rfl, mt1 (List.mem_of_getElem? (i := 204) (by decide +kernel)) rfl, rfl⟩
theorem fX6_81 : Lf RX6 81 8 1 1 := ⟨by decide, rfl, rfl, mt1 (List.mem_of_getElem? (i := 205) (by decide +kernel)) rfl, rfl⟩
theorem fX0_83 : Lf RX0 83 8 1 1 := ⟨by decide, rfl, rfl, mt1 (List.mem_of_getElem? (i := 206) (by decide +kernel)) rfl, rfl⟩
theorem fX10_201 : Lf RX10 201 8 1 1 := ⟨by decide, rfl, rfl, mt1 (List.mem_of_getElem? (i := 207) (by decide +kernel)) rfl, rfl⟩
theorem fX8_18 : Lf RX8 18 8 2 2 := ⟨by decide, rfl, rfl, mt1 (List.mem_of_getElem? (i := 208) (by decide +kernel)) rfl, rfl⟩
theorem fX6_70 : Lf RX6 70 8 2 2 := ⟨by decide, rfl, rfl, mt1 (List.mem_of_getElem? (i := 209) (by decide +kernel)) rfl, rfl⟩
theorem fX0_95 : Lf RX0 95 8 2 2 := ⟨by decide, rfl, rfl, mt1 (List.mem_of_getElem? (i := 210) (by decide +kernel)) rfl, rfl⟩
theorem fX10_209 : Lf RX10 209 8 2 2 := ⟨by decide, rfl, rfl, mt1 (List.mem_of_getElem? (i := 211) (by decide +kernel)) rfl, rfl⟩
theorem fX8_24 : Lf RX8 24 8 3 3 := ⟨by decide, rfl, rfl, mt1 (List.mem_of_getElem? (i := 212) (by decide +kernel)) rfl, rfl⟩
theorem fX10_122 : Lf RX10 122 8 3 3 := ⟨by decide, rfl, rfl, mt1 (List.mem_of_getElem? (i := 213) (by decide +kernel)) rfl, rfl⟩
theorem fX8_54 : Lf RX8 54 8 4 4 := ⟨by decide, rfl, rfl, mt1 (List.mem_of_getElem? (i := 214) (by decide +kernel)) rfl, rfl⟩
theorem fX10_186 : Lf RX10 186 8 4 4 := ⟨by decide, rfl, rfl, mt1 (List.mem_of_getElem? (i := 215) (by decide +kernel)) rfl, rfl⟩
theorem fX8_30 : Lf RX8 30 8 5 5 := ⟨by decide, rfl, rfl, mt1 (List.mem_of_getElem? (i := 216) (by decide +kernel)) rfl, rfl⟩
theorem fX8_34 : Lf RX8 34 8 6 6 := ⟨by decide, rfl, rfl, mt1 (List.mem_of_getElem? (i := 217) (by decide +kernel)) rfl, rfl⟩
theorem fX8_38 : Lf RX8 38 8 7 7 := ⟨by decide, rfl, rfl, mt1 (List.mem_of_getElem? (i := 218) (by decide +kernel)) rfl, rfl⟩
theorem fX8_46 : Lf RX8 46 8 8 8 := ⟨by decide, rfl, rfl, mt1 (List.mem_of_getElem? (i := 219) (by decide +kernel)) rfl, rfl⟩
theorem fX10_11 : Lf RX10 11 10 0 0 := ⟨by decide, rfl, rfl, mt1 (List.mem_of_getElem? (i := 239) (by decide +kernel)) rfl, rfl⟩
theorem fX10_18 : Lf RX10 18 10 1 1 := ⟨by decide, rfl, rfl, mt2 (List.mem_of_getElem? (i := 0) (by decide +kernel)) rfl, rfl⟩
theorem fX10_25 : Lf RX10 25 10 2 2 := ⟨by decide, rfl, rfl, mt2 (List.mem_of_getElem? (i := 1) (by decide +kernel)) rfl, rfl⟩
theorem fX10_32 : Lf RX10 32 10 3 3 := ⟨by decide, rfl, rfl, mt2 (List.mem_of_getElem? (i := 2) (by decide +kernel)) rfl, rfl⟩
theorem kL_166 : Lk RL 166 yX10_settle cX10_settle 4 (some .int) 0 := ⟨mt2 (List.mem_of_getElem? (i := 12) (by decide +kernel)) rfl, ini_X10, cd_yX10_settle, by decide, by decide, by decide +kernel⟩
theorem kX10_174 : Lk RX10 174 yX7_keep cX7_keep 3 none 1 := ⟨mt2 (List.mem_of_getElem? (i := 16) (by decide +kernel)) rfl, ini_X7, cd_yX7_keep, by decide, by decide, by decide +kernel⟩
theorem kX7_19 : Lk RX7 19 yX7_dropOldest cX7_dropOldest 2 none 0 := ⟨mt2 (List.mem_of_getElem? (i := 20) (by decide +kernel)) rfl, ini_X7, cd_yX7_dropOldest, by decide, by decide, by decide +kernel⟩
theorem kX7_22 : Lk RX7 22 yX8_carriedOf cX8_carriedOf 2 (some .int) 1 := ⟨mt2 (List.mem_of_getElem? (i := 24) (by decide +kernel)) rfl, ini_X8, cd_yX8_carriedOf, by decide, by decide, by decide +kernel⟩
theorem kX10_178 : Lk RX10 178 yX8_take cX8_take 5 (some .int) 2 := ⟨mt2 (List.mem_of_getElem? (i := 28) (by decide +kernel)) rfl, ini_X8, cd_yX8_take, by decide, by decide, by decide +kernel⟩
theorem kX8_77 : Lk RX8 77 yX8_lacking cX8_lacking 2 (some .int) 1 := ⟨mt2 (List.mem_of_getElem? (i := 32) (by decide +kernel)) rfl, ini_X8, cd_yX8_lacking, by decide, by decide, by decide +kernel⟩
theorem kX8_69 : Lk RX8 69 yX8_logLength cX8_logLength 1 (some .int) 0 := ⟨mt2 (List.mem_of_getElem? (i := 36) (by decide +kernel)) rfl, ini_X8, cd_yX8_logLength, by decide, by decide, by decide +kernel⟩
theorem kX8_65 : Lk RX8 65 yX8_carriedOf cX8_carriedOf 2 (some .int) 1 := ⟨mt2 (List.mem_of_getElem? (i := 40) (by decide +kernel)) rfl, ini_X8, cd_yX8_carriedOf, by decide, by decide, by decide +kernel⟩
theorem kX8_81 : Lk RX8 81 yJ9_min_7cf53 cJ9_min_7cf53 2 (some .int) 2 := ⟨mt2 (List.mem_of_getElem? (i := 41) (by decide +kernel)) rfl, ini_J9, cd_yJ9_min_7cf53, by decide, by decide, by decide +kernel⟩
theorem kX8_87 : Lk RX8 87 yX8_logged cX8_logged 2 (some (.object "SharedSheet$Operation")) 1 := ⟨mt2 (List.mem_of_getElem? (i := 44) (by decide +kernel)) rfl, ini_X8, cd_yX8_logged, by decide, by decide, by decide +kernel⟩
theorem kX8_73 : Lk RX8 73 yX8_carryOut cX8_carryOut 2 none 1 := ⟨mt2 (List.mem_of_getElem? (i := 48) (by decide +kernel)) rfl, ini_X8, cd_yX8_carryOut, by decide, by decide, by decide +kernel⟩
theorem kX8_107 : Lk RX8 107 yJ9_max_7cf53 cJ9_max_7cf53 2 (some .int) 2 := ⟨mt2 (List.mem_of_getElem? (i := 52) (by decide +kernel)) rfl, ini_J9, cd_yJ9_max_7cf53, by decide, by decide, by decide +kernel⟩
theorem kX8_113 : Lk RX8 113 yX8_carryOutWrite cX8_carryOutWrite 4 none 1 := ⟨mt2 (List.mem_of_getElem? (i := 55) (by decide +kernel)) rfl, ini_X8, cd_yX8_carryOutWrite, by decide, by decide, by decide +kernel⟩
theorem kX8_128 : Lk RX8 128 yX5_isLaterThan cX5_isLaterThan 3 (some .boolean) 2 := ⟨mt2 (List.mem_of_getElem? (i := 62) (by decide +kernel)) rfl, ini_X5, cd_yX5_isLaterThan, by decide, by decide, by decide +kernel⟩
theorem kX8_57 : Lk RX8 57 yX8_linesOf cX8_linesOf 2 (some (.object "SharedSheet$Lines")) 1 := ⟨mt2 (List.mem_of_getElem? (i := 66) (by decide +kernel)) rfl, ini_X8, cd_yX8_linesOf, by decide, by decide, by decide +kernel⟩
theorem kX8_118 : Lk RX8 118 yX4_carryOut cX4_carryOut 3 none 1 := ⟨mt2 (List.mem_of_getElem? (i := 70) (by decide +kernel)) rfl, ini_X4, cd_yX4_carryOut, by decide, by decide, by decide +kernel⟩
theorem kX4_50 : Lk RX4 50 yX5_isLaterThan cX5_isLaterThan 3 (some .boolean) 2 := ⟨mt2 (List.mem_of_getElem? (i := 74) (by decide +kernel)) rfl, ini_X5, cd_yX5_isLaterThan, by decide, by decide, by decide +kernel⟩
theorem kX8_100 : Lk RX8 100 yX0_outdate cX0_outdate 1 none 0 := ⟨mt2 (List.mem_of_getElem? (i := 75) (by decide +kernel)) rfl, ini_X0, cd_yX0_outdate, by decide, by decide, by decide +kernel⟩
theorem kL_188 : Lk RL 188 yX10_clearText cX10_clearText 2 (some .int) 0 := ⟨mt2 (List.mem_of_getElem? (i := 79) (by decide +kernel)) rfl, ini_X10, cd_yX10_clearText, by decide, by decide, by decide +kernel⟩
theorem kX10_160 : Lk RX10 160 yX9_length cX9_length 1 (some .int) 0 := ⟨mt2 (List.mem_of_getElem? (i := 83) (by decide +kernel)) rfl, ini_X9, cd_yX9_length, by decide, by decide, by decide +kernel⟩
theorem kX10_151 : Lk RX10 151 yX9_empty cX9_empty 1 none 0 := ⟨mt2 (List.mem_of_getElem? (i := 87) (by decide +kernel)) rfl, ini_X9, cd_yX9_empty, by decide, by decide, by decide +kernel⟩
theorem kL_195 : Lk RL 195 yX10_character cX10_character 2 (some .int) 1 := ⟨mt2 (List.mem_of_getElem? (i := 91) (by decide +kernel)) rfl, ini_X10, cd_yX10_character, by decide, by decide, by decide +kernel⟩
theorem kX10_236 : Lk RX10 236 yX9_at cX9_at 2 (some .int) 1 := ⟨mt2 (List.mem_of_getElem? (i := 95) (by decide +kernel)) rfl, ini_X9, cd_yX9_at, by decide, by decide, by decide +kernel⟩
theorem kL_203 : Lk RL 203 yX10_checksum cX10_checksum 6 (some .long) 0 := ⟨mt2 (List.mem_of_getElem? (i := 99) (by decide +kernel)) rfl, ini_X10, cd_yX10_checksum, by decide, by decide, by decide +kernel⟩
theorem kX10_247 : Lk RX10 247 yX10_mixed cX10_mixed 4 (some .long) 2 := ⟨mt2 (List.mem_of_getElem? (i := 104) (by decide +kernel)) rfl, ini_X10, cd_yX10_mixed, by decide, by decide, by decide +kernel⟩
theorem kX10_190 : Lk RX10 190 yX8_logLength cX8_logLength 1 (some .int) 0 := ⟨mt2 (List.mem_of_getElem? (i := 108) (by decide +kernel)) rfl, ini_X8, cd_yX8_logLength, by decide, by decide, by decide +kernel⟩
theorem kX10_182 : Lk RX10 182 yX8_lacking cX8_lacking 2 (some .int) 1 := ⟨mt2 (List.mem_of_getElem? (i := 109) (by decide +kernel)) rfl, ini_X8, cd_yX8_lacking, by decide, by decide, by decide +kernel⟩
theorem kX10_251 : Lk RX10 251 yX10_mixedLines cX10_mixedLines 7 (some .long) 2 := ⟨mt2 (List.mem_of_getElem? (i := 110) (by decide +kernel)) rfl, ini_X10, cd_yX10_mixedLines, by decide, by decide, by decide +kernel⟩
theorem kX10_47 : Lk RX10 47 yX4_count cX4_count 1 (some .int) 0 := ⟨mt2 (List.mem_of_getElem? (i := 113) (by decide +kernel)) rfl, ini_X4, cd_yX4_count, by decide, by decide, by decide +kernel⟩
theorem kX10_76 : Lk RX10 76 yX4_numberAt cX4_numberAt 2 (some .int) 1 := ⟨mt2 (List.mem_of_getElem? (i := 117) (by decide +kernel)) rfl, ini_X4, cd_yX4_numberAt, by decide, by decide, by decide +kernel⟩
theorem kX10_89 : Lk RX10 89 yX4_placeOf cX4_placeOf 2 (some .int) 1 := ⟨mt2 (List.mem_of_getElem? (i := 121) (by decide +kernel)) rfl, ini_X4, cd_yX4_placeOf, by decide, by decide, by decide +kernel⟩
theorem kX10_126 : Lk RX10 126 yX0_upToDate cX0_upToDate 2 (some (.object "SharedSheet$Calculation")) 1 := ⟨mt2 (List.mem_of_getElem? (i := 125) (by decide +kernel)) rfl, ini_X0, cd_yX0_upToDate, by decide, by decide, by decide +kernel⟩
theorem kX0_44 : Lk RX0 44 yX0_readCells cX0_readCells 6 none 1 := ⟨mt2 (List.mem_of_getElem? (i := 129) (by decide +kernel)) rfl, ini_X0, cd_yX0_readCells, by decide, by decide, by decide +kernel⟩
theorem kX0_89 : Lk RX0 89 yX4_count cX4_count 1 (some .int) 0 := ⟨mt2 (List.mem_of_getElem? (i := 133) (by decide +kernel)) rfl, ini_X4, cd_yX4_count, by decide, by decide, by decide +kernel⟩
theorem kX0_98 : Lk RX0 98 yX8_contentAt cX8_contentAt 3 (some (.object "SharedSheet$Content")) 1 := ⟨mt2 (List.mem_of_getElem? (i := 135) (by decide +kernel)) rfl, ini_X8, cd_yX8_contentAt, by decide, by decide, by decide +kernel⟩
theorem kX8_147 : Lk RX8 147 yX8_writerAt cX8_writerAt 4 (some (.object "SharedSheet$Operation")) 1 := ⟨mt2 (List.mem_of_getElem? (i := 139) (by decide +kernel)) rfl, ini_X8, cd_yX8_writerAt, by decide, by decide, by decide +kernel⟩
theorem kX8_132 : Lk RX8 132 yJ9_floorDiv_7cf53 cJ9_floorDiv_7cf53 3 (some .int) 2 := ⟨mt2 (List.mem_of_getElem? (i := 143) (by decide +kernel)) rfl, ini_J9, cd_yJ9_floorDiv_7cf53, by decide, by decide, by decide +kernel⟩
theorem kX8_135 : Lk RX8 135 yX4_numberAt cX4_numberAt 2 (some .int) 1 := ⟨mt2 (List.mem_of_getElem? (i := 146) (by decide +kernel)) rfl, ini_X4, cd_yX4_numberAt, by decide, by decide, by decide +kernel⟩
theorem kX8_138 : Lk RX8 138 yJ9_floorMod_7cf53 cJ9_floorMod_7cf53 3 (some .int) 2 := ⟨mt2 (List.mem_of_getElem? (i := 147) (by decide +kernel)) rfl, ini_J9, cd_yJ9_floorMod_7cf53, by decide, by decide, by decide +kernel⟩
theorem kX8_141 : Lk RX8 141 yX8_writerOf cX8_writerOf 2 (some (.object "SharedSheet$Operation")) 1 := ⟨mt2 (List.mem_of_getElem? (i := 150) (by decide +kernel)) rfl, ini_X8, cd_yX8_writerOf, by decide, by decide, by decide +kernel⟩
theorem kX0_111 : Lk RX0 111 yX0_addFormula cX0_addFormula 3 none 2 := ⟨mt2 (List.mem_of_getElem? (i := 154) (by decide +kernel)) rfl, ini_X0, cd_yX0_addFormula, by decide, by decide, by decide +kernel⟩
theorem kX0_48 : Lk RX0 48 yX0_findReferences cX0_findReferences 7 none 1 := ⟨mt2 (List.mem_of_getElem? (i := 158) (by decide +kernel)) rfl, ini_X0, cd_yX0_findReferences, by decide, by decide, by decide +kernel⟩
theorem kX0_115 : Lk RX0 115 yX1_empty cX1_empty 1 none 0 := ⟨mt2 (List.mem_of_getElem? (i := 162) (by decide +kernel)) rfl, ini_X1, cd_yX1_empty, by decide, by decide, by decide +kernel⟩
theorem kX1_15 : Lk RX1 15 yJ7_fill_d0a16 cJ7_fill_d0a16 5 none 2 := ⟨mt2 (List.mem_of_getElem? (i := 166) (by decide +kernel)) rfl, ini_J7, cd_yJ7_fill_d0a16, by decide, by decide, by decide +kernel⟩
theorem kX0_118 : Lk RX0 118 yX1_put cX1_put 3 none 2 := ⟨mt2 (List.mem_of_getElem? (i := 169) (by decide +kernel)) rfl, ini_X1, cd_yX1_put, by decide, by decide, by decide +kernel⟩
theorem kX1_27 : Lk RX1 27 yX1_isSet cX1_isSet 1 (some .boolean) 1 := ⟨mt2 (List.mem_of_getElem? (i := 173) (by decide +kernel)) rfl, ini_X1, cd_yX1_isSet, by decide, by decide, by decide +kernel⟩
theorem kX0_122 : Lk RX0 122 yX3_factors cX3_factors 1 (some .int) 0 := ⟨mt2 (List.mem_of_getElem? (i := 177) (by decide +kernel)) rfl, ini_X3, cd_yX3_factors, by decide, by decide, by decide +kernel⟩
theorem kX0_125 : Lk RX0 125 yX3_kindOf cX3_kindOf 2 (some .int) 1 := ⟨mt2 (List.mem_of_getElem? (i := 181) (by decide +kernel)) rfl, ini_X3, cd_yX3_kindOf, by decide, by decide, by decide +kernel⟩
theorem kX3_15 : Lk RX3 15 yX3_partAt cX3_partAt 2 (some .int) 1 := ⟨mt2 (List.mem_of_getElem? (i := 185) (by decide +kernel)) rfl, ini_X3, cd_yX3_partAt, by decide, by decide, by decide +kernel⟩
theorem kX0_128 : Lk RX0 128 yX3_firstOf cX3_firstOf 2 (some .int) 1 := ⟨mt2 (List.mem_of_getElem? (i := 190) (by decide +kernel)) rfl, ini_X3, cd_yX3_firstOf, by decide, by decide, by decide +kernel⟩
theorem kX0_131 : Lk RX0 131 yX8_cellOf cX8_cellOf 4 (some .int) 1 := ⟨mt2 (List.mem_of_getElem? (i := 194) (by decide +kernel)) rfl, ini_X8, cd_yX8_cellOf, by decide, by decide, by decide +kernel⟩
theorem kX8_144 : Lk RX8 144 yX4_positionOf cX4_positionOf 3 (some .int) 1 := ⟨mt2 (List.mem_of_getElem? (i := 198) (by decide +kernel)) rfl, ini_X4, cd_yX4_positionOf, by decide, by decide, by decide +kernel⟩
theorem kX0_134 : Lk RX0 134 yX3_secondOf cX3_secondOf 2 (some .int) 1 := ⟨mt2 (List.mem_of_getElem? (i := 202) (by decide +kernel)) rfl, ini_X3, cd_yX3_secondOf, by decide, by decide, by decide +kernel⟩
theorem kX0_137 : Lk RX0 137 yX0_addReferences cX0_addReferences 4 none 3 := ⟨mt2 (List.mem_of_getElem? (i := 206) (by decide +kernel)) rfl, ini_X0, cd_yX0_addReferences, by decide, by decide, by decide +kernel⟩
theorem kX0_141 : Lk RX0 141 yX0_addRectangle cX0_addRectangle 8 none 3 := ⟨mt2 (List.mem_of_getElem? (i := 210) (by decide +kernel)) rfl, ini_X0, cd_yX0_addRectangle, by decide, by decide, by decide +kernel⟩
theorem kX0_144 : Lk RX0 144 yJ9_max_7cf53 cJ9_max_7cf53 2 (some .int) 2 := ⟨mt2 (List.mem_of_getElem? (i := 214) (by decide +kernel)) rfl, ini_J9, cd_yJ9_max_7cf53, by decide, by decide, by decide +kernel⟩
theorem kX0_150 : Lk RX0 150 yJ9_min_7cf53 cJ9_min_7cf53 2 (some .int) 2 := ⟨mt2 (List.mem_of_getElem? (i := 215) (by decide +kernel)) rfl, ini_J9, cd_yJ9_min_7cf53, by decide, by decide, by decide +kernel⟩
theorem kX0_51 : Lk RX0 51 yX0_findCycles cX0_findCycles 3 none 0 := ⟨mt2 (List.mem_of_getElem? (i := 216) (by decide +kernel)) rfl, ini_X0, cd_yX0_findCycles, by decide, by decide, by decide +kernel⟩
theorem kX0_153 : Lk RX0 153 yX1_copyFrom cX1_copyFrom 2 none 1 := ⟨mt2 (List.mem_of_getElem? (i := 220) (by decide +kernel)) rfl, ini_X1, cd_yX1_copyFrom, by decide, by decide, by decide +kernel⟩
theorem kX0_72 : Lk RX0 72 yX1_has cX1_has 3 (some .boolean) 2 := ⟨mt2 (List.mem_of_getElem? (i := 227) (by decide +kernel)) rfl, ini_X1, cd_yX1_has, by decide, by decide, by decide +kernel⟩
theorem kX0_157 : Lk RX0 157 yX1_join cX1_join 4 none 2 := ⟨mt2 (List.mem_of_getElem? (i := 231) (by decide +kernel)) rfl, ini_X1, cd_yX1_join, by decide, by decide, by decide +kernel⟩
theorem kX0_58 : Lk RX0 58 yX0_calculateWaiting cX0_calculateWaiting 6 none 2 := ⟨mt2 (List.mem_of_getElem? (i := 235) (by decide +kernel)) rfl, ini_X0, cd_yX0_calculateWaiting, by decide, by decide, by decide +kernel⟩
theorem kX0_166 : Lk RX0 166 yX0_firstReady cX0_firstReady 3 (some .int) 0 := ⟨mt2 (List.mem_of_getElem? (i := 239) (by decide +kernel)) rfl, ini_X0, cd_yX0_firstReady, by decide, by decide, by decide +kernel⟩
theorem kX0_173 : Lk RX0 173 yX1_haveCommon cX1_haveCommon 4 (some .boolean) 2 := ⟨mt3 (List.mem_of_getElem? (i := 3) (by decide +kernel)) rfl, ini_X1, cd_yX1_haveCommon, by decide, by decide, by decide +kernel⟩
theorem kX0_163 : Lk RX0 163 yX1_drop cX1_drop 3 none 2 := ⟨mt3 (List.mem_of_getElem? (i := 7) (by decide +kernel)) rfl, ini_X1, cd_yX1_drop, by decide, by decide, by decide +kernel⟩
theorem kX0_169 : Lk RX0 169 yX0_calculateFormula cX0_calculateFormula 10 none 3 := ⟨mt3 (List.mem_of_getElem? (i := 12) (by decide +kernel)) rfl, ini_X0, cd_yX0_calculateFormula, by decide, by decide, by decide +kernel⟩
theorem kX0_179 : Lk RX0 179 yX3_signOf cX3_signOf 2 (some .int) 1 := ⟨mt3 (List.mem_of_getElem? (i := 16) (by decide +kernel)) rfl, ini_X3, cd_yX3_signOf, by decide, by decide, by decide +kernel⟩
theorem kX0_182 : Lk RX0 182 yX0_factorOf cX0_factorOf 6 (some .long) 3 := ⟨mt3 (List.mem_of_getElem? (i := 20) (by decide +kernel)) rfl, ini_X0, cd_yX0_factorOf, by decide, by decide, by decide +kernel⟩
theorem kX0_190 : Lk RX0 190 yX0_sumOf cX0_sumOf 9 (some .long) 2 := ⟨mt3 (List.mem_of_getElem? (i := 24) (by decide +kernel)) rfl, ini_X0, cd_yX0_sumOf, by decide, by decide, by decide +kernel⟩
theorem kX0_186 : Lk RX0 186 yX0_limited cX0_limited 3 (some .long) 1 := ⟨mt3 (List.mem_of_getElem? (i := 28) (by decide +kernel)) rfl, ini_X0, cd_yX0_limited, by decide, by decide, by decide +kernel⟩
theorem kX0_62 : Lk RX0 62 yX0_endWaitOfCycles cX0_endWaitOfCycles 3 none 0 := ⟨mt3 (List.mem_of_getElem? (i := 34) (by decide +kernel)) rfl, ini_X0, cd_yX0_endWaitOfCycles, by decide, by decide, by decide +kernel⟩
theorem kX0_160 : Lk RX0 160 yX0_isOnCycle cX0_isOnCycle 2 (some .boolean) 1 := ⟨mt3 (List.mem_of_getElem? (i := 38) (by decide +kernel)) rfl, ini_X0, cd_yX0_isOnCycle, by decide, by decide, by decide +kernel⟩
theorem kX10_255 : Lk RX10 255 yX10_mixedCells cX10_mixedCells 10 (some .long) 3 := ⟨mt3 (List.mem_of_getElem? (i := 42) (by decide +kernel)) rfl, ini_X10, cd_yX10_mixedCells, by decide, by decide, by decide +kernel⟩
theorem kX10_118 : Lk RX10 118 yX10_aboutContent cX10_aboutContent 4 (some .int) 3 := ⟨mt3 (List.mem_of_getElem? (i := 45) (by decide +kernel)) rfl, ini_X10, cd_yX10_aboutContent, by decide, by decide, by decide +kernel⟩
theorem kX10_294 : Lk RX10 294 yX8_writerAt cX8_writerAt 4 (some (.object "SharedSheet$Operation")) 1 := ⟨mt3 (List.mem_of_getElem? (i := 48) (by decide +kernel)) rfl, ini_X8, cd_yX8_writerAt, by decide, by decide, by decide +kernel⟩
theorem kX10_142 : Lk RX10 142 yX8_contentAt cX8_contentAt 3 (some (.object "SharedSheet$Content")) 1 := ⟨mt3 (List.mem_of_getElem? (i := 49) (by decide +kernel)) rfl, ini_X8, cd_yX8_contentAt, by decide, by decide, by decide +kernel⟩
theorem kX10_136 : Lk RX10 136 yX0_valueAt cX0_valueAt 2 (some .int) 1 := ⟨mt3 (List.mem_of_getElem? (i := 50) (by decide +kernel)) rfl, ini_X0, cd_yX0_valueAt, by decide, by decide, by decide +kernel⟩
theorem kX10_139 : Lk RX10 139 yX0_errorAt cX0_errorAt 2 (some .int) 1 := ⟨mt3 (List.mem_of_getElem? (i := 54) (by decide +kernel)) rfl, ini_X0, cd_yX0_errorAt, by decide, by decide, by decide +kernel⟩
theorem kX10_259 : Lk RX10 259 yX10_mixedOrder cX10_mixedOrder 6 (some .long) 2 := ⟨mt3 (List.mem_of_getElem? (i := 58) (by decide +kernel)) rfl, ini_X10, cd_yX10_mixedOrder, by decide, by decide, by decide +kernel⟩
theorem kX10_163 : Lk RX10 163 yX0_cycleCount cX0_cycleCount 1 (some .int) 0 := ⟨mt3 (List.mem_of_getElem? (i := 61) (by decide +kernel)) rfl, ini_X0, cd_yX0_cycleCount, by decide, by decide, by decide +kernel⟩
theorem kX10_329 : Lk RX10 329 yX0_orderedCount cX0_orderedCount 1 (some .int) 0 := ⟨mt3 (List.mem_of_getElem? (i := 65) (by decide +kernel)) rfl, ini_X0, cd_yX0_orderedCount, by decide, by decide, by decide +kernel⟩
theorem kX10_166 : Lk RX10 166 yX10_toldOrder cX10_toldOrder 3 (some .int) 2 := ⟨mt3 (List.mem_of_getElem? (i := 69) (by decide +kernel)) rfl, ini_X10, cd_yX10_toldOrder, by decide, by decide, by decide +kernel⟩
theorem kX10_324 : Lk RX10 324 yX0_orderedAt cX0_orderedAt 2 (some .int) 1 := ⟨mt3 (List.mem_of_getElem? (i := 72) (by decide +kernel)) rfl, ini_X0, cd_yX0_orderedAt, by decide, by decide, by decide +kernel⟩
theorem kX10_239 : Lk RX10 239 yX7_count cX7_count 1 (some .int) 0 := ⟨mt3 (List.mem_of_getElem? (i := 76) (by decide +kernel)) rfl, ini_X7, cd_yX7_count, by decide, by decide, by decide +kernel⟩
theorem kL_7 : Lk RL 7 yX10_make cX10_make 8 (some .int) 3 := ⟨mt3 (List.mem_of_getElem? (i := 85) (by decide +kernel)) rfl, ini_X10, cd_yX10_make, by decide, by decide, by decide +kernel⟩
theorem kX10_39 : Lk RX10 39 yX10_replicaAt cX10_replicaAt 2 (some (.object "SharedSheet$Replica")) 1 := ⟨mt3 (List.mem_of_getElem? (i := 89) (by decide +kernel)) rfl, ini_X10, cd_yX10_replicaAt, by decide, by decide, by decide +kernel⟩
theorem kX10_43 : Lk RX10 43 yX8_linesOf cX8_linesOf 2 (some (.object "SharedSheet$Lines")) 1 := ⟨mt3 (List.mem_of_getElem? (i := 161) (by decide +kernel)) rfl, ini_X8, cd_yX8_linesOf, by decide, by decide, by decide +kernel⟩
theorem kX10_53 : Lk RX10 53 yX10_requireIndex cX10_requireIndex 2 none 2 := ⟨mt3 (List.mem_of_getElem? (i := 162) (by decide +kernel)) rfl, ini_X10, cd_yX10_requireIndex, by decide, by decide, by decide +kernel⟩
theorem kX10_57 : Lk RX10 57 yX8_nextLine cX8_nextLine 4 (some .int) 1 := ⟨mt3 (List.mem_of_getElem? (i := 166) (by decide +kernel)) rfl, ini_X8, cd_yX8_nextLine, by decide, by decide, by decide +kernel⟩
theorem kX8_61 : Lk RX8 61 yX4_isMade cX4_isMade 2 (some .boolean) 1 := ⟨mt3 (List.mem_of_getElem? (i := 170) (by decide +kernel)) rfl, ini_X4, cd_yX4_isMade, by decide, by decide, by decide +kernel⟩
theorem kX10_61 : Lk RX10 61 yX4_placeBetween cX4_placeBetween 8 (some .int) 2 := ⟨mt3 (List.mem_of_getElem? (i := 174) (by decide +kernel)) rfl, ini_X4, cd_yX4_placeBetween, by decide, by decide, by decide +kernel⟩
theorem kX4_63 : Lk RX4 63 yX4_numberWithout cX4_numberWithout 4 (some .int) 2 := ⟨mt3 (List.mem_of_getElem? (i := 178) (by decide +kernel)) rfl, ini_X4, cd_yX4_numberWithout, by decide, by decide, by decide +kernel⟩
theorem kX4_76 : Lk RX4 76 yX4_positionOf cX4_positionOf 3 (some .int) 1 := ⟨mt3 (List.mem_of_getElem? (i := 182) (by decide +kernel)) rfl, ini_X4, cd_yX4_positionOf, by decide, by decide, by decide +kernel⟩
theorem kX4_79 : Lk RX4 79 yX4_numberAt cX4_numberAt 2 (some .int) 1 := ⟨mt3 (List.mem_of_getElem? (i := 183) (by decide +kernel)) rfl, ini_X4, cd_yX4_numberAt, by decide, by decide, by decide +kernel⟩
theorem kX4_67 : Lk RX4 67 yX4_placeOf cX4_placeOf 2 (some .int) 1 := ⟨mt3 (List.mem_of_getElem? (i := 184) (by decide +kernel)) rfl, ini_X4, cd_yX4_placeOf, by decide, by decide, by decide +kernel⟩
theorem kX4_71 : Lk RX4 71 yJ9_floorDiv_7cf53 cJ9_floorDiv_7cf53 3 (some .int) 2 := ⟨mt3 (List.mem_of_getElem? (i := 185) (by decide +kernel)) rfl, ini_J9, cd_yJ9_floorDiv_7cf53, by decide, by decide, by decide +kernel⟩
theorem kX10_72 : Lk RX10 72 yX10_changeLine cX10_changeLine 6 none 5 := ⟨mt3 (List.mem_of_getElem? (i := 202) (by decide +kernel)) rfl, ini_X10, cd_yX10_changeLine, by decide, by decide, by decide +kernel⟩
theorem kX10_276 : Lk RX10 276 yX10_requireLogRoom cX10_requireLogRoom 1 none 1 := ⟨mt3 (List.mem_of_getElem? (i := 206) (by decide +kernel)) rfl, ini_X10, cd_yX10_requireLogRoom, by decide, by decide, by decide +kernel⟩
theorem kX10_282 : Lk RX10 282 yX8_nextClock cX8_nextClock 1 (some .int) 0 := ⟨mt3 (List.mem_of_getElem? (i := 212) (by decide +kernel)) rfl, ini_X8, cd_yX8_nextClock, by decide, by decide, by decide +kernel⟩
theorem kX10_288 : Lk RX10 288 yX5_init cX5_init 8 none 7 := ⟨mt3 (List.mem_of_getElem? (i := 216) (by decide +kernel)) rfl, ini_X5, cd_yX5_init, by decide, by decide, by decide +kernel⟩
theorem fX5_7 : Lf RX5 7 5 0 0 := ⟨by decide, rfl, rfl, mt3 (List.mem_of_getElem? (i := 220) (by decide +kernel)) rfl, rfl⟩
theorem fX4_47 : Lf RX4 47 5 0 0 := ⟨by decide, rfl, rfl, mt3 (List.mem_of_getElem? (i := 221) (by decide +kernel)) rfl, rfl⟩
theorem fX8_110 : Lf RX8 110 5 0 0 := ⟨by decide, rfl, rfl, mt3 (List.mem_of_getElem? (i := 222) (by decide +kernel)) rfl, rfl⟩
theorem fX10_315 : Lf RX10 315 5 0 0 := ⟨by decide, rfl, rfl, mt3 (List.mem_of_getElem? (i := 223) (by decide +kernel)) rfl, rfl⟩
theorem fX5_13 : Lf RX5 13 5 1 1 := ⟨by decide, rfl, rfl, mt3 (List.mem_of_getElem? (i := 224) (by decide +kernel)) rfl, rfl⟩
theorem fX4_57 : Lf RX4 57 5 1 1 := ⟨by decide, rfl, rfl, mt3 (List.mem_of_getElem? (i := 225) (by decide +kernel)) rfl, rfl⟩
theorem fX8_106 : Lf RX8 106 5 1 1 := ⟨by decide, rfl, rfl, mt3 (List.mem_of_getElem? (i := 226) (by decide +kernel)) rfl, rfl⟩
theorem fX10_300 : Lf RX10 300 5 1 1 := ⟨by decide, rfl, rfl, mt3 (List.mem_of_getElem? (i := 227) (by decide +kernel)) rfl, rfl⟩
theorem fX5_16 : Lf RX5 16 5 2 2 := ⟨by decide, rfl, rfl, mt3 (List.mem_of_getElem? (i := 228) (by decide +kernel)) rfl, rfl⟩
theorem fX4_60 : Lf RX4 60 5 2 2 := ⟨by decide, rfl, rfl, mt3 (List.mem_of_getElem? (i := 229) (by decide +kernel)) rfl, rfl⟩
theorem fX8_103 : Lf RX8 103 5 2 2 := ⟨by decide, rfl, rfl, mt3 (List.mem_of_getElem? (i := 230) (by decide +kernel)) rfl, rfl⟩
theorem fX10_301 : Lf RX10 301 5 2 2 := ⟨by decide, rfl, rfl, mt3 (List.mem_of_getElem? (i := 231) (by decide +kernel)) rfl, rfl⟩
theorem fX5_19 : Lf RX5 19 5 3 3 := ⟨by decide, rfl, rfl, mt3 (List.mem_of_getElem? (i := 232) (by decide +kernel)) rfl, rfl⟩
theorem fX8_116 : Lf RX8 116 5 3 3 := ⟨by decide, rfl, rfl, mt3 (List.mem_of_getElem? (i := 233) (by decide +kernel)) rfl, rfl⟩
theorem fX10_316 : Lf RX10 316 5 3 3 := ⟨by decide, rfl, rfl, mt3 (List.mem_of_getElem? (i := 234) (by decide +kernel)) rfl, rfl⟩
theorem fX5_22 : Lf RX5 22 5 4 4 := ⟨by decide, rfl, rfl, mt3 (List.mem_of_getElem? (i := 235) (by decide +kernel)) rfl, rfl⟩
theorem fX4_42 : Lf RX4 42 5 4 4 := ⟨by decide, rfl, rfl, mt3 (List.mem_of_getElem? (i := 236) (by decide +kernel)) rfl, rfl⟩
theorem fX8_119 : Lf RX8 119 5 4 4 := ⟨by decide, rfl, rfl, mt3 (List.mem_of_getElem? (i := 237) (by decide +kernel)) rfl, rfl⟩
theorem fX10_318 : Lf RX10 318 5 4 4 := ⟨by decide, rfl, rfl, mt3 (List.mem_of_getElem? (i := 238) (by decide +kernel)) rfl, rfl⟩
theorem fX5_25 : Lf RX5 25 5 5 5 := ⟨by decide, rfl, rfl, mt3 (List.mem_of_getElem? (i := 239) (by decide +kernel)) rfl, rfl⟩
theorem fX4_54 : Lf RX4 54 5 5 5 := ⟨by decide, rfl, rfl, mt4 (List.mem_of_getElem? (i := 0) (by decide +kernel)) rfl, rfl⟩
theorem fX8_122 : Lf RX8 122 5 5 5 := ⟨by decide, rfl, rfl, mt4 (List.mem_of_getElem? (i := 1) (by decide +kernel)) rfl, rfl⟩
theorem fX10_321 : Lf RX10 321 5 5 5 := ⟨by decide, rfl, rfl, mt4 (List.mem_of_getElem? (i := 2) (by decide +kernel)) rfl, rfl⟩
theorem fX5_28 : Lf RX5 28 5 6 6 := ⟨by decide, rfl, rfl, mt4 (List.mem_of_getElem? (i := 3) (by decide +kernel)) rfl, rfl⟩
theorem fX8_150 : Lf RX8 150 5 6 6 := ⟨by decide, rfl, rfl, mt4 (List.mem_of_getElem? (i := 4) (by decide +kernel)) rfl, rfl⟩
theorem kX10_291 : Lk RX10 291 yX8_append cX8_append 3 none 1 := ⟨mt4 (List.mem_of_getElem? (i := 20) (by decide +kernel)) rfl, ini_X8, cd_yX8_append, by decide, by decide, by decide +kernel⟩
theorem kL_17 : Lk RL 17 yX10_move cX10_move 9 (some .int) 4 := ⟨mt4 (List.mem_of_getElem? (i := 27) (by decide +kernel)) rfl, ini_X10, cd_yX10_move, by decide, by decide, by decide +kernel⟩
theorem kX10_82 : Lk RX10 82 yX4_positionOf cX4_positionOf 3 (some .int) 1 := ⟨mt4 (List.mem_of_getElem? (i := 32) (by decide +kernel)) rfl, ini_X4, cd_yX4_positionOf, by decide, by decide, by decide +kernel⟩
theorem kL_21 : Lk RL 21 yX10_remove cX10_remove 6 (some .int) 3 := ⟨mt4 (List.mem_of_getElem? (i := 36) (by decide +kernel)) rfl, ini_X10, cd_yX10_remove, by decide, by decide, by decide +kernel⟩
theorem kL_24 : Lk RL 24 yX10_shown cX10_shown 3 (some .int) 2 := ⟨mt4 (List.mem_of_getElem? (i := 43) (by decide +kernel)) rfl, ini_X10, cd_yX10_shown, by decide, by decide, by decide +kernel⟩
theorem kL_28 : Lk RL 28 yX10_line cX10_line 4 (some .int) 3 := ⟨mt4 (List.mem_of_getElem? (i := 50) (by decide +kernel)) rfl, ini_X10, cd_yX10_line, by decide, by decide, by decide +kernel⟩
theorem kL_31 : Lk RL 31 yX10_position cX10_position 5 (some .int) 3 := ⟨mt4 (List.mem_of_getElem? (i := 58) (by decide +kernel)) rfl, ini_X10, cd_yX10_position, by decide, by decide, by decide +kernel⟩
theorem kX10_85 : Lk RX10 85 yX10_requireArgument cX10_requireArgument 3 none 3 := ⟨mt4 (List.mem_of_getElem? (i := 62) (by decide +kernel)) rfl, ini_X10, cd_yX10_requireArgument, by decide, by decide, by decide +kernel⟩
theorem kL_36 : Lk RL 36 yX10_place cX10_place 5 (some .int) 3 := ⟨mt4 (List.mem_of_getElem? (i := 84) (by decide +kernel)) rfl, ini_X10, cd_yX10_place, by decide, by decide, by decide +kernel⟩
theorem kL_39 : Lk RL 39 yX10_setNumber cX10_setNumber 6 (some .int) 4 := ⟨mt4 (List.mem_of_getElem? (i := 91) (by decide +kernel)) rfl, ini_X10, cd_yX10_setNumber, by decide, by decide, by decide +kernel⟩
theorem kX10_92 : Lk RX10 92 yX10_requireCell cX10_requireCell 3 none 3 := ⟨mt4 (List.mem_of_getElem? (i := 95) (by decide +kernel)) rfl, ini_X10, cd_yX10_requireCell, by decide, by decide, by decide +kernel⟩
theorem kX10_98 : Lk RX10 98 yX2_init cX2_init 4 none 3 := ⟨mt4 (List.mem_of_getElem? (i := 99) (by decide +kernel)) rfl, ini_X2, cd_yX2_init, by decide, by decide, by decide +kernel⟩
theorem kX10_101 : Lk RX10 101 yX10_writeContent cX10_writeContent 7 (some .int) 4 := ⟨mt4 (List.mem_of_getElem? (i := 100) (by decide +kernel)) rfl, ini_X10, cd_yX10_writeContent, by decide, by decide, by decide +kernel⟩
theorem kL_43 : Lk RL 43 yX10_clearCell cX10_clearCell 5 (some .int) 3 := ⟨mt4 (List.mem_of_getElem? (i := 107) (by decide +kernel)) rfl, ini_X10, cd_yX10_clearCell, by decide, by decide, by decide +kernel⟩
theorem kL_47 : Lk RL 47 yX10_setFormula cX10_setFormula 5 (some .int) 3 := ⟨mt4 (List.mem_of_getElem? (i := 114) (by decide +kernel)) rfl, ini_X10, cd_yX10_setFormula, by decide, by decide, by decide +kernel⟩
theorem kX10_105 : Lk RX10 105 yX6_read cX6_read 5 (some .int) 2 := ⟨mt4 (List.mem_of_getElem? (i := 118) (by decide +kernel)) rfl, ini_X6, cd_yX6_read, by decide, by decide, by decide +kernel⟩
theorem kX6_24 : Lk RX6 24 yX6_readFactor cX6_readFactor 6 (some .boolean) 3 := ⟨mt4 (List.mem_of_getElem? (i := 122) (by decide +kernel)) rfl, ini_X6, cd_yX6_readFactor, by decide, by decide, by decide +kernel⟩
theorem kX6_34 : Lk RX6 34 yX9_at cX9_at 2 (some .int) 1 := ⟨mt4 (List.mem_of_getElem? (i := 126) (by decide +kernel)) rfl, ini_X9, cd_yX9_at, by decide, by decide, by decide +kernel⟩
theorem kX6_47 : Lk RX6 47 yX6_isDigit cX6_isDigit 1 (some .boolean) 1 := ⟨mt4 (List.mem_of_getElem? (i := 127) (by decide +kernel)) rfl, ini_X6, cd_yX6_isDigit, by decide, by decide, by decide +kernel⟩
theorem kX6_51 : Lk RX6 51 yX6_readNumber cX6_readNumber 4 (some .int) 1 := ⟨mt4 (List.mem_of_getElem? (i := 130) (by decide +kernel)) rfl, ini_X6, cd_yX6_readNumber, by decide, by decide, by decide +kernel⟩
theorem kX6_55 : Lk RX6 55 yX6_addFactor cX6_addFactor 6 none 4 := ⟨mt4 (List.mem_of_getElem? (i := 134) (by decide +kernel)) rfl, ini_X6, cd_yX6_addFactor, by decide, by decide, by decide +kernel⟩
theorem kX6_59 : Lk RX6 59 yX6_readSum cX6_readSum 6 (some .boolean) 3 := ⟨mt4 (List.mem_of_getElem? (i := 138) (by decide +kernel)) rfl, ini_X6, cd_yX6_readSum, by decide, by decide, by decide +kernel⟩
theorem kX6_66 : Lk RX6 66 yX6_readSign cX6_readSign 3 (some .boolean) 2 := ⟨mt4 (List.mem_of_getElem? (i := 142) (by decide +kernel)) rfl, ini_X6, cd_yX6_readSign, by decide, by decide, by decide +kernel⟩
theorem kX6_62 : Lk RX6 62 yX6_readCell cX6_readCell 6 (some .int) 2 := ⟨mt4 (List.mem_of_getElem? (i := 146) (by decide +kernel)) rfl, ini_X6, cd_yX6_readCell, by decide, by decide, by decide +kernel⟩
theorem kX6_76 : Lk RX6 76 yX4_numberAt cX4_numberAt 2 (some .int) 1 := ⟨mt4 (List.mem_of_getElem? (i := 150) (by decide +kernel)) rfl, ini_X4, cd_yX4_numberAt, by decide, by decide, by decide +kernel⟩
theorem kX6_28 : Lk RX6 28 yX9_length cX9_length 1 (some .int) 0 := ⟨mt4 (List.mem_of_getElem? (i := 151) (by decide +kernel)) rfl, ini_X9, cd_yX9_length, by decide, by decide, by decide +kernel⟩
theorem kX10_114 : Lk RX10 114 yX6_formula cX6_formula 1 (some (.object "SharedSheet$Formula")) 0 := ⟨mt4 (List.mem_of_getElem? (i := 153) (by decide +kernel)) rfl, ini_X6, cd_yX6_formula, by decide, by decide, by decide +kernel⟩
theorem kX6_38 : Lk RX6 38 yJ7_copyOf_59c91 cJ7_copyOf_59c91 3 (some (.array .int)) 2 := ⟨mt4 (List.mem_of_getElem? (i := 158) (by decide +kernel)) rfl, ini_J7, cd_yJ7_copyOf_59c91, by decide, by decide, by decide +kernel⟩
theorem kJ7_304 : Lk RJ7 304 yJ9_min_7cf53 cJ9_min_7cf53 2 (some .int) 2 := ⟨mt4 (List.mem_of_getElem? (i := 168) (by decide +kernel)) rfl, ini_J9, cd_yJ9_min_7cf53, by decide, by decide, by decide +kernel⟩
theorem kX6_44 : Lk RX6 44 yX3_init cX3_init 2 none 1 := ⟨mt4 (List.mem_of_getElem? (i := 170) (by decide +kernel)) rfl, ini_X3, cd_yX3_init, by decide, by decide, by decide +kernel⟩
theorem fX3_9 : Lf RX3 9 3 0 0 := ⟨by decide, rfl, rfl, mt4 (List.mem_of_getElem? (i := 174) (by decide +kernel)) rfl, rfl⟩
theorem kL_50 : Lk RL 50 yX10_cell cX10_cell 7 (some .int) 4 := ⟨mt4 (List.mem_of_getElem? (i := 181) (by decide +kernel)) rfl, ini_X10, cd_yX10_cell, by decide, by decide, by decide +kernel⟩
theorem kX10_132 : Lk RX10 132 yX10_aboutReferences cX10_aboutReferences 3 (some .int) 3 := ⟨mt4 (List.mem_of_getElem? (i := 185) (by decide +kernel)) rfl, ini_X10, cd_yX10_aboutReferences, by decide, by decide, by decide +kernel⟩
theorem kX10_305 : Lk RX10 305 yX0_countReferences cX0_countReferences 2 (some .int) 1 := ⟨mt4 (List.mem_of_getElem? (i := 188) (by decide +kernel)) rfl, ini_X0, cd_yX0_countReferences, by decide, by decide, by decide +kernel⟩
theorem kX0_76 : Lk RX0 76 yX1_size cX1_size 4 (some .int) 1 := ⟨mt4 (List.mem_of_getElem? (i := 192) (by decide +kernel)) rfl, ini_X1, cd_yX1_size, by decide, by decide, by decide +kernel⟩
theorem kX1_36 : Lk RX1 36 yJ13_bitCount_95d88 cJ13_bitCount_95d88 2 (some .int) 1 := ⟨mt4 (List.mem_of_getElem? (i := 196) (by decide +kernel)) rfl, ini_J13, cd_yJ13_bitCount_95d88, by decide, by decide, by decide +kernel⟩
theorem kX10_308 : Lk RX10 308 yX0_countReferrers cX0_countReferrers 4 (some .int) 1 := ⟨mt4 (List.mem_of_getElem? (i := 202) (by decide +kernel)) rfl, ini_X0, cd_yX0_countReferrers, by decide, by decide, by decide +kernel⟩
theorem kX10_311 : Lk RX10 311 yX0_isOnCycle cX0_isOnCycle 2 (some .boolean) 1 := ⟨mt4 (List.mem_of_getElem? (i := 206) (by decide +kernel)) rfl, ini_X0, cd_yX0_isOnCycle, by decide, by decide, by decide +kernel⟩
theorem kL_53 : Lk RL 53 yX10_value cX10_value 5 (some .int) 3 := ⟨mt4 (List.mem_of_getElem? (i := 210) (by decide +kernel)) rfl, ini_X10, cd_yX10_value, by decide, by decide, by decide +kernel⟩
theorem kL_56 : Lk RL 56 yX10_error cX10_error 5 (some .int) 3 := ⟨mt4 (List.mem_of_getElem? (i := 217) (by decide +kernel)) rfl, ini_X10, cd_yX10_error, by decide, by decide, by decide +kernel⟩
theorem kL_59 : Lk RL 59 yX10_write cX10_write 6 (some .int) 3 := ⟨mt4 (List.mem_of_getElem? (i := 224) (by decide +kernel)) rfl, ini_X10, cd_yX10_write, by decide, by decide, by decide +kernel⟩
theorem kX10_154 : Lk RX10 154 yX3_appendTo cX3_appendTo 4 none 2 := ⟨mt4 (List.mem_of_getElem? (i := 229) (by decide +kernel)) rfl, ini_X3, cd_yX3_appendTo, by decide, by decide, by decide +kernel⟩
theorem kX3_19 : Lk RX3 19 yX3_factors cX3_factors 1 (some .int) 0 := ⟨mt4 (List.mem_of_getElem? (i := 233) (by decide +kernel)) rfl, ini_X3, cd_yX3_factors, by decide, by decide, by decide +kernel⟩
theorem kX3_23 : Lk RX3 23 yX3_signOf cX3_signOf 2 (some .int) 1 := ⟨mt4 (List.mem_of_getElem? (i := 234) (by decide +kernel)) rfl, ini_X3, cd_yX3_signOf, by decide, by decide, by decide +kernel⟩
theorem kX3_26 : Lk RX3 26 yX9_append cX9_append 2 none 1 := ⟨mt4 (List.mem_of_getElem? (i := 235) (by decide +kernel)) rfl, ini_X9, cd_yX9_append, by decide, by decide, by decide +kernel⟩
theorem kX9_19 : Lk RX9 19 yX9_isFull cX9_isFull 1 (some .boolean) 0 := ⟨mt4 (List.mem_of_getElem? (i := 239) (by decide +kernel)) rfl, ini_X9, cd_yX9_isFull, by decide, by decide, by decide +kernel⟩
theorem kX3_32 : Lk RX3 32 yX3_kindOf cX3_kindOf 2 (some .int) 1 := ⟨mt5 (List.mem_of_getElem? (i := 3) (by decide +kernel)) rfl, ini_X3, cd_yX3_kindOf, by decide, by decide, by decide +kernel⟩
theorem kX3_35 : Lk RX3 35 yX3_firstOf cX3_firstOf 2 (some .int) 1 := ⟨mt5 (List.mem_of_getElem? (i := 4) (by decide +kernel)) rfl, ini_X3, cd_yX3_firstOf, by decide, by decide, by decide +kernel⟩
theorem kX3_38 : Lk RX3 38 yX9_appendNumber cX9_appendNumber 3 none 1 := ⟨mt5 (List.mem_of_getElem? (i := 5) (by decide +kernel)) rfl, ini_X9, cd_yX9_appendNumber, by decide, by decide, by decide +kernel⟩
theorem kX9_23 : Lk RX9 23 yX9_append cX9_append 2 none 1 := ⟨mt5 (List.mem_of_getElem? (i := 9) (by decide +kernel)) rfl, ini_X9, cd_yX9_append, by decide, by decide, by decide +kernel⟩
theorem kX3_41 : Lk RX3 41 yX3_appendCell cX3_appendCell 4 none 3 := ⟨mt5 (List.mem_of_getElem? (i := 10) (by decide +kernel)) rfl, ini_X3, cd_yX3_appendCell, by decide, by decide, by decide +kernel⟩
theorem kX3_48 : Lk RX3 48 yX8_cellOf cX8_cellOf 4 (some .int) 1 := ⟨mt5 (List.mem_of_getElem? (i := 13) (by decide +kernel)) rfl, ini_X8, cd_yX8_cellOf, by decide, by decide, by decide +kernel⟩
theorem kX3_45 : Lk RX3 45 yX3_secondOf cX3_secondOf 2 (some .int) 1 := ⟨mt5 (List.mem_of_getElem? (i := 14) (by decide +kernel)) rfl, ini_X3, cd_yX3_secondOf, by decide, by decide, by decide +kernel⟩
theorem kL_62 : Lk RL 62 yX10_cycles cX10_cycles 3 (some .int) 1 := ⟨mt5 (List.mem_of_getElem? (i := 18) (by decide +kernel)) rfl, ini_X10, cd_yX10_cycles, by decide, by decide, by decide +kernel⟩
theorem kL_66 : Lk RL 66 yX10_order cX10_order 4 (some .int) 2 := ⟨mt5 (List.mem_of_getElem? (i := 25) (by decide +kernel)) rfl, ini_X10, cd_yX10_order, by decide, by decide, by decide +kernel⟩
theorem kL_70 : Lk RL 70 yX10_receive cX10_receive 6 (some .int) 3 := ⟨mt5 (List.mem_of_getElem? (i := 32) (by decide +kernel)) rfl, ini_X10, cd_yX10_receive, by decide, by decide, by decide +kernel⟩
theorem kX10_170 : Lk RX10 170 yX10_requireOther cX10_requireOther 2 none 2 := ⟨mt5 (List.mem_of_getElem? (i := 36) (by decide +kernel)) rfl, ini_X10, cd_yX10_requireOther, by decide, by decide, by decide +kernel⟩
theorem kL_73 : Lk RL 73 yX10_missing cX10_missing 5 (some .int) 2 := ⟨mt5 (List.mem_of_getElem? (i := 43) (by decide +kernel)) rfl, ini_X10, cd_yX10_missing, by decide, by decide, by decide +kernel⟩
theorem kL_76 : Lk RL 76 yX10_clock cX10_clock 2 (some .int) 1 := ⟨mt5 (List.mem_of_getElem? (i := 50) (by decide +kernel)) rfl, ini_X10, cd_yX10_clock, by decide, by decide, by decide +kernel⟩
theorem kL_79 : Lk RL 79 yX10_operation cX10_operation 6 (some .int) 3 := ⟨mt5 (List.mem_of_getElem? (i := 57) (by decide +kernel)) rfl, ini_X10, cd_yX10_operation, by decide, by decide, by decide +kernel⟩
theorem kX10_193 : Lk RX10 193 yX8_logged cX8_logged 2 (some (.object "SharedSheet$Operation")) 1 := ⟨mt5 (List.mem_of_getElem? (i := 61) (by decide +kernel)) rfl, ini_X8, cd_yX8_logged, by decide, by decide, by decide +kernel⟩
theorem kX10_197 : Lk RX10 197 yX10_aboutOperation cX10_aboutOperation 2 (some .int) 2 := ⟨mt5 (List.mem_of_getElem? (i := 62) (by decide +kernel)) rfl, ini_X10, cd_yX10_aboutOperation, by decide, by decide, by decide +kernel⟩
theorem kL_82 : Lk RL 82 yX10_areAlike cX10_areAlike 10 (some .boolean) 2 := ⟨mt5 (List.mem_of_getElem? (i := 68) (by decide +kernel)) rfl, ini_X10, cd_yX10_areAlike, by decide, by decide, by decide +kernel⟩
theorem kX10_205 : Lk RX10 205 yX4_isArrangedLike cX4_isArrangedLike 3 (some .boolean) 1 := ⟨mt5 (List.mem_of_getElem? (i := 72) (by decide +kernel)) rfl, ini_X4, cd_yX4_isArrangedLike, by decide, by decide, by decide +kernel⟩
theorem kX10_212 : Lk RX10 212 yX10_hasSameContent cX10_hasSameContent 5 (some .boolean) 3 := ⟨mt5 (List.mem_of_getElem? (i := 76) (by decide +kernel)) rfl, ini_X10, cd_yX10_hasSameContent, by decide, by decide, by decide +kernel⟩
theorem kX10_216 : Lk RX10 216 yX10_hasSameResult cX10_hasSameResult 3 (some .boolean) 3 := ⟨mt5 (List.mem_of_getElem? (i := 79) (by decide +kernel)) rfl, ini_X10, cd_yX10_hasSameResult, by decide, by decide, by decide +kernel⟩
theorem kL_86 : Lk RL 86 yX10_different cX10_different 7 (some .int) 2 := ⟨mt5 (List.mem_of_getElem? (i := 85) (by decide +kernel)) rfl, ini_X10, cd_yX10_different, by decide, by decide, by decide +kernel⟩
theorem kX10_220 : Lk RX10 220 yX8_writerOf cX8_writerOf 2 (some (.object "SharedSheet$Operation")) 1 := ⟨mt5 (List.mem_of_getElem? (i := 89) (by decide +kernel)) rfl, ini_X8, cd_yX8_writerOf, by decide, by decide, by decide +kernel⟩
theorem kX10_223 : Lk RX10 223 yX10_hasSameStamp cX10_hasSameStamp 2 (some .boolean) 2 := ⟨mt5 (List.mem_of_getElem? (i := 90) (by decide +kernel)) rfl, ini_X10, cd_yX10_hasSameStamp, by decide, by decide, by decide +kernel⟩
theorem kL_89 : Lk RL 89 yX10_type cX10_type 2 (some .int) 1 := ⟨mt5 (List.mem_of_getElem? (i := 96) (by decide +kernel)) rfl, ini_X10, cd_yX10_type, by decide, by decide, by decide +kernel⟩
theorem kX10_227 : Lk RX10 227 yX9_isFull cX9_isFull 1 (some .boolean) 0 := ⟨mt5 (List.mem_of_getElem? (i := 100) (by decide +kernel)) rfl, ini_X9, cd_yX9_isFull, by decide, by decide, by decide +kernel⟩
theorem kX10_233 : Lk RX10 233 yX9_append cX9_append 2 none 1 := ⟨mt5 (List.mem_of_getElem? (i := 102) (by decide +kernel)) rfl, ini_X9, cd_yX9_append, by decide, by decide, by decide +kernel⟩
theorem kL_92 : Lk RL 92 yX10_fault cX10_fault 2 (some .int) 1 := ⟨mt5 (List.mem_of_getElem? (i := 106) (by decide +kernel)) rfl, ini_X10, cd_yX10_fault, by decide, by decide, by decide +kernel⟩
theorem kL_95 : Lk RL 95 yX10_undo cX10_undo 1 (some .int) 0 := ⟨mt5 (List.mem_of_getElem? (i := 113) (by decide +kernel)) rfl, ini_X10, cd_yX10_undo, by decide, by decide, by decide +kernel⟩
theorem kX10_242 : Lk RX10 242 yX7_restoreLatest cX7_restoreLatest 6 none 1 := ⟨mt5 (List.mem_of_getElem? (i := 118) (by decide +kernel)) rfl, ini_X7, cd_yX7_restoreLatest, by decide, by decide, by decide +kernel⟩
theorem kX7_28 : Lk RX7 28 yX8_reset cX8_reset 2 none 0 := ⟨mt5 (List.mem_of_getElem? (i := 122) (by decide +kernel)) rfl, ini_X8, cd_yX8_reset, by decide, by decide, by decide +kernel⟩
theorem kX8_91 : Lk RX8 91 yJ7_fill_53178 cJ7_fill_53178 4 none 2 := ⟨mt5 (List.mem_of_getElem? (i := 126) (by decide +kernel)) rfl, ini_J7, cd_yJ7_fill_53178, by decide, by decide, by decide +kernel⟩
theorem kX8_97 : Lk RX8 97 yX4_reset cX4_reset 3 none 0 := ⟨mt5 (List.mem_of_getElem? (i := 129) (by decide +kernel)) rfl, ini_X4, cd_yX4_reset, by decide, by decide, by decide +kernel⟩
theorem kX7_31 : Lk RX7 31 yX8_logged cX8_logged 2 (some (.object "SharedSheet$Operation")) 1 := ⟨mt5 (List.mem_of_getElem? (i := 130) (by decide +kernel)) rfl, ini_X8, cd_yX8_logged, by decide, by decide, by decide +kernel⟩
theorem kX7_35 : Lk RX7 35 yX8_carryOut cX8_carryOut 2 none 1 := ⟨mt5 (List.mem_of_getElem? (i := 131) (by decide +kernel)) rfl, ini_X8, cd_yX8_carryOut, by decide, by decide, by decide +kernel⟩
theorem kL_102 : Lk RL 102 yX11_init cX11_init 5 none 0 := ⟨mt5 (List.mem_of_getElem? (i := 134) (by decide +kernel)) rfl, ini_X11, cd_yX11_init, by decide, by decide, by decide +kernel⟩
theorem kX11_72 : Lk RX11 72 yX11_lineAt cX11_lineAt 2 (some .int) 2 := ⟨mt5 (List.mem_of_getElem? (i := 138) (by decide +kernel)) rfl, ini_X11, cd_yX11_lineAt, by decide, by decide, by decide +kernel⟩
theorem fX11_7 : Lf RX11 7 11 0 0 := ⟨by decide, rfl, rfl, mt5 (List.mem_of_getElem? (i := 141) (by decide +kernel)) rfl, rfl⟩
theorem fX11_13 : Lf RX11 13 11 1 1 := ⟨by decide, rfl, rfl, mt5 (List.mem_of_getElem? (i := 142) (by decide +kernel)) rfl, rfl⟩
theorem fX11_16 : Lf RX11 16 11 2 2 := ⟨by decide, rfl, rfl, mt5 (List.mem_of_getElem? (i := 143) (by decide +kernel)) rfl, rfl⟩
theorem fX11_80 : Lf RX11 80 11 3 3 := ⟨by decide, rfl, rfl, mt5 (List.mem_of_getElem? (i := 144) (by decide +kernel)) rfl, rfl⟩
theorem fX11_19 : Lf RX11 19 11 4 4 := ⟨by decide, rfl, rfl, mt5 (List.mem_of_getElem? (i := 145) (by decide +kernel)) rfl, rfl⟩
theorem fX11_176 : Lf RX11 176 11 5 5 := ⟨by decide, rfl, rfl, mt5 (List.mem_of_getElem? (i := 146) (by decide +kernel)) rfl, rfl⟩
theorem fX11_76 : Lf RX11 76 11 6 6 := ⟨by decide, rfl, rfl, mt5 (List.mem_of_getElem? (i := 147) (by decide +kernel)) rfl, rfl⟩
theorem fX11_22 : Lf RX11 22 11 7 7 := ⟨by decide, rfl, rfl, mt5 (List.mem_of_getElem? (i := 148) (by decide +kernel)) rfl, rfl⟩
theorem fX11_25 : Lf RX11 25 11 8 8 := ⟨by decide, rfl, rfl, mt5 (List.mem_of_getElem? (i := 149) (by decide +kernel)) rfl, rfl⟩
theorem fX11_99 : Lf RX11 99 11 9 9 := ⟨by decide, rfl, rfl, mt5 (List.mem_of_getElem? (i := 150) (by decide +kernel)) rfl, rfl⟩
theorem fX11_102 : Lf RX11 102 11 10 10 := ⟨by decide, rfl, rfl, mt5 (List.mem_of_getElem? (i := 151) (by decide +kernel)) rfl, rfl⟩
theorem fX11_28 : Lf RX11 28 11 11 11 := ⟨by decide, rfl, rfl, mt5 (List.mem_of_getElem? (i := 152) (by decide +kernel)) rfl, rfl⟩
theorem fX11_31 : Lf RX11 31 11 12 12 := ⟨by decide, rfl, rfl, mt5 (List.mem_of_getElem? (i := 153) (by decide +kernel)) rfl, rfl⟩
theorem fX11_170 : Lf RX11 170 11 13 13 := ⟨by decide, rfl, rfl, mt5 (List.mem_of_getElem? (i := 154) (by decide +kernel)) rfl, rfl⟩
theorem fX11_173 : Lf RX11 173 11 14 14 := ⟨by decide, rfl, rfl, mt5 (List.mem_of_getElem? (i := 155) (by decide +kernel)) rfl, rfl⟩
theorem fX11_34 : Lf RX11 34 11 15 15 := ⟨by decide, rfl, rfl, mt5 (List.mem_of_getElem? (i := 156) (by decide +kernel)) rfl, rfl⟩
theorem fX11_211 : Lf RX11 211 11 16 16 := ⟨by decide, rfl, rfl, mt5 (List.mem_of_getElem? (i := 157) (by decide +kernel)) rfl, rfl⟩
theorem fX11_37 : Lf RX11 37 11 17 17 := ⟨by decide, rfl, rfl, mt5 (List.mem_of_getElem? (i := 158) (by decide +kernel)) rfl, rfl⟩
theorem fX11_40 : Lf RX11 40 11 18 18 := ⟨by decide, rfl, rfl, mt5 (List.mem_of_getElem? (i := 159) (by decide +kernel)) rfl, rfl⟩
theorem fX11_44 : Lf RX11 44 11 19 19 := ⟨by decide, rfl, rfl, mt5 (List.mem_of_getElem? (i := 160) (by decide +kernel)) rfl, rfl⟩
theorem fX11_47 : Lf RX11 47 11 20 20 := ⟨by decide, rfl, rfl, mt5 (List.mem_of_getElem? (i := 161) (by decide +kernel)) rfl, rfl⟩
theorem fX11_51 : Lf RX11 51 11 21 21 := ⟨by decide, rfl, rfl, mt5 (List.mem_of_getElem? (i := 162) (by decide +kernel)) rfl, rfl⟩
theorem fX11_54 : Lf RX11 54 11 22 22 := ⟨by decide, rfl, rfl, mt5 (List.mem_of_getElem? (i := 163) (by decide +kernel)) rfl, rfl⟩
theorem fX11_57 : Lf RX11 57 11 23 23 := ⟨by decide, rfl, rfl, mt5 (List.mem_of_getElem? (i := 164) (by decide +kernel)) rfl, rfl⟩
theorem fX11_60 : Lf RX11 60 11 24 24 := ⟨by decide, rfl, rfl, mt5 (List.mem_of_getElem? (i := 165) (by decide +kernel)) rfl, rfl⟩
theorem fX11_237 : Lf RX11 237 11 25 25 := ⟨by decide, rfl, rfl, mt5 (List.mem_of_getElem? (i := 166) (by decide +kernel)) rfl, rfl⟩
theorem fX11_240 : Lf RX11 240 11 26 26 := ⟨by decide, rfl, rfl, mt5 (List.mem_of_getElem? (i := 167) (by decide +kernel)) rfl, rfl⟩
theorem fX11_63 : Lf RX11 63 11 27 27 := ⟨by decide, rfl, rfl, mt5 (List.mem_of_getElem? (i := 168) (by decide +kernel)) rfl, rfl⟩
theorem fX11_66 : Lf RX11 66 11 28 28 := ⟨by decide, rfl, rfl, mt5 (List.mem_of_getElem? (i := 169) (by decide +kernel)) rfl, rfl⟩
theorem fX11_69 : Lf RX11 69 11 29 29 := ⟨by decide, rfl, rfl, mt5 (List.mem_of_getElem? (i := 170) (by decide +kernel)) rfl, rfl⟩
theorem fX11_295 : Lf RX11 295 11 30 30 := ⟨by decide, rfl, rfl, mt5 (List.mem_of_getElem? (i := 171) (by decide +kernel)) rfl, rfl⟩
theorem kL_109 : Lk RL 109 yX11_thrown cX11_thrown 1 (some .int) 0 := ⟨mt5 (List.mem_of_getElem? (i := 235) (by decide +kernel)) rfl, ini_X11, cd_yX11_thrown, by decide, by decide, by decide +kernel⟩
theorem kL_108 : Lk RL 108 yX11_make cX11_make 9 (some .int) 3 := ⟨mt5 (List.mem_of_getElem? (i := 239) (by decide +kernel)) rfl, ini_X11, cd_yX11_make, by decide, by decide, by decide +kernel⟩
theorem kX11_123 : Lk RX11 123 yX11_kindOf cX11_kindOf 1 (some .int) 1 := ⟨mt6 (List.mem_of_getElem? (i := 3) (by decide +kernel)) rfl, ini_X11, cd_yX11_kindOf, by decide, by decide, by decide +kernel⟩
theorem kX11_127 : Lk RX11 127 yX11_isReplica cX11_isReplica 1 (some .boolean) 1 := ⟨mt6 (List.mem_of_getElem? (i := 6) (by decide +kernel)) rfl, ini_X11, cd_yX11_isReplica, by decide, by decide, by decide +kernel⟩
theorem kX11_87 : Lk RX11 87 yX11_in cX11_in 3 (some .boolean) 3 := ⟨mt6 (List.mem_of_getElem? (i := 9) (by decide +kernel)) rfl, ini_X11, cd_yX11_in, by decide, by decide, by decide +kernel⟩
theorem kX11_131 : Lk RX11 131 yX11_fails cX11_fails 2 (some .int) 1 := ⟨mt6 (List.mem_of_getElem? (i := 12) (by decide +kernel)) rfl, ini_X11, cd_yX11_fails, by decide, by decide, by decide +kernel⟩
theorem kX11_95 : Lk RX11 95 yX11_lays cX11_lays 9 (some .int) 4 := ⟨mt6 (List.mem_of_getElem? (i := 16) (by decide +kernel)) rfl, ini_X11, cd_yX11_lays, by decide, by decide, by decide +kernel⟩
theorem kX11_91 : Lk RX11 91 yX11_isShown cX11_isShown 3 (some .boolean) 2 := ⟨mt6 (List.mem_of_getElem? (i := 20) (by decide +kernel)) rfl, ini_X11, cd_yX11_isShown, by decide, by decide, by decide +kernel⟩
theorem kX11_134 : Lk RX11 134 yX11_between cX11_between 8 (some .int) 4 := ⟨mt6 (List.mem_of_getElem? (i := 24) (by decide +kernel)) rfl, ini_X11, cd_yX11_between, by decide, by decide, by decide +kernel⟩
theorem kX11_108 : Lk RX11 108 yX11_of cX11_of 3 (some .int) 2 := ⟨mt6 (List.mem_of_getElem? (i := 28) (by decide +kernel)) rfl, ini_X11, cd_yX11_of, by decide, by decide, by decide +kernel⟩
theorem kX11_138 : Lk RX11 138 yX11_isFull cX11_isFull 2 (some .boolean) 1 := ⟨mt6 (List.mem_of_getElem? (i := 32) (by decide +kernel)) rfl, ini_X11, cd_yX11_isFull, by decide, by decide, by decide +kernel⟩
theorem kX11_141 : Lk RX11 141 yX11_hold cX11_hold 2 none 0 := ⟨mt6 (List.mem_of_getElem? (i := 36) (by decide +kernel)) rfl, ini_X11, cd_yX11_hold, by decide, by decide, by decide +kernel⟩
theorem kX11_115 : Lk RX11 115 yX11_puts cX11_puts 4 none 3 := ⟨mt6 (List.mem_of_getElem? (i := 40) (by decide +kernel)) rfl, ini_X11, cd_yX11_puts, by decide, by decide, by decide +kernel⟩
theorem kX11_144 : Lk RX11 144 yX11_makes cX11_makes 8 none 5 := ⟨mt6 (List.mem_of_getElem? (i := 44) (by decide +kernel)) rfl, ini_X11, cd_yX11_makes, by decide, by decide, by decide +kernel⟩
theorem kX11_119 : Lk RX11 119 yX11_carries cX11_carries 7 none 2 := ⟨mt6 (List.mem_of_getElem? (i := 48) (by decide +kernel)) rfl, ini_X11, cd_yX11_carries, by decide, by decide, by decide +kernel⟩
theorem kX11_105 : Lk RX11 105 yX11_op cX11_op 3 (some .int) 2 := ⟨mt6 (List.mem_of_getElem? (i := 52) (by decide +kernel)) rfl, ini_X11, cd_yX11_op, by decide, by decide, by decide +kernel⟩
theorem kX11_111 : Lk RX11 111 yX11_isLater cX11_isLater 4 (some .boolean) 4 := ⟨mt6 (List.mem_of_getElem? (i := 56) (by decide +kernel)) rfl, ini_X11, cd_yX11_isLater, by decide, by decide, by decide +kernel⟩
theorem kX11_148 : Lk RX11 148 yX11_ends cX11_ends 3 (some .int) 1 := ⟨mt6 (List.mem_of_getElem? (i := 59) (by decide +kernel)) rfl, ini_X11, cd_yX11_ends, by decide, by decide, by decide +kernel⟩
theorem kX11_83 : Lk RX11 83 yX11_tells cX11_tells 2 (some .int) 1 := ⟨mt6 (List.mem_of_getElem? (i := 63) (by decide +kernel)) rfl, ini_X11, cd_yX11_tells, by decide, by decide, by decide +kernel⟩
theorem kL_115 : Lk RL 115 yX11_move cX11_move 10 (some .int) 4 := ⟨mt6 (List.mem_of_getElem? (i := 67) (by decide +kernel)) rfl, ini_X11, cd_yX11_move, by decide, by decide, by decide +kernel⟩
theorem kX11_151 : Lk RX11 151 yX11_positionOf cX11_positionOf 6 (some .int) 3 := ⟨mt6 (List.mem_of_getElem? (i := 71) (by decide +kernel)) rfl, ini_X11, cd_yX11_positionOf, by decide, by decide, by decide +kernel⟩
theorem kL_118 : Lk RL 118 yX11_remove cX11_remove 6 (some .int) 3 := ⟨mt6 (List.mem_of_getElem? (i := 75) (by decide +kernel)) rfl, ini_X11, cd_yX11_remove, by decide, by decide, by decide +kernel⟩
theorem kL_122 : Lk RL 122 yX11_shown cX11_shown 3 (some .int) 2 := ⟨mt6 (List.mem_of_getElem? (i := 79) (by decide +kernel)) rfl, ini_X11, cd_yX11_shown, by decide, by decide, by decide +kernel⟩
theorem kL_125 : Lk RL 125 yX11_line cX11_line 5 (some .int) 3 := ⟨mt6 (List.mem_of_getElem? (i := 83) (by decide +kernel)) rfl, ini_X11, cd_yX11_line, by decide, by decide, by decide +kernel⟩
theorem kL_128 : Lk RL 128 yX11_position cX11_position 4 (some .int) 3 := ⟨mt6 (List.mem_of_getElem? (i := 87) (by decide +kernel)) rfl, ini_X11, cd_yX11_position, by decide, by decide, by decide +kernel⟩
theorem kL_131 : Lk RL 131 yX11_place cX11_place 4 (some .int) 3 := ⟨mt6 (List.mem_of_getElem? (i := 91) (by decide +kernel)) rfl, ini_X11, cd_yX11_place, by decide, by decide, by decide +kernel⟩
theorem kL_135 : Lk RL 135 yX11_setNumber cX11_setNumber 5 (some .int) 4 := ⟨mt6 (List.mem_of_getElem? (i := 95) (by decide +kernel)) rfl, ini_X11, cd_yX11_setNumber, by decide, by decide, by decide +kernel⟩
theorem kX11_159 : Lk RX11 159 yX11_isCell cX11_isCell 4 (some .boolean) 3 := ⟨mt6 (List.mem_of_getElem? (i := 99) (by decide +kernel)) rfl, ini_X11, cd_yX11_isCell, by decide, by decide, by decide +kernel⟩
theorem kX11_155 : Lk RX11 155 yX11_looks cX11_looks 2 none 1 := ⟨mt6 (List.mem_of_getElem? (i := 103) (by decide +kernel)) rfl, ini_X11, cd_yX11_looks, by decide, by decide, by decide +kernel⟩
theorem kX11_162 : Lk RX11 162 yX11_writes cX11_writes 9 (some .int) 6 := ⟨mt6 (List.mem_of_getElem? (i := 107) (by decide +kernel)) rfl, ini_X11, cd_yX11_writes, by decide, by decide, by decide +kernel⟩
theorem kL_139 : Lk RL 139 yX11_clearCell cX11_clearCell 4 (some .int) 3 := ⟨mt6 (List.mem_of_getElem? (i := 111) (by decide +kernel)) rfl, ini_X11, cd_yX11_clearCell, by decide, by decide, by decide +kernel⟩
theorem kL_142 : Lk RL 142 yX11_setFormula cX11_setFormula 4 (some .int) 3 := ⟨mt6 (List.mem_of_getElem? (i := 115) (by decide +kernel)) rfl, ini_X11, cd_yX11_setFormula, by decide, by decide, by decide +kernel⟩
theorem kX11_166 : Lk RX11 166 yX11_faultAt cX11_faultAt 3 (some .int) 0 := ⟨mt6 (List.mem_of_getElem? (i := 119) (by decide +kernel)) rfl, ini_X11, cd_yX11_faultAt, by decide, by decide, by decide +kernel⟩
theorem kX11_192 : Lk RX11 192 yX11_isFactor cX11_isFactor 3 (some .boolean) 0 := ⟨mt6 (List.mem_of_getElem? (i := 123) (by decide +kernel)) rfl, ini_X11, cd_yX11_isFactor, by decide, by decide, by decide +kernel⟩
theorem kX11_179 : Lk RX11 179 yX11_isAt cX11_isAt 3 (some .boolean) 2 := ⟨mt6 (List.mem_of_getElem? (i := 127) (by decide +kernel)) rfl, ini_X11, cd_yX11_isAt, by decide, by decide, by decide +kernel⟩
theorem kX11_182 : Lk RX11 182 yX11_adds cX11_adds 2 none 1 := ⟨mt6 (List.mem_of_getElem? (i := 131) (by decide +kernel)) rfl, ini_X11, cd_yX11_adds, by decide, by decide, by decide +kernel⟩
theorem kX11_185 : Lk RX11 185 yX11_takes cX11_takes 3 (some .boolean) 1 := ⟨mt6 (List.mem_of_getElem? (i := 135) (by decide +kernel)) rfl, ini_X11, cd_yX11_takes, by decide, by decide, by decide +kernel⟩
theorem kX11_188 : Lk RX11 188 yX11_isNamed cX11_isNamed 2 (some .boolean) 0 := ⟨mt6 (List.mem_of_getElem? (i := 139) (by decide +kernel)) rfl, ini_X11, cd_yX11_isNamed, by decide, by decide, by decide +kernel⟩
theorem kL_194 : Lk RL 194 yX11_fault cX11_fault 2 (some .int) 1 := ⟨mt6 (List.mem_of_getElem? (i := 143) (by decide +kernel)) rfl, ini_X11, cd_yX11_fault, by decide, by decide, by decide +kernel⟩
theorem kL_145 : Lk RL 145 yX11_cell cX11_cell 5 (some .int) 4 := ⟨mt6 (List.mem_of_getElem? (i := 147) (by decide +kernel)) rfl, ini_X11, cd_yX11_cell, by decide, by decide, by decide +kernel⟩
theorem kX11_223 : Lk RX11 223 yX11_gathers cX11_gathers 6 none 1 := ⟨mt6 (List.mem_of_getElem? (i := 151) (by decide +kernel)) rfl, ini_X11, cd_yX11_gathers, by decide, by decide, by decide +kernel⟩
theorem kX11_214 : Lk RX11 214 yX11_opAt cX11_opAt 3 (some .int) 2 := ⟨mt6 (List.mem_of_getElem? (i := 155) (by decide +kernel)) rfl, ini_X11, cd_yX11_opAt, by decide, by decide, by decide +kernel⟩
theorem kX11_217 : Lk RX11 217 yX11_refersTo cX11_refersTo 8 none 2 := ⟨mt6 (List.mem_of_getElem? (i := 159) (by decide +kernel)) rfl, ini_X11, cd_yX11_refersTo, by decide, by decide, by decide +kernel⟩
theorem kX11_199 : Lk RX11 199 yX11_seen cX11_seen 4 (some .int) 1 := ⟨mt6 (List.mem_of_getElem? (i := 163) (by decide +kernel)) rfl, ini_X11, cd_yX11_seen, by decide, by decide, by decide +kernel⟩
theorem kX11_195 : Lk RX11 195 yX11_find cX11_find 4 (some .int) 3 := ⟨mt6 (List.mem_of_getElem? (i := 167) (by decide +kernel)) rfl, ini_X11, cd_yX11_find, by decide, by decide, by decide +kernel⟩
theorem kX11_202 : Lk RX11 202 yX11_spans cX11_spans 6 none 3 := ⟨mt6 (List.mem_of_getElem? (i := 170) (by decide +kernel)) rfl, ini_X11, cd_yX11_spans, by decide, by decide, by decide +kernel⟩
theorem kX11_205 : Lk RX11 205 yX11_least cX11_least 2 (some .int) 2 := ⟨mt6 (List.mem_of_getElem? (i := 174) (by decide +kernel)) rfl, ini_X11, cd_yX11_least, by decide, by decide, by decide +kernel⟩
theorem kX11_208 : Lk RX11 208 yX11_greatest cX11_greatest 2 (some .int) 2 := ⟨mt6 (List.mem_of_getElem? (i := 177) (by decide +kernel)) rfl, ini_X11, cd_yX11_greatest, by decide, by decide, by decide +kernel⟩
theorem kX11_220 : Lk RX11 220 yX11_comesBack cX11_comesBack 5 (some .boolean) 1 := ⟨mt6 (List.mem_of_getElem? (i := 180) (by decide +kernel)) rfl, ini_X11, cd_yX11_comesBack, by decide, by decide, by decide +kernel⟩
theorem kX11_263 : Lk RX11 263 yX11_told cX11_told 6 (some .int) 3 := ⟨mt6 (List.mem_of_getElem? (i := 184) (by decide +kernel)) rfl, ini_X11, cd_yX11_told, by decide, by decide, by decide +kernel⟩
theorem kX11_257 : Lk RX11 257 yX11_referred cX11_referred 5 (some .int) 1 := ⟨mt6 (List.mem_of_getElem? (i := 188) (by decide +kernel)) rfl, ini_X11, cd_yX11_referred, by decide, by decide, by decide +kernel⟩
theorem kX11_260 : Lk RX11 260 yX11_referring cX11_referring 4 (some .int) 1 := ⟨mt6 (List.mem_of_getElem? (i := 192) (by decide +kernel)) rfl, ini_X11, cd_yX11_referring, by decide, by decide, by decide +kernel⟩
theorem kL_148 : Lk RL 148 yX11_value cX11_value 4 (some .int) 3 := ⟨mt6 (List.mem_of_getElem? (i := 196) (by decide +kernel)) rfl, ini_X11, cd_yX11_value, by decide, by decide, by decide +kernel⟩
theorem kX11_266 : Lk RX11 266 yX11_works cX11_works 4 none 1 := ⟨mt6 (List.mem_of_getElem? (i := 200) (by decide +kernel)) rfl, ini_X11, cd_yX11_works, by decide, by decide, by decide +kernel⟩
theorem kX11_226 : Lk RX11 226 yX11_isReady cX11_isReady 5 (some .boolean) 2 := ⟨mt6 (List.mem_of_getElem? (i := 204) (by decide +kernel)) rfl, ini_X11, cd_yX11_isReady, by decide, by decide, by decide +kernel⟩
theorem kX11_230 : Lk RX11 230 yX11_calculates cX11_calculates 12 none 2 := ⟨mt6 (List.mem_of_getElem? (i := 208) (by decide +kernel)) rfl, ini_X11, cd_yX11_calculates, by decide, by decide, by decide +kernel⟩
theorem kX11_254 : Lk RX11 254 yX11_reckons cX11_reckons 6 (some .int) 2 := ⟨mt6 (List.mem_of_getElem? (i := 212) (by decide +kernel)) rfl, ini_X11, cd_yX11_reckons, by decide, by decide, by decide +kernel⟩
theorem kX11_251 : Lk RX11 251 yX11_sums cX11_sums 7 none 2 := ⟨mt6 (List.mem_of_getElem? (i := 216) (by decide +kernel)) rfl, ini_X11, cd_yX11_sums, by decide, by decide, by decide +kernel⟩
theorem kX11_244 : Lk RX11 244 yX11_meets cX11_meets 2 none 1 := ⟨mt6 (List.mem_of_getElem? (i := 220) (by decide +kernel)) rfl, ini_X11, cd_yX11_meets, by decide, by decide, by decide +kernel⟩
theorem kX11_247 : Lk RX11 247 yX11_isFar cX11_isFar 2 (some .boolean) 1 := ⟨mt6 (List.mem_of_getElem? (i := 224) (by decide +kernel)) rfl, ini_X11, cd_yX11_isFar, by decide, by decide, by decide +kernel⟩
theorem kL_151 : Lk RL 151 yX11_error cX11_error 4 (some .int) 3 := ⟨mt6 (List.mem_of_getElem? (i := 229) (by decide +kernel)) rfl, ini_X11, cd_yX11_error, by decide, by decide, by decide +kernel⟩
theorem kL_154 : Lk RL 154 yX11_write cX11_write 8 (some .int) 3 := ⟨mt6 (List.mem_of_getElem? (i := 233) (by decide +kernel)) rfl, ini_X11, cd_yX11_write, by decide, by decide, by decide +kernel⟩
theorem kX11_269 : Lk RX11 269 yX11_shows cX11_shows 2 none 1 := ⟨mt6 (List.mem_of_getElem? (i := 237) (by decide +kernel)) rfl, ini_X11, cd_yX11_shows, by decide, by decide, by decide +kernel⟩
theorem kX11_272 : Lk RX11 272 yX11_showsNamed cX11_showsNamed 3 none 1 := ⟨mt7 (List.mem_of_getElem? (i := 1) (by decide +kernel)) rfl, ini_X11, cd_yX11_showsNamed, by decide, by decide, by decide +kernel⟩
theorem kX11_275 : Lk RX11 275 yX11_showsNumber cX11_showsNumber 4 none 1 := ⟨mt7 (List.mem_of_getElem? (i := 5) (by decide +kernel)) rfl, ini_X11, cd_yX11_showsNumber, by decide, by decide, by decide +kernel⟩
theorem kL_158 : Lk RL 158 yX11_cycles cX11_cycles 2 (some .int) 1 := ⟨mt7 (List.mem_of_getElem? (i := 9) (by decide +kernel)) rfl, ini_X11, cd_yX11_cycles, by decide, by decide, by decide +kernel⟩
theorem kX11_278 : Lk RX11 278 yX11_cycleMany cX11_cycleMany 3 (some .int) 0 := ⟨mt7 (List.mem_of_getElem? (i := 13) (by decide +kernel)) rfl, ini_X11, cd_yX11_cycleMany, by decide, by decide, by decide +kernel⟩
theorem kL_162 : Lk RL 162 yX11_order cX11_order 4 (some .int) 2 := ⟨mt7 (List.mem_of_getElem? (i := 17) (by decide +kernel)) rfl, ini_X11, cd_yX11_order, by decide, by decide, by decide +kernel⟩
theorem kX11_281 : Lk RX11 281 yX11_orders cX11_orders 4 (some .int) 0 := ⟨mt7 (List.mem_of_getElem? (i := 21) (by decide +kernel)) rfl, ini_X11, cd_yX11_orders, by decide, by decide, by decide +kernel⟩
theorem kL_165 : Lk RL 165 yX11_receive cX11_receive 4 (some .int) 3 := ⟨mt7 (List.mem_of_getElem? (i := 25) (by decide +kernel)) rfl, ini_X11, cd_yX11_receive, by decide, by decide, by decide +kernel⟩
theorem kX11_287 : Lk RX11 287 yX11_gets cX11_gets 7 (some .int) 3 := ⟨mt7 (List.mem_of_getElem? (i := 29) (by decide +kernel)) rfl, ini_X11, cd_yX11_gets, by decide, by decide, by decide +kernel⟩
theorem kX11_284 : Lk RX11 284 yX11_missed cX11_missed 3 (some .int) 2 := ⟨mt7 (List.mem_of_getElem? (i := 33) (by decide +kernel)) rfl, ini_X11, cd_yX11_missed, by decide, by decide, by decide +kernel⟩
theorem kL_169 : Lk RL 169 yX11_settle cX11_settle 4 (some .int) 0 := ⟨mt7 (List.mem_of_getElem? (i := 37) (by decide +kernel)) rfl, ini_X11, cd_yX11_settle, by decide, by decide, by decide +kernel⟩
theorem kL_172 : Lk RL 172 yX11_missing cX11_missing 3 (some .int) 2 := ⟨mt7 (List.mem_of_getElem? (i := 41) (by decide +kernel)) rfl, ini_X11, cd_yX11_missing, by decide, by decide, by decide +kernel⟩
theorem kL_175 : Lk RL 175 yX11_clock cX11_clock 2 (some .int) 1 := ⟨mt7 (List.mem_of_getElem? (i := 45) (by decide +kernel)) rfl, ini_X11, cd_yX11_clock, by decide, by decide, by decide +kernel⟩
theorem kL_178 : Lk RL 178 yX11_operation cX11_operation 4 (some .int) 3 := ⟨mt7 (List.mem_of_getElem? (i := 49) (by decide +kernel)) rfl, ini_X11, cd_yX11_operation, by decide, by decide, by decide +kernel⟩
theorem kL_181 : Lk RL 181 yX11_areAlike cX11_areAlike 5 (some .boolean) 2 := ⟨mt7 (List.mem_of_getElem? (i := 53) (by decide +kernel)) rfl, ini_X11, cd_yX11_areAlike, by decide, by decide, by decide +kernel⟩
theorem kX11_290 : Lk RX11 290 yX11_pictures cX11_pictures 3 none 1 := ⟨mt7 (List.mem_of_getElem? (i := 57) (by decide +kernel)) rfl, ini_X11, cd_yX11_pictures, by decide, by decide, by decide +kernel⟩
theorem kL_184 : Lk RL 184 yX11_different cX11_different 5 (some .int) 2 := ⟨mt7 (List.mem_of_getElem? (i := 61) (by decide +kernel)) rfl, ini_X11, cd_yX11_different, by decide, by decide, by decide +kernel⟩
theorem kL_187 : Lk RL 187 yX11_type cX11_type 2 (some .int) 1 := ⟨mt7 (List.mem_of_getElem? (i := 65) (by decide +kernel)) rfl, ini_X11, cd_yX11_type, by decide, by decide, by decide +kernel⟩
theorem kL_191 : Lk RL 191 yX11_clearText cX11_clearText 2 (some .int) 0 := ⟨mt7 (List.mem_of_getElem? (i := 69) (by decide +kernel)) rfl, ini_X11, cd_yX11_clearText, by decide, by decide, by decide +kernel⟩
theorem kL_198 : Lk RL 198 yX11_character cX11_character 2 (some .int) 1 := ⟨mt7 (List.mem_of_getElem? (i := 73) (by decide +kernel)) rfl, ini_X11, cd_yX11_character, by decide, by decide, by decide +kernel⟩
theorem kL_202 : Lk RL 202 yX11_undo cX11_undo 2 (some .int) 0 := ⟨mt7 (List.mem_of_getElem? (i := 77) (by decide +kernel)) rfl, ini_X11, cd_yX11_undo, by decide, by decide, by decide +kernel⟩
theorem kL_207 : Lk RL 207 yX11_checksum cX11_checksum 2 (some .long) 0 := ⟨mt7 (List.mem_of_getElem? (i := 81) (by decide +kernel)) rfl, ini_X11, cd_yX11_checksum, by decide, by decide, by decide +kernel⟩
theorem kX11_307 : Lk RX11 307 yX11_mixReplica cX11_mixReplica 6 none 1 := ⟨mt7 (List.mem_of_getElem? (i := 86) (by decide +kernel)) rfl, ini_X11, cd_yX11_mixReplica, by decide, by decide, by decide +kernel⟩
theorem kX11_298 : Lk RX11 298 yX11_mix cX11_mix 3 none 1 := ⟨mt7 (List.mem_of_getElem? (i := 90) (by decide +kernel)) rfl, ini_X11, cd_yX11_mix, by decide, by decide, by decide +kernel⟩
theorem kX11_302 : Lk RX11 302 yX11_mixLines cX11_mixLines 5 none 2 := ⟨mt7 (List.mem_of_getElem? (i := 95) (by decide +kernel)) rfl, ini_X11, cd_yX11_mixLines, by decide, by decide, by decide +kernel⟩
