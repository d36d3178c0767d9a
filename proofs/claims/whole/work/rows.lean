section
-- ===== PART A: goes FIRST, ahead of the names: the tables' words, and 'selects' of the private methods out of them =====
/-- a private method of a class that the tables say can be made, by its rows of tables_1 -/
def lw_okq (q : MethodName × Nat) : Prop := (q.1.cls ≠ "java/lang/invoke/MethodHandle" ∧ q.1.cls ≠ "java/lang/invoke/VarHandle") ∧ Cond.instantiable q.1.cls q.2 ∈ tables_1 ∧ Cond.privateMethod q.1 ∈ tables_1 ∧ Cond.instanceMethod q.1 ∈ tables_1
theorem lw_p0 : lw_okq (⟨"SharedSheet$Lines", "arrange", "(I)V"⟩, 7) := ⟨⟨by decide +kernel, by decide +kernel⟩, List.mem_of_getElem? (i := 83) (by decide +kernel), List.mem_of_getElem? (i := 93) (by decide +kernel), List.mem_of_getElem? (i := 94) (by decide +kernel)⟩
theorem lw_p1 : lw_okq (⟨"SharedSheet$Lines", "isBefore", "(II)Z"⟩, 7) := ⟨⟨by decide +kernel, by decide +kernel⟩, List.mem_of_getElem? (i := 83) (by decide +kernel), List.mem_of_getElem? (i := 97) (by decide +kernel), List.mem_of_getElem? (i := 98) (by decide +kernel)⟩
theorem lw_p2 : lw_okq (⟨"SharedSheet$Records", "dropOldest", "()V"⟩, 2) := ⟨⟨by decide +kernel, by decide +kernel⟩, List.mem_of_getElem? (i := 34) (by decide +kernel), List.mem_of_getElem? (i := 261) (by decide +kernel), List.mem_of_getElem? (i := 262) (by decide +kernel)⟩
theorem lw_p3 : lw_okq (⟨"SharedSheet$Replica", "carryOutWrite", "(LSharedSheet$Operation;)V"⟩, 9) := ⟨⟨by decide +kernel, by decide +kernel⟩, List.mem_of_getElem? (i := 77) (by decide +kernel), List.mem_of_getElem? (i := 296) (by decide +kernel), List.mem_of_getElem? (i := 297) (by decide +kernel)⟩
theorem lw_p4 : lw_okq (⟨"SharedSheet$Calculation", "readCells", "(LSharedSheet$Replica;)V"⟩, 12) := ⟨⟨by decide +kernel, by decide +kernel⟩, List.mem_of_getElem? (i := 124) (by decide +kernel), List.mem_of_getElem? (i := 370) (by decide +kernel), List.mem_of_getElem? (i := 371) (by decide +kernel)⟩
theorem lw_p5 : lw_okq (⟨"SharedSheet$Calculation", "addFormula", "(ILSharedSheet$Formula;)V"⟩, 12) := ⟨⟨by decide +kernel, by decide +kernel⟩, List.mem_of_getElem? (i := 124) (by decide +kernel), List.mem_of_getElem? (i := 395) (by decide +kernel), List.mem_of_getElem? (i := 396) (by decide +kernel)⟩
theorem lw_p6 : lw_okq (⟨"SharedSheet$Calculation", "findReferences", "(LSharedSheet$Replica;)V"⟩, 12) := ⟨⟨by decide +kernel, by decide +kernel⟩, List.mem_of_getElem? (i := 124) (by decide +kernel), List.mem_of_getElem? (i := 399) (by decide +kernel), List.mem_of_getElem? (i := 400) (by decide +kernel)⟩
theorem lw_p7 : lw_okq (⟨"SharedSheet$Formula", "partAt", "(I)I"⟩, 1) := ⟨⟨by decide +kernel, by decide +kernel⟩, List.mem_of_getElem? (i := 428) (by decide +kernel), List.mem_of_getElem? (i := 426) (by decide +kernel), List.mem_of_getElem? (i := 427) (by decide +kernel)⟩
theorem lw_p8 : lw_okq (⟨"SharedSheet$Calculation", "addReferences", "(III)V"⟩, 12) := ⟨⟨by decide +kernel, by decide +kernel⟩, List.mem_of_getElem? (i := 124) (by decide +kernel), List.mem_of_getElem? (i := 447) (by decide +kernel), List.mem_of_getElem? (i := 448) (by decide +kernel)⟩
theorem lw_p9 : lw_okq (⟨"SharedSheet$Calculation", "addRectangle", "(III)V"⟩, 12) := ⟨⟨by decide +kernel, by decide +kernel⟩, List.mem_of_getElem? (i := 124) (by decide +kernel), List.mem_of_getElem? (i := 451) (by decide +kernel), List.mem_of_getElem? (i := 452) (by decide +kernel)⟩
theorem lw_p10 : lw_okq (⟨"SharedSheet$Calculation", "findCycles", "()V"⟩, 12) := ⟨⟨by decide +kernel, by decide +kernel⟩, List.mem_of_getElem? (i := 124) (by decide +kernel), List.mem_of_getElem? (i := 457) (by decide +kernel), List.mem_of_getElem? (i := 458) (by decide +kernel)⟩
theorem lw_p11 : lw_okq (⟨"SharedSheet$Calculation", "calculateWaiting", "(LSharedSheet$Replica;Z)V"⟩, 12) := ⟨⟨by decide +kernel, by decide +kernel⟩, List.mem_of_getElem? (i := 124) (by decide +kernel), List.mem_of_getElem? (i := 476) (by decide +kernel), List.mem_of_getElem? (i := 477) (by decide +kernel)⟩
theorem lw_p12 : lw_okq (⟨"SharedSheet$Calculation", "firstReady", "()I"⟩, 12) := ⟨⟨by decide +kernel, by decide +kernel⟩, List.mem_of_getElem? (i := 124) (by decide +kernel), List.mem_of_getElem? (i := 480) (by decide +kernel), List.mem_of_getElem? (i := 481) (by decide +kernel)⟩
theorem lw_p13 : lw_okq (⟨"SharedSheet$Calculation", "calculateFormula", "(LSharedSheet$Replica;ILSharedSheet$Formula;)V"⟩, 12) := ⟨⟨by decide +kernel, by decide +kernel⟩, List.mem_of_getElem? (i := 124) (by decide +kernel), List.mem_of_getElem? (i := 493) (by decide +kernel), List.mem_of_getElem? (i := 494) (by decide +kernel)⟩
theorem lw_p14 : lw_okq (⟨"SharedSheet$Calculation", "factorOf", "(LSharedSheet$Replica;LSharedSheet$Formula;I)J"⟩, 12) := ⟨⟨by decide +kernel, by decide +kernel⟩, List.mem_of_getElem? (i := 124) (by decide +kernel), List.mem_of_getElem? (i := 501) (by decide +kernel), List.mem_of_getElem? (i := 502) (by decide +kernel)⟩
theorem lw_p15 : lw_okq (⟨"SharedSheet$Calculation", "sumOf", "(II)J"⟩, 12) := ⟨⟨by decide +kernel, by decide +kernel⟩, List.mem_of_getElem? (i := 124) (by decide +kernel), List.mem_of_getElem? (i := 505) (by decide +kernel), List.mem_of_getElem? (i := 506) (by decide +kernel)⟩
def lw_privs_1 : List (MethodName × Nat) := [(⟨"SharedSheet$Lines", "arrange", "(I)V"⟩, 7), (⟨"SharedSheet$Lines", "isBefore", "(II)Z"⟩, 7), (⟨"SharedSheet$Records", "dropOldest", "()V"⟩, 2), (⟨"SharedSheet$Replica", "carryOutWrite", "(LSharedSheet$Operation;)V"⟩, 9), (⟨"SharedSheet$Calculation", "readCells", "(LSharedSheet$Replica;)V"⟩, 12), (⟨"SharedSheet$Calculation", "addFormula", "(ILSharedSheet$Formula;)V"⟩, 12), (⟨"SharedSheet$Calculation", "findReferences", "(LSharedSheet$Replica;)V"⟩, 12), (⟨"SharedSheet$Formula", "partAt", "(I)I"⟩, 1), (⟨"SharedSheet$Calculation", "addReferences", "(III)V"⟩, 12), (⟨"SharedSheet$Calculation", "addRectangle", "(III)V"⟩, 12), (⟨"SharedSheet$Calculation", "findCycles", "()V"⟩, 12), (⟨"SharedSheet$Calculation", "calculateWaiting", "(LSharedSheet$Replica;Z)V"⟩, 12), (⟨"SharedSheet$Calculation", "firstReady", "()I"⟩, 12), (⟨"SharedSheet$Calculation", "calculateFormula", "(LSharedSheet$Replica;ILSharedSheet$Formula;)V"⟩, 12), (⟨"SharedSheet$Calculation", "factorOf", "(LSharedSheet$Replica;LSharedSheet$Formula;I)J"⟩, 12), (⟨"SharedSheet$Calculation", "sumOf", "(II)J"⟩, 12)]
theorem lw_r1 : ∀ q ∈ lw_privs_1, lw_okq q := List.forall_mem_cons.mpr ⟨lw_p0, List.forall_mem_cons.mpr ⟨lw_p1, List.forall_mem_cons.mpr ⟨lw_p2, List.forall_mem_cons.mpr ⟨lw_p3, List.forall_mem_cons.mpr ⟨lw_p4, List.forall_mem_cons.mpr ⟨lw_p5, List.forall_mem_cons.mpr ⟨lw_p6, List.forall_mem_cons.mpr ⟨lw_p7, List.forall_mem_cons.mpr ⟨lw_p8, List.forall_mem_cons.mpr ⟨lw_p9, List.forall_mem_cons.mpr ⟨lw_p10, List.forall_mem_cons.mpr ⟨lw_p11, List.forall_mem_cons.mpr ⟨lw_p12, List.forall_mem_cons.mpr ⟨lw_p13, List.forall_mem_cons.mpr ⟨lw_p14, List.forall_mem_cons.mpr ⟨lw_p15, fun _ h => absurd h List.not_mem_nil⟩⟩⟩⟩⟩⟩⟩⟩⟩⟩⟩⟩⟩⟩⟩⟩
theorem lw_p16 : lw_okq (⟨"SharedSheet$Calculation", "limited", "(J)J"⟩, 12) := ⟨⟨by decide +kernel, by decide +kernel⟩, List.mem_of_getElem? (i := 124) (by decide +kernel), List.mem_of_getElem? (i := 509) (by decide +kernel), List.mem_of_getElem? (i := 510) (by decide +kernel)⟩
theorem lw_p17 : lw_okq (⟨"SharedSheet$Calculation", "endWaitOfCycles", "()V"⟩, 12) := ⟨⟨by decide +kernel, by decide +kernel⟩, List.mem_of_getElem? (i := 124) (by decide +kernel), List.mem_of_getElem? (i := 515) (by decide +kernel), List.mem_of_getElem? (i := 516) (by decide +kernel)⟩
theorem lw_p18 : lw_okq (⟨"SharedSheet", "replicaAt", "(I)LSharedSheet$Replica;"⟩, 4) := ⟨⟨by decide +kernel, by decide +kernel⟩, List.mem_of_getElem? (i := 24) (by decide +kernel), List.mem_of_getElem? (i := 570) (by decide +kernel), List.mem_of_getElem? (i := 571) (by decide +kernel)⟩
theorem lw_p19 : lw_okq (⟨"java/lang/Throwable", "fillInStackTrace", "(I)Ljava/lang/Throwable;"⟩, 6) := ⟨⟨by decide +kernel, by decide +kernel⟩, List.mem_of_getElem? (i := 612) (by decide +kernel), List.mem_of_getElem? (i := 610) (by decide +kernel), List.mem_of_getElem? (i := 611) (by decide +kernel)⟩
theorem lw_p20 : lw_okq (⟨"SharedSheet$Lines", "numberWithout", "(II)I"⟩, 7) := ⟨⟨by decide +kernel, by decide +kernel⟩, List.mem_of_getElem? (i := 83) (by decide +kernel), List.mem_of_getElem? (i := 659) (by decide +kernel), List.mem_of_getElem? (i := 660) (by decide +kernel)⟩
theorem lw_p21 : lw_okq (⟨"SharedSheet", "changeLine", "(LSharedSheet$Replica;IZII)V"⟩, 4) := ⟨⟨by decide +kernel, by decide +kernel⟩, List.mem_of_getElem? (i := 24) (by decide +kernel), List.mem_of_getElem? (i := 683) (by decide +kernel), List.mem_of_getElem? (i := 684) (by decide +kernel)⟩
theorem lw_p22 : lw_okq (⟨"SharedSheet", "writeContent", "(LSharedSheet$Replica;IILSharedSheet$Content;)I"⟩, 4) := ⟨⟨by decide +kernel, by decide +kernel⟩, List.mem_of_getElem? (i := 24) (by decide +kernel), List.mem_of_getElem? (i := 821) (by decide +kernel), List.mem_of_getElem? (i := 822) (by decide +kernel)⟩
theorem lw_p23 : lw_okq (⟨"SharedSheet$Reader", "readFactor", "(LSharedSheet$Text;LSharedSheet$Replica;I)Z"⟩, 3) := ⟨⟨by decide +kernel, by decide +kernel⟩, List.mem_of_getElem? (i := 62) (by decide +kernel), List.mem_of_getElem? (i := 843) (by decide +kernel), List.mem_of_getElem? (i := 844) (by decide +kernel)⟩
theorem lw_p24 : lw_okq (⟨"SharedSheet$Reader", "readNumber", "(LSharedSheet$Text;)I"⟩, 3) := ⟨⟨by decide +kernel, by decide +kernel⟩, List.mem_of_getElem? (i := 62) (by decide +kernel), List.mem_of_getElem? (i := 851) (by decide +kernel), List.mem_of_getElem? (i := 852) (by decide +kernel)⟩
theorem lw_p25 : lw_okq (⟨"SharedSheet$Reader", "addFactor", "(IIII)V"⟩, 3) := ⟨⟨by decide +kernel, by decide +kernel⟩, List.mem_of_getElem? (i := 62) (by decide +kernel), List.mem_of_getElem? (i := 855) (by decide +kernel), List.mem_of_getElem? (i := 856) (by decide +kernel)⟩
theorem lw_p26 : lw_okq (⟨"SharedSheet$Reader", "readSum", "(LSharedSheet$Text;LSharedSheet$Replica;I)Z"⟩, 3) := ⟨⟨by decide +kernel, by decide +kernel⟩, List.mem_of_getElem? (i := 62) (by decide +kernel), List.mem_of_getElem? (i := 859) (by decide +kernel), List.mem_of_getElem? (i := 860) (by decide +kernel)⟩
theorem lw_p27 : lw_okq (⟨"SharedSheet$Reader", "readSign", "(LSharedSheet$Text;I)Z"⟩, 3) := ⟨⟨by decide +kernel, by decide +kernel⟩, List.mem_of_getElem? (i := 62) (by decide +kernel), List.mem_of_getElem? (i := 863) (by decide +kernel), List.mem_of_getElem? (i := 864) (by decide +kernel)⟩
theorem lw_p28 : lw_okq (⟨"SharedSheet$Reader", "readCell", "(LSharedSheet$Text;LSharedSheet$Replica;)I"⟩, 3) := ⟨⟨by decide +kernel, by decide +kernel⟩, List.mem_of_getElem? (i := 62) (by decide +kernel), List.mem_of_getElem? (i := 867) (by decide +kernel), List.mem_of_getElem? (i := 868) (by decide +kernel)⟩
theorem lw_p29 : lw_okq (⟨"SharedSheetModel", "fails", "(I)I"⟩, 31) := ⟨⟨by decide +kernel, by decide +kernel⟩, List.mem_of_getElem? (i := 1093) (by decide +kernel), List.mem_of_getElem? (i := 1213) (by decide +kernel), List.mem_of_getElem? (i := 1214) (by decide +kernel)⟩
theorem lw_p30 : lw_okq (⟨"SharedSheetModel", "lays", "(III[I)I"⟩, 31) := ⟨⟨by decide +kernel, by decide +kernel⟩, List.mem_of_getElem? (i := 1093) (by decide +kernel), List.mem_of_getElem? (i := 1217) (by decide +kernel), List.mem_of_getElem? (i := 1218) (by decide +kernel)⟩
theorem lw_p31 : lw_okq (⟨"SharedSheetModel", "isShown", "(II)Z"⟩, 31) := ⟨⟨by decide +kernel, by decide +kernel⟩, List.mem_of_getElem? (i := 1093) (by decide +kernel), List.mem_of_getElem? (i := 1221) (by decide +kernel), List.mem_of_getElem? (i := 1222) (by decide +kernel)⟩
def lw_privs_2 : List (MethodName × Nat) := [(⟨"SharedSheet$Calculation", "limited", "(J)J"⟩, 12), (⟨"SharedSheet$Calculation", "endWaitOfCycles", "()V"⟩, 12), (⟨"SharedSheet", "replicaAt", "(I)LSharedSheet$Replica;"⟩, 4), (⟨"java/lang/Throwable", "fillInStackTrace", "(I)Ljava/lang/Throwable;"⟩, 6), (⟨"SharedSheet$Lines", "numberWithout", "(II)I"⟩, 7), (⟨"SharedSheet", "changeLine", "(LSharedSheet$Replica;IZII)V"⟩, 4), (⟨"SharedSheet", "writeContent", "(LSharedSheet$Replica;IILSharedSheet$Content;)I"⟩, 4), (⟨"SharedSheet$Reader", "readFactor", "(LSharedSheet$Text;LSharedSheet$Replica;I)Z"⟩, 3), (⟨"SharedSheet$Reader", "readNumber", "(LSharedSheet$Text;)I"⟩, 3), (⟨"SharedSheet$Reader", "addFactor", "(IIII)V"⟩, 3), (⟨"SharedSheet$Reader", "readSum", "(LSharedSheet$Text;LSharedSheet$Replica;I)Z"⟩, 3), (⟨"SharedSheet$Reader", "readSign", "(LSharedSheet$Text;I)Z"⟩, 3), (⟨"SharedSheet$Reader", "readCell", "(LSharedSheet$Text;LSharedSheet$Replica;)I"⟩, 3), (⟨"SharedSheetModel", "fails", "(I)I"⟩, 31), (⟨"SharedSheetModel", "lays", "(III[I)I"⟩, 31), (⟨"SharedSheetModel", "isShown", "(II)Z"⟩, 31)]
theorem lw_r2 : ∀ q ∈ lw_privs_2, lw_okq q := List.forall_mem_cons.mpr ⟨lw_p16, List.forall_mem_cons.mpr ⟨lw_p17, List.forall_mem_cons.mpr ⟨lw_p18, List.forall_mem_cons.mpr ⟨lw_p19, List.forall_mem_cons.mpr ⟨lw_p20, List.forall_mem_cons.mpr ⟨lw_p21, List.forall_mem_cons.mpr ⟨lw_p22, List.forall_mem_cons.mpr ⟨lw_p23, List.forall_mem_cons.mpr ⟨lw_p24, List.forall_mem_cons.mpr ⟨lw_p25, List.forall_mem_cons.mpr ⟨lw_p26, List.forall_mem_cons.mpr ⟨lw_p27, List.forall_mem_cons.mpr ⟨lw_p28, List.forall_mem_cons.mpr ⟨lw_p29, List.forall_mem_cons.mpr ⟨lw_p30, List.forall_mem_cons.mpr ⟨lw_p31, fun _ h => absurd h List.not_mem_nil⟩⟩⟩⟩⟩⟩⟩⟩⟩⟩⟩⟩⟩⟩⟩⟩
theorem lw_p32 : lw_okq (⟨"SharedSheetModel", "between", "(IIII)I"⟩, 31) := ⟨⟨by decide +kernel, by decide +kernel⟩, List.mem_of_getElem? (i := 1093) (by decide +kernel), List.mem_of_getElem? (i := 1225) (by decide +kernel), List.mem_of_getElem? (i := 1226) (by decide +kernel)⟩
theorem lw_p33 : lw_okq (⟨"SharedSheetModel", "of", "(II)I"⟩, 31) := ⟨⟨by decide +kernel, by decide +kernel⟩, List.mem_of_getElem? (i := 1093) (by decide +kernel), List.mem_of_getElem? (i := 1229) (by decide +kernel), List.mem_of_getElem? (i := 1230) (by decide +kernel)⟩
theorem lw_p34 : lw_okq (⟨"SharedSheetModel", "isFull", "(I)Z"⟩, 31) := ⟨⟨by decide +kernel, by decide +kernel⟩, List.mem_of_getElem? (i := 1093) (by decide +kernel), List.mem_of_getElem? (i := 1233) (by decide +kernel), List.mem_of_getElem? (i := 1234) (by decide +kernel)⟩
theorem lw_p35 : lw_okq (⟨"SharedSheetModel", "hold", "()V"⟩, 31) := ⟨⟨by decide +kernel, by decide +kernel⟩, List.mem_of_getElem? (i := 1093) (by decide +kernel), List.mem_of_getElem? (i := 1237) (by decide +kernel), List.mem_of_getElem? (i := 1238) (by decide +kernel)⟩
theorem lw_p36 : lw_okq (⟨"SharedSheetModel", "puts", "(III)V"⟩, 31) := ⟨⟨by decide +kernel, by decide +kernel⟩, List.mem_of_getElem? (i := 1093) (by decide +kernel), List.mem_of_getElem? (i := 1241) (by decide +kernel), List.mem_of_getElem? (i := 1242) (by decide +kernel)⟩
theorem lw_p37 : lw_okq (⟨"SharedSheetModel", "makes", "(IIIII)V"⟩, 31) := ⟨⟨by decide +kernel, by decide +kernel⟩, List.mem_of_getElem? (i := 1093) (by decide +kernel), List.mem_of_getElem? (i := 1245) (by decide +kernel), List.mem_of_getElem? (i := 1246) (by decide +kernel)⟩
theorem lw_p38 : lw_okq (⟨"SharedSheetModel", "carries", "(II)V"⟩, 31) := ⟨⟨by decide +kernel, by decide +kernel⟩, List.mem_of_getElem? (i := 1093) (by decide +kernel), List.mem_of_getElem? (i := 1249) (by decide +kernel), List.mem_of_getElem? (i := 1250) (by decide +kernel)⟩
theorem lw_p39 : lw_okq (⟨"SharedSheetModel", "op", "(II)I"⟩, 31) := ⟨⟨by decide +kernel, by decide +kernel⟩, List.mem_of_getElem? (i := 1093) (by decide +kernel), List.mem_of_getElem? (i := 1253) (by decide +kernel), List.mem_of_getElem? (i := 1254) (by decide +kernel)⟩
theorem lw_p40 : lw_okq (⟨"SharedSheetModel", "ends", "(I)I"⟩, 31) := ⟨⟨by decide +kernel, by decide +kernel⟩, List.mem_of_getElem? (i := 1093) (by decide +kernel), List.mem_of_getElem? (i := 1260) (by decide +kernel), List.mem_of_getElem? (i := 1261) (by decide +kernel)⟩
theorem lw_p41 : lw_okq (⟨"SharedSheetModel", "tells", "(I)I"⟩, 31) := ⟨⟨by decide +kernel, by decide +kernel⟩, List.mem_of_getElem? (i := 1093) (by decide +kernel), List.mem_of_getElem? (i := 1264) (by decide +kernel), List.mem_of_getElem? (i := 1265) (by decide +kernel)⟩
theorem lw_p42 : lw_okq (⟨"SharedSheetModel", "positionOf", "(III)I"⟩, 31) := ⟨⟨by decide +kernel, by decide +kernel⟩, List.mem_of_getElem? (i := 1093) (by decide +kernel), List.mem_of_getElem? (i := 1272) (by decide +kernel), List.mem_of_getElem? (i := 1273) (by decide +kernel)⟩
theorem lw_p43 : lw_okq (⟨"SharedSheetModel", "isCell", "(III)Z"⟩, 31) := ⟨⟨by decide +kernel, by decide +kernel⟩, List.mem_of_getElem? (i := 1093) (by decide +kernel), List.mem_of_getElem? (i := 1300) (by decide +kernel), List.mem_of_getElem? (i := 1301) (by decide +kernel)⟩
theorem lw_p44 : lw_okq (⟨"SharedSheetModel", "looks", "(I)V"⟩, 31) := ⟨⟨by decide +kernel, by decide +kernel⟩, List.mem_of_getElem? (i := 1093) (by decide +kernel), List.mem_of_getElem? (i := 1304) (by decide +kernel), List.mem_of_getElem? (i := 1305) (by decide +kernel)⟩
theorem lw_p45 : lw_okq (⟨"SharedSheetModel", "writes", "(IIIIII)I"⟩, 31) := ⟨⟨by decide +kernel, by decide +kernel⟩, List.mem_of_getElem? (i := 1093) (by decide +kernel), List.mem_of_getElem? (i := 1308) (by decide +kernel), List.mem_of_getElem? (i := 1309) (by decide +kernel)⟩
theorem lw_p46 : lw_okq (⟨"SharedSheetModel", "faultAt", "()I"⟩, 31) := ⟨⟨by decide +kernel, by decide +kernel⟩, List.mem_of_getElem? (i := 1093) (by decide +kernel), List.mem_of_getElem? (i := 1320) (by decide +kernel), List.mem_of_getElem? (i := 1321) (by decide +kernel)⟩
theorem lw_p47 : lw_okq (⟨"SharedSheetModel", "isFactor", "()Z"⟩, 31) := ⟨⟨by decide +kernel, by decide +kernel⟩, List.mem_of_getElem? (i := 1093) (by decide +kernel), List.mem_of_getElem? (i := 1324) (by decide +kernel), List.mem_of_getElem? (i := 1325) (by decide +kernel)⟩
def lw_privs_3 : List (MethodName × Nat) := [(⟨"SharedSheetModel", "between", "(IIII)I"⟩, 31), (⟨"SharedSheetModel", "of", "(II)I"⟩, 31), (⟨"SharedSheetModel", "isFull", "(I)Z"⟩, 31), (⟨"SharedSheetModel", "hold", "()V"⟩, 31), (⟨"SharedSheetModel", "puts", "(III)V"⟩, 31), (⟨"SharedSheetModel", "makes", "(IIIII)V"⟩, 31), (⟨"SharedSheetModel", "carries", "(II)V"⟩, 31), (⟨"SharedSheetModel", "op", "(II)I"⟩, 31), (⟨"SharedSheetModel", "ends", "(I)I"⟩, 31), (⟨"SharedSheetModel", "tells", "(I)I"⟩, 31), (⟨"SharedSheetModel", "positionOf", "(III)I"⟩, 31), (⟨"SharedSheetModel", "isCell", "(III)Z"⟩, 31), (⟨"SharedSheetModel", "looks", "(I)V"⟩, 31), (⟨"SharedSheetModel", "writes", "(IIIIII)I"⟩, 31), (⟨"SharedSheetModel", "faultAt", "()I"⟩, 31), (⟨"SharedSheetModel", "isFactor", "()Z"⟩, 31)]
theorem lw_r3 : ∀ q ∈ lw_privs_3, lw_okq q := List.forall_mem_cons.mpr ⟨lw_p32, List.forall_mem_cons.mpr ⟨lw_p33, List.forall_mem_cons.mpr ⟨lw_p34, List.forall_mem_cons.mpr ⟨lw_p35, List.forall_mem_cons.mpr ⟨lw_p36, List.forall_mem_cons.mpr ⟨lw_p37, List.forall_mem_cons.mpr ⟨lw_p38, List.forall_mem_cons.mpr ⟨lw_p39, List.forall_mem_cons.mpr ⟨lw_p40, List.forall_mem_cons.mpr ⟨lw_p41, List.forall_mem_cons.mpr ⟨lw_p42, List.forall_mem_cons.mpr ⟨lw_p43, List.forall_mem_cons.mpr ⟨lw_p44, List.forall_mem_cons.mpr ⟨lw_p45, List.forall_mem_cons.mpr ⟨lw_p46, List.forall_mem_cons.mpr ⟨lw_p47, fun _ h => absurd h List.not_mem_nil⟩⟩⟩⟩⟩⟩⟩⟩⟩⟩⟩⟩⟩⟩⟩⟩
theorem lw_p48 : lw_okq (⟨"SharedSheetModel", "isAt", "(II)Z"⟩, 31) := ⟨⟨by decide +kernel, by decide +kernel⟩, List.mem_of_getElem? (i := 1093) (by decide +kernel), List.mem_of_getElem? (i := 1328) (by decide +kernel), List.mem_of_getElem? (i := 1329) (by decide +kernel)⟩
theorem lw_p49 : lw_okq (⟨"SharedSheetModel", "adds", "(I)V"⟩, 31) := ⟨⟨by decide +kernel, by decide +kernel⟩, List.mem_of_getElem? (i := 1093) (by decide +kernel), List.mem_of_getElem? (i := 1332) (by decide +kernel), List.mem_of_getElem? (i := 1333) (by decide +kernel)⟩
theorem lw_p50 : lw_okq (⟨"SharedSheetModel", "takes", "(I)Z"⟩, 31) := ⟨⟨by decide +kernel, by decide +kernel⟩, List.mem_of_getElem? (i := 1093) (by decide +kernel), List.mem_of_getElem? (i := 1336) (by decide +kernel), List.mem_of_getElem? (i := 1337) (by decide +kernel)⟩
theorem lw_p51 : lw_okq (⟨"SharedSheetModel", "isNamed", "()Z"⟩, 31) := ⟨⟨by decide +kernel, by decide +kernel⟩, List.mem_of_getElem? (i := 1093) (by decide +kernel), List.mem_of_getElem? (i := 1340) (by decide +kernel), List.mem_of_getElem? (i := 1341) (by decide +kernel)⟩
theorem lw_p52 : lw_okq (⟨"SharedSheetModel", "gathers", "(I)V"⟩, 31) := ⟨⟨by decide +kernel, by decide +kernel⟩, List.mem_of_getElem? (i := 1093) (by decide +kernel), List.mem_of_getElem? (i := 1352) (by decide +kernel), List.mem_of_getElem? (i := 1353) (by decide +kernel)⟩
theorem lw_p53 : lw_okq (⟨"SharedSheetModel", "opAt", "(II)I"⟩, 31) := ⟨⟨by decide +kernel, by decide +kernel⟩, List.mem_of_getElem? (i := 1093) (by decide +kernel), List.mem_of_getElem? (i := 1356) (by decide +kernel), List.mem_of_getElem? (i := 1357) (by decide +kernel)⟩
theorem lw_p54 : lw_okq (⟨"SharedSheetModel", "refersTo", "(II)V"⟩, 31) := ⟨⟨by decide +kernel, by decide +kernel⟩, List.mem_of_getElem? (i := 1093) (by decide +kernel), List.mem_of_getElem? (i := 1360) (by decide +kernel), List.mem_of_getElem? (i := 1361) (by decide +kernel)⟩
theorem lw_p55 : lw_okq (⟨"SharedSheetModel", "seen", "(I)I"⟩, 31) := ⟨⟨by decide +kernel, by decide +kernel⟩, List.mem_of_getElem? (i := 1093) (by decide +kernel), List.mem_of_getElem? (i := 1364) (by decide +kernel), List.mem_of_getElem? (i := 1365) (by decide +kernel)⟩
theorem lw_p56 : lw_okq (⟨"SharedSheetModel", "spans", "(III)V"⟩, 31) := ⟨⟨by decide +kernel, by decide +kernel⟩, List.mem_of_getElem? (i := 1093) (by decide +kernel), List.mem_of_getElem? (i := 1371) (by decide +kernel), List.mem_of_getElem? (i := 1372) (by decide +kernel)⟩
theorem lw_p57 : lw_okq (⟨"SharedSheetModel", "comesBack", "(I)Z"⟩, 31) := ⟨⟨by decide +kernel, by decide +kernel⟩, List.mem_of_getElem? (i := 1093) (by decide +kernel), List.mem_of_getElem? (i := 1381) (by decide +kernel), List.mem_of_getElem? (i := 1382) (by decide +kernel)⟩
theorem lw_p58 : lw_okq (⟨"SharedSheetModel", "told", "(III)I"⟩, 31) := ⟨⟨by decide +kernel, by decide +kernel⟩, List.mem_of_getElem? (i := 1093) (by decide +kernel), List.mem_of_getElem? (i := 1385) (by decide +kernel), List.mem_of_getElem? (i := 1386) (by decide +kernel)⟩
theorem lw_p59 : lw_okq (⟨"SharedSheetModel", "referred", "(I)I"⟩, 31) := ⟨⟨by decide +kernel, by decide +kernel⟩, List.mem_of_getElem? (i := 1093) (by decide +kernel), List.mem_of_getElem? (i := 1389) (by decide +kernel), List.mem_of_getElem? (i := 1390) (by decide +kernel)⟩
theorem lw_p60 : lw_okq (⟨"SharedSheetModel", "referring", "(I)I"⟩, 31) := ⟨⟨by decide +kernel, by decide +kernel⟩, List.mem_of_getElem? (i := 1093) (by decide +kernel), List.mem_of_getElem? (i := 1393) (by decide +kernel), List.mem_of_getElem? (i := 1394) (by decide +kernel)⟩
theorem lw_p61 : lw_okq (⟨"SharedSheetModel", "works", "(I)V"⟩, 31) := ⟨⟨by decide +kernel, by decide +kernel⟩, List.mem_of_getElem? (i := 1093) (by decide +kernel), List.mem_of_getElem? (i := 1401) (by decide +kernel), List.mem_of_getElem? (i := 1402) (by decide +kernel)⟩
theorem lw_p62 : lw_okq (⟨"SharedSheetModel", "isReady", "(IZ)Z"⟩, 31) := ⟨⟨by decide +kernel, by decide +kernel⟩, List.mem_of_getElem? (i := 1093) (by decide +kernel), List.mem_of_getElem? (i := 1405) (by decide +kernel), List.mem_of_getElem? (i := 1406) (by decide +kernel)⟩
theorem lw_p63 : lw_okq (⟨"SharedSheetModel", "calculates", "(II)V"⟩, 31) := ⟨⟨by decide +kernel, by decide +kernel⟩, List.mem_of_getElem? (i := 1093) (by decide +kernel), List.mem_of_getElem? (i := 1409) (by decide +kernel), List.mem_of_getElem? (i := 1410) (by decide +kernel)⟩
def lw_privs_4 : List (MethodName × Nat) := [(⟨"SharedSheetModel", "isAt", "(II)Z"⟩, 31), (⟨"SharedSheetModel", "adds", "(I)V"⟩, 31), (⟨"SharedSheetModel", "takes", "(I)Z"⟩, 31), (⟨"SharedSheetModel", "isNamed", "()Z"⟩, 31), (⟨"SharedSheetModel", "gathers", "(I)V"⟩, 31), (⟨"SharedSheetModel", "opAt", "(II)I"⟩, 31), (⟨"SharedSheetModel", "refersTo", "(II)V"⟩, 31), (⟨"SharedSheetModel", "seen", "(I)I"⟩, 31), (⟨"SharedSheetModel", "spans", "(III)V"⟩, 31), (⟨"SharedSheetModel", "comesBack", "(I)Z"⟩, 31), (⟨"SharedSheetModel", "told", "(III)I"⟩, 31), (⟨"SharedSheetModel", "referred", "(I)I"⟩, 31), (⟨"SharedSheetModel", "referring", "(I)I"⟩, 31), (⟨"SharedSheetModel", "works", "(I)V"⟩, 31), (⟨"SharedSheetModel", "isReady", "(IZ)Z"⟩, 31), (⟨"SharedSheetModel", "calculates", "(II)V"⟩, 31)]
theorem lw_r4 : ∀ q ∈ lw_privs_4, lw_okq q := List.forall_mem_cons.mpr ⟨lw_p48, List.forall_mem_cons.mpr ⟨lw_p49, List.forall_mem_cons.mpr ⟨lw_p50, List.forall_mem_cons.mpr ⟨lw_p51, List.forall_mem_cons.mpr ⟨lw_p52, List.forall_mem_cons.mpr ⟨lw_p53, List.forall_mem_cons.mpr ⟨lw_p54, List.forall_mem_cons.mpr ⟨lw_p55, List.forall_mem_cons.mpr ⟨lw_p56, List.forall_mem_cons.mpr ⟨lw_p57, List.forall_mem_cons.mpr ⟨lw_p58, List.forall_mem_cons.mpr ⟨lw_p59, List.forall_mem_cons.mpr ⟨lw_p60, List.forall_mem_cons.mpr ⟨lw_p61, List.forall_mem_cons.mpr ⟨lw_p62, List.forall_mem_cons.mpr ⟨lw_p63, fun _ h => absurd h List.not_mem_nil⟩⟩⟩⟩⟩⟩⟩⟩⟩⟩⟩⟩⟩⟩⟩⟩
theorem lw_p64 : lw_okq (⟨"SharedSheetModel", "reckons", "(II)I"⟩, 31) := ⟨⟨by decide +kernel, by decide +kernel⟩, List.mem_of_getElem? (i := 1093) (by decide +kernel), List.mem_of_getElem? (i := 1413) (by decide +kernel), List.mem_of_getElem? (i := 1414) (by decide +kernel)⟩
theorem lw_p65 : lw_okq (⟨"SharedSheetModel", "sums", "(II)V"⟩, 31) := ⟨⟨by decide +kernel, by decide +kernel⟩, List.mem_of_getElem? (i := 1093) (by decide +kernel), List.mem_of_getElem? (i := 1417) (by decide +kernel), List.mem_of_getElem? (i := 1418) (by decide +kernel)⟩
theorem lw_p66 : lw_okq (⟨"SharedSheetModel", "meets", "(I)V"⟩, 31) := ⟨⟨by decide +kernel, by decide +kernel⟩, List.mem_of_getElem? (i := 1093) (by decide +kernel), List.mem_of_getElem? (i := 1421) (by decide +kernel), List.mem_of_getElem? (i := 1422) (by decide +kernel)⟩
theorem lw_p67 : lw_okq (⟨"SharedSheetModel", "shows", "(I)V"⟩, 31) := ⟨⟨by decide +kernel, by decide +kernel⟩, List.mem_of_getElem? (i := 1093) (by decide +kernel), List.mem_of_getElem? (i := 1438) (by decide +kernel), List.mem_of_getElem? (i := 1439) (by decide +kernel)⟩
theorem lw_p68 : lw_okq (⟨"SharedSheetModel", "showsNamed", "(I)V"⟩, 31) := ⟨⟨by decide +kernel, by decide +kernel⟩, List.mem_of_getElem? (i := 1093) (by decide +kernel), List.mem_of_getElem? (i := 1442) (by decide +kernel), List.mem_of_getElem? (i := 1443) (by decide +kernel)⟩
theorem lw_p69 : lw_okq (⟨"SharedSheetModel", "showsNumber", "(I)V"⟩, 31) := ⟨⟨by decide +kernel, by decide +kernel⟩, List.mem_of_getElem? (i := 1093) (by decide +kernel), List.mem_of_getElem? (i := 1446) (by decide +kernel), List.mem_of_getElem? (i := 1447) (by decide +kernel)⟩
theorem lw_p70 : lw_okq (⟨"SharedSheetModel", "cycleMany", "()I"⟩, 31) := ⟨⟨by decide +kernel, by decide +kernel⟩, List.mem_of_getElem? (i := 1093) (by decide +kernel), List.mem_of_getElem? (i := 1454) (by decide +kernel), List.mem_of_getElem? (i := 1455) (by decide +kernel)⟩
theorem lw_p71 : lw_okq (⟨"SharedSheetModel", "orders", "()I"⟩, 31) := ⟨⟨by decide +kernel, by decide +kernel⟩, List.mem_of_getElem? (i := 1093) (by decide +kernel), List.mem_of_getElem? (i := 1462) (by decide +kernel), List.mem_of_getElem? (i := 1463) (by decide +kernel)⟩
theorem lw_p72 : lw_okq (⟨"SharedSheetModel", "gets", "(III)I"⟩, 31) := ⟨⟨by decide +kernel, by decide +kernel⟩, List.mem_of_getElem? (i := 1093) (by decide +kernel), List.mem_of_getElem? (i := 1470) (by decide +kernel), List.mem_of_getElem? (i := 1471) (by decide +kernel)⟩
theorem lw_p73 : lw_okq (⟨"SharedSheetModel", "missed", "(II)I"⟩, 31) := ⟨⟨by decide +kernel, by decide +kernel⟩, List.mem_of_getElem? (i := 1093) (by decide +kernel), List.mem_of_getElem? (i := 1474) (by decide +kernel), List.mem_of_getElem? (i := 1475) (by decide +kernel)⟩
theorem lw_p74 : lw_okq (⟨"SharedSheetModel", "pictures", "(I)V"⟩, 31) := ⟨⟨by decide +kernel, by decide +kernel⟩, List.mem_of_getElem? (i := 1093) (by decide +kernel), List.mem_of_getElem? (i := 1498) (by decide +kernel), List.mem_of_getElem? (i := 1499) (by decide +kernel)⟩
theorem lw_p75 : lw_okq (⟨"SharedSheetModel", "mixReplica", "(I)V"⟩, 31) := ⟨⟨by decide +kernel, by decide +kernel⟩, List.mem_of_getElem? (i := 1093) (by decide +kernel), List.mem_of_getElem? (i := 1527) (by decide +kernel), List.mem_of_getElem? (i := 1528) (by decide +kernel)⟩
theorem lw_p76 : lw_okq (⟨"SharedSheetModel", "mix", "(J)V"⟩, 31) := ⟨⟨by decide +kernel, by decide +kernel⟩, List.mem_of_getElem? (i := 1093) (by decide +kernel), List.mem_of_getElem? (i := 1531) (by decide +kernel), List.mem_of_getElem? (i := 1532) (by decide +kernel)⟩
theorem lw_p77 : lw_okq (⟨"SharedSheetModel", "mixLines", "(II)V"⟩, 31) := ⟨⟨by decide +kernel, by decide +kernel⟩, List.mem_of_getElem? (i := 1093) (by decide +kernel), List.mem_of_getElem? (i := 1536) (by decide +kernel), List.mem_of_getElem? (i := 1537) (by decide +kernel)⟩
def lw_privs_5 : List (MethodName × Nat) := [(⟨"SharedSheetModel", "reckons", "(II)I"⟩, 31), (⟨"SharedSheetModel", "sums", "(II)V"⟩, 31), (⟨"SharedSheetModel", "meets", "(I)V"⟩, 31), (⟨"SharedSheetModel", "shows", "(I)V"⟩, 31), (⟨"SharedSheetModel", "showsNamed", "(I)V"⟩, 31), (⟨"SharedSheetModel", "showsNumber", "(I)V"⟩, 31), (⟨"SharedSheetModel", "cycleMany", "()I"⟩, 31), (⟨"SharedSheetModel", "orders", "()I"⟩, 31), (⟨"SharedSheetModel", "gets", "(III)I"⟩, 31), (⟨"SharedSheetModel", "missed", "(II)I"⟩, 31), (⟨"SharedSheetModel", "pictures", "(I)V"⟩, 31), (⟨"SharedSheetModel", "mixReplica", "(I)V"⟩, 31), (⟨"SharedSheetModel", "mix", "(J)V"⟩, 31), (⟨"SharedSheetModel", "mixLines", "(II)V"⟩, 31)]
theorem lw_r5 : ∀ q ∈ lw_privs_5, lw_okq q := List.forall_mem_cons.mpr ⟨lw_p64, List.forall_mem_cons.mpr ⟨lw_p65, List.forall_mem_cons.mpr ⟨lw_p66, List.forall_mem_cons.mpr ⟨lw_p67, List.forall_mem_cons.mpr ⟨lw_p68, List.forall_mem_cons.mpr ⟨lw_p69, List.forall_mem_cons.mpr ⟨lw_p70, List.forall_mem_cons.mpr ⟨lw_p71, List.forall_mem_cons.mpr ⟨lw_p72, List.forall_mem_cons.mpr ⟨lw_p73, List.forall_mem_cons.mpr ⟨lw_p74, List.forall_mem_cons.mpr ⟨lw_p75, List.forall_mem_cons.mpr ⟨lw_p76, List.forall_mem_cons.mpr ⟨lw_p77, fun _ h => absurd h List.not_mem_nil⟩⟩⟩⟩⟩⟩⟩⟩⟩⟩⟩⟩⟩⟩
def lw_privs : List (MethodName × Nat) := lw_privs_1 ++ (lw_privs_2 ++ (lw_privs_3 ++ (lw_privs_4 ++ (lw_privs_5))))
def lw_tbl : List Cond := k2_sels lw_privs ++ tables_1
theorem lw_privs_ok : ∀ q ∈ lw_privs, lw_okq q := by
  show ∀ q ∈ lw_privs_1 ++ (lw_privs_2 ++ (lw_privs_3 ++ (lw_privs_4 ++ (lw_privs_5)))), lw_okq q
  exact List.forall_mem_append.mpr ⟨lw_r1, List.forall_mem_append.mpr ⟨lw_r2, List.forall_mem_append.mpr ⟨lw_r3, List.forall_mem_append.mpr ⟨lw_r4, lw_r5⟩⟩⟩⟩
-- ===== end of PART A; then your names; then what follows =====
end
section
def RX0 : String := "SharedSheet$Calculation"
def TX0 : u_T := fun k => match k with
  | 0 => ("SharedSheet$Calculation", "values", "[I", true)
  | 1 => ("SharedSheet$Calculation", "errors", "[I", true)
  | 2 => ("SharedSheet$Calculation", "formulaCells", "[I", true)
  | 3 => ("SharedSheet$Calculation", "formulas", "[LSharedSheet$Formula;", true)
  | 4 => ("SharedSheet$Calculation", "formulaCount", "I", false)
  | 5 => ("SharedSheet$Calculation", "ordered", "[I", true)
  | 6 => ("SharedSheet$Calculation", "orderedCount", "I", false)
  | 7 => ("SharedSheet$Calculation", "cycleCount", "I", false)
  | 8 => ("SharedSheet$Calculation", "references", "LSharedSheet$CellSets;", true)
  | 9 => ("SharedSheet$Calculation", "reached", "LSharedSheet$CellSets;", true)
  | 10 => ("SharedSheet$Calculation", "problem", "I", false)
  | _ => ("SharedSheet$Calculation", "isUpToDate", "Z", false)
def tyX0 : Nat → FieldType := fun k => match k with
  | 0 => .array .int
  | 1 => .array .int
  | 2 => .array .int
  | 3 => .array (.object "SharedSheet$Formula")
  | 4 => .int
  | 5 => .array .int
  | 6 => .int
  | 7 => .int
  | 8 => .object "SharedSheet$CellSets"
  | 9 => .object "SharedSheet$CellSets"
  | 10 => .int
  | _ => .boolean
abbrev wsX00 : List Cond := u_ws RX0 TX0 12
theorem nmX0 : ∀ a, a < 12 → ∀ b, b < 12 → a ≠ b → (TX0 a).2.1 ≠ (TX0 b).2.1 := by decide +kernel
theorem tyX0_ok : ∀ k, k < 12 → parseFieldDescriptor (TX0 k).2.2.1 = some (tyX0 k) := by decide +kernel
abbrev cX0_init : ByteArray := prog_2_method_1_code
def yX0_init : MethodName := ⟨RX0, "<init>", "()V"⟩
abbrev cX0_outdate : ByteArray := prog_2_method_2_code
def yX0_outdate : MethodName := ⟨RX0, "outdate", "()V"⟩
abbrev cX0_upToDate : ByteArray := prog_2_method_3_code
def yX0_upToDate : MethodName := ⟨RX0, "upToDate", "(LSharedSheet$Replica;)LSharedSheet$Calculation;"⟩
abbrev cX0_valueAt : ByteArray := prog_2_method_4_code
def yX0_valueAt : MethodName := ⟨RX0, "valueAt", "(I)I"⟩
abbrev cX0_errorAt : ByteArray := prog_2_method_5_code
def yX0_errorAt : MethodName := ⟨RX0, "errorAt", "(I)I"⟩
abbrev cX0_cycleCount : ByteArray := prog_2_method_6_code
def yX0_cycleCount : MethodName := ⟨RX0, "cycleCount", "()I"⟩
abbrev cX0_orderedCount : ByteArray := prog_2_method_7_code
def yX0_orderedCount : MethodName := ⟨RX0, "orderedCount", "()I"⟩
abbrev cX0_orderedAt : ByteArray := prog_2_method_8_code
def yX0_orderedAt : MethodName := ⟨RX0, "orderedAt", "(I)I"⟩
abbrev cX0_isOnCycle : ByteArray := prog_2_method_9_code
def yX0_isOnCycle : MethodName := ⟨RX0, "isOnCycle", "(I)Z"⟩
abbrev cX0_countReferences : ByteArray := prog_2_method_10_code
def yX0_countReferences : MethodName := ⟨RX0, "countReferences", "(I)I"⟩
abbrev cX0_countReferrers : ByteArray := prog_2_method_11_code
def yX0_countReferrers : MethodName := ⟨RX0, "countReferrers", "(I)I"⟩
abbrev cX0_readCells : ByteArray := prog_2_method_12_code
def yX0_readCells : MethodName := ⟨RX0, "readCells", "(LSharedSheet$Replica;)V"⟩
abbrev cX0_addFormula : ByteArray := prog_2_method_13_code
def yX0_addFormula : MethodName := ⟨RX0, "addFormula", "(ILSharedSheet$Formula;)V"⟩
abbrev cX0_findReferences : ByteArray := prog_2_method_14_code
def yX0_findReferences : MethodName := ⟨RX0, "findReferences", "(LSharedSheet$Replica;)V"⟩
abbrev cX0_addReferences : ByteArray := prog_2_method_15_code
def yX0_addReferences : MethodName := ⟨RX0, "addReferences", "(III)V"⟩
abbrev cX0_addRectangle : ByteArray := prog_2_method_16_code
def yX0_addRectangle : MethodName := ⟨RX0, "addRectangle", "(III)V"⟩
abbrev cX0_findCycles : ByteArray := prog_2_method_17_code
def yX0_findCycles : MethodName := ⟨RX0, "findCycles", "()V"⟩
abbrev cX0_endWaitOfCycles : ByteArray := prog_2_method_18_code
def yX0_endWaitOfCycles : MethodName := ⟨RX0, "endWaitOfCycles", "()V"⟩
abbrev cX0_calculateWaiting : ByteArray := prog_2_method_19_code
def yX0_calculateWaiting : MethodName := ⟨RX0, "calculateWaiting", "(LSharedSheet$Replica;Z)V"⟩
abbrev cX0_firstReady : ByteArray := prog_2_method_20_code
def yX0_firstReady : MethodName := ⟨RX0, "firstReady", "()I"⟩
abbrev cX0_calculateFormula : ByteArray := prog_2_method_21_code
def yX0_calculateFormula : MethodName := ⟨RX0, "calculateFormula", "(LSharedSheet$Replica;ILSharedSheet$Formula;)V"⟩
abbrev cX0_factorOf : ByteArray := prog_2_method_22_code
def yX0_factorOf : MethodName := ⟨RX0, "factorOf", "(LSharedSheet$Replica;LSharedSheet$Formula;I)J"⟩
abbrev cX0_sumOf : ByteArray := prog_2_method_23_code
def yX0_sumOf : MethodName := ⟨RX0, "sumOf", "(II)J"⟩
abbrev cX0_limited : ByteArray := prog_2_method_24_code
def yX0_limited : MethodName := ⟨RX0, "limited", "(J)J"⟩
def RX1 : String := "SharedSheet$CellSets"
def TX1 : u_T := fun k => match k with
  | _ => ("SharedSheet$CellSets", "bits", "[J", true)
def tyX1 : Nat → FieldType := fun k => match k with
  | _ => .array .long
abbrev wsX10 : List Cond := u_ws RX1 TX1 1
theorem nmX1 : ∀ a, a < 1 → ∀ b, b < 1 → a ≠ b → (TX1 a).2.1 ≠ (TX1 b).2.1 := by decide +kernel
theorem tyX1_ok : ∀ k, k < 1 → parseFieldDescriptor (TX1 k).2.2.1 = some (tyX1 k) := by decide +kernel
abbrev cX1_init : ByteArray := prog_3_method_1_code
def yX1_init : MethodName := ⟨RX1, "<init>", "()V"⟩
abbrev cX1_empty : ByteArray := prog_3_method_2_code
def yX1_empty : MethodName := ⟨RX1, "empty", "()V"⟩
abbrev cX1_copyFrom : ByteArray := prog_3_method_3_code
def yX1_copyFrom : MethodName := ⟨RX1, "copyFrom", "(LSharedSheet$CellSets;)V"⟩
abbrev cX1_put : ByteArray := prog_3_method_4_code
def yX1_put : MethodName := ⟨RX1, "put", "(II)V"⟩
abbrev cX1_drop : ByteArray := prog_3_method_5_code
def yX1_drop : MethodName := ⟨RX1, "drop", "(II)V"⟩
abbrev cX1_has : ByteArray := prog_3_method_6_code
def yX1_has : MethodName := ⟨RX1, "has", "(II)Z"⟩
abbrev cX1_join : ByteArray := prog_3_method_7_code
def yX1_join : MethodName := ⟨RX1, "join", "(II)V"⟩
abbrev cX1_haveCommon : ByteArray := prog_3_method_8_code
def yX1_haveCommon : MethodName := ⟨RX1, "haveCommon", "(II)Z"⟩
abbrev cX1_size : ByteArray := prog_3_method_9_code
def yX1_size : MethodName := ⟨RX1, "size", "(I)I"⟩
abbrev cX1_isSet : ByteArray := prog_3_method_10_code
def yX1_isSet : MethodName := ⟨RX1, "isSet", "(I)Z"⟩
def RX2 : String := "SharedSheet$Content"
def TX2 : u_T := fun k => match k with
  | 0 => ("SharedSheet$Content", "kind", "I", true)
  | 1 => ("SharedSheet$Content", "number", "I", true)
  | _ => ("SharedSheet$Content", "formula", "LSharedSheet$Formula;", true)
def tyX2 : Nat → FieldType := fun k => match k with
  | 0 => .int
  | 1 => .int
  | _ => .object "SharedSheet$Formula"
abbrev wsX20 : List Cond := u_ws RX2 TX2 3
theorem nmX2 : ∀ a, a < 3 → ∀ b, b < 3 → a ≠ b → (TX2 a).2.1 ≠ (TX2 b).2.1 := by decide +kernel
theorem tyX2_ok : ∀ k, k < 3 → parseFieldDescriptor (TX2 k).2.2.1 = some (tyX2 k) := by decide +kernel
abbrev cX2_init : ByteArray := prog_4_method_1_code
def yX2_init : MethodName := ⟨RX2, "<init>", "(IILSharedSheet$Formula;)V"⟩
def RX3 : String := "SharedSheet$Formula"
def TX3 : u_T := fun k => match k with
  | _ => ("SharedSheet$Formula", "parts", "[I", true)
def tyX3 : Nat → FieldType := fun k => match k with
  | _ => .array .int
abbrev wsX30 : List Cond := u_ws RX3 TX3 1
theorem nmX3 : ∀ a, a < 1 → ∀ b, b < 1 → a ≠ b → (TX3 a).2.1 ≠ (TX3 b).2.1 := by decide +kernel
theorem tyX3_ok : ∀ k, k < 1 → parseFieldDescriptor (TX3 k).2.2.1 = some (tyX3 k) := by decide +kernel
abbrev cX3_init : ByteArray := prog_5_method_1_code
def yX3_init : MethodName := ⟨RX3, "<init>", "([I)V"⟩
abbrev cX3_factors : ByteArray := prog_5_method_2_code
def yX3_factors : MethodName := ⟨RX3, "factors", "()I"⟩
abbrev cX3_signOf : ByteArray := prog_5_method_3_code
def yX3_signOf : MethodName := ⟨RX3, "signOf", "(I)I"⟩
abbrev cX3_kindOf : ByteArray := prog_5_method_4_code
def yX3_kindOf : MethodName := ⟨RX3, "kindOf", "(I)I"⟩
abbrev cX3_firstOf : ByteArray := prog_5_method_5_code
def yX3_firstOf : MethodName := ⟨RX3, "firstOf", "(I)I"⟩
abbrev cX3_secondOf : ByteArray := prog_5_method_6_code
def yX3_secondOf : MethodName := ⟨RX3, "secondOf", "(I)I"⟩
abbrev cX3_partAt : ByteArray := prog_5_method_7_code
def yX3_partAt : MethodName := ⟨RX3, "partAt", "(I)I"⟩
abbrev cX3_appendTo : ByteArray := prog_5_method_8_code
def yX3_appendTo : MethodName := ⟨RX3, "appendTo", "(LSharedSheet$Text;LSharedSheet$Replica;)V"⟩
abbrev cX3_appendCell : ByteArray := prog_5_method_9_code
def yX3_appendCell : MethodName := ⟨RX3, "appendCell", "(LSharedSheet$Text;LSharedSheet$Replica;I)V"⟩
def RX4 : String := "SharedSheet$Lines"
def TX4 : u_T := fun k => match k with
  | 0 => ("SharedSheet$Lines", "places", "[I", true)
  | 1 => ("SharedSheet$Lines", "clocks", "[I", true)
  | 2 => ("SharedSheet$Lines", "stampers", "[I", true)
  | 3 => ("SharedSheet$Lines", "made", "[Z", true)
  | 4 => ("SharedSheet$Lines", "removed", "[Z", true)
  | 5 => ("SharedSheet$Lines", "arranged", "[I", true)
  | _ => ("SharedSheet$Lines", "count", "I", false)
def tyX4 : Nat → FieldType := fun k => match k with
  | 0 => .array .int
  | 1 => .array .int
  | 2 => .array .int
  | 3 => .array .boolean
  | 4 => .array .boolean
  | 5 => .array .int
  | _ => .int
abbrev wsX40 : List Cond := u_ws RX4 TX4 7
theorem nmX4 : ∀ a, a < 7 → ∀ b, b < 7 → a ≠ b → (TX4 a).2.1 ≠ (TX4 b).2.1 := by decide +kernel
theorem tyX4_ok : ∀ k, k < 7 → parseFieldDescriptor (TX4 k).2.2.1 = some (tyX4 k) := by decide +kernel
abbrev cX4_init : ByteArray := prog_6_method_1_code
def yX4_init : MethodName := ⟨RX4, "<init>", "()V"⟩
abbrev cX4_reset : ByteArray := prog_6_method_2_code
def yX4_reset : MethodName := ⟨RX4, "reset", "()V"⟩
abbrev cX4_count : ByteArray := prog_6_method_3_code
def yX4_count : MethodName := ⟨RX4, "count", "()I"⟩
abbrev cX4_numberAt : ByteArray := prog_6_method_4_code
def yX4_numberAt : MethodName := ⟨RX4, "numberAt", "(I)I"⟩
abbrev cX4_positionOf : ByteArray := prog_6_method_5_code
def yX4_positionOf : MethodName := ⟨RX4, "positionOf", "(I)I"⟩
abbrev cX4_placeOf : ByteArray := prog_6_method_6_code
def yX4_placeOf : MethodName := ⟨RX4, "placeOf", "(I)I"⟩
abbrev cX4_isMade : ByteArray := prog_6_method_7_code
def yX4_isMade : MethodName := ⟨RX4, "isMade", "(I)Z"⟩
abbrev cX4_isArrangedLike : ByteArray := prog_6_method_8_code
def yX4_isArrangedLike : MethodName := ⟨RX4, "isArrangedLike", "(LSharedSheet$Lines;)Z"⟩
abbrev cX4_carryOut : ByteArray := prog_6_method_9_code
def yX4_carryOut : MethodName := ⟨RX4, "carryOut", "(LSharedSheet$Operation;)V"⟩
abbrev cX4_placeBetween : ByteArray := prog_6_method_10_code
def yX4_placeBetween : MethodName := ⟨RX4, "placeBetween", "(II)I"⟩
abbrev cX4_numberWithout : ByteArray := prog_6_method_11_code
def yX4_numberWithout : MethodName := ⟨RX4, "numberWithout", "(II)I"⟩
abbrev cX4_arrange : ByteArray := prog_6_method_12_code
def yX4_arrange : MethodName := ⟨RX4, "arrange", "(I)V"⟩
abbrev cX4_isBefore : ByteArray := prog_6_method_13_code
def yX4_isBefore : MethodName := ⟨RX4, "isBefore", "(II)Z"⟩
def RX5 : String := "SharedSheet$Operation"
def TX5 : u_T := fun k => match k with
  | 0 => ("SharedSheet$Operation", "kind", "I", true)
  | 1 => ("SharedSheet$Operation", "clock", "I", true)
  | 2 => ("SharedSheet$Operation", "replica", "I", true)
  | 3 => ("SharedSheet$Operation", "columns", "I", true)
  | 4 => ("SharedSheet$Operation", "line", "I", true)
  | 5 => ("SharedSheet$Operation", "place", "I", true)
  | _ => ("SharedSheet$Operation", "content", "LSharedSheet$Content;", true)
def tyX5 : Nat → FieldType := fun k => match k with
  | 0 => .int
  | 1 => .int
  | 2 => .int
  | 3 => .int
  | 4 => .int
  | 5 => .int
  | _ => .object "SharedSheet$Content"
abbrev wsX50 : List Cond := u_ws RX5 TX5 7
theorem nmX5 : ∀ a, a < 7 → ∀ b, b < 7 → a ≠ b → (TX5 a).2.1 ≠ (TX5 b).2.1 := by decide +kernel
theorem tyX5_ok : ∀ k, k < 7 → parseFieldDescriptor (TX5 k).2.2.1 = some (tyX5 k) := by decide +kernel
abbrev cX5_init : ByteArray := prog_7_method_1_code
def yX5_init : MethodName := ⟨RX5, "<init>", "(IIIIIILSharedSheet$Content;)V"⟩
abbrev cX5_isLaterThan : ByteArray := prog_7_method_2_code
def yX5_isLaterThan : MethodName := ⟨RX5, "isLaterThan", "(II)Z"⟩
def RX6 : String := "SharedSheet$Reader"
def TX6 : u_T := fun k => match k with
  | 0 => ("SharedSheet$Reader", "parts", "[I", true)
  | 1 => ("SharedSheet$Reader", "factors", "I", false)
  | _ => ("SharedSheet$Reader", "index", "I", false)
def tyX6 : Nat → FieldType := fun k => match k with
  | 0 => .array .int
  | 1 => .int
  | _ => .int
abbrev wsX60 : List Cond := u_ws RX6 TX6 3
theorem nmX6 : ∀ a, a < 3 → ∀ b, b < 3 → a ≠ b → (TX6 a).2.1 ≠ (TX6 b).2.1 := by decide +kernel
theorem tyX6_ok : ∀ k, k < 3 → parseFieldDescriptor (TX6 k).2.2.1 = some (tyX6 k) := by decide +kernel
abbrev cX6_init : ByteArray := prog_8_method_1_code
def yX6_init : MethodName := ⟨RX6, "<init>", "()V"⟩
abbrev cX6_read : ByteArray := prog_8_method_2_code
def yX6_read : MethodName := ⟨RX6, "read", "(LSharedSheet$Text;LSharedSheet$Replica;)I"⟩
abbrev cX6_formula : ByteArray := prog_8_method_3_code
def yX6_formula : MethodName := ⟨RX6, "formula", "()LSharedSheet$Formula;"⟩
abbrev cX6_readFactor : ByteArray := prog_8_method_4_code
def yX6_readFactor : MethodName := ⟨RX6, "readFactor", "(LSharedSheet$Text;LSharedSheet$Replica;I)Z"⟩
abbrev cX6_readSum : ByteArray := prog_8_method_5_code
def yX6_readSum : MethodName := ⟨RX6, "readSum", "(LSharedSheet$Text;LSharedSheet$Replica;I)Z"⟩
abbrev cX6_readSign : ByteArray := prog_8_method_6_code
def yX6_readSign : MethodName := ⟨RX6, "readSign", "(LSharedSheet$Text;I)Z"⟩
abbrev cX6_readNumber : ByteArray := prog_8_method_7_code
def yX6_readNumber : MethodName := ⟨RX6, "readNumber", "(LSharedSheet$Text;)I"⟩
abbrev cX6_readCell : ByteArray := prog_8_method_8_code
def yX6_readCell : MethodName := ⟨RX6, "readCell", "(LSharedSheet$Text;LSharedSheet$Replica;)I"⟩
abbrev cX6_addFactor : ByteArray := prog_8_method_9_code
def yX6_addFactor : MethodName := ⟨RX6, "addFactor", "(IIII)V"⟩
abbrev cX6_isDigit : ByteArray := prog_8_method_10_code
def yX6_isDigit : MethodName := ⟨RX6, "isDigit", "(I)Z"⟩
def RX7 : String := "SharedSheet$Records"
def TX7 : u_T := fun k => match k with
  | 0 => ("SharedSheet$Records", "carried", "[I", true)
  | _ => ("SharedSheet$Records", "count", "I", false)
def tyX7 : Nat → FieldType := fun k => match k with
  | 0 => .array .int
  | _ => .int
abbrev wsX70 : List Cond := u_ws RX7 TX7 2
theorem nmX7 : ∀ a, a < 2 → ∀ b, b < 2 → a ≠ b → (TX7 a).2.1 ≠ (TX7 b).2.1 := by decide +kernel
theorem tyX7_ok : ∀ k, k < 2 → parseFieldDescriptor (TX7 k).2.2.1 = some (tyX7 k) := by decide +kernel
abbrev cX7_init : ByteArray := prog_9_method_1_code
def yX7_init : MethodName := ⟨RX7, "<init>", "()V"⟩
abbrev cX7_count : ByteArray := prog_9_method_2_code
def yX7_count : MethodName := ⟨RX7, "count", "()I"⟩
abbrev cX7_keep : ByteArray := prog_9_method_3_code
def yX7_keep : MethodName := ⟨RX7, "keep", "([LSharedSheet$Replica;)V"⟩
abbrev cX7_dropOldest : ByteArray := prog_9_method_4_code
def yX7_dropOldest : MethodName := ⟨RX7, "dropOldest", "()V"⟩
abbrev cX7_restoreLatest : ByteArray := prog_9_method_5_code
def yX7_restoreLatest : MethodName := ⟨RX7, "restoreLatest", "([LSharedSheet$Replica;)V"⟩
def RX8 : String := "SharedSheet$Replica"
def TX8 : u_T := fun k => match k with
  | 0 => ("SharedSheet$Replica", "number", "I", true)
  | 1 => ("SharedSheet$Replica", "rows", "LSharedSheet$Lines;", true)
  | 2 => ("SharedSheet$Replica", "columns", "LSharedSheet$Lines;", true)
  | 3 => ("SharedSheet$Replica", "calculation", "LSharedSheet$Calculation;", true)
  | 4 => ("SharedSheet$Replica", "clock", "I", false)
  | 5 => ("SharedSheet$Replica", "log", "[LSharedSheet$Operation;", true)
  | 6 => ("SharedSheet$Replica", "carried", "[I", true)
  | 7 => ("SharedSheet$Replica", "writers", "[LSharedSheet$Operation;", true)
  | _ => ("SharedSheet$Replica", "nothing", "LSharedSheet$Content;", true)
def tyX8 : Nat → FieldType := fun k => match k with
  | 0 => .int
  | 1 => .object "SharedSheet$Lines"
  | 2 => .object "SharedSheet$Lines"
  | 3 => .object "SharedSheet$Calculation"
  | 4 => .int
  | 5 => .array (.object "SharedSheet$Operation")
  | 6 => .array .int
  | 7 => .array (.object "SharedSheet$Operation")
  | _ => .object "SharedSheet$Content"
abbrev wsX80 : List Cond := u_ws RX8 TX8 9
theorem nmX8 : ∀ a, a < 9 → ∀ b, b < 9 → a ≠ b → (TX8 a).2.1 ≠ (TX8 b).2.1 := by decide +kernel
theorem tyX8_ok : ∀ k, k < 9 → parseFieldDescriptor (TX8 k).2.2.1 = some (tyX8 k) := by decide +kernel
abbrev cX8_init : ByteArray := prog_10_method_1_code
def yX8_init : MethodName := ⟨RX8, "<init>", "(I)V"⟩
abbrev cX8_linesOf : ByteArray := prog_10_method_2_code
def yX8_linesOf : MethodName := ⟨RX8, "linesOf", "(Z)LSharedSheet$Lines;"⟩
abbrev cX8_nextClock : ByteArray := prog_10_method_3_code
def yX8_nextClock : MethodName := ⟨RX8, "nextClock", "()I"⟩
abbrev cX8_nextLine : ByteArray := prog_10_method_4_code
def yX8_nextLine : MethodName := ⟨RX8, "nextLine", "(Z)I"⟩
abbrev cX8_carriedOf : ByteArray := prog_10_method_5_code
def yX8_carriedOf : MethodName := ⟨RX8, "carriedOf", "(I)I"⟩
abbrev cX8_logLength : ByteArray := prog_10_method_6_code
def yX8_logLength : MethodName := ⟨RX8, "logLength", "()I"⟩
abbrev cX8_logged : ByteArray := prog_10_method_7_code
def yX8_logged : MethodName := ⟨RX8, "logged", "(I)LSharedSheet$Operation;"⟩
abbrev cX8_lacking : ByteArray := prog_10_method_8_code
def yX8_lacking : MethodName := ⟨RX8, "lacking", "(LSharedSheet$Replica;)I"⟩
abbrev cX8_append : ByteArray := prog_10_method_9_code
def yX8_append : MethodName := ⟨RX8, "append", "(LSharedSheet$Operation;)V"⟩
abbrev cX8_take : ByteArray := prog_10_method_10_code
def yX8_take : MethodName := ⟨RX8, "take", "(LSharedSheet$Replica;I)I"⟩
abbrev cX8_reset : ByteArray := prog_10_method_11_code
def yX8_reset : MethodName := ⟨RX8, "reset", "()V"⟩
abbrev cX8_carryOut : ByteArray := prog_10_method_12_code
def yX8_carryOut : MethodName := ⟨RX8, "carryOut", "(LSharedSheet$Operation;)V"⟩
abbrev cX8_carryOutWrite : ByteArray := prog_10_method_13_code
def yX8_carryOutWrite : MethodName := ⟨RX8, "carryOutWrite", "(LSharedSheet$Operation;)V"⟩
abbrev cX8_writerOf : ByteArray := prog_10_method_14_code
def yX8_writerOf : MethodName := ⟨RX8, "writerOf", "(I)LSharedSheet$Operation;"⟩
abbrev cX8_writerAt : ByteArray := prog_10_method_15_code
def yX8_writerAt : MethodName := ⟨RX8, "writerAt", "(I)LSharedSheet$Operation;"⟩
abbrev cX8_cellOf : ByteArray := prog_10_method_16_code
def yX8_cellOf : MethodName := ⟨RX8, "cellOf", "(I)I"⟩
abbrev cX8_contentAt : ByteArray := prog_10_method_17_code
def yX8_contentAt : MethodName := ⟨RX8, "contentAt", "(I)LSharedSheet$Content;"⟩
def RX9 : String := "SharedSheet$Text"
def TX9 : u_T := fun k => match k with
  | 0 => ("SharedSheet$Text", "characters", "[C", true)
  | _ => ("SharedSheet$Text", "length", "I", false)
def tyX9 : Nat → FieldType := fun k => match k with
  | 0 => .array .char
  | _ => .int
abbrev wsX90 : List Cond := u_ws RX9 TX9 2
theorem nmX9 : ∀ a, a < 2 → ∀ b, b < 2 → a ≠ b → (TX9 a).2.1 ≠ (TX9 b).2.1 := by decide +kernel
theorem tyX9_ok : ∀ k, k < 2 → parseFieldDescriptor (TX9 k).2.2.1 = some (tyX9 k) := by decide +kernel
abbrev cX9_init : ByteArray := prog_11_method_1_code
def yX9_init : MethodName := ⟨RX9, "<init>", "()V"⟩
abbrev cX9_length : ByteArray := prog_11_method_2_code
def yX9_length : MethodName := ⟨RX9, "length", "()I"⟩
abbrev cX9_isFull : ByteArray := prog_11_method_3_code
def yX9_isFull : MethodName := ⟨RX9, "isFull", "()Z"⟩
abbrev cX9_at : ByteArray := prog_11_method_4_code
def yX9_at : MethodName := ⟨RX9, "at", "(I)I"⟩
abbrev cX9_empty : ByteArray := prog_11_method_5_code
def yX9_empty : MethodName := ⟨RX9, "empty", "()V"⟩
abbrev cX9_append : ByteArray := prog_11_method_6_code
def yX9_append : MethodName := ⟨RX9, "append", "(I)V"⟩
abbrev cX9_appendNumber : ByteArray := prog_11_method_7_code
def yX9_appendNumber : MethodName := ⟨RX9, "appendNumber", "(I)V"⟩
def RX10 : String := "SharedSheet"
def TX10 : u_T := fun k => match k with
  | 0 => ("SharedSheet", "replicas", "[LSharedSheet$Replica;", true)
  | 1 => ("SharedSheet", "records", "LSharedSheet$Records;", true)
  | 2 => ("SharedSheet", "text", "LSharedSheet$Text;", true)
  | _ => ("SharedSheet", "reader", "LSharedSheet$Reader;", true)
def tyX10 : Nat → FieldType := fun k => match k with
  | 0 => .array (.object "SharedSheet$Replica")
  | 1 => .object "SharedSheet$Records"
  | 2 => .object "SharedSheet$Text"
  | _ => .object "SharedSheet$Reader"
abbrev wsX100 : List Cond := u_ws RX10 TX10 4
theorem nmX10 : ∀ a, a < 4 → ∀ b, b < 4 → a ≠ b → (TX10 a).2.1 ≠ (TX10 b).2.1 := by decide +kernel
theorem tyX10_ok : ∀ k, k < 4 → parseFieldDescriptor (TX10 k).2.2.1 = some (tyX10 k) := by decide +kernel
abbrev cX10_init : ByteArray := prog_1_method_1_code
def yX10_init : MethodName := ⟨RX10, "<init>", "()V"⟩
abbrev cX10_make : ByteArray := prog_1_method_2_code
def yX10_make : MethodName := ⟨RX10, "make", "(IZI)I"⟩
abbrev cX10_move : ByteArray := prog_1_method_3_code
def yX10_move : MethodName := ⟨RX10, "move", "(IZII)I"⟩
abbrev cX10_remove : ByteArray := prog_1_method_4_code
def yX10_remove : MethodName := ⟨RX10, "remove", "(IZI)I"⟩
abbrev cX10_shown : ByteArray := prog_1_method_5_code
def yX10_shown : MethodName := ⟨RX10, "shown", "(IZ)I"⟩
abbrev cX10_line : ByteArray := prog_1_method_6_code
def yX10_line : MethodName := ⟨RX10, "line", "(IZI)I"⟩
abbrev cX10_position : ByteArray := prog_1_method_7_code
def yX10_position : MethodName := ⟨RX10, "position", "(IZI)I"⟩
abbrev cX10_place : ByteArray := prog_1_method_8_code
def yX10_place : MethodName := ⟨RX10, "place", "(IZI)I"⟩
abbrev cX10_setNumber : ByteArray := prog_1_method_9_code
def yX10_setNumber : MethodName := ⟨RX10, "setNumber", "(IIII)I"⟩
abbrev cX10_clearCell : ByteArray := prog_1_method_10_code
def yX10_clearCell : MethodName := ⟨RX10, "clearCell", "(III)I"⟩
abbrev cX10_setFormula : ByteArray := prog_1_method_11_code
def yX10_setFormula : MethodName := ⟨RX10, "setFormula", "(III)I"⟩
abbrev cX10_cell : ByteArray := prog_1_method_12_code
def yX10_cell : MethodName := ⟨RX10, "cell", "(IIII)I"⟩
abbrev cX10_value : ByteArray := prog_1_method_13_code
def yX10_value : MethodName := ⟨RX10, "value", "(III)I"⟩
abbrev cX10_error : ByteArray := prog_1_method_14_code
def yX10_error : MethodName := ⟨RX10, "error", "(III)I"⟩
abbrev cX10_write : ByteArray := prog_1_method_15_code
def yX10_write : MethodName := ⟨RX10, "write", "(III)I"⟩
abbrev cX10_cycles : ByteArray := prog_1_method_16_code
def yX10_cycles : MethodName := ⟨RX10, "cycles", "(I)I"⟩
abbrev cX10_order : ByteArray := prog_1_method_17_code
def yX10_order : MethodName := ⟨RX10, "order", "(II)I"⟩
abbrev cX10_receive : ByteArray := prog_1_method_18_code
def yX10_receive : MethodName := ⟨RX10, "receive", "(III)I"⟩
abbrev cX10_settle : ByteArray := prog_1_method_19_code
def yX10_settle : MethodName := ⟨RX10, "settle", "()I"⟩
abbrev cX10_missing : ByteArray := prog_1_method_20_code
def yX10_missing : MethodName := ⟨RX10, "missing", "(II)I"⟩
abbrev cX10_clock : ByteArray := prog_1_method_21_code
def yX10_clock : MethodName := ⟨RX10, "clock", "(I)I"⟩
abbrev cX10_operation : ByteArray := prog_1_method_22_code
def yX10_operation : MethodName := ⟨RX10, "operation", "(III)I"⟩
abbrev cX10_areAlike : ByteArray := prog_1_method_23_code
def yX10_areAlike : MethodName := ⟨RX10, "areAlike", "(II)Z"⟩
abbrev cX10_different : ByteArray := prog_1_method_24_code
def yX10_different : MethodName := ⟨RX10, "different", "(II)I"⟩
abbrev cX10_type : ByteArray := prog_1_method_25_code
def yX10_type : MethodName := ⟨RX10, "type", "(I)I"⟩
abbrev cX10_clearText : ByteArray := prog_1_method_26_code
def yX10_clearText : MethodName := ⟨RX10, "clearText", "()I"⟩
abbrev cX10_fault : ByteArray := prog_1_method_27_code
def yX10_fault : MethodName := ⟨RX10, "fault", "(I)I"⟩
abbrev cX10_character : ByteArray := prog_1_method_28_code
def yX10_character : MethodName := ⟨RX10, "character", "(I)I"⟩
abbrev cX10_undo : ByteArray := prog_1_method_29_code
def yX10_undo : MethodName := ⟨RX10, "undo", "()I"⟩
abbrev cX10_checksum : ByteArray := prog_1_method_30_code
def yX10_checksum : MethodName := ⟨RX10, "checksum", "()J"⟩
abbrev cX10_replicaAt : ByteArray := prog_1_method_31_code
def yX10_replicaAt : MethodName := ⟨RX10, "replicaAt", "(I)LSharedSheet$Replica;"⟩
abbrev cX10_requireIndex : ByteArray := prog_1_method_32_code
def yX10_requireIndex : MethodName := ⟨RX10, "requireIndex", "(II)V"⟩
abbrev cX10_requireCell : ByteArray := prog_1_method_33_code
def yX10_requireCell : MethodName := ⟨RX10, "requireCell", "(LSharedSheet$Replica;II)V"⟩
abbrev cX10_requireArgument : ByteArray := prog_1_method_34_code
def yX10_requireArgument : MethodName := ⟨RX10, "requireArgument", "(III)V"⟩
abbrev cX10_requireOther : ByteArray := prog_1_method_35_code
def yX10_requireOther : MethodName := ⟨RX10, "requireOther", "(LSharedSheet$Replica;LSharedSheet$Replica;)V"⟩
abbrev cX10_requireLogRoom : ByteArray := prog_1_method_36_code
def yX10_requireLogRoom : MethodName := ⟨RX10, "requireLogRoom", "(LSharedSheet$Replica;)V"⟩
abbrev cX10_changeLine : ByteArray := prog_1_method_37_code
def yX10_changeLine : MethodName := ⟨RX10, "changeLine", "(LSharedSheet$Replica;IZII)V"⟩
abbrev cX10_writeContent : ByteArray := prog_1_method_38_code
def yX10_writeContent : MethodName := ⟨RX10, "writeContent", "(LSharedSheet$Replica;IILSharedSheet$Content;)I"⟩
abbrev cX10_aboutContent : ByteArray := prog_1_method_39_code
def yX10_aboutContent : MethodName := ⟨RX10, "aboutContent", "(LSharedSheet$Replica;II)I"⟩
abbrev cX10_aboutReferences : ByteArray := prog_1_method_40_code
def yX10_aboutReferences : MethodName := ⟨RX10, "aboutReferences", "(LSharedSheet$Calculation;II)I"⟩
abbrev cX10_aboutOperation : ByteArray := prog_1_method_41_code
def yX10_aboutOperation : MethodName := ⟨RX10, "aboutOperation", "(LSharedSheet$Operation;I)I"⟩
abbrev cX10_toldOrder : ByteArray := prog_1_method_42_code
def yX10_toldOrder : MethodName := ⟨RX10, "toldOrder", "(LSharedSheet$Calculation;I)I"⟩
abbrev cX10_hasSameContent : ByteArray := prog_1_method_43_code
def yX10_hasSameContent : MethodName := ⟨RX10, "hasSameContent", "(LSharedSheet$Replica;LSharedSheet$Replica;I)Z"⟩
abbrev cX10_hasSameResult : ByteArray := prog_1_method_44_code
def yX10_hasSameResult : MethodName := ⟨RX10, "hasSameResult", "(LSharedSheet$Calculation;LSharedSheet$Calculation;I)Z"⟩
abbrev cX10_hasSameStamp : ByteArray := prog_1_method_45_code
def yX10_hasSameStamp : MethodName := ⟨RX10, "hasSameStamp", "(LSharedSheet$Operation;LSharedSheet$Operation;)Z"⟩
abbrev cX10_mixed : ByteArray := prog_1_method_46_code
def yX10_mixed : MethodName := ⟨RX10, "mixed", "(JJ)J"⟩
abbrev cX10_mixedLines : ByteArray := prog_1_method_47_code
def yX10_mixedLines : MethodName := ⟨RX10, "mixedLines", "(JLSharedSheet$Lines;)J"⟩
abbrev cX10_mixedCells : ByteArray := prog_1_method_48_code
def yX10_mixedCells : MethodName := ⟨RX10, "mixedCells", "(JLSharedSheet$Replica;LSharedSheet$Calculation;)J"⟩
abbrev cX10_mixedOrder : ByteArray := prog_1_method_49_code
def yX10_mixedOrder : MethodName := ⟨RX10, "mixedOrder", "(JLSharedSheet$Calculation;)J"⟩
abbrev cX10_isCell : ByteArray := prog_1_method_50_code
def yX10_isCell : MethodName := ⟨RX10, "isCell", "(I)Z"⟩
def RX11 : String := "SharedSheetModel"
def TX11 : u_T := fun k => match k with
  | 0 => ("SharedSheetModel", "s", "[I", true)
  | 1 => ("SharedSheetModel", "past", "[I", true)
  | 2 => ("SharedSheetModel", "aside", "[I", true)
  | 3 => ("SharedSheetModel", "pasts", "I", false)
  | 4 => ("SharedSheetModel", "text", "[I", true)
  | 5 => ("SharedSheetModel", "typed", "I", false)
  | 6 => ("SharedSheetModel", "thrown", "I", false)
  | 7 => ("SharedSheetModel", "rows", "[I", true)
  | 8 => ("SharedSheetModel", "columns", "[I", true)
  | 9 => ("SharedSheetModel", "rowMany", "I", false)
  | 10 => ("SharedSheetModel", "columnMany", "I", false)
  | 11 => ("SharedSheetModel", "some", "[I", true)
  | 12 => ("SharedSheetModel", "read", "[I", true)
  | 13 => ("SharedSheetModel", "reads", "I", false)
  | 14 => ("SharedSheetModel", "at", "I", false)
  | 15 => ("SharedSheetModel", "formulas", "[I", true)
  | 16 => ("SharedSheetModel", "formulaMany", "I", false)
  | 17 => ("SharedSheetModel", "formulaAt", "[I", true)
  | 18 => ("SharedSheetModel", "values", "[J", true)
  | 19 => ("SharedSheetModel", "errors", "[I", true)
  | 20 => ("SharedSheetModel", "refers", "[Z", true)
  | 21 => ("SharedSheetModel", "cyclic", "[Z", true)
  | 22 => ("SharedSheetModel", "known", "[Z", true)
  | 23 => ("SharedSheetModel", "met", "[Z", true)
  | 24 => ("SharedSheetModel", "waiting", "[I", true)
  | 25 => ("SharedSheetModel", "error", "I", false)
  | 26 => ("SharedSheetModel", "factor", "J", false)
  | 27 => ("SharedSheetModel", "ordered", "[I", true)
  | 28 => ("SharedSheetModel", "picture", "[J", true)
  | 29 => ("SharedSheetModel", "first", "[J", true)
  | _ => ("SharedSheetModel", "h", "J", false)
def tyX11 : Nat → FieldType := fun k => match k with
  | 0 => .array .int
  | 1 => .array .int
  | 2 => .array .int
  | 3 => .int
  | 4 => .array .int
  | 5 => .int
  | 6 => .int
  | 7 => .array .int
  | 8 => .array .int
  | 9 => .int
  | 10 => .int
  | 11 => .array .int
  | 12 => .array .int
  | 13 => .int
  | 14 => .int
  | 15 => .array .int
  | 16 => .int
  | 17 => .array .int
  | 18 => .array .long
  | 19 => .array .int
  | 20 => .array .boolean
  | 21 => .array .boolean
  | 22 => .array .boolean
  | 23 => .array .boolean
  | 24 => .array .int
  | 25 => .int
  | 26 => .long
  | 27 => .array .int
  | 28 => .array .long
  | 29 => .array .long
  | _ => .long
abbrev wsX110 : List Cond := u_ws RX11 TX11 31
theorem nmX11 : ∀ a, a < 31 → ∀ b, b < 31 → a ≠ b → (TX11 a).2.1 ≠ (TX11 b).2.1 := by decide +kernel
theorem tyX11_ok : ∀ k, k < 31 → parseFieldDescriptor (TX11 k).2.2.1 = some (tyX11 k) := by decide +kernel
abbrev cX11_init : ByteArray := prog_13_method_1_code
def yX11_init : MethodName := ⟨RX11, "<init>", "()V"⟩
abbrev cX11_thrown : ByteArray := prog_13_method_2_code
def yX11_thrown : MethodName := ⟨RX11, "thrown", "()I"⟩
abbrev cX11_in : ByteArray := prog_13_method_3_code
def yX11_in : MethodName := ⟨RX11, "in", "(III)Z"⟩
abbrev cX11_fails : ByteArray := prog_13_method_4_code
def yX11_fails : MethodName := ⟨RX11, "fails", "(I)I"⟩
abbrev cX11_tells : ByteArray := prog_13_method_5_code
def yX11_tells : MethodName := ⟨RX11, "tells", "(I)I"⟩
abbrev cX11_hold : ByteArray := prog_13_method_6_code
def yX11_hold : MethodName := ⟨RX11, "hold", "()V"⟩
abbrev cX11_ends : ByteArray := prog_13_method_7_code
def yX11_ends : MethodName := ⟨RX11, "ends", "(I)I"⟩
abbrev cX11_isReplica : ByteArray := prog_13_method_8_code
def yX11_isReplica : MethodName := ⟨RX11, "isReplica", "(I)Z"⟩
abbrev cX11_lineAt : ByteArray := prog_13_method_9_code
def yX11_lineAt : MethodName := ⟨RX11, "lineAt", "(II)I"⟩
abbrev cX11_of : ByteArray := prog_13_method_10_code
def yX11_of : MethodName := ⟨RX11, "of", "(II)I"⟩
abbrev cX11_puts : ByteArray := prog_13_method_11_code
def yX11_puts : MethodName := ⟨RX11, "puts", "(III)V"⟩
abbrev cX11_op : ByteArray := prog_13_method_12_code
def yX11_op : MethodName := ⟨RX11, "op", "(II)I"⟩
abbrev cX11_isShown : ByteArray := prog_13_method_13_code
def yX11_isShown : MethodName := ⟨RX11, "isShown", "(II)Z"⟩
abbrev cX11_lays : ByteArray := prog_13_method_14_code
def yX11_lays : MethodName := ⟨RX11, "lays", "(III[I)I"⟩
abbrev cX11_looks : ByteArray := prog_13_method_15_code
def yX11_looks : MethodName := ⟨RX11, "looks", "(I)V"⟩
abbrev cX11_positionOf : ByteArray := prog_13_method_16_code
def yX11_positionOf : MethodName := ⟨RX11, "positionOf", "(III)I"⟩
abbrev cX11_between : ByteArray := prog_13_method_17_code
def yX11_between : MethodName := ⟨RX11, "between", "(IIII)I"⟩
abbrev cX11_isLater : ByteArray := prog_13_method_18_code
def yX11_isLater : MethodName := ⟨RX11, "isLater", "(IIII)Z"⟩
abbrev cX11_isFull : ByteArray := prog_13_method_19_code
def yX11_isFull : MethodName := ⟨RX11, "isFull", "(I)Z"⟩
abbrev cX11_carries : ByteArray := prog_13_method_20_code
def yX11_carries : MethodName := ⟨RX11, "carries", "(II)V"⟩
abbrev cX11_makes : ByteArray := prog_13_method_21_code
def yX11_makes : MethodName := ⟨RX11, "makes", "(IIIII)V"⟩
abbrev cX11_kindOf : ByteArray := prog_13_method_22_code
def yX11_kindOf : MethodName := ⟨RX11, "kindOf", "(Z)I"⟩
abbrev cX11_make : ByteArray := prog_13_method_23_code
def yX11_make : MethodName := ⟨RX11, "make", "(IZI)I"⟩
abbrev cX11_move : ByteArray := prog_13_method_24_code
def yX11_move : MethodName := ⟨RX11, "move", "(IZII)I"⟩
abbrev cX11_remove : ByteArray := prog_13_method_25_code
def yX11_remove : MethodName := ⟨RX11, "remove", "(IZI)I"⟩
abbrev cX11_shown : ByteArray := prog_13_method_26_code
def yX11_shown : MethodName := ⟨RX11, "shown", "(IZ)I"⟩
abbrev cX11_line : ByteArray := prog_13_method_27_code
def yX11_line : MethodName := ⟨RX11, "line", "(IZI)I"⟩
abbrev cX11_position : ByteArray := prog_13_method_28_code
def yX11_position : MethodName := ⟨RX11, "position", "(IZI)I"⟩
abbrev cX11_place : ByteArray := prog_13_method_29_code
def yX11_place : MethodName := ⟨RX11, "place", "(IZI)I"⟩
abbrev cX11_isCell : ByteArray := prog_13_method_30_code
def yX11_isCell : MethodName := ⟨RX11, "isCell", "(III)Z"⟩
abbrev cX11_writes : ByteArray := prog_13_method_31_code
def yX11_writes : MethodName := ⟨RX11, "writes", "(IIIIII)I"⟩
abbrev cX11_setNumber : ByteArray := prog_13_method_32_code
def yX11_setNumber : MethodName := ⟨RX11, "setNumber", "(IIII)I"⟩
abbrev cX11_clearCell : ByteArray := prog_13_method_33_code
def yX11_clearCell : MethodName := ⟨RX11, "clearCell", "(III)I"⟩
abbrev cX11_setFormula : ByteArray := prog_13_method_34_code
def yX11_setFormula : MethodName := ⟨RX11, "setFormula", "(III)I"⟩
abbrev cX11_isAt : ByteArray := prog_13_method_35_code
def yX11_isAt : MethodName := ⟨RX11, "isAt", "(II)Z"⟩
abbrev cX11_adds : ByteArray := prog_13_method_36_code
def yX11_adds : MethodName := ⟨RX11, "adds", "(I)V"⟩
abbrev cX11_takes : ByteArray := prog_13_method_37_code
def yX11_takes : MethodName := ⟨RX11, "takes", "(I)Z"⟩
abbrev cX11_isNamed : ByteArray := prog_13_method_38_code
def yX11_isNamed : MethodName := ⟨RX11, "isNamed", "()Z"⟩
abbrev cX11_isFactor : ByteArray := prog_13_method_39_code
def yX11_isFactor : MethodName := ⟨RX11, "isFactor", "()Z"⟩
abbrev cX11_faultAt : ByteArray := prog_13_method_40_code
def yX11_faultAt : MethodName := ⟨RX11, "faultAt", "()I"⟩
abbrev cX11_fault : ByteArray := prog_13_method_41_code
def yX11_fault : MethodName := ⟨RX11, "fault", "(I)I"⟩
abbrev cX11_find : ByteArray := prog_13_method_42_code
def yX11_find : MethodName := ⟨RX11, "find", "([III)I"⟩
abbrev cX11_seen : ByteArray := prog_13_method_43_code
def yX11_seen : MethodName := ⟨RX11, "seen", "(I)I"⟩
abbrev cX11_opAt : ByteArray := prog_13_method_44_code
def yX11_opAt : MethodName := ⟨RX11, "opAt", "(II)I"⟩
abbrev cX11_least : ByteArray := prog_13_method_45_code
def yX11_least : MethodName := ⟨RX11, "least", "(II)I"⟩
abbrev cX11_greatest : ByteArray := prog_13_method_46_code
def yX11_greatest : MethodName := ⟨RX11, "greatest", "(II)I"⟩
abbrev cX11_refersTo : ByteArray := prog_13_method_47_code
def yX11_refersTo : MethodName := ⟨RX11, "refersTo", "(II)V"⟩
abbrev cX11_spans : ByteArray := prog_13_method_48_code
def yX11_spans : MethodName := ⟨RX11, "spans", "(III)V"⟩
abbrev cX11_comesBack : ByteArray := prog_13_method_49_code
def yX11_comesBack : MethodName := ⟨RX11, "comesBack", "(I)Z"⟩
abbrev cX11_isReady : ByteArray := prog_13_method_50_code
def yX11_isReady : MethodName := ⟨RX11, "isReady", "(IZ)Z"⟩
abbrev cX11_gathers : ByteArray := prog_13_method_51_code
def yX11_gathers : MethodName := ⟨RX11, "gathers", "(I)V"⟩
abbrev cX11_works : ByteArray := prog_13_method_52_code
def yX11_works : MethodName := ⟨RX11, "works", "(I)V"⟩
abbrev cX11_isFar : ByteArray := prog_13_method_53_code
def yX11_isFar : MethodName := ⟨RX11, "isFar", "(J)Z"⟩
abbrev cX11_meets : ByteArray := prog_13_method_54_code
def yX11_meets : MethodName := ⟨RX11, "meets", "(I)V"⟩
abbrev cX11_sums : ByteArray := prog_13_method_55_code
def yX11_sums : MethodName := ⟨RX11, "sums", "(II)V"⟩
abbrev cX11_reckons : ByteArray := prog_13_method_56_code
def yX11_reckons : MethodName := ⟨RX11, "reckons", "(II)I"⟩
abbrev cX11_calculates : ByteArray := prog_13_method_57_code
def yX11_calculates : MethodName := ⟨RX11, "calculates", "(II)V"⟩
abbrev cX11_referred : ByteArray := prog_13_method_58_code
def yX11_referred : MethodName := ⟨RX11, "referred", "(I)I"⟩
abbrev cX11_referring : ByteArray := prog_13_method_59_code
def yX11_referring : MethodName := ⟨RX11, "referring", "(I)I"⟩
abbrev cX11_told : ByteArray := prog_13_method_60_code
def yX11_told : MethodName := ⟨RX11, "told", "(III)I"⟩
abbrev cX11_cell : ByteArray := prog_13_method_61_code
def yX11_cell : MethodName := ⟨RX11, "cell", "(IIII)I"⟩
abbrev cX11_value : ByteArray := prog_13_method_62_code
def yX11_value : MethodName := ⟨RX11, "value", "(III)I"⟩
abbrev cX11_error : ByteArray := prog_13_method_63_code
def yX11_error : MethodName := ⟨RX11, "error", "(III)I"⟩
abbrev cX11_shows : ByteArray := prog_13_method_64_code
def yX11_shows : MethodName := ⟨RX11, "shows", "(I)V"⟩
abbrev cX11_showsNamed : ByteArray := prog_13_method_65_code
def yX11_showsNamed : MethodName := ⟨RX11, "showsNamed", "(I)V"⟩
abbrev cX11_showsNumber : ByteArray := prog_13_method_66_code
def yX11_showsNumber : MethodName := ⟨RX11, "showsNumber", "(I)V"⟩
abbrev cX11_write : ByteArray := prog_13_method_67_code
def yX11_write : MethodName := ⟨RX11, "write", "(III)I"⟩
abbrev cX11_cycleMany : ByteArray := prog_13_method_68_code
def yX11_cycleMany : MethodName := ⟨RX11, "cycleMany", "()I"⟩
abbrev cX11_cycles : ByteArray := prog_13_method_69_code
def yX11_cycles : MethodName := ⟨RX11, "cycles", "(I)I"⟩
abbrev cX11_orders : ByteArray := prog_13_method_70_code
def yX11_orders : MethodName := ⟨RX11, "orders", "()I"⟩
abbrev cX11_order : ByteArray := prog_13_method_71_code
def yX11_order : MethodName := ⟨RX11, "order", "(II)I"⟩
abbrev cX11_missed : ByteArray := prog_13_method_72_code
def yX11_missed : MethodName := ⟨RX11, "missed", "(II)I"⟩
abbrev cX11_gets : ByteArray := prog_13_method_73_code
def yX11_gets : MethodName := ⟨RX11, "gets", "(III)I"⟩
abbrev cX11_receive : ByteArray := prog_13_method_74_code
def yX11_receive : MethodName := ⟨RX11, "receive", "(III)I"⟩
abbrev cX11_settle : ByteArray := prog_13_method_75_code
def yX11_settle : MethodName := ⟨RX11, "settle", "()I"⟩
abbrev cX11_missing : ByteArray := prog_13_method_76_code
def yX11_missing : MethodName := ⟨RX11, "missing", "(II)I"⟩
abbrev cX11_clock : ByteArray := prog_13_method_77_code
def yX11_clock : MethodName := ⟨RX11, "clock", "(I)I"⟩
abbrev cX11_operation : ByteArray := prog_13_method_78_code
def yX11_operation : MethodName := ⟨RX11, "operation", "(III)I"⟩
abbrev cX11_pictures : ByteArray := prog_13_method_79_code
def yX11_pictures : MethodName := ⟨RX11, "pictures", "(I)V"⟩
abbrev cX11_areAlike : ByteArray := prog_13_method_80_code
def yX11_areAlike : MethodName := ⟨RX11, "areAlike", "(II)Z"⟩
abbrev cX11_different : ByteArray := prog_13_method_81_code
def yX11_different : MethodName := ⟨RX11, "different", "(II)I"⟩
abbrev cX11_type : ByteArray := prog_13_method_82_code
def yX11_type : MethodName := ⟨RX11, "type", "(I)I"⟩
abbrev cX11_clearText : ByteArray := prog_13_method_83_code
def yX11_clearText : MethodName := ⟨RX11, "clearText", "()I"⟩
abbrev cX11_character : ByteArray := prog_13_method_84_code
def yX11_character : MethodName := ⟨RX11, "character", "(I)I"⟩
abbrev cX11_undo : ByteArray := prog_13_method_85_code
def yX11_undo : MethodName := ⟨RX11, "undo", "()I"⟩
abbrev cX11_mix : ByteArray := prog_13_method_86_code
def yX11_mix : MethodName := ⟨RX11, "mix", "(J)V"⟩
abbrev cX11_mixLines : ByteArray := prog_13_method_87_code
def yX11_mixLines : MethodName := ⟨RX11, "mixLines", "(II)V"⟩
abbrev cX11_mixReplica : ByteArray := prog_13_method_88_code
def yX11_mixReplica : MethodName := ⟨RX11, "mixReplica", "(I)V"⟩
abbrev cX11_checksum : ByteArray := prog_13_method_89_code
def yX11_checksum : MethodName := ⟨RX11, "checksum", "()J"⟩
def RJx145de : String := "java/io/Serializable"
def RJx8e188 : String := "java/lang/Cloneable"
def RJ13 : String := "java/lang/Long"
abbrev cJ13_bitCount_95d88 : ByteArray := prog_19_method_50_code
def yJ13_bitCount_95d88 : MethodName := ⟨RJ13, "bitCount", "(J)I"⟩
def RJ9 : String := "java/lang/Math"
abbrev cJ9_floorDiv_7cf53 : ByteArray := prog_20_method_47_code
def yJ9_floorDiv_7cf53 : MethodName := ⟨RJ9, "floorDiv", "(II)I"⟩
abbrev cJ9_floorMod_7cf53 : ByteArray := prog_20_method_50_code
def yJ9_floorMod_7cf53 : MethodName := ⟨RJ9, "floorMod", "(II)I"⟩
abbrev cJ9_max_7cf53 : ByteArray := prog_20_method_65_code
def yJ9_max_7cf53 : MethodName := ⟨RJ9, "max", "(II)I"⟩
abbrev cJ9_min_7cf53 : ByteArray := prog_20_method_69_code
def yJ9_min_7cf53 : MethodName := ⟨RJ9, "min", "(II)I"⟩
def RJ0 : String := "java/lang/String"
def RJ10 : String := "java/lang/System"
def RJ7 : String := "java/util/Arrays"
abbrev cJ7_fill_d0a16 : ByteArray := prog_25_method_101_code
def yJ7_fill_d0a16 : MethodName := ⟨RJ7, "fill", "([JJ)V"⟩
abbrev cJ7_fill_53178 : ByteArray := prog_25_method_103_code
def yJ7_fill_53178 : MethodName := ⟨RJ7, "fill", "([II)V"⟩
abbrev cJ7_copyOf_59c91 : ByteArray := prog_25_method_123_code
def yJ7_copyOf_59c91 : MethodName := ⟨RJ7, "copyOf", "([II)[I"⟩
def RL : String := "SharedSheetLaw"
abbrev cL_make : ByteArray := method_3_code
def yL_make : MethodName := ⟨RL, "make", "(LSharedSheet;IZI[J)I"⟩
abbrev cL_move : ByteArray := method_4_code
def yL_move : MethodName := ⟨RL, "move", "(LSharedSheet;IZII[J)I"⟩
abbrev cL_remove : ByteArray := method_5_code
def yL_remove : MethodName := ⟨RL, "remove", "(LSharedSheet;IZI[J)I"⟩
abbrev cL_shown : ByteArray := method_6_code
def yL_shown : MethodName := ⟨RL, "shown", "(LSharedSheet;IZ[J)I"⟩
abbrev cL_line : ByteArray := method_7_code
def yL_line : MethodName := ⟨RL, "line", "(LSharedSheet;IZI[J)I"⟩
abbrev cL_position : ByteArray := method_8_code
def yL_position : MethodName := ⟨RL, "position", "(LSharedSheet;IZI[J)I"⟩
abbrev cL_place : ByteArray := method_9_code
def yL_place : MethodName := ⟨RL, "place", "(LSharedSheet;IZI[J)I"⟩
abbrev cL_setNumber : ByteArray := method_10_code
def yL_setNumber : MethodName := ⟨RL, "setNumber", "(LSharedSheet;IIII[J)I"⟩
abbrev cL_clearCell : ByteArray := method_11_code
def yL_clearCell : MethodName := ⟨RL, "clearCell", "(LSharedSheet;III[J)I"⟩
abbrev cL_setFormula : ByteArray := method_12_code
def yL_setFormula : MethodName := ⟨RL, "setFormula", "(LSharedSheet;III[J)I"⟩
abbrev cL_cell : ByteArray := method_13_code
def yL_cell : MethodName := ⟨RL, "cell", "(LSharedSheet;IIII[J)I"⟩
abbrev cL_value : ByteArray := method_14_code
def yL_value : MethodName := ⟨RL, "value", "(LSharedSheet;III[J)I"⟩
abbrev cL_error : ByteArray := method_15_code
def yL_error : MethodName := ⟨RL, "error", "(LSharedSheet;III[J)I"⟩
abbrev cL_write : ByteArray := method_16_code
def yL_write : MethodName := ⟨RL, "write", "(LSharedSheet;III[J)I"⟩
abbrev cL_cycles : ByteArray := method_17_code
def yL_cycles : MethodName := ⟨RL, "cycles", "(LSharedSheet;I[J)I"⟩
abbrev cL_order : ByteArray := method_18_code
def yL_order : MethodName := ⟨RL, "order", "(LSharedSheet;II[J)I"⟩
abbrev cL_receive : ByteArray := method_19_code
def yL_receive : MethodName := ⟨RL, "receive", "(LSharedSheet;III[J)I"⟩
abbrev cL_missing : ByteArray := method_20_code
def yL_missing : MethodName := ⟨RL, "missing", "(LSharedSheet;II[J)I"⟩
abbrev cL_clock : ByteArray := method_21_code
def yL_clock : MethodName := ⟨RL, "clock", "(LSharedSheet;I[J)I"⟩
abbrev cL_operation : ByteArray := method_22_code
def yL_operation : MethodName := ⟨RL, "operation", "(LSharedSheet;III[J)I"⟩
abbrev cL_areAlike : ByteArray := method_23_code
def yL_areAlike : MethodName := ⟨RL, "areAlike", "(LSharedSheet;II[J)I"⟩
abbrev cL_different : ByteArray := method_24_code
def yL_different : MethodName := ⟨RL, "different", "(LSharedSheet;II[J)I"⟩
abbrev cL_type : ByteArray := method_25_code
def yL_type : MethodName := ⟨RL, "type", "(LSharedSheet;I[J)I"⟩
abbrev cL_fault : ByteArray := method_26_code
def yL_fault : MethodName := ⟨RL, "fault", "(LSharedSheet;I[J)I"⟩
abbrev cL_undo : ByteArray := method_27_code
def yL_undo : MethodName := ⟨RL, "undo", "(LSharedSheet;[J)I"⟩
abbrev cL_law : ByteArray := code
def yL_law : MethodName := ⟨RL, "law", "([I)Z"⟩
abbrev vwCl : List vw_C := [(RX0, TX0, 12), (RX1, TX1, 1), (RX2, TX2, 3), (RX3, TX3, 1), (RX4, TX4, 7), (RX5, TX5, 7), (RX6, TX6, 3), (RX7, TX7, 2), (RX8, TX8, 9), (RX9, TX9, 2), (RX10, TX10, 4), (RX11, TX11, 31)]
end
section
/-! ===== BEGIN words of one list among another's, by their places ===== -/
theorem goodIn_r {big : List Cond} (ws : List Cond) (ps : List Nat) (hp : ws = ps.filterMap (fun i => big[i]?)) (h : ws.all goodWord = true) : GoodIn big ws := by
  intro w hw
  have h1 := List.all_eq_true.mp h w hw
  rw [hp] at hw
  obtain ⟨i, -, hi⟩ := List.mem_filterMap.mp hw
  have hm : w ∈ big := by first | exact List.mem_of_getElem? hi | exact List.getElem?_mem hi
  exact ⟨hm, good_of_word h1⟩
theorem goodIn_app {big a b : List Cond} (ha : GoodIn big a) (hb : GoodIn big b) : GoodIn big (a ++ b) := fun w h => (List.mem_append.mp h).elim (ha w) (hb w)
theorem goodIn_ca {big a b : List Cond} {c : Cond} (ha : GoodIn big (c :: a)) (hb : GoodIn big b) : GoodIn big (c :: (a ++ b)) := fun w h => (List.mem_cons.mp h).elim (fun e => ha w (List.mem_cons.mpr (Or.inl e))) (fun h => (List.mem_append.mp h).elim (fun h => ha w (List.mem_cons.mpr (Or.inr h))) (hb w))
theorem goodIn_sub {big ws : List Cond} (hm : ∀ w ∈ ws, w ∈ big) (h : ws.all goodWord = true) : GoodIn big ws := fun w hw => ⟨hm w hw, good_of_word (List.all_eq_true.mp h w hw)⟩
/-! ===== END ===== -/

/-! ===== BEGIN exceptions that leave a method, and their catching by the caller (launches without stack traces) ===== -/
section VXA
/-! The laws vx_back, vx_callV, vx_callS, vx_callSW, vx_throw0, vx_throwS follow proofs of the library, with one case more: JvmDerived/Free/Laws.lean (Back.of_free), Shelf42/LK1.lean (callV, callS), Shelf/KitTraced.lean (throwNew0V, throwNewS). -/
/-- where a method has thrown q: the class by its name, the cell, what was written, the world -/
def vx_T (XC : String → State → State → Prop) (st : State) (q : Addr) (t : State) (mc ms : Nat) (free : Addr → Prop) : Prop :=
  ∃ (E : String) (ce : Cell) (L : List Loc), XC E st t ∧ t.heap[q]? = some ce ∧ ce.vm = .none ∧ st.vm.findClass E = some ce.cls ∧ st.WarmedH t.vm ∧ st.sameButNew ({ t with vm := st.vm } : State) L mc ms ∧ ∀ z ∈ L, free z.base
def vx_Q (Qc : Array Value → State → Outcome → State → Prop) (XC : String → State → State → Prop) (mc ms : Nat) (free : Addr → Prop) : Array Value → State → Outcome → State → Prop := fun a st o t =>
  (Qc a st o t ∧ ∃ L, FrameEnd st o t L mc ms ∧ ∀ q ∈ L, free q.base) ∨ ∃ q, o = .threw q ∧ vx_T XC st q t mc ms free
/-- a callee that returns or throws -/
def vx_Met (l : Launch) (y : MethodName) (ws : List Cond) (rm : Room) (Pc : Array Value → State → Prop) (Qc : Array Value → State → Outcome → State → Prop) (XC : String → State → State → Prop) (mc ms : Nat) (free : Addr → Prop) : Prop :=
  MetFree l y (headSpec ws rm) Pc (fun _ _ _ _ _ => True) (vx_Q Qc XC mc ms free)
def vx_Post (XC : String → State → State → Prop) (mc ms : Nat) (free : Addr → Prop) : Pt → Array Value → Addr → Pt → Prop := fun A a q B =>
  ∃ (g : JFrame) (mk : MethodId) (t : State) (L : List Loc) (E : String) (ce : Cell), B.U.heap = t.heap ∧ B.U.vm = t.vm ∧ XC E (A.U.calling g mk a) t ∧ t.heap[q]? = some ce ∧ ce.vm = .none ∧ A.U.vm.findClass E = some ce.cls ∧ B.locs = A.locs ++ L ∧ (∀ z ∈ L, free z.base) ∧ B.cells = A.cells + mc ∧ B.slots = A.slots + ms
def vx_Back (l : Launch) (R : Room) (p : Program) (e : Env) (below : List Frame) (s : State) (sargs : Array Value) (y : MethodName) (len W9 : Nat)
    (Pre : Pt → Array Value → Prop) (Post : Pt → Array Value → Option Value → Pt → Prop) (PostX : Pt → Array Value → Addr → Pt → Prop) : Prop :=
  ∀ (m : MethodId) (meth : Method) (c : Code) (A : Pt) (g : JFrame) (ig : Instr) (mk : MethodId) (a : Array Value),
    Stand p l e R s m sargs below meth c A.U A.locs A.cells A.slots → g.method = m → g.locals.size = c.maxLocals → decode c.code g.pc = .ok (ig, len) →
    2 * g.monitorRoom + (g.stack.map fun v => v.category).sum ≤ W9 → A.U.methodNamed? y = some mk → Pre A a →
    (∃ (v : Option Value) (B : Pt), Stand p l e R s m sargs below meth c B.U B.locs B.cells B.slots ∧ Post A a v B ∧
      Steps p.tables e below (doInvoke e (A.U.setTop g) [] mk a).1 (B.U.setTop { g with pc := g.pc + len, stack := v.toList ++ g.stack })) ∨
    (∃ (q : Addr) (B : Pt), Stand p l e R s m sargs below meth c B.U B.locs B.cells B.slots ∧ PostX A a q B ∧
      Steps p.tables e below (doInvoke e (A.U.setTop g) [] mk a).1 ((B.U.setTop g).pushFrame (.throwing q)))
section Payer
variable {l : Launch} {R : Room} {p : Program} {e : Env} {below : List Frame} {s : State} {sargs : Array Value} {y : MethodName} {len W9 : Nat}
theorem vx_back {ws : List Cond} {rm : Room} {Pc : Array Value → State → Prop} {Qc : Array Value → State → Outcome → State → Prop} {XC : String → State → State → Prop} {mc ms : Nat} {free : Addr → Prop} {bytes : ByteArray} {maxL : Nat} {ret : Option FieldType}
    (hM : vx_Met l y ws rm Pc Qc XC mc ms free) (hblind : FrameBlind Pc) (hrc : rm.cells = mc) (hrs : rm.slots = ms)
    (hframes : rm.frames + 1 ≤ R.frames) (hlocals : W9 + (maxL + 11) + rm.locals ≤ R.locals)
    (hws : ∀ w ∈ ws, ∀ a' U, s.WarmedH U.vm → w.before a' U = true) (hcode : Cond.code y bytes maxL ret ∈ ws) (hinit : ∀ a' U, s.WarmedH U.vm → (Cond.initialized y.cls).before a' U = true) :
    vx_Back l R p e below s sargs y len W9 (PreOf R mc ms Pc) (PostOf Qc mc ms free) (vx_Post XC mc ms free) := by
  intro m meth c A g ig mk a X hg hsize hdg hW hn hp
  have h1 : (headSpec ws rm).pre.before a A.U = true := atoms_intro fun w hw => hws w hw _ _ X.warmed
  have h2 : (Cond.code y bytes maxL ret).before a A.U = true := hws _ hcode _ _ X.warmed
  have h3 : (Cond.initialized y.cls).before a A.U = true := hinit _ _ X.warmed
  have h4 : A.cells + (headSpec ws rm).room.cells ≤ R.cells := by rw [show (headSpec ws rm).room.cells = mc from hrc]; exact hp.1
  have h5 : A.slots + (headSpec ws rm).room.slots ≤ R.slots := by rw [show (headSpec ws rm).room.slots = ms from hrs]; exact hp.2.1
  have hPc : Pc a (A.U.calling g mk a) := hblind _ _ _ _ hp.2.2
  obtain ⟨U, Ls, c0, s0⟩ := A
  dsimp only [Pt.U, Pt.locs, Pt.cells, Pt.slots] at h1 h2 h3 h4 h5 X hn hPc ⊢
  obtain ⟨methY, cY, hmY, hcY, -, hlY, -, -, -, -⟩ := Cond.code_spec hn h2
  obtain ⟨kY, hkY, -⟩ := className_of_methodNamed hn
  have hinitY : kY.init = .initialized := Cond.initialized_spec (findClass_of_methodNamed hn) hkY h3
  have h : At U g.method c below := by rw [hg]; exact X.here
  have hlocals9 : W9 + (maxL + 11) + (headSpec ws rm).room.locals ≤ R.locals := hlocals
  have happ : (headSpec ws rm).appliesLoose y e.platform (U.calling g mk a) = true :=
    Spec.appliesLoose_calling (g := g) h hdg hn hkY hinitY
      (X.room_calling (g := g) (R' := (headSpec ws rm).room) hsize hmY hcY hframes (by rw [hlY]; omega) h4 h5) h1
  obtain ⟨mid, hmid⟩ := h.above
  have hfr : (U.setTop g).frames = (.java g :: mid) ++ below := by rw [State.frames_setTop' g h.top, hmid]; rfl
  obtain ⟨o, s₂, hsteps, -, hend, hq⟩ := Steps.callFree hM p X.admits X.cas X.clock (acts := []) hfr happ hPc trivial
  have hq' : vx_Q Qc XC mc ms free a (U.calling g mk a) o s₂ := hq
  rw [State.frames_setTop' g h.top] at hend
  obtain ⟨g₀, hg0⟩ := Option.isSome_iff_exists.mp h.top
  obtain ⟨r, hr⟩ := State.topJava?_eq_some.mp hg0
  have hr' : (({ U with heap := s₂.heap, slotsUsed := s₂.slotsUsed } : State).setVm s₂.vm).frames = .java g₀ :: r := hr
  rcases hq' with ⟨hqc, L, hfe, hL⟩ | ⟨q, rfl, E, ce, L, hx, hce, hcv, hcl, hW₂, hsm, hL⟩
  · obtain ⟨⟨v, rfl⟩, hW₂, e2, q2, q3, q4, q5, q6⟩ := id hfe
    have e3 : s₂ = ({ (U.calling g mk a).setFrames s₂.frames with heap := s₂.heap, slotsUsed := s₂.slotsUsed } : State).setVm s₂.vm := by
      have : s₂ = ({ s₂ with vm := (U.calling g mk a).vm } : State).setVm s₂.vm := rfl
      rw [e2] at this
      exact this
    obtain ⟨c₂, i₂, len₂, hc₂, hd₂, hf₂⟩ := hend
    have hW' : U.WarmedH s₂.vm := hW₂
    have hcc : c₂ = c := by
      have h1 : s₂.code? g.method = U.code? g.method := by
        rw [State.code?_eq, State.code?_eq, hW'.alike.method?]
      exact Option.some.inj (hc₂.symm.trans (h1.trans h.code))
    subst hcc
    have hlen : len₂ = len := by rw [hdg] at hd₂; cases hd₂; rfl
    subst hlen
    have hs₂ : s₂ = (({ U with heap := s₂.heap, slotsUsed := s₂.slotsUsed } : State).setVm s₂.vm).setTop { g with pc := g.pc + len₂, stack := v.toList ++ g.stack } := by
      refine e3.trans ?_
      rw [hf₂, State.calling_eq h.top, State.setFrames_setFrames, State.setTop_of_frames _ hr', hr]
      rfl
    have hsame : U.sameButNew ({ U with heap := s₂.heap, slotsUsed := s₂.slotsUsed } : State) L mc ms := by
      refine ⟨?_, q2, q3, q4, q5, q6⟩
      obtain ⟨t, ht, -⟩ := State.frames_cons hr
      show ({ U with heap := s₂.heap, slotsUsed := s₂.slotsUsed } : State) = { U.setFrames U.frames with heap := s₂.heap, slotsUsed := s₂.slotsUsed }
      rw [State.setFrames_self ht]
    subst hg
    refine Or.inl ⟨v, ⟨(({ U with heap := s₂.heap, slotsUsed := s₂.slotsUsed } : State).setVm s₂.vm), Ls ++ L, c0 + mc, s0 + ms⟩,
      ⟨X.admits, X.cas, X.clock, X.frames, X.room, X.hears, X.method, X.code, (X.here.setHeapUsed s₂.heap s₂.slotsUsed).setVm hW'.alike, X.tail, State.WarmedH.trans X.warmed hW', X.limits, X.bytes, X.same.trans (hsame.setVm s.vm)⟩,
      ⟨g, mk, s₂, L, rfl, rfl, hqc, rfl, hL, rfl, rfl⟩, ?_⟩
    show Steps p.tables e below _ ((({ U with heap := s₂.heap, slotsUsed := s₂.slotsUsed } : State).setVm s₂.vm).setTop { g with pc := g.pc + len₂, stack := v.toList ++ g.stack })
    rw [← hs₂]
    exact hsteps
  · obtain ⟨e2, q2, q3, q4, q5, q6⟩ := id hsm
    have e3 : s₂ = ({ (U.calling g mk a).setFrames s₂.frames with heap := s₂.heap, slotsUsed := s₂.slotsUsed } : State).setVm s₂.vm := by
      have : s₂ = ({ s₂ with vm := (U.calling g mk a).vm } : State).setVm s₂.vm := rfl
      rw [e2] at this
      exact this
    have hf₂ : s₂.frames = .throwing q :: .java g :: U.frames.tail := hend
    have hW' : U.WarmedH s₂.vm := hW₂
    have hs₂ : s₂ = ((({ U with heap := s₂.heap, slotsUsed := s₂.slotsUsed } : State).setVm s₂.vm).setTop g).pushFrame (.throwing q) := by
      refine e3.trans ?_
      rw [hf₂, State.calling_eq h.top, State.setFrames_setFrames, State.pushFrame, State.frames_setTop _ hr', State.setTop_of_frames _ hr', State.setFrames_setFrames, hr]
      rfl
    have hsame : U.sameButNew ({ U with heap := s₂.heap, slotsUsed := s₂.slotsUsed } : State) L mc ms := by
      refine ⟨?_, q2, q3, q4, q5, q6⟩
      obtain ⟨t, ht, -⟩ := State.frames_cons hr
      show ({ U with heap := s₂.heap, slotsUsed := s₂.slotsUsed } : State) = { U.setFrames U.frames with heap := s₂.heap, slotsUsed := s₂.slotsUsed }
      rw [State.setFrames_self ht]
    subst hg
    refine Or.inr ⟨q, ⟨(({ U with heap := s₂.heap, slotsUsed := s₂.slotsUsed } : State).setVm s₂.vm), Ls ++ L, c0 + mc, s0 + ms⟩,
      ⟨X.admits, X.cas, X.clock, X.frames, X.room, X.hears, X.method, X.code, (X.here.setHeapUsed s₂.heap s₂.slotsUsed).setVm hW'.alike, X.tail, State.WarmedH.trans X.warmed hW', X.limits, X.bytes, X.same.trans (hsame.setVm s.vm)⟩,
      ⟨g, mk, s₂, L, E, ce, rfl, rfl, hx, hce, hcv, hcl, rfl, hL, rfl, rfl⟩, ?_⟩
    show Steps p.tables e below _ (((({ U with heap := s₂.heap, slotsUsed := s₂.slotsUsed } : State).setVm s₂.vm).setTop g).pushFrame (.throwing q))
    rw [← hs₂]
    exact hsteps
end Payer
section Calls
variable {p : Program} {l : Launch} {e : Env} {R : Room} {s : State} {m : MethodId} {args : Array Value} {below : List Frame} {meth : Method} {c : Code} {T : State} {locs : List Loc} {cells slots : Nat}
theorem vx_callV (X : Stand p l e R s m args below meth c T locs cells slots) (hexec : p.tables.exec = Jvm.exec) {own C : String} {index : Nat} {y : MethodName} {bytes : ByteArray} {maxL : Nat} {ret : Option FieldType}
    (hown : s.vm.findClass own = some m.cls) (hlink : (Cond.methodLink own index y).before args s = true) (hinst : (Cond.instanceMethod y).before args s = true) (hsel : (Cond.selects C y y).before args s = true)
    (hcode : (Cond.code y bytes maxL ret).before args s = true) (hy : y.cls ≠ "java/lang/invoke/MethodHandle" ∧ y.cls ≠ "java/lang/invoke/VarHandle")
    {W9 : Nat} {Pre : Pt → Array Value → Prop} {Post : Pt → Array Value → Option Value → Pt → Prop} {PostX : Pt → Array Value → Addr → Pt → Prop} (hK : vx_Back l R p e below s args y 3 W9 Pre Post PostX)
    {b : Addr} {cellB : Cell} (hcell : T.heap[b]? = some cellB) (hobj : cellB.vm.isStatics = false) (hcls : s.vm.findClass C = some cellB.cls)
    {g : JFrame} (hg : g.method = m) (hsize : g.locals.size = c.maxLocals) {argsL rest : List Value} (hlen : ∀ sig, parseMethodDescriptor y.desc = some sig → argsL.length = sig.parameters.length)
    (hstack : g.stack = argsL.reverse ++ .ref b :: rest) (hW : 2 * g.monitorRoom + (rest.map fun v => v.category).sum ≤ W9) (hdg : decode c.code g.pc = .ok (.invokevirtual index, 3))
    (hpre : ∀ vm₁, s.WarmedH vm₁ → Pre ⟨T.setVm vm₁, locs, cells, slots⟩ (Value.ref b :: argsL).toArray) :
    (∃ (v : Option Value) (vm₁ : Vm) (B : Pt), s.WarmedH vm₁ ∧ Stand p l e R s m args below meth c B.U B.locs B.cells B.slots ∧ Post ⟨T.setVm vm₁, locs, cells, slots⟩ (Value.ref b :: argsL).toArray v B ∧
      ∀ target, Steps p.tables e below (B.U.setTop { g with pc := g.pc + 3, stack := v.toList ++ rest }) target → Steps p.tables e below (T.setTop g) target) ∨
    (∃ (q : Addr) (vm₁ : Vm) (B : Pt), s.WarmedH vm₁ ∧ Stand p l e R s m args below meth c B.U B.locs B.cells B.slots ∧ PostX ⟨T.setVm vm₁, locs, cells, slots⟩ (Value.ref b :: argsL).toArray q B ∧
      Steps p.tables e below (T.setTop g) ((B.U.setTop { g with stack := rest }).pushFrame (.throwing q))) := by
  obtain ⟨mk, methM, hnamed, hmethM, hstM, habM⟩ := Cond.instanceMethod_spec hinst
  obtain ⟨methM', cM, hmethM', -, -, -, -, -, -, hsigM⟩ := Cond.code_spec hnamed hcode
  cases hmethM.symm.trans hmethM'
  obtain ⟨c2, r2, m2, q1, q2, q3, q4, kP, hkP, hkPi⟩ := Cond.selects_spec hsel
  cases hcls.symm.trans q1
  cases (State.methodFound?_of_named hnamed hy).symm.trans q2
  cases hnamed.symm.trans q3
  have hselP : selectMethod e.platform s.vm cellB.cls mk = .method mk := by rw [Launch.admits_selectMethod X.admits]; exact q4
  obtain ⟨vm₁, X₁, hstep₁⟩ := X.invokevirtual hexec hown hlink hnamed hmethM hstM hkP hkPi hy (a := b) (cell := cellB) hcell
    (fun z h => by rw [h] at hobj; cases hobj) hselP hmethM habM hkP hkPi (g := g) hg (argsL := argsL) (rest := rest) (hlen _ hsigM) hstack hdg
  rcases hK m meth c ⟨T.setVm vm₁, locs, cells, slots⟩ { g with stack := rest } (.invokevirtual index) mk (Value.ref b :: argsL).toArray X₁ hg hsize hdg hW (X₁.named hnamed) (hpre vm₁ X₁.warmed) with ⟨v, B, X', hpost, hsteps⟩ | ⟨q, B, X', hpost, hsteps⟩
  · exact Or.inl ⟨v, vm₁, B, X₁.warmed, X', hpost, fun target h => hstep₁ _ fun acts => by rw [doInvoke_state]; exact hsteps.trans h⟩
  · exact Or.inr ⟨q, vm₁, B, X₁.warmed, X', hpost, hstep₁ _ fun acts => by rw [doInvoke_state]; exact hsteps⟩
theorem vx_callS (X : Stand p l e R s m args below meth c T locs cells slots) (hexec : p.tables.exec = Jvm.exec) {own : String} {index : Nat} {y : MethodName} {bytes : ByteArray} {maxL : Nat} {ret : Option FieldType}
    (hown : s.vm.findClass own = some m.cls) (hlink : (Cond.methodLink own index y).before args s = true) (hstat : (Cond.static y).before args s = true) (hinit : (Cond.initialized y.cls).before args s = true)
    (hcode : (Cond.code y bytes maxL ret).before args s = true) (hy : y.cls ≠ "java/lang/invoke/MethodHandle" ∧ y.cls ≠ "java/lang/invoke/VarHandle")
    {W9 : Nat} {Pre : Pt → Array Value → Prop} {Post : Pt → Array Value → Option Value → Pt → Prop} {PostX : Pt → Array Value → Addr → Pt → Prop} (hK : vx_Back l R p e below s args y 3 W9 Pre Post PostX)
    {g : JFrame} (hg : g.method = m) (hsize : g.locals.size = c.maxLocals) {argsL rest : List Value} (hlen : ∀ sig, parseMethodDescriptor y.desc = some sig → argsL.length = sig.parameters.length)
    (hstack : g.stack = argsL.reverse ++ rest) (hW : 2 * g.monitorRoom + (rest.map fun v => v.category).sum ≤ W9) (hdg : decode c.code g.pc = .ok (.invokestatic index, 3))
    (hpre : ∀ vm₁, s.WarmedH vm₁ → Pre ⟨T.setVm vm₁, locs, cells, slots⟩ argsL.toArray) :
    (∃ (v : Option Value) (vm₁ : Vm) (B : Pt), s.WarmedH vm₁ ∧ Stand p l e R s m args below meth c B.U B.locs B.cells B.slots ∧ Post ⟨T.setVm vm₁, locs, cells, slots⟩ argsL.toArray v B ∧
      ∀ target, Steps p.tables e below (B.U.setTop { g with pc := g.pc + 3, stack := v.toList ++ rest }) target → Steps p.tables e below (T.setTop g) target) ∨
    (∃ (q : Addr) (vm₁ : Vm) (B : Pt), s.WarmedH vm₁ ∧ Stand p l e R s m args below meth c B.U B.locs B.cells B.slots ∧ PostX ⟨T.setVm vm₁, locs, cells, slots⟩ argsL.toArray q B ∧
      Steps p.tables e below (T.setTop g) ((B.U.setTop { g with stack := rest }).pushFrame (.throwing q))) := by
  obtain ⟨mk, hnamed⟩ := Cond.code_named hcode
  obtain ⟨methM, cM, hmethM, -, -, -, -, -, -, hsigM⟩ := Cond.code_spec hnamed hcode
  have hstatic : methM.isStatic = true := Cond.static_spec hnamed hmethM hstat
  obtain ⟨kP, hkP, -⟩ := className_of_methodNamed hnamed
  have hinitP : kP.init = .initialized := Cond.initialized_spec (findClass_of_methodNamed hnamed) hkP hinit
  obtain ⟨vm₁, X₁, hstep₁⟩ := X.invokestatic hexec hown hlink hnamed hmethM hstatic hkP hinitP hy (g := g) hg (argsL := argsL) (rest := rest) (hlen _ hsigM) hstack hdg
  rcases hK m meth c ⟨T.setVm vm₁, locs, cells, slots⟩ { g with stack := rest } (.invokestatic index) mk argsL.toArray X₁ hg hsize hdg hW (X₁.named hnamed) (hpre vm₁ X₁.warmed) with ⟨v, B, X', hpost, hsteps⟩ | ⟨q, B, X', hpost, hsteps⟩
  · exact Or.inl ⟨v, vm₁, B, X₁.warmed, X', hpost, fun target h => hstep₁ _ fun acts => by rw [doInvoke_state]; exact hsteps.trans h⟩
  · exact Or.inr ⟨q, vm₁, B, X₁.warmed, X', hpost, hstep₁ _ fun acts => by rw [doInvoke_state]; exact hsteps⟩
end Calls
theorem vx_cls {s : State} {T : State} {vm₁ : Vm} {E : String} {k : ClassId} (hW : s.WarmedH vm₁) (h : (T.setVm vm₁).vm.findClass E = some k) : s.vm.findClass E = some k := by
  have h1 : vm₁.findClass E = some k := h
  rw [hW.alike.findClass] at h1
  exact h1
/-- the method's frame g, with q thrown over it -/
def vx_W (p : Program) (l : Launch) (e : Env) (R : Room) (s : State) (m : MethodId) (args : Array Value) (below : List Frame) (meth : Method) (c : Code) (H : Heap) (locs : List Loc) (cells slots : Nat) (Q : State → Prop) (g : JFrame) (q : Addr) : Prop :=
  ∀ T : State, T.heap = H → Stand p l e R s m args below meth c T locs cells slots → ∃ t, Steps p.tables e below ((T.setTop g).pushFrame (.throwing q)) t ∧ Q t
def vx_Run (p : Program) (l : Launch) (e : Env) (R : Room) (s : State) (m : MethodId) (args : Array Value) (below : List Frame) (meth : Method) (c : Code) (H : Heap) (locs : List Loc) (cells slots mc ms : Nat) (g : JFrame) (rest : List Value) (Qa : State → Outcome → State → Prop) (XC : String → State → State → Prop) (free : Addr → Prop) : Prop :=
  ∀ T : State, T.heap = H → Stand p l e R s m args below meth c T locs cells slots →
    (∃ (v : Option Value) (st₀ t T' : State) (L : List Loc), st₀.heap = H ∧ Stand p l e R s m args below meth c T' (locs ++ L) (cells + mc) (slots + ms) ∧ (∀ q ∈ L, free q.base) ∧ T'.heap = t.heap ∧ T'.vm = t.vm ∧ Qa st₀ (.returned v) t ∧
      Goes p e below T g T' { g with pc := g.pc + 3, stack := v.toList ++ rest }) ∨
    (∃ (q : Addr) (st₀ t T' : State) (L : List Loc) (E : String) (ce : Cell), st₀.heap = H ∧ Stand p l e R s m args below meth c T' (locs ++ L) (cells + mc) (slots + ms) ∧ (∀ z ∈ L, free z.base) ∧ T'.heap = t.heap ∧ T'.vm = t.vm ∧ XC E st₀ t ∧ t.heap[q]? = some ce ∧ ce.vm = .none ∧ s.vm.findClass E = some ce.cls ∧
      Steps p.tables e below (T.setTop g) ((T'.setTop { g with stack := rest }).pushFrame (.throwing q)))
def vx_X {S : Type} (px : S → Prop) (B : String → S → State → Prop) (A : Nat → Prop) : String → State → State → Prop := fun E st t => ∃ u : S, px u ∧ B E u t ∧ va_F A st t
section Runs
variable {p : Program} {l : Launch} {e : Env} {R : Room} {s : State} {m : MethodId} {args : Array Value} {below : List Frame} {meth : Method} {c : Code} {H : Heap} {locs : List Loc} {cells slots : Nat}
variable {y : MethodName} {bytes cc : ByteArray} {maxL nL mc ms n index : Nat} {ret : Option FieldType} {ws : List Cond} {rm : Room} {Pc : Array Value → State → Prop} {Qc : Array Value → State → Outcome → State → Prop} {XC : String → State → State → Prop} {free : Addr → Prop} {Ts : List Cond} {own C : String} {b : Addr} {As rest : List Value} {g : JFrame}
theorem vx_callBack (cb : CallB R s args own index y bytes maxL ret ws rm mc ms n) (hM : vx_Met l y ws rm Pc Qc XC mc ms free) (hbl : FrameBlind Pc) : vx_Back l R p e below s args y 3 8 (PreOf R mc ms Pc) (PostOf Qc mc ms free) (vx_Post XC mc ms free) := by
  obtain ⟨hrc, hrs, hfr, hlo, hws, hcw, -, hini, -⟩ := cb
  exact vx_back (bytes := bytes) (maxL := maxL) (ret := ret) hM hbl hrc hrs hfr hlo hws hcw (fun a' U hW => word_at hW (Or.inl (by first | rfl | simp [Cond.onTables, Cond.keeps, Cond.steady])) hini)
theorem vx_runV (S : CallFix p m c cc nL s args Ts own) (hM : vx_Met l y ws rm Pc Qc XC mc ms free) (cw : CallW R s args own C index y bytes maxL ret ws rm mc ms n) (hp : PreV s H C b Pc As)
    (hg : g.method = m) (hn : As.length = n) (hsize : g.locals.size = nL) (hstack : g.stack = As.reverse ++ .ref b :: rest) (hW : 2 * g.monitorRoom + (rest.map fun v => v.category).sum ≤ 8) (hdg : decode cc g.pc = .ok (.invokevirtual index, 3)) (hf : cells + mc ≤ R.cells ∧ slots + ms ≤ R.slots) :
    vx_Run p l e R s m args below meth c H locs cells slots mc ms g rest (Qc (Value.ref b :: As).toArray) XC free := by
  have hK : vx_Back l R p e below s args y 3 8 (PreOf R mc ms Pc) (PostOf Qc mc ms free) (vx_Post XC mc ms free) := vx_callBack cw.1 hM hp.1
  obtain ⟨⟨-, -, -, -, -, -, hcode, -, hy, hlen, hl⟩, hin, hse⟩ := cw
  obtain ⟨hx, hb, hml, ho, -⟩ := S
  obtain ⟨-, ⟨cellB, hcB, hoB, hclB⟩, hPc⟩ := hp
  intro T hT X
  rcases vx_callV X hx (C := C) (bytes := bytes) (maxL := maxL) (ret := ret) ho hl hin hse hcode hy hK (by rw [hT]; exact hcB) hoB hclB hg (hsize.trans hml.symm) (argsL := As) (rest := rest) (fun sig h => hn.trans (hlen sig h)) hstack hW (by rw [hb]; exact hdg)
    (fun vm₁ hW₁ => ⟨hf.1, hf.2, hPc (T.setVm vm₁) hT hW₁⟩) with ⟨v, vm₁, ⟨U', l2, c2, s2⟩, hW₁, X', ⟨g', mk, t, L, e1, e2, hq, h1, hL, h2, h3⟩, st⟩ | ⟨q, vm₁, ⟨U', l2, c2, s2⟩, hW₁, X', ⟨g', mk, t, L, E, ce, e1, e2, hq, hce, hcv, hcl, h1, hL, h2, h3⟩, st⟩
  · dsimp only [Pt.U, Pt.locs, Pt.cells, Pt.slots] at X' e1 e2 h1 h2 h3 st
    subst h1; subst h2; subst h3
    exact Or.inl ⟨v, (T.setVm vm₁).calling g' mk (Value.ref b :: As).toArray, t, U', L, hT, X', hL, e1, e2, hq, st⟩
  · dsimp only [Pt.U, Pt.locs, Pt.cells, Pt.slots] at X' e1 e2 h1 h2 h3 st hcl
    subst h1; subst h2; subst h3
    exact Or.inr ⟨q, (T.setVm vm₁).calling g' mk (Value.ref b :: As).toArray, t, U', L, E, ce, hT, X', hL, e1, e2, hq, hce, hcv, vx_cls hW₁ hcl, st⟩
theorem vx_runS (S : CallFix p m c cc nL s args Ts own) (hM : vx_Met l y ws rm Pc Qc XC mc ms free) (cw : CallB R s args own index y bytes maxL ret ws rm mc ms n ∧ (Cond.static y).before args s = true) (hp : PreS s H Pc As)
    (hg : g.method = m) (hn : As.length = n) (hsize : g.locals.size = nL) (hstack : g.stack = As.reverse ++ rest) (hW : 2 * g.monitorRoom + (rest.map fun v => v.category).sum ≤ 8) (hdg : decode cc g.pc = .ok (.invokestatic index, 3)) (hf : cells + mc ≤ R.cells ∧ slots + ms ≤ R.slots) :
    vx_Run p l e R s m args below meth c H locs cells slots mc ms g rest (Qc As.toArray) XC free := by
  have hK : vx_Back l R p e below s args y 3 8 (PreOf R mc ms Pc) (PostOf Qc mc ms free) (vx_Post XC mc ms free) := vx_callBack cw.1 hM hp.1
  obtain ⟨⟨-, -, -, -, -, -, hcode, hini, hy, hlen, hl⟩, hstt⟩ := cw
  obtain ⟨hx, hb, hml, ho, -⟩ := S
  intro T hT X
  rcases vx_callS X hx (bytes := bytes) (maxL := maxL) (ret := ret) ho hl hstt hini hcode hy hK hg (hsize.trans hml.symm) (argsL := As) (rest := rest) (fun sig h => hn.trans (hlen sig h)) hstack hW (by rw [hb]; exact hdg)
    (fun vm₁ hW₁ => ⟨hf.1, hf.2, hp.2 (T.setVm vm₁) hT hW₁⟩) with ⟨v, vm₁, ⟨U', l2, c2, s2⟩, hW₁, X', ⟨g', mk, t, L, e1, e2, hq, h1, hL, h2, h3⟩, st⟩ | ⟨q, vm₁, ⟨U', l2, c2, s2⟩, hW₁, X', ⟨g', mk, t, L, E, ce, e1, e2, hq, hce, hcv, hcl, h1, hL, h2, h3⟩, st⟩
  · dsimp only [Pt.U, Pt.locs, Pt.cells, Pt.slots] at X' e1 e2 h1 h2 h3 st
    subst h1; subst h2; subst h3
    exact Or.inl ⟨v, (T.setVm vm₁).calling g' mk As.toArray, t, U', L, hT, X', hL, e1, e2, hq, st⟩
  · dsimp only [Pt.U, Pt.locs, Pt.cells, Pt.slots] at X' e1 e2 h1 h2 h3 st hcl
    subst h1; subst h2; subst h3
    exact Or.inr ⟨q, (T.setVm vm₁).calling g' mk As.toArray, t, U', L, E, ce, hT, X', hL, e1, e2, hq, hce, hcv, vx_cls hW₁ hcl, st⟩
end Runs
section Rows
variable {p : Program} {l : Launch} {e : Env} {R : Room} {s : State} {m : MethodId} {args : Array Value} {below : List Frame} {meth : Method} {c : Code} {H : Heap} {locs : List Loc} {cells slots : Nat} {Q : State → Prop}
variable {mc ms : Nat} {free : Addr → Prop} {A0 A1 : Nat → Prop} {H0 : Heap} {a : Array Value} {pc : Nat} {ls : Array Slot} {st0 rest : List Value}
theorem vx_keep {st₀ t T' : State} {L : List Loc} (h0 : st₀.heap = H) (e1 : T'.heap = t.heap) (hS : va_S A0 H0 H locs) (hA : ∀ q, q < H.size → A1 q → A0 q) (hf : ∀ q, free q → A0 q) (hL : ∀ q ∈ L, free q.base) (hF : va_F A1 st₀ t) :
    H.size ≤ T'.heap.size ∧ (∀ q : Nat, q < H.size → ¬ A1 q → T'.heap[q]? = H[q]?) ∧ va_S A0 H0 T'.heap (locs ++ L) := by
  obtain ⟨hz, hk⟩ := hF
  rw [h0] at hz hk
  exact ⟨by rw [e1]; exact hz, fun q h1 h2 => by rw [e1]; exact hk q h1 h2,
    ⟨Nat.le_trans hS.1 (by rw [e1]; exact hz), fun q h1 h2 => by rw [e1, hk q (Nat.lt_of_lt_of_le h1 hS.1) (fun z => h2 (hA q (Nat.lt_of_lt_of_le h1 hS.1) z))]; exact hS.2.1 q h1 h2, fun q hq => by
      rcases List.mem_append.mp hq with h | h
      · exact hS.2.2 q h
      · exact hf _ (hL q h)⟩⟩
theorem vx_calli {S SX : Type} {post : Int32 → S → Prop} {px : SX → Prop} {B : S → State → Prop} {BX : String → SX → State → Prop} {AX : Nat → Prop} (hr : vx_Run p l e R s m args below meth c H locs cells slots mc ms (F0 m pc ls st0) rest (va_Qi post B A1 a) (vx_X px BX AX) free) (hS : va_S A0 H0 H locs) (hA : ∀ q, q < H.size → A1 q → A0 q) (hf : ∀ q, free q → A0 q) (hAX : ∀ q, q < H.size → AX q → A0 q)
    (kx : ∀ (E : String) (ce : Cell) (q9 : Addr) (u : SX) (t : State) (H1 : Heap) (locs1 : List Loc), t.heap = H1 → s.vm.Alike t.vm → px u → BX E u t → H.size ≤ H1.size → (∀ q : Nat, q < H.size → ¬ AX q → H1[q]? = H[q]?) → va_S A0 H0 H1 locs1 → H1[q9]? = some ce → ce.vm = .none → s.vm.findClass E = some ce.cls → vx_W p l e R s m args below meth c H1 locs1 (cells + mc) (slots + ms) Q (F0 m pc ls rest) q9)
    (kk : ∀ (r : Int32) (u : S) (t : State) (H1 : Heap) (locs1 : List Loc), t.heap = H1 → s.vm.Alike t.vm → post r u → B u t → H.size ≤ H1.size → (∀ q : Nat, q < H.size → ¬ A1 q → H1[q]? = H[q]?) → va_S A0 H0 H1 locs1 → W p l e R s m args below meth c H1 locs1 (cells + mc) (slots + ms) Q (F0 m (pc + 3) ls (.int r :: rest))) : W p l e R s m args below meth c H locs cells slots Q (F0 m pc ls st0) := by
  intro T hT X
  rcases hr T hT X with ⟨v, st₀, t, T', L, h0, X', hL, e1, e2, ⟨⟨r, u, hv, hp, hb⟩, hF⟩, st⟩ | ⟨q, st₀, t, T', L, E, ce, h0, X', hL, e1, e2, ⟨u, hp, hb, hF⟩, hce, hcv, hcl, st⟩
  · cases hv
    obtain ⟨k1, k2, k3⟩ := vx_keep h0 e1 hS hA hf hL hF
    obtain ⟨t2, a1, b1⟩ := kk r u t T'.heap (locs ++ L) e1.symm (by rw [← e2]; exact X'.warmed.alike) hp hb k1 k2 k3 T' rfl X'
    exact ⟨t2, st t2 a1, b1⟩
  · obtain ⟨k1, k2, k3⟩ := vx_keep h0 e1 hS hAX hf hL hF
    obtain ⟨t2, a1, b1⟩ := kx E ce q u t T'.heap (locs ++ L) e1.symm (by rw [← e2]; exact X'.warmed.alike) hp hb k1 k2 k3 (by rw [e1]; exact hce) hcv hcl T' rfl X'
    exact ⟨t2, st.trans a1, b1⟩
theorem vx_calll {S SX : Type} {post : Int64 → S → Prop} {px : SX → Prop} {B : S → State → Prop} {BX : String → SX → State → Prop} {AX : Nat → Prop} (hr : vx_Run p l e R s m args below meth c H locs cells slots mc ms (F0 m pc ls st0) rest (va_Ql post B A1 a) (vx_X px BX AX) free) (hS : va_S A0 H0 H locs) (hA : ∀ q, q < H.size → A1 q → A0 q) (hf : ∀ q, free q → A0 q) (hAX : ∀ q, q < H.size → AX q → A0 q)
    (kx : ∀ (E : String) (ce : Cell) (q9 : Addr) (u : SX) (t : State) (H1 : Heap) (locs1 : List Loc), t.heap = H1 → s.vm.Alike t.vm → px u → BX E u t → H.size ≤ H1.size → (∀ q : Nat, q < H.size → ¬ AX q → H1[q]? = H[q]?) → va_S A0 H0 H1 locs1 → H1[q9]? = some ce → ce.vm = .none → s.vm.findClass E = some ce.cls → vx_W p l e R s m args below meth c H1 locs1 (cells + mc) (slots + ms) Q (F0 m pc ls rest) q9)
    (kk : ∀ (r : Int64) (u : S) (t : State) (H1 : Heap) (locs1 : List Loc), t.heap = H1 → s.vm.Alike t.vm → post r u → B u t → H.size ≤ H1.size → (∀ q : Nat, q < H.size → ¬ A1 q → H1[q]? = H[q]?) → va_S A0 H0 H1 locs1 → W p l e R s m args below meth c H1 locs1 (cells + mc) (slots + ms) Q (F0 m (pc + 3) ls (.long r :: rest))) : W p l e R s m args below meth c H locs cells slots Q (F0 m pc ls st0) := by
  intro T hT X
  rcases hr T hT X with ⟨v, st₀, t, T', L, h0, X', hL, e1, e2, ⟨⟨r, u, hv, hp, hb⟩, hF⟩, st⟩ | ⟨q, st₀, t, T', L, E, ce, h0, X', hL, e1, e2, ⟨u, hp, hb, hF⟩, hce, hcv, hcl, st⟩
  · cases hv
    obtain ⟨k1, k2, k3⟩ := vx_keep h0 e1 hS hA hf hL hF
    obtain ⟨t2, a1, b1⟩ := kk r u t T'.heap (locs ++ L) e1.symm (by rw [← e2]; exact X'.warmed.alike) hp hb k1 k2 k3 T' rfl X'
    exact ⟨t2, st t2 a1, b1⟩
  · obtain ⟨k1, k2, k3⟩ := vx_keep h0 e1 hS hAX hf hL hF
    obtain ⟨t2, a1, b1⟩ := kx E ce q u t T'.heap (locs ++ L) e1.symm (by rw [← e2]; exact X'.warmed.alike) hp hb k1 k2 k3 (by rw [e1]; exact hce) hcv hcl T' rfl X'
    exact ⟨t2, st.trans a1, b1⟩
theorem vx_callf {S SX : Type} {post : UInt32 → S → Prop} {px : SX → Prop} {B : S → State → Prop} {BX : String → SX → State → Prop} {AX : Nat → Prop} (hr : vx_Run p l e R s m args below meth c H locs cells slots mc ms (F0 m pc ls st0) rest (va_Qf post B A1 a) (vx_X px BX AX) free) (hS : va_S A0 H0 H locs) (hA : ∀ q, q < H.size → A1 q → A0 q) (hf : ∀ q, free q → A0 q) (hAX : ∀ q, q < H.size → AX q → A0 q)
    (kx : ∀ (E : String) (ce : Cell) (q9 : Addr) (u : SX) (t : State) (H1 : Heap) (locs1 : List Loc), t.heap = H1 → s.vm.Alike t.vm → px u → BX E u t → H.size ≤ H1.size → (∀ q : Nat, q < H.size → ¬ AX q → H1[q]? = H[q]?) → va_S A0 H0 H1 locs1 → H1[q9]? = some ce → ce.vm = .none → s.vm.findClass E = some ce.cls → vx_W p l e R s m args below meth c H1 locs1 (cells + mc) (slots + ms) Q (F0 m pc ls rest) q9)
    (kk : ∀ (r : UInt32) (u : S) (t : State) (H1 : Heap) (locs1 : List Loc), t.heap = H1 → s.vm.Alike t.vm → post r u → B u t → H.size ≤ H1.size → (∀ q : Nat, q < H.size → ¬ A1 q → H1[q]? = H[q]?) → va_S A0 H0 H1 locs1 → W p l e R s m args below meth c H1 locs1 (cells + mc) (slots + ms) Q (F0 m (pc + 3) ls (.float r :: rest))) : W p l e R s m args below meth c H locs cells slots Q (F0 m pc ls st0) := by
  intro T hT X
  rcases hr T hT X with ⟨v, st₀, t, T', L, h0, X', hL, e1, e2, ⟨⟨r, u, hv, hp, hb⟩, hF⟩, st⟩ | ⟨q, st₀, t, T', L, E, ce, h0, X', hL, e1, e2, ⟨u, hp, hb, hF⟩, hce, hcv, hcl, st⟩
  · cases hv
    obtain ⟨k1, k2, k3⟩ := vx_keep h0 e1 hS hA hf hL hF
    obtain ⟨t2, a1, b1⟩ := kk r u t T'.heap (locs ++ L) e1.symm (by rw [← e2]; exact X'.warmed.alike) hp hb k1 k2 k3 T' rfl X'
    exact ⟨t2, st t2 a1, b1⟩
  · obtain ⟨k1, k2, k3⟩ := vx_keep h0 e1 hS hAX hf hL hF
    obtain ⟨t2, a1, b1⟩ := kx E ce q u t T'.heap (locs ++ L) e1.symm (by rw [← e2]; exact X'.warmed.alike) hp hb k1 k2 k3 (by rw [e1]; exact hce) hcv hcl T' rfl X'
    exact ⟨t2, st.trans a1, b1⟩
theorem vx_calld {S SX : Type} {post : UInt64 → S → Prop} {px : SX → Prop} {B : S → State → Prop} {BX : String → SX → State → Prop} {AX : Nat → Prop} (hr : vx_Run p l e R s m args below meth c H locs cells slots mc ms (F0 m pc ls st0) rest (va_Qd post B A1 a) (vx_X px BX AX) free) (hS : va_S A0 H0 H locs) (hA : ∀ q, q < H.size → A1 q → A0 q) (hf : ∀ q, free q → A0 q) (hAX : ∀ q, q < H.size → AX q → A0 q)
    (kx : ∀ (E : String) (ce : Cell) (q9 : Addr) (u : SX) (t : State) (H1 : Heap) (locs1 : List Loc), t.heap = H1 → s.vm.Alike t.vm → px u → BX E u t → H.size ≤ H1.size → (∀ q : Nat, q < H.size → ¬ AX q → H1[q]? = H[q]?) → va_S A0 H0 H1 locs1 → H1[q9]? = some ce → ce.vm = .none → s.vm.findClass E = some ce.cls → vx_W p l e R s m args below meth c H1 locs1 (cells + mc) (slots + ms) Q (F0 m pc ls rest) q9)
    (kk : ∀ (r : UInt64) (u : S) (t : State) (H1 : Heap) (locs1 : List Loc), t.heap = H1 → s.vm.Alike t.vm → post r u → B u t → H.size ≤ H1.size → (∀ q : Nat, q < H.size → ¬ A1 q → H1[q]? = H[q]?) → va_S A0 H0 H1 locs1 → W p l e R s m args below meth c H1 locs1 (cells + mc) (slots + ms) Q (F0 m (pc + 3) ls (.double r :: rest))) : W p l e R s m args below meth c H locs cells slots Q (F0 m pc ls st0) := by
  intro T hT X
  rcases hr T hT X with ⟨v, st₀, t, T', L, h0, X', hL, e1, e2, ⟨⟨r, u, hv, hp, hb⟩, hF⟩, st⟩ | ⟨q, st₀, t, T', L, E, ce, h0, X', hL, e1, e2, ⟨u, hp, hb, hF⟩, hce, hcv, hcl, st⟩
  · cases hv
    obtain ⟨k1, k2, k3⟩ := vx_keep h0 e1 hS hA hf hL hF
    obtain ⟨t2, a1, b1⟩ := kk r u t T'.heap (locs ++ L) e1.symm (by rw [← e2]; exact X'.warmed.alike) hp hb k1 k2 k3 T' rfl X'
    exact ⟨t2, st t2 a1, b1⟩
  · obtain ⟨k1, k2, k3⟩ := vx_keep h0 e1 hS hAX hf hL hF
    obtain ⟨t2, a1, b1⟩ := kx E ce q u t T'.heap (locs ++ L) e1.symm (by rw [← e2]; exact X'.warmed.alike) hp hb k1 k2 k3 (by rw [e1]; exact hce) hcv hcl T' rfl X'
    exact ⟨t2, st.trans a1, b1⟩
theorem vx_callv {S SX : Type} {post : S → Prop} {px : SX → Prop} {B : S → State → Prop} {BX : String → SX → State → Prop} {AX : Nat → Prop} (hr : vx_Run p l e R s m args below meth c H locs cells slots mc ms (F0 m pc ls st0) rest (va_Qv post B A1 a) (vx_X px BX AX) free) (hS : va_S A0 H0 H locs) (hA : ∀ q, q < H.size → A1 q → A0 q) (hf : ∀ q, free q → A0 q) (hAX : ∀ q, q < H.size → AX q → A0 q)
    (kx : ∀ (E : String) (ce : Cell) (q9 : Addr) (u : SX) (t : State) (H1 : Heap) (locs1 : List Loc), t.heap = H1 → s.vm.Alike t.vm → px u → BX E u t → H.size ≤ H1.size → (∀ q : Nat, q < H.size → ¬ AX q → H1[q]? = H[q]?) → va_S A0 H0 H1 locs1 → H1[q9]? = some ce → ce.vm = .none → s.vm.findClass E = some ce.cls → vx_W p l e R s m args below meth c H1 locs1 (cells + mc) (slots + ms) Q (F0 m pc ls rest) q9)
    (kk : ∀ (u : S) (t : State) (H1 : Heap) (locs1 : List Loc), t.heap = H1 → s.vm.Alike t.vm → post u → B u t → H.size ≤ H1.size → (∀ q : Nat, q < H.size → ¬ A1 q → H1[q]? = H[q]?) → va_S A0 H0 H1 locs1 → W p l e R s m args below meth c H1 locs1 (cells + mc) (slots + ms) Q (F0 m (pc + 3) ls (rest))) : W p l e R s m args below meth c H locs cells slots Q (F0 m pc ls st0) := by
  intro T hT X
  rcases hr T hT X with ⟨v, st₀, t, T', L, h0, X', hL, e1, e2, ⟨⟨u, hv, hp, hb⟩, hF⟩, st⟩ | ⟨q, st₀, t, T', L, E, ce, h0, X', hL, e1, e2, ⟨u, hp, hb, hF⟩, hce, hcv, hcl, st⟩
  · cases hv
    obtain ⟨k1, k2, k3⟩ := vx_keep h0 e1 hS hA hf hL hF
    obtain ⟨t2, a1, b1⟩ := kk u t T'.heap (locs ++ L) e1.symm (by rw [← e2]; exact X'.warmed.alike) hp hb k1 k2 k3 T' rfl X'
    exact ⟨t2, st t2 a1, b1⟩
  · obtain ⟨k1, k2, k3⟩ := vx_keep h0 e1 hS hAX hf hL hF
    obtain ⟨t2, a1, b1⟩ := kx E ce q u t T'.heap (locs ++ L) e1.symm (by rw [← e2]; exact X'.warmed.alike) hp hb k1 k2 k3 (by rw [e1]; exact hce) hcv hcl T' rfl X'
    exact ⟨t2, st.trans a1, b1⟩
/-- caught by the row x of this method's table; the rows ahead don't take it -/
theorem vx_catch {own name : String} {E : String} {ce : Cell} {q : Addr} (hown : s.vm.findClass own = some m.cls) (pre : List ExceptionTableEntry) (x : ExceptionTableEntry) (suf : List ExceptionTableEntry) (hsplit : c.exceptionTable.toList = pre ++ x :: suf)
    (hpass : ∀ z ∈ pre, covers z pc = false ∨ (z.catchType ≠ 0 ∧ ∃ nm : String, (Cond.classLink own z.catchType nm).before args s = true ∧ va_Nc E nm s)) (hx : covers x pc = true) (h0 : x.catchType ≠ 0)
    (hlink : (Cond.classLink own x.catchType name).before args s = true) (hcast : (Cond.castable E name).before args s = true) (hcell : H[q]? = some ce) (hv : ce.vm = .none) (hcl : s.vm.findClass E = some ce.cls)
    (kk : W p l e R s m args below meth c H locs cells slots Q (F0 m x.handlerPc ls [.ref q])) : vx_W p l e R s m args below meth c H locs cells slots Q (F0 m pc ls rest) q := by
  intro T hT X
  have hpl : e.platform.magicAccessors = ({} : Platform).magicAccessors := by rw [X.admits.platform]
  obtain ⟨c3, c4, hc3, hc4, hasg⟩ := Cond.castable_spec hcast
  cases Option.some.inj (hc3.symm.trans hcl)
  obtain ⟨c5, hc5, hcl5⟩ := Cond.classLink_spec hown hlink e.platform hpl
  cases Option.some.inj (hc4.symm.trans hc5)
  obtain ⟨vm', X', st⟩ := X.thenCaughtThrough q (g := F0 m pc ls rest) rfl (Steps.refl _) (by rw [hT]; exact hcell) (by rw [hv]; rfl) (by obtain ⟨k9, h9, -⟩ := Vm.findClass_spec hcl; exact ⟨k9, h9⟩) pre x suf hsplit
    (fun z hz => by
      rcases hpass z hz with h | ⟨hz0, nm, hl1, hn1⟩
      · exact Or.inl h
      · obtain ⟨c6, hc6, hcl6⟩ := Cond.classLink_spec hown hl1 e.platform hpl
        obtain ⟨a8, b8, h1, h2, h3⟩ := hn1
        cases Option.some.inj (h1.symm.trans hcl)
        cases Option.some.inj (h2.symm.trans hc6)
        exact Or.inr ⟨hz0, _, hcl6, h3⟩) hx (Or.inr ⟨h0, c4, hcl5, hasg⟩)
  obtain ⟨t, a1, b1⟩ := kk (T.setVm vm') hT X'
  exact ⟨t, st.trans a1, b1⟩
end Rows
section Ends
variable {p : Program} {l : Launch} {e : Env} {R : Room} {s : State} {m : MethodId} {args : Array Value} {below : List Frame} {meth : Method} {c : Code} {H : Heap} {locs : List Loc} {cells slots : Nat} {Q : State → Prop}
variable {mc ms : Nat} {free : Addr → Prop} {A0 A1 : Nat → Prop} {H0 : Heap} {a : Array Value} {ls : Array Slot} {st0 rest : List Value}
variable {Qc : Array Value → State → Outcome → State → Prop} {XC : String → State → State → Prop}
/-- what a body that may throw owes at its end -/
def vx_MQ (below : List Frame) (Qc : Array Value → State → Outcome → State → Prop) (XC : String → State → State → Prop) (a : Array Value) (s : State) (mc ms : Nat) (free : Addr → Prop) : State → Prop := fun t =>
  ∃ o, t.status = .running ∧ Ended t below o ∧ vx_Q Qc XC mc ms free a s o t
theorem vx_ret {g : JFrame} {mc ms : Nat} (k : W p l e R s m args below meth c H locs cells slots (MQ below Qc args s mc ms free) g) : W p l e R s m args below meth c H locs cells slots (vx_MQ below Qc XC args s mc ms free) g := by
  intro T hT X
  obtain ⟨t, a1, o, b1, b2, b3, b4⟩ := k T hT X
  exact ⟨t, a1, o, b1, b2, Or.inl ⟨b3, b4⟩⟩
/-- not caught here: it goes on to the caller -/
theorem vx_widen {g : JFrame} {q : Addr} {k n : Nat} (h1 : cells ≤ k) (h2 : slots ≤ n) (kk : vx_W p l e R s m args below meth c H locs k n Q g q) : vx_W p l e R s m args below meth c H locs cells slots Q g q := fun T hT X => kk T hT (stand_widen X h1 h2)
theorem vx_out {pc : Nat} {E : String} {ce : Cell} {q : Addr} {mc ms : Nat} (hout : ∀ x ∈ c.exceptionTable.toList, covers x pc = false) (hlocks : meth.locks = false) (hcell : H[q]? = some ce) (hv : ce.vm = .none) (hcl : s.vm.findClass E = some ce.cls)
    (hx : ∀ t : State, t.heap = H → s.vm.Alike t.vm → XC E s t) (hf : ∀ z ∈ locs, free z.base) (hc : cells ≤ mc) (hs : slots ≤ ms) :
    vx_W p l e R s m args below meth c H locs cells slots (vx_MQ below Qc XC args s mc ms free) (F0 m pc ls rest) q := by
  intro T hT X
  obtain ⟨st1, hrun, hend, hW, hsm⟩ := X.leaveThrown q (g := F0 m pc ls rest) rfl rfl rfl hout hlocks
  have hcell9 : (T.setFrames (.throwing q :: below)).heap[q]? = some ce := by
    show T.heap[q]? = some ce
    rw [hT]; exact hcell
  exact ⟨_, st1, .threw q, hrun, hend, Or.inr ⟨q, rfl, E, ce, locs, hx _ hT hW.alike, hcell9, hv, hcl, hW, hsm.mono hc hs, hf⟩⟩
theorem vx_frame {U : State} {k n : Nat} (h : s.sameButNew ({ U with vm := s.vm } : State) locs k n) : s.heap.size ≤ U.heap.size ∧ ∀ q : Nat, q < s.heap.size → (∀ z ∈ locs, z.base ≠ q) → U.heap[q]? = s.heap[q]? := by
  obtain ⟨-, h2, -, -, -, h6⟩ := h
  refine ⟨h2, fun q hq hz => ?_⟩
  obtain ⟨c9, e1, e2, e3, e4⟩ := h6 q _ (Array.getElem?_eq_getElem hq)
  have hs : c9.slots = (s.heap[q]).slots := Array.ext_getElem? fun i => e4 i fun hm => hz _ hm rfl
  have h9 : c9 = s.heap[q] := by
    rw [hs] at e2
    exact e2
  have e5 : U.heap[q]? = some c9 := e1
  rw [e5, h9, Array.getElem?_eq_getElem hq]
/-- the words of a throw but the four that speak of the heap -/
def vx_no (w : Cond) : Bool := decide (w ≠ .isRef (.static Bundle.tN "UNASSIGNED_STACK" Bundle.steD)) && decide (w ≠ .isRef (.static Bundle.tN "SUPPRESSED_SENTINEL" Bundle.listD)) && decide (w ≠ .laysStatic Bundle.tN "UNASSIGNED_STACK" Bundle.steD) && decide (w ≠ .laysStatic Bundle.tN "SUPPRESSED_SENTINEL" Bundle.listD)
def vx_at0 (own : String) (ic : Nat) (X : String) (names : List String) : List Cond := (Bundle.ownAtoms0 own ic X names).filter vx_no
def vx_atS (own : String) (ic : Nat) (X : String) (names : List String) : List Cond := (Bundle.ownAtoms own ic X names).filter vx_no
/-- a word that the tables alone decide, or a good one -/
def vx_ot (w : Cond) : Bool := w.onTables || goodWord w
theorem vx_ot_at {args a' : Array Value} {s U : State} {w : Cond} (hW : s.WarmedH U.vm) (hvm : s.vm = U.vm) (hg : vx_ot w = true) (h : w.before args s = true) : w.before a' U = true := by
  simp only [vx_ot, Bool.or_eq_true] at hg
  rcases hg with hg | hg
  · exact va_tabs hg hvm h
  · exact word_at hW (good_of_word hg) h
/-- a list's words: the good ones out of the method's own list, the others by premises of their own -/
theorem vx_hat {args : Array Value} {s : State} {L B : List Cond} (h1 : ∀ w ∈ L.filter goodWord, w.before args s = true) (h2 : ∀ w ∈ L.filter (fun w => !goodWord w), w ∈ B) (h3 : ∀ w ∈ B, w.before args s = true) : ∀ w ∈ L, w.before args s = true := by
  intro w hw
  by_cases g : goodWord w = true
  · exact h1 w (List.mem_filter.mpr ⟨hw, g⟩)
  · refine h3 w (h2 w (List.mem_filter.mpr ⟨hw, ?_⟩))
    show (!goodWord w) = true
    cases hgw : goodWord w
    · rfl
    · exact absurd hgw g
theorem vx_c {args : Array Value} {s : State} {w : Cond} {B : List Cond} (h : w.before args s = true) (t : ∀ w ∈ B, w.before args s = true) : ∀ w' ∈ w :: B, w'.before args s = true := fun w' h' => (List.mem_cons.mp h').elim (fun e => by rw [e]; exact h) (t w')
theorem vx_n {args : Array Value} {s : State} : ∀ w ∈ ([] : List Cond), w.before args s = true := fun _ h => nomatch h
theorem vx_own {args : Array Value} {s : State} {L : List Cond} (h1 : ∀ w ∈ L.filter vx_no, w.before args s = true)
    (hU : (Cond.isRef (.static Bundle.tN "UNASSIGNED_STACK" Bundle.steD)).before args s = true) (hN : (Cond.isRef (.static Bundle.tN "SUPPRESSED_SENTINEL" Bundle.listD)).before args s = true)
    (lU : (Cond.laysStatic Bundle.tN "UNASSIGNED_STACK" Bundle.steD).before args s = true) (lN : (Cond.laysStatic Bundle.tN "SUPPRESSED_SENTINEL" Bundle.listD).before args s = true) : ∀ w ∈ L, w.before args s = true := by
  intro w hw
  by_cases e1 : w = .isRef (.static Bundle.tN "UNASSIGNED_STACK" Bundle.steD)
  · rw [e1]; exact hU
  · by_cases e2 : w = .isRef (.static Bundle.tN "SUPPRESSED_SENTINEL" Bundle.listD)
    · rw [e2]; exact hN
    · by_cases e3 : w = .laysStatic Bundle.tN "UNASSIGNED_STACK" Bundle.steD
      · rw [e3]; exact lU
      · by_cases e4 : w = .laysStatic Bundle.tN "SUPPRESSED_SENTINEL" Bundle.listD
        · rw [e4]; exact lN
        · exact h1 w (List.mem_filter.mpr ⟨hw, by unfold vx_no; rw [decide_eq_true e1, decide_eq_true e2, decide_eq_true e3, decide_eq_true e4]; rfl⟩)
/-- where a static field lies, its class's statics cell in H -/
def vx_L (C n d : String) (A : Nat → Prop) (U : State) (H : Heap) : Prop := ∃ (c : ClassId) (k : Class) (i : Nat) (f : Field) (a : Nat) (cell : Cell), U.vm.findClass C = some c ∧ U.fieldFound? C n d = some (c, k, i, f) ∧ f.isStatic = true ∧ k.statics = some a ∧ H[a]? = some cell ∧ cell.vm.isStatics = true ∧ cell.cls = c ∧ f.slot < cell.slots.size ∧ k.staticTypes[f.slot]? = some f.type ∧ ¬ A a
theorem vx_L.moved {C n d : String} {A : Nat → Prop} {u U : State} {H : Heap} (hvm : u.vm.Alike U.vm) (h : vx_L C n d A u H) : vx_L C n d A U H := by
  obtain ⟨c, k, i, f, a, cell, h1, h2, h3, h4, h5, h6, h7, h8, h9, h10⟩ := h
  obtain ⟨k', hi', he⟩ := State.fieldFound?_setVm hvm h2
  exact ⟨c, k', i, f, a, cell, by rw [hvm.findClass]; exact h1, hi', h3, by rw [he]; exact h4, h5, h6, h7, h8, by rw [he]; exact h9, h10⟩
theorem vx_L.kept {C n d : String} {A : Nat → Prop} {U : State} {H H1 : Heap} (h : vx_L C n d A U H) (hq : ∀ a : Nat, a < H.size → ¬ A a → H1[a]? = H[a]?) : vx_L C n d A U H1 := by
  obtain ⟨c, k, i, f, a, cell, h1, h2, h3, h4, h5, h6, h7, h8, h9, h10⟩ := h
  exact ⟨c, k, i, f, a, cell, h1, h2, h3, h4, by rw [hq a (Array.getElem?_eq_some_iff.mp h5).1 h10]; exact h5, h6, h7, h8, h9, h10⟩
theorem vx_L.narrow {C n d : String} {A B : Nat → Prop} {U : State} {H : Heap} (h : vx_L C n d A U H) (hAB : ∀ q, B q → A q) : vx_L C n d B U H := by
  obtain ⟨c, k, i, f, a, cell, h1, h2, h3, h4, h5, h6, h7, h8, h9, h10⟩ := h
  exact ⟨c, k, i, f, a, cell, h1, h2, h3, h4, h5, h6, h7, h8, h9, fun z => h10 (hAB _ z)⟩
theorem vx_L.word {C n d : String} {A : Nat → Prop} {s : State} {args : Array Value} (h : vx_L C n d A s s.heap) : (Cond.laysStatic C n d).before args s = true := by
  obtain ⟨c, k, i, f, a, cell, h1, h2, h3, h4, h5, h6, h7, h8, h9, -⟩ := h
  show (Cond.laysStatic C n d).holds args s none s [] = true
  exact Cond.laysStatic_of h1 h2 h3 h4 h5 h6 h7 h8 h9
/-- .. and what it holds: null or some reference -/
def vx_Zq (C n d : String) (A : Nat → Prop) (U : State) (H : Heap) : Prop := va_Zq C n d A U H ∧ vx_L C n d A U H
theorem vx_Zq.moved {C n d : String} {A : Nat → Prop} {u U : State} {H : Heap} (hvm : u.vm.Alike U.vm) (h : vx_Zq C n d A u H) : vx_Zq C n d A U H := ⟨va_Zq.moved hvm h.1, vx_L.moved hvm h.2⟩
theorem vx_Zq.kept {C n d : String} {A : Nat → Prop} {U : State} {H H1 : Heap} (h : vx_Zq C n d A U H) (hq : ∀ a : Nat, a < H.size → ¬ A a → H1[a]? = H[a]?) : vx_Zq C n d A U H1 := ⟨va_Zq.kept h.1 hq, vx_L.kept h.2 hq⟩
theorem vx_Zq.narrow {C n d : String} {A B : Nat → Prop} {U : State} {H : Heap} (h : vx_Zq C n d A U H) (hAB : ∀ q, B q → A q) : vx_Zq C n d B U H := ⟨va_Zq.narrow h.1 hAB, vx_L.narrow h.2 hAB⟩
theorem vx_Zqof {args : Array Value} {s : State} {C n d : String} {A : Nat → Prop} (hl : (Cond.laysStatic C n d).before args s = true) (hini : (Cond.initialized C).before args s = true) (h : (Cond.isRef (.static C n d)).before args s = true) (hA : ∀ a : Nat, a < s.heap.size → ¬ A a) : vx_Zq C n d A s s.heap := by
  refine ⟨va_Zqof hl hini h hA, ?_⟩
  obtain ⟨c, k, i, f, a, cell, h1, h2, h3, h4, h5, h6, h7, h8, h9⟩ := Cond.laysStatic_spec hl
  exact ⟨c, k, i, f, a, cell, h1, h2, h3, h4, h5, h6, h7, h8, h9, hA a (Array.getElem?_eq_some_iff.mp h5).1⟩
theorem vx_isRef {C n d : String} {v : Value} {A : Nat → Prop} {s : State} {args : Array Value} (h : va_Z C n d v A s s.heap) (hv : v.isRef = true) : (Cond.isRef (.static C n d)).before args s = true := by
  obtain ⟨cf, kf, fi, f, a, cell, h1, h2, h3, h4, h5, h6, h7, -⟩ := h
  have he : (Term.static C n d).eval args s none [] s = some v := by
    simp [Term.eval, State.fieldNamed?, h1, h2, h4, h5, h6, h7]
  simp only [Cond.before, Cond.holds, Cond.value, he]
  cases v <;> simp_all [Value.isRef]
theorem vx_isRefq {C n d : String} {A : Nat → Prop} {s : State} {args : Array Value} (h : va_Zq C n d A s s.heap) : (Cond.isRef (.static C n d)).before args s = true := by
  rcases h with h | ⟨t, h⟩
  · exact vx_isRef h rfl
  · exact vx_isRef h rfl
/-- the same frame, seen from here: as if the method were called anew in this heap -/
theorem vx_rebase {T : State} (X : Stand p l e R s m args below meth c T locs cells slots) {R' : Room} (hf : R'.frames ≤ R.frames) (hl : R'.locals ≤ R.locals) (hc : cells + R'.cells ≤ R.cells) (hs : slots + R'.slots ≤ R.slots) :
    Stand p l e R' ((T.setVm s.vm).setFrames (.invoking m args :: below)) m args below meth c T [] 0 0 := by
  have htop : (T.setVm s.vm).topJava?.isSome := X.here.top
  have hF : ((T.setVm s.vm).setFrames (.invoking m args :: below)).frames = .invoking m args :: below := State.frames_setFrames _ (State.cur_lt_of_top htop)
  obtain ⟨g₀, hg0⟩ := Option.isSome_iff_exists.mp htop
  obtain ⟨r, hr⟩ := State.topJava?_eq_some.mp hg0
  have hl9 : e.platform.stackLimits (T.setVm s.vm).me = e.platform.stackLimits s.me := X.limits
  have hb9 : (T.setVm s.vm).me.stackBytes = s.me.stackBytes := X.bytes
  refine ⟨X.admits, X.cas, X.clock, hF, ?_, X.hears, X.method, X.code, X.here, X.tail, X.warmed, ?_, ?_, ?_⟩
  · have h := X.room
    have hU : ((T.setVm s.vm).setFrames (.invoking m args :: below)).localsInUse = s.localsInUse := by
      rw [State.localsInUse_invoking hF (meth := meth) (c := c) X.method X.code, State.localsInUse_invoking X.frames X.method X.code]
    simp only [State.hasRoom, Bool.and_eq_true, decide_eq_true_eq] at h ⊢
    obtain ⟨⟨⟨⟨h1, h2, h3, h4, h5, h6⟩, h7⟩, h8⟩, h9⟩ := h
    rw [X.frames, List.length_cons] at h2 h3
    have q1 := X.heapSize
    have q2 := X.used
    simp only [hF, hU, List.length_cons, State.stackLimits_setFrames, State.stackBytes_setFrames, hl9, hb9]
    refine ⟨⟨⟨⟨by omega, by omega, by omega, by omega, by omega, h6⟩, ?_⟩, ?_⟩, X.book⟩
    · show T.heap.size + R'.cells ≤ e.platform.maxCells
      omega
    · show T.slotsUsed + R'.slots ≤ e.platform.maxSlots
      omega
  · rw [State.stackLimits_setFrames]; rfl
  · rw [State.stackBytes_setFrames]; rfl
  · refine ⟨?_, Nat.le_refl _, Nat.le_refl _, ?_, ?_, fun a c9 h9 => ⟨c9, h9, rfl, rfl, fun _ _ => rfl⟩⟩
    · obtain ⟨t, ht, -⟩ := State.frames_cons hr
      show T.setVm s.vm = { ((T.setVm s.vm).setFrames (.invoking m args :: below)).setFrames (T.setVm s.vm).frames with heap := T.heap, slotsUsed := T.slotsUsed }
      rw [State.setFrames_setFrames, State.setFrames_self ht]
      rfl
    · show T.slotsUsed = T.slotsUsed + ((T.heap.toList.drop T.heap.size).map (·.slots.size)).sum
      rw [List.drop_eq_nil_of_le (Nat.le_of_eq Array.length_toList)]
      rfl
    · show ((T.heap.toList.drop T.heap.size).map (·.slots.size)).sum ≤ 0
      rw [List.drop_eq_nil_of_le (Nat.le_of_eq Array.length_toList)]
      exact Nat.le_refl _
/-- 'throw new E()': new; dup; invokespecial; athrow -/
theorem vx_throw0 {cc : ByteArray} {pc : Nat} (hexec : p.tables.exec = Jvm.exec) (hb : c.code = cc) (hl : l.stackTraces = false) {own cls : String} {names : List String} {ik ic mc ms : Nat} {A : Nat → Prop}
    (hown : s.vm.findClass own = some m.cls) (hcls : Bundle.fit cls = true) (hnames : ∀ n ∈ names, Bundle.fit n = true)
    (hk : (Cond.classLink own ik cls).before args s = true) (hini : (Cond.initialized cls).before args s = true) (hat : ∀ w ∈ vx_at0 own ic cls names, w.before args s = true)
    (hgood : ∀ w ∈ Cond.classLink own ik cls :: Cond.initialized cls :: vx_at0 own ic cls names, vx_ot w = true)
    (hU : vx_Zq Bundle.tN "UNASSIGNED_STACK" Bundle.steD A s s.heap) (hN : vx_Zq Bundle.tN "SUPPRESSED_SENTINEL" Bundle.listD A s s.heap) (hS : va_S A s.heap H locs) (hsize : ls.size = c.maxLocals)
    (d0 : decode cc pc = .ok (.new ik, 3)) (d3 : decode cc (pc + 3) = .ok (.dup, 1)) (d4 : decode cc (pc + 4) = .ok (.invokespecial ic, 3)) (d7 : decode cc (pc + 7) = .ok (.athrow, 1))
    (hout : ∀ x ∈ c.exceptionTable.toList, covers x (pc + 7) = false)
    (hRframes : names.length + 3 < R.frames) (hRlocals : (rest.map fun v => v.category).sum + (13 * (names.length + 1) + 42) ≤ R.locals) (hRcells : cells + 1 ≤ R.cells) (hRslots : slots + 6 ≤ R.slots) (hlocks : meth.locks = false)
    (hx : ∀ t : State, s.vm.Alike t.vm → H.size ≤ t.heap.size → (∀ q : Nat, q < H.size → t.heap[q]? = H[q]?) → XC cls s t)
    (hf : ∀ z ∈ locs, free z.base) (hc : cells + 1 ≤ mc) (hs : slots + 6 ≤ ms) :
    W p l e R s m args below meth c H locs cells slots (vx_MQ below Qc XC args s mc ms free) (F0 m pc ls rest) := by
  intro T hT X
  have htr : e.platform.stackTraces = false := (show e.platform.stackTraces = l.stackTraces by rw [X.admits.platform]).trans hl
  have Y := vx_rebase X (R' := { frames := R.frames, locals := R.locals, cells := 1, slots := 6 }) (Nat.le_refl _) (Nat.le_refl _) hRcells hRslots
  obtain ⟨s', hA⟩ : ∃ z, z = (T.setVm s.vm).setFrames (.invoking m args :: below) := ⟨_, rfl⟩
  rw [← hA] at Y
  have hvm : s'.vm = s.vm := by rw [hA]; rfl
  have hhp : s'.heap = H := by rw [hA]; exact hT
  have hW0 : s.WarmedH s'.vm := by rw [hvm]; exact State.WarmedH.refl s
  have hat' : ∀ w ∈ vx_at0 own ic cls names, w.before args s' = true := fun w hw => vx_ot_at hW0 hvm.symm (hgood w (List.mem_cons_of_mem _ (List.mem_cons_of_mem _ hw))) (hat w hw)
  have hk' : (Cond.classLink own ik cls).before args s' = true := vx_ot_at hW0 hvm.symm (hgood _ List.mem_cons_self) hk
  have hini' : (Cond.initialized cls).before args s' = true := vx_ot_at hW0 hvm.symm (hgood _ (List.mem_cons_of_mem _ List.mem_cons_self)) hini
  have hU' : vx_Zq Bundle.tN "UNASSIGNED_STACK" Bundle.steD A s' s'.heap := by rw [hhp]; exact vx_Zq.moved hW0.alike (hU.kept hS.2.1)
  have hN' : vx_Zq Bundle.tN "SUPPRESSED_SENTINEL" Bundle.listD A s' s'.heap := by rw [hhp]; exact vx_Zq.moved hW0.alike (hN.kept hS.2.1)
  have h : ∀ w ∈ Bundle.ownAtoms0 own ic cls names, w.before args s' = true := vx_own hat' (vx_isRefq hU'.1) (vx_isRefq hN'.1) hU'.2.word hN'.2.word
  have hown' : s'.vm.findClass own = some m.cls := by rw [hvm]; exact hown
  have hins : (Cond.instantiable cls 6).before args s' = true := h _ (by simp [Bundle.ownAtoms0])
  obtain ⟨vm₁, cX, kX, hfX, hkX, -, -, X₁, st1⟩ := Y.newCold hexec (own := own) (C := cls) (index := ik) (n := 6) hown' hk' hins hini'
    (g := F0 m pc ls rest) rfl (by rw [hb]; exact d0) (Nat.le_refl _) (Nat.le_refl _)
  generalize hT1 : (T.setVm vm₁).pushCell { cls := cX, slots := kX.instanceTypes.map defaultValue, vm := .none } = T1 at X₁ st1
  have hcat : (Value.ref T.heap.size).category = 1 := rfl
  have hcellA : T1.heap[T.heap.size]? = some (freshCell cX kX) := by rw [← hT1]; exact State.heap_pushCell_size _ _
  have d3' : decode c.code (pc + 3) = .ok (.dup, 1) := by rw [hb]; exact d3
  obtain ⟨U, hsteps, hrun, hend, hW, hsame, ce, hce, hO⟩ := X₁.ctorThrow0 hexec htr (own := own) (cls := cls) (names := names) (ic := ic) hown' hcls hnames h (fun x hx => nomatch hx) hfX hkX hcellA (by rw [hhp, hT]; exact Nat.le_refl _)
    (g := { method := m, pc := pc + 4, locals := ls, stack := .ref T.heap.size :: .ref T.heap.size :: rest, locked := none }) rfl hsize rfl rfl (rest := rest) rfl
    (by rw [hb]; exact d4) (by rw [hb]; exact d7) hout hRframes (by simp only [List.map_cons, List.sum_cons, hcat]; omega) hlocks
  obtain ⟨f1, f2⟩ := vx_frame hsame
  rw [hhp] at f1 f2
  have hWs : s.WarmedH U.vm := State.WarmedH.trans hW0 hW
  have hcl : s.vm.findClass cls = some ce.cls := by
    have h9 := hO.cls
    rw [hvm] at h9
    exact h9
  have hall : s.sameButNew ({ U with vm := s.vm } : State) locs mc ms := by
    subst hA
    obtain ⟨e1, e2⟩ := hsame
    rw [State.setFrames_setFrames] at e1
    have h2 : (T.setVm s.vm).sameButNew ({ U with vm := s.vm } : State) [] (0 + 1) (0 + 6) := ⟨e1, e2⟩
    have h3 := X.same.trans h2
    rw [List.append_nil] at h3
    exact h3.mono hc hs
  refine ⟨U, ?_, .threw T.heap.size, hrun, hend, Or.inr ⟨T.heap.size, rfl, cls, ce, locs, hx U hWs.alike f1 (fun q hq => f2 q hq (fun z hz => nomatch hz)), hce, hO.vm, hcl, hWs, hall, hf⟩⟩
  refine st1 _ ?_
  show Steps p.tables e below (T1.setTop { method := m, pc := pc + 3, locals := ls, stack := .ref T.heap.size :: rest, locked := none }) _
  jvm_step X₁.here [X₁.here.top, hexec, d3', Value.category]
  exact hsteps
/-- 'throw new E("text")': new; dup; ldc; invokespecial; athrow -/
theorem vx_throwS {cc : ByteArray} {pc : Nat} (hexec : p.tables.exec = Jvm.exec) (hb : c.code = cc) (hl : l.stackTraces = false) {own cls text : String} {names : List String} {ik is ic mc ms sa : Nat} {A : Nat → Prop}
    (hown : s.vm.findClass own = some m.cls) (hcls : Bundle.fit cls = true) (hnames : ∀ n ∈ names, Bundle.fit n = true)
    (hk : (Cond.classLink own ik cls).before args s = true) (hini : (Cond.initialized cls).before args s = true) (hstr : vk_R own is text sa s) (hat : ∀ w ∈ vx_atS own ic cls names, w.before args s = true)
    (hgood : ∀ w ∈ Cond.classLink own ik cls :: Cond.initialized cls :: vx_atS own ic cls names, vx_ot w = true)
    (hU : vx_Zq Bundle.tN "UNASSIGNED_STACK" Bundle.steD A s s.heap) (hN : vx_Zq Bundle.tN "SUPPRESSED_SENTINEL" Bundle.listD A s s.heap) (hS : va_S A s.heap H locs) (hsize : ls.size = c.maxLocals)
    (d0 : decode cc pc = .ok (.new ik, 3)) (d3 : decode cc (pc + 3) = .ok (.dup, 1)) (d4 : decode cc (pc + 4) = .ok (.ldc is, 2)) (d6 : decode cc (pc + 6) = .ok (.invokespecial ic, 3)) (d9 : decode cc (pc + 9) = .ok (.athrow, 1))
    (hout : ∀ x ∈ c.exceptionTable.toList, covers x (pc + 9) = false)
    (hRframes : names.length + 3 < R.frames) (hRlocals : (rest.map fun v => v.category).sum + (13 * (names.length + 1) + 43) ≤ R.locals) (hRcells : cells + 1 ≤ R.cells) (hRslots : slots + 6 ≤ R.slots) (hlocks : meth.locks = false)
    (hx : ∀ t : State, s.vm.Alike t.vm → H.size ≤ t.heap.size → (∀ q : Nat, q < H.size → t.heap[q]? = H[q]?) → XC cls s t)
    (hf : ∀ z ∈ locs, free z.base) (hc : cells + 1 ≤ mc) (hs : slots + 6 ≤ ms) :
    W p l e R s m args below meth c H locs cells slots (vx_MQ below Qc XC args s mc ms free) (F0 m pc ls rest) := by
  intro T hT X
  have htr : e.platform.stackTraces = false := (show e.platform.stackTraces = l.stackTraces by rw [X.admits.platform]).trans hl
  have Y := vx_rebase X (R' := { frames := R.frames, locals := R.locals, cells := 1, slots := 6 }) (Nat.le_refl _) (Nat.le_refl _) hRcells hRslots
  obtain ⟨s', hA⟩ : ∃ z, z = (T.setVm s.vm).setFrames (.invoking m args :: below) := ⟨_, rfl⟩
  rw [← hA] at Y
  have hvm : s'.vm = s.vm := by rw [hA]; rfl
  have hhp : s'.heap = H := by rw [hA]; exact hT
  have hW0 : s.WarmedH s'.vm := by rw [hvm]; exact State.WarmedH.refl s
  have hat' : ∀ w ∈ vx_atS own ic cls names, w.before args s' = true := fun w hw => vx_ot_at hW0 hvm.symm (hgood w (List.mem_cons_of_mem _ (List.mem_cons_of_mem _ hw))) (hat w hw)
  have hk' : (Cond.classLink own ik cls).before args s' = true := vx_ot_at hW0 hvm.symm (hgood _ List.mem_cons_self) hk
  have hini' : (Cond.initialized cls).before args s' = true := vx_ot_at hW0 hvm.symm (hgood _ (List.mem_cons_of_mem _ List.mem_cons_self)) hini
  have hU' : vx_Zq Bundle.tN "UNASSIGNED_STACK" Bundle.steD A s' s'.heap := by rw [hhp]; exact vx_Zq.moved hW0.alike (hU.kept hS.2.1)
  have hN' : vx_Zq Bundle.tN "SUPPRESSED_SENTINEL" Bundle.listD A s' s'.heap := by rw [hhp]; exact vx_Zq.moved hW0.alike (hN.kept hS.2.1)
  have h : ∀ w ∈ Bundle.ownAtoms own ic cls names, w.before args s' = true := vx_own hat' (vx_isRefq hU'.1) (vx_isRefq hN'.1) hU'.2.word hN'.2.word
  have hown' : s'.vm.findClass own = some m.cls := by rw [hvm]; exact hown
  have hins : (Cond.instantiable cls 6).before args s' = true := h _ (by simp [Bundle.ownAtoms])
  obtain ⟨vm₁, cX, kX, hfX, hkX, -, -, X₁, st1⟩ := Y.newCold hexec (own := own) (C := cls) (index := ik) (n := 6) hown' hk' hins hini'
    (g := F0 m pc ls rest) rfl (by rw [hb]; exact d0) (Nat.le_refl _) (Nat.le_refl _)
  generalize hT1 : (T.setVm vm₁).pushCell { cls := cX, slots := kX.instanceTypes.map defaultValue, vm := .none } = T1 at X₁ st1
  have hcat : (Value.ref T.heap.size).category = 1 := rfl
  have hcellA : T1.heap[T.heap.size]? = some (freshCell cX kX) := by rw [← hT1]; exact State.heap_pushCell_size _ _
  have d3' : decode c.code (pc + 3) = .ok (.dup, 1) := by rw [hb]; exact d3
  have d4' : decode c.code (pc + 4) = .ok (.ldc is, 2) := by rw [hb]; exact d4
  have hstr' : vk_R own is text sa s' := vk_R.warm hW0 hstr
  obtain ⟨U, hsteps, hrun, hend, hW, hsame, ce, hce, hO⟩ := X₁.ctorThrowS hexec htr (own := own) (cls := cls) (names := names) (ic := ic) hown' hcls hnames h (fun x hx => nomatch hx) hfX hkX hcellA (by rw [hhp, hT]; exact Nat.le_refl _) (msg := .ref sa) rfl
    (g := { method := m, pc := pc + 6, locals := ls, stack := .ref sa :: .ref T.heap.size :: .ref T.heap.size :: rest, locked := none }) rfl hsize rfl rfl (rest := rest) rfl
    (by rw [hb]; exact d6) (by rw [hb]; exact d9) hout hRframes (by simp only [List.map_cons, List.sum_cons, hcat]; omega) hlocks
  obtain ⟨f1, f2⟩ := vx_frame hsame
  rw [hhp] at f1 f2
  have hWs : s.WarmedH U.vm := State.WarmedH.trans hW0 hW
  have hcl : s.vm.findClass cls = some ce.cls := by
    have h9 := hO.cls
    rw [hvm] at h9
    exact h9
  have hall : s.sameButNew ({ U with vm := s.vm } : State) locs mc ms := by
    subst hA
    obtain ⟨e1, e2⟩ := hsame
    rw [State.setFrames_setFrames] at e1
    have h2 : (T.setVm s.vm).sameButNew ({ U with vm := s.vm } : State) [] (0 + 1) (0 + 6) := ⟨e1, e2⟩
    have h3 := X.same.trans h2
    rw [List.append_nil] at h3
    exact h3.mono hc hs
  refine ⟨U, ?_, .threw T.heap.size, hrun, hend, Or.inr ⟨T.heap.size, rfl, cls, ce, locs, hx U hWs.alike f1 (fun q hq => f2 q hq (fun z hz => nomatch hz)), hce, hO.vm, hcl, hWs, hall, hf⟩⟩
  refine st1 _ ?_
  show Steps p.tables e below (T1.setTop { method := m, pc := pc + 3, locals := ls, stack := .ref T.heap.size :: rest, locked := none }) _
  jvm_step X₁.here [X₁.here.top, hexec, d3', Value.category]
  exact X₁.ldcString hexec (own := own) (text := text) (index := is) (a := sa) hown' hstr'.1 hstr'.2
    (g := { method := m, pc := pc + 4, locals := ls, stack := .ref T.heap.size :: .ref T.heap.size :: rest, locked := none }) rfl d4' _ hsteps
/-- 'throw new E("text")', the text by a wide index -/
theorem vx_throwSW {cc : ByteArray} {pc : Nat} (hexec : p.tables.exec = Jvm.exec) (hb : c.code = cc) (hl : l.stackTraces = false) {own cls text : String} {names : List String} {ik is ic mc ms sa : Nat} {A : Nat → Prop}
    (hown : s.vm.findClass own = some m.cls) (hcls : Bundle.fit cls = true) (hnames : ∀ n ∈ names, Bundle.fit n = true)
    (hk : (Cond.classLink own ik cls).before args s = true) (hini : (Cond.initialized cls).before args s = true) (hstr : vk_R own is text sa s) (hat : ∀ w ∈ vx_atS own ic cls names, w.before args s = true)
    (hgood : ∀ w ∈ Cond.classLink own ik cls :: Cond.initialized cls :: vx_atS own ic cls names, vx_ot w = true)
    (hU : vx_Zq Bundle.tN "UNASSIGNED_STACK" Bundle.steD A s s.heap) (hN : vx_Zq Bundle.tN "SUPPRESSED_SENTINEL" Bundle.listD A s s.heap) (hS : va_S A s.heap H locs) (hsize : ls.size = c.maxLocals)
    (d0 : decode cc pc = .ok (.new ik, 3)) (d3 : decode cc (pc + 3) = .ok (.dup, 1)) (d4 : decode cc (pc + 4) = .ok (.ldc_w is, 3)) (d7 : decode cc (pc + 7) = .ok (.invokespecial ic, 3)) (d10 : decode cc (pc + 10) = .ok (.athrow, 1))
    (hout : ∀ x ∈ c.exceptionTable.toList, covers x (pc + 10) = false)
    (hRframes : names.length + 3 < R.frames) (hRlocals : (rest.map fun v => v.category).sum + (13 * (names.length + 1) + 43) ≤ R.locals) (hRcells : cells + 1 ≤ R.cells) (hRslots : slots + 6 ≤ R.slots) (hlocks : meth.locks = false)
    (hx : ∀ t : State, s.vm.Alike t.vm → H.size ≤ t.heap.size → (∀ q : Nat, q < H.size → t.heap[q]? = H[q]?) → XC cls s t)
    (hf : ∀ z ∈ locs, free z.base) (hc : cells + 1 ≤ mc) (hs : slots + 6 ≤ ms) :
    W p l e R s m args below meth c H locs cells slots (vx_MQ below Qc XC args s mc ms free) (F0 m pc ls rest) := by
  intro T hT X
  have htr : e.platform.stackTraces = false := (show e.platform.stackTraces = l.stackTraces by rw [X.admits.platform]).trans hl
  have Y := vx_rebase X (R' := { frames := R.frames, locals := R.locals, cells := 1, slots := 6 }) (Nat.le_refl _) (Nat.le_refl _) hRcells hRslots
  obtain ⟨s', hA⟩ : ∃ z, z = (T.setVm s.vm).setFrames (.invoking m args :: below) := ⟨_, rfl⟩
  rw [← hA] at Y
  have hvm : s'.vm = s.vm := by rw [hA]; rfl
  have hhp : s'.heap = H := by rw [hA]; exact hT
  have hW0 : s.WarmedH s'.vm := by rw [hvm]; exact State.WarmedH.refl s
  have hat' : ∀ w ∈ vx_atS own ic cls names, w.before args s' = true := fun w hw => vx_ot_at hW0 hvm.symm (hgood w (List.mem_cons_of_mem _ (List.mem_cons_of_mem _ hw))) (hat w hw)
  have hk' : (Cond.classLink own ik cls).before args s' = true := vx_ot_at hW0 hvm.symm (hgood _ List.mem_cons_self) hk
  have hini' : (Cond.initialized cls).before args s' = true := vx_ot_at hW0 hvm.symm (hgood _ (List.mem_cons_of_mem _ List.mem_cons_self)) hini
  have hU' : vx_Zq Bundle.tN "UNASSIGNED_STACK" Bundle.steD A s' s'.heap := by rw [hhp]; exact vx_Zq.moved hW0.alike (hU.kept hS.2.1)
  have hN' : vx_Zq Bundle.tN "SUPPRESSED_SENTINEL" Bundle.listD A s' s'.heap := by rw [hhp]; exact vx_Zq.moved hW0.alike (hN.kept hS.2.1)
  have h : ∀ w ∈ Bundle.ownAtoms own ic cls names, w.before args s' = true := vx_own hat' (vx_isRefq hU'.1) (vx_isRefq hN'.1) hU'.2.word hN'.2.word
  have hown' : s'.vm.findClass own = some m.cls := by rw [hvm]; exact hown
  have hins : (Cond.instantiable cls 6).before args s' = true := h _ (by simp [Bundle.ownAtoms])
  obtain ⟨vm₁, cX, kX, hfX, hkX, -, -, X₁, st1⟩ := Y.newCold hexec (own := own) (C := cls) (index := ik) (n := 6) hown' hk' hins hini'
    (g := F0 m pc ls rest) rfl (by rw [hb]; exact d0) (Nat.le_refl _) (Nat.le_refl _)
  generalize hT1 : (T.setVm vm₁).pushCell { cls := cX, slots := kX.instanceTypes.map defaultValue, vm := .none } = T1 at X₁ st1
  have hcat : (Value.ref T.heap.size).category = 1 := rfl
  have hcellA : T1.heap[T.heap.size]? = some (freshCell cX kX) := by rw [← hT1]; exact State.heap_pushCell_size _ _
  have d3' : decode c.code (pc + 3) = .ok (.dup, 1) := by rw [hb]; exact d3
  have d4' : decode c.code (pc + 4) = .ok (.ldc_w is, 3) := by rw [hb]; exact d4
  have hstr' : vk_R own is text sa s' := vk_R.warm hW0 hstr
  obtain ⟨U, hsteps, hrun, hend, hW, hsame, ce, hce, hO⟩ := X₁.ctorThrowS hexec htr (own := own) (cls := cls) (names := names) (ic := ic) hown' hcls hnames h (fun x hx => nomatch hx) hfX hkX hcellA (by rw [hhp, hT]; exact Nat.le_refl _) (msg := .ref sa) rfl
    (g := { method := m, pc := pc + 7, locals := ls, stack := .ref sa :: .ref T.heap.size :: .ref T.heap.size :: rest, locked := none }) rfl hsize rfl rfl (rest := rest) rfl
    (by rw [hb]; exact d7) (by rw [hb]; exact d10) hout hRframes (by simp only [List.map_cons, List.sum_cons, hcat]; omega) hlocks
  obtain ⟨f1, f2⟩ := vx_frame hsame
  rw [hhp] at f1 f2
  have hWs : s.WarmedH U.vm := State.WarmedH.trans hW0 hW
  have hcl : s.vm.findClass cls = some ce.cls := by
    have h9 := hO.cls
    rw [hvm] at h9
    exact h9
  have hall : s.sameButNew ({ U with vm := s.vm } : State) locs mc ms := by
    subst hA
    obtain ⟨e1, e2⟩ := hsame
    rw [State.setFrames_setFrames] at e1
    have h2 : (T.setVm s.vm).sameButNew ({ U with vm := s.vm } : State) [] (0 + 1) (0 + 6) := ⟨e1, e2⟩
    have h3 := X.same.trans h2
    rw [List.append_nil] at h3
    exact h3.mono hc hs
  refine ⟨U, ?_, .threw T.heap.size, hrun, hend, Or.inr ⟨T.heap.size, rfl, cls, ce, locs, hx U hWs.alike f1 (fun q hq => f2 q hq (fun z hz => nomatch hz)), hce, hO.vm, hcl, hWs, hall, hf⟩⟩
  refine st1 _ ?_
  show Steps p.tables e below (T1.setTop { method := m, pc := pc + 3, locals := ls, stack := .ref T.heap.size :: rest, locked := none }) _
  jvm_step X₁.here [X₁.here.top, hexec, d3', Value.category]
  exact X₁.ldcStringW hexec (own := own) (text := text) (index := is) (a := sa) hown' hstr'.1 hstr'.2
    (g := { method := m, pc := pc + 4, locals := ls, stack := .ref T.heap.size :: .ref T.heap.size :: rest, locked := none }) rfl d4' _ hsteps
end Ends
section Bodies
variable {l : Launch}
theorem vx_ofW {y : MethodName} {ws ws' : List Cond} {rm : Room} {Pc : Array Value → State → Prop} {Qc : Array Value → State → Outcome → State → Prop} {XC : String → State → State → Prop} {mc ms : Nat} {free : Addr → Prop} {cc : ByteArray} {maxL : Nat} {ret : Option FieldType}
    (hy : plainName y.cls = true) (hw : ws = Cond.code y cc maxL ret :: ws')
    (body : ∀ p e s m args below meth c s₁, BodyLoose p l y (headSpec ws rm) cc maxL ret e s m args below meth c s₁ → c.maxLocals = maxL → (∀ x ∈ c.exceptionTable.toList, False) → Pc args s →
      W p l e (headSpec ws rm).room s m args below meth c s.heap [] 0 0 (vx_MQ below Qc XC args s mc ms free) (entryFrame m args maxL)) : vx_Met l y ws rm Pc Qc XC mc ms free := by
  refine MetFree.of_bodyS (code := cc) (maxLocals := maxL) (ret := ret) hy ?_ ?_
  · intro args s m h hn
    obtain ⟨meth, c, h1, h2, h3, h4, h5, h6, -, -⟩ := Cond.code_spec hn (atoms_spec (ws := ws) h _ (by rw [hw]; exact List.mem_cons_self))
    exact ⟨meth, c, h1, h2, h3, h4, h5, h6⟩
  · intro p e s m args below meth c s₁ B hml hP _
    have hh0 : s₁.heap = s.heap := by rw [B.state]; rfl
    have ht : ∀ x ∈ c.exceptionTable.toList, False := by
      obtain ⟨meth9, c9, h1, h2, -, -, -, -, h7, -⟩ := Cond.code_spec B.named (atoms_spec (ws := ws) B.pre _ (by rw [hw]; exact List.mem_cons_self))
      cases Option.some.inj (h1.symm.trans B.method)
      cases Option.some.inj (h2.symm.trans (Stand.of_body B).code)
      intro x hx
      rw [Array.isEmpty_iff.mp h7] at hx
      cases hx
    obtain ⟨t, a1, o, b1, b2, b3⟩ := body p e s m args below meth c s₁ B hml ht hP s₁ hh0 (Stand.of_body B)
    exact ⟨t, o, a1, b1, b2, b3⟩
/-- the table of a body with handlers -/
theorem vx_table {p : Program} {x y : MethodName} {S : Spec} {cc bytes : ByteArray} {maxL maxL' : Nat} {ret ret' : Option FieldType} {e : Env} {s s₁ : State} {m : MethodId} {args : Array Value} {below : List Frame} {meth : Method} {c : Code} {hh : List (Nat × Nat × Nat × Nat)}
    (B : BodyLoose p l y S cc maxL ret e s m args below meth c s₁) (h : (Cond.codeWith y bytes maxL' ret' hh).before args s = true) : c.exceptionTable.toList = tableOf hh := by
  obtain ⟨m9, meth9, c9, hn9, h1, h2, -, -, h6, -⟩ := Cond.codeWith_spec h
  cases Option.some.inj (hn9.symm.trans B.named)
  cases Option.some.inj (h1.symm.trans B.method)
  cases Option.some.inj (h2.symm.trans (Stand.of_body B).code)
  rw [← h6, table_eq]
end Bodies
end VXA
/-! ===== END ===== -/
/-! ===== BEGIN a static call of a method with an exception table ===== -/
section VXS
variable {p : Program} {l : Launch} {e : Env} {R : Room} {s : State} {m : MethodId} {args : Array Value} {below : List Frame} {meth : Method} {c : Code} {T : State} {H : Heap} {locs : List Loc} {cells slots : Nat}
abbrev vx_CSW (R : Room) (s : State) (args : Array Value) (own : String) (index : Nat) (y : MethodName) (bytes : ByteArray) (maxL : Nat) (ret : Option FieldType) (hh : List (Nat × Nat × Nat × Nat)) (ws : List Cond) (rm : Room) (mc ms n : Nat) : Prop :=
  (rm.cells = mc ∧ rm.slots = ms ∧ rm.frames + 1 ≤ R.frames ∧ 8 + (maxL + 11) + rm.locals ≤ R.locals ∧ (∀ w ∈ ws, ∀ (a' : Array Value) (U : State), s.WarmedH U.vm → w.before a' U = true) ∧ Cond.codeWith y bytes maxL ret hh ∈ ws) ∧
  (Cond.codeWith y bytes maxL ret hh).before args s = true ∧ (Cond.initialized y.cls).before args s = true ∧ (y.cls ≠ "java/lang/invoke/MethodHandle" ∧ y.cls ≠ "java/lang/invoke/VarHandle") ∧
  (∀ sig, parseMethodDescriptor y.desc = some sig → n = sig.parameters.length) ∧ (Cond.methodLink own index y).before args s = true ∧ (Cond.static y).before args s = true
theorem vx_cwSW {own : String} {index maxL mc ms : Nat} {y : MethodName} {bytes : ByteArray} {ret : Option FieldType} {hh : List (Nat × Nat × Nat × Nat)} {Ts ws ws' : List Cond} {rm : Room} (n : Nat) (ht : ∀ w ∈ Ts, w.before args s = true) (hT : GoodIn Ts (va_wsS own index y ws)) (hw : ws = Cond.codeWith y bytes maxL ret hh :: ws') (hrc : rm.cells = mc) (hrs : rm.slots = ms)
    (hd : y.cls ≠ "java/lang/invoke/MethodHandle" ∧ y.cls ≠ "java/lang/invoke/VarHandle" ∧ (parseMethodDescriptor y.desc).map (fun d => d.parameters.length) = some n) (hR : rm.frames + 1 ≤ R.frames ∧ 8 + (maxL + 11) + rm.locals ≤ R.locals) :
    vx_CSW R s args own index y bytes maxL ret hh ws rm mc ms n := by
  have ok : ∀ w ∈ va_wsS own index y ws, w.before args s = true := fun w h => ht w (hT w h).1
  have hG : GoodIn Ts ws := fun w h => hT w (by unfold va_wsS; exact List.mem_append_right _ h)
  have hc : Cond.codeWith y bytes maxL ret hh ∈ ws := by rw [hw]; exact List.mem_cons_self
  refine ⟨⟨hrc, hrs, hR.1, hR.2, pay_in ht hG, hc⟩, ht _ (hG _ hc).1, ok _ (by simp [va_wsS]), ⟨hd.1, hd.2.1⟩, fun sig h => ?_, ok _ (by simp [va_wsS]), ok _ (by simp [va_wsS])⟩
  have h2 := hd.2.2
  rw [h] at h2
  exact (Option.some.inj h2).symm
theorem vx_callSW (X : Stand p l e R s m args below meth c T locs cells slots) (hexec : p.tables.exec = Jvm.exec) {own : String} {index : Nat} {y : MethodName} {bytes : ByteArray} {maxL : Nat} {ret : Option FieldType} {hh : List (Nat × Nat × Nat × Nat)}
    (hown : s.vm.findClass own = some m.cls) (hlink : (Cond.methodLink own index y).before args s = true) (hstat : (Cond.static y).before args s = true) (hinit : (Cond.initialized y.cls).before args s = true)
    (hcode : (Cond.codeWith y bytes maxL ret hh).before args s = true) (hy : y.cls ≠ "java/lang/invoke/MethodHandle" ∧ y.cls ≠ "java/lang/invoke/VarHandle")
    {W9 : Nat} {Pre : Pt → Array Value → Prop} {Post : Pt → Array Value → Option Value → Pt → Prop} (hK : Back l R p e below s args y 3 W9 Pre Post)
    {g : JFrame} (hg : g.method = m) (hsize : g.locals.size = c.maxLocals) {argsL rest : List Value} (hlen : ∀ sig, parseMethodDescriptor y.desc = some sig → argsL.length = sig.parameters.length)
    (hstack : g.stack = argsL.reverse ++ rest) (hW : 2 * g.monitorRoom + (rest.map fun v => v.category).sum ≤ W9) (hdg : decode c.code g.pc = .ok (.invokestatic index, 3))
    (hpre : ∀ vm₁, s.WarmedH vm₁ → Pre ⟨T.setVm vm₁, locs, cells, slots⟩ argsL.toArray) :
    ∃ (v : Option Value) (vm₁ : Vm) (B : Pt), s.WarmedH vm₁ ∧ Stand p l e R s m args below meth c B.U B.locs B.cells B.slots ∧ Post ⟨T.setVm vm₁, locs, cells, slots⟩ argsL.toArray v B ∧
      ∀ target, Steps p.tables e below (B.U.setTop { g with pc := g.pc + 3, stack := v.toList ++ rest }) target → Steps p.tables e below (T.setTop g) target := by
  obtain ⟨mk, methM, cM, hnamed, hmethM, -, -, -, -, -, -, hsigM⟩ := Cond.codeWith_spec hcode
  have hstatic : methM.isStatic = true := Cond.static_spec hnamed hmethM hstat
  obtain ⟨kP, hkP, -⟩ := className_of_methodNamed hnamed
  have hinitP : kP.init = .initialized := Cond.initialized_spec (findClass_of_methodNamed hnamed) hkP hinit
  obtain ⟨vm₁, X₁, hstep₁⟩ := X.invokestatic hexec hown hlink hnamed hmethM hstatic hkP hinitP hy (g := g) hg (argsL := argsL) (rest := rest) (hlen _ hsigM) hstack hdg
  obtain ⟨v, B, X', hpost, hsteps⟩ := hK m meth c ⟨T.setVm vm₁, locs, cells, slots⟩ { g with stack := rest } (.invokestatic index) mk argsL.toArray X₁ hg hsize hdg hW (X₁.named hnamed) (hpre vm₁ X₁.warmed)
  exact ⟨v, vm₁, B, X₁.warmed, X', hpost, fun target h => hstep₁ _ fun acts => by rw [doInvoke_state]; exact hsteps.trans h⟩
theorem vx_runSW {y : MethodName} {bytes cc : ByteArray} {maxL nL mc ms n index : Nat} {ret : Option FieldType} {hh : List (Nat × Nat × Nat × Nat)} {ws : List Cond} {rm : Room} {Pc : Array Value → State → Prop} {Qc : Array Value → State → Outcome → State → Prop} {free : Addr → Prop} {Ts : List Cond} {own : String} {As rest : List Value} {g : JFrame}
    (S : CallFix p m c cc nL s args Ts own) (hM : Met l y ws rm Pc Qc mc ms free) (cw : vx_CSW R s args own index y bytes maxL ret hh ws rm mc ms n) (hp : PreS s H Pc As)
    (hg : g.method = m) (hn : As.length = n) (hsize : g.locals.size = nL) (hstack : g.stack = As.reverse ++ rest) (hW : 2 * g.monitorRoom + (rest.map fun v => v.category).sum ≤ 8) (hdg : decode cc g.pc = .ok (.invokestatic index, 3)) (hf : cells + mc ≤ R.cells ∧ slots + ms ≤ R.slots) :
    va_Run p l e R s m args below meth c H locs cells slots mc ms g rest (Qc As.toArray) (free) := by
  obtain ⟨⟨hrc, hrs, hfr, hlo, hws, hcw⟩, hcode, hini, hy, hlen, hl, hstt⟩ := cw
  have hK : Back l R p e below s args y 3 8 (PreOf R mc ms Pc) (PostOf Qc mc ms free) := va_backW (hh := hh) (bytes := bytes) (maxL := maxL) (ret := ret) hM hp.1 hrc hrs hfr hlo hws hcw (fun a' U hW => word_at hW (Or.inl (by first | rfl | simp [Cond.onTables, Cond.keeps, Cond.steady])) hini)
  obtain ⟨hx, hb, hml, ho, -⟩ := S
  intro T hT X
  obtain ⟨v, vm₁, ⟨U', l2, c2, s2⟩, hW₁, X', ⟨g', mk, t, L, e1, e2, hq, h1, hL, h2, h3⟩, st⟩ := vx_callSW X hx (hh := hh) (bytes := bytes) (maxL := maxL) (ret := ret) ho hl hstt hini hcode hy hK hg (hsize.trans hml.symm) (argsL := As) (rest := rest) (fun sig h => hn.trans (hlen sig h)) hstack hW (by rw [hb]; exact hdg)
    (fun vm₁ hW₁ => ⟨hf.1, hf.2, hp.2 (T.setVm vm₁) hT hW₁⟩)
  dsimp only [Pt.U, Pt.locs, Pt.cells, Pt.slots] at X' e1 e2 h1 h2 h3 st
  subst h1; subst h2; subst h3
  exact ⟨v, (T.setVm vm₁).calling g' mk As.toArray, t, U', L, hT, X', hL, e1, e2, hq, st⟩
/-- not caught here, past rows that name other classes: it goes on to the caller -/
theorem vx_outP {p : Program} {l : Launch} {e : Env} {R : Room} {s : State} {m : MethodId} {args : Array Value} {below : List Frame} {meth : Method} {c : Code} {H : Heap} {locs : List Loc} {cells slots : Nat} {free : Addr → Prop} {ls : Array Slot} {rest : List Value} {Qc : Array Value → State → Outcome → State → Prop} {XC : String → State → State → Prop}
    {pc : Nat} {own E : String} {ce : Cell} {q : Addr} {mc ms : Nat} (hown : s.vm.findClass own = some m.cls) (hlocks : meth.locks = false)
    (hpass : ∀ z ∈ c.exceptionTable.toList, covers z pc = false ∨ (z.catchType ≠ 0 ∧ ∃ nm : String, (Cond.classLink own z.catchType nm).before args s = true ∧ va_Nc E nm s)) (hcell : H[q]? = some ce) (hv : ce.vm = .none) (hcl : s.vm.findClass E = some ce.cls)
    (hx : ∀ t : State, t.heap = H → s.vm.Alike t.vm → XC E s t) (hf : ∀ z ∈ locs, free z.base) (hc : cells ≤ mc) (hs : slots ≤ ms) :
    vx_W p l e R s m args below meth c H locs cells slots (vx_MQ below Qc XC args s mc ms free) (F0 m pc ls rest) q := by
  intro T hT X
  have hpl : e.platform.magicAccessors = ({} : Platform).magicAccessors := by rw [X.admits.platform]
  obtain ⟨vm', hW', X', st⟩ := X.outThrough hlocks q (g := F0 m pc ls rest) rfl rfl rfl (cell := ce) (by rw [hT]; exact hcell) (by rw [hv]; rfl)
    (by obtain ⟨k9, h9, -⟩ := Vm.findClass_spec hcl; exact ⟨k9, h9⟩) (fun z hz => by
      rcases hpass z hz with h | ⟨hz0, nm, hl1, hn1⟩
      · exact Or.inl h
      · obtain ⟨c6, hc6, hcl6⟩ := Cond.classLink_spec hown hl1 e.platform hpl
        obtain ⟨a8, b8, h1, h2, h3⟩ := hn1
        cases Option.some.inj (h1.symm.trans hcl)
        cases Option.some.inj (h2.symm.trans hc6)
        exact Or.inr ⟨hz0, _, hcl6, h3⟩)
  obtain ⟨g₀, hfr⟩ := X'.frames_eq
  have hcell9 : ((T.setVm vm').setFrames (.throwing q :: below)).heap[q]? = some ce := by
    show T.heap[q]? = some ce
    rw [hT]; exact hcell
  have hend : Ended ((T.setVm vm').setFrames (.throwing q :: below)) below (.threw q) := State.frames_setFrames _ (State.cur_lt_of_frames hfr)
  refine ⟨(T.setVm vm').setFrames (.throwing q :: below), ?_, .threw q, X'.here.running, hend, Or.inr ⟨q, rfl, E, ce, locs, hx _ hT (X'.ends _).1.alike, hcell9, hv, hcl, (X'.ends _).1, (X'.ends _).2.mono hc hs, hf⟩⟩
  rw [X.pushThrowing_eq]
  exact st
/-- a thing of a world lies in the heap -/
theorem vx_lt {D : va_G} {cl : List vw_C} {ws : va_W} {H1 : Heap} (h : va_P D cl ws H1) {k : Nat} {q : Nat × va_E} (hk : ws[k]? = some q) : q.1 < H1.size := (h k q hk).lt
end VXS
/-! ===== END ===== -/
/-! ===== BEGIN methods with a table of their own: called by a name, returning or throwing ===== -/
section VXH
/-! vx_backW, vx_callVX, vx_callSX, vx_callVW, vx_runVW, vx_runVX, vx_runSX, vx_ofWH follow the same proofs as their sisters above (Free/Laws.lean, Shelf42/LK1.lean); vx_outP calls Shelf42/NT130.lean (outThrough). -/
section
variable {l : Launch} {R : Room} {p : Program} {e : Env} {below : List Frame} {s : State} {sargs : Array Value} {y : MethodName} {len W9 : Nat}
theorem vx_backW {ws : List Cond} {rm : Room} {Pc : Array Value → State → Prop} {Qc : Array Value → State → Outcome → State → Prop} {XC : String → State → State → Prop} {mc ms : Nat} {free : Addr → Prop} {bytes : ByteArray} {maxL : Nat} {ret : Option FieldType} {hh : List (Nat × Nat × Nat × Nat)}
    (hM : vx_Met l y ws rm Pc Qc XC mc ms free) (hblind : FrameBlind Pc) (hrc : rm.cells = mc) (hrs : rm.slots = ms)
    (hframes : rm.frames + 1 ≤ R.frames) (hlocals : W9 + (maxL + 11) + rm.locals ≤ R.locals)
    (hws : ∀ w ∈ ws, ∀ a' U, s.WarmedH U.vm → w.before a' U = true) (hcode : Cond.codeWith y bytes maxL ret hh ∈ ws) (hinit : ∀ a' U, s.WarmedH U.vm → (Cond.initialized y.cls).before a' U = true) :
    vx_Back l R p e below s sargs y len W9 (PreOf R mc ms Pc) (PostOf Qc mc ms free) (vx_Post XC mc ms free) := by
  intro m meth c A g ig mk a X hg hsize hdg hW hn hp
  have h1 : (headSpec ws rm).pre.before a A.U = true := atoms_intro fun w hw => hws w hw _ _ X.warmed
  have h2 : (Cond.codeWith y bytes maxL ret hh).before a A.U = true := hws _ hcode _ _ X.warmed
  have h3 : (Cond.initialized y.cls).before a A.U = true := hinit _ _ X.warmed
  have h4 : A.cells + (headSpec ws rm).room.cells ≤ R.cells := by rw [show (headSpec ws rm).room.cells = mc from hrc]; exact hp.1
  have h5 : A.slots + (headSpec ws rm).room.slots ≤ R.slots := by rw [show (headSpec ws rm).room.slots = ms from hrs]; exact hp.2.1
  have hPc : Pc a (A.U.calling g mk a) := hblind _ _ _ _ hp.2.2
  obtain ⟨U, Ls, c0, s0⟩ := A
  dsimp only [Pt.U, Pt.locs, Pt.cells, Pt.slots] at h1 h2 h3 h4 h5 X hn hPc ⊢
  obtain ⟨m9, methY, cY, hn9, hmY, hcY, -, hlY, -⟩ := Cond.codeWith_spec h2
  cases Option.some.inj (hn9.symm.trans hn)
  obtain ⟨kY, hkY, -⟩ := className_of_methodNamed hn
  have hinitY : kY.init = .initialized := Cond.initialized_spec (findClass_of_methodNamed hn) hkY h3
  have h : At U g.method c below := by rw [hg]; exact X.here
  have hlocals9 : W9 + (maxL + 11) + (headSpec ws rm).room.locals ≤ R.locals := hlocals
  have happ : (headSpec ws rm).appliesLoose y e.platform (U.calling g mk a) = true :=
    Spec.appliesLoose_calling (g := g) h hdg hn hkY hinitY
      (X.room_calling (g := g) (R' := (headSpec ws rm).room) hsize hmY hcY hframes (by rw [hlY]; omega) h4 h5) h1
  obtain ⟨mid, hmid⟩ := h.above
  have hfr : (U.setTop g).frames = (.java g :: mid) ++ below := by rw [State.frames_setTop' g h.top, hmid]; rfl
  obtain ⟨o, s₂, hsteps, -, hend, hq⟩ := Steps.callFree hM p X.admits X.cas X.clock (acts := []) hfr happ hPc trivial
  have hq' : vx_Q Qc XC mc ms free a (U.calling g mk a) o s₂ := hq
  rw [State.frames_setTop' g h.top] at hend
  obtain ⟨g₀, hg0⟩ := Option.isSome_iff_exists.mp h.top
  obtain ⟨r, hr⟩ := State.topJava?_eq_some.mp hg0
  have hr' : (({ U with heap := s₂.heap, slotsUsed := s₂.slotsUsed } : State).setVm s₂.vm).frames = .java g₀ :: r := hr
  rcases hq' with ⟨hqc, L, hfe, hL⟩ | ⟨q, rfl, E, ce, L, hx, hce, hcv, hcl, hW₂, hsm, hL⟩
  · obtain ⟨⟨v, rfl⟩, hW₂, e2, q2, q3, q4, q5, q6⟩ := id hfe
    have e3 : s₂ = ({ (U.calling g mk a).setFrames s₂.frames with heap := s₂.heap, slotsUsed := s₂.slotsUsed } : State).setVm s₂.vm := by
      have : s₂ = ({ s₂ with vm := (U.calling g mk a).vm } : State).setVm s₂.vm := rfl
      rw [e2] at this
      exact this
    obtain ⟨c₂, i₂, len₂, hc₂, hd₂, hf₂⟩ := hend
    have hW' : U.WarmedH s₂.vm := hW₂
    have hcc : c₂ = c := by
      have h1 : s₂.code? g.method = U.code? g.method := by
        rw [State.code?_eq, State.code?_eq, hW'.alike.method?]
      exact Option.some.inj (hc₂.symm.trans (h1.trans h.code))
    subst hcc
    have hlen : len₂ = len := by rw [hdg] at hd₂; cases hd₂; rfl
    subst hlen
    have hs₂ : s₂ = (({ U with heap := s₂.heap, slotsUsed := s₂.slotsUsed } : State).setVm s₂.vm).setTop { g with pc := g.pc + len₂, stack := v.toList ++ g.stack } := by
      refine e3.trans ?_
      rw [hf₂, State.calling_eq h.top, State.setFrames_setFrames, State.setTop_of_frames _ hr', hr]
      rfl
    have hsame : U.sameButNew ({ U with heap := s₂.heap, slotsUsed := s₂.slotsUsed } : State) L mc ms := by
      refine ⟨?_, q2, q3, q4, q5, q6⟩
      obtain ⟨t, ht, -⟩ := State.frames_cons hr
      show ({ U with heap := s₂.heap, slotsUsed := s₂.slotsUsed } : State) = { U.setFrames U.frames with heap := s₂.heap, slotsUsed := s₂.slotsUsed }
      rw [State.setFrames_self ht]
    subst hg
    refine Or.inl ⟨v, ⟨(({ U with heap := s₂.heap, slotsUsed := s₂.slotsUsed } : State).setVm s₂.vm), Ls ++ L, c0 + mc, s0 + ms⟩,
      ⟨X.admits, X.cas, X.clock, X.frames, X.room, X.hears, X.method, X.code, (X.here.setHeapUsed s₂.heap s₂.slotsUsed).setVm hW'.alike, X.tail, State.WarmedH.trans X.warmed hW', X.limits, X.bytes, X.same.trans (hsame.setVm s.vm)⟩,
      ⟨g, mk, s₂, L, rfl, rfl, hqc, rfl, hL, rfl, rfl⟩, ?_⟩
    show Steps p.tables e below _ ((({ U with heap := s₂.heap, slotsUsed := s₂.slotsUsed } : State).setVm s₂.vm).setTop { g with pc := g.pc + len₂, stack := v.toList ++ g.stack })
    rw [← hs₂]
    exact hsteps
  · obtain ⟨e2, q2, q3, q4, q5, q6⟩ := id hsm
    have e3 : s₂ = ({ (U.calling g mk a).setFrames s₂.frames with heap := s₂.heap, slotsUsed := s₂.slotsUsed } : State).setVm s₂.vm := by
      have : s₂ = ({ s₂ with vm := (U.calling g mk a).vm } : State).setVm s₂.vm := rfl
      rw [e2] at this
      exact this
    have hf₂ : s₂.frames = .throwing q :: .java g :: U.frames.tail := hend
    have hW' : U.WarmedH s₂.vm := hW₂
    have hs₂ : s₂ = ((({ U with heap := s₂.heap, slotsUsed := s₂.slotsUsed } : State).setVm s₂.vm).setTop g).pushFrame (.throwing q) := by
      refine e3.trans ?_
      rw [hf₂, State.calling_eq h.top, State.setFrames_setFrames, State.pushFrame, State.frames_setTop _ hr', State.setTop_of_frames _ hr', State.setFrames_setFrames, hr]
      rfl
    have hsame : U.sameButNew ({ U with heap := s₂.heap, slotsUsed := s₂.slotsUsed } : State) L mc ms := by
      refine ⟨?_, q2, q3, q4, q5, q6⟩
      obtain ⟨t, ht, -⟩ := State.frames_cons hr
      show ({ U with heap := s₂.heap, slotsUsed := s₂.slotsUsed } : State) = { U.setFrames U.frames with heap := s₂.heap, slotsUsed := s₂.slotsUsed }
      rw [State.setFrames_self ht]
    subst hg
    refine Or.inr ⟨q, ⟨(({ U with heap := s₂.heap, slotsUsed := s₂.slotsUsed } : State).setVm s₂.vm), Ls ++ L, c0 + mc, s0 + ms⟩,
      ⟨X.admits, X.cas, X.clock, X.frames, X.room, X.hears, X.method, X.code, (X.here.setHeapUsed s₂.heap s₂.slotsUsed).setVm hW'.alike, X.tail, State.WarmedH.trans X.warmed hW', X.limits, X.bytes, X.same.trans (hsame.setVm s.vm)⟩,
      ⟨g, mk, s₂, L, E, ce, rfl, rfl, hx, hce, hcv, hcl, rfl, hL, rfl, rfl⟩, ?_⟩
    show Steps p.tables e below _ (((({ U with heap := s₂.heap, slotsUsed := s₂.slotsUsed } : State).setVm s₂.vm).setTop g).pushFrame (.throwing q))
    rw [← hs₂]
    exact hsteps
end
variable {p : Program} {l : Launch} {e : Env} {R : Room} {s : State} {m : MethodId} {args : Array Value} {below : List Frame} {meth : Method} {c : Code} {T : State} {H : Heap} {locs : List Loc} {cells slots : Nat}
theorem vx_callVX (X : Stand p l e R s m args below meth c T locs cells slots) (hexec : p.tables.exec = Jvm.exec) {own C : String} {index : Nat} {y : MethodName} {bytes : ByteArray} {maxL : Nat} {ret : Option FieldType} {hh : List (Nat × Nat × Nat × Nat)}
    (hown : s.vm.findClass own = some m.cls) (hlink : (Cond.methodLink own index y).before args s = true) (hinst : (Cond.instanceMethod y).before args s = true) (hsel : (Cond.selects C y y).before args s = true)
    (hcode : (Cond.codeWith y bytes maxL ret hh).before args s = true) (hy : y.cls ≠ "java/lang/invoke/MethodHandle" ∧ y.cls ≠ "java/lang/invoke/VarHandle")
    {W9 : Nat} {Pre : Pt → Array Value → Prop} {Post : Pt → Array Value → Option Value → Pt → Prop} {PostX : Pt → Array Value → Addr → Pt → Prop} (hK : vx_Back l R p e below s args y 3 W9 Pre Post PostX)
    {b : Addr} {cellB : Cell} (hcell : T.heap[b]? = some cellB) (hobj : cellB.vm.isStatics = false) (hcls : s.vm.findClass C = some cellB.cls)
    {g : JFrame} (hg : g.method = m) (hsize : g.locals.size = c.maxLocals) {argsL rest : List Value} (hlen : ∀ sig, parseMethodDescriptor y.desc = some sig → argsL.length = sig.parameters.length)
    (hstack : g.stack = argsL.reverse ++ .ref b :: rest) (hW : 2 * g.monitorRoom + (rest.map fun v => v.category).sum ≤ W9) (hdg : decode c.code g.pc = .ok (.invokevirtual index, 3))
    (hpre : ∀ vm₁, s.WarmedH vm₁ → Pre ⟨T.setVm vm₁, locs, cells, slots⟩ (Value.ref b :: argsL).toArray) :
    (∃ (v : Option Value) (vm₁ : Vm) (B : Pt), s.WarmedH vm₁ ∧ Stand p l e R s m args below meth c B.U B.locs B.cells B.slots ∧ Post ⟨T.setVm vm₁, locs, cells, slots⟩ (Value.ref b :: argsL).toArray v B ∧
      ∀ target, Steps p.tables e below (B.U.setTop { g with pc := g.pc + 3, stack := v.toList ++ rest }) target → Steps p.tables e below (T.setTop g) target) ∨
    (∃ (q : Addr) (vm₁ : Vm) (B : Pt), s.WarmedH vm₁ ∧ Stand p l e R s m args below meth c B.U B.locs B.cells B.slots ∧ PostX ⟨T.setVm vm₁, locs, cells, slots⟩ (Value.ref b :: argsL).toArray q B ∧
      Steps p.tables e below (T.setTop g) ((B.U.setTop { g with stack := rest }).pushFrame (.throwing q))) := by
  obtain ⟨mk, methM, hnamed, hmethM, hstM, habM⟩ := Cond.instanceMethod_spec hinst
  obtain ⟨m8, methM', cM, hn8, hmethM', -, -, -, -, -, -, hsigM⟩ := Cond.codeWith_spec hcode
  cases Option.some.inj (hn8.symm.trans hnamed)
  cases hmethM.symm.trans hmethM'
  obtain ⟨c2, r2, m2, q1, q2, q3, q4, kP, hkP, hkPi⟩ := Cond.selects_spec hsel
  cases hcls.symm.trans q1
  cases (State.methodFound?_of_named hnamed hy).symm.trans q2
  cases hnamed.symm.trans q3
  have hselP : selectMethod e.platform s.vm cellB.cls mk = .method mk := by rw [Launch.admits_selectMethod X.admits]; exact q4
  obtain ⟨vm₁, X₁, hstep₁⟩ := X.invokevirtual hexec hown hlink hnamed hmethM hstM hkP hkPi hy (a := b) (cell := cellB) hcell
    (fun z h => by rw [h] at hobj; cases hobj) hselP hmethM habM hkP hkPi (g := g) hg (argsL := argsL) (rest := rest) (hlen _ hsigM) hstack hdg
  rcases hK m meth c ⟨T.setVm vm₁, locs, cells, slots⟩ { g with stack := rest } (.invokevirtual index) mk (Value.ref b :: argsL).toArray X₁ hg hsize hdg hW (X₁.named hnamed) (hpre vm₁ X₁.warmed) with ⟨v, B, X', hpost, hsteps⟩ | ⟨q, B, X', hpost, hsteps⟩
  · exact Or.inl ⟨v, vm₁, B, X₁.warmed, X', hpost, fun target h => hstep₁ _ fun acts => by rw [doInvoke_state]; exact hsteps.trans h⟩
  · exact Or.inr ⟨q, vm₁, B, X₁.warmed, X', hpost, hstep₁ _ fun acts => by rw [doInvoke_state]; exact hsteps⟩
theorem vx_callSX (X : Stand p l e R s m args below meth c T locs cells slots) (hexec : p.tables.exec = Jvm.exec) {own : String} {index : Nat} {y : MethodName} {bytes : ByteArray} {maxL : Nat} {ret : Option FieldType} {hh : List (Nat × Nat × Nat × Nat)}
    (hown : s.vm.findClass own = some m.cls) (hlink : (Cond.methodLink own index y).before args s = true) (hstat : (Cond.static y).before args s = true) (hinit : (Cond.initialized y.cls).before args s = true)
    (hcode : (Cond.codeWith y bytes maxL ret hh).before args s = true) (hy : y.cls ≠ "java/lang/invoke/MethodHandle" ∧ y.cls ≠ "java/lang/invoke/VarHandle")
    {W9 : Nat} {Pre : Pt → Array Value → Prop} {Post : Pt → Array Value → Option Value → Pt → Prop} {PostX : Pt → Array Value → Addr → Pt → Prop} (hK : vx_Back l R p e below s args y 3 W9 Pre Post PostX)
    {g : JFrame} (hg : g.method = m) (hsize : g.locals.size = c.maxLocals) {argsL rest : List Value} (hlen : ∀ sig, parseMethodDescriptor y.desc = some sig → argsL.length = sig.parameters.length)
    (hstack : g.stack = argsL.reverse ++ rest) (hW : 2 * g.monitorRoom + (rest.map fun v => v.category).sum ≤ W9) (hdg : decode c.code g.pc = .ok (.invokestatic index, 3))
    (hpre : ∀ vm₁, s.WarmedH vm₁ → Pre ⟨T.setVm vm₁, locs, cells, slots⟩ argsL.toArray) :
    (∃ (v : Option Value) (vm₁ : Vm) (B : Pt), s.WarmedH vm₁ ∧ Stand p l e R s m args below meth c B.U B.locs B.cells B.slots ∧ Post ⟨T.setVm vm₁, locs, cells, slots⟩ argsL.toArray v B ∧
      ∀ target, Steps p.tables e below (B.U.setTop { g with pc := g.pc + 3, stack := v.toList ++ rest }) target → Steps p.tables e below (T.setTop g) target) ∨
    (∃ (q : Addr) (vm₁ : Vm) (B : Pt), s.WarmedH vm₁ ∧ Stand p l e R s m args below meth c B.U B.locs B.cells B.slots ∧ PostX ⟨T.setVm vm₁, locs, cells, slots⟩ argsL.toArray q B ∧
      Steps p.tables e below (T.setTop g) ((B.U.setTop { g with stack := rest }).pushFrame (.throwing q))) := by
  obtain ⟨mk, methM, cM, hnamed, hmethM, -, -, -, -, -, -, hsigM⟩ := Cond.codeWith_spec hcode
  have hstatic : methM.isStatic = true := Cond.static_spec hnamed hmethM hstat
  obtain ⟨kP, hkP, -⟩ := className_of_methodNamed hnamed
  have hinitP : kP.init = .initialized := Cond.initialized_spec (findClass_of_methodNamed hnamed) hkP hinit
  obtain ⟨vm₁, X₁, hstep₁⟩ := X.invokestatic hexec hown hlink hnamed hmethM hstatic hkP hinitP hy (g := g) hg (argsL := argsL) (rest := rest) (hlen _ hsigM) hstack hdg
  rcases hK m meth c ⟨T.setVm vm₁, locs, cells, slots⟩ { g with stack := rest } (.invokestatic index) mk argsL.toArray X₁ hg hsize hdg hW (X₁.named hnamed) (hpre vm₁ X₁.warmed) with ⟨v, B, X', hpost, hsteps⟩ | ⟨q, B, X', hpost, hsteps⟩
  · exact Or.inl ⟨v, vm₁, B, X₁.warmed, X', hpost, fun target h => hstep₁ _ fun acts => by rw [doInvoke_state]; exact hsteps.trans h⟩
  · exact Or.inr ⟨q, vm₁, B, X₁.warmed, X', hpost, hstep₁ _ fun acts => by rw [doInvoke_state]; exact hsteps⟩
theorem vx_callVW (X : Stand p l e R s m args below meth c T locs cells slots) (hexec : p.tables.exec = Jvm.exec) {own C : String} {index : Nat} {y : MethodName} {bytes : ByteArray} {maxL : Nat} {ret : Option FieldType} {hh : List (Nat × Nat × Nat × Nat)}
    (hown : s.vm.findClass own = some m.cls) (hlink : (Cond.methodLink own index y).before args s = true) (hinst : (Cond.instanceMethod y).before args s = true) (hsel : (Cond.selects C y y).before args s = true)
    (hcode : (Cond.codeWith y bytes maxL ret hh).before args s = true) (hy : y.cls ≠ "java/lang/invoke/MethodHandle" ∧ y.cls ≠ "java/lang/invoke/VarHandle")
    {W9 : Nat} {Pre : Pt → Array Value → Prop} {Post : Pt → Array Value → Option Value → Pt → Prop} (hK : Back l R p e below s args y 3 W9 Pre Post)
    {b : Addr} {cellB : Cell} (hcell : T.heap[b]? = some cellB) (hobj : cellB.vm.isStatics = false) (hcls : s.vm.findClass C = some cellB.cls)
    {g : JFrame} (hg : g.method = m) (hsize : g.locals.size = c.maxLocals) {argsL rest : List Value} (hlen : ∀ sig, parseMethodDescriptor y.desc = some sig → argsL.length = sig.parameters.length)
    (hstack : g.stack = argsL.reverse ++ .ref b :: rest) (hW : 2 * g.monitorRoom + (rest.map fun v => v.category).sum ≤ W9) (hdg : decode c.code g.pc = .ok (.invokevirtual index, 3))
    (hpre : ∀ vm₁, s.WarmedH vm₁ → Pre ⟨T.setVm vm₁, locs, cells, slots⟩ (Value.ref b :: argsL).toArray) :
    ∃ (v : Option Value) (vm₁ : Vm) (B : Pt), s.WarmedH vm₁ ∧ Stand p l e R s m args below meth c B.U B.locs B.cells B.slots ∧ Post ⟨T.setVm vm₁, locs, cells, slots⟩ (Value.ref b :: argsL).toArray v B ∧
      ∀ target, Steps p.tables e below (B.U.setTop { g with pc := g.pc + 3, stack := v.toList ++ rest }) target → Steps p.tables e below (T.setTop g) target := by
  obtain ⟨mk, methM, hnamed, hmethM, hstM, habM⟩ := Cond.instanceMethod_spec hinst
  obtain ⟨m8, methM', cM, hn8, hmethM', -, -, -, -, -, -, hsigM⟩ := Cond.codeWith_spec hcode
  cases Option.some.inj (hn8.symm.trans hnamed)
  cases hmethM.symm.trans hmethM'
  obtain ⟨c2, r2, m2, q1, q2, q3, q4, kP, hkP, hkPi⟩ := Cond.selects_spec hsel
  cases hcls.symm.trans q1
  cases (State.methodFound?_of_named hnamed hy).symm.trans q2
  cases hnamed.symm.trans q3
  have hselP : selectMethod e.platform s.vm cellB.cls mk = .method mk := by rw [Launch.admits_selectMethod X.admits]; exact q4
  obtain ⟨vm₁, X₁, hstep₁⟩ := X.invokevirtual hexec hown hlink hnamed hmethM hstM hkP hkPi hy (a := b) (cell := cellB) hcell
    (fun z h => by rw [h] at hobj; cases hobj) hselP hmethM habM hkP hkPi (g := g) hg (argsL := argsL) (rest := rest) (hlen _ hsigM) hstack hdg
  obtain ⟨v, B, X', hpost, hsteps⟩ := hK m meth c ⟨T.setVm vm₁, locs, cells, slots⟩ { g with stack := rest } (.invokevirtual index) mk (Value.ref b :: argsL).toArray X₁ hg hsize hdg hW (X₁.named hnamed) (hpre vm₁ X₁.warmed)
  exact ⟨v, vm₁, B, X₁.warmed, X', hpost, fun target h => hstep₁ _ fun acts => by rw [doInvoke_state]; exact hsteps.trans h⟩
abbrev vx_CVW (R : Room) (s : State) (args : Array Value) (own C : String) (index : Nat) (y : MethodName) (bytes : ByteArray) (maxL : Nat) (ret : Option FieldType) (hh : List (Nat × Nat × Nat × Nat)) (ws : List Cond) (rm : Room) (mc ms n : Nat) : Prop :=
  (rm.cells = mc ∧ rm.slots = ms ∧ rm.frames + 1 ≤ R.frames ∧ 8 + (maxL + 11) + rm.locals ≤ R.locals ∧ (∀ w ∈ ws, ∀ (a' : Array Value) (U : State), s.WarmedH U.vm → w.before a' U = true) ∧ Cond.codeWith y bytes maxL ret hh ∈ ws) ∧
  (Cond.codeWith y bytes maxL ret hh).before args s = true ∧ (Cond.initialized y.cls).before args s = true ∧ (y.cls ≠ "java/lang/invoke/MethodHandle" ∧ y.cls ≠ "java/lang/invoke/VarHandle") ∧
  (∀ sig, parseMethodDescriptor y.desc = some sig → n = sig.parameters.length) ∧ (Cond.methodLink own index y).before args s = true ∧ (Cond.instanceMethod y).before args s = true ∧ (Cond.selects C y y).before args s = true
theorem vx_cwVW {own C : String} {index maxL mc ms : Nat} {y : MethodName} {bytes : ByteArray} {ret : Option FieldType} {hh : List (Nat × Nat × Nat × Nat)} {Ts ws ws' : List Cond} {rm : Room} (n : Nat) (ht : ∀ w ∈ Ts, w.before args s = true) (hT : GoodIn Ts (wsV own index C y ws)) (hw : ws = Cond.codeWith y bytes maxL ret hh :: ws') (hrc : rm.cells = mc) (hrs : rm.slots = ms)
    (hd : y.cls = C ∧ y.cls ≠ "java/lang/invoke/MethodHandle" ∧ y.cls ≠ "java/lang/invoke/VarHandle" ∧ (parseMethodDescriptor y.desc).map (fun d => d.parameters.length) = some n) (hR : rm.frames + 1 ≤ R.frames ∧ 8 + (maxL + 11) + rm.locals ≤ R.locals) :
    vx_CVW R s args own C index y bytes maxL ret hh ws rm mc ms n := by
  obtain ⟨hC, hd⟩ := hd
  subst hC
  have ok : ∀ w ∈ wsV own index y.cls y ws, w.before args s = true := fun w h => ht w (hT w h).1
  have hG : GoodIn Ts ws := fun w h => hT w (by unfold wsV; exact List.mem_append_right _ h)
  have hc : Cond.codeWith y bytes maxL ret hh ∈ ws := by rw [hw]; exact List.mem_cons_self
  refine ⟨⟨hrc, hrs, hR.1, hR.2, pay_in ht hG, hc⟩, ht _ (hG _ hc).1, ok _ (by simp [wsV]), ⟨hd.1, hd.2.1⟩, fun sig h => ?_, ok _ (by simp [wsV]), ok _ (by simp [wsV]), ok _ (by simp [wsV])⟩
  have h2 := hd.2.2
  rw [h] at h2
  exact (Option.some.inj h2).symm
theorem vx_runVW {y : MethodName} {bytes cc : ByteArray} {maxL nL mc ms n index : Nat} {ret : Option FieldType} {hh : List (Nat × Nat × Nat × Nat)} {ws : List Cond} {rm : Room} {Pc : Array Value → State → Prop} {Qc : Array Value → State → Outcome → State → Prop} {free : Addr → Prop} {Ts : List Cond} {own C : String} {b : Addr} {As rest : List Value} {g : JFrame}
    (S : CallFix p m c cc nL s args Ts own) (hM : Met l y ws rm Pc Qc mc ms free) (cw : vx_CVW R s args own C index y bytes maxL ret hh ws rm mc ms n) (hp : PreV s H C b Pc As)
    (hg : g.method = m) (hn : As.length = n) (hsize : g.locals.size = nL) (hstack : g.stack = As.reverse ++ .ref b :: rest) (hW : 2 * g.monitorRoom + (rest.map fun v => v.category).sum ≤ 8) (hdg : decode cc g.pc = .ok (.invokevirtual index, 3)) (hf : cells + mc ≤ R.cells ∧ slots + ms ≤ R.slots) :
    va_Run p l e R s m args below meth c H locs cells slots mc ms g rest (Qc (Value.ref b :: As).toArray) free := by
  obtain ⟨⟨hrc, hrs, hfr, hlo, hws, hcw⟩, hcode, hini, hy, hlen, hl, hin, hse⟩ := cw
  have hK : Back l R p e below s args y 3 8 (PreOf R mc ms Pc) (PostOf Qc mc ms free) := va_backW (hh := hh) (bytes := bytes) (maxL := maxL) (ret := ret) hM hp.1 hrc hrs hfr hlo hws hcw (fun a' U hW => word_at hW (Or.inl (by first | rfl | simp [Cond.onTables, Cond.keeps, Cond.steady])) hini)
  obtain ⟨hx, hb, hml, ho, -⟩ := S
  obtain ⟨-, ⟨cellB, hcB, hoB, hclB⟩, hPc⟩ := hp
  intro T hT X
  obtain ⟨v, vm₁, ⟨U', l2, c2, s2⟩, hW₁, X', ⟨g', mk, t, L, e1, e2, hq, h1, hL, h2, h3⟩, st⟩ := vx_callVW X hx (C := C) (hh := hh) (bytes := bytes) (maxL := maxL) (ret := ret) ho hl hin hse hcode hy hK (by rw [hT]; exact hcB) hoB hclB hg (hsize.trans hml.symm) (argsL := As) (rest := rest) (fun sig h => hn.trans (hlen sig h)) hstack hW (by rw [hb]; exact hdg)
    (fun vm₁ hW₁ => ⟨hf.1, hf.2, hPc (T.setVm vm₁) hT hW₁⟩)
  dsimp only [Pt.U, Pt.locs, Pt.cells, Pt.slots] at X' e1 e2 h1 h2 h3 st
  subst h1; subst h2; subst h3
  exact ⟨v, (T.setVm vm₁).calling g' mk (Value.ref b :: As).toArray, t, U', L, hT, X', hL, e1, e2, hq, st⟩
section
variable {y : MethodName} {bytes cc : ByteArray} {maxL nL mc ms n index : Nat} {ret : Option FieldType} {ws : List Cond} {rm : Room} {Pc : Array Value → State → Prop} {Qc : Array Value → State → Outcome → State → Prop} {XC : String → State → State → Prop} {free : Addr → Prop} {Ts : List Cond} {own C : String} {b : Addr} {As rest : List Value} {g : JFrame}
theorem vx_runVX {hh : List (Nat × Nat × Nat × Nat)} (S : CallFix p m c cc nL s args Ts own) (hM : vx_Met l y ws rm Pc Qc XC mc ms free) (cw : vx_CVW R s args own C index y bytes maxL ret hh ws rm mc ms n) (hp : PreV s H C b Pc As)
    (hg : g.method = m) (hn : As.length = n) (hsize : g.locals.size = nL) (hstack : g.stack = As.reverse ++ .ref b :: rest) (hW : 2 * g.monitorRoom + (rest.map fun v => v.category).sum ≤ 8) (hdg : decode cc g.pc = .ok (.invokevirtual index, 3)) (hf : cells + mc ≤ R.cells ∧ slots + ms ≤ R.slots) :
    vx_Run p l e R s m args below meth c H locs cells slots mc ms g rest (Qc (Value.ref b :: As).toArray) XC free := by
  obtain ⟨⟨hrc, hrs, hfr, hlo, hws, hcw⟩, hcode, hini, hy, hlen, hl, hin, hse⟩ := cw
  have hK : vx_Back l R p e below s args y 3 8 (PreOf R mc ms Pc) (PostOf Qc mc ms free) (vx_Post XC mc ms free) := vx_backW (hh := hh) (bytes := bytes) (maxL := maxL) (ret := ret) hM hp.1 hrc hrs hfr hlo hws hcw (fun a' U hW => word_at hW (Or.inl (by first | rfl | simp [Cond.onTables, Cond.keeps, Cond.steady])) hini)
  obtain ⟨hx, hb, hml, ho, -⟩ := S
  obtain ⟨-, ⟨cellB, hcB, hoB, hclB⟩, hPc⟩ := hp
  intro T hT X
  rcases vx_callVX X hx (C := C) (hh := hh) (bytes := bytes) (maxL := maxL) (ret := ret) ho hl hin hse hcode hy hK (by rw [hT]; exact hcB) hoB hclB hg (hsize.trans hml.symm) (argsL := As) (rest := rest) (fun sig h => hn.trans (hlen sig h)) hstack hW (by rw [hb]; exact hdg)
    (fun vm₁ hW₁ => ⟨hf.1, hf.2, hPc (T.setVm vm₁) hT hW₁⟩) with ⟨v, vm₁, ⟨U', l2, c2, s2⟩, hW₁, X', ⟨g', mk, t, L, e1, e2, hq, h1, hL, h2, h3⟩, st⟩ | ⟨q, vm₁, ⟨U', l2, c2, s2⟩, hW₁, X', ⟨g', mk, t, L, E, ce, e1, e2, hq, hce, hcv, hcl, h1, hL, h2, h3⟩, st⟩
  · dsimp only [Pt.U, Pt.locs, Pt.cells, Pt.slots] at X' e1 e2 h1 h2 h3 st
    subst h1; subst h2; subst h3
    exact Or.inl ⟨v, (T.setVm vm₁).calling g' mk (Value.ref b :: As).toArray, t, U', L, hT, X', hL, e1, e2, hq, st⟩
  · dsimp only [Pt.U, Pt.locs, Pt.cells, Pt.slots] at X' e1 e2 h1 h2 h3 st hcl
    subst h1; subst h2; subst h3
    exact Or.inr ⟨q, (T.setVm vm₁).calling g' mk (Value.ref b :: As).toArray, t, U', L, E, ce, hT, X', hL, e1, e2, hq, hce, hcv, vx_cls hW₁ hcl, st⟩
theorem vx_runSX {hh : List (Nat × Nat × Nat × Nat)} (S : CallFix p m c cc nL s args Ts own) (hM : vx_Met l y ws rm Pc Qc XC mc ms free) (cw : vx_CSW R s args own index y bytes maxL ret hh ws rm mc ms n) (hp : PreS s H Pc As)
    (hg : g.method = m) (hn : As.length = n) (hsize : g.locals.size = nL) (hstack : g.stack = As.reverse ++ rest) (hW : 2 * g.monitorRoom + (rest.map fun v => v.category).sum ≤ 8) (hdg : decode cc g.pc = .ok (.invokestatic index, 3)) (hf : cells + mc ≤ R.cells ∧ slots + ms ≤ R.slots) :
    vx_Run p l e R s m args below meth c H locs cells slots mc ms g rest (Qc As.toArray) XC free := by
  obtain ⟨⟨hrc, hrs, hfr, hlo, hws, hcw⟩, hcode, hini, hy, hlen, hl, hstt⟩ := cw
  have hK : vx_Back l R p e below s args y 3 8 (PreOf R mc ms Pc) (PostOf Qc mc ms free) (vx_Post XC mc ms free) := vx_backW (hh := hh) (bytes := bytes) (maxL := maxL) (ret := ret) hM hp.1 hrc hrs hfr hlo hws hcw (fun a' U hW => word_at hW (Or.inl (by first | rfl | simp [Cond.onTables, Cond.keeps, Cond.steady])) hini)
  obtain ⟨hx, hb, hml, ho, -⟩ := S
  intro T hT X
  rcases vx_callSX X hx (hh := hh) (bytes := bytes) (maxL := maxL) (ret := ret) ho hl hstt hini hcode hy hK hg (hsize.trans hml.symm) (argsL := As) (rest := rest) (fun sig h => hn.trans (hlen sig h)) hstack hW (by rw [hb]; exact hdg)
    (fun vm₁ hW₁ => ⟨hf.1, hf.2, hp.2 (T.setVm vm₁) hT hW₁⟩) with ⟨v, vm₁, ⟨U', l2, c2, s2⟩, hW₁, X', ⟨g', mk, t, L, e1, e2, hq, h1, hL, h2, h3⟩, st⟩ | ⟨q, vm₁, ⟨U', l2, c2, s2⟩, hW₁, X', ⟨g', mk, t, L, E, ce, e1, e2, hq, hce, hcv, hcl, h1, hL, h2, h3⟩, st⟩
  · dsimp only [Pt.U, Pt.locs, Pt.cells, Pt.slots] at X' e1 e2 h1 h2 h3 st
    subst h1; subst h2; subst h3
    exact Or.inl ⟨v, (T.setVm vm₁).calling g' mk As.toArray, t, U', L, hT, X', hL, e1, e2, hq, st⟩
  · dsimp only [Pt.U, Pt.locs, Pt.cells, Pt.slots] at X' e1 e2 h1 h2 h3 st hcl
    subst h1; subst h2; subst h3
    exact Or.inr ⟨q, (T.setVm vm₁).calling g' mk As.toArray, t, U', L, E, ce, hT, X', hL, e1, e2, hq, hce, hcv, vx_cls hW₁ hcl, st⟩
end
end VXH
theorem vx_ofWH {l : Launch} {y : MethodName} {ws ws' : List Cond} {rm : Room} {Pc : Array Value → State → Prop} {Qc : Array Value → State → Outcome → State → Prop} {XC : String → State → State → Prop} {mc ms : Nat} {free : Addr → Prop} {cc : ByteArray} {maxL : Nat} {ret : Option FieldType} {hh : List (Nat × Nat × Nat × Nat)}
    (hy : plainName y.cls = true) (hw : ws = Cond.codeWith y cc maxL ret hh :: ws')
    (body : ∀ p e s m args below meth c s₁, BodyLoose p l y (headSpec ws rm) cc maxL ret e s m args below meth c s₁ → c.maxLocals = maxL → Pc args s →
      W p l e (headSpec ws rm).room s m args below meth c s.heap [] 0 0 (vx_MQ below Qc XC args s mc ms free) (entryFrame m args maxL)) : vx_Met l y ws rm Pc Qc XC mc ms free := by
  refine MetFree.of_bodyS (code := cc) (maxLocals := maxL) (ret := ret) hy ?_ ?_
  · intro args s m h hn
    obtain ⟨m9, meth, c, hn9, h1, h2, h3, h4, -, h5, h6, -⟩ := Cond.codeWith_spec (atoms_spec (ws := ws) h _ (by rw [hw]; exact List.mem_cons_self))
    cases hn.symm.trans hn9
    exact ⟨meth, c, h1, h2, h3, h4, h5, h6⟩
  · intro p e s m args below meth c s₁ B hml hP _
    have hh0 : s₁.heap = s.heap := by rw [B.state]; rfl
    obtain ⟨t, a1, o, b1, b2, b3⟩ := body p e s m args below meth c s₁ B hml hP s₁ hh0 (Stand.of_body B)
    exact ⟨t, o, a1, b1, b2, b3⟩
/-! ===== END ===== -/
end
section
/-! A small program logic over the kit's rows: numbers are integers, the cells are four maps (kinds, ints, longs, references) by address and place. -/
abbrev gTy : Type := Nat ⊕ (Nat × Nat)
abbrev gT : Type := Nat × (Nat → Option gTy)
abbrev gI : Type := Nat → Int → Int
abbrev gJ : Type := Nat → Int → Int64
abbrev gO : Type := Nat → Int → Option Nat
abbrev in32 (z : Int) : Prop := -2147483648 ≤ z ∧ z ≤ 2147483647
def VI (z : Int) : Value := .int (Int32.ofInt z)
theorem i32_toInt {z : Int} (h : in32 z) : (Int32.ofInt z).toInt = z := Int32.toInt_ofInt_of_le (by have := h.1; omega) (by have := h.2; omega)
theorem i32_lt {x y : Int} (hx : in32 x) (hy : in32 y) : Int32.ofInt x < Int32.ofInt y ↔ x < y := by rw [Int32.lt_iff_toInt_lt, i32_toInt hx, i32_toInt hy]
theorem i32_le {x y : Int} (hx : in32 x) (hy : in32 y) : Int32.ofInt x ≤ Int32.ofInt y ↔ x ≤ y := by rw [Int32.le_iff_toInt_le, i32_toInt hx, i32_toInt hy]
theorem i32_eq {x y : Int} (hx : in32 x) (hy : in32 y) : Int32.ofInt x = Int32.ofInt y ↔ x = y := by
  constructor
  · intro h
    rw [← i32_toInt hx, ← i32_toInt hy, h]
  · intro h
    rw [h]
theorem i32_zero : (0 : Int32) = Int32.ofInt 0 := rfl
theorem i32_self (v : Int32) : Int32.ofInt v.toInt = v := Int32.ofInt_toInt v
theorem i32_in (v : Int32) : in32 v.toInt := ⟨by have := Int32.le_toInt v; omega, by have := Int32.toInt_lt v; omega⟩
theorem VI_of (v : Int32) : Value.int v = VI v.toInt := by rw [VI, i32_self]
theorem i32_clamp {z : Int} (h0 : 0 ≤ z) (h : in32 z) : (Int32.ofInt z).toNatClampNeg = z.toNat := by
  rw [Int32.toNatClampNeg, i32_toInt h]
theorem i32_vpin {z : Int} {n : Nat} (h0 : 0 ≤ z) (h1 : z < n) (h : in32 z) : vp_in (Int32.ofInt z) n := vp_in_iff.mpr (by rw [i32_toInt h]; exact ⟨h0, h1⟩)
def gty (ci : Nat) : Nat → FieldType := match ci with
  | 0 => tyX0
  | 1 => tyX1
  | 2 => tyX2
  | 3 => tyX3
  | 4 => tyX4
  | 5 => tyX5
  | 6 => tyX6
  | 7 => tyX7
  | 8 => tyX8
  | 9 => tyX9
  | 10 => tyX10
  | _ => tyX11
def gTb (ci : Nat) : u_T := match ci with
  | 0 => TX0
  | 1 => TX1
  | 2 => TX2
  | 3 => TX3
  | 4 => TX4
  | 5 => TX5
  | 6 => TX6
  | 7 => TX7
  | 8 => TX8
  | 9 => TX9
  | 10 => TX10
  | _ => TX11
def gRn (ci : Nat) : String := match ci with
  | 0 => RX0
  | 1 => RX1
  | 2 => RX2
  | 3 => RX3
  | 4 => RX4
  | 5 => RX5
  | 6 => RX6
  | 7 => RX7
  | 8 => RX8
  | 9 => RX9
  | 10 => RX10
  | _ => RX11
def gN (ci : Nat) : Nat := match ci with
  | 0 => 12
  | 1 => 1
  | 2 => 3
  | 3 => 1
  | 4 => 7
  | 5 => 7
  | 6 => 3
  | 7 => 2
  | 8 => 9
  | 9 => 2
  | 10 => 4
  | _ => 31
def gK (t : FieldType) : Nat := match t with
  | .int => 0
  | .boolean => 0
  | .long => 1
  | _ => 2
def gVk (k : Nat) (i : Int) (j : Int64) (o : Option Nat) : Value := match k with
  | 0 => VI i
  | 1 => .long j
  | _ => va_rf o
def gfs (ci : Nat) (I : gI) (J : gJ) (O : gO) (a : Nat) : List Value := (List.range (gN ci)).map (fun (k : Nat) => gVk (gK (gty ci k)) (I a k) (J a k) (O a k))
def garr (t : Nat) (I : gI) (J : gJ) (O : gO) (a : Nat) : (Nat → Int32) ⊕ (Nat → Int64) ⊕ (Nat → UInt32) ⊕ (Nat → UInt64) ⊕ (Nat → Option Nat) := match t with
  | 0 => .inl (fun k => Int32.ofInt (I a k))
  | 1 => .inl (fun k => Int32.ofInt (I a k))
  | 2 => .inl (fun k => Int32.ofInt (I a k))
  | 3 => .inr (.inl (fun k => J a k))
  | _ => .inr (.inr (.inr (.inr (fun k => O a k))))
def gAt (t : Nat) : FieldType := match t with
  | 0 => .int
  | 1 => .boolean
  | 2 => .char
  | 3 => .long
  | 4 => .object RX8
  | 5 => .object RX5
  | _ => .object RX3
abbrev gtys (kA : Nat → ClassId) : List (ClassId × FieldType) := [(kA 0, .int), (kA 1, .boolean), (kA 2, .char), (kA 3, .long), (kA 4, .object RX8), (kA 5, .object RX5), (kA 6, .object RX3)]
def gcel (kA : Nat → ClassId) (ty : gTy) (I : gI) (J : gJ) (O : gO) (a : Nat) : va_E := match ty with
  | .inl ci => .inr (ci, gfs ci I J O a)
  | .inr q => .inl (kA q.1, q.2, garr q.1 I J O a)
/-- D, the array classes, where the system's cells begin -/
abbrev gD : Type := va_G × (Nat → ClassId) × Nat
def gWd (E : gD) (T : gT) (I : gI) (J : gJ) (O : gO) (H : Heap) : Prop :=
  H.size = T.1 ∧ (∀ (a : Nat) (ty : gTy), T.2 a = some ty → E.2.2 ≤ a ∧ va_at E.1 vwCl (a, gcel E.2.1 ty I J O a) H) ∧ (∀ a k, in32 (I a k)) ∧ ∀ a k, T.1 ≤ a → I a k = 0 ∧ J a k = 0 ∧ O a k = none
def uI (I : gI) (a : Nat) (k x : Int) : gI := fun b j => if b = a ∧ j = k then x else I b j
def uJ (J : gJ) (a : Nat) (k : Int) (x : Int64) : gJ := fun b j => if b = a ∧ j = k then x else J b j
def uO (O : gO) (a : Nat) (k : Int) (x : Option Nat) : gO := fun b j => if b = a ∧ j = k then x else O b j
theorem gcel_ne {kA : Nat → ClassId} {ty : gTy} {I I' : gI} {J J' : gJ} {O O' : gO} {a : Nat} (hI : ∀ k, I' a k = I a k) (hJ : ∀ k, J' a k = J a k) (hO : ∀ k, O' a k = O a k) : gcel kA ty I' J' O' a = gcel kA ty I J O a := by
  cases ty with
  | inl ci => simp only [gcel, gfs, hI, hJ, hO]
  | inr q =>
    obtain ⟨t, n⟩ := q
    simp only [gcel, garr, hI, hJ, hO]
/-- a cell is written: the others stay -/
theorem gWd.put {E : gD} {T : gT} {I I' : gI} {J J' : gJ} {O O' : gO} {H H1 : Heap} {a : Nat} {ty : gTy} (h : gWd E T I J O H) (ha : T.2 a = some ty) (hz : H1.size = H.size) (hq : ∀ q : Nat, q ≠ a → H1[q]? = H[q]?)
    (hc : va_at E.1 vwCl (a, gcel E.2.1 ty I' J' O' a) H1) (hI : ∀ b, b ≠ a → ∀ k, I' b k = I b k) (hJ : ∀ b, b ≠ a → ∀ k, J' b k = J b k) (hO : ∀ b, b ≠ a → ∀ k, O' b k = O b k) (hr : ∀ a k, in32 (I' a k)) : gWd E T I' J' O' H1 := by
  have hlt : a < T.1 := by rw [← h.1]; exact (h.2.1 a ty ha).2.lt
  refine ⟨hz.trans h.1, fun b tb hb => ⟨(h.2.1 b tb hb).1, ?_⟩, hr, fun b k hb => ?_⟩
  rotate_left
  · have hne : b ≠ a := by omega
    rw [hI b hne, hJ b hne, hO b hne]
    exact h.2.2.2 b k hb
  by_cases e : b = a
  · subst e
    cases Option.some.inj (ha.symm.trans hb)
    exact hc
  · rw [gcel_ne (hI b e) (hJ b e) (hO b e)]
    exact (h.2.1 b tb hb).2.kept (hq b e)
theorem gWd.eqv {E : gD} {T : gT} {I : gI} {J : gJ} {O : gO} {H H1 : Heap} (h : gWd E T I J O H) (e : H1 = H) : gWd E T I J O H1 := by rw [e]; exact h
/-- the words that a caller hands on: those of the tables that no step undoes -/
def gtb : List Cond := lw_tbl.filter goodWord
def gxk (w : Cond) : Bool := match w with
  | .methodLinkNest .. => true
  | .declares .. => true
  | .castable .. => true
  | _ => false
def gxw : List Cond := lw_tbl.filter gxk
def gstr : List (Nat × String) := [(265, "no such replica"), (268, "no such position"), (67, "no further line can be made here"), (274, "the log is full"), (80, "no room between the lines"), (270, "the argument is out of range"), (111, "the text is no formula at this replica"), (149, "the cell has no formula"), (272, "it is the same replica"), (231, "the text is full"), (240, "there is no record")]
theorem gxw_warm {w : Cond} (hw : w ∈ gxw) {s U : State} (hW : s.WarmedH U.vm) (h : va_Nw w s) : va_Nw w U := by
  have h1 := (List.mem_filter.mp hw).2
  cases w <;> first | exact va_Nw.warmM hW h | exact va_Nw.warmD hW h | (simp [gxk] at h1; done) | exact va_tabs rfl (rfl : (s.setVm U.vm).vm = U.vm) (by rw [Cond.castable_setVm hW.alike]; exact h)
theorem gxw_same {w : Cond} (hw : w ∈ gxw) {s U : State} (hv : s.vm = U.vm) (h : va_Nw w s) : va_Nw w U := by
  have h1 := (List.mem_filter.mp hw).2
  cases w <;> first | exact va_Nw.same rfl hv h | (simp [gxk] at h1; done)
/-- what every method's start knows of the tables, beside the good words -/
def gE (E : gD) (s : State) (H : Heap) : Prop := va_K E.1 vwCl (gtys E.2.1) s ∧ (∀ w ∈ gxw, va_Nw w s) ∧ (va_AO RX8 s ∧ va_AO RX3 s ∧ va_AO RX5 s) ∧ (∀ q ∈ gstr, ∃ sa, vk_R RX10 q.1 q.2 sa s) ∧
  vx_Zq Bundle.tN "UNASSIGNED_STACK" Bundle.steD (fun q => E.2.2 ≤ q) s H ∧ vx_Zq Bundle.tN "SUPPRESSED_SENTINEL" Bundle.listD (fun q => E.2.2 ≤ q) s H
theorem gE.warm {E : gD} {s U : State} {H : Heap} (hW : s.WarmedH U.vm) (h : gE E s H) : gE E U H := by
  obtain ⟨h1, h2, ⟨h3, h4, h5⟩, h6, h7, h8⟩ := h
  exact ⟨va_K.moved hW.alike h1, fun w hw => gxw_warm hw hW (h2 w hw), ⟨h3.moved hW.alike, h4.moved hW.alike, h5.moved hW.alike⟩, fun q hq => by obtain ⟨sa, h⟩ := h6 q hq; exact ⟨sa, vk_R.warm hW h⟩, h7.moved hW.alike, h8.moved hW.alike⟩
theorem gE.same {E : gD} {s U : State} {H : Heap} (hv : s.vm = U.vm) (h : gE E s H) : gE E U H := by
  obtain ⟨h1, h2, ⟨h3, h4, h5⟩, h6, h7, h8⟩ := h
  have hal : s.vm.Alike U.vm := by rw [hv]; exact Vm.Alike.refl _
  exact ⟨va_K.moved hal h1, fun w hw => gxw_same hw hv (h2 w hw), ⟨h3.moved hal, h4.moved hal, h5.moved hal⟩, fun q hq => by obtain ⟨sa, h⟩ := h6 q hq; exact ⟨sa, vk_R.same hv.symm h⟩, h7.moved hal, h8.moved hal⟩
theorem gE.kept {E : gD} {s : State} {H H1 : Heap} (h : gE E s H) (hq : ∀ a : Nat, a < H.size → ¬ E.2.2 ≤ a → H1[a]? = H[a]?) : gE E s H1 := by
  obtain ⟨h1, h2, h3, h6, h7, h8⟩ := h
  exact ⟨h1, h2, h3, h6, h7.kept hq, h8.kept hq⟩
end
section
def gLs (ls : Array Slot) (nL : Nat) (Ls : List (Option Value)) : Prop := ls.size = nL ∧ lv_wf ls ∧ Ls.length ≤ nL ∧ ∀ (i : Nat) (v : Value), Ls[i]? = some (some v) → ls[i]? = some (.val v)
def prs (Ls : List (Option Value)) : List (Nat × Value) := (List.range Ls.length).filterMap (fun i => match Ls[i]? with
  | some (some v) => some (i, v)
  | _ => none)
theorem prs_mem {Ls : List (Option Value)} {i : Nat} {v : Value} : (i, v) ∈ prs Ls ↔ Ls[i]? = some (some v) := by
  unfold prs
  rw [List.mem_filterMap]
  constructor
  · rintro ⟨j, hj, h⟩
    split at h
    · next w hw =>
      cases h
      exact hw
    · cases h
  · intro h
    refine ⟨i, List.mem_range.mpr (List.getElem?_eq_some_iff.mp h).1, ?_⟩
    rw [h]
theorem gLs.has {ls : Array Slot} {nL : Nat} {Ls : List (Option Value)} (h : gLs ls nL Ls) : lv_has ls nL (prs Ls) := ⟨h.1, h.2.1, fun q hq => h.2.2.2 q.1 q.2 (prs_mem.mp hq)⟩
def gc1 (o : Option Value) : Prop := ∀ w, o = some w → w.category ≠ 2
theorem gc1_n : gc1 none := fun w h => by cases h
theorem gc1_i {z : Int} : gc1 (some (VI z)) := fun w h => by cases h; exact (by decide : (1 : Nat) ≠ 2)
theorem cat_rf (o : Option Nat) : (va_rf o).category = 1 := by cases o <;> rfl
theorem gc1_r {o : Option Nat} : gc1 (some (va_rf o)) := fun w h => by cases h; rw [cat_rf]; decide
/-- behind a store of one word -/
theorem gLs.st1 {ls ls' : Array Slot} {nL i : Nat} {pre r : List (Option Value)} {o : Option Value} {v : Value} (h : gLs ls nL (pre ++ o :: r)) (hi : pre.length = i) (hb : ∀ w, pre.getLast? = some (some w) → w.category ≠ 2)
    (h' : lv_has ls' nL ((i, v) :: (prs (pre ++ o :: r)).filter (fun q => !(q.1 == i) && !(q.1 + 1 == i && q.2.category == 2)))) : gLs ls' nL (pre ++ some v :: r) := by
  refine ⟨h'.1, h'.2.1, by have := h.2.2.1; simpa using this, fun j w hw => ?_⟩
  by_cases hj : j = i
  · subst hj
    subst hi
    rw [List.getElem?_append_right (Nat.le_refl _), Nat.sub_self] at hw
    cases hw
    exact h'.2.2 (_, _) List.mem_cons_self
  · have hold : (pre ++ o :: r)[j]? = some (some w) := by
      rw [← hw]
      rcases Nat.lt_or_ge j pre.length with q | q
      · rw [List.getElem?_append_left q, List.getElem?_append_left q]
      · rw [List.getElem?_append_right q, List.getElem?_append_right q]
        obtain ⟨d, hd⟩ : ∃ d, j - pre.length = d + 1 := ⟨j - pre.length - 1, by omega⟩
        rw [hd, List.getElem?_cons_succ, List.getElem?_cons_succ]
    refine h'.2.2 (j, w) (List.mem_cons_of_mem _ (List.mem_filter.mpr ⟨prs_mem.mpr hold, ?_⟩))
    simp only [Bool.and_eq_true, Bool.not_eq_true', beq_eq_false_iff_ne, ne_eq, Bool.and_eq_false_iff]
    refine ⟨hj, ?_⟩
    by_cases hj1 : j + 1 = i
    · right
      have hlt : j < pre.length := by omega
      rw [List.getElem?_append_left hlt] at hold
      have hl : pre.getLast? = some (some w) := by
        rw [List.getLast?_eq_getElem?, ← hold]
        congr 1
        omega
      have := hb w hl
      simpa using this
    · left
      exact hj1
/-- behind a store of two words -/
theorem gLs.st2 {ls ls' : Array Slot} {nL i : Nat} {pre r : List (Option Value)} {o o2 : Option Value} {v : Value} (h : gLs ls nL (pre ++ o :: o2 :: r)) (hi : pre.length = i) (hb : ∀ w, pre.getLast? = some (some w) → w.category ≠ 2)
    (h' : lv_has ls' nL ((i, v) :: (prs (pre ++ o :: o2 :: r)).filter (fun q => !(q.1 == i) && (!(q.1 == i + 1) && !(q.1 + 1 == i && q.2.category == 2))))) : gLs ls' nL (pre ++ some v :: none :: r) := by
  refine ⟨h'.1, h'.2.1, by have := h.2.2.1; simpa using this, fun j w hw => ?_⟩
  by_cases hj : j = i
  · subst hj
    subst hi
    rw [List.getElem?_append_right (Nat.le_refl _), Nat.sub_self] at hw
    cases hw
    exact h'.2.2 (_, _) List.mem_cons_self
  · by_cases hj2 : j = i + 1
    · subst hj2
      subst hi
      rw [List.getElem?_append_right (by omega), show pre.length + 1 - pre.length = 1 by omega] at hw
      cases hw
    · have hold : (pre ++ o :: o2 :: r)[j]? = some (some w) := by
        rw [← hw]
        rcases Nat.lt_or_ge j pre.length with q | q
        · rw [List.getElem?_append_left q, List.getElem?_append_left q]
        · rw [List.getElem?_append_right q, List.getElem?_append_right q]
          obtain ⟨d, hd⟩ : ∃ d, j - pre.length = d + 2 := ⟨j - pre.length - 2, by omega⟩
          rw [hd, List.getElem?_cons_succ, List.getElem?_cons_succ, List.getElem?_cons_succ, List.getElem?_cons_succ]
      refine h'.2.2 (j, w) (List.mem_cons_of_mem _ (List.mem_filter.mpr ⟨prs_mem.mpr hold, ?_⟩))
      simp only [Bool.and_eq_true, Bool.not_eq_true', beq_eq_false_iff_ne, ne_eq, Bool.and_eq_false_iff]
      refine ⟨hj, hj2, ?_⟩
      by_cases hj1 : j + 1 = i
      · right
        have hlt : j < pre.length := by omega
        rw [List.getElem?_append_left hlt] at hold
        have hl : pre.getLast? = some (some w) := by
          rw [List.getLast?_eq_getElem?, ← hold]
          congr 1
          omega
        have := hb w hl
        simpa using this
      · left
        exact hj1
theorem gLs.lt {ls : Array Slot} {nL i : Nat} {pre r : List (Option Value)} {o : Option Value} (h : gLs ls nL (pre ++ o :: r)) (hi : pre.length = i) : i < nL := by
  have := h.2.2.1
  simp only [List.length_append, List.length_cons] at this
  omega
theorem gLs.lt2 {ls : Array Slot} {nL i : Nat} {pre r : List (Option Value)} {o o2 : Option Value} (h : gLs ls nL (pre ++ o :: o2 :: r)) (hi : pre.length = i) : i + 1 < nL := by
  have := h.2.2.1
  simp only [List.length_append, List.length_cons] at this
  omega
abbrev gX : Type := Program × Launch × Env × Room × State × MethodId × Array Value × List Frame × Method × Code × gD × (State → Prop)
/-- the machine, at pc with these locals, this stack and these cells, comes to the end that X names -/
def G (X : gX) (pc : Nat) (Ls : List (Option Value)) (st : List Value) (T : gT) (I : gI) (J : gJ) (O : gO) (k n : Nat) : Prop :=
  match X with
  | (p, l, e, R, s, m, args, below, meth, c, E, Q) => ∀ (H : Heap) (locs : List Loc) (ls : Array Slot), gWd E T I J O H → va_S (fun q => E.2.2 ≤ q) s.heap H locs → gLs ls c.maxLocals Ls → W p l e R s m args below meth c H locs k n Q (F0 m pc ls st)
/-- what is known in the body of a method: its code, its class, the words -/
def Ok (X : gX) (cc : ByteArray) (own : String) : Prop :=
  match X with
  | (p, l, _, _, s, m, args, _, meth, c, E, _) => p.tables.exec = Jvm.exec ∧ c.code = cc ∧ s.vm.findClass own = some m.cls ∧ (∀ w ∈ gtb, w.before args s = true) ∧ gE E s s.heap ∧ E.2.2 ≤ s.heap.size ∧ meth.locks = false ∧ l.stackTraces = false
def Dc (cc : ByteArray) (pc : Nat) (i : Instr) (len q : Nat) : Prop := decode cc pc = .ok (i, len) ∧ q = pc + len
def Db (cc : ByteArray) (pc : Nat) (f : Int → Instr) (tgt q : Nat) : Prop := ∃ off : Int, decode cc pc = .ok (f off, 3) ∧ (pc : Int) + off = (tgt : Int) ∧ q = pc + 3
def Dk (cc : ByteArray) (pc : Nat) (z : Int) (q : Nat) : Prop := (decode cc pc = .ok (.iconst z, 1) ∧ q = pc + 1) ∨ (decode cc pc = .ok (.bipush z, 2) ∧ (Int8.ofInt z).toInt32 = Int32.ofInt z ∧ q = pc + 2) ∨ (decode cc pc = .ok (.sipush z, 3) ∧ (Int16.ofInt z).toInt32 = Int32.ofInt z ∧ q = pc + 3)

def Diload (cc : ByteArray) (pc i q : Nat) : Prop := (∃ k : Fin 4, decode cc pc = .ok (.iload_n k, 1) ∧ (k : Nat) = i ∧ q = pc + 1) ∨ (decode cc pc = .ok (.iload i, 2) ∧ q = pc + 2)
def Daload (cc : ByteArray) (pc i q : Nat) : Prop := (∃ k : Fin 4, decode cc pc = .ok (.aload_n k, 1) ∧ (k : Nat) = i ∧ q = pc + 1) ∨ (decode cc pc = .ok (.aload i, 2) ∧ q = pc + 2)
def Dlload (cc : ByteArray) (pc i q : Nat) : Prop := (∃ k : Fin 4, decode cc pc = .ok (.lload_n k, 1) ∧ (k : Nat) = i ∧ q = pc + 1) ∨ (decode cc pc = .ok (.lload i, 2) ∧ q = pc + 2)
def Distore (cc : ByteArray) (pc i q : Nat) : Prop := (∃ k : Fin 4, decode cc pc = .ok (.istore_n k, 1) ∧ (k : Nat) = i ∧ q = pc + 1) ∨ (decode cc pc = .ok (.istore i, 2) ∧ q = pc + 2)
def Dastore (cc : ByteArray) (pc i q : Nat) : Prop := (∃ k : Fin 4, decode cc pc = .ok (.astore_n k, 1) ∧ (k : Nat) = i ∧ q = pc + 1) ∨ (decode cc pc = .ok (.astore i, 2) ∧ q = pc + 2)
def Dlstore (cc : ByteArray) (pc i q : Nat) : Prop := (∃ k : Fin 4, decode cc pc = .ok (.lstore_n k, 1) ∧ (k : Nat) = i ∧ q = pc + 1) ∨ (decode cc pc = .ok (.lstore i, 2) ∧ q = pc + 2)
section GR
variable {X : gX} {cc : ByteArray} {own : String} {pc q : Nat} {Ls : List (Option Value)} {st : List Value} {T : gT} {I : gI} {J : gJ} {O : gO} {k n : Nat}
theorem G_push {z : Int} (x : Ok X cc own) (d : Dk cc pc z q) (h : G X q Ls (VI z :: st) T I J O k n) : G X pc Ls st T I J O k n := by
  obtain ⟨p, l, e, R, s, m, args, below, meth, c, E, Q⟩ := X
  intro H locs ls hW hS hL
  rcases d with ⟨d, rfl⟩ | ⟨d, hv, rfl⟩ | ⟨d, hv, rfl⟩
  · exact lv_iconst x.1 x.2.1 d rfl (h H locs ls hW hS hL)
  · exact lv_bipush x.1 x.2.1 d hv (h H locs ls hW hS hL)
  · exact lv_sipush x.1 x.2.1 d hv (h H locs ls hW hS hL)
theorem G_iload {i : Nat} {z : Int} (x : Ok X cc own) (d : Diload cc pc i q) (hl : Ls[i]? = some (some (VI z))) (h : G X q Ls (VI z :: st) T I J O k n) : G X pc Ls st T I J O k n := by
  obtain ⟨p, l, e, R, s, m, args, below, meth, c, E, Q⟩ := X
  intro H locs ls hW hS hL
  rcases d with ⟨k9, d, hi, rfl⟩ | ⟨d, rfl⟩
  · exact lv_iload_n x.1 x.2.1 d hi (hL.2.2.2 _ _ hl) (h H locs ls hW hS hL)
  · exact lv_iload x.1 x.2.1 d (hL.2.2.2 _ _ hl) (h H locs ls hW hS hL)
theorem G_lload {i : Nat} {z : Int64} (x : Ok X cc own) (d : Dlload cc pc i q) (hl : Ls[i]? = some (some (.long z))) (h : G X q Ls (.long z :: st) T I J O k n) : G X pc Ls st T I J O k n := by
  obtain ⟨p, l, e, R, s, m, args, below, meth, c, E, Q⟩ := X
  intro H locs ls hW hS hL
  rcases d with ⟨k9, d, hi, rfl⟩ | ⟨d, rfl⟩
  · exact lv_lload_n x.1 x.2.1 d hi (hL.2.2.2 _ _ hl) (h H locs ls hW hS hL)
  · exact lv_lload x.1 x.2.1 d (hL.2.2.2 _ _ hl) (h H locs ls hW hS hL)
theorem G_aload {i : Nat} {o : Option Nat} (x : Ok X cc own) (d : Daload cc pc i q) (hl : Ls[i]? = some (some (va_rf o))) (h : G X q Ls (va_rf o :: st) T I J O k n) : G X pc Ls st T I J O k n := by
  obtain ⟨p, l, e, R, s, m, args, below, meth, c, E, Q⟩ := X
  intro H locs ls hW hS hL
  cases o with
  | none =>
    rcases d with ⟨k9, d, hi, rfl⟩ | ⟨d, rfl⟩
    · exact lv_aload_nN x.1 x.2.1 d hi (hL.2.2.2 _ _ hl) (h H locs ls hW hS hL)
    · exact lv_aloadN x.1 x.2.1 d (hL.2.2.2 _ _ hl) (h H locs ls hW hS hL)
  | some a =>
    rcases d with ⟨k9, d, hi, rfl⟩ | ⟨d, rfl⟩
    · exact lv_aload_n x.1 x.2.1 d hi (hL.2.2.2 _ _ hl) (h H locs ls hW hS hL)
    · exact lv_aload x.1 x.2.1 d (hL.2.2.2 _ _ hl) (h H locs ls hW hS hL)
theorem G_istore {i : Nat} {z : Int} {pre r : List (Option Value)} {o9 : Option Value} (x : Ok X cc own) (d : Distore cc pc i q) (hi : pre.length = i) (hb : ∀ w, pre.getLast? = some (some w) → w.category ≠ 2) (h : G X q (pre ++ some (VI z) :: r) st T I J O k n) : G X pc (pre ++ o9 :: r) (VI z :: st) T I J O k n := by
  obtain ⟨p, l, e, R, s, m, args, below, meth, c, E, Q⟩ := X
  intro H locs ls hW hS hL
  rcases d with ⟨k9, d, hk, rfl⟩ | ⟨d, rfl⟩
  · exact lv_istore_n x.1 x.2.1 d hk hL.has (hL.lt hi) rfl (fun ls' h' => h H locs ls' hW hS (hL.st1 hi hb h'))
  · exact lv_istore x.1 x.2.1 d hL.has (hL.lt hi) rfl (fun ls' h' => h H locs ls' hW hS (hL.st1 hi hb h'))
theorem G_astore {i : Nat} {o : Option Nat} {pre r : List (Option Value)} {o9 : Option Value} (x : Ok X cc own) (d : Dastore cc pc i q) (hi : pre.length = i) (hb : ∀ w, pre.getLast? = some (some w) → w.category ≠ 2) (h : G X q (pre ++ some (va_rf o) :: r) st T I J O k n) : G X pc (pre ++ o9 :: r) (va_rf o :: st) T I J O k n := by
  obtain ⟨p, l, e, R, s, m, args, below, meth, c, E, Q⟩ := X
  intro H locs ls hW hS hL
  cases o with
  | none =>
    rcases d with ⟨k9, d, hk, rfl⟩ | ⟨d, rfl⟩
    · exact lv_astore_nN x.1 x.2.1 d hk hL.has (hL.lt hi) rfl (fun ls' h' => h H locs ls' hW hS (hL.st1 hi hb h'))
    · exact lv_astoreN x.1 x.2.1 d hL.has (hL.lt hi) rfl (fun ls' h' => h H locs ls' hW hS (hL.st1 hi hb h'))
  | some a =>
    rcases d with ⟨k9, d, hk, rfl⟩ | ⟨d, rfl⟩
    · exact lv_astore_n x.1 x.2.1 d hk hL.has (hL.lt hi) rfl (fun ls' h' => h H locs ls' hW hS (hL.st1 hi hb h'))
    · exact lv_astore x.1 x.2.1 d hL.has (hL.lt hi) rfl (fun ls' h' => h H locs ls' hW hS (hL.st1 hi hb h'))
theorem G_lstore {i : Nat} {z : Int64} {pre r : List (Option Value)} {o9 o8 : Option Value} (x : Ok X cc own) (d : Dlstore cc pc i q) (hi : pre.length = i) (hb : ∀ w, pre.getLast? = some (some w) → w.category ≠ 2) (h : G X q (pre ++ some (.long z) :: none :: r) st T I J O k n) : G X pc (pre ++ o9 :: o8 :: r) (.long z :: st) T I J O k n := by
  obtain ⟨p, l, e, R, s, m, args, below, meth, c, E, Q⟩ := X
  intro H locs ls hW hS hL
  rcases d with ⟨k9, d, hk, rfl⟩ | ⟨d, rfl⟩
  · exact lv_lstore_n x.1 x.2.1 d hk hL.has (hL.lt2 hi) rfl (fun ls' h' => h H locs ls' hW hS (hL.st2 hi hb h'))
  · exact lv_lstore x.1 x.2.1 d hL.has (hL.lt2 hi) rfl (fun ls' h' => h H locs ls' hW hS (hL.st2 hi hb h'))
theorem G_iinc {i : Nat} {z y : Int} {pre r : List (Option Value)} (x : Ok X cc own) (d : Dc cc pc (.iinc i y) 3 q) (hi : pre.length = i) (hb : ∀ w, pre.getLast? = some (some w) → w.category ≠ 2) (h : G X q (pre ++ some (VI (z + y)) :: r) st T I J O k n) : G X pc (pre ++ some (VI z) :: r) st T I J O k n := by
  obtain ⟨p, l, e, R, s, m, args, below, meth, c, E, Q⟩ := X
  intro H locs ls hW hS hL
  obtain ⟨d, rfl⟩ := d
  obtain ⟨k9, hk9⟩ := List.getElem?_of_mem (prs_mem.mpr (show (pre ++ some (VI z) :: r)[i]? = some (some (VI z)) by subst hi; rw [List.getElem?_append_right (Nat.le_refl _), Nat.sub_self]; rfl))
  exact lv_iinc (v := Int32.ofInt (z + y)) x.1 x.2.1 d hL.has hk9 (Int32.ofInt_add z y).symm (hL.lt hi) rfl (fun ls' h' => h H locs ls' hW hS (hL.st1 hi hb h'))
theorem G_iload0 {r : List (Option Value)} {z : Int} (x : Ok X cc own) (d : Diload cc pc 0 q) (h : G X q (some (VI z) :: r) (VI z :: st) T I J O k n) : G X pc (some (VI z) :: r) st T I J O k n := G_iload (i := 0) x d rfl h
theorem G_lload0 {r : List (Option Value)} {z : Int64} (x : Ok X cc own) (d : Dlload cc pc 0 q) (h : G X q (some (.long z) :: r) (.long z :: st) T I J O k n) : G X pc (some (.long z) :: r) st T I J O k n := G_lload (i := 0) x d rfl h
theorem G_aload0 {r : List (Option Value)} {z : Option Nat} (x : Ok X cc own) (d : Daload cc pc 0 q) (h : G X q (some (va_rf z) :: r) (va_rf z :: st) T I J O k n) : G X pc (some (va_rf z) :: r) st T I J O k n := G_aload (i := 0) x d rfl h
theorem G_istore0 {r : List (Option Value)} {o9 : Option Value} {z : Int} (x : Ok X cc own) (d : Distore cc pc 0 q) (h : G X q (some (VI z) :: r) st T I J O k n) : G X pc (o9 :: r) (VI z :: st) T I J O k n := G_istore (i := 0) (pre := []) x d rfl (fun w h => by cases h) h
theorem G_astore0 {r : List (Option Value)} {o9 : Option Value} {z : Option Nat} (x : Ok X cc own) (d : Dastore cc pc 0 q) (h : G X q (some (va_rf z) :: r) st T I J O k n) : G X pc (o9 :: r) (va_rf z :: st) T I J O k n := G_astore (i := 0) (pre := []) x d rfl (fun w h => by cases h) h
theorem G_lstore0 {r : List (Option Value)} {o9 o8 : Option Value} {z : Int64} (x : Ok X cc own) (d : Dlstore cc pc 0 q) (h : G X q (some (.long z) :: none :: r) st T I J O k n) : G X pc (o9 :: o8 :: r) (.long z :: st) T I J O k n := G_lstore (i := 0) (pre := []) x d rfl (fun w h => by cases h) h
theorem G_iinc0 {r : List (Option Value)} {z y : Int} (x : Ok X cc own) (d : Dc cc pc (.iinc 0 y) 3 q) (h : G X q (some (VI (z + y)) :: r) st T I J O k n) : G X pc (some (VI z) :: r) st T I J O k n := G_iinc (i := 0) (pre := []) x d rfl (fun w h => by cases h) h
theorem G_iload1 {a0 : Option Value} {r : List (Option Value)} {z : Int} (x : Ok X cc own) (d : Diload cc pc 1 q) (h : G X q (a0 :: some (VI z) :: r) (VI z :: st) T I J O k n) : G X pc (a0 :: some (VI z) :: r) st T I J O k n := G_iload (i := 1) x d rfl h
theorem G_lload1 {a0 : Option Value} {r : List (Option Value)} {z : Int64} (x : Ok X cc own) (d : Dlload cc pc 1 q) (h : G X q (a0 :: some (.long z) :: r) (.long z :: st) T I J O k n) : G X pc (a0 :: some (.long z) :: r) st T I J O k n := G_lload (i := 1) x d rfl h
theorem G_aload1 {a0 : Option Value} {r : List (Option Value)} {z : Option Nat} (x : Ok X cc own) (d : Daload cc pc 1 q) (h : G X q (a0 :: some (va_rf z) :: r) (va_rf z :: st) T I J O k n) : G X pc (a0 :: some (va_rf z) :: r) st T I J O k n := G_aload (i := 1) x d rfl h
theorem G_istore1 {a0 : Option Value} {r : List (Option Value)} {o9 : Option Value} {z : Int} (x : Ok X cc own) (d : Distore cc pc 1 q) (h : G X q (a0 :: some (VI z) :: r) st T I J O k n) (hb : gc1 a0 := by first | exact gc1_i | exact gc1_r | exact gc1_n) : G X pc (a0 :: o9 :: r) (VI z :: st) T I J O k n := G_istore (i := 1) (pre := [a0]) x d rfl (fun w h => hb w (Option.some.inj h)) h
theorem G_astore1 {a0 : Option Value} {r : List (Option Value)} {o9 : Option Value} {z : Option Nat} (x : Ok X cc own) (d : Dastore cc pc 1 q) (h : G X q (a0 :: some (va_rf z) :: r) st T I J O k n) (hb : gc1 a0 := by first | exact gc1_i | exact gc1_r | exact gc1_n) : G X pc (a0 :: o9 :: r) (va_rf z :: st) T I J O k n := G_astore (i := 1) (pre := [a0]) x d rfl (fun w h => hb w (Option.some.inj h)) h
theorem G_lstore1 {a0 : Option Value} {r : List (Option Value)} {o9 o8 : Option Value} {z : Int64} (x : Ok X cc own) (d : Dlstore cc pc 1 q) (h : G X q (a0 :: some (.long z) :: none :: r) st T I J O k n) (hb : gc1 a0 := by first | exact gc1_i | exact gc1_r | exact gc1_n) : G X pc (a0 :: o9 :: o8 :: r) (.long z :: st) T I J O k n := G_lstore (i := 1) (pre := [a0]) x d rfl (fun w h => hb w (Option.some.inj h)) h
theorem G_iinc1 {a0 : Option Value} {r : List (Option Value)} {z y : Int} (x : Ok X cc own) (d : Dc cc pc (.iinc 1 y) 3 q) (h : G X q (a0 :: some (VI (z + y)) :: r) st T I J O k n) (hb : gc1 a0 := by first | exact gc1_i | exact gc1_r | exact gc1_n) : G X pc (a0 :: some (VI z) :: r) st T I J O k n := G_iinc (i := 1) (pre := [a0]) x d rfl (fun w h => hb w (Option.some.inj h)) h
theorem G_iload2 {a0 a1 : Option Value} {r : List (Option Value)} {z : Int} (x : Ok X cc own) (d : Diload cc pc 2 q) (h : G X q (a0 :: a1 :: some (VI z) :: r) (VI z :: st) T I J O k n) : G X pc (a0 :: a1 :: some (VI z) :: r) st T I J O k n := G_iload (i := 2) x d rfl h
theorem G_lload2 {a0 a1 : Option Value} {r : List (Option Value)} {z : Int64} (x : Ok X cc own) (d : Dlload cc pc 2 q) (h : G X q (a0 :: a1 :: some (.long z) :: r) (.long z :: st) T I J O k n) : G X pc (a0 :: a1 :: some (.long z) :: r) st T I J O k n := G_lload (i := 2) x d rfl h
theorem G_aload2 {a0 a1 : Option Value} {r : List (Option Value)} {z : Option Nat} (x : Ok X cc own) (d : Daload cc pc 2 q) (h : G X q (a0 :: a1 :: some (va_rf z) :: r) (va_rf z :: st) T I J O k n) : G X pc (a0 :: a1 :: some (va_rf z) :: r) st T I J O k n := G_aload (i := 2) x d rfl h
theorem G_istore2 {a0 a1 : Option Value} {r : List (Option Value)} {o9 : Option Value} {z : Int} (x : Ok X cc own) (d : Distore cc pc 2 q) (h : G X q (a0 :: a1 :: some (VI z) :: r) st T I J O k n) (hb : gc1 a1 := by first | exact gc1_i | exact gc1_r | exact gc1_n) : G X pc (a0 :: a1 :: o9 :: r) (VI z :: st) T I J O k n := G_istore (i := 2) (pre := [a0, a1]) x d rfl (fun w h => hb w (Option.some.inj h)) h
theorem G_astore2 {a0 a1 : Option Value} {r : List (Option Value)} {o9 : Option Value} {z : Option Nat} (x : Ok X cc own) (d : Dastore cc pc 2 q) (h : G X q (a0 :: a1 :: some (va_rf z) :: r) st T I J O k n) (hb : gc1 a1 := by first | exact gc1_i | exact gc1_r | exact gc1_n) : G X pc (a0 :: a1 :: o9 :: r) (va_rf z :: st) T I J O k n := G_astore (i := 2) (pre := [a0, a1]) x d rfl (fun w h => hb w (Option.some.inj h)) h
theorem G_lstore2 {a0 a1 : Option Value} {r : List (Option Value)} {o9 o8 : Option Value} {z : Int64} (x : Ok X cc own) (d : Dlstore cc pc 2 q) (h : G X q (a0 :: a1 :: some (.long z) :: none :: r) st T I J O k n) (hb : gc1 a1 := by first | exact gc1_i | exact gc1_r | exact gc1_n) : G X pc (a0 :: a1 :: o9 :: o8 :: r) (.long z :: st) T I J O k n := G_lstore (i := 2) (pre := [a0, a1]) x d rfl (fun w h => hb w (Option.some.inj h)) h
theorem G_iinc2 {a0 a1 : Option Value} {r : List (Option Value)} {z y : Int} (x : Ok X cc own) (d : Dc cc pc (.iinc 2 y) 3 q) (h : G X q (a0 :: a1 :: some (VI (z + y)) :: r) st T I J O k n) (hb : gc1 a1 := by first | exact gc1_i | exact gc1_r | exact gc1_n) : G X pc (a0 :: a1 :: some (VI z) :: r) st T I J O k n := G_iinc (i := 2) (pre := [a0, a1]) x d rfl (fun w h => hb w (Option.some.inj h)) h
theorem G_iload3 {a0 a1 a2 : Option Value} {r : List (Option Value)} {z : Int} (x : Ok X cc own) (d : Diload cc pc 3 q) (h : G X q (a0 :: a1 :: a2 :: some (VI z) :: r) (VI z :: st) T I J O k n) : G X pc (a0 :: a1 :: a2 :: some (VI z) :: r) st T I J O k n := G_iload (i := 3) x d rfl h
theorem G_lload3 {a0 a1 a2 : Option Value} {r : List (Option Value)} {z : Int64} (x : Ok X cc own) (d : Dlload cc pc 3 q) (h : G X q (a0 :: a1 :: a2 :: some (.long z) :: r) (.long z :: st) T I J O k n) : G X pc (a0 :: a1 :: a2 :: some (.long z) :: r) st T I J O k n := G_lload (i := 3) x d rfl h
theorem G_aload3 {a0 a1 a2 : Option Value} {r : List (Option Value)} {z : Option Nat} (x : Ok X cc own) (d : Daload cc pc 3 q) (h : G X q (a0 :: a1 :: a2 :: some (va_rf z) :: r) (va_rf z :: st) T I J O k n) : G X pc (a0 :: a1 :: a2 :: some (va_rf z) :: r) st T I J O k n := G_aload (i := 3) x d rfl h
theorem G_istore3 {a0 a1 a2 : Option Value} {r : List (Option Value)} {o9 : Option Value} {z : Int} (x : Ok X cc own) (d : Distore cc pc 3 q) (h : G X q (a0 :: a1 :: a2 :: some (VI z) :: r) st T I J O k n) (hb : gc1 a2 := by first | exact gc1_i | exact gc1_r | exact gc1_n) : G X pc (a0 :: a1 :: a2 :: o9 :: r) (VI z :: st) T I J O k n := G_istore (i := 3) (pre := [a0, a1, a2]) x d rfl (fun w h => hb w (Option.some.inj h)) h
theorem G_astore3 {a0 a1 a2 : Option Value} {r : List (Option Value)} {o9 : Option Value} {z : Option Nat} (x : Ok X cc own) (d : Dastore cc pc 3 q) (h : G X q (a0 :: a1 :: a2 :: some (va_rf z) :: r) st T I J O k n) (hb : gc1 a2 := by first | exact gc1_i | exact gc1_r | exact gc1_n) : G X pc (a0 :: a1 :: a2 :: o9 :: r) (va_rf z :: st) T I J O k n := G_astore (i := 3) (pre := [a0, a1, a2]) x d rfl (fun w h => hb w (Option.some.inj h)) h
theorem G_lstore3 {a0 a1 a2 : Option Value} {r : List (Option Value)} {o9 o8 : Option Value} {z : Int64} (x : Ok X cc own) (d : Dlstore cc pc 3 q) (h : G X q (a0 :: a1 :: a2 :: some (.long z) :: none :: r) st T I J O k n) (hb : gc1 a2 := by first | exact gc1_i | exact gc1_r | exact gc1_n) : G X pc (a0 :: a1 :: a2 :: o9 :: o8 :: r) (.long z :: st) T I J O k n := G_lstore (i := 3) (pre := [a0, a1, a2]) x d rfl (fun w h => hb w (Option.some.inj h)) h
theorem G_iinc3 {a0 a1 a2 : Option Value} {r : List (Option Value)} {z y : Int} (x : Ok X cc own) (d : Dc cc pc (.iinc 3 y) 3 q) (h : G X q (a0 :: a1 :: a2 :: some (VI (z + y)) :: r) st T I J O k n) (hb : gc1 a2 := by first | exact gc1_i | exact gc1_r | exact gc1_n) : G X pc (a0 :: a1 :: a2 :: some (VI z) :: r) st T I J O k n := G_iinc (i := 3) (pre := [a0, a1, a2]) x d rfl (fun w h => hb w (Option.some.inj h)) h
theorem G_iload4 {a0 a1 a2 a3 : Option Value} {r : List (Option Value)} {z : Int} (x : Ok X cc own) (d : Diload cc pc 4 q) (h : G X q (a0 :: a1 :: a2 :: a3 :: some (VI z) :: r) (VI z :: st) T I J O k n) : G X pc (a0 :: a1 :: a2 :: a3 :: some (VI z) :: r) st T I J O k n := G_iload (i := 4) x d rfl h
theorem G_lload4 {a0 a1 a2 a3 : Option Value} {r : List (Option Value)} {z : Int64} (x : Ok X cc own) (d : Dlload cc pc 4 q) (h : G X q (a0 :: a1 :: a2 :: a3 :: some (.long z) :: r) (.long z :: st) T I J O k n) : G X pc (a0 :: a1 :: a2 :: a3 :: some (.long z) :: r) st T I J O k n := G_lload (i := 4) x d rfl h
theorem G_aload4 {a0 a1 a2 a3 : Option Value} {r : List (Option Value)} {z : Option Nat} (x : Ok X cc own) (d : Daload cc pc 4 q) (h : G X q (a0 :: a1 :: a2 :: a3 :: some (va_rf z) :: r) (va_rf z :: st) T I J O k n) : G X pc (a0 :: a1 :: a2 :: a3 :: some (va_rf z) :: r) st T I J O k n := G_aload (i := 4) x d rfl h
theorem G_istore4 {a0 a1 a2 a3 : Option Value} {r : List (Option Value)} {o9 : Option Value} {z : Int} (x : Ok X cc own) (d : Distore cc pc 4 q) (h : G X q (a0 :: a1 :: a2 :: a3 :: some (VI z) :: r) st T I J O k n) (hb : gc1 a3 := by first | exact gc1_i | exact gc1_r | exact gc1_n) : G X pc (a0 :: a1 :: a2 :: a3 :: o9 :: r) (VI z :: st) T I J O k n := G_istore (i := 4) (pre := [a0, a1, a2, a3]) x d rfl (fun w h => hb w (Option.some.inj h)) h
theorem G_astore4 {a0 a1 a2 a3 : Option Value} {r : List (Option Value)} {o9 : Option Value} {z : Option Nat} (x : Ok X cc own) (d : Dastore cc pc 4 q) (h : G X q (a0 :: a1 :: a2 :: a3 :: some (va_rf z) :: r) st T I J O k n) (hb : gc1 a3 := by first | exact gc1_i | exact gc1_r | exact gc1_n) : G X pc (a0 :: a1 :: a2 :: a3 :: o9 :: r) (va_rf z :: st) T I J O k n := G_astore (i := 4) (pre := [a0, a1, a2, a3]) x d rfl (fun w h => hb w (Option.some.inj h)) h
theorem G_lstore4 {a0 a1 a2 a3 : Option Value} {r : List (Option Value)} {o9 o8 : Option Value} {z : Int64} (x : Ok X cc own) (d : Dlstore cc pc 4 q) (h : G X q (a0 :: a1 :: a2 :: a3 :: some (.long z) :: none :: r) st T I J O k n) (hb : gc1 a3 := by first | exact gc1_i | exact gc1_r | exact gc1_n) : G X pc (a0 :: a1 :: a2 :: a3 :: o9 :: o8 :: r) (.long z :: st) T I J O k n := G_lstore (i := 4) (pre := [a0, a1, a2, a3]) x d rfl (fun w h => hb w (Option.some.inj h)) h
theorem G_iinc4 {a0 a1 a2 a3 : Option Value} {r : List (Option Value)} {z y : Int} (x : Ok X cc own) (d : Dc cc pc (.iinc 4 y) 3 q) (h : G X q (a0 :: a1 :: a2 :: a3 :: some (VI (z + y)) :: r) st T I J O k n) (hb : gc1 a3 := by first | exact gc1_i | exact gc1_r | exact gc1_n) : G X pc (a0 :: a1 :: a2 :: a3 :: some (VI z) :: r) st T I J O k n := G_iinc (i := 4) (pre := [a0, a1, a2, a3]) x d rfl (fun w h => hb w (Option.some.inj h)) h
theorem G_iload5 {a0 a1 a2 a3 a4 : Option Value} {r : List (Option Value)} {z : Int} (x : Ok X cc own) (d : Diload cc pc 5 q) (h : G X q (a0 :: a1 :: a2 :: a3 :: a4 :: some (VI z) :: r) (VI z :: st) T I J O k n) : G X pc (a0 :: a1 :: a2 :: a3 :: a4 :: some (VI z) :: r) st T I J O k n := G_iload (i := 5) x d rfl h
theorem G_lload5 {a0 a1 a2 a3 a4 : Option Value} {r : List (Option Value)} {z : Int64} (x : Ok X cc own) (d : Dlload cc pc 5 q) (h : G X q (a0 :: a1 :: a2 :: a3 :: a4 :: some (.long z) :: r) (.long z :: st) T I J O k n) : G X pc (a0 :: a1 :: a2 :: a3 :: a4 :: some (.long z) :: r) st T I J O k n := G_lload (i := 5) x d rfl h
theorem G_aload5 {a0 a1 a2 a3 a4 : Option Value} {r : List (Option Value)} {z : Option Nat} (x : Ok X cc own) (d : Daload cc pc 5 q) (h : G X q (a0 :: a1 :: a2 :: a3 :: a4 :: some (va_rf z) :: r) (va_rf z :: st) T I J O k n) : G X pc (a0 :: a1 :: a2 :: a3 :: a4 :: some (va_rf z) :: r) st T I J O k n := G_aload (i := 5) x d rfl h
theorem G_istore5 {a0 a1 a2 a3 a4 : Option Value} {r : List (Option Value)} {o9 : Option Value} {z : Int} (x : Ok X cc own) (d : Distore cc pc 5 q) (h : G X q (a0 :: a1 :: a2 :: a3 :: a4 :: some (VI z) :: r) st T I J O k n) (hb : gc1 a4 := by first | exact gc1_i | exact gc1_r | exact gc1_n) : G X pc (a0 :: a1 :: a2 :: a3 :: a4 :: o9 :: r) (VI z :: st) T I J O k n := G_istore (i := 5) (pre := [a0, a1, a2, a3, a4]) x d rfl (fun w h => hb w (Option.some.inj h)) h
theorem G_astore5 {a0 a1 a2 a3 a4 : Option Value} {r : List (Option Value)} {o9 : Option Value} {z : Option Nat} (x : Ok X cc own) (d : Dastore cc pc 5 q) (h : G X q (a0 :: a1 :: a2 :: a3 :: a4 :: some (va_rf z) :: r) st T I J O k n) (hb : gc1 a4 := by first | exact gc1_i | exact gc1_r | exact gc1_n) : G X pc (a0 :: a1 :: a2 :: a3 :: a4 :: o9 :: r) (va_rf z :: st) T I J O k n := G_astore (i := 5) (pre := [a0, a1, a2, a3, a4]) x d rfl (fun w h => hb w (Option.some.inj h)) h
theorem G_lstore5 {a0 a1 a2 a3 a4 : Option Value} {r : List (Option Value)} {o9 o8 : Option Value} {z : Int64} (x : Ok X cc own) (d : Dlstore cc pc 5 q) (h : G X q (a0 :: a1 :: a2 :: a3 :: a4 :: some (.long z) :: none :: r) st T I J O k n) (hb : gc1 a4 := by first | exact gc1_i | exact gc1_r | exact gc1_n) : G X pc (a0 :: a1 :: a2 :: a3 :: a4 :: o9 :: o8 :: r) (.long z :: st) T I J O k n := G_lstore (i := 5) (pre := [a0, a1, a2, a3, a4]) x d rfl (fun w h => hb w (Option.some.inj h)) h
theorem G_iinc5 {a0 a1 a2 a3 a4 : Option Value} {r : List (Option Value)} {z y : Int} (x : Ok X cc own) (d : Dc cc pc (.iinc 5 y) 3 q) (h : G X q (a0 :: a1 :: a2 :: a3 :: a4 :: some (VI (z + y)) :: r) st T I J O k n) (hb : gc1 a4 := by first | exact gc1_i | exact gc1_r | exact gc1_n) : G X pc (a0 :: a1 :: a2 :: a3 :: a4 :: some (VI z) :: r) st T I J O k n := G_iinc (i := 5) (pre := [a0, a1, a2, a3, a4]) x d rfl (fun w h => hb w (Option.some.inj h)) h
theorem G_iload6 {a0 a1 a2 a3 a4 a5 : Option Value} {r : List (Option Value)} {z : Int} (x : Ok X cc own) (d : Diload cc pc 6 q) (h : G X q (a0 :: a1 :: a2 :: a3 :: a4 :: a5 :: some (VI z) :: r) (VI z :: st) T I J O k n) : G X pc (a0 :: a1 :: a2 :: a3 :: a4 :: a5 :: some (VI z) :: r) st T I J O k n := G_iload (i := 6) x d rfl h
theorem G_lload6 {a0 a1 a2 a3 a4 a5 : Option Value} {r : List (Option Value)} {z : Int64} (x : Ok X cc own) (d : Dlload cc pc 6 q) (h : G X q (a0 :: a1 :: a2 :: a3 :: a4 :: a5 :: some (.long z) :: r) (.long z :: st) T I J O k n) : G X pc (a0 :: a1 :: a2 :: a3 :: a4 :: a5 :: some (.long z) :: r) st T I J O k n := G_lload (i := 6) x d rfl h
theorem G_aload6 {a0 a1 a2 a3 a4 a5 : Option Value} {r : List (Option Value)} {z : Option Nat} (x : Ok X cc own) (d : Daload cc pc 6 q) (h : G X q (a0 :: a1 :: a2 :: a3 :: a4 :: a5 :: some (va_rf z) :: r) (va_rf z :: st) T I J O k n) : G X pc (a0 :: a1 :: a2 :: a3 :: a4 :: a5 :: some (va_rf z) :: r) st T I J O k n := G_aload (i := 6) x d rfl h
theorem G_istore6 {a0 a1 a2 a3 a4 a5 : Option Value} {r : List (Option Value)} {o9 : Option Value} {z : Int} (x : Ok X cc own) (d : Distore cc pc 6 q) (h : G X q (a0 :: a1 :: a2 :: a3 :: a4 :: a5 :: some (VI z) :: r) st T I J O k n) (hb : gc1 a5 := by first | exact gc1_i | exact gc1_r | exact gc1_n) : G X pc (a0 :: a1 :: a2 :: a3 :: a4 :: a5 :: o9 :: r) (VI z :: st) T I J O k n := G_istore (i := 6) (pre := [a0, a1, a2, a3, a4, a5]) x d rfl (fun w h => hb w (Option.some.inj h)) h
theorem G_astore6 {a0 a1 a2 a3 a4 a5 : Option Value} {r : List (Option Value)} {o9 : Option Value} {z : Option Nat} (x : Ok X cc own) (d : Dastore cc pc 6 q) (h : G X q (a0 :: a1 :: a2 :: a3 :: a4 :: a5 :: some (va_rf z) :: r) st T I J O k n) (hb : gc1 a5 := by first | exact gc1_i | exact gc1_r | exact gc1_n) : G X pc (a0 :: a1 :: a2 :: a3 :: a4 :: a5 :: o9 :: r) (va_rf z :: st) T I J O k n := G_astore (i := 6) (pre := [a0, a1, a2, a3, a4, a5]) x d rfl (fun w h => hb w (Option.some.inj h)) h
theorem G_lstore6 {a0 a1 a2 a3 a4 a5 : Option Value} {r : List (Option Value)} {o9 o8 : Option Value} {z : Int64} (x : Ok X cc own) (d : Dlstore cc pc 6 q) (h : G X q (a0 :: a1 :: a2 :: a3 :: a4 :: a5 :: some (.long z) :: none :: r) st T I J O k n) (hb : gc1 a5 := by first | exact gc1_i | exact gc1_r | exact gc1_n) : G X pc (a0 :: a1 :: a2 :: a3 :: a4 :: a5 :: o9 :: o8 :: r) (.long z :: st) T I J O k n := G_lstore (i := 6) (pre := [a0, a1, a2, a3, a4, a5]) x d rfl (fun w h => hb w (Option.some.inj h)) h
theorem G_iinc6 {a0 a1 a2 a3 a4 a5 : Option Value} {r : List (Option Value)} {z y : Int} (x : Ok X cc own) (d : Dc cc pc (.iinc 6 y) 3 q) (h : G X q (a0 :: a1 :: a2 :: a3 :: a4 :: a5 :: some (VI (z + y)) :: r) st T I J O k n) (hb : gc1 a5 := by first | exact gc1_i | exact gc1_r | exact gc1_n) : G X pc (a0 :: a1 :: a2 :: a3 :: a4 :: a5 :: some (VI z) :: r) st T I J O k n := G_iinc (i := 6) (pre := [a0, a1, a2, a3, a4, a5]) x d rfl (fun w h => hb w (Option.some.inj h)) h
theorem G_iload7 {a0 a1 a2 a3 a4 a5 a6 : Option Value} {r : List (Option Value)} {z : Int} (x : Ok X cc own) (d : Diload cc pc 7 q) (h : G X q (a0 :: a1 :: a2 :: a3 :: a4 :: a5 :: a6 :: some (VI z) :: r) (VI z :: st) T I J O k n) : G X pc (a0 :: a1 :: a2 :: a3 :: a4 :: a5 :: a6 :: some (VI z) :: r) st T I J O k n := G_iload (i := 7) x d rfl h
theorem G_lload7 {a0 a1 a2 a3 a4 a5 a6 : Option Value} {r : List (Option Value)} {z : Int64} (x : Ok X cc own) (d : Dlload cc pc 7 q) (h : G X q (a0 :: a1 :: a2 :: a3 :: a4 :: a5 :: a6 :: some (.long z) :: r) (.long z :: st) T I J O k n) : G X pc (a0 :: a1 :: a2 :: a3 :: a4 :: a5 :: a6 :: some (.long z) :: r) st T I J O k n := G_lload (i := 7) x d rfl h
theorem G_aload7 {a0 a1 a2 a3 a4 a5 a6 : Option Value} {r : List (Option Value)} {z : Option Nat} (x : Ok X cc own) (d : Daload cc pc 7 q) (h : G X q (a0 :: a1 :: a2 :: a3 :: a4 :: a5 :: a6 :: some (va_rf z) :: r) (va_rf z :: st) T I J O k n) : G X pc (a0 :: a1 :: a2 :: a3 :: a4 :: a5 :: a6 :: some (va_rf z) :: r) st T I J O k n := G_aload (i := 7) x d rfl h
theorem G_istore7 {a0 a1 a2 a3 a4 a5 a6 : Option Value} {r : List (Option Value)} {o9 : Option Value} {z : Int} (x : Ok X cc own) (d : Distore cc pc 7 q) (h : G X q (a0 :: a1 :: a2 :: a3 :: a4 :: a5 :: a6 :: some (VI z) :: r) st T I J O k n) (hb : gc1 a6 := by first | exact gc1_i | exact gc1_r | exact gc1_n) : G X pc (a0 :: a1 :: a2 :: a3 :: a4 :: a5 :: a6 :: o9 :: r) (VI z :: st) T I J O k n := G_istore (i := 7) (pre := [a0, a1, a2, a3, a4, a5, a6]) x d rfl (fun w h => hb w (Option.some.inj h)) h
theorem G_astore7 {a0 a1 a2 a3 a4 a5 a6 : Option Value} {r : List (Option Value)} {o9 : Option Value} {z : Option Nat} (x : Ok X cc own) (d : Dastore cc pc 7 q) (h : G X q (a0 :: a1 :: a2 :: a3 :: a4 :: a5 :: a6 :: some (va_rf z) :: r) st T I J O k n) (hb : gc1 a6 := by first | exact gc1_i | exact gc1_r | exact gc1_n) : G X pc (a0 :: a1 :: a2 :: a3 :: a4 :: a5 :: a6 :: o9 :: r) (va_rf z :: st) T I J O k n := G_astore (i := 7) (pre := [a0, a1, a2, a3, a4, a5, a6]) x d rfl (fun w h => hb w (Option.some.inj h)) h
theorem G_lstore7 {a0 a1 a2 a3 a4 a5 a6 : Option Value} {r : List (Option Value)} {o9 o8 : Option Value} {z : Int64} (x : Ok X cc own) (d : Dlstore cc pc 7 q) (h : G X q (a0 :: a1 :: a2 :: a3 :: a4 :: a5 :: a6 :: some (.long z) :: none :: r) st T I J O k n) (hb : gc1 a6 := by first | exact gc1_i | exact gc1_r | exact gc1_n) : G X pc (a0 :: a1 :: a2 :: a3 :: a4 :: a5 :: a6 :: o9 :: o8 :: r) (.long z :: st) T I J O k n := G_lstore (i := 7) (pre := [a0, a1, a2, a3, a4, a5, a6]) x d rfl (fun w h => hb w (Option.some.inj h)) h
theorem G_iinc7 {a0 a1 a2 a3 a4 a5 a6 : Option Value} {r : List (Option Value)} {z y : Int} (x : Ok X cc own) (d : Dc cc pc (.iinc 7 y) 3 q) (h : G X q (a0 :: a1 :: a2 :: a3 :: a4 :: a5 :: a6 :: some (VI (z + y)) :: r) st T I J O k n) (hb : gc1 a6 := by first | exact gc1_i | exact gc1_r | exact gc1_n) : G X pc (a0 :: a1 :: a2 :: a3 :: a4 :: a5 :: a6 :: some (VI z) :: r) st T I J O k n := G_iinc (i := 7) (pre := [a0, a1, a2, a3, a4, a5, a6]) x d rfl (fun w h => hb w (Option.some.inj h)) h
theorem G_iload8 {a0 a1 a2 a3 a4 a5 a6 a7 : Option Value} {r : List (Option Value)} {z : Int} (x : Ok X cc own) (d : Diload cc pc 8 q) (h : G X q (a0 :: a1 :: a2 :: a3 :: a4 :: a5 :: a6 :: a7 :: some (VI z) :: r) (VI z :: st) T I J O k n) : G X pc (a0 :: a1 :: a2 :: a3 :: a4 :: a5 :: a6 :: a7 :: some (VI z) :: r) st T I J O k n := G_iload (i := 8) x d rfl h
theorem G_lload8 {a0 a1 a2 a3 a4 a5 a6 a7 : Option Value} {r : List (Option Value)} {z : Int64} (x : Ok X cc own) (d : Dlload cc pc 8 q) (h : G X q (a0 :: a1 :: a2 :: a3 :: a4 :: a5 :: a6 :: a7 :: some (.long z) :: r) (.long z :: st) T I J O k n) : G X pc (a0 :: a1 :: a2 :: a3 :: a4 :: a5 :: a6 :: a7 :: some (.long z) :: r) st T I J O k n := G_lload (i := 8) x d rfl h
theorem G_aload8 {a0 a1 a2 a3 a4 a5 a6 a7 : Option Value} {r : List (Option Value)} {z : Option Nat} (x : Ok X cc own) (d : Daload cc pc 8 q) (h : G X q (a0 :: a1 :: a2 :: a3 :: a4 :: a5 :: a6 :: a7 :: some (va_rf z) :: r) (va_rf z :: st) T I J O k n) : G X pc (a0 :: a1 :: a2 :: a3 :: a4 :: a5 :: a6 :: a7 :: some (va_rf z) :: r) st T I J O k n := G_aload (i := 8) x d rfl h
theorem G_istore8 {a0 a1 a2 a3 a4 a5 a6 a7 : Option Value} {r : List (Option Value)} {o9 : Option Value} {z : Int} (x : Ok X cc own) (d : Distore cc pc 8 q) (h : G X q (a0 :: a1 :: a2 :: a3 :: a4 :: a5 :: a6 :: a7 :: some (VI z) :: r) st T I J O k n) (hb : gc1 a7 := by first | exact gc1_i | exact gc1_r | exact gc1_n) : G X pc (a0 :: a1 :: a2 :: a3 :: a4 :: a5 :: a6 :: a7 :: o9 :: r) (VI z :: st) T I J O k n := G_istore (i := 8) (pre := [a0, a1, a2, a3, a4, a5, a6, a7]) x d rfl (fun w h => hb w (Option.some.inj h)) h
theorem G_astore8 {a0 a1 a2 a3 a4 a5 a6 a7 : Option Value} {r : List (Option Value)} {o9 : Option Value} {z : Option Nat} (x : Ok X cc own) (d : Dastore cc pc 8 q) (h : G X q (a0 :: a1 :: a2 :: a3 :: a4 :: a5 :: a6 :: a7 :: some (va_rf z) :: r) st T I J O k n) (hb : gc1 a7 := by first | exact gc1_i | exact gc1_r | exact gc1_n) : G X pc (a0 :: a1 :: a2 :: a3 :: a4 :: a5 :: a6 :: a7 :: o9 :: r) (va_rf z :: st) T I J O k n := G_astore (i := 8) (pre := [a0, a1, a2, a3, a4, a5, a6, a7]) x d rfl (fun w h => hb w (Option.some.inj h)) h
theorem G_lstore8 {a0 a1 a2 a3 a4 a5 a6 a7 : Option Value} {r : List (Option Value)} {o9 o8 : Option Value} {z : Int64} (x : Ok X cc own) (d : Dlstore cc pc 8 q) (h : G X q (a0 :: a1 :: a2 :: a3 :: a4 :: a5 :: a6 :: a7 :: some (.long z) :: none :: r) st T I J O k n) (hb : gc1 a7 := by first | exact gc1_i | exact gc1_r | exact gc1_n) : G X pc (a0 :: a1 :: a2 :: a3 :: a4 :: a5 :: a6 :: a7 :: o9 :: o8 :: r) (.long z :: st) T I J O k n := G_lstore (i := 8) (pre := [a0, a1, a2, a3, a4, a5, a6, a7]) x d rfl (fun w h => hb w (Option.some.inj h)) h
theorem G_iinc8 {a0 a1 a2 a3 a4 a5 a6 a7 : Option Value} {r : List (Option Value)} {z y : Int} (x : Ok X cc own) (d : Dc cc pc (.iinc 8 y) 3 q) (h : G X q (a0 :: a1 :: a2 :: a3 :: a4 :: a5 :: a6 :: a7 :: some (VI (z + y)) :: r) st T I J O k n) (hb : gc1 a7 := by first | exact gc1_i | exact gc1_r | exact gc1_n) : G X pc (a0 :: a1 :: a2 :: a3 :: a4 :: a5 :: a6 :: a7 :: some (VI z) :: r) st T I J O k n := G_iinc (i := 8) (pre := [a0, a1, a2, a3, a4, a5, a6, a7]) x d rfl (fun w h => hb w (Option.some.inj h)) h
theorem G_iload9 {a0 a1 a2 a3 a4 a5 a6 a7 a8 : Option Value} {r : List (Option Value)} {z : Int} (x : Ok X cc own) (d : Diload cc pc 9 q) (h : G X q (a0 :: a1 :: a2 :: a3 :: a4 :: a5 :: a6 :: a7 :: a8 :: some (VI z) :: r) (VI z :: st) T I J O k n) : G X pc (a0 :: a1 :: a2 :: a3 :: a4 :: a5 :: a6 :: a7 :: a8 :: some (VI z) :: r) st T I J O k n := G_iload (i := 9) x d rfl h
theorem G_lload9 {a0 a1 a2 a3 a4 a5 a6 a7 a8 : Option Value} {r : List (Option Value)} {z : Int64} (x : Ok X cc own) (d : Dlload cc pc 9 q) (h : G X q (a0 :: a1 :: a2 :: a3 :: a4 :: a5 :: a6 :: a7 :: a8 :: some (.long z) :: r) (.long z :: st) T I J O k n) : G X pc (a0 :: a1 :: a2 :: a3 :: a4 :: a5 :: a6 :: a7 :: a8 :: some (.long z) :: r) st T I J O k n := G_lload (i := 9) x d rfl h
theorem G_aload9 {a0 a1 a2 a3 a4 a5 a6 a7 a8 : Option Value} {r : List (Option Value)} {z : Option Nat} (x : Ok X cc own) (d : Daload cc pc 9 q) (h : G X q (a0 :: a1 :: a2 :: a3 :: a4 :: a5 :: a6 :: a7 :: a8 :: some (va_rf z) :: r) (va_rf z :: st) T I J O k n) : G X pc (a0 :: a1 :: a2 :: a3 :: a4 :: a5 :: a6 :: a7 :: a8 :: some (va_rf z) :: r) st T I J O k n := G_aload (i := 9) x d rfl h
theorem G_istore9 {a0 a1 a2 a3 a4 a5 a6 a7 a8 : Option Value} {r : List (Option Value)} {o9 : Option Value} {z : Int} (x : Ok X cc own) (d : Distore cc pc 9 q) (h : G X q (a0 :: a1 :: a2 :: a3 :: a4 :: a5 :: a6 :: a7 :: a8 :: some (VI z) :: r) st T I J O k n) (hb : gc1 a8 := by first | exact gc1_i | exact gc1_r | exact gc1_n) : G X pc (a0 :: a1 :: a2 :: a3 :: a4 :: a5 :: a6 :: a7 :: a8 :: o9 :: r) (VI z :: st) T I J O k n := G_istore (i := 9) (pre := [a0, a1, a2, a3, a4, a5, a6, a7, a8]) x d rfl (fun w h => hb w (Option.some.inj h)) h
theorem G_astore9 {a0 a1 a2 a3 a4 a5 a6 a7 a8 : Option Value} {r : List (Option Value)} {o9 : Option Value} {z : Option Nat} (x : Ok X cc own) (d : Dastore cc pc 9 q) (h : G X q (a0 :: a1 :: a2 :: a3 :: a4 :: a5 :: a6 :: a7 :: a8 :: some (va_rf z) :: r) st T I J O k n) (hb : gc1 a8 := by first | exact gc1_i | exact gc1_r | exact gc1_n) : G X pc (a0 :: a1 :: a2 :: a3 :: a4 :: a5 :: a6 :: a7 :: a8 :: o9 :: r) (va_rf z :: st) T I J O k n := G_astore (i := 9) (pre := [a0, a1, a2, a3, a4, a5, a6, a7, a8]) x d rfl (fun w h => hb w (Option.some.inj h)) h
theorem G_lstore9 {a0 a1 a2 a3 a4 a5 a6 a7 a8 : Option Value} {r : List (Option Value)} {o9 o8 : Option Value} {z : Int64} (x : Ok X cc own) (d : Dlstore cc pc 9 q) (h : G X q (a0 :: a1 :: a2 :: a3 :: a4 :: a5 :: a6 :: a7 :: a8 :: some (.long z) :: none :: r) st T I J O k n) (hb : gc1 a8 := by first | exact gc1_i | exact gc1_r | exact gc1_n) : G X pc (a0 :: a1 :: a2 :: a3 :: a4 :: a5 :: a6 :: a7 :: a8 :: o9 :: o8 :: r) (.long z :: st) T I J O k n := G_lstore (i := 9) (pre := [a0, a1, a2, a3, a4, a5, a6, a7, a8]) x d rfl (fun w h => hb w (Option.some.inj h)) h
theorem G_iinc9 {a0 a1 a2 a3 a4 a5 a6 a7 a8 : Option Value} {r : List (Option Value)} {z y : Int} (x : Ok X cc own) (d : Dc cc pc (.iinc 9 y) 3 q) (h : G X q (a0 :: a1 :: a2 :: a3 :: a4 :: a5 :: a6 :: a7 :: a8 :: some (VI (z + y)) :: r) st T I J O k n) (hb : gc1 a8 := by first | exact gc1_i | exact gc1_r | exact gc1_n) : G X pc (a0 :: a1 :: a2 :: a3 :: a4 :: a5 :: a6 :: a7 :: a8 :: some (VI z) :: r) st T I J O k n := G_iinc (i := 9) (pre := [a0, a1, a2, a3, a4, a5, a6, a7, a8]) x d rfl (fun w h => hb w (Option.some.inj h)) h
theorem G_iload10 {a0 a1 a2 a3 a4 a5 a6 a7 a8 a9 : Option Value} {r : List (Option Value)} {z : Int} (x : Ok X cc own) (d : Diload cc pc 10 q) (h : G X q (a0 :: a1 :: a2 :: a3 :: a4 :: a5 :: a6 :: a7 :: a8 :: a9 :: some (VI z) :: r) (VI z :: st) T I J O k n) : G X pc (a0 :: a1 :: a2 :: a3 :: a4 :: a5 :: a6 :: a7 :: a8 :: a9 :: some (VI z) :: r) st T I J O k n := G_iload (i := 10) x d rfl h
theorem G_lload10 {a0 a1 a2 a3 a4 a5 a6 a7 a8 a9 : Option Value} {r : List (Option Value)} {z : Int64} (x : Ok X cc own) (d : Dlload cc pc 10 q) (h : G X q (a0 :: a1 :: a2 :: a3 :: a4 :: a5 :: a6 :: a7 :: a8 :: a9 :: some (.long z) :: r) (.long z :: st) T I J O k n) : G X pc (a0 :: a1 :: a2 :: a3 :: a4 :: a5 :: a6 :: a7 :: a8 :: a9 :: some (.long z) :: r) st T I J O k n := G_lload (i := 10) x d rfl h
theorem G_aload10 {a0 a1 a2 a3 a4 a5 a6 a7 a8 a9 : Option Value} {r : List (Option Value)} {z : Option Nat} (x : Ok X cc own) (d : Daload cc pc 10 q) (h : G X q (a0 :: a1 :: a2 :: a3 :: a4 :: a5 :: a6 :: a7 :: a8 :: a9 :: some (va_rf z) :: r) (va_rf z :: st) T I J O k n) : G X pc (a0 :: a1 :: a2 :: a3 :: a4 :: a5 :: a6 :: a7 :: a8 :: a9 :: some (va_rf z) :: r) st T I J O k n := G_aload (i := 10) x d rfl h
theorem G_istore10 {a0 a1 a2 a3 a4 a5 a6 a7 a8 a9 : Option Value} {r : List (Option Value)} {o9 : Option Value} {z : Int} (x : Ok X cc own) (d : Distore cc pc 10 q) (h : G X q (a0 :: a1 :: a2 :: a3 :: a4 :: a5 :: a6 :: a7 :: a8 :: a9 :: some (VI z) :: r) st T I J O k n) (hb : gc1 a9 := by first | exact gc1_i | exact gc1_r | exact gc1_n) : G X pc (a0 :: a1 :: a2 :: a3 :: a4 :: a5 :: a6 :: a7 :: a8 :: a9 :: o9 :: r) (VI z :: st) T I J O k n := G_istore (i := 10) (pre := [a0, a1, a2, a3, a4, a5, a6, a7, a8, a9]) x d rfl (fun w h => hb w (Option.some.inj h)) h
theorem G_astore10 {a0 a1 a2 a3 a4 a5 a6 a7 a8 a9 : Option Value} {r : List (Option Value)} {o9 : Option Value} {z : Option Nat} (x : Ok X cc own) (d : Dastore cc pc 10 q) (h : G X q (a0 :: a1 :: a2 :: a3 :: a4 :: a5 :: a6 :: a7 :: a8 :: a9 :: some (va_rf z) :: r) st T I J O k n) (hb : gc1 a9 := by first | exact gc1_i | exact gc1_r | exact gc1_n) : G X pc (a0 :: a1 :: a2 :: a3 :: a4 :: a5 :: a6 :: a7 :: a8 :: a9 :: o9 :: r) (va_rf z :: st) T I J O k n := G_astore (i := 10) (pre := [a0, a1, a2, a3, a4, a5, a6, a7, a8, a9]) x d rfl (fun w h => hb w (Option.some.inj h)) h
theorem G_lstore10 {a0 a1 a2 a3 a4 a5 a6 a7 a8 a9 : Option Value} {r : List (Option Value)} {o9 o8 : Option Value} {z : Int64} (x : Ok X cc own) (d : Dlstore cc pc 10 q) (h : G X q (a0 :: a1 :: a2 :: a3 :: a4 :: a5 :: a6 :: a7 :: a8 :: a9 :: some (.long z) :: none :: r) st T I J O k n) (hb : gc1 a9 := by first | exact gc1_i | exact gc1_r | exact gc1_n) : G X pc (a0 :: a1 :: a2 :: a3 :: a4 :: a5 :: a6 :: a7 :: a8 :: a9 :: o9 :: o8 :: r) (.long z :: st) T I J O k n := G_lstore (i := 10) (pre := [a0, a1, a2, a3, a4, a5, a6, a7, a8, a9]) x d rfl (fun w h => hb w (Option.some.inj h)) h
theorem G_iinc10 {a0 a1 a2 a3 a4 a5 a6 a7 a8 a9 : Option Value} {r : List (Option Value)} {z y : Int} (x : Ok X cc own) (d : Dc cc pc (.iinc 10 y) 3 q) (h : G X q (a0 :: a1 :: a2 :: a3 :: a4 :: a5 :: a6 :: a7 :: a8 :: a9 :: some (VI (z + y)) :: r) st T I J O k n) (hb : gc1 a9 := by first | exact gc1_i | exact gc1_r | exact gc1_n) : G X pc (a0 :: a1 :: a2 :: a3 :: a4 :: a5 :: a6 :: a7 :: a8 :: a9 :: some (VI z) :: r) st T I J O k n := G_iinc (i := 10) (pre := [a0, a1, a2, a3, a4, a5, a6, a7, a8, a9]) x d rfl (fun w h => hb w (Option.some.inj h)) h
theorem G_iload11 {a0 a1 a2 a3 a4 a5 a6 a7 a8 a9 a10 : Option Value} {r : List (Option Value)} {z : Int} (x : Ok X cc own) (d : Diload cc pc 11 q) (h : G X q (a0 :: a1 :: a2 :: a3 :: a4 :: a5 :: a6 :: a7 :: a8 :: a9 :: a10 :: some (VI z) :: r) (VI z :: st) T I J O k n) : G X pc (a0 :: a1 :: a2 :: a3 :: a4 :: a5 :: a6 :: a7 :: a8 :: a9 :: a10 :: some (VI z) :: r) st T I J O k n := G_iload (i := 11) x d rfl h
theorem G_lload11 {a0 a1 a2 a3 a4 a5 a6 a7 a8 a9 a10 : Option Value} {r : List (Option Value)} {z : Int64} (x : Ok X cc own) (d : Dlload cc pc 11 q) (h : G X q (a0 :: a1 :: a2 :: a3 :: a4 :: a5 :: a6 :: a7 :: a8 :: a9 :: a10 :: some (.long z) :: r) (.long z :: st) T I J O k n) : G X pc (a0 :: a1 :: a2 :: a3 :: a4 :: a5 :: a6 :: a7 :: a8 :: a9 :: a10 :: some (.long z) :: r) st T I J O k n := G_lload (i := 11) x d rfl h
theorem G_aload11 {a0 a1 a2 a3 a4 a5 a6 a7 a8 a9 a10 : Option Value} {r : List (Option Value)} {z : Option Nat} (x : Ok X cc own) (d : Daload cc pc 11 q) (h : G X q (a0 :: a1 :: a2 :: a3 :: a4 :: a5 :: a6 :: a7 :: a8 :: a9 :: a10 :: some (va_rf z) :: r) (va_rf z :: st) T I J O k n) : G X pc (a0 :: a1 :: a2 :: a3 :: a4 :: a5 :: a6 :: a7 :: a8 :: a9 :: a10 :: some (va_rf z) :: r) st T I J O k n := G_aload (i := 11) x d rfl h
theorem G_istore11 {a0 a1 a2 a3 a4 a5 a6 a7 a8 a9 a10 : Option Value} {r : List (Option Value)} {o9 : Option Value} {z : Int} (x : Ok X cc own) (d : Distore cc pc 11 q) (h : G X q (a0 :: a1 :: a2 :: a3 :: a4 :: a5 :: a6 :: a7 :: a8 :: a9 :: a10 :: some (VI z) :: r) st T I J O k n) (hb : gc1 a10 := by first | exact gc1_i | exact gc1_r | exact gc1_n) : G X pc (a0 :: a1 :: a2 :: a3 :: a4 :: a5 :: a6 :: a7 :: a8 :: a9 :: a10 :: o9 :: r) (VI z :: st) T I J O k n := G_istore (i := 11) (pre := [a0, a1, a2, a3, a4, a5, a6, a7, a8, a9, a10]) x d rfl (fun w h => hb w (Option.some.inj h)) h
theorem G_astore11 {a0 a1 a2 a3 a4 a5 a6 a7 a8 a9 a10 : Option Value} {r : List (Option Value)} {o9 : Option Value} {z : Option Nat} (x : Ok X cc own) (d : Dastore cc pc 11 q) (h : G X q (a0 :: a1 :: a2 :: a3 :: a4 :: a5 :: a6 :: a7 :: a8 :: a9 :: a10 :: some (va_rf z) :: r) st T I J O k n) (hb : gc1 a10 := by first | exact gc1_i | exact gc1_r | exact gc1_n) : G X pc (a0 :: a1 :: a2 :: a3 :: a4 :: a5 :: a6 :: a7 :: a8 :: a9 :: a10 :: o9 :: r) (va_rf z :: st) T I J O k n := G_astore (i := 11) (pre := [a0, a1, a2, a3, a4, a5, a6, a7, a8, a9, a10]) x d rfl (fun w h => hb w (Option.some.inj h)) h
theorem G_lstore11 {a0 a1 a2 a3 a4 a5 a6 a7 a8 a9 a10 : Option Value} {r : List (Option Value)} {o9 o8 : Option Value} {z : Int64} (x : Ok X cc own) (d : Dlstore cc pc 11 q) (h : G X q (a0 :: a1 :: a2 :: a3 :: a4 :: a5 :: a6 :: a7 :: a8 :: a9 :: a10 :: some (.long z) :: none :: r) st T I J O k n) (hb : gc1 a10 := by first | exact gc1_i | exact gc1_r | exact gc1_n) : G X pc (a0 :: a1 :: a2 :: a3 :: a4 :: a5 :: a6 :: a7 :: a8 :: a9 :: a10 :: o9 :: o8 :: r) (.long z :: st) T I J O k n := G_lstore (i := 11) (pre := [a0, a1, a2, a3, a4, a5, a6, a7, a8, a9, a10]) x d rfl (fun w h => hb w (Option.some.inj h)) h
theorem G_iinc11 {a0 a1 a2 a3 a4 a5 a6 a7 a8 a9 a10 : Option Value} {r : List (Option Value)} {z y : Int} (x : Ok X cc own) (d : Dc cc pc (.iinc 11 y) 3 q) (h : G X q (a0 :: a1 :: a2 :: a3 :: a4 :: a5 :: a6 :: a7 :: a8 :: a9 :: a10 :: some (VI (z + y)) :: r) st T I J O k n) (hb : gc1 a10 := by first | exact gc1_i | exact gc1_r | exact gc1_n) : G X pc (a0 :: a1 :: a2 :: a3 :: a4 :: a5 :: a6 :: a7 :: a8 :: a9 :: a10 :: some (VI z) :: r) st T I J O k n := G_iinc (i := 11) (pre := [a0, a1, a2, a3, a4, a5, a6, a7, a8, a9, a10]) x d rfl (fun w h => hb w (Option.some.inj h)) h
theorem G_iload12 {a0 a1 a2 a3 a4 a5 a6 a7 a8 a9 a10 a11 : Option Value} {r : List (Option Value)} {z : Int} (x : Ok X cc own) (d : Diload cc pc 12 q) (h : G X q (a0 :: a1 :: a2 :: a3 :: a4 :: a5 :: a6 :: a7 :: a8 :: a9 :: a10 :: a11 :: some (VI z) :: r) (VI z :: st) T I J O k n) : G X pc (a0 :: a1 :: a2 :: a3 :: a4 :: a5 :: a6 :: a7 :: a8 :: a9 :: a10 :: a11 :: some (VI z) :: r) st T I J O k n := G_iload (i := 12) x d rfl h
theorem G_lload12 {a0 a1 a2 a3 a4 a5 a6 a7 a8 a9 a10 a11 : Option Value} {r : List (Option Value)} {z : Int64} (x : Ok X cc own) (d : Dlload cc pc 12 q) (h : G X q (a0 :: a1 :: a2 :: a3 :: a4 :: a5 :: a6 :: a7 :: a8 :: a9 :: a10 :: a11 :: some (.long z) :: r) (.long z :: st) T I J O k n) : G X pc (a0 :: a1 :: a2 :: a3 :: a4 :: a5 :: a6 :: a7 :: a8 :: a9 :: a10 :: a11 :: some (.long z) :: r) st T I J O k n := G_lload (i := 12) x d rfl h
theorem G_aload12 {a0 a1 a2 a3 a4 a5 a6 a7 a8 a9 a10 a11 : Option Value} {r : List (Option Value)} {z : Option Nat} (x : Ok X cc own) (d : Daload cc pc 12 q) (h : G X q (a0 :: a1 :: a2 :: a3 :: a4 :: a5 :: a6 :: a7 :: a8 :: a9 :: a10 :: a11 :: some (va_rf z) :: r) (va_rf z :: st) T I J O k n) : G X pc (a0 :: a1 :: a2 :: a3 :: a4 :: a5 :: a6 :: a7 :: a8 :: a9 :: a10 :: a11 :: some (va_rf z) :: r) st T I J O k n := G_aload (i := 12) x d rfl h
theorem G_istore12 {a0 a1 a2 a3 a4 a5 a6 a7 a8 a9 a10 a11 : Option Value} {r : List (Option Value)} {o9 : Option Value} {z : Int} (x : Ok X cc own) (d : Distore cc pc 12 q) (h : G X q (a0 :: a1 :: a2 :: a3 :: a4 :: a5 :: a6 :: a7 :: a8 :: a9 :: a10 :: a11 :: some (VI z) :: r) st T I J O k n) (hb : gc1 a11 := by first | exact gc1_i | exact gc1_r | exact gc1_n) : G X pc (a0 :: a1 :: a2 :: a3 :: a4 :: a5 :: a6 :: a7 :: a8 :: a9 :: a10 :: a11 :: o9 :: r) (VI z :: st) T I J O k n := G_istore (i := 12) (pre := [a0, a1, a2, a3, a4, a5, a6, a7, a8, a9, a10, a11]) x d rfl (fun w h => hb w (Option.some.inj h)) h
theorem G_astore12 {a0 a1 a2 a3 a4 a5 a6 a7 a8 a9 a10 a11 : Option Value} {r : List (Option Value)} {o9 : Option Value} {z : Option Nat} (x : Ok X cc own) (d : Dastore cc pc 12 q) (h : G X q (a0 :: a1 :: a2 :: a3 :: a4 :: a5 :: a6 :: a7 :: a8 :: a9 :: a10 :: a11 :: some (va_rf z) :: r) st T I J O k n) (hb : gc1 a11 := by first | exact gc1_i | exact gc1_r | exact gc1_n) : G X pc (a0 :: a1 :: a2 :: a3 :: a4 :: a5 :: a6 :: a7 :: a8 :: a9 :: a10 :: a11 :: o9 :: r) (va_rf z :: st) T I J O k n := G_astore (i := 12) (pre := [a0, a1, a2, a3, a4, a5, a6, a7, a8, a9, a10, a11]) x d rfl (fun w h => hb w (Option.some.inj h)) h
theorem G_lstore12 {a0 a1 a2 a3 a4 a5 a6 a7 a8 a9 a10 a11 : Option Value} {r : List (Option Value)} {o9 o8 : Option Value} {z : Int64} (x : Ok X cc own) (d : Dlstore cc pc 12 q) (h : G X q (a0 :: a1 :: a2 :: a3 :: a4 :: a5 :: a6 :: a7 :: a8 :: a9 :: a10 :: a11 :: some (.long z) :: none :: r) st T I J O k n) (hb : gc1 a11 := by first | exact gc1_i | exact gc1_r | exact gc1_n) : G X pc (a0 :: a1 :: a2 :: a3 :: a4 :: a5 :: a6 :: a7 :: a8 :: a9 :: a10 :: a11 :: o9 :: o8 :: r) (.long z :: st) T I J O k n := G_lstore (i := 12) (pre := [a0, a1, a2, a3, a4, a5, a6, a7, a8, a9, a10, a11]) x d rfl (fun w h => hb w (Option.some.inj h)) h
theorem G_iinc12 {a0 a1 a2 a3 a4 a5 a6 a7 a8 a9 a10 a11 : Option Value} {r : List (Option Value)} {z y : Int} (x : Ok X cc own) (d : Dc cc pc (.iinc 12 y) 3 q) (h : G X q (a0 :: a1 :: a2 :: a3 :: a4 :: a5 :: a6 :: a7 :: a8 :: a9 :: a10 :: a11 :: some (VI (z + y)) :: r) st T I J O k n) (hb : gc1 a11 := by first | exact gc1_i | exact gc1_r | exact gc1_n) : G X pc (a0 :: a1 :: a2 :: a3 :: a4 :: a5 :: a6 :: a7 :: a8 :: a9 :: a10 :: a11 :: some (VI z) :: r) st T I J O k n := G_iinc (i := 12) (pre := [a0, a1, a2, a3, a4, a5, a6, a7, a8, a9, a10, a11]) x d rfl (fun w h => hb w (Option.some.inj h)) h
theorem G_iadd {a b : Int} (x : Ok X cc own) (d : Dc cc pc .iadd 1 q) (h : G X q Ls (VI (a + b) :: st) T I J O k n) : G X pc Ls (VI b :: VI a :: st) T I J O k n := by
  obtain ⟨p, l, e, R, s, m, args, below, meth, c, E, Q⟩ := X
  intro H locs ls hW hS hL
  obtain ⟨d, rfl⟩ := d
  refine lv_iadd x.1 x.2.1 d ?_
  rw [← Int32.ofInt_add]
  exact h H locs ls hW hS hL
theorem G_isub {a b : Int} (x : Ok X cc own) (d : Dc cc pc .isub 1 q) (h : G X q Ls (VI (a - b) :: st) T I J O k n) : G X pc Ls (VI b :: VI a :: st) T I J O k n := by
  obtain ⟨p, l, e, R, s, m, args, below, meth, c, E, Q⟩ := X
  intro H locs ls hW hS hL
  obtain ⟨d, rfl⟩ := d
  refine lv_isub x.1 x.2.1 d ?_
  rw [← Int32.ofInt_sub]
  exact h H locs ls hW hS hL
theorem G_imul {a b : Int} (x : Ok X cc own) (d : Dc cc pc .imul 1 q) (h : G X q Ls (VI (a * b) :: st) T I J O k n) : G X pc Ls (VI b :: VI a :: st) T I J O k n := by
  obtain ⟨p, l, e, R, s, m, args, below, meth, c, E, Q⟩ := X
  intro H locs ls hW hS hL
  obtain ⟨d, rfl⟩ := d
  refine lv_imul x.1 x.2.1 d ?_
  rw [← Int32.ofInt_mul]
  exact h H locs ls hW hS hL
theorem G_ladd {a b : Int64} (x : Ok X cc own) (d : Dc cc pc .ladd 1 q) (h : G X q Ls (.long (a + b) :: st) T I J O k n) : G X pc Ls (.long b :: .long a :: st) T I J O k n := by
  obtain ⟨p, l, e, R, s, m, args, below, meth, c, E, Q⟩ := X
  intro H locs ls hW hS hL
  obtain ⟨d, rfl⟩ := d
  exact lv_ladd x.1 x.2.1 d (h H locs ls hW hS hL)
theorem G_lsub {a b : Int64} (x : Ok X cc own) (d : Dc cc pc .lsub 1 q) (h : G X q Ls (.long (a - b) :: st) T I J O k n) : G X pc Ls (.long b :: .long a :: st) T I J O k n := by
  obtain ⟨p, l, e, R, s, m, args, below, meth, c, E, Q⟩ := X
  intro H locs ls hW hS hL
  obtain ⟨d, rfl⟩ := d
  exact lv_lsub x.1 x.2.1 d (h H locs ls hW hS hL)
theorem G_lmul {a b : Int64} (x : Ok X cc own) (d : Dc cc pc .lmul 1 q) (h : G X q Ls (.long (a * b) :: st) T I J O k n) : G X pc Ls (.long b :: .long a :: st) T I J O k n := by
  obtain ⟨p, l, e, R, s, m, args, below, meth, c, E, Q⟩ := X
  intro H locs ls hW hS hL
  obtain ⟨d, rfl⟩ := d
  exact lv_lmul x.1 x.2.1 d (h H locs ls hW hS hL)
theorem G_land {a b : Int64} (x : Ok X cc own) (d : Dc cc pc .land 1 q) (h : G X q Ls (.long (a &&& b) :: st) T I J O k n) : G X pc Ls (.long b :: .long a :: st) T I J O k n := by
  obtain ⟨p, l, e, R, s, m, args, below, meth, c, E, Q⟩ := X
  intro H locs ls hW hS hL
  obtain ⟨d, rfl⟩ := d
  exact lv_land x.1 x.2.1 d (h H locs ls hW hS hL)
theorem G_lor {a b : Int64} (x : Ok X cc own) (d : Dc cc pc .lor 1 q) (h : G X q Ls (.long (a ||| b) :: st) T I J O k n) : G X pc Ls (.long b :: .long a :: st) T I J O k n := by
  obtain ⟨p, l, e, R, s, m, args, below, meth, c, E, Q⟩ := X
  intro H locs ls hW hS hL
  obtain ⟨d, rfl⟩ := d
  exact lv_lor x.1 x.2.1 d (h H locs ls hW hS hL)
theorem G_lxor {a b : Int64} (x : Ok X cc own) (d : Dc cc pc .lxor 1 q) (h : G X q Ls (.long (a ^^^ b) :: st) T I J O k n) : G X pc Ls (.long b :: .long a :: st) T I J O k n := by
  obtain ⟨p, l, e, R, s, m, args, below, meth, c, E, Q⟩ := X
  intro H locs ls hW hS hL
  obtain ⟨d, rfl⟩ := d
  exact lv_lxor x.1 x.2.1 d (h H locs ls hW hS hL)
theorem G_lneg {a : Int64} (x : Ok X cc own) (d : Dc cc pc .lneg 1 q) (h : G X q Ls (.long (-a) :: st) T I J O k n) : G X pc Ls (.long a :: st) T I J O k n := by
  obtain ⟨p, l, e, R, s, m, args, below, meth, c, E, Q⟩ := X
  intro H locs ls hW hS hL
  obtain ⟨d, rfl⟩ := d
  exact lv_lneg x.1 x.2.1 d (h H locs ls hW hS hL)
theorem G_lshl {a : Int64} {b : Int} (x : Ok X cc own) (d : Dc cc pc .lshl 1 q) (h : G X q Ls (.long (a <<< ((Int32.ofInt b).toInt64 &&& 63)) :: st) T I J O k n) : G X pc Ls (VI b :: .long a :: st) T I J O k n := by
  obtain ⟨p, l, e, R, s, m, args, below, meth, c, E, Q⟩ := X
  intro H locs ls hW hS hL
  obtain ⟨d, rfl⟩ := d
  exact lv_lshl x.1 x.2.1 d rfl (h H locs ls hW hS hL)
theorem G_lushr {a : Int64} {b : Int} (x : Ok X cc own) (d : Dc cc pc .lushr 1 q) (h : G X q Ls (.long (a.toUInt64 >>> ((Int32.ofInt b).toInt64.toUInt64 &&& Int64.toUInt64 63)).toInt64 :: st) T I J O k n) : G X pc Ls (VI b :: .long a :: st) T I J O k n := by
  obtain ⟨p, l, e, R, s, m, args, below, meth, c, E, Q⟩ := X
  intro H locs ls hW hS hL
  obtain ⟨d, rfl⟩ := d
  exact lv_lushr x.1 x.2.1 d rfl (h H locs ls hW hS hL)
theorem G_lcmp {a b : Int64} (x : Ok X cc own) (d : Dc cc pc .lcmp 1 q) (h : G X q Ls (VI (if b < a then 1 else if a = b then 0 else -1) :: st) T I J O k n) : G X pc Ls (.long b :: .long a :: st) T I J O k n := by
  obtain ⟨p, l, e, R, s, m, args, below, meth, c, E, Q⟩ := X
  intro H locs ls hW hS hL
  obtain ⟨d, rfl⟩ := d
  refine W.lcmp x.1 x.2.1 d ?_
  have e : Value.int (lg_cmp a b) = VI (if b < a then 1 else if a = b then 0 else -1) := by
    unfold lg_cmp VI
    split
    · rfl
    · split <;> rfl
  rw [e]
  exact h H locs ls hW hS hL
theorem G_lconst {a : Fin 2} (x : Ok X cc own) (d : Dc cc pc (.lconst a) 1 q) (h : G X q Ls (.long (Int64.ofNat (a : Nat)) :: st) T I J O k n) : G X pc Ls st T I J O k n := by
  obtain ⟨p, l, e, R, s, m, args, below, meth, c, E, Q⟩ := X
  intro H locs ls hW hS hL
  obtain ⟨d, rfl⟩ := d
  exact lv_lconst x.1 x.2.1 d rfl (h H locs ls hW hS hL)
theorem G_ldc2 {i9 : Nat} {v : Int64} (x : Ok X cc own) (hc : Cond.constantLong own i9 v ∈ gtb) (d : Dc cc pc (.ldc2_w i9) 3 q) (h : G X q Ls (.long v :: st) T I J O k n) : G X pc Ls st T I J O k n := by
  obtain ⟨p, l, e, R, s, m, args, below, meth, c, E, Q⟩ := X
  intro H locs ls hW hS hL
  obtain ⟨d, rfl⟩ := d
  exact lv_ldc2 x.1 x.2.1 x.2.2.1 (x.2.2.2.1 _ hc) d (h H locs ls hW hS hL)
theorem G_i2l {a : Int} (x : Ok X cc own) (d : Dc cc pc .i2l 1 q) (ha : in32 a) (h : G X q Ls (.long (Int64.ofInt a) :: st) T I J O k n) : G X pc Ls (VI a :: st) T I J O k n := by
  obtain ⟨p, l, e, R, s, m, args, below, meth, c, E, Q⟩ := X
  intro H locs ls hW hS hL
  obtain ⟨d, rfl⟩ := d
  refine lv_i2l (v := Int64.ofInt a) x.1 x.2.1 d ?_ (h H locs ls hW hS hL)
  rw [← Int32.ofInt_toInt (Int32.ofInt a), ← Int64.toInt_inj]
  rw [Int32.toInt_toInt64, Int32.ofInt_toInt, i32_toInt ha, Int64.toInt_ofInt_of_le (by have := ha.1; omega) (by have := ha.2; omega)]
theorem G_l2i {a : Int64} (x : Ok X cc own) (d : Dc cc pc .l2i 1 q) (h : G X q Ls (VI a.toInt :: st) T I J O k n) : G X pc Ls (.long a :: st) T I J O k n := by
  obtain ⟨p, l, e, R, s, m, args, below, meth, c, E, Q⟩ := X
  intro H locs ls hW hS hL
  obtain ⟨d, rfl⟩ := d
  refine lv_l2i (v := Int32.ofInt a.toInt) x.1 x.2.1 d ?_ (h H locs ls hW hS hL)
  have h9 := Int64.toInt32_ofInt (n := a.toInt)
  rw [Int64.ofInt_toInt] at h9
  exact h9
theorem G_dup {v : Value} (x : Ok X cc own) (d : Dc cc pc .dup 1 q) (hv : v.category = 1) (h : G X q Ls (v :: v :: st) T I J O k n) : G X pc Ls (v :: st) T I J O k n := by
  obtain ⟨p, l, e, R, s, m, args, below, meth, c, E, Q⟩ := X
  intro H locs ls hW hS hL
  obtain ⟨d, rfl⟩ := d
  exact lv_dup x.1 x.2.1 d hv (h H locs ls hW hS hL)
theorem G_dup2 {v w : Value} (x : Ok X cc own) (d : Dc cc pc .dup2 1 q) (hv : v.category = 1) (hw : w.category = 1) (h : G X q Ls (v :: w :: v :: w :: st) T I J O k n) : G X pc Ls (v :: w :: st) T I J O k n := by
  obtain ⟨p, l, e, R, s, m, args, below, meth, c, E, Q⟩ := X
  intro H locs ls hW hS hL
  obtain ⟨d, rfl⟩ := d
  exact lv_dup2_11 x.1 x.2.1 d hv hw (h H locs ls hW hS hL)
theorem G_null (x : Ok X cc own) (d : Dc cc pc .aconst_null 1 q) (h : G X q Ls (va_rf none :: st) T I J O k n) : G X pc Ls st T I J O k n := by
  obtain ⟨p, l, e, R, s, m, args, below, meth, c, E, Q⟩ := X
  intro H locs ls hW hS hL
  obtain ⟨d, rfl⟩ := d
  exact lv_null x.1 x.2.1 d (h H locs ls hW hS hL)
theorem G_goto {tgt : Nat} (x : Ok X cc own) (d : Db cc pc .goto tgt q) (h : G X tgt Ls st T I J O k n) : G X pc Ls st T I J O k n := by
  obtain ⟨p, l, e, R, s, m, args, below, meth, c, E, Q⟩ := X
  intro H locs ls hW hS hL
  obtain ⟨off, d, ht, rfl⟩ := d
  exact lv_goto x.1 x.2.1 d ht (h H locs ls hW hS hL)
theorem G_icmp_lt {a b : Int} {tgt : Nat} (x : Ok X cc own) (d : Db cc pc (.if_icmp .lt) tgt q) (ha : in32 a) (hb : in32 b) (h1 : a < b → G X tgt Ls st T I J O k n) (h2 : ¬ a < b → G X q Ls st T I J O k n) : G X pc Ls (VI b :: VI a :: st) T I J O k n := by
  obtain ⟨p, l, e, R, s, m, args, below, meth, c, E, Q⟩ := X
  intro H locs ls hW hS hL
  obtain ⟨off, d, ht, rfl⟩ := d
  exact lv_icmp_lt x.1 x.2.1 d ht (fun z => h1 ((i32_lt ha hb).mp z) H locs ls hW hS hL) (fun z => h2 (fun y => z ((i32_lt ha hb).mpr y)) H locs ls hW hS hL)
theorem G_if_lt {a : Int} {tgt : Nat} (x : Ok X cc own) (d : Db cc pc (.ifCond .lt) tgt q) (ha : in32 a) (h1 : a < 0 → G X tgt Ls st T I J O k n) (h2 : ¬ a < 0 → G X q Ls st T I J O k n) : G X pc Ls (VI a :: st) T I J O k n := by
  obtain ⟨p, l, e, R, s, m, args, below, meth, c, E, Q⟩ := X
  intro H locs ls hW hS hL
  obtain ⟨off, d, ht, rfl⟩ := d
  have z0 : in32 0 := ⟨by decide, by decide⟩
  exact lv_if_lt x.1 x.2.1 d ht (fun z => h1 ((i32_lt ha z0).mp z) H locs ls hW hS hL) (fun z => h2 (fun y => z ((i32_lt ha z0).mpr y)) H locs ls hW hS hL)
theorem G_icmp_ge {a b : Int} {tgt : Nat} (x : Ok X cc own) (d : Db cc pc (.if_icmp .ge) tgt q) (ha : in32 a) (hb : in32 b) (h1 : b ≤ a → G X tgt Ls st T I J O k n) (h2 : ¬ b ≤ a → G X q Ls st T I J O k n) : G X pc Ls (VI b :: VI a :: st) T I J O k n := by
  obtain ⟨p, l, e, R, s, m, args, below, meth, c, E, Q⟩ := X
  intro H locs ls hW hS hL
  obtain ⟨off, d, ht, rfl⟩ := d
  exact lv_icmp_ge x.1 x.2.1 d ht (fun z => h1 ((i32_le hb ha).mp z) H locs ls hW hS hL) (fun z => h2 (fun y => z ((i32_le hb ha).mpr y)) H locs ls hW hS hL)
theorem G_if_ge {a : Int} {tgt : Nat} (x : Ok X cc own) (d : Db cc pc (.ifCond .ge) tgt q) (ha : in32 a) (h1 : 0 ≤ a → G X tgt Ls st T I J O k n) (h2 : ¬ 0 ≤ a → G X q Ls st T I J O k n) : G X pc Ls (VI a :: st) T I J O k n := by
  obtain ⟨p, l, e, R, s, m, args, below, meth, c, E, Q⟩ := X
  intro H locs ls hW hS hL
  obtain ⟨off, d, ht, rfl⟩ := d
  have z0 : in32 0 := ⟨by decide, by decide⟩
  exact lv_if_ge x.1 x.2.1 d ht (fun z => h1 ((i32_le z0 ha).mp z) H locs ls hW hS hL) (fun z => h2 (fun y => z ((i32_le z0 ha).mpr y)) H locs ls hW hS hL)
theorem G_icmp_gt {a b : Int} {tgt : Nat} (x : Ok X cc own) (d : Db cc pc (.if_icmp .gt) tgt q) (ha : in32 a) (hb : in32 b) (h1 : b < a → G X tgt Ls st T I J O k n) (h2 : ¬ b < a → G X q Ls st T I J O k n) : G X pc Ls (VI b :: VI a :: st) T I J O k n := by
  obtain ⟨p, l, e, R, s, m, args, below, meth, c, E, Q⟩ := X
  intro H locs ls hW hS hL
  obtain ⟨off, d, ht, rfl⟩ := d
  exact lv_icmp_gt x.1 x.2.1 d ht (fun z => h1 ((i32_lt hb ha).mp z) H locs ls hW hS hL) (fun z => h2 (fun y => z ((i32_lt hb ha).mpr y)) H locs ls hW hS hL)
theorem G_if_gt {a : Int} {tgt : Nat} (x : Ok X cc own) (d : Db cc pc (.ifCond .gt) tgt q) (ha : in32 a) (h1 : 0 < a → G X tgt Ls st T I J O k n) (h2 : ¬ 0 < a → G X q Ls st T I J O k n) : G X pc Ls (VI a :: st) T I J O k n := by
  obtain ⟨p, l, e, R, s, m, args, below, meth, c, E, Q⟩ := X
  intro H locs ls hW hS hL
  obtain ⟨off, d, ht, rfl⟩ := d
  have z0 : in32 0 := ⟨by decide, by decide⟩
  exact lv_if_gt x.1 x.2.1 d ht (fun z => h1 ((i32_lt z0 ha).mp z) H locs ls hW hS hL) (fun z => h2 (fun y => z ((i32_lt z0 ha).mpr y)) H locs ls hW hS hL)
theorem G_icmp_le {a b : Int} {tgt : Nat} (x : Ok X cc own) (d : Db cc pc (.if_icmp .le) tgt q) (ha : in32 a) (hb : in32 b) (h1 : a ≤ b → G X tgt Ls st T I J O k n) (h2 : ¬ a ≤ b → G X q Ls st T I J O k n) : G X pc Ls (VI b :: VI a :: st) T I J O k n := by
  obtain ⟨p, l, e, R, s, m, args, below, meth, c, E, Q⟩ := X
  intro H locs ls hW hS hL
  obtain ⟨off, d, ht, rfl⟩ := d
  exact lv_icmp_le x.1 x.2.1 d ht (fun z => h1 ((i32_le ha hb).mp z) H locs ls hW hS hL) (fun z => h2 (fun y => z ((i32_le ha hb).mpr y)) H locs ls hW hS hL)
theorem G_if_le {a : Int} {tgt : Nat} (x : Ok X cc own) (d : Db cc pc (.ifCond .le) tgt q) (ha : in32 a) (h1 : a ≤ 0 → G X tgt Ls st T I J O k n) (h2 : ¬ a ≤ 0 → G X q Ls st T I J O k n) : G X pc Ls (VI a :: st) T I J O k n := by
  obtain ⟨p, l, e, R, s, m, args, below, meth, c, E, Q⟩ := X
  intro H locs ls hW hS hL
  obtain ⟨off, d, ht, rfl⟩ := d
  have z0 : in32 0 := ⟨by decide, by decide⟩
  exact lv_if_le x.1 x.2.1 d ht (fun z => h1 ((i32_le ha z0).mp z) H locs ls hW hS hL) (fun z => h2 (fun y => z ((i32_le ha z0).mpr y)) H locs ls hW hS hL)
theorem G_icmp_eq {a b : Int} {tgt : Nat} (x : Ok X cc own) (d : Db cc pc (.if_icmp .eq) tgt q) (ha : in32 a) (hb : in32 b) (h1 : a = b → G X tgt Ls st T I J O k n) (h2 : ¬ a = b → G X q Ls st T I J O k n) : G X pc Ls (VI b :: VI a :: st) T I J O k n := by
  obtain ⟨p, l, e, R, s, m, args, below, meth, c, E, Q⟩ := X
  intro H locs ls hW hS hL
  obtain ⟨off, d, ht, rfl⟩ := d
  exact lv_icmp_eq x.1 x.2.1 d ht (fun z => h1 ((i32_eq ha hb).mp z) H locs ls hW hS hL) (fun z => h2 (fun y => z ((i32_eq ha hb).mpr y)) H locs ls hW hS hL)
theorem G_if_eq {a : Int} {tgt : Nat} (x : Ok X cc own) (d : Db cc pc (.ifCond .eq) tgt q) (ha : in32 a) (h1 : a = 0 → G X tgt Ls st T I J O k n) (h2 : ¬ a = 0 → G X q Ls st T I J O k n) : G X pc Ls (VI a :: st) T I J O k n := by
  obtain ⟨p, l, e, R, s, m, args, below, meth, c, E, Q⟩ := X
  intro H locs ls hW hS hL
  obtain ⟨off, d, ht, rfl⟩ := d
  have z0 : in32 0 := ⟨by decide, by decide⟩
  exact lv_if_eq x.1 x.2.1 d ht (fun z => h1 ((i32_eq ha z0).mp z) H locs ls hW hS hL) (fun z => h2 (fun y => z ((i32_eq ha z0).mpr y)) H locs ls hW hS hL)
theorem G_icmp_ne {a b : Int} {tgt : Nat} (x : Ok X cc own) (d : Db cc pc (.if_icmp .ne) tgt q) (ha : in32 a) (hb : in32 b) (h1 : ¬ a = b → G X tgt Ls st T I J O k n) (h2 : a = b → G X q Ls st T I J O k n) : G X pc Ls (VI b :: VI a :: st) T I J O k n := by
  obtain ⟨p, l, e, R, s, m, args, below, meth, c, E, Q⟩ := X
  intro H locs ls hW hS hL
  obtain ⟨off, d, ht, rfl⟩ := d
  exact lv_icmp_ne x.1 x.2.1 d ht (fun z => h1 (fun y => z ((i32_eq ha hb).mpr y)) H locs ls hW hS hL) (fun z => h2 ((i32_eq ha hb).mp z) H locs ls hW hS hL)
theorem G_if_ne {a : Int} {tgt : Nat} (x : Ok X cc own) (d : Db cc pc (.ifCond .ne) tgt q) (ha : in32 a) (h1 : ¬ a = 0 → G X tgt Ls st T I J O k n) (h2 : a = 0 → G X q Ls st T I J O k n) : G X pc Ls (VI a :: st) T I J O k n := by
  obtain ⟨p, l, e, R, s, m, args, below, meth, c, E, Q⟩ := X
  intro H locs ls hW hS hL
  obtain ⟨off, d, ht, rfl⟩ := d
  have z0 : in32 0 := ⟨by decide, by decide⟩
  exact lv_if_ne x.1 x.2.1 d ht (fun z => h1 (fun y => z ((i32_eq ha z0).mpr y)) H locs ls hW hS hL) (fun z => h2 ((i32_eq ha z0).mp z) H locs ls hW hS hL)
theorem G_ifnull {o : Option Nat} {tgt : Nat} (x : Ok X cc own) (d : Db cc pc .ifnull tgt q) (h1 : o = none → G X tgt Ls st T I J O k n) (h2 : ∀ a, o = some a → G X q Ls st T I J O k n) : G X pc Ls (va_rf o :: st) T I J O k n := by
  obtain ⟨p, l, e, R, s, m, args, below, meth, c, E, Q⟩ := X
  intro H locs ls hW hS hL
  obtain ⟨off, d, ht, rfl⟩ := d
  cases o with
  | none => exact lv_ifnullN x.1 x.2.1 d ht (h1 rfl H locs ls hW hS hL)
  | some a => exact lv_ifnull x.1 x.2.1 d (h2 a rfl H locs ls hW hS hL)
theorem G_ifnonnull {o : Option Nat} {tgt : Nat} (x : Ok X cc own) (d : Db cc pc .ifnonnull tgt q) (h1 : ∀ a, o = some a → G X tgt Ls st T I J O k n) (h2 : o = none → G X q Ls st T I J O k n) : G X pc Ls (va_rf o :: st) T I J O k n := by
  obtain ⟨p, l, e, R, s, m, args, below, meth, c, E, Q⟩ := X
  intro H locs ls hW hS hL
  obtain ⟨off, d, ht, rfl⟩ := d
  cases o with
  | none => exact lv_ifnonnullN x.1 x.2.1 d (h2 rfl H locs ls hW hS hL)
  | some a => exact lv_ifnonnull x.1 x.2.1 d ht (h1 a rfl H locs ls hW hS hL)
theorem G_acmp_ne {o o2 : Option Nat} {tgt : Nat} (x : Ok X cc own) (d : Db cc pc (.if_acmp .ne) tgt q) (h1 : ¬ o = o2 → G X tgt Ls st T I J O k n) (h2 : o = o2 → G X q Ls st T I J O k n) : G X pc Ls (va_rf o2 :: va_rf o :: st) T I J O k n := by
  obtain ⟨p, l, e, R, s, m, args, below, meth, c, E, Q⟩ := X
  intro H locs ls hW hS hL
  obtain ⟨off, d, ht, rfl⟩ := d
  exact lv_acmp_ne x.1 x.2.1 d ht (fun z => h1 z H locs ls hW hS hL) (fun z => h2 z H locs ls hW hS hL)
theorem i32_div {a b : Int} (ha : in32 a) (hb : 0 < b) (hb2 : in32 b) : Int32.ofInt a / Int32.ofInt b = Int32.ofInt (a.tdiv b) := by
  rw [← Int32.toInt_inj, Int32.toInt_div, i32_toInt ha, i32_toInt hb2]
  have h1 : in32 (a.tdiv b) := by
    have h3 : (a.tdiv b).natAbs ≤ a.natAbs := by
      rw [Int.natAbs_tdiv]
      exact Nat.div_le_self _ _
    have := ha.1
    have := ha.2
    by_cases ha0 : 0 ≤ a
    · have := Int.tdiv_nonneg ha0 (Int.le_of_lt hb)
      constructor <;> omega
    · have h5 : 0 ≤ (-a).tdiv b := Int.tdiv_nonneg (by omega) (Int.le_of_lt hb)
      rw [Int.neg_tdiv] at h5
      constructor <;> omega
  rw [i32_toInt h1]
  exact Int.bmod_eq_of_le (by have := h1.1; omega) (by have := h1.2; omega)
theorem G_idiv {a b : Int} (x : Ok X cc own) (d : Dc cc pc .idiv 1 q) (ha : in32 a) (hb : 0 < b) (hb2 : in32 b) (h : G X q Ls (VI (a.tdiv b) :: st) T I J O k n) : G X pc Ls (VI b :: VI a :: st) T I J O k n := by
  obtain ⟨p, l, e, R, s, m, args, below, meth, c, E, Q⟩ := X
  intro H locs ls hW hS hL
  obtain ⟨d, rfl⟩ := d
  refine lv_idiv x.1 x.2.1 d (fun z => ?_) ?_
  · have := (i32_eq (y := 0) hb2 ⟨by decide, by decide⟩).mp z
    omega
  · rw [i32_div ha hb hb2]
    exact h H locs ls hW hS hL
theorem G_irem {a b : Int} (x : Ok X cc own) (d : Dc cc pc .irem 1 q) (ha : in32 a) (hb : 0 < b) (hb2 : in32 b) (h : G X q Ls (VI (a.tmod b) :: st) T I J O k n) : G X pc Ls (VI b :: VI a :: st) T I J O k n := by
  obtain ⟨p, l, e, R, s, m, args, below, meth, c, E, Q⟩ := X
  intro H locs ls hW hS hL
  obtain ⟨d, rfl⟩ := d
  refine lv_irem x.1 x.2.1 d (fun z => ?_) ?_
  · have := (i32_eq (y := 0) hb2 ⟨by decide, by decide⟩).mp z
    omega
  · rw [i32_div ha hb hb2, ← Int32.ofInt_mul, ← Int32.ofInt_sub]
    have e : a - a.tdiv b * b = a.tmod b := by
      have := Int.tmod_add_tdiv_mul a b
      omega
    rw [e]
    exact h H locs ls hW hS hL
end GR
end
section
theorem gtb_mem {w : Cond} (h : w ∈ lw_tbl) (hg : goodWord w = true) : w ∈ gtb := List.mem_filter.mpr ⟨h, hg⟩
theorem gtb_all {ws : List Cond} (h : ws.all (fun w => decide (w ∈ lw_tbl) && goodWord w) = true) : ∀ w ∈ ws, w ∈ gtb := fun w hw => by
  have h1 := List.all_eq_true.mp h w hw
  simp only [Bool.and_eq_true, decide_eq_true_eq] at h1
  exact gtb_mem h1.1 h1.2
set_option maxRecDepth 100000 in
theorem gin0 : ∀ w ∈ u_ws RX0 TX0 12, w ∈ gtb := gtb_all (by decide +kernel)
set_option maxRecDepth 100000 in
theorem gin1 : ∀ w ∈ u_ws RX1 TX1 1, w ∈ gtb := gtb_all (by decide +kernel)
set_option maxRecDepth 100000 in
theorem gin2 : ∀ w ∈ u_ws RX2 TX2 3, w ∈ gtb := gtb_all (by decide +kernel)
set_option maxRecDepth 100000 in
theorem gin3 : ∀ w ∈ u_ws RX3 TX3 1, w ∈ gtb := gtb_all (by decide +kernel)
set_option maxRecDepth 100000 in
theorem gin4 : ∀ w ∈ u_ws RX4 TX4 7, w ∈ gtb := gtb_all (by decide +kernel)
set_option maxRecDepth 100000 in
theorem gin5 : ∀ w ∈ u_ws RX5 TX5 7, w ∈ gtb := gtb_all (by decide +kernel)
set_option maxRecDepth 100000 in
theorem gin6 : ∀ w ∈ u_ws RX6 TX6 3, w ∈ gtb := gtb_all (by decide +kernel)
set_option maxRecDepth 100000 in
theorem gin7 : ∀ w ∈ u_ws RX7 TX7 2, w ∈ gtb := gtb_all (by decide +kernel)
set_option maxRecDepth 100000 in
theorem gin8 : ∀ w ∈ u_ws RX8 TX8 9, w ∈ gtb := gtb_all (by decide +kernel)
set_option maxRecDepth 100000 in
theorem gin9 : ∀ w ∈ u_ws RX9 TX9 2, w ∈ gtb := gtb_all (by decide +kernel)
set_option maxRecDepth 100000 in
theorem gin10 : ∀ w ∈ u_ws RX10 TX10 4, w ∈ gtb := gtb_all (by decide +kernel)
set_option maxRecDepth 100000 in
theorem gin11 : ∀ w ∈ u_ws RX11 TX11 31, w ∈ gtb := gtb_all (by decide +kernel)
theorem gin (ci : Nat) : ∀ w ∈ u_ws (gRn ci) (gTb ci) (gN ci), w ∈ gtb := by
  match ci with
  | 0 => exact gin0
  | 1 => exact gin1
  | 2 => exact gin2
  | 3 => exact gin3
  | 4 => exact gin4
  | 5 => exact gin5
  | 6 => exact gin6
  | 7 => exact gin7
  | 8 => exact gin8
  | 9 => exact gin9
  | 10 => exact gin10
  | _ + 11 => exact gin11
theorem gtyOk (ci : Nat) : ∀ k, k < gN ci → parseFieldDescriptor (gTb ci k).2.2.1 = some (gty ci k) := by
  match ci with
  | 0 => exact tyX0_ok
  | 1 => exact tyX1_ok
  | 2 => exact tyX2_ok
  | 3 => exact tyX3_ok
  | 4 => exact tyX4_ok
  | 5 => exact tyX5_ok
  | 6 => exact tyX6_ok
  | 7 => exact tyX7_ok
  | 8 => exact tyX8_ok
  | 9 => exact tyX9_ok
  | 10 => exact tyX10_ok
  | _ + 11 => exact tyX11_ok
theorem gnm (ci : Nat) : ∀ a, a < gN ci → ∀ b, b < gN ci → a ≠ b → (gTb ci a).2.1 ≠ (gTb ci b).2.1 := by
  match ci with
  | 0 => exact nmX0
  | 1 => exact nmX1
  | 2 => exact nmX2
  | 3 => exact nmX3
  | 4 => exact nmX4
  | 5 => exact nmX5
  | 6 => exact nmX6
  | 7 => exact nmX7
  | 8 => exact nmX8
  | 9 => exact nmX9
  | 10 => exact nmX10
  | _ + 11 => exact nmX11
theorem gfs_at {ci k : Nat} (I : gI) (J : gJ) (O : gO) (a : Nat) (hk : k < gN ci) : (gfs ci I J O a)[k]? = some (gVk (gK (gty ci k)) (I a k) (J a k) (O a k)) := by
  simp [gfs, hk]
theorem va_P1 {D : va_G} {cl : List vw_C} {q : Nat × va_E} {H : Heap} (h : va_at D cl q H) : va_P D cl [q] H := fun k x hx => by
  match k, hx with
  | 0, hx => cases hx; exact h
  | _ + 1, hx => cases hx
/-- a field, by its class's number and its place -/
def Lf (own : String) (idx ci kf : Nat) (kz : Int) : Prop := kf < gN ci ∧ vwCl[ci]? = some (gRn ci, gTb ci, gN ci) ∧ (gTb ci kf).1 = gRn ci ∧ Cond.fieldLink own idx (gRn ci) (gTb ci kf).2.1 (gTb ci kf).2.2.1 ∈ gtb ∧ (kf : Int) = kz
def Ini (X : gX) : Prop := X.2.2.2.2.2.2.2.2.1.name = "<init>"
section GM
variable {X : gX} {cc : ByteArray} {own : String} {pc q : Nat} {Ls : List (Option Value)} {st : List Value} {T : gT} {I : gI} {J : gJ} {O : gO} {k n : Nat}
theorem G_getV {idx ci kf a : Nat} {kz : Int} {o : Option Nat} (x : Ok X cc own) (d : Dc cc pc (.getfield idx) 3 q) (L : Lf own idx ci kf kz) (ho : o = some a) (hT : T.2 a = some (.inl ci)) (h : in32 (I a kz) → G X q Ls (gVk (gK (gty ci kf)) (I a kz) (J a kz) (O a kz) :: st) T I J O k n) : G X pc Ls (va_rf o :: st) T I J O k n := by
  obtain ⟨p, l, e, R, s, m, args, below, meth, c, E, Q⟩ := X
  intro H locs ls hW hS hL
  obtain ⟨d, rfl⟩ := d
  obtain ⟨hk, hc, h1, hl, rfl⟩ := L
  subst ho
  refine va_get (Ts := gtb) x.1 x.2.1 x.2.2.2.1 (gin ci) x.2.2.1 x.2.2.2.2.1.1 (va_P1 (hW.2.1 a _ hT).2) 0 rfl hc kf hk (x.2.2.2.1 _ hl) (fun y hy => by rw [← h1]; exact hy) (gfs_at I J O a hk) d ?_
  exact h (hW.2.2.1 a _) H locs ls hW hS hL
theorem G_geti {idx ci kf a : Nat} {kz : Int} {o : Option Nat} (x : Ok X cc own) (d : Dc cc pc (.getfield idx) 3 q) (L : Lf own idx ci kf kz) (hk : gK (gty ci kf) = 0) (ho : o = some a) (hT : T.2 a = some (.inl ci)) (h : in32 (I a kz) → G X q Ls (VI (I a kz) :: st) T I J O k n) : G X pc Ls (va_rf o :: st) T I J O k n :=
  G_getV x d L ho hT (by rw [hk]; exact h)
theorem G_getl {idx ci kf a : Nat} {kz : Int} {o : Option Nat} (x : Ok X cc own) (d : Dc cc pc (.getfield idx) 3 q) (L : Lf own idx ci kf kz) (hk : gK (gty ci kf) = 1) (ho : o = some a) (hT : T.2 a = some (.inl ci)) (h : G X q Ls (.long (J a kz) :: st) T I J O k n) : G X pc Ls (va_rf o :: st) T I J O k n :=
  G_getV x d L ho hT (by rw [hk]; exact fun _ => h)
theorem G_getr {idx ci kf a : Nat} {kz : Int} {o : Option Nat} (x : Ok X cc own) (d : Dc cc pc (.getfield idx) 3 q) (L : Lf own idx ci kf kz) (hk : gK (gty ci kf) = 2) (ho : o = some a) (hT : T.2 a = some (.inl ci)) (h : G X q Ls (va_rf (O a kz) :: st) T I J O k n) : G X pc Ls (va_rf o :: st) T I J O k n :=
  G_getV x d L ho hT (by rw [hk]; exact fun _ => h)
theorem G_putV {idx ci kf a : Nat} {kz : Int} {o : Option Nat} {v : Value} {I' : gI} {J' : gJ} {O' : gO} (x : Ok X cc own) (d : Dc cc pc (.putfield idx) 3 q) (L : Lf own idx ci kf kz) (hfin : (gTb ci kf).2.2.2 = false ∨ ((gTb ci kf).2.2.2 = true ∧ Ini X ∧ gRn ci = own)) (ho : o = some a) (hT : T.2 a = some (.inl ci))
    (hn : narrow (gty ci kf) v = v) (hfit : fits (gty ci kf) v = true) (hv : gVk (gK (gty ci kf)) (I' a kz) (J' a kz) (O' a kz) = v) (hoth : ∀ j : Int, j ≠ kz → I' a j = I a j ∧ J' a j = J a j ∧ O' a j = O a j)
    (hI : ∀ b, b ≠ a → ∀ k, I' b k = I b k) (hJ : ∀ b, b ≠ a → ∀ k, J' b k = J b k) (hO : ∀ b, b ≠ a → ∀ k, O' b k = O b k) (hr : (∀ a k, in32 (I a k)) → ∀ a k, in32 (I' a k)) (h : G X q Ls st T I' J' O' k n) : G X pc Ls (v :: va_rf o :: st) T I J O k n := by
  obtain ⟨p, l, e, R, s, m, args, below, meth, c, E, Q⟩ := X
  intro H locs ls hW hS hL
  obtain ⟨d, rfl⟩ := d
  obtain ⟨hk, hc, h1, hl, rfl⟩ := L
  subst ho
  have hts := x.2.2.2.1
  have hK := x.2.2.2.2.1.1
  have hap := va_apart (own := own) hts (gin ci) (gty ci) (gtyOk ci) (gnm ci) hK hc
  have hat := (hW.2.1 a _ hT)
  obtain ⟨r, g1, cell, q1, q2, q3, q4⟩ := hat.2
  have hr1 : r = (gRn ci, gTb ci, gN ci) := Option.some.inj (g1.symm.trans hc)
  subst hr1
  obtain ⟨hS5, hfc, kC, hkC, hkind⟩ := hK.1 ci _ hc
  obtain ⟨cf, kf5, fi, f, hi, hsl⟩ := hS5 kf hk
  have hlay := hts _ (gin ci _ (u_in_lay hk))
  have hst := (u_facts hfc hkC (u_lays hts (gin ci) hk) hi).1
  have hsame : s.fieldFound? (gRn ci) (gTb ci kf).2.1 (gTb ci kf).2.2.1 = some (cf, kf5, fi, f) := by rw [← h1]; exact hi
  have key : ∀ H' : Heap, H'[a]? = some (cell.setSlot f.slot v) → H'.size = H.size → (∀ q, q ≠ a → H'[q]? = H[q]?) → W p l e R s m args below meth c H' (locs ++ [⟨a, f.slot⟩]) k n Q (F0 m (pc + 3) ls st) := by
    intro H' e1 e2 e3
    rw [hsl] at e1
    refine h H' _ ls (hW.put hT e2 e3 ⟨_, hc, t_OB.to (V := updV (vp_V (gfs ci I J O a)) kf v) ⟨_, e1, q2, q3, t_set q4 hap hk v⟩ (fun j hj => ?_)⟩ hI hJ hO (hr hW.2.2.1)) (hS.put e2 e3 hat.1) hL
    show updV (vp_V (gfs ci I J O a)) kf v j = vp_V (gfs ci I' J' O' a) j
    simp only [updV, vp_V, List.getD_eq_getElem?_getD, gfs_at I' J' O' a hj, gfs_at I J O a hj, Option.getD_some]
    by_cases hjk : j = kf
    · subst hjk
      rw [if_pos rfl, hv]
    · rw [if_neg hjk]
      obtain ⟨z1, z2, z3⟩ := hoth (j : Int) (fun z => hjk (Int.ofNat_inj.mp z))
      rw [z1, z2, z3]
  rcases hfin with hfin | ⟨hfin, hini, hdecl⟩
  · unfold u_lay at hlay
    rw [if_neg (by rw [hfin]; decide)] at hlay
    have h6 := u_store hfc hkC hkind hlay hi (gtyOk ci kf hk) hn hfit
    exact W.putK x.1 x.2.1 (f := f) ⟨x.2.2.1, x.2.2.2.1 _ hl, ⟨_, _, _, hsame⟩, hst⟩ (by rw [q2]; exact h6) q1 q3 (by rw [hsl]; exact k2_hasslot (q4 kf hk)) rfl rfl d key
  · unfold u_lay at hlay
    rw [if_pos hfin] at hlay
    have hcf : m.cls = cf := by
      obtain ⟨_, _, c', _, _, _, -, -, hf', -, -, -, hown2, -⟩ := Cond.laysFinal_spec hlay
      have e1 : c' = cf := by have := hi.symm.trans hf'; simp at this; exact this.1.symm
      rw [h1, hdecl] at hown2
      rw [← e1]; exact Option.some.inj (x.2.2.1.symm.trans hown2)
    have h6 := u_fits hfc hkC hkind (Or.inr hlay) hi (gtyOk ci kf hk) hn hfit
    exact W.putFinK x.1 x.2.1 x.2.2.1 (x.2.2.2.1 _ hl) hsame hst hcf hini (by rw [q2]; exact h6) q1 q3 (by rw [hsl]; exact k2_hasslot (q4 kf hk)) rfl rfl d key
end GM
end
section
theorem uI_s {I : gI} {a : Nat} {k x : Int} : uI I a k x a k = x := by simp [uI]
theorem uJ_s {I : gJ} {a : Nat} {k : Int} {x : Int64} : uJ I a k x a k = x := by simp [uJ]
theorem uO_s {I : gO} {a : Nat} {k : Int} {x : Option Nat} : uO I a k x a k = x := by simp [uO]
theorem uI_a {I : gI} {a b : Nat} {k x : Int} (h : b ≠ a) (j : Int) : uI I a k x b j = I b j := by simp [uI, h]
theorem uJ_a {I : gJ} {a b : Nat} {k : Int} {x : Int64} (h : b ≠ a) (j : Int) : uJ I a k x b j = I b j := by simp [uJ, h]
theorem uO_a {I : gO} {a b : Nat} {k : Int} {x : Option Nat} (h : b ≠ a) (j : Int) : uO I a k x b j = I b j := by simp [uO, h]
theorem uI_k {I : gI} {a b : Nat} {k j x : Int} (h : j ≠ k) : uI I a k x b j = I b j := by simp [uI, h]
theorem uJ_k {I : gJ} {a b : Nat} {k j : Int} {x : Int64} (h : j ≠ k) : uJ I a k x b j = I b j := by simp [uJ, h]
theorem uO_k {I : gO} {a b : Nat} {k j : Int} {x : Option Nat} (h : j ≠ k) : uO I a k x b j = I b j := by simp [uO, h]
theorem uI_r {I : gI} {a : Nat} {k x : Int} (hx : in32 x) (h : ∀ a k, in32 (I a k)) : ∀ b j, in32 (uI I a k x b j) := fun b j => by
  unfold uI
  split
  · exact hx
  · exact h b j
section GA
variable {X : gX} {cc : ByteArray} {own : String} {pc q : Nat} {Ls : List (Option Value)} {st : List Value} {T : gT} {I : gI} {J : gJ} {O : gO} {k n : Nat}
theorem G_puti {idx ci kf a : Nat} {kz z : Int} {o : Option Nat} (x : Ok X cc own) (d : Dc cc pc (.putfield idx) 3 q) (L : Lf own idx ci kf kz) (hty : gty ci kf = .int) (hfin : (gTb ci kf).2.2.2 = false ∨ ((gTb ci kf).2.2.2 = true ∧ Ini X ∧ gRn ci = own)) (ho : o = some a) (hT : T.2 a = some (.inl ci)) (hz : in32 z) (h : G X q Ls st T (uI I a kz z) J O k n) : G X pc Ls (VI z :: va_rf o :: st) T I J O k n :=
  G_putV x d L hfin ho hT (by rw [hty]; rfl) (by rw [hty]; rfl) (by rw [hty, uI_s]; rfl) (fun j hj => ⟨uI_k hj, rfl, rfl⟩) (fun b hb j => uI_a hb j) (fun _ _ _ => rfl) (fun _ _ _ => rfl) (uI_r hz) h
theorem G_putz {idx ci kf a : Nat} {kz z : Int} {o : Option Nat} (x : Ok X cc own) (d : Dc cc pc (.putfield idx) 3 q) (L : Lf own idx ci kf kz) (hty : gty ci kf = .boolean) (hfin : (gTb ci kf).2.2.2 = false ∨ ((gTb ci kf).2.2.2 = true ∧ Ini X ∧ gRn ci = own)) (ho : o = some a) (hT : T.2 a = some (.inl ci)) (hz : z = 0 ∨ z = 1) (h : G X q Ls st T (uI I a kz z) J O k n) : G X pc Ls (VI z :: va_rf o :: st) T I J O k n :=
  G_putV x d L hfin ho hT (by rw [hty]; rcases hz with rfl | rfl <;> rfl) (by rw [hty]; rcases hz with rfl | rfl <;> rfl) (by rw [hty, uI_s]; rfl) (fun j hj => ⟨uI_k hj, rfl, rfl⟩) (fun b hb j => uI_a hb j) (fun _ _ _ => rfl) (fun _ _ _ => rfl) (uI_r (by rcases hz with rfl | rfl <;> exact ⟨by decide, by decide⟩)) h
theorem G_putl {idx ci kf a : Nat} {kz : Int} {z : Int64} {o : Option Nat} (x : Ok X cc own) (d : Dc cc pc (.putfield idx) 3 q) (L : Lf own idx ci kf kz) (hty : gty ci kf = .long) (hfin : (gTb ci kf).2.2.2 = false ∨ ((gTb ci kf).2.2.2 = true ∧ Ini X ∧ gRn ci = own)) (ho : o = some a) (hT : T.2 a = some (.inl ci)) (h : G X q Ls st T I (uJ J a kz z) O k n) : G X pc Ls (.long z :: va_rf o :: st) T I J O k n :=
  G_putV x d L hfin ho hT (by rw [hty]; rfl) (by rw [hty]; rfl) (by rw [hty, uJ_s]; rfl) (fun j hj => ⟨rfl, uJ_k hj, rfl⟩) (fun _ _ _ => rfl) (fun b hb j => uJ_a hb j) (fun _ _ _ => rfl) (fun h => h) h
theorem G_putr {idx ci kf a : Nat} {kz : Int} {z o : Option Nat} (x : Ok X cc own) (d : Dc cc pc (.putfield idx) 3 q) (L : Lf own idx ci kf kz) (hty : gK (gty ci kf) = 2) (hf : ∀ v : Option Nat, narrow (gty ci kf) (va_rf v) = va_rf v ∧ fits (gty ci kf) (va_rf v) = true) (hfin : (gTb ci kf).2.2.2 = false ∨ ((gTb ci kf).2.2.2 = true ∧ Ini X ∧ gRn ci = own)) (ho : o = some a) (hT : T.2 a = some (.inl ci)) (h : G X q Ls st T I J (uO O a kz z) k n) : G X pc Ls (va_rf z :: va_rf o :: st) T I J O k n :=
  G_putV x d L hfin ho hT (hf z).1 (hf z).2 (by rw [hty, uO_s]; rfl) (fun j hj => ⟨rfl, rfl, uO_k hj⟩) (fun _ _ _ => rfl) (fun _ _ _ => rfl) (fun b hb j => uO_a hb j) (fun h => h) h
/-- an array's cell -/
theorem gWd.arr {E : gD} {H : Heap} (h : gWd E T I J O H) {a t N : Nat} (hT : T.2 a = some (.inr (t, N))) : H[a]? = some (vp_cell (E.2.1 t) (N, garr t I J O a)) := (h.2.1 a _ hT).2
theorem gWd.le {E : gD} {H : Heap} (h : gWd E T I J O H) {a : Nat} {ty : gTy} (hT : T.2 a = some ty) : E.2.2 ≤ a := (h.2.1 a _ hT).1
theorem G_iald {a N : Nat} {i : Int} {o : Option Nat} (x : Ok X cc own) (d : Dc cc pc .iaload 1 q) (ho : o = some a) (hT : T.2 a = some (.inr (0, N))) (h0 : 0 ≤ i) (h1 : i < N) (hi : in32 i) (h : in32 (I a i) → G X q Ls (VI (I a i) :: st) T I J O k n) : G X pc Ls (VI i :: va_rf o :: st) T I J O k n := by
  obtain ⟨p, l, e, R, s, m, args, below, meth, c, E, Q⟩ := X
  intro H locs ls hW hS hL
  obtain ⟨d, rfl⟩ := d
  subst ho
  refine va_iald x.1 x.2.1 x.2.2.2.2.1.1 (va_P1 (hW.2.1 a _ hT).2) 0 0 rfl rfl (i32_vpin h0 h1 hi) d ?_
  have e1 : ((Int32.ofInt i).toNatClampNeg : Int) = i := by rw [i32_clamp h0 hi]; omega
  show W p l e R s m args below meth c H locs k n Q (F0 m (pc + 1) ls (.int (Int32.ofInt (I a ((Int32.ofInt i).toNatClampNeg : Int))) :: st))
  rw [e1]
  exact h (hW.2.2.1 a i) H locs ls hW hS hL
theorem G_zald {a N : Nat} {i : Int} {o : Option Nat} (x : Ok X cc own) (d : Dc cc pc .baload 1 q) (ho : o = some a) (hT : T.2 a = some (.inr (1, N))) (h0 : 0 ≤ i) (h1 : i < N) (hi : in32 i) (h : in32 (I a i) → G X q Ls (VI (I a i) :: st) T I J O k n) : G X pc Ls (VI i :: va_rf o :: st) T I J O k n := by
  obtain ⟨p, l, e, R, s, m, args, below, meth, c, E, Q⟩ := X
  intro H locs ls hW hS hL
  obtain ⟨d, rfl⟩ := d
  subst ho
  refine va_zald x.1 x.2.1 x.2.2.2.2.1.1 (va_P1 (hW.2.1 a _ hT).2) 0 1 rfl rfl (i32_vpin h0 h1 hi) d ?_
  have e1 : ((Int32.ofInt i).toNatClampNeg : Int) = i := by rw [i32_clamp h0 hi]; omega
  show W p l e R s m args below meth c H locs k n Q (F0 m (pc + 1) ls (.int (Int32.ofInt (I a ((Int32.ofInt i).toNatClampNeg : Int))) :: st))
  rw [e1]
  exact h (hW.2.2.1 a i) H locs ls hW hS hL
theorem G_cald {a N : Nat} {i : Int} {o : Option Nat} (x : Ok X cc own) (d : Dc cc pc .caload 1 q) (ho : o = some a) (hT : T.2 a = some (.inr (2, N))) (h0 : 0 ≤ i) (h1 : i < N) (hi : in32 i) (h : in32 (I a i) → G X q Ls (VI (I a i) :: st) T I J O k n) : G X pc Ls (VI i :: va_rf o :: st) T I J O k n := by
  obtain ⟨p, l, e, R, s, m, args, below, meth, c, E, Q⟩ := X
  intro H locs ls hW hS hL
  obtain ⟨d, rfl⟩ := d
  subst ho
  refine va_cald x.1 x.2.1 x.2.2.2.2.1.1 (va_P1 (hW.2.1 a _ hT).2) 0 2 rfl rfl (i32_vpin h0 h1 hi) d ?_
  have e1 : ((Int32.ofInt i).toNatClampNeg : Int) = i := by rw [i32_clamp h0 hi]; omega
  show W p l e R s m args below meth c H locs k n Q (F0 m (pc + 1) ls (.int (Int32.ofInt (I a ((Int32.ofInt i).toNatClampNeg : Int))) :: st))
  rw [e1]
  exact h (hW.2.2.1 a i) H locs ls hW hS hL
theorem G_lald {a N : Nat} {i : Int} {o : Option Nat} (x : Ok X cc own) (d : Dc cc pc .laload 1 q) (ho : o = some a) (hT : T.2 a = some (.inr (3, N))) (h0 : 0 ≤ i) (h1 : i < N) (hi : in32 i) (h : G X q Ls (.long (J a i) :: st) T I J O k n) : G X pc Ls (VI i :: va_rf o :: st) T I J O k n := by
  obtain ⟨p, l, e, R, s, m, args, below, meth, c, E, Q⟩ := X
  intro H locs ls hW hS hL
  obtain ⟨d, rfl⟩ := d
  subst ho
  refine va_lald x.1 x.2.1 x.2.2.2.2.1.1 (va_P1 (hW.2.1 a _ hT).2) 0 3 rfl rfl (i32_vpin h0 h1 hi) d ?_
  have e1 : ((Int32.ofInt i).toNatClampNeg : Int) = i := by rw [i32_clamp h0 hi]; omega
  show W p l e R s m args below meth c H locs k n Q (F0 m (pc + 1) ls (.long (J a ((Int32.ofInt i).toNatClampNeg : Int)) :: st))
  rw [e1]
  exact h H locs ls hW hS hL
theorem G_aald {a N t : Nat} {C : String} {i : Int} {o : Option Nat} (x : Ok X cc own) (d : Dc cc pc .aaload 1 q) (ho : o = some a) (hT : T.2 a = some (.inr (t + 4, N))) (ht : ∀ kA, (gtys kA)[t + 4]? = some (kA (t + 4), .object C)) (h0 : 0 ≤ i) (h1 : i < N) (hi : in32 i) (h : G X q Ls (va_rf (O a i) :: st) T I J O k n) : G X pc Ls (VI i :: va_rf o :: st) T I J O k n := by
  obtain ⟨p, l, e, R, s, m, args, below, meth, c, E, Q⟩ := X
  intro H locs ls hW hS hL
  obtain ⟨d, rfl⟩ := d
  subst ho
  refine va_aldq (C := C) x.1 x.2.1 x.2.2.2.2.1.1 (va_P1 (hW.2.1 a _ hT).2) 0 (t + 4) rfl (ht E.2.1) (i32_vpin h0 h1 hi) d ?_
  have e1 : ((Int32.ofInt i).toNatClampNeg : Int) = i := by rw [i32_clamp h0 hi]; omega
  show W p l e R s m args below meth c H locs k n Q (F0 m (pc + 1) ls (va_rf (O a ((Int32.ofInt i).toNatClampNeg : Int)) :: st))
  rw [e1]
  exact h H locs ls hW hS hL
theorem G_alen {a t N : Nat} {o : Option Nat} {ty : FieldType} (x : Ok X cc own) (d : Dc cc pc .arraylength 1 q) (ho : o = some a) (hT : T.2 a = some (.inr (t, N))) (ht : ∀ kA, (gtys kA)[t]? = some (kA t, ty)) (h : G X q Ls (VI (N : Int) :: st) T I J O k n) : G X pc Ls (va_rf o :: st) T I J O k n := by
  obtain ⟨p, l, e, R, s, m, args, below, meth, c, E, Q⟩ := X
  intro H locs ls hW hS hL
  obtain ⟨d, rfl⟩ := d
  subst ho
  exact va_alen (v := Int32.ofInt (N : Int)) x.1 x.2.1 x.2.2.2.2.1.1 (va_P1 (hW.2.1 a _ hT).2) 0 t rfl (ht E.2.1) (Int32.ofInt_eq_ofNat).symm d (h H locs ls hW hS hL)
/-- the cell of an array behind a store -/
theorem garr_st {cA : ClassId} {N j : Nat} {f : Nat → Value} {v : Value} {i : Int} (h0 : 0 ≤ i) (hj : j = i.toNat) {g : Nat → Value} (hg : ∀ q : Nat, g q = if (q : Int) = i then v else f q) : (arrV cA N f).setSlot j v = arrV cA N g := by
  rw [arrV_store]
  congr 1
  funext q
  rw [hg q]
  unfold updV
  by_cases e : q = j
  · rw [if_pos e, if_pos (by omega)]
  · rw [if_neg e, if_neg (by omega)]
theorem G_iast {a N : Nat} {i z : Int} {o : Option Nat} (x : Ok X cc own) (d : Dc cc pc .iastore 1 q) (ho : o = some a) (hT : T.2 a = some (.inr (0, N))) (h0 : 0 ≤ i) (h1 : i < N) (hi : in32 i) (hz : in32 z) (h : G X q Ls st T (uI I a i z) J O k n) : G X pc Ls (VI z :: VI i :: va_rf o :: st) T I J O k n := by
  obtain ⟨p, l, e, R, s, m, args, below, meth, c, E, Q⟩ := X
  intro H locs ls hW hS hL
  obtain ⟨d, rfl⟩ := d
  subst ho
  have hin : vp_in (Int32.ofInt i) N := i32_vpin h0 h1 hi
  refine W.iast x.1 x.2.1 (hW.arr hT) ((x.2.2.2.2.1.1.2 0 _ rfl).1 N (fun j => .int (Int32.ofInt (I a j)))) (fun q => by cases q) (by show ¬ (_ < 0 ∨ (arrV _ _ _).slots.size ≤ _); rw [arrV_size]; exact hin) rfl rfl d fun H1 e1 e2 e3 => ?_
  refine h H1 _ ls (hW.put hT e2 e3 ?_ (fun b hb j => uI_a hb j) (fun _ _ _ => rfl) (fun _ _ _ => rfl) (uI_r hz hW.2.2.1)) (hS.put e2 e3 (hW.le hT)) hL
  show H1[a]? = some (vp_cell _ _)
  exact e1.trans (congrArg some (garr_st (f := fun (j : Nat) => Value.int (Int32.ofInt (I a (j : Int)))) (g := fun (j : Nat) => Value.int (Int32.ofInt (uI I a i z a (j : Int)))) h0 (i32_clamp h0 hi) (fun q => by
    show Value.int (Int32.ofInt (uI I a i z a (q : Int))) = _
    by_cases e : (q : Int) = i
    · rw [if_pos e, e, uI_s]
    · rw [if_neg e, uI_k e])))
theorem G_zast {a N : Nat} {i z : Int} {o : Option Nat} (x : Ok X cc own) (d : Dc cc pc .bastore 1 q) (ho : o = some a) (hT : T.2 a = some (.inr (1, N))) (h0 : 0 ≤ i) (h1 : i < N) (hi : in32 i) (hz : z = 0 ∨ z = 1) (h : G X q Ls st T (uI I a i z) J O k n) : G X pc Ls (VI z :: VI i :: va_rf o :: st) T I J O k n := by
  obtain ⟨p, l, e, R, s, m, args, below, meth, c, E, Q⟩ := X
  intro H locs ls hW hS hL
  obtain ⟨d, rfl⟩ := d
  subst ho
  have hin : vp_in (Int32.ofInt i) N := i32_vpin h0 h1 hi
  have hnr : narrow .boolean (.int (Int32.ofInt z)) = .int (Int32.ofInt z) := by rcases hz with rfl | rfl <;> rfl
  refine W.zast x.1 x.2.1 (hW.arr hT) ((x.2.2.2.2.1.1.2 1 _ rfl).1 N (fun j => .int (Int32.ofInt (I a j)))) (fun q => by cases q) (by show ¬ (_ < 0 ∨ (arrV _ _ _).slots.size ≤ _); rw [arrV_size]; exact hin) rfl rfl d fun H1 e1 e2 e3 => ?_
  refine h H1 _ ls (hW.put hT e2 e3 ?_ (fun b hb j => uI_a hb j) (fun _ _ _ => rfl) (fun _ _ _ => rfl) (uI_r (by rcases hz with rfl | rfl <;> exact ⟨by decide, by decide⟩) hW.2.2.1)) (hS.put e2 e3 (hW.le hT)) hL
  rw [hnr] at e1
  show H1[a]? = some (vp_cell _ _)
  exact e1.trans (congrArg some (garr_st (f := fun (j : Nat) => Value.int (Int32.ofInt (I a (j : Int)))) (g := fun (j : Nat) => Value.int (Int32.ofInt (uI I a i z a (j : Int)))) h0 (i32_clamp h0 hi) (fun q => by
    show Value.int (Int32.ofInt (uI I a i z a (q : Int))) = _
    by_cases e : (q : Int) = i
    · rw [if_pos e, e, uI_s]
    · rw [if_neg e, uI_k e])))
theorem i32_char {z : Int} (h0 : 0 ≤ z) (h1 : z < 65536) : narrow .char (.int (Int32.ofInt z)) = .int (Int32.ofInt z) ∧ ((Int32.ofInt z).toUInt32 % 65536).toInt32 = Int32.ofInt z := by
  obtain ⟨w, hw⟩ : ∃ w : Nat, z = w := ⟨z.toNat, by omega⟩
  subst hw
  have hw2 : w < 65536 := by omega
  have e0 : Int32.ofInt (w : Int) = Int32.ofNat w := Int32.ofInt_eq_ofNat
  have e1 : ((Int32.ofInt (w : Int)).toUInt32 % 65536).toInt32 = Int32.ofInt (w : Int) := by
    rw [e0]
    have e2 : (Int32.ofNat w).toUInt32 = UInt32.ofNat w := rfl
    rw [e2]
    have e3 : UInt32.ofNat w % 65536 = UInt32.ofNat w := by
      apply UInt32.toNat_inj.mp
      rw [UInt32.toNat_mod]
      show (UInt32.ofNat w).toNat % 65536 = _
      rw [Nat.mod_eq_of_lt]
      rw [UInt32.toNat_ofNat']
      omega
    rw [e3]
    rfl
  refine ⟨?_, e1⟩
  have e4 := vp_nar_char (Int32.ofInt (w : Int))
  unfold vp_nar at e4
  have e5 : (Int32.ofInt (w : Int)).toUInt32.toUInt16.toUInt32.toInt32 = Int32.ofInt (w : Int) := by
    rw [e0]
    have e2 : (Int32.ofNat w).toUInt32 = UInt32.ofNat w := rfl
    rw [e2]
    have e3 : (UInt32.ofNat w).toUInt16.toUInt32 = UInt32.ofNat w := by
      apply UInt32.toNat_inj.mp
      rw [UInt16.toNat_toUInt32, UInt32.toNat_toUInt16, UInt32.toNat_ofNat']
      omega
    rw [e3]
    rfl
  rw [e5] at e4
  have e6 : ∃ y, narrow .char (.int (Int32.ofInt (w : Int))) = .int y := ⟨_, rfl⟩
  obtain ⟨y, hy⟩ := e6
  rw [hy] at e4 ⊢
  have e7 : y = Int32.ofInt (w : Int) := e4
  rw [e7]
theorem G_i2c {a : Int} (x : Ok X cc own) (d : Dc cc pc .i2c 1 q) (h0 : 0 ≤ a) (h1 : a < 65536) (h : G X q Ls (VI a :: st) T I J O k n) : G X pc Ls (VI a :: st) T I J O k n := by
  obtain ⟨p, l, e, R, s, m, args, below, meth, c, E, Q⟩ := X
  intro H locs ls hW hS hL
  obtain ⟨d, rfl⟩ := d
  exact lv_i2c x.1 x.2.1 d (i32_char h0 h1).2 (h H locs ls hW hS hL)
theorem G_cast {a N : Nat} {i z : Int} {o : Option Nat} (x : Ok X cc own) (d : Dc cc pc .castore 1 q) (ho : o = some a) (hT : T.2 a = some (.inr (2, N))) (h0 : 0 ≤ i) (h1 : i < N) (hi : in32 i) (hz0 : 0 ≤ z) (hz1 : z < 65536) (h : G X q Ls st T (uI I a i z) J O k n) : G X pc Ls (VI z :: VI i :: va_rf o :: st) T I J O k n := by
  obtain ⟨p, l, e, R, s, m, args, below, meth, c, E, Q⟩ := X
  intro H locs ls hW hS hL
  obtain ⟨d, rfl⟩ := d
  subst ho
  have hin : vp_in (Int32.ofInt i) N := i32_vpin h0 h1 hi
  refine W.cast x.1 x.2.1 (hW.arr hT) ((x.2.2.2.2.1.1.2 2 _ rfl).1 N (fun j => .int (Int32.ofInt (I a j)))) (fun q => by cases q) (by show ¬ (_ < 0 ∨ (arrV _ _ _).slots.size ≤ _); rw [arrV_size]; exact hin) rfl rfl d fun H1 e1 e2 e3 => ?_
  refine h H1 _ ls (hW.put hT e2 e3 ?_ (fun b hb j => uI_a hb j) (fun _ _ _ => rfl) (fun _ _ _ => rfl) (uI_r (by constructor <;> omega) hW.2.2.1)) (hS.put e2 e3 (hW.le hT)) hL
  rw [(i32_char hz0 hz1).1] at e1
  show H1[a]? = some (vp_cell _ _)
  exact e1.trans (congrArg some (garr_st (f := fun (j : Nat) => Value.int (Int32.ofInt (I a (j : Int)))) (g := fun (j : Nat) => Value.int (Int32.ofInt (uI I a i z a (j : Int)))) h0 (i32_clamp h0 hi) (fun q => by
    show Value.int (Int32.ofInt (uI I a i z a (q : Int))) = _
    by_cases e : (q : Int) = i
    · rw [if_pos e, e, uI_s]
    · rw [if_neg e, uI_k e])))
theorem G_last {a N : Nat} {i : Int} {z : Int64} {o : Option Nat} (x : Ok X cc own) (d : Dc cc pc .lastore 1 q) (ho : o = some a) (hT : T.2 a = some (.inr (3, N))) (h0 : 0 ≤ i) (h1 : i < N) (hi : in32 i) (h : G X q Ls st T I (uJ J a i z) O k n) : G X pc Ls (.long z :: VI i :: va_rf o :: st) T I J O k n := by
  obtain ⟨p, l, e, R, s, m, args, below, meth, c, E, Q⟩ := X
  intro H locs ls hW hS hL
  obtain ⟨d, rfl⟩ := d
  subst ho
  have hin : vp_in (Int32.ofInt i) N := i32_vpin h0 h1 hi
  refine W.last x.1 x.2.1 (hW.arr hT) ((x.2.2.2.2.1.1.2 3 _ rfl).1 N (fun j => .long (J a j))) (fun q => by cases q) (by show ¬ (_ < 0 ∨ (arrV _ _ _).slots.size ≤ _); rw [arrV_size]; exact hin) rfl rfl d fun H1 e1 e2 e3 => ?_
  refine h H1 _ ls (hW.put hT e2 e3 ?_ (fun _ _ _ => rfl) (fun b hb j => uJ_a hb j) (fun _ _ _ => rfl) hW.2.2.1) (hS.put e2 e3 (hW.le hT)) hL
  show H1[a]? = some (vp_cell _ _)
  exact e1.trans (congrArg some (garr_st (f := fun (j : Nat) => Value.long (J a (j : Int))) (g := fun (j : Nat) => Value.long (uJ J a i z a (j : Int))) h0 (i32_clamp h0 hi) (fun q => by
    show Value.long (uJ J a i z a (q : Int)) = _
    by_cases e : (q : Int) = i
    · rw [if_pos e, e, uJ_s]
    · rw [if_neg e, uJ_k e])))
theorem G_aast {a N t ci b : Nat} {i : Int} {o z : Option Nat} (x : Ok X cc own) (d : Dc cc pc .aastore 1 q) (ho : o = some a) (hT : T.2 a = some (.inr (t + 4, N))) (ht : ∀ kA, (gtys kA)[t + 4]? = some (kA (t + 4), .object (gRn ci))) (hc : vwCl[ci]? = some (gRn ci, gTb ci, gN ci)) (hz : z = some b) (hb : T.2 b = some (.inl ci)) (h0 : 0 ≤ i) (h1 : i < N) (hi : in32 i) (h : G X q Ls st T I J (uO O a i (some b)) k n) : G X pc Ls (va_rf z :: VI i :: va_rf o :: st) T I J O k n := by
  obtain ⟨p, l, e, R, s, m, args, below, meth, c, E, Q⟩ := X
  intro H locs ls hW hS hL
  obtain ⟨d, rfl⟩ := d
  subst ho
  subst hz
  have hin : vp_in (Int32.ofInt i) N := i32_vpin h0 h1 hi
  have hlt : (Int32.ofInt i).toNatClampNeg < N := Nat.not_le.mp fun q => hin (Or.inr q)
  have hn0 : ¬ Int32.ofInt i < 0 := fun q => hin (Or.inl q)
  have hK := x.2.2.2.2.1.1
  obtain ⟨r', hr', cellV, g1, g2, g3, -⟩ := (hW.2.1 b _ hb).2
  have hcls := (hK.1 ci _ hc).2
  obtain ⟨kA, comp, k1, k2, k3, -⟩ := (hK.2 (t + 4) _ (ht E.2.1)).2
  have hcomp : comp = E.1.1 ci := Option.some.inj (k3.symm.trans hcls.1)
  subst hcomp
  obtain ⟨kC, hkC, -⟩ := hcls.2
  refine W.aast x.1 x.2.1 (hW.arr hT) (fun q h => by cases h) (fun h => by cases h) k1 k2 rfl hkC ⟨hn0, by show _ < (arrV _ _ _).slots.size; rw [arrV_size]; exact hlt⟩ g1 (fun q h => by rw [g3] at h; cases h) (by rw [g2]; exact hkC) (by rw [g2]; exact va_assign hcls) rfl rfl d fun H1 e1 e2 e3 => ?_
  refine h H1 _ ls (hW.put hT e2 e3 ?_ (fun _ _ _ => rfl) (fun _ _ _ => rfl) (fun b hb j => uO_a hb j) hW.2.2.1) (hS.put e2 e3 (hW.le hT)) hL
  show H1[a]? = some (vp_cell _ _)
  exact e1.trans (congrArg some (garr_st (f := fun (j : Nat) => va_rf (O a (j : Int))) (g := fun (j : Nat) => va_rf (uO O a i (some b) a (j : Int))) h0 (i32_clamp h0 hi) (fun q => by
    show va_rf (uO O a i (some b) a (q : Int)) = _
    by_cases e : (q : Int) = i
    · rw [if_pos e, e, uO_s]; rfl
    · rw [if_neg e, uO_k e])))
theorem G_aastN {a N t : Nat} {C : String} {i : Int} {o z : Option Nat} (x : Ok X cc own) (d : Dc cc pc .aastore 1 q) (ho : o = some a) (hT : T.2 a = some (.inr (t + 4, N))) (ht : ∀ kA, (gtys kA)[t + 4]? = some (kA (t + 4), .object C)) (hz : z = none) (h0 : 0 ≤ i) (h1 : i < N) (hi : in32 i) (h : G X q Ls st T I J (uO O a i none) k n) : G X pc Ls (va_rf z :: VI i :: va_rf o :: st) T I J O k n := by
  obtain ⟨p, l, e, R, s, m, args, below, meth, c, E, Q⟩ := X
  intro H locs ls hW hS hL
  obtain ⟨d, rfl⟩ := d
  subst ho
  subst hz
  have hin : vp_in (Int32.ofInt i) N := i32_vpin h0 h1 hi
  refine va_WaastN (C := C) x.1 x.2.1 (hW.arr hT) ((x.2.2.2.2.1.1.2 (t + 4) _ (ht E.2.1)).1 N (fun j => va_rf (O a j))) (fun h => by cases h) (by show ¬ (_ < 0 ∨ (arrV _ _ _).slots.size ≤ _); rw [arrV_size]; exact hin) rfl rfl d fun H1 e1 e2 e3 => ?_
  refine h H1 _ ls (hW.put hT e2 e3 ?_ (fun _ _ _ => rfl) (fun _ _ _ => rfl) (fun b hb j => uO_a hb j) hW.2.2.1) (hS.put e2 e3 (hW.le hT)) hL
  show H1[a]? = some (vp_cell _ _)
  exact e1.trans (congrArg some (garr_st (f := fun (j : Nat) => va_rf (O a (j : Int))) (g := fun (j : Nat) => va_rf (uO O a i none a (j : Int))) h0 (i32_clamp h0 hi) (fun q => by
    show va_rf (uO O a i none a (q : Int)) = _
    by_cases e : (q : Int) = i
    · rw [if_pos e, e, uO_s]; rfl
    · rw [if_neg e, uO_k e])))
end GA
end
section
abbrev gP : Type := Option Value → gT → gI → gJ → gO → Prop
abbrev gPX : Type := String → gT → gI → gJ → gO → Prop
def gws (y : MethodName) (cc : ByteArray) (maxL : Nat) (ret : Option FieldType) : List Cond := Cond.code y cc maxL ret :: gtb
def gPc (E : gD) (as : List Value) (T : gT) (I : gI) (J : gJ) (O : gO) : Array Value → State → Prop := fun v U => v = as.toArray ∧ gWd E T I J O U.heap ∧ gE E U U.heap ∧ E.2.2 ≤ U.heap.size
def gQc (E : gD) (P : gP) : Array Value → State → Outcome → State → Prop := fun _ st o t => (∃ v T I J O, o = .returned v ∧ P v T I J O ∧ gWd E T I J O t.heap) ∧ va_F (fun q => E.2.2 ≤ q) st t
def gXC (E : gD) (PX : gPX) : String → State → State → Prop := fun cl st t => (∃ T I J O, PX cl T I J O ∧ gWd E T I J O t.heap) ∧ va_F (fun q => E.2.2 ≤ q) st t
/-- a contract: from these cells with these arguments the method returns, with P -/
def Ct (y : MethodName) (cc : ByteArray) (maxL : Nat) (ret : Option FieldType) (as : List Value) (fr lo mc ms : Nat) (T : gT) (I : gI) (J : gJ) (O : gO) (P : gP) : Prop :=
  ∀ (l : Launch) (E : gD), l.stackTraces = false → Met l y (gws y cc maxL ret) { frames := fr, cells := mc, slots := ms, locals := lo } (gPc E as T I J O) (gQc E P) mc ms (fun q => E.2.2 ≤ q)
/-- .. or throws, with PX -/
def Cx (y : MethodName) (cc : ByteArray) (maxL : Nat) (ret : Option FieldType) (as : List Value) (fr lo mc ms : Nat) (T : gT) (I : gI) (J : gJ) (O : gO) (P : gP) (PX : gPX) : Prop :=
  ∀ (l : Launch) (E : gD), l.stackTraces = false → vx_Met l y (gws y cc maxL ret) { frames := fr, cells := mc, slots := ms, locals := lo } (gPc E as T I J O) (gQc E P) (gXC E PX) mc ms (fun q => E.2.2 ≤ q)
theorem gPc_blind {E : gD} {as : List Value} {T : gT} {I : gI} {J : gJ} {O : gO} : FrameBlind (gPc E as T I J O) := fun a U g mk h => ⟨h.1, h.2.1, gE.same (s := U) (U := U.calling g mk a) rfl h.2.2.1, h.2.2.2⟩
theorem gws_good {y : MethodName} {cc : ByteArray} {maxL : Nat} {ret : Option FieldType} (h : Cond.code y cc maxL ret ∈ gtb) : GoodIn gtb (gws y cc maxL ret) := fun w hw => by
  have hm : w ∈ gtb := by
    rcases List.mem_cons.mp hw with rfl | h1
    · exact h
    · exact h1
  exact ⟨hm, good_of_word (List.mem_filter.mp hm).2⟩
/-- what a body may rest on at its end -/
def gEnd (X : gX) (P : gP) (mc ms : Nat) (ret : Option FieldType) : Prop :=
  match X with
  | (p, l, e, R, s, m, args, below, meth, c, E, Q) => (∀ (H : Heap) (locs : List Loc) (k n : Nat) (g : JFrame), W p l e R s m args below meth c H locs k n (MQ below (gQc E P) args s mc ms (fun q => E.2.2 ≤ q)) g → W p l e R s m args below meth c H locs k n Q g) ∧ meth.sig.returnType = ret
def gRm (X : gX) (fr lo mc ms : Nat) : Prop := X.2.2.2.1 = { frames := fr, cells := mc, slots := ms, locals := lo }
/-- the locals at the entry -/
def gEn (as : List Value) (maxL : Nat) (Ls : List (Option Value)) : Prop := (lg_sl as).length ≤ maxL ∧ Ls.length ≤ maxL ∧ ∀ (i : Nat) (v : Value), Ls[i]? = some (some v) → (i, v) ∈ lv_args 0 as
theorem gEn.ls {as : List Value} {maxL : Nat} {Ls : List (Option Value)} (h : gEn as maxL Ls) : gLs ((lg_sl as ++ List.replicate (maxL - (lg_sl as).length) Slot.unset).toArray) maxL Ls := by
  have h1 := lv_entry as h.1
  exact ⟨h1.1, h1.2.1, h.2.1, fun i v hv => h1.2.2 _ (h.2.2 i v hv)⟩
theorem lv_args1 {as : List Value} (h : ∀ v ∈ as, v.category ≠ 2) : ∀ (b i : Nat) (v : Value), as[i]? = some v → (b + i, v) ∈ lv_args b as := by
  induction as with
  | nil => intro b i v hv; cases hv
  | cons a t ih =>
    intro b i v hv
    have ha : ¬ a.category = 2 := h a List.mem_cons_self
    rw [lv_args, if_neg ha]
    cases i with
    | zero =>
      cases hv
      exact List.mem_cons_self
    | succ i =>
      rw [List.getElem?_cons_succ] at hv
      have := ih (fun w hw => h w (List.mem_cons_of_mem _ hw)) (b + 1) i v hv
      rw [show b + (i + 1) = b + 1 + i by omega]
      exact List.mem_cons_of_mem _ this
theorem lg_sl1 {as : List Value} (h : ∀ v ∈ as, v.category ≠ 2) : (lg_sl as).length = as.length := by
  induction as with
  | nil => rfl
  | cons a t ih =>
    have ha : ¬ a.category = 2 := h a List.mem_cons_self
    have := ih (fun w hw => h w (List.mem_cons_of_mem _ hw))
    simp only [lg_sl, List.flatMap_cons, if_neg ha, List.length_append, List.length_cons, List.length_nil] at this ⊢
    omega
/-- arguments of one word each -/
theorem gEn1 {as : List Value} {maxL : Nat} {Ls : List (Option Value)} (h : ∀ v ∈ as, v.category ≠ 2) (hl : Ls.length = maxL) (ha : as.length ≤ maxL) (hL : Ls = as.map some ++ List.replicate (maxL - as.length) none) : gEn as maxL Ls := by
  refine ⟨by rw [lg_sl1 h]; exact ha, Nat.le_of_eq hl, fun i v hv => ?_⟩
  rw [hL] at hv
  rcases Nat.lt_or_ge i (as.map some).length with q | q
  · rw [List.getElem?_append_left q, List.getElem?_map] at hv
    cases hx : as[i]? with
    | none => rw [hx] at hv; cases hv
    | some w =>
      rw [hx] at hv
      cases hv
      have := lv_args1 h 0 i v hx
      rwa [Nat.zero_add] at this
  · rw [List.getElem?_append_right q] at hv
    have := List.mem_of_getElem? hv
    rw [List.mem_replicate] at this
    cases this.2
theorem cat_VI (z : Int) : (VI z).category ≠ 2 := by show (1 : Nat) ≠ 2; decide
theorem cat_VR (o : Option Nat) : (va_rf o).category ≠ 2 := by rw [cat_rf]; decide
theorem Ct.of {y : MethodName} {cc : ByteArray} {maxL : Nat} {ret : Option FieldType} {as : List Value} {fr lo mc ms : Nat} {T : gT} {I : gI} {J : gJ} {O : gO} {P : gP} (hy : plainName y.cls = true) (Ls : List (Option Value)) (hE : gEn as maxL Ls)
    (body : ∀ X : gX, Ok X cc y.cls → gEnd X P mc ms ret → gRm X fr lo mc ms → (y.name = "<init>" → Ini X) → (∀ a k, in32 (I a k)) → (∀ a k, T.1 ≤ a → I a k = 0 ∧ J a k = 0 ∧ O a k = none) → G X 0 Ls [] T I J O 0 0) : Ct y cc maxL ret as fr lo mc ms T I J O P := by
  intro l E hst
  refine Met.ofW (cc := cc) (maxL := maxL) (ret := ret) hy rfl ?_
  intro p e s m args below meth c s₁ B hml hv
  obtain ⟨rfl, hW, hgE, hn0⟩ := hv
  have hts := atoms_spec (ws := gws y cc maxL ret) B.pre
  rw [lg_entry_eq]
  refine body (p, l, e, _, s, m, as.toArray, below, meth, c, E, _) ⟨B.exec, B.bytes, findClass_of_methodNamed B.named, fun w hw => hts w (List.mem_cons_of_mem _ hw), hgE, hn0, B.notSynchronized, hst⟩ ⟨fun H locs k n g h => h, B.returns⟩ rfl (fun hi => (name_of_methodNamed B.named B.method).1.trans hi) hW.2.2.1 hW.2.2.2 s.heap [] _ hW va_S.rf ?_
  rw [hml]
  exact hE.ls
theorem Cx.of {y : MethodName} {cc : ByteArray} {maxL : Nat} {ret : Option FieldType} {as : List Value} {fr lo mc ms : Nat} {T : gT} {I : gI} {J : gJ} {O : gO} {P : gP} {PX : gPX} (hy : plainName y.cls = true) (Ls : List (Option Value)) (hE : gEn as maxL Ls)
    (body : ∀ X : gX, Ok X cc y.cls → gEnd X P mc ms ret → gRm X fr lo mc ms → (∀ x ∈ X.2.2.2.2.2.2.2.2.2.1.exceptionTable.toList, False) → X.2.2.2.2.2.2.2.2.2.2.2 = vx_MQ X.2.2.2.2.2.2.2.1 (gQc X.2.2.2.2.2.2.2.2.2.2.1 P) (gXC X.2.2.2.2.2.2.2.2.2.2.1 PX) X.2.2.2.2.2.2.1 X.2.2.2.2.1 mc ms (fun q => X.2.2.2.2.2.2.2.2.2.2.1.2.2 ≤ q) → (∀ a k, in32 (I a k)) → (∀ a k, T.1 ≤ a → I a k = 0 ∧ J a k = 0 ∧ O a k = none) → G X 0 Ls [] T I J O 0 0) : Cx y cc maxL ret as fr lo mc ms T I J O P PX := by
  intro l E hst
  refine vx_ofW (cc := cc) (maxL := maxL) (ret := ret) hy rfl ?_
  intro p e s m args below meth c s₁ B hml hx hv
  obtain ⟨rfl, hW, hgE, hn0⟩ := hv
  have hts := atoms_spec (ws := gws y cc maxL ret) B.pre
  rw [lg_entry_eq]
  refine body (p, l, e, _, s, m, as.toArray, below, meth, c, E, _) ⟨B.exec, B.bytes, findClass_of_methodNamed B.named, fun w hw => hts w (List.mem_cons_of_mem _ hw), hgE, hn0, B.notSynchronized, hst⟩ ⟨fun H locs k n g h => vx_ret h, B.returns⟩ rfl hx rfl hW.2.2.1 hW.2.2.2 s.heap [] _ hW va_S.rf ?_
  rw [hml]
  exact hE.ls
section GC
variable {X : gX} {cc : ByteArray} {own : String} {pc q : Nat} {Ls : List (Option Value)} {st : List Value} {T : gT} {I : gI} {J : gJ} {O : gO} {k n mc ms : Nat} {P : gP}
theorem G_ireturn {a : Int} (x : Ok X cc own) (en : gEnd X P mc ms (some .int)) (d : Dc cc pc .ireturn 1 q) (hk : k ≤ mc) (hn : n ≤ ms) (h : P (some (VI a)) T I J O) : G X pc Ls [VI a] T I J O k n := by
  obtain ⟨p, l, e, R, s, m, args, below, meth, c, E, Q⟩ := X
  intro H locs ls hW hS hL
  refine en.1 H locs k n _ (W.widen hk hn ?_)
  exact W.iret x.1 x.2.1 en.2 (fun t ht _ => ⟨⟨_, T, I, J, O, rfl, h, by rw [ht]; exact hW⟩, hS.F ht⟩) hS.2.2 d.1 x.2.2.2.2.2.2.1
theorem G_zreturn {a : Int} (x : Ok X cc own) (en : gEnd X P mc ms (some .boolean)) (d : Dc cc pc .ireturn 1 q) (hk : k ≤ mc) (hn : n ≤ ms) (ha : a = 0 ∨ a = 1) (h : P (some (VI a)) T I J O) : G X pc Ls [VI a] T I J O k n := by
  obtain ⟨p, l, e, R, s, m, args, below, meth, c, E, Q⟩ := X
  intro H locs ls hW hS hL
  refine en.1 H locs k n _ (W.widen hk hn ?_)
  exact W.zret x.1 x.2.1 en.2 (by rcases ha with rfl | rfl <;> rfl) (fun t ht _ => ⟨⟨_, T, I, J, O, rfl, h, by rw [ht]; exact hW⟩, hS.F ht⟩) hS.2.2 d.1 x.2.2.2.2.2.2.1
theorem G_lreturn {a : Int64} (x : Ok X cc own) (en : gEnd X P mc ms (some .long)) (d : Dc cc pc .lreturn 1 q) (hk : k ≤ mc) (hn : n ≤ ms) (h : P (some (.long a)) T I J O) : G X pc Ls [.long a] T I J O k n := by
  obtain ⟨p, l, e, R, s, m, args, below, meth, c, E, Q⟩ := X
  intro H locs ls hW hS hL
  refine en.1 H locs k n _ (W.widen hk hn ?_)
  exact W.lret x.1 x.2.1 en.2 (fun t ht _ => ⟨⟨_, T, I, J, O, rfl, h, by rw [ht]; exact hW⟩, hS.F ht⟩) hS.2.2 d.1 x.2.2.2.2.2.2.1
theorem G_return (x : Ok X cc own) (en : gEnd X P mc ms none) (d : Dc cc pc .return_ 1 q) (hk : k ≤ mc) (hn : n ≤ ms) (h : P none T I J O) : G X pc Ls [] T I J O k n := by
  obtain ⟨p, l, e, R, s, m, args, below, meth, c, E, Q⟩ := X
  intro H locs ls hW hS hL
  refine en.1 H locs k n _ (W.widen hk hn ?_)
  exact W.vret x.1 x.2.1 en.2 (fun t ht _ => ⟨⟨_, T, I, J, O, rfl, h, by rw [ht]; exact hW⟩, hS.F ht⟩) hS.2.2 d.1 x.2.2.2.2.2.2.1
theorem G_areturn {o : Option Nat} {rt : FieldType} (x : Ok X cc own) (en : gEnd X P mc ms (some rt)) (hrt : (∃ n, rt = .object n) ∨ ∃ t, rt = .array t) (d : Dc cc pc .areturn 1 q) (hk : k ≤ mc) (hn : n ≤ ms) (h : P (some (va_rf o)) T I J O) : G X pc Ls [va_rf o] T I J O k n := by
  obtain ⟨p, l, e, R, s, m, args, below, meth, c, E, Q⟩ := X
  intro H locs ls hW hS hL
  refine en.1 H locs k n _ (W.widen hk hn ?_)
  exact W.aret x.1 x.2.1 en.2 hrt (by cases o; exact Or.inl rfl; exact Or.inr ⟨_, rfl⟩) (fun t ht _ => ⟨⟨_, T, I, J, O, rfl, h, by rw [ht]; exact hW⟩, hS.F ht⟩) hS.2.2 d.1 x.2.2.2.2.2.2.1
theorem catSum {rest : List Value} (h : rest.length ≤ 4) : (rest.map fun v => v.category).sum ≤ 8 := by
  have key : ∀ r : List Value, (r.map fun v => v.category).sum ≤ 2 * r.length := by
    intro r
    induction r with
    | nil => exact Nat.le_refl _
    | cons v t ih =>
      have hv : v.category ≤ 2 := by cases v <;> (simp only [Value.category]; omega)
      simp only [List.map_cons, List.sum_cons, List.length_cons]
      omega
  have := key rest
  omega
/-- behind a call that returns -/
theorem G_run {as rest : List Value} (hr : ∀ p l e R s m args below meth c E Q, X = (p, l, e, R, s, m, args, below, meth, c, E, Q) → ∀ (H : Heap) (locs : List Loc) (ls : Array Slot), gWd E T I J O H → va_S (fun q => E.2.2 ≤ q) s.heap H locs → gLs ls c.maxLocals Ls → va_Run p l e R s m args below meth c H locs k n mc ms (F0 m pc ls st) rest (gQc E P as.toArray) (fun q => E.2.2 ≤ q))
    (kk : ∀ v T' I' J' O', P v T' I' J' O' → G X (pc + 3) Ls (v.toList ++ rest) T' I' J' O' (k + mc) (n + ms)) : G X pc Ls st T I J O k n := by
  obtain ⟨p, l, e, R, s, m, args, below, meth, c, E, Q⟩ := X
  intro H locs ls hW hS hL T9 hT9 X9
  obtain ⟨v, st₀, t, T', L, h0, X', hLo, e1, e2, ⟨⟨v2, Ta, Ia, Ja, Oa, hv, hp, hw⟩, hz, hk⟩, st5⟩ := hr p l e R s m args below meth c E Q rfl H locs ls hW hS hL T9 hT9 X9
  cases hv
  rw [h0] at hz hk
  obtain ⟨t2, a1, b1⟩ := kk v Ta Ia Ja Oa hp T'.heap (locs ++ L) ls (by rw [e1]; exact hw) ⟨Nat.le_trans hS.1 (by rw [e1]; exact hz), fun q h1 h2 => by rw [e1, hk q (Nat.lt_of_lt_of_le h1 hS.1) h2]; exact hS.2.1 q h1 h2, fun q hq => by
      rcases List.mem_append.mp hq with h | h
      · exact hS.2.2 q h
      · exact hLo q h⟩ hL T' rfl X'
  exact ⟨t2, st5 t2 a1, b1⟩
/-- the words of a call -/
def Lk (own : String) (idx : Nat) (y : MethodName) (cc : ByteArray) (maxL : Nat) (ret : Option FieldType) (np : Nat) : Prop :=
  Cond.methodLink own idx y ∈ gtb ∧ Cond.initialized y.cls ∈ gtb ∧ Cond.code y cc maxL ret ∈ gtb ∧ y.cls ≠ "java/lang/invoke/MethodHandle" ∧ y.cls ≠ "java/lang/invoke/VarHandle" ∧ (parseMethodDescriptor y.desc).map (fun d => d.parameters.length) = some np
theorem gCB {R : Room} {s : State} {args : Array Value} {idx : Nat} {y : MethodName} {cy : ByteArray} {maxL np fr lo : Nat} {ret : Option FieldType} (hts : ∀ w ∈ gtb, w.before args s = true) (L : Lk own idx y cy maxL ret np) (hR : fr + 1 ≤ R.frames ∧ 8 + (maxL + 11) + lo ≤ R.locals) : CallB R s args own idx y cy maxL ret (gws y cy maxL ret) { frames := fr, cells := mc, slots := ms, locals := lo } mc ms np :=
  callB_of (ws' := gtb) np hts (gws_good L.2.2.1) rfl rfl rfl (hts _ L.2.1) (hts _ L.1) ⟨L.2.2.2.1, L.2.2.2.2.1, L.2.2.2.2.2⟩ hR
theorem gPS {E : gD} {s : State} {H : Heap} {locs : List Loc} {as : List Value} (hgE : gE E s s.heap) (hn0 : E.2.2 ≤ s.heap.size) (hW : gWd E T I J O H) (hS : va_S (fun q => E.2.2 ≤ q) s.heap H locs) : PreS s H (gPc E as T I J O) as :=
  ⟨gPc_blind, fun U hU hWm => ⟨rfl, by rw [hU]; exact hW, by rw [hU]; exact gE.warm hWm (hgE.kept hS.2.1), by rw [hU]; exact Nat.le_trans hn0 hS.1⟩⟩
theorem G_callS {idx np fr lo fr0 lo0 mc0 ms0 : Nat} {y : MethodName} {cy : ByteArray} {maxL : Nat} {ret : Option FieldType} {as rest : List Value} (x : Ok X cc own) (d : Dc cc pc (.invokestatic idx) 3 q) (L : Lk own idx y cy maxL ret np) (hst : Cond.static y ∈ gtb) (rm : gRm X fr0 lo0 mc0 ms0) (hr : rest.length ≤ 4) (hstk : st = as.reverse ++ rest) (hn : as.length = np) (hfr : fr + 1 ≤ fr0) (hlo : 8 + (maxL + 11) + lo ≤ lo0) (hmc : k + mc ≤ mc0) (hms : n + ms ≤ ms0)
    (C : Ct y cy maxL ret as fr lo mc ms T I J O P) (kk : ∀ v T' I' J' O', P v T' I' J' O' → G X q Ls (v.toList ++ rest) T' I' J' O' (k + mc) (n + ms)) : G X pc Ls st T I J O k n := by
  obtain ⟨d, rfl⟩ := d
  refine G_run (as := as) (rest := rest) ?_ kk
  intro p l e R s m args below meth c E Q hX H locs ls hW hS hL
  subst hX
  have hR : R = { frames := fr0, cells := mc0, slots := ms0, locals := lo0 } := rm
  subst hR
  exact va_runS (n := np) (ret := ret) ⟨x.1, x.2.1, rfl, x.2.2.1, x.2.2.2.1⟩ (C l E x.2.2.2.2.2.2.2) ⟨gCB x.2.2.2.1 L ⟨hfr, hlo⟩, x.2.2.2.1 _ hst⟩ (gPS x.2.2.2.2.1 x.2.2.2.2.2.1 hW hS) rfl hn hL.1 hstk (lv_room (catSum hr)) d ⟨hmc, hms⟩
theorem G_callV {idx np fr lo fr0 lo0 mc0 ms0 ci a : Nat} {y : MethodName} {cy : ByteArray} {maxL : Nat} {ret : Option FieldType} {o : Option Nat} {as rest : List Value} (x : Ok X cc own) (d : Dc cc pc (.invokevirtual idx) 3 q) (L : Lk own idx y cy maxL ret np) (hin : Cond.instanceMethod y ∈ gtb ∧ Cond.selects y.cls y y ∈ gtb) (ho : o = some a) (hT : T.2 a = some (.inl ci)) (hc : vwCl[ci]? = some (y.cls, gTb ci, gN ci)) (rm : gRm X fr0 lo0 mc0 ms0) (hr : rest.length ≤ 4) (hstk : st = as.reverse ++ va_rf o :: rest) (hn : as.length = np) (hfr : fr + 1 ≤ fr0) (hlo : 8 + (maxL + 11) + lo ≤ lo0) (hmc : k + mc ≤ mc0) (hms : n + ms ≤ ms0)
    (C : Ct y cy maxL ret (va_rf o :: as) fr lo mc ms T I J O P) (kk : ∀ v T' I' J' O', P v T' I' J' O' → G X q Ls (v.toList ++ rest) T' I' J' O' (k + mc) (n + ms)) : G X pc Ls st T I J O k n := by
  subst ho
  obtain ⟨d, rfl⟩ := d
  refine G_run (as := va_rf (some a) :: as) (rest := rest) ?_ kk
  intro p l e R s m args below meth c E Q hX H locs ls hW hS hL
  subst hX
  have hR : R = { frames := fr0, cells := mc0, slots := ms0, locals := lo0 } := rm
  subst hR
  have hp := gPS (as := va_rf (some a) :: as) x.2.2.2.2.1 x.2.2.2.2.2.1 hW hS
  exact va_runV (n := np) (ret := ret) (C := y.cls) ⟨x.1, x.2.1, rfl, x.2.2.1, x.2.2.2.1⟩ (C l E x.2.2.2.2.2.2.2) ⟨gCB x.2.2.2.1 L ⟨hfr, hlo⟩, x.2.2.2.1 _ hin.1, x.2.2.2.1 _ hin.2⟩ ⟨hp.1, va_recv x.2.2.2.2.1.1 (va_P1 (hW.2.1 a _ hT).2) (ci := ci) (q0 := 0) hc rfl, hp.2⟩ rfl hn hL.1 hstk (lv_room (catSum hr)) d ⟨hmc, hms⟩
theorem G_callI {idx np fr lo fr0 lo0 mc0 ms0 a : Nat} {y : MethodName} {cy : ByteArray} {maxL : Nat} {o : Option Nat} {as rest : List Value} (x : Ok X cc own) (d : Dc cc pc (.invokespecial idx) 3 q) (L : Lk own idx y cy maxL none np) (hin : Cond.instanceMethod y ∈ gtb) (hy : y.name = "<init>") (ho : o = some a) (rm : gRm X fr0 lo0 mc0 ms0) (hr : rest.length ≤ 4) (hstk : st = as.reverse ++ va_rf o :: rest) (hn : as.length = np) (hfr : fr + 1 ≤ fr0) (hlo : 8 + (maxL + 11) + lo ≤ lo0) (hmc : k + mc ≤ mc0) (hms : n + ms ≤ ms0)
    (C : Ct y cy maxL none (va_rf o :: as) fr lo mc ms T I J O P) (kk : ∀ v T' I' J' O', P v T' I' J' O' → G X q Ls (v.toList ++ rest) T' I' J' O' (k + mc) (n + ms)) : G X pc Ls st T I J O k n := by
  subst ho
  obtain ⟨d, rfl⟩ := d
  refine G_run (as := va_rf (some a) :: as) (rest := rest) ?_ kk
  intro p l e R s m args below meth c E Q hX H locs ls hW hS hL
  subst hX
  have hR : R = { frames := fr0, cells := mc0, slots := ms0, locals := lo0 } := rm
  subst hR
  exact va_runI (n := np) ⟨x.1, x.2.1, rfl, x.2.2.1, x.2.2.2.1⟩ (C l E x.2.2.2.2.2.2.2) ⟨gCB x.2.2.2.1 L ⟨hfr, hlo⟩, hy, x.2.2.2.1 _ hin⟩ (gPS x.2.2.2.2.1 x.2.2.2.2.2.1 hW hS) rfl hn hL.1 hstk (lv_room (catSum hr)) d ⟨hmc, hms⟩
theorem G_objInit {idx fr0 lo0 mc0 ms0 : Nat} {o : Option Nat} {a : Nat} {rest : List Value} (x : Ok X cc own) (d : Dc cc pc (.invokespecial idx) 3 q) (hl : Cond.methodLink own idx Lib.objectInit ∈ gtb) (h2 : Cond.instanceMethod Lib.objectInit ∈ gtb ∧ Cond.code Lib.objectInit ⟨#[0xb1]⟩ 1 none ∈ gtb) (ho : o = some a) (rm : gRm X fr0 lo0 mc0 ms0) (hr : rest.length ≤ 4) (hfr : 1 ≤ fr0) (hlo : 20 ≤ lo0) (h : G X q Ls rest T I J O k n) : G X pc Ls (va_rf o :: rest) T I J O k n := by
  subst ho
  obtain ⟨p, l, e, R, s, m, args, below, meth, c, E, Q⟩ := X
  intro H locs ls hW hS hL
  obtain ⟨d, rfl⟩ := d
  have hR : R = { frames := fr0, cells := mc0, slots := ms0, locals := lo0 } := rm
  subst hR
  have hc := lv_room (m := m) (pc := pc) (ls := ls) (rest := va_rf (some a) :: rest) (catSum hr)
  refine W.objInit x.1 x.2.1 x.2.2.1 (x.2.2.2.1 _ hl) (x.2.2.2.1 _ h2.1) (x.2.2.2.1 _ h2.2) rfl hL.1 rfl d hfr ?_ (h H locs ls hW hS hL)
  show 2 * (F0 m pc ls (va_rf (some a) :: rest)).monitorRoom + (rest.map fun v => v.category).sum + 12 ≤ lo0
  omega
end GC
end
section
def gpush (T : gT) (ty : gTy) : gT := (T.1 + 1, fun q => if q = T.1 then some ty else T.2 q)
theorem gpush_s {T : gT} {ty : gTy} : (gpush T ty).2 T.1 = some ty := by simp [gpush]
theorem gpush_o {T : gT} {ty : gTy} {a : Nat} {t : gTy} (h : T.2 a = some t) (ha : a < T.1) : (gpush T ty).2 a = some t := by
  simp only [gpush]
  rw [if_neg (by omega)]
  exact h
/-- what a method says that answers r and leaves these cells -/
def pv (r : Option Value) (T : gT) (I : gI) (J : gJ) (O : gO) : gP := fun v T' I' J' O' => v = r ∧ T' = T ∧ I' = I ∧ J' = J ∧ O' = O
theorem pv_i {r : Option Value} {T : gT} {I : gI} {J : gJ} {O : gO} : pv r T I J O r T I J O := ⟨rfl, rfl, rfl, rfl, rfl⟩
section GN
variable {X : gX} {cc : ByteArray} {own : String} {pc q : Nat} {Ls : List (Option Value)} {st : List Value} {T : gT} {I : gI} {J : gJ} {O : gO} {k n mc ms : Nat} {P : gP}
theorem G_callSp {idx np fr lo fr0 lo0 mc0 ms0 : Nat} {y : MethodName} {cy : ByteArray} {maxL : Nat} {ret : Option FieldType} {as rest : List Value} {r : Value} {T1 : gT} {I1 : gI} {J1 : gJ} {O1 : gO} (x : Ok X cc own) (d : Dc cc pc (.invokestatic idx) 3 q) (L : Lk own idx y cy maxL ret np) (hst : Cond.static y ∈ gtb) (rm : gRm X fr0 lo0 mc0 ms0)
    (C : Ct y cy maxL ret as fr lo mc ms T I J O (pv (some r) T1 I1 J1 O1)) (kk : G X q Ls (r :: rest) T1 I1 J1 O1 (k + mc) (n + ms)) (hr : rest.length ≤ 4 := by exact Nat.le_of_ble_eq_true rfl) (hstk : st = as.reverse ++ rest := by rfl) (hn : as.length = np := by rfl) (hfr : fr + 1 ≤ fr0 := by exact Nat.le_of_ble_eq_true rfl) (hlo : 8 + (maxL + 11) + lo ≤ lo0 := by exact Nat.le_of_ble_eq_true rfl) (hmc : k + mc ≤ mc0 := by omega) (hms : n + ms ≤ ms0 := by omega) : G X pc Ls st T I J O k n :=
  G_callS x d L hst rm hr hstk hn hfr hlo hmc hms C (fun v T' I' J' O' hp => by obtain ⟨rfl, rfl, rfl, rfl, rfl⟩ := hp; exact kk)
theorem G_callVp {idx np fr lo fr0 lo0 mc0 ms0 ci a : Nat} {y : MethodName} {cy : ByteArray} {maxL : Nat} {ret : Option FieldType} {o : Option Nat} {as rest : List Value} {r : Value} {T1 : gT} {I1 : gI} {J1 : gJ} {O1 : gO} (x : Ok X cc own) (d : Dc cc pc (.invokevirtual idx) 3 q) (L : Lk own idx y cy maxL ret np) (hin : Cond.instanceMethod y ∈ gtb ∧ Cond.selects y.cls y y ∈ gtb) (ho : o = some a) (hT : T.2 a = some (.inl ci)) (hc : vwCl[ci]? = some (y.cls, gTb ci, gN ci)) (rm : gRm X fr0 lo0 mc0 ms0)
    (C : Ct y cy maxL ret (va_rf o :: as) fr lo mc ms T I J O (pv (some r) T1 I1 J1 O1)) (kk : G X q Ls (r :: rest) T1 I1 J1 O1 (k + mc) (n + ms)) (hr : rest.length ≤ 4 := by exact Nat.le_of_ble_eq_true rfl) (hstk : st = as.reverse ++ va_rf o :: rest := by rfl) (hn : as.length = np := by rfl) (hfr : fr + 1 ≤ fr0 := by exact Nat.le_of_ble_eq_true rfl) (hlo : 8 + (maxL + 11) + lo ≤ lo0 := by exact Nat.le_of_ble_eq_true rfl) (hmc : k + mc ≤ mc0 := by omega) (hms : n + ms ≤ ms0 := by omega) : G X pc Ls st T I J O k n :=
  G_callV x d L hin ho hT hc rm hr hstk hn hfr hlo hmc hms C (fun v T' I' J' O' hp => by obtain ⟨rfl, rfl, rfl, rfl, rfl⟩ := hp; exact kk)
theorem G_callVv {idx np fr lo fr0 lo0 mc0 ms0 ci a : Nat} {y : MethodName} {cy : ByteArray} {maxL : Nat} {ret : Option FieldType} {o : Option Nat} {as rest : List Value} {T1 : gT} {I1 : gI} {J1 : gJ} {O1 : gO} (x : Ok X cc own) (d : Dc cc pc (.invokevirtual idx) 3 q) (L : Lk own idx y cy maxL ret np) (hin : Cond.instanceMethod y ∈ gtb ∧ Cond.selects y.cls y y ∈ gtb) (ho : o = some a) (hT : T.2 a = some (.inl ci)) (hc : vwCl[ci]? = some (y.cls, gTb ci, gN ci)) (rm : gRm X fr0 lo0 mc0 ms0)
    (C : Ct y cy maxL ret (va_rf o :: as) fr lo mc ms T I J O (pv none T1 I1 J1 O1)) (kk : G X q Ls rest T1 I1 J1 O1 (k + mc) (n + ms)) (hr : rest.length ≤ 4 := by exact Nat.le_of_ble_eq_true rfl) (hstk : st = as.reverse ++ va_rf o :: rest := by rfl) (hn : as.length = np := by rfl) (hfr : fr + 1 ≤ fr0 := by exact Nat.le_of_ble_eq_true rfl) (hlo : 8 + (maxL + 11) + lo ≤ lo0 := by exact Nat.le_of_ble_eq_true rfl) (hmc : k + mc ≤ mc0 := by omega) (hms : n + ms ≤ ms0 := by omega) : G X pc Ls st T I J O k n :=
  G_callV x d L hin ho hT hc rm hr hstk hn hfr hlo hmc hms C (fun v T' I' J' O' hp => by obtain ⟨rfl, rfl, rfl, rfl, rfl⟩ := hp; exact kk)
/-- a new object -/
theorem gWd.new {E : gD} {H H1 : Heap} {ty : gTy} (h : gWd E T I J O H) (hE : E.2.2 ≤ H.size) (hz : H1.size = H.size + 1) (hq : ∀ q : Nat, q < H.size → H1[q]? = H[q]?) (hc : va_at E.1 vwCl (T.1, gcel E.2.1 ty I J O T.1) H1) : gWd E (gpush T ty) I J O H1 := by
  refine ⟨by rw [hz, h.1]; rfl, fun a t ha => ?_, h.2.2.1, fun a k9 ha => h.2.2.2 a k9 (by simp only [gpush] at ha; omega)⟩
  simp only [gpush] at ha
  by_cases e : a = T.1
  · rw [if_pos e] at ha
    cases ha
    subst e
    exact ⟨by rw [← h.1]; exact hE, hc⟩
  · rw [if_neg e] at ha
    have h2 := h.2.1 a t ha
    exact ⟨h2.1, h2.2.kept (hq a h2.2.lt)⟩
theorem gK_def (t : FieldType) (ht : t = .int ∨ t = .boolean ∨ t = .long ∨ (∃ c, t = .object c) ∨ ∃ c, t = .array c) : defaultValue t = gVk (gK t) 0 0 none := by
  rcases ht with rfl | rfl | rfl | ⟨c, rfl⟩ | ⟨c, rfl⟩ <;> rfl
theorem G_new {idx ci fr0 lo0 mc0 ms0 : Nat} (x : Ok X cc own) (d : Dc cc pc (.new idx) 3 q) (hl : Cond.classLink own idx (gRn ci) ∈ gtb) (hi : Cond.instantiable (gRn ci) (gN ci) ∈ gtb) (hini : Cond.initialized (gRn ci) ∈ gtb) (hc : vwCl[ci]? = some (gRn ci, gTb ci, gN ci)) (hdf : ∀ j, j < gN ci → defaultValue (gty ci j) = gVk (gK (gty ci j)) 0 0 none) (rm : gRm X fr0 lo0 mc0 ms0) (hmc : k + 1 ≤ mc0) (hms : n + gN ci ≤ ms0)
    (h : (∀ j, I T.1 j = 0) → (∀ j, J T.1 j = 0) → (∀ j, O T.1 j = none) → G X q Ls (va_rf (some T.1) :: st) (gpush T (.inl ci)) I J O (k + 1) (n + gN ci)) : G X pc Ls st T I J O k n := by
  obtain ⟨p, l, e, R, s, m, args, below, meth, c, E, Q⟩ := X
  intro H locs ls hW hS hL
  obtain ⟨d, rfl⟩ := d
  have hR : R = { frames := fr0, cells := mc0, slots := ms0, locals := lo0 } := rm
  subst hR
  have hts := x.2.2.2.1
  have hKn := x.2.2.2.2.1.1.1 ci _ hc
  have hnE : E.2.2 ≤ H.size := Nat.le_trans x.2.2.2.2.2.1 hS.1
  have hz0 := hW.2.2.2
  refine W.newcK x.1 x.2.1 x.2.2.1 (hts _ hl) (hts _ hi) (hts _ hini) rfl d hmc hms hKn.2.1 hW.1 fun H1 kC hkC e1 z1 o1 => ?_
  have o2 : ∀ q : Nat, q < H.size → H1[q]? = H[q]? := fun q hq => o1 q (by rw [← hW.1]; exact hq)
  refine h (fun j => (hz0 _ j (Nat.le_refl _)).1) (fun j => (hz0 _ j (Nat.le_refl _)).2.1) (fun j => (hz0 _ j (Nat.le_refl _)).2.2) H1 locs ls (hW.new hnE (by rw [z1, hW.1]) o2 ?_) ⟨Nat.le_trans hS.1 (by rw [z1, hW.1]; omega), fun y h1 h2 => (o2 y (Nat.lt_of_lt_of_le h1 hS.1)).trans (hS.2.1 y h1 h2), hS.2.2⟩ hL
  refine ⟨_, hc, (u_born (gty ci) hts (gin ci) hKn hkC e1 (gtyOk ci)).to (fun j hj => ?_)⟩
  show defaultValue (gty ci j) = vp_V (gfs ci I J O T.1) j
  simp only [vp_V, List.getD_eq_getElem?_getD, gfs_at I J O T.1 hj, Option.getD_some]
  rw [(hz0 T.1 (j : Int) (Nat.le_refl _)).1, (hz0 T.1 (j : Int) (Nat.le_refl _)).2.1, (hz0 T.1 (j : Int) (Nat.le_refl _)).2.2, hdf j hj]
/-- a new array of numbers -/
theorem G_newa {t N fr0 lo0 mc0 ms0 : Nat} {atype : ArrayType} {z : Int} (x : Ok X cc own) (d : Dc cc pc (.newarray atype) 2 q) (ha : Cond.arrayClass (newarray.typeOf atype) ∈ gtb) (ht : ∀ kA, (gtys kA)[t]? = some (kA t, newarray.typeOf atype)) (hty : newarray.typeOf atype = .int ∨ newarray.typeOf atype = .boolean ∨ newarray.typeOf atype = .char ∨ newarray.typeOf atype = .long) (hcel : ∀ (kA : Nat → ClassId) (a : Nat), I a = (fun _ => 0) → J a = (fun _ => 0) → vp_cell (kA t) (N, garr t I J O a) = arrV (kA t) N (fun _ => defaultValue (newarray.typeOf atype)))
    (hz : z = (N : Int)) (hN : N ≤ 100000) (rm : gRm X fr0 lo0 mc0 ms0) (hmc : k + 1 ≤ mc0) (hms : n + N ≤ ms0)
    (h : (∀ j, I T.1 j = 0) → (∀ j, J T.1 j = 0) → (∀ j, O T.1 j = none) → G X q Ls (va_rf (some T.1) :: st) (gpush T (.inr (t, N))) I J O (k + 1) (n + N)) : G X pc Ls (VI z :: st) T I J O k n := by
  obtain ⟨p, l, e, R, s, m, args, below, meth, c, E, Q⟩ := X
  intro H locs ls hW hS hL
  obtain ⟨d, rfl⟩ := d
  have hR : R = { frames := fr0, cells := mc0, slots := ms0, locals := lo0 } := rm
  subst hR
  subst hz
  have hts := x.2.2.2.1
  have hnE : E.2.2 ≤ H.size := Nat.le_trans x.2.2.2.2.2.1 hS.1
  have hz0 := hW.2.2.2
  have hin : in32 (N : Int) := by constructor <;> omega
  refine va_newaK (n := Int32.ofInt (N : Int)) x.1 x.2.1 (hts _ ha) rfl d rfl (fun q => by have := (i32_lt (y := 0) hin ⟨by decide, by decide⟩).mp q; omega) (N := N) (by rw [i32_clamp (by omega) hin]; omega) ?_ hmc hms hW.1 fun H1 cA e1 z1 o1 hAr hNm => ?_
  · have hb : componentBytes (newarray.typeOf atype) ≤ 8 := by rcases hty with e | e | e | e <;> rw [e] <;> decide
    exact Nat.le_trans (Nat.mul_le_mul hN hb) (by decide)
  have hcA : cA = E.2.1 t := by
    have h1 := (x.2.2.2.2.1.1.2 t _ (ht E.2.1)).2
    have h2 : s.vm.findClass ("[" ++ (newarray.typeOf atype).toString) = some (E.2.1 t) := by
      revert h1
      rcases hty with e | e | e | e <;> rw [e] <;> exact fun h1 => h1
    exact Option.some.inj (hNm.symm.trans h2)
  have o2 : ∀ q : Nat, q < H.size → H1[q]? = H[q]? := fun q hq => o1 q (by rw [← hW.1]; exact hq)
  refine h (fun j => (hz0 _ j (Nat.le_refl _)).1) (fun j => (hz0 _ j (Nat.le_refl _)).2.1) (fun j => (hz0 _ j (Nat.le_refl _)).2.2) H1 locs ls (hW.new hnE (by rw [z1, hW.1]) o2 ?_) ⟨Nat.le_trans hS.1 (by rw [z1, hW.1]; omega), fun y h1 h2 => (o2 y (Nat.lt_of_lt_of_le h1 hS.1)).trans (hS.2.1 y h1 h2), hS.2.2⟩ hL
  show H1[T.1]? = some (vp_cell (E.2.1 t) (N, garr t I J O T.1))
  rw [hcel E.2.1 T.1 (funext fun j => (hz0 T.1 j (Nat.le_refl _)).1) (funext fun j => (hz0 T.1 j (Nat.le_refl _)).2.1), ← hcA]
  exact e1
/-- a new array of references -/
theorem G_anew {idx t N fr0 lo0 mc0 ms0 : Nat} {C : String} {z : Int} (x : Ok X cc own) (d : Dc cc pc (.anewarray idx) 3 q) (hl : Cond.classLink own idx C ∈ gtb) (ha : ∀ p l e R s m args below meth c E Q, X = (p, l, e, R, s, m, args, below, meth, c, E, Q) → va_AO C s) (ht : ∀ kA, (gtys kA)[t + 4]? = some (kA (t + 4), .object C))
    (hz : z = (N : Int)) (hN : N ≤ 100000) (rm : gRm X fr0 lo0 mc0 ms0) (hmc : k + 1 ≤ mc0) (hms : n + N ≤ ms0)
    (h : (∀ j, I T.1 j = 0) → (∀ j, J T.1 j = 0) → (∀ j, O T.1 j = none) → G X q Ls (va_rf (some T.1) :: st) (gpush T (.inr (t + 4, N))) I J O (k + 1) (n + N)) : G X pc Ls (VI z :: st) T I J O k n := by
  obtain ⟨p, l, e, R, s, m, args, below, meth, c, E, Q⟩ := X
  intro H locs ls hW hS hL
  obtain ⟨d, rfl⟩ := d
  have hR : R = { frames := fr0, cells := mc0, slots := ms0, locals := lo0 } := rm
  subst hR
  subst hz
  have hts := x.2.2.2.1
  have hnE : E.2.2 ≤ H.size := Nat.le_trans x.2.2.2.2.2.1 hS.1
  have hz0 := hW.2.2.2
  have hin : in32 (N : Int) := by constructor <;> omega
  have hcl : (Int32.ofInt (N : Int)).toNatClampNeg = N := by rw [i32_clamp (by omega) hin]; omega
  refine W.anew (n := Int32.ofInt (N : Int)) x.1 x.2.1 x.2.2.1 (hts _ hl) (va_AO.use (ha _ _ _ _ _ _ _ _ _ _ _ _ rfl)) rfl d rfl (fun q => by have := (i32_lt (y := 0) hin ⟨by decide, by decide⟩).mp q; omega) ?_ hmc (by rw [hcl]; exact hms) fun cA kA comp f1 f2 f3 f4 => ?_
  · rw [hcl]; omega
  have hcA : cA = E.2.1 (t + 4) := by
    obtain ⟨_, _, _, _, _, h1⟩ := (x.2.2.2.2.1.1.2 (t + 4) _ (ht E.2.1)).2
    exact Option.some.inj (f1.symm.trans h1)
  rw [hcl]
  obtain ⟨H1, hH1⟩ : ∃ H1, H1 = H.push ({ cls := cA, slots := Array.replicate N .null, vm := .none } : Cell) := ⟨_, rfl⟩
  rw [← hH1]
  have o2 : ∀ q : Nat, q < H.size → H1[q]? = H[q]? := fun q hq => by rw [hH1, Array.getElem?_push, if_neg (Nat.ne_of_lt hq)]
  have z1 : H1.size = H.size + 1 := by rw [hH1]; simp
  have e1 : H1[T.1]? = some (vp_cell (E.2.1 (t + 4)) (N, garr (t + 4) I J O T.1)) := by
    rw [hH1, ← hW.1, Array.getElem?_push, if_pos rfl, hcA]
    congr 1
    show _ = arrV (E.2.1 (t + 4)) N (fun j => va_rf (O H.size j))
    have e9 : (fun j : Nat => va_rf (O H.size j)) = fun _ => Value.null := funext fun j => by rw [hW.1, (hz0 T.1 (j : Int) (Nat.le_refl _)).2.2]; rfl
    rw [e9, ← arrV_new]
  have hg := h (fun j => (hz0 _ j (Nat.le_refl _)).1) (fun j => (hz0 _ j (Nat.le_refl _)).2.1) (fun j => (hz0 _ j (Nat.le_refl _)).2.2) H1 locs ls (hW.new hnE z1 o2 e1) ⟨Nat.le_trans hS.1 (by rw [z1]; omega), fun y h1 h2 => (o2 y (Nat.lt_of_lt_of_le h1 hS.1)).trans (hS.2.1 y h1 h2), hS.2.2⟩ hL
  rw [hW.1]
  exact hg
end GN
end
section
/-- what a body knows that may throw -/
def gTh (X : gX) (P : gP) (PX : gPX) (mc ms : Nat) : Prop :=
  match X with
  | (_, _, _, _, s, _, args, below, _, c, E, Q) => (∀ z ∈ c.exceptionTable.toList, False) ∧ Q = vx_MQ below (gQc E P) (gXC E PX) args s mc ms (fun q => E.2.2 ≤ q)
theorem Cx.of' {y : MethodName} {cc : ByteArray} {maxL : Nat} {ret : Option FieldType} {as : List Value} {fr lo mc ms : Nat} {T : gT} {I : gI} {J : gJ} {O : gO} {P : gP} {PX : gPX} (hy : plainName y.cls = true) (Ls : List (Option Value)) (hE : gEn as maxL Ls)
    (body : ∀ X : gX, Ok X cc y.cls → gEnd X P mc ms ret → gRm X fr lo mc ms → gTh X P PX mc ms → (∀ a k, in32 (I a k)) → G X 0 Ls [] T I J O 0 0) : Cx y cc maxL ret as fr lo mc ms T I J O P PX :=
  Cx.of hy Ls hE (fun X x en rm ht hq hr _ => body X x en rm (by obtain ⟨p, l, e, R, s, m, args, below, meth, c, E, Q⟩ := X; exact ⟨ht, hq⟩) hr)
def xNm : List String := ["java/lang/RuntimeException", "java/lang/Exception"]
def gThw (own : String) (ic : Nat) (cls : String) : Prop := ((vx_atS own ic cls xNm).all (fun w => decide (w ∈ lw_tbl) && (goodWord w || gxk w))) = true
theorem gThw.use {own cls : String} {ic : Nat} (h : gThw own ic cls) {args : Array Value} {s : State} (h1 : ∀ w ∈ gtb, w.before args s = true) (h2 : ∀ w ∈ gxw, va_Nw w s) : ∀ w ∈ vx_atS own ic cls xNm, w.before args s = true := by
  intro w hw
  have h3 := List.all_eq_true.mp h w hw
  simp only [Bool.and_eq_true, Bool.or_eq_true, decide_eq_true_eq] at h3
  rcases h3.2 with g | g
  · exact h1 w (gtb_mem h3.1 g)
  · refine va_Nw.use ?_ (h2 w (List.mem_filter.mpr ⟨h3.1, g⟩))
    cases w <;> first | rfl | (simp [gxk] at g; done)
section GT
variable {X : gX} {cc : ByteArray} {own : String} {pc q : Nat} {Ls : List (Option Value)} {st : List Value} {T : gT} {I : gI} {J : gJ} {O : gO} {k n mc ms : Nat} {P : gP} {PX : gPX}
theorem gWd.grow {E : gD} {H H1 : Heap} (h : gWd E T I J O H) (hz : H.size ≤ H1.size) (hq : ∀ q : Nat, q < H.size → H1[q]? = H[q]?) : gWd E (H1.size, T.2) I J O H1 :=
  ⟨rfl, fun a t ha => ⟨(h.2.1 a t ha).1, (h.2.1 a t ha).2.kept (hq a (h.2.1 a t ha).2.lt)⟩, h.2.2.1, fun a k9 ha => h.2.2.2 a k9 (by have h0 : H1.size ≤ a := ha; have := h.1; omega)⟩
/-- 'throw new E("text")' -/
theorem G_throw {cls text : String} {ik is ic fr0 lo0 mc0 ms0 : Nat} (x : Ok X cc RX10) (th : gTh X P PX mc ms) (rm : gRm X fr0 lo0 mc0 ms0) (hfit : Bundle.fit cls = true)
    (hk : Cond.classLink RX10 ik cls ∈ gtb) (hini : Cond.initialized cls ∈ gtb) (hstr : (is, text) ∈ gstr) (hw : gThw RX10 ic cls) (hgood : ∀ w ∈ Cond.classLink RX10 ik cls :: Cond.initialized cls :: vx_atS RX10 ic cls xNm, vx_ot w = true)
    (d0 : decode cc pc = .ok (.new ik, 3)) (d3 : decode cc (pc + 3) = .ok (.dup, 1)) (d4 : decode cc (pc + 4) = .ok (.ldc is, 2)) (d6 : decode cc (pc + 6) = .ok (.invokespecial ic, 3)) (d9 : decode cc (pc + 9) = .ok (.athrow, 1))
    (hfr : 6 ≤ fr0) (hlo : 90 ≤ lo0) (hr : st.length ≤ 4) (hmc0 : k + 1 ≤ mc0) (hms0 : n + 6 ≤ ms0) (hmc : k + 1 ≤ mc) (hms : n + 6 ≤ ms) (h : ∀ N, T.1 ≤ N → PX cls (N, T.2) I J O) : G X pc Ls st T I J O k n := by
  obtain ⟨p, l, e, R, s, m, args, below, meth, c, E, Q⟩ := X
  intro H locs ls hW hS hL
  obtain ⟨ht, hQ⟩ := th
  subst hQ
  have hR : R = { frames := fr0, cells := mc0, slots := ms0, locals := lo0 } := rm
  subst hR
  obtain ⟨hK, hx2, -, hst, hU, hN⟩ := x.2.2.2.2.1
  obtain ⟨sa, hsa⟩ := hst _ hstr
  have hc := catSum hr
  refine vx_throwS (names := xNm) (A := fun q => E.2.2 ≤ q) x.1 x.2.1 x.2.2.2.2.2.2.2 x.2.2.1 hfit (by decide) (x.2.2.2.1 _ hk) (x.2.2.2.1 _ hini) hsa (hw.use x.2.2.2.1 hx2) hgood hU hN hS hL.1 d0 d3 d4 d6 d9 (fun z hz => (ht z hz).elim) (by show 2 + 3 < fr0; omega) (by show (st.map fun v => v.category).sum + (13 * (2 + 1) + 43) ≤ lo0; omega) hmc0 hms0 x.2.2.2.2.2.2.1 (fun t _ h1 h2 => ?_) hS.2.2 hmc hms
  exact ⟨⟨(t.heap.size, T.2), I, J, O, h _ (by rw [← hW.1]; exact h1), hW.grow h1 h2⟩, Nat.le_trans hS.1 h1, fun q h3 h4 => (h2 q (Nat.lt_of_lt_of_le h3 hS.1)).trans (hS.2.1 q h3 h4)⟩
theorem G_throwW {cls text : String} {ik is ic fr0 lo0 mc0 ms0 : Nat} (x : Ok X cc RX10) (th : gTh X P PX mc ms) (rm : gRm X fr0 lo0 mc0 ms0) (hfit : Bundle.fit cls = true)
    (hk : Cond.classLink RX10 ik cls ∈ gtb) (hini : Cond.initialized cls ∈ gtb) (hstr : (is, text) ∈ gstr) (hw : gThw RX10 ic cls) (hgood : ∀ w ∈ Cond.classLink RX10 ik cls :: Cond.initialized cls :: vx_atS RX10 ic cls xNm, vx_ot w = true)
    (d0 : decode cc pc = .ok (.new ik, 3)) (d3 : decode cc (pc + 3) = .ok (.dup, 1)) (d4 : decode cc (pc + 4) = .ok (.ldc_w is, 3)) (d6 : decode cc (pc + 7) = .ok (.invokespecial ic, 3)) (d9 : decode cc (pc + 10) = .ok (.athrow, 1))
    (hfr : 6 ≤ fr0) (hlo : 90 ≤ lo0) (hr : st.length ≤ 4) (hmc0 : k + 1 ≤ mc0) (hms0 : n + 6 ≤ ms0) (hmc : k + 1 ≤ mc) (hms : n + 6 ≤ ms) (h : ∀ N, T.1 ≤ N → PX cls (N, T.2) I J O) : G X pc Ls st T I J O k n := by
  obtain ⟨p, l, e, R, s, m, args, below, meth, c, E, Q⟩ := X
  intro H locs ls hW hS hL
  obtain ⟨ht, hQ⟩ := th
  subst hQ
  have hR : R = { frames := fr0, cells := mc0, slots := ms0, locals := lo0 } := rm
  subst hR
  obtain ⟨hK, hx2, -, hst, hU, hN⟩ := x.2.2.2.2.1
  obtain ⟨sa, hsa⟩ := hst _ hstr
  have hc := catSum hr
  refine vx_throwSW (names := xNm) (A := fun q => E.2.2 ≤ q) x.1 x.2.1 x.2.2.2.2.2.2.2 x.2.2.1 hfit (by decide) (x.2.2.2.1 _ hk) (x.2.2.2.1 _ hini) hsa (hw.use x.2.2.2.1 hx2) hgood hU hN hS hL.1 d0 d3 d4 d6 d9 (fun z hz => (ht z hz).elim) (by show 2 + 3 < fr0; omega) (by show (st.map fun v => v.category).sum + (13 * (2 + 1) + 43) ≤ lo0; omega) hmc0 hms0 x.2.2.2.2.2.2.1 (fun t _ h1 h2 => ?_) hS.2.2 hmc hms
  exact ⟨⟨(t.heap.size, T.2), I, J, O, h _ (by rw [← hW.1]; exact h1), hW.grow h1 h2⟩, Nat.le_trans hS.1 h1, fun q h3 h4 => (h2 q (Nat.lt_of_lt_of_le h3 hS.1)).trans (hS.2.1 q h3 h4)⟩
/-- behind a call that returns or throws, where nothing is caught -/
theorem G_runX {as rest : List Value} {P' : gP} {PX' : gPX} {mc' ms' : Nat} (hlk : ∀ p l e R s m args below meth c E Q, X = (p, l, e, R, s, m, args, below, meth, c, E, Q) → meth.locks = false) (th : gTh X P PX mc ms) (hr : ∀ p l e R s m args below meth c E Q, X = (p, l, e, R, s, m, args, below, meth, c, E, Q) → ∀ (H : Heap) (locs : List Loc) (ls : Array Slot), gWd E T I J O H → va_S (fun q => E.2.2 ≤ q) s.heap H locs → gLs ls c.maxLocals Ls → vx_Run p l e R s m args below meth c H locs k n mc' ms' (F0 m pc ls st) rest (gQc E P' as.toArray) (gXC E PX') (fun q => E.2.2 ≤ q))
    (hmc : k + mc' ≤ mc) (hms : n + ms' ≤ ms) (hx : ∀ cl T' I' J' O', PX' cl T' I' J' O' → PX cl T' I' J' O')
    (kk : ∀ v T' I' J' O', P' v T' I' J' O' → G X (pc + 3) Ls (v.toList ++ rest) T' I' J' O' (k + mc') (n + ms')) : G X pc Ls st T I J O k n := by
  have hlk' := hlk
  obtain ⟨p, l, e, R, s, m, args, below, meth, c, E, Q⟩ := X
  intro H locs ls hW hS hL T9 hT9 X9
  obtain ⟨ht, hQ⟩ := th
  subst hQ
  rcases hr p l e R s m args below meth c E _ rfl H locs ls hW hS hL T9 hT9 X9 with ⟨v, st₀, t, T', L, h0, X', hLo, e1, e2, ⟨⟨v2, Ta, Ia, Ja, Oa, hv, hp, hw⟩, hz, hk⟩, st5⟩ | ⟨q9, st₀, t, T', L, cl, ce, h0, X', hLo, e1, e2, ⟨⟨Ta, Ia, Ja, Oa, hp, hw⟩, hz, hk⟩, hce, hcv, hcl, st5⟩
  · cases hv
    rw [h0] at hz hk
    obtain ⟨t2, a1, b1⟩ := kk v Ta Ia Ja Oa hp T'.heap (locs ++ L) ls (by rw [e1]; exact hw) ⟨Nat.le_trans hS.1 (by rw [e1]; exact hz), fun q h1 h2 => by rw [e1, hk q (Nat.lt_of_lt_of_le h1 hS.1) h2]; exact hS.2.1 q h1 h2, fun q hq => by
        rcases List.mem_append.mp hq with h | h
        · exact hS.2.2 q h
        · exact hLo q h⟩ hL T' rfl X'
    exact ⟨t2, st5 t2 a1, b1⟩
  · rw [h0] at hz hk
    have hS1 : va_S (fun q => E.2.2 ≤ q) s.heap T'.heap (locs ++ L) := ⟨Nat.le_trans hS.1 (by rw [e1]; exact hz), fun q h1 h2 => by rw [e1, hk q (Nat.lt_of_lt_of_le h1 hS.1) h2]; exact hS.2.1 q h1 h2, fun q hq => by
        rcases List.mem_append.mp hq with h | h
        · exact hS.2.2 q h
        · exact hLo q h⟩
    obtain ⟨t2, a1, b1⟩ := vx_out (p := p) (l := l) (e := e) (R := R) (Qc := gQc E P) (XC := gXC E PX) (args := args) (ls := ls) (rest := rest) (pc := pc) (fun z hz => (ht z hz).elim) (hlk' p l e R s m args below meth c E _ rfl) (by rw [e1]; exact hce) hcv hcl (fun t3 h3 _ => ⟨⟨Ta, Ia, Ja, Oa, hx _ _ _ _ _ hp, by rw [h3, e1]; exact hw⟩, hS1.F h3⟩) hS1.2.2 hmc hms T' rfl X'
    exact ⟨t2, st5.trans a1, b1⟩
theorem G_callSX {idx np fr lo fr0 lo0 mc0 ms0 mc' ms' : Nat} {y : MethodName} {cy : ByteArray} {maxL : Nat} {ret : Option FieldType} {as rest : List Value} {P' : gP} {PX' : gPX} (x : Ok X cc own) (th : gTh X P PX mc ms) (d : Dc cc pc (.invokestatic idx) 3 q) (L : Lk own idx y cy maxL ret np) (hst : Cond.static y ∈ gtb) (rm : gRm X fr0 lo0 mc0 ms0)
    (C : Cx y cy maxL ret as fr lo mc' ms' T I J O P' PX') (hx : ∀ cl T' I' J' O', PX' cl T' I' J' O' → PX cl T' I' J' O') (kk : ∀ v T' I' J' O', P' v T' I' J' O' → G X q Ls (v.toList ++ rest) T' I' J' O' (k + mc') (n + ms')) (hr : rest.length ≤ 4 := by exact Nat.le_of_ble_eq_true rfl) (hstk : st = as.reverse ++ rest := by rfl) (hn : as.length = np := by rfl) (hfr : fr + 1 ≤ fr0 := by exact Nat.le_of_ble_eq_true rfl) (hlo : 8 + (maxL + 11) + lo ≤ lo0 := by exact Nat.le_of_ble_eq_true rfl) (hmc0 : k + mc' ≤ mc0 := by omega) (hms0 : n + ms' ≤ ms0 := by omega) (hmc : k + mc' ≤ mc := by omega) (hms : n + ms' ≤ ms := by omega) : G X pc Ls st T I J O k n := by
  obtain ⟨d, rfl⟩ := d
  refine G_runX (as := as) (rest := rest) (fun p l e R s m args below meth c E Q hX => by subst hX; exact x.2.2.2.2.2.2.1) th ?_ hmc hms hx kk
  intro p l e R s m args below meth c E Q hX H locs ls hW hS hL
  subst hX
  have hR : R = { frames := fr0, cells := mc0, slots := ms0, locals := lo0 } := rm
  subst hR
  exact vx_runS (n := np) (ret := ret) ⟨x.1, x.2.1, rfl, x.2.2.1, x.2.2.2.1⟩ (C l E x.2.2.2.2.2.2.2) ⟨gCB x.2.2.2.1 L ⟨hfr, hlo⟩, x.2.2.2.1 _ hst⟩ (gPS x.2.2.2.2.1 x.2.2.2.2.2.1 hW hS) rfl hn hL.1 hstk (lv_room (catSum hr)) d ⟨hmc0, hms0⟩
theorem G_callVX {idx np fr lo fr0 lo0 mc0 ms0 mc' ms' ci a : Nat} {y : MethodName} {cy : ByteArray} {maxL : Nat} {ret : Option FieldType} {o : Option Nat} {as rest : List Value} {P' : gP} {PX' : gPX} (x : Ok X cc own) (th : gTh X P PX mc ms) (d : Dc cc pc (.invokevirtual idx) 3 q) (L : Lk own idx y cy maxL ret np) (hin : Cond.instanceMethod y ∈ gtb ∧ Cond.selects y.cls y y ∈ gtb) (ho : o = some a) (hT : T.2 a = some (.inl ci)) (hc : vwCl[ci]? = some (y.cls, gTb ci, gN ci)) (rm : gRm X fr0 lo0 mc0 ms0)
    (C : Cx y cy maxL ret (va_rf o :: as) fr lo mc' ms' T I J O P' PX') (hx : ∀ cl T' I' J' O', PX' cl T' I' J' O' → PX cl T' I' J' O') (kk : ∀ v T' I' J' O', P' v T' I' J' O' → G X q Ls (v.toList ++ rest) T' I' J' O' (k + mc') (n + ms')) (hr : rest.length ≤ 4 := by exact Nat.le_of_ble_eq_true rfl) (hstk : st = as.reverse ++ va_rf o :: rest := by rfl) (hn : as.length = np := by rfl) (hfr : fr + 1 ≤ fr0 := by exact Nat.le_of_ble_eq_true rfl) (hlo : 8 + (maxL + 11) + lo ≤ lo0 := by exact Nat.le_of_ble_eq_true rfl) (hmc0 : k + mc' ≤ mc0 := by omega) (hms0 : n + ms' ≤ ms0 := by omega) (hmc : k + mc' ≤ mc := by omega) (hms : n + ms' ≤ ms := by omega) : G X pc Ls st T I J O k n := by
  subst ho
  obtain ⟨d, rfl⟩ := d
  refine G_runX (as := va_rf (some a) :: as) (rest := rest) (fun p l e R s m args below meth c E Q hX => by subst hX; exact x.2.2.2.2.2.2.1) th ?_ hmc hms hx kk
  intro p l e R s m args below meth c E Q hX H locs ls hW hS hL
  subst hX
  have hR : R = { frames := fr0, cells := mc0, slots := ms0, locals := lo0 } := rm
  subst hR
  have hp := gPS (as := va_rf (some a) :: as) x.2.2.2.2.1 x.2.2.2.2.2.1 hW hS
  exact vx_runV (n := np) (ret := ret) (C := y.cls) ⟨x.1, x.2.1, rfl, x.2.2.1, x.2.2.2.1⟩ (C l E x.2.2.2.2.2.2.2) ⟨gCB x.2.2.2.1 L ⟨hfr, hlo⟩, x.2.2.2.1 _ hin.1, x.2.2.2.1 _ hin.2⟩ ⟨hp.1, va_recv x.2.2.2.2.1.1 (va_P1 (hW.2.1 a _ hT).2) (ci := ci) (q0 := 0) hc rfl, hp.2⟩ rfl hn hL.1 hstk (lv_room (catSum hr)) d ⟨hmc0, hms0⟩
/-- calls of a nest mate's private members -/
def LkN (own : String) (idx : Nat) (y : MethodName) (host : String) (cc : ByteArray) (maxL : Nat) (ret : Option FieldType) (np : Nat) : Prop :=
  Cond.methodLinkNest own idx y host ∈ gxw ∧ Cond.initialized y.cls ∈ gtb ∧ Cond.code y cc maxL ret ∈ gtb ∧ y.cls ≠ "java/lang/invoke/MethodHandle" ∧ y.cls ≠ "java/lang/invoke/VarHandle" ∧ (parseMethodDescriptor y.desc).map (fun d => d.parameters.length) = some np
theorem G_callSN {idx np fr lo fr0 lo0 mc0 ms0 : Nat} {y : MethodName} {host : String} {cy : ByteArray} {maxL : Nat} {ret : Option FieldType} {as rest : List Value} {r : Value} {T1 : gT} {I1 : gI} {J1 : gJ} {O1 : gO} (x : Ok X cc own) (d : Dc cc pc (.invokestatic idx) 3 q) (L : LkN own idx y host cy maxL ret np) (hst : Cond.static y ∈ gtb) (rm : gRm X fr0 lo0 mc0 ms0)
    (C : Ct y cy maxL ret as fr lo mc ms T I J O (pv (some r) T1 I1 J1 O1)) (kk : G X q Ls (r :: rest) T1 I1 J1 O1 (k + mc) (n + ms)) (hr : rest.length ≤ 4 := by exact Nat.le_of_ble_eq_true rfl) (hstk : st = as.reverse ++ rest := by rfl) (hn : as.length = np := by rfl) (hfr : fr + 1 ≤ fr0 := by exact Nat.le_of_ble_eq_true rfl) (hlo : 8 + (maxL + 11) + lo ≤ lo0 := by exact Nat.le_of_ble_eq_true rfl) (hmc : k + mc ≤ mc0 := by omega) (hms : n + ms ≤ ms0 := by omega) : G X pc Ls st T I J O k n := by
  obtain ⟨d, rfl⟩ := d
  refine G_run (as := as) (rest := rest) (mc := mc) (ms := ms) (P := pv (some r) T1 I1 J1 O1) ?_ (fun v T' I' J' O' hp => by obtain ⟨rfl, rfl, rfl, rfl, rfl⟩ := hp; exact kk)
  intro p l e R s m args below meth c E Q hX H locs ls hW hS hL
  subst hX
  have hR : R = { frames := fr0, cells := mc0, slots := ms0, locals := lo0 } := rm
  subst hR
  exact va_runSN (n := np) (ret := ret) ⟨x.1, x.2.1, rfl, x.2.2.1, x.2.2.2.1⟩ (C l E x.2.2.2.2.2.2.2) ⟨va_cnB (ws' := gtb) np x.2.2.2.1 (gws_good L.2.2.1) rfl rfl rfl (x.2.2.2.2.1.2.1 _ L.1) (x.2.2.2.1 _ L.2.1) ⟨L.2.2.2.1, L.2.2.2.2.1, L.2.2.2.2.2⟩ ⟨hfr, hlo⟩, x.2.2.2.1 _ hst, trivial⟩ (gPS x.2.2.2.2.1 x.2.2.2.2.2.1 hW hS) rfl hn hL.1 hstk (lv_room (catSum hr)) d ⟨hmc, hms⟩
theorem G_callIN {idx np fr lo fr0 lo0 mc0 ms0 a : Nat} {y : MethodName} {host : String} {cy : ByteArray} {maxL : Nat} {o : Option Nat} {as rest : List Value} (x : Ok X cc own) (d : Dc cc pc (.invokespecial idx) 3 q) (L : LkN own idx y host cy maxL none np) (hin : Cond.instanceMethod y ∈ gtb) (hy : y.name = "<init>") (ho : o = some a) (rm : gRm X fr0 lo0 mc0 ms0) (hr : rest.length ≤ 4) (hstk : st = as.reverse ++ va_rf o :: rest) (hn : as.length = np) (hfr : fr + 1 ≤ fr0) (hlo : 8 + (maxL + 11) + lo ≤ lo0) (hmc : k + mc ≤ mc0) (hms : n + ms ≤ ms0)
    (C : Ct y cy maxL none (va_rf o :: as) fr lo mc ms T I J O P) (kk : ∀ v T' I' J' O', P v T' I' J' O' → G X q Ls (v.toList ++ rest) T' I' J' O' (k + mc) (n + ms)) : G X pc Ls st T I J O k n := by
  subst ho
  obtain ⟨d, rfl⟩ := d
  refine G_run (as := va_rf (some a) :: as) (rest := rest) ?_ kk
  intro p l e R s m args below meth c E Q hX H locs ls hW hS hL
  subst hX
  have hR : R = { frames := fr0, cells := mc0, slots := ms0, locals := lo0 } := rm
  subst hR
  exact va_runIN (n := np) ⟨x.1, x.2.1, rfl, x.2.2.1, x.2.2.2.1⟩ (C l E x.2.2.2.2.2.2.2) ⟨va_cnB (ws' := gtb) np x.2.2.2.1 (gws_good L.2.2.1) rfl rfl rfl (x.2.2.2.2.1.2.1 _ L.1) (x.2.2.2.1 _ L.2.1) ⟨L.2.2.2.1, L.2.2.2.2.1, L.2.2.2.2.2⟩ ⟨hfr, hlo⟩, hy, x.2.2.2.1 _ hin⟩ (gPS x.2.2.2.2.1 x.2.2.2.2.2.1 hW hS) rfl hn hL.1 hstk (lv_room (catSum hr)) d ⟨hmc, hms⟩
end GT
end
