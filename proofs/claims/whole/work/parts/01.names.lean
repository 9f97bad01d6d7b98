-- ===== PART A: goes FIRST, ahead of the names: the tables' words, and 'selects' of the private methods out of them =====
/-- a private method of a class that the tables say can be made, by its rows of tables_1 -/
def lw_okq (q : MethodName × Nat) : Prop := (q.1.cls ≠ "java/lang/invoke/MethodHandle" ∧ q.1.cls ≠ "java/lang/invoke/VarHandle") ∧ Cond.instantiable q.1.cls q.2 ∈ tables_1 ∧ Cond.privateMethod q.1 ∈ tables_1 ∧ Cond.instanceMethod q.1 ∈ tables_1
theorem lw_p0 : lw_okq (⟨"SlipWeeks", "tell", "(I)I"⟩, 11) := ⟨⟨by decide +kernel, by decide +kernel⟩, List.mem_of_getElem? (i := 21) (by decide +kernel), List.mem_of_getElem? (i := 332) (by decide +kernel), List.mem_of_getElem? (i := 333) (by decide +kernel)⟩
theorem lw_p1 : lw_okq (⟨"SlipWeeks", "isPeople", "(I)Z"⟩, 11) := ⟨⟨by decide +kernel, by decide +kernel⟩, List.mem_of_getElem? (i := 21) (by decide +kernel), List.mem_of_getElem? (i := 360) (by decide +kernel), List.mem_of_getElem? (i := 361) (by decide +kernel)⟩
theorem lw_p2 : lw_okq (⟨"SlipWeeks$LikingVoice", "named", "(IIII)I"⟩, 2) := ⟨⟨by decide +kernel, by decide +kernel⟩, List.mem_of_getElem? (i := 145) (by decide +kernel), List.mem_of_getElem? (i := 402) (by decide +kernel), List.mem_of_getElem? (i := 403) (by decide +kernel)⟩
theorem lw_p3 : lw_okq (⟨"SlipWeeks$LikingVoice", "act", "(II)I"⟩, 2) := ⟨⟨by decide +kernel, by decide +kernel⟩, List.mem_of_getElem? (i := 145) (by decide +kernel), List.mem_of_getElem? (i := 413) (by decide +kernel), List.mem_of_getElem? (i := 414) (by decide +kernel)⟩
theorem lw_p4 : lw_okq (⟨"SlipWeeks$Crowd", "likeAll", "(II)I"⟩, 14) := ⟨⟨by decide +kernel, by decide +kernel⟩, List.mem_of_getElem? (i := 139) (by decide +kernel), List.mem_of_getElem? (i := 423) (by decide +kernel), List.mem_of_getElem? (i := 424) (by decide +kernel)⟩
theorem lw_p5 : lw_okq (⟨"SlipWeeks$Crowd", "addCrosses", "(II)V"⟩, 14) := ⟨⟨by decide +kernel, by decide +kernel⟩, List.mem_of_getElem? (i := 139) (by decide +kernel), List.mem_of_getElem? (i := 441) (by decide +kernel), List.mem_of_getElem? (i := 442) (by decide +kernel)⟩
theorem lw_p6 : lw_okq (⟨"SlipWeeks$LikingReader", "readSum", "(I)V"⟩, 6) := ⟨⟨by decide +kernel, by decide +kernel⟩, List.mem_of_getElem? (i := 232) (by decide +kernel), List.mem_of_getElem? (i := 487) (by decide +kernel), List.mem_of_getElem? (i := 488) (by decide +kernel)⟩
theorem lw_p7 : lw_okq (⟨"SlipWeeks$LikingReader", "readProduct", "(I)V"⟩, 6) := ⟨⟨by decide +kernel, by decide +kernel⟩, List.mem_of_getElem? (i := 232) (by decide +kernel), List.mem_of_getElem? (i := 491) (by decide +kernel), List.mem_of_getElem? (i := 492) (by decide +kernel)⟩
theorem lw_p8 : lw_okq (⟨"SlipWeeks$LikingReader", "readFactor", "(I)V"⟩, 6) := ⟨⟨by decide +kernel, by decide +kernel⟩, List.mem_of_getElem? (i := 232) (by decide +kernel), List.mem_of_getElem? (i := 495) (by decide +kernel), List.mem_of_getElem? (i := 496) (by decide +kernel)⟩
theorem lw_p9 : lw_okq (⟨"SlipWeeks$LikingReader", "digit", "()I"⟩, 6) := ⟨⟨by decide +kernel, by decide +kernel⟩, List.mem_of_getElem? (i := 232) (by decide +kernel), List.mem_of_getElem? (i := 499) (by decide +kernel), List.mem_of_getElem? (i := 500) (by decide +kernel)⟩
theorem lw_p10 : lw_okq (⟨"SlipWeeks$LikingReader", "readNumber", "()V"⟩, 6) := ⟨⟨by decide +kernel, by decide +kernel⟩, List.mem_of_getElem? (i := 232) (by decide +kernel), List.mem_of_getElem? (i := 503) (by decide +kernel), List.mem_of_getElem? (i := 504) (by decide +kernel)⟩
theorem lw_p11 : lw_okq (⟨"SlipWeeks$LikingReader", "put", "(I)V"⟩, 6) := ⟨⟨by decide +kernel, by decide +kernel⟩, List.mem_of_getElem? (i := 232) (by decide +kernel), List.mem_of_getElem? (i := 507) (by decide +kernel), List.mem_of_getElem? (i := 508) (by decide +kernel)⟩
theorem lw_p12 : lw_okq (⟨"SlipWeeks$LikingReader", "nameHere", "()I"⟩, 6) := ⟨⟨by decide +kernel, by decide +kernel⟩, List.mem_of_getElem? (i := 232) (by decide +kernel), List.mem_of_getElem? (i := 511) (by decide +kernel), List.mem_of_getElem? (i := 512) (by decide +kernel)⟩
theorem lw_p13 : lw_okq (⟨"SlipWeeks$LikingReader", "sees", "(C)Z"⟩, 6) := ⟨⟨by decide +kernel, by decide +kernel⟩, List.mem_of_getElem? (i := 232) (by decide +kernel), List.mem_of_getElem? (i := 598) (by decide +kernel), List.mem_of_getElem? (i := 599) (by decide +kernel)⟩
theorem lw_p14 : lw_okq (⟨"SlipWeeks$LikingReader", "readBracket", "(I)V"⟩, 6) := ⟨⟨by decide +kernel, by decide +kernel⟩, List.mem_of_getElem? (i := 232) (by decide +kernel), List.mem_of_getElem? (i := 602) (by decide +kernel), List.mem_of_getElem? (i := 603) (by decide +kernel)⟩
theorem lw_p15 : lw_okq (⟨"SlipWeeks$LikingReader", "pass", "(C)V"⟩, 6) := ⟨⟨by decide +kernel, by decide +kernel⟩, List.mem_of_getElem? (i := 232) (by decide +kernel), List.mem_of_getElem? (i := 606) (by decide +kernel), List.mem_of_getElem? (i := 607) (by decide +kernel)⟩
def lw_privs_1 : List (MethodName × Nat) := [(⟨"SlipWeeks", "tell", "(I)I"⟩, 11), (⟨"SlipWeeks", "isPeople", "(I)Z"⟩, 11), (⟨"SlipWeeks$LikingVoice", "named", "(IIII)I"⟩, 2), (⟨"SlipWeeks$LikingVoice", "act", "(II)I"⟩, 2), (⟨"SlipWeeks$Crowd", "likeAll", "(II)I"⟩, 14), (⟨"SlipWeeks$Crowd", "addCrosses", "(II)V"⟩, 14), (⟨"SlipWeeks$LikingReader", "readSum", "(I)V"⟩, 6), (⟨"SlipWeeks$LikingReader", "readProduct", "(I)V"⟩, 6), (⟨"SlipWeeks$LikingReader", "readFactor", "(I)V"⟩, 6), (⟨"SlipWeeks$LikingReader", "digit", "()I"⟩, 6), (⟨"SlipWeeks$LikingReader", "readNumber", "()V"⟩, 6), (⟨"SlipWeeks$LikingReader", "put", "(I)V"⟩, 6), (⟨"SlipWeeks$LikingReader", "nameHere", "()I"⟩, 6), (⟨"SlipWeeks$LikingReader", "sees", "(C)Z"⟩, 6), (⟨"SlipWeeks$LikingReader", "readBracket", "(I)V"⟩, 6), (⟨"SlipWeeks$LikingReader", "pass", "(C)V"⟩, 6)]
theorem lw_r1 : ∀ q ∈ lw_privs_1, lw_okq q := List.forall_mem_cons.mpr ⟨lw_p0, List.forall_mem_cons.mpr ⟨lw_p1, List.forall_mem_cons.mpr ⟨lw_p2, List.forall_mem_cons.mpr ⟨lw_p3, List.forall_mem_cons.mpr ⟨lw_p4, List.forall_mem_cons.mpr ⟨lw_p5, List.forall_mem_cons.mpr ⟨lw_p6, List.forall_mem_cons.mpr ⟨lw_p7, List.forall_mem_cons.mpr ⟨lw_p8, List.forall_mem_cons.mpr ⟨lw_p9, List.forall_mem_cons.mpr ⟨lw_p10, List.forall_mem_cons.mpr ⟨lw_p11, List.forall_mem_cons.mpr ⟨lw_p12, List.forall_mem_cons.mpr ⟨lw_p13, List.forall_mem_cons.mpr ⟨lw_p14, List.forall_mem_cons.mpr ⟨lw_p15, fun _ h => absurd h List.not_mem_nil⟩⟩⟩⟩⟩⟩⟩⟩⟩⟩⟩⟩⟩⟩⟩⟩
theorem lw_p16 : lw_okq (⟨"SlipWeeks", "drawByLots", "()I"⟩, 11) := ⟨⟨by decide +kernel, by decide +kernel⟩, List.mem_of_getElem? (i := 21) (by decide +kernel), List.mem_of_getElem? (i := 639) (by decide +kernel), List.mem_of_getElem? (i := 640) (by decide +kernel)⟩
theorem lw_p17 : lw_okq (⟨"SlipWeeks", "holdWeek", "(I)V"⟩, 11) := ⟨⟨by decide +kernel, by decide +kernel⟩, List.mem_of_getElem? (i := 21) (by decide +kernel), List.mem_of_getElem? (i := 645) (by decide +kernel), List.mem_of_getElem? (i := 646) (by decide +kernel)⟩
theorem lw_p18 : lw_okq (⟨"SlipWeeks$Overlaps", "mark", "(I)V"⟩, 4) := ⟨⟨by decide +kernel, by decide +kernel⟩, List.mem_of_getElem? (i := 117) (by decide +kernel), List.mem_of_getElem? (i := 704) (by decide +kernel), List.mem_of_getElem? (i := 705) (by decide +kernel)⟩
theorem lw_p19 : lw_okq (⟨"SlipWeeks$Worths", "oneGets", "(JIJ)J"⟩, 6) := ⟨⟨by decide +kernel, by decide +kernel⟩, List.mem_of_getElem? (i := 207) (by decide +kernel), List.mem_of_getElem? (i := 730) (by decide +kernel), List.mem_of_getElem? (i := 731) (by decide +kernel)⟩
theorem lw_p20 : lw_okq (⟨"SlipWeeks$Worths", "takeLeastCrossed", "(I)V"⟩, 6) := ⟨⟨by decide +kernel, by decide +kernel⟩, List.mem_of_getElem? (i := 207) (by decide +kernel), List.mem_of_getElem? (i := 772) (by decide +kernel), List.mem_of_getElem? (i := 773) (by decide +kernel)⟩
theorem lw_p21 : lw_okq (⟨"SlipWeeks$Worths", "leastBound", "(I)I"⟩, 6) := ⟨⟨by decide +kernel, by decide +kernel⟩, List.mem_of_getElem? (i := 207) (by decide +kernel), List.mem_of_getElem? (i := 776) (by decide +kernel), List.mem_of_getElem? (i := 777) (by decide +kernel)⟩
theorem lw_p22 : lw_okq (⟨"SlipWeeks$Worths", "countUpTo", "(I)I"⟩, 6) := ⟨⟨by decide +kernel, by decide +kernel⟩, List.mem_of_getElem? (i := 207) (by decide +kernel), List.mem_of_getElem? (i := 780) (by decide +kernel), List.mem_of_getElem? (i := 781) (by decide +kernel)⟩
theorem lw_p23 : lw_okq (⟨"SlipWeeks$Worths", "leastTaken", "()I"⟩, 6) := ⟨⟨by decide +kernel, by decide +kernel⟩, List.mem_of_getElem? (i := 207) (by decide +kernel), List.mem_of_getElem? (i := 793) (by decide +kernel), List.mem_of_getElem? (i := 794) (by decide +kernel)⟩
theorem lw_p24 : lw_okq (⟨"SlipWeeksModel", "looksAt", "(II)V"⟩, 30) := ⟨⟨by decide +kernel, by decide +kernel⟩, List.mem_of_getElem? (i := 901) (by decide +kernel), List.mem_of_getElem? (i := 907) (by decide +kernel), List.mem_of_getElem? (i := 908) (by decide +kernel)⟩
theorem lw_p25 : lw_okq (⟨"SlipWeeksModel", "finds", "(I)I"⟩, 30) := ⟨⟨by decide +kernel, by decide +kernel⟩, List.mem_of_getElem? (i := 901) (by decide +kernel), List.mem_of_getElem? (i := 1011) (by decide +kernel), List.mem_of_getElem? (i := 1012) (by decide +kernel)⟩
theorem lw_p26 : lw_okq (⟨"SlipWeeksModel", "isPeople", "(I)Z"⟩, 30) := ⟨⟨by decide +kernel, by decide +kernel⟩, List.mem_of_getElem? (i := 901) (by decide +kernel), List.mem_of_getElem? (i := 1036) (by decide +kernel), List.mem_of_getElem? (i := 1037) (by decide +kernel)⟩
theorem lw_p27 : lw_okq (⟨"SlipWeeksModel", "says", "(I)I"⟩, 30) := ⟨⟨by decide +kernel, by decide +kernel⟩, List.mem_of_getElem? (i := 901) (by decide +kernel), List.mem_of_getElem? (i := 1065) (by decide +kernel), List.mem_of_getElem? (i := 1066) (by decide +kernel)⟩
theorem lw_p28 : lw_okq (⟨"SlipWeeksModel", "sum", "()I"⟩, 30) := ⟨⟨by decide +kernel, by decide +kernel⟩, List.mem_of_getElem? (i := 901) (by decide +kernel), List.mem_of_getElem? (i := 1069) (by decide +kernel), List.mem_of_getElem? (i := 1070) (by decide +kernel)⟩
theorem lw_p29 : lw_okq (⟨"SlipWeeksModel", "term", "()I"⟩, 30) := ⟨⟨by decide +kernel, by decide +kernel⟩, List.mem_of_getElem? (i := 901) (by decide +kernel), List.mem_of_getElem? (i := 1073) (by decide +kernel), List.mem_of_getElem? (i := 1074) (by decide +kernel)⟩
theorem lw_p30 : lw_okq (⟨"SlipWeeksModel", "factor", "()I"⟩, 30) := ⟨⟨by decide +kernel, by decide +kernel⟩, List.mem_of_getElem? (i := 901) (by decide +kernel), List.mem_of_getElem? (i := 1077) (by decide +kernel), List.mem_of_getElem? (i := 1078) (by decide +kernel)⟩
theorem lw_p31 : lw_okq (⟨"SlipWeeksModel", "byteHere", "()I"⟩, 30) := ⟨⟨by decide +kernel, by decide +kernel⟩, List.mem_of_getElem? (i := 901) (by decide +kernel), List.mem_of_getElem? (i := 1081) (by decide +kernel), List.mem_of_getElem? (i := 1082) (by decide +kernel)⟩
def lw_privs_2 : List (MethodName × Nat) := [(⟨"SlipWeeks", "drawByLots", "()I"⟩, 11), (⟨"SlipWeeks", "holdWeek", "(I)V"⟩, 11), (⟨"SlipWeeks$Overlaps", "mark", "(I)V"⟩, 4), (⟨"SlipWeeks$Worths", "oneGets", "(JIJ)J"⟩, 6), (⟨"SlipWeeks$Worths", "takeLeastCrossed", "(I)V"⟩, 6), (⟨"SlipWeeks$Worths", "leastBound", "(I)I"⟩, 6), (⟨"SlipWeeks$Worths", "countUpTo", "(I)I"⟩, 6), (⟨"SlipWeeks$Worths", "leastTaken", "()I"⟩, 6), (⟨"SlipWeeksModel", "looksAt", "(II)V"⟩, 30), (⟨"SlipWeeksModel", "finds", "(I)I"⟩, 30), (⟨"SlipWeeksModel", "isPeople", "(I)Z"⟩, 30), (⟨"SlipWeeksModel", "says", "(I)I"⟩, 30), (⟨"SlipWeeksModel", "sum", "()I"⟩, 30), (⟨"SlipWeeksModel", "term", "()I"⟩, 30), (⟨"SlipWeeksModel", "factor", "()I"⟩, 30), (⟨"SlipWeeksModel", "byteHere", "()I"⟩, 30)]
theorem lw_r2 : ∀ q ∈ lw_privs_2, lw_okq q := List.forall_mem_cons.mpr ⟨lw_p16, List.forall_mem_cons.mpr ⟨lw_p17, List.forall_mem_cons.mpr ⟨lw_p18, List.forall_mem_cons.mpr ⟨lw_p19, List.forall_mem_cons.mpr ⟨lw_p20, List.forall_mem_cons.mpr ⟨lw_p21, List.forall_mem_cons.mpr ⟨lw_p22, List.forall_mem_cons.mpr ⟨lw_p23, List.forall_mem_cons.mpr ⟨lw_p24, List.forall_mem_cons.mpr ⟨lw_p25, List.forall_mem_cons.mpr ⟨lw_p26, List.forall_mem_cons.mpr ⟨lw_p27, List.forall_mem_cons.mpr ⟨lw_p28, List.forall_mem_cons.mpr ⟨lw_p29, List.forall_mem_cons.mpr ⟨lw_p30, List.forall_mem_cons.mpr ⟨lw_p31, fun _ h => absurd h List.not_mem_nil⟩⟩⟩⟩⟩⟩⟩⟩⟩⟩⟩⟩⟩⟩⟩⟩
theorem lw_p32 : lw_okq (⟨"SlipWeeksModel", "end", "()I"⟩, 30) := ⟨⟨by decide +kernel, by decide +kernel⟩, List.mem_of_getElem? (i := 901) (by decide +kernel), List.mem_of_getElem? (i := 1085) (by decide +kernel), List.mem_of_getElem? (i := 1086) (by decide +kernel)⟩
theorem lw_p33 : lw_okq (⟨"SlipWeeksModel", "number", "()I"⟩, 30) := ⟨⟨by decide +kernel, by decide +kernel⟩, List.mem_of_getElem? (i := 901) (by decide +kernel), List.mem_of_getElem? (i := 1091) (by decide +kernel), List.mem_of_getElem? (i := 1092) (by decide +kernel)⟩
theorem lw_p34 : lw_okq (⟨"SlipWeeksModel", "choice", "()I"⟩, 30) := ⟨⟨by decide +kernel, by decide +kernel⟩, List.mem_of_getElem? (i := 901) (by decide +kernel), List.mem_of_getElem? (i := 1095) (by decide +kernel), List.mem_of_getElem? (i := 1096) (by decide +kernel)⟩
theorem lw_p35 : lw_okq (⟨"SlipWeeksModel", "takes", "(I)Z"⟩, 30) := ⟨⟨by decide +kernel, by decide +kernel⟩, List.mem_of_getElem? (i := 901) (by decide +kernel), List.mem_of_getElem? (i := 1099) (by decide +kernel), List.mem_of_getElem? (i := 1100) (by decide +kernel)⟩
theorem lw_p36 : lw_okq (⟨"SlipWeeksModel", "must", "(I)V"⟩, 30) := ⟨⟨by decide +kernel, by decide +kernel⟩, List.mem_of_getElem? (i := 901) (by decide +kernel), List.mem_of_getElem? (i := 1103) (by decide +kernel), List.mem_of_getElem? (i := 1104) (by decide +kernel)⟩
theorem lw_p37 : lw_okq (⟨"SlipWeeksModel", "named", "(I)I"⟩, 30) := ⟨⟨by decide +kernel, by decide +kernel⟩, List.mem_of_getElem? (i := 901) (by decide +kernel), List.mem_of_getElem? (i := 1107) (by decide +kernel), List.mem_of_getElem? (i := 1108) (by decide +kernel)⟩
theorem lw_p38 : lw_okq (⟨"SlipWeeksModel", "latest", "()I"⟩, 30) := ⟨⟨by decide +kernel, by decide +kernel⟩, List.mem_of_getElem? (i := 901) (by decide +kernel), List.mem_of_getElem? (i := 1111) (by decide +kernel), List.mem_of_getElem? (i := 1112) (by decide +kernel)⟩
theorem lw_p39 : lw_okq (⟨"SlipWeeksModel", "ones", "(I)I"⟩, 30) := ⟨⟨by decide +kernel, by decide +kernel⟩, List.mem_of_getElem? (i := 901) (by decide +kernel), List.mem_of_getElem? (i := 1115) (by decide +kernel), List.mem_of_getElem? (i := 1116) (by decide +kernel)⟩
theorem lw_p40 : lw_okq (⟨"SlipWeeksModel", "works", "()V"⟩, 30) := ⟨⟨by decide +kernel, by decide +kernel⟩, List.mem_of_getElem? (i := 901) (by decide +kernel), List.mem_of_getElem? (i := 1127) (by decide +kernel), List.mem_of_getElem? (i := 1128) (by decide +kernel)⟩
theorem lw_p41 : lw_okq (⟨"SlipWeeksModel", "likesBy", "(II)I"⟩, 30) := ⟨⟨by decide +kernel, by decide +kernel⟩, List.mem_of_getElem? (i := 901) (by decide +kernel), List.mem_of_getElem? (i := 1131) (by decide +kernel), List.mem_of_getElem? (i := 1132) (by decide +kernel)⟩
theorem lw_p42 : lw_okq (⟨"SlipWeeksModel", "fancied", "(IIII)I"⟩, 30) := ⟨⟨by decide +kernel, by decide +kernel⟩, List.mem_of_getElem? (i := 901) (by decide +kernel), List.mem_of_getElem? (i := 1135) (by decide +kernel), List.mem_of_getElem? (i := 1136) (by decide +kernel)⟩
theorem lw_p43 : lw_okq (⟨"SlipWeeksModel", "isThreeUp", "(I)Z"⟩, 30) := ⟨⟨by decide +kernel, by decide +kernel⟩, List.mem_of_getElem? (i := 901) (by decide +kernel), List.mem_of_getElem? (i := 1142) (by decide +kernel), List.mem_of_getElem? (i := 1143) (by decide +kernel)⟩
theorem lw_p44 : lw_okq (⟨"SlipWeeksModel", "crossedBy", "(II)I"⟩, 30) := ⟨⟨by decide +kernel, by decide +kernel⟩, List.mem_of_getElem? (i := 901) (by decide +kernel), List.mem_of_getElem? (i := 1146) (by decide +kernel), List.mem_of_getElem? (i := 1147) (by decide +kernel)⟩
theorem lw_p45 : lw_okq (⟨"SlipWeeksModel", "goes", "(I)V"⟩, 30) := ⟨⟨by decide +kernel, by decide +kernel⟩, List.mem_of_getElem? (i := 901) (by decide +kernel), List.mem_of_getElem? (i := 1179) (by decide +kernel), List.mem_of_getElem? (i := 1180) (by decide +kernel)⟩
theorem lw_p46 : lw_okq (⟨"SlipWeeksModel", "potWith", "(I)J"⟩, 30) := ⟨⟨by decide +kernel, by decide +kernel⟩, List.mem_of_getElem? (i := 901) (by decide +kernel), List.mem_of_getElem? (i := 1183) (by decide +kernel), List.mem_of_getElem? (i := 1184) (by decide +kernel)⟩
theorem lw_p47 : lw_okq (⟨"SlipWeeksModel", "shareOf", "(JI)J"⟩, 30) := ⟨⟨by decide +kernel, by decide +kernel⟩, List.mem_of_getElem? (i := 901) (by decide +kernel), List.mem_of_getElem? (i := 1188) (by decide +kernel), List.mem_of_getElem? (i := 1189) (by decide +kernel)⟩
def lw_privs_3 : List (MethodName × Nat) := [(⟨"SlipWeeksModel", "end", "()I"⟩, 30), (⟨"SlipWeeksModel", "number", "()I"⟩, 30), (⟨"SlipWeeksModel", "choice", "()I"⟩, 30), (⟨"SlipWeeksModel", "takes", "(I)Z"⟩, 30), (⟨"SlipWeeksModel", "must", "(I)V"⟩, 30), (⟨"SlipWeeksModel", "named", "(I)I"⟩, 30), (⟨"SlipWeeksModel", "latest", "()I"⟩, 30), (⟨"SlipWeeksModel", "ones", "(I)I"⟩, 30), (⟨"SlipWeeksModel", "works", "()V"⟩, 30), (⟨"SlipWeeksModel", "likesBy", "(II)I"⟩, 30), (⟨"SlipWeeksModel", "fancied", "(IIII)I"⟩, 30), (⟨"SlipWeeksModel", "isThreeUp", "(I)Z"⟩, 30), (⟨"SlipWeeksModel", "crossedBy", "(II)I"⟩, 30), (⟨"SlipWeeksModel", "goes", "(I)V"⟩, 30), (⟨"SlipWeeksModel", "potWith", "(I)J"⟩, 30), (⟨"SlipWeeksModel", "shareOf", "(JI)J"⟩, 30)]
theorem lw_r3 : ∀ q ∈ lw_privs_3, lw_okq q := List.forall_mem_cons.mpr ⟨lw_p32, List.forall_mem_cons.mpr ⟨lw_p33, List.forall_mem_cons.mpr ⟨lw_p34, List.forall_mem_cons.mpr ⟨lw_p35, List.forall_mem_cons.mpr ⟨lw_p36, List.forall_mem_cons.mpr ⟨lw_p37, List.forall_mem_cons.mpr ⟨lw_p38, List.forall_mem_cons.mpr ⟨lw_p39, List.forall_mem_cons.mpr ⟨lw_p40, List.forall_mem_cons.mpr ⟨lw_p41, List.forall_mem_cons.mpr ⟨lw_p42, List.forall_mem_cons.mpr ⟨lw_p43, List.forall_mem_cons.mpr ⟨lw_p44, List.forall_mem_cons.mpr ⟨lw_p45, List.forall_mem_cons.mpr ⟨lw_p46, List.forall_mem_cons.mpr ⟨lw_p47, fun _ h => absurd h List.not_mem_nil⟩⟩⟩⟩⟩⟩⟩⟩⟩⟩⟩⟩⟩⟩⟩⟩
theorem lw_p48 : lw_okq (⟨"SlipWeeksModel", "worthOf", "(IJ)I"⟩, 30) := ⟨⟨by decide +kernel, by decide +kernel⟩, List.mem_of_getElem? (i := 901) (by decide +kernel), List.mem_of_getElem? (i := 1209) (by decide +kernel), List.mem_of_getElem? (i := 1210) (by decide +kernel)⟩
theorem lw_p49 : lw_okq (⟨"SlipWeeksModel", "getsAll", "(IJ)J"⟩, 30) := ⟨⟨by decide +kernel, by decide +kernel⟩, List.mem_of_getElem? (i := 901) (by decide +kernel), List.mem_of_getElem? (i := 1213) (by decide +kernel), List.mem_of_getElem? (i := 1214) (by decide +kernel)⟩
theorem lw_p50 : lw_okq (⟨"SlipWeeksModel", "counts", "()V"⟩, 30) := ⟨⟨by decide +kernel, by decide +kernel⟩, List.mem_of_getElem? (i := 901) (by decide +kernel), List.mem_of_getElem? (i := 1217) (by decide +kernel), List.mem_of_getElem? (i := 1218) (by decide +kernel)⟩
theorem lw_p51 : lw_okq (⟨"SlipWeeksModel", "taxed", "(J)J"⟩, 30) := ⟨⟨by decide +kernel, by decide +kernel⟩, List.mem_of_getElem? (i := 901) (by decide +kernel), List.mem_of_getElem? (i := 1221) (by decide +kernel), List.mem_of_getElem? (i := 1222) (by decide +kernel)⟩
theorem lw_p52 : lw_okq (⟨"SlipWeeksModel", "begins", "()V"⟩, 30) := ⟨⟨by decide +kernel, by decide +kernel⟩, List.mem_of_getElem? (i := 901) (by decide +kernel), List.mem_of_getElem? (i := 1243) (by decide +kernel), List.mem_of_getElem? (i := 1244) (by decide +kernel)⟩
theorem lw_p53 : lw_okq (⟨"SlipWeeksModel", "rarest", "()I"⟩, 30) := ⟨⟨by decide +kernel, by decide +kernel⟩, List.mem_of_getElem? (i := 901) (by decide +kernel), List.mem_of_getElem? (i := 1247) (by decide +kernel), List.mem_of_getElem? (i := 1248) (by decide +kernel)⟩
theorem lw_p54 : lw_okq (⟨"SlipWeeksModel", "drawAt", "(I)I"⟩, 30) := ⟨⟨by decide +kernel, by decide +kernel⟩, List.mem_of_getElem? (i := 901) (by decide +kernel), List.mem_of_getElem? (i := 1265) (by decide +kernel), List.mem_of_getElem? (i := 1266) (by decide +kernel)⟩
theorem lw_p55 : lw_okq (⟨"SlipWeeksModel", "timesOf", "(I)I"⟩, 30) := ⟨⟨by decide +kernel, by decide +kernel⟩, List.mem_of_getElem? (i := 901) (by decide +kernel), List.mem_of_getElem? (i := 1273) (by decide +kernel), List.mem_of_getElem? (i := 1274) (by decide +kernel)⟩
def lw_privs_4 : List (MethodName × Nat) := [(⟨"SlipWeeksModel", "worthOf", "(IJ)I"⟩, 30), (⟨"SlipWeeksModel", "getsAll", "(IJ)J"⟩, 30), (⟨"SlipWeeksModel", "counts", "()V"⟩, 30), (⟨"SlipWeeksModel", "taxed", "(J)J"⟩, 30), (⟨"SlipWeeksModel", "begins", "()V"⟩, 30), (⟨"SlipWeeksModel", "rarest", "()I"⟩, 30), (⟨"SlipWeeksModel", "drawAt", "(I)I"⟩, 30), (⟨"SlipWeeksModel", "timesOf", "(I)I"⟩, 30)]
theorem lw_r4 : ∀ q ∈ lw_privs_4, lw_okq q := List.forall_mem_cons.mpr ⟨lw_p48, List.forall_mem_cons.mpr ⟨lw_p49, List.forall_mem_cons.mpr ⟨lw_p50, List.forall_mem_cons.mpr ⟨lw_p51, List.forall_mem_cons.mpr ⟨lw_p52, List.forall_mem_cons.mpr ⟨lw_p53, List.forall_mem_cons.mpr ⟨lw_p54, List.forall_mem_cons.mpr ⟨lw_p55, fun _ h => absurd h List.not_mem_nil⟩⟩⟩⟩⟩⟩⟩⟩
def lw_privs : List (MethodName × Nat) := lw_privs_1 ++ (lw_privs_2 ++ (lw_privs_3 ++ (lw_privs_4)))
def lw_tbl : List Cond := k2_sels lw_privs ++ tables_1
theorem lw_privs_ok : ∀ q ∈ lw_privs, lw_okq q := by
  show ∀ q ∈ lw_privs_1 ++ (lw_privs_2 ++ (lw_privs_3 ++ (lw_privs_4))), lw_okq q
  exact List.forall_mem_append.mpr ⟨lw_r1, List.forall_mem_append.mpr ⟨lw_r2, List.forall_mem_append.mpr ⟨lw_r3, lw_r4⟩⟩⟩
-- ===== end of PART A; then your names; then what follows =====
/-! ===== BEGIN words of one list among another's, by their places ===== -/
theorem goodIn_r {big : List Cond} (ws : List Cond) (ps : List Nat) (hp : ws = ps.filterMap (fun i => big[i]?)) (h : ws.all goodWord = true) : GoodIn big ws := by
  intro w hw
  have h1 := List.all_eq_true.mp h w hw
  rw [hp] at hw
  obtain ⟨i, -, hi⟩ := List.mem_filterMap.mp hw
  have hm : w ∈ big := by first | exact List.mem_of_getElem? hi | exact List.getElem?_mem hi
  exact ⟨hm, good_of_word h1⟩
theorem goodIn_app {big a b : List Cond} (ha : GoodIn big a) (hb : GoodIn big b) : GoodIn big (a ++ b) := fun w h => (List.mem_append.mp h).elim (ha w) (hb w)
theorem goodIn_ca {big a b : List Cond} {c : Cond} (ha : GoodIn big (c :: a)) (hb : GoodIn big b) : GoodIn big (c :: (a ++ b)) := fun w h => (List.mem_cons.mp h).elim (fun e => ha w (List.mem_cons.mpr (Or.inl e))) (fun h => (List.mem_append.mp h).elim (fun h => ha w (List.mem_cons.mpr (Or.inr h))) (hb w))
theorem goodIn_sub {big ws : List Cond} (hm : ∀ w ∈ ws, w ∈ big) (h : ws.all goodWord = true) : GoodIn big ws := fun w hw => ⟨hm w hw, good_of_word (List.all_eq_true.mp h w hw)⟩
/-! ===== END ===== -/

/-! ===== BEGIN printed: names, fields, word lists, decode rows ===== -/
def RX0 : String := "SlipWeeks$Crowd"
def TX0 : u_T := fun k => match k with
  | 0 => ("SlipWeeks$Crowd", "state", "LSlipWeeks$State;", true)
  | 1 => ("SlipWeeks$Crowd", "slip", "LSlipWeeks$Slip;", true)
  | 2 => ("SlipWeeks$Crowd", "voice", "LSlipWeeks$LikingVoice;", true)
  | 3 => ("SlipWeeks$Crowd", "overlaps", "LSlipWeeks$Overlaps;", true)
  | 4 => ("SlipWeeks$Crowd", "said", "[I", true)
  | 5 => ("SlipWeeks$Crowd", "liked", "[I", true)
  | 6 => ("SlipWeeks$Crowd", "threes", "[I", true)
  | 7 => ("SlipWeeks$Crowd", "twos", "[I", true)
  | 8 => ("SlipWeeks$Crowd", "crosses", "[I", true)
  | 9 => ("SlipWeeks$Crowd", "byRank", "[I", true)
  | 10 => ("SlipWeeks$Crowd", "total", "I", false)
  | 11 => ("SlipWeeks$Crowd", "latest", "I", false)
  | 12 => ("SlipWeeks$Crowd", "settled", "Z", false)
  | _ => ("SlipWeeks$Crowd", "winnersSettled", "Z", false)
def tyX0 : Nat → FieldType := fun k => match k with
  | 0 => .object "SlipWeeks$State"
  | 1 => .object "SlipWeeks$Slip"
  | 2 => .object "SlipWeeks$LikingVoice"
  | 3 => .object "SlipWeeks$Overlaps"
  | 4 => .array .int
  | 5 => .array .int
  | 6 => .array .int
  | 7 => .array .int
  | 8 => .array .int
  | 9 => .array .int
  | 10 => .int
  | 11 => .int
  | 12 => .boolean
  | _ => .boolean
abbrev wsX00 : List Cond := u_ws RX0 TX0 14
theorem nmX0 : ∀ a, a < 14 → ∀ b, b < 14 → a ≠ b → (TX0 a).2.1 ≠ (TX0 b).2.1 := by decide +kernel
theorem tyX0_ok : ∀ k, k < 14 → parseFieldDescriptor (TX0 k).2.2.1 = some (tyX0 k) := by decide +kernel
abbrev cX0_init : ByteArray := prog_2_method_1_code
def yX0_init : MethodName := ⟨RX0, "<init>", "(LSlipWeeks$State;LSlipWeeks$Slip;LSlipWeeks$Overlaps;)V"⟩
abbrev cX0_stir : ByteArray := prog_2_method_2_code
def yX0_stir : MethodName := ⟨RX0, "stir", "()V"⟩
abbrev cX0_settle : ByteArray := prog_2_method_3_code
def yX0_settle : MethodName := ⟨RX0, "settle", "()V"⟩
abbrev cX0_settleWinners : ByteArray := prog_2_method_4_code
def yX0_settleWinners : MethodName := ⟨RX0, "settleWinners", "()V"⟩
abbrev cX0_winnersAt : ByteArray := prog_2_method_5_code
def yX0_winnersAt : MethodName := ⟨RX0, "winnersAt", "(II)I"⟩
abbrev cX0_tellWinners : ByteArray := prog_2_method_6_code
def yX0_tellWinners : MethodName := ⟨RX0, "tellWinners", "(I)V"⟩
abbrev cX0_likingOf : ByteArray := prog_2_method_7_code
def yX0_likingOf : MethodName := ⟨RX0, "likingOf", "(III)I"⟩
abbrev cX0_born : ByteArray := prog_2_method_8_code
def yX0_born : MethodName := ⟨RX0, "born", "(I)I"⟩
abbrev cX0_crossesBy : ByteArray := prog_2_method_9_code
def yX0_crossesBy : MethodName := ⟨RX0, "crossesBy", "(III)I"⟩
abbrev cX0_addCrosses : ByteArray := prog_2_method_10_code
def yX0_addCrosses : MethodName := ⟨RX0, "addCrosses", "(II)V"⟩
abbrev cX0_likeAll : ByteArray := prog_2_method_11_code
def yX0_likeAll : MethodName := ⟨RX0, "likeAll", "(II)I"⟩
def RX1 : String := "SlipWeeks$LikingReader"
def TX1 : u_T := fun k => match k with
  | 0 => ("SlipWeeks$LikingReader", "text", "[B", true)
  | 1 => ("SlipWeeks$LikingReader", "code", "[I", true)
  | 2 => ("SlipWeeks$LikingReader", "size", "I", false)
  | 3 => ("SlipWeeks$LikingReader", "codeSize", "I", false)
  | 4 => ("SlipWeeks$LikingReader", "at", "I", false)
  | _ => ("SlipWeeks$LikingReader", "fault", "I", false)
def tyX1 : Nat → FieldType := fun k => match k with
  | 0 => .array .byte
  | 1 => .array .int
  | 2 => .int
  | 3 => .int
  | 4 => .int
  | _ => .int
abbrev wsX10 : List Cond := u_ws RX1 TX1 6
theorem nmX1 : ∀ a, a < 6 → ∀ b, b < 6 → a ≠ b → (TX1 a).2.1 ≠ (TX1 b).2.1 := by decide +kernel
theorem tyX1_ok : ∀ k, k < 6 → parseFieldDescriptor (TX1 k).2.2.1 = some (tyX1 k) := by decide +kernel
abbrev cX1_init : ByteArray := prog_3_method_1_code
def yX1_init : MethodName := ⟨RX1, "<init>", "()V"⟩
abbrev cX1_faultOf : ByteArray := prog_3_method_2_code
def yX1_faultOf : MethodName := ⟨RX1, "faultOf", "([BI)I"⟩
abbrev cX1_putCodeInto : ByteArray := prog_3_method_3_code
def yX1_putCodeInto : MethodName := ⟨RX1, "putCodeInto", "([I)I"⟩
abbrev cX1_readSum : ByteArray := prog_3_method_4_code
def yX1_readSum : MethodName := ⟨RX1, "readSum", "(I)V"⟩
abbrev cX1_readProduct : ByteArray := prog_3_method_5_code
def yX1_readProduct : MethodName := ⟨RX1, "readProduct", "(I)V"⟩
abbrev cX1_readFactor : ByteArray := prog_3_method_6_code
def yX1_readFactor : MethodName := ⟨RX1, "readFactor", "(I)V"⟩
abbrev cX1_readBracket : ByteArray := prog_3_method_7_code
def yX1_readBracket : MethodName := ⟨RX1, "readBracket", "(I)V"⟩
abbrev cX1_readNumber : ByteArray := prog_3_method_8_code
def yX1_readNumber : MethodName := ⟨RX1, "readNumber", "()V"⟩
abbrev cX1_pass : ByteArray := prog_3_method_9_code
def yX1_pass : MethodName := ⟨RX1, "pass", "(C)V"⟩
abbrev cX1_sees : ByteArray := prog_3_method_10_code
def yX1_sees : MethodName := ⟨RX1, "sees", "(C)Z"⟩
abbrev cX1_digit : ByteArray := prog_3_method_11_code
def yX1_digit : MethodName := ⟨RX1, "digit", "()I"⟩
abbrev cX1_nameHere : ByteArray := prog_3_method_12_code
def yX1_nameHere : MethodName := ⟨RX1, "nameHere", "()I"⟩
abbrev cX1_put : ByteArray := prog_3_method_13_code
def yX1_put : MethodName := ⟨RX1, "put", "(I)V"⟩
def RX2 : String := "SlipWeeks$LikingVoice"
def TX2 : u_T := fun k => match k with
  | 0 => ("SlipWeeks$LikingVoice", "state", "LSlipWeeks$State;", true)
  | _ => ("SlipWeeks$LikingVoice", "stack", "[I", true)
def tyX2 : Nat → FieldType := fun k => match k with
  | 0 => .object "SlipWeeks$State"
  | _ => .array .int
abbrev wsX20 : List Cond := u_ws RX2 TX2 2
theorem nmX2 : ∀ a, a < 2 → ∀ b, b < 2 → a ≠ b → (TX2 a).2.1 ≠ (TX2 b).2.1 := by decide +kernel
theorem tyX2_ok : ∀ k, k < 2 → parseFieldDescriptor (TX2 k).2.2.1 = some (tyX2 k) := by decide +kernel
abbrev cX2_init : ByteArray := prog_4_method_1_code
def yX2_init : MethodName := ⟨RX2, "<init>", "(LSlipWeeks$State;)V"⟩
abbrev cX2_say : ByteArray := prog_4_method_2_code
def yX2_say : MethodName := ⟨RX2, "say", "(III)I"⟩
abbrev cX2_act : ByteArray := prog_4_method_3_code
def yX2_act : MethodName := ⟨RX2, "act", "(II)I"⟩
abbrev cX2_named : ByteArray := prog_4_method_4_code
def yX2_named : MethodName := ⟨RX2, "named", "(IIII)I"⟩
abbrev cX2_longestChain : ByteArray := prog_4_method_5_code
def yX2_longestChain : MethodName := ⟨RX2, "longestChain", "(I)I"⟩
def RX3 : String := "SlipWeeks$Overlaps"
def TX3 : u_T := fun k => match k with
  | 0 => ("SlipWeeks$Overlaps", "values", "[J", true)
  | 1 => ("SlipWeeks$Overlaps", "sums", "[J", true)
  | 2 => ("SlipWeeks$Overlaps", "marks", "[I", true)
  | _ => ("SlipWeeks$Overlaps", "slip", "LSlipWeeks$Slip;", true)
def tyX3 : Nat → FieldType := fun k => match k with
  | 0 => .array .long
  | 1 => .array .long
  | 2 => .array .int
  | _ => .object "SlipWeeks$Slip"
abbrev wsX30 : List Cond := u_ws RX3 TX3 4
theorem nmX3 : ∀ a, a < 4 → ∀ b, b < 4 → a ≠ b → (TX3 a).2.1 ≠ (TX3 b).2.1 := by decide +kernel
theorem tyX3_ok : ∀ k, k < 4 → parseFieldDescriptor (TX3 k).2.2.1 = some (tyX3 k) := by decide +kernel
abbrev cX3_init : ByteArray := prog_5_method_1_code
def yX3_init : MethodName := ⟨RX3, "<init>", "(LSlipWeeks$Slip;)V"⟩
abbrev cX3_gather : ByteArray := prog_5_method_2_code
def yX3_gather : MethodName := ⟨RX3, "gather", "()V"⟩
abbrev cX3_ofRank : ByteArray := prog_5_method_3_code
def yX3_ofRank : MethodName := ⟨RX3, "ofRank", "(II)J"⟩
abbrev cX3_mark : ByteArray := prog_5_method_4_code
def yX3_mark : MethodName := ⟨RX3, "mark", "(I)V"⟩
def RX4 : String := "SlipWeeks$Sheet"
def TX4 : u_T := fun k => match k with
  | 0 => ("SlipWeeks$Sheet", "numbers", "[J", true)
  | 1 => ("SlipWeeks$Sheet", "bits", "I", false)
  | _ => ("SlipWeeks$Sheet", "size", "I", false)
def tyX4 : Nat → FieldType := fun k => match k with
  | 0 => .array .long
  | 1 => .int
  | _ => .int
abbrev wsX40 : List Cond := u_ws RX4 TX4 3
theorem nmX4 : ∀ a, a < 3 → ∀ b, b < 3 → a ≠ b → (TX4 a).2.1 ≠ (TX4 b).2.1 := by decide +kernel
theorem tyX4_ok : ∀ k, k < 3 → parseFieldDescriptor (TX4 k).2.2.1 = some (tyX4 k) := by decide +kernel
abbrev cX4_init : ByteArray := prog_6_method_1_code
def yX4_init : MethodName := ⟨RX4, "<init>", "()V"⟩
abbrev cX4_isWidth : ByteArray := prog_6_method_2_code
def yX4_isWidth : MethodName := ⟨RX4, "isWidth", "(I)Z"⟩
abbrev cX4_lay : ByteArray := prog_6_method_3_code
def yX4_lay : MethodName := ⟨RX4, "lay", "(II)I"⟩
abbrev cX4_holds : ByteArray := prog_6_method_4_code
def yX4_holds : MethodName := ⟨RX4, "holds", "(II)Z"⟩
abbrev cX4_lowestBits : ByteArray := prog_6_method_5_code
def yX4_lowestBits : MethodName := ⟨RX4, "lowestBits", "(J)J"⟩
def RX5 : String := "SlipWeeks$Slip"
def TX5 : u_T := fun k => match k with
  | 0 => ("SlipWeeks$Slip", "bits", "[I", true)
  | _ => ("SlipWeeks$Slip", "packed", "[I", true)
def tyX5 : Nat → FieldType := fun k => match k with
  | 0 => .array .int
  | _ => .array .int
abbrev wsX50 : List Cond := u_ws RX5 TX5 2
theorem nmX5 : ∀ a, a < 2 → ∀ b, b < 2 → a ≠ b → (TX5 a).2.1 ≠ (TX5 b).2.1 := by decide +kernel
theorem tyX5_ok : ∀ k, k < 2 → parseFieldDescriptor (TX5 k).2.2.1 = some (tyX5 k) := by decide +kernel
abbrev cX5_init : ByteArray := prog_7_method_1_code
def yX5_init : MethodName := ⟨RX5, "<init>", "()V"⟩
abbrev cX5_placeOf : ByteArray := prog_7_method_2_code
def yX5_placeOf : MethodName := ⟨RX5, "placeOf", "(I)I"⟩
abbrev cX5_choose : ByteArray := prog_7_method_3_code
def yX5_choose : MethodName := ⟨RX5, "choose", "(II)I"⟩
abbrev cX5_inOneLine : ByteArray := prog_7_method_4_code
def yX5_inOneLine : MethodName := ⟨RX5, "inOneLine", "(I)Z"⟩
abbrev cX5_hasColumn : ByteArray := prog_7_method_5_code
def yX5_hasColumn : MethodName := ⟨RX5, "hasColumn", "(I)Z"⟩
def RX6 : String := "SlipWeeks$State"
def TX6 : u_T := fun k => match k with
  | 0 => ("SlipWeeks$State", "kinds", "[I", true)
  | 1 => ("SlipWeeks$State", "manys", "[I", true)
  | 2 => ("SlipWeeks$State", "boughtPlaces", "[I", true)
  | 3 => ("SlipWeeks$State", "boughtTimes", "[I", true)
  | 4 => ("SlipWeeks$State", "code", "[I", true)
  | 5 => ("SlipWeeks$State", "rule", "[I", true)
  | 6 => ("SlipWeeks$State", "cells", "[I", true)
  | 7 => ("SlipWeeks$State", "groups", "I", false)
  | 8 => ("SlipWeeks$State", "boughtRows", "I", false)
  | 9 => ("SlipWeeks$State", "codeSize", "I", false)
  | 10 => ("SlipWeeks$State", "weekCount", "I", false)
  | _ => ("SlipWeeks$State", "z", "I", false)
def tyX6 : Nat → FieldType := fun k => match k with
  | 0 => .array .int
  | 1 => .array .int
  | 2 => .array .int
  | 3 => .array .int
  | 4 => .array .int
  | 5 => .array .int
  | 6 => .array .int
  | 7 => .int
  | 8 => .int
  | 9 => .int
  | 10 => .int
  | _ => .int
abbrev wsX60 : List Cond := u_ws RX6 TX6 12
theorem nmX6 : ∀ a, a < 12 → ∀ b, b < 12 → a ≠ b → (TX6 a).2.1 ≠ (TX6 b).2.1 := by decide +kernel
theorem tyX6_ok : ∀ k, k < 12 → parseFieldDescriptor (TX6 k).2.2.1 = some (tyX6 k) := by decide +kernel
abbrev cX6_init : ByteArray := prog_8_method_1_code
def yX6_init : MethodName := ⟨RX6, "<init>", "()V"⟩
abbrev cX6_becomes : ByteArray := prog_8_method_2_code
def yX6_becomes : MethodName := ⟨RX6, "becomes", "(LSlipWeeks$State;)V"⟩
abbrev cX6_hasLiking : ByteArray := prog_8_method_3_code
def yX6_hasLiking : MethodName := ⟨RX6, "hasLiking", "()Z"⟩
abbrev cX6_boughtAt : ByteArray := prog_8_method_4_code
def yX6_boughtAt : MethodName := ⟨RX6, "boughtAt", "(I)I"⟩
abbrev cX6_isBookFull : ByteArray := prog_8_method_5_code
def yX6_isBookFull : MethodName := ⟨RX6, "isBookFull", "()Z"⟩
abbrev cX6_bookCell : ByteArray := prog_8_method_6_code
def yX6_bookCell : MethodName := ⟨RX6, "bookCell", "(II)I"⟩
abbrev cX6_latestDraw : ByteArray := prog_8_method_7_code
def yX6_latestDraw : MethodName := ⟨RX6, "latestDraw", "()I"⟩
abbrev cX6_cameIn : ByteArray := prog_8_method_8_code
def yX6_cameIn : MethodName := ⟨RX6, "cameIn", "(II)Z"⟩
abbrev cX6_timesOf : ByteArray := prog_8_method_9_code
def yX6_timesOf : MethodName := ⟨RX6, "timesOf", "(I)I"⟩
abbrev cX6_rankTwoWinners : ByteArray := prog_8_method_10_code
def yX6_rankTwoWinners : MethodName := ⟨RX6, "rankTwoWinners", "(IZ)I"⟩
abbrev cX6_potWithIn : ByteArray := prog_8_method_11_code
def yX6_potWithIn : MethodName := ⟨RX6, "potWithIn", "(JJ)J"⟩
abbrev cX6_rankPart : ByteArray := prog_8_method_12_code
def yX6_rankPart : MethodName := ⟨RX6, "rankPart", "(IJ)J"⟩
abbrev cX6_lessTax : ByteArray := prog_8_method_13_code
def yX6_lessTax : MethodName := ⟨RX6, "lessTax", "(J)J"⟩
abbrev cX6_enterWeek : ByteArray := prog_8_method_14_code
def yX6_enterWeek : MethodName := ⟨RX6, "enterWeek", "(ILSlipWeeks$Crowd;)V"⟩
def RX7 : String := "SlipWeeks$Worths"
def TX7 : u_T := fun k => match k with
  | 0 => ("SlipWeeks$Worths", "state", "LSlipWeeks$State;", true)
  | 1 => ("SlipWeeks$Worths", "slip", "LSlipWeeks$Slip;", true)
  | 2 => ("SlipWeeks$Worths", "crowd", "LSlipWeeks$Crowd;", true)
  | 3 => ("SlipWeeks$Worths", "overlaps", "LSlipWeeks$Overlaps;", true)
  | 4 => ("SlipWeeks$Worths", "sums", "[J", true)
  | _ => ("SlipWeeks$Worths", "taken", "[I", true)
def tyX7 : Nat → FieldType := fun k => match k with
  | 0 => .object "SlipWeeks$State"
  | 1 => .object "SlipWeeks$Slip"
  | 2 => .object "SlipWeeks$Crowd"
  | 3 => .object "SlipWeeks$Overlaps"
  | 4 => .array .long
  | _ => .array .int
abbrev wsX70 : List Cond := u_ws RX7 TX7 6
theorem nmX7 : ∀ a, a < 6 → ∀ b, b < 6 → a ≠ b → (TX7 a).2.1 ≠ (TX7 b).2.1 := by decide +kernel
theorem tyX7_ok : ∀ k, k < 6 → parseFieldDescriptor (TX7 k).2.2.1 = some (tyX7 k) := by decide +kernel
abbrev cX7_init : ByteArray := prog_9_method_1_code
def yX7_init : MethodName := ⟨RX7, "<init>", "(LSlipWeeks$State;LSlipWeeks$Slip;LSlipWeeks$Crowd;LSlipWeeks$Overlaps;)V"⟩
abbrev cX7_worthOf : ByteArray := prog_9_method_2_code
def yX7_worthOf : MethodName := ⟨RX7, "worthOf", "(II)J"⟩
abbrev cX7_oneGets : ByteArray := prog_9_method_3_code
def yX7_oneGets : MethodName := ⟨RX7, "oneGets", "(JIJ)J"⟩
abbrev cX7_bestPlace : ByteArray := prog_9_method_4_code
def yX7_bestPlace : MethodName := ⟨RX7, "bestPlace", "()I"⟩
abbrev cX7_leastPot : ByteArray := prog_9_method_5_code
def yX7_leastPot : MethodName := ⟨RX7, "leastPot", "(I)I"⟩
abbrev cX7_houseOf : ByteArray := prog_9_method_6_code
def yX7_houseOf : MethodName := ⟨RX7, "houseOf", "(I)J"⟩
abbrev cX7_takeLeastCrossed : ByteArray := prog_9_method_7_code
def yX7_takeLeastCrossed : MethodName := ⟨RX7, "takeLeastCrossed", "(I)V"⟩
abbrev cX7_leastBound : ByteArray := prog_9_method_8_code
def yX7_leastBound : MethodName := ⟨RX7, "leastBound", "(I)I"⟩
abbrev cX7_countUpTo : ByteArray := prog_9_method_9_code
def yX7_countUpTo : MethodName := ⟨RX7, "countUpTo", "(I)I"⟩
abbrev cX7_afterSeekers : ByteArray := prog_9_method_10_code
def yX7_afterSeekers : MethodName := ⟨RX7, "afterSeekers", "(IZ)I"⟩
abbrev cX7_leastTaken : ByteArray := prog_9_method_11_code
def yX7_leastTaken : MethodName := ⟨RX7, "leastTaken", "()I"⟩
def RX8 : String := "SlipWeeks"
def TX8 : u_T := fun k => match k with
  | 0 => ("SlipWeeks", "state", "LSlipWeeks$State;", true)
  | 1 => ("SlipWeeks", "kept", "LSlipWeeks$State;", true)
  | 2 => ("SlipWeeks", "slip", "LSlipWeeks$Slip;", true)
  | 3 => ("SlipWeeks", "crowd", "LSlipWeeks$Crowd;", true)
  | 4 => ("SlipWeeks", "worths", "LSlipWeeks$Worths;", true)
  | 5 => ("SlipWeeks", "reader", "LSlipWeeks$LikingReader;", true)
  | 6 => ("SlipWeeks", "tape", "[B", true)
  | 7 => ("SlipWeeks", "sheets", "[LSlipWeeks$Sheet;", true)
  | 8 => ("SlipWeeks", "findings", "[I", true)
  | 9 => ("SlipWeeks", "tapeSize", "I", false)
  | _ => ("SlipWeeks", "keeps", "Z", false)
def tyX8 : Nat → FieldType := fun k => match k with
  | 0 => .object "SlipWeeks$State"
  | 1 => .object "SlipWeeks$State"
  | 2 => .object "SlipWeeks$Slip"
  | 3 => .object "SlipWeeks$Crowd"
  | 4 => .object "SlipWeeks$Worths"
  | 5 => .object "SlipWeeks$LikingReader"
  | 6 => .array .byte
  | 7 => .array (.object "SlipWeeks$Sheet")
  | 8 => .array .int
  | 9 => .int
  | _ => .boolean
abbrev wsX80 : List Cond := u_ws RX8 TX8 11
theorem nmX8 : ∀ a, a < 11 → ∀ b, b < 11 → a ≠ b → (TX8 a).2.1 ≠ (TX8 b).2.1 := by decide +kernel
theorem tyX8_ok : ∀ k, k < 11 → parseFieldDescriptor (TX8 k).2.2.1 = some (tyX8 k) := by decide +kernel
abbrev cX8_init : ByteArray := prog_1_method_1_code
def yX8_init : MethodName := ⟨RX8, "<init>", "()V"⟩
abbrev cX8_place : ByteArray := prog_1_method_2_code
def yX8_place : MethodName := ⟨RX8, "place", "(I)I"⟩
abbrev cX8_row : ByteArray := prog_1_method_3_code
def yX8_row : MethodName := ⟨RX8, "row", "(I)I"⟩
abbrev cX8_people : ByteArray := prog_1_method_4_code
def yX8_people : MethodName := ⟨RX8, "people", "(II)I"⟩
abbrev cX8_of : ByteArray := prog_1_method_5_code
def yX8_of : MethodName := ⟨RX8, "of", "(II)I"⟩
abbrev cX8_many : ByteArray := prog_1_method_6_code
def yX8_many : MethodName := ⟨RX8, "many", "(II)I"⟩
abbrev cX8_as : ByteArray := prog_1_method_7_code
def yX8_as : MethodName := ⟨RX8, "as", "(II)I"⟩
abbrev cX8_likes : ByteArray := prog_1_method_8_code
def yX8_likes : MethodName := ⟨RX8, "likes", "(II)I"⟩
abbrev cX8_crossed : ByteArray := prog_1_method_9_code
def yX8_crossed : MethodName := ⟨RX8, "crossed", "(II)I"⟩
abbrev cX8_buys : ByteArray := prog_1_method_10_code
def yX8_buys : MethodName := ⟨RX8, "buys", "(II)I"⟩
abbrev cX8_returned : ByteArray := prog_1_method_11_code
def yX8_returned : MethodName := ⟨RX8, "returned", "()I"⟩
abbrev cX8_feed : ByteArray := prog_1_method_12_code
def yX8_feed : MethodName := ⟨RX8, "feed", "(II)I"⟩
abbrev cX8_wipe : ByteArray := prog_1_method_13_code
def yX8_wipe : MethodName := ⟨RX8, "wipe", "()I"⟩
abbrev cX8_liking : ByteArray := prog_1_method_14_code
def yX8_liking : MethodName := ⟨RX8, "liking", "()I"⟩
abbrev cX8_even : ByteArray := prog_1_method_15_code
def yX8_even : MethodName := ⟨RX8, "even", "()I"⟩
abbrev cX8_rule : ByteArray := prog_1_method_16_code
def yX8_rule : MethodName := ⟨RX8, "rule", "(II)I"⟩
abbrev cX8_seed : ByteArray := prog_1_method_17_code
def yX8_seed : MethodName := ⟨RX8, "seed", "(I)I"⟩
abbrev cX8_week : ByteArray := prog_1_method_18_code
def yX8_week : MethodName := ⟨RX8, "week", "()I"⟩
abbrev cX8_told : ByteArray := prog_1_method_19_code
def yX8_told : MethodName := ⟨RX8, "told", "(I)I"⟩
abbrev cX8_book : ByteArray := prog_1_method_20_code
def yX8_book : MethodName := ⟨RX8, "book", "(II)I"⟩
abbrev cX8_now : ByteArray := prog_1_method_21_code
def yX8_now : MethodName := ⟨RX8, "now", "()I"⟩
abbrev cX8_worth : ByteArray := prog_1_method_22_code
def yX8_worth : MethodName := ⟨RX8, "worth", "(I)I"⟩
abbrev cX8_best : ByteArray := prog_1_method_23_code
def yX8_best : MethodName := ⟨RX8, "best", "(I)I"⟩
abbrev cX8_alone : ByteArray := prog_1_method_24_code
def yX8_alone : MethodName := ⟨RX8, "alone", "(I)I"⟩
abbrev cX8_line : ByteArray := prog_1_method_25_code
def yX8_line : MethodName := ⟨RX8, "line", "(I)I"⟩
abbrev cX8_house : ByteArray := prog_1_method_26_code
def yX8_house : MethodName := ⟨RX8, "house", "(I)J"⟩
abbrev cX8_seek : ByteArray := prog_1_method_27_code
def yX8_seek : MethodName := ⟨RX8, "seek", "(II)I"⟩
abbrev cX8_shares : ByteArray := prog_1_method_28_code
def yX8_shares : MethodName := ⟨RX8, "shares", "(I)I"⟩
abbrev cX8_due : ByteArray := prog_1_method_29_code
def yX8_due : MethodName := ⟨RX8, "due", "(I)I"⟩
abbrev cX8_came : ByteArray := prog_1_method_30_code
def yX8_came : MethodName := ⟨RX8, "came", "(I)I"⟩
abbrev cX8_drum : ByteArray := prog_1_method_31_code
def yX8_drum : MethodName := ⟨RX8, "drum", "()J"⟩
abbrev cX8_felt : ByteArray := prog_1_method_32_code
def yX8_felt : MethodName := ⟨RX8, "felt", "(I)I"⟩
abbrev cX8_sheet : ByteArray := prog_1_method_33_code
def yX8_sheet : MethodName := ⟨RX8, "sheet", "(III)I"⟩
abbrev cX8_write : ByteArray := prog_1_method_34_code
def yX8_write : MethodName := ⟨RX8, "write", "(IIJ)J"⟩
abbrev cX8_copy : ByteArray := prog_1_method_35_code
def yX8_copy : MethodName := ⟨RX8, "copy", "(IIIII)I"⟩
abbrev cX8_weeks : ByteArray := prog_1_method_36_code
def yX8_weeks : MethodName := ⟨RX8, "weeks", "(I)I"⟩
abbrev cX8_read : ByteArray := prog_1_method_37_code
def yX8_read : MethodName := ⟨RX8, "read", "(I)I"⟩
abbrev cX8_image : ByteArray := prog_1_method_38_code
def yX8_image : MethodName := ⟨RX8, "image", "()I"⟩
abbrev cX8_undo : ByteArray := prog_1_method_39_code
def yX8_undo : MethodName := ⟨RX8, "undo", "()I"⟩
abbrev cX8_tear : ByteArray := prog_1_method_40_code
def yX8_tear : MethodName := ⟨RX8, "tear", "()I"⟩
abbrev cX8_count : ByteArray := prog_1_method_41_code
def yX8_count : MethodName := ⟨RX8, "count", "(I)I"⟩
abbrev cX8_status : ByteArray := prog_1_method_42_code
def yX8_status : MethodName := ⟨RX8, "status", "(I)I"⟩
abbrev cX8_tell : ByteArray := prog_1_method_43_code
def yX8_tell : MethodName := ⟨RX8, "tell", "(I)I"⟩
abbrev cX8_within : ByteArray := prog_1_method_44_code
def yX8_within : MethodName := ⟨RX8, "within", "(III)Z"⟩
abbrev cX8_isRow : ByteArray := prog_1_method_45_code
def yX8_isRow : MethodName := ⟨RX8, "isRow", "(J)Z"⟩
abbrev cX8_isPlace : ByteArray := prog_1_method_46_code
def yX8_isPlace : MethodName := ⟨RX8, "isPlace", "(I)Z"⟩
abbrev cX8_isNumber : ByteArray := prog_1_method_47_code
def yX8_isNumber : MethodName := ⟨RX8, "isNumber", "(I)Z"⟩
abbrev cX8_isSheet : ByteArray := prog_1_method_48_code
def yX8_isSheet : MethodName := ⟨RX8, "isSheet", "(I)Z"⟩
abbrev cX8_isPeople : ByteArray := prog_1_method_49_code
def yX8_isPeople : MethodName := ⟨RX8, "isPeople", "(I)Z"⟩
abbrev cX8_isUnder : ByteArray := prog_1_method_50_code
def yX8_isUnder : MethodName := ⟨RX8, "isUnder", "(II)Z"⟩
abbrev cX8_drawByLots : ByteArray := prog_1_method_51_code
def yX8_drawByLots : MethodName := ⟨RX8, "drawByLots", "()I"⟩
abbrev cX8_holdWeek : ByteArray := prog_1_method_52_code
def yX8_holdWeek : MethodName := ⟨RX8, "holdWeek", "(I)V"⟩
def RX9 : String := "SlipWeeksModel"
def TX9 : u_T := fun k => match k with
  | 0 => ("SlipWeeksModel", "s", "[I", true)
  | 1 => ("SlipWeeksModel", "kept", "[I", true)
  | 2 => ("SlipWeeksModel", "isKept", "Z", false)
  | 3 => ("SlipWeeksModel", "findings", "[I", true)
  | 4 => ("SlipWeeksModel", "rowAt", "[I", true)
  | 5 => ("SlipWeeksModel", "placeAt", "[I", true)
  | 6 => ("SlipWeeksModel", "bitsIn", "[I", true)
  | 7 => ("SlipWeeksModel", "factOf", "[I", true)
  | 8 => ("SlipWeeksModel", "tape", "[I", true)
  | 9 => ("SlipWeeksModel", "taped", "I", false)
  | 10 => ("SlipWeeksModel", "bitsOf", "[I", true)
  | 11 => ("SlipWeeksModel", "sizes", "[I", true)
  | 12 => ("SlipWeeksModel", "numbers", "[J", true)
  | 13 => ("SlipWeeksModel", "at", "I", false)
  | 14 => ("SlipWeeksModel", "open", "I", false)
  | 15 => ("SlipWeeksModel", "isBad", "Z", false)
  | 16 => ("SlipWeeksModel", "isTaped", "Z", false)
  | 17 => ("SlipWeeksModel", "placeRead", "I", false)
  | 18 => ("SlipWeeksModel", "isNew", "Z", false)
  | 19 => ("SlipWeeksModel", "isSaidNew", "Z", false)
  | 20 => ("SlipWeeksModel", "isWinnerNew", "Z", false)
  | 21 => ("SlipWeeksModel", "liked", "[I", true)
  | 22 => ("SlipWeeksModel", "all", "[I", true)
  | 23 => ("SlipWeeksModel", "likesOf", "[I", true)
  | 24 => ("SlipWeeksModel", "allCrossed", "I", false)
  | 25 => ("SlipWeeksModel", "winners", "[I", true)
  | 26 => ("SlipWeeksModel", "tried", "[I", true)
  | 27 => ("SlipWeeksModel", "isTaken", "[Z", true)
  | 28 => ("SlipWeeksModel", "bought", "[I", true)
  | _ => ("SlipWeeksModel", "own", "[I", true)
def tyX9 : Nat → FieldType := fun k => match k with
  | 0 => .array .int
  | 1 => .array .int
  | 2 => .boolean
  | 3 => .array .int
  | 4 => .array .int
  | 5 => .array .int
  | 6 => .array .int
  | 7 => .array .int
  | 8 => .array .int
  | 9 => .int
  | 10 => .array .int
  | 11 => .array .int
  | 12 => .array .long
  | 13 => .int
  | 14 => .int
  | 15 => .boolean
  | 16 => .boolean
  | 17 => .int
  | 18 => .boolean
  | 19 => .boolean
  | 20 => .boolean
  | 21 => .array .int
  | 22 => .array .int
  | 23 => .array .int
  | 24 => .int
  | 25 => .array .int
  | 26 => .array .int
  | 27 => .array .boolean
  | 28 => .array .int
  | _ => .array .int
abbrev wsX90 : List Cond := u_ws RX9 TX9 30
theorem nmX9 : ∀ a, a < 30 → ∀ b, b < 30 → a ≠ b → (TX9 a).2.1 ≠ (TX9 b).2.1 := by decide +kernel
theorem tyX9_ok : ∀ k, k < 30 → parseFieldDescriptor (TX9 k).2.2.1 = some (tyX9 k) := by decide +kernel
abbrev cX9_init : ByteArray := prog_11_method_1_code
def yX9_init : MethodName := ⟨RX9, "<init>", "()V"⟩
abbrev cX9_ones : ByteArray := prog_11_method_2_code
def yX9_ones : MethodName := ⟨RX9, "ones", "(I)I"⟩
abbrev cX9_looksAt : ByteArray := prog_11_method_3_code
def yX9_looksAt : MethodName := ⟨RX9, "looksAt", "(II)V"⟩
abbrev cX9_isIn : ByteArray := prog_11_method_4_code
def yX9_isIn : MethodName := ⟨RX9, "isIn", "(JJJ)Z"⟩
abbrev cX9_finds : ByteArray := prog_11_method_5_code
def yX9_finds : MethodName := ⟨RX9, "finds", "(I)I"⟩
abbrev cX9_isPlace : ByteArray := prog_11_method_6_code
def yX9_isPlace : MethodName := ⟨RX9, "isPlace", "(I)Z"⟩
abbrev cX9_isPeople : ByteArray := prog_11_method_7_code
def yX9_isPeople : MethodName := ⟨RX9, "isPeople", "(I)Z"⟩
abbrev cX9_has : ByteArray := prog_11_method_8_code
def yX9_has : MethodName := ⟨RX9, "has", "(II)Z"⟩
abbrev cX9_place : ByteArray := prog_11_method_9_code
def yX9_place : MethodName := ⟨RX9, "place", "(I)I"⟩
abbrev cX9_row : ByteArray := prog_11_method_10_code
def yX9_row : MethodName := ⟨RX9, "row", "(I)I"⟩
abbrev cX9_people : ByteArray := prog_11_method_11_code
def yX9_people : MethodName := ⟨RX9, "people", "(II)I"⟩
abbrev cX9_of : ByteArray := prog_11_method_12_code
def yX9_of : MethodName := ⟨RX9, "of", "(II)I"⟩
abbrev cX9_many : ByteArray := prog_11_method_13_code
def yX9_many : MethodName := ⟨RX9, "many", "(II)I"⟩
abbrev cX9_above : ByteArray := prog_11_method_14_code
def yX9_above : MethodName := ⟨RX9, "above", "(I)I"⟩
abbrev cX9_as : ByteArray := prog_11_method_15_code
def yX9_as : MethodName := ⟨RX9, "as", "(II)I"⟩
abbrev cX9_end : ByteArray := prog_11_method_16_code
def yX9_end : MethodName := ⟨RX9, "end", "()I"⟩
abbrev cX9_byteHere : ByteArray := prog_11_method_17_code
def yX9_byteHere : MethodName := ⟨RX9, "byteHere", "()I"⟩
abbrev cX9_latest : ByteArray := prog_11_method_18_code
def yX9_latest : MethodName := ⟨RX9, "latest", "()I"⟩
abbrev cX9_named : ByteArray := prog_11_method_19_code
def yX9_named : MethodName := ⟨RX9, "named", "(I)I"⟩
abbrev cX9_takes : ByteArray := prog_11_method_20_code
def yX9_takes : MethodName := ⟨RX9, "takes", "(I)Z"⟩
abbrev cX9_must : ByteArray := prog_11_method_21_code
def yX9_must : MethodName := ⟨RX9, "must", "(I)V"⟩
abbrev cX9_number : ByteArray := prog_11_method_22_code
def yX9_number : MethodName := ⟨RX9, "number", "()I"⟩
abbrev cX9_choice : ByteArray := prog_11_method_23_code
def yX9_choice : MethodName := ⟨RX9, "choice", "()I"⟩
abbrev cX9_factor : ByteArray := prog_11_method_24_code
def yX9_factor : MethodName := ⟨RX9, "factor", "()I"⟩
abbrev cX9_term : ByteArray := prog_11_method_25_code
def yX9_term : MethodName := ⟨RX9, "term", "()I"⟩
abbrev cX9_sum : ByteArray := prog_11_method_26_code
def yX9_sum : MethodName := ⟨RX9, "sum", "()I"⟩
abbrev cX9_says : ByteArray := prog_11_method_27_code
def yX9_says : MethodName := ⟨RX9, "says", "(I)I"⟩
abbrev cX9_feed : ByteArray := prog_11_method_28_code
def yX9_feed : MethodName := ⟨RX9, "feed", "(II)I"⟩
abbrev cX9_wipe : ByteArray := prog_11_method_29_code
def yX9_wipe : MethodName := ⟨RX9, "wipe", "()I"⟩
abbrev cX9_liking : ByteArray := prog_11_method_30_code
def yX9_liking : MethodName := ⟨RX9, "liking", "()I"⟩
abbrev cX9_even : ByteArray := prog_11_method_31_code
def yX9_even : MethodName := ⟨RX9, "even", "()I"⟩
abbrev cX9_isOneLine : ByteArray := prog_11_method_32_code
def yX9_isOneLine : MethodName := ⟨RX9, "isOneLine", "(I)Z"⟩
abbrev cX9_isThreeUp : ByteArray := prog_11_method_33_code
def yX9_isThreeUp : MethodName := ⟨RX9, "isThreeUp", "(I)Z"⟩
abbrev cX9_fancied : ByteArray := prog_11_method_34_code
def yX9_fancied : MethodName := ⟨RX9, "fancied", "(IIII)I"⟩
abbrev cX9_likesBy : ByteArray := prog_11_method_35_code
def yX9_likesBy : MethodName := ⟨RX9, "likesBy", "(II)I"⟩
abbrev cX9_crossedBy : ByteArray := prog_11_method_36_code
def yX9_crossedBy : MethodName := ⟨RX9, "crossedBy", "(II)I"⟩
abbrev cX9_works : ByteArray := prog_11_method_37_code
def yX9_works : MethodName := ⟨RX9, "works", "()V"⟩
abbrev cX9_likes : ByteArray := prog_11_method_38_code
def yX9_likes : MethodName := ⟨RX9, "likes", "(II)I"⟩
abbrev cX9_crossed : ByteArray := prog_11_method_39_code
def yX9_crossed : MethodName := ⟨RX9, "crossed", "(II)I"⟩
abbrev cX9_buys : ByteArray := prog_11_method_40_code
def yX9_buys : MethodName := ⟨RX9, "buys", "(II)I"⟩
abbrev cX9_returned : ByteArray := prog_11_method_41_code
def yX9_returned : MethodName := ⟨RX9, "returned", "()I"⟩
abbrev cX9_rule : ByteArray := prog_11_method_42_code
def yX9_rule : MethodName := ⟨RX9, "rule", "(II)I"⟩
abbrev cX9_seed : ByteArray := prog_11_method_43_code
def yX9_seed : MethodName := ⟨RX9, "seed", "(I)I"⟩
abbrev cX9_counts : ByteArray := prog_11_method_44_code
def yX9_counts : MethodName := ⟨RX9, "counts", "()V"⟩
abbrev cX9_potWith : ByteArray := prog_11_method_45_code
def yX9_potWith : MethodName := ⟨RX9, "potWith", "(I)J"⟩
abbrev cX9_shareOf : ByteArray := prog_11_method_46_code
def yX9_shareOf : MethodName := ⟨RX9, "shareOf", "(JI)J"⟩
abbrev cX9_goes : ByteArray := prog_11_method_47_code
def yX9_goes : MethodName := ⟨RX9, "goes", "(I)V"⟩
abbrev cX9_week : ByteArray := prog_11_method_48_code
def yX9_week : MethodName := ⟨RX9, "week", "()I"⟩
abbrev cX9_told : ByteArray := prog_11_method_49_code
def yX9_told : MethodName := ⟨RX9, "told", "(I)I"⟩
abbrev cX9_book : ByteArray := prog_11_method_50_code
def yX9_book : MethodName := ⟨RX9, "book", "(II)I"⟩
abbrev cX9_now : ByteArray := prog_11_method_51_code
def yX9_now : MethodName := ⟨RX9, "now", "()I"⟩
abbrev cX9_taxed : ByteArray := prog_11_method_52_code
def yX9_taxed : MethodName := ⟨RX9, "taxed", "(J)J"⟩
abbrev cX9_getsAll : ByteArray := prog_11_method_53_code
def yX9_getsAll : MethodName := ⟨RX9, "getsAll", "(IJ)J"⟩
abbrev cX9_worthOf : ByteArray := prog_11_method_54_code
def yX9_worthOf : MethodName := ⟨RX9, "worthOf", "(IJ)I"⟩
abbrev cX9_worth : ByteArray := prog_11_method_55_code
def yX9_worth : MethodName := ⟨RX9, "worth", "(I)I"⟩
abbrev cX9_best : ByteArray := prog_11_method_56_code
def yX9_best : MethodName := ⟨RX9, "best", "(I)I"⟩
abbrev cX9_alone : ByteArray := prog_11_method_57_code
def yX9_alone : MethodName := ⟨RX9, "alone", "(I)I"⟩
abbrev cX9_line : ByteArray := prog_11_method_58_code
def yX9_line : MethodName := ⟨RX9, "line", "(I)I"⟩
abbrev cX9_rarest : ByteArray := prog_11_method_59_code
def yX9_rarest : MethodName := ⟨RX9, "rarest", "()I"⟩
abbrev cX9_begins : ByteArray := prog_11_method_60_code
def yX9_begins : MethodName := ⟨RX9, "begins", "()V"⟩
abbrev cX9_house : ByteArray := prog_11_method_61_code
def yX9_house : MethodName := ⟨RX9, "house", "(I)J"⟩
abbrev cX9_seek : ByteArray := prog_11_method_62_code
def yX9_seek : MethodName := ⟨RX9, "seek", "(II)I"⟩
abbrev cX9_shares : ByteArray := prog_11_method_63_code
def yX9_shares : MethodName := ⟨RX9, "shares", "(I)I"⟩
abbrev cX9_drawAt : ByteArray := prog_11_method_64_code
def yX9_drawAt : MethodName := ⟨RX9, "drawAt", "(I)I"⟩
abbrev cX9_timesOf : ByteArray := prog_11_method_65_code
def yX9_timesOf : MethodName := ⟨RX9, "timesOf", "(I)I"⟩
abbrev cX9_due : ByteArray := prog_11_method_66_code
def yX9_due : MethodName := ⟨RX9, "due", "(I)I"⟩
abbrev cX9_came : ByteArray := prog_11_method_67_code
def yX9_came : MethodName := ⟨RX9, "came", "(I)I"⟩
abbrev cX9_drum : ByteArray := prog_11_method_68_code
def yX9_drum : MethodName := ⟨RX9, "drum", "()J"⟩
abbrev cX9_felt : ByteArray := prog_11_method_69_code
def yX9_felt : MethodName := ⟨RX9, "felt", "(I)I"⟩
abbrev cX9_isSheet : ByteArray := prog_11_method_70_code
def yX9_isSheet : MethodName := ⟨RX9, "isSheet", "(I)Z"⟩
abbrev cX9_narrow : ByteArray := prog_11_method_71_code
def yX9_narrow : MethodName := ⟨RX9, "narrow", "(IJ)J"⟩
abbrev cX9_sheet : ByteArray := prog_11_method_72_code
def yX9_sheet : MethodName := ⟨RX9, "sheet", "(III)I"⟩
abbrev cX9_write : ByteArray := prog_11_method_73_code
def yX9_write : MethodName := ⟨RX9, "write", "(IIJ)J"⟩
abbrev cX9_copy : ByteArray := prog_11_method_74_code
def yX9_copy : MethodName := ⟨RX9, "copy", "(IIIII)I"⟩
abbrev cX9_weeks : ByteArray := prog_11_method_75_code
def yX9_weeks : MethodName := ⟨RX9, "weeks", "(I)I"⟩
abbrev cX9_read : ByteArray := prog_11_method_76_code
def yX9_read : MethodName := ⟨RX9, "read", "(I)I"⟩
abbrev cX9_image : ByteArray := prog_11_method_77_code
def yX9_image : MethodName := ⟨RX9, "image", "()I"⟩
abbrev cX9_undo : ByteArray := prog_11_method_78_code
def yX9_undo : MethodName := ⟨RX9, "undo", "()I"⟩
abbrev cX9_tear : ByteArray := prog_11_method_79_code
def yX9_tear : MethodName := ⟨RX9, "tear", "()I"⟩
abbrev cX9_count : ByteArray := prog_11_method_80_code
def yX9_count : MethodName := ⟨RX9, "count", "(I)I"⟩
abbrev cX9_status : ByteArray := prog_11_method_81_code
def yX9_status : MethodName := ⟨RX9, "status", "(I)I"⟩
def RJx145de : String := "java/io/Serializable"
def TJx145de : u_T := fun k => match k with
  | _ => ("", "", "", false)
def tyJx145de : Nat → FieldType := fun k => match k with
  | _ => .int
abbrev wsJx145de0 : List Cond := u_ws RJx145de TJx145de 0
theorem nmJx145de : ∀ a, a < 0 → ∀ b, b < 0 → a ≠ b → (TJx145de a).2.1 ≠ (TJx145de b).2.1 := by decide +kernel
theorem tyJx145de_ok : ∀ k, k < 0 → parseFieldDescriptor (TJx145de k).2.2.1 = some (tyJx145de k) := by decide +kernel
def RJx9f9b0 : String := "java/lang/CharSequence"
def TJx9f9b0 : u_T := fun k => match k with
  | _ => ("", "", "", false)
def tyJx9f9b0 : Nat → FieldType := fun k => match k with
  | _ => .int
abbrev wsJx9f9b00 : List Cond := u_ws RJx9f9b0 TJx9f9b0 0
theorem nmJx9f9b0 : ∀ a, a < 0 → ∀ b, b < 0 → a ≠ b → (TJx9f9b0 a).2.1 ≠ (TJx9f9b0 b).2.1 := by decide +kernel
theorem tyJx9f9b0_ok : ∀ k, k < 0 → parseFieldDescriptor (TJx9f9b0 k).2.2.1 = some (tyJx9f9b0 k) := by decide +kernel
def RJ11 : String := "java/lang/Character"
def TJ11 : u_T := fun k => match k with
  | _ => ("", "", "", false)
def tyJ11 : Nat → FieldType := fun k => match k with
  | _ => .int
abbrev wsJ110 : List Cond := u_ws RJ11 TJ11 0
theorem nmJ11 : ∀ a, a < 0 → ∀ b, b < 0 → a ≠ b → (TJ11 a).2.1 ≠ (TJ11 b).2.1 := by decide +kernel
theorem tyJ11_ok : ∀ k, k < 0 → parseFieldDescriptor (TJ11 k).2.2.1 = some (tyJ11 k) := by decide +kernel
abbrev cJ11_isValidCodePoint_9a6ad : ByteArray := prog_12_method_11_code
def yJ11_isValidCodePoint_9a6ad : MethodName := ⟨RJ11, "isValidCodePoint", "(I)Z"⟩
abbrev cJ11_highSurrogate_5068e : ByteArray := prog_12_method_28_code
def yJ11_highSurrogate_5068e : MethodName := ⟨RJ11, "highSurrogate", "(I)C"⟩
abbrev cJ11_lowSurrogate_5068e : ByteArray := prog_12_method_29_code
def yJ11_lowSurrogate_5068e : MethodName := ⟨RJ11, "lowSurrogate", "(I)C"⟩
def RJxb160c : String := "java/lang/Comparable"
def TJxb160c : u_T := fun k => match k with
  | _ => ("", "", "", false)
def tyJxb160c : Nat → FieldType := fun k => match k with
  | _ => .int
abbrev wsJxb160c0 : List Cond := u_ws RJxb160c TJxb160c 0
theorem nmJxb160c : ∀ a, a < 0 → ∀ b, b < 0 → a ≠ b → (TJxb160c a).2.1 ≠ (TJxb160c b).2.1 := by decide +kernel
theorem tyJxb160c_ok : ∀ k, k < 0 → parseFieldDescriptor (TJxb160c k).2.2.1 = some (tyJxb160c k) := by decide +kernel
def RJ6 : String := "java/lang/Integer"
def TJ6 : u_T := fun k => match k with
  | _ => ("", "", "", false)
def tyJ6 : Nat → FieldType := fun k => match k with
  | _ => .int
abbrev wsJ60 : List Cond := u_ws RJ6 TJ6 0
theorem nmJ6 : ∀ a, a < 0 → ∀ b, b < 0 → a ≠ b → (TJ6 a).2.1 ≠ (TJ6 b).2.1 := by decide +kernel
theorem tyJ6_ok : ∀ k, k < 0 → parseFieldDescriptor (TJ6 k).2.2.1 = some (tyJ6 k) := by decide +kernel
abbrev cJ6_bitCount_0f7a4 : ByteArray := prog_13_method_49_code
def yJ6_bitCount_0f7a4 : MethodName := ⟨RJ6, "bitCount", "(I)I"⟩
def RJ9 : String := "java/lang/Math"
def TJ9 : u_T := fun k => match k with
  | _ => ("", "", "", false)
def tyJ9 : Nat → FieldType := fun k => match k with
  | _ => .int
abbrev wsJ90 : List Cond := u_ws RJ9 TJ9 0
theorem nmJ9 : ∀ a, a < 0 → ∀ b, b < 0 → a ≠ b → (TJ9 a).2.1 ≠ (TJ9 b).2.1 := by decide +kernel
theorem tyJ9_ok : ∀ k, k < 0 → parseFieldDescriptor (TJ9 k).2.2.1 = some (tyJ9 k) := by decide +kernel
abbrev cJ9_max_7cf53 : ByteArray := prog_14_method_65_code
def yJ9_max_7cf53 : MethodName := ⟨RJ9, "max", "(II)I"⟩
abbrev cJ9_max_f86c9 : ByteArray := prog_14_method_66_code
def yJ9_max_f86c9 : MethodName := ⟨RJ9, "max", "(JJ)J"⟩
abbrev cJ9_min_7cf53 : ByteArray := prog_14_method_69_code
def yJ9_min_7cf53 : MethodName := ⟨RJ9, "min", "(II)I"⟩
abbrev cJ9_min_f86c9 : ByteArray := prog_14_method_70_code
def yJ9_min_f86c9 : MethodName := ⟨RJ9, "min", "(JJ)J"⟩
def RJ0 : String := "java/lang/String"
def TJ0 : u_T := fun k => match k with
  | _ => ("", "", "", false)
def tyJ0 : Nat → FieldType := fun k => match k with
  | _ => .int
abbrev wsJ00 : List Cond := u_ws RJ0 TJ0 0
theorem nmJ0 : ∀ a, a < 0 → ∀ b, b < 0 → a ≠ b → (TJ0 a).2.1 ≠ (TJ0 b).2.1 := by decide +kernel
theorem tyJ0_ok : ∀ k, k < 0 → parseFieldDescriptor (TJ0 k).2.2.1 = some (tyJ0 k) := by decide +kernel
abbrev cJ0_length_8abf5 : ByteArray := prog_15_method_54_code
def yJ0_length_8abf5 : MethodName := ⟨RJ0, "length", "()I"⟩
abbrev cJ0_indexOf_0f7a4 : ByteArray := prog_15_method_79_code
def yJ0_indexOf_0f7a4 : MethodName := ⟨RJ0, "indexOf", "(I)I"⟩
abbrev cJ0_indexOf_7cf53 : ByteArray := prog_15_method_80_code
def yJ0_indexOf_7cf53 : MethodName := ⟨RJ0, "indexOf", "(II)I"⟩
abbrev cJ0_coder_7d493 : ByteArray := prog_15_method_152_code
def yJ0_coder_7d493 : MethodName := ⟨RJ0, "coder", "()B"⟩
abbrev cJ0_isLatin1_aae02 : ByteArray := prog_15_method_154_code
def yJ0_isLatin1_aae02 : MethodName := ⟨RJ0, "isLatin1", "()Z"⟩
abbrev cJ0_checkBoundsBeginEnd_23922 : ByteArray := prog_15_method_158_code
def yJ0_checkBoundsBeginEnd_23922 : MethodName := ⟨RJ0, "checkBoundsBeginEnd", "(III)V"⟩
def RJ1 : String := "java/lang/StringLatin1"
def TJ1 : u_T := fun k => match k with
  | _ => ("", "", "", false)
def tyJ1 : Nat → FieldType := fun k => match k with
  | _ => .int
abbrev wsJ10 : List Cond := u_ws RJ1 TJ1 0
theorem nmJ1 : ∀ a, a < 0 → ∀ b, b < 0 → a ≠ b → (TJ1 a).2.1 ≠ (TJ1 b).2.1 := by decide +kernel
theorem tyJ1_ok : ∀ k, k < 0 → parseFieldDescriptor (TJ1 k).2.2.1 = some (tyJ1 k) := by decide +kernel
abbrev cJ1_canEncode_9a6ad : ByteArray := prog_16_method_4_code
def yJ1_canEncode_9a6ad : MethodName := ⟨RJ1, "canEncode", "(I)Z"⟩
abbrev cJ1_indexOf_4cfef : ByteArray := prog_16_method_22_code
def yJ1_indexOf_4cfef : MethodName := ⟨RJ1, "indexOf", "([BIII)I"⟩
abbrev cJ1_indexOfChar_4cfef : ByteArray := prog_16_method_23_code
def yJ1_indexOfChar_4cfef : MethodName := ⟨RJ1, "indexOfChar", "([BIII)I"⟩
def RJ2 : String := "java/lang/StringUTF16"
def TJ2 : u_T := fun k => match k with
  | _ => ("", "", "", false)
def tyJ2 : Nat → FieldType := fun k => match k with
  | _ => .int
abbrev wsJ20 : List Cond := u_ws RJ2 TJ2 0
theorem nmJ2 : ∀ a, a < 0 → ∀ b, b < 0 → a ≠ b → (TJ2 a).2.1 ≠ (TJ2 b).2.1 := by decide +kernel
theorem tyJ2_ok : ∀ k, k < 0 → parseFieldDescriptor (TJ2 k).2.2.1 = some (tyJ2 k) := by decide +kernel
abbrev cJ2_getChar_3b067 : ByteArray := prog_17_method_5_code
def yJ2_getChar_3b067 : MethodName := ⟨RJ2, "getChar", "([BI)C"⟩
abbrev cJ2_length_9d52b : ByteArray := prog_17_method_6_code
def yJ2_length_9d52b : MethodName := ⟨RJ2, "length", "([B)I"⟩
abbrev cJ2_indexOf_4cfef : ByteArray := prog_17_method_40_code
def yJ2_indexOf_4cfef : MethodName := ⟨RJ2, "indexOf", "([BIII)I"⟩
abbrev cJ2_indexOfChar_4cfef : ByteArray := prog_17_method_47_code
def yJ2_indexOfChar_4cfef : MethodName := ⟨RJ2, "indexOfChar", "([BIII)I"⟩
abbrev cJ2_indexOfCharUnsafe_4cfef : ByteArray := prog_17_method_48_code
def yJ2_indexOfCharUnsafe_4cfef : MethodName := ⟨RJ2, "indexOfCharUnsafe", "([BIII)I"⟩
abbrev cJ2_indexOfSupplementary_4cfef : ByteArray := prog_17_method_49_code
def yJ2_indexOfSupplementary_4cfef : MethodName := ⟨RJ2, "indexOfSupplementary", "([BIII)I"⟩
abbrev cJ2_checkBoundsBeginEnd_d044e : ByteArray := prog_17_method_93_code
def yJ2_checkBoundsBeginEnd_d044e : MethodName := ⟨RJ2, "checkBoundsBeginEnd", "(II[B)V"⟩
def RJ10 : String := "java/lang/System"
def TJ10 : u_T := fun k => match k with
  | _ => ("", "", "", false)
def tyJ10 : Nat → FieldType := fun k => match k with
  | _ => .int
abbrev wsJ100 : List Cond := u_ws RJ10 TJ10 0
theorem nmJ10 : ∀ a, a < 0 → ∀ b, b < 0 → a ≠ b → (TJ10 a).2.1 ≠ (TJ10 b).2.1 := by decide +kernel
theorem tyJ10_ok : ∀ k, k < 0 → parseFieldDescriptor (TJ10 k).2.2.1 = some (tyJ10 k) := by decide +kernel
def RJxfd54e : String := "java/lang/constant/Constable"
def TJxfd54e : u_T := fun k => match k with
  | _ => ("", "", "", false)
def tyJxfd54e : Nat → FieldType := fun k => match k with
  | _ => .int
abbrev wsJxfd54e0 : List Cond := u_ws RJxfd54e TJxfd54e 0
theorem nmJxfd54e : ∀ a, a < 0 → ∀ b, b < 0 → a ≠ b → (TJxfd54e a).2.1 ≠ (TJxfd54e b).2.1 := by decide +kernel
theorem tyJxfd54e_ok : ∀ k, k < 0 → parseFieldDescriptor (TJxfd54e k).2.2.1 = some (tyJxfd54e k) := by decide +kernel
def RJx3cf43 : String := "java/lang/constant/ConstantDesc"
def TJx3cf43 : u_T := fun k => match k with
  | _ => ("", "", "", false)
def tyJx3cf43 : Nat → FieldType := fun k => match k with
  | _ => .int
abbrev wsJx3cf430 : List Cond := u_ws RJx3cf43 TJx3cf43 0
theorem nmJx3cf43 : ∀ a, a < 0 → ∀ b, b < 0 → a ≠ b → (TJx3cf43 a).2.1 ≠ (TJx3cf43 b).2.1 := by decide +kernel
theorem tyJx3cf43_ok : ∀ k, k < 0 → parseFieldDescriptor (TJx3cf43 k).2.2.1 = some (tyJx3cf43 k) := by decide +kernel
def RJ7 : String := "java/util/Arrays"
def TJ7 : u_T := fun k => match k with
  | _ => ("", "", "", false)
def tyJ7 : Nat → FieldType := fun k => match k with
  | _ => .int
abbrev wsJ70 : List Cond := u_ws RJ7 TJ7 0
theorem nmJ7 : ∀ a, a < 0 → ∀ b, b < 0 → a ≠ b → (TJ7 a).2.1 ≠ (TJ7 b).2.1 := by decide +kernel
theorem tyJ7_ok : ∀ k, k < 0 → parseFieldDescriptor (TJ7 k).2.2.1 = some (tyJ7 k) := by decide +kernel
abbrev cJ7_fill_d0a16 : ByteArray := prog_19_method_101_code
def yJ7_fill_d0a16 : MethodName := ⟨RJ7, "fill", "([JJ)V"⟩
abbrev cJ7_fill_53178 : ByteArray := prog_19_method_103_code
def yJ7_fill_53178 : MethodName := ⟨RJ7, "fill", "([II)V"⟩
def RJ3 : String := "jdk/internal/util/Preconditions"
def TJ3 : u_T := fun k => match k with
  | _ => ("", "", "", false)
def tyJ3 : Nat → FieldType := fun k => match k with
  | _ => .int
abbrev wsJ30 : List Cond := u_ws RJ3 TJ3 0
theorem nmJ3 : ∀ a, a < 0 → ∀ b, b < 0 → a ≠ b → (TJ3 a).2.1 ≠ (TJ3 b).2.1 := by decide +kernel
theorem tyJ3_ok : ∀ k, k < 0 → parseFieldDescriptor (TJ3 k).2.2.1 = some (tyJ3 k) := by decide +kernel
abbrev cJ3_checkFromToIndex_8c36e : ByteArray := prog_20_method_12_code
def yJ3_checkFromToIndex_8c36e : MethodName := ⟨RJ3, "checkFromToIndex", "(IIILjava/util/function/BiFunction;)I"⟩
def RL : String := "SlipWeeksLaw"
abbrev cL_law : ByteArray := code
def yL_law : MethodName := ⟨RL, "law", "([I)Z"⟩
abbrev vwCl : List vw_C := [(RX0, TX0, 14), (RX1, TX1, 6), (RX2, TX2, 2), (RX3, TX3, 4), (RX4, TX4, 3), (RX5, TX5, 2), (RX6, TX6, 12), (RX7, TX7, 6), (RX8, TX8, 11), (RX9, TX9, 30)]
