section
-- ===== PART A: goes FIRST, ahead of the names: the tables' words, and 'selects' of the private methods out of them =====
/-- a private method of a class that the tables say can be made, by its rows of tables_1 -/
def lw_okq (q : MethodName × Nat) : Prop := (q.1.cls ≠ "java/lang/invoke/MethodHandle" ∧ q.1.cls ≠ "java/lang/invoke/VarHandle") ∧ Cond.instantiable q.1.cls q.2 ∈ tables_1 ∧ Cond.privateMethod q.1 ∈ tables_1 ∧ Cond.instanceMethod q.1 ∈ tables_1
theorem lw_p0 : lw_okq (⟨"RumourDesk", "isPerson", "(I)Z"⟩, 12) := ⟨⟨by decide +kernel, by decide +kernel⟩, List.mem_of_getElem? (i := 22) (by decide +kernel), List.mem_of_getElem? (i := 303) (by decide +kernel), List.mem_of_getElem? (i := 304) (by decide +kernel)⟩
theorem lw_p1 : lw_okq (⟨"RumourDesk", "comeUp", "(II)I"⟩, 12) := ⟨⟨by decide +kernel, by decide +kernel⟩, List.mem_of_getElem? (i := 22) (by decide +kernel), List.mem_of_getElem? (i := 325) (by decide +kernel), List.mem_of_getElem? (i := 326) (by decide +kernel)⟩
theorem lw_p2 : lw_okq (⟨"RumourDesk", "isSaying", "(I)Z"⟩, 12) := ⟨⟨by decide +kernel, by decide +kernel⟩, List.mem_of_getElem? (i := 22) (by decide +kernel), List.mem_of_getElem? (i := 333) (by decide +kernel), List.mem_of_getElem? (i := 334) (by decide +kernel)⟩
theorem lw_p3 : lw_okq (⟨"RumourDesk$Town", "listen", "(LRumourDesk$Spread;[I)I"⟩, 5) := ⟨⟨by decide +kernel, by decide +kernel⟩, List.mem_of_getElem? (i := 30) (by decide +kernel), List.mem_of_getElem? (i := 399) (by decide +kernel), List.mem_of_getElem? (i := 400) (by decide +kernel)⟩
theorem lw_p4 : lw_okq (⟨"RumourDesk$Town", "weightOf", "(I)I"⟩, 5) := ⟨⟨by decide +kernel, by decide +kernel⟩, List.mem_of_getElem? (i := 30) (by decide +kernel), List.mem_of_getElem? (i := 403) (by decide +kernel), List.mem_of_getElem? (i := 404) (by decide +kernel)⟩
theorem lw_p5 : lw_okq (⟨"RumourDesk$Town", "hear", "(LRumourDesk$Spread;III)V"⟩, 5) := ⟨⟨by decide +kernel, by decide +kernel⟩, List.mem_of_getElem? (i := 30) (by decide +kernel), List.mem_of_getElem? (i := 408) (by decide +kernel), List.mem_of_getElem? (i := 409) (by decide +kernel)⟩
theorem lw_p6 : lw_okq (⟨"RumourDesk$Town", "fade", "(LRumourDesk$Spread;II)V"⟩, 5) := ⟨⟨by decide +kernel, by decide +kernel⟩, List.mem_of_getElem? (i := 30) (by decide +kernel), List.mem_of_getElem? (i := 430) (by decide +kernel), List.mem_of_getElem? (i := 431) (by decide +kernel)⟩
theorem lw_p7 : lw_okq (⟨"RumourDesk$Town", "readDenial", "(LRumourDesk$Spread;IIII)V"⟩, 5) := ⟨⟨by decide +kernel, by decide +kernel⟩, List.mem_of_getElem? (i := 30) (by decide +kernel), List.mem_of_getElem? (i := 460) (by decide +kernel), List.mem_of_getElem? (i := 461) (by decide +kernel)⟩
theorem lw_p8 : lw_okq (⟨"RumourDesk", "harmAhead", "(III)I"⟩, 12) := ⟨⟨by decide +kernel, by decide +kernel⟩, List.mem_of_getElem? (i := 22) (by decide +kernel), List.mem_of_getElem? (i := 479) (by decide +kernel), List.mem_of_getElem? (i := 480) (by decide +kernel)⟩
theorem lw_p9 : lw_okq (⟨"RumourDesk$Tape", "next", "()C"⟩, 3) := ⟨⟨by decide +kernel, by decide +kernel⟩, List.mem_of_getElem? (i := 92) (by decide +kernel), List.mem_of_getElem? (i := 522) (by decide +kernel), List.mem_of_getElem? (i := 523) (by decide +kernel)⟩
theorem lw_p10 : lw_okq (⟨"RumourDesk$Tape", "readClauses", "(LRumourDesk$Guide;)Z"⟩, 3) := ⟨⟨by decide +kernel, by decide +kernel⟩, List.mem_of_getElem? (i := 92) (by decide +kernel), List.mem_of_getElem? (i := 526) (by decide +kernel), List.mem_of_getElem? (i := 527) (by decide +kernel)⟩
theorem lw_p11 : lw_okq (⟨"RumourDesk$Tape", "readClause", "(LRumourDesk$Guide;)Z"⟩, 3) := ⟨⟨by decide +kernel, by decide +kernel⟩, List.mem_of_getElem? (i := 92) (by decide +kernel), List.mem_of_getElem? (i := 530) (by decide +kernel), List.mem_of_getElem? (i := 531) (by decide +kernel)⟩
theorem lw_p12 : lw_okq (⟨"RumourDesk$Tape", "readTest", "(LRumourDesk$Guide;I)Z"⟩, 3) := ⟨⟨by decide +kernel, by decide +kernel⟩, List.mem_of_getElem? (i := 92) (by decide +kernel), List.mem_of_getElem? (i := 534) (by decide +kernel), List.mem_of_getElem? (i := 535) (by decide +kernel)⟩
theorem lw_p13 : lw_okq (⟨"RumourDesk$Tape", "readCase", "(LRumourDesk$Guide;I)Z"⟩, 3) := ⟨⟨by decide +kernel, by decide +kernel⟩, List.mem_of_getElem? (i := 92) (by decide +kernel), List.mem_of_getElem? (i := 538) (by decide +kernel), List.mem_of_getElem? (i := 539) (by decide +kernel)⟩
theorem lw_p14 : lw_okq (⟨"RumourDesk$Tape", "readClaim", "(LRumourDesk$Guide;I)Z"⟩, 3) := ⟨⟨by decide +kernel, by decide +kernel⟩, List.mem_of_getElem? (i := 92) (by decide +kernel), List.mem_of_getElem? (i := 542) (by decide +kernel), List.mem_of_getElem? (i := 543) (by decide +kernel)⟩
theorem lw_p15 : lw_okq (⟨"RumourDesk$Tape", "takes", "(C)Z"⟩, 3) := ⟨⟨by decide +kernel, by decide +kernel⟩, List.mem_of_getElem? (i := 92) (by decide +kernel), List.mem_of_getElem? (i := 546) (by decide +kernel), List.mem_of_getElem? (i := 547) (by decide +kernel)⟩
def lw_privs_1 : List (MethodName × Nat) := [(⟨"RumourDesk", "isPerson", "(I)Z"⟩, 12), (⟨"RumourDesk", "comeUp", "(II)I"⟩, 12), (⟨"RumourDesk", "isSaying", "(I)Z"⟩, 12), (⟨"RumourDesk$Town", "listen", "(LRumourDesk$Spread;[I)I"⟩, 5), (⟨"RumourDesk$Town", "weightOf", "(I)I"⟩, 5), (⟨"RumourDesk$Town", "hear", "(LRumourDesk$Spread;III)V"⟩, 5), (⟨"RumourDesk$Town", "fade", "(LRumourDesk$Spread;II)V"⟩, 5), (⟨"RumourDesk$Town", "readDenial", "(LRumourDesk$Spread;IIII)V"⟩, 5), (⟨"RumourDesk", "harmAhead", "(III)I"⟩, 12), (⟨"RumourDesk$Tape", "next", "()C"⟩, 3), (⟨"RumourDesk$Tape", "readClauses", "(LRumourDesk$Guide;)Z"⟩, 3), (⟨"RumourDesk$Tape", "readClause", "(LRumourDesk$Guide;)Z"⟩, 3), (⟨"RumourDesk$Tape", "readTest", "(LRumourDesk$Guide;I)Z"⟩, 3), (⟨"RumourDesk$Tape", "readCase", "(LRumourDesk$Guide;I)Z"⟩, 3), (⟨"RumourDesk$Tape", "readClaim", "(LRumourDesk$Guide;I)Z"⟩, 3), (⟨"RumourDesk$Tape", "takes", "(C)Z"⟩, 3)]
theorem lw_r1 : ∀ q ∈ lw_privs_1, lw_okq q := List.forall_mem_cons.mpr ⟨lw_p0, List.forall_mem_cons.mpr ⟨lw_p1, List.forall_mem_cons.mpr ⟨lw_p2, List.forall_mem_cons.mpr ⟨lw_p3, List.forall_mem_cons.mpr ⟨lw_p4, List.forall_mem_cons.mpr ⟨lw_p5, List.forall_mem_cons.mpr ⟨lw_p6, List.forall_mem_cons.mpr ⟨lw_p7, List.forall_mem_cons.mpr ⟨lw_p8, List.forall_mem_cons.mpr ⟨lw_p9, List.forall_mem_cons.mpr ⟨lw_p10, List.forall_mem_cons.mpr ⟨lw_p11, List.forall_mem_cons.mpr ⟨lw_p12, List.forall_mem_cons.mpr ⟨lw_p13, List.forall_mem_cons.mpr ⟨lw_p14, List.forall_mem_cons.mpr ⟨lw_p15, fun _ h => absurd h List.not_mem_nil⟩⟩⟩⟩⟩⟩⟩⟩⟩⟩⟩⟩⟩⟩⟩⟩
theorem lw_p16 : lw_okq (⟨"RumourDesk$Tape", "readComparison", "(LRumourDesk$Guide;)Z"⟩, 3) := ⟨⟨by decide +kernel, by decide +kernel⟩, List.mem_of_getElem? (i := 92) (by decide +kernel), List.mem_of_getElem? (i := 550) (by decide +kernel), List.mem_of_getElem? (i := 551) (by decide +kernel)⟩
theorem lw_p17 : lw_okq (⟨"RumourDesk$Tape", "takesOneOf", "(Ljava/lang/String;)I"⟩, 3) := ⟨⟨by decide +kernel, by decide +kernel⟩, List.mem_of_getElem? (i := 92) (by decide +kernel), List.mem_of_getElem? (i := 555) (by decide +kernel), List.mem_of_getElem? (i := 556) (by decide +kernel)⟩
theorem lw_p18 : lw_okq (⟨"RumourDesk$Tape", "readDay", "()I"⟩, 3) := ⟨⟨by decide +kernel, by decide +kernel⟩, List.mem_of_getElem? (i := 92) (by decide +kernel), List.mem_of_getElem? (i := 653) (by decide +kernel), List.mem_of_getElem? (i := 654) (by decide +kernel)⟩
theorem lw_p19 : lw_okq (⟨"RumourDesk$Guide", "holds", "(II)Z"⟩, 6) := ⟨⟨by decide +kernel, by decide +kernel⟩, List.mem_of_getElem? (i := 167) (by decide +kernel), List.mem_of_getElem? (i := 671) (by decide +kernel), List.mem_of_getElem? (i := 672) (by decide +kernel)⟩
theorem lw_p20 : lw_okq (⟨"RumourDesk$Kin", "sortIn", "(I)V"⟩, 4) := ⟨⟨by decide +kernel, by decide +kernel⟩, List.mem_of_getElem? (i := 110) (by decide +kernel), List.mem_of_getElem? (i := 687) (by decide +kernel), List.mem_of_getElem? (i := 688) (by decide +kernel)⟩
theorem lw_p21 : lw_okq (⟨"RumourDesk$Kin", "joinNearest", "()I"⟩, 4) := ⟨⟨by decide +kernel, by decide +kernel⟩, List.mem_of_getElem? (i := 110) (by decide +kernel), List.mem_of_getElem? (i := 700) (by decide +kernel), List.mem_of_getElem? (i := 701) (by decide +kernel)⟩
theorem lw_p22 : lw_okq (⟨"RumourDesk", "agrees", "(III)Z"⟩, 12) := ⟨⟨by decide +kernel, by decide +kernel⟩, List.mem_of_getElem? (i := 22) (by decide +kernel), List.mem_of_getElem? (i := 732) (by decide +kernel), List.mem_of_getElem? (i := 733) (by decide +kernel)⟩
theorem lw_p23 : lw_okq (⟨"RumourDesk", "agreesAtSomeHour", "(II)Z"⟩, 12) := ⟨⟨by decide +kernel, by decide +kernel⟩, List.mem_of_getElem? (i := 22) (by decide +kernel), List.mem_of_getElem? (i := 749) (by decide +kernel), List.mem_of_getElem? (i := 750) (by decide +kernel)⟩
theorem lw_p24 : lw_okq (⟨"RumourDeskModel", "isPerson", "(I)Z"⟩, 50) := ⟨⟨by decide +kernel, by decide +kernel⟩, List.mem_of_getElem? (i := 828) (by decide +kernel), List.mem_of_getElem? (i := 1002) (by decide +kernel), List.mem_of_getElem? (i := 1003) (by decide +kernel)⟩
theorem lw_p25 : lw_okq (⟨"RumourDeskModel", "placeOf", "(II)I"⟩, 50) := ⟨⟨by decide +kernel, by decide +kernel⟩, List.mem_of_getElem? (i := 828) (by decide +kernel), List.mem_of_getElem? (i := 1015) (by decide +kernel), List.mem_of_getElem? (i := 1016) (by decide +kernel)⟩
theorem lw_p26 : lw_okq (⟨"RumourDeskModel", "comes", "(IIIIZ)I"⟩, 50) := ⟨⟨by decide +kernel, by decide +kernel⟩, List.mem_of_getElem? (i := 828) (by decide +kernel), List.mem_of_getElem? (i := 1033) (by decide +kernel), List.mem_of_getElem? (i := 1034) (by decide +kernel)⟩
theorem lw_p27 : lw_okq (⟨"RumourDeskModel", "isSaying", "(I)Z"⟩, 50) := ⟨⟨by decide +kernel, by decide +kernel⟩, List.mem_of_getElem? (i := 828) (by decide +kernel), List.mem_of_getElem? (i := 1041) (by decide +kernel), List.mem_of_getElem? (i := 1042) (by decide +kernel)⟩
theorem lw_p28 : lw_okq (⟨"RumourDeskModel", "takes", "(IIII)V"⟩, 50) := ⟨⟨by decide +kernel, by decide +kernel⟩, List.mem_of_getElem? (i := 828) (by decide +kernel), List.mem_of_getElem? (i := 1071) (by decide +kernel), List.mem_of_getElem? (i := 1072) (by decide +kernel)⟩
theorem lw_p29 : lw_okq (⟨"RumourDeskModel", "hour", "()V"⟩, 50) := ⟨⟨by decide +kernel, by decide +kernel⟩, List.mem_of_getElem? (i := 828) (by decide +kernel), List.mem_of_getElem? (i := 1088) (by decide +kernel), List.mem_of_getElem? (i := 1089) (by decide +kernel)⟩
theorem lw_p30 : lw_okq (⟨"RumourDeskModel", "hourOf", "(I)V"⟩, 50) := ⟨⟨by decide +kernel, by decide +kernel⟩, List.mem_of_getElem? (i := 828) (by decide +kernel), List.mem_of_getElem? (i := 1092) (by decide +kernel), List.mem_of_getElem? (i := 1093) (by decide +kernel)⟩
theorem lw_p31 : lw_okq (⟨"RumourDeskModel", "isLoud", "(II)Z"⟩, 50) := ⟨⟨by decide +kernel, by decide +kernel⟩, List.mem_of_getElem? (i := 828) (by decide +kernel), List.mem_of_getElem? (i := 1096) (by decide +kernel), List.mem_of_getElem? (i := 1097) (by decide +kernel)⟩
def lw_privs_2 : List (MethodName × Nat) := [(⟨"RumourDesk$Tape", "readComparison", "(LRumourDesk$Guide;)Z"⟩, 3), (⟨"RumourDesk$Tape", "takesOneOf", "(Ljava/lang/String;)I"⟩, 3), (⟨"RumourDesk$Tape", "readDay", "()I"⟩, 3), (⟨"RumourDesk$Guide", "holds", "(II)Z"⟩, 6), (⟨"RumourDesk$Kin", "sortIn", "(I)V"⟩, 4), (⟨"RumourDesk$Kin", "joinNearest", "()I"⟩, 4), (⟨"RumourDesk", "agrees", "(III)Z"⟩, 12), (⟨"RumourDesk", "agreesAtSomeHour", "(II)Z"⟩, 12), (⟨"RumourDeskModel", "isPerson", "(I)Z"⟩, 50), (⟨"RumourDeskModel", "placeOf", "(II)I"⟩, 50), (⟨"RumourDeskModel", "comes", "(IIIIZ)I"⟩, 50), (⟨"RumourDeskModel", "isSaying", "(I)Z"⟩, 50), (⟨"RumourDeskModel", "takes", "(IIII)V"⟩, 50), (⟨"RumourDeskModel", "hour", "()V"⟩, 50), (⟨"RumourDeskModel", "hourOf", "(I)V"⟩, 50), (⟨"RumourDeskModel", "isLoud", "(II)Z"⟩, 50)]
theorem lw_r2 : ∀ q ∈ lw_privs_2, lw_okq q := List.forall_mem_cons.mpr ⟨lw_p16, List.forall_mem_cons.mpr ⟨lw_p17, List.forall_mem_cons.mpr ⟨lw_p18, List.forall_mem_cons.mpr ⟨lw_p19, List.forall_mem_cons.mpr ⟨lw_p20, List.forall_mem_cons.mpr ⟨lw_p21, List.forall_mem_cons.mpr ⟨lw_p22, List.forall_mem_cons.mpr ⟨lw_p23, List.forall_mem_cons.mpr ⟨lw_p24, List.forall_mem_cons.mpr ⟨lw_p25, List.forall_mem_cons.mpr ⟨lw_p26, List.forall_mem_cons.mpr ⟨lw_p27, List.forall_mem_cons.mpr ⟨lw_p28, List.forall_mem_cons.mpr ⟨lw_p29, List.forall_mem_cons.mpr ⟨lw_p30, List.forall_mem_cons.mpr ⟨lw_p31, fun _ h => absurd h List.not_mem_nil⟩⟩⟩⟩⟩⟩⟩⟩⟩⟩⟩⟩⟩⟩⟩⟩
theorem lw_p32 : lw_okq (⟨"RumourDeskModel", "fear", "(I)I"⟩, 50) := ⟨⟨by decide +kernel, by decide +kernel⟩, List.mem_of_getElem? (i := 828) (by decide +kernel), List.mem_of_getElem? (i := 1100) (by decide +kernel), List.mem_of_getElem? (i := 1101) (by decide +kernel)⟩
theorem lw_p33 : lw_okq (⟨"RumourDeskModel", "hears", "(IIII)V"⟩, 50) := ⟨⟨by decide +kernel, by decide +kernel⟩, List.mem_of_getElem? (i := 828) (by decide +kernel), List.mem_of_getElem? (i := 1104) (by decide +kernel), List.mem_of_getElem? (i := 1105) (by decide +kernel)⟩
theorem lw_p34 : lw_okq (⟨"RumourDeskModel", "becomes", "(II)V"⟩, 50) := ⟨⟨by decide +kernel, by decide +kernel⟩, List.mem_of_getElem? (i := 828) (by decide +kernel), List.mem_of_getElem? (i := 1108) (by decide +kernel), List.mem_of_getElem? (i := 1109) (by decide +kernel)⟩
theorem lw_p35 : lw_okq (⟨"RumourDeskModel", "stateMany", "(II)I"⟩, 50) := ⟨⟨by decide +kernel, by decide +kernel⟩, List.mem_of_getElem? (i := 828) (by decide +kernel), List.mem_of_getElem? (i := 1117) (by decide +kernel), List.mem_of_getElem? (i := 1118) (by decide +kernel)⟩
theorem lw_p36 : lw_okq (⟨"RumourDeskModel", "harmOf", "(I)I"⟩, 50) := ⟨⟨by decide +kernel, by decide +kernel⟩, List.mem_of_getElem? (i := 828) (by decide +kernel), List.mem_of_getElem? (i := 1125) (by decide +kernel), List.mem_of_getElem? (i := 1126) (by decide +kernel)⟩
theorem lw_p37 : lw_okq (⟨"RumourDeskModel", "mayBeDenied", "(I)Z"⟩, 50) := ⟨⟨by decide +kernel, by decide +kernel⟩, List.mem_of_getElem? (i := 828) (by decide +kernel), List.mem_of_getElem? (i := 1134) (by decide +kernel), List.mem_of_getElem? (i := 1135) (by decide +kernel)⟩
theorem lw_p38 : lw_okq (⟨"RumourDeskModel", "denies", "(II)I"⟩, 50) := ⟨⟨by decide +kernel, by decide +kernel⟩, List.mem_of_getElem? (i := 828) (by decide +kernel), List.mem_of_getElem? (i := 1138) (by decide +kernel), List.mem_of_getElem? (i := 1139) (by decide +kernel)⟩
theorem lw_p39 : lw_okq (⟨"RumourDeskModel", "isReader", "(I)Z"⟩, 50) := ⟨⟨by decide +kernel, by decide +kernel⟩, List.mem_of_getElem? (i := 828) (by decide +kernel), List.mem_of_getElem? (i := 1142) (by decide +kernel), List.mem_of_getElem? (i := 1143) (by decide +kernel)⟩
theorem lw_p40 : lw_okq (⟨"RumourDeskModel", "trust", "(I)I"⟩, 50) := ⟨⟨by decide +kernel, by decide +kernel⟩, List.mem_of_getElem? (i := 828) (by decide +kernel), List.mem_of_getElem? (i := 1146) (by decide +kernel), List.mem_of_getElem? (i := 1147) (by decide +kernel)⟩
theorem lw_p41 : lw_okq (⟨"RumourDeskModel", "harmBy", "(III)I"⟩, 50) := ⟨⟨by decide +kernel, by decide +kernel⟩, List.mem_of_getElem? (i := 828) (by decide +kernel), List.mem_of_getElem? (i := 1158) (by decide +kernel), List.mem_of_getElem? (i := 1159) (by decide +kernel)⟩
theorem lw_p42 : lw_okq (⟨"RumourDeskModel", "keeps", "()V"⟩, 50) := ⟨⟨by decide +kernel, by decide +kernel⟩, List.mem_of_getElem? (i := 828) (by decide +kernel), List.mem_of_getElem? (i := 1162) (by decide +kernel), List.mem_of_getElem? (i := 1163) (by decide +kernel)⟩
theorem lw_p43 : lw_okq (⟨"RumourDeskModel", "returns", "()V"⟩, 50) := ⟨⟨by decide +kernel, by decide +kernel⟩, List.mem_of_getElem? (i := 828) (by decide +kernel), List.mem_of_getElem? (i := 1166) (by decide +kernel), List.mem_of_getElem? (i := 1167) (by decide +kernel)⟩
theorem lw_p44 : lw_okq (⟨"RumourDeskModel", "next", "()I"⟩, 50) := ⟨⟨by decide +kernel, by decide +kernel⟩, List.mem_of_getElem? (i := 828) (by decide +kernel), List.mem_of_getElem? (i := 1193) (by decide +kernel), List.mem_of_getElem? (i := 1194) (by decide +kernel)⟩
theorem lw_p45 : lw_okq (⟨"RumourDeskModel", "clause", "(I)Z"⟩, 50) := ⟨⟨by decide +kernel, by decide +kernel⟩, List.mem_of_getElem? (i := 828) (by decide +kernel), List.mem_of_getElem? (i := 1197) (by decide +kernel), List.mem_of_getElem? (i := 1198) (by decide +kernel)⟩
theorem lw_p46 : lw_okq (⟨"RumourDeskModel", "test", "(I)Z"⟩, 50) := ⟨⟨by decide +kernel, by decide +kernel⟩, List.mem_of_getElem? (i := 828) (by decide +kernel), List.mem_of_getElem? (i := 1201) (by decide +kernel), List.mem_of_getElem? (i := 1202) (by decide +kernel)⟩
theorem lw_p47 : lw_okq (⟨"RumourDeskModel", "passes", "(I)Z"⟩, 50) := ⟨⟨by decide +kernel, by decide +kernel⟩, List.mem_of_getElem? (i := 828) (by decide +kernel), List.mem_of_getElem? (i := 1205) (by decide +kernel), List.mem_of_getElem? (i := 1206) (by decide +kernel)⟩
def lw_privs_3 : List (MethodName × Nat) := [(⟨"RumourDeskModel", "fear", "(I)I"⟩, 50), (⟨"RumourDeskModel", "hears", "(IIII)V"⟩, 50), (⟨"RumourDeskModel", "becomes", "(II)V"⟩, 50), (⟨"RumourDeskModel", "stateMany", "(II)I"⟩, 50), (⟨"RumourDeskModel", "harmOf", "(I)I"⟩, 50), (⟨"RumourDeskModel", "mayBeDenied", "(I)Z"⟩, 50), (⟨"RumourDeskModel", "denies", "(II)I"⟩, 50), (⟨"RumourDeskModel", "isReader", "(I)Z"⟩, 50), (⟨"RumourDeskModel", "trust", "(I)I"⟩, 50), (⟨"RumourDeskModel", "harmBy", "(III)I"⟩, 50), (⟨"RumourDeskModel", "keeps", "()V"⟩, 50), (⟨"RumourDeskModel", "returns", "()V"⟩, 50), (⟨"RumourDeskModel", "next", "()I"⟩, 50), (⟨"RumourDeskModel", "clause", "(I)Z"⟩, 50), (⟨"RumourDeskModel", "test", "(I)Z"⟩, 50), (⟨"RumourDeskModel", "passes", "(I)Z"⟩, 50)]
theorem lw_r3 : ∀ q ∈ lw_privs_3, lw_okq q := List.forall_mem_cons.mpr ⟨lw_p32, List.forall_mem_cons.mpr ⟨lw_p33, List.forall_mem_cons.mpr ⟨lw_p34, List.forall_mem_cons.mpr ⟨lw_p35, List.forall_mem_cons.mpr ⟨lw_p36, List.forall_mem_cons.mpr ⟨lw_p37, List.forall_mem_cons.mpr ⟨lw_p38, List.forall_mem_cons.mpr ⟨lw_p39, List.forall_mem_cons.mpr ⟨lw_p40, List.forall_mem_cons.mpr ⟨lw_p41, List.forall_mem_cons.mpr ⟨lw_p42, List.forall_mem_cons.mpr ⟨lw_p43, List.forall_mem_cons.mpr ⟨lw_p44, List.forall_mem_cons.mpr ⟨lw_p45, List.forall_mem_cons.mpr ⟨lw_p46, List.forall_mem_cons.mpr ⟨lw_p47, fun _ h => absurd h List.not_mem_nil⟩⟩⟩⟩⟩⟩⟩⟩⟩⟩⟩⟩⟩⟩⟩⟩
theorem lw_p48 : lw_okq (⟨"RumourDeskModel", "claim", "(I)Z"⟩, 50) := ⟨⟨by decide +kernel, by decide +kernel⟩, List.mem_of_getElem? (i := 828) (by decide +kernel), List.mem_of_getElem? (i := 1209) (by decide +kernel), List.mem_of_getElem? (i := 1210) (by decide +kernel)⟩
theorem lw_p49 : lw_okq (⟨"RumourDeskModel", "number", "(I)I"⟩, 50) := ⟨⟨by decide +kernel, by decide +kernel⟩, List.mem_of_getElem? (i := 828) (by decide +kernel), List.mem_of_getElem? (i := 1215) (by decide +kernel), List.mem_of_getElem? (i := 1216) (by decide +kernel)⟩
theorem lw_p50 : lw_okq (⟨"RumourDeskModel", "looks", "(I)V"⟩, 50) := ⟨⟨by decide +kernel, by decide +kernel⟩, List.mem_of_getElem? (i := 828) (by decide +kernel), List.mem_of_getElem? (i := 1228) (by decide +kernel), List.mem_of_getElem? (i := 1229) (by decide +kernel)⟩
theorem lw_p51 : lw_okq (⟨"RumourDeskModel", "joins", "(I)V"⟩, 50) := ⟨⟨by decide +kernel, by decide +kernel⟩, List.mem_of_getElem? (i := 828) (by decide +kernel), List.mem_of_getElem? (i := 1236) (by decide +kernel), List.mem_of_getElem? (i := 1237) (by decide +kernel)⟩
theorem lw_p52 : lw_okq (⟨"RumourDeskModel", "couldBe", "(III)Z"⟩, 50) := ⟨⟨by decide +kernel, by decide +kernel⟩, List.mem_of_getElem? (i := 828) (by decide +kernel), List.mem_of_getElem? (i := 1260) (by decide +kernel), List.mem_of_getElem? (i := 1261) (by decide +kernel)⟩
theorem lw_p53 : lw_okq (⟨"RumourDeskModel", "agrees", "(III)Z"⟩, 50) := ⟨⟨by decide +kernel, by decide +kernel⟩, List.mem_of_getElem? (i := 828) (by decide +kernel), List.mem_of_getElem? (i := 1264) (by decide +kernel), List.mem_of_getElem? (i := 1265) (by decide +kernel)⟩
theorem lw_p54 : lw_okq (⟨"RumourDeskModel", "isHeard", "(II)Z"⟩, 50) := ⟨⟨by decide +kernel, by decide +kernel⟩, List.mem_of_getElem? (i := 828) (by decide +kernel), List.mem_of_getElem? (i := 1268) (by decide +kernel), List.mem_of_getElem? (i := 1269) (by decide +kernel)⟩
theorem lw_p55 : lw_okq (⟨"RumourDeskModel", "sumAt", "(I)I"⟩, 50) := ⟨⟨by decide +kernel, by decide +kernel⟩, List.mem_of_getElem? (i := 828) (by decide +kernel), List.mem_of_getElem? (i := 1280) (by decide +kernel), List.mem_of_getElem? (i := 1281) (by decide +kernel)⟩
theorem lw_p56 : lw_okq (⟨"RumourDeskModel", "finds", "(IIII)I"⟩, 50) := ⟨⟨by decide +kernel, by decide +kernel⟩, List.mem_of_getElem? (i := 828) (by decide +kernel), List.mem_of_getElem? (i := 1291) (by decide +kernel), List.mem_of_getElem? (i := 1292) (by decide +kernel)⟩
def lw_privs_4 : List (MethodName × Nat) := [(⟨"RumourDeskModel", "claim", "(I)Z"⟩, 50), (⟨"RumourDeskModel", "number", "(I)I"⟩, 50), (⟨"RumourDeskModel", "looks", "(I)V"⟩, 50), (⟨"RumourDeskModel", "joins", "(I)V"⟩, 50), (⟨"RumourDeskModel", "couldBe", "(III)Z"⟩, 50), (⟨"RumourDeskModel", "agrees", "(III)Z"⟩, 50), (⟨"RumourDeskModel", "isHeard", "(II)Z"⟩, 50), (⟨"RumourDeskModel", "sumAt", "(I)I"⟩, 50), (⟨"RumourDeskModel", "finds", "(IIII)I"⟩, 50)]
theorem lw_r4 : ∀ q ∈ lw_privs_4, lw_okq q := List.forall_mem_cons.mpr ⟨lw_p48, List.forall_mem_cons.mpr ⟨lw_p49, List.forall_mem_cons.mpr ⟨lw_p50, List.forall_mem_cons.mpr ⟨lw_p51, List.forall_mem_cons.mpr ⟨lw_p52, List.forall_mem_cons.mpr ⟨lw_p53, List.forall_mem_cons.mpr ⟨lw_p54, List.forall_mem_cons.mpr ⟨lw_p55, List.forall_mem_cons.mpr ⟨lw_p56, fun _ h => absurd h List.not_mem_nil⟩⟩⟩⟩⟩⟩⟩⟩⟩
def lw_privs : List (MethodName × Nat) := lw_privs_1 ++ (lw_privs_2 ++ (lw_privs_3 ++ (lw_privs_4)))
def lw_tbl : List Cond := k2_sels lw_privs ++ tables_1
theorem lw_privs_ok : ∀ q ∈ lw_privs, lw_okq q := by
  show ∀ q ∈ lw_privs_1 ++ (lw_privs_2 ++ (lw_privs_3 ++ (lw_privs_4))), lw_okq q
  exact List.forall_mem_append.mpr ⟨lw_r1, List.forall_mem_append.mpr ⟨lw_r2, List.forall_mem_append.mpr ⟨lw_r3, lw_r4⟩⟩⟩

/-! ===== BEGIN words of one list among another's, by their places ===== -/
theorem goodIn_r {big : List Cond} (ws : List Cond) (ps : List Nat) (hp : ws = ps.filterMap (fun i => big[i]?)) (h : ws.all goodWord = true) : GoodIn big ws := by
  intro w hw
  have h1 := List.all_eq_true.mp h w hw
  rw [hp] at hw
  obtain ⟨i, -, hi⟩ := List.mem_filterMap.mp hw
  have hm : w ∈ big := by first | exact List.mem_of_getElem? hi | exact List.getElem?_mem hi
  exact ⟨hm, good_of_word h1⟩
theorem goodIn_app {big a b : List Cond} (ha : GoodIn big a) (hb : GoodIn big b) : GoodIn big (a ++ b) := fun w h => (List.mem_append.mp h).elim (ha w) (hb w)
theorem goodIn_ca {big a b : List Cond} {c : Cond} (ha : GoodIn big (c :: a)) (hb : GoodIn big b) : GoodIn big (c :: (a ++ b)) := fun w h => (List.mem_cons.mp h).elim (fun e => ha w (List.mem_cons.mpr (Or.inl e))) (fun h => (List.mem_append.mp h).elim (fun h => ha w (List.mem_cons.mpr (Or.inr h))) (hb w))
theorem goodIn_sub {big ws : List Cond} (hm : ∀ w ∈ ws, w ∈ big) (h : ws.all goodWord = true) : GoodIn big ws := fun w hw => ⟨hm w hw, good_of_word (List.all_eq_true.mp h w hw)⟩
/-! ===== END ===== -/

/-! ===== BEGIN new T[n][m]: the outer array a place, the inner ones among the pooled ===== -/
/-- f, but v at every address of l -/
def vr_up {α : Type} (f : Nat → α) (l : List Nat) (v : α) : Nat → α := fun a => if a ∈ l then v else f a
theorem vr_up_in {α : Type} {f : Nat → α} {l : List Nat} {v : α} {a : Nat} (h : a ∈ l) : vr_up f l v a = v := if_pos h
theorem vr_up_ne {α : Type} {f : Nat → α} {l : List Nat} {v : α} {a : Nat} (h : a ∉ l) : vr_up f l v a = f a := if_neg h
theorem vr_rows {L l : List Nat} {f : Nat → va_E} {e : va_E} (h : ∀ a, a ∈ l → a ∉ L) : va_pl L f ++ l.map (fun a => (a, e)) = va_pl (L ++ l) (vr_up f l e) := by
  unfold va_pl
  rw [List.map_append]
  congr 1
  · apply List.map_congr_left
    intro a ha
    rw [vr_up_ne (fun q => h a q ha)]
  · apply List.map_congr_left
    intro a ha
    rw [vr_up_in ha]
theorem vr_lay {X rows : va_W} {x : Nat × va_E} {pl : va_W} {D : va_G} {cl : List vw_C} {H : Heap} (hP : va_P D cl (((X ++ pl) ++ [x]) ++ rows) H) : va_P D cl ((X ++ [x]) ++ (pl ++ rows)) H := by
  rw [List.append_assoc (X ++ pl)] at hP
  have h := va_P.swap hP
  rw [← List.append_assoc X] at h
  have h2 := va_P.swap h
  rw [List.append_assoc (X ++ [x])] at h2
  exact h2
theorem vr_layD {X rows : va_W} {x : Nat × va_E} {pl : va_W} {A : Nat → Prop} (hD : va_D A (((X ++ pl) ++ [x]) ++ rows)) : va_D A ((X ++ [x]) ++ (pl ++ rows)) := by
  rw [List.append_assoc (X ++ pl)] at hD
  have h := va_D.swap hD
  rw [← List.append_assoc X] at h
  have h2 := va_D.swap h
  rw [List.append_assoc (X ++ [x])] at h2
  exact h2
theorem vr_outer (c : ClassId) (N h0 : Nat) : ∀ i : Nat, Jvm.Free.Multi.outerC c N h0 i = arrV c N (fun j => va_rf (if j < i then some (h0 + 1 + j) else none))
  | 0 => by
    show ({ cls := c, slots := Array.replicate N .null, vm := .none } : Cell) = _
    rw [arrV_new]
    refine congrArg (arrV c N) (funext fun j => ?_)
    simp [va_rf]
  | i + 1 => by
    show (Jvm.Free.Multi.outerC c N h0 i).setSlot i (.ref (h0 + 1 + i)) = _
    rw [vr_outer c N h0 i, arrV_store]
    refine congrArg (arrV c N) (funext fun j => ?_)
    by_cases e : j = i
    · subst e
      simp [updV, va_rf]
    · by_cases h : j < i
      · simp [updV, e, h, Nat.lt_succ_of_lt h]
      · simp [updV, e, h, show ¬ j < i + 1 by omega]
/-! ===== END ===== -/
end
section
def RX0 : String := "RumourDesk$Guide"
def TX0 : u_T := fun k => match k with
  | 0 => ("RumourDesk$Guide", "acts", "[I", true)
  | 1 => ("RumourDesk$Guide", "clauses", "I", false)
  | 2 => ("RumourDesk$Guide", "days", "[I", true)
  | 3 => ("RumourDesk$Guide", "ends", "[I", true)
  | 4 => ("RumourDesk$Guide", "steps", "[I", true)
  | _ => ("RumourDesk$Guide", "size", "I", false)
def tyX0 : Nat → FieldType := fun k => match k with
  | 0 => .array .int
  | 1 => .int
  | 2 => .array .int
  | 3 => .array .int
  | 4 => .array .int
  | _ => .int
theorem nmX0 : ∀ a, a < 6 → ∀ b, b < 6 → a ≠ b → (TX0 a).2.1 ≠ (TX0 b).2.1 := by decide +kernel
theorem tyX0_ok : ∀ k, k < 6 → parseFieldDescriptor (TX0 k).2.2.1 = some (tyX0 k) := by decide +kernel
abbrev cX0_init : ByteArray := prog_2_method_1_code
def yX0_init : MethodName := ⟨RX0, "<init>", "()V"⟩
abbrev cX0_comparison : ByteArray := prog_2_method_2_code
def yX0_comparison : MethodName := ⟨RX0, "comparison", "(III)I"⟩
abbrev cX0_empty : ByteArray := prog_2_method_3_code
def yX0_empty : MethodName := ⟨RX0, "empty", "()V"⟩
abbrev cX0_add : ByteArray := prog_2_method_4_code
def yX0_add : MethodName := ⟨RX0, "add", "(I)V"⟩
abbrev cX0_endClause : ByteArray := prog_2_method_5_code
def yX0_endClause : MethodName := ⟨RX0, "endClause", "(II)V"⟩
abbrev cX0_lastThatHolds : ByteArray := prog_2_method_6_code
def yX0_lastThatHolds : MethodName := ⟨RX0, "lastThatHolds", "(II)I"⟩
abbrev cX0_holds : ByteArray := prog_2_method_7_code
def yX0_holds : MethodName := ⟨RX0, "holds", "(II)Z"⟩
abbrev cX0_compares : ByteArray := prog_2_method_8_code
def yX0_compares : MethodName := ⟨RX0, "compares", "(II)Z"⟩
def RX1 : String := "RumourDesk$Kin"
def TX1 : u_T := fun k => match k with
  | 0 => ("RumourDesk$Kin", "versions", "[I", true)
  | 1 => ("RumourDesk$Kin", "joinedTo", "[I", true)
  | 2 => ("RumourDesk$Kin", "size", "I", false)
  | _ => ("RumourDesk$Kin", "joined", "[Z", true)
def tyX1 : Nat → FieldType := fun k => match k with
  | 0 => .array .int
  | 1 => .array .int
  | 2 => .int
  | _ => .array .boolean
theorem nmX1 : ∀ a, a < 4 → ∀ b, b < 4 → a ≠ b → (TX1 a).2.1 ≠ (TX1 b).2.1 := by decide +kernel
theorem tyX1_ok : ∀ k, k < 4 → parseFieldDescriptor (TX1 k).2.2.1 = some (tyX1 k) := by decide +kernel
abbrev cX1_init : ByteArray := prog_3_method_1_code
def yX1_init : MethodName := ⟨RX1, "<init>", "()V"⟩
abbrev cX1_look : ByteArray := prog_3_method_2_code
def yX1_look : MethodName := ⟨RX1, "look", "(LRumourDesk$Spread;I)V"⟩
abbrev cX1_sortIn : ByteArray := prog_3_method_3_code
def yX1_sortIn : MethodName := ⟨RX1, "sortIn", "(I)V"⟩
abbrev cX1_join : ByteArray := prog_3_method_4_code
def yX1_join : MethodName := ⟨RX1, "join", "()I"⟩
abbrev cX1_joinNearest : ByteArray := prog_3_method_5_code
def yX1_joinNearest : MethodName := ⟨RX1, "joinNearest", "()I"⟩
def RX2 : String := "RumourDesk$Parts"
def TX2 : u_T := fun k => match k with
  | _ => ("", "", "", false)
def tyX2 : Nat → FieldType := fun k => match k with
  | _ => .int
theorem nmX2 : ∀ a, a < 0 → ∀ b, b < 0 → a ≠ b → (TX2 a).2.1 ≠ (TX2 b).2.1 := by decide +kernel
theorem tyX2_ok : ∀ k, k < 0 → parseFieldDescriptor (TX2 k).2.2.1 = some (tyX2 k) := by decide +kernel
abbrev cX2_together : ByteArray := prog_4_method_2_code
def yX2_together : MethodName := ⟨RX2, "together", "(IIII)I"⟩
abbrev cX2_at : ByteArray := prog_4_method_3_code
def yX2_at : MethodName := ⟨RX2, "at", "(II)I"⟩
abbrev cX2_with : ByteArray := prog_4_method_4_code
def yX2_with : MethodName := ⟨RX2, "with", "(III)I"⟩
abbrev cX2_asTold : ByteArray := prog_4_method_5_code
def yX2_asTold : MethodName := ⟨RX2, "asTold", "(II)I"⟩
abbrev cX2_distance : ByteArray := prog_4_method_6_code
def yX2_distance : MethodName := ⟨RX2, "distance", "(II)I"⟩
def RX3 : String := "RumourDesk$Posts"
def TX3 : u_T := fun k => match k with
  | _ => ("RumourDesk$Posts", "soonest", "[[I", true)
def tyX3 : Nat → FieldType := fun k => match k with
  | _ => .array (.array .int)
theorem nmX3 : ∀ a, a < 1 → ∀ b, b < 1 → a ≠ b → (TX3 a).2.1 ≠ (TX3 b).2.1 := by decide +kernel
theorem tyX3_ok : ∀ k, k < 1 → parseFieldDescriptor (TX3 k).2.2.1 = some (tyX3 k) := by decide +kernel
abbrev cX3_init : ByteArray := prog_5_method_1_code
def yX3_init : MethodName := ⟨RX3, "<init>", "()V"⟩
abbrev cX3_awaitSaying : ByteArray := prog_5_method_2_code
def yX3_awaitSaying : MethodName := ⟨RX3, "awaitSaying", "(I)V"⟩
abbrev cX3_hear : ByteArray := prog_5_method_3_code
def yX3_hear : MethodName := ⟨RX3, "hear", "(III)V"⟩
abbrev cX3_choose : ByteArray := prog_5_method_4_code
def yX3_choose : MethodName := ⟨RX3, "choose", "(II)I"⟩
abbrev cX3_sumOf : ByteArray := prog_5_method_5_code
def yX3_sumOf : MethodName := ⟨RX3, "sumOf", "(II)I"⟩
def RX4 : String := "RumourDesk$Reports"
def TX4 : u_T := fun k => match k with
  | 0 => ("RumourDesk$Reports", "size", "I", false)
  | 1 => ("RumourDesk$Reports", "last", "I", false)
  | 2 => ("RumourDesk$Reports", "loudAt", "[I", true)
  | _ => ("RumourDesk$Reports", "quietAt", "[I", true)
def tyX4 : Nat → FieldType := fun k => match k with
  | 0 => .int
  | 1 => .int
  | 2 => .array .int
  | _ => .array .int
theorem nmX4 : ∀ a, a < 4 → ∀ b, b < 4 → a ≠ b → (TX4 a).2.1 ≠ (TX4 b).2.1 := by decide +kernel
theorem tyX4_ok : ∀ k, k < 4 → parseFieldDescriptor (TX4 k).2.2.1 = some (tyX4 k) := by decide +kernel
abbrev cX4_init : ByteArray := prog_6_method_1_code
def yX4_init : MethodName := ⟨RX4, "<init>", "()V"⟩
abbrev cX4_take : ByteArray := prog_6_method_2_code
def yX4_take : MethodName := ⟨RX4, "take", "(IIZ)I"⟩
abbrev cX4_forget : ByteArray := prog_6_method_3_code
def yX4_forget : MethodName := ⟨RX4, "forget", "()I"⟩
abbrev cX4_agreeWith : ByteArray := prog_6_method_4_code
def yX4_agreeWith : MethodName := ⟨RX4, "agreeWith", "(II)Z"⟩
def RX5 : String := "RumourDesk$Saying"
def TX5 : u_T := fun k => match k with
  | 0 => ("RumourDesk$Saying", "spread", "LRumourDesk$Spread;", true)
  | 1 => ("RumourDesk$Saying", "kind", "I", false)
  | 2 => ("RumourDesk$Saying", "parts", "I", false)
  | 3 => ("RumourDesk$Saying", "of", "I", false)
  | 4 => ("RumourDesk$Saying", "hour", "I", false)
  | 5 => ("RumourDesk$Saying", "may", "Z", false)
  | _ => ("RumourDesk$Saying", "denials", "I", false)
def tyX5 : Nat → FieldType := fun k => match k with
  | 0 => .object "RumourDesk$Spread"
  | 1 => .int
  | 2 => .int
  | 3 => .int
  | 4 => .int
  | 5 => .boolean
  | _ => .int
theorem nmX5 : ∀ a, a < 7 → ∀ b, b < 7 → a ≠ b → (TX5 a).2.1 ≠ (TX5 b).2.1 := by decide +kernel
theorem tyX5_ok : ∀ k, k < 7 → parseFieldDescriptor (TX5 k).2.2.1 = some (tyX5 k) := by decide +kernel
abbrev cX5_init : ByteArray := prog_7_method_1_code
def yX5_init : MethodName := ⟨RX5, "<init>", "()V"⟩
abbrev cX5_isSecret : ByteArray := prog_7_method_2_code
def yX5_isSecret : MethodName := ⟨RX5, "isSecret", "()Z"⟩
def RX6 : String := "RumourDesk$Sheet"
def TX6 : u_T := fun k => match k with
  | 0 => ("RumourDesk$Sheet", "items", "[I", true)
  | 1 => ("RumourDesk$Sheet", "lane", "I", false)
  | _ => ("RumourDesk$Sheet", "length", "I", false)
def tyX6 : Nat → FieldType := fun k => match k with
  | 0 => .array .int
  | 1 => .int
  | _ => .int
theorem nmX6 : ∀ a, a < 3 → ∀ b, b < 3 → a ≠ b → (TX6 a).2.1 ≠ (TX6 b).2.1 := by decide +kernel
theorem tyX6_ok : ∀ k, k < 3 → parseFieldDescriptor (TX6 k).2.2.1 = some (tyX6 k) := by decide +kernel
abbrev cX6_init : ByteArray := prog_8_method_1_code
def yX6_init : MethodName := ⟨RX6, "<init>", "()V"⟩
abbrev cX6_isMissing : ByteArray := prog_8_method_2_code
def yX6_isMissing : MethodName := ⟨RX6, "isMissing", "()Z"⟩
abbrev cX6_hold : ByteArray := prog_8_method_3_code
def yX6_hold : MethodName := ⟨RX6, "hold", "(II)V"⟩
abbrev cX6_spans : ByteArray := prog_8_method_4_code
def yX6_spans : MethodName := ⟨RX6, "spans", "(II)Z"⟩
abbrev cX6_faultFor : ByteArray := prog_8_method_5_code
def yX6_faultFor : MethodName := ⟨RX6, "faultFor", "(III)I"⟩
abbrev cX6_asItem : ByteArray := prog_8_method_6_code
def yX6_asItem : MethodName := ⟨RX6, "asItem", "(II)I"⟩
def RX7 : String := "RumourDesk$Spread"
def TX7 : u_T := fun k => match k with
  | 0 => ("RumourDesk$Spread", "state", "[I", true)
  | 1 => ("RumourDesk$Spread", "since", "[I", true)
  | 2 => ("RumourDesk$Spread", "version", "[I", true)
  | 3 => ("RumourDesk$Spread", "by", "[I", true)
  | _ => ("RumourDesk$Spread", "latest", "[I", true)
def tyX7 : Nat → FieldType := fun k => match k with
  | 0 => .array .int
  | 1 => .array .int
  | 2 => .array .int
  | 3 => .array .int
  | _ => .array .int
theorem nmX7 : ∀ a, a < 5 → ∀ b, b < 5 → a ≠ b → (TX7 a).2.1 ≠ (TX7 b).2.1 := by decide +kernel
theorem tyX7_ok : ∀ k, k < 5 → parseFieldDescriptor (TX7 k).2.2.1 = some (tyX7 k) := by decide +kernel
abbrev cX7_init : ByteArray := prog_9_method_1_code
def yX7_init : MethodName := ⟨RX7, "<init>", "()V"⟩
abbrev cX7_empty : ByteArray := prog_9_method_2_code
def yX7_empty : MethodName := ⟨RX7, "empty", "()V"⟩
abbrev cX7_becomeLike : ByteArray := prog_9_method_3_code
def yX7_becomeLike : MethodName := ⟨RX7, "becomeLike", "(LRumourDesk$Spread;)V"⟩
abbrev cX7_turn : ByteArray := prog_9_method_4_code
def yX7_turn : MethodName := ⟨RX7, "turn", "(III)V"⟩
abbrev cX7_take : ByteArray := prog_9_method_5_code
def yX7_take : MethodName := ⟨RX7, "take", "(III)V"⟩
abbrev cX7_start : ByteArray := prog_9_method_6_code
def yX7_start : MethodName := ⟨RX7, "start", "(III)V"⟩
abbrev cX7_isNewTo : ByteArray := prog_9_method_7_code
def yX7_isNewTo : MethodName := ⟨RX7, "isNewTo", "(I)Z"⟩
def RX8 : String := "RumourDesk$Tape"
def TX8 : u_T := fun k => match k with
  | 0 => ("RumourDesk$Tape", "length", "I", false)
  | 1 => ("RumourDesk$Tape", "signs", "[C", true)
  | _ => ("RumourDesk$Tape", "at", "I", false)
def tyX8 : Nat → FieldType := fun k => match k with
  | 0 => .int
  | 1 => .array .char
  | _ => .int
theorem nmX8 : ∀ a, a < 3 → ∀ b, b < 3 → a ≠ b → (TX8 a).2.1 ≠ (TX8 b).2.1 := by decide +kernel
theorem tyX8_ok : ∀ k, k < 3 → parseFieldDescriptor (TX8 k).2.2.1 = some (tyX8 k) := by decide +kernel
abbrev cX8_init : ByteArray := prog_10_method_1_code
def yX8_init : MethodName := ⟨RX8, "<init>", "()V"⟩
abbrev cX8_append : ByteArray := prog_10_method_2_code
def yX8_append : MethodName := ⟨RX8, "append", "(C)V"⟩
abbrev cX8_readInto : ByteArray := prog_10_method_3_code
def yX8_readInto : MethodName := ⟨RX8, "readInto", "(LRumourDesk$Guide;)I"⟩
abbrev cX8_readClauses : ByteArray := prog_10_method_4_code
def yX8_readClauses : MethodName := ⟨RX8, "readClauses", "(LRumourDesk$Guide;)Z"⟩
abbrev cX8_readClause : ByteArray := prog_10_method_5_code
def yX8_readClause : MethodName := ⟨RX8, "readClause", "(LRumourDesk$Guide;)Z"⟩
abbrev cX8_readDay : ByteArray := prog_10_method_6_code
def yX8_readDay : MethodName := ⟨RX8, "readDay", "()I"⟩
abbrev cX8_readTest : ByteArray := prog_10_method_7_code
def yX8_readTest : MethodName := ⟨RX8, "readTest", "(LRumourDesk$Guide;I)Z"⟩
abbrev cX8_readCase : ByteArray := prog_10_method_8_code
def yX8_readCase : MethodName := ⟨RX8, "readCase", "(LRumourDesk$Guide;I)Z"⟩
abbrev cX8_readClaim : ByteArray := prog_10_method_9_code
def yX8_readClaim : MethodName := ⟨RX8, "readClaim", "(LRumourDesk$Guide;I)Z"⟩
abbrev cX8_readComparison : ByteArray := prog_10_method_10_code
def yX8_readComparison : MethodName := ⟨RX8, "readComparison", "(LRumourDesk$Guide;)Z"⟩
abbrev cX8_next : ByteArray := prog_10_method_11_code
def yX8_next : MethodName := ⟨RX8, "next", "()C"⟩
abbrev cX8_takes : ByteArray := prog_10_method_12_code
def yX8_takes : MethodName := ⟨RX8, "takes", "(C)Z"⟩
abbrev cX8_takesOneOf : ByteArray := prog_10_method_13_code
def yX8_takesOneOf : MethodName := ⟨RX8, "takesOneOf", "(Ljava/lang/String;)I"⟩
def RX9 : String := "RumourDesk$Town"
def TX9 : u_T := fun k => match k with
  | 0 => ("RumourDesk$Town", "traits", "[[I", true)
  | 1 => ("RumourDesk$Town", "weights", "[I", true)
  | 2 => ("RumourDesk$Town", "size", "I", false)
  | 3 => ("RumourDesk$Town", "places", "[[I", true)
  | _ => ("RumourDesk$Town", "loud", "[I", true)
def tyX9 : Nat → FieldType := fun k => match k with
  | 0 => .array (.array .int)
  | 1 => .array .int
  | 2 => .int
  | 3 => .array (.array .int)
  | _ => .array .int
theorem nmX9 : ∀ a, a < 5 → ∀ b, b < 5 → a ≠ b → (TX9 a).2.1 ≠ (TX9 b).2.1 := by decide +kernel
theorem tyX9_ok : ∀ k, k < 5 → parseFieldDescriptor (TX9 k).2.2.1 = some (tyX9 k) := by decide +kernel
abbrev cX9_init : ByteArray := prog_11_method_1_code
def yX9_init : MethodName := ⟨RX9, "<init>", "()V"⟩
abbrev cX9_mayBe : ByteArray := prog_11_method_2_code
def yX9_mayBe : MethodName := ⟨RX9, "mayBe", "(II)Z"⟩
abbrev cX9_settle : ByteArray := prog_11_method_3_code
def yX9_settle : MethodName := ⟨RX9, "settle", "(IIIII)I"⟩
abbrev cX9_placesAt : ByteArray := prog_11_method_4_code
def yX9_placesAt : MethodName := ⟨RX9, "placesAt", "(I)[I"⟩
abbrev cX9_passHours : ByteArray := prog_11_method_5_code
def yX9_passHours : MethodName := ⟨RX9, "passHours", "(LRumourDesk$Spread;II)V"⟩
abbrev cX9_passHour : ByteArray := prog_11_method_6_code
def yX9_passHour : MethodName := ⟨RX9, "passHour", "(LRumourDesk$Spread;I)I"⟩
abbrev cX9_listen : ByteArray := prog_11_method_7_code
def yX9_listen : MethodName := ⟨RX9, "listen", "(LRumourDesk$Spread;[I)I"⟩
abbrev cX9_hear : ByteArray := prog_11_method_8_code
def yX9_hear : MethodName := ⟨RX9, "hear", "(LRumourDesk$Spread;III)V"⟩
abbrev cX9_fade : ByteArray := prog_11_method_9_code
def yX9_fade : MethodName := ⟨RX9, "fade", "(LRumourDesk$Spread;II)V"⟩
abbrev cX9_leastOf : ByteArray := prog_11_method_10_code
def yX9_leastOf : MethodName := ⟨RX9, "leastOf", "(I)I"⟩
abbrev cX9_weightOf : ByteArray := prog_11_method_11_code
def yX9_weightOf : MethodName := ⟨RX9, "weightOf", "(I)I"⟩
abbrev cX9_harmOf : ByteArray := prog_11_method_12_code
def yX9_harmOf : MethodName := ⟨RX9, "harmOf", "(LRumourDesk$Spread;)I"⟩
abbrev cX9_print : ByteArray := prog_11_method_13_code
def yX9_print : MethodName := ⟨RX9, "print", "(LRumourDesk$Spread;III)I"⟩
abbrev cX9_readDenial : ByteArray := prog_11_method_14_code
def yX9_readDenial : MethodName := ⟨RX9, "readDenial", "(LRumourDesk$Spread;IIII)V"⟩
abbrev cX9_loseTrust : ByteArray := prog_11_method_15_code
def yX9_loseTrust : MethodName := ⟨RX9, "loseTrust", "(I)V"⟩
def RX10 : String := "RumourDesk"
def TX10 : u_T := fun k => match k with
  | 0 => ("RumourDesk", "town", "LRumourDesk$Town;", true)
  | 1 => ("RumourDesk", "sayings", "[LRumourDesk$Saying;", true)
  | 2 => ("RumourDesk", "trial", "LRumourDesk$Spread;", true)
  | 3 => ("RumourDesk", "tape", "LRumourDesk$Tape;", true)
  | 4 => ("RumourDesk", "family", "LRumourDesk$Kin;", true)
  | 5 => ("RumourDesk", "reports", "LRumourDesk$Reports;", true)
  | 6 => ("RumourDesk", "wardens", "LRumourDesk$Posts;", true)
  | 7 => ("RumourDesk", "sheets", "[LRumourDesk$Sheet;", true)
  | 8 => ("RumourDesk", "inForce", "LRumourDesk$Guide;", false)
  | 9 => ("RumourDesk", "draft", "LRumourDesk$Guide;", false)
  | 10 => ("RumourDesk", "sayingCount", "I", false)
  | _ => ("RumourDesk", "now", "I", false)
def tyX10 : Nat → FieldType := fun k => match k with
  | 0 => .object "RumourDesk$Town"
  | 1 => .array (.object "RumourDesk$Saying")
  | 2 => .object "RumourDesk$Spread"
  | 3 => .object "RumourDesk$Tape"
  | 4 => .object "RumourDesk$Kin"
  | 5 => .object "RumourDesk$Reports"
  | 6 => .object "RumourDesk$Posts"
  | 7 => .array (.object "RumourDesk$Sheet")
  | 8 => .object "RumourDesk$Guide"
  | 9 => .object "RumourDesk$Guide"
  | 10 => .int
  | _ => .int
theorem nmX10 : ∀ a, a < 12 → ∀ b, b < 12 → a ≠ b → (TX10 a).2.1 ≠ (TX10 b).2.1 := by decide +kernel
theorem tyX10_ok : ∀ k, k < 12 → parseFieldDescriptor (TX10 k).2.2.1 = some (tyX10 k) := by decide +kernel
abbrev cX10_init : ByteArray := prog_1_method_1_code
def yX10_init : MethodName := ⟨RX10, "<init>", "()V"⟩
abbrev cX10_person : ByteArray := prog_1_method_2_code
def yX10_person : MethodName := ⟨RX10, "person", "(IIIII)I"⟩
abbrev cX10_set : ByteArray := prog_1_method_3_code
def yX10_set : MethodName := ⟨RX10, "set", "(III)I"⟩
abbrev cX10_where : ByteArray := prog_1_method_4_code
def yX10_where : MethodName := ⟨RX10, "where", "(II)I"⟩
abbrev cX10_plain : ByteArray := prog_1_method_5_code
def yX10_plain : MethodName := ⟨RX10, "plain", "(IIII)I"⟩
abbrev cX10_changed : ByteArray := prog_1_method_6_code
def yX10_changed : MethodName := ⟨RX10, "changed", "(III)I"⟩
abbrev cX10_planted : ByteArray := prog_1_method_7_code
def yX10_planted : MethodName := ⟨RX10, "planted", "(II)I"⟩
abbrev cX10_real : ByteArray := prog_1_method_8_code
def yX10_real : MethodName := ⟨RX10, "real", "(IIIIZ)I"⟩
abbrev cX10_told : ByteArray := prog_1_method_9_code
def yX10_told : MethodName := ⟨RX10, "told", "(II)I"⟩
abbrev cX10_weight : ByteArray := prog_1_method_10_code
def yX10_weight : MethodName := ⟨RX10, "weight", "(II)I"⟩
abbrev cX10_begin : ByteArray := prog_1_method_11_code
def yX10_begin : MethodName := ⟨RX10, "begin", "(II)I"⟩
abbrev cX10_knows : ByteArray := prog_1_method_12_code
def yX10_knows : MethodName := ⟨RX10, "knows", "(III)I"⟩
abbrev cX10_count : ByteArray := prog_1_method_13_code
def yX10_count : MethodName := ⟨RX10, "count", "(I)I"⟩
abbrev cX10_hours : ByteArray := prog_1_method_14_code
def yX10_hours : MethodName := ⟨RX10, "hours", "(I)I"⟩
abbrev cX10_reach : ByteArray := prog_1_method_15_code
def yX10_reach : MethodName := ⟨RX10, "reach", "(II)I"⟩
abbrev cX10_harm : ByteArray := prog_1_method_16_code
def yX10_harm : MethodName := ⟨RX10, "harm", "(I)I"⟩
abbrev cX10_deny : ByteArray := prog_1_method_17_code
def yX10_deny : MethodName := ⟨RX10, "deny", "(II)I"⟩
abbrev cX10_found : ByteArray := prog_1_method_18_code
def yX10_found : MethodName := ⟨RX10, "found", "(I)I"⟩
abbrev cX10_foretold : ByteArray := prog_1_method_19_code
def yX10_foretold : MethodName := ⟨RX10, "foretold", "(I)I"⟩
abbrev cX10_wording : ByteArray := prog_1_method_20_code
def yX10_wording : MethodName := ⟨RX10, "wording", "(II)I"⟩
abbrev cX10_plan : ByteArray := prog_1_method_21_code
def yX10_plan : MethodName := ⟨RX10, "plan", "(II)I"⟩
abbrev cX10_type : ByteArray := prog_1_method_22_code
def yX10_type : MethodName := ⟨RX10, "type", "(JI)I"⟩
abbrev cX10_guide : ByteArray := prog_1_method_23_code
def yX10_guide : MethodName := ⟨RX10, "guide", "()I"⟩
abbrev cX10_why : ByteArray := prog_1_method_24_code
def yX10_why : MethodName := ⟨RX10, "why", "(II)I"⟩
abbrev cX10_versions : ByteArray := prog_1_method_25_code
def yX10_versions : MethodName := ⟨RX10, "versions", "(I)I"⟩
abbrev cX10_version : ByteArray := prog_1_method_26_code
def yX10_version : MethodName := ⟨RX10, "version", "(III)I"⟩
abbrev cX10_kin : ByteArray := prog_1_method_27_code
def yX10_kin : MethodName := ⟨RX10, "kin", "(I)I"⟩
abbrev cX10_report : ByteArray := prog_1_method_28_code
def yX10_report : MethodName := ⟨RX10, "report", "(IIZ)I"⟩
abbrev cX10_clear : ByteArray := prog_1_method_29_code
def yX10_clear : MethodName := ⟨RX10, "clear", "()I"⟩
abbrev cX10_could : ByteArray := prog_1_method_30_code
def yX10_could : MethodName := ⟨RX10, "could", "(III)I"⟩
abbrev cX10_first : ByteArray := prog_1_method_31_code
def yX10_first : MethodName := ⟨RX10, "first", "(I)I"⟩
abbrev cX10_posts : ByteArray := prog_1_method_32_code
def yX10_posts : MethodName := ⟨RX10, "posts", "(II)I"⟩
abbrev cX10_check : ByteArray := prog_1_method_33_code
def yX10_check : MethodName := ⟨RX10, "check", "(IIIII)I"⟩
abbrev cX10_sheet : ByteArray := prog_1_method_34_code
def yX10_sheet : MethodName := ⟨RX10, "sheet", "(III)I"⟩
abbrev cX10_drop : ByteArray := prog_1_method_35_code
def yX10_drop : MethodName := ⟨RX10, "drop", "(I)I"⟩
abbrev cX10_item : ByteArray := prog_1_method_36_code
def yX10_item : MethodName := ⟨RX10, "item", "(IIII)I"⟩
abbrev cX10_copy : ByteArray := prog_1_method_37_code
def yX10_copy : MethodName := ⟨RX10, "copy", "(IIIII)I"⟩
abbrev cX10_reads : ByteArray := prog_1_method_38_code
def yX10_reads : MethodName := ⟨RX10, "reads", "(II)I"⟩
abbrev cX10_within : ByteArray := prog_1_method_39_code
def yX10_within : MethodName := ⟨RX10, "within", "(II)Z"⟩
abbrev cX10_has : ByteArray := prog_1_method_40_code
def yX10_has : MethodName := ⟨RX10, "has", "(II)Z"⟩
abbrev cX10_byteOf : ByteArray := prog_1_method_41_code
def yX10_byteOf : MethodName := ⟨RX10, "byteOf", "(JI)I"⟩
abbrev cX10_areParts : ByteArray := prog_1_method_42_code
def yX10_areParts : MethodName := ⟨RX10, "areParts", "(IIII)Z"⟩
abbrev cX10_isSheet : ByteArray := prog_1_method_43_code
def yX10_isSheet : MethodName := ⟨RX10, "isSheet", "(I)Z"⟩
abbrev cX10_isPerson : ByteArray := prog_1_method_44_code
def yX10_isPerson : MethodName := ⟨RX10, "isPerson", "(I)Z"⟩
abbrev cX10_isSaying : ByteArray := prog_1_method_45_code
def yX10_isSaying : MethodName := ⟨RX10, "isSaying", "(I)Z"⟩
abbrev cX10_comeUp : ByteArray := prog_1_method_46_code
def yX10_comeUp : MethodName := ⟨RX10, "comeUp", "(II)I"⟩
abbrev cX10_harmAhead : ByteArray := prog_1_method_47_code
def yX10_harmAhead : MethodName := ⟨RX10, "harmAhead", "(III)I"⟩
abbrev cX10_agreesAtSomeHour : ByteArray := prog_1_method_48_code
def yX10_agreesAtSomeHour : MethodName := ⟨RX10, "agreesAtSomeHour", "(II)Z"⟩
abbrev cX10_agrees : ByteArray := prog_1_method_49_code
def yX10_agrees : MethodName := ⟨RX10, "agrees", "(III)Z"⟩
def RX11 : String := "RumourDeskModel"
def TX11 : u_T := fun k => match k with
  | 0 => ("RumourDeskModel", "persons", "I", false)
  | 1 => ("RumourDeskModel", "places", "[I", true)
  | 2 => ("RumourDeskModel", "marks", "[I", true)
  | 3 => ("RumourDeskModel", "now", "I", false)
  | 4 => ("RumourDeskModel", "sayings", "I", false)
  | 5 => ("RumourDeskModel", "kinds", "[I", true)
  | 6 => ("RumourDeskModel", "parts", "[I", true)
  | 7 => ("RumourDeskModel", "ofs", "[I", true)
  | 8 => ("RumourDeskModel", "fromHours", "[I", true)
  | 9 => ("RumourDeskModel", "mays", "[Z", true)
  | 10 => ("RumourDeskModel", "denials", "[I", true)
  | 11 => ("RumourDeskModel", "weights", "[I", true)
  | 12 => ("RumourDeskModel", "states", "[I", true)
  | 13 => ("RumourDeskModel", "sinces", "[I", true)
  | 14 => ("RumourDeskModel", "owns", "[I", true)
  | 15 => ("RumourDeskModel", "bys", "[I", true)
  | 16 => ("RumourDeskModel", "lasts", "[I", true)
  | 17 => ("RumourDeskModel", "loud", "[Z", true)
  | 18 => ("RumourDeskModel", "changes", "[I", true)
  | 19 => ("RumourDeskModel", "at", "[I", true)
  | 20 => ("RumourDeskModel", "kept", "[I", true)
  | 21 => ("RumourDeskModel", "keptDenials", "[I", true)
  | 22 => ("RumourDeskModel", "keptNow", "I", false)
  | 23 => ("RumourDeskModel", "tape", "[I", true)
  | 24 => ("RumourDeskModel", "taped", "I", false)
  | 25 => ("RumourDeskModel", "text", "[I", true)
  | 26 => ("RumourDeskModel", "textMany", "I", false)
  | 27 => ("RumourDeskModel", "guideText", "[I", true)
  | 28 => ("RumourDeskModel", "guideMany", "I", false)
  | 29 => ("RumourDeskModel", "clauses", "I", false)
  | 30 => ("RumourDeskModel", "here", "I", false)
  | 31 => ("RumourDeskModel", "wrong", "Z", false)
  | 32 => ("RumourDeskModel", "ors", "[Z", true)
  | 33 => ("RumourDeskModel", "ands", "[Z", true)
  | 34 => ("RumourDeskModel", "nots", "[Z", true)
  | 35 => ("RumourDeskModel", "readAct", "I", false)
  | 36 => ("RumourDeskModel", "readDay", "I", false)
  | 37 => ("RumourDeskModel", "unlike", "[I", true)
  | 38 => ("RumourDeskModel", "unlikeMany", "I", false)
  | 39 => ("RumourDeskModel", "joined", "[I", true)
  | 40 => ("RumourDeskModel", "joinedSum", "I", false)
  | 41 => ("RumourDeskModel", "reports", "I", false)
  | 42 => ("RumourDeskModel", "reportPlace", "[I", true)
  | 43 => ("RumourDeskModel", "reportHour", "[I", true)
  | 44 => ("RumourDeskModel", "isTold", "[Z", true)
  | 45 => ("RumourDeskModel", "heard", "[I", true)
  | 46 => ("RumourDeskModel", "lanes", "[I", true)
  | 47 => ("RumourDeskModel", "sizes", "[I", true)
  | 48 => ("RumourDeskModel", "items", "[I", true)
  | _ => ("RumourDeskModel", "moved", "[I", true)
def tyX11 : Nat → FieldType := fun k => match k with
  | 0 => .int
  | 1 => .array .int
  | 2 => .array .int
  | 3 => .int
  | 4 => .int
  | 5 => .array .int
  | 6 => .array .int
  | 7 => .array .int
  | 8 => .array .int
  | 9 => .array .boolean
  | 10 => .array .int
  | 11 => .array .int
  | 12 => .array .int
  | 13 => .array .int
  | 14 => .array .int
  | 15 => .array .int
  | 16 => .array .int
  | 17 => .array .boolean
  | 18 => .array .int
  | 19 => .array .int
  | 20 => .array .int
  | 21 => .array .int
  | 22 => .int
  | 23 => .array .int
  | 24 => .int
  | 25 => .array .int
  | 26 => .int
  | 27 => .array .int
  | 28 => .int
  | 29 => .int
  | 30 => .int
  | 31 => .boolean
  | 32 => .array .boolean
  | 33 => .array .boolean
  | 34 => .array .boolean
  | 35 => .int
  | 36 => .int
  | 37 => .array .int
  | 38 => .int
  | 39 => .array .int
  | 40 => .int
  | 41 => .int
  | 42 => .array .int
  | 43 => .array .int
  | 44 => .array .boolean
  | 45 => .array .int
  | 46 => .array .int
  | 47 => .array .int
  | 48 => .array .int
  | _ => .array .int
theorem nmX11 : ∀ a, a < 50 → ∀ b, b < 50 → a ≠ b → (TX11 a).2.1 ≠ (TX11 b).2.1 := by decide +kernel
theorem tyX11_ok : ∀ k, k < 50 → parseFieldDescriptor (TX11 k).2.2.1 = some (tyX11 k) := by decide +kernel
abbrev cX11_in : ByteArray := prog_13_method_2_code
def yX11_in : MethodName := ⟨RX11, "in", "(JJJ)Z"⟩
abbrev cX11_init : ByteArray := prog_13_method_3_code
def yX11_init : MethodName := ⟨RX11, "<init>", "()V"⟩
abbrev cX11_isPerson : ByteArray := prog_13_method_4_code
def yX11_isPerson : MethodName := ⟨RX11, "isPerson", "(I)Z"⟩
abbrev cX11_isPlace : ByteArray := prog_13_method_5_code
def yX11_isPlace : MethodName := ⟨RX11, "isPlace", "(I)Z"⟩
abbrev cX11_most : ByteArray := prog_13_method_6_code
def yX11_most : MethodName := ⟨RX11, "most", "(I)I"⟩
abbrev cX11_person : ByteArray := prog_13_method_7_code
def yX11_person : MethodName := ⟨RX11, "person", "(IIIII)I"⟩
abbrev cX11_set : ByteArray := prog_13_method_8_code
def yX11_set : MethodName := ⟨RX11, "set", "(III)I"⟩
abbrev cX11_placeOf : ByteArray := prog_13_method_9_code
def yX11_placeOf : MethodName := ⟨RX11, "placeOf", "(II)I"⟩
abbrev cX11_where : ByteArray := prog_13_method_10_code
def yX11_where : MethodName := ⟨RX11, "where", "(II)I"⟩
abbrev cX11_trust : ByteArray := prog_13_method_11_code
def yX11_trust : MethodName := ⟨RX11, "trust", "(I)I"⟩
abbrev cX11_isReader : ByteArray := prog_13_method_12_code
def yX11_isReader : MethodName := ⟨RX11, "isReader", "(I)Z"⟩
abbrev cX11_fear : ByteArray := prog_13_method_13_code
def yX11_fear : MethodName := ⟨RX11, "fear", "(I)I"⟩
abbrev cX11_isSaying : ByteArray := prog_13_method_14_code
def yX11_isSaying : MethodName := ⟨RX11, "isSaying", "(I)Z"⟩
abbrev cX11_isDigit : ByteArray := prog_13_method_15_code
def yX11_isDigit : MethodName := ⟨RX11, "isDigit", "(I)Z"⟩
abbrev cX11_unit : ByteArray := prog_13_method_16_code
def yX11_unit : MethodName := ⟨RX11, "unit", "(I)I"⟩
abbrev cX11_partOf : ByteArray := prog_13_method_17_code
def yX11_partOf : MethodName := ⟨RX11, "partOf", "(II)I"⟩
abbrev cX11_comes : ByteArray := prog_13_method_18_code
def yX11_comes : MethodName := ⟨RX11, "comes", "(IIIIZ)I"⟩
abbrev cX11_areParts : ByteArray := prog_13_method_19_code
def yX11_areParts : MethodName := ⟨RX11, "areParts", "(IIII)Z"⟩
abbrev cX11_plain : ByteArray := prog_13_method_20_code
def yX11_plain : MethodName := ⟨RX11, "plain", "(IIII)I"⟩
abbrev cX11_changed : ByteArray := prog_13_method_21_code
def yX11_changed : MethodName := ⟨RX11, "changed", "(III)I"⟩
abbrev cX11_planted : ByteArray := prog_13_method_22_code
def yX11_planted : MethodName := ⟨RX11, "planted", "(II)I"⟩
abbrev cX11_real : ByteArray := prog_13_method_23_code
def yX11_real : MethodName := ⟨RX11, "real", "(IIIIZ)I"⟩
abbrev cX11_told : ByteArray := prog_13_method_24_code
def yX11_told : MethodName := ⟨RX11, "told", "(II)I"⟩
abbrev cX11_weight : ByteArray := prog_13_method_25_code
def yX11_weight : MethodName := ⟨RX11, "weight", "(II)I"⟩
abbrev cX11_takes : ByteArray := prog_13_method_26_code
def yX11_takes : MethodName := ⟨RX11, "takes", "(IIII)V"⟩
abbrev cX11_becomes : ByteArray := prog_13_method_27_code
def yX11_becomes : MethodName := ⟨RX11, "becomes", "(II)V"⟩
abbrev cX11_begin : ByteArray := prog_13_method_28_code
def yX11_begin : MethodName := ⟨RX11, "begin", "(II)I"⟩
abbrev cX11_knows : ByteArray := prog_13_method_29_code
def yX11_knows : MethodName := ⟨RX11, "knows", "(III)I"⟩
abbrev cX11_count : ByteArray := prog_13_method_30_code
def yX11_count : MethodName := ⟨RX11, "count", "(I)I"⟩
abbrev cX11_isLoud : ByteArray := prog_13_method_31_code
def yX11_isLoud : MethodName := ⟨RX11, "isLoud", "(II)Z"⟩
abbrev cX11_hears : ByteArray := prog_13_method_32_code
def yX11_hears : MethodName := ⟨RX11, "hears", "(IIII)V"⟩
abbrev cX11_hourOf : ByteArray := prog_13_method_33_code
def yX11_hourOf : MethodName := ⟨RX11, "hourOf", "(I)V"⟩
abbrev cX11_hour : ByteArray := prog_13_method_34_code
def yX11_hour : MethodName := ⟨RX11, "hour", "()V"⟩
abbrev cX11_hours : ByteArray := prog_13_method_35_code
def yX11_hours : MethodName := ⟨RX11, "hours", "(I)I"⟩
abbrev cX11_stateMany : ByteArray := prog_13_method_36_code
def yX11_stateMany : MethodName := ⟨RX11, "stateMany", "(II)I"⟩
abbrev cX11_reach : ByteArray := prog_13_method_37_code
def yX11_reach : MethodName := ⟨RX11, "reach", "(II)I"⟩
abbrev cX11_harmOf : ByteArray := prog_13_method_38_code
def yX11_harmOf : MethodName := ⟨RX11, "harmOf", "(I)I"⟩
abbrev cX11_harm : ByteArray := prog_13_method_39_code
def yX11_harm : MethodName := ⟨RX11, "harm", "(I)I"⟩
abbrev cX11_denies : ByteArray := prog_13_method_40_code
def yX11_denies : MethodName := ⟨RX11, "denies", "(II)I"⟩
abbrev cX11_mayBeDenied : ByteArray := prog_13_method_41_code
def yX11_mayBeDenied : MethodName := ⟨RX11, "mayBeDenied", "(I)Z"⟩
abbrev cX11_deny : ByteArray := prog_13_method_42_code
def yX11_deny : MethodName := ⟨RX11, "deny", "(II)I"⟩
abbrev cX11_found : ByteArray := prog_13_method_43_code
def yX11_found : MethodName := ⟨RX11, "found", "(I)I"⟩
abbrev cX11_keeps : ByteArray := prog_13_method_44_code
def yX11_keeps : MethodName := ⟨RX11, "keeps", "()V"⟩
abbrev cX11_returns : ByteArray := prog_13_method_45_code
def yX11_returns : MethodName := ⟨RX11, "returns", "()V"⟩
abbrev cX11_harmBy : ByteArray := prog_13_method_46_code
def yX11_harmBy : MethodName := ⟨RX11, "harmBy", "(III)I"⟩
abbrev cX11_foretold : ByteArray := prog_13_method_47_code
def yX11_foretold : MethodName := ⟨RX11, "foretold", "(I)I"⟩
abbrev cX11_wording : ByteArray := prog_13_method_48_code
def yX11_wording : MethodName := ⟨RX11, "wording", "(II)I"⟩
abbrev cX11_size : ByteArray := prog_13_method_49_code
def yX11_size : MethodName := ⟨RX11, "size", "(I)I"⟩
abbrev cX11_plan : ByteArray := prog_13_method_50_code
def yX11_plan : MethodName := ⟨RX11, "plan", "(II)I"⟩
abbrev cX11_type : ByteArray := prog_13_method_51_code
def yX11_type : MethodName := ⟨RX11, "type", "(JI)I"⟩
abbrev cX11_next : ByteArray := prog_13_method_52_code
def yX11_next : MethodName := ⟨RX11, "next", "()I"⟩
abbrev cX11_passes : ByteArray := prog_13_method_53_code
def yX11_passes : MethodName := ⟨RX11, "passes", "(I)Z"⟩
abbrev cX11_claim : ByteArray := prog_13_method_54_code
def yX11_claim : MethodName := ⟨RX11, "claim", "(I)Z"⟩
abbrev cX11_test : ByteArray := prog_13_method_55_code
def yX11_test : MethodName := ⟨RX11, "test", "(I)Z"⟩
abbrev cX11_number : ByteArray := prog_13_method_56_code
def yX11_number : MethodName := ⟨RX11, "number", "(I)I"⟩
abbrev cX11_clause : ByteArray := prog_13_method_57_code
def yX11_clause : MethodName := ⟨RX11, "clause", "(I)Z"⟩
abbrev cX11_guide : ByteArray := prog_13_method_58_code
def yX11_guide : MethodName := ⟨RX11, "guide", "()I"⟩
abbrev cX11_why : ByteArray := prog_13_method_59_code
def yX11_why : MethodName := ⟨RX11, "why", "(II)I"⟩
abbrev cX11_looks : ByteArray := prog_13_method_60_code
def yX11_looks : MethodName := ⟨RX11, "looks", "(I)V"⟩
abbrev cX11_far : ByteArray := prog_13_method_61_code
def yX11_far : MethodName := ⟨RX11, "far", "(II)I"⟩
abbrev cX11_joins : ByteArray := prog_13_method_62_code
def yX11_joins : MethodName := ⟨RX11, "joins", "(I)V"⟩
abbrev cX11_versions : ByteArray := prog_13_method_63_code
def yX11_versions : MethodName := ⟨RX11, "versions", "(I)I"⟩
abbrev cX11_version : ByteArray := prog_13_method_64_code
def yX11_version : MethodName := ⟨RX11, "version", "(III)I"⟩
abbrev cX11_kin : ByteArray := prog_13_method_65_code
def yX11_kin : MethodName := ⟨RX11, "kin", "(I)I"⟩
abbrev cX11_report : ByteArray := prog_13_method_66_code
def yX11_report : MethodName := ⟨RX11, "report", "(IIZ)I"⟩
abbrev cX11_clear : ByteArray := prog_13_method_67_code
def yX11_clear : MethodName := ⟨RX11, "clear", "()I"⟩
abbrev cX11_isHeard : ByteArray := prog_13_method_68_code
def yX11_isHeard : MethodName := ⟨RX11, "isHeard", "(II)Z"⟩
abbrev cX11_agrees : ByteArray := prog_13_method_69_code
def yX11_agrees : MethodName := ⟨RX11, "agrees", "(III)Z"⟩
abbrev cX11_couldBe : ByteArray := prog_13_method_70_code
def yX11_couldBe : MethodName := ⟨RX11, "couldBe", "(III)Z"⟩
abbrev cX11_could : ByteArray := prog_13_method_71_code
def yX11_could : MethodName := ⟨RX11, "could", "(III)I"⟩
abbrev cX11_first : ByteArray := prog_13_method_72_code
def yX11_first : MethodName := ⟨RX11, "first", "(I)I"⟩
abbrev cX11_sumAt : ByteArray := prog_13_method_73_code
def yX11_sumAt : MethodName := ⟨RX11, "sumAt", "(I)I"⟩
abbrev cX11_posts : ByteArray := prog_13_method_74_code
def yX11_posts : MethodName := ⟨RX11, "posts", "(II)I"⟩
abbrev cX11_check : ByteArray := prog_13_method_75_code
def yX11_check : MethodName := ⟨RX11, "check", "(IIIII)I"⟩
abbrev cX11_isSheet : ByteArray := prog_13_method_76_code
def yX11_isSheet : MethodName := ⟨RX11, "isSheet", "(I)Z"⟩
abbrev cX11_isLane : ByteArray := prog_13_method_77_code
def yX11_isLane : MethodName := ⟨RX11, "isLane", "(I)Z"⟩
abbrev cX11_finds : ByteArray := prog_13_method_78_code
def yX11_finds : MethodName := ⟨RX11, "finds", "(IIII)I"⟩
abbrev cX11_sheet : ByteArray := prog_13_method_79_code
def yX11_sheet : MethodName := ⟨RX11, "sheet", "(III)I"⟩
abbrev cX11_drop : ByteArray := prog_13_method_80_code
def yX11_drop : MethodName := ⟨RX11, "drop", "(I)I"⟩
abbrev cX11_item : ByteArray := prog_13_method_81_code
def yX11_item : MethodName := ⟨RX11, "item", "(IIII)I"⟩
abbrev cX11_copy : ByteArray := prog_13_method_82_code
def yX11_copy : MethodName := ⟨RX11, "copy", "(IIIII)I"⟩
abbrev cX11_reads : ByteArray := prog_13_method_83_code
def yX11_reads : MethodName := ⟨RX11, "reads", "(II)I"⟩
def RJ11 : String := "java/lang/Character"
def TJ11 : u_T := fun k => match k with
  | _ => ("", "", "", false)
def tyJ11 : Nat → FieldType := fun k => match k with
  | _ => .int
theorem nmJ11 : ∀ a, a < 0 → ∀ b, b < 0 → a ≠ b → (TJ11 a).2.1 ≠ (TJ11 b).2.1 := by decide +kernel
theorem tyJ11_ok : ∀ k, k < 0 → parseFieldDescriptor (TJ11 k).2.2.1 = some (tyJ11 k) := by decide +kernel
abbrev cJ11_isValidCodePoint_9a6ad : ByteArray := prog_14_method_11_code
def yJ11_isValidCodePoint_9a6ad : MethodName := ⟨RJ11, "isValidCodePoint", "(I)Z"⟩
abbrev cJ11_highSurrogate_5068e : ByteArray := prog_14_method_28_code
def yJ11_highSurrogate_5068e : MethodName := ⟨RJ11, "highSurrogate", "(I)C"⟩
abbrev cJ11_lowSurrogate_5068e : ByteArray := prog_14_method_29_code
def yJ11_lowSurrogate_5068e : MethodName := ⟨RJ11, "lowSurrogate", "(I)C"⟩
def RJ6 : String := "java/lang/Integer"
def TJ6 : u_T := fun k => match k with
  | _ => ("", "", "", false)
def tyJ6 : Nat → FieldType := fun k => match k with
  | _ => .int
theorem nmJ6 : ∀ a, a < 0 → ∀ b, b < 0 → a ≠ b → (TJ6 a).2.1 ≠ (TJ6 b).2.1 := by decide +kernel
theorem tyJ6_ok : ∀ k, k < 0 → parseFieldDescriptor (TJ6 k).2.2.1 = some (tyJ6 k) := by decide +kernel
abbrev cJ6_bitCount_0f7a4 : ByteArray := prog_15_method_49_code
def yJ6_bitCount_0f7a4 : MethodName := ⟨RJ6, "bitCount", "(I)I"⟩
def RJ9 : String := "java/lang/Math"
def TJ9 : u_T := fun k => match k with
  | _ => ("", "", "", false)
def tyJ9 : Nat → FieldType := fun k => match k with
  | _ => .int
theorem nmJ9 : ∀ a, a < 0 → ∀ b, b < 0 → a ≠ b → (TJ9 a).2.1 ≠ (TJ9 b).2.1 := by decide +kernel
theorem tyJ9_ok : ∀ k, k < 0 → parseFieldDescriptor (TJ9 k).2.2.1 = some (tyJ9 k) := by decide +kernel
abbrev cJ9_max_7cf53 : ByteArray := prog_16_method_65_code
def yJ9_max_7cf53 : MethodName := ⟨RJ9, "max", "(II)I"⟩
abbrev cJ9_min_7cf53 : ByteArray := prog_16_method_69_code
def yJ9_min_7cf53 : MethodName := ⟨RJ9, "min", "(II)I"⟩
def RJ0 : String := "java/lang/String"
def TJ0 : u_T := fun k => match k with
  | _ => ("", "", "", false)
def tyJ0 : Nat → FieldType := fun k => match k with
  | _ => .int
theorem nmJ0 : ∀ a, a < 0 → ∀ b, b < 0 → a ≠ b → (TJ0 a).2.1 ≠ (TJ0 b).2.1 := by decide +kernel
theorem tyJ0_ok : ∀ k, k < 0 → parseFieldDescriptor (TJ0 k).2.2.1 = some (tyJ0 k) := by decide +kernel
abbrev cJ0_length_8abf5 : ByteArray := prog_17_method_54_code
def yJ0_length_8abf5 : MethodName := ⟨RJ0, "length", "()I"⟩
abbrev cJ0_indexOf_0f7a4 : ByteArray := prog_17_method_79_code
def yJ0_indexOf_0f7a4 : MethodName := ⟨RJ0, "indexOf", "(I)I"⟩
abbrev cJ0_indexOf_7cf53 : ByteArray := prog_17_method_80_code
def yJ0_indexOf_7cf53 : MethodName := ⟨RJ0, "indexOf", "(II)I"⟩
abbrev cJ0_coder_7d493 : ByteArray := prog_17_method_152_code
def yJ0_coder_7d493 : MethodName := ⟨RJ0, "coder", "()B"⟩
abbrev cJ0_isLatin1_aae02 : ByteArray := prog_17_method_154_code
def yJ0_isLatin1_aae02 : MethodName := ⟨RJ0, "isLatin1", "()Z"⟩
abbrev cJ0_checkBoundsBeginEnd_23922 : ByteArray := prog_17_method_158_code
def yJ0_checkBoundsBeginEnd_23922 : MethodName := ⟨RJ0, "checkBoundsBeginEnd", "(III)V"⟩
def RJ1 : String := "java/lang/StringLatin1"
def TJ1 : u_T := fun k => match k with
  | _ => ("", "", "", false)
def tyJ1 : Nat → FieldType := fun k => match k with
  | _ => .int
theorem nmJ1 : ∀ a, a < 0 → ∀ b, b < 0 → a ≠ b → (TJ1 a).2.1 ≠ (TJ1 b).2.1 := by decide +kernel
theorem tyJ1_ok : ∀ k, k < 0 → parseFieldDescriptor (TJ1 k).2.2.1 = some (tyJ1 k) := by decide +kernel
abbrev cJ1_canEncode_9a6ad : ByteArray := prog_18_method_4_code
def yJ1_canEncode_9a6ad : MethodName := ⟨RJ1, "canEncode", "(I)Z"⟩
abbrev cJ1_indexOf_4cfef : ByteArray := prog_18_method_22_code
def yJ1_indexOf_4cfef : MethodName := ⟨RJ1, "indexOf", "([BIII)I"⟩
abbrev cJ1_indexOfChar_4cfef : ByteArray := prog_18_method_23_code
def yJ1_indexOfChar_4cfef : MethodName := ⟨RJ1, "indexOfChar", "([BIII)I"⟩
def RJ2 : String := "java/lang/StringUTF16"
def TJ2 : u_T := fun k => match k with
  | _ => ("", "", "", false)
def tyJ2 : Nat → FieldType := fun k => match k with
  | _ => .int
theorem nmJ2 : ∀ a, a < 0 → ∀ b, b < 0 → a ≠ b → (TJ2 a).2.1 ≠ (TJ2 b).2.1 := by decide +kernel
theorem tyJ2_ok : ∀ k, k < 0 → parseFieldDescriptor (TJ2 k).2.2.1 = some (tyJ2 k) := by decide +kernel
abbrev cJ2_getChar_3b067 : ByteArray := prog_19_method_5_code
def yJ2_getChar_3b067 : MethodName := ⟨RJ2, "getChar", "([BI)C"⟩
abbrev cJ2_length_9d52b : ByteArray := prog_19_method_6_code
def yJ2_length_9d52b : MethodName := ⟨RJ2, "length", "([B)I"⟩
abbrev cJ2_indexOf_4cfef : ByteArray := prog_19_method_40_code
def yJ2_indexOf_4cfef : MethodName := ⟨RJ2, "indexOf", "([BIII)I"⟩
abbrev cJ2_indexOfChar_4cfef : ByteArray := prog_19_method_47_code
def yJ2_indexOfChar_4cfef : MethodName := ⟨RJ2, "indexOfChar", "([BIII)I"⟩
abbrev cJ2_indexOfCharUnsafe_4cfef : ByteArray := prog_19_method_48_code
def yJ2_indexOfCharUnsafe_4cfef : MethodName := ⟨RJ2, "indexOfCharUnsafe", "([BIII)I"⟩
abbrev cJ2_indexOfSupplementary_4cfef : ByteArray := prog_19_method_49_code
def yJ2_indexOfSupplementary_4cfef : MethodName := ⟨RJ2, "indexOfSupplementary", "([BIII)I"⟩
abbrev cJ2_checkBoundsBeginEnd_d044e : ByteArray := prog_19_method_93_code
def yJ2_checkBoundsBeginEnd_d044e : MethodName := ⟨RJ2, "checkBoundsBeginEnd", "(II[B)V"⟩
def RJ10 : String := "java/lang/System"
def TJ10 : u_T := fun k => match k with
  | _ => ("", "", "", false)
def tyJ10 : Nat → FieldType := fun k => match k with
  | _ => .int
theorem nmJ10 : ∀ a, a < 0 → ∀ b, b < 0 → a ≠ b → (TJ10 a).2.1 ≠ (TJ10 b).2.1 := by decide +kernel
theorem tyJ10_ok : ∀ k, k < 0 → parseFieldDescriptor (TJ10 k).2.2.1 = some (tyJ10 k) := by decide +kernel
def RJ3 : String := "jdk/internal/util/Preconditions"
def TJ3 : u_T := fun k => match k with
  | _ => ("", "", "", false)
def tyJ3 : Nat → FieldType := fun k => match k with
  | _ => .int
theorem nmJ3 : ∀ a, a < 0 → ∀ b, b < 0 → a ≠ b → (TJ3 a).2.1 ≠ (TJ3 b).2.1 := by decide +kernel
theorem tyJ3_ok : ∀ k, k < 0 → parseFieldDescriptor (TJ3 k).2.2.1 = some (tyJ3 k) := by decide +kernel
abbrev cJ3_checkFromToIndex_8c36e : ByteArray := prog_21_method_12_code
def yJ3_checkFromToIndex_8c36e : MethodName := ⟨RJ3, "checkFromToIndex", "(IIILjava/util/function/BiFunction;)I"⟩
def RL : String := "RumourDeskLaw"
abbrev cL_law : ByteArray := code
def yL_law : MethodName := ⟨RL, "law", "([I)Z"⟩
abbrev vwCl : List vw_C := [(RX0, TX0, 6), (RX1, TX1, 4), (RX3, TX3, 1), (RX4, TX4, 4), (RX5, TX5, 7), (RX6, TX6, 3), (RX7, TX7, 5), (RX8, TX8, 3), (RX9, TX9, 5), (RX10, TX10, 12), (RX11, TX11, 50)]
end
section
theorem dX0_init_0 : decode cX0_init 0 = .ok (.aload_n 0, 1) := by decide +kernel
theorem dX0_init_1 : decode cX0_init 1 = .ok (.invokespecial 3, 3) := by decide +kernel
theorem dX0_init_4 : decode cX0_init 4 = .ok (.aload_n 0, 1) := by decide +kernel
theorem dX0_init_5 : decode cX0_init 5 = .ok (.bipush 6, 2) := by decide +kernel
theorem dX0_init_7 : decode cX0_init 7 = .ok (.newarray .int, 2) := by decide +kernel
theorem dX0_init_9 : decode cX0_init 9 = .ok (.putfield 11, 3) := by decide +kernel
theorem dX0_init_12 : decode cX0_init 12 = .ok (.aload_n 0, 1) := by decide +kernel
theorem dX0_init_13 : decode cX0_init 13 = .ok (.bipush 6, 2) := by decide +kernel
theorem dX0_init_15 : decode cX0_init 15 = .ok (.newarray .int, 2) := by decide +kernel
theorem dX0_init_17 : decode cX0_init 17 = .ok (.putfield 15, 3) := by decide +kernel
theorem dX0_init_20 : decode cX0_init 20 = .ok (.aload_n 0, 1) := by decide +kernel
theorem dX0_init_21 : decode cX0_init 21 = .ok (.bipush 6, 2) := by decide +kernel
theorem dX0_init_23 : decode cX0_init 23 = .ok (.newarray .int, 2) := by decide +kernel
theorem dX0_init_25 : decode cX0_init 25 = .ok (.putfield 18, 3) := by decide +kernel
theorem dX0_init_28 : decode cX0_init 28 = .ok (.aload_n 0, 1) := by decide +kernel
theorem dX0_init_29 : decode cX0_init 29 = .ok (.bipush 120, 2) := by decide +kernel
theorem dX0_init_31 : decode cX0_init 31 = .ok (.newarray .int, 2) := by decide +kernel
theorem dX0_init_33 : decode cX0_init 33 = .ok (.putfield 23, 3) := by decide +kernel
theorem dX0_init_36 : decode cX0_init 36 = .ok (.return_, 1) := by decide +kernel
theorem dX0_comparison_0 : decode cX0_comparison 0 = .ok (.bipush 100, 2) := by decide +kernel
theorem dX0_comparison_2 : decode cX0_comparison 2 = .ok (.iload_n 0, 1) := by decide +kernel
theorem dX0_comparison_3 : decode cX0_comparison 3 = .ok (.imul, 1) := by decide +kernel
theorem dX0_comparison_4 : decode cX0_comparison 4 = .ok (.bipush 10, 2) := by decide +kernel
theorem dX0_comparison_6 : decode cX0_comparison 6 = .ok (.iload_n 1, 1) := by decide +kernel
theorem dX0_comparison_7 : decode cX0_comparison 7 = .ok (.imul, 1) := by decide +kernel
theorem dX0_comparison_8 : decode cX0_comparison 8 = .ok (.iadd, 1) := by decide +kernel
theorem dX0_comparison_9 : decode cX0_comparison 9 = .ok (.iload_n 2, 1) := by decide +kernel
theorem dX0_comparison_10 : decode cX0_comparison 10 = .ok (.iadd, 1) := by decide +kernel
theorem dX0_comparison_11 : decode cX0_comparison 11 = .ok (.ireturn, 1) := by decide +kernel
theorem dX0_empty_0 : decode cX0_empty 0 = .ok (.aload_n 0, 1) := by decide +kernel
theorem dX0_empty_1 : decode cX0_empty 1 = .ok (.iconst 0, 1) := by decide +kernel
theorem dX0_empty_2 : decode cX0_empty 2 = .ok (.putfield 26, 3) := by decide +kernel
theorem dX0_empty_5 : decode cX0_empty 5 = .ok (.aload_n 0, 1) := by decide +kernel
theorem dX0_empty_6 : decode cX0_empty 6 = .ok (.iconst 0, 1) := by decide +kernel
theorem dX0_empty_7 : decode cX0_empty 7 = .ok (.putfield 30, 3) := by decide +kernel
theorem dX0_empty_10 : decode cX0_empty 10 = .ok (.return_, 1) := by decide +kernel
theorem dX0_add_0 : decode cX0_add 0 = .ok (.aload_n 0, 1) := by decide +kernel
theorem dX0_add_1 : decode cX0_add 1 = .ok (.getfield 30, 3) := by decide +kernel
theorem dX0_add_4 : decode cX0_add 4 = .ok (.bipush 120, 2) := by decide +kernel
theorem dX0_add_6 : decode cX0_add 6 = .ok (.if_icmp .ge 23, 3) := by decide +kernel
theorem dX0_add_9 : decode cX0_add 9 = .ok (.aload_n 0, 1) := by decide +kernel
theorem dX0_add_10 : decode cX0_add 10 = .ok (.getfield 23, 3) := by decide +kernel
theorem dX0_add_13 : decode cX0_add 13 = .ok (.aload_n 0, 1) := by decide +kernel
theorem dX0_add_14 : decode cX0_add 14 = .ok (.getfield 30, 3) := by decide +kernel
theorem dX0_add_17 : decode cX0_add 17 = .ok (.iload_n 1, 1) := by decide +kernel
theorem dX0_add_18 : decode cX0_add 18 = .ok (.iastore, 1) := by decide +kernel
theorem dX0_add_19 : decode cX0_add 19 = .ok (.aload_n 0, 1) := by decide +kernel
theorem dX0_add_20 : decode cX0_add 20 = .ok (.dup, 1) := by decide +kernel
theorem dX0_add_21 : decode cX0_add 21 = .ok (.getfield 30, 3) := by decide +kernel
theorem dX0_add_24 : decode cX0_add 24 = .ok (.iconst 1, 1) := by decide +kernel
theorem dX0_add_25 : decode cX0_add 25 = .ok (.iadd, 1) := by decide +kernel
theorem dX0_add_26 : decode cX0_add 26 = .ok (.putfield 30, 3) := by decide +kernel
theorem dX0_add_29 : decode cX0_add 29 = .ok (.return_, 1) := by decide +kernel
theorem dX0_endClause_0 : decode cX0_endClause 0 = .ok (.aload_n 0, 1) := by decide +kernel
theorem dX0_endClause_1 : decode cX0_endClause 1 = .ok (.getfield 26, 3) := by decide +kernel
theorem dX0_endClause_4 : decode cX0_endClause 4 = .ok (.bipush 6, 2) := by decide +kernel
theorem dX0_endClause_6 : decode cX0_endClause 6 = .ok (.if_icmp .ge 46, 3) := by decide +kernel
theorem dX0_endClause_9 : decode cX0_endClause 9 = .ok (.aload_n 0, 1) := by decide +kernel
theorem dX0_endClause_10 : decode cX0_endClause 10 = .ok (.getfield 11, 3) := by decide +kernel
theorem dX0_endClause_13 : decode cX0_endClause 13 = .ok (.aload_n 0, 1) := by decide +kernel
theorem dX0_endClause_14 : decode cX0_endClause 14 = .ok (.getfield 26, 3) := by decide +kernel
theorem dX0_endClause_17 : decode cX0_endClause 17 = .ok (.iload_n 1, 1) := by decide +kernel
theorem dX0_endClause_18 : decode cX0_endClause 18 = .ok (.iastore, 1) := by decide +kernel
theorem dX0_endClause_19 : decode cX0_endClause 19 = .ok (.aload_n 0, 1) := by decide +kernel
theorem dX0_endClause_20 : decode cX0_endClause 20 = .ok (.getfield 15, 3) := by decide +kernel
theorem dX0_endClause_23 : decode cX0_endClause 23 = .ok (.aload_n 0, 1) := by decide +kernel
theorem dX0_endClause_24 : decode cX0_endClause 24 = .ok (.getfield 26, 3) := by decide +kernel
theorem dX0_endClause_27 : decode cX0_endClause 27 = .ok (.iload_n 2, 1) := by decide +kernel
theorem dX0_endClause_28 : decode cX0_endClause 28 = .ok (.iastore, 1) := by decide +kernel
theorem dX0_endClause_29 : decode cX0_endClause 29 = .ok (.aload_n 0, 1) := by decide +kernel
theorem dX0_endClause_30 : decode cX0_endClause 30 = .ok (.getfield 18, 3) := by decide +kernel
theorem dX0_endClause_33 : decode cX0_endClause 33 = .ok (.aload_n 0, 1) := by decide +kernel
theorem dX0_endClause_34 : decode cX0_endClause 34 = .ok (.getfield 26, 3) := by decide +kernel
theorem dX0_endClause_37 : decode cX0_endClause 37 = .ok (.aload_n 0, 1) := by decide +kernel
theorem dX0_endClause_38 : decode cX0_endClause 38 = .ok (.getfield 30, 3) := by decide +kernel
theorem dX0_endClause_41 : decode cX0_endClause 41 = .ok (.iastore, 1) := by decide +kernel
theorem dX0_endClause_42 : decode cX0_endClause 42 = .ok (.aload_n 0, 1) := by decide +kernel
theorem dX0_endClause_43 : decode cX0_endClause 43 = .ok (.dup, 1) := by decide +kernel
theorem dX0_endClause_44 : decode cX0_endClause 44 = .ok (.getfield 26, 3) := by decide +kernel
theorem dX0_endClause_47 : decode cX0_endClause 47 = .ok (.iconst 1, 1) := by decide +kernel
theorem dX0_endClause_48 : decode cX0_endClause 48 = .ok (.iadd, 1) := by decide +kernel
theorem dX0_endClause_49 : decode cX0_endClause 49 = .ok (.putfield 26, 3) := by decide +kernel
theorem dX0_endClause_52 : decode cX0_endClause 52 = .ok (.return_, 1) := by decide +kernel
theorem dX0_lastThatHolds_0 : decode cX0_lastThatHolds 0 = .ok (.aload_n 0, 1) := by decide +kernel
theorem dX0_lastThatHolds_1 : decode cX0_lastThatHolds 1 = .ok (.getfield 26, 3) := by decide +kernel
theorem dX0_lastThatHolds_4 : decode cX0_lastThatHolds 4 = .ok (.iconst 1, 1) := by decide +kernel
theorem dX0_lastThatHolds_5 : decode cX0_lastThatHolds 5 = .ok (.isub, 1) := by decide +kernel
theorem dX0_lastThatHolds_6 : decode cX0_lastThatHolds 6 = .ok (.istore_n 3, 1) := by decide +kernel
theorem dX0_lastThatHolds_7 : decode cX0_lastThatHolds 7 = .ok (.iload_n 3, 1) := by decide +kernel
theorem dX0_lastThatHolds_8 : decode cX0_lastThatHolds 8 = .ok (.ifCond .lt 30, 3) := by decide +kernel
theorem dX0_lastThatHolds_11 : decode cX0_lastThatHolds 11 = .ok (.aload_n 0, 1) := by decide +kernel
theorem dX0_lastThatHolds_12 : decode cX0_lastThatHolds 12 = .ok (.getfield 15, 3) := by decide +kernel
theorem dX0_lastThatHolds_15 : decode cX0_lastThatHolds 15 = .ok (.iload_n 3, 1) := by decide +kernel
theorem dX0_lastThatHolds_16 : decode cX0_lastThatHolds 16 = .ok (.iaload, 1) := by decide +kernel
theorem dX0_lastThatHolds_17 : decode cX0_lastThatHolds 17 = .ok (.iload_n 2, 1) := by decide +kernel
theorem dX0_lastThatHolds_18 : decode cX0_lastThatHolds 18 = .ok (.if_icmp .gt 14, 3) := by decide +kernel
theorem dX0_lastThatHolds_21 : decode cX0_lastThatHolds 21 = .ok (.aload_n 0, 1) := by decide +kernel
theorem dX0_lastThatHolds_22 : decode cX0_lastThatHolds 22 = .ok (.iload_n 3, 1) := by decide +kernel
theorem dX0_lastThatHolds_23 : decode cX0_lastThatHolds 23 = .ok (.iload_n 1, 1) := by decide +kernel
theorem dX0_lastThatHolds_24 : decode cX0_lastThatHolds 24 = .ok (.invokevirtual 33, 3) := by decide +kernel
theorem dX0_lastThatHolds_27 : decode cX0_lastThatHolds 27 = .ok (.ifCond .eq 5, 3) := by decide +kernel
theorem dX0_lastThatHolds_30 : decode cX0_lastThatHolds 30 = .ok (.iload_n 3, 1) := by decide +kernel
theorem dX0_lastThatHolds_31 : decode cX0_lastThatHolds 31 = .ok (.ireturn, 1) := by decide +kernel
theorem dX0_lastThatHolds_32 : decode cX0_lastThatHolds 32 = .ok (.iinc 3 (-1), 3) := by decide +kernel
theorem dX0_lastThatHolds_35 : decode cX0_lastThatHolds 35 = .ok (.goto (-28), 3) := by decide +kernel
theorem dX0_lastThatHolds_38 : decode cX0_lastThatHolds 38 = .ok (.bipush (-4), 2) := by decide +kernel
theorem dX0_lastThatHolds_40 : decode cX0_lastThatHolds 40 = .ok (.ireturn, 1) := by decide +kernel
theorem dX0_holds_0 : decode cX0_holds 0 = .ok (.iconst 0, 1) := by decide +kernel
theorem dX0_holds_1 : decode cX0_holds 1 = .ok (.istore_n 3, 1) := by decide +kernel
theorem dX0_holds_2 : decode cX0_holds 2 = .ok (.iload_n 1, 1) := by decide +kernel
theorem dX0_holds_3 : decode cX0_holds 3 = .ok (.ifCond .ne 7, 3) := by decide +kernel
theorem dX0_holds_6 : decode cX0_holds 6 = .ok (.iconst 0, 1) := by decide +kernel
theorem dX0_holds_7 : decode cX0_holds 7 = .ok (.goto 11, 3) := by decide +kernel
theorem dX0_holds_10 : decode cX0_holds 10 = .ok (.aload_n 0, 1) := by decide +kernel
theorem dX0_holds_11 : decode cX0_holds 11 = .ok (.getfield 18, 3) := by decide +kernel
theorem dX0_holds_14 : decode cX0_holds 14 = .ok (.iload_n 1, 1) := by decide +kernel
theorem dX0_holds_15 : decode cX0_holds 15 = .ok (.iconst 1, 1) := by decide +kernel
theorem dX0_holds_16 : decode cX0_holds 16 = .ok (.isub, 1) := by decide +kernel
theorem dX0_holds_17 : decode cX0_holds 17 = .ok (.iaload, 1) := by decide +kernel
theorem dX0_holds_18 : decode cX0_holds 18 = .ok (.istore 4, 2) := by decide +kernel
theorem dX0_holds_20 : decode cX0_holds 20 = .ok (.iload 4, 2) := by decide +kernel
theorem dX0_holds_22 : decode cX0_holds 22 = .ok (.aload_n 0, 1) := by decide +kernel
theorem dX0_holds_23 : decode cX0_holds 23 = .ok (.getfield 18, 3) := by decide +kernel
theorem dX0_holds_26 : decode cX0_holds 26 = .ok (.iload_n 1, 1) := by decide +kernel
theorem dX0_holds_27 : decode cX0_holds 27 = .ok (.iaload, 1) := by decide +kernel
theorem dX0_holds_28 : decode cX0_holds 28 = .ok (.if_icmp .ge 92, 3) := by decide +kernel
theorem dX0_holds_31 : decode cX0_holds 31 = .ok (.aload_n 0, 1) := by decide +kernel
theorem dX0_holds_32 : decode cX0_holds 32 = .ok (.getfield 23, 3) := by decide +kernel
theorem dX0_holds_35 : decode cX0_holds 35 = .ok (.iload 4, 2) := by decide +kernel
theorem dX0_holds_37 : decode cX0_holds 37 = .ok (.iaload, 1) := by decide +kernel
theorem dX0_holds_38 : decode cX0_holds 38 = .ok (.istore 5, 2) := by decide +kernel
theorem dX0_holds_40 : decode cX0_holds 40 = .ok (.iload_n 3, 1) := by decide +kernel
theorem dX0_holds_41 : decode cX0_holds 41 = .ok (.iconst 1, 1) := by decide +kernel
theorem dX0_holds_42 : decode cX0_holds 42 = .ok (.iand, 1) := by decide +kernel
theorem dX0_holds_43 : decode cX0_holds 43 = .ok (.istore 6, 2) := by decide +kernel
theorem dX0_holds_45 : decode cX0_holds 45 = .ok (.iload 5, 2) := by decide +kernel
theorem dX0_holds_47 : decode cX0_holds 47 = .ok (.bipush (-3), 2) := by decide +kernel
theorem dX0_holds_49 : decode cX0_holds 49 = .ok (.if_icmp .ne 10, 3) := by decide +kernel
theorem dX0_holds_52 : decode cX0_holds 52 = .ok (.iload_n 3, 1) := by decide +kernel
theorem dX0_holds_53 : decode cX0_holds 53 = .ok (.iconst 1, 1) := by decide +kernel
theorem dX0_holds_54 : decode cX0_holds 54 = .ok (.ixor, 1) := by decide +kernel
theorem dX0_holds_55 : decode cX0_holds 55 = .ok (.istore_n 3, 1) := by decide +kernel
theorem dX0_holds_56 : decode cX0_holds 56 = .ok (.goto 58, 3) := by decide +kernel
theorem dX0_holds_59 : decode cX0_holds 59 = .ok (.iload 5, 2) := by decide +kernel
theorem dX0_holds_61 : decode cX0_holds 61 = .ok (.iconst (-1), 1) := by decide +kernel
theorem dX0_holds_62 : decode cX0_holds 62 = .ok (.if_icmp .ne 16, 3) := by decide +kernel
theorem dX0_holds_65 : decode cX0_holds 65 = .ok (.iload_n 3, 1) := by decide +kernel
theorem dX0_holds_66 : decode cX0_holds 66 = .ok (.iconst 1, 1) := by decide +kernel
theorem dX0_holds_67 : decode cX0_holds 67 = .ok (.ishr, 1) := by decide +kernel
theorem dX0_holds_68 : decode cX0_holds 68 = .ok (.iload 6, 2) := by decide +kernel
theorem dX0_holds_70 : decode cX0_holds 70 = .ok (.bipush (-2), 2) := by decide +kernel
theorem dX0_holds_72 : decode cX0_holds 72 = .ok (.ior, 1) := by decide +kernel
theorem dX0_holds_73 : decode cX0_holds 73 = .ok (.iand, 1) := by decide +kernel
theorem dX0_holds_74 : decode cX0_holds 74 = .ok (.istore_n 3, 1) := by decide +kernel
theorem dX0_holds_75 : decode cX0_holds 75 = .ok (.goto 39, 3) := by decide +kernel
theorem dX0_holds_78 : decode cX0_holds 78 = .ok (.iload 5, 2) := by decide +kernel
theorem dX0_holds_80 : decode cX0_holds 80 = .ok (.bipush (-2), 2) := by decide +kernel
theorem dX0_holds_82 : decode cX0_holds 82 = .ok (.if_icmp .ne 13, 3) := by decide +kernel
theorem dX0_holds_85 : decode cX0_holds 85 = .ok (.iload_n 3, 1) := by decide +kernel
theorem dX0_holds_86 : decode cX0_holds 86 = .ok (.iconst 1, 1) := by decide +kernel
theorem dX0_holds_87 : decode cX0_holds 87 = .ok (.ishr, 1) := by decide +kernel
theorem dX0_holds_88 : decode cX0_holds 88 = .ok (.iload 6, 2) := by decide +kernel
theorem dX0_holds_90 : decode cX0_holds 90 = .ok (.ior, 1) := by decide +kernel
theorem dX0_holds_91 : decode cX0_holds 91 = .ok (.istore_n 3, 1) := by decide +kernel
theorem dX0_holds_92 : decode cX0_holds 92 = .ok (.goto 22, 3) := by decide +kernel
theorem dX0_holds_95 : decode cX0_holds 95 = .ok (.iload_n 3, 1) := by decide +kernel
theorem dX0_holds_96 : decode cX0_holds 96 = .ok (.iconst 1, 1) := by decide +kernel
theorem dX0_holds_97 : decode cX0_holds 97 = .ok (.ishl, 1) := by decide +kernel
theorem dX0_holds_98 : decode cX0_holds 98 = .ok (.iload 5, 2) := by decide +kernel
theorem dX0_holds_100 : decode cX0_holds 100 = .ok (.iload_n 2, 1) := by decide +kernel
theorem dX0_holds_101 : decode cX0_holds 101 = .ok (.invokestatic 37, 3) := by decide +kernel
theorem dX0_holds_104 : decode cX0_holds 104 = .ok (.ifCond .eq 7, 3) := by decide +kernel
theorem dX0_holds_107 : decode cX0_holds 107 = .ok (.iconst 1, 1) := by decide +kernel
theorem dX0_holds_108 : decode cX0_holds 108 = .ok (.goto 4, 3) := by decide +kernel
theorem dX0_holds_111 : decode cX0_holds 111 = .ok (.iconst 0, 1) := by decide +kernel
theorem dX0_holds_112 : decode cX0_holds 112 = .ok (.ior, 1) := by decide +kernel
theorem dX0_holds_113 : decode cX0_holds 113 = .ok (.istore_n 3, 1) := by decide +kernel
theorem dX0_holds_114 : decode cX0_holds 114 = .ok (.iinc 4 1, 3) := by decide +kernel
theorem dX0_holds_117 : decode cX0_holds 117 = .ok (.goto (-97), 3) := by decide +kernel
theorem dX0_holds_120 : decode cX0_holds 120 = .ok (.iload_n 3, 1) := by decide +kernel
theorem dX0_holds_121 : decode cX0_holds 121 = .ok (.iconst 1, 1) := by decide +kernel
theorem dX0_holds_122 : decode cX0_holds 122 = .ok (.iand, 1) := by decide +kernel
theorem dX0_holds_123 : decode cX0_holds 123 = .ok (.iconst 1, 1) := by decide +kernel
theorem dX0_holds_124 : decode cX0_holds 124 = .ok (.if_icmp .ne 7, 3) := by decide +kernel
theorem dX0_holds_127 : decode cX0_holds 127 = .ok (.iconst 1, 1) := by decide +kernel
theorem dX0_holds_128 : decode cX0_holds 128 = .ok (.goto 4, 3) := by decide +kernel
theorem dX0_holds_131 : decode cX0_holds 131 = .ok (.iconst 0, 1) := by decide +kernel
theorem dX0_holds_132 : decode cX0_holds 132 = .ok (.ireturn, 1) := by decide +kernel
theorem dX0_compares_0 : decode cX0_compares 0 = .ok (.iload_n 1, 1) := by decide +kernel
theorem dX0_compares_1 : decode cX0_compares 1 = .ok (.iload_n 0, 1) := by decide +kernel
theorem dX0_compares_2 : decode cX0_compares 2 = .ok (.bipush 100, 2) := by decide +kernel
theorem dX0_compares_4 : decode cX0_compares 4 = .ok (.idiv, 1) := by decide +kernel
theorem dX0_compares_5 : decode cX0_compares 5 = .ok (.invokestatic 40, 3) := by decide +kernel
theorem dX0_compares_8 : decode cX0_compares 8 = .ok (.istore_n 2, 1) := by decide +kernel
theorem dX0_compares_9 : decode cX0_compares 9 = .ok (.iload_n 0, 1) := by decide +kernel
theorem dX0_compares_10 : decode cX0_compares 10 = .ok (.bipush 10, 2) := by decide +kernel
theorem dX0_compares_12 : decode cX0_compares 12 = .ok (.idiv, 1) := by decide +kernel
theorem dX0_compares_13 : decode cX0_compares 13 = .ok (.bipush 10, 2) := by decide +kernel
theorem dX0_compares_15 : decode cX0_compares 15 = .ok (.irem, 1) := by decide +kernel
theorem dX0_compares_16 : decode cX0_compares 16 = .ok (.istore_n 3, 1) := by decide +kernel
theorem dX0_compares_17 : decode cX0_compares 17 = .ok (.iload_n 0, 1) := by decide +kernel
theorem dX0_compares_18 : decode cX0_compares 18 = .ok (.bipush 10, 2) := by decide +kernel
theorem dX0_compares_20 : decode cX0_compares 20 = .ok (.irem, 1) := by decide +kernel
theorem dX0_compares_21 : decode cX0_compares 21 = .ok (.istore 4, 2) := by decide +kernel
theorem dX0_compares_23 : decode cX0_compares 23 = .ok (.iload_n 3, 1) := by decide +kernel
theorem dX0_compares_24 : decode cX0_compares 24 = .ok (.ifCond .ne 15, 3) := by decide +kernel
theorem dX0_compares_27 : decode cX0_compares 27 = .ok (.iload_n 2, 1) := by decide +kernel
theorem dX0_compares_28 : decode cX0_compares 28 = .ok (.iload 4, 2) := by decide +kernel
theorem dX0_compares_30 : decode cX0_compares 30 = .ok (.if_icmp .ne 7, 3) := by decide +kernel
theorem dX0_compares_33 : decode cX0_compares 33 = .ok (.iconst 1, 1) := by decide +kernel
theorem dX0_compares_34 : decode cX0_compares 34 = .ok (.goto 4, 3) := by decide +kernel
theorem dX0_compares_37 : decode cX0_compares 37 = .ok (.iconst 0, 1) := by decide +kernel
theorem dX0_compares_38 : decode cX0_compares 38 = .ok (.ireturn, 1) := by decide +kernel
theorem dX0_compares_39 : decode cX0_compares 39 = .ok (.iload_n 3, 1) := by decide +kernel
theorem dX0_compares_40 : decode cX0_compares 40 = .ok (.iconst 1, 1) := by decide +kernel
theorem dX0_compares_41 : decode cX0_compares 41 = .ok (.if_icmp .ne 17, 3) := by decide +kernel
theorem dX0_compares_44 : decode cX0_compares 44 = .ok (.iload_n 2, 1) := by decide +kernel
theorem dX0_compares_45 : decode cX0_compares 45 = .ok (.iload 4, 2) := by decide +kernel
theorem dX0_compares_47 : decode cX0_compares 47 = .ok (.if_icmp .ge 7, 3) := by decide +kernel
theorem dX0_compares_50 : decode cX0_compares 50 = .ok (.iconst 1, 1) := by decide +kernel
theorem dX0_compares_51 : decode cX0_compares 51 = .ok (.goto 18, 3) := by decide +kernel
theorem dX0_compares_54 : decode cX0_compares 54 = .ok (.iconst 0, 1) := by decide +kernel
theorem dX0_compares_55 : decode cX0_compares 55 = .ok (.goto 14, 3) := by decide +kernel
theorem dX0_compares_58 : decode cX0_compares 58 = .ok (.iload_n 2, 1) := by decide +kernel
theorem dX0_compares_59 : decode cX0_compares 59 = .ok (.iload 4, 2) := by decide +kernel
theorem dX0_compares_61 : decode cX0_compares 61 = .ok (.if_icmp .le 7, 3) := by decide +kernel
theorem dX0_compares_64 : decode cX0_compares 64 = .ok (.iconst 1, 1) := by decide +kernel
theorem dX0_compares_65 : decode cX0_compares 65 = .ok (.goto 4, 3) := by decide +kernel
theorem dX0_compares_68 : decode cX0_compares 68 = .ok (.iconst 0, 1) := by decide +kernel
theorem dX0_compares_69 : decode cX0_compares 69 = .ok (.ireturn, 1) := by decide +kernel
theorem dX1_init_0 : decode cX1_init 0 = .ok (.aload_n 0, 1) := by decide +kernel
theorem dX1_init_1 : decode cX1_init 1 = .ok (.invokespecial 3, 3) := by decide +kernel
theorem dX1_init_4 : decode cX1_init 4 = .ok (.aload_n 0, 1) := by decide +kernel
theorem dX1_init_5 : decode cX1_init 5 = .ok (.bipush 16, 2) := by decide +kernel
theorem dX1_init_7 : decode cX1_init 7 = .ok (.newarray .int, 2) := by decide +kernel
theorem dX1_init_9 : decode cX1_init 9 = .ok (.putfield 9, 3) := by decide +kernel
theorem dX1_init_12 : decode cX1_init 12 = .ok (.aload_n 0, 1) := by decide +kernel
theorem dX1_init_13 : decode cX1_init 13 = .ok (.bipush 12, 2) := by decide +kernel
theorem dX1_init_15 : decode cX1_init 15 = .ok (.newarray .int, 2) := by decide +kernel
theorem dX1_init_17 : decode cX1_init 17 = .ok (.putfield 15, 3) := by decide +kernel
theorem dX1_init_20 : decode cX1_init 20 = .ok (.aload_n 0, 1) := by decide +kernel
theorem dX1_init_21 : decode cX1_init 21 = .ok (.bipush 12, 2) := by decide +kernel
theorem dX1_init_23 : decode cX1_init 23 = .ok (.newarray .boolean, 2) := by decide +kernel
theorem dX1_init_25 : decode cX1_init 25 = .ok (.putfield 18, 3) := by decide +kernel
theorem dX1_init_28 : decode cX1_init 28 = .ok (.return_, 1) := by decide +kernel
theorem dX1_look_0 : decode cX1_look 0 = .ok (.aload_n 0, 1) := by decide +kernel
theorem dX1_look_1 : decode cX1_look 1 = .ok (.iconst 0, 1) := by decide +kernel
theorem dX1_look_2 : decode cX1_look 2 = .ok (.putfield 22, 3) := by decide +kernel
theorem dX1_look_5 : decode cX1_look 5 = .ok (.iconst 0, 1) := by decide +kernel
theorem dX1_look_6 : decode cX1_look 6 = .ok (.istore_n 3, 1) := by decide +kernel
theorem dX1_look_7 : decode cX1_look 7 = .ok (.iload_n 3, 1) := by decide +kernel
theorem dX1_look_8 : decode cX1_look 8 = .ok (.iload_n 2, 1) := by decide +kernel
theorem dX1_look_9 : decode cX1_look 9 = .ok (.if_icmp .ge 28, 3) := by decide +kernel
theorem dX1_look_12 : decode cX1_look 12 = .ok (.aload_n 1, 1) := by decide +kernel
theorem dX1_look_13 : decode cX1_look 13 = .ok (.getfield 26, 3) := by decide +kernel
theorem dX1_look_16 : decode cX1_look 16 = .ok (.iload_n 3, 1) := by decide +kernel
theorem dX1_look_17 : decode cX1_look 17 = .ok (.iaload, 1) := by decide +kernel
theorem dX1_look_18 : decode cX1_look 18 = .ok (.ifCond .eq 13, 3) := by decide +kernel
theorem dX1_look_21 : decode cX1_look 21 = .ok (.aload_n 0, 1) := by decide +kernel
theorem dX1_look_22 : decode cX1_look 22 = .ok (.aload_n 1, 1) := by decide +kernel
theorem dX1_look_23 : decode cX1_look 23 = .ok (.getfield 31, 3) := by decide +kernel
theorem dX1_look_26 : decode cX1_look 26 = .ok (.iload_n 3, 1) := by decide +kernel
theorem dX1_look_27 : decode cX1_look 27 = .ok (.iaload, 1) := by decide +kernel
theorem dX1_look_28 : decode cX1_look 28 = .ok (.invokevirtual 34, 3) := by decide +kernel
theorem dX1_look_31 : decode cX1_look 31 = .ok (.iinc 3 1, 3) := by decide +kernel
theorem dX1_look_34 : decode cX1_look 34 = .ok (.goto (-27), 3) := by decide +kernel
theorem dX1_look_37 : decode cX1_look 37 = .ok (.aload_n 0, 1) := by decide +kernel
theorem dX1_look_38 : decode cX1_look 38 = .ok (.aload_n 0, 1) := by decide +kernel
theorem dX1_look_39 : decode cX1_look 39 = .ok (.getfield 22, 3) := by decide +kernel
theorem dX1_look_42 : decode cX1_look 42 = .ok (.bipush 12, 2) := by decide +kernel
theorem dX1_look_44 : decode cX1_look 44 = .ok (.invokestatic 38, 3) := by decide +kernel
theorem dX1_look_47 : decode cX1_look 47 = .ok (.putfield 22, 3) := by decide +kernel
theorem dX1_look_50 : decode cX1_look 50 = .ok (.return_, 1) := by decide +kernel
theorem dX1_sortIn_0 : decode cX1_sortIn 0 = .ok (.iconst 0, 1) := by decide +kernel
theorem dX1_sortIn_1 : decode cX1_sortIn 1 = .ok (.istore_n 2, 1) := by decide +kernel
theorem dX1_sortIn_2 : decode cX1_sortIn 2 = .ok (.iload_n 2, 1) := by decide +kernel
theorem dX1_sortIn_3 : decode cX1_sortIn 3 = .ok (.aload_n 0, 1) := by decide +kernel
theorem dX1_sortIn_4 : decode cX1_sortIn 4 = .ok (.getfield 22, 3) := by decide +kernel
theorem dX1_sortIn_7 : decode cX1_sortIn 7 = .ok (.if_icmp .ge 19, 3) := by decide +kernel
theorem dX1_sortIn_10 : decode cX1_sortIn 10 = .ok (.aload_n 0, 1) := by decide +kernel
theorem dX1_sortIn_11 : decode cX1_sortIn 11 = .ok (.getfield 9, 3) := by decide +kernel
theorem dX1_sortIn_14 : decode cX1_sortIn 14 = .ok (.iload_n 2, 1) := by decide +kernel
theorem dX1_sortIn_15 : decode cX1_sortIn 15 = .ok (.iaload, 1) := by decide +kernel
theorem dX1_sortIn_16 : decode cX1_sortIn 16 = .ok (.iload_n 1, 1) := by decide +kernel
theorem dX1_sortIn_17 : decode cX1_sortIn 17 = .ok (.if_icmp .ge 9, 3) := by decide +kernel
theorem dX1_sortIn_20 : decode cX1_sortIn 20 = .ok (.iinc 2 1, 3) := by decide +kernel
theorem dX1_sortIn_23 : decode cX1_sortIn 23 = .ok (.goto (-21), 3) := by decide +kernel
theorem dX1_sortIn_26 : decode cX1_sortIn 26 = .ok (.iload_n 2, 1) := by decide +kernel
theorem dX1_sortIn_27 : decode cX1_sortIn 27 = .ok (.aload_n 0, 1) := by decide +kernel
theorem dX1_sortIn_28 : decode cX1_sortIn 28 = .ok (.getfield 22, 3) := by decide +kernel
theorem dX1_sortIn_31 : decode cX1_sortIn 31 = .ok (.if_icmp .ge 13, 3) := by decide +kernel
theorem dX1_sortIn_34 : decode cX1_sortIn 34 = .ok (.aload_n 0, 1) := by decide +kernel
theorem dX1_sortIn_35 : decode cX1_sortIn 35 = .ok (.getfield 9, 3) := by decide +kernel
theorem dX1_sortIn_38 : decode cX1_sortIn 38 = .ok (.iload_n 2, 1) := by decide +kernel
theorem dX1_sortIn_39 : decode cX1_sortIn 39 = .ok (.iaload, 1) := by decide +kernel
theorem dX1_sortIn_40 : decode cX1_sortIn 40 = .ok (.iload_n 1, 1) := by decide +kernel
theorem dX1_sortIn_41 : decode cX1_sortIn 41 = .ok (.if_icmp .eq 12, 3) := by decide +kernel
theorem dX1_sortIn_44 : decode cX1_sortIn 44 = .ok (.aload_n 0, 1) := by decide +kernel
theorem dX1_sortIn_45 : decode cX1_sortIn 45 = .ok (.getfield 22, 3) := by decide +kernel
theorem dX1_sortIn_48 : decode cX1_sortIn 48 = .ok (.bipush 16, 2) := by decide +kernel
theorem dX1_sortIn_50 : decode cX1_sortIn 50 = .ok (.if_icmp .lt 4, 3) := by decide +kernel
theorem dX1_sortIn_53 : decode cX1_sortIn 53 = .ok (.return_, 1) := by decide +kernel
theorem dX1_sortIn_54 : decode cX1_sortIn 54 = .ok (.aload_n 0, 1) := by decide +kernel
theorem dX1_sortIn_55 : decode cX1_sortIn 55 = .ok (.getfield 22, 3) := by decide +kernel
theorem dX1_sortIn_58 : decode cX1_sortIn 58 = .ok (.istore_n 3, 1) := by decide +kernel
theorem dX1_sortIn_59 : decode cX1_sortIn 59 = .ok (.iload_n 3, 1) := by decide +kernel
theorem dX1_sortIn_60 : decode cX1_sortIn 60 = .ok (.iload_n 2, 1) := by decide +kernel
theorem dX1_sortIn_61 : decode cX1_sortIn 61 = .ok (.if_icmp .le 23, 3) := by decide +kernel
theorem dX1_sortIn_64 : decode cX1_sortIn 64 = .ok (.aload_n 0, 1) := by decide +kernel
theorem dX1_sortIn_65 : decode cX1_sortIn 65 = .ok (.getfield 9, 3) := by decide +kernel
theorem dX1_sortIn_68 : decode cX1_sortIn 68 = .ok (.iload_n 3, 1) := by decide +kernel
theorem dX1_sortIn_69 : decode cX1_sortIn 69 = .ok (.aload_n 0, 1) := by decide +kernel
theorem dX1_sortIn_70 : decode cX1_sortIn 70 = .ok (.getfield 9, 3) := by decide +kernel
theorem dX1_sortIn_73 : decode cX1_sortIn 73 = .ok (.iload_n 3, 1) := by decide +kernel
theorem dX1_sortIn_74 : decode cX1_sortIn 74 = .ok (.iconst 1, 1) := by decide +kernel
theorem dX1_sortIn_75 : decode cX1_sortIn 75 = .ok (.isub, 1) := by decide +kernel
theorem dX1_sortIn_76 : decode cX1_sortIn 76 = .ok (.iaload, 1) := by decide +kernel
theorem dX1_sortIn_77 : decode cX1_sortIn 77 = .ok (.iastore, 1) := by decide +kernel
theorem dX1_sortIn_78 : decode cX1_sortIn 78 = .ok (.iinc 3 (-1), 3) := by decide +kernel
theorem dX1_sortIn_81 : decode cX1_sortIn 81 = .ok (.goto (-22), 3) := by decide +kernel
theorem dX1_sortIn_84 : decode cX1_sortIn 84 = .ok (.aload_n 0, 1) := by decide +kernel
theorem dX1_sortIn_85 : decode cX1_sortIn 85 = .ok (.getfield 9, 3) := by decide +kernel
theorem dX1_sortIn_88 : decode cX1_sortIn 88 = .ok (.iload_n 2, 1) := by decide +kernel
theorem dX1_sortIn_89 : decode cX1_sortIn 89 = .ok (.iload_n 1, 1) := by decide +kernel
theorem dX1_sortIn_90 : decode cX1_sortIn 90 = .ok (.iastore, 1) := by decide +kernel
theorem dX1_sortIn_91 : decode cX1_sortIn 91 = .ok (.aload_n 0, 1) := by decide +kernel
theorem dX1_sortIn_92 : decode cX1_sortIn 92 = .ok (.dup, 1) := by decide +kernel
theorem dX1_sortIn_93 : decode cX1_sortIn 93 = .ok (.getfield 22, 3) := by decide +kernel
theorem dX1_sortIn_96 : decode cX1_sortIn 96 = .ok (.iconst 1, 1) := by decide +kernel
theorem dX1_sortIn_97 : decode cX1_sortIn 97 = .ok (.iadd, 1) := by decide +kernel
theorem dX1_sortIn_98 : decode cX1_sortIn 98 = .ok (.putfield 22, 3) := by decide +kernel
theorem dX1_sortIn_101 : decode cX1_sortIn 101 = .ok (.return_, 1) := by decide +kernel
theorem dX1_join_0 : decode cX1_join 0 = .ok (.iconst 0, 1) := by decide +kernel
theorem dX1_join_1 : decode cX1_join 1 = .ok (.istore_n 1, 1) := by decide +kernel
theorem dX1_join_2 : decode cX1_join 2 = .ok (.iload_n 1, 1) := by decide +kernel
theorem dX1_join_3 : decode cX1_join 3 = .ok (.bipush 12, 2) := by decide +kernel
theorem dX1_join_5 : decode cX1_join 5 = .ok (.if_icmp .ge 32, 3) := by decide +kernel
theorem dX1_join_8 : decode cX1_join 8 = .ok (.aload_n 0, 1) := by decide +kernel
theorem dX1_join_9 : decode cX1_join 9 = .ok (.getfield 18, 3) := by decide +kernel
theorem dX1_join_12 : decode cX1_join 12 = .ok (.iload_n 1, 1) := by decide +kernel
theorem dX1_join_13 : decode cX1_join 13 = .ok (.iload_n 1, 1) := by decide +kernel
theorem dX1_join_14 : decode cX1_join 14 = .ok (.ifCond .ne 7, 3) := by decide +kernel
theorem dX1_join_17 : decode cX1_join 17 = .ok (.iconst 1, 1) := by decide +kernel
theorem dX1_join_18 : decode cX1_join 18 = .ok (.goto 4, 3) := by decide +kernel
theorem dX1_join_21 : decode cX1_join 21 = .ok (.iconst 0, 1) := by decide +kernel
theorem dX1_join_22 : decode cX1_join 22 = .ok (.bastore, 1) := by decide +kernel
theorem dX1_join_23 : decode cX1_join 23 = .ok (.aload_n 0, 1) := by decide +kernel
theorem dX1_join_24 : decode cX1_join 24 = .ok (.getfield 15, 3) := by decide +kernel
theorem dX1_join_27 : decode cX1_join 27 = .ok (.iload_n 1, 1) := by decide +kernel
theorem dX1_join_28 : decode cX1_join 28 = .ok (.bipush (-4), 2) := by decide +kernel
theorem dX1_join_30 : decode cX1_join 30 = .ok (.iastore, 1) := by decide +kernel
theorem dX1_join_31 : decode cX1_join 31 = .ok (.iinc 1 1, 3) := by decide +kernel
theorem dX1_join_34 : decode cX1_join 34 = .ok (.goto (-32), 3) := by decide +kernel
theorem dX1_join_37 : decode cX1_join 37 = .ok (.iconst 0, 1) := by decide +kernel
theorem dX1_join_38 : decode cX1_join 38 = .ok (.istore_n 1, 1) := by decide +kernel
theorem dX1_join_39 : decode cX1_join 39 = .ok (.iconst 1, 1) := by decide +kernel
theorem dX1_join_40 : decode cX1_join 40 = .ok (.istore_n 2, 1) := by decide +kernel
theorem dX1_join_41 : decode cX1_join 41 = .ok (.iload_n 2, 1) := by decide +kernel
theorem dX1_join_42 : decode cX1_join 42 = .ok (.aload_n 0, 1) := by decide +kernel
theorem dX1_join_43 : decode cX1_join 43 = .ok (.getfield 22, 3) := by decide +kernel
theorem dX1_join_46 : decode cX1_join 46 = .ok (.if_icmp .ge 16, 3) := by decide +kernel
theorem dX1_join_49 : decode cX1_join 49 = .ok (.iload_n 1, 1) := by decide +kernel
theorem dX1_join_50 : decode cX1_join 50 = .ok (.aload_n 0, 1) := by decide +kernel
theorem dX1_join_51 : decode cX1_join 51 = .ok (.invokevirtual 44, 3) := by decide +kernel
theorem dX1_join_54 : decode cX1_join 54 = .ok (.iadd, 1) := by decide +kernel
theorem dX1_join_55 : decode cX1_join 55 = .ok (.istore_n 1, 1) := by decide +kernel
theorem dX1_join_56 : decode cX1_join 56 = .ok (.iinc 2 1, 3) := by decide +kernel
theorem dX1_join_59 : decode cX1_join 59 = .ok (.goto (-18), 3) := by decide +kernel
theorem dX1_join_62 : decode cX1_join 62 = .ok (.iload_n 1, 1) := by decide +kernel
theorem dX1_join_63 : decode cX1_join 63 = .ok (.ireturn, 1) := by decide +kernel
theorem dX1_joinNearest_0 : decode cX1_joinNearest 0 = .ok (.iconst 5, 1) := by decide +kernel
theorem dX1_joinNearest_1 : decode cX1_joinNearest 1 = .ok (.istore_n 1, 1) := by decide +kernel
theorem dX1_joinNearest_2 : decode cX1_joinNearest 2 = .ok (.iconst 0, 1) := by decide +kernel
theorem dX1_joinNearest_3 : decode cX1_joinNearest 3 = .ok (.istore_n 2, 1) := by decide +kernel
theorem dX1_joinNearest_4 : decode cX1_joinNearest 4 = .ok (.iconst 0, 1) := by decide +kernel
theorem dX1_joinNearest_5 : decode cX1_joinNearest 5 = .ok (.istore_n 3, 1) := by decide +kernel
theorem dX1_joinNearest_6 : decode cX1_joinNearest 6 = .ok (.iconst 0, 1) := by decide +kernel
theorem dX1_joinNearest_7 : decode cX1_joinNearest 7 = .ok (.istore 4, 2) := by decide +kernel
theorem dX1_joinNearest_9 : decode cX1_joinNearest 9 = .ok (.iload 4, 2) := by decide +kernel
theorem dX1_joinNearest_11 : decode cX1_joinNearest 11 = .ok (.aload_n 0, 1) := by decide +kernel
theorem dX1_joinNearest_12 : decode cX1_joinNearest 12 = .ok (.getfield 22, 3) := by decide +kernel
theorem dX1_joinNearest_15 : decode cX1_joinNearest 15 = .ok (.if_icmp .ge 92, 3) := by decide +kernel
theorem dX1_joinNearest_18 : decode cX1_joinNearest 18 = .ok (.iconst 0, 1) := by decide +kernel
theorem dX1_joinNearest_19 : decode cX1_joinNearest 19 = .ok (.istore 5, 2) := by decide +kernel
theorem dX1_joinNearest_21 : decode cX1_joinNearest 21 = .ok (.iload 5, 2) := by decide +kernel
theorem dX1_joinNearest_23 : decode cX1_joinNearest 23 = .ok (.aload_n 0, 1) := by decide +kernel
theorem dX1_joinNearest_24 : decode cX1_joinNearest 24 = .ok (.getfield 22, 3) := by decide +kernel
theorem dX1_joinNearest_27 : decode cX1_joinNearest 27 = .ok (.if_icmp .ge 74, 3) := by decide +kernel
theorem dX1_joinNearest_30 : decode cX1_joinNearest 30 = .ok (.aload_n 0, 1) := by decide +kernel
theorem dX1_joinNearest_31 : decode cX1_joinNearest 31 = .ok (.getfield 18, 3) := by decide +kernel
theorem dX1_joinNearest_34 : decode cX1_joinNearest 34 = .ok (.iload 4, 2) := by decide +kernel
theorem dX1_joinNearest_36 : decode cX1_joinNearest 36 = .ok (.baload, 1) := by decide +kernel
theorem dX1_joinNearest_37 : decode cX1_joinNearest 37 = .ok (.ifCond .ne 64, 3) := by decide +kernel
theorem dX1_joinNearest_40 : decode cX1_joinNearest 40 = .ok (.aload_n 0, 1) := by decide +kernel
theorem dX1_joinNearest_41 : decode cX1_joinNearest 41 = .ok (.getfield 18, 3) := by decide +kernel
theorem dX1_joinNearest_44 : decode cX1_joinNearest 44 = .ok (.iload 5, 2) := by decide +kernel
theorem dX1_joinNearest_46 : decode cX1_joinNearest 46 = .ok (.baload, 1) := by decide +kernel
theorem dX1_joinNearest_47 : decode cX1_joinNearest 47 = .ok (.ifCond .eq 48, 3) := by decide +kernel
theorem dX1_joinNearest_50 : decode cX1_joinNearest 50 = .ok (.aload_n 0, 1) := by decide +kernel
theorem dX1_joinNearest_51 : decode cX1_joinNearest 51 = .ok (.getfield 9, 3) := by decide +kernel
theorem dX1_joinNearest_54 : decode cX1_joinNearest 54 = .ok (.iload 4, 2) := by decide +kernel
theorem dX1_joinNearest_56 : decode cX1_joinNearest 56 = .ok (.iaload, 1) := by decide +kernel
theorem dX1_joinNearest_57 : decode cX1_joinNearest 57 = .ok (.aload_n 0, 1) := by decide +kernel
theorem dX1_joinNearest_58 : decode cX1_joinNearest 58 = .ok (.getfield 9, 3) := by decide +kernel
theorem dX1_joinNearest_61 : decode cX1_joinNearest 61 = .ok (.iload 5, 2) := by decide +kernel
theorem dX1_joinNearest_63 : decode cX1_joinNearest 63 = .ok (.iaload, 1) := by decide +kernel
theorem dX1_joinNearest_64 : decode cX1_joinNearest 64 = .ok (.invokestatic 50, 3) := by decide +kernel
theorem dX1_joinNearest_67 : decode cX1_joinNearest 67 = .ok (.iload_n 1, 1) := by decide +kernel
theorem dX1_joinNearest_68 : decode cX1_joinNearest 68 = .ok (.if_icmp .ge 27, 3) := by decide +kernel
theorem dX1_joinNearest_71 : decode cX1_joinNearest 71 = .ok (.aload_n 0, 1) := by decide +kernel
theorem dX1_joinNearest_72 : decode cX1_joinNearest 72 = .ok (.getfield 9, 3) := by decide +kernel
theorem dX1_joinNearest_75 : decode cX1_joinNearest 75 = .ok (.iload 4, 2) := by decide +kernel
theorem dX1_joinNearest_77 : decode cX1_joinNearest 77 = .ok (.iaload, 1) := by decide +kernel
theorem dX1_joinNearest_78 : decode cX1_joinNearest 78 = .ok (.aload_n 0, 1) := by decide +kernel
theorem dX1_joinNearest_79 : decode cX1_joinNearest 79 = .ok (.getfield 9, 3) := by decide +kernel
theorem dX1_joinNearest_82 : decode cX1_joinNearest 82 = .ok (.iload 5, 2) := by decide +kernel
theorem dX1_joinNearest_84 : decode cX1_joinNearest 84 = .ok (.iaload, 1) := by decide +kernel
theorem dX1_joinNearest_85 : decode cX1_joinNearest 85 = .ok (.invokestatic 50, 3) := by decide +kernel
theorem dX1_joinNearest_88 : decode cX1_joinNearest 88 = .ok (.istore_n 1, 1) := by decide +kernel
theorem dX1_joinNearest_89 : decode cX1_joinNearest 89 = .ok (.iload 4, 2) := by decide +kernel
theorem dX1_joinNearest_91 : decode cX1_joinNearest 91 = .ok (.istore_n 2, 1) := by decide +kernel
theorem dX1_joinNearest_92 : decode cX1_joinNearest 92 = .ok (.iload 5, 2) := by decide +kernel
theorem dX1_joinNearest_94 : decode cX1_joinNearest 94 = .ok (.istore_n 3, 1) := by decide +kernel
theorem dX1_joinNearest_95 : decode cX1_joinNearest 95 = .ok (.iinc 5 1, 3) := by decide +kernel
theorem dX1_joinNearest_98 : decode cX1_joinNearest 98 = .ok (.goto (-77), 3) := by decide +kernel
theorem dX1_joinNearest_101 : decode cX1_joinNearest 101 = .ok (.iinc 4 1, 3) := by decide +kernel
theorem dX1_joinNearest_104 : decode cX1_joinNearest 104 = .ok (.goto (-95), 3) := by decide +kernel
theorem dX1_joinNearest_107 : decode cX1_joinNearest 107 = .ok (.aload_n 0, 1) := by decide +kernel
theorem dX1_joinNearest_108 : decode cX1_joinNearest 108 = .ok (.getfield 18, 3) := by decide +kernel
theorem dX1_joinNearest_111 : decode cX1_joinNearest 111 = .ok (.iload_n 2, 1) := by decide +kernel
theorem dX1_joinNearest_112 : decode cX1_joinNearest 112 = .ok (.iconst 1, 1) := by decide +kernel
theorem dX1_joinNearest_113 : decode cX1_joinNearest 113 = .ok (.bastore, 1) := by decide +kernel
theorem dX1_joinNearest_114 : decode cX1_joinNearest 114 = .ok (.aload_n 0, 1) := by decide +kernel
theorem dX1_joinNearest_115 : decode cX1_joinNearest 115 = .ok (.getfield 15, 3) := by decide +kernel
theorem dX1_joinNearest_118 : decode cX1_joinNearest 118 = .ok (.iload_n 2, 1) := by decide +kernel
theorem dX1_joinNearest_119 : decode cX1_joinNearest 119 = .ok (.iload_n 3, 1) := by decide +kernel
theorem dX1_joinNearest_120 : decode cX1_joinNearest 120 = .ok (.iastore, 1) := by decide +kernel
theorem dX1_joinNearest_121 : decode cX1_joinNearest 121 = .ok (.iload_n 1, 1) := by decide +kernel
theorem dX1_joinNearest_122 : decode cX1_joinNearest 122 = .ok (.ireturn, 1) := by decide +kernel
theorem dX2_together_0 : decode cX2_together 0 = .ok (.sipush 1000, 3) := by decide +kernel
theorem dX2_together_3 : decode cX2_together 3 = .ok (.iload_n 0, 1) := by decide +kernel
theorem dX2_together_4 : decode cX2_together 4 = .ok (.imul, 1) := by decide +kernel
theorem dX2_together_5 : decode cX2_together 5 = .ok (.bipush 100, 2) := by decide +kernel
theorem dX2_together_7 : decode cX2_together 7 = .ok (.iload_n 1, 1) := by decide +kernel
theorem dX2_together_8 : decode cX2_together 8 = .ok (.imul, 1) := by decide +kernel
theorem dX2_together_9 : decode cX2_together 9 = .ok (.iadd, 1) := by decide +kernel
theorem dX2_together_10 : decode cX2_together 10 = .ok (.bipush 10, 2) := by decide +kernel
theorem dX2_together_12 : decode cX2_together 12 = .ok (.iload_n 2, 1) := by decide +kernel
theorem dX2_together_13 : decode cX2_together 13 = .ok (.imul, 1) := by decide +kernel
theorem dX2_together_14 : decode cX2_together 14 = .ok (.iadd, 1) := by decide +kernel
theorem dX2_together_15 : decode cX2_together 15 = .ok (.iload_n 3, 1) := by decide +kernel
theorem dX2_together_16 : decode cX2_together 16 = .ok (.iadd, 1) := by decide +kernel
theorem dX2_together_17 : decode cX2_together 17 = .ok (.ireturn, 1) := by decide +kernel
theorem dX2_at_0 : decode cX2_at 0 = .ok (.iload_n 0, 1) := by decide +kernel
theorem dX2_at_1 : decode cX2_at 1 = .ok (.getstatic 7, 3) := by decide +kernel
theorem dX2_at_4 : decode cX2_at 4 = .ok (.iload_n 1, 1) := by decide +kernel
theorem dX2_at_5 : decode cX2_at 5 = .ok (.iaload, 1) := by decide +kernel
theorem dX2_at_6 : decode cX2_at 6 = .ok (.idiv, 1) := by decide +kernel
theorem dX2_at_7 : decode cX2_at 7 = .ok (.bipush 10, 2) := by decide +kernel
theorem dX2_at_9 : decode cX2_at 9 = .ok (.irem, 1) := by decide +kernel
theorem dX2_at_10 : decode cX2_at 10 = .ok (.ireturn, 1) := by decide +kernel
theorem dX2_with_0 : decode cX2_with 0 = .ok (.iload_n 0, 1) := by decide +kernel
theorem dX2_with_1 : decode cX2_with 1 = .ok (.iload_n 2, 1) := by decide +kernel
theorem dX2_with_2 : decode cX2_with 2 = .ok (.iload_n 0, 1) := by decide +kernel
theorem dX2_with_3 : decode cX2_with 3 = .ok (.iload_n 1, 1) := by decide +kernel
theorem dX2_with_4 : decode cX2_with 4 = .ok (.invokestatic 13, 3) := by decide +kernel
theorem dX2_with_7 : decode cX2_with 7 = .ok (.isub, 1) := by decide +kernel
theorem dX2_with_8 : decode cX2_with 8 = .ok (.getstatic 7, 3) := by decide +kernel
theorem dX2_with_11 : decode cX2_with 11 = .ok (.iload_n 1, 1) := by decide +kernel
theorem dX2_with_12 : decode cX2_with 12 = .ok (.iaload, 1) := by decide +kernel
theorem dX2_with_13 : decode cX2_with 13 = .ok (.imul, 1) := by decide +kernel
theorem dX2_with_14 : decode cX2_with 14 = .ok (.iadd, 1) := by decide +kernel
theorem dX2_with_15 : decode cX2_with 15 = .ok (.ireturn, 1) := by decide +kernel
theorem dX2_asTold_0 : decode cX2_asTold 0 = .ok (.iload_n 1, 1) := by decide +kernel
theorem dX2_asTold_1 : decode cX2_asTold 1 = .ok (.ifCond .ne 5, 3) := by decide +kernel
theorem dX2_asTold_4 : decode cX2_asTold 4 = .ok (.iload_n 0, 1) := by decide +kernel
theorem dX2_asTold_5 : decode cX2_asTold 5 = .ok (.ireturn, 1) := by decide +kernel
theorem dX2_asTold_6 : decode cX2_asTold 6 = .ok (.getstatic 7, 3) := by decide +kernel
theorem dX2_asTold_9 : decode cX2_asTold 9 = .ok (.iload_n 1, 1) := by decide +kernel
theorem dX2_asTold_10 : decode cX2_asTold 10 = .ok (.iconst 1, 1) := by decide +kernel
theorem dX2_asTold_11 : decode cX2_asTold 11 = .ok (.isub, 1) := by decide +kernel
theorem dX2_asTold_12 : decode cX2_asTold 12 = .ok (.iaload, 1) := by decide +kernel
theorem dX2_asTold_13 : decode cX2_asTold 13 = .ok (.istore_n 2, 1) := by decide +kernel
theorem dX2_asTold_14 : decode cX2_asTold 14 = .ok (.iload_n 0, 1) := by decide +kernel
theorem dX2_asTold_15 : decode cX2_asTold 15 = .ok (.iload_n 2, 1) := by decide +kernel
theorem dX2_asTold_16 : decode cX2_asTold 16 = .ok (.idiv, 1) := by decide +kernel
theorem dX2_asTold_17 : decode cX2_asTold 17 = .ok (.bipush 10, 2) := by decide +kernel
theorem dX2_asTold_19 : decode cX2_asTold 19 = .ok (.irem, 1) := by decide +kernel
theorem dX2_asTold_20 : decode cX2_asTold 20 = .ok (.bipush 9, 2) := by decide +kernel
theorem dX2_asTold_22 : decode cX2_asTold 22 = .ok (.if_icmp .ne 12, 3) := by decide +kernel
theorem dX2_asTold_25 : decode cX2_asTold 25 = .ok (.iload_n 0, 1) := by decide +kernel
theorem dX2_asTold_26 : decode cX2_asTold 26 = .ok (.bipush 9, 2) := by decide +kernel
theorem dX2_asTold_28 : decode cX2_asTold 28 = .ok (.iload_n 2, 1) := by decide +kernel
theorem dX2_asTold_29 : decode cX2_asTold 29 = .ok (.imul, 1) := by decide +kernel
theorem dX2_asTold_30 : decode cX2_asTold 30 = .ok (.isub, 1) := by decide +kernel
theorem dX2_asTold_31 : decode cX2_asTold 31 = .ok (.goto 6, 3) := by decide +kernel
theorem dX2_asTold_34 : decode cX2_asTold 34 = .ok (.iload_n 0, 1) := by decide +kernel
theorem dX2_asTold_35 : decode cX2_asTold 35 = .ok (.iload_n 2, 1) := by decide +kernel
theorem dX2_asTold_36 : decode cX2_asTold 36 = .ok (.iadd, 1) := by decide +kernel
theorem dX2_asTold_37 : decode cX2_asTold 37 = .ok (.ireturn, 1) := by decide +kernel
theorem dX2_distance_0 : decode cX2_distance 0 = .ok (.iconst 0, 1) := by decide +kernel
theorem dX2_distance_1 : decode cX2_distance 1 = .ok (.istore_n 2, 1) := by decide +kernel
theorem dX2_distance_2 : decode cX2_distance 2 = .ok (.iconst 0, 1) := by decide +kernel
theorem dX2_distance_3 : decode cX2_distance 3 = .ok (.istore_n 3, 1) := by decide +kernel
theorem dX2_distance_4 : decode cX2_distance 4 = .ok (.iload_n 3, 1) := by decide +kernel
theorem dX2_distance_5 : decode cX2_distance 5 = .ok (.iconst 4, 1) := by decide +kernel
theorem dX2_distance_6 : decode cX2_distance 6 = .ok (.if_icmp .ge 25, 3) := by decide +kernel
theorem dX2_distance_9 : decode cX2_distance 9 = .ok (.iload_n 0, 1) := by decide +kernel
theorem dX2_distance_10 : decode cX2_distance 10 = .ok (.iload_n 3, 1) := by decide +kernel
theorem dX2_distance_11 : decode cX2_distance 11 = .ok (.invokestatic 13, 3) := by decide +kernel
theorem dX2_distance_14 : decode cX2_distance 14 = .ok (.iload_n 1, 1) := by decide +kernel
theorem dX2_distance_15 : decode cX2_distance 15 = .ok (.iload_n 3, 1) := by decide +kernel
theorem dX2_distance_16 : decode cX2_distance 16 = .ok (.invokestatic 13, 3) := by decide +kernel
theorem dX2_distance_19 : decode cX2_distance 19 = .ok (.if_icmp .eq 6, 3) := by decide +kernel
theorem dX2_distance_22 : decode cX2_distance 22 = .ok (.iinc 2 1, 3) := by decide +kernel
theorem dX2_distance_25 : decode cX2_distance 25 = .ok (.iinc 3 1, 3) := by decide +kernel
theorem dX2_distance_28 : decode cX2_distance 28 = .ok (.goto (-24), 3) := by decide +kernel
theorem dX2_distance_31 : decode cX2_distance 31 = .ok (.iload_n 2, 1) := by decide +kernel
theorem dX2_distance_32 : decode cX2_distance 32 = .ok (.ireturn, 1) := by decide +kernel
theorem dX3_init_0 : decode cX3_init 0 = .ok (.aload_n 0, 1) := by decide +kernel
theorem dX3_init_1 : decode cX3_init 1 = .ok (.invokespecial 3, 3) := by decide +kernel
theorem dX3_init_4 : decode cX3_init 4 = .ok (.aload_n 0, 1) := by decide +kernel
theorem dX3_init_5 : decode cX3_init 5 = .ok (.bipush 8, 2) := by decide +kernel
theorem dX3_init_7 : decode cX3_init 7 = .ok (.bipush 6, 2) := by decide +kernel
theorem dX3_init_9 : decode cX3_init 9 = .ok (.multianewarray 9 2, 4) := by decide +kernel
theorem dX3_init_13 : decode cX3_init 13 = .ok (.putfield 11, 3) := by decide +kernel
theorem dX3_init_16 : decode cX3_init 16 = .ok (.return_, 1) := by decide +kernel
theorem dX3_awaitSaying_0 : decode cX3_awaitSaying 0 = .ok (.iconst 0, 1) := by decide +kernel
theorem dX3_awaitSaying_1 : decode cX3_awaitSaying 1 = .ok (.istore_n 2, 1) := by decide +kernel
theorem dX3_awaitSaying_2 : decode cX3_awaitSaying 2 = .ok (.iload_n 2, 1) := by decide +kernel
theorem dX3_awaitSaying_3 : decode cX3_awaitSaying 3 = .ok (.bipush 6, 2) := by decide +kernel
theorem dX3_awaitSaying_5 : decode cX3_awaitSaying 5 = .ok (.if_icmp .ge 19, 3) := by decide +kernel
theorem dX3_awaitSaying_8 : decode cX3_awaitSaying 8 = .ok (.aload_n 0, 1) := by decide +kernel
theorem dX3_awaitSaying_9 : decode cX3_awaitSaying 9 = .ok (.getfield 11, 3) := by decide +kernel
theorem dX3_awaitSaying_12 : decode cX3_awaitSaying 12 = .ok (.iload_n 1, 1) := by decide +kernel
theorem dX3_awaitSaying_13 : decode cX3_awaitSaying 13 = .ok (.aaload, 1) := by decide +kernel
theorem dX3_awaitSaying_14 : decode cX3_awaitSaying 14 = .ok (.iload_n 2, 1) := by decide +kernel
theorem dX3_awaitSaying_15 : decode cX3_awaitSaying 15 = .ok (.bipush 24, 2) := by decide +kernel
theorem dX3_awaitSaying_17 : decode cX3_awaitSaying 17 = .ok (.iastore, 1) := by decide +kernel
theorem dX3_awaitSaying_18 : decode cX3_awaitSaying 18 = .ok (.iinc 2 1, 3) := by decide +kernel
theorem dX3_awaitSaying_21 : decode cX3_awaitSaying 21 = .ok (.goto (-19), 3) := by decide +kernel
theorem dX3_awaitSaying_24 : decode cX3_awaitSaying 24 = .ok (.return_, 1) := by decide +kernel
theorem dX3_hear_0 : decode cX3_hear 0 = .ok (.iconst 0, 1) := by decide +kernel
theorem dX3_hear_1 : decode cX3_hear 1 = .ok (.istore 4, 2) := by decide +kernel
theorem dX3_hear_3 : decode cX3_hear 3 = .ok (.iload 4, 2) := by decide +kernel
theorem dX3_hear_5 : decode cX3_hear 5 = .ok (.bipush 6, 2) := by decide +kernel
theorem dX3_hear_7 : decode cX3_hear 7 = .ok (.if_icmp .ge 40, 3) := by decide +kernel
theorem dX3_hear_10 : decode cX3_hear 10 = .ok (.iload_n 2, 1) := by decide +kernel
theorem dX3_hear_11 : decode cX3_hear 11 = .ok (.iload 4, 2) := by decide +kernel
theorem dX3_hear_13 : decode cX3_hear 13 = .ok (.invokestatic 16, 3) := by decide +kernel
theorem dX3_hear_16 : decode cX3_hear 16 = .ok (.ifCond .eq 25, 3) := by decide +kernel
theorem dX3_hear_19 : decode cX3_hear 19 = .ok (.aload_n 0, 1) := by decide +kernel
theorem dX3_hear_20 : decode cX3_hear 20 = .ok (.getfield 11, 3) := by decide +kernel
theorem dX3_hear_23 : decode cX3_hear 23 = .ok (.iload_n 1, 1) := by decide +kernel
theorem dX3_hear_24 : decode cX3_hear 24 = .ok (.aaload, 1) := by decide +kernel
theorem dX3_hear_25 : decode cX3_hear 25 = .ok (.iload 4, 2) := by decide +kernel
theorem dX3_hear_27 : decode cX3_hear 27 = .ok (.aload_n 0, 1) := by decide +kernel
theorem dX3_hear_28 : decode cX3_hear 28 = .ok (.getfield 11, 3) := by decide +kernel
theorem dX3_hear_31 : decode cX3_hear 31 = .ok (.iload_n 1, 1) := by decide +kernel
theorem dX3_hear_32 : decode cX3_hear 32 = .ok (.aaload, 1) := by decide +kernel
theorem dX3_hear_33 : decode cX3_hear 33 = .ok (.iload 4, 2) := by decide +kernel
theorem dX3_hear_35 : decode cX3_hear 35 = .ok (.iaload, 1) := by decide +kernel
theorem dX3_hear_36 : decode cX3_hear 36 = .ok (.iload_n 3, 1) := by decide +kernel
theorem dX3_hear_37 : decode cX3_hear 37 = .ok (.invokestatic 20, 3) := by decide +kernel
theorem dX3_hear_40 : decode cX3_hear 40 = .ok (.iastore, 1) := by decide +kernel
theorem dX3_hear_41 : decode cX3_hear 41 = .ok (.iinc 4 1, 3) := by decide +kernel
theorem dX3_hear_44 : decode cX3_hear 44 = .ok (.goto (-41), 3) := by decide +kernel
theorem dX3_hear_47 : decode cX3_hear 47 = .ok (.return_, 1) := by decide +kernel
theorem dX3_choose_0 : decode cX3_choose 0 = .ok (.iconst 0, 1) := by decide +kernel
theorem dX3_choose_1 : decode cX3_choose 1 = .ok (.istore_n 3, 1) := by decide +kernel
theorem dX3_choose_2 : decode cX3_choose 2 = .ok (.sipush 193, 3) := by decide +kernel
theorem dX3_choose_5 : decode cX3_choose 5 = .ok (.istore 4, 2) := by decide +kernel
theorem dX3_choose_7 : decode cX3_choose 7 = .ok (.iconst 1, 1) := by decide +kernel
theorem dX3_choose_8 : decode cX3_choose 8 = .ok (.istore 5, 2) := by decide +kernel
theorem dX3_choose_10 : decode cX3_choose 10 = .ok (.iload 5, 2) := by decide +kernel
theorem dX3_choose_12 : decode cX3_choose 12 = .ok (.bipush 64, 2) := by decide +kernel
theorem dX3_choose_14 : decode cX3_choose 14 = .ok (.if_icmp .ge 42, 3) := by decide +kernel
theorem dX3_choose_17 : decode cX3_choose 17 = .ok (.iload 5, 2) := by decide +kernel
theorem dX3_choose_19 : decode cX3_choose 19 = .ok (.invokestatic 26, 3) := by decide +kernel
theorem dX3_choose_22 : decode cX3_choose 22 = .ok (.iload_n 1, 1) := by decide +kernel
theorem dX3_choose_23 : decode cX3_choose 23 = .ok (.if_icmp .ne 27, 3) := by decide +kernel
theorem dX3_choose_26 : decode cX3_choose 26 = .ok (.aload_n 0, 1) := by decide +kernel
theorem dX3_choose_27 : decode cX3_choose 27 = .ok (.iload 5, 2) := by decide +kernel
theorem dX3_choose_29 : decode cX3_choose 29 = .ok (.iload_n 2, 1) := by decide +kernel
theorem dX3_choose_30 : decode cX3_choose 30 = .ok (.invokevirtual 32, 3) := by decide +kernel
theorem dX3_choose_33 : decode cX3_choose 33 = .ok (.iload 4, 2) := by decide +kernel
theorem dX3_choose_35 : decode cX3_choose 35 = .ok (.if_icmp .ge 15, 3) := by decide +kernel
theorem dX3_choose_38 : decode cX3_choose 38 = .ok (.aload_n 0, 1) := by decide +kernel
theorem dX3_choose_39 : decode cX3_choose 39 = .ok (.iload 5, 2) := by decide +kernel
theorem dX3_choose_41 : decode cX3_choose 41 = .ok (.iload_n 2, 1) := by decide +kernel
theorem dX3_choose_42 : decode cX3_choose 42 = .ok (.invokevirtual 32, 3) := by decide +kernel
theorem dX3_choose_45 : decode cX3_choose 45 = .ok (.istore 4, 2) := by decide +kernel
theorem dX3_choose_47 : decode cX3_choose 47 = .ok (.iload 5, 2) := by decide +kernel
theorem dX3_choose_49 : decode cX3_choose 49 = .ok (.istore_n 3, 1) := by decide +kernel
theorem dX3_choose_50 : decode cX3_choose 50 = .ok (.iinc 5 1, 3) := by decide +kernel
theorem dX3_choose_53 : decode cX3_choose 53 = .ok (.goto (-43), 3) := by decide +kernel
theorem dX3_choose_56 : decode cX3_choose 56 = .ok (.iload_n 3, 1) := by decide +kernel
theorem dX3_choose_57 : decode cX3_choose 57 = .ok (.ireturn, 1) := by decide +kernel
theorem dX3_sumOf_0 : decode cX3_sumOf 0 = .ok (.iconst 0, 1) := by decide +kernel
theorem dX3_sumOf_1 : decode cX3_sumOf 1 = .ok (.istore_n 3, 1) := by decide +kernel
theorem dX3_sumOf_2 : decode cX3_sumOf 2 = .ok (.iconst 0, 1) := by decide +kernel
theorem dX3_sumOf_3 : decode cX3_sumOf 3 = .ok (.istore 4, 2) := by decide +kernel
theorem dX3_sumOf_5 : decode cX3_sumOf 5 = .ok (.iload 4, 2) := by decide +kernel
theorem dX3_sumOf_7 : decode cX3_sumOf 7 = .ok (.iload_n 2, 1) := by decide +kernel
theorem dX3_sumOf_8 : decode cX3_sumOf 8 = .ok (.if_icmp .ge 60, 3) := by decide +kernel
theorem dX3_sumOf_11 : decode cX3_sumOf 11 = .ok (.bipush 24, 2) := by decide +kernel
theorem dX3_sumOf_13 : decode cX3_sumOf 13 = .ok (.istore 5, 2) := by decide +kernel
theorem dX3_sumOf_15 : decode cX3_sumOf 15 = .ok (.iconst 0, 1) := by decide +kernel
theorem dX3_sumOf_16 : decode cX3_sumOf 16 = .ok (.istore 6, 2) := by decide +kernel
theorem dX3_sumOf_18 : decode cX3_sumOf 18 = .ok (.iload 6, 2) := by decide +kernel
theorem dX3_sumOf_20 : decode cX3_sumOf 20 = .ok (.bipush 6, 2) := by decide +kernel
theorem dX3_sumOf_22 : decode cX3_sumOf 22 = .ok (.if_icmp .ge 35, 3) := by decide +kernel
theorem dX3_sumOf_25 : decode cX3_sumOf 25 = .ok (.iload_n 1, 1) := by decide +kernel
theorem dX3_sumOf_26 : decode cX3_sumOf 26 = .ok (.iload 6, 2) := by decide +kernel
theorem dX3_sumOf_28 : decode cX3_sumOf 28 = .ok (.invokestatic 16, 3) := by decide +kernel
theorem dX3_sumOf_31 : decode cX3_sumOf 31 = .ok (.ifCond .eq 20, 3) := by decide +kernel
theorem dX3_sumOf_34 : decode cX3_sumOf 34 = .ok (.iload 5, 2) := by decide +kernel
theorem dX3_sumOf_36 : decode cX3_sumOf 36 = .ok (.aload_n 0, 1) := by decide +kernel
theorem dX3_sumOf_37 : decode cX3_sumOf 37 = .ok (.getfield 11, 3) := by decide +kernel
theorem dX3_sumOf_40 : decode cX3_sumOf 40 = .ok (.iload 4, 2) := by decide +kernel
theorem dX3_sumOf_42 : decode cX3_sumOf 42 = .ok (.aaload, 1) := by decide +kernel
theorem dX3_sumOf_43 : decode cX3_sumOf 43 = .ok (.iload 6, 2) := by decide +kernel
theorem dX3_sumOf_45 : decode cX3_sumOf 45 = .ok (.iaload, 1) := by decide +kernel
theorem dX3_sumOf_46 : decode cX3_sumOf 46 = .ok (.invokestatic 20, 3) := by decide +kernel
theorem dX3_sumOf_49 : decode cX3_sumOf 49 = .ok (.istore 5, 2) := by decide +kernel
theorem dX3_sumOf_51 : decode cX3_sumOf 51 = .ok (.iinc 6 1, 3) := by decide +kernel
theorem dX3_sumOf_54 : decode cX3_sumOf 54 = .ok (.goto (-36), 3) := by decide +kernel
theorem dX3_sumOf_57 : decode cX3_sumOf 57 = .ok (.iload_n 3, 1) := by decide +kernel
theorem dX3_sumOf_58 : decode cX3_sumOf 58 = .ok (.iload 5, 2) := by decide +kernel
theorem dX3_sumOf_60 : decode cX3_sumOf 60 = .ok (.iadd, 1) := by decide +kernel
theorem dX3_sumOf_61 : decode cX3_sumOf 61 = .ok (.istore_n 3, 1) := by decide +kernel
theorem dX3_sumOf_62 : decode cX3_sumOf 62 = .ok (.iinc 4 1, 3) := by decide +kernel
theorem dX3_sumOf_65 : decode cX3_sumOf 65 = .ok (.goto (-60), 3) := by decide +kernel
theorem dX3_sumOf_68 : decode cX3_sumOf 68 = .ok (.iload_n 3, 1) := by decide +kernel
theorem dX3_sumOf_69 : decode cX3_sumOf 69 = .ok (.ireturn, 1) := by decide +kernel
theorem dX4_init_0 : decode cX4_init 0 = .ok (.aload_n 0, 1) := by decide +kernel
theorem dX4_init_1 : decode cX4_init 1 = .ok (.invokespecial 3, 3) := by decide +kernel
theorem dX4_init_4 : decode cX4_init 4 = .ok (.aload_n 0, 1) := by decide +kernel
theorem dX4_init_5 : decode cX4_init 5 = .ok (.bipush (-4), 2) := by decide +kernel
theorem dX4_init_7 : decode cX4_init 7 = .ok (.putfield 9, 3) := by decide +kernel
theorem dX4_init_10 : decode cX4_init 10 = .ok (.aload_n 0, 1) := by decide +kernel
theorem dX4_init_11 : decode cX4_init 11 = .ok (.bipush 24, 2) := by decide +kernel
theorem dX4_init_13 : decode cX4_init 13 = .ok (.newarray .int, 2) := by decide +kernel
theorem dX4_init_15 : decode cX4_init 15 = .ok (.putfield 15, 3) := by decide +kernel
theorem dX4_init_18 : decode cX4_init 18 = .ok (.aload_n 0, 1) := by decide +kernel
theorem dX4_init_19 : decode cX4_init 19 = .ok (.bipush 24, 2) := by decide +kernel
theorem dX4_init_21 : decode cX4_init 21 = .ok (.newarray .int, 2) := by decide +kernel
theorem dX4_init_23 : decode cX4_init 23 = .ok (.putfield 19, 3) := by decide +kernel
theorem dX4_init_26 : decode cX4_init 26 = .ok (.return_, 1) := by decide +kernel
theorem dX4_take_0 : decode cX4_take 0 = .ok (.iload_n 3, 1) := by decide +kernel
theorem dX4_take_1 : decode cX4_take 1 = .ok (.ifCond .eq 18, 3) := by decide +kernel
theorem dX4_take_4 : decode cX4_take 4 = .ok (.aload_n 0, 1) := by decide +kernel
theorem dX4_take_5 : decode cX4_take 5 = .ok (.getfield 15, 3) := by decide +kernel
theorem dX4_take_8 : decode cX4_take 8 = .ok (.iload_n 2, 1) := by decide +kernel
theorem dX4_take_9 : decode cX4_take 9 = .ok (.dup2, 1) := by decide +kernel
theorem dX4_take_10 : decode cX4_take 10 = .ok (.iaload, 1) := by decide +kernel
theorem dX4_take_11 : decode cX4_take 11 = .ok (.iconst 1, 1) := by decide +kernel
theorem dX4_take_12 : decode cX4_take 12 = .ok (.iload_n 1, 1) := by decide +kernel
theorem dX4_take_13 : decode cX4_take 13 = .ok (.ishl, 1) := by decide +kernel
theorem dX4_take_14 : decode cX4_take 14 = .ok (.ior, 1) := by decide +kernel
theorem dX4_take_15 : decode cX4_take 15 = .ok (.iastore, 1) := by decide +kernel
theorem dX4_take_16 : decode cX4_take 16 = .ok (.goto 15, 3) := by decide +kernel
theorem dX4_take_19 : decode cX4_take 19 = .ok (.aload_n 0, 1) := by decide +kernel
theorem dX4_take_20 : decode cX4_take 20 = .ok (.getfield 19, 3) := by decide +kernel
theorem dX4_take_23 : decode cX4_take 23 = .ok (.iload_n 2, 1) := by decide +kernel
theorem dX4_take_24 : decode cX4_take 24 = .ok (.dup2, 1) := by decide +kernel
theorem dX4_take_25 : decode cX4_take 25 = .ok (.iaload, 1) := by decide +kernel
theorem dX4_take_26 : decode cX4_take 26 = .ok (.iconst 1, 1) := by decide +kernel
theorem dX4_take_27 : decode cX4_take 27 = .ok (.iload_n 1, 1) := by decide +kernel
theorem dX4_take_28 : decode cX4_take 28 = .ok (.ishl, 1) := by decide +kernel
theorem dX4_take_29 : decode cX4_take 29 = .ok (.ior, 1) := by decide +kernel
theorem dX4_take_30 : decode cX4_take 30 = .ok (.iastore, 1) := by decide +kernel
theorem dX4_take_31 : decode cX4_take 31 = .ok (.aload_n 0, 1) := by decide +kernel
theorem dX4_take_32 : decode cX4_take 32 = .ok (.aload_n 0, 1) := by decide +kernel
theorem dX4_take_33 : decode cX4_take 33 = .ok (.getfield 9, 3) := by decide +kernel
theorem dX4_take_36 : decode cX4_take 36 = .ok (.iload_n 2, 1) := by decide +kernel
theorem dX4_take_37 : decode cX4_take 37 = .ok (.invokestatic 22, 3) := by decide +kernel
theorem dX4_take_40 : decode cX4_take 40 = .ok (.putfield 9, 3) := by decide +kernel
theorem dX4_take_43 : decode cX4_take 43 = .ok (.aload_n 0, 1) := by decide +kernel
theorem dX4_take_44 : decode cX4_take 44 = .ok (.dup, 1) := by decide +kernel
theorem dX4_take_45 : decode cX4_take 45 = .ok (.getfield 28, 3) := by decide +kernel
theorem dX4_take_48 : decode cX4_take 48 = .ok (.iconst 1, 1) := by decide +kernel
theorem dX4_take_49 : decode cX4_take 49 = .ok (.iadd, 1) := by decide +kernel
theorem dX4_take_50 : decode cX4_take 50 = .ok (.putfield 28, 3) := by decide +kernel
theorem dX4_take_53 : decode cX4_take 53 = .ok (.aload_n 0, 1) := by decide +kernel
theorem dX4_take_54 : decode cX4_take 54 = .ok (.getfield 28, 3) := by decide +kernel
theorem dX4_take_57 : decode cX4_take 57 = .ok (.iconst 1, 1) := by decide +kernel
theorem dX4_take_58 : decode cX4_take 58 = .ok (.isub, 1) := by decide +kernel
theorem dX4_take_59 : decode cX4_take 59 = .ok (.ireturn, 1) := by decide +kernel
theorem dX4_forget_0 : decode cX4_forget 0 = .ok (.iconst 0, 1) := by decide +kernel
theorem dX4_forget_1 : decode cX4_forget 1 = .ok (.istore_n 1, 1) := by decide +kernel
theorem dX4_forget_2 : decode cX4_forget 2 = .ok (.iload_n 1, 1) := by decide +kernel
theorem dX4_forget_3 : decode cX4_forget 3 = .ok (.bipush 24, 2) := by decide +kernel
theorem dX4_forget_5 : decode cX4_forget 5 = .ok (.if_icmp .ge 23, 3) := by decide +kernel
theorem dX4_forget_8 : decode cX4_forget 8 = .ok (.aload_n 0, 1) := by decide +kernel
theorem dX4_forget_9 : decode cX4_forget 9 = .ok (.getfield 15, 3) := by decide +kernel
theorem dX4_forget_12 : decode cX4_forget 12 = .ok (.iload_n 1, 1) := by decide +kernel
theorem dX4_forget_13 : decode cX4_forget 13 = .ok (.iconst 0, 1) := by decide +kernel
theorem dX4_forget_14 : decode cX4_forget 14 = .ok (.iastore, 1) := by decide +kernel
theorem dX4_forget_15 : decode cX4_forget 15 = .ok (.aload_n 0, 1) := by decide +kernel
theorem dX4_forget_16 : decode cX4_forget 16 = .ok (.getfield 19, 3) := by decide +kernel
theorem dX4_forget_19 : decode cX4_forget 19 = .ok (.iload_n 1, 1) := by decide +kernel
theorem dX4_forget_20 : decode cX4_forget 20 = .ok (.iconst 0, 1) := by decide +kernel
theorem dX4_forget_21 : decode cX4_forget 21 = .ok (.iastore, 1) := by decide +kernel
theorem dX4_forget_22 : decode cX4_forget 22 = .ok (.iinc 1 1, 3) := by decide +kernel
theorem dX4_forget_25 : decode cX4_forget 25 = .ok (.goto (-23), 3) := by decide +kernel
theorem dX4_forget_28 : decode cX4_forget 28 = .ok (.aload_n 0, 1) := by decide +kernel
theorem dX4_forget_29 : decode cX4_forget 29 = .ok (.getfield 28, 3) := by decide +kernel
theorem dX4_forget_32 : decode cX4_forget 32 = .ok (.istore_n 1, 1) := by decide +kernel
theorem dX4_forget_33 : decode cX4_forget 33 = .ok (.aload_n 0, 1) := by decide +kernel
theorem dX4_forget_34 : decode cX4_forget 34 = .ok (.iconst 0, 1) := by decide +kernel
theorem dX4_forget_35 : decode cX4_forget 35 = .ok (.putfield 28, 3) := by decide +kernel
theorem dX4_forget_38 : decode cX4_forget 38 = .ok (.aload_n 0, 1) := by decide +kernel
theorem dX4_forget_39 : decode cX4_forget 39 = .ok (.bipush (-4), 2) := by decide +kernel
theorem dX4_forget_41 : decode cX4_forget 41 = .ok (.putfield 9, 3) := by decide +kernel
theorem dX4_forget_44 : decode cX4_forget 44 = .ok (.iload_n 1, 1) := by decide +kernel
theorem dX4_forget_45 : decode cX4_forget 45 = .ok (.ireturn, 1) := by decide +kernel
theorem dX4_agreeWith_0 : decode cX4_agreeWith 0 = .ok (.aload_n 0, 1) := by decide +kernel
theorem dX4_agreeWith_1 : decode cX4_agreeWith 1 = .ok (.getfield 15, 3) := by decide +kernel
theorem dX4_agreeWith_4 : decode cX4_agreeWith 4 = .ok (.iload_n 1, 1) := by decide +kernel
theorem dX4_agreeWith_5 : decode cX4_agreeWith 5 = .ok (.iaload, 1) := by decide +kernel
theorem dX4_agreeWith_6 : decode cX4_agreeWith 6 = .ok (.iload_n 2, 1) := by decide +kernel
theorem dX4_agreeWith_7 : decode cX4_agreeWith 7 = .ok (.iconst (-1), 1) := by decide +kernel
theorem dX4_agreeWith_8 : decode cX4_agreeWith 8 = .ok (.ixor, 1) := by decide +kernel
theorem dX4_agreeWith_9 : decode cX4_agreeWith 9 = .ok (.iand, 1) := by decide +kernel
theorem dX4_agreeWith_10 : decode cX4_agreeWith 10 = .ok (.ifCond .ne 18, 3) := by decide +kernel
theorem dX4_agreeWith_13 : decode cX4_agreeWith 13 = .ok (.aload_n 0, 1) := by decide +kernel
theorem dX4_agreeWith_14 : decode cX4_agreeWith 14 = .ok (.getfield 19, 3) := by decide +kernel
theorem dX4_agreeWith_17 : decode cX4_agreeWith 17 = .ok (.iload_n 1, 1) := by decide +kernel
theorem dX4_agreeWith_18 : decode cX4_agreeWith 18 = .ok (.iaload, 1) := by decide +kernel
theorem dX4_agreeWith_19 : decode cX4_agreeWith 19 = .ok (.iload_n 2, 1) := by decide +kernel
theorem dX4_agreeWith_20 : decode cX4_agreeWith 20 = .ok (.iand, 1) := by decide +kernel
theorem dX4_agreeWith_21 : decode cX4_agreeWith 21 = .ok (.ifCond .ne 7, 3) := by decide +kernel
theorem dX4_agreeWith_24 : decode cX4_agreeWith 24 = .ok (.iconst 1, 1) := by decide +kernel
theorem dX4_agreeWith_25 : decode cX4_agreeWith 25 = .ok (.goto 4, 3) := by decide +kernel
theorem dX4_agreeWith_28 : decode cX4_agreeWith 28 = .ok (.iconst 0, 1) := by decide +kernel
theorem dX4_agreeWith_29 : decode cX4_agreeWith 29 = .ok (.ireturn, 1) := by decide +kernel
theorem dX5_init_0 : decode cX5_init 0 = .ok (.aload_n 0, 1) := by decide +kernel
theorem dX5_init_1 : decode cX5_init 1 = .ok (.invokespecial 3, 3) := by decide +kernel
theorem dX5_init_4 : decode cX5_init 4 = .ok (.aload_n 0, 1) := by decide +kernel
theorem dX5_init_5 : decode cX5_init 5 = .ok (.new 9, 3) := by decide +kernel
theorem dX5_init_8 : decode cX5_init 8 = .ok (.dup, 1) := by decide +kernel
theorem dX5_init_9 : decode cX5_init 9 = .ok (.invokespecial 11, 3) := by decide +kernel
theorem dX5_init_12 : decode cX5_init 12 = .ok (.putfield 12, 3) := by decide +kernel
theorem dX5_init_15 : decode cX5_init 15 = .ok (.return_, 1) := by decide +kernel
theorem dX5_isSecret_0 : decode cX5_isSecret 0 = .ok (.aload_n 0, 1) := by decide +kernel
theorem dX5_isSecret_1 : decode cX5_isSecret 1 = .ok (.getfield 18, 3) := by decide +kernel
theorem dX5_isSecret_4 : decode cX5_isSecret 4 = .ok (.iconst 3, 1) := by decide +kernel
theorem dX5_isSecret_5 : decode cX5_isSecret 5 = .ok (.if_icmp .ne 14, 3) := by decide +kernel
theorem dX5_isSecret_8 : decode cX5_isSecret 8 = .ok (.aload_n 0, 1) := by decide +kernel
theorem dX5_isSecret_9 : decode cX5_isSecret 9 = .ok (.getfield 22, 3) := by decide +kernel
theorem dX5_isSecret_12 : decode cX5_isSecret 12 = .ok (.ifCond .ne 7, 3) := by decide +kernel
theorem dX5_isSecret_15 : decode cX5_isSecret 15 = .ok (.iconst 1, 1) := by decide +kernel
theorem dX5_isSecret_16 : decode cX5_isSecret 16 = .ok (.goto 4, 3) := by decide +kernel
theorem dX5_isSecret_19 : decode cX5_isSecret 19 = .ok (.iconst 0, 1) := by decide +kernel
theorem dX5_isSecret_20 : decode cX5_isSecret 20 = .ok (.ireturn, 1) := by decide +kernel
theorem dX6_init_0 : decode cX6_init 0 = .ok (.aload_n 0, 1) := by decide +kernel
theorem dX6_init_1 : decode cX6_init 1 = .ok (.invokespecial 3, 3) := by decide +kernel
theorem dX6_init_4 : decode cX6_init 4 = .ok (.aload_n 0, 1) := by decide +kernel
theorem dX6_init_5 : decode cX6_init 5 = .ok (.bipush 32, 2) := by decide +kernel
theorem dX6_init_7 : decode cX6_init 7 = .ok (.newarray .int, 2) := by decide +kernel
theorem dX6_init_9 : decode cX6_init 9 = .ok (.putfield 11, 3) := by decide +kernel
theorem dX6_init_12 : decode cX6_init 12 = .ok (.aload_n 0, 1) := by decide +kernel
theorem dX6_init_13 : decode cX6_init 13 = .ok (.iconst (-1), 1) := by decide +kernel
theorem dX6_init_14 : decode cX6_init 14 = .ok (.putfield 15, 3) := by decide +kernel
theorem dX6_init_17 : decode cX6_init 17 = .ok (.return_, 1) := by decide +kernel
theorem dX6_isMissing_0 : decode cX6_isMissing 0 = .ok (.aload_n 0, 1) := by decide +kernel
theorem dX6_isMissing_1 : decode cX6_isMissing 1 = .ok (.getfield 15, 3) := by decide +kernel
theorem dX6_isMissing_4 : decode cX6_isMissing 4 = .ok (.iconst (-1), 1) := by decide +kernel
theorem dX6_isMissing_5 : decode cX6_isMissing 5 = .ok (.if_icmp .ne 7, 3) := by decide +kernel
theorem dX6_isMissing_8 : decode cX6_isMissing 8 = .ok (.iconst 1, 1) := by decide +kernel
theorem dX6_isMissing_9 : decode cX6_isMissing 9 = .ok (.goto 4, 3) := by decide +kernel
theorem dX6_isMissing_12 : decode cX6_isMissing 12 = .ok (.iconst 0, 1) := by decide +kernel
theorem dX6_isMissing_13 : decode cX6_isMissing 13 = .ok (.ireturn, 1) := by decide +kernel
theorem dX6_hold_0 : decode cX6_hold 0 = .ok (.aload_n 0, 1) := by decide +kernel
theorem dX6_hold_1 : decode cX6_hold 1 = .ok (.iload_n 1, 1) := by decide +kernel
theorem dX6_hold_2 : decode cX6_hold 2 = .ok (.putfield 15, 3) := by decide +kernel
theorem dX6_hold_5 : decode cX6_hold 5 = .ok (.aload_n 0, 1) := by decide +kernel
theorem dX6_hold_6 : decode cX6_hold 6 = .ok (.iload_n 2, 1) := by decide +kernel
theorem dX6_hold_7 : decode cX6_hold 7 = .ok (.putfield 19, 3) := by decide +kernel
theorem dX6_hold_10 : decode cX6_hold 10 = .ok (.iconst 0, 1) := by decide +kernel
theorem dX6_hold_11 : decode cX6_hold 11 = .ok (.istore_n 3, 1) := by decide +kernel
theorem dX6_hold_12 : decode cX6_hold 12 = .ok (.iload_n 3, 1) := by decide +kernel
theorem dX6_hold_13 : decode cX6_hold 13 = .ok (.bipush 32, 2) := by decide +kernel
theorem dX6_hold_15 : decode cX6_hold 15 = .ok (.if_icmp .ge 16, 3) := by decide +kernel
theorem dX6_hold_18 : decode cX6_hold 18 = .ok (.aload_n 0, 1) := by decide +kernel
theorem dX6_hold_19 : decode cX6_hold 19 = .ok (.getfield 11, 3) := by decide +kernel
theorem dX6_hold_22 : decode cX6_hold 22 = .ok (.iload_n 3, 1) := by decide +kernel
theorem dX6_hold_23 : decode cX6_hold 23 = .ok (.iconst 0, 1) := by decide +kernel
theorem dX6_hold_24 : decode cX6_hold 24 = .ok (.iastore, 1) := by decide +kernel
theorem dX6_hold_25 : decode cX6_hold 25 = .ok (.iinc 3 1, 3) := by decide +kernel
theorem dX6_hold_28 : decode cX6_hold 28 = .ok (.goto (-16), 3) := by decide +kernel
theorem dX6_hold_31 : decode cX6_hold 31 = .ok (.return_, 1) := by decide +kernel
theorem dX6_spans_0 : decode cX6_spans 0 = .ok (.iload_n 1, 1) := by decide +kernel
theorem dX6_spans_1 : decode cX6_spans 1 = .ok (.ifCond .lt 25, 3) := by decide +kernel
theorem dX6_spans_4 : decode cX6_spans 4 = .ok (.iload_n 2, 1) := by decide +kernel
theorem dX6_spans_5 : decode cX6_spans 5 = .ok (.aload_n 0, 1) := by decide +kernel
theorem dX6_spans_6 : decode cX6_spans 6 = .ok (.getfield 19, 3) := by decide +kernel
theorem dX6_spans_9 : decode cX6_spans 9 = .ok (.if_icmp .gt 17, 3) := by decide +kernel
theorem dX6_spans_12 : decode cX6_spans 12 = .ok (.iload_n 1, 1) := by decide +kernel
theorem dX6_spans_13 : decode cX6_spans 13 = .ok (.aload_n 0, 1) := by decide +kernel
theorem dX6_spans_14 : decode cX6_spans 14 = .ok (.getfield 19, 3) := by decide +kernel
theorem dX6_spans_17 : decode cX6_spans 17 = .ok (.iload_n 2, 1) := by decide +kernel
theorem dX6_spans_18 : decode cX6_spans 18 = .ok (.isub, 1) := by decide +kernel
theorem dX6_spans_19 : decode cX6_spans 19 = .ok (.if_icmp .gt 7, 3) := by decide +kernel
theorem dX6_spans_22 : decode cX6_spans 22 = .ok (.iconst 1, 1) := by decide +kernel
theorem dX6_spans_23 : decode cX6_spans 23 = .ok (.goto 4, 3) := by decide +kernel
theorem dX6_spans_26 : decode cX6_spans 26 = .ok (.iconst 0, 1) := by decide +kernel
theorem dX6_spans_27 : decode cX6_spans 27 = .ok (.ireturn, 1) := by decide +kernel
theorem dX6_faultFor_0 : decode cX6_faultFor 0 = .ok (.aload_n 0, 1) := by decide +kernel
theorem dX6_faultFor_1 : decode cX6_faultFor 1 = .ok (.invokevirtual 22, 3) := by decide +kernel
theorem dX6_faultFor_4 : decode cX6_faultFor 4 = .ok (.ifCond .eq 6, 3) := by decide +kernel
theorem dX6_faultFor_7 : decode cX6_faultFor 7 = .ok (.bipush (-11), 2) := by decide +kernel
theorem dX6_faultFor_9 : decode cX6_faultFor 9 = .ok (.ireturn, 1) := by decide +kernel
theorem dX6_faultFor_10 : decode cX6_faultFor 10 = .ok (.aload_n 0, 1) := by decide +kernel
theorem dX6_faultFor_11 : decode cX6_faultFor 11 = .ok (.getfield 15, 3) := by decide +kernel
theorem dX6_faultFor_14 : decode cX6_faultFor 14 = .ok (.iload_n 1, 1) := by decide +kernel
theorem dX6_faultFor_15 : decode cX6_faultFor 15 = .ok (.if_icmp .eq 6, 3) := by decide +kernel
theorem dX6_faultFor_18 : decode cX6_faultFor 18 = .ok (.bipush (-12), 2) := by decide +kernel
theorem dX6_faultFor_20 : decode cX6_faultFor 20 = .ok (.ireturn, 1) := by decide +kernel
theorem dX6_faultFor_21 : decode cX6_faultFor 21 = .ok (.aload_n 0, 1) := by decide +kernel
theorem dX6_faultFor_22 : decode cX6_faultFor 22 = .ok (.iload_n 2, 1) := by decide +kernel
theorem dX6_faultFor_23 : decode cX6_faultFor 23 = .ok (.iload_n 3, 1) := by decide +kernel
theorem dX6_faultFor_24 : decode cX6_faultFor 24 = .ok (.invokevirtual 26, 3) := by decide +kernel
theorem dX6_faultFor_27 : decode cX6_faultFor 27 = .ok (.ifCond .eq 7, 3) := by decide +kernel
theorem dX6_faultFor_30 : decode cX6_faultFor 30 = .ok (.iconst 0, 1) := by decide +kernel
theorem dX6_faultFor_31 : decode cX6_faultFor 31 = .ok (.goto 5, 3) := by decide +kernel
theorem dX6_faultFor_34 : decode cX6_faultFor 34 = .ok (.bipush (-13), 2) := by decide +kernel
theorem dX6_faultFor_36 : decode cX6_faultFor 36 = .ok (.ireturn, 1) := by decide +kernel
theorem dX6_asItem_0 : decode cX6_asItem 0 = .ok (.iload_n 0, 1) := by decide +kernel
theorem dX6_asItem_1 : decode cX6_asItem 1 = .ok (.ifCond .ne 13, 3) := by decide +kernel
theorem dX6_asItem_4 : decode cX6_asItem 4 = .ok (.iload_n 1, 1) := by decide +kernel
theorem dX6_asItem_5 : decode cX6_asItem 5 = .ok (.ifCond .eq 7, 3) := by decide +kernel
theorem dX6_asItem_8 : decode cX6_asItem 8 = .ok (.iconst 1, 1) := by decide +kernel
theorem dX6_asItem_9 : decode cX6_asItem 9 = .ok (.goto 4, 3) := by decide +kernel
theorem dX6_asItem_12 : decode cX6_asItem 12 = .ok (.iconst 0, 1) := by decide +kernel
theorem dX6_asItem_13 : decode cX6_asItem 13 = .ok (.ireturn, 1) := by decide +kernel
theorem dX6_asItem_14 : decode cX6_asItem 14 = .ok (.iload_n 0, 1) := by decide +kernel
theorem dX6_asItem_15 : decode cX6_asItem 15 = .ok (.iconst 1, 1) := by decide +kernel
theorem dX6_asItem_16 : decode cX6_asItem 16 = .ok (.if_icmp .ne 8, 3) := by decide +kernel
theorem dX6_asItem_19 : decode cX6_asItem 19 = .ok (.iload_n 1, 1) := by decide +kernel
theorem dX6_asItem_20 : decode cX6_asItem 20 = .ok (.i2b, 1) := by decide +kernel
theorem dX6_asItem_21 : decode cX6_asItem 21 = .ok (.goto 4, 3) := by decide +kernel
theorem dX6_asItem_24 : decode cX6_asItem 24 = .ok (.iload_n 1, 1) := by decide +kernel
theorem dX6_asItem_25 : decode cX6_asItem 25 = .ok (.ireturn, 1) := by decide +kernel
theorem dX7_init_0 : decode cX7_init 0 = .ok (.aload_n 0, 1) := by decide +kernel
theorem dX7_init_1 : decode cX7_init 1 = .ok (.invokespecial 3, 3) := by decide +kernel
theorem dX7_init_4 : decode cX7_init 4 = .ok (.aload_n 0, 1) := by decide +kernel
theorem dX7_init_5 : decode cX7_init 5 = .ok (.bipush 16, 2) := by decide +kernel
theorem dX7_init_7 : decode cX7_init 7 = .ok (.newarray .int, 2) := by decide +kernel
theorem dX7_init_9 : decode cX7_init 9 = .ok (.putfield 9, 3) := by decide +kernel
theorem dX7_init_12 : decode cX7_init 12 = .ok (.aload_n 0, 1) := by decide +kernel
theorem dX7_init_13 : decode cX7_init 13 = .ok (.bipush 16, 2) := by decide +kernel
theorem dX7_init_15 : decode cX7_init 15 = .ok (.newarray .int, 2) := by decide +kernel
theorem dX7_init_17 : decode cX7_init 17 = .ok (.putfield 15, 3) := by decide +kernel
theorem dX7_init_20 : decode cX7_init 20 = .ok (.aload_n 0, 1) := by decide +kernel
theorem dX7_init_21 : decode cX7_init 21 = .ok (.bipush 16, 2) := by decide +kernel
theorem dX7_init_23 : decode cX7_init 23 = .ok (.newarray .int, 2) := by decide +kernel
theorem dX7_init_25 : decode cX7_init 25 = .ok (.putfield 18, 3) := by decide +kernel
theorem dX7_init_28 : decode cX7_init 28 = .ok (.aload_n 0, 1) := by decide +kernel
theorem dX7_init_29 : decode cX7_init 29 = .ok (.bipush 16, 2) := by decide +kernel
theorem dX7_init_31 : decode cX7_init 31 = .ok (.newarray .int, 2) := by decide +kernel
theorem dX7_init_33 : decode cX7_init 33 = .ok (.putfield 21, 3) := by decide +kernel
theorem dX7_init_36 : decode cX7_init 36 = .ok (.aload_n 0, 1) := by decide +kernel
theorem dX7_init_37 : decode cX7_init 37 = .ok (.bipush 16, 2) := by decide +kernel
theorem dX7_init_39 : decode cX7_init 39 = .ok (.newarray .int, 2) := by decide +kernel
theorem dX7_init_41 : decode cX7_init 41 = .ok (.putfield 24, 3) := by decide +kernel
theorem dX7_init_44 : decode cX7_init 44 = .ok (.return_, 1) := by decide +kernel
theorem dX7_empty_0 : decode cX7_empty 0 = .ok (.iconst 0, 1) := by decide +kernel
theorem dX7_empty_1 : decode cX7_empty 1 = .ok (.istore_n 1, 1) := by decide +kernel
theorem dX7_empty_2 : decode cX7_empty 2 = .ok (.iload_n 1, 1) := by decide +kernel
theorem dX7_empty_3 : decode cX7_empty 3 = .ok (.bipush 16, 2) := by decide +kernel
theorem dX7_empty_5 : decode cX7_empty 5 = .ok (.if_icmp .ge 16, 3) := by decide +kernel
theorem dX7_empty_8 : decode cX7_empty 8 = .ok (.aload_n 0, 1) := by decide +kernel
theorem dX7_empty_9 : decode cX7_empty 9 = .ok (.getfield 9, 3) := by decide +kernel
theorem dX7_empty_12 : decode cX7_empty 12 = .ok (.iload_n 1, 1) := by decide +kernel
theorem dX7_empty_13 : decode cX7_empty 13 = .ok (.iconst 0, 1) := by decide +kernel
theorem dX7_empty_14 : decode cX7_empty 14 = .ok (.iastore, 1) := by decide +kernel
theorem dX7_empty_15 : decode cX7_empty 15 = .ok (.iinc 1 1, 3) := by decide +kernel
theorem dX7_empty_18 : decode cX7_empty 18 = .ok (.goto (-16), 3) := by decide +kernel
theorem dX7_empty_21 : decode cX7_empty 21 = .ok (.return_, 1) := by decide +kernel
theorem dX7_becomeLike_0 : decode cX7_becomeLike 0 = .ok (.iconst 0, 1) := by decide +kernel
theorem dX7_becomeLike_1 : decode cX7_becomeLike 1 = .ok (.istore_n 2, 1) := by decide +kernel
theorem dX7_becomeLike_2 : decode cX7_becomeLike 2 = .ok (.iload_n 2, 1) := by decide +kernel
theorem dX7_becomeLike_3 : decode cX7_becomeLike 3 = .ok (.bipush 16, 2) := by decide +kernel
theorem dX7_becomeLike_5 : decode cX7_becomeLike 5 = .ok (.if_icmp .ge 69, 3) := by decide +kernel
theorem dX7_becomeLike_8 : decode cX7_becomeLike 8 = .ok (.aload_n 0, 1) := by decide +kernel
theorem dX7_becomeLike_9 : decode cX7_becomeLike 9 = .ok (.getfield 9, 3) := by decide +kernel
theorem dX7_becomeLike_12 : decode cX7_becomeLike 12 = .ok (.iload_n 2, 1) := by decide +kernel
theorem dX7_becomeLike_13 : decode cX7_becomeLike 13 = .ok (.aload_n 1, 1) := by decide +kernel
theorem dX7_becomeLike_14 : decode cX7_becomeLike 14 = .ok (.getfield 9, 3) := by decide +kernel
theorem dX7_becomeLike_17 : decode cX7_becomeLike 17 = .ok (.iload_n 2, 1) := by decide +kernel
theorem dX7_becomeLike_18 : decode cX7_becomeLike 18 = .ok (.iaload, 1) := by decide +kernel
theorem dX7_becomeLike_19 : decode cX7_becomeLike 19 = .ok (.iastore, 1) := by decide +kernel
theorem dX7_becomeLike_20 : decode cX7_becomeLike 20 = .ok (.aload_n 0, 1) := by decide +kernel
theorem dX7_becomeLike_21 : decode cX7_becomeLike 21 = .ok (.getfield 15, 3) := by decide +kernel
theorem dX7_becomeLike_24 : decode cX7_becomeLike 24 = .ok (.iload_n 2, 1) := by decide +kernel
theorem dX7_becomeLike_25 : decode cX7_becomeLike 25 = .ok (.aload_n 1, 1) := by decide +kernel
theorem dX7_becomeLike_26 : decode cX7_becomeLike 26 = .ok (.getfield 15, 3) := by decide +kernel
theorem dX7_becomeLike_29 : decode cX7_becomeLike 29 = .ok (.iload_n 2, 1) := by decide +kernel
theorem dX7_becomeLike_30 : decode cX7_becomeLike 30 = .ok (.iaload, 1) := by decide +kernel
theorem dX7_becomeLike_31 : decode cX7_becomeLike 31 = .ok (.iastore, 1) := by decide +kernel
theorem dX7_becomeLike_32 : decode cX7_becomeLike 32 = .ok (.aload_n 0, 1) := by decide +kernel
theorem dX7_becomeLike_33 : decode cX7_becomeLike 33 = .ok (.getfield 18, 3) := by decide +kernel
theorem dX7_becomeLike_36 : decode cX7_becomeLike 36 = .ok (.iload_n 2, 1) := by decide +kernel
theorem dX7_becomeLike_37 : decode cX7_becomeLike 37 = .ok (.aload_n 1, 1) := by decide +kernel
theorem dX7_becomeLike_38 : decode cX7_becomeLike 38 = .ok (.getfield 18, 3) := by decide +kernel
theorem dX7_becomeLike_41 : decode cX7_becomeLike 41 = .ok (.iload_n 2, 1) := by decide +kernel
theorem dX7_becomeLike_42 : decode cX7_becomeLike 42 = .ok (.iaload, 1) := by decide +kernel
theorem dX7_becomeLike_43 : decode cX7_becomeLike 43 = .ok (.iastore, 1) := by decide +kernel
theorem dX7_becomeLike_44 : decode cX7_becomeLike 44 = .ok (.aload_n 0, 1) := by decide +kernel
theorem dX7_becomeLike_45 : decode cX7_becomeLike 45 = .ok (.getfield 21, 3) := by decide +kernel
theorem dX7_becomeLike_48 : decode cX7_becomeLike 48 = .ok (.iload_n 2, 1) := by decide +kernel
theorem dX7_becomeLike_49 : decode cX7_becomeLike 49 = .ok (.aload_n 1, 1) := by decide +kernel
theorem dX7_becomeLike_50 : decode cX7_becomeLike 50 = .ok (.getfield 21, 3) := by decide +kernel
theorem dX7_becomeLike_53 : decode cX7_becomeLike 53 = .ok (.iload_n 2, 1) := by decide +kernel
theorem dX7_becomeLike_54 : decode cX7_becomeLike 54 = .ok (.iaload, 1) := by decide +kernel
theorem dX7_becomeLike_55 : decode cX7_becomeLike 55 = .ok (.iastore, 1) := by decide +kernel
theorem dX7_becomeLike_56 : decode cX7_becomeLike 56 = .ok (.aload_n 0, 1) := by decide +kernel
theorem dX7_becomeLike_57 : decode cX7_becomeLike 57 = .ok (.getfield 24, 3) := by decide +kernel
theorem dX7_becomeLike_60 : decode cX7_becomeLike 60 = .ok (.iload_n 2, 1) := by decide +kernel
theorem dX7_becomeLike_61 : decode cX7_becomeLike 61 = .ok (.aload_n 1, 1) := by decide +kernel
theorem dX7_becomeLike_62 : decode cX7_becomeLike 62 = .ok (.getfield 24, 3) := by decide +kernel
theorem dX7_becomeLike_65 : decode cX7_becomeLike 65 = .ok (.iload_n 2, 1) := by decide +kernel
theorem dX7_becomeLike_66 : decode cX7_becomeLike 66 = .ok (.iaload, 1) := by decide +kernel
theorem dX7_becomeLike_67 : decode cX7_becomeLike 67 = .ok (.iastore, 1) := by decide +kernel
theorem dX7_becomeLike_68 : decode cX7_becomeLike 68 = .ok (.iinc 2 1, 3) := by decide +kernel
theorem dX7_becomeLike_71 : decode cX7_becomeLike 71 = .ok (.goto (-69), 3) := by decide +kernel
theorem dX7_becomeLike_74 : decode cX7_becomeLike 74 = .ok (.return_, 1) := by decide +kernel
theorem dX7_turn_0 : decode cX7_turn 0 = .ok (.aload_n 0, 1) := by decide +kernel
theorem dX7_turn_1 : decode cX7_turn 1 = .ok (.getfield 9, 3) := by decide +kernel
theorem dX7_turn_4 : decode cX7_turn 4 = .ok (.iload_n 1, 1) := by decide +kernel
theorem dX7_turn_5 : decode cX7_turn 5 = .ok (.iload_n 2, 1) := by decide +kernel
theorem dX7_turn_6 : decode cX7_turn 6 = .ok (.iastore, 1) := by decide +kernel
theorem dX7_turn_7 : decode cX7_turn 7 = .ok (.aload_n 0, 1) := by decide +kernel
theorem dX7_turn_8 : decode cX7_turn 8 = .ok (.getfield 15, 3) := by decide +kernel
theorem dX7_turn_11 : decode cX7_turn 11 = .ok (.iload_n 1, 1) := by decide +kernel
theorem dX7_turn_12 : decode cX7_turn 12 = .ok (.iload_n 3, 1) := by decide +kernel
theorem dX7_turn_13 : decode cX7_turn 13 = .ok (.iastore, 1) := by decide +kernel
theorem dX7_turn_14 : decode cX7_turn 14 = .ok (.return_, 1) := by decide +kernel
theorem dX7_take_0 : decode cX7_take 0 = .ok (.aload_n 0, 1) := by decide +kernel
theorem dX7_take_1 : decode cX7_take 1 = .ok (.getfield 18, 3) := by decide +kernel
theorem dX7_take_4 : decode cX7_take 4 = .ok (.iload_n 1, 1) := by decide +kernel
theorem dX7_take_5 : decode cX7_take 5 = .ok (.iload_n 2, 1) := by decide +kernel
theorem dX7_take_6 : decode cX7_take 6 = .ok (.iastore, 1) := by decide +kernel
theorem dX7_take_7 : decode cX7_take 7 = .ok (.aload_n 0, 1) := by decide +kernel
theorem dX7_take_8 : decode cX7_take 8 = .ok (.getfield 21, 3) := by decide +kernel
theorem dX7_take_11 : decode cX7_take 11 = .ok (.iload_n 1, 1) := by decide +kernel
theorem dX7_take_12 : decode cX7_take 12 = .ok (.iload_n 3, 1) := by decide +kernel
theorem dX7_take_13 : decode cX7_take 13 = .ok (.iastore, 1) := by decide +kernel
theorem dX7_take_14 : decode cX7_take 14 = .ok (.return_, 1) := by decide +kernel
theorem dX7_start_0 : decode cX7_start 0 = .ok (.aload_n 0, 1) := by decide +kernel
theorem dX7_start_1 : decode cX7_start 1 = .ok (.iload_n 1, 1) := by decide +kernel
theorem dX7_start_2 : decode cX7_start 2 = .ok (.iconst 1, 1) := by decide +kernel
theorem dX7_start_3 : decode cX7_start 3 = .ok (.iload_n 3, 1) := by decide +kernel
theorem dX7_start_4 : decode cX7_start 4 = .ok (.invokevirtual 27, 3) := by decide +kernel
theorem dX7_start_7 : decode cX7_start 7 = .ok (.aload_n 0, 1) := by decide +kernel
theorem dX7_start_8 : decode cX7_start 8 = .ok (.iload_n 1, 1) := by decide +kernel
theorem dX7_start_9 : decode cX7_start 9 = .ok (.iload_n 2, 1) := by decide +kernel
theorem dX7_start_10 : decode cX7_start 10 = .ok (.bipush 17, 2) := by decide +kernel
theorem dX7_start_12 : decode cX7_start 12 = .ok (.invokevirtual 31, 3) := by decide +kernel
theorem dX7_start_15 : decode cX7_start 15 = .ok (.aload_n 0, 1) := by decide +kernel
theorem dX7_start_16 : decode cX7_start 16 = .ok (.getfield 24, 3) := by decide +kernel
theorem dX7_start_19 : decode cX7_start 19 = .ok (.iload_n 1, 1) := by decide +kernel
theorem dX7_start_20 : decode cX7_start 20 = .ok (.iload_n 3, 1) := by decide +kernel
theorem dX7_start_21 : decode cX7_start 21 = .ok (.iastore, 1) := by decide +kernel
theorem dX7_start_22 : decode cX7_start 22 = .ok (.return_, 1) := by decide +kernel
theorem dX7_isNewTo_0 : decode cX7_isNewTo 0 = .ok (.aload_n 0, 1) := by decide +kernel
theorem dX7_isNewTo_1 : decode cX7_isNewTo 1 = .ok (.getfield 9, 3) := by decide +kernel
theorem dX7_isNewTo_4 : decode cX7_isNewTo 4 = .ok (.iload_n 1, 1) := by decide +kernel
theorem dX7_isNewTo_5 : decode cX7_isNewTo 5 = .ok (.iaload, 1) := by decide +kernel
theorem dX7_isNewTo_6 : decode cX7_isNewTo 6 = .ok (.ifCond .eq 13, 3) := by decide +kernel
theorem dX7_isNewTo_9 : decode cX7_isNewTo 9 = .ok (.aload_n 0, 1) := by decide +kernel
theorem dX7_isNewTo_10 : decode cX7_isNewTo 10 = .ok (.getfield 9, 3) := by decide +kernel
theorem dX7_isNewTo_13 : decode cX7_isNewTo 13 = .ok (.iload_n 1, 1) := by decide +kernel
theorem dX7_isNewTo_14 : decode cX7_isNewTo 14 = .ok (.iaload, 1) := by decide +kernel
theorem dX7_isNewTo_15 : decode cX7_isNewTo 15 = .ok (.iconst 3, 1) := by decide +kernel
theorem dX7_isNewTo_16 : decode cX7_isNewTo 16 = .ok (.if_icmp .ne 7, 3) := by decide +kernel
theorem dX7_isNewTo_19 : decode cX7_isNewTo 19 = .ok (.iconst 1, 1) := by decide +kernel
theorem dX7_isNewTo_20 : decode cX7_isNewTo 20 = .ok (.goto 4, 3) := by decide +kernel
theorem dX7_isNewTo_23 : decode cX7_isNewTo 23 = .ok (.iconst 0, 1) := by decide +kernel
theorem dX7_isNewTo_24 : decode cX7_isNewTo 24 = .ok (.ireturn, 1) := by decide +kernel
theorem dX8_init_0 : decode cX8_init 0 = .ok (.aload_n 0, 1) := by decide +kernel
theorem dX8_init_1 : decode cX8_init 1 = .ok (.invokespecial 3, 3) := by decide +kernel
theorem dX8_init_4 : decode cX8_init 4 = .ok (.aload_n 0, 1) := by decide +kernel
theorem dX8_init_5 : decode cX8_init 5 = .ok (.bipush 120, 2) := by decide +kernel
theorem dX8_init_7 : decode cX8_init 7 = .ok (.newarray .char, 2) := by decide +kernel
theorem dX8_init_9 : decode cX8_init 9 = .ok (.putfield 11, 3) := by decide +kernel
theorem dX8_init_12 : decode cX8_init 12 = .ok (.return_, 1) := by decide +kernel
theorem dX8_append_0 : decode cX8_append 0 = .ok (.aload_n 0, 1) := by decide +kernel
theorem dX8_append_1 : decode cX8_append 1 = .ok (.getfield 15, 3) := by decide +kernel
theorem dX8_append_4 : decode cX8_append 4 = .ok (.bipush 120, 2) := by decide +kernel
theorem dX8_append_6 : decode cX8_append 6 = .ok (.if_icmp .ge 23, 3) := by decide +kernel
theorem dX8_append_9 : decode cX8_append 9 = .ok (.aload_n 0, 1) := by decide +kernel
theorem dX8_append_10 : decode cX8_append 10 = .ok (.getfield 11, 3) := by decide +kernel
theorem dX8_append_13 : decode cX8_append 13 = .ok (.aload_n 0, 1) := by decide +kernel
theorem dX8_append_14 : decode cX8_append 14 = .ok (.getfield 15, 3) := by decide +kernel
theorem dX8_append_17 : decode cX8_append 17 = .ok (.iload_n 1, 1) := by decide +kernel
theorem dX8_append_18 : decode cX8_append 18 = .ok (.castore, 1) := by decide +kernel
theorem dX8_append_19 : decode cX8_append 19 = .ok (.aload_n 0, 1) := by decide +kernel
theorem dX8_append_20 : decode cX8_append 20 = .ok (.dup, 1) := by decide +kernel
theorem dX8_append_21 : decode cX8_append 21 = .ok (.getfield 15, 3) := by decide +kernel
theorem dX8_append_24 : decode cX8_append 24 = .ok (.iconst 1, 1) := by decide +kernel
theorem dX8_append_25 : decode cX8_append 25 = .ok (.iadd, 1) := by decide +kernel
theorem dX8_append_26 : decode cX8_append 26 = .ok (.putfield 15, 3) := by decide +kernel
theorem dX8_append_29 : decode cX8_append 29 = .ok (.return_, 1) := by decide +kernel
theorem dX8_readInto_0 : decode cX8_readInto 0 = .ok (.aload_n 1, 1) := by decide +kernel
theorem dX8_readInto_1 : decode cX8_readInto 1 = .ok (.invokevirtual 19, 3) := by decide +kernel
theorem dX8_readInto_4 : decode cX8_readInto 4 = .ok (.aload_n 0, 1) := by decide +kernel
theorem dX8_readInto_5 : decode cX8_readInto 5 = .ok (.iconst 0, 1) := by decide +kernel
theorem dX8_readInto_6 : decode cX8_readInto 6 = .ok (.putfield 24, 3) := by decide +kernel
theorem dX8_readInto_9 : decode cX8_readInto 9 = .ok (.aload_n 0, 1) := by decide +kernel
theorem dX8_readInto_10 : decode cX8_readInto 10 = .ok (.invokevirtual 27, 3) := by decide +kernel
theorem dX8_readInto_13 : decode cX8_readInto 13 = .ok (.iconst 1, 1) := by decide +kernel
theorem dX8_readInto_14 : decode cX8_readInto 14 = .ok (.if_icmp .eq 19, 3) := by decide +kernel
theorem dX8_readInto_17 : decode cX8_readInto 17 = .ok (.aload_n 0, 1) := by decide +kernel
theorem dX8_readInto_18 : decode cX8_readInto 18 = .ok (.aload_n 1, 1) := by decide +kernel
theorem dX8_readInto_19 : decode cX8_readInto 19 = .ok (.invokevirtual 31, 3) := by decide +kernel
theorem dX8_readInto_22 : decode cX8_readInto 22 = .ok (.ifCond .ne 11, 3) := by decide +kernel
theorem dX8_readInto_25 : decode cX8_readInto 25 = .ok (.bipush (-20), 2) := by decide +kernel
theorem dX8_readInto_27 : decode cX8_readInto 27 = .ok (.aload_n 0, 1) := by decide +kernel
theorem dX8_readInto_28 : decode cX8_readInto 28 = .ok (.getfield 24, 3) := by decide +kernel
theorem dX8_readInto_31 : decode cX8_readInto 31 = .ok (.isub, 1) := by decide +kernel
theorem dX8_readInto_32 : decode cX8_readInto 32 = .ok (.ireturn, 1) := by decide +kernel
theorem dX8_readInto_33 : decode cX8_readInto 33 = .ok (.aload_n 1, 1) := by decide +kernel
theorem dX8_readInto_34 : decode cX8_readInto 34 = .ok (.getfield 35, 3) := by decide +kernel
theorem dX8_readInto_37 : decode cX8_readInto 37 = .ok (.ireturn, 1) := by decide +kernel
theorem dX8_readClauses_0 : decode cX8_readClauses 0 = .ok (.aload_n 0, 1) := by decide +kernel
theorem dX8_readClauses_1 : decode cX8_readClauses 1 = .ok (.aload_n 1, 1) := by decide +kernel
theorem dX8_readClauses_2 : decode cX8_readClauses 2 = .ok (.invokevirtual 38, 3) := by decide +kernel
theorem dX8_readClauses_5 : decode cX8_readClauses 5 = .ok (.ifCond .ne 5, 3) := by decide +kernel
theorem dX8_readClauses_8 : decode cX8_readClauses 8 = .ok (.iconst 0, 1) := by decide +kernel
theorem dX8_readClauses_9 : decode cX8_readClauses 9 = .ok (.ireturn, 1) := by decide +kernel
theorem dX8_readClauses_10 : decode cX8_readClauses 10 = .ok (.iconst 1, 1) := by decide +kernel
theorem dX8_readClauses_11 : decode cX8_readClauses 11 = .ok (.istore_n 2, 1) := by decide +kernel
theorem dX8_readClauses_12 : decode cX8_readClauses 12 = .ok (.iload_n 2, 1) := by decide +kernel
theorem dX8_readClauses_13 : decode cX8_readClauses 13 = .ok (.bipush 6, 2) := by decide +kernel
theorem dX8_readClauses_15 : decode cX8_readClauses 15 = .ok (.if_icmp .ge 28, 3) := by decide +kernel
theorem dX8_readClauses_18 : decode cX8_readClauses 18 = .ok (.aload_n 0, 1) := by decide +kernel
theorem dX8_readClauses_19 : decode cX8_readClauses 19 = .ok (.bipush 59, 2) := by decide +kernel
theorem dX8_readClauses_21 : decode cX8_readClauses 21 = .ok (.invokevirtual 41, 3) := by decide +kernel
theorem dX8_readClauses_24 : decode cX8_readClauses 24 = .ok (.ifCond .eq 19, 3) := by decide +kernel
theorem dX8_readClauses_27 : decode cX8_readClauses 27 = .ok (.aload_n 0, 1) := by decide +kernel
theorem dX8_readClauses_28 : decode cX8_readClauses 28 = .ok (.aload_n 1, 1) := by decide +kernel
theorem dX8_readClauses_29 : decode cX8_readClauses 29 = .ok (.invokevirtual 38, 3) := by decide +kernel
theorem dX8_readClauses_32 : decode cX8_readClauses 32 = .ok (.ifCond .ne 5, 3) := by decide +kernel
theorem dX8_readClauses_35 : decode cX8_readClauses 35 = .ok (.iconst 0, 1) := by decide +kernel
theorem dX8_readClauses_36 : decode cX8_readClauses 36 = .ok (.ireturn, 1) := by decide +kernel
theorem dX8_readClauses_37 : decode cX8_readClauses 37 = .ok (.iinc 2 1, 3) := by decide +kernel
theorem dX8_readClauses_40 : decode cX8_readClauses 40 = .ok (.goto (-28), 3) := by decide +kernel
theorem dX8_readClauses_43 : decode cX8_readClauses 43 = .ok (.aload_n 0, 1) := by decide +kernel
theorem dX8_readClauses_44 : decode cX8_readClauses 44 = .ok (.invokevirtual 27, 3) := by decide +kernel
theorem dX8_readClauses_47 : decode cX8_readClauses 47 = .ok (.iconst 1, 1) := by decide +kernel
theorem dX8_readClauses_48 : decode cX8_readClauses 48 = .ok (.if_icmp .ne 7, 3) := by decide +kernel
theorem dX8_readClauses_51 : decode cX8_readClauses 51 = .ok (.iconst 1, 1) := by decide +kernel
theorem dX8_readClauses_52 : decode cX8_readClauses 52 = .ok (.goto 4, 3) := by decide +kernel
theorem dX8_readClauses_55 : decode cX8_readClauses 55 = .ok (.iconst 0, 1) := by decide +kernel
theorem dX8_readClauses_56 : decode cX8_readClauses 56 = .ok (.ireturn, 1) := by decide +kernel
theorem dX8_readClause_0 : decode cX8_readClause 0 = .ok (.aload_n 0, 1) := by decide +kernel
theorem dX8_readClause_1 : decode cX8_readClause 1 = .ok (.aload_n 1, 1) := by decide +kernel
theorem dX8_readClause_2 : decode cX8_readClause 2 = .ok (.iconst 0, 1) := by decide +kernel
theorem dX8_readClause_3 : decode cX8_readClause 3 = .ok (.invokevirtual 45, 3) := by decide +kernel
theorem dX8_readClause_6 : decode cX8_readClause 6 = .ok (.ifCond .eq 12, 3) := by decide +kernel
theorem dX8_readClause_9 : decode cX8_readClause 9 = .ok (.aload_n 0, 1) := by decide +kernel
theorem dX8_readClause_10 : decode cX8_readClause 10 = .ok (.bipush 58, 2) := by decide +kernel
theorem dX8_readClause_12 : decode cX8_readClause 12 = .ok (.invokevirtual 41, 3) := by decide +kernel
theorem dX8_readClause_15 : decode cX8_readClause 15 = .ok (.ifCond .ne 5, 3) := by decide +kernel
theorem dX8_readClause_18 : decode cX8_readClause 18 = .ok (.iconst 0, 1) := by decide +kernel
theorem dX8_readClause_19 : decode cX8_readClause 19 = .ok (.ireturn, 1) := by decide +kernel
theorem dX8_readClause_20 : decode cX8_readClause 20 = .ok (.aload_n 0, 1) := by decide +kernel
theorem dX8_readClause_21 : decode cX8_readClause 21 = .ok (.ldc 49, 2) := by decide +kernel
theorem dX8_readClause_23 : decode cX8_readClause 23 = .ok (.invokevirtual 51, 3) := by decide +kernel
theorem dX8_readClause_26 : decode cX8_readClause 26 = .ok (.istore_n 2, 1) := by decide +kernel
theorem dX8_readClause_27 : decode cX8_readClause 27 = .ok (.iload_n 2, 1) := by decide +kernel
theorem dX8_readClause_28 : decode cX8_readClause 28 = .ok (.ifCond .ge 5, 3) := by decide +kernel
theorem dX8_readClause_31 : decode cX8_readClause 31 = .ok (.iconst 0, 1) := by decide +kernel
theorem dX8_readClause_32 : decode cX8_readClause 32 = .ok (.ireturn, 1) := by decide +kernel
theorem dX8_readClause_33 : decode cX8_readClause 33 = .ok (.aload_n 0, 1) := by decide +kernel
theorem dX8_readClause_34 : decode cX8_readClause 34 = .ok (.bipush 64, 2) := by decide +kernel
theorem dX8_readClause_36 : decode cX8_readClause 36 = .ok (.invokevirtual 41, 3) := by decide +kernel
theorem dX8_readClause_39 : decode cX8_readClause 39 = .ok (.ifCond .eq 10, 3) := by decide +kernel
theorem dX8_readClause_42 : decode cX8_readClause 42 = .ok (.aload_n 0, 1) := by decide +kernel
theorem dX8_readClause_43 : decode cX8_readClause 43 = .ok (.invokevirtual 55, 3) := by decide +kernel
theorem dX8_readClause_46 : decode cX8_readClause 46 = .ok (.goto 4, 3) := by decide +kernel
theorem dX8_readClause_49 : decode cX8_readClause 49 = .ok (.iconst 0, 1) := by decide +kernel
theorem dX8_readClause_50 : decode cX8_readClause 50 = .ok (.istore_n 3, 1) := by decide +kernel
theorem dX8_readClause_51 : decode cX8_readClause 51 = .ok (.iload_n 3, 1) := by decide +kernel
theorem dX8_readClause_52 : decode cX8_readClause 52 = .ok (.ifCond .ge 5, 3) := by decide +kernel
theorem dX8_readClause_55 : decode cX8_readClause 55 = .ok (.iconst 0, 1) := by decide +kernel
theorem dX8_readClause_56 : decode cX8_readClause 56 = .ok (.ireturn, 1) := by decide +kernel
theorem dX8_readClause_57 : decode cX8_readClause 57 = .ok (.aload_n 1, 1) := by decide +kernel
theorem dX8_readClause_58 : decode cX8_readClause 58 = .ok (.iload_n 2, 1) := by decide +kernel
theorem dX8_readClause_59 : decode cX8_readClause 59 = .ok (.iload_n 3, 1) := by decide +kernel
theorem dX8_readClause_60 : decode cX8_readClause 60 = .ok (.invokevirtual 59, 3) := by decide +kernel
theorem dX8_readClause_63 : decode cX8_readClause 63 = .ok (.iconst 1, 1) := by decide +kernel
theorem dX8_readClause_64 : decode cX8_readClause 64 = .ok (.ireturn, 1) := by decide +kernel
theorem dX8_readDay_0 : decode cX8_readDay 0 = .ok (.aload_n 0, 1) := by decide +kernel
theorem dX8_readDay_1 : decode cX8_readDay 1 = .ok (.invokevirtual 27, 3) := by decide +kernel
theorem dX8_readDay_4 : decode cX8_readDay 4 = .ok (.pop, 1) := by decide +kernel
theorem dX8_readDay_5 : decode cX8_readDay 5 = .ok (.aload_n 0, 1) := by decide +kernel
theorem dX8_readDay_6 : decode cX8_readDay 6 = .ok (.getfield 24, 3) := by decide +kernel
theorem dX8_readDay_9 : decode cX8_readDay 9 = .ok (.istore_n 1, 1) := by decide +kernel
theorem dX8_readDay_10 : decode cX8_readDay 10 = .ok (.iconst 0, 1) := by decide +kernel
theorem dX8_readDay_11 : decode cX8_readDay 11 = .ok (.istore_n 2, 1) := by decide +kernel
theorem dX8_readDay_12 : decode cX8_readDay 12 = .ok (.aload_n 0, 1) := by decide +kernel
theorem dX8_readDay_13 : decode cX8_readDay 13 = .ok (.getfield 24, 3) := by decide +kernel
theorem dX8_readDay_16 : decode cX8_readDay 16 = .ok (.aload_n 0, 1) := by decide +kernel
theorem dX8_readDay_17 : decode cX8_readDay 17 = .ok (.getfield 15, 3) := by decide +kernel
theorem dX8_readDay_20 : decode cX8_readDay 20 = .ok (.if_icmp .ge 68, 3) := by decide +kernel
theorem dX8_readDay_23 : decode cX8_readDay 23 = .ok (.aload_n 0, 1) := by decide +kernel
theorem dX8_readDay_24 : decode cX8_readDay 24 = .ok (.getfield 11, 3) := by decide +kernel
theorem dX8_readDay_27 : decode cX8_readDay 27 = .ok (.aload_n 0, 1) := by decide +kernel
theorem dX8_readDay_28 : decode cX8_readDay 28 = .ok (.getfield 24, 3) := by decide +kernel
theorem dX8_readDay_31 : decode cX8_readDay 31 = .ok (.caload, 1) := by decide +kernel
theorem dX8_readDay_32 : decode cX8_readDay 32 = .ok (.bipush 48, 2) := by decide +kernel
theorem dX8_readDay_34 : decode cX8_readDay 34 = .ok (.if_icmp .lt 54, 3) := by decide +kernel
theorem dX8_readDay_37 : decode cX8_readDay 37 = .ok (.aload_n 0, 1) := by decide +kernel
theorem dX8_readDay_38 : decode cX8_readDay 38 = .ok (.getfield 11, 3) := by decide +kernel
theorem dX8_readDay_41 : decode cX8_readDay 41 = .ok (.aload_n 0, 1) := by decide +kernel
theorem dX8_readDay_42 : decode cX8_readDay 42 = .ok (.getfield 24, 3) := by decide +kernel
theorem dX8_readDay_45 : decode cX8_readDay 45 = .ok (.caload, 1) := by decide +kernel
theorem dX8_readDay_46 : decode cX8_readDay 46 = .ok (.bipush 57, 2) := by decide +kernel
theorem dX8_readDay_48 : decode cX8_readDay 48 = .ok (.if_icmp .gt 40, 3) := by decide +kernel
theorem dX8_readDay_51 : decode cX8_readDay 51 = .ok (.bipush 10, 2) := by decide +kernel
theorem dX8_readDay_53 : decode cX8_readDay 53 = .ok (.iload_n 2, 1) := by decide +kernel
theorem dX8_readDay_54 : decode cX8_readDay 54 = .ok (.imul, 1) := by decide +kernel
theorem dX8_readDay_55 : decode cX8_readDay 55 = .ok (.aload_n 0, 1) := by decide +kernel
theorem dX8_readDay_56 : decode cX8_readDay 56 = .ok (.getfield 11, 3) := by decide +kernel
theorem dX8_readDay_59 : decode cX8_readDay 59 = .ok (.aload_n 0, 1) := by decide +kernel
theorem dX8_readDay_60 : decode cX8_readDay 60 = .ok (.getfield 24, 3) := by decide +kernel
theorem dX8_readDay_63 : decode cX8_readDay 63 = .ok (.caload, 1) := by decide +kernel
theorem dX8_readDay_64 : decode cX8_readDay 64 = .ok (.iadd, 1) := by decide +kernel
theorem dX8_readDay_65 : decode cX8_readDay 65 = .ok (.bipush 48, 2) := by decide +kernel
theorem dX8_readDay_67 : decode cX8_readDay 67 = .ok (.isub, 1) := by decide +kernel
theorem dX8_readDay_68 : decode cX8_readDay 68 = .ok (.sipush 417, 3) := by decide +kernel
theorem dX8_readDay_71 : decode cX8_readDay 71 = .ok (.invokestatic 63, 3) := by decide +kernel
theorem dX8_readDay_74 : decode cX8_readDay 74 = .ok (.istore_n 2, 1) := by decide +kernel
theorem dX8_readDay_75 : decode cX8_readDay 75 = .ok (.aload_n 0, 1) := by decide +kernel
theorem dX8_readDay_76 : decode cX8_readDay 76 = .ok (.dup, 1) := by decide +kernel
theorem dX8_readDay_77 : decode cX8_readDay 77 = .ok (.getfield 24, 3) := by decide +kernel
theorem dX8_readDay_80 : decode cX8_readDay 80 = .ok (.iconst 1, 1) := by decide +kernel
theorem dX8_readDay_81 : decode cX8_readDay 81 = .ok (.iadd, 1) := by decide +kernel
theorem dX8_readDay_82 : decode cX8_readDay 82 = .ok (.putfield 24, 3) := by decide +kernel
theorem dX8_readDay_85 : decode cX8_readDay 85 = .ok (.goto (-73), 3) := by decide +kernel
theorem dX8_readDay_88 : decode cX8_readDay 88 = .ok (.aload_n 0, 1) := by decide +kernel
theorem dX8_readDay_89 : decode cX8_readDay 89 = .ok (.getfield 24, 3) := by decide +kernel
theorem dX8_readDay_92 : decode cX8_readDay 92 = .ok (.iload_n 1, 1) := by decide +kernel
theorem dX8_readDay_93 : decode cX8_readDay 93 = .ok (.if_icmp .eq 10, 3) := by decide +kernel
theorem dX8_readDay_96 : decode cX8_readDay 96 = .ok (.iload_n 2, 1) := by decide +kernel
theorem dX8_readDay_97 : decode cX8_readDay 97 = .ok (.sipush 416, 3) := by decide +kernel
theorem dX8_readDay_100 : decode cX8_readDay 100 = .ok (.if_icmp .le 11, 3) := by decide +kernel
theorem dX8_readDay_103 : decode cX8_readDay 103 = .ok (.aload_n 0, 1) := by decide +kernel
theorem dX8_readDay_104 : decode cX8_readDay 104 = .ok (.iload_n 1, 1) := by decide +kernel
theorem dX8_readDay_105 : decode cX8_readDay 105 = .ok (.putfield 24, 3) := by decide +kernel
theorem dX8_readDay_108 : decode cX8_readDay 108 = .ok (.bipush (-4), 2) := by decide +kernel
theorem dX8_readDay_110 : decode cX8_readDay 110 = .ok (.ireturn, 1) := by decide +kernel
theorem dX8_readDay_111 : decode cX8_readDay 111 = .ok (.iload_n 2, 1) := by decide +kernel
theorem dX8_readDay_112 : decode cX8_readDay 112 = .ok (.ireturn, 1) := by decide +kernel
theorem dX8_readTest_0 : decode cX8_readTest 0 = .ok (.aload_n 0, 1) := by decide +kernel
theorem dX8_readTest_1 : decode cX8_readTest 1 = .ok (.aload_n 1, 1) := by decide +kernel
theorem dX8_readTest_2 : decode cX8_readTest 2 = .ok (.iload_n 2, 1) := by decide +kernel
theorem dX8_readTest_3 : decode cX8_readTest 3 = .ok (.invokevirtual 69, 3) := by decide +kernel
theorem dX8_readTest_6 : decode cX8_readTest 6 = .ok (.ifCond .ne 5, 3) := by decide +kernel
theorem dX8_readTest_9 : decode cX8_readTest 9 = .ok (.iconst 0, 1) := by decide +kernel
theorem dX8_readTest_10 : decode cX8_readTest 10 = .ok (.ireturn, 1) := by decide +kernel
theorem dX8_readTest_11 : decode cX8_readTest 11 = .ok (.iconst 0, 1) := by decide +kernel
theorem dX8_readTest_12 : decode cX8_readTest 12 = .ok (.istore_n 3, 1) := by decide +kernel
theorem dX8_readTest_13 : decode cX8_readTest 13 = .ok (.iload_n 3, 1) := by decide +kernel
theorem dX8_readTest_14 : decode cX8_readTest 14 = .ok (.bipush 120, 2) := by decide +kernel
theorem dX8_readTest_16 : decode cX8_readTest 16 = .ok (.if_icmp .ge 35, 3) := by decide +kernel
theorem dX8_readTest_19 : decode cX8_readTest 19 = .ok (.aload_n 0, 1) := by decide +kernel
theorem dX8_readTest_20 : decode cX8_readTest 20 = .ok (.bipush 124, 2) := by decide +kernel
theorem dX8_readTest_22 : decode cX8_readTest 22 = .ok (.invokevirtual 41, 3) := by decide +kernel
theorem dX8_readTest_25 : decode cX8_readTest 25 = .ok (.ifCond .eq 26, 3) := by decide +kernel
theorem dX8_readTest_28 : decode cX8_readTest 28 = .ok (.aload_n 0, 1) := by decide +kernel
theorem dX8_readTest_29 : decode cX8_readTest 29 = .ok (.aload_n 1, 1) := by decide +kernel
theorem dX8_readTest_30 : decode cX8_readTest 30 = .ok (.iload_n 2, 1) := by decide +kernel
theorem dX8_readTest_31 : decode cX8_readTest 31 = .ok (.invokevirtual 69, 3) := by decide +kernel
theorem dX8_readTest_34 : decode cX8_readTest 34 = .ok (.ifCond .ne 5, 3) := by decide +kernel
theorem dX8_readTest_37 : decode cX8_readTest 37 = .ok (.iconst 0, 1) := by decide +kernel
theorem dX8_readTest_38 : decode cX8_readTest 38 = .ok (.ireturn, 1) := by decide +kernel
theorem dX8_readTest_39 : decode cX8_readTest 39 = .ok (.aload_n 1, 1) := by decide +kernel
theorem dX8_readTest_40 : decode cX8_readTest 40 = .ok (.bipush (-2), 2) := by decide +kernel
theorem dX8_readTest_42 : decode cX8_readTest 42 = .ok (.invokevirtual 72, 3) := by decide +kernel
theorem dX8_readTest_45 : decode cX8_readTest 45 = .ok (.iinc 3 1, 3) := by decide +kernel
theorem dX8_readTest_48 : decode cX8_readTest 48 = .ok (.goto (-35), 3) := by decide +kernel
theorem dX8_readTest_51 : decode cX8_readTest 51 = .ok (.iconst 1, 1) := by decide +kernel
theorem dX8_readTest_52 : decode cX8_readTest 52 = .ok (.ireturn, 1) := by decide +kernel
theorem dX8_readCase_0 : decode cX8_readCase 0 = .ok (.aload_n 0, 1) := by decide +kernel
theorem dX8_readCase_1 : decode cX8_readCase 1 = .ok (.aload_n 1, 1) := by decide +kernel
theorem dX8_readCase_2 : decode cX8_readCase 2 = .ok (.iload_n 2, 1) := by decide +kernel
theorem dX8_readCase_3 : decode cX8_readCase 3 = .ok (.invokevirtual 76, 3) := by decide +kernel
theorem dX8_readCase_6 : decode cX8_readCase 6 = .ok (.ifCond .ne 5, 3) := by decide +kernel
theorem dX8_readCase_9 : decode cX8_readCase 9 = .ok (.iconst 0, 1) := by decide +kernel
theorem dX8_readCase_10 : decode cX8_readCase 10 = .ok (.ireturn, 1) := by decide +kernel
theorem dX8_readCase_11 : decode cX8_readCase 11 = .ok (.iconst 0, 1) := by decide +kernel
theorem dX8_readCase_12 : decode cX8_readCase 12 = .ok (.istore_n 3, 1) := by decide +kernel
theorem dX8_readCase_13 : decode cX8_readCase 13 = .ok (.iload_n 3, 1) := by decide +kernel
theorem dX8_readCase_14 : decode cX8_readCase 14 = .ok (.bipush 120, 2) := by decide +kernel
theorem dX8_readCase_16 : decode cX8_readCase 16 = .ok (.if_icmp .ge 34, 3) := by decide +kernel
theorem dX8_readCase_19 : decode cX8_readCase 19 = .ok (.aload_n 0, 1) := by decide +kernel
theorem dX8_readCase_20 : decode cX8_readCase 20 = .ok (.bipush 38, 2) := by decide +kernel
theorem dX8_readCase_22 : decode cX8_readCase 22 = .ok (.invokevirtual 41, 3) := by decide +kernel
theorem dX8_readCase_25 : decode cX8_readCase 25 = .ok (.ifCond .eq 25, 3) := by decide +kernel
theorem dX8_readCase_28 : decode cX8_readCase 28 = .ok (.aload_n 0, 1) := by decide +kernel
theorem dX8_readCase_29 : decode cX8_readCase 29 = .ok (.aload_n 1, 1) := by decide +kernel
theorem dX8_readCase_30 : decode cX8_readCase 30 = .ok (.iload_n 2, 1) := by decide +kernel
theorem dX8_readCase_31 : decode cX8_readCase 31 = .ok (.invokevirtual 76, 3) := by decide +kernel
theorem dX8_readCase_34 : decode cX8_readCase 34 = .ok (.ifCond .ne 5, 3) := by decide +kernel
theorem dX8_readCase_37 : decode cX8_readCase 37 = .ok (.iconst 0, 1) := by decide +kernel
theorem dX8_readCase_38 : decode cX8_readCase 38 = .ok (.ireturn, 1) := by decide +kernel
theorem dX8_readCase_39 : decode cX8_readCase 39 = .ok (.aload_n 1, 1) := by decide +kernel
theorem dX8_readCase_40 : decode cX8_readCase 40 = .ok (.iconst (-1), 1) := by decide +kernel
theorem dX8_readCase_41 : decode cX8_readCase 41 = .ok (.invokevirtual 72, 3) := by decide +kernel
theorem dX8_readCase_44 : decode cX8_readCase 44 = .ok (.iinc 3 1, 3) := by decide +kernel
theorem dX8_readCase_47 : decode cX8_readCase 47 = .ok (.goto (-34), 3) := by decide +kernel
theorem dX8_readCase_50 : decode cX8_readCase 50 = .ok (.iconst 1, 1) := by decide +kernel
theorem dX8_readCase_51 : decode cX8_readCase 51 = .ok (.ireturn, 1) := by decide +kernel
theorem dX8_readClaim_0 : decode cX8_readClaim 0 = .ok (.aload_n 0, 1) := by decide +kernel
theorem dX8_readClaim_1 : decode cX8_readClaim 1 = .ok (.bipush 33, 2) := by decide +kernel
theorem dX8_readClaim_3 : decode cX8_readClaim 3 = .ok (.invokevirtual 41, 3) := by decide +kernel
theorem dX8_readClaim_6 : decode cX8_readClaim 6 = .ok (.istore_n 3, 1) := by decide +kernel
theorem dX8_readClaim_7 : decode cX8_readClaim 7 = .ok (.iload_n 2, 1) := by decide +kernel
theorem dX8_readClaim_8 : decode cX8_readClaim 8 = .ok (.iconst 5, 1) := by decide +kernel
theorem dX8_readClaim_9 : decode cX8_readClaim 9 = .ok (.if_icmp .ge 42, 3) := by decide +kernel
theorem dX8_readClaim_12 : decode cX8_readClaim 12 = .ok (.aload_n 0, 1) := by decide +kernel
theorem dX8_readClaim_13 : decode cX8_readClaim 13 = .ok (.bipush 40, 2) := by decide +kernel
theorem dX8_readClaim_15 : decode cX8_readClaim 15 = .ok (.invokevirtual 41, 3) := by decide +kernel
theorem dX8_readClaim_18 : decode cX8_readClaim 18 = .ok (.ifCond .eq 33, 3) := by decide +kernel
theorem dX8_readClaim_21 : decode cX8_readClaim 21 = .ok (.aload_n 0, 1) := by decide +kernel
theorem dX8_readClaim_22 : decode cX8_readClaim 22 = .ok (.aload_n 1, 1) := by decide +kernel
theorem dX8_readClaim_23 : decode cX8_readClaim 23 = .ok (.iload_n 2, 1) := by decide +kernel
theorem dX8_readClaim_24 : decode cX8_readClaim 24 = .ok (.iconst 1, 1) := by decide +kernel
theorem dX8_readClaim_25 : decode cX8_readClaim 25 = .ok (.iadd, 1) := by decide +kernel
theorem dX8_readClaim_26 : decode cX8_readClaim 26 = .ok (.invokevirtual 45, 3) := by decide +kernel
theorem dX8_readClaim_29 : decode cX8_readClaim 29 = .ok (.ifCond .eq 16, 3) := by decide +kernel
theorem dX8_readClaim_32 : decode cX8_readClaim 32 = .ok (.aload_n 0, 1) := by decide +kernel
theorem dX8_readClaim_33 : decode cX8_readClaim 33 = .ok (.bipush 41, 2) := by decide +kernel
theorem dX8_readClaim_35 : decode cX8_readClaim 35 = .ok (.invokevirtual 41, 3) := by decide +kernel
theorem dX8_readClaim_38 : decode cX8_readClaim 38 = .ok (.ifCond .eq 7, 3) := by decide +kernel
theorem dX8_readClaim_41 : decode cX8_readClaim 41 = .ok (.iconst 1, 1) := by decide +kernel
theorem dX8_readClaim_42 : decode cX8_readClaim 42 = .ok (.goto 4, 3) := by decide +kernel
theorem dX8_readClaim_45 : decode cX8_readClaim 45 = .ok (.iconst 0, 1) := by decide +kernel
theorem dX8_readClaim_46 : decode cX8_readClaim 46 = .ok (.istore 4, 2) := by decide +kernel
theorem dX8_readClaim_48 : decode cX8_readClaim 48 = .ok (.goto 10, 3) := by decide +kernel
theorem dX8_readClaim_51 : decode cX8_readClaim 51 = .ok (.aload_n 0, 1) := by decide +kernel
theorem dX8_readClaim_52 : decode cX8_readClaim 52 = .ok (.aload_n 1, 1) := by decide +kernel
theorem dX8_readClaim_53 : decode cX8_readClaim 53 = .ok (.invokevirtual 79, 3) := by decide +kernel
theorem dX8_readClaim_56 : decode cX8_readClaim 56 = .ok (.istore 4, 2) := by decide +kernel
theorem dX8_readClaim_58 : decode cX8_readClaim 58 = .ok (.iload 4, 2) := by decide +kernel
theorem dX8_readClaim_60 : decode cX8_readClaim 60 = .ok (.ifCond .eq 13, 3) := by decide +kernel
theorem dX8_readClaim_63 : decode cX8_readClaim 63 = .ok (.iload_n 3, 1) := by decide +kernel
theorem dX8_readClaim_64 : decode cX8_readClaim 64 = .ok (.ifCond .eq 9, 3) := by decide +kernel
theorem dX8_readClaim_67 : decode cX8_readClaim 67 = .ok (.aload_n 1, 1) := by decide +kernel
theorem dX8_readClaim_68 : decode cX8_readClaim 68 = .ok (.bipush (-3), 2) := by decide +kernel
theorem dX8_readClaim_70 : decode cX8_readClaim 70 = .ok (.invokevirtual 72, 3) := by decide +kernel
theorem dX8_readClaim_73 : decode cX8_readClaim 73 = .ok (.iload 4, 2) := by decide +kernel
theorem dX8_readClaim_75 : decode cX8_readClaim 75 = .ok (.ireturn, 1) := by decide +kernel
theorem dX8_readComparison_0 : decode cX8_readComparison 0 = .ok (.aload_n 0, 1) := by decide +kernel
theorem dX8_readComparison_1 : decode cX8_readComparison 1 = .ok (.ldc 82, 2) := by decide +kernel
theorem dX8_readComparison_3 : decode cX8_readComparison 3 = .ok (.invokevirtual 51, 3) := by decide +kernel
theorem dX8_readComparison_6 : decode cX8_readComparison 6 = .ok (.istore_n 2, 1) := by decide +kernel
theorem dX8_readComparison_7 : decode cX8_readComparison 7 = .ok (.iload_n 2, 1) := by decide +kernel
theorem dX8_readComparison_8 : decode cX8_readComparison 8 = .ok (.ifCond .ge 5, 3) := by decide +kernel
theorem dX8_readComparison_11 : decode cX8_readComparison 11 = .ok (.iconst 0, 1) := by decide +kernel
theorem dX8_readComparison_12 : decode cX8_readComparison 12 = .ok (.ireturn, 1) := by decide +kernel
theorem dX8_readComparison_13 : decode cX8_readComparison 13 = .ok (.aload_n 0, 1) := by decide +kernel
theorem dX8_readComparison_14 : decode cX8_readComparison 14 = .ok (.ldc 84, 2) := by decide +kernel
theorem dX8_readComparison_16 : decode cX8_readComparison 16 = .ok (.invokevirtual 51, 3) := by decide +kernel
theorem dX8_readComparison_19 : decode cX8_readComparison 19 = .ok (.istore_n 3, 1) := by decide +kernel
theorem dX8_readComparison_20 : decode cX8_readComparison 20 = .ok (.iload_n 3, 1) := by decide +kernel
theorem dX8_readComparison_21 : decode cX8_readComparison 21 = .ok (.ifCond .ge 5, 3) := by decide +kernel
theorem dX8_readComparison_24 : decode cX8_readComparison 24 = .ok (.iconst 0, 1) := by decide +kernel
theorem dX8_readComparison_25 : decode cX8_readComparison 25 = .ok (.ireturn, 1) := by decide +kernel
theorem dX8_readComparison_26 : decode cX8_readComparison 26 = .ok (.aload_n 0, 1) := by decide +kernel
theorem dX8_readComparison_27 : decode cX8_readComparison 27 = .ok (.ldc 86, 2) := by decide +kernel
theorem dX8_readComparison_29 : decode cX8_readComparison 29 = .ok (.invokevirtual 51, 3) := by decide +kernel
theorem dX8_readComparison_32 : decode cX8_readComparison 32 = .ok (.istore 4, 2) := by decide +kernel
theorem dX8_readComparison_34 : decode cX8_readComparison 34 = .ok (.iload 4, 2) := by decide +kernel
theorem dX8_readComparison_36 : decode cX8_readComparison 36 = .ok (.ifCond .ge 5, 3) := by decide +kernel
theorem dX8_readComparison_39 : decode cX8_readComparison 39 = .ok (.iconst 0, 1) := by decide +kernel
theorem dX8_readComparison_40 : decode cX8_readComparison 40 = .ok (.ireturn, 1) := by decide +kernel
theorem dX8_readComparison_41 : decode cX8_readComparison 41 = .ok (.aload_n 1, 1) := by decide +kernel
theorem dX8_readComparison_42 : decode cX8_readComparison 42 = .ok (.iload_n 2, 1) := by decide +kernel
theorem dX8_readComparison_43 : decode cX8_readComparison 43 = .ok (.iload_n 3, 1) := by decide +kernel
theorem dX8_readComparison_44 : decode cX8_readComparison 44 = .ok (.iload 4, 2) := by decide +kernel
theorem dX8_readComparison_46 : decode cX8_readComparison 46 = .ok (.invokestatic 88, 3) := by decide +kernel
theorem dX8_readComparison_49 : decode cX8_readComparison 49 = .ok (.invokevirtual 72, 3) := by decide +kernel
theorem dX8_readComparison_52 : decode cX8_readComparison 52 = .ok (.iconst 1, 1) := by decide +kernel
theorem dX8_readComparison_53 : decode cX8_readComparison 53 = .ok (.ireturn, 1) := by decide +kernel
theorem dX8_next_0 : decode cX8_next 0 = .ok (.aload_n 0, 1) := by decide +kernel
theorem dX8_next_1 : decode cX8_next 1 = .ok (.getfield 24, 3) := by decide +kernel
theorem dX8_next_4 : decode cX8_next 4 = .ok (.aload_n 0, 1) := by decide +kernel
theorem dX8_next_5 : decode cX8_next 5 = .ok (.getfield 15, 3) := by decide +kernel
theorem dX8_next_8 : decode cX8_next 8 = .ok (.if_icmp .ge 30, 3) := by decide +kernel
theorem dX8_next_11 : decode cX8_next 11 = .ok (.aload_n 0, 1) := by decide +kernel
theorem dX8_next_12 : decode cX8_next 12 = .ok (.getfield 11, 3) := by decide +kernel
theorem dX8_next_15 : decode cX8_next 15 = .ok (.aload_n 0, 1) := by decide +kernel
theorem dX8_next_16 : decode cX8_next 16 = .ok (.getfield 24, 3) := by decide +kernel
theorem dX8_next_19 : decode cX8_next 19 = .ok (.caload, 1) := by decide +kernel
theorem dX8_next_20 : decode cX8_next 20 = .ok (.bipush 32, 2) := by decide +kernel
theorem dX8_next_22 : decode cX8_next 22 = .ok (.if_icmp .ne 16, 3) := by decide +kernel
theorem dX8_next_25 : decode cX8_next 25 = .ok (.aload_n 0, 1) := by decide +kernel
theorem dX8_next_26 : decode cX8_next 26 = .ok (.dup, 1) := by decide +kernel
theorem dX8_next_27 : decode cX8_next 27 = .ok (.getfield 24, 3) := by decide +kernel
theorem dX8_next_30 : decode cX8_next 30 = .ok (.iconst 1, 1) := by decide +kernel
theorem dX8_next_31 : decode cX8_next 31 = .ok (.iadd, 1) := by decide +kernel
theorem dX8_next_32 : decode cX8_next 32 = .ok (.putfield 24, 3) := by decide +kernel
theorem dX8_next_35 : decode cX8_next 35 = .ok (.goto (-35), 3) := by decide +kernel
theorem dX8_next_38 : decode cX8_next 38 = .ok (.aload_n 0, 1) := by decide +kernel
theorem dX8_next_39 : decode cX8_next 39 = .ok (.getfield 24, 3) := by decide +kernel
theorem dX8_next_42 : decode cX8_next 42 = .ok (.aload_n 0, 1) := by decide +kernel
theorem dX8_next_43 : decode cX8_next 43 = .ok (.getfield 15, 3) := by decide +kernel
theorem dX8_next_46 : decode cX8_next 46 = .ok (.if_icmp .ge 15, 3) := by decide +kernel
theorem dX8_next_49 : decode cX8_next 49 = .ok (.aload_n 0, 1) := by decide +kernel
theorem dX8_next_50 : decode cX8_next 50 = .ok (.getfield 11, 3) := by decide +kernel
theorem dX8_next_53 : decode cX8_next 53 = .ok (.aload_n 0, 1) := by decide +kernel
theorem dX8_next_54 : decode cX8_next 54 = .ok (.getfield 24, 3) := by decide +kernel
theorem dX8_next_57 : decode cX8_next 57 = .ok (.caload, 1) := by decide +kernel
theorem dX8_next_58 : decode cX8_next 58 = .ok (.goto 4, 3) := by decide +kernel
theorem dX8_next_61 : decode cX8_next 61 = .ok (.iconst 1, 1) := by decide +kernel
theorem dX8_next_62 : decode cX8_next 62 = .ok (.ireturn, 1) := by decide +kernel
theorem dX8_takes_0 : decode cX8_takes 0 = .ok (.aload_n 0, 1) := by decide +kernel
theorem dX8_takes_1 : decode cX8_takes 1 = .ok (.invokevirtual 27, 3) := by decide +kernel
theorem dX8_takes_4 : decode cX8_takes 4 = .ok (.iload_n 1, 1) := by decide +kernel
theorem dX8_takes_5 : decode cX8_takes 5 = .ok (.if_icmp .eq 5, 3) := by decide +kernel
theorem dX8_takes_8 : decode cX8_takes 8 = .ok (.iconst 0, 1) := by decide +kernel
theorem dX8_takes_9 : decode cX8_takes 9 = .ok (.ireturn, 1) := by decide +kernel
theorem dX8_takes_10 : decode cX8_takes 10 = .ok (.aload_n 0, 1) := by decide +kernel
theorem dX8_takes_11 : decode cX8_takes 11 = .ok (.dup, 1) := by decide +kernel
theorem dX8_takes_12 : decode cX8_takes 12 = .ok (.getfield 24, 3) := by decide +kernel
theorem dX8_takes_15 : decode cX8_takes 15 = .ok (.iconst 1, 1) := by decide +kernel
theorem dX8_takes_16 : decode cX8_takes 16 = .ok (.iadd, 1) := by decide +kernel
theorem dX8_takes_17 : decode cX8_takes 17 = .ok (.putfield 24, 3) := by decide +kernel
theorem dX8_takes_20 : decode cX8_takes 20 = .ok (.iconst 1, 1) := by decide +kernel
theorem dX8_takes_21 : decode cX8_takes 21 = .ok (.ireturn, 1) := by decide +kernel
theorem dX8_takesOneOf_0 : decode cX8_takesOneOf 0 = .ok (.aload_n 1, 1) := by decide +kernel
theorem dX8_takesOneOf_1 : decode cX8_takesOneOf 1 = .ok (.aload_n 0, 1) := by decide +kernel
theorem dX8_takesOneOf_2 : decode cX8_takesOneOf 2 = .ok (.invokevirtual 27, 3) := by decide +kernel
theorem dX8_takesOneOf_5 : decode cX8_takesOneOf 5 = .ok (.invokevirtual 92, 3) := by decide +kernel
theorem dX8_takesOneOf_8 : decode cX8_takesOneOf 8 = .ok (.istore_n 2, 1) := by decide +kernel
theorem dX8_takesOneOf_9 : decode cX8_takesOneOf 9 = .ok (.iload_n 2, 1) := by decide +kernel
theorem dX8_takesOneOf_10 : decode cX8_takesOneOf 10 = .ok (.ifCond .lt 13, 3) := by decide +kernel
theorem dX8_takesOneOf_13 : decode cX8_takesOneOf 13 = .ok (.aload_n 0, 1) := by decide +kernel
theorem dX8_takesOneOf_14 : decode cX8_takesOneOf 14 = .ok (.dup, 1) := by decide +kernel
theorem dX8_takesOneOf_15 : decode cX8_takesOneOf 15 = .ok (.getfield 24, 3) := by decide +kernel
theorem dX8_takesOneOf_18 : decode cX8_takesOneOf 18 = .ok (.iconst 1, 1) := by decide +kernel
theorem dX8_takesOneOf_19 : decode cX8_takesOneOf 19 = .ok (.iadd, 1) := by decide +kernel
theorem dX8_takesOneOf_20 : decode cX8_takesOneOf 20 = .ok (.putfield 24, 3) := by decide +kernel
theorem dX8_takesOneOf_23 : decode cX8_takesOneOf 23 = .ok (.iload_n 2, 1) := by decide +kernel
theorem dX8_takesOneOf_24 : decode cX8_takesOneOf 24 = .ok (.ireturn, 1) := by decide +kernel
theorem dX9_init_0 : decode cX9_init 0 = .ok (.aload_n 0, 1) := by decide +kernel
theorem dX9_init_1 : decode cX9_init 1 = .ok (.invokespecial 3, 3) := by decide +kernel
theorem dX9_init_4 : decode cX9_init 4 = .ok (.aload_n 0, 1) := by decide +kernel
theorem dX9_init_5 : decode cX9_init 5 = .ok (.iconst 5, 1) := by decide +kernel
theorem dX9_init_6 : decode cX9_init 6 = .ok (.bipush 16, 2) := by decide +kernel
theorem dX9_init_8 : decode cX9_init 8 = .ok (.multianewarray 11 2, 4) := by decide +kernel
theorem dX9_init_12 : decode cX9_init 12 = .ok (.putfield 13, 3) := by decide +kernel
theorem dX9_init_15 : decode cX9_init 15 = .ok (.aload_n 0, 1) := by decide +kernel
theorem dX9_init_16 : decode cX9_init 16 = .ok (.bipush 10, 2) := by decide +kernel
theorem dX9_init_18 : decode cX9_init 18 = .ok (.newarray .int, 2) := by decide +kernel
theorem dX9_init_20 : decode cX9_init 20 = .ok (.putfield 16, 3) := by decide +kernel
theorem dX9_init_23 : decode cX9_init 23 = .ok (.aload_n 0, 1) := by decide +kernel
theorem dX9_init_24 : decode cX9_init 24 = .ok (.iconst 3, 1) := by decide +kernel
theorem dX9_init_25 : decode cX9_init 25 = .ok (.bipush 16, 2) := by decide +kernel
theorem dX9_init_27 : decode cX9_init 27 = .ok (.multianewarray 11 2, 4) := by decide +kernel
theorem dX9_init_31 : decode cX9_init 31 = .ok (.putfield 20, 3) := by decide +kernel
theorem dX9_init_34 : decode cX9_init 34 = .ok (.aload_n 0, 1) := by decide +kernel
theorem dX9_init_35 : decode cX9_init 35 = .ok (.bipush 6, 2) := by decide +kernel
theorem dX9_init_37 : decode cX9_init 37 = .ok (.newarray .int, 2) := by decide +kernel
theorem dX9_init_39 : decode cX9_init 39 = .ok (.putfield 23, 3) := by decide +kernel
theorem dX9_init_42 : decode cX9_init 42 = .ok (.iconst 0, 1) := by decide +kernel
theorem dX9_init_43 : decode cX9_init 43 = .ok (.istore_n 1, 1) := by decide +kernel
theorem dX9_init_44 : decode cX9_init 44 = .ok (.iload_n 1, 1) := by decide +kernel
theorem dX9_init_45 : decode cX9_init 45 = .ok (.bipush 10, 2) := by decide +kernel
theorem dX9_init_47 : decode cX9_init 47 = .ok (.if_icmp .ge 16, 3) := by decide +kernel
theorem dX9_init_50 : decode cX9_init 50 = .ok (.aload_n 0, 1) := by decide +kernel
theorem dX9_init_51 : decode cX9_init 51 = .ok (.getfield 16, 3) := by decide +kernel
theorem dX9_init_54 : decode cX9_init 54 = .ok (.iload_n 1, 1) := by decide +kernel
theorem dX9_init_55 : decode cX9_init 55 = .ok (.iconst 5, 1) := by decide +kernel
theorem dX9_init_56 : decode cX9_init 56 = .ok (.iastore, 1) := by decide +kernel
theorem dX9_init_57 : decode cX9_init 57 = .ok (.iinc 1 1, 3) := by decide +kernel
theorem dX9_init_60 : decode cX9_init 60 = .ok (.goto (-16), 3) := by decide +kernel
theorem dX9_init_63 : decode cX9_init 63 = .ok (.return_, 1) := by decide +kernel
theorem dX9_mayBe_0 : decode cX9_mayBe 0 = .ok (.iload_n 0, 1) := by decide +kernel
theorem dX9_mayBe_1 : decode cX9_mayBe 1 = .ok (.iconst 4, 1) := by decide +kernel
theorem dX9_mayBe_2 : decode cX9_mayBe 2 = .ok (.invokestatic 26, 3) := by decide +kernel
theorem dX9_mayBe_5 : decode cX9_mayBe 5 = .ok (.ifCond .eq 19, 3) := by decide +kernel
theorem dX9_mayBe_8 : decode cX9_mayBe 8 = .ok (.iload_n 1, 1) := by decide +kernel
theorem dX9_mayBe_9 : decode cX9_mayBe 9 = .ok (.getstatic 30, 3) := by decide +kernel
theorem dX9_mayBe_12 : decode cX9_mayBe 12 = .ok (.iload_n 0, 1) := by decide +kernel
theorem dX9_mayBe_13 : decode cX9_mayBe 13 = .ok (.iaload, 1) := by decide +kernel
theorem dX9_mayBe_14 : decode cX9_mayBe 14 = .ok (.invokestatic 26, 3) := by decide +kernel
theorem dX9_mayBe_17 : decode cX9_mayBe 17 = .ok (.ifCond .eq 7, 3) := by decide +kernel
theorem dX9_mayBe_20 : decode cX9_mayBe 20 = .ok (.iconst 1, 1) := by decide +kernel
theorem dX9_mayBe_21 : decode cX9_mayBe 21 = .ok (.goto 4, 3) := by decide +kernel
theorem dX9_mayBe_24 : decode cX9_mayBe 24 = .ok (.iconst 0, 1) := by decide +kernel
theorem dX9_mayBe_25 : decode cX9_mayBe 25 = .ok (.ireturn, 1) := by decide +kernel
theorem dX9_settle_0 : decode cX9_settle 0 = .ok (.aload_n 0, 1) := by decide +kernel
theorem dX9_settle_1 : decode cX9_settle 1 = .ok (.getfield 20, 3) := by decide +kernel
theorem dX9_settle_4 : decode cX9_settle 4 = .ok (.iconst 0, 1) := by decide +kernel
theorem dX9_settle_5 : decode cX9_settle 5 = .ok (.aaload, 1) := by decide +kernel
theorem dX9_settle_6 : decode cX9_settle 6 = .ok (.aload_n 0, 1) := by decide +kernel
theorem dX9_settle_7 : decode cX9_settle 7 = .ok (.getfield 33, 3) := by decide +kernel
theorem dX9_settle_10 : decode cX9_settle 10 = .ok (.iload_n 1, 1) := by decide +kernel
theorem dX9_settle_11 : decode cX9_settle 11 = .ok (.iastore, 1) := by decide +kernel
theorem dX9_settle_12 : decode cX9_settle 12 = .ok (.aload_n 0, 1) := by decide +kernel
theorem dX9_settle_13 : decode cX9_settle 13 = .ok (.getfield 20, 3) := by decide +kernel
theorem dX9_settle_16 : decode cX9_settle 16 = .ok (.iconst 1, 1) := by decide +kernel
theorem dX9_settle_17 : decode cX9_settle 17 = .ok (.aaload, 1) := by decide +kernel
theorem dX9_settle_18 : decode cX9_settle 18 = .ok (.aload_n 0, 1) := by decide +kernel
theorem dX9_settle_19 : decode cX9_settle 19 = .ok (.getfield 33, 3) := by decide +kernel
theorem dX9_settle_22 : decode cX9_settle 22 = .ok (.iload_n 2, 1) := by decide +kernel
theorem dX9_settle_23 : decode cX9_settle 23 = .ok (.iastore, 1) := by decide +kernel
theorem dX9_settle_24 : decode cX9_settle 24 = .ok (.aload_n 0, 1) := by decide +kernel
theorem dX9_settle_25 : decode cX9_settle 25 = .ok (.getfield 20, 3) := by decide +kernel
theorem dX9_settle_28 : decode cX9_settle 28 = .ok (.iconst 2, 1) := by decide +kernel
theorem dX9_settle_29 : decode cX9_settle 29 = .ok (.aaload, 1) := by decide +kernel
theorem dX9_settle_30 : decode cX9_settle 30 = .ok (.aload_n 0, 1) := by decide +kernel
theorem dX9_settle_31 : decode cX9_settle 31 = .ok (.getfield 33, 3) := by decide +kernel
theorem dX9_settle_34 : decode cX9_settle 34 = .ok (.iload_n 3, 1) := by decide +kernel
theorem dX9_settle_35 : decode cX9_settle 35 = .ok (.iastore, 1) := by decide +kernel
theorem dX9_settle_36 : decode cX9_settle 36 = .ok (.aload_n 0, 1) := by decide +kernel
theorem dX9_settle_37 : decode cX9_settle 37 = .ok (.getfield 13, 3) := by decide +kernel
theorem dX9_settle_40 : decode cX9_settle 40 = .ok (.iconst 3, 1) := by decide +kernel
theorem dX9_settle_41 : decode cX9_settle 41 = .ok (.aaload, 1) := by decide +kernel
theorem dX9_settle_42 : decode cX9_settle 42 = .ok (.aload_n 0, 1) := by decide +kernel
theorem dX9_settle_43 : decode cX9_settle 43 = .ok (.getfield 33, 3) := by decide +kernel
theorem dX9_settle_46 : decode cX9_settle 46 = .ok (.iload 4, 2) := by decide +kernel
theorem dX9_settle_48 : decode cX9_settle 48 = .ok (.iastore, 1) := by decide +kernel
theorem dX9_settle_49 : decode cX9_settle 49 = .ok (.aload_n 0, 1) := by decide +kernel
theorem dX9_settle_50 : decode cX9_settle 50 = .ok (.getfield 13, 3) := by decide +kernel
theorem dX9_settle_53 : decode cX9_settle 53 = .ok (.iconst 4, 1) := by decide +kernel
theorem dX9_settle_54 : decode cX9_settle 54 = .ok (.aaload, 1) := by decide +kernel
theorem dX9_settle_55 : decode cX9_settle 55 = .ok (.aload_n 0, 1) := by decide +kernel
theorem dX9_settle_56 : decode cX9_settle 56 = .ok (.getfield 33, 3) := by decide +kernel
theorem dX9_settle_59 : decode cX9_settle 59 = .ok (.iload 5, 2) := by decide +kernel
theorem dX9_settle_61 : decode cX9_settle 61 = .ok (.iastore, 1) := by decide +kernel
theorem dX9_settle_62 : decode cX9_settle 62 = .ok (.aload_n 0, 1) := by decide +kernel
theorem dX9_settle_63 : decode cX9_settle 63 = .ok (.getfield 13, 3) := by decide +kernel
theorem dX9_settle_66 : decode cX9_settle 66 = .ok (.iconst 0, 1) := by decide +kernel
theorem dX9_settle_67 : decode cX9_settle 67 = .ok (.aaload, 1) := by decide +kernel
theorem dX9_settle_68 : decode cX9_settle 68 = .ok (.aload_n 0, 1) := by decide +kernel
theorem dX9_settle_69 : decode cX9_settle 69 = .ok (.getfield 33, 3) := by decide +kernel
theorem dX9_settle_72 : decode cX9_settle 72 = .ok (.bipush 50, 2) := by decide +kernel
theorem dX9_settle_74 : decode cX9_settle 74 = .ok (.iastore, 1) := by decide +kernel
theorem dX9_settle_75 : decode cX9_settle 75 = .ok (.aload_n 0, 1) := by decide +kernel
theorem dX9_settle_76 : decode cX9_settle 76 = .ok (.dup, 1) := by decide +kernel
theorem dX9_settle_77 : decode cX9_settle 77 = .ok (.getfield 33, 3) := by decide +kernel
theorem dX9_settle_80 : decode cX9_settle 80 = .ok (.iconst 1, 1) := by decide +kernel
theorem dX9_settle_81 : decode cX9_settle 81 = .ok (.iadd, 1) := by decide +kernel
theorem dX9_settle_82 : decode cX9_settle 82 = .ok (.putfield 33, 3) := by decide +kernel
theorem dX9_settle_85 : decode cX9_settle 85 = .ok (.aload_n 0, 1) := by decide +kernel
theorem dX9_settle_86 : decode cX9_settle 86 = .ok (.getfield 33, 3) := by decide +kernel
theorem dX9_settle_89 : decode cX9_settle 89 = .ok (.iconst 1, 1) := by decide +kernel
theorem dX9_settle_90 : decode cX9_settle 90 = .ok (.isub, 1) := by decide +kernel
theorem dX9_settle_91 : decode cX9_settle 91 = .ok (.ireturn, 1) := by decide +kernel
theorem dX9_placesAt_0 : decode cX9_placesAt 0 = .ok (.iload_n 1, 1) := by decide +kernel
theorem dX9_placesAt_1 : decode cX9_placesAt 1 = .ok (.bipush 24, 2) := by decide +kernel
theorem dX9_placesAt_3 : decode cX9_placesAt 3 = .ok (.irem, 1) := by decide +kernel
theorem dX9_placesAt_4 : decode cX9_placesAt 4 = .ok (.istore_n 2, 1) := by decide +kernel
theorem dX9_placesAt_5 : decode cX9_placesAt 5 = .ok (.iload_n 2, 1) := by decide +kernel
theorem dX9_placesAt_6 : decode cX9_placesAt 6 = .ok (.bipush 8, 2) := by decide +kernel
theorem dX9_placesAt_8 : decode cX9_placesAt 8 = .ok (.if_icmp .lt 16, 3) := by decide +kernel
theorem dX9_placesAt_11 : decode cX9_placesAt 11 = .ok (.iload_n 2, 1) := by decide +kernel
theorem dX9_placesAt_12 : decode cX9_placesAt 12 = .ok (.bipush 17, 2) := by decide +kernel
theorem dX9_placesAt_14 : decode cX9_placesAt 14 = .ok (.if_icmp .gt 10, 3) := by decide +kernel
theorem dX9_placesAt_17 : decode cX9_placesAt 17 = .ok (.aload_n 0, 1) := by decide +kernel
theorem dX9_placesAt_18 : decode cX9_placesAt 18 = .ok (.getfield 20, 3) := by decide +kernel
theorem dX9_placesAt_21 : decode cX9_placesAt 21 = .ok (.iconst 1, 1) := by decide +kernel
theorem dX9_placesAt_22 : decode cX9_placesAt 22 = .ok (.aaload, 1) := by decide +kernel
theorem dX9_placesAt_23 : decode cX9_placesAt 23 = .ok (.areturn, 1) := by decide +kernel
theorem dX9_placesAt_24 : decode cX9_placesAt 24 = .ok (.iload_n 2, 1) := by decide +kernel
theorem dX9_placesAt_25 : decode cX9_placesAt 25 = .ok (.bipush 18, 2) := by decide +kernel
theorem dX9_placesAt_27 : decode cX9_placesAt 27 = .ok (.if_icmp .lt 18, 3) := by decide +kernel
theorem dX9_placesAt_30 : decode cX9_placesAt 30 = .ok (.iload_n 2, 1) := by decide +kernel
theorem dX9_placesAt_31 : decode cX9_placesAt 31 = .ok (.bipush 21, 2) := by decide +kernel
theorem dX9_placesAt_33 : decode cX9_placesAt 33 = .ok (.if_icmp .gt 12, 3) := by decide +kernel
theorem dX9_placesAt_36 : decode cX9_placesAt 36 = .ok (.aload_n 0, 1) := by decide +kernel
theorem dX9_placesAt_37 : decode cX9_placesAt 37 = .ok (.getfield 20, 3) := by decide +kernel
theorem dX9_placesAt_40 : decode cX9_placesAt 40 = .ok (.iconst 2, 1) := by decide +kernel
theorem dX9_placesAt_41 : decode cX9_placesAt 41 = .ok (.aaload, 1) := by decide +kernel
theorem dX9_placesAt_42 : decode cX9_placesAt 42 = .ok (.goto 9, 3) := by decide +kernel
theorem dX9_placesAt_45 : decode cX9_placesAt 45 = .ok (.aload_n 0, 1) := by decide +kernel
theorem dX9_placesAt_46 : decode cX9_placesAt 46 = .ok (.getfield 20, 3) := by decide +kernel
theorem dX9_placesAt_49 : decode cX9_placesAt 49 = .ok (.iconst 0, 1) := by decide +kernel
theorem dX9_placesAt_50 : decode cX9_placesAt 50 = .ok (.aaload, 1) := by decide +kernel
theorem dX9_placesAt_51 : decode cX9_placesAt 51 = .ok (.areturn, 1) := by decide +kernel
theorem dX9_passHours_0 : decode cX9_passHours 0 = .ok (.iconst 0, 1) := by decide +kernel
theorem dX9_passHours_1 : decode cX9_passHours 1 = .ok (.istore 4, 2) := by decide +kernel
theorem dX9_passHours_3 : decode cX9_passHours 3 = .ok (.iload 4, 2) := by decide +kernel
theorem dX9_passHours_5 : decode cX9_passHours 5 = .ok (.iload_n 3, 1) := by decide +kernel
theorem dX9_passHours_6 : decode cX9_passHours 6 = .ok (.if_icmp .ge 19, 3) := by decide +kernel
theorem dX9_passHours_9 : decode cX9_passHours 9 = .ok (.aload_n 0, 1) := by decide +kernel
theorem dX9_passHours_10 : decode cX9_passHours 10 = .ok (.aload_n 1, 1) := by decide +kernel
theorem dX9_passHours_11 : decode cX9_passHours 11 = .ok (.iload_n 2, 1) := by decide +kernel
theorem dX9_passHours_12 : decode cX9_passHours 12 = .ok (.iload 4, 2) := by decide +kernel
theorem dX9_passHours_14 : decode cX9_passHours 14 = .ok (.iadd, 1) := by decide +kernel
theorem dX9_passHours_15 : decode cX9_passHours 15 = .ok (.invokevirtual 37, 3) := by decide +kernel
theorem dX9_passHours_18 : decode cX9_passHours 18 = .ok (.pop, 1) := by decide +kernel
end
section
theorem dX9_passHours_19 : decode cX9_passHours 19 = .ok (.iinc 4 1, 3) := by decide +kernel
theorem dX9_passHours_22 : decode cX9_passHours 22 = .ok (.goto (-19), 3) := by decide +kernel
theorem dX9_passHours_25 : decode cX9_passHours 25 = .ok (.return_, 1) := by decide +kernel
theorem dX9_passHour_0 : decode cX9_passHour 0 = .ok (.aload_n 0, 1) := by decide +kernel
theorem dX9_passHour_1 : decode cX9_passHour 1 = .ok (.iload_n 2, 1) := by decide +kernel
theorem dX9_passHour_2 : decode cX9_passHour 2 = .ok (.invokevirtual 41, 3) := by decide +kernel
theorem dX9_passHour_5 : decode cX9_passHour 5 = .ok (.astore_n 3, 1) := by decide +kernel
theorem dX9_passHour_6 : decode cX9_passHour 6 = .ok (.aload_n 0, 1) := by decide +kernel
theorem dX9_passHour_7 : decode cX9_passHour 7 = .ok (.aload_n 1, 1) := by decide +kernel
theorem dX9_passHour_8 : decode cX9_passHour 8 = .ok (.aload_n 3, 1) := by decide +kernel
theorem dX9_passHour_9 : decode cX9_passHour 9 = .ok (.invokevirtual 45, 3) := by decide +kernel
theorem dX9_passHour_12 : decode cX9_passHour 12 = .ok (.istore 4, 2) := by decide +kernel
theorem dX9_passHour_14 : decode cX9_passHour 14 = .ok (.iconst 0, 1) := by decide +kernel
theorem dX9_passHour_15 : decode cX9_passHour 15 = .ok (.istore 5, 2) := by decide +kernel
theorem dX9_passHour_17 : decode cX9_passHour 17 = .ok (.iload 5, 2) := by decide +kernel
theorem dX9_passHour_19 : decode cX9_passHour 19 = .ok (.aload_n 0, 1) := by decide +kernel
theorem dX9_passHour_20 : decode cX9_passHour 20 = .ok (.getfield 33, 3) := by decide +kernel
theorem dX9_passHour_23 : decode cX9_passHour 23 = .ok (.if_icmp .ge 53, 3) := by decide +kernel
theorem dX9_passHour_26 : decode cX9_passHour 26 = .ok (.aload_n 0, 1) := by decide +kernel
theorem dX9_passHour_27 : decode cX9_passHour 27 = .ok (.getfield 23, 3) := by decide +kernel
theorem dX9_passHour_30 : decode cX9_passHour 30 = .ok (.aload_n 3, 1) := by decide +kernel
theorem dX9_passHour_31 : decode cX9_passHour 31 = .ok (.iload 5, 2) := by decide +kernel
theorem dX9_passHour_33 : decode cX9_passHour 33 = .ok (.iaload, 1) := by decide +kernel
theorem dX9_passHour_34 : decode cX9_passHour 34 = .ok (.iaload, 1) := by decide +kernel
theorem dX9_passHour_35 : decode cX9_passHour 35 = .ok (.iconst 1, 1) := by decide +kernel
theorem dX9_passHour_36 : decode cX9_passHour 36 = .ok (.iload 5, 2) := by decide +kernel
theorem dX9_passHour_38 : decode cX9_passHour 38 = .ok (.ishl, 1) := by decide +kernel
theorem dX9_passHour_39 : decode cX9_passHour 39 = .ok (.iconst (-1), 1) := by decide +kernel
theorem dX9_passHour_40 : decode cX9_passHour 40 = .ok (.ixor, 1) := by decide +kernel
theorem dX9_passHour_41 : decode cX9_passHour 41 = .ok (.iand, 1) := by decide +kernel
theorem dX9_passHour_42 : decode cX9_passHour 42 = .ok (.istore 6, 2) := by decide +kernel
theorem dX9_passHour_44 : decode cX9_passHour 44 = .ok (.iload 6, 2) := by decide +kernel
theorem dX9_passHour_46 : decode cX9_passHour 46 = .ok (.ifCond .eq 16, 3) := by decide +kernel
theorem dX9_passHour_49 : decode cX9_passHour 49 = .ok (.aload_n 0, 1) := by decide +kernel
theorem dX9_passHour_50 : decode cX9_passHour 50 = .ok (.aload_n 1, 1) := by decide +kernel
theorem dX9_passHour_51 : decode cX9_passHour 51 = .ok (.iload 5, 2) := by decide +kernel
theorem dX9_passHour_53 : decode cX9_passHour 53 = .ok (.iload 6, 2) := by decide +kernel
theorem dX9_passHour_55 : decode cX9_passHour 55 = .ok (.iload_n 2, 1) := by decide +kernel
theorem dX9_passHour_56 : decode cX9_passHour 56 = .ok (.invokevirtual 49, 3) := by decide +kernel
theorem dX9_passHour_59 : decode cX9_passHour 59 = .ok (.goto 11, 3) := by decide +kernel
theorem dX9_passHour_62 : decode cX9_passHour 62 = .ok (.aload_n 0, 1) := by decide +kernel
theorem dX9_passHour_63 : decode cX9_passHour 63 = .ok (.aload_n 1, 1) := by decide +kernel
theorem dX9_passHour_64 : decode cX9_passHour 64 = .ok (.iload 5, 2) := by decide +kernel
theorem dX9_passHour_66 : decode cX9_passHour 66 = .ok (.iload_n 2, 1) := by decide +kernel
theorem dX9_passHour_67 : decode cX9_passHour 67 = .ok (.invokevirtual 53, 3) := by decide +kernel
theorem dX9_passHour_70 : decode cX9_passHour 70 = .ok (.iinc 5 1, 3) := by decide +kernel
theorem dX9_passHour_73 : decode cX9_passHour 73 = .ok (.goto (-56), 3) := by decide +kernel
theorem dX9_passHour_76 : decode cX9_passHour 76 = .ok (.iload 4, 2) := by decide +kernel
theorem dX9_passHour_78 : decode cX9_passHour 78 = .ok (.ireturn, 1) := by decide +kernel
theorem dX9_listen_0 : decode cX9_listen 0 = .ok (.iconst 0, 1) := by decide +kernel
theorem dX9_listen_1 : decode cX9_listen 1 = .ok (.istore_n 3, 1) := by decide +kernel
theorem dX9_listen_2 : decode cX9_listen 2 = .ok (.iload_n 3, 1) := by decide +kernel
theorem dX9_listen_3 : decode cX9_listen 3 = .ok (.bipush 6, 2) := by decide +kernel
theorem dX9_listen_5 : decode cX9_listen 5 = .ok (.if_icmp .ge 16, 3) := by decide +kernel
theorem dX9_listen_8 : decode cX9_listen 8 = .ok (.aload_n 0, 1) := by decide +kernel
theorem dX9_listen_9 : decode cX9_listen 9 = .ok (.getfield 23, 3) := by decide +kernel
theorem dX9_listen_12 : decode cX9_listen 12 = .ok (.iload_n 3, 1) := by decide +kernel
theorem dX9_listen_13 : decode cX9_listen 13 = .ok (.iconst 0, 1) := by decide +kernel
theorem dX9_listen_14 : decode cX9_listen 14 = .ok (.iastore, 1) := by decide +kernel
theorem dX9_listen_15 : decode cX9_listen 15 = .ok (.iinc 3 1, 3) := by decide +kernel
theorem dX9_listen_18 : decode cX9_listen 18 = .ok (.goto (-16), 3) := by decide +kernel
theorem dX9_listen_21 : decode cX9_listen 21 = .ok (.iconst 0, 1) := by decide +kernel
theorem dX9_listen_22 : decode cX9_listen 22 = .ok (.istore_n 3, 1) := by decide +kernel
theorem dX9_listen_23 : decode cX9_listen 23 = .ok (.iconst 0, 1) := by decide +kernel
theorem dX9_listen_24 : decode cX9_listen 24 = .ok (.istore 4, 2) := by decide +kernel
theorem dX9_listen_26 : decode cX9_listen 26 = .ok (.iload 4, 2) := by decide +kernel
theorem dX9_listen_28 : decode cX9_listen 28 = .ok (.aload_n 0, 1) := by decide +kernel
theorem dX9_listen_29 : decode cX9_listen 29 = .ok (.getfield 33, 3) := by decide +kernel
theorem dX9_listen_32 : decode cX9_listen 32 = .ok (.if_icmp .ge 71, 3) := by decide +kernel
theorem dX9_listen_35 : decode cX9_listen 35 = .ok (.aload_n 1, 1) := by decide +kernel
theorem dX9_listen_36 : decode cX9_listen 36 = .ok (.getfield 57, 3) := by decide +kernel
theorem dX9_listen_39 : decode cX9_listen 39 = .ok (.iload 4, 2) := by decide +kernel
theorem dX9_listen_41 : decode cX9_listen 41 = .ok (.iaload, 1) := by decide +kernel
theorem dX9_listen_42 : decode cX9_listen 42 = .ok (.iconst 1, 1) := by decide +kernel
theorem dX9_listen_43 : decode cX9_listen 43 = .ok (.if_icmp .ne 54, 3) := by decide +kernel
theorem dX9_listen_46 : decode cX9_listen 46 = .ok (.aload_n 0, 1) := by decide +kernel
theorem dX9_listen_47 : decode cX9_listen 47 = .ok (.getfield 13, 3) := by decide +kernel
theorem dX9_listen_50 : decode cX9_listen 50 = .ok (.iconst 3, 1) := by decide +kernel
theorem dX9_listen_51 : decode cX9_listen 51 = .ok (.aaload, 1) := by decide +kernel
theorem dX9_listen_52 : decode cX9_listen 52 = .ok (.iload 4, 2) := by decide +kernel
theorem dX9_listen_54 : decode cX9_listen 54 = .ok (.iaload, 1) := by decide +kernel
theorem dX9_listen_55 : decode cX9_listen 55 = .ok (.aload_n 0, 1) := by decide +kernel
theorem dX9_listen_56 : decode cX9_listen 56 = .ok (.aload_n 1, 1) := by decide +kernel
theorem dX9_listen_57 : decode cX9_listen 57 = .ok (.getfield 62, 3) := by decide +kernel
theorem dX9_listen_60 : decode cX9_listen 60 = .ok (.iload 4, 2) := by decide +kernel
theorem dX9_listen_62 : decode cX9_listen 62 = .ok (.iaload, 1) := by decide +kernel
theorem dX9_listen_63 : decode cX9_listen 63 = .ok (.invokevirtual 65, 3) := by decide +kernel
theorem dX9_listen_66 : decode cX9_listen 66 = .ok (.imul, 1) := by decide +kernel
theorem dX9_listen_67 : decode cX9_listen 67 = .ok (.bipush 10, 2) := by decide +kernel
theorem dX9_listen_69 : decode cX9_listen 69 = .ok (.if_icmp .lt 28, 3) := by decide +kernel
theorem dX9_listen_72 : decode cX9_listen 72 = .ok (.aload_n 0, 1) := by decide +kernel
theorem dX9_listen_73 : decode cX9_listen 73 = .ok (.getfield 23, 3) := by decide +kernel
theorem dX9_listen_76 : decode cX9_listen 76 = .ok (.aload_n 2, 1) := by decide +kernel
theorem dX9_listen_77 : decode cX9_listen 77 = .ok (.iload 4, 2) := by decide +kernel
theorem dX9_listen_79 : decode cX9_listen 79 = .ok (.iaload, 1) := by decide +kernel
theorem dX9_listen_80 : decode cX9_listen 80 = .ok (.dup2, 1) := by decide +kernel
theorem dX9_listen_81 : decode cX9_listen 81 = .ok (.iaload, 1) := by decide +kernel
theorem dX9_listen_82 : decode cX9_listen 82 = .ok (.iconst 1, 1) := by decide +kernel
theorem dX9_listen_83 : decode cX9_listen 83 = .ok (.iload 4, 2) := by decide +kernel
theorem dX9_listen_85 : decode cX9_listen 85 = .ok (.ishl, 1) := by decide +kernel
theorem dX9_listen_86 : decode cX9_listen 86 = .ok (.ior, 1) := by decide +kernel
theorem dX9_listen_87 : decode cX9_listen 87 = .ok (.iastore, 1) := by decide +kernel
theorem dX9_listen_88 : decode cX9_listen 88 = .ok (.iload_n 3, 1) := by decide +kernel
theorem dX9_listen_89 : decode cX9_listen 89 = .ok (.iconst 1, 1) := by decide +kernel
theorem dX9_listen_90 : decode cX9_listen 90 = .ok (.aload_n 2, 1) := by decide +kernel
theorem dX9_listen_91 : decode cX9_listen 91 = .ok (.iload 4, 2) := by decide +kernel
theorem dX9_listen_93 : decode cX9_listen 93 = .ok (.iaload, 1) := by decide +kernel
theorem dX9_listen_94 : decode cX9_listen 94 = .ok (.ishl, 1) := by decide +kernel
theorem dX9_listen_95 : decode cX9_listen 95 = .ok (.ior, 1) := by decide +kernel
theorem dX9_listen_96 : decode cX9_listen 96 = .ok (.istore_n 3, 1) := by decide +kernel
theorem dX9_listen_97 : decode cX9_listen 97 = .ok (.iinc 4 1, 3) := by decide +kernel
theorem dX9_listen_100 : decode cX9_listen 100 = .ok (.goto (-74), 3) := by decide +kernel
theorem dX9_listen_103 : decode cX9_listen 103 = .ok (.iload_n 3, 1) := by decide +kernel
theorem dX9_listen_104 : decode cX9_listen 104 = .ok (.ireturn, 1) := by decide +kernel
theorem dX9_hear_0 : decode cX9_hear 0 = .ok (.aload_n 1, 1) := by decide +kernel
theorem dX9_hear_1 : decode cX9_hear 1 = .ok (.getfield 69, 3) := by decide +kernel
theorem dX9_hear_4 : decode cX9_hear 4 = .ok (.iload_n 2, 1) := by decide +kernel
theorem dX9_hear_5 : decode cX9_hear 5 = .ok (.iload 4, 2) := by decide +kernel
theorem dX9_hear_7 : decode cX9_hear 7 = .ok (.iastore, 1) := by decide +kernel
theorem dX9_hear_8 : decode cX9_hear 8 = .ok (.aload_n 1, 1) := by decide +kernel
theorem dX9_hear_9 : decode cX9_hear 9 = .ok (.getfield 57, 3) := by decide +kernel
theorem dX9_hear_12 : decode cX9_hear 12 = .ok (.iload_n 2, 1) := by decide +kernel
theorem dX9_hear_13 : decode cX9_hear 13 = .ok (.iaload, 1) := by decide +kernel
theorem dX9_hear_14 : decode cX9_hear 14 = .ok (.iconst 1, 1) := by decide +kernel
theorem dX9_hear_15 : decode cX9_hear 15 = .ok (.if_icmp .ne 4, 3) := by decide +kernel
theorem dX9_hear_18 : decode cX9_hear 18 = .ok (.return_, 1) := by decide +kernel
theorem dX9_hear_19 : decode cX9_hear 19 = .ok (.aload_n 0, 1) := by decide +kernel
theorem dX9_hear_20 : decode cX9_hear 20 = .ok (.getfield 13, 3) := by decide +kernel
theorem dX9_hear_23 : decode cX9_hear 23 = .ok (.iconst 3, 1) := by decide +kernel
theorem dX9_hear_24 : decode cX9_hear 24 = .ok (.aaload, 1) := by decide +kernel
theorem dX9_hear_25 : decode cX9_hear 25 = .ok (.iload_n 2, 1) := by decide +kernel
theorem dX9_hear_26 : decode cX9_hear 26 = .ok (.iaload, 1) := by decide +kernel
theorem dX9_hear_27 : decode cX9_hear 27 = .ok (.iconst 2, 1) := by decide +kernel
theorem dX9_hear_28 : decode cX9_hear 28 = .ok (.iload_n 3, 1) := by decide +kernel
theorem dX9_hear_29 : decode cX9_hear 29 = .ok (.invokestatic 72, 3) := by decide +kernel
theorem dX9_hear_32 : decode cX9_hear 32 = .ok (.imul, 1) := by decide +kernel
theorem dX9_hear_33 : decode cX9_hear 33 = .ok (.iadd, 1) := by decide +kernel
theorem dX9_hear_34 : decode cX9_hear 34 = .ok (.aload_n 0, 1) := by decide +kernel
theorem dX9_hear_35 : decode cX9_hear 35 = .ok (.getfield 13, 3) := by decide +kernel
theorem dX9_hear_38 : decode cX9_hear 38 = .ok (.iconst 4, 1) := by decide +kernel
theorem dX9_hear_39 : decode cX9_hear 39 = .ok (.aaload, 1) := by decide +kernel
theorem dX9_hear_40 : decode cX9_hear 40 = .ok (.iload_n 2, 1) := by decide +kernel
theorem dX9_hear_41 : decode cX9_hear 41 = .ok (.iaload, 1) := by decide +kernel
theorem dX9_hear_42 : decode cX9_hear 42 = .ok (.if_icmp .le 7, 3) := by decide +kernel
theorem dX9_hear_45 : decode cX9_hear 45 = .ok (.iconst 1, 1) := by decide +kernel
theorem dX9_hear_46 : decode cX9_hear 46 = .ok (.goto 4, 3) := by decide +kernel
theorem dX9_hear_49 : decode cX9_hear 49 = .ok (.iconst 0, 1) := by decide +kernel
theorem dX9_hear_50 : decode cX9_hear 50 = .ok (.istore 5, 2) := by decide +kernel
theorem dX9_hear_52 : decode cX9_hear 52 = .ok (.aload_n 1, 1) := by decide +kernel
theorem dX9_hear_53 : decode cX9_hear 53 = .ok (.iload_n 2, 1) := by decide +kernel
theorem dX9_hear_54 : decode cX9_hear 54 = .ok (.invokevirtual 77, 3) := by decide +kernel
theorem dX9_hear_57 : decode cX9_hear 57 = .ok (.ifCond .eq 55, 3) := by decide +kernel
theorem dX9_hear_60 : decode cX9_hear 60 = .ok (.iload_n 3, 1) := by decide +kernel
theorem dX9_hear_61 : decode cX9_hear 61 = .ok (.invokestatic 81, 3) := by decide +kernel
theorem dX9_hear_64 : decode cX9_hear 64 = .ok (.istore 6, 2) := by decide +kernel
theorem dX9_hear_66 : decode cX9_hear 66 = .ok (.aload_n 1, 1) := by decide +kernel
theorem dX9_hear_67 : decode cX9_hear 67 = .ok (.iload_n 2, 1) := by decide +kernel
theorem dX9_hear_68 : decode cX9_hear 68 = .ok (.aload_n 1, 1) := by decide +kernel
theorem dX9_hear_69 : decode cX9_hear 69 = .ok (.getfield 62, 3) := by decide +kernel
theorem dX9_hear_72 : decode cX9_hear 72 = .ok (.iload 6, 2) := by decide +kernel
theorem dX9_hear_74 : decode cX9_hear 74 = .ok (.iaload, 1) := by decide +kernel
theorem dX9_hear_75 : decode cX9_hear 75 = .ok (.aload_n 0, 1) := by decide +kernel
theorem dX9_hear_76 : decode cX9_hear 76 = .ok (.getfield 13, 3) := by decide +kernel
theorem dX9_hear_79 : decode cX9_hear 79 = .ok (.iconst 1, 1) := by decide +kernel
theorem dX9_hear_80 : decode cX9_hear 80 = .ok (.aaload, 1) := by decide +kernel
theorem dX9_hear_81 : decode cX9_hear 81 = .ok (.iload 6, 2) := by decide +kernel
theorem dX9_hear_83 : decode cX9_hear 83 = .ok (.iaload, 1) := by decide +kernel
theorem dX9_hear_84 : decode cX9_hear 84 = .ok (.invokestatic 84, 3) := by decide +kernel
theorem dX9_hear_87 : decode cX9_hear 87 = .ok (.iload 6, 2) := by decide +kernel
theorem dX9_hear_89 : decode cX9_hear 89 = .ok (.invokevirtual 90, 3) := by decide +kernel
theorem dX9_hear_92 : decode cX9_hear 92 = .ok (.aload_n 1, 1) := by decide +kernel
theorem dX9_hear_93 : decode cX9_hear 93 = .ok (.iload_n 2, 1) := by decide +kernel
theorem dX9_hear_94 : decode cX9_hear 94 = .ok (.iload 5, 2) := by decide +kernel
theorem dX9_hear_96 : decode cX9_hear 96 = .ok (.ifCond .eq 7, 3) := by decide +kernel
theorem dX9_hear_99 : decode cX9_hear 99 = .ok (.iconst 1, 1) := by decide +kernel
theorem dX9_hear_100 : decode cX9_hear 100 = .ok (.goto 4, 3) := by decide +kernel
theorem dX9_hear_103 : decode cX9_hear 103 = .ok (.iconst 2, 1) := by decide +kernel
theorem dX9_hear_104 : decode cX9_hear 104 = .ok (.iload 4, 2) := by decide +kernel
theorem dX9_hear_106 : decode cX9_hear 106 = .ok (.invokevirtual 94, 3) := by decide +kernel
theorem dX9_hear_109 : decode cX9_hear 109 = .ok (.goto 16, 3) := by decide +kernel
theorem dX9_hear_112 : decode cX9_hear 112 = .ok (.iload 5, 2) := by decide +kernel
theorem dX9_hear_114 : decode cX9_hear 114 = .ok (.ifCond .eq 11, 3) := by decide +kernel
theorem dX9_hear_117 : decode cX9_hear 117 = .ok (.aload_n 1, 1) := by decide +kernel
theorem dX9_hear_118 : decode cX9_hear 118 = .ok (.iload_n 2, 1) := by decide +kernel
theorem dX9_hear_119 : decode cX9_hear 119 = .ok (.iconst 1, 1) := by decide +kernel
theorem dX9_hear_120 : decode cX9_hear 120 = .ok (.iload 4, 2) := by decide +kernel
theorem dX9_hear_122 : decode cX9_hear 122 = .ok (.invokevirtual 94, 3) := by decide +kernel
theorem dX9_hear_125 : decode cX9_hear 125 = .ok (.return_, 1) := by decide +kernel
theorem dX9_fade_0 : decode cX9_fade 0 = .ok (.aload_n 1, 1) := by decide +kernel
theorem dX9_fade_1 : decode cX9_fade 1 = .ok (.iload_n 2, 1) := by decide +kernel
theorem dX9_fade_2 : decode cX9_fade 2 = .ok (.invokevirtual 77, 3) := by decide +kernel
theorem dX9_fade_5 : decode cX9_fade 5 = .ok (.ifCond .ne 23, 3) := by decide +kernel
theorem dX9_fade_8 : decode cX9_fade 8 = .ok (.iload_n 3, 1) := by decide +kernel
theorem dX9_fade_9 : decode cX9_fade 9 = .ok (.aload_n 1, 1) := by decide +kernel
theorem dX9_fade_10 : decode cX9_fade 10 = .ok (.getfield 69, 3) := by decide +kernel
theorem dX9_fade_13 : decode cX9_fade 13 = .ok (.iload_n 2, 1) := by decide +kernel
theorem dX9_fade_14 : decode cX9_fade 14 = .ok (.iaload, 1) := by decide +kernel
theorem dX9_fade_15 : decode cX9_fade 15 = .ok (.isub, 1) := by decide +kernel
theorem dX9_fade_16 : decode cX9_fade 16 = .ok (.bipush 48, 2) := by decide +kernel
theorem dX9_fade_18 : decode cX9_fade 18 = .ok (.if_icmp .lt 10, 3) := by decide +kernel
theorem dX9_fade_21 : decode cX9_fade 21 = .ok (.aload_n 1, 1) := by decide +kernel
theorem dX9_fade_22 : decode cX9_fade 22 = .ok (.iload_n 2, 1) := by decide +kernel
theorem dX9_fade_23 : decode cX9_fade 23 = .ok (.iconst 3, 1) := by decide +kernel
theorem dX9_fade_24 : decode cX9_fade 24 = .ok (.iload_n 3, 1) := by decide +kernel
theorem dX9_fade_25 : decode cX9_fade 25 = .ok (.invokevirtual 94, 3) := by decide +kernel
theorem dX9_fade_28 : decode cX9_fade 28 = .ok (.return_, 1) := by decide +kernel
theorem dX9_leastOf_0 : decode cX9_leastOf 0 = .ok (.iload_n 0, 1) := by decide +kernel
theorem dX9_leastOf_1 : decode cX9_leastOf 1 = .ok (.iload_n 0, 1) := by decide +kernel
theorem dX9_leastOf_2 : decode cX9_leastOf 2 = .ok (.ineg, 1) := by decide +kernel
theorem dX9_leastOf_3 : decode cX9_leastOf 3 = .ok (.iand, 1) := by decide +kernel
theorem dX9_leastOf_4 : decode cX9_leastOf 4 = .ok (.iconst 1, 1) := by decide +kernel
theorem dX9_leastOf_5 : decode cX9_leastOf 5 = .ok (.isub, 1) := by decide +kernel
theorem dX9_leastOf_6 : decode cX9_leastOf 6 = .ok (.invokestatic 72, 3) := by decide +kernel
theorem dX9_leastOf_9 : decode cX9_leastOf 9 = .ok (.ireturn, 1) := by decide +kernel
theorem dX9_weightOf_0 : decode cX9_weightOf 0 = .ok (.aload_n 0, 1) := by decide +kernel
theorem dX9_weightOf_1 : decode cX9_weightOf 1 = .ok (.getfield 16, 3) := by decide +kernel
theorem dX9_weightOf_4 : decode cX9_weightOf 4 = .ok (.iload_n 1, 1) := by decide +kernel
theorem dX9_weightOf_5 : decode cX9_weightOf 5 = .ok (.iconst 1, 1) := by decide +kernel
theorem dX9_weightOf_6 : decode cX9_weightOf 6 = .ok (.invokestatic 97, 3) := by decide +kernel
theorem dX9_weightOf_9 : decode cX9_weightOf 9 = .ok (.iaload, 1) := by decide +kernel
theorem dX9_weightOf_10 : decode cX9_weightOf 10 = .ok (.ireturn, 1) := by decide +kernel
theorem dX9_harmOf_0 : decode cX9_harmOf 0 = .ok (.iconst 0, 1) := by decide +kernel
theorem dX9_harmOf_1 : decode cX9_harmOf 1 = .ok (.istore_n 2, 1) := by decide +kernel
theorem dX9_harmOf_2 : decode cX9_harmOf 2 = .ok (.iconst 0, 1) := by decide +kernel
theorem dX9_harmOf_3 : decode cX9_harmOf 3 = .ok (.istore_n 3, 1) := by decide +kernel
theorem dX9_harmOf_4 : decode cX9_harmOf 4 = .ok (.iload_n 3, 1) := by decide +kernel
theorem dX9_harmOf_5 : decode cX9_harmOf 5 = .ok (.aload_n 0, 1) := by decide +kernel
theorem dX9_harmOf_6 : decode cX9_harmOf 6 = .ok (.getfield 33, 3) := by decide +kernel
theorem dX9_harmOf_9 : decode cX9_harmOf 9 = .ok (.if_icmp .ge 32, 3) := by decide +kernel
theorem dX9_harmOf_12 : decode cX9_harmOf 12 = .ok (.aload_n 1, 1) := by decide +kernel
theorem dX9_harmOf_13 : decode cX9_harmOf 13 = .ok (.getfield 57, 3) := by decide +kernel
theorem dX9_harmOf_16 : decode cX9_harmOf 16 = .ok (.iload_n 3, 1) := by decide +kernel
theorem dX9_harmOf_17 : decode cX9_harmOf 17 = .ok (.iaload, 1) := by decide +kernel
theorem dX9_harmOf_18 : decode cX9_harmOf 18 = .ok (.iconst 1, 1) := by decide +kernel
theorem dX9_harmOf_19 : decode cX9_harmOf 19 = .ok (.if_icmp .ne 16, 3) := by decide +kernel
theorem dX9_harmOf_22 : decode cX9_harmOf 22 = .ok (.iload_n 2, 1) := by decide +kernel
theorem dX9_harmOf_23 : decode cX9_harmOf 23 = .ok (.aload_n 0, 1) := by decide +kernel
theorem dX9_harmOf_24 : decode cX9_harmOf 24 = .ok (.aload_n 1, 1) := by decide +kernel
theorem dX9_harmOf_25 : decode cX9_harmOf 25 = .ok (.getfield 62, 3) := by decide +kernel
theorem dX9_harmOf_28 : decode cX9_harmOf 28 = .ok (.iload_n 3, 1) := by decide +kernel
theorem dX9_harmOf_29 : decode cX9_harmOf 29 = .ok (.iaload, 1) := by decide +kernel
theorem dX9_harmOf_30 : decode cX9_harmOf 30 = .ok (.invokevirtual 65, 3) := by decide +kernel
theorem dX9_harmOf_33 : decode cX9_harmOf 33 = .ok (.iadd, 1) := by decide +kernel
theorem dX9_harmOf_34 : decode cX9_harmOf 34 = .ok (.istore_n 2, 1) := by decide +kernel
theorem dX9_harmOf_35 : decode cX9_harmOf 35 = .ok (.iinc 3 1, 3) := by decide +kernel
theorem dX9_harmOf_38 : decode cX9_harmOf 38 = .ok (.goto (-34), 3) := by decide +kernel
theorem dX9_harmOf_41 : decode cX9_harmOf 41 = .ok (.iload_n 2, 1) := by decide +kernel
theorem dX9_harmOf_42 : decode cX9_harmOf 42 = .ok (.ireturn, 1) := by decide +kernel
theorem dX9_print_0 : decode cX9_print 0 = .ok (.iconst 0, 1) := by decide +kernel
theorem dX9_print_1 : decode cX9_print 1 = .ok (.istore 5, 2) := by decide +kernel
theorem dX9_print_3 : decode cX9_print 3 = .ok (.iconst 0, 1) := by decide +kernel
theorem dX9_print_4 : decode cX9_print 4 = .ok (.istore 6, 2) := by decide +kernel
theorem dX9_print_6 : decode cX9_print 6 = .ok (.iload 6, 2) := by decide +kernel
theorem dX9_print_8 : decode cX9_print 8 = .ok (.aload_n 0, 1) := by decide +kernel
theorem dX9_print_9 : decode cX9_print 9 = .ok (.getfield 33, 3) := by decide +kernel
theorem dX9_print_12 : decode cX9_print 12 = .ok (.if_icmp .ge 87, 3) := by decide +kernel
theorem dX9_print_15 : decode cX9_print 15 = .ok (.iload_n 3, 1) := by decide +kernel
theorem dX9_print_16 : decode cX9_print 16 = .ok (.iconst 2, 1) := by decide +kernel
theorem dX9_print_17 : decode cX9_print 17 = .ok (.if_icmp .ne 16, 3) := by decide +kernel
theorem dX9_print_20 : decode cX9_print 20 = .ok (.aload_n 1, 1) := by decide +kernel
theorem dX9_print_21 : decode cX9_print 21 = .ok (.iload 6, 2) := by decide +kernel
theorem dX9_print_23 : decode cX9_print 23 = .ok (.invokevirtual 77, 3) := by decide +kernel
theorem dX9_print_26 : decode cX9_print 26 = .ok (.ifCond .eq 7, 3) := by decide +kernel
theorem dX9_print_29 : decode cX9_print 29 = .ok (.iconst 1, 1) := by decide +kernel
theorem dX9_print_30 : decode cX9_print 30 = .ok (.goto 4, 3) := by decide +kernel
theorem dX9_print_33 : decode cX9_print 33 = .ok (.iconst 0, 1) := by decide +kernel
theorem dX9_print_34 : decode cX9_print 34 = .ok (.istore 7, 2) := by decide +kernel
theorem dX9_print_36 : decode cX9_print 36 = .ok (.aload_n 0, 1) := by decide +kernel
theorem dX9_print_37 : decode cX9_print 37 = .ok (.getfield 13, 3) := by decide +kernel
theorem dX9_print_40 : decode cX9_print 40 = .ok (.iconst 2, 1) := by decide +kernel
theorem dX9_print_41 : decode cX9_print 41 = .ok (.aaload, 1) := by decide +kernel
theorem dX9_print_42 : decode cX9_print 42 = .ok (.iload 6, 2) := by decide +kernel
theorem dX9_print_44 : decode cX9_print 44 = .ok (.iaload, 1) := by decide +kernel
theorem dX9_print_45 : decode cX9_print 45 = .ok (.iconst 1, 1) := by decide +kernel
theorem dX9_print_46 : decode cX9_print 46 = .ok (.if_icmp .ne 47, 3) := by decide +kernel
theorem dX9_print_49 : decode cX9_print 49 = .ok (.iload 7, 2) := by decide +kernel
theorem dX9_print_51 : decode cX9_print 51 = .ok (.ifCond .ne 42, 3) := by decide +kernel
theorem dX9_print_54 : decode cX9_print 54 = .ok (.aload_n 1, 1) := by decide +kernel
theorem dX9_print_55 : decode cX9_print 55 = .ok (.getfield 57, 3) := by decide +kernel
theorem dX9_print_58 : decode cX9_print 58 = .ok (.iload 6, 2) := by decide +kernel
theorem dX9_print_60 : decode cX9_print 60 = .ok (.iaload, 1) := by decide +kernel
theorem dX9_print_61 : decode cX9_print 61 = .ok (.istore 8, 2) := by decide +kernel
theorem dX9_print_63 : decode cX9_print 63 = .ok (.aload_n 0, 1) := by decide +kernel
theorem dX9_print_64 : decode cX9_print 64 = .ok (.aload_n 1, 1) := by decide +kernel
theorem dX9_print_65 : decode cX9_print 65 = .ok (.iload 6, 2) := by decide +kernel
theorem dX9_print_67 : decode cX9_print 67 = .ok (.iload_n 2, 1) := by decide +kernel
theorem dX9_print_68 : decode cX9_print 68 = .ok (.getstatic 100, 3) := by decide +kernel
theorem dX9_print_71 : decode cX9_print 71 = .ok (.iload_n 3, 1) := by decide +kernel
theorem dX9_print_72 : decode cX9_print 72 = .ok (.iaload, 1) := by decide +kernel
theorem dX9_print_73 : decode cX9_print 73 = .ok (.iload 4, 2) := by decide +kernel
theorem dX9_print_75 : decode cX9_print 75 = .ok (.invokevirtual 103, 3) := by decide +kernel
theorem dX9_print_78 : decode cX9_print 78 = .ok (.aload_n 1, 1) := by decide +kernel
theorem dX9_print_79 : decode cX9_print 79 = .ok (.getfield 57, 3) := by decide +kernel
theorem dX9_print_82 : decode cX9_print 82 = .ok (.iload 6, 2) := by decide +kernel
theorem dX9_print_84 : decode cX9_print 84 = .ok (.iaload, 1) := by decide +kernel
theorem dX9_print_85 : decode cX9_print 85 = .ok (.iload 8, 2) := by decide +kernel
theorem dX9_print_87 : decode cX9_print 87 = .ok (.if_icmp .eq 6, 3) := by decide +kernel
theorem dX9_print_90 : decode cX9_print 90 = .ok (.iinc 5 1, 3) := by decide +kernel
theorem dX9_print_93 : decode cX9_print 93 = .ok (.iinc 6 1, 3) := by decide +kernel
theorem dX9_print_96 : decode cX9_print 96 = .ok (.goto (-90), 3) := by decide +kernel
theorem dX9_print_99 : decode cX9_print 99 = .ok (.iload 5, 2) := by decide +kernel
theorem dX9_print_101 : decode cX9_print 101 = .ok (.ireturn, 1) := by decide +kernel
theorem dX9_readDenial_0 : decode cX9_readDenial 0 = .ok (.aload_n 0, 1) := by decide +kernel
theorem dX9_readDenial_1 : decode cX9_readDenial 1 = .ok (.getfield 13, 3) := by decide +kernel
theorem dX9_readDenial_4 : decode cX9_readDenial 4 = .ok (.iconst 3, 1) := by decide +kernel
theorem dX9_readDenial_5 : decode cX9_readDenial 5 = .ok (.aaload, 1) := by decide +kernel
theorem dX9_readDenial_6 : decode cX9_readDenial 6 = .ok (.iload_n 2, 1) := by decide +kernel
theorem dX9_readDenial_7 : decode cX9_readDenial 7 = .ok (.iaload, 1) := by decide +kernel
theorem dX9_readDenial_8 : decode cX9_readDenial 8 = .ok (.istore 6, 2) := by decide +kernel
theorem dX9_readDenial_10 : decode cX9_readDenial 10 = .ok (.aload_n 0, 1) := by decide +kernel
theorem dX9_readDenial_11 : decode cX9_readDenial 11 = .ok (.getfield 13, 3) := by decide +kernel
theorem dX9_readDenial_14 : decode cX9_readDenial 14 = .ok (.iconst 0, 1) := by decide +kernel
theorem dX9_readDenial_15 : decode cX9_readDenial 15 = .ok (.aaload, 1) := by decide +kernel
theorem dX9_readDenial_16 : decode cX9_readDenial 16 = .ok (.iload_n 2, 1) := by decide +kernel
theorem dX9_readDenial_17 : decode cX9_readDenial 17 = .ok (.iaload, 1) := by decide +kernel
theorem dX9_readDenial_18 : decode cX9_readDenial 18 = .ok (.istore 7, 2) := by decide +kernel
theorem dX9_readDenial_20 : decode cX9_readDenial 20 = .ok (.aload_n 1, 1) := by decide +kernel
theorem dX9_readDenial_21 : decode cX9_readDenial 21 = .ok (.getfield 69, 3) := by decide +kernel
theorem dX9_readDenial_24 : decode cX9_readDenial 24 = .ok (.iload_n 2, 1) := by decide +kernel
theorem dX9_readDenial_25 : decode cX9_readDenial 25 = .ok (.iload 5, 2) := by decide +kernel
theorem dX9_readDenial_27 : decode cX9_readDenial 27 = .ok (.iastore, 1) := by decide +kernel
theorem dX9_readDenial_28 : decode cX9_readDenial 28 = .ok (.aload_n 1, 1) := by decide +kernel
theorem dX9_readDenial_29 : decode cX9_readDenial 29 = .ok (.iload_n 2, 1) := by decide +kernel
theorem dX9_readDenial_30 : decode cX9_readDenial 30 = .ok (.invokevirtual 77, 3) := by decide +kernel
theorem dX9_readDenial_33 : decode cX9_readDenial 33 = .ok (.ifCond .eq 36, 3) := by decide +kernel
theorem dX9_readDenial_36 : decode cX9_readDenial 36 = .ok (.aload_n 1, 1) := by decide +kernel
theorem dX9_readDenial_37 : decode cX9_readDenial 37 = .ok (.iload_n 2, 1) := by decide +kernel
theorem dX9_readDenial_38 : decode cX9_readDenial 38 = .ok (.iload_n 3, 1) := by decide +kernel
theorem dX9_readDenial_39 : decode cX9_readDenial 39 = .ok (.bipush 16, 2) := by decide +kernel
theorem dX9_readDenial_41 : decode cX9_readDenial 41 = .ok (.invokevirtual 90, 3) := by decide +kernel
theorem dX9_readDenial_44 : decode cX9_readDenial 44 = .ok (.aload_n 1, 1) := by decide +kernel
theorem dX9_readDenial_45 : decode cX9_readDenial 45 = .ok (.iload_n 2, 1) := by decide +kernel
theorem dX9_readDenial_46 : decode cX9_readDenial 46 = .ok (.bipush 10, 2) := by decide +kernel
theorem dX9_readDenial_48 : decode cX9_readDenial 48 = .ok (.iload 6, 2) := by decide +kernel
theorem dX9_readDenial_50 : decode cX9_readDenial 50 = .ok (.imul, 1) := by decide +kernel
theorem dX9_readDenial_51 : decode cX9_readDenial 51 = .ok (.iload 7, 2) := by decide +kernel
theorem dX9_readDenial_53 : decode cX9_readDenial 53 = .ok (.if_icmp .le 7, 3) := by decide +kernel
theorem dX9_readDenial_56 : decode cX9_readDenial 56 = .ok (.iconst 1, 1) := by decide +kernel
theorem dX9_readDenial_57 : decode cX9_readDenial 57 = .ok (.goto 4, 3) := by decide +kernel
theorem dX9_readDenial_60 : decode cX9_readDenial 60 = .ok (.iconst 2, 1) := by decide +kernel
theorem dX9_readDenial_61 : decode cX9_readDenial 61 = .ok (.iload 5, 2) := by decide +kernel
theorem dX9_readDenial_63 : decode cX9_readDenial 63 = .ok (.invokevirtual 94, 3) := by decide +kernel
theorem dX9_readDenial_66 : decode cX9_readDenial 66 = .ok (.goto 34, 3) := by decide +kernel
theorem dX9_readDenial_69 : decode cX9_readDenial 69 = .ok (.aload_n 1, 1) := by decide +kernel
theorem dX9_readDenial_70 : decode cX9_readDenial 70 = .ok (.getfield 57, 3) := by decide +kernel
theorem dX9_readDenial_73 : decode cX9_readDenial 73 = .ok (.iload_n 2, 1) := by decide +kernel
theorem dX9_readDenial_74 : decode cX9_readDenial 74 = .ok (.iaload, 1) := by decide +kernel
theorem dX9_readDenial_75 : decode cX9_readDenial 75 = .ok (.iconst 1, 1) := by decide +kernel
theorem dX9_readDenial_76 : decode cX9_readDenial 76 = .ok (.if_icmp .ne 24, 3) := by decide +kernel
theorem dX9_readDenial_79 : decode cX9_readDenial 79 = .ok (.iload 7, 2) := by decide +kernel
theorem dX9_readDenial_81 : decode cX9_readDenial 81 = .ok (.iload 4, 2) := by decide +kernel
theorem dX9_readDenial_83 : decode cX9_readDenial 83 = .ok (.imul, 1) := by decide +kernel
theorem dX9_readDenial_84 : decode cX9_readDenial 84 = .ok (.bipush 20, 2) := by decide +kernel
theorem dX9_readDenial_86 : decode cX9_readDenial 86 = .ok (.iload 6, 2) := by decide +kernel
theorem dX9_readDenial_88 : decode cX9_readDenial 88 = .ok (.imul, 1) := by decide +kernel
theorem dX9_readDenial_89 : decode cX9_readDenial 89 = .ok (.if_icmp .le 11, 3) := by decide +kernel
theorem dX9_readDenial_92 : decode cX9_readDenial 92 = .ok (.aload_n 1, 1) := by decide +kernel
theorem dX9_readDenial_93 : decode cX9_readDenial 93 = .ok (.iload_n 2, 1) := by decide +kernel
theorem dX9_readDenial_94 : decode cX9_readDenial 94 = .ok (.iconst 2, 1) := by decide +kernel
theorem dX9_readDenial_95 : decode cX9_readDenial 95 = .ok (.iload 5, 2) := by decide +kernel
theorem dX9_readDenial_97 : decode cX9_readDenial 97 = .ok (.invokevirtual 94, 3) := by decide +kernel
theorem dX9_readDenial_100 : decode cX9_readDenial 100 = .ok (.return_, 1) := by decide +kernel
theorem dX9_loseTrust_0 : decode cX9_loseTrust 0 = .ok (.iconst 0, 1) := by decide +kernel
theorem dX9_loseTrust_1 : decode cX9_loseTrust 1 = .ok (.istore_n 2, 1) := by decide +kernel
theorem dX9_loseTrust_2 : decode cX9_loseTrust 2 = .ok (.iload_n 2, 1) := by decide +kernel
theorem dX9_loseTrust_3 : decode cX9_loseTrust 3 = .ok (.aload_n 0, 1) := by decide +kernel
theorem dX9_loseTrust_4 : decode cX9_loseTrust 4 = .ok (.getfield 33, 3) := by decide +kernel
theorem dX9_loseTrust_7 : decode cX9_loseTrust 7 = .ok (.if_icmp .ge 46, 3) := by decide +kernel
theorem dX9_loseTrust_10 : decode cX9_loseTrust 10 = .ok (.aload_n 0, 1) := by decide +kernel
theorem dX9_loseTrust_11 : decode cX9_loseTrust 11 = .ok (.getfield 13, 3) := by decide +kernel
theorem dX9_loseTrust_14 : decode cX9_loseTrust 14 = .ok (.iconst 2, 1) := by decide +kernel
theorem dX9_loseTrust_15 : decode cX9_loseTrust 15 = .ok (.aaload, 1) := by decide +kernel
theorem dX9_loseTrust_16 : decode cX9_loseTrust 16 = .ok (.iload_n 2, 1) := by decide +kernel
theorem dX9_loseTrust_17 : decode cX9_loseTrust 17 = .ok (.iaload, 1) := by decide +kernel
theorem dX9_loseTrust_18 : decode cX9_loseTrust 18 = .ok (.iconst 1, 1) := by decide +kernel
theorem dX9_loseTrust_19 : decode cX9_loseTrust 19 = .ok (.if_icmp .ne 28, 3) := by decide +kernel
theorem dX9_loseTrust_22 : decode cX9_loseTrust 22 = .ok (.aload_n 0, 1) := by decide +kernel
theorem dX9_loseTrust_23 : decode cX9_loseTrust 23 = .ok (.getfield 13, 3) := by decide +kernel
theorem dX9_loseTrust_26 : decode cX9_loseTrust 26 = .ok (.iconst 0, 1) := by decide +kernel
theorem dX9_loseTrust_27 : decode cX9_loseTrust 27 = .ok (.aaload, 1) := by decide +kernel
theorem dX9_loseTrust_28 : decode cX9_loseTrust 28 = .ok (.iload_n 2, 1) := by decide +kernel
theorem dX9_loseTrust_29 : decode cX9_loseTrust 29 = .ok (.iconst 0, 1) := by decide +kernel
theorem dX9_loseTrust_30 : decode cX9_loseTrust 30 = .ok (.aload_n 0, 1) := by decide +kernel
theorem dX9_loseTrust_31 : decode cX9_loseTrust 31 = .ok (.getfield 13, 3) := by decide +kernel
theorem dX9_loseTrust_34 : decode cX9_loseTrust 34 = .ok (.iconst 0, 1) := by decide +kernel
theorem dX9_loseTrust_35 : decode cX9_loseTrust 35 = .ok (.aaload, 1) := by decide +kernel
theorem dX9_loseTrust_36 : decode cX9_loseTrust 36 = .ok (.iload_n 2, 1) := by decide +kernel
theorem dX9_loseTrust_37 : decode cX9_loseTrust 37 = .ok (.iaload, 1) := by decide +kernel
theorem dX9_loseTrust_38 : decode cX9_loseTrust 38 = .ok (.bipush 15, 2) := by decide +kernel
theorem dX9_loseTrust_40 : decode cX9_loseTrust 40 = .ok (.iload_n 1, 1) := by decide +kernel
theorem dX9_loseTrust_41 : decode cX9_loseTrust 41 = .ok (.imul, 1) := by decide +kernel
theorem dX9_loseTrust_42 : decode cX9_loseTrust 42 = .ok (.isub, 1) := by decide +kernel
theorem dX9_loseTrust_43 : decode cX9_loseTrust 43 = .ok (.invokestatic 107, 3) := by decide +kernel
theorem dX9_loseTrust_46 : decode cX9_loseTrust 46 = .ok (.iastore, 1) := by decide +kernel
theorem dX9_loseTrust_47 : decode cX9_loseTrust 47 = .ok (.iinc 2 1, 3) := by decide +kernel
theorem dX9_loseTrust_50 : decode cX9_loseTrust 50 = .ok (.goto (-48), 3) := by decide +kernel
theorem dX9_loseTrust_53 : decode cX9_loseTrust 53 = .ok (.return_, 1) := by decide +kernel
theorem dX10_init_0 : decode cX10_init 0 = .ok (.aload_n 0, 1) := by decide +kernel
theorem dX10_init_1 : decode cX10_init 1 = .ok (.invokespecial 1, 3) := by decide +kernel
theorem dX10_init_4 : decode cX10_init 4 = .ok (.aload_n 0, 1) := by decide +kernel
theorem dX10_init_5 : decode cX10_init 5 = .ok (.new 7, 3) := by decide +kernel
theorem dX10_init_8 : decode cX10_init 8 = .ok (.dup, 1) := by decide +kernel
theorem dX10_init_9 : decode cX10_init 9 = .ok (.invokespecial 9, 3) := by decide +kernel
theorem dX10_init_12 : decode cX10_init 12 = .ok (.putfield 10, 3) := by decide +kernel
theorem dX10_init_15 : decode cX10_init 15 = .ok (.aload_n 0, 1) := by decide +kernel
theorem dX10_init_16 : decode cX10_init 16 = .ok (.bipush 8, 2) := by decide +kernel
theorem dX10_init_18 : decode cX10_init 18 = .ok (.anewarray 16, 3) := by decide +kernel
theorem dX10_init_21 : decode cX10_init 21 = .ok (.putfield 18, 3) := by decide +kernel
theorem dX10_init_24 : decode cX10_init 24 = .ok (.aload_n 0, 1) := by decide +kernel
theorem dX10_init_25 : decode cX10_init 25 = .ok (.new 22, 3) := by decide +kernel
theorem dX10_init_28 : decode cX10_init 28 = .ok (.dup, 1) := by decide +kernel
theorem dX10_init_29 : decode cX10_init 29 = .ok (.invokespecial 24, 3) := by decide +kernel
theorem dX10_init_32 : decode cX10_init 32 = .ok (.putfield 25, 3) := by decide +kernel
theorem dX10_init_35 : decode cX10_init 35 = .ok (.aload_n 0, 1) := by decide +kernel
theorem dX10_init_36 : decode cX10_init 36 = .ok (.new 29, 3) := by decide +kernel
theorem dX10_init_39 : decode cX10_init 39 = .ok (.dup, 1) := by decide +kernel
theorem dX10_init_40 : decode cX10_init 40 = .ok (.invokespecial 31, 3) := by decide +kernel
theorem dX10_init_43 : decode cX10_init 43 = .ok (.putfield 32, 3) := by decide +kernel
theorem dX10_init_46 : decode cX10_init 46 = .ok (.aload_n 0, 1) := by decide +kernel
theorem dX10_init_47 : decode cX10_init 47 = .ok (.new 36, 3) := by decide +kernel
theorem dX10_init_50 : decode cX10_init 50 = .ok (.dup, 1) := by decide +kernel
theorem dX10_init_51 : decode cX10_init 51 = .ok (.invokespecial 38, 3) := by decide +kernel
theorem dX10_init_54 : decode cX10_init 54 = .ok (.putfield 39, 3) := by decide +kernel
theorem dX10_init_57 : decode cX10_init 57 = .ok (.aload_n 0, 1) := by decide +kernel
theorem dX10_init_58 : decode cX10_init 58 = .ok (.new 43, 3) := by decide +kernel
theorem dX10_init_61 : decode cX10_init 61 = .ok (.dup, 1) := by decide +kernel
theorem dX10_init_62 : decode cX10_init 62 = .ok (.invokespecial 45, 3) := by decide +kernel
theorem dX10_init_65 : decode cX10_init 65 = .ok (.putfield 46, 3) := by decide +kernel
theorem dX10_init_68 : decode cX10_init 68 = .ok (.aload_n 0, 1) := by decide +kernel
theorem dX10_init_69 : decode cX10_init 69 = .ok (.new 50, 3) := by decide +kernel
theorem dX10_init_72 : decode cX10_init 72 = .ok (.dup, 1) := by decide +kernel
theorem dX10_init_73 : decode cX10_init 73 = .ok (.invokespecial 52, 3) := by decide +kernel
theorem dX10_init_76 : decode cX10_init 76 = .ok (.putfield 53, 3) := by decide +kernel
theorem dX10_init_79 : decode cX10_init 79 = .ok (.aload_n 0, 1) := by decide +kernel
theorem dX10_init_80 : decode cX10_init 80 = .ok (.iconst 4, 1) := by decide +kernel
theorem dX10_init_81 : decode cX10_init 81 = .ok (.anewarray 57, 3) := by decide +kernel
theorem dX10_init_84 : decode cX10_init 84 = .ok (.putfield 59, 3) := by decide +kernel
theorem dX10_init_87 : decode cX10_init 87 = .ok (.aload_n 0, 1) := by decide +kernel
theorem dX10_init_88 : decode cX10_init 88 = .ok (.new 63, 3) := by decide +kernel
theorem dX10_init_91 : decode cX10_init 91 = .ok (.dup, 1) := by decide +kernel
theorem dX10_init_92 : decode cX10_init 92 = .ok (.invokespecial 65, 3) := by decide +kernel
theorem dX10_init_95 : decode cX10_init 95 = .ok (.putfield 66, 3) := by decide +kernel
theorem dX10_init_98 : decode cX10_init 98 = .ok (.aload_n 0, 1) := by decide +kernel
theorem dX10_init_99 : decode cX10_init 99 = .ok (.new 63, 3) := by decide +kernel
theorem dX10_init_102 : decode cX10_init 102 = .ok (.dup, 1) := by decide +kernel
theorem dX10_init_103 : decode cX10_init 103 = .ok (.invokespecial 65, 3) := by decide +kernel
theorem dX10_init_106 : decode cX10_init 106 = .ok (.putfield 70, 3) := by decide +kernel
theorem dX10_init_109 : decode cX10_init 109 = .ok (.iconst 0, 1) := by decide +kernel
theorem dX10_init_110 : decode cX10_init 110 = .ok (.istore_n 1, 1) := by decide +kernel
theorem dX10_init_111 : decode cX10_init 111 = .ok (.iload_n 1, 1) := by decide +kernel
theorem dX10_init_112 : decode cX10_init 112 = .ok (.bipush 8, 2) := by decide +kernel
theorem dX10_init_114 : decode cX10_init 114 = .ok (.if_icmp .ge 22, 3) := by decide +kernel
theorem dX10_init_117 : decode cX10_init 117 = .ok (.aload_n 0, 1) := by decide +kernel
theorem dX10_init_118 : decode cX10_init 118 = .ok (.getfield 18, 3) := by decide +kernel
theorem dX10_init_121 : decode cX10_init 121 = .ok (.iload_n 1, 1) := by decide +kernel
theorem dX10_init_122 : decode cX10_init 122 = .ok (.new 16, 3) := by decide +kernel
theorem dX10_init_125 : decode cX10_init 125 = .ok (.dup, 1) := by decide +kernel
theorem dX10_init_126 : decode cX10_init 126 = .ok (.invokespecial 73, 3) := by decide +kernel
theorem dX10_init_129 : decode cX10_init 129 = .ok (.aastore, 1) := by decide +kernel
theorem dX10_init_130 : decode cX10_init 130 = .ok (.iinc 1 1, 3) := by decide +kernel
theorem dX10_init_133 : decode cX10_init 133 = .ok (.goto (-22), 3) := by decide +kernel
theorem dX10_init_136 : decode cX10_init 136 = .ok (.iconst 0, 1) := by decide +kernel
theorem dX10_init_137 : decode cX10_init 137 = .ok (.istore_n 1, 1) := by decide +kernel
theorem dX10_init_138 : decode cX10_init 138 = .ok (.iload_n 1, 1) := by decide +kernel
theorem dX10_init_139 : decode cX10_init 139 = .ok (.iconst 4, 1) := by decide +kernel
theorem dX10_init_140 : decode cX10_init 140 = .ok (.if_icmp .ge 22, 3) := by decide +kernel
theorem dX10_init_143 : decode cX10_init 143 = .ok (.aload_n 0, 1) := by decide +kernel
theorem dX10_init_144 : decode cX10_init 144 = .ok (.getfield 59, 3) := by decide +kernel
theorem dX10_init_147 : decode cX10_init 147 = .ok (.iload_n 1, 1) := by decide +kernel
theorem dX10_init_148 : decode cX10_init 148 = .ok (.new 57, 3) := by decide +kernel
theorem dX10_init_151 : decode cX10_init 151 = .ok (.dup, 1) := by decide +kernel
theorem dX10_init_152 : decode cX10_init 152 = .ok (.invokespecial 74, 3) := by decide +kernel
theorem dX10_init_155 : decode cX10_init 155 = .ok (.aastore, 1) := by decide +kernel
theorem dX10_init_156 : decode cX10_init 156 = .ok (.iinc 1 1, 3) := by decide +kernel
theorem dX10_init_159 : decode cX10_init 159 = .ok (.goto (-21), 3) := by decide +kernel
theorem dX10_init_162 : decode cX10_init 162 = .ok (.return_, 1) := by decide +kernel
theorem dX10_person_0 : decode cX10_person 0 = .ok (.iload_n 1, 1) := by decide +kernel
theorem dX10_person_1 : decode cX10_person 1 = .ok (.iconst 5, 1) := by decide +kernel
theorem dX10_person_2 : decode cX10_person 2 = .ok (.invokestatic 75, 3) := by decide +kernel
theorem dX10_person_5 : decode cX10_person 5 = .ok (.ifCond .eq 37, 3) := by decide +kernel
theorem dX10_person_8 : decode cX10_person 8 = .ok (.iload_n 2, 1) := by decide +kernel
theorem dX10_person_9 : decode cX10_person 9 = .ok (.iconst 5, 1) := by decide +kernel
theorem dX10_person_10 : decode cX10_person 10 = .ok (.invokestatic 75, 3) := by decide +kernel
theorem dX10_person_13 : decode cX10_person 13 = .ok (.ifCond .eq 29, 3) := by decide +kernel
theorem dX10_person_16 : decode cX10_person 16 = .ok (.iload_n 3, 1) := by decide +kernel
theorem dX10_person_17 : decode cX10_person 17 = .ok (.iconst 5, 1) := by decide +kernel
theorem dX10_person_18 : decode cX10_person 18 = .ok (.invokestatic 75, 3) := by decide +kernel
theorem dX10_person_21 : decode cX10_person 21 = .ok (.ifCond .eq 21, 3) := by decide +kernel
theorem dX10_person_24 : decode cX10_person 24 = .ok (.iconst 3, 1) := by decide +kernel
theorem dX10_person_25 : decode cX10_person 25 = .ok (.iload 4, 2) := by decide +kernel
theorem dX10_person_27 : decode cX10_person 27 = .ok (.invokestatic 79, 3) := by decide +kernel
theorem dX10_person_30 : decode cX10_person 30 = .ok (.ifCond .eq 12, 3) := by decide +kernel
theorem dX10_person_33 : decode cX10_person 33 = .ok (.iconst 4, 1) := by decide +kernel
theorem dX10_person_34 : decode cX10_person 34 = .ok (.iload 5, 2) := by decide +kernel
theorem dX10_person_36 : decode cX10_person 36 = .ok (.invokestatic 79, 3) := by decide +kernel
theorem dX10_person_39 : decode cX10_person 39 = .ok (.ifCond .ne 5, 3) := by decide +kernel
theorem dX10_person_42 : decode cX10_person 42 = .ok (.iconst (-1), 1) := by decide +kernel
theorem dX10_person_43 : decode cX10_person 43 = .ok (.ireturn, 1) := by decide +kernel
theorem dX10_person_44 : decode cX10_person 44 = .ok (.aload_n 0, 1) := by decide +kernel
theorem dX10_person_45 : decode cX10_person 45 = .ok (.getfield 10, 3) := by decide +kernel
theorem dX10_person_48 : decode cX10_person 48 = .ok (.getfield 82, 3) := by decide +kernel
theorem dX10_person_51 : decode cX10_person 51 = .ok (.bipush 16, 2) := by decide +kernel
theorem dX10_person_53 : decode cX10_person 53 = .ok (.if_icmp .lt 6, 3) := by decide +kernel
theorem dX10_person_56 : decode cX10_person 56 = .ok (.bipush (-3), 2) := by decide +kernel
theorem dX10_person_58 : decode cX10_person 58 = .ok (.ireturn, 1) := by decide +kernel
theorem dX10_person_59 : decode cX10_person 59 = .ok (.aload_n 0, 1) := by decide +kernel
theorem dX10_person_60 : decode cX10_person 60 = .ok (.getfield 10, 3) := by decide +kernel
theorem dX10_person_63 : decode cX10_person 63 = .ok (.iload_n 1, 1) := by decide +kernel
theorem dX10_person_64 : decode cX10_person 64 = .ok (.iload_n 2, 1) := by decide +kernel
theorem dX10_person_65 : decode cX10_person 65 = .ok (.iload_n 3, 1) := by decide +kernel
theorem dX10_person_66 : decode cX10_person 66 = .ok (.iload 4, 2) := by decide +kernel
theorem dX10_person_68 : decode cX10_person 68 = .ok (.iload 5, 2) := by decide +kernel
theorem dX10_person_70 : decode cX10_person 70 = .ok (.invokevirtual 86, 3) := by decide +kernel
theorem dX10_person_73 : decode cX10_person 73 = .ok (.ireturn, 1) := by decide +kernel
theorem dX10_set_0 : decode cX10_set 0 = .ok (.aload_n 0, 1) := by decide +kernel
theorem dX10_set_1 : decode cX10_set 1 = .ok (.iload_n 1, 1) := by decide +kernel
theorem dX10_set_2 : decode cX10_set 2 = .ok (.invokevirtual 90, 3) := by decide +kernel
theorem dX10_set_5 : decode cX10_set 5 = .ok (.ifCond .eq 11, 3) := by decide +kernel
theorem dX10_set_8 : decode cX10_set 8 = .ok (.iload_n 2, 1) := by decide +kernel
theorem dX10_set_9 : decode cX10_set 9 = .ok (.iload_n 3, 1) := by decide +kernel
theorem dX10_set_10 : decode cX10_set 10 = .ok (.invokestatic 79, 3) := by decide +kernel
theorem dX10_set_13 : decode cX10_set 13 = .ok (.ifCond .ne 5, 3) := by decide +kernel
theorem dX10_set_16 : decode cX10_set 16 = .ok (.iconst (-1), 1) := by decide +kernel
theorem dX10_set_17 : decode cX10_set 17 = .ok (.ireturn, 1) := by decide +kernel
theorem dX10_set_18 : decode cX10_set 18 = .ok (.aload_n 0, 1) := by decide +kernel
theorem dX10_set_19 : decode cX10_set 19 = .ok (.getfield 10, 3) := by decide +kernel
theorem dX10_set_22 : decode cX10_set 22 = .ok (.getfield 94, 3) := by decide +kernel
theorem dX10_set_25 : decode cX10_set 25 = .ok (.iload_n 2, 1) := by decide +kernel
theorem dX10_set_26 : decode cX10_set 26 = .ok (.aaload, 1) := by decide +kernel
theorem dX10_set_27 : decode cX10_set 27 = .ok (.iload_n 1, 1) := by decide +kernel
theorem dX10_set_28 : decode cX10_set 28 = .ok (.iaload, 1) := by decide +kernel
theorem dX10_set_29 : decode cX10_set 29 = .ok (.istore 4, 2) := by decide +kernel
theorem dX10_set_31 : decode cX10_set 31 = .ok (.aload_n 0, 1) := by decide +kernel
theorem dX10_set_32 : decode cX10_set 32 = .ok (.getfield 10, 3) := by decide +kernel
theorem dX10_set_35 : decode cX10_set 35 = .ok (.getfield 94, 3) := by decide +kernel
theorem dX10_set_38 : decode cX10_set 38 = .ok (.iload_n 2, 1) := by decide +kernel
theorem dX10_set_39 : decode cX10_set 39 = .ok (.aaload, 1) := by decide +kernel
theorem dX10_set_40 : decode cX10_set 40 = .ok (.iload_n 1, 1) := by decide +kernel
theorem dX10_set_41 : decode cX10_set 41 = .ok (.iload_n 3, 1) := by decide +kernel
theorem dX10_set_42 : decode cX10_set 42 = .ok (.iastore, 1) := by decide +kernel
theorem dX10_set_43 : decode cX10_set 43 = .ok (.iload 4, 2) := by decide +kernel
theorem dX10_set_45 : decode cX10_set 45 = .ok (.ireturn, 1) := by decide +kernel
theorem dX10_where_0 : decode cX10_where 0 = .ok (.aload_n 0, 1) := by decide +kernel
theorem dX10_where_1 : decode cX10_where 1 = .ok (.iload_n 1, 1) := by decide +kernel
theorem dX10_where_2 : decode cX10_where 2 = .ok (.invokevirtual 90, 3) := by decide +kernel
theorem dX10_where_5 : decode cX10_where 5 = .ok (.ifCond .eq 13, 3) := by decide +kernel
theorem dX10_where_8 : decode cX10_where 8 = .ok (.iload_n 2, 1) := by decide +kernel
theorem dX10_where_9 : decode cX10_where 9 = .ok (.sipush 9999, 3) := by decide +kernel
theorem dX10_where_12 : decode cX10_where 12 = .ok (.invokestatic 75, 3) := by decide +kernel
theorem dX10_where_15 : decode cX10_where 15 = .ok (.ifCond .ne 5, 3) := by decide +kernel
theorem dX10_where_18 : decode cX10_where 18 = .ok (.iconst (-1), 1) := by decide +kernel
theorem dX10_where_19 : decode cX10_where 19 = .ok (.ireturn, 1) := by decide +kernel
theorem dX10_where_20 : decode cX10_where 20 = .ok (.aload_n 0, 1) := by decide +kernel
theorem dX10_where_21 : decode cX10_where 21 = .ok (.getfield 10, 3) := by decide +kernel
theorem dX10_where_24 : decode cX10_where 24 = .ok (.iload_n 2, 1) := by decide +kernel
theorem dX10_where_25 : decode cX10_where 25 = .ok (.invokevirtual 98, 3) := by decide +kernel
theorem dX10_where_28 : decode cX10_where 28 = .ok (.iload_n 1, 1) := by decide +kernel
theorem dX10_where_29 : decode cX10_where 29 = .ok (.iaload, 1) := by decide +kernel
theorem dX10_where_30 : decode cX10_where 30 = .ok (.ireturn, 1) := by decide +kernel
theorem dX10_plain_0 : decode cX10_plain 0 = .ok (.iload_n 1, 1) := by decide +kernel
theorem dX10_plain_1 : decode cX10_plain 1 = .ok (.iload_n 2, 1) := by decide +kernel
theorem dX10_plain_2 : decode cX10_plain 2 = .ok (.iload_n 3, 1) := by decide +kernel
theorem dX10_plain_3 : decode cX10_plain 3 = .ok (.iload 4, 2) := by decide +kernel
theorem dX10_plain_5 : decode cX10_plain 5 = .ok (.invokestatic 102, 3) := by decide +kernel
theorem dX10_plain_8 : decode cX10_plain 8 = .ok (.ifCond .ne 5, 3) := by decide +kernel
theorem dX10_plain_11 : decode cX10_plain 11 = .ok (.iconst (-1), 1) := by decide +kernel
theorem dX10_plain_12 : decode cX10_plain 12 = .ok (.ireturn, 1) := by decide +kernel
theorem dX10_plain_13 : decode cX10_plain 13 = .ok (.aload_n 0, 1) := by decide +kernel
theorem dX10_plain_14 : decode cX10_plain 14 = .ok (.iconst 0, 1) := by decide +kernel
theorem dX10_plain_15 : decode cX10_plain 15 = .ok (.iload_n 1, 1) := by decide +kernel
theorem dX10_plain_16 : decode cX10_plain 16 = .ok (.iload_n 2, 1) := by decide +kernel
theorem dX10_plain_17 : decode cX10_plain 17 = .ok (.iload_n 3, 1) := by decide +kernel
theorem dX10_plain_18 : decode cX10_plain 18 = .ok (.iload 4, 2) := by decide +kernel
theorem dX10_plain_20 : decode cX10_plain 20 = .ok (.invokestatic 106, 3) := by decide +kernel
theorem dX10_plain_23 : decode cX10_plain 23 = .ok (.invokevirtual 112, 3) := by decide +kernel
theorem dX10_plain_26 : decode cX10_plain 26 = .ok (.ireturn, 1) := by decide +kernel
theorem dX10_changed_0 : decode cX10_changed 0 = .ok (.aload_n 0, 1) := by decide +kernel
theorem dX10_changed_1 : decode cX10_changed 1 = .ok (.iload_n 1, 1) := by decide +kernel
theorem dX10_changed_2 : decode cX10_changed 2 = .ok (.invokevirtual 116, 3) := by decide +kernel
theorem dX10_changed_5 : decode cX10_changed 5 = .ok (.ifCond .eq 22, 3) := by decide +kernel
theorem dX10_changed_8 : decode cX10_changed 8 = .ok (.iload_n 2, 1) := by decide +kernel
theorem dX10_changed_9 : decode cX10_changed 9 = .ok (.iconst 1, 1) := by decide +kernel
theorem dX10_changed_10 : decode cX10_changed 10 = .ok (.if_icmp .lt 17, 3) := by decide +kernel
theorem dX10_changed_13 : decode cX10_changed 13 = .ok (.iload_n 2, 1) := by decide +kernel
theorem dX10_changed_14 : decode cX10_changed 14 = .ok (.iconst 4, 1) := by decide +kernel
theorem dX10_changed_15 : decode cX10_changed 15 = .ok (.if_icmp .gt 12, 3) := by decide +kernel
theorem dX10_changed_18 : decode cX10_changed 18 = .ok (.iload_n 3, 1) := by decide +kernel
theorem dX10_changed_19 : decode cX10_changed 19 = .ok (.bipush 9, 2) := by decide +kernel
theorem dX10_changed_21 : decode cX10_changed 21 = .ok (.invokestatic 75, 3) := by decide +kernel
theorem dX10_changed_24 : decode cX10_changed 24 = .ok (.ifCond .ne 5, 3) := by decide +kernel
theorem dX10_changed_27 : decode cX10_changed 27 = .ok (.iconst (-1), 1) := by decide +kernel
theorem dX10_changed_28 : decode cX10_changed 28 = .ok (.ireturn, 1) := by decide +kernel
theorem dX10_changed_29 : decode cX10_changed 29 = .ok (.aload_n 0, 1) := by decide +kernel
theorem dX10_changed_30 : decode cX10_changed 30 = .ok (.getfield 18, 3) := by decide +kernel
theorem dX10_changed_33 : decode cX10_changed 33 = .ok (.iload_n 1, 1) := by decide +kernel
theorem dX10_changed_34 : decode cX10_changed 34 = .ok (.aaload, 1) := by decide +kernel
theorem dX10_changed_35 : decode cX10_changed 35 = .ok (.getfield 119, 3) := by decide +kernel
theorem dX10_changed_38 : decode cX10_changed 38 = .ok (.istore 4, 2) := by decide +kernel
theorem dX10_changed_40 : decode cX10_changed 40 = .ok (.iload 4, 2) := by decide +kernel
theorem dX10_changed_42 : decode cX10_changed 42 = .ok (.iload_n 2, 1) := by decide +kernel
theorem dX10_changed_43 : decode cX10_changed 43 = .ok (.iconst 1, 1) := by decide +kernel
theorem dX10_changed_44 : decode cX10_changed 44 = .ok (.isub, 1) := by decide +kernel
theorem dX10_changed_45 : decode cX10_changed 45 = .ok (.invokestatic 122, 3) := by decide +kernel
theorem dX10_changed_48 : decode cX10_changed 48 = .ok (.iload_n 3, 1) := by decide +kernel
theorem dX10_changed_49 : decode cX10_changed 49 = .ok (.if_icmp .ne 6, 3) := by decide +kernel
theorem dX10_changed_52 : decode cX10_changed 52 = .ok (.bipush (-2), 2) := by decide +kernel
theorem dX10_changed_54 : decode cX10_changed 54 = .ok (.ireturn, 1) := by decide +kernel
theorem dX10_changed_55 : decode cX10_changed 55 = .ok (.aload_n 0, 1) := by decide +kernel
theorem dX10_changed_56 : decode cX10_changed 56 = .ok (.iconst 1, 1) := by decide +kernel
theorem dX10_changed_57 : decode cX10_changed 57 = .ok (.iload 4, 2) := by decide +kernel
theorem dX10_changed_59 : decode cX10_changed 59 = .ok (.iload_n 2, 1) := by decide +kernel
theorem dX10_changed_60 : decode cX10_changed 60 = .ok (.iconst 1, 1) := by decide +kernel
theorem dX10_changed_61 : decode cX10_changed 61 = .ok (.isub, 1) := by decide +kernel
theorem dX10_changed_62 : decode cX10_changed 62 = .ok (.iload_n 3, 1) := by decide +kernel
theorem dX10_changed_63 : decode cX10_changed 63 = .ok (.invokestatic 125, 3) := by decide +kernel
theorem dX10_changed_66 : decode cX10_changed 66 = .ok (.invokevirtual 112, 3) := by decide +kernel
theorem dX10_changed_69 : decode cX10_changed 69 = .ok (.istore 5, 2) := by decide +kernel
theorem dX10_changed_71 : decode cX10_changed 71 = .ok (.iload 5, 2) := by decide +kernel
theorem dX10_changed_73 : decode cX10_changed 73 = .ok (.ifCond .lt 14, 3) := by decide +kernel
theorem dX10_changed_76 : decode cX10_changed 76 = .ok (.aload_n 0, 1) := by decide +kernel
theorem dX10_changed_77 : decode cX10_changed 77 = .ok (.getfield 18, 3) := by decide +kernel
theorem dX10_changed_80 : decode cX10_changed 80 = .ok (.iload 5, 2) := by decide +kernel
theorem dX10_changed_82 : decode cX10_changed 82 = .ok (.aaload, 1) := by decide +kernel
theorem dX10_changed_83 : decode cX10_changed 83 = .ok (.iload_n 1, 1) := by decide +kernel
theorem dX10_changed_84 : decode cX10_changed 84 = .ok (.putfield 129, 3) := by decide +kernel
theorem dX10_changed_87 : decode cX10_changed 87 = .ok (.iload 5, 2) := by decide +kernel
theorem dX10_changed_89 : decode cX10_changed 89 = .ok (.ireturn, 1) := by decide +kernel
theorem dX10_planted_0 : decode cX10_planted 0 = .ok (.aload_n 0, 1) := by decide +kernel
theorem dX10_planted_1 : decode cX10_planted 1 = .ok (.iload_n 1, 1) := by decide +kernel
theorem dX10_planted_2 : decode cX10_planted 2 = .ok (.invokevirtual 116, 3) := by decide +kernel
theorem dX10_planted_5 : decode cX10_planted 5 = .ok (.ifCond .eq 13, 3) := by decide +kernel
theorem dX10_planted_8 : decode cX10_planted 8 = .ok (.iload_n 2, 1) := by decide +kernel
theorem dX10_planted_9 : decode cX10_planted 9 = .ok (.sipush 9999, 3) := by decide +kernel
theorem dX10_planted_12 : decode cX10_planted 12 = .ok (.invokestatic 75, 3) := by decide +kernel
theorem dX10_planted_15 : decode cX10_planted 15 = .ok (.ifCond .ne 5, 3) := by decide +kernel
theorem dX10_planted_18 : decode cX10_planted 18 = .ok (.iconst (-1), 1) := by decide +kernel
theorem dX10_planted_19 : decode cX10_planted 19 = .ok (.ireturn, 1) := by decide +kernel
theorem dX10_planted_20 : decode cX10_planted 20 = .ok (.aload_n 0, 1) := by decide +kernel
theorem dX10_planted_21 : decode cX10_planted 21 = .ok (.iconst 2, 1) := by decide +kernel
theorem dX10_planted_22 : decode cX10_planted 22 = .ok (.aload_n 0, 1) := by decide +kernel
theorem dX10_planted_23 : decode cX10_planted 23 = .ok (.getfield 18, 3) := by decide +kernel
theorem dX10_planted_26 : decode cX10_planted 26 = .ok (.iload_n 1, 1) := by decide +kernel
theorem dX10_planted_27 : decode cX10_planted 27 = .ok (.aaload, 1) := by decide +kernel
theorem dX10_planted_28 : decode cX10_planted 28 = .ok (.getfield 119, 3) := by decide +kernel
theorem dX10_planted_31 : decode cX10_planted 31 = .ok (.invokevirtual 112, 3) := by decide +kernel
theorem dX10_planted_34 : decode cX10_planted 34 = .ok (.istore_n 3, 1) := by decide +kernel
theorem dX10_planted_35 : decode cX10_planted 35 = .ok (.iload_n 3, 1) := by decide +kernel
theorem dX10_planted_36 : decode cX10_planted 36 = .ok (.ifCond .lt 23, 3) := by decide +kernel
theorem dX10_planted_39 : decode cX10_planted 39 = .ok (.aload_n 0, 1) := by decide +kernel
theorem dX10_planted_40 : decode cX10_planted 40 = .ok (.getfield 18, 3) := by decide +kernel
theorem dX10_planted_43 : decode cX10_planted 43 = .ok (.iload_n 3, 1) := by decide +kernel
theorem dX10_planted_44 : decode cX10_planted 44 = .ok (.aaload, 1) := by decide +kernel
theorem dX10_planted_45 : decode cX10_planted 45 = .ok (.iload_n 1, 1) := by decide +kernel
theorem dX10_planted_46 : decode cX10_planted 46 = .ok (.putfield 129, 3) := by decide +kernel
theorem dX10_planted_49 : decode cX10_planted 49 = .ok (.aload_n 0, 1) := by decide +kernel
theorem dX10_planted_50 : decode cX10_planted 50 = .ok (.getfield 18, 3) := by decide +kernel
theorem dX10_planted_53 : decode cX10_planted 53 = .ok (.iload_n 3, 1) := by decide +kernel
theorem dX10_planted_54 : decode cX10_planted 54 = .ok (.aaload, 1) := by decide +kernel
theorem dX10_planted_55 : decode cX10_planted 55 = .ok (.iload_n 2, 1) := by decide +kernel
theorem dX10_planted_56 : decode cX10_planted 56 = .ok (.putfield 132, 3) := by decide +kernel
theorem dX10_planted_59 : decode cX10_planted 59 = .ok (.iload_n 3, 1) := by decide +kernel
theorem dX10_planted_60 : decode cX10_planted 60 = .ok (.ireturn, 1) := by decide +kernel
theorem dX10_real_0 : decode cX10_real 0 = .ok (.iload_n 1, 1) := by decide +kernel
theorem dX10_real_1 : decode cX10_real 1 = .ok (.iload_n 2, 1) := by decide +kernel
theorem dX10_real_2 : decode cX10_real 2 = .ok (.iload_n 3, 1) := by decide +kernel
theorem dX10_real_3 : decode cX10_real 3 = .ok (.iload 4, 2) := by decide +kernel
theorem dX10_real_5 : decode cX10_real 5 = .ok (.invokestatic 102, 3) := by decide +kernel
theorem dX10_real_8 : decode cX10_real 8 = .ok (.ifCond .ne 5, 3) := by decide +kernel
theorem dX10_real_11 : decode cX10_real 11 = .ok (.iconst (-1), 1) := by decide +kernel
theorem dX10_real_12 : decode cX10_real 12 = .ok (.ireturn, 1) := by decide +kernel
theorem dX10_real_13 : decode cX10_real 13 = .ok (.aload_n 0, 1) := by decide +kernel
theorem dX10_real_14 : decode cX10_real 14 = .ok (.iconst 3, 1) := by decide +kernel
theorem dX10_real_15 : decode cX10_real 15 = .ok (.iload_n 1, 1) := by decide +kernel
theorem dX10_real_16 : decode cX10_real 16 = .ok (.iload_n 2, 1) := by decide +kernel
theorem dX10_real_17 : decode cX10_real 17 = .ok (.iload_n 3, 1) := by decide +kernel
theorem dX10_real_18 : decode cX10_real 18 = .ok (.iload 4, 2) := by decide +kernel
theorem dX10_real_20 : decode cX10_real 20 = .ok (.invokestatic 106, 3) := by decide +kernel
theorem dX10_real_23 : decode cX10_real 23 = .ok (.invokevirtual 112, 3) := by decide +kernel
theorem dX10_real_26 : decode cX10_real 26 = .ok (.istore 6, 2) := by decide +kernel
theorem dX10_real_28 : decode cX10_real 28 = .ok (.iload 6, 2) := by decide +kernel
theorem dX10_real_30 : decode cX10_real 30 = .ok (.ifCond .lt 15, 3) := by decide +kernel
theorem dX10_real_33 : decode cX10_real 33 = .ok (.aload_n 0, 1) := by decide +kernel
theorem dX10_real_34 : decode cX10_real 34 = .ok (.getfield 18, 3) := by decide +kernel
theorem dX10_real_37 : decode cX10_real 37 = .ok (.iload 6, 2) := by decide +kernel
theorem dX10_real_39 : decode cX10_real 39 = .ok (.aaload, 1) := by decide +kernel
theorem dX10_real_40 : decode cX10_real 40 = .ok (.iload 5, 2) := by decide +kernel
theorem dX10_real_42 : decode cX10_real 42 = .ok (.putfield 135, 3) := by decide +kernel
theorem dX10_real_45 : decode cX10_real 45 = .ok (.iload 6, 2) := by decide +kernel
theorem dX10_real_47 : decode cX10_real 47 = .ok (.ireturn, 1) := by decide +kernel
theorem dX10_told_0 : decode cX10_told 0 = .ok (.aload_n 0, 1) := by decide +kernel
theorem dX10_told_1 : decode cX10_told 1 = .ok (.iload_n 1, 1) := by decide +kernel
theorem dX10_told_2 : decode cX10_told 2 = .ok (.invokevirtual 116, 3) := by decide +kernel
theorem dX10_told_5 : decode cX10_told 5 = .ok (.ifCond .eq 12, 3) := by decide +kernel
theorem dX10_told_8 : decode cX10_told 8 = .ok (.iload_n 2, 1) := by decide +kernel
theorem dX10_told_9 : decode cX10_told 9 = .ok (.bipush 8, 2) := by decide +kernel
theorem dX10_told_11 : decode cX10_told 11 = .ok (.invokestatic 75, 3) := by decide +kernel
theorem dX10_told_14 : decode cX10_told 14 = .ok (.ifCond .ne 5, 3) := by decide +kernel
theorem dX10_told_17 : decode cX10_told 17 = .ok (.iconst (-1), 1) := by decide +kernel
theorem dX10_told_18 : decode cX10_told 18 = .ok (.ireturn, 1) := by decide +kernel
theorem dX10_told_19 : decode cX10_told 19 = .ok (.aload_n 0, 1) := by decide +kernel
theorem dX10_told_20 : decode cX10_told 20 = .ok (.getfield 18, 3) := by decide +kernel
theorem dX10_told_23 : decode cX10_told 23 = .ok (.iload_n 1, 1) := by decide +kernel
theorem dX10_told_24 : decode cX10_told 24 = .ok (.aaload, 1) := by decide +kernel
theorem dX10_told_25 : decode cX10_told 25 = .ok (.astore_n 3, 1) := by decide +kernel
theorem dX10_told_26 : decode cX10_told 26 = .ok (.iload_n 2, 1) := by decide +kernel
theorem dX10_told_27 : decode cX10_told 27 = .ok (.tableswitch 129 0 8 #[49, 129, 129, 129, 129, 54, 80, 98, 124], 49) := by decide +kernel
theorem dX10_told_76 : decode cX10_told 76 = .ok (.aload_n 3, 1) := by decide +kernel
theorem dX10_told_77 : decode cX10_told 77 = .ok (.getfield 139, 3) := by decide +kernel
theorem dX10_told_80 : decode cX10_told 80 = .ok (.ireturn, 1) := by decide +kernel
theorem dX10_told_81 : decode cX10_told 81 = .ok (.aload_n 3, 1) := by decide +kernel
theorem dX10_told_82 : decode cX10_told 82 = .ok (.getfield 139, 3) := by decide +kernel
theorem dX10_told_85 : decode cX10_told 85 = .ok (.iconst 1, 1) := by decide +kernel
theorem dX10_told_86 : decode cX10_told 86 = .ok (.if_icmp .eq 11, 3) := by decide +kernel
theorem dX10_told_89 : decode cX10_told 89 = .ok (.aload_n 3, 1) := by decide +kernel
theorem dX10_told_90 : decode cX10_told 90 = .ok (.getfield 139, 3) := by decide +kernel
theorem dX10_told_93 : decode cX10_told 93 = .ok (.iconst 2, 1) := by decide +kernel
theorem dX10_told_94 : decode cX10_told 94 = .ok (.if_icmp .ne 10, 3) := by decide +kernel
theorem dX10_told_97 : decode cX10_told 97 = .ok (.aload_n 3, 1) := by decide +kernel
theorem dX10_told_98 : decode cX10_told 98 = .ok (.getfield 129, 3) := by decide +kernel
theorem dX10_told_101 : decode cX10_told 101 = .ok (.goto 5, 3) := by decide +kernel
theorem dX10_told_104 : decode cX10_told 104 = .ok (.bipush (-12), 2) := by decide +kernel
theorem dX10_told_106 : decode cX10_told 106 = .ok (.ireturn, 1) := by decide +kernel
theorem dX10_told_107 : decode cX10_told 107 = .ok (.aload_n 3, 1) := by decide +kernel
theorem dX10_told_108 : decode cX10_told 108 = .ok (.getfield 139, 3) := by decide +kernel
theorem dX10_told_111 : decode cX10_told 111 = .ok (.iconst 2, 1) := by decide +kernel
theorem dX10_told_112 : decode cX10_told 112 = .ok (.if_icmp .ne 10, 3) := by decide +kernel
theorem dX10_told_115 : decode cX10_told 115 = .ok (.aload_n 3, 1) := by decide +kernel
theorem dX10_told_116 : decode cX10_told 116 = .ok (.getfield 132, 3) := by decide +kernel
theorem dX10_told_119 : decode cX10_told 119 = .ok (.goto 5, 3) := by decide +kernel
theorem dX10_told_122 : decode cX10_told 122 = .ok (.bipush (-12), 2) := by decide +kernel
theorem dX10_told_124 : decode cX10_told 124 = .ok (.ireturn, 1) := by decide +kernel
theorem dX10_told_125 : decode cX10_told 125 = .ok (.aload_n 3, 1) := by decide +kernel
theorem dX10_told_126 : decode cX10_told 126 = .ok (.getfield 139, 3) := by decide +kernel
theorem dX10_told_129 : decode cX10_told 129 = .ok (.iconst 3, 1) := by decide +kernel
theorem dX10_told_130 : decode cX10_told 130 = .ok (.if_icmp .eq 8, 3) := by decide +kernel
theorem dX10_told_133 : decode cX10_told 133 = .ok (.bipush (-12), 2) := by decide +kernel
theorem dX10_told_135 : decode cX10_told 135 = .ok (.goto 15, 3) := by decide +kernel
theorem dX10_told_138 : decode cX10_told 138 = .ok (.aload_n 3, 1) := by decide +kernel
theorem dX10_told_139 : decode cX10_told 139 = .ok (.getfield 135, 3) := by decide +kernel
theorem dX10_told_142 : decode cX10_told 142 = .ok (.ifCond .eq 7, 3) := by decide +kernel
theorem dX10_told_145 : decode cX10_told 145 = .ok (.iconst 1, 1) := by decide +kernel
theorem dX10_told_146 : decode cX10_told 146 = .ok (.goto 4, 3) := by decide +kernel
theorem dX10_told_149 : decode cX10_told 149 = .ok (.iconst 0, 1) := by decide +kernel
theorem dX10_told_150 : decode cX10_told 150 = .ok (.ireturn, 1) := by decide +kernel
theorem dX10_told_151 : decode cX10_told 151 = .ok (.aload_n 3, 1) := by decide +kernel
theorem dX10_told_152 : decode cX10_told 152 = .ok (.getfield 142, 3) := by decide +kernel
theorem dX10_told_155 : decode cX10_told 155 = .ok (.ireturn, 1) := by decide +kernel
theorem dX10_told_156 : decode cX10_told 156 = .ok (.aload_n 3, 1) := by decide +kernel
theorem dX10_told_157 : decode cX10_told 157 = .ok (.getfield 119, 3) := by decide +kernel
theorem dX10_told_160 : decode cX10_told 160 = .ok (.iload_n 2, 1) := by decide +kernel
theorem dX10_told_161 : decode cX10_told 161 = .ok (.iconst 1, 1) := by decide +kernel
theorem dX10_told_162 : decode cX10_told 162 = .ok (.isub, 1) := by decide +kernel
theorem dX10_told_163 : decode cX10_told 163 = .ok (.invokestatic 122, 3) := by decide +kernel
theorem dX10_told_166 : decode cX10_told 166 = .ok (.ireturn, 1) := by decide +kernel
theorem dX10_weight_0 : decode cX10_weight 0 = .ok (.iload_n 1, 1) := by decide +kernel
theorem dX10_weight_1 : decode cX10_weight 1 = .ok (.bipush 9, 2) := by decide +kernel
theorem dX10_weight_3 : decode cX10_weight 3 = .ok (.invokestatic 75, 3) := by decide +kernel
theorem dX10_weight_6 : decode cX10_weight 6 = .ok (.ifCond .eq 12, 3) := by decide +kernel
theorem dX10_weight_9 : decode cX10_weight 9 = .ok (.iload_n 2, 1) := by decide +kernel
theorem dX10_weight_10 : decode cX10_weight 10 = .ok (.bipush 9, 2) := by decide +kernel
theorem dX10_weight_12 : decode cX10_weight 12 = .ok (.invokestatic 75, 3) := by decide +kernel
theorem dX10_weight_15 : decode cX10_weight 15 = .ok (.ifCond .ne 5, 3) := by decide +kernel
theorem dX10_weight_18 : decode cX10_weight 18 = .ok (.iconst (-1), 1) := by decide +kernel
theorem dX10_weight_19 : decode cX10_weight 19 = .ok (.ireturn, 1) := by decide +kernel
theorem dX10_weight_20 : decode cX10_weight 20 = .ok (.aload_n 0, 1) := by decide +kernel
theorem dX10_weight_21 : decode cX10_weight 21 = .ok (.getfield 10, 3) := by decide +kernel
theorem dX10_weight_24 : decode cX10_weight 24 = .ok (.getfield 145, 3) := by decide +kernel
theorem dX10_weight_27 : decode cX10_weight 27 = .ok (.iload_n 1, 1) := by decide +kernel
theorem dX10_weight_28 : decode cX10_weight 28 = .ok (.iaload, 1) := by decide +kernel
theorem dX10_weight_29 : decode cX10_weight 29 = .ok (.istore_n 3, 1) := by decide +kernel
theorem dX10_weight_30 : decode cX10_weight 30 = .ok (.aload_n 0, 1) := by decide +kernel
theorem dX10_weight_31 : decode cX10_weight 31 = .ok (.getfield 10, 3) := by decide +kernel
theorem dX10_weight_34 : decode cX10_weight 34 = .ok (.getfield 145, 3) := by decide +kernel
theorem dX10_weight_37 : decode cX10_weight 37 = .ok (.iload_n 1, 1) := by decide +kernel
theorem dX10_weight_38 : decode cX10_weight 38 = .ok (.iload_n 2, 1) := by decide +kernel
theorem dX10_weight_39 : decode cX10_weight 39 = .ok (.iastore, 1) := by decide +kernel
theorem dX10_weight_40 : decode cX10_weight 40 = .ok (.iload_n 3, 1) := by decide +kernel
theorem dX10_weight_41 : decode cX10_weight 41 = .ok (.ireturn, 1) := by decide +kernel
theorem dX10_begin_0 : decode cX10_begin 0 = .ok (.aload_n 0, 1) := by decide +kernel
theorem dX10_begin_1 : decode cX10_begin 1 = .ok (.iload_n 1, 1) := by decide +kernel
theorem dX10_begin_2 : decode cX10_begin 2 = .ok (.invokevirtual 90, 3) := by decide +kernel
theorem dX10_begin_5 : decode cX10_begin 5 = .ok (.ifCond .eq 11, 3) := by decide +kernel
theorem dX10_begin_8 : decode cX10_begin 8 = .ok (.aload_n 0, 1) := by decide +kernel
theorem dX10_begin_9 : decode cX10_begin 9 = .ok (.iload_n 2, 1) := by decide +kernel
theorem dX10_begin_10 : decode cX10_begin 10 = .ok (.invokevirtual 116, 3) := by decide +kernel
theorem dX10_begin_13 : decode cX10_begin 13 = .ok (.ifCond .ne 5, 3) := by decide +kernel
theorem dX10_begin_16 : decode cX10_begin 16 = .ok (.iconst (-1), 1) := by decide +kernel
theorem dX10_begin_17 : decode cX10_begin 17 = .ok (.ireturn, 1) := by decide +kernel
theorem dX10_begin_18 : decode cX10_begin 18 = .ok (.aload_n 0, 1) := by decide +kernel
theorem dX10_begin_19 : decode cX10_begin 19 = .ok (.getfield 18, 3) := by decide +kernel
theorem dX10_begin_22 : decode cX10_begin 22 = .ok (.iload_n 2, 1) := by decide +kernel
theorem dX10_begin_23 : decode cX10_begin 23 = .ok (.aaload, 1) := by decide +kernel
theorem dX10_begin_24 : decode cX10_begin 24 = .ok (.astore_n 3, 1) := by decide +kernel
theorem dX10_begin_25 : decode cX10_begin 25 = .ok (.aload_n 3, 1) := by decide +kernel
theorem dX10_begin_26 : decode cX10_begin 26 = .ok (.getfield 139, 3) := by decide +kernel
theorem dX10_begin_29 : decode cX10_begin 29 = .ok (.iconst 2, 1) := by decide +kernel
theorem dX10_begin_30 : decode cX10_begin 30 = .ok (.if_icmp .ne 17, 3) := by decide +kernel
theorem dX10_begin_33 : decode cX10_begin 33 = .ok (.aload_n 0, 1) := by decide +kernel
theorem dX10_begin_34 : decode cX10_begin 34 = .ok (.getfield 149, 3) := by decide +kernel
theorem dX10_begin_37 : decode cX10_begin 37 = .ok (.aload_n 3, 1) := by decide +kernel
theorem dX10_begin_38 : decode cX10_begin 38 = .ok (.getfield 132, 3) := by decide +kernel
theorem dX10_begin_41 : decode cX10_begin 41 = .ok (.if_icmp .ge 6, 3) := by decide +kernel
theorem dX10_begin_44 : decode cX10_begin 44 = .ok (.bipush (-2), 2) := by decide +kernel
theorem dX10_begin_46 : decode cX10_begin 46 = .ok (.ireturn, 1) := by decide +kernel
theorem dX10_begin_47 : decode cX10_begin 47 = .ok (.aload_n 3, 1) := by decide +kernel
theorem dX10_begin_48 : decode cX10_begin 48 = .ok (.getfield 152, 3) := by decide +kernel
theorem dX10_begin_51 : decode cX10_begin 51 = .ok (.getfield 155, 3) := by decide +kernel
theorem dX10_begin_54 : decode cX10_begin 54 = .ok (.iload_n 1, 1) := by decide +kernel
theorem dX10_begin_55 : decode cX10_begin 55 = .ok (.iaload, 1) := by decide +kernel
theorem dX10_begin_56 : decode cX10_begin 56 = .ok (.istore 4, 2) := by decide +kernel
theorem dX10_begin_58 : decode cX10_begin 58 = .ok (.aload_n 3, 1) := by decide +kernel
theorem dX10_begin_59 : decode cX10_begin 59 = .ok (.getfield 152, 3) := by decide +kernel
theorem dX10_begin_62 : decode cX10_begin 62 = .ok (.iload_n 1, 1) := by decide +kernel
theorem dX10_begin_63 : decode cX10_begin 63 = .ok (.aload_n 3, 1) := by decide +kernel
theorem dX10_begin_64 : decode cX10_begin 64 = .ok (.getfield 119, 3) := by decide +kernel
theorem dX10_begin_67 : decode cX10_begin 67 = .ok (.aload_n 0, 1) := by decide +kernel
theorem dX10_begin_68 : decode cX10_begin 68 = .ok (.getfield 149, 3) := by decide +kernel
theorem dX10_begin_71 : decode cX10_begin 71 = .ok (.invokevirtual 158, 3) := by decide +kernel
theorem dX10_begin_74 : decode cX10_begin 74 = .ok (.iload 4, 2) := by decide +kernel
theorem dX10_begin_76 : decode cX10_begin 76 = .ok (.ireturn, 1) := by decide +kernel
theorem dX10_knows_0 : decode cX10_knows 0 = .ok (.aload_n 0, 1) := by decide +kernel
theorem dX10_knows_1 : decode cX10_knows 1 = .ok (.iload_n 1, 1) := by decide +kernel
theorem dX10_knows_2 : decode cX10_knows 2 = .ok (.invokevirtual 90, 3) := by decide +kernel
theorem dX10_knows_5 : decode cX10_knows 5 = .ok (.ifCond .eq 19, 3) := by decide +kernel
theorem dX10_knows_8 : decode cX10_knows 8 = .ok (.aload_n 0, 1) := by decide +kernel
theorem dX10_knows_9 : decode cX10_knows 9 = .ok (.iload_n 2, 1) := by decide +kernel
theorem dX10_knows_10 : decode cX10_knows 10 = .ok (.invokevirtual 116, 3) := by decide +kernel
theorem dX10_knows_13 : decode cX10_knows 13 = .ok (.ifCond .eq 11, 3) := by decide +kernel
theorem dX10_knows_16 : decode cX10_knows 16 = .ok (.iload_n 3, 1) := by decide +kernel
theorem dX10_knows_17 : decode cX10_knows 17 = .ok (.iconst 4, 1) := by decide +kernel
theorem dX10_knows_18 : decode cX10_knows 18 = .ok (.invokestatic 75, 3) := by decide +kernel
theorem dX10_knows_21 : decode cX10_knows 21 = .ok (.ifCond .ne 5, 3) := by decide +kernel
theorem dX10_knows_24 : decode cX10_knows 24 = .ok (.iconst (-1), 1) := by decide +kernel
theorem dX10_knows_25 : decode cX10_knows 25 = .ok (.ireturn, 1) := by decide +kernel
theorem dX10_knows_26 : decode cX10_knows 26 = .ok (.aload_n 0, 1) := by decide +kernel
theorem dX10_knows_27 : decode cX10_knows 27 = .ok (.getfield 18, 3) := by decide +kernel
theorem dX10_knows_30 : decode cX10_knows 30 = .ok (.iload_n 2, 1) := by decide +kernel
theorem dX10_knows_31 : decode cX10_knows 31 = .ok (.aaload, 1) := by decide +kernel
theorem dX10_knows_32 : decode cX10_knows 32 = .ok (.getfield 152, 3) := by decide +kernel
theorem dX10_knows_35 : decode cX10_knows 35 = .ok (.astore 4, 2) := by decide +kernel
theorem dX10_knows_37 : decode cX10_knows 37 = .ok (.aload 4, 2) := by decide +kernel
theorem dX10_knows_39 : decode cX10_knows 39 = .ok (.getfield 155, 3) := by decide +kernel
theorem dX10_knows_42 : decode cX10_knows 42 = .ok (.iload_n 1, 1) := by decide +kernel
theorem dX10_knows_43 : decode cX10_knows 43 = .ok (.iaload, 1) := by decide +kernel
theorem dX10_knows_44 : decode cX10_knows 44 = .ok (.istore 5, 2) := by decide +kernel
theorem dX10_knows_46 : decode cX10_knows 46 = .ok (.iload 5, 2) := by decide +kernel
theorem dX10_knows_48 : decode cX10_knows 48 = .ok (.ifCond .ne 10, 3) := by decide +kernel
theorem dX10_knows_51 : decode cX10_knows 51 = .ok (.iload_n 3, 1) := by decide +kernel
theorem dX10_knows_52 : decode cX10_knows 52 = .ok (.ifCond .eq 6, 3) := by decide +kernel
theorem dX10_knows_55 : decode cX10_knows 55 = .ok (.bipush (-4), 2) := by decide +kernel
theorem dX10_knows_57 : decode cX10_knows 57 = .ok (.ireturn, 1) := by decide +kernel
theorem dX10_knows_58 : decode cX10_knows 58 = .ok (.iload_n 3, 1) := by decide +kernel
theorem dX10_knows_59 : decode cX10_knows 59 = .ok (.tableswitch 56 0 3 #[29, 32, 40, 48], 29) := by decide +kernel
theorem dX10_knows_88 : decode cX10_knows 88 = .ok (.iload 5, 2) := by decide +kernel
theorem dX10_knows_90 : decode cX10_knows 90 = .ok (.ireturn, 1) := by decide +kernel
theorem dX10_knows_91 : decode cX10_knows 91 = .ok (.aload 4, 2) := by decide +kernel
theorem dX10_knows_93 : decode cX10_knows 93 = .ok (.getfield 162, 3) := by decide +kernel
theorem dX10_knows_96 : decode cX10_knows 96 = .ok (.iload_n 1, 1) := by decide +kernel
theorem dX10_knows_97 : decode cX10_knows 97 = .ok (.iaload, 1) := by decide +kernel
theorem dX10_knows_98 : decode cX10_knows 98 = .ok (.ireturn, 1) := by decide +kernel
theorem dX10_knows_99 : decode cX10_knows 99 = .ok (.aload 4, 2) := by decide +kernel
theorem dX10_knows_101 : decode cX10_knows 101 = .ok (.getfield 165, 3) := by decide +kernel
theorem dX10_knows_104 : decode cX10_knows 104 = .ok (.iload_n 1, 1) := by decide +kernel
theorem dX10_knows_105 : decode cX10_knows 105 = .ok (.iaload, 1) := by decide +kernel
theorem dX10_knows_106 : decode cX10_knows 106 = .ok (.ireturn, 1) := by decide +kernel
theorem dX10_knows_107 : decode cX10_knows 107 = .ok (.aload 4, 2) := by decide +kernel
theorem dX10_knows_109 : decode cX10_knows 109 = .ok (.getfield 168, 3) := by decide +kernel
theorem dX10_knows_112 : decode cX10_knows 112 = .ok (.iload_n 1, 1) := by decide +kernel
theorem dX10_knows_113 : decode cX10_knows 113 = .ok (.iaload, 1) := by decide +kernel
theorem dX10_knows_114 : decode cX10_knows 114 = .ok (.ireturn, 1) := by decide +kernel
theorem dX10_knows_115 : decode cX10_knows 115 = .ok (.aload 4, 2) := by decide +kernel
theorem dX10_knows_117 : decode cX10_knows 117 = .ok (.getfield 171, 3) := by decide +kernel
theorem dX10_knows_120 : decode cX10_knows 120 = .ok (.iload_n 1, 1) := by decide +kernel
theorem dX10_knows_121 : decode cX10_knows 121 = .ok (.iaload, 1) := by decide +kernel
theorem dX10_knows_122 : decode cX10_knows 122 = .ok (.ireturn, 1) := by decide +kernel
theorem dX10_count_0 : decode cX10_count 0 = .ok (.iload_n 1, 1) := by decide +kernel
theorem dX10_count_1 : decode cX10_count 1 = .ok (.tableswitch 69 0 4 #[35, 43, 48, 56, 64], 35) := by decide +kernel
theorem dX10_count_36 : decode cX10_count 36 = .ok (.aload_n 0, 1) := by decide +kernel
theorem dX10_count_37 : decode cX10_count 37 = .ok (.getfield 10, 3) := by decide +kernel
theorem dX10_count_40 : decode cX10_count 40 = .ok (.getfield 82, 3) := by decide +kernel
theorem dX10_count_43 : decode cX10_count 43 = .ok (.ireturn, 1) := by decide +kernel
theorem dX10_count_44 : decode cX10_count 44 = .ok (.aload_n 0, 1) := by decide +kernel
theorem dX10_count_45 : decode cX10_count 45 = .ok (.getfield 174, 3) := by decide +kernel
theorem dX10_count_48 : decode cX10_count 48 = .ok (.ireturn, 1) := by decide +kernel
theorem dX10_count_49 : decode cX10_count 49 = .ok (.aload_n 0, 1) := by decide +kernel
theorem dX10_count_50 : decode cX10_count 50 = .ok (.getfield 66, 3) := by decide +kernel
theorem dX10_count_53 : decode cX10_count 53 = .ok (.getfield 177, 3) := by decide +kernel
theorem dX10_count_56 : decode cX10_count 56 = .ok (.ireturn, 1) := by decide +kernel
theorem dX10_count_57 : decode cX10_count 57 = .ok (.aload_n 0, 1) := by decide +kernel
theorem dX10_count_58 : decode cX10_count 58 = .ok (.getfield 46, 3) := by decide +kernel
theorem dX10_count_61 : decode cX10_count 61 = .ok (.getfield 180, 3) := by decide +kernel
theorem dX10_count_64 : decode cX10_count 64 = .ok (.ireturn, 1) := by decide +kernel
theorem dX10_count_65 : decode cX10_count 65 = .ok (.aload_n 0, 1) := by decide +kernel
theorem dX10_count_66 : decode cX10_count 66 = .ok (.getfield 149, 3) := by decide +kernel
theorem dX10_count_69 : decode cX10_count 69 = .ok (.ireturn, 1) := by decide +kernel
theorem dX10_count_70 : decode cX10_count 70 = .ok (.iconst (-1), 1) := by decide +kernel
theorem dX10_count_71 : decode cX10_count 71 = .ok (.ireturn, 1) := by decide +kernel
theorem dX10_hours_0 : decode cX10_hours 0 = .ok (.iload_n 1, 1) := by decide +kernel
theorem dX10_hours_1 : decode cX10_hours 1 = .ok (.iconst 1, 1) := by decide +kernel
theorem dX10_hours_2 : decode cX10_hours 2 = .ok (.if_icmp .lt 9, 3) := by decide +kernel
theorem dX10_hours_5 : decode cX10_hours 5 = .ok (.iload_n 1, 1) := by decide +kernel
theorem dX10_hours_6 : decode cX10_hours 6 = .ok (.bipush 96, 2) := by decide +kernel
theorem dX10_hours_8 : decode cX10_hours 8 = .ok (.if_icmp .le 5, 3) := by decide +kernel
theorem dX10_hours_11 : decode cX10_hours 11 = .ok (.iconst (-1), 1) := by decide +kernel
theorem dX10_hours_12 : decode cX10_hours 12 = .ok (.ireturn, 1) := by decide +kernel
theorem dX10_hours_13 : decode cX10_hours 13 = .ok (.aload_n 0, 1) := by decide +kernel
theorem dX10_hours_14 : decode cX10_hours 14 = .ok (.getfield 149, 3) := by decide +kernel
theorem dX10_hours_17 : decode cX10_hours 17 = .ok (.iload_n 1, 1) := by decide +kernel
theorem dX10_hours_18 : decode cX10_hours 18 = .ok (.iadd, 1) := by decide +kernel
theorem dX10_hours_19 : decode cX10_hours 19 = .ok (.sipush 9999, 3) := by decide +kernel
theorem dX10_hours_22 : decode cX10_hours 22 = .ok (.if_icmp .le 6, 3) := by decide +kernel
theorem dX10_hours_25 : decode cX10_hours 25 = .ok (.bipush (-2), 2) := by decide +kernel
theorem dX10_hours_27 : decode cX10_hours 27 = .ok (.ireturn, 1) := by decide +kernel
theorem dX10_hours_28 : decode cX10_hours 28 = .ok (.iconst 0, 1) := by decide +kernel
theorem dX10_hours_29 : decode cX10_hours 29 = .ok (.istore_n 2, 1) := by decide +kernel
theorem dX10_hours_30 : decode cX10_hours 30 = .ok (.iload_n 2, 1) := by decide +kernel
theorem dX10_hours_31 : decode cX10_hours 31 = .ok (.aload_n 0, 1) := by decide +kernel
theorem dX10_hours_32 : decode cX10_hours 32 = .ok (.getfield 174, 3) := by decide +kernel
theorem dX10_hours_35 : decode cX10_hours 35 = .ok (.if_icmp .ge 30, 3) := by decide +kernel
theorem dX10_hours_38 : decode cX10_hours 38 = .ok (.aload_n 0, 1) := by decide +kernel
theorem dX10_hours_39 : decode cX10_hours 39 = .ok (.getfield 10, 3) := by decide +kernel
theorem dX10_hours_42 : decode cX10_hours 42 = .ok (.aload_n 0, 1) := by decide +kernel
theorem dX10_hours_43 : decode cX10_hours 43 = .ok (.getfield 18, 3) := by decide +kernel
theorem dX10_hours_46 : decode cX10_hours 46 = .ok (.iload_n 2, 1) := by decide +kernel
theorem dX10_hours_47 : decode cX10_hours 47 = .ok (.aaload, 1) := by decide +kernel
theorem dX10_hours_48 : decode cX10_hours 48 = .ok (.getfield 152, 3) := by decide +kernel
theorem dX10_hours_51 : decode cX10_hours 51 = .ok (.aload_n 0, 1) := by decide +kernel
theorem dX10_hours_52 : decode cX10_hours 52 = .ok (.getfield 149, 3) := by decide +kernel
theorem dX10_hours_55 : decode cX10_hours 55 = .ok (.iload_n 1, 1) := by decide +kernel
theorem dX10_hours_56 : decode cX10_hours 56 = .ok (.invokevirtual 181, 3) := by decide +kernel
theorem dX10_hours_59 : decode cX10_hours 59 = .ok (.iinc 2 1, 3) := by decide +kernel
theorem dX10_hours_62 : decode cX10_hours 62 = .ok (.goto (-32), 3) := by decide +kernel
theorem dX10_hours_65 : decode cX10_hours 65 = .ok (.aload_n 0, 1) := by decide +kernel
theorem dX10_hours_66 : decode cX10_hours 66 = .ok (.dup, 1) := by decide +kernel
theorem dX10_hours_67 : decode cX10_hours 67 = .ok (.getfield 149, 3) := by decide +kernel
theorem dX10_hours_70 : decode cX10_hours 70 = .ok (.iload_n 1, 1) := by decide +kernel
theorem dX10_hours_71 : decode cX10_hours 71 = .ok (.iadd, 1) := by decide +kernel
theorem dX10_hours_72 : decode cX10_hours 72 = .ok (.putfield 149, 3) := by decide +kernel
theorem dX10_hours_75 : decode cX10_hours 75 = .ok (.aload_n 0, 1) := by decide +kernel
theorem dX10_hours_76 : decode cX10_hours 76 = .ok (.getfield 149, 3) := by decide +kernel
theorem dX10_hours_79 : decode cX10_hours 79 = .ok (.ireturn, 1) := by decide +kernel
theorem dX10_reach_0 : decode cX10_reach 0 = .ok (.aload_n 0, 1) := by decide +kernel
theorem dX10_reach_1 : decode cX10_reach 1 = .ok (.iload_n 1, 1) := by decide +kernel
theorem dX10_reach_2 : decode cX10_reach 2 = .ok (.invokevirtual 116, 3) := by decide +kernel
theorem dX10_reach_5 : decode cX10_reach 5 = .ok (.ifCond .eq 11, 3) := by decide +kernel
theorem dX10_reach_8 : decode cX10_reach 8 = .ok (.iload_n 2, 1) := by decide +kernel
theorem dX10_reach_9 : decode cX10_reach 9 = .ok (.iconst 3, 1) := by decide +kernel
theorem dX10_reach_10 : decode cX10_reach 10 = .ok (.invokestatic 75, 3) := by decide +kernel
theorem dX10_reach_13 : decode cX10_reach 13 = .ok (.ifCond .ne 5, 3) := by decide +kernel
theorem dX10_reach_16 : decode cX10_reach 16 = .ok (.iconst (-1), 1) := by decide +kernel
theorem dX10_reach_17 : decode cX10_reach 17 = .ok (.ireturn, 1) := by decide +kernel
theorem dX10_reach_18 : decode cX10_reach 18 = .ok (.aload_n 0, 1) := by decide +kernel
theorem dX10_reach_19 : decode cX10_reach 19 = .ok (.getfield 18, 3) := by decide +kernel
theorem dX10_reach_22 : decode cX10_reach 22 = .ok (.iload_n 1, 1) := by decide +kernel
theorem dX10_reach_23 : decode cX10_reach 23 = .ok (.aaload, 1) := by decide +kernel
theorem dX10_reach_24 : decode cX10_reach 24 = .ok (.getfield 152, 3) := by decide +kernel
theorem dX10_reach_27 : decode cX10_reach 27 = .ok (.astore_n 3, 1) := by decide +kernel
theorem dX10_reach_28 : decode cX10_reach 28 = .ok (.iconst 0, 1) := by decide +kernel
theorem dX10_reach_29 : decode cX10_reach 29 = .ok (.istore 4, 2) := by decide +kernel
theorem dX10_reach_31 : decode cX10_reach 31 = .ok (.iconst 0, 1) := by decide +kernel
theorem dX10_reach_32 : decode cX10_reach 32 = .ok (.istore 5, 2) := by decide +kernel
theorem dX10_reach_34 : decode cX10_reach 34 = .ok (.iload 5, 2) := by decide +kernel
theorem dX10_reach_36 : decode cX10_reach 36 = .ok (.aload_n 0, 1) := by decide +kernel
theorem dX10_reach_37 : decode cX10_reach 37 = .ok (.getfield 10, 3) := by decide +kernel
theorem dX10_reach_40 : decode cX10_reach 40 = .ok (.getfield 82, 3) := by decide +kernel
theorem dX10_reach_43 : decode cX10_reach 43 = .ok (.if_icmp .ge 23, 3) := by decide +kernel
theorem dX10_reach_46 : decode cX10_reach 46 = .ok (.aload_n 3, 1) := by decide +kernel
theorem dX10_reach_47 : decode cX10_reach 47 = .ok (.getfield 155, 3) := by decide +kernel
theorem dX10_reach_50 : decode cX10_reach 50 = .ok (.iload 5, 2) := by decide +kernel
theorem dX10_reach_52 : decode cX10_reach 52 = .ok (.iaload, 1) := by decide +kernel
theorem dX10_reach_53 : decode cX10_reach 53 = .ok (.iload_n 2, 1) := by decide +kernel
theorem dX10_reach_54 : decode cX10_reach 54 = .ok (.if_icmp .ne 6, 3) := by decide +kernel
theorem dX10_reach_57 : decode cX10_reach 57 = .ok (.iinc 4 1, 3) := by decide +kernel
theorem dX10_reach_60 : decode cX10_reach 60 = .ok (.iinc 5 1, 3) := by decide +kernel
theorem dX10_reach_63 : decode cX10_reach 63 = .ok (.goto (-29), 3) := by decide +kernel
theorem dX10_reach_66 : decode cX10_reach 66 = .ok (.iload 4, 2) := by decide +kernel
theorem dX10_reach_68 : decode cX10_reach 68 = .ok (.ireturn, 1) := by decide +kernel
theorem dX10_harm_0 : decode cX10_harm 0 = .ok (.aload_n 0, 1) := by decide +kernel
theorem dX10_harm_1 : decode cX10_harm 1 = .ok (.iload_n 1, 1) := by decide +kernel
theorem dX10_harm_2 : decode cX10_harm 2 = .ok (.invokevirtual 116, 3) := by decide +kernel
theorem dX10_harm_5 : decode cX10_harm 5 = .ok (.ifCond .ne 5, 3) := by decide +kernel
theorem dX10_harm_8 : decode cX10_harm 8 = .ok (.iconst (-1), 1) := by decide +kernel
theorem dX10_harm_9 : decode cX10_harm 9 = .ok (.ireturn, 1) := by decide +kernel
theorem dX10_harm_10 : decode cX10_harm 10 = .ok (.aload_n 0, 1) := by decide +kernel
theorem dX10_harm_11 : decode cX10_harm 11 = .ok (.getfield 18, 3) := by decide +kernel
theorem dX10_harm_14 : decode cX10_harm 14 = .ok (.iload_n 1, 1) := by decide +kernel
theorem dX10_harm_15 : decode cX10_harm 15 = .ok (.aaload, 1) := by decide +kernel
theorem dX10_harm_16 : decode cX10_harm 16 = .ok (.astore_n 2, 1) := by decide +kernel
theorem dX10_harm_17 : decode cX10_harm 17 = .ok (.aload_n 2, 1) := by decide +kernel
theorem dX10_harm_18 : decode cX10_harm 18 = .ok (.getfield 139, 3) := by decide +kernel
theorem dX10_harm_21 : decode cX10_harm 21 = .ok (.iconst 3, 1) := by decide +kernel
theorem dX10_harm_22 : decode cX10_harm 22 = .ok (.if_icmp .ne 7, 3) := by decide +kernel
theorem dX10_harm_25 : decode cX10_harm 25 = .ok (.iconst 0, 1) := by decide +kernel
theorem dX10_harm_26 : decode cX10_harm 26 = .ok (.goto 14, 3) := by decide +kernel
theorem dX10_harm_29 : decode cX10_harm 29 = .ok (.aload_n 0, 1) := by decide +kernel
theorem dX10_harm_30 : decode cX10_harm 30 = .ok (.getfield 10, 3) := by decide +kernel
theorem dX10_harm_33 : decode cX10_harm 33 = .ok (.aload_n 2, 1) := by decide +kernel
theorem dX10_harm_34 : decode cX10_harm 34 = .ok (.getfield 152, 3) := by decide +kernel
theorem dX10_harm_37 : decode cX10_harm 37 = .ok (.invokevirtual 185, 3) := by decide +kernel
theorem dX10_harm_40 : decode cX10_harm 40 = .ok (.ireturn, 1) := by decide +kernel
theorem dX10_deny_0 : decode cX10_deny 0 = .ok (.aload_n 0, 1) := by decide +kernel
theorem dX10_deny_1 : decode cX10_deny 1 = .ok (.iload_n 1, 1) := by decide +kernel
theorem dX10_deny_2 : decode cX10_deny 2 = .ok (.invokevirtual 116, 3) := by decide +kernel
theorem dX10_deny_5 : decode cX10_deny 5 = .ok (.ifCond .eq 11, 3) := by decide +kernel
theorem dX10_deny_8 : decode cX10_deny 8 = .ok (.iload_n 2, 1) := by decide +kernel
theorem dX10_deny_9 : decode cX10_deny 9 = .ok (.iconst 2, 1) := by decide +kernel
theorem dX10_deny_10 : decode cX10_deny 10 = .ok (.invokestatic 75, 3) := by decide +kernel
theorem dX10_deny_13 : decode cX10_deny 13 = .ok (.ifCond .ne 5, 3) := by decide +kernel
theorem dX10_deny_16 : decode cX10_deny 16 = .ok (.iconst (-1), 1) := by decide +kernel
theorem dX10_deny_17 : decode cX10_deny 17 = .ok (.ireturn, 1) := by decide +kernel
theorem dX10_deny_18 : decode cX10_deny 18 = .ok (.aload_n 0, 1) := by decide +kernel
theorem dX10_deny_19 : decode cX10_deny 19 = .ok (.getfield 18, 3) := by decide +kernel
theorem dX10_deny_22 : decode cX10_deny 22 = .ok (.iload_n 1, 1) := by decide +kernel
theorem dX10_deny_23 : decode cX10_deny 23 = .ok (.aaload, 1) := by decide +kernel
theorem dX10_deny_24 : decode cX10_deny 24 = .ok (.astore_n 3, 1) := by decide +kernel
theorem dX10_deny_25 : decode cX10_deny 25 = .ok (.aload_n 3, 1) := by decide +kernel
theorem dX10_deny_26 : decode cX10_deny 26 = .ok (.invokevirtual 189, 3) := by decide +kernel
theorem dX10_deny_29 : decode cX10_deny 29 = .ok (.ifCond .eq 6, 3) := by decide +kernel
theorem dX10_deny_32 : decode cX10_deny 32 = .ok (.bipush (-2), 2) := by decide +kernel
theorem dX10_deny_34 : decode cX10_deny 34 = .ok (.ireturn, 1) := by decide +kernel
theorem dX10_deny_35 : decode cX10_deny 35 = .ok (.aload_n 3, 1) := by decide +kernel
theorem dX10_deny_36 : decode cX10_deny 36 = .ok (.dup, 1) := by decide +kernel
theorem dX10_deny_37 : decode cX10_deny 37 = .ok (.getfield 142, 3) := by decide +kernel
theorem dX10_deny_40 : decode cX10_deny 40 = .ok (.iconst 1, 1) := by decide +kernel
theorem dX10_deny_41 : decode cX10_deny 41 = .ok (.iadd, 1) := by decide +kernel
theorem dX10_deny_42 : decode cX10_deny 42 = .ok (.putfield 142, 3) := by decide +kernel
theorem dX10_deny_45 : decode cX10_deny 45 = .ok (.aload_n 0, 1) := by decide +kernel
theorem dX10_deny_46 : decode cX10_deny 46 = .ok (.getfield 10, 3) := by decide +kernel
theorem dX10_deny_49 : decode cX10_deny 49 = .ok (.aload_n 3, 1) := by decide +kernel
theorem dX10_deny_50 : decode cX10_deny 50 = .ok (.getfield 152, 3) := by decide +kernel
theorem dX10_deny_53 : decode cX10_deny 53 = .ok (.aload_n 3, 1) := by decide +kernel
theorem dX10_deny_54 : decode cX10_deny 54 = .ok (.getfield 119, 3) := by decide +kernel
theorem dX10_deny_57 : decode cX10_deny 57 = .ok (.iload_n 2, 1) := by decide +kernel
theorem dX10_deny_58 : decode cX10_deny 58 = .ok (.aload_n 0, 1) := by decide +kernel
theorem dX10_deny_59 : decode cX10_deny 59 = .ok (.getfield 149, 3) := by decide +kernel
theorem dX10_deny_62 : decode cX10_deny 62 = .ok (.invokevirtual 193, 3) := by decide +kernel
theorem dX10_deny_65 : decode cX10_deny 65 = .ok (.ireturn, 1) := by decide +kernel
theorem dX10_found_0 : decode cX10_found 0 = .ok (.aload_n 0, 1) := by decide +kernel
theorem dX10_found_1 : decode cX10_found 1 = .ok (.iload_n 1, 1) := by decide +kernel
theorem dX10_found_2 : decode cX10_found 2 = .ok (.invokevirtual 116, 3) := by decide +kernel
theorem dX10_found_5 : decode cX10_found 5 = .ok (.ifCond .ne 5, 3) := by decide +kernel
theorem dX10_found_8 : decode cX10_found 8 = .ok (.iconst (-1), 1) := by decide +kernel
theorem dX10_found_9 : decode cX10_found 9 = .ok (.ireturn, 1) := by decide +kernel
theorem dX10_found_10 : decode cX10_found 10 = .ok (.aload_n 0, 1) := by decide +kernel
theorem dX10_found_11 : decode cX10_found 11 = .ok (.getfield 18, 3) := by decide +kernel
theorem dX10_found_14 : decode cX10_found 14 = .ok (.iload_n 1, 1) := by decide +kernel
theorem dX10_found_15 : decode cX10_found 15 = .ok (.aaload, 1) := by decide +kernel
theorem dX10_found_16 : decode cX10_found 16 = .ok (.astore_n 2, 1) := by decide +kernel
theorem dX10_found_17 : decode cX10_found 17 = .ok (.aload_n 2, 1) := by decide +kernel
theorem dX10_found_18 : decode cX10_found 18 = .ok (.getfield 139, 3) := by decide +kernel
theorem dX10_found_21 : decode cX10_found 21 = .ok (.iconst 3, 1) := by decide +kernel
theorem dX10_found_22 : decode cX10_found 22 = .ok (.if_icmp .eq 6, 3) := by decide +kernel
theorem dX10_found_25 : decode cX10_found 25 = .ok (.bipush (-12), 2) := by decide +kernel
theorem dX10_found_27 : decode cX10_found 27 = .ok (.ireturn, 1) := by decide +kernel
theorem dX10_found_28 : decode cX10_found 28 = .ok (.aload_n 2, 1) := by decide +kernel
theorem dX10_found_29 : decode cX10_found 29 = .ok (.getfield 142, 3) := by decide +kernel
theorem dX10_found_32 : decode cX10_found 32 = .ok (.istore_n 3, 1) := by decide +kernel
theorem dX10_found_33 : decode cX10_found 33 = .ok (.aload_n 2, 1) := by decide +kernel
theorem dX10_found_34 : decode cX10_found 34 = .ok (.iconst 0, 1) := by decide +kernel
theorem dX10_found_35 : decode cX10_found 35 = .ok (.putfield 142, 3) := by decide +kernel
theorem dX10_found_38 : decode cX10_found 38 = .ok (.aload_n 0, 1) := by decide +kernel
theorem dX10_found_39 : decode cX10_found 39 = .ok (.getfield 10, 3) := by decide +kernel
theorem dX10_found_42 : decode cX10_found 42 = .ok (.iload_n 3, 1) := by decide +kernel
theorem dX10_found_43 : decode cX10_found 43 = .ok (.invokevirtual 197, 3) := by decide +kernel
theorem dX10_found_46 : decode cX10_found 46 = .ok (.iload_n 3, 1) := by decide +kernel
theorem dX10_found_47 : decode cX10_found 47 = .ok (.ireturn, 1) := by decide +kernel
theorem dX10_foretold_0 : decode cX10_foretold 0 = .ok (.iload_n 1, 1) := by decide +kernel
theorem dX10_foretold_1 : decode cX10_foretold 1 = .ok (.bipush 96, 2) := by decide +kernel
theorem dX10_foretold_3 : decode cX10_foretold 3 = .ok (.invokestatic 75, 3) := by decide +kernel
theorem dX10_foretold_6 : decode cX10_foretold 6 = .ok (.ifCond .ne 5, 3) := by decide +kernel
theorem dX10_foretold_9 : decode cX10_foretold 9 = .ok (.iconst (-1), 1) := by decide +kernel
theorem dX10_foretold_10 : decode cX10_foretold 10 = .ok (.ireturn, 1) := by decide +kernel
theorem dX10_foretold_11 : decode cX10_foretold 11 = .ok (.iconst 0, 1) := by decide +kernel
theorem dX10_foretold_12 : decode cX10_foretold 12 = .ok (.istore_n 2, 1) := by decide +kernel
theorem dX10_foretold_13 : decode cX10_foretold 13 = .ok (.iconst 0, 1) := by decide +kernel
theorem dX10_foretold_14 : decode cX10_foretold 14 = .ok (.istore_n 3, 1) := by decide +kernel
theorem dX10_foretold_15 : decode cX10_foretold 15 = .ok (.iload_n 3, 1) := by decide +kernel
theorem dX10_foretold_16 : decode cX10_foretold 16 = .ok (.aload_n 0, 1) := by decide +kernel
theorem dX10_foretold_17 : decode cX10_foretold 17 = .ok (.getfield 174, 3) := by decide +kernel
theorem dX10_foretold_20 : decode cX10_foretold 20 = .ok (.if_icmp .ge 19, 3) := by decide +kernel
theorem dX10_foretold_23 : decode cX10_foretold 23 = .ok (.iload_n 2, 1) := by decide +kernel
theorem dX10_foretold_24 : decode cX10_foretold 24 = .ok (.aload_n 0, 1) := by decide +kernel
theorem dX10_foretold_25 : decode cX10_foretold 25 = .ok (.iload_n 3, 1) := by decide +kernel
theorem dX10_foretold_26 : decode cX10_foretold 26 = .ok (.iconst 3, 1) := by decide +kernel
theorem dX10_foretold_27 : decode cX10_foretold 27 = .ok (.iload_n 1, 1) := by decide +kernel
theorem dX10_foretold_28 : decode cX10_foretold 28 = .ok (.invokevirtual 201, 3) := by decide +kernel
theorem dX10_foretold_31 : decode cX10_foretold 31 = .ok (.iadd, 1) := by decide +kernel
theorem dX10_foretold_32 : decode cX10_foretold 32 = .ok (.istore_n 2, 1) := by decide +kernel
theorem dX10_foretold_33 : decode cX10_foretold 33 = .ok (.iinc 3 1, 3) := by decide +kernel
theorem dX10_foretold_36 : decode cX10_foretold 36 = .ok (.goto (-21), 3) := by decide +kernel
theorem dX10_foretold_39 : decode cX10_foretold 39 = .ok (.iload_n 2, 1) := by decide +kernel
theorem dX10_foretold_40 : decode cX10_foretold 40 = .ok (.ireturn, 1) := by decide +kernel
theorem dX10_wording_0 : decode cX10_wording 0 = .ok (.aload_n 0, 1) := by decide +kernel
theorem dX10_wording_1 : decode cX10_wording 1 = .ok (.iload_n 1, 1) := by decide +kernel
theorem dX10_wording_2 : decode cX10_wording 2 = .ok (.invokevirtual 116, 3) := by decide +kernel
theorem dX10_wording_5 : decode cX10_wording 5 = .ok (.ifCond .eq 12, 3) := by decide +kernel
theorem dX10_wording_8 : decode cX10_wording 8 = .ok (.iload_n 2, 1) := by decide +kernel
theorem dX10_wording_9 : decode cX10_wording 9 = .ok (.bipush 96, 2) := by decide +kernel
theorem dX10_wording_11 : decode cX10_wording 11 = .ok (.invokestatic 75, 3) := by decide +kernel
theorem dX10_wording_14 : decode cX10_wording 14 = .ok (.ifCond .ne 5, 3) := by decide +kernel
theorem dX10_wording_17 : decode cX10_wording 17 = .ok (.iconst (-1), 1) := by decide +kernel
theorem dX10_wording_18 : decode cX10_wording 18 = .ok (.ireturn, 1) := by decide +kernel
theorem dX10_wording_19 : decode cX10_wording 19 = .ok (.aload_n 0, 1) := by decide +kernel
theorem dX10_wording_20 : decode cX10_wording 20 = .ok (.getfield 18, 3) := by decide +kernel
theorem dX10_wording_23 : decode cX10_wording 23 = .ok (.iload_n 1, 1) := by decide +kernel
theorem dX10_wording_24 : decode cX10_wording 24 = .ok (.aaload, 1) := by decide +kernel
theorem dX10_wording_25 : decode cX10_wording 25 = .ok (.invokevirtual 189, 3) := by decide +kernel
theorem dX10_wording_28 : decode cX10_wording 28 = .ok (.ifCond .eq 6, 3) := by decide +kernel
theorem dX10_wording_31 : decode cX10_wording 31 = .ok (.bipush (-2), 2) := by decide +kernel
theorem dX10_wording_33 : decode cX10_wording 33 = .ok (.ireturn, 1) := by decide +kernel
theorem dX10_wording_34 : decode cX10_wording 34 = .ok (.iconst 3, 1) := by decide +kernel
theorem dX10_wording_35 : decode cX10_wording 35 = .ok (.istore_n 3, 1) := by decide +kernel
theorem dX10_wording_36 : decode cX10_wording 36 = .ok (.aload_n 0, 1) := by decide +kernel
theorem dX10_wording_37 : decode cX10_wording 37 = .ok (.iload_n 1, 1) := by decide +kernel
theorem dX10_wording_38 : decode cX10_wording 38 = .ok (.iconst 3, 1) := by decide +kernel
theorem dX10_wording_39 : decode cX10_wording 39 = .ok (.iload_n 2, 1) := by decide +kernel
theorem dX10_wording_40 : decode cX10_wording 40 = .ok (.invokevirtual 201, 3) := by decide +kernel
theorem dX10_wording_43 : decode cX10_wording 43 = .ok (.istore 4, 2) := by decide +kernel
theorem dX10_wording_45 : decode cX10_wording 45 = .ok (.iconst 0, 1) := by decide +kernel
theorem dX10_wording_46 : decode cX10_wording 46 = .ok (.istore 5, 2) := by decide +kernel
theorem dX10_wording_48 : decode cX10_wording 48 = .ok (.iload 5, 2) := by decide +kernel
theorem dX10_wording_50 : decode cX10_wording 50 = .ok (.iconst 2, 1) := by decide +kernel
theorem dX10_wording_51 : decode cX10_wording 51 = .ok (.if_icmp .gt 33, 3) := by decide +kernel
theorem dX10_wording_54 : decode cX10_wording 54 = .ok (.aload_n 0, 1) := by decide +kernel
theorem dX10_wording_55 : decode cX10_wording 55 = .ok (.iload_n 1, 1) := by decide +kernel
theorem dX10_wording_56 : decode cX10_wording 56 = .ok (.iload 5, 2) := by decide +kernel
theorem dX10_wording_58 : decode cX10_wording 58 = .ok (.iload_n 2, 1) := by decide +kernel
theorem dX10_wording_59 : decode cX10_wording 59 = .ok (.invokevirtual 201, 3) := by decide +kernel
theorem dX10_wording_62 : decode cX10_wording 62 = .ok (.istore 6, 2) := by decide +kernel
theorem dX10_wording_64 : decode cX10_wording 64 = .ok (.iload 6, 2) := by decide +kernel
theorem dX10_wording_66 : decode cX10_wording 66 = .ok (.iload 4, 2) := by decide +kernel
theorem dX10_wording_68 : decode cX10_wording 68 = .ok (.if_icmp .ge 10, 3) := by decide +kernel
theorem dX10_wording_71 : decode cX10_wording 71 = .ok (.iload 6, 2) := by decide +kernel
theorem dX10_wording_73 : decode cX10_wording 73 = .ok (.istore 4, 2) := by decide +kernel
theorem dX10_wording_75 : decode cX10_wording 75 = .ok (.iload 5, 2) := by decide +kernel
theorem dX10_wording_77 : decode cX10_wording 77 = .ok (.istore_n 3, 1) := by decide +kernel
theorem dX10_wording_78 : decode cX10_wording 78 = .ok (.iinc 5 1, 3) := by decide +kernel
theorem dX10_wording_81 : decode cX10_wording 81 = .ok (.goto (-33), 3) := by decide +kernel
theorem dX10_wording_84 : decode cX10_wording 84 = .ok (.iload_n 3, 1) := by decide +kernel
theorem dX10_wording_85 : decode cX10_wording 85 = .ok (.ireturn, 1) := by decide +kernel
theorem dX10_plan_0 : decode cX10_plan 0 = .ok (.iload_n 1, 1) := by decide +kernel
theorem dX10_plan_1 : decode cX10_plan 1 = .ok (.ifCond .lt 30, 3) := by decide +kernel
theorem dX10_plan_4 : decode cX10_plan 4 = .ok (.iload_n 1, 1) := by decide +kernel
theorem dX10_plan_5 : decode cX10_plan 5 = .ok (.iconst 1, 1) := by decide +kernel
theorem dX10_plan_6 : decode cX10_plan 6 = .ok (.aload_n 0, 1) := by decide +kernel
theorem dX10_plan_7 : decode cX10_plan 7 = .ok (.getfield 174, 3) := by decide +kernel
theorem dX10_plan_10 : decode cX10_plan 10 = .ok (.ishl, 1) := by decide +kernel
theorem dX10_plan_11 : decode cX10_plan 11 = .ok (.if_icmp .ge 20, 3) := by decide +kernel
theorem dX10_plan_14 : decode cX10_plan 14 = .ok (.iload_n 1, 1) := by decide +kernel
theorem dX10_plan_15 : decode cX10_plan 15 = .ok (.invokestatic 204, 3) := by decide +kernel
theorem dX10_plan_18 : decode cX10_plan 18 = .ok (.iconst 4, 1) := by decide +kernel
theorem dX10_plan_19 : decode cX10_plan 19 = .ok (.if_icmp .gt 12, 3) := by decide +kernel
theorem dX10_plan_22 : decode cX10_plan 22 = .ok (.iload_n 2, 1) := by decide +kernel
theorem dX10_plan_23 : decode cX10_plan 23 = .ok (.bipush 48, 2) := by decide +kernel
theorem dX10_plan_25 : decode cX10_plan 25 = .ok (.invokestatic 75, 3) := by decide +kernel
theorem dX10_plan_28 : decode cX10_plan 28 = .ok (.ifCond .ne 5, 3) := by decide +kernel
theorem dX10_plan_31 : decode cX10_plan 31 = .ok (.iconst (-1), 1) := by decide +kernel
theorem dX10_plan_32 : decode cX10_plan 32 = .ok (.ireturn, 1) := by decide +kernel
theorem dX10_plan_33 : decode cX10_plan 33 = .ok (.iconst 0, 1) := by decide +kernel
theorem dX10_plan_34 : decode cX10_plan 34 = .ok (.istore_n 3, 1) := by decide +kernel
theorem dX10_plan_35 : decode cX10_plan 35 = .ok (.iload_n 3, 1) := by decide +kernel
theorem dX10_plan_36 : decode cX10_plan 36 = .ok (.aload_n 0, 1) := by decide +kernel
theorem dX10_plan_37 : decode cX10_plan 37 = .ok (.getfield 174, 3) := by decide +kernel
theorem dX10_plan_40 : decode cX10_plan 40 = .ok (.if_icmp .ge 32, 3) := by decide +kernel
theorem dX10_plan_43 : decode cX10_plan 43 = .ok (.iload_n 1, 1) := by decide +kernel
theorem dX10_plan_44 : decode cX10_plan 44 = .ok (.iload_n 3, 1) := by decide +kernel
theorem dX10_plan_45 : decode cX10_plan 45 = .ok (.invokestatic 210, 3) := by decide +kernel
theorem dX10_plan_48 : decode cX10_plan 48 = .ok (.ifCond .eq 18, 3) := by decide +kernel
theorem dX10_plan_51 : decode cX10_plan 51 = .ok (.aload_n 0, 1) := by decide +kernel
theorem dX10_plan_52 : decode cX10_plan 52 = .ok (.getfield 18, 3) := by decide +kernel
theorem dX10_plan_55 : decode cX10_plan 55 = .ok (.iload_n 3, 1) := by decide +kernel
theorem dX10_plan_56 : decode cX10_plan 56 = .ok (.aaload, 1) := by decide +kernel
theorem dX10_plan_57 : decode cX10_plan 57 = .ok (.invokevirtual 189, 3) := by decide +kernel
theorem dX10_plan_60 : decode cX10_plan 60 = .ok (.ifCond .eq 6, 3) := by decide +kernel
theorem dX10_plan_63 : decode cX10_plan 63 = .ok (.bipush (-2), 2) := by decide +kernel
theorem dX10_plan_65 : decode cX10_plan 65 = .ok (.ireturn, 1) := by decide +kernel
theorem dX10_plan_66 : decode cX10_plan 66 = .ok (.iinc 3 1, 3) := by decide +kernel
theorem dX10_plan_69 : decode cX10_plan 69 = .ok (.goto (-34), 3) := by decide +kernel
theorem dX10_plan_72 : decode cX10_plan 72 = .ok (.iconst 0, 1) := by decide +kernel
theorem dX10_plan_73 : decode cX10_plan 73 = .ok (.istore_n 3, 1) := by decide +kernel
theorem dX10_plan_74 : decode cX10_plan 74 = .ok (.iconst 0, 1) := by decide +kernel
theorem dX10_plan_75 : decode cX10_plan 75 = .ok (.istore 4, 2) := by decide +kernel
theorem dX10_plan_77 : decode cX10_plan 77 = .ok (.iload 4, 2) := by decide +kernel
theorem dX10_plan_79 : decode cX10_plan 79 = .ok (.aload_n 0, 1) := by decide +kernel
theorem dX10_plan_80 : decode cX10_plan 80 = .ok (.getfield 174, 3) := by decide +kernel
theorem dX10_plan_83 : decode cX10_plan 83 = .ok (.if_icmp .ge 44, 3) := by decide +kernel
theorem dX10_plan_86 : decode cX10_plan 86 = .ok (.iload_n 1, 1) := by decide +kernel
theorem dX10_plan_87 : decode cX10_plan 87 = .ok (.iload 4, 2) := by decide +kernel
theorem dX10_plan_89 : decode cX10_plan 89 = .ok (.invokestatic 210, 3) := by decide +kernel
theorem dX10_plan_92 : decode cX10_plan 92 = .ok (.ifCond .eq 29, 3) := by decide +kernel
theorem dX10_plan_95 : decode cX10_plan 95 = .ok (.aload_n 0, 1) := by decide +kernel
theorem dX10_plan_96 : decode cX10_plan 96 = .ok (.iload 4, 2) := by decide +kernel
theorem dX10_plan_98 : decode cX10_plan 98 = .ok (.iconst 0, 1) := by decide +kernel
theorem dX10_plan_99 : decode cX10_plan 99 = .ok (.iload_n 2, 1) := by decide +kernel
theorem dX10_plan_100 : decode cX10_plan 100 = .ok (.invokevirtual 201, 3) := by decide +kernel
theorem dX10_plan_103 : decode cX10_plan 103 = .ok (.aload_n 0, 1) := by decide +kernel
theorem dX10_plan_104 : decode cX10_plan 104 = .ok (.iload 4, 2) := by decide +kernel
theorem dX10_plan_106 : decode cX10_plan 106 = .ok (.iconst 3, 1) := by decide +kernel
theorem dX10_plan_107 : decode cX10_plan 107 = .ok (.iload_n 2, 1) := by decide +kernel
theorem dX10_plan_108 : decode cX10_plan 108 = .ok (.invokevirtual 201, 3) := by decide +kernel
theorem dX10_plan_111 : decode cX10_plan 111 = .ok (.if_icmp .ge 10, 3) := by decide +kernel
theorem dX10_plan_114 : decode cX10_plan 114 = .ok (.iload_n 3, 1) := by decide +kernel
theorem dX10_plan_115 : decode cX10_plan 115 = .ok (.iconst 1, 1) := by decide +kernel
theorem dX10_plan_116 : decode cX10_plan 116 = .ok (.iload 4, 2) := by decide +kernel
theorem dX10_plan_118 : decode cX10_plan 118 = .ok (.ishl, 1) := by decide +kernel
theorem dX10_plan_119 : decode cX10_plan 119 = .ok (.ior, 1) := by decide +kernel
theorem dX10_plan_120 : decode cX10_plan 120 = .ok (.istore_n 3, 1) := by decide +kernel
theorem dX10_plan_121 : decode cX10_plan 121 = .ok (.iinc 4 1, 3) := by decide +kernel
theorem dX10_plan_124 : decode cX10_plan 124 = .ok (.goto (-47), 3) := by decide +kernel
theorem dX10_plan_127 : decode cX10_plan 127 = .ok (.iload_n 3, 1) := by decide +kernel
theorem dX10_plan_128 : decode cX10_plan 128 = .ok (.ireturn, 1) := by decide +kernel
theorem dX10_type_0 : decode cX10_type 0 = .ok (.iload_n 3, 1) := by decide +kernel
theorem dX10_type_1 : decode cX10_type 1 = .ok (.iconst 1, 1) := by decide +kernel
theorem dX10_type_2 : decode cX10_type 2 = .ok (.if_icmp .lt 9, 3) := by decide +kernel
theorem dX10_type_5 : decode cX10_type 5 = .ok (.iload_n 3, 1) := by decide +kernel
theorem dX10_type_6 : decode cX10_type 6 = .ok (.bipush 8, 2) := by decide +kernel
theorem dX10_type_8 : decode cX10_type 8 = .ok (.if_icmp .le 5, 3) := by decide +kernel
theorem dX10_type_11 : decode cX10_type 11 = .ok (.iconst (-1), 1) := by decide +kernel
theorem dX10_type_12 : decode cX10_type 12 = .ok (.ireturn, 1) := by decide +kernel
theorem dX10_type_13 : decode cX10_type 13 = .ok (.iconst 0, 1) := by decide +kernel
theorem dX10_type_14 : decode cX10_type 14 = .ok (.istore 4, 2) := by decide +kernel
theorem dX10_type_16 : decode cX10_type 16 = .ok (.iload 4, 2) := by decide +kernel
theorem dX10_type_18 : decode cX10_type 18 = .ok (.iload_n 3, 1) := by decide +kernel
theorem dX10_type_19 : decode cX10_type 19 = .ok (.if_icmp .ge 33, 3) := by decide +kernel
theorem dX10_type_22 : decode cX10_type 22 = .ok (.lload_n 1, 1) := by decide +kernel
theorem dX10_type_23 : decode cX10_type 23 = .ok (.iload 4, 2) := by decide +kernel
theorem dX10_type_25 : decode cX10_type 25 = .ok (.invokestatic 213, 3) := by decide +kernel
theorem dX10_type_28 : decode cX10_type 28 = .ok (.istore 5, 2) := by decide +kernel
theorem dX10_type_30 : decode cX10_type 30 = .ok (.iload 5, 2) := by decide +kernel
theorem dX10_type_32 : decode cX10_type 32 = .ok (.bipush 32, 2) := by decide +kernel
theorem dX10_type_34 : decode cX10_type 34 = .ok (.if_icmp .lt 10, 3) := by decide +kernel
theorem dX10_type_37 : decode cX10_type 37 = .ok (.iload 5, 2) := by decide +kernel
theorem dX10_type_39 : decode cX10_type 39 = .ok (.bipush 126, 2) := by decide +kernel
theorem dX10_type_41 : decode cX10_type 41 = .ok (.if_icmp .le 5, 3) := by decide +kernel
theorem dX10_type_44 : decode cX10_type 44 = .ok (.iconst (-1), 1) := by decide +kernel
theorem dX10_type_45 : decode cX10_type 45 = .ok (.ireturn, 1) := by decide +kernel
theorem dX10_type_46 : decode cX10_type 46 = .ok (.iinc 4 1, 3) := by decide +kernel
theorem dX10_type_49 : decode cX10_type 49 = .ok (.goto (-33), 3) := by decide +kernel
theorem dX10_type_52 : decode cX10_type 52 = .ok (.aload_n 0, 1) := by decide +kernel
theorem dX10_type_53 : decode cX10_type 53 = .ok (.getfield 32, 3) := by decide +kernel
theorem dX10_type_56 : decode cX10_type 56 = .ok (.getfield 217, 3) := by decide +kernel
theorem dX10_type_59 : decode cX10_type 59 = .ok (.iload_n 3, 1) := by decide +kernel
theorem dX10_type_60 : decode cX10_type 60 = .ok (.iadd, 1) := by decide +kernel
theorem dX10_type_61 : decode cX10_type 61 = .ok (.bipush 120, 2) := by decide +kernel
theorem dX10_type_63 : decode cX10_type 63 = .ok (.if_icmp .le 6, 3) := by decide +kernel
theorem dX10_type_66 : decode cX10_type 66 = .ok (.bipush (-3), 2) := by decide +kernel
theorem dX10_type_68 : decode cX10_type 68 = .ok (.ireturn, 1) := by decide +kernel
theorem dX10_type_69 : decode cX10_type 69 = .ok (.iload_n 3, 1) := by decide +kernel
theorem dX10_type_70 : decode cX10_type 70 = .ok (.iconst 1, 1) := by decide +kernel
theorem dX10_type_71 : decode cX10_type 71 = .ok (.isub, 1) := by decide +kernel
theorem dX10_type_72 : decode cX10_type 72 = .ok (.istore 4, 2) := by decide +kernel
theorem dX10_type_74 : decode cX10_type 74 = .ok (.iload 4, 2) := by decide +kernel
theorem dX10_type_76 : decode cX10_type 76 = .ok (.ifCond .lt 23, 3) := by decide +kernel
theorem dX10_type_79 : decode cX10_type 79 = .ok (.aload_n 0, 1) := by decide +kernel
theorem dX10_type_80 : decode cX10_type 80 = .ok (.getfield 32, 3) := by decide +kernel
theorem dX10_type_83 : decode cX10_type 83 = .ok (.lload_n 1, 1) := by decide +kernel
theorem dX10_type_84 : decode cX10_type 84 = .ok (.iload 4, 2) := by decide +kernel
theorem dX10_type_86 : decode cX10_type 86 = .ok (.invokestatic 213, 3) := by decide +kernel
theorem dX10_type_89 : decode cX10_type 89 = .ok (.i2c, 1) := by decide +kernel
theorem dX10_type_90 : decode cX10_type 90 = .ok (.invokevirtual 220, 3) := by decide +kernel
theorem dX10_type_93 : decode cX10_type 93 = .ok (.iinc 4 (-1), 3) := by decide +kernel
theorem dX10_type_96 : decode cX10_type 96 = .ok (.goto (-22), 3) := by decide +kernel
theorem dX10_type_99 : decode cX10_type 99 = .ok (.aload_n 0, 1) := by decide +kernel
theorem dX10_type_100 : decode cX10_type 100 = .ok (.getfield 32, 3) := by decide +kernel
theorem dX10_type_103 : decode cX10_type 103 = .ok (.getfield 217, 3) := by decide +kernel
theorem dX10_type_106 : decode cX10_type 106 = .ok (.ireturn, 1) := by decide +kernel
theorem dX10_guide_0 : decode cX10_guide 0 = .ok (.aload_n 0, 1) := by decide +kernel
theorem dX10_guide_1 : decode cX10_guide 1 = .ok (.getfield 32, 3) := by decide +kernel
theorem dX10_guide_4 : decode cX10_guide 4 = .ok (.aload_n 0, 1) := by decide +kernel
theorem dX10_guide_5 : decode cX10_guide 5 = .ok (.getfield 70, 3) := by decide +kernel
theorem dX10_guide_8 : decode cX10_guide 8 = .ok (.invokevirtual 224, 3) := by decide +kernel
theorem dX10_guide_11 : decode cX10_guide 11 = .ok (.istore_n 1, 1) := by decide +kernel
theorem dX10_guide_12 : decode cX10_guide 12 = .ok (.iload_n 1, 1) := by decide +kernel
theorem dX10_guide_13 : decode cX10_guide 13 = .ok (.ifCond .lt 21, 3) := by decide +kernel
theorem dX10_guide_16 : decode cX10_guide 16 = .ok (.aload_n 0, 1) := by decide +kernel
theorem dX10_guide_17 : decode cX10_guide 17 = .ok (.getfield 66, 3) := by decide +kernel
theorem dX10_guide_20 : decode cX10_guide 20 = .ok (.astore_n 2, 1) := by decide +kernel
theorem dX10_guide_21 : decode cX10_guide 21 = .ok (.aload_n 0, 1) := by decide +kernel
theorem dX10_guide_22 : decode cX10_guide 22 = .ok (.aload_n 0, 1) := by decide +kernel
theorem dX10_guide_23 : decode cX10_guide 23 = .ok (.getfield 70, 3) := by decide +kernel
theorem dX10_guide_26 : decode cX10_guide 26 = .ok (.putfield 66, 3) := by decide +kernel
theorem dX10_guide_29 : decode cX10_guide 29 = .ok (.aload_n 0, 1) := by decide +kernel
theorem dX10_guide_30 : decode cX10_guide 30 = .ok (.aload_n 2, 1) := by decide +kernel
theorem dX10_guide_31 : decode cX10_guide 31 = .ok (.putfield 70, 3) := by decide +kernel
theorem dX10_guide_34 : decode cX10_guide 34 = .ok (.aload_n 0, 1) := by decide +kernel
theorem dX10_guide_35 : decode cX10_guide 35 = .ok (.getfield 32, 3) := by decide +kernel
theorem dX10_guide_38 : decode cX10_guide 38 = .ok (.iconst 0, 1) := by decide +kernel
theorem dX10_guide_39 : decode cX10_guide 39 = .ok (.putfield 217, 3) := by decide +kernel
theorem dX10_guide_42 : decode cX10_guide 42 = .ok (.iload_n 1, 1) := by decide +kernel
theorem dX10_guide_43 : decode cX10_guide 43 = .ok (.ireturn, 1) := by decide +kernel
theorem dX10_why_0 : decode cX10_why 0 = .ok (.aload_n 0, 1) := by decide +kernel
theorem dX10_why_1 : decode cX10_why 1 = .ok (.iload_n 1, 1) := by decide +kernel
theorem dX10_why_2 : decode cX10_why 2 = .ok (.invokevirtual 116, 3) := by decide +kernel
theorem dX10_why_5 : decode cX10_why 5 = .ok (.ifCond .eq 11, 3) := by decide +kernel
theorem dX10_why_8 : decode cX10_why 8 = .ok (.iload_n 2, 1) := by decide +kernel
theorem dX10_why_9 : decode cX10_why 9 = .ok (.iconst 1, 1) := by decide +kernel
theorem dX10_why_10 : decode cX10_why 10 = .ok (.invokestatic 75, 3) := by decide +kernel
theorem dX10_why_13 : decode cX10_why 13 = .ok (.ifCond .ne 5, 3) := by decide +kernel
theorem dX10_why_16 : decode cX10_why 16 = .ok (.iconst (-1), 1) := by decide +kernel
theorem dX10_why_17 : decode cX10_why 17 = .ok (.ireturn, 1) := by decide +kernel
theorem dX10_why_18 : decode cX10_why 18 = .ok (.aload_n 0, 1) := by decide +kernel
theorem dX10_why_19 : decode cX10_why 19 = .ok (.getfield 66, 3) := by decide +kernel
theorem dX10_why_22 : decode cX10_why 22 = .ok (.aload_n 0, 1) := by decide +kernel
theorem dX10_why_23 : decode cX10_why 23 = .ok (.getfield 18, 3) := by decide +kernel
theorem dX10_why_26 : decode cX10_why 26 = .ok (.iload_n 1, 1) := by decide +kernel
theorem dX10_why_27 : decode cX10_why 27 = .ok (.aaload, 1) := by decide +kernel
theorem dX10_why_28 : decode cX10_why 28 = .ok (.getfield 119, 3) := by decide +kernel
theorem dX10_why_31 : decode cX10_why 31 = .ok (.aload_n 0, 1) := by decide +kernel
theorem dX10_why_32 : decode cX10_why 32 = .ok (.getfield 149, 3) := by decide +kernel
theorem dX10_why_35 : decode cX10_why 35 = .ok (.bipush 24, 2) := by decide +kernel
theorem dX10_why_37 : decode cX10_why 37 = .ok (.idiv, 1) := by decide +kernel
theorem dX10_why_38 : decode cX10_why 38 = .ok (.invokevirtual 228, 3) := by decide +kernel
theorem dX10_why_41 : decode cX10_why 41 = .ok (.istore_n 3, 1) := by decide +kernel
theorem dX10_why_42 : decode cX10_why 42 = .ok (.iload_n 3, 1) := by decide +kernel
theorem dX10_why_43 : decode cX10_why 43 = .ok (.bipush (-4), 2) := by decide +kernel
theorem dX10_why_45 : decode cX10_why 45 = .ok (.if_icmp .ne 6, 3) := by decide +kernel
theorem dX10_why_48 : decode cX10_why 48 = .ok (.bipush (-4), 2) := by decide +kernel
theorem dX10_why_50 : decode cX10_why 50 = .ok (.ireturn, 1) := by decide +kernel
theorem dX10_why_51 : decode cX10_why 51 = .ok (.iload_n 2, 1) := by decide +kernel
theorem dX10_why_52 : decode cX10_why 52 = .ok (.ifCond .ne 7, 3) := by decide +kernel
theorem dX10_why_55 : decode cX10_why 55 = .ok (.iload_n 3, 1) := by decide +kernel
theorem dX10_why_56 : decode cX10_why 56 = .ok (.goto 12, 3) := by decide +kernel
theorem dX10_why_59 : decode cX10_why 59 = .ok (.aload_n 0, 1) := by decide +kernel
theorem dX10_why_60 : decode cX10_why 60 = .ok (.getfield 66, 3) := by decide +kernel
theorem dX10_why_63 : decode cX10_why 63 = .ok (.getfield 231, 3) := by decide +kernel
theorem dX10_why_66 : decode cX10_why 66 = .ok (.iload_n 3, 1) := by decide +kernel
theorem dX10_why_67 : decode cX10_why 67 = .ok (.iaload, 1) := by decide +kernel
theorem dX10_why_68 : decode cX10_why 68 = .ok (.ireturn, 1) := by decide +kernel
theorem dX10_versions_0 : decode cX10_versions 0 = .ok (.aload_n 0, 1) := by decide +kernel
theorem dX10_versions_1 : decode cX10_versions 1 = .ok (.iload_n 1, 1) := by decide +kernel
theorem dX10_versions_2 : decode cX10_versions 2 = .ok (.invokevirtual 116, 3) := by decide +kernel
theorem dX10_versions_5 : decode cX10_versions 5 = .ok (.ifCond .ne 5, 3) := by decide +kernel
theorem dX10_versions_8 : decode cX10_versions 8 = .ok (.iconst (-1), 1) := by decide +kernel
theorem dX10_versions_9 : decode cX10_versions 9 = .ok (.ireturn, 1) := by decide +kernel
theorem dX10_versions_10 : decode cX10_versions 10 = .ok (.aload_n 0, 1) := by decide +kernel
theorem dX10_versions_11 : decode cX10_versions 11 = .ok (.getfield 39, 3) := by decide +kernel
theorem dX10_versions_14 : decode cX10_versions 14 = .ok (.aload_n 0, 1) := by decide +kernel
theorem dX10_versions_15 : decode cX10_versions 15 = .ok (.getfield 18, 3) := by decide +kernel
theorem dX10_versions_18 : decode cX10_versions 18 = .ok (.iload_n 1, 1) := by decide +kernel
theorem dX10_versions_19 : decode cX10_versions 19 = .ok (.aaload, 1) := by decide +kernel
theorem dX10_versions_20 : decode cX10_versions 20 = .ok (.getfield 152, 3) := by decide +kernel
theorem dX10_versions_23 : decode cX10_versions 23 = .ok (.aload_n 0, 1) := by decide +kernel
theorem dX10_versions_24 : decode cX10_versions 24 = .ok (.getfield 10, 3) := by decide +kernel
theorem dX10_versions_27 : decode cX10_versions 27 = .ok (.getfield 82, 3) := by decide +kernel
theorem dX10_versions_30 : decode cX10_versions 30 = .ok (.invokevirtual 234, 3) := by decide +kernel
theorem dX10_versions_33 : decode cX10_versions 33 = .ok (.aload_n 0, 1) := by decide +kernel
theorem dX10_versions_34 : decode cX10_versions 34 = .ok (.getfield 39, 3) := by decide +kernel
theorem dX10_versions_37 : decode cX10_versions 37 = .ok (.getfield 238, 3) := by decide +kernel
theorem dX10_versions_40 : decode cX10_versions 40 = .ok (.ireturn, 1) := by decide +kernel
theorem dX10_version_0 : decode cX10_version 0 = .ok (.aload_n 0, 1) := by decide +kernel
theorem dX10_version_1 : decode cX10_version 1 = .ok (.iload_n 1, 1) := by decide +kernel
theorem dX10_version_2 : decode cX10_version 2 = .ok (.invokevirtual 116, 3) := by decide +kernel
theorem dX10_version_5 : decode cX10_version 5 = .ok (.ifCond .eq 11, 3) := by decide +kernel
theorem dX10_version_8 : decode cX10_version 8 = .ok (.iload_n 3, 1) := by decide +kernel
theorem dX10_version_9 : decode cX10_version 9 = .ok (.iconst 1, 1) := by decide +kernel
theorem dX10_version_10 : decode cX10_version 10 = .ok (.invokestatic 75, 3) := by decide +kernel
theorem dX10_version_13 : decode cX10_version 13 = .ok (.ifCond .ne 5, 3) := by decide +kernel
theorem dX10_version_16 : decode cX10_version 16 = .ok (.iconst (-1), 1) := by decide +kernel
theorem dX10_version_17 : decode cX10_version 17 = .ok (.ireturn, 1) := by decide +kernel
theorem dX10_version_18 : decode cX10_version 18 = .ok (.aload_n 0, 1) := by decide +kernel
theorem dX10_version_19 : decode cX10_version 19 = .ok (.getfield 39, 3) := by decide +kernel
theorem dX10_version_22 : decode cX10_version 22 = .ok (.aload_n 0, 1) := by decide +kernel
theorem dX10_version_23 : decode cX10_version 23 = .ok (.getfield 18, 3) := by decide +kernel
theorem dX10_version_26 : decode cX10_version 26 = .ok (.iload_n 1, 1) := by decide +kernel
theorem dX10_version_27 : decode cX10_version 27 = .ok (.aaload, 1) := by decide +kernel
theorem dX10_version_28 : decode cX10_version 28 = .ok (.getfield 152, 3) := by decide +kernel
theorem dX10_version_31 : decode cX10_version 31 = .ok (.aload_n 0, 1) := by decide +kernel
theorem dX10_version_32 : decode cX10_version 32 = .ok (.getfield 10, 3) := by decide +kernel
theorem dX10_version_35 : decode cX10_version 35 = .ok (.getfield 82, 3) := by decide +kernel
theorem dX10_version_38 : decode cX10_version 38 = .ok (.invokevirtual 234, 3) := by decide +kernel
theorem dX10_version_41 : decode cX10_version 41 = .ok (.iload_n 2, 1) := by decide +kernel
theorem dX10_version_42 : decode cX10_version 42 = .ok (.aload_n 0, 1) := by decide +kernel
theorem dX10_version_43 : decode cX10_version 43 = .ok (.getfield 39, 3) := by decide +kernel
theorem dX10_version_46 : decode cX10_version 46 = .ok (.getfield 238, 3) := by decide +kernel
theorem dX10_version_49 : decode cX10_version 49 = .ok (.iconst 1, 1) := by decide +kernel
theorem dX10_version_50 : decode cX10_version 50 = .ok (.isub, 1) := by decide +kernel
theorem dX10_version_51 : decode cX10_version 51 = .ok (.invokestatic 75, 3) := by decide +kernel
theorem dX10_version_54 : decode cX10_version 54 = .ok (.ifCond .ne 5, 3) := by decide +kernel
theorem dX10_version_57 : decode cX10_version 57 = .ok (.iconst (-1), 1) := by decide +kernel
theorem dX10_version_58 : decode cX10_version 58 = .ok (.ireturn, 1) := by decide +kernel
theorem dX10_version_59 : decode cX10_version 59 = .ok (.iload_n 3, 1) := by decide +kernel
theorem dX10_version_60 : decode cX10_version 60 = .ok (.ifCond .ne 13, 3) := by decide +kernel
theorem dX10_version_63 : decode cX10_version 63 = .ok (.aload_n 0, 1) := by decide +kernel
theorem dX10_version_64 : decode cX10_version 64 = .ok (.getfield 39, 3) := by decide +kernel
theorem dX10_version_67 : decode cX10_version 67 = .ok (.getfield 239, 3) := by decide +kernel
theorem dX10_version_70 : decode cX10_version 70 = .ok (.iload_n 2, 1) := by decide +kernel
theorem dX10_version_71 : decode cX10_version 71 = .ok (.iaload, 1) := by decide +kernel
theorem dX10_version_72 : decode cX10_version 72 = .ok (.ireturn, 1) := by decide +kernel
theorem dX10_version_73 : decode cX10_version 73 = .ok (.aload_n 0, 1) := by decide +kernel
theorem dX10_version_74 : decode cX10_version 74 = .ok (.getfield 39, 3) := by decide +kernel
theorem dX10_version_77 : decode cX10_version 77 = .ok (.invokevirtual 242, 3) := by decide +kernel
theorem dX10_version_80 : decode cX10_version 80 = .ok (.pop, 1) := by decide +kernel
theorem dX10_version_81 : decode cX10_version 81 = .ok (.aload_n 0, 1) := by decide +kernel
theorem dX10_version_82 : decode cX10_version 82 = .ok (.getfield 39, 3) := by decide +kernel
theorem dX10_version_85 : decode cX10_version 85 = .ok (.getfield 246, 3) := by decide +kernel
theorem dX10_version_88 : decode cX10_version 88 = .ok (.iload_n 2, 1) := by decide +kernel
theorem dX10_version_89 : decode cX10_version 89 = .ok (.iaload, 1) := by decide +kernel
theorem dX10_version_90 : decode cX10_version 90 = .ok (.ireturn, 1) := by decide +kernel
theorem dX10_kin_0 : decode cX10_kin 0 = .ok (.aload_n 0, 1) := by decide +kernel
theorem dX10_kin_1 : decode cX10_kin 1 = .ok (.iload_n 1, 1) := by decide +kernel
theorem dX10_kin_2 : decode cX10_kin 2 = .ok (.invokevirtual 116, 3) := by decide +kernel
theorem dX10_kin_5 : decode cX10_kin 5 = .ok (.ifCond .ne 5, 3) := by decide +kernel
theorem dX10_kin_8 : decode cX10_kin 8 = .ok (.iconst (-1), 1) := by decide +kernel
theorem dX10_kin_9 : decode cX10_kin 9 = .ok (.ireturn, 1) := by decide +kernel
theorem dX10_kin_10 : decode cX10_kin 10 = .ok (.aload_n 0, 1) := by decide +kernel
theorem dX10_kin_11 : decode cX10_kin 11 = .ok (.getfield 39, 3) := by decide +kernel
theorem dX10_kin_14 : decode cX10_kin 14 = .ok (.aload_n 0, 1) := by decide +kernel
theorem dX10_kin_15 : decode cX10_kin 15 = .ok (.getfield 18, 3) := by decide +kernel
theorem dX10_kin_18 : decode cX10_kin 18 = .ok (.iload_n 1, 1) := by decide +kernel
theorem dX10_kin_19 : decode cX10_kin 19 = .ok (.aaload, 1) := by decide +kernel
theorem dX10_kin_20 : decode cX10_kin 20 = .ok (.getfield 152, 3) := by decide +kernel
theorem dX10_kin_23 : decode cX10_kin 23 = .ok (.aload_n 0, 1) := by decide +kernel
theorem dX10_kin_24 : decode cX10_kin 24 = .ok (.getfield 10, 3) := by decide +kernel
theorem dX10_kin_27 : decode cX10_kin 27 = .ok (.getfield 82, 3) := by decide +kernel
theorem dX10_kin_30 : decode cX10_kin 30 = .ok (.invokevirtual 234, 3) := by decide +kernel
theorem dX10_kin_33 : decode cX10_kin 33 = .ok (.aload_n 0, 1) := by decide +kernel
theorem dX10_kin_34 : decode cX10_kin 34 = .ok (.getfield 39, 3) := by decide +kernel
theorem dX10_kin_37 : decode cX10_kin 37 = .ok (.invokevirtual 242, 3) := by decide +kernel
theorem dX10_kin_40 : decode cX10_kin 40 = .ok (.ireturn, 1) := by decide +kernel
theorem dX10_report_0 : decode cX10_report 0 = .ok (.iload_n 1, 1) := by decide +kernel
theorem dX10_report_1 : decode cX10_report 1 = .ok (.iconst 5, 1) := by decide +kernel
theorem dX10_report_2 : decode cX10_report 2 = .ok (.invokestatic 75, 3) := by decide +kernel
theorem dX10_report_5 : decode cX10_report 5 = .ok (.ifCond .eq 12, 3) := by decide +kernel
theorem dX10_report_8 : decode cX10_report 8 = .ok (.iload_n 2, 1) := by decide +kernel
theorem dX10_report_9 : decode cX10_report 9 = .ok (.bipush 23, 2) := by decide +kernel
theorem dX10_report_11 : decode cX10_report 11 = .ok (.invokestatic 75, 3) := by decide +kernel
theorem dX10_report_14 : decode cX10_report 14 = .ok (.ifCond .ne 5, 3) := by decide +kernel
theorem dX10_report_17 : decode cX10_report 17 = .ok (.iconst (-1), 1) := by decide +kernel
theorem dX10_report_18 : decode cX10_report 18 = .ok (.ireturn, 1) := by decide +kernel
theorem dX10_report_19 : decode cX10_report 19 = .ok (.aload_n 0, 1) := by decide +kernel
theorem dX10_report_20 : decode cX10_report 20 = .ok (.getfield 46, 3) := by decide +kernel
theorem dX10_report_23 : decode cX10_report 23 = .ok (.getfield 180, 3) := by decide +kernel
theorem dX10_report_26 : decode cX10_report 26 = .ok (.bipush 12, 2) := by decide +kernel
theorem dX10_report_28 : decode cX10_report 28 = .ok (.if_icmp .lt 6, 3) := by decide +kernel
theorem dX10_report_31 : decode cX10_report 31 = .ok (.bipush (-3), 2) := by decide +kernel
theorem dX10_report_33 : decode cX10_report 33 = .ok (.ireturn, 1) := by decide +kernel
theorem dX10_report_34 : decode cX10_report 34 = .ok (.aload_n 0, 1) := by decide +kernel
theorem dX10_report_35 : decode cX10_report 35 = .ok (.getfield 46, 3) := by decide +kernel
theorem dX10_report_38 : decode cX10_report 38 = .ok (.iload_n 1, 1) := by decide +kernel
theorem dX10_report_39 : decode cX10_report 39 = .ok (.iload_n 2, 1) := by decide +kernel
theorem dX10_report_40 : decode cX10_report 40 = .ok (.iload_n 3, 1) := by decide +kernel
theorem dX10_report_41 : decode cX10_report 41 = .ok (.invokevirtual 249, 3) := by decide +kernel
theorem dX10_report_44 : decode cX10_report 44 = .ok (.ireturn, 1) := by decide +kernel
theorem dX10_clear_0 : decode cX10_clear 0 = .ok (.aload_n 0, 1) := by decide +kernel
theorem dX10_clear_1 : decode cX10_clear 1 = .ok (.getfield 46, 3) := by decide +kernel
theorem dX10_clear_4 : decode cX10_clear 4 = .ok (.invokevirtual 253, 3) := by decide +kernel
theorem dX10_clear_7 : decode cX10_clear 7 = .ok (.ireturn, 1) := by decide +kernel
theorem dX10_could_0 : decode cX10_could 0 = .ok (.aload_n 0, 1) := by decide +kernel
theorem dX10_could_1 : decode cX10_could 1 = .ok (.iload_n 1, 1) := by decide +kernel
theorem dX10_could_2 : decode cX10_could 2 = .ok (.invokevirtual 116, 3) := by decide +kernel
theorem dX10_could_5 : decode cX10_could 5 = .ok (.ifCond .eq 20, 3) := by decide +kernel
theorem dX10_could_8 : decode cX10_could 8 = .ok (.aload_n 0, 1) := by decide +kernel
theorem dX10_could_9 : decode cX10_could 9 = .ok (.iload_n 2, 1) := by decide +kernel
theorem dX10_could_10 : decode cX10_could 10 = .ok (.invokevirtual 90, 3) := by decide +kernel
theorem dX10_could_13 : decode cX10_could 13 = .ok (.ifCond .eq 12, 3) := by decide +kernel
theorem dX10_could_16 : decode cX10_could 16 = .ok (.iload_n 3, 1) := by decide +kernel
theorem dX10_could_17 : decode cX10_could 17 = .ok (.bipush 23, 2) := by decide +kernel
theorem dX10_could_19 : decode cX10_could 19 = .ok (.invokestatic 75, 3) := by decide +kernel
theorem dX10_could_22 : decode cX10_could 22 = .ok (.ifCond .ne 5, 3) := by decide +kernel
theorem dX10_could_25 : decode cX10_could 25 = .ok (.iconst (-1), 1) := by decide +kernel
theorem dX10_could_26 : decode cX10_could 26 = .ok (.ireturn, 1) := by decide +kernel
theorem dX10_could_27 : decode cX10_could 27 = .ok (.aload_n 0, 1) := by decide +kernel
theorem dX10_could_28 : decode cX10_could 28 = .ok (.aload_n 0, 1) := by decide +kernel
theorem dX10_could_29 : decode cX10_could 29 = .ok (.getfield 18, 3) := by decide +kernel
theorem dX10_could_32 : decode cX10_could 32 = .ok (.iload_n 1, 1) := by decide +kernel
theorem dX10_could_33 : decode cX10_could 33 = .ok (.aaload, 1) := by decide +kernel
theorem dX10_could_34 : decode cX10_could 34 = .ok (.getfield 119, 3) := by decide +kernel
theorem dX10_could_37 : decode cX10_could 37 = .ok (.iload_n 2, 1) := by decide +kernel
theorem dX10_could_38 : decode cX10_could 38 = .ok (.iload_n 3, 1) := by decide +kernel
theorem dX10_could_39 : decode cX10_could 39 = .ok (.invokevirtual 256, 3) := by decide +kernel
theorem dX10_could_42 : decode cX10_could 42 = .ok (.ifCond .eq 7, 3) := by decide +kernel
theorem dX10_could_45 : decode cX10_could 45 = .ok (.iconst 1, 1) := by decide +kernel
theorem dX10_could_46 : decode cX10_could 46 = .ok (.goto 4, 3) := by decide +kernel
theorem dX10_could_49 : decode cX10_could 49 = .ok (.iconst 0, 1) := by decide +kernel
theorem dX10_could_50 : decode cX10_could 50 = .ok (.ireturn, 1) := by decide +kernel
theorem dX10_first_0 : decode cX10_first 0 = .ok (.aload_n 0, 1) := by decide +kernel
theorem dX10_first_1 : decode cX10_first 1 = .ok (.iload_n 1, 1) := by decide +kernel
theorem dX10_first_2 : decode cX10_first 2 = .ok (.invokevirtual 116, 3) := by decide +kernel
theorem dX10_first_5 : decode cX10_first 5 = .ok (.ifCond .ne 5, 3) := by decide +kernel
theorem dX10_first_8 : decode cX10_first 8 = .ok (.iconst (-1), 1) := by decide +kernel
theorem dX10_first_9 : decode cX10_first 9 = .ok (.ireturn, 1) := by decide +kernel
theorem dX10_first_10 : decode cX10_first 10 = .ok (.iconst 0, 1) := by decide +kernel
theorem dX10_first_11 : decode cX10_first 11 = .ok (.istore_n 2, 1) := by decide +kernel
theorem dX10_first_12 : decode cX10_first 12 = .ok (.iconst 0, 1) := by decide +kernel
theorem dX10_first_13 : decode cX10_first 13 = .ok (.istore_n 3, 1) := by decide +kernel
theorem dX10_first_14 : decode cX10_first 14 = .ok (.iload_n 3, 1) := by decide +kernel
theorem dX10_first_15 : decode cX10_first 15 = .ok (.aload_n 0, 1) := by decide +kernel
theorem dX10_first_16 : decode cX10_first 16 = .ok (.getfield 10, 3) := by decide +kernel
theorem dX10_first_19 : decode cX10_first 19 = .ok (.getfield 82, 3) := by decide +kernel
theorem dX10_first_22 : decode cX10_first 22 = .ok (.if_icmp .ge 32, 3) := by decide +kernel
theorem dX10_first_25 : decode cX10_first 25 = .ok (.aload_n 0, 1) := by decide +kernel
theorem dX10_first_26 : decode cX10_first 26 = .ok (.aload_n 0, 1) := by decide +kernel
theorem dX10_first_27 : decode cX10_first 27 = .ok (.getfield 18, 3) := by decide +kernel
theorem dX10_first_30 : decode cX10_first 30 = .ok (.iload_n 1, 1) := by decide +kernel
theorem dX10_first_31 : decode cX10_first 31 = .ok (.aaload, 1) := by decide +kernel
theorem dX10_first_32 : decode cX10_first 32 = .ok (.getfield 119, 3) := by decide +kernel
theorem dX10_first_35 : decode cX10_first 35 = .ok (.iload_n 3, 1) := by decide +kernel
theorem dX10_first_36 : decode cX10_first 36 = .ok (.invokevirtual 260, 3) := by decide +kernel
theorem dX10_first_39 : decode cX10_first 39 = .ok (.ifCond .eq 9, 3) := by decide +kernel
theorem dX10_first_42 : decode cX10_first 42 = .ok (.iload_n 2, 1) := by decide +kernel
end
section
theorem dX10_first_43 : decode cX10_first 43 = .ok (.iconst 1, 1) := by decide +kernel
theorem dX10_first_44 : decode cX10_first 44 = .ok (.iload_n 3, 1) := by decide +kernel
theorem dX10_first_45 : decode cX10_first 45 = .ok (.ishl, 1) := by decide +kernel
theorem dX10_first_46 : decode cX10_first 46 = .ok (.ior, 1) := by decide +kernel
theorem dX10_first_47 : decode cX10_first 47 = .ok (.istore_n 2, 1) := by decide +kernel
theorem dX10_first_48 : decode cX10_first 48 = .ok (.iinc 3 1, 3) := by decide +kernel
theorem dX10_first_51 : decode cX10_first 51 = .ok (.goto (-37), 3) := by decide +kernel
theorem dX10_first_54 : decode cX10_first 54 = .ok (.iload_n 2, 1) := by decide +kernel
theorem dX10_first_55 : decode cX10_first 55 = .ok (.ireturn, 1) := by decide +kernel
theorem dX10_posts_0 : decode cX10_posts 0 = .ok (.iload_n 1, 1) := by decide +kernel
theorem dX10_posts_1 : decode cX10_posts 1 = .ok (.iconst 1, 1) := by decide +kernel
theorem dX10_posts_2 : decode cX10_posts 2 = .ok (.if_icmp .lt 16, 3) := by decide +kernel
theorem dX10_posts_5 : decode cX10_posts 5 = .ok (.iload_n 1, 1) := by decide +kernel
theorem dX10_posts_6 : decode cX10_posts 6 = .ok (.iconst 3, 1) := by decide +kernel
theorem dX10_posts_7 : decode cX10_posts 7 = .ok (.if_icmp .gt 11, 3) := by decide +kernel
theorem dX10_posts_10 : decode cX10_posts 10 = .ok (.iload_n 2, 1) := by decide +kernel
theorem dX10_posts_11 : decode cX10_posts 11 = .ok (.iconst 1, 1) := by decide +kernel
theorem dX10_posts_12 : decode cX10_posts 12 = .ok (.invokestatic 75, 3) := by decide +kernel
theorem dX10_posts_15 : decode cX10_posts 15 = .ok (.ifCond .ne 5, 3) := by decide +kernel
theorem dX10_posts_18 : decode cX10_posts 18 = .ok (.iconst (-1), 1) := by decide +kernel
theorem dX10_posts_19 : decode cX10_posts 19 = .ok (.ireturn, 1) := by decide +kernel
theorem dX10_posts_20 : decode cX10_posts 20 = .ok (.iconst 0, 1) := by decide +kernel
theorem dX10_posts_21 : decode cX10_posts 21 = .ok (.istore_n 3, 1) := by decide +kernel
theorem dX10_posts_22 : decode cX10_posts 22 = .ok (.iload_n 3, 1) := by decide +kernel
theorem dX10_posts_23 : decode cX10_posts 23 = .ok (.aload_n 0, 1) := by decide +kernel
theorem dX10_posts_24 : decode cX10_posts 24 = .ok (.getfield 174, 3) := by decide +kernel
theorem dX10_posts_27 : decode cX10_posts 27 = .ok (.if_icmp .ge 77, 3) := by decide +kernel
theorem dX10_posts_30 : decode cX10_posts 30 = .ok (.aload_n 0, 1) := by decide +kernel
theorem dX10_posts_31 : decode cX10_posts 31 = .ok (.getfield 25, 3) := by decide +kernel
theorem dX10_posts_34 : decode cX10_posts 34 = .ok (.aload_n 0, 1) := by decide +kernel
theorem dX10_posts_35 : decode cX10_posts 35 = .ok (.getfield 18, 3) := by decide +kernel
theorem dX10_posts_38 : decode cX10_posts 38 = .ok (.iload_n 3, 1) := by decide +kernel
theorem dX10_posts_39 : decode cX10_posts 39 = .ok (.aaload, 1) := by decide +kernel
theorem dX10_posts_40 : decode cX10_posts 40 = .ok (.getfield 152, 3) := by decide +kernel
theorem dX10_posts_43 : decode cX10_posts 43 = .ok (.invokevirtual 263, 3) := by decide +kernel
theorem dX10_posts_46 : decode cX10_posts 46 = .ok (.aload_n 0, 1) := by decide +kernel
theorem dX10_posts_47 : decode cX10_posts 47 = .ok (.getfield 53, 3) := by decide +kernel
theorem dX10_posts_50 : decode cX10_posts 50 = .ok (.iload_n 3, 1) := by decide +kernel
theorem dX10_posts_51 : decode cX10_posts 51 = .ok (.invokevirtual 267, 3) := by decide +kernel
theorem dX10_posts_54 : decode cX10_posts 54 = .ok (.iconst 0, 1) := by decide +kernel
theorem dX10_posts_55 : decode cX10_posts 55 = .ok (.istore 4, 2) := by decide +kernel
theorem dX10_posts_57 : decode cX10_posts 57 = .ok (.iload 4, 2) := by decide +kernel
theorem dX10_posts_59 : decode cX10_posts 59 = .ok (.bipush 24, 2) := by decide +kernel
theorem dX10_posts_61 : decode cX10_posts 61 = .ok (.if_icmp .ge 37, 3) := by decide +kernel
theorem dX10_posts_64 : decode cX10_posts 64 = .ok (.aload_n 0, 1) := by decide +kernel
theorem dX10_posts_65 : decode cX10_posts 65 = .ok (.getfield 53, 3) := by decide +kernel
theorem dX10_posts_68 : decode cX10_posts 68 = .ok (.iload_n 3, 1) := by decide +kernel
theorem dX10_posts_69 : decode cX10_posts 69 = .ok (.aload_n 0, 1) := by decide +kernel
theorem dX10_posts_70 : decode cX10_posts 70 = .ok (.getfield 10, 3) := by decide +kernel
theorem dX10_posts_73 : decode cX10_posts 73 = .ok (.aload_n 0, 1) := by decide +kernel
theorem dX10_posts_74 : decode cX10_posts 74 = .ok (.getfield 25, 3) := by decide +kernel
theorem dX10_posts_77 : decode cX10_posts 77 = .ok (.aload_n 0, 1) := by decide +kernel
theorem dX10_posts_78 : decode cX10_posts 78 = .ok (.getfield 149, 3) := by decide +kernel
theorem dX10_posts_81 : decode cX10_posts 81 = .ok (.iload 4, 2) := by decide +kernel
theorem dX10_posts_83 : decode cX10_posts 83 = .ok (.iadd, 1) := by decide +kernel
theorem dX10_posts_84 : decode cX10_posts 84 = .ok (.invokevirtual 270, 3) := by decide +kernel
theorem dX10_posts_87 : decode cX10_posts 87 = .ok (.iload 4, 2) := by decide +kernel
theorem dX10_posts_89 : decode cX10_posts 89 = .ok (.invokevirtual 274, 3) := by decide +kernel
theorem dX10_posts_92 : decode cX10_posts 92 = .ok (.iinc 4 1, 3) := by decide +kernel
theorem dX10_posts_95 : decode cX10_posts 95 = .ok (.goto (-38), 3) := by decide +kernel
theorem dX10_posts_98 : decode cX10_posts 98 = .ok (.iinc 3 1, 3) := by decide +kernel
theorem dX10_posts_101 : decode cX10_posts 101 = .ok (.goto (-79), 3) := by decide +kernel
theorem dX10_posts_104 : decode cX10_posts 104 = .ok (.aload_n 0, 1) := by decide +kernel
theorem dX10_posts_105 : decode cX10_posts 105 = .ok (.getfield 53, 3) := by decide +kernel
theorem dX10_posts_108 : decode cX10_posts 108 = .ok (.iload_n 1, 1) := by decide +kernel
theorem dX10_posts_109 : decode cX10_posts 109 = .ok (.aload_n 0, 1) := by decide +kernel
theorem dX10_posts_110 : decode cX10_posts 110 = .ok (.getfield 174, 3) := by decide +kernel
theorem dX10_posts_113 : decode cX10_posts 113 = .ok (.invokevirtual 277, 3) := by decide +kernel
theorem dX10_posts_116 : decode cX10_posts 116 = .ok (.istore_n 3, 1) := by decide +kernel
theorem dX10_posts_117 : decode cX10_posts 117 = .ok (.iload_n 2, 1) := by decide +kernel
theorem dX10_posts_118 : decode cX10_posts 118 = .ok (.ifCond .ne 7, 3) := by decide +kernel
theorem dX10_posts_121 : decode cX10_posts 121 = .ok (.iload_n 3, 1) := by decide +kernel
theorem dX10_posts_122 : decode cX10_posts 122 = .ok (.goto 15, 3) := by decide +kernel
theorem dX10_posts_125 : decode cX10_posts 125 = .ok (.aload_n 0, 1) := by decide +kernel
theorem dX10_posts_126 : decode cX10_posts 126 = .ok (.getfield 53, 3) := by decide +kernel
theorem dX10_posts_129 : decode cX10_posts 129 = .ok (.iload_n 3, 1) := by decide +kernel
theorem dX10_posts_130 : decode cX10_posts 130 = .ok (.aload_n 0, 1) := by decide +kernel
theorem dX10_posts_131 : decode cX10_posts 131 = .ok (.getfield 174, 3) := by decide +kernel
theorem dX10_posts_134 : decode cX10_posts 134 = .ok (.invokevirtual 280, 3) := by decide +kernel
theorem dX10_posts_137 : decode cX10_posts 137 = .ok (.ireturn, 1) := by decide +kernel
theorem dX10_check_0 : decode cX10_check 0 = .ok (.aload_n 0, 1) := by decide +kernel
theorem dX10_check_1 : decode cX10_check 1 = .ok (.iload_n 1, 1) := by decide +kernel
theorem dX10_check_2 : decode cX10_check 2 = .ok (.invokevirtual 116, 3) := by decide +kernel
theorem dX10_check_5 : decode cX10_check 5 = .ok (.ifCond .eq 31, 3) := by decide +kernel
theorem dX10_check_8 : decode cX10_check 8 = .ok (.iload_n 2, 1) := by decide +kernel
theorem dX10_check_9 : decode cX10_check 9 = .ok (.bipush 48, 2) := by decide +kernel
theorem dX10_check_11 : decode cX10_check 11 = .ok (.invokestatic 75, 3) := by decide +kernel
theorem dX10_check_14 : decode cX10_check 14 = .ok (.ifCond .eq 22, 3) := by decide +kernel
theorem dX10_check_17 : decode cX10_check 17 = .ok (.iload_n 3, 1) := by decide +kernel
theorem dX10_check_18 : decode cX10_check 18 = .ok (.invokestatic 283, 3) := by decide +kernel
theorem dX10_check_21 : decode cX10_check 21 = .ok (.ifCond .eq 15, 3) := by decide +kernel
theorem dX10_check_24 : decode cX10_check 24 = .ok (.iload 4, 2) := by decide +kernel
theorem dX10_check_26 : decode cX10_check 26 = .ok (.iconst 1, 1) := by decide +kernel
theorem dX10_check_27 : decode cX10_check 27 = .ok (.if_icmp .eq 11, 3) := by decide +kernel
theorem dX10_check_30 : decode cX10_check 30 = .ok (.iload 4, 2) := by decide +kernel
theorem dX10_check_32 : decode cX10_check 32 = .ok (.iconst 2, 1) := by decide +kernel
theorem dX10_check_33 : decode cX10_check 33 = .ok (.if_icmp .eq 5, 3) := by decide +kernel
theorem dX10_check_36 : decode cX10_check 36 = .ok (.iconst (-1), 1) := by decide +kernel
theorem dX10_check_37 : decode cX10_check 37 = .ok (.ireturn, 1) := by decide +kernel
theorem dX10_check_38 : decode cX10_check 38 = .ok (.aload_n 0, 1) := by decide +kernel
theorem dX10_check_39 : decode cX10_check 39 = .ok (.getfield 59, 3) := by decide +kernel
theorem dX10_check_42 : decode cX10_check 42 = .ok (.iload_n 3, 1) := by decide +kernel
theorem dX10_check_43 : decode cX10_check 43 = .ok (.aaload, 1) := by decide +kernel
theorem dX10_check_44 : decode cX10_check 44 = .ok (.astore 6, 2) := by decide +kernel
theorem dX10_check_46 : decode cX10_check 46 = .ok (.aload 6, 2) := by decide +kernel
theorem dX10_check_48 : decode cX10_check 48 = .ok (.iload 4, 2) := by decide +kernel
theorem dX10_check_50 : decode cX10_check 50 = .ok (.iload 5, 2) := by decide +kernel
theorem dX10_check_52 : decode cX10_check 52 = .ok (.aload_n 0, 1) := by decide +kernel
theorem dX10_check_53 : decode cX10_check 53 = .ok (.getfield 10, 3) := by decide +kernel
theorem dX10_check_56 : decode cX10_check 56 = .ok (.getfield 82, 3) := by decide +kernel
theorem dX10_check_59 : decode cX10_check 59 = .ok (.invokevirtual 286, 3) := by decide +kernel
theorem dX10_check_62 : decode cX10_check 62 = .ok (.istore 7, 2) := by decide +kernel
theorem dX10_check_64 : decode cX10_check 64 = .ok (.iload 7, 2) := by decide +kernel
theorem dX10_check_66 : decode cX10_check 66 = .ok (.ifCond .eq 6, 3) := by decide +kernel
theorem dX10_check_69 : decode cX10_check 69 = .ok (.iload 7, 2) := by decide +kernel
theorem dX10_check_71 : decode cX10_check 71 = .ok (.ireturn, 1) := by decide +kernel
theorem dX10_check_72 : decode cX10_check 72 = .ok (.aload_n 0, 1) := by decide +kernel
theorem dX10_check_73 : decode cX10_check 73 = .ok (.getfield 25, 3) := by decide +kernel
theorem dX10_check_76 : decode cX10_check 76 = .ok (.aload_n 0, 1) := by decide +kernel
theorem dX10_check_77 : decode cX10_check 77 = .ok (.getfield 18, 3) := by decide +kernel
theorem dX10_check_80 : decode cX10_check 80 = .ok (.iload_n 1, 1) := by decide +kernel
theorem dX10_check_81 : decode cX10_check 81 = .ok (.aaload, 1) := by decide +kernel
theorem dX10_check_82 : decode cX10_check 82 = .ok (.getfield 152, 3) := by decide +kernel
theorem dX10_check_85 : decode cX10_check 85 = .ok (.invokevirtual 263, 3) := by decide +kernel
theorem dX10_check_88 : decode cX10_check 88 = .ok (.aload_n 0, 1) := by decide +kernel
theorem dX10_check_89 : decode cX10_check 89 = .ok (.getfield 10, 3) := by decide +kernel
theorem dX10_check_92 : decode cX10_check 92 = .ok (.aload_n 0, 1) := by decide +kernel
theorem dX10_check_93 : decode cX10_check 93 = .ok (.getfield 25, 3) := by decide +kernel
theorem dX10_check_96 : decode cX10_check 96 = .ok (.aload_n 0, 1) := by decide +kernel
theorem dX10_check_97 : decode cX10_check 97 = .ok (.getfield 149, 3) := by decide +kernel
theorem dX10_check_100 : decode cX10_check 100 = .ok (.iload_n 2, 1) := by decide +kernel
theorem dX10_check_101 : decode cX10_check 101 = .ok (.invokevirtual 181, 3) := by decide +kernel
theorem dX10_check_104 : decode cX10_check 104 = .ok (.iconst 0, 1) := by decide +kernel
theorem dX10_check_105 : decode cX10_check 105 = .ok (.istore 8, 2) := by decide +kernel
theorem dX10_check_107 : decode cX10_check 107 = .ok (.iload 8, 2) := by decide +kernel
theorem dX10_check_109 : decode cX10_check 109 = .ok (.aload_n 0, 1) := by decide +kernel
theorem dX10_check_110 : decode cX10_check 110 = .ok (.getfield 10, 3) := by decide +kernel
theorem dX10_check_113 : decode cX10_check 113 = .ok (.getfield 82, 3) := by decide +kernel
theorem dX10_check_116 : decode cX10_check 116 = .ok (.if_icmp .ge 36, 3) := by decide +kernel
theorem dX10_check_119 : decode cX10_check 119 = .ok (.aload 6, 2) := by decide +kernel
theorem dX10_check_121 : decode cX10_check 121 = .ok (.getfield 289, 3) := by decide +kernel
theorem dX10_check_124 : decode cX10_check 124 = .ok (.iload 5, 2) := by decide +kernel
theorem dX10_check_126 : decode cX10_check 126 = .ok (.iload 8, 2) := by decide +kernel
theorem dX10_check_128 : decode cX10_check 128 = .ok (.iadd, 1) := by decide +kernel
theorem dX10_check_129 : decode cX10_check 129 = .ok (.iaload, 1) := by decide +kernel
theorem dX10_check_130 : decode cX10_check 130 = .ok (.aload_n 0, 1) := by decide +kernel
theorem dX10_check_131 : decode cX10_check 131 = .ok (.getfield 25, 3) := by decide +kernel
theorem dX10_check_134 : decode cX10_check 134 = .ok (.getfield 155, 3) := by decide +kernel
theorem dX10_check_137 : decode cX10_check 137 = .ok (.iload 8, 2) := by decide +kernel
theorem dX10_check_139 : decode cX10_check 139 = .ok (.iaload, 1) := by decide +kernel
theorem dX10_check_140 : decode cX10_check 140 = .ok (.if_icmp .eq 6, 3) := by decide +kernel
theorem dX10_check_143 : decode cX10_check 143 = .ok (.iload 8, 2) := by decide +kernel
theorem dX10_check_145 : decode cX10_check 145 = .ok (.ireturn, 1) := by decide +kernel
theorem dX10_check_146 : decode cX10_check 146 = .ok (.iinc 8 1, 3) := by decide +kernel
theorem dX10_check_149 : decode cX10_check 149 = .ok (.goto (-42), 3) := by decide +kernel
theorem dX10_check_152 : decode cX10_check 152 = .ok (.bipush (-4), 2) := by decide +kernel
theorem dX10_check_154 : decode cX10_check 154 = .ok (.ireturn, 1) := by decide +kernel
theorem dX10_sheet_0 : decode cX10_sheet 0 = .ok (.iload_n 1, 1) := by decide +kernel
theorem dX10_sheet_1 : decode cX10_sheet 1 = .ok (.invokestatic 283, 3) := by decide +kernel
theorem dX10_sheet_4 : decode cX10_sheet 4 = .ok (.ifCond .eq 17, 3) := by decide +kernel
theorem dX10_sheet_7 : decode cX10_sheet 7 = .ok (.iload_n 2, 1) := by decide +kernel
theorem dX10_sheet_8 : decode cX10_sheet 8 = .ok (.iconst 2, 1) := by decide +kernel
theorem dX10_sheet_9 : decode cX10_sheet 9 = .ok (.invokestatic 75, 3) := by decide +kernel
theorem dX10_sheet_12 : decode cX10_sheet 12 = .ok (.ifCond .eq 9, 3) := by decide +kernel
theorem dX10_sheet_15 : decode cX10_sheet 15 = .ok (.iload_n 3, 1) := by decide +kernel
theorem dX10_sheet_16 : decode cX10_sheet 16 = .ok (.bipush 32, 2) := by decide +kernel
theorem dX10_sheet_18 : decode cX10_sheet 18 = .ok (.if_icmp .le 5, 3) := by decide +kernel
theorem dX10_sheet_21 : decode cX10_sheet 21 = .ok (.iconst (-1), 1) := by decide +kernel
theorem dX10_sheet_22 : decode cX10_sheet 22 = .ok (.ireturn, 1) := by decide +kernel
theorem dX10_sheet_23 : decode cX10_sheet 23 = .ok (.iload_n 3, 1) := by decide +kernel
theorem dX10_sheet_24 : decode cX10_sheet 24 = .ok (.ifCond .ge 6, 3) := by decide +kernel
theorem dX10_sheet_27 : decode cX10_sheet 27 = .ok (.bipush (-14), 2) := by decide +kernel
theorem dX10_sheet_29 : decode cX10_sheet 29 = .ok (.ireturn, 1) := by decide +kernel
theorem dX10_sheet_30 : decode cX10_sheet 30 = .ok (.aload_n 0, 1) := by decide +kernel
theorem dX10_sheet_31 : decode cX10_sheet 31 = .ok (.getfield 59, 3) := by decide +kernel
theorem dX10_sheet_34 : decode cX10_sheet 34 = .ok (.iload_n 1, 1) := by decide +kernel
theorem dX10_sheet_35 : decode cX10_sheet 35 = .ok (.aaload, 1) := by decide +kernel
theorem dX10_sheet_36 : decode cX10_sheet 36 = .ok (.iload_n 2, 1) := by decide +kernel
theorem dX10_sheet_37 : decode cX10_sheet 37 = .ok (.iload_n 3, 1) := by decide +kernel
theorem dX10_sheet_38 : decode cX10_sheet 38 = .ok (.invokevirtual 292, 3) := by decide +kernel
theorem dX10_sheet_41 : decode cX10_sheet 41 = .ok (.iload_n 3, 1) := by decide +kernel
theorem dX10_sheet_42 : decode cX10_sheet 42 = .ok (.ireturn, 1) := by decide +kernel
theorem dX10_drop_0 : decode cX10_drop 0 = .ok (.iload_n 1, 1) := by decide +kernel
theorem dX10_drop_1 : decode cX10_drop 1 = .ok (.invokestatic 283, 3) := by decide +kernel
theorem dX10_drop_4 : decode cX10_drop 4 = .ok (.ifCond .ne 5, 3) := by decide +kernel
theorem dX10_drop_7 : decode cX10_drop 7 = .ok (.iconst (-1), 1) := by decide +kernel
theorem dX10_drop_8 : decode cX10_drop 8 = .ok (.ireturn, 1) := by decide +kernel
theorem dX10_drop_9 : decode cX10_drop 9 = .ok (.aload_n 0, 1) := by decide +kernel
theorem dX10_drop_10 : decode cX10_drop 10 = .ok (.getfield 59, 3) := by decide +kernel
theorem dX10_drop_13 : decode cX10_drop 13 = .ok (.iload_n 1, 1) := by decide +kernel
theorem dX10_drop_14 : decode cX10_drop 14 = .ok (.aaload, 1) := by decide +kernel
theorem dX10_drop_15 : decode cX10_drop 15 = .ok (.astore_n 2, 1) := by decide +kernel
theorem dX10_drop_16 : decode cX10_drop 16 = .ok (.aload_n 2, 1) := by decide +kernel
theorem dX10_drop_17 : decode cX10_drop 17 = .ok (.invokevirtual 296, 3) := by decide +kernel
theorem dX10_drop_20 : decode cX10_drop 20 = .ok (.ifCond .eq 6, 3) := by decide +kernel
theorem dX10_drop_23 : decode cX10_drop 23 = .ok (.bipush (-11), 2) := by decide +kernel
theorem dX10_drop_25 : decode cX10_drop 25 = .ok (.ireturn, 1) := by decide +kernel
theorem dX10_drop_26 : decode cX10_drop 26 = .ok (.aload_n 2, 1) := by decide +kernel
theorem dX10_drop_27 : decode cX10_drop 27 = .ok (.iconst (-1), 1) := by decide +kernel
theorem dX10_drop_28 : decode cX10_drop 28 = .ok (.putfield 299, 3) := by decide +kernel
theorem dX10_drop_31 : decode cX10_drop 31 = .ok (.aload_n 2, 1) := by decide +kernel
theorem dX10_drop_32 : decode cX10_drop 32 = .ok (.getfield 302, 3) := by decide +kernel
theorem dX10_drop_35 : decode cX10_drop 35 = .ok (.ireturn, 1) := by decide +kernel
theorem dX10_item_0 : decode cX10_item 0 = .ok (.iload_n 1, 1) := by decide +kernel
theorem dX10_item_1 : decode cX10_item 1 = .ok (.invokestatic 283, 3) := by decide +kernel
theorem dX10_item_4 : decode cX10_item 4 = .ok (.ifCond .eq 11, 3) := by decide +kernel
theorem dX10_item_7 : decode cX10_item 7 = .ok (.iload_n 2, 1) := by decide +kernel
theorem dX10_item_8 : decode cX10_item 8 = .ok (.iconst 2, 1) := by decide +kernel
theorem dX10_item_9 : decode cX10_item 9 = .ok (.invokestatic 75, 3) := by decide +kernel
theorem dX10_item_12 : decode cX10_item 12 = .ok (.ifCond .ne 5, 3) := by decide +kernel
theorem dX10_item_15 : decode cX10_item 15 = .ok (.iconst (-1), 1) := by decide +kernel
theorem dX10_item_16 : decode cX10_item 16 = .ok (.ireturn, 1) := by decide +kernel
theorem dX10_item_17 : decode cX10_item 17 = .ok (.aload_n 0, 1) := by decide +kernel
theorem dX10_item_18 : decode cX10_item 18 = .ok (.getfield 59, 3) := by decide +kernel
theorem dX10_item_21 : decode cX10_item 21 = .ok (.iload_n 1, 1) := by decide +kernel
theorem dX10_item_22 : decode cX10_item 22 = .ok (.aaload, 1) := by decide +kernel
theorem dX10_item_23 : decode cX10_item 23 = .ok (.astore 5, 2) := by decide +kernel
theorem dX10_item_25 : decode cX10_item 25 = .ok (.aload 5, 2) := by decide +kernel
theorem dX10_item_27 : decode cX10_item 27 = .ok (.iload_n 2, 1) := by decide +kernel
theorem dX10_item_28 : decode cX10_item 28 = .ok (.iload_n 3, 1) := by decide +kernel
theorem dX10_item_29 : decode cX10_item 29 = .ok (.iconst 1, 1) := by decide +kernel
theorem dX10_item_30 : decode cX10_item 30 = .ok (.invokevirtual 286, 3) := by decide +kernel
theorem dX10_item_33 : decode cX10_item 33 = .ok (.istore 6, 2) := by decide +kernel
theorem dX10_item_35 : decode cX10_item 35 = .ok (.iload 6, 2) := by decide +kernel
theorem dX10_item_37 : decode cX10_item 37 = .ok (.ifCond .eq 6, 3) := by decide +kernel
theorem dX10_item_40 : decode cX10_item 40 = .ok (.iload 6, 2) := by decide +kernel
theorem dX10_item_42 : decode cX10_item 42 = .ok (.ireturn, 1) := by decide +kernel
theorem dX10_item_43 : decode cX10_item 43 = .ok (.aload 5, 2) := by decide +kernel
theorem dX10_item_45 : decode cX10_item 45 = .ok (.getfield 289, 3) := by decide +kernel
theorem dX10_item_48 : decode cX10_item 48 = .ok (.iload_n 3, 1) := by decide +kernel
theorem dX10_item_49 : decode cX10_item 49 = .ok (.iload_n 2, 1) := by decide +kernel
theorem dX10_item_50 : decode cX10_item 50 = .ok (.iload 4, 2) := by decide +kernel
theorem dX10_item_52 : decode cX10_item 52 = .ok (.invokestatic 303, 3) := by decide +kernel
theorem dX10_item_55 : decode cX10_item 55 = .ok (.iastore, 1) := by decide +kernel
theorem dX10_item_56 : decode cX10_item 56 = .ok (.iconst 1, 1) := by decide +kernel
theorem dX10_item_57 : decode cX10_item 57 = .ok (.ireturn, 1) := by decide +kernel
theorem dX10_copy_0 : decode cX10_copy 0 = .ok (.iload_n 1, 1) := by decide +kernel
theorem dX10_copy_1 : decode cX10_copy 1 = .ok (.invokestatic 283, 3) := by decide +kernel
theorem dX10_copy_4 : decode cX10_copy 4 = .ok (.ifCond .eq 10, 3) := by decide +kernel
theorem dX10_copy_7 : decode cX10_copy 7 = .ok (.iload_n 3, 1) := by decide +kernel
theorem dX10_copy_8 : decode cX10_copy 8 = .ok (.invokestatic 283, 3) := by decide +kernel
theorem dX10_copy_11 : decode cX10_copy 11 = .ok (.ifCond .ne 5, 3) := by decide +kernel
theorem dX10_copy_14 : decode cX10_copy 14 = .ok (.iconst (-1), 1) := by decide +kernel
theorem dX10_copy_15 : decode cX10_copy 15 = .ok (.ireturn, 1) := by decide +kernel
theorem dX10_copy_16 : decode cX10_copy 16 = .ok (.aload_n 0, 1) := by decide +kernel
theorem dX10_copy_17 : decode cX10_copy 17 = .ok (.getfield 59, 3) := by decide +kernel
theorem dX10_copy_20 : decode cX10_copy 20 = .ok (.iload_n 1, 1) := by decide +kernel
theorem dX10_copy_21 : decode cX10_copy 21 = .ok (.aaload, 1) := by decide +kernel
theorem dX10_copy_22 : decode cX10_copy 22 = .ok (.astore 6, 2) := by decide +kernel
theorem dX10_copy_24 : decode cX10_copy 24 = .ok (.aload_n 0, 1) := by decide +kernel
theorem dX10_copy_25 : decode cX10_copy 25 = .ok (.getfield 59, 3) := by decide +kernel
theorem dX10_copy_28 : decode cX10_copy 28 = .ok (.iload_n 3, 1) := by decide +kernel
theorem dX10_copy_29 : decode cX10_copy 29 = .ok (.aaload, 1) := by decide +kernel
theorem dX10_copy_30 : decode cX10_copy 30 = .ok (.astore 7, 2) := by decide +kernel
theorem dX10_copy_32 : decode cX10_copy 32 = .ok (.aload 6, 2) := by decide +kernel
theorem dX10_copy_34 : decode cX10_copy 34 = .ok (.invokevirtual 296, 3) := by decide +kernel
theorem dX10_copy_37 : decode cX10_copy 37 = .ok (.ifCond .ne 11, 3) := by decide +kernel
theorem dX10_copy_40 : decode cX10_copy 40 = .ok (.aload 7, 2) := by decide +kernel
theorem dX10_copy_42 : decode cX10_copy 42 = .ok (.invokevirtual 296, 3) := by decide +kernel
theorem dX10_copy_45 : decode cX10_copy 45 = .ok (.ifCond .eq 6, 3) := by decide +kernel
theorem dX10_copy_48 : decode cX10_copy 48 = .ok (.bipush (-11), 2) := by decide +kernel
theorem dX10_copy_50 : decode cX10_copy 50 = .ok (.ireturn, 1) := by decide +kernel
theorem dX10_copy_51 : decode cX10_copy 51 = .ok (.aload 6, 2) := by decide +kernel
theorem dX10_copy_53 : decode cX10_copy 53 = .ok (.getfield 299, 3) := by decide +kernel
theorem dX10_copy_56 : decode cX10_copy 56 = .ok (.aload 7, 2) := by decide +kernel
theorem dX10_copy_58 : decode cX10_copy 58 = .ok (.getfield 299, 3) := by decide +kernel
theorem dX10_copy_61 : decode cX10_copy 61 = .ok (.if_icmp .eq 6, 3) := by decide +kernel
theorem dX10_copy_64 : decode cX10_copy 64 = .ok (.bipush (-12), 2) := by decide +kernel
theorem dX10_copy_66 : decode cX10_copy 66 = .ok (.ireturn, 1) := by decide +kernel
theorem dX10_copy_67 : decode cX10_copy 67 = .ok (.iload 5, 2) := by decide +kernel
theorem dX10_copy_69 : decode cX10_copy 69 = .ok (.ifCond .lt 26, 3) := by decide +kernel
theorem dX10_copy_72 : decode cX10_copy 72 = .ok (.aload 6, 2) := by decide +kernel
theorem dX10_copy_74 : decode cX10_copy 74 = .ok (.iload_n 2, 1) := by decide +kernel
theorem dX10_copy_75 : decode cX10_copy 75 = .ok (.iload 5, 2) := by decide +kernel
theorem dX10_copy_77 : decode cX10_copy 77 = .ok (.invokevirtual 306, 3) := by decide +kernel
theorem dX10_copy_80 : decode cX10_copy 80 = .ok (.ifCond .eq 15, 3) := by decide +kernel
theorem dX10_copy_83 : decode cX10_copy 83 = .ok (.aload 7, 2) := by decide +kernel
theorem dX10_copy_85 : decode cX10_copy 85 = .ok (.iload 4, 2) := by decide +kernel
theorem dX10_copy_87 : decode cX10_copy 87 = .ok (.iload 5, 2) := by decide +kernel
theorem dX10_copy_89 : decode cX10_copy 89 = .ok (.invokevirtual 306, 3) := by decide +kernel
theorem dX10_copy_92 : decode cX10_copy 92 = .ok (.ifCond .ne 6, 3) := by decide +kernel
theorem dX10_copy_95 : decode cX10_copy 95 = .ok (.bipush (-13), 2) := by decide +kernel
theorem dX10_copy_97 : decode cX10_copy 97 = .ok (.ireturn, 1) := by decide +kernel
theorem dX10_copy_98 : decode cX10_copy 98 = .ok (.aload 6, 2) := by decide +kernel
theorem dX10_copy_100 : decode cX10_copy 100 = .ok (.getfield 289, 3) := by decide +kernel
theorem dX10_copy_103 : decode cX10_copy 103 = .ok (.iload_n 2, 1) := by decide +kernel
theorem dX10_copy_104 : decode cX10_copy 104 = .ok (.aload 7, 2) := by decide +kernel
theorem dX10_copy_106 : decode cX10_copy 106 = .ok (.getfield 289, 3) := by decide +kernel
theorem dX10_copy_109 : decode cX10_copy 109 = .ok (.iload 4, 2) := by decide +kernel
theorem dX10_copy_111 : decode cX10_copy 111 = .ok (.iload 5, 2) := by decide +kernel
theorem dX10_copy_113 : decode cX10_copy 113 = .ok (.invokestatic 309, 3) := by decide +kernel
theorem dX10_copy_116 : decode cX10_copy 116 = .ok (.iload 5, 2) := by decide +kernel
theorem dX10_copy_118 : decode cX10_copy 118 = .ok (.ireturn, 1) := by decide +kernel
theorem dX10_reads_0 : decode cX10_reads 0 = .ok (.iload_n 1, 1) := by decide +kernel
theorem dX10_reads_1 : decode cX10_reads 1 = .ok (.invokestatic 283, 3) := by decide +kernel
theorem dX10_reads_4 : decode cX10_reads 4 = .ok (.ifCond .ne 5, 3) := by decide +kernel
theorem dX10_reads_7 : decode cX10_reads 7 = .ok (.iconst (-1), 1) := by decide +kernel
theorem dX10_reads_8 : decode cX10_reads 8 = .ok (.ireturn, 1) := by decide +kernel
theorem dX10_reads_9 : decode cX10_reads 9 = .ok (.aload_n 0, 1) := by decide +kernel
theorem dX10_reads_10 : decode cX10_reads 10 = .ok (.getfield 59, 3) := by decide +kernel
theorem dX10_reads_13 : decode cX10_reads 13 = .ok (.iload_n 1, 1) := by decide +kernel
theorem dX10_reads_14 : decode cX10_reads 14 = .ok (.aaload, 1) := by decide +kernel
theorem dX10_reads_15 : decode cX10_reads 15 = .ok (.astore_n 3, 1) := by decide +kernel
theorem dX10_reads_16 : decode cX10_reads 16 = .ok (.aload_n 3, 1) := by decide +kernel
theorem dX10_reads_17 : decode cX10_reads 17 = .ok (.iconst 0, 1) := by decide +kernel
theorem dX10_reads_18 : decode cX10_reads 18 = .ok (.iload_n 2, 1) := by decide +kernel
theorem dX10_reads_19 : decode cX10_reads 19 = .ok (.aload_n 0, 1) := by decide +kernel
theorem dX10_reads_20 : decode cX10_reads 20 = .ok (.getfield 10, 3) := by decide +kernel
theorem dX10_reads_23 : decode cX10_reads 23 = .ok (.getfield 82, 3) := by decide +kernel
theorem dX10_reads_26 : decode cX10_reads 26 = .ok (.invokevirtual 286, 3) := by decide +kernel
theorem dX10_reads_29 : decode cX10_reads 29 = .ok (.istore 4, 2) := by decide +kernel
theorem dX10_reads_31 : decode cX10_reads 31 = .ok (.iload 4, 2) := by decide +kernel
theorem dX10_reads_33 : decode cX10_reads 33 = .ok (.ifCond .eq 6, 3) := by decide +kernel
theorem dX10_reads_36 : decode cX10_reads 36 = .ok (.iload 4, 2) := by decide +kernel
theorem dX10_reads_38 : decode cX10_reads 38 = .ok (.ireturn, 1) := by decide +kernel
theorem dX10_reads_39 : decode cX10_reads 39 = .ok (.iconst 0, 1) := by decide +kernel
theorem dX10_reads_40 : decode cX10_reads 40 = .ok (.istore 5, 2) := by decide +kernel
theorem dX10_reads_42 : decode cX10_reads 42 = .ok (.iconst 0, 1) := by decide +kernel
theorem dX10_reads_43 : decode cX10_reads 43 = .ok (.istore 6, 2) := by decide +kernel
theorem dX10_reads_45 : decode cX10_reads 45 = .ok (.iload 6, 2) := by decide +kernel
theorem dX10_reads_47 : decode cX10_reads 47 = .ok (.aload_n 0, 1) := by decide +kernel
theorem dX10_reads_48 : decode cX10_reads 48 = .ok (.getfield 10, 3) := by decide +kernel
theorem dX10_reads_51 : decode cX10_reads 51 = .ok (.getfield 82, 3) := by decide +kernel
theorem dX10_reads_54 : decode cX10_reads 54 = .ok (.if_icmp .ge 44, 3) := by decide +kernel
theorem dX10_reads_57 : decode cX10_reads 57 = .ok (.aload_n 0, 1) := by decide +kernel
theorem dX10_reads_58 : decode cX10_reads 58 = .ok (.getfield 10, 3) := by decide +kernel
theorem dX10_reads_61 : decode cX10_reads 61 = .ok (.getfield 94, 3) := by decide +kernel
theorem dX10_reads_64 : decode cX10_reads 64 = .ok (.iconst 2, 1) := by decide +kernel
theorem dX10_reads_65 : decode cX10_reads 65 = .ok (.aaload, 1) := by decide +kernel
theorem dX10_reads_66 : decode cX10_reads 66 = .ok (.iload 6, 2) := by decide +kernel
theorem dX10_reads_68 : decode cX10_reads 68 = .ok (.aload_n 3, 1) := by decide +kernel
theorem dX10_reads_69 : decode cX10_reads 69 = .ok (.getfield 289, 3) := by decide +kernel
theorem dX10_reads_72 : decode cX10_reads 72 = .ok (.iload_n 2, 1) := by decide +kernel
theorem dX10_reads_73 : decode cX10_reads 73 = .ok (.iload 6, 2) := by decide +kernel
theorem dX10_reads_75 : decode cX10_reads 75 = .ok (.iadd, 1) := by decide +kernel
theorem dX10_reads_76 : decode cX10_reads 76 = .ok (.iaload, 1) := by decide +kernel
theorem dX10_reads_77 : decode cX10_reads 77 = .ok (.iastore, 1) := by decide +kernel
theorem dX10_reads_78 : decode cX10_reads 78 = .ok (.iload 5, 2) := by decide +kernel
theorem dX10_reads_80 : decode cX10_reads 80 = .ok (.aload_n 3, 1) := by decide +kernel
theorem dX10_reads_81 : decode cX10_reads 81 = .ok (.getfield 289, 3) := by decide +kernel
theorem dX10_reads_84 : decode cX10_reads 84 = .ok (.iload_n 2, 1) := by decide +kernel
theorem dX10_reads_85 : decode cX10_reads 85 = .ok (.iload 6, 2) := by decide +kernel
theorem dX10_reads_87 : decode cX10_reads 87 = .ok (.iadd, 1) := by decide +kernel
theorem dX10_reads_88 : decode cX10_reads 88 = .ok (.iaload, 1) := by decide +kernel
theorem dX10_reads_89 : decode cX10_reads 89 = .ok (.iadd, 1) := by decide +kernel
theorem dX10_reads_90 : decode cX10_reads 90 = .ok (.istore 5, 2) := by decide +kernel
theorem dX10_reads_92 : decode cX10_reads 92 = .ok (.iinc 6 1, 3) := by decide +kernel
theorem dX10_reads_95 : decode cX10_reads 95 = .ok (.goto (-50), 3) := by decide +kernel
theorem dX10_reads_98 : decode cX10_reads 98 = .ok (.iload 5, 2) := by decide +kernel
theorem dX10_reads_100 : decode cX10_reads 100 = .ok (.ireturn, 1) := by decide +kernel
theorem dX10_within_0 : decode cX10_within 0 = .ok (.iload_n 0, 1) := by decide +kernel
theorem dX10_within_1 : decode cX10_within 1 = .ok (.ifCond .lt 12, 3) := by decide +kernel
theorem dX10_within_4 : decode cX10_within 4 = .ok (.iload_n 0, 1) := by decide +kernel
theorem dX10_within_5 : decode cX10_within 5 = .ok (.iload_n 1, 1) := by decide +kernel
theorem dX10_within_6 : decode cX10_within 6 = .ok (.if_icmp .gt 7, 3) := by decide +kernel
theorem dX10_within_9 : decode cX10_within 9 = .ok (.iconst 1, 1) := by decide +kernel
theorem dX10_within_10 : decode cX10_within 10 = .ok (.goto 4, 3) := by decide +kernel
theorem dX10_within_13 : decode cX10_within 13 = .ok (.iconst 0, 1) := by decide +kernel
theorem dX10_within_14 : decode cX10_within 14 = .ok (.ireturn, 1) := by decide +kernel
theorem dX10_has_0 : decode cX10_has 0 = .ok (.iload_n 0, 1) := by decide +kernel
theorem dX10_has_1 : decode cX10_has 1 = .ok (.iload_n 1, 1) := by decide +kernel
theorem dX10_has_2 : decode cX10_has 2 = .ok (.ishr, 1) := by decide +kernel
theorem dX10_has_3 : decode cX10_has 3 = .ok (.iconst 1, 1) := by decide +kernel
theorem dX10_has_4 : decode cX10_has 4 = .ok (.iand, 1) := by decide +kernel
theorem dX10_has_5 : decode cX10_has 5 = .ok (.iconst 1, 1) := by decide +kernel
theorem dX10_has_6 : decode cX10_has 6 = .ok (.if_icmp .ne 7, 3) := by decide +kernel
theorem dX10_has_9 : decode cX10_has 9 = .ok (.iconst 1, 1) := by decide +kernel
theorem dX10_has_10 : decode cX10_has 10 = .ok (.goto 4, 3) := by decide +kernel
theorem dX10_has_13 : decode cX10_has 13 = .ok (.iconst 0, 1) := by decide +kernel
theorem dX10_has_14 : decode cX10_has 14 = .ok (.ireturn, 1) := by decide +kernel
theorem dX10_byteOf_0 : decode cX10_byteOf 0 = .ok (.lload_n 0, 1) := by decide +kernel
theorem dX10_byteOf_1 : decode cX10_byteOf 1 = .ok (.bipush 8, 2) := by decide +kernel
theorem dX10_byteOf_3 : decode cX10_byteOf 3 = .ok (.iload_n 2, 1) := by decide +kernel
theorem dX10_byteOf_4 : decode cX10_byteOf 4 = .ok (.imul, 1) := by decide +kernel
theorem dX10_byteOf_5 : decode cX10_byteOf 5 = .ok (.lushr, 1) := by decide +kernel
theorem dX10_byteOf_6 : decode cX10_byteOf 6 = .ok (.l2i, 1) := by decide +kernel
theorem dX10_byteOf_7 : decode cX10_byteOf 7 = .ok (.sipush 255, 3) := by decide +kernel
theorem dX10_byteOf_10 : decode cX10_byteOf 10 = .ok (.iand, 1) := by decide +kernel
theorem dX10_byteOf_11 : decode cX10_byteOf 11 = .ok (.ireturn, 1) := by decide +kernel
theorem dX10_areParts_0 : decode cX10_areParts 0 = .ok (.iload_n 0, 1) := by decide +kernel
theorem dX10_areParts_1 : decode cX10_areParts 1 = .ok (.bipush 9, 2) := by decide +kernel
theorem dX10_areParts_3 : decode cX10_areParts 3 = .ok (.invokestatic 75, 3) := by decide +kernel
theorem dX10_areParts_6 : decode cX10_areParts 6 = .ok (.ifCond .eq 34, 3) := by decide +kernel
theorem dX10_areParts_9 : decode cX10_areParts 9 = .ok (.iload_n 1, 1) := by decide +kernel
theorem dX10_areParts_10 : decode cX10_areParts 10 = .ok (.bipush 9, 2) := by decide +kernel
theorem dX10_areParts_12 : decode cX10_areParts 12 = .ok (.invokestatic 75, 3) := by decide +kernel
theorem dX10_areParts_15 : decode cX10_areParts 15 = .ok (.ifCond .eq 25, 3) := by decide +kernel
theorem dX10_areParts_18 : decode cX10_areParts 18 = .ok (.iload_n 2, 1) := by decide +kernel
theorem dX10_areParts_19 : decode cX10_areParts 19 = .ok (.bipush 9, 2) := by decide +kernel
theorem dX10_areParts_21 : decode cX10_areParts 21 = .ok (.invokestatic 75, 3) := by decide +kernel
theorem dX10_areParts_24 : decode cX10_areParts 24 = .ok (.ifCond .eq 16, 3) := by decide +kernel
theorem dX10_areParts_27 : decode cX10_areParts 27 = .ok (.iload_n 3, 1) := by decide +kernel
theorem dX10_areParts_28 : decode cX10_areParts 28 = .ok (.bipush 9, 2) := by decide +kernel
theorem dX10_areParts_30 : decode cX10_areParts 30 = .ok (.invokestatic 75, 3) := by decide +kernel
theorem dX10_areParts_33 : decode cX10_areParts 33 = .ok (.ifCond .eq 7, 3) := by decide +kernel
theorem dX10_areParts_36 : decode cX10_areParts 36 = .ok (.iconst 1, 1) := by decide +kernel
theorem dX10_areParts_37 : decode cX10_areParts 37 = .ok (.goto 4, 3) := by decide +kernel
theorem dX10_areParts_40 : decode cX10_areParts 40 = .ok (.iconst 0, 1) := by decide +kernel
theorem dX10_areParts_41 : decode cX10_areParts 41 = .ok (.ireturn, 1) := by decide +kernel
theorem dX10_isSheet_0 : decode cX10_isSheet 0 = .ok (.iload_n 0, 1) := by decide +kernel
theorem dX10_isSheet_1 : decode cX10_isSheet 1 = .ok (.iconst 3, 1) := by decide +kernel
theorem dX10_isSheet_2 : decode cX10_isSheet 2 = .ok (.invokestatic 75, 3) := by decide +kernel
theorem dX10_isSheet_5 : decode cX10_isSheet 5 = .ok (.ireturn, 1) := by decide +kernel
theorem dX10_isPerson_0 : decode cX10_isPerson 0 = .ok (.iload_n 1, 1) := by decide +kernel
theorem dX10_isPerson_1 : decode cX10_isPerson 1 = .ok (.aload_n 0, 1) := by decide +kernel
theorem dX10_isPerson_2 : decode cX10_isPerson 2 = .ok (.getfield 10, 3) := by decide +kernel
theorem dX10_isPerson_5 : decode cX10_isPerson 5 = .ok (.getfield 82, 3) := by decide +kernel
theorem dX10_isPerson_8 : decode cX10_isPerson 8 = .ok (.iconst 1, 1) := by decide +kernel
theorem dX10_isPerson_9 : decode cX10_isPerson 9 = .ok (.isub, 1) := by decide +kernel
theorem dX10_isPerson_10 : decode cX10_isPerson 10 = .ok (.invokestatic 75, 3) := by decide +kernel
theorem dX10_isPerson_13 : decode cX10_isPerson 13 = .ok (.ireturn, 1) := by decide +kernel
theorem dX10_isSaying_0 : decode cX10_isSaying 0 = .ok (.iload_n 1, 1) := by decide +kernel
theorem dX10_isSaying_1 : decode cX10_isSaying 1 = .ok (.aload_n 0, 1) := by decide +kernel
theorem dX10_isSaying_2 : decode cX10_isSaying 2 = .ok (.getfield 174, 3) := by decide +kernel
theorem dX10_isSaying_5 : decode cX10_isSaying 5 = .ok (.iconst 1, 1) := by decide +kernel
theorem dX10_isSaying_6 : decode cX10_isSaying 6 = .ok (.isub, 1) := by decide +kernel
theorem dX10_isSaying_7 : decode cX10_isSaying 7 = .ok (.invokestatic 75, 3) := by decide +kernel
theorem dX10_isSaying_10 : decode cX10_isSaying 10 = .ok (.ireturn, 1) := by decide +kernel
theorem dX10_comeUp_0 : decode cX10_comeUp 0 = .ok (.aload_n 0, 1) := by decide +kernel
theorem dX10_comeUp_1 : decode cX10_comeUp 1 = .ok (.getfield 174, 3) := by decide +kernel
theorem dX10_comeUp_4 : decode cX10_comeUp 4 = .ok (.bipush 8, 2) := by decide +kernel
theorem dX10_comeUp_6 : decode cX10_comeUp 6 = .ok (.if_icmp .lt 6, 3) := by decide +kernel
theorem dX10_comeUp_9 : decode cX10_comeUp 9 = .ok (.bipush (-3), 2) := by decide +kernel
theorem dX10_comeUp_11 : decode cX10_comeUp 11 = .ok (.ireturn, 1) := by decide +kernel
theorem dX10_comeUp_12 : decode cX10_comeUp 12 = .ok (.aload_n 0, 1) := by decide +kernel
theorem dX10_comeUp_13 : decode cX10_comeUp 13 = .ok (.getfield 18, 3) := by decide +kernel
theorem dX10_comeUp_16 : decode cX10_comeUp 16 = .ok (.aload_n 0, 1) := by decide +kernel
theorem dX10_comeUp_17 : decode cX10_comeUp 17 = .ok (.getfield 174, 3) := by decide +kernel
theorem dX10_comeUp_20 : decode cX10_comeUp 20 = .ok (.aaload, 1) := by decide +kernel
theorem dX10_comeUp_21 : decode cX10_comeUp 21 = .ok (.astore_n 3, 1) := by decide +kernel
theorem dX10_comeUp_22 : decode cX10_comeUp 22 = .ok (.aload_n 3, 1) := by decide +kernel
theorem dX10_comeUp_23 : decode cX10_comeUp 23 = .ok (.iload_n 1, 1) := by decide +kernel
theorem dX10_comeUp_24 : decode cX10_comeUp 24 = .ok (.putfield 139, 3) := by decide +kernel
theorem dX10_comeUp_27 : decode cX10_comeUp 27 = .ok (.aload_n 3, 1) := by decide +kernel
theorem dX10_comeUp_28 : decode cX10_comeUp 28 = .ok (.iload_n 2, 1) := by decide +kernel
theorem dX10_comeUp_29 : decode cX10_comeUp 29 = .ok (.putfield 119, 3) := by decide +kernel
theorem dX10_comeUp_32 : decode cX10_comeUp 32 = .ok (.aload_n 0, 1) := by decide +kernel
theorem dX10_comeUp_33 : decode cX10_comeUp 33 = .ok (.dup, 1) := by decide +kernel
theorem dX10_comeUp_34 : decode cX10_comeUp 34 = .ok (.getfield 174, 3) := by decide +kernel
theorem dX10_comeUp_37 : decode cX10_comeUp 37 = .ok (.iconst 1, 1) := by decide +kernel
theorem dX10_comeUp_38 : decode cX10_comeUp 38 = .ok (.iadd, 1) := by decide +kernel
theorem dX10_comeUp_39 : decode cX10_comeUp 39 = .ok (.putfield 174, 3) := by decide +kernel
theorem dX10_comeUp_42 : decode cX10_comeUp 42 = .ok (.aload_n 0, 1) := by decide +kernel
theorem dX10_comeUp_43 : decode cX10_comeUp 43 = .ok (.getfield 174, 3) := by decide +kernel
theorem dX10_comeUp_46 : decode cX10_comeUp 46 = .ok (.iconst 1, 1) := by decide +kernel
theorem dX10_comeUp_47 : decode cX10_comeUp 47 = .ok (.isub, 1) := by decide +kernel
theorem dX10_comeUp_48 : decode cX10_comeUp 48 = .ok (.ireturn, 1) := by decide +kernel
theorem dX10_harmAhead_0 : decode cX10_harmAhead 0 = .ok (.aload_n 0, 1) := by decide +kernel
theorem dX10_harmAhead_1 : decode cX10_harmAhead 1 = .ok (.getfield 18, 3) := by decide +kernel
theorem dX10_harmAhead_4 : decode cX10_harmAhead 4 = .ok (.iload_n 1, 1) := by decide +kernel
theorem dX10_harmAhead_5 : decode cX10_harmAhead 5 = .ok (.aaload, 1) := by decide +kernel
theorem dX10_harmAhead_6 : decode cX10_harmAhead 6 = .ok (.astore 4, 2) := by decide +kernel
theorem dX10_harmAhead_8 : decode cX10_harmAhead 8 = .ok (.aload 4, 2) := by decide +kernel
theorem dX10_harmAhead_10 : decode cX10_harmAhead 10 = .ok (.getfield 139, 3) := by decide +kernel
theorem dX10_harmAhead_13 : decode cX10_harmAhead 13 = .ok (.iconst 3, 1) := by decide +kernel
theorem dX10_harmAhead_14 : decode cX10_harmAhead 14 = .ok (.if_icmp .ne 5, 3) := by decide +kernel
theorem dX10_harmAhead_17 : decode cX10_harmAhead 17 = .ok (.iconst 0, 1) := by decide +kernel
theorem dX10_harmAhead_18 : decode cX10_harmAhead 18 = .ok (.ireturn, 1) := by decide +kernel
theorem dX10_harmAhead_19 : decode cX10_harmAhead 19 = .ok (.aload_n 0, 1) := by decide +kernel
theorem dX10_harmAhead_20 : decode cX10_harmAhead 20 = .ok (.getfield 25, 3) := by decide +kernel
theorem dX10_harmAhead_23 : decode cX10_harmAhead 23 = .ok (.aload 4, 2) := by decide +kernel
theorem dX10_harmAhead_25 : decode cX10_harmAhead 25 = .ok (.getfield 152, 3) := by decide +kernel
theorem dX10_harmAhead_28 : decode cX10_harmAhead 28 = .ok (.invokevirtual 263, 3) := by decide +kernel
theorem dX10_harmAhead_31 : decode cX10_harmAhead 31 = .ok (.iload_n 2, 1) := by decide +kernel
theorem dX10_harmAhead_32 : decode cX10_harmAhead 32 = .ok (.iconst 3, 1) := by decide +kernel
theorem dX10_harmAhead_33 : decode cX10_harmAhead 33 = .ok (.if_icmp .eq 25, 3) := by decide +kernel
theorem dX10_harmAhead_36 : decode cX10_harmAhead 36 = .ok (.aload_n 0, 1) := by decide +kernel
theorem dX10_harmAhead_37 : decode cX10_harmAhead 37 = .ok (.getfield 10, 3) := by decide +kernel
theorem dX10_harmAhead_40 : decode cX10_harmAhead 40 = .ok (.aload_n 0, 1) := by decide +kernel
theorem dX10_harmAhead_41 : decode cX10_harmAhead 41 = .ok (.getfield 25, 3) := by decide +kernel
theorem dX10_harmAhead_44 : decode cX10_harmAhead 44 = .ok (.aload 4, 2) := by decide +kernel
theorem dX10_harmAhead_46 : decode cX10_harmAhead 46 = .ok (.getfield 119, 3) := by decide +kernel
theorem dX10_harmAhead_49 : decode cX10_harmAhead 49 = .ok (.iload_n 2, 1) := by decide +kernel
theorem dX10_harmAhead_50 : decode cX10_harmAhead 50 = .ok (.aload_n 0, 1) := by decide +kernel
theorem dX10_harmAhead_51 : decode cX10_harmAhead 51 = .ok (.getfield 149, 3) := by decide +kernel
theorem dX10_harmAhead_54 : decode cX10_harmAhead 54 = .ok (.invokevirtual 193, 3) := by decide +kernel
theorem dX10_harmAhead_57 : decode cX10_harmAhead 57 = .ok (.pop, 1) := by decide +kernel
theorem dX10_harmAhead_58 : decode cX10_harmAhead 58 = .ok (.aload_n 0, 1) := by decide +kernel
theorem dX10_harmAhead_59 : decode cX10_harmAhead 59 = .ok (.getfield 10, 3) := by decide +kernel
theorem dX10_harmAhead_62 : decode cX10_harmAhead 62 = .ok (.aload_n 0, 1) := by decide +kernel
theorem dX10_harmAhead_63 : decode cX10_harmAhead 63 = .ok (.getfield 25, 3) := by decide +kernel
theorem dX10_harmAhead_66 : decode cX10_harmAhead 66 = .ok (.aload_n 0, 1) := by decide +kernel
theorem dX10_harmAhead_67 : decode cX10_harmAhead 67 = .ok (.getfield 149, 3) := by decide +kernel
theorem dX10_harmAhead_70 : decode cX10_harmAhead 70 = .ok (.iload_n 3, 1) := by decide +kernel
theorem dX10_harmAhead_71 : decode cX10_harmAhead 71 = .ok (.invokevirtual 181, 3) := by decide +kernel
theorem dX10_harmAhead_74 : decode cX10_harmAhead 74 = .ok (.aload_n 0, 1) := by decide +kernel
theorem dX10_harmAhead_75 : decode cX10_harmAhead 75 = .ok (.getfield 10, 3) := by decide +kernel
theorem dX10_harmAhead_78 : decode cX10_harmAhead 78 = .ok (.aload_n 0, 1) := by decide +kernel
theorem dX10_harmAhead_79 : decode cX10_harmAhead 79 = .ok (.getfield 25, 3) := by decide +kernel
theorem dX10_harmAhead_82 : decode cX10_harmAhead 82 = .ok (.invokevirtual 185, 3) := by decide +kernel
theorem dX10_harmAhead_85 : decode cX10_harmAhead 85 = .ok (.ireturn, 1) := by decide +kernel
theorem dX10_agreesAtSomeHour_0 : decode cX10_agreesAtSomeHour 0 = .ok (.iconst 0, 1) := by decide +kernel
theorem dX10_agreesAtSomeHour_1 : decode cX10_agreesAtSomeHour 1 = .ok (.istore_n 3, 1) := by decide +kernel
theorem dX10_agreesAtSomeHour_2 : decode cX10_agreesAtSomeHour 2 = .ok (.iload_n 3, 1) := by decide +kernel
theorem dX10_agreesAtSomeHour_3 : decode cX10_agreesAtSomeHour 3 = .ok (.bipush 24, 2) := by decide +kernel
theorem dX10_agreesAtSomeHour_5 : decode cX10_agreesAtSomeHour 5 = .ok (.if_icmp .ge 21, 3) := by decide +kernel
theorem dX10_agreesAtSomeHour_8 : decode cX10_agreesAtSomeHour 8 = .ok (.aload_n 0, 1) := by decide +kernel
theorem dX10_agreesAtSomeHour_9 : decode cX10_agreesAtSomeHour 9 = .ok (.iload_n 1, 1) := by decide +kernel
theorem dX10_agreesAtSomeHour_10 : decode cX10_agreesAtSomeHour 10 = .ok (.iload_n 2, 1) := by decide +kernel
theorem dX10_agreesAtSomeHour_11 : decode cX10_agreesAtSomeHour 11 = .ok (.iload_n 3, 1) := by decide +kernel
theorem dX10_agreesAtSomeHour_12 : decode cX10_agreesAtSomeHour 12 = .ok (.invokevirtual 256, 3) := by decide +kernel
theorem dX10_agreesAtSomeHour_15 : decode cX10_agreesAtSomeHour 15 = .ok (.ifCond .eq 5, 3) := by decide +kernel
theorem dX10_agreesAtSomeHour_18 : decode cX10_agreesAtSomeHour 18 = .ok (.iconst 1, 1) := by decide +kernel
theorem dX10_agreesAtSomeHour_19 : decode cX10_agreesAtSomeHour 19 = .ok (.ireturn, 1) := by decide +kernel
theorem dX10_agreesAtSomeHour_20 : decode cX10_agreesAtSomeHour 20 = .ok (.iinc 3 1, 3) := by decide +kernel
theorem dX10_agreesAtSomeHour_23 : decode cX10_agreesAtSomeHour 23 = .ok (.goto (-21), 3) := by decide +kernel
theorem dX10_agreesAtSomeHour_26 : decode cX10_agreesAtSomeHour 26 = .ok (.iconst 0, 1) := by decide +kernel
theorem dX10_agreesAtSomeHour_27 : decode cX10_agreesAtSomeHour 27 = .ok (.ireturn, 1) := by decide +kernel
theorem dX10_agrees_0 : decode cX10_agrees 0 = .ok (.iconst 0, 1) := by decide +kernel
theorem dX10_agrees_1 : decode cX10_agrees 1 = .ok (.istore 4, 2) := by decide +kernel
theorem dX10_agrees_3 : decode cX10_agrees 3 = .ok (.iload 4, 2) := by decide +kernel
theorem dX10_agrees_5 : decode cX10_agrees 5 = .ok (.iload_n 3, 1) := by decide +kernel
theorem dX10_agrees_6 : decode cX10_agrees 6 = .ok (.if_icmp .ge 24, 3) := by decide +kernel
theorem dX10_agrees_9 : decode cX10_agrees 9 = .ok (.aload_n 0, 1) := by decide +kernel
theorem dX10_agrees_10 : decode cX10_agrees 10 = .ok (.getfield 46, 3) := by decide +kernel
theorem dX10_agrees_13 : decode cX10_agrees 13 = .ok (.iload 4, 2) := by decide +kernel
theorem dX10_agrees_15 : decode cX10_agrees 15 = .ok (.iconst 0, 1) := by decide +kernel
theorem dX10_agrees_16 : decode cX10_agrees 16 = .ok (.invokevirtual 315, 3) := by decide +kernel
theorem dX10_agrees_19 : decode cX10_agrees 19 = .ok (.ifCond .ne 5, 3) := by decide +kernel
theorem dX10_agrees_22 : decode cX10_agrees 22 = .ok (.iconst 0, 1) := by decide +kernel
theorem dX10_agrees_23 : decode cX10_agrees 23 = .ok (.ireturn, 1) := by decide +kernel
theorem dX10_agrees_24 : decode cX10_agrees 24 = .ok (.iinc 4 1, 3) := by decide +kernel
theorem dX10_agrees_27 : decode cX10_agrees 27 = .ok (.goto (-24), 3) := by decide +kernel
theorem dX10_agrees_30 : decode cX10_agrees 30 = .ok (.aload_n 0, 1) := by decide +kernel
theorem dX10_agrees_31 : decode cX10_agrees 31 = .ok (.getfield 25, 3) := by decide +kernel
theorem dX10_agrees_34 : decode cX10_agrees 34 = .ok (.invokevirtual 318, 3) := by decide +kernel
theorem dX10_agrees_37 : decode cX10_agrees 37 = .ok (.aload_n 0, 1) := by decide +kernel
theorem dX10_agrees_38 : decode cX10_agrees 38 = .ok (.getfield 25, 3) := by decide +kernel
theorem dX10_agrees_41 : decode cX10_agrees 41 = .ok (.iload_n 2, 1) := by decide +kernel
theorem dX10_agrees_42 : decode cX10_agrees 42 = .ok (.iload_n 1, 1) := by decide +kernel
theorem dX10_agrees_43 : decode cX10_agrees 43 = .ok (.iload_n 3, 1) := by decide +kernel
theorem dX10_agrees_44 : decode cX10_agrees 44 = .ok (.invokevirtual 158, 3) := by decide +kernel
theorem dX10_agrees_47 : decode cX10_agrees 47 = .ok (.iload_n 3, 1) := by decide +kernel
theorem dX10_agrees_48 : decode cX10_agrees 48 = .ok (.istore 4, 2) := by decide +kernel
theorem dX10_agrees_50 : decode cX10_agrees 50 = .ok (.iload 4, 2) := by decide +kernel
theorem dX10_agrees_52 : decode cX10_agrees 52 = .ok (.aload_n 0, 1) := by decide +kernel
theorem dX10_agrees_53 : decode cX10_agrees 53 = .ok (.getfield 46, 3) := by decide +kernel
theorem dX10_agrees_56 : decode cX10_agrees 56 = .ok (.getfield 321, 3) := by decide +kernel
theorem dX10_agrees_59 : decode cX10_agrees 59 = .ok (.if_icmp .gt 36, 3) := by decide +kernel
theorem dX10_agrees_62 : decode cX10_agrees 62 = .ok (.aload_n 0, 1) := by decide +kernel
theorem dX10_agrees_63 : decode cX10_agrees 63 = .ok (.getfield 46, 3) := by decide +kernel
theorem dX10_agrees_66 : decode cX10_agrees 66 = .ok (.iload 4, 2) := by decide +kernel
theorem dX10_agrees_68 : decode cX10_agrees 68 = .ok (.aload_n 0, 1) := by decide +kernel
theorem dX10_agrees_69 : decode cX10_agrees 69 = .ok (.getfield 10, 3) := by decide +kernel
theorem dX10_agrees_72 : decode cX10_agrees 72 = .ok (.aload_n 0, 1) := by decide +kernel
theorem dX10_agrees_73 : decode cX10_agrees 73 = .ok (.getfield 25, 3) := by decide +kernel
theorem dX10_agrees_76 : decode cX10_agrees 76 = .ok (.iload 4, 2) := by decide +kernel
theorem dX10_agrees_78 : decode cX10_agrees 78 = .ok (.invokevirtual 270, 3) := by decide +kernel
theorem dX10_agrees_81 : decode cX10_agrees 81 = .ok (.invokevirtual 315, 3) := by decide +kernel
theorem dX10_agrees_84 : decode cX10_agrees 84 = .ok (.ifCond .ne 5, 3) := by decide +kernel
theorem dX10_agrees_87 : decode cX10_agrees 87 = .ok (.iconst 0, 1) := by decide +kernel
theorem dX10_agrees_88 : decode cX10_agrees 88 = .ok (.ireturn, 1) := by decide +kernel
theorem dX10_agrees_89 : decode cX10_agrees 89 = .ok (.iinc 4 1, 3) := by decide +kernel
theorem dX10_agrees_92 : decode cX10_agrees 92 = .ok (.goto (-42), 3) := by decide +kernel
theorem dX10_agrees_95 : decode cX10_agrees 95 = .ok (.iconst 1, 1) := by decide +kernel
theorem dX10_agrees_96 : decode cX10_agrees 96 = .ok (.ireturn, 1) := by decide +kernel
theorem dX11_in_0 : decode cX11_in 0 = .ok (.lload_n 0, 1) := by decide +kernel
theorem dX11_in_1 : decode cX11_in 1 = .ok (.lload_n 2, 1) := by decide +kernel
theorem dX11_in_2 : decode cX11_in 2 = .ok (.lcmp, 1) := by decide +kernel
theorem dX11_in_3 : decode cX11_in 3 = .ok (.ifCond .lt 14, 3) := by decide +kernel
theorem dX11_in_6 : decode cX11_in 6 = .ok (.lload_n 0, 1) := by decide +kernel
theorem dX11_in_7 : decode cX11_in 7 = .ok (.lload 4, 2) := by decide +kernel
theorem dX11_in_9 : decode cX11_in 9 = .ok (.lcmp, 1) := by decide +kernel
theorem dX11_in_10 : decode cX11_in 10 = .ok (.ifCond .gt 7, 3) := by decide +kernel
theorem dX11_in_13 : decode cX11_in 13 = .ok (.iconst 1, 1) := by decide +kernel
theorem dX11_in_14 : decode cX11_in 14 = .ok (.goto 4, 3) := by decide +kernel
theorem dX11_in_17 : decode cX11_in 17 = .ok (.iconst 0, 1) := by decide +kernel
theorem dX11_in_18 : decode cX11_in 18 = .ok (.ireturn, 1) := by decide +kernel
theorem dX11_init_0 : decode cX11_init 0 = .ok (.aload_n 0, 1) := by decide +kernel
theorem dX11_init_1 : decode cX11_init 1 = .ok (.invokespecial 1, 3) := by decide +kernel
theorem dX11_init_4 : decode cX11_init 4 = .ok (.aload_n 0, 1) := by decide +kernel
theorem dX11_init_5 : decode cX11_init 5 = .ok (.bipush 48, 2) := by decide +kernel
theorem dX11_init_7 : decode cX11_init 7 = .ok (.newarray .int, 2) := by decide +kernel
theorem dX11_init_9 : decode cX11_init 9 = .ok (.putfield 7, 3) := by decide +kernel
theorem dX11_init_12 : decode cX11_init 12 = .ok (.aload_n 0, 1) := by decide +kernel
theorem dX11_init_13 : decode cX11_init 13 = .ok (.bipush 80, 2) := by decide +kernel
theorem dX11_init_15 : decode cX11_init 15 = .ok (.newarray .int, 2) := by decide +kernel
theorem dX11_init_17 : decode cX11_init 17 = .ok (.putfield 13, 3) := by decide +kernel
theorem dX11_init_20 : decode cX11_init 20 = .ok (.aload_n 0, 1) := by decide +kernel
theorem dX11_init_21 : decode cX11_init 21 = .ok (.bipush 8, 2) := by decide +kernel
theorem dX11_init_23 : decode cX11_init 23 = .ok (.newarray .int, 2) := by decide +kernel
theorem dX11_init_25 : decode cX11_init 25 = .ok (.putfield 16, 3) := by decide +kernel
theorem dX11_init_28 : decode cX11_init 28 = .ok (.aload_n 0, 1) := by decide +kernel
theorem dX11_init_29 : decode cX11_init 29 = .ok (.bipush 8, 2) := by decide +kernel
theorem dX11_init_31 : decode cX11_init 31 = .ok (.newarray .int, 2) := by decide +kernel
theorem dX11_init_33 : decode cX11_init 33 = .ok (.putfield 19, 3) := by decide +kernel
theorem dX11_init_36 : decode cX11_init 36 = .ok (.aload_n 0, 1) := by decide +kernel
theorem dX11_init_37 : decode cX11_init 37 = .ok (.bipush 8, 2) := by decide +kernel
theorem dX11_init_39 : decode cX11_init 39 = .ok (.newarray .int, 2) := by decide +kernel
theorem dX11_init_41 : decode cX11_init 41 = .ok (.putfield 22, 3) := by decide +kernel
theorem dX11_init_44 : decode cX11_init 44 = .ok (.aload_n 0, 1) := by decide +kernel
theorem dX11_init_45 : decode cX11_init 45 = .ok (.bipush 8, 2) := by decide +kernel
theorem dX11_init_47 : decode cX11_init 47 = .ok (.newarray .int, 2) := by decide +kernel
theorem dX11_init_49 : decode cX11_init 49 = .ok (.putfield 25, 3) := by decide +kernel
theorem dX11_init_52 : decode cX11_init 52 = .ok (.aload_n 0, 1) := by decide +kernel
theorem dX11_init_53 : decode cX11_init 53 = .ok (.bipush 8, 2) := by decide +kernel
theorem dX11_init_55 : decode cX11_init 55 = .ok (.newarray .boolean, 2) := by decide +kernel
theorem dX11_init_57 : decode cX11_init 57 = .ok (.putfield 28, 3) := by decide +kernel
theorem dX11_init_60 : decode cX11_init 60 = .ok (.aload_n 0, 1) := by decide +kernel
theorem dX11_init_61 : decode cX11_init 61 = .ok (.bipush 8, 2) := by decide +kernel
theorem dX11_init_63 : decode cX11_init 63 = .ok (.newarray .int, 2) := by decide +kernel
theorem dX11_init_65 : decode cX11_init 65 = .ok (.putfield 32, 3) := by decide +kernel
theorem dX11_init_68 : decode cX11_init 68 = .ok (.aload_n 0, 1) := by decide +kernel
theorem dX11_init_69 : decode cX11_init 69 = .ok (.bipush 10, 2) := by decide +kernel
theorem dX11_init_71 : decode cX11_init 71 = .ok (.newarray .int, 2) := by decide +kernel
theorem dX11_init_73 : decode cX11_init 73 = .ok (.putfield 35, 3) := by decide +kernel
theorem dX11_init_76 : decode cX11_init 76 = .ok (.aload_n 0, 1) := by decide +kernel
theorem dX11_init_77 : decode cX11_init 77 = .ok (.sipush 128, 3) := by decide +kernel
theorem dX11_init_80 : decode cX11_init 80 = .ok (.newarray .int, 2) := by decide +kernel
theorem dX11_init_82 : decode cX11_init 82 = .ok (.putfield 38, 3) := by decide +kernel
theorem dX11_init_85 : decode cX11_init 85 = .ok (.aload_n 0, 1) := by decide +kernel
theorem dX11_init_86 : decode cX11_init 86 = .ok (.sipush 128, 3) := by decide +kernel
theorem dX11_init_89 : decode cX11_init 89 = .ok (.newarray .int, 2) := by decide +kernel
theorem dX11_init_91 : decode cX11_init 91 = .ok (.putfield 41, 3) := by decide +kernel
theorem dX11_init_94 : decode cX11_init 94 = .ok (.aload_n 0, 1) := by decide +kernel
theorem dX11_init_95 : decode cX11_init 95 = .ok (.sipush 128, 3) := by decide +kernel
theorem dX11_init_98 : decode cX11_init 98 = .ok (.newarray .int, 2) := by decide +kernel
theorem dX11_init_100 : decode cX11_init 100 = .ok (.putfield 44, 3) := by decide +kernel
theorem dX11_init_103 : decode cX11_init 103 = .ok (.aload_n 0, 1) := by decide +kernel
theorem dX11_init_104 : decode cX11_init 104 = .ok (.sipush 128, 3) := by decide +kernel
theorem dX11_init_107 : decode cX11_init 107 = .ok (.newarray .int, 2) := by decide +kernel
theorem dX11_init_109 : decode cX11_init 109 = .ok (.putfield 47, 3) := by decide +kernel
theorem dX11_init_112 : decode cX11_init 112 = .ok (.aload_n 0, 1) := by decide +kernel
theorem dX11_init_113 : decode cX11_init 113 = .ok (.sipush 128, 3) := by decide +kernel
theorem dX11_init_116 : decode cX11_init 116 = .ok (.newarray .int, 2) := by decide +kernel
theorem dX11_init_118 : decode cX11_init 118 = .ok (.putfield 50, 3) := by decide +kernel
theorem dX11_init_121 : decode cX11_init 121 = .ok (.aload_n 0, 1) := by decide +kernel
theorem dX11_init_122 : decode cX11_init 122 = .ok (.bipush 16, 2) := by decide +kernel
theorem dX11_init_124 : decode cX11_init 124 = .ok (.newarray .boolean, 2) := by decide +kernel
theorem dX11_init_126 : decode cX11_init 126 = .ok (.putfield 53, 3) := by decide +kernel
theorem dX11_init_129 : decode cX11_init 129 = .ok (.aload_n 0, 1) := by decide +kernel
theorem dX11_init_130 : decode cX11_init 130 = .ok (.bipush 16, 2) := by decide +kernel
theorem dX11_init_132 : decode cX11_init 132 = .ok (.newarray .int, 2) := by decide +kernel
theorem dX11_init_134 : decode cX11_init 134 = .ok (.putfield 56, 3) := by decide +kernel
theorem dX11_init_137 : decode cX11_init 137 = .ok (.aload_n 0, 1) := by decide +kernel
theorem dX11_init_138 : decode cX11_init 138 = .ok (.bipush 16, 2) := by decide +kernel
theorem dX11_init_140 : decode cX11_init 140 = .ok (.newarray .int, 2) := by decide +kernel
theorem dX11_init_142 : decode cX11_init 142 = .ok (.putfield 59, 3) := by decide +kernel
theorem dX11_init_145 : decode cX11_init 145 = .ok (.aload_n 0, 1) := by decide +kernel
theorem dX11_init_146 : decode cX11_init 146 = .ok (.sipush 640, 3) := by decide +kernel
theorem dX11_init_149 : decode cX11_init 149 = .ok (.newarray .int, 2) := by decide +kernel
theorem dX11_init_151 : decode cX11_init 151 = .ok (.putfield 62, 3) := by decide +kernel
theorem dX11_init_154 : decode cX11_init 154 = .ok (.aload_n 0, 1) := by decide +kernel
theorem dX11_init_155 : decode cX11_init 155 = .ok (.bipush 8, 2) := by decide +kernel
theorem dX11_init_157 : decode cX11_init 157 = .ok (.newarray .int, 2) := by decide +kernel
theorem dX11_init_159 : decode cX11_init 159 = .ok (.putfield 65, 3) := by decide +kernel
theorem dX11_init_162 : decode cX11_init 162 = .ok (.aload_n 0, 1) := by decide +kernel
theorem dX11_init_163 : decode cX11_init 163 = .ok (.bipush 120, 2) := by decide +kernel
theorem dX11_init_165 : decode cX11_init 165 = .ok (.newarray .int, 2) := by decide +kernel
theorem dX11_init_167 : decode cX11_init 167 = .ok (.putfield 68, 3) := by decide +kernel
theorem dX11_init_170 : decode cX11_init 170 = .ok (.aload_n 0, 1) := by decide +kernel
theorem dX11_init_171 : decode cX11_init 171 = .ok (.bipush 120, 2) := by decide +kernel
theorem dX11_init_173 : decode cX11_init 173 = .ok (.newarray .int, 2) := by decide +kernel
theorem dX11_init_175 : decode cX11_init 175 = .ok (.putfield 71, 3) := by decide +kernel
theorem dX11_init_178 : decode cX11_init 178 = .ok (.aload_n 0, 1) := by decide +kernel
theorem dX11_init_179 : decode cX11_init 179 = .ok (.bipush 120, 2) := by decide +kernel
theorem dX11_init_181 : decode cX11_init 181 = .ok (.newarray .int, 2) := by decide +kernel
theorem dX11_init_183 : decode cX11_init 183 = .ok (.putfield 74, 3) := by decide +kernel
theorem dX11_init_186 : decode cX11_init 186 = .ok (.aload_n 0, 1) := by decide +kernel
theorem dX11_init_187 : decode cX11_init 187 = .ok (.bipush 6, 2) := by decide +kernel
theorem dX11_init_189 : decode cX11_init 189 = .ok (.newarray .boolean, 2) := by decide +kernel
theorem dX11_init_191 : decode cX11_init 191 = .ok (.putfield 77, 3) := by decide +kernel
theorem dX11_init_194 : decode cX11_init 194 = .ok (.aload_n 0, 1) := by decide +kernel
theorem dX11_init_195 : decode cX11_init 195 = .ok (.bipush 6, 2) := by decide +kernel
theorem dX11_init_197 : decode cX11_init 197 = .ok (.newarray .boolean, 2) := by decide +kernel
theorem dX11_init_199 : decode cX11_init 199 = .ok (.putfield 80, 3) := by decide +kernel
theorem dX11_init_202 : decode cX11_init 202 = .ok (.aload_n 0, 1) := by decide +kernel
theorem dX11_init_203 : decode cX11_init 203 = .ok (.bipush 6, 2) := by decide +kernel
theorem dX11_init_205 : decode cX11_init 205 = .ok (.newarray .boolean, 2) := by decide +kernel
theorem dX11_init_207 : decode cX11_init 207 = .ok (.putfield 83, 3) := by decide +kernel
theorem dX11_init_210 : decode cX11_init 210 = .ok (.aload_n 0, 1) := by decide +kernel
theorem dX11_init_211 : decode cX11_init 211 = .ok (.bipush 12, 2) := by decide +kernel
theorem dX11_init_213 : decode cX11_init 213 = .ok (.newarray .int, 2) := by decide +kernel
theorem dX11_init_215 : decode cX11_init 215 = .ok (.putfield 86, 3) := by decide +kernel
theorem dX11_init_218 : decode cX11_init 218 = .ok (.aload_n 0, 1) := by decide +kernel
theorem dX11_init_219 : decode cX11_init 219 = .ok (.bipush 12, 2) := by decide +kernel
theorem dX11_init_221 : decode cX11_init 221 = .ok (.newarray .int, 2) := by decide +kernel
theorem dX11_init_223 : decode cX11_init 223 = .ok (.putfield 89, 3) := by decide +kernel
theorem dX11_init_226 : decode cX11_init 226 = .ok (.aload_n 0, 1) := by decide +kernel
theorem dX11_init_227 : decode cX11_init 227 = .ok (.bipush 12, 2) := by decide +kernel
theorem dX11_init_229 : decode cX11_init 229 = .ok (.newarray .int, 2) := by decide +kernel
theorem dX11_init_231 : decode cX11_init 231 = .ok (.putfield 92, 3) := by decide +kernel
theorem dX11_init_234 : decode cX11_init 234 = .ok (.aload_n 0, 1) := by decide +kernel
theorem dX11_init_235 : decode cX11_init 235 = .ok (.bipush 12, 2) := by decide +kernel
theorem dX11_init_237 : decode cX11_init 237 = .ok (.newarray .int, 2) := by decide +kernel
theorem dX11_init_239 : decode cX11_init 239 = .ok (.putfield 95, 3) := by decide +kernel
theorem dX11_init_242 : decode cX11_init 242 = .ok (.aload_n 0, 1) := by decide +kernel
theorem dX11_init_243 : decode cX11_init 243 = .ok (.bipush 12, 2) := by decide +kernel
theorem dX11_init_245 : decode cX11_init 245 = .ok (.newarray .boolean, 2) := by decide +kernel
theorem dX11_init_247 : decode cX11_init 247 = .ok (.putfield 98, 3) := by decide +kernel
theorem dX11_init_250 : decode cX11_init 250 = .ok (.aload_n 0, 1) := by decide +kernel
theorem dX11_init_251 : decode cX11_init 251 = .ok (.bipush 48, 2) := by decide +kernel
theorem dX11_init_253 : decode cX11_init 253 = .ok (.newarray .int, 2) := by decide +kernel
theorem dX11_init_255 : decode cX11_init 255 = .ok (.putfield 101, 3) := by decide +kernel
theorem dX11_init_258 : decode cX11_init 258 = .ok (.aload_n 0, 1) := by decide +kernel
theorem dX11_init_259 : decode cX11_init 259 = .ok (.iconst 4, 1) := by decide +kernel
theorem dX11_init_260 : decode cX11_init 260 = .ok (.newarray .int, 2) := by decide +kernel
theorem dX11_init_262 : decode cX11_init 262 = .ok (.putfield 104, 3) := by decide +kernel
theorem dX11_init_265 : decode cX11_init 265 = .ok (.aload_n 0, 1) := by decide +kernel
theorem dX11_init_266 : decode cX11_init 266 = .ok (.iconst 4, 1) := by decide +kernel
theorem dX11_init_267 : decode cX11_init 267 = .ok (.newarray .int, 2) := by decide +kernel
theorem dX11_init_269 : decode cX11_init 269 = .ok (.putfield 107, 3) := by decide +kernel
theorem dX11_init_272 : decode cX11_init 272 = .ok (.aload_n 0, 1) := by decide +kernel
theorem dX11_init_273 : decode cX11_init 273 = .ok (.sipush 128, 3) := by decide +kernel
theorem dX11_init_276 : decode cX11_init 276 = .ok (.newarray .int, 2) := by decide +kernel
theorem dX11_init_278 : decode cX11_init 278 = .ok (.putfield 110, 3) := by decide +kernel
theorem dX11_init_281 : decode cX11_init 281 = .ok (.aload_n 0, 1) := by decide +kernel
theorem dX11_init_282 : decode cX11_init 282 = .ok (.bipush 32, 2) := by decide +kernel
theorem dX11_init_284 : decode cX11_init 284 = .ok (.newarray .int, 2) := by decide +kernel
theorem dX11_init_286 : decode cX11_init 286 = .ok (.putfield 113, 3) := by decide +kernel
theorem dX11_init_289 : decode cX11_init 289 = .ok (.iconst 0, 1) := by decide +kernel
theorem dX11_init_290 : decode cX11_init 290 = .ok (.istore_n 1, 1) := by decide +kernel
theorem dX11_init_291 : decode cX11_init 291 = .ok (.iload_n 1, 1) := by decide +kernel
theorem dX11_init_292 : decode cX11_init 292 = .ok (.iconst 4, 1) := by decide +kernel
theorem dX11_init_293 : decode cX11_init 293 = .ok (.if_icmp .ge 16, 3) := by decide +kernel
theorem dX11_init_296 : decode cX11_init 296 = .ok (.aload_n 0, 1) := by decide +kernel
theorem dX11_init_297 : decode cX11_init 297 = .ok (.getfield 104, 3) := by decide +kernel
theorem dX11_init_300 : decode cX11_init 300 = .ok (.iload_n 1, 1) := by decide +kernel
theorem dX11_init_301 : decode cX11_init 301 = .ok (.iconst (-1), 1) := by decide +kernel
theorem dX11_init_302 : decode cX11_init 302 = .ok (.iastore, 1) := by decide +kernel
theorem dX11_init_303 : decode cX11_init 303 = .ok (.iinc 1 1, 3) := by decide +kernel
theorem dX11_init_306 : decode cX11_init 306 = .ok (.goto (-15), 3) := by decide +kernel
theorem dX11_init_309 : decode cX11_init 309 = .ok (.iconst 0, 1) := by decide +kernel
theorem dX11_init_310 : decode cX11_init 310 = .ok (.istore_n 1, 1) := by decide +kernel
theorem dX11_init_311 : decode cX11_init 311 = .ok (.iload_n 1, 1) := by decide +kernel
theorem dX11_init_312 : decode cX11_init 312 = .ok (.bipush 10, 2) := by decide +kernel
theorem dX11_init_314 : decode cX11_init 314 = .ok (.if_icmp .ge 16, 3) := by decide +kernel
theorem dX11_init_317 : decode cX11_init 317 = .ok (.aload_n 0, 1) := by decide +kernel
theorem dX11_init_318 : decode cX11_init 318 = .ok (.getfield 35, 3) := by decide +kernel
theorem dX11_init_321 : decode cX11_init 321 = .ok (.iload_n 1, 1) := by decide +kernel
theorem dX11_init_322 : decode cX11_init 322 = .ok (.iconst 5, 1) := by decide +kernel
theorem dX11_init_323 : decode cX11_init 323 = .ok (.iastore, 1) := by decide +kernel
theorem dX11_init_324 : decode cX11_init 324 = .ok (.iinc 1 1, 3) := by decide +kernel
theorem dX11_init_327 : decode cX11_init 327 = .ok (.goto (-16), 3) := by decide +kernel
theorem dX11_init_330 : decode cX11_init 330 = .ok (.return_, 1) := by decide +kernel
theorem dX11_isPerson_0 : decode cX11_isPerson 0 = .ok (.iload_n 1, 1) := by decide +kernel
theorem dX11_isPerson_1 : decode cX11_isPerson 1 = .ok (.i2l, 1) := by decide +kernel
theorem dX11_isPerson_2 : decode cX11_isPerson 2 = .ok (.lconst 0, 1) := by decide +kernel
theorem dX11_isPerson_3 : decode cX11_isPerson 3 = .ok (.aload_n 0, 1) := by decide +kernel
theorem dX11_isPerson_4 : decode cX11_isPerson 4 = .ok (.getfield 116, 3) := by decide +kernel
theorem dX11_isPerson_7 : decode cX11_isPerson 7 = .ok (.iconst 1, 1) := by decide +kernel
theorem dX11_isPerson_8 : decode cX11_isPerson 8 = .ok (.isub, 1) := by decide +kernel
theorem dX11_isPerson_9 : decode cX11_isPerson 9 = .ok (.i2l, 1) := by decide +kernel
theorem dX11_isPerson_10 : decode cX11_isPerson 10 = .ok (.invokestatic 120, 3) := by decide +kernel
theorem dX11_isPerson_13 : decode cX11_isPerson 13 = .ok (.ireturn, 1) := by decide +kernel
theorem dX11_isPlace_0 : decode cX11_isPlace 0 = .ok (.iload_n 0, 1) := by decide +kernel
theorem dX11_isPlace_1 : decode cX11_isPlace 1 = .ok (.i2l, 1) := by decide +kernel
theorem dX11_isPlace_2 : decode cX11_isPlace 2 = .ok (.lconst 0, 1) := by decide +kernel
theorem dX11_isPlace_3 : decode cX11_isPlace 3 = .ok (.ldc2_w 124, 3) := by decide +kernel
theorem dX11_isPlace_6 : decode cX11_isPlace 6 = .ok (.invokestatic 120, 3) := by decide +kernel
theorem dX11_isPlace_9 : decode cX11_isPlace 9 = .ok (.ireturn, 1) := by decide +kernel
theorem dX11_most_0 : decode cX11_most 0 = .ok (.iload_n 0, 1) := by decide +kernel
theorem dX11_most_1 : decode cX11_most 1 = .ok (.ifCond .ne 8, 3) := by decide +kernel
theorem dX11_most_4 : decode cX11_most 4 = .ok (.bipush 99, 2) := by decide +kernel
theorem dX11_most_6 : decode cX11_most 6 = .ok (.goto 33, 3) := by decide +kernel
theorem dX11_most_9 : decode cX11_most 9 = .ok (.iload_n 0, 1) := by decide +kernel
theorem dX11_most_10 : decode cX11_most 10 = .ok (.iconst 1, 1) := by decide +kernel
theorem dX11_most_11 : decode cX11_most 11 = .ok (.if_icmp .ne 7, 3) := by decide +kernel
theorem dX11_most_14 : decode cX11_most 14 = .ok (.iconst 4, 1) := by decide +kernel
theorem dX11_most_15 : decode cX11_most 15 = .ok (.goto 24, 3) := by decide +kernel
theorem dX11_most_18 : decode cX11_most 18 = .ok (.iload_n 0, 1) := by decide +kernel
theorem dX11_most_19 : decode cX11_most 19 = .ok (.iconst 2, 1) := by decide +kernel
theorem dX11_most_20 : decode cX11_most 20 = .ok (.if_icmp .ne 7, 3) := by decide +kernel
theorem dX11_most_23 : decode cX11_most 23 = .ok (.iconst 1, 1) := by decide +kernel
theorem dX11_most_24 : decode cX11_most 24 = .ok (.goto 15, 3) := by decide +kernel
theorem dX11_most_27 : decode cX11_most 27 = .ok (.iload_n 0, 1) := by decide +kernel
theorem dX11_most_28 : decode cX11_most 28 = .ok (.iconst 3, 1) := by decide +kernel
theorem dX11_most_29 : decode cX11_most 29 = .ok (.if_icmp .ne 8, 3) := by decide +kernel
theorem dX11_most_32 : decode cX11_most 32 = .ok (.bipush 9, 2) := by decide +kernel
theorem dX11_most_34 : decode cX11_most 34 = .ok (.goto 5, 3) := by decide +kernel
theorem dX11_most_37 : decode cX11_most 37 = .ok (.bipush 19, 2) := by decide +kernel
theorem dX11_most_39 : decode cX11_most 39 = .ok (.ireturn, 1) := by decide +kernel
theorem dX11_person_0 : decode cX11_person 0 = .ok (.iload_n 1, 1) := by decide +kernel
theorem dX11_person_1 : decode cX11_person 1 = .ok (.invokestatic 126, 3) := by decide +kernel
theorem dX11_person_4 : decode cX11_person 4 = .ok (.ifCond .eq 43, 3) := by decide +kernel
theorem dX11_person_7 : decode cX11_person 7 = .ok (.iload_n 2, 1) := by decide +kernel
theorem dX11_person_8 : decode cX11_person 8 = .ok (.invokestatic 126, 3) := by decide +kernel
theorem dX11_person_11 : decode cX11_person 11 = .ok (.ifCond .eq 36, 3) := by decide +kernel
theorem dX11_person_14 : decode cX11_person 14 = .ok (.iload_n 3, 1) := by decide +kernel
theorem dX11_person_15 : decode cX11_person 15 = .ok (.invokestatic 126, 3) := by decide +kernel
theorem dX11_person_18 : decode cX11_person 18 = .ok (.ifCond .eq 29, 3) := by decide +kernel
theorem dX11_person_21 : decode cX11_person 21 = .ok (.iload 4, 2) := by decide +kernel
theorem dX11_person_23 : decode cX11_person 23 = .ok (.i2l, 1) := by decide +kernel
theorem dX11_person_24 : decode cX11_person 24 = .ok (.lconst 0, 1) := by decide +kernel
theorem dX11_person_25 : decode cX11_person 25 = .ok (.ldc2_w 130, 3) := by decide +kernel
theorem dX11_person_28 : decode cX11_person 28 = .ok (.invokestatic 120, 3) := by decide +kernel
theorem dX11_person_31 : decode cX11_person 31 = .ok (.ifCond .eq 16, 3) := by decide +kernel
theorem dX11_person_34 : decode cX11_person 34 = .ok (.iload 5, 2) := by decide +kernel
theorem dX11_person_36 : decode cX11_person 36 = .ok (.i2l, 1) := by decide +kernel
theorem dX11_person_37 : decode cX11_person 37 = .ok (.lconst 0, 1) := by decide +kernel
theorem dX11_person_38 : decode cX11_person 38 = .ok (.ldc2_w 132, 3) := by decide +kernel
theorem dX11_person_41 : decode cX11_person 41 = .ok (.invokestatic 120, 3) := by decide +kernel
theorem dX11_person_44 : decode cX11_person 44 = .ok (.ifCond .ne 5, 3) := by decide +kernel
theorem dX11_person_47 : decode cX11_person 47 = .ok (.iconst (-1), 1) := by decide +kernel
theorem dX11_person_48 : decode cX11_person 48 = .ok (.ireturn, 1) := by decide +kernel
theorem dX11_person_49 : decode cX11_person 49 = .ok (.aload_n 0, 1) := by decide +kernel
theorem dX11_person_50 : decode cX11_person 50 = .ok (.getfield 116, 3) := by decide +kernel
theorem dX11_person_53 : decode cX11_person 53 = .ok (.bipush 16, 2) := by decide +kernel
theorem dX11_person_55 : decode cX11_person 55 = .ok (.if_icmp .ne 6, 3) := by decide +kernel
theorem dX11_person_58 : decode cX11_person 58 = .ok (.bipush (-3), 2) := by decide +kernel
theorem dX11_person_60 : decode cX11_person 60 = .ok (.ireturn, 1) := by decide +kernel
theorem dX11_person_61 : decode cX11_person 61 = .ok (.aload_n 0, 1) := by decide +kernel
theorem dX11_person_62 : decode cX11_person 62 = .ok (.getfield 7, 3) := by decide +kernel
theorem dX11_person_65 : decode cX11_person 65 = .ok (.iconst 3, 1) := by decide +kernel
theorem dX11_person_66 : decode cX11_person 66 = .ok (.aload_n 0, 1) := by decide +kernel
theorem dX11_person_67 : decode cX11_person 67 = .ok (.getfield 116, 3) := by decide +kernel
theorem dX11_person_70 : decode cX11_person 70 = .ok (.imul, 1) := by decide +kernel
theorem dX11_person_71 : decode cX11_person 71 = .ok (.iload_n 1, 1) := by decide +kernel
theorem dX11_person_72 : decode cX11_person 72 = .ok (.iastore, 1) := by decide +kernel
theorem dX11_person_73 : decode cX11_person 73 = .ok (.aload_n 0, 1) := by decide +kernel
theorem dX11_person_74 : decode cX11_person 74 = .ok (.getfield 7, 3) := by decide +kernel
theorem dX11_person_77 : decode cX11_person 77 = .ok (.iconst 3, 1) := by decide +kernel
theorem dX11_person_78 : decode cX11_person 78 = .ok (.aload_n 0, 1) := by decide +kernel
theorem dX11_person_79 : decode cX11_person 79 = .ok (.getfield 116, 3) := by decide +kernel
theorem dX11_person_82 : decode cX11_person 82 = .ok (.imul, 1) := by decide +kernel
theorem dX11_person_83 : decode cX11_person 83 = .ok (.iconst 1, 1) := by decide +kernel
theorem dX11_person_84 : decode cX11_person 84 = .ok (.iadd, 1) := by decide +kernel
theorem dX11_person_85 : decode cX11_person 85 = .ok (.iload_n 2, 1) := by decide +kernel
theorem dX11_person_86 : decode cX11_person 86 = .ok (.iastore, 1) := by decide +kernel
theorem dX11_person_87 : decode cX11_person 87 = .ok (.aload_n 0, 1) := by decide +kernel
theorem dX11_person_88 : decode cX11_person 88 = .ok (.getfield 7, 3) := by decide +kernel
theorem dX11_person_91 : decode cX11_person 91 = .ok (.iconst 3, 1) := by decide +kernel
theorem dX11_person_92 : decode cX11_person 92 = .ok (.aload_n 0, 1) := by decide +kernel
theorem dX11_person_93 : decode cX11_person 93 = .ok (.getfield 116, 3) := by decide +kernel
theorem dX11_person_96 : decode cX11_person 96 = .ok (.imul, 1) := by decide +kernel
theorem dX11_person_97 : decode cX11_person 97 = .ok (.iconst 2, 1) := by decide +kernel
theorem dX11_person_98 : decode cX11_person 98 = .ok (.iadd, 1) := by decide +kernel
theorem dX11_person_99 : decode cX11_person 99 = .ok (.iload_n 3, 1) := by decide +kernel
theorem dX11_person_100 : decode cX11_person 100 = .ok (.iastore, 1) := by decide +kernel
theorem dX11_person_101 : decode cX11_person 101 = .ok (.aload_n 0, 1) := by decide +kernel
theorem dX11_person_102 : decode cX11_person 102 = .ok (.getfield 13, 3) := by decide +kernel
theorem dX11_person_105 : decode cX11_person 105 = .ok (.iconst 5, 1) := by decide +kernel
theorem dX11_person_106 : decode cX11_person 106 = .ok (.aload_n 0, 1) := by decide +kernel
theorem dX11_person_107 : decode cX11_person 107 = .ok (.getfield 116, 3) := by decide +kernel
theorem dX11_person_110 : decode cX11_person 110 = .ok (.imul, 1) := by decide +kernel
theorem dX11_person_111 : decode cX11_person 111 = .ok (.bipush 50, 2) := by decide +kernel
theorem dX11_person_113 : decode cX11_person 113 = .ok (.iastore, 1) := by decide +kernel
theorem dX11_person_114 : decode cX11_person 114 = .ok (.aload_n 0, 1) := by decide +kernel
theorem dX11_person_115 : decode cX11_person 115 = .ok (.getfield 13, 3) := by decide +kernel
theorem dX11_person_118 : decode cX11_person 118 = .ok (.iconst 5, 1) := by decide +kernel
theorem dX11_person_119 : decode cX11_person 119 = .ok (.aload_n 0, 1) := by decide +kernel
theorem dX11_person_120 : decode cX11_person 120 = .ok (.getfield 116, 3) := by decide +kernel
theorem dX11_person_123 : decode cX11_person 123 = .ok (.imul, 1) := by decide +kernel
theorem dX11_person_124 : decode cX11_person 124 = .ok (.iconst 1, 1) := by decide +kernel
theorem dX11_person_125 : decode cX11_person 125 = .ok (.iadd, 1) := by decide +kernel
theorem dX11_person_126 : decode cX11_person 126 = .ok (.iconst 0, 1) := by decide +kernel
theorem dX11_person_127 : decode cX11_person 127 = .ok (.iastore, 1) := by decide +kernel
theorem dX11_person_128 : decode cX11_person 128 = .ok (.aload_n 0, 1) := by decide +kernel
theorem dX11_person_129 : decode cX11_person 129 = .ok (.getfield 13, 3) := by decide +kernel
theorem dX11_person_132 : decode cX11_person 132 = .ok (.iconst 5, 1) := by decide +kernel
theorem dX11_person_133 : decode cX11_person 133 = .ok (.aload_n 0, 1) := by decide +kernel
theorem dX11_person_134 : decode cX11_person 134 = .ok (.getfield 116, 3) := by decide +kernel
theorem dX11_person_137 : decode cX11_person 137 = .ok (.imul, 1) := by decide +kernel
theorem dX11_person_138 : decode cX11_person 138 = .ok (.iconst 2, 1) := by decide +kernel
theorem dX11_person_139 : decode cX11_person 139 = .ok (.iadd, 1) := by decide +kernel
theorem dX11_person_140 : decode cX11_person 140 = .ok (.iconst 0, 1) := by decide +kernel
theorem dX11_person_141 : decode cX11_person 141 = .ok (.iastore, 1) := by decide +kernel
theorem dX11_person_142 : decode cX11_person 142 = .ok (.aload_n 0, 1) := by decide +kernel
theorem dX11_person_143 : decode cX11_person 143 = .ok (.getfield 13, 3) := by decide +kernel
theorem dX11_person_146 : decode cX11_person 146 = .ok (.iconst 5, 1) := by decide +kernel
theorem dX11_person_147 : decode cX11_person 147 = .ok (.aload_n 0, 1) := by decide +kernel
theorem dX11_person_148 : decode cX11_person 148 = .ok (.getfield 116, 3) := by decide +kernel
theorem dX11_person_151 : decode cX11_person 151 = .ok (.imul, 1) := by decide +kernel
theorem dX11_person_152 : decode cX11_person 152 = .ok (.iconst 3, 1) := by decide +kernel
theorem dX11_person_153 : decode cX11_person 153 = .ok (.iadd, 1) := by decide +kernel
theorem dX11_person_154 : decode cX11_person 154 = .ok (.iload 4, 2) := by decide +kernel
theorem dX11_person_156 : decode cX11_person 156 = .ok (.iastore, 1) := by decide +kernel
theorem dX11_person_157 : decode cX11_person 157 = .ok (.aload_n 0, 1) := by decide +kernel
theorem dX11_person_158 : decode cX11_person 158 = .ok (.getfield 13, 3) := by decide +kernel
theorem dX11_person_161 : decode cX11_person 161 = .ok (.iconst 5, 1) := by decide +kernel
theorem dX11_person_162 : decode cX11_person 162 = .ok (.aload_n 0, 1) := by decide +kernel
theorem dX11_person_163 : decode cX11_person 163 = .ok (.getfield 116, 3) := by decide +kernel
theorem dX11_person_166 : decode cX11_person 166 = .ok (.imul, 1) := by decide +kernel
theorem dX11_person_167 : decode cX11_person 167 = .ok (.iconst 4, 1) := by decide +kernel
theorem dX11_person_168 : decode cX11_person 168 = .ok (.iadd, 1) := by decide +kernel
theorem dX11_person_169 : decode cX11_person 169 = .ok (.iload 5, 2) := by decide +kernel
theorem dX11_person_171 : decode cX11_person 171 = .ok (.iastore, 1) := by decide +kernel
theorem dX11_person_172 : decode cX11_person 172 = .ok (.aload_n 0, 1) := by decide +kernel
theorem dX11_person_173 : decode cX11_person 173 = .ok (.dup, 1) := by decide +kernel
theorem dX11_person_174 : decode cX11_person 174 = .ok (.getfield 116, 3) := by decide +kernel
theorem dX11_person_177 : decode cX11_person 177 = .ok (.iconst 1, 1) := by decide +kernel
theorem dX11_person_178 : decode cX11_person 178 = .ok (.iadd, 1) := by decide +kernel
theorem dX11_person_179 : decode cX11_person 179 = .ok (.putfield 116, 3) := by decide +kernel
theorem dX11_person_182 : decode cX11_person 182 = .ok (.aload_n 0, 1) := by decide +kernel
theorem dX11_person_183 : decode cX11_person 183 = .ok (.getfield 116, 3) := by decide +kernel
theorem dX11_person_186 : decode cX11_person 186 = .ok (.iconst 1, 1) := by decide +kernel
theorem dX11_person_187 : decode cX11_person 187 = .ok (.isub, 1) := by decide +kernel
theorem dX11_person_188 : decode cX11_person 188 = .ok (.ireturn, 1) := by decide +kernel
theorem dX11_set_0 : decode cX11_set 0 = .ok (.aload_n 0, 1) := by decide +kernel
theorem dX11_set_1 : decode cX11_set 1 = .ok (.iload_n 1, 1) := by decide +kernel
theorem dX11_set_2 : decode cX11_set 2 = .ok (.invokevirtual 134, 3) := by decide +kernel
theorem dX11_set_5 : decode cX11_set 5 = .ok (.ifCond .eq 29, 3) := by decide +kernel
theorem dX11_set_8 : decode cX11_set 8 = .ok (.iload_n 2, 1) := by decide +kernel
theorem dX11_set_9 : decode cX11_set 9 = .ok (.i2l, 1) := by decide +kernel
theorem dX11_set_10 : decode cX11_set 10 = .ok (.lconst 0, 1) := by decide +kernel
theorem dX11_set_11 : decode cX11_set 11 = .ok (.ldc2_w 137, 3) := by decide +kernel
theorem dX11_set_14 : decode cX11_set 14 = .ok (.invokestatic 120, 3) := by decide +kernel
theorem dX11_set_17 : decode cX11_set 17 = .ok (.ifCond .eq 17, 3) := by decide +kernel
theorem dX11_set_20 : decode cX11_set 20 = .ok (.iload_n 3, 1) := by decide +kernel
theorem dX11_set_21 : decode cX11_set 21 = .ok (.i2l, 1) := by decide +kernel
theorem dX11_set_22 : decode cX11_set 22 = .ok (.lconst 0, 1) := by decide +kernel
theorem dX11_set_23 : decode cX11_set 23 = .ok (.iload_n 2, 1) := by decide +kernel
theorem dX11_set_24 : decode cX11_set 24 = .ok (.invokestatic 139, 3) := by decide +kernel
theorem dX11_set_27 : decode cX11_set 27 = .ok (.i2l, 1) := by decide +kernel
theorem dX11_set_28 : decode cX11_set 28 = .ok (.invokestatic 120, 3) := by decide +kernel
theorem dX11_set_31 : decode cX11_set 31 = .ok (.ifCond .ne 5, 3) := by decide +kernel
theorem dX11_set_34 : decode cX11_set 34 = .ok (.iconst (-1), 1) := by decide +kernel
theorem dX11_set_35 : decode cX11_set 35 = .ok (.ireturn, 1) := by decide +kernel
theorem dX11_set_36 : decode cX11_set 36 = .ok (.aload_n 0, 1) := by decide +kernel
theorem dX11_set_37 : decode cX11_set 37 = .ok (.getfield 13, 3) := by decide +kernel
theorem dX11_set_40 : decode cX11_set 40 = .ok (.iconst 5, 1) := by decide +kernel
theorem dX11_set_41 : decode cX11_set 41 = .ok (.iload_n 1, 1) := by decide +kernel
theorem dX11_set_42 : decode cX11_set 42 = .ok (.imul, 1) := by decide +kernel
theorem dX11_set_43 : decode cX11_set 43 = .ok (.iload_n 2, 1) := by decide +kernel
theorem dX11_set_44 : decode cX11_set 44 = .ok (.iadd, 1) := by decide +kernel
theorem dX11_set_45 : decode cX11_set 45 = .ok (.iaload, 1) := by decide +kernel
theorem dX11_set_46 : decode cX11_set 46 = .ok (.istore 4, 2) := by decide +kernel
theorem dX11_set_48 : decode cX11_set 48 = .ok (.aload_n 0, 1) := by decide +kernel
theorem dX11_set_49 : decode cX11_set 49 = .ok (.getfield 13, 3) := by decide +kernel
theorem dX11_set_52 : decode cX11_set 52 = .ok (.iconst 5, 1) := by decide +kernel
theorem dX11_set_53 : decode cX11_set 53 = .ok (.iload_n 1, 1) := by decide +kernel
theorem dX11_set_54 : decode cX11_set 54 = .ok (.imul, 1) := by decide +kernel
theorem dX11_set_55 : decode cX11_set 55 = .ok (.iload_n 2, 1) := by decide +kernel
theorem dX11_set_56 : decode cX11_set 56 = .ok (.iadd, 1) := by decide +kernel
theorem dX11_set_57 : decode cX11_set 57 = .ok (.iload_n 3, 1) := by decide +kernel
theorem dX11_set_58 : decode cX11_set 58 = .ok (.iastore, 1) := by decide +kernel
theorem dX11_set_59 : decode cX11_set 59 = .ok (.iload 4, 2) := by decide +kernel
theorem dX11_set_61 : decode cX11_set 61 = .ok (.ireturn, 1) := by decide +kernel
theorem dX11_placeOf_0 : decode cX11_placeOf 0 = .ok (.iload_n 2, 1) := by decide +kernel
theorem dX11_placeOf_1 : decode cX11_placeOf 1 = .ok (.bipush 24, 2) := by decide +kernel
theorem dX11_placeOf_3 : decode cX11_placeOf 3 = .ok (.irem, 1) := by decide +kernel
theorem dX11_placeOf_4 : decode cX11_placeOf 4 = .ok (.istore_n 3, 1) := by decide +kernel
theorem dX11_placeOf_5 : decode cX11_placeOf 5 = .ok (.aload_n 0, 1) := by decide +kernel
theorem dX11_placeOf_6 : decode cX11_placeOf 6 = .ok (.getfield 7, 3) := by decide +kernel
theorem dX11_placeOf_9 : decode cX11_placeOf 9 = .ok (.iconst 3, 1) := by decide +kernel
theorem dX11_placeOf_10 : decode cX11_placeOf 10 = .ok (.iload_n 1, 1) := by decide +kernel
theorem dX11_placeOf_11 : decode cX11_placeOf 11 = .ok (.imul, 1) := by decide +kernel
theorem dX11_placeOf_12 : decode cX11_placeOf 12 = .ok (.iload_n 3, 1) := by decide +kernel
theorem dX11_placeOf_13 : decode cX11_placeOf 13 = .ok (.i2l, 1) := by decide +kernel
theorem dX11_placeOf_14 : decode cX11_placeOf 14 = .ok (.ldc2_w 143, 3) := by decide +kernel
theorem dX11_placeOf_17 : decode cX11_placeOf 17 = .ok (.ldc2_w 145, 3) := by decide +kernel
theorem dX11_placeOf_20 : decode cX11_placeOf 20 = .ok (.invokestatic 120, 3) := by decide +kernel
theorem dX11_placeOf_23 : decode cX11_placeOf 23 = .ok (.ifCond .eq 7, 3) := by decide +kernel
theorem dX11_placeOf_26 : decode cX11_placeOf 26 = .ok (.iconst 1, 1) := by decide +kernel
theorem dX11_placeOf_27 : decode cX11_placeOf 27 = .ok (.goto 22, 3) := by decide +kernel
theorem dX11_placeOf_30 : decode cX11_placeOf 30 = .ok (.iload_n 3, 1) := by decide +kernel
theorem dX11_placeOf_31 : decode cX11_placeOf 31 = .ok (.i2l, 1) := by decide +kernel
theorem dX11_placeOf_32 : decode cX11_placeOf 32 = .ok (.ldc2_w 147, 3) := by decide +kernel
theorem dX11_placeOf_35 : decode cX11_placeOf 35 = .ok (.ldc2_w 149, 3) := by decide +kernel
theorem dX11_placeOf_38 : decode cX11_placeOf 38 = .ok (.invokestatic 120, 3) := by decide +kernel
theorem dX11_placeOf_41 : decode cX11_placeOf 41 = .ok (.ifCond .eq 7, 3) := by decide +kernel
theorem dX11_placeOf_44 : decode cX11_placeOf 44 = .ok (.iconst 2, 1) := by decide +kernel
theorem dX11_placeOf_45 : decode cX11_placeOf 45 = .ok (.goto 4, 3) := by decide +kernel
theorem dX11_placeOf_48 : decode cX11_placeOf 48 = .ok (.iconst 0, 1) := by decide +kernel
theorem dX11_placeOf_49 : decode cX11_placeOf 49 = .ok (.iadd, 1) := by decide +kernel
theorem dX11_placeOf_50 : decode cX11_placeOf 50 = .ok (.iaload, 1) := by decide +kernel
theorem dX11_placeOf_51 : decode cX11_placeOf 51 = .ok (.ireturn, 1) := by decide +kernel
theorem dX11_where_0 : decode cX11_where 0 = .ok (.aload_n 0, 1) := by decide +kernel
theorem dX11_where_1 : decode cX11_where 1 = .ok (.iload_n 1, 1) := by decide +kernel
theorem dX11_where_2 : decode cX11_where 2 = .ok (.invokevirtual 134, 3) := by decide +kernel
theorem dX11_where_5 : decode cX11_where 5 = .ok (.ifCond .eq 24, 3) := by decide +kernel
theorem dX11_where_8 : decode cX11_where 8 = .ok (.iload_n 2, 1) := by decide +kernel
theorem dX11_where_9 : decode cX11_where 9 = .ok (.i2l, 1) := by decide +kernel
theorem dX11_where_10 : decode cX11_where 10 = .ok (.lconst 0, 1) := by decide +kernel
theorem dX11_where_11 : decode cX11_where 11 = .ok (.ldc2_w 151, 3) := by decide +kernel
theorem dX11_where_14 : decode cX11_where 14 = .ok (.invokestatic 120, 3) := by decide +kernel
theorem dX11_where_17 : decode cX11_where 17 = .ok (.ifCond .eq 12, 3) := by decide +kernel
theorem dX11_where_20 : decode cX11_where 20 = .ok (.aload_n 0, 1) := by decide +kernel
theorem dX11_where_21 : decode cX11_where 21 = .ok (.iload_n 1, 1) := by decide +kernel
theorem dX11_where_22 : decode cX11_where 22 = .ok (.iload_n 2, 1) := by decide +kernel
theorem dX11_where_23 : decode cX11_where 23 = .ok (.invokevirtual 153, 3) := by decide +kernel
theorem dX11_where_26 : decode cX11_where 26 = .ok (.goto 4, 3) := by decide +kernel
theorem dX11_where_29 : decode cX11_where 29 = .ok (.iconst (-1), 1) := by decide +kernel
theorem dX11_where_30 : decode cX11_where 30 = .ok (.ireturn, 1) := by decide +kernel
theorem dX11_trust_0 : decode cX11_trust 0 = .ok (.aload_n 0, 1) := by decide +kernel
theorem dX11_trust_1 : decode cX11_trust 1 = .ok (.getfield 13, 3) := by decide +kernel
theorem dX11_trust_4 : decode cX11_trust 4 = .ok (.iconst 5, 1) := by decide +kernel
theorem dX11_trust_5 : decode cX11_trust 5 = .ok (.iload_n 1, 1) := by decide +kernel
theorem dX11_trust_6 : decode cX11_trust 6 = .ok (.imul, 1) := by decide +kernel
theorem dX11_trust_7 : decode cX11_trust 7 = .ok (.iaload, 1) := by decide +kernel
theorem dX11_trust_8 : decode cX11_trust 8 = .ok (.ireturn, 1) := by decide +kernel
theorem dX11_isReader_0 : decode cX11_isReader 0 = .ok (.aload_n 0, 1) := by decide +kernel
theorem dX11_isReader_1 : decode cX11_isReader 1 = .ok (.getfield 13, 3) := by decide +kernel
theorem dX11_isReader_4 : decode cX11_isReader 4 = .ok (.iconst 5, 1) := by decide +kernel
theorem dX11_isReader_5 : decode cX11_isReader 5 = .ok (.iload_n 1, 1) := by decide +kernel
theorem dX11_isReader_6 : decode cX11_isReader 6 = .ok (.imul, 1) := by decide +kernel
theorem dX11_isReader_7 : decode cX11_isReader 7 = .ok (.iconst 2, 1) := by decide +kernel
theorem dX11_isReader_8 : decode cX11_isReader 8 = .ok (.iadd, 1) := by decide +kernel
theorem dX11_isReader_9 : decode cX11_isReader 9 = .ok (.iaload, 1) := by decide +kernel
theorem dX11_isReader_10 : decode cX11_isReader 10 = .ok (.iconst 1, 1) := by decide +kernel
theorem dX11_isReader_11 : decode cX11_isReader 11 = .ok (.if_icmp .ne 7, 3) := by decide +kernel
theorem dX11_isReader_14 : decode cX11_isReader 14 = .ok (.iconst 1, 1) := by decide +kernel
theorem dX11_isReader_15 : decode cX11_isReader 15 = .ok (.goto 4, 3) := by decide +kernel
theorem dX11_isReader_18 : decode cX11_isReader 18 = .ok (.iconst 0, 1) := by decide +kernel
theorem dX11_isReader_19 : decode cX11_isReader 19 = .ok (.ireturn, 1) := by decide +kernel
theorem dX11_fear_0 : decode cX11_fear 0 = .ok (.aload_n 0, 1) := by decide +kernel
theorem dX11_fear_1 : decode cX11_fear 1 = .ok (.getfield 13, 3) := by decide +kernel
theorem dX11_fear_4 : decode cX11_fear 4 = .ok (.iconst 5, 1) := by decide +kernel
theorem dX11_fear_5 : decode cX11_fear 5 = .ok (.iload_n 1, 1) := by decide +kernel
theorem dX11_fear_6 : decode cX11_fear 6 = .ok (.imul, 1) := by decide +kernel
theorem dX11_fear_7 : decode cX11_fear 7 = .ok (.iconst 3, 1) := by decide +kernel
theorem dX11_fear_8 : decode cX11_fear 8 = .ok (.iadd, 1) := by decide +kernel
theorem dX11_fear_9 : decode cX11_fear 9 = .ok (.iaload, 1) := by decide +kernel
theorem dX11_fear_10 : decode cX11_fear 10 = .ok (.ireturn, 1) := by decide +kernel
theorem dX11_isSaying_0 : decode cX11_isSaying 0 = .ok (.iload_n 1, 1) := by decide +kernel
theorem dX11_isSaying_1 : decode cX11_isSaying 1 = .ok (.i2l, 1) := by decide +kernel
theorem dX11_isSaying_2 : decode cX11_isSaying 2 = .ok (.lconst 0, 1) := by decide +kernel
theorem dX11_isSaying_3 : decode cX11_isSaying 3 = .ok (.aload_n 0, 1) := by decide +kernel
theorem dX11_isSaying_4 : decode cX11_isSaying 4 = .ok (.getfield 157, 3) := by decide +kernel
theorem dX11_isSaying_7 : decode cX11_isSaying 7 = .ok (.iconst 1, 1) := by decide +kernel
theorem dX11_isSaying_8 : decode cX11_isSaying 8 = .ok (.isub, 1) := by decide +kernel
theorem dX11_isSaying_9 : decode cX11_isSaying 9 = .ok (.i2l, 1) := by decide +kernel
theorem dX11_isSaying_10 : decode cX11_isSaying 10 = .ok (.invokestatic 120, 3) := by decide +kernel
theorem dX11_isSaying_13 : decode cX11_isSaying 13 = .ok (.ireturn, 1) := by decide +kernel
theorem dX11_isDigit_0 : decode cX11_isDigit 0 = .ok (.iload_n 0, 1) := by decide +kernel
theorem dX11_isDigit_1 : decode cX11_isDigit 1 = .ok (.i2l, 1) := by decide +kernel
theorem dX11_isDigit_2 : decode cX11_isDigit 2 = .ok (.lconst 0, 1) := by decide +kernel
theorem dX11_isDigit_3 : decode cX11_isDigit 3 = .ok (.ldc2_w 130, 3) := by decide +kernel
theorem dX11_isDigit_6 : decode cX11_isDigit 6 = .ok (.invokestatic 120, 3) := by decide +kernel
theorem dX11_isDigit_9 : decode cX11_isDigit 9 = .ok (.ireturn, 1) := by decide +kernel
theorem dX11_unit_0 : decode cX11_unit 0 = .ok (.iload_n 0, 1) := by decide +kernel
theorem dX11_unit_1 : decode cX11_unit 1 = .ok (.iconst 1, 1) := by decide +kernel
theorem dX11_unit_2 : decode cX11_unit 2 = .ok (.if_icmp .ne 9, 3) := by decide +kernel
theorem dX11_unit_5 : decode cX11_unit 5 = .ok (.sipush 1000, 3) := by decide +kernel
theorem dX11_unit_8 : decode cX11_unit 8 = .ok (.goto 24, 3) := by decide +kernel
theorem dX11_unit_11 : decode cX11_unit 11 = .ok (.iload_n 0, 1) := by decide +kernel
theorem dX11_unit_12 : decode cX11_unit 12 = .ok (.iconst 2, 1) := by decide +kernel
theorem dX11_unit_13 : decode cX11_unit 13 = .ok (.if_icmp .ne 8, 3) := by decide +kernel
theorem dX11_unit_16 : decode cX11_unit 16 = .ok (.bipush 100, 2) := by decide +kernel
theorem dX11_unit_18 : decode cX11_unit 18 = .ok (.goto 14, 3) := by decide +kernel
theorem dX11_unit_21 : decode cX11_unit 21 = .ok (.iload_n 0, 1) := by decide +kernel
theorem dX11_unit_22 : decode cX11_unit 22 = .ok (.iconst 3, 1) := by decide +kernel
theorem dX11_unit_23 : decode cX11_unit 23 = .ok (.if_icmp .ne 8, 3) := by decide +kernel
theorem dX11_unit_26 : decode cX11_unit 26 = .ok (.bipush 10, 2) := by decide +kernel
theorem dX11_unit_28 : decode cX11_unit 28 = .ok (.goto 4, 3) := by decide +kernel
theorem dX11_unit_31 : decode cX11_unit 31 = .ok (.iconst 1, 1) := by decide +kernel
theorem dX11_unit_32 : decode cX11_unit 32 = .ok (.ireturn, 1) := by decide +kernel
theorem dX11_partOf_0 : decode cX11_partOf 0 = .ok (.iload_n 0, 1) := by decide +kernel
theorem dX11_partOf_1 : decode cX11_partOf 1 = .ok (.iload_n 1, 1) := by decide +kernel
theorem dX11_partOf_2 : decode cX11_partOf 2 = .ok (.invokestatic 160, 3) := by decide +kernel
theorem dX11_partOf_5 : decode cX11_partOf 5 = .ok (.idiv, 1) := by decide +kernel
theorem dX11_partOf_6 : decode cX11_partOf 6 = .ok (.bipush 10, 2) := by decide +kernel
theorem dX11_partOf_8 : decode cX11_partOf 8 = .ok (.irem, 1) := by decide +kernel
theorem dX11_partOf_9 : decode cX11_partOf 9 = .ok (.ireturn, 1) := by decide +kernel
theorem dX11_comes_0 : decode cX11_comes 0 = .ok (.aload_n 0, 1) := by decide +kernel
theorem dX11_comes_1 : decode cX11_comes 1 = .ok (.getfield 157, 3) := by decide +kernel
theorem dX11_comes_4 : decode cX11_comes 4 = .ok (.bipush 8, 2) := by decide +kernel
theorem dX11_comes_6 : decode cX11_comes 6 = .ok (.if_icmp .ne 6, 3) := by decide +kernel
theorem dX11_comes_9 : decode cX11_comes 9 = .ok (.bipush (-3), 2) := by decide +kernel
theorem dX11_comes_11 : decode cX11_comes 11 = .ok (.ireturn, 1) := by decide +kernel
theorem dX11_comes_12 : decode cX11_comes 12 = .ok (.aload_n 0, 1) := by decide +kernel
theorem dX11_comes_13 : decode cX11_comes 13 = .ok (.getfield 16, 3) := by decide +kernel
theorem dX11_comes_16 : decode cX11_comes 16 = .ok (.aload_n 0, 1) := by decide +kernel
theorem dX11_comes_17 : decode cX11_comes 17 = .ok (.getfield 157, 3) := by decide +kernel
theorem dX11_comes_20 : decode cX11_comes 20 = .ok (.iload_n 1, 1) := by decide +kernel
theorem dX11_comes_21 : decode cX11_comes 21 = .ok (.iastore, 1) := by decide +kernel
theorem dX11_comes_22 : decode cX11_comes 22 = .ok (.aload_n 0, 1) := by decide +kernel
theorem dX11_comes_23 : decode cX11_comes 23 = .ok (.getfield 19, 3) := by decide +kernel
theorem dX11_comes_26 : decode cX11_comes 26 = .ok (.aload_n 0, 1) := by decide +kernel
theorem dX11_comes_27 : decode cX11_comes 27 = .ok (.getfield 157, 3) := by decide +kernel
theorem dX11_comes_30 : decode cX11_comes 30 = .ok (.iload_n 2, 1) := by decide +kernel
theorem dX11_comes_31 : decode cX11_comes 31 = .ok (.iastore, 1) := by decide +kernel
theorem dX11_comes_32 : decode cX11_comes 32 = .ok (.aload_n 0, 1) := by decide +kernel
theorem dX11_comes_33 : decode cX11_comes 33 = .ok (.getfield 22, 3) := by decide +kernel
theorem dX11_comes_36 : decode cX11_comes 36 = .ok (.aload_n 0, 1) := by decide +kernel
theorem dX11_comes_37 : decode cX11_comes 37 = .ok (.getfield 157, 3) := by decide +kernel
theorem dX11_comes_40 : decode cX11_comes 40 = .ok (.iload_n 3, 1) := by decide +kernel
theorem dX11_comes_41 : decode cX11_comes 41 = .ok (.iastore, 1) := by decide +kernel
theorem dX11_comes_42 : decode cX11_comes 42 = .ok (.aload_n 0, 1) := by decide +kernel
theorem dX11_comes_43 : decode cX11_comes 43 = .ok (.getfield 25, 3) := by decide +kernel
theorem dX11_comes_46 : decode cX11_comes 46 = .ok (.aload_n 0, 1) := by decide +kernel
theorem dX11_comes_47 : decode cX11_comes 47 = .ok (.getfield 157, 3) := by decide +kernel
theorem dX11_comes_50 : decode cX11_comes 50 = .ok (.iload 4, 2) := by decide +kernel
theorem dX11_comes_52 : decode cX11_comes 52 = .ok (.iastore, 1) := by decide +kernel
theorem dX11_comes_53 : decode cX11_comes 53 = .ok (.aload_n 0, 1) := by decide +kernel
theorem dX11_comes_54 : decode cX11_comes 54 = .ok (.getfield 28, 3) := by decide +kernel
theorem dX11_comes_57 : decode cX11_comes 57 = .ok (.aload_n 0, 1) := by decide +kernel
theorem dX11_comes_58 : decode cX11_comes 58 = .ok (.getfield 157, 3) := by decide +kernel
theorem dX11_comes_61 : decode cX11_comes 61 = .ok (.iload 5, 2) := by decide +kernel
theorem dX11_comes_63 : decode cX11_comes 63 = .ok (.bastore, 1) := by decide +kernel
theorem dX11_comes_64 : decode cX11_comes 64 = .ok (.aload_n 0, 1) := by decide +kernel
theorem dX11_comes_65 : decode cX11_comes 65 = .ok (.getfield 32, 3) := by decide +kernel
theorem dX11_comes_68 : decode cX11_comes 68 = .ok (.aload_n 0, 1) := by decide +kernel
theorem dX11_comes_69 : decode cX11_comes 69 = .ok (.getfield 157, 3) := by decide +kernel
theorem dX11_comes_72 : decode cX11_comes 72 = .ok (.iconst 0, 1) := by decide +kernel
theorem dX11_comes_73 : decode cX11_comes 73 = .ok (.iastore, 1) := by decide +kernel
theorem dX11_comes_74 : decode cX11_comes 74 = .ok (.aload_n 0, 1) := by decide +kernel
theorem dX11_comes_75 : decode cX11_comes 75 = .ok (.dup, 1) := by decide +kernel
theorem dX11_comes_76 : decode cX11_comes 76 = .ok (.getfield 157, 3) := by decide +kernel
theorem dX11_comes_79 : decode cX11_comes 79 = .ok (.iconst 1, 1) := by decide +kernel
theorem dX11_comes_80 : decode cX11_comes 80 = .ok (.iadd, 1) := by decide +kernel
theorem dX11_comes_81 : decode cX11_comes 81 = .ok (.putfield 157, 3) := by decide +kernel
theorem dX11_comes_84 : decode cX11_comes 84 = .ok (.aload_n 0, 1) := by decide +kernel
theorem dX11_comes_85 : decode cX11_comes 85 = .ok (.getfield 157, 3) := by decide +kernel
theorem dX11_comes_88 : decode cX11_comes 88 = .ok (.iconst 1, 1) := by decide +kernel
theorem dX11_comes_89 : decode cX11_comes 89 = .ok (.isub, 1) := by decide +kernel
theorem dX11_comes_90 : decode cX11_comes 90 = .ok (.ireturn, 1) := by decide +kernel
theorem dX11_areParts_0 : decode cX11_areParts 0 = .ok (.iload_n 0, 1) := by decide +kernel
theorem dX11_areParts_1 : decode cX11_areParts 1 = .ok (.invokestatic 163, 3) := by decide +kernel
theorem dX11_areParts_4 : decode cX11_areParts 4 = .ok (.ifCond .eq 28, 3) := by decide +kernel
theorem dX11_areParts_7 : decode cX11_areParts 7 = .ok (.iload_n 1, 1) := by decide +kernel
theorem dX11_areParts_8 : decode cX11_areParts 8 = .ok (.invokestatic 163, 3) := by decide +kernel
theorem dX11_areParts_11 : decode cX11_areParts 11 = .ok (.ifCond .eq 21, 3) := by decide +kernel
theorem dX11_areParts_14 : decode cX11_areParts 14 = .ok (.iload_n 2, 1) := by decide +kernel
theorem dX11_areParts_15 : decode cX11_areParts 15 = .ok (.invokestatic 163, 3) := by decide +kernel
theorem dX11_areParts_18 : decode cX11_areParts 18 = .ok (.ifCond .eq 14, 3) := by decide +kernel
theorem dX11_areParts_21 : decode cX11_areParts 21 = .ok (.iload_n 3, 1) := by decide +kernel
theorem dX11_areParts_22 : decode cX11_areParts 22 = .ok (.invokestatic 163, 3) := by decide +kernel
theorem dX11_areParts_25 : decode cX11_areParts 25 = .ok (.ifCond .eq 7, 3) := by decide +kernel
theorem dX11_areParts_28 : decode cX11_areParts 28 = .ok (.iconst 1, 1) := by decide +kernel
theorem dX11_areParts_29 : decode cX11_areParts 29 = .ok (.goto 4, 3) := by decide +kernel
theorem dX11_areParts_32 : decode cX11_areParts 32 = .ok (.iconst 0, 1) := by decide +kernel
theorem dX11_areParts_33 : decode cX11_areParts 33 = .ok (.ireturn, 1) := by decide +kernel
theorem dX11_plain_0 : decode cX11_plain 0 = .ok (.iload_n 1, 1) := by decide +kernel
theorem dX11_plain_1 : decode cX11_plain 1 = .ok (.iload_n 2, 1) := by decide +kernel
theorem dX11_plain_2 : decode cX11_plain 2 = .ok (.iload_n 3, 1) := by decide +kernel
theorem dX11_plain_3 : decode cX11_plain 3 = .ok (.iload 4, 2) := by decide +kernel
theorem dX11_plain_5 : decode cX11_plain 5 = .ok (.invokestatic 166, 3) := by decide +kernel
theorem dX11_plain_8 : decode cX11_plain 8 = .ok (.ifCond .eq 32, 3) := by decide +kernel
theorem dX11_plain_11 : decode cX11_plain 11 = .ok (.aload_n 0, 1) := by decide +kernel
theorem dX11_plain_12 : decode cX11_plain 12 = .ok (.iconst 0, 1) := by decide +kernel
theorem dX11_plain_13 : decode cX11_plain 13 = .ok (.sipush 1000, 3) := by decide +kernel
theorem dX11_plain_16 : decode cX11_plain 16 = .ok (.iload_n 1, 1) := by decide +kernel
theorem dX11_plain_17 : decode cX11_plain 17 = .ok (.imul, 1) := by decide +kernel
theorem dX11_plain_18 : decode cX11_plain 18 = .ok (.bipush 100, 2) := by decide +kernel
theorem dX11_plain_20 : decode cX11_plain 20 = .ok (.iload_n 2, 1) := by decide +kernel
theorem dX11_plain_21 : decode cX11_plain 21 = .ok (.imul, 1) := by decide +kernel
theorem dX11_plain_22 : decode cX11_plain 22 = .ok (.iadd, 1) := by decide +kernel
theorem dX11_plain_23 : decode cX11_plain 23 = .ok (.bipush 10, 2) := by decide +kernel
theorem dX11_plain_25 : decode cX11_plain 25 = .ok (.iload_n 3, 1) := by decide +kernel
theorem dX11_plain_26 : decode cX11_plain 26 = .ok (.imul, 1) := by decide +kernel
theorem dX11_plain_27 : decode cX11_plain 27 = .ok (.iadd, 1) := by decide +kernel
theorem dX11_plain_28 : decode cX11_plain 28 = .ok (.iload 4, 2) := by decide +kernel
theorem dX11_plain_30 : decode cX11_plain 30 = .ok (.iadd, 1) := by decide +kernel
theorem dX11_plain_31 : decode cX11_plain 31 = .ok (.iconst 0, 1) := by decide +kernel
theorem dX11_plain_32 : decode cX11_plain 32 = .ok (.iconst 0, 1) := by decide +kernel
theorem dX11_plain_33 : decode cX11_plain 33 = .ok (.iconst 1, 1) := by decide +kernel
theorem dX11_plain_34 : decode cX11_plain 34 = .ok (.invokevirtual 170, 3) := by decide +kernel
theorem dX11_plain_37 : decode cX11_plain 37 = .ok (.goto 4, 3) := by decide +kernel
theorem dX11_plain_40 : decode cX11_plain 40 = .ok (.iconst (-1), 1) := by decide +kernel
theorem dX11_plain_41 : decode cX11_plain 41 = .ok (.ireturn, 1) := by decide +kernel
theorem dX11_changed_0 : decode cX11_changed 0 = .ok (.aload_n 0, 1) := by decide +kernel
theorem dX11_changed_1 : decode cX11_changed 1 = .ok (.iload_n 1, 1) := by decide +kernel
theorem dX11_changed_2 : decode cX11_changed 2 = .ok (.invokevirtual 174, 3) := by decide +kernel
theorem dX11_changed_5 : decode cX11_changed 5 = .ok (.ifCond .eq 22, 3) := by decide +kernel
theorem dX11_changed_8 : decode cX11_changed 8 = .ok (.iload_n 2, 1) := by decide +kernel
theorem dX11_changed_9 : decode cX11_changed 9 = .ok (.i2l, 1) := by decide +kernel
theorem dX11_changed_10 : decode cX11_changed 10 = .ok (.lconst 1, 1) := by decide +kernel
theorem dX11_changed_11 : decode cX11_changed 11 = .ok (.ldc2_w 137, 3) := by decide +kernel
theorem dX11_changed_14 : decode cX11_changed 14 = .ok (.invokestatic 120, 3) := by decide +kernel
theorem dX11_changed_17 : decode cX11_changed 17 = .ok (.ifCond .eq 10, 3) := by decide +kernel
theorem dX11_changed_20 : decode cX11_changed 20 = .ok (.iload_n 3, 1) := by decide +kernel
theorem dX11_changed_21 : decode cX11_changed 21 = .ok (.invokestatic 163, 3) := by decide +kernel
theorem dX11_changed_24 : decode cX11_changed 24 = .ok (.ifCond .ne 5, 3) := by decide +kernel
theorem dX11_changed_27 : decode cX11_changed 27 = .ok (.iconst (-1), 1) := by decide +kernel
theorem dX11_changed_28 : decode cX11_changed 28 = .ok (.ireturn, 1) := by decide +kernel
theorem dX11_changed_29 : decode cX11_changed 29 = .ok (.aload_n 0, 1) := by decide +kernel
theorem dX11_changed_30 : decode cX11_changed 30 = .ok (.getfield 19, 3) := by decide +kernel
theorem dX11_changed_33 : decode cX11_changed 33 = .ok (.iload_n 1, 1) := by decide +kernel
theorem dX11_changed_34 : decode cX11_changed 34 = .ok (.iaload, 1) := by decide +kernel
theorem dX11_changed_35 : decode cX11_changed 35 = .ok (.iload_n 2, 1) := by decide +kernel
theorem dX11_changed_36 : decode cX11_changed 36 = .ok (.invokestatic 177, 3) := by decide +kernel
theorem dX11_changed_39 : decode cX11_changed 39 = .ok (.istore 4, 2) := by decide +kernel
theorem dX11_changed_41 : decode cX11_changed 41 = .ok (.iload 4, 2) := by decide +kernel
theorem dX11_changed_43 : decode cX11_changed 43 = .ok (.iload_n 3, 1) := by decide +kernel
theorem dX11_changed_44 : decode cX11_changed 44 = .ok (.if_icmp .ne 8, 3) := by decide +kernel
theorem dX11_changed_47 : decode cX11_changed 47 = .ok (.bipush (-2), 2) := by decide +kernel
theorem dX11_changed_49 : decode cX11_changed 49 = .ok (.goto 27, 3) := by decide +kernel
theorem dX11_changed_52 : decode cX11_changed 52 = .ok (.aload_n 0, 1) := by decide +kernel
theorem dX11_changed_53 : decode cX11_changed 53 = .ok (.iconst 1, 1) := by decide +kernel
theorem dX11_changed_54 : decode cX11_changed 54 = .ok (.aload_n 0, 1) := by decide +kernel
theorem dX11_changed_55 : decode cX11_changed 55 = .ok (.getfield 19, 3) := by decide +kernel
theorem dX11_changed_58 : decode cX11_changed 58 = .ok (.iload_n 1, 1) := by decide +kernel
theorem dX11_changed_59 : decode cX11_changed 59 = .ok (.iaload, 1) := by decide +kernel
theorem dX11_changed_60 : decode cX11_changed 60 = .ok (.iload_n 3, 1) := by decide +kernel
theorem dX11_changed_61 : decode cX11_changed 61 = .ok (.iload 4, 2) := by decide +kernel
theorem dX11_changed_63 : decode cX11_changed 63 = .ok (.isub, 1) := by decide +kernel
theorem dX11_changed_64 : decode cX11_changed 64 = .ok (.iload_n 2, 1) := by decide +kernel
theorem dX11_changed_65 : decode cX11_changed 65 = .ok (.invokestatic 160, 3) := by decide +kernel
theorem dX11_changed_68 : decode cX11_changed 68 = .ok (.imul, 1) := by decide +kernel
theorem dX11_changed_69 : decode cX11_changed 69 = .ok (.iadd, 1) := by decide +kernel
theorem dX11_changed_70 : decode cX11_changed 70 = .ok (.iload_n 1, 1) := by decide +kernel
theorem dX11_changed_71 : decode cX11_changed 71 = .ok (.iconst 0, 1) := by decide +kernel
theorem dX11_changed_72 : decode cX11_changed 72 = .ok (.iconst 1, 1) := by decide +kernel
theorem dX11_changed_73 : decode cX11_changed 73 = .ok (.invokevirtual 170, 3) := by decide +kernel
theorem dX11_changed_76 : decode cX11_changed 76 = .ok (.ireturn, 1) := by decide +kernel
theorem dX11_planted_0 : decode cX11_planted 0 = .ok (.aload_n 0, 1) := by decide +kernel
theorem dX11_planted_1 : decode cX11_planted 1 = .ok (.iload_n 1, 1) := by decide +kernel
theorem dX11_planted_2 : decode cX11_planted 2 = .ok (.invokevirtual 174, 3) := by decide +kernel
theorem dX11_planted_5 : decode cX11_planted 5 = .ok (.ifCond .eq 32, 3) := by decide +kernel
theorem dX11_planted_8 : decode cX11_planted 8 = .ok (.iload_n 2, 1) := by decide +kernel
theorem dX11_planted_9 : decode cX11_planted 9 = .ok (.i2l, 1) := by decide +kernel
theorem dX11_planted_10 : decode cX11_planted 10 = .ok (.lconst 0, 1) := by decide +kernel
theorem dX11_planted_11 : decode cX11_planted 11 = .ok (.ldc2_w 151, 3) := by decide +kernel
theorem dX11_planted_14 : decode cX11_planted 14 = .ok (.invokestatic 120, 3) := by decide +kernel
theorem dX11_planted_17 : decode cX11_planted 17 = .ok (.ifCond .eq 20, 3) := by decide +kernel
theorem dX11_planted_20 : decode cX11_planted 20 = .ok (.aload_n 0, 1) := by decide +kernel
theorem dX11_planted_21 : decode cX11_planted 21 = .ok (.iconst 2, 1) := by decide +kernel
theorem dX11_planted_22 : decode cX11_planted 22 = .ok (.aload_n 0, 1) := by decide +kernel
theorem dX11_planted_23 : decode cX11_planted 23 = .ok (.getfield 19, 3) := by decide +kernel
theorem dX11_planted_26 : decode cX11_planted 26 = .ok (.iload_n 1, 1) := by decide +kernel
theorem dX11_planted_27 : decode cX11_planted 27 = .ok (.iaload, 1) := by decide +kernel
theorem dX11_planted_28 : decode cX11_planted 28 = .ok (.iload_n 1, 1) := by decide +kernel
theorem dX11_planted_29 : decode cX11_planted 29 = .ok (.iload_n 2, 1) := by decide +kernel
theorem dX11_planted_30 : decode cX11_planted 30 = .ok (.iconst 1, 1) := by decide +kernel
theorem dX11_planted_31 : decode cX11_planted 31 = .ok (.invokevirtual 170, 3) := by decide +kernel
theorem dX11_planted_34 : decode cX11_planted 34 = .ok (.goto 4, 3) := by decide +kernel
theorem dX11_planted_37 : decode cX11_planted 37 = .ok (.iconst (-1), 1) := by decide +kernel
theorem dX11_planted_38 : decode cX11_planted 38 = .ok (.ireturn, 1) := by decide +kernel
theorem dX11_real_0 : decode cX11_real 0 = .ok (.iload_n 1, 1) := by decide +kernel
theorem dX11_real_1 : decode cX11_real 1 = .ok (.iload_n 2, 1) := by decide +kernel
theorem dX11_real_2 : decode cX11_real 2 = .ok (.iload_n 3, 1) := by decide +kernel
theorem dX11_real_3 : decode cX11_real 3 = .ok (.iload 4, 2) := by decide +kernel
theorem dX11_real_5 : decode cX11_real 5 = .ok (.invokestatic 166, 3) := by decide +kernel
theorem dX11_real_8 : decode cX11_real 8 = .ok (.ifCond .eq 33, 3) := by decide +kernel
theorem dX11_real_11 : decode cX11_real 11 = .ok (.aload_n 0, 1) := by decide +kernel
theorem dX11_real_12 : decode cX11_real 12 = .ok (.iconst 3, 1) := by decide +kernel
theorem dX11_real_13 : decode cX11_real 13 = .ok (.sipush 1000, 3) := by decide +kernel
theorem dX11_real_16 : decode cX11_real 16 = .ok (.iload_n 1, 1) := by decide +kernel
theorem dX11_real_17 : decode cX11_real 17 = .ok (.imul, 1) := by decide +kernel
theorem dX11_real_18 : decode cX11_real 18 = .ok (.bipush 100, 2) := by decide +kernel
theorem dX11_real_20 : decode cX11_real 20 = .ok (.iload_n 2, 1) := by decide +kernel
theorem dX11_real_21 : decode cX11_real 21 = .ok (.imul, 1) := by decide +kernel
theorem dX11_real_22 : decode cX11_real 22 = .ok (.iadd, 1) := by decide +kernel
theorem dX11_real_23 : decode cX11_real 23 = .ok (.bipush 10, 2) := by decide +kernel
theorem dX11_real_25 : decode cX11_real 25 = .ok (.iload_n 3, 1) := by decide +kernel
theorem dX11_real_26 : decode cX11_real 26 = .ok (.imul, 1) := by decide +kernel
theorem dX11_real_27 : decode cX11_real 27 = .ok (.iadd, 1) := by decide +kernel
theorem dX11_real_28 : decode cX11_real 28 = .ok (.iload 4, 2) := by decide +kernel
theorem dX11_real_30 : decode cX11_real 30 = .ok (.iadd, 1) := by decide +kernel
theorem dX11_real_31 : decode cX11_real 31 = .ok (.iconst 0, 1) := by decide +kernel
theorem dX11_real_32 : decode cX11_real 32 = .ok (.iconst 0, 1) := by decide +kernel
theorem dX11_real_33 : decode cX11_real 33 = .ok (.iload 5, 2) := by decide +kernel
theorem dX11_real_35 : decode cX11_real 35 = .ok (.invokevirtual 170, 3) := by decide +kernel
theorem dX11_real_38 : decode cX11_real 38 = .ok (.goto 4, 3) := by decide +kernel
theorem dX11_real_41 : decode cX11_real 41 = .ok (.iconst (-1), 1) := by decide +kernel
theorem dX11_real_42 : decode cX11_real 42 = .ok (.ireturn, 1) := by decide +kernel
theorem dX11_told_0 : decode cX11_told 0 = .ok (.aload_n 0, 1) := by decide +kernel
theorem dX11_told_1 : decode cX11_told 1 = .ok (.iload_n 1, 1) := by decide +kernel
theorem dX11_told_2 : decode cX11_told 2 = .ok (.invokevirtual 174, 3) := by decide +kernel
theorem dX11_told_5 : decode cX11_told 5 = .ok (.ifCond .eq 15, 3) := by decide +kernel
theorem dX11_told_8 : decode cX11_told 8 = .ok (.iload_n 2, 1) := by decide +kernel
theorem dX11_told_9 : decode cX11_told 9 = .ok (.i2l, 1) := by decide +kernel
theorem dX11_told_10 : decode cX11_told 10 = .ok (.lconst 0, 1) := by decide +kernel
theorem dX11_told_11 : decode cX11_told 11 = .ok (.ldc2_w 143, 3) := by decide +kernel
theorem dX11_told_14 : decode cX11_told 14 = .ok (.invokestatic 120, 3) := by decide +kernel
theorem dX11_told_17 : decode cX11_told 17 = .ok (.ifCond .ne 5, 3) := by decide +kernel
theorem dX11_told_20 : decode cX11_told 20 = .ok (.iconst (-1), 1) := by decide +kernel
theorem dX11_told_21 : decode cX11_told 21 = .ok (.ireturn, 1) := by decide +kernel
theorem dX11_told_22 : decode cX11_told 22 = .ok (.aload_n 0, 1) := by decide +kernel
theorem dX11_told_23 : decode cX11_told 23 = .ok (.getfield 16, 3) := by decide +kernel
theorem dX11_told_26 : decode cX11_told 26 = .ok (.iload_n 1, 1) := by decide +kernel
theorem dX11_told_27 : decode cX11_told 27 = .ok (.iaload, 1) := by decide +kernel
theorem dX11_told_28 : decode cX11_told 28 = .ok (.istore_n 3, 1) := by decide +kernel
theorem dX11_told_29 : decode cX11_told 29 = .ok (.iload_n 2, 1) := by decide +kernel
theorem dX11_told_30 : decode cX11_told 30 = .ok (.tableswitch 123 0 8 #[50, 123, 123, 123, 123, 52, 74, 91, 116], 50) := by decide +kernel
theorem dX11_told_80 : decode cX11_told 80 = .ok (.iload_n 3, 1) := by decide +kernel
theorem dX11_told_81 : decode cX11_told 81 = .ok (.ireturn, 1) := by decide +kernel
theorem dX11_told_82 : decode cX11_told 82 = .ok (.iload_n 3, 1) := by decide +kernel
theorem dX11_told_83 : decode cX11_told 83 = .ok (.iconst 1, 1) := by decide +kernel
theorem dX11_told_84 : decode cX11_told 84 = .ok (.if_icmp .eq 8, 3) := by decide +kernel
theorem dX11_told_87 : decode cX11_told 87 = .ok (.iload_n 3, 1) := by decide +kernel
theorem dX11_told_88 : decode cX11_told 88 = .ok (.iconst 2, 1) := by decide +kernel
theorem dX11_told_89 : decode cX11_told 89 = .ok (.if_icmp .ne 12, 3) := by decide +kernel
theorem dX11_told_92 : decode cX11_told 92 = .ok (.aload_n 0, 1) := by decide +kernel
theorem dX11_told_93 : decode cX11_told 93 = .ok (.getfield 22, 3) := by decide +kernel
theorem dX11_told_96 : decode cX11_told 96 = .ok (.iload_n 1, 1) := by decide +kernel
theorem dX11_told_97 : decode cX11_told 97 = .ok (.iaload, 1) := by decide +kernel
theorem dX11_told_98 : decode cX11_told 98 = .ok (.goto 5, 3) := by decide +kernel
theorem dX11_told_101 : decode cX11_told 101 = .ok (.bipush (-12), 2) := by decide +kernel
theorem dX11_told_103 : decode cX11_told 103 = .ok (.ireturn, 1) := by decide +kernel
theorem dX11_told_104 : decode cX11_told 104 = .ok (.iload_n 3, 1) := by decide +kernel
theorem dX11_told_105 : decode cX11_told 105 = .ok (.iconst 2, 1) := by decide +kernel
theorem dX11_told_106 : decode cX11_told 106 = .ok (.if_icmp .ne 12, 3) := by decide +kernel
theorem dX11_told_109 : decode cX11_told 109 = .ok (.aload_n 0, 1) := by decide +kernel
theorem dX11_told_110 : decode cX11_told 110 = .ok (.getfield 25, 3) := by decide +kernel
theorem dX11_told_113 : decode cX11_told 113 = .ok (.iload_n 1, 1) := by decide +kernel
theorem dX11_told_114 : decode cX11_told 114 = .ok (.iaload, 1) := by decide +kernel
theorem dX11_told_115 : decode cX11_told 115 = .ok (.goto 5, 3) := by decide +kernel
theorem dX11_told_118 : decode cX11_told 118 = .ok (.bipush (-12), 2) := by decide +kernel
theorem dX11_told_120 : decode cX11_told 120 = .ok (.ireturn, 1) := by decide +kernel
theorem dX11_told_121 : decode cX11_told 121 = .ok (.iload_n 3, 1) := by decide +kernel
theorem dX11_told_122 : decode cX11_told 122 = .ok (.iconst 3, 1) := by decide +kernel
theorem dX11_told_123 : decode cX11_told 123 = .ok (.if_icmp .eq 8, 3) := by decide +kernel
theorem dX11_told_126 : decode cX11_told 126 = .ok (.bipush (-12), 2) := by decide +kernel
theorem dX11_told_128 : decode cX11_told 128 = .ok (.goto 17, 3) := by decide +kernel
theorem dX11_told_131 : decode cX11_told 131 = .ok (.aload_n 0, 1) := by decide +kernel
theorem dX11_told_132 : decode cX11_told 132 = .ok (.getfield 28, 3) := by decide +kernel
theorem dX11_told_135 : decode cX11_told 135 = .ok (.iload_n 1, 1) := by decide +kernel
theorem dX11_told_136 : decode cX11_told 136 = .ok (.baload, 1) := by decide +kernel
theorem dX11_told_137 : decode cX11_told 137 = .ok (.ifCond .eq 7, 3) := by decide +kernel
theorem dX11_told_140 : decode cX11_told 140 = .ok (.iconst 1, 1) := by decide +kernel
theorem dX11_told_141 : decode cX11_told 141 = .ok (.goto 4, 3) := by decide +kernel
theorem dX11_told_144 : decode cX11_told 144 = .ok (.iconst 0, 1) := by decide +kernel
theorem dX11_told_145 : decode cX11_told 145 = .ok (.ireturn, 1) := by decide +kernel
theorem dX11_told_146 : decode cX11_told 146 = .ok (.aload_n 0, 1) := by decide +kernel
theorem dX11_told_147 : decode cX11_told 147 = .ok (.getfield 32, 3) := by decide +kernel
theorem dX11_told_150 : decode cX11_told 150 = .ok (.iload_n 1, 1) := by decide +kernel
theorem dX11_told_151 : decode cX11_told 151 = .ok (.iaload, 1) := by decide +kernel
theorem dX11_told_152 : decode cX11_told 152 = .ok (.ireturn, 1) := by decide +kernel
theorem dX11_told_153 : decode cX11_told 153 = .ok (.aload_n 0, 1) := by decide +kernel
theorem dX11_told_154 : decode cX11_told 154 = .ok (.getfield 19, 3) := by decide +kernel
theorem dX11_told_157 : decode cX11_told 157 = .ok (.iload_n 1, 1) := by decide +kernel
theorem dX11_told_158 : decode cX11_told 158 = .ok (.iaload, 1) := by decide +kernel
theorem dX11_told_159 : decode cX11_told 159 = .ok (.iload_n 2, 1) := by decide +kernel
theorem dX11_told_160 : decode cX11_told 160 = .ok (.invokestatic 177, 3) := by decide +kernel
theorem dX11_told_163 : decode cX11_told 163 = .ok (.ireturn, 1) := by decide +kernel
theorem dX11_weight_0 : decode cX11_weight 0 = .ok (.iload_n 1, 1) := by decide +kernel
theorem dX11_weight_1 : decode cX11_weight 1 = .ok (.invokestatic 163, 3) := by decide +kernel
theorem dX11_weight_4 : decode cX11_weight 4 = .ok (.ifCond .eq 10, 3) := by decide +kernel
theorem dX11_weight_7 : decode cX11_weight 7 = .ok (.iload_n 2, 1) := by decide +kernel
theorem dX11_weight_8 : decode cX11_weight 8 = .ok (.invokestatic 163, 3) := by decide +kernel
theorem dX11_weight_11 : decode cX11_weight 11 = .ok (.ifCond .ne 5, 3) := by decide +kernel
theorem dX11_weight_14 : decode cX11_weight 14 = .ok (.iconst (-1), 1) := by decide +kernel
theorem dX11_weight_15 : decode cX11_weight 15 = .ok (.ireturn, 1) := by decide +kernel
theorem dX11_weight_16 : decode cX11_weight 16 = .ok (.aload_n 0, 1) := by decide +kernel
theorem dX11_weight_17 : decode cX11_weight 17 = .ok (.getfield 35, 3) := by decide +kernel
theorem dX11_weight_20 : decode cX11_weight 20 = .ok (.iload_n 1, 1) := by decide +kernel
theorem dX11_weight_21 : decode cX11_weight 21 = .ok (.iaload, 1) := by decide +kernel
theorem dX11_weight_22 : decode cX11_weight 22 = .ok (.istore_n 3, 1) := by decide +kernel
theorem dX11_weight_23 : decode cX11_weight 23 = .ok (.aload_n 0, 1) := by decide +kernel
theorem dX11_weight_24 : decode cX11_weight 24 = .ok (.getfield 35, 3) := by decide +kernel
theorem dX11_weight_27 : decode cX11_weight 27 = .ok (.iload_n 1, 1) := by decide +kernel
theorem dX11_weight_28 : decode cX11_weight 28 = .ok (.iload_n 2, 1) := by decide +kernel
theorem dX11_weight_29 : decode cX11_weight 29 = .ok (.iastore, 1) := by decide +kernel
theorem dX11_weight_30 : decode cX11_weight 30 = .ok (.iload_n 3, 1) := by decide +kernel
theorem dX11_weight_31 : decode cX11_weight 31 = .ok (.ireturn, 1) := by decide +kernel
theorem dX11_takes_0 : decode cX11_takes 0 = .ok (.aload_n 0, 1) := by decide +kernel
theorem dX11_takes_1 : decode cX11_takes 1 = .ok (.getfield 38, 3) := by decide +kernel
theorem dX11_takes_4 : decode cX11_takes 4 = .ok (.iload_n 1, 1) := by decide +kernel
theorem dX11_takes_5 : decode cX11_takes 5 = .ok (.iload_n 2, 1) := by decide +kernel
theorem dX11_takes_6 : decode cX11_takes 6 = .ok (.iastore, 1) := by decide +kernel
theorem dX11_takes_7 : decode cX11_takes 7 = .ok (.aload_n 0, 1) := by decide +kernel
theorem dX11_takes_8 : decode cX11_takes 8 = .ok (.getfield 41, 3) := by decide +kernel
theorem dX11_takes_11 : decode cX11_takes 11 = .ok (.iload_n 1, 1) := by decide +kernel
theorem dX11_takes_12 : decode cX11_takes 12 = .ok (.aload_n 0, 1) := by decide +kernel
theorem dX11_takes_13 : decode cX11_takes 13 = .ok (.getfield 180, 3) := by decide +kernel
theorem dX11_takes_16 : decode cX11_takes 16 = .ok (.iastore, 1) := by decide +kernel
theorem dX11_takes_17 : decode cX11_takes 17 = .ok (.aload_n 0, 1) := by decide +kernel
theorem dX11_takes_18 : decode cX11_takes 18 = .ok (.getfield 44, 3) := by decide +kernel
theorem dX11_takes_21 : decode cX11_takes 21 = .ok (.iload_n 1, 1) := by decide +kernel
theorem dX11_takes_22 : decode cX11_takes 22 = .ok (.iload_n 3, 1) := by decide +kernel
theorem dX11_takes_23 : decode cX11_takes 23 = .ok (.iastore, 1) := by decide +kernel
theorem dX11_takes_24 : decode cX11_takes 24 = .ok (.aload_n 0, 1) := by decide +kernel
theorem dX11_takes_25 : decode cX11_takes 25 = .ok (.getfield 47, 3) := by decide +kernel
theorem dX11_takes_28 : decode cX11_takes 28 = .ok (.iload_n 1, 1) := by decide +kernel
theorem dX11_takes_29 : decode cX11_takes 29 = .ok (.iload 4, 2) := by decide +kernel
theorem dX11_takes_31 : decode cX11_takes 31 = .ok (.iastore, 1) := by decide +kernel
theorem dX11_takes_32 : decode cX11_takes 32 = .ok (.aload_n 0, 1) := by decide +kernel
theorem dX11_takes_33 : decode cX11_takes 33 = .ok (.getfield 50, 3) := by decide +kernel
theorem dX11_takes_36 : decode cX11_takes 36 = .ok (.iload_n 1, 1) := by decide +kernel
theorem dX11_takes_37 : decode cX11_takes 37 = .ok (.aload_n 0, 1) := by decide +kernel
theorem dX11_takes_38 : decode cX11_takes 38 = .ok (.getfield 180, 3) := by decide +kernel
theorem dX11_takes_41 : decode cX11_takes 41 = .ok (.iastore, 1) := by decide +kernel
theorem dX11_takes_42 : decode cX11_takes 42 = .ok (.return_, 1) := by decide +kernel
theorem dX11_becomes_0 : decode cX11_becomes 0 = .ok (.aload_n 0, 1) := by decide +kernel
theorem dX11_becomes_1 : decode cX11_becomes 1 = .ok (.getfield 41, 3) := by decide +kernel
theorem dX11_becomes_4 : decode cX11_becomes 4 = .ok (.iload_n 1, 1) := by decide +kernel
theorem dX11_becomes_5 : decode cX11_becomes 5 = .ok (.aload_n 0, 1) := by decide +kernel
theorem dX11_becomes_6 : decode cX11_becomes 6 = .ok (.getfield 38, 3) := by decide +kernel
theorem dX11_becomes_9 : decode cX11_becomes 9 = .ok (.iload_n 1, 1) := by decide +kernel
theorem dX11_becomes_10 : decode cX11_becomes 10 = .ok (.iaload, 1) := by decide +kernel
theorem dX11_becomes_11 : decode cX11_becomes 11 = .ok (.iload_n 2, 1) := by decide +kernel
theorem dX11_becomes_12 : decode cX11_becomes 12 = .ok (.if_icmp .ne 12, 3) := by decide +kernel
theorem dX11_becomes_15 : decode cX11_becomes 15 = .ok (.aload_n 0, 1) := by decide +kernel
theorem dX11_becomes_16 : decode cX11_becomes 16 = .ok (.getfield 41, 3) := by decide +kernel
theorem dX11_becomes_19 : decode cX11_becomes 19 = .ok (.iload_n 1, 1) := by decide +kernel
theorem dX11_becomes_20 : decode cX11_becomes 20 = .ok (.iaload, 1) := by decide +kernel
theorem dX11_becomes_21 : decode cX11_becomes 21 = .ok (.goto 7, 3) := by decide +kernel
theorem dX11_becomes_24 : decode cX11_becomes 24 = .ok (.aload_n 0, 1) := by decide +kernel
theorem dX11_becomes_25 : decode cX11_becomes 25 = .ok (.getfield 180, 3) := by decide +kernel
theorem dX11_becomes_28 : decode cX11_becomes 28 = .ok (.iastore, 1) := by decide +kernel
theorem dX11_becomes_29 : decode cX11_becomes 29 = .ok (.aload_n 0, 1) := by decide +kernel
theorem dX11_becomes_30 : decode cX11_becomes 30 = .ok (.getfield 38, 3) := by decide +kernel
theorem dX11_becomes_33 : decode cX11_becomes 33 = .ok (.iload_n 1, 1) := by decide +kernel
theorem dX11_becomes_34 : decode cX11_becomes 34 = .ok (.iload_n 2, 1) := by decide +kernel
theorem dX11_becomes_35 : decode cX11_becomes 35 = .ok (.iastore, 1) := by decide +kernel
theorem dX11_becomes_36 : decode cX11_becomes 36 = .ok (.return_, 1) := by decide +kernel
theorem dX11_begin_0 : decode cX11_begin 0 = .ok (.aload_n 0, 1) := by decide +kernel
theorem dX11_begin_1 : decode cX11_begin 1 = .ok (.iload_n 1, 1) := by decide +kernel
theorem dX11_begin_2 : decode cX11_begin 2 = .ok (.invokevirtual 134, 3) := by decide +kernel
theorem dX11_begin_5 : decode cX11_begin 5 = .ok (.ifCond .eq 11, 3) := by decide +kernel
theorem dX11_begin_8 : decode cX11_begin 8 = .ok (.aload_n 0, 1) := by decide +kernel
theorem dX11_begin_9 : decode cX11_begin 9 = .ok (.iload_n 2, 1) := by decide +kernel
theorem dX11_begin_10 : decode cX11_begin 10 = .ok (.invokevirtual 174, 3) := by decide +kernel
theorem dX11_begin_13 : decode cX11_begin 13 = .ok (.ifCond .ne 5, 3) := by decide +kernel
theorem dX11_begin_16 : decode cX11_begin 16 = .ok (.iconst (-1), 1) := by decide +kernel
theorem dX11_begin_17 : decode cX11_begin 17 = .ok (.ireturn, 1) := by decide +kernel
theorem dX11_begin_18 : decode cX11_begin 18 = .ok (.aload_n 0, 1) := by decide +kernel
theorem dX11_begin_19 : decode cX11_begin 19 = .ok (.getfield 16, 3) := by decide +kernel
theorem dX11_begin_22 : decode cX11_begin 22 = .ok (.iload_n 2, 1) := by decide +kernel
theorem dX11_begin_23 : decode cX11_begin 23 = .ok (.iaload, 1) := by decide +kernel
theorem dX11_begin_24 : decode cX11_begin 24 = .ok (.iconst 2, 1) := by decide +kernel
theorem dX11_begin_25 : decode cX11_begin 25 = .ok (.if_icmp .ne 19, 3) := by decide +kernel
theorem dX11_begin_28 : decode cX11_begin 28 = .ok (.aload_n 0, 1) := by decide +kernel
theorem dX11_begin_29 : decode cX11_begin 29 = .ok (.getfield 180, 3) := by decide +kernel
theorem dX11_begin_32 : decode cX11_begin 32 = .ok (.aload_n 0, 1) := by decide +kernel
theorem dX11_begin_33 : decode cX11_begin 33 = .ok (.getfield 25, 3) := by decide +kernel
theorem dX11_begin_36 : decode cX11_begin 36 = .ok (.iload_n 2, 1) := by decide +kernel
theorem dX11_begin_37 : decode cX11_begin 37 = .ok (.iaload, 1) := by decide +kernel
theorem dX11_begin_38 : decode cX11_begin 38 = .ok (.if_icmp .ge 6, 3) := by decide +kernel
theorem dX11_begin_41 : decode cX11_begin 41 = .ok (.bipush (-2), 2) := by decide +kernel
theorem dX11_begin_43 : decode cX11_begin 43 = .ok (.ireturn, 1) := by decide +kernel
theorem dX11_begin_44 : decode cX11_begin 44 = .ok (.bipush 8, 2) := by decide +kernel
theorem dX11_begin_46 : decode cX11_begin 46 = .ok (.iload_n 1, 1) := by decide +kernel
theorem dX11_begin_47 : decode cX11_begin 47 = .ok (.imul, 1) := by decide +kernel
theorem dX11_begin_48 : decode cX11_begin 48 = .ok (.iload_n 2, 1) := by decide +kernel
theorem dX11_begin_49 : decode cX11_begin 49 = .ok (.iadd, 1) := by decide +kernel
theorem dX11_begin_50 : decode cX11_begin 50 = .ok (.istore_n 3, 1) := by decide +kernel
theorem dX11_begin_51 : decode cX11_begin 51 = .ok (.aload_n 0, 1) := by decide +kernel
theorem dX11_begin_52 : decode cX11_begin 52 = .ok (.getfield 38, 3) := by decide +kernel
theorem dX11_begin_55 : decode cX11_begin 55 = .ok (.iload_n 3, 1) := by decide +kernel
theorem dX11_begin_56 : decode cX11_begin 56 = .ok (.iaload, 1) := by decide +kernel
theorem dX11_begin_57 : decode cX11_begin 57 = .ok (.istore 4, 2) := by decide +kernel
theorem dX11_begin_59 : decode cX11_begin 59 = .ok (.aload_n 0, 1) := by decide +kernel
theorem dX11_begin_60 : decode cX11_begin 60 = .ok (.iload_n 3, 1) := by decide +kernel
theorem dX11_begin_61 : decode cX11_begin 61 = .ok (.iconst 1, 1) := by decide +kernel
theorem dX11_begin_62 : decode cX11_begin 62 = .ok (.aload_n 0, 1) := by decide +kernel
theorem dX11_begin_63 : decode cX11_begin 63 = .ok (.getfield 19, 3) := by decide +kernel
theorem dX11_begin_66 : decode cX11_begin 66 = .ok (.iload_n 2, 1) := by decide +kernel
theorem dX11_begin_67 : decode cX11_begin 67 = .ok (.iaload, 1) := by decide +kernel
theorem dX11_begin_68 : decode cX11_begin 68 = .ok (.bipush 17, 2) := by decide +kernel
theorem dX11_begin_70 : decode cX11_begin 70 = .ok (.invokevirtual 183, 3) := by decide +kernel
theorem dX11_begin_73 : decode cX11_begin 73 = .ok (.iload 4, 2) := by decide +kernel
theorem dX11_begin_75 : decode cX11_begin 75 = .ok (.ireturn, 1) := by decide +kernel
theorem dX11_knows_0 : decode cX11_knows 0 = .ok (.aload_n 0, 1) := by decide +kernel
theorem dX11_knows_1 : decode cX11_knows 1 = .ok (.iload_n 1, 1) := by decide +kernel
theorem dX11_knows_2 : decode cX11_knows 2 = .ok (.invokevirtual 134, 3) := by decide +kernel
theorem dX11_knows_5 : decode cX11_knows 5 = .ok (.ifCond .eq 23, 3) := by decide +kernel
theorem dX11_knows_8 : decode cX11_knows 8 = .ok (.aload_n 0, 1) := by decide +kernel
theorem dX11_knows_9 : decode cX11_knows 9 = .ok (.iload_n 2, 1) := by decide +kernel
theorem dX11_knows_10 : decode cX11_knows 10 = .ok (.invokevirtual 174, 3) := by decide +kernel
theorem dX11_knows_13 : decode cX11_knows 13 = .ok (.ifCond .eq 15, 3) := by decide +kernel
theorem dX11_knows_16 : decode cX11_knows 16 = .ok (.iload_n 3, 1) := by decide +kernel
theorem dX11_knows_17 : decode cX11_knows 17 = .ok (.i2l, 1) := by decide +kernel
theorem dX11_knows_18 : decode cX11_knows 18 = .ok (.lconst 0, 1) := by decide +kernel
theorem dX11_knows_19 : decode cX11_knows 19 = .ok (.ldc2_w 137, 3) := by decide +kernel
theorem dX11_knows_22 : decode cX11_knows 22 = .ok (.invokestatic 120, 3) := by decide +kernel
theorem dX11_knows_25 : decode cX11_knows 25 = .ok (.ifCond .ne 5, 3) := by decide +kernel
theorem dX11_knows_28 : decode cX11_knows 28 = .ok (.iconst (-1), 1) := by decide +kernel
theorem dX11_knows_29 : decode cX11_knows 29 = .ok (.ireturn, 1) := by decide +kernel
theorem dX11_knows_30 : decode cX11_knows 30 = .ok (.bipush 8, 2) := by decide +kernel
theorem dX11_knows_32 : decode cX11_knows 32 = .ok (.iload_n 1, 1) := by decide +kernel
theorem dX11_knows_33 : decode cX11_knows 33 = .ok (.imul, 1) := by decide +kernel
theorem dX11_knows_34 : decode cX11_knows 34 = .ok (.iload_n 2, 1) := by decide +kernel
theorem dX11_knows_35 : decode cX11_knows 35 = .ok (.iadd, 1) := by decide +kernel
theorem dX11_knows_36 : decode cX11_knows 36 = .ok (.istore 4, 2) := by decide +kernel
theorem dX11_knows_38 : decode cX11_knows 38 = .ok (.iload_n 3, 1) := by decide +kernel
theorem dX11_knows_39 : decode cX11_knows 39 = .ok (.ifCond .le 16, 3) := by decide +kernel
theorem dX11_knows_42 : decode cX11_knows 42 = .ok (.aload_n 0, 1) := by decide +kernel
theorem dX11_knows_43 : decode cX11_knows 43 = .ok (.getfield 38, 3) := by decide +kernel
theorem dX11_knows_46 : decode cX11_knows 46 = .ok (.iload 4, 2) := by decide +kernel
theorem dX11_knows_48 : decode cX11_knows 48 = .ok (.iaload, 1) := by decide +kernel
theorem dX11_knows_49 : decode cX11_knows 49 = .ok (.ifCond .ne 6, 3) := by decide +kernel
theorem dX11_knows_52 : decode cX11_knows 52 = .ok (.bipush (-4), 2) := by decide +kernel
theorem dX11_knows_54 : decode cX11_knows 54 = .ok (.ireturn, 1) := by decide +kernel
theorem dX11_knows_55 : decode cX11_knows 55 = .ok (.iload_n 3, 1) := by decide +kernel
theorem dX11_knows_56 : decode cX11_knows 56 = .ok (.ifCond .ne 13, 3) := by decide +kernel
theorem dX11_knows_59 : decode cX11_knows 59 = .ok (.aload_n 0, 1) := by decide +kernel
theorem dX11_knows_60 : decode cX11_knows 60 = .ok (.getfield 38, 3) := by decide +kernel
theorem dX11_knows_63 : decode cX11_knows 63 = .ok (.iload 4, 2) := by decide +kernel
theorem dX11_knows_65 : decode cX11_knows 65 = .ok (.iaload, 1) := by decide +kernel
theorem dX11_knows_66 : decode cX11_knows 66 = .ok (.goto 55, 3) := by decide +kernel
theorem dX11_knows_69 : decode cX11_knows 69 = .ok (.iload_n 3, 1) := by decide +kernel
theorem dX11_knows_70 : decode cX11_knows 70 = .ok (.iconst 1, 1) := by decide +kernel
theorem dX11_knows_71 : decode cX11_knows 71 = .ok (.if_icmp .ne 13, 3) := by decide +kernel
theorem dX11_knows_74 : decode cX11_knows 74 = .ok (.aload_n 0, 1) := by decide +kernel
theorem dX11_knows_75 : decode cX11_knows 75 = .ok (.getfield 41, 3) := by decide +kernel
theorem dX11_knows_78 : decode cX11_knows 78 = .ok (.iload 4, 2) := by decide +kernel
theorem dX11_knows_80 : decode cX11_knows 80 = .ok (.iaload, 1) := by decide +kernel
theorem dX11_knows_81 : decode cX11_knows 81 = .ok (.goto 40, 3) := by decide +kernel
theorem dX11_knows_84 : decode cX11_knows 84 = .ok (.iload_n 3, 1) := by decide +kernel
theorem dX11_knows_85 : decode cX11_knows 85 = .ok (.iconst 2, 1) := by decide +kernel
theorem dX11_knows_86 : decode cX11_knows 86 = .ok (.if_icmp .ne 13, 3) := by decide +kernel
theorem dX11_knows_89 : decode cX11_knows 89 = .ok (.aload_n 0, 1) := by decide +kernel
theorem dX11_knows_90 : decode cX11_knows 90 = .ok (.getfield 44, 3) := by decide +kernel
theorem dX11_knows_93 : decode cX11_knows 93 = .ok (.iload 4, 2) := by decide +kernel
theorem dX11_knows_95 : decode cX11_knows 95 = .ok (.iaload, 1) := by decide +kernel
theorem dX11_knows_96 : decode cX11_knows 96 = .ok (.goto 25, 3) := by decide +kernel
theorem dX11_knows_99 : decode cX11_knows 99 = .ok (.iload_n 3, 1) := by decide +kernel
theorem dX11_knows_100 : decode cX11_knows 100 = .ok (.iconst 3, 1) := by decide +kernel
theorem dX11_knows_101 : decode cX11_knows 101 = .ok (.if_icmp .ne 13, 3) := by decide +kernel
theorem dX11_knows_104 : decode cX11_knows 104 = .ok (.aload_n 0, 1) := by decide +kernel
theorem dX11_knows_105 : decode cX11_knows 105 = .ok (.getfield 47, 3) := by decide +kernel
theorem dX11_knows_108 : decode cX11_knows 108 = .ok (.iload 4, 2) := by decide +kernel
theorem dX11_knows_110 : decode cX11_knows 110 = .ok (.iaload, 1) := by decide +kernel
theorem dX11_knows_111 : decode cX11_knows 111 = .ok (.goto 10, 3) := by decide +kernel
theorem dX11_knows_114 : decode cX11_knows 114 = .ok (.aload_n 0, 1) := by decide +kernel
theorem dX11_knows_115 : decode cX11_knows 115 = .ok (.getfield 50, 3) := by decide +kernel
theorem dX11_knows_118 : decode cX11_knows 118 = .ok (.iload 4, 2) := by decide +kernel
theorem dX11_knows_120 : decode cX11_knows 120 = .ok (.iaload, 1) := by decide +kernel
theorem dX11_knows_121 : decode cX11_knows 121 = .ok (.ireturn, 1) := by decide +kernel
theorem dX11_count_0 : decode cX11_count 0 = .ok (.iload_n 1, 1) := by decide +kernel
theorem dX11_count_1 : decode cX11_count 1 = .ok (.tableswitch 60 0 4 #[35, 40, 45, 50, 55], 35) := by decide +kernel
theorem dX11_count_36 : decode cX11_count 36 = .ok (.aload_n 0, 1) := by decide +kernel
theorem dX11_count_37 : decode cX11_count 37 = .ok (.getfield 116, 3) := by decide +kernel
theorem dX11_count_40 : decode cX11_count 40 = .ok (.ireturn, 1) := by decide +kernel
theorem dX11_count_41 : decode cX11_count 41 = .ok (.aload_n 0, 1) := by decide +kernel
theorem dX11_count_42 : decode cX11_count 42 = .ok (.getfield 157, 3) := by decide +kernel
theorem dX11_count_45 : decode cX11_count 45 = .ok (.ireturn, 1) := by decide +kernel
end
section
theorem dX11_count_46 : decode cX11_count 46 = .ok (.aload_n 0, 1) := by decide +kernel
theorem dX11_count_47 : decode cX11_count 47 = .ok (.getfield 187, 3) := by decide +kernel
theorem dX11_count_50 : decode cX11_count 50 = .ok (.ireturn, 1) := by decide +kernel
theorem dX11_count_51 : decode cX11_count 51 = .ok (.aload_n 0, 1) := by decide +kernel
theorem dX11_count_52 : decode cX11_count 52 = .ok (.getfield 190, 3) := by decide +kernel
theorem dX11_count_55 : decode cX11_count 55 = .ok (.ireturn, 1) := by decide +kernel
theorem dX11_count_56 : decode cX11_count 56 = .ok (.aload_n 0, 1) := by decide +kernel
theorem dX11_count_57 : decode cX11_count 57 = .ok (.getfield 180, 3) := by decide +kernel
theorem dX11_count_60 : decode cX11_count 60 = .ok (.ireturn, 1) := by decide +kernel
theorem dX11_count_61 : decode cX11_count 61 = .ok (.iconst (-1), 1) := by decide +kernel
theorem dX11_count_62 : decode cX11_count 62 = .ok (.ireturn, 1) := by decide +kernel
theorem dX11_isLoud_0 : decode cX11_isLoud 0 = .ok (.bipush 8, 2) := by decide +kernel
theorem dX11_isLoud_2 : decode cX11_isLoud 2 = .ok (.iload_n 1, 1) := by decide +kernel
theorem dX11_isLoud_3 : decode cX11_isLoud 3 = .ok (.imul, 1) := by decide +kernel
theorem dX11_isLoud_4 : decode cX11_isLoud 4 = .ok (.iload_n 2, 1) := by decide +kernel
theorem dX11_isLoud_5 : decode cX11_isLoud 5 = .ok (.iadd, 1) := by decide +kernel
theorem dX11_isLoud_6 : decode cX11_isLoud 6 = .ok (.istore_n 3, 1) := by decide +kernel
theorem dX11_isLoud_7 : decode cX11_isLoud 7 = .ok (.aload_n 0, 1) := by decide +kernel
theorem dX11_isLoud_8 : decode cX11_isLoud 8 = .ok (.getfield 38, 3) := by decide +kernel
theorem dX11_isLoud_11 : decode cX11_isLoud 11 = .ok (.iload_n 3, 1) := by decide +kernel
theorem dX11_isLoud_12 : decode cX11_isLoud 12 = .ok (.iaload, 1) := by decide +kernel
theorem dX11_isLoud_13 : decode cX11_isLoud 13 = .ok (.iconst 1, 1) := by decide +kernel
theorem dX11_isLoud_14 : decode cX11_isLoud 14 = .ok (.if_icmp .ne 33, 3) := by decide +kernel
theorem dX11_isLoud_17 : decode cX11_isLoud 17 = .ok (.aload_n 0, 1) := by decide +kernel
theorem dX11_isLoud_18 : decode cX11_isLoud 18 = .ok (.iload_n 1, 1) := by decide +kernel
theorem dX11_isLoud_19 : decode cX11_isLoud 19 = .ok (.invokevirtual 193, 3) := by decide +kernel
theorem dX11_isLoud_22 : decode cX11_isLoud 22 = .ok (.aload_n 0, 1) := by decide +kernel
theorem dX11_isLoud_23 : decode cX11_isLoud 23 = .ok (.getfield 35, 3) := by decide +kernel
theorem dX11_isLoud_26 : decode cX11_isLoud 26 = .ok (.aload_n 0, 1) := by decide +kernel
theorem dX11_isLoud_27 : decode cX11_isLoud 27 = .ok (.getfield 44, 3) := by decide +kernel
theorem dX11_isLoud_30 : decode cX11_isLoud 30 = .ok (.iload_n 3, 1) := by decide +kernel
theorem dX11_isLoud_31 : decode cX11_isLoud 31 = .ok (.iaload, 1) := by decide +kernel
theorem dX11_isLoud_32 : decode cX11_isLoud 32 = .ok (.iconst 2, 1) := by decide +kernel
theorem dX11_isLoud_33 : decode cX11_isLoud 33 = .ok (.invokestatic 177, 3) := by decide +kernel
theorem dX11_isLoud_36 : decode cX11_isLoud 36 = .ok (.iaload, 1) := by decide +kernel
theorem dX11_isLoud_37 : decode cX11_isLoud 37 = .ok (.imul, 1) := by decide +kernel
theorem dX11_isLoud_38 : decode cX11_isLoud 38 = .ok (.bipush 10, 2) := by decide +kernel
theorem dX11_isLoud_40 : decode cX11_isLoud 40 = .ok (.if_icmp .lt 7, 3) := by decide +kernel
theorem dX11_isLoud_43 : decode cX11_isLoud 43 = .ok (.iconst 1, 1) := by decide +kernel
theorem dX11_isLoud_44 : decode cX11_isLoud 44 = .ok (.goto 4, 3) := by decide +kernel
theorem dX11_isLoud_47 : decode cX11_isLoud 47 = .ok (.iconst 0, 1) := by decide +kernel
theorem dX11_isLoud_48 : decode cX11_isLoud 48 = .ok (.ireturn, 1) := by decide +kernel
theorem dX11_hears_0 : decode cX11_hears 0 = .ok (.bipush 8, 2) := by decide +kernel
theorem dX11_hears_2 : decode cX11_hears 2 = .ok (.iload_n 1, 1) := by decide +kernel
theorem dX11_hears_3 : decode cX11_hears 3 = .ok (.imul, 1) := by decide +kernel
theorem dX11_hears_4 : decode cX11_hears 4 = .ok (.iload_n 2, 1) := by decide +kernel
theorem dX11_hears_5 : decode cX11_hears 5 = .ok (.iadd, 1) := by decide +kernel
theorem dX11_hears_6 : decode cX11_hears 6 = .ok (.istore 5, 2) := by decide +kernel
theorem dX11_hears_8 : decode cX11_hears 8 = .ok (.aload_n 0, 1) := by decide +kernel
theorem dX11_hears_9 : decode cX11_hears 9 = .ok (.iload_n 1, 1) := by decide +kernel
theorem dX11_hears_10 : decode cX11_hears 10 = .ok (.invokevirtual 193, 3) := by decide +kernel
theorem dX11_hears_13 : decode cX11_hears 13 = .ok (.iconst 2, 1) := by decide +kernel
theorem dX11_hears_14 : decode cX11_hears 14 = .ok (.iload_n 3, 1) := by decide +kernel
theorem dX11_hears_15 : decode cX11_hears 15 = .ok (.imul, 1) := by decide +kernel
theorem dX11_hears_16 : decode cX11_hears 16 = .ok (.iadd, 1) := by decide +kernel
theorem dX11_hears_17 : decode cX11_hears 17 = .ok (.aload_n 0, 1) := by decide +kernel
theorem dX11_hears_18 : decode cX11_hears 18 = .ok (.getfield 13, 3) := by decide +kernel
theorem dX11_hears_21 : decode cX11_hears 21 = .ok (.iconst 5, 1) := by decide +kernel
theorem dX11_hears_22 : decode cX11_hears 22 = .ok (.iload_n 1, 1) := by decide +kernel
theorem dX11_hears_23 : decode cX11_hears 23 = .ok (.imul, 1) := by decide +kernel
theorem dX11_hears_24 : decode cX11_hears 24 = .ok (.iconst 4, 1) := by decide +kernel
theorem dX11_hears_25 : decode cX11_hears 25 = .ok (.iadd, 1) := by decide +kernel
theorem dX11_hears_26 : decode cX11_hears 26 = .ok (.iaload, 1) := by decide +kernel
theorem dX11_hears_27 : decode cX11_hears 27 = .ok (.if_icmp .le 7, 3) := by decide +kernel
theorem dX11_hears_30 : decode cX11_hears 30 = .ok (.iconst 1, 1) := by decide +kernel
theorem dX11_hears_31 : decode cX11_hears 31 = .ok (.goto 4, 3) := by decide +kernel
theorem dX11_hears_34 : decode cX11_hears 34 = .ok (.iconst 0, 1) := by decide +kernel
theorem dX11_hears_35 : decode cX11_hears 35 = .ok (.istore 6, 2) := by decide +kernel
theorem dX11_hears_37 : decode cX11_hears 37 = .ok (.aload_n 0, 1) := by decide +kernel
theorem dX11_hears_38 : decode cX11_hears 38 = .ok (.getfield 38, 3) := by decide +kernel
theorem dX11_hears_41 : decode cX11_hears 41 = .ok (.iload 5, 2) := by decide +kernel
theorem dX11_hears_43 : decode cX11_hears 43 = .ok (.iaload, 1) := by decide +kernel
theorem dX11_hears_44 : decode cX11_hears 44 = .ok (.ifCond .eq 14, 3) := by decide +kernel
theorem dX11_hears_47 : decode cX11_hears 47 = .ok (.aload_n 0, 1) := by decide +kernel
theorem dX11_hears_48 : decode cX11_hears 48 = .ok (.getfield 38, 3) := by decide +kernel
theorem dX11_hears_51 : decode cX11_hears 51 = .ok (.iload 5, 2) := by decide +kernel
theorem dX11_hears_53 : decode cX11_hears 53 = .ok (.iaload, 1) := by decide +kernel
theorem dX11_hears_54 : decode cX11_hears 54 = .ok (.iconst 3, 1) := by decide +kernel
theorem dX11_hears_55 : decode cX11_hears 55 = .ok (.if_icmp .ne 31, 3) := by decide +kernel
theorem dX11_hears_58 : decode cX11_hears 58 = .ok (.aload_n 0, 1) := by decide +kernel
theorem dX11_hears_59 : decode cX11_hears 59 = .ok (.iload 5, 2) := by decide +kernel
theorem dX11_hears_61 : decode cX11_hears 61 = .ok (.iload 6, 2) := by decide +kernel
theorem dX11_hears_63 : decode cX11_hears 63 = .ok (.ifCond .eq 7, 3) := by decide +kernel
theorem dX11_hears_66 : decode cX11_hears 66 = .ok (.iconst 1, 1) := by decide +kernel
theorem dX11_hears_67 : decode cX11_hears 67 = .ok (.goto 4, 3) := by decide +kernel
theorem dX11_hears_70 : decode cX11_hears 70 = .ok (.iconst 2, 1) := by decide +kernel
theorem dX11_hears_71 : decode cX11_hears 71 = .ok (.aload_n 0, 1) := by decide +kernel
theorem dX11_hears_72 : decode cX11_hears 72 = .ok (.getfield 56, 3) := by decide +kernel
theorem dX11_hears_75 : decode cX11_hears 75 = .ok (.iload 4, 2) := by decide +kernel
theorem dX11_hears_77 : decode cX11_hears 77 = .ok (.iaload, 1) := by decide +kernel
theorem dX11_hears_78 : decode cX11_hears 78 = .ok (.iload 4, 2) := by decide +kernel
theorem dX11_hears_80 : decode cX11_hears 80 = .ok (.invokevirtual 183, 3) := by decide +kernel
theorem dX11_hears_83 : decode cX11_hears 83 = .ok (.goto 26, 3) := by decide +kernel
theorem dX11_hears_86 : decode cX11_hears 86 = .ok (.aload_n 0, 1) := by decide +kernel
theorem dX11_hears_87 : decode cX11_hears 87 = .ok (.getfield 38, 3) := by decide +kernel
theorem dX11_hears_90 : decode cX11_hears 90 = .ok (.iload 5, 2) := by decide +kernel
theorem dX11_hears_92 : decode cX11_hears 92 = .ok (.iaload, 1) := by decide +kernel
theorem dX11_hears_93 : decode cX11_hears 93 = .ok (.iconst 2, 1) := by decide +kernel
theorem dX11_hears_94 : decode cX11_hears 94 = .ok (.if_icmp .ne 15, 3) := by decide +kernel
theorem dX11_hears_97 : decode cX11_hears 97 = .ok (.iload 6, 2) := by decide +kernel
theorem dX11_hears_99 : decode cX11_hears 99 = .ok (.ifCond .eq 10, 3) := by decide +kernel
theorem dX11_hears_102 : decode cX11_hears 102 = .ok (.aload_n 0, 1) := by decide +kernel
theorem dX11_hears_103 : decode cX11_hears 103 = .ok (.iload 5, 2) := by decide +kernel
theorem dX11_hears_105 : decode cX11_hears 105 = .ok (.iconst 1, 1) := by decide +kernel
theorem dX11_hears_106 : decode cX11_hears 106 = .ok (.invokevirtual 196, 3) := by decide +kernel
theorem dX11_hears_109 : decode cX11_hears 109 = .ok (.aload_n 0, 1) := by decide +kernel
theorem dX11_hears_110 : decode cX11_hears 110 = .ok (.getfield 50, 3) := by decide +kernel
theorem dX11_hears_113 : decode cX11_hears 113 = .ok (.iload 5, 2) := by decide +kernel
theorem dX11_hears_115 : decode cX11_hears 115 = .ok (.aload_n 0, 1) := by decide +kernel
theorem dX11_hears_116 : decode cX11_hears 116 = .ok (.getfield 180, 3) := by decide +kernel
theorem dX11_hears_119 : decode cX11_hears 119 = .ok (.iastore, 1) := by decide +kernel
theorem dX11_hears_120 : decode cX11_hears 120 = .ok (.return_, 1) := by decide +kernel
theorem dX11_hourOf_0 : decode cX11_hourOf 0 = .ok (.iconst 0, 1) := by decide +kernel
theorem dX11_hourOf_1 : decode cX11_hourOf 1 = .ok (.istore_n 2, 1) := by decide +kernel
theorem dX11_hourOf_2 : decode cX11_hourOf 2 = .ok (.iload_n 2, 1) := by decide +kernel
theorem dX11_hourOf_3 : decode cX11_hourOf 3 = .ok (.aload_n 0, 1) := by decide +kernel
theorem dX11_hourOf_4 : decode cX11_hourOf 4 = .ok (.getfield 116, 3) := by decide +kernel
theorem dX11_hourOf_7 : decode cX11_hourOf 7 = .ok (.if_icmp .ge 119, 3) := by decide +kernel
theorem dX11_hourOf_10 : decode cX11_hourOf 10 = .ok (.aload_n 0, 1) := by decide +kernel
theorem dX11_hourOf_11 : decode cX11_hourOf 11 = .ok (.getfield 53, 3) := by decide +kernel
theorem dX11_hourOf_14 : decode cX11_hourOf 14 = .ok (.iload_n 2, 1) := by decide +kernel
theorem dX11_hourOf_15 : decode cX11_hourOf 15 = .ok (.aload_n 0, 1) := by decide +kernel
theorem dX11_hourOf_16 : decode cX11_hourOf 16 = .ok (.iload_n 2, 1) := by decide +kernel
theorem dX11_hourOf_17 : decode cX11_hourOf 17 = .ok (.iload_n 1, 1) := by decide +kernel
theorem dX11_hourOf_18 : decode cX11_hourOf 18 = .ok (.invokevirtual 200, 3) := by decide +kernel
theorem dX11_hourOf_21 : decode cX11_hourOf 21 = .ok (.bastore, 1) := by decide +kernel
theorem dX11_hourOf_22 : decode cX11_hourOf 22 = .ok (.aload_n 0, 1) := by decide +kernel
theorem dX11_hourOf_23 : decode cX11_hourOf 23 = .ok (.getfield 59, 3) := by decide +kernel
theorem dX11_hourOf_26 : decode cX11_hourOf 26 = .ok (.iload_n 2, 1) := by decide +kernel
theorem dX11_hourOf_27 : decode cX11_hourOf 27 = .ok (.aload_n 0, 1) := by decide +kernel
theorem dX11_hourOf_28 : decode cX11_hourOf 28 = .ok (.iload_n 2, 1) := by decide +kernel
theorem dX11_hourOf_29 : decode cX11_hourOf 29 = .ok (.aload_n 0, 1) := by decide +kernel
theorem dX11_hourOf_30 : decode cX11_hourOf 30 = .ok (.getfield 180, 3) := by decide +kernel
theorem dX11_hourOf_33 : decode cX11_hourOf 33 = .ok (.invokevirtual 153, 3) := by decide +kernel
theorem dX11_hourOf_36 : decode cX11_hourOf 36 = .ok (.iastore, 1) := by decide +kernel
theorem dX11_hourOf_37 : decode cX11_hourOf 37 = .ok (.aload_n 0, 1) := by decide +kernel
theorem dX11_hourOf_38 : decode cX11_hourOf 38 = .ok (.getfield 44, 3) := by decide +kernel
theorem dX11_hourOf_41 : decode cX11_hourOf 41 = .ok (.bipush 8, 2) := by decide +kernel
theorem dX11_hourOf_43 : decode cX11_hourOf 43 = .ok (.iload_n 2, 1) := by decide +kernel
theorem dX11_hourOf_44 : decode cX11_hourOf 44 = .ok (.imul, 1) := by decide +kernel
theorem dX11_hourOf_45 : decode cX11_hourOf 45 = .ok (.iload_n 1, 1) := by decide +kernel
theorem dX11_hourOf_46 : decode cX11_hourOf 46 = .ok (.iadd, 1) := by decide +kernel
theorem dX11_hourOf_47 : decode cX11_hourOf 47 = .ok (.iaload, 1) := by decide +kernel
theorem dX11_hourOf_48 : decode cX11_hourOf 48 = .ok (.istore_n 3, 1) := by decide +kernel
theorem dX11_hourOf_49 : decode cX11_hourOf 49 = .ok (.aload_n 0, 1) := by decide +kernel
theorem dX11_hourOf_50 : decode cX11_hourOf 50 = .ok (.getfield 13, 3) := by decide +kernel
theorem dX11_hourOf_53 : decode cX11_hourOf 53 = .ok (.iconst 5, 1) := by decide +kernel
theorem dX11_hourOf_54 : decode cX11_hourOf 54 = .ok (.iload_n 2, 1) := by decide +kernel
theorem dX11_hourOf_55 : decode cX11_hourOf 55 = .ok (.imul, 1) := by decide +kernel
theorem dX11_hourOf_56 : decode cX11_hourOf 56 = .ok (.iconst 1, 1) := by decide +kernel
theorem dX11_hourOf_57 : decode cX11_hourOf 57 = .ok (.iadd, 1) := by decide +kernel
theorem dX11_hourOf_58 : decode cX11_hourOf 58 = .ok (.iaload, 1) := by decide +kernel
theorem dX11_hourOf_59 : decode cX11_hourOf 59 = .ok (.istore 4, 2) := by decide +kernel
theorem dX11_hourOf_61 : decode cX11_hourOf 61 = .ok (.iload 4, 2) := by decide +kernel
theorem dX11_hourOf_63 : decode cX11_hourOf 63 = .ok (.ifCond .ne 7, 3) := by decide +kernel
theorem dX11_hourOf_66 : decode cX11_hourOf 66 = .ok (.iconst 0, 1) := by decide +kernel
theorem dX11_hourOf_67 : decode cX11_hourOf 67 = .ok (.goto 9, 3) := by decide +kernel
theorem dX11_hourOf_70 : decode cX11_hourOf 70 = .ok (.iload_n 3, 1) := by decide +kernel
theorem dX11_hourOf_71 : decode cX11_hourOf 71 = .ok (.iload 4, 2) := by decide +kernel
theorem dX11_hourOf_73 : decode cX11_hourOf 73 = .ok (.invokestatic 177, 3) := by decide +kernel
theorem dX11_hourOf_76 : decode cX11_hourOf 76 = .ok (.istore 5, 2) := by decide +kernel
theorem dX11_hourOf_78 : decode cX11_hourOf 78 = .ok (.aload_n 0, 1) := by decide +kernel
theorem dX11_hourOf_79 : decode cX11_hourOf 79 = .ok (.getfield 56, 3) := by decide +kernel
theorem dX11_hourOf_82 : decode cX11_hourOf 82 = .ok (.iload_n 2, 1) := by decide +kernel
theorem dX11_hourOf_83 : decode cX11_hourOf 83 = .ok (.iload 4, 2) := by decide +kernel
theorem dX11_hourOf_85 : decode cX11_hourOf 85 = .ok (.ifCond .ne 7, 3) := by decide +kernel
theorem dX11_hourOf_88 : decode cX11_hourOf 88 = .ok (.iload_n 3, 1) := by decide +kernel
theorem dX11_hourOf_89 : decode cX11_hourOf 89 = .ok (.goto 30, 3) := by decide +kernel
theorem dX11_hourOf_92 : decode cX11_hourOf 92 = .ok (.iload 5, 2) := by decide +kernel
theorem dX11_hourOf_94 : decode cX11_hourOf 94 = .ok (.bipush 9, 2) := by decide +kernel
theorem dX11_hourOf_96 : decode cX11_hourOf 96 = .ok (.if_icmp .ne 16, 3) := by decide +kernel
theorem dX11_hourOf_99 : decode cX11_hourOf 99 = .ok (.iload_n 3, 1) := by decide +kernel
theorem dX11_hourOf_100 : decode cX11_hourOf 100 = .ok (.bipush 9, 2) := by decide +kernel
theorem dX11_hourOf_102 : decode cX11_hourOf 102 = .ok (.iload 4, 2) := by decide +kernel
theorem dX11_hourOf_104 : decode cX11_hourOf 104 = .ok (.invokestatic 160, 3) := by decide +kernel
theorem dX11_hourOf_107 : decode cX11_hourOf 107 = .ok (.imul, 1) := by decide +kernel
theorem dX11_hourOf_108 : decode cX11_hourOf 108 = .ok (.isub, 1) := by decide +kernel
theorem dX11_hourOf_109 : decode cX11_hourOf 109 = .ok (.goto 10, 3) := by decide +kernel
theorem dX11_hourOf_112 : decode cX11_hourOf 112 = .ok (.iload_n 3, 1) := by decide +kernel
theorem dX11_hourOf_113 : decode cX11_hourOf 113 = .ok (.iload 4, 2) := by decide +kernel
theorem dX11_hourOf_115 : decode cX11_hourOf 115 = .ok (.invokestatic 160, 3) := by decide +kernel
theorem dX11_hourOf_118 : decode cX11_hourOf 118 = .ok (.iadd, 1) := by decide +kernel
theorem dX11_hourOf_119 : decode cX11_hourOf 119 = .ok (.iastore, 1) := by decide +kernel
theorem dX11_hourOf_120 : decode cX11_hourOf 120 = .ok (.iinc 2 1, 3) := by decide +kernel
theorem dX11_hourOf_123 : decode cX11_hourOf 123 = .ok (.goto (-121), 3) := by decide +kernel
theorem dX11_hourOf_126 : decode cX11_hourOf 126 = .ok (.iconst 0, 1) := by decide +kernel
theorem dX11_hourOf_127 : decode cX11_hourOf 127 = .ok (.istore_n 2, 1) := by decide +kernel
theorem dX11_hourOf_128 : decode cX11_hourOf 128 = .ok (.iload_n 2, 1) := by decide +kernel
theorem dX11_hourOf_129 : decode cX11_hourOf 129 = .ok (.aload_n 0, 1) := by decide +kernel
theorem dX11_hourOf_130 : decode cX11_hourOf 130 = .ok (.getfield 116, 3) := by decide +kernel
theorem dX11_hourOf_133 : decode cX11_hourOf 133 = .ok (.if_icmp .ge 170, 3) := by decide +kernel
theorem dX11_hourOf_136 : decode cX11_hourOf 136 = .ok (.iconst 0, 1) := by decide +kernel
theorem dX11_hourOf_137 : decode cX11_hourOf 137 = .ok (.istore_n 3, 1) := by decide +kernel
theorem dX11_hourOf_138 : decode cX11_hourOf 138 = .ok (.bipush (-4), 2) := by decide +kernel
theorem dX11_hourOf_140 : decode cX11_hourOf 140 = .ok (.istore 4, 2) := by decide +kernel
theorem dX11_hourOf_142 : decode cX11_hourOf 142 = .ok (.aload_n 0, 1) := by decide +kernel
theorem dX11_hourOf_143 : decode cX11_hourOf 143 = .ok (.getfield 116, 3) := by decide +kernel
theorem dX11_hourOf_146 : decode cX11_hourOf 146 = .ok (.iconst 1, 1) := by decide +kernel
theorem dX11_hourOf_147 : decode cX11_hourOf 147 = .ok (.isub, 1) := by decide +kernel
theorem dX11_hourOf_148 : decode cX11_hourOf 148 = .ok (.istore 5, 2) := by decide +kernel
theorem dX11_hourOf_150 : decode cX11_hourOf 150 = .ok (.iload 5, 2) := by decide +kernel
theorem dX11_hourOf_152 : decode cX11_hourOf 152 = .ok (.ifCond .lt 75, 3) := by decide +kernel
theorem dX11_hourOf_155 : decode cX11_hourOf 155 = .ok (.iload 5, 2) := by decide +kernel
theorem dX11_hourOf_157 : decode cX11_hourOf 157 = .ok (.iload_n 2, 1) := by decide +kernel
theorem dX11_hourOf_158 : decode cX11_hourOf 158 = .ok (.if_icmp .eq 33, 3) := by decide +kernel
theorem dX11_hourOf_161 : decode cX11_hourOf 161 = .ok (.aload_n 0, 1) := by decide +kernel
theorem dX11_hourOf_162 : decode cX11_hourOf 162 = .ok (.getfield 53, 3) := by decide +kernel
theorem dX11_hourOf_165 : decode cX11_hourOf 165 = .ok (.iload 5, 2) := by decide +kernel
theorem dX11_hourOf_167 : decode cX11_hourOf 167 = .ok (.baload, 1) := by decide +kernel
theorem dX11_hourOf_168 : decode cX11_hourOf 168 = .ok (.ifCond .eq 23, 3) := by decide +kernel
theorem dX11_hourOf_171 : decode cX11_hourOf 171 = .ok (.aload_n 0, 1) := by decide +kernel
theorem dX11_hourOf_172 : decode cX11_hourOf 172 = .ok (.getfield 59, 3) := by decide +kernel
theorem dX11_hourOf_175 : decode cX11_hourOf 175 = .ok (.iload 5, 2) := by decide +kernel
theorem dX11_hourOf_177 : decode cX11_hourOf 177 = .ok (.iaload, 1) := by decide +kernel
theorem dX11_hourOf_178 : decode cX11_hourOf 178 = .ok (.aload_n 0, 1) := by decide +kernel
theorem dX11_hourOf_179 : decode cX11_hourOf 179 = .ok (.getfield 59, 3) := by decide +kernel
theorem dX11_hourOf_182 : decode cX11_hourOf 182 = .ok (.iload_n 2, 1) := by decide +kernel
theorem dX11_hourOf_183 : decode cX11_hourOf 183 = .ok (.iaload, 1) := by decide +kernel
theorem dX11_hourOf_184 : decode cX11_hourOf 184 = .ok (.if_icmp .ne 7, 3) := by decide +kernel
theorem dX11_hourOf_187 : decode cX11_hourOf 187 = .ok (.iconst 1, 1) := by decide +kernel
theorem dX11_hourOf_188 : decode cX11_hourOf 188 = .ok (.goto 4, 3) := by decide +kernel
theorem dX11_hourOf_191 : decode cX11_hourOf 191 = .ok (.iconst 0, 1) := by decide +kernel
theorem dX11_hourOf_192 : decode cX11_hourOf 192 = .ok (.istore 6, 2) := by decide +kernel
theorem dX11_hourOf_194 : decode cX11_hourOf 194 = .ok (.iload_n 3, 1) := by decide +kernel
theorem dX11_hourOf_195 : decode cX11_hourOf 195 = .ok (.iload 6, 2) := by decide +kernel
theorem dX11_hourOf_197 : decode cX11_hourOf 197 = .ok (.ifCond .eq 7, 3) := by decide +kernel
theorem dX11_hourOf_200 : decode cX11_hourOf 200 = .ok (.iconst 1, 1) := by decide +kernel
theorem dX11_hourOf_201 : decode cX11_hourOf 201 = .ok (.goto 4, 3) := by decide +kernel
theorem dX11_hourOf_204 : decode cX11_hourOf 204 = .ok (.iconst 0, 1) := by decide +kernel
theorem dX11_hourOf_205 : decode cX11_hourOf 205 = .ok (.iadd, 1) := by decide +kernel
theorem dX11_hourOf_206 : decode cX11_hourOf 206 = .ok (.istore_n 3, 1) := by decide +kernel
theorem dX11_hourOf_207 : decode cX11_hourOf 207 = .ok (.iload 6, 2) := by decide +kernel
theorem dX11_hourOf_209 : decode cX11_hourOf 209 = .ok (.ifCond .eq 8, 3) := by decide +kernel
theorem dX11_hourOf_212 : decode cX11_hourOf 212 = .ok (.iload 5, 2) := by decide +kernel
theorem dX11_hourOf_214 : decode cX11_hourOf 214 = .ok (.goto 5, 3) := by decide +kernel
theorem dX11_hourOf_217 : decode cX11_hourOf 217 = .ok (.iload 4, 2) := by decide +kernel
theorem dX11_hourOf_219 : decode cX11_hourOf 219 = .ok (.istore 4, 2) := by decide +kernel
theorem dX11_hourOf_221 : decode cX11_hourOf 221 = .ok (.iinc 5 (-1), 3) := by decide +kernel
theorem dX11_hourOf_224 : decode cX11_hourOf 224 = .ok (.goto (-74), 3) := by decide +kernel
theorem dX11_hourOf_227 : decode cX11_hourOf 227 = .ok (.bipush 8, 2) := by decide +kernel
theorem dX11_hourOf_229 : decode cX11_hourOf 229 = .ok (.iload_n 2, 1) := by decide +kernel
theorem dX11_hourOf_230 : decode cX11_hourOf 230 = .ok (.imul, 1) := by decide +kernel
theorem dX11_hourOf_231 : decode cX11_hourOf 231 = .ok (.iload_n 1, 1) := by decide +kernel
theorem dX11_hourOf_232 : decode cX11_hourOf 232 = .ok (.iadd, 1) := by decide +kernel
theorem dX11_hourOf_233 : decode cX11_hourOf 233 = .ok (.istore 5, 2) := by decide +kernel
theorem dX11_hourOf_235 : decode cX11_hourOf 235 = .ok (.iload_n 3, 1) := by decide +kernel
theorem dX11_hourOf_236 : decode cX11_hourOf 236 = .ok (.ifCond .le 15, 3) := by decide +kernel
theorem dX11_hourOf_239 : decode cX11_hourOf 239 = .ok (.aload_n 0, 1) := by decide +kernel
theorem dX11_hourOf_240 : decode cX11_hourOf 240 = .ok (.iload_n 2, 1) := by decide +kernel
theorem dX11_hourOf_241 : decode cX11_hourOf 241 = .ok (.iload_n 1, 1) := by decide +kernel
theorem dX11_hourOf_242 : decode cX11_hourOf 242 = .ok (.iload_n 3, 1) := by decide +kernel
theorem dX11_hourOf_243 : decode cX11_hourOf 243 = .ok (.iload 4, 2) := by decide +kernel
theorem dX11_hourOf_245 : decode cX11_hourOf 245 = .ok (.invokevirtual 204, 3) := by decide +kernel
theorem dX11_hourOf_248 : decode cX11_hourOf 248 = .ok (.goto 49, 3) := by decide +kernel
theorem dX11_hourOf_251 : decode cX11_hourOf 251 = .ok (.aload_n 0, 1) := by decide +kernel
theorem dX11_hourOf_252 : decode cX11_hourOf 252 = .ok (.getfield 38, 3) := by decide +kernel
theorem dX11_hourOf_255 : decode cX11_hourOf 255 = .ok (.iload 5, 2) := by decide +kernel
theorem dX11_hourOf_257 : decode cX11_hourOf 257 = .ok (.iaload, 1) := by decide +kernel
theorem dX11_hourOf_258 : decode cX11_hourOf 258 = .ok (.iconst 1, 1) := by decide +kernel
theorem dX11_hourOf_259 : decode cX11_hourOf 259 = .ok (.if_icmp .eq 14, 3) := by decide +kernel
theorem dX11_hourOf_262 : decode cX11_hourOf 262 = .ok (.aload_n 0, 1) := by decide +kernel
theorem dX11_hourOf_263 : decode cX11_hourOf 263 = .ok (.getfield 38, 3) := by decide +kernel
theorem dX11_hourOf_266 : decode cX11_hourOf 266 = .ok (.iload 5, 2) := by decide +kernel
theorem dX11_hourOf_268 : decode cX11_hourOf 268 = .ok (.iaload, 1) := by decide +kernel
theorem dX11_hourOf_269 : decode cX11_hourOf 269 = .ok (.iconst 2, 1) := by decide +kernel
theorem dX11_hourOf_270 : decode cX11_hourOf 270 = .ok (.if_icmp .ne 27, 3) := by decide +kernel
theorem dX11_hourOf_273 : decode cX11_hourOf 273 = .ok (.aload_n 0, 1) := by decide +kernel
theorem dX11_hourOf_274 : decode cX11_hourOf 274 = .ok (.getfield 180, 3) := by decide +kernel
theorem dX11_hourOf_277 : decode cX11_hourOf 277 = .ok (.aload_n 0, 1) := by decide +kernel
theorem dX11_hourOf_278 : decode cX11_hourOf 278 = .ok (.getfield 50, 3) := by decide +kernel
theorem dX11_hourOf_281 : decode cX11_hourOf 281 = .ok (.iload 5, 2) := by decide +kernel
theorem dX11_hourOf_283 : decode cX11_hourOf 283 = .ok (.iaload, 1) := by decide +kernel
theorem dX11_hourOf_284 : decode cX11_hourOf 284 = .ok (.isub, 1) := by decide +kernel
theorem dX11_hourOf_285 : decode cX11_hourOf 285 = .ok (.bipush 48, 2) := by decide +kernel
theorem dX11_hourOf_287 : decode cX11_hourOf 287 = .ok (.if_icmp .lt 10, 3) := by decide +kernel
theorem dX11_hourOf_290 : decode cX11_hourOf 290 = .ok (.aload_n 0, 1) := by decide +kernel
theorem dX11_hourOf_291 : decode cX11_hourOf 291 = .ok (.iload 5, 2) := by decide +kernel
theorem dX11_hourOf_293 : decode cX11_hourOf 293 = .ok (.iconst 3, 1) := by decide +kernel
theorem dX11_hourOf_294 : decode cX11_hourOf 294 = .ok (.invokevirtual 196, 3) := by decide +kernel
theorem dX11_hourOf_297 : decode cX11_hourOf 297 = .ok (.iinc 2 1, 3) := by decide +kernel
theorem dX11_hourOf_300 : decode cX11_hourOf 300 = .ok (.goto (-172), 3) := by decide +kernel
theorem dX11_hourOf_303 : decode cX11_hourOf 303 = .ok (.return_, 1) := by decide +kernel
theorem dX11_hour_0 : decode cX11_hour 0 = .ok (.iconst 0, 1) := by decide +kernel
theorem dX11_hour_1 : decode cX11_hour 1 = .ok (.istore_n 1, 1) := by decide +kernel
theorem dX11_hour_2 : decode cX11_hour 2 = .ok (.iload_n 1, 1) := by decide +kernel
theorem dX11_hour_3 : decode cX11_hour 3 = .ok (.aload_n 0, 1) := by decide +kernel
theorem dX11_hour_4 : decode cX11_hour 4 = .ok (.getfield 157, 3) := by decide +kernel
theorem dX11_hour_7 : decode cX11_hour 7 = .ok (.if_icmp .ge 14, 3) := by decide +kernel
theorem dX11_hour_10 : decode cX11_hour 10 = .ok (.aload_n 0, 1) := by decide +kernel
theorem dX11_hour_11 : decode cX11_hour 11 = .ok (.iload_n 1, 1) := by decide +kernel
theorem dX11_hour_12 : decode cX11_hour 12 = .ok (.invokevirtual 207, 3) := by decide +kernel
theorem dX11_hour_15 : decode cX11_hour 15 = .ok (.iinc 1 1, 3) := by decide +kernel
theorem dX11_hour_18 : decode cX11_hour 18 = .ok (.goto (-16), 3) := by decide +kernel
theorem dX11_hour_21 : decode cX11_hour 21 = .ok (.aload_n 0, 1) := by decide +kernel
theorem dX11_hour_22 : decode cX11_hour 22 = .ok (.dup, 1) := by decide +kernel
theorem dX11_hour_23 : decode cX11_hour 23 = .ok (.getfield 180, 3) := by decide +kernel
theorem dX11_hour_26 : decode cX11_hour 26 = .ok (.iconst 1, 1) := by decide +kernel
theorem dX11_hour_27 : decode cX11_hour 27 = .ok (.iadd, 1) := by decide +kernel
theorem dX11_hour_28 : decode cX11_hour 28 = .ok (.putfield 180, 3) := by decide +kernel
theorem dX11_hour_31 : decode cX11_hour 31 = .ok (.return_, 1) := by decide +kernel
theorem dX11_hours_0 : decode cX11_hours 0 = .ok (.iload_n 1, 1) := by decide +kernel
theorem dX11_hours_1 : decode cX11_hours 1 = .ok (.i2l, 1) := by decide +kernel
theorem dX11_hours_2 : decode cX11_hours 2 = .ok (.lconst 1, 1) := by decide +kernel
theorem dX11_hours_3 : decode cX11_hours 3 = .ok (.ldc2_w 211, 3) := by decide +kernel
theorem dX11_hours_6 : decode cX11_hours 6 = .ok (.invokestatic 120, 3) := by decide +kernel
theorem dX11_hours_9 : decode cX11_hours 9 = .ok (.ifCond .ne 5, 3) := by decide +kernel
theorem dX11_hours_12 : decode cX11_hours 12 = .ok (.iconst (-1), 1) := by decide +kernel
theorem dX11_hours_13 : decode cX11_hours 13 = .ok (.ireturn, 1) := by decide +kernel
theorem dX11_hours_14 : decode cX11_hours 14 = .ok (.aload_n 0, 1) := by decide +kernel
theorem dX11_hours_15 : decode cX11_hours 15 = .ok (.getfield 180, 3) := by decide +kernel
theorem dX11_hours_18 : decode cX11_hours 18 = .ok (.iload_n 1, 1) := by decide +kernel
theorem dX11_hours_19 : decode cX11_hours 19 = .ok (.iadd, 1) := by decide +kernel
theorem dX11_hours_20 : decode cX11_hours 20 = .ok (.sipush 9999, 3) := by decide +kernel
theorem dX11_hours_23 : decode cX11_hours 23 = .ok (.if_icmp .le 6, 3) := by decide +kernel
theorem dX11_hours_26 : decode cX11_hours 26 = .ok (.bipush (-2), 2) := by decide +kernel
theorem dX11_hours_28 : decode cX11_hours 28 = .ok (.ireturn, 1) := by decide +kernel
theorem dX11_hours_29 : decode cX11_hours 29 = .ok (.iconst 0, 1) := by decide +kernel
theorem dX11_hours_30 : decode cX11_hours 30 = .ok (.istore_n 2, 1) := by decide +kernel
theorem dX11_hours_31 : decode cX11_hours 31 = .ok (.iload_n 2, 1) := by decide +kernel
theorem dX11_hours_32 : decode cX11_hours 32 = .ok (.iload_n 1, 1) := by decide +kernel
theorem dX11_hours_33 : decode cX11_hours 33 = .ok (.if_icmp .ge 13, 3) := by decide +kernel
theorem dX11_hours_36 : decode cX11_hours 36 = .ok (.aload_n 0, 1) := by decide +kernel
theorem dX11_hours_37 : decode cX11_hours 37 = .ok (.invokevirtual 213, 3) := by decide +kernel
theorem dX11_hours_40 : decode cX11_hours 40 = .ok (.iinc 2 1, 3) := by decide +kernel
theorem dX11_hours_43 : decode cX11_hours 43 = .ok (.goto (-12), 3) := by decide +kernel
theorem dX11_hours_46 : decode cX11_hours 46 = .ok (.aload_n 0, 1) := by decide +kernel
theorem dX11_hours_47 : decode cX11_hours 47 = .ok (.getfield 180, 3) := by decide +kernel
theorem dX11_hours_50 : decode cX11_hours 50 = .ok (.ireturn, 1) := by decide +kernel
theorem dX11_stateMany_0 : decode cX11_stateMany 0 = .ok (.iconst 0, 1) := by decide +kernel
theorem dX11_stateMany_1 : decode cX11_stateMany 1 = .ok (.istore_n 3, 1) := by decide +kernel
theorem dX11_stateMany_2 : decode cX11_stateMany 2 = .ok (.iconst 0, 1) := by decide +kernel
theorem dX11_stateMany_3 : decode cX11_stateMany 3 = .ok (.istore 4, 2) := by decide +kernel
theorem dX11_stateMany_5 : decode cX11_stateMany 5 = .ok (.iload 4, 2) := by decide +kernel
theorem dX11_stateMany_7 : decode cX11_stateMany 7 = .ok (.aload_n 0, 1) := by decide +kernel
theorem dX11_stateMany_8 : decode cX11_stateMany 8 = .ok (.getfield 116, 3) := by decide +kernel
theorem dX11_stateMany_11 : decode cX11_stateMany 11 = .ok (.if_icmp .ge 33, 3) := by decide +kernel
theorem dX11_stateMany_14 : decode cX11_stateMany 14 = .ok (.iload_n 3, 1) := by decide +kernel
theorem dX11_stateMany_15 : decode cX11_stateMany 15 = .ok (.aload_n 0, 1) := by decide +kernel
theorem dX11_stateMany_16 : decode cX11_stateMany 16 = .ok (.getfield 38, 3) := by decide +kernel
theorem dX11_stateMany_19 : decode cX11_stateMany 19 = .ok (.bipush 8, 2) := by decide +kernel
theorem dX11_stateMany_21 : decode cX11_stateMany 21 = .ok (.iload 4, 2) := by decide +kernel
theorem dX11_stateMany_23 : decode cX11_stateMany 23 = .ok (.imul, 1) := by decide +kernel
theorem dX11_stateMany_24 : decode cX11_stateMany 24 = .ok (.iload_n 1, 1) := by decide +kernel
theorem dX11_stateMany_25 : decode cX11_stateMany 25 = .ok (.iadd, 1) := by decide +kernel
theorem dX11_stateMany_26 : decode cX11_stateMany 26 = .ok (.iaload, 1) := by decide +kernel
theorem dX11_stateMany_27 : decode cX11_stateMany 27 = .ok (.iload_n 2, 1) := by decide +kernel
theorem dX11_stateMany_28 : decode cX11_stateMany 28 = .ok (.if_icmp .ne 7, 3) := by decide +kernel
theorem dX11_stateMany_31 : decode cX11_stateMany 31 = .ok (.iconst 1, 1) := by decide +kernel
theorem dX11_stateMany_32 : decode cX11_stateMany 32 = .ok (.goto 4, 3) := by decide +kernel
theorem dX11_stateMany_35 : decode cX11_stateMany 35 = .ok (.iconst 0, 1) := by decide +kernel
theorem dX11_stateMany_36 : decode cX11_stateMany 36 = .ok (.iadd, 1) := by decide +kernel
theorem dX11_stateMany_37 : decode cX11_stateMany 37 = .ok (.istore_n 3, 1) := by decide +kernel
theorem dX11_stateMany_38 : decode cX11_stateMany 38 = .ok (.iinc 4 1, 3) := by decide +kernel
theorem dX11_stateMany_41 : decode cX11_stateMany 41 = .ok (.goto (-36), 3) := by decide +kernel
theorem dX11_stateMany_44 : decode cX11_stateMany 44 = .ok (.iload_n 3, 1) := by decide +kernel
theorem dX11_stateMany_45 : decode cX11_stateMany 45 = .ok (.ireturn, 1) := by decide +kernel
theorem dX11_reach_0 : decode cX11_reach 0 = .ok (.aload_n 0, 1) := by decide +kernel
theorem dX11_reach_1 : decode cX11_reach 1 = .ok (.iload_n 1, 1) := by decide +kernel
theorem dX11_reach_2 : decode cX11_reach 2 = .ok (.invokevirtual 174, 3) := by decide +kernel
theorem dX11_reach_5 : decode cX11_reach 5 = .ok (.ifCond .eq 24, 3) := by decide +kernel
theorem dX11_reach_8 : decode cX11_reach 8 = .ok (.iload_n 2, 1) := by decide +kernel
theorem dX11_reach_9 : decode cX11_reach 9 = .ok (.i2l, 1) := by decide +kernel
theorem dX11_reach_10 : decode cX11_reach 10 = .ok (.lconst 0, 1) := by decide +kernel
theorem dX11_reach_11 : decode cX11_reach 11 = .ok (.ldc2_w 216, 3) := by decide +kernel
theorem dX11_reach_14 : decode cX11_reach 14 = .ok (.invokestatic 120, 3) := by decide +kernel
theorem dX11_reach_17 : decode cX11_reach 17 = .ok (.ifCond .eq 12, 3) := by decide +kernel
theorem dX11_reach_20 : decode cX11_reach 20 = .ok (.aload_n 0, 1) := by decide +kernel
theorem dX11_reach_21 : decode cX11_reach 21 = .ok (.iload_n 1, 1) := by decide +kernel
theorem dX11_reach_22 : decode cX11_reach 22 = .ok (.iload_n 2, 1) := by decide +kernel
theorem dX11_reach_23 : decode cX11_reach 23 = .ok (.invokevirtual 218, 3) := by decide +kernel
theorem dX11_reach_26 : decode cX11_reach 26 = .ok (.goto 4, 3) := by decide +kernel
theorem dX11_reach_29 : decode cX11_reach 29 = .ok (.iconst (-1), 1) := by decide +kernel
theorem dX11_reach_30 : decode cX11_reach 30 = .ok (.ireturn, 1) := by decide +kernel
theorem dX11_harmOf_0 : decode cX11_harmOf 0 = .ok (.iconst 0, 1) := by decide +kernel
theorem dX11_harmOf_1 : decode cX11_harmOf 1 = .ok (.istore_n 2, 1) := by decide +kernel
theorem dX11_harmOf_2 : decode cX11_harmOf 2 = .ok (.iconst 0, 1) := by decide +kernel
theorem dX11_harmOf_3 : decode cX11_harmOf 3 = .ok (.istore_n 3, 1) := by decide +kernel
theorem dX11_harmOf_4 : decode cX11_harmOf 4 = .ok (.iload_n 3, 1) := by decide +kernel
theorem dX11_harmOf_5 : decode cX11_harmOf 5 = .ok (.aload_n 0, 1) := by decide +kernel
theorem dX11_harmOf_6 : decode cX11_harmOf 6 = .ok (.getfield 116, 3) := by decide +kernel
theorem dX11_harmOf_9 : decode cX11_harmOf 9 = .ok (.if_icmp .ge 61, 3) := by decide +kernel
theorem dX11_harmOf_12 : decode cX11_harmOf 12 = .ok (.aload_n 0, 1) := by decide +kernel
theorem dX11_harmOf_13 : decode cX11_harmOf 13 = .ok (.getfield 16, 3) := by decide +kernel
theorem dX11_harmOf_16 : decode cX11_harmOf 16 = .ok (.iload_n 1, 1) := by decide +kernel
theorem dX11_harmOf_17 : decode cX11_harmOf 17 = .ok (.iaload, 1) := by decide +kernel
theorem dX11_harmOf_18 : decode cX11_harmOf 18 = .ok (.iconst 3, 1) := by decide +kernel
theorem dX11_harmOf_19 : decode cX11_harmOf 19 = .ok (.if_icmp .eq 51, 3) := by decide +kernel
theorem dX11_harmOf_22 : decode cX11_harmOf 22 = .ok (.iload_n 2, 1) := by decide +kernel
theorem dX11_harmOf_23 : decode cX11_harmOf 23 = .ok (.aload_n 0, 1) := by decide +kernel
theorem dX11_harmOf_24 : decode cX11_harmOf 24 = .ok (.getfield 38, 3) := by decide +kernel
theorem dX11_harmOf_27 : decode cX11_harmOf 27 = .ok (.bipush 8, 2) := by decide +kernel
theorem dX11_harmOf_29 : decode cX11_harmOf 29 = .ok (.iload_n 3, 1) := by decide +kernel
theorem dX11_harmOf_30 : decode cX11_harmOf 30 = .ok (.imul, 1) := by decide +kernel
theorem dX11_harmOf_31 : decode cX11_harmOf 31 = .ok (.iload_n 1, 1) := by decide +kernel
theorem dX11_harmOf_32 : decode cX11_harmOf 32 = .ok (.iadd, 1) := by decide +kernel
theorem dX11_harmOf_33 : decode cX11_harmOf 33 = .ok (.iaload, 1) := by decide +kernel
theorem dX11_harmOf_34 : decode cX11_harmOf 34 = .ok (.iconst 1, 1) := by decide +kernel
theorem dX11_harmOf_35 : decode cX11_harmOf 35 = .ok (.if_icmp .ne 26, 3) := by decide +kernel
theorem dX11_harmOf_38 : decode cX11_harmOf 38 = .ok (.aload_n 0, 1) := by decide +kernel
theorem dX11_harmOf_39 : decode cX11_harmOf 39 = .ok (.getfield 35, 3) := by decide +kernel
theorem dX11_harmOf_42 : decode cX11_harmOf 42 = .ok (.aload_n 0, 1) := by decide +kernel
theorem dX11_harmOf_43 : decode cX11_harmOf 43 = .ok (.getfield 44, 3) := by decide +kernel
theorem dX11_harmOf_46 : decode cX11_harmOf 46 = .ok (.bipush 8, 2) := by decide +kernel
theorem dX11_harmOf_48 : decode cX11_harmOf 48 = .ok (.iload_n 3, 1) := by decide +kernel
theorem dX11_harmOf_49 : decode cX11_harmOf 49 = .ok (.imul, 1) := by decide +kernel
theorem dX11_harmOf_50 : decode cX11_harmOf 50 = .ok (.iload_n 1, 1) := by decide +kernel
theorem dX11_harmOf_51 : decode cX11_harmOf 51 = .ok (.iadd, 1) := by decide +kernel
theorem dX11_harmOf_52 : decode cX11_harmOf 52 = .ok (.iaload, 1) := by decide +kernel
theorem dX11_harmOf_53 : decode cX11_harmOf 53 = .ok (.iconst 2, 1) := by decide +kernel
theorem dX11_harmOf_54 : decode cX11_harmOf 54 = .ok (.invokestatic 177, 3) := by decide +kernel
theorem dX11_harmOf_57 : decode cX11_harmOf 57 = .ok (.iaload, 1) := by decide +kernel
theorem dX11_harmOf_58 : decode cX11_harmOf 58 = .ok (.goto 4, 3) := by decide +kernel
theorem dX11_harmOf_61 : decode cX11_harmOf 61 = .ok (.iconst 0, 1) := by decide +kernel
theorem dX11_harmOf_62 : decode cX11_harmOf 62 = .ok (.iadd, 1) := by decide +kernel
theorem dX11_harmOf_63 : decode cX11_harmOf 63 = .ok (.istore_n 2, 1) := by decide +kernel
theorem dX11_harmOf_64 : decode cX11_harmOf 64 = .ok (.iinc 3 1, 3) := by decide +kernel
theorem dX11_harmOf_67 : decode cX11_harmOf 67 = .ok (.goto (-63), 3) := by decide +kernel
theorem dX11_harmOf_70 : decode cX11_harmOf 70 = .ok (.iload_n 2, 1) := by decide +kernel
theorem dX11_harmOf_71 : decode cX11_harmOf 71 = .ok (.ireturn, 1) := by decide +kernel
theorem dX11_harm_0 : decode cX11_harm 0 = .ok (.aload_n 0, 1) := by decide +kernel
theorem dX11_harm_1 : decode cX11_harm 1 = .ok (.iload_n 1, 1) := by decide +kernel
theorem dX11_harm_2 : decode cX11_harm 2 = .ok (.invokevirtual 174, 3) := by decide +kernel
theorem dX11_harm_5 : decode cX11_harm 5 = .ok (.ifCond .eq 11, 3) := by decide +kernel
theorem dX11_harm_8 : decode cX11_harm 8 = .ok (.aload_n 0, 1) := by decide +kernel
theorem dX11_harm_9 : decode cX11_harm 9 = .ok (.iload_n 1, 1) := by decide +kernel
theorem dX11_harm_10 : decode cX11_harm 10 = .ok (.invokevirtual 221, 3) := by decide +kernel
theorem dX11_harm_13 : decode cX11_harm 13 = .ok (.goto 4, 3) := by decide +kernel
theorem dX11_harm_16 : decode cX11_harm 16 = .ok (.iconst (-1), 1) := by decide +kernel
theorem dX11_harm_17 : decode cX11_harm 17 = .ok (.ireturn, 1) := by decide +kernel
theorem dX11_denies_0 : decode cX11_denies 0 = .ok (.iload_n 2, 1) := by decide +kernel
theorem dX11_denies_1 : decode cX11_denies 1 = .ok (.ifCond .ne 7, 3) := by decide +kernel
theorem dX11_denies_4 : decode cX11_denies 4 = .ok (.iconst 3, 1) := by decide +kernel
theorem dX11_denies_5 : decode cX11_denies 5 = .ok (.goto 13, 3) := by decide +kernel
theorem dX11_denies_8 : decode cX11_denies 8 = .ok (.iload_n 2, 1) := by decide +kernel
theorem dX11_denies_9 : decode cX11_denies 9 = .ok (.iconst 1, 1) := by decide +kernel
theorem dX11_denies_10 : decode cX11_denies 10 = .ok (.if_icmp .ne 7, 3) := by decide +kernel
theorem dX11_denies_13 : decode cX11_denies 13 = .ok (.iconst 5, 1) := by decide +kernel
theorem dX11_denies_14 : decode cX11_denies 14 = .ok (.goto 4, 3) := by decide +kernel
theorem dX11_denies_17 : decode cX11_denies 17 = .ok (.iconst 1, 1) := by decide +kernel
theorem dX11_denies_18 : decode cX11_denies 18 = .ok (.istore_n 3, 1) := by decide +kernel
theorem dX11_denies_19 : decode cX11_denies 19 = .ok (.iconst 0, 1) := by decide +kernel
theorem dX11_denies_20 : decode cX11_denies 20 = .ok (.istore 4, 2) := by decide +kernel
theorem dX11_denies_22 : decode cX11_denies 22 = .ok (.iconst 0, 1) := by decide +kernel
theorem dX11_denies_23 : decode cX11_denies 23 = .ok (.istore 5, 2) := by decide +kernel
theorem dX11_denies_25 : decode cX11_denies 25 = .ok (.iload 5, 2) := by decide +kernel
theorem dX11_denies_27 : decode cX11_denies 27 = .ok (.aload_n 0, 1) := by decide +kernel
theorem dX11_denies_28 : decode cX11_denies 28 = .ok (.getfield 116, 3) := by decide +kernel
theorem dX11_denies_31 : decode cX11_denies 31 = .ok (.if_icmp .ge 175, 3) := by decide +kernel
theorem dX11_denies_34 : decode cX11_denies 34 = .ok (.bipush 8, 2) := by decide +kernel
theorem dX11_denies_36 : decode cX11_denies 36 = .ok (.iload 5, 2) := by decide +kernel
theorem dX11_denies_38 : decode cX11_denies 38 = .ok (.imul, 1) := by decide +kernel
theorem dX11_denies_39 : decode cX11_denies 39 = .ok (.iload_n 1, 1) := by decide +kernel
theorem dX11_denies_40 : decode cX11_denies 40 = .ok (.iadd, 1) := by decide +kernel
theorem dX11_denies_41 : decode cX11_denies 41 = .ok (.istore 6, 2) := by decide +kernel
theorem dX11_denies_43 : decode cX11_denies 43 = .ok (.aload_n 0, 1) := by decide +kernel
theorem dX11_denies_44 : decode cX11_denies 44 = .ok (.getfield 38, 3) := by decide +kernel
theorem dX11_denies_47 : decode cX11_denies 47 = .ok (.iload 6, 2) := by decide +kernel
theorem dX11_denies_49 : decode cX11_denies 49 = .ok (.iaload, 1) := by decide +kernel
theorem dX11_denies_50 : decode cX11_denies 50 = .ok (.istore 7, 2) := by decide +kernel
theorem dX11_denies_52 : decode cX11_denies 52 = .ok (.iload 7, 2) := by decide +kernel
theorem dX11_denies_54 : decode cX11_denies 54 = .ok (.ifCond .eq 9, 3) := by decide +kernel
theorem dX11_denies_57 : decode cX11_denies 57 = .ok (.iload 7, 2) := by decide +kernel
theorem dX11_denies_59 : decode cX11_denies 59 = .ok (.iconst 3, 1) := by decide +kernel
theorem dX11_denies_60 : decode cX11_denies 60 = .ok (.if_icmp .ne 7, 3) := by decide +kernel
theorem dX11_denies_63 : decode cX11_denies 63 = .ok (.iconst 1, 1) := by decide +kernel
theorem dX11_denies_64 : decode cX11_denies 64 = .ok (.goto 4, 3) := by decide +kernel
theorem dX11_denies_67 : decode cX11_denies 67 = .ok (.iconst 0, 1) := by decide +kernel
theorem dX11_denies_68 : decode cX11_denies 68 = .ok (.istore 8, 2) := by decide +kernel
theorem dX11_denies_70 : decode cX11_denies 70 = .ok (.aload_n 0, 1) := by decide +kernel
theorem dX11_denies_71 : decode cX11_denies 71 = .ok (.iload 5, 2) := by decide +kernel
theorem dX11_denies_73 : decode cX11_denies 73 = .ok (.invokevirtual 224, 3) := by decide +kernel
theorem dX11_denies_76 : decode cX11_denies 76 = .ok (.ifCond .eq 102, 3) := by decide +kernel
theorem dX11_denies_79 : decode cX11_denies 79 = .ok (.iload 8, 2) := by decide +kernel
theorem dX11_denies_81 : decode cX11_denies 81 = .ok (.ifCond .eq 8, 3) := by decide +kernel
theorem dX11_denies_84 : decode cX11_denies 84 = .ok (.iload_n 2, 1) := by decide +kernel
theorem dX11_denies_85 : decode cX11_denies 85 = .ok (.iconst 2, 1) := by decide +kernel
theorem dX11_denies_86 : decode cX11_denies 86 = .ok (.if_icmp .eq 92, 3) := by decide +kernel
theorem dX11_denies_89 : decode cX11_denies 89 = .ok (.iload 8, 2) := by decide +kernel
theorem dX11_denies_91 : decode cX11_denies 91 = .ok (.ifCond .eq 43, 3) := by decide +kernel
theorem dX11_denies_94 : decode cX11_denies 94 = .ok (.aload_n 0, 1) := by decide +kernel
theorem dX11_denies_95 : decode cX11_denies 95 = .ok (.iload 6, 2) := by decide +kernel
theorem dX11_denies_97 : decode cX11_denies 97 = .ok (.bipush 10, 2) := by decide +kernel
theorem dX11_denies_99 : decode cX11_denies 99 = .ok (.aload_n 0, 1) := by decide +kernel
theorem dX11_denies_100 : decode cX11_denies 100 = .ok (.iload 5, 2) := by decide +kernel
theorem dX11_denies_102 : decode cX11_denies 102 = .ok (.invokevirtual 193, 3) := by decide +kernel
theorem dX11_denies_105 : decode cX11_denies 105 = .ok (.imul, 1) := by decide +kernel
theorem dX11_denies_106 : decode cX11_denies 106 = .ok (.aload_n 0, 1) := by decide +kernel
theorem dX11_denies_107 : decode cX11_denies 107 = .ok (.iload 5, 2) := by decide +kernel
theorem dX11_denies_109 : decode cX11_denies 109 = .ok (.invokevirtual 227, 3) := by decide +kernel
theorem dX11_denies_112 : decode cX11_denies 112 = .ok (.if_icmp .le 7, 3) := by decide +kernel
theorem dX11_denies_115 : decode cX11_denies 115 = .ok (.iconst 1, 1) := by decide +kernel
theorem dX11_denies_116 : decode cX11_denies 116 = .ok (.goto 4, 3) := by decide +kernel
theorem dX11_denies_119 : decode cX11_denies 119 = .ok (.iconst 2, 1) := by decide +kernel
theorem dX11_denies_120 : decode cX11_denies 120 = .ok (.aload_n 0, 1) := by decide +kernel
theorem dX11_denies_121 : decode cX11_denies 121 = .ok (.getfield 19, 3) := by decide +kernel
theorem dX11_denies_124 : decode cX11_denies 124 = .ok (.iload_n 1, 1) := by decide +kernel
theorem dX11_denies_125 : decode cX11_denies 125 = .ok (.iaload, 1) := by decide +kernel
theorem dX11_denies_126 : decode cX11_denies 126 = .ok (.bipush 16, 2) := by decide +kernel
theorem dX11_denies_128 : decode cX11_denies 128 = .ok (.invokevirtual 183, 3) := by decide +kernel
theorem dX11_denies_131 : decode cX11_denies 131 = .ok (.goto 36, 3) := by decide +kernel
theorem dX11_denies_134 : decode cX11_denies 134 = .ok (.iload 7, 2) := by decide +kernel
theorem dX11_denies_136 : decode cX11_denies 136 = .ok (.iconst 1, 1) := by decide +kernel
theorem dX11_denies_137 : decode cX11_denies 137 = .ok (.if_icmp .ne 30, 3) := by decide +kernel
theorem dX11_denies_140 : decode cX11_denies 140 = .ok (.aload_n 0, 1) := by decide +kernel
theorem dX11_denies_141 : decode cX11_denies 141 = .ok (.iload 5, 2) := by decide +kernel
theorem dX11_denies_143 : decode cX11_denies 143 = .ok (.invokevirtual 227, 3) := by decide +kernel
theorem dX11_denies_146 : decode cX11_denies 146 = .ok (.iload_n 3, 1) := by decide +kernel
theorem dX11_denies_147 : decode cX11_denies 147 = .ok (.imul, 1) := by decide +kernel
theorem dX11_denies_148 : decode cX11_denies 148 = .ok (.bipush 20, 2) := by decide +kernel
theorem dX11_denies_150 : decode cX11_denies 150 = .ok (.aload_n 0, 1) := by decide +kernel
theorem dX11_denies_151 : decode cX11_denies 151 = .ok (.iload 5, 2) := by decide +kernel
theorem dX11_denies_153 : decode cX11_denies 153 = .ok (.invokevirtual 193, 3) := by decide +kernel
theorem dX11_denies_156 : decode cX11_denies 156 = .ok (.imul, 1) := by decide +kernel
theorem dX11_denies_157 : decode cX11_denies 157 = .ok (.if_icmp .le 10, 3) := by decide +kernel
theorem dX11_denies_160 : decode cX11_denies 160 = .ok (.aload_n 0, 1) := by decide +kernel
theorem dX11_denies_161 : decode cX11_denies 161 = .ok (.iload 6, 2) := by decide +kernel
theorem dX11_denies_163 : decode cX11_denies 163 = .ok (.iconst 2, 1) := by decide +kernel
theorem dX11_denies_164 : decode cX11_denies 164 = .ok (.invokevirtual 196, 3) := by decide +kernel
theorem dX11_denies_167 : decode cX11_denies 167 = .ok (.aload_n 0, 1) := by decide +kernel
theorem dX11_denies_168 : decode cX11_denies 168 = .ok (.getfield 50, 3) := by decide +kernel
theorem dX11_denies_171 : decode cX11_denies 171 = .ok (.iload 6, 2) := by decide +kernel
theorem dX11_denies_173 : decode cX11_denies 173 = .ok (.aload_n 0, 1) := by decide +kernel
theorem dX11_denies_174 : decode cX11_denies 174 = .ok (.getfield 180, 3) := by decide +kernel
theorem dX11_denies_177 : decode cX11_denies 177 = .ok (.iastore, 1) := by decide +kernel
theorem dX11_denies_178 : decode cX11_denies 178 = .ok (.iload 4, 2) := by decide +kernel
theorem dX11_denies_180 : decode cX11_denies 180 = .ok (.aload_n 0, 1) := by decide +kernel
theorem dX11_denies_181 : decode cX11_denies 181 = .ok (.getfield 38, 3) := by decide +kernel
theorem dX11_denies_184 : decode cX11_denies 184 = .ok (.iload 6, 2) := by decide +kernel
theorem dX11_denies_186 : decode cX11_denies 186 = .ok (.iaload, 1) := by decide +kernel
theorem dX11_denies_187 : decode cX11_denies 187 = .ok (.iload 7, 2) := by decide +kernel
theorem dX11_denies_189 : decode cX11_denies 189 = .ok (.if_icmp .ne 7, 3) := by decide +kernel
theorem dX11_denies_192 : decode cX11_denies 192 = .ok (.iconst 0, 1) := by decide +kernel
theorem dX11_denies_193 : decode cX11_denies 193 = .ok (.goto 4, 3) := by decide +kernel
theorem dX11_denies_196 : decode cX11_denies 196 = .ok (.iconst 1, 1) := by decide +kernel
theorem dX11_denies_197 : decode cX11_denies 197 = .ok (.iadd, 1) := by decide +kernel
theorem dX11_denies_198 : decode cX11_denies 198 = .ok (.istore 4, 2) := by decide +kernel
theorem dX11_denies_200 : decode cX11_denies 200 = .ok (.iinc 5 1, 3) := by decide +kernel
theorem dX11_denies_203 : decode cX11_denies 203 = .ok (.goto (-178), 3) := by decide +kernel
theorem dX11_denies_206 : decode cX11_denies 206 = .ok (.aload_n 0, 1) := by decide +kernel
theorem dX11_denies_207 : decode cX11_denies 207 = .ok (.getfield 32, 3) := by decide +kernel
theorem dX11_denies_210 : decode cX11_denies 210 = .ok (.iload_n 1, 1) := by decide +kernel
theorem dX11_denies_211 : decode cX11_denies 211 = .ok (.dup2, 1) := by decide +kernel
theorem dX11_denies_212 : decode cX11_denies 212 = .ok (.iaload, 1) := by decide +kernel
theorem dX11_denies_213 : decode cX11_denies 213 = .ok (.iconst 1, 1) := by decide +kernel
theorem dX11_denies_214 : decode cX11_denies 214 = .ok (.iadd, 1) := by decide +kernel
theorem dX11_denies_215 : decode cX11_denies 215 = .ok (.iastore, 1) := by decide +kernel
theorem dX11_denies_216 : decode cX11_denies 216 = .ok (.iload 4, 2) := by decide +kernel
theorem dX11_denies_218 : decode cX11_denies 218 = .ok (.ireturn, 1) := by decide +kernel
theorem dX11_mayBeDenied_0 : decode cX11_mayBeDenied 0 = .ok (.aload_n 0, 1) := by decide +kernel
theorem dX11_mayBeDenied_1 : decode cX11_mayBeDenied 1 = .ok (.getfield 16, 3) := by decide +kernel
theorem dX11_mayBeDenied_4 : decode cX11_mayBeDenied 4 = .ok (.iload_n 1, 1) := by decide +kernel
theorem dX11_mayBeDenied_5 : decode cX11_mayBeDenied 5 = .ok (.iaload, 1) := by decide +kernel
theorem dX11_mayBeDenied_6 : decode cX11_mayBeDenied 6 = .ok (.iconst 3, 1) := by decide +kernel
theorem dX11_mayBeDenied_7 : decode cX11_mayBeDenied 7 = .ok (.if_icmp .ne 12, 3) := by decide +kernel
theorem dX11_mayBeDenied_10 : decode cX11_mayBeDenied 10 = .ok (.aload_n 0, 1) := by decide +kernel
theorem dX11_mayBeDenied_11 : decode cX11_mayBeDenied 11 = .ok (.getfield 28, 3) := by decide +kernel
theorem dX11_mayBeDenied_14 : decode cX11_mayBeDenied 14 = .ok (.iload_n 1, 1) := by decide +kernel
theorem dX11_mayBeDenied_15 : decode cX11_mayBeDenied 15 = .ok (.baload, 1) := by decide +kernel
theorem dX11_mayBeDenied_16 : decode cX11_mayBeDenied 16 = .ok (.ifCond .eq 7, 3) := by decide +kernel
theorem dX11_mayBeDenied_19 : decode cX11_mayBeDenied 19 = .ok (.iconst 1, 1) := by decide +kernel
theorem dX11_mayBeDenied_20 : decode cX11_mayBeDenied 20 = .ok (.goto 4, 3) := by decide +kernel
theorem dX11_mayBeDenied_23 : decode cX11_mayBeDenied 23 = .ok (.iconst 0, 1) := by decide +kernel
theorem dX11_mayBeDenied_24 : decode cX11_mayBeDenied 24 = .ok (.ireturn, 1) := by decide +kernel
theorem dX11_deny_0 : decode cX11_deny 0 = .ok (.aload_n 0, 1) := by decide +kernel
theorem dX11_deny_1 : decode cX11_deny 1 = .ok (.iload_n 1, 1) := by decide +kernel
theorem dX11_deny_2 : decode cX11_deny 2 = .ok (.invokevirtual 174, 3) := by decide +kernel
theorem dX11_deny_5 : decode cX11_deny 5 = .ok (.ifCond .eq 15, 3) := by decide +kernel
theorem dX11_deny_8 : decode cX11_deny 8 = .ok (.iload_n 2, 1) := by decide +kernel
theorem dX11_deny_9 : decode cX11_deny 9 = .ok (.i2l, 1) := by decide +kernel
theorem dX11_deny_10 : decode cX11_deny 10 = .ok (.lconst 0, 1) := by decide +kernel
theorem dX11_deny_11 : decode cX11_deny 11 = .ok (.ldc2_w 230, 3) := by decide +kernel
theorem dX11_deny_14 : decode cX11_deny 14 = .ok (.invokestatic 120, 3) := by decide +kernel
theorem dX11_deny_17 : decode cX11_deny 17 = .ok (.ifCond .ne 5, 3) := by decide +kernel
theorem dX11_deny_20 : decode cX11_deny 20 = .ok (.iconst (-1), 1) := by decide +kernel
theorem dX11_deny_21 : decode cX11_deny 21 = .ok (.ireturn, 1) := by decide +kernel
theorem dX11_deny_22 : decode cX11_deny 22 = .ok (.aload_n 0, 1) := by decide +kernel
theorem dX11_deny_23 : decode cX11_deny 23 = .ok (.iload_n 1, 1) := by decide +kernel
theorem dX11_deny_24 : decode cX11_deny 24 = .ok (.invokevirtual 232, 3) := by decide +kernel
theorem dX11_deny_27 : decode cX11_deny 27 = .ok (.ifCond .eq 12, 3) := by decide +kernel
theorem dX11_deny_30 : decode cX11_deny 30 = .ok (.aload_n 0, 1) := by decide +kernel
theorem dX11_deny_31 : decode cX11_deny 31 = .ok (.iload_n 1, 1) := by decide +kernel
theorem dX11_deny_32 : decode cX11_deny 32 = .ok (.iload_n 2, 1) := by decide +kernel
theorem dX11_deny_33 : decode cX11_deny 33 = .ok (.invokevirtual 235, 3) := by decide +kernel
theorem dX11_deny_36 : decode cX11_deny 36 = .ok (.goto 5, 3) := by decide +kernel
theorem dX11_deny_39 : decode cX11_deny 39 = .ok (.bipush (-2), 2) := by decide +kernel
theorem dX11_deny_41 : decode cX11_deny 41 = .ok (.ireturn, 1) := by decide +kernel
theorem dX11_found_0 : decode cX11_found 0 = .ok (.aload_n 0, 1) := by decide +kernel
theorem dX11_found_1 : decode cX11_found 1 = .ok (.iload_n 1, 1) := by decide +kernel
theorem dX11_found_2 : decode cX11_found 2 = .ok (.invokevirtual 174, 3) := by decide +kernel
theorem dX11_found_5 : decode cX11_found 5 = .ok (.ifCond .ne 5, 3) := by decide +kernel
theorem dX11_found_8 : decode cX11_found 8 = .ok (.iconst (-1), 1) := by decide +kernel
theorem dX11_found_9 : decode cX11_found 9 = .ok (.ireturn, 1) := by decide +kernel
theorem dX11_found_10 : decode cX11_found 10 = .ok (.aload_n 0, 1) := by decide +kernel
theorem dX11_found_11 : decode cX11_found 11 = .ok (.getfield 16, 3) := by decide +kernel
theorem dX11_found_14 : decode cX11_found 14 = .ok (.iload_n 1, 1) := by decide +kernel
theorem dX11_found_15 : decode cX11_found 15 = .ok (.iaload, 1) := by decide +kernel
theorem dX11_found_16 : decode cX11_found 16 = .ok (.iconst 3, 1) := by decide +kernel
theorem dX11_found_17 : decode cX11_found 17 = .ok (.if_icmp .eq 6, 3) := by decide +kernel
theorem dX11_found_20 : decode cX11_found 20 = .ok (.bipush (-12), 2) := by decide +kernel
theorem dX11_found_22 : decode cX11_found 22 = .ok (.ireturn, 1) := by decide +kernel
theorem dX11_found_23 : decode cX11_found 23 = .ok (.aload_n 0, 1) := by decide +kernel
theorem dX11_found_24 : decode cX11_found 24 = .ok (.getfield 32, 3) := by decide +kernel
theorem dX11_found_27 : decode cX11_found 27 = .ok (.iload_n 1, 1) := by decide +kernel
theorem dX11_found_28 : decode cX11_found 28 = .ok (.iaload, 1) := by decide +kernel
theorem dX11_found_29 : decode cX11_found 29 = .ok (.istore_n 2, 1) := by decide +kernel
theorem dX11_found_30 : decode cX11_found 30 = .ok (.aload_n 0, 1) := by decide +kernel
theorem dX11_found_31 : decode cX11_found 31 = .ok (.getfield 32, 3) := by decide +kernel
theorem dX11_found_34 : decode cX11_found 34 = .ok (.iload_n 1, 1) := by decide +kernel
theorem dX11_found_35 : decode cX11_found 35 = .ok (.iconst 0, 1) := by decide +kernel
theorem dX11_found_36 : decode cX11_found 36 = .ok (.iastore, 1) := by decide +kernel
theorem dX11_found_37 : decode cX11_found 37 = .ok (.iconst 0, 1) := by decide +kernel
theorem dX11_found_38 : decode cX11_found 38 = .ok (.istore_n 3, 1) := by decide +kernel
theorem dX11_found_39 : decode cX11_found 39 = .ok (.iload_n 3, 1) := by decide +kernel
theorem dX11_found_40 : decode cX11_found 40 = .ok (.aload_n 0, 1) := by decide +kernel
theorem dX11_found_41 : decode cX11_found 41 = .ok (.getfield 116, 3) := by decide +kernel
theorem dX11_found_44 : decode cX11_found 44 = .ok (.if_icmp .ge 56, 3) := by decide +kernel
theorem dX11_found_47 : decode cX11_found 47 = .ok (.aload_n 0, 1) := by decide +kernel
theorem dX11_found_48 : decode cX11_found 48 = .ok (.iload_n 3, 1) := by decide +kernel
theorem dX11_found_49 : decode cX11_found 49 = .ok (.invokevirtual 227, 3) := by decide +kernel
theorem dX11_found_52 : decode cX11_found 52 = .ok (.bipush 15, 2) := by decide +kernel
theorem dX11_found_54 : decode cX11_found 54 = .ok (.iload_n 2, 1) := by decide +kernel
theorem dX11_found_55 : decode cX11_found 55 = .ok (.imul, 1) := by decide +kernel
theorem dX11_found_56 : decode cX11_found 56 = .ok (.isub, 1) := by decide +kernel
theorem dX11_found_57 : decode cX11_found 57 = .ok (.istore 4, 2) := by decide +kernel
theorem dX11_found_59 : decode cX11_found 59 = .ok (.aload_n 0, 1) := by decide +kernel
theorem dX11_found_60 : decode cX11_found 60 = .ok (.getfield 13, 3) := by decide +kernel
theorem dX11_found_63 : decode cX11_found 63 = .ok (.iconst 5, 1) := by decide +kernel
theorem dX11_found_64 : decode cX11_found 64 = .ok (.iload_n 3, 1) := by decide +kernel
theorem dX11_found_65 : decode cX11_found 65 = .ok (.imul, 1) := by decide +kernel
theorem dX11_found_66 : decode cX11_found 66 = .ok (.aload_n 0, 1) := by decide +kernel
theorem dX11_found_67 : decode cX11_found 67 = .ok (.iload_n 3, 1) := by decide +kernel
theorem dX11_found_68 : decode cX11_found 68 = .ok (.invokevirtual 224, 3) := by decide +kernel
theorem dX11_found_71 : decode cX11_found 71 = .ok (.ifCond .ne 11, 3) := by decide +kernel
theorem dX11_found_74 : decode cX11_found 74 = .ok (.aload_n 0, 1) := by decide +kernel
theorem dX11_found_75 : decode cX11_found 75 = .ok (.iload_n 3, 1) := by decide +kernel
theorem dX11_found_76 : decode cX11_found 76 = .ok (.invokevirtual 227, 3) := by decide +kernel
theorem dX11_found_79 : decode cX11_found 79 = .ok (.goto 14, 3) := by decide +kernel
theorem dX11_found_82 : decode cX11_found 82 = .ok (.iload 4, 2) := by decide +kernel
theorem dX11_found_84 : decode cX11_found 84 = .ok (.ifCond .ge 7, 3) := by decide +kernel
theorem dX11_found_87 : decode cX11_found 87 = .ok (.iconst 0, 1) := by decide +kernel
theorem dX11_found_88 : decode cX11_found 88 = .ok (.goto 5, 3) := by decide +kernel
theorem dX11_found_91 : decode cX11_found 91 = .ok (.iload 4, 2) := by decide +kernel
theorem dX11_found_93 : decode cX11_found 93 = .ok (.iastore, 1) := by decide +kernel
theorem dX11_found_94 : decode cX11_found 94 = .ok (.iinc 3 1, 3) := by decide +kernel
theorem dX11_found_97 : decode cX11_found 97 = .ok (.goto (-58), 3) := by decide +kernel
theorem dX11_found_100 : decode cX11_found 100 = .ok (.iload_n 2, 1) := by decide +kernel
theorem dX11_found_101 : decode cX11_found 101 = .ok (.ireturn, 1) := by decide +kernel
theorem dX11_keeps_0 : decode cX11_keeps 0 = .ok (.iconst 0, 1) := by decide +kernel
theorem dX11_keeps_1 : decode cX11_keeps 1 = .ok (.istore_n 1, 1) := by decide +kernel
theorem dX11_keeps_2 : decode cX11_keeps 2 = .ok (.iload_n 1, 1) := by decide +kernel
theorem dX11_keeps_3 : decode cX11_keeps 3 = .ok (.sipush 128, 3) := by decide +kernel
theorem dX11_keeps_6 : decode cX11_keeps 6 = .ok (.if_icmp .ge 87, 3) := by decide +kernel
theorem dX11_keeps_9 : decode cX11_keeps 9 = .ok (.aload_n 0, 1) := by decide +kernel
theorem dX11_keeps_10 : decode cX11_keeps 10 = .ok (.getfield 62, 3) := by decide +kernel
theorem dX11_keeps_13 : decode cX11_keeps 13 = .ok (.iconst 5, 1) := by decide +kernel
theorem dX11_keeps_14 : decode cX11_keeps 14 = .ok (.iload_n 1, 1) := by decide +kernel
theorem dX11_keeps_15 : decode cX11_keeps 15 = .ok (.imul, 1) := by decide +kernel
theorem dX11_keeps_16 : decode cX11_keeps 16 = .ok (.aload_n 0, 1) := by decide +kernel
theorem dX11_keeps_17 : decode cX11_keeps 17 = .ok (.getfield 38, 3) := by decide +kernel
theorem dX11_keeps_20 : decode cX11_keeps 20 = .ok (.iload_n 1, 1) := by decide +kernel
theorem dX11_keeps_21 : decode cX11_keeps 21 = .ok (.iaload, 1) := by decide +kernel
theorem dX11_keeps_22 : decode cX11_keeps 22 = .ok (.iastore, 1) := by decide +kernel
theorem dX11_keeps_23 : decode cX11_keeps 23 = .ok (.aload_n 0, 1) := by decide +kernel
theorem dX11_keeps_24 : decode cX11_keeps 24 = .ok (.getfield 62, 3) := by decide +kernel
theorem dX11_keeps_27 : decode cX11_keeps 27 = .ok (.iconst 5, 1) := by decide +kernel
theorem dX11_keeps_28 : decode cX11_keeps 28 = .ok (.iload_n 1, 1) := by decide +kernel
theorem dX11_keeps_29 : decode cX11_keeps 29 = .ok (.imul, 1) := by decide +kernel
theorem dX11_keeps_30 : decode cX11_keeps 30 = .ok (.iconst 1, 1) := by decide +kernel
theorem dX11_keeps_31 : decode cX11_keeps 31 = .ok (.iadd, 1) := by decide +kernel
theorem dX11_keeps_32 : decode cX11_keeps 32 = .ok (.aload_n 0, 1) := by decide +kernel
theorem dX11_keeps_33 : decode cX11_keeps 33 = .ok (.getfield 41, 3) := by decide +kernel
theorem dX11_keeps_36 : decode cX11_keeps 36 = .ok (.iload_n 1, 1) := by decide +kernel
theorem dX11_keeps_37 : decode cX11_keeps 37 = .ok (.iaload, 1) := by decide +kernel
theorem dX11_keeps_38 : decode cX11_keeps 38 = .ok (.iastore, 1) := by decide +kernel
theorem dX11_keeps_39 : decode cX11_keeps 39 = .ok (.aload_n 0, 1) := by decide +kernel
theorem dX11_keeps_40 : decode cX11_keeps 40 = .ok (.getfield 62, 3) := by decide +kernel
theorem dX11_keeps_43 : decode cX11_keeps 43 = .ok (.iconst 5, 1) := by decide +kernel
theorem dX11_keeps_44 : decode cX11_keeps 44 = .ok (.iload_n 1, 1) := by decide +kernel
theorem dX11_keeps_45 : decode cX11_keeps 45 = .ok (.imul, 1) := by decide +kernel
theorem dX11_keeps_46 : decode cX11_keeps 46 = .ok (.iconst 2, 1) := by decide +kernel
theorem dX11_keeps_47 : decode cX11_keeps 47 = .ok (.iadd, 1) := by decide +kernel
theorem dX11_keeps_48 : decode cX11_keeps 48 = .ok (.aload_n 0, 1) := by decide +kernel
theorem dX11_keeps_49 : decode cX11_keeps 49 = .ok (.getfield 44, 3) := by decide +kernel
theorem dX11_keeps_52 : decode cX11_keeps 52 = .ok (.iload_n 1, 1) := by decide +kernel
theorem dX11_keeps_53 : decode cX11_keeps 53 = .ok (.iaload, 1) := by decide +kernel
theorem dX11_keeps_54 : decode cX11_keeps 54 = .ok (.iastore, 1) := by decide +kernel
theorem dX11_keeps_55 : decode cX11_keeps 55 = .ok (.aload_n 0, 1) := by decide +kernel
theorem dX11_keeps_56 : decode cX11_keeps 56 = .ok (.getfield 62, 3) := by decide +kernel
theorem dX11_keeps_59 : decode cX11_keeps 59 = .ok (.iconst 5, 1) := by decide +kernel
theorem dX11_keeps_60 : decode cX11_keeps 60 = .ok (.iload_n 1, 1) := by decide +kernel
theorem dX11_keeps_61 : decode cX11_keeps 61 = .ok (.imul, 1) := by decide +kernel
theorem dX11_keeps_62 : decode cX11_keeps 62 = .ok (.iconst 3, 1) := by decide +kernel
theorem dX11_keeps_63 : decode cX11_keeps 63 = .ok (.iadd, 1) := by decide +kernel
theorem dX11_keeps_64 : decode cX11_keeps 64 = .ok (.aload_n 0, 1) := by decide +kernel
theorem dX11_keeps_65 : decode cX11_keeps 65 = .ok (.getfield 47, 3) := by decide +kernel
theorem dX11_keeps_68 : decode cX11_keeps 68 = .ok (.iload_n 1, 1) := by decide +kernel
theorem dX11_keeps_69 : decode cX11_keeps 69 = .ok (.iaload, 1) := by decide +kernel
theorem dX11_keeps_70 : decode cX11_keeps 70 = .ok (.iastore, 1) := by decide +kernel
theorem dX11_keeps_71 : decode cX11_keeps 71 = .ok (.aload_n 0, 1) := by decide +kernel
theorem dX11_keeps_72 : decode cX11_keeps 72 = .ok (.getfield 62, 3) := by decide +kernel
theorem dX11_keeps_75 : decode cX11_keeps 75 = .ok (.iconst 5, 1) := by decide +kernel
theorem dX11_keeps_76 : decode cX11_keeps 76 = .ok (.iload_n 1, 1) := by decide +kernel
theorem dX11_keeps_77 : decode cX11_keeps 77 = .ok (.imul, 1) := by decide +kernel
theorem dX11_keeps_78 : decode cX11_keeps 78 = .ok (.iconst 4, 1) := by decide +kernel
theorem dX11_keeps_79 : decode cX11_keeps 79 = .ok (.iadd, 1) := by decide +kernel
theorem dX11_keeps_80 : decode cX11_keeps 80 = .ok (.aload_n 0, 1) := by decide +kernel
theorem dX11_keeps_81 : decode cX11_keeps 81 = .ok (.getfield 50, 3) := by decide +kernel
theorem dX11_keeps_84 : decode cX11_keeps 84 = .ok (.iload_n 1, 1) := by decide +kernel
theorem dX11_keeps_85 : decode cX11_keeps 85 = .ok (.iaload, 1) := by decide +kernel
theorem dX11_keeps_86 : decode cX11_keeps 86 = .ok (.iastore, 1) := by decide +kernel
theorem dX11_keeps_87 : decode cX11_keeps 87 = .ok (.iinc 1 1, 3) := by decide +kernel
theorem dX11_keeps_90 : decode cX11_keeps 90 = .ok (.goto (-88), 3) := by decide +kernel
theorem dX11_keeps_93 : decode cX11_keeps 93 = .ok (.iconst 0, 1) := by decide +kernel
theorem dX11_keeps_94 : decode cX11_keeps 94 = .ok (.istore_n 1, 1) := by decide +kernel
theorem dX11_keeps_95 : decode cX11_keeps 95 = .ok (.iload_n 1, 1) := by decide +kernel
theorem dX11_keeps_96 : decode cX11_keeps 96 = .ok (.bipush 8, 2) := by decide +kernel
theorem dX11_keeps_98 : decode cX11_keeps 98 = .ok (.if_icmp .ge 21, 3) := by decide +kernel
theorem dX11_keeps_101 : decode cX11_keeps 101 = .ok (.aload_n 0, 1) := by decide +kernel
theorem dX11_keeps_102 : decode cX11_keeps 102 = .ok (.getfield 65, 3) := by decide +kernel
theorem dX11_keeps_105 : decode cX11_keeps 105 = .ok (.iload_n 1, 1) := by decide +kernel
theorem dX11_keeps_106 : decode cX11_keeps 106 = .ok (.aload_n 0, 1) := by decide +kernel
theorem dX11_keeps_107 : decode cX11_keeps 107 = .ok (.getfield 32, 3) := by decide +kernel
theorem dX11_keeps_110 : decode cX11_keeps 110 = .ok (.iload_n 1, 1) := by decide +kernel
theorem dX11_keeps_111 : decode cX11_keeps 111 = .ok (.iaload, 1) := by decide +kernel
theorem dX11_keeps_112 : decode cX11_keeps 112 = .ok (.iastore, 1) := by decide +kernel
theorem dX11_keeps_113 : decode cX11_keeps 113 = .ok (.iinc 1 1, 3) := by decide +kernel
theorem dX11_keeps_116 : decode cX11_keeps 116 = .ok (.goto (-21), 3) := by decide +kernel
theorem dX11_keeps_119 : decode cX11_keeps 119 = .ok (.aload_n 0, 1) := by decide +kernel
theorem dX11_keeps_120 : decode cX11_keeps 120 = .ok (.aload_n 0, 1) := by decide +kernel
theorem dX11_keeps_121 : decode cX11_keeps 121 = .ok (.getfield 180, 3) := by decide +kernel
theorem dX11_keeps_124 : decode cX11_keeps 124 = .ok (.putfield 238, 3) := by decide +kernel
theorem dX11_keeps_127 : decode cX11_keeps 127 = .ok (.return_, 1) := by decide +kernel
theorem dX11_returns_0 : decode cX11_returns 0 = .ok (.iconst 0, 1) := by decide +kernel
theorem dX11_returns_1 : decode cX11_returns 1 = .ok (.istore_n 1, 1) := by decide +kernel
theorem dX11_returns_2 : decode cX11_returns 2 = .ok (.iload_n 1, 1) := by decide +kernel
theorem dX11_returns_3 : decode cX11_returns 3 = .ok (.sipush 128, 3) := by decide +kernel
theorem dX11_returns_6 : decode cX11_returns 6 = .ok (.if_icmp .ge 87, 3) := by decide +kernel
theorem dX11_returns_9 : decode cX11_returns 9 = .ok (.aload_n 0, 1) := by decide +kernel
theorem dX11_returns_10 : decode cX11_returns 10 = .ok (.getfield 38, 3) := by decide +kernel
theorem dX11_returns_13 : decode cX11_returns 13 = .ok (.iload_n 1, 1) := by decide +kernel
theorem dX11_returns_14 : decode cX11_returns 14 = .ok (.aload_n 0, 1) := by decide +kernel
theorem dX11_returns_15 : decode cX11_returns 15 = .ok (.getfield 62, 3) := by decide +kernel
theorem dX11_returns_18 : decode cX11_returns 18 = .ok (.iconst 5, 1) := by decide +kernel
theorem dX11_returns_19 : decode cX11_returns 19 = .ok (.iload_n 1, 1) := by decide +kernel
theorem dX11_returns_20 : decode cX11_returns 20 = .ok (.imul, 1) := by decide +kernel
theorem dX11_returns_21 : decode cX11_returns 21 = .ok (.iaload, 1) := by decide +kernel
theorem dX11_returns_22 : decode cX11_returns 22 = .ok (.iastore, 1) := by decide +kernel
theorem dX11_returns_23 : decode cX11_returns 23 = .ok (.aload_n 0, 1) := by decide +kernel
theorem dX11_returns_24 : decode cX11_returns 24 = .ok (.getfield 41, 3) := by decide +kernel
theorem dX11_returns_27 : decode cX11_returns 27 = .ok (.iload_n 1, 1) := by decide +kernel
theorem dX11_returns_28 : decode cX11_returns 28 = .ok (.aload_n 0, 1) := by decide +kernel
theorem dX11_returns_29 : decode cX11_returns 29 = .ok (.getfield 62, 3) := by decide +kernel
theorem dX11_returns_32 : decode cX11_returns 32 = .ok (.iconst 5, 1) := by decide +kernel
theorem dX11_returns_33 : decode cX11_returns 33 = .ok (.iload_n 1, 1) := by decide +kernel
theorem dX11_returns_34 : decode cX11_returns 34 = .ok (.imul, 1) := by decide +kernel
theorem dX11_returns_35 : decode cX11_returns 35 = .ok (.iconst 1, 1) := by decide +kernel
theorem dX11_returns_36 : decode cX11_returns 36 = .ok (.iadd, 1) := by decide +kernel
theorem dX11_returns_37 : decode cX11_returns 37 = .ok (.iaload, 1) := by decide +kernel
theorem dX11_returns_38 : decode cX11_returns 38 = .ok (.iastore, 1) := by decide +kernel
theorem dX11_returns_39 : decode cX11_returns 39 = .ok (.aload_n 0, 1) := by decide +kernel
theorem dX11_returns_40 : decode cX11_returns 40 = .ok (.getfield 44, 3) := by decide +kernel
theorem dX11_returns_43 : decode cX11_returns 43 = .ok (.iload_n 1, 1) := by decide +kernel
theorem dX11_returns_44 : decode cX11_returns 44 = .ok (.aload_n 0, 1) := by decide +kernel
theorem dX11_returns_45 : decode cX11_returns 45 = .ok (.getfield 62, 3) := by decide +kernel
theorem dX11_returns_48 : decode cX11_returns 48 = .ok (.iconst 5, 1) := by decide +kernel
theorem dX11_returns_49 : decode cX11_returns 49 = .ok (.iload_n 1, 1) := by decide +kernel
theorem dX11_returns_50 : decode cX11_returns 50 = .ok (.imul, 1) := by decide +kernel
theorem dX11_returns_51 : decode cX11_returns 51 = .ok (.iconst 2, 1) := by decide +kernel
theorem dX11_returns_52 : decode cX11_returns 52 = .ok (.iadd, 1) := by decide +kernel
theorem dX11_returns_53 : decode cX11_returns 53 = .ok (.iaload, 1) := by decide +kernel
theorem dX11_returns_54 : decode cX11_returns 54 = .ok (.iastore, 1) := by decide +kernel
theorem dX11_returns_55 : decode cX11_returns 55 = .ok (.aload_n 0, 1) := by decide +kernel
theorem dX11_returns_56 : decode cX11_returns 56 = .ok (.getfield 47, 3) := by decide +kernel
theorem dX11_returns_59 : decode cX11_returns 59 = .ok (.iload_n 1, 1) := by decide +kernel
theorem dX11_returns_60 : decode cX11_returns 60 = .ok (.aload_n 0, 1) := by decide +kernel
theorem dX11_returns_61 : decode cX11_returns 61 = .ok (.getfield 62, 3) := by decide +kernel
theorem dX11_returns_64 : decode cX11_returns 64 = .ok (.iconst 5, 1) := by decide +kernel
theorem dX11_returns_65 : decode cX11_returns 65 = .ok (.iload_n 1, 1) := by decide +kernel
theorem dX11_returns_66 : decode cX11_returns 66 = .ok (.imul, 1) := by decide +kernel
theorem dX11_returns_67 : decode cX11_returns 67 = .ok (.iconst 3, 1) := by decide +kernel
theorem dX11_returns_68 : decode cX11_returns 68 = .ok (.iadd, 1) := by decide +kernel
theorem dX11_returns_69 : decode cX11_returns 69 = .ok (.iaload, 1) := by decide +kernel
theorem dX11_returns_70 : decode cX11_returns 70 = .ok (.iastore, 1) := by decide +kernel
theorem dX11_returns_71 : decode cX11_returns 71 = .ok (.aload_n 0, 1) := by decide +kernel
theorem dX11_returns_72 : decode cX11_returns 72 = .ok (.getfield 50, 3) := by decide +kernel
theorem dX11_returns_75 : decode cX11_returns 75 = .ok (.iload_n 1, 1) := by decide +kernel
theorem dX11_returns_76 : decode cX11_returns 76 = .ok (.aload_n 0, 1) := by decide +kernel
theorem dX11_returns_77 : decode cX11_returns 77 = .ok (.getfield 62, 3) := by decide +kernel
theorem dX11_returns_80 : decode cX11_returns 80 = .ok (.iconst 5, 1) := by decide +kernel
theorem dX11_returns_81 : decode cX11_returns 81 = .ok (.iload_n 1, 1) := by decide +kernel
theorem dX11_returns_82 : decode cX11_returns 82 = .ok (.imul, 1) := by decide +kernel
theorem dX11_returns_83 : decode cX11_returns 83 = .ok (.iconst 4, 1) := by decide +kernel
theorem dX11_returns_84 : decode cX11_returns 84 = .ok (.iadd, 1) := by decide +kernel
theorem dX11_returns_85 : decode cX11_returns 85 = .ok (.iaload, 1) := by decide +kernel
theorem dX11_returns_86 : decode cX11_returns 86 = .ok (.iastore, 1) := by decide +kernel
theorem dX11_returns_87 : decode cX11_returns 87 = .ok (.iinc 1 1, 3) := by decide +kernel
theorem dX11_returns_90 : decode cX11_returns 90 = .ok (.goto (-88), 3) := by decide +kernel
theorem dX11_returns_93 : decode cX11_returns 93 = .ok (.iconst 0, 1) := by decide +kernel
theorem dX11_returns_94 : decode cX11_returns 94 = .ok (.istore_n 1, 1) := by decide +kernel
theorem dX11_returns_95 : decode cX11_returns 95 = .ok (.iload_n 1, 1) := by decide +kernel
theorem dX11_returns_96 : decode cX11_returns 96 = .ok (.bipush 8, 2) := by decide +kernel
theorem dX11_returns_98 : decode cX11_returns 98 = .ok (.if_icmp .ge 21, 3) := by decide +kernel
theorem dX11_returns_101 : decode cX11_returns 101 = .ok (.aload_n 0, 1) := by decide +kernel
theorem dX11_returns_102 : decode cX11_returns 102 = .ok (.getfield 32, 3) := by decide +kernel
theorem dX11_returns_105 : decode cX11_returns 105 = .ok (.iload_n 1, 1) := by decide +kernel
theorem dX11_returns_106 : decode cX11_returns 106 = .ok (.aload_n 0, 1) := by decide +kernel
theorem dX11_returns_107 : decode cX11_returns 107 = .ok (.getfield 65, 3) := by decide +kernel
theorem dX11_returns_110 : decode cX11_returns 110 = .ok (.iload_n 1, 1) := by decide +kernel
theorem dX11_returns_111 : decode cX11_returns 111 = .ok (.iaload, 1) := by decide +kernel
theorem dX11_returns_112 : decode cX11_returns 112 = .ok (.iastore, 1) := by decide +kernel
theorem dX11_returns_113 : decode cX11_returns 113 = .ok (.iinc 1 1, 3) := by decide +kernel
theorem dX11_returns_116 : decode cX11_returns 116 = .ok (.goto (-21), 3) := by decide +kernel
theorem dX11_returns_119 : decode cX11_returns 119 = .ok (.aload_n 0, 1) := by decide +kernel
theorem dX11_returns_120 : decode cX11_returns 120 = .ok (.aload_n 0, 1) := by decide +kernel
theorem dX11_returns_121 : decode cX11_returns 121 = .ok (.getfield 238, 3) := by decide +kernel
theorem dX11_returns_124 : decode cX11_returns 124 = .ok (.putfield 180, 3) := by decide +kernel
theorem dX11_returns_127 : decode cX11_returns 127 = .ok (.return_, 1) := by decide +kernel
theorem dX11_harmBy_0 : decode cX11_harmBy 0 = .ok (.aload_n 0, 1) := by decide +kernel
theorem dX11_harmBy_1 : decode cX11_harmBy 1 = .ok (.invokevirtual 241, 3) := by decide +kernel
theorem dX11_harmBy_4 : decode cX11_harmBy 4 = .ok (.iconst 0, 1) := by decide +kernel
theorem dX11_harmBy_5 : decode cX11_harmBy 5 = .ok (.istore 4, 2) := by decide +kernel
theorem dX11_harmBy_7 : decode cX11_harmBy 7 = .ok (.iload 4, 2) := by decide +kernel
theorem dX11_harmBy_9 : decode cX11_harmBy 9 = .ok (.bipush 8, 2) := by decide +kernel
theorem dX11_harmBy_11 : decode cX11_harmBy 11 = .ok (.if_icmp .ge 51, 3) := by decide +kernel
theorem dX11_harmBy_14 : decode cX11_harmBy 14 = .ok (.iload_n 1, 1) := by decide +kernel
theorem dX11_harmBy_15 : decode cX11_harmBy 15 = .ok (.iload 4, 2) := by decide +kernel
theorem dX11_harmBy_17 : decode cX11_harmBy 17 = .ok (.ishr, 1) := by decide +kernel
theorem dX11_harmBy_18 : decode cX11_harmBy 18 = .ok (.iconst 1, 1) := by decide +kernel
theorem dX11_harmBy_19 : decode cX11_harmBy 19 = .ok (.iand, 1) := by decide +kernel
theorem dX11_harmBy_20 : decode cX11_harmBy 20 = .ok (.iconst 1, 1) := by decide +kernel
theorem dX11_harmBy_21 : decode cX11_harmBy 21 = .ok (.if_icmp .ne 13, 3) := by decide +kernel
theorem dX11_harmBy_24 : decode cX11_harmBy 24 = .ok (.aload_n 0, 1) := by decide +kernel
theorem dX11_harmBy_25 : decode cX11_harmBy 25 = .ok (.iload 4, 2) := by decide +kernel
theorem dX11_harmBy_27 : decode cX11_harmBy 27 = .ok (.iload_n 2, 1) := by decide +kernel
theorem dX11_harmBy_28 : decode cX11_harmBy 28 = .ok (.invokevirtual 235, 3) := by decide +kernel
theorem dX11_harmBy_31 : decode cX11_harmBy 31 = .ok (.goto 4, 3) := by decide +kernel
theorem dX11_harmBy_34 : decode cX11_harmBy 34 = .ok (.iconst 0, 1) := by decide +kernel
theorem dX11_harmBy_35 : decode cX11_harmBy 35 = .ok (.istore 5, 2) := by decide +kernel
theorem dX11_harmBy_37 : decode cX11_harmBy 37 = .ok (.aload_n 0, 1) := by decide +kernel
theorem dX11_harmBy_38 : decode cX11_harmBy 38 = .ok (.dup, 1) := by decide +kernel
theorem dX11_harmBy_39 : decode cX11_harmBy 39 = .ok (.getfield 180, 3) := by decide +kernel
theorem dX11_harmBy_42 : decode cX11_harmBy 42 = .ok (.iload 5, 2) := by decide +kernel
theorem dX11_harmBy_44 : decode cX11_harmBy 44 = .ok (.ifCond .ge 7, 3) := by decide +kernel
theorem dX11_harmBy_47 : decode cX11_harmBy 47 = .ok (.iconst 1, 1) := by decide +kernel
theorem dX11_harmBy_48 : decode cX11_harmBy 48 = .ok (.goto 4, 3) := by decide +kernel
theorem dX11_harmBy_51 : decode cX11_harmBy 51 = .ok (.iconst 0, 1) := by decide +kernel
theorem dX11_harmBy_52 : decode cX11_harmBy 52 = .ok (.iadd, 1) := by decide +kernel
theorem dX11_harmBy_53 : decode cX11_harmBy 53 = .ok (.putfield 180, 3) := by decide +kernel
theorem dX11_harmBy_56 : decode cX11_harmBy 56 = .ok (.iinc 4 1, 3) := by decide +kernel
theorem dX11_harmBy_59 : decode cX11_harmBy 59 = .ok (.goto (-52), 3) := by decide +kernel
theorem dX11_harmBy_62 : decode cX11_harmBy 62 = .ok (.iconst 0, 1) := by decide +kernel
theorem dX11_harmBy_63 : decode cX11_harmBy 63 = .ok (.istore 4, 2) := by decide +kernel
theorem dX11_harmBy_65 : decode cX11_harmBy 65 = .ok (.iload 4, 2) := by decide +kernel
theorem dX11_harmBy_67 : decode cX11_harmBy 67 = .ok (.iload_n 3, 1) := by decide +kernel
theorem dX11_harmBy_68 : decode cX11_harmBy 68 = .ok (.if_icmp .ge 13, 3) := by decide +kernel
theorem dX11_harmBy_71 : decode cX11_harmBy 71 = .ok (.aload_n 0, 1) := by decide +kernel
theorem dX11_harmBy_72 : decode cX11_harmBy 72 = .ok (.invokevirtual 213, 3) := by decide +kernel
theorem dX11_harmBy_75 : decode cX11_harmBy 75 = .ok (.iinc 4 1, 3) := by decide +kernel
theorem dX11_harmBy_78 : decode cX11_harmBy 78 = .ok (.goto (-13), 3) := by decide +kernel
theorem dX11_harmBy_81 : decode cX11_harmBy 81 = .ok (.iconst 0, 1) := by decide +kernel
theorem dX11_harmBy_82 : decode cX11_harmBy 82 = .ok (.istore 4, 2) := by decide +kernel
theorem dX11_harmBy_84 : decode cX11_harmBy 84 = .ok (.iconst 0, 1) := by decide +kernel
theorem dX11_harmBy_85 : decode cX11_harmBy 85 = .ok (.istore 5, 2) := by decide +kernel
theorem dX11_harmBy_87 : decode cX11_harmBy 87 = .ok (.iload 5, 2) := by decide +kernel
theorem dX11_harmBy_89 : decode cX11_harmBy 89 = .ok (.aload_n 0, 1) := by decide +kernel
theorem dX11_harmBy_90 : decode cX11_harmBy 90 = .ok (.getfield 157, 3) := by decide +kernel
theorem dX11_harmBy_93 : decode cX11_harmBy 93 = .ok (.if_icmp .ge 20, 3) := by decide +kernel
theorem dX11_harmBy_96 : decode cX11_harmBy 96 = .ok (.iload 4, 2) := by decide +kernel
theorem dX11_harmBy_98 : decode cX11_harmBy 98 = .ok (.aload_n 0, 1) := by decide +kernel
theorem dX11_harmBy_99 : decode cX11_harmBy 99 = .ok (.iload 5, 2) := by decide +kernel
theorem dX11_harmBy_101 : decode cX11_harmBy 101 = .ok (.invokevirtual 221, 3) := by decide +kernel
theorem dX11_harmBy_104 : decode cX11_harmBy 104 = .ok (.iadd, 1) := by decide +kernel
theorem dX11_harmBy_105 : decode cX11_harmBy 105 = .ok (.istore 4, 2) := by decide +kernel
theorem dX11_harmBy_107 : decode cX11_harmBy 107 = .ok (.iinc 5 1, 3) := by decide +kernel
theorem dX11_harmBy_110 : decode cX11_harmBy 110 = .ok (.goto (-23), 3) := by decide +kernel
theorem dX11_harmBy_113 : decode cX11_harmBy 113 = .ok (.aload_n 0, 1) := by decide +kernel
theorem dX11_harmBy_114 : decode cX11_harmBy 114 = .ok (.invokevirtual 244, 3) := by decide +kernel
theorem dX11_harmBy_117 : decode cX11_harmBy 117 = .ok (.iload 4, 2) := by decide +kernel
theorem dX11_harmBy_119 : decode cX11_harmBy 119 = .ok (.ireturn, 1) := by decide +kernel
theorem dX11_foretold_0 : decode cX11_foretold 0 = .ok (.iload_n 1, 1) := by decide +kernel
theorem dX11_foretold_1 : decode cX11_foretold 1 = .ok (.i2l, 1) := by decide +kernel
theorem dX11_foretold_2 : decode cX11_foretold 2 = .ok (.lconst 0, 1) := by decide +kernel
theorem dX11_foretold_3 : decode cX11_foretold 3 = .ok (.ldc2_w 211, 3) := by decide +kernel
theorem dX11_foretold_6 : decode cX11_foretold 6 = .ok (.invokestatic 120, 3) := by decide +kernel
theorem dX11_foretold_9 : decode cX11_foretold 9 = .ok (.ifCond .eq 13, 3) := by decide +kernel
theorem dX11_foretold_12 : decode cX11_foretold 12 = .ok (.aload_n 0, 1) := by decide +kernel
theorem dX11_foretold_13 : decode cX11_foretold 13 = .ok (.iconst 0, 1) := by decide +kernel
theorem dX11_foretold_14 : decode cX11_foretold 14 = .ok (.iconst 0, 1) := by decide +kernel
theorem dX11_foretold_15 : decode cX11_foretold 15 = .ok (.iload_n 1, 1) := by decide +kernel
theorem dX11_foretold_16 : decode cX11_foretold 16 = .ok (.invokevirtual 247, 3) := by decide +kernel
theorem dX11_foretold_19 : decode cX11_foretold 19 = .ok (.goto 4, 3) := by decide +kernel
theorem dX11_foretold_22 : decode cX11_foretold 22 = .ok (.iconst (-1), 1) := by decide +kernel
theorem dX11_foretold_23 : decode cX11_foretold 23 = .ok (.ireturn, 1) := by decide +kernel
theorem dX11_wording_0 : decode cX11_wording 0 = .ok (.aload_n 0, 1) := by decide +kernel
theorem dX11_wording_1 : decode cX11_wording 1 = .ok (.iload_n 1, 1) := by decide +kernel
theorem dX11_wording_2 : decode cX11_wording 2 = .ok (.invokevirtual 174, 3) := by decide +kernel
theorem dX11_wording_5 : decode cX11_wording 5 = .ok (.ifCond .eq 15, 3) := by decide +kernel
theorem dX11_wording_8 : decode cX11_wording 8 = .ok (.iload_n 2, 1) := by decide +kernel
theorem dX11_wording_9 : decode cX11_wording 9 = .ok (.i2l, 1) := by decide +kernel
theorem dX11_wording_10 : decode cX11_wording 10 = .ok (.lconst 0, 1) := by decide +kernel
theorem dX11_wording_11 : decode cX11_wording 11 = .ok (.ldc2_w 211, 3) := by decide +kernel
theorem dX11_wording_14 : decode cX11_wording 14 = .ok (.invokestatic 120, 3) := by decide +kernel
theorem dX11_wording_17 : decode cX11_wording 17 = .ok (.ifCond .ne 5, 3) := by decide +kernel
theorem dX11_wording_20 : decode cX11_wording 20 = .ok (.iconst (-1), 1) := by decide +kernel
theorem dX11_wording_21 : decode cX11_wording 21 = .ok (.ireturn, 1) := by decide +kernel
theorem dX11_wording_22 : decode cX11_wording 22 = .ok (.aload_n 0, 1) := by decide +kernel
theorem dX11_wording_23 : decode cX11_wording 23 = .ok (.iload_n 1, 1) := by decide +kernel
theorem dX11_wording_24 : decode cX11_wording 24 = .ok (.invokevirtual 232, 3) := by decide +kernel
theorem dX11_wording_27 : decode cX11_wording 27 = .ok (.ifCond .ne 6, 3) := by decide +kernel
theorem dX11_wording_30 : decode cX11_wording 30 = .ok (.bipush (-2), 2) := by decide +kernel
theorem dX11_wording_32 : decode cX11_wording 32 = .ok (.ireturn, 1) := by decide +kernel
theorem dX11_wording_33 : decode cX11_wording 33 = .ok (.iconst 3, 1) := by decide +kernel
theorem dX11_wording_34 : decode cX11_wording 34 = .ok (.istore_n 3, 1) := by decide +kernel
theorem dX11_wording_35 : decode cX11_wording 35 = .ok (.aload_n 0, 1) := by decide +kernel
theorem dX11_wording_36 : decode cX11_wording 36 = .ok (.iconst 0, 1) := by decide +kernel
theorem dX11_wording_37 : decode cX11_wording 37 = .ok (.iconst 0, 1) := by decide +kernel
theorem dX11_wording_38 : decode cX11_wording 38 = .ok (.iload_n 2, 1) := by decide +kernel
theorem dX11_wording_39 : decode cX11_wording 39 = .ok (.invokevirtual 247, 3) := by decide +kernel
theorem dX11_wording_42 : decode cX11_wording 42 = .ok (.istore 4, 2) := by decide +kernel
theorem dX11_wording_44 : decode cX11_wording 44 = .ok (.iconst 0, 1) := by decide +kernel
theorem dX11_wording_45 : decode cX11_wording 45 = .ok (.istore 5, 2) := by decide +kernel
theorem dX11_wording_47 : decode cX11_wording 47 = .ok (.iload 5, 2) := by decide +kernel
theorem dX11_wording_49 : decode cX11_wording 49 = .ok (.iconst 3, 1) := by decide +kernel
theorem dX11_wording_50 : decode cX11_wording 50 = .ok (.if_icmp .ge 51, 3) := by decide +kernel
theorem dX11_wording_53 : decode cX11_wording 53 = .ok (.aload_n 0, 1) := by decide +kernel
theorem dX11_wording_54 : decode cX11_wording 54 = .ok (.iconst 1, 1) := by decide +kernel
theorem dX11_wording_55 : decode cX11_wording 55 = .ok (.iload_n 1, 1) := by decide +kernel
theorem dX11_wording_56 : decode cX11_wording 56 = .ok (.ishl, 1) := by decide +kernel
theorem dX11_wording_57 : decode cX11_wording 57 = .ok (.iload 5, 2) := by decide +kernel
theorem dX11_wording_59 : decode cX11_wording 59 = .ok (.iload_n 2, 1) := by decide +kernel
theorem dX11_wording_60 : decode cX11_wording 60 = .ok (.invokevirtual 247, 3) := by decide +kernel
theorem dX11_wording_63 : decode cX11_wording 63 = .ok (.istore 6, 2) := by decide +kernel
theorem dX11_wording_65 : decode cX11_wording 65 = .ok (.iload 6, 2) := by decide +kernel
theorem dX11_wording_67 : decode cX11_wording 67 = .ok (.iload 4, 2) := by decide +kernel
theorem dX11_wording_69 : decode cX11_wording 69 = .ok (.if_icmp .ge 8, 3) := by decide +kernel
theorem dX11_wording_72 : decode cX11_wording 72 = .ok (.iload 5, 2) := by decide +kernel
theorem dX11_wording_74 : decode cX11_wording 74 = .ok (.goto 4, 3) := by decide +kernel
theorem dX11_wording_77 : decode cX11_wording 77 = .ok (.iload_n 3, 1) := by decide +kernel
theorem dX11_wording_78 : decode cX11_wording 78 = .ok (.istore_n 3, 1) := by decide +kernel
theorem dX11_wording_79 : decode cX11_wording 79 = .ok (.iload 6, 2) := by decide +kernel
theorem dX11_wording_81 : decode cX11_wording 81 = .ok (.iload 4, 2) := by decide +kernel
theorem dX11_wording_83 : decode cX11_wording 83 = .ok (.if_icmp .ge 8, 3) := by decide +kernel
theorem dX11_wording_86 : decode cX11_wording 86 = .ok (.iload 6, 2) := by decide +kernel
theorem dX11_wording_88 : decode cX11_wording 88 = .ok (.goto 5, 3) := by decide +kernel
theorem dX11_wording_91 : decode cX11_wording 91 = .ok (.iload 4, 2) := by decide +kernel
theorem dX11_wording_93 : decode cX11_wording 93 = .ok (.istore 4, 2) := by decide +kernel
theorem dX11_wording_95 : decode cX11_wording 95 = .ok (.iinc 5 1, 3) := by decide +kernel
theorem dX11_wording_98 : decode cX11_wording 98 = .ok (.goto (-51), 3) := by decide +kernel
theorem dX11_wording_101 : decode cX11_wording 101 = .ok (.iload_n 3, 1) := by decide +kernel
theorem dX11_wording_102 : decode cX11_wording 102 = .ok (.ireturn, 1) := by decide +kernel
theorem dX11_size_0 : decode cX11_size 0 = .ok (.iconst 0, 1) := by decide +kernel
theorem dX11_size_1 : decode cX11_size 1 = .ok (.istore_n 1, 1) := by decide +kernel
theorem dX11_size_2 : decode cX11_size 2 = .ok (.iconst 0, 1) := by decide +kernel
theorem dX11_size_3 : decode cX11_size 3 = .ok (.istore_n 2, 1) := by decide +kernel
theorem dX11_size_4 : decode cX11_size 4 = .ok (.iload_n 2, 1) := by decide +kernel
theorem dX11_size_5 : decode cX11_size 5 = .ok (.bipush 8, 2) := by decide +kernel
theorem dX11_size_7 : decode cX11_size 7 = .ok (.if_icmp .ge 17, 3) := by decide +kernel
theorem dX11_size_10 : decode cX11_size 10 = .ok (.iload_n 1, 1) := by decide +kernel
theorem dX11_size_11 : decode cX11_size 11 = .ok (.iload_n 0, 1) := by decide +kernel
theorem dX11_size_12 : decode cX11_size 12 = .ok (.iload_n 2, 1) := by decide +kernel
theorem dX11_size_13 : decode cX11_size 13 = .ok (.ishr, 1) := by decide +kernel
theorem dX11_size_14 : decode cX11_size 14 = .ok (.iconst 1, 1) := by decide +kernel
theorem dX11_size_15 : decode cX11_size 15 = .ok (.iand, 1) := by decide +kernel
theorem dX11_size_16 : decode cX11_size 16 = .ok (.iadd, 1) := by decide +kernel
theorem dX11_size_17 : decode cX11_size 17 = .ok (.istore_n 1, 1) := by decide +kernel
theorem dX11_size_18 : decode cX11_size 18 = .ok (.iinc 2 1, 3) := by decide +kernel
theorem dX11_size_21 : decode cX11_size 21 = .ok (.goto (-17), 3) := by decide +kernel
theorem dX11_size_24 : decode cX11_size 24 = .ok (.iload_n 1, 1) := by decide +kernel
theorem dX11_size_25 : decode cX11_size 25 = .ok (.ireturn, 1) := by decide +kernel
theorem dX11_plan_0 : decode cX11_plan 0 = .ok (.iload_n 1, 1) := by decide +kernel
theorem dX11_plan_1 : decode cX11_plan 1 = .ok (.i2l, 1) := by decide +kernel
theorem dX11_plan_2 : decode cX11_plan 2 = .ok (.lconst 0, 1) := by decide +kernel
theorem dX11_plan_3 : decode cX11_plan 3 = .ok (.iconst 1, 1) := by decide +kernel
theorem dX11_plan_4 : decode cX11_plan 4 = .ok (.aload_n 0, 1) := by decide +kernel
theorem dX11_plan_5 : decode cX11_plan 5 = .ok (.getfield 157, 3) := by decide +kernel
theorem dX11_plan_8 : decode cX11_plan 8 = .ok (.ishl, 1) := by decide +kernel
theorem dX11_plan_9 : decode cX11_plan 9 = .ok (.iconst 1, 1) := by decide +kernel
theorem dX11_plan_10 : decode cX11_plan 10 = .ok (.isub, 1) := by decide +kernel
theorem dX11_plan_11 : decode cX11_plan 11 = .ok (.i2l, 1) := by decide +kernel
theorem dX11_plan_12 : decode cX11_plan 12 = .ok (.invokestatic 120, 3) := by decide +kernel
theorem dX11_plan_15 : decode cX11_plan 15 = .ok (.ifCond .eq 23, 3) := by decide +kernel
theorem dX11_plan_18 : decode cX11_plan 18 = .ok (.iload_n 1, 1) := by decide +kernel
theorem dX11_plan_19 : decode cX11_plan 19 = .ok (.invokestatic 251, 3) := by decide +kernel
theorem dX11_plan_22 : decode cX11_plan 22 = .ok (.iconst 4, 1) := by decide +kernel
theorem dX11_plan_23 : decode cX11_plan 23 = .ok (.if_icmp .gt 15, 3) := by decide +kernel
theorem dX11_plan_26 : decode cX11_plan 26 = .ok (.iload_n 2, 1) := by decide +kernel
theorem dX11_plan_27 : decode cX11_plan 27 = .ok (.i2l, 1) := by decide +kernel
theorem dX11_plan_28 : decode cX11_plan 28 = .ok (.lconst 0, 1) := by decide +kernel
theorem dX11_plan_29 : decode cX11_plan 29 = .ok (.ldc2_w 254, 3) := by decide +kernel
theorem dX11_plan_32 : decode cX11_plan 32 = .ok (.invokestatic 120, 3) := by decide +kernel
theorem dX11_plan_35 : decode cX11_plan 35 = .ok (.ifCond .ne 5, 3) := by decide +kernel
theorem dX11_plan_38 : decode cX11_plan 38 = .ok (.iconst (-1), 1) := by decide +kernel
theorem dX11_plan_39 : decode cX11_plan 39 = .ok (.ireturn, 1) := by decide +kernel
theorem dX11_plan_40 : decode cX11_plan 40 = .ok (.iconst 0, 1) := by decide +kernel
theorem dX11_plan_41 : decode cX11_plan 41 = .ok (.istore_n 3, 1) := by decide +kernel
theorem dX11_plan_42 : decode cX11_plan 42 = .ok (.iload_n 3, 1) := by decide +kernel
theorem dX11_plan_43 : decode cX11_plan 43 = .ok (.aload_n 0, 1) := by decide +kernel
theorem dX11_plan_44 : decode cX11_plan 44 = .ok (.getfield 157, 3) := by decide +kernel
theorem dX11_plan_47 : decode cX11_plan 47 = .ok (.if_icmp .ge 29, 3) := by decide +kernel
theorem dX11_plan_50 : decode cX11_plan 50 = .ok (.iload_n 1, 1) := by decide +kernel
theorem dX11_plan_51 : decode cX11_plan 51 = .ok (.iload_n 3, 1) := by decide +kernel
theorem dX11_plan_52 : decode cX11_plan 52 = .ok (.ishr, 1) := by decide +kernel
theorem dX11_plan_53 : decode cX11_plan 53 = .ok (.iconst 1, 1) := by decide +kernel
theorem dX11_plan_54 : decode cX11_plan 54 = .ok (.iand, 1) := by decide +kernel
theorem dX11_plan_55 : decode cX11_plan 55 = .ok (.iconst 1, 1) := by decide +kernel
theorem dX11_plan_56 : decode cX11_plan 56 = .ok (.if_icmp .ne 14, 3) := by decide +kernel
theorem dX11_plan_59 : decode cX11_plan 59 = .ok (.aload_n 0, 1) := by decide +kernel
theorem dX11_plan_60 : decode cX11_plan 60 = .ok (.iload_n 3, 1) := by decide +kernel
theorem dX11_plan_61 : decode cX11_plan 61 = .ok (.invokevirtual 232, 3) := by decide +kernel
theorem dX11_plan_64 : decode cX11_plan 64 = .ok (.ifCond .ne 6, 3) := by decide +kernel
theorem dX11_plan_67 : decode cX11_plan 67 = .ok (.bipush (-2), 2) := by decide +kernel
theorem dX11_plan_69 : decode cX11_plan 69 = .ok (.ireturn, 1) := by decide +kernel
theorem dX11_plan_70 : decode cX11_plan 70 = .ok (.iinc 3 1, 3) := by decide +kernel
theorem dX11_plan_73 : decode cX11_plan 73 = .ok (.goto (-31), 3) := by decide +kernel
theorem dX11_plan_76 : decode cX11_plan 76 = .ok (.iconst 0, 1) := by decide +kernel
theorem dX11_plan_77 : decode cX11_plan 77 = .ok (.istore_n 3, 1) := by decide +kernel
theorem dX11_plan_78 : decode cX11_plan 78 = .ok (.aload_n 0, 1) := by decide +kernel
theorem dX11_plan_79 : decode cX11_plan 79 = .ok (.iconst 0, 1) := by decide +kernel
theorem dX11_plan_80 : decode cX11_plan 80 = .ok (.iconst 0, 1) := by decide +kernel
theorem dX11_plan_81 : decode cX11_plan 81 = .ok (.iload_n 2, 1) := by decide +kernel
theorem dX11_plan_82 : decode cX11_plan 82 = .ok (.invokevirtual 247, 3) := by decide +kernel
theorem dX11_plan_85 : decode cX11_plan 85 = .ok (.istore 4, 2) := by decide +kernel
theorem dX11_plan_87 : decode cX11_plan 87 = .ok (.iconst 1, 1) := by decide +kernel
theorem dX11_plan_88 : decode cX11_plan 88 = .ok (.istore 5, 2) := by decide +kernel
theorem dX11_plan_90 : decode cX11_plan 90 = .ok (.iload 5, 2) := by decide +kernel
theorem dX11_plan_92 : decode cX11_plan 92 = .ok (.iload_n 1, 1) := by decide +kernel
theorem dX11_plan_93 : decode cX11_plan 93 = .ok (.if_icmp .gt 87, 3) := by decide +kernel
theorem dX11_plan_96 : decode cX11_plan 96 = .ok (.iload 5, 2) := by decide +kernel
theorem dX11_plan_98 : decode cX11_plan 98 = .ok (.iload_n 1, 1) := by decide +kernel
theorem dX11_plan_99 : decode cX11_plan 99 = .ok (.iconst (-1), 1) := by decide +kernel
theorem dX11_plan_100 : decode cX11_plan 100 = .ok (.ixor, 1) := by decide +kernel
theorem dX11_plan_101 : decode cX11_plan 101 = .ok (.iand, 1) := by decide +kernel
theorem dX11_plan_102 : decode cX11_plan 102 = .ok (.ifCond .ne 72, 3) := by decide +kernel
theorem dX11_plan_105 : decode cX11_plan 105 = .ok (.aload_n 0, 1) := by decide +kernel
theorem dX11_plan_106 : decode cX11_plan 106 = .ok (.iload 5, 2) := by decide +kernel
theorem dX11_plan_108 : decode cX11_plan 108 = .ok (.iconst 0, 1) := by decide +kernel
theorem dX11_plan_109 : decode cX11_plan 109 = .ok (.iload_n 2, 1) := by decide +kernel
theorem dX11_plan_110 : decode cX11_plan 110 = .ok (.invokevirtual 247, 3) := by decide +kernel
theorem dX11_plan_113 : decode cX11_plan 113 = .ok (.istore 6, 2) := by decide +kernel
theorem dX11_plan_115 : decode cX11_plan 115 = .ok (.iload 6, 2) := by decide +kernel
theorem dX11_plan_117 : decode cX11_plan 117 = .ok (.iload 4, 2) := by decide +kernel
theorem dX11_plan_119 : decode cX11_plan 119 = .ok (.if_icmp .lt 22, 3) := by decide +kernel
theorem dX11_plan_122 : decode cX11_plan 122 = .ok (.iload 6, 2) := by decide +kernel
theorem dX11_plan_124 : decode cX11_plan 124 = .ok (.iload 4, 2) := by decide +kernel
theorem dX11_plan_126 : decode cX11_plan 126 = .ok (.if_icmp .ne 19, 3) := by decide +kernel
theorem dX11_plan_129 : decode cX11_plan 129 = .ok (.iload 5, 2) := by decide +kernel
theorem dX11_plan_131 : decode cX11_plan 131 = .ok (.invokestatic 251, 3) := by decide +kernel
theorem dX11_plan_134 : decode cX11_plan 134 = .ok (.iload_n 3, 1) := by decide +kernel
theorem dX11_plan_135 : decode cX11_plan 135 = .ok (.invokestatic 251, 3) := by decide +kernel
theorem dX11_plan_138 : decode cX11_plan 138 = .ok (.if_icmp .ge 7, 3) := by decide +kernel
theorem dX11_plan_141 : decode cX11_plan 141 = .ok (.iconst 1, 1) := by decide +kernel
theorem dX11_plan_142 : decode cX11_plan 142 = .ok (.goto 4, 3) := by decide +kernel
theorem dX11_plan_145 : decode cX11_plan 145 = .ok (.iconst 0, 1) := by decide +kernel
theorem dX11_plan_146 : decode cX11_plan 146 = .ok (.istore 7, 2) := by decide +kernel
theorem dX11_plan_148 : decode cX11_plan 148 = .ok (.iload 7, 2) := by decide +kernel
theorem dX11_plan_150 : decode cX11_plan 150 = .ok (.ifCond .eq 8, 3) := by decide +kernel
theorem dX11_plan_153 : decode cX11_plan 153 = .ok (.iload 5, 2) := by decide +kernel
theorem dX11_plan_155 : decode cX11_plan 155 = .ok (.goto 4, 3) := by decide +kernel
theorem dX11_plan_158 : decode cX11_plan 158 = .ok (.iload_n 3, 1) := by decide +kernel
theorem dX11_plan_159 : decode cX11_plan 159 = .ok (.istore_n 3, 1) := by decide +kernel
theorem dX11_plan_160 : decode cX11_plan 160 = .ok (.iload 7, 2) := by decide +kernel
theorem dX11_plan_162 : decode cX11_plan 162 = .ok (.ifCond .eq 8, 3) := by decide +kernel
theorem dX11_plan_165 : decode cX11_plan 165 = .ok (.iload 6, 2) := by decide +kernel
theorem dX11_plan_167 : decode cX11_plan 167 = .ok (.goto 5, 3) := by decide +kernel
theorem dX11_plan_170 : decode cX11_plan 170 = .ok (.iload 4, 2) := by decide +kernel
theorem dX11_plan_172 : decode cX11_plan 172 = .ok (.istore 4, 2) := by decide +kernel
theorem dX11_plan_174 : decode cX11_plan 174 = .ok (.iinc 5 1, 3) := by decide +kernel
theorem dX11_plan_177 : decode cX11_plan 177 = .ok (.goto (-87), 3) := by decide +kernel
theorem dX11_plan_180 : decode cX11_plan 180 = .ok (.iload_n 3, 1) := by decide +kernel
theorem dX11_plan_181 : decode cX11_plan 181 = .ok (.ireturn, 1) := by decide +kernel
theorem dX11_type_0 : decode cX11_type 0 = .ok (.iload_n 3, 1) := by decide +kernel
theorem dX11_type_1 : decode cX11_type 1 = .ok (.i2l, 1) := by decide +kernel
theorem dX11_type_2 : decode cX11_type 2 = .ok (.lconst 1, 1) := by decide +kernel
theorem dX11_type_3 : decode cX11_type 3 = .ok (.ldc2_w 143, 3) := by decide +kernel
theorem dX11_type_6 : decode cX11_type 6 = .ok (.invokestatic 120, 3) := by decide +kernel
theorem dX11_type_9 : decode cX11_type 9 = .ok (.ifCond .ne 5, 3) := by decide +kernel
theorem dX11_type_12 : decode cX11_type 12 = .ok (.iconst (-1), 1) := by decide +kernel
theorem dX11_type_13 : decode cX11_type 13 = .ok (.ireturn, 1) := by decide +kernel
theorem dX11_type_14 : decode cX11_type 14 = .ok (.iconst 0, 1) := by decide +kernel
theorem dX11_type_15 : decode cX11_type 15 = .ok (.istore 4, 2) := by decide +kernel
theorem dX11_type_17 : decode cX11_type 17 = .ok (.iload 4, 2) := by decide +kernel
theorem dX11_type_19 : decode cX11_type 19 = .ok (.iload_n 3, 1) := by decide +kernel
theorem dX11_type_20 : decode cX11_type 20 = .ok (.if_icmp .ge 34, 3) := by decide +kernel
theorem dX11_type_23 : decode cX11_type 23 = .ok (.lload_n 1, 1) := by decide +kernel
theorem dX11_type_24 : decode cX11_type 24 = .ok (.bipush 8, 2) := by decide +kernel
theorem dX11_type_26 : decode cX11_type 26 = .ok (.iload 4, 2) := by decide +kernel
theorem dX11_type_28 : decode cX11_type 28 = .ok (.imul, 1) := by decide +kernel
theorem dX11_type_29 : decode cX11_type 29 = .ok (.lshr, 1) := by decide +kernel
theorem dX11_type_30 : decode cX11_type 30 = .ok (.ldc2_w 256, 3) := by decide +kernel
theorem dX11_type_33 : decode cX11_type 33 = .ok (.land, 1) := by decide +kernel
theorem dX11_type_34 : decode cX11_type 34 = .ok (.ldc2_w 258, 3) := by decide +kernel
theorem dX11_type_37 : decode cX11_type 37 = .ok (.ldc2_w 260, 3) := by decide +kernel
theorem dX11_type_40 : decode cX11_type 40 = .ok (.invokestatic 120, 3) := by decide +kernel
theorem dX11_type_43 : decode cX11_type 43 = .ok (.ifCond .ne 5, 3) := by decide +kernel
theorem dX11_type_46 : decode cX11_type 46 = .ok (.iconst (-1), 1) := by decide +kernel
theorem dX11_type_47 : decode cX11_type 47 = .ok (.ireturn, 1) := by decide +kernel
theorem dX11_type_48 : decode cX11_type 48 = .ok (.iinc 4 1, 3) := by decide +kernel
theorem dX11_type_51 : decode cX11_type 51 = .ok (.goto (-34), 3) := by decide +kernel
theorem dX11_type_54 : decode cX11_type 54 = .ok (.aload_n 0, 1) := by decide +kernel
theorem dX11_type_55 : decode cX11_type 55 = .ok (.getfield 262, 3) := by decide +kernel
theorem dX11_type_58 : decode cX11_type 58 = .ok (.iload_n 3, 1) := by decide +kernel
theorem dX11_type_59 : decode cX11_type 59 = .ok (.iadd, 1) := by decide +kernel
theorem dX11_type_60 : decode cX11_type 60 = .ok (.bipush 120, 2) := by decide +kernel
theorem dX11_type_62 : decode cX11_type 62 = .ok (.if_icmp .le 6, 3) := by decide +kernel
theorem dX11_type_65 : decode cX11_type 65 = .ok (.bipush (-3), 2) := by decide +kernel
theorem dX11_type_67 : decode cX11_type 67 = .ok (.ireturn, 1) := by decide +kernel
theorem dX11_type_68 : decode cX11_type 68 = .ok (.iload_n 3, 1) := by decide +kernel
theorem dX11_type_69 : decode cX11_type 69 = .ok (.iconst 1, 1) := by decide +kernel
theorem dX11_type_70 : decode cX11_type 70 = .ok (.isub, 1) := by decide +kernel
theorem dX11_type_71 : decode cX11_type 71 = .ok (.istore 4, 2) := by decide +kernel
theorem dX11_type_73 : decode cX11_type 73 = .ok (.iload 4, 2) := by decide +kernel
theorem dX11_type_75 : decode cX11_type 75 = .ok (.ifCond .lt 40, 3) := by decide +kernel
theorem dX11_type_78 : decode cX11_type 78 = .ok (.aload_n 0, 1) := by decide +kernel
theorem dX11_type_79 : decode cX11_type 79 = .ok (.getfield 68, 3) := by decide +kernel
theorem dX11_type_82 : decode cX11_type 82 = .ok (.aload_n 0, 1) := by decide +kernel
theorem dX11_type_83 : decode cX11_type 83 = .ok (.getfield 262, 3) := by decide +kernel
theorem dX11_type_86 : decode cX11_type 86 = .ok (.lload_n 1, 1) := by decide +kernel
theorem dX11_type_87 : decode cX11_type 87 = .ok (.bipush 8, 2) := by decide +kernel
theorem dX11_type_89 : decode cX11_type 89 = .ok (.iload 4, 2) := by decide +kernel
theorem dX11_type_91 : decode cX11_type 91 = .ok (.imul, 1) := by decide +kernel
theorem dX11_type_92 : decode cX11_type 92 = .ok (.lshr, 1) := by decide +kernel
theorem dX11_type_93 : decode cX11_type 93 = .ok (.ldc2_w 256, 3) := by decide +kernel
theorem dX11_type_96 : decode cX11_type 96 = .ok (.land, 1) := by decide +kernel
theorem dX11_type_97 : decode cX11_type 97 = .ok (.l2i, 1) := by decide +kernel
theorem dX11_type_98 : decode cX11_type 98 = .ok (.iastore, 1) := by decide +kernel
theorem dX11_type_99 : decode cX11_type 99 = .ok (.aload_n 0, 1) := by decide +kernel
theorem dX11_type_100 : decode cX11_type 100 = .ok (.dup, 1) := by decide +kernel
theorem dX11_type_101 : decode cX11_type 101 = .ok (.getfield 262, 3) := by decide +kernel
theorem dX11_type_104 : decode cX11_type 104 = .ok (.iconst 1, 1) := by decide +kernel
theorem dX11_type_105 : decode cX11_type 105 = .ok (.iadd, 1) := by decide +kernel
theorem dX11_type_106 : decode cX11_type 106 = .ok (.putfield 262, 3) := by decide +kernel
theorem dX11_type_109 : decode cX11_type 109 = .ok (.iinc 4 (-1), 3) := by decide +kernel
theorem dX11_type_112 : decode cX11_type 112 = .ok (.goto (-39), 3) := by decide +kernel
theorem dX11_type_115 : decode cX11_type 115 = .ok (.aload_n 0, 1) := by decide +kernel
theorem dX11_type_116 : decode cX11_type 116 = .ok (.getfield 262, 3) := by decide +kernel
theorem dX11_type_119 : decode cX11_type 119 = .ok (.ireturn, 1) := by decide +kernel
theorem dX11_next_0 : decode cX11_next 0 = .ok (.aload_n 0, 1) := by decide +kernel
theorem dX11_next_1 : decode cX11_next 1 = .ok (.getfield 265, 3) := by decide +kernel
theorem dX11_next_4 : decode cX11_next 4 = .ok (.aload_n 0, 1) := by decide +kernel
theorem dX11_next_5 : decode cX11_next 5 = .ok (.getfield 268, 3) := by decide +kernel
theorem dX11_next_8 : decode cX11_next 8 = .ok (.if_icmp .ge 30, 3) := by decide +kernel
theorem dX11_next_11 : decode cX11_next 11 = .ok (.aload_n 0, 1) := by decide +kernel
theorem dX11_next_12 : decode cX11_next 12 = .ok (.getfield 71, 3) := by decide +kernel
theorem dX11_next_15 : decode cX11_next 15 = .ok (.aload_n 0, 1) := by decide +kernel
theorem dX11_next_16 : decode cX11_next 16 = .ok (.getfield 265, 3) := by decide +kernel
theorem dX11_next_19 : decode cX11_next 19 = .ok (.iaload, 1) := by decide +kernel
theorem dX11_next_20 : decode cX11_next 20 = .ok (.bipush 32, 2) := by decide +kernel
theorem dX11_next_22 : decode cX11_next 22 = .ok (.if_icmp .ne 16, 3) := by decide +kernel
theorem dX11_next_25 : decode cX11_next 25 = .ok (.aload_n 0, 1) := by decide +kernel
theorem dX11_next_26 : decode cX11_next 26 = .ok (.dup, 1) := by decide +kernel
theorem dX11_next_27 : decode cX11_next 27 = .ok (.getfield 265, 3) := by decide +kernel
theorem dX11_next_30 : decode cX11_next 30 = .ok (.iconst 1, 1) := by decide +kernel
theorem dX11_next_31 : decode cX11_next 31 = .ok (.iadd, 1) := by decide +kernel
theorem dX11_next_32 : decode cX11_next 32 = .ok (.putfield 265, 3) := by decide +kernel
theorem dX11_next_35 : decode cX11_next 35 = .ok (.goto (-35), 3) := by decide +kernel
theorem dX11_next_38 : decode cX11_next 38 = .ok (.aload_n 0, 1) := by decide +kernel
theorem dX11_next_39 : decode cX11_next 39 = .ok (.getfield 265, 3) := by decide +kernel
theorem dX11_next_42 : decode cX11_next 42 = .ok (.aload_n 0, 1) := by decide +kernel
theorem dX11_next_43 : decode cX11_next 43 = .ok (.getfield 268, 3) := by decide +kernel
theorem dX11_next_46 : decode cX11_next 46 = .ok (.if_icmp .ge 15, 3) := by decide +kernel
theorem dX11_next_49 : decode cX11_next 49 = .ok (.aload_n 0, 1) := by decide +kernel
theorem dX11_next_50 : decode cX11_next 50 = .ok (.getfield 71, 3) := by decide +kernel
theorem dX11_next_53 : decode cX11_next 53 = .ok (.aload_n 0, 1) := by decide +kernel
theorem dX11_next_54 : decode cX11_next 54 = .ok (.getfield 265, 3) := by decide +kernel
theorem dX11_next_57 : decode cX11_next 57 = .ok (.iaload, 1) := by decide +kernel
theorem dX11_next_58 : decode cX11_next 58 = .ok (.goto 4, 3) := by decide +kernel
theorem dX11_next_61 : decode cX11_next 61 = .ok (.iconst 0, 1) := by decide +kernel
theorem dX11_next_62 : decode cX11_next 62 = .ok (.ireturn, 1) := by decide +kernel
theorem dX11_passes_0 : decode cX11_passes 0 = .ok (.aload_n 0, 1) := by decide +kernel
theorem dX11_passes_1 : decode cX11_passes 1 = .ok (.getfield 271, 3) := by decide +kernel
theorem dX11_passes_4 : decode cX11_passes 4 = .ok (.ifCond .ne 15, 3) := by decide +kernel
theorem dX11_passes_7 : decode cX11_passes 7 = .ok (.aload_n 0, 1) := by decide +kernel
theorem dX11_passes_8 : decode cX11_passes 8 = .ok (.invokevirtual 275, 3) := by decide +kernel
theorem dX11_passes_11 : decode cX11_passes 11 = .ok (.iload_n 1, 1) := by decide +kernel
theorem dX11_passes_12 : decode cX11_passes 12 = .ok (.if_icmp .ne 7, 3) := by decide +kernel
theorem dX11_passes_15 : decode cX11_passes 15 = .ok (.iconst 1, 1) := by decide +kernel
theorem dX11_passes_16 : decode cX11_passes 16 = .ok (.goto 4, 3) := by decide +kernel
theorem dX11_passes_19 : decode cX11_passes 19 = .ok (.iconst 0, 1) := by decide +kernel
theorem dX11_passes_20 : decode cX11_passes 20 = .ok (.istore_n 2, 1) := by decide +kernel
theorem dX11_passes_21 : decode cX11_passes 21 = .ok (.aload_n 0, 1) := by decide +kernel
theorem dX11_passes_22 : decode cX11_passes 22 = .ok (.dup, 1) := by decide +kernel
theorem dX11_passes_23 : decode cX11_passes 23 = .ok (.getfield 265, 3) := by decide +kernel
theorem dX11_passes_26 : decode cX11_passes 26 = .ok (.iload_n 2, 1) := by decide +kernel
theorem dX11_passes_27 : decode cX11_passes 27 = .ok (.ifCond .eq 7, 3) := by decide +kernel
theorem dX11_passes_30 : decode cX11_passes 30 = .ok (.iconst 1, 1) := by decide +kernel
theorem dX11_passes_31 : decode cX11_passes 31 = .ok (.goto 4, 3) := by decide +kernel
theorem dX11_passes_34 : decode cX11_passes 34 = .ok (.iconst 0, 1) := by decide +kernel
theorem dX11_passes_35 : decode cX11_passes 35 = .ok (.iadd, 1) := by decide +kernel
theorem dX11_passes_36 : decode cX11_passes 36 = .ok (.putfield 265, 3) := by decide +kernel
theorem dX11_passes_39 : decode cX11_passes 39 = .ok (.iload_n 2, 1) := by decide +kernel
theorem dX11_passes_40 : decode cX11_passes 40 = .ok (.ireturn, 1) := by decide +kernel
theorem dX11_claim_0 : decode cX11_claim 0 = .ok (.aload_n 0, 1) := by decide +kernel
theorem dX11_claim_1 : decode cX11_claim 1 = .ok (.invokevirtual 275, 3) := by decide +kernel
theorem dX11_claim_4 : decode cX11_claim 4 = .ok (.istore_n 2, 1) := by decide +kernel
theorem dX11_claim_5 : decode cX11_claim 5 = .ok (.iload_n 2, 1) := by decide +kernel
theorem dX11_claim_6 : decode cX11_claim 6 = .ok (.bipush 119, 2) := by decide +kernel
theorem dX11_claim_8 : decode cX11_claim 8 = .ok (.if_icmp .ne 7, 3) := by decide +kernel
theorem dX11_claim_11 : decode cX11_claim 11 = .ok (.iconst 1, 1) := by decide +kernel
theorem dX11_claim_12 : decode cX11_claim 12 = .ok (.goto 34, 3) := by decide +kernel
theorem dX11_claim_15 : decode cX11_claim 15 = .ok (.iload_n 2, 1) := by decide +kernel
theorem dX11_claim_16 : decode cX11_claim 16 = .ok (.bipush 116, 2) := by decide +kernel
theorem dX11_claim_18 : decode cX11_claim 18 = .ok (.if_icmp .ne 7, 3) := by decide +kernel
theorem dX11_claim_21 : decode cX11_claim 21 = .ok (.iconst 2, 1) := by decide +kernel
theorem dX11_claim_22 : decode cX11_claim 22 = .ok (.goto 24, 3) := by decide +kernel
theorem dX11_claim_25 : decode cX11_claim 25 = .ok (.iload_n 2, 1) := by decide +kernel
theorem dX11_claim_26 : decode cX11_claim 26 = .ok (.bipush 110, 2) := by decide +kernel
theorem dX11_claim_28 : decode cX11_claim 28 = .ok (.if_icmp .ne 7, 3) := by decide +kernel
theorem dX11_claim_31 : decode cX11_claim 31 = .ok (.iconst 3, 1) := by decide +kernel
theorem dX11_claim_32 : decode cX11_claim 32 = .ok (.goto 14, 3) := by decide +kernel
theorem dX11_claim_35 : decode cX11_claim 35 = .ok (.iload_n 2, 1) := by decide +kernel
theorem dX11_claim_36 : decode cX11_claim 36 = .ok (.bipush 112, 2) := by decide +kernel
theorem dX11_claim_38 : decode cX11_claim 38 = .ok (.if_icmp .ne 7, 3) := by decide +kernel
theorem dX11_claim_41 : decode cX11_claim 41 = .ok (.iconst 4, 1) := by decide +kernel
theorem dX11_claim_42 : decode cX11_claim 42 = .ok (.goto 4, 3) := by decide +kernel
theorem dX11_claim_45 : decode cX11_claim 45 = .ok (.iconst 0, 1) := by decide +kernel
theorem dX11_claim_46 : decode cX11_claim 46 = .ok (.istore_n 3, 1) := by decide +kernel
theorem dX11_claim_47 : decode cX11_claim 47 = .ok (.aload_n 0, 1) := by decide +kernel
theorem dX11_claim_48 : decode cX11_claim 48 = .ok (.iload_n 3, 1) := by decide +kernel
theorem dX11_claim_49 : decode cX11_claim 49 = .ok (.ifCond .ne 7, 3) := by decide +kernel
theorem dX11_claim_52 : decode cX11_claim 52 = .ok (.iconst 1, 1) := by decide +kernel
theorem dX11_claim_53 : decode cX11_claim 53 = .ok (.goto 4, 3) := by decide +kernel
theorem dX11_claim_56 : decode cX11_claim 56 = .ok (.iconst 0, 1) := by decide +kernel
theorem dX11_claim_57 : decode cX11_claim 57 = .ok (.putfield 271, 3) := by decide +kernel
theorem dX11_claim_60 : decode cX11_claim 60 = .ok (.aload_n 0, 1) := by decide +kernel
theorem dX11_claim_61 : decode cX11_claim 61 = .ok (.dup, 1) := by decide +kernel
theorem dX11_claim_62 : decode cX11_claim 62 = .ok (.getfield 265, 3) := by decide +kernel
theorem dX11_claim_65 : decode cX11_claim 65 = .ok (.aload_n 0, 1) := by decide +kernel
theorem dX11_claim_66 : decode cX11_claim 66 = .ok (.getfield 271, 3) := by decide +kernel
theorem dX11_claim_69 : decode cX11_claim 69 = .ok (.ifCond .eq 7, 3) := by decide +kernel
theorem dX11_claim_72 : decode cX11_claim 72 = .ok (.iconst 0, 1) := by decide +kernel
theorem dX11_claim_73 : decode cX11_claim 73 = .ok (.goto 4, 3) := by decide +kernel
theorem dX11_claim_76 : decode cX11_claim 76 = .ok (.iconst 1, 1) := by decide +kernel
theorem dX11_claim_77 : decode cX11_claim 77 = .ok (.iadd, 1) := by decide +kernel
theorem dX11_claim_78 : decode cX11_claim 78 = .ok (.putfield 265, 3) := by decide +kernel
theorem dX11_claim_81 : decode cX11_claim 81 = .ok (.aload_n 0, 1) := by decide +kernel
theorem dX11_claim_82 : decode cX11_claim 82 = .ok (.getfield 271, 3) := by decide +kernel
theorem dX11_claim_85 : decode cX11_claim 85 = .ok (.ifCond .eq 7, 3) := by decide +kernel
theorem dX11_claim_88 : decode cX11_claim 88 = .ok (.iconst 0, 1) := by decide +kernel
theorem dX11_claim_89 : decode cX11_claim 89 = .ok (.goto 7, 3) := by decide +kernel
theorem dX11_claim_92 : decode cX11_claim 92 = .ok (.aload_n 0, 1) := by decide +kernel
theorem dX11_claim_93 : decode cX11_claim 93 = .ok (.invokevirtual 275, 3) := by decide +kernel
theorem dX11_claim_96 : decode cX11_claim 96 = .ok (.istore 4, 2) := by decide +kernel
theorem dX11_claim_98 : decode cX11_claim 98 = .ok (.aload_n 0, 1) := by decide +kernel
theorem dX11_claim_99 : decode cX11_claim 99 = .ok (.aload_n 0, 1) := by decide +kernel
theorem dX11_claim_100 : decode cX11_claim 100 = .ok (.getfield 271, 3) := by decide +kernel
theorem dX11_claim_103 : decode cX11_claim 103 = .ok (.ifCond .ne 18, 3) := by decide +kernel
theorem dX11_claim_106 : decode cX11_claim 106 = .ok (.iload 4, 2) := by decide +kernel
theorem dX11_claim_108 : decode cX11_claim 108 = .ok (.i2l, 1) := by decide +kernel
theorem dX11_claim_109 : decode cX11_claim 109 = .ok (.ldc2_w 279, 3) := by decide +kernel
theorem dX11_claim_112 : decode cX11_claim 112 = .ok (.ldc2_w 281, 3) := by decide +kernel
theorem dX11_claim_115 : decode cX11_claim 115 = .ok (.invokestatic 120, 3) := by decide +kernel
theorem dX11_claim_118 : decode cX11_claim 118 = .ok (.ifCond .ne 7, 3) := by decide +kernel
theorem dX11_claim_121 : decode cX11_claim 121 = .ok (.iconst 1, 1) := by decide +kernel
theorem dX11_claim_122 : decode cX11_claim 122 = .ok (.goto 4, 3) := by decide +kernel
theorem dX11_claim_125 : decode cX11_claim 125 = .ok (.iconst 0, 1) := by decide +kernel
theorem dX11_claim_126 : decode cX11_claim 126 = .ok (.putfield 271, 3) := by decide +kernel
theorem dX11_claim_129 : decode cX11_claim 129 = .ok (.aload_n 0, 1) := by decide +kernel
theorem dX11_claim_130 : decode cX11_claim 130 = .ok (.dup, 1) := by decide +kernel
theorem dX11_claim_131 : decode cX11_claim 131 = .ok (.getfield 265, 3) := by decide +kernel
theorem dX11_claim_134 : decode cX11_claim 134 = .ok (.aload_n 0, 1) := by decide +kernel
theorem dX11_claim_135 : decode cX11_claim 135 = .ok (.getfield 271, 3) := by decide +kernel
theorem dX11_claim_138 : decode cX11_claim 138 = .ok (.ifCond .eq 7, 3) := by decide +kernel
theorem dX11_claim_141 : decode cX11_claim 141 = .ok (.iconst 0, 1) := by decide +kernel
theorem dX11_claim_142 : decode cX11_claim 142 = .ok (.goto 4, 3) := by decide +kernel
theorem dX11_claim_145 : decode cX11_claim 145 = .ok (.iconst 1, 1) := by decide +kernel
theorem dX11_claim_146 : decode cX11_claim 146 = .ok (.iadd, 1) := by decide +kernel
theorem dX11_claim_147 : decode cX11_claim 147 = .ok (.putfield 265, 3) := by decide +kernel
theorem dX11_claim_150 : decode cX11_claim 150 = .ok (.aload_n 0, 1) := by decide +kernel
theorem dX11_claim_151 : decode cX11_claim 151 = .ok (.getfield 271, 3) := by decide +kernel
theorem dX11_claim_154 : decode cX11_claim 154 = .ok (.ifCond .eq 7, 3) := by decide +kernel
theorem dX11_claim_157 : decode cX11_claim 157 = .ok (.iconst 0, 1) := by decide +kernel
theorem dX11_claim_158 : decode cX11_claim 158 = .ok (.goto 10, 3) := by decide +kernel
theorem dX11_claim_161 : decode cX11_claim 161 = .ok (.aload_n 0, 1) := by decide +kernel
theorem dX11_claim_162 : decode cX11_claim 162 = .ok (.invokevirtual 275, 3) := by decide +kernel
theorem dX11_claim_165 : decode cX11_claim 165 = .ok (.bipush 48, 2) := by decide +kernel
theorem dX11_claim_167 : decode cX11_claim 167 = .ok (.isub, 1) := by decide +kernel
theorem dX11_claim_168 : decode cX11_claim 168 = .ok (.istore 5, 2) := by decide +kernel
theorem dX11_claim_170 : decode cX11_claim 170 = .ok (.aload_n 0, 1) := by decide +kernel
theorem dX11_claim_171 : decode cX11_claim 171 = .ok (.aload_n 0, 1) := by decide +kernel
theorem dX11_claim_172 : decode cX11_claim 172 = .ok (.getfield 271, 3) := by decide +kernel
theorem dX11_claim_175 : decode cX11_claim 175 = .ok (.ifCond .ne 11, 3) := by decide +kernel
theorem dX11_claim_178 : decode cX11_claim 178 = .ok (.iload 5, 2) := by decide +kernel
theorem dX11_claim_180 : decode cX11_claim 180 = .ok (.invokestatic 163, 3) := by decide +kernel
theorem dX11_claim_183 : decode cX11_claim 183 = .ok (.ifCond .ne 7, 3) := by decide +kernel
theorem dX11_claim_186 : decode cX11_claim 186 = .ok (.iconst 1, 1) := by decide +kernel
theorem dX11_claim_187 : decode cX11_claim 187 = .ok (.goto 4, 3) := by decide +kernel
theorem dX11_claim_190 : decode cX11_claim 190 = .ok (.iconst 0, 1) := by decide +kernel
theorem dX11_claim_191 : decode cX11_claim 191 = .ok (.putfield 271, 3) := by decide +kernel
theorem dX11_claim_194 : decode cX11_claim 194 = .ok (.aload_n 0, 1) := by decide +kernel
theorem dX11_claim_195 : decode cX11_claim 195 = .ok (.dup, 1) := by decide +kernel
theorem dX11_claim_196 : decode cX11_claim 196 = .ok (.getfield 265, 3) := by decide +kernel
theorem dX11_claim_199 : decode cX11_claim 199 = .ok (.aload_n 0, 1) := by decide +kernel
theorem dX11_claim_200 : decode cX11_claim 200 = .ok (.getfield 271, 3) := by decide +kernel
theorem dX11_claim_203 : decode cX11_claim 203 = .ok (.ifCond .eq 7, 3) := by decide +kernel
theorem dX11_claim_206 : decode cX11_claim 206 = .ok (.iconst 0, 1) := by decide +kernel
theorem dX11_claim_207 : decode cX11_claim 207 = .ok (.goto 4, 3) := by decide +kernel
theorem dX11_claim_210 : decode cX11_claim 210 = .ok (.iconst 1, 1) := by decide +kernel
theorem dX11_claim_211 : decode cX11_claim 211 = .ok (.iadd, 1) := by decide +kernel
theorem dX11_claim_212 : decode cX11_claim 212 = .ok (.putfield 265, 3) := by decide +kernel
theorem dX11_claim_215 : decode cX11_claim 215 = .ok (.aload_n 0, 1) := by decide +kernel
theorem dX11_claim_216 : decode cX11_claim 216 = .ok (.getfield 271, 3) := by decide +kernel
theorem dX11_claim_219 : decode cX11_claim 219 = .ok (.ifCond .eq 7, 3) := by decide +kernel
theorem dX11_claim_222 : decode cX11_claim 222 = .ok (.iconst 0, 1) := by decide +kernel
theorem dX11_claim_223 : decode cX11_claim 223 = .ok (.goto 8, 3) := by decide +kernel
theorem dX11_claim_226 : decode cX11_claim 226 = .ok (.iload_n 1, 1) := by decide +kernel
theorem dX11_claim_227 : decode cX11_claim 227 = .ok (.iload_n 3, 1) := by decide +kernel
theorem dX11_claim_228 : decode cX11_claim 228 = .ok (.invokestatic 177, 3) := by decide +kernel
theorem dX11_claim_231 : decode cX11_claim 231 = .ok (.istore 6, 2) := by decide +kernel
theorem dX11_claim_233 : decode cX11_claim 233 = .ok (.iload 4, 2) := by decide +kernel
theorem dX11_claim_235 : decode cX11_claim 235 = .ok (.bipush 61, 2) := by decide +kernel
theorem dX11_claim_237 : decode cX11_claim 237 = .ok (.if_icmp .ne 18, 3) := by decide +kernel
theorem dX11_claim_240 : decode cX11_claim 240 = .ok (.iload 6, 2) := by decide +kernel
theorem dX11_claim_242 : decode cX11_claim 242 = .ok (.iload 5, 2) := by decide +kernel
theorem dX11_claim_244 : decode cX11_claim 244 = .ok (.if_icmp .ne 7, 3) := by decide +kernel
theorem dX11_claim_247 : decode cX11_claim 247 = .ok (.iconst 1, 1) := by decide +kernel
theorem dX11_claim_248 : decode cX11_claim 248 = .ok (.goto 41, 3) := by decide +kernel
theorem dX11_claim_251 : decode cX11_claim 251 = .ok (.iconst 0, 1) := by decide +kernel
theorem dX11_claim_252 : decode cX11_claim 252 = .ok (.goto 37, 3) := by decide +kernel
theorem dX11_claim_255 : decode cX11_claim 255 = .ok (.iload 4, 2) := by decide +kernel
theorem dX11_claim_257 : decode cX11_claim 257 = .ok (.bipush 60, 2) := by decide +kernel
theorem dX11_claim_259 : decode cX11_claim 259 = .ok (.if_icmp .ne 18, 3) := by decide +kernel
theorem dX11_claim_262 : decode cX11_claim 262 = .ok (.iload 6, 2) := by decide +kernel
theorem dX11_claim_264 : decode cX11_claim 264 = .ok (.iload 5, 2) := by decide +kernel
theorem dX11_claim_266 : decode cX11_claim 266 = .ok (.if_icmp .ge 7, 3) := by decide +kernel
theorem dX11_claim_269 : decode cX11_claim 269 = .ok (.iconst 1, 1) := by decide +kernel
theorem dX11_claim_270 : decode cX11_claim 270 = .ok (.goto 19, 3) := by decide +kernel
theorem dX11_claim_273 : decode cX11_claim 273 = .ok (.iconst 0, 1) := by decide +kernel
theorem dX11_claim_274 : decode cX11_claim 274 = .ok (.goto 15, 3) := by decide +kernel
theorem dX11_claim_277 : decode cX11_claim 277 = .ok (.iload 6, 2) := by decide +kernel
theorem dX11_claim_279 : decode cX11_claim 279 = .ok (.iload 5, 2) := by decide +kernel
theorem dX11_claim_281 : decode cX11_claim 281 = .ok (.if_icmp .le 7, 3) := by decide +kernel
theorem dX11_claim_284 : decode cX11_claim 284 = .ok (.iconst 1, 1) := by decide +kernel
theorem dX11_claim_285 : decode cX11_claim 285 = .ok (.goto 4, 3) := by decide +kernel
theorem dX11_claim_288 : decode cX11_claim 288 = .ok (.iconst 0, 1) := by decide +kernel
theorem dX11_claim_289 : decode cX11_claim 289 = .ok (.ireturn, 1) := by decide +kernel
theorem dX11_test_0 : decode cX11_test 0 = .ok (.iconst 0, 1) := by decide +kernel
theorem dX11_test_1 : decode cX11_test 1 = .ok (.istore_n 2, 1) := by decide +kernel
theorem dX11_test_2 : decode cX11_test 2 = .ok (.aload_n 0, 1) := by decide +kernel
theorem dX11_test_3 : decode cX11_test 3 = .ok (.getfield 77, 3) := by decide +kernel
theorem dX11_test_6 : decode cX11_test 6 = .ok (.iconst 0, 1) := by decide +kernel
theorem dX11_test_7 : decode cX11_test 7 = .ok (.iconst 0, 1) := by decide +kernel
theorem dX11_test_8 : decode cX11_test 8 = .ok (.bastore, 1) := by decide +kernel
theorem dX11_test_9 : decode cX11_test 9 = .ok (.aload_n 0, 1) := by decide +kernel
theorem dX11_test_10 : decode cX11_test 10 = .ok (.getfield 80, 3) := by decide +kernel
theorem dX11_test_13 : decode cX11_test 13 = .ok (.iconst 0, 1) := by decide +kernel
theorem dX11_test_14 : decode cX11_test 14 = .ok (.iconst 1, 1) := by decide +kernel
theorem dX11_test_15 : decode cX11_test 15 = .ok (.bastore, 1) := by decide +kernel
theorem dX11_test_16 : decode cX11_test 16 = .ok (.iconst 1, 1) := by decide +kernel
theorem dX11_test_17 : decode cX11_test 17 = .ok (.istore_n 3, 1) := by decide +kernel
theorem dX11_test_18 : decode cX11_test 18 = .ok (.aload_n 0, 1) := by decide +kernel
theorem dX11_test_19 : decode cX11_test 19 = .ok (.getfield 271, 3) := by decide +kernel
theorem dX11_test_22 : decode cX11_test 22 = .ok (.ifCond .ne 278, 3) := by decide +kernel
theorem dX11_test_25 : decode cX11_test 25 = .ok (.iload_n 3, 1) := by decide +kernel
theorem dX11_test_26 : decode cX11_test 26 = .ok (.ifCond .eq 102, 3) := by decide +kernel
theorem dX11_test_29 : decode cX11_test 29 = .ok (.aload_n 0, 1) := by decide +kernel
theorem dX11_test_30 : decode cX11_test 30 = .ok (.bipush 33, 2) := by decide +kernel
theorem dX11_test_32 : decode cX11_test 32 = .ok (.invokevirtual 283, 3) := by decide +kernel
theorem dX11_test_35 : decode cX11_test 35 = .ok (.istore 4, 2) := by decide +kernel
theorem dX11_test_37 : decode cX11_test 37 = .ok (.aload_n 0, 1) := by decide +kernel
theorem dX11_test_38 : decode cX11_test 38 = .ok (.invokevirtual 275, 3) := by decide +kernel
theorem dX11_test_41 : decode cX11_test 41 = .ok (.bipush 40, 2) := by decide +kernel
theorem dX11_test_43 : decode cX11_test 43 = .ok (.if_icmp .ne 46, 3) := by decide +kernel
theorem dX11_test_46 : decode cX11_test 46 = .ok (.iload_n 2, 1) := by decide +kernel
theorem dX11_test_47 : decode cX11_test 47 = .ok (.iconst 5, 1) := by decide +kernel
theorem dX11_test_48 : decode cX11_test 48 = .ok (.if_icmp .ge 41, 3) := by decide +kernel
theorem dX11_test_51 : decode cX11_test 51 = .ok (.aload_n 0, 1) := by decide +kernel
theorem dX11_test_52 : decode cX11_test 52 = .ok (.dup, 1) := by decide +kernel
theorem dX11_test_53 : decode cX11_test 53 = .ok (.getfield 265, 3) := by decide +kernel
theorem dX11_test_56 : decode cX11_test 56 = .ok (.iconst 1, 1) := by decide +kernel
theorem dX11_test_57 : decode cX11_test 57 = .ok (.iadd, 1) := by decide +kernel
theorem dX11_test_58 : decode cX11_test 58 = .ok (.putfield 265, 3) := by decide +kernel
theorem dX11_test_61 : decode cX11_test 61 = .ok (.aload_n 0, 1) := by decide +kernel
theorem dX11_test_62 : decode cX11_test 62 = .ok (.getfield 83, 3) := by decide +kernel
theorem dX11_test_65 : decode cX11_test 65 = .ok (.iload_n 2, 1) := by decide +kernel
theorem dX11_test_66 : decode cX11_test 66 = .ok (.iload 4, 2) := by decide +kernel
theorem dX11_test_68 : decode cX11_test 68 = .ok (.bastore, 1) := by decide +kernel
theorem dX11_test_69 : decode cX11_test 69 = .ok (.iinc 2 1, 3) := by decide +kernel
theorem dX11_test_72 : decode cX11_test 72 = .ok (.aload_n 0, 1) := by decide +kernel
theorem dX11_test_73 : decode cX11_test 73 = .ok (.getfield 77, 3) := by decide +kernel
theorem dX11_test_76 : decode cX11_test 76 = .ok (.iload_n 2, 1) := by decide +kernel
theorem dX11_test_77 : decode cX11_test 77 = .ok (.iconst 0, 1) := by decide +kernel
theorem dX11_test_78 : decode cX11_test 78 = .ok (.bastore, 1) := by decide +kernel
theorem dX11_test_79 : decode cX11_test 79 = .ok (.aload_n 0, 1) := by decide +kernel
theorem dX11_test_80 : decode cX11_test 80 = .ok (.getfield 80, 3) := by decide +kernel
theorem dX11_test_83 : decode cX11_test 83 = .ok (.iload_n 2, 1) := by decide +kernel
theorem dX11_test_84 : decode cX11_test 84 = .ok (.iconst 1, 1) := by decide +kernel
theorem dX11_test_85 : decode cX11_test 85 = .ok (.bastore, 1) := by decide +kernel
theorem dX11_test_86 : decode cX11_test 86 = .ok (.goto 39, 3) := by decide +kernel
theorem dX11_test_89 : decode cX11_test 89 = .ok (.aload_n 0, 1) := by decide +kernel
theorem dX11_test_90 : decode cX11_test 90 = .ok (.iload_n 1, 1) := by decide +kernel
theorem dX11_test_91 : decode cX11_test 91 = .ok (.invokevirtual 286, 3) := by decide +kernel
theorem dX11_test_94 : decode cX11_test 94 = .ok (.istore 5, 2) := by decide +kernel
theorem dX11_test_96 : decode cX11_test 96 = .ok (.aload_n 0, 1) := by decide +kernel
theorem dX11_test_97 : decode cX11_test 97 = .ok (.getfield 80, 3) := by decide +kernel
theorem dX11_test_100 : decode cX11_test 100 = .ok (.iload_n 2, 1) := by decide +kernel
theorem dX11_test_101 : decode cX11_test 101 = .ok (.aload_n 0, 1) := by decide +kernel
theorem dX11_test_102 : decode cX11_test 102 = .ok (.getfield 80, 3) := by decide +kernel
theorem dX11_test_105 : decode cX11_test 105 = .ok (.iload_n 2, 1) := by decide +kernel
theorem dX11_test_106 : decode cX11_test 106 = .ok (.baload, 1) := by decide +kernel
theorem dX11_test_107 : decode cX11_test 107 = .ok (.ifCond .eq 14, 3) := by decide +kernel
theorem dX11_test_110 : decode cX11_test 110 = .ok (.iload 5, 2) := by decide +kernel
theorem dX11_test_112 : decode cX11_test 112 = .ok (.iload 4, 2) := by decide +kernel
theorem dX11_test_114 : decode cX11_test 114 = .ok (.if_icmp .eq 7, 3) := by decide +kernel
theorem dX11_test_117 : decode cX11_test 117 = .ok (.iconst 1, 1) := by decide +kernel
theorem dX11_test_118 : decode cX11_test 118 = .ok (.goto 4, 3) := by decide +kernel
theorem dX11_test_121 : decode cX11_test 121 = .ok (.iconst 0, 1) := by decide +kernel
theorem dX11_test_122 : decode cX11_test 122 = .ok (.bastore, 1) := by decide +kernel
theorem dX11_test_123 : decode cX11_test 123 = .ok (.iconst 0, 1) := by decide +kernel
theorem dX11_test_124 : decode cX11_test 124 = .ok (.istore_n 3, 1) := by decide +kernel
theorem dX11_test_125 : decode cX11_test 125 = .ok (.goto (-107), 3) := by decide +kernel
theorem dX11_test_128 : decode cX11_test 128 = .ok (.aload_n 0, 1) := by decide +kernel
theorem dX11_test_129 : decode cX11_test 129 = .ok (.bipush 38, 2) := by decide +kernel
theorem dX11_test_131 : decode cX11_test 131 = .ok (.invokevirtual 283, 3) := by decide +kernel
theorem dX11_test_134 : decode cX11_test 134 = .ok (.ifCond .eq 8, 3) := by decide +kernel
theorem dX11_test_137 : decode cX11_test 137 = .ok (.iconst 1, 1) := by decide +kernel
theorem dX11_test_138 : decode cX11_test 138 = .ok (.istore_n 3, 1) := by decide +kernel
theorem dX11_test_139 : decode cX11_test 139 = .ok (.goto (-121), 3) := by decide +kernel
theorem dX11_test_142 : decode cX11_test 142 = .ok (.aload_n 0, 1) := by decide +kernel
theorem dX11_test_143 : decode cX11_test 143 = .ok (.bipush 124, 2) := by decide +kernel
theorem dX11_test_145 : decode cX11_test 145 = .ok (.invokevirtual 283, 3) := by decide +kernel
theorem dX11_test_148 : decode cX11_test 148 = .ok (.ifCond .eq 44, 3) := by decide +kernel
theorem dX11_test_151 : decode cX11_test 151 = .ok (.aload_n 0, 1) := by decide +kernel
theorem dX11_test_152 : decode cX11_test 152 = .ok (.getfield 77, 3) := by decide +kernel
theorem dX11_test_155 : decode cX11_test 155 = .ok (.iload_n 2, 1) := by decide +kernel
theorem dX11_test_156 : decode cX11_test 156 = .ok (.aload_n 0, 1) := by decide +kernel
theorem dX11_test_157 : decode cX11_test 157 = .ok (.getfield 77, 3) := by decide +kernel
theorem dX11_test_160 : decode cX11_test 160 = .ok (.iload_n 2, 1) := by decide +kernel
theorem dX11_test_161 : decode cX11_test 161 = .ok (.baload, 1) := by decide +kernel
theorem dX11_test_162 : decode cX11_test 162 = .ok (.ifCond .ne 12, 3) := by decide +kernel
theorem dX11_test_165 : decode cX11_test 165 = .ok (.aload_n 0, 1) := by decide +kernel
theorem dX11_test_166 : decode cX11_test 166 = .ok (.getfield 80, 3) := by decide +kernel
theorem dX11_test_169 : decode cX11_test 169 = .ok (.iload_n 2, 1) := by decide +kernel
theorem dX11_test_170 : decode cX11_test 170 = .ok (.baload, 1) := by decide +kernel
theorem dX11_test_171 : decode cX11_test 171 = .ok (.ifCond .eq 7, 3) := by decide +kernel
theorem dX11_test_174 : decode cX11_test 174 = .ok (.iconst 1, 1) := by decide +kernel
theorem dX11_test_175 : decode cX11_test 175 = .ok (.goto 4, 3) := by decide +kernel
theorem dX11_test_178 : decode cX11_test 178 = .ok (.iconst 0, 1) := by decide +kernel
theorem dX11_test_179 : decode cX11_test 179 = .ok (.bastore, 1) := by decide +kernel
theorem dX11_test_180 : decode cX11_test 180 = .ok (.aload_n 0, 1) := by decide +kernel
theorem dX11_test_181 : decode cX11_test 181 = .ok (.getfield 80, 3) := by decide +kernel
theorem dX11_test_184 : decode cX11_test 184 = .ok (.iload_n 2, 1) := by decide +kernel
theorem dX11_test_185 : decode cX11_test 185 = .ok (.iconst 1, 1) := by decide +kernel
theorem dX11_test_186 : decode cX11_test 186 = .ok (.bastore, 1) := by decide +kernel
theorem dX11_test_187 : decode cX11_test 187 = .ok (.iconst 1, 1) := by decide +kernel
theorem dX11_test_188 : decode cX11_test 188 = .ok (.istore_n 3, 1) := by decide +kernel
theorem dX11_test_189 : decode cX11_test 189 = .ok (.goto (-171), 3) := by decide +kernel
theorem dX11_test_192 : decode cX11_test 192 = .ok (.iload_n 2, 1) := by decide +kernel
theorem dX11_test_193 : decode cX11_test 193 = .ok (.ifCond .ne 27, 3) := by decide +kernel
theorem dX11_test_196 : decode cX11_test 196 = .ok (.aload_n 0, 1) := by decide +kernel
theorem dX11_test_197 : decode cX11_test 197 = .ok (.getfield 77, 3) := by decide +kernel
theorem dX11_test_200 : decode cX11_test 200 = .ok (.iconst 0, 1) := by decide +kernel
theorem dX11_test_201 : decode cX11_test 201 = .ok (.baload, 1) := by decide +kernel
theorem dX11_test_202 : decode cX11_test 202 = .ok (.ifCond .ne 12, 3) := by decide +kernel
theorem dX11_test_205 : decode cX11_test 205 = .ok (.aload_n 0, 1) := by decide +kernel
theorem dX11_test_206 : decode cX11_test 206 = .ok (.getfield 80, 3) := by decide +kernel
theorem dX11_test_209 : decode cX11_test 209 = .ok (.iconst 0, 1) := by decide +kernel
theorem dX11_test_210 : decode cX11_test 210 = .ok (.baload, 1) := by decide +kernel
theorem dX11_test_211 : decode cX11_test 211 = .ok (.ifCond .eq 7, 3) := by decide +kernel
theorem dX11_test_214 : decode cX11_test 214 = .ok (.iconst 1, 1) := by decide +kernel
theorem dX11_test_215 : decode cX11_test 215 = .ok (.goto 4, 3) := by decide +kernel
theorem dX11_test_218 : decode cX11_test 218 = .ok (.iconst 0, 1) := by decide +kernel
theorem dX11_test_219 : decode cX11_test 219 = .ok (.ireturn, 1) := by decide +kernel
theorem dX11_test_220 : decode cX11_test 220 = .ok (.aload_n 0, 1) := by decide +kernel
theorem dX11_test_221 : decode cX11_test 221 = .ok (.aload_n 0, 1) := by decide +kernel
theorem dX11_test_222 : decode cX11_test 222 = .ok (.bipush 41, 2) := by decide +kernel
theorem dX11_test_224 : decode cX11_test 224 = .ok (.invokevirtual 283, 3) := by decide +kernel
theorem dX11_test_227 : decode cX11_test 227 = .ok (.ifCond .ne 7, 3) := by decide +kernel
theorem dX11_test_230 : decode cX11_test 230 = .ok (.iconst 1, 1) := by decide +kernel
theorem dX11_test_231 : decode cX11_test 231 = .ok (.goto 4, 3) := by decide +kernel
theorem dX11_test_234 : decode cX11_test 234 = .ok (.iconst 0, 1) := by decide +kernel
theorem dX11_test_235 : decode cX11_test 235 = .ok (.putfield 271, 3) := by decide +kernel
theorem dX11_test_238 : decode cX11_test 238 = .ok (.aload_n 0, 1) := by decide +kernel
theorem dX11_test_239 : decode cX11_test 239 = .ok (.getfield 77, 3) := by decide +kernel
theorem dX11_test_242 : decode cX11_test 242 = .ok (.iload_n 2, 1) := by decide +kernel
theorem dX11_test_243 : decode cX11_test 243 = .ok (.baload, 1) := by decide +kernel
theorem dX11_test_244 : decode cX11_test 244 = .ok (.ifCond .ne 12, 3) := by decide +kernel
theorem dX11_test_247 : decode cX11_test 247 = .ok (.aload_n 0, 1) := by decide +kernel
theorem dX11_test_248 : decode cX11_test 248 = .ok (.getfield 80, 3) := by decide +kernel
theorem dX11_test_251 : decode cX11_test 251 = .ok (.iload_n 2, 1) := by decide +kernel
theorem dX11_test_252 : decode cX11_test 252 = .ok (.baload, 1) := by decide +kernel
theorem dX11_test_253 : decode cX11_test 253 = .ok (.ifCond .eq 7, 3) := by decide +kernel
theorem dX11_test_256 : decode cX11_test 256 = .ok (.iconst 1, 1) := by decide +kernel
theorem dX11_test_257 : decode cX11_test 257 = .ok (.goto 4, 3) := by decide +kernel
theorem dX11_test_260 : decode cX11_test 260 = .ok (.iconst 0, 1) := by decide +kernel
theorem dX11_test_261 : decode cX11_test 261 = .ok (.istore 4, 2) := by decide +kernel
theorem dX11_test_263 : decode cX11_test 263 = .ok (.iinc 2 (-1), 3) := by decide +kernel
theorem dX11_test_266 : decode cX11_test 266 = .ok (.aload_n 0, 1) := by decide +kernel
theorem dX11_test_267 : decode cX11_test 267 = .ok (.getfield 80, 3) := by decide +kernel
theorem dX11_test_270 : decode cX11_test 270 = .ok (.iload_n 2, 1) := by decide +kernel
theorem dX11_test_271 : decode cX11_test 271 = .ok (.aload_n 0, 1) := by decide +kernel
theorem dX11_test_272 : decode cX11_test 272 = .ok (.getfield 80, 3) := by decide +kernel
theorem dX11_test_275 : decode cX11_test 275 = .ok (.iload_n 2, 1) := by decide +kernel
theorem dX11_test_276 : decode cX11_test 276 = .ok (.baload, 1) := by decide +kernel
theorem dX11_test_277 : decode cX11_test 277 = .ok (.ifCond .eq 18, 3) := by decide +kernel
theorem dX11_test_280 : decode cX11_test 280 = .ok (.iload 4, 2) := by decide +kernel
theorem dX11_test_282 : decode cX11_test 282 = .ok (.aload_n 0, 1) := by decide +kernel
theorem dX11_test_283 : decode cX11_test 283 = .ok (.getfield 83, 3) := by decide +kernel
theorem dX11_test_286 : decode cX11_test 286 = .ok (.iload_n 2, 1) := by decide +kernel
theorem dX11_test_287 : decode cX11_test 287 = .ok (.baload, 1) := by decide +kernel
theorem dX11_test_288 : decode cX11_test 288 = .ok (.if_icmp .eq 7, 3) := by decide +kernel
end
section
theorem dX11_test_291 : decode cX11_test 291 = .ok (.iconst 1, 1) := by decide +kernel
theorem dX11_test_292 : decode cX11_test 292 = .ok (.goto 4, 3) := by decide +kernel
theorem dX11_test_295 : decode cX11_test 295 = .ok (.iconst 0, 1) := by decide +kernel
theorem dX11_test_296 : decode cX11_test 296 = .ok (.bastore, 1) := by decide +kernel
theorem dX11_test_297 : decode cX11_test 297 = .ok (.goto (-279), 3) := by decide +kernel
theorem dX11_test_300 : decode cX11_test 300 = .ok (.iconst 0, 1) := by decide +kernel
theorem dX11_test_301 : decode cX11_test 301 = .ok (.ireturn, 1) := by decide +kernel
theorem dX11_number_0 : decode cX11_number 0 = .ok (.aload_n 0, 1) := by decide +kernel
theorem dX11_number_1 : decode cX11_number 1 = .ok (.getfield 271, 3) := by decide +kernel
theorem dX11_number_4 : decode cX11_number 4 = .ok (.ifCond .ne 20, 3) := by decide +kernel
theorem dX11_number_7 : decode cX11_number 7 = .ok (.aload_n 0, 1) := by decide +kernel
theorem dX11_number_8 : decode cX11_number 8 = .ok (.invokevirtual 275, 3) := by decide +kernel
theorem dX11_number_11 : decode cX11_number 11 = .ok (.i2l, 1) := by decide +kernel
theorem dX11_number_12 : decode cX11_number 12 = .ok (.ldc2_w 254, 3) := by decide +kernel
theorem dX11_number_15 : decode cX11_number 15 = .ok (.ldc2_w 289, 3) := by decide +kernel
theorem dX11_number_18 : decode cX11_number 18 = .ok (.invokestatic 120, 3) := by decide +kernel
theorem dX11_number_21 : decode cX11_number 21 = .ok (.ifCond .ne 10, 3) := by decide +kernel
theorem dX11_number_24 : decode cX11_number 24 = .ok (.aload_n 0, 1) := by decide +kernel
theorem dX11_number_25 : decode cX11_number 25 = .ok (.iconst 1, 1) := by decide +kernel
theorem dX11_number_26 : decode cX11_number 26 = .ok (.putfield 271, 3) := by decide +kernel
theorem dX11_number_29 : decode cX11_number 29 = .ok (.iconst 0, 1) := by decide +kernel
theorem dX11_number_30 : decode cX11_number 30 = .ok (.ireturn, 1) := by decide +kernel
theorem dX11_number_31 : decode cX11_number 31 = .ok (.aload_n 0, 1) := by decide +kernel
theorem dX11_number_32 : decode cX11_number 32 = .ok (.getfield 265, 3) := by decide +kernel
theorem dX11_number_35 : decode cX11_number 35 = .ok (.istore_n 2, 1) := by decide +kernel
theorem dX11_number_36 : decode cX11_number 36 = .ok (.iconst 0, 1) := by decide +kernel
theorem dX11_number_37 : decode cX11_number 37 = .ok (.istore_n 3, 1) := by decide +kernel
theorem dX11_number_38 : decode cX11_number 38 = .ok (.aload_n 0, 1) := by decide +kernel
theorem dX11_number_39 : decode cX11_number 39 = .ok (.getfield 265, 3) := by decide +kernel
theorem dX11_number_42 : decode cX11_number 42 = .ok (.aload_n 0, 1) := by decide +kernel
theorem dX11_number_43 : decode cX11_number 43 = .ok (.getfield 268, 3) := by decide +kernel
theorem dX11_number_46 : decode cX11_number 46 = .ok (.if_icmp .ge 67, 3) := by decide +kernel
theorem dX11_number_49 : decode cX11_number 49 = .ok (.aload_n 0, 1) := by decide +kernel
theorem dX11_number_50 : decode cX11_number 50 = .ok (.getfield 71, 3) := by decide +kernel
theorem dX11_number_53 : decode cX11_number 53 = .ok (.aload_n 0, 1) := by decide +kernel
theorem dX11_number_54 : decode cX11_number 54 = .ok (.getfield 265, 3) := by decide +kernel
theorem dX11_number_57 : decode cX11_number 57 = .ok (.iaload, 1) := by decide +kernel
theorem dX11_number_58 : decode cX11_number 58 = .ok (.i2l, 1) := by decide +kernel
theorem dX11_number_59 : decode cX11_number 59 = .ok (.ldc2_w 254, 3) := by decide +kernel
theorem dX11_number_62 : decode cX11_number 62 = .ok (.ldc2_w 289, 3) := by decide +kernel
theorem dX11_number_65 : decode cX11_number 65 = .ok (.invokestatic 120, 3) := by decide +kernel
theorem dX11_number_68 : decode cX11_number 68 = .ok (.ifCond .eq 45, 3) := by decide +kernel
theorem dX11_number_71 : decode cX11_number 71 = .ok (.iload_n 3, 1) := by decide +kernel
theorem dX11_number_72 : decode cX11_number 72 = .ok (.sipush 9999, 3) := by decide +kernel
theorem dX11_number_75 : decode cX11_number 75 = .ok (.if_icmp .le 7, 3) := by decide +kernel
theorem dX11_number_78 : decode cX11_number 78 = .ok (.iload_n 3, 1) := by decide +kernel
theorem dX11_number_79 : decode cX11_number 79 = .ok (.goto 20, 3) := by decide +kernel
theorem dX11_number_82 : decode cX11_number 82 = .ok (.bipush 10, 2) := by decide +kernel
theorem dX11_number_84 : decode cX11_number 84 = .ok (.iload_n 3, 1) := by decide +kernel
theorem dX11_number_85 : decode cX11_number 85 = .ok (.imul, 1) := by decide +kernel
theorem dX11_number_86 : decode cX11_number 86 = .ok (.aload_n 0, 1) := by decide +kernel
theorem dX11_number_87 : decode cX11_number 87 = .ok (.getfield 71, 3) := by decide +kernel
theorem dX11_number_90 : decode cX11_number 90 = .ok (.aload_n 0, 1) := by decide +kernel
theorem dX11_number_91 : decode cX11_number 91 = .ok (.getfield 265, 3) := by decide +kernel
theorem dX11_number_94 : decode cX11_number 94 = .ok (.iaload, 1) := by decide +kernel
theorem dX11_number_95 : decode cX11_number 95 = .ok (.iadd, 1) := by decide +kernel
theorem dX11_number_96 : decode cX11_number 96 = .ok (.bipush 48, 2) := by decide +kernel
theorem dX11_number_98 : decode cX11_number 98 = .ok (.isub, 1) := by decide +kernel
theorem dX11_number_99 : decode cX11_number 99 = .ok (.istore_n 3, 1) := by decide +kernel
theorem dX11_number_100 : decode cX11_number 100 = .ok (.aload_n 0, 1) := by decide +kernel
theorem dX11_number_101 : decode cX11_number 101 = .ok (.dup, 1) := by decide +kernel
theorem dX11_number_102 : decode cX11_number 102 = .ok (.getfield 265, 3) := by decide +kernel
theorem dX11_number_105 : decode cX11_number 105 = .ok (.iconst 1, 1) := by decide +kernel
theorem dX11_number_106 : decode cX11_number 106 = .ok (.iadd, 1) := by decide +kernel
theorem dX11_number_107 : decode cX11_number 107 = .ok (.putfield 265, 3) := by decide +kernel
theorem dX11_number_110 : decode cX11_number 110 = .ok (.goto (-72), 3) := by decide +kernel
theorem dX11_number_113 : decode cX11_number 113 = .ok (.aload_n 0, 1) := by decide +kernel
theorem dX11_number_114 : decode cX11_number 114 = .ok (.iload_n 3, 1) := by decide +kernel
theorem dX11_number_115 : decode cX11_number 115 = .ok (.iload_n 1, 1) := by decide +kernel
theorem dX11_number_116 : decode cX11_number 116 = .ok (.if_icmp .le 7, 3) := by decide +kernel
theorem dX11_number_119 : decode cX11_number 119 = .ok (.iconst 1, 1) := by decide +kernel
theorem dX11_number_120 : decode cX11_number 120 = .ok (.goto 4, 3) := by decide +kernel
theorem dX11_number_123 : decode cX11_number 123 = .ok (.iconst 0, 1) := by decide +kernel
theorem dX11_number_124 : decode cX11_number 124 = .ok (.putfield 271, 3) := by decide +kernel
theorem dX11_number_127 : decode cX11_number 127 = .ok (.aload_n 0, 1) := by decide +kernel
theorem dX11_number_128 : decode cX11_number 128 = .ok (.aload_n 0, 1) := by decide +kernel
theorem dX11_number_129 : decode cX11_number 129 = .ok (.getfield 271, 3) := by decide +kernel
theorem dX11_number_132 : decode cX11_number 132 = .ok (.ifCond .eq 7, 3) := by decide +kernel
theorem dX11_number_135 : decode cX11_number 135 = .ok (.iload_n 2, 1) := by decide +kernel
theorem dX11_number_136 : decode cX11_number 136 = .ok (.goto 7, 3) := by decide +kernel
theorem dX11_number_139 : decode cX11_number 139 = .ok (.aload_n 0, 1) := by decide +kernel
theorem dX11_number_140 : decode cX11_number 140 = .ok (.getfield 265, 3) := by decide +kernel
theorem dX11_number_143 : decode cX11_number 143 = .ok (.putfield 265, 3) := by decide +kernel
theorem dX11_number_146 : decode cX11_number 146 = .ok (.iload_n 3, 1) := by decide +kernel
theorem dX11_number_147 : decode cX11_number 147 = .ok (.ireturn, 1) := by decide +kernel
theorem dX11_clause_0 : decode cX11_clause 0 = .ok (.aload_n 0, 1) := by decide +kernel
theorem dX11_clause_1 : decode cX11_clause 1 = .ok (.iload_n 1, 1) := by decide +kernel
theorem dX11_clause_2 : decode cX11_clause 2 = .ok (.invokevirtual 291, 3) := by decide +kernel
theorem dX11_clause_5 : decode cX11_clause 5 = .ok (.istore_n 2, 1) := by decide +kernel
theorem dX11_clause_6 : decode cX11_clause 6 = .ok (.aload_n 0, 1) := by decide +kernel
theorem dX11_clause_7 : decode cX11_clause 7 = .ok (.aload_n 0, 1) := by decide +kernel
theorem dX11_clause_8 : decode cX11_clause 8 = .ok (.getfield 271, 3) := by decide +kernel
theorem dX11_clause_11 : decode cX11_clause 11 = .ok (.ifCond .ne 12, 3) := by decide +kernel
theorem dX11_clause_14 : decode cX11_clause 14 = .ok (.aload_n 0, 1) := by decide +kernel
theorem dX11_clause_15 : decode cX11_clause 15 = .ok (.bipush 58, 2) := by decide +kernel
theorem dX11_clause_17 : decode cX11_clause 17 = .ok (.invokevirtual 283, 3) := by decide +kernel
theorem dX11_clause_20 : decode cX11_clause 20 = .ok (.ifCond .ne 7, 3) := by decide +kernel
theorem dX11_clause_23 : decode cX11_clause 23 = .ok (.iconst 1, 1) := by decide +kernel
theorem dX11_clause_24 : decode cX11_clause 24 = .ok (.goto 4, 3) := by decide +kernel
theorem dX11_clause_27 : decode cX11_clause 27 = .ok (.iconst 0, 1) := by decide +kernel
theorem dX11_clause_28 : decode cX11_clause 28 = .ok (.putfield 271, 3) := by decide +kernel
theorem dX11_clause_31 : decode cX11_clause 31 = .ok (.aload_n 0, 1) := by decide +kernel
theorem dX11_clause_32 : decode cX11_clause 32 = .ok (.getfield 271, 3) := by decide +kernel
theorem dX11_clause_35 : decode cX11_clause 35 = .ok (.ifCond .eq 7, 3) := by decide +kernel
theorem dX11_clause_38 : decode cX11_clause 38 = .ok (.iconst 0, 1) := by decide +kernel
theorem dX11_clause_39 : decode cX11_clause 39 = .ok (.goto 7, 3) := by decide +kernel
theorem dX11_clause_42 : decode cX11_clause 42 = .ok (.aload_n 0, 1) := by decide +kernel
theorem dX11_clause_43 : decode cX11_clause 43 = .ok (.invokevirtual 275, 3) := by decide +kernel
theorem dX11_clause_46 : decode cX11_clause 46 = .ok (.istore_n 3, 1) := by decide +kernel
theorem dX11_clause_47 : decode cX11_clause 47 = .ok (.aload_n 0, 1) := by decide +kernel
theorem dX11_clause_48 : decode cX11_clause 48 = .ok (.iload_n 3, 1) := by decide +kernel
theorem dX11_clause_49 : decode cX11_clause 49 = .ok (.bipush 100, 2) := by decide +kernel
theorem dX11_clause_51 : decode cX11_clause 51 = .ok (.if_icmp .ne 7, 3) := by decide +kernel
theorem dX11_clause_54 : decode cX11_clause 54 = .ok (.iconst 0, 1) := by decide +kernel
theorem dX11_clause_55 : decode cX11_clause 55 = .ok (.goto 14, 3) := by decide +kernel
theorem dX11_clause_58 : decode cX11_clause 58 = .ok (.iload_n 3, 1) := by decide +kernel
theorem dX11_clause_59 : decode cX11_clause 59 = .ok (.bipush 104, 2) := by decide +kernel
theorem dX11_clause_61 : decode cX11_clause 61 = .ok (.if_icmp .ne 7, 3) := by decide +kernel
theorem dX11_clause_64 : decode cX11_clause 64 = .ok (.iconst 1, 1) := by decide +kernel
theorem dX11_clause_65 : decode cX11_clause 65 = .ok (.goto 4, 3) := by decide +kernel
theorem dX11_clause_68 : decode cX11_clause 68 = .ok (.iconst 2, 1) := by decide +kernel
theorem dX11_clause_69 : decode cX11_clause 69 = .ok (.putfield 294, 3) := by decide +kernel
theorem dX11_clause_72 : decode cX11_clause 72 = .ok (.aload_n 0, 1) := by decide +kernel
theorem dX11_clause_73 : decode cX11_clause 73 = .ok (.aload_n 0, 1) := by decide +kernel
theorem dX11_clause_74 : decode cX11_clause 74 = .ok (.getfield 271, 3) := by decide +kernel
theorem dX11_clause_77 : decode cX11_clause 77 = .ok (.ifCond .ne 21, 3) := by decide +kernel
theorem dX11_clause_80 : decode cX11_clause 80 = .ok (.iload_n 3, 1) := by decide +kernel
theorem dX11_clause_81 : decode cX11_clause 81 = .ok (.bipush 100, 2) := by decide +kernel
theorem dX11_clause_83 : decode cX11_clause 83 = .ok (.if_icmp .eq 19, 3) := by decide +kernel
theorem dX11_clause_86 : decode cX11_clause 86 = .ok (.iload_n 3, 1) := by decide +kernel
theorem dX11_clause_87 : decode cX11_clause 87 = .ok (.bipush 104, 2) := by decide +kernel
theorem dX11_clause_89 : decode cX11_clause 89 = .ok (.if_icmp .eq 13, 3) := by decide +kernel
theorem dX11_clause_92 : decode cX11_clause 92 = .ok (.iload_n 3, 1) := by decide +kernel
theorem dX11_clause_93 : decode cX11_clause 93 = .ok (.bipush 115, 2) := by decide +kernel
theorem dX11_clause_95 : decode cX11_clause 95 = .ok (.if_icmp .eq 7, 3) := by decide +kernel
theorem dX11_clause_98 : decode cX11_clause 98 = .ok (.iconst 1, 1) := by decide +kernel
theorem dX11_clause_99 : decode cX11_clause 99 = .ok (.goto 4, 3) := by decide +kernel
theorem dX11_clause_102 : decode cX11_clause 102 = .ok (.iconst 0, 1) := by decide +kernel
theorem dX11_clause_103 : decode cX11_clause 103 = .ok (.putfield 271, 3) := by decide +kernel
theorem dX11_clause_106 : decode cX11_clause 106 = .ok (.aload_n 0, 1) := by decide +kernel
theorem dX11_clause_107 : decode cX11_clause 107 = .ok (.dup, 1) := by decide +kernel
theorem dX11_clause_108 : decode cX11_clause 108 = .ok (.getfield 265, 3) := by decide +kernel
theorem dX11_clause_111 : decode cX11_clause 111 = .ok (.aload_n 0, 1) := by decide +kernel
theorem dX11_clause_112 : decode cX11_clause 112 = .ok (.getfield 271, 3) := by decide +kernel
theorem dX11_clause_115 : decode cX11_clause 115 = .ok (.ifCond .eq 7, 3) := by decide +kernel
theorem dX11_clause_118 : decode cX11_clause 118 = .ok (.iconst 0, 1) := by decide +kernel
theorem dX11_clause_119 : decode cX11_clause 119 = .ok (.goto 4, 3) := by decide +kernel
theorem dX11_clause_122 : decode cX11_clause 122 = .ok (.iconst 1, 1) := by decide +kernel
theorem dX11_clause_123 : decode cX11_clause 123 = .ok (.iadd, 1) := by decide +kernel
theorem dX11_clause_124 : decode cX11_clause 124 = .ok (.putfield 265, 3) := by decide +kernel
theorem dX11_clause_127 : decode cX11_clause 127 = .ok (.aload_n 0, 1) := by decide +kernel
theorem dX11_clause_128 : decode cX11_clause 128 = .ok (.aload_n 0, 1) := by decide +kernel
theorem dX11_clause_129 : decode cX11_clause 129 = .ok (.bipush 64, 2) := by decide +kernel
theorem dX11_clause_131 : decode cX11_clause 131 = .ok (.invokevirtual 283, 3) := by decide +kernel
theorem dX11_clause_134 : decode cX11_clause 134 = .ok (.ifCond .eq 13, 3) := by decide +kernel
theorem dX11_clause_137 : decode cX11_clause 137 = .ok (.aload_n 0, 1) := by decide +kernel
theorem dX11_clause_138 : decode cX11_clause 138 = .ok (.sipush 416, 3) := by decide +kernel
theorem dX11_clause_141 : decode cX11_clause 141 = .ok (.invokevirtual 297, 3) := by decide +kernel
theorem dX11_clause_144 : decode cX11_clause 144 = .ok (.goto 4, 3) := by decide +kernel
theorem dX11_clause_147 : decode cX11_clause 147 = .ok (.iconst 0, 1) := by decide +kernel
theorem dX11_clause_148 : decode cX11_clause 148 = .ok (.putfield 300, 3) := by decide +kernel
theorem dX11_clause_151 : decode cX11_clause 151 = .ok (.iload_n 2, 1) := by decide +kernel
theorem dX11_clause_152 : decode cX11_clause 152 = .ok (.ireturn, 1) := by decide +kernel
theorem dX11_guide_0 : decode cX11_guide 0 = .ok (.iconst 0, 1) := by decide +kernel
theorem dX11_guide_1 : decode cX11_guide 1 = .ok (.istore_n 1, 1) := by decide +kernel
theorem dX11_guide_2 : decode cX11_guide 2 = .ok (.iload_n 1, 1) := by decide +kernel
theorem dX11_guide_3 : decode cX11_guide 3 = .ok (.aload_n 0, 1) := by decide +kernel
theorem dX11_guide_4 : decode cX11_guide 4 = .ok (.getfield 262, 3) := by decide +kernel
theorem dX11_guide_7 : decode cX11_guide 7 = .ok (.if_icmp .ge 21, 3) := by decide +kernel
theorem dX11_guide_10 : decode cX11_guide 10 = .ok (.aload_n 0, 1) := by decide +kernel
theorem dX11_guide_11 : decode cX11_guide 11 = .ok (.getfield 71, 3) := by decide +kernel
theorem dX11_guide_14 : decode cX11_guide 14 = .ok (.iload_n 1, 1) := by decide +kernel
theorem dX11_guide_15 : decode cX11_guide 15 = .ok (.aload_n 0, 1) := by decide +kernel
theorem dX11_guide_16 : decode cX11_guide 16 = .ok (.getfield 68, 3) := by decide +kernel
theorem dX11_guide_19 : decode cX11_guide 19 = .ok (.iload_n 1, 1) := by decide +kernel
theorem dX11_guide_20 : decode cX11_guide 20 = .ok (.iaload, 1) := by decide +kernel
theorem dX11_guide_21 : decode cX11_guide 21 = .ok (.iastore, 1) := by decide +kernel
theorem dX11_guide_22 : decode cX11_guide 22 = .ok (.iinc 1 1, 3) := by decide +kernel
theorem dX11_guide_25 : decode cX11_guide 25 = .ok (.goto (-23), 3) := by decide +kernel
theorem dX11_guide_28 : decode cX11_guide 28 = .ok (.aload_n 0, 1) := by decide +kernel
theorem dX11_guide_29 : decode cX11_guide 29 = .ok (.aload_n 0, 1) := by decide +kernel
theorem dX11_guide_30 : decode cX11_guide 30 = .ok (.getfield 262, 3) := by decide +kernel
theorem dX11_guide_33 : decode cX11_guide 33 = .ok (.putfield 268, 3) := by decide +kernel
theorem dX11_guide_36 : decode cX11_guide 36 = .ok (.aload_n 0, 1) := by decide +kernel
theorem dX11_guide_37 : decode cX11_guide 37 = .ok (.iconst 0, 1) := by decide +kernel
theorem dX11_guide_38 : decode cX11_guide 38 = .ok (.putfield 262, 3) := by decide +kernel
theorem dX11_guide_41 : decode cX11_guide 41 = .ok (.aload_n 0, 1) := by decide +kernel
theorem dX11_guide_42 : decode cX11_guide 42 = .ok (.iconst 0, 1) := by decide +kernel
theorem dX11_guide_43 : decode cX11_guide 43 = .ok (.putfield 265, 3) := by decide +kernel
theorem dX11_guide_46 : decode cX11_guide 46 = .ok (.aload_n 0, 1) := by decide +kernel
theorem dX11_guide_47 : decode cX11_guide 47 = .ok (.iconst 0, 1) := by decide +kernel
theorem dX11_guide_48 : decode cX11_guide 48 = .ok (.putfield 271, 3) := by decide +kernel
theorem dX11_guide_51 : decode cX11_guide 51 = .ok (.iconst 0, 1) := by decide +kernel
theorem dX11_guide_52 : decode cX11_guide 52 = .ok (.istore_n 1, 1) := by decide +kernel
theorem dX11_guide_53 : decode cX11_guide 53 = .ok (.aload_n 0, 1) := by decide +kernel
theorem dX11_guide_54 : decode cX11_guide 54 = .ok (.invokevirtual 275, 3) := by decide +kernel
theorem dX11_guide_57 : decode cX11_guide 57 = .ok (.ifCond .eq 7, 3) := by decide +kernel
theorem dX11_guide_60 : decode cX11_guide 60 = .ok (.iconst 1, 1) := by decide +kernel
theorem dX11_guide_61 : decode cX11_guide 61 = .ok (.goto 4, 3) := by decide +kernel
theorem dX11_guide_64 : decode cX11_guide 64 = .ok (.iconst 0, 1) := by decide +kernel
theorem dX11_guide_65 : decode cX11_guide 65 = .ok (.istore_n 2, 1) := by decide +kernel
theorem dX11_guide_66 : decode cX11_guide 66 = .ok (.iload_n 2, 1) := by decide +kernel
theorem dX11_guide_67 : decode cX11_guide 67 = .ok (.ifCond .eq 45, 3) := by decide +kernel
theorem dX11_guide_70 : decode cX11_guide 70 = .ok (.aload_n 0, 1) := by decide +kernel
theorem dX11_guide_71 : decode cX11_guide 71 = .ok (.iconst 0, 1) := by decide +kernel
theorem dX11_guide_72 : decode cX11_guide 72 = .ok (.invokevirtual 303, 3) := by decide +kernel
theorem dX11_guide_75 : decode cX11_guide 75 = .ok (.istore_n 3, 1) := by decide +kernel
theorem dX11_guide_76 : decode cX11_guide 76 = .ok (.iload_n 1, 1) := by decide +kernel
theorem dX11_guide_77 : decode cX11_guide 77 = .ok (.iload_n 3, 1) := by decide +kernel
theorem dX11_guide_78 : decode cX11_guide 78 = .ok (.ifCond .eq 7, 3) := by decide +kernel
theorem dX11_guide_81 : decode cX11_guide 81 = .ok (.iconst 1, 1) := by decide +kernel
theorem dX11_guide_82 : decode cX11_guide 82 = .ok (.goto 4, 3) := by decide +kernel
theorem dX11_guide_85 : decode cX11_guide 85 = .ok (.iconst 1, 1) := by decide +kernel
theorem dX11_guide_86 : decode cX11_guide 86 = .ok (.iadd, 1) := by decide +kernel
theorem dX11_guide_87 : decode cX11_guide 87 = .ok (.istore_n 1, 1) := by decide +kernel
theorem dX11_guide_88 : decode cX11_guide 88 = .ok (.iload_n 1, 1) := by decide +kernel
theorem dX11_guide_89 : decode cX11_guide 89 = .ok (.bipush 6, 2) := by decide +kernel
theorem dX11_guide_91 : decode cX11_guide 91 = .ok (.if_icmp .ge 16, 3) := by decide +kernel
theorem dX11_guide_94 : decode cX11_guide 94 = .ok (.aload_n 0, 1) := by decide +kernel
theorem dX11_guide_95 : decode cX11_guide 95 = .ok (.bipush 59, 2) := by decide +kernel
theorem dX11_guide_97 : decode cX11_guide 97 = .ok (.invokevirtual 283, 3) := by decide +kernel
theorem dX11_guide_100 : decode cX11_guide 100 = .ok (.ifCond .eq 7, 3) := by decide +kernel
theorem dX11_guide_103 : decode cX11_guide 103 = .ok (.iconst 1, 1) := by decide +kernel
theorem dX11_guide_104 : decode cX11_guide 104 = .ok (.goto 4, 3) := by decide +kernel
theorem dX11_guide_107 : decode cX11_guide 107 = .ok (.iconst 0, 1) := by decide +kernel
theorem dX11_guide_108 : decode cX11_guide 108 = .ok (.istore_n 2, 1) := by decide +kernel
theorem dX11_guide_109 : decode cX11_guide 109 = .ok (.goto (-43), 3) := by decide +kernel
theorem dX11_guide_112 : decode cX11_guide 112 = .ok (.aload_n 0, 1) := by decide +kernel
theorem dX11_guide_113 : decode cX11_guide 113 = .ok (.aload_n 0, 1) := by decide +kernel
theorem dX11_guide_114 : decode cX11_guide 114 = .ok (.getfield 271, 3) := by decide +kernel
theorem dX11_guide_117 : decode cX11_guide 117 = .ok (.ifCond .ne 10, 3) := by decide +kernel
theorem dX11_guide_120 : decode cX11_guide 120 = .ok (.aload_n 0, 1) := by decide +kernel
theorem dX11_guide_121 : decode cX11_guide 121 = .ok (.invokevirtual 275, 3) := by decide +kernel
theorem dX11_guide_124 : decode cX11_guide 124 = .ok (.ifCond .eq 7, 3) := by decide +kernel
theorem dX11_guide_127 : decode cX11_guide 127 = .ok (.iconst 1, 1) := by decide +kernel
theorem dX11_guide_128 : decode cX11_guide 128 = .ok (.goto 4, 3) := by decide +kernel
theorem dX11_guide_131 : decode cX11_guide 131 = .ok (.iconst 0, 1) := by decide +kernel
theorem dX11_guide_132 : decode cX11_guide 132 = .ok (.putfield 271, 3) := by decide +kernel
theorem dX11_guide_135 : decode cX11_guide 135 = .ok (.aload_n 0, 1) := by decide +kernel
theorem dX11_guide_136 : decode cX11_guide 136 = .ok (.getfield 271, 3) := by decide +kernel
theorem dX11_guide_139 : decode cX11_guide 139 = .ok (.ifCond .eq 11, 3) := by decide +kernel
theorem dX11_guide_142 : decode cX11_guide 142 = .ok (.bipush (-20), 2) := by decide +kernel
theorem dX11_guide_144 : decode cX11_guide 144 = .ok (.aload_n 0, 1) := by decide +kernel
theorem dX11_guide_145 : decode cX11_guide 145 = .ok (.getfield 265, 3) := by decide +kernel
theorem dX11_guide_148 : decode cX11_guide 148 = .ok (.isub, 1) := by decide +kernel
theorem dX11_guide_149 : decode cX11_guide 149 = .ok (.ireturn, 1) := by decide +kernel
theorem dX11_guide_150 : decode cX11_guide 150 = .ok (.iconst 0, 1) := by decide +kernel
theorem dX11_guide_151 : decode cX11_guide 151 = .ok (.istore_n 3, 1) := by decide +kernel
theorem dX11_guide_152 : decode cX11_guide 152 = .ok (.iload_n 3, 1) := by decide +kernel
theorem dX11_guide_153 : decode cX11_guide 153 = .ok (.aload_n 0, 1) := by decide +kernel
theorem dX11_guide_154 : decode cX11_guide 154 = .ok (.getfield 268, 3) := by decide +kernel
theorem dX11_guide_157 : decode cX11_guide 157 = .ok (.if_icmp .ge 21, 3) := by decide +kernel
theorem dX11_guide_160 : decode cX11_guide 160 = .ok (.aload_n 0, 1) := by decide +kernel
theorem dX11_guide_161 : decode cX11_guide 161 = .ok (.getfield 74, 3) := by decide +kernel
theorem dX11_guide_164 : decode cX11_guide 164 = .ok (.iload_n 3, 1) := by decide +kernel
theorem dX11_guide_165 : decode cX11_guide 165 = .ok (.aload_n 0, 1) := by decide +kernel
theorem dX11_guide_166 : decode cX11_guide 166 = .ok (.getfield 71, 3) := by decide +kernel
theorem dX11_guide_169 : decode cX11_guide 169 = .ok (.iload_n 3, 1) := by decide +kernel
theorem dX11_guide_170 : decode cX11_guide 170 = .ok (.iaload, 1) := by decide +kernel
theorem dX11_guide_171 : decode cX11_guide 171 = .ok (.iastore, 1) := by decide +kernel
theorem dX11_guide_172 : decode cX11_guide 172 = .ok (.iinc 3 1, 3) := by decide +kernel
theorem dX11_guide_175 : decode cX11_guide 175 = .ok (.goto (-23), 3) := by decide +kernel
theorem dX11_guide_178 : decode cX11_guide 178 = .ok (.aload_n 0, 1) := by decide +kernel
theorem dX11_guide_179 : decode cX11_guide 179 = .ok (.aload_n 0, 1) := by decide +kernel
theorem dX11_guide_180 : decode cX11_guide 180 = .ok (.getfield 268, 3) := by decide +kernel
theorem dX11_guide_183 : decode cX11_guide 183 = .ok (.putfield 306, 3) := by decide +kernel
theorem dX11_guide_186 : decode cX11_guide 186 = .ok (.aload_n 0, 1) := by decide +kernel
theorem dX11_guide_187 : decode cX11_guide 187 = .ok (.iload_n 1, 1) := by decide +kernel
theorem dX11_guide_188 : decode cX11_guide 188 = .ok (.putfield 187, 3) := by decide +kernel
theorem dX11_guide_191 : decode cX11_guide 191 = .ok (.iload_n 1, 1) := by decide +kernel
theorem dX11_guide_192 : decode cX11_guide 192 = .ok (.ireturn, 1) := by decide +kernel
theorem dX11_why_0 : decode cX11_why 0 = .ok (.aload_n 0, 1) := by decide +kernel
theorem dX11_why_1 : decode cX11_why 1 = .ok (.iload_n 1, 1) := by decide +kernel
theorem dX11_why_2 : decode cX11_why 2 = .ok (.invokevirtual 174, 3) := by decide +kernel
theorem dX11_why_5 : decode cX11_why 5 = .ok (.ifCond .eq 13, 3) := by decide +kernel
theorem dX11_why_8 : decode cX11_why 8 = .ok (.iload_n 2, 1) := by decide +kernel
theorem dX11_why_9 : decode cX11_why 9 = .ok (.i2l, 1) := by decide +kernel
theorem dX11_why_10 : decode cX11_why 10 = .ok (.lconst 0, 1) := by decide +kernel
theorem dX11_why_11 : decode cX11_why 11 = .ok (.lconst 1, 1) := by decide +kernel
theorem dX11_why_12 : decode cX11_why 12 = .ok (.invokestatic 120, 3) := by decide +kernel
theorem dX11_why_15 : decode cX11_why 15 = .ok (.ifCond .ne 5, 3) := by decide +kernel
theorem dX11_why_18 : decode cX11_why 18 = .ok (.iconst (-1), 1) := by decide +kernel
theorem dX11_why_19 : decode cX11_why 19 = .ok (.ireturn, 1) := by decide +kernel
theorem dX11_why_20 : decode cX11_why 20 = .ok (.iconst 0, 1) := by decide +kernel
theorem dX11_why_21 : decode cX11_why 21 = .ok (.istore_n 3, 1) := by decide +kernel
theorem dX11_why_22 : decode cX11_why 22 = .ok (.iload_n 3, 1) := by decide +kernel
theorem dX11_why_23 : decode cX11_why 23 = .ok (.aload_n 0, 1) := by decide +kernel
theorem dX11_why_24 : decode cX11_why 24 = .ok (.getfield 306, 3) := by decide +kernel
theorem dX11_why_27 : decode cX11_why 27 = .ok (.if_icmp .ge 21, 3) := by decide +kernel
theorem dX11_why_30 : decode cX11_why 30 = .ok (.aload_n 0, 1) := by decide +kernel
theorem dX11_why_31 : decode cX11_why 31 = .ok (.getfield 71, 3) := by decide +kernel
theorem dX11_why_34 : decode cX11_why 34 = .ok (.iload_n 3, 1) := by decide +kernel
theorem dX11_why_35 : decode cX11_why 35 = .ok (.aload_n 0, 1) := by decide +kernel
theorem dX11_why_36 : decode cX11_why 36 = .ok (.getfield 74, 3) := by decide +kernel
theorem dX11_why_39 : decode cX11_why 39 = .ok (.iload_n 3, 1) := by decide +kernel
theorem dX11_why_40 : decode cX11_why 40 = .ok (.iaload, 1) := by decide +kernel
theorem dX11_why_41 : decode cX11_why 41 = .ok (.iastore, 1) := by decide +kernel
theorem dX11_why_42 : decode cX11_why 42 = .ok (.iinc 3 1, 3) := by decide +kernel
theorem dX11_why_45 : decode cX11_why 45 = .ok (.goto (-23), 3) := by decide +kernel
theorem dX11_why_48 : decode cX11_why 48 = .ok (.aload_n 0, 1) := by decide +kernel
theorem dX11_why_49 : decode cX11_why 49 = .ok (.aload_n 0, 1) := by decide +kernel
theorem dX11_why_50 : decode cX11_why 50 = .ok (.getfield 306, 3) := by decide +kernel
theorem dX11_why_53 : decode cX11_why 53 = .ok (.putfield 268, 3) := by decide +kernel
theorem dX11_why_56 : decode cX11_why 56 = .ok (.aload_n 0, 1) := by decide +kernel
theorem dX11_why_57 : decode cX11_why 57 = .ok (.iconst 0, 1) := by decide +kernel
theorem dX11_why_58 : decode cX11_why 58 = .ok (.putfield 265, 3) := by decide +kernel
theorem dX11_why_61 : decode cX11_why 61 = .ok (.aload_n 0, 1) := by decide +kernel
theorem dX11_why_62 : decode cX11_why 62 = .ok (.iconst 0, 1) := by decide +kernel
theorem dX11_why_63 : decode cX11_why 63 = .ok (.putfield 271, 3) := by decide +kernel
theorem dX11_why_66 : decode cX11_why 66 = .ok (.bipush (-4), 2) := by decide +kernel
theorem dX11_why_68 : decode cX11_why 68 = .ok (.istore_n 3, 1) := by decide +kernel
theorem dX11_why_69 : decode cX11_why 69 = .ok (.iconst 0, 1) := by decide +kernel
theorem dX11_why_70 : decode cX11_why 70 = .ok (.istore 4, 2) := by decide +kernel
theorem dX11_why_72 : decode cX11_why 72 = .ok (.iload 4, 2) := by decide +kernel
theorem dX11_why_74 : decode cX11_why 74 = .ok (.aload_n 0, 1) := by decide +kernel
theorem dX11_why_75 : decode cX11_why 75 = .ok (.getfield 187, 3) := by decide +kernel
theorem dX11_why_78 : decode cX11_why 78 = .ok (.if_icmp .ge 99, 3) := by decide +kernel
theorem dX11_why_81 : decode cX11_why 81 = .ok (.aload_n 0, 1) := by decide +kernel
theorem dX11_why_82 : decode cX11_why 82 = .ok (.aload_n 0, 1) := by decide +kernel
theorem dX11_why_83 : decode cX11_why 83 = .ok (.getfield 19, 3) := by decide +kernel
theorem dX11_why_86 : decode cX11_why 86 = .ok (.iload_n 1, 1) := by decide +kernel
theorem dX11_why_87 : decode cX11_why 87 = .ok (.iaload, 1) := by decide +kernel
theorem dX11_why_88 : decode cX11_why 88 = .ok (.invokevirtual 303, 3) := by decide +kernel
theorem dX11_why_91 : decode cX11_why 91 = .ok (.istore 5, 2) := by decide +kernel
theorem dX11_why_93 : decode cX11_why 93 = .ok (.iload 5, 2) := by decide +kernel
theorem dX11_why_95 : decode cX11_why 95 = .ok (.ifCond .eq 21, 3) := by decide +kernel
theorem dX11_why_98 : decode cX11_why 98 = .ok (.aload_n 0, 1) := by decide +kernel
theorem dX11_why_99 : decode cX11_why 99 = .ok (.getfield 300, 3) := by decide +kernel
theorem dX11_why_102 : decode cX11_why 102 = .ok (.aload_n 0, 1) := by decide +kernel
theorem dX11_why_103 : decode cX11_why 103 = .ok (.getfield 180, 3) := by decide +kernel
theorem dX11_why_106 : decode cX11_why 106 = .ok (.bipush 24, 2) := by decide +kernel
theorem dX11_why_108 : decode cX11_why 108 = .ok (.idiv, 1) := by decide +kernel
theorem dX11_why_109 : decode cX11_why 109 = .ok (.if_icmp .gt 7, 3) := by decide +kernel
theorem dX11_why_112 : decode cX11_why 112 = .ok (.iconst 1, 1) := by decide +kernel
theorem dX11_why_113 : decode cX11_why 113 = .ok (.goto 4, 3) := by decide +kernel
theorem dX11_why_116 : decode cX11_why 116 = .ok (.iconst 0, 1) := by decide +kernel
theorem dX11_why_117 : decode cX11_why 117 = .ok (.istore 6, 2) := by decide +kernel
theorem dX11_why_119 : decode cX11_why 119 = .ok (.iload 6, 2) := by decide +kernel
theorem dX11_why_121 : decode cX11_why 121 = .ok (.ifCond .eq 19, 3) := by decide +kernel
theorem dX11_why_124 : decode cX11_why 124 = .ok (.iload_n 2, 1) := by decide +kernel
theorem dX11_why_125 : decode cX11_why 125 = .ok (.ifCond .ne 8, 3) := by decide +kernel
theorem dX11_why_128 : decode cX11_why 128 = .ok (.iload 4, 2) := by decide +kernel
theorem dX11_why_130 : decode cX11_why 130 = .ok (.goto 11, 3) := by decide +kernel
theorem dX11_why_133 : decode cX11_why 133 = .ok (.aload_n 0, 1) := by decide +kernel
theorem dX11_why_134 : decode cX11_why 134 = .ok (.getfield 294, 3) := by decide +kernel
theorem dX11_why_137 : decode cX11_why 137 = .ok (.goto 4, 3) := by decide +kernel
theorem dX11_why_140 : decode cX11_why 140 = .ok (.iload_n 3, 1) := by decide +kernel
theorem dX11_why_141 : decode cX11_why 141 = .ok (.istore_n 3, 1) := by decide +kernel
theorem dX11_why_142 : decode cX11_why 142 = .ok (.aload_n 0, 1) := by decide +kernel
theorem dX11_why_143 : decode cX11_why 143 = .ok (.bipush 59, 2) := by decide +kernel
theorem dX11_why_145 : decode cX11_why 145 = .ok (.invokevirtual 283, 3) := by decide +kernel
theorem dX11_why_148 : decode cX11_why 148 = .ok (.istore 7, 2) := by decide +kernel
theorem dX11_why_150 : decode cX11_why 150 = .ok (.aload_n 0, 1) := by decide +kernel
theorem dX11_why_151 : decode cX11_why 151 = .ok (.aload_n 0, 1) := by decide +kernel
theorem dX11_why_152 : decode cX11_why 152 = .ok (.getfield 271, 3) := by decide +kernel
theorem dX11_why_155 : decode cX11_why 155 = .ok (.ifCond .eq 12, 3) := by decide +kernel
theorem dX11_why_158 : decode cX11_why 158 = .ok (.iload 7, 2) := by decide +kernel
theorem dX11_why_160 : decode cX11_why 160 = .ok (.ifCond .eq 7, 3) := by decide +kernel
theorem dX11_why_163 : decode cX11_why 163 = .ok (.iconst 1, 1) := by decide +kernel
theorem dX11_why_164 : decode cX11_why 164 = .ok (.goto 4, 3) := by decide +kernel
theorem dX11_why_167 : decode cX11_why 167 = .ok (.iconst 0, 1) := by decide +kernel
theorem dX11_why_168 : decode cX11_why 168 = .ok (.putfield 271, 3) := by decide +kernel
theorem dX11_why_171 : decode cX11_why 171 = .ok (.iinc 4 1, 3) := by decide +kernel
theorem dX11_why_174 : decode cX11_why 174 = .ok (.goto (-102), 3) := by decide +kernel
theorem dX11_why_177 : decode cX11_why 177 = .ok (.iload_n 3, 1) := by decide +kernel
theorem dX11_why_178 : decode cX11_why 178 = .ok (.ireturn, 1) := by decide +kernel
theorem dX11_looks_0 : decode cX11_looks 0 = .ok (.aload_n 0, 1) := by decide +kernel
theorem dX11_looks_1 : decode cX11_looks 1 = .ok (.iconst 0, 1) := by decide +kernel
theorem dX11_looks_2 : decode cX11_looks 2 = .ok (.putfield 309, 3) := by decide +kernel
theorem dX11_looks_5 : decode cX11_looks 5 = .ok (.iconst (-1), 1) := by decide +kernel
theorem dX11_looks_6 : decode cX11_looks 6 = .ok (.istore_n 2, 1) := by decide +kernel
theorem dX11_looks_7 : decode cX11_looks 7 = .ok (.iconst 1, 1) := by decide +kernel
theorem dX11_looks_8 : decode cX11_looks 8 = .ok (.istore_n 3, 1) := by decide +kernel
theorem dX11_looks_9 : decode cX11_looks 9 = .ok (.iload_n 3, 1) := by decide +kernel
theorem dX11_looks_10 : decode cX11_looks 10 = .ok (.ifCond .eq 136, 3) := by decide +kernel
theorem dX11_looks_13 : decode cX11_looks 13 = .ok (.aload_n 0, 1) := by decide +kernel
theorem dX11_looks_14 : decode cX11_looks 14 = .ok (.getfield 309, 3) := by decide +kernel
theorem dX11_looks_17 : decode cX11_looks 17 = .ok (.bipush 12, 2) := by decide +kernel
theorem dX11_looks_19 : decode cX11_looks 19 = .ok (.if_icmp .ge 127, 3) := by decide +kernel
theorem dX11_looks_22 : decode cX11_looks 22 = .ok (.sipush 10000, 3) := by decide +kernel
theorem dX11_looks_25 : decode cX11_looks 25 = .ok (.istore 4, 2) := by decide +kernel
theorem dX11_looks_27 : decode cX11_looks 27 = .ok (.iconst 0, 1) := by decide +kernel
theorem dX11_looks_28 : decode cX11_looks 28 = .ok (.istore 5, 2) := by decide +kernel
theorem dX11_looks_30 : decode cX11_looks 30 = .ok (.iload 5, 2) := by decide +kernel
theorem dX11_looks_32 : decode cX11_looks 32 = .ok (.aload_n 0, 1) := by decide +kernel
theorem dX11_looks_33 : decode cX11_looks 33 = .ok (.getfield 116, 3) := by decide +kernel
theorem dX11_looks_36 : decode cX11_looks 36 = .ok (.if_icmp .ge 65, 3) := by decide +kernel
theorem dX11_looks_39 : decode cX11_looks 39 = .ok (.bipush 8, 2) := by decide +kernel
theorem dX11_looks_41 : decode cX11_looks 41 = .ok (.iload 5, 2) := by decide +kernel
theorem dX11_looks_43 : decode cX11_looks 43 = .ok (.imul, 1) := by decide +kernel
theorem dX11_looks_44 : decode cX11_looks 44 = .ok (.iload_n 1, 1) := by decide +kernel
theorem dX11_looks_45 : decode cX11_looks 45 = .ok (.iadd, 1) := by decide +kernel
theorem dX11_looks_46 : decode cX11_looks 46 = .ok (.istore 6, 2) := by decide +kernel
theorem dX11_looks_48 : decode cX11_looks 48 = .ok (.aload_n 0, 1) := by decide +kernel
theorem dX11_looks_49 : decode cX11_looks 49 = .ok (.getfield 38, 3) := by decide +kernel
theorem dX11_looks_52 : decode cX11_looks 52 = .ok (.iload 6, 2) := by decide +kernel
theorem dX11_looks_54 : decode cX11_looks 54 = .ok (.iaload, 1) := by decide +kernel
theorem dX11_looks_55 : decode cX11_looks 55 = .ok (.ifCond .eq 36, 3) := by decide +kernel
theorem dX11_looks_58 : decode cX11_looks 58 = .ok (.aload_n 0, 1) := by decide +kernel
theorem dX11_looks_59 : decode cX11_looks 59 = .ok (.getfield 44, 3) := by decide +kernel
theorem dX11_looks_62 : decode cX11_looks 62 = .ok (.iload 6, 2) := by decide +kernel
theorem dX11_looks_64 : decode cX11_looks 64 = .ok (.iaload, 1) := by decide +kernel
theorem dX11_looks_65 : decode cX11_looks 65 = .ok (.iload_n 2, 1) := by decide +kernel
theorem dX11_looks_66 : decode cX11_looks 66 = .ok (.if_icmp .le 25, 3) := by decide +kernel
theorem dX11_looks_69 : decode cX11_looks 69 = .ok (.aload_n 0, 1) := by decide +kernel
theorem dX11_looks_70 : decode cX11_looks 70 = .ok (.getfield 44, 3) := by decide +kernel
theorem dX11_looks_73 : decode cX11_looks 73 = .ok (.iload 6, 2) := by decide +kernel
theorem dX11_looks_75 : decode cX11_looks 75 = .ok (.iaload, 1) := by decide +kernel
theorem dX11_looks_76 : decode cX11_looks 76 = .ok (.iload 4, 2) := by decide +kernel
theorem dX11_looks_78 : decode cX11_looks 78 = .ok (.if_icmp .ge 13, 3) := by decide +kernel
theorem dX11_looks_81 : decode cX11_looks 81 = .ok (.aload_n 0, 1) := by decide +kernel
theorem dX11_looks_82 : decode cX11_looks 82 = .ok (.getfield 44, 3) := by decide +kernel
theorem dX11_looks_85 : decode cX11_looks 85 = .ok (.iload 6, 2) := by decide +kernel
theorem dX11_looks_87 : decode cX11_looks 87 = .ok (.iaload, 1) := by decide +kernel
theorem dX11_looks_88 : decode cX11_looks 88 = .ok (.goto 5, 3) := by decide +kernel
theorem dX11_looks_91 : decode cX11_looks 91 = .ok (.iload 4, 2) := by decide +kernel
theorem dX11_looks_93 : decode cX11_looks 93 = .ok (.istore 4, 2) := by decide +kernel
theorem dX11_looks_95 : decode cX11_looks 95 = .ok (.iinc 5 1, 3) := by decide +kernel
theorem dX11_looks_98 : decode cX11_looks 98 = .ok (.goto (-68), 3) := by decide +kernel
theorem dX11_looks_101 : decode cX11_looks 101 = .ok (.iload 4, 2) := by decide +kernel
theorem dX11_looks_103 : decode cX11_looks 103 = .ok (.sipush 10000, 3) := by decide +kernel
theorem dX11_looks_106 : decode cX11_looks 106 = .ok (.if_icmp .ge 7, 3) := by decide +kernel
theorem dX11_looks_109 : decode cX11_looks 109 = .ok (.iconst 1, 1) := by decide +kernel
theorem dX11_looks_110 : decode cX11_looks 110 = .ok (.goto 4, 3) := by decide +kernel
theorem dX11_looks_113 : decode cX11_looks 113 = .ok (.iconst 0, 1) := by decide +kernel
theorem dX11_looks_114 : decode cX11_looks 114 = .ok (.istore_n 3, 1) := by decide +kernel
theorem dX11_looks_115 : decode cX11_looks 115 = .ok (.iload_n 3, 1) := by decide +kernel
theorem dX11_looks_116 : decode cX11_looks 116 = .ok (.ifCond .eq 27, 3) := by decide +kernel
theorem dX11_looks_119 : decode cX11_looks 119 = .ok (.aload_n 0, 1) := by decide +kernel
theorem dX11_looks_120 : decode cX11_looks 120 = .ok (.getfield 86, 3) := by decide +kernel
theorem dX11_looks_123 : decode cX11_looks 123 = .ok (.aload_n 0, 1) := by decide +kernel
theorem dX11_looks_124 : decode cX11_looks 124 = .ok (.getfield 309, 3) := by decide +kernel
theorem dX11_looks_127 : decode cX11_looks 127 = .ok (.iload 4, 2) := by decide +kernel
theorem dX11_looks_129 : decode cX11_looks 129 = .ok (.iastore, 1) := by decide +kernel
theorem dX11_looks_130 : decode cX11_looks 130 = .ok (.aload_n 0, 1) := by decide +kernel
theorem dX11_looks_131 : decode cX11_looks 131 = .ok (.dup, 1) := by decide +kernel
theorem dX11_looks_132 : decode cX11_looks 132 = .ok (.getfield 309, 3) := by decide +kernel
theorem dX11_looks_135 : decode cX11_looks 135 = .ok (.iconst 1, 1) := by decide +kernel
theorem dX11_looks_136 : decode cX11_looks 136 = .ok (.iadd, 1) := by decide +kernel
theorem dX11_looks_137 : decode cX11_looks 137 = .ok (.putfield 309, 3) := by decide +kernel
theorem dX11_looks_140 : decode cX11_looks 140 = .ok (.iload 4, 2) := by decide +kernel
theorem dX11_looks_142 : decode cX11_looks 142 = .ok (.istore_n 2, 1) := by decide +kernel
theorem dX11_looks_143 : decode cX11_looks 143 = .ok (.goto (-134), 3) := by decide +kernel
theorem dX11_looks_146 : decode cX11_looks 146 = .ok (.return_, 1) := by decide +kernel
theorem dX11_far_0 : decode cX11_far 0 = .ok (.iconst 0, 1) := by decide +kernel
theorem dX11_far_1 : decode cX11_far 1 = .ok (.istore_n 2, 1) := by decide +kernel
theorem dX11_far_2 : decode cX11_far 2 = .ok (.iconst 1, 1) := by decide +kernel
theorem dX11_far_3 : decode cX11_far 3 = .ok (.istore_n 3, 1) := by decide +kernel
theorem dX11_far_4 : decode cX11_far 4 = .ok (.iload_n 3, 1) := by decide +kernel
theorem dX11_far_5 : decode cX11_far 5 = .ok (.iconst 4, 1) := by decide +kernel
theorem dX11_far_6 : decode cX11_far 6 = .ok (.if_icmp .gt 30, 3) := by decide +kernel
theorem dX11_far_9 : decode cX11_far 9 = .ok (.iload_n 2, 1) := by decide +kernel
theorem dX11_far_10 : decode cX11_far 10 = .ok (.iload_n 0, 1) := by decide +kernel
theorem dX11_far_11 : decode cX11_far 11 = .ok (.iload_n 3, 1) := by decide +kernel
theorem dX11_far_12 : decode cX11_far 12 = .ok (.invokestatic 177, 3) := by decide +kernel
theorem dX11_far_15 : decode cX11_far 15 = .ok (.iload_n 1, 1) := by decide +kernel
theorem dX11_far_16 : decode cX11_far 16 = .ok (.iload_n 3, 1) := by decide +kernel
theorem dX11_far_17 : decode cX11_far 17 = .ok (.invokestatic 177, 3) := by decide +kernel
theorem dX11_far_20 : decode cX11_far 20 = .ok (.if_icmp .ne 7, 3) := by decide +kernel
theorem dX11_far_23 : decode cX11_far 23 = .ok (.iconst 0, 1) := by decide +kernel
theorem dX11_far_24 : decode cX11_far 24 = .ok (.goto 4, 3) := by decide +kernel
theorem dX11_far_27 : decode cX11_far 27 = .ok (.iconst 1, 1) := by decide +kernel
theorem dX11_far_28 : decode cX11_far 28 = .ok (.iadd, 1) := by decide +kernel
theorem dX11_far_29 : decode cX11_far 29 = .ok (.istore_n 2, 1) := by decide +kernel
theorem dX11_far_30 : decode cX11_far 30 = .ok (.iinc 3 1, 3) := by decide +kernel
theorem dX11_far_33 : decode cX11_far 33 = .ok (.goto (-29), 3) := by decide +kernel
theorem dX11_far_36 : decode cX11_far 36 = .ok (.iload_n 2, 1) := by decide +kernel
theorem dX11_far_37 : decode cX11_far 37 = .ok (.ireturn, 1) := by decide +kernel
theorem dX11_joins_0 : decode cX11_joins 0 = .ok (.aload_n 0, 1) := by decide +kernel
theorem dX11_joins_1 : decode cX11_joins 1 = .ok (.iload_n 1, 1) := by decide +kernel
theorem dX11_joins_2 : decode cX11_joins 2 = .ok (.invokevirtual 312, 3) := by decide +kernel
theorem dX11_joins_5 : decode cX11_joins 5 = .ok (.aload_n 0, 1) := by decide +kernel
theorem dX11_joins_6 : decode cX11_joins 6 = .ok (.iconst 0, 1) := by decide +kernel
theorem dX11_joins_7 : decode cX11_joins 7 = .ok (.putfield 315, 3) := by decide +kernel
theorem dX11_joins_10 : decode cX11_joins 10 = .ok (.iconst 1, 1) := by decide +kernel
theorem dX11_joins_11 : decode cX11_joins 11 = .ok (.istore_n 2, 1) := by decide +kernel
theorem dX11_joins_12 : decode cX11_joins 12 = .ok (.aload_n 0, 1) := by decide +kernel
theorem dX11_joins_13 : decode cX11_joins 13 = .ok (.getfield 89, 3) := by decide +kernel
theorem dX11_joins_16 : decode cX11_joins 16 = .ok (.iconst 0, 1) := by decide +kernel
theorem dX11_joins_17 : decode cX11_joins 17 = .ok (.bipush (-4), 2) := by decide +kernel
theorem dX11_joins_19 : decode cX11_joins 19 = .ok (.iastore, 1) := by decide +kernel
theorem dX11_joins_20 : decode cX11_joins 20 = .ok (.iconst 1, 1) := by decide +kernel
theorem dX11_joins_21 : decode cX11_joins 21 = .ok (.istore_n 3, 1) := by decide +kernel
theorem dX11_joins_22 : decode cX11_joins 22 = .ok (.iload_n 3, 1) := by decide +kernel
theorem dX11_joins_23 : decode cX11_joins 23 = .ok (.aload_n 0, 1) := by decide +kernel
theorem dX11_joins_24 : decode cX11_joins 24 = .ok (.getfield 309, 3) := by decide +kernel
theorem dX11_joins_27 : decode cX11_joins 27 = .ok (.if_icmp .ge 164, 3) := by decide +kernel
theorem dX11_joins_30 : decode cX11_joins 30 = .ok (.bipush (-4), 2) := by decide +kernel
theorem dX11_joins_32 : decode cX11_joins 32 = .ok (.istore 4, 2) := by decide +kernel
theorem dX11_joins_34 : decode cX11_joins 34 = .ok (.bipush (-4), 2) := by decide +kernel
theorem dX11_joins_36 : decode cX11_joins 36 = .ok (.istore 5, 2) := by decide +kernel
theorem dX11_joins_38 : decode cX11_joins 38 = .ok (.bipush 100, 2) := by decide +kernel
theorem dX11_joins_40 : decode cX11_joins 40 = .ok (.istore 6, 2) := by decide +kernel
theorem dX11_joins_42 : decode cX11_joins 42 = .ok (.iconst 0, 1) := by decide +kernel
theorem dX11_joins_43 : decode cX11_joins 43 = .ok (.istore 7, 2) := by decide +kernel
theorem dX11_joins_45 : decode cX11_joins 45 = .ok (.iload 7, 2) := by decide +kernel
theorem dX11_joins_47 : decode cX11_joins 47 = .ok (.aload_n 0, 1) := by decide +kernel
theorem dX11_joins_48 : decode cX11_joins 48 = .ok (.getfield 309, 3) := by decide +kernel
theorem dX11_joins_51 : decode cX11_joins 51 = .ok (.if_icmp .ge 107, 3) := by decide +kernel
theorem dX11_joins_54 : decode cX11_joins 54 = .ok (.iconst 0, 1) := by decide +kernel
theorem dX11_joins_55 : decode cX11_joins 55 = .ok (.istore 8, 2) := by decide +kernel
theorem dX11_joins_57 : decode cX11_joins 57 = .ok (.iload 8, 2) := by decide +kernel
theorem dX11_joins_59 : decode cX11_joins 59 = .ok (.aload_n 0, 1) := by decide +kernel
theorem dX11_joins_60 : decode cX11_joins 60 = .ok (.getfield 309, 3) := by decide +kernel
theorem dX11_joins_63 : decode cX11_joins 63 = .ok (.if_icmp .ge 89, 3) := by decide +kernel
theorem dX11_joins_66 : decode cX11_joins 66 = .ok (.iload_n 2, 1) := by decide +kernel
theorem dX11_joins_67 : decode cX11_joins 67 = .ok (.iload 7, 2) := by decide +kernel
theorem dX11_joins_69 : decode cX11_joins 69 = .ok (.ishr, 1) := by decide +kernel
theorem dX11_joins_70 : decode cX11_joins 70 = .ok (.iconst 1, 1) := by decide +kernel
theorem dX11_joins_71 : decode cX11_joins 71 = .ok (.iand, 1) := by decide +kernel
theorem dX11_joins_72 : decode cX11_joins 72 = .ok (.ifCond .ne 17, 3) := by decide +kernel
theorem dX11_joins_75 : decode cX11_joins 75 = .ok (.iload_n 2, 1) := by decide +kernel
theorem dX11_joins_76 : decode cX11_joins 76 = .ok (.iload 8, 2) := by decide +kernel
theorem dX11_joins_78 : decode cX11_joins 78 = .ok (.ishr, 1) := by decide +kernel
theorem dX11_joins_79 : decode cX11_joins 79 = .ok (.iconst 1, 1) := by decide +kernel
theorem dX11_joins_80 : decode cX11_joins 80 = .ok (.iand, 1) := by decide +kernel
theorem dX11_joins_81 : decode cX11_joins 81 = .ok (.iconst 1, 1) := by decide +kernel
theorem dX11_joins_82 : decode cX11_joins 82 = .ok (.if_icmp .ne 7, 3) := by decide +kernel
theorem dX11_joins_85 : decode cX11_joins 85 = .ok (.iconst 1, 1) := by decide +kernel
theorem dX11_joins_86 : decode cX11_joins 86 = .ok (.goto 4, 3) := by decide +kernel
theorem dX11_joins_89 : decode cX11_joins 89 = .ok (.iconst 0, 1) := by decide +kernel
theorem dX11_joins_90 : decode cX11_joins 90 = .ok (.istore 9, 2) := by decide +kernel
theorem dX11_joins_92 : decode cX11_joins 92 = .ok (.iload 9, 2) := by decide +kernel
theorem dX11_joins_94 : decode cX11_joins 94 = .ok (.ifCond .eq 52, 3) := by decide +kernel
theorem dX11_joins_97 : decode cX11_joins 97 = .ok (.aload_n 0, 1) := by decide +kernel
theorem dX11_joins_98 : decode cX11_joins 98 = .ok (.getfield 86, 3) := by decide +kernel
theorem dX11_joins_101 : decode cX11_joins 101 = .ok (.iload 7, 2) := by decide +kernel
theorem dX11_joins_103 : decode cX11_joins 103 = .ok (.iaload, 1) := by decide +kernel
theorem dX11_joins_104 : decode cX11_joins 104 = .ok (.aload_n 0, 1) := by decide +kernel
theorem dX11_joins_105 : decode cX11_joins 105 = .ok (.getfield 86, 3) := by decide +kernel
theorem dX11_joins_108 : decode cX11_joins 108 = .ok (.iload 8, 2) := by decide +kernel
theorem dX11_joins_110 : decode cX11_joins 110 = .ok (.iaload, 1) := by decide +kernel
theorem dX11_joins_111 : decode cX11_joins 111 = .ok (.invokestatic 318, 3) := by decide +kernel
theorem dX11_joins_114 : decode cX11_joins 114 = .ok (.iload 6, 2) := by decide +kernel
theorem dX11_joins_116 : decode cX11_joins 116 = .ok (.if_icmp .ge 30, 3) := by decide +kernel
theorem dX11_joins_119 : decode cX11_joins 119 = .ok (.aload_n 0, 1) := by decide +kernel
theorem dX11_joins_120 : decode cX11_joins 120 = .ok (.getfield 86, 3) := by decide +kernel
theorem dX11_joins_123 : decode cX11_joins 123 = .ok (.iload 7, 2) := by decide +kernel
theorem dX11_joins_125 : decode cX11_joins 125 = .ok (.iaload, 1) := by decide +kernel
theorem dX11_joins_126 : decode cX11_joins 126 = .ok (.aload_n 0, 1) := by decide +kernel
theorem dX11_joins_127 : decode cX11_joins 127 = .ok (.getfield 86, 3) := by decide +kernel
theorem dX11_joins_130 : decode cX11_joins 130 = .ok (.iload 8, 2) := by decide +kernel
theorem dX11_joins_132 : decode cX11_joins 132 = .ok (.iaload, 1) := by decide +kernel
theorem dX11_joins_133 : decode cX11_joins 133 = .ok (.invokestatic 318, 3) := by decide +kernel
theorem dX11_joins_136 : decode cX11_joins 136 = .ok (.istore 6, 2) := by decide +kernel
theorem dX11_joins_138 : decode cX11_joins 138 = .ok (.iload 7, 2) := by decide +kernel
theorem dX11_joins_140 : decode cX11_joins 140 = .ok (.istore 4, 2) := by decide +kernel
theorem dX11_joins_142 : decode cX11_joins 142 = .ok (.iload 8, 2) := by decide +kernel
theorem dX11_joins_144 : decode cX11_joins 144 = .ok (.istore 5, 2) := by decide +kernel
theorem dX11_joins_146 : decode cX11_joins 146 = .ok (.iinc 8 1, 3) := by decide +kernel
theorem dX11_joins_149 : decode cX11_joins 149 = .ok (.goto (-92), 3) := by decide +kernel
theorem dX11_joins_152 : decode cX11_joins 152 = .ok (.iinc 7 1, 3) := by decide +kernel
theorem dX11_joins_155 : decode cX11_joins 155 = .ok (.goto (-110), 3) := by decide +kernel
theorem dX11_joins_158 : decode cX11_joins 158 = .ok (.iload_n 2, 1) := by decide +kernel
theorem dX11_joins_159 : decode cX11_joins 159 = .ok (.iconst 1, 1) := by decide +kernel
theorem dX11_joins_160 : decode cX11_joins 160 = .ok (.iload 4, 2) := by decide +kernel
theorem dX11_joins_162 : decode cX11_joins 162 = .ok (.ishl, 1) := by decide +kernel
theorem dX11_joins_163 : decode cX11_joins 163 = .ok (.ior, 1) := by decide +kernel
theorem dX11_joins_164 : decode cX11_joins 164 = .ok (.istore_n 2, 1) := by decide +kernel
theorem dX11_joins_165 : decode cX11_joins 165 = .ok (.aload_n 0, 1) := by decide +kernel
theorem dX11_joins_166 : decode cX11_joins 166 = .ok (.getfield 89, 3) := by decide +kernel
theorem dX11_joins_169 : decode cX11_joins 169 = .ok (.iload 4, 2) := by decide +kernel
theorem dX11_joins_171 : decode cX11_joins 171 = .ok (.iload 5, 2) := by decide +kernel
theorem dX11_joins_173 : decode cX11_joins 173 = .ok (.iastore, 1) := by decide +kernel
theorem dX11_joins_174 : decode cX11_joins 174 = .ok (.aload_n 0, 1) := by decide +kernel
theorem dX11_joins_175 : decode cX11_joins 175 = .ok (.dup, 1) := by decide +kernel
theorem dX11_joins_176 : decode cX11_joins 176 = .ok (.getfield 315, 3) := by decide +kernel
theorem dX11_joins_179 : decode cX11_joins 179 = .ok (.iload 6, 2) := by decide +kernel
theorem dX11_joins_181 : decode cX11_joins 181 = .ok (.iadd, 1) := by decide +kernel
theorem dX11_joins_182 : decode cX11_joins 182 = .ok (.putfield 315, 3) := by decide +kernel
theorem dX11_joins_185 : decode cX11_joins 185 = .ok (.iinc 3 1, 3) := by decide +kernel
theorem dX11_joins_188 : decode cX11_joins 188 = .ok (.goto (-166), 3) := by decide +kernel
theorem dX11_joins_191 : decode cX11_joins 191 = .ok (.return_, 1) := by decide +kernel
theorem dX11_versions_0 : decode cX11_versions 0 = .ok (.aload_n 0, 1) := by decide +kernel
theorem dX11_versions_1 : decode cX11_versions 1 = .ok (.iload_n 1, 1) := by decide +kernel
theorem dX11_versions_2 : decode cX11_versions 2 = .ok (.invokevirtual 174, 3) := by decide +kernel
theorem dX11_versions_5 : decode cX11_versions 5 = .ok (.ifCond .ne 5, 3) := by decide +kernel
theorem dX11_versions_8 : decode cX11_versions 8 = .ok (.iconst (-1), 1) := by decide +kernel
theorem dX11_versions_9 : decode cX11_versions 9 = .ok (.ireturn, 1) := by decide +kernel
theorem dX11_versions_10 : decode cX11_versions 10 = .ok (.aload_n 0, 1) := by decide +kernel
theorem dX11_versions_11 : decode cX11_versions 11 = .ok (.iload_n 1, 1) := by decide +kernel
theorem dX11_versions_12 : decode cX11_versions 12 = .ok (.invokevirtual 312, 3) := by decide +kernel
theorem dX11_versions_15 : decode cX11_versions 15 = .ok (.aload_n 0, 1) := by decide +kernel
theorem dX11_versions_16 : decode cX11_versions 16 = .ok (.getfield 309, 3) := by decide +kernel
theorem dX11_versions_19 : decode cX11_versions 19 = .ok (.ireturn, 1) := by decide +kernel
theorem dX11_version_0 : decode cX11_version 0 = .ok (.aload_n 0, 1) := by decide +kernel
theorem dX11_version_1 : decode cX11_version 1 = .ok (.iload_n 1, 1) := by decide +kernel
theorem dX11_version_2 : decode cX11_version 2 = .ok (.invokevirtual 174, 3) := by decide +kernel
theorem dX11_version_5 : decode cX11_version 5 = .ok (.ifCond .eq 13, 3) := by decide +kernel
theorem dX11_version_8 : decode cX11_version 8 = .ok (.iload_n 3, 1) := by decide +kernel
theorem dX11_version_9 : decode cX11_version 9 = .ok (.i2l, 1) := by decide +kernel
theorem dX11_version_10 : decode cX11_version 10 = .ok (.lconst 0, 1) := by decide +kernel
theorem dX11_version_11 : decode cX11_version 11 = .ok (.lconst 1, 1) := by decide +kernel
theorem dX11_version_12 : decode cX11_version 12 = .ok (.invokestatic 120, 3) := by decide +kernel
theorem dX11_version_15 : decode cX11_version 15 = .ok (.ifCond .ne 5, 3) := by decide +kernel
theorem dX11_version_18 : decode cX11_version 18 = .ok (.iconst (-1), 1) := by decide +kernel
theorem dX11_version_19 : decode cX11_version 19 = .ok (.ireturn, 1) := by decide +kernel
theorem dX11_version_20 : decode cX11_version 20 = .ok (.aload_n 0, 1) := by decide +kernel
theorem dX11_version_21 : decode cX11_version 21 = .ok (.iload_n 1, 1) := by decide +kernel
theorem dX11_version_22 : decode cX11_version 22 = .ok (.invokevirtual 321, 3) := by decide +kernel
theorem dX11_version_25 : decode cX11_version 25 = .ok (.iload_n 2, 1) := by decide +kernel
theorem dX11_version_26 : decode cX11_version 26 = .ok (.i2l, 1) := by decide +kernel
theorem dX11_version_27 : decode cX11_version 27 = .ok (.lconst 0, 1) := by decide +kernel
theorem dX11_version_28 : decode cX11_version 28 = .ok (.aload_n 0, 1) := by decide +kernel
theorem dX11_version_29 : decode cX11_version 29 = .ok (.getfield 309, 3) := by decide +kernel
theorem dX11_version_32 : decode cX11_version 32 = .ok (.iconst 1, 1) := by decide +kernel
theorem dX11_version_33 : decode cX11_version 33 = .ok (.isub, 1) := by decide +kernel
theorem dX11_version_34 : decode cX11_version 34 = .ok (.i2l, 1) := by decide +kernel
theorem dX11_version_35 : decode cX11_version 35 = .ok (.invokestatic 120, 3) := by decide +kernel
theorem dX11_version_38 : decode cX11_version 38 = .ok (.ifCond .ne 5, 3) := by decide +kernel
theorem dX11_version_41 : decode cX11_version 41 = .ok (.iconst (-1), 1) := by decide +kernel
theorem dX11_version_42 : decode cX11_version 42 = .ok (.ireturn, 1) := by decide +kernel
theorem dX11_version_43 : decode cX11_version 43 = .ok (.iload_n 3, 1) := by decide +kernel
theorem dX11_version_44 : decode cX11_version 44 = .ok (.ifCond .ne 12, 3) := by decide +kernel
theorem dX11_version_47 : decode cX11_version 47 = .ok (.aload_n 0, 1) := by decide +kernel
theorem dX11_version_48 : decode cX11_version 48 = .ok (.getfield 86, 3) := by decide +kernel
theorem dX11_version_51 : decode cX11_version 51 = .ok (.iload_n 2, 1) := by decide +kernel
theorem dX11_version_52 : decode cX11_version 52 = .ok (.iaload, 1) := by decide +kernel
theorem dX11_version_53 : decode cX11_version 53 = .ok (.goto 9, 3) := by decide +kernel
theorem dX11_version_56 : decode cX11_version 56 = .ok (.aload_n 0, 1) := by decide +kernel
theorem dX11_version_57 : decode cX11_version 57 = .ok (.getfield 89, 3) := by decide +kernel
theorem dX11_version_60 : decode cX11_version 60 = .ok (.iload_n 2, 1) := by decide +kernel
theorem dX11_version_61 : decode cX11_version 61 = .ok (.iaload, 1) := by decide +kernel
theorem dX11_version_62 : decode cX11_version 62 = .ok (.ireturn, 1) := by decide +kernel
theorem dX11_kin_0 : decode cX11_kin 0 = .ok (.aload_n 0, 1) := by decide +kernel
theorem dX11_kin_1 : decode cX11_kin 1 = .ok (.iload_n 1, 1) := by decide +kernel
theorem dX11_kin_2 : decode cX11_kin 2 = .ok (.invokevirtual 174, 3) := by decide +kernel
theorem dX11_kin_5 : decode cX11_kin 5 = .ok (.ifCond .ne 5, 3) := by decide +kernel
theorem dX11_kin_8 : decode cX11_kin 8 = .ok (.iconst (-1), 1) := by decide +kernel
theorem dX11_kin_9 : decode cX11_kin 9 = .ok (.ireturn, 1) := by decide +kernel
theorem dX11_kin_10 : decode cX11_kin 10 = .ok (.aload_n 0, 1) := by decide +kernel
theorem dX11_kin_11 : decode cX11_kin 11 = .ok (.iload_n 1, 1) := by decide +kernel
theorem dX11_kin_12 : decode cX11_kin 12 = .ok (.invokevirtual 321, 3) := by decide +kernel
theorem dX11_kin_15 : decode cX11_kin 15 = .ok (.aload_n 0, 1) := by decide +kernel
theorem dX11_kin_16 : decode cX11_kin 16 = .ok (.getfield 315, 3) := by decide +kernel
theorem dX11_kin_19 : decode cX11_kin 19 = .ok (.ireturn, 1) := by decide +kernel
theorem dX11_report_0 : decode cX11_report 0 = .ok (.iload_n 1, 1) := by decide +kernel
theorem dX11_report_1 : decode cX11_report 1 = .ok (.invokestatic 126, 3) := by decide +kernel
theorem dX11_report_4 : decode cX11_report 4 = .ok (.ifCond .eq 15, 3) := by decide +kernel
theorem dX11_report_7 : decode cX11_report 7 = .ok (.iload_n 2, 1) := by decide +kernel
theorem dX11_report_8 : decode cX11_report 8 = .ok (.i2l, 1) := by decide +kernel
theorem dX11_report_9 : decode cX11_report 9 = .ok (.lconst 0, 1) := by decide +kernel
theorem dX11_report_10 : decode cX11_report 10 = .ok (.ldc2_w 324, 3) := by decide +kernel
theorem dX11_report_13 : decode cX11_report 13 = .ok (.invokestatic 120, 3) := by decide +kernel
theorem dX11_report_16 : decode cX11_report 16 = .ok (.ifCond .ne 5, 3) := by decide +kernel
theorem dX11_report_19 : decode cX11_report 19 = .ok (.iconst (-1), 1) := by decide +kernel
theorem dX11_report_20 : decode cX11_report 20 = .ok (.ireturn, 1) := by decide +kernel
theorem dX11_report_21 : decode cX11_report 21 = .ok (.aload_n 0, 1) := by decide +kernel
theorem dX11_report_22 : decode cX11_report 22 = .ok (.getfield 190, 3) := by decide +kernel
theorem dX11_report_25 : decode cX11_report 25 = .ok (.bipush 12, 2) := by decide +kernel
theorem dX11_report_27 : decode cX11_report 27 = .ok (.if_icmp .ne 6, 3) := by decide +kernel
theorem dX11_report_30 : decode cX11_report 30 = .ok (.bipush (-3), 2) := by decide +kernel
theorem dX11_report_32 : decode cX11_report 32 = .ok (.ireturn, 1) := by decide +kernel
theorem dX11_report_33 : decode cX11_report 33 = .ok (.aload_n 0, 1) := by decide +kernel
theorem dX11_report_34 : decode cX11_report 34 = .ok (.getfield 92, 3) := by decide +kernel
theorem dX11_report_37 : decode cX11_report 37 = .ok (.aload_n 0, 1) := by decide +kernel
theorem dX11_report_38 : decode cX11_report 38 = .ok (.getfield 190, 3) := by decide +kernel
theorem dX11_report_41 : decode cX11_report 41 = .ok (.iload_n 1, 1) := by decide +kernel
theorem dX11_report_42 : decode cX11_report 42 = .ok (.iastore, 1) := by decide +kernel
theorem dX11_report_43 : decode cX11_report 43 = .ok (.aload_n 0, 1) := by decide +kernel
theorem dX11_report_44 : decode cX11_report 44 = .ok (.getfield 95, 3) := by decide +kernel
theorem dX11_report_47 : decode cX11_report 47 = .ok (.aload_n 0, 1) := by decide +kernel
theorem dX11_report_48 : decode cX11_report 48 = .ok (.getfield 190, 3) := by decide +kernel
theorem dX11_report_51 : decode cX11_report 51 = .ok (.iload_n 2, 1) := by decide +kernel
theorem dX11_report_52 : decode cX11_report 52 = .ok (.iastore, 1) := by decide +kernel
theorem dX11_report_53 : decode cX11_report 53 = .ok (.aload_n 0, 1) := by decide +kernel
theorem dX11_report_54 : decode cX11_report 54 = .ok (.getfield 98, 3) := by decide +kernel
theorem dX11_report_57 : decode cX11_report 57 = .ok (.aload_n 0, 1) := by decide +kernel
theorem dX11_report_58 : decode cX11_report 58 = .ok (.getfield 190, 3) := by decide +kernel
theorem dX11_report_61 : decode cX11_report 61 = .ok (.iload_n 3, 1) := by decide +kernel
theorem dX11_report_62 : decode cX11_report 62 = .ok (.bastore, 1) := by decide +kernel
theorem dX11_report_63 : decode cX11_report 63 = .ok (.aload_n 0, 1) := by decide +kernel
theorem dX11_report_64 : decode cX11_report 64 = .ok (.dup, 1) := by decide +kernel
theorem dX11_report_65 : decode cX11_report 65 = .ok (.getfield 190, 3) := by decide +kernel
theorem dX11_report_68 : decode cX11_report 68 = .ok (.iconst 1, 1) := by decide +kernel
theorem dX11_report_69 : decode cX11_report 69 = .ok (.iadd, 1) := by decide +kernel
theorem dX11_report_70 : decode cX11_report 70 = .ok (.putfield 190, 3) := by decide +kernel
theorem dX11_report_73 : decode cX11_report 73 = .ok (.aload_n 0, 1) := by decide +kernel
theorem dX11_report_74 : decode cX11_report 74 = .ok (.getfield 190, 3) := by decide +kernel
theorem dX11_report_77 : decode cX11_report 77 = .ok (.iconst 1, 1) := by decide +kernel
theorem dX11_report_78 : decode cX11_report 78 = .ok (.isub, 1) := by decide +kernel
theorem dX11_report_79 : decode cX11_report 79 = .ok (.ireturn, 1) := by decide +kernel
theorem dX11_clear_0 : decode cX11_clear 0 = .ok (.aload_n 0, 1) := by decide +kernel
theorem dX11_clear_1 : decode cX11_clear 1 = .ok (.getfield 190, 3) := by decide +kernel
theorem dX11_clear_4 : decode cX11_clear 4 = .ok (.istore_n 1, 1) := by decide +kernel
theorem dX11_clear_5 : decode cX11_clear 5 = .ok (.aload_n 0, 1) := by decide +kernel
theorem dX11_clear_6 : decode cX11_clear 6 = .ok (.iconst 0, 1) := by decide +kernel
theorem dX11_clear_7 : decode cX11_clear 7 = .ok (.putfield 190, 3) := by decide +kernel
theorem dX11_clear_10 : decode cX11_clear 10 = .ok (.iload_n 1, 1) := by decide +kernel
theorem dX11_clear_11 : decode cX11_clear 11 = .ok (.ireturn, 1) := by decide +kernel
theorem dX11_isHeard_0 : decode cX11_isHeard 0 = .ok (.iconst 0, 1) := by decide +kernel
theorem dX11_isHeard_1 : decode cX11_isHeard 1 = .ok (.istore_n 3, 1) := by decide +kernel
theorem dX11_isHeard_2 : decode cX11_isHeard 2 = .ok (.iconst 0, 1) := by decide +kernel
theorem dX11_isHeard_3 : decode cX11_isHeard 3 = .ok (.istore 4, 2) := by decide +kernel
theorem dX11_isHeard_5 : decode cX11_isHeard 5 = .ok (.iload 4, 2) := by decide +kernel
theorem dX11_isHeard_7 : decode cX11_isHeard 7 = .ok (.aload_n 0, 1) := by decide +kernel
theorem dX11_isHeard_8 : decode cX11_isHeard 8 = .ok (.getfield 116, 3) := by decide +kernel
theorem dX11_isHeard_11 : decode cX11_isHeard 11 = .ok (.if_icmp .ge 43, 3) := by decide +kernel
theorem dX11_isHeard_14 : decode cX11_isHeard 14 = .ok (.iload_n 3, 1) := by decide +kernel
theorem dX11_isHeard_15 : decode cX11_isHeard 15 = .ok (.ifCond .ne 27, 3) := by decide +kernel
theorem dX11_isHeard_18 : decode cX11_isHeard 18 = .ok (.aload_n 0, 1) := by decide +kernel
theorem dX11_isHeard_19 : decode cX11_isHeard 19 = .ok (.iload 4, 2) := by decide +kernel
theorem dX11_isHeard_21 : decode cX11_isHeard 21 = .ok (.iload_n 1, 1) := by decide +kernel
theorem dX11_isHeard_22 : decode cX11_isHeard 22 = .ok (.invokevirtual 200, 3) := by decide +kernel
theorem dX11_isHeard_25 : decode cX11_isHeard 25 = .ok (.ifCond .eq 21, 3) := by decide +kernel
theorem dX11_isHeard_28 : decode cX11_isHeard 28 = .ok (.aload_n 0, 1) := by decide +kernel
theorem dX11_isHeard_29 : decode cX11_isHeard 29 = .ok (.iload 4, 2) := by decide +kernel
theorem dX11_isHeard_31 : decode cX11_isHeard 31 = .ok (.aload_n 0, 1) := by decide +kernel
theorem dX11_isHeard_32 : decode cX11_isHeard 32 = .ok (.getfield 180, 3) := by decide +kernel
theorem dX11_isHeard_35 : decode cX11_isHeard 35 = .ok (.invokevirtual 153, 3) := by decide +kernel
theorem dX11_isHeard_38 : decode cX11_isHeard 38 = .ok (.iload_n 2, 1) := by decide +kernel
theorem dX11_isHeard_39 : decode cX11_isHeard 39 = .ok (.if_icmp .ne 7, 3) := by decide +kernel
theorem dX11_isHeard_42 : decode cX11_isHeard 42 = .ok (.iconst 1, 1) := by decide +kernel
theorem dX11_isHeard_43 : decode cX11_isHeard 43 = .ok (.goto 4, 3) := by decide +kernel
theorem dX11_isHeard_46 : decode cX11_isHeard 46 = .ok (.iconst 0, 1) := by decide +kernel
theorem dX11_isHeard_47 : decode cX11_isHeard 47 = .ok (.istore_n 3, 1) := by decide +kernel
theorem dX11_isHeard_48 : decode cX11_isHeard 48 = .ok (.iinc 4 1, 3) := by decide +kernel
theorem dX11_isHeard_51 : decode cX11_isHeard 51 = .ok (.goto (-46), 3) := by decide +kernel
theorem dX11_isHeard_54 : decode cX11_isHeard 54 = .ok (.iload_n 3, 1) := by decide +kernel
theorem dX11_isHeard_55 : decode cX11_isHeard 55 = .ok (.ireturn, 1) := by decide +kernel
theorem dX11_agrees_0 : decode cX11_agrees 0 = .ok (.iconst 1, 1) := by decide +kernel
theorem dX11_agrees_1 : decode cX11_agrees 1 = .ok (.istore 4, 2) := by decide +kernel
theorem dX11_agrees_3 : decode cX11_agrees 3 = .ok (.iconst 0, 1) := by decide +kernel
theorem dX11_agrees_4 : decode cX11_agrees 4 = .ok (.istore 5, 2) := by decide +kernel
theorem dX11_agrees_6 : decode cX11_agrees 6 = .ok (.iload 5, 2) := by decide +kernel
theorem dX11_agrees_8 : decode cX11_agrees 8 = .ok (.aload_n 0, 1) := by decide +kernel
theorem dX11_agrees_9 : decode cX11_agrees 9 = .ok (.getfield 190, 3) := by decide +kernel
theorem dX11_agrees_12 : decode cX11_agrees 12 = .ok (.if_icmp .ge 71, 3) := by decide +kernel
theorem dX11_agrees_15 : decode cX11_agrees 15 = .ok (.iload_n 2, 1) := by decide +kernel
theorem dX11_agrees_16 : decode cX11_agrees 16 = .ok (.iload_n 3, 1) := by decide +kernel
theorem dX11_agrees_17 : decode cX11_agrees 17 = .ok (.if_icmp .lt 22, 3) := by decide +kernel
theorem dX11_agrees_20 : decode cX11_agrees 20 = .ok (.aload_n 0, 1) := by decide +kernel
theorem dX11_agrees_21 : decode cX11_agrees 21 = .ok (.iload_n 1, 1) := by decide +kernel
theorem dX11_agrees_22 : decode cX11_agrees 22 = .ok (.aload_n 0, 1) := by decide +kernel
theorem dX11_agrees_23 : decode cX11_agrees 23 = .ok (.getfield 92, 3) := by decide +kernel
theorem dX11_agrees_26 : decode cX11_agrees 26 = .ok (.iload 5, 2) := by decide +kernel
theorem dX11_agrees_28 : decode cX11_agrees 28 = .ok (.iaload, 1) := by decide +kernel
theorem dX11_agrees_29 : decode cX11_agrees 29 = .ok (.invokevirtual 326, 3) := by decide +kernel
theorem dX11_agrees_32 : decode cX11_agrees 32 = .ok (.ifCond .eq 7, 3) := by decide +kernel
theorem dX11_agrees_35 : decode cX11_agrees 35 = .ok (.iconst 1, 1) := by decide +kernel
theorem dX11_agrees_36 : decode cX11_agrees 36 = .ok (.goto 4, 3) := by decide +kernel
theorem dX11_agrees_39 : decode cX11_agrees 39 = .ok (.iconst 0, 1) := by decide +kernel
theorem dX11_agrees_40 : decode cX11_agrees 40 = .ok (.istore 6, 2) := by decide +kernel
theorem dX11_agrees_42 : decode cX11_agrees 42 = .ok (.iload 4, 2) := by decide +kernel
theorem dX11_agrees_44 : decode cX11_agrees 44 = .ok (.ifCond .eq 30, 3) := by decide +kernel
theorem dX11_agrees_47 : decode cX11_agrees 47 = .ok (.aload_n 0, 1) := by decide +kernel
theorem dX11_agrees_48 : decode cX11_agrees 48 = .ok (.getfield 95, 3) := by decide +kernel
theorem dX11_agrees_51 : decode cX11_agrees 51 = .ok (.iload 5, 2) := by decide +kernel
theorem dX11_agrees_53 : decode cX11_agrees 53 = .ok (.iaload, 1) := by decide +kernel
theorem dX11_agrees_54 : decode cX11_agrees 54 = .ok (.iload_n 2, 1) := by decide +kernel
theorem dX11_agrees_55 : decode cX11_agrees 55 = .ok (.if_icmp .ne 15, 3) := by decide +kernel
theorem dX11_agrees_58 : decode cX11_agrees 58 = .ok (.iload 6, 2) := by decide +kernel
theorem dX11_agrees_60 : decode cX11_agrees 60 = .ok (.aload_n 0, 1) := by decide +kernel
theorem dX11_agrees_61 : decode cX11_agrees 61 = .ok (.getfield 98, 3) := by decide +kernel
theorem dX11_agrees_64 : decode cX11_agrees 64 = .ok (.iload 5, 2) := by decide +kernel
theorem dX11_agrees_66 : decode cX11_agrees 66 = .ok (.baload, 1) := by decide +kernel
theorem dX11_agrees_67 : decode cX11_agrees 67 = .ok (.if_icmp .ne 7, 3) := by decide +kernel
theorem dX11_agrees_70 : decode cX11_agrees 70 = .ok (.iconst 1, 1) := by decide +kernel
theorem dX11_agrees_71 : decode cX11_agrees 71 = .ok (.goto 4, 3) := by decide +kernel
theorem dX11_agrees_74 : decode cX11_agrees 74 = .ok (.iconst 0, 1) := by decide +kernel
theorem dX11_agrees_75 : decode cX11_agrees 75 = .ok (.istore 4, 2) := by decide +kernel
theorem dX11_agrees_77 : decode cX11_agrees 77 = .ok (.iinc 5 1, 3) := by decide +kernel
theorem dX11_agrees_80 : decode cX11_agrees 80 = .ok (.goto (-74), 3) := by decide +kernel
theorem dX11_agrees_83 : decode cX11_agrees 83 = .ok (.iload 4, 2) := by decide +kernel
theorem dX11_agrees_85 : decode cX11_agrees 85 = .ok (.ireturn, 1) := by decide +kernel
theorem dX11_couldBe_0 : decode cX11_couldBe 0 = .ok (.aload_n 0, 1) := by decide +kernel
theorem dX11_couldBe_1 : decode cX11_couldBe 1 = .ok (.invokevirtual 241, 3) := by decide +kernel
theorem dX11_couldBe_4 : decode cX11_couldBe 4 = .ok (.iconst 0, 1) := by decide +kernel
theorem dX11_couldBe_5 : decode cX11_couldBe 5 = .ok (.istore 4, 2) := by decide +kernel
theorem dX11_couldBe_7 : decode cX11_couldBe 7 = .ok (.iload 4, 2) := by decide +kernel
theorem dX11_couldBe_9 : decode cX11_couldBe 9 = .ok (.aload_n 0, 1) := by decide +kernel
theorem dX11_couldBe_10 : decode cX11_couldBe 10 = .ok (.getfield 116, 3) := by decide +kernel
theorem dX11_couldBe_13 : decode cX11_couldBe 13 = .ok (.if_icmp .ge 22, 3) := by decide +kernel
theorem dX11_couldBe_16 : decode cX11_couldBe 16 = .ok (.aload_n 0, 1) := by decide +kernel
theorem dX11_couldBe_17 : decode cX11_couldBe 17 = .ok (.getfield 38, 3) := by decide +kernel
theorem dX11_couldBe_20 : decode cX11_couldBe 20 = .ok (.bipush 8, 2) := by decide +kernel
theorem dX11_couldBe_22 : decode cX11_couldBe 22 = .ok (.iload 4, 2) := by decide +kernel
theorem dX11_couldBe_24 : decode cX11_couldBe 24 = .ok (.imul, 1) := by decide +kernel
theorem dX11_couldBe_25 : decode cX11_couldBe 25 = .ok (.iload_n 1, 1) := by decide +kernel
theorem dX11_couldBe_26 : decode cX11_couldBe 26 = .ok (.iadd, 1) := by decide +kernel
theorem dX11_couldBe_27 : decode cX11_couldBe 27 = .ok (.iconst 0, 1) := by decide +kernel
theorem dX11_couldBe_28 : decode cX11_couldBe 28 = .ok (.iastore, 1) := by decide +kernel
theorem dX11_couldBe_29 : decode cX11_couldBe 29 = .ok (.iinc 4 1, 3) := by decide +kernel
theorem dX11_couldBe_32 : decode cX11_couldBe 32 = .ok (.goto (-25), 3) := by decide +kernel
theorem dX11_couldBe_35 : decode cX11_couldBe 35 = .ok (.aload_n 0, 1) := by decide +kernel
theorem dX11_couldBe_36 : decode cX11_couldBe 36 = .ok (.iload_n 3, 1) := by decide +kernel
theorem dX11_couldBe_37 : decode cX11_couldBe 37 = .ok (.putfield 180, 3) := by decide +kernel
theorem dX11_couldBe_40 : decode cX11_couldBe 40 = .ok (.aload_n 0, 1) := by decide +kernel
theorem dX11_couldBe_41 : decode cX11_couldBe 41 = .ok (.bipush 8, 2) := by decide +kernel
theorem dX11_couldBe_43 : decode cX11_couldBe 43 = .ok (.iload_n 2, 1) := by decide +kernel
theorem dX11_couldBe_44 : decode cX11_couldBe 44 = .ok (.imul, 1) := by decide +kernel
theorem dX11_couldBe_45 : decode cX11_couldBe 45 = .ok (.iload_n 1, 1) := by decide +kernel
theorem dX11_couldBe_46 : decode cX11_couldBe 46 = .ok (.iadd, 1) := by decide +kernel
theorem dX11_couldBe_47 : decode cX11_couldBe 47 = .ok (.iconst 1, 1) := by decide +kernel
theorem dX11_couldBe_48 : decode cX11_couldBe 48 = .ok (.aload_n 0, 1) := by decide +kernel
theorem dX11_couldBe_49 : decode cX11_couldBe 49 = .ok (.getfield 19, 3) := by decide +kernel
theorem dX11_couldBe_52 : decode cX11_couldBe 52 = .ok (.iload_n 1, 1) := by decide +kernel
theorem dX11_couldBe_53 : decode cX11_couldBe 53 = .ok (.iaload, 1) := by decide +kernel
theorem dX11_couldBe_54 : decode cX11_couldBe 54 = .ok (.bipush 17, 2) := by decide +kernel
theorem dX11_couldBe_56 : decode cX11_couldBe 56 = .ok (.invokevirtual 183, 3) := by decide +kernel
theorem dX11_couldBe_59 : decode cX11_couldBe 59 = .ok (.iconst 1, 1) := by decide +kernel
theorem dX11_couldBe_60 : decode cX11_couldBe 60 = .ok (.istore 4, 2) := by decide +kernel
theorem dX11_couldBe_62 : decode cX11_couldBe 62 = .ok (.iconst 0, 1) := by decide +kernel
theorem dX11_couldBe_63 : decode cX11_couldBe 63 = .ok (.istore 5, 2) := by decide +kernel
theorem dX11_couldBe_65 : decode cX11_couldBe 65 = .ok (.iload 5, 2) := by decide +kernel
theorem dX11_couldBe_67 : decode cX11_couldBe 67 = .ok (.bipush 24, 2) := by decide +kernel
theorem dX11_couldBe_69 : decode cX11_couldBe 69 = .ok (.if_icmp .ge 45, 3) := by decide +kernel
theorem dX11_couldBe_72 : decode cX11_couldBe 72 = .ok (.iload 4, 2) := by decide +kernel
theorem dX11_couldBe_74 : decode cX11_couldBe 74 = .ok (.ifCond .eq 40, 3) := by decide +kernel
theorem dX11_couldBe_77 : decode cX11_couldBe 77 = .ok (.aload_n 0, 1) := by decide +kernel
theorem dX11_couldBe_78 : decode cX11_couldBe 78 = .ok (.iload_n 1, 1) := by decide +kernel
theorem dX11_couldBe_79 : decode cX11_couldBe 79 = .ok (.iload 5, 2) := by decide +kernel
theorem dX11_couldBe_81 : decode cX11_couldBe 81 = .ok (.iload_n 3, 1) := by decide +kernel
theorem dX11_couldBe_82 : decode cX11_couldBe 82 = .ok (.invokevirtual 329, 3) := by decide +kernel
theorem dX11_couldBe_85 : decode cX11_couldBe 85 = .ok (.istore 4, 2) := by decide +kernel
theorem dX11_couldBe_87 : decode cX11_couldBe 87 = .ok (.iload 5, 2) := by decide +kernel
theorem dX11_couldBe_89 : decode cX11_couldBe 89 = .ok (.iload_n 3, 1) := by decide +kernel
theorem dX11_couldBe_90 : decode cX11_couldBe 90 = .ok (.if_icmp .lt 18, 3) := by decide +kernel
theorem dX11_couldBe_93 : decode cX11_couldBe 93 = .ok (.aload_n 0, 1) := by decide +kernel
theorem dX11_couldBe_94 : decode cX11_couldBe 94 = .ok (.iload_n 1, 1) := by decide +kernel
theorem dX11_couldBe_95 : decode cX11_couldBe 95 = .ok (.invokevirtual 207, 3) := by decide +kernel
theorem dX11_couldBe_98 : decode cX11_couldBe 98 = .ok (.aload_n 0, 1) := by decide +kernel
theorem dX11_couldBe_99 : decode cX11_couldBe 99 = .ok (.dup, 1) := by decide +kernel
theorem dX11_couldBe_100 : decode cX11_couldBe 100 = .ok (.getfield 180, 3) := by decide +kernel
theorem dX11_couldBe_103 : decode cX11_couldBe 103 = .ok (.iconst 1, 1) := by decide +kernel
theorem dX11_couldBe_104 : decode cX11_couldBe 104 = .ok (.iadd, 1) := by decide +kernel
theorem dX11_couldBe_105 : decode cX11_couldBe 105 = .ok (.putfield 180, 3) := by decide +kernel
theorem dX11_couldBe_108 : decode cX11_couldBe 108 = .ok (.iinc 5 1, 3) := by decide +kernel
theorem dX11_couldBe_111 : decode cX11_couldBe 111 = .ok (.goto (-46), 3) := by decide +kernel
theorem dX11_couldBe_114 : decode cX11_couldBe 114 = .ok (.aload_n 0, 1) := by decide +kernel
theorem dX11_couldBe_115 : decode cX11_couldBe 115 = .ok (.invokevirtual 244, 3) := by decide +kernel
theorem dX11_couldBe_118 : decode cX11_couldBe 118 = .ok (.iload 4, 2) := by decide +kernel
theorem dX11_couldBe_120 : decode cX11_couldBe 120 = .ok (.ireturn, 1) := by decide +kernel
theorem dX11_could_0 : decode cX11_could 0 = .ok (.aload_n 0, 1) := by decide +kernel
theorem dX11_could_1 : decode cX11_could 1 = .ok (.iload_n 1, 1) := by decide +kernel
theorem dX11_could_2 : decode cX11_could 2 = .ok (.invokevirtual 174, 3) := by decide +kernel
theorem dX11_could_5 : decode cX11_could 5 = .ok (.ifCond .eq 23, 3) := by decide +kernel
theorem dX11_could_8 : decode cX11_could 8 = .ok (.aload_n 0, 1) := by decide +kernel
theorem dX11_could_9 : decode cX11_could 9 = .ok (.iload_n 2, 1) := by decide +kernel
theorem dX11_could_10 : decode cX11_could 10 = .ok (.invokevirtual 134, 3) := by decide +kernel
theorem dX11_could_13 : decode cX11_could 13 = .ok (.ifCond .eq 15, 3) := by decide +kernel
theorem dX11_could_16 : decode cX11_could 16 = .ok (.iload_n 3, 1) := by decide +kernel
theorem dX11_could_17 : decode cX11_could 17 = .ok (.i2l, 1) := by decide +kernel
theorem dX11_could_18 : decode cX11_could 18 = .ok (.lconst 0, 1) := by decide +kernel
theorem dX11_could_19 : decode cX11_could 19 = .ok (.ldc2_w 324, 3) := by decide +kernel
theorem dX11_could_22 : decode cX11_could 22 = .ok (.invokestatic 120, 3) := by decide +kernel
theorem dX11_could_25 : decode cX11_could 25 = .ok (.ifCond .ne 5, 3) := by decide +kernel
theorem dX11_could_28 : decode cX11_could 28 = .ok (.iconst (-1), 1) := by decide +kernel
theorem dX11_could_29 : decode cX11_could 29 = .ok (.ireturn, 1) := by decide +kernel
theorem dX11_could_30 : decode cX11_could 30 = .ok (.aload_n 0, 1) := by decide +kernel
theorem dX11_could_31 : decode cX11_could 31 = .ok (.iload_n 1, 1) := by decide +kernel
theorem dX11_could_32 : decode cX11_could 32 = .ok (.iload_n 2, 1) := by decide +kernel
theorem dX11_could_33 : decode cX11_could 33 = .ok (.iload_n 3, 1) := by decide +kernel
theorem dX11_could_34 : decode cX11_could 34 = .ok (.invokevirtual 333, 3) := by decide +kernel
theorem dX11_could_37 : decode cX11_could 37 = .ok (.ifCond .eq 7, 3) := by decide +kernel
theorem dX11_could_40 : decode cX11_could 40 = .ok (.iconst 1, 1) := by decide +kernel
theorem dX11_could_41 : decode cX11_could 41 = .ok (.goto 4, 3) := by decide +kernel
theorem dX11_could_44 : decode cX11_could 44 = .ok (.iconst 0, 1) := by decide +kernel
theorem dX11_could_45 : decode cX11_could 45 = .ok (.ireturn, 1) := by decide +kernel
theorem dX11_first_0 : decode cX11_first 0 = .ok (.aload_n 0, 1) := by decide +kernel
theorem dX11_first_1 : decode cX11_first 1 = .ok (.iload_n 1, 1) := by decide +kernel
theorem dX11_first_2 : decode cX11_first 2 = .ok (.invokevirtual 174, 3) := by decide +kernel
theorem dX11_first_5 : decode cX11_first 5 = .ok (.ifCond .ne 5, 3) := by decide +kernel
theorem dX11_first_8 : decode cX11_first 8 = .ok (.iconst (-1), 1) := by decide +kernel
theorem dX11_first_9 : decode cX11_first 9 = .ok (.ireturn, 1) := by decide +kernel
theorem dX11_first_10 : decode cX11_first 10 = .ok (.iconst 0, 1) := by decide +kernel
theorem dX11_first_11 : decode cX11_first 11 = .ok (.istore_n 2, 1) := by decide +kernel
theorem dX11_first_12 : decode cX11_first 12 = .ok (.iconst 0, 1) := by decide +kernel
theorem dX11_first_13 : decode cX11_first 13 = .ok (.istore_n 3, 1) := by decide +kernel
theorem dX11_first_14 : decode cX11_first 14 = .ok (.iload_n 3, 1) := by decide +kernel
theorem dX11_first_15 : decode cX11_first 15 = .ok (.aload_n 0, 1) := by decide +kernel
theorem dX11_first_16 : decode cX11_first 16 = .ok (.getfield 116, 3) := by decide +kernel
theorem dX11_first_19 : decode cX11_first 19 = .ok (.if_icmp .ge 54, 3) := by decide +kernel
theorem dX11_first_22 : decode cX11_first 22 = .ok (.iconst 0, 1) := by decide +kernel
theorem dX11_first_23 : decode cX11_first 23 = .ok (.istore 4, 2) := by decide +kernel
theorem dX11_first_25 : decode cX11_first 25 = .ok (.iload 4, 2) := by decide +kernel
theorem dX11_first_27 : decode cX11_first 27 = .ok (.bipush 24, 2) := by decide +kernel
theorem dX11_first_29 : decode cX11_first 29 = .ok (.if_icmp .ge 38, 3) := by decide +kernel
theorem dX11_first_32 : decode cX11_first 32 = .ok (.iload_n 2, 1) := by decide +kernel
theorem dX11_first_33 : decode cX11_first 33 = .ok (.iload_n 2, 1) := by decide +kernel
theorem dX11_first_34 : decode cX11_first 34 = .ok (.iload_n 3, 1) := by decide +kernel
theorem dX11_first_35 : decode cX11_first 35 = .ok (.ishr, 1) := by decide +kernel
theorem dX11_first_36 : decode cX11_first 36 = .ok (.iconst 1, 1) := by decide +kernel
theorem dX11_first_37 : decode cX11_first 37 = .ok (.iand, 1) := by decide +kernel
theorem dX11_first_38 : decode cX11_first 38 = .ok (.ifCond .ne 20, 3) := by decide +kernel
theorem dX11_first_41 : decode cX11_first 41 = .ok (.aload_n 0, 1) := by decide +kernel
theorem dX11_first_42 : decode cX11_first 42 = .ok (.iload_n 1, 1) := by decide +kernel
theorem dX11_first_43 : decode cX11_first 43 = .ok (.iload_n 3, 1) := by decide +kernel
theorem dX11_first_44 : decode cX11_first 44 = .ok (.iload 4, 2) := by decide +kernel
theorem dX11_first_46 : decode cX11_first 46 = .ok (.invokevirtual 333, 3) := by decide +kernel
theorem dX11_first_49 : decode cX11_first 49 = .ok (.ifCond .eq 9, 3) := by decide +kernel
theorem dX11_first_52 : decode cX11_first 52 = .ok (.iconst 1, 1) := by decide +kernel
theorem dX11_first_53 : decode cX11_first 53 = .ok (.iload_n 3, 1) := by decide +kernel
theorem dX11_first_54 : decode cX11_first 54 = .ok (.ishl, 1) := by decide +kernel
theorem dX11_first_55 : decode cX11_first 55 = .ok (.goto 4, 3) := by decide +kernel
theorem dX11_first_58 : decode cX11_first 58 = .ok (.iconst 0, 1) := by decide +kernel
theorem dX11_first_59 : decode cX11_first 59 = .ok (.ior, 1) := by decide +kernel
theorem dX11_first_60 : decode cX11_first 60 = .ok (.istore_n 2, 1) := by decide +kernel
theorem dX11_first_61 : decode cX11_first 61 = .ok (.iinc 4 1, 3) := by decide +kernel
theorem dX11_first_64 : decode cX11_first 64 = .ok (.goto (-39), 3) := by decide +kernel
theorem dX11_first_67 : decode cX11_first 67 = .ok (.iinc 3 1, 3) := by decide +kernel
theorem dX11_first_70 : decode cX11_first 70 = .ok (.goto (-56), 3) := by decide +kernel
theorem dX11_first_73 : decode cX11_first 73 = .ok (.iload_n 2, 1) := by decide +kernel
theorem dX11_first_74 : decode cX11_first 74 = .ok (.ireturn, 1) := by decide +kernel
theorem dX11_sumAt_0 : decode cX11_sumAt 0 = .ok (.iconst 0, 1) := by decide +kernel
theorem dX11_sumAt_1 : decode cX11_sumAt 1 = .ok (.istore_n 2, 1) := by decide +kernel
theorem dX11_sumAt_2 : decode cX11_sumAt 2 = .ok (.iconst 0, 1) := by decide +kernel
theorem dX11_sumAt_3 : decode cX11_sumAt 3 = .ok (.istore_n 3, 1) := by decide +kernel
theorem dX11_sumAt_4 : decode cX11_sumAt 4 = .ok (.iload_n 3, 1) := by decide +kernel
theorem dX11_sumAt_5 : decode cX11_sumAt 5 = .ok (.aload_n 0, 1) := by decide +kernel
theorem dX11_sumAt_6 : decode cX11_sumAt 6 = .ok (.getfield 157, 3) := by decide +kernel
theorem dX11_sumAt_9 : decode cX11_sumAt 9 = .ok (.if_icmp .ge 80, 3) := by decide +kernel
theorem dX11_sumAt_12 : decode cX11_sumAt 12 = .ok (.bipush 24, 2) := by decide +kernel
theorem dX11_sumAt_14 : decode cX11_sumAt 14 = .ok (.istore 4, 2) := by decide +kernel
theorem dX11_sumAt_16 : decode cX11_sumAt 16 = .ok (.iconst 0, 1) := by decide +kernel
theorem dX11_sumAt_17 : decode cX11_sumAt 17 = .ok (.istore 5, 2) := by decide +kernel
theorem dX11_sumAt_19 : decode cX11_sumAt 19 = .ok (.iload 5, 2) := by decide +kernel
theorem dX11_sumAt_21 : decode cX11_sumAt 21 = .ok (.bipush 6, 2) := by decide +kernel
theorem dX11_sumAt_23 : decode cX11_sumAt 23 = .ok (.if_icmp .ge 55, 3) := by decide +kernel
theorem dX11_sumAt_26 : decode cX11_sumAt 26 = .ok (.iload_n 1, 1) := by decide +kernel
theorem dX11_sumAt_27 : decode cX11_sumAt 27 = .ok (.iload 5, 2) := by decide +kernel
theorem dX11_sumAt_29 : decode cX11_sumAt 29 = .ok (.ishr, 1) := by decide +kernel
theorem dX11_sumAt_30 : decode cX11_sumAt 30 = .ok (.iconst 1, 1) := by decide +kernel
theorem dX11_sumAt_31 : decode cX11_sumAt 31 = .ok (.iand, 1) := by decide +kernel
theorem dX11_sumAt_32 : decode cX11_sumAt 32 = .ok (.iconst 1, 1) := by decide +kernel
theorem dX11_sumAt_33 : decode cX11_sumAt 33 = .ok (.if_icmp .ne 35, 3) := by decide +kernel
theorem dX11_sumAt_36 : decode cX11_sumAt 36 = .ok (.aload_n 0, 1) := by decide +kernel
theorem dX11_sumAt_37 : decode cX11_sumAt 37 = .ok (.getfield 101, 3) := by decide +kernel
theorem dX11_sumAt_40 : decode cX11_sumAt 40 = .ok (.bipush 6, 2) := by decide +kernel
theorem dX11_sumAt_42 : decode cX11_sumAt 42 = .ok (.iload_n 3, 1) := by decide +kernel
theorem dX11_sumAt_43 : decode cX11_sumAt 43 = .ok (.imul, 1) := by decide +kernel
theorem dX11_sumAt_44 : decode cX11_sumAt 44 = .ok (.iload 5, 2) := by decide +kernel
theorem dX11_sumAt_46 : decode cX11_sumAt 46 = .ok (.iadd, 1) := by decide +kernel
theorem dX11_sumAt_47 : decode cX11_sumAt 47 = .ok (.iaload, 1) := by decide +kernel
theorem dX11_sumAt_48 : decode cX11_sumAt 48 = .ok (.iload 4, 2) := by decide +kernel
theorem dX11_sumAt_50 : decode cX11_sumAt 50 = .ok (.if_icmp .ge 18, 3) := by decide +kernel
theorem dX11_sumAt_53 : decode cX11_sumAt 53 = .ok (.aload_n 0, 1) := by decide +kernel
theorem dX11_sumAt_54 : decode cX11_sumAt 54 = .ok (.getfield 101, 3) := by decide +kernel
theorem dX11_sumAt_57 : decode cX11_sumAt 57 = .ok (.bipush 6, 2) := by decide +kernel
theorem dX11_sumAt_59 : decode cX11_sumAt 59 = .ok (.iload_n 3, 1) := by decide +kernel
theorem dX11_sumAt_60 : decode cX11_sumAt 60 = .ok (.imul, 1) := by decide +kernel
theorem dX11_sumAt_61 : decode cX11_sumAt 61 = .ok (.iload 5, 2) := by decide +kernel
theorem dX11_sumAt_63 : decode cX11_sumAt 63 = .ok (.iadd, 1) := by decide +kernel
theorem dX11_sumAt_64 : decode cX11_sumAt 64 = .ok (.iaload, 1) := by decide +kernel
theorem dX11_sumAt_65 : decode cX11_sumAt 65 = .ok (.goto 5, 3) := by decide +kernel
theorem dX11_sumAt_68 : decode cX11_sumAt 68 = .ok (.iload 4, 2) := by decide +kernel
theorem dX11_sumAt_70 : decode cX11_sumAt 70 = .ok (.istore 4, 2) := by decide +kernel
theorem dX11_sumAt_72 : decode cX11_sumAt 72 = .ok (.iinc 5 1, 3) := by decide +kernel
theorem dX11_sumAt_75 : decode cX11_sumAt 75 = .ok (.goto (-56), 3) := by decide +kernel
theorem dX11_sumAt_78 : decode cX11_sumAt 78 = .ok (.iload_n 2, 1) := by decide +kernel
theorem dX11_sumAt_79 : decode cX11_sumAt 79 = .ok (.iload 4, 2) := by decide +kernel
theorem dX11_sumAt_81 : decode cX11_sumAt 81 = .ok (.iadd, 1) := by decide +kernel
theorem dX11_sumAt_82 : decode cX11_sumAt 82 = .ok (.istore_n 2, 1) := by decide +kernel
theorem dX11_sumAt_83 : decode cX11_sumAt 83 = .ok (.iinc 3 1, 3) := by decide +kernel
theorem dX11_sumAt_86 : decode cX11_sumAt 86 = .ok (.goto (-82), 3) := by decide +kernel
theorem dX11_sumAt_89 : decode cX11_sumAt 89 = .ok (.iload_n 2, 1) := by decide +kernel
theorem dX11_sumAt_90 : decode cX11_sumAt 90 = .ok (.ireturn, 1) := by decide +kernel
theorem dX11_posts_0 : decode cX11_posts 0 = .ok (.iload_n 1, 1) := by decide +kernel
theorem dX11_posts_1 : decode cX11_posts 1 = .ok (.i2l, 1) := by decide +kernel
theorem dX11_posts_2 : decode cX11_posts 2 = .ok (.lconst 1, 1) := by decide +kernel
theorem dX11_posts_3 : decode cX11_posts 3 = .ok (.ldc2_w 216, 3) := by decide +kernel
theorem dX11_posts_6 : decode cX11_posts 6 = .ok (.invokestatic 120, 3) := by decide +kernel
theorem dX11_posts_9 : decode cX11_posts 9 = .ok (.ifCond .eq 13, 3) := by decide +kernel
theorem dX11_posts_12 : decode cX11_posts 12 = .ok (.iload_n 2, 1) := by decide +kernel
theorem dX11_posts_13 : decode cX11_posts 13 = .ok (.i2l, 1) := by decide +kernel
theorem dX11_posts_14 : decode cX11_posts 14 = .ok (.lconst 0, 1) := by decide +kernel
theorem dX11_posts_15 : decode cX11_posts 15 = .ok (.lconst 1, 1) := by decide +kernel
theorem dX11_posts_16 : decode cX11_posts 16 = .ok (.invokestatic 120, 3) := by decide +kernel
theorem dX11_posts_19 : decode cX11_posts 19 = .ok (.ifCond .ne 5, 3) := by decide +kernel
theorem dX11_posts_22 : decode cX11_posts 22 = .ok (.iconst (-1), 1) := by decide +kernel
theorem dX11_posts_23 : decode cX11_posts 23 = .ok (.ireturn, 1) := by decide +kernel
theorem dX11_posts_24 : decode cX11_posts 24 = .ok (.aload_n 0, 1) := by decide +kernel
theorem dX11_posts_25 : decode cX11_posts 25 = .ok (.invokevirtual 241, 3) := by decide +kernel
theorem dX11_posts_28 : decode cX11_posts 28 = .ok (.iconst 0, 1) := by decide +kernel
theorem dX11_posts_29 : decode cX11_posts 29 = .ok (.istore_n 3, 1) := by decide +kernel
theorem dX11_posts_30 : decode cX11_posts 30 = .ok (.iload_n 3, 1) := by decide +kernel
theorem dX11_posts_31 : decode cX11_posts 31 = .ok (.bipush 48, 2) := by decide +kernel
theorem dX11_posts_33 : decode cX11_posts 33 = .ok (.if_icmp .ge 17, 3) := by decide +kernel
theorem dX11_posts_36 : decode cX11_posts 36 = .ok (.aload_n 0, 1) := by decide +kernel
theorem dX11_posts_37 : decode cX11_posts 37 = .ok (.getfield 101, 3) := by decide +kernel
theorem dX11_posts_40 : decode cX11_posts 40 = .ok (.iload_n 3, 1) := by decide +kernel
theorem dX11_posts_41 : decode cX11_posts 41 = .ok (.bipush 24, 2) := by decide +kernel
theorem dX11_posts_43 : decode cX11_posts 43 = .ok (.iastore, 1) := by decide +kernel
theorem dX11_posts_44 : decode cX11_posts 44 = .ok (.iinc 3 1, 3) := by decide +kernel
theorem dX11_posts_47 : decode cX11_posts 47 = .ok (.goto (-17), 3) := by decide +kernel
theorem dX11_posts_50 : decode cX11_posts 50 = .ok (.iconst 0, 1) := by decide +kernel
theorem dX11_posts_51 : decode cX11_posts 51 = .ok (.istore_n 3, 1) := by decide +kernel
theorem dX11_posts_52 : decode cX11_posts 52 = .ok (.iload_n 3, 1) := by decide +kernel
theorem dX11_posts_53 : decode cX11_posts 53 = .ok (.bipush 24, 2) := by decide +kernel
theorem dX11_posts_55 : decode cX11_posts 55 = .ok (.if_icmp .ge 106, 3) := by decide +kernel
theorem dX11_posts_58 : decode cX11_posts 58 = .ok (.iconst 0, 1) := by decide +kernel
theorem dX11_posts_59 : decode cX11_posts 59 = .ok (.istore 4, 2) := by decide +kernel
theorem dX11_posts_61 : decode cX11_posts 61 = .ok (.iload 4, 2) := by decide +kernel
theorem dX11_posts_63 : decode cX11_posts 63 = .ok (.aload_n 0, 1) := by decide +kernel
theorem dX11_posts_64 : decode cX11_posts 64 = .ok (.getfield 157, 3) := by decide +kernel
theorem dX11_posts_67 : decode cX11_posts 67 = .ok (.if_icmp .ge 84, 3) := by decide +kernel
theorem dX11_posts_70 : decode cX11_posts 70 = .ok (.iconst 0, 1) := by decide +kernel
theorem dX11_posts_71 : decode cX11_posts 71 = .ok (.istore 5, 2) := by decide +kernel
theorem dX11_posts_73 : decode cX11_posts 73 = .ok (.iload 5, 2) := by decide +kernel
theorem dX11_posts_75 : decode cX11_posts 75 = .ok (.bipush 6, 2) := by decide +kernel
theorem dX11_posts_77 : decode cX11_posts 77 = .ok (.if_icmp .ge 68, 3) := by decide +kernel
theorem dX11_posts_80 : decode cX11_posts 80 = .ok (.aload_n 0, 1) := by decide +kernel
theorem dX11_posts_81 : decode cX11_posts 81 = .ok (.getfield 101, 3) := by decide +kernel
theorem dX11_posts_84 : decode cX11_posts 84 = .ok (.bipush 6, 2) := by decide +kernel
theorem dX11_posts_86 : decode cX11_posts 86 = .ok (.iload 4, 2) := by decide +kernel
theorem dX11_posts_88 : decode cX11_posts 88 = .ok (.imul, 1) := by decide +kernel
theorem dX11_posts_89 : decode cX11_posts 89 = .ok (.iload 5, 2) := by decide +kernel
theorem dX11_posts_91 : decode cX11_posts 91 = .ok (.iadd, 1) := by decide +kernel
theorem dX11_posts_92 : decode cX11_posts 92 = .ok (.aload_n 0, 1) := by decide +kernel
theorem dX11_posts_93 : decode cX11_posts 93 = .ok (.getfield 101, 3) := by decide +kernel
theorem dX11_posts_96 : decode cX11_posts 96 = .ok (.bipush 6, 2) := by decide +kernel
theorem dX11_posts_98 : decode cX11_posts 98 = .ok (.iload 4, 2) := by decide +kernel
theorem dX11_posts_100 : decode cX11_posts 100 = .ok (.imul, 1) := by decide +kernel
theorem dX11_posts_101 : decode cX11_posts 101 = .ok (.iload 5, 2) := by decide +kernel
theorem dX11_posts_103 : decode cX11_posts 103 = .ok (.iadd, 1) := by decide +kernel
theorem dX11_posts_104 : decode cX11_posts 104 = .ok (.iaload, 1) := by decide +kernel
theorem dX11_posts_105 : decode cX11_posts 105 = .ok (.bipush 24, 2) := by decide +kernel
theorem dX11_posts_107 : decode cX11_posts 107 = .ok (.if_icmp .ne 18, 3) := by decide +kernel
theorem dX11_posts_110 : decode cX11_posts 110 = .ok (.aload_n 0, 1) := by decide +kernel
theorem dX11_posts_111 : decode cX11_posts 111 = .ok (.iload 4, 2) := by decide +kernel
theorem dX11_posts_113 : decode cX11_posts 113 = .ok (.iload 5, 2) := by decide +kernel
theorem dX11_posts_115 : decode cX11_posts 115 = .ok (.invokevirtual 326, 3) := by decide +kernel
theorem dX11_posts_118 : decode cX11_posts 118 = .ok (.ifCond .eq 7, 3) := by decide +kernel
theorem dX11_posts_121 : decode cX11_posts 121 = .ok (.iload_n 3, 1) := by decide +kernel
theorem dX11_posts_122 : decode cX11_posts 122 = .ok (.goto 16, 3) := by decide +kernel
theorem dX11_posts_125 : decode cX11_posts 125 = .ok (.aload_n 0, 1) := by decide +kernel
theorem dX11_posts_126 : decode cX11_posts 126 = .ok (.getfield 101, 3) := by decide +kernel
theorem dX11_posts_129 : decode cX11_posts 129 = .ok (.bipush 6, 2) := by decide +kernel
theorem dX11_posts_131 : decode cX11_posts 131 = .ok (.iload 4, 2) := by decide +kernel
theorem dX11_posts_133 : decode cX11_posts 133 = .ok (.imul, 1) := by decide +kernel
theorem dX11_posts_134 : decode cX11_posts 134 = .ok (.iload 5, 2) := by decide +kernel
theorem dX11_posts_136 : decode cX11_posts 136 = .ok (.iadd, 1) := by decide +kernel
theorem dX11_posts_137 : decode cX11_posts 137 = .ok (.iaload, 1) := by decide +kernel
theorem dX11_posts_138 : decode cX11_posts 138 = .ok (.iastore, 1) := by decide +kernel
theorem dX11_posts_139 : decode cX11_posts 139 = .ok (.iinc 5 1, 3) := by decide +kernel
theorem dX11_posts_142 : decode cX11_posts 142 = .ok (.goto (-69), 3) := by decide +kernel
theorem dX11_posts_145 : decode cX11_posts 145 = .ok (.iinc 4 1, 3) := by decide +kernel
theorem dX11_posts_148 : decode cX11_posts 148 = .ok (.goto (-87), 3) := by decide +kernel
theorem dX11_posts_151 : decode cX11_posts 151 = .ok (.aload_n 0, 1) := by decide +kernel
theorem dX11_posts_152 : decode cX11_posts 152 = .ok (.invokevirtual 213, 3) := by decide +kernel
theorem dX11_posts_155 : decode cX11_posts 155 = .ok (.iinc 3 1, 3) := by decide +kernel
theorem dX11_posts_158 : decode cX11_posts 158 = .ok (.goto (-106), 3) := by decide +kernel
theorem dX11_posts_161 : decode cX11_posts 161 = .ok (.aload_n 0, 1) := by decide +kernel
theorem dX11_posts_162 : decode cX11_posts 162 = .ok (.invokevirtual 244, 3) := by decide +kernel
theorem dX11_posts_165 : decode cX11_posts 165 = .ok (.bipush (-4), 2) := by decide +kernel
theorem dX11_posts_167 : decode cX11_posts 167 = .ok (.istore_n 3, 1) := by decide +kernel
theorem dX11_posts_168 : decode cX11_posts 168 = .ok (.iconst 0, 1) := by decide +kernel
theorem dX11_posts_169 : decode cX11_posts 169 = .ok (.istore 4, 2) := by decide +kernel
theorem dX11_posts_171 : decode cX11_posts 171 = .ok (.iconst 0, 1) := by decide +kernel
theorem dX11_posts_172 : decode cX11_posts 172 = .ok (.istore 5, 2) := by decide +kernel
theorem dX11_posts_174 : decode cX11_posts 174 = .ok (.iload 5, 2) := by decide +kernel
theorem dX11_posts_176 : decode cX11_posts 176 = .ok (.bipush 64, 2) := by decide +kernel
theorem dX11_posts_178 : decode cX11_posts 178 = .ok (.if_icmp .ge 44, 3) := by decide +kernel
theorem dX11_posts_181 : decode cX11_posts 181 = .ok (.iload 5, 2) := by decide +kernel
theorem dX11_posts_183 : decode cX11_posts 183 = .ok (.invokestatic 251, 3) := by decide +kernel
theorem dX11_posts_186 : decode cX11_posts 186 = .ok (.iload_n 1, 1) := by decide +kernel
theorem dX11_posts_187 : decode cX11_posts 187 = .ok (.if_icmp .ne 29, 3) := by decide +kernel
theorem dX11_posts_190 : decode cX11_posts 190 = .ok (.iload_n 3, 1) := by decide +kernel
theorem dX11_posts_191 : decode cX11_posts 191 = .ok (.ifCond .lt 14, 3) := by decide +kernel
theorem dX11_posts_194 : decode cX11_posts 194 = .ok (.aload_n 0, 1) := by decide +kernel
theorem dX11_posts_195 : decode cX11_posts 195 = .ok (.iload 5, 2) := by decide +kernel
theorem dX11_posts_197 : decode cX11_posts 197 = .ok (.invokevirtual 336, 3) := by decide +kernel
theorem dX11_posts_200 : decode cX11_posts 200 = .ok (.iload 4, 2) := by decide +kernel
theorem dX11_posts_202 : decode cX11_posts 202 = .ok (.if_icmp .ge 14, 3) := by decide +kernel
theorem dX11_posts_205 : decode cX11_posts 205 = .ok (.iload 5, 2) := by decide +kernel
theorem dX11_posts_207 : decode cX11_posts 207 = .ok (.istore_n 3, 1) := by decide +kernel
theorem dX11_posts_208 : decode cX11_posts 208 = .ok (.aload_n 0, 1) := by decide +kernel
theorem dX11_posts_209 : decode cX11_posts 209 = .ok (.iload 5, 2) := by decide +kernel
theorem dX11_posts_211 : decode cX11_posts 211 = .ok (.invokevirtual 336, 3) := by decide +kernel
theorem dX11_posts_214 : decode cX11_posts 214 = .ok (.istore 4, 2) := by decide +kernel
theorem dX11_posts_216 : decode cX11_posts 216 = .ok (.iinc 5 1, 3) := by decide +kernel
theorem dX11_posts_219 : decode cX11_posts 219 = .ok (.goto (-45), 3) := by decide +kernel
theorem dX11_posts_222 : decode cX11_posts 222 = .ok (.iload_n 2, 1) := by decide +kernel
theorem dX11_posts_223 : decode cX11_posts 223 = .ok (.ifCond .ne 7, 3) := by decide +kernel
theorem dX11_posts_226 : decode cX11_posts 226 = .ok (.iload_n 3, 1) := by decide +kernel
theorem dX11_posts_227 : decode cX11_posts 227 = .ok (.goto 5, 3) := by decide +kernel
theorem dX11_posts_230 : decode cX11_posts 230 = .ok (.iload 4, 2) := by decide +kernel
theorem dX11_posts_232 : decode cX11_posts 232 = .ok (.ireturn, 1) := by decide +kernel
theorem dX11_check_0 : decode cX11_check 0 = .ok (.aload_n 0, 1) := by decide +kernel
theorem dX11_check_1 : decode cX11_check 1 = .ok (.iload_n 1, 1) := by decide +kernel
theorem dX11_check_2 : decode cX11_check 2 = .ok (.invokevirtual 174, 3) := by decide +kernel
theorem dX11_check_5 : decode cX11_check 5 = .ok (.ifCond .eq 35, 3) := by decide +kernel
theorem dX11_check_8 : decode cX11_check 8 = .ok (.iload_n 2, 1) := by decide +kernel
theorem dX11_check_9 : decode cX11_check 9 = .ok (.i2l, 1) := by decide +kernel
theorem dX11_check_10 : decode cX11_check 10 = .ok (.lconst 0, 1) := by decide +kernel
theorem dX11_check_11 : decode cX11_check 11 = .ok (.ldc2_w 254, 3) := by decide +kernel
theorem dX11_check_14 : decode cX11_check 14 = .ok (.invokestatic 120, 3) := by decide +kernel
theorem dX11_check_17 : decode cX11_check 17 = .ok (.ifCond .eq 23, 3) := by decide +kernel
theorem dX11_check_20 : decode cX11_check 20 = .ok (.iload_n 3, 1) := by decide +kernel
theorem dX11_check_21 : decode cX11_check 21 = .ok (.invokestatic 339, 3) := by decide +kernel
theorem dX11_check_24 : decode cX11_check 24 = .ok (.ifCond .eq 16, 3) := by decide +kernel
theorem dX11_check_27 : decode cX11_check 27 = .ok (.iload 4, 2) := by decide +kernel
theorem dX11_check_29 : decode cX11_check 29 = .ok (.i2l, 1) := by decide +kernel
theorem dX11_check_30 : decode cX11_check 30 = .ok (.lconst 1, 1) := by decide +kernel
theorem dX11_check_31 : decode cX11_check 31 = .ok (.ldc2_w 230, 3) := by decide +kernel
theorem dX11_check_34 : decode cX11_check 34 = .ok (.invokestatic 120, 3) := by decide +kernel
theorem dX11_check_37 : decode cX11_check 37 = .ok (.ifCond .ne 5, 3) := by decide +kernel
theorem dX11_check_40 : decode cX11_check 40 = .ok (.iconst (-1), 1) := by decide +kernel
theorem dX11_check_41 : decode cX11_check 41 = .ok (.ireturn, 1) := by decide +kernel
theorem dX11_check_42 : decode cX11_check 42 = .ok (.aload_n 0, 1) := by decide +kernel
theorem dX11_check_43 : decode cX11_check 43 = .ok (.iload_n 3, 1) := by decide +kernel
theorem dX11_check_44 : decode cX11_check 44 = .ok (.iload 4, 2) := by decide +kernel
theorem dX11_check_46 : decode cX11_check 46 = .ok (.iload 5, 2) := by decide +kernel
theorem dX11_check_48 : decode cX11_check 48 = .ok (.aload_n 0, 1) := by decide +kernel
theorem dX11_check_49 : decode cX11_check 49 = .ok (.getfield 116, 3) := by decide +kernel
theorem dX11_check_52 : decode cX11_check 52 = .ok (.invokevirtual 342, 3) := by decide +kernel
theorem dX11_check_55 : decode cX11_check 55 = .ok (.istore 6, 2) := by decide +kernel
theorem dX11_check_57 : decode cX11_check 57 = .ok (.iload 6, 2) := by decide +kernel
theorem dX11_check_59 : decode cX11_check 59 = .ok (.ifCond .ge 6, 3) := by decide +kernel
theorem dX11_check_62 : decode cX11_check 62 = .ok (.iload 6, 2) := by decide +kernel
theorem dX11_check_64 : decode cX11_check 64 = .ok (.ireturn, 1) := by decide +kernel
theorem dX11_check_65 : decode cX11_check 65 = .ok (.aload_n 0, 1) := by decide +kernel
theorem dX11_check_66 : decode cX11_check 66 = .ok (.invokevirtual 241, 3) := by decide +kernel
theorem dX11_check_69 : decode cX11_check 69 = .ok (.iconst 0, 1) := by decide +kernel
theorem dX11_check_70 : decode cX11_check 70 = .ok (.istore 7, 2) := by decide +kernel
theorem dX11_check_72 : decode cX11_check 72 = .ok (.iload 7, 2) := by decide +kernel
theorem dX11_check_74 : decode cX11_check 74 = .ok (.iload_n 2, 1) := by decide +kernel
theorem dX11_check_75 : decode cX11_check 75 = .ok (.if_icmp .ge 13, 3) := by decide +kernel
theorem dX11_check_78 : decode cX11_check 78 = .ok (.aload_n 0, 1) := by decide +kernel
theorem dX11_check_79 : decode cX11_check 79 = .ok (.invokevirtual 213, 3) := by decide +kernel
theorem dX11_check_82 : decode cX11_check 82 = .ok (.iinc 7 1, 3) := by decide +kernel
theorem dX11_check_85 : decode cX11_check 85 = .ok (.goto (-13), 3) := by decide +kernel
theorem dX11_check_88 : decode cX11_check 88 = .ok (.bipush (-4), 2) := by decide +kernel
theorem dX11_check_90 : decode cX11_check 90 = .ok (.istore 7, 2) := by decide +kernel
theorem dX11_check_92 : decode cX11_check 92 = .ok (.aload_n 0, 1) := by decide +kernel
theorem dX11_check_93 : decode cX11_check 93 = .ok (.getfield 116, 3) := by decide +kernel
theorem dX11_check_96 : decode cX11_check 96 = .ok (.iconst 1, 1) := by decide +kernel
theorem dX11_check_97 : decode cX11_check 97 = .ok (.isub, 1) := by decide +kernel
theorem dX11_check_98 : decode cX11_check 98 = .ok (.istore 8, 2) := by decide +kernel
theorem dX11_check_100 : decode cX11_check 100 = .ok (.iload 8, 2) := by decide +kernel
theorem dX11_check_102 : decode cX11_check 102 = .ok (.ifCond .lt 48, 3) := by decide +kernel
theorem dX11_check_105 : decode cX11_check 105 = .ok (.aload_n 0, 1) := by decide +kernel
theorem dX11_check_106 : decode cX11_check 106 = .ok (.getfield 38, 3) := by decide +kernel
theorem dX11_check_109 : decode cX11_check 109 = .ok (.bipush 8, 2) := by decide +kernel
theorem dX11_check_111 : decode cX11_check 111 = .ok (.iload 8, 2) := by decide +kernel
theorem dX11_check_113 : decode cX11_check 113 = .ok (.imul, 1) := by decide +kernel
theorem dX11_check_114 : decode cX11_check 114 = .ok (.iload_n 1, 1) := by decide +kernel
theorem dX11_check_115 : decode cX11_check 115 = .ok (.iadd, 1) := by decide +kernel
theorem dX11_check_116 : decode cX11_check 116 = .ok (.iaload, 1) := by decide +kernel
theorem dX11_check_117 : decode cX11_check 117 = .ok (.aload_n 0, 1) := by decide +kernel
theorem dX11_check_118 : decode cX11_check 118 = .ok (.getfield 110, 3) := by decide +kernel
theorem dX11_check_121 : decode cX11_check 121 = .ok (.bipush 32, 2) := by decide +kernel
theorem dX11_check_123 : decode cX11_check 123 = .ok (.iload_n 3, 1) := by decide +kernel
theorem dX11_check_124 : decode cX11_check 124 = .ok (.imul, 1) := by decide +kernel
theorem dX11_check_125 : decode cX11_check 125 = .ok (.iload 5, 2) := by decide +kernel
theorem dX11_check_127 : decode cX11_check 127 = .ok (.iadd, 1) := by decide +kernel
theorem dX11_check_128 : decode cX11_check 128 = .ok (.iload 8, 2) := by decide +kernel
theorem dX11_check_130 : decode cX11_check 130 = .ok (.iadd, 1) := by decide +kernel
theorem dX11_check_131 : decode cX11_check 131 = .ok (.iaload, 1) := by decide +kernel
theorem dX11_check_132 : decode cX11_check 132 = .ok (.if_icmp .ne 8, 3) := by decide +kernel
theorem dX11_check_135 : decode cX11_check 135 = .ok (.iload 7, 2) := by decide +kernel
theorem dX11_check_137 : decode cX11_check 137 = .ok (.goto 5, 3) := by decide +kernel
theorem dX11_check_140 : decode cX11_check 140 = .ok (.iload 8, 2) := by decide +kernel
theorem dX11_check_142 : decode cX11_check 142 = .ok (.istore 7, 2) := by decide +kernel
theorem dX11_check_144 : decode cX11_check 144 = .ok (.iinc 8 (-1), 3) := by decide +kernel
theorem dX11_check_147 : decode cX11_check 147 = .ok (.goto (-47), 3) := by decide +kernel
theorem dX11_check_150 : decode cX11_check 150 = .ok (.aload_n 0, 1) := by decide +kernel
theorem dX11_check_151 : decode cX11_check 151 = .ok (.invokevirtual 244, 3) := by decide +kernel
theorem dX11_check_154 : decode cX11_check 154 = .ok (.iload 7, 2) := by decide +kernel
theorem dX11_check_156 : decode cX11_check 156 = .ok (.ireturn, 1) := by decide +kernel
theorem dX11_isSheet_0 : decode cX11_isSheet 0 = .ok (.iload_n 0, 1) := by decide +kernel
theorem dX11_isSheet_1 : decode cX11_isSheet 1 = .ok (.i2l, 1) := by decide +kernel
theorem dX11_isSheet_2 : decode cX11_isSheet 2 = .ok (.lconst 0, 1) := by decide +kernel
theorem dX11_isSheet_3 : decode cX11_isSheet 3 = .ok (.ldc2_w 216, 3) := by decide +kernel
theorem dX11_isSheet_6 : decode cX11_isSheet 6 = .ok (.invokestatic 120, 3) := by decide +kernel
theorem dX11_isSheet_9 : decode cX11_isSheet 9 = .ok (.ireturn, 1) := by decide +kernel
theorem dX11_isLane_0 : decode cX11_isLane 0 = .ok (.iload_n 0, 1) := by decide +kernel
theorem dX11_isLane_1 : decode cX11_isLane 1 = .ok (.i2l, 1) := by decide +kernel
theorem dX11_isLane_2 : decode cX11_isLane 2 = .ok (.lconst 0, 1) := by decide +kernel
theorem dX11_isLane_3 : decode cX11_isLane 3 = .ok (.ldc2_w 230, 3) := by decide +kernel
theorem dX11_isLane_6 : decode cX11_isLane 6 = .ok (.invokestatic 120, 3) := by decide +kernel
theorem dX11_isLane_9 : decode cX11_isLane 9 = .ok (.ireturn, 1) := by decide +kernel
theorem dX11_finds_0 : decode cX11_finds 0 = .ok (.aload_n 0, 1) := by decide +kernel
theorem dX11_finds_1 : decode cX11_finds 1 = .ok (.getfield 104, 3) := by decide +kernel
theorem dX11_finds_4 : decode cX11_finds 4 = .ok (.iload_n 1, 1) := by decide +kernel
theorem dX11_finds_5 : decode cX11_finds 5 = .ok (.iaload, 1) := by decide +kernel
theorem dX11_finds_6 : decode cX11_finds 6 = .ok (.ifCond .ge 6, 3) := by decide +kernel
theorem dX11_finds_9 : decode cX11_finds 9 = .ok (.bipush (-11), 2) := by decide +kernel
theorem dX11_finds_11 : decode cX11_finds 11 = .ok (.ireturn, 1) := by decide +kernel
theorem dX11_finds_12 : decode cX11_finds 12 = .ok (.aload_n 0, 1) := by decide +kernel
theorem dX11_finds_13 : decode cX11_finds 13 = .ok (.getfield 104, 3) := by decide +kernel
theorem dX11_finds_16 : decode cX11_finds 16 = .ok (.iload_n 1, 1) := by decide +kernel
theorem dX11_finds_17 : decode cX11_finds 17 = .ok (.iaload, 1) := by decide +kernel
theorem dX11_finds_18 : decode cX11_finds 18 = .ok (.iload_n 2, 1) := by decide +kernel
theorem dX11_finds_19 : decode cX11_finds 19 = .ok (.if_icmp .eq 6, 3) := by decide +kernel
theorem dX11_finds_22 : decode cX11_finds 22 = .ok (.bipush (-12), 2) := by decide +kernel
theorem dX11_finds_24 : decode cX11_finds 24 = .ok (.ireturn, 1) := by decide +kernel
theorem dX11_finds_25 : decode cX11_finds 25 = .ok (.iload_n 3, 1) := by decide +kernel
theorem dX11_finds_26 : decode cX11_finds 26 = .ok (.ifCond .lt 20, 3) := by decide +kernel
theorem dX11_finds_29 : decode cX11_finds 29 = .ok (.iload_n 3, 1) := by decide +kernel
theorem dX11_finds_30 : decode cX11_finds 30 = .ok (.i2l, 1) := by decide +kernel
theorem dX11_finds_31 : decode cX11_finds 31 = .ok (.iload 4, 2) := by decide +kernel
theorem dX11_finds_33 : decode cX11_finds 33 = .ok (.i2l, 1) := by decide +kernel
theorem dX11_finds_34 : decode cX11_finds 34 = .ok (.ladd, 1) := by decide +kernel
theorem dX11_finds_35 : decode cX11_finds 35 = .ok (.aload_n 0, 1) := by decide +kernel
theorem dX11_finds_36 : decode cX11_finds 36 = .ok (.getfield 107, 3) := by decide +kernel
theorem dX11_finds_39 : decode cX11_finds 39 = .ok (.iload_n 1, 1) := by decide +kernel
theorem dX11_finds_40 : decode cX11_finds 40 = .ok (.iaload, 1) := by decide +kernel
theorem dX11_finds_41 : decode cX11_finds 41 = .ok (.i2l, 1) := by decide +kernel
theorem dX11_finds_42 : decode cX11_finds 42 = .ok (.lcmp, 1) := by decide +kernel
theorem dX11_finds_43 : decode cX11_finds 43 = .ok (.ifCond .le 8, 3) := by decide +kernel
theorem dX11_finds_46 : decode cX11_finds 46 = .ok (.bipush (-13), 2) := by decide +kernel
theorem dX11_finds_48 : decode cX11_finds 48 = .ok (.goto 4, 3) := by decide +kernel
theorem dX11_finds_51 : decode cX11_finds 51 = .ok (.iconst 0, 1) := by decide +kernel
theorem dX11_finds_52 : decode cX11_finds 52 = .ok (.ireturn, 1) := by decide +kernel
theorem dX11_sheet_0 : decode cX11_sheet 0 = .ok (.iload_n 1, 1) := by decide +kernel
theorem dX11_sheet_1 : decode cX11_sheet 1 = .ok (.invokestatic 339, 3) := by decide +kernel
theorem dX11_sheet_4 : decode cX11_sheet 4 = .ok (.ifCond .eq 16, 3) := by decide +kernel
theorem dX11_sheet_7 : decode cX11_sheet 7 = .ok (.iload_n 2, 1) := by decide +kernel
theorem dX11_sheet_8 : decode cX11_sheet 8 = .ok (.invokestatic 346, 3) := by decide +kernel
theorem dX11_sheet_11 : decode cX11_sheet 11 = .ok (.ifCond .eq 9, 3) := by decide +kernel
theorem dX11_sheet_14 : decode cX11_sheet 14 = .ok (.iload_n 3, 1) := by decide +kernel
theorem dX11_sheet_15 : decode cX11_sheet 15 = .ok (.bipush 32, 2) := by decide +kernel
theorem dX11_sheet_17 : decode cX11_sheet 17 = .ok (.if_icmp .le 5, 3) := by decide +kernel
theorem dX11_sheet_20 : decode cX11_sheet 20 = .ok (.iconst (-1), 1) := by decide +kernel
theorem dX11_sheet_21 : decode cX11_sheet 21 = .ok (.ireturn, 1) := by decide +kernel
theorem dX11_sheet_22 : decode cX11_sheet 22 = .ok (.iload_n 3, 1) := by decide +kernel
theorem dX11_sheet_23 : decode cX11_sheet 23 = .ok (.ifCond .ge 6, 3) := by decide +kernel
theorem dX11_sheet_26 : decode cX11_sheet 26 = .ok (.bipush (-14), 2) := by decide +kernel
theorem dX11_sheet_28 : decode cX11_sheet 28 = .ok (.ireturn, 1) := by decide +kernel
theorem dX11_sheet_29 : decode cX11_sheet 29 = .ok (.aload_n 0, 1) := by decide +kernel
theorem dX11_sheet_30 : decode cX11_sheet 30 = .ok (.getfield 104, 3) := by decide +kernel
theorem dX11_sheet_33 : decode cX11_sheet 33 = .ok (.iload_n 1, 1) := by decide +kernel
theorem dX11_sheet_34 : decode cX11_sheet 34 = .ok (.iload_n 2, 1) := by decide +kernel
theorem dX11_sheet_35 : decode cX11_sheet 35 = .ok (.iastore, 1) := by decide +kernel
theorem dX11_sheet_36 : decode cX11_sheet 36 = .ok (.aload_n 0, 1) := by decide +kernel
theorem dX11_sheet_37 : decode cX11_sheet 37 = .ok (.getfield 107, 3) := by decide +kernel
theorem dX11_sheet_40 : decode cX11_sheet 40 = .ok (.iload_n 1, 1) := by decide +kernel
theorem dX11_sheet_41 : decode cX11_sheet 41 = .ok (.iload_n 3, 1) := by decide +kernel
theorem dX11_sheet_42 : decode cX11_sheet 42 = .ok (.iastore, 1) := by decide +kernel
theorem dX11_sheet_43 : decode cX11_sheet 43 = .ok (.iconst 0, 1) := by decide +kernel
theorem dX11_sheet_44 : decode cX11_sheet 44 = .ok (.istore 4, 2) := by decide +kernel
theorem dX11_sheet_46 : decode cX11_sheet 46 = .ok (.iload 4, 2) := by decide +kernel
theorem dX11_sheet_48 : decode cX11_sheet 48 = .ok (.bipush 32, 2) := by decide +kernel
theorem dX11_sheet_50 : decode cX11_sheet 50 = .ok (.if_icmp .ge 22, 3) := by decide +kernel
theorem dX11_sheet_53 : decode cX11_sheet 53 = .ok (.aload_n 0, 1) := by decide +kernel
theorem dX11_sheet_54 : decode cX11_sheet 54 = .ok (.getfield 110, 3) := by decide +kernel
theorem dX11_sheet_57 : decode cX11_sheet 57 = .ok (.bipush 32, 2) := by decide +kernel
theorem dX11_sheet_59 : decode cX11_sheet 59 = .ok (.iload_n 1, 1) := by decide +kernel
theorem dX11_sheet_60 : decode cX11_sheet 60 = .ok (.imul, 1) := by decide +kernel
theorem dX11_sheet_61 : decode cX11_sheet 61 = .ok (.iload 4, 2) := by decide +kernel
theorem dX11_sheet_63 : decode cX11_sheet 63 = .ok (.iadd, 1) := by decide +kernel
theorem dX11_sheet_64 : decode cX11_sheet 64 = .ok (.iconst 0, 1) := by decide +kernel
theorem dX11_sheet_65 : decode cX11_sheet 65 = .ok (.iastore, 1) := by decide +kernel
theorem dX11_sheet_66 : decode cX11_sheet 66 = .ok (.iinc 4 1, 3) := by decide +kernel
theorem dX11_sheet_69 : decode cX11_sheet 69 = .ok (.goto (-23), 3) := by decide +kernel
theorem dX11_sheet_72 : decode cX11_sheet 72 = .ok (.iload_n 3, 1) := by decide +kernel
theorem dX11_sheet_73 : decode cX11_sheet 73 = .ok (.ireturn, 1) := by decide +kernel
theorem dX11_drop_0 : decode cX11_drop 0 = .ok (.iload_n 1, 1) := by decide +kernel
theorem dX11_drop_1 : decode cX11_drop 1 = .ok (.invokestatic 339, 3) := by decide +kernel
theorem dX11_drop_4 : decode cX11_drop 4 = .ok (.ifCond .ne 5, 3) := by decide +kernel
theorem dX11_drop_7 : decode cX11_drop 7 = .ok (.iconst (-1), 1) := by decide +kernel
theorem dX11_drop_8 : decode cX11_drop 8 = .ok (.ireturn, 1) := by decide +kernel
theorem dX11_drop_9 : decode cX11_drop 9 = .ok (.aload_n 0, 1) := by decide +kernel
theorem dX11_drop_10 : decode cX11_drop 10 = .ok (.getfield 104, 3) := by decide +kernel
theorem dX11_drop_13 : decode cX11_drop 13 = .ok (.iload_n 1, 1) := by decide +kernel
theorem dX11_drop_14 : decode cX11_drop 14 = .ok (.iaload, 1) := by decide +kernel
theorem dX11_drop_15 : decode cX11_drop 15 = .ok (.ifCond .ge 6, 3) := by decide +kernel
theorem dX11_drop_18 : decode cX11_drop 18 = .ok (.bipush (-11), 2) := by decide +kernel
theorem dX11_drop_20 : decode cX11_drop 20 = .ok (.ireturn, 1) := by decide +kernel
theorem dX11_drop_21 : decode cX11_drop 21 = .ok (.aload_n 0, 1) := by decide +kernel
theorem dX11_drop_22 : decode cX11_drop 22 = .ok (.getfield 104, 3) := by decide +kernel
theorem dX11_drop_25 : decode cX11_drop 25 = .ok (.iload_n 1, 1) := by decide +kernel
theorem dX11_drop_26 : decode cX11_drop 26 = .ok (.iconst (-1), 1) := by decide +kernel
theorem dX11_drop_27 : decode cX11_drop 27 = .ok (.iastore, 1) := by decide +kernel
theorem dX11_drop_28 : decode cX11_drop 28 = .ok (.aload_n 0, 1) := by decide +kernel
theorem dX11_drop_29 : decode cX11_drop 29 = .ok (.getfield 107, 3) := by decide +kernel
theorem dX11_drop_32 : decode cX11_drop 32 = .ok (.iload_n 1, 1) := by decide +kernel
theorem dX11_drop_33 : decode cX11_drop 33 = .ok (.iaload, 1) := by decide +kernel
theorem dX11_drop_34 : decode cX11_drop 34 = .ok (.ireturn, 1) := by decide +kernel
theorem dX11_item_0 : decode cX11_item 0 = .ok (.iload_n 1, 1) := by decide +kernel
theorem dX11_item_1 : decode cX11_item 1 = .ok (.invokestatic 339, 3) := by decide +kernel
theorem dX11_item_4 : decode cX11_item 4 = .ok (.ifCond .eq 10, 3) := by decide +kernel
theorem dX11_item_7 : decode cX11_item 7 = .ok (.iload_n 2, 1) := by decide +kernel
theorem dX11_item_8 : decode cX11_item 8 = .ok (.invokestatic 346, 3) := by decide +kernel
theorem dX11_item_11 : decode cX11_item 11 = .ok (.ifCond .ne 5, 3) := by decide +kernel
theorem dX11_item_14 : decode cX11_item 14 = .ok (.iconst (-1), 1) := by decide +kernel
theorem dX11_item_15 : decode cX11_item 15 = .ok (.ireturn, 1) := by decide +kernel
theorem dX11_item_16 : decode cX11_item 16 = .ok (.aload_n 0, 1) := by decide +kernel
theorem dX11_item_17 : decode cX11_item 17 = .ok (.iload_n 1, 1) := by decide +kernel
theorem dX11_item_18 : decode cX11_item 18 = .ok (.iload_n 2, 1) := by decide +kernel
theorem dX11_item_19 : decode cX11_item 19 = .ok (.iload_n 3, 1) := by decide +kernel
theorem dX11_item_20 : decode cX11_item 20 = .ok (.iconst 1, 1) := by decide +kernel
theorem dX11_item_21 : decode cX11_item 21 = .ok (.invokevirtual 342, 3) := by decide +kernel
theorem dX11_item_24 : decode cX11_item 24 = .ok (.istore 5, 2) := by decide +kernel
theorem dX11_item_26 : decode cX11_item 26 = .ok (.iload 5, 2) := by decide +kernel
theorem dX11_item_28 : decode cX11_item 28 = .ok (.ifCond .ge 6, 3) := by decide +kernel
theorem dX11_item_31 : decode cX11_item 31 = .ok (.iload 5, 2) := by decide +kernel
theorem dX11_item_33 : decode cX11_item 33 = .ok (.ireturn, 1) := by decide +kernel
theorem dX11_item_34 : decode cX11_item 34 = .ok (.aload_n 0, 1) := by decide +kernel
theorem dX11_item_35 : decode cX11_item 35 = .ok (.getfield 110, 3) := by decide +kernel
theorem dX11_item_38 : decode cX11_item 38 = .ok (.bipush 32, 2) := by decide +kernel
theorem dX11_item_40 : decode cX11_item 40 = .ok (.iload_n 1, 1) := by decide +kernel
theorem dX11_item_41 : decode cX11_item 41 = .ok (.imul, 1) := by decide +kernel
theorem dX11_item_42 : decode cX11_item 42 = .ok (.iload_n 3, 1) := by decide +kernel
theorem dX11_item_43 : decode cX11_item 43 = .ok (.iadd, 1) := by decide +kernel
theorem dX11_item_44 : decode cX11_item 44 = .ok (.iload_n 2, 1) := by decide +kernel
theorem dX11_item_45 : decode cX11_item 45 = .ok (.ifCond .ne 16, 3) := by decide +kernel
theorem dX11_item_48 : decode cX11_item 48 = .ok (.iload 4, 2) := by decide +kernel
theorem dX11_item_50 : decode cX11_item 50 = .ok (.ifCond .eq 7, 3) := by decide +kernel
theorem dX11_item_53 : decode cX11_item 53 = .ok (.iconst 1, 1) := by decide +kernel
theorem dX11_item_54 : decode cX11_item 54 = .ok (.goto 20, 3) := by decide +kernel
theorem dX11_item_57 : decode cX11_item 57 = .ok (.iconst 0, 1) := by decide +kernel
theorem dX11_item_58 : decode cX11_item 58 = .ok (.goto 16, 3) := by decide +kernel
theorem dX11_item_61 : decode cX11_item 61 = .ok (.iload_n 2, 1) := by decide +kernel
theorem dX11_item_62 : decode cX11_item 62 = .ok (.iconst 1, 1) := by decide +kernel
theorem dX11_item_63 : decode cX11_item 63 = .ok (.if_icmp .ne 9, 3) := by decide +kernel
theorem dX11_item_66 : decode cX11_item 66 = .ok (.iload 4, 2) := by decide +kernel
theorem dX11_item_68 : decode cX11_item 68 = .ok (.i2b, 1) := by decide +kernel
theorem dX11_item_69 : decode cX11_item 69 = .ok (.goto 5, 3) := by decide +kernel
theorem dX11_item_72 : decode cX11_item 72 = .ok (.iload 4, 2) := by decide +kernel
theorem dX11_item_74 : decode cX11_item 74 = .ok (.iastore, 1) := by decide +kernel
theorem dX11_item_75 : decode cX11_item 75 = .ok (.iconst 1, 1) := by decide +kernel
theorem dX11_item_76 : decode cX11_item 76 = .ok (.ireturn, 1) := by decide +kernel
theorem dX11_copy_0 : decode cX11_copy 0 = .ok (.iload_n 1, 1) := by decide +kernel
theorem dX11_copy_1 : decode cX11_copy 1 = .ok (.invokestatic 339, 3) := by decide +kernel
theorem dX11_copy_4 : decode cX11_copy 4 = .ok (.ifCond .eq 10, 3) := by decide +kernel
theorem dX11_copy_7 : decode cX11_copy 7 = .ok (.iload_n 3, 1) := by decide +kernel
theorem dX11_copy_8 : decode cX11_copy 8 = .ok (.invokestatic 339, 3) := by decide +kernel
theorem dX11_copy_11 : decode cX11_copy 11 = .ok (.ifCond .ne 5, 3) := by decide +kernel
theorem dX11_copy_14 : decode cX11_copy 14 = .ok (.iconst (-1), 1) := by decide +kernel
theorem dX11_copy_15 : decode cX11_copy 15 = .ok (.ireturn, 1) := by decide +kernel
theorem dX11_copy_16 : decode cX11_copy 16 = .ok (.aload_n 0, 1) := by decide +kernel
theorem dX11_copy_17 : decode cX11_copy 17 = .ok (.getfield 104, 3) := by decide +kernel
theorem dX11_copy_20 : decode cX11_copy 20 = .ok (.iload_n 1, 1) := by decide +kernel
theorem dX11_copy_21 : decode cX11_copy 21 = .ok (.iaload, 1) := by decide +kernel
theorem dX11_copy_22 : decode cX11_copy 22 = .ok (.ifCond .lt 12, 3) := by decide +kernel
theorem dX11_copy_25 : decode cX11_copy 25 = .ok (.aload_n 0, 1) := by decide +kernel
theorem dX11_copy_26 : decode cX11_copy 26 = .ok (.getfield 104, 3) := by decide +kernel
theorem dX11_copy_29 : decode cX11_copy 29 = .ok (.iload_n 3, 1) := by decide +kernel
theorem dX11_copy_30 : decode cX11_copy 30 = .ok (.iaload, 1) := by decide +kernel
theorem dX11_copy_31 : decode cX11_copy 31 = .ok (.ifCond .ge 6, 3) := by decide +kernel
theorem dX11_copy_34 : decode cX11_copy 34 = .ok (.bipush (-11), 2) := by decide +kernel
theorem dX11_copy_36 : decode cX11_copy 36 = .ok (.ireturn, 1) := by decide +kernel
theorem dX11_copy_37 : decode cX11_copy 37 = .ok (.aload_n 0, 1) := by decide +kernel
theorem dX11_copy_38 : decode cX11_copy 38 = .ok (.getfield 104, 3) := by decide +kernel
theorem dX11_copy_41 : decode cX11_copy 41 = .ok (.iload_n 1, 1) := by decide +kernel
theorem dX11_copy_42 : decode cX11_copy 42 = .ok (.iaload, 1) := by decide +kernel
theorem dX11_copy_43 : decode cX11_copy 43 = .ok (.aload_n 0, 1) := by decide +kernel
theorem dX11_copy_44 : decode cX11_copy 44 = .ok (.getfield 104, 3) := by decide +kernel
theorem dX11_copy_47 : decode cX11_copy 47 = .ok (.iload_n 3, 1) := by decide +kernel
theorem dX11_copy_48 : decode cX11_copy 48 = .ok (.iaload, 1) := by decide +kernel
theorem dX11_copy_49 : decode cX11_copy 49 = .ok (.if_icmp .eq 6, 3) := by decide +kernel
theorem dX11_copy_52 : decode cX11_copy 52 = .ok (.bipush (-12), 2) := by decide +kernel
theorem dX11_copy_54 : decode cX11_copy 54 = .ok (.ireturn, 1) := by decide +kernel
theorem dX11_copy_55 : decode cX11_copy 55 = .ok (.iload 5, 2) := by decide +kernel
theorem dX11_copy_57 : decode cX11_copy 57 = .ok (.ifCond .lt 38, 3) := by decide +kernel
theorem dX11_copy_60 : decode cX11_copy 60 = .ok (.aload_n 0, 1) := by decide +kernel
theorem dX11_copy_61 : decode cX11_copy 61 = .ok (.iload_n 1, 1) := by decide +kernel
theorem dX11_copy_62 : decode cX11_copy 62 = .ok (.aload_n 0, 1) := by decide +kernel
theorem dX11_copy_63 : decode cX11_copy 63 = .ok (.getfield 104, 3) := by decide +kernel
theorem dX11_copy_66 : decode cX11_copy 66 = .ok (.iload_n 1, 1) := by decide +kernel
theorem dX11_copy_67 : decode cX11_copy 67 = .ok (.iaload, 1) := by decide +kernel
theorem dX11_copy_68 : decode cX11_copy 68 = .ok (.iload_n 2, 1) := by decide +kernel
theorem dX11_copy_69 : decode cX11_copy 69 = .ok (.iload 5, 2) := by decide +kernel
theorem dX11_copy_71 : decode cX11_copy 71 = .ok (.invokevirtual 342, 3) := by decide +kernel
theorem dX11_copy_74 : decode cX11_copy 74 = .ok (.ifCond .lt 21, 3) := by decide +kernel
theorem dX11_copy_77 : decode cX11_copy 77 = .ok (.aload_n 0, 1) := by decide +kernel
theorem dX11_copy_78 : decode cX11_copy 78 = .ok (.iload_n 3, 1) := by decide +kernel
theorem dX11_copy_79 : decode cX11_copy 79 = .ok (.aload_n 0, 1) := by decide +kernel
theorem dX11_copy_80 : decode cX11_copy 80 = .ok (.getfield 104, 3) := by decide +kernel
theorem dX11_copy_83 : decode cX11_copy 83 = .ok (.iload_n 3, 1) := by decide +kernel
theorem dX11_copy_84 : decode cX11_copy 84 = .ok (.iaload, 1) := by decide +kernel
theorem dX11_copy_85 : decode cX11_copy 85 = .ok (.iload 4, 2) := by decide +kernel
theorem dX11_copy_87 : decode cX11_copy 87 = .ok (.iload 5, 2) := by decide +kernel
theorem dX11_copy_89 : decode cX11_copy 89 = .ok (.invokevirtual 342, 3) := by decide +kernel
theorem dX11_copy_92 : decode cX11_copy 92 = .ok (.ifCond .ge 6, 3) := by decide +kernel
theorem dX11_copy_95 : decode cX11_copy 95 = .ok (.bipush (-13), 2) := by decide +kernel
theorem dX11_copy_97 : decode cX11_copy 97 = .ok (.ireturn, 1) := by decide +kernel
theorem dX11_copy_98 : decode cX11_copy 98 = .ok (.iconst 0, 1) := by decide +kernel
theorem dX11_copy_99 : decode cX11_copy 99 = .ok (.istore 6, 2) := by decide +kernel
theorem dX11_copy_101 : decode cX11_copy 101 = .ok (.iload 6, 2) := by decide +kernel
theorem dX11_copy_103 : decode cX11_copy 103 = .ok (.iload 5, 2) := by decide +kernel
theorem dX11_copy_105 : decode cX11_copy 105 = .ok (.if_icmp .ge 30, 3) := by decide +kernel
theorem dX11_copy_108 : decode cX11_copy 108 = .ok (.aload_n 0, 1) := by decide +kernel
theorem dX11_copy_109 : decode cX11_copy 109 = .ok (.getfield 113, 3) := by decide +kernel
theorem dX11_copy_112 : decode cX11_copy 112 = .ok (.iload 6, 2) := by decide +kernel
theorem dX11_copy_114 : decode cX11_copy 114 = .ok (.aload_n 0, 1) := by decide +kernel
theorem dX11_copy_115 : decode cX11_copy 115 = .ok (.getfield 110, 3) := by decide +kernel
theorem dX11_copy_118 : decode cX11_copy 118 = .ok (.bipush 32, 2) := by decide +kernel
theorem dX11_copy_120 : decode cX11_copy 120 = .ok (.iload_n 1, 1) := by decide +kernel
theorem dX11_copy_121 : decode cX11_copy 121 = .ok (.imul, 1) := by decide +kernel
theorem dX11_copy_122 : decode cX11_copy 122 = .ok (.iload_n 2, 1) := by decide +kernel
theorem dX11_copy_123 : decode cX11_copy 123 = .ok (.iadd, 1) := by decide +kernel
theorem dX11_copy_124 : decode cX11_copy 124 = .ok (.iload 6, 2) := by decide +kernel
theorem dX11_copy_126 : decode cX11_copy 126 = .ok (.iadd, 1) := by decide +kernel
theorem dX11_copy_127 : decode cX11_copy 127 = .ok (.iaload, 1) := by decide +kernel
theorem dX11_copy_128 : decode cX11_copy 128 = .ok (.iastore, 1) := by decide +kernel
theorem dX11_copy_129 : decode cX11_copy 129 = .ok (.iinc 6 1, 3) := by decide +kernel
theorem dX11_copy_132 : decode cX11_copy 132 = .ok (.goto (-31), 3) := by decide +kernel
theorem dX11_copy_135 : decode cX11_copy 135 = .ok (.iconst 0, 1) := by decide +kernel
theorem dX11_copy_136 : decode cX11_copy 136 = .ok (.istore 6, 2) := by decide +kernel
theorem dX11_copy_138 : decode cX11_copy 138 = .ok (.iload 6, 2) := by decide +kernel
theorem dX11_copy_140 : decode cX11_copy 140 = .ok (.iload 5, 2) := by decide +kernel
theorem dX11_copy_142 : decode cX11_copy 142 = .ok (.if_icmp .ge 31, 3) := by decide +kernel
theorem dX11_copy_145 : decode cX11_copy 145 = .ok (.aload_n 0, 1) := by decide +kernel
theorem dX11_copy_146 : decode cX11_copy 146 = .ok (.getfield 110, 3) := by decide +kernel
theorem dX11_copy_149 : decode cX11_copy 149 = .ok (.bipush 32, 2) := by decide +kernel
theorem dX11_copy_151 : decode cX11_copy 151 = .ok (.iload_n 3, 1) := by decide +kernel
theorem dX11_copy_152 : decode cX11_copy 152 = .ok (.imul, 1) := by decide +kernel
theorem dX11_copy_153 : decode cX11_copy 153 = .ok (.iload 4, 2) := by decide +kernel
theorem dX11_copy_155 : decode cX11_copy 155 = .ok (.iadd, 1) := by decide +kernel
theorem dX11_copy_156 : decode cX11_copy 156 = .ok (.iload 6, 2) := by decide +kernel
theorem dX11_copy_158 : decode cX11_copy 158 = .ok (.iadd, 1) := by decide +kernel
theorem dX11_copy_159 : decode cX11_copy 159 = .ok (.aload_n 0, 1) := by decide +kernel
theorem dX11_copy_160 : decode cX11_copy 160 = .ok (.getfield 113, 3) := by decide +kernel
theorem dX11_copy_163 : decode cX11_copy 163 = .ok (.iload 6, 2) := by decide +kernel
theorem dX11_copy_165 : decode cX11_copy 165 = .ok (.iaload, 1) := by decide +kernel
theorem dX11_copy_166 : decode cX11_copy 166 = .ok (.iastore, 1) := by decide +kernel
theorem dX11_copy_167 : decode cX11_copy 167 = .ok (.iinc 6 1, 3) := by decide +kernel
theorem dX11_copy_170 : decode cX11_copy 170 = .ok (.goto (-32), 3) := by decide +kernel
theorem dX11_copy_173 : decode cX11_copy 173 = .ok (.iload 5, 2) := by decide +kernel
theorem dX11_copy_175 : decode cX11_copy 175 = .ok (.ireturn, 1) := by decide +kernel
theorem dX11_reads_0 : decode cX11_reads 0 = .ok (.iload_n 1, 1) := by decide +kernel
theorem dX11_reads_1 : decode cX11_reads 1 = .ok (.invokestatic 339, 3) := by decide +kernel
theorem dX11_reads_4 : decode cX11_reads 4 = .ok (.ifCond .ne 5, 3) := by decide +kernel
theorem dX11_reads_7 : decode cX11_reads 7 = .ok (.iconst (-1), 1) := by decide +kernel
theorem dX11_reads_8 : decode cX11_reads 8 = .ok (.ireturn, 1) := by decide +kernel
theorem dX11_reads_9 : decode cX11_reads 9 = .ok (.aload_n 0, 1) := by decide +kernel
theorem dX11_reads_10 : decode cX11_reads 10 = .ok (.iload_n 1, 1) := by decide +kernel
theorem dX11_reads_11 : decode cX11_reads 11 = .ok (.iconst 0, 1) := by decide +kernel
theorem dX11_reads_12 : decode cX11_reads 12 = .ok (.iload_n 2, 1) := by decide +kernel
theorem dX11_reads_13 : decode cX11_reads 13 = .ok (.aload_n 0, 1) := by decide +kernel
theorem dX11_reads_14 : decode cX11_reads 14 = .ok (.getfield 116, 3) := by decide +kernel
theorem dX11_reads_17 : decode cX11_reads 17 = .ok (.invokevirtual 342, 3) := by decide +kernel
theorem dX11_reads_20 : decode cX11_reads 20 = .ok (.istore_n 3, 1) := by decide +kernel
theorem dX11_reads_21 : decode cX11_reads 21 = .ok (.iload_n 3, 1) := by decide +kernel
theorem dX11_reads_22 : decode cX11_reads 22 = .ok (.ifCond .ge 5, 3) := by decide +kernel
theorem dX11_reads_25 : decode cX11_reads 25 = .ok (.iload_n 3, 1) := by decide +kernel
theorem dX11_reads_26 : decode cX11_reads 26 = .ok (.ireturn, 1) := by decide +kernel
theorem dX11_reads_27 : decode cX11_reads 27 = .ok (.iconst 0, 1) := by decide +kernel
theorem dX11_reads_28 : decode cX11_reads 28 = .ok (.istore 4, 2) := by decide +kernel
theorem dX11_reads_30 : decode cX11_reads 30 = .ok (.iconst 0, 1) := by decide +kernel
theorem dX11_reads_31 : decode cX11_reads 31 = .ok (.istore 5, 2) := by decide +kernel
theorem dX11_reads_33 : decode cX11_reads 33 = .ok (.iload 5, 2) := by decide +kernel
theorem dX11_reads_35 : decode cX11_reads 35 = .ok (.aload_n 0, 1) := by decide +kernel
theorem dX11_reads_36 : decode cX11_reads 36 = .ok (.getfield 116, 3) := by decide +kernel
theorem dX11_reads_39 : decode cX11_reads 39 = .ok (.if_icmp .ge 53, 3) := by decide +kernel
theorem dX11_reads_42 : decode cX11_reads 42 = .ok (.aload_n 0, 1) := by decide +kernel
theorem dX11_reads_43 : decode cX11_reads 43 = .ok (.getfield 13, 3) := by decide +kernel
theorem dX11_reads_46 : decode cX11_reads 46 = .ok (.iconst 5, 1) := by decide +kernel
theorem dX11_reads_47 : decode cX11_reads 47 = .ok (.iload 5, 2) := by decide +kernel
theorem dX11_reads_49 : decode cX11_reads 49 = .ok (.imul, 1) := by decide +kernel
theorem dX11_reads_50 : decode cX11_reads 50 = .ok (.iconst 2, 1) := by decide +kernel
theorem dX11_reads_51 : decode cX11_reads 51 = .ok (.iadd, 1) := by decide +kernel
theorem dX11_reads_52 : decode cX11_reads 52 = .ok (.aload_n 0, 1) := by decide +kernel
theorem dX11_reads_53 : decode cX11_reads 53 = .ok (.getfield 110, 3) := by decide +kernel
theorem dX11_reads_56 : decode cX11_reads 56 = .ok (.bipush 32, 2) := by decide +kernel
theorem dX11_reads_58 : decode cX11_reads 58 = .ok (.iload_n 1, 1) := by decide +kernel
theorem dX11_reads_59 : decode cX11_reads 59 = .ok (.imul, 1) := by decide +kernel
theorem dX11_reads_60 : decode cX11_reads 60 = .ok (.iload_n 2, 1) := by decide +kernel
theorem dX11_reads_61 : decode cX11_reads 61 = .ok (.iadd, 1) := by decide +kernel
theorem dX11_reads_62 : decode cX11_reads 62 = .ok (.iload 5, 2) := by decide +kernel
theorem dX11_reads_64 : decode cX11_reads 64 = .ok (.iadd, 1) := by decide +kernel
theorem dX11_reads_65 : decode cX11_reads 65 = .ok (.iaload, 1) := by decide +kernel
theorem dX11_reads_66 : decode cX11_reads 66 = .ok (.iastore, 1) := by decide +kernel
theorem dX11_reads_67 : decode cX11_reads 67 = .ok (.iload 4, 2) := by decide +kernel
theorem dX11_reads_69 : decode cX11_reads 69 = .ok (.aload_n 0, 1) := by decide +kernel
theorem dX11_reads_70 : decode cX11_reads 70 = .ok (.getfield 110, 3) := by decide +kernel
theorem dX11_reads_73 : decode cX11_reads 73 = .ok (.bipush 32, 2) := by decide +kernel
theorem dX11_reads_75 : decode cX11_reads 75 = .ok (.iload_n 1, 1) := by decide +kernel
theorem dX11_reads_76 : decode cX11_reads 76 = .ok (.imul, 1) := by decide +kernel
theorem dX11_reads_77 : decode cX11_reads 77 = .ok (.iload_n 2, 1) := by decide +kernel
theorem dX11_reads_78 : decode cX11_reads 78 = .ok (.iadd, 1) := by decide +kernel
theorem dX11_reads_79 : decode cX11_reads 79 = .ok (.iload 5, 2) := by decide +kernel
theorem dX11_reads_81 : decode cX11_reads 81 = .ok (.iadd, 1) := by decide +kernel
theorem dX11_reads_82 : decode cX11_reads 82 = .ok (.iaload, 1) := by decide +kernel
theorem dX11_reads_83 : decode cX11_reads 83 = .ok (.iadd, 1) := by decide +kernel
theorem dX11_reads_84 : decode cX11_reads 84 = .ok (.istore 4, 2) := by decide +kernel
theorem dX11_reads_86 : decode cX11_reads 86 = .ok (.iinc 5 1, 3) := by decide +kernel
theorem dX11_reads_89 : decode cX11_reads 89 = .ok (.goto (-56), 3) := by decide +kernel
theorem dX11_reads_92 : decode cX11_reads 92 = .ok (.iload 4, 2) := by decide +kernel
theorem dX11_reads_94 : decode cX11_reads 94 = .ok (.ireturn, 1) := by decide +kernel
theorem dJ11_isValidCodePoint_9a6ad_0 : decode cJ11_isValidCodePoint_9a6ad 0 = .ok (.iload_n 0, 1) := by decide +kernel
theorem dJ11_isValidCodePoint_9a6ad_1 : decode cJ11_isValidCodePoint_9a6ad 1 = .ok (.bipush 16, 2) := by decide +kernel
theorem dJ11_isValidCodePoint_9a6ad_3 : decode cJ11_isValidCodePoint_9a6ad 3 = .ok (.iushr, 1) := by decide +kernel
theorem dJ11_isValidCodePoint_9a6ad_4 : decode cJ11_isValidCodePoint_9a6ad 4 = .ok (.istore_n 1, 1) := by decide +kernel
theorem dJ11_isValidCodePoint_9a6ad_5 : decode cJ11_isValidCodePoint_9a6ad 5 = .ok (.iload_n 1, 1) := by decide +kernel
theorem dJ11_isValidCodePoint_9a6ad_6 : decode cJ11_isValidCodePoint_9a6ad 6 = .ok (.bipush 17, 2) := by decide +kernel
theorem dJ11_isValidCodePoint_9a6ad_8 : decode cJ11_isValidCodePoint_9a6ad 8 = .ok (.if_icmp .ge 7, 3) := by decide +kernel
theorem dJ11_isValidCodePoint_9a6ad_11 : decode cJ11_isValidCodePoint_9a6ad 11 = .ok (.iconst 1, 1) := by decide +kernel
theorem dJ11_isValidCodePoint_9a6ad_12 : decode cJ11_isValidCodePoint_9a6ad 12 = .ok (.goto 4, 3) := by decide +kernel
theorem dJ11_isValidCodePoint_9a6ad_15 : decode cJ11_isValidCodePoint_9a6ad 15 = .ok (.iconst 0, 1) := by decide +kernel
theorem dJ11_isValidCodePoint_9a6ad_16 : decode cJ11_isValidCodePoint_9a6ad 16 = .ok (.ireturn, 1) := by decide +kernel
theorem dJ11_highSurrogate_5068e_0 : decode cJ11_highSurrogate_5068e 0 = .ok (.iload_n 0, 1) := by decide +kernel
theorem dJ11_highSurrogate_5068e_1 : decode cJ11_highSurrogate_5068e 1 = .ok (.bipush 10, 2) := by decide +kernel
theorem dJ11_highSurrogate_5068e_3 : decode cJ11_highSurrogate_5068e 3 = .ok (.iushr, 1) := by decide +kernel
theorem dJ11_highSurrogate_5068e_4 : decode cJ11_highSurrogate_5068e 4 = .ok (.ldc 110, 2) := by decide +kernel
theorem dJ11_highSurrogate_5068e_6 : decode cJ11_highSurrogate_5068e 6 = .ok (.iadd, 1) := by decide +kernel
theorem dJ11_highSurrogate_5068e_7 : decode cJ11_highSurrogate_5068e 7 = .ok (.i2c, 1) := by decide +kernel
theorem dJ11_highSurrogate_5068e_8 : decode cJ11_highSurrogate_5068e 8 = .ok (.ireturn, 1) := by decide +kernel
theorem dJ11_lowSurrogate_5068e_0 : decode cJ11_lowSurrogate_5068e 0 = .ok (.iload_n 0, 1) := by decide +kernel
theorem dJ11_lowSurrogate_5068e_1 : decode cJ11_lowSurrogate_5068e 1 = .ok (.sipush 1023, 3) := by decide +kernel
theorem dJ11_lowSurrogate_5068e_4 : decode cJ11_lowSurrogate_5068e 4 = .ok (.iand, 1) := by decide +kernel
theorem dJ11_lowSurrogate_5068e_5 : decode cJ11_lowSurrogate_5068e 5 = .ok (.ldc 76, 2) := by decide +kernel
theorem dJ11_lowSurrogate_5068e_7 : decode cJ11_lowSurrogate_5068e 7 = .ok (.iadd, 1) := by decide +kernel
theorem dJ11_lowSurrogate_5068e_8 : decode cJ11_lowSurrogate_5068e 8 = .ok (.i2c, 1) := by decide +kernel
theorem dJ11_lowSurrogate_5068e_9 : decode cJ11_lowSurrogate_5068e 9 = .ok (.ireturn, 1) := by decide +kernel
theorem dJ6_bitCount_0f7a4_0 : decode cJ6_bitCount_0f7a4 0 = .ok (.iload_n 0, 1) := by decide +kernel
theorem dJ6_bitCount_0f7a4_1 : decode cJ6_bitCount_0f7a4 1 = .ok (.iload_n 0, 1) := by decide +kernel
end
section
theorem dJ6_bitCount_0f7a4_2 : decode cJ6_bitCount_0f7a4 2 = .ok (.iconst 1, 1) := by decide +kernel
theorem dJ6_bitCount_0f7a4_3 : decode cJ6_bitCount_0f7a4 3 = .ok (.iushr, 1) := by decide +kernel
theorem dJ6_bitCount_0f7a4_4 : decode cJ6_bitCount_0f7a4 4 = .ok (.ldc_w 265, 3) := by decide +kernel
theorem dJ6_bitCount_0f7a4_7 : decode cJ6_bitCount_0f7a4 7 = .ok (.iand, 1) := by decide +kernel
theorem dJ6_bitCount_0f7a4_8 : decode cJ6_bitCount_0f7a4 8 = .ok (.isub, 1) := by decide +kernel
theorem dJ6_bitCount_0f7a4_9 : decode cJ6_bitCount_0f7a4 9 = .ok (.istore_n 0, 1) := by decide +kernel
theorem dJ6_bitCount_0f7a4_10 : decode cJ6_bitCount_0f7a4 10 = .ok (.iload_n 0, 1) := by decide +kernel
theorem dJ6_bitCount_0f7a4_11 : decode cJ6_bitCount_0f7a4 11 = .ok (.ldc_w 266, 3) := by decide +kernel
theorem dJ6_bitCount_0f7a4_14 : decode cJ6_bitCount_0f7a4 14 = .ok (.iand, 1) := by decide +kernel
theorem dJ6_bitCount_0f7a4_15 : decode cJ6_bitCount_0f7a4 15 = .ok (.iload_n 0, 1) := by decide +kernel
theorem dJ6_bitCount_0f7a4_16 : decode cJ6_bitCount_0f7a4 16 = .ok (.iconst 2, 1) := by decide +kernel
theorem dJ6_bitCount_0f7a4_17 : decode cJ6_bitCount_0f7a4 17 = .ok (.iushr, 1) := by decide +kernel
theorem dJ6_bitCount_0f7a4_18 : decode cJ6_bitCount_0f7a4 18 = .ok (.ldc_w 266, 3) := by decide +kernel
theorem dJ6_bitCount_0f7a4_21 : decode cJ6_bitCount_0f7a4 21 = .ok (.iand, 1) := by decide +kernel
theorem dJ6_bitCount_0f7a4_22 : decode cJ6_bitCount_0f7a4 22 = .ok (.iadd, 1) := by decide +kernel
theorem dJ6_bitCount_0f7a4_23 : decode cJ6_bitCount_0f7a4 23 = .ok (.istore_n 0, 1) := by decide +kernel
theorem dJ6_bitCount_0f7a4_24 : decode cJ6_bitCount_0f7a4 24 = .ok (.iload_n 0, 1) := by decide +kernel
theorem dJ6_bitCount_0f7a4_25 : decode cJ6_bitCount_0f7a4 25 = .ok (.iload_n 0, 1) := by decide +kernel
theorem dJ6_bitCount_0f7a4_26 : decode cJ6_bitCount_0f7a4 26 = .ok (.iconst 4, 1) := by decide +kernel
theorem dJ6_bitCount_0f7a4_27 : decode cJ6_bitCount_0f7a4 27 = .ok (.iushr, 1) := by decide +kernel
theorem dJ6_bitCount_0f7a4_28 : decode cJ6_bitCount_0f7a4 28 = .ok (.iadd, 1) := by decide +kernel
theorem dJ6_bitCount_0f7a4_29 : decode cJ6_bitCount_0f7a4 29 = .ok (.ldc_w 267, 3) := by decide +kernel
theorem dJ6_bitCount_0f7a4_32 : decode cJ6_bitCount_0f7a4 32 = .ok (.iand, 1) := by decide +kernel
theorem dJ6_bitCount_0f7a4_33 : decode cJ6_bitCount_0f7a4 33 = .ok (.istore_n 0, 1) := by decide +kernel
theorem dJ6_bitCount_0f7a4_34 : decode cJ6_bitCount_0f7a4 34 = .ok (.iload_n 0, 1) := by decide +kernel
theorem dJ6_bitCount_0f7a4_35 : decode cJ6_bitCount_0f7a4 35 = .ok (.iload_n 0, 1) := by decide +kernel
theorem dJ6_bitCount_0f7a4_36 : decode cJ6_bitCount_0f7a4 36 = .ok (.bipush 8, 2) := by decide +kernel
theorem dJ6_bitCount_0f7a4_38 : decode cJ6_bitCount_0f7a4 38 = .ok (.iushr, 1) := by decide +kernel
theorem dJ6_bitCount_0f7a4_39 : decode cJ6_bitCount_0f7a4 39 = .ok (.iadd, 1) := by decide +kernel
theorem dJ6_bitCount_0f7a4_40 : decode cJ6_bitCount_0f7a4 40 = .ok (.istore_n 0, 1) := by decide +kernel
theorem dJ6_bitCount_0f7a4_41 : decode cJ6_bitCount_0f7a4 41 = .ok (.iload_n 0, 1) := by decide +kernel
theorem dJ6_bitCount_0f7a4_42 : decode cJ6_bitCount_0f7a4 42 = .ok (.iload_n 0, 1) := by decide +kernel
theorem dJ6_bitCount_0f7a4_43 : decode cJ6_bitCount_0f7a4 43 = .ok (.bipush 16, 2) := by decide +kernel
theorem dJ6_bitCount_0f7a4_45 : decode cJ6_bitCount_0f7a4 45 = .ok (.iushr, 1) := by decide +kernel
theorem dJ6_bitCount_0f7a4_46 : decode cJ6_bitCount_0f7a4 46 = .ok (.iadd, 1) := by decide +kernel
theorem dJ6_bitCount_0f7a4_47 : decode cJ6_bitCount_0f7a4 47 = .ok (.istore_n 0, 1) := by decide +kernel
theorem dJ6_bitCount_0f7a4_48 : decode cJ6_bitCount_0f7a4 48 = .ok (.iload_n 0, 1) := by decide +kernel
theorem dJ6_bitCount_0f7a4_49 : decode cJ6_bitCount_0f7a4 49 = .ok (.bipush 63, 2) := by decide +kernel
theorem dJ6_bitCount_0f7a4_51 : decode cJ6_bitCount_0f7a4 51 = .ok (.iand, 1) := by decide +kernel
theorem dJ6_bitCount_0f7a4_52 : decode cJ6_bitCount_0f7a4 52 = .ok (.ireturn, 1) := by decide +kernel
theorem dJ9_max_7cf53_0 : decode cJ9_max_7cf53 0 = .ok (.iload_n 0, 1) := by decide +kernel
theorem dJ9_max_7cf53_1 : decode cJ9_max_7cf53 1 = .ok (.iload_n 1, 1) := by decide +kernel
theorem dJ9_max_7cf53_2 : decode cJ9_max_7cf53 2 = .ok (.if_icmp .lt 7, 3) := by decide +kernel
theorem dJ9_max_7cf53_5 : decode cJ9_max_7cf53 5 = .ok (.iload_n 0, 1) := by decide +kernel
theorem dJ9_max_7cf53_6 : decode cJ9_max_7cf53 6 = .ok (.goto 4, 3) := by decide +kernel
theorem dJ9_max_7cf53_9 : decode cJ9_max_7cf53 9 = .ok (.iload_n 1, 1) := by decide +kernel
theorem dJ9_max_7cf53_10 : decode cJ9_max_7cf53 10 = .ok (.ireturn, 1) := by decide +kernel
theorem dJ9_min_7cf53_0 : decode cJ9_min_7cf53 0 = .ok (.iload_n 0, 1) := by decide +kernel
theorem dJ9_min_7cf53_1 : decode cJ9_min_7cf53 1 = .ok (.iload_n 1, 1) := by decide +kernel
theorem dJ9_min_7cf53_2 : decode cJ9_min_7cf53 2 = .ok (.if_icmp .gt 7, 3) := by decide +kernel
theorem dJ9_min_7cf53_5 : decode cJ9_min_7cf53 5 = .ok (.iload_n 0, 1) := by decide +kernel
theorem dJ9_min_7cf53_6 : decode cJ9_min_7cf53 6 = .ok (.goto 4, 3) := by decide +kernel
theorem dJ9_min_7cf53_9 : decode cJ9_min_7cf53 9 = .ok (.iload_n 1, 1) := by decide +kernel
theorem dJ9_min_7cf53_10 : decode cJ9_min_7cf53 10 = .ok (.ireturn, 1) := by decide +kernel
theorem dJ0_length_8abf5_0 : decode cJ0_length_8abf5 0 = .ok (.aload_n 0, 1) := by decide +kernel
theorem dJ0_length_8abf5_1 : decode cJ0_length_8abf5 1 = .ok (.getfield 9, 3) := by decide +kernel
theorem dJ0_length_8abf5_4 : decode cJ0_length_8abf5 4 = .ok (.arraylength, 1) := by decide +kernel
theorem dJ0_length_8abf5_5 : decode cJ0_length_8abf5 5 = .ok (.aload_n 0, 1) := by decide +kernel
theorem dJ0_length_8abf5_6 : decode cJ0_length_8abf5 6 = .ok (.invokevirtual 335, 3) := by decide +kernel
theorem dJ0_length_8abf5_9 : decode cJ0_length_8abf5 9 = .ok (.ishr, 1) := by decide +kernel
theorem dJ0_length_8abf5_10 : decode cJ0_length_8abf5 10 = .ok (.ireturn, 1) := by decide +kernel
theorem dJ0_indexOf_0f7a4_0 : decode cJ0_indexOf_0f7a4 0 = .ok (.aload_n 0, 1) := by decide +kernel
theorem dJ0_indexOf_0f7a4_1 : decode cJ0_indexOf_0f7a4 1 = .ok (.iload_n 1, 1) := by decide +kernel
theorem dJ0_indexOf_0f7a4_2 : decode cJ0_indexOf_0f7a4 2 = .ok (.iconst 0, 1) := by decide +kernel
theorem dJ0_indexOf_0f7a4_3 : decode cJ0_indexOf_0f7a4 3 = .ok (.invokevirtual 633, 3) := by decide +kernel
theorem dJ0_indexOf_0f7a4_6 : decode cJ0_indexOf_0f7a4 6 = .ok (.ireturn, 1) := by decide +kernel
theorem dJ0_indexOf_7cf53_0 : decode cJ0_indexOf_7cf53 0 = .ok (.aload_n 0, 1) := by decide +kernel
theorem dJ0_indexOf_7cf53_1 : decode cJ0_indexOf_7cf53 1 = .ok (.invokevirtual 492, 3) := by decide +kernel
theorem dJ0_indexOf_7cf53_4 : decode cJ0_indexOf_7cf53 4 = .ok (.ifCond .eq 19, 3) := by decide +kernel
theorem dJ0_indexOf_7cf53_7 : decode cJ0_indexOf_7cf53 7 = .ok (.aload_n 0, 1) := by decide +kernel
theorem dJ0_indexOf_7cf53_8 : decode cJ0_indexOf_7cf53 8 = .ok (.getfield 9, 3) := by decide +kernel
theorem dJ0_indexOf_7cf53_11 : decode cJ0_indexOf_7cf53 11 = .ok (.iload_n 1, 1) := by decide +kernel
theorem dJ0_indexOf_7cf53_12 : decode cJ0_indexOf_7cf53 12 = .ok (.iload_n 2, 1) := by decide +kernel
theorem dJ0_indexOf_7cf53_13 : decode cJ0_indexOf_7cf53 13 = .ok (.aload_n 0, 1) := by decide +kernel
theorem dJ0_indexOf_7cf53_14 : decode cJ0_indexOf_7cf53 14 = .ok (.invokevirtual 505, 3) := by decide +kernel
theorem dJ0_indexOf_7cf53_17 : decode cJ0_indexOf_7cf53 17 = .ok (.invokestatic 637, 3) := by decide +kernel
theorem dJ0_indexOf_7cf53_20 : decode cJ0_indexOf_7cf53 20 = .ok (.goto 16, 3) := by decide +kernel
theorem dJ0_indexOf_7cf53_23 : decode cJ0_indexOf_7cf53 23 = .ok (.aload_n 0, 1) := by decide +kernel
theorem dJ0_indexOf_7cf53_24 : decode cJ0_indexOf_7cf53 24 = .ok (.getfield 9, 3) := by decide +kernel
theorem dJ0_indexOf_7cf53_27 : decode cJ0_indexOf_7cf53 27 = .ok (.iload_n 1, 1) := by decide +kernel
theorem dJ0_indexOf_7cf53_28 : decode cJ0_indexOf_7cf53 28 = .ok (.iload_n 2, 1) := by decide +kernel
theorem dJ0_indexOf_7cf53_29 : decode cJ0_indexOf_7cf53 29 = .ok (.aload_n 0, 1) := by decide +kernel
theorem dJ0_indexOf_7cf53_30 : decode cJ0_indexOf_7cf53 30 = .ok (.invokevirtual 505, 3) := by decide +kernel
theorem dJ0_indexOf_7cf53_33 : decode cJ0_indexOf_7cf53 33 = .ok (.invokestatic 640, 3) := by decide +kernel
theorem dJ0_indexOf_7cf53_36 : decode cJ0_indexOf_7cf53 36 = .ok (.ireturn, 1) := by decide +kernel
theorem dJ0_coder_7d493_0 : decode cJ0_coder_7d493 0 = .ok (.getstatic 38, 3) := by decide +kernel
theorem dJ0_coder_7d493_3 : decode cJ0_coder_7d493 3 = .ok (.ifCond .eq 10, 3) := by decide +kernel
theorem dJ0_coder_7d493_6 : decode cJ0_coder_7d493 6 = .ok (.aload_n 0, 1) := by decide +kernel
theorem dJ0_coder_7d493_7 : decode cJ0_coder_7d493 7 = .ok (.getfield 15, 3) := by decide +kernel
theorem dJ0_coder_7d493_10 : decode cJ0_coder_7d493 10 = .ok (.goto 4, 3) := by decide +kernel
theorem dJ0_coder_7d493_13 : decode cJ0_coder_7d493 13 = .ok (.iconst 1, 1) := by decide +kernel
theorem dJ0_coder_7d493_14 : decode cJ0_coder_7d493 14 = .ok (.ireturn, 1) := by decide +kernel
theorem dJ0_isLatin1_aae02_0 : decode cJ0_isLatin1_aae02 0 = .ok (.getstatic 38, 3) := by decide +kernel
theorem dJ0_isLatin1_aae02_3 : decode cJ0_isLatin1_aae02 3 = .ok (.ifCond .eq 14, 3) := by decide +kernel
theorem dJ0_isLatin1_aae02_6 : decode cJ0_isLatin1_aae02 6 = .ok (.aload_n 0, 1) := by decide +kernel
theorem dJ0_isLatin1_aae02_7 : decode cJ0_isLatin1_aae02 7 = .ok (.getfield 15, 3) := by decide +kernel
theorem dJ0_isLatin1_aae02_10 : decode cJ0_isLatin1_aae02 10 = .ok (.ifCond .ne 7, 3) := by decide +kernel
theorem dJ0_isLatin1_aae02_13 : decode cJ0_isLatin1_aae02 13 = .ok (.iconst 1, 1) := by decide +kernel
theorem dJ0_isLatin1_aae02_14 : decode cJ0_isLatin1_aae02 14 = .ok (.goto 4, 3) := by decide +kernel
theorem dJ0_isLatin1_aae02_17 : decode cJ0_isLatin1_aae02 17 = .ok (.iconst 0, 1) := by decide +kernel
theorem dJ0_isLatin1_aae02_18 : decode cJ0_isLatin1_aae02 18 = .ok (.ireturn, 1) := by decide +kernel
theorem dJ0_checkBoundsBeginEnd_23922_0 : decode cJ0_checkBoundsBeginEnd_23922 0 = .ok (.iload_n 0, 1) := by decide +kernel
theorem dJ0_checkBoundsBeginEnd_23922_1 : decode cJ0_checkBoundsBeginEnd_23922 1 = .ok (.iload_n 1, 1) := by decide +kernel
theorem dJ0_checkBoundsBeginEnd_23922_2 : decode cJ0_checkBoundsBeginEnd_23922 2 = .ok (.iload_n 2, 1) := by decide +kernel
theorem dJ0_checkBoundsBeginEnd_23922_3 : decode cJ0_checkBoundsBeginEnd_23922 3 = .ok (.getstatic 1053, 3) := by decide +kernel
theorem dJ0_checkBoundsBeginEnd_23922_6 : decode cJ0_checkBoundsBeginEnd_23922 6 = .ok (.invokestatic 1062, 3) := by decide +kernel
theorem dJ0_checkBoundsBeginEnd_23922_9 : decode cJ0_checkBoundsBeginEnd_23922 9 = .ok (.pop, 1) := by decide +kernel
theorem dJ0_checkBoundsBeginEnd_23922_10 : decode cJ0_checkBoundsBeginEnd_23922 10 = .ok (.return_, 1) := by decide +kernel
theorem dJ1_canEncode_9a6ad_0 : decode cJ1_canEncode_9a6ad 0 = .ok (.iload_n 0, 1) := by decide +kernel
theorem dJ1_canEncode_9a6ad_1 : decode cJ1_canEncode_9a6ad 1 = .ok (.ifCond .lt 14, 3) := by decide +kernel
theorem dJ1_canEncode_9a6ad_4 : decode cJ1_canEncode_9a6ad 4 = .ok (.iload_n 0, 1) := by decide +kernel
theorem dJ1_canEncode_9a6ad_5 : decode cJ1_canEncode_9a6ad 5 = .ok (.sipush 255, 3) := by decide +kernel
theorem dJ1_canEncode_9a6ad_8 : decode cJ1_canEncode_9a6ad 8 = .ok (.if_icmp .gt 7, 3) := by decide +kernel
theorem dJ1_canEncode_9a6ad_11 : decode cJ1_canEncode_9a6ad 11 = .ok (.iconst 1, 1) := by decide +kernel
theorem dJ1_canEncode_9a6ad_12 : decode cJ1_canEncode_9a6ad 12 = .ok (.goto 4, 3) := by decide +kernel
theorem dJ1_canEncode_9a6ad_15 : decode cJ1_canEncode_9a6ad 15 = .ok (.iconst 0, 1) := by decide +kernel
theorem dJ1_canEncode_9a6ad_16 : decode cJ1_canEncode_9a6ad 16 = .ok (.ireturn, 1) := by decide +kernel
theorem dJ1_indexOf_4cfef_0 : decode cJ1_indexOf_4cfef 0 = .ok (.iload_n 1, 1) := by decide +kernel
theorem dJ1_indexOf_4cfef_1 : decode cJ1_indexOf_4cfef 1 = .ok (.invokestatic 88, 3) := by decide +kernel
theorem dJ1_indexOf_4cfef_4 : decode cJ1_indexOf_4cfef 4 = .ok (.ifCond .ne 5, 3) := by decide +kernel
theorem dJ1_indexOf_4cfef_7 : decode cJ1_indexOf_4cfef 7 = .ok (.iconst (-1), 1) := by decide +kernel
theorem dJ1_indexOf_4cfef_8 : decode cJ1_indexOf_4cfef 8 = .ok (.ireturn, 1) := by decide +kernel
theorem dJ1_indexOf_4cfef_9 : decode cJ1_indexOf_4cfef 9 = .ok (.iload_n 2, 1) := by decide +kernel
theorem dJ1_indexOf_4cfef_10 : decode cJ1_indexOf_4cfef 10 = .ok (.iconst 0, 1) := by decide +kernel
theorem dJ1_indexOf_4cfef_11 : decode cJ1_indexOf_4cfef 11 = .ok (.invokestatic 92, 3) := by decide +kernel
theorem dJ1_indexOf_4cfef_14 : decode cJ1_indexOf_4cfef 14 = .ok (.istore_n 2, 1) := by decide +kernel
theorem dJ1_indexOf_4cfef_15 : decode cJ1_indexOf_4cfef 15 = .ok (.iload_n 3, 1) := by decide +kernel
theorem dJ1_indexOf_4cfef_16 : decode cJ1_indexOf_4cfef 16 = .ok (.aload_n 0, 1) := by decide +kernel
theorem dJ1_indexOf_4cfef_17 : decode cJ1_indexOf_4cfef 17 = .ok (.arraylength, 1) := by decide +kernel
theorem dJ1_indexOf_4cfef_18 : decode cJ1_indexOf_4cfef 18 = .ok (.invokestatic 38, 3) := by decide +kernel
theorem dJ1_indexOf_4cfef_21 : decode cJ1_indexOf_4cfef 21 = .ok (.istore_n 3, 1) := by decide +kernel
theorem dJ1_indexOf_4cfef_22 : decode cJ1_indexOf_4cfef 22 = .ok (.iload_n 2, 1) := by decide +kernel
theorem dJ1_indexOf_4cfef_23 : decode cJ1_indexOf_4cfef 23 = .ok (.iload_n 3, 1) := by decide +kernel
theorem dJ1_indexOf_4cfef_24 : decode cJ1_indexOf_4cfef 24 = .ok (.if_icmp .lt 5, 3) := by decide +kernel
theorem dJ1_indexOf_4cfef_27 : decode cJ1_indexOf_4cfef 27 = .ok (.iconst (-1), 1) := by decide +kernel
theorem dJ1_indexOf_4cfef_28 : decode cJ1_indexOf_4cfef 28 = .ok (.ireturn, 1) := by decide +kernel
theorem dJ1_indexOf_4cfef_29 : decode cJ1_indexOf_4cfef 29 = .ok (.aload_n 0, 1) := by decide +kernel
theorem dJ1_indexOf_4cfef_30 : decode cJ1_indexOf_4cfef 30 = .ok (.iload_n 1, 1) := by decide +kernel
theorem dJ1_indexOf_4cfef_31 : decode cJ1_indexOf_4cfef 31 = .ok (.iload_n 2, 1) := by decide +kernel
theorem dJ1_indexOf_4cfef_32 : decode cJ1_indexOf_4cfef 32 = .ok (.iload_n 3, 1) := by decide +kernel
theorem dJ1_indexOf_4cfef_33 : decode cJ1_indexOf_4cfef 33 = .ok (.invokestatic 95, 3) := by decide +kernel
theorem dJ1_indexOf_4cfef_36 : decode cJ1_indexOf_4cfef 36 = .ok (.ireturn, 1) := by decide +kernel
theorem dJ1_indexOfChar_4cfef_0 : decode cJ1_indexOfChar_4cfef 0 = .ok (.iload_n 1, 1) := by decide +kernel
theorem dJ1_indexOfChar_4cfef_1 : decode cJ1_indexOfChar_4cfef 1 = .ok (.i2b, 1) := by decide +kernel
theorem dJ1_indexOfChar_4cfef_2 : decode cJ1_indexOfChar_4cfef 2 = .ok (.istore 4, 2) := by decide +kernel
theorem dJ1_indexOfChar_4cfef_4 : decode cJ1_indexOfChar_4cfef 4 = .ok (.iload_n 2, 1) := by decide +kernel
theorem dJ1_indexOfChar_4cfef_5 : decode cJ1_indexOfChar_4cfef 5 = .ok (.istore 5, 2) := by decide +kernel
theorem dJ1_indexOfChar_4cfef_7 : decode cJ1_indexOfChar_4cfef 7 = .ok (.iload 5, 2) := by decide +kernel
theorem dJ1_indexOfChar_4cfef_9 : decode cJ1_indexOfChar_4cfef 9 = .ok (.iload_n 3, 1) := by decide +kernel
theorem dJ1_indexOfChar_4cfef_10 : decode cJ1_indexOfChar_4cfef 10 = .ok (.if_icmp .ge 21, 3) := by decide +kernel
theorem dJ1_indexOfChar_4cfef_13 : decode cJ1_indexOfChar_4cfef 13 = .ok (.aload_n 0, 1) := by decide +kernel
theorem dJ1_indexOfChar_4cfef_14 : decode cJ1_indexOfChar_4cfef 14 = .ok (.iload 5, 2) := by decide +kernel
theorem dJ1_indexOfChar_4cfef_16 : decode cJ1_indexOfChar_4cfef 16 = .ok (.baload, 1) := by decide +kernel
theorem dJ1_indexOfChar_4cfef_17 : decode cJ1_indexOfChar_4cfef 17 = .ok (.iload 4, 2) := by decide +kernel
theorem dJ1_indexOfChar_4cfef_19 : decode cJ1_indexOfChar_4cfef 19 = .ok (.if_icmp .ne 6, 3) := by decide +kernel
theorem dJ1_indexOfChar_4cfef_22 : decode cJ1_indexOfChar_4cfef 22 = .ok (.iload 5, 2) := by decide +kernel
theorem dJ1_indexOfChar_4cfef_24 : decode cJ1_indexOfChar_4cfef 24 = .ok (.ireturn, 1) := by decide +kernel
theorem dJ1_indexOfChar_4cfef_25 : decode cJ1_indexOfChar_4cfef 25 = .ok (.iinc 5 1, 3) := by decide +kernel
theorem dJ1_indexOfChar_4cfef_28 : decode cJ1_indexOfChar_4cfef 28 = .ok (.goto (-21), 3) := by decide +kernel
theorem dJ1_indexOfChar_4cfef_31 : decode cJ1_indexOfChar_4cfef 31 = .ok (.iconst (-1), 1) := by decide +kernel
theorem dJ1_indexOfChar_4cfef_32 : decode cJ1_indexOfChar_4cfef 32 = .ok (.ireturn, 1) := by decide +kernel
theorem dJ2_getChar_3b067_0 : decode cJ2_getChar_3b067 0 = .ok (.getstatic 44, 3) := by decide +kernel
theorem dJ2_getChar_3b067_3 : decode cJ2_getChar_3b067 3 = .ok (.ifCond .ne 25, 3) := by decide +kernel
theorem dJ2_getChar_3b067_6 : decode cJ2_getChar_3b067 6 = .ok (.iload_n 1, 1) := by decide +kernel
theorem dJ2_getChar_3b067_7 : decode cJ2_getChar_3b067 7 = .ok (.ifCond .lt 11, 3) := by decide +kernel
theorem dJ2_getChar_3b067_10 : decode cJ2_getChar_3b067 10 = .ok (.iload_n 1, 1) := by decide +kernel
theorem dJ2_getChar_3b067_11 : decode cJ2_getChar_3b067 11 = .ok (.aload_n 0, 1) := by decide +kernel
theorem dJ2_getChar_3b067_12 : decode cJ2_getChar_3b067 12 = .ok (.invokestatic 48, 3) := by decide +kernel
theorem dJ2_getChar_3b067_15 : decode cJ2_getChar_3b067 15 = .ok (.if_icmp .lt 13, 3) := by decide +kernel
theorem dJ2_getChar_3b067_18 : decode cJ2_getChar_3b067 18 = .ok (.new 52, 3) := by decide +kernel
theorem dJ2_getChar_3b067_21 : decode cJ2_getChar_3b067 21 = .ok (.dup, 1) := by decide +kernel
theorem dJ2_getChar_3b067_22 : decode cJ2_getChar_3b067 22 = .ok (.ldc 54, 2) := by decide +kernel
theorem dJ2_getChar_3b067_24 : decode cJ2_getChar_3b067 24 = .ok (.invokespecial 56, 3) := by decide +kernel
theorem dJ2_getChar_3b067_27 : decode cJ2_getChar_3b067 27 = .ok (.athrow, 1) := by decide +kernel
theorem dJ2_getChar_3b067_28 : decode cJ2_getChar_3b067 28 = .ok (.iload_n 1, 1) := by decide +kernel
theorem dJ2_getChar_3b067_29 : decode cJ2_getChar_3b067 29 = .ok (.iconst 1, 1) := by decide +kernel
theorem dJ2_getChar_3b067_30 : decode cJ2_getChar_3b067 30 = .ok (.ishl, 1) := by decide +kernel
theorem dJ2_getChar_3b067_31 : decode cJ2_getChar_3b067 31 = .ok (.istore_n 1, 1) := by decide +kernel
theorem dJ2_getChar_3b067_32 : decode cJ2_getChar_3b067 32 = .ok (.aload_n 0, 1) := by decide +kernel
theorem dJ2_getChar_3b067_33 : decode cJ2_getChar_3b067 33 = .ok (.iload_n 1, 1) := by decide +kernel
theorem dJ2_getChar_3b067_34 : decode cJ2_getChar_3b067 34 = .ok (.iinc 1 1, 3) := by decide +kernel
theorem dJ2_getChar_3b067_37 : decode cJ2_getChar_3b067 37 = .ok (.baload, 1) := by decide +kernel
theorem dJ2_getChar_3b067_38 : decode cJ2_getChar_3b067 38 = .ok (.sipush 255, 3) := by decide +kernel
theorem dJ2_getChar_3b067_41 : decode cJ2_getChar_3b067 41 = .ok (.iand, 1) := by decide +kernel
theorem dJ2_getChar_3b067_42 : decode cJ2_getChar_3b067 42 = .ok (.getstatic 59, 3) := by decide +kernel
theorem dJ2_getChar_3b067_45 : decode cJ2_getChar_3b067 45 = .ok (.ishl, 1) := by decide +kernel
theorem dJ2_getChar_3b067_46 : decode cJ2_getChar_3b067 46 = .ok (.aload_n 0, 1) := by decide +kernel
theorem dJ2_getChar_3b067_47 : decode cJ2_getChar_3b067 47 = .ok (.iload_n 1, 1) := by decide +kernel
theorem dJ2_getChar_3b067_48 : decode cJ2_getChar_3b067 48 = .ok (.baload, 1) := by decide +kernel
theorem dJ2_getChar_3b067_49 : decode cJ2_getChar_3b067 49 = .ok (.sipush 255, 3) := by decide +kernel
theorem dJ2_getChar_3b067_52 : decode cJ2_getChar_3b067 52 = .ok (.iand, 1) := by decide +kernel
theorem dJ2_getChar_3b067_53 : decode cJ2_getChar_3b067 53 = .ok (.getstatic 63, 3) := by decide +kernel
theorem dJ2_getChar_3b067_56 : decode cJ2_getChar_3b067 56 = .ok (.ishl, 1) := by decide +kernel
theorem dJ2_getChar_3b067_57 : decode cJ2_getChar_3b067 57 = .ok (.ior, 1) := by decide +kernel
theorem dJ2_getChar_3b067_58 : decode cJ2_getChar_3b067 58 = .ok (.i2c, 1) := by decide +kernel
theorem dJ2_getChar_3b067_59 : decode cJ2_getChar_3b067 59 = .ok (.ireturn, 1) := by decide +kernel
theorem dJ2_length_9d52b_0 : decode cJ2_length_9d52b 0 = .ok (.aload_n 0, 1) := by decide +kernel
theorem dJ2_length_9d52b_1 : decode cJ2_length_9d52b 1 = .ok (.arraylength, 1) := by decide +kernel
theorem dJ2_length_9d52b_2 : decode cJ2_length_9d52b 2 = .ok (.iconst 1, 1) := by decide +kernel
theorem dJ2_length_9d52b_3 : decode cJ2_length_9d52b 3 = .ok (.ishr, 1) := by decide +kernel
theorem dJ2_length_9d52b_4 : decode cJ2_length_9d52b 4 = .ok (.ireturn, 1) := by decide +kernel
theorem dJ2_indexOf_4cfef_0 : decode cJ2_indexOf_4cfef 0 = .ok (.iload_n 2, 1) := by decide +kernel
theorem dJ2_indexOf_4cfef_1 : decode cJ2_indexOf_4cfef 1 = .ok (.iconst 0, 1) := by decide +kernel
theorem dJ2_indexOf_4cfef_2 : decode cJ2_indexOf_4cfef 2 = .ok (.invokestatic 224, 3) := by decide +kernel
theorem dJ2_indexOf_4cfef_5 : decode cJ2_indexOf_4cfef 5 = .ok (.istore_n 2, 1) := by decide +kernel
theorem dJ2_indexOf_4cfef_6 : decode cJ2_indexOf_4cfef 6 = .ok (.iload_n 3, 1) := by decide +kernel
theorem dJ2_indexOf_4cfef_7 : decode cJ2_indexOf_4cfef 7 = .ok (.aload_n 0, 1) := by decide +kernel
theorem dJ2_indexOf_4cfef_8 : decode cJ2_indexOf_4cfef 8 = .ok (.arraylength, 1) := by decide +kernel
theorem dJ2_indexOf_4cfef_9 : decode cJ2_indexOf_4cfef 9 = .ok (.iconst 1, 1) := by decide +kernel
theorem dJ2_indexOf_4cfef_10 : decode cJ2_indexOf_4cfef 10 = .ok (.ishr, 1) := by decide +kernel
theorem dJ2_indexOf_4cfef_11 : decode cJ2_indexOf_4cfef 11 = .ok (.invokestatic 183, 3) := by decide +kernel
theorem dJ2_indexOf_4cfef_14 : decode cJ2_indexOf_4cfef 14 = .ok (.istore_n 3, 1) := by decide +kernel
theorem dJ2_indexOf_4cfef_15 : decode cJ2_indexOf_4cfef 15 = .ok (.iload_n 2, 1) := by decide +kernel
theorem dJ2_indexOf_4cfef_16 : decode cJ2_indexOf_4cfef 16 = .ok (.iload_n 3, 1) := by decide +kernel
theorem dJ2_indexOf_4cfef_17 : decode cJ2_indexOf_4cfef 17 = .ok (.if_icmp .lt 5, 3) := by decide +kernel
theorem dJ2_indexOf_4cfef_20 : decode cJ2_indexOf_4cfef 20 = .ok (.iconst (-1), 1) := by decide +kernel
theorem dJ2_indexOf_4cfef_21 : decode cJ2_indexOf_4cfef 21 = .ok (.ireturn, 1) := by decide +kernel
theorem dJ2_indexOf_4cfef_22 : decode cJ2_indexOf_4cfef 22 = .ok (.iload_n 1, 1) := by decide +kernel
theorem dJ2_indexOf_4cfef_23 : decode cJ2_indexOf_4cfef 23 = .ok (.ldc 227, 2) := by decide +kernel
theorem dJ2_indexOf_4cfef_25 : decode cJ2_indexOf_4cfef 25 = .ok (.if_icmp .ge 11, 3) := by decide +kernel
theorem dJ2_indexOf_4cfef_28 : decode cJ2_indexOf_4cfef 28 = .ok (.aload_n 0, 1) := by decide +kernel
theorem dJ2_indexOf_4cfef_29 : decode cJ2_indexOf_4cfef 29 = .ok (.iload_n 1, 1) := by decide +kernel
theorem dJ2_indexOf_4cfef_30 : decode cJ2_indexOf_4cfef 30 = .ok (.iload_n 2, 1) := by decide +kernel
theorem dJ2_indexOf_4cfef_31 : decode cJ2_indexOf_4cfef 31 = .ok (.iload_n 3, 1) := by decide +kernel
theorem dJ2_indexOf_4cfef_32 : decode cJ2_indexOf_4cfef 32 = .ok (.invokestatic 228, 3) := by decide +kernel
theorem dJ2_indexOf_4cfef_35 : decode cJ2_indexOf_4cfef 35 = .ok (.ireturn, 1) := by decide +kernel
theorem dJ2_indexOf_4cfef_36 : decode cJ2_indexOf_4cfef 36 = .ok (.aload_n 0, 1) := by decide +kernel
theorem dJ2_indexOf_4cfef_37 : decode cJ2_indexOf_4cfef 37 = .ok (.iload_n 1, 1) := by decide +kernel
theorem dJ2_indexOf_4cfef_38 : decode cJ2_indexOf_4cfef 38 = .ok (.iload_n 2, 1) := by decide +kernel
theorem dJ2_indexOf_4cfef_39 : decode cJ2_indexOf_4cfef 39 = .ok (.iload_n 3, 1) := by decide +kernel
theorem dJ2_indexOf_4cfef_40 : decode cJ2_indexOf_4cfef 40 = .ok (.invokestatic 232, 3) := by decide +kernel
theorem dJ2_indexOf_4cfef_43 : decode cJ2_indexOf_4cfef 43 = .ok (.ireturn, 1) := by decide +kernel
theorem dJ2_indexOfChar_4cfef_0 : decode cJ2_indexOfChar_4cfef 0 = .ok (.iload_n 2, 1) := by decide +kernel
theorem dJ2_indexOfChar_4cfef_1 : decode cJ2_indexOfChar_4cfef 1 = .ok (.iload_n 3, 1) := by decide +kernel
theorem dJ2_indexOfChar_4cfef_2 : decode cJ2_indexOfChar_4cfef 2 = .ok (.aload_n 0, 1) := by decide +kernel
theorem dJ2_indexOfChar_4cfef_3 : decode cJ2_indexOfChar_4cfef 3 = .ok (.invokestatic 96, 3) := by decide +kernel
theorem dJ2_indexOfChar_4cfef_6 : decode cJ2_indexOfChar_4cfef 6 = .ok (.aload_n 0, 1) := by decide +kernel
theorem dJ2_indexOfChar_4cfef_7 : decode cJ2_indexOfChar_4cfef 7 = .ok (.iload_n 1, 1) := by decide +kernel
theorem dJ2_indexOfChar_4cfef_8 : decode cJ2_indexOfChar_4cfef 8 = .ok (.iload_n 2, 1) := by decide +kernel
theorem dJ2_indexOfChar_4cfef_9 : decode cJ2_indexOfChar_4cfef 9 = .ok (.iload_n 3, 1) := by decide +kernel
theorem dJ2_indexOfChar_4cfef_10 : decode cJ2_indexOfChar_4cfef 10 = .ok (.invokestatic 244, 3) := by decide +kernel
theorem dJ2_indexOfChar_4cfef_13 : decode cJ2_indexOfChar_4cfef 13 = .ok (.ireturn, 1) := by decide +kernel
theorem dJ2_indexOfCharUnsafe_4cfef_0 : decode cJ2_indexOfCharUnsafe_4cfef 0 = .ok (.iload_n 2, 1) := by decide +kernel
theorem dJ2_indexOfCharUnsafe_4cfef_1 : decode cJ2_indexOfCharUnsafe_4cfef 1 = .ok (.istore 4, 2) := by decide +kernel
theorem dJ2_indexOfCharUnsafe_4cfef_3 : decode cJ2_indexOfCharUnsafe_4cfef 3 = .ok (.iload 4, 2) := by decide +kernel
theorem dJ2_indexOfCharUnsafe_4cfef_5 : decode cJ2_indexOfCharUnsafe_4cfef 5 = .ok (.iload_n 3, 1) := by decide +kernel
theorem dJ2_indexOfCharUnsafe_4cfef_6 : decode cJ2_indexOfCharUnsafe_4cfef 6 = .ok (.if_icmp .ge 22, 3) := by decide +kernel
theorem dJ2_indexOfCharUnsafe_4cfef_9 : decode cJ2_indexOfCharUnsafe_4cfef 9 = .ok (.aload_n 0, 1) := by decide +kernel
theorem dJ2_indexOfCharUnsafe_4cfef_10 : decode cJ2_indexOfCharUnsafe_4cfef 10 = .ok (.iload 4, 2) := by decide +kernel
theorem dJ2_indexOfCharUnsafe_4cfef_12 : decode cJ2_indexOfCharUnsafe_4cfef 12 = .ok (.invokestatic 71, 3) := by decide +kernel
theorem dJ2_indexOfCharUnsafe_4cfef_15 : decode cJ2_indexOfCharUnsafe_4cfef 15 = .ok (.iload_n 1, 1) := by decide +kernel
theorem dJ2_indexOfCharUnsafe_4cfef_16 : decode cJ2_indexOfCharUnsafe_4cfef 16 = .ok (.if_icmp .ne 6, 3) := by decide +kernel
theorem dJ2_indexOfCharUnsafe_4cfef_19 : decode cJ2_indexOfCharUnsafe_4cfef 19 = .ok (.iload 4, 2) := by decide +kernel
theorem dJ2_indexOfCharUnsafe_4cfef_21 : decode cJ2_indexOfCharUnsafe_4cfef 21 = .ok (.ireturn, 1) := by decide +kernel
theorem dJ2_indexOfCharUnsafe_4cfef_22 : decode cJ2_indexOfCharUnsafe_4cfef 22 = .ok (.iinc 4 1, 3) := by decide +kernel
theorem dJ2_indexOfCharUnsafe_4cfef_25 : decode cJ2_indexOfCharUnsafe_4cfef 25 = .ok (.goto (-22), 3) := by decide +kernel
theorem dJ2_indexOfCharUnsafe_4cfef_28 : decode cJ2_indexOfCharUnsafe_4cfef 28 = .ok (.iconst (-1), 1) := by decide +kernel
theorem dJ2_indexOfCharUnsafe_4cfef_29 : decode cJ2_indexOfCharUnsafe_4cfef 29 = .ok (.ireturn, 1) := by decide +kernel
theorem dJ2_indexOfSupplementary_4cfef_0 : decode cJ2_indexOfSupplementary_4cfef 0 = .ok (.iload_n 1, 1) := by decide +kernel
theorem dJ2_indexOfSupplementary_4cfef_1 : decode cJ2_indexOfSupplementary_4cfef 1 = .ok (.invokestatic 164, 3) := by decide +kernel
theorem dJ2_indexOfSupplementary_4cfef_4 : decode cJ2_indexOfSupplementary_4cfef 4 = .ok (.ifCond .eq 65, 3) := by decide +kernel
theorem dJ2_indexOfSupplementary_4cfef_7 : decode cJ2_indexOfSupplementary_4cfef 7 = .ok (.iload_n 1, 1) := by decide +kernel
theorem dJ2_indexOfSupplementary_4cfef_8 : decode cJ2_indexOfSupplementary_4cfef 8 = .ok (.invokestatic 157, 3) := by decide +kernel
theorem dJ2_indexOfSupplementary_4cfef_11 : decode cJ2_indexOfSupplementary_4cfef 11 = .ok (.istore 4, 2) := by decide +kernel
theorem dJ2_indexOfSupplementary_4cfef_13 : decode cJ2_indexOfSupplementary_4cfef 13 = .ok (.iload_n 1, 1) := by decide +kernel
theorem dJ2_indexOfSupplementary_4cfef_14 : decode cJ2_indexOfSupplementary_4cfef 14 = .ok (.invokestatic 161, 3) := by decide +kernel
theorem dJ2_indexOfSupplementary_4cfef_17 : decode cJ2_indexOfSupplementary_4cfef 17 = .ok (.istore 5, 2) := by decide +kernel
theorem dJ2_indexOfSupplementary_4cfef_19 : decode cJ2_indexOfSupplementary_4cfef 19 = .ok (.iload_n 2, 1) := by decide +kernel
theorem dJ2_indexOfSupplementary_4cfef_20 : decode cJ2_indexOfSupplementary_4cfef 20 = .ok (.iload_n 3, 1) := by decide +kernel
theorem dJ2_indexOfSupplementary_4cfef_21 : decode cJ2_indexOfSupplementary_4cfef 21 = .ok (.aload_n 0, 1) := by decide +kernel
theorem dJ2_indexOfSupplementary_4cfef_22 : decode cJ2_indexOfSupplementary_4cfef 22 = .ok (.invokestatic 96, 3) := by decide +kernel
theorem dJ2_indexOfSupplementary_4cfef_25 : decode cJ2_indexOfSupplementary_4cfef 25 = .ok (.iload_n 2, 1) := by decide +kernel
theorem dJ2_indexOfSupplementary_4cfef_26 : decode cJ2_indexOfSupplementary_4cfef 26 = .ok (.istore 6, 2) := by decide +kernel
theorem dJ2_indexOfSupplementary_4cfef_28 : decode cJ2_indexOfSupplementary_4cfef 28 = .ok (.iload 6, 2) := by decide +kernel
theorem dJ2_indexOfSupplementary_4cfef_30 : decode cJ2_indexOfSupplementary_4cfef 30 = .ok (.iload_n 3, 1) := by decide +kernel
theorem dJ2_indexOfSupplementary_4cfef_31 : decode cJ2_indexOfSupplementary_4cfef 31 = .ok (.iconst 1, 1) := by decide +kernel
theorem dJ2_indexOfSupplementary_4cfef_32 : decode cJ2_indexOfSupplementary_4cfef 32 = .ok (.isub, 1) := by decide +kernel
theorem dJ2_indexOfSupplementary_4cfef_33 : decode cJ2_indexOfSupplementary_4cfef 33 = .ok (.if_icmp .ge 36, 3) := by decide +kernel
theorem dJ2_indexOfSupplementary_4cfef_36 : decode cJ2_indexOfSupplementary_4cfef 36 = .ok (.aload_n 0, 1) := by decide +kernel
theorem dJ2_indexOfSupplementary_4cfef_37 : decode cJ2_indexOfSupplementary_4cfef 37 = .ok (.iload 6, 2) := by decide +kernel
theorem dJ2_indexOfSupplementary_4cfef_39 : decode cJ2_indexOfSupplementary_4cfef 39 = .ok (.invokestatic 71, 3) := by decide +kernel
theorem dJ2_indexOfSupplementary_4cfef_42 : decode cJ2_indexOfSupplementary_4cfef 42 = .ok (.iload 4, 2) := by decide +kernel
theorem dJ2_indexOfSupplementary_4cfef_44 : decode cJ2_indexOfSupplementary_4cfef 44 = .ok (.if_icmp .ne 19, 3) := by decide +kernel
theorem dJ2_indexOfSupplementary_4cfef_47 : decode cJ2_indexOfSupplementary_4cfef 47 = .ok (.aload_n 0, 1) := by decide +kernel
theorem dJ2_indexOfSupplementary_4cfef_48 : decode cJ2_indexOfSupplementary_4cfef 48 = .ok (.iload 6, 2) := by decide +kernel
theorem dJ2_indexOfSupplementary_4cfef_50 : decode cJ2_indexOfSupplementary_4cfef 50 = .ok (.iconst 1, 1) := by decide +kernel
theorem dJ2_indexOfSupplementary_4cfef_51 : decode cJ2_indexOfSupplementary_4cfef 51 = .ok (.iadd, 1) := by decide +kernel
theorem dJ2_indexOfSupplementary_4cfef_52 : decode cJ2_indexOfSupplementary_4cfef 52 = .ok (.invokestatic 71, 3) := by decide +kernel
theorem dJ2_indexOfSupplementary_4cfef_55 : decode cJ2_indexOfSupplementary_4cfef 55 = .ok (.iload 5, 2) := by decide +kernel
theorem dJ2_indexOfSupplementary_4cfef_57 : decode cJ2_indexOfSupplementary_4cfef 57 = .ok (.if_icmp .ne 6, 3) := by decide +kernel
theorem dJ2_indexOfSupplementary_4cfef_60 : decode cJ2_indexOfSupplementary_4cfef 60 = .ok (.iload 6, 2) := by decide +kernel
theorem dJ2_indexOfSupplementary_4cfef_62 : decode cJ2_indexOfSupplementary_4cfef 62 = .ok (.ireturn, 1) := by decide +kernel
theorem dJ2_indexOfSupplementary_4cfef_63 : decode cJ2_indexOfSupplementary_4cfef 63 = .ok (.iinc 6 1, 3) := by decide +kernel
theorem dJ2_indexOfSupplementary_4cfef_66 : decode cJ2_indexOfSupplementary_4cfef 66 = .ok (.goto (-38), 3) := by decide +kernel
theorem dJ2_indexOfSupplementary_4cfef_69 : decode cJ2_indexOfSupplementary_4cfef 69 = .ok (.iconst (-1), 1) := by decide +kernel
theorem dJ2_indexOfSupplementary_4cfef_70 : decode cJ2_indexOfSupplementary_4cfef 70 = .ok (.ireturn, 1) := by decide +kernel
theorem dJ2_checkBoundsBeginEnd_d044e_0 : decode cJ2_checkBoundsBeginEnd_d044e 0 = .ok (.iload_n 0, 1) := by decide +kernel
theorem dJ2_checkBoundsBeginEnd_d044e_1 : decode cJ2_checkBoundsBeginEnd_d044e 1 = .ok (.iload_n 1, 1) := by decide +kernel
theorem dJ2_checkBoundsBeginEnd_d044e_2 : decode cJ2_checkBoundsBeginEnd_d044e 2 = .ok (.aload_n 2, 1) := by decide +kernel
theorem dJ2_checkBoundsBeginEnd_d044e_3 : decode cJ2_checkBoundsBeginEnd_d044e 3 = .ok (.invokestatic 48, 3) := by decide +kernel
theorem dJ2_checkBoundsBeginEnd_d044e_6 : decode cJ2_checkBoundsBeginEnd_d044e 6 = .ok (.invokestatic 241, 3) := by decide +kernel
theorem dJ2_checkBoundsBeginEnd_d044e_9 : decode cJ2_checkBoundsBeginEnd_d044e 9 = .ok (.return_, 1) := by decide +kernel
theorem dJ3_checkFromToIndex_8c36e_0 : decode cJ3_checkFromToIndex_8c36e 0 = .ok (.iload_n 0, 1) := by decide +kernel
theorem dJ3_checkFromToIndex_8c36e_1 : decode cJ3_checkFromToIndex_8c36e 1 = .ok (.ifCond .lt 13, 3) := by decide +kernel
theorem dJ3_checkFromToIndex_8c36e_4 : decode cJ3_checkFromToIndex_8c36e 4 = .ok (.iload_n 0, 1) := by decide +kernel
theorem dJ3_checkFromToIndex_8c36e_5 : decode cJ3_checkFromToIndex_8c36e 5 = .ok (.iload_n 1, 1) := by decide +kernel
theorem dJ3_checkFromToIndex_8c36e_6 : decode cJ3_checkFromToIndex_8c36e 6 = .ok (.if_icmp .gt 8, 3) := by decide +kernel
theorem dJ3_checkFromToIndex_8c36e_9 : decode cJ3_checkFromToIndex_8c36e 9 = .ok (.iload_n 1, 1) := by decide +kernel
theorem dJ3_checkFromToIndex_8c36e_10 : decode cJ3_checkFromToIndex_8c36e 10 = .ok (.iload_n 2, 1) := by decide +kernel
theorem dJ3_checkFromToIndex_8c36e_11 : decode cJ3_checkFromToIndex_8c36e 11 = .ok (.if_icmp .le 11, 3) := by decide +kernel
theorem dJ3_checkFromToIndex_8c36e_14 : decode cJ3_checkFromToIndex_8c36e 14 = .ok (.aload_n 3, 1) := by decide +kernel
theorem dJ3_checkFromToIndex_8c36e_15 : decode cJ3_checkFromToIndex_8c36e 15 = .ok (.iload_n 0, 1) := by decide +kernel
theorem dJ3_checkFromToIndex_8c36e_16 : decode cJ3_checkFromToIndex_8c36e 16 = .ok (.iload_n 1, 1) := by decide +kernel
theorem dJ3_checkFromToIndex_8c36e_17 : decode cJ3_checkFromToIndex_8c36e 17 = .ok (.iload_n 2, 1) := by decide +kernel
theorem dJ3_checkFromToIndex_8c36e_18 : decode cJ3_checkFromToIndex_8c36e 18 = .ok (.invokestatic 99, 3) := by decide +kernel
theorem dJ3_checkFromToIndex_8c36e_21 : decode cJ3_checkFromToIndex_8c36e 21 = .ok (.athrow, 1) := by decide +kernel
theorem dJ3_checkFromToIndex_8c36e_22 : decode cJ3_checkFromToIndex_8c36e 22 = .ok (.iload_n 0, 1) := by decide +kernel
theorem dJ3_checkFromToIndex_8c36e_23 : decode cJ3_checkFromToIndex_8c36e 23 = .ok (.ireturn, 1) := by decide +kernel
theorem dL_law_0 : decode cL_law 0 = .ok (.new 7, 3) := by decide +kernel
theorem dL_law_3 : decode cL_law 3 = .ok (.dup, 1) := by decide +kernel
theorem dL_law_4 : decode cL_law 4 = .ok (.invokespecial 9, 3) := by decide +kernel
theorem dL_law_7 : decode cL_law 7 = .ok (.astore_n 1, 1) := by decide +kernel
theorem dL_law_8 : decode cL_law 8 = .ok (.new 10, 3) := by decide +kernel
theorem dL_law_11 : decode cL_law 11 = .ok (.dup, 1) := by decide +kernel
theorem dL_law_12 : decode cL_law 12 = .ok (.invokespecial 12, 3) := by decide +kernel
theorem dL_law_15 : decode cL_law 15 = .ok (.astore_n 2, 1) := by decide +kernel
theorem dL_law_16 : decode cL_law 16 = .ok (.iconst 0, 1) := by decide +kernel
theorem dL_law_17 : decode cL_law 17 = .ok (.istore_n 3, 1) := by decide +kernel
theorem dL_law_18 : decode cL_law 18 = .ok (.iload_n 3, 1) := by decide +kernel
theorem dL_law_19 : decode cL_law 19 = .ok (.aload_n 0, 1) := by decide +kernel
theorem dL_law_20 : decode cL_law 20 = .ok (.arraylength, 1) := by decide +kernel
theorem dL_law_21 : decode cL_law 21 = .ok (.bipush 6, 2) := by decide +kernel
theorem dL_law_23 : decode cL_law 23 = .ok (.isub, 1) := by decide +kernel
theorem dL_law_24 : decode cL_law 24 = .ok (.if_icmp .gt 1561, 3) := by decide +kernel
theorem dL_law_27 : decode cL_law 27 = .ok (.aload_n 0, 1) := by decide +kernel
theorem dL_law_28 : decode cL_law 28 = .ok (.iload_n 3, 1) := by decide +kernel
theorem dL_law_29 : decode cL_law 29 = .ok (.iaload, 1) := by decide +kernel
theorem dL_law_30 : decode cL_law 30 = .ok (.bipush 63, 2) := by decide +kernel
theorem dL_law_32 : decode cL_law 32 = .ok (.iand, 1) := by decide +kernel
theorem dL_law_33 : decode cL_law 33 = .ok (.tableswitch 1546 0 36 #[163, 226, 269, 302, 355, 398, 431, 510, 543, 576, 609, 652, 675, 698, 731, 754, 787, 810, 833, 866, 899, 962, 975, 1008, 1031, 1074, 1097, 1156, 1169, 1212, 1235, 1268, 1331, 1374, 1397, 1450, 1513], 163) := by decide +kernel
theorem dL_law_196 : decode cL_law 196 = .ok (.aload_n 1, 1) := by decide +kernel
theorem dL_law_197 : decode cL_law 197 = .ok (.aload_n 0, 1) := by decide +kernel
theorem dL_law_198 : decode cL_law 198 = .ok (.iload_n 3, 1) := by decide +kernel
theorem dL_law_199 : decode cL_law 199 = .ok (.iconst 1, 1) := by decide +kernel
theorem dL_law_200 : decode cL_law 200 = .ok (.iadd, 1) := by decide +kernel
theorem dL_law_201 : decode cL_law 201 = .ok (.iaload, 1) := by decide +kernel
theorem dL_law_202 : decode cL_law 202 = .ok (.aload_n 0, 1) := by decide +kernel
theorem dL_law_203 : decode cL_law 203 = .ok (.iload_n 3, 1) := by decide +kernel
theorem dL_law_204 : decode cL_law 204 = .ok (.iconst 2, 1) := by decide +kernel
theorem dL_law_205 : decode cL_law 205 = .ok (.iadd, 1) := by decide +kernel
theorem dL_law_206 : decode cL_law 206 = .ok (.iaload, 1) := by decide +kernel
theorem dL_law_207 : decode cL_law 207 = .ok (.aload_n 0, 1) := by decide +kernel
theorem dL_law_208 : decode cL_law 208 = .ok (.iload_n 3, 1) := by decide +kernel
theorem dL_law_209 : decode cL_law 209 = .ok (.iconst 3, 1) := by decide +kernel
theorem dL_law_210 : decode cL_law 210 = .ok (.iadd, 1) := by decide +kernel
theorem dL_law_211 : decode cL_law 211 = .ok (.iaload, 1) := by decide +kernel
theorem dL_law_212 : decode cL_law 212 = .ok (.aload_n 0, 1) := by decide +kernel
theorem dL_law_213 : decode cL_law 213 = .ok (.iload_n 3, 1) := by decide +kernel
theorem dL_law_214 : decode cL_law 214 = .ok (.iconst 4, 1) := by decide +kernel
theorem dL_law_215 : decode cL_law 215 = .ok (.iadd, 1) := by decide +kernel
theorem dL_law_216 : decode cL_law 216 = .ok (.iaload, 1) := by decide +kernel
theorem dL_law_217 : decode cL_law 217 = .ok (.aload_n 0, 1) := by decide +kernel
theorem dL_law_218 : decode cL_law 218 = .ok (.iload_n 3, 1) := by decide +kernel
theorem dL_law_219 : decode cL_law 219 = .ok (.iconst 5, 1) := by decide +kernel
theorem dL_law_220 : decode cL_law 220 = .ok (.iadd, 1) := by decide +kernel
theorem dL_law_221 : decode cL_law 221 = .ok (.iaload, 1) := by decide +kernel
theorem dL_law_222 : decode cL_law 222 = .ok (.invokevirtual 13, 3) := by decide +kernel
theorem dL_law_225 : decode cL_law 225 = .ok (.aload_n 2, 1) := by decide +kernel
theorem dL_law_226 : decode cL_law 226 = .ok (.aload_n 0, 1) := by decide +kernel
theorem dL_law_227 : decode cL_law 227 = .ok (.iload_n 3, 1) := by decide +kernel
theorem dL_law_228 : decode cL_law 228 = .ok (.iconst 1, 1) := by decide +kernel
theorem dL_law_229 : decode cL_law 229 = .ok (.iadd, 1) := by decide +kernel
theorem dL_law_230 : decode cL_law 230 = .ok (.iaload, 1) := by decide +kernel
theorem dL_law_231 : decode cL_law 231 = .ok (.aload_n 0, 1) := by decide +kernel
theorem dL_law_232 : decode cL_law 232 = .ok (.iload_n 3, 1) := by decide +kernel
theorem dL_law_233 : decode cL_law 233 = .ok (.iconst 2, 1) := by decide +kernel
theorem dL_law_234 : decode cL_law 234 = .ok (.iadd, 1) := by decide +kernel
theorem dL_law_235 : decode cL_law 235 = .ok (.iaload, 1) := by decide +kernel
theorem dL_law_236 : decode cL_law 236 = .ok (.aload_n 0, 1) := by decide +kernel
theorem dL_law_237 : decode cL_law 237 = .ok (.iload_n 3, 1) := by decide +kernel
theorem dL_law_238 : decode cL_law 238 = .ok (.iconst 3, 1) := by decide +kernel
theorem dL_law_239 : decode cL_law 239 = .ok (.iadd, 1) := by decide +kernel
theorem dL_law_240 : decode cL_law 240 = .ok (.iaload, 1) := by decide +kernel
theorem dL_law_241 : decode cL_law 241 = .ok (.aload_n 0, 1) := by decide +kernel
theorem dL_law_242 : decode cL_law 242 = .ok (.iload_n 3, 1) := by decide +kernel
theorem dL_law_243 : decode cL_law 243 = .ok (.iconst 4, 1) := by decide +kernel
theorem dL_law_244 : decode cL_law 244 = .ok (.iadd, 1) := by decide +kernel
theorem dL_law_245 : decode cL_law 245 = .ok (.iaload, 1) := by decide +kernel
theorem dL_law_246 : decode cL_law 246 = .ok (.aload_n 0, 1) := by decide +kernel
theorem dL_law_247 : decode cL_law 247 = .ok (.iload_n 3, 1) := by decide +kernel
theorem dL_law_248 : decode cL_law 248 = .ok (.iconst 5, 1) := by decide +kernel
theorem dL_law_249 : decode cL_law 249 = .ok (.iadd, 1) := by decide +kernel
theorem dL_law_250 : decode cL_law 250 = .ok (.iaload, 1) := by decide +kernel
theorem dL_law_251 : decode cL_law 251 = .ok (.invokevirtual 17, 3) := by decide +kernel
theorem dL_law_254 : decode cL_law 254 = .ok (.if_icmp .eq 1325, 3) := by decide +kernel
theorem dL_law_257 : decode cL_law 257 = .ok (.iconst 0, 1) := by decide +kernel
theorem dL_law_258 : decode cL_law 258 = .ok (.ireturn, 1) := by decide +kernel
theorem dL_law_259 : decode cL_law 259 = .ok (.aload_n 1, 1) := by decide +kernel
theorem dL_law_260 : decode cL_law 260 = .ok (.aload_n 0, 1) := by decide +kernel
theorem dL_law_261 : decode cL_law 261 = .ok (.iload_n 3, 1) := by decide +kernel
theorem dL_law_262 : decode cL_law 262 = .ok (.iconst 1, 1) := by decide +kernel
theorem dL_law_263 : decode cL_law 263 = .ok (.iadd, 1) := by decide +kernel
theorem dL_law_264 : decode cL_law 264 = .ok (.iaload, 1) := by decide +kernel
theorem dL_law_265 : decode cL_law 265 = .ok (.aload_n 0, 1) := by decide +kernel
theorem dL_law_266 : decode cL_law 266 = .ok (.iload_n 3, 1) := by decide +kernel
theorem dL_law_267 : decode cL_law 267 = .ok (.iconst 2, 1) := by decide +kernel
theorem dL_law_268 : decode cL_law 268 = .ok (.iadd, 1) := by decide +kernel
theorem dL_law_269 : decode cL_law 269 = .ok (.iaload, 1) := by decide +kernel
theorem dL_law_270 : decode cL_law 270 = .ok (.aload_n 0, 1) := by decide +kernel
theorem dL_law_271 : decode cL_law 271 = .ok (.iload_n 3, 1) := by decide +kernel
theorem dL_law_272 : decode cL_law 272 = .ok (.iconst 3, 1) := by decide +kernel
theorem dL_law_273 : decode cL_law 273 = .ok (.iadd, 1) := by decide +kernel
theorem dL_law_274 : decode cL_law 274 = .ok (.iaload, 1) := by decide +kernel
theorem dL_law_275 : decode cL_law 275 = .ok (.invokevirtual 18, 3) := by decide +kernel
theorem dL_law_278 : decode cL_law 278 = .ok (.aload_n 2, 1) := by decide +kernel
theorem dL_law_279 : decode cL_law 279 = .ok (.aload_n 0, 1) := by decide +kernel
theorem dL_law_280 : decode cL_law 280 = .ok (.iload_n 3, 1) := by decide +kernel
theorem dL_law_281 : decode cL_law 281 = .ok (.iconst 1, 1) := by decide +kernel
theorem dL_law_282 : decode cL_law 282 = .ok (.iadd, 1) := by decide +kernel
theorem dL_law_283 : decode cL_law 283 = .ok (.iaload, 1) := by decide +kernel
theorem dL_law_284 : decode cL_law 284 = .ok (.aload_n 0, 1) := by decide +kernel
theorem dL_law_285 : decode cL_law 285 = .ok (.iload_n 3, 1) := by decide +kernel
theorem dL_law_286 : decode cL_law 286 = .ok (.iconst 2, 1) := by decide +kernel
theorem dL_law_287 : decode cL_law 287 = .ok (.iadd, 1) := by decide +kernel
theorem dL_law_288 : decode cL_law 288 = .ok (.iaload, 1) := by decide +kernel
theorem dL_law_289 : decode cL_law 289 = .ok (.aload_n 0, 1) := by decide +kernel
theorem dL_law_290 : decode cL_law 290 = .ok (.iload_n 3, 1) := by decide +kernel
theorem dL_law_291 : decode cL_law 291 = .ok (.iconst 3, 1) := by decide +kernel
theorem dL_law_292 : decode cL_law 292 = .ok (.iadd, 1) := by decide +kernel
theorem dL_law_293 : decode cL_law 293 = .ok (.iaload, 1) := by decide +kernel
theorem dL_law_294 : decode cL_law 294 = .ok (.invokevirtual 22, 3) := by decide +kernel
theorem dL_law_297 : decode cL_law 297 = .ok (.if_icmp .eq 1282, 3) := by decide +kernel
theorem dL_law_300 : decode cL_law 300 = .ok (.iconst 0, 1) := by decide +kernel
theorem dL_law_301 : decode cL_law 301 = .ok (.ireturn, 1) := by decide +kernel
theorem dL_law_302 : decode cL_law 302 = .ok (.aload_n 1, 1) := by decide +kernel
theorem dL_law_303 : decode cL_law 303 = .ok (.aload_n 0, 1) := by decide +kernel
theorem dL_law_304 : decode cL_law 304 = .ok (.iload_n 3, 1) := by decide +kernel
theorem dL_law_305 : decode cL_law 305 = .ok (.iconst 1, 1) := by decide +kernel
theorem dL_law_306 : decode cL_law 306 = .ok (.iadd, 1) := by decide +kernel
theorem dL_law_307 : decode cL_law 307 = .ok (.iaload, 1) := by decide +kernel
theorem dL_law_308 : decode cL_law 308 = .ok (.aload_n 0, 1) := by decide +kernel
theorem dL_law_309 : decode cL_law 309 = .ok (.iload_n 3, 1) := by decide +kernel
theorem dL_law_310 : decode cL_law 310 = .ok (.iconst 2, 1) := by decide +kernel
theorem dL_law_311 : decode cL_law 311 = .ok (.iadd, 1) := by decide +kernel
theorem dL_law_312 : decode cL_law 312 = .ok (.iaload, 1) := by decide +kernel
theorem dL_law_313 : decode cL_law 313 = .ok (.invokevirtual 23, 3) := by decide +kernel
theorem dL_law_316 : decode cL_law 316 = .ok (.aload_n 2, 1) := by decide +kernel
theorem dL_law_317 : decode cL_law 317 = .ok (.aload_n 0, 1) := by decide +kernel
theorem dL_law_318 : decode cL_law 318 = .ok (.iload_n 3, 1) := by decide +kernel
theorem dL_law_319 : decode cL_law 319 = .ok (.iconst 1, 1) := by decide +kernel
theorem dL_law_320 : decode cL_law 320 = .ok (.iadd, 1) := by decide +kernel
theorem dL_law_321 : decode cL_law 321 = .ok (.iaload, 1) := by decide +kernel
theorem dL_law_322 : decode cL_law 322 = .ok (.aload_n 0, 1) := by decide +kernel
theorem dL_law_323 : decode cL_law 323 = .ok (.iload_n 3, 1) := by decide +kernel
theorem dL_law_324 : decode cL_law 324 = .ok (.iconst 2, 1) := by decide +kernel
theorem dL_law_325 : decode cL_law 325 = .ok (.iadd, 1) := by decide +kernel
theorem dL_law_326 : decode cL_law 326 = .ok (.iaload, 1) := by decide +kernel
theorem dL_law_327 : decode cL_law 327 = .ok (.invokevirtual 27, 3) := by decide +kernel
theorem dL_law_330 : decode cL_law 330 = .ok (.if_icmp .eq 1249, 3) := by decide +kernel
theorem dL_law_333 : decode cL_law 333 = .ok (.iconst 0, 1) := by decide +kernel
theorem dL_law_334 : decode cL_law 334 = .ok (.ireturn, 1) := by decide +kernel
theorem dL_law_335 : decode cL_law 335 = .ok (.aload_n 1, 1) := by decide +kernel
theorem dL_law_336 : decode cL_law 336 = .ok (.aload_n 0, 1) := by decide +kernel
theorem dL_law_337 : decode cL_law 337 = .ok (.iload_n 3, 1) := by decide +kernel
theorem dL_law_338 : decode cL_law 338 = .ok (.iconst 1, 1) := by decide +kernel
theorem dL_law_339 : decode cL_law 339 = .ok (.iadd, 1) := by decide +kernel
theorem dL_law_340 : decode cL_law 340 = .ok (.iaload, 1) := by decide +kernel
theorem dL_law_341 : decode cL_law 341 = .ok (.aload_n 0, 1) := by decide +kernel
theorem dL_law_342 : decode cL_law 342 = .ok (.iload_n 3, 1) := by decide +kernel
theorem dL_law_343 : decode cL_law 343 = .ok (.iconst 2, 1) := by decide +kernel
theorem dL_law_344 : decode cL_law 344 = .ok (.iadd, 1) := by decide +kernel
theorem dL_law_345 : decode cL_law 345 = .ok (.iaload, 1) := by decide +kernel
theorem dL_law_346 : decode cL_law 346 = .ok (.aload_n 0, 1) := by decide +kernel
theorem dL_law_347 : decode cL_law 347 = .ok (.iload_n 3, 1) := by decide +kernel
theorem dL_law_348 : decode cL_law 348 = .ok (.iconst 3, 1) := by decide +kernel
theorem dL_law_349 : decode cL_law 349 = .ok (.iadd, 1) := by decide +kernel
theorem dL_law_350 : decode cL_law 350 = .ok (.iaload, 1) := by decide +kernel
theorem dL_law_351 : decode cL_law 351 = .ok (.aload_n 0, 1) := by decide +kernel
theorem dL_law_352 : decode cL_law 352 = .ok (.iload_n 3, 1) := by decide +kernel
theorem dL_law_353 : decode cL_law 353 = .ok (.iconst 4, 1) := by decide +kernel
theorem dL_law_354 : decode cL_law 354 = .ok (.iadd, 1) := by decide +kernel
theorem dL_law_355 : decode cL_law 355 = .ok (.iaload, 1) := by decide +kernel
theorem dL_law_356 : decode cL_law 356 = .ok (.invokevirtual 28, 3) := by decide +kernel
theorem dL_law_359 : decode cL_law 359 = .ok (.aload_n 2, 1) := by decide +kernel
theorem dL_law_360 : decode cL_law 360 = .ok (.aload_n 0, 1) := by decide +kernel
theorem dL_law_361 : decode cL_law 361 = .ok (.iload_n 3, 1) := by decide +kernel
theorem dL_law_362 : decode cL_law 362 = .ok (.iconst 1, 1) := by decide +kernel
theorem dL_law_363 : decode cL_law 363 = .ok (.iadd, 1) := by decide +kernel
theorem dL_law_364 : decode cL_law 364 = .ok (.iaload, 1) := by decide +kernel
theorem dL_law_365 : decode cL_law 365 = .ok (.aload_n 0, 1) := by decide +kernel
theorem dL_law_366 : decode cL_law 366 = .ok (.iload_n 3, 1) := by decide +kernel
theorem dL_law_367 : decode cL_law 367 = .ok (.iconst 2, 1) := by decide +kernel
theorem dL_law_368 : decode cL_law 368 = .ok (.iadd, 1) := by decide +kernel
theorem dL_law_369 : decode cL_law 369 = .ok (.iaload, 1) := by decide +kernel
theorem dL_law_370 : decode cL_law 370 = .ok (.aload_n 0, 1) := by decide +kernel
theorem dL_law_371 : decode cL_law 371 = .ok (.iload_n 3, 1) := by decide +kernel
theorem dL_law_372 : decode cL_law 372 = .ok (.iconst 3, 1) := by decide +kernel
theorem dL_law_373 : decode cL_law 373 = .ok (.iadd, 1) := by decide +kernel
theorem dL_law_374 : decode cL_law 374 = .ok (.iaload, 1) := by decide +kernel
theorem dL_law_375 : decode cL_law 375 = .ok (.aload_n 0, 1) := by decide +kernel
theorem dL_law_376 : decode cL_law 376 = .ok (.iload_n 3, 1) := by decide +kernel
theorem dL_law_377 : decode cL_law 377 = .ok (.iconst 4, 1) := by decide +kernel
theorem dL_law_378 : decode cL_law 378 = .ok (.iadd, 1) := by decide +kernel
theorem dL_law_379 : decode cL_law 379 = .ok (.iaload, 1) := by decide +kernel
theorem dL_law_380 : decode cL_law 380 = .ok (.invokevirtual 32, 3) := by decide +kernel
theorem dL_law_383 : decode cL_law 383 = .ok (.if_icmp .eq 1196, 3) := by decide +kernel
theorem dL_law_386 : decode cL_law 386 = .ok (.iconst 0, 1) := by decide +kernel
theorem dL_law_387 : decode cL_law 387 = .ok (.ireturn, 1) := by decide +kernel
theorem dL_law_388 : decode cL_law 388 = .ok (.aload_n 1, 1) := by decide +kernel
theorem dL_law_389 : decode cL_law 389 = .ok (.aload_n 0, 1) := by decide +kernel
theorem dL_law_390 : decode cL_law 390 = .ok (.iload_n 3, 1) := by decide +kernel
theorem dL_law_391 : decode cL_law 391 = .ok (.iconst 1, 1) := by decide +kernel
theorem dL_law_392 : decode cL_law 392 = .ok (.iadd, 1) := by decide +kernel
theorem dL_law_393 : decode cL_law 393 = .ok (.iaload, 1) := by decide +kernel
theorem dL_law_394 : decode cL_law 394 = .ok (.aload_n 0, 1) := by decide +kernel
theorem dL_law_395 : decode cL_law 395 = .ok (.iload_n 3, 1) := by decide +kernel
theorem dL_law_396 : decode cL_law 396 = .ok (.iconst 2, 1) := by decide +kernel
theorem dL_law_397 : decode cL_law 397 = .ok (.iadd, 1) := by decide +kernel
theorem dL_law_398 : decode cL_law 398 = .ok (.iaload, 1) := by decide +kernel
theorem dL_law_399 : decode cL_law 399 = .ok (.aload_n 0, 1) := by decide +kernel
theorem dL_law_400 : decode cL_law 400 = .ok (.iload_n 3, 1) := by decide +kernel
theorem dL_law_401 : decode cL_law 401 = .ok (.iconst 3, 1) := by decide +kernel
theorem dL_law_402 : decode cL_law 402 = .ok (.iadd, 1) := by decide +kernel
theorem dL_law_403 : decode cL_law 403 = .ok (.iaload, 1) := by decide +kernel
theorem dL_law_404 : decode cL_law 404 = .ok (.invokevirtual 33, 3) := by decide +kernel
theorem dL_law_407 : decode cL_law 407 = .ok (.aload_n 2, 1) := by decide +kernel
theorem dL_law_408 : decode cL_law 408 = .ok (.aload_n 0, 1) := by decide +kernel
theorem dL_law_409 : decode cL_law 409 = .ok (.iload_n 3, 1) := by decide +kernel
theorem dL_law_410 : decode cL_law 410 = .ok (.iconst 1, 1) := by decide +kernel
theorem dL_law_411 : decode cL_law 411 = .ok (.iadd, 1) := by decide +kernel
theorem dL_law_412 : decode cL_law 412 = .ok (.iaload, 1) := by decide +kernel
theorem dL_law_413 : decode cL_law 413 = .ok (.aload_n 0, 1) := by decide +kernel
theorem dL_law_414 : decode cL_law 414 = .ok (.iload_n 3, 1) := by decide +kernel
theorem dL_law_415 : decode cL_law 415 = .ok (.iconst 2, 1) := by decide +kernel
theorem dL_law_416 : decode cL_law 416 = .ok (.iadd, 1) := by decide +kernel
theorem dL_law_417 : decode cL_law 417 = .ok (.iaload, 1) := by decide +kernel
theorem dL_law_418 : decode cL_law 418 = .ok (.aload_n 0, 1) := by decide +kernel
theorem dL_law_419 : decode cL_law 419 = .ok (.iload_n 3, 1) := by decide +kernel
theorem dL_law_420 : decode cL_law 420 = .ok (.iconst 3, 1) := by decide +kernel
theorem dL_law_421 : decode cL_law 421 = .ok (.iadd, 1) := by decide +kernel
theorem dL_law_422 : decode cL_law 422 = .ok (.iaload, 1) := by decide +kernel
theorem dL_law_423 : decode cL_law 423 = .ok (.invokevirtual 36, 3) := by decide +kernel
theorem dL_law_426 : decode cL_law 426 = .ok (.if_icmp .eq 1153, 3) := by decide +kernel
theorem dL_law_429 : decode cL_law 429 = .ok (.iconst 0, 1) := by decide +kernel
theorem dL_law_430 : decode cL_law 430 = .ok (.ireturn, 1) := by decide +kernel
theorem dL_law_431 : decode cL_law 431 = .ok (.aload_n 1, 1) := by decide +kernel
theorem dL_law_432 : decode cL_law 432 = .ok (.aload_n 0, 1) := by decide +kernel
theorem dL_law_433 : decode cL_law 433 = .ok (.iload_n 3, 1) := by decide +kernel
theorem dL_law_434 : decode cL_law 434 = .ok (.iconst 1, 1) := by decide +kernel
theorem dL_law_435 : decode cL_law 435 = .ok (.iadd, 1) := by decide +kernel
theorem dL_law_436 : decode cL_law 436 = .ok (.iaload, 1) := by decide +kernel
theorem dL_law_437 : decode cL_law 437 = .ok (.aload_n 0, 1) := by decide +kernel
theorem dL_law_438 : decode cL_law 438 = .ok (.iload_n 3, 1) := by decide +kernel
theorem dL_law_439 : decode cL_law 439 = .ok (.iconst 2, 1) := by decide +kernel
theorem dL_law_440 : decode cL_law 440 = .ok (.iadd, 1) := by decide +kernel
theorem dL_law_441 : decode cL_law 441 = .ok (.iaload, 1) := by decide +kernel
theorem dL_law_442 : decode cL_law 442 = .ok (.invokevirtual 37, 3) := by decide +kernel
theorem dL_law_445 : decode cL_law 445 = .ok (.aload_n 2, 1) := by decide +kernel
theorem dL_law_446 : decode cL_law 446 = .ok (.aload_n 0, 1) := by decide +kernel
theorem dL_law_447 : decode cL_law 447 = .ok (.iload_n 3, 1) := by decide +kernel
theorem dL_law_448 : decode cL_law 448 = .ok (.iconst 1, 1) := by decide +kernel
theorem dL_law_449 : decode cL_law 449 = .ok (.iadd, 1) := by decide +kernel
theorem dL_law_450 : decode cL_law 450 = .ok (.iaload, 1) := by decide +kernel
theorem dL_law_451 : decode cL_law 451 = .ok (.aload_n 0, 1) := by decide +kernel
theorem dL_law_452 : decode cL_law 452 = .ok (.iload_n 3, 1) := by decide +kernel
theorem dL_law_453 : decode cL_law 453 = .ok (.iconst 2, 1) := by decide +kernel
theorem dL_law_454 : decode cL_law 454 = .ok (.iadd, 1) := by decide +kernel
theorem dL_law_455 : decode cL_law 455 = .ok (.iaload, 1) := by decide +kernel
theorem dL_law_456 : decode cL_law 456 = .ok (.invokevirtual 40, 3) := by decide +kernel
theorem dL_law_459 : decode cL_law 459 = .ok (.if_icmp .eq 1120, 3) := by decide +kernel
theorem dL_law_462 : decode cL_law 462 = .ok (.iconst 0, 1) := by decide +kernel
theorem dL_law_463 : decode cL_law 463 = .ok (.ireturn, 1) := by decide +kernel
theorem dL_law_464 : decode cL_law 464 = .ok (.aload_n 1, 1) := by decide +kernel
theorem dL_law_465 : decode cL_law 465 = .ok (.aload_n 0, 1) := by decide +kernel
theorem dL_law_466 : decode cL_law 466 = .ok (.iload_n 3, 1) := by decide +kernel
theorem dL_law_467 : decode cL_law 467 = .ok (.iconst 1, 1) := by decide +kernel
theorem dL_law_468 : decode cL_law 468 = .ok (.iadd, 1) := by decide +kernel
theorem dL_law_469 : decode cL_law 469 = .ok (.iaload, 1) := by decide +kernel
theorem dL_law_470 : decode cL_law 470 = .ok (.aload_n 0, 1) := by decide +kernel
theorem dL_law_471 : decode cL_law 471 = .ok (.iload_n 3, 1) := by decide +kernel
theorem dL_law_472 : decode cL_law 472 = .ok (.iconst 2, 1) := by decide +kernel
theorem dL_law_473 : decode cL_law 473 = .ok (.iadd, 1) := by decide +kernel
theorem dL_law_474 : decode cL_law 474 = .ok (.iaload, 1) := by decide +kernel
theorem dL_law_475 : decode cL_law 475 = .ok (.aload_n 0, 1) := by decide +kernel
theorem dL_law_476 : decode cL_law 476 = .ok (.iload_n 3, 1) := by decide +kernel
theorem dL_law_477 : decode cL_law 477 = .ok (.iconst 3, 1) := by decide +kernel
theorem dL_law_478 : decode cL_law 478 = .ok (.iadd, 1) := by decide +kernel
theorem dL_law_479 : decode cL_law 479 = .ok (.iaload, 1) := by decide +kernel
theorem dL_law_480 : decode cL_law 480 = .ok (.aload_n 0, 1) := by decide +kernel
theorem dL_law_481 : decode cL_law 481 = .ok (.iload_n 3, 1) := by decide +kernel
theorem dL_law_482 : decode cL_law 482 = .ok (.iconst 4, 1) := by decide +kernel
theorem dL_law_483 : decode cL_law 483 = .ok (.iadd, 1) := by decide +kernel
theorem dL_law_484 : decode cL_law 484 = .ok (.iaload, 1) := by decide +kernel
theorem dL_law_485 : decode cL_law 485 = .ok (.aload_n 0, 1) := by decide +kernel
theorem dL_law_486 : decode cL_law 486 = .ok (.iload_n 3, 1) := by decide +kernel
theorem dL_law_487 : decode cL_law 487 = .ok (.iconst 5, 1) := by decide +kernel
theorem dL_law_488 : decode cL_law 488 = .ok (.iadd, 1) := by decide +kernel
theorem dL_law_489 : decode cL_law 489 = .ok (.iaload, 1) := by decide +kernel
theorem dL_law_490 : decode cL_law 490 = .ok (.ifCond .eq 7, 3) := by decide +kernel
theorem dL_law_493 : decode cL_law 493 = .ok (.iconst 1, 1) := by decide +kernel
theorem dL_law_494 : decode cL_law 494 = .ok (.goto 4, 3) := by decide +kernel
theorem dL_law_497 : decode cL_law 497 = .ok (.iconst 0, 1) := by decide +kernel
theorem dL_law_498 : decode cL_law 498 = .ok (.invokevirtual 41, 3) := by decide +kernel
theorem dL_law_501 : decode cL_law 501 = .ok (.aload_n 2, 1) := by decide +kernel
theorem dL_law_502 : decode cL_law 502 = .ok (.aload_n 0, 1) := by decide +kernel
theorem dL_law_503 : decode cL_law 503 = .ok (.iload_n 3, 1) := by decide +kernel
theorem dL_law_504 : decode cL_law 504 = .ok (.iconst 1, 1) := by decide +kernel
theorem dL_law_505 : decode cL_law 505 = .ok (.iadd, 1) := by decide +kernel
theorem dL_law_506 : decode cL_law 506 = .ok (.iaload, 1) := by decide +kernel
theorem dL_law_507 : decode cL_law 507 = .ok (.aload_n 0, 1) := by decide +kernel
theorem dL_law_508 : decode cL_law 508 = .ok (.iload_n 3, 1) := by decide +kernel
theorem dL_law_509 : decode cL_law 509 = .ok (.iconst 2, 1) := by decide +kernel
theorem dL_law_510 : decode cL_law 510 = .ok (.iadd, 1) := by decide +kernel
theorem dL_law_511 : decode cL_law 511 = .ok (.iaload, 1) := by decide +kernel
theorem dL_law_512 : decode cL_law 512 = .ok (.aload_n 0, 1) := by decide +kernel
theorem dL_law_513 : decode cL_law 513 = .ok (.iload_n 3, 1) := by decide +kernel
theorem dL_law_514 : decode cL_law 514 = .ok (.iconst 3, 1) := by decide +kernel
theorem dL_law_515 : decode cL_law 515 = .ok (.iadd, 1) := by decide +kernel
theorem dL_law_516 : decode cL_law 516 = .ok (.iaload, 1) := by decide +kernel
theorem dL_law_517 : decode cL_law 517 = .ok (.aload_n 0, 1) := by decide +kernel
theorem dL_law_518 : decode cL_law 518 = .ok (.iload_n 3, 1) := by decide +kernel
theorem dL_law_519 : decode cL_law 519 = .ok (.iconst 4, 1) := by decide +kernel
theorem dL_law_520 : decode cL_law 520 = .ok (.iadd, 1) := by decide +kernel
theorem dL_law_521 : decode cL_law 521 = .ok (.iaload, 1) := by decide +kernel
theorem dL_law_522 : decode cL_law 522 = .ok (.aload_n 0, 1) := by decide +kernel
theorem dL_law_523 : decode cL_law 523 = .ok (.iload_n 3, 1) := by decide +kernel
theorem dL_law_524 : decode cL_law 524 = .ok (.iconst 5, 1) := by decide +kernel
theorem dL_law_525 : decode cL_law 525 = .ok (.iadd, 1) := by decide +kernel
theorem dL_law_526 : decode cL_law 526 = .ok (.iaload, 1) := by decide +kernel
theorem dL_law_527 : decode cL_law 527 = .ok (.ifCond .eq 7, 3) := by decide +kernel
theorem dL_law_530 : decode cL_law 530 = .ok (.iconst 1, 1) := by decide +kernel
theorem dL_law_531 : decode cL_law 531 = .ok (.goto 4, 3) := by decide +kernel
theorem dL_law_534 : decode cL_law 534 = .ok (.iconst 0, 1) := by decide +kernel
theorem dL_law_535 : decode cL_law 535 = .ok (.invokevirtual 45, 3) := by decide +kernel
theorem dL_law_538 : decode cL_law 538 = .ok (.if_icmp .eq 1041, 3) := by decide +kernel
theorem dL_law_541 : decode cL_law 541 = .ok (.iconst 0, 1) := by decide +kernel
theorem dL_law_542 : decode cL_law 542 = .ok (.ireturn, 1) := by decide +kernel
theorem dL_law_543 : decode cL_law 543 = .ok (.aload_n 1, 1) := by decide +kernel
theorem dL_law_544 : decode cL_law 544 = .ok (.aload_n 0, 1) := by decide +kernel
theorem dL_law_545 : decode cL_law 545 = .ok (.iload_n 3, 1) := by decide +kernel
theorem dL_law_546 : decode cL_law 546 = .ok (.iconst 1, 1) := by decide +kernel
theorem dL_law_547 : decode cL_law 547 = .ok (.iadd, 1) := by decide +kernel
theorem dL_law_548 : decode cL_law 548 = .ok (.iaload, 1) := by decide +kernel
theorem dL_law_549 : decode cL_law 549 = .ok (.aload_n 0, 1) := by decide +kernel
theorem dL_law_550 : decode cL_law 550 = .ok (.iload_n 3, 1) := by decide +kernel
theorem dL_law_551 : decode cL_law 551 = .ok (.iconst 2, 1) := by decide +kernel
theorem dL_law_552 : decode cL_law 552 = .ok (.iadd, 1) := by decide +kernel
theorem dL_law_553 : decode cL_law 553 = .ok (.iaload, 1) := by decide +kernel
theorem dL_law_554 : decode cL_law 554 = .ok (.invokevirtual 46, 3) := by decide +kernel
theorem dL_law_557 : decode cL_law 557 = .ok (.aload_n 2, 1) := by decide +kernel
theorem dL_law_558 : decode cL_law 558 = .ok (.aload_n 0, 1) := by decide +kernel
theorem dL_law_559 : decode cL_law 559 = .ok (.iload_n 3, 1) := by decide +kernel
theorem dL_law_560 : decode cL_law 560 = .ok (.iconst 1, 1) := by decide +kernel
theorem dL_law_561 : decode cL_law 561 = .ok (.iadd, 1) := by decide +kernel
theorem dL_law_562 : decode cL_law 562 = .ok (.iaload, 1) := by decide +kernel
theorem dL_law_563 : decode cL_law 563 = .ok (.aload_n 0, 1) := by decide +kernel
theorem dL_law_564 : decode cL_law 564 = .ok (.iload_n 3, 1) := by decide +kernel
theorem dL_law_565 : decode cL_law 565 = .ok (.iconst 2, 1) := by decide +kernel
theorem dL_law_566 : decode cL_law 566 = .ok (.iadd, 1) := by decide +kernel
theorem dL_law_567 : decode cL_law 567 = .ok (.iaload, 1) := by decide +kernel
theorem dL_law_568 : decode cL_law 568 = .ok (.invokevirtual 49, 3) := by decide +kernel
theorem dL_law_571 : decode cL_law 571 = .ok (.if_icmp .eq 1008, 3) := by decide +kernel
theorem dL_law_574 : decode cL_law 574 = .ok (.iconst 0, 1) := by decide +kernel
theorem dL_law_575 : decode cL_law 575 = .ok (.ireturn, 1) := by decide +kernel
theorem dL_law_576 : decode cL_law 576 = .ok (.aload_n 1, 1) := by decide +kernel
theorem dL_law_577 : decode cL_law 577 = .ok (.aload_n 0, 1) := by decide +kernel
theorem dL_law_578 : decode cL_law 578 = .ok (.iload_n 3, 1) := by decide +kernel
theorem dL_law_579 : decode cL_law 579 = .ok (.iconst 1, 1) := by decide +kernel
theorem dL_law_580 : decode cL_law 580 = .ok (.iadd, 1) := by decide +kernel
theorem dL_law_581 : decode cL_law 581 = .ok (.iaload, 1) := by decide +kernel
theorem dL_law_582 : decode cL_law 582 = .ok (.aload_n 0, 1) := by decide +kernel
theorem dL_law_583 : decode cL_law 583 = .ok (.iload_n 3, 1) := by decide +kernel
theorem dL_law_584 : decode cL_law 584 = .ok (.iconst 2, 1) := by decide +kernel
theorem dL_law_585 : decode cL_law 585 = .ok (.iadd, 1) := by decide +kernel
theorem dL_law_586 : decode cL_law 586 = .ok (.iaload, 1) := by decide +kernel
theorem dL_law_587 : decode cL_law 587 = .ok (.invokevirtual 50, 3) := by decide +kernel
theorem dL_law_590 : decode cL_law 590 = .ok (.aload_n 2, 1) := by decide +kernel
theorem dL_law_591 : decode cL_law 591 = .ok (.aload_n 0, 1) := by decide +kernel
theorem dL_law_592 : decode cL_law 592 = .ok (.iload_n 3, 1) := by decide +kernel
theorem dL_law_593 : decode cL_law 593 = .ok (.iconst 1, 1) := by decide +kernel
theorem dL_law_594 : decode cL_law 594 = .ok (.iadd, 1) := by decide +kernel
theorem dL_law_595 : decode cL_law 595 = .ok (.iaload, 1) := by decide +kernel
theorem dL_law_596 : decode cL_law 596 = .ok (.aload_n 0, 1) := by decide +kernel
theorem dL_law_597 : decode cL_law 597 = .ok (.iload_n 3, 1) := by decide +kernel
theorem dL_law_598 : decode cL_law 598 = .ok (.iconst 2, 1) := by decide +kernel
theorem dL_law_599 : decode cL_law 599 = .ok (.iadd, 1) := by decide +kernel
theorem dL_law_600 : decode cL_law 600 = .ok (.iaload, 1) := by decide +kernel
theorem dL_law_601 : decode cL_law 601 = .ok (.invokevirtual 53, 3) := by decide +kernel
theorem dL_law_604 : decode cL_law 604 = .ok (.if_icmp .eq 975, 3) := by decide +kernel
theorem dL_law_607 : decode cL_law 607 = .ok (.iconst 0, 1) := by decide +kernel
theorem dL_law_608 : decode cL_law 608 = .ok (.ireturn, 1) := by decide +kernel
theorem dL_law_609 : decode cL_law 609 = .ok (.aload_n 1, 1) := by decide +kernel
theorem dL_law_610 : decode cL_law 610 = .ok (.aload_n 0, 1) := by decide +kernel
theorem dL_law_611 : decode cL_law 611 = .ok (.iload_n 3, 1) := by decide +kernel
theorem dL_law_612 : decode cL_law 612 = .ok (.iconst 1, 1) := by decide +kernel
theorem dL_law_613 : decode cL_law 613 = .ok (.iadd, 1) := by decide +kernel
theorem dL_law_614 : decode cL_law 614 = .ok (.iaload, 1) := by decide +kernel
theorem dL_law_615 : decode cL_law 615 = .ok (.aload_n 0, 1) := by decide +kernel
theorem dL_law_616 : decode cL_law 616 = .ok (.iload_n 3, 1) := by decide +kernel
theorem dL_law_617 : decode cL_law 617 = .ok (.iconst 2, 1) := by decide +kernel
theorem dL_law_618 : decode cL_law 618 = .ok (.iadd, 1) := by decide +kernel
theorem dL_law_619 : decode cL_law 619 = .ok (.iaload, 1) := by decide +kernel
theorem dL_law_620 : decode cL_law 620 = .ok (.invokevirtual 54, 3) := by decide +kernel
theorem dL_law_623 : decode cL_law 623 = .ok (.aload_n 2, 1) := by decide +kernel
theorem dL_law_624 : decode cL_law 624 = .ok (.aload_n 0, 1) := by decide +kernel
theorem dL_law_625 : decode cL_law 625 = .ok (.iload_n 3, 1) := by decide +kernel
theorem dL_law_626 : decode cL_law 626 = .ok (.iconst 1, 1) := by decide +kernel
theorem dL_law_627 : decode cL_law 627 = .ok (.iadd, 1) := by decide +kernel
theorem dL_law_628 : decode cL_law 628 = .ok (.iaload, 1) := by decide +kernel
theorem dL_law_629 : decode cL_law 629 = .ok (.aload_n 0, 1) := by decide +kernel
theorem dL_law_630 : decode cL_law 630 = .ok (.iload_n 3, 1) := by decide +kernel
theorem dL_law_631 : decode cL_law 631 = .ok (.iconst 2, 1) := by decide +kernel
theorem dL_law_632 : decode cL_law 632 = .ok (.iadd, 1) := by decide +kernel
theorem dL_law_633 : decode cL_law 633 = .ok (.iaload, 1) := by decide +kernel
theorem dL_law_634 : decode cL_law 634 = .ok (.invokevirtual 57, 3) := by decide +kernel
theorem dL_law_637 : decode cL_law 637 = .ok (.if_icmp .eq 942, 3) := by decide +kernel
theorem dL_law_640 : decode cL_law 640 = .ok (.iconst 0, 1) := by decide +kernel
theorem dL_law_641 : decode cL_law 641 = .ok (.ireturn, 1) := by decide +kernel
theorem dL_law_642 : decode cL_law 642 = .ok (.aload_n 1, 1) := by decide +kernel
theorem dL_law_643 : decode cL_law 643 = .ok (.aload_n 0, 1) := by decide +kernel
theorem dL_law_644 : decode cL_law 644 = .ok (.iload_n 3, 1) := by decide +kernel
theorem dL_law_645 : decode cL_law 645 = .ok (.iconst 1, 1) := by decide +kernel
theorem dL_law_646 : decode cL_law 646 = .ok (.iadd, 1) := by decide +kernel
theorem dL_law_647 : decode cL_law 647 = .ok (.iaload, 1) := by decide +kernel
theorem dL_law_648 : decode cL_law 648 = .ok (.aload_n 0, 1) := by decide +kernel
theorem dL_law_649 : decode cL_law 649 = .ok (.iload_n 3, 1) := by decide +kernel
theorem dL_law_650 : decode cL_law 650 = .ok (.iconst 2, 1) := by decide +kernel
theorem dL_law_651 : decode cL_law 651 = .ok (.iadd, 1) := by decide +kernel
theorem dL_law_652 : decode cL_law 652 = .ok (.iaload, 1) := by decide +kernel
theorem dL_law_653 : decode cL_law 653 = .ok (.aload_n 0, 1) := by decide +kernel
theorem dL_law_654 : decode cL_law 654 = .ok (.iload_n 3, 1) := by decide +kernel
theorem dL_law_655 : decode cL_law 655 = .ok (.iconst 3, 1) := by decide +kernel
theorem dL_law_656 : decode cL_law 656 = .ok (.iadd, 1) := by decide +kernel
theorem dL_law_657 : decode cL_law 657 = .ok (.iaload, 1) := by decide +kernel
theorem dL_law_658 : decode cL_law 658 = .ok (.invokevirtual 58, 3) := by decide +kernel
theorem dL_law_661 : decode cL_law 661 = .ok (.aload_n 2, 1) := by decide +kernel
theorem dL_law_662 : decode cL_law 662 = .ok (.aload_n 0, 1) := by decide +kernel
theorem dL_law_663 : decode cL_law 663 = .ok (.iload_n 3, 1) := by decide +kernel
theorem dL_law_664 : decode cL_law 664 = .ok (.iconst 1, 1) := by decide +kernel
theorem dL_law_665 : decode cL_law 665 = .ok (.iadd, 1) := by decide +kernel
theorem dL_law_666 : decode cL_law 666 = .ok (.iaload, 1) := by decide +kernel
theorem dL_law_667 : decode cL_law 667 = .ok (.aload_n 0, 1) := by decide +kernel
theorem dL_law_668 : decode cL_law 668 = .ok (.iload_n 3, 1) := by decide +kernel
theorem dL_law_669 : decode cL_law 669 = .ok (.iconst 2, 1) := by decide +kernel
theorem dL_law_670 : decode cL_law 670 = .ok (.iadd, 1) := by decide +kernel
theorem dL_law_671 : decode cL_law 671 = .ok (.iaload, 1) := by decide +kernel
theorem dL_law_672 : decode cL_law 672 = .ok (.aload_n 0, 1) := by decide +kernel
theorem dL_law_673 : decode cL_law 673 = .ok (.iload_n 3, 1) := by decide +kernel
theorem dL_law_674 : decode cL_law 674 = .ok (.iconst 3, 1) := by decide +kernel
theorem dL_law_675 : decode cL_law 675 = .ok (.iadd, 1) := by decide +kernel
theorem dL_law_676 : decode cL_law 676 = .ok (.iaload, 1) := by decide +kernel
theorem dL_law_677 : decode cL_law 677 = .ok (.invokevirtual 61, 3) := by decide +kernel
theorem dL_law_680 : decode cL_law 680 = .ok (.if_icmp .eq 899, 3) := by decide +kernel
theorem dL_law_683 : decode cL_law 683 = .ok (.iconst 0, 1) := by decide +kernel
theorem dL_law_684 : decode cL_law 684 = .ok (.ireturn, 1) := by decide +kernel
theorem dL_law_685 : decode cL_law 685 = .ok (.aload_n 1, 1) := by decide +kernel
theorem dL_law_686 : decode cL_law 686 = .ok (.aload_n 0, 1) := by decide +kernel
theorem dL_law_687 : decode cL_law 687 = .ok (.iload_n 3, 1) := by decide +kernel
theorem dL_law_688 : decode cL_law 688 = .ok (.iconst 1, 1) := by decide +kernel
theorem dL_law_689 : decode cL_law 689 = .ok (.iadd, 1) := by decide +kernel
theorem dL_law_690 : decode cL_law 690 = .ok (.iaload, 1) := by decide +kernel
theorem dL_law_691 : decode cL_law 691 = .ok (.invokevirtual 62, 3) := by decide +kernel
theorem dL_law_694 : decode cL_law 694 = .ok (.aload_n 2, 1) := by decide +kernel
theorem dL_law_695 : decode cL_law 695 = .ok (.aload_n 0, 1) := by decide +kernel
theorem dL_law_696 : decode cL_law 696 = .ok (.iload_n 3, 1) := by decide +kernel
theorem dL_law_697 : decode cL_law 697 = .ok (.iconst 1, 1) := by decide +kernel
theorem dL_law_698 : decode cL_law 698 = .ok (.iadd, 1) := by decide +kernel
theorem dL_law_699 : decode cL_law 699 = .ok (.iaload, 1) := by decide +kernel
theorem dL_law_700 : decode cL_law 700 = .ok (.invokevirtual 66, 3) := by decide +kernel
theorem dL_law_703 : decode cL_law 703 = .ok (.if_icmp .eq 876, 3) := by decide +kernel
theorem dL_law_706 : decode cL_law 706 = .ok (.iconst 0, 1) := by decide +kernel
theorem dL_law_707 : decode cL_law 707 = .ok (.ireturn, 1) := by decide +kernel
theorem dL_law_708 : decode cL_law 708 = .ok (.aload_n 1, 1) := by decide +kernel
theorem dL_law_709 : decode cL_law 709 = .ok (.aload_n 0, 1) := by decide +kernel
theorem dL_law_710 : decode cL_law 710 = .ok (.iload_n 3, 1) := by decide +kernel
theorem dL_law_711 : decode cL_law 711 = .ok (.iconst 1, 1) := by decide +kernel
theorem dL_law_712 : decode cL_law 712 = .ok (.iadd, 1) := by decide +kernel
theorem dL_law_713 : decode cL_law 713 = .ok (.iaload, 1) := by decide +kernel
theorem dL_law_714 : decode cL_law 714 = .ok (.invokevirtual 67, 3) := by decide +kernel
theorem dL_law_717 : decode cL_law 717 = .ok (.aload_n 2, 1) := by decide +kernel
theorem dL_law_718 : decode cL_law 718 = .ok (.aload_n 0, 1) := by decide +kernel
theorem dL_law_719 : decode cL_law 719 = .ok (.iload_n 3, 1) := by decide +kernel
theorem dL_law_720 : decode cL_law 720 = .ok (.iconst 1, 1) := by decide +kernel
theorem dL_law_721 : decode cL_law 721 = .ok (.iadd, 1) := by decide +kernel
theorem dL_law_722 : decode cL_law 722 = .ok (.iaload, 1) := by decide +kernel
theorem dL_law_723 : decode cL_law 723 = .ok (.invokevirtual 70, 3) := by decide +kernel
theorem dL_law_726 : decode cL_law 726 = .ok (.if_icmp .eq 853, 3) := by decide +kernel
theorem dL_law_729 : decode cL_law 729 = .ok (.iconst 0, 1) := by decide +kernel
theorem dL_law_730 : decode cL_law 730 = .ok (.ireturn, 1) := by decide +kernel
theorem dL_law_731 : decode cL_law 731 = .ok (.aload_n 1, 1) := by decide +kernel
theorem dL_law_732 : decode cL_law 732 = .ok (.aload_n 0, 1) := by decide +kernel
theorem dL_law_733 : decode cL_law 733 = .ok (.iload_n 3, 1) := by decide +kernel
theorem dL_law_734 : decode cL_law 734 = .ok (.iconst 1, 1) := by decide +kernel
theorem dL_law_735 : decode cL_law 735 = .ok (.iadd, 1) := by decide +kernel
theorem dL_law_736 : decode cL_law 736 = .ok (.iaload, 1) := by decide +kernel
theorem dL_law_737 : decode cL_law 737 = .ok (.aload_n 0, 1) := by decide +kernel
theorem dL_law_738 : decode cL_law 738 = .ok (.iload_n 3, 1) := by decide +kernel
theorem dL_law_739 : decode cL_law 739 = .ok (.iconst 2, 1) := by decide +kernel
theorem dL_law_740 : decode cL_law 740 = .ok (.iadd, 1) := by decide +kernel
theorem dL_law_741 : decode cL_law 741 = .ok (.iaload, 1) := by decide +kernel
theorem dL_law_742 : decode cL_law 742 = .ok (.invokevirtual 71, 3) := by decide +kernel
theorem dL_law_745 : decode cL_law 745 = .ok (.aload_n 2, 1) := by decide +kernel
theorem dL_law_746 : decode cL_law 746 = .ok (.aload_n 0, 1) := by decide +kernel
theorem dL_law_747 : decode cL_law 747 = .ok (.iload_n 3, 1) := by decide +kernel
theorem dL_law_748 : decode cL_law 748 = .ok (.iconst 1, 1) := by decide +kernel
theorem dL_law_749 : decode cL_law 749 = .ok (.iadd, 1) := by decide +kernel
theorem dL_law_750 : decode cL_law 750 = .ok (.iaload, 1) := by decide +kernel
theorem dL_law_751 : decode cL_law 751 = .ok (.aload_n 0, 1) := by decide +kernel
theorem dL_law_752 : decode cL_law 752 = .ok (.iload_n 3, 1) := by decide +kernel
theorem dL_law_753 : decode cL_law 753 = .ok (.iconst 2, 1) := by decide +kernel
theorem dL_law_754 : decode cL_law 754 = .ok (.iadd, 1) := by decide +kernel
theorem dL_law_755 : decode cL_law 755 = .ok (.iaload, 1) := by decide +kernel
theorem dL_law_756 : decode cL_law 756 = .ok (.invokevirtual 74, 3) := by decide +kernel
theorem dL_law_759 : decode cL_law 759 = .ok (.if_icmp .eq 820, 3) := by decide +kernel
theorem dL_law_762 : decode cL_law 762 = .ok (.iconst 0, 1) := by decide +kernel
theorem dL_law_763 : decode cL_law 763 = .ok (.ireturn, 1) := by decide +kernel
theorem dL_law_764 : decode cL_law 764 = .ok (.aload_n 1, 1) := by decide +kernel
theorem dL_law_765 : decode cL_law 765 = .ok (.aload_n 0, 1) := by decide +kernel
theorem dL_law_766 : decode cL_law 766 = .ok (.iload_n 3, 1) := by decide +kernel
theorem dL_law_767 : decode cL_law 767 = .ok (.iconst 1, 1) := by decide +kernel
theorem dL_law_768 : decode cL_law 768 = .ok (.iadd, 1) := by decide +kernel
theorem dL_law_769 : decode cL_law 769 = .ok (.iaload, 1) := by decide +kernel
theorem dL_law_770 : decode cL_law 770 = .ok (.invokevirtual 75, 3) := by decide +kernel
theorem dL_law_773 : decode cL_law 773 = .ok (.aload_n 2, 1) := by decide +kernel
theorem dL_law_774 : decode cL_law 774 = .ok (.aload_n 0, 1) := by decide +kernel
theorem dL_law_775 : decode cL_law 775 = .ok (.iload_n 3, 1) := by decide +kernel
theorem dL_law_776 : decode cL_law 776 = .ok (.iconst 1, 1) := by decide +kernel
theorem dL_law_777 : decode cL_law 777 = .ok (.iadd, 1) := by decide +kernel
theorem dL_law_778 : decode cL_law 778 = .ok (.iaload, 1) := by decide +kernel
theorem dL_law_779 : decode cL_law 779 = .ok (.invokevirtual 78, 3) := by decide +kernel
theorem dL_law_782 : decode cL_law 782 = .ok (.if_icmp .eq 797, 3) := by decide +kernel
theorem dL_law_785 : decode cL_law 785 = .ok (.iconst 0, 1) := by decide +kernel
theorem dL_law_786 : decode cL_law 786 = .ok (.ireturn, 1) := by decide +kernel
theorem dL_law_787 : decode cL_law 787 = .ok (.aload_n 1, 1) := by decide +kernel
theorem dL_law_788 : decode cL_law 788 = .ok (.aload_n 0, 1) := by decide +kernel
theorem dL_law_789 : decode cL_law 789 = .ok (.iload_n 3, 1) := by decide +kernel
theorem dL_law_790 : decode cL_law 790 = .ok (.iconst 1, 1) := by decide +kernel
theorem dL_law_791 : decode cL_law 791 = .ok (.iadd, 1) := by decide +kernel
theorem dL_law_792 : decode cL_law 792 = .ok (.iaload, 1) := by decide +kernel
theorem dL_law_793 : decode cL_law 793 = .ok (.aload_n 0, 1) := by decide +kernel
theorem dL_law_794 : decode cL_law 794 = .ok (.iload_n 3, 1) := by decide +kernel
theorem dL_law_795 : decode cL_law 795 = .ok (.iconst 2, 1) := by decide +kernel
theorem dL_law_796 : decode cL_law 796 = .ok (.iadd, 1) := by decide +kernel
theorem dL_law_797 : decode cL_law 797 = .ok (.iaload, 1) := by decide +kernel
theorem dL_law_798 : decode cL_law 798 = .ok (.invokevirtual 79, 3) := by decide +kernel
theorem dL_law_801 : decode cL_law 801 = .ok (.aload_n 2, 1) := by decide +kernel
theorem dL_law_802 : decode cL_law 802 = .ok (.aload_n 0, 1) := by decide +kernel
theorem dL_law_803 : decode cL_law 803 = .ok (.iload_n 3, 1) := by decide +kernel
theorem dL_law_804 : decode cL_law 804 = .ok (.iconst 1, 1) := by decide +kernel
theorem dL_law_805 : decode cL_law 805 = .ok (.iadd, 1) := by decide +kernel
theorem dL_law_806 : decode cL_law 806 = .ok (.iaload, 1) := by decide +kernel
theorem dL_law_807 : decode cL_law 807 = .ok (.aload_n 0, 1) := by decide +kernel
theorem dL_law_808 : decode cL_law 808 = .ok (.iload_n 3, 1) := by decide +kernel
theorem dL_law_809 : decode cL_law 809 = .ok (.iconst 2, 1) := by decide +kernel
theorem dL_law_810 : decode cL_law 810 = .ok (.iadd, 1) := by decide +kernel
theorem dL_law_811 : decode cL_law 811 = .ok (.iaload, 1) := by decide +kernel
theorem dL_law_812 : decode cL_law 812 = .ok (.invokevirtual 82, 3) := by decide +kernel
theorem dL_law_815 : decode cL_law 815 = .ok (.if_icmp .eq 764, 3) := by decide +kernel
theorem dL_law_818 : decode cL_law 818 = .ok (.iconst 0, 1) := by decide +kernel
theorem dL_law_819 : decode cL_law 819 = .ok (.ireturn, 1) := by decide +kernel
theorem dL_law_820 : decode cL_law 820 = .ok (.aload_n 1, 1) := by decide +kernel
theorem dL_law_821 : decode cL_law 821 = .ok (.aload_n 0, 1) := by decide +kernel
theorem dL_law_822 : decode cL_law 822 = .ok (.iload_n 3, 1) := by decide +kernel
theorem dL_law_823 : decode cL_law 823 = .ok (.iconst 1, 1) := by decide +kernel
theorem dL_law_824 : decode cL_law 824 = .ok (.iadd, 1) := by decide +kernel
theorem dL_law_825 : decode cL_law 825 = .ok (.iaload, 1) := by decide +kernel
theorem dL_law_826 : decode cL_law 826 = .ok (.invokevirtual 83, 3) := by decide +kernel
theorem dL_law_829 : decode cL_law 829 = .ok (.aload_n 2, 1) := by decide +kernel
theorem dL_law_830 : decode cL_law 830 = .ok (.aload_n 0, 1) := by decide +kernel
theorem dL_law_831 : decode cL_law 831 = .ok (.iload_n 3, 1) := by decide +kernel
theorem dL_law_832 : decode cL_law 832 = .ok (.iconst 1, 1) := by decide +kernel
theorem dL_law_833 : decode cL_law 833 = .ok (.iadd, 1) := by decide +kernel
theorem dL_law_834 : decode cL_law 834 = .ok (.iaload, 1) := by decide +kernel
theorem dL_law_835 : decode cL_law 835 = .ok (.invokevirtual 86, 3) := by decide +kernel
theorem dL_law_838 : decode cL_law 838 = .ok (.if_icmp .eq 741, 3) := by decide +kernel
theorem dL_law_841 : decode cL_law 841 = .ok (.iconst 0, 1) := by decide +kernel
theorem dL_law_842 : decode cL_law 842 = .ok (.ireturn, 1) := by decide +kernel
theorem dL_law_843 : decode cL_law 843 = .ok (.aload_n 1, 1) := by decide +kernel
theorem dL_law_844 : decode cL_law 844 = .ok (.aload_n 0, 1) := by decide +kernel
theorem dL_law_845 : decode cL_law 845 = .ok (.iload_n 3, 1) := by decide +kernel
theorem dL_law_846 : decode cL_law 846 = .ok (.iconst 1, 1) := by decide +kernel
theorem dL_law_847 : decode cL_law 847 = .ok (.iadd, 1) := by decide +kernel
theorem dL_law_848 : decode cL_law 848 = .ok (.iaload, 1) := by decide +kernel
theorem dL_law_849 : decode cL_law 849 = .ok (.invokevirtual 87, 3) := by decide +kernel
theorem dL_law_852 : decode cL_law 852 = .ok (.aload_n 2, 1) := by decide +kernel
theorem dL_law_853 : decode cL_law 853 = .ok (.aload_n 0, 1) := by decide +kernel
theorem dL_law_854 : decode cL_law 854 = .ok (.iload_n 3, 1) := by decide +kernel
theorem dL_law_855 : decode cL_law 855 = .ok (.iconst 1, 1) := by decide +kernel
theorem dL_law_856 : decode cL_law 856 = .ok (.iadd, 1) := by decide +kernel
theorem dL_law_857 : decode cL_law 857 = .ok (.iaload, 1) := by decide +kernel
theorem dL_law_858 : decode cL_law 858 = .ok (.invokevirtual 90, 3) := by decide +kernel
theorem dL_law_861 : decode cL_law 861 = .ok (.if_icmp .eq 718, 3) := by decide +kernel
theorem dL_law_864 : decode cL_law 864 = .ok (.iconst 0, 1) := by decide +kernel
theorem dL_law_865 : decode cL_law 865 = .ok (.ireturn, 1) := by decide +kernel
theorem dL_law_866 : decode cL_law 866 = .ok (.aload_n 1, 1) := by decide +kernel
theorem dL_law_867 : decode cL_law 867 = .ok (.aload_n 0, 1) := by decide +kernel
theorem dL_law_868 : decode cL_law 868 = .ok (.iload_n 3, 1) := by decide +kernel
theorem dL_law_869 : decode cL_law 869 = .ok (.iconst 1, 1) := by decide +kernel
theorem dL_law_870 : decode cL_law 870 = .ok (.iadd, 1) := by decide +kernel
theorem dL_law_871 : decode cL_law 871 = .ok (.iaload, 1) := by decide +kernel
theorem dL_law_872 : decode cL_law 872 = .ok (.aload_n 0, 1) := by decide +kernel
theorem dL_law_873 : decode cL_law 873 = .ok (.iload_n 3, 1) := by decide +kernel
theorem dL_law_874 : decode cL_law 874 = .ok (.iconst 2, 1) := by decide +kernel
theorem dL_law_875 : decode cL_law 875 = .ok (.iadd, 1) := by decide +kernel
theorem dL_law_876 : decode cL_law 876 = .ok (.iaload, 1) := by decide +kernel
theorem dL_law_877 : decode cL_law 877 = .ok (.invokevirtual 91, 3) := by decide +kernel
theorem dL_law_880 : decode cL_law 880 = .ok (.aload_n 2, 1) := by decide +kernel
theorem dL_law_881 : decode cL_law 881 = .ok (.aload_n 0, 1) := by decide +kernel
theorem dL_law_882 : decode cL_law 882 = .ok (.iload_n 3, 1) := by decide +kernel
theorem dL_law_883 : decode cL_law 883 = .ok (.iconst 1, 1) := by decide +kernel
theorem dL_law_884 : decode cL_law 884 = .ok (.iadd, 1) := by decide +kernel
theorem dL_law_885 : decode cL_law 885 = .ok (.iaload, 1) := by decide +kernel
theorem dL_law_886 : decode cL_law 886 = .ok (.aload_n 0, 1) := by decide +kernel
theorem dL_law_887 : decode cL_law 887 = .ok (.iload_n 3, 1) := by decide +kernel
theorem dL_law_888 : decode cL_law 888 = .ok (.iconst 2, 1) := by decide +kernel
theorem dL_law_889 : decode cL_law 889 = .ok (.iadd, 1) := by decide +kernel
theorem dL_law_890 : decode cL_law 890 = .ok (.iaload, 1) := by decide +kernel
theorem dL_law_891 : decode cL_law 891 = .ok (.invokevirtual 94, 3) := by decide +kernel
theorem dL_law_894 : decode cL_law 894 = .ok (.if_icmp .eq 685, 3) := by decide +kernel
theorem dL_law_897 : decode cL_law 897 = .ok (.iconst 0, 1) := by decide +kernel
theorem dL_law_898 : decode cL_law 898 = .ok (.ireturn, 1) := by decide +kernel
theorem dL_law_899 : decode cL_law 899 = .ok (.aload_n 1, 1) := by decide +kernel
theorem dL_law_900 : decode cL_law 900 = .ok (.aload_n 0, 1) := by decide +kernel
theorem dL_law_901 : decode cL_law 901 = .ok (.iload_n 3, 1) := by decide +kernel
theorem dL_law_902 : decode cL_law 902 = .ok (.iconst 1, 1) := by decide +kernel
theorem dL_law_903 : decode cL_law 903 = .ok (.iadd, 1) := by decide +kernel
theorem dL_law_904 : decode cL_law 904 = .ok (.iaload, 1) := by decide +kernel
theorem dL_law_905 : decode cL_law 905 = .ok (.aload_n 0, 1) := by decide +kernel
theorem dL_law_906 : decode cL_law 906 = .ok (.iload_n 3, 1) := by decide +kernel
theorem dL_law_907 : decode cL_law 907 = .ok (.iconst 2, 1) := by decide +kernel
theorem dL_law_908 : decode cL_law 908 = .ok (.iadd, 1) := by decide +kernel
theorem dL_law_909 : decode cL_law 909 = .ok (.iaload, 1) := by decide +kernel
theorem dL_law_910 : decode cL_law 910 = .ok (.invokevirtual 95, 3) := by decide +kernel
theorem dL_law_913 : decode cL_law 913 = .ok (.aload_n 2, 1) := by decide +kernel
theorem dL_law_914 : decode cL_law 914 = .ok (.aload_n 0, 1) := by decide +kernel
theorem dL_law_915 : decode cL_law 915 = .ok (.iload_n 3, 1) := by decide +kernel
theorem dL_law_916 : decode cL_law 916 = .ok (.iconst 1, 1) := by decide +kernel
theorem dL_law_917 : decode cL_law 917 = .ok (.iadd, 1) := by decide +kernel
theorem dL_law_918 : decode cL_law 918 = .ok (.iaload, 1) := by decide +kernel
theorem dL_law_919 : decode cL_law 919 = .ok (.aload_n 0, 1) := by decide +kernel
theorem dL_law_920 : decode cL_law 920 = .ok (.iload_n 3, 1) := by decide +kernel
theorem dL_law_921 : decode cL_law 921 = .ok (.iconst 2, 1) := by decide +kernel
theorem dL_law_922 : decode cL_law 922 = .ok (.iadd, 1) := by decide +kernel
theorem dL_law_923 : decode cL_law 923 = .ok (.iaload, 1) := by decide +kernel
theorem dL_law_924 : decode cL_law 924 = .ok (.invokevirtual 98, 3) := by decide +kernel
theorem dL_law_927 : decode cL_law 927 = .ok (.if_icmp .eq 652, 3) := by decide +kernel
theorem dL_law_930 : decode cL_law 930 = .ok (.iconst 0, 1) := by decide +kernel
theorem dL_law_931 : decode cL_law 931 = .ok (.ireturn, 1) := by decide +kernel
theorem dL_law_932 : decode cL_law 932 = .ok (.aload_n 1, 1) := by decide +kernel
theorem dL_law_933 : decode cL_law 933 = .ok (.aload_n 0, 1) := by decide +kernel
theorem dL_law_934 : decode cL_law 934 = .ok (.iload_n 3, 1) := by decide +kernel
theorem dL_law_935 : decode cL_law 935 = .ok (.iconst 1, 1) := by decide +kernel
theorem dL_law_936 : decode cL_law 936 = .ok (.iadd, 1) := by decide +kernel
theorem dL_law_937 : decode cL_law 937 = .ok (.iaload, 1) := by decide +kernel
theorem dL_law_938 : decode cL_law 938 = .ok (.i2l, 1) := by decide +kernel
theorem dL_law_939 : decode cL_law 939 = .ok (.bipush 32, 2) := by decide +kernel
theorem dL_law_941 : decode cL_law 941 = .ok (.lshl, 1) := by decide +kernel
theorem dL_law_942 : decode cL_law 942 = .ok (.aload_n 0, 1) := by decide +kernel
theorem dL_law_943 : decode cL_law 943 = .ok (.iload_n 3, 1) := by decide +kernel
theorem dL_law_944 : decode cL_law 944 = .ok (.iconst 2, 1) := by decide +kernel
theorem dL_law_945 : decode cL_law 945 = .ok (.iadd, 1) := by decide +kernel
theorem dL_law_946 : decode cL_law 946 = .ok (.iaload, 1) := by decide +kernel
theorem dL_law_947 : decode cL_law 947 = .ok (.i2l, 1) := by decide +kernel
theorem dL_law_948 : decode cL_law 948 = .ok (.ldc2_w 99, 3) := by decide +kernel
theorem dL_law_951 : decode cL_law 951 = .ok (.land, 1) := by decide +kernel
theorem dL_law_952 : decode cL_law 952 = .ok (.lor, 1) := by decide +kernel
theorem dL_law_953 : decode cL_law 953 = .ok (.aload_n 0, 1) := by decide +kernel
theorem dL_law_954 : decode cL_law 954 = .ok (.iload_n 3, 1) := by decide +kernel
theorem dL_law_955 : decode cL_law 955 = .ok (.iconst 3, 1) := by decide +kernel
theorem dL_law_956 : decode cL_law 956 = .ok (.iadd, 1) := by decide +kernel
theorem dL_law_957 : decode cL_law 957 = .ok (.iaload, 1) := by decide +kernel
theorem dL_law_958 : decode cL_law 958 = .ok (.invokevirtual 101, 3) := by decide +kernel
theorem dL_law_961 : decode cL_law 961 = .ok (.aload_n 2, 1) := by decide +kernel
theorem dL_law_962 : decode cL_law 962 = .ok (.aload_n 0, 1) := by decide +kernel
theorem dL_law_963 : decode cL_law 963 = .ok (.iload_n 3, 1) := by decide +kernel
theorem dL_law_964 : decode cL_law 964 = .ok (.iconst 1, 1) := by decide +kernel
theorem dL_law_965 : decode cL_law 965 = .ok (.iadd, 1) := by decide +kernel
theorem dL_law_966 : decode cL_law 966 = .ok (.iaload, 1) := by decide +kernel
theorem dL_law_967 : decode cL_law 967 = .ok (.i2l, 1) := by decide +kernel
theorem dL_law_968 : decode cL_law 968 = .ok (.bipush 32, 2) := by decide +kernel
theorem dL_law_970 : decode cL_law 970 = .ok (.lshl, 1) := by decide +kernel
theorem dL_law_971 : decode cL_law 971 = .ok (.aload_n 0, 1) := by decide +kernel
theorem dL_law_972 : decode cL_law 972 = .ok (.iload_n 3, 1) := by decide +kernel
theorem dL_law_973 : decode cL_law 973 = .ok (.iconst 2, 1) := by decide +kernel
theorem dL_law_974 : decode cL_law 974 = .ok (.iadd, 1) := by decide +kernel
theorem dL_law_975 : decode cL_law 975 = .ok (.iaload, 1) := by decide +kernel
theorem dL_law_976 : decode cL_law 976 = .ok (.i2l, 1) := by decide +kernel
theorem dL_law_977 : decode cL_law 977 = .ok (.ldc2_w 99, 3) := by decide +kernel
theorem dL_law_980 : decode cL_law 980 = .ok (.land, 1) := by decide +kernel
theorem dL_law_981 : decode cL_law 981 = .ok (.lor, 1) := by decide +kernel
theorem dL_law_982 : decode cL_law 982 = .ok (.aload_n 0, 1) := by decide +kernel
theorem dL_law_983 : decode cL_law 983 = .ok (.iload_n 3, 1) := by decide +kernel
theorem dL_law_984 : decode cL_law 984 = .ok (.iconst 3, 1) := by decide +kernel
theorem dL_law_985 : decode cL_law 985 = .ok (.iadd, 1) := by decide +kernel
theorem dL_law_986 : decode cL_law 986 = .ok (.iaload, 1) := by decide +kernel
theorem dL_law_987 : decode cL_law 987 = .ok (.invokevirtual 105, 3) := by decide +kernel
theorem dL_law_990 : decode cL_law 990 = .ok (.if_icmp .eq 589, 3) := by decide +kernel
theorem dL_law_993 : decode cL_law 993 = .ok (.iconst 0, 1) := by decide +kernel
theorem dL_law_994 : decode cL_law 994 = .ok (.ireturn, 1) := by decide +kernel
theorem dL_law_995 : decode cL_law 995 = .ok (.aload_n 1, 1) := by decide +kernel
theorem dL_law_996 : decode cL_law 996 = .ok (.invokevirtual 106, 3) := by decide +kernel
theorem dL_law_999 : decode cL_law 999 = .ok (.aload_n 2, 1) := by decide +kernel
theorem dL_law_1000 : decode cL_law 1000 = .ok (.invokevirtual 110, 3) := by decide +kernel
theorem dL_law_1003 : decode cL_law 1003 = .ok (.if_icmp .eq 576, 3) := by decide +kernel
theorem dL_law_1006 : decode cL_law 1006 = .ok (.iconst 0, 1) := by decide +kernel
theorem dL_law_1007 : decode cL_law 1007 = .ok (.ireturn, 1) := by decide +kernel
theorem dL_law_1008 : decode cL_law 1008 = .ok (.aload_n 1, 1) := by decide +kernel
theorem dL_law_1009 : decode cL_law 1009 = .ok (.aload_n 0, 1) := by decide +kernel
theorem dL_law_1010 : decode cL_law 1010 = .ok (.iload_n 3, 1) := by decide +kernel
theorem dL_law_1011 : decode cL_law 1011 = .ok (.iconst 1, 1) := by decide +kernel
theorem dL_law_1012 : decode cL_law 1012 = .ok (.iadd, 1) := by decide +kernel
theorem dL_law_1013 : decode cL_law 1013 = .ok (.iaload, 1) := by decide +kernel
theorem dL_law_1014 : decode cL_law 1014 = .ok (.aload_n 0, 1) := by decide +kernel
theorem dL_law_1015 : decode cL_law 1015 = .ok (.iload_n 3, 1) := by decide +kernel
theorem dL_law_1016 : decode cL_law 1016 = .ok (.iconst 2, 1) := by decide +kernel
theorem dL_law_1017 : decode cL_law 1017 = .ok (.iadd, 1) := by decide +kernel
theorem dL_law_1018 : decode cL_law 1018 = .ok (.iaload, 1) := by decide +kernel
theorem dL_law_1019 : decode cL_law 1019 = .ok (.invokevirtual 111, 3) := by decide +kernel
theorem dL_law_1022 : decode cL_law 1022 = .ok (.aload_n 2, 1) := by decide +kernel
theorem dL_law_1023 : decode cL_law 1023 = .ok (.aload_n 0, 1) := by decide +kernel
theorem dL_law_1024 : decode cL_law 1024 = .ok (.iload_n 3, 1) := by decide +kernel
theorem dL_law_1025 : decode cL_law 1025 = .ok (.iconst 1, 1) := by decide +kernel
theorem dL_law_1026 : decode cL_law 1026 = .ok (.iadd, 1) := by decide +kernel
theorem dL_law_1027 : decode cL_law 1027 = .ok (.iaload, 1) := by decide +kernel
theorem dL_law_1028 : decode cL_law 1028 = .ok (.aload_n 0, 1) := by decide +kernel
theorem dL_law_1029 : decode cL_law 1029 = .ok (.iload_n 3, 1) := by decide +kernel
theorem dL_law_1030 : decode cL_law 1030 = .ok (.iconst 2, 1) := by decide +kernel
theorem dL_law_1031 : decode cL_law 1031 = .ok (.iadd, 1) := by decide +kernel
theorem dL_law_1032 : decode cL_law 1032 = .ok (.iaload, 1) := by decide +kernel
theorem dL_law_1033 : decode cL_law 1033 = .ok (.invokevirtual 114, 3) := by decide +kernel
theorem dL_law_1036 : decode cL_law 1036 = .ok (.if_icmp .eq 543, 3) := by decide +kernel
theorem dL_law_1039 : decode cL_law 1039 = .ok (.iconst 0, 1) := by decide +kernel
theorem dL_law_1040 : decode cL_law 1040 = .ok (.ireturn, 1) := by decide +kernel
theorem dL_law_1041 : decode cL_law 1041 = .ok (.aload_n 1, 1) := by decide +kernel
theorem dL_law_1042 : decode cL_law 1042 = .ok (.aload_n 0, 1) := by decide +kernel
theorem dL_law_1043 : decode cL_law 1043 = .ok (.iload_n 3, 1) := by decide +kernel
theorem dL_law_1044 : decode cL_law 1044 = .ok (.iconst 1, 1) := by decide +kernel
theorem dL_law_1045 : decode cL_law 1045 = .ok (.iadd, 1) := by decide +kernel
theorem dL_law_1046 : decode cL_law 1046 = .ok (.iaload, 1) := by decide +kernel
theorem dL_law_1047 : decode cL_law 1047 = .ok (.invokevirtual 115, 3) := by decide +kernel
theorem dL_law_1050 : decode cL_law 1050 = .ok (.aload_n 2, 1) := by decide +kernel
theorem dL_law_1051 : decode cL_law 1051 = .ok (.aload_n 0, 1) := by decide +kernel
theorem dL_law_1052 : decode cL_law 1052 = .ok (.iload_n 3, 1) := by decide +kernel
theorem dL_law_1053 : decode cL_law 1053 = .ok (.iconst 1, 1) := by decide +kernel
theorem dL_law_1054 : decode cL_law 1054 = .ok (.iadd, 1) := by decide +kernel
theorem dL_law_1055 : decode cL_law 1055 = .ok (.iaload, 1) := by decide +kernel
theorem dL_law_1056 : decode cL_law 1056 = .ok (.invokevirtual 118, 3) := by decide +kernel
theorem dL_law_1059 : decode cL_law 1059 = .ok (.if_icmp .eq 520, 3) := by decide +kernel
theorem dL_law_1062 : decode cL_law 1062 = .ok (.iconst 0, 1) := by decide +kernel
theorem dL_law_1063 : decode cL_law 1063 = .ok (.ireturn, 1) := by decide +kernel
theorem dL_law_1064 : decode cL_law 1064 = .ok (.aload_n 1, 1) := by decide +kernel
theorem dL_law_1065 : decode cL_law 1065 = .ok (.aload_n 0, 1) := by decide +kernel
theorem dL_law_1066 : decode cL_law 1066 = .ok (.iload_n 3, 1) := by decide +kernel
theorem dL_law_1067 : decode cL_law 1067 = .ok (.iconst 1, 1) := by decide +kernel
theorem dL_law_1068 : decode cL_law 1068 = .ok (.iadd, 1) := by decide +kernel
theorem dL_law_1069 : decode cL_law 1069 = .ok (.iaload, 1) := by decide +kernel
theorem dL_law_1070 : decode cL_law 1070 = .ok (.aload_n 0, 1) := by decide +kernel
theorem dL_law_1071 : decode cL_law 1071 = .ok (.iload_n 3, 1) := by decide +kernel
theorem dL_law_1072 : decode cL_law 1072 = .ok (.iconst 2, 1) := by decide +kernel
theorem dL_law_1073 : decode cL_law 1073 = .ok (.iadd, 1) := by decide +kernel
theorem dL_law_1074 : decode cL_law 1074 = .ok (.iaload, 1) := by decide +kernel
theorem dL_law_1075 : decode cL_law 1075 = .ok (.aload_n 0, 1) := by decide +kernel
theorem dL_law_1076 : decode cL_law 1076 = .ok (.iload_n 3, 1) := by decide +kernel
theorem dL_law_1077 : decode cL_law 1077 = .ok (.iconst 3, 1) := by decide +kernel
theorem dL_law_1078 : decode cL_law 1078 = .ok (.iadd, 1) := by decide +kernel
theorem dL_law_1079 : decode cL_law 1079 = .ok (.iaload, 1) := by decide +kernel
theorem dL_law_1080 : decode cL_law 1080 = .ok (.invokevirtual 119, 3) := by decide +kernel
theorem dL_law_1083 : decode cL_law 1083 = .ok (.aload_n 2, 1) := by decide +kernel
theorem dL_law_1084 : decode cL_law 1084 = .ok (.aload_n 0, 1) := by decide +kernel
theorem dL_law_1085 : decode cL_law 1085 = .ok (.iload_n 3, 1) := by decide +kernel
theorem dL_law_1086 : decode cL_law 1086 = .ok (.iconst 1, 1) := by decide +kernel
theorem dL_law_1087 : decode cL_law 1087 = .ok (.iadd, 1) := by decide +kernel
theorem dL_law_1088 : decode cL_law 1088 = .ok (.iaload, 1) := by decide +kernel
theorem dL_law_1089 : decode cL_law 1089 = .ok (.aload_n 0, 1) := by decide +kernel
theorem dL_law_1090 : decode cL_law 1090 = .ok (.iload_n 3, 1) := by decide +kernel
theorem dL_law_1091 : decode cL_law 1091 = .ok (.iconst 2, 1) := by decide +kernel
theorem dL_law_1092 : decode cL_law 1092 = .ok (.iadd, 1) := by decide +kernel
theorem dL_law_1093 : decode cL_law 1093 = .ok (.iaload, 1) := by decide +kernel
theorem dL_law_1094 : decode cL_law 1094 = .ok (.aload_n 0, 1) := by decide +kernel
theorem dL_law_1095 : decode cL_law 1095 = .ok (.iload_n 3, 1) := by decide +kernel
theorem dL_law_1096 : decode cL_law 1096 = .ok (.iconst 3, 1) := by decide +kernel
theorem dL_law_1097 : decode cL_law 1097 = .ok (.iadd, 1) := by decide +kernel
theorem dL_law_1098 : decode cL_law 1098 = .ok (.iaload, 1) := by decide +kernel
theorem dL_law_1099 : decode cL_law 1099 = .ok (.invokevirtual 122, 3) := by decide +kernel
theorem dL_law_1102 : decode cL_law 1102 = .ok (.if_icmp .eq 477, 3) := by decide +kernel
theorem dL_law_1105 : decode cL_law 1105 = .ok (.iconst 0, 1) := by decide +kernel
theorem dL_law_1106 : decode cL_law 1106 = .ok (.ireturn, 1) := by decide +kernel
theorem dL_law_1107 : decode cL_law 1107 = .ok (.aload_n 1, 1) := by decide +kernel
theorem dL_law_1108 : decode cL_law 1108 = .ok (.aload_n 0, 1) := by decide +kernel
theorem dL_law_1109 : decode cL_law 1109 = .ok (.iload_n 3, 1) := by decide +kernel
theorem dL_law_1110 : decode cL_law 1110 = .ok (.iconst 1, 1) := by decide +kernel
theorem dL_law_1111 : decode cL_law 1111 = .ok (.iadd, 1) := by decide +kernel
theorem dL_law_1112 : decode cL_law 1112 = .ok (.iaload, 1) := by decide +kernel
theorem dL_law_1113 : decode cL_law 1113 = .ok (.invokevirtual 123, 3) := by decide +kernel
theorem dL_law_1116 : decode cL_law 1116 = .ok (.aload_n 2, 1) := by decide +kernel
theorem dL_law_1117 : decode cL_law 1117 = .ok (.aload_n 0, 1) := by decide +kernel
theorem dL_law_1118 : decode cL_law 1118 = .ok (.iload_n 3, 1) := by decide +kernel
theorem dL_law_1119 : decode cL_law 1119 = .ok (.iconst 1, 1) := by decide +kernel
theorem dL_law_1120 : decode cL_law 1120 = .ok (.iadd, 1) := by decide +kernel
theorem dL_law_1121 : decode cL_law 1121 = .ok (.iaload, 1) := by decide +kernel
theorem dL_law_1122 : decode cL_law 1122 = .ok (.invokevirtual 126, 3) := by decide +kernel
theorem dL_law_1125 : decode cL_law 1125 = .ok (.if_icmp .eq 454, 3) := by decide +kernel
theorem dL_law_1128 : decode cL_law 1128 = .ok (.iconst 0, 1) := by decide +kernel
theorem dL_law_1129 : decode cL_law 1129 = .ok (.ireturn, 1) := by decide +kernel
theorem dL_law_1130 : decode cL_law 1130 = .ok (.aload_n 1, 1) := by decide +kernel
theorem dL_law_1131 : decode cL_law 1131 = .ok (.aload_n 0, 1) := by decide +kernel
theorem dL_law_1132 : decode cL_law 1132 = .ok (.iload_n 3, 1) := by decide +kernel
theorem dL_law_1133 : decode cL_law 1133 = .ok (.iconst 1, 1) := by decide +kernel
theorem dL_law_1134 : decode cL_law 1134 = .ok (.iadd, 1) := by decide +kernel
theorem dL_law_1135 : decode cL_law 1135 = .ok (.iaload, 1) := by decide +kernel
theorem dL_law_1136 : decode cL_law 1136 = .ok (.aload_n 0, 1) := by decide +kernel
theorem dL_law_1137 : decode cL_law 1137 = .ok (.iload_n 3, 1) := by decide +kernel
theorem dL_law_1138 : decode cL_law 1138 = .ok (.iconst 2, 1) := by decide +kernel
theorem dL_law_1139 : decode cL_law 1139 = .ok (.iadd, 1) := by decide +kernel
theorem dL_law_1140 : decode cL_law 1140 = .ok (.iaload, 1) := by decide +kernel
theorem dL_law_1141 : decode cL_law 1141 = .ok (.aload_n 0, 1) := by decide +kernel
theorem dL_law_1142 : decode cL_law 1142 = .ok (.iload_n 3, 1) := by decide +kernel
theorem dL_law_1143 : decode cL_law 1143 = .ok (.iconst 3, 1) := by decide +kernel
theorem dL_law_1144 : decode cL_law 1144 = .ok (.iadd, 1) := by decide +kernel
theorem dL_law_1145 : decode cL_law 1145 = .ok (.iaload, 1) := by decide +kernel
theorem dL_law_1146 : decode cL_law 1146 = .ok (.ifCond .eq 7, 3) := by decide +kernel
theorem dL_law_1149 : decode cL_law 1149 = .ok (.iconst 1, 1) := by decide +kernel
theorem dL_law_1150 : decode cL_law 1150 = .ok (.goto 4, 3) := by decide +kernel
theorem dL_law_1153 : decode cL_law 1153 = .ok (.iconst 0, 1) := by decide +kernel
theorem dL_law_1154 : decode cL_law 1154 = .ok (.invokevirtual 127, 3) := by decide +kernel
theorem dL_law_1157 : decode cL_law 1157 = .ok (.aload_n 2, 1) := by decide +kernel
theorem dL_law_1158 : decode cL_law 1158 = .ok (.aload_n 0, 1) := by decide +kernel
theorem dL_law_1159 : decode cL_law 1159 = .ok (.iload_n 3, 1) := by decide +kernel
theorem dL_law_1160 : decode cL_law 1160 = .ok (.iconst 1, 1) := by decide +kernel
theorem dL_law_1161 : decode cL_law 1161 = .ok (.iadd, 1) := by decide +kernel
theorem dL_law_1162 : decode cL_law 1162 = .ok (.iaload, 1) := by decide +kernel
theorem dL_law_1163 : decode cL_law 1163 = .ok (.aload_n 0, 1) := by decide +kernel
theorem dL_law_1164 : decode cL_law 1164 = .ok (.iload_n 3, 1) := by decide +kernel
theorem dL_law_1165 : decode cL_law 1165 = .ok (.iconst 2, 1) := by decide +kernel
theorem dL_law_1166 : decode cL_law 1166 = .ok (.iadd, 1) := by decide +kernel
theorem dL_law_1167 : decode cL_law 1167 = .ok (.iaload, 1) := by decide +kernel
theorem dL_law_1168 : decode cL_law 1168 = .ok (.aload_n 0, 1) := by decide +kernel
theorem dL_law_1169 : decode cL_law 1169 = .ok (.iload_n 3, 1) := by decide +kernel
theorem dL_law_1170 : decode cL_law 1170 = .ok (.iconst 3, 1) := by decide +kernel
theorem dL_law_1171 : decode cL_law 1171 = .ok (.iadd, 1) := by decide +kernel
theorem dL_law_1172 : decode cL_law 1172 = .ok (.iaload, 1) := by decide +kernel
theorem dL_law_1173 : decode cL_law 1173 = .ok (.ifCond .eq 7, 3) := by decide +kernel
theorem dL_law_1176 : decode cL_law 1176 = .ok (.iconst 1, 1) := by decide +kernel
theorem dL_law_1177 : decode cL_law 1177 = .ok (.goto 4, 3) := by decide +kernel
theorem dL_law_1180 : decode cL_law 1180 = .ok (.iconst 0, 1) := by decide +kernel
theorem dL_law_1181 : decode cL_law 1181 = .ok (.invokevirtual 131, 3) := by decide +kernel
theorem dL_law_1184 : decode cL_law 1184 = .ok (.if_icmp .eq 395, 3) := by decide +kernel
theorem dL_law_1187 : decode cL_law 1187 = .ok (.iconst 0, 1) := by decide +kernel
theorem dL_law_1188 : decode cL_law 1188 = .ok (.ireturn, 1) := by decide +kernel
theorem dL_law_1189 : decode cL_law 1189 = .ok (.aload_n 1, 1) := by decide +kernel
theorem dL_law_1190 : decode cL_law 1190 = .ok (.invokevirtual 132, 3) := by decide +kernel
theorem dL_law_1193 : decode cL_law 1193 = .ok (.aload_n 2, 1) := by decide +kernel
theorem dL_law_1194 : decode cL_law 1194 = .ok (.invokevirtual 135, 3) := by decide +kernel
theorem dL_law_1197 : decode cL_law 1197 = .ok (.if_icmp .eq 382, 3) := by decide +kernel
theorem dL_law_1200 : decode cL_law 1200 = .ok (.iconst 0, 1) := by decide +kernel
theorem dL_law_1201 : decode cL_law 1201 = .ok (.ireturn, 1) := by decide +kernel
theorem dL_law_1202 : decode cL_law 1202 = .ok (.aload_n 1, 1) := by decide +kernel
theorem dL_law_1203 : decode cL_law 1203 = .ok (.aload_n 0, 1) := by decide +kernel
theorem dL_law_1204 : decode cL_law 1204 = .ok (.iload_n 3, 1) := by decide +kernel
theorem dL_law_1205 : decode cL_law 1205 = .ok (.iconst 1, 1) := by decide +kernel
theorem dL_law_1206 : decode cL_law 1206 = .ok (.iadd, 1) := by decide +kernel
theorem dL_law_1207 : decode cL_law 1207 = .ok (.iaload, 1) := by decide +kernel
theorem dL_law_1208 : decode cL_law 1208 = .ok (.aload_n 0, 1) := by decide +kernel
theorem dL_law_1209 : decode cL_law 1209 = .ok (.iload_n 3, 1) := by decide +kernel
theorem dL_law_1210 : decode cL_law 1210 = .ok (.iconst 2, 1) := by decide +kernel
theorem dL_law_1211 : decode cL_law 1211 = .ok (.iadd, 1) := by decide +kernel
theorem dL_law_1212 : decode cL_law 1212 = .ok (.iaload, 1) := by decide +kernel
theorem dL_law_1213 : decode cL_law 1213 = .ok (.aload_n 0, 1) := by decide +kernel
theorem dL_law_1214 : decode cL_law 1214 = .ok (.iload_n 3, 1) := by decide +kernel
theorem dL_law_1215 : decode cL_law 1215 = .ok (.iconst 3, 1) := by decide +kernel
theorem dL_law_1216 : decode cL_law 1216 = .ok (.iadd, 1) := by decide +kernel
theorem dL_law_1217 : decode cL_law 1217 = .ok (.iaload, 1) := by decide +kernel
theorem dL_law_1218 : decode cL_law 1218 = .ok (.invokevirtual 136, 3) := by decide +kernel
theorem dL_law_1221 : decode cL_law 1221 = .ok (.aload_n 2, 1) := by decide +kernel
theorem dL_law_1222 : decode cL_law 1222 = .ok (.aload_n 0, 1) := by decide +kernel
theorem dL_law_1223 : decode cL_law 1223 = .ok (.iload_n 3, 1) := by decide +kernel
theorem dL_law_1224 : decode cL_law 1224 = .ok (.iconst 1, 1) := by decide +kernel
theorem dL_law_1225 : decode cL_law 1225 = .ok (.iadd, 1) := by decide +kernel
theorem dL_law_1226 : decode cL_law 1226 = .ok (.iaload, 1) := by decide +kernel
theorem dL_law_1227 : decode cL_law 1227 = .ok (.aload_n 0, 1) := by decide +kernel
theorem dL_law_1228 : decode cL_law 1228 = .ok (.iload_n 3, 1) := by decide +kernel
theorem dL_law_1229 : decode cL_law 1229 = .ok (.iconst 2, 1) := by decide +kernel
theorem dL_law_1230 : decode cL_law 1230 = .ok (.iadd, 1) := by decide +kernel
theorem dL_law_1231 : decode cL_law 1231 = .ok (.iaload, 1) := by decide +kernel
theorem dL_law_1232 : decode cL_law 1232 = .ok (.aload_n 0, 1) := by decide +kernel
theorem dL_law_1233 : decode cL_law 1233 = .ok (.iload_n 3, 1) := by decide +kernel
theorem dL_law_1234 : decode cL_law 1234 = .ok (.iconst 3, 1) := by decide +kernel
theorem dL_law_1235 : decode cL_law 1235 = .ok (.iadd, 1) := by decide +kernel
theorem dL_law_1236 : decode cL_law 1236 = .ok (.iaload, 1) := by decide +kernel
theorem dL_law_1237 : decode cL_law 1237 = .ok (.invokevirtual 139, 3) := by decide +kernel
theorem dL_law_1240 : decode cL_law 1240 = .ok (.if_icmp .eq 339, 3) := by decide +kernel
theorem dL_law_1243 : decode cL_law 1243 = .ok (.iconst 0, 1) := by decide +kernel
theorem dL_law_1244 : decode cL_law 1244 = .ok (.ireturn, 1) := by decide +kernel
theorem dL_law_1245 : decode cL_law 1245 = .ok (.aload_n 1, 1) := by decide +kernel
theorem dL_law_1246 : decode cL_law 1246 = .ok (.aload_n 0, 1) := by decide +kernel
theorem dL_law_1247 : decode cL_law 1247 = .ok (.iload_n 3, 1) := by decide +kernel
theorem dL_law_1248 : decode cL_law 1248 = .ok (.iconst 1, 1) := by decide +kernel
theorem dL_law_1249 : decode cL_law 1249 = .ok (.iadd, 1) := by decide +kernel
theorem dL_law_1250 : decode cL_law 1250 = .ok (.iaload, 1) := by decide +kernel
theorem dL_law_1251 : decode cL_law 1251 = .ok (.invokevirtual 140, 3) := by decide +kernel
theorem dL_law_1254 : decode cL_law 1254 = .ok (.aload_n 2, 1) := by decide +kernel
theorem dL_law_1255 : decode cL_law 1255 = .ok (.aload_n 0, 1) := by decide +kernel
theorem dL_law_1256 : decode cL_law 1256 = .ok (.iload_n 3, 1) := by decide +kernel
theorem dL_law_1257 : decode cL_law 1257 = .ok (.iconst 1, 1) := by decide +kernel
theorem dL_law_1258 : decode cL_law 1258 = .ok (.iadd, 1) := by decide +kernel
theorem dL_law_1259 : decode cL_law 1259 = .ok (.iaload, 1) := by decide +kernel
theorem dL_law_1260 : decode cL_law 1260 = .ok (.invokevirtual 143, 3) := by decide +kernel
theorem dL_law_1263 : decode cL_law 1263 = .ok (.if_icmp .eq 316, 3) := by decide +kernel
theorem dL_law_1266 : decode cL_law 1266 = .ok (.iconst 0, 1) := by decide +kernel
theorem dL_law_1267 : decode cL_law 1267 = .ok (.ireturn, 1) := by decide +kernel
theorem dL_law_1268 : decode cL_law 1268 = .ok (.aload_n 1, 1) := by decide +kernel
theorem dL_law_1269 : decode cL_law 1269 = .ok (.aload_n 0, 1) := by decide +kernel
theorem dL_law_1270 : decode cL_law 1270 = .ok (.iload_n 3, 1) := by decide +kernel
theorem dL_law_1271 : decode cL_law 1271 = .ok (.iconst 1, 1) := by decide +kernel
theorem dL_law_1272 : decode cL_law 1272 = .ok (.iadd, 1) := by decide +kernel
theorem dL_law_1273 : decode cL_law 1273 = .ok (.iaload, 1) := by decide +kernel
theorem dL_law_1274 : decode cL_law 1274 = .ok (.aload_n 0, 1) := by decide +kernel
theorem dL_law_1275 : decode cL_law 1275 = .ok (.iload_n 3, 1) := by decide +kernel
theorem dL_law_1276 : decode cL_law 1276 = .ok (.iconst 2, 1) := by decide +kernel
theorem dL_law_1277 : decode cL_law 1277 = .ok (.iadd, 1) := by decide +kernel
theorem dL_law_1278 : decode cL_law 1278 = .ok (.iaload, 1) := by decide +kernel
theorem dL_law_1279 : decode cL_law 1279 = .ok (.invokevirtual 144, 3) := by decide +kernel
theorem dL_law_1282 : decode cL_law 1282 = .ok (.aload_n 2, 1) := by decide +kernel
theorem dL_law_1283 : decode cL_law 1283 = .ok (.aload_n 0, 1) := by decide +kernel
theorem dL_law_1284 : decode cL_law 1284 = .ok (.iload_n 3, 1) := by decide +kernel
theorem dL_law_1285 : decode cL_law 1285 = .ok (.iconst 1, 1) := by decide +kernel
theorem dL_law_1286 : decode cL_law 1286 = .ok (.iadd, 1) := by decide +kernel
theorem dL_law_1287 : decode cL_law 1287 = .ok (.iaload, 1) := by decide +kernel
theorem dL_law_1288 : decode cL_law 1288 = .ok (.aload_n 0, 1) := by decide +kernel
theorem dL_law_1289 : decode cL_law 1289 = .ok (.iload_n 3, 1) := by decide +kernel
theorem dL_law_1290 : decode cL_law 1290 = .ok (.iconst 2, 1) := by decide +kernel
theorem dL_law_1291 : decode cL_law 1291 = .ok (.iadd, 1) := by decide +kernel
theorem dL_law_1292 : decode cL_law 1292 = .ok (.iaload, 1) := by decide +kernel
theorem dL_law_1293 : decode cL_law 1293 = .ok (.invokevirtual 147, 3) := by decide +kernel
theorem dL_law_1296 : decode cL_law 1296 = .ok (.if_icmp .eq 283, 3) := by decide +kernel
theorem dL_law_1299 : decode cL_law 1299 = .ok (.iconst 0, 1) := by decide +kernel
theorem dL_law_1300 : decode cL_law 1300 = .ok (.ireturn, 1) := by decide +kernel
theorem dL_law_1301 : decode cL_law 1301 = .ok (.aload_n 1, 1) := by decide +kernel
theorem dL_law_1302 : decode cL_law 1302 = .ok (.aload_n 0, 1) := by decide +kernel
theorem dL_law_1303 : decode cL_law 1303 = .ok (.iload_n 3, 1) := by decide +kernel
theorem dL_law_1304 : decode cL_law 1304 = .ok (.iconst 1, 1) := by decide +kernel
theorem dL_law_1305 : decode cL_law 1305 = .ok (.iadd, 1) := by decide +kernel
theorem dL_law_1306 : decode cL_law 1306 = .ok (.iaload, 1) := by decide +kernel
theorem dL_law_1307 : decode cL_law 1307 = .ok (.aload_n 0, 1) := by decide +kernel
theorem dL_law_1308 : decode cL_law 1308 = .ok (.iload_n 3, 1) := by decide +kernel
theorem dL_law_1309 : decode cL_law 1309 = .ok (.iconst 2, 1) := by decide +kernel
theorem dL_law_1310 : decode cL_law 1310 = .ok (.iadd, 1) := by decide +kernel
theorem dL_law_1311 : decode cL_law 1311 = .ok (.iaload, 1) := by decide +kernel
theorem dL_law_1312 : decode cL_law 1312 = .ok (.aload_n 0, 1) := by decide +kernel
theorem dL_law_1313 : decode cL_law 1313 = .ok (.iload_n 3, 1) := by decide +kernel
theorem dL_law_1314 : decode cL_law 1314 = .ok (.iconst 3, 1) := by decide +kernel
theorem dL_law_1315 : decode cL_law 1315 = .ok (.iadd, 1) := by decide +kernel
theorem dL_law_1316 : decode cL_law 1316 = .ok (.iaload, 1) := by decide +kernel
theorem dL_law_1317 : decode cL_law 1317 = .ok (.aload_n 0, 1) := by decide +kernel
theorem dL_law_1318 : decode cL_law 1318 = .ok (.iload_n 3, 1) := by decide +kernel
theorem dL_law_1319 : decode cL_law 1319 = .ok (.iconst 4, 1) := by decide +kernel
theorem dL_law_1320 : decode cL_law 1320 = .ok (.iadd, 1) := by decide +kernel
theorem dL_law_1321 : decode cL_law 1321 = .ok (.iaload, 1) := by decide +kernel
theorem dL_law_1322 : decode cL_law 1322 = .ok (.aload_n 0, 1) := by decide +kernel
theorem dL_law_1323 : decode cL_law 1323 = .ok (.iload_n 3, 1) := by decide +kernel
theorem dL_law_1324 : decode cL_law 1324 = .ok (.iconst 5, 1) := by decide +kernel
theorem dL_law_1325 : decode cL_law 1325 = .ok (.iadd, 1) := by decide +kernel
theorem dL_law_1326 : decode cL_law 1326 = .ok (.iaload, 1) := by decide +kernel
theorem dL_law_1327 : decode cL_law 1327 = .ok (.invokevirtual 148, 3) := by decide +kernel
theorem dL_law_1330 : decode cL_law 1330 = .ok (.aload_n 2, 1) := by decide +kernel
theorem dL_law_1331 : decode cL_law 1331 = .ok (.aload_n 0, 1) := by decide +kernel
theorem dL_law_1332 : decode cL_law 1332 = .ok (.iload_n 3, 1) := by decide +kernel
theorem dL_law_1333 : decode cL_law 1333 = .ok (.iconst 1, 1) := by decide +kernel
theorem dL_law_1334 : decode cL_law 1334 = .ok (.iadd, 1) := by decide +kernel
theorem dL_law_1335 : decode cL_law 1335 = .ok (.iaload, 1) := by decide +kernel
theorem dL_law_1336 : decode cL_law 1336 = .ok (.aload_n 0, 1) := by decide +kernel
theorem dL_law_1337 : decode cL_law 1337 = .ok (.iload_n 3, 1) := by decide +kernel
theorem dL_law_1338 : decode cL_law 1338 = .ok (.iconst 2, 1) := by decide +kernel
theorem dL_law_1339 : decode cL_law 1339 = .ok (.iadd, 1) := by decide +kernel
theorem dL_law_1340 : decode cL_law 1340 = .ok (.iaload, 1) := by decide +kernel
theorem dL_law_1341 : decode cL_law 1341 = .ok (.aload_n 0, 1) := by decide +kernel
theorem dL_law_1342 : decode cL_law 1342 = .ok (.iload_n 3, 1) := by decide +kernel
theorem dL_law_1343 : decode cL_law 1343 = .ok (.iconst 3, 1) := by decide +kernel
theorem dL_law_1344 : decode cL_law 1344 = .ok (.iadd, 1) := by decide +kernel
theorem dL_law_1345 : decode cL_law 1345 = .ok (.iaload, 1) := by decide +kernel
theorem dL_law_1346 : decode cL_law 1346 = .ok (.aload_n 0, 1) := by decide +kernel
theorem dL_law_1347 : decode cL_law 1347 = .ok (.iload_n 3, 1) := by decide +kernel
theorem dL_law_1348 : decode cL_law 1348 = .ok (.iconst 4, 1) := by decide +kernel
theorem dL_law_1349 : decode cL_law 1349 = .ok (.iadd, 1) := by decide +kernel
theorem dL_law_1350 : decode cL_law 1350 = .ok (.iaload, 1) := by decide +kernel
theorem dL_law_1351 : decode cL_law 1351 = .ok (.aload_n 0, 1) := by decide +kernel
theorem dL_law_1352 : decode cL_law 1352 = .ok (.iload_n 3, 1) := by decide +kernel
theorem dL_law_1353 : decode cL_law 1353 = .ok (.iconst 5, 1) := by decide +kernel
theorem dL_law_1354 : decode cL_law 1354 = .ok (.iadd, 1) := by decide +kernel
theorem dL_law_1355 : decode cL_law 1355 = .ok (.iaload, 1) := by decide +kernel
theorem dL_law_1356 : decode cL_law 1356 = .ok (.invokevirtual 151, 3) := by decide +kernel
theorem dL_law_1359 : decode cL_law 1359 = .ok (.if_icmp .eq 220, 3) := by decide +kernel
theorem dL_law_1362 : decode cL_law 1362 = .ok (.iconst 0, 1) := by decide +kernel
theorem dL_law_1363 : decode cL_law 1363 = .ok (.ireturn, 1) := by decide +kernel
theorem dL_law_1364 : decode cL_law 1364 = .ok (.aload_n 1, 1) := by decide +kernel
theorem dL_law_1365 : decode cL_law 1365 = .ok (.aload_n 0, 1) := by decide +kernel
theorem dL_law_1366 : decode cL_law 1366 = .ok (.iload_n 3, 1) := by decide +kernel
theorem dL_law_1367 : decode cL_law 1367 = .ok (.iconst 1, 1) := by decide +kernel
theorem dL_law_1368 : decode cL_law 1368 = .ok (.iadd, 1) := by decide +kernel
theorem dL_law_1369 : decode cL_law 1369 = .ok (.iaload, 1) := by decide +kernel
theorem dL_law_1370 : decode cL_law 1370 = .ok (.aload_n 0, 1) := by decide +kernel
theorem dL_law_1371 : decode cL_law 1371 = .ok (.iload_n 3, 1) := by decide +kernel
theorem dL_law_1372 : decode cL_law 1372 = .ok (.iconst 2, 1) := by decide +kernel
theorem dL_law_1373 : decode cL_law 1373 = .ok (.iadd, 1) := by decide +kernel
theorem dL_law_1374 : decode cL_law 1374 = .ok (.iaload, 1) := by decide +kernel
theorem dL_law_1375 : decode cL_law 1375 = .ok (.aload_n 0, 1) := by decide +kernel
theorem dL_law_1376 : decode cL_law 1376 = .ok (.iload_n 3, 1) := by decide +kernel
theorem dL_law_1377 : decode cL_law 1377 = .ok (.iconst 3, 1) := by decide +kernel
theorem dL_law_1378 : decode cL_law 1378 = .ok (.iadd, 1) := by decide +kernel
theorem dL_law_1379 : decode cL_law 1379 = .ok (.iaload, 1) := by decide +kernel
theorem dL_law_1380 : decode cL_law 1380 = .ok (.invokevirtual 152, 3) := by decide +kernel
theorem dL_law_1383 : decode cL_law 1383 = .ok (.aload_n 2, 1) := by decide +kernel
theorem dL_law_1384 : decode cL_law 1384 = .ok (.aload_n 0, 1) := by decide +kernel
theorem dL_law_1385 : decode cL_law 1385 = .ok (.iload_n 3, 1) := by decide +kernel
theorem dL_law_1386 : decode cL_law 1386 = .ok (.iconst 1, 1) := by decide +kernel
theorem dL_law_1387 : decode cL_law 1387 = .ok (.iadd, 1) := by decide +kernel
theorem dL_law_1388 : decode cL_law 1388 = .ok (.iaload, 1) := by decide +kernel
theorem dL_law_1389 : decode cL_law 1389 = .ok (.aload_n 0, 1) := by decide +kernel
theorem dL_law_1390 : decode cL_law 1390 = .ok (.iload_n 3, 1) := by decide +kernel
theorem dL_law_1391 : decode cL_law 1391 = .ok (.iconst 2, 1) := by decide +kernel
theorem dL_law_1392 : decode cL_law 1392 = .ok (.iadd, 1) := by decide +kernel
theorem dL_law_1393 : decode cL_law 1393 = .ok (.iaload, 1) := by decide +kernel
theorem dL_law_1394 : decode cL_law 1394 = .ok (.aload_n 0, 1) := by decide +kernel
theorem dL_law_1395 : decode cL_law 1395 = .ok (.iload_n 3, 1) := by decide +kernel
theorem dL_law_1396 : decode cL_law 1396 = .ok (.iconst 3, 1) := by decide +kernel
theorem dL_law_1397 : decode cL_law 1397 = .ok (.iadd, 1) := by decide +kernel
theorem dL_law_1398 : decode cL_law 1398 = .ok (.iaload, 1) := by decide +kernel
theorem dL_law_1399 : decode cL_law 1399 = .ok (.invokevirtual 155, 3) := by decide +kernel
theorem dL_law_1402 : decode cL_law 1402 = .ok (.if_icmp .eq 177, 3) := by decide +kernel
theorem dL_law_1405 : decode cL_law 1405 = .ok (.iconst 0, 1) := by decide +kernel
theorem dL_law_1406 : decode cL_law 1406 = .ok (.ireturn, 1) := by decide +kernel
theorem dL_law_1407 : decode cL_law 1407 = .ok (.aload_n 1, 1) := by decide +kernel
theorem dL_law_1408 : decode cL_law 1408 = .ok (.aload_n 0, 1) := by decide +kernel
theorem dL_law_1409 : decode cL_law 1409 = .ok (.iload_n 3, 1) := by decide +kernel
theorem dL_law_1410 : decode cL_law 1410 = .ok (.iconst 1, 1) := by decide +kernel
theorem dL_law_1411 : decode cL_law 1411 = .ok (.iadd, 1) := by decide +kernel
theorem dL_law_1412 : decode cL_law 1412 = .ok (.iaload, 1) := by decide +kernel
theorem dL_law_1413 : decode cL_law 1413 = .ok (.invokevirtual 156, 3) := by decide +kernel
theorem dL_law_1416 : decode cL_law 1416 = .ok (.aload_n 2, 1) := by decide +kernel
theorem dL_law_1417 : decode cL_law 1417 = .ok (.aload_n 0, 1) := by decide +kernel
theorem dL_law_1418 : decode cL_law 1418 = .ok (.iload_n 3, 1) := by decide +kernel
theorem dL_law_1419 : decode cL_law 1419 = .ok (.iconst 1, 1) := by decide +kernel
theorem dL_law_1420 : decode cL_law 1420 = .ok (.iadd, 1) := by decide +kernel
theorem dL_law_1421 : decode cL_law 1421 = .ok (.iaload, 1) := by decide +kernel
theorem dL_law_1422 : decode cL_law 1422 = .ok (.invokevirtual 159, 3) := by decide +kernel
theorem dL_law_1425 : decode cL_law 1425 = .ok (.if_icmp .eq 154, 3) := by decide +kernel
theorem dL_law_1428 : decode cL_law 1428 = .ok (.iconst 0, 1) := by decide +kernel
theorem dL_law_1429 : decode cL_law 1429 = .ok (.ireturn, 1) := by decide +kernel
theorem dL_law_1430 : decode cL_law 1430 = .ok (.aload_n 1, 1) := by decide +kernel
theorem dL_law_1431 : decode cL_law 1431 = .ok (.aload_n 0, 1) := by decide +kernel
theorem dL_law_1432 : decode cL_law 1432 = .ok (.iload_n 3, 1) := by decide +kernel
theorem dL_law_1433 : decode cL_law 1433 = .ok (.iconst 1, 1) := by decide +kernel
theorem dL_law_1434 : decode cL_law 1434 = .ok (.iadd, 1) := by decide +kernel
theorem dL_law_1435 : decode cL_law 1435 = .ok (.iaload, 1) := by decide +kernel
theorem dL_law_1436 : decode cL_law 1436 = .ok (.aload_n 0, 1) := by decide +kernel
theorem dL_law_1437 : decode cL_law 1437 = .ok (.iload_n 3, 1) := by decide +kernel
theorem dL_law_1438 : decode cL_law 1438 = .ok (.iconst 2, 1) := by decide +kernel
theorem dL_law_1439 : decode cL_law 1439 = .ok (.iadd, 1) := by decide +kernel
theorem dL_law_1440 : decode cL_law 1440 = .ok (.iaload, 1) := by decide +kernel
theorem dL_law_1441 : decode cL_law 1441 = .ok (.aload_n 0, 1) := by decide +kernel
theorem dL_law_1442 : decode cL_law 1442 = .ok (.iload_n 3, 1) := by decide +kernel
theorem dL_law_1443 : decode cL_law 1443 = .ok (.iconst 3, 1) := by decide +kernel
theorem dL_law_1444 : decode cL_law 1444 = .ok (.iadd, 1) := by decide +kernel
theorem dL_law_1445 : decode cL_law 1445 = .ok (.iaload, 1) := by decide +kernel
theorem dL_law_1446 : decode cL_law 1446 = .ok (.aload_n 0, 1) := by decide +kernel
theorem dL_law_1447 : decode cL_law 1447 = .ok (.iload_n 3, 1) := by decide +kernel
theorem dL_law_1448 : decode cL_law 1448 = .ok (.iconst 4, 1) := by decide +kernel
theorem dL_law_1449 : decode cL_law 1449 = .ok (.iadd, 1) := by decide +kernel
theorem dL_law_1450 : decode cL_law 1450 = .ok (.iaload, 1) := by decide +kernel
theorem dL_law_1451 : decode cL_law 1451 = .ok (.invokevirtual 160, 3) := by decide +kernel
theorem dL_law_1454 : decode cL_law 1454 = .ok (.aload_n 2, 1) := by decide +kernel
theorem dL_law_1455 : decode cL_law 1455 = .ok (.aload_n 0, 1) := by decide +kernel
theorem dL_law_1456 : decode cL_law 1456 = .ok (.iload_n 3, 1) := by decide +kernel
theorem dL_law_1457 : decode cL_law 1457 = .ok (.iconst 1, 1) := by decide +kernel
theorem dL_law_1458 : decode cL_law 1458 = .ok (.iadd, 1) := by decide +kernel
theorem dL_law_1459 : decode cL_law 1459 = .ok (.iaload, 1) := by decide +kernel
theorem dL_law_1460 : decode cL_law 1460 = .ok (.aload_n 0, 1) := by decide +kernel
theorem dL_law_1461 : decode cL_law 1461 = .ok (.iload_n 3, 1) := by decide +kernel
theorem dL_law_1462 : decode cL_law 1462 = .ok (.iconst 2, 1) := by decide +kernel
theorem dL_law_1463 : decode cL_law 1463 = .ok (.iadd, 1) := by decide +kernel
theorem dL_law_1464 : decode cL_law 1464 = .ok (.iaload, 1) := by decide +kernel
theorem dL_law_1465 : decode cL_law 1465 = .ok (.aload_n 0, 1) := by decide +kernel
theorem dL_law_1466 : decode cL_law 1466 = .ok (.iload_n 3, 1) := by decide +kernel
theorem dL_law_1467 : decode cL_law 1467 = .ok (.iconst 3, 1) := by decide +kernel
theorem dL_law_1468 : decode cL_law 1468 = .ok (.iadd, 1) := by decide +kernel
theorem dL_law_1469 : decode cL_law 1469 = .ok (.iaload, 1) := by decide +kernel
theorem dL_law_1470 : decode cL_law 1470 = .ok (.aload_n 0, 1) := by decide +kernel
theorem dL_law_1471 : decode cL_law 1471 = .ok (.iload_n 3, 1) := by decide +kernel
theorem dL_law_1472 : decode cL_law 1472 = .ok (.iconst 4, 1) := by decide +kernel
theorem dL_law_1473 : decode cL_law 1473 = .ok (.iadd, 1) := by decide +kernel
theorem dL_law_1474 : decode cL_law 1474 = .ok (.iaload, 1) := by decide +kernel
theorem dL_law_1475 : decode cL_law 1475 = .ok (.invokevirtual 163, 3) := by decide +kernel
theorem dL_law_1478 : decode cL_law 1478 = .ok (.if_icmp .eq 101, 3) := by decide +kernel
theorem dL_law_1481 : decode cL_law 1481 = .ok (.iconst 0, 1) := by decide +kernel
theorem dL_law_1482 : decode cL_law 1482 = .ok (.ireturn, 1) := by decide +kernel
theorem dL_law_1483 : decode cL_law 1483 = .ok (.aload_n 1, 1) := by decide +kernel
theorem dL_law_1484 : decode cL_law 1484 = .ok (.aload_n 0, 1) := by decide +kernel
theorem dL_law_1485 : decode cL_law 1485 = .ok (.iload_n 3, 1) := by decide +kernel
theorem dL_law_1486 : decode cL_law 1486 = .ok (.iconst 1, 1) := by decide +kernel
theorem dL_law_1487 : decode cL_law 1487 = .ok (.iadd, 1) := by decide +kernel
theorem dL_law_1488 : decode cL_law 1488 = .ok (.iaload, 1) := by decide +kernel
theorem dL_law_1489 : decode cL_law 1489 = .ok (.aload_n 0, 1) := by decide +kernel
theorem dL_law_1490 : decode cL_law 1490 = .ok (.iload_n 3, 1) := by decide +kernel
theorem dL_law_1491 : decode cL_law 1491 = .ok (.iconst 2, 1) := by decide +kernel
theorem dL_law_1492 : decode cL_law 1492 = .ok (.iadd, 1) := by decide +kernel
theorem dL_law_1493 : decode cL_law 1493 = .ok (.iaload, 1) := by decide +kernel
theorem dL_law_1494 : decode cL_law 1494 = .ok (.aload_n 0, 1) := by decide +kernel
theorem dL_law_1495 : decode cL_law 1495 = .ok (.iload_n 3, 1) := by decide +kernel
theorem dL_law_1496 : decode cL_law 1496 = .ok (.iconst 3, 1) := by decide +kernel
theorem dL_law_1497 : decode cL_law 1497 = .ok (.iadd, 1) := by decide +kernel
theorem dL_law_1498 : decode cL_law 1498 = .ok (.iaload, 1) := by decide +kernel
theorem dL_law_1499 : decode cL_law 1499 = .ok (.aload_n 0, 1) := by decide +kernel
theorem dL_law_1500 : decode cL_law 1500 = .ok (.iload_n 3, 1) := by decide +kernel
theorem dL_law_1501 : decode cL_law 1501 = .ok (.iconst 4, 1) := by decide +kernel
theorem dL_law_1502 : decode cL_law 1502 = .ok (.iadd, 1) := by decide +kernel
theorem dL_law_1503 : decode cL_law 1503 = .ok (.iaload, 1) := by decide +kernel
theorem dL_law_1504 : decode cL_law 1504 = .ok (.aload_n 0, 1) := by decide +kernel
theorem dL_law_1505 : decode cL_law 1505 = .ok (.iload_n 3, 1) := by decide +kernel
theorem dL_law_1506 : decode cL_law 1506 = .ok (.iconst 5, 1) := by decide +kernel
theorem dL_law_1507 : decode cL_law 1507 = .ok (.iadd, 1) := by decide +kernel
theorem dL_law_1508 : decode cL_law 1508 = .ok (.iaload, 1) := by decide +kernel
theorem dL_law_1509 : decode cL_law 1509 = .ok (.invokevirtual 164, 3) := by decide +kernel
theorem dL_law_1512 : decode cL_law 1512 = .ok (.aload_n 2, 1) := by decide +kernel
theorem dL_law_1513 : decode cL_law 1513 = .ok (.aload_n 0, 1) := by decide +kernel
theorem dL_law_1514 : decode cL_law 1514 = .ok (.iload_n 3, 1) := by decide +kernel
theorem dL_law_1515 : decode cL_law 1515 = .ok (.iconst 1, 1) := by decide +kernel
theorem dL_law_1516 : decode cL_law 1516 = .ok (.iadd, 1) := by decide +kernel
theorem dL_law_1517 : decode cL_law 1517 = .ok (.iaload, 1) := by decide +kernel
theorem dL_law_1518 : decode cL_law 1518 = .ok (.aload_n 0, 1) := by decide +kernel
theorem dL_law_1519 : decode cL_law 1519 = .ok (.iload_n 3, 1) := by decide +kernel
theorem dL_law_1520 : decode cL_law 1520 = .ok (.iconst 2, 1) := by decide +kernel
theorem dL_law_1521 : decode cL_law 1521 = .ok (.iadd, 1) := by decide +kernel
theorem dL_law_1522 : decode cL_law 1522 = .ok (.iaload, 1) := by decide +kernel
theorem dL_law_1523 : decode cL_law 1523 = .ok (.aload_n 0, 1) := by decide +kernel
theorem dL_law_1524 : decode cL_law 1524 = .ok (.iload_n 3, 1) := by decide +kernel
theorem dL_law_1525 : decode cL_law 1525 = .ok (.iconst 3, 1) := by decide +kernel
theorem dL_law_1526 : decode cL_law 1526 = .ok (.iadd, 1) := by decide +kernel
theorem dL_law_1527 : decode cL_law 1527 = .ok (.iaload, 1) := by decide +kernel
theorem dL_law_1528 : decode cL_law 1528 = .ok (.aload_n 0, 1) := by decide +kernel
theorem dL_law_1529 : decode cL_law 1529 = .ok (.iload_n 3, 1) := by decide +kernel
theorem dL_law_1530 : decode cL_law 1530 = .ok (.iconst 4, 1) := by decide +kernel
theorem dL_law_1531 : decode cL_law 1531 = .ok (.iadd, 1) := by decide +kernel
theorem dL_law_1532 : decode cL_law 1532 = .ok (.iaload, 1) := by decide +kernel
theorem dL_law_1533 : decode cL_law 1533 = .ok (.aload_n 0, 1) := by decide +kernel
theorem dL_law_1534 : decode cL_law 1534 = .ok (.iload_n 3, 1) := by decide +kernel
theorem dL_law_1535 : decode cL_law 1535 = .ok (.iconst 5, 1) := by decide +kernel
theorem dL_law_1536 : decode cL_law 1536 = .ok (.iadd, 1) := by decide +kernel
theorem dL_law_1537 : decode cL_law 1537 = .ok (.iaload, 1) := by decide +kernel
theorem dL_law_1538 : decode cL_law 1538 = .ok (.invokevirtual 167, 3) := by decide +kernel
theorem dL_law_1541 : decode cL_law 1541 = .ok (.if_icmp .eq 38, 3) := by decide +kernel
theorem dL_law_1544 : decode cL_law 1544 = .ok (.iconst 0, 1) := by decide +kernel
theorem dL_law_1545 : decode cL_law 1545 = .ok (.ireturn, 1) := by decide +kernel
theorem dL_law_1546 : decode cL_law 1546 = .ok (.aload_n 1, 1) := by decide +kernel
theorem dL_law_1547 : decode cL_law 1547 = .ok (.aload_n 0, 1) := by decide +kernel
theorem dL_law_1548 : decode cL_law 1548 = .ok (.iload_n 3, 1) := by decide +kernel
theorem dL_law_1549 : decode cL_law 1549 = .ok (.iconst 1, 1) := by decide +kernel
theorem dL_law_1550 : decode cL_law 1550 = .ok (.iadd, 1) := by decide +kernel
theorem dL_law_1551 : decode cL_law 1551 = .ok (.iaload, 1) := by decide +kernel
theorem dL_law_1552 : decode cL_law 1552 = .ok (.aload_n 0, 1) := by decide +kernel
theorem dL_law_1553 : decode cL_law 1553 = .ok (.iload_n 3, 1) := by decide +kernel
theorem dL_law_1554 : decode cL_law 1554 = .ok (.iconst 2, 1) := by decide +kernel
theorem dL_law_1555 : decode cL_law 1555 = .ok (.iadd, 1) := by decide +kernel
theorem dL_law_1556 : decode cL_law 1556 = .ok (.iaload, 1) := by decide +kernel
theorem dL_law_1557 : decode cL_law 1557 = .ok (.invokevirtual 168, 3) := by decide +kernel
theorem dL_law_1560 : decode cL_law 1560 = .ok (.aload_n 2, 1) := by decide +kernel
theorem dL_law_1561 : decode cL_law 1561 = .ok (.aload_n 0, 1) := by decide +kernel
theorem dL_law_1562 : decode cL_law 1562 = .ok (.iload_n 3, 1) := by decide +kernel
theorem dL_law_1563 : decode cL_law 1563 = .ok (.iconst 1, 1) := by decide +kernel
theorem dL_law_1564 : decode cL_law 1564 = .ok (.iadd, 1) := by decide +kernel
theorem dL_law_1565 : decode cL_law 1565 = .ok (.iaload, 1) := by decide +kernel
theorem dL_law_1566 : decode cL_law 1566 = .ok (.aload_n 0, 1) := by decide +kernel
theorem dL_law_1567 : decode cL_law 1567 = .ok (.iload_n 3, 1) := by decide +kernel
theorem dL_law_1568 : decode cL_law 1568 = .ok (.iconst 2, 1) := by decide +kernel
theorem dL_law_1569 : decode cL_law 1569 = .ok (.iadd, 1) := by decide +kernel
theorem dL_law_1570 : decode cL_law 1570 = .ok (.iaload, 1) := by decide +kernel
theorem dL_law_1571 : decode cL_law 1571 = .ok (.invokevirtual 171, 3) := by decide +kernel
theorem dL_law_1574 : decode cL_law 1574 = .ok (.if_icmp .eq 5, 3) := by decide +kernel
theorem dL_law_1577 : decode cL_law 1577 = .ok (.iconst 0, 1) := by decide +kernel
theorem dL_law_1578 : decode cL_law 1578 = .ok (.ireturn, 1) := by decide +kernel
theorem dL_law_1579 : decode cL_law 1579 = .ok (.iinc 3 6, 3) := by decide +kernel
theorem dL_law_1582 : decode cL_law 1582 = .ok (.goto (-1564), 3) := by decide +kernel
theorem dL_law_1585 : decode cL_law 1585 = .ok (.iconst 1, 1) := by decide +kernel
theorem dL_law_1586 : decode cL_law 1586 = .ok (.ireturn, 1) := by decide +kernel
end
section
/-! THE SMALL MACHINE: cells are numbered (0 .. 11 were there before), ints and references of a cell apart; one step is a function -/
abbrev am_L : Type := List (Option Value)
abbrev am_H : Type := List (Nat × Nat) × (Nat → Nat → Int32) × (Nat → Nat → Option Nat)
abbrev am_N : Type := Nat × am_L × List Value × am_H
abbrev am_R : Type := am_N ⊕ (Option Value ⊕ (Nat × List Value × Nat × List Value))
abbrev am_O : Type := am_L → List Value → am_H → Option am_R
/-- tags: 0 .. 10 objects of vwCl's classes, 12 a String, 20 int[], 21 boolean[], 22 char[], 23 byte[], 30 int[][], 31 Saying[], 32 Sheet[] -/
def am_up (f : Nat → Nat → Int32) (k j : Nat) (x : Int32) : Nat → Nat → Int32 := fun k' => if k' = k then upd (f k) j x else f k'
def am_upR (f : Nat → Nat → Option Nat) (k j : Nat) (x : Option Nat) : Nat → Nat → Option Nat := fun k' => if k' = k then va_up (f k) j x else f k'
def am_row (f : Nat → Nat → Int32) (k : Nat) (g : Nat → Int32) : Nat → Nat → Int32 := fun k' => if k' = k then g else f k'
def am_rowR (f : Nat → Nat → Option Nat) (k : Nat) (g : Nat → Option Nat) : Nat → Nat → Option Nat := fun k' => if k' = k then g else f k'
def am_nx (pc : Nat) (L : am_L) (S : List Value) (h : am_H) : Option am_R := some (.inl (pc, L, S, h))
/-- local i may be written: it is there, and no long stands ahead of it -/
def am_low (L : am_L) : Nat → Bool
  | 0 => decide (0 < L.length)
  | j + 1 => decide (j + 1 < L.length) && (match L[j]? with
    | some (some (.long _)) => false
    | some (some (.double _)) => false
    | _ => true)
def o_iload (i nx : Nat) : am_O := fun L S h => match L[i]? with
  | some (some (.int x)) => am_nx nx L (.int x :: S) h
  | _ => none
def o_lload (i nx : Nat) : am_O := fun L S h => match L[i]? with
  | some (some (.long x)) => am_nx nx L (.long x :: S) h
  | _ => none
def o_aload (i nx : Nat) : am_O := fun L S h => match L[i]? with
  | some (some (.ref x)) => am_nx nx L (.ref x :: S) h
  | _ => none
def o_istore (i nx : Nat) : am_O := fun L S h => match S with
  | .int x :: S => if am_low L i = true then am_nx nx (L.set i (some (.int x))) S h else none
  | _ => none
def o_astore (i nx : Nat) : am_O := fun L S h => match S with
  | .ref x :: S => if am_low L i = true then am_nx nx (L.set i (some (.ref x))) S h else none
  | _ => none
def o_iinc (i : Nat) (v : Int32) (nx : Nat) : am_O := fun L S h => match L[i]? with
  | some (some (.int x)) => if am_low L i = true then am_nx nx (L.set i (some (.int (x + v)))) S h else none
  | _ => none
def o_const (v : Int32) (nx : Nat) : am_O := fun L S h => am_nx nx L (.int v :: S) h
def o_lconst (v : Int64) (nx : Nat) : am_O := fun L S h => am_nx nx L (.long v :: S) h
def o_cref (k nx : Nat) : am_O := fun L S h => am_nx nx L (.ref k :: S) h
def o_dup (nx : Nat) : am_O := fun L S h => match S with
  | .int x :: S => am_nx nx L (.int x :: .int x :: S) h
  | .ref x :: S => am_nx nx L (.ref x :: .ref x :: S) h
  | _ => none
def o_dup2 (nx : Nat) : am_O := fun L S h => match S with
  | .int x :: .ref k :: S => am_nx nx L (.int x :: .ref k :: .int x :: .ref k :: S) h
  | _ => none
def o_pop (nx : Nat) : am_O := fun L S h => match S with
  | .int _ :: S => am_nx nx L S h
  | .ref _ :: S => am_nx nx L S h
  | _ => none
def o_bin (f : Int32 → Int32 → Int32) (nx : Nat) : am_O := fun L S h => match S with
  | .int y :: .int x :: S => am_nx nx L (.int (f x y) :: S) h
  | _ => none
def o_div (f : Int32 → Int32 → Int32) (nx : Nat) : am_O := fun L S h => match S with
  | .int y :: .int x :: S => if y = 0 then none else am_nx nx L (.int (f x y) :: S) h
  | _ => none
def o_un (f : Int32 → Int32) (nx : Nat) : am_O := fun L S h => match S with
  | .int x :: S => am_nx nx L (.int (f x) :: S) h
  | _ => none
def o_i2l (nx : Nat) : am_O := fun L S h => match S with
  | .int x :: S => am_nx nx L (.long x.toInt64 :: S) h
  | _ => none
def o_l2i (nx : Nat) : am_O := fun L S h => match S with
  | .long x :: S => am_nx nx L (.int x.toInt32 :: S) h
  | _ => none
def o_lbin (f : Int64 → Int64 → Int64) (nx : Nat) : am_O := fun L S h => match S with
  | .long y :: .long x :: S => am_nx nx L (.long (f x y) :: S) h
  | _ => none
def o_lsh (f : Int64 → Int32 → Int64) (nx : Nat) : am_O := fun L S h => match S with
  | .int y :: .long x :: S => am_nx nx L (.long (f x y) :: S) h
  | _ => none
def o_lcmp (nx : Nat) : am_O := fun L S h => match S with
  | .long y :: .long x :: S => am_nx nx L (.int (lg_cmp x y) :: S) h
  | _ => none
def o_goto (t : Nat) : am_O := fun L S h => am_nx t L S h
/-- 'c' goes to t, else to nx -/
def o_ifeq (t nx : Nat) : am_O := fun L S h => match S with
  | .int x :: S => if x = 0 then am_nx t L S h else am_nx nx L S h
  | _ => none
def o_iflt (t nx : Nat) : am_O := fun L S h => match S with
  | .int x :: S => if x < 0 then am_nx t L S h else am_nx nx L S h
  | _ => none
def o_ifgt (t nx : Nat) : am_O := fun L S h => match S with
  | .int x :: S => if 0 < x then am_nx t L S h else am_nx nx L S h
  | _ => none
def o_ceq (t nx : Nat) : am_O := fun L S h => match S with
  | .int y :: .int x :: S => if x = y then am_nx t L S h else am_nx nx L S h
  | _ => none
def o_clt (t nx : Nat) : am_O := fun L S h => match S with
  | .int y :: .int x :: S => if x < y then am_nx t L S h else am_nx nx L S h
  | _ => none
def o_cgt (t nx : Nat) : am_O := fun L S h => match S with
  | .int y :: .int x :: S => if y < x then am_nx t L S h else am_nx nx L S h
  | _ => none
/-- a switch from 0 on -/
def o_table (dflt : Nat) (ts : List Nat) : am_O := fun L S h => match S with
  | .int x :: S => if x < 0 ∨ ts.length ≤ x.toNatClampNeg then am_nx dflt L S h else am_nx (ts.getD x.toNatClampNeg 0) L S h
  | _ => none
/-- an array's cell, of a tag, at an index -/
def o_ald (tag nx : Nat) : am_O := fun L S h => match S with
  | .int i :: .ref k :: S => match h.1[k]? with
    | some t => if t.1 = tag then (if i < 0 ∨ t.2 ≤ i.toNatClampNeg then none else am_nx nx L (.int (h.2.1 k i.toNatClampNeg) :: S) h) else none
    | none => none
  | _ => none
def o_ast (tag : Nat) (f : Int32 → Int32) (nx : Nat) : am_O := fun L S h => match S with
  | .int x :: .int i :: .ref k :: S => match h.1[k]? with
    | some t => if t.1 = tag ∧ 12 ≤ k then (if i < 0 ∨ t.2 ≤ i.toNatClampNeg then none else am_nx nx L S (h.1, am_up h.2.1 k i.toNatClampNeg (f x), h.2.2)) else none
    | none => none
  | _ => none
def o_aald (tag nx : Nat) : am_O := fun L S h => match S with
  | .int i :: .ref k :: S => match h.1[k]? with
    | some t => if t.1 = tag ∧ 12 ≤ k then (if i < 0 ∨ t.2 ≤ i.toNatClampNeg then none else match h.2.2 k i.toNatClampNeg with
      | some a => am_nx nx L (.ref a :: S) h
      | none => none) else none
    | none => none
  | _ => none
def o_aast (tag ci nx : Nat) : am_O := fun L S h => match S with
  | .ref v :: .int i :: .ref k :: S => match h.1[k]?, h.1[v]? with
    | some t, some tv => if t.1 = tag ∧ 12 ≤ k ∧ tv.1 = ci ∧ 12 ≤ v then (if i < 0 ∨ t.2 ≤ i.toNatClampNeg then none else am_nx nx L S (h.1, h.2.1, am_upR h.2.2 k i.toNatClampNeg (some v))) else none
    | _, _ => none
  | _ => none
def o_alen (tag nx : Nat) : am_O := fun L S h => match S with
  | .ref k :: S => match h.1[k]? with
    | some t => if t.1 = tag then am_nx nx L (.int (Int32.ofNat t.2) :: S) h else none
    | none => none
  | _ => none
def o_getI (ci j nx : Nat) : am_O := fun L S h => match S with
  | .ref k :: S => match h.1[k]? with
    | some t => if t.1 = ci then am_nx nx L (.int (h.2.1 k j) :: S) h else none
    | none => none
  | _ => none
def o_getR (ci j nx : Nat) : am_O := fun L S h => match S with
  | .ref k :: S => match h.1[k]? with
    | some t => if t.1 = ci then (match h.2.2 k j with
      | some a => am_nx nx L (.ref a :: S) h
      | none => none) else none
    | none => none
  | _ => none
def o_putI (ci j nx : Nat) : am_O := fun L S h => match S with
  | .int x :: .ref k :: S => match h.1[k]? with
    | some t => if t.1 = ci ∧ 12 ≤ k then am_nx nx L S (h.1, am_up h.2.1 k j x, h.2.2) else none
    | none => none
  | _ => none
/-- a boolean field -/
def o_putZ (ci j nx : Nat) : am_O := fun L S h => match S with
  | .int x :: .ref k :: S => match h.1[k]? with
    | some t => if (t.1 = ci ∧ 12 ≤ k) ∧ (x = 0 ∨ x = 1) then am_nx nx L S (h.1, am_up h.2.1 k j x, h.2.2) else none
    | none => none
  | _ => none
def o_putR (ci j nx : Nat) : am_O := fun L S h => match S with
  | .ref v :: .ref k :: S => match h.1[k]? with
    | some t => if t.1 = ci ∧ 12 ≤ k then am_nx nx L S (h.1, h.2.1, am_upR h.2.2 k j (some v)) else none
    | none => none
  | _ => none
def o_new (ci N nx : Nat) : am_O := fun L S h => if 12 ≤ h.1.length then am_nx nx L (.ref h.1.length :: S) (h.1 ++ [(ci, N)], am_row h.2.1 h.1.length (fun _ => 0), am_rowR h.2.2 h.1.length (fun _ => none)) else none
def o_newa (tag nx : Nat) : am_O := fun L S h => match S with
  | .int x :: S => if x < 0 ∨ 1000 < x.toNatClampNeg ∨ h.1.length < 12 then none else am_nx nx L (.ref h.1.length :: S) (h.1 ++ [(tag, x.toNatClampNeg)], am_row h.2.1 h.1.length (fun _ => 0), am_rowR h.2.2 h.1.length (fun _ => none))
  | _ => none
/-- new int[n][k]: the outer row, then n rows -/
def o_mna (nx : Nat) : am_O := fun L S h => match S with
  | .int k :: .int n :: S => if k < 0 ∨ 1000 < k.toNatClampNeg ∨ n < 0 ∨ 1000 < n.toNatClampNeg ∨ h.1.length < 12 then none else am_nx nx L (.ref h.1.length :: S) (h.1 ++ (30, n.toNatClampNeg) :: List.replicate n.toNatClampNeg (20, k.toNatClampNeg), (fun q => if h.1.length ≤ q then (fun _ => 0) else h.2.1 q), (fun q => if q = h.1.length then (fun j => if j < n.toNatClampNeg then some (h.1.length + 1 + j) else none) else if h.1.length < q then (fun _ => none) else h.2.2 q))
  | _ => none
/-- Object() -/
def o_obj (nx : Nat) : am_O := fun L S h => match S with
  | .ref _ :: S => if (S.map fun v => v.category).sum ≤ 8 then am_nx nx L S h else none
  | _ => none
/-- System.arraycopy of ints -/
def o_acpy (nx : Nat) : am_O := fun L S h => match S with
  | .int n :: .int dp :: .ref k :: .int sp :: .ref k0 :: S => match h.1[k0]?, h.1[k]? with
    | some t0, some t => if t0.1 = 20 ∧ t.1 = 20 ∧ 12 ≤ k0 ∧ 12 ≤ k ∧ (S.map fun v => v.category).sum ≤ 8 then (if n < 0 ∨ dp < 0 ∨ sp < 0 ∨ t0.2 < sp.toNatClampNeg + n.toNatClampNeg ∨ t.2 < dp.toNatClampNeg + n.toNatClampNeg then none else am_nx nx L S (h.1, am_row h.2.1 k (va_cpy (h.2.1 k0) (h.2.1 k) sp.toNatClampNeg dp.toNatClampNeg n.toNatClampNeg), h.2.2)) else none
    | _, _ => none
  | _ => none
def o_iret : am_O := fun _ S _ => match S with
  | [.int x] => some (.inr (.inl (some (.int x))))
  | _ => none
/-- a boolean or char answer -/
def o_zret (c : Bool) : am_O := fun _ S _ => match S with
  | [.int x] => if (if c then (x < 0 ∨ 65535 < x) else ¬ (x = 0 ∨ x = 1)) then none else some (.inr (.inl (some (.int x))))
  | _ => none
def o_vret : am_O := fun _ S _ => match S with
  | [] => some (.inr (.inl none))
  | _ => none
def o_aret : am_O := fun _ S _ => match S with
  | [.ref x] => some (.inr (.inl (some (.ref x))))
  | _ => none
/-- a static method of n arguments -/
def o_invS (y n nx : Nat) : am_O := fun _ S _ => if n ≤ S.length ∧ ((S.drop n).map fun v => v.category).sum ≤ 8 then some (.inr (.inr (y, (S.take n).reverse, nx, S.drop n))) else none
/-- a method of an object of a class, n arguments beside it -/
def o_invV (ci y n nx : Nat) : am_O := fun _ S h => if n ≤ S.length then (match S.drop n with
  | .ref b :: rest => match h.1[b]? with
    | some t => if t.1 = ci ∧ (rest.map fun v => v.category).sum ≤ 8 then some (.inr (.inr (y, .ref b :: (S.take n).reverse, nx, rest))) else none
    | none => none
  | _ => none) else none
/-- a constructor -/
def o_invI (y n nx : Nat) : am_O := fun _ S _ => if n ≤ S.length then (match S.drop n with
  | .ref b :: rest => if (rest.map fun v => v.category).sum ≤ 8 then some (.inr (.inr (y, .ref b :: (S.take n).reverse, nx, rest))) else none
  | _ => none) else none
def am_sl : List Value → am_L
  | [] => []
  | .long x :: t => some (.long x) :: none :: am_sl t
  | .double x :: t => some (.double x) :: none :: am_sl t
  | v :: t => some v :: am_sl t
def am_init (n : Nat) (as : List Value) : am_L := am_sl as ++ List.replicate (n - (am_sl as).length) none
/-- the program: an operation for a method and a place; locals of a method -/
abbrev am_P : Type := (Nat → Nat → Option am_O) × (Nat → Nat)
def arun (P : am_P) : Nat → Nat → Nat → Nat → am_L → List Value → am_H → Option (Option Value × am_H)
  | 0, _, _, _, _, _, _ => none
  | f + 1, d, y, pc, L, S, h => match P.1 y pc with
    | none => none
    | some op => match op L S h with
      | none => none
      | some (.inl (pc', L', S', h')) => arun P f d y pc' L' S' h'
      | some (.inr (.inl v)) => some (v, h)
      | some (.inr (.inr (y', as, pc', S'))) => match d with
        | 0 => none
        | d' + 1 => match arun P f d' y' 0 (am_init (P.2 y') as) [] h with
          | none => none
          | some (v, h') => arun P f (d' + 1) y pc' L (v.toList ++ S') h'
end
section
/-! THE RELATION between the small machine's state and the JVM's -/
def am_tyT (ci : Nat) : Nat → FieldType := match ci with
  | 0 => tyX0
  | 1 => tyX1
  | 2 => tyX3
  | 3 => tyX4
  | 4 => tyX5
  | 5 => tyX6
  | 6 => tyX7
  | 7 => tyX8
  | 8 => tyX9
  | 9 => tyX10
  | _ => tyX11
def am_isR (ty : FieldType) : Bool := match ty with
  | .object _ => true
  | .array _ => true
  | _ => false
/-- the component type of a row of numbers -/
def am_pt (tag : Nat) : FieldType := match tag with
  | 20 => .int
  | 21 => .boolean
  | 22 => .char
  | _ => .byte
def am_rt (tag : Nat) : FieldType := match tag with
  | 30 => .array .int
  | 31 => .object "RumourDesk$Saying"
  | _ => .object "RumourDesk$Sheet"
def am_cv (ad : Nat → Nat) (v : Value) : Value := match v with
  | .ref k => .ref (ad k)
  | v => v
def am_fv (ad : Nat → Nat) (ty : FieldType) (x : Int32) (r : Option Nat) : Value := if am_isR ty = true then va_rf (r.map ad) else .int x
def am_new (D : va_G) (ad : Nat → Nat) (U : State) (H : Heap) (k : Nat) (t : Nat × Nat) (fi : Nat → Int32) (fr : Nat → Option Nat) : Prop :=
  (t.1 < 11 ∧ ∃ r : vw_C, vwCl[t.1]? = some r ∧ t_OB (ad k) (D.1 t.1) r.2.2 (D.2 t.1) H (fun j => am_fv ad (am_tyT t.1 j) (fi j) (fr j))) ∨
  (20 ≤ t.1 ∧ t.1 < 24 ∧ ∃ cA : ClassId, ArrOfT U cA (am_pt t.1) ∧ H[ad k]? = some (arrV cA t.2 (fun j => .int (fi j)))) ∨
  (30 ≤ t.1 ∧ t.1 < 33 ∧ ∃ cA : ClassId, ArrOfT U cA (am_rt t.1) ∧ va_RA U cA (am_rt t.1) ∧ H[ad k]? = some (arrV cA t.2 (fun j => va_rf ((fr j).map ad))))
def am_old (ad : Nat → Nat) (b0 : Nat) (Hb : Heap) (U : State) (k : Nat) (t : Nat × Nat) (fi : Nat → Int32) (fr : Nat → Option Nat) : Prop :=
  (t.1 = 12 ∧ va_O "java/lang/String" (ad k) (fun q => b0 ≤ q) U Hb ∧ va_OF "java/lang/String" "value" "[B" (va_rf ((fr 0).map ad)) (ad k) (fun q => b0 ≤ q) U Hb ∧ va_OF "java/lang/String" "coder" "B" (.int (fi 1)) (ad k) (fun q => b0 ≤ q) U Hb) ∨
  (20 ≤ t.1 ∧ t.1 < 24 ∧ va_T (am_pt t.1) (ad k) t.2 (fun j => .int (fi j)) (fun q => b0 ≤ q) U Hb)
def am_rel (D : va_G) (ad : Nat → Nat) (b0 : Nat) (Hb : Heap) (U : State) (h : am_H) (H : Heap) : Prop :=
  Hb.size = b0 ∧ (∀ q : Nat, q < b0 → H[q]? = Hb[q]?) ∧ 12 ≤ h.1.length ∧ H.size = b0 + (h.1.length - 12) ∧
  (∀ (k : Nat) (t : Nat × Nat), k < 12 → h.1[k]? = some t → am_old ad b0 Hb U k t (h.2.1 k) (h.2.2 k)) ∧
  (∀ (k : Nat) (t : Nat × Nat), 12 ≤ k → h.1[k]? = some t → am_new D ad U H k t (h.2.1 k) (h.2.2 k))
theorem am_new.moved {D : va_G} {ad : Nat → Nat} {u U : State} {H : Heap} {k : Nat} {t : Nat × Nat} {fi : Nat → Int32} {fr : Nat → Option Nat} (hvm : u.vm.Alike U.vm) (h : am_new D ad u H k t fi fr) : am_new D ad U H k t fi fr := by
  rcases h with h | ⟨h1, h2, cA, h3, h4⟩ | ⟨h1, h2, cA, h3, h4, h5⟩
  · exact Or.inl h
  · exact Or.inr (Or.inl ⟨h1, h2, cA, arrOfT_moved hvm h3, h4⟩)
  · exact Or.inr (Or.inr ⟨h1, h2, cA, arrOfT_moved hvm h3, h4.moved hvm, h5⟩)
theorem am_old.moved {ad : Nat → Nat} {b0 : Nat} {Hb : Heap} {u U : State} {k : Nat} {t : Nat × Nat} {fi : Nat → Int32} {fr : Nat → Option Nat} (hvm : u.vm.Alike U.vm) (h : am_old ad b0 Hb u k t fi fr) : am_old ad b0 Hb U k t fi fr := by
  rcases h with ⟨h1, h2, h3, h4⟩ | ⟨h1, h2, h3⟩
  · exact Or.inl ⟨h1, va_O.moved hvm h2, va_OF.moved hvm h3, va_OF.moved hvm h4⟩
  · exact Or.inr ⟨h1, h2, va_T.moved hvm h3⟩
theorem am_rel.moved {D : va_G} {ad : Nat → Nat} {b0 : Nat} {Hb : Heap} {u U : State} {h : am_H} {H : Heap} (hvm : u.vm.Alike U.vm) (hr : am_rel D ad b0 Hb u h H) : am_rel D ad b0 Hb U h H := by
  obtain ⟨h1, h2, h3, h4, h5, h6⟩ := hr
  exact ⟨h1, h2, h3, h4, fun k t hk ht => (h5 k t hk ht).moved hvm, fun k t hk ht => (h6 k t hk ht).moved hvm⟩
theorem am_new.kept {D : va_G} {ad : Nat → Nat} {U : State} {H H1 : Heap} {k : Nat} {t : Nat × Nat} {fi : Nat → Int32} {fr : Nat → Option Nat} (h : am_new D ad U H k t fi fr) (hq : H1[ad k]? = H[ad k]?) : am_new D ad U H1 k t fi fr := by
  rcases h with ⟨h1, r, h2, h3⟩ | ⟨h1, h2, cA, h3, h4⟩ | ⟨h1, h2, cA, h3, h4, h5⟩
  · exact Or.inl ⟨h1, r, h2, h3.kept hq⟩
  · exact Or.inr (Or.inl ⟨h1, h2, cA, h3, by rw [hq]; exact h4⟩)
  · exact Or.inr (Or.inr ⟨h1, h2, cA, h3, h4, by rw [hq]; exact h5⟩)
/-- one new cell was written: k0, which holds what g and gr say now -/
theorem am_rel.put {D : va_G} {ad : Nat → Nat} {b0 : Nat} {Hb : Heap} {U : State} {h h' : am_H} {H H1 : Heap} (had : ∀ k, 12 ≤ k → ad k = b0 + (k - 12)) (hr : am_rel D ad b0 Hb U h H) {k0 : Nat} {t0 : Nat × Nat} (hk0 : 12 ≤ k0) (ht0 : h.1[k0]? = some t0) (e1 : h'.1 = h.1)
    (e2 : ∀ k, k ≠ k0 → h'.2.1 k = h.2.1 k) (e3 : ∀ k, k ≠ k0 → h'.2.2 k = h.2.2 k) (hz : H1.size = H.size) (ho : ∀ q, q ≠ ad k0 → H1[q]? = H[q]?) (hn : am_new D ad U H1 k0 t0 (h'.2.1 k0) (h'.2.2 k0)) : am_rel D ad b0 Hb U h' H1 := by
  obtain ⟨h1, h2, h3, h4, h5, h6⟩ := hr
  refine ⟨h1, fun q hq => ?_, by rw [e1]; exact h3, by rw [e1, hz]; exact h4, fun k t hk ht => ?_, fun k t hk ht => ?_⟩
  · rw [ho q (by rw [had k0 hk0]; omega)]
    exact h2 q hq
  · rw [e1] at ht
    rw [e2 k (by omega), e3 k (by omega)]
    exact h5 k t hk ht
  · rw [e1] at ht
    by_cases hkk : k = k0
    · subst hkk
      cases ht.symm.trans ht0
      exact hn
    · rw [e2 k hkk, e3 k hkk]
      exact (h6 k t hk ht).kept (ho _ (by rw [had k hk, had k0 hk0]; omega))
/-- one new cell came -/
theorem am_rel.push {D : va_G} {ad : Nat → Nat} {b0 : Nat} {Hb : Heap} {U : State} {h h' : am_H} {H H1 : Heap} (had : ∀ k, 12 ≤ k → ad k = b0 + (k - 12)) (hr : am_rel D ad b0 Hb U h H) {t0 : Nat × Nat} (e1 : h'.1 = h.1 ++ [t0])
    (e2 : ∀ k, k < h.1.length → h'.2.1 k = h.2.1 k) (e3 : ∀ k, k < h.1.length → h'.2.2 k = h.2.2 k) (hz : H1.size = H.size + 1) (ho : ∀ q, q < H.size → H1[q]? = H[q]?) (hn : am_new D ad U H1 h.1.length t0 (h'.2.1 h.1.length) (h'.2.2 h.1.length)) : am_rel D ad b0 Hb U h' H1 := by
  obtain ⟨h1, h2, h3, h4, h5, h6⟩ := hr
  refine ⟨h1, fun q hq => ?_, by rw [e1]; simp; omega, by rw [e1, hz, h4]; simp; omega, fun k t hk ht => ?_, fun k t hk ht => ?_⟩
  · rw [ho q (by omega)]
    exact h2 q hq
  · have hl : k < h.1.length := by omega
    rw [e1, List.getElem?_append_left hl] at ht
    rw [e2 k hl, e3 k hl]
    exact h5 k t hk ht
  · by_cases hl : k < h.1.length
    · rw [e1, List.getElem?_append_left hl] at ht
      rw [e2 k hl, e3 k hl]
      exact (h6 k t hk ht).kept (ho _ (by rw [had k hk]; omega))
    · rw [e1, List.getElem?_append_right (by omega)] at ht
      have hz2 : k - h.1.length < 1 := (List.getElem?_eq_some_iff.mp ht).1
      have hkk : k = h.1.length := by omega
      subst hkk
      rw [Nat.sub_self] at ht
      cases ht
      exact hn
/-- what is read of an array of numbers, old or new -/
theorem am_rel.arr {D : va_G} {ad : Nat → Nat} {b0 : Nat} {Hb : Heap} {U : State} {h : am_H} {H : Heap} (hr : am_rel D ad b0 Hb U h H) {k : Nat} {t : Nat × Nat} (ht : h.1[k]? = some t) (h1 : 20 ≤ t.1) (h2 : t.1 < 24) : ∃ cell : Cell, H[ad k]? = some cell ∧ U.isArrayOf cell (am_pt t.1) ∧ cell.vm ≠ .unknown ∧ t.2 ≤ cell.slots.size ∧ cell.slots.size.toInt32 = Int32.ofNat t.2 ∧ ∀ j : Nat, j < t.2 → cell.slots[j]? = some (.int (h.2.1 k j)) := by
  obtain ⟨g1, g2, g3, g4, g5, g6⟩ := hr
  by_cases hk : k < 12
  · rcases g5 k t hk ht with ⟨q, -⟩ | ⟨-, -, cell, q1, q2, q3, q4, q5, q6, q7⟩
    · omega
    · have hb : ad k < b0 := Nat.not_le.mp q7
      exact ⟨cell, by rw [g2 _ hb]; exact q1, q2, q3, q4, q5, q6⟩
  · rcases g6 k t (by omega) ht with ⟨q, -⟩ | ⟨-, -, cA, q1, q2⟩ | ⟨q, -⟩
    · omega
    · exact ⟨_, q2, q1 _ _, (fun q => by cases q), (by rw [arrV_size]; exact Nat.le_refl _), (by rw [arrV_size]), fun j hj => arrV_read _ _ hj⟩
    · omega
/-- the locals -/
def am_lc (ad : Nat → Nat) (ls : Array Slot) (nL : Nat) (L : am_L) : Prop := L.length = nL ∧ ∃ lv : List (Nat × Value), lv_has ls nL lv ∧ ∀ (i : Nat) (v : Value), L[i]? = some (some v) → (i, am_cv ad v) ∈ lv
theorem am_lc.get {ad : Nat → Nat} {ls : Array Slot} {nL : Nat} {L : am_L} (h : am_lc ad ls nL L) {i : Nat} {v : Value} (hv : L[i]? = some (some v)) : ls[i]? = some (.val (am_cv ad v)) := by
  obtain ⟨-, lv, h1, h2⟩ := h
  exact h1.2.2 _ (h2 i v hv)
theorem am_low_lt {L : am_L} {i : Nat} (h : am_low L i = true) : i < L.length := by
  cases i with
  | zero => simpa [am_low] using h
  | succ j => simp [am_low] at h; exact h.1
theorem am_low_cat {L : am_L} {j : Nat} {v : Value} (h : am_low L (j + 1) = true) (hv : L[j]? = some (some v)) : v.category = 1 := by
  simp only [am_low, hv] at h
  cases v <;> simp_all [Value.category]
theorem am_cv_cat (ad : Nat → Nat) (v : Value) : (am_cv ad v).category = v.category := by cases v <;> rfl
theorem am_lc.set {ad : Nat → Nat} {ls' : Array Slot} {nL i : Nat} {L : am_L} {lv : List (Nat × Value)} {w : Value} (hl : L.length = nL) (h2 : ∀ (i : Nat) (v : Value), L[i]? = some (some v) → (i, am_cv ad v) ∈ lv) (hlow : am_low L i = true)
    (h' : lv_has ls' nL ((i, am_cv ad w) :: lv.filter (fun q => !(q.1 == i) && !(q.1 + 1 == i && q.2.category == 2)))) : am_lc ad ls' nL (L.set i (some w)) := by
  refine ⟨by rw [List.length_set]; exact hl, _, h', fun j v hv => ?_⟩
  by_cases hj : i = j
  · subst hj
    rw [List.getElem?_set_self (am_low_lt hlow)] at hv
    cases hv
    exact List.mem_cons_self
  · rw [List.getElem?_set_ne hj] at hv
    refine List.mem_cons_of_mem _ (List.mem_filter.mpr ⟨h2 j v hv, ?_⟩)
    have h3 : ¬ j = i := fun e => hj e.symm
    by_cases h4 : j + 1 = i
    · subst h4
      have := am_low_cat hlow hv
      simp [am_cv_cat, this]
    · simp [h3, h4]
/-- the tables' words that a call keeps -/
def am_tb : List Cond := lw_tbl.filter goodWord
theorem am_in {w : Cond} (i : Nat) (h : lw_tbl[i]? = some w) (g : goodWord w = true) : w ∈ am_tb := List.mem_filter.mpr ⟨List.mem_of_getElem? h, g⟩
theorem am_tb_good : GoodIn am_tb am_tb := fun w h => ⟨h, good_of_word (List.mem_filter.mp h).2⟩
theorem am_goodC {w : Cond} {ws : List Cond} (h : w ∈ am_tb) (hw : GoodIn am_tb ws) : GoodIn am_tb (w :: ws) := fun x hx => by
  rcases List.mem_cons.mp hx with e | e
  · rw [e]; exact am_tb_good w h
  · exact hw x e
/-- links across a nest -/
def am_isN (w : Cond) : Bool := match w with
  | .methodLinkNest .. => true
  | _ => false
def am_nest : List Cond := lw_tbl.filter am_isN
theorem am_inN {w : Cond} (i : Nat) (h : lw_tbl[i]? = some w) (g : am_isN w = true) : w ∈ am_nest := List.mem_filter.mpr ⟨List.mem_of_getElem? h, g⟩
def am_AO (t : FieldType) (U : State) : Prop := (Cond.arrayOver t).before #[] U = true
theorem am_AO.use {t : FieldType} {A : Array Value} {U : State} (h : am_AO t U) : (Cond.arrayOver t).before A U = true := h
/-- what is known of the machine's tables and of what was there before, at any state of ours -/
def am_U (D : va_G) (ad : Nat → Nat) (b0 : Nat) (Hb : Heap) (U : State) : Prop :=
  va_K D vwCl [] U ∧
  (va_Z "RumourDesk$Town" "TOPS" "[I" (.ref (ad 1)) (fun q => b0 ≤ q) U Hb ∧ va_Z "RumourDesk$Parts" "UNITS" "[I" (.ref (ad 2)) (fun q => b0 ≤ q) U Hb ∧ va_Z "RumourDesk$Town" "FORCES" "[I" (.ref (ad 3)) (fun q => b0 ≤ q) U Hb ∧ va_Z "java/lang/String" "COMPACT_STRINGS" "Z" (.int 1) (fun q => b0 ≤ q) U Hb) ∧
  (vk_R "RumourDesk$Tape" 82 "wtnp" (ad 4) U ∧ vk_R "RumourDesk$Tape" 84 "=<>" (ad 5) U ∧ vk_R "RumourDesk$Tape" 86 "0123456789" (ad 6) U ∧ vk_R "RumourDesk$Tape" 49 "dhs" (ad 7) U) ∧
  (∀ w ∈ am_nest, va_Nw w U) ∧ (∀ t : FieldType, t = .array .int ∨ t = .object "RumourDesk$Saying" ∨ t = .object "RumourDesk$Sheet" → am_AO t U)
end
section
/-! EACH OPERATION IS SOUND: what it does, the JVM does at that place of the code -/
def am_ns (h : am_H) : Nat := (h.1.map fun t => t.2).sum
def am_cx (D : va_G) (ad : Nat → Nat) (b0 : Nat) (Hb : Heap) (p : Program) (s : State) (m : MethodId) (args : Array Value) (meth : Method) (c : Code) (R : Room) (y : MethodName) (cc : ByteArray) (nL : Nat) (ret : Option FieldType) : Prop :=
  p.tables.exec = Jvm.exec ∧ c.code = cc ∧ c.maxLocals = nL ∧ s.vm.findClass y.cls = some m.cls ∧ (∀ w ∈ am_tb, w.before args s = true) ∧ am_U D ad b0 Hb s ∧ meth.sig.returnType = ret ∧ meth.locks = false ∧ meth.name = y.name ∧ 1 ≤ R.frames ∧ 64 ≤ R.locals ∧ ∀ k, 12 ≤ k → ad k = b0 + (k - 12)
/-- the step to the next place -/
def am_okN (l : Launch) (D : va_G) (ad : Nat → Nat) (b0 : Nat) (Hb : Heap) (y : MethodName) (cc : ByteArray) (nL : Nat) (ret : Option FieldType) (pc : Nat) (op : am_O) : Prop :=
  ∀ (L : am_L) (S : List Value) (h : am_H) (pc' : Nat) (L' : am_L) (S' : List Value) (h' : am_H), op L S h = some (.inl (pc', L', S', h')) → h.1.length ≤ h'.1.length ∧ am_ns h ≤ am_ns h' ∧
    ∀ (p : Program) (e : Env) (s : State) (m : MethodId) (args : Array Value) (below : List Frame) (meth : Method) (c : Code) (R : Room), am_cx D ad b0 Hb p s m args meth c R y cc nL ret → ∀ (H : Heap) (locs : List Loc) (cells slots : Nat) (ls : Array Slot) (Q : State → Prop),
      am_lc ad ls nL L → am_rel D ad b0 Hb s h H → (∀ q ∈ locs, b0 ≤ q.base) → cells + (h'.1.length - h.1.length) ≤ R.cells → slots + (am_ns h' - am_ns h) ≤ R.slots →
      (∀ (H' : Heap) (locs' : List Loc) (ls' : Array Slot), am_lc ad ls' nL L' → am_rel D ad b0 Hb s h' H' → (∀ q ∈ locs', b0 ≤ q.base) → W p l e R s m args below meth c H' locs' (cells + (h'.1.length - h.1.length)) (slots + (am_ns h' - am_ns h)) Q (F0 m pc' ls' (S'.map (am_cv ad)))) →
      W p l e R s m args below meth c H locs cells slots Q (F0 m pc ls (S.map (am_cv ad)))
/-- the end of the method -/
def am_okR (cc : ByteArray) (ret : Option FieldType) (pc : Nat) (op : am_O) : Prop :=
  ∀ (L : am_L) (S : List Value) (h : am_H) (v : Option Value), op L S h = some (.inr (.inl v)) → S = v.toList ∧
    ((v = none ∧ ret = none ∧ decode cc pc = .ok (.return_, 1)) ∨ (∃ (x : Int32) (ty : FieldType), v = some (.int x) ∧ ret = some ty ∧ narrow ty (.int x) = .int x ∧ decode cc pc = .ok (.ireturn, 1)) ∨ (∃ (k : Nat) (rt : FieldType), v = some (.ref k) ∧ ret = some rt ∧ ((∃ n, rt = .object n) ∨ ∃ t, rt = .array t) ∧ decode cc pc = .ok (.areturn, 1)))
/-- a method of the table: its name, bytes, locals, answer -/
abbrev am_I : Type := MethodName × ByteArray × Nat × Option FieldType
def am_ws (i : am_I) : List Cond := .code i.1 i.2.1 i.2.2.1 i.2.2.2 :: am_tb
/-- the contract of a method in one run of it -/
def am_M (l : Launch) (D : va_G) (ad : Nat → Nat) (b0 : Nat) (Hb : Heap) (d : Nat) (i : am_I) (as : List Value) (h : am_H) (r : Option Value) (h' : am_H) : Prop :=
  Met l i.1 (am_ws i) { frames := d + 1, cells := h'.1.length - h.1.length, slots := am_ns h' - am_ns h, locals := 64 * (d + 1) } (fun v U => v = (as.map (am_cv ad)).toArray ∧ am_rel D ad b0 Hb U h U.heap ∧ am_U D ad b0 Hb U)
    (fun _ _ oc t => oc = .returned (r.map (am_cv ad)) ∧ am_rel D ad b0 Hb t h' t.heap) (h'.1.length - h.1.length) (am_ns h' - am_ns h) (fun q => b0 ≤ q)
/-- a call -/
def am_okC (l : Launch) (D : va_G) (ad : Nat → Nat) (b0 : Nat) (Hb : Heap) (I : Nat → am_I) (y : MethodName) (cc : ByteArray) (nL : Nat) (ret : Option FieldType) (pc : Nat) (op : am_O) : Prop :=
  ∀ (L : am_L) (S : List Value) (h : am_H) (y' : Nat) (as : List Value) (pc' : Nat) (S' : List Value), op L S h = some (.inr (.inr (y', as, pc', S'))) →
    ∀ (p : Program) (e : Env) (s : State) (m : MethodId) (args : Array Value) (below : List Frame) (meth : Method) (c : Code) (R : Room), am_cx D ad b0 Hb p s m args meth c R y cc nL ret → ∀ (H : Heap) (locs : List Loc) (cells slots : Nat) (ls : Array Slot) (Q : State → Prop) (d : Nat) (v : Option Value) (h' : am_H),
      am_M l D ad b0 Hb d (I y') as h v h' → d + 2 ≤ R.frames → 64 * (d + 2) ≤ R.locals →
      am_lc ad ls nL L → am_rel D ad b0 Hb s h H → (∀ q ∈ locs, b0 ≤ q.base) → cells + (h'.1.length - h.1.length) ≤ R.cells → slots + (am_ns h' - am_ns h) ≤ R.slots →
      (∀ (H' : Heap) (locs' : List Loc), am_rel D ad b0 Hb s h' H' → (∀ q ∈ locs', b0 ≤ q.base) → W p l e R s m args below meth c H' locs' (cells + (h'.1.length - h.1.length)) (slots + (am_ns h' - am_ns h)) Q (F0 m pc' ls ((v.toList ++ S').map (am_cv ad)))) →
      W p l e R s m args below meth c H locs cells slots Q (F0 m pc ls (S.map (am_cv ad)))
def am_ok (l : Launch) (D : va_G) (ad : Nat → Nat) (b0 : Nat) (Hb : Heap) (I : Nat → am_I) (y : MethodName) (cc : ByteArray) (nL : Nat) (ret : Option FieldType) (pc : Nat) (op : am_O) : Prop :=
  am_okN l D ad b0 Hb y cc nL ret pc op ∧ am_okR cc ret pc op ∧ am_okC l D ad b0 Hb I y cc nL ret pc op
section AMO
variable {l : Launch} {D : va_G} {ad : Nat → Nat} {b0 : Nat} {Hb : Heap} {I : Nat → am_I} {y : MethodName} {cc : ByteArray} {nL : Nat} {ret : Option FieldType} {pc nx : Nat}
/-- an operation that only goes on -/
theorem am_mkN {op : am_O} (h : ∀ L S h v, op L S h ≠ some (.inr v)) (hn : am_okN l D ad b0 Hb y cc nL ret pc op) : am_ok l D ad b0 Hb I y cc nL ret pc op :=
  ⟨hn, fun L S h1 v e => absurd e (h L S h1 _), fun L S h1 a b c d e => absurd e (h L S h1 _)⟩
/-- an operation on the stack alone, where the machine's cells stay -/
theorem am_mkS {op : am_O} (h : ∀ L S h v, op L S h ≠ some (.inr v))
    (hs : ∀ (L : am_L) (S : List Value) (h : am_H) (pc' : Nat) (L' : am_L) (S' : List Value) (h' : am_H), op L S h = some (.inl (pc', L', S', h')) → h' = h ∧
      ∀ (p : Program) (e : Env) (s : State) (m : MethodId) (args : Array Value) (below : List Frame) (meth : Method) (c : Code) (R : Room), am_cx D ad b0 Hb p s m args meth c R y cc nL ret → ∀ (H : Heap) (locs : List Loc) (cells slots : Nat) (ls : Array Slot) (Q : State → Prop),
      am_lc ad ls nL L → am_rel D ad b0 Hb s h H → (∀ ls' : Array Slot, am_lc ad ls' nL L' → W p l e R s m args below meth c H locs cells slots Q (F0 m pc' ls' (S'.map (am_cv ad)))) →
      W p l e R s m args below meth c H locs cells slots Q (F0 m pc ls (S.map (am_cv ad)))) : am_ok l D ad b0 Hb I y cc nL ret pc op := by
  refine am_mkN h fun L S h1 pc' L' S' h' e => ?_
  obtain ⟨rfl, k⟩ := hs L S h1 pc' L' S' h' e
  refine ⟨Nat.le_refl _, Nat.le_refl _, fun p e s m args below meth c R cx H locs cells slots ls Q hl hr hlo _ _ kk => k p e s m args below meth c R cx H locs cells slots ls Q hl hr fun ls' hl' => ?_⟩
  have := kk H locs ls' hl' hr hlo
  simpa only [Nat.sub_self, Nat.add_zero] using this
theorem ok_iload_n {k : Fin 4} {i : Nat} (hd : decode cc pc = .ok (.iload_n k, 1)) (hi : (k : Nat) = i) (hn : pc + 1 = nx) : am_ok l D ad b0 Hb I y cc nL ret pc (o_iload i nx) := by
  subst hn
  refine am_mkS (fun L S h v => ?_) (fun L S h pc' L' S' h' e => ?_)
  · unfold o_iload am_nx; split <;> simp
  · unfold o_iload am_nx at e
    split at e
    · rename_i x hx
      cases e
      exact ⟨rfl, fun p e s m args below meth c R cx H locs cells slots ls Q hl _ kk => lv_iload_n cx.1 cx.2.1 hd hi (hl.get hx) (kk ls hl)⟩
    · cases e
theorem ok_iload {i : Nat} (hd : decode cc pc = .ok (.iload i, 2)) (hn : pc + 2 = nx) : am_ok l D ad b0 Hb I y cc nL ret pc (o_iload i nx) := by
  subst hn
  refine am_mkS (fun L S h v => ?_) (fun L S h pc' L' S' h' e => ?_)
  · unfold o_iload am_nx; split <;> simp
  · unfold o_iload am_nx at e
    split at e
    · rename_i x hx
      cases e
      exact ⟨rfl, fun p e s m args below meth c R cx H locs cells slots ls Q hl _ kk => lv_iload cx.1 cx.2.1 hd (hl.get hx) (kk ls hl)⟩
    · cases e
theorem ok_lload_n {k : Fin 4} {i : Nat} (hd : decode cc pc = .ok (.lload_n k, 1)) (hi : (k : Nat) = i) (hn : pc + 1 = nx) : am_ok l D ad b0 Hb I y cc nL ret pc (o_lload i nx) := by
  subst hn
  refine am_mkS (fun L S h v => ?_) (fun L S h pc' L' S' h' e => ?_)
  · unfold o_lload am_nx; split <;> simp
  · unfold o_lload am_nx at e
    split at e
    · rename_i x hx
      cases e
      exact ⟨rfl, fun p e s m args below meth c R cx H locs cells slots ls Q hl _ kk => lv_lload_n cx.1 cx.2.1 hd hi (hl.get hx) (kk ls hl)⟩
    · cases e
theorem ok_lload {i : Nat} (hd : decode cc pc = .ok (.lload i, 2)) (hn : pc + 2 = nx) : am_ok l D ad b0 Hb I y cc nL ret pc (o_lload i nx) := by
  subst hn
  refine am_mkS (fun L S h v => ?_) (fun L S h pc' L' S' h' e => ?_)
  · unfold o_lload am_nx; split <;> simp
  · unfold o_lload am_nx at e
    split at e
    · rename_i x hx
      cases e
      exact ⟨rfl, fun p e s m args below meth c R cx H locs cells slots ls Q hl _ kk => lv_lload cx.1 cx.2.1 hd (hl.get hx) (kk ls hl)⟩
    · cases e
theorem ok_aload_n {k : Fin 4} {i : Nat} (hd : decode cc pc = .ok (.aload_n k, 1)) (hi : (k : Nat) = i) (hn : pc + 1 = nx) : am_ok l D ad b0 Hb I y cc nL ret pc (o_aload i nx) := by
  subst hn
  refine am_mkS (fun L S h v => ?_) (fun L S h pc' L' S' h' e => ?_)
  · unfold o_aload am_nx; split <;> simp
  · unfold o_aload am_nx at e
    split at e
    · rename_i x hx
      cases e
      exact ⟨rfl, fun p e s m args below meth c R cx H locs cells slots ls Q hl _ kk => lv_aload_n cx.1 cx.2.1 hd hi (hl.get hx) (kk ls hl)⟩
    · cases e
theorem ok_aload {i : Nat} (hd : decode cc pc = .ok (.aload i, 2)) (hn : pc + 2 = nx) : am_ok l D ad b0 Hb I y cc nL ret pc (o_aload i nx) := by
  subst hn
  refine am_mkS (fun L S h v => ?_) (fun L S h pc' L' S' h' e => ?_)
  · unfold o_aload am_nx; split <;> simp
  · unfold o_aload am_nx at e
    split at e
    · rename_i x hx
      cases e
      exact ⟨rfl, fun p e s m args below meth c R cx H locs cells slots ls Q hl _ kk => lv_aload cx.1 cx.2.1 hd (hl.get hx) (kk ls hl)⟩
    · cases e
theorem ok_istore_n {k : Fin 4} {i : Nat} (hd : decode cc pc = .ok (.istore_n k, 1)) (hi : (k : Nat) = i) (hn : pc + 1 = nx) : am_ok l D ad b0 Hb I y cc nL ret pc (o_istore i nx) := by
  subst hn
  refine am_mkS (fun L S h v => ?_) (fun L S h pc' L' S' h' e => ?_)
  · unfold o_istore am_nx; split <;> (try split) <;> simp
  · unfold o_istore am_nx at e
    split at e
    · split at e
      · rename_i hlow
        cases e
        refine ⟨rfl, fun p e s m args below meth c R cx H locs cells slots ls Q hl _ kk => ?_⟩
        obtain ⟨hl1, lv, hl2, hl3⟩ := hl
        exact lv_istore_n cx.1 cx.2.1 hd hi hl2 (by rw [← hl1]; exact am_low_lt hlow) rfl fun ls' hl' => kk ls' (am_lc.set hl1 hl3 hlow hl')
      · cases e
    · cases e
theorem ok_istore {i : Nat} (hd : decode cc pc = .ok (.istore i, 2)) (hn : pc + 2 = nx) : am_ok l D ad b0 Hb I y cc nL ret pc (o_istore i nx) := by
  subst hn
  refine am_mkS (fun L S h v => ?_) (fun L S h pc' L' S' h' e => ?_)
  · unfold o_istore am_nx; split <;> (try split) <;> simp
  · unfold o_istore am_nx at e
    split at e
    · split at e
      · rename_i hlow
        cases e
        refine ⟨rfl, fun p e s m args below meth c R cx H locs cells slots ls Q hl _ kk => ?_⟩
        obtain ⟨hl1, lv, hl2, hl3⟩ := hl
        exact lv_istore cx.1 cx.2.1 hd hl2 (by rw [← hl1]; exact am_low_lt hlow) rfl fun ls' hl' => kk ls' (am_lc.set hl1 hl3 hlow hl')
      · cases e
    · cases e
theorem ok_astore_n {k : Fin 4} {i : Nat} (hd : decode cc pc = .ok (.astore_n k, 1)) (hi : (k : Nat) = i) (hn : pc + 1 = nx) : am_ok l D ad b0 Hb I y cc nL ret pc (o_astore i nx) := by
  subst hn
  refine am_mkS (fun L S h v => ?_) (fun L S h pc' L' S' h' e => ?_)
  · unfold o_astore am_nx; split <;> (try split) <;> simp
  · unfold o_astore am_nx at e
    split at e
    · split at e
      · rename_i hlow
        cases e
        refine ⟨rfl, fun p e s m args below meth c R cx H locs cells slots ls Q hl _ kk => ?_⟩
        obtain ⟨hl1, lv, hl2, hl3⟩ := hl
        exact lv_astore_n cx.1 cx.2.1 hd hi hl2 (by rw [← hl1]; exact am_low_lt hlow) rfl fun ls' hl' => kk ls' (am_lc.set hl1 hl3 hlow hl')
      · cases e
    · cases e
theorem ok_astore {i : Nat} (hd : decode cc pc = .ok (.astore i, 2)) (hn : pc + 2 = nx) : am_ok l D ad b0 Hb I y cc nL ret pc (o_astore i nx) := by
  subst hn
  refine am_mkS (fun L S h v => ?_) (fun L S h pc' L' S' h' e => ?_)
  · unfold o_astore am_nx; split <;> (try split) <;> simp
  · unfold o_astore am_nx at e
    split at e
    · split at e
      · rename_i hlow
        cases e
        refine ⟨rfl, fun p e s m args below meth c R cx H locs cells slots ls Q hl _ kk => ?_⟩
        obtain ⟨hl1, lv, hl2, hl3⟩ := hl
        exact lv_astore cx.1 cx.2.1 hd hl2 (by rw [← hl1]; exact am_low_lt hlow) rfl fun ls' hl' => kk ls' (am_lc.set hl1 hl3 hlow hl')
      · cases e
    · cases e
theorem ok_iinc {i : Nat} {n : Int} {v : Int32} (hd : decode cc pc = .ok (.iinc i n, 3)) (hv : Int32.ofInt n = v) (hn : pc + 3 = nx) : am_ok l D ad b0 Hb I y cc nL ret pc (o_iinc i v nx) := by
  subst hn
  refine am_mkS (fun L S h v => ?_) (fun L S h pc' L' S' h' e => ?_)
  · unfold o_iinc am_nx; split <;> (try split) <;> simp
  · unfold o_iinc am_nx at e
    split at e
    · rename_i x hx
      split at e
      · rename_i hlow
        cases e
        refine ⟨rfl, fun p e s m args below meth c R cx H locs cells slots ls Q hl _ kk => ?_⟩
        obtain ⟨hl1, lv, hl2, hl3⟩ := hl
        obtain ⟨kp, hkp⟩ := List.getElem?_of_mem (hl3 _ _ hx)
        exact lv_iinc (v := x + v) cx.1 cx.2.1 hd hl2 hkp (by rw [hv]) (by rw [← hl1]; exact am_low_lt hlow) rfl fun ls' hl' => kk ls' (am_lc.set hl1 hl3 hlow hl')
      · cases e
    · cases e
/-- constants: any one-value push -/
theorem ok_iconst {n : Int} {v : Int32} (hd : decode cc pc = .ok (.iconst n, 1)) (hv : Int32.ofInt n = v) (hn : pc + 1 = nx) : am_ok l D ad b0 Hb I y cc nL ret pc (o_const v nx) := by
  subst hn
  refine am_mkS (fun L S h v => by simp [o_const, am_nx]) (fun L S h pc' L' S' h' e => ?_)
  unfold o_const am_nx at e
  cases e
  exact ⟨rfl, fun p e s m args below meth c R cx H locs cells slots ls Q hl _ kk => lv_iconst cx.1 cx.2.1 hd hv (kk ls hl)⟩
theorem ok_bipush {n : Int} {v : Int32} (hd : decode cc pc = .ok (.bipush n, 2)) (hv : (Int8.ofInt n).toInt32 = v) (hn : pc + 2 = nx) : am_ok l D ad b0 Hb I y cc nL ret pc (o_const v nx) := by
  subst hn
  refine am_mkS (fun L S h v => by simp [o_const, am_nx]) (fun L S h pc' L' S' h' e => ?_)
  unfold o_const am_nx at e
  cases e
  exact ⟨rfl, fun p e s m args below meth c R cx H locs cells slots ls Q hl _ kk => lv_bipush cx.1 cx.2.1 hd hv (kk ls hl)⟩
theorem ok_sipush {n : Int} {v : Int32} (hd : decode cc pc = .ok (.sipush n, 3)) (hv : (Int16.ofInt n).toInt32 = v) (hn : pc + 3 = nx) : am_ok l D ad b0 Hb I y cc nL ret pc (o_const v nx) := by
  subst hn
  refine am_mkS (fun L S h v => by simp [o_const, am_nx]) (fun L S h pc' L' S' h' e => ?_)
  unfold o_const am_nx at e
  cases e
  exact ⟨rfl, fun p e s m args below meth c R cx H locs cells slots ls Q hl _ kk => lv_sipush cx.1 cx.2.1 hd hv (kk ls hl)⟩
theorem ok_ldc {index : Nat} {v : Int32} (hd : decode cc pc = .ok (.ldc index, 2)) (hw : Cond.constant y.cls index v ∈ am_tb) (hn : pc + 2 = nx) : am_ok l D ad b0 Hb I y cc nL ret pc (o_const v nx) := by
  subst hn
  refine am_mkS (fun L S h v => by simp [o_const, am_nx]) (fun L S h pc' L' S' h' e => ?_)
  unfold o_const am_nx at e
  cases e
  exact ⟨rfl, fun p e s m args below meth c R cx H locs cells slots ls Q hl _ kk => lv_ldc cx.1 cx.2.1 cx.2.2.2.1 (cx.2.2.2.2.1 _ hw) hd (kk ls hl)⟩
theorem ok_ldcw {index : Nat} {v : Int32} (hd : decode cc pc = .ok (.ldc_w index, 3)) (hw : Cond.constant y.cls index v ∈ am_tb) (hn : pc + 3 = nx) : am_ok l D ad b0 Hb I y cc nL ret pc (o_const v nx) := by
  subst hn
  refine am_mkS (fun L S h v => by simp [o_const, am_nx]) (fun L S h pc' L' S' h' e => ?_)
  unfold o_const am_nx at e
  cases e
  exact ⟨rfl, fun p e s m args below meth c R cx H locs cells slots ls Q hl _ kk => lv_ldcw cx.1 cx.2.1 cx.2.2.2.1 (cx.2.2.2.2.1 _ hw) hd (kk ls hl)⟩
theorem ok_ldc2 {index : Nat} {v : Int64} (hd : decode cc pc = .ok (.ldc2_w index, 3)) (hw : Cond.constantLong y.cls index v ∈ am_tb) (hn : pc + 3 = nx) : am_ok l D ad b0 Hb I y cc nL ret pc (o_lconst v nx) := by
  subst hn
  refine am_mkS (fun L S h v => by simp [o_lconst, am_nx]) (fun L S h pc' L' S' h' e => ?_)
  unfold o_lconst am_nx at e
  cases e
  exact ⟨rfl, fun p e s m args below meth c R cx H locs cells slots ls Q hl _ kk => lv_ldc2 cx.1 cx.2.1 cx.2.2.2.1 (cx.2.2.2.2.1 _ hw) hd (kk ls hl)⟩
theorem ok_lconst {n : Fin 2} {v : Int64} (hd : decode cc pc = .ok (.lconst n, 1)) (hv : Int64.ofNat (n : Nat) = v) (hn : pc + 1 = nx) : am_ok l D ad b0 Hb I y cc nL ret pc (o_lconst v nx) := by
  subst hn
  refine am_mkS (fun L S h v => by simp [o_lconst, am_nx]) (fun L S h pc' L' S' h' e => ?_)
  unfold o_lconst am_nx at e
  cases e
  exact ⟨rfl, fun p e s m args below meth c R cx H locs cells slots ls Q hl _ kk => lv_lconst cx.1 cx.2.1 hd hv (kk ls hl)⟩
theorem ok_goto {off : Int} {t : Nat} (hd : decode cc pc = .ok (.goto off, 3)) (ht : (pc : Int) + off = (t : Int)) : am_ok l D ad b0 Hb I y cc nL ret pc (o_goto t) := by
  refine am_mkS (fun L S h v => by simp [o_goto, am_nx]) (fun L S h pc' L' S' h' e => ?_)
  unfold o_goto am_nx at e
  cases e
  exact ⟨rfl, fun p e s m args below meth c R cx H locs cells slots ls Q hl _ kk => lv_goto cx.1 cx.2.1 hd ht (kk ls hl)⟩
theorem ok_dup (hd : decode cc pc = .ok (.dup, 1)) (hn : pc + 1 = nx) : am_ok l D ad b0 Hb I y cc nL ret pc (o_dup nx) := by
  subst hn
  refine am_mkS (fun L S h v => ?_) (fun L S h pc' L' S' h' e => ?_)
  · unfold o_dup am_nx; split <;> simp
  · unfold o_dup am_nx at e
    split at e
    · cases e
      exact ⟨rfl, fun p e s m args below meth c R cx H locs cells slots ls Q hl _ kk => lv_dup cx.1 cx.2.1 hd rfl (kk ls hl)⟩
    · cases e
      exact ⟨rfl, fun p e s m args below meth c R cx H locs cells slots ls Q hl _ kk => lv_dup cx.1 cx.2.1 hd rfl (kk ls hl)⟩
    · cases e
theorem ok_dup2 (hd : decode cc pc = .ok (.dup2, 1)) (hn : pc + 1 = nx) : am_ok l D ad b0 Hb I y cc nL ret pc (o_dup2 nx) := by
  subst hn
  refine am_mkS (fun L S h v => ?_) (fun L S h pc' L' S' h' e => ?_)
  · unfold o_dup2 am_nx; split <;> simp
  · unfold o_dup2 am_nx at e
    split at e
    · cases e
      exact ⟨rfl, fun p e s m args below meth c R cx H locs cells slots ls Q hl _ kk => lv_dup2_11 cx.1 cx.2.1 hd rfl rfl (kk ls hl)⟩
    · cases e
theorem ok_pop (hd : decode cc pc = .ok (.pop, 1)) (hn : pc + 1 = nx) : am_ok l D ad b0 Hb I y cc nL ret pc (o_pop nx) := by
  subst hn
  refine am_mkS (fun L S h v => ?_) (fun L S h pc' L' S' h' e => ?_)
  · unfold o_pop am_nx; split <;> simp
  · unfold o_pop am_nx at e
    split at e
    · rename_i x S0
      cases e
      exact ⟨rfl, fun p e s m args below meth c R cx H locs cells slots ls Q hl _ kk => lv_pop (va := .int x) cx.1 cx.2.1 hd rfl (kk ls hl)⟩
    · rename_i x S0
      cases e
      exact ⟨rfl, fun p e s m args below meth c R cx H locs cells slots ls Q hl _ kk => lv_pop (va := .ref (ad x)) cx.1 cx.2.1 hd rfl (kk ls hl)⟩
    · cases e
theorem ok_iadd (hd : decode cc pc = .ok (.iadd, 1)) (hn : pc + 1 = nx) : am_ok l D ad b0 Hb I y cc nL ret pc (o_bin (fun x y => x + y) nx) := by
  subst hn
  refine am_mkS (fun L S h v => ?_) (fun L S h pc' L' S' h' e => ?_)
  · unfold o_bin am_nx; split <;> simp
  · unfold o_bin am_nx at e
    split at e
    · cases e
      exact ⟨rfl, fun p e s m args below meth c R cx H locs cells slots ls Q hl _ kk => lv_iadd cx.1 cx.2.1 hd (kk ls hl)⟩
    · cases e
theorem ok_isub (hd : decode cc pc = .ok (.isub, 1)) (hn : pc + 1 = nx) : am_ok l D ad b0 Hb I y cc nL ret pc (o_bin (fun x y => x - y) nx) := by
  subst hn
  refine am_mkS (fun L S h v => ?_) (fun L S h pc' L' S' h' e => ?_)
  · unfold o_bin am_nx; split <;> simp
  · unfold o_bin am_nx at e
    split at e
    · cases e
      exact ⟨rfl, fun p e s m args below meth c R cx H locs cells slots ls Q hl _ kk => lv_isub cx.1 cx.2.1 hd (kk ls hl)⟩
    · cases e
theorem ok_imul (hd : decode cc pc = .ok (.imul, 1)) (hn : pc + 1 = nx) : am_ok l D ad b0 Hb I y cc nL ret pc (o_bin (fun x y => x * y) nx) := by
  subst hn
  refine am_mkS (fun L S h v => ?_) (fun L S h pc' L' S' h' e => ?_)
  · unfold o_bin am_nx; split <;> simp
  · unfold o_bin am_nx at e
    split at e
    · cases e
      exact ⟨rfl, fun p e s m args below meth c R cx H locs cells slots ls Q hl _ kk => lv_imul cx.1 cx.2.1 hd (kk ls hl)⟩
    · cases e
theorem ok_iand (hd : decode cc pc = .ok (.iand, 1)) (hn : pc + 1 = nx) : am_ok l D ad b0 Hb I y cc nL ret pc (o_bin (fun x y => x &&& y) nx) := by
  subst hn
  refine am_mkS (fun L S h v => ?_) (fun L S h pc' L' S' h' e => ?_)
  · unfold o_bin am_nx; split <;> simp
  · unfold o_bin am_nx at e
    split at e
    · cases e
      exact ⟨rfl, fun p e s m args below meth c R cx H locs cells slots ls Q hl _ kk => lv_iand cx.1 cx.2.1 hd (kk ls hl)⟩
    · cases e
theorem ok_ior (hd : decode cc pc = .ok (.ior, 1)) (hn : pc + 1 = nx) : am_ok l D ad b0 Hb I y cc nL ret pc (o_bin (fun x y => x ||| y) nx) := by
  subst hn
  refine am_mkS (fun L S h v => ?_) (fun L S h pc' L' S' h' e => ?_)
  · unfold o_bin am_nx; split <;> simp
  · unfold o_bin am_nx at e
    split at e
    · cases e
      exact ⟨rfl, fun p e s m args below meth c R cx H locs cells slots ls Q hl _ kk => lv_ior cx.1 cx.2.1 hd (kk ls hl)⟩
    · cases e
theorem ok_ixor (hd : decode cc pc = .ok (.ixor, 1)) (hn : pc + 1 = nx) : am_ok l D ad b0 Hb I y cc nL ret pc (o_bin (fun x y => x ^^^ y) nx) := by
  subst hn
  refine am_mkS (fun L S h v => ?_) (fun L S h pc' L' S' h' e => ?_)
  · unfold o_bin am_nx; split <;> simp
  · unfold o_bin am_nx at e
    split at e
    · cases e
      exact ⟨rfl, fun p e s m args below meth c R cx H locs cells slots ls Q hl _ kk => lv_ixor cx.1 cx.2.1 hd (kk ls hl)⟩
    · cases e
theorem ok_ishl (hd : decode cc pc = .ok (.ishl, 1)) (hn : pc + 1 = nx) : am_ok l D ad b0 Hb I y cc nL ret pc (o_bin (fun x y => x <<< (y &&& 31)) nx) := by
  subst hn
  refine am_mkS (fun L S h v => ?_) (fun L S h pc' L' S' h' e => ?_)
  · unfold o_bin am_nx; split <;> simp
  · unfold o_bin am_nx at e
    split at e
    · cases e
      exact ⟨rfl, fun p e s m args below meth c R cx H locs cells slots ls Q hl _ kk => lv_ishl cx.1 cx.2.1 hd (kk ls hl)⟩
    · cases e
theorem ok_ishr (hd : decode cc pc = .ok (.ishr, 1)) (hn : pc + 1 = nx) : am_ok l D ad b0 Hb I y cc nL ret pc (o_bin (fun x y => x >>> (y &&& 31)) nx) := by
  subst hn
  refine am_mkS (fun L S h v => ?_) (fun L S h pc' L' S' h' e => ?_)
  · unfold o_bin am_nx; split <;> simp
  · unfold o_bin am_nx at e
    split at e
    · cases e
      exact ⟨rfl, fun p e s m args below meth c R cx H locs cells slots ls Q hl _ kk => lv_ishr cx.1 cx.2.1 hd (kk ls hl)⟩
    · cases e
theorem ok_iushr (hd : decode cc pc = .ok (.iushr, 1)) (hn : pc + 1 = nx) : am_ok l D ad b0 Hb I y cc nL ret pc (o_bin (fun x y => (x.toUInt32 >>> (y.toUInt32 &&& Int32.toUInt32 31)).toInt32) nx) := by
  subst hn
  refine am_mkS (fun L S h v => ?_) (fun L S h pc' L' S' h' e => ?_)
  · unfold o_bin am_nx; split <;> simp
  · unfold o_bin am_nx at e
    split at e
    · cases e
      exact ⟨rfl, fun p e s m args below meth c R cx H locs cells slots ls Q hl _ kk => lv_iushr cx.1 cx.2.1 hd rfl (kk ls hl)⟩
    · cases e
theorem ok_idiv (hd : decode cc pc = .ok (.idiv, 1)) (hn : pc + 1 = nx) : am_ok l D ad b0 Hb I y cc nL ret pc (o_div (fun x y => x / y) nx) := by
  subst hn
  refine am_mkS (fun L S h v => ?_) (fun L S h pc' L' S' h' e => ?_)
  · unfold o_div am_nx; split <;> (try split) <;> simp
  · unfold o_div am_nx at e
    split at e
    · split at e
      · cases e
      · rename_i hne
        cases e
        exact ⟨rfl, fun p e s m args below meth c R cx H locs cells slots ls Q hl _ kk => lv_idiv cx.1 cx.2.1 hd hne (kk ls hl)⟩
    · cases e
theorem ok_irem (hd : decode cc pc = .ok (.irem, 1)) (hn : pc + 1 = nx) : am_ok l D ad b0 Hb I y cc nL ret pc (o_div (fun x y => x - x / y * y) nx) := by
  subst hn
  refine am_mkS (fun L S h v => ?_) (fun L S h pc' L' S' h' e => ?_)
  · unfold o_div am_nx; split <;> (try split) <;> simp
  · unfold o_div am_nx at e
    split at e
    · split at e
      · cases e
      · rename_i hne
        cases e
        exact ⟨rfl, fun p e s m args below meth c R cx H locs cells slots ls Q hl _ kk => lv_irem cx.1 cx.2.1 hd hne (kk ls hl)⟩
    · cases e
theorem ok_ineg (hd : decode cc pc = .ok (.ineg, 1)) (hn : pc + 1 = nx) : am_ok l D ad b0 Hb I y cc nL ret pc (o_un (fun x => -x) nx) := by
  subst hn
  refine am_mkS (fun L S h v => ?_) (fun L S h pc' L' S' h' e => ?_)
  · unfold o_un am_nx; split <;> simp
  · unfold o_un am_nx at e
    split at e
    · cases e
      exact ⟨rfl, fun p e s m args below meth c R cx H locs cells slots ls Q hl _ kk => lv_ineg cx.1 cx.2.1 hd (kk ls hl)⟩
    · cases e
theorem ok_i2b (hd : decode cc pc = .ok (.i2b, 1)) (hn : pc + 1 = nx) : am_ok l D ad b0 Hb I y cc nL ret pc (o_un (fun x => x.toInt8.toInt32) nx) := by
  subst hn
  refine am_mkS (fun L S h v => ?_) (fun L S h pc' L' S' h' e => ?_)
  · unfold o_un am_nx; split <;> simp
  · unfold o_un am_nx at e
    split at e
    · cases e
      exact ⟨rfl, fun p e s m args below meth c R cx H locs cells slots ls Q hl _ kk => lv_i2b cx.1 cx.2.1 hd rfl (kk ls hl)⟩
    · cases e
theorem ok_i2c (hd : decode cc pc = .ok (.i2c, 1)) (hn : pc + 1 = nx) : am_ok l D ad b0 Hb I y cc nL ret pc (o_un (fun x => (x.toUInt32 % 65536).toInt32) nx) := by
  subst hn
  refine am_mkS (fun L S h v => ?_) (fun L S h pc' L' S' h' e => ?_)
  · unfold o_un am_nx; split <;> simp
  · unfold o_un am_nx at e
    split at e
    · cases e
      exact ⟨rfl, fun p e s m args below meth c R cx H locs cells slots ls Q hl _ kk => lv_i2c cx.1 cx.2.1 hd rfl (kk ls hl)⟩
    · cases e
theorem ok_i2l (hd : decode cc pc = .ok (.i2l, 1)) (hn : pc + 1 = nx) : am_ok l D ad b0 Hb I y cc nL ret pc (o_i2l nx) := by
  subst hn
  refine am_mkS (fun L S h v => ?_) (fun L S h pc' L' S' h' e => ?_)
  · unfold o_i2l am_nx; split <;> simp
  · unfold o_i2l am_nx at e
    split at e
    · cases e
      exact ⟨rfl, fun p e s m args below meth c R cx H locs cells slots ls Q hl _ kk => lv_i2l cx.1 cx.2.1 hd rfl (kk ls hl)⟩
    · cases e
theorem ok_l2i (hd : decode cc pc = .ok (.l2i, 1)) (hn : pc + 1 = nx) : am_ok l D ad b0 Hb I y cc nL ret pc (o_l2i nx) := by
  subst hn
  refine am_mkS (fun L S h v => ?_) (fun L S h pc' L' S' h' e => ?_)
  · unfold o_l2i am_nx; split <;> simp
  · unfold o_l2i am_nx at e
    split at e
    · cases e
      exact ⟨rfl, fun p e s m args below meth c R cx H locs cells slots ls Q hl _ kk => lv_l2i cx.1 cx.2.1 hd rfl (kk ls hl)⟩
    · cases e
theorem ok_lcmp (hd : decode cc pc = .ok (.lcmp, 1)) (hn : pc + 1 = nx) : am_ok l D ad b0 Hb I y cc nL ret pc (o_lcmp nx) := by
  subst hn
  refine am_mkS (fun L S h v => ?_) (fun L S h pc' L' S' h' e => ?_)
  · unfold o_lcmp am_nx; split <;> simp
  · unfold o_lcmp am_nx at e
    split at e
    · cases e
      exact ⟨rfl, fun p e s m args below meth c R cx H locs cells slots ls Q hl _ kk => W.lcmp cx.1 cx.2.1 hd (kk ls hl)⟩
    · cases e
theorem ok_land (hd : decode cc pc = .ok (.land, 1)) (hn : pc + 1 = nx) : am_ok l D ad b0 Hb I y cc nL ret pc (o_lbin (fun x y => x &&& y) nx) := by
  subst hn
  refine am_mkS (fun L S h v => ?_) (fun L S h pc' L' S' h' e => ?_)
  · unfold o_lbin am_nx; split <;> simp
  · unfold o_lbin am_nx at e
    split at e
    · cases e
      exact ⟨rfl, fun p e s m args below meth c R cx H locs cells slots ls Q hl _ kk => lv_land cx.1 cx.2.1 hd (kk ls hl)⟩
    · cases e
theorem ok_lor (hd : decode cc pc = .ok (.lor, 1)) (hn : pc + 1 = nx) : am_ok l D ad b0 Hb I y cc nL ret pc (o_lbin (fun x y => x ||| y) nx) := by
  subst hn
  refine am_mkS (fun L S h v => ?_) (fun L S h pc' L' S' h' e => ?_)
  · unfold o_lbin am_nx; split <;> simp
  · unfold o_lbin am_nx at e
    split at e
    · cases e
      exact ⟨rfl, fun p e s m args below meth c R cx H locs cells slots ls Q hl _ kk => lv_lor cx.1 cx.2.1 hd (kk ls hl)⟩
    · cases e
theorem ok_ladd (hd : decode cc pc = .ok (.ladd, 1)) (hn : pc + 1 = nx) : am_ok l D ad b0 Hb I y cc nL ret pc (o_lbin (fun x y => x + y) nx) := by
  subst hn
  refine am_mkS (fun L S h v => ?_) (fun L S h pc' L' S' h' e => ?_)
  · unfold o_lbin am_nx; split <;> simp
  · unfold o_lbin am_nx at e
    split at e
    · cases e
      exact ⟨rfl, fun p e s m args below meth c R cx H locs cells slots ls Q hl _ kk => lv_ladd cx.1 cx.2.1 hd (kk ls hl)⟩
    · cases e
theorem ok_lshl (hd : decode cc pc = .ok (.lshl, 1)) (hn : pc + 1 = nx) : am_ok l D ad b0 Hb I y cc nL ret pc (o_lsh (fun x y => x <<< (y.toInt64 &&& 63)) nx) := by
  subst hn
  refine am_mkS (fun L S h v => ?_) (fun L S h pc' L' S' h' e => ?_)
  · unfold o_lsh am_nx; split <;> simp
  · unfold o_lsh am_nx at e
    split at e
    · cases e
      exact ⟨rfl, fun p e s m args below meth c R cx H locs cells slots ls Q hl _ kk => lv_lshl cx.1 cx.2.1 hd rfl (kk ls hl)⟩
    · cases e
theorem ok_lshr (hd : decode cc pc = .ok (.lshr, 1)) (hn : pc + 1 = nx) : am_ok l D ad b0 Hb I y cc nL ret pc (o_lsh (fun x y => x >>> (y.toInt64 &&& 63)) nx) := by
  subst hn
  refine am_mkS (fun L S h v => ?_) (fun L S h pc' L' S' h' e => ?_)
  · unfold o_lsh am_nx; split <;> simp
  · unfold o_lsh am_nx at e
    split at e
    · cases e
      exact ⟨rfl, fun p e s m args below meth c R cx H locs cells slots ls Q hl _ kk => lv_lshr cx.1 cx.2.1 hd rfl (kk ls hl)⟩
    · cases e
theorem ok_lushr (hd : decode cc pc = .ok (.lushr, 1)) (hn : pc + 1 = nx) : am_ok l D ad b0 Hb I y cc nL ret pc (o_lsh (fun x y => (x.toUInt64 >>> (y.toInt64.toUInt64 &&& Int64.toUInt64 63)).toInt64) nx) := by
  subst hn
  refine am_mkS (fun L S h v => ?_) (fun L S h pc' L' S' h' e => ?_)
  · unfold o_lsh am_nx; split <;> simp
  · unfold o_lsh am_nx at e
    split at e
    · cases e
      exact ⟨rfl, fun p e s m args below meth c R cx H locs cells slots ls Q hl _ kk => lv_lushr cx.1 cx.2.1 hd rfl (kk ls hl)⟩
    · cases e
end AMO
end
section
section AMP
variable {l : Launch} {D : va_G} {ad : Nat → Nat} {b0 : Nat} {Hb : Heap} {I : Nat → am_I} {y : MethodName} {cc : ByteArray} {nL : Nat} {ret : Option FieldType} {pc nx : Nat}
theorem am_nlt {a b : Int32} (h : ¬ a < b) : b ≤ a := Int32.not_lt.mp h
theorem am_nle {a b : Int32} (h : ¬ a ≤ b) : b < a := Int32.not_le.mp h
theorem am_lt_nle {a b : Int32} (h : a < b) : ¬ b ≤ a := Int32.not_le.mpr h
theorem am_le_nlt {a b : Int32} (h : a ≤ b) : ¬ b < a := Int32.not_lt.mpr h
theorem ok_ifeq {off : Int} {t : Nat} (hd : decode cc pc = .ok (.ifCond .eq off, 3)) (ht : (pc : Int) + off = (t : Int)) (hn : pc + 3 = nx) : am_ok l D ad b0 Hb I y cc nL ret pc (o_ifeq t nx) := by
  subst hn
  refine am_mkS (fun L S h v => ?_) (fun L S h pc' L' S' h' e => ?_)
  · unfold o_ifeq am_nx; split <;> (try split) <;> simp
  · unfold o_ifeq am_nx at e
    split at e
    · split at e
      · rename_i hc
        cases e
        exact ⟨rfl, fun p e s m args below meth c R cx H locs cells slots ls Q hl _ kk => lv_if_eq cx.1 cx.2.1 hd ht (fun _ => kk ls hl) (fun h9 => absurd hc h9)⟩
      · rename_i hc
        cases e
        exact ⟨rfl, fun p e s m args below meth c R cx H locs cells slots ls Q hl _ kk => lv_if_eq cx.1 cx.2.1 hd ht (fun h9 => absurd h9 hc) (fun _ => kk ls hl)⟩
    · cases e
theorem ok_ifne {off : Int} {t : Nat} (hd : decode cc pc = .ok (.ifCond .ne off, 3)) (ht : (pc : Int) + off = (t : Int)) (hn : pc + 3 = nx) : am_ok l D ad b0 Hb I y cc nL ret pc (o_ifeq nx t) := by
  subst hn
  refine am_mkS (fun L S h v => ?_) (fun L S h pc' L' S' h' e => ?_)
  · unfold o_ifeq am_nx; split <;> (try split) <;> simp
  · unfold o_ifeq am_nx at e
    split at e
    · split at e
      · rename_i hc
        cases e
        exact ⟨rfl, fun p e s m args below meth c R cx H locs cells slots ls Q hl _ kk => lv_if_ne cx.1 cx.2.1 hd ht (fun h9 => absurd hc h9) (fun _ => kk ls hl)⟩
      · rename_i hc
        cases e
        exact ⟨rfl, fun p e s m args below meth c R cx H locs cells slots ls Q hl _ kk => lv_if_ne cx.1 cx.2.1 hd ht (fun _ => kk ls hl) (fun h9 => absurd h9 hc)⟩
    · cases e
theorem ok_iflt {off : Int} {t : Nat} (hd : decode cc pc = .ok (.ifCond .lt off, 3)) (ht : (pc : Int) + off = (t : Int)) (hn : pc + 3 = nx) : am_ok l D ad b0 Hb I y cc nL ret pc (o_iflt t nx) := by
  subst hn
  refine am_mkS (fun L S h v => ?_) (fun L S h pc' L' S' h' e => ?_)
  · unfold o_iflt am_nx; split <;> (try split) <;> simp
  · unfold o_iflt am_nx at e
    split at e
    · split at e
      · rename_i hc
        cases e
        exact ⟨rfl, fun p e s m args below meth c R cx H locs cells slots ls Q hl _ kk => lv_if_lt cx.1 cx.2.1 hd ht (fun _ => kk ls hl) (fun h9 => absurd hc h9)⟩
      · rename_i hc
        cases e
        exact ⟨rfl, fun p e s m args below meth c R cx H locs cells slots ls Q hl _ kk => lv_if_lt cx.1 cx.2.1 hd ht (fun h9 => absurd h9 hc) (fun _ => kk ls hl)⟩
    · cases e
theorem ok_ifge {off : Int} {t : Nat} (hd : decode cc pc = .ok (.ifCond .ge off, 3)) (ht : (pc : Int) + off = (t : Int)) (hn : pc + 3 = nx) : am_ok l D ad b0 Hb I y cc nL ret pc (o_iflt nx t) := by
  subst hn
  refine am_mkS (fun L S h v => ?_) (fun L S h pc' L' S' h' e => ?_)
  · unfold o_iflt am_nx; split <;> (try split) <;> simp
  · unfold o_iflt am_nx at e
    split at e
    · split at e
      · rename_i hc
        cases e
        exact ⟨rfl, fun p e s m args below meth c R cx H locs cells slots ls Q hl _ kk => lv_if_ge cx.1 cx.2.1 hd ht (fun h9 => absurd h9 (am_lt_nle hc)) (fun _ => kk ls hl)⟩
      · rename_i hc
        cases e
        exact ⟨rfl, fun p e s m args below meth c R cx H locs cells slots ls Q hl _ kk => lv_if_ge cx.1 cx.2.1 hd ht (fun _ => kk ls hl) (fun h9 => absurd (am_nlt hc) h9)⟩
    · cases e
theorem ok_ifgt {off : Int} {t : Nat} (hd : decode cc pc = .ok (.ifCond .gt off, 3)) (ht : (pc : Int) + off = (t : Int)) (hn : pc + 3 = nx) : am_ok l D ad b0 Hb I y cc nL ret pc (o_ifgt t nx) := by
  subst hn
  refine am_mkS (fun L S h v => ?_) (fun L S h pc' L' S' h' e => ?_)
  · unfold o_ifgt am_nx; split <;> (try split) <;> simp
  · unfold o_ifgt am_nx at e
    split at e
    · split at e
      · rename_i hc
        cases e
        exact ⟨rfl, fun p e s m args below meth c R cx H locs cells slots ls Q hl _ kk => lv_if_gt cx.1 cx.2.1 hd ht (fun _ => kk ls hl) (fun h9 => absurd hc h9)⟩
      · rename_i hc
        cases e
        exact ⟨rfl, fun p e s m args below meth c R cx H locs cells slots ls Q hl _ kk => lv_if_gt cx.1 cx.2.1 hd ht (fun h9 => absurd h9 hc) (fun _ => kk ls hl)⟩
    · cases e
theorem ok_ifle {off : Int} {t : Nat} (hd : decode cc pc = .ok (.ifCond .le off, 3)) (ht : (pc : Int) + off = (t : Int)) (hn : pc + 3 = nx) : am_ok l D ad b0 Hb I y cc nL ret pc (o_ifgt nx t) := by
  subst hn
  refine am_mkS (fun L S h v => ?_) (fun L S h pc' L' S' h' e => ?_)
  · unfold o_ifgt am_nx; split <;> (try split) <;> simp
  · unfold o_ifgt am_nx at e
    split at e
    · split at e
      · rename_i hc
        cases e
        exact ⟨rfl, fun p e s m args below meth c R cx H locs cells slots ls Q hl _ kk => lv_if_le cx.1 cx.2.1 hd ht (fun h9 => absurd h9 (am_lt_nle hc)) (fun _ => kk ls hl)⟩
      · rename_i hc
        cases e
        exact ⟨rfl, fun p e s m args below meth c R cx H locs cells slots ls Q hl _ kk => lv_if_le cx.1 cx.2.1 hd ht (fun _ => kk ls hl) (fun h9 => absurd (am_nlt hc) h9)⟩
    · cases e
theorem ok_ceq {off : Int} {t : Nat} (hd : decode cc pc = .ok (.if_icmp .eq off, 3)) (ht : (pc : Int) + off = (t : Int)) (hn : pc + 3 = nx) : am_ok l D ad b0 Hb I y cc nL ret pc (o_ceq t nx) := by
  subst hn
  refine am_mkS (fun L S h v => ?_) (fun L S h pc' L' S' h' e => ?_)
  · unfold o_ceq am_nx; split <;> (try split) <;> simp
  · unfold o_ceq am_nx at e
    split at e
    · split at e
      · rename_i hc
        cases e
        exact ⟨rfl, fun p e s m args below meth c R cx H locs cells slots ls Q hl _ kk => lv_icmp_eq cx.1 cx.2.1 hd ht (fun _ => kk ls hl) (fun h9 => absurd hc h9)⟩
      · rename_i hc
        cases e
        exact ⟨rfl, fun p e s m args below meth c R cx H locs cells slots ls Q hl _ kk => lv_icmp_eq cx.1 cx.2.1 hd ht (fun h9 => absurd h9 hc) (fun _ => kk ls hl)⟩
    · cases e
theorem ok_cne {off : Int} {t : Nat} (hd : decode cc pc = .ok (.if_icmp .ne off, 3)) (ht : (pc : Int) + off = (t : Int)) (hn : pc + 3 = nx) : am_ok l D ad b0 Hb I y cc nL ret pc (o_ceq nx t) := by
  subst hn
  refine am_mkS (fun L S h v => ?_) (fun L S h pc' L' S' h' e => ?_)
  · unfold o_ceq am_nx; split <;> (try split) <;> simp
  · unfold o_ceq am_nx at e
    split at e
    · split at e
      · rename_i hc
        cases e
        exact ⟨rfl, fun p e s m args below meth c R cx H locs cells slots ls Q hl _ kk => lv_icmp_ne cx.1 cx.2.1 hd ht (fun h9 => absurd hc h9) (fun _ => kk ls hl)⟩
      · rename_i hc
        cases e
        exact ⟨rfl, fun p e s m args below meth c R cx H locs cells slots ls Q hl _ kk => lv_icmp_ne cx.1 cx.2.1 hd ht (fun _ => kk ls hl) (fun h9 => absurd h9 hc)⟩
    · cases e
theorem ok_clt {off : Int} {t : Nat} (hd : decode cc pc = .ok (.if_icmp .lt off, 3)) (ht : (pc : Int) + off = (t : Int)) (hn : pc + 3 = nx) : am_ok l D ad b0 Hb I y cc nL ret pc (o_clt t nx) := by
  subst hn
  refine am_mkS (fun L S h v => ?_) (fun L S h pc' L' S' h' e => ?_)
  · unfold o_clt am_nx; split <;> (try split) <;> simp
  · unfold o_clt am_nx at e
    split at e
    · split at e
      · rename_i hc
        cases e
        exact ⟨rfl, fun p e s m args below meth c R cx H locs cells slots ls Q hl _ kk => lv_icmp_lt cx.1 cx.2.1 hd ht (fun _ => kk ls hl) (fun h9 => absurd hc h9)⟩
      · rename_i hc
        cases e
        exact ⟨rfl, fun p e s m args below meth c R cx H locs cells slots ls Q hl _ kk => lv_icmp_lt cx.1 cx.2.1 hd ht (fun h9 => absurd h9 hc) (fun _ => kk ls hl)⟩
    · cases e
theorem ok_cge {off : Int} {t : Nat} (hd : decode cc pc = .ok (.if_icmp .ge off, 3)) (ht : (pc : Int) + off = (t : Int)) (hn : pc + 3 = nx) : am_ok l D ad b0 Hb I y cc nL ret pc (o_clt nx t) := by
  subst hn
  refine am_mkS (fun L S h v => ?_) (fun L S h pc' L' S' h' e => ?_)
  · unfold o_clt am_nx; split <;> (try split) <;> simp
  · unfold o_clt am_nx at e
    split at e
    · split at e
      · rename_i hc
        cases e
        exact ⟨rfl, fun p e s m args below meth c R cx H locs cells slots ls Q hl _ kk => lv_icmp_ge cx.1 cx.2.1 hd ht (fun h9 => absurd h9 (am_lt_nle hc)) (fun _ => kk ls hl)⟩
      · rename_i hc
        cases e
        exact ⟨rfl, fun p e s m args below meth c R cx H locs cells slots ls Q hl _ kk => lv_icmp_ge cx.1 cx.2.1 hd ht (fun _ => kk ls hl) (fun h9 => absurd (am_nlt hc) h9)⟩
    · cases e
theorem ok_cgt {off : Int} {t : Nat} (hd : decode cc pc = .ok (.if_icmp .gt off, 3)) (ht : (pc : Int) + off = (t : Int)) (hn : pc + 3 = nx) : am_ok l D ad b0 Hb I y cc nL ret pc (o_cgt t nx) := by
  subst hn
  refine am_mkS (fun L S h v => ?_) (fun L S h pc' L' S' h' e => ?_)
  · unfold o_cgt am_nx; split <;> (try split) <;> simp
  · unfold o_cgt am_nx at e
    split at e
    · split at e
      · rename_i hc
        cases e
        exact ⟨rfl, fun p e s m args below meth c R cx H locs cells slots ls Q hl _ kk => lv_icmp_gt cx.1 cx.2.1 hd ht (fun _ => kk ls hl) (fun h9 => absurd hc h9)⟩
      · rename_i hc
        cases e
        exact ⟨rfl, fun p e s m args below meth c R cx H locs cells slots ls Q hl _ kk => lv_icmp_gt cx.1 cx.2.1 hd ht (fun h9 => absurd h9 hc) (fun _ => kk ls hl)⟩
    · cases e
theorem ok_cle {off : Int} {t : Nat} (hd : decode cc pc = .ok (.if_icmp .le off, 3)) (ht : (pc : Int) + off = (t : Int)) (hn : pc + 3 = nx) : am_ok l D ad b0 Hb I y cc nL ret pc (o_cgt nx t) := by
  subst hn
  refine am_mkS (fun L S h v => ?_) (fun L S h pc' L' S' h' e => ?_)
  · unfold o_cgt am_nx; split <;> (try split) <;> simp
  · unfold o_cgt am_nx at e
    split at e
    · split at e
      · rename_i hc
        cases e
        exact ⟨rfl, fun p e s m args below meth c R cx H locs cells slots ls Q hl _ kk => lv_icmp_le cx.1 cx.2.1 hd ht (fun h9 => absurd h9 (am_lt_nle hc)) (fun _ => kk ls hl)⟩
      · rename_i hc
        cases e
        exact ⟨rfl, fun p e s m args below meth c R cx H locs cells slots ls Q hl _ kk => lv_icmp_le cx.1 cx.2.1 hd ht (fun _ => kk ls hl) (fun h9 => absurd (am_nlt hc) h9)⟩
    · cases e
end AMP
end
section
theorem am_up_self (f : Nat → Nat → Int32) (k j : Nat) (x : Int32) : am_up f k j x k = upd (f k) j x := by simp [am_up]
theorem am_up_ne (f : Nat → Nat → Int32) {k k' : Nat} (j : Nat) (x : Int32) (h : k' ≠ k) : am_up f k j x k' = f k' := by simp [am_up, h]
theorem am_upR_self (f : Nat → Nat → Option Nat) (k j : Nat) (x : Option Nat) : am_upR f k j x k = va_up (f k) j x := by simp [am_upR]
theorem am_upR_ne (f : Nat → Nat → Option Nat) {k k' : Nat} (j : Nat) (x : Option Nat) (h : k' ≠ k) : am_upR f k j x k' = f k' := by simp [am_upR, h]
theorem am_updV_int (f : Nat → Int32) (i : Nat) (x : Int32) : updV (fun j => Value.int (f j)) i (.int x) = fun j => .int (upd f i x j) := by
  funext q
  by_cases hq : q = i <;> simp [updV, upd, hq]
theorem am_updV_ref (ad : Nat → Nat) (f : Nat → Option Nat) (i v : Nat) : updV (fun j => va_rf ((f j).map ad)) i (.ref (ad v)) = fun j => va_rf ((va_up f i (some v) j).map ad) := by
  funext q
  by_cases hq : q = i <;> simp [updV, va_up, va_rf, hq]
theorem am_nin {i : Int32} {n m : Nat} (h : ¬ (i < 0 ∨ n ≤ i.toNatClampNeg)) (hm : n ≤ m) : ¬ (i < 0 ∨ m ≤ i.toNatClampNeg) := fun e => h (e.elim Or.inl (fun q => Or.inr (Nat.le_trans hm q)))
theorem am_nlt2 {i : Int32} {n : Nat} (h : ¬ (i < 0 ∨ n ≤ i.toNatClampNeg)) : i.toNatClampNeg < n := Nat.not_le.mp fun q => h (Or.inr q)
theorem am_locs {b0 a i : Nat} {locs : List Loc} (h : ∀ q ∈ locs, b0 ≤ q.base) (ha : b0 ≤ a) : ∀ q ∈ locs ++ [(⟨a, i⟩ : Loc)], b0 ≤ q.base := fun q hq => by
  rcases List.mem_append.mp hq with h1 | h1
  · exact h q h1
  · rw [List.mem_singleton.mp h1]
    exact ha
theorem am_w0 {p : Program} {l : Launch} {e : Env} {R : Room} {s : State} {m : MethodId} {args : Array Value} {below : List Frame} {meth : Method} {c : Code} {H : Heap} {locs : List Loc} {cells slots : Nat} {Q : State → Prop} {g : JFrame} {h h' : am_H} (he : h'.1 = h.1) (k : W p l e R s m args below meth c H locs (cells + (h'.1.length - h.1.length)) (slots + (am_ns h' - am_ns h)) Q g) : W p l e R s m args below meth c H locs cells slots Q g := by
  have e2 : am_ns h' = am_ns h := by unfold am_ns; rw [he]
  rw [he, e2, Nat.sub_self, Nat.sub_self] at k
  exact k
section AMQ
variable {l : Launch} {D : va_G} {ad : Nat → Nat} {b0 : Nat} {Hb : Heap} {I : Nat → am_I} {y : MethodName} {cc : ByteArray} {nL : Nat} {ret : Option FieldType} {pc nx : Nat}
theorem ok_iald (hd : decode cc pc = .ok (.iaload, 1)) (hn : pc + 1 = nx) : am_ok l D ad b0 Hb I y cc nL ret pc (o_ald 20 nx) := by
  subst hn
  refine am_mkS (fun L S h v => ?_) (fun L S h pc' L' S' h' e => ?_)
  · unfold o_ald am_nx; split <;> (try split) <;> (try split) <;> (try split) <;> simp
  · unfold o_ald am_nx at e
    split at e
    · split at e
      · rename_i t ht
        split at e
        · rename_i htag
          split at e
          · cases e
          · rename_i hin
            cases e
            refine ⟨rfl, fun p e s m args below meth c R cx H locs cells slots ls Q hl hr kk => ?_⟩
            obtain ⟨cell, q1, q2, q3, q4, q5, q6⟩ := hr.arr ht (by omega) (by omega)
            rw [htag] at q2
            exact W.iald cx.1 cx.2.1 q1 q2 q3 (am_nin hin q4) (q6 _ (am_nlt2 hin)) rfl rfl hd (kk ls hl)
        · cases e
      · cases e
    · cases e
theorem ok_zald (hd : decode cc pc = .ok (.baload, 1)) (hn : pc + 1 = nx) : am_ok l D ad b0 Hb I y cc nL ret pc (o_ald 21 nx) := by
  subst hn
  refine am_mkS (fun L S h v => ?_) (fun L S h pc' L' S' h' e => ?_)
  · unfold o_ald am_nx; split <;> (try split) <;> (try split) <;> (try split) <;> simp
  · unfold o_ald am_nx at e
    split at e
    · split at e
      · rename_i t ht
        split at e
        · rename_i htag
          split at e
          · cases e
          · rename_i hin
            cases e
            refine ⟨rfl, fun p e s m args below meth c R cx H locs cells slots ls Q hl hr kk => ?_⟩
            obtain ⟨cell, q1, q2, q3, q4, q5, q6⟩ := hr.arr ht (by omega) (by omega)
            rw [htag] at q2
            exact W.zald cx.1 cx.2.1 q1 q2 q3 (am_nin hin q4) (q6 _ (am_nlt2 hin)) rfl rfl hd (kk ls hl)
        · cases e
      · cases e
    · cases e
theorem ok_cald (hd : decode cc pc = .ok (.caload, 1)) (hn : pc + 1 = nx) : am_ok l D ad b0 Hb I y cc nL ret pc (o_ald 22 nx) := by
  subst hn
  refine am_mkS (fun L S h v => ?_) (fun L S h pc' L' S' h' e => ?_)
  · unfold o_ald am_nx; split <;> (try split) <;> (try split) <;> (try split) <;> simp
  · unfold o_ald am_nx at e
    split at e
    · split at e
      · rename_i t ht
        split at e
        · rename_i htag
          split at e
          · cases e
          · rename_i hin
            cases e
            refine ⟨rfl, fun p e s m args below meth c R cx H locs cells slots ls Q hl hr kk => ?_⟩
            obtain ⟨cell, q1, q2, q3, q4, q5, q6⟩ := hr.arr ht (by omega) (by omega)
            rw [htag] at q2
            exact W.cald cx.1 cx.2.1 q1 q2 q3 (am_nin hin q4) (q6 _ (am_nlt2 hin)) rfl rfl hd (kk ls hl)
        · cases e
      · cases e
    · cases e
theorem ok_bald (hd : decode cc pc = .ok (.baload, 1)) (hn : pc + 1 = nx) : am_ok l D ad b0 Hb I y cc nL ret pc (o_ald 23 nx) := by
  subst hn
  refine am_mkS (fun L S h v => ?_) (fun L S h pc' L' S' h' e => ?_)
  · unfold o_ald am_nx; split <;> (try split) <;> (try split) <;> (try split) <;> simp
  · unfold o_ald am_nx at e
    split at e
    · split at e
      · rename_i t ht
        split at e
        · rename_i htag
          split at e
          · cases e
          · rename_i hin
            cases e
            refine ⟨rfl, fun p e s m args below meth c R cx H locs cells slots ls Q hl hr kk => ?_⟩
            obtain ⟨cell, q1, q2, q3, q4, q5, q6⟩ := hr.arr ht (by omega) (by omega)
            rw [htag] at q2
            exact W.bald cx.1 cx.2.1 q1 q2 q3 (am_nin hin q4) (q6 _ (am_nlt2 hin)) rfl rfl hd (kk ls hl)
        · cases e
      · cases e
    · cases e
theorem ok_iast (hd : decode cc pc = .ok (.iastore, 1)) (hn : pc + 1 = nx) : am_ok l D ad b0 Hb I y cc nL ret pc (o_ast 20 (fun x => x) nx) := by
  subst hn
  refine am_mkN (fun L S h v => ?_) (fun L S h pc' L' S' h' e => ?_)
  · unfold o_ast am_nx; split <;> (try split) <;> (try split) <;> (try split) <;> simp
  · unfold o_ast am_nx at e
    split at e
    · rename_i x i k S0
      split at e
      · rename_i t ht
        split at e
        · rename_i htag
          split at e
          · cases e
          · rename_i hin
            cases e
            refine ⟨Nat.le_refl _, Nat.le_refl _, fun p e s m args below meth c R cx H locs cells slots ls Q hl hr hlo _ _ kk => ?_⟩
            obtain ⟨htag, hk12⟩ := htag
            rcases hr.2.2.2.2.2 k t hk12 ht with ⟨q, -⟩ | ⟨-, -, cA, q1, q2⟩ | ⟨q, -⟩
            · omega
            · have q1' := q1
              rw [htag] at q1'
              refine W.iast cx.1 cx.2.1 q2 (q1' _ _) (fun q => by cases q) (by rw [arrV_size]; exact hin) rfl rfl hd fun H1 e1 z oq => ?_
              have hrel : am_rel D ad b0 Hb s (h.1, am_up h.2.1 k i.toNatClampNeg (x), h.2.2) H1 := by
                refine am_rel.put cx.2.2.2.2.2.2.2.2.2.2.2 hr hk12 ht rfl (fun k' hk' => am_up_ne _ _ _ hk') (fun _ _ => rfl) z oq (Or.inr (Or.inl ⟨by omega, by omega, cA, q1, ?_⟩))
                show H1[ad k]? = some (arrV cA t.2 (fun j => .int (am_up h.2.1 k i.toNatClampNeg (x) k j)))
                rw [e1, arrV_store, am_up_self, ← am_updV_int]
                try rfl
              exact am_w0 rfl (kk H1 _ ls hl hrel (am_locs (a := ad k) (i := i.toNatClampNeg) hlo (by rw [cx.2.2.2.2.2.2.2.2.2.2.2 k hk12]; omega)))
            · omega
        · cases e
      · cases e
    · cases e
theorem ok_zast (hd : decode cc pc = .ok (.bastore, 1)) (hn : pc + 1 = nx) : am_ok l D ad b0 Hb I y cc nL ret pc (o_ast 21 (fun x => x &&& 1) nx) := by
  subst hn
  refine am_mkN (fun L S h v => ?_) (fun L S h pc' L' S' h' e => ?_)
  · unfold o_ast am_nx; split <;> (try split) <;> (try split) <;> (try split) <;> simp
  · unfold o_ast am_nx at e
    split at e
    · rename_i x i k S0
      split at e
      · rename_i t ht
        split at e
        · rename_i htag
          split at e
          · cases e
          · rename_i hin
            cases e
            refine ⟨Nat.le_refl _, Nat.le_refl _, fun p e s m args below meth c R cx H locs cells slots ls Q hl hr hlo _ _ kk => ?_⟩
            obtain ⟨htag, hk12⟩ := htag
            rcases hr.2.2.2.2.2 k t hk12 ht with ⟨q, -⟩ | ⟨-, -, cA, q1, q2⟩ | ⟨q, -⟩
            · omega
            · have q1' := q1
              rw [htag] at q1'
              refine W.zast cx.1 cx.2.1 q2 (q1' _ _) (fun q => by cases q) (by rw [arrV_size]; exact hin) rfl rfl hd fun H1 e1 z oq => ?_
              have hrel : am_rel D ad b0 Hb s (h.1, am_up h.2.1 k i.toNatClampNeg (x &&& 1), h.2.2) H1 := by
                refine am_rel.put cx.2.2.2.2.2.2.2.2.2.2.2 hr hk12 ht rfl (fun k' hk' => am_up_ne _ _ _ hk') (fun _ _ => rfl) z oq (Or.inr (Or.inl ⟨by omega, by omega, cA, q1, ?_⟩))
                show H1[ad k]? = some (arrV cA t.2 (fun j => .int (am_up h.2.1 k i.toNatClampNeg (x &&& 1) k j)))
                rw [e1, arrV_store, am_up_self, ← am_updV_int]
                try rfl
              exact am_w0 rfl (kk H1 _ ls hl hrel (am_locs (a := ad k) (i := i.toNatClampNeg) hlo (by rw [cx.2.2.2.2.2.2.2.2.2.2.2 k hk12]; omega)))
            · omega
        · cases e
      · cases e
    · cases e
theorem ok_cast (hd : decode cc pc = .ok (.castore, 1)) (hn : pc + 1 = nx) : am_ok l D ad b0 Hb I y cc nL ret pc (o_ast 22 (fun x => x.toUInt32.toUInt16.toUInt32.toInt32) nx) := by
  subst hn
  refine am_mkN (fun L S h v => ?_) (fun L S h pc' L' S' h' e => ?_)
  · unfold o_ast am_nx; split <;> (try split) <;> (try split) <;> (try split) <;> simp
  · unfold o_ast am_nx at e
    split at e
    · rename_i x i k S0
      split at e
      · rename_i t ht
        split at e
        · rename_i htag
          split at e
          · cases e
          · rename_i hin
            cases e
            refine ⟨Nat.le_refl _, Nat.le_refl _, fun p e s m args below meth c R cx H locs cells slots ls Q hl hr hlo _ _ kk => ?_⟩
            obtain ⟨htag, hk12⟩ := htag
            rcases hr.2.2.2.2.2 k t hk12 ht with ⟨q, -⟩ | ⟨-, -, cA, q1, q2⟩ | ⟨q, -⟩
            · omega
            · have q1' := q1
              rw [htag] at q1'
              refine W.cast cx.1 cx.2.1 q2 (q1' _ _) (fun q => by cases q) (by rw [arrV_size]; exact hin) rfl rfl hd fun H1 e1 z oq => ?_
              have hrel : am_rel D ad b0 Hb s (h.1, am_up h.2.1 k i.toNatClampNeg (x.toUInt32.toUInt16.toUInt32.toInt32), h.2.2) H1 := by
                refine am_rel.put cx.2.2.2.2.2.2.2.2.2.2.2 hr hk12 ht rfl (fun k' hk' => am_up_ne _ _ _ hk') (fun _ _ => rfl) z oq (Or.inr (Or.inl ⟨by omega, by omega, cA, q1, ?_⟩))
                show H1[ad k]? = some (arrV cA t.2 (fun j => .int (am_up h.2.1 k i.toNatClampNeg (x.toUInt32.toUInt16.toUInt32.toInt32) k j)))
                rw [e1, arrV_store, am_up_self, ← am_updV_int]
                try rfl
              exact am_w0 rfl (kk H1 _ ls hl hrel (am_locs (a := ad k) (i := i.toNatClampNeg) hlo (by rw [cx.2.2.2.2.2.2.2.2.2.2.2 k hk12]; omega)))
            · omega
        · cases e
      · cases e
    · cases e
theorem ok_alen {tag : Nat} (h20 : 20 ≤ tag) (h24 : tag < 24) (hd : decode cc pc = .ok (.arraylength, 1)) (hn : pc + 1 = nx) : am_ok l D ad b0 Hb I y cc nL ret pc (o_alen tag nx) := by
  subst hn
  refine am_mkS (fun L S h v => ?_) (fun L S h pc' L' S' h' e => ?_)
  · unfold o_alen am_nx; split <;> (try split) <;> (try split) <;> simp
  · unfold o_alen am_nx at e
    split at e
    · split at e
      · rename_i t ht
        split at e
        · rename_i htag
          cases e
          refine ⟨rfl, fun p e s m args below meth c R cx H locs cells slots ls Q hl hr kk => ?_⟩
          obtain ⟨cell, q1, q2, q3, q4, q5, q6⟩ := hr.arr ht (by omega) (by omega)
          exact W.alen cx.1 cx.2.1 q1 q2 q5 rfl rfl hd (kk ls hl)
        · cases e
      · cases e
    · cases e
theorem ok_aald {tag : Nat} (h30 : 30 ≤ tag) (h33 : tag < 33) (hd : decode cc pc = .ok (.aaload, 1)) (hn : pc + 1 = nx) : am_ok l D ad b0 Hb I y cc nL ret pc (o_aald tag nx) := by
  subst hn
  refine am_mkS (fun L S h v => ?_) (fun L S h pc' L' S' h' e => ?_)
  · unfold o_aald am_nx; split <;> (try split) <;> (try split) <;> (try split) <;> (try split) <;> simp
  · unfold o_aald am_nx at e
    split at e
    · rename_i i k S0
      split at e
      · rename_i t ht
        split at e
        · rename_i htag
          split at e
          · cases e
          · rename_i hin
            split at e
            · rename_i a ha
              cases e
              refine ⟨rfl, fun p e s m args below meth c R cx H locs cells slots ls Q hl hr kk => ?_⟩
              rcases hr.2.2.2.2.2 k t htag.2 ht with ⟨q, -⟩ | ⟨-, q, -⟩ | ⟨-, -, cA, q1, -, q2⟩
              · omega
              · omega
              · have hrt : (am_rt t.1).isReference = true := by
                  have h3 : t.1 = 30 ∨ t.1 = 31 ∨ t.1 = 32 := by omega
                  rcases h3 with h3 | h3 | h3 <;> rw [h3] <;> rfl
                refine W.aald (v := .ref (ad a)) (ty := am_rt t.1) cx.1 cx.2.1 q2 (q1 _ _) hrt (fun q => by cases q) (by rw [arrV_size]; exact hin) ?_ rfl rfl hd (kk ls hl)
                rw [arrV_read _ _ (am_nlt2 hin), ha]
                rfl
            · cases e
        · cases e
      · cases e
    · cases e
theorem ok_aast {tag ci : Nat} {r : vw_C} (htg : tag = 31 ∨ tag = 32) (hC : am_rt tag = .object r.1) (hc : vwCl[ci]? = some r) (hci : ci < 11) (hd : decode cc pc = .ok (.aastore, 1)) (hn : pc + 1 = nx) : am_ok l D ad b0 Hb I y cc nL ret pc (o_aast tag ci nx) := by
  subst hn
  refine am_mkN (fun L S h v => ?_) (fun L S h pc' L' S' h' e => ?_)
  · unfold o_aast am_nx; split <;> (try split) <;> (try split) <;> (try split) <;> simp
  · unfold o_aast am_nx at e
    split at e
    · rename_i v i k S0
      split at e
      · rename_i t tv ht htv
        split at e
        · rename_i htag
          split at e
          · cases e
          · rename_i hin
            cases e
            refine ⟨Nat.le_refl _, Nat.le_refl _, fun p e s m args below meth c R cx H locs cells slots ls Q hl hr hlo _ _ kk => ?_⟩
            obtain ⟨htag, hk12, htvc, hv12⟩ := htag
            have hrr := hr
            obtain ⟨g1, g2, g3, g4, g5, g6⟩ := hr
            rcases g6 k t hk12 ht with ⟨q, -⟩ | ⟨-, q, -⟩ | ⟨-, -, cA, q1, q3, q2⟩
            · omega
            · omega
            · rcases g6 v tv hv12 htv with ⟨-, r', w1, cellV, w2, w3, w4, -⟩ | ⟨q, -⟩ | ⟨q, -⟩
              · have hr9 : r' = r := by
                  rw [htvc] at w1
                  exact Option.some.inj (w1.symm.trans hc)
                subst hr9
                rw [htvc] at w3
                have hcls := (cx.2.2.2.2.2.1.1.1 ci _ hc).2
                rw [htag, hC] at q3
                obtain ⟨kA, comp, k1, k2, k3, k4⟩ := q3
                have hcomp : comp = D.1 ci := Option.some.inj (k3.symm.trans hcls.1)
                subst hcomp
                have hasg := va_assign hcls
                obtain ⟨kC, hkC, -⟩ := hcls.2
                refine W.aast cx.1 cx.2.1 q2 (fun q h => by cases h) (fun h => by cases h) k1 k2 rfl hkC ⟨fun q => hin (Or.inl q), by rw [arrV_size]; exact am_nlt2 hin⟩ w2 (fun q h => by rw [w4] at h; cases h) (by rw [w3]; exact hkC) (by rw [w3]; exact hasg) rfl rfl hd fun H1 e1 z oq => ?_
                have hrel : am_rel D ad b0 Hb s (h.1, h.2.1, am_upR h.2.2 k i.toNatClampNeg (some v)) H1 := by
                  refine am_rel.put cx.2.2.2.2.2.2.2.2.2.2.2 hrr hk12 ht rfl (fun _ _ => rfl) (fun k' hk' => am_upR_ne _ _ _ hk') z oq (Or.inr (Or.inr ⟨by omega, by omega, cA, q1, ?_, ?_⟩))
                  · rw [htag, hC]
                    exact ⟨kA, D.1 ci, k1, k2, k3, k4⟩
                  · show H1[ad k]? = some (arrV cA t.2 (fun j => va_rf ((am_upR h.2.2 k i.toNatClampNeg (some v) k j).map ad)))
                    rw [e1, arrV_store, am_updV_ref, am_upR_self]
                exact am_w0 rfl (kk H1 _ ls hl hrel (am_locs (a := ad k) (i := i.toNatClampNeg) hlo (by rw [cx.2.2.2.2.2.2.2.2.2.2.2 k hk12]; omega)))
              · omega
              · omega
        · cases e
      · cases e
    · cases e
def am_cls (ci : Nat) (C : String) (T : u_T) (N : Nat) : Prop := vwCl[ci]? = some (C, T, N) ∧ ci < 11 ∧ (∀ w ∈ u_ws C T N, w ∈ am_tb) ∧ (∀ k, k < N → parseFieldDescriptor (T k).2.2.1 = some (am_tyT ci k)) ∧ ∀ a, a < N → ∀ b, b < N → a ≠ b → (T a).2.1 ≠ (T b).2.1
/-- a field of one of our objects -/
theorem am_getf {p : Program} {e : Env} {s : State} {m : MethodId} {args : Array Value} {below : List Frame} {meth : Method} {c : Code} {R : Room} {H : Heap} {locs : List Loc} {cells slots : Nat} {ls : Array Slot} {Q : State → Prop} {h : am_H} {k j ci N index : Nat} {C : String} {T : u_T} {rest : List Value} (hcl : am_cls ci C T N) (hj : j < N) (cx : am_cx D ad b0 Hb p s m args meth c R y cc nL ret) (hr : am_rel D ad b0 Hb s h H) {t : Nat × Nat} (ht : h.1[k]? = some t) (hci : t.1 = ci) (hw : Cond.fieldLink y.cls index (T j).1 (T j).2.1 (T j).2.2.1 ∈ am_tb) (hd : decode cc pc = .ok (.getfield index, 3))
    (kk : W p l e R s m args below meth c H locs cells slots Q (F0 m (pc + 3) ls (am_fv ad (am_tyT ci j) (h.2.1 k j) (h.2.2 k j) :: rest))) : W p l e R s m args below meth c H locs cells slots Q (F0 m pc ls (.ref (ad k) :: rest)) := by
  obtain ⟨hc, hlt, hin, hty, hnm⟩ := hcl
  obtain ⟨hx, hb, -, hown, hts, hU, -⟩ := cx
  subst hci
  have hnew : am_new D ad s H k t (h.2.1 k) (h.2.2 k) := by
    by_cases hk : k < 12
    · rcases hr.2.2.2.2.1 k t hk ht with ⟨q, -⟩ | ⟨q, -⟩ <;> omega
    · exact hr.2.2.2.2.2 k t (by omega) ht
  rcases hnew with ⟨-, r, w1, cell, q1, q2, q3, q4⟩ | ⟨q, -⟩ | ⟨q, -⟩
  · have hr9 : r = (C, T, N) := Option.some.inj (w1.symm.trans hc)
    subst hr9
    obtain ⟨hS, hfc, kC, hkC, hkind⟩ := hU.1.1 t.1 _ hc
    obtain ⟨cf, kf, fi, f, hi, hsl⟩ := hS j hj
    refine W.getf hx hb hown (hts _ hw) hi (u_facts hfc hkC (u_lays hts hin hj) hi).1 q1 (by rw [q3]; exact fun h => by cases h) (v := am_fv ad (am_tyT t.1 j) (h.2.1 k j) (h.2.2 k j)) ?_ rfl rfl hd kk
    rw [hsl, q4 j hj]
  · omega
  · omega
theorem ok_getI {ci j N index : Nat} {C : String} {T : u_T} (hcl : am_cls ci C T N) (hj : j < N) (hR : am_isR (am_tyT ci j) = false) (hd : decode cc pc = .ok (.getfield index, 3)) (hw : Cond.fieldLink y.cls index (T j).1 (T j).2.1 (T j).2.2.1 ∈ am_tb) (hn : pc + 3 = nx) : am_ok l D ad b0 Hb I y cc nL ret pc (o_getI ci j nx) := by
  subst hn
  refine am_mkS (fun L S h v => ?_) (fun L S h pc' L' S' h' e => ?_)
  · unfold o_getI am_nx; split <;> (try split) <;> (try split) <;> simp
  · unfold o_getI am_nx at e
    split at e
    · rename_i k S0
      split at e
      · rename_i t ht
        split at e
        · rename_i htag
          cases e
          refine ⟨rfl, fun p e s m args below meth c R cx H locs cells slots ls Q hl hr kk => am_getf hcl hj cx hr ht htag hw hd ?_⟩
          have e9 : am_fv ad (am_tyT ci j) (h.2.1 k j) (h.2.2 k j) = .int (h.2.1 k j) := by simp [am_fv, hR]
          rw [e9]
          exact kk ls hl
        · cases e
      · cases e
    · cases e
theorem ok_getR {ci j N index : Nat} {C : String} {T : u_T} (hcl : am_cls ci C T N) (hj : j < N) (hR : am_isR (am_tyT ci j) = true) (hd : decode cc pc = .ok (.getfield index, 3)) (hw : Cond.fieldLink y.cls index (T j).1 (T j).2.1 (T j).2.2.1 ∈ am_tb) (hn : pc + 3 = nx) : am_ok l D ad b0 Hb I y cc nL ret pc (o_getR ci j nx) := by
  subst hn
  refine am_mkS (fun L S h v => ?_) (fun L S h pc' L' S' h' e => ?_)
  · unfold o_getR am_nx; split <;> (try split) <;> (try split) <;> (try split) <;> simp
  · unfold o_getR am_nx at e
    split at e
    · rename_i k S0
      split at e
      · rename_i t ht
        split at e
        · rename_i htag
          split at e
          · rename_i a ha
            cases e
            refine ⟨rfl, fun p e s m args below meth c R cx H locs cells slots ls Q hl hr kk => am_getf hcl hj cx hr ht htag hw hd ?_⟩
            have e9 : am_fv ad (am_tyT ci j) (h.2.1 k j) (h.2.2 k j) = .ref (ad a) := by simp [am_fv, hR, ha, va_rf]
            rw [e9]
            exact kk ls hl
          · cases e
        · cases e
      · cases e
    · cases e
/-- the two fields of a String -/
theorem am_getS {p : Program} {e : Env} {s : State} {m : MethodId} {args : Array Value} {below : List Frame} {meth : Method} {c : Code} {R : Room} {H : Heap} {locs : List Loc} {cells slots : Nat} {ls : Array Slot} {Q : State → Prop} {h : am_H} {k index : Nat} {n d : String} {v : Value} {rest : List Value} (cx : am_cx D ad b0 Hb p s m args meth c R y cc nL ret) (hr : am_rel D ad b0 Hb s h H) (hF : va_OF "java/lang/String" n d v (ad k) (fun q => b0 ≤ q) s Hb) (hw : Cond.fieldLink y.cls index "java/lang/String" n d ∈ am_tb) (hd : decode cc pc = .ok (.getfield index, 3))
    (kk : W p l e R s m args below meth c H locs cells slots Q (F0 m (pc + 3) ls (v :: rest))) : W p l e R s m args below meth c H locs cells slots Q (F0 m pc ls (.ref (ad k) :: rest)) := by
  obtain ⟨hx, hb, -, hown, hts, hU, -⟩ := cx
  obtain ⟨cf, kf, fi, f, cell, h1, h2, h3, h4, h5, h6⟩ := hF
  have hb0 : ad k < b0 := Nat.not_le.mp h6
  exact W.getf hx hb hown (hts _ hw) h1 h2 (by rw [hr.2.1 _ hb0]; exact h3) h4 (v := v) h5 rfl rfl hd kk
theorem ok_getSI {index : Nat} (hd : decode cc pc = .ok (.getfield index, 3)) (hw : Cond.fieldLink y.cls index "java/lang/String" "coder" "B" ∈ am_tb) (hn : pc + 3 = nx) : am_ok l D ad b0 Hb I y cc nL ret pc (o_getI 12 1 nx) := by
  subst hn
  refine am_mkS (fun L S h v => ?_) (fun L S h pc' L' S' h' e => ?_)
  · unfold o_getI am_nx; split <;> (try split) <;> (try split) <;> simp
  · unfold o_getI am_nx at e
    split at e
    · rename_i k S0
      split at e
      · rename_i t ht
        split at e
        · rename_i htag
          cases e
          refine ⟨rfl, fun p e s m args below meth c R cx H locs cells slots ls Q hl hr kk => ?_⟩
          by_cases hk : k < 12
          · rcases hr.2.2.2.2.1 k t hk ht with ⟨-, -, -, q⟩ | ⟨q, -⟩
            · exact am_getS cx hr q hw hd (kk ls hl)
            · omega
          · rcases hr.2.2.2.2.2 k t (Nat.not_lt.mp hk) ht with ⟨q, -⟩ | ⟨q, -⟩ | ⟨q, -⟩ <;> omega
        · cases e
      · cases e
    · cases e
theorem ok_getSR {index : Nat} (hd : decode cc pc = .ok (.getfield index, 3)) (hw : Cond.fieldLink y.cls index "java/lang/String" "value" "[B" ∈ am_tb) (hn : pc + 3 = nx) : am_ok l D ad b0 Hb I y cc nL ret pc (o_getR 12 0 nx) := by
  subst hn
  refine am_mkS (fun L S h v => ?_) (fun L S h pc' L' S' h' e => ?_)
  · unfold o_getR am_nx; split <;> (try split) <;> (try split) <;> (try split) <;> simp
  · unfold o_getR am_nx at e
    split at e
    · rename_i k S0
      split at e
      · rename_i t ht
        split at e
        · rename_i htag
          split at e
          · rename_i a ha
            cases e
            refine ⟨rfl, fun p e s m args below meth c R cx H locs cells slots ls Q hl hr kk => ?_⟩
            by_cases hk : k < 12
            · rcases hr.2.2.2.2.1 k t hk ht with ⟨-, -, q, -⟩ | ⟨q, -⟩
              · rw [ha] at q
                exact am_getS cx hr q hw hd (kk ls hl)
              · omega
            · rcases hr.2.2.2.2.2 k t (Nat.not_lt.mp hk) ht with ⟨q, -⟩ | ⟨q, -⟩ | ⟨q, -⟩ <;> omega
          · cases e
        · cases e
      · cases e
    · cases e
/-- a field of one of our objects is written: 'fin': a final one, in its constructor -/
theorem am_putf {p : Program} {e : Env} {s : State} {m : MethodId} {args : Array Value} {below : List Frame} {meth : Method} {c : Code} {R : Room} {H : Heap} {locs : List Loc} {cells slots : Nat} {ls : Array Slot} {Q : State → Prop} {h h' : am_H} {k j ci N index : Nat} {C : String} {T : u_T} {v : Value} {rest : List Value} (hcl : am_cls ci C T N) (hj : j < N) (cx : am_cx D ad b0 Hb p s m args meth c R y cc nL ret) (hr : am_rel D ad b0 Hb s h H) (hlo : ∀ q ∈ locs, b0 ≤ q.base) (hk : 12 ≤ k) {t : Nat × Nat} (ht : h.1[k]? = some t) (hci : t.1 = ci) (hw : Cond.fieldLink y.cls index (T j).1 (T j).2.1 (T j).2.2.1 ∈ am_tb) (hd : decode cc pc = .ok (.putfield index, 3))
    (hfin : (T j).2.2.2 = false ∨ ((T j).2.2.2 = true ∧ y.name = "<init>" ∧ (T j).1 = y.cls)) (hnar : narrow (am_tyT ci j) v = v) (hfit : fits (am_tyT ci j) v = true) (e1 : h'.1 = h.1) (e2 : ∀ k', k' ≠ k → h'.2.1 k' = h.2.1 k') (e3 : ∀ k', k' ≠ k → h'.2.2 k' = h.2.2 k') (e4 : ∀ i, updV (fun j => am_fv ad (am_tyT ci j) (h.2.1 k j) (h.2.2 k j)) j v i = am_fv ad (am_tyT ci i) (h'.2.1 k i) (h'.2.2 k i))
    (kk : ∀ (H' : Heap) (locs' : List Loc), am_rel D ad b0 Hb s h' H' → (∀ q ∈ locs', b0 ≤ q.base) → W p l e R s m args below meth c H' locs' cells slots Q (F0 m (pc + 3) ls rest)) : W p l e R s m args below meth c H locs cells slots Q (F0 m pc ls (v :: .ref (ad k) :: rest)) := by
  obtain ⟨hc, hlt, hin, hty, hnm⟩ := hcl
  obtain ⟨hx, hb, -, hown, hts, hU, -, -, hmn, -, -, had⟩ := cx
  subst hci
  have hap := va_apart (own := y.cls) hts hin (am_tyT t.1) hty hnm hU.1 hc
  rcases hr.2.2.2.2.2 k t hk ht with ⟨hl11, r, w1, cell, q1, q2, q3, q4⟩ | ⟨q, -⟩ | ⟨q, -⟩
  · have hr9 : r = (C, T, N) := Option.some.inj (w1.symm.trans hc)
    subst hr9
    obtain ⟨hS, hfc, kC, hkC, hkind⟩ := hU.1.1 t.1 _ hc
    obtain ⟨cf, kf, fi, f, hi, hsl⟩ := hS j hj
    have hst := (u_facts hfc hkC (u_lays hts hin hj) hi).1
    have key : ∀ (H' : Heap), H'[ad k]? = some (cell.setSlot f.slot v) → H'.size = H.size → (∀ q, q ≠ ad k → H'[q]? = H[q]?) → W p l e R s m args below meth c H' (locs ++ [⟨ad k, f.slot⟩]) cells slots Q (F0 m (pc + 3) ls rest) := by
      intro H' g1 g2 g3
      refine kk H' _ (am_rel.put had hr hk ht e1 e2 e3 g2 g3 (Or.inl ⟨hl11, _, hc, ?_⟩)) (am_locs hlo (by rw [had k hk]; omega))
      rw [hsl] at g1
      exact t_OB.to (V := updV (fun j => am_fv ad (am_tyT t.1 j) (h.2.1 k j) (h.2.2 k j)) j v) ⟨_, g1, q2, q3, t_set q4 hap hj v⟩ (fun i _ => e4 i)
    rcases hfin with hfin | ⟨hfin, hin2, hdecl⟩
    · have hlay := hts _ (hin _ (u_in_lay hj))
      unfold u_lay at hlay
      rw [if_neg (by rw [hfin]; decide)] at hlay
      have h6 := u_store hfc hkC hkind hlay hi (hty j hj) hnar hfit
      exact W.putK hx hb (f := f) ⟨hown, hts _ hw, ⟨_, _, _, hi⟩, hst⟩ (by rw [q2]; exact h6) q1 q3 (by rw [hsl]; exact k2_hasslot (q4 j hj)) rfl rfl hd key
    · have hlay := hts _ (hin _ (u_in_lay hj))
      unfold u_lay at hlay
      rw [if_pos hfin] at hlay
      have hcf : m.cls = cf := by
        obtain ⟨_, _, c', _, _, _, -, -, hf', -, -, -, hown2, -⟩ := Cond.laysFinal_spec hlay
        have e1 : c' = cf := by have := hi.symm.trans hf'; simp at this; exact this.1.symm
        rw [hdecl] at hown2
        rw [← e1]; exact Option.some.inj (hown.symm.trans hown2)
      have h6 := u_fits hfc hkC hkind (Or.inr hlay) hi (hty j hj) hnar hfit
      exact W.putFinK hx hb hown (hts _ hw) hi hst hcf (by rw [hmn, hin2]) (by rw [q2]; exact h6) q1 q3 (by rw [hsl]; exact k2_hasslot (q4 j hj)) rfl rfl hd key
  · omega
  · omega
theorem am_updV_fi (ad : Nat → Nat) (ty : Nat → FieldType) (f : Nat → Int32) (g : Nat → Option Nat) (j : Nat) (x : Int32) (hR : am_isR (ty j) = false) (i : Nat) : updV (fun j => am_fv ad (ty j) (f j) (g j)) j (.int x) i = am_fv ad (ty i) (upd f j x i) (g i) := by
  by_cases h : i = j
  · subst h; simp [updV, upd, am_fv, hR]
  · simp [updV, upd, h]
theorem am_updV_fr (ad : Nat → Nat) (ty : Nat → FieldType) (f : Nat → Int32) (g : Nat → Option Nat) (j v : Nat) (hR : am_isR (ty j) = true) (i : Nat) : updV (fun j => am_fv ad (ty j) (f j) (g j)) j (.ref (ad v)) i = am_fv ad (ty i) (f i) (va_up g j (some v) i) := by
  by_cases h : i = j
  · subst h; simp [updV, va_up, am_fv, hR, va_rf]
  · simp [updV, va_up, h]
theorem ok_putI {ci j N index : Nat} {C : String} {T : u_T} (hcl : am_cls ci C T N) (hj : j < N) (hR : am_tyT ci j = .int) (hfin : (T j).2.2.2 = false ∨ ((T j).2.2.2 = true ∧ y.name = "<init>" ∧ (T j).1 = y.cls)) (hd : decode cc pc = .ok (.putfield index, 3)) (hw : Cond.fieldLink y.cls index (T j).1 (T j).2.1 (T j).2.2.1 ∈ am_tb) (hn : pc + 3 = nx) : am_ok l D ad b0 Hb I y cc nL ret pc (o_putI ci j nx) := by
  subst hn
  refine am_mkN (fun L S h v => ?_) (fun L S h pc' L' S' h' e => ?_)
  · unfold o_putI am_nx; split <;> (try split) <;> (try split) <;> simp
  · unfold o_putI am_nx at e
    split at e
    · rename_i x k S0
      split at e
      · rename_i t ht
        split at e
        · rename_i htag
          cases e
          refine ⟨Nat.le_refl _, Nat.le_refl _, fun p e s m args below meth c R cx H locs cells slots ls Q hl hr hlo _ _ kk => am_putf (h' := (h.1, am_up h.2.1 k j x, h.2.2)) (v := .int x) hcl hj cx hr hlo htag.2 ht htag.1 hw hd hfin (by rw [hR]; rfl) (by rw [hR]; rfl) rfl (fun k' hk' => am_up_ne _ _ _ hk') (fun _ _ => rfl) (fun i => ?_) (fun H' locs' hr' hlo' => ?_)⟩
          · show _ = am_fv ad (am_tyT ci i) (am_up h.2.1 k j x k i) (h.2.2 k i)
            rw [am_up_self]
            exact am_updV_fi ad (am_tyT ci) _ _ j x (by rw [hR]; rfl) i
          · exact am_w0 rfl (kk H' locs' ls hl hr' hlo')
        · cases e
      · cases e
    · cases e
theorem ok_putZ {ci j N index : Nat} {C : String} {T : u_T} (hcl : am_cls ci C T N) (hj : j < N) (hR : am_tyT ci j = .boolean) (hfin : (T j).2.2.2 = false ∨ ((T j).2.2.2 = true ∧ y.name = "<init>" ∧ (T j).1 = y.cls)) (hd : decode cc pc = .ok (.putfield index, 3)) (hw : Cond.fieldLink y.cls index (T j).1 (T j).2.1 (T j).2.2.1 ∈ am_tb) (hn : pc + 3 = nx) : am_ok l D ad b0 Hb I y cc nL ret pc (o_putZ ci j nx) := by
  subst hn
  refine am_mkN (fun L S h v => ?_) (fun L S h pc' L' S' h' e => ?_)
  · unfold o_putZ am_nx; split <;> (try split) <;> (try split) <;> simp
  · unfold o_putZ am_nx at e
    split at e
    · rename_i x k S0
      split at e
      · rename_i t ht
        split at e
        · rename_i htag
          cases e
          refine ⟨Nat.le_refl _, Nat.le_refl _, fun p e s m args below meth c R cx H locs cells slots ls Q hl hr hlo _ _ kk => am_putf (h' := (h.1, am_up h.2.1 k j x, h.2.2)) (v := .int x) hcl hj cx hr hlo htag.1.2 ht htag.1.1 hw hd hfin (by rw [hR]; rcases htag.2 with h9 | h9 <;> rw [h9] <;> rfl) (by rw [hR]; rcases htag.2 with h9 | h9 <;> rw [h9] <;> rfl) rfl (fun k' hk' => am_up_ne _ _ _ hk') (fun _ _ => rfl) (fun i => ?_) (fun H' locs' hr' hlo' => ?_)⟩
          · show _ = am_fv ad (am_tyT ci i) (am_up h.2.1 k j x k i) (h.2.2 k i)
            rw [am_up_self]
            exact am_updV_fi ad (am_tyT ci) _ _ j x (by rw [hR]; rfl) i
          · exact am_w0 rfl (kk H' locs' ls hl hr' hlo')
        · cases e
      · cases e
    · cases e
theorem am_refty {ty : FieldType} (hR : am_isR ty = true) (k : Nat) : narrow ty (.ref k) = .ref k ∧ fits ty (.ref k) = true := by
  cases ty <;> simp_all [am_isR, narrow, fits]
theorem ok_putR {ci j N index : Nat} {C : String} {T : u_T} (hcl : am_cls ci C T N) (hj : j < N) (hR : am_isR (am_tyT ci j) = true) (hfin : (T j).2.2.2 = false ∨ ((T j).2.2.2 = true ∧ y.name = "<init>" ∧ (T j).1 = y.cls)) (hd : decode cc pc = .ok (.putfield index, 3)) (hw : Cond.fieldLink y.cls index (T j).1 (T j).2.1 (T j).2.2.1 ∈ am_tb) (hn : pc + 3 = nx) : am_ok l D ad b0 Hb I y cc nL ret pc (o_putR ci j nx) := by
  subst hn
  refine am_mkN (fun L S h v => ?_) (fun L S h pc' L' S' h' e => ?_)
  · unfold o_putR am_nx; split <;> (try split) <;> (try split) <;> simp
  · unfold o_putR am_nx at e
    split at e
    · rename_i x k S0
      split at e
      · rename_i t ht
        split at e
        · rename_i htag
          cases e
          refine ⟨Nat.le_refl _, Nat.le_refl _, fun p e s m args below meth c R cx H locs cells slots ls Q hl hr hlo _ _ kk => am_putf (h' := (h.1, h.2.1, am_upR h.2.2 k j (some x))) (v := .ref (ad x)) hcl hj cx hr hlo htag.2 ht htag.1 hw hd hfin (am_refty hR _).1 (am_refty hR _).2 rfl (fun _ _ => rfl) (fun k' hk' => am_upR_ne _ _ _ hk') (fun i => ?_) (fun H' locs' hr' hlo' => ?_)⟩
          · show _ = am_fv ad (am_tyT ci i) (h.2.1 k i) (am_upR h.2.2 k j (some x) k i)
            rw [am_upR_self]
            exact am_updV_fr ad (am_tyT ci) _ _ j x hR i
          · exact am_w0 rfl (kk H' locs' ls hl hr' hlo')
        · cases e
      · cases e
    · cases e
end AMQ
end
section
theorem zz_last : True := trivial
end
