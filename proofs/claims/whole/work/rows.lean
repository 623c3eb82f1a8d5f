section
-- ===== PART A: goes FIRST, ahead of the names: the tables' words, and 'selects' of the private methods out of them =====
/-- a private method of a class that the tables say can be made, by its rows of tables_1 -/
def lw_okq (q : MethodName × Nat) : Prop := (q.1.cls ≠ "java/lang/invoke/MethodHandle" ∧ q.1.cls ≠ "java/lang/invoke/VarHandle") ∧ Cond.instantiable q.1.cls q.2 ∈ tables_1 ∧ Cond.privateMethod q.1 ∈ tables_1 ∧ Cond.instanceMethod q.1 ∈ tables_1
theorem lw_p0 : lw_okq (⟨"TakenShade$People", "readText", "()V"⟩, 6) := ⟨⟨by decide +kernel, by decide +kernel⟩, List.mem_of_getElem? (i := 25) (by decide +kernel), List.mem_of_getElem? (i := 286) (by decide +kernel), List.mem_of_getElem? (i := 287) (by decide +kernel)⟩
theorem lw_p1 : lw_okq (⟨"TakenShade$People", "findFault", "()I"⟩, 6) := ⟨⟨by decide +kernel, by decide +kernel⟩, List.mem_of_getElem? (i := 25) (by decide +kernel), List.mem_of_getElem? (i := 290) (by decide +kernel), List.mem_of_getElem? (i := 291) (by decide +kernel)⟩
theorem lw_p2 : lw_okq (⟨"TakenShade$Course", "takePicture", "(I)V"⟩, 12) := ⟨⟨by decide +kernel, by decide +kernel⟩, List.mem_of_getElem? (i := 110) (by decide +kernel), List.mem_of_getElem? (i := 434) (by decide +kernel), List.mem_of_getElem? (i := 435) (by decide +kernel)⟩
theorem lw_p3 : lw_okq (⟨"TakenShade$Course", "takeFrom", "(II)I"⟩, 12) := ⟨⟨by decide +kernel, by decide +kernel⟩, List.mem_of_getElem? (i := 110) (by decide +kernel), List.mem_of_getElem? (i := 454) (by decide +kernel), List.mem_of_getElem? (i := 455) (by decide +kernel)⟩
theorem lw_p4 : lw_okq (⟨"TakenShade$Course", "burnPicture", "(I)V"⟩, 12) := ⟨⟨by decide +kernel, by decide +kernel⟩, List.mem_of_getElem? (i := 110) (by decide +kernel), List.mem_of_getElem? (i := 471) (by decide +kernel), List.mem_of_getElem? (i := 472) (by decide +kernel)⟩
theorem lw_p5 : lw_okq (⟨"TakenShade$Course", "giveTo", "(II)V"⟩, 12) := ⟨⟨by decide +kernel, by decide +kernel⟩, List.mem_of_getElem? (i := 110) (by decide +kernel), List.mem_of_getElem? (i := 483) (by decide +kernel), List.mem_of_getElem? (i := 484) (by decide +kernel)⟩
theorem lw_p6 : lw_okq (⟨"TakenShade$Rescue", "offer", "(II)V"⟩, 2) := ⟨⟨by decide +kernel, by decide +kernel⟩, List.mem_of_getElem? (i := 153) (by decide +kernel), List.mem_of_getElem? (i := 575) (by decide +kernel), List.mem_of_getElem? (i := 576) (by decide +kernel)⟩
theorem lw_p7 : lw_okq (⟨"TakenShade$Collectors", "isGain", "(III)Z"⟩, 3) := ⟨⟨by decide +kernel, by decide +kernel⟩, List.mem_of_getElem? (i := 166) (by decide +kernel), List.mem_of_getElem? (i := 618) (by decide +kernel), List.mem_of_getElem? (i := 619) (by decide +kernel)⟩
theorem lw_p8 : lw_okq (⟨"TakenShade$Collectors", "exchange", "(II)V"⟩, 3) := ⟨⟨by decide +kernel, by decide +kernel⟩, List.mem_of_getElem? (i := 166) (by decide +kernel), List.mem_of_getElem? (i := 622) (by decide +kernel), List.mem_of_getElem? (i := 623) (by decide +kernel)⟩
theorem lw_p9 : lw_okq (⟨"TakenShade", "found", "(I)I"⟩, 11) := ⟨⟨by decide +kernel, by decide +kernel⟩, List.mem_of_getElem? (i := 17) (by decide +kernel), List.mem_of_getElem? (i := 667) (by decide +kernel), List.mem_of_getElem? (i := 668) (by decide +kernel)⟩
theorem lw_p10 : lw_okq (⟨"TakenShade$Witness", "agrees", "(LTakenShade$Course;I)Z"⟩, 3) := ⟨⟨by decide +kernel, by decide +kernel⟩, List.mem_of_getElem? (i := 185) (by decide +kernel), List.mem_of_getElem? (i := 695) (by decide +kernel), List.mem_of_getElem? (i := 696) (by decide +kernel)⟩
theorem lw_p11 : lw_okq (⟨"TakenShade$Sheet", "narrow", "(I)I"⟩, 3) := ⟨⟨by decide +kernel, by decide +kernel⟩, List.mem_of_getElem? (i := 221) (by decide +kernel), List.mem_of_getElem? (i := 794) (by decide +kernel), List.mem_of_getElem? (i := 795) (by decide +kernel)⟩
theorem lw_p12 : lw_okq (⟨"TakenShade", "mixPerson", "(JI)J"⟩, 11) := ⟨⟨by decide +kernel, by decide +kernel⟩, List.mem_of_getElem? (i := 17) (by decide +kernel), List.mem_of_getElem? (i := 846) (by decide +kernel), List.mem_of_getElem? (i := 847) (by decide +kernel)⟩
theorem lw_p13 : lw_okq (⟨"TakenShade", "mixYear", "(JI)J"⟩, 11) := ⟨⟨by decide +kernel, by decide +kernel⟩, List.mem_of_getElem? (i := 17) (by decide +kernel), List.mem_of_getElem? (i := 858) (by decide +kernel), List.mem_of_getElem? (i := 859) (by decide +kernel)⟩
theorem lw_p14 : lw_okq (⟨"TakenShadeModel", "finds", "(I)I"⟩, 33) := ⟨⟨by decide +kernel, by decide +kernel⟩, List.mem_of_getElem? (i := 870) (by decide +kernel), List.mem_of_getElem? (i := 988) (by decide +kernel), List.mem_of_getElem? (i := 989) (by decide +kernel)⟩
theorem lw_p15 : lw_okq (⟨"TakenShadeModel", "lacks", "(III)I"⟩, 33) := ⟨⟨by decide +kernel, by decide +kernel⟩, List.mem_of_getElem? (i := 870) (by decide +kernel), List.mem_of_getElem? (i := 1000) (by decide +kernel), List.mem_of_getElem? (i := 1001) (by decide +kernel)⟩
def lw_privs_1 : List (MethodName × Nat) := [(⟨"TakenShade$People", "readText", "()V"⟩, 6), (⟨"TakenShade$People", "findFault", "()I"⟩, 6), (⟨"TakenShade$Course", "takePicture", "(I)V"⟩, 12), (⟨"TakenShade$Course", "takeFrom", "(II)I"⟩, 12), (⟨"TakenShade$Course", "burnPicture", "(I)V"⟩, 12), (⟨"TakenShade$Course", "giveTo", "(II)V"⟩, 12), (⟨"TakenShade$Rescue", "offer", "(II)V"⟩, 2), (⟨"TakenShade$Collectors", "isGain", "(III)Z"⟩, 3), (⟨"TakenShade$Collectors", "exchange", "(II)V"⟩, 3), (⟨"TakenShade", "found", "(I)I"⟩, 11), (⟨"TakenShade$Witness", "agrees", "(LTakenShade$Course;I)Z"⟩, 3), (⟨"TakenShade$Sheet", "narrow", "(I)I"⟩, 3), (⟨"TakenShade", "mixPerson", "(JI)J"⟩, 11), (⟨"TakenShade", "mixYear", "(JI)J"⟩, 11), (⟨"TakenShadeModel", "finds", "(I)I"⟩, 33), (⟨"TakenShadeModel", "lacks", "(III)I"⟩, 33)]
theorem lw_r1 : ∀ q ∈ lw_privs_1, lw_okq q := List.forall_mem_cons.mpr ⟨lw_p0, List.forall_mem_cons.mpr ⟨lw_p1, List.forall_mem_cons.mpr ⟨lw_p2, List.forall_mem_cons.mpr ⟨lw_p3, List.forall_mem_cons.mpr ⟨lw_p4, List.forall_mem_cons.mpr ⟨lw_p5, List.forall_mem_cons.mpr ⟨lw_p6, List.forall_mem_cons.mpr ⟨lw_p7, List.forall_mem_cons.mpr ⟨lw_p8, List.forall_mem_cons.mpr ⟨lw_p9, List.forall_mem_cons.mpr ⟨lw_p10, List.forall_mem_cons.mpr ⟨lw_p11, List.forall_mem_cons.mpr ⟨lw_p12, List.forall_mem_cons.mpr ⟨lw_p13, List.forall_mem_cons.mpr ⟨lw_p14, List.forall_mem_cons.mpr ⟨lw_p15, fun _ h => absurd h List.not_mem_nil⟩⟩⟩⟩⟩⟩⟩⟩⟩⟩⟩⟩⟩⟩⟩⟩
theorem lw_p16 : lw_okq (⟨"TakenShadeModel", "reads", "()I"⟩, 33) := ⟨⟨by decide +kernel, by decide +kernel⟩, List.mem_of_getElem? (i := 870) (by decide +kernel), List.mem_of_getElem? (i := 1033) (by decide +kernel), List.mem_of_getElem? (i := 1034) (by decide +kernel)⟩
theorem lw_p17 : lw_okq (⟨"TakenShadeModel", "readsPerson", "()Z"⟩, 33) := ⟨⟨by decide +kernel, by decide +kernel⟩, List.mem_of_getElem? (i := 870) (by decide +kernel), List.mem_of_getElem? (i := 1037) (by decide +kernel), List.mem_of_getElem? (i := 1038) (by decide +kernel)⟩
theorem lw_p18 : lw_okq (⟨"TakenShadeModel", "isPerson", "(I)Z"⟩, 33) := ⟨⟨by decide +kernel, by decide +kernel⟩, List.mem_of_getElem? (i := 870) (by decide +kernel), List.mem_of_getElem? (i := 1048) (by decide +kernel), List.mem_of_getElem? (i := 1049) (by decide +kernel)⟩
theorem lw_p19 : lw_okq (⟨"TakenShadeModel", "twinOf", "(I)I"⟩, 33) := ⟨⟨by decide +kernel, by decide +kernel⟩, List.mem_of_getElem? (i := 870) (by decide +kernel), List.mem_of_getElem? (i := 1055) (by decide +kernel), List.mem_of_getElem? (i := 1056) (by decide +kernel)⟩
theorem lw_p20 : lw_okq (⟨"TakenShadeModel", "lives", "(I)V"⟩, 33) := ⟨⟨by decide +kernel, by decide +kernel⟩, List.mem_of_getElem? (i := 870) (by decide +kernel), List.mem_of_getElem? (i := 1097) (by decide +kernel), List.mem_of_getElem? (i := 1098) (by decide +kernel)⟩
theorem lw_p21 : lw_okq (⟨"TakenShadeModel", "begins", "()V"⟩, 33) := ⟨⟨by decide +kernel, by decide +kernel⟩, List.mem_of_getElem? (i := 870) (by decide +kernel), List.mem_of_getElem? (i := 1101) (by decide +kernel), List.mem_of_getElem? (i := 1102) (by decide +kernel)⟩
theorem lw_p22 : lw_okq (⟨"TakenShadeModel", "goesOn", "(I)V"⟩, 33) := ⟨⟨by decide +kernel, by decide +kernel⟩, List.mem_of_getElem? (i := 870) (by decide +kernel), List.mem_of_getElem? (i := 1105) (by decide +kernel), List.mem_of_getElem? (i := 1106) (by decide +kernel)⟩
theorem lw_p23 : lw_okq (⟨"TakenShadeModel", "takesAll", "(I)V"⟩, 33) := ⟨⟨by decide +kernel, by decide +kernel⟩, List.mem_of_getElem? (i := 870) (by decide +kernel), List.mem_of_getElem? (i := 1109) (by decide +kernel), List.mem_of_getElem? (i := 1110) (by decide +kernel)⟩
theorem lw_p24 : lw_okq (⟨"TakenShadeModel", "sizeOf", "(I)I"⟩, 33) := ⟨⟨by decide +kernel, by decide +kernel⟩, List.mem_of_getElem? (i := 870) (by decide +kernel), List.mem_of_getElem? (i := 1113) (by decide +kernel), List.mem_of_getElem? (i := 1114) (by decide +kernel)⟩
theorem lw_p25 : lw_okq (⟨"TakenShadeModel", "takes", "(II)I"⟩, 33) := ⟨⟨by decide +kernel, by decide +kernel⟩, List.mem_of_getElem? (i := 870) (by decide +kernel), List.mem_of_getElem? (i := 1117) (by decide +kernel), List.mem_of_getElem? (i := 1118) (by decide +kernel)⟩
theorem lw_p26 : lw_okq (⟨"TakenShadeModel", "lot", "(I)I"⟩, 33) := ⟨⟨by decide +kernel, by decide +kernel⟩, List.mem_of_getElem? (i := 870) (by decide +kernel), List.mem_of_getElem? (i := 1124) (by decide +kernel), List.mem_of_getElem? (i := 1125) (by decide +kernel)⟩
theorem lw_p27 : lw_okq (⟨"TakenShadeModel", "burnsAll", "(I)V"⟩, 33) := ⟨⟨by decide +kernel, by decide +kernel⟩, List.mem_of_getElem? (i := 870) (by decide +kernel), List.mem_of_getElem? (i := 1129) (by decide +kernel), List.mem_of_getElem? (i := 1130) (by decide +kernel)⟩
theorem lw_p28 : lw_okq (⟨"TakenShadeModel", "behindOf", "(II)I"⟩, 33) := ⟨⟨by decide +kernel, by decide +kernel⟩, List.mem_of_getElem? (i := 870) (by decide +kernel), List.mem_of_getElem? (i := 1137) (by decide +kernel), List.mem_of_getElem? (i := 1138) (by decide +kernel)⟩
theorem lw_p29 : lw_okq (⟨"TakenShadeModel", "unseenNow", "()I"⟩, 33) := ⟨⟨by decide +kernel, by decide +kernel⟩, List.mem_of_getElem? (i := 870) (by decide +kernel), List.mem_of_getElem? (i := 1141) (by decide +kernel), List.mem_of_getElem? (i := 1142) (by decide +kernel)⟩
theorem lw_p30 : lw_okq (⟨"TakenShadeModel", "thereNow", "()I"⟩, 33) := ⟨⟨by decide +kernel, by decide +kernel⟩, List.mem_of_getElem? (i := 870) (by decide +kernel), List.mem_of_getElem? (i := 1145) (by decide +kernel), List.mem_of_getElem? (i := 1146) (by decide +kernel)⟩
theorem lw_p31 : lw_okq (⟨"TakenShadeModel", "allNow", "()I"⟩, 33) := ⟨⟨by decide +kernel, by decide +kernel⟩, List.mem_of_getElem? (i := 870) (by decide +kernel), List.mem_of_getElem? (i := 1149) (by decide +kernel), List.mem_of_getElem? (i := 1150) (by decide +kernel)⟩
def lw_privs_2 : List (MethodName × Nat) := [(⟨"TakenShadeModel", "reads", "()I"⟩, 33), (⟨"TakenShadeModel", "readsPerson", "()Z"⟩, 33), (⟨"TakenShadeModel", "isPerson", "(I)Z"⟩, 33), (⟨"TakenShadeModel", "twinOf", "(I)I"⟩, 33), (⟨"TakenShadeModel", "lives", "(I)V"⟩, 33), (⟨"TakenShadeModel", "begins", "()V"⟩, 33), (⟨"TakenShadeModel", "goesOn", "(I)V"⟩, 33), (⟨"TakenShadeModel", "takesAll", "(I)V"⟩, 33), (⟨"TakenShadeModel", "sizeOf", "(I)I"⟩, 33), (⟨"TakenShadeModel", "takes", "(II)I"⟩, 33), (⟨"TakenShadeModel", "lot", "(I)I"⟩, 33), (⟨"TakenShadeModel", "burnsAll", "(I)V"⟩, 33), (⟨"TakenShadeModel", "behindOf", "(II)I"⟩, 33), (⟨"TakenShadeModel", "unseenNow", "()I"⟩, 33), (⟨"TakenShadeModel", "thereNow", "()I"⟩, 33), (⟨"TakenShadeModel", "allNow", "()I"⟩, 33)]
theorem lw_r2 : ∀ q ∈ lw_privs_2, lw_okq q := List.forall_mem_cons.mpr ⟨lw_p16, List.forall_mem_cons.mpr ⟨lw_p17, List.forall_mem_cons.mpr ⟨lw_p18, List.forall_mem_cons.mpr ⟨lw_p19, List.forall_mem_cons.mpr ⟨lw_p20, List.forall_mem_cons.mpr ⟨lw_p21, List.forall_mem_cons.mpr ⟨lw_p22, List.forall_mem_cons.mpr ⟨lw_p23, List.forall_mem_cons.mpr ⟨lw_p24, List.forall_mem_cons.mpr ⟨lw_p25, List.forall_mem_cons.mpr ⟨lw_p26, List.forall_mem_cons.mpr ⟨lw_p27, List.forall_mem_cons.mpr ⟨lw_p28, List.forall_mem_cons.mpr ⟨lw_p29, List.forall_mem_cons.mpr ⟨lw_p30, List.forall_mem_cons.mpr ⟨lw_p31, fun _ h => absurd h List.not_mem_nil⟩⟩⟩⟩⟩⟩⟩⟩⟩⟩⟩⟩⟩⟩⟩⟩
theorem lw_p32 : lw_okq (⟨"TakenShadeModel", "holds", "(I)I"⟩, 33) := ⟨⟨by decide +kernel, by decide +kernel⟩, List.mem_of_getElem? (i := 870) (by decide +kernel), List.mem_of_getElem? (i := 1153) (by decide +kernel), List.mem_of_getElem? (i := 1154) (by decide +kernel)⟩
theorem lw_p33 : lw_okq (⟨"TakenShadeModel", "drawerOf", "(II)I"⟩, 33) := ⟨⟨by decide +kernel, by decide +kernel⟩, List.mem_of_getElem? (i := 870) (by decide +kernel), List.mem_of_getElem? (i := 1161) (by decide +kernel), List.mem_of_getElem? (i := 1162) (by decide +kernel)⟩
theorem lw_p34 : lw_okq (⟨"TakenShadeModel", "tookOf", "(II)I"⟩, 33) := ⟨⟨by decide +kernel, by decide +kernel⟩, List.mem_of_getElem? (i := 870) (by decide +kernel), List.mem_of_getElem? (i := 1169) (by decide +kernel), List.mem_of_getElem? (i := 1170) (by decide +kernel)⟩
theorem lw_p35 : lw_okq (⟨"TakenShadeModel", "unseenOf", "(I)I"⟩, 33) := ⟨⟨by decide +kernel, by decide +kernel⟩, List.mem_of_getElem? (i := 870) (by decide +kernel), List.mem_of_getElem? (i := 1177) (by decide +kernel), List.mem_of_getElem? (i := 1178) (by decide +kernel)⟩
theorem lw_p36 : lw_okq (⟨"TakenShadeModel", "wholeOf", "(IIIII)I"⟩, 33) := ⟨⟨by decide +kernel, by decide +kernel⟩, List.mem_of_getElem? (i := 870) (by decide +kernel), List.mem_of_getElem? (i := 1188) (by decide +kernel), List.mem_of_getElem? (i := 1189) (by decide +kernel)⟩
theorem lw_p37 : lw_okq (⟨"TakenShadeModel", "findWhole", "(IIII)V"⟩, 33) := ⟨⟨by decide +kernel, by decide +kernel⟩, List.mem_of_getElem? (i := 870) (by decide +kernel), List.mem_of_getElem? (i := 1192) (by decide +kernel), List.mem_of_getElem? (i := 1193) (by decide +kernel)⟩
theorem lw_p38 : lw_okq (⟨"TakenShadeModel", "backTo", "(II)I"⟩, 33) := ⟨⟨by decide +kernel, by decide +kernel⟩, List.mem_of_getElem? (i := 870) (by decide +kernel), List.mem_of_getElem? (i := 1196) (by decide +kernel), List.mem_of_getElem? (i := 1197) (by decide +kernel)⟩
theorem lw_p39 : lw_okq (⟨"TakenShadeModel", "feastOf", "(II)I"⟩, 33) := ⟨⟨by decide +kernel, by decide +kernel⟩, List.mem_of_getElem? (i := 870) (by decide +kernel), List.mem_of_getElem? (i := 1207) (by decide +kernel), List.mem_of_getElem? (i := 1208) (by decide +kernel)⟩
theorem lw_p40 : lw_okq (⟨"TakenShadeModel", "spyOf", "(III)I"⟩, 33) := ⟨⟨by decide +kernel, by decide +kernel⟩, List.mem_of_getElem? (i := 870) (by decide +kernel), List.mem_of_getElem? (i := 1215) (by decide +kernel), List.mem_of_getElem? (i := 1216) (by decide +kernel)⟩
theorem lw_p41 : lw_okq (⟨"TakenShadeModel", "swapOf", "(II)I"⟩, 33) := ⟨⟨by decide +kernel, by decide +kernel⟩, List.mem_of_getElem? (i := 870) (by decide +kernel), List.mem_of_getElem? (i := 1223) (by decide +kernel), List.mem_of_getElem? (i := 1224) (by decide +kernel)⟩
theorem lw_p42 : lw_okq (⟨"TakenShadeModel", "findSwap", "(I)V"⟩, 33) := ⟨⟨by decide +kernel, by decide +kernel⟩, List.mem_of_getElem? (i := 870) (by decide +kernel), List.mem_of_getElem? (i := 1227) (by decide +kernel), List.mem_of_getElem? (i := 1228) (by decide +kernel)⟩
theorem lw_p43 : lw_okq (⟨"TakenShadeModel", "gains", "(II)Z"⟩, 33) := ⟨⟨by decide +kernel, by decide +kernel⟩, List.mem_of_getElem? (i := 870) (by decide +kernel), List.mem_of_getElem? (i := 1231) (by decide +kernel), List.mem_of_getElem? (i := 1232) (by decide +kernel)⟩
theorem lw_p44 : lw_okq (⟨"TakenShadeModel", "isWanted", "(II)Z"⟩, 33) := ⟨⟨by decide +kernel, by decide +kernel⟩, List.mem_of_getElem? (i := 870) (by decide +kernel), List.mem_of_getElem? (i := 1235) (by decide +kernel), List.mem_of_getElem? (i := 1236) (by decide +kernel)⟩
theorem lw_p45 : lw_okq (⟨"TakenShadeModel", "neverNow", "()I"⟩, 33) := ⟨⟨by decide +kernel, by decide +kernel⟩, List.mem_of_getElem? (i := 870) (by decide +kernel), List.mem_of_getElem? (i := 1256) (by decide +kernel), List.mem_of_getElem? (i := 1257) (by decide +kernel)⟩
theorem lw_p46 : lw_okq (⟨"TakenShadeModel", "isSeen", "(II)Z"⟩, 33) := ⟨⟨by decide +kernel, by decide +kernel⟩, List.mem_of_getElem? (i := 870) (by decide +kernel), List.mem_of_getElem? (i := 1260) (by decide +kernel), List.mem_of_getElem? (i := 1261) (by decide +kernel)⟩
theorem lw_p47 : lw_okq (⟨"TakenShadeModel", "sizesOf", "(I)I"⟩, 33) := ⟨⟨by decide +kernel, by decide +kernel⟩, List.mem_of_getElem? (i := 870) (by decide +kernel), List.mem_of_getElem? (i := 1268) (by decide +kernel), List.mem_of_getElem? (i := 1269) (by decide +kernel)⟩
def lw_privs_3 : List (MethodName × Nat) := [(⟨"TakenShadeModel", "holds", "(I)I"⟩, 33), (⟨"TakenShadeModel", "drawerOf", "(II)I"⟩, 33), (⟨"TakenShadeModel", "tookOf", "(II)I"⟩, 33), (⟨"TakenShadeModel", "unseenOf", "(I)I"⟩, 33), (⟨"TakenShadeModel", "wholeOf", "(IIIII)I"⟩, 33), (⟨"TakenShadeModel", "findWhole", "(IIII)V"⟩, 33), (⟨"TakenShadeModel", "backTo", "(II)I"⟩, 33), (⟨"TakenShadeModel", "feastOf", "(II)I"⟩, 33), (⟨"TakenShadeModel", "spyOf", "(III)I"⟩, 33), (⟨"TakenShadeModel", "swapOf", "(II)I"⟩, 33), (⟨"TakenShadeModel", "findSwap", "(I)V"⟩, 33), (⟨"TakenShadeModel", "gains", "(II)Z"⟩, 33), (⟨"TakenShadeModel", "isWanted", "(II)Z"⟩, 33), (⟨"TakenShadeModel", "neverNow", "()I"⟩, 33), (⟨"TakenShadeModel", "isSeen", "(II)Z"⟩, 33), (⟨"TakenShadeModel", "sizesOf", "(I)I"⟩, 33)]
theorem lw_r3 : ∀ q ∈ lw_privs_3, lw_okq q := List.forall_mem_cons.mpr ⟨lw_p32, List.forall_mem_cons.mpr ⟨lw_p33, List.forall_mem_cons.mpr ⟨lw_p34, List.forall_mem_cons.mpr ⟨lw_p35, List.forall_mem_cons.mpr ⟨lw_p36, List.forall_mem_cons.mpr ⟨lw_p37, List.forall_mem_cons.mpr ⟨lw_p38, List.forall_mem_cons.mpr ⟨lw_p39, List.forall_mem_cons.mpr ⟨lw_p40, List.forall_mem_cons.mpr ⟨lw_p41, List.forall_mem_cons.mpr ⟨lw_p42, List.forall_mem_cons.mpr ⟨lw_p43, List.forall_mem_cons.mpr ⟨lw_p44, List.forall_mem_cons.mpr ⟨lw_p45, List.forall_mem_cons.mpr ⟨lw_p46, List.forall_mem_cons.mpr ⟨lw_p47, fun _ h => absurd h List.not_mem_nil⟩⟩⟩⟩⟩⟩⟩⟩⟩⟩⟩⟩⟩⟩⟩⟩
theorem lw_p48 : lw_okq (⟨"TakenShadeModel", "shotsOf", "(IIIIII)J"⟩, 33) := ⟨⟨by decide +kernel, by decide +kernel⟩, List.mem_of_getElem? (i := 870) (by decide +kernel), List.mem_of_getElem? (i := 1293) (by decide +kernel), List.mem_of_getElem? (i := 1294) (by decide +kernel)⟩
theorem lw_p49 : lw_okq (⟨"TakenShadeModel", "platesOf", "(III)I"⟩, 33) := ⟨⟨by decide +kernel, by decide +kernel⟩, List.mem_of_getElem? (i := 870) (by decide +kernel), List.mem_of_getElem? (i := 1311) (by decide +kernel), List.mem_of_getElem? (i := 1312) (by decide +kernel)⟩
theorem lw_p50 : lw_okq (⟨"TakenShadeModel", "tellsPerson", "(JI)J"⟩, 33) := ⟨⟨by decide +kernel, by decide +kernel⟩, List.mem_of_getElem? (i := 870) (by decide +kernel), List.mem_of_getElem? (i := 1330) (by decide +kernel), List.mem_of_getElem? (i := 1331) (by decide +kernel)⟩
def lw_privs_4 : List (MethodName × Nat) := [(⟨"TakenShadeModel", "shotsOf", "(IIIIII)J"⟩, 33), (⟨"TakenShadeModel", "platesOf", "(III)I"⟩, 33), (⟨"TakenShadeModel", "tellsPerson", "(JI)J"⟩, 33)]
theorem lw_r4 : ∀ q ∈ lw_privs_4, lw_okq q := List.forall_mem_cons.mpr ⟨lw_p48, List.forall_mem_cons.mpr ⟨lw_p49, List.forall_mem_cons.mpr ⟨lw_p50, fun _ h => absurd h List.not_mem_nil⟩⟩⟩
def lw_privs : List (MethodName × Nat) := lw_privs_1 ++ (lw_privs_2 ++ (lw_privs_3 ++ (lw_privs_4)))
def lw_tbl : List Cond := k2_sels lw_privs ++ tables_1
theorem lw_privs_ok : ∀ q ∈ lw_privs, lw_okq q := by
  show ∀ q ∈ lw_privs_1 ++ (lw_privs_2 ++ (lw_privs_3 ++ (lw_privs_4))), lw_okq q
  exact List.forall_mem_append.mpr ⟨lw_r1, List.forall_mem_append.mpr ⟨lw_r2, List.forall_mem_append.mpr ⟨lw_r3, lw_r4⟩⟩⟩
end
section
def RX0 : String := "TakenShade$Burnings"
def TX0 : u_T := fun k => match k with
  | 0 => ("TakenShade$Burnings", "roll", "LTakenShade$Roll;", true)
  | _ => ("TakenShade$Burnings", "burnt", "[I", true)
def tyX0 : Nat → FieldType := fun k => match k with
  | 0 => .object "TakenShade$Roll"
  | _ => .array .int
theorem nmX0 : ∀ a, a < 2 → ∀ b, b < 2 → a ≠ b → (TX0 a).2.1 ≠ (TX0 b).2.1 := by decide +kernel
theorem tyX0_ok : ∀ k, k < 2 → parseFieldDescriptor (TX0 k).2.2.1 = some (tyX0 k) := by decide +kernel
abbrev cX0_init : ByteArray := prog_2_method_1_code
def yX0_init : MethodName := ⟨RX0, "<init>", "()V"⟩
abbrev cX0_howMany : ByteArray := prog_2_method_2_code
def yX0_howMany : MethodName := ⟨RX0, "howMany", "()I"⟩
abbrev cX0_add : ByteArray := prog_2_method_3_code
def yX0_add : MethodName := ⟨RX0, "add", "(II)Z"⟩
abbrev cX0_pictureOf : ByteArray := prog_2_method_4_code
def yX0_pictureOf : MethodName := ⟨RX0, "pictureOf", "(I)I"⟩
def RX1 : String := "TakenShade$Chance"
def TX1 : u_T := fun k => match k with
  | 0 => ("TakenShade$Chance", "ways", "[J", true)
  | 1 => ("TakenShade$Chance", "above", "J", false)
  | _ => ("TakenShade$Chance", "below", "J", false)
def tyX1 : Nat → FieldType := fun k => match k with
  | 0 => .array .long
  | 1 => .long
  | _ => .long
theorem nmX1 : ∀ a, a < 3 → ∀ b, b < 3 → a ≠ b → (TX1 a).2.1 ≠ (TX1 b).2.1 := by decide +kernel
theorem tyX1_ok : ∀ k, k < 3 → parseFieldDescriptor (TX1 k).2.2.1 = some (tyX1 k) := by decide +kernel
abbrev cX1_init : ByteArray := prog_3_method_1_code
def yX1_init : MethodName := ⟨RX1, "<init>", "()V"⟩
abbrev cX1_countWays : ByteArray := prog_3_method_2_code
def yX1_countWays : MethodName := ⟨RX1, "countWays", "(II)V"⟩
abbrev cX1_weighUnseen : ByteArray := prog_3_method_3_code
def yX1_weighUnseen : MethodName := ⟨RX1, "weighUnseen", "(IIII)V"⟩
abbrev cX1_above : ByteArray := prog_3_method_4_code
def yX1_above : MethodName := ⟨RX1, "above", "()J"⟩
abbrev cX1_below : ByteArray := prog_3_method_5_code
def yX1_below : MethodName := ⟨RX1, "below", "()J"⟩
def RX2 : String := "TakenShade$Collectors"
def TX2 : u_T := fun k => match k with
  | 0 => ("TakenShade$Collectors", "wants", "[I", true)
  | 1 => ("TakenShade$Collectors", "persons", "[I", true)
  | _ => ("TakenShade$Collectors", "owners", "[I", true)
def tyX2 : Nat → FieldType := fun k => match k with
  | 0 => .array .int
  | 1 => .array .int
  | _ => .array .int
theorem nmX2 : ∀ a, a < 3 → ∀ b, b < 3 → a ≠ b → (TX2 a).2.1 ≠ (TX2 b).2.1 := by decide +kernel
theorem tyX2_ok : ∀ k, k < 3 → parseFieldDescriptor (TX2 k).2.2.1 = some (tyX2 k) := by decide +kernel
abbrev cX2_init : ByteArray := prog_4_method_1_code
def yX2_init : MethodName := ⟨RX2, "<init>", "()V"⟩
abbrev cX2_changeWant : ByteArray := prog_4_method_2_code
def yX2_changeWant : MethodName := ⟨RX2, "changeWant", "(II)I"⟩
abbrev cX2_gather : ByteArray := prog_4_method_3_code
def yX2_gather : MethodName := ⟨RX2, "gather", "(LTakenShade$Pictures;I)V"⟩
abbrev cX2_findSwap : ByteArray := prog_4_method_4_code
def yX2_findSwap : MethodName := ⟨RX2, "findSwap", "()I"⟩
abbrev cX2_isGain : ByteArray := prog_4_method_5_code
def yX2_isGain : MethodName := ⟨RX2, "isGain", "(III)Z"⟩
abbrev cX2_swapTillRest : ByteArray := prog_4_method_6_code
def yX2_swapTillRest : MethodName := ⟨RX2, "swapTillRest", "()I"⟩
abbrev cX2_exchange : ByteArray := prog_4_method_7_code
def yX2_exchange : MethodName := ⟨RX2, "exchange", "(II)V"⟩
def RX3 : String := "TakenShade$Course"
def TX3 : u_T := fun k => match k with
  | 0 => ("TakenShade$Course", "people", "LTakenShade$People;", true)
  | 1 => ("TakenShade$Course", "pictures", "LTakenShade$Pictures;", true)
  | 2 => ("TakenShade$Course", "burnings", "LTakenShade$Burnings;", true)
  | 3 => ("TakenShade$Course", "solids", "[I", true)
  | 4 => ("TakenShade$Course", "ofPerson", "[I", true)
  | 5 => ("TakenShade$Course", "ofTwin", "[I", true)
  | 6 => ("TakenShade$Course", "takenBits", "I", false)
  | 7 => ("TakenShade$Course", "burntBits", "I", false)
  | 8 => ("TakenShade$Course", "nextPicture", "I", false)
  | 9 => ("TakenShade$Course", "nextBurning", "I", false)
  | 10 => ("TakenShade$Course", "alteredPicture", "I", false)
  | _ => ("TakenShade$Course", "alteredSize", "I", false)
def tyX3 : Nat → FieldType := fun k => match k with
  | 0 => .object "TakenShade$People"
  | 1 => .object "TakenShade$Pictures"
  | 2 => .object "TakenShade$Burnings"
  | 3 => .array .int
  | 4 => .array .int
  | 5 => .array .int
  | 6 => .int
  | 7 => .int
  | 8 => .int
  | 9 => .int
  | 10 => .int
  | _ => .int
theorem nmX3 : ∀ a, a < 12 → ∀ b, b < 12 → a ≠ b → (TX3 a).2.1 ≠ (TX3 b).2.1 := by decide +kernel
theorem tyX3_ok : ∀ k, k < 12 → parseFieldDescriptor (TX3 k).2.2.1 = some (tyX3 k) := by decide +kernel
abbrev cX3_init : ByteArray := prog_5_method_1_code
def yX3_init : MethodName := ⟨RX3, "<init>", "(LTakenShade$People;LTakenShade$Pictures;LTakenShade$Burnings;)V"⟩
abbrev cX3_begin : ByteArray := prog_5_method_2_code
def yX3_begin : MethodName := ⟨RX3, "begin", "()V"⟩
abbrev cX3_beginAltered : ByteArray := prog_5_method_3_code
def yX3_beginAltered : MethodName := ⟨RX3, "beginAltered", "(II)V"⟩
abbrev cX3_goThrough : ByteArray := prog_5_method_4_code
def yX3_goThrough : MethodName := ⟨RX3, "goThrough", "(I)V"⟩
abbrev cX3_pass : ByteArray := prog_5_method_5_code
def yX3_pass : MethodName := ⟨RX3, "pass", "(I)V"⟩
abbrev cX3_takeAllOf : ByteArray := prog_5_method_6_code
def yX3_takeAllOf : MethodName := ⟨RX3, "takeAllOf", "(I)V"⟩
abbrev cX3_burnAllOf : ByteArray := prog_5_method_7_code
def yX3_burnAllOf : MethodName := ⟨RX3, "burnAllOf", "(I)V"⟩
abbrev cX3_takeUncounted : ByteArray := prog_5_method_8_code
def yX3_takeUncounted : MethodName := ⟨RX3, "takeUncounted", "(II)V"⟩
abbrev cX3_takePicture : ByteArray := prog_5_method_9_code
def yX3_takePicture : MethodName := ⟨RX3, "takePicture", "(I)V"⟩
abbrev cX3_takeFrom : ByteArray := prog_5_method_10_code
def yX3_takeFrom : MethodName := ⟨RX3, "takeFrom", "(II)I"⟩
abbrev cX3_burnPicture : ByteArray := prog_5_method_11_code
def yX3_burnPicture : MethodName := ⟨RX3, "burnPicture", "(I)V"⟩
abbrev cX3_giveTo : ByteArray := prog_5_method_12_code
def yX3_giveTo : MethodName := ⟨RX3, "giveTo", "(II)V"⟩
abbrev cX3_isNumber : ByteArray := prog_5_method_13_code
def yX3_isNumber : MethodName := ⟨RX3, "isNumber", "(I)Z"⟩
abbrev cX3_isThere : ByteArray := prog_5_method_14_code
def yX3_isThere : MethodName := ⟨RX3, "isThere", "(I)Z"⟩
abbrev cX3_thereBits : ByteArray := prog_5_method_15_code
def yX3_thereBits : MethodName := ⟨RX3, "thereBits", "()I"⟩
abbrev cX3_solidOf : ByteArray := prog_5_method_16_code
def yX3_solidOf : MethodName := ⟨RX3, "solidOf", "(I)I"⟩
abbrev cX3_tookOfPerson : ByteArray := prog_5_method_17_code
def yX3_tookOfPerson : MethodName := ⟨RX3, "tookOfPerson", "(I)I"⟩
abbrev cX3_tookOfTwin : ByteArray := prog_5_method_18_code
def yX3_tookOfTwin : MethodName := ⟨RX3, "tookOfTwin", "(I)I"⟩
abbrev cX3_tookOfBoth : ByteArray := prog_5_method_19_code
def yX3_tookOfBoth : MethodName := ⟨RX3, "tookOfBoth", "(I)I"⟩
abbrev cX3_giftTo : ByteArray := prog_5_method_20_code
def yX3_giftTo : MethodName := ⟨RX3, "giftTo", "(II)I"⟩
abbrev cX3_drawerOf : ByteArray := prog_5_method_21_code
def yX3_drawerOf : MethodName := ⟨RX3, "drawerOf", "(I)I"⟩
abbrev cX3_heldBy : ByteArray := prog_5_method_22_code
def yX3_heldBy : MethodName := ⟨RX3, "heldBy", "(I)I"⟩
abbrev cX3_allTogether : ByteArray := prog_5_method_23_code
def yX3_allTogether : MethodName := ⟨RX3, "allTogether", "()I"⟩
abbrev cX3_unseenBits : ByteArray := prog_5_method_24_code
def yX3_unseenBits : MethodName := ⟨RX3, "unseenBits", "(I)I"⟩
def RX4 : String := "TakenShade$People"
def TX4 : u_T := fun k => match k with
  | 0 => ("TakenShade$People", "text", "[I", true)
  | 1 => ("TakenShade$People", "solids", "[I", true)
  | 2 => ("TakenShade$People", "twins", "[I", true)
  | 3 => ("TakenShade$People", "length", "I", false)
  | 4 => ("TakenShade$People", "fault", "I", false)
  | _ => ("TakenShade$People", "persons", "I", false)
def tyX4 : Nat → FieldType := fun k => match k with
  | 0 => .array .int
  | 1 => .array .int
  | 2 => .array .int
  | 3 => .int
  | 4 => .int
  | _ => .int
theorem nmX4 : ∀ a, a < 6 → ∀ b, b < 6 → a ≠ b → (TX4 a).2.1 ≠ (TX4 b).2.1 := by decide +kernel
theorem tyX4_ok : ∀ k, k < 6 → parseFieldDescriptor (TX4 k).2.2.1 = some (tyX4 k) := by decide +kernel
abbrev cX4_init : ByteArray := prog_6_method_1_code
def yX4_init : MethodName := ⟨RX4, "<init>", "()V"⟩
abbrev cX4_length : ByteArray := prog_6_method_2_code
def yX4_length : MethodName := ⟨RX4, "length", "()I"⟩
abbrev cX4_faultPlace : ByteArray := prog_6_method_3_code
def yX4_faultPlace : MethodName := ⟨RX4, "faultPlace", "()I"⟩
abbrev cX4_howMany : ByteArray := prog_6_method_4_code
def yX4_howMany : MethodName := ⟨RX4, "howMany", "()I"⟩
abbrev cX4_has : ByteArray := prog_6_method_5_code
def yX4_has : MethodName := ⟨RX4, "has", "(I)Z"⟩
abbrev cX4_solidAtFirst : ByteArray := prog_6_method_6_code
def yX4_solidAtFirst : MethodName := ⟨RX4, "solidAtFirst", "(I)I"⟩
abbrev cX4_twinOf : ByteArray := prog_6_method_7_code
def yX4_twinOf : MethodName := ⟨RX4, "twinOf", "(I)I"⟩
abbrev cX4_allAtFirst : ByteArray := prog_6_method_8_code
def yX4_allAtFirst : MethodName := ⟨RX4, "allAtFirst", "()I"⟩
abbrev cX4_howManyTwins : ByteArray := prog_6_method_9_code
def yX4_howManyTwins : MethodName := ⟨RX4, "howManyTwins", "()I"⟩
abbrev cX4_append : ByteArray := prog_6_method_10_code
def yX4_append : MethodName := ⟨RX4, "append", "(I)V"⟩
abbrev cX4_cutTo : ByteArray := prog_6_method_11_code
def yX4_cutTo : MethodName := ⟨RX4, "cutTo", "(I)V"⟩
abbrev cX4_readText : ByteArray := prog_6_method_12_code
def yX4_readText : MethodName := ⟨RX4, "readText", "()V"⟩
abbrev cX4_findFault : ByteArray := prog_6_method_13_code
def yX4_findFault : MethodName := ⟨RX4, "findFault", "()I"⟩
abbrev cX4_mayStand : ByteArray := prog_6_method_14_code
def yX4_mayStand : MethodName := ⟨RX4, "mayStand", "(II)Z"⟩
def RX5 : String := "TakenShade$Pictures"
def TX5 : u_T := fun k => match k with
  | 0 => ("TakenShade$Pictures", "roll", "LTakenShade$Roll;", true)
  | 1 => ("TakenShade$Pictures", "persons", "[I", true)
  | 2 => ("TakenShade$Pictures", "sizes", "[I", true)
  | _ => ("TakenShade$Pictures", "drawers", "[I", true)
def tyX5 : Nat → FieldType := fun k => match k with
  | 0 => .object "TakenShade$Roll"
  | 1 => .array .int
  | 2 => .array .int
  | _ => .array .int
theorem nmX5 : ∀ a, a < 4 → ∀ b, b < 4 → a ≠ b → (TX5 a).2.1 ≠ (TX5 b).2.1 := by decide +kernel
theorem tyX5_ok : ∀ k, k < 4 → parseFieldDescriptor (TX5 k).2.2.1 = some (tyX5 k) := by decide +kernel
abbrev cX5_init : ByteArray := prog_7_method_1_code
def yX5_init : MethodName := ⟨RX5, "<init>", "()V"⟩
abbrev cX5_howMany : ByteArray := prog_7_method_2_code
def yX5_howMany : MethodName := ⟨RX5, "howMany", "()I"⟩
abbrev cX5_add : ByteArray := prog_7_method_3_code
def yX5_add : MethodName := ⟨RX5, "add", "(IIII)Z"⟩
abbrev cX5_personOn : ByteArray := prog_7_method_4_code
def yX5_personOn : MethodName := ⟨RX5, "personOn", "(I)I"⟩
abbrev cX5_sizeOf : ByteArray := prog_7_method_5_code
def yX5_sizeOf : MethodName := ⟨RX5, "sizeOf", "(I)I"⟩
abbrev cX5_drawerOf : ByteArray := prog_7_method_6_code
def yX5_drawerOf : MethodName := ⟨RX5, "drawerOf", "(I)I"⟩
abbrev cX5_has : ByteArray := prog_7_method_7_code
def yX5_has : MethodName := ⟨RX5, "has", "(I)Z"⟩
def RX6 : String := "TakenShade$Rescue"
def TX6 : u_T := fun k => match k with
  | 0 => ("TakenShade$Rescue", "leastPrice", "[I", true)
  | _ => ("TakenShade$Rescue", "price", "I", false)
def tyX6 : Nat → FieldType := fun k => match k with
  | 0 => .array .int
  | _ => .int
theorem nmX6 : ∀ a, a < 2 → ∀ b, b < 2 → a ≠ b → (TX6 a).2.1 ≠ (TX6 b).2.1 := by decide +kernel
theorem tyX6_ok : ∀ k, k < 2 → parseFieldDescriptor (TX6 k).2.2.1 = some (tyX6 k) := by decide +kernel
abbrev cX6_init : ByteArray := prog_8_method_1_code
def yX6_init : MethodName := ⟨RX6, "<init>", "()V"⟩
abbrev cX6_plan : ByteArray := prog_8_method_2_code
def yX6_plan : MethodName := ⟨RX6, "plan", "(LTakenShade$Course;III)Z"⟩
abbrev cX6_offer : ByteArray := prog_8_method_3_code
def yX6_offer : MethodName := ⟨RX6, "offer", "(II)V"⟩
abbrev cX6_burntBits : ByteArray := prog_8_method_4_code
def yX6_burntBits : MethodName := ⟨RX6, "burntBits", "()I"⟩
abbrev cX6_loss : ByteArray := prog_8_method_5_code
def yX6_loss : MethodName := ⟨RX6, "loss", "()I"⟩
def RX7 : String := "TakenShade$Roll"
def TX7 : u_T := fun k => match k with
  | 0 => ("TakenShade$Roll", "years", "[I", true)
  | 1 => ("TakenShade$Roll", "order", "[I", true)
  | _ => ("TakenShade$Roll", "many", "I", false)
def tyX7 : Nat → FieldType := fun k => match k with
  | 0 => .array .int
  | 1 => .array .int
  | _ => .int
theorem nmX7 : ∀ a, a < 3 → ∀ b, b < 3 → a ≠ b → (TX7 a).2.1 ≠ (TX7 b).2.1 := by decide +kernel
theorem tyX7_ok : ∀ k, k < 3 → parseFieldDescriptor (TX7 k).2.2.1 = some (tyX7 k) := by decide +kernel
abbrev cX7_init : ByteArray := prog_9_method_1_code
def yX7_init : MethodName := ⟨RX7, "<init>", "(I)V"⟩
abbrev cX7_howMany : ByteArray := prog_9_method_2_code
def yX7_howMany : MethodName := ⟨RX7, "howMany", "()I"⟩
abbrev cX7_isFull : ByteArray := prog_9_method_3_code
def yX7_isFull : MethodName := ⟨RX7, "isFull", "()Z"⟩
abbrev cX7_numberAt : ByteArray := prog_9_method_4_code
def yX7_numberAt : MethodName := ⟨RX7, "numberAt", "(I)I"⟩
abbrev cX7_yearAt : ByteArray := prog_9_method_5_code
def yX7_yearAt : MethodName := ⟨RX7, "yearAt", "(I)I"⟩
abbrev cX7_add : ByteArray := prog_9_method_6_code
def yX7_add : MethodName := ⟨RX7, "add", "(I)V"⟩
abbrev cX7_dropLast : ByteArray := prog_9_method_7_code
def yX7_dropLast : MethodName := ⟨RX7, "dropLast", "()Z"⟩
abbrev cX7_clear : ByteArray := prog_9_method_8_code
def yX7_clear : MethodName := ⟨RX7, "clear", "()V"⟩
def RX8 : String := "TakenShade$Sheet"
def TX8 : u_T := fun k => match k with
  | 0 => ("TakenShade$Sheet", "items", "[I", true)
  | 1 => ("TakenShade$Sheet", "form", "I", false)
  | _ => ("TakenShade$Sheet", "length", "I", false)
def tyX8 : Nat → FieldType := fun k => match k with
  | 0 => .array .int
  | 1 => .int
  | _ => .int
theorem nmX8 : ∀ a, a < 3 → ∀ b, b < 3 → a ≠ b → (TX8 a).2.1 ≠ (TX8 b).2.1 := by decide +kernel
theorem tyX8_ok : ∀ k, k < 3 → parseFieldDescriptor (TX8 k).2.2.1 = some (tyX8 k) := by decide +kernel
abbrev cX8_init : ByteArray := prog_10_method_1_code
def yX8_init : MethodName := ⟨RX8, "<init>", "()V"⟩
abbrev cX8_isLost : ByteArray := prog_10_method_2_code
def yX8_isLost : MethodName := ⟨RX8, "isLost", "()Z"⟩
abbrev cX8_length : ByteArray := prog_10_method_3_code
def yX8_length : MethodName := ⟨RX8, "length", "()I"⟩
abbrev cX8_isLike : ByteArray := prog_10_method_4_code
def yX8_isLike : MethodName := ⟨RX8, "isLike", "(LTakenShade$Sheet;)Z"⟩
abbrev cX8_renew : ByteArray := prog_10_method_5_code
def yX8_renew : MethodName := ⟨RX8, "renew", "(II)V"⟩
abbrev cX8_becomeLost : ByteArray := prog_10_method_6_code
def yX8_becomeLost : MethodName := ⟨RX8, "becomeLost", "()V"⟩
abbrev cX8_troubleWith : ByteArray := prog_10_method_7_code
def yX8_troubleWith : MethodName := ⟨RX8, "troubleWith", "(II)I"⟩
abbrev cX8_hasRun : ByteArray := prog_10_method_8_code
def yX8_hasRun : MethodName := ⟨RX8, "hasRun", "(II)Z"⟩
abbrev cX8_item : ByteArray := prog_10_method_9_code
def yX8_item : MethodName := ⟨RX8, "item", "(I)I"⟩
abbrev cX8_putItem : ByteArray := prog_10_method_10_code
def yX8_putItem : MethodName := ⟨RX8, "putItem", "(II)V"⟩
abbrev cX8_narrow : ByteArray := prog_10_method_11_code
def yX8_narrow : MethodName := ⟨RX8, "narrow", "(I)I"⟩
abbrev cX8_putRun : ByteArray := prog_10_method_12_code
def yX8_putRun : MethodName := ⟨RX8, "putRun", "(ILTakenShade$Sheet;II)V"⟩
def RX9 : String := "TakenShade$Witness"
def TX9 : u_T := fun k => match k with
  | 0 => ("TakenShade$Witness", "roll", "LTakenShade$Roll;", true)
  | 1 => ("TakenShade$Witness", "persons", "[I", true)
  | _ => ("TakenShade$Witness", "solids", "[I", true)
def tyX9 : Nat → FieldType := fun k => match k with
  | 0 => .object "TakenShade$Roll"
  | 1 => .array .int
  | _ => .array .int
theorem nmX9 : ∀ a, a < 3 → ∀ b, b < 3 → a ≠ b → (TX9 a).2.1 ≠ (TX9 b).2.1 := by decide +kernel
theorem tyX9_ok : ∀ k, k < 3 → parseFieldDescriptor (TX9 k).2.2.1 = some (tyX9 k) := by decide +kernel
abbrev cX9_init : ByteArray := prog_11_method_1_code
def yX9_init : MethodName := ⟨RX9, "<init>", "()V"⟩
abbrev cX9_howMany : ByteArray := prog_11_method_2_code
def yX9_howMany : MethodName := ⟨RX9, "howMany", "()I"⟩
abbrev cX9_clear : ByteArray := prog_11_method_3_code
def yX9_clear : MethodName := ⟨RX9, "clear", "()V"⟩
abbrev cX9_add : ByteArray := prog_11_method_4_code
def yX9_add : MethodName := ⟨RX9, "add", "(III)Z"⟩
abbrev cX9_isBorneOut : ByteArray := prog_11_method_5_code
def yX9_isBorneOut : MethodName := ⟨RX9, "isBorneOut", "(LTakenShade$Course;II)Z"⟩
abbrev cX9_agrees : ByteArray := prog_11_method_6_code
def yX9_agrees : MethodName := ⟨RX9, "agrees", "(LTakenShade$Course;I)Z"⟩
def RX10 : String := "TakenShade"
def TX10 : u_T := fun k => match k with
  | 0 => ("TakenShade", "people", "LTakenShade$People;", true)
  | 1 => ("TakenShade", "pictures", "LTakenShade$Pictures;", true)
  | 2 => ("TakenShade", "burnings", "LTakenShade$Burnings;", true)
  | 3 => ("TakenShade", "course", "LTakenShade$Course;", true)
  | 4 => ("TakenShade", "rescue", "LTakenShade$Rescue;", true)
  | 5 => ("TakenShade", "collectors", "LTakenShade$Collectors;", true)
  | 6 => ("TakenShade", "witness", "LTakenShade$Witness;", true)
  | 7 => ("TakenShade", "chance", "LTakenShade$Chance;", true)
  | 8 => ("TakenShade", "sheets", "[LTakenShade$Sheet;", true)
  | 9 => ("TakenShade", "faintness", "I", false)
  | _ => ("TakenShade", "finding", "I", false)
def tyX10 : Nat → FieldType := fun k => match k with
  | 0 => .object "TakenShade$People"
  | 1 => .object "TakenShade$Pictures"
  | 2 => .object "TakenShade$Burnings"
  | 3 => .object "TakenShade$Course"
  | 4 => .object "TakenShade$Rescue"
  | 5 => .object "TakenShade$Collectors"
  | 6 => .object "TakenShade$Witness"
  | 7 => .object "TakenShade$Chance"
  | 8 => .array (.object "TakenShade$Sheet")
  | 9 => .int
  | _ => .int
theorem nmX10 : ∀ a, a < 11 → ∀ b, b < 11 → a ≠ b → (TX10 a).2.1 ≠ (TX10 b).2.1 := by decide +kernel
theorem tyX10_ok : ∀ k, k < 11 → parseFieldDescriptor (TX10 k).2.2.1 = some (tyX10 k) := by decide +kernel
abbrev cX10_init : ByteArray := prog_1_method_1_code
def yX10_init : MethodName := ⟨RX10, "<init>", "()V"⟩
abbrev cX10_type : ByteArray := prog_1_method_2_code
def yX10_type : MethodName := ⟨RX10, "type", "(I)I"⟩
abbrev cX10_wipe : ByteArray := prog_1_method_3_code
def yX10_wipe : MethodName := ⟨RX10, "wipe", "()I"⟩
abbrev cX10_undo : ByteArray := prog_1_method_4_code
def yX10_undo : MethodName := ⟨RX10, "undo", "()I"⟩
abbrev cX10_fault : ByteArray := prog_1_method_5_code
def yX10_fault : MethodName := ⟨RX10, "fault", "()I"⟩
abbrev cX10_person : ByteArray := prog_1_method_6_code
def yX10_person : MethodName := ⟨RX10, "person", "(II)I"⟩
abbrev cX10_picture : ByteArray := prog_1_method_7_code
def yX10_picture : MethodName := ⟨RX10, "picture", "(IIII)I"⟩
abbrev cX10_burn : ByteArray := prog_1_method_8_code
def yX10_burn : MethodName := ⟨RX10, "burn", "(II)I"⟩
abbrev cX10_back : ByteArray := prog_1_method_9_code
def yX10_back : MethodName := ⟨RX10, "back", "(I)I"⟩
abbrev cX10_faint : ByteArray := prog_1_method_10_code
def yX10_faint : MethodName := ⟨RX10, "faint", "(I)I"⟩
abbrev cX10_want : ByteArray := prog_1_method_11_code
def yX10_want : MethodName := ⟨RX10, "want", "(II)I"⟩
abbrev cX10_solid : ByteArray := prog_1_method_12_code
def yX10_solid : MethodName := ⟨RX10, "solid", "(II)I"⟩
abbrev cX10_behind : ByteArray := prog_1_method_13_code
def yX10_behind : MethodName := ⟨RX10, "behind", "(II)I"⟩
abbrev cX10_drawer : ByteArray := prog_1_method_14_code
def yX10_drawer : MethodName := ⟨RX10, "drawer", "(II)I"⟩
abbrev cX10_took : ByteArray := prog_1_method_15_code
def yX10_took : MethodName := ⟨RX10, "took", "(II)I"⟩
abbrev cX10_unseen : ByteArray := prog_1_method_16_code
def yX10_unseen : MethodName := ⟨RX10, "unseen", "(I)I"⟩
abbrev cX10_whole : ByteArray := prog_1_method_17_code
def yX10_whole : MethodName := ⟨RX10, "whole", "(IIIII)I"⟩
abbrev cX10_feast : ByteArray := prog_1_method_18_code
def yX10_feast : MethodName := ⟨RX10, "feast", "(II)I"⟩
abbrev cX10_spy : ByteArray := prog_1_method_19_code
def yX10_spy : MethodName := ⟨RX10, "spy", "(III)I"⟩
abbrev cX10_swap : ByteArray := prog_1_method_20_code
def yX10_swap : MethodName := ⟨RX10, "swap", "(II)I"⟩
abbrev cX10_seen : ByteArray := prog_1_method_21_code
def yX10_seen : MethodName := ⟨RX10, "seen", "(III)I"⟩
abbrev cX10_forget : ByteArray := prog_1_method_22_code
def yX10_forget : MethodName := ⟨RX10, "forget", "()I"⟩
abbrev cX10_read : ByteArray := prog_1_method_23_code
def yX10_read : MethodName := ⟨RX10, "read", "(I)I"⟩
abbrev cX10_never : ByteArray := prog_1_method_24_code
def yX10_never : MethodName := ⟨RX10, "never", "()I"⟩
abbrev cX10_sizes : ByteArray := prog_1_method_25_code
def yX10_sizes : MethodName := ⟨RX10, "sizes", "(I)I"⟩
abbrev cX10_town : ByteArray := prog_1_method_26_code
def yX10_town : MethodName := ⟨RX10, "town", "(III)I"⟩
abbrev cX10_toll : ByteArray := prog_1_method_27_code
def yX10_toll : MethodName := ⟨RX10, "toll", "(II)I"⟩
abbrev cX10_shots : ByteArray := prog_1_method_28_code
def yX10_shots : MethodName := ⟨RX10, "shots", "(IIIIII)J"⟩
abbrev cX10_plates : ByteArray := prog_1_method_29_code
def yX10_plates : MethodName := ⟨RX10, "plates", "(III)I"⟩
abbrev cX10_sheet : ByteArray := prog_1_method_30_code
def yX10_sheet : MethodName := ⟨RX10, "sheet", "(III)I"⟩
abbrev cX10_lose : ByteArray := prog_1_method_31_code
def yX10_lose : MethodName := ⟨RX10, "lose", "(I)I"⟩
abbrev cX10_lay : ByteArray := prog_1_method_32_code
def yX10_lay : MethodName := ⟨RX10, "lay", "(IIII)I"⟩
abbrev cX10_get : ByteArray := prog_1_method_33_code
def yX10_get : MethodName := ⟨RX10, "get", "(III)I"⟩
abbrev cX10_copy : ByteArray := prog_1_method_34_code
def yX10_copy : MethodName := ⟨RX10, "copy", "(IIIII)I"⟩
abbrev cX10_write : ByteArray := prog_1_method_35_code
def yX10_write : MethodName := ⟨RX10, "write", "(II)I"⟩
abbrev cX10_count : ByteArray := prog_1_method_36_code
def yX10_count : MethodName := ⟨RX10, "count", "(I)I"⟩
abbrev cX10_digest : ByteArray := prog_1_method_37_code
def yX10_digest : MethodName := ⟨RX10, "digest", "()J"⟩
abbrev cX10_mixPerson : ByteArray := prog_1_method_38_code
def yX10_mixPerson : MethodName := ⟨RX10, "mixPerson", "(JI)J"⟩
abbrev cX10_mixYear : ByteArray := prog_1_method_39_code
def yX10_mixYear : MethodName := ⟨RX10, "mixYear", "(JI)J"⟩
abbrev cX10_mix : ByteArray := prog_1_method_40_code
def yX10_mix : MethodName := ⟨RX10, "mix", "(JJ)J"⟩
abbrev cX10_found : ByteArray := prog_1_method_41_code
def yX10_found : MethodName := ⟨RX10, "found", "(I)I"⟩
abbrev cX10_lowestOf : ByteArray := prog_1_method_42_code
def yX10_lowestOf : MethodName := ⟨RX10, "lowestOf", "(I)I"⟩
abbrev cX10_isSighting : ByteArray := prog_1_method_43_code
def yX10_isSighting : MethodName := ⟨RX10, "isSighting", "(III)Z"⟩
abbrev cX10_isTown : ByteArray := prog_1_method_44_code
def yX10_isTown : MethodName := ⟨RX10, "isTown", "(II)Z"⟩
abbrev cX10_isYear : ByteArray := prog_1_method_45_code
def yX10_isYear : MethodName := ⟨RX10, "isYear", "(I)Z"⟩
abbrev cX10_isSize : ByteArray := prog_1_method_46_code
def yX10_isSize : MethodName := ⟨RX10, "isSize", "(I)Z"⟩
abbrev cX10_isDrawer : ByteArray := prog_1_method_47_code
def yX10_isDrawer : MethodName := ⟨RX10, "isDrawer", "(I)Z"⟩
abbrev cX10_isSheet : ByteArray := prog_1_method_48_code
def yX10_isSheet : MethodName := ⟨RX10, "isSheet", "(I)Z"⟩
abbrev cX10_isForm : ByteArray := prog_1_method_49_code
def yX10_isForm : MethodName := ⟨RX10, "isForm", "(I)Z"⟩
abbrev cX10_isWithin : ByteArray := prog_1_method_50_code
def yX10_isWithin : MethodName := ⟨RX10, "isWithin", "(III)Z"⟩
abbrev cX10_endOfTown : ByteArray := prog_1_method_51_code
def yX10_endOfTown : MethodName := ⟨RX10, "endOfTown", "(III)I"⟩
abbrev cX10_nextSeed : ByteArray := prog_1_method_52_code
def yX10_nextSeed : MethodName := ⟨RX10, "nextSeed", "(I)I"⟩
abbrev cX10_lotOf : ByteArray := prog_1_method_53_code
def yX10_lotOf : MethodName := ⟨RX10, "lotOf", "(II)I"⟩
def RX11 : String := "TakenShadeModel"
def TX11 : u_T := fun k => match k with
  | 0 => ("TakenShadeModel", "forms", "[I", true)
  | 1 => ("TakenShadeModel", "lengths", "[I", true)
  | 2 => ("TakenShadeModel", "items", "[I", true)
  | 3 => ("TakenShadeModel", "moved", "[I", true)
  | 4 => ("TakenShadeModel", "latest", "I", false)
  | 5 => ("TakenShadeModel", "text", "[I", true)
  | 6 => ("TakenShadeModel", "typed", "I", false)
  | 7 => ("TakenShadeModel", "at", "I", false)
  | 8 => ("TakenShadeModel", "people", "I", false)
  | 9 => ("TakenShadeModel", "told", "[I", true)
  | 10 => ("TakenShadeModel", "pictures", "I", false)
  | 11 => ("TakenShadeModel", "picture", "[I", true)
  | 12 => ("TakenShadeModel", "burnings", "I", false)
  | 13 => ("TakenShadeModel", "burning", "[I", true)
  | 14 => ("TakenShadeModel", "fainting", "I", false)
  | 15 => ("TakenShadeModel", "wants", "[I", true)
  | 16 => ("TakenShadeModel", "solid", "[I", true)
  | 17 => ("TakenShadeModel", "took", "[I", true)
  | 18 => ("TakenShadeModel", "state", "[I", true)
  | 19 => ("TakenShadeModel", "other", "I", false)
  | 20 => ("TakenShadeModel", "otherSize", "I", false)
  | 21 => ("TakenShadeModel", "plates", "I", false)
  | 22 => ("TakenShadeModel", "drawn", "I", false)
  | 23 => ("TakenShadeModel", "spyYear", "I", false)
  | 24 => ("TakenShadeModel", "spyWho", "I", false)
  | 25 => ("TakenShadeModel", "spyTakes", "I", false)
  | 26 => ("TakenShadeModel", "bestWhole", "I", false)
  | 27 => ("TakenShadeModel", "bestLoss", "I", false)
  | 28 => ("TakenShadeModel", "lies", "[I", true)
  | 29 => ("TakenShadeModel", "one", "I", false)
  | 30 => ("TakenShadeModel", "two", "I", false)
  | 31 => ("TakenShadeModel", "sights", "I", false)
  | _ => ("TakenShadeModel", "sight", "[I", true)
def tyX11 : Nat → FieldType := fun k => match k with
  | 0 => .array .int
  | 1 => .array .int
  | 2 => .array .int
  | 3 => .array .int
  | 4 => .int
  | 5 => .array .int
  | 6 => .int
  | 7 => .int
  | 8 => .int
  | 9 => .array .int
  | 10 => .int
  | 11 => .array .int
  | 12 => .int
  | 13 => .array .int
  | 14 => .int
  | 15 => .array .int
  | 16 => .array .int
  | 17 => .array .int
  | 18 => .array .int
  | 19 => .int
  | 20 => .int
  | 21 => .int
  | 22 => .int
  | 23 => .int
  | 24 => .int
  | 25 => .int
  | 26 => .int
  | 27 => .int
  | 28 => .array .int
  | 29 => .int
  | 30 => .int
  | 31 => .int
  | _ => .array .int
theorem nmX11 : ∀ a, a < 33 → ∀ b, b < 33 → a ≠ b → (TX11 a).2.1 ≠ (TX11 b).2.1 := by decide +kernel
theorem tyX11_ok : ∀ k, k < 33 → parseFieldDescriptor (TX11 k).2.2.1 = some (tyX11 k) := by decide +kernel
abbrev cX11_init : ByteArray := prog_13_method_1_code
def yX11_init : MethodName := ⟨RX11, "<init>", "()V"⟩
abbrev cX11_in : ByteArray := prog_13_method_3_code
def yX11_in : MethodName := ⟨RX11, "in", "(JJJ)Z"⟩
abbrev cX11_no : ByteArray := prog_13_method_4_code
def yX11_no : MethodName := ⟨RX11, "no", "(I)J"⟩
abbrev cX11_isTwo : ByteArray := prog_13_method_5_code
def yX11_isTwo : MethodName := ⟨RX11, "isTwo", "(I)Z"⟩
abbrev cX11_isIn : ByteArray := prog_13_method_6_code
def yX11_isIn : MethodName := ⟨RX11, "isIn", "(II)Z"⟩
abbrev cX11_ones : ByteArray := prog_13_method_7_code
def yX11_ones : MethodName := ⟨RX11, "ones", "(I)I"⟩
abbrev cX11_lesser : ByteArray := prog_13_method_8_code
def yX11_lesser : MethodName := ⟨RX11, "lesser", "(II)I"⟩
abbrev cX11_least0 : ByteArray := prog_13_method_9_code
def yX11_least0 : MethodName := ⟨RX11, "least0", "(I)I"⟩
abbrev cX11_part : ByteArray := prog_13_method_10_code
def yX11_part : MethodName := ⟨RX11, "part", "(JJI)J"⟩
abbrev cX11_finds : ByteArray := prog_13_method_11_code
def yX11_finds : MethodName := ⟨RX11, "finds", "(I)I"⟩
abbrev cX11_isSheet : ByteArray := prog_13_method_12_code
def yX11_isSheet : MethodName := ⟨RX11, "isSheet", "(I)Z"⟩
abbrev cX11_sheet : ByteArray := prog_13_method_13_code
def yX11_sheet : MethodName := ⟨RX11, "sheet", "(III)I"⟩
abbrev cX11_lose : ByteArray := prog_13_method_14_code
def yX11_lose : MethodName := ⟨RX11, "lose", "(I)I"⟩
abbrev cX11_lacks : ByteArray := prog_13_method_15_code
def yX11_lacks : MethodName := ⟨RX11, "lacks", "(III)I"⟩
abbrev cX11_cut : ByteArray := prog_13_method_16_code
def yX11_cut : MethodName := ⟨RX11, "cut", "(II)I"⟩
abbrev cX11_lay : ByteArray := prog_13_method_17_code
def yX11_lay : MethodName := ⟨RX11, "lay", "(IIII)I"⟩
abbrev cX11_get : ByteArray := prog_13_method_18_code
def yX11_get : MethodName := ⟨RX11, "get", "(III)I"⟩
abbrev cX11_copy : ByteArray := prog_13_method_19_code
def yX11_copy : MethodName := ⟨RX11, "copy", "(IIIII)I"⟩
abbrev cX11_type : ByteArray := prog_13_method_20_code
def yX11_type : MethodName := ⟨RX11, "type", "(I)I"⟩
abbrev cX11_wipe : ByteArray := prog_13_method_21_code
def yX11_wipe : MethodName := ⟨RX11, "wipe", "()I"⟩
abbrev cX11_undo : ByteArray := prog_13_method_22_code
def yX11_undo : MethodName := ⟨RX11, "undo", "()I"⟩
abbrev cX11_readsPerson : ByteArray := prog_13_method_23_code
def yX11_readsPerson : MethodName := ⟨RX11, "readsPerson", "()Z"⟩
abbrev cX11_reads : ByteArray := prog_13_method_24_code
def yX11_reads : MethodName := ⟨RX11, "reads", "()I"⟩
abbrev cX11_fault : ByteArray := prog_13_method_25_code
def yX11_fault : MethodName := ⟨RX11, "fault", "()I"⟩
abbrev cX11_isPerson : ByteArray := prog_13_method_26_code
def yX11_isPerson : MethodName := ⟨RX11, "isPerson", "(I)Z"⟩
abbrev cX11_isAnyone : ByteArray := prog_13_method_27_code
def yX11_isAnyone : MethodName := ⟨RX11, "isAnyone", "(I)Z"⟩
abbrev cX11_isYear : ByteArray := prog_13_method_28_code
def yX11_isYear : MethodName := ⟨RX11, "isYear", "(I)Z"⟩
abbrev cX11_isDrawer : ByteArray := prog_13_method_29_code
def yX11_isDrawer : MethodName := ⟨RX11, "isDrawer", "(I)Z"⟩
abbrev cX11_twinOf : ByteArray := prog_13_method_30_code
def yX11_twinOf : MethodName := ⟨RX11, "twinOf", "(I)I"⟩
abbrev cX11_person : ByteArray := prog_13_method_31_code
def yX11_person : MethodName := ⟨RX11, "person", "(II)I"⟩
abbrev cX11_picture : ByteArray := prog_13_method_32_code
def yX11_picture : MethodName := ⟨RX11, "picture", "(IIII)I"⟩
abbrev cX11_burn : ByteArray := prog_13_method_33_code
def yX11_burn : MethodName := ⟨RX11, "burn", "(II)I"⟩
abbrev cX11_back : ByteArray := prog_13_method_34_code
def yX11_back : MethodName := ⟨RX11, "back", "(I)I"⟩
abbrev cX11_faint : ByteArray := prog_13_method_35_code
def yX11_faint : MethodName := ⟨RX11, "faint", "(I)I"⟩
abbrev cX11_want : ByteArray := prog_13_method_36_code
def yX11_want : MethodName := ⟨RX11, "want", "(II)I"⟩
abbrev cX11_takes : ByteArray := prog_13_method_37_code
def yX11_takes : MethodName := ⟨RX11, "takes", "(II)I"⟩
abbrev cX11_lot : ByteArray := prog_13_method_38_code
def yX11_lot : MethodName := ⟨RX11, "lot", "(I)I"⟩
abbrev cX11_sizeOf : ByteArray := prog_13_method_39_code
def yX11_sizeOf : MethodName := ⟨RX11, "sizeOf", "(I)I"⟩
abbrev cX11_takesAll : ByteArray := prog_13_method_40_code
def yX11_takesAll : MethodName := ⟨RX11, "takesAll", "(I)V"⟩
abbrev cX11_burnsAll : ByteArray := prog_13_method_41_code
def yX11_burnsAll : MethodName := ⟨RX11, "burnsAll", "(I)V"⟩
abbrev cX11_begins : ByteArray := prog_13_method_42_code
def yX11_begins : MethodName := ⟨RX11, "begins", "()V"⟩
abbrev cX11_goesOn : ByteArray := prog_13_method_43_code
def yX11_goesOn : MethodName := ⟨RX11, "goesOn", "(I)V"⟩
abbrev cX11_lives : ByteArray := prog_13_method_44_code
def yX11_lives : MethodName := ⟨RX11, "lives", "(I)V"⟩
abbrev cX11_solid : ByteArray := prog_13_method_45_code
def yX11_solid : MethodName := ⟨RX11, "solid", "(II)I"⟩
abbrev cX11_unseenNow : ByteArray := prog_13_method_46_code
def yX11_unseenNow : MethodName := ⟨RX11, "unseenNow", "()I"⟩
abbrev cX11_thereNow : ByteArray := prog_13_method_47_code
def yX11_thereNow : MethodName := ⟨RX11, "thereNow", "()I"⟩
abbrev cX11_holds : ByteArray := prog_13_method_48_code
def yX11_holds : MethodName := ⟨RX11, "holds", "(I)I"⟩
abbrev cX11_allNow : ByteArray := prog_13_method_49_code
def yX11_allNow : MethodName := ⟨RX11, "allNow", "()I"⟩
abbrev cX11_behindOf : ByteArray := prog_13_method_50_code
def yX11_behindOf : MethodName := ⟨RX11, "behindOf", "(II)I"⟩
abbrev cX11_behind : ByteArray := prog_13_method_51_code
def yX11_behind : MethodName := ⟨RX11, "behind", "(II)I"⟩
abbrev cX11_drawerOf : ByteArray := prog_13_method_52_code
def yX11_drawerOf : MethodName := ⟨RX11, "drawerOf", "(II)I"⟩
abbrev cX11_drawer : ByteArray := prog_13_method_53_code
def yX11_drawer : MethodName := ⟨RX11, "drawer", "(II)I"⟩
abbrev cX11_tookOf : ByteArray := prog_13_method_54_code
def yX11_tookOf : MethodName := ⟨RX11, "tookOf", "(II)I"⟩
abbrev cX11_took : ByteArray := prog_13_method_55_code
def yX11_took : MethodName := ⟨RX11, "took", "(II)I"⟩
abbrev cX11_unseenOf : ByteArray := prog_13_method_56_code
def yX11_unseenOf : MethodName := ⟨RX11, "unseenOf", "(I)I"⟩
abbrev cX11_unseen : ByteArray := prog_13_method_57_code
def yX11_unseen : MethodName := ⟨RX11, "unseen", "(I)I"⟩
abbrev cX11_backTo : ByteArray := prog_13_method_58_code
def yX11_backTo : MethodName := ⟨RX11, "backTo", "(II)I"⟩
abbrev cX11_findWhole : ByteArray := prog_13_method_59_code
def yX11_findWhole : MethodName := ⟨RX11, "findWhole", "(IIII)V"⟩
abbrev cX11_wholeOf : ByteArray := prog_13_method_60_code
def yX11_wholeOf : MethodName := ⟨RX11, "wholeOf", "(IIIII)I"⟩
abbrev cX11_whole : ByteArray := prog_13_method_61_code
def yX11_whole : MethodName := ⟨RX11, "whole", "(IIIII)I"⟩
abbrev cX11_feastOf : ByteArray := prog_13_method_62_code
def yX11_feastOf : MethodName := ⟨RX11, "feastOf", "(II)I"⟩
abbrev cX11_feast : ByteArray := prog_13_method_63_code
def yX11_feast : MethodName := ⟨RX11, "feast", "(II)I"⟩
abbrev cX11_spyOf : ByteArray := prog_13_method_64_code
def yX11_spyOf : MethodName := ⟨RX11, "spyOf", "(III)I"⟩
abbrev cX11_spy : ByteArray := prog_13_method_65_code
def yX11_spy : MethodName := ⟨RX11, "spy", "(III)I"⟩
abbrev cX11_isWanted : ByteArray := prog_13_method_66_code
def yX11_isWanted : MethodName := ⟨RX11, "isWanted", "(II)Z"⟩
abbrev cX11_gains : ByteArray := prog_13_method_67_code
def yX11_gains : MethodName := ⟨RX11, "gains", "(II)Z"⟩
abbrev cX11_findSwap : ByteArray := prog_13_method_68_code
def yX11_findSwap : MethodName := ⟨RX11, "findSwap", "(I)V"⟩
abbrev cX11_swapOf : ByteArray := prog_13_method_69_code
def yX11_swapOf : MethodName := ⟨RX11, "swapOf", "(II)I"⟩
abbrev cX11_swap : ByteArray := prog_13_method_70_code
def yX11_swap : MethodName := ⟨RX11, "swap", "(II)I"⟩
abbrev cX11_seen : ByteArray := prog_13_method_71_code
def yX11_seen : MethodName := ⟨RX11, "seen", "(III)I"⟩
abbrev cX11_forget : ByteArray := prog_13_method_72_code
def yX11_forget : MethodName := ⟨RX11, "forget", "()I"⟩
abbrev cX11_read : ByteArray := prog_13_method_73_code
def yX11_read : MethodName := ⟨RX11, "read", "(I)I"⟩
abbrev cX11_isSeen : ByteArray := prog_13_method_74_code
def yX11_isSeen : MethodName := ⟨RX11, "isSeen", "(II)Z"⟩
abbrev cX11_neverNow : ByteArray := prog_13_method_75_code
def yX11_neverNow : MethodName := ⟨RX11, "neverNow", "()I"⟩
abbrev cX11_never : ByteArray := prog_13_method_76_code
def yX11_never : MethodName := ⟨RX11, "never", "()I"⟩
abbrev cX11_sizesOf : ByteArray := prog_13_method_77_code
def yX11_sizesOf : MethodName := ⟨RX11, "sizesOf", "(I)I"⟩
abbrev cX11_sizes : ByteArray := prog_13_method_78_code
def yX11_sizes : MethodName := ⟨RX11, "sizes", "(I)I"⟩
abbrev cX11_townOf : ByteArray := prog_13_method_79_code
def yX11_townOf : MethodName := ⟨RX11, "townOf", "(III)I"⟩
abbrev cX11_town : ByteArray := prog_13_method_80_code
def yX11_town : MethodName := ⟨RX11, "town", "(III)I"⟩
abbrev cX11_tollOf : ByteArray := prog_13_method_81_code
def yX11_tollOf : MethodName := ⟨RX11, "tollOf", "(II)I"⟩
abbrev cX11_toll : ByteArray := prog_13_method_82_code
def yX11_toll : MethodName := ⟨RX11, "toll", "(II)I"⟩
abbrev cX11_shotsOf : ByteArray := prog_13_method_83_code
def yX11_shotsOf : MethodName := ⟨RX11, "shotsOf", "(IIIIII)J"⟩
abbrev cX11_shots : ByteArray := prog_13_method_84_code
def yX11_shots : MethodName := ⟨RX11, "shots", "(IIIIII)J"⟩
abbrev cX11_platesOf : ByteArray := prog_13_method_85_code
def yX11_platesOf : MethodName := ⟨RX11, "platesOf", "(III)I"⟩
abbrev cX11_plates : ByteArray := prog_13_method_86_code
def yX11_plates : MethodName := ⟨RX11, "plates", "(III)I"⟩
abbrev cX11_write : ByteArray := prog_13_method_87_code
def yX11_write : MethodName := ⟨RX11, "write", "(II)I"⟩
abbrev cX11_count : ByteArray := prog_13_method_88_code
def yX11_count : MethodName := ⟨RX11, "count", "(I)I"⟩
abbrev cX11_tellsPerson : ByteArray := prog_13_method_89_code
def yX11_tellsPerson : MethodName := ⟨RX11, "tellsPerson", "(JI)J"⟩
abbrev cX11_digest : ByteArray := prog_13_method_90_code
def yX11_digest : MethodName := ⟨RX11, "digest", "()J"⟩
def RJ9 : String := "java/lang/Math"
abbrev cJ9_max_7cf53 : ByteArray := prog_14_method_65_code
def yJ9_max_7cf53 : MethodName := ⟨RJ9, "max", "(II)I"⟩
abbrev cJ9_min_7cf53 : ByteArray := prog_14_method_69_code
def yJ9_min_7cf53 : MethodName := ⟨RJ9, "min", "(II)I"⟩
def RJ10 : String := "java/lang/System"
def RJ7 : String := "java/util/Arrays"
abbrev cJ7_fill_d0a16 : ByteArray := prog_16_method_101_code
def yJ7_fill_d0a16 : MethodName := ⟨RJ7, "fill", "([JJ)V"⟩
abbrev cJ7_fill_53178 : ByteArray := prog_16_method_103_code
def yJ7_fill_53178 : MethodName := ⟨RJ7, "fill", "([II)V"⟩
def RL : String := "TakenShadeLaw"
abbrev cls : List vw_C := [(RX0, TX0, 2), (RX1, TX1, 3), (RX2, TX2, 3), (RX3, TX3, 12), (RX4, TX4, 6), (RX5, TX5, 4), (RX6, TX6, 2), (RX7, TX7, 3), (RX8, TX8, 3), (RX9, TX9, 3), (RX10, TX10, 11), (RX11, TX11, 33)]
end
section
theorem dX0_init_0 : decode cX0_init 0 = .ok (.aload_n 0, 1) := by decide +kernel
theorem dX0_init_1 : decode cX0_init 1 = .ok (.invokespecial 3, 3) := by decide +kernel
theorem dX0_init_4 : decode cX0_init 4 = .ok (.aload_n 0, 1) := by decide +kernel
theorem dX0_init_5 : decode cX0_init 5 = .ok (.new 9, 3) := by decide +kernel
theorem dX0_init_8 : decode cX0_init 8 = .ok (.dup, 1) := by decide +kernel
theorem dX0_init_9 : decode cX0_init 9 = .ok (.bipush 12, 2) := by decide +kernel
theorem dX0_init_11 : decode cX0_init 11 = .ok (.invokespecial 11, 3) := by decide +kernel
theorem dX0_init_14 : decode cX0_init 14 = .ok (.putfield 14, 3) := by decide +kernel
theorem dX0_init_17 : decode cX0_init 17 = .ok (.aload_n 0, 1) := by decide +kernel
theorem dX0_init_18 : decode cX0_init 18 = .ok (.bipush 12, 2) := by decide +kernel
theorem dX0_init_20 : decode cX0_init 20 = .ok (.newarray .int, 2) := by decide +kernel
theorem dX0_init_22 : decode cX0_init 22 = .ok (.putfield 20, 3) := by decide +kernel
theorem dX0_init_25 : decode cX0_init 25 = .ok (.return_, 1) := by decide +kernel
theorem dX0_howMany_0 : decode cX0_howMany 0 = .ok (.aload_n 0, 1) := by decide +kernel
theorem dX0_howMany_1 : decode cX0_howMany 1 = .ok (.getfield 14, 3) := by decide +kernel
theorem dX0_howMany_4 : decode cX0_howMany 4 = .ok (.invokevirtual 24, 3) := by decide +kernel
theorem dX0_howMany_7 : decode cX0_howMany 7 = .ok (.ireturn, 1) := by decide +kernel
theorem dX0_add_0 : decode cX0_add 0 = .ok (.aload_n 0, 1) := by decide +kernel
theorem dX0_add_1 : decode cX0_add 1 = .ok (.getfield 14, 3) := by decide +kernel
theorem dX0_add_4 : decode cX0_add 4 = .ok (.invokevirtual 24, 3) := by decide +kernel
theorem dX0_add_7 : decode cX0_add 7 = .ok (.istore_n 3, 1) := by decide +kernel
theorem dX0_add_8 : decode cX0_add 8 = .ok (.iload_n 3, 1) := by decide +kernel
theorem dX0_add_9 : decode cX0_add 9 = .ok (.bipush 12, 2) := by decide +kernel
theorem dX0_add_11 : decode cX0_add 11 = .ok (.if_icmp .lt 5, 3) := by decide +kernel
theorem dX0_add_14 : decode cX0_add 14 = .ok (.iconst 0, 1) := by decide +kernel
theorem dX0_add_15 : decode cX0_add 15 = .ok (.ireturn, 1) := by decide +kernel
theorem dX0_add_16 : decode cX0_add 16 = .ok (.aload_n 0, 1) := by decide +kernel
theorem dX0_add_17 : decode cX0_add 17 = .ok (.getfield 20, 3) := by decide +kernel
theorem dX0_add_20 : decode cX0_add 20 = .ok (.iload_n 3, 1) := by decide +kernel
theorem dX0_add_21 : decode cX0_add 21 = .ok (.iload_n 2, 1) := by decide +kernel
theorem dX0_add_22 : decode cX0_add 22 = .ok (.iastore, 1) := by decide +kernel
theorem dX0_add_23 : decode cX0_add 23 = .ok (.aload_n 0, 1) := by decide +kernel
theorem dX0_add_24 : decode cX0_add 24 = .ok (.getfield 14, 3) := by decide +kernel
theorem dX0_add_27 : decode cX0_add 27 = .ok (.iload_n 1, 1) := by decide +kernel
theorem dX0_add_28 : decode cX0_add 28 = .ok (.invokevirtual 28, 3) := by decide +kernel
theorem dX0_add_31 : decode cX0_add 31 = .ok (.iconst 1, 1) := by decide +kernel
theorem dX0_add_32 : decode cX0_add 32 = .ok (.ireturn, 1) := by decide +kernel
theorem dX0_pictureOf_0 : decode cX0_pictureOf 0 = .ok (.iload_n 1, 1) := by decide +kernel
theorem dX0_pictureOf_1 : decode cX0_pictureOf 1 = .ok (.ifCond .lt 29, 3) := by decide +kernel
theorem dX0_pictureOf_4 : decode cX0_pictureOf 4 = .ok (.iload_n 1, 1) := by decide +kernel
theorem dX0_pictureOf_5 : decode cX0_pictureOf 5 = .ok (.aload_n 0, 1) := by decide +kernel
theorem dX0_pictureOf_6 : decode cX0_pictureOf 6 = .ok (.getfield 14, 3) := by decide +kernel
theorem dX0_pictureOf_9 : decode cX0_pictureOf 9 = .ok (.getfield 31, 3) := by decide +kernel
theorem dX0_pictureOf_12 : decode cX0_pictureOf 12 = .ok (.if_icmp .ge 18, 3) := by decide +kernel
theorem dX0_pictureOf_15 : decode cX0_pictureOf 15 = .ok (.iload_n 1, 1) := by decide +kernel
theorem dX0_pictureOf_16 : decode cX0_pictureOf 16 = .ok (.bipush 12, 2) := by decide +kernel
theorem dX0_pictureOf_18 : decode cX0_pictureOf 18 = .ok (.if_icmp .ge 12, 3) := by decide +kernel
theorem dX0_pictureOf_21 : decode cX0_pictureOf 21 = .ok (.aload_n 0, 1) := by decide +kernel
theorem dX0_pictureOf_22 : decode cX0_pictureOf 22 = .ok (.getfield 20, 3) := by decide +kernel
theorem dX0_pictureOf_25 : decode cX0_pictureOf 25 = .ok (.iload_n 1, 1) := by decide +kernel
theorem dX0_pictureOf_26 : decode cX0_pictureOf 26 = .ok (.iaload, 1) := by decide +kernel
theorem dX0_pictureOf_27 : decode cX0_pictureOf 27 = .ok (.goto 4, 3) := by decide +kernel
theorem dX0_pictureOf_30 : decode cX0_pictureOf 30 = .ok (.iconst (-1), 1) := by decide +kernel
theorem dX0_pictureOf_31 : decode cX0_pictureOf 31 = .ok (.ireturn, 1) := by decide +kernel
theorem dX1_init_0 : decode cX1_init 0 = .ok (.aload_n 0, 1) := by decide +kernel
theorem dX1_init_1 : decode cX1_init 1 = .ok (.invokespecial 3, 3) := by decide +kernel
theorem dX1_init_4 : decode cX1_init 4 = .ok (.aload_n 0, 1) := by decide +kernel
theorem dX1_init_5 : decode cX1_init 5 = .ok (.bipush 11, 2) := by decide +kernel
theorem dX1_init_7 : decode cX1_init 7 = .ok (.newarray .long, 2) := by decide +kernel
theorem dX1_init_9 : decode cX1_init 9 = .ok (.putfield 9, 3) := by decide +kernel
theorem dX1_init_12 : decode cX1_init 12 = .ok (.aload_n 0, 1) := by decide +kernel
theorem dX1_init_13 : decode cX1_init 13 = .ok (.lconst 1, 1) := by decide +kernel
theorem dX1_init_14 : decode cX1_init 14 = .ok (.putfield 15, 3) := by decide +kernel
theorem dX1_init_17 : decode cX1_init 17 = .ok (.return_, 1) := by decide +kernel
theorem dX1_countWays_0 : decode cX1_countWays 0 = .ok (.aload_n 0, 1) := by decide +kernel
theorem dX1_countWays_1 : decode cX1_countWays 1 = .ok (.getfield 9, 3) := by decide +kernel
theorem dX1_countWays_4 : decode cX1_countWays 4 = .ok (.lconst 0, 1) := by decide +kernel
theorem dX1_countWays_5 : decode cX1_countWays 5 = .ok (.invokestatic 19, 3) := by decide +kernel
theorem dX1_countWays_8 : decode cX1_countWays 8 = .ok (.aload_n 0, 1) := by decide +kernel
theorem dX1_countWays_9 : decode cX1_countWays 9 = .ok (.getfield 9, 3) := by decide +kernel
theorem dX1_countWays_12 : decode cX1_countWays 12 = .ok (.iconst 0, 1) := by decide +kernel
theorem dX1_countWays_13 : decode cX1_countWays 13 = .ok (.lconst 1, 1) := by decide +kernel
theorem dX1_countWays_14 : decode cX1_countWays 14 = .ok (.lastore, 1) := by decide +kernel
theorem dX1_countWays_15 : decode cX1_countWays 15 = .ok (.iconst 0, 1) := by decide +kernel
theorem dX1_countWays_16 : decode cX1_countWays 16 = .ok (.istore_n 3, 1) := by decide +kernel
theorem dX1_countWays_17 : decode cX1_countWays 17 = .ok (.iload_n 3, 1) := by decide +kernel
theorem dX1_countWays_18 : decode cX1_countWays 18 = .ok (.iload_n 2, 1) := by decide +kernel
theorem dX1_countWays_19 : decode cX1_countWays 19 = .ok (.if_icmp .ge 71, 3) := by decide +kernel
theorem dX1_countWays_22 : decode cX1_countWays 22 = .ok (.bipush 10, 2) := by decide +kernel
theorem dX1_countWays_24 : decode cX1_countWays 24 = .ok (.istore 4, 2) := by decide +kernel
theorem dX1_countWays_26 : decode cX1_countWays 26 = .ok (.iload 4, 2) := by decide +kernel
theorem dX1_countWays_28 : decode cX1_countWays 28 = .ok (.ifCond .le 42, 3) := by decide +kernel
theorem dX1_countWays_31 : decode cX1_countWays 31 = .ok (.aload_n 0, 1) := by decide +kernel
theorem dX1_countWays_32 : decode cX1_countWays 32 = .ok (.getfield 9, 3) := by decide +kernel
theorem dX1_countWays_35 : decode cX1_countWays 35 = .ok (.iload 4, 2) := by decide +kernel
theorem dX1_countWays_37 : decode cX1_countWays 37 = .ok (.aload_n 0, 1) := by decide +kernel
theorem dX1_countWays_38 : decode cX1_countWays 38 = .ok (.getfield 9, 3) := by decide +kernel
theorem dX1_countWays_41 : decode cX1_countWays 41 = .ok (.iload 4, 2) := by decide +kernel
theorem dX1_countWays_43 : decode cX1_countWays 43 = .ok (.laload, 1) := by decide +kernel
theorem dX1_countWays_44 : decode cX1_countWays 44 = .ok (.bipush 16, 2) := by decide +kernel
theorem dX1_countWays_46 : decode cX1_countWays 46 = .ok (.iload_n 1, 1) := by decide +kernel
theorem dX1_countWays_47 : decode cX1_countWays 47 = .ok (.isub, 1) := by decide +kernel
theorem dX1_countWays_48 : decode cX1_countWays 48 = .ok (.i2l, 1) := by decide +kernel
theorem dX1_countWays_49 : decode cX1_countWays 49 = .ok (.lmul, 1) := by decide +kernel
theorem dX1_countWays_50 : decode cX1_countWays 50 = .ok (.aload_n 0, 1) := by decide +kernel
theorem dX1_countWays_51 : decode cX1_countWays 51 = .ok (.getfield 9, 3) := by decide +kernel
theorem dX1_countWays_54 : decode cX1_countWays 54 = .ok (.iload 4, 2) := by decide +kernel
theorem dX1_countWays_56 : decode cX1_countWays 56 = .ok (.iconst 1, 1) := by decide +kernel
theorem dX1_countWays_57 : decode cX1_countWays 57 = .ok (.isub, 1) := by decide +kernel
theorem dX1_countWays_58 : decode cX1_countWays 58 = .ok (.laload, 1) := by decide +kernel
theorem dX1_countWays_59 : decode cX1_countWays 59 = .ok (.iload_n 1, 1) := by decide +kernel
theorem dX1_countWays_60 : decode cX1_countWays 60 = .ok (.i2l, 1) := by decide +kernel
theorem dX1_countWays_61 : decode cX1_countWays 61 = .ok (.lmul, 1) := by decide +kernel
theorem dX1_countWays_62 : decode cX1_countWays 62 = .ok (.ladd, 1) := by decide +kernel
theorem dX1_countWays_63 : decode cX1_countWays 63 = .ok (.lastore, 1) := by decide +kernel
theorem dX1_countWays_64 : decode cX1_countWays 64 = .ok (.iinc 4 (-1), 3) := by decide +kernel
theorem dX1_countWays_67 : decode cX1_countWays 67 = .ok (.goto (-41), 3) := by decide +kernel
theorem dX1_countWays_70 : decode cX1_countWays 70 = .ok (.aload_n 0, 1) := by decide +kernel
theorem dX1_countWays_71 : decode cX1_countWays 71 = .ok (.getfield 9, 3) := by decide +kernel
theorem dX1_countWays_74 : decode cX1_countWays 74 = .ok (.iconst 0, 1) := by decide +kernel
theorem dX1_countWays_75 : decode cX1_countWays 75 = .ok (.dup2, 1) := by decide +kernel
theorem dX1_countWays_76 : decode cX1_countWays 76 = .ok (.laload, 1) := by decide +kernel
theorem dX1_countWays_77 : decode cX1_countWays 77 = .ok (.bipush 16, 2) := by decide +kernel
theorem dX1_countWays_79 : decode cX1_countWays 79 = .ok (.iload_n 1, 1) := by decide +kernel
theorem dX1_countWays_80 : decode cX1_countWays 80 = .ok (.isub, 1) := by decide +kernel
theorem dX1_countWays_81 : decode cX1_countWays 81 = .ok (.i2l, 1) := by decide +kernel
theorem dX1_countWays_82 : decode cX1_countWays 82 = .ok (.lmul, 1) := by decide +kernel
theorem dX1_countWays_83 : decode cX1_countWays 83 = .ok (.lastore, 1) := by decide +kernel
theorem dX1_countWays_84 : decode cX1_countWays 84 = .ok (.iinc 3 1, 3) := by decide +kernel
theorem dX1_countWays_87 : decode cX1_countWays 87 = .ok (.goto (-70), 3) := by decide +kernel
theorem dX1_countWays_90 : decode cX1_countWays 90 = .ok (.return_, 1) := by decide +kernel
theorem dX1_weighUnseen_0 : decode cX1_weighUnseen 0 = .ok (.aload_n 0, 1) := by decide +kernel
theorem dX1_weighUnseen_1 : decode cX1_weighUnseen 1 = .ok (.lconst 0, 1) := by decide +kernel
theorem dX1_weighUnseen_2 : decode cX1_weighUnseen 2 = .ok (.putfield 25, 3) := by decide +kernel
theorem dX1_weighUnseen_5 : decode cX1_weighUnseen 5 = .ok (.iconst 0, 1) := by decide +kernel
theorem dX1_weighUnseen_6 : decode cX1_weighUnseen 6 = .ok (.istore 5, 2) := by decide +kernel
theorem dX1_weighUnseen_8 : decode cX1_weighUnseen 8 = .ok (.iload 5, 2) := by decide +kernel
theorem dX1_weighUnseen_10 : decode cX1_weighUnseen 10 = .ok (.bipush 10, 2) := by decide +kernel
theorem dX1_weighUnseen_12 : decode cX1_weighUnseen 12 = .ok (.if_icmp .gt 40, 3) := by decide +kernel
theorem dX1_weighUnseen_15 : decode cX1_weighUnseen 15 = .ok (.iload_n 1, 1) := by decide +kernel
theorem dX1_weighUnseen_16 : decode cX1_weighUnseen 16 = .ok (.iload 5, 2) := by decide +kernel
theorem dX1_weighUnseen_18 : decode cX1_weighUnseen 18 = .ok (.iload_n 2, 1) := by decide +kernel
theorem dX1_weighUnseen_19 : decode cX1_weighUnseen 19 = .ok (.imul, 1) := by decide +kernel
theorem dX1_weighUnseen_20 : decode cX1_weighUnseen 20 = .ok (.isub, 1) := by decide +kernel
theorem dX1_weighUnseen_21 : decode cX1_weighUnseen 21 = .ok (.iconst 0, 1) := by decide +kernel
theorem dX1_weighUnseen_22 : decode cX1_weighUnseen 22 = .ok (.invokestatic 28, 3) := by decide +kernel
theorem dX1_weighUnseen_25 : decode cX1_weighUnseen 25 = .ok (.iload 4, 2) := by decide +kernel
theorem dX1_weighUnseen_27 : decode cX1_weighUnseen 27 = .ok (.if_icmp .ge 19, 3) := by decide +kernel
theorem dX1_weighUnseen_30 : decode cX1_weighUnseen 30 = .ok (.aload_n 0, 1) := by decide +kernel
theorem dX1_weighUnseen_31 : decode cX1_weighUnseen 31 = .ok (.dup, 1) := by decide +kernel
theorem dX1_weighUnseen_32 : decode cX1_weighUnseen 32 = .ok (.getfield 25, 3) := by decide +kernel
theorem dX1_weighUnseen_35 : decode cX1_weighUnseen 35 = .ok (.aload_n 0, 1) := by decide +kernel
theorem dX1_weighUnseen_36 : decode cX1_weighUnseen 36 = .ok (.getfield 9, 3) := by decide +kernel
theorem dX1_weighUnseen_39 : decode cX1_weighUnseen 39 = .ok (.iload 5, 2) := by decide +kernel
theorem dX1_weighUnseen_41 : decode cX1_weighUnseen 41 = .ok (.laload, 1) := by decide +kernel
theorem dX1_weighUnseen_42 : decode cX1_weighUnseen 42 = .ok (.ladd, 1) := by decide +kernel
theorem dX1_weighUnseen_43 : decode cX1_weighUnseen 43 = .ok (.putfield 25, 3) := by decide +kernel
theorem dX1_weighUnseen_46 : decode cX1_weighUnseen 46 = .ok (.iinc 5 1, 3) := by decide +kernel
theorem dX1_weighUnseen_49 : decode cX1_weighUnseen 49 = .ok (.goto (-41), 3) := by decide +kernel
theorem dX1_weighUnseen_52 : decode cX1_weighUnseen 52 = .ok (.iconst 4, 1) := by decide +kernel
theorem dX1_weighUnseen_53 : decode cX1_weighUnseen 53 = .ok (.iload_n 3, 1) := by decide +kernel
theorem dX1_weighUnseen_54 : decode cX1_weighUnseen 54 = .ok (.imul, 1) := by decide +kernel
theorem dX1_weighUnseen_55 : decode cX1_weighUnseen 55 = .ok (.istore 5, 2) := by decide +kernel
theorem dX1_weighUnseen_57 : decode cX1_weighUnseen 57 = .ok (.iload 5, 2) := by decide +kernel
theorem dX1_weighUnseen_59 : decode cX1_weighUnseen 59 = .ok (.ifCond .le 30, 3) := by decide +kernel
theorem dX1_weighUnseen_62 : decode cX1_weighUnseen 62 = .ok (.aload_n 0, 1) := by decide +kernel
theorem dX1_weighUnseen_63 : decode cX1_weighUnseen 63 = .ok (.getfield 25, 3) := by decide +kernel
theorem dX1_weighUnseen_66 : decode cX1_weighUnseen 66 = .ok (.lconst 1, 1) := by decide +kernel
theorem dX1_weighUnseen_67 : decode cX1_weighUnseen 67 = .ok (.land, 1) := by decide +kernel
theorem dX1_weighUnseen_68 : decode cX1_weighUnseen 68 = .ok (.lconst 0, 1) := by decide +kernel
theorem dX1_weighUnseen_69 : decode cX1_weighUnseen 69 = .ok (.lcmp, 1) := by decide +kernel
theorem dX1_weighUnseen_70 : decode cX1_weighUnseen 70 = .ok (.ifCond .ne 19, 3) := by decide +kernel
theorem dX1_weighUnseen_73 : decode cX1_weighUnseen 73 = .ok (.aload_n 0, 1) := by decide +kernel
theorem dX1_weighUnseen_74 : decode cX1_weighUnseen 74 = .ok (.dup, 1) := by decide +kernel
theorem dX1_weighUnseen_75 : decode cX1_weighUnseen 75 = .ok (.getfield 25, 3) := by decide +kernel
theorem dX1_weighUnseen_78 : decode cX1_weighUnseen 78 = .ok (.iconst 1, 1) := by decide +kernel
theorem dX1_weighUnseen_79 : decode cX1_weighUnseen 79 = .ok (.lshr, 1) := by decide +kernel
theorem dX1_weighUnseen_80 : decode cX1_weighUnseen 80 = .ok (.putfield 25, 3) := by decide +kernel
theorem dX1_weighUnseen_83 : decode cX1_weighUnseen 83 = .ok (.iinc 5 (-1), 3) := by decide +kernel
theorem dX1_weighUnseen_86 : decode cX1_weighUnseen 86 = .ok (.goto (-29), 3) := by decide +kernel
theorem dX1_weighUnseen_89 : decode cX1_weighUnseen 89 = .ok (.aload_n 0, 1) := by decide +kernel
theorem dX1_weighUnseen_90 : decode cX1_weighUnseen 90 = .ok (.lconst 1, 1) := by decide +kernel
theorem dX1_weighUnseen_91 : decode cX1_weighUnseen 91 = .ok (.iload 5, 2) := by decide +kernel
theorem dX1_weighUnseen_93 : decode cX1_weighUnseen 93 = .ok (.lshl, 1) := by decide +kernel
theorem dX1_weighUnseen_94 : decode cX1_weighUnseen 94 = .ok (.putfield 15, 3) := by decide +kernel
theorem dX1_weighUnseen_97 : decode cX1_weighUnseen 97 = .ok (.return_, 1) := by decide +kernel
theorem dX1_above_0 : decode cX1_above 0 = .ok (.aload_n 0, 1) := by decide +kernel
theorem dX1_above_1 : decode cX1_above 1 = .ok (.getfield 25, 3) := by decide +kernel
theorem dX1_above_4 : decode cX1_above 4 = .ok (.lreturn, 1) := by decide +kernel
theorem dX1_below_0 : decode cX1_below 0 = .ok (.aload_n 0, 1) := by decide +kernel
theorem dX1_below_1 : decode cX1_below 1 = .ok (.getfield 15, 3) := by decide +kernel
theorem dX1_below_4 : decode cX1_below 4 = .ok (.lreturn, 1) := by decide +kernel
theorem dX2_init_0 : decode cX2_init 0 = .ok (.aload_n 0, 1) := by decide +kernel
theorem dX2_init_1 : decode cX2_init 1 = .ok (.invokespecial 3, 3) := by decide +kernel
theorem dX2_init_4 : decode cX2_init 4 = .ok (.aload_n 0, 1) := by decide +kernel
theorem dX2_init_5 : decode cX2_init 5 = .ok (.iconst 4, 1) := by decide +kernel
theorem dX2_init_6 : decode cX2_init 6 = .ok (.newarray .int, 2) := by decide +kernel
theorem dX2_init_8 : decode cX2_init 8 = .ok (.putfield 9, 3) := by decide +kernel
theorem dX2_init_11 : decode cX2_init 11 = .ok (.aload_n 0, 1) := by decide +kernel
theorem dX2_init_12 : decode cX2_init 12 = .ok (.bipush 12, 2) := by decide +kernel
theorem dX2_init_14 : decode cX2_init 14 = .ok (.newarray .int, 2) := by decide +kernel
theorem dX2_init_16 : decode cX2_init 16 = .ok (.putfield 15, 3) := by decide +kernel
theorem dX2_init_19 : decode cX2_init 19 = .ok (.aload_n 0, 1) := by decide +kernel
theorem dX2_init_20 : decode cX2_init 20 = .ok (.bipush 12, 2) := by decide +kernel
theorem dX2_init_22 : decode cX2_init 22 = .ok (.newarray .int, 2) := by decide +kernel
theorem dX2_init_24 : decode cX2_init 24 = .ok (.putfield 18, 3) := by decide +kernel
theorem dX2_init_27 : decode cX2_init 27 = .ok (.aload_n 0, 1) := by decide +kernel
theorem dX2_init_28 : decode cX2_init 28 = .ok (.getfield 9, 3) := by decide +kernel
theorem dX2_init_31 : decode cX2_init 31 = .ok (.iconst (-1), 1) := by decide +kernel
theorem dX2_init_32 : decode cX2_init 32 = .ok (.invokestatic 21, 3) := by decide +kernel
theorem dX2_init_35 : decode cX2_init 35 = .ok (.return_, 1) := by decide +kernel
theorem dX2_changeWant_0 : decode cX2_changeWant 0 = .ok (.iload_n 1, 1) := by decide +kernel
theorem dX2_changeWant_1 : decode cX2_changeWant 1 = .ok (.ifCond .lt 8, 3) := by decide +kernel
theorem dX2_changeWant_4 : decode cX2_changeWant 4 = .ok (.iload_n 1, 1) := by decide +kernel
theorem dX2_changeWant_5 : decode cX2_changeWant 5 = .ok (.iconst 4, 1) := by decide +kernel
theorem dX2_changeWant_6 : decode cX2_changeWant 6 = .ok (.if_icmp .lt 6, 3) := by decide +kernel
theorem dX2_changeWant_9 : decode cX2_changeWant 9 = .ok (.bipush (-2), 2) := by decide +kernel
theorem dX2_changeWant_11 : decode cX2_changeWant 11 = .ok (.ireturn, 1) := by decide +kernel
theorem dX2_changeWant_12 : decode cX2_changeWant 12 = .ok (.aload_n 0, 1) := by decide +kernel
theorem dX2_changeWant_13 : decode cX2_changeWant 13 = .ok (.getfield 9, 3) := by decide +kernel
theorem dX2_changeWant_16 : decode cX2_changeWant 16 = .ok (.iload_n 1, 1) := by decide +kernel
theorem dX2_changeWant_17 : decode cX2_changeWant 17 = .ok (.iaload, 1) := by decide +kernel
theorem dX2_changeWant_18 : decode cX2_changeWant 18 = .ok (.istore_n 3, 1) := by decide +kernel
theorem dX2_changeWant_19 : decode cX2_changeWant 19 = .ok (.aload_n 0, 1) := by decide +kernel
theorem dX2_changeWant_20 : decode cX2_changeWant 20 = .ok (.getfield 9, 3) := by decide +kernel
theorem dX2_changeWant_23 : decode cX2_changeWant 23 = .ok (.iload_n 1, 1) := by decide +kernel
theorem dX2_changeWant_24 : decode cX2_changeWant 24 = .ok (.iload_n 2, 1) := by decide +kernel
theorem dX2_changeWant_25 : decode cX2_changeWant 25 = .ok (.iastore, 1) := by decide +kernel
theorem dX2_changeWant_26 : decode cX2_changeWant 26 = .ok (.iload_n 3, 1) := by decide +kernel
theorem dX2_changeWant_27 : decode cX2_changeWant 27 = .ok (.ireturn, 1) := by decide +kernel
theorem dX2_gather_0 : decode cX2_gather 0 = .ok (.iconst 0, 1) := by decide +kernel
theorem dX2_gather_1 : decode cX2_gather 1 = .ok (.istore_n 3, 1) := by decide +kernel
theorem dX2_gather_2 : decode cX2_gather 2 = .ok (.iload_n 3, 1) := by decide +kernel
theorem dX2_gather_3 : decode cX2_gather 3 = .ok (.bipush 12, 2) := by decide +kernel
theorem dX2_gather_5 : decode cX2_gather 5 = .ok (.if_icmp .ge 56, 3) := by decide +kernel
theorem dX2_gather_8 : decode cX2_gather 8 = .ok (.iload_n 2, 1) := by decide +kernel
theorem dX2_gather_9 : decode cX2_gather 9 = .ok (.iload_n 3, 1) := by decide +kernel
theorem dX2_gather_10 : decode cX2_gather 10 = .ok (.ishr, 1) := by decide +kernel
theorem dX2_gather_11 : decode cX2_gather 11 = .ok (.iconst 1, 1) := by decide +kernel
theorem dX2_gather_12 : decode cX2_gather 12 = .ok (.iand, 1) := by decide +kernel
theorem dX2_gather_13 : decode cX2_gather 13 = .ok (.iconst 1, 1) := by decide +kernel
theorem dX2_gather_14 : decode cX2_gather 14 = .ok (.if_icmp .ne 7, 3) := by decide +kernel
theorem dX2_gather_17 : decode cX2_gather 17 = .ok (.iconst 1, 1) := by decide +kernel
theorem dX2_gather_18 : decode cX2_gather 18 = .ok (.goto 4, 3) := by decide +kernel
theorem dX2_gather_21 : decode cX2_gather 21 = .ok (.iconst 0, 1) := by decide +kernel
theorem dX2_gather_22 : decode cX2_gather 22 = .ok (.istore 4, 2) := by decide +kernel
theorem dX2_gather_24 : decode cX2_gather 24 = .ok (.aload_n 0, 1) := by decide +kernel
theorem dX2_gather_25 : decode cX2_gather 25 = .ok (.getfield 15, 3) := by decide +kernel
theorem dX2_gather_28 : decode cX2_gather 28 = .ok (.iload_n 3, 1) := by decide +kernel
theorem dX2_gather_29 : decode cX2_gather 29 = .ok (.aload_n 1, 1) := by decide +kernel
theorem dX2_gather_30 : decode cX2_gather 30 = .ok (.iload_n 3, 1) := by decide +kernel
theorem dX2_gather_31 : decode cX2_gather 31 = .ok (.invokevirtual 27, 3) := by decide +kernel
theorem dX2_gather_34 : decode cX2_gather 34 = .ok (.iastore, 1) := by decide +kernel
theorem dX2_gather_35 : decode cX2_gather 35 = .ok (.aload_n 0, 1) := by decide +kernel
theorem dX2_gather_36 : decode cX2_gather 36 = .ok (.getfield 18, 3) := by decide +kernel
theorem dX2_gather_39 : decode cX2_gather 39 = .ok (.iload_n 3, 1) := by decide +kernel
theorem dX2_gather_40 : decode cX2_gather 40 = .ok (.iload 4, 2) := by decide +kernel
theorem dX2_gather_42 : decode cX2_gather 42 = .ok (.ifCond .eq 11, 3) := by decide +kernel
theorem dX2_gather_45 : decode cX2_gather 45 = .ok (.aload_n 1, 1) := by decide +kernel
theorem dX2_gather_46 : decode cX2_gather 46 = .ok (.iload_n 3, 1) := by decide +kernel
theorem dX2_gather_47 : decode cX2_gather 47 = .ok (.invokevirtual 33, 3) := by decide +kernel
theorem dX2_gather_50 : decode cX2_gather 50 = .ok (.goto 4, 3) := by decide +kernel
theorem dX2_gather_53 : decode cX2_gather 53 = .ok (.iconst (-1), 1) := by decide +kernel
theorem dX2_gather_54 : decode cX2_gather 54 = .ok (.iastore, 1) := by decide +kernel
theorem dX2_gather_55 : decode cX2_gather 55 = .ok (.iinc 3 1, 3) := by decide +kernel
theorem dX2_gather_58 : decode cX2_gather 58 = .ok (.goto (-56), 3) := by decide +kernel
theorem dX2_gather_61 : decode cX2_gather 61 = .ok (.return_, 1) := by decide +kernel
theorem dX2_findSwap_0 : decode cX2_findSwap 0 = .ok (.iconst 0, 1) := by decide +kernel
theorem dX2_findSwap_1 : decode cX2_findSwap 1 = .ok (.istore_n 1, 1) := by decide +kernel
theorem dX2_findSwap_2 : decode cX2_findSwap 2 = .ok (.iload_n 1, 1) := by decide +kernel
theorem dX2_findSwap_3 : decode cX2_findSwap 3 = .ok (.bipush 12, 2) := by decide +kernel
theorem dX2_findSwap_5 : decode cX2_findSwap 5 = .ok (.if_icmp .ge 82, 3) := by decide +kernel
theorem dX2_findSwap_8 : decode cX2_findSwap 8 = .ok (.iload_n 1, 1) := by decide +kernel
theorem dX2_findSwap_9 : decode cX2_findSwap 9 = .ok (.iconst 1, 1) := by decide +kernel
theorem dX2_findSwap_10 : decode cX2_findSwap 10 = .ok (.iadd, 1) := by decide +kernel
theorem dX2_findSwap_11 : decode cX2_findSwap 11 = .ok (.istore_n 2, 1) := by decide +kernel
theorem dX2_findSwap_12 : decode cX2_findSwap 12 = .ok (.iload_n 2, 1) := by decide +kernel
theorem dX2_findSwap_13 : decode cX2_findSwap 13 = .ok (.bipush 12, 2) := by decide +kernel
theorem dX2_findSwap_15 : decode cX2_findSwap 15 = .ok (.if_icmp .ge 66, 3) := by decide +kernel
theorem dX2_findSwap_18 : decode cX2_findSwap 18 = .ok (.aload_n 0, 1) := by decide +kernel
theorem dX2_findSwap_19 : decode cX2_findSwap 19 = .ok (.aload_n 0, 1) := by decide +kernel
theorem dX2_findSwap_20 : decode cX2_findSwap 20 = .ok (.getfield 18, 3) := by decide +kernel
theorem dX2_findSwap_23 : decode cX2_findSwap 23 = .ok (.iload_n 1, 1) := by decide +kernel
theorem dX2_findSwap_24 : decode cX2_findSwap 24 = .ok (.iaload, 1) := by decide +kernel
theorem dX2_findSwap_25 : decode cX2_findSwap 25 = .ok (.aload_n 0, 1) := by decide +kernel
theorem dX2_findSwap_26 : decode cX2_findSwap 26 = .ok (.getfield 15, 3) := by decide +kernel
theorem dX2_findSwap_29 : decode cX2_findSwap 29 = .ok (.iload_n 1, 1) := by decide +kernel
theorem dX2_findSwap_30 : decode cX2_findSwap 30 = .ok (.iaload, 1) := by decide +kernel
theorem dX2_findSwap_31 : decode cX2_findSwap 31 = .ok (.aload_n 0, 1) := by decide +kernel
theorem dX2_findSwap_32 : decode cX2_findSwap 32 = .ok (.getfield 15, 3) := by decide +kernel
theorem dX2_findSwap_35 : decode cX2_findSwap 35 = .ok (.iload_n 2, 1) := by decide +kernel
theorem dX2_findSwap_36 : decode cX2_findSwap 36 = .ok (.iaload, 1) := by decide +kernel
theorem dX2_findSwap_37 : decode cX2_findSwap 37 = .ok (.invokevirtual 36, 3) := by decide +kernel
theorem dX2_findSwap_40 : decode cX2_findSwap 40 = .ok (.ifCond .eq 35, 3) := by decide +kernel
theorem dX2_findSwap_43 : decode cX2_findSwap 43 = .ok (.aload_n 0, 1) := by decide +kernel
theorem dX2_findSwap_44 : decode cX2_findSwap 44 = .ok (.aload_n 0, 1) := by decide +kernel
theorem dX2_findSwap_45 : decode cX2_findSwap 45 = .ok (.getfield 18, 3) := by decide +kernel
theorem dX2_findSwap_48 : decode cX2_findSwap 48 = .ok (.iload_n 2, 1) := by decide +kernel
theorem dX2_findSwap_49 : decode cX2_findSwap 49 = .ok (.iaload, 1) := by decide +kernel
theorem dX2_findSwap_50 : decode cX2_findSwap 50 = .ok (.aload_n 0, 1) := by decide +kernel
theorem dX2_findSwap_51 : decode cX2_findSwap 51 = .ok (.getfield 15, 3) := by decide +kernel
theorem dX2_findSwap_54 : decode cX2_findSwap 54 = .ok (.iload_n 2, 1) := by decide +kernel
theorem dX2_findSwap_55 : decode cX2_findSwap 55 = .ok (.iaload, 1) := by decide +kernel
theorem dX2_findSwap_56 : decode cX2_findSwap 56 = .ok (.aload_n 0, 1) := by decide +kernel
theorem dX2_findSwap_57 : decode cX2_findSwap 57 = .ok (.getfield 15, 3) := by decide +kernel
theorem dX2_findSwap_60 : decode cX2_findSwap 60 = .ok (.iload_n 1, 1) := by decide +kernel
theorem dX2_findSwap_61 : decode cX2_findSwap 61 = .ok (.iaload, 1) := by decide +kernel
theorem dX2_findSwap_62 : decode cX2_findSwap 62 = .ok (.invokevirtual 36, 3) := by decide +kernel
theorem dX2_findSwap_65 : decode cX2_findSwap 65 = .ok (.ifCond .eq 10, 3) := by decide +kernel
theorem dX2_findSwap_68 : decode cX2_findSwap 68 = .ok (.iload_n 1, 1) := by decide +kernel
theorem dX2_findSwap_69 : decode cX2_findSwap 69 = .ok (.bipush 12, 2) := by decide +kernel
theorem dX2_findSwap_71 : decode cX2_findSwap 71 = .ok (.imul, 1) := by decide +kernel
theorem dX2_findSwap_72 : decode cX2_findSwap 72 = .ok (.iload_n 2, 1) := by decide +kernel
theorem dX2_findSwap_73 : decode cX2_findSwap 73 = .ok (.iadd, 1) := by decide +kernel
theorem dX2_findSwap_74 : decode cX2_findSwap 74 = .ok (.ireturn, 1) := by decide +kernel
theorem dX2_findSwap_75 : decode cX2_findSwap 75 = .ok (.iinc 2 1, 3) := by decide +kernel
theorem dX2_findSwap_78 : decode cX2_findSwap 78 = .ok (.goto (-66), 3) := by decide +kernel
theorem dX2_findSwap_81 : decode cX2_findSwap 81 = .ok (.iinc 1 1, 3) := by decide +kernel
theorem dX2_findSwap_84 : decode cX2_findSwap 84 = .ok (.goto (-82), 3) := by decide +kernel
theorem dX2_findSwap_87 : decode cX2_findSwap 87 = .ok (.iconst (-1), 1) := by decide +kernel
theorem dX2_findSwap_88 : decode cX2_findSwap 88 = .ok (.ireturn, 1) := by decide +kernel
theorem dX2_isGain_0 : decode cX2_isGain 0 = .ok (.iload_n 1, 1) := by decide +kernel
theorem dX2_isGain_1 : decode cX2_isGain 1 = .ok (.ifCond .lt 32, 3) := by decide +kernel
theorem dX2_isGain_4 : decode cX2_isGain 4 = .ok (.iload_n 1, 1) := by decide +kernel
theorem dX2_isGain_5 : decode cX2_isGain 5 = .ok (.iconst 4, 1) := by decide +kernel
theorem dX2_isGain_6 : decode cX2_isGain 6 = .ok (.if_icmp .ge 27, 3) := by decide +kernel
theorem dX2_isGain_9 : decode cX2_isGain 9 = .ok (.aload_n 0, 1) := by decide +kernel
theorem dX2_isGain_10 : decode cX2_isGain 10 = .ok (.getfield 9, 3) := by decide +kernel
theorem dX2_isGain_13 : decode cX2_isGain 13 = .ok (.iload_n 1, 1) := by decide +kernel
theorem dX2_isGain_14 : decode cX2_isGain 14 = .ok (.iaload, 1) := by decide +kernel
theorem dX2_isGain_15 : decode cX2_isGain 15 = .ok (.iload_n 3, 1) := by decide +kernel
theorem dX2_isGain_16 : decode cX2_isGain 16 = .ok (.if_icmp .ne 17, 3) := by decide +kernel
theorem dX2_isGain_19 : decode cX2_isGain 19 = .ok (.aload_n 0, 1) := by decide +kernel
theorem dX2_isGain_20 : decode cX2_isGain 20 = .ok (.getfield 9, 3) := by decide +kernel
theorem dX2_isGain_23 : decode cX2_isGain 23 = .ok (.iload_n 1, 1) := by decide +kernel
theorem dX2_isGain_24 : decode cX2_isGain 24 = .ok (.iaload, 1) := by decide +kernel
theorem dX2_isGain_25 : decode cX2_isGain 25 = .ok (.iload_n 2, 1) := by decide +kernel
theorem dX2_isGain_26 : decode cX2_isGain 26 = .ok (.if_icmp .eq 7, 3) := by decide +kernel
theorem dX2_isGain_29 : decode cX2_isGain 29 = .ok (.iconst 1, 1) := by decide +kernel
theorem dX2_isGain_30 : decode cX2_isGain 30 = .ok (.goto 4, 3) := by decide +kernel
theorem dX2_isGain_33 : decode cX2_isGain 33 = .ok (.iconst 0, 1) := by decide +kernel
theorem dX2_isGain_34 : decode cX2_isGain 34 = .ok (.ireturn, 1) := by decide +kernel
theorem dX2_swapTillRest_0 : decode cX2_swapTillRest 0 = .ok (.iconst 0, 1) := by decide +kernel
theorem dX2_swapTillRest_1 : decode cX2_swapTillRest 1 = .ok (.istore_n 1, 1) := by decide +kernel
theorem dX2_swapTillRest_2 : decode cX2_swapTillRest 2 = .ok (.iload_n 1, 1) := by decide +kernel
theorem dX2_swapTillRest_3 : decode cX2_swapTillRest 3 = .ok (.bipush 12, 2) := by decide +kernel
theorem dX2_swapTillRest_5 : decode cX2_swapTillRest 5 = .ok (.if_icmp .ge 32, 3) := by decide +kernel
theorem dX2_swapTillRest_8 : decode cX2_swapTillRest 8 = .ok (.aload_n 0, 1) := by decide +kernel
theorem dX2_swapTillRest_9 : decode cX2_swapTillRest 9 = .ok (.invokevirtual 40, 3) := by decide +kernel
theorem dX2_swapTillRest_12 : decode cX2_swapTillRest 12 = .ok (.istore_n 2, 1) := by decide +kernel
theorem dX2_swapTillRest_13 : decode cX2_swapTillRest 13 = .ok (.iload_n 2, 1) := by decide +kernel
theorem dX2_swapTillRest_14 : decode cX2_swapTillRest 14 = .ok (.ifCond .ge 5, 3) := by decide +kernel
theorem dX2_swapTillRest_17 : decode cX2_swapTillRest 17 = .ok (.iload_n 1, 1) := by decide +kernel
theorem dX2_swapTillRest_18 : decode cX2_swapTillRest 18 = .ok (.ireturn, 1) := by decide +kernel
theorem dX2_swapTillRest_19 : decode cX2_swapTillRest 19 = .ok (.aload_n 0, 1) := by decide +kernel
theorem dX2_swapTillRest_20 : decode cX2_swapTillRest 20 = .ok (.iload_n 2, 1) := by decide +kernel
theorem dX2_swapTillRest_21 : decode cX2_swapTillRest 21 = .ok (.bipush 12, 2) := by decide +kernel
theorem dX2_swapTillRest_23 : decode cX2_swapTillRest 23 = .ok (.idiv, 1) := by decide +kernel
theorem dX2_swapTillRest_24 : decode cX2_swapTillRest 24 = .ok (.iload_n 2, 1) := by decide +kernel
theorem dX2_swapTillRest_25 : decode cX2_swapTillRest 25 = .ok (.bipush 12, 2) := by decide +kernel
theorem dX2_swapTillRest_27 : decode cX2_swapTillRest 27 = .ok (.irem, 1) := by decide +kernel
theorem dX2_swapTillRest_28 : decode cX2_swapTillRest 28 = .ok (.invokevirtual 44, 3) := by decide +kernel
theorem dX2_swapTillRest_31 : decode cX2_swapTillRest 31 = .ok (.iinc 1 1, 3) := by decide +kernel
theorem dX2_swapTillRest_34 : decode cX2_swapTillRest 34 = .ok (.goto (-32), 3) := by decide +kernel
theorem dX2_swapTillRest_37 : decode cX2_swapTillRest 37 = .ok (.bipush 12, 2) := by decide +kernel
theorem dX2_swapTillRest_39 : decode cX2_swapTillRest 39 = .ok (.ireturn, 1) := by decide +kernel
theorem dX2_exchange_0 : decode cX2_exchange 0 = .ok (.iload_n 1, 1) := by decide +kernel
theorem dX2_exchange_1 : decode cX2_exchange 1 = .ok (.bipush 12, 2) := by decide +kernel
theorem dX2_exchange_3 : decode cX2_exchange 3 = .ok (.if_icmp .ge 35, 3) := by decide +kernel
theorem dX2_exchange_6 : decode cX2_exchange 6 = .ok (.iload_n 2, 1) := by decide +kernel
theorem dX2_exchange_7 : decode cX2_exchange 7 = .ok (.bipush 12, 2) := by decide +kernel
theorem dX2_exchange_9 : decode cX2_exchange 9 = .ok (.if_icmp .ge 29, 3) := by decide +kernel
theorem dX2_exchange_12 : decode cX2_exchange 12 = .ok (.aload_n 0, 1) := by decide +kernel
theorem dX2_exchange_13 : decode cX2_exchange 13 = .ok (.getfield 18, 3) := by decide +kernel
theorem dX2_exchange_16 : decode cX2_exchange 16 = .ok (.iload_n 1, 1) := by decide +kernel
theorem dX2_exchange_17 : decode cX2_exchange 17 = .ok (.iaload, 1) := by decide +kernel
theorem dX2_exchange_18 : decode cX2_exchange 18 = .ok (.istore_n 3, 1) := by decide +kernel
theorem dX2_exchange_19 : decode cX2_exchange 19 = .ok (.aload_n 0, 1) := by decide +kernel
theorem dX2_exchange_20 : decode cX2_exchange 20 = .ok (.getfield 18, 3) := by decide +kernel
theorem dX2_exchange_23 : decode cX2_exchange 23 = .ok (.iload_n 1, 1) := by decide +kernel
theorem dX2_exchange_24 : decode cX2_exchange 24 = .ok (.aload_n 0, 1) := by decide +kernel
theorem dX2_exchange_25 : decode cX2_exchange 25 = .ok (.getfield 18, 3) := by decide +kernel
theorem dX2_exchange_28 : decode cX2_exchange 28 = .ok (.iload_n 2, 1) := by decide +kernel
theorem dX2_exchange_29 : decode cX2_exchange 29 = .ok (.iaload, 1) := by decide +kernel
theorem dX2_exchange_30 : decode cX2_exchange 30 = .ok (.iastore, 1) := by decide +kernel
theorem dX2_exchange_31 : decode cX2_exchange 31 = .ok (.aload_n 0, 1) := by decide +kernel
theorem dX2_exchange_32 : decode cX2_exchange 32 = .ok (.getfield 18, 3) := by decide +kernel
theorem dX2_exchange_35 : decode cX2_exchange 35 = .ok (.iload_n 2, 1) := by decide +kernel
theorem dX2_exchange_36 : decode cX2_exchange 36 = .ok (.iload_n 3, 1) := by decide +kernel
theorem dX2_exchange_37 : decode cX2_exchange 37 = .ok (.iastore, 1) := by decide +kernel
theorem dX2_exchange_38 : decode cX2_exchange 38 = .ok (.return_, 1) := by decide +kernel
theorem dX3_init_0 : decode cX3_init 0 = .ok (.aload_n 0, 1) := by decide +kernel
theorem dX3_init_1 : decode cX3_init 1 = .ok (.invokespecial 3, 3) := by decide +kernel
theorem dX3_init_4 : decode cX3_init 4 = .ok (.aload_n 0, 1) := by decide +kernel
theorem dX3_init_5 : decode cX3_init 5 = .ok (.bipush 8, 2) := by decide +kernel
theorem dX3_init_7 : decode cX3_init 7 = .ok (.newarray .int, 2) := by decide +kernel
theorem dX3_init_9 : decode cX3_init 9 = .ok (.putfield 9, 3) := by decide +kernel
theorem dX3_init_12 : decode cX3_init 12 = .ok (.aload_n 0, 1) := by decide +kernel
theorem dX3_init_13 : decode cX3_init 13 = .ok (.bipush 12, 2) := by decide +kernel
theorem dX3_init_15 : decode cX3_init 15 = .ok (.newarray .int, 2) := by decide +kernel
theorem dX3_init_17 : decode cX3_init 17 = .ok (.putfield 15, 3) := by decide +kernel
theorem dX3_init_20 : decode cX3_init 20 = .ok (.aload_n 0, 1) := by decide +kernel
theorem dX3_init_21 : decode cX3_init 21 = .ok (.bipush 12, 2) := by decide +kernel
theorem dX3_init_23 : decode cX3_init 23 = .ok (.newarray .int, 2) := by decide +kernel
theorem dX3_init_25 : decode cX3_init 25 = .ok (.putfield 18, 3) := by decide +kernel
theorem dX3_init_28 : decode cX3_init 28 = .ok (.aload_n 0, 1) := by decide +kernel
theorem dX3_init_29 : decode cX3_init 29 = .ok (.iconst (-1), 1) := by decide +kernel
theorem dX3_init_30 : decode cX3_init 30 = .ok (.putfield 21, 3) := by decide +kernel
theorem dX3_init_33 : decode cX3_init 33 = .ok (.aload_n 0, 1) := by decide +kernel
theorem dX3_init_34 : decode cX3_init 34 = .ok (.aload_n 1, 1) := by decide +kernel
theorem dX3_init_35 : decode cX3_init 35 = .ok (.putfield 25, 3) := by decide +kernel
theorem dX3_init_38 : decode cX3_init 38 = .ok (.aload_n 0, 1) := by decide +kernel
theorem dX3_init_39 : decode cX3_init 39 = .ok (.aload_n 2, 1) := by decide +kernel
theorem dX3_init_40 : decode cX3_init 40 = .ok (.putfield 29, 3) := by decide +kernel
theorem dX3_init_43 : decode cX3_init 43 = .ok (.aload_n 0, 1) := by decide +kernel
theorem dX3_init_44 : decode cX3_init 44 = .ok (.aload_n 3, 1) := by decide +kernel
theorem dX3_init_45 : decode cX3_init 45 = .ok (.putfield 33, 3) := by decide +kernel
theorem dX3_init_48 : decode cX3_init 48 = .ok (.return_, 1) := by decide +kernel
theorem dX3_begin_0 : decode cX3_begin 0 = .ok (.aload_n 0, 1) := by decide +kernel
theorem dX3_begin_1 : decode cX3_begin 1 = .ok (.iconst (-1), 1) := by decide +kernel
theorem dX3_begin_2 : decode cX3_begin 2 = .ok (.iconst 0, 1) := by decide +kernel
theorem dX3_begin_3 : decode cX3_begin 3 = .ok (.invokevirtual 37, 3) := by decide +kernel
theorem dX3_begin_6 : decode cX3_begin 6 = .ok (.return_, 1) := by decide +kernel
theorem dX3_beginAltered_0 : decode cX3_beginAltered 0 = .ok (.aload_n 0, 1) := by decide +kernel
theorem dX3_beginAltered_1 : decode cX3_beginAltered 1 = .ok (.iload_n 1, 1) := by decide +kernel
theorem dX3_beginAltered_2 : decode cX3_beginAltered 2 = .ok (.putfield 21, 3) := by decide +kernel
theorem dX3_beginAltered_5 : decode cX3_beginAltered 5 = .ok (.aload_n 0, 1) := by decide +kernel
theorem dX3_beginAltered_6 : decode cX3_beginAltered 6 = .ok (.iload_n 2, 1) := by decide +kernel
theorem dX3_beginAltered_7 : decode cX3_beginAltered 7 = .ok (.putfield 41, 3) := by decide +kernel
theorem dX3_beginAltered_10 : decode cX3_beginAltered 10 = .ok (.iconst 0, 1) := by decide +kernel
theorem dX3_beginAltered_11 : decode cX3_beginAltered 11 = .ok (.istore_n 3, 1) := by decide +kernel
theorem dX3_beginAltered_12 : decode cX3_beginAltered 12 = .ok (.iload_n 3, 1) := by decide +kernel
theorem dX3_beginAltered_13 : decode cX3_beginAltered 13 = .ok (.bipush 8, 2) := by decide +kernel
theorem dX3_beginAltered_15 : decode cX3_beginAltered 15 = .ok (.if_icmp .ge 23, 3) := by decide +kernel
theorem dX3_beginAltered_18 : decode cX3_beginAltered 18 = .ok (.aload_n 0, 1) := by decide +kernel
theorem dX3_beginAltered_19 : decode cX3_beginAltered 19 = .ok (.getfield 9, 3) := by decide +kernel
theorem dX3_beginAltered_22 : decode cX3_beginAltered 22 = .ok (.iload_n 3, 1) := by decide +kernel
theorem dX3_beginAltered_23 : decode cX3_beginAltered 23 = .ok (.aload_n 0, 1) := by decide +kernel
theorem dX3_beginAltered_24 : decode cX3_beginAltered 24 = .ok (.getfield 25, 3) := by decide +kernel
theorem dX3_beginAltered_27 : decode cX3_beginAltered 27 = .ok (.iload_n 3, 1) := by decide +kernel
theorem dX3_beginAltered_28 : decode cX3_beginAltered 28 = .ok (.invokevirtual 44, 3) := by decide +kernel
theorem dX3_beginAltered_31 : decode cX3_beginAltered 31 = .ok (.iastore, 1) := by decide +kernel
theorem dX3_beginAltered_32 : decode cX3_beginAltered 32 = .ok (.iinc 3 1, 3) := by decide +kernel
theorem dX3_beginAltered_35 : decode cX3_beginAltered 35 = .ok (.goto (-23), 3) := by decide +kernel
theorem dX3_beginAltered_38 : decode cX3_beginAltered 38 = .ok (.aload_n 0, 1) := by decide +kernel
theorem dX3_beginAltered_39 : decode cX3_beginAltered 39 = .ok (.getfield 15, 3) := by decide +kernel
theorem dX3_beginAltered_42 : decode cX3_beginAltered 42 = .ok (.iconst 0, 1) := by decide +kernel
theorem dX3_beginAltered_43 : decode cX3_beginAltered 43 = .ok (.invokestatic 50, 3) := by decide +kernel
theorem dX3_beginAltered_46 : decode cX3_beginAltered 46 = .ok (.aload_n 0, 1) := by decide +kernel
theorem dX3_beginAltered_47 : decode cX3_beginAltered 47 = .ok (.getfield 18, 3) := by decide +kernel
theorem dX3_beginAltered_50 : decode cX3_beginAltered 50 = .ok (.iconst 0, 1) := by decide +kernel
theorem dX3_beginAltered_51 : decode cX3_beginAltered 51 = .ok (.invokestatic 50, 3) := by decide +kernel
theorem dX3_beginAltered_54 : decode cX3_beginAltered 54 = .ok (.aload_n 0, 1) := by decide +kernel
theorem dX3_beginAltered_55 : decode cX3_beginAltered 55 = .ok (.iconst 0, 1) := by decide +kernel
theorem dX3_beginAltered_56 : decode cX3_beginAltered 56 = .ok (.putfield 56, 3) := by decide +kernel
theorem dX3_beginAltered_59 : decode cX3_beginAltered 59 = .ok (.aload_n 0, 1) := by decide +kernel
theorem dX3_beginAltered_60 : decode cX3_beginAltered 60 = .ok (.iconst 0, 1) := by decide +kernel
theorem dX3_beginAltered_61 : decode cX3_beginAltered 61 = .ok (.putfield 59, 3) := by decide +kernel
theorem dX3_beginAltered_64 : decode cX3_beginAltered 64 = .ok (.aload_n 0, 1) := by decide +kernel
theorem dX3_beginAltered_65 : decode cX3_beginAltered 65 = .ok (.iconst 0, 1) := by decide +kernel
theorem dX3_beginAltered_66 : decode cX3_beginAltered 66 = .ok (.putfield 62, 3) := by decide +kernel
theorem dX3_beginAltered_69 : decode cX3_beginAltered 69 = .ok (.aload_n 0, 1) := by decide +kernel
theorem dX3_beginAltered_70 : decode cX3_beginAltered 70 = .ok (.iconst 0, 1) := by decide +kernel
theorem dX3_beginAltered_71 : decode cX3_beginAltered 71 = .ok (.putfield 65, 3) := by decide +kernel
theorem dX3_beginAltered_74 : decode cX3_beginAltered 74 = .ok (.return_, 1) := by decide +kernel
theorem dX3_goThrough_0 : decode cX3_goThrough 0 = .ok (.aload_n 0, 1) := by decide +kernel
theorem dX3_goThrough_1 : decode cX3_goThrough 1 = .ok (.invokevirtual 68, 3) := by decide +kernel
theorem dX3_goThrough_4 : decode cX3_goThrough 4 = .ok (.iconst 0, 1) := by decide +kernel
theorem dX3_goThrough_5 : decode cX3_goThrough 5 = .ok (.istore_n 2, 1) := by decide +kernel
theorem dX3_goThrough_6 : decode cX3_goThrough 6 = .ok (.iload_n 2, 1) := by decide +kernel
theorem dX3_goThrough_7 : decode cX3_goThrough 7 = .ok (.iload_n 1, 1) := by decide +kernel
theorem dX3_goThrough_8 : decode cX3_goThrough 8 = .ok (.if_icmp .gt 19, 3) := by decide +kernel
theorem dX3_goThrough_11 : decode cX3_goThrough 11 = .ok (.aload_n 0, 1) := by decide +kernel
theorem dX3_goThrough_12 : decode cX3_goThrough 12 = .ok (.iload_n 2, 1) := by decide +kernel
theorem dX3_goThrough_13 : decode cX3_goThrough 13 = .ok (.invokevirtual 71, 3) := by decide +kernel
theorem dX3_goThrough_16 : decode cX3_goThrough 16 = .ok (.aload_n 0, 1) := by decide +kernel
theorem dX3_goThrough_17 : decode cX3_goThrough 17 = .ok (.iload_n 2, 1) := by decide +kernel
theorem dX3_goThrough_18 : decode cX3_goThrough 18 = .ok (.invokevirtual 75, 3) := by decide +kernel
theorem dX3_goThrough_21 : decode cX3_goThrough 21 = .ok (.iinc 2 1, 3) := by decide +kernel
theorem dX3_goThrough_24 : decode cX3_goThrough 24 = .ok (.goto (-18), 3) := by decide +kernel
theorem dX3_goThrough_27 : decode cX3_goThrough 27 = .ok (.return_, 1) := by decide +kernel
theorem dX3_pass_0 : decode cX3_pass 0 = .ok (.aload_n 0, 1) := by decide +kernel
theorem dX3_pass_1 : decode cX3_pass 1 = .ok (.iload_n 1, 1) := by decide +kernel
theorem dX3_pass_2 : decode cX3_pass 2 = .ok (.invokevirtual 71, 3) := by decide +kernel
theorem dX3_pass_5 : decode cX3_pass 5 = .ok (.aload_n 0, 1) := by decide +kernel
theorem dX3_pass_6 : decode cX3_pass 6 = .ok (.iload_n 1, 1) := by decide +kernel
theorem dX3_pass_7 : decode cX3_pass 7 = .ok (.invokevirtual 75, 3) := by decide +kernel
theorem dX3_pass_10 : decode cX3_pass 10 = .ok (.return_, 1) := by decide +kernel
theorem dX3_takeAllOf_0 : decode cX3_takeAllOf 0 = .ok (.aload_n 0, 1) := by decide +kernel
theorem dX3_takeAllOf_1 : decode cX3_takeAllOf 1 = .ok (.getfield 62, 3) := by decide +kernel
theorem dX3_takeAllOf_4 : decode cX3_takeAllOf 4 = .ok (.aload_n 0, 1) := by decide +kernel
theorem dX3_takeAllOf_5 : decode cX3_takeAllOf 5 = .ok (.getfield 29, 3) := by decide +kernel
theorem dX3_takeAllOf_8 : decode cX3_takeAllOf 8 = .ok (.invokevirtual 78, 3) := by decide +kernel
theorem dX3_takeAllOf_11 : decode cX3_takeAllOf 11 = .ok (.if_icmp .ge 52, 3) := by decide +kernel
theorem dX3_takeAllOf_14 : decode cX3_takeAllOf 14 = .ok (.aload_n 0, 1) := by decide +kernel
theorem dX3_takeAllOf_15 : decode cX3_takeAllOf 15 = .ok (.getfield 29, 3) := by decide +kernel
theorem dX3_takeAllOf_18 : decode cX3_takeAllOf 18 = .ok (.getfield 84, 3) := by decide +kernel
theorem dX3_takeAllOf_21 : decode cX3_takeAllOf 21 = .ok (.aload_n 0, 1) := by decide +kernel
theorem dX3_takeAllOf_22 : decode cX3_takeAllOf 22 = .ok (.getfield 62, 3) := by decide +kernel
theorem dX3_takeAllOf_25 : decode cX3_takeAllOf 25 = .ok (.invokevirtual 88, 3) := by decide +kernel
theorem dX3_takeAllOf_28 : decode cX3_takeAllOf 28 = .ok (.iload_n 1, 1) := by decide +kernel
theorem dX3_takeAllOf_29 : decode cX3_takeAllOf 29 = .ok (.if_icmp .ne 34, 3) := by decide +kernel
theorem dX3_takeAllOf_32 : decode cX3_takeAllOf 32 = .ok (.aload_n 0, 1) := by decide +kernel
theorem dX3_takeAllOf_33 : decode cX3_takeAllOf 33 = .ok (.aload_n 0, 1) := by decide +kernel
theorem dX3_takeAllOf_34 : decode cX3_takeAllOf 34 = .ok (.getfield 29, 3) := by decide +kernel
theorem dX3_takeAllOf_37 : decode cX3_takeAllOf 37 = .ok (.getfield 84, 3) := by decide +kernel
theorem dX3_takeAllOf_40 : decode cX3_takeAllOf 40 = .ok (.aload_n 0, 1) := by decide +kernel
theorem dX3_takeAllOf_41 : decode cX3_takeAllOf 41 = .ok (.getfield 62, 3) := by decide +kernel
theorem dX3_takeAllOf_44 : decode cX3_takeAllOf 44 = .ok (.invokevirtual 93, 3) := by decide +kernel
theorem dX3_takeAllOf_47 : decode cX3_takeAllOf 47 = .ok (.invokevirtual 96, 3) := by decide +kernel
theorem dX3_takeAllOf_50 : decode cX3_takeAllOf 50 = .ok (.aload_n 0, 1) := by decide +kernel
theorem dX3_takeAllOf_51 : decode cX3_takeAllOf 51 = .ok (.dup, 1) := by decide +kernel
theorem dX3_takeAllOf_52 : decode cX3_takeAllOf 52 = .ok (.getfield 62, 3) := by decide +kernel
theorem dX3_takeAllOf_55 : decode cX3_takeAllOf 55 = .ok (.iconst 1, 1) := by decide +kernel
theorem dX3_takeAllOf_56 : decode cX3_takeAllOf 56 = .ok (.iadd, 1) := by decide +kernel
theorem dX3_takeAllOf_57 : decode cX3_takeAllOf 57 = .ok (.putfield 62, 3) := by decide +kernel
theorem dX3_takeAllOf_60 : decode cX3_takeAllOf 60 = .ok (.goto (-60), 3) := by decide +kernel
theorem dX3_takeAllOf_63 : decode cX3_takeAllOf 63 = .ok (.return_, 1) := by decide +kernel
theorem dX3_burnAllOf_0 : decode cX3_burnAllOf 0 = .ok (.aload_n 0, 1) := by decide +kernel
theorem dX3_burnAllOf_1 : decode cX3_burnAllOf 1 = .ok (.getfield 65, 3) := by decide +kernel
theorem dX3_burnAllOf_4 : decode cX3_burnAllOf 4 = .ok (.aload_n 0, 1) := by decide +kernel
theorem dX3_burnAllOf_5 : decode cX3_burnAllOf 5 = .ok (.getfield 33, 3) := by decide +kernel
theorem dX3_burnAllOf_8 : decode cX3_burnAllOf 8 = .ok (.invokevirtual 99, 3) := by decide +kernel
theorem dX3_burnAllOf_11 : decode cX3_burnAllOf 11 = .ok (.if_icmp .ge 59, 3) := by decide +kernel
theorem dX3_burnAllOf_14 : decode cX3_burnAllOf 14 = .ok (.aload_n 0, 1) := by decide +kernel
theorem dX3_burnAllOf_15 : decode cX3_burnAllOf 15 = .ok (.getfield 33, 3) := by decide +kernel
theorem dX3_burnAllOf_18 : decode cX3_burnAllOf 18 = .ok (.getfield 102, 3) := by decide +kernel
theorem dX3_burnAllOf_21 : decode cX3_burnAllOf 21 = .ok (.aload_n 0, 1) := by decide +kernel
theorem dX3_burnAllOf_22 : decode cX3_burnAllOf 22 = .ok (.getfield 65, 3) := by decide +kernel
theorem dX3_burnAllOf_25 : decode cX3_burnAllOf 25 = .ok (.invokevirtual 88, 3) := by decide +kernel
theorem dX3_burnAllOf_28 : decode cX3_burnAllOf 28 = .ok (.iload_n 1, 1) := by decide +kernel
theorem dX3_burnAllOf_29 : decode cX3_burnAllOf 29 = .ok (.if_icmp .ne 41, 3) := by decide +kernel
theorem dX3_burnAllOf_32 : decode cX3_burnAllOf 32 = .ok (.aload_n 0, 1) := by decide +kernel
theorem dX3_burnAllOf_33 : decode cX3_burnAllOf 33 = .ok (.aload_n 0, 1) := by decide +kernel
theorem dX3_burnAllOf_34 : decode cX3_burnAllOf 34 = .ok (.getfield 33, 3) := by decide +kernel
theorem dX3_burnAllOf_37 : decode cX3_burnAllOf 37 = .ok (.aload_n 0, 1) := by decide +kernel
theorem dX3_burnAllOf_38 : decode cX3_burnAllOf 38 = .ok (.getfield 33, 3) := by decide +kernel
theorem dX3_burnAllOf_41 : decode cX3_burnAllOf 41 = .ok (.getfield 102, 3) := by decide +kernel
theorem dX3_burnAllOf_44 : decode cX3_burnAllOf 44 = .ok (.aload_n 0, 1) := by decide +kernel
theorem dX3_burnAllOf_45 : decode cX3_burnAllOf 45 = .ok (.getfield 65, 3) := by decide +kernel
theorem dX3_burnAllOf_48 : decode cX3_burnAllOf 48 = .ok (.invokevirtual 93, 3) := by decide +kernel
theorem dX3_burnAllOf_51 : decode cX3_burnAllOf 51 = .ok (.invokevirtual 103, 3) := by decide +kernel
theorem dX3_burnAllOf_54 : decode cX3_burnAllOf 54 = .ok (.invokevirtual 106, 3) := by decide +kernel
theorem dX3_burnAllOf_57 : decode cX3_burnAllOf 57 = .ok (.aload_n 0, 1) := by decide +kernel
theorem dX3_burnAllOf_58 : decode cX3_burnAllOf 58 = .ok (.dup, 1) := by decide +kernel
theorem dX3_burnAllOf_59 : decode cX3_burnAllOf 59 = .ok (.getfield 65, 3) := by decide +kernel
theorem dX3_burnAllOf_62 : decode cX3_burnAllOf 62 = .ok (.iconst 1, 1) := by decide +kernel
theorem dX3_burnAllOf_63 : decode cX3_burnAllOf 63 = .ok (.iadd, 1) := by decide +kernel
theorem dX3_burnAllOf_64 : decode cX3_burnAllOf 64 = .ok (.putfield 65, 3) := by decide +kernel
theorem dX3_burnAllOf_67 : decode cX3_burnAllOf 67 = .ok (.goto (-67), 3) := by decide +kernel
theorem dX3_burnAllOf_70 : decode cX3_burnAllOf 70 = .ok (.return_, 1) := by decide +kernel
theorem dX3_takeUncounted_0 : decode cX3_takeUncounted 0 = .ok (.aload_n 0, 1) := by decide +kernel
theorem dX3_takeUncounted_1 : decode cX3_takeUncounted 1 = .ok (.iload_n 1, 1) := by decide +kernel
theorem dX3_takeUncounted_2 : decode cX3_takeUncounted 2 = .ok (.iload_n 2, 1) := by decide +kernel
theorem dX3_takeUncounted_3 : decode cX3_takeUncounted 3 = .ok (.invokevirtual 109, 3) := by decide +kernel
theorem dX3_takeUncounted_6 : decode cX3_takeUncounted 6 = .ok (.pop, 1) := by decide +kernel
theorem dX3_takeUncounted_7 : decode cX3_takeUncounted 7 = .ok (.aload_n 0, 1) := by decide +kernel
theorem dX3_takeUncounted_8 : decode cX3_takeUncounted 8 = .ok (.aload_n 0, 1) := by decide +kernel
theorem dX3_takeUncounted_9 : decode cX3_takeUncounted 9 = .ok (.getfield 25, 3) := by decide +kernel
theorem dX3_takeUncounted_12 : decode cX3_takeUncounted 12 = .ok (.iload_n 1, 1) := by decide +kernel
theorem dX3_takeUncounted_13 : decode cX3_takeUncounted 13 = .ok (.invokevirtual 113, 3) := by decide +kernel
theorem dX3_takeUncounted_16 : decode cX3_takeUncounted 16 = .ok (.iload_n 2, 1) := by decide +kernel
theorem dX3_takeUncounted_17 : decode cX3_takeUncounted 17 = .ok (.iconst 2, 1) := by decide +kernel
theorem dX3_takeUncounted_18 : decode cX3_takeUncounted 18 = .ok (.idiv, 1) := by decide +kernel
theorem dX3_takeUncounted_19 : decode cX3_takeUncounted 19 = .ok (.invokevirtual 109, 3) := by decide +kernel
theorem dX3_takeUncounted_22 : decode cX3_takeUncounted 22 = .ok (.pop, 1) := by decide +kernel
theorem dX3_takeUncounted_23 : decode cX3_takeUncounted 23 = .ok (.return_, 1) := by decide +kernel
theorem dX3_takePicture_0 : decode cX3_takePicture 0 = .ok (.aload_n 0, 1) := by decide +kernel
theorem dX3_takePicture_1 : decode cX3_takePicture 1 = .ok (.getfield 29, 3) := by decide +kernel
theorem dX3_takePicture_4 : decode cX3_takePicture 4 = .ok (.iload_n 1, 1) := by decide +kernel
theorem dX3_takePicture_5 : decode cX3_takePicture 5 = .ok (.invokevirtual 116, 3) := by decide +kernel
theorem dX3_takePicture_8 : decode cX3_takePicture 8 = .ok (.istore_n 2, 1) := by decide +kernel
theorem dX3_takePicture_9 : decode cX3_takePicture 9 = .ok (.iload_n 1, 1) := by decide +kernel
theorem dX3_takePicture_10 : decode cX3_takePicture 10 = .ok (.aload_n 0, 1) := by decide +kernel
theorem dX3_takePicture_11 : decode cX3_takePicture 11 = .ok (.getfield 21, 3) := by decide +kernel
theorem dX3_takePicture_14 : decode cX3_takePicture 14 = .ok (.if_icmp .ne 10, 3) := by decide +kernel
theorem dX3_takePicture_17 : decode cX3_takePicture 17 = .ok (.aload_n 0, 1) := by decide +kernel
theorem dX3_takePicture_18 : decode cX3_takePicture 18 = .ok (.getfield 41, 3) := by decide +kernel
theorem dX3_takePicture_21 : decode cX3_takePicture 21 = .ok (.goto 11, 3) := by decide +kernel
theorem dX3_takePicture_24 : decode cX3_takePicture 24 = .ok (.aload_n 0, 1) := by decide +kernel
theorem dX3_takePicture_25 : decode cX3_takePicture 25 = .ok (.getfield 29, 3) := by decide +kernel
theorem dX3_takePicture_28 : decode cX3_takePicture 28 = .ok (.iload_n 1, 1) := by decide +kernel
theorem dX3_takePicture_29 : decode cX3_takePicture 29 = .ok (.invokevirtual 119, 3) := by decide +kernel
theorem dX3_takePicture_32 : decode cX3_takePicture 32 = .ok (.istore_n 3, 1) := by decide +kernel
theorem dX3_takePicture_33 : decode cX3_takePicture 33 = .ok (.iload_n 3, 1) := by decide +kernel
theorem dX3_takePicture_34 : decode cX3_takePicture 34 = .ok (.ifCond .eq 21, 3) := by decide +kernel
theorem dX3_takePicture_37 : decode cX3_takePicture 37 = .ok (.iload_n 1, 1) := by decide +kernel
theorem dX3_takePicture_38 : decode cX3_takePicture 38 = .ok (.invokestatic 122, 3) := by decide +kernel
theorem dX3_takePicture_41 : decode cX3_takePicture 41 = .ok (.ifCond .eq 14, 3) := by decide +kernel
theorem dX3_takePicture_44 : decode cX3_takePicture 44 = .ok (.aload_n 0, 1) := by decide +kernel
theorem dX3_takePicture_45 : decode cX3_takePicture 45 = .ok (.getfield 25, 3) := by decide +kernel
theorem dX3_takePicture_48 : decode cX3_takePicture 48 = .ok (.iload_n 2, 1) := by decide +kernel
theorem dX3_takePicture_49 : decode cX3_takePicture 49 = .ok (.invokevirtual 126, 3) := by decide +kernel
theorem dX3_takePicture_52 : decode cX3_takePicture 52 = .ok (.ifCond .ne 4, 3) := by decide +kernel
theorem dX3_takePicture_55 : decode cX3_takePicture 55 = .ok (.return_, 1) := by decide +kernel
theorem dX3_takePicture_56 : decode cX3_takePicture 56 = .ok (.aload_n 0, 1) := by decide +kernel
theorem dX3_takePicture_57 : decode cX3_takePicture 57 = .ok (.dup, 1) := by decide +kernel
theorem dX3_takePicture_58 : decode cX3_takePicture 58 = .ok (.getfield 56, 3) := by decide +kernel
theorem dX3_takePicture_61 : decode cX3_takePicture 61 = .ok (.iconst 1, 1) := by decide +kernel
theorem dX3_takePicture_62 : decode cX3_takePicture 62 = .ok (.iload_n 1, 1) := by decide +kernel
theorem dX3_takePicture_63 : decode cX3_takePicture 63 = .ok (.ishl, 1) := by decide +kernel
theorem dX3_takePicture_64 : decode cX3_takePicture 64 = .ok (.ior, 1) := by decide +kernel
theorem dX3_takePicture_65 : decode cX3_takePicture 65 = .ok (.putfield 56, 3) := by decide +kernel
theorem dX3_takePicture_68 : decode cX3_takePicture 68 = .ok (.aload_n 0, 1) := by decide +kernel
theorem dX3_takePicture_69 : decode cX3_takePicture 69 = .ok (.getfield 15, 3) := by decide +kernel
theorem dX3_takePicture_72 : decode cX3_takePicture 72 = .ok (.iload_n 1, 1) := by decide +kernel
theorem dX3_takePicture_73 : decode cX3_takePicture 73 = .ok (.aload_n 0, 1) := by decide +kernel
theorem dX3_takePicture_74 : decode cX3_takePicture 74 = .ok (.iload_n 2, 1) := by decide +kernel
theorem dX3_takePicture_75 : decode cX3_takePicture 75 = .ok (.iload_n 3, 1) := by decide +kernel
theorem dX3_takePicture_76 : decode cX3_takePicture 76 = .ok (.invokevirtual 109, 3) := by decide +kernel
theorem dX3_takePicture_79 : decode cX3_takePicture 79 = .ok (.iastore, 1) := by decide +kernel
theorem dX3_takePicture_80 : decode cX3_takePicture 80 = .ok (.aload_n 0, 1) := by decide +kernel
theorem dX3_takePicture_81 : decode cX3_takePicture 81 = .ok (.getfield 18, 3) := by decide +kernel
theorem dX3_takePicture_84 : decode cX3_takePicture 84 = .ok (.iload_n 1, 1) := by decide +kernel
theorem dX3_takePicture_85 : decode cX3_takePicture 85 = .ok (.aload_n 0, 1) := by decide +kernel
theorem dX3_takePicture_86 : decode cX3_takePicture 86 = .ok (.aload_n 0, 1) := by decide +kernel
theorem dX3_takePicture_87 : decode cX3_takePicture 87 = .ok (.getfield 25, 3) := by decide +kernel
theorem dX3_takePicture_90 : decode cX3_takePicture 90 = .ok (.iload_n 2, 1) := by decide +kernel
theorem dX3_takePicture_91 : decode cX3_takePicture 91 = .ok (.invokevirtual 113, 3) := by decide +kernel
theorem dX3_takePicture_94 : decode cX3_takePicture 94 = .ok (.iload_n 3, 1) := by decide +kernel
theorem dX3_takePicture_95 : decode cX3_takePicture 95 = .ok (.iconst 2, 1) := by decide +kernel
theorem dX3_takePicture_96 : decode cX3_takePicture 96 = .ok (.idiv, 1) := by decide +kernel
theorem dX3_takePicture_97 : decode cX3_takePicture 97 = .ok (.invokevirtual 109, 3) := by decide +kernel
theorem dX3_takePicture_100 : decode cX3_takePicture 100 = .ok (.iastore, 1) := by decide +kernel
theorem dX3_takePicture_101 : decode cX3_takePicture 101 = .ok (.return_, 1) := by decide +kernel
theorem dX3_takeFrom_0 : decode cX3_takeFrom 0 = .ok (.aload_n 0, 1) := by decide +kernel
theorem dX3_takeFrom_1 : decode cX3_takeFrom 1 = .ok (.getfield 25, 3) := by decide +kernel
theorem dX3_takeFrom_4 : decode cX3_takeFrom 4 = .ok (.iload_n 1, 1) := by decide +kernel
theorem dX3_takeFrom_5 : decode cX3_takeFrom 5 = .ok (.invokevirtual 126, 3) := by decide +kernel
theorem dX3_takeFrom_8 : decode cX3_takeFrom 8 = .ok (.ifCond .ne 5, 3) := by decide +kernel
theorem dX3_takeFrom_11 : decode cX3_takeFrom 11 = .ok (.iconst 0, 1) := by decide +kernel
theorem dX3_takeFrom_12 : decode cX3_takeFrom 12 = .ok (.ireturn, 1) := by decide +kernel
theorem dX3_takeFrom_13 : decode cX3_takeFrom 13 = .ok (.iload_n 2, 1) := by decide +kernel
theorem dX3_takeFrom_14 : decode cX3_takeFrom 14 = .ok (.aload_n 0, 1) := by decide +kernel
theorem dX3_takeFrom_15 : decode cX3_takeFrom 15 = .ok (.getfield 9, 3) := by decide +kernel
theorem dX3_takeFrom_18 : decode cX3_takeFrom 18 = .ok (.iload_n 1, 1) := by decide +kernel
theorem dX3_takeFrom_19 : decode cX3_takeFrom 19 = .ok (.iaload, 1) := by decide +kernel
theorem dX3_takeFrom_20 : decode cX3_takeFrom 20 = .ok (.invokestatic 129, 3) := by decide +kernel
theorem dX3_takeFrom_23 : decode cX3_takeFrom 23 = .ok (.istore_n 3, 1) := by decide +kernel
theorem dX3_takeFrom_24 : decode cX3_takeFrom 24 = .ok (.aload_n 0, 1) := by decide +kernel
theorem dX3_takeFrom_25 : decode cX3_takeFrom 25 = .ok (.getfield 9, 3) := by decide +kernel
theorem dX3_takeFrom_28 : decode cX3_takeFrom 28 = .ok (.iload_n 1, 1) := by decide +kernel
theorem dX3_takeFrom_29 : decode cX3_takeFrom 29 = .ok (.dup2, 1) := by decide +kernel
theorem dX3_takeFrom_30 : decode cX3_takeFrom 30 = .ok (.iaload, 1) := by decide +kernel
theorem dX3_takeFrom_31 : decode cX3_takeFrom 31 = .ok (.iload_n 3, 1) := by decide +kernel
theorem dX3_takeFrom_32 : decode cX3_takeFrom 32 = .ok (.isub, 1) := by decide +kernel
theorem dX3_takeFrom_33 : decode cX3_takeFrom 33 = .ok (.iastore, 1) := by decide +kernel
theorem dX3_takeFrom_34 : decode cX3_takeFrom 34 = .ok (.iload_n 3, 1) := by decide +kernel
theorem dX3_takeFrom_35 : decode cX3_takeFrom 35 = .ok (.ireturn, 1) := by decide +kernel
theorem dX3_burnPicture_0 : decode cX3_burnPicture 0 = .ok (.aload_n 0, 1) := by decide +kernel
theorem dX3_burnPicture_1 : decode cX3_burnPicture 1 = .ok (.iload_n 1, 1) := by decide +kernel
theorem dX3_burnPicture_2 : decode cX3_burnPicture 2 = .ok (.invokevirtual 134, 3) := by decide +kernel
theorem dX3_burnPicture_5 : decode cX3_burnPicture 5 = .ok (.ifCond .ne 4, 3) := by decide +kernel
theorem dX3_burnPicture_8 : decode cX3_burnPicture 8 = .ok (.return_, 1) := by decide +kernel
theorem dX3_burnPicture_9 : decode cX3_burnPicture 9 = .ok (.aload_n 0, 1) := by decide +kernel
theorem dX3_burnPicture_10 : decode cX3_burnPicture 10 = .ok (.getfield 29, 3) := by decide +kernel
theorem dX3_burnPicture_13 : decode cX3_burnPicture 13 = .ok (.iload_n 1, 1) := by decide +kernel
theorem dX3_burnPicture_14 : decode cX3_burnPicture 14 = .ok (.invokevirtual 116, 3) := by decide +kernel
theorem dX3_burnPicture_17 : decode cX3_burnPicture 17 = .ok (.istore_n 2, 1) := by decide +kernel
theorem dX3_burnPicture_18 : decode cX3_burnPicture 18 = .ok (.aload_n 0, 1) := by decide +kernel
theorem dX3_burnPicture_19 : decode cX3_burnPicture 19 = .ok (.dup, 1) := by decide +kernel
theorem dX3_burnPicture_20 : decode cX3_burnPicture 20 = .ok (.getfield 59, 3) := by decide +kernel
theorem dX3_burnPicture_23 : decode cX3_burnPicture 23 = .ok (.iconst 1, 1) := by decide +kernel
theorem dX3_burnPicture_24 : decode cX3_burnPicture 24 = .ok (.iload_n 1, 1) := by decide +kernel
theorem dX3_burnPicture_25 : decode cX3_burnPicture 25 = .ok (.ishl, 1) := by decide +kernel
theorem dX3_burnPicture_26 : decode cX3_burnPicture 26 = .ok (.ior, 1) := by decide +kernel
theorem dX3_burnPicture_27 : decode cX3_burnPicture 27 = .ok (.putfield 59, 3) := by decide +kernel
theorem dX3_burnPicture_30 : decode cX3_burnPicture 30 = .ok (.aload_n 0, 1) := by decide +kernel
theorem dX3_burnPicture_31 : decode cX3_burnPicture 31 = .ok (.iload_n 2, 1) := by decide +kernel
theorem dX3_burnPicture_32 : decode cX3_burnPicture 32 = .ok (.aload_n 0, 1) := by decide +kernel
theorem dX3_burnPicture_33 : decode cX3_burnPicture 33 = .ok (.getfield 15, 3) := by decide +kernel
theorem dX3_burnPicture_36 : decode cX3_burnPicture 36 = .ok (.iload_n 1, 1) := by decide +kernel
theorem dX3_burnPicture_37 : decode cX3_burnPicture 37 = .ok (.iaload, 1) := by decide +kernel
theorem dX3_burnPicture_38 : decode cX3_burnPicture 38 = .ok (.invokevirtual 137, 3) := by decide +kernel
theorem dX3_burnPicture_41 : decode cX3_burnPicture 41 = .ok (.aload_n 0, 1) := by decide +kernel
theorem dX3_burnPicture_42 : decode cX3_burnPicture 42 = .ok (.aload_n 0, 1) := by decide +kernel
theorem dX3_burnPicture_43 : decode cX3_burnPicture 43 = .ok (.getfield 25, 3) := by decide +kernel
theorem dX3_burnPicture_46 : decode cX3_burnPicture 46 = .ok (.iload_n 2, 1) := by decide +kernel
theorem dX3_burnPicture_47 : decode cX3_burnPicture 47 = .ok (.invokevirtual 113, 3) := by decide +kernel
theorem dX3_burnPicture_50 : decode cX3_burnPicture 50 = .ok (.aload_n 0, 1) := by decide +kernel
theorem dX3_burnPicture_51 : decode cX3_burnPicture 51 = .ok (.getfield 18, 3) := by decide +kernel
theorem dX3_burnPicture_54 : decode cX3_burnPicture 54 = .ok (.iload_n 1, 1) := by decide +kernel
theorem dX3_burnPicture_55 : decode cX3_burnPicture 55 = .ok (.iaload, 1) := by decide +kernel
theorem dX3_burnPicture_56 : decode cX3_burnPicture 56 = .ok (.invokevirtual 137, 3) := by decide +kernel
theorem dX3_burnPicture_59 : decode cX3_burnPicture 59 = .ok (.return_, 1) := by decide +kernel
theorem dX3_giveTo_0 : decode cX3_giveTo 0 = .ok (.aload_n 0, 1) := by decide +kernel
theorem dX3_giveTo_1 : decode cX3_giveTo 1 = .ok (.getfield 25, 3) := by decide +kernel
theorem dX3_giveTo_4 : decode cX3_giveTo 4 = .ok (.iload_n 1, 1) := by decide +kernel
theorem dX3_giveTo_5 : decode cX3_giveTo 5 = .ok (.invokevirtual 126, 3) := by decide +kernel
theorem dX3_giveTo_8 : decode cX3_giveTo 8 = .ok (.ifCond .eq 13, 3) := by decide +kernel
theorem dX3_giveTo_11 : decode cX3_giveTo 11 = .ok (.aload_n 0, 1) := by decide +kernel
theorem dX3_giveTo_12 : decode cX3_giveTo 12 = .ok (.getfield 9, 3) := by decide +kernel
theorem dX3_giveTo_15 : decode cX3_giveTo 15 = .ok (.iload_n 1, 1) := by decide +kernel
theorem dX3_giveTo_16 : decode cX3_giveTo 16 = .ok (.dup2, 1) := by decide +kernel
theorem dX3_giveTo_17 : decode cX3_giveTo 17 = .ok (.iaload, 1) := by decide +kernel
theorem dX3_giveTo_18 : decode cX3_giveTo 18 = .ok (.iload_n 2, 1) := by decide +kernel
theorem dX3_giveTo_19 : decode cX3_giveTo 19 = .ok (.iadd, 1) := by decide +kernel
theorem dX3_giveTo_20 : decode cX3_giveTo 20 = .ok (.iastore, 1) := by decide +kernel
theorem dX3_giveTo_21 : decode cX3_giveTo 21 = .ok (.return_, 1) := by decide +kernel
theorem dX3_isNumber_0 : decode cX3_isNumber 0 = .ok (.iload_n 0, 1) := by decide +kernel
theorem dX3_isNumber_1 : decode cX3_isNumber 1 = .ok (.ifCond .lt 13, 3) := by decide +kernel
theorem dX3_isNumber_4 : decode cX3_isNumber 4 = .ok (.iload_n 0, 1) := by decide +kernel
theorem dX3_isNumber_5 : decode cX3_isNumber 5 = .ok (.bipush 12, 2) := by decide +kernel
theorem dX3_isNumber_7 : decode cX3_isNumber 7 = .ok (.if_icmp .ge 7, 3) := by decide +kernel
theorem dX3_isNumber_10 : decode cX3_isNumber 10 = .ok (.iconst 1, 1) := by decide +kernel
theorem dX3_isNumber_11 : decode cX3_isNumber 11 = .ok (.goto 4, 3) := by decide +kernel
theorem dX3_isNumber_14 : decode cX3_isNumber 14 = .ok (.iconst 0, 1) := by decide +kernel
theorem dX3_isNumber_15 : decode cX3_isNumber 15 = .ok (.ireturn, 1) := by decide +kernel
theorem dX3_isThere_0 : decode cX3_isThere 0 = .ok (.iload_n 1, 1) := by decide +kernel
theorem dX3_isThere_1 : decode cX3_isThere 1 = .ok (.invokestatic 122, 3) := by decide +kernel
theorem dX3_isThere_4 : decode cX3_isThere 4 = .ok (.ifCond .eq 19, 3) := by decide +kernel
theorem dX3_isThere_7 : decode cX3_isThere 7 = .ok (.aload_n 0, 1) := by decide +kernel
theorem dX3_isThere_8 : decode cX3_isThere 8 = .ok (.invokevirtual 140, 3) := by decide +kernel
theorem dX3_isThere_11 : decode cX3_isThere 11 = .ok (.iload_n 1, 1) := by decide +kernel
theorem dX3_isThere_12 : decode cX3_isThere 12 = .ok (.ishr, 1) := by decide +kernel
theorem dX3_isThere_13 : decode cX3_isThere 13 = .ok (.iconst 1, 1) := by decide +kernel
theorem dX3_isThere_14 : decode cX3_isThere 14 = .ok (.iand, 1) := by decide +kernel
theorem dX3_isThere_15 : decode cX3_isThere 15 = .ok (.iconst 1, 1) := by decide +kernel
theorem dX3_isThere_16 : decode cX3_isThere 16 = .ok (.if_icmp .ne 7, 3) := by decide +kernel
theorem dX3_isThere_19 : decode cX3_isThere 19 = .ok (.iconst 1, 1) := by decide +kernel
theorem dX3_isThere_20 : decode cX3_isThere 20 = .ok (.goto 4, 3) := by decide +kernel
theorem dX3_isThere_23 : decode cX3_isThere 23 = .ok (.iconst 0, 1) := by decide +kernel
theorem dX3_isThere_24 : decode cX3_isThere 24 = .ok (.ireturn, 1) := by decide +kernel
theorem dX3_thereBits_0 : decode cX3_thereBits 0 = .ok (.aload_n 0, 1) := by decide +kernel
theorem dX3_thereBits_1 : decode cX3_thereBits 1 = .ok (.getfield 56, 3) := by decide +kernel
theorem dX3_thereBits_4 : decode cX3_thereBits 4 = .ok (.aload_n 0, 1) := by decide +kernel
theorem dX3_thereBits_5 : decode cX3_thereBits 5 = .ok (.getfield 59, 3) := by decide +kernel
theorem dX3_thereBits_8 : decode cX3_thereBits 8 = .ok (.iconst (-1), 1) := by decide +kernel
theorem dX3_thereBits_9 : decode cX3_thereBits 9 = .ok (.ixor, 1) := by decide +kernel
theorem dX3_thereBits_10 : decode cX3_thereBits 10 = .ok (.iand, 1) := by decide +kernel
theorem dX3_thereBits_11 : decode cX3_thereBits 11 = .ok (.ireturn, 1) := by decide +kernel
theorem dX3_solidOf_0 : decode cX3_solidOf 0 = .ok (.aload_n 0, 1) := by decide +kernel
theorem dX3_solidOf_1 : decode cX3_solidOf 1 = .ok (.getfield 25, 3) := by decide +kernel
theorem dX3_solidOf_4 : decode cX3_solidOf 4 = .ok (.iload_n 1, 1) := by decide +kernel
theorem dX3_solidOf_5 : decode cX3_solidOf 5 = .ok (.invokevirtual 126, 3) := by decide +kernel
theorem dX3_solidOf_8 : decode cX3_solidOf 8 = .ok (.ifCond .eq 12, 3) := by decide +kernel
theorem dX3_solidOf_11 : decode cX3_solidOf 11 = .ok (.aload_n 0, 1) := by decide +kernel
theorem dX3_solidOf_12 : decode cX3_solidOf 12 = .ok (.getfield 9, 3) := by decide +kernel
theorem dX3_solidOf_15 : decode cX3_solidOf 15 = .ok (.iload_n 1, 1) := by decide +kernel
theorem dX3_solidOf_16 : decode cX3_solidOf 16 = .ok (.iaload, 1) := by decide +kernel
theorem dX3_solidOf_17 : decode cX3_solidOf 17 = .ok (.goto 4, 3) := by decide +kernel
theorem dX3_solidOf_20 : decode cX3_solidOf 20 = .ok (.iconst (-1), 1) := by decide +kernel
theorem dX3_solidOf_21 : decode cX3_solidOf 21 = .ok (.ireturn, 1) := by decide +kernel
theorem dX3_tookOfPerson_0 : decode cX3_tookOfPerson 0 = .ok (.iload_n 1, 1) := by decide +kernel
theorem dX3_tookOfPerson_1 : decode cX3_tookOfPerson 1 = .ok (.invokestatic 122, 3) := by decide +kernel
theorem dX3_tookOfPerson_4 : decode cX3_tookOfPerson 4 = .ok (.ifCond .eq 12, 3) := by decide +kernel
theorem dX3_tookOfPerson_7 : decode cX3_tookOfPerson 7 = .ok (.aload_n 0, 1) := by decide +kernel
theorem dX3_tookOfPerson_8 : decode cX3_tookOfPerson 8 = .ok (.getfield 15, 3) := by decide +kernel
theorem dX3_tookOfPerson_11 : decode cX3_tookOfPerson 11 = .ok (.iload_n 1, 1) := by decide +kernel
theorem dX3_tookOfPerson_12 : decode cX3_tookOfPerson 12 = .ok (.iaload, 1) := by decide +kernel
theorem dX3_tookOfPerson_13 : decode cX3_tookOfPerson 13 = .ok (.goto 4, 3) := by decide +kernel
theorem dX3_tookOfPerson_16 : decode cX3_tookOfPerson 16 = .ok (.iconst 0, 1) := by decide +kernel
theorem dX3_tookOfPerson_17 : decode cX3_tookOfPerson 17 = .ok (.ireturn, 1) := by decide +kernel
theorem dX3_tookOfTwin_0 : decode cX3_tookOfTwin 0 = .ok (.iload_n 1, 1) := by decide +kernel
theorem dX3_tookOfTwin_1 : decode cX3_tookOfTwin 1 = .ok (.invokestatic 122, 3) := by decide +kernel
theorem dX3_tookOfTwin_4 : decode cX3_tookOfTwin 4 = .ok (.ifCond .eq 12, 3) := by decide +kernel
theorem dX3_tookOfTwin_7 : decode cX3_tookOfTwin 7 = .ok (.aload_n 0, 1) := by decide +kernel
theorem dX3_tookOfTwin_8 : decode cX3_tookOfTwin 8 = .ok (.getfield 18, 3) := by decide +kernel
theorem dX3_tookOfTwin_11 : decode cX3_tookOfTwin 11 = .ok (.iload_n 1, 1) := by decide +kernel
theorem dX3_tookOfTwin_12 : decode cX3_tookOfTwin 12 = .ok (.iaload, 1) := by decide +kernel
theorem dX3_tookOfTwin_13 : decode cX3_tookOfTwin 13 = .ok (.goto 4, 3) := by decide +kernel
theorem dX3_tookOfTwin_16 : decode cX3_tookOfTwin 16 = .ok (.iconst 0, 1) := by decide +kernel
theorem dX3_tookOfTwin_17 : decode cX3_tookOfTwin 17 = .ok (.ireturn, 1) := by decide +kernel
theorem dX3_tookOfBoth_0 : decode cX3_tookOfBoth 0 = .ok (.aload_n 0, 1) := by decide +kernel
theorem dX3_tookOfBoth_1 : decode cX3_tookOfBoth 1 = .ok (.iload_n 1, 1) := by decide +kernel
theorem dX3_tookOfBoth_2 : decode cX3_tookOfBoth 2 = .ok (.invokevirtual 143, 3) := by decide +kernel
theorem dX3_tookOfBoth_5 : decode cX3_tookOfBoth 5 = .ok (.aload_n 0, 1) := by decide +kernel
theorem dX3_tookOfBoth_6 : decode cX3_tookOfBoth 6 = .ok (.iload_n 1, 1) := by decide +kernel
theorem dX3_tookOfBoth_7 : decode cX3_tookOfBoth 7 = .ok (.invokevirtual 146, 3) := by decide +kernel
theorem dX3_tookOfBoth_10 : decode cX3_tookOfBoth 10 = .ok (.iadd, 1) := by decide +kernel
theorem dX3_tookOfBoth_11 : decode cX3_tookOfBoth 11 = .ok (.ireturn, 1) := by decide +kernel
theorem dX3_giftTo_0 : decode cX3_giftTo 0 = .ok (.aload_n 0, 1) := by decide +kernel
theorem dX3_giftTo_1 : decode cX3_giftTo 1 = .ok (.getfield 29, 3) := by decide +kernel
theorem dX3_giftTo_4 : decode cX3_giftTo 4 = .ok (.iload_n 2, 1) := by decide +kernel
theorem dX3_giftTo_5 : decode cX3_giftTo 5 = .ok (.invokevirtual 116, 3) := by decide +kernel
theorem dX3_giftTo_8 : decode cX3_giftTo 8 = .ok (.istore_n 3, 1) := by decide +kernel
theorem dX3_giftTo_9 : decode cX3_giftTo 9 = .ok (.iload_n 3, 1) := by decide +kernel
theorem dX3_giftTo_10 : decode cX3_giftTo 10 = .ok (.iload_n 1, 1) := by decide +kernel
theorem dX3_giftTo_11 : decode cX3_giftTo 11 = .ok (.if_icmp .ne 9, 3) := by decide +kernel
theorem dX3_giftTo_14 : decode cX3_giftTo 14 = .ok (.aload_n 0, 1) := by decide +kernel
theorem dX3_giftTo_15 : decode cX3_giftTo 15 = .ok (.iload_n 2, 1) := by decide +kernel
theorem dX3_giftTo_16 : decode cX3_giftTo 16 = .ok (.invokevirtual 143, 3) := by decide +kernel
theorem dX3_giftTo_19 : decode cX3_giftTo 19 = .ok (.ireturn, 1) := by decide +kernel
theorem dX3_giftTo_20 : decode cX3_giftTo 20 = .ok (.aload_n 0, 1) := by decide +kernel
theorem dX3_giftTo_21 : decode cX3_giftTo 21 = .ok (.getfield 25, 3) := by decide +kernel
theorem dX3_giftTo_24 : decode cX3_giftTo 24 = .ok (.iload_n 3, 1) := by decide +kernel
theorem dX3_giftTo_25 : decode cX3_giftTo 25 = .ok (.invokevirtual 113, 3) := by decide +kernel
theorem dX3_giftTo_28 : decode cX3_giftTo 28 = .ok (.iload_n 1, 1) := by decide +kernel
theorem dX3_giftTo_29 : decode cX3_giftTo 29 = .ok (.if_icmp .ne 11, 3) := by decide +kernel
theorem dX3_giftTo_32 : decode cX3_giftTo 32 = .ok (.aload_n 0, 1) := by decide +kernel
theorem dX3_giftTo_33 : decode cX3_giftTo 33 = .ok (.iload_n 2, 1) := by decide +kernel
theorem dX3_giftTo_34 : decode cX3_giftTo 34 = .ok (.invokevirtual 146, 3) := by decide +kernel
theorem dX3_giftTo_37 : decode cX3_giftTo 37 = .ok (.goto 4, 3) := by decide +kernel
theorem dX3_giftTo_40 : decode cX3_giftTo 40 = .ok (.iconst 0, 1) := by decide +kernel
theorem dX3_giftTo_41 : decode cX3_giftTo 41 = .ok (.ireturn, 1) := by decide +kernel
theorem dX3_drawerOf_0 : decode cX3_drawerOf 0 = .ok (.aload_n 0, 1) := by decide +kernel
theorem dX3_drawerOf_1 : decode cX3_drawerOf 1 = .ok (.getfield 29, 3) := by decide +kernel
theorem dX3_drawerOf_4 : decode cX3_drawerOf 4 = .ok (.iload_n 1, 1) := by decide +kernel
theorem dX3_drawerOf_5 : decode cX3_drawerOf 5 = .ok (.invokevirtual 149, 3) := by decide +kernel
theorem dX3_drawerOf_8 : decode cX3_drawerOf 8 = .ok (.ireturn, 1) := by decide +kernel
theorem dX3_heldBy_0 : decode cX3_heldBy 0 = .ok (.iconst 0, 1) := by decide +kernel
theorem dX3_heldBy_1 : decode cX3_heldBy 1 = .ok (.istore_n 2, 1) := by decide +kernel
theorem dX3_heldBy_2 : decode cX3_heldBy 2 = .ok (.iconst 0, 1) := by decide +kernel
theorem dX3_heldBy_3 : decode cX3_heldBy 3 = .ok (.istore_n 3, 1) := by decide +kernel
theorem dX3_heldBy_4 : decode cX3_heldBy 4 = .ok (.iload_n 3, 1) := by decide +kernel
theorem dX3_heldBy_5 : decode cX3_heldBy 5 = .ok (.bipush 12, 2) := by decide +kernel
theorem dX3_heldBy_7 : decode cX3_heldBy 7 = .ok (.if_icmp .ge 37, 3) := by decide +kernel
theorem dX3_heldBy_10 : decode cX3_heldBy 10 = .ok (.aload_n 0, 1) := by decide +kernel
theorem dX3_heldBy_11 : decode cX3_heldBy 11 = .ok (.iload_n 3, 1) := by decide +kernel
theorem dX3_heldBy_12 : decode cX3_heldBy 12 = .ok (.invokevirtual 134, 3) := by decide +kernel
theorem dX3_heldBy_15 : decode cX3_heldBy 15 = .ok (.ifCond .eq 23, 3) := by decide +kernel
theorem dX3_heldBy_18 : decode cX3_heldBy 18 = .ok (.aload_n 0, 1) := by decide +kernel
theorem dX3_heldBy_19 : decode cX3_heldBy 19 = .ok (.getfield 29, 3) := by decide +kernel
theorem dX3_heldBy_22 : decode cX3_heldBy 22 = .ok (.iload_n 3, 1) := by decide +kernel
theorem dX3_heldBy_23 : decode cX3_heldBy 23 = .ok (.invokevirtual 149, 3) := by decide +kernel
theorem dX3_heldBy_26 : decode cX3_heldBy 26 = .ok (.iload_n 1, 1) := by decide +kernel
theorem dX3_heldBy_27 : decode cX3_heldBy 27 = .ok (.if_icmp .ne 11, 3) := by decide +kernel
theorem dX3_heldBy_30 : decode cX3_heldBy 30 = .ok (.iload_n 2, 1) := by decide +kernel
theorem dX3_heldBy_31 : decode cX3_heldBy 31 = .ok (.aload_n 0, 1) := by decide +kernel
theorem dX3_heldBy_32 : decode cX3_heldBy 32 = .ok (.iload_n 3, 1) := by decide +kernel
theorem dX3_heldBy_33 : decode cX3_heldBy 33 = .ok (.invokevirtual 152, 3) := by decide +kernel
theorem dX3_heldBy_36 : decode cX3_heldBy 36 = .ok (.iadd, 1) := by decide +kernel
theorem dX3_heldBy_37 : decode cX3_heldBy 37 = .ok (.istore_n 2, 1) := by decide +kernel
theorem dX3_heldBy_38 : decode cX3_heldBy 38 = .ok (.iinc 3 1, 3) := by decide +kernel
theorem dX3_heldBy_41 : decode cX3_heldBy 41 = .ok (.goto (-37), 3) := by decide +kernel
theorem dX3_heldBy_44 : decode cX3_heldBy 44 = .ok (.iload_n 2, 1) := by decide +kernel
theorem dX3_heldBy_45 : decode cX3_heldBy 45 = .ok (.ireturn, 1) := by decide +kernel
theorem dX3_allTogether_0 : decode cX3_allTogether 0 = .ok (.iconst 0, 1) := by decide +kernel
theorem dX3_allTogether_1 : decode cX3_allTogether 1 = .ok (.istore_n 1, 1) := by decide +kernel
theorem dX3_allTogether_2 : decode cX3_allTogether 2 = .ok (.iconst 0, 1) := by decide +kernel
theorem dX3_allTogether_3 : decode cX3_allTogether 3 = .ok (.istore_n 2, 1) := by decide +kernel
theorem dX3_allTogether_4 : decode cX3_allTogether 4 = .ok (.iload_n 2, 1) := by decide +kernel
theorem dX3_allTogether_5 : decode cX3_allTogether 5 = .ok (.aload_n 0, 1) := by decide +kernel
theorem dX3_allTogether_6 : decode cX3_allTogether 6 = .ok (.getfield 25, 3) := by decide +kernel
theorem dX3_allTogether_9 : decode cX3_allTogether 9 = .ok (.invokevirtual 155, 3) := by decide +kernel
theorem dX3_allTogether_12 : decode cX3_allTogether 12 = .ok (.if_icmp .ge 18, 3) := by decide +kernel
theorem dX3_allTogether_15 : decode cX3_allTogether 15 = .ok (.iload_n 1, 1) := by decide +kernel
theorem dX3_allTogether_16 : decode cX3_allTogether 16 = .ok (.aload_n 0, 1) := by decide +kernel
theorem dX3_allTogether_17 : decode cX3_allTogether 17 = .ok (.getfield 9, 3) := by decide +kernel
theorem dX3_allTogether_20 : decode cX3_allTogether 20 = .ok (.iload_n 2, 1) := by decide +kernel
theorem dX3_allTogether_21 : decode cX3_allTogether 21 = .ok (.iaload, 1) := by decide +kernel
theorem dX3_allTogether_22 : decode cX3_allTogether 22 = .ok (.iadd, 1) := by decide +kernel
theorem dX3_allTogether_23 : decode cX3_allTogether 23 = .ok (.istore_n 1, 1) := by decide +kernel
theorem dX3_allTogether_24 : decode cX3_allTogether 24 = .ok (.iinc 2 1, 3) := by decide +kernel
theorem dX3_allTogether_27 : decode cX3_allTogether 27 = .ok (.goto (-23), 3) := by decide +kernel
theorem dX3_allTogether_30 : decode cX3_allTogether 30 = .ok (.iconst 0, 1) := by decide +kernel
theorem dX3_allTogether_31 : decode cX3_allTogether 31 = .ok (.istore_n 2, 1) := by decide +kernel
theorem dX3_allTogether_32 : decode cX3_allTogether 32 = .ok (.iload_n 2, 1) := by decide +kernel
theorem dX3_allTogether_33 : decode cX3_allTogether 33 = .ok (.iconst 4, 1) := by decide +kernel
theorem dX3_allTogether_34 : decode cX3_allTogether 34 = .ok (.if_icmp .ge 17, 3) := by decide +kernel
theorem dX3_allTogether_37 : decode cX3_allTogether 37 = .ok (.iload_n 1, 1) := by decide +kernel
theorem dX3_allTogether_38 : decode cX3_allTogether 38 = .ok (.aload_n 0, 1) := by decide +kernel
theorem dX3_allTogether_39 : decode cX3_allTogether 39 = .ok (.iload_n 2, 1) := by decide +kernel
theorem dX3_allTogether_40 : decode cX3_allTogether 40 = .ok (.invokevirtual 156, 3) := by decide +kernel
theorem dX3_allTogether_43 : decode cX3_allTogether 43 = .ok (.iadd, 1) := by decide +kernel
theorem dX3_allTogether_44 : decode cX3_allTogether 44 = .ok (.istore_n 1, 1) := by decide +kernel
theorem dX3_allTogether_45 : decode cX3_allTogether 45 = .ok (.iinc 2 1, 3) := by decide +kernel
theorem dX3_allTogether_48 : decode cX3_allTogether 48 = .ok (.goto (-16), 3) := by decide +kernel
theorem dX3_allTogether_51 : decode cX3_allTogether 51 = .ok (.iload_n 1, 1) := by decide +kernel
theorem dX3_allTogether_52 : decode cX3_allTogether 52 = .ok (.ireturn, 1) := by decide +kernel
theorem dX3_unseenBits_0 : decode cX3_unseenBits 0 = .ok (.iconst 0, 1) := by decide +kernel
theorem dX3_unseenBits_1 : decode cX3_unseenBits 1 = .ok (.istore_n 2, 1) := by decide +kernel
theorem dX3_unseenBits_2 : decode cX3_unseenBits 2 = .ok (.iconst 0, 1) := by decide +kernel
theorem dX3_unseenBits_3 : decode cX3_unseenBits 3 = .ok (.istore_n 3, 1) := by decide +kernel
theorem dX3_unseenBits_4 : decode cX3_unseenBits 4 = .ok (.iload_n 3, 1) := by decide +kernel
theorem dX3_unseenBits_5 : decode cX3_unseenBits 5 = .ok (.aload_n 0, 1) := by decide +kernel
theorem dX3_unseenBits_6 : decode cX3_unseenBits 6 = .ok (.getfield 25, 3) := by decide +kernel
theorem dX3_unseenBits_9 : decode cX3_unseenBits 9 = .ok (.invokevirtual 155, 3) := by decide +kernel
theorem dX3_unseenBits_12 : decode cX3_unseenBits 12 = .ok (.if_icmp .ge 25, 3) := by decide +kernel
theorem dX3_unseenBits_15 : decode cX3_unseenBits 15 = .ok (.aload_n 0, 1) := by decide +kernel
theorem dX3_unseenBits_16 : decode cX3_unseenBits 16 = .ok (.getfield 9, 3) := by decide +kernel
theorem dX3_unseenBits_19 : decode cX3_unseenBits 19 = .ok (.iload_n 3, 1) := by decide +kernel
theorem dX3_unseenBits_20 : decode cX3_unseenBits 20 = .ok (.iaload, 1) := by decide +kernel
theorem dX3_unseenBits_21 : decode cX3_unseenBits 21 = .ok (.iload_n 1, 1) := by decide +kernel
theorem dX3_unseenBits_22 : decode cX3_unseenBits 22 = .ok (.if_icmp .ge 9, 3) := by decide +kernel
theorem dX3_unseenBits_25 : decode cX3_unseenBits 25 = .ok (.iload_n 2, 1) := by decide +kernel
theorem dX3_unseenBits_26 : decode cX3_unseenBits 26 = .ok (.iconst 1, 1) := by decide +kernel
theorem dX3_unseenBits_27 : decode cX3_unseenBits 27 = .ok (.iload_n 3, 1) := by decide +kernel
theorem dX3_unseenBits_28 : decode cX3_unseenBits 28 = .ok (.ishl, 1) := by decide +kernel
theorem dX3_unseenBits_29 : decode cX3_unseenBits 29 = .ok (.ior, 1) := by decide +kernel
theorem dX3_unseenBits_30 : decode cX3_unseenBits 30 = .ok (.istore_n 2, 1) := by decide +kernel
theorem dX3_unseenBits_31 : decode cX3_unseenBits 31 = .ok (.iinc 3 1, 3) := by decide +kernel
theorem dX3_unseenBits_34 : decode cX3_unseenBits 34 = .ok (.goto (-30), 3) := by decide +kernel
theorem dX3_unseenBits_37 : decode cX3_unseenBits 37 = .ok (.iload_n 2, 1) := by decide +kernel
theorem dX3_unseenBits_38 : decode cX3_unseenBits 38 = .ok (.ireturn, 1) := by decide +kernel
theorem dX4_init_0 : decode cX4_init 0 = .ok (.aload_n 0, 1) := by decide +kernel
theorem dX4_init_1 : decode cX4_init 1 = .ok (.invokespecial 3, 3) := by decide +kernel
theorem dX4_init_4 : decode cX4_init 4 = .ok (.aload_n 0, 1) := by decide +kernel
theorem dX4_init_5 : decode cX4_init 5 = .ok (.bipush 31, 2) := by decide +kernel
theorem dX4_init_7 : decode cX4_init 7 = .ok (.newarray .int, 2) := by decide +kernel
theorem dX4_init_9 : decode cX4_init 9 = .ok (.putfield 9, 3) := by decide +kernel
theorem dX4_init_12 : decode cX4_init 12 = .ok (.aload_n 0, 1) := by decide +kernel
theorem dX4_init_13 : decode cX4_init 13 = .ok (.bipush 8, 2) := by decide +kernel
theorem dX4_init_15 : decode cX4_init 15 = .ok (.newarray .int, 2) := by decide +kernel
theorem dX4_init_17 : decode cX4_init 17 = .ok (.putfield 15, 3) := by decide +kernel
theorem dX4_init_20 : decode cX4_init 20 = .ok (.aload_n 0, 1) := by decide +kernel
theorem dX4_init_21 : decode cX4_init 21 = .ok (.bipush 8, 2) := by decide +kernel
theorem dX4_init_23 : decode cX4_init 23 = .ok (.newarray .int, 2) := by decide +kernel
theorem dX4_init_25 : decode cX4_init 25 = .ok (.putfield 18, 3) := by decide +kernel
theorem dX4_init_28 : decode cX4_init 28 = .ok (.aload_n 0, 1) := by decide +kernel
theorem dX4_init_29 : decode cX4_init 29 = .ok (.iconst (-1), 1) := by decide +kernel
theorem dX4_init_30 : decode cX4_init 30 = .ok (.putfield 21, 3) := by decide +kernel
theorem dX4_init_33 : decode cX4_init 33 = .ok (.return_, 1) := by decide +kernel
theorem dX4_length_0 : decode cX4_length 0 = .ok (.aload_n 0, 1) := by decide +kernel
theorem dX4_length_1 : decode cX4_length 1 = .ok (.getfield 25, 3) := by decide +kernel
theorem dX4_length_4 : decode cX4_length 4 = .ok (.ireturn, 1) := by decide +kernel
theorem dX4_faultPlace_0 : decode cX4_faultPlace 0 = .ok (.aload_n 0, 1) := by decide +kernel
theorem dX4_faultPlace_1 : decode cX4_faultPlace 1 = .ok (.getfield 21, 3) := by decide +kernel
theorem dX4_faultPlace_4 : decode cX4_faultPlace 4 = .ok (.ireturn, 1) := by decide +kernel
theorem dX4_howMany_0 : decode cX4_howMany 0 = .ok (.aload_n 0, 1) := by decide +kernel
theorem dX4_howMany_1 : decode cX4_howMany 1 = .ok (.getfield 28, 3) := by decide +kernel
theorem dX4_howMany_4 : decode cX4_howMany 4 = .ok (.ireturn, 1) := by decide +kernel
theorem dX4_has_0 : decode cX4_has 0 = .ok (.iload_n 1, 1) := by decide +kernel
theorem dX4_has_1 : decode cX4_has 1 = .ok (.ifCond .lt 15, 3) := by decide +kernel
theorem dX4_has_4 : decode cX4_has 4 = .ok (.iload_n 1, 1) := by decide +kernel
theorem dX4_has_5 : decode cX4_has 5 = .ok (.aload_n 0, 1) := by decide +kernel
theorem dX4_has_6 : decode cX4_has 6 = .ok (.getfield 28, 3) := by decide +kernel
theorem dX4_has_9 : decode cX4_has 9 = .ok (.if_icmp .ge 7, 3) := by decide +kernel
theorem dX4_has_12 : decode cX4_has 12 = .ok (.iconst 1, 1) := by decide +kernel
theorem dX4_has_13 : decode cX4_has 13 = .ok (.goto 4, 3) := by decide +kernel
theorem dX4_has_16 : decode cX4_has 16 = .ok (.iconst 0, 1) := by decide +kernel
theorem dX4_has_17 : decode cX4_has 17 = .ok (.ireturn, 1) := by decide +kernel
theorem dX4_solidAtFirst_0 : decode cX4_solidAtFirst 0 = .ok (.aload_n 0, 1) := by decide +kernel
theorem dX4_solidAtFirst_1 : decode cX4_solidAtFirst 1 = .ok (.iload_n 1, 1) := by decide +kernel
theorem dX4_solidAtFirst_2 : decode cX4_solidAtFirst 2 = .ok (.invokevirtual 31, 3) := by decide +kernel
theorem dX4_solidAtFirst_5 : decode cX4_solidAtFirst 5 = .ok (.ifCond .eq 12, 3) := by decide +kernel
theorem dX4_solidAtFirst_8 : decode cX4_solidAtFirst 8 = .ok (.aload_n 0, 1) := by decide +kernel
theorem dX4_solidAtFirst_9 : decode cX4_solidAtFirst 9 = .ok (.getfield 15, 3) := by decide +kernel
theorem dX4_solidAtFirst_12 : decode cX4_solidAtFirst 12 = .ok (.iload_n 1, 1) := by decide +kernel
theorem dX4_solidAtFirst_13 : decode cX4_solidAtFirst 13 = .ok (.iaload, 1) := by decide +kernel
theorem dX4_solidAtFirst_14 : decode cX4_solidAtFirst 14 = .ok (.goto 4, 3) := by decide +kernel
theorem dX4_solidAtFirst_17 : decode cX4_solidAtFirst 17 = .ok (.iconst 0, 1) := by decide +kernel
theorem dX4_solidAtFirst_18 : decode cX4_solidAtFirst 18 = .ok (.ireturn, 1) := by decide +kernel
theorem dX4_twinOf_0 : decode cX4_twinOf 0 = .ok (.aload_n 0, 1) := by decide +kernel
theorem dX4_twinOf_1 : decode cX4_twinOf 1 = .ok (.iload_n 1, 1) := by decide +kernel
theorem dX4_twinOf_2 : decode cX4_twinOf 2 = .ok (.invokevirtual 31, 3) := by decide +kernel
theorem dX4_twinOf_5 : decode cX4_twinOf 5 = .ok (.ifCond .eq 12, 3) := by decide +kernel
theorem dX4_twinOf_8 : decode cX4_twinOf 8 = .ok (.aload_n 0, 1) := by decide +kernel
theorem dX4_twinOf_9 : decode cX4_twinOf 9 = .ok (.getfield 18, 3) := by decide +kernel
theorem dX4_twinOf_12 : decode cX4_twinOf 12 = .ok (.iload_n 1, 1) := by decide +kernel
theorem dX4_twinOf_13 : decode cX4_twinOf 13 = .ok (.iaload, 1) := by decide +kernel
theorem dX4_twinOf_14 : decode cX4_twinOf 14 = .ok (.goto 4, 3) := by decide +kernel
theorem dX4_twinOf_17 : decode cX4_twinOf 17 = .ok (.iconst (-1), 1) := by decide +kernel
theorem dX4_twinOf_18 : decode cX4_twinOf 18 = .ok (.ireturn, 1) := by decide +kernel
theorem dX4_allAtFirst_0 : decode cX4_allAtFirst 0 = .ok (.iconst 0, 1) := by decide +kernel
theorem dX4_allAtFirst_1 : decode cX4_allAtFirst 1 = .ok (.istore_n 1, 1) := by decide +kernel
theorem dX4_allAtFirst_2 : decode cX4_allAtFirst 2 = .ok (.iconst 0, 1) := by decide +kernel
theorem dX4_allAtFirst_3 : decode cX4_allAtFirst 3 = .ok (.istore_n 2, 1) := by decide +kernel
theorem dX4_allAtFirst_4 : decode cX4_allAtFirst 4 = .ok (.iload_n 2, 1) := by decide +kernel
theorem dX4_allAtFirst_5 : decode cX4_allAtFirst 5 = .ok (.aload_n 0, 1) := by decide +kernel
theorem dX4_allAtFirst_6 : decode cX4_allAtFirst 6 = .ok (.getfield 28, 3) := by decide +kernel
theorem dX4_allAtFirst_9 : decode cX4_allAtFirst 9 = .ok (.if_icmp .ge 18, 3) := by decide +kernel
theorem dX4_allAtFirst_12 : decode cX4_allAtFirst 12 = .ok (.iload_n 1, 1) := by decide +kernel
theorem dX4_allAtFirst_13 : decode cX4_allAtFirst 13 = .ok (.aload_n 0, 1) := by decide +kernel
theorem dX4_allAtFirst_14 : decode cX4_allAtFirst 14 = .ok (.getfield 15, 3) := by decide +kernel
theorem dX4_allAtFirst_17 : decode cX4_allAtFirst 17 = .ok (.iload_n 2, 1) := by decide +kernel
theorem dX4_allAtFirst_18 : decode cX4_allAtFirst 18 = .ok (.iaload, 1) := by decide +kernel
theorem dX4_allAtFirst_19 : decode cX4_allAtFirst 19 = .ok (.iadd, 1) := by decide +kernel
theorem dX4_allAtFirst_20 : decode cX4_allAtFirst 20 = .ok (.istore_n 1, 1) := by decide +kernel
theorem dX4_allAtFirst_21 : decode cX4_allAtFirst 21 = .ok (.iinc 2 1, 3) := by decide +kernel
theorem dX4_allAtFirst_24 : decode cX4_allAtFirst 24 = .ok (.goto (-20), 3) := by decide +kernel
theorem dX4_allAtFirst_27 : decode cX4_allAtFirst 27 = .ok (.iload_n 1, 1) := by decide +kernel
theorem dX4_allAtFirst_28 : decode cX4_allAtFirst 28 = .ok (.ireturn, 1) := by decide +kernel
theorem dX4_howManyTwins_0 : decode cX4_howManyTwins 0 = .ok (.iconst 0, 1) := by decide +kernel
theorem dX4_howManyTwins_1 : decode cX4_howManyTwins 1 = .ok (.istore_n 1, 1) := by decide +kernel
theorem dX4_howManyTwins_2 : decode cX4_howManyTwins 2 = .ok (.iconst 0, 1) := by decide +kernel
theorem dX4_howManyTwins_3 : decode cX4_howManyTwins 3 = .ok (.istore_n 2, 1) := by decide +kernel
theorem dX4_howManyTwins_4 : decode cX4_howManyTwins 4 = .ok (.iload_n 2, 1) := by decide +kernel
theorem dX4_howManyTwins_5 : decode cX4_howManyTwins 5 = .ok (.aload_n 0, 1) := by decide +kernel
theorem dX4_howManyTwins_6 : decode cX4_howManyTwins 6 = .ok (.getfield 28, 3) := by decide +kernel
theorem dX4_howManyTwins_9 : decode cX4_howManyTwins 9 = .ok (.if_icmp .ge 27, 3) := by decide +kernel
theorem dX4_howManyTwins_12 : decode cX4_howManyTwins 12 = .ok (.iload_n 1, 1) := by decide +kernel
theorem dX4_howManyTwins_13 : decode cX4_howManyTwins 13 = .ok (.aload_n 0, 1) := by decide +kernel
theorem dX4_howManyTwins_14 : decode cX4_howManyTwins 14 = .ok (.getfield 18, 3) := by decide +kernel
theorem dX4_howManyTwins_17 : decode cX4_howManyTwins 17 = .ok (.iload_n 2, 1) := by decide +kernel
theorem dX4_howManyTwins_18 : decode cX4_howManyTwins 18 = .ok (.iaload, 1) := by decide +kernel
theorem dX4_howManyTwins_19 : decode cX4_howManyTwins 19 = .ok (.iconst (-1), 1) := by decide +kernel
theorem dX4_howManyTwins_20 : decode cX4_howManyTwins 20 = .ok (.if_icmp .ne 7, 3) := by decide +kernel
theorem dX4_howManyTwins_23 : decode cX4_howManyTwins 23 = .ok (.iconst 0, 1) := by decide +kernel
theorem dX4_howManyTwins_24 : decode cX4_howManyTwins 24 = .ok (.goto 4, 3) := by decide +kernel
theorem dX4_howManyTwins_27 : decode cX4_howManyTwins 27 = .ok (.iconst 1, 1) := by decide +kernel
theorem dX4_howManyTwins_28 : decode cX4_howManyTwins 28 = .ok (.iadd, 1) := by decide +kernel
theorem dX4_howManyTwins_29 : decode cX4_howManyTwins 29 = .ok (.istore_n 1, 1) := by decide +kernel
theorem dX4_howManyTwins_30 : decode cX4_howManyTwins 30 = .ok (.iinc 2 1, 3) := by decide +kernel
theorem dX4_howManyTwins_33 : decode cX4_howManyTwins 33 = .ok (.goto (-29), 3) := by decide +kernel
theorem dX4_howManyTwins_36 : decode cX4_howManyTwins 36 = .ok (.iload_n 1, 1) := by decide +kernel
theorem dX4_howManyTwins_37 : decode cX4_howManyTwins 37 = .ok (.ireturn, 1) := by decide +kernel
theorem dX4_append_0 : decode cX4_append 0 = .ok (.aload_n 0, 1) := by decide +kernel
theorem dX4_append_1 : decode cX4_append 1 = .ok (.getfield 25, 3) := by decide +kernel
theorem dX4_append_4 : decode cX4_append 4 = .ok (.bipush 31, 2) := by decide +kernel
theorem dX4_append_6 : decode cX4_append 6 = .ok (.if_icmp .ge 27, 3) := by decide +kernel
theorem dX4_append_9 : decode cX4_append 9 = .ok (.aload_n 0, 1) := by decide +kernel
theorem dX4_append_10 : decode cX4_append 10 = .ok (.getfield 9, 3) := by decide +kernel
theorem dX4_append_13 : decode cX4_append 13 = .ok (.aload_n 0, 1) := by decide +kernel
theorem dX4_append_14 : decode cX4_append 14 = .ok (.getfield 25, 3) := by decide +kernel
theorem dX4_append_17 : decode cX4_append 17 = .ok (.iload_n 1, 1) := by decide +kernel
theorem dX4_append_18 : decode cX4_append 18 = .ok (.iastore, 1) := by decide +kernel
theorem dX4_append_19 : decode cX4_append 19 = .ok (.aload_n 0, 1) := by decide +kernel
theorem dX4_append_20 : decode cX4_append 20 = .ok (.dup, 1) := by decide +kernel
theorem dX4_append_21 : decode cX4_append 21 = .ok (.getfield 25, 3) := by decide +kernel
theorem dX4_append_24 : decode cX4_append 24 = .ok (.iconst 1, 1) := by decide +kernel
theorem dX4_append_25 : decode cX4_append 25 = .ok (.iadd, 1) := by decide +kernel
theorem dX4_append_26 : decode cX4_append 26 = .ok (.putfield 25, 3) := by decide +kernel
theorem dX4_append_29 : decode cX4_append 29 = .ok (.aload_n 0, 1) := by decide +kernel
theorem dX4_append_30 : decode cX4_append 30 = .ok (.invokevirtual 35, 3) := by decide +kernel
theorem dX4_append_33 : decode cX4_append 33 = .ok (.return_, 1) := by decide +kernel
theorem dX4_cutTo_0 : decode cX4_cutTo 0 = .ok (.iload_n 1, 1) := by decide +kernel
theorem dX4_cutTo_1 : decode cX4_cutTo 1 = .ok (.ifCond .lt 20, 3) := by decide +kernel
theorem dX4_cutTo_4 : decode cX4_cutTo 4 = .ok (.iload_n 1, 1) := by decide +kernel
theorem dX4_cutTo_5 : decode cX4_cutTo 5 = .ok (.aload_n 0, 1) := by decide +kernel
theorem dX4_cutTo_6 : decode cX4_cutTo 6 = .ok (.getfield 25, 3) := by decide +kernel
theorem dX4_cutTo_9 : decode cX4_cutTo 9 = .ok (.if_icmp .ge 12, 3) := by decide +kernel
theorem dX4_cutTo_12 : decode cX4_cutTo 12 = .ok (.aload_n 0, 1) := by decide +kernel
theorem dX4_cutTo_13 : decode cX4_cutTo 13 = .ok (.iload_n 1, 1) := by decide +kernel
theorem dX4_cutTo_14 : decode cX4_cutTo 14 = .ok (.putfield 25, 3) := by decide +kernel
theorem dX4_cutTo_17 : decode cX4_cutTo 17 = .ok (.aload_n 0, 1) := by decide +kernel
theorem dX4_cutTo_18 : decode cX4_cutTo 18 = .ok (.invokevirtual 35, 3) := by decide +kernel
theorem dX4_cutTo_21 : decode cX4_cutTo 21 = .ok (.return_, 1) := by decide +kernel
theorem dX4_readText_0 : decode cX4_readText 0 = .ok (.aload_n 0, 1) := by decide +kernel
theorem dX4_readText_1 : decode cX4_readText 1 = .ok (.aload_n 0, 1) := by decide +kernel
theorem dX4_readText_2 : decode cX4_readText 2 = .ok (.invokevirtual 38, 3) := by decide +kernel
theorem dX4_readText_5 : decode cX4_readText 5 = .ok (.putfield 21, 3) := by decide +kernel
theorem dX4_readText_8 : decode cX4_readText 8 = .ok (.aload_n 0, 1) := by decide +kernel
theorem dX4_readText_9 : decode cX4_readText 9 = .ok (.iconst 0, 1) := by decide +kernel
theorem dX4_readText_10 : decode cX4_readText 10 = .ok (.putfield 28, 3) := by decide +kernel
theorem dX4_readText_13 : decode cX4_readText 13 = .ok (.aload_n 0, 1) := by decide +kernel
theorem dX4_readText_14 : decode cX4_readText 14 = .ok (.getfield 21, 3) := by decide +kernel
theorem dX4_readText_17 : decode cX4_readText 17 = .ok (.iconst (-1), 1) := by decide +kernel
theorem dX4_readText_18 : decode cX4_readText 18 = .ok (.if_icmp .eq 4, 3) := by decide +kernel
theorem dX4_readText_21 : decode cX4_readText 21 = .ok (.return_, 1) := by decide +kernel
theorem dX4_readText_22 : decode cX4_readText 22 = .ok (.aload_n 0, 1) := by decide +kernel
theorem dX4_readText_23 : decode cX4_readText 23 = .ok (.getfield 25, 3) := by decide +kernel
theorem dX4_readText_26 : decode cX4_readText 26 = .ok (.iconst 1, 1) := by decide +kernel
theorem dX4_readText_27 : decode cX4_readText 27 = .ok (.iadd, 1) := by decide +kernel
theorem dX4_readText_28 : decode cX4_readText 28 = .ok (.iconst 4, 1) := by decide +kernel
theorem dX4_readText_29 : decode cX4_readText 29 = .ok (.idiv, 1) := by decide +kernel
theorem dX4_readText_30 : decode cX4_readText 30 = .ok (.istore_n 1, 1) := by decide +kernel
theorem dX4_readText_31 : decode cX4_readText 31 = .ok (.iconst 0, 1) := by decide +kernel
theorem dX4_readText_32 : decode cX4_readText 32 = .ok (.istore_n 2, 1) := by decide +kernel
theorem dX4_readText_33 : decode cX4_readText 33 = .ok (.iload_n 2, 1) := by decide +kernel
theorem dX4_readText_34 : decode cX4_readText 34 = .ok (.iload_n 1, 1) := by decide +kernel
theorem dX4_readText_35 : decode cX4_readText 35 = .ok (.if_icmp .ge 85, 3) := by decide +kernel
theorem dX4_readText_38 : decode cX4_readText 38 = .ok (.iload_n 2, 1) := by decide +kernel
theorem dX4_readText_39 : decode cX4_readText 39 = .ok (.iconst 4, 1) := by decide +kernel
theorem dX4_readText_40 : decode cX4_readText 40 = .ok (.imul, 1) := by decide +kernel
theorem dX4_readText_41 : decode cX4_readText 41 = .ok (.istore_n 3, 1) := by decide +kernel
theorem dX4_readText_42 : decode cX4_readText 42 = .ok (.aload_n 0, 1) := by decide +kernel
theorem dX4_readText_43 : decode cX4_readText 43 = .ok (.getfield 9, 3) := by decide +kernel
theorem dX4_readText_46 : decode cX4_readText 46 = .ok (.iload_n 3, 1) := by decide +kernel
theorem dX4_readText_47 : decode cX4_readText 47 = .ok (.iconst 2, 1) := by decide +kernel
theorem dX4_readText_48 : decode cX4_readText 48 = .ok (.iadd, 1) := by decide +kernel
theorem dX4_readText_49 : decode cX4_readText 49 = .ok (.iaload, 1) := by decide +kernel
theorem dX4_readText_50 : decode cX4_readText 50 = .ok (.bipush 97, 2) := by decide +kernel
theorem dX4_readText_52 : decode cX4_readText 52 = .ok (.isub, 1) := by decide +kernel
theorem dX4_readText_53 : decode cX4_readText 53 = .ok (.istore 4, 2) := by decide +kernel
theorem dX4_readText_55 : decode cX4_readText 55 = .ok (.aload_n 0, 1) := by decide +kernel
theorem dX4_readText_56 : decode cX4_readText 56 = .ok (.getfield 15, 3) := by decide +kernel
theorem dX4_readText_59 : decode cX4_readText 59 = .ok (.iload_n 2, 1) := by decide +kernel
theorem dX4_readText_60 : decode cX4_readText 60 = .ok (.aload_n 0, 1) := by decide +kernel
theorem dX4_readText_61 : decode cX4_readText 61 = .ok (.getfield 9, 3) := by decide +kernel
theorem dX4_readText_64 : decode cX4_readText 64 = .ok (.iload_n 3, 1) := by decide +kernel
theorem dX4_readText_65 : decode cX4_readText 65 = .ok (.iaload, 1) := by decide +kernel
theorem dX4_readText_66 : decode cX4_readText 66 = .ok (.bipush 48, 2) := by decide +kernel
theorem dX4_readText_68 : decode cX4_readText 68 = .ok (.isub, 1) := by decide +kernel
theorem dX4_readText_69 : decode cX4_readText 69 = .ok (.bipush 10, 2) := by decide +kernel
theorem dX4_readText_71 : decode cX4_readText 71 = .ok (.imul, 1) := by decide +kernel
theorem dX4_readText_72 : decode cX4_readText 72 = .ok (.aload_n 0, 1) := by decide +kernel
theorem dX4_readText_73 : decode cX4_readText 73 = .ok (.getfield 9, 3) := by decide +kernel
theorem dX4_readText_76 : decode cX4_readText 76 = .ok (.iload_n 3, 1) := by decide +kernel
theorem dX4_readText_77 : decode cX4_readText 77 = .ok (.iconst 1, 1) := by decide +kernel
theorem dX4_readText_78 : decode cX4_readText 78 = .ok (.iadd, 1) := by decide +kernel
theorem dX4_readText_79 : decode cX4_readText 79 = .ok (.iaload, 1) := by decide +kernel
theorem dX4_readText_80 : decode cX4_readText 80 = .ok (.iadd, 1) := by decide +kernel
theorem dX4_readText_81 : decode cX4_readText 81 = .ok (.bipush 48, 2) := by decide +kernel
theorem dX4_readText_83 : decode cX4_readText 83 = .ok (.isub, 1) := by decide +kernel
theorem dX4_readText_84 : decode cX4_readText 84 = .ok (.iastore, 1) := by decide +kernel
theorem dX4_readText_85 : decode cX4_readText 85 = .ok (.aload_n 0, 1) := by decide +kernel
theorem dX4_readText_86 : decode cX4_readText 86 = .ok (.getfield 18, 3) := by decide +kernel
theorem dX4_readText_89 : decode cX4_readText 89 = .ok (.iload_n 2, 1) := by decide +kernel
theorem dX4_readText_90 : decode cX4_readText 90 = .ok (.iload 4, 2) := by decide +kernel
theorem dX4_readText_92 : decode cX4_readText 92 = .ok (.ifCond .lt 15, 3) := by decide +kernel
theorem dX4_readText_95 : decode cX4_readText 95 = .ok (.iload 4, 2) := by decide +kernel
theorem dX4_readText_97 : decode cX4_readText 97 = .ok (.iload_n 1, 1) := by decide +kernel
theorem dX4_readText_98 : decode cX4_readText 98 = .ok (.if_icmp .ge 9, 3) := by decide +kernel
theorem dX4_readText_101 : decode cX4_readText 101 = .ok (.iload 4, 2) := by decide +kernel
theorem dX4_readText_103 : decode cX4_readText 103 = .ok (.iload_n 2, 1) := by decide +kernel
theorem dX4_readText_104 : decode cX4_readText 104 = .ok (.if_icmp .ne 7, 3) := by decide +kernel
theorem dX4_readText_107 : decode cX4_readText 107 = .ok (.iconst (-1), 1) := by decide +kernel
theorem dX4_readText_108 : decode cX4_readText 108 = .ok (.goto 5, 3) := by decide +kernel
theorem dX4_readText_111 : decode cX4_readText 111 = .ok (.iload 4, 2) := by decide +kernel
theorem dX4_readText_113 : decode cX4_readText 113 = .ok (.iastore, 1) := by decide +kernel
theorem dX4_readText_114 : decode cX4_readText 114 = .ok (.iinc 2 1, 3) := by decide +kernel
theorem dX4_readText_117 : decode cX4_readText 117 = .ok (.goto (-84), 3) := by decide +kernel
theorem dX4_readText_120 : decode cX4_readText 120 = .ok (.aload_n 0, 1) := by decide +kernel
theorem dX4_readText_121 : decode cX4_readText 121 = .ok (.iload_n 1, 1) := by decide +kernel
theorem dX4_readText_122 : decode cX4_readText 122 = .ok (.putfield 28, 3) := by decide +kernel
theorem dX4_readText_125 : decode cX4_readText 125 = .ok (.return_, 1) := by decide +kernel
theorem dX4_findFault_0 : decode cX4_findFault 0 = .ok (.iconst 0, 1) := by decide +kernel
theorem dX4_findFault_1 : decode cX4_findFault 1 = .ok (.istore_n 1, 1) := by decide +kernel
theorem dX4_findFault_2 : decode cX4_findFault 2 = .ok (.iload_n 1, 1) := by decide +kernel
theorem dX4_findFault_3 : decode cX4_findFault 3 = .ok (.aload_n 0, 1) := by decide +kernel
theorem dX4_findFault_4 : decode cX4_findFault 4 = .ok (.getfield 25, 3) := by decide +kernel
theorem dX4_findFault_7 : decode cX4_findFault 7 = .ok (.if_icmp .ge 26, 3) := by decide +kernel
theorem dX4_findFault_10 : decode cX4_findFault 10 = .ok (.aload_n 0, 1) := by decide +kernel
theorem dX4_findFault_11 : decode cX4_findFault 11 = .ok (.getfield 9, 3) := by decide +kernel
theorem dX4_findFault_14 : decode cX4_findFault 14 = .ok (.iload_n 1, 1) := by decide +kernel
theorem dX4_findFault_15 : decode cX4_findFault 15 = .ok (.iaload, 1) := by decide +kernel
theorem dX4_findFault_16 : decode cX4_findFault 16 = .ok (.iload_n 1, 1) := by decide +kernel
theorem dX4_findFault_17 : decode cX4_findFault 17 = .ok (.iconst 4, 1) := by decide +kernel
theorem dX4_findFault_18 : decode cX4_findFault 18 = .ok (.irem, 1) := by decide +kernel
theorem dX4_findFault_19 : decode cX4_findFault 19 = .ok (.invokestatic 42, 3) := by decide +kernel
theorem dX4_findFault_22 : decode cX4_findFault 22 = .ok (.ifCond .ne 5, 3) := by decide +kernel
theorem dX4_findFault_25 : decode cX4_findFault 25 = .ok (.iload_n 1, 1) := by decide +kernel
theorem dX4_findFault_26 : decode cX4_findFault 26 = .ok (.ireturn, 1) := by decide +kernel
theorem dX4_findFault_27 : decode cX4_findFault 27 = .ok (.iinc 1 1, 3) := by decide +kernel
theorem dX4_findFault_30 : decode cX4_findFault 30 = .ok (.goto (-28), 3) := by decide +kernel
theorem dX4_findFault_33 : decode cX4_findFault 33 = .ok (.aload_n 0, 1) := by decide +kernel
theorem dX4_findFault_34 : decode cX4_findFault 34 = .ok (.getfield 25, 3) := by decide +kernel
theorem dX4_findFault_37 : decode cX4_findFault 37 = .ok (.ifCond .eq 13, 3) := by decide +kernel
theorem dX4_findFault_40 : decode cX4_findFault 40 = .ok (.aload_n 0, 1) := by decide +kernel
theorem dX4_findFault_41 : decode cX4_findFault 41 = .ok (.getfield 25, 3) := by decide +kernel
theorem dX4_findFault_44 : decode cX4_findFault 44 = .ok (.iconst 4, 1) := by decide +kernel
theorem dX4_findFault_45 : decode cX4_findFault 45 = .ok (.irem, 1) := by decide +kernel
theorem dX4_findFault_46 : decode cX4_findFault 46 = .ok (.iconst 3, 1) := by decide +kernel
theorem dX4_findFault_47 : decode cX4_findFault 47 = .ok (.if_icmp .ne 7, 3) := by decide +kernel
theorem dX4_findFault_50 : decode cX4_findFault 50 = .ok (.iconst (-1), 1) := by decide +kernel
theorem dX4_findFault_51 : decode cX4_findFault 51 = .ok (.goto 7, 3) := by decide +kernel
theorem dX4_findFault_54 : decode cX4_findFault 54 = .ok (.aload_n 0, 1) := by decide +kernel
theorem dX4_findFault_55 : decode cX4_findFault 55 = .ok (.getfield 25, 3) := by decide +kernel
theorem dX4_findFault_58 : decode cX4_findFault 58 = .ok (.ireturn, 1) := by decide +kernel
theorem dX4_mayStand_0 : decode cX4_mayStand 0 = .ok (.iload_n 1, 1) := by decide +kernel
theorem dX4_mayStand_1 : decode cX4_mayStand 1 = .ok (.iconst 2, 1) := by decide +kernel
theorem dX4_mayStand_2 : decode cX4_mayStand 2 = .ok (.if_icmp .ge 21, 3) := by decide +kernel
theorem dX4_mayStand_5 : decode cX4_mayStand 5 = .ok (.iload_n 0, 1) := by decide +kernel
theorem dX4_mayStand_6 : decode cX4_mayStand 6 = .ok (.bipush 48, 2) := by decide +kernel
theorem dX4_mayStand_8 : decode cX4_mayStand 8 = .ok (.if_icmp .lt 13, 3) := by decide +kernel
theorem dX4_mayStand_11 : decode cX4_mayStand 11 = .ok (.iload_n 0, 1) := by decide +kernel
theorem dX4_mayStand_12 : decode cX4_mayStand 12 = .ok (.bipush 57, 2) := by decide +kernel
theorem dX4_mayStand_14 : decode cX4_mayStand 14 = .ok (.if_icmp .gt 7, 3) := by decide +kernel
theorem dX4_mayStand_17 : decode cX4_mayStand 17 = .ok (.iconst 1, 1) := by decide +kernel
theorem dX4_mayStand_18 : decode cX4_mayStand 18 = .ok (.goto 4, 3) := by decide +kernel
theorem dX4_mayStand_21 : decode cX4_mayStand 21 = .ok (.iconst 0, 1) := by decide +kernel
theorem dX4_mayStand_22 : decode cX4_mayStand 22 = .ok (.ireturn, 1) := by decide +kernel
theorem dX4_mayStand_23 : decode cX4_mayStand 23 = .ok (.iload_n 1, 1) := by decide +kernel
theorem dX4_mayStand_24 : decode cX4_mayStand 24 = .ok (.iconst 2, 1) := by decide +kernel
theorem dX4_mayStand_25 : decode cX4_mayStand 25 = .ok (.if_icmp .ne 29, 3) := by decide +kernel
theorem dX4_mayStand_28 : decode cX4_mayStand 28 = .ok (.iload_n 0, 1) := by decide +kernel
theorem dX4_mayStand_29 : decode cX4_mayStand 29 = .ok (.bipush 46, 2) := by decide +kernel
theorem dX4_mayStand_31 : decode cX4_mayStand 31 = .ok (.if_icmp .eq 15, 3) := by decide +kernel
theorem dX4_mayStand_34 : decode cX4_mayStand 34 = .ok (.iload_n 0, 1) := by decide +kernel
theorem dX4_mayStand_35 : decode cX4_mayStand 35 = .ok (.bipush 97, 2) := by decide +kernel
theorem dX4_mayStand_37 : decode cX4_mayStand 37 = .ok (.if_icmp .lt 13, 3) := by decide +kernel
theorem dX4_mayStand_40 : decode cX4_mayStand 40 = .ok (.iload_n 0, 1) := by decide +kernel
theorem dX4_mayStand_41 : decode cX4_mayStand 41 = .ok (.bipush 104, 2) := by decide +kernel
theorem dX4_mayStand_43 : decode cX4_mayStand 43 = .ok (.if_icmp .gt 7, 3) := by decide +kernel
theorem dX4_mayStand_46 : decode cX4_mayStand 46 = .ok (.iconst 1, 1) := by decide +kernel
theorem dX4_mayStand_47 : decode cX4_mayStand 47 = .ok (.goto 18, 3) := by decide +kernel
theorem dX4_mayStand_50 : decode cX4_mayStand 50 = .ok (.iconst 0, 1) := by decide +kernel
theorem dX4_mayStand_51 : decode cX4_mayStand 51 = .ok (.goto 14, 3) := by decide +kernel
theorem dX4_mayStand_54 : decode cX4_mayStand 54 = .ok (.iload_n 0, 1) := by decide +kernel
theorem dX4_mayStand_55 : decode cX4_mayStand 55 = .ok (.bipush 59, 2) := by decide +kernel
theorem dX4_mayStand_57 : decode cX4_mayStand 57 = .ok (.if_icmp .ne 7, 3) := by decide +kernel
theorem dX4_mayStand_60 : decode cX4_mayStand 60 = .ok (.iconst 1, 1) := by decide +kernel
theorem dX4_mayStand_61 : decode cX4_mayStand 61 = .ok (.goto 4, 3) := by decide +kernel
theorem dX4_mayStand_64 : decode cX4_mayStand 64 = .ok (.iconst 0, 1) := by decide +kernel
theorem dX4_mayStand_65 : decode cX4_mayStand 65 = .ok (.ireturn, 1) := by decide +kernel
theorem dX5_init_0 : decode cX5_init 0 = .ok (.aload_n 0, 1) := by decide +kernel
theorem dX5_init_1 : decode cX5_init 1 = .ok (.invokespecial 3, 3) := by decide +kernel
theorem dX5_init_4 : decode cX5_init 4 = .ok (.aload_n 0, 1) := by decide +kernel
theorem dX5_init_5 : decode cX5_init 5 = .ok (.new 9, 3) := by decide +kernel
theorem dX5_init_8 : decode cX5_init 8 = .ok (.dup, 1) := by decide +kernel
theorem dX5_init_9 : decode cX5_init 9 = .ok (.bipush 12, 2) := by decide +kernel
theorem dX5_init_11 : decode cX5_init 11 = .ok (.invokespecial 11, 3) := by decide +kernel
theorem dX5_init_14 : decode cX5_init 14 = .ok (.putfield 14, 3) := by decide +kernel
theorem dX5_init_17 : decode cX5_init 17 = .ok (.aload_n 0, 1) := by decide +kernel
theorem dX5_init_18 : decode cX5_init 18 = .ok (.bipush 12, 2) := by decide +kernel
theorem dX5_init_20 : decode cX5_init 20 = .ok (.newarray .int, 2) := by decide +kernel
theorem dX5_init_22 : decode cX5_init 22 = .ok (.putfield 20, 3) := by decide +kernel
theorem dX5_init_25 : decode cX5_init 25 = .ok (.aload_n 0, 1) := by decide +kernel
theorem dX5_init_26 : decode cX5_init 26 = .ok (.bipush 12, 2) := by decide +kernel
theorem dX5_init_28 : decode cX5_init 28 = .ok (.newarray .int, 2) := by decide +kernel
theorem dX5_init_30 : decode cX5_init 30 = .ok (.putfield 24, 3) := by decide +kernel
theorem dX5_init_33 : decode cX5_init 33 = .ok (.aload_n 0, 1) := by decide +kernel
theorem dX5_init_34 : decode cX5_init 34 = .ok (.bipush 12, 2) := by decide +kernel
theorem dX5_init_36 : decode cX5_init 36 = .ok (.newarray .int, 2) := by decide +kernel
theorem dX5_init_38 : decode cX5_init 38 = .ok (.putfield 27, 3) := by decide +kernel
theorem dX5_init_41 : decode cX5_init 41 = .ok (.return_, 1) := by decide +kernel
theorem dX5_howMany_0 : decode cX5_howMany 0 = .ok (.aload_n 0, 1) := by decide +kernel
theorem dX5_howMany_1 : decode cX5_howMany 1 = .ok (.getfield 14, 3) := by decide +kernel
theorem dX5_howMany_4 : decode cX5_howMany 4 = .ok (.invokevirtual 30, 3) := by decide +kernel
theorem dX5_howMany_7 : decode cX5_howMany 7 = .ok (.ireturn, 1) := by decide +kernel
theorem dX5_add_0 : decode cX5_add 0 = .ok (.aload_n 0, 1) := by decide +kernel
theorem dX5_add_1 : decode cX5_add 1 = .ok (.getfield 14, 3) := by decide +kernel
theorem dX5_add_4 : decode cX5_add 4 = .ok (.invokevirtual 30, 3) := by decide +kernel
theorem dX5_add_7 : decode cX5_add 7 = .ok (.istore 5, 2) := by decide +kernel
theorem dX5_add_9 : decode cX5_add 9 = .ok (.iload 5, 2) := by decide +kernel
theorem dX5_add_11 : decode cX5_add 11 = .ok (.bipush 12, 2) := by decide +kernel
theorem dX5_add_13 : decode cX5_add 13 = .ok (.if_icmp .lt 5, 3) := by decide +kernel
theorem dX5_add_16 : decode cX5_add 16 = .ok (.iconst 0, 1) := by decide +kernel
theorem dX5_add_17 : decode cX5_add 17 = .ok (.ireturn, 1) := by decide +kernel
theorem dX5_add_18 : decode cX5_add 18 = .ok (.aload_n 0, 1) := by decide +kernel
theorem dX5_add_19 : decode cX5_add 19 = .ok (.getfield 20, 3) := by decide +kernel
theorem dX5_add_22 : decode cX5_add 22 = .ok (.iload 5, 2) := by decide +kernel
theorem dX5_add_24 : decode cX5_add 24 = .ok (.iload_n 2, 1) := by decide +kernel
theorem dX5_add_25 : decode cX5_add 25 = .ok (.iastore, 1) := by decide +kernel
theorem dX5_add_26 : decode cX5_add 26 = .ok (.aload_n 0, 1) := by decide +kernel
theorem dX5_add_27 : decode cX5_add 27 = .ok (.getfield 24, 3) := by decide +kernel
theorem dX5_add_30 : decode cX5_add 30 = .ok (.iload 5, 2) := by decide +kernel
theorem dX5_add_32 : decode cX5_add 32 = .ok (.iload_n 3, 1) := by decide +kernel
theorem dX5_add_33 : decode cX5_add 33 = .ok (.iastore, 1) := by decide +kernel
theorem dX5_add_34 : decode cX5_add 34 = .ok (.aload_n 0, 1) := by decide +kernel
theorem dX5_add_35 : decode cX5_add 35 = .ok (.getfield 27, 3) := by decide +kernel
theorem dX5_add_38 : decode cX5_add 38 = .ok (.iload 5, 2) := by decide +kernel
theorem dX5_add_40 : decode cX5_add 40 = .ok (.iload 4, 2) := by decide +kernel
theorem dX5_add_42 : decode cX5_add 42 = .ok (.iastore, 1) := by decide +kernel
theorem dX5_add_43 : decode cX5_add 43 = .ok (.aload_n 0, 1) := by decide +kernel
theorem dX5_add_44 : decode cX5_add 44 = .ok (.getfield 14, 3) := by decide +kernel
theorem dX5_add_47 : decode cX5_add 47 = .ok (.iload_n 1, 1) := by decide +kernel
theorem dX5_add_48 : decode cX5_add 48 = .ok (.invokevirtual 34, 3) := by decide +kernel
theorem dX5_add_51 : decode cX5_add 51 = .ok (.iconst 1, 1) := by decide +kernel
theorem dX5_add_52 : decode cX5_add 52 = .ok (.ireturn, 1) := by decide +kernel
theorem dX5_personOn_0 : decode cX5_personOn 0 = .ok (.aload_n 0, 1) := by decide +kernel
theorem dX5_personOn_1 : decode cX5_personOn 1 = .ok (.iload_n 1, 1) := by decide +kernel
theorem dX5_personOn_2 : decode cX5_personOn 2 = .ok (.invokevirtual 37, 3) := by decide +kernel
theorem dX5_personOn_5 : decode cX5_personOn 5 = .ok (.ifCond .eq 12, 3) := by decide +kernel
theorem dX5_personOn_8 : decode cX5_personOn 8 = .ok (.aload_n 0, 1) := by decide +kernel
theorem dX5_personOn_9 : decode cX5_personOn 9 = .ok (.getfield 20, 3) := by decide +kernel
theorem dX5_personOn_12 : decode cX5_personOn 12 = .ok (.iload_n 1, 1) := by decide +kernel
theorem dX5_personOn_13 : decode cX5_personOn 13 = .ok (.iaload, 1) := by decide +kernel
theorem dX5_personOn_14 : decode cX5_personOn 14 = .ok (.goto 4, 3) := by decide +kernel
theorem dX5_personOn_17 : decode cX5_personOn 17 = .ok (.iconst (-1), 1) := by decide +kernel
theorem dX5_personOn_18 : decode cX5_personOn 18 = .ok (.ireturn, 1) := by decide +kernel
theorem dX5_sizeOf_0 : decode cX5_sizeOf 0 = .ok (.aload_n 0, 1) := by decide +kernel
theorem dX5_sizeOf_1 : decode cX5_sizeOf 1 = .ok (.iload_n 1, 1) := by decide +kernel
theorem dX5_sizeOf_2 : decode cX5_sizeOf 2 = .ok (.invokevirtual 37, 3) := by decide +kernel
theorem dX5_sizeOf_5 : decode cX5_sizeOf 5 = .ok (.ifCond .eq 12, 3) := by decide +kernel
theorem dX5_sizeOf_8 : decode cX5_sizeOf 8 = .ok (.aload_n 0, 1) := by decide +kernel
theorem dX5_sizeOf_9 : decode cX5_sizeOf 9 = .ok (.getfield 24, 3) := by decide +kernel
theorem dX5_sizeOf_12 : decode cX5_sizeOf 12 = .ok (.iload_n 1, 1) := by decide +kernel
theorem dX5_sizeOf_13 : decode cX5_sizeOf 13 = .ok (.iaload, 1) := by decide +kernel
theorem dX5_sizeOf_14 : decode cX5_sizeOf 14 = .ok (.goto 4, 3) := by decide +kernel
theorem dX5_sizeOf_17 : decode cX5_sizeOf 17 = .ok (.iconst 0, 1) := by decide +kernel
theorem dX5_sizeOf_18 : decode cX5_sizeOf 18 = .ok (.ireturn, 1) := by decide +kernel
theorem dX5_drawerOf_0 : decode cX5_drawerOf 0 = .ok (.aload_n 0, 1) := by decide +kernel
theorem dX5_drawerOf_1 : decode cX5_drawerOf 1 = .ok (.iload_n 1, 1) := by decide +kernel
theorem dX5_drawerOf_2 : decode cX5_drawerOf 2 = .ok (.invokevirtual 37, 3) := by decide +kernel
theorem dX5_drawerOf_5 : decode cX5_drawerOf 5 = .ok (.ifCond .eq 12, 3) := by decide +kernel
theorem dX5_drawerOf_8 : decode cX5_drawerOf 8 = .ok (.aload_n 0, 1) := by decide +kernel
theorem dX5_drawerOf_9 : decode cX5_drawerOf 9 = .ok (.getfield 27, 3) := by decide +kernel
theorem dX5_drawerOf_12 : decode cX5_drawerOf 12 = .ok (.iload_n 1, 1) := by decide +kernel
theorem dX5_drawerOf_13 : decode cX5_drawerOf 13 = .ok (.iaload, 1) := by decide +kernel
theorem dX5_drawerOf_14 : decode cX5_drawerOf 14 = .ok (.goto 4, 3) := by decide +kernel
theorem dX5_drawerOf_17 : decode cX5_drawerOf 17 = .ok (.iconst (-1), 1) := by decide +kernel
theorem dX5_drawerOf_18 : decode cX5_drawerOf 18 = .ok (.ireturn, 1) := by decide +kernel
theorem dX5_has_0 : decode cX5_has 0 = .ok (.iload_n 1, 1) := by decide +kernel
theorem dX5_has_1 : decode cX5_has 1 = .ok (.ifCond .lt 24, 3) := by decide +kernel
theorem dX5_has_4 : decode cX5_has 4 = .ok (.iload_n 1, 1) := by decide +kernel
theorem dX5_has_5 : decode cX5_has 5 = .ok (.aload_n 0, 1) := by decide +kernel
theorem dX5_has_6 : decode cX5_has 6 = .ok (.getfield 14, 3) := by decide +kernel
theorem dX5_has_9 : decode cX5_has 9 = .ok (.getfield 41, 3) := by decide +kernel
theorem dX5_has_12 : decode cX5_has 12 = .ok (.if_icmp .ge 13, 3) := by decide +kernel
theorem dX5_has_15 : decode cX5_has 15 = .ok (.iload_n 1, 1) := by decide +kernel
theorem dX5_has_16 : decode cX5_has 16 = .ok (.bipush 12, 2) := by decide +kernel
theorem dX5_has_18 : decode cX5_has 18 = .ok (.if_icmp .ge 7, 3) := by decide +kernel
theorem dX5_has_21 : decode cX5_has 21 = .ok (.iconst 1, 1) := by decide +kernel
theorem dX5_has_22 : decode cX5_has 22 = .ok (.goto 4, 3) := by decide +kernel
theorem dX5_has_25 : decode cX5_has 25 = .ok (.iconst 0, 1) := by decide +kernel
theorem dX5_has_26 : decode cX5_has 26 = .ok (.ireturn, 1) := by decide +kernel
theorem dX6_init_0 : decode cX6_init 0 = .ok (.aload_n 0, 1) := by decide +kernel
theorem dX6_init_1 : decode cX6_init 1 = .ok (.invokespecial 3, 3) := by decide +kernel
theorem dX6_init_4 : decode cX6_init 4 = .ok (.aload_n 0, 1) := by decide +kernel
theorem dX6_init_5 : decode cX6_init 5 = .ok (.bipush 100, 2) := by decide +kernel
theorem dX6_init_7 : decode cX6_init 7 = .ok (.newarray .int, 2) := by decide +kernel
theorem dX6_init_9 : decode cX6_init 9 = .ok (.putfield 9, 3) := by decide +kernel
theorem dX6_init_12 : decode cX6_init 12 = .ok (.return_, 1) := by decide +kernel
theorem dX6_plan_0 : decode cX6_plan 0 = .ok (.iload_n 3, 1) := by decide +kernel
theorem dX6_plan_1 : decode cX6_plan 1 = .ok (.aload_n 1, 1) := by decide +kernel
theorem dX6_plan_2 : decode cX6_plan 2 = .ok (.iload_n 2, 1) := by decide +kernel
theorem dX6_plan_3 : decode cX6_plan 3 = .ok (.invokevirtual 15, 3) := by decide +kernel
theorem dX6_plan_6 : decode cX6_plan 6 = .ok (.isub, 1) := by decide +kernel
theorem dX6_plan_7 : decode cX6_plan 7 = .ok (.iconst 0, 1) := by decide +kernel
theorem dX6_plan_8 : decode cX6_plan 8 = .ok (.invokestatic 21, 3) := by decide +kernel
theorem dX6_plan_11 : decode cX6_plan 11 = .ok (.istore 5, 2) := by decide +kernel
theorem dX6_plan_13 : decode cX6_plan 13 = .ok (.iload 5, 2) := by decide +kernel
theorem dX6_plan_15 : decode cX6_plan 15 = .ok (.bipush 99, 2) := by decide +kernel
theorem dX6_plan_17 : decode cX6_plan 17 = .ok (.if_icmp .le 5, 3) := by decide +kernel
theorem dX6_plan_20 : decode cX6_plan 20 = .ok (.iconst 0, 1) := by decide +kernel
theorem dX6_plan_21 : decode cX6_plan 21 = .ok (.ireturn, 1) := by decide +kernel
theorem dX6_plan_22 : decode cX6_plan 22 = .ok (.aload_n 0, 1) := by decide +kernel
theorem dX6_plan_23 : decode cX6_plan 23 = .ok (.getfield 9, 3) := by decide +kernel
theorem dX6_plan_26 : decode cX6_plan 26 = .ok (.ldc 27, 2) := by decide +kernel
theorem dX6_plan_28 : decode cX6_plan 28 = .ok (.invokestatic 28, 3) := by decide +kernel
theorem dX6_plan_31 : decode cX6_plan 31 = .ok (.aload_n 0, 1) := by decide +kernel
theorem dX6_plan_32 : decode cX6_plan 32 = .ok (.getfield 9, 3) := by decide +kernel
theorem dX6_plan_35 : decode cX6_plan 35 = .ok (.iconst 0, 1) := by decide +kernel
theorem dX6_plan_36 : decode cX6_plan 36 = .ok (.iconst 0, 1) := by decide +kernel
theorem dX6_plan_37 : decode cX6_plan 37 = .ok (.iastore, 1) := by decide +kernel
theorem dX6_plan_38 : decode cX6_plan 38 = .ok (.iconst 0, 1) := by decide +kernel
theorem dX6_plan_39 : decode cX6_plan 39 = .ok (.istore 6, 2) := by decide +kernel
theorem dX6_plan_41 : decode cX6_plan 41 = .ok (.iload 6, 2) := by decide +kernel
theorem dX6_plan_43 : decode cX6_plan 43 = .ok (.bipush 12, 2) := by decide +kernel
theorem dX6_plan_45 : decode cX6_plan 45 = .ok (.if_icmp .ge 65, 3) := by decide +kernel
theorem dX6_plan_48 : decode cX6_plan 48 = .ok (.aload_n 1, 1) := by decide +kernel
theorem dX6_plan_49 : decode cX6_plan 49 = .ok (.iload 6, 2) := by decide +kernel
theorem dX6_plan_51 : decode cX6_plan 51 = .ok (.invokevirtual 34, 3) := by decide +kernel
theorem dX6_plan_54 : decode cX6_plan 54 = .ok (.ifCond .eq 50, 3) := by decide +kernel
theorem dX6_plan_57 : decode cX6_plan 57 = .ok (.aload_n 1, 1) := by decide +kernel
theorem dX6_plan_58 : decode cX6_plan 58 = .ok (.iload 6, 2) := by decide +kernel
theorem dX6_plan_60 : decode cX6_plan 60 = .ok (.invokevirtual 38, 3) := by decide +kernel
theorem dX6_plan_63 : decode cX6_plan 63 = .ok (.iload 4, 2) := by decide +kernel
theorem dX6_plan_65 : decode cX6_plan 65 = .ok (.if_icmp .ne 7, 3) := by decide +kernel
theorem dX6_plan_68 : decode cX6_plan 68 = .ok (.iconst 0, 1) := by decide +kernel
theorem dX6_plan_69 : decode cX6_plan 69 = .ok (.goto 9, 3) := by decide +kernel
theorem dX6_plan_72 : decode cX6_plan 72 = .ok (.aload_n 1, 1) := by decide +kernel
theorem dX6_plan_73 : decode cX6_plan 73 = .ok (.iload 6, 2) := by decide +kernel
theorem dX6_plan_75 : decode cX6_plan 75 = .ok (.invokevirtual 41, 3) := by decide +kernel
theorem dX6_plan_78 : decode cX6_plan 78 = .ok (.istore 7, 2) := by decide +kernel
theorem dX6_plan_80 : decode cX6_plan 80 = .ok (.aload_n 0, 1) := by decide +kernel
theorem dX6_plan_81 : decode cX6_plan 81 = .ok (.aload_n 1, 1) := by decide +kernel
theorem dX6_plan_82 : decode cX6_plan 82 = .ok (.iload_n 2, 1) := by decide +kernel
theorem dX6_plan_83 : decode cX6_plan 83 = .ok (.iload 6, 2) := by decide +kernel
theorem dX6_plan_85 : decode cX6_plan 85 = .ok (.invokevirtual 44, 3) := by decide +kernel
theorem dX6_plan_88 : decode cX6_plan 88 = .ok (.ldc 47, 2) := by decide +kernel
theorem dX6_plan_90 : decode cX6_plan 90 = .ok (.iload 7, 2) := by decide +kernel
theorem dX6_plan_92 : decode cX6_plan 92 = .ok (.bipush 12, 2) := by decide +kernel
theorem dX6_plan_94 : decode cX6_plan 94 = .ok (.ishl, 1) := by decide +kernel
theorem dX6_plan_95 : decode cX6_plan 95 = .ok (.iadd, 1) := by decide +kernel
theorem dX6_plan_96 : decode cX6_plan 96 = .ok (.iconst 1, 1) := by decide +kernel
theorem dX6_plan_97 : decode cX6_plan 97 = .ok (.iload 6, 2) := by decide +kernel
theorem dX6_plan_99 : decode cX6_plan 99 = .ok (.ishl, 1) := by decide +kernel
theorem dX6_plan_100 : decode cX6_plan 100 = .ok (.iadd, 1) := by decide +kernel
theorem dX6_plan_101 : decode cX6_plan 101 = .ok (.invokevirtual 48, 3) := by decide +kernel
theorem dX6_plan_104 : decode cX6_plan 104 = .ok (.iinc 6 1, 3) := by decide +kernel
theorem dX6_plan_107 : decode cX6_plan 107 = .ok (.goto (-66), 3) := by decide +kernel
theorem dX6_plan_110 : decode cX6_plan 110 = .ok (.aload_n 0, 1) := by decide +kernel
theorem dX6_plan_111 : decode cX6_plan 111 = .ok (.aload_n 0, 1) := by decide +kernel
theorem dX6_plan_112 : decode cX6_plan 112 = .ok (.getfield 9, 3) := by decide +kernel
theorem dX6_plan_115 : decode cX6_plan 115 = .ok (.iload 5, 2) := by decide +kernel
theorem dX6_plan_117 : decode cX6_plan 117 = .ok (.iaload, 1) := by decide +kernel
theorem dX6_plan_118 : decode cX6_plan 118 = .ok (.putfield 52, 3) := by decide +kernel
theorem dX6_plan_121 : decode cX6_plan 121 = .ok (.aload_n 0, 1) := by decide +kernel
theorem dX6_plan_122 : decode cX6_plan 122 = .ok (.getfield 52, 3) := by decide +kernel
theorem dX6_plan_125 : decode cX6_plan 125 = .ok (.ldc 27, 2) := by decide +kernel
theorem dX6_plan_127 : decode cX6_plan 127 = .ok (.if_icmp .ge 7, 3) := by decide +kernel
theorem dX6_plan_130 : decode cX6_plan 130 = .ok (.iconst 1, 1) := by decide +kernel
theorem dX6_plan_131 : decode cX6_plan 131 = .ok (.goto 4, 3) := by decide +kernel
theorem dX6_plan_134 : decode cX6_plan 134 = .ok (.iconst 0, 1) := by decide +kernel
theorem dX6_plan_135 : decode cX6_plan 135 = .ok (.ireturn, 1) := by decide +kernel
theorem dX6_offer_0 : decode cX6_offer 0 = .ok (.iload_n 1, 1) := by decide +kernel
theorem dX6_offer_1 : decode cX6_offer 1 = .ok (.ifCond .gt 4, 3) := by decide +kernel
theorem dX6_offer_4 : decode cX6_offer 4 = .ok (.return_, 1) := by decide +kernel
theorem dX6_offer_5 : decode cX6_offer 5 = .ok (.bipush 99, 2) := by decide +kernel
theorem dX6_offer_7 : decode cX6_offer 7 = .ok (.istore_n 3, 1) := by decide +kernel
theorem dX6_offer_8 : decode cX6_offer 8 = .ok (.iload_n 3, 1) := by decide +kernel
theorem dX6_offer_9 : decode cX6_offer 9 = .ok (.ifCond .le 42, 3) := by decide +kernel
theorem dX6_offer_12 : decode cX6_offer 12 = .ok (.aload_n 0, 1) := by decide +kernel
theorem dX6_offer_13 : decode cX6_offer 13 = .ok (.getfield 9, 3) := by decide +kernel
theorem dX6_offer_16 : decode cX6_offer 16 = .ok (.iload_n 3, 1) := by decide +kernel
theorem dX6_offer_17 : decode cX6_offer 17 = .ok (.iload_n 1, 1) := by decide +kernel
theorem dX6_offer_18 : decode cX6_offer 18 = .ok (.isub, 1) := by decide +kernel
theorem dX6_offer_19 : decode cX6_offer 19 = .ok (.iconst 0, 1) := by decide +kernel
theorem dX6_offer_20 : decode cX6_offer 20 = .ok (.invokestatic 21, 3) := by decide +kernel
theorem dX6_offer_23 : decode cX6_offer 23 = .ok (.iaload, 1) := by decide +kernel
theorem dX6_offer_24 : decode cX6_offer 24 = .ok (.istore 4, 2) := by decide +kernel
theorem dX6_offer_26 : decode cX6_offer 26 = .ok (.aload_n 0, 1) := by decide +kernel
theorem dX6_offer_27 : decode cX6_offer 27 = .ok (.getfield 9, 3) := by decide +kernel
theorem dX6_offer_30 : decode cX6_offer 30 = .ok (.iload_n 3, 1) := by decide +kernel
theorem dX6_offer_31 : decode cX6_offer 31 = .ok (.aload_n 0, 1) := by decide +kernel
theorem dX6_offer_32 : decode cX6_offer 32 = .ok (.getfield 9, 3) := by decide +kernel
theorem dX6_offer_35 : decode cX6_offer 35 = .ok (.iload_n 3, 1) := by decide +kernel
theorem dX6_offer_36 : decode cX6_offer 36 = .ok (.iaload, 1) := by decide +kernel
theorem dX6_offer_37 : decode cX6_offer 37 = .ok (.iload 4, 2) := by decide +kernel
theorem dX6_offer_39 : decode cX6_offer 39 = .ok (.iload_n 2, 1) := by decide +kernel
theorem dX6_offer_40 : decode cX6_offer 40 = .ok (.iadd, 1) := by decide +kernel
theorem dX6_offer_41 : decode cX6_offer 41 = .ok (.invokestatic 56, 3) := by decide +kernel
theorem dX6_offer_44 : decode cX6_offer 44 = .ok (.iastore, 1) := by decide +kernel
theorem dX6_offer_45 : decode cX6_offer 45 = .ok (.iinc 3 (-1), 3) := by decide +kernel
theorem dX6_offer_48 : decode cX6_offer 48 = .ok (.goto (-40), 3) := by decide +kernel
theorem dX6_offer_51 : decode cX6_offer 51 = .ok (.return_, 1) := by decide +kernel
theorem dX6_burntBits_0 : decode cX6_burntBits 0 = .ok (.aload_n 0, 1) := by decide +kernel
theorem dX6_burntBits_1 : decode cX6_burntBits 1 = .ok (.getfield 52, 3) := by decide +kernel
theorem dX6_burntBits_4 : decode cX6_burntBits 4 = .ok (.sipush 4095, 3) := by decide +kernel
theorem dX6_burntBits_7 : decode cX6_burntBits 7 = .ok (.iand, 1) := by decide +kernel
theorem dX6_burntBits_8 : decode cX6_burntBits 8 = .ok (.ireturn, 1) := by decide +kernel
theorem dX6_loss_0 : decode cX6_loss 0 = .ok (.aload_n 0, 1) := by decide +kernel
theorem dX6_loss_1 : decode cX6_loss 1 = .ok (.getfield 52, 3) := by decide +kernel
theorem dX6_loss_4 : decode cX6_loss 4 = .ok (.bipush 12, 2) := by decide +kernel
theorem dX6_loss_6 : decode cX6_loss 6 = .ok (.ishr, 1) := by decide +kernel
theorem dX6_loss_7 : decode cX6_loss 7 = .ok (.sipush 255, 3) := by decide +kernel
theorem dX6_loss_10 : decode cX6_loss 10 = .ok (.iand, 1) := by decide +kernel
theorem dX6_loss_11 : decode cX6_loss 11 = .ok (.ireturn, 1) := by decide +kernel
theorem dX7_init_0 : decode cX7_init 0 = .ok (.aload_n 0, 1) := by decide +kernel
theorem dX7_init_1 : decode cX7_init 1 = .ok (.invokespecial 3, 3) := by decide +kernel
theorem dX7_init_4 : decode cX7_init 4 = .ok (.iload_n 1, 1) := by decide +kernel
theorem dX7_init_5 : decode cX7_init 5 = .ok (.iconst 0, 1) := by decide +kernel
theorem dX7_init_6 : decode cX7_init 6 = .ok (.invokestatic 9, 3) := by decide +kernel
theorem dX7_init_9 : decode cX7_init 9 = .ok (.istore_n 2, 1) := by decide +kernel
theorem dX7_init_10 : decode cX7_init 10 = .ok (.aload_n 0, 1) := by decide +kernel
theorem dX7_init_11 : decode cX7_init 11 = .ok (.iload_n 2, 1) := by decide +kernel
theorem dX7_init_12 : decode cX7_init 12 = .ok (.newarray .int, 2) := by decide +kernel
theorem dX7_init_14 : decode cX7_init 14 = .ok (.putfield 15, 3) := by decide +kernel
theorem dX7_init_17 : decode cX7_init 17 = .ok (.aload_n 0, 1) := by decide +kernel
theorem dX7_init_18 : decode cX7_init 18 = .ok (.iload_n 2, 1) := by decide +kernel
theorem dX7_init_19 : decode cX7_init 19 = .ok (.newarray .int, 2) := by decide +kernel
theorem dX7_init_21 : decode cX7_init 21 = .ok (.putfield 21, 3) := by decide +kernel
theorem dX7_init_24 : decode cX7_init 24 = .ok (.return_, 1) := by decide +kernel
theorem dX7_howMany_0 : decode cX7_howMany 0 = .ok (.aload_n 0, 1) := by decide +kernel
theorem dX7_howMany_1 : decode cX7_howMany 1 = .ok (.getfield 24, 3) := by decide +kernel
theorem dX7_howMany_4 : decode cX7_howMany 4 = .ok (.ireturn, 1) := by decide +kernel
theorem dX7_isFull_0 : decode cX7_isFull 0 = .ok (.aload_n 0, 1) := by decide +kernel
theorem dX7_isFull_1 : decode cX7_isFull 1 = .ok (.getfield 24, 3) := by decide +kernel
theorem dX7_isFull_4 : decode cX7_isFull 4 = .ok (.aload_n 0, 1) := by decide +kernel
theorem dX7_isFull_5 : decode cX7_isFull 5 = .ok (.getfield 15, 3) := by decide +kernel
theorem dX7_isFull_8 : decode cX7_isFull 8 = .ok (.arraylength, 1) := by decide +kernel
theorem dX7_isFull_9 : decode cX7_isFull 9 = .ok (.if_icmp .lt 7, 3) := by decide +kernel
theorem dX7_isFull_12 : decode cX7_isFull 12 = .ok (.iconst 1, 1) := by decide +kernel
theorem dX7_isFull_13 : decode cX7_isFull 13 = .ok (.goto 4, 3) := by decide +kernel
theorem dX7_isFull_16 : decode cX7_isFull 16 = .ok (.iconst 0, 1) := by decide +kernel
theorem dX7_isFull_17 : decode cX7_isFull 17 = .ok (.ireturn, 1) := by decide +kernel
theorem dX7_numberAt_0 : decode cX7_numberAt 0 = .ok (.iload_n 1, 1) := by decide +kernel
theorem dX7_numberAt_1 : decode cX7_numberAt 1 = .ok (.ifCond .lt 20, 3) := by decide +kernel
theorem dX7_numberAt_4 : decode cX7_numberAt 4 = .ok (.iload_n 1, 1) := by decide +kernel
theorem dX7_numberAt_5 : decode cX7_numberAt 5 = .ok (.aload_n 0, 1) := by decide +kernel
theorem dX7_numberAt_6 : decode cX7_numberAt 6 = .ok (.getfield 24, 3) := by decide +kernel
theorem dX7_numberAt_9 : decode cX7_numberAt 9 = .ok (.if_icmp .ge 12, 3) := by decide +kernel
theorem dX7_numberAt_12 : decode cX7_numberAt 12 = .ok (.aload_n 0, 1) := by decide +kernel
theorem dX7_numberAt_13 : decode cX7_numberAt 13 = .ok (.getfield 21, 3) := by decide +kernel
theorem dX7_numberAt_16 : decode cX7_numberAt 16 = .ok (.iload_n 1, 1) := by decide +kernel
theorem dX7_numberAt_17 : decode cX7_numberAt 17 = .ok (.iaload, 1) := by decide +kernel
theorem dX7_numberAt_18 : decode cX7_numberAt 18 = .ok (.goto 4, 3) := by decide +kernel
theorem dX7_numberAt_21 : decode cX7_numberAt 21 = .ok (.iconst 0, 1) := by decide +kernel
theorem dX7_numberAt_22 : decode cX7_numberAt 22 = .ok (.ireturn, 1) := by decide +kernel
theorem dX7_yearAt_0 : decode cX7_yearAt 0 = .ok (.iload_n 1, 1) := by decide +kernel
theorem dX7_yearAt_1 : decode cX7_yearAt 1 = .ok (.ifCond .lt 25, 3) := by decide +kernel
theorem dX7_yearAt_4 : decode cX7_yearAt 4 = .ok (.iload_n 1, 1) := by decide +kernel
theorem dX7_yearAt_5 : decode cX7_yearAt 5 = .ok (.aload_n 0, 1) := by decide +kernel
theorem dX7_yearAt_6 : decode cX7_yearAt 6 = .ok (.getfield 24, 3) := by decide +kernel
theorem dX7_yearAt_9 : decode cX7_yearAt 9 = .ok (.if_icmp .ge 17, 3) := by decide +kernel
theorem dX7_yearAt_12 : decode cX7_yearAt 12 = .ok (.aload_n 0, 1) := by decide +kernel
theorem dX7_yearAt_13 : decode cX7_yearAt 13 = .ok (.getfield 15, 3) := by decide +kernel
theorem dX7_yearAt_16 : decode cX7_yearAt 16 = .ok (.aload_n 0, 1) := by decide +kernel
theorem dX7_yearAt_17 : decode cX7_yearAt 17 = .ok (.getfield 21, 3) := by decide +kernel
theorem dX7_yearAt_20 : decode cX7_yearAt 20 = .ok (.iload_n 1, 1) := by decide +kernel
theorem dX7_yearAt_21 : decode cX7_yearAt 21 = .ok (.iaload, 1) := by decide +kernel
theorem dX7_yearAt_22 : decode cX7_yearAt 22 = .ok (.iaload, 1) := by decide +kernel
theorem dX7_yearAt_23 : decode cX7_yearAt 23 = .ok (.goto 4, 3) := by decide +kernel
theorem dX7_yearAt_26 : decode cX7_yearAt 26 = .ok (.iconst (-1), 1) := by decide +kernel
theorem dX7_yearAt_27 : decode cX7_yearAt 27 = .ok (.ireturn, 1) := by decide +kernel
theorem dX7_add_0 : decode cX7_add 0 = .ok (.aload_n 0, 1) := by decide +kernel
theorem dX7_add_1 : decode cX7_add 1 = .ok (.invokevirtual 28, 3) := by decide +kernel
theorem dX7_add_4 : decode cX7_add 4 = .ok (.ifCond .eq 4, 3) := by decide +kernel
theorem dX7_add_7 : decode cX7_add 7 = .ok (.return_, 1) := by decide +kernel
theorem dX7_add_8 : decode cX7_add 8 = .ok (.aload_n 0, 1) := by decide +kernel
theorem dX7_add_9 : decode cX7_add 9 = .ok (.getfield 24, 3) := by decide +kernel
theorem dX7_add_12 : decode cX7_add 12 = .ok (.istore_n 2, 1) := by decide +kernel
theorem dX7_add_13 : decode cX7_add 13 = .ok (.iload_n 2, 1) := by decide +kernel
theorem dX7_add_14 : decode cX7_add 14 = .ok (.ifCond .le 34, 3) := by decide +kernel
theorem dX7_add_17 : decode cX7_add 17 = .ok (.aload_n 0, 1) := by decide +kernel
theorem dX7_add_18 : decode cX7_add 18 = .ok (.iload_n 2, 1) := by decide +kernel
theorem dX7_add_19 : decode cX7_add 19 = .ok (.iconst 1, 1) := by decide +kernel
theorem dX7_add_20 : decode cX7_add 20 = .ok (.isub, 1) := by decide +kernel
theorem dX7_add_21 : decode cX7_add 21 = .ok (.invokevirtual 32, 3) := by decide +kernel
theorem dX7_add_24 : decode cX7_add 24 = .ok (.iload_n 1, 1) := by decide +kernel
theorem dX7_add_25 : decode cX7_add 25 = .ok (.if_icmp .le 23, 3) := by decide +kernel
theorem dX7_add_28 : decode cX7_add 28 = .ok (.aload_n 0, 1) := by decide +kernel
theorem dX7_add_29 : decode cX7_add 29 = .ok (.getfield 21, 3) := by decide +kernel
theorem dX7_add_32 : decode cX7_add 32 = .ok (.iload_n 2, 1) := by decide +kernel
theorem dX7_add_33 : decode cX7_add 33 = .ok (.aload_n 0, 1) := by decide +kernel
theorem dX7_add_34 : decode cX7_add 34 = .ok (.getfield 21, 3) := by decide +kernel
theorem dX7_add_37 : decode cX7_add 37 = .ok (.iload_n 2, 1) := by decide +kernel
theorem dX7_add_38 : decode cX7_add 38 = .ok (.iconst 1, 1) := by decide +kernel
theorem dX7_add_39 : decode cX7_add 39 = .ok (.isub, 1) := by decide +kernel
theorem dX7_add_40 : decode cX7_add 40 = .ok (.iaload, 1) := by decide +kernel
theorem dX7_add_41 : decode cX7_add 41 = .ok (.iastore, 1) := by decide +kernel
theorem dX7_add_42 : decode cX7_add 42 = .ok (.iinc 2 (-1), 3) := by decide +kernel
theorem dX7_add_45 : decode cX7_add 45 = .ok (.goto (-32), 3) := by decide +kernel
theorem dX7_add_48 : decode cX7_add 48 = .ok (.aload_n 0, 1) := by decide +kernel
theorem dX7_add_49 : decode cX7_add 49 = .ok (.getfield 15, 3) := by decide +kernel
theorem dX7_add_52 : decode cX7_add 52 = .ok (.aload_n 0, 1) := by decide +kernel
theorem dX7_add_53 : decode cX7_add 53 = .ok (.getfield 24, 3) := by decide +kernel
theorem dX7_add_56 : decode cX7_add 56 = .ok (.iload_n 1, 1) := by decide +kernel
theorem dX7_add_57 : decode cX7_add 57 = .ok (.iastore, 1) := by decide +kernel
theorem dX7_add_58 : decode cX7_add 58 = .ok (.aload_n 0, 1) := by decide +kernel
theorem dX7_add_59 : decode cX7_add 59 = .ok (.getfield 21, 3) := by decide +kernel
theorem dX7_add_62 : decode cX7_add 62 = .ok (.iload_n 2, 1) := by decide +kernel
theorem dX7_add_63 : decode cX7_add 63 = .ok (.aload_n 0, 1) := by decide +kernel
theorem dX7_add_64 : decode cX7_add 64 = .ok (.getfield 24, 3) := by decide +kernel
theorem dX7_add_67 : decode cX7_add 67 = .ok (.iastore, 1) := by decide +kernel
theorem dX7_add_68 : decode cX7_add 68 = .ok (.aload_n 0, 1) := by decide +kernel
theorem dX7_add_69 : decode cX7_add 69 = .ok (.dup, 1) := by decide +kernel
theorem dX7_add_70 : decode cX7_add 70 = .ok (.getfield 24, 3) := by decide +kernel
theorem dX7_add_73 : decode cX7_add 73 = .ok (.iconst 1, 1) := by decide +kernel
theorem dX7_add_74 : decode cX7_add 74 = .ok (.iadd, 1) := by decide +kernel
theorem dX7_add_75 : decode cX7_add 75 = .ok (.putfield 24, 3) := by decide +kernel
theorem dX7_add_78 : decode cX7_add 78 = .ok (.return_, 1) := by decide +kernel
theorem dX7_dropLast_0 : decode cX7_dropLast 0 = .ok (.aload_n 0, 1) := by decide +kernel
theorem dX7_dropLast_1 : decode cX7_dropLast 1 = .ok (.getfield 24, 3) := by decide +kernel
theorem dX7_dropLast_4 : decode cX7_dropLast 4 = .ok (.ifCond .ne 5, 3) := by decide +kernel
theorem dX7_dropLast_7 : decode cX7_dropLast 7 = .ok (.iconst 0, 1) := by decide +kernel
theorem dX7_dropLast_8 : decode cX7_dropLast 8 = .ok (.ireturn, 1) := by decide +kernel
theorem dX7_dropLast_9 : decode cX7_dropLast 9 = .ok (.aload_n 0, 1) := by decide +kernel
theorem dX7_dropLast_10 : decode cX7_dropLast 10 = .ok (.getfield 24, 3) := by decide +kernel
theorem dX7_dropLast_13 : decode cX7_dropLast 13 = .ok (.iconst 1, 1) := by decide +kernel
theorem dX7_dropLast_14 : decode cX7_dropLast 14 = .ok (.isub, 1) := by decide +kernel
theorem dX7_dropLast_15 : decode cX7_dropLast 15 = .ok (.istore_n 1, 1) := by decide +kernel
theorem dX7_dropLast_16 : decode cX7_dropLast 16 = .ok (.iconst 0, 1) := by decide +kernel
theorem dX7_dropLast_17 : decode cX7_dropLast 17 = .ok (.istore_n 2, 1) := by decide +kernel
theorem dX7_dropLast_18 : decode cX7_dropLast 18 = .ok (.iconst 0, 1) := by decide +kernel
theorem dX7_dropLast_19 : decode cX7_dropLast 19 = .ok (.istore_n 3, 1) := by decide +kernel
theorem dX7_dropLast_20 : decode cX7_dropLast 20 = .ok (.iload_n 3, 1) := by decide +kernel
theorem dX7_dropLast_21 : decode cX7_dropLast 21 = .ok (.aload_n 0, 1) := by decide +kernel
theorem dX7_dropLast_22 : decode cX7_dropLast 22 = .ok (.getfield 24, 3) := by decide +kernel
theorem dX7_dropLast_25 : decode cX7_dropLast 25 = .ok (.if_icmp .ge 34, 3) := by decide +kernel
theorem dX7_dropLast_28 : decode cX7_dropLast 28 = .ok (.aload_n 0, 1) := by decide +kernel
theorem dX7_dropLast_29 : decode cX7_dropLast 29 = .ok (.getfield 21, 3) := by decide +kernel
theorem dX7_dropLast_32 : decode cX7_dropLast 32 = .ok (.iload_n 3, 1) := by decide +kernel
theorem dX7_dropLast_33 : decode cX7_dropLast 33 = .ok (.iaload, 1) := by decide +kernel
theorem dX7_dropLast_34 : decode cX7_dropLast 34 = .ok (.iload_n 1, 1) := by decide +kernel
theorem dX7_dropLast_35 : decode cX7_dropLast 35 = .ok (.if_icmp .eq 18, 3) := by decide +kernel
theorem dX7_dropLast_38 : decode cX7_dropLast 38 = .ok (.aload_n 0, 1) := by decide +kernel
theorem dX7_dropLast_39 : decode cX7_dropLast 39 = .ok (.getfield 21, 3) := by decide +kernel
theorem dX7_dropLast_42 : decode cX7_dropLast 42 = .ok (.iload_n 2, 1) := by decide +kernel
theorem dX7_dropLast_43 : decode cX7_dropLast 43 = .ok (.aload_n 0, 1) := by decide +kernel
theorem dX7_dropLast_44 : decode cX7_dropLast 44 = .ok (.getfield 21, 3) := by decide +kernel
theorem dX7_dropLast_47 : decode cX7_dropLast 47 = .ok (.iload_n 3, 1) := by decide +kernel
theorem dX7_dropLast_48 : decode cX7_dropLast 48 = .ok (.iaload, 1) := by decide +kernel
theorem dX7_dropLast_49 : decode cX7_dropLast 49 = .ok (.iastore, 1) := by decide +kernel
theorem dX7_dropLast_50 : decode cX7_dropLast 50 = .ok (.iinc 2 1, 3) := by decide +kernel
theorem dX7_dropLast_53 : decode cX7_dropLast 53 = .ok (.iinc 3 1, 3) := by decide +kernel
theorem dX7_dropLast_56 : decode cX7_dropLast 56 = .ok (.goto (-36), 3) := by decide +kernel
theorem dX7_dropLast_59 : decode cX7_dropLast 59 = .ok (.aload_n 0, 1) := by decide +kernel
theorem dX7_dropLast_60 : decode cX7_dropLast 60 = .ok (.iload_n 1, 1) := by decide +kernel
theorem dX7_dropLast_61 : decode cX7_dropLast 61 = .ok (.putfield 24, 3) := by decide +kernel
theorem dX7_dropLast_64 : decode cX7_dropLast 64 = .ok (.iconst 1, 1) := by decide +kernel
theorem dX7_dropLast_65 : decode cX7_dropLast 65 = .ok (.ireturn, 1) := by decide +kernel
theorem dX7_clear_0 : decode cX7_clear 0 = .ok (.aload_n 0, 1) := by decide +kernel
theorem dX7_clear_1 : decode cX7_clear 1 = .ok (.iconst 0, 1) := by decide +kernel
theorem dX7_clear_2 : decode cX7_clear 2 = .ok (.putfield 24, 3) := by decide +kernel
theorem dX7_clear_5 : decode cX7_clear 5 = .ok (.return_, 1) := by decide +kernel
theorem dX8_init_0 : decode cX8_init 0 = .ok (.aload_n 0, 1) := by decide +kernel
theorem dX8_init_1 : decode cX8_init 1 = .ok (.invokespecial 3, 3) := by decide +kernel
theorem dX8_init_4 : decode cX8_init 4 = .ok (.aload_n 0, 1) := by decide +kernel
theorem dX8_init_5 : decode cX8_init 5 = .ok (.bipush 60, 2) := by decide +kernel
theorem dX8_init_7 : decode cX8_init 7 = .ok (.newarray .int, 2) := by decide +kernel
theorem dX8_init_9 : decode cX8_init 9 = .ok (.putfield 9, 3) := by decide +kernel
theorem dX8_init_12 : decode cX8_init 12 = .ok (.aload_n 0, 1) := by decide +kernel
theorem dX8_init_13 : decode cX8_init 13 = .ok (.iconst (-1), 1) := by decide +kernel
theorem dX8_init_14 : decode cX8_init 14 = .ok (.putfield 15, 3) := by decide +kernel
theorem dX8_init_17 : decode cX8_init 17 = .ok (.return_, 1) := by decide +kernel
theorem dX8_isLost_0 : decode cX8_isLost 0 = .ok (.aload_n 0, 1) := by decide +kernel
theorem dX8_isLost_1 : decode cX8_isLost 1 = .ok (.getfield 15, 3) := by decide +kernel
theorem dX8_isLost_4 : decode cX8_isLost 4 = .ok (.iconst (-1), 1) := by decide +kernel
theorem dX8_isLost_5 : decode cX8_isLost 5 = .ok (.if_icmp .ne 7, 3) := by decide +kernel
theorem dX8_isLost_8 : decode cX8_isLost 8 = .ok (.iconst 1, 1) := by decide +kernel
theorem dX8_isLost_9 : decode cX8_isLost 9 = .ok (.goto 4, 3) := by decide +kernel
theorem dX8_isLost_12 : decode cX8_isLost 12 = .ok (.iconst 0, 1) := by decide +kernel
theorem dX8_isLost_13 : decode cX8_isLost 13 = .ok (.ireturn, 1) := by decide +kernel
theorem dX8_length_0 : decode cX8_length 0 = .ok (.aload_n 0, 1) := by decide +kernel
theorem dX8_length_1 : decode cX8_length 1 = .ok (.getfield 19, 3) := by decide +kernel
theorem dX8_length_4 : decode cX8_length 4 = .ok (.ireturn, 1) := by decide +kernel
theorem dX8_isLike_0 : decode cX8_isLike 0 = .ok (.aload_n 0, 1) := by decide +kernel
theorem dX8_isLike_1 : decode cX8_isLike 1 = .ok (.getfield 15, 3) := by decide +kernel
theorem dX8_isLike_4 : decode cX8_isLike 4 = .ok (.aload_n 1, 1) := by decide +kernel
theorem dX8_isLike_5 : decode cX8_isLike 5 = .ok (.getfield 15, 3) := by decide +kernel
theorem dX8_isLike_8 : decode cX8_isLike 8 = .ok (.if_icmp .ne 7, 3) := by decide +kernel
theorem dX8_isLike_11 : decode cX8_isLike 11 = .ok (.iconst 1, 1) := by decide +kernel
theorem dX8_isLike_12 : decode cX8_isLike 12 = .ok (.goto 4, 3) := by decide +kernel
theorem dX8_isLike_15 : decode cX8_isLike 15 = .ok (.iconst 0, 1) := by decide +kernel
theorem dX8_isLike_16 : decode cX8_isLike 16 = .ok (.ireturn, 1) := by decide +kernel
theorem dX8_renew_0 : decode cX8_renew 0 = .ok (.aload_n 0, 1) := by decide +kernel
theorem dX8_renew_1 : decode cX8_renew 1 = .ok (.getfield 9, 3) := by decide +kernel
theorem dX8_renew_4 : decode cX8_renew 4 = .ok (.iconst 0, 1) := by decide +kernel
theorem dX8_renew_5 : decode cX8_renew 5 = .ok (.invokestatic 22, 3) := by decide +kernel
theorem dX8_renew_8 : decode cX8_renew 8 = .ok (.aload_n 0, 1) := by decide +kernel
theorem dX8_renew_9 : decode cX8_renew 9 = .ok (.iload_n 1, 1) := by decide +kernel
theorem dX8_renew_10 : decode cX8_renew 10 = .ok (.putfield 15, 3) := by decide +kernel
theorem dX8_renew_13 : decode cX8_renew 13 = .ok (.aload_n 0, 1) := by decide +kernel
theorem dX8_renew_14 : decode cX8_renew 14 = .ok (.iconst 0, 1) := by decide +kernel
theorem dX8_renew_15 : decode cX8_renew 15 = .ok (.iload_n 2, 1) := by decide +kernel
theorem dX8_renew_16 : decode cX8_renew 16 = .ok (.bipush 60, 2) := by decide +kernel
theorem dX8_renew_18 : decode cX8_renew 18 = .ok (.invokestatic 28, 3) := by decide +kernel
theorem dX8_renew_21 : decode cX8_renew 21 = .ok (.invokestatic 34, 3) := by decide +kernel
theorem dX8_renew_24 : decode cX8_renew 24 = .ok (.putfield 19, 3) := by decide +kernel
theorem dX8_renew_27 : decode cX8_renew 27 = .ok (.return_, 1) := by decide +kernel
theorem dX8_becomeLost_0 : decode cX8_becomeLost 0 = .ok (.aload_n 0, 1) := by decide +kernel
theorem dX8_becomeLost_1 : decode cX8_becomeLost 1 = .ok (.iconst (-1), 1) := by decide +kernel
theorem dX8_becomeLost_2 : decode cX8_becomeLost 2 = .ok (.putfield 15, 3) := by decide +kernel
theorem dX8_becomeLost_5 : decode cX8_becomeLost 5 = .ok (.aload_n 0, 1) := by decide +kernel
theorem dX8_becomeLost_6 : decode cX8_becomeLost 6 = .ok (.iconst 0, 1) := by decide +kernel
theorem dX8_becomeLost_7 : decode cX8_becomeLost 7 = .ok (.putfield 19, 3) := by decide +kernel
theorem dX8_becomeLost_10 : decode cX8_becomeLost 10 = .ok (.return_, 1) := by decide +kernel
theorem dX8_troubleWith_0 : decode cX8_troubleWith 0 = .ok (.aload_n 0, 1) := by decide +kernel
theorem dX8_troubleWith_1 : decode cX8_troubleWith 1 = .ok (.invokevirtual 37, 3) := by decide +kernel
theorem dX8_troubleWith_4 : decode cX8_troubleWith 4 = .ok (.ifCond .eq 5, 3) := by decide +kernel
theorem dX8_troubleWith_7 : decode cX8_troubleWith 7 = .ok (.iconst 1, 1) := by decide +kernel
theorem dX8_troubleWith_8 : decode cX8_troubleWith 8 = .ok (.ireturn, 1) := by decide +kernel
theorem dX8_troubleWith_9 : decode cX8_troubleWith 9 = .ok (.iload_n 1, 1) := by decide +kernel
theorem dX8_troubleWith_10 : decode cX8_troubleWith 10 = .ok (.aload_n 0, 1) := by decide +kernel
theorem dX8_troubleWith_11 : decode cX8_troubleWith 11 = .ok (.getfield 15, 3) := by decide +kernel
theorem dX8_troubleWith_14 : decode cX8_troubleWith 14 = .ok (.if_icmp .eq 5, 3) := by decide +kernel
theorem dX8_troubleWith_17 : decode cX8_troubleWith 17 = .ok (.iconst 3, 1) := by decide +kernel
theorem dX8_troubleWith_18 : decode cX8_troubleWith 18 = .ok (.ireturn, 1) := by decide +kernel
theorem dX8_troubleWith_19 : decode cX8_troubleWith 19 = .ok (.aload_n 0, 1) := by decide +kernel
theorem dX8_troubleWith_20 : decode cX8_troubleWith 20 = .ok (.iload_n 2, 1) := by decide +kernel
theorem dX8_troubleWith_21 : decode cX8_troubleWith 21 = .ok (.iconst 1, 1) := by decide +kernel
theorem dX8_troubleWith_22 : decode cX8_troubleWith 22 = .ok (.invokevirtual 41, 3) := by decide +kernel
theorem dX8_troubleWith_25 : decode cX8_troubleWith 25 = .ok (.ifCond .eq 7, 3) := by decide +kernel
theorem dX8_troubleWith_28 : decode cX8_troubleWith 28 = .ok (.iconst 0, 1) := by decide +kernel
theorem dX8_troubleWith_29 : decode cX8_troubleWith 29 = .ok (.goto 4, 3) := by decide +kernel
theorem dX8_troubleWith_32 : decode cX8_troubleWith 32 = .ok (.iconst 2, 1) := by decide +kernel
theorem dX8_troubleWith_33 : decode cX8_troubleWith 33 = .ok (.ireturn, 1) := by decide +kernel
theorem dX8_hasRun_0 : decode cX8_hasRun 0 = .ok (.iload_n 1, 1) := by decide +kernel
theorem dX8_hasRun_1 : decode cX8_hasRun 1 = .ok (.ifCond .lt 21, 3) := by decide +kernel
theorem dX8_hasRun_4 : decode cX8_hasRun 4 = .ok (.iload_n 2, 1) := by decide +kernel
theorem dX8_hasRun_5 : decode cX8_hasRun 5 = .ok (.ifCond .lt 17, 3) := by decide +kernel
theorem dX8_hasRun_8 : decode cX8_hasRun 8 = .ok (.iload_n 1, 1) := by decide +kernel
theorem dX8_hasRun_9 : decode cX8_hasRun 9 = .ok (.aload_n 0, 1) := by decide +kernel
theorem dX8_hasRun_10 : decode cX8_hasRun 10 = .ok (.getfield 19, 3) := by decide +kernel
theorem dX8_hasRun_13 : decode cX8_hasRun 13 = .ok (.iload_n 2, 1) := by decide +kernel
theorem dX8_hasRun_14 : decode cX8_hasRun 14 = .ok (.isub, 1) := by decide +kernel
theorem dX8_hasRun_15 : decode cX8_hasRun 15 = .ok (.if_icmp .gt 7, 3) := by decide +kernel
theorem dX8_hasRun_18 : decode cX8_hasRun 18 = .ok (.iconst 1, 1) := by decide +kernel
theorem dX8_hasRun_19 : decode cX8_hasRun 19 = .ok (.goto 4, 3) := by decide +kernel
theorem dX8_hasRun_22 : decode cX8_hasRun 22 = .ok (.iconst 0, 1) := by decide +kernel
theorem dX8_hasRun_23 : decode cX8_hasRun 23 = .ok (.ireturn, 1) := by decide +kernel
theorem dX8_item_0 : decode cX8_item 0 = .ok (.aload_n 0, 1) := by decide +kernel
theorem dX8_item_1 : decode cX8_item 1 = .ok (.iload_n 1, 1) := by decide +kernel
theorem dX8_item_2 : decode cX8_item 2 = .ok (.iconst 1, 1) := by decide +kernel
theorem dX8_item_3 : decode cX8_item 3 = .ok (.invokevirtual 41, 3) := by decide +kernel
theorem dX8_item_6 : decode cX8_item 6 = .ok (.ifCond .eq 12, 3) := by decide +kernel
theorem dX8_item_9 : decode cX8_item 9 = .ok (.aload_n 0, 1) := by decide +kernel
theorem dX8_item_10 : decode cX8_item 10 = .ok (.getfield 9, 3) := by decide +kernel
theorem dX8_item_13 : decode cX8_item 13 = .ok (.iload_n 1, 1) := by decide +kernel
theorem dX8_item_14 : decode cX8_item 14 = .ok (.iaload, 1) := by decide +kernel
theorem dX8_item_15 : decode cX8_item 15 = .ok (.goto 4, 3) := by decide +kernel
theorem dX8_item_18 : decode cX8_item 18 = .ok (.iconst 0, 1) := by decide +kernel
theorem dX8_item_19 : decode cX8_item 19 = .ok (.ireturn, 1) := by decide +kernel
theorem dX8_putItem_0 : decode cX8_putItem 0 = .ok (.aload_n 0, 1) := by decide +kernel
theorem dX8_putItem_1 : decode cX8_putItem 1 = .ok (.iload_n 1, 1) := by decide +kernel
theorem dX8_putItem_2 : decode cX8_putItem 2 = .ok (.iconst 1, 1) := by decide +kernel
theorem dX8_putItem_3 : decode cX8_putItem 3 = .ok (.invokevirtual 41, 3) := by decide +kernel
theorem dX8_putItem_6 : decode cX8_putItem 6 = .ok (.ifCond .eq 14, 3) := by decide +kernel
theorem dX8_putItem_9 : decode cX8_putItem 9 = .ok (.aload_n 0, 1) := by decide +kernel
theorem dX8_putItem_10 : decode cX8_putItem 10 = .ok (.getfield 9, 3) := by decide +kernel
theorem dX8_putItem_13 : decode cX8_putItem 13 = .ok (.iload_n 1, 1) := by decide +kernel
theorem dX8_putItem_14 : decode cX8_putItem 14 = .ok (.aload_n 0, 1) := by decide +kernel
theorem dX8_putItem_15 : decode cX8_putItem 15 = .ok (.iload_n 2, 1) := by decide +kernel
theorem dX8_putItem_16 : decode cX8_putItem 16 = .ok (.invokevirtual 45, 3) := by decide +kernel
theorem dX8_putItem_19 : decode cX8_putItem 19 = .ok (.iastore, 1) := by decide +kernel
theorem dX8_putItem_20 : decode cX8_putItem 20 = .ok (.return_, 1) := by decide +kernel
theorem dX8_narrow_0 : decode cX8_narrow 0 = .ok (.aload_n 0, 1) := by decide +kernel
theorem dX8_narrow_1 : decode cX8_narrow 1 = .ok (.getfield 15, 3) := by decide +kernel
theorem dX8_narrow_4 : decode cX8_narrow 4 = .ok (.ifCond .ne 6, 3) := by decide +kernel
theorem dX8_narrow_7 : decode cX8_narrow 7 = .ok (.iload_n 1, 1) := by decide +kernel
theorem dX8_narrow_8 : decode cX8_narrow 8 = .ok (.i2b, 1) := by decide +kernel
theorem dX8_narrow_9 : decode cX8_narrow 9 = .ok (.ireturn, 1) := by decide +kernel
theorem dX8_narrow_10 : decode cX8_narrow 10 = .ok (.aload_n 0, 1) := by decide +kernel
theorem dX8_narrow_11 : decode cX8_narrow 11 = .ok (.getfield 15, 3) := by decide +kernel
theorem dX8_narrow_14 : decode cX8_narrow 14 = .ok (.iconst 1, 1) := by decide +kernel
theorem dX8_narrow_15 : decode cX8_narrow 15 = .ok (.if_icmp .ne 8, 3) := by decide +kernel
theorem dX8_narrow_18 : decode cX8_narrow 18 = .ok (.iload_n 1, 1) := by decide +kernel
theorem dX8_narrow_19 : decode cX8_narrow 19 = .ok (.i2s, 1) := by decide +kernel
theorem dX8_narrow_20 : decode cX8_narrow 20 = .ok (.goto 4, 3) := by decide +kernel
theorem dX8_narrow_23 : decode cX8_narrow 23 = .ok (.iload_n 1, 1) := by decide +kernel
theorem dX8_narrow_24 : decode cX8_narrow 24 = .ok (.ireturn, 1) := by decide +kernel
theorem dX8_putRun_0 : decode cX8_putRun 0 = .ok (.aload_n 2, 1) := by decide +kernel
theorem dX8_putRun_1 : decode cX8_putRun 1 = .ok (.iload_n 3, 1) := by decide +kernel
theorem dX8_putRun_2 : decode cX8_putRun 2 = .ok (.iload 4, 2) := by decide +kernel
theorem dX8_putRun_4 : decode cX8_putRun 4 = .ok (.invokevirtual 41, 3) := by decide +kernel
theorem dX8_putRun_7 : decode cX8_putRun 7 = .ok (.ifCond .eq 28, 3) := by decide +kernel
theorem dX8_putRun_10 : decode cX8_putRun 10 = .ok (.aload_n 0, 1) := by decide +kernel
theorem dX8_putRun_11 : decode cX8_putRun 11 = .ok (.iload_n 1, 1) := by decide +kernel
theorem dX8_putRun_12 : decode cX8_putRun 12 = .ok (.iload 4, 2) := by decide +kernel
theorem dX8_putRun_14 : decode cX8_putRun 14 = .ok (.invokevirtual 41, 3) := by decide +kernel
theorem dX8_putRun_17 : decode cX8_putRun 17 = .ok (.ifCond .eq 18, 3) := by decide +kernel
theorem dX8_putRun_20 : decode cX8_putRun 20 = .ok (.aload_n 2, 1) := by decide +kernel
theorem dX8_putRun_21 : decode cX8_putRun 21 = .ok (.getfield 9, 3) := by decide +kernel
theorem dX8_putRun_24 : decode cX8_putRun 24 = .ok (.iload_n 3, 1) := by decide +kernel
theorem dX8_putRun_25 : decode cX8_putRun 25 = .ok (.aload_n 0, 1) := by decide +kernel
theorem dX8_putRun_26 : decode cX8_putRun 26 = .ok (.getfield 9, 3) := by decide +kernel
theorem dX8_putRun_29 : decode cX8_putRun 29 = .ok (.iload_n 1, 1) := by decide +kernel
theorem dX8_putRun_30 : decode cX8_putRun 30 = .ok (.iload 4, 2) := by decide +kernel
theorem dX8_putRun_32 : decode cX8_putRun 32 = .ok (.invokestatic 49, 3) := by decide +kernel
theorem dX8_putRun_35 : decode cX8_putRun 35 = .ok (.return_, 1) := by decide +kernel
theorem dX9_init_0 : decode cX9_init 0 = .ok (.aload_n 0, 1) := by decide +kernel
theorem dX9_init_1 : decode cX9_init 1 = .ok (.invokespecial 3, 3) := by decide +kernel
theorem dX9_init_4 : decode cX9_init 4 = .ok (.aload_n 0, 1) := by decide +kernel
theorem dX9_init_5 : decode cX9_init 5 = .ok (.new 9, 3) := by decide +kernel
theorem dX9_init_8 : decode cX9_init 8 = .ok (.dup, 1) := by decide +kernel
theorem dX9_init_9 : decode cX9_init 9 = .ok (.bipush 8, 2) := by decide +kernel
theorem dX9_init_11 : decode cX9_init 11 = .ok (.invokespecial 11, 3) := by decide +kernel
theorem dX9_init_14 : decode cX9_init 14 = .ok (.putfield 14, 3) := by decide +kernel
theorem dX9_init_17 : decode cX9_init 17 = .ok (.aload_n 0, 1) := by decide +kernel
theorem dX9_init_18 : decode cX9_init 18 = .ok (.bipush 8, 2) := by decide +kernel
theorem dX9_init_20 : decode cX9_init 20 = .ok (.newarray .int, 2) := by decide +kernel
theorem dX9_init_22 : decode cX9_init 22 = .ok (.putfield 20, 3) := by decide +kernel
theorem dX9_init_25 : decode cX9_init 25 = .ok (.aload_n 0, 1) := by decide +kernel
theorem dX9_init_26 : decode cX9_init 26 = .ok (.bipush 8, 2) := by decide +kernel
theorem dX9_init_28 : decode cX9_init 28 = .ok (.newarray .int, 2) := by decide +kernel
theorem dX9_init_30 : decode cX9_init 30 = .ok (.putfield 24, 3) := by decide +kernel
theorem dX9_init_33 : decode cX9_init 33 = .ok (.return_, 1) := by decide +kernel
theorem dX9_howMany_0 : decode cX9_howMany 0 = .ok (.aload_n 0, 1) := by decide +kernel
theorem dX9_howMany_1 : decode cX9_howMany 1 = .ok (.getfield 14, 3) := by decide +kernel
theorem dX9_howMany_4 : decode cX9_howMany 4 = .ok (.invokevirtual 27, 3) := by decide +kernel
theorem dX9_howMany_7 : decode cX9_howMany 7 = .ok (.ireturn, 1) := by decide +kernel
theorem dX9_clear_0 : decode cX9_clear 0 = .ok (.aload_n 0, 1) := by decide +kernel
theorem dX9_clear_1 : decode cX9_clear 1 = .ok (.getfield 14, 3) := by decide +kernel
theorem dX9_clear_4 : decode cX9_clear 4 = .ok (.invokevirtual 31, 3) := by decide +kernel
theorem dX9_clear_7 : decode cX9_clear 7 = .ok (.return_, 1) := by decide +kernel
theorem dX9_add_0 : decode cX9_add 0 = .ok (.aload_n 0, 1) := by decide +kernel
theorem dX9_add_1 : decode cX9_add 1 = .ok (.getfield 14, 3) := by decide +kernel
theorem dX9_add_4 : decode cX9_add 4 = .ok (.invokevirtual 27, 3) := by decide +kernel
theorem dX9_add_7 : decode cX9_add 7 = .ok (.istore 4, 2) := by decide +kernel
theorem dX9_add_9 : decode cX9_add 9 = .ok (.iload 4, 2) := by decide +kernel
theorem dX9_add_11 : decode cX9_add 11 = .ok (.bipush 8, 2) := by decide +kernel
theorem dX9_add_13 : decode cX9_add 13 = .ok (.if_icmp .lt 5, 3) := by decide +kernel
theorem dX9_add_16 : decode cX9_add 16 = .ok (.iconst 0, 1) := by decide +kernel
theorem dX9_add_17 : decode cX9_add 17 = .ok (.ireturn, 1) := by decide +kernel
theorem dX9_add_18 : decode cX9_add 18 = .ok (.aload_n 0, 1) := by decide +kernel
theorem dX9_add_19 : decode cX9_add 19 = .ok (.getfield 20, 3) := by decide +kernel
theorem dX9_add_22 : decode cX9_add 22 = .ok (.iload 4, 2) := by decide +kernel
theorem dX9_add_24 : decode cX9_add 24 = .ok (.iload_n 2, 1) := by decide +kernel
theorem dX9_add_25 : decode cX9_add 25 = .ok (.iastore, 1) := by decide +kernel
theorem dX9_add_26 : decode cX9_add 26 = .ok (.aload_n 0, 1) := by decide +kernel
theorem dX9_add_27 : decode cX9_add 27 = .ok (.getfield 24, 3) := by decide +kernel
theorem dX9_add_30 : decode cX9_add 30 = .ok (.iload 4, 2) := by decide +kernel
theorem dX9_add_32 : decode cX9_add 32 = .ok (.iload_n 3, 1) := by decide +kernel
theorem dX9_add_33 : decode cX9_add 33 = .ok (.iastore, 1) := by decide +kernel
theorem dX9_add_34 : decode cX9_add 34 = .ok (.aload_n 0, 1) := by decide +kernel
theorem dX9_add_35 : decode cX9_add 35 = .ok (.getfield 14, 3) := by decide +kernel
theorem dX9_add_38 : decode cX9_add 38 = .ok (.iload_n 1, 1) := by decide +kernel
theorem dX9_add_39 : decode cX9_add 39 = .ok (.invokevirtual 34, 3) := by decide +kernel
theorem dX9_add_42 : decode cX9_add 42 = .ok (.iconst 1, 1) := by decide +kernel
theorem dX9_add_43 : decode cX9_add 43 = .ok (.ireturn, 1) := by decide +kernel
theorem dX9_isBorneOut_0 : decode cX9_isBorneOut 0 = .ok (.aload_n 1, 1) := by decide +kernel
theorem dX9_isBorneOut_1 : decode cX9_isBorneOut 1 = .ok (.iload_n 2, 1) := by decide +kernel
theorem dX9_isBorneOut_2 : decode cX9_isBorneOut 2 = .ok (.iload_n 3, 1) := by decide +kernel
theorem dX9_isBorneOut_3 : decode cX9_isBorneOut 3 = .ok (.invokevirtual 37, 3) := by decide +kernel
theorem dX9_isBorneOut_6 : decode cX9_isBorneOut 6 = .ok (.iconst 0, 1) := by decide +kernel
theorem dX9_isBorneOut_7 : decode cX9_isBorneOut 7 = .ok (.istore 4, 2) := by decide +kernel
theorem dX9_isBorneOut_9 : decode cX9_isBorneOut 9 = .ok (.iconst 0, 1) := by decide +kernel
theorem dX9_isBorneOut_10 : decode cX9_isBorneOut 10 = .ok (.istore 5, 2) := by decide +kernel
theorem dX9_isBorneOut_12 : decode cX9_isBorneOut 12 = .ok (.iload 5, 2) := by decide +kernel
theorem dX9_isBorneOut_14 : decode cX9_isBorneOut 14 = .ok (.bipush 29, 2) := by decide +kernel
theorem dX9_isBorneOut_16 : decode cX9_isBorneOut 16 = .ok (.if_icmp .gt 78, 3) := by decide +kernel
theorem dX9_isBorneOut_19 : decode cX9_isBorneOut 19 = .ok (.iload 4, 2) := by decide +kernel
theorem dX9_isBorneOut_21 : decode cX9_isBorneOut 21 = .ok (.aload_n 0, 1) := by decide +kernel
theorem dX9_isBorneOut_22 : decode cX9_isBorneOut 22 = .ok (.getfield 14, 3) := by decide +kernel
theorem dX9_isBorneOut_25 : decode cX9_isBorneOut 25 = .ok (.invokevirtual 27, 3) := by decide +kernel
theorem dX9_isBorneOut_28 : decode cX9_isBorneOut 28 = .ok (.if_icmp .ge 66, 3) := by decide +kernel
theorem dX9_isBorneOut_31 : decode cX9_isBorneOut 31 = .ok (.aload_n 1, 1) := by decide +kernel
theorem dX9_isBorneOut_32 : decode cX9_isBorneOut 32 = .ok (.iload 5, 2) := by decide +kernel
theorem dX9_isBorneOut_34 : decode cX9_isBorneOut 34 = .ok (.invokevirtual 43, 3) := by decide +kernel
theorem dX9_isBorneOut_37 : decode cX9_isBorneOut 37 = .ok (.iload 4, 2) := by decide +kernel
theorem dX9_isBorneOut_39 : decode cX9_isBorneOut 39 = .ok (.aload_n 0, 1) := by decide +kernel
theorem dX9_isBorneOut_40 : decode cX9_isBorneOut 40 = .ok (.getfield 14, 3) := by decide +kernel
theorem dX9_isBorneOut_43 : decode cX9_isBorneOut 43 = .ok (.invokevirtual 27, 3) := by decide +kernel
theorem dX9_isBorneOut_46 : decode cX9_isBorneOut 46 = .ok (.if_icmp .ge 42, 3) := by decide +kernel
theorem dX9_isBorneOut_49 : decode cX9_isBorneOut 49 = .ok (.aload_n 0, 1) := by decide +kernel
theorem dX9_isBorneOut_50 : decode cX9_isBorneOut 50 = .ok (.getfield 14, 3) := by decide +kernel
theorem dX9_isBorneOut_53 : decode cX9_isBorneOut 53 = .ok (.iload 4, 2) := by decide +kernel
theorem dX9_isBorneOut_55 : decode cX9_isBorneOut 55 = .ok (.invokevirtual 46, 3) := by decide +kernel
theorem dX9_isBorneOut_58 : decode cX9_isBorneOut 58 = .ok (.iload 5, 2) := by decide +kernel
theorem dX9_isBorneOut_60 : decode cX9_isBorneOut 60 = .ok (.if_icmp .ne 28, 3) := by decide +kernel
theorem dX9_isBorneOut_63 : decode cX9_isBorneOut 63 = .ok (.aload_n 0, 1) := by decide +kernel
theorem dX9_isBorneOut_64 : decode cX9_isBorneOut 64 = .ok (.aload_n 1, 1) := by decide +kernel
theorem dX9_isBorneOut_65 : decode cX9_isBorneOut 65 = .ok (.aload_n 0, 1) := by decide +kernel
theorem dX9_isBorneOut_66 : decode cX9_isBorneOut 66 = .ok (.getfield 14, 3) := by decide +kernel
theorem dX9_isBorneOut_69 : decode cX9_isBorneOut 69 = .ok (.iload 4, 2) := by decide +kernel
theorem dX9_isBorneOut_71 : decode cX9_isBorneOut 71 = .ok (.invokevirtual 50, 3) := by decide +kernel
theorem dX9_isBorneOut_74 : decode cX9_isBorneOut 74 = .ok (.invokevirtual 53, 3) := by decide +kernel
theorem dX9_isBorneOut_77 : decode cX9_isBorneOut 77 = .ok (.ifCond .ne 5, 3) := by decide +kernel
theorem dX9_isBorneOut_80 : decode cX9_isBorneOut 80 = .ok (.iconst 0, 1) := by decide +kernel
theorem dX9_isBorneOut_81 : decode cX9_isBorneOut 81 = .ok (.ireturn, 1) := by decide +kernel
theorem dX9_isBorneOut_82 : decode cX9_isBorneOut 82 = .ok (.iinc 4 1, 3) := by decide +kernel
theorem dX9_isBorneOut_85 : decode cX9_isBorneOut 85 = .ok (.goto (-48), 3) := by decide +kernel
theorem dX9_isBorneOut_88 : decode cX9_isBorneOut 88 = .ok (.iinc 5 1, 3) := by decide +kernel
theorem dX9_isBorneOut_91 : decode cX9_isBorneOut 91 = .ok (.goto (-79), 3) := by decide +kernel
theorem dX9_isBorneOut_94 : decode cX9_isBorneOut 94 = .ok (.iconst 1, 1) := by decide +kernel
theorem dX9_isBorneOut_95 : decode cX9_isBorneOut 95 = .ok (.ireturn, 1) := by decide +kernel
theorem dX9_agrees_0 : decode cX9_agrees 0 = .ok (.iload_n 2, 1) := by decide +kernel
theorem dX9_agrees_1 : decode cX9_agrees 1 = .ok (.ifCond .lt 32, 3) := by decide +kernel
theorem dX9_agrees_4 : decode cX9_agrees 4 = .ok (.iload_n 2, 1) := by decide +kernel
theorem dX9_agrees_5 : decode cX9_agrees 5 = .ok (.bipush 8, 2) := by decide +kernel
theorem dX9_agrees_7 : decode cX9_agrees 7 = .ok (.if_icmp .ge 26, 3) := by decide +kernel
theorem dX9_agrees_10 : decode cX9_agrees 10 = .ok (.aload_n 1, 1) := by decide +kernel
theorem dX9_agrees_11 : decode cX9_agrees 11 = .ok (.aload_n 0, 1) := by decide +kernel
theorem dX9_agrees_12 : decode cX9_agrees 12 = .ok (.getfield 20, 3) := by decide +kernel
theorem dX9_agrees_15 : decode cX9_agrees 15 = .ok (.iload_n 2, 1) := by decide +kernel
theorem dX9_agrees_16 : decode cX9_agrees 16 = .ok (.iaload, 1) := by decide +kernel
theorem dX9_agrees_17 : decode cX9_agrees 17 = .ok (.invokevirtual 57, 3) := by decide +kernel
theorem dX9_agrees_20 : decode cX9_agrees 20 = .ok (.aload_n 0, 1) := by decide +kernel
theorem dX9_agrees_21 : decode cX9_agrees 21 = .ok (.getfield 24, 3) := by decide +kernel
theorem dX9_agrees_24 : decode cX9_agrees 24 = .ok (.iload_n 2, 1) := by decide +kernel
theorem dX9_agrees_25 : decode cX9_agrees 25 = .ok (.iaload, 1) := by decide +kernel
theorem dX9_agrees_26 : decode cX9_agrees 26 = .ok (.if_icmp .ne 7, 3) := by decide +kernel
theorem dX9_agrees_29 : decode cX9_agrees 29 = .ok (.iconst 1, 1) := by decide +kernel
theorem dX9_agrees_30 : decode cX9_agrees 30 = .ok (.goto 4, 3) := by decide +kernel
theorem dX9_agrees_33 : decode cX9_agrees 33 = .ok (.iconst 0, 1) := by decide +kernel
theorem dX9_agrees_34 : decode cX9_agrees 34 = .ok (.ireturn, 1) := by decide +kernel
theorem dX10_init_0 : decode cX10_init 0 = .ok (.aload_n 0, 1) := by decide +kernel
theorem dX10_init_1 : decode cX10_init 1 = .ok (.invokespecial 1, 3) := by decide +kernel
theorem dX10_init_4 : decode cX10_init 4 = .ok (.aload_n 0, 1) := by decide +kernel
theorem dX10_init_5 : decode cX10_init 5 = .ok (.new 7, 3) := by decide +kernel
theorem dX10_init_8 : decode cX10_init 8 = .ok (.dup, 1) := by decide +kernel
theorem dX10_init_9 : decode cX10_init 9 = .ok (.invokespecial 9, 3) := by decide +kernel
theorem dX10_init_12 : decode cX10_init 12 = .ok (.putfield 10, 3) := by decide +kernel
theorem dX10_init_15 : decode cX10_init 15 = .ok (.aload_n 0, 1) := by decide +kernel
theorem dX10_init_16 : decode cX10_init 16 = .ok (.new 16, 3) := by decide +kernel
theorem dX10_init_19 : decode cX10_init 19 = .ok (.dup, 1) := by decide +kernel
theorem dX10_init_20 : decode cX10_init 20 = .ok (.invokespecial 18, 3) := by decide +kernel
theorem dX10_init_23 : decode cX10_init 23 = .ok (.putfield 19, 3) := by decide +kernel
theorem dX10_init_26 : decode cX10_init 26 = .ok (.aload_n 0, 1) := by decide +kernel
theorem dX10_init_27 : decode cX10_init 27 = .ok (.new 23, 3) := by decide +kernel
theorem dX10_init_30 : decode cX10_init 30 = .ok (.dup, 1) := by decide +kernel
theorem dX10_init_31 : decode cX10_init 31 = .ok (.invokespecial 25, 3) := by decide +kernel
theorem dX10_init_34 : decode cX10_init 34 = .ok (.putfield 26, 3) := by decide +kernel
theorem dX10_init_37 : decode cX10_init 37 = .ok (.aload_n 0, 1) := by decide +kernel
theorem dX10_init_38 : decode cX10_init 38 = .ok (.new 30, 3) := by decide +kernel
theorem dX10_init_41 : decode cX10_init 41 = .ok (.dup, 1) := by decide +kernel
theorem dX10_init_42 : decode cX10_init 42 = .ok (.aload_n 0, 1) := by decide +kernel
theorem dX10_init_43 : decode cX10_init 43 = .ok (.getfield 10, 3) := by decide +kernel
theorem dX10_init_46 : decode cX10_init 46 = .ok (.aload_n 0, 1) := by decide +kernel
theorem dX10_init_47 : decode cX10_init 47 = .ok (.getfield 19, 3) := by decide +kernel
theorem dX10_init_50 : decode cX10_init 50 = .ok (.aload_n 0, 1) := by decide +kernel
theorem dX10_init_51 : decode cX10_init 51 = .ok (.getfield 26, 3) := by decide +kernel
theorem dX10_init_54 : decode cX10_init 54 = .ok (.invokespecial 32, 3) := by decide +kernel
theorem dX10_init_57 : decode cX10_init 57 = .ok (.putfield 35, 3) := by decide +kernel
theorem dX10_init_60 : decode cX10_init 60 = .ok (.aload_n 0, 1) := by decide +kernel
theorem dX10_init_61 : decode cX10_init 61 = .ok (.new 39, 3) := by decide +kernel
theorem dX10_init_64 : decode cX10_init 64 = .ok (.dup, 1) := by decide +kernel
theorem dX10_init_65 : decode cX10_init 65 = .ok (.invokespecial 41, 3) := by decide +kernel
theorem dX10_init_68 : decode cX10_init 68 = .ok (.putfield 42, 3) := by decide +kernel
theorem dX10_init_71 : decode cX10_init 71 = .ok (.aload_n 0, 1) := by decide +kernel
theorem dX10_init_72 : decode cX10_init 72 = .ok (.new 46, 3) := by decide +kernel
theorem dX10_init_75 : decode cX10_init 75 = .ok (.dup, 1) := by decide +kernel
theorem dX10_init_76 : decode cX10_init 76 = .ok (.invokespecial 48, 3) := by decide +kernel
theorem dX10_init_79 : decode cX10_init 79 = .ok (.putfield 49, 3) := by decide +kernel
theorem dX10_init_82 : decode cX10_init 82 = .ok (.aload_n 0, 1) := by decide +kernel
theorem dX10_init_83 : decode cX10_init 83 = .ok (.new 53, 3) := by decide +kernel
theorem dX10_init_86 : decode cX10_init 86 = .ok (.dup, 1) := by decide +kernel
theorem dX10_init_87 : decode cX10_init 87 = .ok (.invokespecial 55, 3) := by decide +kernel
theorem dX10_init_90 : decode cX10_init 90 = .ok (.putfield 56, 3) := by decide +kernel
theorem dX10_init_93 : decode cX10_init 93 = .ok (.aload_n 0, 1) := by decide +kernel
theorem dX10_init_94 : decode cX10_init 94 = .ok (.new 60, 3) := by decide +kernel
theorem dX10_init_97 : decode cX10_init 97 = .ok (.dup, 1) := by decide +kernel
theorem dX10_init_98 : decode cX10_init 98 = .ok (.invokespecial 62, 3) := by decide +kernel
theorem dX10_init_101 : decode cX10_init 101 = .ok (.putfield 63, 3) := by decide +kernel
theorem dX10_init_104 : decode cX10_init 104 = .ok (.aload_n 0, 1) := by decide +kernel
theorem dX10_init_105 : decode cX10_init 105 = .ok (.iconst 4, 1) := by decide +kernel
theorem dX10_init_106 : decode cX10_init 106 = .ok (.anewarray 67, 3) := by decide +kernel
theorem dX10_init_109 : decode cX10_init 109 = .ok (.putfield 69, 3) := by decide +kernel
theorem dX10_init_112 : decode cX10_init 112 = .ok (.aload_n 0, 1) := by decide +kernel
theorem dX10_init_113 : decode cX10_init 113 = .ok (.bipush 10, 2) := by decide +kernel
theorem dX10_init_115 : decode cX10_init 115 = .ok (.putfield 73, 3) := by decide +kernel
theorem dX10_init_118 : decode cX10_init 118 = .ok (.aload_n 0, 1) := by decide +kernel
theorem dX10_init_119 : decode cX10_init 119 = .ok (.iconst 0, 1) := by decide +kernel
theorem dX10_init_120 : decode cX10_init 120 = .ok (.putfield 77, 3) := by decide +kernel
theorem dX10_init_123 : decode cX10_init 123 = .ok (.iconst 0, 1) := by decide +kernel
theorem dX10_init_124 : decode cX10_init 124 = .ok (.istore_n 1, 1) := by decide +kernel
theorem dX10_init_125 : decode cX10_init 125 = .ok (.iload_n 1, 1) := by decide +kernel
theorem dX10_init_126 : decode cX10_init 126 = .ok (.iconst 4, 1) := by decide +kernel
theorem dX10_init_127 : decode cX10_init 127 = .ok (.if_icmp .ge 22, 3) := by decide +kernel
theorem dX10_init_130 : decode cX10_init 130 = .ok (.aload_n 0, 1) := by decide +kernel
theorem dX10_init_131 : decode cX10_init 131 = .ok (.getfield 69, 3) := by decide +kernel
theorem dX10_init_134 : decode cX10_init 134 = .ok (.iload_n 1, 1) := by decide +kernel
theorem dX10_init_135 : decode cX10_init 135 = .ok (.new 67, 3) := by decide +kernel
theorem dX10_init_138 : decode cX10_init 138 = .ok (.dup, 1) := by decide +kernel
theorem dX10_init_139 : decode cX10_init 139 = .ok (.invokespecial 80, 3) := by decide +kernel
theorem dX10_init_142 : decode cX10_init 142 = .ok (.aastore, 1) := by decide +kernel
theorem dX10_init_143 : decode cX10_init 143 = .ok (.iinc 1 1, 3) := by decide +kernel
theorem dX10_init_146 : decode cX10_init 146 = .ok (.goto (-21), 3) := by decide +kernel
theorem dX10_init_149 : decode cX10_init 149 = .ok (.return_, 1) := by decide +kernel
theorem dX10_type_0 : decode cX10_type 0 = .ok (.iload_n 1, 1) := by decide +kernel
theorem dX10_type_1 : decode cX10_type 1 = .ok (.iconst 0, 1) := by decide +kernel
theorem dX10_type_2 : decode cX10_type 2 = .ok (.sipush 255, 3) := by decide +kernel
theorem dX10_type_5 : decode cX10_type 5 = .ok (.invokestatic 81, 3) := by decide +kernel
theorem dX10_type_8 : decode cX10_type 8 = .ok (.ifCond .ne 6, 3) := by decide +kernel
theorem dX10_type_11 : decode cX10_type 11 = .ok (.bipush (-2), 2) := by decide +kernel
theorem dX10_type_13 : decode cX10_type 13 = .ok (.ireturn, 1) := by decide +kernel
theorem dX10_type_14 : decode cX10_type 14 = .ok (.aload_n 0, 1) := by decide +kernel
theorem dX10_type_15 : decode cX10_type 15 = .ok (.getfield 10, 3) := by decide +kernel
theorem dX10_type_18 : decode cX10_type 18 = .ok (.invokevirtual 85, 3) := by decide +kernel
theorem dX10_type_21 : decode cX10_type 21 = .ok (.bipush 31, 2) := by decide +kernel
theorem dX10_type_23 : decode cX10_type 23 = .ok (.if_icmp .lt 6, 3) := by decide +kernel
theorem dX10_type_26 : decode cX10_type 26 = .ok (.bipush (-4), 2) := by decide +kernel
theorem dX10_type_28 : decode cX10_type 28 = .ok (.ireturn, 1) := by decide +kernel
theorem dX10_type_29 : decode cX10_type 29 = .ok (.aload_n 0, 1) := by decide +kernel
theorem dX10_type_30 : decode cX10_type 30 = .ok (.getfield 10, 3) := by decide +kernel
theorem dX10_type_33 : decode cX10_type 33 = .ok (.iload_n 1, 1) := by decide +kernel
theorem dX10_type_34 : decode cX10_type 34 = .ok (.invokevirtual 89, 3) := by decide +kernel
theorem dX10_type_37 : decode cX10_type 37 = .ok (.aload_n 0, 1) := by decide +kernel
theorem dX10_type_38 : decode cX10_type 38 = .ok (.getfield 10, 3) := by decide +kernel
theorem dX10_type_41 : decode cX10_type 41 = .ok (.invokevirtual 85, 3) := by decide +kernel
theorem dX10_type_44 : decode cX10_type 44 = .ok (.ireturn, 1) := by decide +kernel
theorem dX10_wipe_0 : decode cX10_wipe 0 = .ok (.aload_n 0, 1) := by decide +kernel
theorem dX10_wipe_1 : decode cX10_wipe 1 = .ok (.getfield 10, 3) := by decide +kernel
theorem dX10_wipe_4 : decode cX10_wipe 4 = .ok (.invokevirtual 85, 3) := by decide +kernel
theorem dX10_wipe_7 : decode cX10_wipe 7 = .ok (.istore_n 1, 1) := by decide +kernel
theorem dX10_wipe_8 : decode cX10_wipe 8 = .ok (.aload_n 0, 1) := by decide +kernel
theorem dX10_wipe_9 : decode cX10_wipe 9 = .ok (.getfield 10, 3) := by decide +kernel
theorem dX10_wipe_12 : decode cX10_wipe 12 = .ok (.iconst 0, 1) := by decide +kernel
theorem dX10_wipe_13 : decode cX10_wipe 13 = .ok (.invokevirtual 93, 3) := by decide +kernel
theorem dX10_wipe_16 : decode cX10_wipe 16 = .ok (.iload_n 1, 1) := by decide +kernel
theorem dX10_wipe_17 : decode cX10_wipe 17 = .ok (.ireturn, 1) := by decide +kernel
theorem dX10_undo_0 : decode cX10_undo 0 = .ok (.aload_n 0, 1) := by decide +kernel
theorem dX10_undo_1 : decode cX10_undo 1 = .ok (.getfield 10, 3) := by decide +kernel
theorem dX10_undo_4 : decode cX10_undo 4 = .ok (.invokevirtual 85, 3) := by decide +kernel
theorem dX10_undo_7 : decode cX10_undo 7 = .ok (.ifCond .ne 6, 3) := by decide +kernel
theorem dX10_undo_10 : decode cX10_undo 10 = .ok (.bipush (-3), 2) := by decide +kernel
theorem dX10_undo_12 : decode cX10_undo 12 = .ok (.ireturn, 1) := by decide +kernel
theorem dX10_undo_13 : decode cX10_undo 13 = .ok (.aload_n 0, 1) := by decide +kernel
theorem dX10_undo_14 : decode cX10_undo 14 = .ok (.getfield 10, 3) := by decide +kernel
theorem dX10_undo_17 : decode cX10_undo 17 = .ok (.aload_n 0, 1) := by decide +kernel
theorem dX10_undo_18 : decode cX10_undo 18 = .ok (.getfield 10, 3) := by decide +kernel
theorem dX10_undo_21 : decode cX10_undo 21 = .ok (.invokevirtual 85, 3) := by decide +kernel
theorem dX10_undo_24 : decode cX10_undo 24 = .ok (.iconst 1, 1) := by decide +kernel
theorem dX10_undo_25 : decode cX10_undo 25 = .ok (.isub, 1) := by decide +kernel
theorem dX10_undo_26 : decode cX10_undo 26 = .ok (.invokevirtual 93, 3) := by decide +kernel
theorem dX10_undo_29 : decode cX10_undo 29 = .ok (.aload_n 0, 1) := by decide +kernel
theorem dX10_undo_30 : decode cX10_undo 30 = .ok (.getfield 10, 3) := by decide +kernel
theorem dX10_undo_33 : decode cX10_undo 33 = .ok (.invokevirtual 85, 3) := by decide +kernel
theorem dX10_undo_36 : decode cX10_undo 36 = .ok (.ireturn, 1) := by decide +kernel
theorem dX10_fault_0 : decode cX10_fault 0 = .ok (.aload_n 0, 1) := by decide +kernel
theorem dX10_fault_1 : decode cX10_fault 1 = .ok (.getfield 10, 3) := by decide +kernel
theorem dX10_fault_4 : decode cX10_fault 4 = .ok (.invokevirtual 96, 3) := by decide +kernel
theorem dX10_fault_7 : decode cX10_fault 7 = .ok (.ireturn, 1) := by decide +kernel
theorem dX10_person_0 : decode cX10_person 0 = .ok (.aload_n 0, 1) := by decide +kernel
theorem dX10_person_1 : decode cX10_person 1 = .ok (.getfield 10, 3) := by decide +kernel
theorem dX10_person_4 : decode cX10_person 4 = .ok (.iload_n 1, 1) := by decide +kernel
theorem dX10_person_5 : decode cX10_person 5 = .ok (.invokevirtual 99, 3) := by decide +kernel
theorem dX10_person_8 : decode cX10_person 8 = .ok (.ifCond .eq 12, 3) := by decide +kernel
theorem dX10_person_11 : decode cX10_person 11 = .ok (.iload_n 2, 1) := by decide +kernel
theorem dX10_person_12 : decode cX10_person 12 = .ok (.iconst 0, 1) := by decide +kernel
theorem dX10_person_13 : decode cX10_person 13 = .ok (.iconst 1, 1) := by decide +kernel
theorem dX10_person_14 : decode cX10_person 14 = .ok (.invokestatic 81, 3) := by decide +kernel
theorem dX10_person_17 : decode cX10_person 17 = .ok (.ifCond .ne 6, 3) := by decide +kernel
theorem dX10_person_20 : decode cX10_person 20 = .ok (.bipush (-2), 2) := by decide +kernel
theorem dX10_person_22 : decode cX10_person 22 = .ok (.ireturn, 1) := by decide +kernel
theorem dX10_person_23 : decode cX10_person 23 = .ok (.iload_n 2, 1) := by decide +kernel
theorem dX10_person_24 : decode cX10_person 24 = .ok (.ifCond .ne 14, 3) := by decide +kernel
theorem dX10_person_27 : decode cX10_person 27 = .ok (.aload_n 0, 1) := by decide +kernel
theorem dX10_person_28 : decode cX10_person 28 = .ok (.getfield 10, 3) := by decide +kernel
theorem dX10_person_31 : decode cX10_person 31 = .ok (.iload_n 1, 1) := by decide +kernel
theorem dX10_person_32 : decode cX10_person 32 = .ok (.invokevirtual 103, 3) := by decide +kernel
theorem dX10_person_35 : decode cX10_person 35 = .ok (.goto 11, 3) := by decide +kernel
theorem dX10_person_38 : decode cX10_person 38 = .ok (.aload_n 0, 1) := by decide +kernel
theorem dX10_person_39 : decode cX10_person 39 = .ok (.getfield 10, 3) := by decide +kernel
theorem dX10_person_42 : decode cX10_person 42 = .ok (.iload_n 1, 1) := by decide +kernel
theorem dX10_person_43 : decode cX10_person 43 = .ok (.invokevirtual 107, 3) := by decide +kernel
theorem dX10_person_46 : decode cX10_person 46 = .ok (.ireturn, 1) := by decide +kernel
theorem dX10_picture_0 : decode cX10_picture 0 = .ok (.iload_n 1, 1) := by decide +kernel
theorem dX10_picture_1 : decode cX10_picture 1 = .ok (.invokestatic 110, 3) := by decide +kernel
theorem dX10_picture_4 : decode cX10_picture 4 = .ok (.ifCond .eq 28, 3) := by decide +kernel
theorem dX10_picture_7 : decode cX10_picture 7 = .ok (.iload_n 2, 1) := by decide +kernel
theorem dX10_picture_8 : decode cX10_picture 8 = .ok (.iconst 0, 1) := by decide +kernel
theorem dX10_picture_9 : decode cX10_picture 9 = .ok (.bipush 7, 2) := by decide +kernel
theorem dX10_picture_11 : decode cX10_picture 11 = .ok (.invokestatic 81, 3) := by decide +kernel
theorem dX10_picture_14 : decode cX10_picture 14 = .ok (.ifCond .eq 18, 3) := by decide +kernel
theorem dX10_picture_17 : decode cX10_picture 17 = .ok (.iload_n 3, 1) := by decide +kernel
theorem dX10_picture_18 : decode cX10_picture 18 = .ok (.invokestatic 113, 3) := by decide +kernel
theorem dX10_picture_21 : decode cX10_picture 21 = .ok (.ifCond .eq 11, 3) := by decide +kernel
theorem dX10_picture_24 : decode cX10_picture 24 = .ok (.iload 4, 2) := by decide +kernel
theorem dX10_picture_26 : decode cX10_picture 26 = .ok (.invokestatic 116, 3) := by decide +kernel
theorem dX10_picture_29 : decode cX10_picture 29 = .ok (.ifCond .ne 6, 3) := by decide +kernel
theorem dX10_picture_32 : decode cX10_picture 32 = .ok (.bipush (-2), 2) := by decide +kernel
theorem dX10_picture_34 : decode cX10_picture 34 = .ok (.ireturn, 1) := by decide +kernel
theorem dX10_picture_35 : decode cX10_picture 35 = .ok (.aload_n 0, 1) := by decide +kernel
theorem dX10_picture_36 : decode cX10_picture 36 = .ok (.getfield 19, 3) := by decide +kernel
theorem dX10_picture_39 : decode cX10_picture 39 = .ok (.iload_n 1, 1) := by decide +kernel
theorem dX10_picture_40 : decode cX10_picture 40 = .ok (.iload_n 2, 1) := by decide +kernel
theorem dX10_picture_41 : decode cX10_picture 41 = .ok (.iload_n 3, 1) := by decide +kernel
theorem dX10_picture_42 : decode cX10_picture 42 = .ok (.iload 4, 2) := by decide +kernel
theorem dX10_picture_44 : decode cX10_picture 44 = .ok (.invokevirtual 119, 3) := by decide +kernel
theorem dX10_picture_47 : decode cX10_picture 47 = .ok (.ifCond .eq 13, 3) := by decide +kernel
theorem dX10_picture_50 : decode cX10_picture 50 = .ok (.aload_n 0, 1) := by decide +kernel
theorem dX10_picture_51 : decode cX10_picture 51 = .ok (.getfield 19, 3) := by decide +kernel
theorem dX10_picture_54 : decode cX10_picture 54 = .ok (.invokevirtual 123, 3) := by decide +kernel
theorem dX10_picture_57 : decode cX10_picture 57 = .ok (.goto 5, 3) := by decide +kernel
theorem dX10_picture_60 : decode cX10_picture 60 = .ok (.bipush (-4), 2) := by decide +kernel
theorem dX10_picture_62 : decode cX10_picture 62 = .ok (.ireturn, 1) := by decide +kernel
theorem dX10_burn_0 : decode cX10_burn 0 = .ok (.iload_n 1, 1) := by decide +kernel
theorem dX10_burn_1 : decode cX10_burn 1 = .ok (.invokestatic 110, 3) := by decide +kernel
theorem dX10_burn_4 : decode cX10_burn 4 = .ok (.ifCond .eq 13, 3) := by decide +kernel
theorem dX10_burn_7 : decode cX10_burn 7 = .ok (.iload_n 2, 1) := by decide +kernel
theorem dX10_burn_8 : decode cX10_burn 8 = .ok (.iconst 0, 1) := by decide +kernel
theorem dX10_burn_9 : decode cX10_burn 9 = .ok (.bipush 11, 2) := by decide +kernel
theorem dX10_burn_11 : decode cX10_burn 11 = .ok (.invokestatic 81, 3) := by decide +kernel
theorem dX10_burn_14 : decode cX10_burn 14 = .ok (.ifCond .ne 6, 3) := by decide +kernel
theorem dX10_burn_17 : decode cX10_burn 17 = .ok (.bipush (-2), 2) := by decide +kernel
theorem dX10_burn_19 : decode cX10_burn 19 = .ok (.ireturn, 1) := by decide +kernel
theorem dX10_burn_20 : decode cX10_burn 20 = .ok (.aload_n 0, 1) := by decide +kernel
theorem dX10_burn_21 : decode cX10_burn 21 = .ok (.getfield 26, 3) := by decide +kernel
theorem dX10_burn_24 : decode cX10_burn 24 = .ok (.iload_n 1, 1) := by decide +kernel
theorem dX10_burn_25 : decode cX10_burn 25 = .ok (.iload_n 2, 1) := by decide +kernel
theorem dX10_burn_26 : decode cX10_burn 26 = .ok (.invokevirtual 126, 3) := by decide +kernel
theorem dX10_burn_29 : decode cX10_burn 29 = .ok (.ifCond .eq 13, 3) := by decide +kernel
theorem dX10_burn_32 : decode cX10_burn 32 = .ok (.aload_n 0, 1) := by decide +kernel
theorem dX10_burn_33 : decode cX10_burn 33 = .ok (.getfield 26, 3) := by decide +kernel
theorem dX10_burn_36 : decode cX10_burn 36 = .ok (.invokevirtual 129, 3) := by decide +kernel
theorem dX10_burn_39 : decode cX10_burn 39 = .ok (.goto 5, 3) := by decide +kernel
theorem dX10_burn_42 : decode cX10_burn 42 = .ok (.bipush (-4), 2) := by decide +kernel
theorem dX10_burn_44 : decode cX10_burn 44 = .ok (.ireturn, 1) := by decide +kernel
theorem dX10_back_0 : decode cX10_back 0 = .ok (.iload_n 1, 1) := by decide +kernel
theorem dX10_back_1 : decode cX10_back 1 = .ok (.iconst 0, 1) := by decide +kernel
theorem dX10_back_2 : decode cX10_back 2 = .ok (.iconst 1, 1) := by decide +kernel
theorem dX10_back_3 : decode cX10_back 3 = .ok (.invokestatic 81, 3) := by decide +kernel
theorem dX10_back_6 : decode cX10_back 6 = .ok (.ifCond .ne 6, 3) := by decide +kernel
theorem dX10_back_9 : decode cX10_back 9 = .ok (.bipush (-2), 2) := by decide +kernel
theorem dX10_back_11 : decode cX10_back 11 = .ok (.ireturn, 1) := by decide +kernel
theorem dX10_back_12 : decode cX10_back 12 = .ok (.iload_n 1, 1) := by decide +kernel
theorem dX10_back_13 : decode cX10_back 13 = .ok (.ifCond .ne 13, 3) := by decide +kernel
theorem dX10_back_16 : decode cX10_back 16 = .ok (.aload_n 0, 1) := by decide +kernel
theorem dX10_back_17 : decode cX10_back 17 = .ok (.getfield 19, 3) := by decide +kernel
theorem dX10_back_20 : decode cX10_back 20 = .ok (.getfield 130, 3) := by decide +kernel
theorem dX10_back_23 : decode cX10_back 23 = .ok (.goto 10, 3) := by decide +kernel
theorem dX10_back_26 : decode cX10_back 26 = .ok (.aload_n 0, 1) := by decide +kernel
theorem dX10_back_27 : decode cX10_back 27 = .ok (.getfield 26, 3) := by decide +kernel
theorem dX10_back_30 : decode cX10_back 30 = .ok (.getfield 134, 3) := by decide +kernel
theorem dX10_back_33 : decode cX10_back 33 = .ok (.astore_n 2, 1) := by decide +kernel
theorem dX10_back_34 : decode cX10_back 34 = .ok (.aload_n 2, 1) := by decide +kernel
theorem dX10_back_35 : decode cX10_back 35 = .ok (.invokevirtual 135, 3) := by decide +kernel
theorem dX10_back_38 : decode cX10_back 38 = .ok (.ifCond .eq 10, 3) := by decide +kernel
theorem dX10_back_41 : decode cX10_back 41 = .ok (.aload_n 2, 1) := by decide +kernel
theorem dX10_back_42 : decode cX10_back 42 = .ok (.invokevirtual 141, 3) := by decide +kernel
theorem dX10_back_45 : decode cX10_back 45 = .ok (.goto 5, 3) := by decide +kernel
theorem dX10_back_48 : decode cX10_back 48 = .ok (.bipush (-3), 2) := by decide +kernel
theorem dX10_back_50 : decode cX10_back 50 = .ok (.ireturn, 1) := by decide +kernel
theorem dX10_faint_0 : decode cX10_faint 0 = .ok (.iload_n 1, 1) := by decide +kernel
theorem dX10_faint_1 : decode cX10_faint 1 = .ok (.iconst 0, 1) := by decide +kernel
theorem dX10_faint_2 : decode cX10_faint 2 = .ok (.bipush 99, 2) := by decide +kernel
theorem dX10_faint_4 : decode cX10_faint 4 = .ok (.invokestatic 81, 3) := by decide +kernel
theorem dX10_faint_7 : decode cX10_faint 7 = .ok (.ifCond .ne 6, 3) := by decide +kernel
theorem dX10_faint_10 : decode cX10_faint 10 = .ok (.bipush (-2), 2) := by decide +kernel
theorem dX10_faint_12 : decode cX10_faint 12 = .ok (.ireturn, 1) := by decide +kernel
theorem dX10_faint_13 : decode cX10_faint 13 = .ok (.aload_n 0, 1) := by decide +kernel
theorem dX10_faint_14 : decode cX10_faint 14 = .ok (.getfield 73, 3) := by decide +kernel
theorem dX10_faint_17 : decode cX10_faint 17 = .ok (.istore_n 2, 1) := by decide +kernel
theorem dX10_faint_18 : decode cX10_faint 18 = .ok (.aload_n 0, 1) := by decide +kernel
theorem dX10_faint_19 : decode cX10_faint 19 = .ok (.iload_n 1, 1) := by decide +kernel
theorem dX10_faint_20 : decode cX10_faint 20 = .ok (.putfield 73, 3) := by decide +kernel
theorem dX10_faint_23 : decode cX10_faint 23 = .ok (.iload_n 2, 1) := by decide +kernel
theorem dX10_faint_24 : decode cX10_faint 24 = .ok (.ireturn, 1) := by decide +kernel
theorem dX10_want_0 : decode cX10_want 0 = .ok (.iload_n 1, 1) := by decide +kernel
theorem dX10_want_1 : decode cX10_want 1 = .ok (.invokestatic 116, 3) := by decide +kernel
theorem dX10_want_4 : decode cX10_want 4 = .ok (.ifCond .eq 13, 3) := by decide +kernel
theorem dX10_want_7 : decode cX10_want 7 = .ok (.iload_n 2, 1) := by decide +kernel
theorem dX10_want_8 : decode cX10_want 8 = .ok (.iconst (-1), 1) := by decide +kernel
theorem dX10_want_9 : decode cX10_want 9 = .ok (.bipush 7, 2) := by decide +kernel
theorem dX10_want_11 : decode cX10_want 11 = .ok (.invokestatic 81, 3) := by decide +kernel
theorem dX10_want_14 : decode cX10_want 14 = .ok (.ifCond .ne 6, 3) := by decide +kernel
theorem dX10_want_17 : decode cX10_want 17 = .ok (.bipush (-2), 2) := by decide +kernel
theorem dX10_want_19 : decode cX10_want 19 = .ok (.ireturn, 1) := by decide +kernel
theorem dX10_want_20 : decode cX10_want 20 = .ok (.aload_n 0, 1) := by decide +kernel
theorem dX10_want_21 : decode cX10_want 21 = .ok (.getfield 49, 3) := by decide +kernel
theorem dX10_want_24 : decode cX10_want 24 = .ok (.iload_n 1, 1) := by decide +kernel
theorem dX10_want_25 : decode cX10_want 25 = .ok (.iload_n 2, 1) := by decide +kernel
theorem dX10_want_26 : decode cX10_want 26 = .ok (.invokevirtual 142, 3) := by decide +kernel
theorem dX10_want_29 : decode cX10_want 29 = .ok (.ireturn, 1) := by decide +kernel
theorem dX10_solid_0 : decode cX10_solid 0 = .ok (.iload_n 1, 1) := by decide +kernel
theorem dX10_solid_1 : decode cX10_solid 1 = .ok (.invokestatic 110, 3) := by decide +kernel
theorem dX10_solid_4 : decode cX10_solid 4 = .ok (.ifCond .eq 14, 3) := by decide +kernel
theorem dX10_solid_7 : decode cX10_solid 7 = .ok (.aload_n 0, 1) := by decide +kernel
theorem dX10_solid_8 : decode cX10_solid 8 = .ok (.getfield 10, 3) := by decide +kernel
theorem dX10_solid_11 : decode cX10_solid 11 = .ok (.iload_n 2, 1) := by decide +kernel
theorem dX10_solid_12 : decode cX10_solid 12 = .ok (.invokevirtual 99, 3) := by decide +kernel
theorem dX10_solid_15 : decode cX10_solid 15 = .ok (.ifCond .ne 6, 3) := by decide +kernel
theorem dX10_solid_18 : decode cX10_solid 18 = .ok (.bipush (-2), 2) := by decide +kernel
theorem dX10_solid_20 : decode cX10_solid 20 = .ok (.ireturn, 1) := by decide +kernel
theorem dX10_solid_21 : decode cX10_solid 21 = .ok (.aload_n 0, 1) := by decide +kernel
theorem dX10_solid_22 : decode cX10_solid 22 = .ok (.getfield 35, 3) := by decide +kernel
theorem dX10_solid_25 : decode cX10_solid 25 = .ok (.iload_n 1, 1) := by decide +kernel
theorem dX10_solid_26 : decode cX10_solid 26 = .ok (.invokevirtual 146, 3) := by decide +kernel
theorem dX10_solid_29 : decode cX10_solid 29 = .ok (.aload_n 0, 1) := by decide +kernel
theorem dX10_solid_30 : decode cX10_solid 30 = .ok (.getfield 35, 3) := by decide +kernel
theorem dX10_solid_33 : decode cX10_solid 33 = .ok (.iload_n 2, 1) := by decide +kernel
theorem dX10_solid_34 : decode cX10_solid 34 = .ok (.invokevirtual 149, 3) := by decide +kernel
theorem dX10_solid_37 : decode cX10_solid 37 = .ok (.ireturn, 1) := by decide +kernel
theorem dX10_behind_0 : decode cX10_behind 0 = .ok (.iload_n 1, 1) := by decide +kernel
theorem dX10_behind_1 : decode cX10_behind 1 = .ok (.invokestatic 110, 3) := by decide +kernel
theorem dX10_behind_4 : decode cX10_behind 4 = .ok (.ifCond .eq 12, 3) := by decide +kernel
theorem dX10_behind_7 : decode cX10_behind 7 = .ok (.iload_n 2, 1) := by decide +kernel
theorem dX10_behind_8 : decode cX10_behind 8 = .ok (.iconst 0, 1) := by decide +kernel
theorem dX10_behind_9 : decode cX10_behind 9 = .ok (.iconst 2, 1) := by decide +kernel
theorem dX10_behind_10 : decode cX10_behind 10 = .ok (.invokestatic 81, 3) := by decide +kernel
theorem dX10_behind_13 : decode cX10_behind 13 = .ok (.ifCond .ne 6, 3) := by decide +kernel
theorem dX10_behind_16 : decode cX10_behind 16 = .ok (.bipush (-2), 2) := by decide +kernel
theorem dX10_behind_18 : decode cX10_behind 18 = .ok (.ireturn, 1) := by decide +kernel
theorem dX10_behind_19 : decode cX10_behind 19 = .ok (.aload_n 0, 1) := by decide +kernel
theorem dX10_behind_20 : decode cX10_behind 20 = .ok (.getfield 35, 3) := by decide +kernel
theorem dX10_behind_23 : decode cX10_behind 23 = .ok (.iload_n 1, 1) := by decide +kernel
theorem dX10_behind_24 : decode cX10_behind 24 = .ok (.invokevirtual 146, 3) := by decide +kernel
theorem dX10_behind_27 : decode cX10_behind 27 = .ok (.iload_n 2, 1) := by decide +kernel
theorem dX10_behind_28 : decode cX10_behind 28 = .ok (.ifCond .ne 15, 3) := by decide +kernel
theorem dX10_behind_31 : decode cX10_behind 31 = .ok (.aload_n 0, 1) := by decide +kernel
theorem dX10_behind_32 : decode cX10_behind 32 = .ok (.getfield 35, 3) := by decide +kernel
theorem dX10_behind_35 : decode cX10_behind 35 = .ok (.aload_n 0, 1) := by decide +kernel
theorem dX10_behind_36 : decode cX10_behind 36 = .ok (.getfield 73, 3) := by decide +kernel
theorem dX10_behind_39 : decode cX10_behind 39 = .ok (.invokevirtual 152, 3) := by decide +kernel
theorem dX10_behind_42 : decode cX10_behind 42 = .ok (.ireturn, 1) := by decide +kernel
theorem dX10_behind_43 : decode cX10_behind 43 = .ok (.iload_n 2, 1) := by decide +kernel
theorem dX10_behind_44 : decode cX10_behind 44 = .ok (.iconst 1, 1) := by decide +kernel
theorem dX10_behind_45 : decode cX10_behind 45 = .ok (.if_icmp .ne 13, 3) := by decide +kernel
theorem dX10_behind_48 : decode cX10_behind 48 = .ok (.aload_n 0, 1) := by decide +kernel
theorem dX10_behind_49 : decode cX10_behind 49 = .ok (.getfield 35, 3) := by decide +kernel
theorem dX10_behind_52 : decode cX10_behind 52 = .ok (.invokevirtual 155, 3) := by decide +kernel
theorem dX10_behind_55 : decode cX10_behind 55 = .ok (.goto 10, 3) := by decide +kernel
theorem dX10_behind_58 : decode cX10_behind 58 = .ok (.aload_n 0, 1) := by decide +kernel
theorem dX10_behind_59 : decode cX10_behind 59 = .ok (.getfield 35, 3) := by decide +kernel
theorem dX10_behind_62 : decode cX10_behind 62 = .ok (.invokevirtual 158, 3) := by decide +kernel
theorem dX10_behind_65 : decode cX10_behind 65 = .ok (.ireturn, 1) := by decide +kernel
theorem dX10_drawer_0 : decode cX10_drawer 0 = .ok (.iload_n 1, 1) := by decide +kernel
theorem dX10_drawer_1 : decode cX10_drawer 1 = .ok (.invokestatic 110, 3) := by decide +kernel
theorem dX10_drawer_4 : decode cX10_drawer 4 = .ok (.ifCond .eq 10, 3) := by decide +kernel
theorem dX10_drawer_7 : decode cX10_drawer 7 = .ok (.iload_n 2, 1) := by decide +kernel
theorem dX10_drawer_8 : decode cX10_drawer 8 = .ok (.invokestatic 116, 3) := by decide +kernel
theorem dX10_drawer_11 : decode cX10_drawer 11 = .ok (.ifCond .ne 6, 3) := by decide +kernel
theorem dX10_drawer_14 : decode cX10_drawer 14 = .ok (.bipush (-2), 2) := by decide +kernel
theorem dX10_drawer_16 : decode cX10_drawer 16 = .ok (.ireturn, 1) := by decide +kernel
theorem dX10_drawer_17 : decode cX10_drawer 17 = .ok (.aload_n 0, 1) := by decide +kernel
theorem dX10_drawer_18 : decode cX10_drawer 18 = .ok (.getfield 35, 3) := by decide +kernel
theorem dX10_drawer_21 : decode cX10_drawer 21 = .ok (.iload_n 1, 1) := by decide +kernel
theorem dX10_drawer_22 : decode cX10_drawer 22 = .ok (.invokevirtual 146, 3) := by decide +kernel
theorem dX10_drawer_25 : decode cX10_drawer 25 = .ok (.aload_n 0, 1) := by decide +kernel
theorem dX10_drawer_26 : decode cX10_drawer 26 = .ok (.getfield 35, 3) := by decide +kernel
theorem dX10_drawer_29 : decode cX10_drawer 29 = .ok (.iload_n 2, 1) := by decide +kernel
theorem dX10_drawer_30 : decode cX10_drawer 30 = .ok (.invokevirtual 161, 3) := by decide +kernel
theorem dX10_drawer_33 : decode cX10_drawer 33 = .ok (.ireturn, 1) := by decide +kernel
theorem dX10_took_0 : decode cX10_took 0 = .ok (.aload_n 0, 1) := by decide +kernel
theorem dX10_took_1 : decode cX10_took 1 = .ok (.getfield 19, 3) := by decide +kernel
theorem dX10_took_4 : decode cX10_took 4 = .ok (.iload_n 1, 1) := by decide +kernel
theorem dX10_took_5 : decode cX10_took 5 = .ok (.invokevirtual 164, 3) := by decide +kernel
theorem dX10_took_8 : decode cX10_took 8 = .ok (.ifCond .eq 12, 3) := by decide +kernel
theorem dX10_took_11 : decode cX10_took 11 = .ok (.iload_n 2, 1) := by decide +kernel
theorem dX10_took_12 : decode cX10_took 12 = .ok (.iconst 0, 1) := by decide +kernel
theorem dX10_took_13 : decode cX10_took 13 = .ok (.iconst 1, 1) := by decide +kernel
theorem dX10_took_14 : decode cX10_took 14 = .ok (.invokestatic 81, 3) := by decide +kernel
theorem dX10_took_17 : decode cX10_took 17 = .ok (.ifCond .ne 6, 3) := by decide +kernel
theorem dX10_took_20 : decode cX10_took 20 = .ok (.bipush (-2), 2) := by decide +kernel
theorem dX10_took_22 : decode cX10_took 22 = .ok (.ireturn, 1) := by decide +kernel
theorem dX10_took_23 : decode cX10_took 23 = .ok (.aload_n 0, 1) := by decide +kernel
theorem dX10_took_24 : decode cX10_took 24 = .ok (.getfield 35, 3) := by decide +kernel
theorem dX10_took_27 : decode cX10_took 27 = .ok (.bipush 29, 2) := by decide +kernel
theorem dX10_took_29 : decode cX10_took 29 = .ok (.invokevirtual 146, 3) := by decide +kernel
theorem dX10_took_32 : decode cX10_took 32 = .ok (.iload_n 2, 1) := by decide +kernel
theorem dX10_took_33 : decode cX10_took 33 = .ok (.ifCond .ne 14, 3) := by decide +kernel
theorem dX10_took_36 : decode cX10_took 36 = .ok (.aload_n 0, 1) := by decide +kernel
theorem dX10_took_37 : decode cX10_took 37 = .ok (.getfield 35, 3) := by decide +kernel
theorem dX10_took_40 : decode cX10_took 40 = .ok (.iload_n 1, 1) := by decide +kernel
theorem dX10_took_41 : decode cX10_took 41 = .ok (.invokevirtual 165, 3) := by decide +kernel
theorem dX10_took_44 : decode cX10_took 44 = .ok (.goto 11, 3) := by decide +kernel
theorem dX10_took_47 : decode cX10_took 47 = .ok (.aload_n 0, 1) := by decide +kernel
theorem dX10_took_48 : decode cX10_took 48 = .ok (.getfield 35, 3) := by decide +kernel
theorem dX10_took_51 : decode cX10_took 51 = .ok (.iload_n 1, 1) := by decide +kernel
theorem dX10_took_52 : decode cX10_took 52 = .ok (.invokevirtual 168, 3) := by decide +kernel
theorem dX10_took_55 : decode cX10_took 55 = .ok (.ireturn, 1) := by decide +kernel
theorem dX10_unseen_0 : decode cX10_unseen 0 = .ok (.iload_n 1, 1) := by decide +kernel
theorem dX10_unseen_1 : decode cX10_unseen 1 = .ok (.iconst 0, 1) := by decide +kernel
theorem dX10_unseen_2 : decode cX10_unseen 2 = .ok (.iconst 1, 1) := by decide +kernel
theorem dX10_unseen_3 : decode cX10_unseen 3 = .ok (.invokestatic 81, 3) := by decide +kernel
theorem dX10_unseen_6 : decode cX10_unseen 6 = .ok (.ifCond .ne 6, 3) := by decide +kernel
theorem dX10_unseen_9 : decode cX10_unseen 9 = .ok (.bipush (-2), 2) := by decide +kernel
theorem dX10_unseen_11 : decode cX10_unseen 11 = .ok (.ireturn, 1) := by decide +kernel
theorem dX10_unseen_12 : decode cX10_unseen 12 = .ok (.aload_n 0, 1) := by decide +kernel
theorem dX10_unseen_13 : decode cX10_unseen 13 = .ok (.getfield 35, 3) := by decide +kernel
theorem dX10_unseen_16 : decode cX10_unseen 16 = .ok (.invokevirtual 171, 3) := by decide +kernel
theorem dX10_unseen_19 : decode cX10_unseen 19 = .ok (.aload_n 0, 1) := by decide +kernel
theorem dX10_unseen_20 : decode cX10_unseen 20 = .ok (.getfield 35, 3) := by decide +kernel
theorem dX10_unseen_23 : decode cX10_unseen 23 = .ok (.aload_n 0, 1) := by decide +kernel
theorem dX10_unseen_24 : decode cX10_unseen 24 = .ok (.getfield 73, 3) := by decide +kernel
theorem dX10_unseen_27 : decode cX10_unseen 27 = .ok (.invokevirtual 152, 3) := by decide +kernel
theorem dX10_unseen_30 : decode cX10_unseen 30 = .ok (.istore_n 2, 1) := by decide +kernel
theorem dX10_unseen_31 : decode cX10_unseen 31 = .ok (.iconst 0, 1) := by decide +kernel
theorem dX10_unseen_32 : decode cX10_unseen 32 = .ok (.istore_n 3, 1) := by decide +kernel
theorem dX10_unseen_33 : decode cX10_unseen 33 = .ok (.iload_n 3, 1) := by decide +kernel
theorem dX10_unseen_34 : decode cX10_unseen 34 = .ok (.bipush 29, 2) := by decide +kernel
theorem dX10_unseen_36 : decode cX10_unseen 36 = .ok (.if_icmp .gt 53, 3) := by decide +kernel
theorem dX10_unseen_39 : decode cX10_unseen 39 = .ok (.aload_n 0, 1) := by decide +kernel
theorem dX10_unseen_40 : decode cX10_unseen 40 = .ok (.getfield 35, 3) := by decide +kernel
theorem dX10_unseen_43 : decode cX10_unseen 43 = .ok (.iload_n 3, 1) := by decide +kernel
theorem dX10_unseen_44 : decode cX10_unseen 44 = .ok (.invokevirtual 174, 3) := by decide +kernel
theorem dX10_unseen_47 : decode cX10_unseen 47 = .ok (.aload_n 0, 1) := by decide +kernel
theorem dX10_unseen_48 : decode cX10_unseen 48 = .ok (.getfield 35, 3) := by decide +kernel
theorem dX10_unseen_51 : decode cX10_unseen 51 = .ok (.aload_n 0, 1) := by decide +kernel
theorem dX10_unseen_52 : decode cX10_unseen 52 = .ok (.getfield 73, 3) := by decide +kernel
theorem dX10_unseen_55 : decode cX10_unseen 55 = .ok (.invokevirtual 152, 3) := by decide +kernel
theorem dX10_unseen_58 : decode cX10_unseen 58 = .ok (.iload_n 2, 1) := by decide +kernel
theorem dX10_unseen_59 : decode cX10_unseen 59 = .ok (.iconst (-1), 1) := by decide +kernel
theorem dX10_unseen_60 : decode cX10_unseen 60 = .ok (.ixor, 1) := by decide +kernel
theorem dX10_unseen_61 : decode cX10_unseen 61 = .ok (.iand, 1) := by decide +kernel
theorem dX10_unseen_62 : decode cX10_unseen 62 = .ok (.istore 4, 2) := by decide +kernel
theorem dX10_unseen_64 : decode cX10_unseen 64 = .ok (.iload 4, 2) := by decide +kernel
theorem dX10_unseen_66 : decode cX10_unseen 66 = .ok (.ifCond .eq 17, 3) := by decide +kernel
theorem dX10_unseen_69 : decode cX10_unseen 69 = .ok (.iload_n 1, 1) := by decide +kernel
theorem dX10_unseen_70 : decode cX10_unseen 70 = .ok (.ifCond .ne 7, 3) := by decide +kernel
theorem dX10_unseen_73 : decode cX10_unseen 73 = .ok (.iload_n 3, 1) := by decide +kernel
theorem dX10_unseen_74 : decode cX10_unseen 74 = .ok (.goto 8, 3) := by decide +kernel
theorem dX10_unseen_77 : decode cX10_unseen 77 = .ok (.iload 4, 2) := by decide +kernel
theorem dX10_unseen_79 : decode cX10_unseen 79 = .ok (.invokestatic 177, 3) := by decide +kernel
theorem dX10_unseen_82 : decode cX10_unseen 82 = .ok (.ireturn, 1) := by decide +kernel
theorem dX10_unseen_83 : decode cX10_unseen 83 = .ok (.iinc 3 1, 3) := by decide +kernel
theorem dX10_unseen_86 : decode cX10_unseen 86 = .ok (.goto (-53), 3) := by decide +kernel
theorem dX10_unseen_89 : decode cX10_unseen 89 = .ok (.iconst (-1), 1) := by decide +kernel
theorem dX10_unseen_90 : decode cX10_unseen 90 = .ok (.ireturn, 1) := by decide +kernel
theorem dX10_whole_0 : decode cX10_whole 0 = .ok (.iload_n 1, 1) := by decide +kernel
theorem dX10_whole_1 : decode cX10_whole 1 = .ok (.invokestatic 110, 3) := by decide +kernel
theorem dX10_whole_4 : decode cX10_whole 4 = .ok (.ifCond .eq 44, 3) := by decide +kernel
theorem dX10_whole_7 : decode cX10_whole 7 = .ok (.aload_n 0, 1) := by decide +kernel
theorem dX10_whole_8 : decode cX10_whole 8 = .ok (.getfield 10, 3) := by decide +kernel
theorem dX10_whole_11 : decode cX10_whole 11 = .ok (.iload_n 2, 1) := by decide +kernel
theorem dX10_whole_12 : decode cX10_whole 12 = .ok (.invokevirtual 99, 3) := by decide +kernel
theorem dX10_whole_15 : decode cX10_whole 15 = .ok (.ifCond .eq 33, 3) := by decide +kernel
theorem dX10_whole_18 : decode cX10_whole 18 = .ok (.iload_n 3, 1) := by decide +kernel
theorem dX10_whole_19 : decode cX10_whole 19 = .ok (.iconst 0, 1) := by decide +kernel
theorem dX10_whole_20 : decode cX10_whole 20 = .ok (.bipush 99, 2) := by decide +kernel
theorem dX10_whole_22 : decode cX10_whole 22 = .ok (.invokestatic 81, 3) := by decide +kernel
theorem dX10_whole_25 : decode cX10_whole 25 = .ok (.ifCond .eq 23, 3) := by decide +kernel
theorem dX10_whole_28 : decode cX10_whole 28 = .ok (.iload 4, 2) := by decide +kernel
theorem dX10_whole_30 : decode cX10_whole 30 = .ok (.iconst (-1), 1) := by decide +kernel
theorem dX10_whole_31 : decode cX10_whole 31 = .ok (.iconst 3, 1) := by decide +kernel
theorem dX10_whole_32 : decode cX10_whole 32 = .ok (.invokestatic 81, 3) := by decide +kernel
theorem dX10_whole_35 : decode cX10_whole 35 = .ok (.ifCond .eq 13, 3) := by decide +kernel
theorem dX10_whole_38 : decode cX10_whole 38 = .ok (.iload 5, 2) := by decide +kernel
theorem dX10_whole_40 : decode cX10_whole 40 = .ok (.iconst 0, 1) := by decide +kernel
theorem dX10_whole_41 : decode cX10_whole 41 = .ok (.iconst 1, 1) := by decide +kernel
theorem dX10_whole_42 : decode cX10_whole 42 = .ok (.invokestatic 81, 3) := by decide +kernel
theorem dX10_whole_45 : decode cX10_whole 45 = .ok (.ifCond .ne 6, 3) := by decide +kernel
theorem dX10_whole_48 : decode cX10_whole 48 = .ok (.bipush (-2), 2) := by decide +kernel
theorem dX10_whole_50 : decode cX10_whole 50 = .ok (.ireturn, 1) := by decide +kernel
theorem dX10_whole_51 : decode cX10_whole 51 = .ok (.aload_n 0, 1) := by decide +kernel
theorem dX10_whole_52 : decode cX10_whole 52 = .ok (.getfield 35, 3) := by decide +kernel
theorem dX10_whole_55 : decode cX10_whole 55 = .ok (.iload_n 1, 1) := by decide +kernel
theorem dX10_whole_56 : decode cX10_whole 56 = .ok (.invokevirtual 146, 3) := by decide +kernel
theorem dX10_whole_59 : decode cX10_whole 59 = .ok (.aload_n 0, 1) := by decide +kernel
theorem dX10_whole_60 : decode cX10_whole 60 = .ok (.getfield 42, 3) := by decide +kernel
theorem dX10_whole_63 : decode cX10_whole 63 = .ok (.aload_n 0, 1) := by decide +kernel
theorem dX10_whole_64 : decode cX10_whole 64 = .ok (.getfield 35, 3) := by decide +kernel
theorem dX10_whole_67 : decode cX10_whole 67 = .ok (.iload_n 2, 1) := by decide +kernel
theorem dX10_whole_68 : decode cX10_whole 68 = .ok (.iload_n 3, 1) := by decide +kernel
theorem dX10_whole_69 : decode cX10_whole 69 = .ok (.iload 4, 2) := by decide +kernel
theorem dX10_whole_71 : decode cX10_whole 71 = .ok (.invokevirtual 180, 3) := by decide +kernel
theorem dX10_whole_74 : decode cX10_whole 74 = .ok (.ifCond .ne 5, 3) := by decide +kernel
theorem dX10_whole_77 : decode cX10_whole 77 = .ok (.iconst (-1), 1) := by decide +kernel
theorem dX10_whole_78 : decode cX10_whole 78 = .ok (.ireturn, 1) := by decide +kernel
theorem dX10_whole_79 : decode cX10_whole 79 = .ok (.iload 5, 2) := by decide +kernel
theorem dX10_whole_81 : decode cX10_whole 81 = .ok (.ifCond .ne 13, 3) := by decide +kernel
theorem dX10_whole_84 : decode cX10_whole 84 = .ok (.aload_n 0, 1) := by decide +kernel
theorem dX10_whole_85 : decode cX10_whole 85 = .ok (.getfield 42, 3) := by decide +kernel
theorem dX10_whole_88 : decode cX10_whole 88 = .ok (.invokevirtual 184, 3) := by decide +kernel
theorem dX10_whole_91 : decode cX10_whole 91 = .ok (.goto 10, 3) := by decide +kernel
theorem dX10_whole_94 : decode cX10_whole 94 = .ok (.aload_n 0, 1) := by decide +kernel
theorem dX10_whole_95 : decode cX10_whole 95 = .ok (.getfield 42, 3) := by decide +kernel
theorem dX10_whole_98 : decode cX10_whole 98 = .ok (.invokevirtual 187, 3) := by decide +kernel
theorem dX10_whole_101 : decode cX10_whole 101 = .ok (.ireturn, 1) := by decide +kernel
theorem dX10_feast_0 : decode cX10_feast 0 = .ok (.iload_n 1, 1) := by decide +kernel
theorem dX10_feast_1 : decode cX10_feast 1 = .ok (.invokestatic 110, 3) := by decide +kernel
theorem dX10_feast_4 : decode cX10_feast 4 = .ok (.ifCond .eq 10, 3) := by decide +kernel
theorem dX10_feast_7 : decode cX10_feast 7 = .ok (.iload_n 2, 1) := by decide +kernel
theorem dX10_feast_8 : decode cX10_feast 8 = .ok (.invokestatic 113, 3) := by decide +kernel
theorem dX10_feast_11 : decode cX10_feast 11 = .ok (.ifCond .ne 6, 3) := by decide +kernel
theorem dX10_feast_14 : decode cX10_feast 14 = .ok (.bipush (-2), 2) := by decide +kernel
theorem dX10_feast_16 : decode cX10_feast 16 = .ok (.ireturn, 1) := by decide +kernel
theorem dX10_feast_17 : decode cX10_feast 17 = .ok (.aload_n 0, 1) := by decide +kernel
theorem dX10_feast_18 : decode cX10_feast 18 = .ok (.getfield 35, 3) := by decide +kernel
theorem dX10_feast_21 : decode cX10_feast 21 = .ok (.iload_n 1, 1) := by decide +kernel
theorem dX10_feast_22 : decode cX10_feast 22 = .ok (.invokevirtual 146, 3) := by decide +kernel
theorem dX10_feast_25 : decode cX10_feast 25 = .ok (.iconst 0, 1) := by decide +kernel
theorem dX10_feast_26 : decode cX10_feast 26 = .ok (.istore_n 3, 1) := by decide +kernel
theorem dX10_feast_27 : decode cX10_feast 27 = .ok (.iconst 0, 1) := by decide +kernel
theorem dX10_feast_28 : decode cX10_feast 28 = .ok (.istore 4, 2) := by decide +kernel
theorem dX10_feast_30 : decode cX10_feast 30 = .ok (.iload 4, 2) := by decide +kernel
theorem dX10_feast_32 : decode cX10_feast 32 = .ok (.aload_n 0, 1) := by decide +kernel
theorem dX10_feast_33 : decode cX10_feast 33 = .ok (.getfield 10, 3) := by decide +kernel
theorem dX10_feast_36 : decode cX10_feast 36 = .ok (.invokevirtual 190, 3) := by decide +kernel
theorem dX10_feast_39 : decode cX10_feast 39 = .ok (.if_icmp .ge 41, 3) := by decide +kernel
theorem dX10_feast_42 : decode cX10_feast 42 = .ok (.aload_n 0, 1) := by decide +kernel
theorem dX10_feast_43 : decode cX10_feast 43 = .ok (.getfield 35, 3) := by decide +kernel
theorem dX10_feast_46 : decode cX10_feast 46 = .ok (.iload 4, 2) := by decide +kernel
theorem dX10_feast_48 : decode cX10_feast 48 = .ok (.invokevirtual 149, 3) := by decide +kernel
theorem dX10_feast_51 : decode cX10_feast 51 = .ok (.aload_n 0, 1) := by decide +kernel
theorem dX10_feast_52 : decode cX10_feast 52 = .ok (.getfield 73, 3) := by decide +kernel
theorem dX10_feast_55 : decode cX10_feast 55 = .ok (.isub, 1) := by decide +kernel
theorem dX10_feast_56 : decode cX10_feast 56 = .ok (.istore 5, 2) := by decide +kernel
theorem dX10_feast_58 : decode cX10_feast 58 = .ok (.iload_n 3, 1) := by decide +kernel
theorem dX10_feast_59 : decode cX10_feast 59 = .ok (.iload 5, 2) := by decide +kernel
theorem dX10_feast_61 : decode cX10_feast 61 = .ok (.ifCond .le 10, 3) := by decide +kernel
theorem dX10_feast_64 : decode cX10_feast 64 = .ok (.iload 5, 2) := by decide +kernel
theorem dX10_feast_66 : decode cX10_feast 66 = .ok (.iload_n 2, 1) := by decide +kernel
theorem dX10_feast_67 : decode cX10_feast 67 = .ok (.idiv, 1) := by decide +kernel
theorem dX10_feast_68 : decode cX10_feast 68 = .ok (.goto 4, 3) := by decide +kernel
theorem dX10_feast_71 : decode cX10_feast 71 = .ok (.iconst 0, 1) := by decide +kernel
theorem dX10_feast_72 : decode cX10_feast 72 = .ok (.iadd, 1) := by decide +kernel
theorem dX10_feast_73 : decode cX10_feast 73 = .ok (.istore_n 3, 1) := by decide +kernel
theorem dX10_feast_74 : decode cX10_feast 74 = .ok (.iinc 4 1, 3) := by decide +kernel
theorem dX10_feast_77 : decode cX10_feast 77 = .ok (.goto (-47), 3) := by decide +kernel
theorem dX10_feast_80 : decode cX10_feast 80 = .ok (.iload_n 3, 1) := by decide +kernel
theorem dX10_feast_81 : decode cX10_feast 81 = .ok (.ireturn, 1) := by decide +kernel
theorem dX10_spy_0 : decode cX10_spy 0 = .ok (.iload_n 1, 1) := by decide +kernel
theorem dX10_spy_1 : decode cX10_spy 1 = .ok (.invokestatic 110, 3) := by decide +kernel
theorem dX10_spy_4 : decode cX10_spy 4 = .ok (.ifCond .eq 21, 3) := by decide +kernel
theorem dX10_spy_7 : decode cX10_spy 7 = .ok (.aload_n 0, 1) := by decide +kernel
theorem dX10_spy_8 : decode cX10_spy 8 = .ok (.getfield 10, 3) := by decide +kernel
theorem dX10_spy_11 : decode cX10_spy 11 = .ok (.iload_n 2, 1) := by decide +kernel
theorem dX10_spy_12 : decode cX10_spy 12 = .ok (.invokevirtual 99, 3) := by decide +kernel
theorem dX10_spy_15 : decode cX10_spy 15 = .ok (.ifCond .eq 10, 3) := by decide +kernel
theorem dX10_spy_18 : decode cX10_spy 18 = .ok (.iload_n 3, 1) := by decide +kernel
theorem dX10_spy_19 : decode cX10_spy 19 = .ok (.invokestatic 113, 3) := by decide +kernel
theorem dX10_spy_22 : decode cX10_spy 22 = .ok (.ifCond .ne 6, 3) := by decide +kernel
theorem dX10_spy_25 : decode cX10_spy 25 = .ok (.bipush (-2), 2) := by decide +kernel
theorem dX10_spy_27 : decode cX10_spy 27 = .ok (.ireturn, 1) := by decide +kernel
theorem dX10_spy_28 : decode cX10_spy 28 = .ok (.aload_n 0, 1) := by decide +kernel
theorem dX10_spy_29 : decode cX10_spy 29 = .ok (.getfield 35, 3) := by decide +kernel
theorem dX10_spy_32 : decode cX10_spy 32 = .ok (.iload_n 1, 1) := by decide +kernel
theorem dX10_spy_33 : decode cX10_spy 33 = .ok (.iconst 1, 1) := by decide +kernel
theorem dX10_spy_34 : decode cX10_spy 34 = .ok (.isub, 1) := by decide +kernel
theorem dX10_spy_35 : decode cX10_spy 35 = .ok (.invokevirtual 146, 3) := by decide +kernel
theorem dX10_spy_38 : decode cX10_spy 38 = .ok (.aload_n 0, 1) := by decide +kernel
theorem dX10_spy_39 : decode cX10_spy 39 = .ok (.getfield 35, 3) := by decide +kernel
theorem dX10_spy_42 : decode cX10_spy 42 = .ok (.iload_n 1, 1) := by decide +kernel
theorem dX10_spy_43 : decode cX10_spy 43 = .ok (.invokevirtual 191, 3) := by decide +kernel
theorem dX10_spy_46 : decode cX10_spy 46 = .ok (.aload_n 0, 1) := by decide +kernel
theorem dX10_spy_47 : decode cX10_spy 47 = .ok (.getfield 35, 3) := by decide +kernel
theorem dX10_spy_50 : decode cX10_spy 50 = .ok (.iload_n 2, 1) := by decide +kernel
theorem dX10_spy_51 : decode cX10_spy 51 = .ok (.invokevirtual 149, 3) := by decide +kernel
theorem dX10_spy_54 : decode cX10_spy 54 = .ok (.istore 4, 2) := by decide +kernel
theorem dX10_spy_56 : decode cX10_spy 56 = .ok (.aload_n 0, 1) := by decide +kernel
theorem dX10_spy_57 : decode cX10_spy 57 = .ok (.getfield 35, 3) := by decide +kernel
theorem dX10_spy_60 : decode cX10_spy 60 = .ok (.iload_n 1, 1) := by decide +kernel
theorem dX10_spy_61 : decode cX10_spy 61 = .ok (.invokevirtual 194, 3) := by decide +kernel
theorem dX10_spy_64 : decode cX10_spy 64 = .ok (.aload_n 0, 1) := by decide +kernel
theorem dX10_spy_65 : decode cX10_spy 65 = .ok (.getfield 35, 3) := by decide +kernel
theorem dX10_spy_68 : decode cX10_spy 68 = .ok (.iload_n 2, 1) := by decide +kernel
theorem dX10_spy_69 : decode cX10_spy 69 = .ok (.invokevirtual 149, 3) := by decide +kernel
theorem dX10_spy_72 : decode cX10_spy 72 = .ok (.iload 4, 2) := by decide +kernel
theorem dX10_spy_74 : decode cX10_spy 74 = .ok (.isub, 1) := by decide +kernel
theorem dX10_spy_75 : decode cX10_spy 75 = .ok (.istore 5, 2) := by decide +kernel
theorem dX10_spy_77 : decode cX10_spy 77 = .ok (.iconst 0, 1) := by decide +kernel
theorem dX10_spy_78 : decode cX10_spy 78 = .ok (.istore 6, 2) := by decide +kernel
theorem dX10_spy_80 : decode cX10_spy 80 = .ok (.iload 6, 2) := by decide +kernel
theorem dX10_spy_82 : decode cX10_spy 82 = .ok (.bipush 99, 2) := by decide +kernel
theorem dX10_spy_84 : decode cX10_spy 84 = .ok (.if_icmp .gt 33, 3) := by decide +kernel
theorem dX10_spy_87 : decode cX10_spy 87 = .ok (.iload 4, 2) := by decide +kernel
theorem dX10_spy_89 : decode cX10_spy 89 = .ok (.iload 6, 2) := by decide +kernel
theorem dX10_spy_91 : decode cX10_spy 91 = .ok (.iload_n 3, 1) := by decide +kernel
theorem dX10_spy_92 : decode cX10_spy 92 = .ok (.imul, 1) := by decide +kernel
theorem dX10_spy_93 : decode cX10_spy 93 = .ok (.isub, 1) := by decide +kernel
theorem dX10_spy_94 : decode cX10_spy 94 = .ok (.iconst 0, 1) := by decide +kernel
theorem dX10_spy_95 : decode cX10_spy 95 = .ok (.invokestatic 197, 3) := by decide +kernel
theorem dX10_spy_98 : decode cX10_spy 98 = .ok (.iload 5, 2) := by decide +kernel
theorem dX10_spy_100 : decode cX10_spy 100 = .ok (.iadd, 1) := by decide +kernel
theorem dX10_spy_101 : decode cX10_spy 101 = .ok (.aload_n 0, 1) := by decide +kernel
theorem dX10_spy_102 : decode cX10_spy 102 = .ok (.getfield 73, 3) := by decide +kernel
theorem dX10_spy_105 : decode cX10_spy 105 = .ok (.if_icmp .ge 6, 3) := by decide +kernel
theorem dX10_spy_108 : decode cX10_spy 108 = .ok (.iload 6, 2) := by decide +kernel
theorem dX10_spy_110 : decode cX10_spy 110 = .ok (.ireturn, 1) := by decide +kernel
theorem dX10_spy_111 : decode cX10_spy 111 = .ok (.iinc 6 1, 3) := by decide +kernel
theorem dX10_spy_114 : decode cX10_spy 114 = .ok (.goto (-34), 3) := by decide +kernel
theorem dX10_spy_117 : decode cX10_spy 117 = .ok (.iconst (-1), 1) := by decide +kernel
theorem dX10_spy_118 : decode cX10_spy 118 = .ok (.ireturn, 1) := by decide +kernel
theorem dX10_swap_0 : decode cX10_swap 0 = .ok (.iload_n 1, 1) := by decide +kernel
theorem dX10_swap_1 : decode cX10_swap 1 = .ok (.invokestatic 110, 3) := by decide +kernel
theorem dX10_swap_4 : decode cX10_swap 4 = .ok (.ifCond .eq 12, 3) := by decide +kernel
theorem dX10_swap_7 : decode cX10_swap 7 = .ok (.iload_n 2, 1) := by decide +kernel
theorem dX10_swap_8 : decode cX10_swap 8 = .ok (.iconst 0, 1) := by decide +kernel
theorem dX10_swap_9 : decode cX10_swap 9 = .ok (.iconst 2, 1) := by decide +kernel
theorem dX10_swap_10 : decode cX10_swap 10 = .ok (.invokestatic 81, 3) := by decide +kernel
theorem dX10_swap_13 : decode cX10_swap 13 = .ok (.ifCond .ne 6, 3) := by decide +kernel
theorem dX10_swap_16 : decode cX10_swap 16 = .ok (.bipush (-2), 2) := by decide +kernel
theorem dX10_swap_18 : decode cX10_swap 18 = .ok (.ireturn, 1) := by decide +kernel
theorem dX10_swap_19 : decode cX10_swap 19 = .ok (.aload_n 0, 1) := by decide +kernel
theorem dX10_swap_20 : decode cX10_swap 20 = .ok (.getfield 35, 3) := by decide +kernel
theorem dX10_swap_23 : decode cX10_swap 23 = .ok (.iload_n 1, 1) := by decide +kernel
theorem dX10_swap_24 : decode cX10_swap 24 = .ok (.invokevirtual 146, 3) := by decide +kernel
theorem dX10_swap_27 : decode cX10_swap 27 = .ok (.aload_n 0, 1) := by decide +kernel
theorem dX10_swap_28 : decode cX10_swap 28 = .ok (.getfield 49, 3) := by decide +kernel
theorem dX10_swap_31 : decode cX10_swap 31 = .ok (.aload_n 0, 1) := by decide +kernel
theorem dX10_swap_32 : decode cX10_swap 32 = .ok (.getfield 19, 3) := by decide +kernel
theorem dX10_swap_35 : decode cX10_swap 35 = .ok (.aload_n 0, 1) := by decide +kernel
theorem dX10_swap_36 : decode cX10_swap 36 = .ok (.getfield 35, 3) := by decide +kernel
theorem dX10_swap_39 : decode cX10_swap 39 = .ok (.invokevirtual 155, 3) := by decide +kernel
theorem dX10_swap_42 : decode cX10_swap 42 = .ok (.invokevirtual 202, 3) := by decide +kernel
theorem dX10_swap_45 : decode cX10_swap 45 = .ok (.iload_n 2, 1) := by decide +kernel
theorem dX10_swap_46 : decode cX10_swap 46 = .ok (.iconst 2, 1) := by decide +kernel
theorem dX10_swap_47 : decode cX10_swap 47 = .ok (.if_icmp .ne 11, 3) := by decide +kernel
theorem dX10_swap_50 : decode cX10_swap 50 = .ok (.aload_n 0, 1) := by decide +kernel
theorem dX10_swap_51 : decode cX10_swap 51 = .ok (.getfield 49, 3) := by decide +kernel
theorem dX10_swap_54 : decode cX10_swap 54 = .ok (.invokevirtual 206, 3) := by decide +kernel
theorem dX10_swap_57 : decode cX10_swap 57 = .ok (.ireturn, 1) := by decide +kernel
theorem dX10_swap_58 : decode cX10_swap 58 = .ok (.aload_n 0, 1) := by decide +kernel
theorem dX10_swap_59 : decode cX10_swap 59 = .ok (.getfield 49, 3) := by decide +kernel
theorem dX10_swap_62 : decode cX10_swap 62 = .ok (.invokevirtual 209, 3) := by decide +kernel
theorem dX10_swap_65 : decode cX10_swap 65 = .ok (.istore_n 3, 1) := by decide +kernel
theorem dX10_swap_66 : decode cX10_swap 66 = .ok (.iload_n 3, 1) := by decide +kernel
theorem dX10_swap_67 : decode cX10_swap 67 = .ok (.iconst (-1), 1) := by decide +kernel
theorem dX10_swap_68 : decode cX10_swap 68 = .ok (.if_icmp .ne 5, 3) := by decide +kernel
theorem dX10_swap_71 : decode cX10_swap 71 = .ok (.iconst (-1), 1) := by decide +kernel
theorem dX10_swap_72 : decode cX10_swap 72 = .ok (.ireturn, 1) := by decide +kernel
theorem dX10_swap_73 : decode cX10_swap 73 = .ok (.iload_n 2, 1) := by decide +kernel
theorem dX10_swap_74 : decode cX10_swap 74 = .ok (.ifCond .ne 10, 3) := by decide +kernel
theorem dX10_swap_77 : decode cX10_swap 77 = .ok (.iload_n 3, 1) := by decide +kernel
theorem dX10_swap_78 : decode cX10_swap 78 = .ok (.bipush 12, 2) := by decide +kernel
theorem dX10_swap_80 : decode cX10_swap 80 = .ok (.idiv, 1) := by decide +kernel
theorem dX10_swap_81 : decode cX10_swap 81 = .ok (.goto 7, 3) := by decide +kernel
theorem dX10_swap_84 : decode cX10_swap 84 = .ok (.iload_n 3, 1) := by decide +kernel
theorem dX10_swap_85 : decode cX10_swap 85 = .ok (.bipush 12, 2) := by decide +kernel
theorem dX10_swap_87 : decode cX10_swap 87 = .ok (.irem, 1) := by decide +kernel
theorem dX10_swap_88 : decode cX10_swap 88 = .ok (.ireturn, 1) := by decide +kernel
theorem dX10_seen_0 : decode cX10_seen 0 = .ok (.iload_n 1, 1) := by decide +kernel
theorem dX10_seen_1 : decode cX10_seen 1 = .ok (.iload_n 2, 1) := by decide +kernel
theorem dX10_seen_2 : decode cX10_seen 2 = .ok (.iload_n 3, 1) := by decide +kernel
theorem dX10_seen_3 : decode cX10_seen 3 = .ok (.invokestatic 212, 3) := by decide +kernel
theorem dX10_seen_6 : decode cX10_seen 6 = .ok (.ifCond .ne 6, 3) := by decide +kernel
theorem dX10_seen_9 : decode cX10_seen 9 = .ok (.bipush (-2), 2) := by decide +kernel
theorem dX10_seen_11 : decode cX10_seen 11 = .ok (.ireturn, 1) := by decide +kernel
theorem dX10_seen_12 : decode cX10_seen 12 = .ok (.aload_n 0, 1) := by decide +kernel
theorem dX10_seen_13 : decode cX10_seen 13 = .ok (.getfield 56, 3) := by decide +kernel
theorem dX10_seen_16 : decode cX10_seen 16 = .ok (.iload_n 1, 1) := by decide +kernel
theorem dX10_seen_17 : decode cX10_seen 17 = .ok (.iload_n 2, 1) := by decide +kernel
theorem dX10_seen_18 : decode cX10_seen 18 = .ok (.iload_n 3, 1) := by decide +kernel
theorem dX10_seen_19 : decode cX10_seen 19 = .ok (.invokevirtual 215, 3) := by decide +kernel
theorem dX10_seen_22 : decode cX10_seen 22 = .ok (.ifCond .eq 13, 3) := by decide +kernel
theorem dX10_seen_25 : decode cX10_seen 25 = .ok (.aload_n 0, 1) := by decide +kernel
theorem dX10_seen_26 : decode cX10_seen 26 = .ok (.getfield 56, 3) := by decide +kernel
theorem dX10_seen_29 : decode cX10_seen 29 = .ok (.invokevirtual 217, 3) := by decide +kernel
theorem dX10_seen_32 : decode cX10_seen 32 = .ok (.goto 5, 3) := by decide +kernel
theorem dX10_seen_35 : decode cX10_seen 35 = .ok (.bipush (-4), 2) := by decide +kernel
theorem dX10_seen_37 : decode cX10_seen 37 = .ok (.ireturn, 1) := by decide +kernel
theorem dX10_forget_0 : decode cX10_forget 0 = .ok (.aload_n 0, 1) := by decide +kernel
theorem dX10_forget_1 : decode cX10_forget 1 = .ok (.getfield 56, 3) := by decide +kernel
theorem dX10_forget_4 : decode cX10_forget 4 = .ok (.invokevirtual 217, 3) := by decide +kernel
theorem dX10_forget_7 : decode cX10_forget 7 = .ok (.istore_n 1, 1) := by decide +kernel
theorem dX10_forget_8 : decode cX10_forget 8 = .ok (.aload_n 0, 1) := by decide +kernel
theorem dX10_forget_9 : decode cX10_forget 9 = .ok (.getfield 56, 3) := by decide +kernel
theorem dX10_forget_12 : decode cX10_forget 12 = .ok (.invokevirtual 218, 3) := by decide +kernel
theorem dX10_forget_15 : decode cX10_forget 15 = .ok (.iload_n 1, 1) := by decide +kernel
theorem dX10_forget_16 : decode cX10_forget 16 = .ok (.ireturn, 1) := by decide +kernel
theorem dX10_read_0 : decode cX10_read 0 = .ok (.iload_n 1, 1) := by decide +kernel
theorem dX10_read_1 : decode cX10_read 1 = .ok (.invokestatic 221, 3) := by decide +kernel
theorem dX10_read_4 : decode cX10_read 4 = .ok (.ifCond .ne 6, 3) := by decide +kernel
theorem dX10_read_7 : decode cX10_read 7 = .ok (.bipush (-2), 2) := by decide +kernel
theorem dX10_read_9 : decode cX10_read 9 = .ok (.ireturn, 1) := by decide +kernel
theorem dX10_read_10 : decode cX10_read 10 = .ok (.aload_n 0, 1) := by decide +kernel
theorem dX10_read_11 : decode cX10_read 11 = .ok (.getfield 69, 3) := by decide +kernel
theorem dX10_read_14 : decode cX10_read 14 = .ok (.iload_n 1, 1) := by decide +kernel
theorem dX10_read_15 : decode cX10_read 15 = .ok (.aaload, 1) := by decide +kernel
theorem dX10_read_16 : decode cX10_read 16 = .ok (.astore_n 2, 1) := by decide +kernel
theorem dX10_read_17 : decode cX10_read 17 = .ok (.aload_n 2, 1) := by decide +kernel
theorem dX10_read_18 : decode cX10_read 18 = .ok (.invokevirtual 224, 3) := by decide +kernel
theorem dX10_read_21 : decode cX10_read 21 = .ok (.ifCond .eq 9, 3) := by decide +kernel
theorem dX10_read_24 : decode cX10_read 24 = .ok (.aload_n 0, 1) := by decide +kernel
theorem dX10_read_25 : decode cX10_read 25 = .ok (.iconst 1, 1) := by decide +kernel
theorem dX10_read_26 : decode cX10_read 26 = .ok (.invokevirtual 227, 3) := by decide +kernel
theorem dX10_read_29 : decode cX10_read 29 = .ok (.ireturn, 1) := by decide +kernel
theorem dX10_read_30 : decode cX10_read 30 = .ok (.iconst 0, 1) := by decide +kernel
theorem dX10_read_31 : decode cX10_read 31 = .ok (.istore_n 3, 1) := by decide +kernel
theorem dX10_read_32 : decode cX10_read 32 = .ok (.iconst 0, 1) := by decide +kernel
theorem dX10_read_33 : decode cX10_read 33 = .ok (.istore 4, 2) := by decide +kernel
theorem dX10_read_35 : decode cX10_read 35 = .ok (.iload 4, 2) := by decide +kernel
theorem dX10_read_37 : decode cX10_read 37 = .ok (.iconst 2, 1) := by decide +kernel
theorem dX10_read_38 : decode cX10_read 38 = .ok (.iadd, 1) := by decide +kernel
theorem dX10_read_39 : decode cX10_read 39 = .ok (.aload_n 2, 1) := by decide +kernel
theorem dX10_read_40 : decode cX10_read 40 = .ok (.invokevirtual 230, 3) := by decide +kernel
theorem dX10_read_43 : decode cX10_read 43 = .ok (.if_icmp .ge 71, 3) := by decide +kernel
theorem dX10_read_46 : decode cX10_read 46 = .ok (.aload_n 2, 1) := by decide +kernel
theorem dX10_read_47 : decode cX10_read 47 = .ok (.iload 4, 2) := by decide +kernel
theorem dX10_read_49 : decode cX10_read 49 = .ok (.invokevirtual 231, 3) := by decide +kernel
theorem dX10_read_52 : decode cX10_read 52 = .ok (.istore 5, 2) := by decide +kernel
theorem dX10_read_54 : decode cX10_read 54 = .ok (.aload_n 2, 1) := by decide +kernel
theorem dX10_read_55 : decode cX10_read 55 = .ok (.iload 4, 2) := by decide +kernel
theorem dX10_read_57 : decode cX10_read 57 = .ok (.iconst 1, 1) := by decide +kernel
theorem dX10_read_58 : decode cX10_read 58 = .ok (.iadd, 1) := by decide +kernel
theorem dX10_read_59 : decode cX10_read 59 = .ok (.invokevirtual 231, 3) := by decide +kernel
theorem dX10_read_62 : decode cX10_read 62 = .ok (.istore 6, 2) := by decide +kernel
theorem dX10_read_64 : decode cX10_read 64 = .ok (.aload_n 2, 1) := by decide +kernel
theorem dX10_read_65 : decode cX10_read 65 = .ok (.iload 4, 2) := by decide +kernel
theorem dX10_read_67 : decode cX10_read 67 = .ok (.iconst 2, 1) := by decide +kernel
theorem dX10_read_68 : decode cX10_read 68 = .ok (.iadd, 1) := by decide +kernel
theorem dX10_read_69 : decode cX10_read 69 = .ok (.invokevirtual 231, 3) := by decide +kernel
theorem dX10_read_72 : decode cX10_read 72 = .ok (.istore 7, 2) := by decide +kernel
theorem dX10_read_74 : decode cX10_read 74 = .ok (.iload 5, 2) := by decide +kernel
theorem dX10_read_76 : decode cX10_read 76 = .ok (.iload 6, 2) := by decide +kernel
theorem dX10_read_78 : decode cX10_read 78 = .ok (.iload 7, 2) := by decide +kernel
theorem dX10_read_80 : decode cX10_read 80 = .ok (.invokestatic 212, 3) := by decide +kernel
theorem dX10_read_83 : decode cX10_read 83 = .ok (.ifCond .eq 31, 3) := by decide +kernel
theorem dX10_read_86 : decode cX10_read 86 = .ok (.aload_n 0, 1) := by decide +kernel
theorem dX10_read_87 : decode cX10_read 87 = .ok (.getfield 56, 3) := by decide +kernel
theorem dX10_read_90 : decode cX10_read 90 = .ok (.iload 5, 2) := by decide +kernel
theorem dX10_read_92 : decode cX10_read 92 = .ok (.iload 6, 2) := by decide +kernel
theorem dX10_read_94 : decode cX10_read 94 = .ok (.iload 7, 2) := by decide +kernel
theorem dX10_read_96 : decode cX10_read 96 = .ok (.invokevirtual 215, 3) := by decide +kernel
theorem dX10_read_99 : decode cX10_read 99 = .ok (.ifCond .ne 6, 3) := by decide +kernel
theorem dX10_read_102 : decode cX10_read 102 = .ok (.goto 12, 3) := by decide +kernel
theorem dX10_read_105 : decode cX10_read 105 = .ok (.iinc 3 1, 3) := by decide +kernel
theorem dX10_read_108 : decode cX10_read 108 = .ok (.iinc 4 3, 3) := by decide +kernel
theorem dX10_read_111 : decode cX10_read 111 = .ok (.goto (-76), 3) := by decide +kernel
theorem dX10_read_114 : decode cX10_read 114 = .ok (.iload_n 3, 1) := by decide +kernel
theorem dX10_read_115 : decode cX10_read 115 = .ok (.ireturn, 1) := by decide +kernel
theorem dX10_never_0 : decode cX10_never 0 = .ok (.iconst 0, 1) := by decide +kernel
theorem dX10_never_1 : decode cX10_never 1 = .ok (.istore_n 1, 1) := by decide +kernel
theorem dX10_never_2 : decode cX10_never 2 = .ok (.iconst 0, 1) := by decide +kernel
theorem dX10_never_3 : decode cX10_never 3 = .ok (.istore_n 2, 1) := by decide +kernel
theorem dX10_never_4 : decode cX10_never 4 = .ok (.iload_n 2, 1) := by decide +kernel
theorem dX10_never_5 : decode cX10_never 5 = .ok (.aload_n 0, 1) := by decide +kernel
theorem dX10_never_6 : decode cX10_never 6 = .ok (.getfield 19, 3) := by decide +kernel
theorem dX10_never_9 : decode cX10_never 9 = .ok (.invokevirtual 123, 3) := by decide +kernel
theorem dX10_never_12 : decode cX10_never 12 = .ok (.if_icmp .ge 31, 3) := by decide +kernel
theorem dX10_never_15 : decode cX10_never 15 = .ok (.aload_n 0, 1) := by decide +kernel
theorem dX10_never_16 : decode cX10_never 16 = .ok (.getfield 56, 3) := by decide +kernel
theorem dX10_never_19 : decode cX10_never 19 = .ok (.aload_n 0, 1) := by decide +kernel
theorem dX10_never_20 : decode cX10_never 20 = .ok (.getfield 35, 3) := by decide +kernel
theorem dX10_never_23 : decode cX10_never 23 = .ok (.iload_n 2, 1) := by decide +kernel
theorem dX10_never_24 : decode cX10_never 24 = .ok (.iconst 0, 1) := by decide +kernel
theorem dX10_never_25 : decode cX10_never 25 = .ok (.invokevirtual 234, 3) := by decide +kernel
theorem dX10_never_28 : decode cX10_never 28 = .ok (.ifCond .eq 9, 3) := by decide +kernel
theorem dX10_never_31 : decode cX10_never 31 = .ok (.iload_n 1, 1) := by decide +kernel
theorem dX10_never_32 : decode cX10_never 32 = .ok (.iconst 1, 1) := by decide +kernel
theorem dX10_never_33 : decode cX10_never 33 = .ok (.iload_n 2, 1) := by decide +kernel
theorem dX10_never_34 : decode cX10_never 34 = .ok (.ishl, 1) := by decide +kernel
theorem dX10_never_35 : decode cX10_never 35 = .ok (.ior, 1) := by decide +kernel
theorem dX10_never_36 : decode cX10_never 36 = .ok (.istore_n 1, 1) := by decide +kernel
theorem dX10_never_37 : decode cX10_never 37 = .ok (.iinc 2 1, 3) := by decide +kernel
theorem dX10_never_40 : decode cX10_never 40 = .ok (.goto (-36), 3) := by decide +kernel
theorem dX10_never_43 : decode cX10_never 43 = .ok (.iload_n 1, 1) := by decide +kernel
theorem dX10_never_44 : decode cX10_never 44 = .ok (.ireturn, 1) := by decide +kernel
theorem dX10_sizes_0 : decode cX10_sizes 0 = .ok (.aload_n 0, 1) := by decide +kernel
theorem dX10_sizes_1 : decode cX10_sizes 1 = .ok (.getfield 19, 3) := by decide +kernel
theorem dX10_sizes_4 : decode cX10_sizes 4 = .ok (.iload_n 1, 1) := by decide +kernel
theorem dX10_sizes_5 : decode cX10_sizes 5 = .ok (.invokevirtual 164, 3) := by decide +kernel
theorem dX10_sizes_8 : decode cX10_sizes 8 = .ok (.ifCond .ne 6, 3) := by decide +kernel
theorem dX10_sizes_11 : decode cX10_sizes 11 = .ok (.bipush (-2), 2) := by decide +kernel
theorem dX10_sizes_13 : decode cX10_sizes 13 = .ok (.ireturn, 1) := by decide +kernel
theorem dX10_sizes_14 : decode cX10_sizes 14 = .ok (.iconst 0, 1) := by decide +kernel
theorem dX10_sizes_15 : decode cX10_sizes 15 = .ok (.istore_n 2, 1) := by decide +kernel
theorem dX10_sizes_16 : decode cX10_sizes 16 = .ok (.iconst 1, 1) := by decide +kernel
theorem dX10_sizes_17 : decode cX10_sizes 17 = .ok (.istore_n 3, 1) := by decide +kernel
theorem dX10_sizes_18 : decode cX10_sizes 18 = .ok (.iload_n 3, 1) := by decide +kernel
theorem dX10_sizes_19 : decode cX10_sizes 19 = .ok (.bipush 9, 2) := by decide +kernel
theorem dX10_sizes_21 : decode cX10_sizes 21 = .ok (.if_icmp .gt 33, 3) := by decide +kernel
theorem dX10_sizes_24 : decode cX10_sizes 24 = .ok (.aload_n 0, 1) := by decide +kernel
theorem dX10_sizes_25 : decode cX10_sizes 25 = .ok (.getfield 56, 3) := by decide +kernel
theorem dX10_sizes_28 : decode cX10_sizes 28 = .ok (.aload_n 0, 1) := by decide +kernel
theorem dX10_sizes_29 : decode cX10_sizes 29 = .ok (.getfield 35, 3) := by decide +kernel
theorem dX10_sizes_32 : decode cX10_sizes 32 = .ok (.iload_n 1, 1) := by decide +kernel
theorem dX10_sizes_33 : decode cX10_sizes 33 = .ok (.iload_n 3, 1) := by decide +kernel
theorem dX10_sizes_34 : decode cX10_sizes 34 = .ok (.invokevirtual 234, 3) := by decide +kernel
theorem dX10_sizes_37 : decode cX10_sizes 37 = .ok (.ifCond .eq 11, 3) := by decide +kernel
theorem dX10_sizes_40 : decode cX10_sizes 40 = .ok (.iload_n 2, 1) := by decide +kernel
theorem dX10_sizes_41 : decode cX10_sizes 41 = .ok (.iconst 1, 1) := by decide +kernel
theorem dX10_sizes_42 : decode cX10_sizes 42 = .ok (.iload_n 3, 1) := by decide +kernel
theorem dX10_sizes_43 : decode cX10_sizes 43 = .ok (.iconst 1, 1) := by decide +kernel
theorem dX10_sizes_44 : decode cX10_sizes 44 = .ok (.isub, 1) := by decide +kernel
theorem dX10_sizes_45 : decode cX10_sizes 45 = .ok (.ishl, 1) := by decide +kernel
theorem dX10_sizes_46 : decode cX10_sizes 46 = .ok (.ior, 1) := by decide +kernel
theorem dX10_sizes_47 : decode cX10_sizes 47 = .ok (.istore_n 2, 1) := by decide +kernel
theorem dX10_sizes_48 : decode cX10_sizes 48 = .ok (.iinc 3 1, 3) := by decide +kernel
theorem dX10_sizes_51 : decode cX10_sizes 51 = .ok (.goto (-33), 3) := by decide +kernel
theorem dX10_sizes_54 : decode cX10_sizes 54 = .ok (.iload_n 2, 1) := by decide +kernel
theorem dX10_sizes_55 : decode cX10_sizes 55 = .ok (.ireturn, 1) := by decide +kernel
theorem dX10_town_0 : decode cX10_town 0 = .ok (.iload_n 1, 1) := by decide +kernel
theorem dX10_town_1 : decode cX10_town 1 = .ok (.iload_n 3, 1) := by decide +kernel
theorem dX10_town_2 : decode cX10_town 2 = .ok (.invokestatic 238, 3) := by decide +kernel
theorem dX10_town_5 : decode cX10_town 5 = .ok (.ifCond .eq 14, 3) := by decide +kernel
theorem dX10_town_8 : decode cX10_town 8 = .ok (.iload_n 2, 1) := by decide +kernel
theorem dX10_town_9 : decode cX10_town 9 = .ok (.iconst 0, 1) := by decide +kernel
theorem dX10_town_10 : decode cX10_town 10 = .ok (.sipush 999, 3) := by decide +kernel
theorem dX10_town_13 : decode cX10_town 13 = .ok (.invokestatic 81, 3) := by decide +kernel
theorem dX10_town_16 : decode cX10_town 16 = .ok (.ifCond .ne 6, 3) := by decide +kernel
theorem dX10_town_19 : decode cX10_town 19 = .ok (.bipush (-2), 2) := by decide +kernel
theorem dX10_town_21 : decode cX10_town 21 = .ok (.ireturn, 1) := by decide +kernel
theorem dX10_town_22 : decode cX10_town 22 = .ok (.iload_n 1, 1) := by decide +kernel
theorem dX10_town_23 : decode cX10_town 23 = .ok (.iload_n 2, 1) := by decide +kernel
theorem dX10_town_24 : decode cX10_town 24 = .ok (.bipush 10, 2) := by decide +kernel
theorem dX10_town_26 : decode cX10_town 26 = .ok (.idiv, 1) := by decide +kernel
theorem dX10_town_27 : decode cX10_town 27 = .ok (.iload_n 3, 1) := by decide +kernel
theorem dX10_town_28 : decode cX10_town 28 = .ok (.invokestatic 241, 3) := by decide +kernel
theorem dX10_town_31 : decode cX10_town 31 = .ok (.ireturn, 1) := by decide +kernel
theorem dX10_toll_0 : decode cX10_toll 0 = .ok (.iload_n 1, 1) := by decide +kernel
theorem dX10_toll_1 : decode cX10_toll 1 = .ok (.iload_n 2, 1) := by decide +kernel
theorem dX10_toll_2 : decode cX10_toll 2 = .ok (.invokestatic 238, 3) := by decide +kernel
theorem dX10_toll_5 : decode cX10_toll 5 = .ok (.ifCond .ne 6, 3) := by decide +kernel
theorem dX10_toll_8 : decode cX10_toll 8 = .ok (.bipush (-2), 2) := by decide +kernel
theorem dX10_toll_10 : decode cX10_toll 10 = .ok (.ireturn, 1) := by decide +kernel
theorem dX10_toll_11 : decode cX10_toll 11 = .ok (.bipush 99, 2) := by decide +kernel
theorem dX10_toll_13 : decode cX10_toll 13 = .ok (.istore_n 3, 1) := by decide +kernel
theorem dX10_toll_14 : decode cX10_toll 14 = .ok (.iload_n 3, 1) := by decide +kernel
theorem dX10_toll_15 : decode cX10_toll 15 = .ok (.ifCond .le 27, 3) := by decide +kernel
theorem dX10_toll_18 : decode cX10_toll 18 = .ok (.iload_n 1, 1) := by decide +kernel
theorem dX10_toll_19 : decode cX10_toll 19 = .ok (.iload_n 3, 1) := by decide +kernel
theorem dX10_toll_20 : decode cX10_toll 20 = .ok (.iload_n 2, 1) := by decide +kernel
theorem dX10_toll_21 : decode cX10_toll 21 = .ok (.invokestatic 241, 3) := by decide +kernel
theorem dX10_toll_24 : decode cX10_toll 24 = .ok (.iconst (-1), 1) := by decide +kernel
theorem dX10_toll_25 : decode cX10_toll 25 = .ok (.if_icmp .ne 11, 3) := by decide +kernel
theorem dX10_toll_28 : decode cX10_toll 28 = .ok (.iload_n 3, 1) := by decide +kernel
theorem dX10_toll_29 : decode cX10_toll 29 = .ok (.bipush 10, 2) := by decide +kernel
theorem dX10_toll_31 : decode cX10_toll 31 = .ok (.imul, 1) := by decide +kernel
theorem dX10_toll_32 : decode cX10_toll 32 = .ok (.bipush 9, 2) := by decide +kernel
theorem dX10_toll_34 : decode cX10_toll 34 = .ok (.iadd, 1) := by decide +kernel
theorem dX10_toll_35 : decode cX10_toll 35 = .ok (.ireturn, 1) := by decide +kernel
theorem dX10_toll_36 : decode cX10_toll 36 = .ok (.iinc 3 (-1), 3) := by decide +kernel
theorem dX10_toll_39 : decode cX10_toll 39 = .ok (.goto (-25), 3) := by decide +kernel
theorem dX10_toll_42 : decode cX10_toll 42 = .ok (.bipush 9, 2) := by decide +kernel
theorem dX10_toll_44 : decode cX10_toll 44 = .ok (.ireturn, 1) := by decide +kernel
theorem dX10_shots_0 : decode cX10_shots 0 = .ok (.iload_n 1, 1) := by decide +kernel
theorem dX10_shots_1 : decode cX10_shots 1 = .ok (.iconst 0, 1) := by decide +kernel
theorem dX10_shots_2 : decode cX10_shots 2 = .ok (.bipush 16, 2) := by decide +kernel
theorem dX10_shots_4 : decode cX10_shots 4 = .ok (.invokestatic 81, 3) := by decide +kernel
theorem dX10_shots_7 : decode cX10_shots 7 = .ok (.ifCond .eq 50, 3) := by decide +kernel
theorem dX10_shots_10 : decode cX10_shots 10 = .ok (.iload_n 2, 1) := by decide +kernel
theorem dX10_shots_11 : decode cX10_shots 11 = .ok (.invokestatic 110, 3) := by decide +kernel
theorem dX10_shots_14 : decode cX10_shots 14 = .ok (.ifCond .eq 43, 3) := by decide +kernel
theorem dX10_shots_17 : decode cX10_shots 17 = .ok (.iload_n 3, 1) := by decide +kernel
theorem dX10_shots_18 : decode cX10_shots 18 = .ok (.iconst 1, 1) := by decide +kernel
theorem dX10_shots_19 : decode cX10_shots 19 = .ok (.bipush 10, 2) := by decide +kernel
theorem dX10_shots_21 : decode cX10_shots 21 = .ok (.invokestatic 81, 3) := by decide +kernel
theorem dX10_shots_24 : decode cX10_shots 24 = .ok (.ifCond .eq 33, 3) := by decide +kernel
theorem dX10_shots_27 : decode cX10_shots 27 = .ok (.aload_n 0, 1) := by decide +kernel
theorem dX10_shots_28 : decode cX10_shots 28 = .ok (.getfield 10, 3) := by decide +kernel
theorem dX10_shots_31 : decode cX10_shots 31 = .ok (.iload 4, 2) := by decide +kernel
theorem dX10_shots_33 : decode cX10_shots 33 = .ok (.invokevirtual 99, 3) := by decide +kernel
theorem dX10_shots_36 : decode cX10_shots 36 = .ok (.ifCond .eq 21, 3) := by decide +kernel
theorem dX10_shots_39 : decode cX10_shots 39 = .ok (.iload 5, 2) := by decide +kernel
theorem dX10_shots_41 : decode cX10_shots 41 = .ok (.invokestatic 113, 3) := by decide +kernel
theorem dX10_shots_44 : decode cX10_shots 44 = .ok (.ifCond .eq 13, 3) := by decide +kernel
theorem dX10_shots_47 : decode cX10_shots 47 = .ok (.iload 6, 2) := by decide +kernel
theorem dX10_shots_49 : decode cX10_shots 49 = .ok (.iconst 0, 1) := by decide +kernel
theorem dX10_shots_50 : decode cX10_shots 50 = .ok (.iconst 1, 1) := by decide +kernel
theorem dX10_shots_51 : decode cX10_shots 51 = .ok (.invokestatic 81, 3) := by decide +kernel
theorem dX10_shots_54 : decode cX10_shots 54 = .ok (.ifCond .ne 7, 3) := by decide +kernel
theorem dX10_shots_57 : decode cX10_shots 57 = .ok (.ldc2_w 247, 3) := by decide +kernel
theorem dX10_shots_60 : decode cX10_shots 60 = .ok (.lreturn, 1) := by decide +kernel
theorem dX10_shots_61 : decode cX10_shots 61 = .ok (.aload_n 0, 1) := by decide +kernel
theorem dX10_shots_62 : decode cX10_shots 62 = .ok (.getfield 35, 3) := by decide +kernel
theorem dX10_shots_65 : decode cX10_shots 65 = .ok (.iload_n 2, 1) := by decide +kernel
theorem dX10_shots_66 : decode cX10_shots 66 = .ok (.invokevirtual 146, 3) := by decide +kernel
theorem dX10_shots_69 : decode cX10_shots 69 = .ok (.aload_n 0, 1) := by decide +kernel
theorem dX10_shots_70 : decode cX10_shots 70 = .ok (.getfield 63, 3) := by decide +kernel
theorem dX10_shots_73 : decode cX10_shots 73 = .ok (.iload_n 1, 1) := by decide +kernel
theorem dX10_shots_74 : decode cX10_shots 74 = .ok (.iload_n 3, 1) := by decide +kernel
theorem dX10_shots_75 : decode cX10_shots 75 = .ok (.invokevirtual 249, 3) := by decide +kernel
theorem dX10_shots_78 : decode cX10_shots 78 = .ok (.aload_n 0, 1) := by decide +kernel
theorem dX10_shots_79 : decode cX10_shots 79 = .ok (.getfield 63, 3) := by decide +kernel
theorem dX10_shots_82 : decode cX10_shots 82 = .ok (.aload_n 0, 1) := by decide +kernel
theorem dX10_shots_83 : decode cX10_shots 83 = .ok (.getfield 35, 3) := by decide +kernel
theorem dX10_shots_86 : decode cX10_shots 86 = .ok (.iload 4, 2) := by decide +kernel
theorem dX10_shots_88 : decode cX10_shots 88 = .ok (.invokevirtual 149, 3) := by decide +kernel
theorem dX10_shots_91 : decode cX10_shots 91 = .ok (.iload 5, 2) := by decide +kernel
theorem dX10_shots_93 : decode cX10_shots 93 = .ok (.iload_n 3, 1) := by decide +kernel
theorem dX10_shots_94 : decode cX10_shots 94 = .ok (.aload_n 0, 1) := by decide +kernel
theorem dX10_shots_95 : decode cX10_shots 95 = .ok (.getfield 73, 3) := by decide +kernel
theorem dX10_shots_98 : decode cX10_shots 98 = .ok (.invokevirtual 253, 3) := by decide +kernel
theorem dX10_shots_101 : decode cX10_shots 101 = .ok (.iload 6, 2) := by decide +kernel
theorem dX10_shots_103 : decode cX10_shots 103 = .ok (.ifCond .ne 13, 3) := by decide +kernel
theorem dX10_shots_106 : decode cX10_shots 106 = .ok (.aload_n 0, 1) := by decide +kernel
theorem dX10_shots_107 : decode cX10_shots 107 = .ok (.getfield 63, 3) := by decide +kernel
theorem dX10_shots_110 : decode cX10_shots 110 = .ok (.invokevirtual 257, 3) := by decide +kernel
theorem dX10_shots_113 : decode cX10_shots 113 = .ok (.goto 10, 3) := by decide +kernel
theorem dX10_shots_116 : decode cX10_shots 116 = .ok (.aload_n 0, 1) := by decide +kernel
theorem dX10_shots_117 : decode cX10_shots 117 = .ok (.getfield 63, 3) := by decide +kernel
theorem dX10_shots_120 : decode cX10_shots 120 = .ok (.invokevirtual 261, 3) := by decide +kernel
theorem dX10_shots_123 : decode cX10_shots 123 = .ok (.lreturn, 1) := by decide +kernel
theorem dX10_plates_0 : decode cX10_plates 0 = .ok (.iload_n 2, 1) := by decide +kernel
theorem dX10_plates_1 : decode cX10_plates 1 = .ok (.invokestatic 110, 3) := by decide +kernel
theorem dX10_plates_4 : decode cX10_plates 4 = .ok (.ifCond .eq 14, 3) := by decide +kernel
theorem dX10_plates_7 : decode cX10_plates 7 = .ok (.aload_n 0, 1) := by decide +kernel
theorem dX10_plates_8 : decode cX10_plates 8 = .ok (.getfield 10, 3) := by decide +kernel
theorem dX10_plates_11 : decode cX10_plates 11 = .ok (.iload_n 3, 1) := by decide +kernel
theorem dX10_plates_12 : decode cX10_plates 12 = .ok (.invokevirtual 99, 3) := by decide +kernel
theorem dX10_plates_15 : decode cX10_plates 15 = .ok (.ifCond .ne 6, 3) := by decide +kernel
theorem dX10_plates_18 : decode cX10_plates 18 = .ok (.bipush (-2), 2) := by decide +kernel
theorem dX10_plates_20 : decode cX10_plates 20 = .ok (.ireturn, 1) := by decide +kernel
theorem dX10_plates_21 : decode cX10_plates 21 = .ok (.aload_n 0, 1) := by decide +kernel
theorem dX10_plates_22 : decode cX10_plates 22 = .ok (.getfield 35, 3) := by decide +kernel
theorem dX10_plates_25 : decode cX10_plates 25 = .ok (.invokevirtual 171, 3) := by decide +kernel
theorem dX10_plates_28 : decode cX10_plates 28 = .ok (.iload_n 1, 1) := by decide +kernel
theorem dX10_plates_29 : decode cX10_plates 29 = .ok (.istore 4, 2) := by decide +kernel
theorem dX10_plates_31 : decode cX10_plates 31 = .ok (.iconst 0, 1) := by decide +kernel
theorem dX10_plates_32 : decode cX10_plates 32 = .ok (.istore 5, 2) := by decide +kernel
theorem dX10_plates_34 : decode cX10_plates 34 = .ok (.iload 5, 2) := by decide +kernel
theorem dX10_plates_36 : decode cX10_plates 36 = .ok (.iload_n 2, 1) := by decide +kernel
theorem dX10_plates_37 : decode cX10_plates 37 = .ok (.if_icmp .gt 73, 3) := by decide +kernel
theorem dX10_plates_40 : decode cX10_plates 40 = .ok (.aload_n 0, 1) := by decide +kernel
theorem dX10_plates_41 : decode cX10_plates 41 = .ok (.getfield 35, 3) := by decide +kernel
theorem dX10_plates_44 : decode cX10_plates 44 = .ok (.iload 5, 2) := by decide +kernel
theorem dX10_plates_46 : decode cX10_plates 46 = .ok (.invokevirtual 191, 3) := by decide +kernel
theorem dX10_plates_49 : decode cX10_plates 49 = .ok (.iload 4, 2) := by decide +kernel
theorem dX10_plates_51 : decode cX10_plates 51 = .ok (.invokestatic 264, 3) := by decide +kernel
theorem dX10_plates_54 : decode cX10_plates 54 = .ok (.istore 4, 2) := by decide +kernel
theorem dX10_plates_56 : decode cX10_plates 56 = .ok (.iload 4, 2) := by decide +kernel
theorem dX10_plates_58 : decode cX10_plates 58 = .ok (.aload_n 0, 1) := by decide +kernel
theorem dX10_plates_59 : decode cX10_plates 59 = .ok (.getfield 10, 3) := by decide +kernel
theorem dX10_plates_62 : decode cX10_plates 62 = .ok (.invokevirtual 190, 3) := by decide +kernel
theorem dX10_plates_65 : decode cX10_plates 65 = .ok (.invokestatic 267, 3) := by decide +kernel
theorem dX10_plates_68 : decode cX10_plates 68 = .ok (.istore 6, 2) := by decide +kernel
theorem dX10_plates_70 : decode cX10_plates 70 = .ok (.iload 4, 2) := by decide +kernel
theorem dX10_plates_72 : decode cX10_plates 72 = .ok (.invokestatic 264, 3) := by decide +kernel
theorem dX10_plates_75 : decode cX10_plates 75 = .ok (.istore 4, 2) := by decide +kernel
theorem dX10_plates_77 : decode cX10_plates 77 = .ok (.aload_n 0, 1) := by decide +kernel
theorem dX10_plates_78 : decode cX10_plates 78 = .ok (.getfield 35, 3) := by decide +kernel
theorem dX10_plates_81 : decode cX10_plates 81 = .ok (.iload 6, 2) := by decide +kernel
theorem dX10_plates_83 : decode cX10_plates 83 = .ok (.iload 4, 2) := by decide +kernel
theorem dX10_plates_85 : decode cX10_plates 85 = .ok (.bipush 9, 2) := by decide +kernel
theorem dX10_plates_87 : decode cX10_plates 87 = .ok (.invokestatic 267, 3) := by decide +kernel
theorem dX10_plates_90 : decode cX10_plates 90 = .ok (.iconst 1, 1) := by decide +kernel
theorem dX10_plates_91 : decode cX10_plates 91 = .ok (.iadd, 1) := by decide +kernel
theorem dX10_plates_92 : decode cX10_plates 92 = .ok (.invokevirtual 270, 3) := by decide +kernel
theorem dX10_plates_95 : decode cX10_plates 95 = .ok (.aload_n 0, 1) := by decide +kernel
theorem dX10_plates_96 : decode cX10_plates 96 = .ok (.getfield 35, 3) := by decide +kernel
theorem dX10_plates_99 : decode cX10_plates 99 = .ok (.iload 5, 2) := by decide +kernel
theorem dX10_plates_101 : decode cX10_plates 101 = .ok (.invokevirtual 194, 3) := by decide +kernel
theorem dX10_plates_104 : decode cX10_plates 104 = .ok (.iinc 5 1, 3) := by decide +kernel
theorem dX10_plates_107 : decode cX10_plates 107 = .ok (.goto (-73), 3) := by decide +kernel
theorem dX10_plates_110 : decode cX10_plates 110 = .ok (.aload_n 0, 1) := by decide +kernel
theorem dX10_plates_111 : decode cX10_plates 111 = .ok (.getfield 35, 3) := by decide +kernel
theorem dX10_plates_114 : decode cX10_plates 114 = .ok (.iload_n 3, 1) := by decide +kernel
theorem dX10_plates_115 : decode cX10_plates 115 = .ok (.invokevirtual 149, 3) := by decide +kernel
theorem dX10_plates_118 : decode cX10_plates 118 = .ok (.ireturn, 1) := by decide +kernel
theorem dX10_sheet_0 : decode cX10_sheet 0 = .ok (.iload_n 1, 1) := by decide +kernel
theorem dX10_sheet_1 : decode cX10_sheet 1 = .ok (.invokestatic 221, 3) := by decide +kernel
theorem dX10_sheet_4 : decode cX10_sheet 4 = .ok (.ifCond .eq 16, 3) := by decide +kernel
theorem dX10_sheet_7 : decode cX10_sheet 7 = .ok (.iload_n 2, 1) := by decide +kernel
theorem dX10_sheet_8 : decode cX10_sheet 8 = .ok (.invokestatic 273, 3) := by decide +kernel
theorem dX10_sheet_11 : decode cX10_sheet 11 = .ok (.ifCond .eq 9, 3) := by decide +kernel
theorem dX10_sheet_14 : decode cX10_sheet 14 = .ok (.iload_n 3, 1) := by decide +kernel
theorem dX10_sheet_15 : decode cX10_sheet 15 = .ok (.bipush 60, 2) := by decide +kernel
theorem dX10_sheet_17 : decode cX10_sheet 17 = .ok (.if_icmp .le 6, 3) := by decide +kernel
theorem dX10_sheet_20 : decode cX10_sheet 20 = .ok (.bipush (-2), 2) := by decide +kernel
theorem dX10_sheet_22 : decode cX10_sheet 22 = .ok (.ireturn, 1) := by decide +kernel
theorem dX10_sheet_23 : decode cX10_sheet 23 = .ok (.iload_n 3, 1) := by decide +kernel
theorem dX10_sheet_24 : decode cX10_sheet 24 = .ok (.ifCond .ge 9, 3) := by decide +kernel
theorem dX10_sheet_27 : decode cX10_sheet 27 = .ok (.aload_n 0, 1) := by decide +kernel
theorem dX10_sheet_28 : decode cX10_sheet 28 = .ok (.iconst 5, 1) := by decide +kernel
theorem dX10_sheet_29 : decode cX10_sheet 29 = .ok (.invokevirtual 227, 3) := by decide +kernel
theorem dX10_sheet_32 : decode cX10_sheet 32 = .ok (.ireturn, 1) := by decide +kernel
theorem dX10_sheet_33 : decode cX10_sheet 33 = .ok (.aload_n 0, 1) := by decide +kernel
theorem dX10_sheet_34 : decode cX10_sheet 34 = .ok (.getfield 69, 3) := by decide +kernel
theorem dX10_sheet_37 : decode cX10_sheet 37 = .ok (.iload_n 1, 1) := by decide +kernel
theorem dX10_sheet_38 : decode cX10_sheet 38 = .ok (.aaload, 1) := by decide +kernel
theorem dX10_sheet_39 : decode cX10_sheet 39 = .ok (.iload_n 2, 1) := by decide +kernel
theorem dX10_sheet_40 : decode cX10_sheet 40 = .ok (.iload_n 3, 1) := by decide +kernel
theorem dX10_sheet_41 : decode cX10_sheet 41 = .ok (.invokevirtual 276, 3) := by decide +kernel
theorem dX10_sheet_44 : decode cX10_sheet 44 = .ok (.iload_n 3, 1) := by decide +kernel
theorem dX10_sheet_45 : decode cX10_sheet 45 = .ok (.ireturn, 1) := by decide +kernel
theorem dX10_lose_0 : decode cX10_lose 0 = .ok (.iload_n 1, 1) := by decide +kernel
theorem dX10_lose_1 : decode cX10_lose 1 = .ok (.invokestatic 221, 3) := by decide +kernel
theorem dX10_lose_4 : decode cX10_lose 4 = .ok (.ifCond .ne 6, 3) := by decide +kernel
theorem dX10_lose_7 : decode cX10_lose 7 = .ok (.bipush (-2), 2) := by decide +kernel
theorem dX10_lose_9 : decode cX10_lose 9 = .ok (.ireturn, 1) := by decide +kernel
theorem dX10_lose_10 : decode cX10_lose 10 = .ok (.aload_n 0, 1) := by decide +kernel
theorem dX10_lose_11 : decode cX10_lose 11 = .ok (.getfield 69, 3) := by decide +kernel
theorem dX10_lose_14 : decode cX10_lose 14 = .ok (.iload_n 1, 1) := by decide +kernel
theorem dX10_lose_15 : decode cX10_lose 15 = .ok (.aaload, 1) := by decide +kernel
theorem dX10_lose_16 : decode cX10_lose 16 = .ok (.invokevirtual 224, 3) := by decide +kernel
theorem dX10_lose_19 : decode cX10_lose 19 = .ok (.ifCond .eq 9, 3) := by decide +kernel
theorem dX10_lose_22 : decode cX10_lose 22 = .ok (.aload_n 0, 1) := by decide +kernel
theorem dX10_lose_23 : decode cX10_lose 23 = .ok (.iconst 1, 1) := by decide +kernel
theorem dX10_lose_24 : decode cX10_lose 24 = .ok (.invokevirtual 227, 3) := by decide +kernel
theorem dX10_lose_27 : decode cX10_lose 27 = .ok (.ireturn, 1) := by decide +kernel
theorem dX10_lose_28 : decode cX10_lose 28 = .ok (.aload_n 0, 1) := by decide +kernel
theorem dX10_lose_29 : decode cX10_lose 29 = .ok (.getfield 69, 3) := by decide +kernel
theorem dX10_lose_32 : decode cX10_lose 32 = .ok (.iload_n 1, 1) := by decide +kernel
theorem dX10_lose_33 : decode cX10_lose 33 = .ok (.aaload, 1) := by decide +kernel
theorem dX10_lose_34 : decode cX10_lose 34 = .ok (.invokevirtual 230, 3) := by decide +kernel
theorem dX10_lose_37 : decode cX10_lose 37 = .ok (.istore_n 2, 1) := by decide +kernel
theorem dX10_lose_38 : decode cX10_lose 38 = .ok (.aload_n 0, 1) := by decide +kernel
theorem dX10_lose_39 : decode cX10_lose 39 = .ok (.getfield 69, 3) := by decide +kernel
theorem dX10_lose_42 : decode cX10_lose 42 = .ok (.iload_n 1, 1) := by decide +kernel
theorem dX10_lose_43 : decode cX10_lose 43 = .ok (.aaload, 1) := by decide +kernel
theorem dX10_lose_44 : decode cX10_lose 44 = .ok (.invokevirtual 279, 3) := by decide +kernel
theorem dX10_lose_47 : decode cX10_lose 47 = .ok (.iload_n 2, 1) := by decide +kernel
theorem dX10_lose_48 : decode cX10_lose 48 = .ok (.ireturn, 1) := by decide +kernel
theorem dX10_lay_0 : decode cX10_lay 0 = .ok (.iload_n 1, 1) := by decide +kernel
theorem dX10_lay_1 : decode cX10_lay 1 = .ok (.invokestatic 221, 3) := by decide +kernel
theorem dX10_lay_4 : decode cX10_lay 4 = .ok (.ifCond .eq 10, 3) := by decide +kernel
theorem dX10_lay_7 : decode cX10_lay 7 = .ok (.iload_n 2, 1) := by decide +kernel
theorem dX10_lay_8 : decode cX10_lay 8 = .ok (.invokestatic 273, 3) := by decide +kernel
theorem dX10_lay_11 : decode cX10_lay 11 = .ok (.ifCond .ne 6, 3) := by decide +kernel
theorem dX10_lay_14 : decode cX10_lay 14 = .ok (.bipush (-2), 2) := by decide +kernel
theorem dX10_lay_16 : decode cX10_lay 16 = .ok (.ireturn, 1) := by decide +kernel
theorem dX10_lay_17 : decode cX10_lay 17 = .ok (.aload_n 0, 1) := by decide +kernel
theorem dX10_lay_18 : decode cX10_lay 18 = .ok (.getfield 69, 3) := by decide +kernel
theorem dX10_lay_21 : decode cX10_lay 21 = .ok (.iload_n 1, 1) := by decide +kernel
theorem dX10_lay_22 : decode cX10_lay 22 = .ok (.aaload, 1) := by decide +kernel
theorem dX10_lay_23 : decode cX10_lay 23 = .ok (.iload_n 2, 1) := by decide +kernel
theorem dX10_lay_24 : decode cX10_lay 24 = .ok (.iload_n 3, 1) := by decide +kernel
theorem dX10_lay_25 : decode cX10_lay 25 = .ok (.invokevirtual 282, 3) := by decide +kernel
theorem dX10_lay_28 : decode cX10_lay 28 = .ok (.istore 5, 2) := by decide +kernel
theorem dX10_lay_30 : decode cX10_lay 30 = .ok (.iload 5, 2) := by decide +kernel
theorem dX10_lay_32 : decode cX10_lay 32 = .ok (.ifCond .eq 10, 3) := by decide +kernel
theorem dX10_lay_35 : decode cX10_lay 35 = .ok (.aload_n 0, 1) := by decide +kernel
theorem dX10_lay_36 : decode cX10_lay 36 = .ok (.iload 5, 2) := by decide +kernel
theorem dX10_lay_38 : decode cX10_lay 38 = .ok (.invokevirtual 227, 3) := by decide +kernel
theorem dX10_lay_41 : decode cX10_lay 41 = .ok (.ireturn, 1) := by decide +kernel
theorem dX10_lay_42 : decode cX10_lay 42 = .ok (.aload_n 0, 1) := by decide +kernel
theorem dX10_lay_43 : decode cX10_lay 43 = .ok (.getfield 69, 3) := by decide +kernel
theorem dX10_lay_46 : decode cX10_lay 46 = .ok (.iload_n 1, 1) := by decide +kernel
theorem dX10_lay_47 : decode cX10_lay 47 = .ok (.aaload, 1) := by decide +kernel
theorem dX10_lay_48 : decode cX10_lay 48 = .ok (.iload_n 3, 1) := by decide +kernel
theorem dX10_lay_49 : decode cX10_lay 49 = .ok (.iload 4, 2) := by decide +kernel
theorem dX10_lay_51 : decode cX10_lay 51 = .ok (.invokevirtual 285, 3) := by decide +kernel
theorem dX10_lay_54 : decode cX10_lay 54 = .ok (.iconst 1, 1) := by decide +kernel
theorem dX10_lay_55 : decode cX10_lay 55 = .ok (.ireturn, 1) := by decide +kernel
theorem dX10_get_0 : decode cX10_get 0 = .ok (.iload_n 1, 1) := by decide +kernel
theorem dX10_get_1 : decode cX10_get 1 = .ok (.invokestatic 221, 3) := by decide +kernel
theorem dX10_get_4 : decode cX10_get 4 = .ok (.ifCond .eq 10, 3) := by decide +kernel
theorem dX10_get_7 : decode cX10_get 7 = .ok (.iload_n 2, 1) := by decide +kernel
theorem dX10_get_8 : decode cX10_get 8 = .ok (.invokestatic 273, 3) := by decide +kernel
theorem dX10_get_11 : decode cX10_get 11 = .ok (.ifCond .ne 7, 3) := by decide +kernel
theorem dX10_get_14 : decode cX10_get 14 = .ok (.ldc_w 290, 3) := by decide +kernel
theorem dX10_get_17 : decode cX10_get 17 = .ok (.ireturn, 1) := by decide +kernel
theorem dX10_get_18 : decode cX10_get 18 = .ok (.aload_n 0, 1) := by decide +kernel
theorem dX10_get_19 : decode cX10_get 19 = .ok (.getfield 69, 3) := by decide +kernel
theorem dX10_get_22 : decode cX10_get 22 = .ok (.iload_n 1, 1) := by decide +kernel
theorem dX10_get_23 : decode cX10_get 23 = .ok (.aaload, 1) := by decide +kernel
theorem dX10_get_24 : decode cX10_get 24 = .ok (.iload_n 2, 1) := by decide +kernel
theorem dX10_get_25 : decode cX10_get 25 = .ok (.iload_n 3, 1) := by decide +kernel
theorem dX10_get_26 : decode cX10_get 26 = .ok (.invokevirtual 282, 3) := by decide +kernel
theorem dX10_get_29 : decode cX10_get 29 = .ok (.istore 4, 2) := by decide +kernel
theorem dX10_get_31 : decode cX10_get 31 = .ok (.iload 4, 2) := by decide +kernel
theorem dX10_get_33 : decode cX10_get 33 = .ok (.ifCond .eq 13, 3) := by decide +kernel
theorem dX10_get_36 : decode cX10_get 36 = .ok (.aload_n 0, 1) := by decide +kernel
theorem dX10_get_37 : decode cX10_get 37 = .ok (.iload 4, 2) := by decide +kernel
theorem dX10_get_39 : decode cX10_get 39 = .ok (.putfield 77, 3) := by decide +kernel
theorem dX10_get_42 : decode cX10_get 42 = .ok (.ldc_w 290, 3) := by decide +kernel
theorem dX10_get_45 : decode cX10_get 45 = .ok (.ireturn, 1) := by decide +kernel
theorem dX10_get_46 : decode cX10_get 46 = .ok (.aload_n 0, 1) := by decide +kernel
theorem dX10_get_47 : decode cX10_get 47 = .ok (.getfield 69, 3) := by decide +kernel
theorem dX10_get_50 : decode cX10_get 50 = .ok (.iload_n 1, 1) := by decide +kernel
theorem dX10_get_51 : decode cX10_get 51 = .ok (.aaload, 1) := by decide +kernel
theorem dX10_get_52 : decode cX10_get 52 = .ok (.iload_n 3, 1) := by decide +kernel
theorem dX10_get_53 : decode cX10_get 53 = .ok (.invokevirtual 231, 3) := by decide +kernel
theorem dX10_get_56 : decode cX10_get 56 = .ok (.ireturn, 1) := by decide +kernel
theorem dX10_copy_0 : decode cX10_copy 0 = .ok (.iload_n 1, 1) := by decide +kernel
theorem dX10_copy_1 : decode cX10_copy 1 = .ok (.invokestatic 221, 3) := by decide +kernel
theorem dX10_copy_4 : decode cX10_copy 4 = .ok (.ifCond .eq 10, 3) := by decide +kernel
theorem dX10_copy_7 : decode cX10_copy 7 = .ok (.iload_n 3, 1) := by decide +kernel
theorem dX10_copy_8 : decode cX10_copy 8 = .ok (.invokestatic 221, 3) := by decide +kernel
theorem dX10_copy_11 : decode cX10_copy 11 = .ok (.ifCond .ne 6, 3) := by decide +kernel
theorem dX10_copy_14 : decode cX10_copy 14 = .ok (.bipush (-2), 2) := by decide +kernel
theorem dX10_copy_16 : decode cX10_copy 16 = .ok (.ireturn, 1) := by decide +kernel
theorem dX10_copy_17 : decode cX10_copy 17 = .ok (.aload_n 0, 1) := by decide +kernel
theorem dX10_copy_18 : decode cX10_copy 18 = .ok (.getfield 69, 3) := by decide +kernel
theorem dX10_copy_21 : decode cX10_copy 21 = .ok (.iload_n 1, 1) := by decide +kernel
theorem dX10_copy_22 : decode cX10_copy 22 = .ok (.aaload, 1) := by decide +kernel
theorem dX10_copy_23 : decode cX10_copy 23 = .ok (.astore 6, 2) := by decide +kernel
theorem dX10_copy_25 : decode cX10_copy 25 = .ok (.aload_n 0, 1) := by decide +kernel
theorem dX10_copy_26 : decode cX10_copy 26 = .ok (.getfield 69, 3) := by decide +kernel
theorem dX10_copy_29 : decode cX10_copy 29 = .ok (.iload_n 3, 1) := by decide +kernel
theorem dX10_copy_30 : decode cX10_copy 30 = .ok (.aaload, 1) := by decide +kernel
theorem dX10_copy_31 : decode cX10_copy 31 = .ok (.astore 7, 2) := by decide +kernel
theorem dX10_copy_33 : decode cX10_copy 33 = .ok (.aload 6, 2) := by decide +kernel
theorem dX10_copy_35 : decode cX10_copy 35 = .ok (.invokevirtual 224, 3) := by decide +kernel
theorem dX10_copy_38 : decode cX10_copy 38 = .ok (.ifCond .ne 11, 3) := by decide +kernel
theorem dX10_copy_41 : decode cX10_copy 41 = .ok (.aload 7, 2) := by decide +kernel
theorem dX10_copy_43 : decode cX10_copy 43 = .ok (.invokevirtual 224, 3) := by decide +kernel
theorem dX10_copy_46 : decode cX10_copy 46 = .ok (.ifCond .eq 9, 3) := by decide +kernel
theorem dX10_copy_49 : decode cX10_copy 49 = .ok (.aload_n 0, 1) := by decide +kernel
theorem dX10_copy_50 : decode cX10_copy 50 = .ok (.iconst 1, 1) := by decide +kernel
theorem dX10_copy_51 : decode cX10_copy 51 = .ok (.invokevirtual 227, 3) := by decide +kernel
theorem dX10_copy_54 : decode cX10_copy 54 = .ok (.ireturn, 1) := by decide +kernel
theorem dX10_copy_55 : decode cX10_copy 55 = .ok (.aload 7, 2) := by decide +kernel
theorem dX10_copy_57 : decode cX10_copy 57 = .ok (.aload 6, 2) := by decide +kernel
theorem dX10_copy_59 : decode cX10_copy 59 = .ok (.invokevirtual 291, 3) := by decide +kernel
theorem dX10_copy_62 : decode cX10_copy 62 = .ok (.ifCond .ne 9, 3) := by decide +kernel
theorem dX10_copy_65 : decode cX10_copy 65 = .ok (.aload_n 0, 1) := by decide +kernel
theorem dX10_copy_66 : decode cX10_copy 66 = .ok (.iconst 4, 1) := by decide +kernel
theorem dX10_copy_67 : decode cX10_copy 67 = .ok (.invokevirtual 227, 3) := by decide +kernel
theorem dX10_copy_70 : decode cX10_copy 70 = .ok (.ireturn, 1) := by decide +kernel
theorem dX10_copy_71 : decode cX10_copy 71 = .ok (.aload 6, 2) := by decide +kernel
theorem dX10_copy_73 : decode cX10_copy 73 = .ok (.iload_n 2, 1) := by decide +kernel
theorem dX10_copy_74 : decode cX10_copy 74 = .ok (.iload 5, 2) := by decide +kernel
theorem dX10_copy_76 : decode cX10_copy 76 = .ok (.invokevirtual 295, 3) := by decide +kernel
theorem dX10_copy_79 : decode cX10_copy 79 = .ok (.ifCond .eq 15, 3) := by decide +kernel
theorem dX10_copy_82 : decode cX10_copy 82 = .ok (.aload 7, 2) := by decide +kernel
theorem dX10_copy_84 : decode cX10_copy 84 = .ok (.iload 4, 2) := by decide +kernel
theorem dX10_copy_86 : decode cX10_copy 86 = .ok (.iload 5, 2) := by decide +kernel
theorem dX10_copy_88 : decode cX10_copy 88 = .ok (.invokevirtual 295, 3) := by decide +kernel
theorem dX10_copy_91 : decode cX10_copy 91 = .ok (.ifCond .ne 9, 3) := by decide +kernel
theorem dX10_copy_94 : decode cX10_copy 94 = .ok (.aload_n 0, 1) := by decide +kernel
theorem dX10_copy_95 : decode cX10_copy 95 = .ok (.iconst 2, 1) := by decide +kernel
theorem dX10_copy_96 : decode cX10_copy 96 = .ok (.invokevirtual 227, 3) := by decide +kernel
theorem dX10_copy_99 : decode cX10_copy 99 = .ok (.ireturn, 1) := by decide +kernel
theorem dX10_copy_100 : decode cX10_copy 100 = .ok (.aload 7, 2) := by decide +kernel
theorem dX10_copy_102 : decode cX10_copy 102 = .ok (.iload 4, 2) := by decide +kernel
theorem dX10_copy_104 : decode cX10_copy 104 = .ok (.aload 6, 2) := by decide +kernel
theorem dX10_copy_106 : decode cX10_copy 106 = .ok (.iload_n 2, 1) := by decide +kernel
theorem dX10_copy_107 : decode cX10_copy 107 = .ok (.iload 5, 2) := by decide +kernel
theorem dX10_copy_109 : decode cX10_copy 109 = .ok (.invokevirtual 298, 3) := by decide +kernel
theorem dX10_copy_112 : decode cX10_copy 112 = .ok (.iconst 1, 1) := by decide +kernel
theorem dX10_copy_113 : decode cX10_copy 113 = .ok (.ireturn, 1) := by decide +kernel
theorem dX10_write_0 : decode cX10_write 0 = .ok (.iload_n 1, 1) := by decide +kernel
theorem dX10_write_1 : decode cX10_write 1 = .ok (.invokestatic 110, 3) := by decide +kernel
theorem dX10_write_4 : decode cX10_write 4 = .ok (.ifCond .eq 10, 3) := by decide +kernel
theorem dX10_write_7 : decode cX10_write 7 = .ok (.iload_n 2, 1) := by decide +kernel
theorem dX10_write_8 : decode cX10_write 8 = .ok (.invokestatic 221, 3) := by decide +kernel
theorem dX10_write_11 : decode cX10_write 11 = .ok (.ifCond .ne 6, 3) := by decide +kernel
theorem dX10_write_14 : decode cX10_write 14 = .ok (.bipush (-2), 2) := by decide +kernel
theorem dX10_write_16 : decode cX10_write 16 = .ok (.ireturn, 1) := by decide +kernel
theorem dX10_write_17 : decode cX10_write 17 = .ok (.aload_n 0, 1) := by decide +kernel
theorem dX10_write_18 : decode cX10_write 18 = .ok (.getfield 69, 3) := by decide +kernel
theorem dX10_write_21 : decode cX10_write 21 = .ok (.iload_n 2, 1) := by decide +kernel
theorem dX10_write_22 : decode cX10_write 22 = .ok (.aaload, 1) := by decide +kernel
theorem dX10_write_23 : decode cX10_write 23 = .ok (.astore_n 3, 1) := by decide +kernel
theorem dX10_write_24 : decode cX10_write 24 = .ok (.aload_n 3, 1) := by decide +kernel
theorem dX10_write_25 : decode cX10_write 25 = .ok (.invokevirtual 224, 3) := by decide +kernel
theorem dX10_write_28 : decode cX10_write 28 = .ok (.ifCond .eq 9, 3) := by decide +kernel
theorem dX10_write_31 : decode cX10_write 31 = .ok (.aload_n 0, 1) := by decide +kernel
theorem dX10_write_32 : decode cX10_write 32 = .ok (.iconst 1, 1) := by decide +kernel
theorem dX10_write_33 : decode cX10_write 33 = .ok (.invokevirtual 227, 3) := by decide +kernel
theorem dX10_write_36 : decode cX10_write 36 = .ok (.ireturn, 1) := by decide +kernel
theorem dX10_write_37 : decode cX10_write 37 = .ok (.aload_n 0, 1) := by decide +kernel
theorem dX10_write_38 : decode cX10_write 38 = .ok (.getfield 35, 3) := by decide +kernel
theorem dX10_write_41 : decode cX10_write 41 = .ok (.iload_n 1, 1) := by decide +kernel
theorem dX10_write_42 : decode cX10_write 42 = .ok (.invokevirtual 146, 3) := by decide +kernel
theorem dX10_write_45 : decode cX10_write 45 = .ok (.aload_n 3, 1) := by decide +kernel
theorem dX10_write_46 : decode cX10_write 46 = .ok (.invokevirtual 230, 3) := by decide +kernel
theorem dX10_write_49 : decode cX10_write 49 = .ok (.aload_n 0, 1) := by decide +kernel
theorem dX10_write_50 : decode cX10_write 50 = .ok (.getfield 10, 3) := by decide +kernel
theorem dX10_write_53 : decode cX10_write 53 = .ok (.invokevirtual 190, 3) := by decide +kernel
theorem dX10_write_56 : decode cX10_write 56 = .ok (.invokestatic 302, 3) := by decide +kernel
theorem dX10_write_59 : decode cX10_write 59 = .ok (.istore 4, 2) := by decide +kernel
theorem dX10_write_61 : decode cX10_write 61 = .ok (.iconst 0, 1) := by decide +kernel
theorem dX10_write_62 : decode cX10_write 62 = .ok (.istore 5, 2) := by decide +kernel
theorem dX10_write_64 : decode cX10_write 64 = .ok (.iload 5, 2) := by decide +kernel
theorem dX10_write_66 : decode cX10_write 66 = .ok (.iload 4, 2) := by decide +kernel
theorem dX10_write_68 : decode cX10_write 68 = .ok (.if_icmp .ge 24, 3) := by decide +kernel
theorem dX10_write_71 : decode cX10_write 71 = .ok (.aload_n 3, 1) := by decide +kernel
theorem dX10_write_72 : decode cX10_write 72 = .ok (.iload 5, 2) := by decide +kernel
theorem dX10_write_74 : decode cX10_write 74 = .ok (.aload_n 0, 1) := by decide +kernel
theorem dX10_write_75 : decode cX10_write 75 = .ok (.getfield 35, 3) := by decide +kernel
theorem dX10_write_78 : decode cX10_write 78 = .ok (.iload 5, 2) := by decide +kernel
theorem dX10_write_80 : decode cX10_write 80 = .ok (.invokevirtual 149, 3) := by decide +kernel
theorem dX10_write_83 : decode cX10_write 83 = .ok (.invokevirtual 285, 3) := by decide +kernel
theorem dX10_write_86 : decode cX10_write 86 = .ok (.iinc 5 1, 3) := by decide +kernel
theorem dX10_write_89 : decode cX10_write 89 = .ok (.goto (-25), 3) := by decide +kernel
theorem dX10_write_92 : decode cX10_write 92 = .ok (.iload 4, 2) := by decide +kernel
theorem dX10_write_94 : decode cX10_write 94 = .ok (.ireturn, 1) := by decide +kernel
theorem dX10_count_0 : decode cX10_count 0 = .ok (.iload_n 1, 1) := by decide +kernel
theorem dX10_count_1 : decode cX10_count 1 = .ok (.tableswitch 117 0 8 #[51, 59, 67, 75, 83, 91, 96, 104, 112], 51) := by decide +kernel
theorem dX10_count_52 : decode cX10_count 52 = .ok (.aload_n 0, 1) := by decide +kernel
theorem dX10_count_53 : decode cX10_count 53 = .ok (.getfield 10, 3) := by decide +kernel
theorem dX10_count_56 : decode cX10_count 56 = .ok (.invokevirtual 190, 3) := by decide +kernel
theorem dX10_count_59 : decode cX10_count 59 = .ok (.ireturn, 1) := by decide +kernel
theorem dX10_count_60 : decode cX10_count 60 = .ok (.aload_n 0, 1) := by decide +kernel
theorem dX10_count_61 : decode cX10_count 61 = .ok (.getfield 10, 3) := by decide +kernel
theorem dX10_count_64 : decode cX10_count 64 = .ok (.invokevirtual 85, 3) := by decide +kernel
theorem dX10_count_67 : decode cX10_count 67 = .ok (.ireturn, 1) := by decide +kernel
theorem dX10_count_68 : decode cX10_count 68 = .ok (.aload_n 0, 1) := by decide +kernel
theorem dX10_count_69 : decode cX10_count 69 = .ok (.getfield 19, 3) := by decide +kernel
theorem dX10_count_72 : decode cX10_count 72 = .ok (.invokevirtual 123, 3) := by decide +kernel
theorem dX10_count_75 : decode cX10_count 75 = .ok (.ireturn, 1) := by decide +kernel
theorem dX10_count_76 : decode cX10_count 76 = .ok (.aload_n 0, 1) := by decide +kernel
theorem dX10_count_77 : decode cX10_count 77 = .ok (.getfield 26, 3) := by decide +kernel
theorem dX10_count_80 : decode cX10_count 80 = .ok (.invokevirtual 129, 3) := by decide +kernel
theorem dX10_count_83 : decode cX10_count 83 = .ok (.ireturn, 1) := by decide +kernel
theorem dX10_count_84 : decode cX10_count 84 = .ok (.aload_n 0, 1) := by decide +kernel
theorem dX10_count_85 : decode cX10_count 85 = .ok (.getfield 56, 3) := by decide +kernel
theorem dX10_count_88 : decode cX10_count 88 = .ok (.invokevirtual 217, 3) := by decide +kernel
theorem dX10_count_91 : decode cX10_count 91 = .ok (.ireturn, 1) := by decide +kernel
theorem dX10_count_92 : decode cX10_count 92 = .ok (.aload_n 0, 1) := by decide +kernel
theorem dX10_count_93 : decode cX10_count 93 = .ok (.getfield 73, 3) := by decide +kernel
theorem dX10_count_96 : decode cX10_count 96 = .ok (.ireturn, 1) := by decide +kernel
theorem dX10_count_97 : decode cX10_count 97 = .ok (.aload_n 0, 1) := by decide +kernel
theorem dX10_count_98 : decode cX10_count 98 = .ok (.getfield 10, 3) := by decide +kernel
theorem dX10_count_101 : decode cX10_count 101 = .ok (.invokevirtual 305, 3) := by decide +kernel
theorem dX10_count_104 : decode cX10_count 104 = .ok (.ireturn, 1) := by decide +kernel
theorem dX10_count_105 : decode cX10_count 105 = .ok (.aload_n 0, 1) := by decide +kernel
theorem dX10_count_106 : decode cX10_count 106 = .ok (.getfield 10, 3) := by decide +kernel
theorem dX10_count_109 : decode cX10_count 109 = .ok (.invokevirtual 308, 3) := by decide +kernel
theorem dX10_count_112 : decode cX10_count 112 = .ok (.ireturn, 1) := by decide +kernel
theorem dX10_count_113 : decode cX10_count 113 = .ok (.aload_n 0, 1) := by decide +kernel
theorem dX10_count_114 : decode cX10_count 114 = .ok (.getfield 77, 3) := by decide +kernel
theorem dX10_count_117 : decode cX10_count 117 = .ok (.ireturn, 1) := by decide +kernel
theorem dX10_count_118 : decode cX10_count 118 = .ok (.bipush (-2), 2) := by decide +kernel
theorem dX10_count_120 : decode cX10_count 120 = .ok (.ireturn, 1) := by decide +kernel
theorem dX10_digest_0 : decode cX10_digest 0 = .ok (.ldc2_w 311, 3) := by decide +kernel
theorem dX10_digest_3 : decode cX10_digest 3 = .ok (.lstore_n 1, 1) := by decide +kernel
theorem dX10_digest_4 : decode cX10_digest 4 = .ok (.iconst 0, 1) := by decide +kernel
theorem dX10_digest_5 : decode cX10_digest 5 = .ok (.istore_n 3, 1) := by decide +kernel
theorem dX10_digest_6 : decode cX10_digest 6 = .ok (.iload_n 3, 1) := by decide +kernel
theorem dX10_digest_7 : decode cX10_digest 7 = .ok (.bipush 7, 2) := by decide +kernel
theorem dX10_digest_9 : decode cX10_digest 9 = .ok (.if_icmp .gt 20, 3) := by decide +kernel
theorem dX10_digest_12 : decode cX10_digest 12 = .ok (.lload_n 1, 1) := by decide +kernel
theorem dX10_digest_13 : decode cX10_digest 13 = .ok (.aload_n 0, 1) := by decide +kernel
theorem dX10_digest_14 : decode cX10_digest 14 = .ok (.iload_n 3, 1) := by decide +kernel
theorem dX10_digest_15 : decode cX10_digest 15 = .ok (.invokevirtual 313, 3) := by decide +kernel
theorem dX10_digest_18 : decode cX10_digest 18 = .ok (.i2l, 1) := by decide +kernel
theorem dX10_digest_19 : decode cX10_digest 19 = .ok (.invokestatic 316, 3) := by decide +kernel
theorem dX10_digest_22 : decode cX10_digest 22 = .ok (.lstore_n 1, 1) := by decide +kernel
theorem dX10_digest_23 : decode cX10_digest 23 = .ok (.iinc 3 1, 3) := by decide +kernel
theorem dX10_digest_26 : decode cX10_digest 26 = .ok (.goto (-20), 3) := by decide +kernel
theorem dX10_digest_29 : decode cX10_digest 29 = .ok (.lload_n 1, 1) := by decide +kernel
theorem dX10_digest_30 : decode cX10_digest 30 = .ok (.aload_n 0, 1) := by decide +kernel
theorem dX10_digest_31 : decode cX10_digest 31 = .ok (.invokevirtual 320, 3) := by decide +kernel
theorem dX10_digest_34 : decode cX10_digest 34 = .ok (.i2l, 1) := by decide +kernel
theorem dX10_digest_35 : decode cX10_digest 35 = .ok (.invokestatic 316, 3) := by decide +kernel
theorem dX10_digest_38 : decode cX10_digest 38 = .ok (.lstore_n 1, 1) := by decide +kernel
theorem dX10_digest_39 : decode cX10_digest 39 = .ok (.iconst 0, 1) := by decide +kernel
theorem dX10_digest_40 : decode cX10_digest 40 = .ok (.istore_n 3, 1) := by decide +kernel
theorem dX10_digest_41 : decode cX10_digest 41 = .ok (.iload_n 3, 1) := by decide +kernel
theorem dX10_digest_42 : decode cX10_digest 42 = .ok (.aload_n 0, 1) := by decide +kernel
theorem dX10_digest_43 : decode cX10_digest 43 = .ok (.getfield 10, 3) := by decide +kernel
theorem dX10_digest_46 : decode cX10_digest 46 = .ok (.invokevirtual 190, 3) := by decide +kernel
theorem dX10_digest_49 : decode cX10_digest 49 = .ok (.if_icmp .ge 16, 3) := by decide +kernel
theorem dX10_digest_52 : decode cX10_digest 52 = .ok (.aload_n 0, 1) := by decide +kernel
theorem dX10_digest_53 : decode cX10_digest 53 = .ok (.lload_n 1, 1) := by decide +kernel
theorem dX10_digest_54 : decode cX10_digest 54 = .ok (.iload_n 3, 1) := by decide +kernel
theorem dX10_digest_55 : decode cX10_digest 55 = .ok (.invokevirtual 323, 3) := by decide +kernel
theorem dX10_digest_58 : decode cX10_digest 58 = .ok (.lstore_n 1, 1) := by decide +kernel
theorem dX10_digest_59 : decode cX10_digest 59 = .ok (.iinc 3 1, 3) := by decide +kernel
theorem dX10_digest_62 : decode cX10_digest 62 = .ok (.goto (-21), 3) := by decide +kernel
theorem dX10_digest_65 : decode cX10_digest 65 = .ok (.iconst 0, 1) := by decide +kernel
theorem dX10_digest_66 : decode cX10_digest 66 = .ok (.istore_n 3, 1) := by decide +kernel
theorem dX10_digest_67 : decode cX10_digest 67 = .ok (.iload_n 3, 1) := by decide +kernel
theorem dX10_digest_68 : decode cX10_digest 68 = .ok (.aload_n 0, 1) := by decide +kernel
theorem dX10_digest_69 : decode cX10_digest 69 = .ok (.getfield 19, 3) := by decide +kernel
theorem dX10_digest_72 : decode cX10_digest 72 = .ok (.invokevirtual 123, 3) := by decide +kernel
theorem dX10_digest_75 : decode cX10_digest 75 = .ok (.if_icmp .ge 44, 3) := by decide +kernel
theorem dX10_digest_78 : decode cX10_digest 78 = .ok (.lload_n 1, 1) := by decide +kernel
theorem dX10_digest_79 : decode cX10_digest 79 = .ok (.aload_n 0, 1) := by decide +kernel
theorem dX10_digest_80 : decode cX10_digest 80 = .ok (.iload_n 3, 1) := by decide +kernel
theorem dX10_digest_81 : decode cX10_digest 81 = .ok (.iconst 0, 1) := by decide +kernel
theorem dX10_digest_82 : decode cX10_digest 82 = .ok (.invokevirtual 327, 3) := by decide +kernel
theorem dX10_digest_85 : decode cX10_digest 85 = .ok (.i2l, 1) := by decide +kernel
theorem dX10_digest_86 : decode cX10_digest 86 = .ok (.invokestatic 316, 3) := by decide +kernel
theorem dX10_digest_89 : decode cX10_digest 89 = .ok (.lstore_n 1, 1) := by decide +kernel
theorem dX10_digest_90 : decode cX10_digest 90 = .ok (.lload_n 1, 1) := by decide +kernel
theorem dX10_digest_91 : decode cX10_digest 91 = .ok (.aload_n 0, 1) := by decide +kernel
theorem dX10_digest_92 : decode cX10_digest 92 = .ok (.iload_n 3, 1) := by decide +kernel
theorem dX10_digest_93 : decode cX10_digest 93 = .ok (.iconst 1, 1) := by decide +kernel
theorem dX10_digest_94 : decode cX10_digest 94 = .ok (.invokevirtual 327, 3) := by decide +kernel
theorem dX10_digest_97 : decode cX10_digest 97 = .ok (.i2l, 1) := by decide +kernel
theorem dX10_digest_98 : decode cX10_digest 98 = .ok (.invokestatic 316, 3) := by decide +kernel
theorem dX10_digest_101 : decode cX10_digest 101 = .ok (.lstore_n 1, 1) := by decide +kernel
theorem dX10_digest_102 : decode cX10_digest 102 = .ok (.lload_n 1, 1) := by decide +kernel
theorem dX10_digest_103 : decode cX10_digest 103 = .ok (.aload_n 0, 1) := by decide +kernel
theorem dX10_digest_104 : decode cX10_digest 104 = .ok (.iload_n 3, 1) := by decide +kernel
theorem dX10_digest_105 : decode cX10_digest 105 = .ok (.invokevirtual 330, 3) := by decide +kernel
theorem dX10_digest_108 : decode cX10_digest 108 = .ok (.i2l, 1) := by decide +kernel
theorem dX10_digest_109 : decode cX10_digest 109 = .ok (.invokestatic 316, 3) := by decide +kernel
theorem dX10_digest_112 : decode cX10_digest 112 = .ok (.lstore_n 1, 1) := by decide +kernel
theorem dX10_digest_113 : decode cX10_digest 113 = .ok (.iinc 3 1, 3) := by decide +kernel
theorem dX10_digest_116 : decode cX10_digest 116 = .ok (.goto (-49), 3) := by decide +kernel
theorem dX10_digest_119 : decode cX10_digest 119 = .ok (.aload_n 0, 1) := by decide +kernel
theorem dX10_digest_120 : decode cX10_digest 120 = .ok (.lload_n 1, 1) := by decide +kernel
theorem dX10_digest_121 : decode cX10_digest 121 = .ok (.iconst 0, 1) := by decide +kernel
theorem dX10_digest_122 : decode cX10_digest 122 = .ok (.invokevirtual 333, 3) := by decide +kernel
theorem dX10_digest_125 : decode cX10_digest 125 = .ok (.lstore_n 1, 1) := by decide +kernel
theorem dX10_digest_126 : decode cX10_digest 126 = .ok (.aload_n 0, 1) := by decide +kernel
theorem dX10_digest_127 : decode cX10_digest 127 = .ok (.lload_n 1, 1) := by decide +kernel
theorem dX10_digest_128 : decode cX10_digest 128 = .ok (.iconst 5, 1) := by decide +kernel
theorem dX10_digest_129 : decode cX10_digest 129 = .ok (.invokevirtual 333, 3) := by decide +kernel
theorem dX10_digest_132 : decode cX10_digest 132 = .ok (.lstore_n 1, 1) := by decide +kernel
theorem dX10_digest_133 : decode cX10_digest 133 = .ok (.aload_n 0, 1) := by decide +kernel
theorem dX10_digest_134 : decode cX10_digest 134 = .ok (.lload_n 1, 1) := by decide +kernel
theorem dX10_digest_135 : decode cX10_digest 135 = .ok (.bipush 29, 2) := by decide +kernel
theorem dX10_digest_137 : decode cX10_digest 137 = .ok (.invokevirtual 333, 3) := by decide +kernel
theorem dX10_digest_140 : decode cX10_digest 140 = .ok (.lstore_n 1, 1) := by decide +kernel
theorem dX10_digest_141 : decode cX10_digest 141 = .ok (.lload_n 1, 1) := by decide +kernel
theorem dX10_digest_142 : decode cX10_digest 142 = .ok (.aload_n 0, 1) := by decide +kernel
theorem dX10_digest_143 : decode cX10_digest 143 = .ok (.iconst 0, 1) := by decide +kernel
theorem dX10_digest_144 : decode cX10_digest 144 = .ok (.invokevirtual 336, 3) := by decide +kernel
theorem dX10_digest_147 : decode cX10_digest 147 = .ok (.i2l, 1) := by decide +kernel
theorem dX10_digest_148 : decode cX10_digest 148 = .ok (.invokestatic 316, 3) := by decide +kernel
theorem dX10_digest_151 : decode cX10_digest 151 = .ok (.lstore_n 1, 1) := by decide +kernel
theorem dX10_digest_152 : decode cX10_digest 152 = .ok (.lload_n 1, 1) := by decide +kernel
theorem dX10_digest_153 : decode cX10_digest 153 = .ok (.aload_n 0, 1) := by decide +kernel
theorem dX10_digest_154 : decode cX10_digest 154 = .ok (.iconst 1, 1) := by decide +kernel
theorem dX10_digest_155 : decode cX10_digest 155 = .ok (.invokevirtual 336, 3) := by decide +kernel
theorem dX10_digest_158 : decode cX10_digest 158 = .ok (.i2l, 1) := by decide +kernel
theorem dX10_digest_159 : decode cX10_digest 159 = .ok (.invokestatic 316, 3) := by decide +kernel
theorem dX10_digest_162 : decode cX10_digest 162 = .ok (.lstore_n 1, 1) := by decide +kernel
theorem dX10_digest_163 : decode cX10_digest 163 = .ok (.lload_n 1, 1) := by decide +kernel
theorem dX10_digest_164 : decode cX10_digest 164 = .ok (.aload_n 0, 1) := by decide +kernel
theorem dX10_digest_165 : decode cX10_digest 165 = .ok (.invokevirtual 339, 3) := by decide +kernel
theorem dX10_digest_168 : decode cX10_digest 168 = .ok (.i2l, 1) := by decide +kernel
theorem dX10_digest_169 : decode cX10_digest 169 = .ok (.invokestatic 316, 3) := by decide +kernel
theorem dX10_digest_172 : decode cX10_digest 172 = .ok (.lstore_n 1, 1) := by decide +kernel
theorem dX10_digest_173 : decode cX10_digest 173 = .ok (.lload_n 1, 1) := by decide +kernel
theorem dX10_digest_174 : decode cX10_digest 174 = .ok (.aload_n 0, 1) := by decide +kernel
theorem dX10_digest_175 : decode cX10_digest 175 = .ok (.bipush 99, 2) := by decide +kernel
theorem dX10_digest_177 : decode cX10_digest 177 = .ok (.bipush 55, 2) := by decide +kernel
theorem dX10_digest_179 : decode cX10_digest 179 = .ok (.iconst 2, 1) := by decide +kernel
theorem dX10_digest_180 : decode cX10_digest 180 = .ok (.invokevirtual 342, 3) := by decide +kernel
theorem dX10_digest_183 : decode cX10_digest 183 = .ok (.i2l, 1) := by decide +kernel
theorem dX10_digest_184 : decode cX10_digest 184 = .ok (.invokestatic 316, 3) := by decide +kernel
theorem dX10_digest_187 : decode cX10_digest 187 = .ok (.lstore_n 1, 1) := by decide +kernel
theorem dX10_digest_188 : decode cX10_digest 188 = .ok (.lload_n 1, 1) := by decide +kernel
theorem dX10_digest_189 : decode cX10_digest 189 = .ok (.aload_n 0, 1) := by decide +kernel
theorem dX10_digest_190 : decode cX10_digest 190 = .ok (.bipush 99, 2) := by decide +kernel
theorem dX10_digest_192 : decode cX10_digest 192 = .ok (.iconst 2, 1) := by decide +kernel
theorem dX10_digest_193 : decode cX10_digest 193 = .ok (.invokevirtual 345, 3) := by decide +kernel
theorem dX10_digest_196 : decode cX10_digest 196 = .ok (.i2l, 1) := by decide +kernel
theorem dX10_digest_197 : decode cX10_digest 197 = .ok (.invokestatic 316, 3) := by decide +kernel
theorem dX10_digest_200 : decode cX10_digest 200 = .ok (.lreturn, 1) := by decide +kernel
theorem dX10_mixPerson_0 : decode cX10_mixPerson 0 = .ok (.lload_n 1, 1) := by decide +kernel
theorem dX10_mixPerson_1 : decode cX10_mixPerson 1 = .ok (.aload_n 0, 1) := by decide +kernel
theorem dX10_mixPerson_2 : decode cX10_mixPerson 2 = .ok (.iload_n 3, 1) := by decide +kernel
theorem dX10_mixPerson_3 : decode cX10_mixPerson 3 = .ok (.iconst 0, 1) := by decide +kernel
theorem dX10_mixPerson_4 : decode cX10_mixPerson 4 = .ok (.invokevirtual 348, 3) := by decide +kernel
theorem dX10_mixPerson_7 : decode cX10_mixPerson 7 = .ok (.i2l, 1) := by decide +kernel
theorem dX10_mixPerson_8 : decode cX10_mixPerson 8 = .ok (.invokestatic 316, 3) := by decide +kernel
theorem dX10_mixPerson_11 : decode cX10_mixPerson 11 = .ok (.lstore 4, 2) := by decide +kernel
theorem dX10_mixPerson_13 : decode cX10_mixPerson 13 = .ok (.lload 4, 2) := by decide +kernel
theorem dX10_mixPerson_15 : decode cX10_mixPerson 15 = .ok (.aload_n 0, 1) := by decide +kernel
theorem dX10_mixPerson_16 : decode cX10_mixPerson 16 = .ok (.iload_n 3, 1) := by decide +kernel
theorem dX10_mixPerson_17 : decode cX10_mixPerson 17 = .ok (.iconst 1, 1) := by decide +kernel
theorem dX10_mixPerson_18 : decode cX10_mixPerson 18 = .ok (.invokevirtual 348, 3) := by decide +kernel
theorem dX10_mixPerson_21 : decode cX10_mixPerson 21 = .ok (.i2l, 1) := by decide +kernel
theorem dX10_mixPerson_22 : decode cX10_mixPerson 22 = .ok (.invokestatic 316, 3) := by decide +kernel
theorem dX10_mixPerson_25 : decode cX10_mixPerson 25 = .ok (.lstore 4, 2) := by decide +kernel
theorem dX10_mixPerson_27 : decode cX10_mixPerson 27 = .ok (.lload 4, 2) := by decide +kernel
theorem dX10_mixPerson_29 : decode cX10_mixPerson 29 = .ok (.aload_n 0, 1) := by decide +kernel
theorem dX10_mixPerson_30 : decode cX10_mixPerson 30 = .ok (.iconst 5, 1) := by decide +kernel
theorem dX10_mixPerson_31 : decode cX10_mixPerson 31 = .ok (.iload_n 3, 1) := by decide +kernel
theorem dX10_mixPerson_32 : decode cX10_mixPerson 32 = .ok (.invokevirtual 351, 3) := by decide +kernel
theorem dX10_mixPerson_35 : decode cX10_mixPerson 35 = .ok (.i2l, 1) := by decide +kernel
theorem dX10_mixPerson_36 : decode cX10_mixPerson 36 = .ok (.invokestatic 316, 3) := by decide +kernel
theorem dX10_mixPerson_39 : decode cX10_mixPerson 39 = .ok (.lstore 4, 2) := by decide +kernel
theorem dX10_mixPerson_41 : decode cX10_mixPerson 41 = .ok (.lload 4, 2) := by decide +kernel
theorem dX10_mixPerson_43 : decode cX10_mixPerson 43 = .ok (.aload_n 0, 1) := by decide +kernel
theorem dX10_mixPerson_44 : decode cX10_mixPerson 44 = .ok (.bipush 29, 2) := by decide +kernel
theorem dX10_mixPerson_46 : decode cX10_mixPerson 46 = .ok (.iload_n 3, 1) := by decide +kernel
theorem dX10_mixPerson_47 : decode cX10_mixPerson 47 = .ok (.invokevirtual 351, 3) := by decide +kernel
theorem dX10_mixPerson_50 : decode cX10_mixPerson 50 = .ok (.i2l, 1) := by decide +kernel
theorem dX10_mixPerson_51 : decode cX10_mixPerson 51 = .ok (.invokestatic 316, 3) := by decide +kernel
theorem dX10_mixPerson_54 : decode cX10_mixPerson 54 = .ok (.lstore 4, 2) := by decide +kernel
theorem dX10_mixPerson_56 : decode cX10_mixPerson 56 = .ok (.lload 4, 2) := by decide +kernel
theorem dX10_mixPerson_58 : decode cX10_mixPerson 58 = .ok (.aload_n 0, 1) := by decide +kernel
theorem dX10_mixPerson_59 : decode cX10_mixPerson 59 = .ok (.bipush 9, 2) := by decide +kernel
theorem dX10_mixPerson_61 : decode cX10_mixPerson 61 = .ok (.iload_n 3, 1) := by decide +kernel
theorem dX10_mixPerson_62 : decode cX10_mixPerson 62 = .ok (.bipush 50, 2) := by decide +kernel
theorem dX10_mixPerson_64 : decode cX10_mixPerson 64 = .ok (.iconst (-1), 1) := by decide +kernel
theorem dX10_mixPerson_65 : decode cX10_mixPerson 65 = .ok (.iconst 0, 1) := by decide +kernel
theorem dX10_mixPerson_66 : decode cX10_mixPerson 66 = .ok (.invokevirtual 354, 3) := by decide +kernel
theorem dX10_mixPerson_69 : decode cX10_mixPerson 69 = .ok (.i2l, 1) := by decide +kernel
theorem dX10_mixPerson_70 : decode cX10_mixPerson 70 = .ok (.invokestatic 316, 3) := by decide +kernel
theorem dX10_mixPerson_73 : decode cX10_mixPerson 73 = .ok (.lstore 4, 2) := by decide +kernel
theorem dX10_mixPerson_75 : decode cX10_mixPerson 75 = .ok (.lload 4, 2) := by decide +kernel
theorem dX10_mixPerson_77 : decode cX10_mixPerson 77 = .ok (.aload_n 0, 1) := by decide +kernel
theorem dX10_mixPerson_78 : decode cX10_mixPerson 78 = .ok (.bipush 9, 2) := by decide +kernel
theorem dX10_mixPerson_80 : decode cX10_mixPerson 80 = .ok (.iload_n 3, 1) := by decide +kernel
theorem dX10_mixPerson_81 : decode cX10_mixPerson 81 = .ok (.bipush 50, 2) := by decide +kernel
theorem dX10_mixPerson_83 : decode cX10_mixPerson 83 = .ok (.iconst (-1), 1) := by decide +kernel
theorem dX10_mixPerson_84 : decode cX10_mixPerson 84 = .ok (.iconst 1, 1) := by decide +kernel
theorem dX10_mixPerson_85 : decode cX10_mixPerson 85 = .ok (.invokevirtual 354, 3) := by decide +kernel
theorem dX10_mixPerson_88 : decode cX10_mixPerson 88 = .ok (.i2l, 1) := by decide +kernel
theorem dX10_mixPerson_89 : decode cX10_mixPerson 89 = .ok (.invokestatic 316, 3) := by decide +kernel
theorem dX10_mixPerson_92 : decode cX10_mixPerson 92 = .ok (.lstore 4, 2) := by decide +kernel
theorem dX10_mixPerson_94 : decode cX10_mixPerson 94 = .ok (.lload 4, 2) := by decide +kernel
theorem dX10_mixPerson_96 : decode cX10_mixPerson 96 = .ok (.aload_n 0, 1) := by decide +kernel
theorem dX10_mixPerson_97 : decode cX10_mixPerson 97 = .ok (.bipush 9, 2) := by decide +kernel
theorem dX10_mixPerson_99 : decode cX10_mixPerson 99 = .ok (.iload_n 3, 1) := by decide +kernel
theorem dX10_mixPerson_100 : decode cX10_mixPerson 100 = .ok (.iconst 3, 1) := by decide +kernel
theorem dX10_mixPerson_101 : decode cX10_mixPerson 101 = .ok (.invokevirtual 358, 3) := by decide +kernel
theorem dX10_mixPerson_104 : decode cX10_mixPerson 104 = .ok (.i2l, 1) := by decide +kernel
theorem dX10_mixPerson_105 : decode cX10_mixPerson 105 = .ok (.invokestatic 316, 3) := by decide +kernel
theorem dX10_mixPerson_108 : decode cX10_mixPerson 108 = .ok (.lstore 4, 2) := by decide +kernel
theorem dX10_mixPerson_110 : decode cX10_mixPerson 110 = .ok (.lload 4, 2) := by decide +kernel
theorem dX10_mixPerson_112 : decode cX10_mixPerson 112 = .ok (.aload_n 0, 1) := by decide +kernel
theorem dX10_mixPerson_113 : decode cX10_mixPerson 113 = .ok (.iconst 5, 1) := by decide +kernel
theorem dX10_mixPerson_114 : decode cX10_mixPerson 114 = .ok (.bipush 9, 2) := by decide +kernel
theorem dX10_mixPerson_116 : decode cX10_mixPerson 116 = .ok (.iconst 4, 1) := by decide +kernel
theorem dX10_mixPerson_117 : decode cX10_mixPerson 117 = .ok (.iload_n 3, 1) := by decide +kernel
theorem dX10_mixPerson_118 : decode cX10_mixPerson 118 = .ok (.iconst 4, 1) := by decide +kernel
theorem dX10_mixPerson_119 : decode cX10_mixPerson 119 = .ok (.iconst 0, 1) := by decide +kernel
theorem dX10_mixPerson_120 : decode cX10_mixPerson 120 = .ok (.invokevirtual 361, 3) := by decide +kernel
theorem dX10_mixPerson_123 : decode cX10_mixPerson 123 = .ok (.invokestatic 316, 3) := by decide +kernel
theorem dX10_mixPerson_126 : decode cX10_mixPerson 126 = .ok (.lstore 4, 2) := by decide +kernel
theorem dX10_mixPerson_128 : decode cX10_mixPerson 128 = .ok (.lload 4, 2) := by decide +kernel
theorem dX10_mixPerson_130 : decode cX10_mixPerson 130 = .ok (.aload_n 0, 1) := by decide +kernel
theorem dX10_mixPerson_131 : decode cX10_mixPerson 131 = .ok (.iconst 5, 1) := by decide +kernel
theorem dX10_mixPerson_132 : decode cX10_mixPerson 132 = .ok (.bipush 9, 2) := by decide +kernel
theorem dX10_mixPerson_134 : decode cX10_mixPerson 134 = .ok (.iconst 4, 1) := by decide +kernel
theorem dX10_mixPerson_135 : decode cX10_mixPerson 135 = .ok (.iload_n 3, 1) := by decide +kernel
theorem dX10_mixPerson_136 : decode cX10_mixPerson 136 = .ok (.iconst 4, 1) := by decide +kernel
theorem dX10_mixPerson_137 : decode cX10_mixPerson 137 = .ok (.iconst 1, 1) := by decide +kernel
theorem dX10_mixPerson_138 : decode cX10_mixPerson 138 = .ok (.invokevirtual 361, 3) := by decide +kernel
theorem dX10_mixPerson_141 : decode cX10_mixPerson 141 = .ok (.invokestatic 316, 3) := by decide +kernel
theorem dX10_mixPerson_144 : decode cX10_mixPerson 144 = .ok (.lstore 4, 2) := by decide +kernel
theorem dX10_mixPerson_146 : decode cX10_mixPerson 146 = .ok (.lload 4, 2) := by decide +kernel
theorem dX10_mixPerson_148 : decode cX10_mixPerson 148 = .ok (.aload_n 0, 1) := by decide +kernel
theorem dX10_mixPerson_149 : decode cX10_mixPerson 149 = .ok (.bipush 7, 2) := by decide +kernel
theorem dX10_mixPerson_151 : decode cX10_mixPerson 151 = .ok (.bipush 20, 2) := by decide +kernel
theorem dX10_mixPerson_153 : decode cX10_mixPerson 153 = .ok (.iload_n 3, 1) := by decide +kernel
theorem dX10_mixPerson_154 : decode cX10_mixPerson 154 = .ok (.invokevirtual 365, 3) := by decide +kernel
theorem dX10_mixPerson_157 : decode cX10_mixPerson 157 = .ok (.i2l, 1) := by decide +kernel
theorem dX10_mixPerson_158 : decode cX10_mixPerson 158 = .ok (.invokestatic 316, 3) := by decide +kernel
theorem dX10_mixPerson_161 : decode cX10_mixPerson 161 = .ok (.lreturn, 1) := by decide +kernel
theorem dX10_mixYear_0 : decode cX10_mixYear 0 = .ok (.lload_n 1, 1) := by decide +kernel
theorem dX10_mixYear_1 : decode cX10_mixYear 1 = .ok (.lstore 4, 2) := by decide +kernel
theorem dX10_mixYear_3 : decode cX10_mixYear 3 = .ok (.iconst 0, 1) := by decide +kernel
theorem dX10_mixYear_4 : decode cX10_mixYear 4 = .ok (.istore 6, 2) := by decide +kernel
theorem dX10_mixYear_6 : decode cX10_mixYear 6 = .ok (.iload 6, 2) := by decide +kernel
theorem dX10_mixYear_8 : decode cX10_mixYear 8 = .ok (.iconst 2, 1) := by decide +kernel
theorem dX10_mixYear_9 : decode cX10_mixYear 9 = .ok (.if_icmp .gt 24, 3) := by decide +kernel
theorem dX10_mixYear_12 : decode cX10_mixYear 12 = .ok (.lload 4, 2) := by decide +kernel
theorem dX10_mixYear_14 : decode cX10_mixYear 14 = .ok (.aload_n 0, 1) := by decide +kernel
theorem dX10_mixYear_15 : decode cX10_mixYear 15 = .ok (.iload_n 3, 1) := by decide +kernel
theorem dX10_mixYear_16 : decode cX10_mixYear 16 = .ok (.iload 6, 2) := by decide +kernel
theorem dX10_mixYear_18 : decode cX10_mixYear 18 = .ok (.invokevirtual 368, 3) := by decide +kernel
theorem dX10_mixYear_21 : decode cX10_mixYear 21 = .ok (.i2l, 1) := by decide +kernel
theorem dX10_mixYear_22 : decode cX10_mixYear 22 = .ok (.invokestatic 316, 3) := by decide +kernel
theorem dX10_mixYear_25 : decode cX10_mixYear 25 = .ok (.lstore 4, 2) := by decide +kernel
theorem dX10_mixYear_27 : decode cX10_mixYear 27 = .ok (.iinc 6 1, 3) := by decide +kernel
theorem dX10_mixYear_30 : decode cX10_mixYear 30 = .ok (.goto (-24), 3) := by decide +kernel
theorem dX10_mixYear_33 : decode cX10_mixYear 33 = .ok (.iconst 0, 1) := by decide +kernel
theorem dX10_mixYear_34 : decode cX10_mixYear 34 = .ok (.istore 6, 2) := by decide +kernel
theorem dX10_mixYear_36 : decode cX10_mixYear 36 = .ok (.iload 6, 2) := by decide +kernel
theorem dX10_mixYear_38 : decode cX10_mixYear 38 = .ok (.iconst 4, 1) := by decide +kernel
theorem dX10_mixYear_39 : decode cX10_mixYear 39 = .ok (.if_icmp .ge 24, 3) := by decide +kernel
theorem dX10_mixYear_42 : decode cX10_mixYear 42 = .ok (.lload 4, 2) := by decide +kernel
theorem dX10_mixYear_44 : decode cX10_mixYear 44 = .ok (.aload_n 0, 1) := by decide +kernel
theorem dX10_mixYear_45 : decode cX10_mixYear 45 = .ok (.iload_n 3, 1) := by decide +kernel
theorem dX10_mixYear_46 : decode cX10_mixYear 46 = .ok (.iload 6, 2) := by decide +kernel
theorem dX10_mixYear_48 : decode cX10_mixYear 48 = .ok (.invokevirtual 371, 3) := by decide +kernel
theorem dX10_mixYear_51 : decode cX10_mixYear 51 = .ok (.i2l, 1) := by decide +kernel
theorem dX10_mixYear_52 : decode cX10_mixYear 52 = .ok (.invokestatic 316, 3) := by decide +kernel
theorem dX10_mixYear_55 : decode cX10_mixYear 55 = .ok (.lstore 4, 2) := by decide +kernel
theorem dX10_mixYear_57 : decode cX10_mixYear 57 = .ok (.iinc 6 1, 3) := by decide +kernel
theorem dX10_mixYear_60 : decode cX10_mixYear 60 = .ok (.goto (-24), 3) := by decide +kernel
theorem dX10_mixYear_63 : decode cX10_mixYear 63 = .ok (.lload 4, 2) := by decide +kernel
theorem dX10_mixYear_65 : decode cX10_mixYear 65 = .ok (.aload_n 0, 1) := by decide +kernel
theorem dX10_mixYear_66 : decode cX10_mixYear 66 = .ok (.iload_n 3, 1) := by decide +kernel
theorem dX10_mixYear_67 : decode cX10_mixYear 67 = .ok (.iconst 2, 1) := by decide +kernel
theorem dX10_mixYear_68 : decode cX10_mixYear 68 = .ok (.invokevirtual 374, 3) := by decide +kernel
theorem dX10_mixYear_71 : decode cX10_mixYear 71 = .ok (.i2l, 1) := by decide +kernel
theorem dX10_mixYear_72 : decode cX10_mixYear 72 = .ok (.invokestatic 316, 3) := by decide +kernel
theorem dX10_mixYear_75 : decode cX10_mixYear 75 = .ok (.lstore 4, 2) := by decide +kernel
theorem dX10_mixYear_77 : decode cX10_mixYear 77 = .ok (.iconst 0, 1) := by decide +kernel
theorem dX10_mixYear_78 : decode cX10_mixYear 78 = .ok (.istore 6, 2) := by decide +kernel
theorem dX10_mixYear_80 : decode cX10_mixYear 80 = .ok (.iload 6, 2) := by decide +kernel
theorem dX10_mixYear_82 : decode cX10_mixYear 82 = .ok (.iconst 2, 1) := by decide +kernel
theorem dX10_mixYear_83 : decode cX10_mixYear 83 = .ok (.if_icmp .gt 24, 3) := by decide +kernel
theorem dX10_mixYear_86 : decode cX10_mixYear 86 = .ok (.lload 4, 2) := by decide +kernel
theorem dX10_mixYear_88 : decode cX10_mixYear 88 = .ok (.aload_n 0, 1) := by decide +kernel
theorem dX10_mixYear_89 : decode cX10_mixYear 89 = .ok (.iload_n 3, 1) := by decide +kernel
theorem dX10_mixYear_90 : decode cX10_mixYear 90 = .ok (.iload 6, 2) := by decide +kernel
theorem dX10_mixYear_92 : decode cX10_mixYear 92 = .ok (.invokevirtual 377, 3) := by decide +kernel
theorem dX10_mixYear_95 : decode cX10_mixYear 95 = .ok (.i2l, 1) := by decide +kernel
theorem dX10_mixYear_96 : decode cX10_mixYear 96 = .ok (.invokestatic 316, 3) := by decide +kernel
theorem dX10_mixYear_99 : decode cX10_mixYear 99 = .ok (.lstore 4, 2) := by decide +kernel
theorem dX10_mixYear_101 : decode cX10_mixYear 101 = .ok (.iinc 6 1, 3) := by decide +kernel
theorem dX10_mixYear_104 : decode cX10_mixYear 104 = .ok (.goto (-24), 3) := by decide +kernel
theorem dX10_mixYear_107 : decode cX10_mixYear 107 = .ok (.lload 4, 2) := by decide +kernel
theorem dX10_mixYear_109 : decode cX10_mixYear 109 = .ok (.lreturn, 1) := by decide +kernel
theorem dX10_mix_0 : decode cX10_mix 0 = .ok (.ldc2_w 380, 3) := by decide +kernel
theorem dX10_mix_3 : decode cX10_mix 3 = .ok (.lload_n 0, 1) := by decide +kernel
theorem dX10_mix_4 : decode cX10_mix 4 = .ok (.lmul, 1) := by decide +kernel
theorem dX10_mix_5 : decode cX10_mix 5 = .ok (.lload_n 2, 1) := by decide +kernel
theorem dX10_mix_6 : decode cX10_mix 6 = .ok (.ladd, 1) := by decide +kernel
theorem dX10_mix_7 : decode cX10_mix 7 = .ok (.lreturn, 1) := by decide +kernel
theorem dX10_found_0 : decode cX10_found 0 = .ok (.aload_n 0, 1) := by decide +kernel
theorem dX10_found_1 : decode cX10_found 1 = .ok (.iload_n 1, 1) := by decide +kernel
theorem dX10_found_2 : decode cX10_found 2 = .ok (.putfield 77, 3) := by decide +kernel
theorem dX10_found_5 : decode cX10_found 5 = .ok (.bipush (-10), 2) := by decide +kernel
theorem dX10_found_7 : decode cX10_found 7 = .ok (.iload_n 1, 1) := by decide +kernel
theorem dX10_found_8 : decode cX10_found 8 = .ok (.isub, 1) := by decide +kernel
theorem dX10_found_9 : decode cX10_found 9 = .ok (.ireturn, 1) := by decide +kernel
theorem dX10_lowestOf_0 : decode cX10_lowestOf 0 = .ok (.iconst 0, 1) := by decide +kernel
theorem dX10_lowestOf_1 : decode cX10_lowestOf 1 = .ok (.istore_n 1, 1) := by decide +kernel
theorem dX10_lowestOf_2 : decode cX10_lowestOf 2 = .ok (.iload_n 1, 1) := by decide +kernel
theorem dX10_lowestOf_3 : decode cX10_lowestOf 3 = .ok (.bipush 7, 2) := by decide +kernel
theorem dX10_lowestOf_5 : decode cX10_lowestOf 5 = .ok (.if_icmp .ge 17, 3) := by decide +kernel
theorem dX10_lowestOf_8 : decode cX10_lowestOf 8 = .ok (.iload_n 0, 1) := by decide +kernel
theorem dX10_lowestOf_9 : decode cX10_lowestOf 9 = .ok (.iload_n 1, 1) := by decide +kernel
theorem dX10_lowestOf_10 : decode cX10_lowestOf 10 = .ok (.ishr, 1) := by decide +kernel
theorem dX10_lowestOf_11 : decode cX10_lowestOf 11 = .ok (.iconst 1, 1) := by decide +kernel
theorem dX10_lowestOf_12 : decode cX10_lowestOf 12 = .ok (.iand, 1) := by decide +kernel
theorem dX10_lowestOf_13 : decode cX10_lowestOf 13 = .ok (.ifCond .ne 9, 3) := by decide +kernel
theorem dX10_lowestOf_16 : decode cX10_lowestOf 16 = .ok (.iinc 1 1, 3) := by decide +kernel
theorem dX10_lowestOf_19 : decode cX10_lowestOf 19 = .ok (.goto (-17), 3) := by decide +kernel
theorem dX10_lowestOf_22 : decode cX10_lowestOf 22 = .ok (.iload_n 1, 1) := by decide +kernel
theorem dX10_lowestOf_23 : decode cX10_lowestOf 23 = .ok (.ireturn, 1) := by decide +kernel
theorem dX10_isSighting_0 : decode cX10_isSighting 0 = .ok (.iload_n 0, 1) := by decide +kernel
theorem dX10_isSighting_1 : decode cX10_isSighting 1 = .ok (.invokestatic 110, 3) := by decide +kernel
theorem dX10_isSighting_4 : decode cX10_isSighting 4 = .ok (.ifCond .eq 27, 3) := by decide +kernel
theorem dX10_isSighting_7 : decode cX10_isSighting 7 = .ok (.iload_n 1, 1) := by decide +kernel
theorem dX10_isSighting_8 : decode cX10_isSighting 8 = .ok (.iconst 0, 1) := by decide +kernel
theorem dX10_isSighting_9 : decode cX10_isSighting 9 = .ok (.bipush 7, 2) := by decide +kernel
theorem dX10_isSighting_11 : decode cX10_isSighting 11 = .ok (.invokestatic 81, 3) := by decide +kernel
theorem dX10_isSighting_14 : decode cX10_isSighting 14 = .ok (.ifCond .eq 17, 3) := by decide +kernel
theorem dX10_isSighting_17 : decode cX10_isSighting 17 = .ok (.iload_n 2, 1) := by decide +kernel
theorem dX10_isSighting_18 : decode cX10_isSighting 18 = .ok (.iconst 0, 1) := by decide +kernel
theorem dX10_isSighting_19 : decode cX10_isSighting 19 = .ok (.bipush 99, 2) := by decide +kernel
theorem dX10_isSighting_21 : decode cX10_isSighting 21 = .ok (.invokestatic 81, 3) := by decide +kernel
theorem dX10_isSighting_24 : decode cX10_isSighting 24 = .ok (.ifCond .eq 7, 3) := by decide +kernel
theorem dX10_isSighting_27 : decode cX10_isSighting 27 = .ok (.iconst 1, 1) := by decide +kernel
theorem dX10_isSighting_28 : decode cX10_isSighting 28 = .ok (.goto 4, 3) := by decide +kernel
theorem dX10_isSighting_31 : decode cX10_isSighting 31 = .ok (.iconst 0, 1) := by decide +kernel
theorem dX10_isSighting_32 : decode cX10_isSighting 32 = .ok (.ireturn, 1) := by decide +kernel
theorem dX10_isTown_0 : decode cX10_isTown 0 = .ok (.iload_n 0, 1) := by decide +kernel
theorem dX10_isTown_1 : decode cX10_isTown 1 = .ok (.iconst 1, 1) := by decide +kernel
theorem dX10_isTown_2 : decode cX10_isTown 2 = .ok (.sipush 999, 3) := by decide +kernel
theorem dX10_isTown_5 : decode cX10_isTown 5 = .ok (.invokestatic 81, 3) := by decide +kernel
theorem dX10_isTown_8 : decode cX10_isTown 8 = .ok (.ifCond .eq 17, 3) := by decide +kernel
theorem dX10_isTown_11 : decode cX10_isTown 11 = .ok (.iload_n 1, 1) := by decide +kernel
theorem dX10_isTown_12 : decode cX10_isTown 12 = .ok (.iconst 0, 1) := by decide +kernel
theorem dX10_isTown_13 : decode cX10_isTown 13 = .ok (.bipush 99, 2) := by decide +kernel
theorem dX10_isTown_15 : decode cX10_isTown 15 = .ok (.invokestatic 81, 3) := by decide +kernel
theorem dX10_isTown_18 : decode cX10_isTown 18 = .ok (.ifCond .eq 7, 3) := by decide +kernel
theorem dX10_isTown_21 : decode cX10_isTown 21 = .ok (.iconst 1, 1) := by decide +kernel
theorem dX10_isTown_22 : decode cX10_isTown 22 = .ok (.goto 4, 3) := by decide +kernel
theorem dX10_isTown_25 : decode cX10_isTown 25 = .ok (.iconst 0, 1) := by decide +kernel
theorem dX10_isTown_26 : decode cX10_isTown 26 = .ok (.ireturn, 1) := by decide +kernel
theorem dX10_isYear_0 : decode cX10_isYear 0 = .ok (.iload_n 0, 1) := by decide +kernel
theorem dX10_isYear_1 : decode cX10_isYear 1 = .ok (.iconst 0, 1) := by decide +kernel
theorem dX10_isYear_2 : decode cX10_isYear 2 = .ok (.bipush 29, 2) := by decide +kernel
theorem dX10_isYear_4 : decode cX10_isYear 4 = .ok (.invokestatic 81, 3) := by decide +kernel
theorem dX10_isYear_7 : decode cX10_isYear 7 = .ok (.ireturn, 1) := by decide +kernel
theorem dX10_isSize_0 : decode cX10_isSize 0 = .ok (.iload_n 0, 1) := by decide +kernel
theorem dX10_isSize_1 : decode cX10_isSize 1 = .ok (.iconst 1, 1) := by decide +kernel
theorem dX10_isSize_2 : decode cX10_isSize 2 = .ok (.bipush 9, 2) := by decide +kernel
theorem dX10_isSize_4 : decode cX10_isSize 4 = .ok (.invokestatic 81, 3) := by decide +kernel
theorem dX10_isSize_7 : decode cX10_isSize 7 = .ok (.ireturn, 1) := by decide +kernel
theorem dX10_isDrawer_0 : decode cX10_isDrawer 0 = .ok (.iload_n 0, 1) := by decide +kernel
theorem dX10_isDrawer_1 : decode cX10_isDrawer 1 = .ok (.iconst 0, 1) := by decide +kernel
theorem dX10_isDrawer_2 : decode cX10_isDrawer 2 = .ok (.iconst 3, 1) := by decide +kernel
theorem dX10_isDrawer_3 : decode cX10_isDrawer 3 = .ok (.invokestatic 81, 3) := by decide +kernel
theorem dX10_isDrawer_6 : decode cX10_isDrawer 6 = .ok (.ireturn, 1) := by decide +kernel
theorem dX10_isSheet_0 : decode cX10_isSheet 0 = .ok (.iload_n 0, 1) := by decide +kernel
theorem dX10_isSheet_1 : decode cX10_isSheet 1 = .ok (.iconst 0, 1) := by decide +kernel
theorem dX10_isSheet_2 : decode cX10_isSheet 2 = .ok (.iconst 3, 1) := by decide +kernel
theorem dX10_isSheet_3 : decode cX10_isSheet 3 = .ok (.invokestatic 81, 3) := by decide +kernel
theorem dX10_isSheet_6 : decode cX10_isSheet 6 = .ok (.ireturn, 1) := by decide +kernel
theorem dX10_isForm_0 : decode cX10_isForm 0 = .ok (.iload_n 0, 1) := by decide +kernel
theorem dX10_isForm_1 : decode cX10_isForm 1 = .ok (.iconst 0, 1) := by decide +kernel
theorem dX10_isForm_2 : decode cX10_isForm 2 = .ok (.iconst 2, 1) := by decide +kernel
theorem dX10_isForm_3 : decode cX10_isForm 3 = .ok (.invokestatic 81, 3) := by decide +kernel
theorem dX10_isForm_6 : decode cX10_isForm 6 = .ok (.ireturn, 1) := by decide +kernel
theorem dX10_isWithin_0 : decode cX10_isWithin 0 = .ok (.iload_n 0, 1) := by decide +kernel
theorem dX10_isWithin_1 : decode cX10_isWithin 1 = .ok (.iload_n 1, 1) := by decide +kernel
theorem dX10_isWithin_2 : decode cX10_isWithin 2 = .ok (.if_icmp .lt 12, 3) := by decide +kernel
theorem dX10_isWithin_5 : decode cX10_isWithin 5 = .ok (.iload_n 0, 1) := by decide +kernel
theorem dX10_isWithin_6 : decode cX10_isWithin 6 = .ok (.iload_n 2, 1) := by decide +kernel
theorem dX10_isWithin_7 : decode cX10_isWithin 7 = .ok (.if_icmp .gt 7, 3) := by decide +kernel
theorem dX10_isWithin_10 : decode cX10_isWithin 10 = .ok (.iconst 1, 1) := by decide +kernel
theorem dX10_isWithin_11 : decode cX10_isWithin 11 = .ok (.goto 4, 3) := by decide +kernel
theorem dX10_isWithin_14 : decode cX10_isWithin 14 = .ok (.iconst 0, 1) := by decide +kernel
theorem dX10_isWithin_15 : decode cX10_isWithin 15 = .ok (.ireturn, 1) := by decide +kernel
theorem dX10_endOfTown_0 : decode cX10_endOfTown 0 = .ok (.iload_n 0, 1) := by decide +kernel
theorem dX10_endOfTown_1 : decode cX10_endOfTown 1 = .ok (.istore_n 3, 1) := by decide +kernel
theorem dX10_endOfTown_2 : decode cX10_endOfTown 2 = .ok (.iconst 0, 1) := by decide +kernel
theorem dX10_endOfTown_3 : decode cX10_endOfTown 3 = .ok (.istore 4, 2) := by decide +kernel
theorem dX10_endOfTown_5 : decode cX10_endOfTown 5 = .ok (.iload 4, 2) := by decide +kernel
theorem dX10_endOfTown_7 : decode cX10_endOfTown 7 = .ok (.bipush 99, 2) := by decide +kernel
theorem dX10_endOfTown_9 : decode cX10_endOfTown 9 = .ok (.if_icmp .gt 28, 3) := by decide +kernel
theorem dX10_endOfTown_12 : decode cX10_endOfTown 12 = .ok (.iload_n 3, 1) := by decide +kernel
theorem dX10_endOfTown_13 : decode cX10_endOfTown 13 = .ok (.iload_n 1, 1) := by decide +kernel
theorem dX10_endOfTown_14 : decode cX10_endOfTown 14 = .ok (.isub, 1) := by decide +kernel
theorem dX10_endOfTown_15 : decode cX10_endOfTown 15 = .ok (.istore_n 3, 1) := by decide +kernel
theorem dX10_endOfTown_16 : decode cX10_endOfTown 16 = .ok (.iload_n 3, 1) := by decide +kernel
theorem dX10_endOfTown_17 : decode cX10_endOfTown 17 = .ok (.ifCond .gt 6, 3) := by decide +kernel
theorem dX10_endOfTown_20 : decode cX10_endOfTown 20 = .ok (.iload 4, 2) := by decide +kernel
theorem dX10_endOfTown_22 : decode cX10_endOfTown 22 = .ok (.ireturn, 1) := by decide +kernel
theorem dX10_endOfTown_23 : decode cX10_endOfTown 23 = .ok (.iload_n 3, 1) := by decide +kernel
theorem dX10_endOfTown_24 : decode cX10_endOfTown 24 = .ok (.iload_n 2, 1) := by decide +kernel
theorem dX10_endOfTown_25 : decode cX10_endOfTown 25 = .ok (.iadd, 1) := by decide +kernel
theorem dX10_endOfTown_26 : decode cX10_endOfTown 26 = .ok (.iload_n 0, 1) := by decide +kernel
theorem dX10_endOfTown_27 : decode cX10_endOfTown 27 = .ok (.invokestatic 302, 3) := by decide +kernel
theorem dX10_endOfTown_30 : decode cX10_endOfTown 30 = .ok (.istore_n 3, 1) := by decide +kernel
theorem dX10_endOfTown_31 : decode cX10_endOfTown 31 = .ok (.iinc 4 1, 3) := by decide +kernel
theorem dX10_endOfTown_34 : decode cX10_endOfTown 34 = .ok (.goto (-29), 3) := by decide +kernel
theorem dX10_endOfTown_37 : decode cX10_endOfTown 37 = .ok (.iconst (-1), 1) := by decide +kernel
theorem dX10_endOfTown_38 : decode cX10_endOfTown 38 = .ok (.ireturn, 1) := by decide +kernel
theorem dX10_nextSeed_0 : decode cX10_nextSeed 0 = .ok (.ldc_w 382, 3) := by decide +kernel
theorem dX10_nextSeed_3 : decode cX10_nextSeed 3 = .ok (.iload_n 0, 1) := by decide +kernel
theorem dX10_nextSeed_4 : decode cX10_nextSeed 4 = .ok (.imul, 1) := by decide +kernel
theorem dX10_nextSeed_5 : decode cX10_nextSeed 5 = .ok (.sipush 12345, 3) := by decide +kernel
theorem dX10_nextSeed_8 : decode cX10_nextSeed 8 = .ok (.iadd, 1) := by decide +kernel
theorem dX10_nextSeed_9 : decode cX10_nextSeed 9 = .ok (.ireturn, 1) := by decide +kernel
theorem dX10_lotOf_0 : decode cX10_lotOf 0 = .ok (.iload_n 1, 1) := by decide +kernel
theorem dX10_lotOf_1 : decode cX10_lotOf 1 = .ok (.ifCond .le 12, 3) := by decide +kernel
theorem dX10_lotOf_4 : decode cX10_lotOf 4 = .ok (.iload_n 0, 1) := by decide +kernel
theorem dX10_lotOf_5 : decode cX10_lotOf 5 = .ok (.bipush 16, 2) := by decide +kernel
theorem dX10_lotOf_7 : decode cX10_lotOf 7 = .ok (.iushr, 1) := by decide +kernel
theorem dX10_lotOf_8 : decode cX10_lotOf 8 = .ok (.iload_n 1, 1) := by decide +kernel
theorem dX10_lotOf_9 : decode cX10_lotOf 9 = .ok (.irem, 1) := by decide +kernel
theorem dX10_lotOf_10 : decode cX10_lotOf 10 = .ok (.goto 4, 3) := by decide +kernel
theorem dX10_lotOf_13 : decode cX10_lotOf 13 = .ok (.iconst 0, 1) := by decide +kernel
theorem dX10_lotOf_14 : decode cX10_lotOf 14 = .ok (.ireturn, 1) := by decide +kernel
theorem dX11_init_0 : decode cX11_init 0 = .ok (.aload_n 0, 1) := by decide +kernel
theorem dX11_init_1 : decode cX11_init 1 = .ok (.invokespecial 1, 3) := by decide +kernel
theorem dX11_init_4 : decode cX11_init 4 = .ok (.aload_n 0, 1) := by decide +kernel
theorem dX11_init_5 : decode cX11_init 5 = .ok (.iconst 4, 1) := by decide +kernel
theorem dX11_init_6 : decode cX11_init 6 = .ok (.newarray .int, 2) := by decide +kernel
theorem dX11_init_8 : decode cX11_init 8 = .ok (.putfield 7, 3) := by decide +kernel
theorem dX11_init_11 : decode cX11_init 11 = .ok (.aload_n 0, 1) := by decide +kernel
theorem dX11_init_12 : decode cX11_init 12 = .ok (.iconst 4, 1) := by decide +kernel
theorem dX11_init_13 : decode cX11_init 13 = .ok (.newarray .int, 2) := by decide +kernel
theorem dX11_init_15 : decode cX11_init 15 = .ok (.putfield 13, 3) := by decide +kernel
theorem dX11_init_18 : decode cX11_init 18 = .ok (.aload_n 0, 1) := by decide +kernel
theorem dX11_init_19 : decode cX11_init 19 = .ok (.sipush 240, 3) := by decide +kernel
theorem dX11_init_22 : decode cX11_init 22 = .ok (.newarray .int, 2) := by decide +kernel
theorem dX11_init_24 : decode cX11_init 24 = .ok (.putfield 16, 3) := by decide +kernel
theorem dX11_init_27 : decode cX11_init 27 = .ok (.aload_n 0, 1) := by decide +kernel
theorem dX11_init_28 : decode cX11_init 28 = .ok (.bipush 60, 2) := by decide +kernel
theorem dX11_init_30 : decode cX11_init 30 = .ok (.newarray .int, 2) := by decide +kernel
theorem dX11_init_32 : decode cX11_init 32 = .ok (.putfield 19, 3) := by decide +kernel
theorem dX11_init_35 : decode cX11_init 35 = .ok (.aload_n 0, 1) := by decide +kernel
theorem dX11_init_36 : decode cX11_init 36 = .ok (.bipush 31, 2) := by decide +kernel
theorem dX11_init_38 : decode cX11_init 38 = .ok (.newarray .int, 2) := by decide +kernel
theorem dX11_init_40 : decode cX11_init 40 = .ok (.putfield 22, 3) := by decide +kernel
theorem dX11_init_43 : decode cX11_init 43 = .ok (.aload_n 0, 1) := by decide +kernel
theorem dX11_init_44 : decode cX11_init 44 = .ok (.bipush 16, 2) := by decide +kernel
theorem dX11_init_46 : decode cX11_init 46 = .ok (.newarray .int, 2) := by decide +kernel
theorem dX11_init_48 : decode cX11_init 48 = .ok (.putfield 25, 3) := by decide +kernel
theorem dX11_init_51 : decode cX11_init 51 = .ok (.aload_n 0, 1) := by decide +kernel
theorem dX11_init_52 : decode cX11_init 52 = .ok (.bipush 48, 2) := by decide +kernel
theorem dX11_init_54 : decode cX11_init 54 = .ok (.newarray .int, 2) := by decide +kernel
theorem dX11_init_56 : decode cX11_init 56 = .ok (.putfield 28, 3) := by decide +kernel
theorem dX11_init_59 : decode cX11_init 59 = .ok (.aload_n 0, 1) := by decide +kernel
theorem dX11_init_60 : decode cX11_init 60 = .ok (.bipush 24, 2) := by decide +kernel
theorem dX11_init_62 : decode cX11_init 62 = .ok (.newarray .int, 2) := by decide +kernel
theorem dX11_init_64 : decode cX11_init 64 = .ok (.putfield 31, 3) := by decide +kernel
theorem dX11_init_67 : decode cX11_init 67 = .ok (.aload_n 0, 1) := by decide +kernel
theorem dX11_init_68 : decode cX11_init 68 = .ok (.iconst 4, 1) := by decide +kernel
theorem dX11_init_69 : decode cX11_init 69 = .ok (.newarray .int, 2) := by decide +kernel
theorem dX11_init_71 : decode cX11_init 71 = .ok (.putfield 34, 3) := by decide +kernel
theorem dX11_init_74 : decode cX11_init 74 = .ok (.aload_n 0, 1) := by decide +kernel
theorem dX11_init_75 : decode cX11_init 75 = .ok (.bipush 8, 2) := by decide +kernel
theorem dX11_init_77 : decode cX11_init 77 = .ok (.newarray .int, 2) := by decide +kernel
theorem dX11_init_79 : decode cX11_init 79 = .ok (.putfield 37, 3) := by decide +kernel
theorem dX11_init_82 : decode cX11_init 82 = .ok (.aload_n 0, 1) := by decide +kernel
theorem dX11_init_83 : decode cX11_init 83 = .ok (.bipush 24, 2) := by decide +kernel
theorem dX11_init_85 : decode cX11_init 85 = .ok (.newarray .int, 2) := by decide +kernel
theorem dX11_init_87 : decode cX11_init 87 = .ok (.putfield 40, 3) := by decide +kernel
theorem dX11_init_90 : decode cX11_init 90 = .ok (.aload_n 0, 1) := by decide +kernel
theorem dX11_init_91 : decode cX11_init 91 = .ok (.bipush 12, 2) := by decide +kernel
theorem dX11_init_93 : decode cX11_init 93 = .ok (.newarray .int, 2) := by decide +kernel
theorem dX11_init_95 : decode cX11_init 95 = .ok (.putfield 43, 3) := by decide +kernel
theorem dX11_init_98 : decode cX11_init 98 = .ok (.aload_n 0, 1) := by decide +kernel
theorem dX11_init_99 : decode cX11_init 99 = .ok (.bipush 12, 2) := by decide +kernel
theorem dX11_init_101 : decode cX11_init 101 = .ok (.newarray .int, 2) := by decide +kernel
theorem dX11_init_103 : decode cX11_init 103 = .ok (.putfield 46, 3) := by decide +kernel
theorem dX11_init_106 : decode cX11_init 106 = .ok (.aload_n 0, 1) := by decide +kernel
theorem dX11_init_107 : decode cX11_init 107 = .ok (.bipush 24, 2) := by decide +kernel
theorem dX11_init_109 : decode cX11_init 109 = .ok (.newarray .int, 2) := by decide +kernel
theorem dX11_init_111 : decode cX11_init 111 = .ok (.putfield 49, 3) := by decide +kernel
theorem dX11_init_114 : decode cX11_init 114 = .ok (.iconst 0, 1) := by decide +kernel
theorem dX11_init_115 : decode cX11_init 115 = .ok (.istore_n 1, 1) := by decide +kernel
theorem dX11_init_116 : decode cX11_init 116 = .ok (.iload_n 1, 1) := by decide +kernel
theorem dX11_init_117 : decode cX11_init 117 = .ok (.iconst 4, 1) := by decide +kernel
theorem dX11_init_118 : decode cX11_init 118 = .ok (.if_icmp .ge 23, 3) := by decide +kernel
theorem dX11_init_121 : decode cX11_init 121 = .ok (.aload_n 0, 1) := by decide +kernel
theorem dX11_init_122 : decode cX11_init 122 = .ok (.getfield 7, 3) := by decide +kernel
theorem dX11_init_125 : decode cX11_init 125 = .ok (.iload_n 1, 1) := by decide +kernel
theorem dX11_init_126 : decode cX11_init 126 = .ok (.iconst (-1), 1) := by decide +kernel
theorem dX11_init_127 : decode cX11_init 127 = .ok (.iastore, 1) := by decide +kernel
theorem dX11_init_128 : decode cX11_init 128 = .ok (.aload_n 0, 1) := by decide +kernel
theorem dX11_init_129 : decode cX11_init 129 = .ok (.getfield 34, 3) := by decide +kernel
theorem dX11_init_132 : decode cX11_init 132 = .ok (.iload_n 1, 1) := by decide +kernel
theorem dX11_init_133 : decode cX11_init 133 = .ok (.iconst (-1), 1) := by decide +kernel
theorem dX11_init_134 : decode cX11_init 134 = .ok (.iastore, 1) := by decide +kernel
theorem dX11_init_135 : decode cX11_init 135 = .ok (.iinc 1 1, 3) := by decide +kernel
theorem dX11_init_138 : decode cX11_init 138 = .ok (.goto (-22), 3) := by decide +kernel
theorem dX11_init_141 : decode cX11_init 141 = .ok (.aload_n 0, 1) := by decide +kernel
theorem dX11_init_142 : decode cX11_init 142 = .ok (.bipush 10, 2) := by decide +kernel
theorem dX11_init_144 : decode cX11_init 144 = .ok (.putfield 52, 3) := by decide +kernel
theorem dX11_init_147 : decode cX11_init 147 = .ok (.aload_n 0, 1) := by decide +kernel
theorem dX11_init_148 : decode cX11_init 148 = .ok (.iconst (-1), 1) := by decide +kernel
theorem dX11_init_149 : decode cX11_init 149 = .ok (.putfield 56, 3) := by decide +kernel
theorem dX11_init_152 : decode cX11_init 152 = .ok (.aload_n 0, 1) := by decide +kernel
theorem dX11_init_153 : decode cX11_init 153 = .ok (.iconst (-1), 1) := by decide +kernel
theorem dX11_init_154 : decode cX11_init 154 = .ok (.putfield 59, 3) := by decide +kernel
theorem dX11_init_157 : decode cX11_init 157 = .ok (.return_, 1) := by decide +kernel
theorem dX11_in_0 : decode cX11_in 0 = .ok (.lload_n 0, 1) := by decide +kernel
theorem dX11_in_1 : decode cX11_in 1 = .ok (.lload_n 2, 1) := by decide +kernel
theorem dX11_in_2 : decode cX11_in 2 = .ok (.lcmp, 1) := by decide +kernel
theorem dX11_in_3 : decode cX11_in 3 = .ok (.ifCond .lt 14, 3) := by decide +kernel
theorem dX11_in_6 : decode cX11_in 6 = .ok (.lload_n 0, 1) := by decide +kernel
theorem dX11_in_7 : decode cX11_in 7 = .ok (.lload 4, 2) := by decide +kernel
theorem dX11_in_9 : decode cX11_in 9 = .ok (.lcmp, 1) := by decide +kernel
theorem dX11_in_10 : decode cX11_in 10 = .ok (.ifCond .gt 7, 3) := by decide +kernel
theorem dX11_in_13 : decode cX11_in 13 = .ok (.iconst 1, 1) := by decide +kernel
theorem dX11_in_14 : decode cX11_in 14 = .ok (.goto 4, 3) := by decide +kernel
theorem dX11_in_17 : decode cX11_in 17 = .ok (.iconst 0, 1) := by decide +kernel
theorem dX11_in_18 : decode cX11_in 18 = .ok (.ireturn, 1) := by decide +kernel
theorem dX11_no_0 : decode cX11_no 0 = .ok (.ldc2_w 62, 3) := by decide +kernel
theorem dX11_no_3 : decode cX11_no 3 = .ok (.iload_n 0, 1) := by decide +kernel
theorem dX11_no_4 : decode cX11_no 4 = .ok (.i2l, 1) := by decide +kernel
theorem dX11_no_5 : decode cX11_no 5 = .ok (.lsub, 1) := by decide +kernel
theorem dX11_no_6 : decode cX11_no 6 = .ok (.lreturn, 1) := by decide +kernel
theorem dX11_isTwo_0 : decode cX11_isTwo 0 = .ok (.iload_n 0, 1) := by decide +kernel
theorem dX11_isTwo_1 : decode cX11_isTwo 1 = .ok (.i2l, 1) := by decide +kernel
theorem dX11_isTwo_2 : decode cX11_isTwo 2 = .ok (.lconst 0, 1) := by decide +kernel
theorem dX11_isTwo_3 : decode cX11_isTwo 3 = .ok (.lconst 1, 1) := by decide +kernel
theorem dX11_isTwo_4 : decode cX11_isTwo 4 = .ok (.invokestatic 64, 3) := by decide +kernel
theorem dX11_isTwo_7 : decode cX11_isTwo 7 = .ok (.ireturn, 1) := by decide +kernel
theorem dX11_isIn_0 : decode cX11_isIn 0 = .ok (.iload_n 0, 1) := by decide +kernel
theorem dX11_isIn_1 : decode cX11_isIn 1 = .ok (.iload_n 1, 1) := by decide +kernel
theorem dX11_isIn_2 : decode cX11_isIn 2 = .ok (.ishr, 1) := by decide +kernel
theorem dX11_isIn_3 : decode cX11_isIn 3 = .ok (.iconst 1, 1) := by decide +kernel
theorem dX11_isIn_4 : decode cX11_isIn 4 = .ok (.iand, 1) := by decide +kernel
theorem dX11_isIn_5 : decode cX11_isIn 5 = .ok (.iconst 1, 1) := by decide +kernel
theorem dX11_isIn_6 : decode cX11_isIn 6 = .ok (.if_icmp .ne 7, 3) := by decide +kernel
theorem dX11_isIn_9 : decode cX11_isIn 9 = .ok (.iconst 1, 1) := by decide +kernel
theorem dX11_isIn_10 : decode cX11_isIn 10 = .ok (.goto 4, 3) := by decide +kernel
theorem dX11_isIn_13 : decode cX11_isIn 13 = .ok (.iconst 0, 1) := by decide +kernel
theorem dX11_isIn_14 : decode cX11_isIn 14 = .ok (.ireturn, 1) := by decide +kernel
theorem dX11_ones_0 : decode cX11_ones 0 = .ok (.iconst 0, 1) := by decide +kernel
theorem dX11_ones_1 : decode cX11_ones 1 = .ok (.istore_n 1, 1) := by decide +kernel
theorem dX11_ones_2 : decode cX11_ones 2 = .ok (.iload_n 0, 1) := by decide +kernel
theorem dX11_ones_3 : decode cX11_ones 3 = .ok (.istore_n 2, 1) := by decide +kernel
theorem dX11_ones_4 : decode cX11_ones 4 = .ok (.iload_n 2, 1) := by decide +kernel
theorem dX11_ones_5 : decode cX11_ones 5 = .ok (.ifCond .eq 15, 3) := by decide +kernel
theorem dX11_ones_8 : decode cX11_ones 8 = .ok (.iinc 1 1, 3) := by decide +kernel
theorem dX11_ones_11 : decode cX11_ones 11 = .ok (.iload_n 2, 1) := by decide +kernel
theorem dX11_ones_12 : decode cX11_ones 12 = .ok (.iload_n 2, 1) := by decide +kernel
theorem dX11_ones_13 : decode cX11_ones 13 = .ok (.iconst 1, 1) := by decide +kernel
theorem dX11_ones_14 : decode cX11_ones 14 = .ok (.isub, 1) := by decide +kernel
theorem dX11_ones_15 : decode cX11_ones 15 = .ok (.iand, 1) := by decide +kernel
theorem dX11_ones_16 : decode cX11_ones 16 = .ok (.istore_n 2, 1) := by decide +kernel
theorem dX11_ones_17 : decode cX11_ones 17 = .ok (.goto (-13), 3) := by decide +kernel
theorem dX11_ones_20 : decode cX11_ones 20 = .ok (.iload_n 1, 1) := by decide +kernel
theorem dX11_ones_21 : decode cX11_ones 21 = .ok (.ireturn, 1) := by decide +kernel
theorem dX11_lesser_0 : decode cX11_lesser 0 = .ok (.iload_n 0, 1) := by decide +kernel
theorem dX11_lesser_1 : decode cX11_lesser 1 = .ok (.iload_n 1, 1) := by decide +kernel
theorem dX11_lesser_2 : decode cX11_lesser 2 = .ok (.if_icmp .ge 7, 3) := by decide +kernel
theorem dX11_lesser_5 : decode cX11_lesser 5 = .ok (.iload_n 0, 1) := by decide +kernel
theorem dX11_lesser_6 : decode cX11_lesser 6 = .ok (.goto 4, 3) := by decide +kernel
theorem dX11_lesser_9 : decode cX11_lesser 9 = .ok (.iload_n 1, 1) := by decide +kernel
theorem dX11_lesser_10 : decode cX11_lesser 10 = .ok (.ireturn, 1) := by decide +kernel
theorem dX11_least0_0 : decode cX11_least0 0 = .ok (.iload_n 0, 1) := by decide +kernel
theorem dX11_least0_1 : decode cX11_least0 1 = .ok (.ifCond .ge 7, 3) := by decide +kernel
theorem dX11_least0_4 : decode cX11_least0 4 = .ok (.iconst 0, 1) := by decide +kernel
theorem dX11_least0_5 : decode cX11_least0 5 = .ok (.goto 4, 3) := by decide +kernel
theorem dX11_least0_8 : decode cX11_least0 8 = .ok (.iload_n 0, 1) := by decide +kernel
theorem dX11_least0_9 : decode cX11_least0 9 = .ok (.ireturn, 1) := by decide +kernel
theorem dX11_part_0 : decode cX11_part 0 = .ok (.lload_n 0, 1) := by decide +kernel
theorem dX11_part_1 : decode cX11_part 1 = .ok (.lstore 5, 2) := by decide +kernel
theorem dX11_part_3 : decode cX11_part 3 = .ok (.lload_n 2, 1) := by decide +kernel
theorem dX11_part_4 : decode cX11_part 4 = .ok (.lstore 7, 2) := by decide +kernel
theorem dX11_part_6 : decode cX11_part 6 = .ok (.lload 7, 2) := by decide +kernel
theorem dX11_part_8 : decode cX11_part 8 = .ok (.lconst 0, 1) := by decide +kernel
theorem dX11_part_9 : decode cX11_part 9 = .ok (.lcmp, 1) := by decide +kernel
theorem dX11_part_10 : decode cX11_part 10 = .ok (.ifCond .eq 21, 3) := by decide +kernel
theorem dX11_part_13 : decode cX11_part 13 = .ok (.lload 5, 2) := by decide +kernel
theorem dX11_part_15 : decode cX11_part 15 = .ok (.lload 7, 2) := by decide +kernel
theorem dX11_part_17 : decode cX11_part 17 = .ok (.lrem, 1) := by decide +kernel
theorem dX11_part_18 : decode cX11_part 18 = .ok (.lstore 9, 2) := by decide +kernel
theorem dX11_part_20 : decode cX11_part 20 = .ok (.lload 7, 2) := by decide +kernel
theorem dX11_part_22 : decode cX11_part 22 = .ok (.lstore 5, 2) := by decide +kernel
theorem dX11_part_24 : decode cX11_part 24 = .ok (.lload 9, 2) := by decide +kernel
theorem dX11_part_26 : decode cX11_part 26 = .ok (.lstore 7, 2) := by decide +kernel
theorem dX11_part_28 : decode cX11_part 28 = .ok (.goto (-22), 3) := by decide +kernel
theorem dX11_part_31 : decode cX11_part 31 = .ok (.iload 4, 2) := by decide +kernel
theorem dX11_part_33 : decode cX11_part 33 = .ok (.ifCond .ne 7, 3) := by decide +kernel
theorem dX11_part_36 : decode cX11_part 36 = .ok (.lload_n 0, 1) := by decide +kernel
theorem dX11_part_37 : decode cX11_part 37 = .ok (.goto 4, 3) := by decide +kernel
theorem dX11_part_40 : decode cX11_part 40 = .ok (.lload_n 2, 1) := by decide +kernel
theorem dX11_part_41 : decode cX11_part 41 = .ok (.lload 5, 2) := by decide +kernel
theorem dX11_part_43 : decode cX11_part 43 = .ok (.ldiv, 1) := by decide +kernel
theorem dX11_part_44 : decode cX11_part 44 = .ok (.lreturn, 1) := by decide +kernel
theorem dX11_finds_0 : decode cX11_finds 0 = .ok (.aload_n 0, 1) := by decide +kernel
theorem dX11_finds_1 : decode cX11_finds 1 = .ok (.iload_n 1, 1) := by decide +kernel
theorem dX11_finds_2 : decode cX11_finds 2 = .ok (.putfield 68, 3) := by decide +kernel
theorem dX11_finds_5 : decode cX11_finds 5 = .ok (.bipush (-10), 2) := by decide +kernel
theorem dX11_finds_7 : decode cX11_finds 7 = .ok (.iload_n 1, 1) := by decide +kernel
theorem dX11_finds_8 : decode cX11_finds 8 = .ok (.isub, 1) := by decide +kernel
theorem dX11_finds_9 : decode cX11_finds 9 = .ok (.ireturn, 1) := by decide +kernel
theorem dX11_isSheet_0 : decode cX11_isSheet 0 = .ok (.iload_n 0, 1) := by decide +kernel
theorem dX11_isSheet_1 : decode cX11_isSheet 1 = .ok (.i2l, 1) := by decide +kernel
theorem dX11_isSheet_2 : decode cX11_isSheet 2 = .ok (.lconst 0, 1) := by decide +kernel
theorem dX11_isSheet_3 : decode cX11_isSheet 3 = .ok (.ldc2_w 71, 3) := by decide +kernel
theorem dX11_isSheet_6 : decode cX11_isSheet 6 = .ok (.invokestatic 64, 3) := by decide +kernel
theorem dX11_isSheet_9 : decode cX11_isSheet 9 = .ok (.ireturn, 1) := by decide +kernel
theorem dX11_sheet_0 : decode cX11_sheet 0 = .ok (.iload_n 1, 1) := by decide +kernel
theorem dX11_sheet_1 : decode cX11_sheet 1 = .ok (.invokestatic 73, 3) := by decide +kernel
theorem dX11_sheet_4 : decode cX11_sheet 4 = .ok (.ifCond .eq 21, 3) := by decide +kernel
theorem dX11_sheet_7 : decode cX11_sheet 7 = .ok (.iload_n 2, 1) := by decide +kernel
theorem dX11_sheet_8 : decode cX11_sheet 8 = .ok (.i2l, 1) := by decide +kernel
theorem dX11_sheet_9 : decode cX11_sheet 9 = .ok (.lconst 0, 1) := by decide +kernel
theorem dX11_sheet_10 : decode cX11_sheet 10 = .ok (.ldc2_w 77, 3) := by decide +kernel
theorem dX11_sheet_13 : decode cX11_sheet 13 = .ok (.invokestatic 64, 3) := by decide +kernel
theorem dX11_sheet_16 : decode cX11_sheet 16 = .ok (.ifCond .eq 9, 3) := by decide +kernel
theorem dX11_sheet_19 : decode cX11_sheet 19 = .ok (.iload_n 3, 1) := by decide +kernel
theorem dX11_sheet_20 : decode cX11_sheet 20 = .ok (.bipush 60, 2) := by decide +kernel
theorem dX11_sheet_22 : decode cX11_sheet 22 = .ok (.if_icmp .le 6, 3) := by decide +kernel
theorem dX11_sheet_25 : decode cX11_sheet 25 = .ok (.bipush (-2), 2) := by decide +kernel
theorem dX11_sheet_27 : decode cX11_sheet 27 = .ok (.ireturn, 1) := by decide +kernel
theorem dX11_sheet_28 : decode cX11_sheet 28 = .ok (.iload_n 3, 1) := by decide +kernel
theorem dX11_sheet_29 : decode cX11_sheet 29 = .ok (.ifCond .ge 9, 3) := by decide +kernel
theorem dX11_sheet_32 : decode cX11_sheet 32 = .ok (.aload_n 0, 1) := by decide +kernel
theorem dX11_sheet_33 : decode cX11_sheet 33 = .ok (.iconst 5, 1) := by decide +kernel
theorem dX11_sheet_34 : decode cX11_sheet 34 = .ok (.invokevirtual 79, 3) := by decide +kernel
theorem dX11_sheet_37 : decode cX11_sheet 37 = .ok (.ireturn, 1) := by decide +kernel
theorem dX11_sheet_38 : decode cX11_sheet 38 = .ok (.aload_n 0, 1) := by decide +kernel
theorem dX11_sheet_39 : decode cX11_sheet 39 = .ok (.getfield 7, 3) := by decide +kernel
theorem dX11_sheet_42 : decode cX11_sheet 42 = .ok (.iload_n 1, 1) := by decide +kernel
theorem dX11_sheet_43 : decode cX11_sheet 43 = .ok (.iload_n 2, 1) := by decide +kernel
theorem dX11_sheet_44 : decode cX11_sheet 44 = .ok (.iastore, 1) := by decide +kernel
theorem dX11_sheet_45 : decode cX11_sheet 45 = .ok (.aload_n 0, 1) := by decide +kernel
theorem dX11_sheet_46 : decode cX11_sheet 46 = .ok (.getfield 13, 3) := by decide +kernel
theorem dX11_sheet_49 : decode cX11_sheet 49 = .ok (.iload_n 1, 1) := by decide +kernel
theorem dX11_sheet_50 : decode cX11_sheet 50 = .ok (.iload_n 3, 1) := by decide +kernel
theorem dX11_sheet_51 : decode cX11_sheet 51 = .ok (.iastore, 1) := by decide +kernel
theorem dX11_sheet_52 : decode cX11_sheet 52 = .ok (.iconst 0, 1) := by decide +kernel
theorem dX11_sheet_53 : decode cX11_sheet 53 = .ok (.istore 4, 2) := by decide +kernel
theorem dX11_sheet_55 : decode cX11_sheet 55 = .ok (.iload 4, 2) := by decide +kernel
theorem dX11_sheet_57 : decode cX11_sheet 57 = .ok (.iload_n 3, 1) := by decide +kernel
theorem dX11_sheet_58 : decode cX11_sheet 58 = .ok (.if_icmp .ge 22, 3) := by decide +kernel
theorem dX11_sheet_61 : decode cX11_sheet 61 = .ok (.aload_n 0, 1) := by decide +kernel
theorem dX11_sheet_62 : decode cX11_sheet 62 = .ok (.getfield 16, 3) := by decide +kernel
theorem dX11_sheet_65 : decode cX11_sheet 65 = .ok (.bipush 60, 2) := by decide +kernel
theorem dX11_sheet_67 : decode cX11_sheet 67 = .ok (.iload_n 1, 1) := by decide +kernel
theorem dX11_sheet_68 : decode cX11_sheet 68 = .ok (.imul, 1) := by decide +kernel
theorem dX11_sheet_69 : decode cX11_sheet 69 = .ok (.iload 4, 2) := by decide +kernel
theorem dX11_sheet_71 : decode cX11_sheet 71 = .ok (.iadd, 1) := by decide +kernel
theorem dX11_sheet_72 : decode cX11_sheet 72 = .ok (.iconst 0, 1) := by decide +kernel
theorem dX11_sheet_73 : decode cX11_sheet 73 = .ok (.iastore, 1) := by decide +kernel
theorem dX11_sheet_74 : decode cX11_sheet 74 = .ok (.iinc 4 1, 3) := by decide +kernel
theorem dX11_sheet_77 : decode cX11_sheet 77 = .ok (.goto (-22), 3) := by decide +kernel
theorem dX11_sheet_80 : decode cX11_sheet 80 = .ok (.iload_n 3, 1) := by decide +kernel
theorem dX11_sheet_81 : decode cX11_sheet 81 = .ok (.ireturn, 1) := by decide +kernel
theorem dX11_lose_0 : decode cX11_lose 0 = .ok (.iload_n 1, 1) := by decide +kernel
theorem dX11_lose_1 : decode cX11_lose 1 = .ok (.invokestatic 73, 3) := by decide +kernel
theorem dX11_lose_4 : decode cX11_lose 4 = .ok (.ifCond .ne 6, 3) := by decide +kernel
theorem dX11_lose_7 : decode cX11_lose 7 = .ok (.bipush (-2), 2) := by decide +kernel
theorem dX11_lose_9 : decode cX11_lose 9 = .ok (.ireturn, 1) := by decide +kernel
theorem dX11_lose_10 : decode cX11_lose 10 = .ok (.aload_n 0, 1) := by decide +kernel
theorem dX11_lose_11 : decode cX11_lose 11 = .ok (.getfield 7, 3) := by decide +kernel
theorem dX11_lose_14 : decode cX11_lose 14 = .ok (.iload_n 1, 1) := by decide +kernel
theorem dX11_lose_15 : decode cX11_lose 15 = .ok (.iaload, 1) := by decide +kernel
theorem dX11_lose_16 : decode cX11_lose 16 = .ok (.ifCond .ge 9, 3) := by decide +kernel
theorem dX11_lose_19 : decode cX11_lose 19 = .ok (.aload_n 0, 1) := by decide +kernel
theorem dX11_lose_20 : decode cX11_lose 20 = .ok (.iconst 1, 1) := by decide +kernel
theorem dX11_lose_21 : decode cX11_lose 21 = .ok (.invokevirtual 79, 3) := by decide +kernel
theorem dX11_lose_24 : decode cX11_lose 24 = .ok (.ireturn, 1) := by decide +kernel
theorem dX11_lose_25 : decode cX11_lose 25 = .ok (.aload_n 0, 1) := by decide +kernel
theorem dX11_lose_26 : decode cX11_lose 26 = .ok (.getfield 7, 3) := by decide +kernel
theorem dX11_lose_29 : decode cX11_lose 29 = .ok (.iload_n 1, 1) := by decide +kernel
theorem dX11_lose_30 : decode cX11_lose 30 = .ok (.iconst (-1), 1) := by decide +kernel
theorem dX11_lose_31 : decode cX11_lose 31 = .ok (.iastore, 1) := by decide +kernel
theorem dX11_lose_32 : decode cX11_lose 32 = .ok (.aload_n 0, 1) := by decide +kernel
theorem dX11_lose_33 : decode cX11_lose 33 = .ok (.getfield 13, 3) := by decide +kernel
theorem dX11_lose_36 : decode cX11_lose 36 = .ok (.iload_n 1, 1) := by decide +kernel
theorem dX11_lose_37 : decode cX11_lose 37 = .ok (.iaload, 1) := by decide +kernel
theorem dX11_lose_38 : decode cX11_lose 38 = .ok (.ireturn, 1) := by decide +kernel
theorem dX11_lacks_0 : decode cX11_lacks 0 = .ok (.aload_n 0, 1) := by decide +kernel
theorem dX11_lacks_1 : decode cX11_lacks 1 = .ok (.getfield 7, 3) := by decide +kernel
theorem dX11_lacks_4 : decode cX11_lacks 4 = .ok (.iload_n 1, 1) := by decide +kernel
theorem dX11_lacks_5 : decode cX11_lacks 5 = .ok (.iaload, 1) := by decide +kernel
theorem dX11_lacks_6 : decode cX11_lacks 6 = .ok (.ifCond .ge 9, 3) := by decide +kernel
theorem dX11_lacks_9 : decode cX11_lacks 9 = .ok (.aload_n 0, 1) := by decide +kernel
theorem dX11_lacks_10 : decode cX11_lacks 10 = .ok (.iconst 1, 1) := by decide +kernel
theorem dX11_lacks_11 : decode cX11_lacks 11 = .ok (.invokevirtual 79, 3) := by decide +kernel
theorem dX11_lacks_14 : decode cX11_lacks 14 = .ok (.ireturn, 1) := by decide +kernel
theorem dX11_lacks_15 : decode cX11_lacks 15 = .ok (.aload_n 0, 1) := by decide +kernel
theorem dX11_lacks_16 : decode cX11_lacks 16 = .ok (.getfield 7, 3) := by decide +kernel
theorem dX11_lacks_19 : decode cX11_lacks 19 = .ok (.iload_n 1, 1) := by decide +kernel
theorem dX11_lacks_20 : decode cX11_lacks 20 = .ok (.iaload, 1) := by decide +kernel
theorem dX11_lacks_21 : decode cX11_lacks 21 = .ok (.iload_n 2, 1) := by decide +kernel
theorem dX11_lacks_22 : decode cX11_lacks 22 = .ok (.if_icmp .eq 9, 3) := by decide +kernel
theorem dX11_lacks_25 : decode cX11_lacks 25 = .ok (.aload_n 0, 1) := by decide +kernel
theorem dX11_lacks_26 : decode cX11_lacks 26 = .ok (.iconst 3, 1) := by decide +kernel
theorem dX11_lacks_27 : decode cX11_lacks 27 = .ok (.invokevirtual 79, 3) := by decide +kernel
theorem dX11_lacks_30 : decode cX11_lacks 30 = .ok (.ireturn, 1) := by decide +kernel
theorem dX11_lacks_31 : decode cX11_lacks 31 = .ok (.iload_n 3, 1) := by decide +kernel
theorem dX11_lacks_32 : decode cX11_lacks 32 = .ok (.i2l, 1) := by decide +kernel
theorem dX11_lacks_33 : decode cX11_lacks 33 = .ok (.lconst 0, 1) := by decide +kernel
theorem dX11_lacks_34 : decode cX11_lacks 34 = .ok (.aload_n 0, 1) := by decide +kernel
theorem dX11_lacks_35 : decode cX11_lacks 35 = .ok (.getfield 13, 3) := by decide +kernel
theorem dX11_lacks_38 : decode cX11_lacks 38 = .ok (.iload_n 1, 1) := by decide +kernel
theorem dX11_lacks_39 : decode cX11_lacks 39 = .ok (.iaload, 1) := by decide +kernel
theorem dX11_lacks_40 : decode cX11_lacks 40 = .ok (.iconst 1, 1) := by decide +kernel
theorem dX11_lacks_41 : decode cX11_lacks 41 = .ok (.isub, 1) := by decide +kernel
theorem dX11_lacks_42 : decode cX11_lacks 42 = .ok (.i2l, 1) := by decide +kernel
theorem dX11_lacks_43 : decode cX11_lacks 43 = .ok (.invokestatic 64, 3) := by decide +kernel
theorem dX11_lacks_46 : decode cX11_lacks 46 = .ok (.ifCond .eq 7, 3) := by decide +kernel
theorem dX11_lacks_49 : decode cX11_lacks 49 = .ok (.iconst 0, 1) := by decide +kernel
theorem dX11_lacks_50 : decode cX11_lacks 50 = .ok (.goto 8, 3) := by decide +kernel
theorem dX11_lacks_53 : decode cX11_lacks 53 = .ok (.aload_n 0, 1) := by decide +kernel
theorem dX11_lacks_54 : decode cX11_lacks 54 = .ok (.iconst 2, 1) := by decide +kernel
theorem dX11_lacks_55 : decode cX11_lacks 55 = .ok (.invokevirtual 79, 3) := by decide +kernel
theorem dX11_lacks_58 : decode cX11_lacks 58 = .ok (.ireturn, 1) := by decide +kernel
theorem dX11_cut_0 : decode cX11_cut 0 = .ok (.iload_n 0, 1) := by decide +kernel
theorem dX11_cut_1 : decode cX11_cut 1 = .ok (.ifCond .ne 8, 3) := by decide +kernel
theorem dX11_cut_4 : decode cX11_cut 4 = .ok (.iload_n 1, 1) := by decide +kernel
theorem dX11_cut_5 : decode cX11_cut 5 = .ok (.i2b, 1) := by decide +kernel
theorem dX11_cut_6 : decode cX11_cut 6 = .ok (.goto 14, 3) := by decide +kernel
theorem dX11_cut_9 : decode cX11_cut 9 = .ok (.iload_n 0, 1) := by decide +kernel
theorem dX11_cut_10 : decode cX11_cut 10 = .ok (.iconst 1, 1) := by decide +kernel
theorem dX11_cut_11 : decode cX11_cut 11 = .ok (.if_icmp .ne 8, 3) := by decide +kernel
theorem dX11_cut_14 : decode cX11_cut 14 = .ok (.iload_n 1, 1) := by decide +kernel
theorem dX11_cut_15 : decode cX11_cut 15 = .ok (.i2s, 1) := by decide +kernel
theorem dX11_cut_16 : decode cX11_cut 16 = .ok (.goto 4, 3) := by decide +kernel
theorem dX11_cut_19 : decode cX11_cut 19 = .ok (.iload_n 1, 1) := by decide +kernel
theorem dX11_cut_20 : decode cX11_cut 20 = .ok (.ireturn, 1) := by decide +kernel
theorem dX11_lay_0 : decode cX11_lay 0 = .ok (.iload_n 1, 1) := by decide +kernel
theorem dX11_lay_1 : decode cX11_lay 1 = .ok (.invokestatic 73, 3) := by decide +kernel
theorem dX11_lay_4 : decode cX11_lay 4 = .ok (.ifCond .eq 15, 3) := by decide +kernel
theorem dX11_lay_7 : decode cX11_lay 7 = .ok (.iload_n 2, 1) := by decide +kernel
theorem dX11_lay_8 : decode cX11_lay 8 = .ok (.i2l, 1) := by decide +kernel
theorem dX11_lay_9 : decode cX11_lay 9 = .ok (.lconst 0, 1) := by decide +kernel
theorem dX11_lay_10 : decode cX11_lay 10 = .ok (.ldc2_w 77, 3) := by decide +kernel
theorem dX11_lay_13 : decode cX11_lay 13 = .ok (.invokestatic 64, 3) := by decide +kernel
theorem dX11_lay_16 : decode cX11_lay 16 = .ok (.ifCond .ne 6, 3) := by decide +kernel
theorem dX11_lay_19 : decode cX11_lay 19 = .ok (.bipush (-2), 2) := by decide +kernel
theorem dX11_lay_21 : decode cX11_lay 21 = .ok (.ireturn, 1) := by decide +kernel
theorem dX11_lay_22 : decode cX11_lay 22 = .ok (.aload_n 0, 1) := by decide +kernel
theorem dX11_lay_23 : decode cX11_lay 23 = .ok (.iload_n 1, 1) := by decide +kernel
theorem dX11_lay_24 : decode cX11_lay 24 = .ok (.iload_n 2, 1) := by decide +kernel
theorem dX11_lay_25 : decode cX11_lay 25 = .ok (.iload_n 3, 1) := by decide +kernel
theorem dX11_lay_26 : decode cX11_lay 26 = .ok (.invokevirtual 83, 3) := by decide +kernel
theorem dX11_lay_29 : decode cX11_lay 29 = .ok (.istore 5, 2) := by decide +kernel
theorem dX11_lay_31 : decode cX11_lay 31 = .ok (.iload 5, 2) := by decide +kernel
theorem dX11_lay_33 : decode cX11_lay 33 = .ok (.ifCond .eq 6, 3) := by decide +kernel
theorem dX11_lay_36 : decode cX11_lay 36 = .ok (.iload 5, 2) := by decide +kernel
theorem dX11_lay_38 : decode cX11_lay 38 = .ok (.ireturn, 1) := by decide +kernel
theorem dX11_lay_39 : decode cX11_lay 39 = .ok (.aload_n 0, 1) := by decide +kernel
theorem dX11_lay_40 : decode cX11_lay 40 = .ok (.getfield 16, 3) := by decide +kernel
theorem dX11_lay_43 : decode cX11_lay 43 = .ok (.bipush 60, 2) := by decide +kernel
theorem dX11_lay_45 : decode cX11_lay 45 = .ok (.iload_n 1, 1) := by decide +kernel
theorem dX11_lay_46 : decode cX11_lay 46 = .ok (.imul, 1) := by decide +kernel
theorem dX11_lay_47 : decode cX11_lay 47 = .ok (.iload_n 3, 1) := by decide +kernel
theorem dX11_lay_48 : decode cX11_lay 48 = .ok (.iadd, 1) := by decide +kernel
theorem dX11_lay_49 : decode cX11_lay 49 = .ok (.iload_n 2, 1) := by decide +kernel
theorem dX11_lay_50 : decode cX11_lay 50 = .ok (.iload 4, 2) := by decide +kernel
theorem dX11_lay_52 : decode cX11_lay 52 = .ok (.invokestatic 87, 3) := by decide +kernel
theorem dX11_lay_55 : decode cX11_lay 55 = .ok (.iastore, 1) := by decide +kernel
theorem dX11_lay_56 : decode cX11_lay 56 = .ok (.iconst 1, 1) := by decide +kernel
theorem dX11_lay_57 : decode cX11_lay 57 = .ok (.ireturn, 1) := by decide +kernel
theorem dX11_get_0 : decode cX11_get 0 = .ok (.iload_n 1, 1) := by decide +kernel
theorem dX11_get_1 : decode cX11_get 1 = .ok (.invokestatic 73, 3) := by decide +kernel
theorem dX11_get_4 : decode cX11_get 4 = .ok (.ifCond .eq 25, 3) := by decide +kernel
theorem dX11_get_7 : decode cX11_get 7 = .ok (.iload_n 2, 1) := by decide +kernel
theorem dX11_get_8 : decode cX11_get 8 = .ok (.i2l, 1) := by decide +kernel
theorem dX11_get_9 : decode cX11_get 9 = .ok (.lconst 0, 1) := by decide +kernel
theorem dX11_get_10 : decode cX11_get 10 = .ok (.ldc2_w 77, 3) := by decide +kernel
theorem dX11_get_13 : decode cX11_get 13 = .ok (.invokestatic 64, 3) := by decide +kernel
theorem dX11_get_16 : decode cX11_get 16 = .ok (.ifCond .eq 13, 3) := by decide +kernel
theorem dX11_get_19 : decode cX11_get 19 = .ok (.aload_n 0, 1) := by decide +kernel
theorem dX11_get_20 : decode cX11_get 20 = .ok (.iload_n 1, 1) := by decide +kernel
theorem dX11_get_21 : decode cX11_get 21 = .ok (.iload_n 2, 1) := by decide +kernel
theorem dX11_get_22 : decode cX11_get 22 = .ok (.iload_n 3, 1) := by decide +kernel
theorem dX11_get_23 : decode cX11_get 23 = .ok (.invokevirtual 83, 3) := by decide +kernel
theorem dX11_get_26 : decode cX11_get 26 = .ok (.ifCond .eq 6, 3) := by decide +kernel
theorem dX11_get_29 : decode cX11_get 29 = .ok (.ldc 91, 2) := by decide +kernel
theorem dX11_get_31 : decode cX11_get 31 = .ok (.ireturn, 1) := by decide +kernel
theorem dX11_get_32 : decode cX11_get 32 = .ok (.aload_n 0, 1) := by decide +kernel
theorem dX11_get_33 : decode cX11_get 33 = .ok (.getfield 16, 3) := by decide +kernel
theorem dX11_get_36 : decode cX11_get 36 = .ok (.bipush 60, 2) := by decide +kernel
theorem dX11_get_38 : decode cX11_get 38 = .ok (.iload_n 1, 1) := by decide +kernel
theorem dX11_get_39 : decode cX11_get 39 = .ok (.imul, 1) := by decide +kernel
theorem dX11_get_40 : decode cX11_get 40 = .ok (.iload_n 3, 1) := by decide +kernel
theorem dX11_get_41 : decode cX11_get 41 = .ok (.iadd, 1) := by decide +kernel
theorem dX11_get_42 : decode cX11_get 42 = .ok (.iaload, 1) := by decide +kernel
theorem dX11_get_43 : decode cX11_get 43 = .ok (.ireturn, 1) := by decide +kernel
theorem dX11_copy_0 : decode cX11_copy 0 = .ok (.iload_n 1, 1) := by decide +kernel
theorem dX11_copy_1 : decode cX11_copy 1 = .ok (.invokestatic 73, 3) := by decide +kernel
theorem dX11_copy_4 : decode cX11_copy 4 = .ok (.ifCond .eq 10, 3) := by decide +kernel
theorem dX11_copy_7 : decode cX11_copy 7 = .ok (.iload_n 3, 1) := by decide +kernel
theorem dX11_copy_8 : decode cX11_copy 8 = .ok (.invokestatic 73, 3) := by decide +kernel
theorem dX11_copy_11 : decode cX11_copy 11 = .ok (.ifCond .ne 6, 3) := by decide +kernel
theorem dX11_copy_14 : decode cX11_copy 14 = .ok (.bipush (-2), 2) := by decide +kernel
theorem dX11_copy_16 : decode cX11_copy 16 = .ok (.ireturn, 1) := by decide +kernel
theorem dX11_copy_17 : decode cX11_copy 17 = .ok (.aload_n 0, 1) := by decide +kernel
theorem dX11_copy_18 : decode cX11_copy 18 = .ok (.getfield 7, 3) := by decide +kernel
theorem dX11_copy_21 : decode cX11_copy 21 = .ok (.iload_n 1, 1) := by decide +kernel
theorem dX11_copy_22 : decode cX11_copy 22 = .ok (.iaload, 1) := by decide +kernel
theorem dX11_copy_23 : decode cX11_copy 23 = .ok (.ifCond .lt 12, 3) := by decide +kernel
theorem dX11_copy_26 : decode cX11_copy 26 = .ok (.aload_n 0, 1) := by decide +kernel
theorem dX11_copy_27 : decode cX11_copy 27 = .ok (.getfield 7, 3) := by decide +kernel
theorem dX11_copy_30 : decode cX11_copy 30 = .ok (.iload_n 3, 1) := by decide +kernel
theorem dX11_copy_31 : decode cX11_copy 31 = .ok (.iaload, 1) := by decide +kernel
theorem dX11_copy_32 : decode cX11_copy 32 = .ok (.ifCond .ge 9, 3) := by decide +kernel
theorem dX11_copy_35 : decode cX11_copy 35 = .ok (.aload_n 0, 1) := by decide +kernel
theorem dX11_copy_36 : decode cX11_copy 36 = .ok (.iconst 1, 1) := by decide +kernel
theorem dX11_copy_37 : decode cX11_copy 37 = .ok (.invokevirtual 79, 3) := by decide +kernel
theorem dX11_copy_40 : decode cX11_copy 40 = .ok (.ireturn, 1) := by decide +kernel
theorem dX11_copy_41 : decode cX11_copy 41 = .ok (.aload_n 0, 1) := by decide +kernel
theorem dX11_copy_42 : decode cX11_copy 42 = .ok (.getfield 7, 3) := by decide +kernel
theorem dX11_copy_45 : decode cX11_copy 45 = .ok (.iload_n 1, 1) := by decide +kernel
theorem dX11_copy_46 : decode cX11_copy 46 = .ok (.iaload, 1) := by decide +kernel
theorem dX11_copy_47 : decode cX11_copy 47 = .ok (.aload_n 0, 1) := by decide +kernel
theorem dX11_copy_48 : decode cX11_copy 48 = .ok (.getfield 7, 3) := by decide +kernel
theorem dX11_copy_51 : decode cX11_copy 51 = .ok (.iload_n 3, 1) := by decide +kernel
theorem dX11_copy_52 : decode cX11_copy 52 = .ok (.iaload, 1) := by decide +kernel
theorem dX11_copy_53 : decode cX11_copy 53 = .ok (.if_icmp .eq 9, 3) := by decide +kernel
theorem dX11_copy_56 : decode cX11_copy 56 = .ok (.aload_n 0, 1) := by decide +kernel
theorem dX11_copy_57 : decode cX11_copy 57 = .ok (.iconst 4, 1) := by decide +kernel
theorem dX11_copy_58 : decode cX11_copy 58 = .ok (.invokevirtual 79, 3) := by decide +kernel
theorem dX11_copy_61 : decode cX11_copy 61 = .ok (.ireturn, 1) := by decide +kernel
theorem dX11_copy_62 : decode cX11_copy 62 = .ok (.iload_n 2, 1) := by decide +kernel
theorem dX11_copy_63 : decode cX11_copy 63 = .ok (.ifCond .lt 48, 3) := by decide +kernel
theorem dX11_copy_66 : decode cX11_copy 66 = .ok (.iload 4, 2) := by decide +kernel
theorem dX11_copy_68 : decode cX11_copy 68 = .ok (.ifCond .lt 43, 3) := by decide +kernel
theorem dX11_copy_71 : decode cX11_copy 71 = .ok (.iload 5, 2) := by decide +kernel
theorem dX11_copy_73 : decode cX11_copy 73 = .ok (.ifCond .lt 38, 3) := by decide +kernel
theorem dX11_copy_76 : decode cX11_copy 76 = .ok (.iload_n 2, 1) := by decide +kernel
theorem dX11_copy_77 : decode cX11_copy 77 = .ok (.i2l, 1) := by decide +kernel
theorem dX11_copy_78 : decode cX11_copy 78 = .ok (.iload 5, 2) := by decide +kernel
theorem dX11_copy_80 : decode cX11_copy 80 = .ok (.i2l, 1) := by decide +kernel
theorem dX11_copy_81 : decode cX11_copy 81 = .ok (.ladd, 1) := by decide +kernel
theorem dX11_copy_82 : decode cX11_copy 82 = .ok (.aload_n 0, 1) := by decide +kernel
theorem dX11_copy_83 : decode cX11_copy 83 = .ok (.getfield 13, 3) := by decide +kernel
theorem dX11_copy_86 : decode cX11_copy 86 = .ok (.iload_n 1, 1) := by decide +kernel
theorem dX11_copy_87 : decode cX11_copy 87 = .ok (.iaload, 1) := by decide +kernel
theorem dX11_copy_88 : decode cX11_copy 88 = .ok (.i2l, 1) := by decide +kernel
theorem dX11_copy_89 : decode cX11_copy 89 = .ok (.lcmp, 1) := by decide +kernel
theorem dX11_copy_90 : decode cX11_copy 90 = .ok (.ifCond .gt 21, 3) := by decide +kernel
theorem dX11_copy_93 : decode cX11_copy 93 = .ok (.iload 4, 2) := by decide +kernel
theorem dX11_copy_95 : decode cX11_copy 95 = .ok (.i2l, 1) := by decide +kernel
theorem dX11_copy_96 : decode cX11_copy 96 = .ok (.iload 5, 2) := by decide +kernel
theorem dX11_copy_98 : decode cX11_copy 98 = .ok (.i2l, 1) := by decide +kernel
theorem dX11_copy_99 : decode cX11_copy 99 = .ok (.ladd, 1) := by decide +kernel
theorem dX11_copy_100 : decode cX11_copy 100 = .ok (.aload_n 0, 1) := by decide +kernel
theorem dX11_copy_101 : decode cX11_copy 101 = .ok (.getfield 13, 3) := by decide +kernel
theorem dX11_copy_104 : decode cX11_copy 104 = .ok (.iload_n 3, 1) := by decide +kernel
theorem dX11_copy_105 : decode cX11_copy 105 = .ok (.iaload, 1) := by decide +kernel
theorem dX11_copy_106 : decode cX11_copy 106 = .ok (.i2l, 1) := by decide +kernel
theorem dX11_copy_107 : decode cX11_copy 107 = .ok (.lcmp, 1) := by decide +kernel
theorem dX11_copy_108 : decode cX11_copy 108 = .ok (.ifCond .le 9, 3) := by decide +kernel
theorem dX11_copy_111 : decode cX11_copy 111 = .ok (.aload_n 0, 1) := by decide +kernel
theorem dX11_copy_112 : decode cX11_copy 112 = .ok (.iconst 2, 1) := by decide +kernel
theorem dX11_copy_113 : decode cX11_copy 113 = .ok (.invokevirtual 79, 3) := by decide +kernel
theorem dX11_copy_116 : decode cX11_copy 116 = .ok (.ireturn, 1) := by decide +kernel
theorem dX11_copy_117 : decode cX11_copy 117 = .ok (.iconst 0, 1) := by decide +kernel
theorem dX11_copy_118 : decode cX11_copy 118 = .ok (.istore 6, 2) := by decide +kernel
theorem dX11_copy_120 : decode cX11_copy 120 = .ok (.iload 6, 2) := by decide +kernel
theorem dX11_copy_122 : decode cX11_copy 122 = .ok (.iload 5, 2) := by decide +kernel
theorem dX11_copy_124 : decode cX11_copy 124 = .ok (.if_icmp .ge 30, 3) := by decide +kernel
theorem dX11_copy_127 : decode cX11_copy 127 = .ok (.aload_n 0, 1) := by decide +kernel
theorem dX11_copy_128 : decode cX11_copy 128 = .ok (.getfield 19, 3) := by decide +kernel
theorem dX11_copy_131 : decode cX11_copy 131 = .ok (.iload 6, 2) := by decide +kernel
theorem dX11_copy_133 : decode cX11_copy 133 = .ok (.aload_n 0, 1) := by decide +kernel
theorem dX11_copy_134 : decode cX11_copy 134 = .ok (.getfield 16, 3) := by decide +kernel
theorem dX11_copy_137 : decode cX11_copy 137 = .ok (.bipush 60, 2) := by decide +kernel
theorem dX11_copy_139 : decode cX11_copy 139 = .ok (.iload_n 1, 1) := by decide +kernel
theorem dX11_copy_140 : decode cX11_copy 140 = .ok (.imul, 1) := by decide +kernel
theorem dX11_copy_141 : decode cX11_copy 141 = .ok (.iload_n 2, 1) := by decide +kernel
theorem dX11_copy_142 : decode cX11_copy 142 = .ok (.iadd, 1) := by decide +kernel
theorem dX11_copy_143 : decode cX11_copy 143 = .ok (.iload 6, 2) := by decide +kernel
theorem dX11_copy_145 : decode cX11_copy 145 = .ok (.iadd, 1) := by decide +kernel
theorem dX11_copy_146 : decode cX11_copy 146 = .ok (.iaload, 1) := by decide +kernel
theorem dX11_copy_147 : decode cX11_copy 147 = .ok (.iastore, 1) := by decide +kernel
theorem dX11_copy_148 : decode cX11_copy 148 = .ok (.iinc 6 1, 3) := by decide +kernel
theorem dX11_copy_151 : decode cX11_copy 151 = .ok (.goto (-31), 3) := by decide +kernel
theorem dX11_copy_154 : decode cX11_copy 154 = .ok (.iconst 0, 1) := by decide +kernel
theorem dX11_copy_155 : decode cX11_copy 155 = .ok (.istore 6, 2) := by decide +kernel
theorem dX11_copy_157 : decode cX11_copy 157 = .ok (.iload 6, 2) := by decide +kernel
theorem dX11_copy_159 : decode cX11_copy 159 = .ok (.iload 5, 2) := by decide +kernel
theorem dX11_copy_161 : decode cX11_copy 161 = .ok (.if_icmp .ge 31, 3) := by decide +kernel
theorem dX11_copy_164 : decode cX11_copy 164 = .ok (.aload_n 0, 1) := by decide +kernel
theorem dX11_copy_165 : decode cX11_copy 165 = .ok (.getfield 16, 3) := by decide +kernel
theorem dX11_copy_168 : decode cX11_copy 168 = .ok (.bipush 60, 2) := by decide +kernel
theorem dX11_copy_170 : decode cX11_copy 170 = .ok (.iload_n 3, 1) := by decide +kernel
theorem dX11_copy_171 : decode cX11_copy 171 = .ok (.imul, 1) := by decide +kernel
theorem dX11_copy_172 : decode cX11_copy 172 = .ok (.iload 4, 2) := by decide +kernel
theorem dX11_copy_174 : decode cX11_copy 174 = .ok (.iadd, 1) := by decide +kernel
theorem dX11_copy_175 : decode cX11_copy 175 = .ok (.iload 6, 2) := by decide +kernel
theorem dX11_copy_177 : decode cX11_copy 177 = .ok (.iadd, 1) := by decide +kernel
theorem dX11_copy_178 : decode cX11_copy 178 = .ok (.aload_n 0, 1) := by decide +kernel
theorem dX11_copy_179 : decode cX11_copy 179 = .ok (.getfield 19, 3) := by decide +kernel
theorem dX11_copy_182 : decode cX11_copy 182 = .ok (.iload 6, 2) := by decide +kernel
theorem dX11_copy_184 : decode cX11_copy 184 = .ok (.iaload, 1) := by decide +kernel
theorem dX11_copy_185 : decode cX11_copy 185 = .ok (.iastore, 1) := by decide +kernel
theorem dX11_copy_186 : decode cX11_copy 186 = .ok (.iinc 6 1, 3) := by decide +kernel
theorem dX11_copy_189 : decode cX11_copy 189 = .ok (.goto (-32), 3) := by decide +kernel
theorem dX11_copy_192 : decode cX11_copy 192 = .ok (.iconst 1, 1) := by decide +kernel
theorem dX11_copy_193 : decode cX11_copy 193 = .ok (.ireturn, 1) := by decide +kernel
theorem dX11_type_0 : decode cX11_type 0 = .ok (.iload_n 1, 1) := by decide +kernel
theorem dX11_type_1 : decode cX11_type 1 = .ok (.i2l, 1) := by decide +kernel
theorem dX11_type_2 : decode cX11_type 2 = .ok (.lconst 0, 1) := by decide +kernel
theorem dX11_type_3 : decode cX11_type 3 = .ok (.ldc2_w 92, 3) := by decide +kernel
theorem dX11_type_6 : decode cX11_type 6 = .ok (.invokestatic 64, 3) := by decide +kernel
theorem dX11_type_9 : decode cX11_type 9 = .ok (.ifCond .ne 6, 3) := by decide +kernel
theorem dX11_type_12 : decode cX11_type 12 = .ok (.bipush (-2), 2) := by decide +kernel
theorem dX11_type_14 : decode cX11_type 14 = .ok (.ireturn, 1) := by decide +kernel
theorem dX11_type_15 : decode cX11_type 15 = .ok (.aload_n 0, 1) := by decide +kernel
theorem dX11_type_16 : decode cX11_type 16 = .ok (.getfield 94, 3) := by decide +kernel
theorem dX11_type_19 : decode cX11_type 19 = .ok (.bipush 31, 2) := by decide +kernel
theorem dX11_type_21 : decode cX11_type 21 = .ok (.if_icmp .ne 6, 3) := by decide +kernel
theorem dX11_type_24 : decode cX11_type 24 = .ok (.bipush (-4), 2) := by decide +kernel
theorem dX11_type_26 : decode cX11_type 26 = .ok (.ireturn, 1) := by decide +kernel
theorem dX11_type_27 : decode cX11_type 27 = .ok (.aload_n 0, 1) := by decide +kernel
theorem dX11_type_28 : decode cX11_type 28 = .ok (.getfield 22, 3) := by decide +kernel
theorem dX11_type_31 : decode cX11_type 31 = .ok (.aload_n 0, 1) := by decide +kernel
theorem dX11_type_32 : decode cX11_type 32 = .ok (.getfield 94, 3) := by decide +kernel
theorem dX11_type_35 : decode cX11_type 35 = .ok (.iload_n 1, 1) := by decide +kernel
theorem dX11_type_36 : decode cX11_type 36 = .ok (.iastore, 1) := by decide +kernel
theorem dX11_type_37 : decode cX11_type 37 = .ok (.aload_n 0, 1) := by decide +kernel
theorem dX11_type_38 : decode cX11_type 38 = .ok (.dup, 1) := by decide +kernel
theorem dX11_type_39 : decode cX11_type 39 = .ok (.getfield 94, 3) := by decide +kernel
theorem dX11_type_42 : decode cX11_type 42 = .ok (.iconst 1, 1) := by decide +kernel
theorem dX11_type_43 : decode cX11_type 43 = .ok (.iadd, 1) := by decide +kernel
theorem dX11_type_44 : decode cX11_type 44 = .ok (.putfield 94, 3) := by decide +kernel
theorem dX11_type_47 : decode cX11_type 47 = .ok (.aload_n 0, 1) := by decide +kernel
theorem dX11_type_48 : decode cX11_type 48 = .ok (.getfield 94, 3) := by decide +kernel
theorem dX11_type_51 : decode cX11_type 51 = .ok (.ireturn, 1) := by decide +kernel
theorem dX11_wipe_0 : decode cX11_wipe 0 = .ok (.aload_n 0, 1) := by decide +kernel
theorem dX11_wipe_1 : decode cX11_wipe 1 = .ok (.getfield 94, 3) := by decide +kernel
theorem dX11_wipe_4 : decode cX11_wipe 4 = .ok (.istore_n 1, 1) := by decide +kernel
theorem dX11_wipe_5 : decode cX11_wipe 5 = .ok (.aload_n 0, 1) := by decide +kernel
theorem dX11_wipe_6 : decode cX11_wipe 6 = .ok (.iconst 0, 1) := by decide +kernel
theorem dX11_wipe_7 : decode cX11_wipe 7 = .ok (.putfield 94, 3) := by decide +kernel
theorem dX11_wipe_10 : decode cX11_wipe 10 = .ok (.iload_n 1, 1) := by decide +kernel
theorem dX11_wipe_11 : decode cX11_wipe 11 = .ok (.ireturn, 1) := by decide +kernel
theorem dX11_undo_0 : decode cX11_undo 0 = .ok (.aload_n 0, 1) := by decide +kernel
theorem dX11_undo_1 : decode cX11_undo 1 = .ok (.getfield 94, 3) := by decide +kernel
theorem dX11_undo_4 : decode cX11_undo 4 = .ok (.ifCond .ne 6, 3) := by decide +kernel
theorem dX11_undo_7 : decode cX11_undo 7 = .ok (.bipush (-3), 2) := by decide +kernel
theorem dX11_undo_9 : decode cX11_undo 9 = .ok (.ireturn, 1) := by decide +kernel
theorem dX11_undo_10 : decode cX11_undo 10 = .ok (.aload_n 0, 1) := by decide +kernel
theorem dX11_undo_11 : decode cX11_undo 11 = .ok (.dup, 1) := by decide +kernel
theorem dX11_undo_12 : decode cX11_undo 12 = .ok (.getfield 94, 3) := by decide +kernel
theorem dX11_undo_15 : decode cX11_undo 15 = .ok (.iconst 1, 1) := by decide +kernel
theorem dX11_undo_16 : decode cX11_undo 16 = .ok (.isub, 1) := by decide +kernel
theorem dX11_undo_17 : decode cX11_undo 17 = .ok (.putfield 94, 3) := by decide +kernel
theorem dX11_undo_20 : decode cX11_undo 20 = .ok (.aload_n 0, 1) := by decide +kernel
theorem dX11_undo_21 : decode cX11_undo 21 = .ok (.getfield 94, 3) := by decide +kernel
theorem dX11_undo_24 : decode cX11_undo 24 = .ok (.ireturn, 1) := by decide +kernel
theorem dX11_readsPerson_0 : decode cX11_readsPerson 0 = .ok (.aload_n 0, 1) := by decide +kernel
theorem dX11_readsPerson_1 : decode cX11_readsPerson 1 = .ok (.getfield 97, 3) := by decide +kernel
theorem dX11_readsPerson_4 : decode cX11_readsPerson 4 = .ok (.bipush 8, 2) := by decide +kernel
theorem dX11_readsPerson_6 : decode cX11_readsPerson 6 = .ok (.if_icmp .ne 5, 3) := by decide +kernel
theorem dX11_readsPerson_9 : decode cX11_readsPerson 9 = .ok (.iconst 0, 1) := by decide +kernel
theorem dX11_readsPerson_10 : decode cX11_readsPerson 10 = .ok (.ireturn, 1) := by decide +kernel
theorem dX11_readsPerson_11 : decode cX11_readsPerson 11 = .ok (.iconst 0, 1) := by decide +kernel
theorem dX11_readsPerson_12 : decode cX11_readsPerson 12 = .ok (.istore_n 1, 1) := by decide +kernel
theorem dX11_readsPerson_13 : decode cX11_readsPerson 13 = .ok (.iconst 0, 1) := by decide +kernel
theorem dX11_readsPerson_14 : decode cX11_readsPerson 14 = .ok (.istore_n 2, 1) := by decide +kernel
theorem dX11_readsPerson_15 : decode cX11_readsPerson 15 = .ok (.iload_n 2, 1) := by decide +kernel
theorem dX11_readsPerson_16 : decode cX11_readsPerson 16 = .ok (.iconst 2, 1) := by decide +kernel
theorem dX11_readsPerson_17 : decode cX11_readsPerson 17 = .ok (.if_icmp .ge 68, 3) := by decide +kernel
theorem dX11_readsPerson_20 : decode cX11_readsPerson 20 = .ok (.aload_n 0, 1) := by decide +kernel
theorem dX11_readsPerson_21 : decode cX11_readsPerson 21 = .ok (.getfield 100, 3) := by decide +kernel
theorem dX11_readsPerson_24 : decode cX11_readsPerson 24 = .ok (.aload_n 0, 1) := by decide +kernel
theorem dX11_readsPerson_25 : decode cX11_readsPerson 25 = .ok (.getfield 94, 3) := by decide +kernel
theorem dX11_readsPerson_28 : decode cX11_readsPerson 28 = .ok (.if_icmp .ge 18, 3) := by decide +kernel
theorem dX11_readsPerson_31 : decode cX11_readsPerson 31 = .ok (.aload_n 0, 1) := by decide +kernel
theorem dX11_readsPerson_32 : decode cX11_readsPerson 32 = .ok (.getfield 22, 3) := by decide +kernel
theorem dX11_readsPerson_35 : decode cX11_readsPerson 35 = .ok (.aload_n 0, 1) := by decide +kernel
theorem dX11_readsPerson_36 : decode cX11_readsPerson 36 = .ok (.getfield 100, 3) := by decide +kernel
theorem dX11_readsPerson_39 : decode cX11_readsPerson 39 = .ok (.iaload, 1) := by decide +kernel
theorem dX11_readsPerson_40 : decode cX11_readsPerson 40 = .ok (.bipush 48, 2) := by decide +kernel
theorem dX11_readsPerson_42 : decode cX11_readsPerson 42 = .ok (.isub, 1) := by decide +kernel
theorem dX11_readsPerson_43 : decode cX11_readsPerson 43 = .ok (.goto 4, 3) := by decide +kernel
theorem dX11_readsPerson_46 : decode cX11_readsPerson 46 = .ok (.iconst (-1), 1) := by decide +kernel
theorem dX11_readsPerson_47 : decode cX11_readsPerson 47 = .ok (.istore_n 3, 1) := by decide +kernel
theorem dX11_readsPerson_48 : decode cX11_readsPerson 48 = .ok (.iload_n 3, 1) := by decide +kernel
theorem dX11_readsPerson_49 : decode cX11_readsPerson 49 = .ok (.i2l, 1) := by decide +kernel
theorem dX11_readsPerson_50 : decode cX11_readsPerson 50 = .ok (.lconst 0, 1) := by decide +kernel
theorem dX11_readsPerson_51 : decode cX11_readsPerson 51 = .ok (.ldc2_w 103, 3) := by decide +kernel
theorem dX11_readsPerson_54 : decode cX11_readsPerson 54 = .ok (.invokestatic 64, 3) := by decide +kernel
theorem dX11_readsPerson_57 : decode cX11_readsPerson 57 = .ok (.ifCond .ne 5, 3) := by decide +kernel
theorem dX11_readsPerson_60 : decode cX11_readsPerson 60 = .ok (.iconst 0, 1) := by decide +kernel
theorem dX11_readsPerson_61 : decode cX11_readsPerson 61 = .ok (.ireturn, 1) := by decide +kernel
theorem dX11_readsPerson_62 : decode cX11_readsPerson 62 = .ok (.bipush 10, 2) := by decide +kernel
theorem dX11_readsPerson_64 : decode cX11_readsPerson 64 = .ok (.iload_n 1, 1) := by decide +kernel
theorem dX11_readsPerson_65 : decode cX11_readsPerson 65 = .ok (.imul, 1) := by decide +kernel
theorem dX11_readsPerson_66 : decode cX11_readsPerson 66 = .ok (.iload_n 3, 1) := by decide +kernel
theorem dX11_readsPerson_67 : decode cX11_readsPerson 67 = .ok (.iadd, 1) := by decide +kernel
theorem dX11_readsPerson_68 : decode cX11_readsPerson 68 = .ok (.istore_n 1, 1) := by decide +kernel
theorem dX11_readsPerson_69 : decode cX11_readsPerson 69 = .ok (.aload_n 0, 1) := by decide +kernel
theorem dX11_readsPerson_70 : decode cX11_readsPerson 70 = .ok (.dup, 1) := by decide +kernel
theorem dX11_readsPerson_71 : decode cX11_readsPerson 71 = .ok (.getfield 100, 3) := by decide +kernel
theorem dX11_readsPerson_74 : decode cX11_readsPerson 74 = .ok (.iconst 1, 1) := by decide +kernel
theorem dX11_readsPerson_75 : decode cX11_readsPerson 75 = .ok (.iadd, 1) := by decide +kernel
theorem dX11_readsPerson_76 : decode cX11_readsPerson 76 = .ok (.putfield 100, 3) := by decide +kernel
theorem dX11_readsPerson_79 : decode cX11_readsPerson 79 = .ok (.iinc 2 1, 3) := by decide +kernel
theorem dX11_readsPerson_82 : decode cX11_readsPerson 82 = .ok (.goto (-67), 3) := by decide +kernel
theorem dX11_readsPerson_85 : decode cX11_readsPerson 85 = .ok (.aload_n 0, 1) := by decide +kernel
theorem dX11_readsPerson_86 : decode cX11_readsPerson 86 = .ok (.getfield 100, 3) := by decide +kernel
theorem dX11_readsPerson_89 : decode cX11_readsPerson 89 = .ok (.aload_n 0, 1) := by decide +kernel
theorem dX11_readsPerson_90 : decode cX11_readsPerson 90 = .ok (.getfield 94, 3) := by decide +kernel
theorem dX11_readsPerson_93 : decode cX11_readsPerson 93 = .ok (.if_icmp .ge 15, 3) := by decide +kernel
theorem dX11_readsPerson_96 : decode cX11_readsPerson 96 = .ok (.aload_n 0, 1) := by decide +kernel
theorem dX11_readsPerson_97 : decode cX11_readsPerson 97 = .ok (.getfield 22, 3) := by decide +kernel
theorem dX11_readsPerson_100 : decode cX11_readsPerson 100 = .ok (.aload_n 0, 1) := by decide +kernel
theorem dX11_readsPerson_101 : decode cX11_readsPerson 101 = .ok (.getfield 100, 3) := by decide +kernel
theorem dX11_readsPerson_104 : decode cX11_readsPerson 104 = .ok (.iaload, 1) := by decide +kernel
theorem dX11_readsPerson_105 : decode cX11_readsPerson 105 = .ok (.goto 4, 3) := by decide +kernel
theorem dX11_readsPerson_108 : decode cX11_readsPerson 108 = .ok (.iconst (-1), 1) := by decide +kernel
theorem dX11_readsPerson_109 : decode cX11_readsPerson 109 = .ok (.istore_n 2, 1) := by decide +kernel
theorem dX11_readsPerson_110 : decode cX11_readsPerson 110 = .ok (.iload_n 2, 1) := by decide +kernel
theorem dX11_readsPerson_111 : decode cX11_readsPerson 111 = .ok (.bipush 46, 2) := by decide +kernel
theorem dX11_readsPerson_113 : decode cX11_readsPerson 113 = .ok (.if_icmp .eq 19, 3) := by decide +kernel
theorem dX11_readsPerson_116 : decode cX11_readsPerson 116 = .ok (.iload_n 2, 1) := by decide +kernel
theorem dX11_readsPerson_117 : decode cX11_readsPerson 117 = .ok (.i2l, 1) := by decide +kernel
theorem dX11_readsPerson_118 : decode cX11_readsPerson 118 = .ok (.ldc2_w 105, 3) := by decide +kernel
theorem dX11_readsPerson_121 : decode cX11_readsPerson 121 = .ok (.ldc2_w 107, 3) := by decide +kernel
theorem dX11_readsPerson_124 : decode cX11_readsPerson 124 = .ok (.invokestatic 64, 3) := by decide +kernel
theorem dX11_readsPerson_127 : decode cX11_readsPerson 127 = .ok (.ifCond .ne 5, 3) := by decide +kernel
theorem dX11_readsPerson_130 : decode cX11_readsPerson 130 = .ok (.iconst 0, 1) := by decide +kernel
theorem dX11_readsPerson_131 : decode cX11_readsPerson 131 = .ok (.ireturn, 1) := by decide +kernel
theorem dX11_readsPerson_132 : decode cX11_readsPerson 132 = .ok (.aload_n 0, 1) := by decide +kernel
theorem dX11_readsPerson_133 : decode cX11_readsPerson 133 = .ok (.getfield 25, 3) := by decide +kernel
theorem dX11_readsPerson_136 : decode cX11_readsPerson 136 = .ok (.iconst 2, 1) := by decide +kernel
theorem dX11_readsPerson_137 : decode cX11_readsPerson 137 = .ok (.aload_n 0, 1) := by decide +kernel
theorem dX11_readsPerson_138 : decode cX11_readsPerson 138 = .ok (.getfield 97, 3) := by decide +kernel
theorem dX11_readsPerson_141 : decode cX11_readsPerson 141 = .ok (.imul, 1) := by decide +kernel
theorem dX11_readsPerson_142 : decode cX11_readsPerson 142 = .ok (.iload_n 1, 1) := by decide +kernel
theorem dX11_readsPerson_143 : decode cX11_readsPerson 143 = .ok (.iastore, 1) := by decide +kernel
theorem dX11_readsPerson_144 : decode cX11_readsPerson 144 = .ok (.aload_n 0, 1) := by decide +kernel
theorem dX11_readsPerson_145 : decode cX11_readsPerson 145 = .ok (.getfield 25, 3) := by decide +kernel
theorem dX11_readsPerson_148 : decode cX11_readsPerson 148 = .ok (.iconst 2, 1) := by decide +kernel
theorem dX11_readsPerson_149 : decode cX11_readsPerson 149 = .ok (.aload_n 0, 1) := by decide +kernel
theorem dX11_readsPerson_150 : decode cX11_readsPerson 150 = .ok (.getfield 97, 3) := by decide +kernel
theorem dX11_readsPerson_153 : decode cX11_readsPerson 153 = .ok (.imul, 1) := by decide +kernel
theorem dX11_readsPerson_154 : decode cX11_readsPerson 154 = .ok (.iconst 1, 1) := by decide +kernel
theorem dX11_readsPerson_155 : decode cX11_readsPerson 155 = .ok (.iadd, 1) := by decide +kernel
theorem dX11_readsPerson_156 : decode cX11_readsPerson 156 = .ok (.iload_n 2, 1) := by decide +kernel
theorem dX11_readsPerson_157 : decode cX11_readsPerson 157 = .ok (.bipush 46, 2) := by decide +kernel
theorem dX11_readsPerson_159 : decode cX11_readsPerson 159 = .ok (.if_icmp .ne 7, 3) := by decide +kernel
theorem dX11_readsPerson_162 : decode cX11_readsPerson 162 = .ok (.iconst (-1), 1) := by decide +kernel
theorem dX11_readsPerson_163 : decode cX11_readsPerson 163 = .ok (.goto 7, 3) := by decide +kernel
theorem dX11_readsPerson_166 : decode cX11_readsPerson 166 = .ok (.iload_n 2, 1) := by decide +kernel
theorem dX11_readsPerson_167 : decode cX11_readsPerson 167 = .ok (.bipush 97, 2) := by decide +kernel
theorem dX11_readsPerson_169 : decode cX11_readsPerson 169 = .ok (.isub, 1) := by decide +kernel
theorem dX11_readsPerson_170 : decode cX11_readsPerson 170 = .ok (.iastore, 1) := by decide +kernel
theorem dX11_readsPerson_171 : decode cX11_readsPerson 171 = .ok (.aload_n 0, 1) := by decide +kernel
theorem dX11_readsPerson_172 : decode cX11_readsPerson 172 = .ok (.dup, 1) := by decide +kernel
theorem dX11_readsPerson_173 : decode cX11_readsPerson 173 = .ok (.getfield 100, 3) := by decide +kernel
theorem dX11_readsPerson_176 : decode cX11_readsPerson 176 = .ok (.iconst 1, 1) := by decide +kernel
theorem dX11_readsPerson_177 : decode cX11_readsPerson 177 = .ok (.iadd, 1) := by decide +kernel
theorem dX11_readsPerson_178 : decode cX11_readsPerson 178 = .ok (.putfield 100, 3) := by decide +kernel
theorem dX11_readsPerson_181 : decode cX11_readsPerson 181 = .ok (.aload_n 0, 1) := by decide +kernel
theorem dX11_readsPerson_182 : decode cX11_readsPerson 182 = .ok (.dup, 1) := by decide +kernel
theorem dX11_readsPerson_183 : decode cX11_readsPerson 183 = .ok (.getfield 97, 3) := by decide +kernel
theorem dX11_readsPerson_186 : decode cX11_readsPerson 186 = .ok (.iconst 1, 1) := by decide +kernel
theorem dX11_readsPerson_187 : decode cX11_readsPerson 187 = .ok (.iadd, 1) := by decide +kernel
theorem dX11_readsPerson_188 : decode cX11_readsPerson 188 = .ok (.putfield 97, 3) := by decide +kernel
theorem dX11_readsPerson_191 : decode cX11_readsPerson 191 = .ok (.iconst 1, 1) := by decide +kernel
theorem dX11_readsPerson_192 : decode cX11_readsPerson 192 = .ok (.ireturn, 1) := by decide +kernel
theorem dX11_reads_0 : decode cX11_reads 0 = .ok (.aload_n 0, 1) := by decide +kernel
theorem dX11_reads_1 : decode cX11_reads 1 = .ok (.iconst 0, 1) := by decide +kernel
theorem dX11_reads_2 : decode cX11_reads 2 = .ok (.putfield 100, 3) := by decide +kernel
theorem dX11_reads_5 : decode cX11_reads 5 = .ok (.aload_n 0, 1) := by decide +kernel
theorem dX11_reads_6 : decode cX11_reads 6 = .ok (.iconst 0, 1) := by decide +kernel
theorem dX11_reads_7 : decode cX11_reads 7 = .ok (.putfield 97, 3) := by decide +kernel
theorem dX11_reads_10 : decode cX11_reads 10 = .ok (.aload_n 0, 1) := by decide +kernel
theorem dX11_reads_11 : decode cX11_reads 11 = .ok (.getfield 94, 3) := by decide +kernel
theorem dX11_reads_14 : decode cX11_reads 14 = .ok (.ifCond .le 7, 3) := by decide +kernel
theorem dX11_reads_17 : decode cX11_reads 17 = .ok (.iconst 1, 1) := by decide +kernel
theorem dX11_reads_18 : decode cX11_reads 18 = .ok (.goto 4, 3) := by decide +kernel
theorem dX11_reads_21 : decode cX11_reads 21 = .ok (.iconst 0, 1) := by decide +kernel
theorem dX11_reads_22 : decode cX11_reads 22 = .ok (.istore_n 1, 1) := by decide +kernel
theorem dX11_reads_23 : decode cX11_reads 23 = .ok (.iload_n 1, 1) := by decide +kernel
theorem dX11_reads_24 : decode cX11_reads 24 = .ok (.ifCond .eq 82, 3) := by decide +kernel
theorem dX11_reads_27 : decode cX11_reads 27 = .ok (.aload_n 0, 1) := by decide +kernel
theorem dX11_reads_28 : decode cX11_reads 28 = .ok (.invokevirtual 109, 3) := by decide +kernel
theorem dX11_reads_31 : decode cX11_reads 31 = .ok (.istore_n 2, 1) := by decide +kernel
theorem dX11_reads_32 : decode cX11_reads 32 = .ok (.iload_n 2, 1) := by decide +kernel
theorem dX11_reads_33 : decode cX11_reads 33 = .ok (.ifCond .eq 18, 3) := by decide +kernel
theorem dX11_reads_36 : decode cX11_reads 36 = .ok (.aload_n 0, 1) := by decide +kernel
theorem dX11_reads_37 : decode cX11_reads 37 = .ok (.getfield 100, 3) := by decide +kernel
theorem dX11_reads_40 : decode cX11_reads 40 = .ok (.aload_n 0, 1) := by decide +kernel
theorem dX11_reads_41 : decode cX11_reads 41 = .ok (.getfield 94, 3) := by decide +kernel
theorem dX11_reads_44 : decode cX11_reads 44 = .ok (.if_icmp .ge 7, 3) := by decide +kernel
theorem dX11_reads_47 : decode cX11_reads 47 = .ok (.iconst 1, 1) := by decide +kernel
theorem dX11_reads_48 : decode cX11_reads 48 = .ok (.goto 4, 3) := by decide +kernel
theorem dX11_reads_51 : decode cX11_reads 51 = .ok (.iconst 0, 1) := by decide +kernel
theorem dX11_reads_52 : decode cX11_reads 52 = .ok (.istore_n 1, 1) := by decide +kernel
theorem dX11_reads_53 : decode cX11_reads 53 = .ok (.iload_n 2, 1) := by decide +kernel
theorem dX11_reads_54 : decode cX11_reads 54 = .ok (.ifCond .eq 21, 3) := by decide +kernel
theorem dX11_reads_57 : decode cX11_reads 57 = .ok (.iload_n 1, 1) := by decide +kernel
theorem dX11_reads_58 : decode cX11_reads 58 = .ok (.ifCond .eq 27, 3) := by decide +kernel
theorem dX11_reads_61 : decode cX11_reads 61 = .ok (.aload_n 0, 1) := by decide +kernel
theorem dX11_reads_62 : decode cX11_reads 62 = .ok (.getfield 22, 3) := by decide +kernel
theorem dX11_reads_65 : decode cX11_reads 65 = .ok (.aload_n 0, 1) := by decide +kernel
theorem dX11_reads_66 : decode cX11_reads 66 = .ok (.getfield 100, 3) := by decide +kernel
theorem dX11_reads_69 : decode cX11_reads 69 = .ok (.iaload, 1) := by decide +kernel
theorem dX11_reads_70 : decode cX11_reads 70 = .ok (.bipush 59, 2) := by decide +kernel
theorem dX11_reads_72 : decode cX11_reads 72 = .ok (.if_icmp .eq 13, 3) := by decide +kernel
theorem dX11_reads_75 : decode cX11_reads 75 = .ok (.aload_n 0, 1) := by decide +kernel
theorem dX11_reads_76 : decode cX11_reads 76 = .ok (.iconst 0, 1) := by decide +kernel
theorem dX11_reads_77 : decode cX11_reads 77 = .ok (.putfield 97, 3) := by decide +kernel
theorem dX11_reads_80 : decode cX11_reads 80 = .ok (.aload_n 0, 1) := by decide +kernel
theorem dX11_reads_81 : decode cX11_reads 81 = .ok (.getfield 100, 3) := by decide +kernel
theorem dX11_reads_84 : decode cX11_reads 84 = .ok (.ireturn, 1) := by decide +kernel
theorem dX11_reads_85 : decode cX11_reads 85 = .ok (.aload_n 0, 1) := by decide +kernel
theorem dX11_reads_86 : decode cX11_reads 86 = .ok (.dup, 1) := by decide +kernel
theorem dX11_reads_87 : decode cX11_reads 87 = .ok (.getfield 100, 3) := by decide +kernel
theorem dX11_reads_90 : decode cX11_reads 90 = .ok (.iload_n 1, 1) := by decide +kernel
theorem dX11_reads_91 : decode cX11_reads 91 = .ok (.ifCond .eq 7, 3) := by decide +kernel
theorem dX11_reads_94 : decode cX11_reads 94 = .ok (.iconst 1, 1) := by decide +kernel
theorem dX11_reads_95 : decode cX11_reads 95 = .ok (.goto 4, 3) := by decide +kernel
theorem dX11_reads_98 : decode cX11_reads 98 = .ok (.iconst 0, 1) := by decide +kernel
theorem dX11_reads_99 : decode cX11_reads 99 = .ok (.iadd, 1) := by decide +kernel
theorem dX11_reads_100 : decode cX11_reads 100 = .ok (.putfield 100, 3) := by decide +kernel
theorem dX11_reads_103 : decode cX11_reads 103 = .ok (.goto (-80), 3) := by decide +kernel
theorem dX11_reads_106 : decode cX11_reads 106 = .ok (.iconst (-1), 1) := by decide +kernel
theorem dX11_reads_107 : decode cX11_reads 107 = .ok (.ireturn, 1) := by decide +kernel
theorem dX11_fault_0 : decode cX11_fault 0 = .ok (.aload_n 0, 1) := by decide +kernel
theorem dX11_fault_1 : decode cX11_fault 1 = .ok (.invokevirtual 113, 3) := by decide +kernel
theorem dX11_fault_4 : decode cX11_fault 4 = .ok (.ireturn, 1) := by decide +kernel
theorem dX11_isPerson_0 : decode cX11_isPerson 0 = .ok (.iload_n 1, 1) := by decide +kernel
theorem dX11_isPerson_1 : decode cX11_isPerson 1 = .ok (.i2l, 1) := by decide +kernel
theorem dX11_isPerson_2 : decode cX11_isPerson 2 = .ok (.lconst 0, 1) := by decide +kernel
theorem dX11_isPerson_3 : decode cX11_isPerson 3 = .ok (.aload_n 0, 1) := by decide +kernel
theorem dX11_isPerson_4 : decode cX11_isPerson 4 = .ok (.getfield 97, 3) := by decide +kernel
theorem dX11_isPerson_7 : decode cX11_isPerson 7 = .ok (.iconst 1, 1) := by decide +kernel
theorem dX11_isPerson_8 : decode cX11_isPerson 8 = .ok (.isub, 1) := by decide +kernel
theorem dX11_isPerson_9 : decode cX11_isPerson 9 = .ok (.i2l, 1) := by decide +kernel
theorem dX11_isPerson_10 : decode cX11_isPerson 10 = .ok (.invokestatic 64, 3) := by decide +kernel
theorem dX11_isPerson_13 : decode cX11_isPerson 13 = .ok (.ireturn, 1) := by decide +kernel
theorem dX11_isAnyone_0 : decode cX11_isAnyone 0 = .ok (.iload_n 0, 1) := by decide +kernel
theorem dX11_isAnyone_1 : decode cX11_isAnyone 1 = .ok (.i2l, 1) := by decide +kernel
theorem dX11_isAnyone_2 : decode cX11_isAnyone 2 = .ok (.lconst 0, 1) := by decide +kernel
theorem dX11_isAnyone_3 : decode cX11_isAnyone 3 = .ok (.ldc2_w 117, 3) := by decide +kernel
theorem dX11_isAnyone_6 : decode cX11_isAnyone 6 = .ok (.invokestatic 64, 3) := by decide +kernel
theorem dX11_isAnyone_9 : decode cX11_isAnyone 9 = .ok (.ireturn, 1) := by decide +kernel
theorem dX11_isYear_0 : decode cX11_isYear 0 = .ok (.iload_n 0, 1) := by decide +kernel
theorem dX11_isYear_1 : decode cX11_isYear 1 = .ok (.i2l, 1) := by decide +kernel
theorem dX11_isYear_2 : decode cX11_isYear 2 = .ok (.lconst 0, 1) := by decide +kernel
theorem dX11_isYear_3 : decode cX11_isYear 3 = .ok (.ldc2_w 119, 3) := by decide +kernel
theorem dX11_isYear_6 : decode cX11_isYear 6 = .ok (.invokestatic 64, 3) := by decide +kernel
theorem dX11_isYear_9 : decode cX11_isYear 9 = .ok (.ireturn, 1) := by decide +kernel
theorem dX11_isDrawer_0 : decode cX11_isDrawer 0 = .ok (.iload_n 0, 1) := by decide +kernel
theorem dX11_isDrawer_1 : decode cX11_isDrawer 1 = .ok (.i2l, 1) := by decide +kernel
theorem dX11_isDrawer_2 : decode cX11_isDrawer 2 = .ok (.lconst 0, 1) := by decide +kernel
theorem dX11_isDrawer_3 : decode cX11_isDrawer 3 = .ok (.ldc2_w 71, 3) := by decide +kernel
theorem dX11_isDrawer_6 : decode cX11_isDrawer 6 = .ok (.invokestatic 64, 3) := by decide +kernel
theorem dX11_isDrawer_9 : decode cX11_isDrawer 9 = .ok (.ireturn, 1) := by decide +kernel
theorem dX11_twinOf_0 : decode cX11_twinOf 0 = .ok (.aload_n 0, 1) := by decide +kernel
theorem dX11_twinOf_1 : decode cX11_twinOf 1 = .ok (.getfield 25, 3) := by decide +kernel
theorem dX11_twinOf_4 : decode cX11_twinOf 4 = .ok (.iconst 2, 1) := by decide +kernel
theorem dX11_twinOf_5 : decode cX11_twinOf 5 = .ok (.iload_n 1, 1) := by decide +kernel
theorem dX11_twinOf_6 : decode cX11_twinOf 6 = .ok (.imul, 1) := by decide +kernel
theorem dX11_twinOf_7 : decode cX11_twinOf 7 = .ok (.iconst 1, 1) := by decide +kernel
theorem dX11_twinOf_8 : decode cX11_twinOf 8 = .ok (.iadd, 1) := by decide +kernel
theorem dX11_twinOf_9 : decode cX11_twinOf 9 = .ok (.iaload, 1) := by decide +kernel
theorem dX11_twinOf_10 : decode cX11_twinOf 10 = .ok (.istore_n 2, 1) := by decide +kernel
theorem dX11_twinOf_11 : decode cX11_twinOf 11 = .ok (.iload_n 2, 1) := by decide +kernel
theorem dX11_twinOf_12 : decode cX11_twinOf 12 = .ok (.iload_n 1, 1) := by decide +kernel
theorem dX11_twinOf_13 : decode cX11_twinOf 13 = .ok (.if_icmp .eq 15, 3) := by decide +kernel
theorem dX11_twinOf_16 : decode cX11_twinOf 16 = .ok (.aload_n 0, 1) := by decide +kernel
theorem dX11_twinOf_17 : decode cX11_twinOf 17 = .ok (.iload_n 2, 1) := by decide +kernel
theorem dX11_twinOf_18 : decode cX11_twinOf 18 = .ok (.invokevirtual 121, 3) := by decide +kernel
theorem dX11_twinOf_21 : decode cX11_twinOf 21 = .ok (.ifCond .eq 7, 3) := by decide +kernel
theorem dX11_twinOf_24 : decode cX11_twinOf 24 = .ok (.iload_n 2, 1) := by decide +kernel
theorem dX11_twinOf_25 : decode cX11_twinOf 25 = .ok (.goto 4, 3) := by decide +kernel
theorem dX11_twinOf_28 : decode cX11_twinOf 28 = .ok (.iconst (-1), 1) := by decide +kernel
theorem dX11_twinOf_29 : decode cX11_twinOf 29 = .ok (.ireturn, 1) := by decide +kernel
theorem dX11_person_0 : decode cX11_person 0 = .ok (.aload_n 0, 1) := by decide +kernel
theorem dX11_person_1 : decode cX11_person 1 = .ok (.invokevirtual 113, 3) := by decide +kernel
theorem dX11_person_4 : decode cX11_person 4 = .ok (.pop, 1) := by decide +kernel
theorem dX11_person_5 : decode cX11_person 5 = .ok (.aload_n 0, 1) := by decide +kernel
theorem dX11_person_6 : decode cX11_person 6 = .ok (.iload_n 1, 1) := by decide +kernel
theorem dX11_person_7 : decode cX11_person 7 = .ok (.invokevirtual 121, 3) := by decide +kernel
theorem dX11_person_10 : decode cX11_person 10 = .ok (.ifCond .eq 10, 3) := by decide +kernel
theorem dX11_person_13 : decode cX11_person 13 = .ok (.iload_n 2, 1) := by decide +kernel
theorem dX11_person_14 : decode cX11_person 14 = .ok (.invokestatic 124, 3) := by decide +kernel
theorem dX11_person_17 : decode cX11_person 17 = .ok (.ifCond .ne 8, 3) := by decide +kernel
theorem dX11_person_20 : decode cX11_person 20 = .ok (.bipush (-2), 2) := by decide +kernel
theorem dX11_person_22 : decode cX11_person 22 = .ok (.goto 23, 3) := by decide +kernel
theorem dX11_person_25 : decode cX11_person 25 = .ok (.iload_n 2, 1) := by decide +kernel
theorem dX11_person_26 : decode cX11_person 26 = .ok (.ifCond .ne 14, 3) := by decide +kernel
theorem dX11_person_29 : decode cX11_person 29 = .ok (.aload_n 0, 1) := by decide +kernel
theorem dX11_person_30 : decode cX11_person 30 = .ok (.getfield 25, 3) := by decide +kernel
theorem dX11_person_33 : decode cX11_person 33 = .ok (.iconst 2, 1) := by decide +kernel
theorem dX11_person_34 : decode cX11_person 34 = .ok (.iload_n 1, 1) := by decide +kernel
theorem dX11_person_35 : decode cX11_person 35 = .ok (.imul, 1) := by decide +kernel
theorem dX11_person_36 : decode cX11_person 36 = .ok (.iaload, 1) := by decide +kernel
theorem dX11_person_37 : decode cX11_person 37 = .ok (.goto 8, 3) := by decide +kernel
theorem dX11_person_40 : decode cX11_person 40 = .ok (.aload_n 0, 1) := by decide +kernel
theorem dX11_person_41 : decode cX11_person 41 = .ok (.iload_n 1, 1) := by decide +kernel
theorem dX11_person_42 : decode cX11_person 42 = .ok (.invokevirtual 127, 3) := by decide +kernel
theorem dX11_person_45 : decode cX11_person 45 = .ok (.ireturn, 1) := by decide +kernel
theorem dX11_picture_0 : decode cX11_picture 0 = .ok (.iload_n 1, 1) := by decide +kernel
theorem dX11_picture_1 : decode cX11_picture 1 = .ok (.invokestatic 130, 3) := by decide +kernel
theorem dX11_picture_4 : decode cX11_picture 4 = .ok (.ifCond .eq 30, 3) := by decide +kernel
theorem dX11_picture_7 : decode cX11_picture 7 = .ok (.iload_n 2, 1) := by decide +kernel
theorem dX11_picture_8 : decode cX11_picture 8 = .ok (.invokestatic 133, 3) := by decide +kernel
theorem dX11_picture_11 : decode cX11_picture 11 = .ok (.ifCond .eq 23, 3) := by decide +kernel
theorem dX11_picture_14 : decode cX11_picture 14 = .ok (.iload_n 3, 1) := by decide +kernel
theorem dX11_picture_15 : decode cX11_picture 15 = .ok (.i2l, 1) := by decide +kernel
theorem dX11_picture_16 : decode cX11_picture 16 = .ok (.lconst 1, 1) := by decide +kernel
theorem dX11_picture_17 : decode cX11_picture 17 = .ok (.ldc2_w 103, 3) := by decide +kernel
theorem dX11_picture_20 : decode cX11_picture 20 = .ok (.invokestatic 64, 3) := by decide +kernel
theorem dX11_picture_23 : decode cX11_picture 23 = .ok (.ifCond .eq 11, 3) := by decide +kernel
theorem dX11_picture_26 : decode cX11_picture 26 = .ok (.iload 4, 2) := by decide +kernel
theorem dX11_picture_28 : decode cX11_picture 28 = .ok (.invokestatic 136, 3) := by decide +kernel
theorem dX11_picture_31 : decode cX11_picture 31 = .ok (.ifCond .ne 6, 3) := by decide +kernel
theorem dX11_picture_34 : decode cX11_picture 34 = .ok (.bipush (-2), 2) := by decide +kernel
theorem dX11_picture_36 : decode cX11_picture 36 = .ok (.ireturn, 1) := by decide +kernel
theorem dX11_picture_37 : decode cX11_picture 37 = .ok (.aload_n 0, 1) := by decide +kernel
theorem dX11_picture_38 : decode cX11_picture 38 = .ok (.getfield 139, 3) := by decide +kernel
theorem dX11_picture_41 : decode cX11_picture 41 = .ok (.bipush 12, 2) := by decide +kernel
theorem dX11_picture_43 : decode cX11_picture 43 = .ok (.if_icmp .ne 6, 3) := by decide +kernel
theorem dX11_picture_46 : decode cX11_picture 46 = .ok (.bipush (-4), 2) := by decide +kernel
theorem dX11_picture_48 : decode cX11_picture 48 = .ok (.ireturn, 1) := by decide +kernel
theorem dX11_picture_49 : decode cX11_picture 49 = .ok (.aload_n 0, 1) := by decide +kernel
theorem dX11_picture_50 : decode cX11_picture 50 = .ok (.getfield 28, 3) := by decide +kernel
theorem dX11_picture_53 : decode cX11_picture 53 = .ok (.iconst 4, 1) := by decide +kernel
theorem dX11_picture_54 : decode cX11_picture 54 = .ok (.aload_n 0, 1) := by decide +kernel
theorem dX11_picture_55 : decode cX11_picture 55 = .ok (.getfield 139, 3) := by decide +kernel
theorem dX11_picture_58 : decode cX11_picture 58 = .ok (.imul, 1) := by decide +kernel
theorem dX11_picture_59 : decode cX11_picture 59 = .ok (.iload_n 1, 1) := by decide +kernel
theorem dX11_picture_60 : decode cX11_picture 60 = .ok (.iastore, 1) := by decide +kernel
theorem dX11_picture_61 : decode cX11_picture 61 = .ok (.aload_n 0, 1) := by decide +kernel
theorem dX11_picture_62 : decode cX11_picture 62 = .ok (.getfield 28, 3) := by decide +kernel
theorem dX11_picture_65 : decode cX11_picture 65 = .ok (.iconst 4, 1) := by decide +kernel
theorem dX11_picture_66 : decode cX11_picture 66 = .ok (.aload_n 0, 1) := by decide +kernel
theorem dX11_picture_67 : decode cX11_picture 67 = .ok (.getfield 139, 3) := by decide +kernel
theorem dX11_picture_70 : decode cX11_picture 70 = .ok (.imul, 1) := by decide +kernel
theorem dX11_picture_71 : decode cX11_picture 71 = .ok (.iconst 1, 1) := by decide +kernel
theorem dX11_picture_72 : decode cX11_picture 72 = .ok (.iadd, 1) := by decide +kernel
theorem dX11_picture_73 : decode cX11_picture 73 = .ok (.iload_n 2, 1) := by decide +kernel
theorem dX11_picture_74 : decode cX11_picture 74 = .ok (.iastore, 1) := by decide +kernel
theorem dX11_picture_75 : decode cX11_picture 75 = .ok (.aload_n 0, 1) := by decide +kernel
theorem dX11_picture_76 : decode cX11_picture 76 = .ok (.getfield 28, 3) := by decide +kernel
theorem dX11_picture_79 : decode cX11_picture 79 = .ok (.iconst 4, 1) := by decide +kernel
theorem dX11_picture_80 : decode cX11_picture 80 = .ok (.aload_n 0, 1) := by decide +kernel
theorem dX11_picture_81 : decode cX11_picture 81 = .ok (.getfield 139, 3) := by decide +kernel
theorem dX11_picture_84 : decode cX11_picture 84 = .ok (.imul, 1) := by decide +kernel
theorem dX11_picture_85 : decode cX11_picture 85 = .ok (.iconst 2, 1) := by decide +kernel
theorem dX11_picture_86 : decode cX11_picture 86 = .ok (.iadd, 1) := by decide +kernel
theorem dX11_picture_87 : decode cX11_picture 87 = .ok (.iload_n 3, 1) := by decide +kernel
theorem dX11_picture_88 : decode cX11_picture 88 = .ok (.iastore, 1) := by decide +kernel
theorem dX11_picture_89 : decode cX11_picture 89 = .ok (.aload_n 0, 1) := by decide +kernel
theorem dX11_picture_90 : decode cX11_picture 90 = .ok (.getfield 28, 3) := by decide +kernel
theorem dX11_picture_93 : decode cX11_picture 93 = .ok (.iconst 4, 1) := by decide +kernel
theorem dX11_picture_94 : decode cX11_picture 94 = .ok (.aload_n 0, 1) := by decide +kernel
theorem dX11_picture_95 : decode cX11_picture 95 = .ok (.getfield 139, 3) := by decide +kernel
theorem dX11_picture_98 : decode cX11_picture 98 = .ok (.imul, 1) := by decide +kernel
theorem dX11_picture_99 : decode cX11_picture 99 = .ok (.iconst 3, 1) := by decide +kernel
theorem dX11_picture_100 : decode cX11_picture 100 = .ok (.iadd, 1) := by decide +kernel
theorem dX11_picture_101 : decode cX11_picture 101 = .ok (.iload 4, 2) := by decide +kernel
theorem dX11_picture_103 : decode cX11_picture 103 = .ok (.iastore, 1) := by decide +kernel
theorem dX11_picture_104 : decode cX11_picture 104 = .ok (.aload_n 0, 1) := by decide +kernel
theorem dX11_picture_105 : decode cX11_picture 105 = .ok (.dup, 1) := by decide +kernel
theorem dX11_picture_106 : decode cX11_picture 106 = .ok (.getfield 139, 3) := by decide +kernel
theorem dX11_picture_109 : decode cX11_picture 109 = .ok (.iconst 1, 1) := by decide +kernel
theorem dX11_picture_110 : decode cX11_picture 110 = .ok (.iadd, 1) := by decide +kernel
theorem dX11_picture_111 : decode cX11_picture 111 = .ok (.putfield 139, 3) := by decide +kernel
theorem dX11_picture_114 : decode cX11_picture 114 = .ok (.aload_n 0, 1) := by decide +kernel
theorem dX11_picture_115 : decode cX11_picture 115 = .ok (.getfield 139, 3) := by decide +kernel
theorem dX11_picture_118 : decode cX11_picture 118 = .ok (.ireturn, 1) := by decide +kernel
theorem dX11_burn_0 : decode cX11_burn 0 = .ok (.iload_n 1, 1) := by decide +kernel
theorem dX11_burn_1 : decode cX11_burn 1 = .ok (.invokestatic 130, 3) := by decide +kernel
theorem dX11_burn_4 : decode cX11_burn 4 = .ok (.ifCond .eq 15, 3) := by decide +kernel
theorem dX11_burn_7 : decode cX11_burn 7 = .ok (.iload_n 2, 1) := by decide +kernel
theorem dX11_burn_8 : decode cX11_burn 8 = .ok (.i2l, 1) := by decide +kernel
theorem dX11_burn_9 : decode cX11_burn 9 = .ok (.lconst 0, 1) := by decide +kernel
theorem dX11_burn_10 : decode cX11_burn 10 = .ok (.ldc2_w 142, 3) := by decide +kernel
theorem dX11_burn_13 : decode cX11_burn 13 = .ok (.invokestatic 64, 3) := by decide +kernel
theorem dX11_burn_16 : decode cX11_burn 16 = .ok (.ifCond .ne 6, 3) := by decide +kernel
theorem dX11_burn_19 : decode cX11_burn 19 = .ok (.bipush (-2), 2) := by decide +kernel
theorem dX11_burn_21 : decode cX11_burn 21 = .ok (.ireturn, 1) := by decide +kernel
theorem dX11_burn_22 : decode cX11_burn 22 = .ok (.aload_n 0, 1) := by decide +kernel
theorem dX11_burn_23 : decode cX11_burn 23 = .ok (.getfield 144, 3) := by decide +kernel
theorem dX11_burn_26 : decode cX11_burn 26 = .ok (.bipush 12, 2) := by decide +kernel
theorem dX11_burn_28 : decode cX11_burn 28 = .ok (.if_icmp .ne 6, 3) := by decide +kernel
theorem dX11_burn_31 : decode cX11_burn 31 = .ok (.bipush (-4), 2) := by decide +kernel
theorem dX11_burn_33 : decode cX11_burn 33 = .ok (.ireturn, 1) := by decide +kernel
theorem dX11_burn_34 : decode cX11_burn 34 = .ok (.aload_n 0, 1) := by decide +kernel
theorem dX11_burn_35 : decode cX11_burn 35 = .ok (.getfield 31, 3) := by decide +kernel
theorem dX11_burn_38 : decode cX11_burn 38 = .ok (.iconst 2, 1) := by decide +kernel
theorem dX11_burn_39 : decode cX11_burn 39 = .ok (.aload_n 0, 1) := by decide +kernel
theorem dX11_burn_40 : decode cX11_burn 40 = .ok (.getfield 144, 3) := by decide +kernel
theorem dX11_burn_43 : decode cX11_burn 43 = .ok (.imul, 1) := by decide +kernel
theorem dX11_burn_44 : decode cX11_burn 44 = .ok (.iload_n 1, 1) := by decide +kernel
theorem dX11_burn_45 : decode cX11_burn 45 = .ok (.iastore, 1) := by decide +kernel
theorem dX11_burn_46 : decode cX11_burn 46 = .ok (.aload_n 0, 1) := by decide +kernel
theorem dX11_burn_47 : decode cX11_burn 47 = .ok (.getfield 31, 3) := by decide +kernel
theorem dX11_burn_50 : decode cX11_burn 50 = .ok (.iconst 2, 1) := by decide +kernel
theorem dX11_burn_51 : decode cX11_burn 51 = .ok (.aload_n 0, 1) := by decide +kernel
theorem dX11_burn_52 : decode cX11_burn 52 = .ok (.getfield 144, 3) := by decide +kernel
theorem dX11_burn_55 : decode cX11_burn 55 = .ok (.imul, 1) := by decide +kernel
theorem dX11_burn_56 : decode cX11_burn 56 = .ok (.iconst 1, 1) := by decide +kernel
theorem dX11_burn_57 : decode cX11_burn 57 = .ok (.iadd, 1) := by decide +kernel
theorem dX11_burn_58 : decode cX11_burn 58 = .ok (.iload_n 2, 1) := by decide +kernel
theorem dX11_burn_59 : decode cX11_burn 59 = .ok (.iastore, 1) := by decide +kernel
theorem dX11_burn_60 : decode cX11_burn 60 = .ok (.aload_n 0, 1) := by decide +kernel
theorem dX11_burn_61 : decode cX11_burn 61 = .ok (.dup, 1) := by decide +kernel
theorem dX11_burn_62 : decode cX11_burn 62 = .ok (.getfield 144, 3) := by decide +kernel
theorem dX11_burn_65 : decode cX11_burn 65 = .ok (.iconst 1, 1) := by decide +kernel
theorem dX11_burn_66 : decode cX11_burn 66 = .ok (.iadd, 1) := by decide +kernel
theorem dX11_burn_67 : decode cX11_burn 67 = .ok (.putfield 144, 3) := by decide +kernel
theorem dX11_burn_70 : decode cX11_burn 70 = .ok (.aload_n 0, 1) := by decide +kernel
theorem dX11_burn_71 : decode cX11_burn 71 = .ok (.getfield 144, 3) := by decide +kernel
theorem dX11_burn_74 : decode cX11_burn 74 = .ok (.ireturn, 1) := by decide +kernel
theorem dX11_back_0 : decode cX11_back 0 = .ok (.iload_n 1, 1) := by decide +kernel
theorem dX11_back_1 : decode cX11_back 1 = .ok (.invokestatic 124, 3) := by decide +kernel
theorem dX11_back_4 : decode cX11_back 4 = .ok (.ifCond .ne 6, 3) := by decide +kernel
theorem dX11_back_7 : decode cX11_back 7 = .ok (.bipush (-2), 2) := by decide +kernel
theorem dX11_back_9 : decode cX11_back 9 = .ok (.ireturn, 1) := by decide +kernel
theorem dX11_back_10 : decode cX11_back 10 = .ok (.iload_n 1, 1) := by decide +kernel
theorem dX11_back_11 : decode cX11_back 11 = .ok (.ifCond .ne 10, 3) := by decide +kernel
theorem dX11_back_14 : decode cX11_back 14 = .ok (.aload_n 0, 1) := by decide +kernel
theorem dX11_back_15 : decode cX11_back 15 = .ok (.getfield 139, 3) := by decide +kernel
theorem dX11_back_18 : decode cX11_back 18 = .ok (.goto 7, 3) := by decide +kernel
theorem dX11_back_21 : decode cX11_back 21 = .ok (.aload_n 0, 1) := by decide +kernel
theorem dX11_back_22 : decode cX11_back 22 = .ok (.getfield 144, 3) := by decide +kernel
theorem dX11_back_25 : decode cX11_back 25 = .ok (.istore_n 2, 1) := by decide +kernel
theorem dX11_back_26 : decode cX11_back 26 = .ok (.iload_n 2, 1) := by decide +kernel
theorem dX11_back_27 : decode cX11_back 27 = .ok (.ifCond .ne 6, 3) := by decide +kernel
theorem dX11_back_30 : decode cX11_back 30 = .ok (.bipush (-3), 2) := by decide +kernel
theorem dX11_back_32 : decode cX11_back 32 = .ok (.ireturn, 1) := by decide +kernel
theorem dX11_back_33 : decode cX11_back 33 = .ok (.aload_n 0, 1) := by decide +kernel
theorem dX11_back_34 : decode cX11_back 34 = .ok (.dup, 1) := by decide +kernel
theorem dX11_back_35 : decode cX11_back 35 = .ok (.getfield 139, 3) := by decide +kernel
theorem dX11_back_38 : decode cX11_back 38 = .ok (.iload_n 1, 1) := by decide +kernel
theorem dX11_back_39 : decode cX11_back 39 = .ok (.ifCond .ne 7, 3) := by decide +kernel
theorem dX11_back_42 : decode cX11_back 42 = .ok (.iconst 1, 1) := by decide +kernel
theorem dX11_back_43 : decode cX11_back 43 = .ok (.goto 4, 3) := by decide +kernel
theorem dX11_back_46 : decode cX11_back 46 = .ok (.iconst 0, 1) := by decide +kernel
theorem dX11_back_47 : decode cX11_back 47 = .ok (.isub, 1) := by decide +kernel
theorem dX11_back_48 : decode cX11_back 48 = .ok (.putfield 139, 3) := by decide +kernel
theorem dX11_back_51 : decode cX11_back 51 = .ok (.aload_n 0, 1) := by decide +kernel
theorem dX11_back_52 : decode cX11_back 52 = .ok (.dup, 1) := by decide +kernel
theorem dX11_back_53 : decode cX11_back 53 = .ok (.getfield 144, 3) := by decide +kernel
theorem dX11_back_56 : decode cX11_back 56 = .ok (.iload_n 1, 1) := by decide +kernel
theorem dX11_back_57 : decode cX11_back 57 = .ok (.isub, 1) := by decide +kernel
theorem dX11_back_58 : decode cX11_back 58 = .ok (.putfield 144, 3) := by decide +kernel
theorem dX11_back_61 : decode cX11_back 61 = .ok (.iload_n 2, 1) := by decide +kernel
theorem dX11_back_62 : decode cX11_back 62 = .ok (.iconst 1, 1) := by decide +kernel
theorem dX11_back_63 : decode cX11_back 63 = .ok (.isub, 1) := by decide +kernel
theorem dX11_back_64 : decode cX11_back 64 = .ok (.ireturn, 1) := by decide +kernel
theorem dX11_faint_0 : decode cX11_faint 0 = .ok (.iload_n 1, 1) := by decide +kernel
theorem dX11_faint_1 : decode cX11_faint 1 = .ok (.i2l, 1) := by decide +kernel
theorem dX11_faint_2 : decode cX11_faint 2 = .ok (.lconst 0, 1) := by decide +kernel
theorem dX11_faint_3 : decode cX11_faint 3 = .ok (.ldc2_w 147, 3) := by decide +kernel
theorem dX11_faint_6 : decode cX11_faint 6 = .ok (.invokestatic 64, 3) := by decide +kernel
theorem dX11_faint_9 : decode cX11_faint 9 = .ok (.ifCond .ne 6, 3) := by decide +kernel
theorem dX11_faint_12 : decode cX11_faint 12 = .ok (.bipush (-2), 2) := by decide +kernel
theorem dX11_faint_14 : decode cX11_faint 14 = .ok (.ireturn, 1) := by decide +kernel
theorem dX11_faint_15 : decode cX11_faint 15 = .ok (.aload_n 0, 1) := by decide +kernel
theorem dX11_faint_16 : decode cX11_faint 16 = .ok (.getfield 52, 3) := by decide +kernel
theorem dX11_faint_19 : decode cX11_faint 19 = .ok (.istore_n 2, 1) := by decide +kernel
theorem dX11_faint_20 : decode cX11_faint 20 = .ok (.aload_n 0, 1) := by decide +kernel
theorem dX11_faint_21 : decode cX11_faint 21 = .ok (.iload_n 1, 1) := by decide +kernel
theorem dX11_faint_22 : decode cX11_faint 22 = .ok (.putfield 52, 3) := by decide +kernel
theorem dX11_faint_25 : decode cX11_faint 25 = .ok (.iload_n 2, 1) := by decide +kernel
theorem dX11_faint_26 : decode cX11_faint 26 = .ok (.ireturn, 1) := by decide +kernel
theorem dX11_want_0 : decode cX11_want 0 = .ok (.iload_n 1, 1) := by decide +kernel
theorem dX11_want_1 : decode cX11_want 1 = .ok (.invokestatic 136, 3) := by decide +kernel
theorem dX11_want_4 : decode cX11_want 4 = .ok (.ifCond .eq 17, 3) := by decide +kernel
theorem dX11_want_7 : decode cX11_want 7 = .ok (.iload_n 2, 1) := by decide +kernel
theorem dX11_want_8 : decode cX11_want 8 = .ok (.i2l, 1) := by decide +kernel
theorem dX11_want_9 : decode cX11_want 9 = .ok (.ldc2_w 149, 3) := by decide +kernel
theorem dX11_want_12 : decode cX11_want 12 = .ok (.ldc2_w 117, 3) := by decide +kernel
theorem dX11_want_15 : decode cX11_want 15 = .ok (.invokestatic 64, 3) := by decide +kernel
theorem dX11_want_18 : decode cX11_want 18 = .ok (.ifCond .ne 6, 3) := by decide +kernel
theorem dX11_want_21 : decode cX11_want 21 = .ok (.bipush (-2), 2) := by decide +kernel
theorem dX11_want_23 : decode cX11_want 23 = .ok (.ireturn, 1) := by decide +kernel
theorem dX11_want_24 : decode cX11_want 24 = .ok (.aload_n 0, 1) := by decide +kernel
theorem dX11_want_25 : decode cX11_want 25 = .ok (.getfield 34, 3) := by decide +kernel
theorem dX11_want_28 : decode cX11_want 28 = .ok (.iload_n 1, 1) := by decide +kernel
theorem dX11_want_29 : decode cX11_want 29 = .ok (.iaload, 1) := by decide +kernel
theorem dX11_want_30 : decode cX11_want 30 = .ok (.istore_n 3, 1) := by decide +kernel
theorem dX11_want_31 : decode cX11_want 31 = .ok (.aload_n 0, 1) := by decide +kernel
theorem dX11_want_32 : decode cX11_want 32 = .ok (.getfield 34, 3) := by decide +kernel
theorem dX11_want_35 : decode cX11_want 35 = .ok (.iload_n 1, 1) := by decide +kernel
theorem dX11_want_36 : decode cX11_want 36 = .ok (.iload_n 2, 1) := by decide +kernel
theorem dX11_want_37 : decode cX11_want 37 = .ok (.iastore, 1) := by decide +kernel
theorem dX11_want_38 : decode cX11_want 38 = .ok (.iload_n 3, 1) := by decide +kernel
theorem dX11_want_39 : decode cX11_want 39 = .ok (.ireturn, 1) := by decide +kernel
theorem dX11_takes_0 : decode cX11_takes 0 = .ok (.iload_n 2, 1) := by decide +kernel
theorem dX11_takes_1 : decode cX11_takes 1 = .ok (.aload_n 0, 1) := by decide +kernel
theorem dX11_takes_2 : decode cX11_takes 2 = .ok (.getfield 37, 3) := by decide +kernel
theorem dX11_takes_5 : decode cX11_takes 5 = .ok (.iload_n 1, 1) := by decide +kernel
theorem dX11_takes_6 : decode cX11_takes 6 = .ok (.iaload, 1) := by decide +kernel
theorem dX11_takes_7 : decode cX11_takes 7 = .ok (.invokestatic 151, 3) := by decide +kernel
theorem dX11_takes_10 : decode cX11_takes 10 = .ok (.istore_n 3, 1) := by decide +kernel
theorem dX11_takes_11 : decode cX11_takes 11 = .ok (.aload_n 0, 1) := by decide +kernel
theorem dX11_takes_12 : decode cX11_takes 12 = .ok (.getfield 37, 3) := by decide +kernel
theorem dX11_takes_15 : decode cX11_takes 15 = .ok (.iload_n 1, 1) := by decide +kernel
theorem dX11_takes_16 : decode cX11_takes 16 = .ok (.dup2, 1) := by decide +kernel
theorem dX11_takes_17 : decode cX11_takes 17 = .ok (.iaload, 1) := by decide +kernel
theorem dX11_takes_18 : decode cX11_takes 18 = .ok (.iload_n 3, 1) := by decide +kernel
theorem dX11_takes_19 : decode cX11_takes 19 = .ok (.isub, 1) := by decide +kernel
theorem dX11_takes_20 : decode cX11_takes 20 = .ok (.iastore, 1) := by decide +kernel
theorem dX11_takes_21 : decode cX11_takes 21 = .ok (.iload_n 3, 1) := by decide +kernel
theorem dX11_takes_22 : decode cX11_takes 22 = .ok (.ireturn, 1) := by decide +kernel
theorem dX11_lot_0 : decode cX11_lot 0 = .ok (.aload_n 0, 1) := by decide +kernel
theorem dX11_lot_1 : decode cX11_lot 1 = .ok (.ldc 154, 2) := by decide +kernel
theorem dX11_lot_3 : decode cX11_lot 3 = .ok (.aload_n 0, 1) := by decide +kernel
theorem dX11_lot_4 : decode cX11_lot 4 = .ok (.getfield 155, 3) := by decide +kernel
theorem dX11_lot_7 : decode cX11_lot 7 = .ok (.imul, 1) := by decide +kernel
theorem dX11_lot_8 : decode cX11_lot 8 = .ok (.sipush 12345, 3) := by decide +kernel
theorem dX11_lot_11 : decode cX11_lot 11 = .ok (.iadd, 1) := by decide +kernel
theorem dX11_lot_12 : decode cX11_lot 12 = .ok (.putfield 155, 3) := by decide +kernel
theorem dX11_lot_15 : decode cX11_lot 15 = .ok (.aload_n 0, 1) := by decide +kernel
theorem dX11_lot_16 : decode cX11_lot 16 = .ok (.getfield 155, 3) := by decide +kernel
theorem dX11_lot_19 : decode cX11_lot 19 = .ok (.bipush 16, 2) := by decide +kernel
theorem dX11_lot_21 : decode cX11_lot 21 = .ok (.iushr, 1) := by decide +kernel
theorem dX11_lot_22 : decode cX11_lot 22 = .ok (.iload_n 1, 1) := by decide +kernel
theorem dX11_lot_23 : decode cX11_lot 23 = .ok (.irem, 1) := by decide +kernel
theorem dX11_lot_24 : decode cX11_lot 24 = .ok (.ireturn, 1) := by decide +kernel
theorem dX11_sizeOf_0 : decode cX11_sizeOf 0 = .ok (.iload_n 1, 1) := by decide +kernel
theorem dX11_sizeOf_1 : decode cX11_sizeOf 1 = .ok (.aload_n 0, 1) := by decide +kernel
theorem dX11_sizeOf_2 : decode cX11_sizeOf 2 = .ok (.getfield 56, 3) := by decide +kernel
theorem dX11_sizeOf_5 : decode cX11_sizeOf 5 = .ok (.if_icmp .ne 10, 3) := by decide +kernel
theorem dX11_sizeOf_8 : decode cX11_sizeOf 8 = .ok (.aload_n 0, 1) := by decide +kernel
theorem dX11_sizeOf_9 : decode cX11_sizeOf 9 = .ok (.getfield 158, 3) := by decide +kernel
theorem dX11_sizeOf_12 : decode cX11_sizeOf 12 = .ok (.goto 13, 3) := by decide +kernel
theorem dX11_sizeOf_15 : decode cX11_sizeOf 15 = .ok (.aload_n 0, 1) := by decide +kernel
theorem dX11_sizeOf_16 : decode cX11_sizeOf 16 = .ok (.getfield 28, 3) := by decide +kernel
theorem dX11_sizeOf_19 : decode cX11_sizeOf 19 = .ok (.iconst 4, 1) := by decide +kernel
theorem dX11_sizeOf_20 : decode cX11_sizeOf 20 = .ok (.iload_n 1, 1) := by decide +kernel
theorem dX11_sizeOf_21 : decode cX11_sizeOf 21 = .ok (.imul, 1) := by decide +kernel
theorem dX11_sizeOf_22 : decode cX11_sizeOf 22 = .ok (.iconst 2, 1) := by decide +kernel
theorem dX11_sizeOf_23 : decode cX11_sizeOf 23 = .ok (.iadd, 1) := by decide +kernel
theorem dX11_sizeOf_24 : decode cX11_sizeOf 24 = .ok (.iaload, 1) := by decide +kernel
theorem dX11_sizeOf_25 : decode cX11_sizeOf 25 = .ok (.ireturn, 1) := by decide +kernel
theorem dX11_takesAll_0 : decode cX11_takesAll 0 = .ok (.iconst 0, 1) := by decide +kernel
theorem dX11_takesAll_1 : decode cX11_takesAll 1 = .ok (.istore_n 2, 1) := by decide +kernel
theorem dX11_takesAll_2 : decode cX11_takesAll 2 = .ok (.iload_n 2, 1) := by decide +kernel
theorem dX11_takesAll_3 : decode cX11_takesAll 3 = .ok (.aload_n 0, 1) := by decide +kernel
theorem dX11_takesAll_4 : decode cX11_takesAll 4 = .ok (.getfield 139, 3) := by decide +kernel
theorem dX11_takesAll_7 : decode cX11_takesAll 7 = .ok (.if_icmp .ge 112, 3) := by decide +kernel
theorem dX11_takesAll_10 : decode cX11_takesAll 10 = .ok (.aload_n 0, 1) := by decide +kernel
theorem dX11_takesAll_11 : decode cX11_takesAll 11 = .ok (.getfield 28, 3) := by decide +kernel
theorem dX11_takesAll_14 : decode cX11_takesAll 14 = .ok (.iconst 4, 1) := by decide +kernel
theorem dX11_takesAll_15 : decode cX11_takesAll 15 = .ok (.iload_n 2, 1) := by decide +kernel
theorem dX11_takesAll_16 : decode cX11_takesAll 16 = .ok (.imul, 1) := by decide +kernel
theorem dX11_takesAll_17 : decode cX11_takesAll 17 = .ok (.iconst 1, 1) := by decide +kernel
theorem dX11_takesAll_18 : decode cX11_takesAll 18 = .ok (.iadd, 1) := by decide +kernel
theorem dX11_takesAll_19 : decode cX11_takesAll 19 = .ok (.iaload, 1) := by decide +kernel
theorem dX11_takesAll_20 : decode cX11_takesAll 20 = .ok (.istore_n 3, 1) := by decide +kernel
theorem dX11_takesAll_21 : decode cX11_takesAll 21 = .ok (.aload_n 0, 1) := by decide +kernel
theorem dX11_takesAll_22 : decode cX11_takesAll 22 = .ok (.getfield 28, 3) := by decide +kernel
theorem dX11_takesAll_25 : decode cX11_takesAll 25 = .ok (.iconst 4, 1) := by decide +kernel
theorem dX11_takesAll_26 : decode cX11_takesAll 26 = .ok (.iload_n 2, 1) := by decide +kernel
theorem dX11_takesAll_27 : decode cX11_takesAll 27 = .ok (.imul, 1) := by decide +kernel
theorem dX11_takesAll_28 : decode cX11_takesAll 28 = .ok (.iaload, 1) := by decide +kernel
theorem dX11_takesAll_29 : decode cX11_takesAll 29 = .ok (.iload_n 1, 1) := by decide +kernel
theorem dX11_takesAll_30 : decode cX11_takesAll 30 = .ok (.if_icmp .ne 83, 3) := by decide +kernel
theorem dX11_takesAll_33 : decode cX11_takesAll 33 = .ok (.aload_n 0, 1) := by decide +kernel
theorem dX11_takesAll_34 : decode cX11_takesAll 34 = .ok (.iload_n 3, 1) := by decide +kernel
theorem dX11_takesAll_35 : decode cX11_takesAll 35 = .ok (.invokevirtual 121, 3) := by decide +kernel
theorem dX11_takesAll_38 : decode cX11_takesAll 38 = .ok (.ifCond .eq 75, 3) := by decide +kernel
theorem dX11_takesAll_41 : decode cX11_takesAll 41 = .ok (.aload_n 0, 1) := by decide +kernel
theorem dX11_takesAll_42 : decode cX11_takesAll 42 = .ok (.iload_n 2, 1) := by decide +kernel
theorem dX11_takesAll_43 : decode cX11_takesAll 43 = .ok (.invokevirtual 161, 3) := by decide +kernel
theorem dX11_takesAll_46 : decode cX11_takesAll 46 = .ok (.ifCond .le 67, 3) := by decide +kernel
theorem dX11_takesAll_49 : decode cX11_takesAll 49 = .ok (.aload_n 0, 1) := by decide +kernel
theorem dX11_takesAll_50 : decode cX11_takesAll 50 = .ok (.getfield 40, 3) := by decide +kernel
theorem dX11_takesAll_53 : decode cX11_takesAll 53 = .ok (.iconst 2, 1) := by decide +kernel
theorem dX11_takesAll_54 : decode cX11_takesAll 54 = .ok (.iload_n 2, 1) := by decide +kernel
theorem dX11_takesAll_55 : decode cX11_takesAll 55 = .ok (.imul, 1) := by decide +kernel
theorem dX11_takesAll_56 : decode cX11_takesAll 56 = .ok (.aload_n 0, 1) := by decide +kernel
theorem dX11_takesAll_57 : decode cX11_takesAll 57 = .ok (.iload_n 3, 1) := by decide +kernel
theorem dX11_takesAll_58 : decode cX11_takesAll 58 = .ok (.aload_n 0, 1) := by decide +kernel
theorem dX11_takesAll_59 : decode cX11_takesAll 59 = .ok (.iload_n 2, 1) := by decide +kernel
theorem dX11_takesAll_60 : decode cX11_takesAll 60 = .ok (.invokevirtual 161, 3) := by decide +kernel
theorem dX11_takesAll_63 : decode cX11_takesAll 63 = .ok (.invokevirtual 164, 3) := by decide +kernel
theorem dX11_takesAll_66 : decode cX11_takesAll 66 = .ok (.iastore, 1) := by decide +kernel
theorem dX11_takesAll_67 : decode cX11_takesAll 67 = .ok (.aload_n 0, 1) := by decide +kernel
theorem dX11_takesAll_68 : decode cX11_takesAll 68 = .ok (.getfield 40, 3) := by decide +kernel
theorem dX11_takesAll_71 : decode cX11_takesAll 71 = .ok (.iconst 2, 1) := by decide +kernel
theorem dX11_takesAll_72 : decode cX11_takesAll 72 = .ok (.iload_n 2, 1) := by decide +kernel
theorem dX11_takesAll_73 : decode cX11_takesAll 73 = .ok (.imul, 1) := by decide +kernel
theorem dX11_takesAll_74 : decode cX11_takesAll 74 = .ok (.iconst 1, 1) := by decide +kernel
theorem dX11_takesAll_75 : decode cX11_takesAll 75 = .ok (.iadd, 1) := by decide +kernel
theorem dX11_takesAll_76 : decode cX11_takesAll 76 = .ok (.aload_n 0, 1) := by decide +kernel
theorem dX11_takesAll_77 : decode cX11_takesAll 77 = .ok (.iload_n 3, 1) := by decide +kernel
theorem dX11_takesAll_78 : decode cX11_takesAll 78 = .ok (.invokevirtual 127, 3) := by decide +kernel
theorem dX11_takesAll_81 : decode cX11_takesAll 81 = .ok (.iconst (-1), 1) := by decide +kernel
theorem dX11_takesAll_82 : decode cX11_takesAll 82 = .ok (.if_icmp .ne 7, 3) := by decide +kernel
theorem dX11_takesAll_85 : decode cX11_takesAll 85 = .ok (.iconst 0, 1) := by decide +kernel
theorem dX11_takesAll_86 : decode cX11_takesAll 86 = .ok (.goto 19, 3) := by decide +kernel
theorem dX11_takesAll_89 : decode cX11_takesAll 89 = .ok (.aload_n 0, 1) := by decide +kernel
theorem dX11_takesAll_90 : decode cX11_takesAll 90 = .ok (.aload_n 0, 1) := by decide +kernel
theorem dX11_takesAll_91 : decode cX11_takesAll 91 = .ok (.iload_n 3, 1) := by decide +kernel
theorem dX11_takesAll_92 : decode cX11_takesAll 92 = .ok (.invokevirtual 127, 3) := by decide +kernel
theorem dX11_takesAll_95 : decode cX11_takesAll 95 = .ok (.aload_n 0, 1) := by decide +kernel
theorem dX11_takesAll_96 : decode cX11_takesAll 96 = .ok (.iload_n 2, 1) := by decide +kernel
theorem dX11_takesAll_97 : decode cX11_takesAll 97 = .ok (.invokevirtual 161, 3) := by decide +kernel
theorem dX11_takesAll_100 : decode cX11_takesAll 100 = .ok (.iconst 2, 1) := by decide +kernel
theorem dX11_takesAll_101 : decode cX11_takesAll 101 = .ok (.idiv, 1) := by decide +kernel
theorem dX11_takesAll_102 : decode cX11_takesAll 102 = .ok (.invokevirtual 164, 3) := by decide +kernel
theorem dX11_takesAll_105 : decode cX11_takesAll 105 = .ok (.iastore, 1) := by decide +kernel
theorem dX11_takesAll_106 : decode cX11_takesAll 106 = .ok (.aload_n 0, 1) := by decide +kernel
theorem dX11_takesAll_107 : decode cX11_takesAll 107 = .ok (.getfield 43, 3) := by decide +kernel
theorem dX11_takesAll_110 : decode cX11_takesAll 110 = .ok (.iload_n 2, 1) := by decide +kernel
theorem dX11_takesAll_111 : decode cX11_takesAll 111 = .ok (.iconst 1, 1) := by decide +kernel
theorem dX11_takesAll_112 : decode cX11_takesAll 112 = .ok (.iastore, 1) := by decide +kernel
theorem dX11_takesAll_113 : decode cX11_takesAll 113 = .ok (.iinc 2 1, 3) := by decide +kernel
theorem dX11_takesAll_116 : decode cX11_takesAll 116 = .ok (.goto (-114), 3) := by decide +kernel
theorem dX11_takesAll_119 : decode cX11_takesAll 119 = .ok (.return_, 1) := by decide +kernel
theorem dX11_burnsAll_0 : decode cX11_burnsAll 0 = .ok (.iconst 0, 1) := by decide +kernel
theorem dX11_burnsAll_1 : decode cX11_burnsAll 1 = .ok (.istore_n 2, 1) := by decide +kernel
theorem dX11_burnsAll_2 : decode cX11_burnsAll 2 = .ok (.iload_n 2, 1) := by decide +kernel
theorem dX11_burnsAll_3 : decode cX11_burnsAll 3 = .ok (.aload_n 0, 1) := by decide +kernel
theorem dX11_burnsAll_4 : decode cX11_burnsAll 4 = .ok (.getfield 144, 3) := by decide +kernel
theorem dX11_burnsAll_7 : decode cX11_burnsAll 7 = .ok (.if_icmp .ge 121, 3) := by decide +kernel
theorem dX11_burnsAll_10 : decode cX11_burnsAll 10 = .ok (.aload_n 0, 1) := by decide +kernel
theorem dX11_burnsAll_11 : decode cX11_burnsAll 11 = .ok (.getfield 31, 3) := by decide +kernel
theorem dX11_burnsAll_14 : decode cX11_burnsAll 14 = .ok (.iconst 2, 1) := by decide +kernel
theorem dX11_burnsAll_15 : decode cX11_burnsAll 15 = .ok (.iload_n 2, 1) := by decide +kernel
theorem dX11_burnsAll_16 : decode cX11_burnsAll 16 = .ok (.imul, 1) := by decide +kernel
theorem dX11_burnsAll_17 : decode cX11_burnsAll 17 = .ok (.iconst 1, 1) := by decide +kernel
theorem dX11_burnsAll_18 : decode cX11_burnsAll 18 = .ok (.iadd, 1) := by decide +kernel
theorem dX11_burnsAll_19 : decode cX11_burnsAll 19 = .ok (.iaload, 1) := by decide +kernel
theorem dX11_burnsAll_20 : decode cX11_burnsAll 20 = .ok (.istore_n 3, 1) := by decide +kernel
theorem dX11_burnsAll_21 : decode cX11_burnsAll 21 = .ok (.aload_n 0, 1) := by decide +kernel
theorem dX11_burnsAll_22 : decode cX11_burnsAll 22 = .ok (.getfield 31, 3) := by decide +kernel
theorem dX11_burnsAll_25 : decode cX11_burnsAll 25 = .ok (.iconst 2, 1) := by decide +kernel
theorem dX11_burnsAll_26 : decode cX11_burnsAll 26 = .ok (.iload_n 2, 1) := by decide +kernel
theorem dX11_burnsAll_27 : decode cX11_burnsAll 27 = .ok (.imul, 1) := by decide +kernel
theorem dX11_burnsAll_28 : decode cX11_burnsAll 28 = .ok (.iaload, 1) := by decide +kernel
theorem dX11_burnsAll_29 : decode cX11_burnsAll 29 = .ok (.iload_n 1, 1) := by decide +kernel
theorem dX11_burnsAll_30 : decode cX11_burnsAll 30 = .ok (.if_icmp .ne 92, 3) := by decide +kernel
theorem dX11_burnsAll_33 : decode cX11_burnsAll 33 = .ok (.iload_n 3, 1) := by decide +kernel
theorem dX11_burnsAll_34 : decode cX11_burnsAll 34 = .ok (.aload_n 0, 1) := by decide +kernel
theorem dX11_burnsAll_35 : decode cX11_burnsAll 35 = .ok (.getfield 139, 3) := by decide +kernel
theorem dX11_burnsAll_38 : decode cX11_burnsAll 38 = .ok (.if_icmp .ge 84, 3) := by decide +kernel
theorem dX11_burnsAll_41 : decode cX11_burnsAll 41 = .ok (.aload_n 0, 1) := by decide +kernel
theorem dX11_burnsAll_42 : decode cX11_burnsAll 42 = .ok (.getfield 43, 3) := by decide +kernel
theorem dX11_burnsAll_45 : decode cX11_burnsAll 45 = .ok (.iload_n 3, 1) := by decide +kernel
theorem dX11_burnsAll_46 : decode cX11_burnsAll 46 = .ok (.iaload, 1) := by decide +kernel
theorem dX11_burnsAll_47 : decode cX11_burnsAll 47 = .ok (.iconst 1, 1) := by decide +kernel
theorem dX11_burnsAll_48 : decode cX11_burnsAll 48 = .ok (.if_icmp .ne 74, 3) := by decide +kernel
theorem dX11_burnsAll_51 : decode cX11_burnsAll 51 = .ok (.aload_n 0, 1) := by decide +kernel
theorem dX11_burnsAll_52 : decode cX11_burnsAll 52 = .ok (.getfield 28, 3) := by decide +kernel
theorem dX11_burnsAll_55 : decode cX11_burnsAll 55 = .ok (.iconst 4, 1) := by decide +kernel
theorem dX11_burnsAll_56 : decode cX11_burnsAll 56 = .ok (.iload_n 3, 1) := by decide +kernel
theorem dX11_burnsAll_57 : decode cX11_burnsAll 57 = .ok (.imul, 1) := by decide +kernel
theorem dX11_burnsAll_58 : decode cX11_burnsAll 58 = .ok (.iconst 1, 1) := by decide +kernel
theorem dX11_burnsAll_59 : decode cX11_burnsAll 59 = .ok (.iadd, 1) := by decide +kernel
theorem dX11_burnsAll_60 : decode cX11_burnsAll 60 = .ok (.iaload, 1) := by decide +kernel
theorem dX11_burnsAll_61 : decode cX11_burnsAll 61 = .ok (.istore 4, 2) := by decide +kernel
theorem dX11_burnsAll_63 : decode cX11_burnsAll 63 = .ok (.aload_n 0, 1) := by decide +kernel
theorem dX11_burnsAll_64 : decode cX11_burnsAll 64 = .ok (.getfield 37, 3) := by decide +kernel
theorem dX11_burnsAll_67 : decode cX11_burnsAll 67 = .ok (.iload 4, 2) := by decide +kernel
theorem dX11_burnsAll_69 : decode cX11_burnsAll 69 = .ok (.dup2, 1) := by decide +kernel
theorem dX11_burnsAll_70 : decode cX11_burnsAll 70 = .ok (.iaload, 1) := by decide +kernel
theorem dX11_burnsAll_71 : decode cX11_burnsAll 71 = .ok (.aload_n 0, 1) := by decide +kernel
theorem dX11_burnsAll_72 : decode cX11_burnsAll 72 = .ok (.getfield 40, 3) := by decide +kernel
theorem dX11_burnsAll_75 : decode cX11_burnsAll 75 = .ok (.iconst 2, 1) := by decide +kernel
theorem dX11_burnsAll_76 : decode cX11_burnsAll 76 = .ok (.iload_n 3, 1) := by decide +kernel
theorem dX11_burnsAll_77 : decode cX11_burnsAll 77 = .ok (.imul, 1) := by decide +kernel
theorem dX11_burnsAll_78 : decode cX11_burnsAll 78 = .ok (.iaload, 1) := by decide +kernel
theorem dX11_burnsAll_79 : decode cX11_burnsAll 79 = .ok (.iadd, 1) := by decide +kernel
theorem dX11_burnsAll_80 : decode cX11_burnsAll 80 = .ok (.iastore, 1) := by decide +kernel
theorem dX11_burnsAll_81 : decode cX11_burnsAll 81 = .ok (.aload_n 0, 1) := by decide +kernel
theorem dX11_burnsAll_82 : decode cX11_burnsAll 82 = .ok (.iload 4, 2) := by decide +kernel
theorem dX11_burnsAll_84 : decode cX11_burnsAll 84 = .ok (.invokevirtual 127, 3) := by decide +kernel
theorem dX11_burnsAll_87 : decode cX11_burnsAll 87 = .ok (.iconst (-1), 1) := by decide +kernel
theorem dX11_burnsAll_88 : decode cX11_burnsAll 88 = .ok (.if_icmp .eq 27, 3) := by decide +kernel
theorem dX11_burnsAll_91 : decode cX11_burnsAll 91 = .ok (.aload_n 0, 1) := by decide +kernel
theorem dX11_burnsAll_92 : decode cX11_burnsAll 92 = .ok (.getfield 37, 3) := by decide +kernel
theorem dX11_burnsAll_95 : decode cX11_burnsAll 95 = .ok (.aload_n 0, 1) := by decide +kernel
theorem dX11_burnsAll_96 : decode cX11_burnsAll 96 = .ok (.iload 4, 2) := by decide +kernel
theorem dX11_burnsAll_98 : decode cX11_burnsAll 98 = .ok (.invokevirtual 127, 3) := by decide +kernel
theorem dX11_burnsAll_101 : decode cX11_burnsAll 101 = .ok (.dup2, 1) := by decide +kernel
theorem dX11_burnsAll_102 : decode cX11_burnsAll 102 = .ok (.iaload, 1) := by decide +kernel
theorem dX11_burnsAll_103 : decode cX11_burnsAll 103 = .ok (.aload_n 0, 1) := by decide +kernel
theorem dX11_burnsAll_104 : decode cX11_burnsAll 104 = .ok (.getfield 40, 3) := by decide +kernel
theorem dX11_burnsAll_107 : decode cX11_burnsAll 107 = .ok (.iconst 2, 1) := by decide +kernel
theorem dX11_burnsAll_108 : decode cX11_burnsAll 108 = .ok (.iload_n 3, 1) := by decide +kernel
theorem dX11_burnsAll_109 : decode cX11_burnsAll 109 = .ok (.imul, 1) := by decide +kernel
theorem dX11_burnsAll_110 : decode cX11_burnsAll 110 = .ok (.iconst 1, 1) := by decide +kernel
theorem dX11_burnsAll_111 : decode cX11_burnsAll 111 = .ok (.iadd, 1) := by decide +kernel
theorem dX11_burnsAll_112 : decode cX11_burnsAll 112 = .ok (.iaload, 1) := by decide +kernel
theorem dX11_burnsAll_113 : decode cX11_burnsAll 113 = .ok (.iadd, 1) := by decide +kernel
theorem dX11_burnsAll_114 : decode cX11_burnsAll 114 = .ok (.iastore, 1) := by decide +kernel
theorem dX11_burnsAll_115 : decode cX11_burnsAll 115 = .ok (.aload_n 0, 1) := by decide +kernel
theorem dX11_burnsAll_116 : decode cX11_burnsAll 116 = .ok (.getfield 43, 3) := by decide +kernel
theorem dX11_burnsAll_119 : decode cX11_burnsAll 119 = .ok (.iload_n 3, 1) := by decide +kernel
theorem dX11_burnsAll_120 : decode cX11_burnsAll 120 = .ok (.iconst 2, 1) := by decide +kernel
theorem dX11_burnsAll_121 : decode cX11_burnsAll 121 = .ok (.iastore, 1) := by decide +kernel
theorem dX11_burnsAll_122 : decode cX11_burnsAll 122 = .ok (.iinc 2 1, 3) := by decide +kernel
theorem dX11_burnsAll_125 : decode cX11_burnsAll 125 = .ok (.goto (-123), 3) := by decide +kernel
theorem dX11_burnsAll_128 : decode cX11_burnsAll 128 = .ok (.return_, 1) := by decide +kernel
theorem dX11_begins_0 : decode cX11_begins 0 = .ok (.iconst 0, 1) := by decide +kernel
theorem dX11_begins_1 : decode cX11_begins 1 = .ok (.istore_n 1, 1) := by decide +kernel
theorem dX11_begins_2 : decode cX11_begins 2 = .ok (.iload_n 1, 1) := by decide +kernel
theorem dX11_begins_3 : decode cX11_begins 3 = .ok (.aload_n 0, 1) := by decide +kernel
theorem dX11_begins_4 : decode cX11_begins 4 = .ok (.getfield 97, 3) := by decide +kernel
theorem dX11_begins_7 : decode cX11_begins 7 = .ok (.if_icmp .ge 23, 3) := by decide +kernel
theorem dX11_begins_10 : decode cX11_begins 10 = .ok (.aload_n 0, 1) := by decide +kernel
theorem dX11_begins_11 : decode cX11_begins 11 = .ok (.getfield 37, 3) := by decide +kernel
theorem dX11_begins_14 : decode cX11_begins 14 = .ok (.iload_n 1, 1) := by decide +kernel
theorem dX11_begins_15 : decode cX11_begins 15 = .ok (.aload_n 0, 1) := by decide +kernel
theorem dX11_begins_16 : decode cX11_begins 16 = .ok (.getfield 25, 3) := by decide +kernel
theorem dX11_begins_19 : decode cX11_begins 19 = .ok (.iconst 2, 1) := by decide +kernel
theorem dX11_begins_20 : decode cX11_begins 20 = .ok (.iload_n 1, 1) := by decide +kernel
theorem dX11_begins_21 : decode cX11_begins 21 = .ok (.imul, 1) := by decide +kernel
theorem dX11_begins_22 : decode cX11_begins 22 = .ok (.iaload, 1) := by decide +kernel
theorem dX11_begins_23 : decode cX11_begins 23 = .ok (.iastore, 1) := by decide +kernel
theorem dX11_begins_24 : decode cX11_begins 24 = .ok (.iinc 1 1, 3) := by decide +kernel
theorem dX11_begins_27 : decode cX11_begins 27 = .ok (.goto (-25), 3) := by decide +kernel
theorem dX11_begins_30 : decode cX11_begins 30 = .ok (.iconst 0, 1) := by decide +kernel
theorem dX11_begins_31 : decode cX11_begins 31 = .ok (.istore_n 1, 1) := by decide +kernel
theorem dX11_begins_32 : decode cX11_begins 32 = .ok (.iload_n 1, 1) := by decide +kernel
theorem dX11_begins_33 : decode cX11_begins 33 = .ok (.bipush 12, 2) := by decide +kernel
theorem dX11_begins_35 : decode cX11_begins 35 = .ok (.if_icmp .ge 36, 3) := by decide +kernel
theorem dX11_begins_38 : decode cX11_begins 38 = .ok (.aload_n 0, 1) := by decide +kernel
theorem dX11_begins_39 : decode cX11_begins 39 = .ok (.getfield 43, 3) := by decide +kernel
theorem dX11_begins_42 : decode cX11_begins 42 = .ok (.iload_n 1, 1) := by decide +kernel
theorem dX11_begins_43 : decode cX11_begins 43 = .ok (.iconst 0, 1) := by decide +kernel
theorem dX11_begins_44 : decode cX11_begins 44 = .ok (.iastore, 1) := by decide +kernel
theorem dX11_begins_45 : decode cX11_begins 45 = .ok (.aload_n 0, 1) := by decide +kernel
theorem dX11_begins_46 : decode cX11_begins 46 = .ok (.getfield 40, 3) := by decide +kernel
theorem dX11_begins_49 : decode cX11_begins 49 = .ok (.iconst 2, 1) := by decide +kernel
theorem dX11_begins_50 : decode cX11_begins 50 = .ok (.iload_n 1, 1) := by decide +kernel
theorem dX11_begins_51 : decode cX11_begins 51 = .ok (.imul, 1) := by decide +kernel
theorem dX11_begins_52 : decode cX11_begins 52 = .ok (.iconst 0, 1) := by decide +kernel
theorem dX11_begins_53 : decode cX11_begins 53 = .ok (.iastore, 1) := by decide +kernel
theorem dX11_begins_54 : decode cX11_begins 54 = .ok (.aload_n 0, 1) := by decide +kernel
theorem dX11_begins_55 : decode cX11_begins 55 = .ok (.getfield 40, 3) := by decide +kernel
theorem dX11_begins_58 : decode cX11_begins 58 = .ok (.iconst 2, 1) := by decide +kernel
theorem dX11_begins_59 : decode cX11_begins 59 = .ok (.iload_n 1, 1) := by decide +kernel
theorem dX11_begins_60 : decode cX11_begins 60 = .ok (.imul, 1) := by decide +kernel
theorem dX11_begins_61 : decode cX11_begins 61 = .ok (.iconst 1, 1) := by decide +kernel
theorem dX11_begins_62 : decode cX11_begins 62 = .ok (.iadd, 1) := by decide +kernel
theorem dX11_begins_63 : decode cX11_begins 63 = .ok (.iconst 0, 1) := by decide +kernel
theorem dX11_begins_64 : decode cX11_begins 64 = .ok (.iastore, 1) := by decide +kernel
theorem dX11_begins_65 : decode cX11_begins 65 = .ok (.iinc 1 1, 3) := by decide +kernel
theorem dX11_begins_68 : decode cX11_begins 68 = .ok (.goto (-36), 3) := by decide +kernel
theorem dX11_begins_71 : decode cX11_begins 71 = .ok (.return_, 1) := by decide +kernel
theorem dX11_goesOn_0 : decode cX11_goesOn 0 = .ok (.aload_n 0, 1) := by decide +kernel
theorem dX11_goesOn_1 : decode cX11_goesOn 1 = .ok (.iload_n 1, 1) := by decide +kernel
theorem dX11_goesOn_2 : decode cX11_goesOn 2 = .ok (.invokevirtual 167, 3) := by decide +kernel
theorem dX11_goesOn_5 : decode cX11_goesOn 5 = .ok (.aload_n 0, 1) := by decide +kernel
theorem dX11_goesOn_6 : decode cX11_goesOn 6 = .ok (.getfield 59, 3) := by decide +kernel
theorem dX11_goesOn_9 : decode cX11_goesOn 9 = .ok (.iconst (-1), 1) := by decide +kernel
theorem dX11_goesOn_10 : decode cX11_goesOn 10 = .ok (.if_icmp .eq 57, 3) := by decide +kernel
theorem dX11_goesOn_13 : decode cX11_goesOn 13 = .ok (.aload_n 0, 1) := by decide +kernel
theorem dX11_goesOn_14 : decode cX11_goesOn 14 = .ok (.getfield 97, 3) := by decide +kernel
theorem dX11_goesOn_17 : decode cX11_goesOn 17 = .ok (.ifCond .le 50, 3) := by decide +kernel
theorem dX11_goesOn_20 : decode cX11_goesOn 20 = .ok (.aload_n 0, 1) := by decide +kernel
theorem dX11_goesOn_21 : decode cX11_goesOn 21 = .ok (.aload_n 0, 1) := by decide +kernel
theorem dX11_goesOn_22 : decode cX11_goesOn 22 = .ok (.getfield 97, 3) := by decide +kernel
theorem dX11_goesOn_25 : decode cX11_goesOn 25 = .ok (.invokevirtual 171, 3) := by decide +kernel
theorem dX11_goesOn_28 : decode cX11_goesOn 28 = .ok (.istore_n 2, 1) := by decide +kernel
theorem dX11_goesOn_29 : decode cX11_goesOn 29 = .ok (.aload_n 0, 1) := by decide +kernel
theorem dX11_goesOn_30 : decode cX11_goesOn 30 = .ok (.bipush 9, 2) := by decide +kernel
theorem dX11_goesOn_32 : decode cX11_goesOn 32 = .ok (.invokevirtual 171, 3) := by decide +kernel
theorem dX11_goesOn_35 : decode cX11_goesOn 35 = .ok (.iconst 1, 1) := by decide +kernel
theorem dX11_goesOn_36 : decode cX11_goesOn 36 = .ok (.iadd, 1) := by decide +kernel
theorem dX11_goesOn_37 : decode cX11_goesOn 37 = .ok (.istore_n 3, 1) := by decide +kernel
theorem dX11_goesOn_38 : decode cX11_goesOn 38 = .ok (.aload_n 0, 1) := by decide +kernel
theorem dX11_goesOn_39 : decode cX11_goesOn 39 = .ok (.iload_n 2, 1) := by decide +kernel
theorem dX11_goesOn_40 : decode cX11_goesOn 40 = .ok (.iload_n 3, 1) := by decide +kernel
theorem dX11_goesOn_41 : decode cX11_goesOn 41 = .ok (.invokevirtual 164, 3) := by decide +kernel
theorem dX11_goesOn_44 : decode cX11_goesOn 44 = .ok (.pop, 1) := by decide +kernel
theorem dX11_goesOn_45 : decode cX11_goesOn 45 = .ok (.aload_n 0, 1) := by decide +kernel
theorem dX11_goesOn_46 : decode cX11_goesOn 46 = .ok (.iload_n 2, 1) := by decide +kernel
theorem dX11_goesOn_47 : decode cX11_goesOn 47 = .ok (.invokevirtual 127, 3) := by decide +kernel
theorem dX11_goesOn_50 : decode cX11_goesOn 50 = .ok (.iconst (-1), 1) := by decide +kernel
theorem dX11_goesOn_51 : decode cX11_goesOn 51 = .ok (.if_icmp .eq 16, 3) := by decide +kernel
theorem dX11_goesOn_54 : decode cX11_goesOn 54 = .ok (.aload_n 0, 1) := by decide +kernel
theorem dX11_goesOn_55 : decode cX11_goesOn 55 = .ok (.aload_n 0, 1) := by decide +kernel
theorem dX11_goesOn_56 : decode cX11_goesOn 56 = .ok (.iload_n 2, 1) := by decide +kernel
theorem dX11_goesOn_57 : decode cX11_goesOn 57 = .ok (.invokevirtual 127, 3) := by decide +kernel
theorem dX11_goesOn_60 : decode cX11_goesOn 60 = .ok (.iload_n 3, 1) := by decide +kernel
theorem dX11_goesOn_61 : decode cX11_goesOn 61 = .ok (.iconst 2, 1) := by decide +kernel
theorem dX11_goesOn_62 : decode cX11_goesOn 62 = .ok (.idiv, 1) := by decide +kernel
theorem dX11_goesOn_63 : decode cX11_goesOn 63 = .ok (.invokevirtual 164, 3) := by decide +kernel
theorem dX11_goesOn_66 : decode cX11_goesOn 66 = .ok (.pop, 1) := by decide +kernel
theorem dX11_goesOn_67 : decode cX11_goesOn 67 = .ok (.aload_n 0, 1) := by decide +kernel
theorem dX11_goesOn_68 : decode cX11_goesOn 68 = .ok (.getfield 174, 3) := by decide +kernel
theorem dX11_goesOn_71 : decode cX11_goesOn 71 = .ok (.ifCond .le 24, 3) := by decide +kernel
theorem dX11_goesOn_74 : decode cX11_goesOn 74 = .ok (.iload_n 1, 1) := by decide +kernel
theorem dX11_goesOn_75 : decode cX11_goesOn 75 = .ok (.aload_n 0, 1) := by decide +kernel
theorem dX11_goesOn_76 : decode cX11_goesOn 76 = .ok (.getfield 177, 3) := by decide +kernel
theorem dX11_goesOn_79 : decode cX11_goesOn 79 = .ok (.if_icmp .ne 16, 3) := by decide +kernel
theorem dX11_goesOn_82 : decode cX11_goesOn 82 = .ok (.aload_n 0, 1) := by decide +kernel
theorem dX11_goesOn_83 : decode cX11_goesOn 83 = .ok (.aload_n 0, 1) := by decide +kernel
theorem dX11_goesOn_84 : decode cX11_goesOn 84 = .ok (.getfield 180, 3) := by decide +kernel
theorem dX11_goesOn_87 : decode cX11_goesOn 87 = .ok (.aload_n 0, 1) := by decide +kernel
theorem dX11_goesOn_88 : decode cX11_goesOn 88 = .ok (.getfield 174, 3) := by decide +kernel
theorem dX11_goesOn_91 : decode cX11_goesOn 91 = .ok (.invokevirtual 164, 3) := by decide +kernel
theorem dX11_goesOn_94 : decode cX11_goesOn 94 = .ok (.pop, 1) := by decide +kernel
theorem dX11_goesOn_95 : decode cX11_goesOn 95 = .ok (.aload_n 0, 1) := by decide +kernel
theorem dX11_goesOn_96 : decode cX11_goesOn 96 = .ok (.iload_n 1, 1) := by decide +kernel
theorem dX11_goesOn_97 : decode cX11_goesOn 97 = .ok (.invokevirtual 183, 3) := by decide +kernel
theorem dX11_goesOn_100 : decode cX11_goesOn 100 = .ok (.return_, 1) := by decide +kernel
theorem dX11_lives_0 : decode cX11_lives 0 = .ok (.aload_n 0, 1) := by decide +kernel
theorem dX11_lives_1 : decode cX11_lives 1 = .ok (.invokevirtual 186, 3) := by decide +kernel
theorem dX11_lives_4 : decode cX11_lives 4 = .ok (.iconst 0, 1) := by decide +kernel
theorem dX11_lives_5 : decode cX11_lives 5 = .ok (.istore_n 2, 1) := by decide +kernel
theorem dX11_lives_6 : decode cX11_lives 6 = .ok (.iload_n 2, 1) := by decide +kernel
theorem dX11_lives_7 : decode cX11_lives 7 = .ok (.iload_n 1, 1) := by decide +kernel
theorem dX11_lives_8 : decode cX11_lives 8 = .ok (.if_icmp .gt 14, 3) := by decide +kernel
theorem dX11_lives_11 : decode cX11_lives 11 = .ok (.aload_n 0, 1) := by decide +kernel
theorem dX11_lives_12 : decode cX11_lives 12 = .ok (.iload_n 2, 1) := by decide +kernel
theorem dX11_lives_13 : decode cX11_lives 13 = .ok (.invokevirtual 189, 3) := by decide +kernel
theorem dX11_lives_16 : decode cX11_lives 16 = .ok (.iinc 2 1, 3) := by decide +kernel
theorem dX11_lives_19 : decode cX11_lives 19 = .ok (.goto (-13), 3) := by decide +kernel
theorem dX11_lives_22 : decode cX11_lives 22 = .ok (.return_, 1) := by decide +kernel
theorem dX11_solid_0 : decode cX11_solid 0 = .ok (.aload_n 0, 1) := by decide +kernel
theorem dX11_solid_1 : decode cX11_solid 1 = .ok (.invokevirtual 113, 3) := by decide +kernel
theorem dX11_solid_4 : decode cX11_solid 4 = .ok (.pop, 1) := by decide +kernel
theorem dX11_solid_5 : decode cX11_solid 5 = .ok (.iload_n 1, 1) := by decide +kernel
theorem dX11_solid_6 : decode cX11_solid 6 = .ok (.invokestatic 130, 3) := by decide +kernel
theorem dX11_solid_9 : decode cX11_solid 9 = .ok (.ifCond .eq 11, 3) := by decide +kernel
theorem dX11_solid_12 : decode cX11_solid 12 = .ok (.aload_n 0, 1) := by decide +kernel
theorem dX11_solid_13 : decode cX11_solid 13 = .ok (.iload_n 2, 1) := by decide +kernel
theorem dX11_solid_14 : decode cX11_solid 14 = .ok (.invokevirtual 121, 3) := by decide +kernel
theorem dX11_solid_17 : decode cX11_solid 17 = .ok (.ifCond .ne 6, 3) := by decide +kernel
theorem dX11_solid_20 : decode cX11_solid 20 = .ok (.bipush (-2), 2) := by decide +kernel
theorem dX11_solid_22 : decode cX11_solid 22 = .ok (.ireturn, 1) := by decide +kernel
theorem dX11_solid_23 : decode cX11_solid 23 = .ok (.aload_n 0, 1) := by decide +kernel
theorem dX11_solid_24 : decode cX11_solid 24 = .ok (.iload_n 1, 1) := by decide +kernel
theorem dX11_solid_25 : decode cX11_solid 25 = .ok (.invokevirtual 192, 3) := by decide +kernel
theorem dX11_solid_28 : decode cX11_solid 28 = .ok (.aload_n 0, 1) := by decide +kernel
theorem dX11_solid_29 : decode cX11_solid 29 = .ok (.getfield 37, 3) := by decide +kernel
theorem dX11_solid_32 : decode cX11_solid 32 = .ok (.iload_n 2, 1) := by decide +kernel
theorem dX11_solid_33 : decode cX11_solid 33 = .ok (.iaload, 1) := by decide +kernel
theorem dX11_solid_34 : decode cX11_solid 34 = .ok (.ireturn, 1) := by decide +kernel
theorem dX11_unseenNow_0 : decode cX11_unseenNow 0 = .ok (.iconst 0, 1) := by decide +kernel
theorem dX11_unseenNow_1 : decode cX11_unseenNow 1 = .ok (.istore_n 1, 1) := by decide +kernel
theorem dX11_unseenNow_2 : decode cX11_unseenNow 2 = .ok (.iconst 0, 1) := by decide +kernel
theorem dX11_unseenNow_3 : decode cX11_unseenNow 3 = .ok (.istore_n 2, 1) := by decide +kernel
theorem dX11_unseenNow_4 : decode cX11_unseenNow 4 = .ok (.iload_n 2, 1) := by decide +kernel
theorem dX11_unseenNow_5 : decode cX11_unseenNow 5 = .ok (.aload_n 0, 1) := by decide +kernel
theorem dX11_unseenNow_6 : decode cX11_unseenNow 6 = .ok (.getfield 97, 3) := by decide +kernel
theorem dX11_unseenNow_9 : decode cX11_unseenNow 9 = .ok (.if_icmp .ge 32, 3) := by decide +kernel
theorem dX11_unseenNow_12 : decode cX11_unseenNow 12 = .ok (.iload_n 1, 1) := by decide +kernel
theorem dX11_unseenNow_13 : decode cX11_unseenNow 13 = .ok (.aload_n 0, 1) := by decide +kernel
theorem dX11_unseenNow_14 : decode cX11_unseenNow 14 = .ok (.getfield 37, 3) := by decide +kernel
theorem dX11_unseenNow_17 : decode cX11_unseenNow 17 = .ok (.iload_n 2, 1) := by decide +kernel
theorem dX11_unseenNow_18 : decode cX11_unseenNow 18 = .ok (.iaload, 1) := by decide +kernel
theorem dX11_unseenNow_19 : decode cX11_unseenNow 19 = .ok (.aload_n 0, 1) := by decide +kernel
theorem dX11_unseenNow_20 : decode cX11_unseenNow 20 = .ok (.getfield 52, 3) := by decide +kernel
theorem dX11_unseenNow_23 : decode cX11_unseenNow 23 = .ok (.if_icmp .ge 9, 3) := by decide +kernel
theorem dX11_unseenNow_26 : decode cX11_unseenNow 26 = .ok (.iconst 1, 1) := by decide +kernel
theorem dX11_unseenNow_27 : decode cX11_unseenNow 27 = .ok (.iload_n 2, 1) := by decide +kernel
theorem dX11_unseenNow_28 : decode cX11_unseenNow 28 = .ok (.ishl, 1) := by decide +kernel
theorem dX11_unseenNow_29 : decode cX11_unseenNow 29 = .ok (.goto 4, 3) := by decide +kernel
theorem dX11_unseenNow_32 : decode cX11_unseenNow 32 = .ok (.iconst 0, 1) := by decide +kernel
theorem dX11_unseenNow_33 : decode cX11_unseenNow 33 = .ok (.ior, 1) := by decide +kernel
theorem dX11_unseenNow_34 : decode cX11_unseenNow 34 = .ok (.istore_n 1, 1) := by decide +kernel
theorem dX11_unseenNow_35 : decode cX11_unseenNow 35 = .ok (.iinc 2 1, 3) := by decide +kernel
theorem dX11_unseenNow_38 : decode cX11_unseenNow 38 = .ok (.goto (-34), 3) := by decide +kernel
theorem dX11_unseenNow_41 : decode cX11_unseenNow 41 = .ok (.iload_n 1, 1) := by decide +kernel
theorem dX11_unseenNow_42 : decode cX11_unseenNow 42 = .ok (.ireturn, 1) := by decide +kernel
theorem dX11_thereNow_0 : decode cX11_thereNow 0 = .ok (.iconst 0, 1) := by decide +kernel
theorem dX11_thereNow_1 : decode cX11_thereNow 1 = .ok (.istore_n 1, 1) := by decide +kernel
theorem dX11_thereNow_2 : decode cX11_thereNow 2 = .ok (.iconst 0, 1) := by decide +kernel
theorem dX11_thereNow_3 : decode cX11_thereNow 3 = .ok (.istore_n 2, 1) := by decide +kernel
theorem dX11_thereNow_4 : decode cX11_thereNow 4 = .ok (.iload_n 2, 1) := by decide +kernel
theorem dX11_thereNow_5 : decode cX11_thereNow 5 = .ok (.aload_n 0, 1) := by decide +kernel
theorem dX11_thereNow_6 : decode cX11_thereNow 6 = .ok (.getfield 139, 3) := by decide +kernel
theorem dX11_thereNow_9 : decode cX11_thereNow 9 = .ok (.if_icmp .ge 29, 3) := by decide +kernel
theorem dX11_thereNow_12 : decode cX11_thereNow 12 = .ok (.iload_n 1, 1) := by decide +kernel
theorem dX11_thereNow_13 : decode cX11_thereNow 13 = .ok (.aload_n 0, 1) := by decide +kernel
theorem dX11_thereNow_14 : decode cX11_thereNow 14 = .ok (.getfield 43, 3) := by decide +kernel
theorem dX11_thereNow_17 : decode cX11_thereNow 17 = .ok (.iload_n 2, 1) := by decide +kernel
theorem dX11_thereNow_18 : decode cX11_thereNow 18 = .ok (.iaload, 1) := by decide +kernel
theorem dX11_thereNow_19 : decode cX11_thereNow 19 = .ok (.iconst 1, 1) := by decide +kernel
theorem dX11_thereNow_20 : decode cX11_thereNow 20 = .ok (.if_icmp .ne 9, 3) := by decide +kernel
theorem dX11_thereNow_23 : decode cX11_thereNow 23 = .ok (.iconst 1, 1) := by decide +kernel
theorem dX11_thereNow_24 : decode cX11_thereNow 24 = .ok (.iload_n 2, 1) := by decide +kernel
theorem dX11_thereNow_25 : decode cX11_thereNow 25 = .ok (.ishl, 1) := by decide +kernel
theorem dX11_thereNow_26 : decode cX11_thereNow 26 = .ok (.goto 4, 3) := by decide +kernel
theorem dX11_thereNow_29 : decode cX11_thereNow 29 = .ok (.iconst 0, 1) := by decide +kernel
theorem dX11_thereNow_30 : decode cX11_thereNow 30 = .ok (.ior, 1) := by decide +kernel
theorem dX11_thereNow_31 : decode cX11_thereNow 31 = .ok (.istore_n 1, 1) := by decide +kernel
theorem dX11_thereNow_32 : decode cX11_thereNow 32 = .ok (.iinc 2 1, 3) := by decide +kernel
theorem dX11_thereNow_35 : decode cX11_thereNow 35 = .ok (.goto (-31), 3) := by decide +kernel
theorem dX11_thereNow_38 : decode cX11_thereNow 38 = .ok (.iload_n 1, 1) := by decide +kernel
theorem dX11_thereNow_39 : decode cX11_thereNow 39 = .ok (.ireturn, 1) := by decide +kernel
theorem dX11_holds_0 : decode cX11_holds 0 = .ok (.iconst 0, 1) := by decide +kernel
theorem dX11_holds_1 : decode cX11_holds 1 = .ok (.istore_n 2, 1) := by decide +kernel
theorem dX11_holds_2 : decode cX11_holds 2 = .ok (.iconst 0, 1) := by decide +kernel
theorem dX11_holds_3 : decode cX11_holds 3 = .ok (.istore_n 3, 1) := by decide +kernel
theorem dX11_holds_4 : decode cX11_holds 4 = .ok (.iload_n 3, 1) := by decide +kernel
theorem dX11_holds_5 : decode cX11_holds 5 = .ok (.aload_n 0, 1) := by decide +kernel
theorem dX11_holds_6 : decode cX11_holds 6 = .ok (.getfield 139, 3) := by decide +kernel
theorem dX11_holds_9 : decode cX11_holds 9 = .ok (.if_icmp .ge 59, 3) := by decide +kernel
theorem dX11_holds_12 : decode cX11_holds 12 = .ok (.iload_n 2, 1) := by decide +kernel
theorem dX11_holds_13 : decode cX11_holds 13 = .ok (.aload_n 0, 1) := by decide +kernel
theorem dX11_holds_14 : decode cX11_holds 14 = .ok (.getfield 43, 3) := by decide +kernel
theorem dX11_holds_17 : decode cX11_holds 17 = .ok (.iload_n 3, 1) := by decide +kernel
theorem dX11_holds_18 : decode cX11_holds 18 = .ok (.iaload, 1) := by decide +kernel
theorem dX11_holds_19 : decode cX11_holds 19 = .ok (.iconst 1, 1) := by decide +kernel
theorem dX11_holds_20 : decode cX11_holds 20 = .ok (.if_icmp .ne 39, 3) := by decide +kernel
theorem dX11_holds_23 : decode cX11_holds 23 = .ok (.aload_n 0, 1) := by decide +kernel
theorem dX11_holds_24 : decode cX11_holds 24 = .ok (.getfield 28, 3) := by decide +kernel
theorem dX11_holds_27 : decode cX11_holds 27 = .ok (.iconst 4, 1) := by decide +kernel
theorem dX11_holds_28 : decode cX11_holds 28 = .ok (.iload_n 3, 1) := by decide +kernel
theorem dX11_holds_29 : decode cX11_holds 29 = .ok (.imul, 1) := by decide +kernel
theorem dX11_holds_30 : decode cX11_holds 30 = .ok (.iconst 3, 1) := by decide +kernel
theorem dX11_holds_31 : decode cX11_holds 31 = .ok (.iadd, 1) := by decide +kernel
theorem dX11_holds_32 : decode cX11_holds 32 = .ok (.iaload, 1) := by decide +kernel
theorem dX11_holds_33 : decode cX11_holds 33 = .ok (.iload_n 1, 1) := by decide +kernel
theorem dX11_holds_34 : decode cX11_holds 34 = .ok (.if_icmp .ne 25, 3) := by decide +kernel
theorem dX11_holds_37 : decode cX11_holds 37 = .ok (.aload_n 0, 1) := by decide +kernel
theorem dX11_holds_38 : decode cX11_holds 38 = .ok (.getfield 40, 3) := by decide +kernel
theorem dX11_holds_41 : decode cX11_holds 41 = .ok (.iconst 2, 1) := by decide +kernel
theorem dX11_holds_42 : decode cX11_holds 42 = .ok (.iload_n 3, 1) := by decide +kernel
theorem dX11_holds_43 : decode cX11_holds 43 = .ok (.imul, 1) := by decide +kernel
theorem dX11_holds_44 : decode cX11_holds 44 = .ok (.iaload, 1) := by decide +kernel
theorem dX11_holds_45 : decode cX11_holds 45 = .ok (.aload_n 0, 1) := by decide +kernel
theorem dX11_holds_46 : decode cX11_holds 46 = .ok (.getfield 40, 3) := by decide +kernel
theorem dX11_holds_49 : decode cX11_holds 49 = .ok (.iconst 2, 1) := by decide +kernel
theorem dX11_holds_50 : decode cX11_holds 50 = .ok (.iload_n 3, 1) := by decide +kernel
theorem dX11_holds_51 : decode cX11_holds 51 = .ok (.imul, 1) := by decide +kernel
theorem dX11_holds_52 : decode cX11_holds 52 = .ok (.iconst 1, 1) := by decide +kernel
theorem dX11_holds_53 : decode cX11_holds 53 = .ok (.iadd, 1) := by decide +kernel
theorem dX11_holds_54 : decode cX11_holds 54 = .ok (.iaload, 1) := by decide +kernel
theorem dX11_holds_55 : decode cX11_holds 55 = .ok (.iadd, 1) := by decide +kernel
theorem dX11_holds_56 : decode cX11_holds 56 = .ok (.goto 4, 3) := by decide +kernel
theorem dX11_holds_59 : decode cX11_holds 59 = .ok (.iconst 0, 1) := by decide +kernel
theorem dX11_holds_60 : decode cX11_holds 60 = .ok (.iadd, 1) := by decide +kernel
theorem dX11_holds_61 : decode cX11_holds 61 = .ok (.istore_n 2, 1) := by decide +kernel
theorem dX11_holds_62 : decode cX11_holds 62 = .ok (.iinc 3 1, 3) := by decide +kernel
theorem dX11_holds_65 : decode cX11_holds 65 = .ok (.goto (-61), 3) := by decide +kernel
theorem dX11_holds_68 : decode cX11_holds 68 = .ok (.iload_n 2, 1) := by decide +kernel
theorem dX11_holds_69 : decode cX11_holds 69 = .ok (.ireturn, 1) := by decide +kernel
theorem dX11_allNow_0 : decode cX11_allNow 0 = .ok (.iconst 0, 1) := by decide +kernel
theorem dX11_allNow_1 : decode cX11_allNow 1 = .ok (.istore_n 1, 1) := by decide +kernel
theorem dX11_allNow_2 : decode cX11_allNow 2 = .ok (.iconst 0, 1) := by decide +kernel
theorem dX11_allNow_3 : decode cX11_allNow 3 = .ok (.istore_n 2, 1) := by decide +kernel
theorem dX11_allNow_4 : decode cX11_allNow 4 = .ok (.iload_n 2, 1) := by decide +kernel
theorem dX11_allNow_5 : decode cX11_allNow 5 = .ok (.aload_n 0, 1) := by decide +kernel
theorem dX11_allNow_6 : decode cX11_allNow 6 = .ok (.getfield 97, 3) := by decide +kernel
theorem dX11_allNow_9 : decode cX11_allNow 9 = .ok (.if_icmp .ge 18, 3) := by decide +kernel
theorem dX11_allNow_12 : decode cX11_allNow 12 = .ok (.iload_n 1, 1) := by decide +kernel
theorem dX11_allNow_13 : decode cX11_allNow 13 = .ok (.aload_n 0, 1) := by decide +kernel
theorem dX11_allNow_14 : decode cX11_allNow 14 = .ok (.getfield 37, 3) := by decide +kernel
theorem dX11_allNow_17 : decode cX11_allNow 17 = .ok (.iload_n 2, 1) := by decide +kernel
theorem dX11_allNow_18 : decode cX11_allNow 18 = .ok (.iaload, 1) := by decide +kernel
theorem dX11_allNow_19 : decode cX11_allNow 19 = .ok (.iadd, 1) := by decide +kernel
theorem dX11_allNow_20 : decode cX11_allNow 20 = .ok (.istore_n 1, 1) := by decide +kernel
theorem dX11_allNow_21 : decode cX11_allNow 21 = .ok (.iinc 2 1, 3) := by decide +kernel
theorem dX11_allNow_24 : decode cX11_allNow 24 = .ok (.goto (-20), 3) := by decide +kernel
theorem dX11_allNow_27 : decode cX11_allNow 27 = .ok (.iconst 0, 1) := by decide +kernel
theorem dX11_allNow_28 : decode cX11_allNow 28 = .ok (.istore_n 2, 1) := by decide +kernel
theorem dX11_allNow_29 : decode cX11_allNow 29 = .ok (.iload_n 2, 1) := by decide +kernel
theorem dX11_allNow_30 : decode cX11_allNow 30 = .ok (.iconst 4, 1) := by decide +kernel
theorem dX11_allNow_31 : decode cX11_allNow 31 = .ok (.if_icmp .ge 17, 3) := by decide +kernel
theorem dX11_allNow_34 : decode cX11_allNow 34 = .ok (.iload_n 1, 1) := by decide +kernel
theorem dX11_allNow_35 : decode cX11_allNow 35 = .ok (.aload_n 0, 1) := by decide +kernel
theorem dX11_allNow_36 : decode cX11_allNow 36 = .ok (.iload_n 2, 1) := by decide +kernel
theorem dX11_allNow_37 : decode cX11_allNow 37 = .ok (.invokevirtual 195, 3) := by decide +kernel
theorem dX11_allNow_40 : decode cX11_allNow 40 = .ok (.iadd, 1) := by decide +kernel
theorem dX11_allNow_41 : decode cX11_allNow 41 = .ok (.istore_n 1, 1) := by decide +kernel
theorem dX11_allNow_42 : decode cX11_allNow 42 = .ok (.iinc 2 1, 3) := by decide +kernel
theorem dX11_allNow_45 : decode cX11_allNow 45 = .ok (.goto (-16), 3) := by decide +kernel
theorem dX11_allNow_48 : decode cX11_allNow 48 = .ok (.iload_n 1, 1) := by decide +kernel
theorem dX11_allNow_49 : decode cX11_allNow 49 = .ok (.ireturn, 1) := by decide +kernel
theorem dX11_behindOf_0 : decode cX11_behindOf 0 = .ok (.aload_n 0, 1) := by decide +kernel
theorem dX11_behindOf_1 : decode cX11_behindOf 1 = .ok (.iload_n 1, 1) := by decide +kernel
theorem dX11_behindOf_2 : decode cX11_behindOf 2 = .ok (.invokevirtual 192, 3) := by decide +kernel
theorem dX11_behindOf_5 : decode cX11_behindOf 5 = .ok (.iload_n 2, 1) := by decide +kernel
theorem dX11_behindOf_6 : decode cX11_behindOf 6 = .ok (.ifCond .ne 10, 3) := by decide +kernel
theorem dX11_behindOf_9 : decode cX11_behindOf 9 = .ok (.aload_n 0, 1) := by decide +kernel
theorem dX11_behindOf_10 : decode cX11_behindOf 10 = .ok (.invokevirtual 198, 3) := by decide +kernel
theorem dX11_behindOf_13 : decode cX11_behindOf 13 = .ok (.goto 19, 3) := by decide +kernel
theorem dX11_behindOf_16 : decode cX11_behindOf 16 = .ok (.iload_n 2, 1) := by decide +kernel
theorem dX11_behindOf_17 : decode cX11_behindOf 17 = .ok (.iconst 1, 1) := by decide +kernel
theorem dX11_behindOf_18 : decode cX11_behindOf 18 = .ok (.if_icmp .ne 10, 3) := by decide +kernel
theorem dX11_behindOf_21 : decode cX11_behindOf 21 = .ok (.aload_n 0, 1) := by decide +kernel
theorem dX11_behindOf_22 : decode cX11_behindOf 22 = .ok (.invokevirtual 201, 3) := by decide +kernel
theorem dX11_behindOf_25 : decode cX11_behindOf 25 = .ok (.goto 7, 3) := by decide +kernel
theorem dX11_behindOf_28 : decode cX11_behindOf 28 = .ok (.aload_n 0, 1) := by decide +kernel
theorem dX11_behindOf_29 : decode cX11_behindOf 29 = .ok (.invokevirtual 204, 3) := by decide +kernel
theorem dX11_behindOf_32 : decode cX11_behindOf 32 = .ok (.ireturn, 1) := by decide +kernel
theorem dX11_behind_0 : decode cX11_behind 0 = .ok (.aload_n 0, 1) := by decide +kernel
theorem dX11_behind_1 : decode cX11_behind 1 = .ok (.invokevirtual 113, 3) := by decide +kernel
theorem dX11_behind_4 : decode cX11_behind 4 = .ok (.pop, 1) := by decide +kernel
theorem dX11_behind_5 : decode cX11_behind 5 = .ok (.iload_n 1, 1) := by decide +kernel
theorem dX11_behind_6 : decode cX11_behind 6 = .ok (.invokestatic 130, 3) := by decide +kernel
theorem dX11_behind_9 : decode cX11_behind 9 = .ok (.ifCond .eq 24, 3) := by decide +kernel
theorem dX11_behind_12 : decode cX11_behind 12 = .ok (.iload_n 2, 1) := by decide +kernel
theorem dX11_behind_13 : decode cX11_behind 13 = .ok (.i2l, 1) := by decide +kernel
theorem dX11_behind_14 : decode cX11_behind 14 = .ok (.lconst 0, 1) := by decide +kernel
theorem dX11_behind_15 : decode cX11_behind 15 = .ok (.ldc2_w 77, 3) := by decide +kernel
theorem dX11_behind_18 : decode cX11_behind 18 = .ok (.invokestatic 64, 3) := by decide +kernel
theorem dX11_behind_21 : decode cX11_behind 21 = .ok (.ifCond .eq 12, 3) := by decide +kernel
theorem dX11_behind_24 : decode cX11_behind 24 = .ok (.aload_n 0, 1) := by decide +kernel
theorem dX11_behind_25 : decode cX11_behind 25 = .ok (.iload_n 1, 1) := by decide +kernel
theorem dX11_behind_26 : decode cX11_behind 26 = .ok (.iload_n 2, 1) := by decide +kernel
theorem dX11_behind_27 : decode cX11_behind 27 = .ok (.invokevirtual 207, 3) := by decide +kernel
theorem dX11_behind_30 : decode cX11_behind 30 = .ok (.goto 5, 3) := by decide +kernel
theorem dX11_behind_33 : decode cX11_behind 33 = .ok (.bipush (-2), 2) := by decide +kernel
theorem dX11_behind_35 : decode cX11_behind 35 = .ok (.ireturn, 1) := by decide +kernel
theorem dX11_drawerOf_0 : decode cX11_drawerOf 0 = .ok (.aload_n 0, 1) := by decide +kernel
theorem dX11_drawerOf_1 : decode cX11_drawerOf 1 = .ok (.iload_n 1, 1) := by decide +kernel
theorem dX11_drawerOf_2 : decode cX11_drawerOf 2 = .ok (.invokevirtual 192, 3) := by decide +kernel
theorem dX11_drawerOf_5 : decode cX11_drawerOf 5 = .ok (.aload_n 0, 1) := by decide +kernel
theorem dX11_drawerOf_6 : decode cX11_drawerOf 6 = .ok (.iload_n 2, 1) := by decide +kernel
theorem dX11_drawerOf_7 : decode cX11_drawerOf 7 = .ok (.invokevirtual 195, 3) := by decide +kernel
theorem dX11_drawerOf_10 : decode cX11_drawerOf 10 = .ok (.ireturn, 1) := by decide +kernel
theorem dX11_drawer_0 : decode cX11_drawer 0 = .ok (.aload_n 0, 1) := by decide +kernel
theorem dX11_drawer_1 : decode cX11_drawer 1 = .ok (.invokevirtual 113, 3) := by decide +kernel
theorem dX11_drawer_4 : decode cX11_drawer 4 = .ok (.pop, 1) := by decide +kernel
theorem dX11_drawer_5 : decode cX11_drawer 5 = .ok (.iload_n 1, 1) := by decide +kernel
theorem dX11_drawer_6 : decode cX11_drawer 6 = .ok (.invokestatic 130, 3) := by decide +kernel
theorem dX11_drawer_9 : decode cX11_drawer 9 = .ok (.ifCond .eq 19, 3) := by decide +kernel
theorem dX11_drawer_12 : decode cX11_drawer 12 = .ok (.iload_n 2, 1) := by decide +kernel
theorem dX11_drawer_13 : decode cX11_drawer 13 = .ok (.invokestatic 136, 3) := by decide +kernel
theorem dX11_drawer_16 : decode cX11_drawer 16 = .ok (.ifCond .eq 12, 3) := by decide +kernel
theorem dX11_drawer_19 : decode cX11_drawer 19 = .ok (.aload_n 0, 1) := by decide +kernel
theorem dX11_drawer_20 : decode cX11_drawer 20 = .ok (.iload_n 1, 1) := by decide +kernel
theorem dX11_drawer_21 : decode cX11_drawer 21 = .ok (.iload_n 2, 1) := by decide +kernel
theorem dX11_drawer_22 : decode cX11_drawer 22 = .ok (.invokevirtual 210, 3) := by decide +kernel
theorem dX11_drawer_25 : decode cX11_drawer 25 = .ok (.goto 5, 3) := by decide +kernel
theorem dX11_drawer_28 : decode cX11_drawer 28 = .ok (.bipush (-2), 2) := by decide +kernel
theorem dX11_drawer_30 : decode cX11_drawer 30 = .ok (.ireturn, 1) := by decide +kernel
theorem dX11_tookOf_0 : decode cX11_tookOf 0 = .ok (.aload_n 0, 1) := by decide +kernel
theorem dX11_tookOf_1 : decode cX11_tookOf 1 = .ok (.bipush 29, 2) := by decide +kernel
theorem dX11_tookOf_3 : decode cX11_tookOf 3 = .ok (.invokevirtual 192, 3) := by decide +kernel
theorem dX11_tookOf_6 : decode cX11_tookOf 6 = .ok (.aload_n 0, 1) := by decide +kernel
theorem dX11_tookOf_7 : decode cX11_tookOf 7 = .ok (.getfield 40, 3) := by decide +kernel
theorem dX11_tookOf_10 : decode cX11_tookOf 10 = .ok (.iconst 2, 1) := by decide +kernel
theorem dX11_tookOf_11 : decode cX11_tookOf 11 = .ok (.iload_n 1, 1) := by decide +kernel
theorem dX11_tookOf_12 : decode cX11_tookOf 12 = .ok (.imul, 1) := by decide +kernel
theorem dX11_tookOf_13 : decode cX11_tookOf 13 = .ok (.iload_n 2, 1) := by decide +kernel
theorem dX11_tookOf_14 : decode cX11_tookOf 14 = .ok (.iadd, 1) := by decide +kernel
theorem dX11_tookOf_15 : decode cX11_tookOf 15 = .ok (.iaload, 1) := by decide +kernel
theorem dX11_tookOf_16 : decode cX11_tookOf 16 = .ok (.ireturn, 1) := by decide +kernel
theorem dX11_took_0 : decode cX11_took 0 = .ok (.aload_n 0, 1) := by decide +kernel
theorem dX11_took_1 : decode cX11_took 1 = .ok (.invokevirtual 113, 3) := by decide +kernel
theorem dX11_took_4 : decode cX11_took 4 = .ok (.pop, 1) := by decide +kernel
theorem dX11_took_5 : decode cX11_took 5 = .ok (.iload_n 1, 1) := by decide +kernel
theorem dX11_took_6 : decode cX11_took 6 = .ok (.i2l, 1) := by decide +kernel
theorem dX11_took_7 : decode cX11_took 7 = .ok (.lconst 0, 1) := by decide +kernel
theorem dX11_took_8 : decode cX11_took 8 = .ok (.aload_n 0, 1) := by decide +kernel
theorem dX11_took_9 : decode cX11_took 9 = .ok (.getfield 139, 3) := by decide +kernel
theorem dX11_took_12 : decode cX11_took 12 = .ok (.iconst 1, 1) := by decide +kernel
theorem dX11_took_13 : decode cX11_took 13 = .ok (.isub, 1) := by decide +kernel
theorem dX11_took_14 : decode cX11_took 14 = .ok (.i2l, 1) := by decide +kernel
theorem dX11_took_15 : decode cX11_took 15 = .ok (.invokestatic 64, 3) := by decide +kernel
theorem dX11_took_18 : decode cX11_took 18 = .ok (.ifCond .eq 19, 3) := by decide +kernel
theorem dX11_took_21 : decode cX11_took 21 = .ok (.iload_n 2, 1) := by decide +kernel
theorem dX11_took_22 : decode cX11_took 22 = .ok (.invokestatic 124, 3) := by decide +kernel
theorem dX11_took_25 : decode cX11_took 25 = .ok (.ifCond .eq 12, 3) := by decide +kernel
theorem dX11_took_28 : decode cX11_took 28 = .ok (.aload_n 0, 1) := by decide +kernel
theorem dX11_took_29 : decode cX11_took 29 = .ok (.iload_n 1, 1) := by decide +kernel
theorem dX11_took_30 : decode cX11_took 30 = .ok (.iload_n 2, 1) := by decide +kernel
theorem dX11_took_31 : decode cX11_took 31 = .ok (.invokevirtual 213, 3) := by decide +kernel
theorem dX11_took_34 : decode cX11_took 34 = .ok (.goto 5, 3) := by decide +kernel
theorem dX11_took_37 : decode cX11_took 37 = .ok (.bipush (-2), 2) := by decide +kernel
theorem dX11_took_39 : decode cX11_took 39 = .ok (.ireturn, 1) := by decide +kernel
theorem dX11_unseenOf_0 : decode cX11_unseenOf 0 = .ok (.aload_n 0, 1) := by decide +kernel
theorem dX11_unseenOf_1 : decode cX11_unseenOf 1 = .ok (.invokevirtual 186, 3) := by decide +kernel
theorem dX11_unseenOf_4 : decode cX11_unseenOf 4 = .ok (.aload_n 0, 1) := by decide +kernel
theorem dX11_unseenOf_5 : decode cX11_unseenOf 5 = .ok (.invokevirtual 198, 3) := by decide +kernel
theorem dX11_unseenOf_8 : decode cX11_unseenOf 8 = .ok (.istore_n 2, 1) := by decide +kernel
theorem dX11_unseenOf_9 : decode cX11_unseenOf 9 = .ok (.iconst 0, 1) := by decide +kernel
theorem dX11_unseenOf_10 : decode cX11_unseenOf 10 = .ok (.istore_n 3, 1) := by decide +kernel
theorem dX11_unseenOf_11 : decode cX11_unseenOf 11 = .ok (.iload_n 3, 1) := by decide +kernel
theorem dX11_unseenOf_12 : decode cX11_unseenOf 12 = .ok (.bipush 30, 2) := by decide +kernel
theorem dX11_unseenOf_14 : decode cX11_unseenOf 14 = .ok (.if_icmp .ge 63, 3) := by decide +kernel
theorem dX11_unseenOf_17 : decode cX11_unseenOf 17 = .ok (.aload_n 0, 1) := by decide +kernel
theorem dX11_unseenOf_18 : decode cX11_unseenOf 18 = .ok (.iload_n 3, 1) := by decide +kernel
theorem dX11_unseenOf_19 : decode cX11_unseenOf 19 = .ok (.invokevirtual 189, 3) := by decide +kernel
theorem dX11_unseenOf_22 : decode cX11_unseenOf 22 = .ok (.aload_n 0, 1) := by decide +kernel
theorem dX11_unseenOf_23 : decode cX11_unseenOf 23 = .ok (.invokevirtual 198, 3) := by decide +kernel
theorem dX11_unseenOf_26 : decode cX11_unseenOf 26 = .ok (.iload_n 2, 1) := by decide +kernel
theorem dX11_unseenOf_27 : decode cX11_unseenOf 27 = .ok (.iconst (-1), 1) := by decide +kernel
theorem dX11_unseenOf_28 : decode cX11_unseenOf 28 = .ok (.ixor, 1) := by decide +kernel
theorem dX11_unseenOf_29 : decode cX11_unseenOf 29 = .ok (.iand, 1) := by decide +kernel
theorem dX11_unseenOf_30 : decode cX11_unseenOf 30 = .ok (.istore 4, 2) := by decide +kernel
theorem dX11_unseenOf_32 : decode cX11_unseenOf 32 = .ok (.iconst 0, 1) := by decide +kernel
theorem dX11_unseenOf_33 : decode cX11_unseenOf 33 = .ok (.istore 5, 2) := by decide +kernel
theorem dX11_unseenOf_35 : decode cX11_unseenOf 35 = .ok (.iload 5, 2) := by decide +kernel
theorem dX11_unseenOf_37 : decode cX11_unseenOf 37 = .ok (.aload_n 0, 1) := by decide +kernel
theorem dX11_unseenOf_38 : decode cX11_unseenOf 38 = .ok (.getfield 97, 3) := by decide +kernel
theorem dX11_unseenOf_41 : decode cX11_unseenOf 41 = .ok (.if_icmp .ge 30, 3) := by decide +kernel
theorem dX11_unseenOf_44 : decode cX11_unseenOf 44 = .ok (.iload 4, 2) := by decide +kernel
theorem dX11_unseenOf_46 : decode cX11_unseenOf 46 = .ok (.iload 5, 2) := by decide +kernel
theorem dX11_unseenOf_48 : decode cX11_unseenOf 48 = .ok (.invokestatic 216, 3) := by decide +kernel
theorem dX11_unseenOf_51 : decode cX11_unseenOf 51 = .ok (.ifCond .eq 14, 3) := by decide +kernel
theorem dX11_unseenOf_54 : decode cX11_unseenOf 54 = .ok (.iload_n 1, 1) := by decide +kernel
theorem dX11_unseenOf_55 : decode cX11_unseenOf 55 = .ok (.ifCond .ne 7, 3) := by decide +kernel
theorem dX11_unseenOf_58 : decode cX11_unseenOf 58 = .ok (.iload_n 3, 1) := by decide +kernel
theorem dX11_unseenOf_59 : decode cX11_unseenOf 59 = .ok (.goto 5, 3) := by decide +kernel
theorem dX11_unseenOf_62 : decode cX11_unseenOf 62 = .ok (.iload 5, 2) := by decide +kernel
theorem dX11_unseenOf_64 : decode cX11_unseenOf 64 = .ok (.ireturn, 1) := by decide +kernel
theorem dX11_unseenOf_65 : decode cX11_unseenOf 65 = .ok (.iinc 5 1, 3) := by decide +kernel
theorem dX11_unseenOf_68 : decode cX11_unseenOf 68 = .ok (.goto (-33), 3) := by decide +kernel
theorem dX11_unseenOf_71 : decode cX11_unseenOf 71 = .ok (.iinc 3 1, 3) := by decide +kernel
theorem dX11_unseenOf_74 : decode cX11_unseenOf 74 = .ok (.goto (-63), 3) := by decide +kernel
theorem dX11_unseenOf_77 : decode cX11_unseenOf 77 = .ok (.iconst (-1), 1) := by decide +kernel
theorem dX11_unseenOf_78 : decode cX11_unseenOf 78 = .ok (.ireturn, 1) := by decide +kernel
theorem dX11_unseen_0 : decode cX11_unseen 0 = .ok (.aload_n 0, 1) := by decide +kernel
theorem dX11_unseen_1 : decode cX11_unseen 1 = .ok (.invokevirtual 113, 3) := by decide +kernel
theorem dX11_unseen_4 : decode cX11_unseen 4 = .ok (.pop, 1) := by decide +kernel
theorem dX11_unseen_5 : decode cX11_unseen 5 = .ok (.iload_n 1, 1) := by decide +kernel
theorem dX11_unseen_6 : decode cX11_unseen 6 = .ok (.invokestatic 124, 3) := by decide +kernel
theorem dX11_unseen_9 : decode cX11_unseen 9 = .ok (.ifCond .eq 11, 3) := by decide +kernel
theorem dX11_unseen_12 : decode cX11_unseen 12 = .ok (.aload_n 0, 1) := by decide +kernel
theorem dX11_unseen_13 : decode cX11_unseen 13 = .ok (.iload_n 1, 1) := by decide +kernel
theorem dX11_unseen_14 : decode cX11_unseen 14 = .ok (.invokevirtual 220, 3) := by decide +kernel
theorem dX11_unseen_17 : decode cX11_unseen 17 = .ok (.goto 5, 3) := by decide +kernel
theorem dX11_unseen_20 : decode cX11_unseen 20 = .ok (.bipush (-2), 2) := by decide +kernel
theorem dX11_unseen_22 : decode cX11_unseen 22 = .ok (.ireturn, 1) := by decide +kernel
theorem dX11_backTo_0 : decode cX11_backTo 0 = .ok (.aload_n 0, 1) := by decide +kernel
theorem dX11_backTo_1 : decode cX11_backTo 1 = .ok (.getfield 28, 3) := by decide +kernel
theorem dX11_backTo_4 : decode cX11_backTo 4 = .ok (.iconst 4, 1) := by decide +kernel
theorem dX11_backTo_5 : decode cX11_backTo 5 = .ok (.iload_n 2, 1) := by decide +kernel
theorem dX11_backTo_6 : decode cX11_backTo 6 = .ok (.imul, 1) := by decide +kernel
theorem dX11_backTo_7 : decode cX11_backTo 7 = .ok (.iconst 1, 1) := by decide +kernel
theorem dX11_backTo_8 : decode cX11_backTo 8 = .ok (.iadd, 1) := by decide +kernel
theorem dX11_backTo_9 : decode cX11_backTo 9 = .ok (.iaload, 1) := by decide +kernel
theorem dX11_backTo_10 : decode cX11_backTo 10 = .ok (.istore_n 3, 1) := by decide +kernel
theorem dX11_backTo_11 : decode cX11_backTo 11 = .ok (.iload_n 3, 1) := by decide +kernel
theorem dX11_backTo_12 : decode cX11_backTo 12 = .ok (.iload_n 1, 1) := by decide +kernel
theorem dX11_backTo_13 : decode cX11_backTo 13 = .ok (.if_icmp .ne 14, 3) := by decide +kernel
theorem dX11_backTo_16 : decode cX11_backTo 16 = .ok (.aload_n 0, 1) := by decide +kernel
theorem dX11_backTo_17 : decode cX11_backTo 17 = .ok (.getfield 40, 3) := by decide +kernel
theorem dX11_backTo_20 : decode cX11_backTo 20 = .ok (.iconst 2, 1) := by decide +kernel
theorem dX11_backTo_21 : decode cX11_backTo 21 = .ok (.iload_n 2, 1) := by decide +kernel
theorem dX11_backTo_22 : decode cX11_backTo 22 = .ok (.imul, 1) := by decide +kernel
theorem dX11_backTo_23 : decode cX11_backTo 23 = .ok (.iaload, 1) := by decide +kernel
theorem dX11_backTo_24 : decode cX11_backTo 24 = .ok (.goto 26, 3) := by decide +kernel
theorem dX11_backTo_27 : decode cX11_backTo 27 = .ok (.aload_n 0, 1) := by decide +kernel
theorem dX11_backTo_28 : decode cX11_backTo 28 = .ok (.iload_n 3, 1) := by decide +kernel
theorem dX11_backTo_29 : decode cX11_backTo 29 = .ok (.invokevirtual 127, 3) := by decide +kernel
theorem dX11_backTo_32 : decode cX11_backTo 32 = .ok (.iload_n 1, 1) := by decide +kernel
theorem dX11_backTo_33 : decode cX11_backTo 33 = .ok (.if_icmp .ne 16, 3) := by decide +kernel
theorem dX11_backTo_36 : decode cX11_backTo 36 = .ok (.aload_n 0, 1) := by decide +kernel
theorem dX11_backTo_37 : decode cX11_backTo 37 = .ok (.getfield 40, 3) := by decide +kernel
theorem dX11_backTo_40 : decode cX11_backTo 40 = .ok (.iconst 2, 1) := by decide +kernel
theorem dX11_backTo_41 : decode cX11_backTo 41 = .ok (.iload_n 2, 1) := by decide +kernel
theorem dX11_backTo_42 : decode cX11_backTo 42 = .ok (.imul, 1) := by decide +kernel
theorem dX11_backTo_43 : decode cX11_backTo 43 = .ok (.iconst 1, 1) := by decide +kernel
theorem dX11_backTo_44 : decode cX11_backTo 44 = .ok (.iadd, 1) := by decide +kernel
theorem dX11_backTo_45 : decode cX11_backTo 45 = .ok (.iaload, 1) := by decide +kernel
theorem dX11_backTo_46 : decode cX11_backTo 46 = .ok (.goto 4, 3) := by decide +kernel
theorem dX11_backTo_49 : decode cX11_backTo 49 = .ok (.iconst 0, 1) := by decide +kernel
theorem dX11_backTo_50 : decode cX11_backTo 50 = .ok (.ireturn, 1) := by decide +kernel
theorem dX11_findWhole_0 : decode cX11_findWhole 0 = .ok (.aload_n 0, 1) := by decide +kernel
theorem dX11_findWhole_1 : decode cX11_findWhole 1 = .ok (.iload_n 1, 1) := by decide +kernel
theorem dX11_findWhole_2 : decode cX11_findWhole 2 = .ok (.invokevirtual 192, 3) := by decide +kernel
theorem dX11_findWhole_5 : decode cX11_findWhole 5 = .ok (.aload_n 0, 1) := by decide +kernel
theorem dX11_findWhole_6 : decode cX11_findWhole 6 = .ok (.invokevirtual 201, 3) := by decide +kernel
theorem dX11_findWhole_9 : decode cX11_findWhole 9 = .ok (.istore 5, 2) := by decide +kernel
theorem dX11_findWhole_11 : decode cX11_findWhole 11 = .ok (.aload_n 0, 1) := by decide +kernel
theorem dX11_findWhole_12 : decode cX11_findWhole 12 = .ok (.iconst (-1), 1) := by decide +kernel
theorem dX11_findWhole_13 : decode cX11_findWhole 13 = .ok (.putfield 223, 3) := by decide +kernel
theorem dX11_findWhole_16 : decode cX11_findWhole 16 = .ok (.aload_n 0, 1) := by decide +kernel
theorem dX11_findWhole_17 : decode cX11_findWhole 17 = .ok (.iconst (-1), 1) := by decide +kernel
theorem dX11_findWhole_18 : decode cX11_findWhole 18 = .ok (.putfield 226, 3) := by decide +kernel
theorem dX11_findWhole_21 : decode cX11_findWhole 21 = .ok (.iconst 0, 1) := by decide +kernel
theorem dX11_findWhole_22 : decode cX11_findWhole 22 = .ok (.istore 6, 2) := by decide +kernel
theorem dX11_findWhole_24 : decode cX11_findWhole 24 = .ok (.iload 6, 2) := by decide +kernel
theorem dX11_findWhole_26 : decode cX11_findWhole 26 = .ok (.iconst 1, 1) := by decide +kernel
theorem dX11_findWhole_27 : decode cX11_findWhole 27 = .ok (.aload_n 0, 1) := by decide +kernel
theorem dX11_findWhole_28 : decode cX11_findWhole 28 = .ok (.getfield 139, 3) := by decide +kernel
theorem dX11_findWhole_31 : decode cX11_findWhole 31 = .ok (.ishl, 1) := by decide +kernel
theorem dX11_findWhole_32 : decode cX11_findWhole 32 = .ok (.if_icmp .ge 238, 3) := by decide +kernel
theorem dX11_findWhole_35 : decode cX11_findWhole 35 = .ok (.iload 6, 2) := by decide +kernel
theorem dX11_findWhole_37 : decode cX11_findWhole 37 = .ok (.iload 5, 2) := by decide +kernel
theorem dX11_findWhole_39 : decode cX11_findWhole 39 = .ok (.iconst (-1), 1) := by decide +kernel
theorem dX11_findWhole_40 : decode cX11_findWhole 40 = .ok (.ixor, 1) := by decide +kernel
theorem dX11_findWhole_41 : decode cX11_findWhole 41 = .ok (.iand, 1) := by decide +kernel
theorem dX11_findWhole_42 : decode cX11_findWhole 42 = .ok (.ifCond .ne 222, 3) := by decide +kernel
theorem dX11_findWhole_45 : decode cX11_findWhole 45 = .ok (.aload_n 0, 1) := by decide +kernel
theorem dX11_findWhole_46 : decode cX11_findWhole 46 = .ok (.getfield 37, 3) := by decide +kernel
theorem dX11_findWhole_49 : decode cX11_findWhole 49 = .ok (.iload_n 2, 1) := by decide +kernel
theorem dX11_findWhole_50 : decode cX11_findWhole 50 = .ok (.iaload, 1) := by decide +kernel
theorem dX11_findWhole_51 : decode cX11_findWhole 51 = .ok (.istore 7, 2) := by decide +kernel
theorem dX11_findWhole_53 : decode cX11_findWhole 53 = .ok (.iconst 0, 1) := by decide +kernel
theorem dX11_findWhole_54 : decode cX11_findWhole 54 = .ok (.istore 8, 2) := by decide +kernel
theorem dX11_findWhole_56 : decode cX11_findWhole 56 = .ok (.iconst 0, 1) := by decide +kernel
theorem dX11_findWhole_57 : decode cX11_findWhole 57 = .ok (.istore 9, 2) := by decide +kernel
theorem dX11_findWhole_59 : decode cX11_findWhole 59 = .ok (.iload 9, 2) := by decide +kernel
theorem dX11_findWhole_61 : decode cX11_findWhole 61 = .ok (.aload_n 0, 1) := by decide +kernel
theorem dX11_findWhole_62 : decode cX11_findWhole 62 = .ok (.getfield 139, 3) := by decide +kernel
theorem dX11_findWhole_65 : decode cX11_findWhole 65 = .ok (.if_icmp .ge 91, 3) := by decide +kernel
theorem dX11_findWhole_68 : decode cX11_findWhole 68 = .ok (.iload 7, 2) := by decide +kernel
theorem dX11_findWhole_70 : decode cX11_findWhole 70 = .ok (.iload 6, 2) := by decide +kernel
theorem dX11_findWhole_72 : decode cX11_findWhole 72 = .ok (.iload 9, 2) := by decide +kernel
theorem dX11_findWhole_74 : decode cX11_findWhole 74 = .ok (.invokestatic 216, 3) := by decide +kernel
theorem dX11_findWhole_77 : decode cX11_findWhole 77 = .ok (.ifCond .eq 13, 3) := by decide +kernel
theorem dX11_findWhole_80 : decode cX11_findWhole 80 = .ok (.aload_n 0, 1) := by decide +kernel
theorem dX11_findWhole_81 : decode cX11_findWhole 81 = .ok (.iload_n 2, 1) := by decide +kernel
theorem dX11_findWhole_82 : decode cX11_findWhole 82 = .ok (.iload 9, 2) := by decide +kernel
theorem dX11_findWhole_84 : decode cX11_findWhole 84 = .ok (.invokevirtual 229, 3) := by decide +kernel
theorem dX11_findWhole_87 : decode cX11_findWhole 87 = .ok (.goto 4, 3) := by decide +kernel
theorem dX11_findWhole_90 : decode cX11_findWhole 90 = .ok (.iconst 0, 1) := by decide +kernel
theorem dX11_findWhole_91 : decode cX11_findWhole 91 = .ok (.iadd, 1) := by decide +kernel
theorem dX11_findWhole_92 : decode cX11_findWhole 92 = .ok (.istore 7, 2) := by decide +kernel
theorem dX11_findWhole_94 : decode cX11_findWhole 94 = .ok (.iload 8, 2) := by decide +kernel
theorem dX11_findWhole_96 : decode cX11_findWhole 96 = .ok (.iload 6, 2) := by decide +kernel
theorem dX11_findWhole_98 : decode cX11_findWhole 98 = .ok (.iload 9, 2) := by decide +kernel
theorem dX11_findWhole_100 : decode cX11_findWhole 100 = .ok (.invokestatic 216, 3) := by decide +kernel
theorem dX11_findWhole_103 : decode cX11_findWhole 103 = .ok (.ifCond .eq 43, 3) := by decide +kernel
theorem dX11_findWhole_106 : decode cX11_findWhole 106 = .ok (.aload_n 0, 1) := by decide +kernel
theorem dX11_findWhole_107 : decode cX11_findWhole 107 = .ok (.getfield 28, 3) := by decide +kernel
theorem dX11_findWhole_110 : decode cX11_findWhole 110 = .ok (.iconst 4, 1) := by decide +kernel
theorem dX11_findWhole_111 : decode cX11_findWhole 111 = .ok (.iload 9, 2) := by decide +kernel
theorem dX11_findWhole_113 : decode cX11_findWhole 113 = .ok (.imul, 1) := by decide +kernel
theorem dX11_findWhole_114 : decode cX11_findWhole 114 = .ok (.iconst 3, 1) := by decide +kernel
theorem dX11_findWhole_115 : decode cX11_findWhole 115 = .ok (.iadd, 1) := by decide +kernel
theorem dX11_findWhole_116 : decode cX11_findWhole 116 = .ok (.iaload, 1) := by decide +kernel
theorem dX11_findWhole_117 : decode cX11_findWhole 117 = .ok (.iload 4, 2) := by decide +kernel
theorem dX11_findWhole_119 : decode cX11_findWhole 119 = .ok (.if_icmp .eq 27, 3) := by decide +kernel
theorem dX11_findWhole_122 : decode cX11_findWhole 122 = .ok (.aload_n 0, 1) := by decide +kernel
theorem dX11_findWhole_123 : decode cX11_findWhole 123 = .ok (.getfield 40, 3) := by decide +kernel
theorem dX11_findWhole_126 : decode cX11_findWhole 126 = .ok (.iconst 2, 1) := by decide +kernel
theorem dX11_findWhole_127 : decode cX11_findWhole 127 = .ok (.iload 9, 2) := by decide +kernel
theorem dX11_findWhole_129 : decode cX11_findWhole 129 = .ok (.imul, 1) := by decide +kernel
theorem dX11_findWhole_130 : decode cX11_findWhole 130 = .ok (.iaload, 1) := by decide +kernel
theorem dX11_findWhole_131 : decode cX11_findWhole 131 = .ok (.aload_n 0, 1) := by decide +kernel
theorem dX11_findWhole_132 : decode cX11_findWhole 132 = .ok (.getfield 40, 3) := by decide +kernel
theorem dX11_findWhole_135 : decode cX11_findWhole 135 = .ok (.iconst 2, 1) := by decide +kernel
theorem dX11_findWhole_136 : decode cX11_findWhole 136 = .ok (.iload 9, 2) := by decide +kernel
theorem dX11_findWhole_138 : decode cX11_findWhole 138 = .ok (.imul, 1) := by decide +kernel
theorem dX11_findWhole_139 : decode cX11_findWhole 139 = .ok (.iconst 1, 1) := by decide +kernel
theorem dX11_findWhole_140 : decode cX11_findWhole 140 = .ok (.iadd, 1) := by decide +kernel
theorem dX11_findWhole_141 : decode cX11_findWhole 141 = .ok (.iaload, 1) := by decide +kernel
theorem dX11_findWhole_142 : decode cX11_findWhole 142 = .ok (.iadd, 1) := by decide +kernel
theorem dX11_findWhole_143 : decode cX11_findWhole 143 = .ok (.goto 4, 3) := by decide +kernel
theorem dX11_findWhole_146 : decode cX11_findWhole 146 = .ok (.iconst 0, 1) := by decide +kernel
theorem dX11_findWhole_147 : decode cX11_findWhole 147 = .ok (.iadd, 1) := by decide +kernel
theorem dX11_findWhole_148 : decode cX11_findWhole 148 = .ok (.istore 8, 2) := by decide +kernel
theorem dX11_findWhole_150 : decode cX11_findWhole 150 = .ok (.iinc 9 1, 3) := by decide +kernel
theorem dX11_findWhole_153 : decode cX11_findWhole 153 = .ok (.goto (-94), 3) := by decide +kernel
theorem dX11_findWhole_156 : decode cX11_findWhole 156 = .ok (.aload_n 0, 1) := by decide +kernel
theorem dX11_findWhole_157 : decode cX11_findWhole 157 = .ok (.getfield 223, 3) := by decide +kernel
theorem dX11_findWhole_160 : decode cX11_findWhole 160 = .ok (.iconst (-1), 1) := by decide +kernel
theorem dX11_findWhole_161 : decode cX11_findWhole 161 = .ok (.if_icmp .eq 42, 3) := by decide +kernel
theorem dX11_findWhole_164 : decode cX11_findWhole 164 = .ok (.iload 6, 2) := by decide +kernel
theorem dX11_findWhole_166 : decode cX11_findWhole 166 = .ok (.invokestatic 232, 3) := by decide +kernel
theorem dX11_findWhole_169 : decode cX11_findWhole 169 = .ok (.aload_n 0, 1) := by decide +kernel
theorem dX11_findWhole_170 : decode cX11_findWhole 170 = .ok (.getfield 223, 3) := by decide +kernel
theorem dX11_findWhole_173 : decode cX11_findWhole 173 = .ok (.invokestatic 232, 3) := by decide +kernel
theorem dX11_findWhole_176 : decode cX11_findWhole 176 = .ok (.if_icmp .lt 27, 3) := by decide +kernel
theorem dX11_findWhole_179 : decode cX11_findWhole 179 = .ok (.iload 6, 2) := by decide +kernel
theorem dX11_findWhole_181 : decode cX11_findWhole 181 = .ok (.invokestatic 232, 3) := by decide +kernel
theorem dX11_findWhole_184 : decode cX11_findWhole 184 = .ok (.aload_n 0, 1) := by decide +kernel
theorem dX11_findWhole_185 : decode cX11_findWhole 185 = .ok (.getfield 223, 3) := by decide +kernel
theorem dX11_findWhole_188 : decode cX11_findWhole 188 = .ok (.invokestatic 232, 3) := by decide +kernel
theorem dX11_findWhole_191 : decode cX11_findWhole 191 = .ok (.if_icmp .ne 16, 3) := by decide +kernel
theorem dX11_findWhole_194 : decode cX11_findWhole 194 = .ok (.iload 8, 2) := by decide +kernel
theorem dX11_findWhole_196 : decode cX11_findWhole 196 = .ok (.aload_n 0, 1) := by decide +kernel
theorem dX11_findWhole_197 : decode cX11_findWhole 197 = .ok (.getfield 226, 3) := by decide +kernel
theorem dX11_findWhole_200 : decode cX11_findWhole 200 = .ok (.if_icmp .ge 7, 3) := by decide +kernel
theorem dX11_findWhole_203 : decode cX11_findWhole 203 = .ok (.iconst 1, 1) := by decide +kernel
theorem dX11_findWhole_204 : decode cX11_findWhole 204 = .ok (.goto 4, 3) := by decide +kernel
theorem dX11_findWhole_207 : decode cX11_findWhole 207 = .ok (.iconst 0, 1) := by decide +kernel
theorem dX11_findWhole_208 : decode cX11_findWhole 208 = .ok (.istore 9, 2) := by decide +kernel
theorem dX11_findWhole_210 : decode cX11_findWhole 210 = .ok (.iload 7, 2) := by decide +kernel
theorem dX11_findWhole_212 : decode cX11_findWhole 212 = .ok (.iload_n 3, 1) := by decide +kernel
theorem dX11_findWhole_213 : decode cX11_findWhole 213 = .ok (.if_icmp .lt 12, 3) := by decide +kernel
theorem dX11_findWhole_216 : decode cX11_findWhole 216 = .ok (.iload 9, 2) := by decide +kernel
theorem dX11_findWhole_218 : decode cX11_findWhole 218 = .ok (.ifCond .eq 7, 3) := by decide +kernel
theorem dX11_findWhole_221 : decode cX11_findWhole 221 = .ok (.iconst 1, 1) := by decide +kernel
theorem dX11_findWhole_222 : decode cX11_findWhole 222 = .ok (.goto 4, 3) := by decide +kernel
theorem dX11_findWhole_225 : decode cX11_findWhole 225 = .ok (.iconst 0, 1) := by decide +kernel
theorem dX11_findWhole_226 : decode cX11_findWhole 226 = .ok (.istore 10, 2) := by decide +kernel
theorem dX11_findWhole_228 : decode cX11_findWhole 228 = .ok (.aload_n 0, 1) := by decide +kernel
theorem dX11_findWhole_229 : decode cX11_findWhole 229 = .ok (.iload 10, 2) := by decide +kernel
theorem dX11_findWhole_231 : decode cX11_findWhole 231 = .ok (.ifCond .eq 8, 3) := by decide +kernel
theorem dX11_findWhole_234 : decode cX11_findWhole 234 = .ok (.iload 6, 2) := by decide +kernel
theorem dX11_findWhole_236 : decode cX11_findWhole 236 = .ok (.goto 7, 3) := by decide +kernel
theorem dX11_findWhole_239 : decode cX11_findWhole 239 = .ok (.aload_n 0, 1) := by decide +kernel
theorem dX11_findWhole_240 : decode cX11_findWhole 240 = .ok (.getfield 223, 3) := by decide +kernel
theorem dX11_findWhole_243 : decode cX11_findWhole 243 = .ok (.putfield 223, 3) := by decide +kernel
theorem dX11_findWhole_246 : decode cX11_findWhole 246 = .ok (.aload_n 0, 1) := by decide +kernel
theorem dX11_findWhole_247 : decode cX11_findWhole 247 = .ok (.iload 10, 2) := by decide +kernel
theorem dX11_findWhole_249 : decode cX11_findWhole 249 = .ok (.ifCond .eq 8, 3) := by decide +kernel
theorem dX11_findWhole_252 : decode cX11_findWhole 252 = .ok (.iload 8, 2) := by decide +kernel
theorem dX11_findWhole_254 : decode cX11_findWhole 254 = .ok (.goto 7, 3) := by decide +kernel
theorem dX11_findWhole_257 : decode cX11_findWhole 257 = .ok (.aload_n 0, 1) := by decide +kernel
theorem dX11_findWhole_258 : decode cX11_findWhole 258 = .ok (.getfield 226, 3) := by decide +kernel
theorem dX11_findWhole_261 : decode cX11_findWhole 261 = .ok (.putfield 226, 3) := by decide +kernel
theorem dX11_findWhole_264 : decode cX11_findWhole 264 = .ok (.iinc 6 1, 3) := by decide +kernel
theorem dX11_findWhole_267 : decode cX11_findWhole 267 = .ok (.goto (-243), 3) := by decide +kernel
theorem dX11_findWhole_270 : decode cX11_findWhole 270 = .ok (.return_, 1) := by decide +kernel
theorem dX11_wholeOf_0 : decode cX11_wholeOf 0 = .ok (.aload_n 0, 1) := by decide +kernel
theorem dX11_wholeOf_1 : decode cX11_wholeOf 1 = .ok (.iload_n 1, 1) := by decide +kernel
theorem dX11_wholeOf_2 : decode cX11_wholeOf 2 = .ok (.iload_n 2, 1) := by decide +kernel
theorem dX11_wholeOf_3 : decode cX11_wholeOf 3 = .ok (.iload_n 3, 1) := by decide +kernel
theorem dX11_wholeOf_4 : decode cX11_wholeOf 4 = .ok (.iload 4, 2) := by decide +kernel
theorem dX11_wholeOf_6 : decode cX11_wholeOf 6 = .ok (.invokevirtual 235, 3) := by decide +kernel
theorem dX11_wholeOf_9 : decode cX11_wholeOf 9 = .ok (.iload 5, 2) := by decide +kernel
theorem dX11_wholeOf_11 : decode cX11_wholeOf 11 = .ok (.ifCond .ne 10, 3) := by decide +kernel
theorem dX11_wholeOf_14 : decode cX11_wholeOf 14 = .ok (.aload_n 0, 1) := by decide +kernel
theorem dX11_wholeOf_15 : decode cX11_wholeOf 15 = .ok (.getfield 223, 3) := by decide +kernel
theorem dX11_wholeOf_18 : decode cX11_wholeOf 18 = .ok (.goto 7, 3) := by decide +kernel
theorem dX11_wholeOf_21 : decode cX11_wholeOf 21 = .ok (.aload_n 0, 1) := by decide +kernel
theorem dX11_wholeOf_22 : decode cX11_wholeOf 22 = .ok (.getfield 226, 3) := by decide +kernel
theorem dX11_wholeOf_25 : decode cX11_wholeOf 25 = .ok (.ireturn, 1) := by decide +kernel
theorem dX11_whole_0 : decode cX11_whole 0 = .ok (.aload_n 0, 1) := by decide +kernel
theorem dX11_whole_1 : decode cX11_whole 1 = .ok (.invokevirtual 113, 3) := by decide +kernel
theorem dX11_whole_4 : decode cX11_whole 4 = .ok (.pop, 1) := by decide +kernel
theorem dX11_whole_5 : decode cX11_whole 5 = .ok (.iload_n 1, 1) := by decide +kernel
theorem dX11_whole_6 : decode cX11_whole 6 = .ok (.invokestatic 130, 3) := by decide +kernel
theorem dX11_whole_9 : decode cX11_whole 9 = .ok (.ifCond .eq 50, 3) := by decide +kernel
theorem dX11_whole_12 : decode cX11_whole 12 = .ok (.aload_n 0, 1) := by decide +kernel
theorem dX11_whole_13 : decode cX11_whole 13 = .ok (.iload_n 2, 1) := by decide +kernel
theorem dX11_whole_14 : decode cX11_whole 14 = .ok (.invokevirtual 121, 3) := by decide +kernel
theorem dX11_whole_17 : decode cX11_whole 17 = .ok (.ifCond .eq 42, 3) := by decide +kernel
theorem dX11_whole_20 : decode cX11_whole 20 = .ok (.iload_n 3, 1) := by decide +kernel
theorem dX11_whole_21 : decode cX11_whole 21 = .ok (.i2l, 1) := by decide +kernel
theorem dX11_whole_22 : decode cX11_whole 22 = .ok (.lconst 0, 1) := by decide +kernel
theorem dX11_whole_23 : decode cX11_whole 23 = .ok (.ldc2_w 147, 3) := by decide +kernel
theorem dX11_whole_26 : decode cX11_whole 26 = .ok (.invokestatic 64, 3) := by decide +kernel
theorem dX11_whole_29 : decode cX11_whole 29 = .ok (.ifCond .eq 30, 3) := by decide +kernel
theorem dX11_whole_32 : decode cX11_whole 32 = .ok (.iload 4, 2) := by decide +kernel
theorem dX11_whole_34 : decode cX11_whole 34 = .ok (.i2l, 1) := by decide +kernel
theorem dX11_whole_35 : decode cX11_whole 35 = .ok (.ldc2_w 149, 3) := by decide +kernel
theorem dX11_whole_38 : decode cX11_whole 38 = .ok (.ldc2_w 71, 3) := by decide +kernel
theorem dX11_whole_41 : decode cX11_whole 41 = .ok (.invokestatic 64, 3) := by decide +kernel
theorem dX11_whole_44 : decode cX11_whole 44 = .ok (.ifCond .eq 15, 3) := by decide +kernel
theorem dX11_whole_47 : decode cX11_whole 47 = .ok (.iload 5, 2) := by decide +kernel
theorem dX11_whole_49 : decode cX11_whole 49 = .ok (.invokestatic 124, 3) := by decide +kernel
theorem dX11_whole_52 : decode cX11_whole 52 = .ok (.ifCond .eq 7, 3) := by decide +kernel
theorem dX11_whole_55 : decode cX11_whole 55 = .ok (.iconst 1, 1) := by decide +kernel
theorem dX11_whole_56 : decode cX11_whole 56 = .ok (.goto 4, 3) := by decide +kernel
theorem dX11_whole_59 : decode cX11_whole 59 = .ok (.iconst 0, 1) := by decide +kernel
theorem dX11_whole_60 : decode cX11_whole 60 = .ok (.istore 6, 2) := by decide +kernel
theorem dX11_whole_62 : decode cX11_whole 62 = .ok (.iload 6, 2) := by decide +kernel
theorem dX11_whole_64 : decode cX11_whole 64 = .ok (.ifCond .eq 17, 3) := by decide +kernel
theorem dX11_whole_67 : decode cX11_whole 67 = .ok (.aload_n 0, 1) := by decide +kernel
theorem dX11_whole_68 : decode cX11_whole 68 = .ok (.iload_n 1, 1) := by decide +kernel
theorem dX11_whole_69 : decode cX11_whole 69 = .ok (.iload_n 2, 1) := by decide +kernel
theorem dX11_whole_70 : decode cX11_whole 70 = .ok (.iload_n 3, 1) := by decide +kernel
theorem dX11_whole_71 : decode cX11_whole 71 = .ok (.iload 4, 2) := by decide +kernel
theorem dX11_whole_73 : decode cX11_whole 73 = .ok (.iload 5, 2) := by decide +kernel
theorem dX11_whole_75 : decode cX11_whole 75 = .ok (.invokevirtual 239, 3) := by decide +kernel
theorem dX11_whole_78 : decode cX11_whole 78 = .ok (.goto 5, 3) := by decide +kernel
theorem dX11_whole_81 : decode cX11_whole 81 = .ok (.bipush (-2), 2) := by decide +kernel
theorem dX11_whole_83 : decode cX11_whole 83 = .ok (.ireturn, 1) := by decide +kernel
theorem dX11_feastOf_0 : decode cX11_feastOf 0 = .ok (.aload_n 0, 1) := by decide +kernel
theorem dX11_feastOf_1 : decode cX11_feastOf 1 = .ok (.iload_n 1, 1) := by decide +kernel
theorem dX11_feastOf_2 : decode cX11_feastOf 2 = .ok (.invokevirtual 192, 3) := by decide +kernel
theorem dX11_feastOf_5 : decode cX11_feastOf 5 = .ok (.iconst 0, 1) := by decide +kernel
theorem dX11_feastOf_6 : decode cX11_feastOf 6 = .ok (.istore_n 3, 1) := by decide +kernel
theorem dX11_feastOf_7 : decode cX11_feastOf 7 = .ok (.iconst 0, 1) := by decide +kernel
theorem dX11_feastOf_8 : decode cX11_feastOf 8 = .ok (.istore 4, 2) := by decide +kernel
theorem dX11_feastOf_10 : decode cX11_feastOf 10 = .ok (.iload 4, 2) := by decide +kernel
theorem dX11_feastOf_12 : decode cX11_feastOf 12 = .ok (.aload_n 0, 1) := by decide +kernel
theorem dX11_feastOf_13 : decode cX11_feastOf 13 = .ok (.getfield 97, 3) := by decide +kernel
theorem dX11_feastOf_16 : decode cX11_feastOf 16 = .ok (.if_icmp .ge 44, 3) := by decide +kernel
theorem dX11_feastOf_19 : decode cX11_feastOf 19 = .ok (.iload_n 3, 1) := by decide +kernel
theorem dX11_feastOf_20 : decode cX11_feastOf 20 = .ok (.aload_n 0, 1) := by decide +kernel
theorem dX11_feastOf_21 : decode cX11_feastOf 21 = .ok (.getfield 37, 3) := by decide +kernel
theorem dX11_feastOf_24 : decode cX11_feastOf 24 = .ok (.iload 4, 2) := by decide +kernel
theorem dX11_feastOf_26 : decode cX11_feastOf 26 = .ok (.iaload, 1) := by decide +kernel
theorem dX11_feastOf_27 : decode cX11_feastOf 27 = .ok (.aload_n 0, 1) := by decide +kernel
theorem dX11_feastOf_28 : decode cX11_feastOf 28 = .ok (.getfield 52, 3) := by decide +kernel
theorem dX11_feastOf_31 : decode cX11_feastOf 31 = .ok (.if_icmp .ge 7, 3) := by decide +kernel
theorem dX11_feastOf_34 : decode cX11_feastOf 34 = .ok (.iconst 0, 1) := by decide +kernel
theorem dX11_feastOf_35 : decode cX11_feastOf 35 = .ok (.goto 17, 3) := by decide +kernel
theorem dX11_feastOf_38 : decode cX11_feastOf 38 = .ok (.aload_n 0, 1) := by decide +kernel
theorem dX11_feastOf_39 : decode cX11_feastOf 39 = .ok (.getfield 37, 3) := by decide +kernel
theorem dX11_feastOf_42 : decode cX11_feastOf 42 = .ok (.iload 4, 2) := by decide +kernel
theorem dX11_feastOf_44 : decode cX11_feastOf 44 = .ok (.iaload, 1) := by decide +kernel
theorem dX11_feastOf_45 : decode cX11_feastOf 45 = .ok (.aload_n 0, 1) := by decide +kernel
theorem dX11_feastOf_46 : decode cX11_feastOf 46 = .ok (.getfield 52, 3) := by decide +kernel
theorem dX11_feastOf_49 : decode cX11_feastOf 49 = .ok (.isub, 1) := by decide +kernel
theorem dX11_feastOf_50 : decode cX11_feastOf 50 = .ok (.iload_n 2, 1) := by decide +kernel
theorem dX11_feastOf_51 : decode cX11_feastOf 51 = .ok (.idiv, 1) := by decide +kernel
theorem dX11_feastOf_52 : decode cX11_feastOf 52 = .ok (.iadd, 1) := by decide +kernel
theorem dX11_feastOf_53 : decode cX11_feastOf 53 = .ok (.istore_n 3, 1) := by decide +kernel
theorem dX11_feastOf_54 : decode cX11_feastOf 54 = .ok (.iinc 4 1, 3) := by decide +kernel
theorem dX11_feastOf_57 : decode cX11_feastOf 57 = .ok (.goto (-47), 3) := by decide +kernel
theorem dX11_feastOf_60 : decode cX11_feastOf 60 = .ok (.iload_n 3, 1) := by decide +kernel
theorem dX11_feastOf_61 : decode cX11_feastOf 61 = .ok (.ireturn, 1) := by decide +kernel
theorem dX11_feast_0 : decode cX11_feast 0 = .ok (.aload_n 0, 1) := by decide +kernel
theorem dX11_feast_1 : decode cX11_feast 1 = .ok (.invokevirtual 113, 3) := by decide +kernel
theorem dX11_feast_4 : decode cX11_feast 4 = .ok (.pop, 1) := by decide +kernel
theorem dX11_feast_5 : decode cX11_feast 5 = .ok (.iload_n 1, 1) := by decide +kernel
theorem dX11_feast_6 : decode cX11_feast 6 = .ok (.invokestatic 130, 3) := by decide +kernel
theorem dX11_feast_9 : decode cX11_feast 9 = .ok (.ifCond .eq 24, 3) := by decide +kernel
theorem dX11_feast_12 : decode cX11_feast 12 = .ok (.iload_n 2, 1) := by decide +kernel
theorem dX11_feast_13 : decode cX11_feast 13 = .ok (.i2l, 1) := by decide +kernel
theorem dX11_feast_14 : decode cX11_feast 14 = .ok (.lconst 1, 1) := by decide +kernel
theorem dX11_feast_15 : decode cX11_feast 15 = .ok (.ldc2_w 103, 3) := by decide +kernel
theorem dX11_feast_18 : decode cX11_feast 18 = .ok (.invokestatic 64, 3) := by decide +kernel
theorem dX11_feast_21 : decode cX11_feast 21 = .ok (.ifCond .eq 12, 3) := by decide +kernel
theorem dX11_feast_24 : decode cX11_feast 24 = .ok (.aload_n 0, 1) := by decide +kernel
theorem dX11_feast_25 : decode cX11_feast 25 = .ok (.iload_n 1, 1) := by decide +kernel
theorem dX11_feast_26 : decode cX11_feast 26 = .ok (.iload_n 2, 1) := by decide +kernel
theorem dX11_feast_27 : decode cX11_feast 27 = .ok (.invokevirtual 243, 3) := by decide +kernel
theorem dX11_feast_30 : decode cX11_feast 30 = .ok (.goto 5, 3) := by decide +kernel
theorem dX11_feast_33 : decode cX11_feast 33 = .ok (.bipush (-2), 2) := by decide +kernel
theorem dX11_feast_35 : decode cX11_feast 35 = .ok (.ireturn, 1) := by decide +kernel
theorem dX11_spyOf_0 : decode cX11_spyOf 0 = .ok (.aload_n 0, 1) := by decide +kernel
theorem dX11_spyOf_1 : decode cX11_spyOf 1 = .ok (.iload_n 1, 1) := by decide +kernel
theorem dX11_spyOf_2 : decode cX11_spyOf 2 = .ok (.putfield 177, 3) := by decide +kernel
theorem dX11_spyOf_5 : decode cX11_spyOf 5 = .ok (.aload_n 0, 1) := by decide +kernel
theorem dX11_spyOf_6 : decode cX11_spyOf 6 = .ok (.iload_n 2, 1) := by decide +kernel
theorem dX11_spyOf_7 : decode cX11_spyOf 7 = .ok (.putfield 180, 3) := by decide +kernel
theorem dX11_spyOf_10 : decode cX11_spyOf 10 = .ok (.iconst (-1), 1) := by decide +kernel
theorem dX11_spyOf_11 : decode cX11_spyOf 11 = .ok (.istore 4, 2) := by decide +kernel
theorem dX11_spyOf_13 : decode cX11_spyOf 13 = .ok (.bipush 99, 2) := by decide +kernel
theorem dX11_spyOf_15 : decode cX11_spyOf 15 = .ok (.istore 5, 2) := by decide +kernel
theorem dX11_spyOf_17 : decode cX11_spyOf 17 = .ok (.iload 5, 2) := by decide +kernel
theorem dX11_spyOf_19 : decode cX11_spyOf 19 = .ok (.ifCond .lt 44, 3) := by decide +kernel
theorem dX11_spyOf_22 : decode cX11_spyOf 22 = .ok (.aload_n 0, 1) := by decide +kernel
theorem dX11_spyOf_23 : decode cX11_spyOf 23 = .ok (.iload 5, 2) := by decide +kernel
theorem dX11_spyOf_25 : decode cX11_spyOf 25 = .ok (.iload_n 3, 1) := by decide +kernel
theorem dX11_spyOf_26 : decode cX11_spyOf 26 = .ok (.imul, 1) := by decide +kernel
theorem dX11_spyOf_27 : decode cX11_spyOf 27 = .ok (.putfield 174, 3) := by decide +kernel
theorem dX11_spyOf_30 : decode cX11_spyOf 30 = .ok (.aload_n 0, 1) := by decide +kernel
theorem dX11_spyOf_31 : decode cX11_spyOf 31 = .ok (.iload_n 1, 1) := by decide +kernel
theorem dX11_spyOf_32 : decode cX11_spyOf 32 = .ok (.invokevirtual 192, 3) := by decide +kernel
theorem dX11_spyOf_35 : decode cX11_spyOf 35 = .ok (.aload_n 0, 1) := by decide +kernel
theorem dX11_spyOf_36 : decode cX11_spyOf 36 = .ok (.getfield 37, 3) := by decide +kernel
theorem dX11_spyOf_39 : decode cX11_spyOf 39 = .ok (.iload_n 2, 1) := by decide +kernel
theorem dX11_spyOf_40 : decode cX11_spyOf 40 = .ok (.iaload, 1) := by decide +kernel
theorem dX11_spyOf_41 : decode cX11_spyOf 41 = .ok (.aload_n 0, 1) := by decide +kernel
theorem dX11_spyOf_42 : decode cX11_spyOf 42 = .ok (.getfield 52, 3) := by decide +kernel
theorem dX11_spyOf_45 : decode cX11_spyOf 45 = .ok (.if_icmp .ge 8, 3) := by decide +kernel
theorem dX11_spyOf_48 : decode cX11_spyOf 48 = .ok (.iload 5, 2) := by decide +kernel
theorem dX11_spyOf_50 : decode cX11_spyOf 50 = .ok (.goto 5, 3) := by decide +kernel
theorem dX11_spyOf_53 : decode cX11_spyOf 53 = .ok (.iload 4, 2) := by decide +kernel
theorem dX11_spyOf_55 : decode cX11_spyOf 55 = .ok (.istore 4, 2) := by decide +kernel
theorem dX11_spyOf_57 : decode cX11_spyOf 57 = .ok (.iinc 5 (-1), 3) := by decide +kernel
theorem dX11_spyOf_60 : decode cX11_spyOf 60 = .ok (.goto (-43), 3) := by decide +kernel
theorem dX11_spyOf_63 : decode cX11_spyOf 63 = .ok (.aload_n 0, 1) := by decide +kernel
theorem dX11_spyOf_64 : decode cX11_spyOf 64 = .ok (.iconst 0, 1) := by decide +kernel
theorem dX11_spyOf_65 : decode cX11_spyOf 65 = .ok (.putfield 174, 3) := by decide +kernel
theorem dX11_spyOf_68 : decode cX11_spyOf 68 = .ok (.iload 4, 2) := by decide +kernel
theorem dX11_spyOf_70 : decode cX11_spyOf 70 = .ok (.ireturn, 1) := by decide +kernel
theorem dX11_spy_0 : decode cX11_spy 0 = .ok (.aload_n 0, 1) := by decide +kernel
theorem dX11_spy_1 : decode cX11_spy 1 = .ok (.invokevirtual 113, 3) := by decide +kernel
theorem dX11_spy_4 : decode cX11_spy 4 = .ok (.pop, 1) := by decide +kernel
theorem dX11_spy_5 : decode cX11_spy 5 = .ok (.iload_n 1, 1) := by decide +kernel
theorem dX11_spy_6 : decode cX11_spy 6 = .ok (.invokestatic 130, 3) := by decide +kernel
theorem dX11_spy_9 : decode cX11_spy 9 = .ok (.ifCond .eq 33, 3) := by decide +kernel
theorem dX11_spy_12 : decode cX11_spy 12 = .ok (.aload_n 0, 1) := by decide +kernel
theorem dX11_spy_13 : decode cX11_spy 13 = .ok (.iload_n 2, 1) := by decide +kernel
theorem dX11_spy_14 : decode cX11_spy 14 = .ok (.invokevirtual 121, 3) := by decide +kernel
theorem dX11_spy_17 : decode cX11_spy 17 = .ok (.ifCond .eq 25, 3) := by decide +kernel
theorem dX11_spy_20 : decode cX11_spy 20 = .ok (.iload_n 3, 1) := by decide +kernel
theorem dX11_spy_21 : decode cX11_spy 21 = .ok (.i2l, 1) := by decide +kernel
theorem dX11_spy_22 : decode cX11_spy 22 = .ok (.lconst 1, 1) := by decide +kernel
theorem dX11_spy_23 : decode cX11_spy 23 = .ok (.ldc2_w 103, 3) := by decide +kernel
theorem dX11_spy_26 : decode cX11_spy 26 = .ok (.invokestatic 64, 3) := by decide +kernel
theorem dX11_spy_29 : decode cX11_spy 29 = .ok (.ifCond .eq 13, 3) := by decide +kernel
theorem dX11_spy_32 : decode cX11_spy 32 = .ok (.aload_n 0, 1) := by decide +kernel
theorem dX11_spy_33 : decode cX11_spy 33 = .ok (.iload_n 1, 1) := by decide +kernel
theorem dX11_spy_34 : decode cX11_spy 34 = .ok (.iload_n 2, 1) := by decide +kernel
theorem dX11_spy_35 : decode cX11_spy 35 = .ok (.iload_n 3, 1) := by decide +kernel
theorem dX11_spy_36 : decode cX11_spy 36 = .ok (.invokevirtual 246, 3) := by decide +kernel
theorem dX11_spy_39 : decode cX11_spy 39 = .ok (.goto 5, 3) := by decide +kernel
theorem dX11_spy_42 : decode cX11_spy 42 = .ok (.bipush (-2), 2) := by decide +kernel
theorem dX11_spy_44 : decode cX11_spy 44 = .ok (.ireturn, 1) := by decide +kernel
theorem dX11_isWanted_0 : decode cX11_isWanted 0 = .ok (.aload_n 0, 1) := by decide +kernel
theorem dX11_isWanted_1 : decode cX11_isWanted 1 = .ok (.getfield 34, 3) := by decide +kernel
theorem dX11_isWanted_4 : decode cX11_isWanted 4 = .ok (.iload_n 2, 1) := by decide +kernel
theorem dX11_isWanted_5 : decode cX11_isWanted 5 = .ok (.iaload, 1) := by decide +kernel
theorem dX11_isWanted_6 : decode cX11_isWanted 6 = .ok (.aload_n 0, 1) := by decide +kernel
theorem dX11_isWanted_7 : decode cX11_isWanted 7 = .ok (.getfield 28, 3) := by decide +kernel
theorem dX11_isWanted_10 : decode cX11_isWanted 10 = .ok (.iconst 4, 1) := by decide +kernel
theorem dX11_isWanted_11 : decode cX11_isWanted 11 = .ok (.iload_n 1, 1) := by decide +kernel
theorem dX11_isWanted_12 : decode cX11_isWanted 12 = .ok (.imul, 1) := by decide +kernel
theorem dX11_isWanted_13 : decode cX11_isWanted 13 = .ok (.iconst 1, 1) := by decide +kernel
theorem dX11_isWanted_14 : decode cX11_isWanted 14 = .ok (.iadd, 1) := by decide +kernel
theorem dX11_isWanted_15 : decode cX11_isWanted 15 = .ok (.iaload, 1) := by decide +kernel
theorem dX11_isWanted_16 : decode cX11_isWanted 16 = .ok (.if_icmp .ne 7, 3) := by decide +kernel
theorem dX11_isWanted_19 : decode cX11_isWanted 19 = .ok (.iconst 1, 1) := by decide +kernel
theorem dX11_isWanted_20 : decode cX11_isWanted 20 = .ok (.goto 4, 3) := by decide +kernel
theorem dX11_isWanted_23 : decode cX11_isWanted 23 = .ok (.iconst 0, 1) := by decide +kernel
theorem dX11_isWanted_24 : decode cX11_isWanted 24 = .ok (.ireturn, 1) := by decide +kernel
theorem dX11_gains_0 : decode cX11_gains 0 = .ok (.aload_n 0, 1) := by decide +kernel
theorem dX11_gains_1 : decode cX11_gains 1 = .ok (.getfield 46, 3) := by decide +kernel
theorem dX11_gains_4 : decode cX11_gains 4 = .ok (.iload_n 1, 1) := by decide +kernel
theorem dX11_gains_5 : decode cX11_gains 5 = .ok (.iaload, 1) := by decide +kernel
theorem dX11_gains_6 : decode cX11_gains 6 = .ok (.istore_n 3, 1) := by decide +kernel
theorem dX11_gains_7 : decode cX11_gains 7 = .ok (.aload_n 0, 1) := by decide +kernel
theorem dX11_gains_8 : decode cX11_gains 8 = .ok (.getfield 46, 3) := by decide +kernel
theorem dX11_gains_11 : decode cX11_gains 11 = .ok (.iload_n 2, 1) := by decide +kernel
theorem dX11_gains_12 : decode cX11_gains 12 = .ok (.iaload, 1) := by decide +kernel
theorem dX11_gains_13 : decode cX11_gains 13 = .ok (.istore 4, 2) := by decide +kernel
theorem dX11_gains_15 : decode cX11_gains 15 = .ok (.iload_n 3, 1) := by decide +kernel
theorem dX11_gains_16 : decode cX11_gains 16 = .ok (.iload 4, 2) := by decide +kernel
theorem dX11_gains_18 : decode cX11_gains 18 = .ok (.if_icmp .eq 45, 3) := by decide +kernel
theorem dX11_gains_21 : decode cX11_gains 21 = .ok (.aload_n 0, 1) := by decide +kernel
theorem dX11_gains_22 : decode cX11_gains 22 = .ok (.iload_n 2, 1) := by decide +kernel
theorem dX11_gains_23 : decode cX11_gains 23 = .ok (.iload_n 3, 1) := by decide +kernel
theorem dX11_gains_24 : decode cX11_gains 24 = .ok (.invokevirtual 249, 3) := by decide +kernel
theorem dX11_gains_27 : decode cX11_gains 27 = .ok (.ifCond .eq 36, 3) := by decide +kernel
theorem dX11_gains_30 : decode cX11_gains 30 = .ok (.aload_n 0, 1) := by decide +kernel
theorem dX11_gains_31 : decode cX11_gains 31 = .ok (.iload_n 1, 1) := by decide +kernel
theorem dX11_gains_32 : decode cX11_gains 32 = .ok (.iload_n 3, 1) := by decide +kernel
theorem dX11_gains_33 : decode cX11_gains 33 = .ok (.invokevirtual 249, 3) := by decide +kernel
theorem dX11_gains_36 : decode cX11_gains 36 = .ok (.ifCond .ne 27, 3) := by decide +kernel
theorem dX11_gains_39 : decode cX11_gains 39 = .ok (.aload_n 0, 1) := by decide +kernel
theorem dX11_gains_40 : decode cX11_gains 40 = .ok (.iload_n 1, 1) := by decide +kernel
theorem dX11_gains_41 : decode cX11_gains 41 = .ok (.iload 4, 2) := by decide +kernel
theorem dX11_gains_43 : decode cX11_gains 43 = .ok (.invokevirtual 249, 3) := by decide +kernel
theorem dX11_gains_46 : decode cX11_gains 46 = .ok (.ifCond .eq 17, 3) := by decide +kernel
theorem dX11_gains_49 : decode cX11_gains 49 = .ok (.aload_n 0, 1) := by decide +kernel
theorem dX11_gains_50 : decode cX11_gains 50 = .ok (.iload_n 2, 1) := by decide +kernel
theorem dX11_gains_51 : decode cX11_gains 51 = .ok (.iload 4, 2) := by decide +kernel
theorem dX11_gains_53 : decode cX11_gains 53 = .ok (.invokevirtual 249, 3) := by decide +kernel
theorem dX11_gains_56 : decode cX11_gains 56 = .ok (.ifCond .ne 7, 3) := by decide +kernel
theorem dX11_gains_59 : decode cX11_gains 59 = .ok (.iconst 1, 1) := by decide +kernel
theorem dX11_gains_60 : decode cX11_gains 60 = .ok (.goto 4, 3) := by decide +kernel
theorem dX11_gains_63 : decode cX11_gains 63 = .ok (.iconst 0, 1) := by decide +kernel
theorem dX11_gains_64 : decode cX11_gains 64 = .ok (.ireturn, 1) := by decide +kernel
theorem dX11_findSwap_0 : decode cX11_findSwap 0 = .ok (.aload_n 0, 1) := by decide +kernel
theorem dX11_findSwap_1 : decode cX11_findSwap 1 = .ok (.iconst (-1), 1) := by decide +kernel
theorem dX11_findSwap_2 : decode cX11_findSwap 2 = .ok (.putfield 252, 3) := by decide +kernel
theorem dX11_findSwap_5 : decode cX11_findSwap 5 = .ok (.aload_n 0, 1) := by decide +kernel
theorem dX11_findSwap_6 : decode cX11_findSwap 6 = .ok (.iconst (-1), 1) := by decide +kernel
theorem dX11_findSwap_7 : decode cX11_findSwap 7 = .ok (.putfield 255, 3) := by decide +kernel
theorem dX11_findSwap_10 : decode cX11_findSwap 10 = .ok (.iconst 0, 1) := by decide +kernel
theorem dX11_findSwap_11 : decode cX11_findSwap 11 = .ok (.istore_n 2, 1) := by decide +kernel
theorem dX11_findSwap_12 : decode cX11_findSwap 12 = .ok (.iload_n 2, 1) := by decide +kernel
theorem dX11_findSwap_13 : decode cX11_findSwap 13 = .ok (.aload_n 0, 1) := by decide +kernel
theorem dX11_findSwap_14 : decode cX11_findSwap 14 = .ok (.getfield 139, 3) := by decide +kernel
theorem dX11_findSwap_17 : decode cX11_findSwap 17 = .ok (.if_icmp .ge 78, 3) := by decide +kernel
theorem dX11_findSwap_20 : decode cX11_findSwap 20 = .ok (.aload_n 0, 1) := by decide +kernel
theorem dX11_findSwap_21 : decode cX11_findSwap 21 = .ok (.getfield 252, 3) := by decide +kernel
theorem dX11_findSwap_24 : decode cX11_findSwap 24 = .ok (.iconst (-1), 1) := by decide +kernel
theorem dX11_findSwap_25 : decode cX11_findSwap 25 = .ok (.if_icmp .ne 70, 3) := by decide +kernel
theorem dX11_findSwap_28 : decode cX11_findSwap 28 = .ok (.iload_n 2, 1) := by decide +kernel
theorem dX11_findSwap_29 : decode cX11_findSwap 29 = .ok (.iconst 1, 1) := by decide +kernel
theorem dX11_findSwap_30 : decode cX11_findSwap 30 = .ok (.iadd, 1) := by decide +kernel
theorem dX11_findSwap_31 : decode cX11_findSwap 31 = .ok (.istore_n 3, 1) := by decide +kernel
theorem dX11_findSwap_32 : decode cX11_findSwap 32 = .ok (.iload_n 3, 1) := by decide +kernel
theorem dX11_findSwap_33 : decode cX11_findSwap 33 = .ok (.aload_n 0, 1) := by decide +kernel
theorem dX11_findSwap_34 : decode cX11_findSwap 34 = .ok (.getfield 139, 3) := by decide +kernel
theorem dX11_findSwap_37 : decode cX11_findSwap 37 = .ok (.if_icmp .ge 52, 3) := by decide +kernel
theorem dX11_findSwap_40 : decode cX11_findSwap 40 = .ok (.aload_n 0, 1) := by decide +kernel
theorem dX11_findSwap_41 : decode cX11_findSwap 41 = .ok (.getfield 252, 3) := by decide +kernel
theorem dX11_findSwap_44 : decode cX11_findSwap 44 = .ok (.iconst (-1), 1) := by decide +kernel
theorem dX11_findSwap_45 : decode cX11_findSwap 45 = .ok (.if_icmp .ne 44, 3) := by decide +kernel
theorem dX11_findSwap_48 : decode cX11_findSwap 48 = .ok (.iload_n 1, 1) := by decide +kernel
theorem dX11_findSwap_49 : decode cX11_findSwap 49 = .ok (.iload_n 2, 1) := by decide +kernel
theorem dX11_findSwap_50 : decode cX11_findSwap 50 = .ok (.invokestatic 216, 3) := by decide +kernel
theorem dX11_findSwap_53 : decode cX11_findSwap 53 = .ok (.ifCond .eq 30, 3) := by decide +kernel
theorem dX11_findSwap_56 : decode cX11_findSwap 56 = .ok (.iload_n 1, 1) := by decide +kernel
theorem dX11_findSwap_57 : decode cX11_findSwap 57 = .ok (.iload_n 3, 1) := by decide +kernel
theorem dX11_findSwap_58 : decode cX11_findSwap 58 = .ok (.invokestatic 216, 3) := by decide +kernel
theorem dX11_findSwap_61 : decode cX11_findSwap 61 = .ok (.ifCond .eq 22, 3) := by decide +kernel
theorem dX11_findSwap_64 : decode cX11_findSwap 64 = .ok (.aload_n 0, 1) := by decide +kernel
theorem dX11_findSwap_65 : decode cX11_findSwap 65 = .ok (.iload_n 2, 1) := by decide +kernel
theorem dX11_findSwap_66 : decode cX11_findSwap 66 = .ok (.iload_n 3, 1) := by decide +kernel
theorem dX11_findSwap_67 : decode cX11_findSwap 67 = .ok (.invokevirtual 258, 3) := by decide +kernel
theorem dX11_findSwap_70 : decode cX11_findSwap 70 = .ok (.ifCond .eq 13, 3) := by decide +kernel
theorem dX11_findSwap_73 : decode cX11_findSwap 73 = .ok (.aload_n 0, 1) := by decide +kernel
theorem dX11_findSwap_74 : decode cX11_findSwap 74 = .ok (.iload_n 2, 1) := by decide +kernel
theorem dX11_findSwap_75 : decode cX11_findSwap 75 = .ok (.putfield 252, 3) := by decide +kernel
theorem dX11_findSwap_78 : decode cX11_findSwap 78 = .ok (.aload_n 0, 1) := by decide +kernel
theorem dX11_findSwap_79 : decode cX11_findSwap 79 = .ok (.iload_n 3, 1) := by decide +kernel
theorem dX11_findSwap_80 : decode cX11_findSwap 80 = .ok (.putfield 255, 3) := by decide +kernel
theorem dX11_findSwap_83 : decode cX11_findSwap 83 = .ok (.iinc 3 1, 3) := by decide +kernel
theorem dX11_findSwap_86 : decode cX11_findSwap 86 = .ok (.goto (-54), 3) := by decide +kernel
theorem dX11_findSwap_89 : decode cX11_findSwap 89 = .ok (.iinc 2 1, 3) := by decide +kernel
theorem dX11_findSwap_92 : decode cX11_findSwap 92 = .ok (.goto (-80), 3) := by decide +kernel
theorem dX11_findSwap_95 : decode cX11_findSwap 95 = .ok (.return_, 1) := by decide +kernel
theorem dX11_swapOf_0 : decode cX11_swapOf 0 = .ok (.aload_n 0, 1) := by decide +kernel
theorem dX11_swapOf_1 : decode cX11_swapOf 1 = .ok (.iload_n 1, 1) := by decide +kernel
theorem dX11_swapOf_2 : decode cX11_swapOf 2 = .ok (.invokevirtual 192, 3) := by decide +kernel
theorem dX11_swapOf_5 : decode cX11_swapOf 5 = .ok (.aload_n 0, 1) := by decide +kernel
theorem dX11_swapOf_6 : decode cX11_swapOf 6 = .ok (.invokevirtual 201, 3) := by decide +kernel
theorem dX11_swapOf_9 : decode cX11_swapOf 9 = .ok (.istore_n 3, 1) := by decide +kernel
theorem dX11_swapOf_10 : decode cX11_swapOf 10 = .ok (.iconst 0, 1) := by decide +kernel
theorem dX11_swapOf_11 : decode cX11_swapOf 11 = .ok (.istore 4, 2) := by decide +kernel
theorem dX11_swapOf_13 : decode cX11_swapOf 13 = .ok (.iload 4, 2) := by decide +kernel
theorem dX11_swapOf_15 : decode cX11_swapOf 15 = .ok (.aload_n 0, 1) := by decide +kernel
theorem dX11_swapOf_16 : decode cX11_swapOf 16 = .ok (.getfield 139, 3) := by decide +kernel
theorem dX11_swapOf_19 : decode cX11_swapOf 19 = .ok (.if_icmp .ge 27, 3) := by decide +kernel
theorem dX11_swapOf_22 : decode cX11_swapOf 22 = .ok (.aload_n 0, 1) := by decide +kernel
theorem dX11_swapOf_23 : decode cX11_swapOf 23 = .ok (.getfield 46, 3) := by decide +kernel
theorem dX11_swapOf_26 : decode cX11_swapOf 26 = .ok (.iload 4, 2) := by decide +kernel
theorem dX11_swapOf_28 : decode cX11_swapOf 28 = .ok (.aload_n 0, 1) := by decide +kernel
theorem dX11_swapOf_29 : decode cX11_swapOf 29 = .ok (.getfield 28, 3) := by decide +kernel
theorem dX11_swapOf_32 : decode cX11_swapOf 32 = .ok (.iconst 4, 1) := by decide +kernel
theorem dX11_swapOf_33 : decode cX11_swapOf 33 = .ok (.iload 4, 2) := by decide +kernel
theorem dX11_swapOf_35 : decode cX11_swapOf 35 = .ok (.imul, 1) := by decide +kernel
theorem dX11_swapOf_36 : decode cX11_swapOf 36 = .ok (.iconst 3, 1) := by decide +kernel
theorem dX11_swapOf_37 : decode cX11_swapOf 37 = .ok (.iadd, 1) := by decide +kernel
theorem dX11_swapOf_38 : decode cX11_swapOf 38 = .ok (.iaload, 1) := by decide +kernel
theorem dX11_swapOf_39 : decode cX11_swapOf 39 = .ok (.iastore, 1) := by decide +kernel
theorem dX11_swapOf_40 : decode cX11_swapOf 40 = .ok (.iinc 4 1, 3) := by decide +kernel
theorem dX11_swapOf_43 : decode cX11_swapOf 43 = .ok (.goto (-30), 3) := by decide +kernel
theorem dX11_swapOf_46 : decode cX11_swapOf 46 = .ok (.aload_n 0, 1) := by decide +kernel
theorem dX11_swapOf_47 : decode cX11_swapOf 47 = .ok (.iload_n 3, 1) := by decide +kernel
theorem dX11_swapOf_48 : decode cX11_swapOf 48 = .ok (.invokevirtual 261, 3) := by decide +kernel
theorem dX11_swapOf_51 : decode cX11_swapOf 51 = .ok (.iload_n 2, 1) := by decide +kernel
theorem dX11_swapOf_52 : decode cX11_swapOf 52 = .ok (.ifCond .ne 10, 3) := by decide +kernel
theorem dX11_swapOf_55 : decode cX11_swapOf 55 = .ok (.aload_n 0, 1) := by decide +kernel
theorem dX11_swapOf_56 : decode cX11_swapOf 56 = .ok (.getfield 252, 3) := by decide +kernel
theorem dX11_swapOf_59 : decode cX11_swapOf 59 = .ok (.goto 7, 3) := by decide +kernel
theorem dX11_swapOf_62 : decode cX11_swapOf 62 = .ok (.aload_n 0, 1) := by decide +kernel
theorem dX11_swapOf_63 : decode cX11_swapOf 63 = .ok (.getfield 255, 3) := by decide +kernel
theorem dX11_swapOf_66 : decode cX11_swapOf 66 = .ok (.istore 4, 2) := by decide +kernel
theorem dX11_swapOf_68 : decode cX11_swapOf 68 = .ok (.iconst 0, 1) := by decide +kernel
theorem dX11_swapOf_69 : decode cX11_swapOf 69 = .ok (.istore 5, 2) := by decide +kernel
theorem dX11_swapOf_71 : decode cX11_swapOf 71 = .ok (.aload_n 0, 1) := by decide +kernel
theorem dX11_swapOf_72 : decode cX11_swapOf 72 = .ok (.getfield 252, 3) := by decide +kernel
theorem dX11_swapOf_75 : decode cX11_swapOf 75 = .ok (.iconst (-1), 1) := by decide +kernel
theorem dX11_swapOf_76 : decode cX11_swapOf 76 = .ok (.if_icmp .eq 54, 3) := by decide +kernel
theorem dX11_swapOf_79 : decode cX11_swapOf 79 = .ok (.aload_n 0, 1) := by decide +kernel
theorem dX11_swapOf_80 : decode cX11_swapOf 80 = .ok (.getfield 46, 3) := by decide +kernel
theorem dX11_swapOf_83 : decode cX11_swapOf 83 = .ok (.aload_n 0, 1) := by decide +kernel
theorem dX11_swapOf_84 : decode cX11_swapOf 84 = .ok (.getfield 252, 3) := by decide +kernel
theorem dX11_swapOf_87 : decode cX11_swapOf 87 = .ok (.iaload, 1) := by decide +kernel
theorem dX11_swapOf_88 : decode cX11_swapOf 88 = .ok (.istore 6, 2) := by decide +kernel
theorem dX11_swapOf_90 : decode cX11_swapOf 90 = .ok (.aload_n 0, 1) := by decide +kernel
theorem dX11_swapOf_91 : decode cX11_swapOf 91 = .ok (.getfield 46, 3) := by decide +kernel
theorem dX11_swapOf_94 : decode cX11_swapOf 94 = .ok (.aload_n 0, 1) := by decide +kernel
theorem dX11_swapOf_95 : decode cX11_swapOf 95 = .ok (.getfield 252, 3) := by decide +kernel
theorem dX11_swapOf_98 : decode cX11_swapOf 98 = .ok (.aload_n 0, 1) := by decide +kernel
theorem dX11_swapOf_99 : decode cX11_swapOf 99 = .ok (.getfield 46, 3) := by decide +kernel
theorem dX11_swapOf_102 : decode cX11_swapOf 102 = .ok (.aload_n 0, 1) := by decide +kernel
theorem dX11_swapOf_103 : decode cX11_swapOf 103 = .ok (.getfield 255, 3) := by decide +kernel
theorem dX11_swapOf_106 : decode cX11_swapOf 106 = .ok (.iaload, 1) := by decide +kernel
theorem dX11_swapOf_107 : decode cX11_swapOf 107 = .ok (.iastore, 1) := by decide +kernel
theorem dX11_swapOf_108 : decode cX11_swapOf 108 = .ok (.aload_n 0, 1) := by decide +kernel
theorem dX11_swapOf_109 : decode cX11_swapOf 109 = .ok (.getfield 46, 3) := by decide +kernel
theorem dX11_swapOf_112 : decode cX11_swapOf 112 = .ok (.aload_n 0, 1) := by decide +kernel
theorem dX11_swapOf_113 : decode cX11_swapOf 113 = .ok (.getfield 255, 3) := by decide +kernel
theorem dX11_swapOf_116 : decode cX11_swapOf 116 = .ok (.iload 6, 2) := by decide +kernel
theorem dX11_swapOf_118 : decode cX11_swapOf 118 = .ok (.iastore, 1) := by decide +kernel
theorem dX11_swapOf_119 : decode cX11_swapOf 119 = .ok (.iinc 5 1, 3) := by decide +kernel
theorem dX11_swapOf_122 : decode cX11_swapOf 122 = .ok (.aload_n 0, 1) := by decide +kernel
theorem dX11_swapOf_123 : decode cX11_swapOf 123 = .ok (.iload_n 3, 1) := by decide +kernel
theorem dX11_swapOf_124 : decode cX11_swapOf 124 = .ok (.invokevirtual 261, 3) := by decide +kernel
theorem dX11_swapOf_127 : decode cX11_swapOf 127 = .ok (.goto (-56), 3) := by decide +kernel
theorem dX11_swapOf_130 : decode cX11_swapOf 130 = .ok (.iload_n 2, 1) := by decide +kernel
theorem dX11_swapOf_131 : decode cX11_swapOf 131 = .ok (.iconst 2, 1) := by decide +kernel
theorem dX11_swapOf_132 : decode cX11_swapOf 132 = .ok (.if_icmp .ne 8, 3) := by decide +kernel
theorem dX11_swapOf_135 : decode cX11_swapOf 135 = .ok (.iload 5, 2) := by decide +kernel
theorem dX11_swapOf_137 : decode cX11_swapOf 137 = .ok (.goto 5, 3) := by decide +kernel
theorem dX11_swapOf_140 : decode cX11_swapOf 140 = .ok (.iload 4, 2) := by decide +kernel
theorem dX11_swapOf_142 : decode cX11_swapOf 142 = .ok (.ireturn, 1) := by decide +kernel
theorem dX11_swap_0 : decode cX11_swap 0 = .ok (.aload_n 0, 1) := by decide +kernel
theorem dX11_swap_1 : decode cX11_swap 1 = .ok (.invokevirtual 113, 3) := by decide +kernel
theorem dX11_swap_4 : decode cX11_swap 4 = .ok (.pop, 1) := by decide +kernel
theorem dX11_swap_5 : decode cX11_swap 5 = .ok (.iload_n 1, 1) := by decide +kernel
theorem dX11_swap_6 : decode cX11_swap 6 = .ok (.invokestatic 130, 3) := by decide +kernel
theorem dX11_swap_9 : decode cX11_swap 9 = .ok (.ifCond .eq 24, 3) := by decide +kernel
theorem dX11_swap_12 : decode cX11_swap 12 = .ok (.iload_n 2, 1) := by decide +kernel
theorem dX11_swap_13 : decode cX11_swap 13 = .ok (.i2l, 1) := by decide +kernel
theorem dX11_swap_14 : decode cX11_swap 14 = .ok (.lconst 0, 1) := by decide +kernel
theorem dX11_swap_15 : decode cX11_swap 15 = .ok (.ldc2_w 77, 3) := by decide +kernel
theorem dX11_swap_18 : decode cX11_swap 18 = .ok (.invokestatic 64, 3) := by decide +kernel
theorem dX11_swap_21 : decode cX11_swap 21 = .ok (.ifCond .eq 12, 3) := by decide +kernel
theorem dX11_swap_24 : decode cX11_swap 24 = .ok (.aload_n 0, 1) := by decide +kernel
theorem dX11_swap_25 : decode cX11_swap 25 = .ok (.iload_n 1, 1) := by decide +kernel
theorem dX11_swap_26 : decode cX11_swap 26 = .ok (.iload_n 2, 1) := by decide +kernel
theorem dX11_swap_27 : decode cX11_swap 27 = .ok (.invokevirtual 264, 3) := by decide +kernel
theorem dX11_swap_30 : decode cX11_swap 30 = .ok (.goto 5, 3) := by decide +kernel
theorem dX11_swap_33 : decode cX11_swap 33 = .ok (.bipush (-2), 2) := by decide +kernel
theorem dX11_swap_35 : decode cX11_swap 35 = .ok (.ireturn, 1) := by decide +kernel
theorem dX11_seen_0 : decode cX11_seen 0 = .ok (.iload_n 1, 1) := by decide +kernel
theorem dX11_seen_1 : decode cX11_seen 1 = .ok (.invokestatic 130, 3) := by decide +kernel
theorem dX11_seen_4 : decode cX11_seen 4 = .ok (.ifCond .eq 22, 3) := by decide +kernel
theorem dX11_seen_7 : decode cX11_seen 7 = .ok (.iload_n 2, 1) := by decide +kernel
theorem dX11_seen_8 : decode cX11_seen 8 = .ok (.invokestatic 133, 3) := by decide +kernel
theorem dX11_seen_11 : decode cX11_seen 11 = .ok (.ifCond .eq 15, 3) := by decide +kernel
theorem dX11_seen_14 : decode cX11_seen 14 = .ok (.iload_n 3, 1) := by decide +kernel
theorem dX11_seen_15 : decode cX11_seen 15 = .ok (.i2l, 1) := by decide +kernel
theorem dX11_seen_16 : decode cX11_seen 16 = .ok (.lconst 0, 1) := by decide +kernel
theorem dX11_seen_17 : decode cX11_seen 17 = .ok (.ldc2_w 147, 3) := by decide +kernel
theorem dX11_seen_20 : decode cX11_seen 20 = .ok (.invokestatic 64, 3) := by decide +kernel
theorem dX11_seen_23 : decode cX11_seen 23 = .ok (.ifCond .ne 6, 3) := by decide +kernel
theorem dX11_seen_26 : decode cX11_seen 26 = .ok (.bipush (-2), 2) := by decide +kernel
theorem dX11_seen_28 : decode cX11_seen 28 = .ok (.ireturn, 1) := by decide +kernel
theorem dX11_seen_29 : decode cX11_seen 29 = .ok (.aload_n 0, 1) := by decide +kernel
theorem dX11_seen_30 : decode cX11_seen 30 = .ok (.getfield 267, 3) := by decide +kernel
theorem dX11_seen_33 : decode cX11_seen 33 = .ok (.bipush 8, 2) := by decide +kernel
theorem dX11_seen_35 : decode cX11_seen 35 = .ok (.if_icmp .ne 6, 3) := by decide +kernel
theorem dX11_seen_38 : decode cX11_seen 38 = .ok (.bipush (-4), 2) := by decide +kernel
theorem dX11_seen_40 : decode cX11_seen 40 = .ok (.ireturn, 1) := by decide +kernel
theorem dX11_seen_41 : decode cX11_seen 41 = .ok (.aload_n 0, 1) := by decide +kernel
theorem dX11_seen_42 : decode cX11_seen 42 = .ok (.getfield 49, 3) := by decide +kernel
theorem dX11_seen_45 : decode cX11_seen 45 = .ok (.iconst 3, 1) := by decide +kernel
theorem dX11_seen_46 : decode cX11_seen 46 = .ok (.aload_n 0, 1) := by decide +kernel
theorem dX11_seen_47 : decode cX11_seen 47 = .ok (.getfield 267, 3) := by decide +kernel
theorem dX11_seen_50 : decode cX11_seen 50 = .ok (.imul, 1) := by decide +kernel
theorem dX11_seen_51 : decode cX11_seen 51 = .ok (.iload_n 1, 1) := by decide +kernel
theorem dX11_seen_52 : decode cX11_seen 52 = .ok (.iastore, 1) := by decide +kernel
theorem dX11_seen_53 : decode cX11_seen 53 = .ok (.aload_n 0, 1) := by decide +kernel
theorem dX11_seen_54 : decode cX11_seen 54 = .ok (.getfield 49, 3) := by decide +kernel
theorem dX11_seen_57 : decode cX11_seen 57 = .ok (.iconst 3, 1) := by decide +kernel
theorem dX11_seen_58 : decode cX11_seen 58 = .ok (.aload_n 0, 1) := by decide +kernel
theorem dX11_seen_59 : decode cX11_seen 59 = .ok (.getfield 267, 3) := by decide +kernel
theorem dX11_seen_62 : decode cX11_seen 62 = .ok (.imul, 1) := by decide +kernel
theorem dX11_seen_63 : decode cX11_seen 63 = .ok (.iconst 1, 1) := by decide +kernel
theorem dX11_seen_64 : decode cX11_seen 64 = .ok (.iadd, 1) := by decide +kernel
theorem dX11_seen_65 : decode cX11_seen 65 = .ok (.iload_n 2, 1) := by decide +kernel
theorem dX11_seen_66 : decode cX11_seen 66 = .ok (.iastore, 1) := by decide +kernel
theorem dX11_seen_67 : decode cX11_seen 67 = .ok (.aload_n 0, 1) := by decide +kernel
theorem dX11_seen_68 : decode cX11_seen 68 = .ok (.getfield 49, 3) := by decide +kernel
theorem dX11_seen_71 : decode cX11_seen 71 = .ok (.iconst 3, 1) := by decide +kernel
theorem dX11_seen_72 : decode cX11_seen 72 = .ok (.aload_n 0, 1) := by decide +kernel
theorem dX11_seen_73 : decode cX11_seen 73 = .ok (.getfield 267, 3) := by decide +kernel
theorem dX11_seen_76 : decode cX11_seen 76 = .ok (.imul, 1) := by decide +kernel
theorem dX11_seen_77 : decode cX11_seen 77 = .ok (.iconst 2, 1) := by decide +kernel
theorem dX11_seen_78 : decode cX11_seen 78 = .ok (.iadd, 1) := by decide +kernel
theorem dX11_seen_79 : decode cX11_seen 79 = .ok (.iload_n 3, 1) := by decide +kernel
theorem dX11_seen_80 : decode cX11_seen 80 = .ok (.iastore, 1) := by decide +kernel
theorem dX11_seen_81 : decode cX11_seen 81 = .ok (.aload_n 0, 1) := by decide +kernel
theorem dX11_seen_82 : decode cX11_seen 82 = .ok (.dup, 1) := by decide +kernel
theorem dX11_seen_83 : decode cX11_seen 83 = .ok (.getfield 267, 3) := by decide +kernel
theorem dX11_seen_86 : decode cX11_seen 86 = .ok (.iconst 1, 1) := by decide +kernel
theorem dX11_seen_87 : decode cX11_seen 87 = .ok (.iadd, 1) := by decide +kernel
theorem dX11_seen_88 : decode cX11_seen 88 = .ok (.putfield 267, 3) := by decide +kernel
theorem dX11_seen_91 : decode cX11_seen 91 = .ok (.aload_n 0, 1) := by decide +kernel
theorem dX11_seen_92 : decode cX11_seen 92 = .ok (.getfield 267, 3) := by decide +kernel
theorem dX11_seen_95 : decode cX11_seen 95 = .ok (.ireturn, 1) := by decide +kernel
theorem dX11_forget_0 : decode cX11_forget 0 = .ok (.aload_n 0, 1) := by decide +kernel
theorem dX11_forget_1 : decode cX11_forget 1 = .ok (.getfield 267, 3) := by decide +kernel
theorem dX11_forget_4 : decode cX11_forget 4 = .ok (.istore_n 1, 1) := by decide +kernel
theorem dX11_forget_5 : decode cX11_forget 5 = .ok (.aload_n 0, 1) := by decide +kernel
theorem dX11_forget_6 : decode cX11_forget 6 = .ok (.iconst 0, 1) := by decide +kernel
theorem dX11_forget_7 : decode cX11_forget 7 = .ok (.putfield 267, 3) := by decide +kernel
theorem dX11_forget_10 : decode cX11_forget 10 = .ok (.iload_n 1, 1) := by decide +kernel
theorem dX11_forget_11 : decode cX11_forget 11 = .ok (.ireturn, 1) := by decide +kernel
theorem dX11_read_0 : decode cX11_read 0 = .ok (.iload_n 1, 1) := by decide +kernel
theorem dX11_read_1 : decode cX11_read 1 = .ok (.invokestatic 73, 3) := by decide +kernel
theorem dX11_read_4 : decode cX11_read 4 = .ok (.ifCond .ne 6, 3) := by decide +kernel
theorem dX11_read_7 : decode cX11_read 7 = .ok (.bipush (-2), 2) := by decide +kernel
theorem dX11_read_9 : decode cX11_read 9 = .ok (.ireturn, 1) := by decide +kernel
theorem dX11_read_10 : decode cX11_read 10 = .ok (.aload_n 0, 1) := by decide +kernel
theorem dX11_read_11 : decode cX11_read 11 = .ok (.getfield 7, 3) := by decide +kernel
theorem dX11_read_14 : decode cX11_read 14 = .ok (.iload_n 1, 1) := by decide +kernel
theorem dX11_read_15 : decode cX11_read 15 = .ok (.iaload, 1) := by decide +kernel
theorem dX11_read_16 : decode cX11_read 16 = .ok (.ifCond .ge 9, 3) := by decide +kernel
theorem dX11_read_19 : decode cX11_read 19 = .ok (.aload_n 0, 1) := by decide +kernel
theorem dX11_read_20 : decode cX11_read 20 = .ok (.iconst 1, 1) := by decide +kernel
theorem dX11_read_21 : decode cX11_read 21 = .ok (.invokevirtual 79, 3) := by decide +kernel
theorem dX11_read_24 : decode cX11_read 24 = .ok (.ireturn, 1) := by decide +kernel
theorem dX11_read_25 : decode cX11_read 25 = .ok (.iconst 0, 1) := by decide +kernel
theorem dX11_read_26 : decode cX11_read 26 = .ok (.istore_n 2, 1) := by decide +kernel
theorem dX11_read_27 : decode cX11_read 27 = .ok (.iconst 1, 1) := by decide +kernel
theorem dX11_read_28 : decode cX11_read 28 = .ok (.istore_n 3, 1) := by decide +kernel
theorem dX11_read_29 : decode cX11_read 29 = .ok (.iload_n 3, 1) := by decide +kernel
theorem dX11_read_30 : decode cX11_read 30 = .ok (.ifCond .eq 80, 3) := by decide +kernel
theorem dX11_read_33 : decode cX11_read 33 = .ok (.iconst 3, 1) := by decide +kernel
theorem dX11_read_34 : decode cX11_read 34 = .ok (.iload_n 2, 1) := by decide +kernel
theorem dX11_read_35 : decode cX11_read 35 = .ok (.imul, 1) := by decide +kernel
theorem dX11_read_36 : decode cX11_read 36 = .ok (.iconst 3, 1) := by decide +kernel
theorem dX11_read_37 : decode cX11_read 37 = .ok (.iadd, 1) := by decide +kernel
theorem dX11_read_38 : decode cX11_read 38 = .ok (.aload_n 0, 1) := by decide +kernel
theorem dX11_read_39 : decode cX11_read 39 = .ok (.getfield 13, 3) := by decide +kernel
theorem dX11_read_42 : decode cX11_read 42 = .ok (.iload_n 1, 1) := by decide +kernel
theorem dX11_read_43 : decode cX11_read 43 = .ok (.iaload, 1) := by decide +kernel
theorem dX11_read_44 : decode cX11_read 44 = .ok (.if_icmp .gt 66, 3) := by decide +kernel
theorem dX11_read_47 : decode cX11_read 47 = .ok (.bipush 60, 2) := by decide +kernel
theorem dX11_read_49 : decode cX11_read 49 = .ok (.iload_n 1, 1) := by decide +kernel
theorem dX11_read_50 : decode cX11_read 50 = .ok (.imul, 1) := by decide +kernel
theorem dX11_read_51 : decode cX11_read 51 = .ok (.iconst 3, 1) := by decide +kernel
theorem dX11_read_52 : decode cX11_read 52 = .ok (.iload_n 2, 1) := by decide +kernel
theorem dX11_read_53 : decode cX11_read 53 = .ok (.imul, 1) := by decide +kernel
theorem dX11_read_54 : decode cX11_read 54 = .ok (.iadd, 1) := by decide +kernel
theorem dX11_read_55 : decode cX11_read 55 = .ok (.istore 4, 2) := by decide +kernel
theorem dX11_read_57 : decode cX11_read 57 = .ok (.aload_n 0, 1) := by decide +kernel
theorem dX11_read_58 : decode cX11_read 58 = .ok (.aload_n 0, 1) := by decide +kernel
theorem dX11_read_59 : decode cX11_read 59 = .ok (.getfield 16, 3) := by decide +kernel
theorem dX11_read_62 : decode cX11_read 62 = .ok (.iload 4, 2) := by decide +kernel
theorem dX11_read_64 : decode cX11_read 64 = .ok (.iaload, 1) := by decide +kernel
theorem dX11_read_65 : decode cX11_read 65 = .ok (.aload_n 0, 1) := by decide +kernel
theorem dX11_read_66 : decode cX11_read 66 = .ok (.getfield 16, 3) := by decide +kernel
theorem dX11_read_69 : decode cX11_read 69 = .ok (.iload 4, 2) := by decide +kernel
theorem dX11_read_71 : decode cX11_read 71 = .ok (.iconst 1, 1) := by decide +kernel
theorem dX11_read_72 : decode cX11_read 72 = .ok (.iadd, 1) := by decide +kernel
theorem dX11_read_73 : decode cX11_read 73 = .ok (.iaload, 1) := by decide +kernel
theorem dX11_read_74 : decode cX11_read 74 = .ok (.aload_n 0, 1) := by decide +kernel
theorem dX11_read_75 : decode cX11_read 75 = .ok (.getfield 16, 3) := by decide +kernel
theorem dX11_read_78 : decode cX11_read 78 = .ok (.iload 4, 2) := by decide +kernel
theorem dX11_read_80 : decode cX11_read 80 = .ok (.iconst 2, 1) := by decide +kernel
theorem dX11_read_81 : decode cX11_read 81 = .ok (.iadd, 1) := by decide +kernel
theorem dX11_read_82 : decode cX11_read 82 = .ok (.iaload, 1) := by decide +kernel
theorem dX11_read_83 : decode cX11_read 83 = .ok (.invokevirtual 270, 3) := by decide +kernel
theorem dX11_read_86 : decode cX11_read 86 = .ok (.ifCond .lt 7, 3) := by decide +kernel
theorem dX11_read_89 : decode cX11_read 89 = .ok (.iconst 1, 1) := by decide +kernel
theorem dX11_read_90 : decode cX11_read 90 = .ok (.goto 4, 3) := by decide +kernel
theorem dX11_read_93 : decode cX11_read 93 = .ok (.iconst 0, 1) := by decide +kernel
theorem dX11_read_94 : decode cX11_read 94 = .ok (.istore_n 3, 1) := by decide +kernel
theorem dX11_read_95 : decode cX11_read 95 = .ok (.iload_n 2, 1) := by decide +kernel
theorem dX11_read_96 : decode cX11_read 96 = .ok (.iload_n 3, 1) := by decide +kernel
theorem dX11_read_97 : decode cX11_read 97 = .ok (.ifCond .eq 7, 3) := by decide +kernel
theorem dX11_read_100 : decode cX11_read 100 = .ok (.iconst 1, 1) := by decide +kernel
theorem dX11_read_101 : decode cX11_read 101 = .ok (.goto 4, 3) := by decide +kernel
theorem dX11_read_104 : decode cX11_read 104 = .ok (.iconst 0, 1) := by decide +kernel
theorem dX11_read_105 : decode cX11_read 105 = .ok (.iadd, 1) := by decide +kernel
theorem dX11_read_106 : decode cX11_read 106 = .ok (.istore_n 2, 1) := by decide +kernel
theorem dX11_read_107 : decode cX11_read 107 = .ok (.goto (-78), 3) := by decide +kernel
theorem dX11_read_110 : decode cX11_read 110 = .ok (.iload_n 2, 1) := by decide +kernel
theorem dX11_read_111 : decode cX11_read 111 = .ok (.ireturn, 1) := by decide +kernel
theorem dX11_isSeen_0 : decode cX11_isSeen 0 = .ok (.aload_n 0, 1) := by decide +kernel
theorem dX11_isSeen_1 : decode cX11_isSeen 1 = .ok (.iload_n 1, 1) := by decide +kernel
theorem dX11_isSeen_2 : decode cX11_isSeen 2 = .ok (.putfield 56, 3) := by decide +kernel
theorem dX11_isSeen_5 : decode cX11_isSeen 5 = .ok (.aload_n 0, 1) := by decide +kernel
theorem dX11_isSeen_6 : decode cX11_isSeen 6 = .ok (.iload_n 2, 1) := by decide +kernel
theorem dX11_isSeen_7 : decode cX11_isSeen 7 = .ok (.putfield 158, 3) := by decide +kernel
theorem dX11_isSeen_10 : decode cX11_isSeen 10 = .ok (.aload_n 0, 1) := by decide +kernel
theorem dX11_isSeen_11 : decode cX11_isSeen 11 = .ok (.invokevirtual 186, 3) := by decide +kernel
theorem dX11_isSeen_14 : decode cX11_isSeen 14 = .ok (.iconst 1, 1) := by decide +kernel
theorem dX11_isSeen_15 : decode cX11_isSeen 15 = .ok (.istore_n 3, 1) := by decide +kernel
theorem dX11_isSeen_16 : decode cX11_isSeen 16 = .ok (.iconst 0, 1) := by decide +kernel
theorem dX11_isSeen_17 : decode cX11_isSeen 17 = .ok (.istore 4, 2) := by decide +kernel
theorem dX11_isSeen_19 : decode cX11_isSeen 19 = .ok (.iload 4, 2) := by decide +kernel
theorem dX11_isSeen_21 : decode cX11_isSeen 21 = .ok (.bipush 30, 2) := by decide +kernel
theorem dX11_isSeen_23 : decode cX11_isSeen 23 = .ok (.if_icmp .ge 100, 3) := by decide +kernel
theorem dX11_isSeen_26 : decode cX11_isSeen 26 = .ok (.aload_n 0, 1) := by decide +kernel
theorem dX11_isSeen_27 : decode cX11_isSeen 27 = .ok (.iload 4, 2) := by decide +kernel
theorem dX11_isSeen_29 : decode cX11_isSeen 29 = .ok (.invokevirtual 189, 3) := by decide +kernel
theorem dX11_isSeen_32 : decode cX11_isSeen 32 = .ok (.iconst 0, 1) := by decide +kernel
theorem dX11_isSeen_33 : decode cX11_isSeen 33 = .ok (.istore 5, 2) := by decide +kernel
theorem dX11_isSeen_35 : decode cX11_isSeen 35 = .ok (.iload 5, 2) := by decide +kernel
theorem dX11_isSeen_37 : decode cX11_isSeen 37 = .ok (.aload_n 0, 1) := by decide +kernel
theorem dX11_isSeen_38 : decode cX11_isSeen 38 = .ok (.getfield 267, 3) := by decide +kernel
theorem dX11_isSeen_41 : decode cX11_isSeen 41 = .ok (.if_icmp .ge 76, 3) := by decide +kernel
theorem dX11_isSeen_44 : decode cX11_isSeen 44 = .ok (.aload_n 0, 1) := by decide +kernel
theorem dX11_isSeen_45 : decode cX11_isSeen 45 = .ok (.getfield 49, 3) := by decide +kernel
theorem dX11_isSeen_48 : decode cX11_isSeen 48 = .ok (.iconst 3, 1) := by decide +kernel
theorem dX11_isSeen_49 : decode cX11_isSeen 49 = .ok (.iload 5, 2) := by decide +kernel
theorem dX11_isSeen_51 : decode cX11_isSeen 51 = .ok (.imul, 1) := by decide +kernel
theorem dX11_isSeen_52 : decode cX11_isSeen 52 = .ok (.iconst 1, 1) := by decide +kernel
theorem dX11_isSeen_53 : decode cX11_isSeen 53 = .ok (.iadd, 1) := by decide +kernel
theorem dX11_isSeen_54 : decode cX11_isSeen 54 = .ok (.iaload, 1) := by decide +kernel
theorem dX11_isSeen_55 : decode cX11_isSeen 55 = .ok (.istore 6, 2) := by decide +kernel
theorem dX11_isSeen_57 : decode cX11_isSeen 57 = .ok (.iload_n 3, 1) := by decide +kernel
theorem dX11_isSeen_58 : decode cX11_isSeen 58 = .ok (.ifCond .eq 51, 3) := by decide +kernel
theorem dX11_isSeen_61 : decode cX11_isSeen 61 = .ok (.aload_n 0, 1) := by decide +kernel
theorem dX11_isSeen_62 : decode cX11_isSeen 62 = .ok (.getfield 49, 3) := by decide +kernel
theorem dX11_isSeen_65 : decode cX11_isSeen 65 = .ok (.iconst 3, 1) := by decide +kernel
theorem dX11_isSeen_66 : decode cX11_isSeen 66 = .ok (.iload 5, 2) := by decide +kernel
theorem dX11_isSeen_68 : decode cX11_isSeen 68 = .ok (.imul, 1) := by decide +kernel
theorem dX11_isSeen_69 : decode cX11_isSeen 69 = .ok (.iaload, 1) := by decide +kernel
theorem dX11_isSeen_70 : decode cX11_isSeen 70 = .ok (.iload 4, 2) := by decide +kernel
theorem dX11_isSeen_72 : decode cX11_isSeen 72 = .ok (.if_icmp .ne 33, 3) := by decide +kernel
theorem dX11_isSeen_75 : decode cX11_isSeen 75 = .ok (.aload_n 0, 1) := by decide +kernel
theorem dX11_isSeen_76 : decode cX11_isSeen 76 = .ok (.iload 6, 2) := by decide +kernel
theorem dX11_isSeen_78 : decode cX11_isSeen 78 = .ok (.invokevirtual 121, 3) := by decide +kernel
theorem dX11_isSeen_81 : decode cX11_isSeen 81 = .ok (.ifCond .eq 28, 3) := by decide +kernel
theorem dX11_isSeen_84 : decode cX11_isSeen 84 = .ok (.aload_n 0, 1) := by decide +kernel
theorem dX11_isSeen_85 : decode cX11_isSeen 85 = .ok (.getfield 37, 3) := by decide +kernel
theorem dX11_isSeen_88 : decode cX11_isSeen 88 = .ok (.iload 6, 2) := by decide +kernel
theorem dX11_isSeen_90 : decode cX11_isSeen 90 = .ok (.iaload, 1) := by decide +kernel
theorem dX11_isSeen_91 : decode cX11_isSeen 91 = .ok (.aload_n 0, 1) := by decide +kernel
theorem dX11_isSeen_92 : decode cX11_isSeen 92 = .ok (.getfield 49, 3) := by decide +kernel
theorem dX11_isSeen_95 : decode cX11_isSeen 95 = .ok (.iconst 3, 1) := by decide +kernel
theorem dX11_isSeen_96 : decode cX11_isSeen 96 = .ok (.iload 5, 2) := by decide +kernel
theorem dX11_isSeen_98 : decode cX11_isSeen 98 = .ok (.imul, 1) := by decide +kernel
theorem dX11_isSeen_99 : decode cX11_isSeen 99 = .ok (.iconst 2, 1) := by decide +kernel
theorem dX11_isSeen_100 : decode cX11_isSeen 100 = .ok (.iadd, 1) := by decide +kernel
theorem dX11_isSeen_101 : decode cX11_isSeen 101 = .ok (.iaload, 1) := by decide +kernel
theorem dX11_isSeen_102 : decode cX11_isSeen 102 = .ok (.if_icmp .ne 7, 3) := by decide +kernel
theorem dX11_isSeen_105 : decode cX11_isSeen 105 = .ok (.iconst 1, 1) := by decide +kernel
theorem dX11_isSeen_106 : decode cX11_isSeen 106 = .ok (.goto 4, 3) := by decide +kernel
theorem dX11_isSeen_109 : decode cX11_isSeen 109 = .ok (.iconst 0, 1) := by decide +kernel
theorem dX11_isSeen_110 : decode cX11_isSeen 110 = .ok (.istore_n 3, 1) := by decide +kernel
theorem dX11_isSeen_111 : decode cX11_isSeen 111 = .ok (.iinc 5 1, 3) := by decide +kernel
theorem dX11_isSeen_114 : decode cX11_isSeen 114 = .ok (.goto (-79), 3) := by decide +kernel
theorem dX11_isSeen_117 : decode cX11_isSeen 117 = .ok (.iinc 4 1, 3) := by decide +kernel
theorem dX11_isSeen_120 : decode cX11_isSeen 120 = .ok (.goto (-101), 3) := by decide +kernel
theorem dX11_isSeen_123 : decode cX11_isSeen 123 = .ok (.aload_n 0, 1) := by decide +kernel
theorem dX11_isSeen_124 : decode cX11_isSeen 124 = .ok (.iconst (-1), 1) := by decide +kernel
theorem dX11_isSeen_125 : decode cX11_isSeen 125 = .ok (.putfield 56, 3) := by decide +kernel
theorem dX11_isSeen_128 : decode cX11_isSeen 128 = .ok (.iload_n 3, 1) := by decide +kernel
theorem dX11_isSeen_129 : decode cX11_isSeen 129 = .ok (.ireturn, 1) := by decide +kernel
theorem dX11_neverNow_0 : decode cX11_neverNow 0 = .ok (.iconst 0, 1) := by decide +kernel
theorem dX11_neverNow_1 : decode cX11_neverNow 1 = .ok (.istore_n 1, 1) := by decide +kernel
theorem dX11_neverNow_2 : decode cX11_neverNow 2 = .ok (.iconst 0, 1) := by decide +kernel
theorem dX11_neverNow_3 : decode cX11_neverNow 3 = .ok (.istore_n 2, 1) := by decide +kernel
theorem dX11_neverNow_4 : decode cX11_neverNow 4 = .ok (.iload_n 2, 1) := by decide +kernel
theorem dX11_neverNow_5 : decode cX11_neverNow 5 = .ok (.aload_n 0, 1) := by decide +kernel
theorem dX11_neverNow_6 : decode cX11_neverNow 6 = .ok (.getfield 139, 3) := by decide +kernel
theorem dX11_neverNow_9 : decode cX11_neverNow 9 = .ok (.if_icmp .ge 28, 3) := by decide +kernel
theorem dX11_neverNow_12 : decode cX11_neverNow 12 = .ok (.iload_n 1, 1) := by decide +kernel
theorem dX11_neverNow_13 : decode cX11_neverNow 13 = .ok (.aload_n 0, 1) := by decide +kernel
theorem dX11_neverNow_14 : decode cX11_neverNow 14 = .ok (.iload_n 2, 1) := by decide +kernel
theorem dX11_neverNow_15 : decode cX11_neverNow 15 = .ok (.iconst 0, 1) := by decide +kernel
theorem dX11_neverNow_16 : decode cX11_neverNow 16 = .ok (.invokevirtual 273, 3) := by decide +kernel
theorem dX11_neverNow_19 : decode cX11_neverNow 19 = .ok (.ifCond .eq 9, 3) := by decide +kernel
theorem dX11_neverNow_22 : decode cX11_neverNow 22 = .ok (.iconst 1, 1) := by decide +kernel
theorem dX11_neverNow_23 : decode cX11_neverNow 23 = .ok (.iload_n 2, 1) := by decide +kernel
theorem dX11_neverNow_24 : decode cX11_neverNow 24 = .ok (.ishl, 1) := by decide +kernel
theorem dX11_neverNow_25 : decode cX11_neverNow 25 = .ok (.goto 4, 3) := by decide +kernel
theorem dX11_neverNow_28 : decode cX11_neverNow 28 = .ok (.iconst 0, 1) := by decide +kernel
theorem dX11_neverNow_29 : decode cX11_neverNow 29 = .ok (.ior, 1) := by decide +kernel
theorem dX11_neverNow_30 : decode cX11_neverNow 30 = .ok (.istore_n 1, 1) := by decide +kernel
theorem dX11_neverNow_31 : decode cX11_neverNow 31 = .ok (.iinc 2 1, 3) := by decide +kernel
theorem dX11_neverNow_34 : decode cX11_neverNow 34 = .ok (.goto (-30), 3) := by decide +kernel
theorem dX11_neverNow_37 : decode cX11_neverNow 37 = .ok (.iload_n 1, 1) := by decide +kernel
theorem dX11_neverNow_38 : decode cX11_neverNow 38 = .ok (.ireturn, 1) := by decide +kernel
theorem dX11_never_0 : decode cX11_never 0 = .ok (.aload_n 0, 1) := by decide +kernel
theorem dX11_never_1 : decode cX11_never 1 = .ok (.invokevirtual 113, 3) := by decide +kernel
theorem dX11_never_4 : decode cX11_never 4 = .ok (.pop, 1) := by decide +kernel
theorem dX11_never_5 : decode cX11_never 5 = .ok (.aload_n 0, 1) := by decide +kernel
theorem dX11_never_6 : decode cX11_never 6 = .ok (.invokevirtual 276, 3) := by decide +kernel
theorem dX11_never_9 : decode cX11_never 9 = .ok (.ireturn, 1) := by decide +kernel
theorem dX11_sizesOf_0 : decode cX11_sizesOf 0 = .ok (.iconst 0, 1) := by decide +kernel
theorem dX11_sizesOf_1 : decode cX11_sizesOf 1 = .ok (.istore_n 2, 1) := by decide +kernel
theorem dX11_sizesOf_2 : decode cX11_sizesOf 2 = .ok (.iconst 1, 1) := by decide +kernel
theorem dX11_sizesOf_3 : decode cX11_sizesOf 3 = .ok (.istore_n 3, 1) := by decide +kernel
theorem dX11_sizesOf_4 : decode cX11_sizesOf 4 = .ok (.iload_n 3, 1) := by decide +kernel
theorem dX11_sizesOf_5 : decode cX11_sizesOf 5 = .ok (.bipush 10, 2) := by decide +kernel
theorem dX11_sizesOf_7 : decode cX11_sizesOf 7 = .ok (.if_icmp .ge 30, 3) := by decide +kernel
theorem dX11_sizesOf_10 : decode cX11_sizesOf 10 = .ok (.iload_n 2, 1) := by decide +kernel
theorem dX11_sizesOf_11 : decode cX11_sizesOf 11 = .ok (.aload_n 0, 1) := by decide +kernel
theorem dX11_sizesOf_12 : decode cX11_sizesOf 12 = .ok (.iload_n 1, 1) := by decide +kernel
theorem dX11_sizesOf_13 : decode cX11_sizesOf 13 = .ok (.iload_n 3, 1) := by decide +kernel
theorem dX11_sizesOf_14 : decode cX11_sizesOf 14 = .ok (.invokevirtual 273, 3) := by decide +kernel
theorem dX11_sizesOf_17 : decode cX11_sizesOf 17 = .ok (.ifCond .eq 11, 3) := by decide +kernel
theorem dX11_sizesOf_20 : decode cX11_sizesOf 20 = .ok (.iconst 1, 1) := by decide +kernel
theorem dX11_sizesOf_21 : decode cX11_sizesOf 21 = .ok (.iload_n 3, 1) := by decide +kernel
theorem dX11_sizesOf_22 : decode cX11_sizesOf 22 = .ok (.iconst 1, 1) := by decide +kernel
theorem dX11_sizesOf_23 : decode cX11_sizesOf 23 = .ok (.isub, 1) := by decide +kernel
theorem dX11_sizesOf_24 : decode cX11_sizesOf 24 = .ok (.ishl, 1) := by decide +kernel
theorem dX11_sizesOf_25 : decode cX11_sizesOf 25 = .ok (.goto 4, 3) := by decide +kernel
theorem dX11_sizesOf_28 : decode cX11_sizesOf 28 = .ok (.iconst 0, 1) := by decide +kernel
theorem dX11_sizesOf_29 : decode cX11_sizesOf 29 = .ok (.ior, 1) := by decide +kernel
theorem dX11_sizesOf_30 : decode cX11_sizesOf 30 = .ok (.istore_n 2, 1) := by decide +kernel
theorem dX11_sizesOf_31 : decode cX11_sizesOf 31 = .ok (.iinc 3 1, 3) := by decide +kernel
theorem dX11_sizesOf_34 : decode cX11_sizesOf 34 = .ok (.goto (-30), 3) := by decide +kernel
theorem dX11_sizesOf_37 : decode cX11_sizesOf 37 = .ok (.iload_n 2, 1) := by decide +kernel
theorem dX11_sizesOf_38 : decode cX11_sizesOf 38 = .ok (.ireturn, 1) := by decide +kernel
theorem dX11_sizes_0 : decode cX11_sizes 0 = .ok (.aload_n 0, 1) := by decide +kernel
theorem dX11_sizes_1 : decode cX11_sizes 1 = .ok (.invokevirtual 113, 3) := by decide +kernel
theorem dX11_sizes_4 : decode cX11_sizes 4 = .ok (.pop, 1) := by decide +kernel
theorem dX11_sizes_5 : decode cX11_sizes 5 = .ok (.iload_n 1, 1) := by decide +kernel
theorem dX11_sizes_6 : decode cX11_sizes 6 = .ok (.i2l, 1) := by decide +kernel
theorem dX11_sizes_7 : decode cX11_sizes 7 = .ok (.lconst 0, 1) := by decide +kernel
theorem dX11_sizes_8 : decode cX11_sizes 8 = .ok (.aload_n 0, 1) := by decide +kernel
theorem dX11_sizes_9 : decode cX11_sizes 9 = .ok (.getfield 139, 3) := by decide +kernel
theorem dX11_sizes_12 : decode cX11_sizes 12 = .ok (.iconst 1, 1) := by decide +kernel
theorem dX11_sizes_13 : decode cX11_sizes 13 = .ok (.isub, 1) := by decide +kernel
theorem dX11_sizes_14 : decode cX11_sizes 14 = .ok (.i2l, 1) := by decide +kernel
theorem dX11_sizes_15 : decode cX11_sizes 15 = .ok (.invokestatic 64, 3) := by decide +kernel
theorem dX11_sizes_18 : decode cX11_sizes 18 = .ok (.ifCond .eq 11, 3) := by decide +kernel
theorem dX11_sizes_21 : decode cX11_sizes 21 = .ok (.aload_n 0, 1) := by decide +kernel
theorem dX11_sizes_22 : decode cX11_sizes 22 = .ok (.iload_n 1, 1) := by decide +kernel
theorem dX11_sizes_23 : decode cX11_sizes 23 = .ok (.invokevirtual 279, 3) := by decide +kernel
theorem dX11_sizes_26 : decode cX11_sizes 26 = .ok (.goto 5, 3) := by decide +kernel
theorem dX11_sizes_29 : decode cX11_sizes 29 = .ok (.bipush (-2), 2) := by decide +kernel
theorem dX11_sizes_31 : decode cX11_sizes 31 = .ok (.ireturn, 1) := by decide +kernel
theorem dX11_townOf_0 : decode cX11_townOf 0 = .ok (.iload_n 0, 1) := by decide +kernel
theorem dX11_townOf_1 : decode cX11_townOf 1 = .ok (.istore_n 3, 1) := by decide +kernel
theorem dX11_townOf_2 : decode cX11_townOf 2 = .ok (.iconst 0, 1) := by decide +kernel
theorem dX11_townOf_3 : decode cX11_townOf 3 = .ok (.istore 4, 2) := by decide +kernel
theorem dX11_townOf_5 : decode cX11_townOf 5 = .ok (.iload 4, 2) := by decide +kernel
theorem dX11_townOf_7 : decode cX11_townOf 7 = .ok (.bipush 100, 2) := by decide +kernel
theorem dX11_townOf_9 : decode cX11_townOf 9 = .ok (.if_icmp .ge 31, 3) := by decide +kernel
theorem dX11_townOf_12 : decode cX11_townOf 12 = .ok (.iload_n 3, 1) := by decide +kernel
theorem dX11_townOf_13 : decode cX11_townOf 13 = .ok (.iload_n 1, 1) := by decide +kernel
theorem dX11_townOf_14 : decode cX11_townOf 14 = .ok (.bipush 10, 2) := by decide +kernel
theorem dX11_townOf_16 : decode cX11_townOf 16 = .ok (.idiv, 1) := by decide +kernel
theorem dX11_townOf_17 : decode cX11_townOf 17 = .ok (.isub, 1) := by decide +kernel
theorem dX11_townOf_18 : decode cX11_townOf 18 = .ok (.istore_n 3, 1) := by decide +kernel
theorem dX11_townOf_19 : decode cX11_townOf 19 = .ok (.iload_n 3, 1) := by decide +kernel
theorem dX11_townOf_20 : decode cX11_townOf 20 = .ok (.ifCond .gt 6, 3) := by decide +kernel
theorem dX11_townOf_23 : decode cX11_townOf 23 = .ok (.iload 4, 2) := by decide +kernel
theorem dX11_townOf_25 : decode cX11_townOf 25 = .ok (.ireturn, 1) := by decide +kernel
theorem dX11_townOf_26 : decode cX11_townOf 26 = .ok (.iload_n 3, 1) := by decide +kernel
theorem dX11_townOf_27 : decode cX11_townOf 27 = .ok (.iload_n 2, 1) := by decide +kernel
theorem dX11_townOf_28 : decode cX11_townOf 28 = .ok (.iadd, 1) := by decide +kernel
theorem dX11_townOf_29 : decode cX11_townOf 29 = .ok (.iload_n 0, 1) := by decide +kernel
theorem dX11_townOf_30 : decode cX11_townOf 30 = .ok (.invokestatic 151, 3) := by decide +kernel
theorem dX11_townOf_33 : decode cX11_townOf 33 = .ok (.istore_n 3, 1) := by decide +kernel
theorem dX11_townOf_34 : decode cX11_townOf 34 = .ok (.iinc 4 1, 3) := by decide +kernel
theorem dX11_townOf_37 : decode cX11_townOf 37 = .ok (.goto (-32), 3) := by decide +kernel
theorem dX11_townOf_40 : decode cX11_townOf 40 = .ok (.iconst (-1), 1) := by decide +kernel
theorem dX11_townOf_41 : decode cX11_townOf 41 = .ok (.ireturn, 1) := by decide +kernel
theorem dX11_town_0 : decode cX11_town 0 = .ok (.iload_n 1, 1) := by decide +kernel
theorem dX11_town_1 : decode cX11_town 1 = .ok (.i2l, 1) := by decide +kernel
theorem dX11_town_2 : decode cX11_town 2 = .ok (.lconst 1, 1) := by decide +kernel
theorem dX11_town_3 : decode cX11_town 3 = .ok (.ldc2_w 282, 3) := by decide +kernel
theorem dX11_town_6 : decode cX11_town 6 = .ok (.invokestatic 64, 3) := by decide +kernel
theorem dX11_town_9 : decode cX11_town 9 = .ok (.ifCond .eq 36, 3) := by decide +kernel
theorem dX11_town_12 : decode cX11_town 12 = .ok (.iload_n 2, 1) := by decide +kernel
theorem dX11_town_13 : decode cX11_town 13 = .ok (.i2l, 1) := by decide +kernel
theorem dX11_town_14 : decode cX11_town 14 = .ok (.lconst 0, 1) := by decide +kernel
theorem dX11_town_15 : decode cX11_town 15 = .ok (.ldc2_w 282, 3) := by decide +kernel
theorem dX11_town_18 : decode cX11_town 18 = .ok (.invokestatic 64, 3) := by decide +kernel
theorem dX11_town_21 : decode cX11_town 21 = .ok (.ifCond .eq 24, 3) := by decide +kernel
theorem dX11_town_24 : decode cX11_town 24 = .ok (.iload_n 3, 1) := by decide +kernel
theorem dX11_town_25 : decode cX11_town 25 = .ok (.i2l, 1) := by decide +kernel
theorem dX11_town_26 : decode cX11_town 26 = .ok (.lconst 0, 1) := by decide +kernel
theorem dX11_town_27 : decode cX11_town 27 = .ok (.ldc2_w 147, 3) := by decide +kernel
theorem dX11_town_30 : decode cX11_town 30 = .ok (.invokestatic 64, 3) := by decide +kernel
theorem dX11_town_33 : decode cX11_town 33 = .ok (.ifCond .eq 12, 3) := by decide +kernel
theorem dX11_town_36 : decode cX11_town 36 = .ok (.iload_n 1, 1) := by decide +kernel
theorem dX11_town_37 : decode cX11_town 37 = .ok (.iload_n 2, 1) := by decide +kernel
theorem dX11_town_38 : decode cX11_town 38 = .ok (.iload_n 3, 1) := by decide +kernel
theorem dX11_town_39 : decode cX11_town 39 = .ok (.invokestatic 284, 3) := by decide +kernel
theorem dX11_town_42 : decode cX11_town 42 = .ok (.goto 5, 3) := by decide +kernel
theorem dX11_town_45 : decode cX11_town 45 = .ok (.bipush (-2), 2) := by decide +kernel
theorem dX11_town_47 : decode cX11_town 47 = .ok (.ireturn, 1) := by decide +kernel
theorem dX11_tollOf_0 : decode cX11_tollOf 0 = .ok (.iconst 0, 1) := by decide +kernel
theorem dX11_tollOf_1 : decode cX11_tollOf 1 = .ok (.istore_n 2, 1) := by decide +kernel
theorem dX11_tollOf_2 : decode cX11_tollOf 2 = .ok (.iconst 1, 1) := by decide +kernel
theorem dX11_tollOf_3 : decode cX11_tollOf 3 = .ok (.istore_n 3, 1) := by decide +kernel
theorem dX11_tollOf_4 : decode cX11_tollOf 4 = .ok (.iload_n 3, 1) := by decide +kernel
theorem dX11_tollOf_5 : decode cX11_tollOf 5 = .ok (.sipush 1000, 3) := by decide +kernel
theorem dX11_tollOf_8 : decode cX11_tollOf 8 = .ok (.if_icmp .ge 25, 3) := by decide +kernel
theorem dX11_tollOf_11 : decode cX11_tollOf 11 = .ok (.iload_n 0, 1) := by decide +kernel
theorem dX11_tollOf_12 : decode cX11_tollOf 12 = .ok (.iload_n 3, 1) := by decide +kernel
theorem dX11_tollOf_13 : decode cX11_tollOf 13 = .ok (.iload_n 1, 1) := by decide +kernel
theorem dX11_tollOf_14 : decode cX11_tollOf 14 = .ok (.invokestatic 284, 3) := by decide +kernel
theorem dX11_tollOf_17 : decode cX11_tollOf 17 = .ok (.iconst (-1), 1) := by decide +kernel
theorem dX11_tollOf_18 : decode cX11_tollOf 18 = .ok (.if_icmp .ne 7, 3) := by decide +kernel
theorem dX11_tollOf_21 : decode cX11_tollOf 21 = .ok (.iload_n 3, 1) := by decide +kernel
theorem dX11_tollOf_22 : decode cX11_tollOf 22 = .ok (.goto 4, 3) := by decide +kernel
theorem dX11_tollOf_25 : decode cX11_tollOf 25 = .ok (.iload_n 2, 1) := by decide +kernel
theorem dX11_tollOf_26 : decode cX11_tollOf 26 = .ok (.istore_n 2, 1) := by decide +kernel
theorem dX11_tollOf_27 : decode cX11_tollOf 27 = .ok (.iinc 3 1, 3) := by decide +kernel
theorem dX11_tollOf_30 : decode cX11_tollOf 30 = .ok (.goto (-26), 3) := by decide +kernel
theorem dX11_tollOf_33 : decode cX11_tollOf 33 = .ok (.iload_n 2, 1) := by decide +kernel
theorem dX11_tollOf_34 : decode cX11_tollOf 34 = .ok (.ireturn, 1) := by decide +kernel
theorem dX11_toll_0 : decode cX11_toll 0 = .ok (.iload_n 1, 1) := by decide +kernel
theorem dX11_toll_1 : decode cX11_toll 1 = .ok (.i2l, 1) := by decide +kernel
theorem dX11_toll_2 : decode cX11_toll 2 = .ok (.lconst 1, 1) := by decide +kernel
theorem dX11_toll_3 : decode cX11_toll 3 = .ok (.ldc2_w 282, 3) := by decide +kernel
theorem dX11_toll_6 : decode cX11_toll 6 = .ok (.invokestatic 64, 3) := by decide +kernel
theorem dX11_toll_9 : decode cX11_toll 9 = .ok (.ifCond .eq 23, 3) := by decide +kernel
theorem dX11_toll_12 : decode cX11_toll 12 = .ok (.iload_n 2, 1) := by decide +kernel
theorem dX11_toll_13 : decode cX11_toll 13 = .ok (.i2l, 1) := by decide +kernel
theorem dX11_toll_14 : decode cX11_toll 14 = .ok (.lconst 0, 1) := by decide +kernel
theorem dX11_toll_15 : decode cX11_toll 15 = .ok (.ldc2_w 147, 3) := by decide +kernel
theorem dX11_toll_18 : decode cX11_toll 18 = .ok (.invokestatic 64, 3) := by decide +kernel
theorem dX11_toll_21 : decode cX11_toll 21 = .ok (.ifCond .eq 11, 3) := by decide +kernel
theorem dX11_toll_24 : decode cX11_toll 24 = .ok (.iload_n 1, 1) := by decide +kernel
theorem dX11_toll_25 : decode cX11_toll 25 = .ok (.iload_n 2, 1) := by decide +kernel
theorem dX11_toll_26 : decode cX11_toll 26 = .ok (.invokestatic 287, 3) := by decide +kernel
theorem dX11_toll_29 : decode cX11_toll 29 = .ok (.goto 5, 3) := by decide +kernel
theorem dX11_toll_32 : decode cX11_toll 32 = .ok (.bipush (-2), 2) := by decide +kernel
theorem dX11_toll_34 : decode cX11_toll 34 = .ok (.ireturn, 1) := by decide +kernel
theorem dX11_shotsOf_0 : decode cX11_shotsOf 0 = .ok (.aload_n 0, 1) := by decide +kernel
theorem dX11_shotsOf_1 : decode cX11_shotsOf 1 = .ok (.iload_n 2, 1) := by decide +kernel
theorem dX11_shotsOf_2 : decode cX11_shotsOf 2 = .ok (.invokevirtual 192, 3) := by decide +kernel
theorem dX11_shotsOf_5 : decode cX11_shotsOf 5 = .ok (.lconst 0, 1) := by decide +kernel
theorem dX11_shotsOf_6 : decode cX11_shotsOf 6 = .ok (.lstore 7, 2) := by decide +kernel
theorem dX11_shotsOf_8 : decode cX11_shotsOf 8 = .ok (.lconst 1, 1) := by decide +kernel
theorem dX11_shotsOf_9 : decode cX11_shotsOf 9 = .ok (.lstore 9, 2) := by decide +kernel
theorem dX11_shotsOf_11 : decode cX11_shotsOf 11 = .ok (.iconst 0, 1) := by decide +kernel
theorem dX11_shotsOf_12 : decode cX11_shotsOf 12 = .ok (.istore 11, 2) := by decide +kernel
theorem dX11_shotsOf_14 : decode cX11_shotsOf 14 = .ok (.iload 11, 2) := by decide +kernel
theorem dX11_shotsOf_16 : decode cX11_shotsOf 16 = .ok (.iload_n 3, 1) := by decide +kernel
theorem dX11_shotsOf_17 : decode cX11_shotsOf 17 = .ok (.if_icmp .ge 17, 3) := by decide +kernel
theorem dX11_shotsOf_20 : decode cX11_shotsOf 20 = .ok (.lload 9, 2) := by decide +kernel
theorem dX11_shotsOf_22 : decode cX11_shotsOf 22 = .ok (.ldc2_w 290, 3) := by decide +kernel
theorem dX11_shotsOf_25 : decode cX11_shotsOf 25 = .ok (.lmul, 1) := by decide +kernel
theorem dX11_shotsOf_26 : decode cX11_shotsOf 26 = .ok (.lstore 9, 2) := by decide +kernel
theorem dX11_shotsOf_28 : decode cX11_shotsOf 28 = .ok (.iinc 11 1, 3) := by decide +kernel
theorem dX11_shotsOf_31 : decode cX11_shotsOf 31 = .ok (.goto (-17), 3) := by decide +kernel
theorem dX11_shotsOf_34 : decode cX11_shotsOf 34 = .ok (.lconst 1, 1) := by decide +kernel
theorem dX11_shotsOf_35 : decode cX11_shotsOf 35 = .ok (.lstore 11, 2) := by decide +kernel
theorem dX11_shotsOf_37 : decode cX11_shotsOf 37 = .ok (.iconst 0, 1) := by decide +kernel
theorem dX11_shotsOf_38 : decode cX11_shotsOf 38 = .ok (.istore 13, 2) := by decide +kernel
theorem dX11_shotsOf_40 : decode cX11_shotsOf 40 = .ok (.iload 13, 2) := by decide +kernel
theorem dX11_shotsOf_42 : decode cX11_shotsOf 42 = .ok (.iload_n 3, 1) := by decide +kernel
theorem dX11_shotsOf_43 : decode cX11_shotsOf 43 = .ok (.if_icmp .gt 100, 3) := by decide +kernel
theorem dX11_shotsOf_46 : decode cX11_shotsOf 46 = .ok (.lload 11, 2) := by decide +kernel
theorem dX11_shotsOf_48 : decode cX11_shotsOf 48 = .ok (.lstore 14, 2) := by decide +kernel
theorem dX11_shotsOf_50 : decode cX11_shotsOf 50 = .ok (.iconst 0, 1) := by decide +kernel
theorem dX11_shotsOf_51 : decode cX11_shotsOf 51 = .ok (.istore 16, 2) := by decide +kernel
theorem dX11_shotsOf_53 : decode cX11_shotsOf 53 = .ok (.iload 16, 2) := by decide +kernel
theorem dX11_shotsOf_55 : decode cX11_shotsOf 55 = .ok (.iload_n 3, 1) := by decide +kernel
theorem dX11_shotsOf_56 : decode cX11_shotsOf 56 = .ok (.if_icmp .ge 31, 3) := by decide +kernel
theorem dX11_shotsOf_59 : decode cX11_shotsOf 59 = .ok (.lload 14, 2) := by decide +kernel
theorem dX11_shotsOf_61 : decode cX11_shotsOf 61 = .ok (.iload 16, 2) := by decide +kernel
theorem dX11_shotsOf_63 : decode cX11_shotsOf 63 = .ok (.iload 13, 2) := by decide +kernel
theorem dX11_shotsOf_65 : decode cX11_shotsOf 65 = .ok (.if_icmp .ge 8, 3) := by decide +kernel
theorem dX11_shotsOf_68 : decode cX11_shotsOf 68 = .ok (.iload_n 1, 1) := by decide +kernel
theorem dX11_shotsOf_69 : decode cX11_shotsOf 69 = .ok (.i2l, 1) := by decide +kernel
theorem dX11_shotsOf_70 : decode cX11_shotsOf 70 = .ok (.goto 8, 3) := by decide +kernel
theorem dX11_shotsOf_73 : decode cX11_shotsOf 73 = .ok (.bipush 16, 2) := by decide +kernel
theorem dX11_shotsOf_75 : decode cX11_shotsOf 75 = .ok (.iload_n 1, 1) := by decide +kernel
theorem dX11_shotsOf_76 : decode cX11_shotsOf 76 = .ok (.isub, 1) := by decide +kernel
theorem dX11_shotsOf_77 : decode cX11_shotsOf 77 = .ok (.i2l, 1) := by decide +kernel
theorem dX11_shotsOf_78 : decode cX11_shotsOf 78 = .ok (.lmul, 1) := by decide +kernel
theorem dX11_shotsOf_79 : decode cX11_shotsOf 79 = .ok (.lstore 14, 2) := by decide +kernel
theorem dX11_shotsOf_81 : decode cX11_shotsOf 81 = .ok (.iinc 16 1, 3) := by decide +kernel
theorem dX11_shotsOf_84 : decode cX11_shotsOf 84 = .ok (.goto (-31), 3) := by decide +kernel
theorem dX11_shotsOf_87 : decode cX11_shotsOf 87 = .ok (.lload 7, 2) := by decide +kernel
theorem dX11_shotsOf_89 : decode cX11_shotsOf 89 = .ok (.aload_n 0, 1) := by decide +kernel
theorem dX11_shotsOf_90 : decode cX11_shotsOf 90 = .ok (.getfield 37, 3) := by decide +kernel
theorem dX11_shotsOf_93 : decode cX11_shotsOf 93 = .ok (.iload 4, 2) := by decide +kernel
theorem dX11_shotsOf_95 : decode cX11_shotsOf 95 = .ok (.iaload, 1) := by decide +kernel
theorem dX11_shotsOf_96 : decode cX11_shotsOf 96 = .ok (.iload 13, 2) := by decide +kernel
theorem dX11_shotsOf_98 : decode cX11_shotsOf 98 = .ok (.iload 5, 2) := by decide +kernel
theorem dX11_shotsOf_100 : decode cX11_shotsOf 100 = .ok (.imul, 1) := by decide +kernel
theorem dX11_shotsOf_101 : decode cX11_shotsOf 101 = .ok (.isub, 1) := by decide +kernel
theorem dX11_shotsOf_102 : decode cX11_shotsOf 102 = .ok (.invokestatic 292, 3) := by decide +kernel
theorem dX11_shotsOf_105 : decode cX11_shotsOf 105 = .ok (.aload_n 0, 1) := by decide +kernel
theorem dX11_shotsOf_106 : decode cX11_shotsOf 106 = .ok (.getfield 52, 3) := by decide +kernel
theorem dX11_shotsOf_109 : decode cX11_shotsOf 109 = .ok (.if_icmp .ge 8, 3) := by decide +kernel
theorem dX11_shotsOf_112 : decode cX11_shotsOf 112 = .ok (.lload 14, 2) := by decide +kernel
theorem dX11_shotsOf_114 : decode cX11_shotsOf 114 = .ok (.goto 4, 3) := by decide +kernel
theorem dX11_shotsOf_117 : decode cX11_shotsOf 117 = .ok (.lconst 0, 1) := by decide +kernel
theorem dX11_shotsOf_118 : decode cX11_shotsOf 118 = .ok (.ladd, 1) := by decide +kernel
theorem dX11_shotsOf_119 : decode cX11_shotsOf 119 = .ok (.lstore 7, 2) := by decide +kernel
theorem dX11_shotsOf_121 : decode cX11_shotsOf 121 = .ok (.lload 11, 2) := by decide +kernel
theorem dX11_shotsOf_123 : decode cX11_shotsOf 123 = .ok (.iload_n 3, 1) := by decide +kernel
theorem dX11_shotsOf_124 : decode cX11_shotsOf 124 = .ok (.iload 13, 2) := by decide +kernel
theorem dX11_shotsOf_126 : decode cX11_shotsOf 126 = .ok (.isub, 1) := by decide +kernel
theorem dX11_shotsOf_127 : decode cX11_shotsOf 127 = .ok (.i2l, 1) := by decide +kernel
theorem dX11_shotsOf_128 : decode cX11_shotsOf 128 = .ok (.lmul, 1) := by decide +kernel
theorem dX11_shotsOf_129 : decode cX11_shotsOf 129 = .ok (.iload 13, 2) := by decide +kernel
theorem dX11_shotsOf_131 : decode cX11_shotsOf 131 = .ok (.iconst 1, 1) := by decide +kernel
theorem dX11_shotsOf_132 : decode cX11_shotsOf 132 = .ok (.iadd, 1) := by decide +kernel
theorem dX11_shotsOf_133 : decode cX11_shotsOf 133 = .ok (.i2l, 1) := by decide +kernel
theorem dX11_shotsOf_134 : decode cX11_shotsOf 134 = .ok (.ldiv, 1) := by decide +kernel
theorem dX11_shotsOf_135 : decode cX11_shotsOf 135 = .ok (.lstore 11, 2) := by decide +kernel
theorem dX11_shotsOf_137 : decode cX11_shotsOf 137 = .ok (.iinc 13 1, 3) := by decide +kernel
theorem dX11_shotsOf_140 : decode cX11_shotsOf 140 = .ok (.goto (-100), 3) := by decide +kernel
theorem dX11_shotsOf_143 : decode cX11_shotsOf 143 = .ok (.lload 7, 2) := by decide +kernel
theorem dX11_shotsOf_145 : decode cX11_shotsOf 145 = .ok (.lload 9, 2) := by decide +kernel
theorem dX11_shotsOf_147 : decode cX11_shotsOf 147 = .ok (.iload 6, 2) := by decide +kernel
theorem dX11_shotsOf_149 : decode cX11_shotsOf 149 = .ok (.invokestatic 295, 3) := by decide +kernel
theorem dX11_shotsOf_152 : decode cX11_shotsOf 152 = .ok (.lreturn, 1) := by decide +kernel
theorem dX11_shots_0 : decode cX11_shots 0 = .ok (.aload_n 0, 1) := by decide +kernel
theorem dX11_shots_1 : decode cX11_shots 1 = .ok (.invokevirtual 113, 3) := by decide +kernel
theorem dX11_shots_4 : decode cX11_shots 4 = .ok (.pop, 1) := by decide +kernel
theorem dX11_shots_5 : decode cX11_shots 5 = .ok (.iload_n 1, 1) := by decide +kernel
theorem dX11_shots_6 : decode cX11_shots 6 = .ok (.i2l, 1) := by decide +kernel
theorem dX11_shots_7 : decode cX11_shots 7 = .ok (.lconst 0, 1) := by decide +kernel
theorem dX11_shots_8 : decode cX11_shots 8 = .ok (.ldc2_w 290, 3) := by decide +kernel
theorem dX11_shots_11 : decode cX11_shots 11 = .ok (.invokestatic 64, 3) := by decide +kernel
theorem dX11_shots_14 : decode cX11_shots 14 = .ok (.ifCond .eq 56, 3) := by decide +kernel
theorem dX11_shots_17 : decode cX11_shots 17 = .ok (.iload_n 2, 1) := by decide +kernel
theorem dX11_shots_18 : decode cX11_shots 18 = .ok (.invokestatic 130, 3) := by decide +kernel
theorem dX11_shots_21 : decode cX11_shots 21 = .ok (.ifCond .eq 49, 3) := by decide +kernel
theorem dX11_shots_24 : decode cX11_shots 24 = .ok (.iload_n 3, 1) := by decide +kernel
theorem dX11_shots_25 : decode cX11_shots 25 = .ok (.i2l, 1) := by decide +kernel
theorem dX11_shots_26 : decode cX11_shots 26 = .ok (.lconst 1, 1) := by decide +kernel
theorem dX11_shots_27 : decode cX11_shots 27 = .ok (.ldc2_w 299, 3) := by decide +kernel
theorem dX11_shots_30 : decode cX11_shots 30 = .ok (.invokestatic 64, 3) := by decide +kernel
theorem dX11_shots_33 : decode cX11_shots 33 = .ok (.ifCond .eq 37, 3) := by decide +kernel
theorem dX11_shots_36 : decode cX11_shots 36 = .ok (.aload_n 0, 1) := by decide +kernel
theorem dX11_shots_37 : decode cX11_shots 37 = .ok (.iload 4, 2) := by decide +kernel
theorem dX11_shots_39 : decode cX11_shots 39 = .ok (.invokevirtual 121, 3) := by decide +kernel
theorem dX11_shots_42 : decode cX11_shots 42 = .ok (.ifCond .eq 28, 3) := by decide +kernel
theorem dX11_shots_45 : decode cX11_shots 45 = .ok (.iload 5, 2) := by decide +kernel
theorem dX11_shots_47 : decode cX11_shots 47 = .ok (.i2l, 1) := by decide +kernel
theorem dX11_shots_48 : decode cX11_shots 48 = .ok (.lconst 1, 1) := by decide +kernel
theorem dX11_shots_49 : decode cX11_shots 49 = .ok (.ldc2_w 103, 3) := by decide +kernel
theorem dX11_shots_52 : decode cX11_shots 52 = .ok (.invokestatic 64, 3) := by decide +kernel
theorem dX11_shots_55 : decode cX11_shots 55 = .ok (.ifCond .eq 15, 3) := by decide +kernel
theorem dX11_shots_58 : decode cX11_shots 58 = .ok (.iload 6, 2) := by decide +kernel
theorem dX11_shots_60 : decode cX11_shots 60 = .ok (.invokestatic 124, 3) := by decide +kernel
theorem dX11_shots_63 : decode cX11_shots 63 = .ok (.ifCond .eq 7, 3) := by decide +kernel
theorem dX11_shots_66 : decode cX11_shots 66 = .ok (.iconst 1, 1) := by decide +kernel
theorem dX11_shots_67 : decode cX11_shots 67 = .ok (.goto 4, 3) := by decide +kernel
theorem dX11_shots_70 : decode cX11_shots 70 = .ok (.iconst 0, 1) := by decide +kernel
theorem dX11_shots_71 : decode cX11_shots 71 = .ok (.istore 7, 2) := by decide +kernel
theorem dX11_shots_73 : decode cX11_shots 73 = .ok (.iload 7, 2) := by decide +kernel
theorem dX11_shots_75 : decode cX11_shots 75 = .ok (.ifCond .eq 19, 3) := by decide +kernel
theorem dX11_shots_78 : decode cX11_shots 78 = .ok (.aload_n 0, 1) := by decide +kernel
theorem dX11_shots_79 : decode cX11_shots 79 = .ok (.iload_n 1, 1) := by decide +kernel
theorem dX11_shots_80 : decode cX11_shots 80 = .ok (.iload_n 2, 1) := by decide +kernel
theorem dX11_shots_81 : decode cX11_shots 81 = .ok (.iload_n 3, 1) := by decide +kernel
theorem dX11_shots_82 : decode cX11_shots 82 = .ok (.iload 4, 2) := by decide +kernel
theorem dX11_shots_84 : decode cX11_shots 84 = .ok (.iload 5, 2) := by decide +kernel
theorem dX11_shots_86 : decode cX11_shots 86 = .ok (.iload 6, 2) := by decide +kernel
theorem dX11_shots_88 : decode cX11_shots 88 = .ok (.invokevirtual 301, 3) := by decide +kernel
theorem dX11_shots_91 : decode cX11_shots 91 = .ok (.goto 8, 3) := by decide +kernel
theorem dX11_shots_94 : decode cX11_shots 94 = .ok (.bipush (-2), 2) := by decide +kernel
theorem dX11_shots_96 : decode cX11_shots 96 = .ok (.invokestatic 305, 3) := by decide +kernel
theorem dX11_shots_99 : decode cX11_shots 99 = .ok (.lreturn, 1) := by decide +kernel
theorem dX11_platesOf_0 : decode cX11_platesOf 0 = .ok (.aload_n 0, 1) := by decide +kernel
theorem dX11_platesOf_1 : decode cX11_platesOf 1 = .ok (.iload_n 1, 1) := by decide +kernel
theorem dX11_platesOf_2 : decode cX11_platesOf 2 = .ok (.putfield 155, 3) := by decide +kernel
theorem dX11_platesOf_5 : decode cX11_platesOf 5 = .ok (.aload_n 0, 1) := by decide +kernel
theorem dX11_platesOf_6 : decode cX11_platesOf 6 = .ok (.iload_n 2, 1) := by decide +kernel
theorem dX11_platesOf_7 : decode cX11_platesOf 7 = .ok (.putfield 59, 3) := by decide +kernel
theorem dX11_platesOf_10 : decode cX11_platesOf 10 = .ok (.aload_n 0, 1) := by decide +kernel
theorem dX11_platesOf_11 : decode cX11_platesOf 11 = .ok (.iload_n 2, 1) := by decide +kernel
theorem dX11_platesOf_12 : decode cX11_platesOf 12 = .ok (.invokevirtual 192, 3) := by decide +kernel
theorem dX11_platesOf_15 : decode cX11_platesOf 15 = .ok (.aload_n 0, 1) := by decide +kernel
theorem dX11_platesOf_16 : decode cX11_platesOf 16 = .ok (.iconst (-1), 1) := by decide +kernel
theorem dX11_platesOf_17 : decode cX11_platesOf 17 = .ok (.putfield 59, 3) := by decide +kernel
theorem dX11_platesOf_20 : decode cX11_platesOf 20 = .ok (.aload_n 0, 1) := by decide +kernel
theorem dX11_platesOf_21 : decode cX11_platesOf 21 = .ok (.getfield 37, 3) := by decide +kernel
theorem dX11_platesOf_24 : decode cX11_platesOf 24 = .ok (.iload_n 3, 1) := by decide +kernel
theorem dX11_platesOf_25 : decode cX11_platesOf 25 = .ok (.iaload, 1) := by decide +kernel
theorem dX11_platesOf_26 : decode cX11_platesOf 26 = .ok (.ireturn, 1) := by decide +kernel
theorem dX11_plates_0 : decode cX11_plates 0 = .ok (.aload_n 0, 1) := by decide +kernel
theorem dX11_plates_1 : decode cX11_plates 1 = .ok (.invokevirtual 113, 3) := by decide +kernel
theorem dX11_plates_4 : decode cX11_plates 4 = .ok (.pop, 1) := by decide +kernel
theorem dX11_plates_5 : decode cX11_plates 5 = .ok (.iload_n 2, 1) := by decide +kernel
theorem dX11_plates_6 : decode cX11_plates 6 = .ok (.invokestatic 130, 3) := by decide +kernel
theorem dX11_plates_9 : decode cX11_plates 9 = .ok (.ifCond .eq 21, 3) := by decide +kernel
theorem dX11_plates_12 : decode cX11_plates 12 = .ok (.aload_n 0, 1) := by decide +kernel
theorem dX11_plates_13 : decode cX11_plates 13 = .ok (.iload_n 3, 1) := by decide +kernel
theorem dX11_plates_14 : decode cX11_plates 14 = .ok (.invokevirtual 121, 3) := by decide +kernel
theorem dX11_plates_17 : decode cX11_plates 17 = .ok (.ifCond .eq 13, 3) := by decide +kernel
theorem dX11_plates_20 : decode cX11_plates 20 = .ok (.aload_n 0, 1) := by decide +kernel
theorem dX11_plates_21 : decode cX11_plates 21 = .ok (.iload_n 1, 1) := by decide +kernel
theorem dX11_plates_22 : decode cX11_plates 22 = .ok (.iload_n 2, 1) := by decide +kernel
theorem dX11_plates_23 : decode cX11_plates 23 = .ok (.iload_n 3, 1) := by decide +kernel
theorem dX11_plates_24 : decode cX11_plates 24 = .ok (.invokevirtual 309, 3) := by decide +kernel
theorem dX11_plates_27 : decode cX11_plates 27 = .ok (.goto 5, 3) := by decide +kernel
theorem dX11_plates_30 : decode cX11_plates 30 = .ok (.bipush (-2), 2) := by decide +kernel
theorem dX11_plates_32 : decode cX11_plates 32 = .ok (.ireturn, 1) := by decide +kernel
theorem dX11_write_0 : decode cX11_write 0 = .ok (.iload_n 1, 1) := by decide +kernel
theorem dX11_write_1 : decode cX11_write 1 = .ok (.invokestatic 130, 3) := by decide +kernel
theorem dX11_write_4 : decode cX11_write 4 = .ok (.ifCond .eq 10, 3) := by decide +kernel
theorem dX11_write_7 : decode cX11_write 7 = .ok (.iload_n 2, 1) := by decide +kernel
theorem dX11_write_8 : decode cX11_write 8 = .ok (.invokestatic 73, 3) := by decide +kernel
theorem dX11_write_11 : decode cX11_write 11 = .ok (.ifCond .ne 6, 3) := by decide +kernel
theorem dX11_write_14 : decode cX11_write 14 = .ok (.bipush (-2), 2) := by decide +kernel
theorem dX11_write_16 : decode cX11_write 16 = .ok (.ireturn, 1) := by decide +kernel
theorem dX11_write_17 : decode cX11_write 17 = .ok (.aload_n 0, 1) := by decide +kernel
theorem dX11_write_18 : decode cX11_write 18 = .ok (.getfield 7, 3) := by decide +kernel
theorem dX11_write_21 : decode cX11_write 21 = .ok (.iload_n 2, 1) := by decide +kernel
theorem dX11_write_22 : decode cX11_write 22 = .ok (.iaload, 1) := by decide +kernel
theorem dX11_write_23 : decode cX11_write 23 = .ok (.ifCond .ge 9, 3) := by decide +kernel
theorem dX11_write_26 : decode cX11_write 26 = .ok (.aload_n 0, 1) := by decide +kernel
theorem dX11_write_27 : decode cX11_write 27 = .ok (.iconst 1, 1) := by decide +kernel
theorem dX11_write_28 : decode cX11_write 28 = .ok (.invokevirtual 79, 3) := by decide +kernel
theorem dX11_write_31 : decode cX11_write 31 = .ok (.ireturn, 1) := by decide +kernel
theorem dX11_write_32 : decode cX11_write 32 = .ok (.aload_n 0, 1) := by decide +kernel
theorem dX11_write_33 : decode cX11_write 33 = .ok (.invokevirtual 113, 3) := by decide +kernel
theorem dX11_write_36 : decode cX11_write 36 = .ok (.pop, 1) := by decide +kernel
theorem dX11_write_37 : decode cX11_write 37 = .ok (.aload_n 0, 1) := by decide +kernel
theorem dX11_write_38 : decode cX11_write 38 = .ok (.iload_n 1, 1) := by decide +kernel
theorem dX11_write_39 : decode cX11_write 39 = .ok (.invokevirtual 192, 3) := by decide +kernel
theorem dX11_write_42 : decode cX11_write 42 = .ok (.aload_n 0, 1) := by decide +kernel
theorem dX11_write_43 : decode cX11_write 43 = .ok (.getfield 13, 3) := by decide +kernel
theorem dX11_write_46 : decode cX11_write 46 = .ok (.iload_n 2, 1) := by decide +kernel
theorem dX11_write_47 : decode cX11_write 47 = .ok (.iaload, 1) := by decide +kernel
theorem dX11_write_48 : decode cX11_write 48 = .ok (.aload_n 0, 1) := by decide +kernel
theorem dX11_write_49 : decode cX11_write 49 = .ok (.getfield 97, 3) := by decide +kernel
theorem dX11_write_52 : decode cX11_write 52 = .ok (.invokestatic 151, 3) := by decide +kernel
theorem dX11_write_55 : decode cX11_write 55 = .ok (.istore_n 3, 1) := by decide +kernel
theorem dX11_write_56 : decode cX11_write 56 = .ok (.iconst 0, 1) := by decide +kernel
theorem dX11_write_57 : decode cX11_write 57 = .ok (.istore 4, 2) := by decide +kernel
theorem dX11_write_59 : decode cX11_write 59 = .ok (.iload 4, 2) := by decide +kernel
theorem dX11_write_61 : decode cX11_write 61 = .ok (.iload_n 3, 1) := by decide +kernel
theorem dX11_write_62 : decode cX11_write 62 = .ok (.if_icmp .ge 37, 3) := by decide +kernel
theorem dX11_write_65 : decode cX11_write 65 = .ok (.aload_n 0, 1) := by decide +kernel
theorem dX11_write_66 : decode cX11_write 66 = .ok (.getfield 16, 3) := by decide +kernel
theorem dX11_write_69 : decode cX11_write 69 = .ok (.bipush 60, 2) := by decide +kernel
theorem dX11_write_71 : decode cX11_write 71 = .ok (.iload_n 2, 1) := by decide +kernel
theorem dX11_write_72 : decode cX11_write 72 = .ok (.imul, 1) := by decide +kernel
theorem dX11_write_73 : decode cX11_write 73 = .ok (.iload 4, 2) := by decide +kernel
theorem dX11_write_75 : decode cX11_write 75 = .ok (.iadd, 1) := by decide +kernel
theorem dX11_write_76 : decode cX11_write 76 = .ok (.aload_n 0, 1) := by decide +kernel
theorem dX11_write_77 : decode cX11_write 77 = .ok (.getfield 7, 3) := by decide +kernel
theorem dX11_write_80 : decode cX11_write 80 = .ok (.iload_n 2, 1) := by decide +kernel
theorem dX11_write_81 : decode cX11_write 81 = .ok (.iaload, 1) := by decide +kernel
theorem dX11_write_82 : decode cX11_write 82 = .ok (.aload_n 0, 1) := by decide +kernel
theorem dX11_write_83 : decode cX11_write 83 = .ok (.getfield 37, 3) := by decide +kernel
theorem dX11_write_86 : decode cX11_write 86 = .ok (.iload 4, 2) := by decide +kernel
theorem dX11_write_88 : decode cX11_write 88 = .ok (.iaload, 1) := by decide +kernel
theorem dX11_write_89 : decode cX11_write 89 = .ok (.invokestatic 87, 3) := by decide +kernel
theorem dX11_write_92 : decode cX11_write 92 = .ok (.iastore, 1) := by decide +kernel
theorem dX11_write_93 : decode cX11_write 93 = .ok (.iinc 4 1, 3) := by decide +kernel
theorem dX11_write_96 : decode cX11_write 96 = .ok (.goto (-37), 3) := by decide +kernel
theorem dX11_write_99 : decode cX11_write 99 = .ok (.iload_n 3, 1) := by decide +kernel
theorem dX11_write_100 : decode cX11_write 100 = .ok (.ireturn, 1) := by decide +kernel
theorem dX11_count_0 : decode cX11_count 0 = .ok (.iconst 0, 1) := by decide +kernel
theorem dX11_count_1 : decode cX11_count 1 = .ok (.istore_n 2, 1) := by decide +kernel
theorem dX11_count_2 : decode cX11_count 2 = .ok (.aload_n 0, 1) := by decide +kernel
theorem dX11_count_3 : decode cX11_count 3 = .ok (.invokevirtual 113, 3) := by decide +kernel
theorem dX11_count_6 : decode cX11_count 6 = .ok (.pop, 1) := by decide +kernel
theorem dX11_count_7 : decode cX11_count 7 = .ok (.iload_n 1, 1) := by decide +kernel
theorem dX11_count_8 : decode cX11_count 8 = .ok (.tableswitch 151 0 8 #[52, 57, 62, 67, 72, 77, 82, 111, 146], 52) := by decide +kernel
theorem dX11_count_60 : decode cX11_count 60 = .ok (.aload_n 0, 1) := by decide +kernel
theorem dX11_count_61 : decode cX11_count 61 = .ok (.getfield 97, 3) := by decide +kernel
theorem dX11_count_64 : decode cX11_count 64 = .ok (.ireturn, 1) := by decide +kernel
theorem dX11_count_65 : decode cX11_count 65 = .ok (.aload_n 0, 1) := by decide +kernel
theorem dX11_count_66 : decode cX11_count 66 = .ok (.getfield 94, 3) := by decide +kernel
theorem dX11_count_69 : decode cX11_count 69 = .ok (.ireturn, 1) := by decide +kernel
theorem dX11_count_70 : decode cX11_count 70 = .ok (.aload_n 0, 1) := by decide +kernel
theorem dX11_count_71 : decode cX11_count 71 = .ok (.getfield 139, 3) := by decide +kernel
theorem dX11_count_74 : decode cX11_count 74 = .ok (.ireturn, 1) := by decide +kernel
theorem dX11_count_75 : decode cX11_count 75 = .ok (.aload_n 0, 1) := by decide +kernel
theorem dX11_count_76 : decode cX11_count 76 = .ok (.getfield 144, 3) := by decide +kernel
theorem dX11_count_79 : decode cX11_count 79 = .ok (.ireturn, 1) := by decide +kernel
theorem dX11_count_80 : decode cX11_count 80 = .ok (.aload_n 0, 1) := by decide +kernel
theorem dX11_count_81 : decode cX11_count 81 = .ok (.getfield 267, 3) := by decide +kernel
theorem dX11_count_84 : decode cX11_count 84 = .ok (.ireturn, 1) := by decide +kernel
theorem dX11_count_85 : decode cX11_count 85 = .ok (.aload_n 0, 1) := by decide +kernel
theorem dX11_count_86 : decode cX11_count 86 = .ok (.getfield 52, 3) := by decide +kernel
theorem dX11_count_89 : decode cX11_count 89 = .ok (.ireturn, 1) := by decide +kernel
theorem dX11_count_90 : decode cX11_count 90 = .ok (.iconst 0, 1) := by decide +kernel
theorem dX11_count_91 : decode cX11_count 91 = .ok (.istore_n 3, 1) := by decide +kernel
theorem dX11_count_92 : decode cX11_count 92 = .ok (.iload_n 3, 1) := by decide +kernel
theorem dX11_count_93 : decode cX11_count 93 = .ok (.aload_n 0, 1) := by decide +kernel
theorem dX11_count_94 : decode cX11_count 94 = .ok (.getfield 97, 3) := by decide +kernel
theorem dX11_count_97 : decode cX11_count 97 = .ok (.if_icmp .ge 20, 3) := by decide +kernel
theorem dX11_count_100 : decode cX11_count 100 = .ok (.iload_n 2, 1) := by decide +kernel
theorem dX11_count_101 : decode cX11_count 101 = .ok (.aload_n 0, 1) := by decide +kernel
theorem dX11_count_102 : decode cX11_count 102 = .ok (.getfield 25, 3) := by decide +kernel
theorem dX11_count_105 : decode cX11_count 105 = .ok (.iconst 2, 1) := by decide +kernel
theorem dX11_count_106 : decode cX11_count 106 = .ok (.iload_n 3, 1) := by decide +kernel
theorem dX11_count_107 : decode cX11_count 107 = .ok (.imul, 1) := by decide +kernel
theorem dX11_count_108 : decode cX11_count 108 = .ok (.iaload, 1) := by decide +kernel
theorem dX11_count_109 : decode cX11_count 109 = .ok (.iadd, 1) := by decide +kernel
theorem dX11_count_110 : decode cX11_count 110 = .ok (.istore_n 2, 1) := by decide +kernel
theorem dX11_count_111 : decode cX11_count 111 = .ok (.iinc 3 1, 3) := by decide +kernel
theorem dX11_count_114 : decode cX11_count 114 = .ok (.goto (-22), 3) := by decide +kernel
theorem dX11_count_117 : decode cX11_count 117 = .ok (.iload_n 2, 1) := by decide +kernel
theorem dX11_count_118 : decode cX11_count 118 = .ok (.ireturn, 1) := by decide +kernel
theorem dX11_count_119 : decode cX11_count 119 = .ok (.iconst 0, 1) := by decide +kernel
theorem dX11_count_120 : decode cX11_count 120 = .ok (.istore_n 3, 1) := by decide +kernel
theorem dX11_count_121 : decode cX11_count 121 = .ok (.iload_n 3, 1) := by decide +kernel
theorem dX11_count_122 : decode cX11_count 122 = .ok (.aload_n 0, 1) := by decide +kernel
theorem dX11_count_123 : decode cX11_count 123 = .ok (.getfield 97, 3) := by decide +kernel
theorem dX11_count_126 : decode cX11_count 126 = .ok (.if_icmp .ge 26, 3) := by decide +kernel
theorem dX11_count_129 : decode cX11_count 129 = .ok (.iload_n 2, 1) := by decide +kernel
theorem dX11_count_130 : decode cX11_count 130 = .ok (.aload_n 0, 1) := by decide +kernel
theorem dX11_count_131 : decode cX11_count 131 = .ok (.iload_n 3, 1) := by decide +kernel
theorem dX11_count_132 : decode cX11_count 132 = .ok (.invokevirtual 127, 3) := by decide +kernel
theorem dX11_count_135 : decode cX11_count 135 = .ok (.iconst (-1), 1) := by decide +kernel
theorem dX11_count_136 : decode cX11_count 136 = .ok (.if_icmp .ne 7, 3) := by decide +kernel
theorem dX11_count_139 : decode cX11_count 139 = .ok (.iconst 0, 1) := by decide +kernel
theorem dX11_count_140 : decode cX11_count 140 = .ok (.goto 4, 3) := by decide +kernel
theorem dX11_count_143 : decode cX11_count 143 = .ok (.iconst 1, 1) := by decide +kernel
theorem dX11_count_144 : decode cX11_count 144 = .ok (.iadd, 1) := by decide +kernel
theorem dX11_count_145 : decode cX11_count 145 = .ok (.istore_n 2, 1) := by decide +kernel
theorem dX11_count_146 : decode cX11_count 146 = .ok (.iinc 3 1, 3) := by decide +kernel
theorem dX11_count_149 : decode cX11_count 149 = .ok (.goto (-28), 3) := by decide +kernel
theorem dX11_count_152 : decode cX11_count 152 = .ok (.iload_n 2, 1) := by decide +kernel
theorem dX11_count_153 : decode cX11_count 153 = .ok (.ireturn, 1) := by decide +kernel
theorem dX11_count_154 : decode cX11_count 154 = .ok (.aload_n 0, 1) := by decide +kernel
theorem dX11_count_155 : decode cX11_count 155 = .ok (.getfield 68, 3) := by decide +kernel
theorem dX11_count_158 : decode cX11_count 158 = .ok (.ireturn, 1) := by decide +kernel
theorem dX11_count_159 : decode cX11_count 159 = .ok (.bipush (-2), 2) := by decide +kernel
theorem dX11_count_161 : decode cX11_count 161 = .ok (.ireturn, 1) := by decide +kernel
theorem dX11_tellsPerson_0 : decode cX11_tellsPerson 0 = .ok (.ldc2_w 312, 3) := by decide +kernel
theorem dX11_tellsPerson_3 : decode cX11_tellsPerson 3 = .ok (.lload_n 1, 1) := by decide +kernel
theorem dX11_tellsPerson_4 : decode cX11_tellsPerson 4 = .ok (.lmul, 1) := by decide +kernel
theorem dX11_tellsPerson_5 : decode cX11_tellsPerson 5 = .ok (.aload_n 0, 1) := by decide +kernel
theorem dX11_tellsPerson_6 : decode cX11_tellsPerson 6 = .ok (.getfield 25, 3) := by decide +kernel
theorem dX11_tellsPerson_9 : decode cX11_tellsPerson 9 = .ok (.iconst 2, 1) := by decide +kernel
theorem dX11_tellsPerson_10 : decode cX11_tellsPerson 10 = .ok (.iload_n 3, 1) := by decide +kernel
theorem dX11_tellsPerson_11 : decode cX11_tellsPerson 11 = .ok (.imul, 1) := by decide +kernel
theorem dX11_tellsPerson_12 : decode cX11_tellsPerson 12 = .ok (.iaload, 1) := by decide +kernel
theorem dX11_tellsPerson_13 : decode cX11_tellsPerson 13 = .ok (.i2l, 1) := by decide +kernel
theorem dX11_tellsPerson_14 : decode cX11_tellsPerson 14 = .ok (.ladd, 1) := by decide +kernel
theorem dX11_tellsPerson_15 : decode cX11_tellsPerson 15 = .ok (.lstore 4, 2) := by decide +kernel
theorem dX11_tellsPerson_17 : decode cX11_tellsPerson 17 = .ok (.ldc2_w 312, 3) := by decide +kernel
theorem dX11_tellsPerson_20 : decode cX11_tellsPerson 20 = .ok (.lload 4, 2) := by decide +kernel
theorem dX11_tellsPerson_22 : decode cX11_tellsPerson 22 = .ok (.lmul, 1) := by decide +kernel
theorem dX11_tellsPerson_23 : decode cX11_tellsPerson 23 = .ok (.aload_n 0, 1) := by decide +kernel
theorem dX11_tellsPerson_24 : decode cX11_tellsPerson 24 = .ok (.iload_n 3, 1) := by decide +kernel
theorem dX11_tellsPerson_25 : decode cX11_tellsPerson 25 = .ok (.invokevirtual 127, 3) := by decide +kernel
theorem dX11_tellsPerson_28 : decode cX11_tellsPerson 28 = .ok (.i2l, 1) := by decide +kernel
theorem dX11_tellsPerson_29 : decode cX11_tellsPerson 29 = .ok (.ladd, 1) := by decide +kernel
theorem dX11_tellsPerson_30 : decode cX11_tellsPerson 30 = .ok (.lstore 4, 2) := by decide +kernel
theorem dX11_tellsPerson_32 : decode cX11_tellsPerson 32 = .ok (.ldc2_w 312, 3) := by decide +kernel
theorem dX11_tellsPerson_35 : decode cX11_tellsPerson 35 = .ok (.lload 4, 2) := by decide +kernel
theorem dX11_tellsPerson_37 : decode cX11_tellsPerson 37 = .ok (.lmul, 1) := by decide +kernel
theorem dX11_tellsPerson_38 : decode cX11_tellsPerson 38 = .ok (.aload_n 0, 1) := by decide +kernel
theorem dX11_tellsPerson_39 : decode cX11_tellsPerson 39 = .ok (.iconst 5, 1) := by decide +kernel
theorem dX11_tellsPerson_40 : decode cX11_tellsPerson 40 = .ok (.iload_n 3, 1) := by decide +kernel
theorem dX11_tellsPerson_41 : decode cX11_tellsPerson 41 = .ok (.invokevirtual 314, 3) := by decide +kernel
theorem dX11_tellsPerson_44 : decode cX11_tellsPerson 44 = .ok (.i2l, 1) := by decide +kernel
theorem dX11_tellsPerson_45 : decode cX11_tellsPerson 45 = .ok (.ladd, 1) := by decide +kernel
theorem dX11_tellsPerson_46 : decode cX11_tellsPerson 46 = .ok (.lstore 4, 2) := by decide +kernel
theorem dX11_tellsPerson_48 : decode cX11_tellsPerson 48 = .ok (.ldc2_w 312, 3) := by decide +kernel
theorem dX11_tellsPerson_51 : decode cX11_tellsPerson 51 = .ok (.lload 4, 2) := by decide +kernel
theorem dX11_tellsPerson_53 : decode cX11_tellsPerson 53 = .ok (.lmul, 1) := by decide +kernel
theorem dX11_tellsPerson_54 : decode cX11_tellsPerson 54 = .ok (.aload_n 0, 1) := by decide +kernel
theorem dX11_tellsPerson_55 : decode cX11_tellsPerson 55 = .ok (.bipush 29, 2) := by decide +kernel
theorem dX11_tellsPerson_57 : decode cX11_tellsPerson 57 = .ok (.iload_n 3, 1) := by decide +kernel
theorem dX11_tellsPerson_58 : decode cX11_tellsPerson 58 = .ok (.invokevirtual 314, 3) := by decide +kernel
theorem dX11_tellsPerson_61 : decode cX11_tellsPerson 61 = .ok (.i2l, 1) := by decide +kernel
theorem dX11_tellsPerson_62 : decode cX11_tellsPerson 62 = .ok (.ladd, 1) := by decide +kernel
theorem dX11_tellsPerson_63 : decode cX11_tellsPerson 63 = .ok (.lstore 4, 2) := by decide +kernel
theorem dX11_tellsPerson_65 : decode cX11_tellsPerson 65 = .ok (.ldc2_w 312, 3) := by decide +kernel
theorem dX11_tellsPerson_68 : decode cX11_tellsPerson 68 = .ok (.lload 4, 2) := by decide +kernel
theorem dX11_tellsPerson_70 : decode cX11_tellsPerson 70 = .ok (.lmul, 1) := by decide +kernel
theorem dX11_tellsPerson_71 : decode cX11_tellsPerson 71 = .ok (.aload_n 0, 1) := by decide +kernel
theorem dX11_tellsPerson_72 : decode cX11_tellsPerson 72 = .ok (.bipush 9, 2) := by decide +kernel
theorem dX11_tellsPerson_74 : decode cX11_tellsPerson 74 = .ok (.iload_n 3, 1) := by decide +kernel
theorem dX11_tellsPerson_75 : decode cX11_tellsPerson 75 = .ok (.bipush 50, 2) := by decide +kernel
theorem dX11_tellsPerson_77 : decode cX11_tellsPerson 77 = .ok (.iconst (-1), 1) := by decide +kernel
theorem dX11_tellsPerson_78 : decode cX11_tellsPerson 78 = .ok (.iconst 0, 1) := by decide +kernel
theorem dX11_tellsPerson_79 : decode cX11_tellsPerson 79 = .ok (.invokevirtual 239, 3) := by decide +kernel
theorem dX11_tellsPerson_82 : decode cX11_tellsPerson 82 = .ok (.i2l, 1) := by decide +kernel
theorem dX11_tellsPerson_83 : decode cX11_tellsPerson 83 = .ok (.ladd, 1) := by decide +kernel
theorem dX11_tellsPerson_84 : decode cX11_tellsPerson 84 = .ok (.lstore 4, 2) := by decide +kernel
theorem dX11_tellsPerson_86 : decode cX11_tellsPerson 86 = .ok (.ldc2_w 312, 3) := by decide +kernel
theorem dX11_tellsPerson_89 : decode cX11_tellsPerson 89 = .ok (.lload 4, 2) := by decide +kernel
theorem dX11_tellsPerson_91 : decode cX11_tellsPerson 91 = .ok (.lmul, 1) := by decide +kernel
theorem dX11_tellsPerson_92 : decode cX11_tellsPerson 92 = .ok (.aload_n 0, 1) := by decide +kernel
theorem dX11_tellsPerson_93 : decode cX11_tellsPerson 93 = .ok (.getfield 226, 3) := by decide +kernel
theorem dX11_tellsPerson_96 : decode cX11_tellsPerson 96 = .ok (.i2l, 1) := by decide +kernel
theorem dX11_tellsPerson_97 : decode cX11_tellsPerson 97 = .ok (.ladd, 1) := by decide +kernel
theorem dX11_tellsPerson_98 : decode cX11_tellsPerson 98 = .ok (.lstore 4, 2) := by decide +kernel
theorem dX11_tellsPerson_100 : decode cX11_tellsPerson 100 = .ok (.ldc2_w 312, 3) := by decide +kernel
theorem dX11_tellsPerson_103 : decode cX11_tellsPerson 103 = .ok (.lload 4, 2) := by decide +kernel
theorem dX11_tellsPerson_105 : decode cX11_tellsPerson 105 = .ok (.lmul, 1) := by decide +kernel
theorem dX11_tellsPerson_106 : decode cX11_tellsPerson 106 = .ok (.aload_n 0, 1) := by decide +kernel
theorem dX11_tellsPerson_107 : decode cX11_tellsPerson 107 = .ok (.bipush 9, 2) := by decide +kernel
theorem dX11_tellsPerson_109 : decode cX11_tellsPerson 109 = .ok (.iload_n 3, 1) := by decide +kernel
theorem dX11_tellsPerson_110 : decode cX11_tellsPerson 110 = .ok (.iconst 3, 1) := by decide +kernel
theorem dX11_tellsPerson_111 : decode cX11_tellsPerson 111 = .ok (.invokevirtual 246, 3) := by decide +kernel
theorem dX11_tellsPerson_114 : decode cX11_tellsPerson 114 = .ok (.i2l, 1) := by decide +kernel
theorem dX11_tellsPerson_115 : decode cX11_tellsPerson 115 = .ok (.ladd, 1) := by decide +kernel
theorem dX11_tellsPerson_116 : decode cX11_tellsPerson 116 = .ok (.lstore 4, 2) := by decide +kernel
theorem dX11_tellsPerson_118 : decode cX11_tellsPerson 118 = .ok (.ldc2_w 312, 3) := by decide +kernel
theorem dX11_tellsPerson_121 : decode cX11_tellsPerson 121 = .ok (.lload 4, 2) := by decide +kernel
theorem dX11_tellsPerson_123 : decode cX11_tellsPerson 123 = .ok (.lmul, 1) := by decide +kernel
theorem dX11_tellsPerson_124 : decode cX11_tellsPerson 124 = .ok (.aload_n 0, 1) := by decide +kernel
theorem dX11_tellsPerson_125 : decode cX11_tellsPerson 125 = .ok (.iconst 5, 1) := by decide +kernel
theorem dX11_tellsPerson_126 : decode cX11_tellsPerson 126 = .ok (.bipush 9, 2) := by decide +kernel
theorem dX11_tellsPerson_128 : decode cX11_tellsPerson 128 = .ok (.iconst 4, 1) := by decide +kernel
theorem dX11_tellsPerson_129 : decode cX11_tellsPerson 129 = .ok (.iload_n 3, 1) := by decide +kernel
theorem dX11_tellsPerson_130 : decode cX11_tellsPerson 130 = .ok (.iconst 4, 1) := by decide +kernel
theorem dX11_tellsPerson_131 : decode cX11_tellsPerson 131 = .ok (.iconst 0, 1) := by decide +kernel
theorem dX11_tellsPerson_132 : decode cX11_tellsPerson 132 = .ok (.invokevirtual 301, 3) := by decide +kernel
theorem dX11_tellsPerson_135 : decode cX11_tellsPerson 135 = .ok (.ladd, 1) := by decide +kernel
theorem dX11_tellsPerson_136 : decode cX11_tellsPerson 136 = .ok (.lstore 4, 2) := by decide +kernel
theorem dX11_tellsPerson_138 : decode cX11_tellsPerson 138 = .ok (.ldc2_w 312, 3) := by decide +kernel
theorem dX11_tellsPerson_141 : decode cX11_tellsPerson 141 = .ok (.lload 4, 2) := by decide +kernel
theorem dX11_tellsPerson_143 : decode cX11_tellsPerson 143 = .ok (.lmul, 1) := by decide +kernel
theorem dX11_tellsPerson_144 : decode cX11_tellsPerson 144 = .ok (.aload_n 0, 1) := by decide +kernel
theorem dX11_tellsPerson_145 : decode cX11_tellsPerson 145 = .ok (.iconst 5, 1) := by decide +kernel
theorem dX11_tellsPerson_146 : decode cX11_tellsPerson 146 = .ok (.bipush 9, 2) := by decide +kernel
theorem dX11_tellsPerson_148 : decode cX11_tellsPerson 148 = .ok (.iconst 4, 1) := by decide +kernel
theorem dX11_tellsPerson_149 : decode cX11_tellsPerson 149 = .ok (.iload_n 3, 1) := by decide +kernel
theorem dX11_tellsPerson_150 : decode cX11_tellsPerson 150 = .ok (.iconst 4, 1) := by decide +kernel
theorem dX11_tellsPerson_151 : decode cX11_tellsPerson 151 = .ok (.iconst 1, 1) := by decide +kernel
theorem dX11_tellsPerson_152 : decode cX11_tellsPerson 152 = .ok (.invokevirtual 301, 3) := by decide +kernel
theorem dX11_tellsPerson_155 : decode cX11_tellsPerson 155 = .ok (.ladd, 1) := by decide +kernel
theorem dX11_tellsPerson_156 : decode cX11_tellsPerson 156 = .ok (.lstore 4, 2) := by decide +kernel
theorem dX11_tellsPerson_158 : decode cX11_tellsPerson 158 = .ok (.ldc2_w 312, 3) := by decide +kernel
theorem dX11_tellsPerson_161 : decode cX11_tellsPerson 161 = .ok (.lload 4, 2) := by decide +kernel
theorem dX11_tellsPerson_163 : decode cX11_tellsPerson 163 = .ok (.lmul, 1) := by decide +kernel
theorem dX11_tellsPerson_164 : decode cX11_tellsPerson 164 = .ok (.aload_n 0, 1) := by decide +kernel
theorem dX11_tellsPerson_165 : decode cX11_tellsPerson 165 = .ok (.bipush 7, 2) := by decide +kernel
theorem dX11_tellsPerson_167 : decode cX11_tellsPerson 167 = .ok (.bipush 20, 2) := by decide +kernel
theorem dX11_tellsPerson_169 : decode cX11_tellsPerson 169 = .ok (.iload_n 3, 1) := by decide +kernel
theorem dX11_tellsPerson_170 : decode cX11_tellsPerson 170 = .ok (.invokevirtual 309, 3) := by decide +kernel
theorem dX11_tellsPerson_173 : decode cX11_tellsPerson 173 = .ok (.i2l, 1) := by decide +kernel
theorem dX11_tellsPerson_174 : decode cX11_tellsPerson 174 = .ok (.ladd, 1) := by decide +kernel
theorem dX11_tellsPerson_175 : decode cX11_tellsPerson 175 = .ok (.lreturn, 1) := by decide +kernel
theorem dX11_digest_0 : decode cX11_digest 0 = .ok (.ldc2_w 316, 3) := by decide +kernel
theorem dX11_digest_3 : decode cX11_digest 3 = .ok (.lstore_n 1, 1) := by decide +kernel
theorem dX11_digest_4 : decode cX11_digest 4 = .ok (.iconst 0, 1) := by decide +kernel
theorem dX11_digest_5 : decode cX11_digest 5 = .ok (.istore_n 3, 1) := by decide +kernel
theorem dX11_digest_6 : decode cX11_digest 6 = .ok (.iload_n 3, 1) := by decide +kernel
theorem dX11_digest_7 : decode cX11_digest 7 = .ok (.bipush 8, 2) := by decide +kernel
theorem dX11_digest_9 : decode cX11_digest 9 = .ok (.if_icmp .ge 22, 3) := by decide +kernel
theorem dX11_digest_12 : decode cX11_digest 12 = .ok (.ldc2_w 312, 3) := by decide +kernel
theorem dX11_digest_15 : decode cX11_digest 15 = .ok (.lload_n 1, 1) := by decide +kernel
theorem dX11_digest_16 : decode cX11_digest 16 = .ok (.lmul, 1) := by decide +kernel
theorem dX11_digest_17 : decode cX11_digest 17 = .ok (.aload_n 0, 1) := by decide +kernel
theorem dX11_digest_18 : decode cX11_digest 18 = .ok (.iload_n 3, 1) := by decide +kernel
theorem dX11_digest_19 : decode cX11_digest 19 = .ok (.invokevirtual 318, 3) := by decide +kernel
theorem dX11_digest_22 : decode cX11_digest 22 = .ok (.i2l, 1) := by decide +kernel
theorem dX11_digest_23 : decode cX11_digest 23 = .ok (.ladd, 1) := by decide +kernel
theorem dX11_digest_24 : decode cX11_digest 24 = .ok (.lstore_n 1, 1) := by decide +kernel
theorem dX11_digest_25 : decode cX11_digest 25 = .ok (.iinc 3 1, 3) := by decide +kernel
theorem dX11_digest_28 : decode cX11_digest 28 = .ok (.goto (-22), 3) := by decide +kernel
theorem dX11_digest_31 : decode cX11_digest 31 = .ok (.ldc2_w 312, 3) := by decide +kernel
theorem dX11_digest_34 : decode cX11_digest 34 = .ok (.lload_n 1, 1) := by decide +kernel
theorem dX11_digest_35 : decode cX11_digest 35 = .ok (.lmul, 1) := by decide +kernel
theorem dX11_digest_36 : decode cX11_digest 36 = .ok (.aload_n 0, 1) := by decide +kernel
theorem dX11_digest_37 : decode cX11_digest 37 = .ok (.invokevirtual 113, 3) := by decide +kernel
theorem dX11_digest_40 : decode cX11_digest 40 = .ok (.i2l, 1) := by decide +kernel
theorem dX11_digest_41 : decode cX11_digest 41 = .ok (.ladd, 1) := by decide +kernel
theorem dX11_digest_42 : decode cX11_digest 42 = .ok (.lstore_n 1, 1) := by decide +kernel
theorem dX11_digest_43 : decode cX11_digest 43 = .ok (.iconst 0, 1) := by decide +kernel
theorem dX11_digest_44 : decode cX11_digest 44 = .ok (.istore_n 3, 1) := by decide +kernel
theorem dX11_digest_45 : decode cX11_digest 45 = .ok (.iload_n 3, 1) := by decide +kernel
theorem dX11_digest_46 : decode cX11_digest 46 = .ok (.aload_n 0, 1) := by decide +kernel
theorem dX11_digest_47 : decode cX11_digest 47 = .ok (.getfield 97, 3) := by decide +kernel
theorem dX11_digest_50 : decode cX11_digest 50 = .ok (.if_icmp .ge 16, 3) := by decide +kernel
theorem dX11_digest_53 : decode cX11_digest 53 = .ok (.aload_n 0, 1) := by decide +kernel
theorem dX11_digest_54 : decode cX11_digest 54 = .ok (.lload_n 1, 1) := by decide +kernel
theorem dX11_digest_55 : decode cX11_digest 55 = .ok (.iload_n 3, 1) := by decide +kernel
theorem dX11_digest_56 : decode cX11_digest 56 = .ok (.invokevirtual 321, 3) := by decide +kernel
theorem dX11_digest_59 : decode cX11_digest 59 = .ok (.lstore_n 1, 1) := by decide +kernel
theorem dX11_digest_60 : decode cX11_digest 60 = .ok (.iinc 3 1, 3) := by decide +kernel
theorem dX11_digest_63 : decode cX11_digest 63 = .ok (.goto (-18), 3) := by decide +kernel
theorem dX11_digest_66 : decode cX11_digest 66 = .ok (.iconst 0, 1) := by decide +kernel
theorem dX11_digest_67 : decode cX11_digest 67 = .ok (.istore_n 3, 1) := by decide +kernel
theorem dX11_digest_68 : decode cX11_digest 68 = .ok (.iload_n 3, 1) := by decide +kernel
theorem dX11_digest_69 : decode cX11_digest 69 = .ok (.aload_n 0, 1) := by decide +kernel
theorem dX11_digest_70 : decode cX11_digest 70 = .ok (.getfield 139, 3) := by decide +kernel
theorem dX11_digest_73 : decode cX11_digest 73 = .ok (.if_icmp .ge 50, 3) := by decide +kernel
theorem dX11_digest_76 : decode cX11_digest 76 = .ok (.ldc2_w 312, 3) := by decide +kernel
theorem dX11_digest_79 : decode cX11_digest 79 = .ok (.lload_n 1, 1) := by decide +kernel
theorem dX11_digest_80 : decode cX11_digest 80 = .ok (.lmul, 1) := by decide +kernel
theorem dX11_digest_81 : decode cX11_digest 81 = .ok (.aload_n 0, 1) := by decide +kernel
theorem dX11_digest_82 : decode cX11_digest 82 = .ok (.iload_n 3, 1) := by decide +kernel
theorem dX11_digest_83 : decode cX11_digest 83 = .ok (.iconst 0, 1) := by decide +kernel
theorem dX11_digest_84 : decode cX11_digest 84 = .ok (.invokevirtual 213, 3) := by decide +kernel
theorem dX11_digest_87 : decode cX11_digest 87 = .ok (.i2l, 1) := by decide +kernel
theorem dX11_digest_88 : decode cX11_digest 88 = .ok (.ladd, 1) := by decide +kernel
theorem dX11_digest_89 : decode cX11_digest 89 = .ok (.lstore_n 1, 1) := by decide +kernel
theorem dX11_digest_90 : decode cX11_digest 90 = .ok (.ldc2_w 312, 3) := by decide +kernel
theorem dX11_digest_93 : decode cX11_digest 93 = .ok (.lload_n 1, 1) := by decide +kernel
theorem dX11_digest_94 : decode cX11_digest 94 = .ok (.lmul, 1) := by decide +kernel
theorem dX11_digest_95 : decode cX11_digest 95 = .ok (.aload_n 0, 1) := by decide +kernel
theorem dX11_digest_96 : decode cX11_digest 96 = .ok (.iload_n 3, 1) := by decide +kernel
theorem dX11_digest_97 : decode cX11_digest 97 = .ok (.iconst 1, 1) := by decide +kernel
theorem dX11_digest_98 : decode cX11_digest 98 = .ok (.invokevirtual 213, 3) := by decide +kernel
theorem dX11_digest_101 : decode cX11_digest 101 = .ok (.i2l, 1) := by decide +kernel
theorem dX11_digest_102 : decode cX11_digest 102 = .ok (.ladd, 1) := by decide +kernel
theorem dX11_digest_103 : decode cX11_digest 103 = .ok (.lstore_n 1, 1) := by decide +kernel
theorem dX11_digest_104 : decode cX11_digest 104 = .ok (.ldc2_w 312, 3) := by decide +kernel
theorem dX11_digest_107 : decode cX11_digest 107 = .ok (.lload_n 1, 1) := by decide +kernel
theorem dX11_digest_108 : decode cX11_digest 108 = .ok (.lmul, 1) := by decide +kernel
theorem dX11_digest_109 : decode cX11_digest 109 = .ok (.aload_n 0, 1) := by decide +kernel
theorem dX11_digest_110 : decode cX11_digest 110 = .ok (.iload_n 3, 1) := by decide +kernel
theorem dX11_digest_111 : decode cX11_digest 111 = .ok (.invokevirtual 279, 3) := by decide +kernel
theorem dX11_digest_114 : decode cX11_digest 114 = .ok (.i2l, 1) := by decide +kernel
theorem dX11_digest_115 : decode cX11_digest 115 = .ok (.ladd, 1) := by decide +kernel
theorem dX11_digest_116 : decode cX11_digest 116 = .ok (.lstore_n 1, 1) := by decide +kernel
theorem dX11_digest_117 : decode cX11_digest 117 = .ok (.iinc 3 1, 3) := by decide +kernel
theorem dX11_digest_120 : decode cX11_digest 120 = .ok (.goto (-52), 3) := by decide +kernel
theorem dX11_digest_123 : decode cX11_digest 123 = .ok (.iconst 0, 1) := by decide +kernel
theorem dX11_digest_124 : decode cX11_digest 124 = .ok (.istore_n 3, 1) := by decide +kernel
theorem dX11_digest_125 : decode cX11_digest 125 = .ok (.iload_n 3, 1) := by decide +kernel
theorem dX11_digest_126 : decode cX11_digest 126 = .ok (.iconst 3, 1) := by decide +kernel
theorem dX11_digest_127 : decode cX11_digest 127 = .ok (.if_icmp .ge 138, 3) := by decide +kernel
theorem dX11_digest_130 : decode cX11_digest 130 = .ok (.iload_n 3, 1) := by decide +kernel
theorem dX11_digest_131 : decode cX11_digest 131 = .ok (.ifCond .ne 7, 3) := by decide +kernel
theorem dX11_digest_134 : decode cX11_digest 134 = .ok (.iconst 0, 1) := by decide +kernel
theorem dX11_digest_135 : decode cX11_digest 135 = .ok (.goto 14, 3) := by decide +kernel
theorem dX11_digest_138 : decode cX11_digest 138 = .ok (.iload_n 3, 1) := by decide +kernel
theorem dX11_digest_139 : decode cX11_digest 139 = .ok (.iconst 1, 1) := by decide +kernel
theorem dX11_digest_140 : decode cX11_digest 140 = .ok (.if_icmp .ne 7, 3) := by decide +kernel
theorem dX11_digest_143 : decode cX11_digest 143 = .ok (.iconst 5, 1) := by decide +kernel
theorem dX11_digest_144 : decode cX11_digest 144 = .ok (.goto 5, 3) := by decide +kernel
theorem dX11_digest_147 : decode cX11_digest 147 = .ok (.bipush 29, 2) := by decide +kernel
theorem dX11_digest_149 : decode cX11_digest 149 = .ok (.istore 4, 2) := by decide +kernel
theorem dX11_digest_151 : decode cX11_digest 151 = .ok (.iconst 0, 1) := by decide +kernel
theorem dX11_digest_152 : decode cX11_digest 152 = .ok (.istore 5, 2) := by decide +kernel
theorem dX11_digest_154 : decode cX11_digest 154 = .ok (.iload 5, 2) := by decide +kernel
theorem dX11_digest_156 : decode cX11_digest 156 = .ok (.iconst 3, 1) := by decide +kernel
theorem dX11_digest_157 : decode cX11_digest 157 = .ok (.if_icmp .ge 25, 3) := by decide +kernel
theorem dX11_digest_160 : decode cX11_digest 160 = .ok (.ldc2_w 312, 3) := by decide +kernel
theorem dX11_digest_163 : decode cX11_digest 163 = .ok (.lload_n 1, 1) := by decide +kernel
theorem dX11_digest_164 : decode cX11_digest 164 = .ok (.lmul, 1) := by decide +kernel
theorem dX11_digest_165 : decode cX11_digest 165 = .ok (.aload_n 0, 1) := by decide +kernel
theorem dX11_digest_166 : decode cX11_digest 166 = .ok (.iload 4, 2) := by decide +kernel
theorem dX11_digest_168 : decode cX11_digest 168 = .ok (.iload 5, 2) := by decide +kernel
theorem dX11_digest_170 : decode cX11_digest 170 = .ok (.invokevirtual 207, 3) := by decide +kernel
theorem dX11_digest_173 : decode cX11_digest 173 = .ok (.i2l, 1) := by decide +kernel
theorem dX11_digest_174 : decode cX11_digest 174 = .ok (.ladd, 1) := by decide +kernel
theorem dX11_digest_175 : decode cX11_digest 175 = .ok (.lstore_n 1, 1) := by decide +kernel
theorem dX11_digest_176 : decode cX11_digest 176 = .ok (.iinc 5 1, 3) := by decide +kernel
theorem dX11_digest_179 : decode cX11_digest 179 = .ok (.goto (-25), 3) := by decide +kernel
theorem dX11_digest_182 : decode cX11_digest 182 = .ok (.iconst 0, 1) := by decide +kernel
theorem dX11_digest_183 : decode cX11_digest 183 = .ok (.istore 5, 2) := by decide +kernel
theorem dX11_digest_185 : decode cX11_digest 185 = .ok (.iload 5, 2) := by decide +kernel
theorem dX11_digest_187 : decode cX11_digest 187 = .ok (.iconst 4, 1) := by decide +kernel
theorem dX11_digest_188 : decode cX11_digest 188 = .ok (.if_icmp .ge 25, 3) := by decide +kernel
theorem dX11_digest_191 : decode cX11_digest 191 = .ok (.ldc2_w 312, 3) := by decide +kernel
theorem dX11_digest_194 : decode cX11_digest 194 = .ok (.lload_n 1, 1) := by decide +kernel
theorem dX11_digest_195 : decode cX11_digest 195 = .ok (.lmul, 1) := by decide +kernel
theorem dX11_digest_196 : decode cX11_digest 196 = .ok (.aload_n 0, 1) := by decide +kernel
theorem dX11_digest_197 : decode cX11_digest 197 = .ok (.iload 4, 2) := by decide +kernel
theorem dX11_digest_199 : decode cX11_digest 199 = .ok (.iload 5, 2) := by decide +kernel
theorem dX11_digest_201 : decode cX11_digest 201 = .ok (.invokevirtual 210, 3) := by decide +kernel
theorem dX11_digest_204 : decode cX11_digest 204 = .ok (.i2l, 1) := by decide +kernel
theorem dX11_digest_205 : decode cX11_digest 205 = .ok (.ladd, 1) := by decide +kernel
theorem dX11_digest_206 : decode cX11_digest 206 = .ok (.lstore_n 1, 1) := by decide +kernel
theorem dX11_digest_207 : decode cX11_digest 207 = .ok (.iinc 5 1, 3) := by decide +kernel
theorem dX11_digest_210 : decode cX11_digest 210 = .ok (.goto (-25), 3) := by decide +kernel
theorem dX11_digest_213 : decode cX11_digest 213 = .ok (.ldc2_w 312, 3) := by decide +kernel
theorem dX11_digest_216 : decode cX11_digest 216 = .ok (.lload_n 1, 1) := by decide +kernel
theorem dX11_digest_217 : decode cX11_digest 217 = .ok (.lmul, 1) := by decide +kernel
theorem dX11_digest_218 : decode cX11_digest 218 = .ok (.aload_n 0, 1) := by decide +kernel
theorem dX11_digest_219 : decode cX11_digest 219 = .ok (.iload 4, 2) := by decide +kernel
theorem dX11_digest_221 : decode cX11_digest 221 = .ok (.iconst 2, 1) := by decide +kernel
theorem dX11_digest_222 : decode cX11_digest 222 = .ok (.invokevirtual 243, 3) := by decide +kernel
theorem dX11_digest_225 : decode cX11_digest 225 = .ok (.i2l, 1) := by decide +kernel
theorem dX11_digest_226 : decode cX11_digest 226 = .ok (.ladd, 1) := by decide +kernel
theorem dX11_digest_227 : decode cX11_digest 227 = .ok (.lstore_n 1, 1) := by decide +kernel
theorem dX11_digest_228 : decode cX11_digest 228 = .ok (.iconst 0, 1) := by decide +kernel
theorem dX11_digest_229 : decode cX11_digest 229 = .ok (.istore 5, 2) := by decide +kernel
theorem dX11_digest_231 : decode cX11_digest 231 = .ok (.iload 5, 2) := by decide +kernel
theorem dX11_digest_233 : decode cX11_digest 233 = .ok (.iconst 3, 1) := by decide +kernel
theorem dX11_digest_234 : decode cX11_digest 234 = .ok (.if_icmp .ge 25, 3) := by decide +kernel
theorem dX11_digest_237 : decode cX11_digest 237 = .ok (.ldc2_w 312, 3) := by decide +kernel
theorem dX11_digest_240 : decode cX11_digest 240 = .ok (.lload_n 1, 1) := by decide +kernel
theorem dX11_digest_241 : decode cX11_digest 241 = .ok (.lmul, 1) := by decide +kernel
theorem dX11_digest_242 : decode cX11_digest 242 = .ok (.aload_n 0, 1) := by decide +kernel
theorem dX11_digest_243 : decode cX11_digest 243 = .ok (.iload 4, 2) := by decide +kernel
theorem dX11_digest_245 : decode cX11_digest 245 = .ok (.iload 5, 2) := by decide +kernel
theorem dX11_digest_247 : decode cX11_digest 247 = .ok (.invokevirtual 264, 3) := by decide +kernel
theorem dX11_digest_250 : decode cX11_digest 250 = .ok (.i2l, 1) := by decide +kernel
theorem dX11_digest_251 : decode cX11_digest 251 = .ok (.ladd, 1) := by decide +kernel
theorem dX11_digest_252 : decode cX11_digest 252 = .ok (.lstore_n 1, 1) := by decide +kernel
theorem dX11_digest_253 : decode cX11_digest 253 = .ok (.iinc 5 1, 3) := by decide +kernel
theorem dX11_digest_256 : decode cX11_digest 256 = .ok (.goto (-25), 3) := by decide +kernel
theorem dX11_digest_259 : decode cX11_digest 259 = .ok (.iinc 3 1, 3) := by decide +kernel
theorem dX11_digest_262 : decode cX11_digest 262 = .ok (.goto (-137), 3) := by decide +kernel
theorem dX11_digest_265 : decode cX11_digest 265 = .ok (.ldc2_w 312, 3) := by decide +kernel
theorem dX11_digest_268 : decode cX11_digest 268 = .ok (.lload_n 1, 1) := by decide +kernel
theorem dX11_digest_269 : decode cX11_digest 269 = .ok (.lmul, 1) := by decide +kernel
theorem dX11_digest_270 : decode cX11_digest 270 = .ok (.aload_n 0, 1) := by decide +kernel
theorem dX11_digest_271 : decode cX11_digest 271 = .ok (.iconst 0, 1) := by decide +kernel
theorem dX11_digest_272 : decode cX11_digest 272 = .ok (.invokevirtual 220, 3) := by decide +kernel
theorem dX11_digest_275 : decode cX11_digest 275 = .ok (.i2l, 1) := by decide +kernel
theorem dX11_digest_276 : decode cX11_digest 276 = .ok (.ladd, 1) := by decide +kernel
theorem dX11_digest_277 : decode cX11_digest 277 = .ok (.lstore_n 1, 1) := by decide +kernel
theorem dX11_digest_278 : decode cX11_digest 278 = .ok (.ldc2_w 312, 3) := by decide +kernel
theorem dX11_digest_281 : decode cX11_digest 281 = .ok (.lload_n 1, 1) := by decide +kernel
theorem dX11_digest_282 : decode cX11_digest 282 = .ok (.lmul, 1) := by decide +kernel
theorem dX11_digest_283 : decode cX11_digest 283 = .ok (.aload_n 0, 1) := by decide +kernel
theorem dX11_digest_284 : decode cX11_digest 284 = .ok (.iconst 1, 1) := by decide +kernel
theorem dX11_digest_285 : decode cX11_digest 285 = .ok (.invokevirtual 220, 3) := by decide +kernel
theorem dX11_digest_288 : decode cX11_digest 288 = .ok (.i2l, 1) := by decide +kernel
theorem dX11_digest_289 : decode cX11_digest 289 = .ok (.ladd, 1) := by decide +kernel
theorem dX11_digest_290 : decode cX11_digest 290 = .ok (.lstore_n 1, 1) := by decide +kernel
theorem dX11_digest_291 : decode cX11_digest 291 = .ok (.ldc2_w 312, 3) := by decide +kernel
theorem dX11_digest_294 : decode cX11_digest 294 = .ok (.lload_n 1, 1) := by decide +kernel
theorem dX11_digest_295 : decode cX11_digest 295 = .ok (.lmul, 1) := by decide +kernel
theorem dX11_digest_296 : decode cX11_digest 296 = .ok (.aload_n 0, 1) := by decide +kernel
theorem dX11_digest_297 : decode cX11_digest 297 = .ok (.invokevirtual 276, 3) := by decide +kernel
theorem dX11_digest_300 : decode cX11_digest 300 = .ok (.i2l, 1) := by decide +kernel
theorem dX11_digest_301 : decode cX11_digest 301 = .ok (.ladd, 1) := by decide +kernel
theorem dX11_digest_302 : decode cX11_digest 302 = .ok (.lstore_n 1, 1) := by decide +kernel
theorem dX11_digest_303 : decode cX11_digest 303 = .ok (.ldc2_w 312, 3) := by decide +kernel
theorem dX11_digest_306 : decode cX11_digest 306 = .ok (.lload_n 1, 1) := by decide +kernel
theorem dX11_digest_307 : decode cX11_digest 307 = .ok (.lmul, 1) := by decide +kernel
theorem dX11_digest_308 : decode cX11_digest 308 = .ok (.bipush 99, 2) := by decide +kernel
theorem dX11_digest_310 : decode cX11_digest 310 = .ok (.bipush 55, 2) := by decide +kernel
theorem dX11_digest_312 : decode cX11_digest 312 = .ok (.iconst 2, 1) := by decide +kernel
theorem dX11_digest_313 : decode cX11_digest 313 = .ok (.invokestatic 284, 3) := by decide +kernel
theorem dX11_digest_316 : decode cX11_digest 316 = .ok (.i2l, 1) := by decide +kernel
theorem dX11_digest_317 : decode cX11_digest 317 = .ok (.ladd, 1) := by decide +kernel
theorem dX11_digest_318 : decode cX11_digest 318 = .ok (.lstore_n 1, 1) := by decide +kernel
theorem dX11_digest_319 : decode cX11_digest 319 = .ok (.ldc2_w 312, 3) := by decide +kernel
theorem dX11_digest_322 : decode cX11_digest 322 = .ok (.lload_n 1, 1) := by decide +kernel
theorem dX11_digest_323 : decode cX11_digest 323 = .ok (.lmul, 1) := by decide +kernel
theorem dX11_digest_324 : decode cX11_digest 324 = .ok (.bipush 99, 2) := by decide +kernel
theorem dX11_digest_326 : decode cX11_digest 326 = .ok (.iconst 2, 1) := by decide +kernel
theorem dX11_digest_327 : decode cX11_digest 327 = .ok (.invokestatic 287, 3) := by decide +kernel
theorem dX11_digest_330 : decode cX11_digest 330 = .ok (.i2l, 1) := by decide +kernel
theorem dX11_digest_331 : decode cX11_digest 331 = .ok (.ladd, 1) := by decide +kernel
theorem dX11_digest_332 : decode cX11_digest 332 = .ok (.lreturn, 1) := by decide +kernel
theorem dJ9_max_7cf53_0 : decode cJ9_max_7cf53 0 = .ok (.iload_n 0, 1) := by decide +kernel
theorem dJ9_max_7cf53_1 : decode cJ9_max_7cf53 1 = .ok (.iload_n 1, 1) := by decide +kernel
theorem dJ9_max_7cf53_2 : decode cJ9_max_7cf53 2 = .ok (.if_icmp .lt 7, 3) := by decide +kernel
theorem dJ9_max_7cf53_5 : decode cJ9_max_7cf53 5 = .ok (.iload_n 0, 1) := by decide +kernel
theorem dJ9_max_7cf53_6 : decode cJ9_max_7cf53 6 = .ok (.goto 4, 3) := by decide +kernel
theorem dJ9_max_7cf53_9 : decode cJ9_max_7cf53 9 = .ok (.iload_n 1, 1) := by decide +kernel
theorem dJ9_max_7cf53_10 : decode cJ9_max_7cf53 10 = .ok (.ireturn, 1) := by decide +kernel
theorem dJ9_min_7cf53_0 : decode cJ9_min_7cf53 0 = .ok (.iload_n 0, 1) := by decide +kernel
theorem dJ9_min_7cf53_1 : decode cJ9_min_7cf53 1 = .ok (.iload_n 1, 1) := by decide +kernel
theorem dJ9_min_7cf53_2 : decode cJ9_min_7cf53 2 = .ok (.if_icmp .gt 7, 3) := by decide +kernel
theorem dJ9_min_7cf53_5 : decode cJ9_min_7cf53 5 = .ok (.iload_n 0, 1) := by decide +kernel
theorem dJ9_min_7cf53_6 : decode cJ9_min_7cf53 6 = .ok (.goto 4, 3) := by decide +kernel
theorem dJ9_min_7cf53_9 : decode cJ9_min_7cf53 9 = .ok (.iload_n 1, 1) := by decide +kernel
theorem dJ9_min_7cf53_10 : decode cJ9_min_7cf53 10 = .ok (.ireturn, 1) := by decide +kernel
theorem dJ7_fill_d0a16_0 : decode cJ7_fill_d0a16 0 = .ok (.iconst 0, 1) := by decide +kernel
theorem dJ7_fill_d0a16_1 : decode cJ7_fill_d0a16 1 = .ok (.istore_n 3, 1) := by decide +kernel
theorem dJ7_fill_d0a16_2 : decode cJ7_fill_d0a16 2 = .ok (.aload_n 0, 1) := by decide +kernel
theorem dJ7_fill_d0a16_3 : decode cJ7_fill_d0a16 3 = .ok (.arraylength, 1) := by decide +kernel
theorem dJ7_fill_d0a16_4 : decode cJ7_fill_d0a16 4 = .ok (.istore 4, 2) := by decide +kernel
theorem dJ7_fill_d0a16_6 : decode cJ7_fill_d0a16 6 = .ok (.iload_n 3, 1) := by decide +kernel
theorem dJ7_fill_d0a16_7 : decode cJ7_fill_d0a16 7 = .ok (.iload 4, 2) := by decide +kernel
theorem dJ7_fill_d0a16_9 : decode cJ7_fill_d0a16 9 = .ok (.if_icmp .ge 13, 3) := by decide +kernel
theorem dJ7_fill_d0a16_12 : decode cJ7_fill_d0a16 12 = .ok (.aload_n 0, 1) := by decide +kernel
theorem dJ7_fill_d0a16_13 : decode cJ7_fill_d0a16 13 = .ok (.iload_n 3, 1) := by decide +kernel
theorem dJ7_fill_d0a16_14 : decode cJ7_fill_d0a16 14 = .ok (.lload_n 1, 1) := by decide +kernel
theorem dJ7_fill_d0a16_15 : decode cJ7_fill_d0a16 15 = .ok (.lastore, 1) := by decide +kernel
theorem dJ7_fill_d0a16_16 : decode cJ7_fill_d0a16 16 = .ok (.iinc 3 1, 3) := by decide +kernel
theorem dJ7_fill_d0a16_19 : decode cJ7_fill_d0a16 19 = .ok (.goto (-13), 3) := by decide +kernel
theorem dJ7_fill_d0a16_22 : decode cJ7_fill_d0a16 22 = .ok (.return_, 1) := by decide +kernel
theorem dJ7_fill_53178_0 : decode cJ7_fill_53178 0 = .ok (.iconst 0, 1) := by decide +kernel
theorem dJ7_fill_53178_1 : decode cJ7_fill_53178 1 = .ok (.istore_n 2, 1) := by decide +kernel
theorem dJ7_fill_53178_2 : decode cJ7_fill_53178 2 = .ok (.aload_n 0, 1) := by decide +kernel
theorem dJ7_fill_53178_3 : decode cJ7_fill_53178 3 = .ok (.arraylength, 1) := by decide +kernel
theorem dJ7_fill_53178_4 : decode cJ7_fill_53178 4 = .ok (.istore_n 3, 1) := by decide +kernel
theorem dJ7_fill_53178_5 : decode cJ7_fill_53178 5 = .ok (.iload_n 2, 1) := by decide +kernel
theorem dJ7_fill_53178_6 : decode cJ7_fill_53178 6 = .ok (.iload_n 3, 1) := by decide +kernel
theorem dJ7_fill_53178_7 : decode cJ7_fill_53178 7 = .ok (.if_icmp .ge 13, 3) := by decide +kernel
theorem dJ7_fill_53178_10 : decode cJ7_fill_53178 10 = .ok (.aload_n 0, 1) := by decide +kernel
theorem dJ7_fill_53178_11 : decode cJ7_fill_53178 11 = .ok (.iload_n 2, 1) := by decide +kernel
theorem dJ7_fill_53178_12 : decode cJ7_fill_53178 12 = .ok (.iload_n 1, 1) := by decide +kernel
theorem dJ7_fill_53178_13 : decode cJ7_fill_53178 13 = .ok (.iastore, 1) := by decide +kernel
theorem dJ7_fill_53178_14 : decode cJ7_fill_53178 14 = .ok (.iinc 2 1, 3) := by decide +kernel
theorem dJ7_fill_53178_17 : decode cJ7_fill_53178 17 = .ok (.goto (-12), 3) := by decide +kernel
theorem dJ7_fill_53178_20 : decode cJ7_fill_53178 20 = .ok (.return_, 1) := by decide +kernel
end
section
/-! THE LOGIC: the world of the whole claim as one table of whole numbers S (cell, place); locals and stack as lists; one rule an instruction -/
-- words that go along with every method
def gt : List Cond := lw_tbl.filter goodWord
theorem gt_in {w : Cond} (h : w ∈ lw_tbl) (hg : goodWord w = true) : w ∈ gt := List.mem_filter.mpr ⟨h, hg⟩
theorem gt_good {w : Cond} (h : w ∈ gt) : (w.onTables && w.keeps) = true ∨ ∃ ty, w = .arrayClass ty := good_of_word (List.mem_filter.mp h).2
abbrev Mth : Type := MethodName × ByteArray × Nat × Option FieldType
def mw (M : Mth) : Cond := .code M.1 M.2.1 M.2.2.1 M.2.2.2
def gws (M : Mth) : List Cond := mw M :: gt
theorem gws_in {M : Mth} {big : List Cond} (hb : ∀ w ∈ gt, w ∈ big) (hM : mw M ∈ gt) : GoodIn big (gws M) := by
  intro w hw
  rcases List.mem_cons.mp hw with rfl | h
  · exact ⟨hb _ hM, gt_good hM⟩
  · exact ⟨hb _ h, gt_good h⟩
-- values
def vI (z : Int) : Value := .int (Int32.ofInt z)
def vL (z : Int) : Value := .long (Int64.ofInt z)
abbrev R32 (z : Int) : Prop := -2147483648 ≤ z ∧ z < 2147483648
abbrev R64 (z : Int) : Prop := -9223372036854775808 ≤ z ∧ z < 9223372036854775808
-- the environment: classes and slots, the array classes of int, long, Sheet, the addresses of the cells
abbrev Ev : Type := va_G × ClassId × ClassId × ClassId × (Nat → Nat)
def rf (Γ : Ev) (i : Nat) : Value := .ref (Γ.2.2.2.2 i)
def tys (Γ : Ev) : List (ClassId × FieldType) := [(Γ.2.1, .int), (Γ.2.2.1, .long), (Γ.2.2.2.1, .object RX8)]
-- the layout of the cells: arrays (kind 0 int, 1 long, 2 references; length; targets), objects (class; fields: a cell, an int, a long)
abbrev Ly : Type := (Nat × Nat × List Nat) ⊕ (Nat × List (Nat ⊕ Bool))
-- locals
def lk : List (Option Value) → Nat → Option Value
  | [], _ => none
  | a :: _, 0 => a
  | _ :: t, n + 1 => lk t n
def st1 : List (Option Value) → Nat → Option Value → List (Option Value)
  | [], 0, v => [v]
  | [], n + 1, v => none :: st1 [] n v
  | _ :: t, 0, v => v :: t
  | a :: t, n + 1, v => a :: st1 t n v
def prs : Nat → List (Option Value) → List (Nat × Value)
  | _, [] => []
  | i, none :: t => prs (i + 1) t
  | i, some v :: t => (i, v) :: prs (i + 1) t
def okS (L : List (Option Value)) : Nat → Bool
  | 0 => true
  | i + 1 => match lk L i with
    | none => true
    | some v => v.category == 1
def ent : List Value → List (Option Value)
  | [] => []
  | v :: vs => if v.category = 2 then some v :: none :: ent vs else some v :: ent vs
theorem lk_st1 (v : Option Value) : ∀ (L : List (Option Value)) (i j : Nat), lk (st1 L i v) j = if j = i then v else lk L j
  | [], 0, 0 => by simp [st1, lk]
  | [], 0, j + 1 => by simp [st1, lk]
  | [], i + 1, 0 => by simp [st1, lk]
  | [], i + 1, j + 1 => by
    have h := lk_st1 v [] i j
    simp only [st1, lk, h, Nat.add_right_cancel_iff]
  | a :: t, 0, 0 => by simp [st1, lk]
  | a :: t, 0, j + 1 => by simp [st1, lk]
  | a :: t, i + 1, 0 => by simp [st1, lk]
  | a :: t, i + 1, j + 1 => by
    have h := lk_st1 v t i j
    simp only [st1, lk, h, Nat.add_right_cancel_iff]
theorem prs_mem : ∀ (L : List (Option Value)) (i : Nat) (q : Nat × Value), q ∈ prs i L ↔ ∃ j, q.1 = i + j ∧ lk L j = some q.2
  | [], i, q => by simp [prs, lk]
  | none :: t, i, q => by
    rw [prs, prs_mem t (i + 1) q]
    constructor
    · rintro ⟨j, h1, h2⟩
      exact ⟨j + 1, by omega, h2⟩
    · rintro ⟨j, h1, h2⟩
      cases j with
      | zero => cases h2
      | succ j => exact ⟨j, by omega, h2⟩
  | some v :: t, i, q => by
    rw [prs, List.mem_cons, prs_mem t (i + 1) q]
    constructor
    · rintro (rfl | ⟨j, h1, h2⟩)
      · exact ⟨0, rfl, rfl⟩
      · exact ⟨j + 1, by omega, h2⟩
    · rintro ⟨j, h1, h2⟩
      cases j with
      | zero =>
        obtain ⟨q1, q2⟩ := q
        simp only [lk, Option.some.injEq] at h2
        exact Or.inl (by rw [h2]; simp only at h1; rw [h1]; rfl)
      | succ j => exact Or.inr ⟨j, by omega, h2⟩
theorem lh_at {ls : Array Slot} {nL : Nat} {L : List (Option Value)} (h : lv_has ls nL (prs 0 L)) {i : Nat} {v : Value} (hk : lk L i = some v) : ls[i]? = some (.val v) :=
  h.2.2 (i, v) ((prs_mem L 0 (i, v)).mpr ⟨i, by simp, hk⟩)
theorem lh_st1 {ls' : Array Slot} {nL : Nat} {L : List (Option Value)} {i : Nat} {v : Value} (hok : okS L i = true)
    (h : lv_has ls' nL ((i, v) :: (prs 0 L).filter (fun q => !(q.1 == i) && !(q.1 + 1 == i && q.2.category == 2)))) : lv_has ls' nL (prs 0 (st1 L i (some v))) := by
  refine ⟨h.1, h.2.1, fun q hq => h.2.2 q ?_⟩
  obtain ⟨j, h1, h2⟩ := (prs_mem _ 0 q).mp hq
  rw [lk_st1] at h2
  by_cases hj : j = i
  · rw [if_pos hj] at h2
    have e : q = (i, v) := by
      obtain ⟨q1, q2⟩ := q
      simp only [Nat.zero_add] at h1
      cases h2
      (try simp only at h1)
      rw [h1, hj]
    rw [e]
    exact List.mem_cons_self
  · rw [if_neg hj] at h2
    refine List.mem_cons_of_mem _ (List.mem_filter.mpr ⟨(prs_mem L 0 q).mpr ⟨j, h1, h2⟩, ?_⟩)
    have hq1 : q.1 = j := by omega
    have n1 : (q.1 == i) = false := by simp [hq1, hj]
    by_cases hi : q.1 + 1 = i
    · subst hi
      rw [hq1] at hok
      simp only [okS, h2] at hok
      have hc : q.2.category = 1 := by simpa using hok
      simp [hc]
    · simp [n1, hi]
theorem lh_st2 {ls' : Array Slot} {nL : Nat} {L : List (Option Value)} {i : Nat} {v : Value} (hok : okS L i = true)
    (h : lv_has ls' nL ((i, v) :: (prs 0 L).filter (fun q => !(q.1 == i) && (!(q.1 == i + 1) && !(q.1 + 1 == i && q.2.category == 2))))) : lv_has ls' nL (prs 0 (st1 (st1 L i (some v)) (i + 1) none)) := by
  refine ⟨h.1, h.2.1, fun q hq => h.2.2 q ?_⟩
  obtain ⟨j, h1, h2⟩ := (prs_mem _ 0 q).mp hq
  rw [lk_st1, lk_st1] at h2
  by_cases hj2 : j = i + 1
  · rw [if_pos hj2] at h2
    cases h2
  rw [if_neg hj2] at h2
  by_cases hj : j = i
  · rw [if_pos hj] at h2
    have e : q = (i, v) := by
      obtain ⟨q1, q2⟩ := q
      simp only [Nat.zero_add] at h1
      cases h2
      (try simp only at h1)
      rw [h1, hj]
    rw [e]
    exact List.mem_cons_self
  · rw [if_neg hj] at h2
    refine List.mem_cons_of_mem _ (List.mem_filter.mpr ⟨(prs_mem L 0 q).mpr ⟨j, h1, h2⟩, ?_⟩)
    have hq1 : q.1 = j := by omega
    have n1 : (q.1 == i) = false := by simp [hq1, hj]
    have n2 : (q.1 == i + 1) = false := by simp [hq1, hj2]
    by_cases hi : q.1 + 1 = i
    · subst hi
      rw [hq1] at hok
      simp only [okS, h2] at hok
      have hc : q.2.category = 1 := by simpa using hok
      simp [hc]
      try omega
    · simp [n1, n2, hi]
theorem ent_args : ∀ (vs : List Value) (i : Nat), prs i (ent vs) = lv_args i vs
  | [], i => rfl
  | v :: vs, i => by
    by_cases hc : v.category = 2
    · simp only [ent, hc, if_true, prs, lv_args]
      rw [ent_args vs (i + 1 + 1)]
    · simp only [ent, hc, if_false, prs, lv_args]
      rw [ent_args vs (i + 1)]
-- a running method: program .. Q, the heap at its start, the cells that are its own, its locals' room, cells and slots made
abbrev Kx : Type := Program × Launch × Env × Room × State × MethodId × Array Value × List Frame × Method × Code × (State → Prop) × Heap × (Nat → Prop) × Nat × Nat × Nat
def GW (κ : Kx) (Γ : Ev) (pc : Nat) (L : List (Option Value)) (st : List Value) (ws : va_W) : Prop := match κ with
  | (p, l, e, R, s, m, args, below, meth, c, Q, H0, A, nL, c1, c2) => ∀ (H : Heap) (locs : List Loc) (ls : Array Slot), va_P Γ.1 cls ws H → va_D A ws → va_S A H0 H locs → lv_has ls nL (prs 0 L) → W p l e R s m args below meth c H locs c1 c2 Q (F0 m pc ls st)
def Ok (κ : Kx) (Γ : Ev) (own : String) (cc : ByteArray) (nL d : Nat) : Prop := match κ with
  | (p, l, e, R, s, m, args, below, meth, c, Q, H0, A, n0, c1, c2) => p.tables.exec = Jvm.exec ∧ c.code = cc ∧ c.maxLocals = nL ∧ s.vm.findClass own = some m.cls ∧ (∀ w ∈ gt, w.before args s = true) ∧ va_K Γ.1 cls (tys Γ) s ∧ (∀ q, H0.size ≤ q → A q) ∧ meth.locks = false ∧ d ≤ R.frames ∧ 41 * d ≤ R.locals ∧ c1 ≤ R.cells ∧ c2 ≤ R.slots ∧ n0 = nL
-- numbers
theorem i32_rt {z : Int} (h : R32 z) : (Int32.ofInt z).toInt = z := by
  rw [Int32.toInt_ofInt]
  exact Int.bmod_eq_of_le (by have := h.1; simp [Int32.size]; omega) (by have := h.2; simp [Int32.size]; omega)
theorem i64_rt {z : Int} (h : R64 z) : (Int64.ofInt z).toInt = z := by
  rw [Int64.toInt_ofInt]
  exact Int.bmod_eq_of_le (by have := h.1; simp [Int64.size]; omega) (by have := h.2; simp [Int64.size]; omega)
theorem i32_lt {x y : Int} (hx : R32 x) (hy : R32 y) : Int32.ofInt x < Int32.ofInt y ↔ x < y := by
  rw [Int32.lt_iff_toInt_lt, i32_rt hx, i32_rt hy]
theorem i32_le {x y : Int} (hx : R32 x) (hy : R32 y) : Int32.ofInt x ≤ Int32.ofInt y ↔ x ≤ y := by
  rw [Int32.le_iff_toInt_le, i32_rt hx, i32_rt hy]
theorem i32_eq {x y : Int} (hx : R32 x) (hy : R32 y) : Int32.ofInt x = Int32.ofInt y ↔ x = y := by
  constructor
  · intro h
    have h2 := congrArg Int32.toInt h
    rwa [i32_rt hx, i32_rt hy] at h2
  · intro h; rw [h]
theorem i64_lt {x y : Int} (hx : R64 x) (hy : R64 y) : Int64.ofInt x < Int64.ofInt y ↔ x < y := by
  rw [Int64.lt_iff_toInt_lt, i64_rt hx, i64_rt hy]
theorem i64_eq {x y : Int} (hx : R64 x) (hy : R64 y) : Int64.ofInt x = Int64.ofInt y ↔ x = y := by
  constructor
  · intro h
    have h2 := congrArg Int64.toInt h
    rwa [i64_rt hx, i64_rt hy] at h2
  · intro h; rw [h]
theorem i32_self (x : Int32) : Int32.ofInt x.toInt = x := by simp
theorem i32_rng (x : Int32) : R32 x.toInt := ⟨Int32.le_toInt x, Int32.toInt_lt x⟩
theorem i32_cl {z : Int} (h : R32 z) (h0 : 0 ≤ z) : (Int32.ofInt z).toNatClampNeg = z.toNat := by
  show (Int32.ofInt z).toInt.toNat = z.toNat
  rw [i32_rt h]
theorem i32_in {z : Int} {n : Nat} (h0 : 0 ≤ z) (h1 : z < (n : Int)) (hr : R32 z) : vp_in (Int32.ofInt z) n := by
  rintro (h | h)
  · have h2 := (i32_lt hr (show R32 0 by decide)).mp h
    omega
  · rw [i32_cl hr h0] at h
    omega
end
section
section RULES
variable {κ : Kx} {Γ : Ev} {own : String} {cc : ByteArray} {nL d pc : Nat} {L : List (Option Value)} {st : List Value} {ws : va_W}
theorem G_iadd (hk : Ok κ Γ own cc nL d) {x y : Int} (hd : decode cc pc = .ok (.iadd, 1)) (k : GW κ Γ (pc + 1) L (vI (x + y) :: st) ws) : GW κ Γ pc L (vI y :: vI x :: st) ws := by
  obtain ⟨p, l, e, R, s, m, args, below, meth, c, Q, H0, A, n0, c1, c2⟩ := κ
  have hn0 : n0 = nL := hk.2.2.2.2.2.2.2.2.2.2.2.2
  subst hn0
  intro H locs ls hP hD hS hl
  refine lv_iadd hk.1 hk.2.1 hd ?_
  have h := k H locs ls hP hD hS hl
  rw [vI, Int32.ofInt_add] at h
  exact h
theorem G_isub (hk : Ok κ Γ own cc nL d) {x y : Int} (hd : decode cc pc = .ok (.isub, 1)) (k : GW κ Γ (pc + 1) L (vI (x - y) :: st) ws) : GW κ Γ pc L (vI y :: vI x :: st) ws := by
  obtain ⟨p, l, e, R, s, m, args, below, meth, c, Q, H0, A, n0, c1, c2⟩ := κ
  have hn0 : n0 = nL := hk.2.2.2.2.2.2.2.2.2.2.2.2
  subst hn0
  intro H locs ls hP hD hS hl
  refine lv_isub hk.1 hk.2.1 hd ?_
  have h := k H locs ls hP hD hS hl
  rw [vI, Int32.ofInt_sub] at h
  exact h
theorem G_imul (hk : Ok κ Γ own cc nL d) {x y : Int} (hd : decode cc pc = .ok (.imul, 1)) (k : GW κ Γ (pc + 1) L (vI (x * y) :: st) ws) : GW κ Γ pc L (vI y :: vI x :: st) ws := by
  obtain ⟨p, l, e, R, s, m, args, below, meth, c, Q, H0, A, n0, c1, c2⟩ := κ
  have hn0 : n0 = nL := hk.2.2.2.2.2.2.2.2.2.2.2.2
  subst hn0
  intro H locs ls hP hD hS hl
  refine lv_imul hk.1 hk.2.1 hd ?_
  have h := k H locs ls hP hD hS hl
  rw [vI, Int32.ofInt_mul] at h
  exact h
theorem G_ladd (hk : Ok κ Γ own cc nL d) {x y : Int} (hd : decode cc pc = .ok (.ladd, 1)) (k : GW κ Γ (pc + 1) L (vL (x + y) :: st) ws) : GW κ Γ pc L (vL y :: vL x :: st) ws := by
  obtain ⟨p, l, e, R, s, m, args, below, meth, c, Q, H0, A, n0, c1, c2⟩ := κ
  have hn0 : n0 = nL := hk.2.2.2.2.2.2.2.2.2.2.2.2
  subst hn0
  intro H locs ls hP hD hS hl
  refine lv_ladd hk.1 hk.2.1 hd ?_
  have h := k H locs ls hP hD hS hl
  rw [vL, Int64.ofInt_add] at h
  exact h
theorem G_lsub (hk : Ok κ Γ own cc nL d) {x y : Int} (hd : decode cc pc = .ok (.lsub, 1)) (k : GW κ Γ (pc + 1) L (vL (x - y) :: st) ws) : GW κ Γ pc L (vL y :: vL x :: st) ws := by
  obtain ⟨p, l, e, R, s, m, args, below, meth, c, Q, H0, A, n0, c1, c2⟩ := κ
  have hn0 : n0 = nL := hk.2.2.2.2.2.2.2.2.2.2.2.2
  subst hn0
  intro H locs ls hP hD hS hl
  refine lv_lsub hk.1 hk.2.1 hd ?_
  have h := k H locs ls hP hD hS hl
  rw [vL, Int64.ofInt_sub] at h
  exact h
theorem G_lmul (hk : Ok κ Γ own cc nL d) {x y : Int} (hd : decode cc pc = .ok (.lmul, 1)) (k : GW κ Γ (pc + 1) L (vL (x * y) :: st) ws) : GW κ Γ pc L (vL y :: vL x :: st) ws := by
  obtain ⟨p, l, e, R, s, m, args, below, meth, c, Q, H0, A, n0, c1, c2⟩ := κ
  have hn0 : n0 = nL := hk.2.2.2.2.2.2.2.2.2.2.2.2
  subst hn0
  intro H locs ls hP hD hS hl
  refine lv_lmul hk.1 hk.2.1 hd ?_
  have h := k H locs ls hP hD hS hl
  rw [vL, Int64.ofInt_mul] at h
  exact h
theorem G_iconst (hk : Ok κ Γ own cc nL d) {n : Int} (hd : decode cc pc = .ok (.iconst n, 1)) (k : GW κ Γ (pc + 1) L (vI n :: st) ws) : GW κ Γ pc L (st) ws := by
  obtain ⟨p, l, e, R, s, m, args, below, meth, c, Q, H0, A, n0, c1, c2⟩ := κ
  have hn0 : n0 = nL := hk.2.2.2.2.2.2.2.2.2.2.2.2
  subst hn0
  intro H locs ls hP hD hS hl
  exact lv_iconst hk.1 hk.2.1 hd rfl (k H locs ls hP hD hS hl)
theorem G_bipush (hk : Ok κ Γ own cc nL d) {n : Int} (hd : decode cc pc = .ok (.bipush n, 2)) (hn : (Int8.ofInt n).toInt32 = Int32.ofInt n) (k : GW κ Γ (pc + 2) L (vI n :: st) ws) : GW κ Γ pc L (st) ws := by
  obtain ⟨p, l, e, R, s, m, args, below, meth, c, Q, H0, A, n0, c1, c2⟩ := κ
  have hn0 : n0 = nL := hk.2.2.2.2.2.2.2.2.2.2.2.2
  subst hn0
  intro H locs ls hP hD hS hl
  exact lv_bipush hk.1 hk.2.1 hd hn (k H locs ls hP hD hS hl)
theorem G_sipush (hk : Ok κ Γ own cc nL d) {n : Int} (hd : decode cc pc = .ok (.sipush n, 3)) (hn : (Int16.ofInt n).toInt32 = Int32.ofInt n) (k : GW κ Γ (pc + 3) L (vI n :: st) ws) : GW κ Γ pc L (st) ws := by
  obtain ⟨p, l, e, R, s, m, args, below, meth, c, Q, H0, A, n0, c1, c2⟩ := κ
  have hn0 : n0 = nL := hk.2.2.2.2.2.2.2.2.2.2.2.2
  subst hn0
  intro H locs ls hP hD hS hl
  exact lv_sipush hk.1 hk.2.1 hd hn (k H locs ls hP hD hS hl)
theorem G_lconst (hk : Ok κ Γ own cc nL d) {n : Fin 2} {z : Int} (hd : decode cc pc = .ok (.lconst n, 1)) (hz : Int64.ofNat (n : Nat) = Int64.ofInt z) (k : GW κ Γ (pc + 1) L (vL z :: st) ws) : GW κ Γ pc L (st) ws := by
  obtain ⟨p, l, e, R, s, m, args, below, meth, c, Q, H0, A, n0, c1, c2⟩ := κ
  have hn0 : n0 = nL := hk.2.2.2.2.2.2.2.2.2.2.2.2
  subst hn0
  intro H locs ls hP hD hS hl
  exact lv_lconst hk.1 hk.2.1 hd hz (k H locs ls hP hD hS hl)
theorem G_ldc (hk : Ok κ Γ own cc nL d) {i : Nat} {v : Int32} {z : Int} (hd : decode cc pc = .ok (.ldc i, 2)) (hw : Cond.constant own i v ∈ gt) (hz : v = Int32.ofInt z) (k : GW κ Γ (pc + 2) L (vI z :: st) ws) : GW κ Γ pc L (st) ws := by
  obtain ⟨p, l, e, R, s, m, args, below, meth, c, Q, H0, A, n0, c1, c2⟩ := κ
  have hn0 : n0 = nL := hk.2.2.2.2.2.2.2.2.2.2.2.2
  subst hn0
  intro H locs ls hP hD hS hl
  have h := k H locs ls hP hD hS hl
  rw [vI, ← hz] at h
  exact W.ldc hk.1 hk.2.1 hk.2.2.2.1 (hk.2.2.2.2.1 _ hw) rfl hd h
theorem G_ldcw (hk : Ok κ Γ own cc nL d) {i : Nat} {v : Int32} {z : Int} (hd : decode cc pc = .ok (.ldc_w i, 3)) (hw : Cond.constant own i v ∈ gt) (hz : v = Int32.ofInt z) (k : GW κ Γ (pc + 3) L (vI z :: st) ws) : GW κ Γ pc L (st) ws := by
  obtain ⟨p, l, e, R, s, m, args, below, meth, c, Q, H0, A, n0, c1, c2⟩ := κ
  have hn0 : n0 = nL := hk.2.2.2.2.2.2.2.2.2.2.2.2
  subst hn0
  intro H locs ls hP hD hS hl
  have h := k H locs ls hP hD hS hl
  rw [vI, ← hz] at h
  exact lv_ldcw hk.1 hk.2.1 hk.2.2.2.1 (hk.2.2.2.2.1 _ hw) hd h
theorem G_ldc2 (hk : Ok κ Γ own cc nL d) {i : Nat} {v : Int64} {z : Int} (hd : decode cc pc = .ok (.ldc2_w i, 3)) (hw : Cond.constantLong own i v ∈ gt) (hz : v = Int64.ofInt z) (k : GW κ Γ (pc + 3) L (vL z :: st) ws) : GW κ Γ pc L (st) ws := by
  obtain ⟨p, l, e, R, s, m, args, below, meth, c, Q, H0, A, n0, c1, c2⟩ := κ
  have hn0 : n0 = nL := hk.2.2.2.2.2.2.2.2.2.2.2.2
  subst hn0
  intro H locs ls hP hD hS hl
  have h := k H locs ls hP hD hS hl
  rw [vL, ← hz] at h
  exact W.ldc2 hk.1 hk.2.1 hk.2.2.2.1 (hk.2.2.2.2.1 _ hw) rfl hd h
theorem G_iload_n (hk : Ok κ Γ own cc nL d) {n : Fin 4} {x : Int} (hd : decode cc pc = .ok (.iload_n n, 1)) (hL : lk L n = some (vI x)) (k : GW κ Γ (pc + 1) L (vI x :: st) ws) : GW κ Γ pc L (st) ws := by
  obtain ⟨p, l, e, R, s, m, args, below, meth, c, Q, H0, A, n0, c1, c2⟩ := κ
  have hn0 : n0 = nL := hk.2.2.2.2.2.2.2.2.2.2.2.2
  subst hn0
  intro H locs ls hP hD hS hl
  exact lv_iload_n hk.1 hk.2.1 hd rfl (lh_at hl hL) (k H locs ls hP hD hS hl)
theorem G_iload (hk : Ok κ Γ own cc nL d) {i : Nat} {x : Int} (hd : decode cc pc = .ok (.iload i, 2)) (hL : lk L i = some (vI x)) (k : GW κ Γ (pc + 2) L (vI x :: st) ws) : GW κ Γ pc L (st) ws := by
  obtain ⟨p, l, e, R, s, m, args, below, meth, c, Q, H0, A, n0, c1, c2⟩ := κ
  have hn0 : n0 = nL := hk.2.2.2.2.2.2.2.2.2.2.2.2
  subst hn0
  intro H locs ls hP hD hS hl
  exact lv_iload hk.1 hk.2.1 hd (lh_at hl hL) (k H locs ls hP hD hS hl)
theorem G_lload_n (hk : Ok κ Γ own cc nL d) {n : Fin 4} {x : Int} (hd : decode cc pc = .ok (.lload_n n, 1)) (hL : lk L n = some (vL x)) (k : GW κ Γ (pc + 1) L (vL x :: st) ws) : GW κ Γ pc L (st) ws := by
  obtain ⟨p, l, e, R, s, m, args, below, meth, c, Q, H0, A, n0, c1, c2⟩ := κ
  have hn0 : n0 = nL := hk.2.2.2.2.2.2.2.2.2.2.2.2
  subst hn0
  intro H locs ls hP hD hS hl
  exact lv_lload_n hk.1 hk.2.1 hd rfl (lh_at hl hL) (k H locs ls hP hD hS hl)
theorem G_lload (hk : Ok κ Γ own cc nL d) {i : Nat} {x : Int} (hd : decode cc pc = .ok (.lload i, 2)) (hL : lk L i = some (vL x)) (k : GW κ Γ (pc + 2) L (vL x :: st) ws) : GW κ Γ pc L (st) ws := by
  obtain ⟨p, l, e, R, s, m, args, below, meth, c, Q, H0, A, n0, c1, c2⟩ := κ
  have hn0 : n0 = nL := hk.2.2.2.2.2.2.2.2.2.2.2.2
  subst hn0
  intro H locs ls hP hD hS hl
  exact lv_lload hk.1 hk.2.1 hd (lh_at hl hL) (k H locs ls hP hD hS hl)
theorem G_aload_n (hk : Ok κ Γ own cc nL d) {n : Fin 4} {x : Nat} (hd : decode cc pc = .ok (.aload_n n, 1)) (hL : lk L n = some (.ref x)) (k : GW κ Γ (pc + 1) L (.ref x :: st) ws) : GW κ Γ pc L (st) ws := by
  obtain ⟨p, l, e, R, s, m, args, below, meth, c, Q, H0, A, n0, c1, c2⟩ := κ
  have hn0 : n0 = nL := hk.2.2.2.2.2.2.2.2.2.2.2.2
  subst hn0
  intro H locs ls hP hD hS hl
  exact lv_aload_n hk.1 hk.2.1 hd rfl (lh_at hl hL) (k H locs ls hP hD hS hl)
theorem G_aload (hk : Ok κ Γ own cc nL d) {i : Nat} {x : Nat} (hd : decode cc pc = .ok (.aload i, 2)) (hL : lk L i = some (.ref x)) (k : GW κ Γ (pc + 2) L (.ref x :: st) ws) : GW κ Γ pc L (st) ws := by
  obtain ⟨p, l, e, R, s, m, args, below, meth, c, Q, H0, A, n0, c1, c2⟩ := κ
  have hn0 : n0 = nL := hk.2.2.2.2.2.2.2.2.2.2.2.2
  subst hn0
  intro H locs ls hP hD hS hl
  exact lv_aload hk.1 hk.2.1 hd (lh_at hl hL) (k H locs ls hP hD hS hl)
theorem G_rload_n (hk : Ok κ Γ own cc nL d) {n : Fin 4} {x : Nat} (hd : decode cc pc = .ok (.aload_n n, 1)) (hL : lk L n = some (rf Γ x)) (k : GW κ Γ (pc + 1) L (rf Γ x :: st) ws) : GW κ Γ pc L (st) ws := by
  obtain ⟨p, l, e, R, s, m, args, below, meth, c, Q, H0, A, n0, c1, c2⟩ := κ
  have hn0 : n0 = nL := hk.2.2.2.2.2.2.2.2.2.2.2.2
  subst hn0
  intro H locs ls hP hD hS hl
  exact lv_aload_n hk.1 hk.2.1 hd rfl (lh_at hl hL) (k H locs ls hP hD hS hl)
theorem G_rload (hk : Ok κ Γ own cc nL d) {i : Nat} {x : Nat} (hd : decode cc pc = .ok (.aload i, 2)) (hL : lk L i = some (rf Γ x)) (k : GW κ Γ (pc + 2) L (rf Γ x :: st) ws) : GW κ Γ pc L (st) ws := by
  obtain ⟨p, l, e, R, s, m, args, below, meth, c, Q, H0, A, n0, c1, c2⟩ := κ
  have hn0 : n0 = nL := hk.2.2.2.2.2.2.2.2.2.2.2.2
  subst hn0
  intro H locs ls hP hD hS hl
  exact lv_aload hk.1 hk.2.1 hd (lh_at hl hL) (k H locs ls hP hD hS hl)
theorem G_istore_n (hk : Ok κ Γ own cc nL d) {n : Fin 4} {x : Int} (hd : decode cc pc = .ok (.istore_n n, 1)) (hn : (n : Nat) < nL) (ho : okS L n = true) (k : GW κ Γ (pc + 1) (st1 L n (some (vI x))) st ws) : GW κ Γ pc L (vI x :: st) ws := by
  obtain ⟨p, l, e, R, s, m, args, below, meth, c, Q, H0, A, n0, c1, c2⟩ := κ
  have hn0 : n0 = nL := hk.2.2.2.2.2.2.2.2.2.2.2.2
  subst hn0
  intro H locs ls hP hD hS hl
  exact lv_istore_n hk.1 hk.2.1 hd rfl hl hn rfl (fun ls2 hl2 => k H locs ls2 hP hD hS (lh_st1 ho hl2))
theorem G_istore (hk : Ok κ Γ own cc nL d) {i : Nat} {x : Int} (hd : decode cc pc = .ok (.istore i, 2)) (hn : i < nL) (ho : okS L i = true) (k : GW κ Γ (pc + 2) (st1 L i (some (vI x))) st ws) : GW κ Γ pc L (vI x :: st) ws := by
  obtain ⟨p, l, e, R, s, m, args, below, meth, c, Q, H0, A, n0, c1, c2⟩ := κ
  have hn0 : n0 = nL := hk.2.2.2.2.2.2.2.2.2.2.2.2
  subst hn0
  intro H locs ls hP hD hS hl
  exact lv_istore hk.1 hk.2.1 hd hl hn rfl (fun ls2 hl2 => k H locs ls2 hP hD hS (lh_st1 ho hl2))
theorem G_astore_n (hk : Ok κ Γ own cc nL d) {n : Fin 4} {x : Nat} (hd : decode cc pc = .ok (.astore_n n, 1)) (hn : (n : Nat) < nL) (ho : okS L n = true) (k : GW κ Γ (pc + 1) (st1 L n (some (rf Γ x))) st ws) : GW κ Γ pc L (rf Γ x :: st) ws := by
  obtain ⟨p, l, e, R, s, m, args, below, meth, c, Q, H0, A, n0, c1, c2⟩ := κ
  have hn0 : n0 = nL := hk.2.2.2.2.2.2.2.2.2.2.2.2
  subst hn0
  intro H locs ls hP hD hS hl
  exact lv_astore_n hk.1 hk.2.1 hd rfl hl hn rfl (fun ls2 hl2 => k H locs ls2 hP hD hS (lh_st1 ho hl2))
theorem G_astore (hk : Ok κ Γ own cc nL d) {i : Nat} {x : Nat} (hd : decode cc pc = .ok (.astore i, 2)) (hn : i < nL) (ho : okS L i = true) (k : GW κ Γ (pc + 2) (st1 L i (some (rf Γ x))) st ws) : GW κ Γ pc L (rf Γ x :: st) ws := by
  obtain ⟨p, l, e, R, s, m, args, below, meth, c, Q, H0, A, n0, c1, c2⟩ := κ
  have hn0 : n0 = nL := hk.2.2.2.2.2.2.2.2.2.2.2.2
  subst hn0
  intro H locs ls hP hD hS hl
  exact lv_astore hk.1 hk.2.1 hd hl hn rfl (fun ls2 hl2 => k H locs ls2 hP hD hS (lh_st1 ho hl2))
theorem G_lstore_n (hk : Ok κ Γ own cc nL d) {n : Fin 4} {x : Int} (hd : decode cc pc = .ok (.lstore_n n, 1)) (hn : (n : Nat) + 1 < nL) (ho : okS L n = true) (k : GW κ Γ (pc + 1) (st1 (st1 L n (some (vL x))) (n + 1) none) st ws) : GW κ Γ pc L (vL x :: st) ws := by
  obtain ⟨p, l, e, R, s, m, args, below, meth, c, Q, H0, A, n0, c1, c2⟩ := κ
  have hn0 : n0 = nL := hk.2.2.2.2.2.2.2.2.2.2.2.2
  subst hn0
  intro H locs ls hP hD hS hl
  exact lv_lstore_n hk.1 hk.2.1 hd rfl hl hn rfl (fun ls2 hl2 => k H locs ls2 hP hD hS (lh_st2 ho hl2))
theorem G_lstore (hk : Ok κ Γ own cc nL d) {i : Nat} {x : Int} (hd : decode cc pc = .ok (.lstore i, 2)) (hn : i + 1 < nL) (ho : okS L i = true) (k : GW κ Γ (pc + 2) (st1 (st1 L i (some (vL x))) (i + 1) none) st ws) : GW κ Γ pc L (vL x :: st) ws := by
  obtain ⟨p, l, e, R, s, m, args, below, meth, c, Q, H0, A, n0, c1, c2⟩ := κ
  have hn0 : n0 = nL := hk.2.2.2.2.2.2.2.2.2.2.2.2
  subst hn0
  intro H locs ls hP hD hS hl
  exact lv_lstore hk.1 hk.2.1 hd hl hn rfl (fun ls2 hl2 => k H locs ls2 hP hD hS (lh_st2 ho hl2))
theorem G_iinc (hk : Ok κ Γ own cc nL d) {i : Nat} {n x : Int} (hd : decode cc pc = .ok (.iinc i n, 3)) (hL : lk L i = some (vI x)) (hn : i < nL) (ho : okS L i = true) (k : GW κ Γ (pc + 3) (st1 L i (some (vI (x + n)))) st ws) : GW κ Γ pc L (st) ws := by
  obtain ⟨p, l, e, R, s, m, args, below, meth, c, Q, H0, A, n0, c1, c2⟩ := κ
  have hn0 : n0 = nL := hk.2.2.2.2.2.2.2.2.2.2.2.2
  subst hn0
  intro H locs ls hP hD hS hl
  obtain ⟨kk, hkk⟩ := List.getElem?_of_mem ((prs_mem L 0 (i, vI x)).mpr ⟨i, by simp, hL⟩)
  refine lv_iinc (v := Int32.ofInt (x + n)) hk.1 hk.2.1 hd hl hkk (Int32.ofInt_add x n).symm hn rfl (fun ls2 hl2 => k H locs ls2 hP hD hS (lh_st1 ho hl2))
theorem G_dup (hk : Ok κ Γ own cc nL d) {v : Value} (hd : decode cc pc = .ok (.dup, 1)) (hc : v.category = 1) (k : GW κ Γ (pc + 1) L (v :: v :: st) ws) : GW κ Γ pc L (v :: st) ws := by
  obtain ⟨p, l, e, R, s, m, args, below, meth, c, Q, H0, A, n0, c1, c2⟩ := κ
  have hn0 : n0 = nL := hk.2.2.2.2.2.2.2.2.2.2.2.2
  subst hn0
  intro H locs ls hP hD hS hl
  exact lv_dup hk.1 hk.2.1 hd hc (k H locs ls hP hD hS hl)
theorem G_pop (hk : Ok κ Γ own cc nL d) {v : Value} (hd : decode cc pc = .ok (.pop, 1)) (hc : v.category = 1) (k : GW κ Γ (pc + 1) L st ws) : GW κ Γ pc L (v :: st) ws := by
  obtain ⟨p, l, e, R, s, m, args, below, meth, c, Q, H0, A, n0, c1, c2⟩ := κ
  have hn0 : n0 = nL := hk.2.2.2.2.2.2.2.2.2.2.2.2
  subst hn0
  intro H locs ls hP hD hS hl
  exact lv_pop hk.1 hk.2.1 hd hc (k H locs ls hP hD hS hl)
theorem G_dup2 (hk : Ok κ Γ own cc nL d) {v w : Value} (hd : decode cc pc = .ok (.dup2, 1)) (hc : v.category = 1) (hc2 : w.category = 1) (k : GW κ Γ (pc + 1) L (v :: w :: v :: w :: st) ws) : GW κ Γ pc L (v :: w :: st) ws := by
  obtain ⟨p, l, e, R, s, m, args, below, meth, c, Q, H0, A, n0, c1, c2⟩ := κ
  have hn0 : n0 = nL := hk.2.2.2.2.2.2.2.2.2.2.2.2
  subst hn0
  intro H locs ls hP hD hS hl
  exact lv_dup2_11 hk.1 hk.2.1 hd hc hc2 (k H locs ls hP hD hS hl)
theorem G_icmp_eq (hk : Ok κ Γ own cc nL d) {x y : Int} {off : Int} {tgt : Nat} (hd : decode cc pc = .ok (.if_icmp .eq off, 3)) (ht : (pc : Int) + off = (tgt : Int)) (hx : R32 x) (hy : R32 y) (kt : x = y → GW κ Γ tgt L st ws) (kf : ¬ x = y → GW κ Γ (pc + 3) L st ws) : GW κ Γ pc L (vI y :: vI x :: st) ws := by
  obtain ⟨p, l, e, R, s, m, args, below, meth, c, Q, H0, A, n0, c1, c2⟩ := κ
  have hn0 : n0 = nL := hk.2.2.2.2.2.2.2.2.2.2.2.2
  subst hn0
  intro H locs ls hP hD hS hl
  exact lv_icmp_eq hk.1 hk.2.1 hd ht (fun h => kt ((i32_eq hx hy).mp h) H locs ls hP hD hS hl) (fun h => kf (fun q => h ((i32_eq hx hy).mpr q)) H locs ls hP hD hS hl)
theorem G_if_eq (hk : Ok κ Γ own cc nL d) {x : Int} {off : Int} {tgt : Nat} (hd : decode cc pc = .ok (.ifCond .eq off, 3)) (ht : (pc : Int) + off = (tgt : Int)) (hx : R32 x) (kt : x = 0 → GW κ Γ tgt L st ws) (kf : ¬ x = 0 → GW κ Γ (pc + 3) L st ws) : GW κ Γ pc L (vI x :: st) ws := by
  obtain ⟨p, l, e, R, s, m, args, below, meth, c, Q, H0, A, n0, c1, c2⟩ := κ
  have hn0 : n0 = nL := hk.2.2.2.2.2.2.2.2.2.2.2.2
  subst hn0
  intro H locs ls hP hD hS hl
  have hy : R32 0 := by decide
  exact lv_if_eq hk.1 hk.2.1 hd ht (fun h => kt ((i32_eq hx hy).mp h) H locs ls hP hD hS hl) (fun h => kf (fun q => h ((i32_eq hx hy).mpr q)) H locs ls hP hD hS hl)
theorem G_icmp_ne (hk : Ok κ Γ own cc nL d) {x y : Int} {off : Int} {tgt : Nat} (hd : decode cc pc = .ok (.if_icmp .ne off, 3)) (ht : (pc : Int) + off = (tgt : Int)) (hx : R32 x) (hy : R32 y) (kt : ¬ x = y → GW κ Γ tgt L st ws) (kf : x = y → GW κ Γ (pc + 3) L st ws) : GW κ Γ pc L (vI y :: vI x :: st) ws := by
  obtain ⟨p, l, e, R, s, m, args, below, meth, c, Q, H0, A, n0, c1, c2⟩ := κ
  have hn0 : n0 = nL := hk.2.2.2.2.2.2.2.2.2.2.2.2
  subst hn0
  intro H locs ls hP hD hS hl
  exact lv_icmp_ne hk.1 hk.2.1 hd ht (fun h => kt (fun q => h ((i32_eq hx hy).mpr q)) H locs ls hP hD hS hl) (fun h => kf ((i32_eq hx hy).mp h) H locs ls hP hD hS hl)
theorem G_if_ne (hk : Ok κ Γ own cc nL d) {x : Int} {off : Int} {tgt : Nat} (hd : decode cc pc = .ok (.ifCond .ne off, 3)) (ht : (pc : Int) + off = (tgt : Int)) (hx : R32 x) (kt : ¬ x = 0 → GW κ Γ tgt L st ws) (kf : x = 0 → GW κ Γ (pc + 3) L st ws) : GW κ Γ pc L (vI x :: st) ws := by
  obtain ⟨p, l, e, R, s, m, args, below, meth, c, Q, H0, A, n0, c1, c2⟩ := κ
  have hn0 : n0 = nL := hk.2.2.2.2.2.2.2.2.2.2.2.2
  subst hn0
  intro H locs ls hP hD hS hl
  have hy : R32 0 := by decide
  exact lv_if_ne hk.1 hk.2.1 hd ht (fun h => kt (fun q => h ((i32_eq hx hy).mpr q)) H locs ls hP hD hS hl) (fun h => kf ((i32_eq hx hy).mp h) H locs ls hP hD hS hl)
theorem G_icmp_lt (hk : Ok κ Γ own cc nL d) {x y : Int} {off : Int} {tgt : Nat} (hd : decode cc pc = .ok (.if_icmp .lt off, 3)) (ht : (pc : Int) + off = (tgt : Int)) (hx : R32 x) (hy : R32 y) (kt : x < y → GW κ Γ tgt L st ws) (kf : ¬ x < y → GW κ Γ (pc + 3) L st ws) : GW κ Γ pc L (vI y :: vI x :: st) ws := by
  obtain ⟨p, l, e, R, s, m, args, below, meth, c, Q, H0, A, n0, c1, c2⟩ := κ
  have hn0 : n0 = nL := hk.2.2.2.2.2.2.2.2.2.2.2.2
  subst hn0
  intro H locs ls hP hD hS hl
  exact lv_icmp_lt hk.1 hk.2.1 hd ht (fun h => kt ((i32_lt hx hy).mp h) H locs ls hP hD hS hl) (fun h => kf (fun q => h ((i32_lt hx hy).mpr q)) H locs ls hP hD hS hl)
theorem G_if_lt (hk : Ok κ Γ own cc nL d) {x : Int} {off : Int} {tgt : Nat} (hd : decode cc pc = .ok (.ifCond .lt off, 3)) (ht : (pc : Int) + off = (tgt : Int)) (hx : R32 x) (kt : x < 0 → GW κ Γ tgt L st ws) (kf : ¬ x < 0 → GW κ Γ (pc + 3) L st ws) : GW κ Γ pc L (vI x :: st) ws := by
  obtain ⟨p, l, e, R, s, m, args, below, meth, c, Q, H0, A, n0, c1, c2⟩ := κ
  have hn0 : n0 = nL := hk.2.2.2.2.2.2.2.2.2.2.2.2
  subst hn0
  intro H locs ls hP hD hS hl
  have hy : R32 0 := by decide
  exact lv_if_lt hk.1 hk.2.1 hd ht (fun h => kt ((i32_lt hx hy).mp h) H locs ls hP hD hS hl) (fun h => kf (fun q => h ((i32_lt hx hy).mpr q)) H locs ls hP hD hS hl)
theorem G_icmp_ge (hk : Ok κ Γ own cc nL d) {x y : Int} {off : Int} {tgt : Nat} (hd : decode cc pc = .ok (.if_icmp .ge off, 3)) (ht : (pc : Int) + off = (tgt : Int)) (hx : R32 x) (hy : R32 y) (kt : y ≤ x → GW κ Γ tgt L st ws) (kf : ¬ y ≤ x → GW κ Γ (pc + 3) L st ws) : GW κ Γ pc L (vI y :: vI x :: st) ws := by
  obtain ⟨p, l, e, R, s, m, args, below, meth, c, Q, H0, A, n0, c1, c2⟩ := κ
  have hn0 : n0 = nL := hk.2.2.2.2.2.2.2.2.2.2.2.2
  subst hn0
  intro H locs ls hP hD hS hl
  exact lv_icmp_ge hk.1 hk.2.1 hd ht (fun h => kt ((i32_le hy hx).mp h) H locs ls hP hD hS hl) (fun h => kf (fun q => h ((i32_le hy hx).mpr q)) H locs ls hP hD hS hl)
theorem G_if_ge (hk : Ok κ Γ own cc nL d) {x : Int} {off : Int} {tgt : Nat} (hd : decode cc pc = .ok (.ifCond .ge off, 3)) (ht : (pc : Int) + off = (tgt : Int)) (hx : R32 x) (kt : 0 ≤ x → GW κ Γ tgt L st ws) (kf : ¬ 0 ≤ x → GW κ Γ (pc + 3) L st ws) : GW κ Γ pc L (vI x :: st) ws := by
  obtain ⟨p, l, e, R, s, m, args, below, meth, c, Q, H0, A, n0, c1, c2⟩ := κ
  have hn0 : n0 = nL := hk.2.2.2.2.2.2.2.2.2.2.2.2
  subst hn0
  intro H locs ls hP hD hS hl
  have hy : R32 0 := by decide
  exact lv_if_ge hk.1 hk.2.1 hd ht (fun h => kt ((i32_le hy hx).mp h) H locs ls hP hD hS hl) (fun h => kf (fun q => h ((i32_le hy hx).mpr q)) H locs ls hP hD hS hl)
theorem G_icmp_gt (hk : Ok κ Γ own cc nL d) {x y : Int} {off : Int} {tgt : Nat} (hd : decode cc pc = .ok (.if_icmp .gt off, 3)) (ht : (pc : Int) + off = (tgt : Int)) (hx : R32 x) (hy : R32 y) (kt : y < x → GW κ Γ tgt L st ws) (kf : ¬ y < x → GW κ Γ (pc + 3) L st ws) : GW κ Γ pc L (vI y :: vI x :: st) ws := by
  obtain ⟨p, l, e, R, s, m, args, below, meth, c, Q, H0, A, n0, c1, c2⟩ := κ
  have hn0 : n0 = nL := hk.2.2.2.2.2.2.2.2.2.2.2.2
  subst hn0
  intro H locs ls hP hD hS hl
  exact lv_icmp_gt hk.1 hk.2.1 hd ht (fun h => kt ((i32_lt hy hx).mp h) H locs ls hP hD hS hl) (fun h => kf (fun q => h ((i32_lt hy hx).mpr q)) H locs ls hP hD hS hl)
theorem G_if_gt (hk : Ok κ Γ own cc nL d) {x : Int} {off : Int} {tgt : Nat} (hd : decode cc pc = .ok (.ifCond .gt off, 3)) (ht : (pc : Int) + off = (tgt : Int)) (hx : R32 x) (kt : 0 < x → GW κ Γ tgt L st ws) (kf : ¬ 0 < x → GW κ Γ (pc + 3) L st ws) : GW κ Γ pc L (vI x :: st) ws := by
  obtain ⟨p, l, e, R, s, m, args, below, meth, c, Q, H0, A, n0, c1, c2⟩ := κ
  have hn0 : n0 = nL := hk.2.2.2.2.2.2.2.2.2.2.2.2
  subst hn0
  intro H locs ls hP hD hS hl
  have hy : R32 0 := by decide
  exact lv_if_gt hk.1 hk.2.1 hd ht (fun h => kt ((i32_lt hy hx).mp h) H locs ls hP hD hS hl) (fun h => kf (fun q => h ((i32_lt hy hx).mpr q)) H locs ls hP hD hS hl)
theorem G_icmp_le (hk : Ok κ Γ own cc nL d) {x y : Int} {off : Int} {tgt : Nat} (hd : decode cc pc = .ok (.if_icmp .le off, 3)) (ht : (pc : Int) + off = (tgt : Int)) (hx : R32 x) (hy : R32 y) (kt : x ≤ y → GW κ Γ tgt L st ws) (kf : ¬ x ≤ y → GW κ Γ (pc + 3) L st ws) : GW κ Γ pc L (vI y :: vI x :: st) ws := by
  obtain ⟨p, l, e, R, s, m, args, below, meth, c, Q, H0, A, n0, c1, c2⟩ := κ
  have hn0 : n0 = nL := hk.2.2.2.2.2.2.2.2.2.2.2.2
  subst hn0
  intro H locs ls hP hD hS hl
  exact lv_icmp_le hk.1 hk.2.1 hd ht (fun h => kt ((i32_le hx hy).mp h) H locs ls hP hD hS hl) (fun h => kf (fun q => h ((i32_le hx hy).mpr q)) H locs ls hP hD hS hl)
theorem G_if_le (hk : Ok κ Γ own cc nL d) {x : Int} {off : Int} {tgt : Nat} (hd : decode cc pc = .ok (.ifCond .le off, 3)) (ht : (pc : Int) + off = (tgt : Int)) (hx : R32 x) (kt : x ≤ 0 → GW κ Γ tgt L st ws) (kf : ¬ x ≤ 0 → GW κ Γ (pc + 3) L st ws) : GW κ Γ pc L (vI x :: st) ws := by
  obtain ⟨p, l, e, R, s, m, args, below, meth, c, Q, H0, A, n0, c1, c2⟩ := κ
  have hn0 : n0 = nL := hk.2.2.2.2.2.2.2.2.2.2.2.2
  subst hn0
  intro H locs ls hP hD hS hl
  have hy : R32 0 := by decide
  exact lv_if_le hk.1 hk.2.1 hd ht (fun h => kt ((i32_le hx hy).mp h) H locs ls hP hD hS hl) (fun h => kf (fun q => h ((i32_le hx hy).mpr q)) H locs ls hP hD hS hl)
theorem G_goto (hk : Ok κ Γ own cc nL d) {off : Int} {tgt : Nat} (hd : decode cc pc = .ok (.goto off, 3)) (ht : (pc : Int) + off = (tgt : Int)) (k : GW κ Γ tgt L st ws) : GW κ Γ pc L (st) ws := by
  obtain ⟨p, l, e, R, s, m, args, below, meth, c, Q, H0, A, n0, c1, c2⟩ := κ
  have hn0 : n0 = nL := hk.2.2.2.2.2.2.2.2.2.2.2.2
  subst hn0
  intro H locs ls hP hD hS hl
  exact lv_goto hk.1 hk.2.1 hd ht (k H locs ls hP hD hS hl)
end RULES
end
section
/-- the cells of the world: 0 .. 43 the class, 44 .. 58 the reference -/
def lay : Nat → Ly := fun c => match c with
  | 0 => .inr (10, [.inl 1, .inl 5, .inl 12, .inl 17, .inl 21, .inl 23, .inl 27, .inl 33, .inl 35, .inr false, .inr false])
  | 1 => .inr (4, [.inl 2, .inl 3, .inl 4, .inr false, .inr false, .inr false])
  | 2 => .inl (0, 31, [])
  | 3 => .inl (0, 8, [])
  | 4 => .inl (0, 8, [])
  | 5 => .inr (5, [.inl 6, .inl 9, .inl 10, .inl 11])
  | 6 => .inr (7, [.inl 7, .inl 8, .inr false])
  | 7 => .inl (0, 12, [])
  | 8 => .inl (0, 12, [])
  | 9 => .inl (0, 12, [])
  | 10 => .inl (0, 12, [])
  | 11 => .inl (0, 12, [])
  | 12 => .inr (0, [.inl 13, .inl 16])
  | 13 => .inr (7, [.inl 14, .inl 15, .inr false])
  | 14 => .inl (0, 12, [])
  | 15 => .inl (0, 12, [])
  | 16 => .inl (0, 12, [])
  | 17 => .inr (3, [.inl 1, .inl 5, .inl 12, .inl 18, .inl 19, .inl 20, .inr false, .inr false, .inr false, .inr false, .inr false, .inr false])
  | 18 => .inl (0, 8, [])
  | 19 => .inl (0, 12, [])
  | 20 => .inl (0, 12, [])
  | 21 => .inr (6, [.inl 22, .inr false])
  | 22 => .inl (0, 100, [])
  | 23 => .inr (2, [.inl 24, .inl 25, .inl 26])
  | 24 => .inl (0, 4, [])
  | 25 => .inl (0, 12, [])
  | 26 => .inl (0, 12, [])
  | 27 => .inr (9, [.inl 28, .inl 31, .inl 32])
  | 28 => .inr (7, [.inl 29, .inl 30, .inr false])
  | 29 => .inl (0, 8, [])
  | 30 => .inl (0, 8, [])
  | 31 => .inl (0, 8, [])
  | 32 => .inl (0, 8, [])
  | 33 => .inr (1, [.inl 34, .inr true, .inr true])
  | 34 => .inl (1, 11, [])
  | 35 => .inl (2, 4, [36, 38, 40, 42])
  | 36 => .inr (8, [.inl 37, .inr false, .inr false])
  | 37 => .inl (0, 60, [])
  | 38 => .inr (8, [.inl 39, .inr false, .inr false])
  | 39 => .inl (0, 60, [])
  | 40 => .inr (8, [.inl 41, .inr false, .inr false])
  | 41 => .inl (0, 60, [])
  | 42 => .inr (8, [.inl 43, .inr false, .inr false])
  | 43 => .inl (0, 60, [])
  | 44 => .inr (11, [.inl 45, .inl 46, .inl 47, .inl 48, .inr false, .inl 49, .inr false, .inr false, .inr false, .inl 50, .inr false, .inl 51, .inr false, .inl 52, .inr false, .inl 53, .inl 54, .inl 55, .inl 56, .inr false, .inr false, .inr false, .inr false, .inr false, .inr false, .inr false, .inr false, .inr false, .inl 57, .inr false, .inr false, .inr false, .inl 58])
  | 45 => .inl (0, 4, [])
  | 46 => .inl (0, 4, [])
  | 47 => .inl (0, 240, [])
  | 48 => .inl (0, 60, [])
  | 49 => .inl (0, 31, [])
  | 50 => .inl (0, 16, [])
  | 51 => .inl (0, 48, [])
  | 52 => .inl (0, 24, [])
  | 53 => .inl (0, 4, [])
  | 54 => .inl (0, 8, [])
  | 55 => .inl (0, 24, [])
  | 56 => .inl (0, 12, [])
  | 57 => .inl (0, 12, [])
  | 58 => .inl (0, 24, [])
  | _ => .inl (0, 0, [])
abbrev Sx : Type := Nat → Nat → Int
def fv (Γ : Ev) (z : Int) : Nat ⊕ Bool → Value
  | .inl j => rf Γ j
  | .inr false => vI z
  | .inr true => vL z
def fvs (Γ : Ev) (f : Nat → Int) : Nat → List (Nat ⊕ Bool) → List Value
  | _, [] => []
  | i, k :: ks => fv Γ (f i) k :: fvs Γ f (i + 1) ks
def ce (Γ : Ev) (f : Nat → Int) : Ly → va_E
  | .inr (ci, ks) => .inr (ci, fvs Γ f 0 ks)
  | .inl (0, n, _) => .inl (Γ.2.1, n, .inl (fun j => Int32.ofInt (f j)))
  | .inl (1, n, _) => .inl (Γ.2.2.1, n, .inr (.inl (fun j => Int64.ofInt (f j))))
  | .inl (_, n, ts) => .inl (Γ.2.2.2.1, n, .inr (.inr (.inr (.inr (fun j => (ts[j]?).map Γ.2.2.2.2)))))
def wl (Γ : Ev) (S : Sx) : va_W := (List.range 59).map (fun c => (Γ.2.2.2.2 c, ce Γ (S c) (lay c)))
theorem wl_at {Γ : Ev} {S : Sx} {c : Nat} (h : c < 59) : (wl Γ S)[c]? = some (Γ.2.2.2.2 c, ce Γ (S c) (lay c)) := by
  simp [wl, h]
/-- one place is written -/
def su (S : Sx) (c k : Nat) (z : Int) : Sx := fun c' k' => if c' = c then (if k' = k then z else S c' k') else S c' k'
theorem su_ne (S : Sx) {c k : Nat} {z : Int} {c' : Nat} (h : c' ≠ c) : su S c k z c' = S c' := by
  funext k'
  simp [su, h]
theorem su_at (S : Sx) (c k : Nat) (z : Int) : su S c k z c k = z := by simp [su]
theorem su_nk (S : Sx) (c : Nat) {k k' : Nat} (z : Int) (h : k' ≠ k) : su S c k z c k' = S c k' := by simp [su, h]
theorem su_row (S : Sx) (c k : Nat) (z : Int) (k' : Nat) : su S c k z c k' = if k' = k then z else S c k' := by simp [su]
/-- a row is written -/
def sr (S : Sx) (c : Nat) (f : Nat → Int) : Sx := fun c' => if c' = c then f else S c'
theorem sr_ne (S : Sx) {c : Nat} {f : Nat → Int} {c' : Nat} (h : c' ≠ c) : sr S c f c' = S c' := by simp [sr, h]
theorem sr_at (S : Sx) (c : Nat) (f : Nat → Int) : sr S c f c = f := by simp [sr]
theorem su_sr (S : Sx) (c k : Nat) (z : Int) : su S c k z = sr S c (fun j => if j = k then z else S c j) := by
  funext c' k'
  by_cases h : c' = c
  · subst h; simp [su, sr]
  · simp [su, sr, h]
theorem wl_set {Γ : Ev} {S : Sx} {c : Nat} (h : c < 59) (f : Nat → Int) : (wl Γ S).set c (Γ.2.2.2.2 c, ce Γ f (lay c)) = wl Γ (sr S c f) := by
  apply List.ext_getElem?
  intro i
  rw [List.getElem?_set]
  have hlen : (wl Γ S).length = 59 := by simp [wl]
  by_cases hi : c = i
  · subst hi
    rw [if_pos rfl, if_pos (by rw [hlen]; exact h), wl_at h, sr_at]
  · rw [if_neg hi]
    by_cases h2 : i < 59
    · rw [wl_at h2, wl_at h2, sr_ne S (fun q => hi q.symm)]
    · rw [List.getElem?_eq_none (by rw [hlen]; omega), List.getElem?_eq_none (by simp [wl]; omega)]
theorem fvs_at (Γ : Ev) (f : Nat → Int) : ∀ (ks : List (Nat ⊕ Bool)) (i k : Nat) (q : Nat ⊕ Bool), ks[k]? = some q → (fvs Γ f i ks)[k]? = some (fv Γ (f (i + k)) q)
  | [], i, k, q, h => by simp at h
  | a :: ks, i, 0, q, h => by
    simp only [List.getElem?_cons_zero, Option.some.injEq] at h
    subst h
    simp [fvs]
  | a :: ks, i, k + 1, q, h => by
    simp only [List.getElem?_cons_succ] at h
    have h2 := fvs_at Γ f ks (i + 1) k q h
    simp only [fvs, List.getElem?_cons_succ, h2]
    rw [show i + 1 + k = i + (k + 1) by omega]
theorem fvs_len (Γ : Ev) (f : Nat → Int) : ∀ (ks : List (Nat ⊕ Bool)) (i : Nat), (fvs Γ f i ks).length = ks.length
  | [], i => rfl
  | a :: ks, i => by simp only [fvs, List.length_cons, fvs_len Γ f ks (i + 1)]
theorem fvs_same (Γ : Ev) (f g : Nat → Int) : ∀ (ks : List (Nat ⊕ Bool)) (i : Nat), (∀ j, i ≤ j → f j = g j) → fvs Γ f i ks = fvs Γ g i ks
  | [], i, h => rfl
  | a :: ks, i, h => by
    simp only [fvs, h i (Nat.le_refl i)]
    rw [fvs_same Γ f g ks (i + 1) (fun j hj => h j (by omega))]
theorem fvs_set (Γ : Ev) (f : Nat → Int) (z : Int) : ∀ (ks : List (Nat ⊕ Bool)) (i k : Nat) (b : Bool), ks[k]? = some (.inr b) → (fvs Γ f i ks).set k (fv Γ z (.inr b)) = fvs Γ (fun j => if j = i + k then z else f j) i ks
  | [], i, k, b, h => by simp at h
  | a :: ks, i, 0, b, h => by
    simp only [List.getElem?_cons_zero, Option.some.injEq] at h
    subst h
    simp only [fvs, List.set_cons_zero, Nat.add_zero, if_true]
    rw [fvs_same Γ f (fun j => if j = i then z else f j) ks (i + 1) (fun j hj => (if_neg (show ¬ j = i by omega)).symm)]
  | a :: ks, i, k + 1, b, h => by
    simp only [List.getElem?_cons_succ] at h
    have h2 := fvs_set Γ f z ks (i + 1) k b h
    simp only [fvs, List.set_cons_succ, h2]
    rw [if_neg (by omega), show i + 1 + k = i + (k + 1) by omega]
end
section
/-! more numbers -/
def zand (x y : Int) : Int := (Int32.ofInt x &&& Int32.ofInt y).toInt
def zor (x y : Int) : Int := (Int32.ofInt x ||| Int32.ofInt y).toInt
def zxor (x y : Int) : Int := (Int32.ofInt x ^^^ Int32.ofInt y).toInt
def zandL (x y : Int) : Int := (Int64.ofInt x &&& Int64.ofInt y).toInt
def zcmp (x y : Int) : Int := if y < x then 1 else if x = y then 0 else -1
def zb8 (x : Int) : Int := (Int32.ofInt x).toInt8.toInt32.toInt
def zs16 (x : Int) : Int := (Int32.ofInt x).toInt16.toInt32.toInt
theorem ofInt_nI (n : Nat) : Int32.ofInt (n : Int) = nI n := by
  first | rfl | simp [nI]
theorem ofInt_lN (n : Nat) : Int64.ofInt (n : Int) = lN n := by
  first | rfl | simp [lN]
theorem i32_nn {z : Int} (h : 0 ≤ z) : Int32.ofInt z = nI z.toNat := by
  rw [← ofInt_nI]; congr 1; omega
theorem i64_nn {z : Int} (h : 0 ≤ z) : Int64.ofInt z = lN z.toNat := by
  rw [← ofInt_lN]; congr 1; omega
theorem tn_div {x y : Int} (hx : 0 ≤ x) (hy : 0 ≤ y) : (x / y).toNat = x.toNat / y.toNat := by
  obtain ⟨a, rfl⟩ := Int.eq_ofNat_of_zero_le hx
  obtain ⟨b, rfl⟩ := Int.eq_ofNat_of_zero_le hy
  rfl
theorem i32_div {x y : Int} (hx : 0 ≤ x) (hx2 : x < 2147483648) (hy : 0 < y) (hy2 : y < 2147483648) : Int32.ofInt x / Int32.ofInt y = Int32.ofInt (x / y) := by
  have h1 : 0 ≤ x / y := Int.ediv_nonneg hx (by omega)
  rw [i32_nn hx, i32_nn (z := y) (by omega), i32_nn h1, pk_div (by omega) (by omega) (by omega)]
  congr 1
  rw [tn_div hx (by omega)]
theorem i32_mod {x y : Int} (hx : 0 ≤ x) (hx2 : x < 2147483648) (hy : 0 < y) (hy2 : y < 2147483648) : Int32.ofInt x - Int32.ofInt x / Int32.ofInt y * Int32.ofInt y = Int32.ofInt (x % y) := by
  rw [i32_div hx hx2 hy hy2, ← Int32.ofInt_mul, ← Int32.ofInt_sub]
  congr 1
  have h := Int.emod_def x y
  rw [h, Int.mul_comm]
theorem i64_div {x y : Int} (hx : 0 ≤ x) (hx2 : x < 9223372036854775808) (hy : 0 < y) (hy2 : y < 9223372036854775808) : Int64.ofInt x / Int64.ofInt y = Int64.ofInt (x / y) := by
  have h1 : 0 ≤ x / y := Int.ediv_nonneg hx (by omega)
  rw [i64_nn hx, i64_nn (z := y) (by omega), i64_nn h1, pk_lDiv (by omega) (by omega) (by omega)]
  congr 1
  rw [tn_div hx (by omega)]
theorem i64_mod {x y : Int} (hx : 0 ≤ x) (hx2 : x < 9223372036854775808) (hy : 0 < y) (hy2 : y < 9223372036854775808) : Int64.ofInt x - Int64.ofInt x / Int64.ofInt y * Int64.ofInt y = Int64.ofInt (x % y) := by
  rw [i64_div hx hx2 hy hy2, ← Int64.ofInt_mul, ← Int64.ofInt_sub]
  congr 1
  have h := Int.emod_def x y
  rw [h, Int.mul_comm]
theorem sh_c : ∀ k : Fin 32, ((Int32.ofInt (k.val : Int) &&& 31).toBitVec.smod 32).toNat = k.val := by decide +kernel
theorem i32_shl {x : Int} {k : Nat} (hk : k < 32) (hx : 0 ≤ x) (h : x * 2 ^ k < 4294967296) : Int32.ofInt x <<< (Int32.ofInt (k : Int) &&& 31) = Int32.ofInt (x * 2 ^ k) := by
  have hp : (0 : Int) ≤ 2 ^ k := Int.pow_nonneg (by decide)
  have hx2 : 0 ≤ x * 2 ^ k := Int.mul_nonneg hx hp
  have e : (x * 2 ^ k).toNat = x.toNat * 2 ^ k := by
    rw [Int.toNat_mul hx hp]
    congr 1
  rw [i32_nn hx, i32_nn hx2, e]
  refine pk_shlN _ k (sh_c ⟨k, hk⟩) ?_
  rw [← e]; omega
theorem i32_shr {x : Int} {k : Nat} (hk : k < 32) (hx : 0 ≤ x) (h : x < 2147483648) : Int32.ofInt x >>> (Int32.ofInt (k : Int) &&& 31) = Int32.ofInt (x / 2 ^ k) := by
  have hx2 : 0 ≤ x / 2 ^ k := Int.ediv_nonneg hx (Int.pow_nonneg (by decide))
  rw [i32_nn hx, i32_nn hx2, pk_shrN (by omega) _ k (sh_c ⟨k, hk⟩)]
  congr 1
  rw [tn_div hx (Int.pow_nonneg (by decide))]
  congr 1
theorem ush_16 : (((Int32.ofInt 16).toUInt32 &&& Int32.toUInt32 31).toBitVec % 32).toNat = 16 := by decide +kernel
theorem i32_ush (x : Int) : ((Int32.ofInt x).toUInt32 >>> ((Int32.ofInt 16).toUInt32 &&& Int32.toUInt32 31)).toInt32 = Int32.ofInt (x % 4294967296 / 65536) := by
  have hx2 : 0 ≤ x % 4294967296 / 65536 := by omega
  have e : Int32.ofInt x = nI (x % 4294967296).toNat := by
    rw [← ofInt_nI, Int.toNat_of_nonneg (by omega)]
    apply Int32.toInt_inj.mp
    rw [Int32.toInt_ofInt, Int32.toInt_ofInt]
    simp [Int32.size, Int.bmod_def]
  rw [e, pk_ushrN (by omega) _ 16 ush_16, i32_nn hx2]
  congr 1
  omega
theorem i32_to64 {x : Int} (h : R32 x) : (Int32.ofInt x).toInt64 = Int64.ofInt x := by
  apply Int64.toInt_inj.mp
  rw [Int32.toInt_toInt64, i32_rt h, i64_rt ⟨by omega, by omega⟩]
theorem zcmp_lg {x y : Int} (hx : R64 x) (hy : R64 y) : lg_cmp (Int64.ofInt x) (Int64.ofInt y) = Int32.ofInt (zcmp x y) := by
  unfold lg_cmp zcmp
  simp only [gt_iff_lt, i64_lt hy hx, i64_eq hx hy]
  split
  · rfl
  · split <;> rfl
theorem zcmp_same (x : Int) : lg_cmp (Int64.ofInt x) (Int64.ofInt x) = Int32.ofInt 0 := by
  have h : ¬ Int64.ofInt x > Int64.ofInt x := Int64.lt_irrefl
  simp [lg_cmp, h]
  try rfl
theorem zcmp_r (x y : Int) : R32 (zcmp x y) := by
  unfold zcmp
  split
  · decide
  · split <;> decide
theorem zcmp_lt (x y : Int) : zcmp x y < 0 ↔ x < y := by
  unfold zcmp
  split
  · omega
  · split <;> omega
theorem zcmp_ge (x y : Int) : 0 ≤ zcmp x y ↔ y ≤ x := by
  unfold zcmp
  split
  · omega
  · split <;> omega
theorem zcmp_gt (x y : Int) : 0 < zcmp x y ↔ y < x := by
  unfold zcmp
  split
  · omega
  · split <;> omega
theorem zcmp_le (x y : Int) : zcmp x y ≤ 0 ↔ x ≤ y := by
  unfold zcmp
  split
  · omega
  · split <;> omega
theorem zcmp_eq (x y : Int) : zcmp x y = 0 ↔ x = y := by
  unfold zcmp
  split
  · omega
  · split <;> omega
end
section
theorem shl_1 : ∀ k : Fin 64, Int64.ofInt 1 <<< ((Int32.ofInt (k.val : Int)).toInt64 &&& 63) = Int64.ofInt (2 ^ k.val) := by decide +kernel
theorem sm_1 : (((Int32.ofInt 1).toInt64 &&& 63).toBitVec.smod 64).toNat = 1 := by decide +kernel
theorem i64_shr1 {x : Int} (h : R64 x) : Int64.ofInt x >>> ((Int32.ofInt 1).toInt64 &&& 63) = Int64.ofInt (x / 2) := by
  apply Int64.toInt_inj.mp
  have e : (Int64.ofInt x >>> ((Int32.ofInt 1).toInt64 &&& 63)).toInt = (Int64.ofInt x).toInt >>> 1 := by
    rw [← sm_1]
    exact BitVec.toInt_sshiftRight ..
  rw [e, Int.shiftRight_eq_div_pow, i64_rt h, i64_rt ⟨by omega, by omega⟩]
  rfl
section RULES3
variable {κ : Kx} {Γ : Ev} {own : String} {cc : ByteArray} {nL d pc : Nat} {L : List (Option Value)} {st : List Value} {ws : va_W} {S : Sx}
theorem G_idiv (hk : Ok κ Γ own cc nL d) {x y : Int} (hd : decode cc pc = .ok (.idiv, 1)) (h1 : 0 ≤ x) (h2 : x < 2147483648) (h3 : 0 < y) (h4 : y < 2147483648) (k : GW κ Γ (pc + 1) L (vI (x / y) :: st) ws) : GW κ Γ pc L (vI y :: vI x :: st) ws := by
  obtain ⟨p, l, e, R, s, m, args, below, meth, c, Q, H0, A, n0, c1, c2⟩ := κ
  have hn0 : n0 = nL := hk.2.2.2.2.2.2.2.2.2.2.2.2
  subst hn0
  intro H locs ls hP hD hS hl
  refine lv_idiv hk.1 hk.2.1 hd (fun h => ?_) ?_
  · have := (i32_eq ⟨by omega, h4⟩ (show R32 0 by decide)).mp h; omega
  · have h := k H locs ls hP hD hS hl
    rw [vI, ← i32_div h1 h2 h3 h4] at h
    exact h
theorem G_irem (hk : Ok κ Γ own cc nL d) {x y : Int} (hd : decode cc pc = .ok (.irem, 1)) (h1 : 0 ≤ x) (h2 : x < 2147483648) (h3 : 0 < y) (h4 : y < 2147483648) (k : GW κ Γ (pc + 1) L (vI (x % y) :: st) ws) : GW κ Γ pc L (vI y :: vI x :: st) ws := by
  obtain ⟨p, l, e, R, s, m, args, below, meth, c, Q, H0, A, n0, c1, c2⟩ := κ
  have hn0 : n0 = nL := hk.2.2.2.2.2.2.2.2.2.2.2.2
  subst hn0
  intro H locs ls hP hD hS hl
  refine lv_irem hk.1 hk.2.1 hd (fun h => ?_) ?_
  · have := (i32_eq ⟨by omega, h4⟩ (show R32 0 by decide)).mp h; omega
  · have h := k H locs ls hP hD hS hl
    rw [vI, ← i32_mod h1 h2 h3 h4] at h
    exact h
theorem G_ldiv (hk : Ok κ Γ own cc nL d) {x y : Int} (hd : decode cc pc = .ok (.ldiv, 1)) (h1 : 0 ≤ x) (h2 : x < 9223372036854775808) (h3 : 0 < y) (h4 : y < 9223372036854775808) (k : GW κ Γ (pc + 1) L (vL (x / y) :: st) ws) : GW κ Γ pc L (vL y :: vL x :: st) ws := by
  obtain ⟨p, l, e, R, s, m, args, below, meth, c, Q, H0, A, n0, c1, c2⟩ := κ
  have hn0 : n0 = nL := hk.2.2.2.2.2.2.2.2.2.2.2.2
  subst hn0
  intro H locs ls hP hD hS hl
  refine lv_ldiv hk.1 hk.2.1 hd (fun h => ?_) ?_
  · have := (i64_eq ⟨by omega, h4⟩ (show R64 0 by decide)).mp h; omega
  · have h := k H locs ls hP hD hS hl
    rw [vL, ← i64_div h1 h2 h3 h4] at h
    exact h
theorem G_lrem (hk : Ok κ Γ own cc nL d) {x y : Int} (hd : decode cc pc = .ok (.lrem, 1)) (h1 : 0 ≤ x) (h2 : x < 9223372036854775808) (h3 : 0 < y) (h4 : y < 9223372036854775808) (k : GW κ Γ (pc + 1) L (vL (x % y) :: st) ws) : GW κ Γ pc L (vL y :: vL x :: st) ws := by
  obtain ⟨p, l, e, R, s, m, args, below, meth, c, Q, H0, A, n0, c1, c2⟩ := κ
  have hn0 : n0 = nL := hk.2.2.2.2.2.2.2.2.2.2.2.2
  subst hn0
  intro H locs ls hP hD hS hl
  refine lv_lrem hk.1 hk.2.1 hd (fun h => ?_) ?_
  · have := (i64_eq ⟨by omega, h4⟩ (show R64 0 by decide)).mp h; omega
  · have h := k H locs ls hP hD hS hl
    rw [vL, ← i64_mod h1 h2 h3 h4] at h
    exact h
theorem G_ishl (hk : Ok κ Γ own cc nL d) {x y : Int} (hd : decode cc pc = .ok (.ishl, 1)) (h1 : 0 ≤ x) (h2 : x * 2 ^ y.toNat < 4294967296) (h3 : 0 ≤ y) (h4 : y < 32) (k : GW κ Γ (pc + 1) L (vI (x * 2 ^ y.toNat) :: st) ws) : GW κ Γ pc L (vI y :: vI x :: st) ws := by
  obtain ⟨p, l, e, R, s, m, args, below, meth, c, Q, H0, A, n0, c1, c2⟩ := κ
  have hn0 : n0 = nL := hk.2.2.2.2.2.2.2.2.2.2.2.2
  subst hn0
  intro H locs ls hP hD hS hl
  refine lv_ishl hk.1 hk.2.1 hd ?_
  have h := k H locs ls hP hD hS hl
  rw [vI, ← i32_shl (k := y.toNat) (by omega) h1 h2, Int.toNat_of_nonneg h3] at h
  exact h
theorem G_ishr (hk : Ok κ Γ own cc nL d) {x y : Int} (hd : decode cc pc = .ok (.ishr, 1)) (h1 : 0 ≤ x) (h2 : x < 2147483648) (h3 : 0 ≤ y) (h4 : y < 32) (k : GW κ Γ (pc + 1) L (vI (x / 2 ^ y.toNat) :: st) ws) : GW κ Γ pc L (vI y :: vI x :: st) ws := by
  obtain ⟨p, l, e, R, s, m, args, below, meth, c, Q, H0, A, n0, c1, c2⟩ := κ
  have hn0 : n0 = nL := hk.2.2.2.2.2.2.2.2.2.2.2.2
  subst hn0
  intro H locs ls hP hD hS hl
  refine lv_ishr hk.1 hk.2.1 hd ?_
  have h := k H locs ls hP hD hS hl
  rw [vI, ← i32_shr (k := y.toNat) (by omega) h1 h2, Int.toNat_of_nonneg h3] at h
  exact h
theorem G_iushr (hk : Ok κ Γ own cc nL d) {x : Int} (hd : decode cc pc = .ok (.iushr, 1)) (k : GW κ Γ (pc + 1) L (vI (x % 4294967296 / 65536) :: st) ws) : GW κ Γ pc L (vI 16 :: vI x :: st) ws := by
  obtain ⟨p, l, e, R, s, m, args, below, meth, c, Q, H0, A, n0, c1, c2⟩ := κ
  have hn0 : n0 = nL := hk.2.2.2.2.2.2.2.2.2.2.2.2
  subst hn0
  intro H locs ls hP hD hS hl
  exact lv_iushr hk.1 hk.2.1 hd (i32_ush x) (k H locs ls hP hD hS hl)
theorem G_iand (hk : Ok κ Γ own cc nL d) {x y : Int} (hd : decode cc pc = .ok (.iand, 1)) (k : GW κ Γ (pc + 1) L (vI (zand x y) :: st) ws) : GW κ Γ pc L (vI y :: vI x :: st) ws := by
  obtain ⟨p, l, e, R, s, m, args, below, meth, c, Q, H0, A, n0, c1, c2⟩ := κ
  have hn0 : n0 = nL := hk.2.2.2.2.2.2.2.2.2.2.2.2
  subst hn0
  intro H locs ls hP hD hS hl
  refine lv_iand hk.1 hk.2.1 hd ?_
  have h := k H locs ls hP hD hS hl
  rw [vI, zand, i32_self] at h
  exact h
theorem G_ior (hk : Ok κ Γ own cc nL d) {x y : Int} (hd : decode cc pc = .ok (.ior, 1)) (k : GW κ Γ (pc + 1) L (vI (zor x y) :: st) ws) : GW κ Γ pc L (vI y :: vI x :: st) ws := by
  obtain ⟨p, l, e, R, s, m, args, below, meth, c, Q, H0, A, n0, c1, c2⟩ := κ
  have hn0 : n0 = nL := hk.2.2.2.2.2.2.2.2.2.2.2.2
  subst hn0
  intro H locs ls hP hD hS hl
  refine lv_ior hk.1 hk.2.1 hd ?_
  have h := k H locs ls hP hD hS hl
  rw [vI, zor, i32_self] at h
  exact h
theorem G_ixor (hk : Ok κ Γ own cc nL d) {x y : Int} (hd : decode cc pc = .ok (.ixor, 1)) (k : GW κ Γ (pc + 1) L (vI (zxor x y) :: st) ws) : GW κ Γ pc L (vI y :: vI x :: st) ws := by
  obtain ⟨p, l, e, R, s, m, args, below, meth, c, Q, H0, A, n0, c1, c2⟩ := κ
  have hn0 : n0 = nL := hk.2.2.2.2.2.2.2.2.2.2.2.2
  subst hn0
  intro H locs ls hP hD hS hl
  refine lv_ixor hk.1 hk.2.1 hd ?_
  have h := k H locs ls hP hD hS hl
  rw [vI, zxor, i32_self] at h
  exact h
theorem G_land (hk : Ok κ Γ own cc nL d) {x y : Int} (hd : decode cc pc = .ok (.land, 1)) (k : GW κ Γ (pc + 1) L (vL (zandL x y) :: st) ws) : GW κ Γ pc L (vL y :: vL x :: st) ws := by
  obtain ⟨p, l, e, R, s, m, args, below, meth, c, Q, H0, A, n0, c1, c2⟩ := κ
  have hn0 : n0 = nL := hk.2.2.2.2.2.2.2.2.2.2.2.2
  subst hn0
  intro H locs ls hP hD hS hl
  refine lv_land hk.1 hk.2.1 hd ?_
  have h := k H locs ls hP hD hS hl
  rw [vL, zandL, show ∀ w : Int64, Int64.ofInt w.toInt = w by intro w; simp] at h
  exact h
theorem G_lshl1 (hk : Ok κ Γ own cc nL d) {y : Int} (hd : decode cc pc = .ok (.lshl, 1)) (h3 : 0 ≤ y) (h4 : y < 64) (k : GW κ Γ (pc + 1) L (vL (2 ^ y.toNat) :: st) ws) : GW κ Γ pc L (vI y :: vL 1 :: st) ws := by
  obtain ⟨p, l, e, R, s, m, args, below, meth, c, Q, H0, A, n0, c1, c2⟩ := κ
  have hn0 : n0 = nL := hk.2.2.2.2.2.2.2.2.2.2.2.2
  subst hn0
  intro H locs ls hP hD hS hl
  have h := shl_1 ⟨y.toNat, by omega⟩
  simp only [Int.toNat_of_nonneg h3] at h
  exact lv_lshl hk.1 hk.2.1 hd h (k H locs ls hP hD hS hl)
theorem G_lshr1 (hk : Ok κ Γ own cc nL d) {x : Int} (hd : decode cc pc = .ok (.lshr, 1)) (hx : R64 x) (k : GW κ Γ (pc + 1) L (vL (x / 2) :: st) ws) : GW κ Γ pc L (vI 1 :: vL x :: st) ws := by
  obtain ⟨p, l, e, R, s, m, args, below, meth, c, Q, H0, A, n0, c1, c2⟩ := κ
  have hn0 : n0 = nL := hk.2.2.2.2.2.2.2.2.2.2.2.2
  subst hn0
  intro H locs ls hP hD hS hl
  exact lv_lshr hk.1 hk.2.1 hd (i64_shr1 hx) (k H locs ls hP hD hS hl)
theorem G_i2l (hk : Ok κ Γ own cc nL d) {x : Int} (hd : decode cc pc = .ok (.i2l, 1)) (hx : R32 x) (k : GW κ Γ (pc + 1) L (vL x :: st) ws) : GW κ Γ pc L (vI x :: st) ws := by
  obtain ⟨p, l, e, R, s, m, args, below, meth, c, Q, H0, A, n0, c1, c2⟩ := κ
  have hn0 : n0 = nL := hk.2.2.2.2.2.2.2.2.2.2.2.2
  subst hn0
  intro H locs ls hP hD hS hl
  exact lv_i2l hk.1 hk.2.1 hd (i32_to64 hx) (k H locs ls hP hD hS hl)
theorem G_i2b (hk : Ok κ Γ own cc nL d) {x : Int} (hd : decode cc pc = .ok (.i2b, 1)) (k : GW κ Γ (pc + 1) L (vI (zb8 x) :: st) ws) : GW κ Γ pc L (vI x :: st) ws := by
  obtain ⟨p, l, e, R, s, m, args, below, meth, c, Q, H0, A, n0, c1, c2⟩ := κ
  have hn0 : n0 = nL := hk.2.2.2.2.2.2.2.2.2.2.2.2
  subst hn0
  intro H locs ls hP hD hS hl
  have h := k H locs ls hP hD hS hl
  rw [vI, zb8, i32_self] at h
  exact lv_i2b hk.1 hk.2.1 hd rfl h
theorem G_i2s (hk : Ok κ Γ own cc nL d) {x : Int} (hd : decode cc pc = .ok (.i2s, 1)) (k : GW κ Γ (pc + 1) L (vI (zs16 x) :: st) ws) : GW κ Γ pc L (vI x :: st) ws := by
  obtain ⟨p, l, e, R, s, m, args, below, meth, c, Q, H0, A, n0, c1, c2⟩ := κ
  have hn0 : n0 = nL := hk.2.2.2.2.2.2.2.2.2.2.2.2
  subst hn0
  intro H locs ls hP hD hS hl
  have h := k H locs ls hP hD hS hl
  rw [vI, zs16, i32_self] at h
  exact lv_i2s hk.1 hk.2.1 hd rfl h
theorem G_lcmp (hk : Ok κ Γ own cc nL d) {x y : Int} (hd : decode cc pc = .ok (.lcmp, 1)) (hx : R64 x) (hy : R64 y) (k : GW κ Γ (pc + 1) L (vI (zcmp x y) :: st) ws) : GW κ Γ pc L (vL y :: vL x :: st) ws := by
  obtain ⟨p, l, e, R, s, m, args, below, meth, c, Q, H0, A, n0, c1, c2⟩ := κ
  have hn0 : n0 = nL := hk.2.2.2.2.2.2.2.2.2.2.2.2
  subst hn0
  intro H locs ls hP hD hS hl
  refine W.lcmp hk.1 hk.2.1 hd ?_
  rw [zcmp_lg hx hy]
  exact k H locs ls hP hD hS hl
theorem G_lcmpS (hk : Ok κ Γ own cc nL d) {x : Int} (hd : decode cc pc = .ok (.lcmp, 1)) (k : GW κ Γ (pc + 1) L (vI 0 :: st) ws) : GW κ Γ pc L (vL x :: vL x :: st) ws := by
  obtain ⟨p, l, e, R, s, m, args, below, meth, c, Q, H0, A, n0, c1, c2⟩ := κ
  have hn0 : n0 = nL := hk.2.2.2.2.2.2.2.2.2.2.2.2
  subst hn0
  intro H locs ls hP hD hS hl
  refine W.lcmp hk.1 hk.2.1 hd ?_
  rw [zcmp_same]
  exact k H locs ls hP hD hS hl
theorem G_tabOut (hk : Ok κ Γ own cc nL d) {dflt lo hi : Int} {offs : Array Int} {len tgt : Nat} {x : Int} (hd : decode cc pc = .ok (.tableswitch dflt lo hi offs, len)) (hx : R32 x) (h : x < lo ∨ hi < x) (ht : (pc : Int) + dflt = (tgt : Int)) (k : GW κ Γ tgt L st ws) : GW κ Γ pc L (vI x :: st) ws := by
  obtain ⟨p, l, e, R, s, m, args, below, meth, c, Q, H0, A, n0, c1, c2⟩ := κ
  have hn0 : n0 = nL := hk.2.2.2.2.2.2.2.2.2.2.2.2
  subst hn0
  intro H locs ls hP hD hS hl
  exact lv_tableOut hk.1 hk.2.1 hd (by rw [i32_rt hx]; exact h) ht (k H locs ls hP hD hS hl)
theorem G_tabIn (hk : Ok κ Γ own cc nL d) {dflt lo hi : Int} {offs : Array Int} {len tgt : Nat} {x off : Int} (hd : decode cc pc = .ok (.tableswitch dflt lo hi offs, len)) (hx : R32 x) (h1 : ¬ x < lo) (h2 : ¬ hi < x) (ho : offs[(x - lo).toNat]? = some off) (ht : (pc : Int) + off = (tgt : Int)) (k : GW κ Γ tgt L st ws) : GW κ Γ pc L (vI x :: st) ws := by
  obtain ⟨p, l, e, R, s, m, args, below, meth, c, Q, H0, A, n0, c1, c2⟩ := κ
  have hn0 : n0 = nL := hk.2.2.2.2.2.2.2.2.2.2.2.2
  subst hn0
  intro H locs ls hP hD hS hl
  exact lv_tableIn hk.1 hk.2.1 hd (by rw [i32_rt hx]; exact h1) (by rw [i32_rt hx]; exact h2) (by rw [i32_rt hx]; exact ho) ht (k H locs ls hP hD hS hl)
end RULES3
/-! fields and rows -/
theorem cls_ws0 : (cls.all fun r => (u_ws r.1 r.2.1 r.2.2).all fun w => decide (w ∈ lw_tbl) && goodWord w) = true := by decide +kernel
theorem cls_ws {r : vw_C} (h : r ∈ cls) : ∀ w ∈ u_ws r.1 r.2.1 r.2.2, w ∈ gt := by
  intro w hw
  have h1 := List.all_eq_true.mp (List.all_eq_true.mp cls_ws0 r h) w hw
  simp only [Bool.and_eq_true, decide_eq_true_eq] at h1
  exact gt_in h1.1 h1.2
theorem cls_ty {ci : Nat} {r : vw_C} (h : cls[ci]? = some r) : ∃ ty0 : Nat → FieldType, (∀ k, k < r.2.2 → parseFieldDescriptor (r.2.1 k).2.2.1 = some (ty0 k)) ∧ (∀ a, a < r.2.2 → ∀ b, b < r.2.2 → a ≠ b → (r.2.1 a).2.1 ≠ (r.2.1 b).2.1) := by
  match ci, h with
  | 0, h => cases h; exact ⟨tyX0, tyX0_ok, nmX0⟩
  | 1, h => cases h; exact ⟨tyX1, tyX1_ok, nmX1⟩
  | 2, h => cases h; exact ⟨tyX2, tyX2_ok, nmX2⟩
  | 3, h => cases h; exact ⟨tyX3, tyX3_ok, nmX3⟩
  | 4, h => cases h; exact ⟨tyX4, tyX4_ok, nmX4⟩
  | 5, h => cases h; exact ⟨tyX5, tyX5_ok, nmX5⟩
  | 6, h => cases h; exact ⟨tyX6, tyX6_ok, nmX6⟩
  | 7, h => cases h; exact ⟨tyX7, tyX7_ok, nmX7⟩
  | 8, h => cases h; exact ⟨tyX8, tyX8_ok, nmX8⟩
  | 9, h => cases h; exact ⟨tyX9, tyX9_ok, nmX9⟩
  | 10, h => cases h; exact ⟨tyX10, tyX10_ok, nmX10⟩
  | 11, h => cases h; exact ⟨tyX11, tyX11_ok, nmX11⟩
  | n + 12, h => simp [cls] at h
def FL (own : String) (idx ci k : Nat) : Prop := ∃ r : vw_C, cls[ci]? = some r ∧ k < r.2.2 ∧ Cond.fieldLink own idx (r.2.1 k).1 (r.2.1 k).2.1 (r.2.1 k).2.2.1 ∈ gt
/-- a field that may be written, of a type -/
def FP (ci k : Nat) (ty : FieldType) : Prop := ∃ r : vw_C, cls[ci]? = some r ∧ (r.2.1 k).2.2.2 = false ∧ parseFieldDescriptor (r.2.1 k).2.2.1 = some ty
section RULES4
variable {κ : Kx} {Γ : Ev} {own : String} {cc : ByteArray} {nL d pc : Nat} {L : List (Option Value)} {st : List Value} {S : Sx}
theorem G_getI (hk : Ok κ Γ own cc nL d) {idx ci k b : Nat} {ks : List (Nat ⊕ Bool)} (hd : decode cc pc = .ok (.getfield idx, 3)) (hf : FL own idx ci k) (hb : b < 59) (hy : lay b = .inr (ci, ks)) (hq : ks[k]? = some (.inr false)) (kk : GW κ Γ (pc + 3) L (vI (S b k) :: st) (wl Γ S)) : GW κ Γ pc L (rf Γ b :: st) (wl Γ S) := by
  obtain ⟨p, l, e, R, s, m, args, below, meth, c, Q, H0, A, n0, c1, c2⟩ := κ
  have hn0 : n0 = nL := hk.2.2.2.2.2.2.2.2.2.2.2.2
  subst hn0
  intro H locs ls hP hD hS hl
  obtain ⟨r, h1, h2, h3⟩ := hf
  have he : (wl Γ S)[b]? = some (Γ.2.2.2.2 b, .inr (ci, fvs Γ (S b) 0 ks)) := by rw [wl_at hb, hy]; rfl
  have hv := fvs_at Γ (S b) ks 0 k _ hq
  rw [Nat.zero_add] at hv
  exact va_get (D := Γ.1) (cl := cls) (tys := tys Γ) (C := r.1) (T := r.2.1) (N := r.2.2) (ci := ci) hk.1 hk.2.1 hk.2.2.2.2.1 (cls_ws (List.mem_of_getElem? h1)) hk.2.2.2.1 hk.2.2.2.2.2.1 hP b he h1 k h2 (hk.2.2.2.2.1 _ h3) (fun _ h => h) hv hd (kk H locs ls hP hD hS hl)
theorem G_getJ (hk : Ok κ Γ own cc nL d) {idx ci k b : Nat} {ks : List (Nat ⊕ Bool)} (hd : decode cc pc = .ok (.getfield idx, 3)) (hf : FL own idx ci k) (hb : b < 59) (hy : lay b = .inr (ci, ks)) (hq : ks[k]? = some (.inr true)) (kk : GW κ Γ (pc + 3) L (vL (S b k) :: st) (wl Γ S)) : GW κ Γ pc L (rf Γ b :: st) (wl Γ S) := by
  obtain ⟨p, l, e, R, s, m, args, below, meth, c, Q, H0, A, n0, c1, c2⟩ := κ
  have hn0 : n0 = nL := hk.2.2.2.2.2.2.2.2.2.2.2.2
  subst hn0
  intro H locs ls hP hD hS hl
  obtain ⟨r, h1, h2, h3⟩ := hf
  have he : (wl Γ S)[b]? = some (Γ.2.2.2.2 b, .inr (ci, fvs Γ (S b) 0 ks)) := by rw [wl_at hb, hy]; rfl
  have hv := fvs_at Γ (S b) ks 0 k _ hq
  rw [Nat.zero_add] at hv
  exact va_get (D := Γ.1) (cl := cls) (tys := tys Γ) (C := r.1) (T := r.2.1) (N := r.2.2) (ci := ci) hk.1 hk.2.1 hk.2.2.2.2.1 (cls_ws (List.mem_of_getElem? h1)) hk.2.2.2.1 hk.2.2.2.2.2.1 hP b he h1 k h2 (hk.2.2.2.2.1 _ h3) (fun _ h => h) hv hd (kk H locs ls hP hD hS hl)
theorem G_getR (hk : Ok κ Γ own cc nL d) {idx ci k b j : Nat} {ks : List (Nat ⊕ Bool)} (hd : decode cc pc = .ok (.getfield idx, 3)) (hf : FL own idx ci k) (hb : b < 59) (hy : lay b = .inr (ci, ks)) (hq : ks[k]? = some (.inl j)) (kk : GW κ Γ (pc + 3) L (rf Γ j :: st) (wl Γ S)) : GW κ Γ pc L (rf Γ b :: st) (wl Γ S) := by
  obtain ⟨p, l, e, R, s, m, args, below, meth, c, Q, H0, A, n0, c1, c2⟩ := κ
  have hn0 : n0 = nL := hk.2.2.2.2.2.2.2.2.2.2.2.2
  subst hn0
  intro H locs ls hP hD hS hl
  obtain ⟨r, h1, h2, h3⟩ := hf
  have he : (wl Γ S)[b]? = some (Γ.2.2.2.2 b, .inr (ci, fvs Γ (S b) 0 ks)) := by rw [wl_at hb, hy]; rfl
  have hv := fvs_at Γ (S b) ks 0 k _ hq
  rw [Nat.zero_add] at hv
  exact va_get (D := Γ.1) (cl := cls) (tys := tys Γ) (C := r.1) (T := r.2.1) (N := r.2.2) (ci := ci) hk.1 hk.2.1 hk.2.2.2.2.1 (cls_ws (List.mem_of_getElem? h1)) hk.2.2.2.1 hk.2.2.2.2.2.1 hP b he h1 k h2 (hk.2.2.2.2.1 _ h3) (fun _ h => h) hv hd (kk H locs ls hP hD hS hl)
theorem G_putI (hk : Ok κ Γ own cc nL d) {idx ci k b : Nat} {z : Int} {ks : List (Nat ⊕ Bool)} (hd : decode cc pc = .ok (.putfield idx, 3)) (hf : FL own idx ci k) (hp : FP ci k .int) (hb : b < 59) (hy : lay b = .inr (ci, ks)) (hq : ks[k]? = some (.inr false)) (kk : GW κ Γ (pc + 3) L st (wl Γ (su S b k z))) : GW κ Γ pc L (vI z :: rf Γ b :: st) (wl Γ S) := by
  obtain ⟨p, l, e, R, s, m, args, below, meth, c, Q, H0, A, n0, c1, c2⟩ := κ
  have hn0 : n0 = nL := hk.2.2.2.2.2.2.2.2.2.2.2.2
  subst hn0
  intro H locs ls hP hD hS hl
  obtain ⟨r, h1, h2, h3⟩ := hf
  obtain ⟨r2, g1, g2, g3⟩ := hp
  cases h1.symm.trans g1
  obtain ⟨ty0, t1, t2⟩ := cls_ty h1
  have he : (wl Γ S)[b]? = some (Γ.2.2.2.2 b, .inr (ci, fvs Γ (S b) 0 ks)) := by rw [wl_at hb, hy]; rfl
  have hlt : k < (fvs Γ (S b) 0 ks).length := by rw [fvs_len]; exact (List.getElem?_eq_some_iff.mp hq).1
  have hset : (wl Γ S).set b (Γ.2.2.2.2 b, .inr (ci, (fvs Γ (S b) 0 ks).set k (vI z))) = wl Γ (su S b k z) := by
    have h9 := fvs_set Γ (S b) z ks 0 k false hq
    rw [Nat.zero_add] at h9
    rw [su_sr, ← wl_set hb, hy]
    show _ = (wl Γ S).set b (Γ.2.2.2.2 b, .inr (ci, fvs Γ _ 0 ks))
    rw [← h9]
    rfl
  refine va_put (D := Γ.1) (cl := cls) (tys := tys Γ) (C := r.1) (T := r.2.1) (N := r.2.2) (ci := ci) (ty := .int) (v := vI z) hk.1 hk.2.1 hk.2.2.2.2.1 (cls_ws (List.mem_of_getElem? h1)) ty0 t1 t2 hk.2.2.2.1 hk.2.2.2.2.2.1 hP hD hS b he h1 k h2 (hk.2.2.2.2.1 _ h3) (fun _ h => h) g2 g3 rfl rfl hlt hd (fun H1 locs1 hP1 hD1 hS1 => ?_)
  rw [hset] at hP1 hD1
  exact kk H1 locs1 ls hP1 hD1 hS1 hl
theorem G_putJ (hk : Ok κ Γ own cc nL d) {idx ci k b : Nat} {z : Int} {ks : List (Nat ⊕ Bool)} (hd : decode cc pc = .ok (.putfield idx, 3)) (hf : FL own idx ci k) (hp : FP ci k .long) (hb : b < 59) (hy : lay b = .inr (ci, ks)) (hq : ks[k]? = some (.inr true)) (kk : GW κ Γ (pc + 3) L st (wl Γ (su S b k z))) : GW κ Γ pc L (vL z :: rf Γ b :: st) (wl Γ S) := by
  obtain ⟨p, l, e, R, s, m, args, below, meth, c, Q, H0, A, n0, c1, c2⟩ := κ
  have hn0 : n0 = nL := hk.2.2.2.2.2.2.2.2.2.2.2.2
  subst hn0
  intro H locs ls hP hD hS hl
  obtain ⟨r, h1, h2, h3⟩ := hf
  obtain ⟨r2, g1, g2, g3⟩ := hp
  cases h1.symm.trans g1
  obtain ⟨ty0, t1, t2⟩ := cls_ty h1
  have he : (wl Γ S)[b]? = some (Γ.2.2.2.2 b, .inr (ci, fvs Γ (S b) 0 ks)) := by rw [wl_at hb, hy]; rfl
  have hlt : k < (fvs Γ (S b) 0 ks).length := by rw [fvs_len]; exact (List.getElem?_eq_some_iff.mp hq).1
  have hset : (wl Γ S).set b (Γ.2.2.2.2 b, .inr (ci, (fvs Γ (S b) 0 ks).set k (vL z))) = wl Γ (su S b k z) := by
    have h9 := fvs_set Γ (S b) z ks 0 k true hq
    rw [Nat.zero_add] at h9
    rw [su_sr, ← wl_set hb, hy]
    show _ = (wl Γ S).set b (Γ.2.2.2.2 b, .inr (ci, fvs Γ _ 0 ks))
    rw [← h9]
    rfl
  refine va_put (D := Γ.1) (cl := cls) (tys := tys Γ) (C := r.1) (T := r.2.1) (N := r.2.2) (ci := ci) (ty := .long) (v := vL z) hk.1 hk.2.1 hk.2.2.2.2.1 (cls_ws (List.mem_of_getElem? h1)) ty0 t1 t2 hk.2.2.2.1 hk.2.2.2.2.2.1 hP hD hS b he h1 k h2 (hk.2.2.2.2.1 _ h3) (fun _ h => h) g2 g3 rfl rfl hlt hd (fun H1 locs1 hP1 hD1 hS1 => ?_)
  rw [hset] at hP1 hD1
  exact kk H1 locs1 ls hP1 hD1 hS1 hl
theorem G_iald (hk : Ok κ Γ own cc nL d) {b n : Nat} {z : Int} {ts : List Nat} (hd : decode cc pc = .ok (.iaload, 1)) (hb : b < 59) (hy : lay b = .inl (0, n, ts)) (hn : n < 1000) (h0 : 0 ≤ z) (h1 : z < (n : Int)) (kk : GW κ Γ (pc + 1) L (vI (S b z.toNat) :: st) (wl Γ S)) : GW κ Γ pc L (vI z :: rf Γ b :: st) (wl Γ S) := by
  obtain ⟨p, l, e, R, s, m, args, below, meth, c, Q, H0, A, n0, c1, c2⟩ := κ
  have hn0 : n0 = nL := hk.2.2.2.2.2.2.2.2.2.2.2.2
  subst hn0
  intro H locs ls hP hD hS hl
  have he : (wl Γ S)[b]? = some (Γ.2.2.2.2 b, .inl (Γ.2.1, n, .inl (fun j => Int32.ofInt (S b j)))) := by rw [wl_at hb, hy]; rfl
  have hr : R32 z := ⟨by omega, by omega⟩
  refine va_iald (D := Γ.1) (cl := cls) (tys := tys Γ) hk.1 hk.2.1 hk.2.2.2.2.2.1 hP b 0 he rfl (i32_in h0 h1 hr) hd ?_
  rw [i32_cl hr h0]
  exact kk H locs ls hP hD hS hl
theorem G_lald (hk : Ok κ Γ own cc nL d) {b n : Nat} {z : Int} {ts : List Nat} (hd : decode cc pc = .ok (.laload, 1)) (hb : b < 59) (hy : lay b = .inl (1, n, ts)) (hn : n < 1000) (h0 : 0 ≤ z) (h1 : z < (n : Int)) (kk : GW κ Γ (pc + 1) L (vL (S b z.toNat) :: st) (wl Γ S)) : GW κ Γ pc L (vI z :: rf Γ b :: st) (wl Γ S) := by
  obtain ⟨p, l, e, R, s, m, args, below, meth, c, Q, H0, A, n0, c1, c2⟩ := κ
  have hn0 : n0 = nL := hk.2.2.2.2.2.2.2.2.2.2.2.2
  subst hn0
  intro H locs ls hP hD hS hl
  have he : (wl Γ S)[b]? = some (Γ.2.2.2.2 b, .inl (Γ.2.2.1, n, .inr (.inl (fun j => Int64.ofInt (S b j))))) := by rw [wl_at hb, hy]; rfl
  have hr : R32 z := ⟨by omega, by omega⟩
  refine va_lald (D := Γ.1) (cl := cls) (tys := tys Γ) hk.1 hk.2.1 hk.2.2.2.2.2.1 hP b 1 he rfl (i32_in h0 h1 hr) hd ?_
  rw [i32_cl hr h0]
  exact kk H locs ls hP hD hS hl
theorem G_aald (hk : Ok κ Γ own cc nL d) {b n j : Nat} {z : Int} {ts : List Nat} (hd : decode cc pc = .ok (.aaload, 1)) (hb : b < 59) (hy : lay b = .inl (2, n, ts)) (hn : n < 1000) (h0 : 0 ≤ z) (h1 : z < (n : Int)) (hj : ts[z.toNat]? = some j) (kk : GW κ Γ (pc + 1) L (rf Γ j :: st) (wl Γ S)) : GW κ Γ pc L (vI z :: rf Γ b :: st) (wl Γ S) := by
  obtain ⟨p, l, e, R, s, m, args, below, meth, c, Q, H0, A, n0, c1, c2⟩ := κ
  have hn0 : n0 = nL := hk.2.2.2.2.2.2.2.2.2.2.2.2
  subst hn0
  intro H locs ls hP hD hS hl
  have he : (wl Γ S)[b]? = some (Γ.2.2.2.2 b, .inl (Γ.2.2.2.1, n, .inr (.inr (.inr (.inr (fun j => (ts[j]?).map Γ.2.2.2.2)))))) := by rw [wl_at hb, hy]; rfl
  have hr : R32 z := ⟨by omega, by omega⟩
  refine va_aldq (D := Γ.1) (cl := cls) (tys := tys Γ) hk.1 hk.2.1 hk.2.2.2.2.2.1 hP b 2 he rfl (i32_in h0 h1 hr) hd ?_
  rw [i32_cl hr h0, hj]
  exact kk H locs ls hP hD hS hl
theorem G_alen (hk : Ok κ Γ own cc nL d) {b n k : Nat} {ts : List Nat} (hd : decode cc pc = .ok (.arraylength, 1)) (hb : b < 59) (hy : lay b = .inl (k, n, ts)) (kk : GW κ Γ (pc + 1) L (vI (n : Int) :: st) (wl Γ S)) : GW κ Γ pc L (rf Γ b :: st) (wl Γ S) := by
  obtain ⟨p, l, e, R, s, m, args, below, meth, c, Q, H0, A, n0, c1, c2⟩ := κ
  have hn0 : n0 = nL := hk.2.2.2.2.2.2.2.2.2.2.2.2
  subst hn0
  intro H locs ls hP hD hS hl
  have he := wl_at (Γ := Γ) (S := S) hb
  rw [hy] at he
  match k, he with
  | 0, he => exact va_alen (D := Γ.1) (cl := cls) (tys := tys Γ) hk.1 hk.2.1 hk.2.2.2.2.2.1 hP b 0 he rfl (ofInt_nI n).symm hd (kk H locs ls hP hD hS hl)
  | 1, he => exact va_alen (D := Γ.1) (cl := cls) (tys := tys Γ) hk.1 hk.2.1 hk.2.2.2.2.2.1 hP b 1 he rfl (ofInt_nI n).symm hd (kk H locs ls hP hD hS hl)
  | k + 2, he => exact va_alen (D := Γ.1) (cl := cls) (tys := tys Γ) hk.1 hk.2.1 hk.2.2.2.2.2.1 hP b 2 he rfl (ofInt_nI n).symm hd (kk H locs ls hP hD hS hl)
theorem G_iast (hk : Ok κ Γ own cc nL d) {b n : Nat} {z x : Int} {ts : List Nat} (hd : decode cc pc = .ok (.iastore, 1)) (hb : b < 59) (hy : lay b = .inl (0, n, ts)) (hn : n < 1000) (h0 : 0 ≤ z) (h1 : z < (n : Int)) (kk : GW κ Γ (pc + 1) L st (wl Γ (su S b z.toNat x))) : GW κ Γ pc L (vI x :: vI z :: rf Γ b :: st) (wl Γ S) := by
  obtain ⟨p, l, e, R, s, m, args, below, meth, c, Q, H0, A, n0, c1, c2⟩ := κ
  have hn0 : n0 = nL := hk.2.2.2.2.2.2.2.2.2.2.2.2
  subst hn0
  intro H locs ls hP hD hS hl
  have he : (wl Γ S)[b]? = some (Γ.2.2.2.2 b, .inl (Γ.2.1, n, .inl (fun j => Int32.ofInt (S b j)))) := by rw [wl_at hb, hy]; rfl
  have hr : R32 z := ⟨by omega, by omega⟩
  have hset : (wl Γ S).set b (Γ.2.2.2.2 b, .inl (Γ.2.1, n, .inl (upd (fun j => Int32.ofInt (S b j)) z.toNat (Int32.ofInt x)))) = wl Γ (su S b z.toNat x) := by
    rw [su_sr, ← wl_set hb, hy]
    have e : upd (fun j => Int32.ofInt (S b j)) z.toNat (Int32.ofInt x) = fun j => Int32.ofInt (if j = z.toNat then x else S b j) := by
      funext j
      by_cases hj : j = z.toNat <;> simp [upd, hj]
    rw [e]
    rfl
  refine va_iast (D := Γ.1) (cl := cls) (tys := tys Γ) hk.1 hk.2.1 hk.2.2.2.2.2.1 hP hD hS b 0 he rfl (i32_in h0 h1 hr) hd (fun H1 locs1 hP1 hD1 hS1 => ?_)
  rw [i32_cl hr h0, hset] at hP1 hD1
  exact kk H1 locs1 ls hP1 hD1 hS1 hl
theorem G_last (hk : Ok κ Γ own cc nL d) {b n : Nat} {z x : Int} {ts : List Nat} (hd : decode cc pc = .ok (.lastore, 1)) (hb : b < 59) (hy : lay b = .inl (1, n, ts)) (hn : n < 1000) (h0 : 0 ≤ z) (h1 : z < (n : Int)) (kk : GW κ Γ (pc + 1) L st (wl Γ (su S b z.toNat x))) : GW κ Γ pc L (vL x :: vI z :: rf Γ b :: st) (wl Γ S) := by
  obtain ⟨p, l, e, R, s, m, args, below, meth, c, Q, H0, A, n0, c1, c2⟩ := κ
  have hn0 : n0 = nL := hk.2.2.2.2.2.2.2.2.2.2.2.2
  subst hn0
  intro H locs ls hP hD hS hl
  have he : (wl Γ S)[b]? = some (Γ.2.2.2.2 b, .inl (Γ.2.2.1, n, .inr (.inl (fun j => Int64.ofInt (S b j))))) := by rw [wl_at hb, hy]; rfl
  have hr : R32 z := ⟨by omega, by omega⟩
  have hset : (wl Γ S).set b (Γ.2.2.2.2 b, .inl (Γ.2.2.1, n, .inr (.inl (vp_updL (fun j => Int64.ofInt (S b j)) z.toNat (Int64.ofInt x))))) = wl Γ (su S b z.toNat x) := by
    rw [su_sr, ← wl_set hb, hy]
    have e : vp_updL (fun j => Int64.ofInt (S b j)) z.toNat (Int64.ofInt x) = fun j => Int64.ofInt (if j = z.toNat then x else S b j) := by
      funext j
      by_cases hj : j = z.toNat <;> simp [vp_updL, hj]
    rw [e]
    rfl
  refine va_last (D := Γ.1) (cl := cls) (tys := tys Γ) hk.1 hk.2.1 hk.2.2.2.2.2.1 hP hD hS b 1 he rfl (i32_in h0 h1 hr) hd (fun H1 locs1 hP1 hD1 hS1 => ?_)
  rw [i32_cl hr h0, hset] at hP1 hD1
  exact kk H1 locs1 ls hP1 hD1 hS1 hl
end RULES4
end
section
/-! contracts, ends, calls -/
def mq (Γ : Ev) (A : Nat → Prop) (post : Option Value → Sx → Prop) : Array Value → State → Outcome → State → Prop := fun _ st oc t => (∃ (v : Option Value) (S : Sx), oc = .returned v ∧ post v S ∧ va_P Γ.1 cls (wl Γ S) t.heap ∧ va_K Γ.1 cls (tys Γ) t ∧ va_D A (wl Γ S)) ∧ va_F A st t
def Aw (Γ : Ev) (sz : Nat) : Nat → Prop := fun q => (∃ c, c < 59 ∧ q = Γ.2.2.2.2 c) ∨ sz ≤ q
def rmd (d : Nat) : Room := { frames := d, cells := 0, slots := 0, locals := 41 * d }
def Ctr (l : Launch) (Γ : Ev) (d : Nat) (M : Mth) (avs : List Value) (S : Sx) (post : Option Value → Sx → Prop) : Prop := ∀ sz : Nat, Met l M.1 (gws M) (rmd d) (va_Pc avs (fun U => U.heap.size = sz ∧ va_P Γ.1 cls (wl Γ S) U.heap ∧ va_K Γ.1 cls (tys Γ) U ∧ va_D (fun _ => True) (wl Γ S))) (mq Γ (Aw Γ sz) post) 0 0 (Aw Γ sz)
def Rt (κ : Kx) (Γ : Ev) (ret : Option FieldType) (post : Option Value → Sx → Prop) : Prop := match κ with
  | (p, l, e, R, s, m, args, below, meth, c, Q, H0, A, n0, c1, c2) => meth.sig.returnType = ret ∧ Q = MQ below (mq Γ A post) args s c1 c2 A ∧ H0 = s.heap
def pI (post : Int → Sx → Prop) : Option Value → Sx → Prop := fun v S => ∃ r : Int, v = some (vI r) ∧ post r S
def pL (post : Int → Sx → Prop) : Option Value → Sx → Prop := fun v S => ∃ r : Int, v = some (vL r) ∧ post r S
def pV (post : Sx → Prop) : Option Value → Sx → Prop := fun v S => v = none ∧ post S
theorem wl_D {Γ : Ev} {S S' : Sx} {A : Nat → Prop} (h : va_D A (wl Γ S)) : va_D A (wl Γ S') := by
  have hl : ∀ {T : Sx} {i : Nat} {q : Nat × va_E}, (wl Γ T)[i]? = some q → i < 59 ∧ q.1 = Γ.2.2.2.2 i := by
    intro T i q hq
    have h1 : i < 59 := by
      have := (List.getElem?_eq_some_iff.mp hq).1
      simpa [wl] using this
    rw [wl_at h1] at hq
    cases hq
    exact ⟨h1, rfl⟩
  refine ⟨fun i j p q hp hq e => ?_, fun k q hq => ?_⟩
  · obtain ⟨h1, e1⟩ := hl hp
    obtain ⟨h2, e2⟩ := hl hq
    exact h.1 i j _ _ (wl_at h1) (wl_at h2) (by simp only; rw [← e1, ← e2]; exact e)
  · obtain ⟨h1, e1⟩ := hl hq
    rw [e1]
    exact h.2 k _ (wl_at h1)
theorem wl_Aw {Γ : Ev} {S : Sx} {A : Nat → Prop} (h : va_D A (wl Γ S)) (sz : Nat) : va_D (Aw Γ sz) (wl Γ S) := by
  refine ⟨h.1, fun k q hq => ?_⟩
  have h1 : k < 59 := by
    have := (List.getElem?_eq_some_iff.mp hq).1
    simpa [wl] using this
  rw [wl_at h1] at hq
  cases hq
  exact Or.inl ⟨k, h1, rfl⟩
theorem Aw_in {Γ : Ev} {S : Sx} {A : Nat → Prop} (h : va_D A (wl Γ S)) {H0 H : Heap} {locs : List Loc} (hS : va_S A H0 H locs) (hA : ∀ q, H0.size ≤ q → A q) : ∀ q, Aw Γ H.size q → A q := by
  rintro q (⟨c, h1, rfl⟩ | h2)
  · exact h.2 c _ (wl_at h1)
  · exact hA q (Nat.le_trans hS.1 h2)
/-- a contract out of a walk -/
theorem Ctr.of {l : Launch} {Γ : Ev} {d : Nat} {y : MethodName} {cc : ByteArray} {nL : Nat} {ret : Option FieldType} {avs : List Value} {S : Sx} {post : Option Value → Sx → Prop} (hy : plainName y.cls = true) {own : String} (ho : y.cls = own) {L : List (Option Value)} (hL : ent avs = L) (hn : (lg_sl avs).length ≤ nL)
    (body : ∀ κ : Kx, κ.2.1 = l → Ok κ Γ own cc nL d → Rt κ Γ ret post → GW κ Γ 0 L [] (wl Γ S)) : Ctr l Γ d (y, cc, nL, ret) avs S post := by
  intro sz
  subst ho
  refine Met.ofW (cc := cc) (maxL := nL) (ret := ret) (ws' := gt) hy rfl ?_
  intro p e s m args below meth c s₁ B hml hv
  obtain ⟨rfl, hsz, hP, hK, hD0⟩ := hv
  have hts := atoms_spec (ws := gws (y, cc, nL, ret)) B.pre
  have hD := wl_Aw hD0 sz
  rw [lg_entry_eq]
  have hl := lv_entry avs hn
  rw [← ent_args, hL] at hl
  refine body (p, l, e, (headSpec (gws (y, cc, nL, ret)) (rmd d)).room, s, m, avs.toArray, below, meth, c, _, s.heap, Aw Γ sz, nL, 0, 0) rfl ?_ ?_ s.heap [] _ hP hD va_S.rf hl
  · exact ⟨B.exec, B.bytes, hml, findClass_of_methodNamed B.named, fun w hw => hts w (List.mem_cons_of_mem _ hw), hK, fun q hq => Or.inr (hsz ▸ hq), B.notSynchronized, Nat.le_refl d, Nat.le_refl _, Nat.zero_le _, Nat.zero_le _, rfl⟩
  · exact ⟨B.returns, rfl, rfl⟩
section ENDS
variable {κ : Kx} {Γ : Ev} {own : String} {cc : ByteArray} {nL d pc : Nat} {L : List (Option Value)} {st : List Value} {S : Sx}
theorem G_iret {post : Int → Sx → Prop} (hk : Ok κ Γ own cc nL d) (hr : Rt κ Γ (some .int) (pI post)) {x : Int} (hd : decode cc pc = .ok (.ireturn, 1)) (h : post x S) : GW κ Γ pc L [vI x] (wl Γ S) := by
  obtain ⟨p, l, e, R, s, m, args, below, meth, c, Q, H0, A, n0, c1, c2⟩ := κ
  intro H locs ls hP hD hS hl
  obtain ⟨r1, r2, r3⟩ := hr
  subst r2
  subst r3
  have hlocks : meth.locks = false := hk.2.2.2.2.2.2.2.1
  exact W.iret hk.1 hk.2.1 r1 (fun t ht hW => ⟨⟨_, S, rfl, ⟨x, rfl, h⟩, by rw [ht]; exact hP, va_K.moved hW.alike hk.2.2.2.2.2.1, hD⟩, hS.F ht⟩) hS.2.2 hd hlocks
theorem narrow_b01 {x : Int} (hx : x = 0 ∨ x = 1) : narrow .boolean (.int (Int32.ofInt x)) = .int (Int32.ofInt x) := by
  rcases hx with rfl | rfl <;> decide
theorem G_zret {post : Int → Sx → Prop} (hk : Ok κ Γ own cc nL d) (hr : Rt κ Γ (some .boolean) (pI post)) {x : Int} (hd : decode cc pc = .ok (.ireturn, 1)) (hx : x = 0 ∨ x = 1) (h : post x S) : GW κ Γ pc L [vI x] (wl Γ S) := by
  obtain ⟨p, l, e, R, s, m, args, below, meth, c, Q, H0, A, n0, c1, c2⟩ := κ
  intro H locs ls hP hD hS hl
  obtain ⟨r1, r2, r3⟩ := hr
  subst r2
  subst r3
  have hlocks : meth.locks = false := hk.2.2.2.2.2.2.2.1
  exact W.zret hk.1 hk.2.1 r1 (narrow_b01 hx) (fun t ht hW => ⟨⟨_, S, rfl, ⟨x, rfl, h⟩, by rw [ht]; exact hP, va_K.moved hW.alike hk.2.2.2.2.2.1, hD⟩, hS.F ht⟩) hS.2.2 hd hlocks
theorem G_lret {post : Int → Sx → Prop} (hk : Ok κ Γ own cc nL d) (hr : Rt κ Γ (some .long) (pL post)) {x : Int} (hd : decode cc pc = .ok (.lreturn, 1)) (h : post x S) : GW κ Γ pc L [vL x] (wl Γ S) := by
  obtain ⟨p, l, e, R, s, m, args, below, meth, c, Q, H0, A, n0, c1, c2⟩ := κ
  intro H locs ls hP hD hS hl
  obtain ⟨r1, r2, r3⟩ := hr
  subst r2
  subst r3
  have hlocks : meth.locks = false := hk.2.2.2.2.2.2.2.1
  exact W.lret hk.1 hk.2.1 r1 (fun t ht hW => ⟨⟨_, S, rfl, ⟨x, rfl, h⟩, by rw [ht]; exact hP, va_K.moved hW.alike hk.2.2.2.2.2.1, hD⟩, hS.F ht⟩) hS.2.2 hd hlocks
theorem G_vret {post : Sx → Prop} (hk : Ok κ Γ own cc nL d) (hr : Rt κ Γ none (pV post)) (hd : decode cc pc = .ok (.return_, 1)) (h : post S) : GW κ Γ pc L [] (wl Γ S) := by
  obtain ⟨p, l, e, R, s, m, args, below, meth, c, Q, H0, A, n0, c1, c2⟩ := κ
  intro H locs ls hP hD hS hl
  obtain ⟨r1, r2, r3⟩ := hr
  subst r2
  subst r3
  have hlocks : meth.locks = false := hk.2.2.2.2.2.2.2.1
  exact W.vret hk.1 hk.2.1 r1 (fun t ht hW => ⟨⟨_, S, rfl, ⟨rfl, h⟩, by rw [ht]; exact hP, va_K.moved hW.alike hk.2.2.2.2.2.1, hD⟩, hS.F ht⟩) hS.2.2 hd hlocks
end ENDS
section VACG
variable {p : Program} {l : Launch} {e : Env} {R : Room} {s : State} {m : MethodId} {args : Array Value} {below : List Frame} {meth : Method} {c : Code} {H : Heap} {locs : List Loc} {cells slots : Nat} {Q : State → Prop}
variable {pc : Nat} {ls : Array Slot} {rest st0 : List Value} {a : Array Value} {A0 A1 : Nat → Prop} {H0 : Heap} {free : Addr → Prop}
theorem va_callg {Γ : Ev} {post : Option Value → Sx → Prop} (hr : va_Run p l e R s m args below meth c H locs cells slots 0 0 (F0 m pc ls st0) rest (mq Γ A1 post a) free) (hS : va_S A0 H0 H locs) (hA : ∀ q, q < H.size → A1 q → A0 q) (hf : ∀ q, free q → A0 q)
    (kk : ∀ (v : Option Value) (S : Sx) (H1 : Heap) (locs1 : List Loc), post v S → va_P Γ.1 cls (wl Γ S) H1 → va_D A1 (wl Γ S) → va_S A0 H0 H1 locs1 → W p l e R s m args below meth c H1 locs1 cells slots Q (F0 m (pc + 3) ls (v.toList ++ rest))) : W p l e R s m args below meth c H locs cells slots Q (F0 m pc ls st0) := by
  intro T hT X
  obtain ⟨v, st₀, t, T', L, h0, X', hL, e1, e2, ⟨⟨v', S, hv, hp, hP1, hK1, hD1⟩, hz, hk⟩, st⟩ := hr T hT X
  cases hv
  rw [h0] at hz hk
  obtain ⟨t2, a1, b1⟩ := kk v S T'.heap (locs ++ L) hp (by rw [e1]; exact hP1) hD1
    ⟨Nat.le_trans hS.1 (by rw [e1]; exact hz), fun q h1 h2 => by rw [e1, hk q (Nat.lt_of_lt_of_le h1 hS.1) (fun z => h2 (hA q (Nat.lt_of_lt_of_le h1 hS.1) z))]; exact hS.2.1 q h1 h2, fun q hq => by
      rcases List.mem_append.mp hq with h | h
      · exact hS.2.2 q h
      · exact hf _ (hL q h)⟩ T' rfl X'
  exact ⟨t2, st t2 a1, b1⟩
end VACG
/-- a method of the tables: what is called, with n parameters; an instance's or a static one -/
def MB (M : Mth) (n : Nat) : Prop := mw M ∈ gt ∧ Cond.initialized M.1.cls ∈ gt ∧ M.2.2.1 ≤ 22 ∧ M.1.cls ≠ "java/lang/invoke/MethodHandle" ∧ M.1.cls ≠ "java/lang/invoke/VarHandle" ∧ (parseMethodDescriptor M.1.desc).map (fun d => d.parameters.length) = some n
def MV (M : Mth) (n : Nat) : Prop := MB M n ∧ Cond.instanceMethod M.1 ∈ gt ∧ Cond.selects M.1.cls M.1 M.1 ∈ gt
def MS (M : Mth) (n : Nat) : Prop := MB M n ∧ Cond.static M.1 ∈ gt
def ML (own : String) (idx : Nat) (M : Mth) : Prop := Cond.methodLink own idx M.1 ∈ gt
theorem call_blind {avs : List Value} {Γ : Ev} {S : Sx} {sz : Nat} : FrameBlind (va_Pc avs (fun U => U.heap.size = sz ∧ va_P Γ.1 cls (wl Γ S) U.heap ∧ va_K Γ.1 cls (tys Γ) U ∧ va_D (fun _ => True) (wl Γ S))) := by
  intro a U g mk q
  obtain ⟨q0, q1, qP, qK, qD⟩ := q
  exact ⟨q0, q1, qP, va_K.moved (u := U) (U := U.calling g mk a) (Vm.Alike.refl U.vm) qK, qD⟩
section CALLS
variable {κ : Kx} {Γ : Ev} {own : String} {cc : ByteArray} {nL d pc idx n : Nat} {L : List (Option Value)} {st rest As : List Value} {S : Sx} {M : Mth} {post : Option Value → Sx → Prop}
theorem G_callV (hk : Ok κ Γ own cc nL (d + 1)) (hd : decode cc pc = .ok (.invokevirtual idx, 3)) (hm : MV M n) (hl : ML own idx M) {b ci : Nat} {ks : List (Nat ⊕ Bool)} (hb : b < 59) (hy : lay b = .inr (ci, ks)) (hcl : (cls[ci]?).map (fun r => r.1) = some M.1.cls)
    (hst : st = As.reverse ++ rf Γ b :: rest) (hn : As.length = n) (h8 : (rest.map fun v => v.category).sum ≤ 8) (hc : Ctr κ.2.1 Γ d M (rf Γ b :: As) S post)
    (k : ∀ (v : Option Value) (S' : Sx), post v S' → GW κ Γ (pc + 3) L (v.toList ++ rest) (wl Γ S')) : GW κ Γ pc L st (wl Γ S) := by
  obtain ⟨p, l, e, R, s, m, args, below, meth, c, Q, H0, A, n0, c1, c2⟩ := κ
  obtain ⟨⟨m1, m2, m3, m4, m5, m6⟩, m7, m8⟩ := hm
  obtain ⟨y, bytes, maxL, ret⟩ := M
  intro H locs ls hP hD hS hls
  subst hst
  obtain ⟨k1, k2, k3, k4, k5, k6, k7, k8, k9, k10, k11, k12, k13⟩ := hk
  subst k13
  obtain ⟨r, hr1, hr2⟩ : ∃ r, cls[ci]? = some r ∧ r.1 = y.cls := by
    cases hq : cls[ci]? with
    | none => rw [hq] at hcl; cases hcl
    | some r => rw [hq] at hcl; exact ⟨r, rfl, Option.some.inj hcl⟩
  have he : (wl Γ S)[b]? = some (Γ.2.2.2.2 b, .inr (ci, fvs Γ (S b) 0 ks)) := by rw [wl_at hb, hy]; rfl
  have hG : GoodIn gt (wsV own idx y.cls y (gws (y, bytes, maxL, ret))) := by
    intro w hw
    unfold wsV at hw
    rcases List.mem_append.mp hw with h | h
    · simp only [List.mem_cons, List.not_mem_nil, or_false] at h
      rcases h with rfl | rfl | rfl | rfl
      · exact ⟨hl, gt_good hl⟩
      · exact ⟨m7, gt_good m7⟩
      · exact ⟨m8, gt_good m8⟩
      · exact ⟨m2, gt_good m2⟩
    · exact gws_in (fun w h => h) m1 w h
  refine va_callg (va_runV (As := As) (rest := rest) (C := y.cls) (b := Γ.2.2.2.2 b) ⟨k1, k2, k3, k4, k5⟩ (hc H.size) (cwV n k5 hG rfl rfl rfl ⟨rfl, m4, m5, m6⟩ ⟨?_, ?_⟩) ⟨call_blind, ?_, fun U hU hW => ⟨rfl, by rw [hU], by rw [hU]; exact hP, va_K.moved hW.alike k6, hD.weaken (fun _ _ _ _ => trivial)⟩⟩ rfl hn hls.1 rfl (lv_room h8) hd ⟨?_, ?_⟩) hS (fun q _ h => Aw_in hD hS k7 q h) (Aw_in hD hS k7) (fun v S' H1 locs1 hp hP1 hD1 hS1 => ?_)
  · exact k9
  · have : maxL ≤ 22 := m3
    show 8 + (maxL + 11) + 41 * d ≤ R.locals
    omega
  · have := va_recv (q := r) k6 hP hr1 he
    rw [hr2] at this
    exact this
  · exact k11
  · exact k12
  · exact k v S' hp H1 locs1 ls hP1 (wl_D hD) hS1 hls
theorem G_callS (hk : Ok κ Γ own cc nL (d + 1)) (hd : decode cc pc = .ok (.invokestatic idx, 3)) (hm : MS M n) (hl : ML own idx M)
    (hst : st = As.reverse ++ rest) (hn : As.length = n) (h8 : (rest.map fun v => v.category).sum ≤ 8) (hc : Ctr κ.2.1 Γ d M As S post)
    (k : ∀ (v : Option Value) (S' : Sx), post v S' → GW κ Γ (pc + 3) L (v.toList ++ rest) (wl Γ S')) : GW κ Γ pc L st (wl Γ S) := by
  obtain ⟨p, l, e, R, s, m, args, below, meth, c, Q, H0, A, n0, c1, c2⟩ := κ
  obtain ⟨⟨m1, m2, m3, m4, m5, m6⟩, m7⟩ := hm
  obtain ⟨y, bytes, maxL, ret⟩ := M
  intro H locs ls hP hD hS hls
  subst hst
  obtain ⟨k1, k2, k3, k4, k5, k6, k7, k8, k9, k10, k11, k12, k13⟩ := hk
  subst k13
  have hcb : CallB R s args own idx y bytes maxL ret (gws (y, bytes, maxL, ret)) (rmd d) 0 0 n := by
    refine callB_of n k5 (gws_in (fun w h => h) m1) rfl rfl rfl (k5 _ m2) (k5 _ hl) ⟨m4, m5, m6⟩ ⟨k9, ?_⟩
    have : maxL ≤ 22 := m3
    show 8 + (maxL + 11) + 41 * d ≤ R.locals
    omega
  refine va_callg (va_runS (As := As) (rest := rest) ⟨k1, k2, k3, k4, k5⟩ (hc H.size) ⟨hcb, k5 _ m7⟩ ⟨call_blind, fun U hU hW => ⟨rfl, by rw [hU], by rw [hU]; exact hP, va_K.moved hW.alike k6, hD.weaken (fun _ _ _ _ => trivial)⟩⟩ rfl hn hls.1 rfl (lv_room h8) hd ⟨?_, ?_⟩) hS (fun q _ h => Aw_in hD hS k7 q h) (Aw_in hD hS k7) (fun v S' H1 locs1 hp hP1 hD1 hS1 => ?_)
  · exact k11
  · exact k12
  · exact k v S' hp H1 locs1 ls hP1 (wl_D hD) hS1 hls
end CALLS
end
section
def bz (c : Prop) [Decidable c] : Int := if c then 1 else 0
theorem bz_t {c : Prop} [Decidable c] (h : c) : (1 : Int) = bz c := by simp [bz, h]
theorem bz_f {c : Prop} [Decidable c] (h : ¬ c) : (0 : Int) = bz c := by simp [bz, h]
theorem bz_01 (c : Prop) [Decidable c] : bz c = 0 ∨ bz c = 1 := by by_cases h : c <;> simp [bz, h]
theorem bz_0 {c : Prop} [Decidable c] : bz c = 0 ↔ ¬ c := by by_cases h : c <;> simp [bz, h]
theorem bz_r (c : Prop) [Decidable c] : R32 (bz c) := by rcases bz_01 c with h | h <;> rw [h] <;> decide
def pP (S : Sx) (E : Int) : Option Value → Sx → Prop := pI (fun r S2 => r = E ∧ S2 = S)
section CALLS2
variable {κ : Kx} {Γ : Ev} {own : String} {cc : ByteArray} {nL d pc idx : Nat} {L : List (Option Value)} {rest : List Value} {S : Sx} {M : Mth}
theorem G_cV0I {post : Int → Sx → Prop} (hk : Ok κ Γ own cc nL (d + 1)) (hd : decode cc pc = .ok (.invokevirtual idx, 3)) (hm : MV M 0) (hl : ML own idx M) {b ci : Nat} {ks : List (Nat ⊕ Bool)} (hb : b < 59) (hy : lay b = .inr (ci, ks)) (hcl : (cls[ci]?).map (fun r => r.1) = some M.1.cls) (h8 : (rest.map fun v => v.category).sum ≤ 8) (hc : Ctr κ.2.1 Γ d M [rf Γ b] S (pI post)) (k : ∀ (r : Int) (S2 : Sx), post r S2 → GW κ Γ (pc + 3) L (vI r :: rest) (wl Γ S2)) : GW κ Γ pc L (rf Γ b :: rest) (wl Γ S) := G_callV (As := []) hk hd hm hl hb hy hcl rfl rfl h8 hc (by
  rintro v S2 ⟨r, rfl, h⟩
  exact k r S2 h)
theorem G_cS0I {post : Int → Sx → Prop} (hk : Ok κ Γ own cc nL (d + 1)) (hd : decode cc pc = .ok (.invokestatic idx, 3)) (hm : MS M 0) (hl : ML own idx M) (h8 : (rest.map fun v => v.category).sum ≤ 8) (hc : Ctr κ.2.1 Γ d M [] S (pI post)) (k : ∀ (r : Int) (S2 : Sx), post r S2 → GW κ Γ (pc + 3) L (vI r :: rest) (wl Γ S2)) : GW κ Γ pc L (rest) (wl Γ S) := G_callS (As := []) hk hd hm hl rfl rfl h8 hc (by
  rintro v S2 ⟨r, rfl, h⟩
  exact k r S2 h)
theorem G_cV0J {post : Int → Sx → Prop} (hk : Ok κ Γ own cc nL (d + 1)) (hd : decode cc pc = .ok (.invokevirtual idx, 3)) (hm : MV M 0) (hl : ML own idx M) {b ci : Nat} {ks : List (Nat ⊕ Bool)} (hb : b < 59) (hy : lay b = .inr (ci, ks)) (hcl : (cls[ci]?).map (fun r => r.1) = some M.1.cls) (h8 : (rest.map fun v => v.category).sum ≤ 8) (hc : Ctr κ.2.1 Γ d M [rf Γ b] S (pL post)) (k : ∀ (r : Int) (S2 : Sx), post r S2 → GW κ Γ (pc + 3) L (vL r :: rest) (wl Γ S2)) : GW κ Γ pc L (rf Γ b :: rest) (wl Γ S) := G_callV (As := []) hk hd hm hl hb hy hcl rfl rfl h8 hc (by
  rintro v S2 ⟨r, rfl, h⟩
  exact k r S2 h)
theorem G_cS0J {post : Int → Sx → Prop} (hk : Ok κ Γ own cc nL (d + 1)) (hd : decode cc pc = .ok (.invokestatic idx, 3)) (hm : MS M 0) (hl : ML own idx M) (h8 : (rest.map fun v => v.category).sum ≤ 8) (hc : Ctr κ.2.1 Γ d M [] S (pL post)) (k : ∀ (r : Int) (S2 : Sx), post r S2 → GW κ Γ (pc + 3) L (vL r :: rest) (wl Γ S2)) : GW κ Γ pc L (rest) (wl Γ S) := G_callS (As := []) hk hd hm hl rfl rfl h8 hc (by
  rintro v S2 ⟨r, rfl, h⟩
  exact k r S2 h)
theorem G_cV0V {post : Sx → Prop} (hk : Ok κ Γ own cc nL (d + 1)) (hd : decode cc pc = .ok (.invokevirtual idx, 3)) (hm : MV M 0) (hl : ML own idx M) {b ci : Nat} {ks : List (Nat ⊕ Bool)} (hb : b < 59) (hy : lay b = .inr (ci, ks)) (hcl : (cls[ci]?).map (fun r => r.1) = some M.1.cls) (h8 : (rest.map fun v => v.category).sum ≤ 8) (hc : Ctr κ.2.1 Γ d M [rf Γ b] S (pV post)) (k : ∀ (S2 : Sx), post S2 → GW κ Γ (pc + 3) L rest (wl Γ S2)) : GW κ Γ pc L (rf Γ b :: rest) (wl Γ S) := G_callV (As := []) hk hd hm hl hb hy hcl rfl rfl h8 hc (by
  rintro v S2 ⟨rfl, h⟩
  exact k S2 h)
theorem G_cS0V {post : Sx → Prop} (hk : Ok κ Γ own cc nL (d + 1)) (hd : decode cc pc = .ok (.invokestatic idx, 3)) (hm : MS M 0) (hl : ML own idx M) (h8 : (rest.map fun v => v.category).sum ≤ 8) (hc : Ctr κ.2.1 Γ d M [] S (pV post)) (k : ∀ (S2 : Sx), post S2 → GW κ Γ (pc + 3) L rest (wl Γ S2)) : GW κ Γ pc L (rest) (wl Γ S) := G_callS (As := []) hk hd hm hl rfl rfl h8 hc (by
  rintro v S2 ⟨rfl, h⟩
  exact k S2 h)
theorem G_cV0P {E : Int} (hk : Ok κ Γ own cc nL (d + 1)) (hd : decode cc pc = .ok (.invokevirtual idx, 3)) (hm : MV M 0) (hl : ML own idx M) {b ci : Nat} {ks : List (Nat ⊕ Bool)} (hb : b < 59) (hy : lay b = .inr (ci, ks)) (hcl : (cls[ci]?).map (fun r => r.1) = some M.1.cls) (h8 : (rest.map fun v => v.category).sum ≤ 8) (hc : Ctr κ.2.1 Γ d M [rf Γ b] S (pP S E)) (k : GW κ Γ (pc + 3) L (vI E :: rest) (wl Γ S)) : GW κ Γ pc L (rf Γ b :: rest) (wl Γ S) := G_callV (As := []) hk hd hm hl hb hy hcl rfl rfl h8 hc (by
  rintro v S2 ⟨r, rfl, rfl, rfl⟩
  exact k)
theorem G_cS0P {E : Int} (hk : Ok κ Γ own cc nL (d + 1)) (hd : decode cc pc = .ok (.invokestatic idx, 3)) (hm : MS M 0) (hl : ML own idx M) (h8 : (rest.map fun v => v.category).sum ≤ 8) (hc : Ctr κ.2.1 Γ d M [] S (pP S E)) (k : GW κ Γ (pc + 3) L (vI E :: rest) (wl Γ S)) : GW κ Γ pc L (rest) (wl Γ S) := G_callS (As := []) hk hd hm hl rfl rfl h8 hc (by
  rintro v S2 ⟨r, rfl, rfl, rfl⟩
  exact k)
theorem G_cV1I {a1 : Value} {post : Int → Sx → Prop} (hk : Ok κ Γ own cc nL (d + 1)) (hd : decode cc pc = .ok (.invokevirtual idx, 3)) (hm : MV M 1) (hl : ML own idx M) {b ci : Nat} {ks : List (Nat ⊕ Bool)} (hb : b < 59) (hy : lay b = .inr (ci, ks)) (hcl : (cls[ci]?).map (fun r => r.1) = some M.1.cls) (h8 : (rest.map fun v => v.category).sum ≤ 8) (hc : Ctr κ.2.1 Γ d M [rf Γ b, a1] S (pI post)) (k : ∀ (r : Int) (S2 : Sx), post r S2 → GW κ Γ (pc + 3) L (vI r :: rest) (wl Γ S2)) : GW κ Γ pc L (a1 :: rf Γ b :: rest) (wl Γ S) := G_callV (As := [a1]) hk hd hm hl hb hy hcl rfl rfl h8 hc (by
  rintro v S2 ⟨r, rfl, h⟩
  exact k r S2 h)
theorem G_cS1I {a1 : Value} {post : Int → Sx → Prop} (hk : Ok κ Γ own cc nL (d + 1)) (hd : decode cc pc = .ok (.invokestatic idx, 3)) (hm : MS M 1) (hl : ML own idx M) (h8 : (rest.map fun v => v.category).sum ≤ 8) (hc : Ctr κ.2.1 Γ d M [a1] S (pI post)) (k : ∀ (r : Int) (S2 : Sx), post r S2 → GW κ Γ (pc + 3) L (vI r :: rest) (wl Γ S2)) : GW κ Γ pc L (a1 :: rest) (wl Γ S) := G_callS (As := [a1]) hk hd hm hl rfl rfl h8 hc (by
  rintro v S2 ⟨r, rfl, h⟩
  exact k r S2 h)
theorem G_cV1J {a1 : Value} {post : Int → Sx → Prop} (hk : Ok κ Γ own cc nL (d + 1)) (hd : decode cc pc = .ok (.invokevirtual idx, 3)) (hm : MV M 1) (hl : ML own idx M) {b ci : Nat} {ks : List (Nat ⊕ Bool)} (hb : b < 59) (hy : lay b = .inr (ci, ks)) (hcl : (cls[ci]?).map (fun r => r.1) = some M.1.cls) (h8 : (rest.map fun v => v.category).sum ≤ 8) (hc : Ctr κ.2.1 Γ d M [rf Γ b, a1] S (pL post)) (k : ∀ (r : Int) (S2 : Sx), post r S2 → GW κ Γ (pc + 3) L (vL r :: rest) (wl Γ S2)) : GW κ Γ pc L (a1 :: rf Γ b :: rest) (wl Γ S) := G_callV (As := [a1]) hk hd hm hl hb hy hcl rfl rfl h8 hc (by
  rintro v S2 ⟨r, rfl, h⟩
  exact k r S2 h)
theorem G_cS1J {a1 : Value} {post : Int → Sx → Prop} (hk : Ok κ Γ own cc nL (d + 1)) (hd : decode cc pc = .ok (.invokestatic idx, 3)) (hm : MS M 1) (hl : ML own idx M) (h8 : (rest.map fun v => v.category).sum ≤ 8) (hc : Ctr κ.2.1 Γ d M [a1] S (pL post)) (k : ∀ (r : Int) (S2 : Sx), post r S2 → GW κ Γ (pc + 3) L (vL r :: rest) (wl Γ S2)) : GW κ Γ pc L (a1 :: rest) (wl Γ S) := G_callS (As := [a1]) hk hd hm hl rfl rfl h8 hc (by
  rintro v S2 ⟨r, rfl, h⟩
  exact k r S2 h)
theorem G_cV1V {a1 : Value} {post : Sx → Prop} (hk : Ok κ Γ own cc nL (d + 1)) (hd : decode cc pc = .ok (.invokevirtual idx, 3)) (hm : MV M 1) (hl : ML own idx M) {b ci : Nat} {ks : List (Nat ⊕ Bool)} (hb : b < 59) (hy : lay b = .inr (ci, ks)) (hcl : (cls[ci]?).map (fun r => r.1) = some M.1.cls) (h8 : (rest.map fun v => v.category).sum ≤ 8) (hc : Ctr κ.2.1 Γ d M [rf Γ b, a1] S (pV post)) (k : ∀ (S2 : Sx), post S2 → GW κ Γ (pc + 3) L rest (wl Γ S2)) : GW κ Γ pc L (a1 :: rf Γ b :: rest) (wl Γ S) := G_callV (As := [a1]) hk hd hm hl hb hy hcl rfl rfl h8 hc (by
  rintro v S2 ⟨rfl, h⟩
  exact k S2 h)
theorem G_cS1V {a1 : Value} {post : Sx → Prop} (hk : Ok κ Γ own cc nL (d + 1)) (hd : decode cc pc = .ok (.invokestatic idx, 3)) (hm : MS M 1) (hl : ML own idx M) (h8 : (rest.map fun v => v.category).sum ≤ 8) (hc : Ctr κ.2.1 Γ d M [a1] S (pV post)) (k : ∀ (S2 : Sx), post S2 → GW κ Γ (pc + 3) L rest (wl Γ S2)) : GW κ Γ pc L (a1 :: rest) (wl Γ S) := G_callS (As := [a1]) hk hd hm hl rfl rfl h8 hc (by
  rintro v S2 ⟨rfl, h⟩
  exact k S2 h)
theorem G_cV1P {a1 : Value} {E : Int} (hk : Ok κ Γ own cc nL (d + 1)) (hd : decode cc pc = .ok (.invokevirtual idx, 3)) (hm : MV M 1) (hl : ML own idx M) {b ci : Nat} {ks : List (Nat ⊕ Bool)} (hb : b < 59) (hy : lay b = .inr (ci, ks)) (hcl : (cls[ci]?).map (fun r => r.1) = some M.1.cls) (h8 : (rest.map fun v => v.category).sum ≤ 8) (hc : Ctr κ.2.1 Γ d M [rf Γ b, a1] S (pP S E)) (k : GW κ Γ (pc + 3) L (vI E :: rest) (wl Γ S)) : GW κ Γ pc L (a1 :: rf Γ b :: rest) (wl Γ S) := G_callV (As := [a1]) hk hd hm hl hb hy hcl rfl rfl h8 hc (by
  rintro v S2 ⟨r, rfl, rfl, rfl⟩
  exact k)
theorem G_cS1P {a1 : Value} {E : Int} (hk : Ok κ Γ own cc nL (d + 1)) (hd : decode cc pc = .ok (.invokestatic idx, 3)) (hm : MS M 1) (hl : ML own idx M) (h8 : (rest.map fun v => v.category).sum ≤ 8) (hc : Ctr κ.2.1 Γ d M [a1] S (pP S E)) (k : GW κ Γ (pc + 3) L (vI E :: rest) (wl Γ S)) : GW κ Γ pc L (a1 :: rest) (wl Γ S) := G_callS (As := [a1]) hk hd hm hl rfl rfl h8 hc (by
  rintro v S2 ⟨r, rfl, rfl, rfl⟩
  exact k)
theorem G_cV2I {a1 a2 : Value} {post : Int → Sx → Prop} (hk : Ok κ Γ own cc nL (d + 1)) (hd : decode cc pc = .ok (.invokevirtual idx, 3)) (hm : MV M 2) (hl : ML own idx M) {b ci : Nat} {ks : List (Nat ⊕ Bool)} (hb : b < 59) (hy : lay b = .inr (ci, ks)) (hcl : (cls[ci]?).map (fun r => r.1) = some M.1.cls) (h8 : (rest.map fun v => v.category).sum ≤ 8) (hc : Ctr κ.2.1 Γ d M [rf Γ b, a1, a2] S (pI post)) (k : ∀ (r : Int) (S2 : Sx), post r S2 → GW κ Γ (pc + 3) L (vI r :: rest) (wl Γ S2)) : GW κ Γ pc L (a2 :: a1 :: rf Γ b :: rest) (wl Γ S) := G_callV (As := [a1, a2]) hk hd hm hl hb hy hcl rfl rfl h8 hc (by
  rintro v S2 ⟨r, rfl, h⟩
  exact k r S2 h)
theorem G_cS2I {a1 a2 : Value} {post : Int → Sx → Prop} (hk : Ok κ Γ own cc nL (d + 1)) (hd : decode cc pc = .ok (.invokestatic idx, 3)) (hm : MS M 2) (hl : ML own idx M) (h8 : (rest.map fun v => v.category).sum ≤ 8) (hc : Ctr κ.2.1 Γ d M [a1, a2] S (pI post)) (k : ∀ (r : Int) (S2 : Sx), post r S2 → GW κ Γ (pc + 3) L (vI r :: rest) (wl Γ S2)) : GW κ Γ pc L (a2 :: a1 :: rest) (wl Γ S) := G_callS (As := [a1, a2]) hk hd hm hl rfl rfl h8 hc (by
  rintro v S2 ⟨r, rfl, h⟩
  exact k r S2 h)
theorem G_cV2J {a1 a2 : Value} {post : Int → Sx → Prop} (hk : Ok κ Γ own cc nL (d + 1)) (hd : decode cc pc = .ok (.invokevirtual idx, 3)) (hm : MV M 2) (hl : ML own idx M) {b ci : Nat} {ks : List (Nat ⊕ Bool)} (hb : b < 59) (hy : lay b = .inr (ci, ks)) (hcl : (cls[ci]?).map (fun r => r.1) = some M.1.cls) (h8 : (rest.map fun v => v.category).sum ≤ 8) (hc : Ctr κ.2.1 Γ d M [rf Γ b, a1, a2] S (pL post)) (k : ∀ (r : Int) (S2 : Sx), post r S2 → GW κ Γ (pc + 3) L (vL r :: rest) (wl Γ S2)) : GW κ Γ pc L (a2 :: a1 :: rf Γ b :: rest) (wl Γ S) := G_callV (As := [a1, a2]) hk hd hm hl hb hy hcl rfl rfl h8 hc (by
  rintro v S2 ⟨r, rfl, h⟩
  exact k r S2 h)
theorem G_cS2J {a1 a2 : Value} {post : Int → Sx → Prop} (hk : Ok κ Γ own cc nL (d + 1)) (hd : decode cc pc = .ok (.invokestatic idx, 3)) (hm : MS M 2) (hl : ML own idx M) (h8 : (rest.map fun v => v.category).sum ≤ 8) (hc : Ctr κ.2.1 Γ d M [a1, a2] S (pL post)) (k : ∀ (r : Int) (S2 : Sx), post r S2 → GW κ Γ (pc + 3) L (vL r :: rest) (wl Γ S2)) : GW κ Γ pc L (a2 :: a1 :: rest) (wl Γ S) := G_callS (As := [a1, a2]) hk hd hm hl rfl rfl h8 hc (by
  rintro v S2 ⟨r, rfl, h⟩
  exact k r S2 h)
theorem G_cV2V {a1 a2 : Value} {post : Sx → Prop} (hk : Ok κ Γ own cc nL (d + 1)) (hd : decode cc pc = .ok (.invokevirtual idx, 3)) (hm : MV M 2) (hl : ML own idx M) {b ci : Nat} {ks : List (Nat ⊕ Bool)} (hb : b < 59) (hy : lay b = .inr (ci, ks)) (hcl : (cls[ci]?).map (fun r => r.1) = some M.1.cls) (h8 : (rest.map fun v => v.category).sum ≤ 8) (hc : Ctr κ.2.1 Γ d M [rf Γ b, a1, a2] S (pV post)) (k : ∀ (S2 : Sx), post S2 → GW κ Γ (pc + 3) L rest (wl Γ S2)) : GW κ Γ pc L (a2 :: a1 :: rf Γ b :: rest) (wl Γ S) := G_callV (As := [a1, a2]) hk hd hm hl hb hy hcl rfl rfl h8 hc (by
  rintro v S2 ⟨rfl, h⟩
  exact k S2 h)
theorem G_cS2V {a1 a2 : Value} {post : Sx → Prop} (hk : Ok κ Γ own cc nL (d + 1)) (hd : decode cc pc = .ok (.invokestatic idx, 3)) (hm : MS M 2) (hl : ML own idx M) (h8 : (rest.map fun v => v.category).sum ≤ 8) (hc : Ctr κ.2.1 Γ d M [a1, a2] S (pV post)) (k : ∀ (S2 : Sx), post S2 → GW κ Γ (pc + 3) L rest (wl Γ S2)) : GW κ Γ pc L (a2 :: a1 :: rest) (wl Γ S) := G_callS (As := [a1, a2]) hk hd hm hl rfl rfl h8 hc (by
  rintro v S2 ⟨rfl, h⟩
  exact k S2 h)
theorem G_cV2P {a1 a2 : Value} {E : Int} (hk : Ok κ Γ own cc nL (d + 1)) (hd : decode cc pc = .ok (.invokevirtual idx, 3)) (hm : MV M 2) (hl : ML own idx M) {b ci : Nat} {ks : List (Nat ⊕ Bool)} (hb : b < 59) (hy : lay b = .inr (ci, ks)) (hcl : (cls[ci]?).map (fun r => r.1) = some M.1.cls) (h8 : (rest.map fun v => v.category).sum ≤ 8) (hc : Ctr κ.2.1 Γ d M [rf Γ b, a1, a2] S (pP S E)) (k : GW κ Γ (pc + 3) L (vI E :: rest) (wl Γ S)) : GW κ Γ pc L (a2 :: a1 :: rf Γ b :: rest) (wl Γ S) := G_callV (As := [a1, a2]) hk hd hm hl hb hy hcl rfl rfl h8 hc (by
  rintro v S2 ⟨r, rfl, rfl, rfl⟩
  exact k)
theorem G_cS2P {a1 a2 : Value} {E : Int} (hk : Ok κ Γ own cc nL (d + 1)) (hd : decode cc pc = .ok (.invokestatic idx, 3)) (hm : MS M 2) (hl : ML own idx M) (h8 : (rest.map fun v => v.category).sum ≤ 8) (hc : Ctr κ.2.1 Γ d M [a1, a2] S (pP S E)) (k : GW κ Γ (pc + 3) L (vI E :: rest) (wl Γ S)) : GW κ Γ pc L (a2 :: a1 :: rest) (wl Γ S) := G_callS (As := [a1, a2]) hk hd hm hl rfl rfl h8 hc (by
  rintro v S2 ⟨r, rfl, rfl, rfl⟩
  exact k)
theorem G_cV3I {a1 a2 a3 : Value} {post : Int → Sx → Prop} (hk : Ok κ Γ own cc nL (d + 1)) (hd : decode cc pc = .ok (.invokevirtual idx, 3)) (hm : MV M 3) (hl : ML own idx M) {b ci : Nat} {ks : List (Nat ⊕ Bool)} (hb : b < 59) (hy : lay b = .inr (ci, ks)) (hcl : (cls[ci]?).map (fun r => r.1) = some M.1.cls) (h8 : (rest.map fun v => v.category).sum ≤ 8) (hc : Ctr κ.2.1 Γ d M [rf Γ b, a1, a2, a3] S (pI post)) (k : ∀ (r : Int) (S2 : Sx), post r S2 → GW κ Γ (pc + 3) L (vI r :: rest) (wl Γ S2)) : GW κ Γ pc L (a3 :: a2 :: a1 :: rf Γ b :: rest) (wl Γ S) := G_callV (As := [a1, a2, a3]) hk hd hm hl hb hy hcl rfl rfl h8 hc (by
  rintro v S2 ⟨r, rfl, h⟩
  exact k r S2 h)
theorem G_cS3I {a1 a2 a3 : Value} {post : Int → Sx → Prop} (hk : Ok κ Γ own cc nL (d + 1)) (hd : decode cc pc = .ok (.invokestatic idx, 3)) (hm : MS M 3) (hl : ML own idx M) (h8 : (rest.map fun v => v.category).sum ≤ 8) (hc : Ctr κ.2.1 Γ d M [a1, a2, a3] S (pI post)) (k : ∀ (r : Int) (S2 : Sx), post r S2 → GW κ Γ (pc + 3) L (vI r :: rest) (wl Γ S2)) : GW κ Γ pc L (a3 :: a2 :: a1 :: rest) (wl Γ S) := G_callS (As := [a1, a2, a3]) hk hd hm hl rfl rfl h8 hc (by
  rintro v S2 ⟨r, rfl, h⟩
  exact k r S2 h)
theorem G_cV3J {a1 a2 a3 : Value} {post : Int → Sx → Prop} (hk : Ok κ Γ own cc nL (d + 1)) (hd : decode cc pc = .ok (.invokevirtual idx, 3)) (hm : MV M 3) (hl : ML own idx M) {b ci : Nat} {ks : List (Nat ⊕ Bool)} (hb : b < 59) (hy : lay b = .inr (ci, ks)) (hcl : (cls[ci]?).map (fun r => r.1) = some M.1.cls) (h8 : (rest.map fun v => v.category).sum ≤ 8) (hc : Ctr κ.2.1 Γ d M [rf Γ b, a1, a2, a3] S (pL post)) (k : ∀ (r : Int) (S2 : Sx), post r S2 → GW κ Γ (pc + 3) L (vL r :: rest) (wl Γ S2)) : GW κ Γ pc L (a3 :: a2 :: a1 :: rf Γ b :: rest) (wl Γ S) := G_callV (As := [a1, a2, a3]) hk hd hm hl hb hy hcl rfl rfl h8 hc (by
  rintro v S2 ⟨r, rfl, h⟩
  exact k r S2 h)
theorem G_cS3J {a1 a2 a3 : Value} {post : Int → Sx → Prop} (hk : Ok κ Γ own cc nL (d + 1)) (hd : decode cc pc = .ok (.invokestatic idx, 3)) (hm : MS M 3) (hl : ML own idx M) (h8 : (rest.map fun v => v.category).sum ≤ 8) (hc : Ctr κ.2.1 Γ d M [a1, a2, a3] S (pL post)) (k : ∀ (r : Int) (S2 : Sx), post r S2 → GW κ Γ (pc + 3) L (vL r :: rest) (wl Γ S2)) : GW κ Γ pc L (a3 :: a2 :: a1 :: rest) (wl Γ S) := G_callS (As := [a1, a2, a3]) hk hd hm hl rfl rfl h8 hc (by
  rintro v S2 ⟨r, rfl, h⟩
  exact k r S2 h)
theorem G_cV3V {a1 a2 a3 : Value} {post : Sx → Prop} (hk : Ok κ Γ own cc nL (d + 1)) (hd : decode cc pc = .ok (.invokevirtual idx, 3)) (hm : MV M 3) (hl : ML own idx M) {b ci : Nat} {ks : List (Nat ⊕ Bool)} (hb : b < 59) (hy : lay b = .inr (ci, ks)) (hcl : (cls[ci]?).map (fun r => r.1) = some M.1.cls) (h8 : (rest.map fun v => v.category).sum ≤ 8) (hc : Ctr κ.2.1 Γ d M [rf Γ b, a1, a2, a3] S (pV post)) (k : ∀ (S2 : Sx), post S2 → GW κ Γ (pc + 3) L rest (wl Γ S2)) : GW κ Γ pc L (a3 :: a2 :: a1 :: rf Γ b :: rest) (wl Γ S) := G_callV (As := [a1, a2, a3]) hk hd hm hl hb hy hcl rfl rfl h8 hc (by
  rintro v S2 ⟨rfl, h⟩
  exact k S2 h)
theorem G_cS3V {a1 a2 a3 : Value} {post : Sx → Prop} (hk : Ok κ Γ own cc nL (d + 1)) (hd : decode cc pc = .ok (.invokestatic idx, 3)) (hm : MS M 3) (hl : ML own idx M) (h8 : (rest.map fun v => v.category).sum ≤ 8) (hc : Ctr κ.2.1 Γ d M [a1, a2, a3] S (pV post)) (k : ∀ (S2 : Sx), post S2 → GW κ Γ (pc + 3) L rest (wl Γ S2)) : GW κ Γ pc L (a3 :: a2 :: a1 :: rest) (wl Γ S) := G_callS (As := [a1, a2, a3]) hk hd hm hl rfl rfl h8 hc (by
  rintro v S2 ⟨rfl, h⟩
  exact k S2 h)
theorem G_cV3P {a1 a2 a3 : Value} {E : Int} (hk : Ok κ Γ own cc nL (d + 1)) (hd : decode cc pc = .ok (.invokevirtual idx, 3)) (hm : MV M 3) (hl : ML own idx M) {b ci : Nat} {ks : List (Nat ⊕ Bool)} (hb : b < 59) (hy : lay b = .inr (ci, ks)) (hcl : (cls[ci]?).map (fun r => r.1) = some M.1.cls) (h8 : (rest.map fun v => v.category).sum ≤ 8) (hc : Ctr κ.2.1 Γ d M [rf Γ b, a1, a2, a3] S (pP S E)) (k : GW κ Γ (pc + 3) L (vI E :: rest) (wl Γ S)) : GW κ Γ pc L (a3 :: a2 :: a1 :: rf Γ b :: rest) (wl Γ S) := G_callV (As := [a1, a2, a3]) hk hd hm hl hb hy hcl rfl rfl h8 hc (by
  rintro v S2 ⟨r, rfl, rfl, rfl⟩
  exact k)
theorem G_cS3P {a1 a2 a3 : Value} {E : Int} (hk : Ok κ Γ own cc nL (d + 1)) (hd : decode cc pc = .ok (.invokestatic idx, 3)) (hm : MS M 3) (hl : ML own idx M) (h8 : (rest.map fun v => v.category).sum ≤ 8) (hc : Ctr κ.2.1 Γ d M [a1, a2, a3] S (pP S E)) (k : GW κ Γ (pc + 3) L (vI E :: rest) (wl Γ S)) : GW κ Γ pc L (a3 :: a2 :: a1 :: rest) (wl Γ S) := G_callS (As := [a1, a2, a3]) hk hd hm hl rfl rfl h8 hc (by
  rintro v S2 ⟨r, rfl, rfl, rfl⟩
  exact k)
theorem G_cV4I {a1 a2 a3 a4 : Value} {post : Int → Sx → Prop} (hk : Ok κ Γ own cc nL (d + 1)) (hd : decode cc pc = .ok (.invokevirtual idx, 3)) (hm : MV M 4) (hl : ML own idx M) {b ci : Nat} {ks : List (Nat ⊕ Bool)} (hb : b < 59) (hy : lay b = .inr (ci, ks)) (hcl : (cls[ci]?).map (fun r => r.1) = some M.1.cls) (h8 : (rest.map fun v => v.category).sum ≤ 8) (hc : Ctr κ.2.1 Γ d M [rf Γ b, a1, a2, a3, a4] S (pI post)) (k : ∀ (r : Int) (S2 : Sx), post r S2 → GW κ Γ (pc + 3) L (vI r :: rest) (wl Γ S2)) : GW κ Γ pc L (a4 :: a3 :: a2 :: a1 :: rf Γ b :: rest) (wl Γ S) := G_callV (As := [a1, a2, a3, a4]) hk hd hm hl hb hy hcl rfl rfl h8 hc (by
  rintro v S2 ⟨r, rfl, h⟩
  exact k r S2 h)
theorem G_cS4I {a1 a2 a3 a4 : Value} {post : Int → Sx → Prop} (hk : Ok κ Γ own cc nL (d + 1)) (hd : decode cc pc = .ok (.invokestatic idx, 3)) (hm : MS M 4) (hl : ML own idx M) (h8 : (rest.map fun v => v.category).sum ≤ 8) (hc : Ctr κ.2.1 Γ d M [a1, a2, a3, a4] S (pI post)) (k : ∀ (r : Int) (S2 : Sx), post r S2 → GW κ Γ (pc + 3) L (vI r :: rest) (wl Γ S2)) : GW κ Γ pc L (a4 :: a3 :: a2 :: a1 :: rest) (wl Γ S) := G_callS (As := [a1, a2, a3, a4]) hk hd hm hl rfl rfl h8 hc (by
  rintro v S2 ⟨r, rfl, h⟩
  exact k r S2 h)
theorem G_cV4J {a1 a2 a3 a4 : Value} {post : Int → Sx → Prop} (hk : Ok κ Γ own cc nL (d + 1)) (hd : decode cc pc = .ok (.invokevirtual idx, 3)) (hm : MV M 4) (hl : ML own idx M) {b ci : Nat} {ks : List (Nat ⊕ Bool)} (hb : b < 59) (hy : lay b = .inr (ci, ks)) (hcl : (cls[ci]?).map (fun r => r.1) = some M.1.cls) (h8 : (rest.map fun v => v.category).sum ≤ 8) (hc : Ctr κ.2.1 Γ d M [rf Γ b, a1, a2, a3, a4] S (pL post)) (k : ∀ (r : Int) (S2 : Sx), post r S2 → GW κ Γ (pc + 3) L (vL r :: rest) (wl Γ S2)) : GW κ Γ pc L (a4 :: a3 :: a2 :: a1 :: rf Γ b :: rest) (wl Γ S) := G_callV (As := [a1, a2, a3, a4]) hk hd hm hl hb hy hcl rfl rfl h8 hc (by
  rintro v S2 ⟨r, rfl, h⟩
  exact k r S2 h)
theorem G_cS4J {a1 a2 a3 a4 : Value} {post : Int → Sx → Prop} (hk : Ok κ Γ own cc nL (d + 1)) (hd : decode cc pc = .ok (.invokestatic idx, 3)) (hm : MS M 4) (hl : ML own idx M) (h8 : (rest.map fun v => v.category).sum ≤ 8) (hc : Ctr κ.2.1 Γ d M [a1, a2, a3, a4] S (pL post)) (k : ∀ (r : Int) (S2 : Sx), post r S2 → GW κ Γ (pc + 3) L (vL r :: rest) (wl Γ S2)) : GW κ Γ pc L (a4 :: a3 :: a2 :: a1 :: rest) (wl Γ S) := G_callS (As := [a1, a2, a3, a4]) hk hd hm hl rfl rfl h8 hc (by
  rintro v S2 ⟨r, rfl, h⟩
  exact k r S2 h)
theorem G_cV4V {a1 a2 a3 a4 : Value} {post : Sx → Prop} (hk : Ok κ Γ own cc nL (d + 1)) (hd : decode cc pc = .ok (.invokevirtual idx, 3)) (hm : MV M 4) (hl : ML own idx M) {b ci : Nat} {ks : List (Nat ⊕ Bool)} (hb : b < 59) (hy : lay b = .inr (ci, ks)) (hcl : (cls[ci]?).map (fun r => r.1) = some M.1.cls) (h8 : (rest.map fun v => v.category).sum ≤ 8) (hc : Ctr κ.2.1 Γ d M [rf Γ b, a1, a2, a3, a4] S (pV post)) (k : ∀ (S2 : Sx), post S2 → GW κ Γ (pc + 3) L rest (wl Γ S2)) : GW κ Γ pc L (a4 :: a3 :: a2 :: a1 :: rf Γ b :: rest) (wl Γ S) := G_callV (As := [a1, a2, a3, a4]) hk hd hm hl hb hy hcl rfl rfl h8 hc (by
  rintro v S2 ⟨rfl, h⟩
  exact k S2 h)
theorem G_cS4V {a1 a2 a3 a4 : Value} {post : Sx → Prop} (hk : Ok κ Γ own cc nL (d + 1)) (hd : decode cc pc = .ok (.invokestatic idx, 3)) (hm : MS M 4) (hl : ML own idx M) (h8 : (rest.map fun v => v.category).sum ≤ 8) (hc : Ctr κ.2.1 Γ d M [a1, a2, a3, a4] S (pV post)) (k : ∀ (S2 : Sx), post S2 → GW κ Γ (pc + 3) L rest (wl Γ S2)) : GW κ Γ pc L (a4 :: a3 :: a2 :: a1 :: rest) (wl Γ S) := G_callS (As := [a1, a2, a3, a4]) hk hd hm hl rfl rfl h8 hc (by
  rintro v S2 ⟨rfl, h⟩
  exact k S2 h)
theorem G_cV4P {a1 a2 a3 a4 : Value} {E : Int} (hk : Ok κ Γ own cc nL (d + 1)) (hd : decode cc pc = .ok (.invokevirtual idx, 3)) (hm : MV M 4) (hl : ML own idx M) {b ci : Nat} {ks : List (Nat ⊕ Bool)} (hb : b < 59) (hy : lay b = .inr (ci, ks)) (hcl : (cls[ci]?).map (fun r => r.1) = some M.1.cls) (h8 : (rest.map fun v => v.category).sum ≤ 8) (hc : Ctr κ.2.1 Γ d M [rf Γ b, a1, a2, a3, a4] S (pP S E)) (k : GW κ Γ (pc + 3) L (vI E :: rest) (wl Γ S)) : GW κ Γ pc L (a4 :: a3 :: a2 :: a1 :: rf Γ b :: rest) (wl Γ S) := G_callV (As := [a1, a2, a3, a4]) hk hd hm hl hb hy hcl rfl rfl h8 hc (by
  rintro v S2 ⟨r, rfl, rfl, rfl⟩
  exact k)
theorem G_cS4P {a1 a2 a3 a4 : Value} {E : Int} (hk : Ok κ Γ own cc nL (d + 1)) (hd : decode cc pc = .ok (.invokestatic idx, 3)) (hm : MS M 4) (hl : ML own idx M) (h8 : (rest.map fun v => v.category).sum ≤ 8) (hc : Ctr κ.2.1 Γ d M [a1, a2, a3, a4] S (pP S E)) (k : GW κ Γ (pc + 3) L (vI E :: rest) (wl Γ S)) : GW κ Γ pc L (a4 :: a3 :: a2 :: a1 :: rest) (wl Γ S) := G_callS (As := [a1, a2, a3, a4]) hk hd hm hl rfl rfl h8 hc (by
  rintro v S2 ⟨r, rfl, rfl, rfl⟩
  exact k)
theorem G_cV5I {a1 a2 a3 a4 a5 : Value} {post : Int → Sx → Prop} (hk : Ok κ Γ own cc nL (d + 1)) (hd : decode cc pc = .ok (.invokevirtual idx, 3)) (hm : MV M 5) (hl : ML own idx M) {b ci : Nat} {ks : List (Nat ⊕ Bool)} (hb : b < 59) (hy : lay b = .inr (ci, ks)) (hcl : (cls[ci]?).map (fun r => r.1) = some M.1.cls) (h8 : (rest.map fun v => v.category).sum ≤ 8) (hc : Ctr κ.2.1 Γ d M [rf Γ b, a1, a2, a3, a4, a5] S (pI post)) (k : ∀ (r : Int) (S2 : Sx), post r S2 → GW κ Γ (pc + 3) L (vI r :: rest) (wl Γ S2)) : GW κ Γ pc L (a5 :: a4 :: a3 :: a2 :: a1 :: rf Γ b :: rest) (wl Γ S) := G_callV (As := [a1, a2, a3, a4, a5]) hk hd hm hl hb hy hcl rfl rfl h8 hc (by
  rintro v S2 ⟨r, rfl, h⟩
  exact k r S2 h)
theorem G_cS5I {a1 a2 a3 a4 a5 : Value} {post : Int → Sx → Prop} (hk : Ok κ Γ own cc nL (d + 1)) (hd : decode cc pc = .ok (.invokestatic idx, 3)) (hm : MS M 5) (hl : ML own idx M) (h8 : (rest.map fun v => v.category).sum ≤ 8) (hc : Ctr κ.2.1 Γ d M [a1, a2, a3, a4, a5] S (pI post)) (k : ∀ (r : Int) (S2 : Sx), post r S2 → GW κ Γ (pc + 3) L (vI r :: rest) (wl Γ S2)) : GW κ Γ pc L (a5 :: a4 :: a3 :: a2 :: a1 :: rest) (wl Γ S) := G_callS (As := [a1, a2, a3, a4, a5]) hk hd hm hl rfl rfl h8 hc (by
  rintro v S2 ⟨r, rfl, h⟩
  exact k r S2 h)
theorem G_cV5J {a1 a2 a3 a4 a5 : Value} {post : Int → Sx → Prop} (hk : Ok κ Γ own cc nL (d + 1)) (hd : decode cc pc = .ok (.invokevirtual idx, 3)) (hm : MV M 5) (hl : ML own idx M) {b ci : Nat} {ks : List (Nat ⊕ Bool)} (hb : b < 59) (hy : lay b = .inr (ci, ks)) (hcl : (cls[ci]?).map (fun r => r.1) = some M.1.cls) (h8 : (rest.map fun v => v.category).sum ≤ 8) (hc : Ctr κ.2.1 Γ d M [rf Γ b, a1, a2, a3, a4, a5] S (pL post)) (k : ∀ (r : Int) (S2 : Sx), post r S2 → GW κ Γ (pc + 3) L (vL r :: rest) (wl Γ S2)) : GW κ Γ pc L (a5 :: a4 :: a3 :: a2 :: a1 :: rf Γ b :: rest) (wl Γ S) := G_callV (As := [a1, a2, a3, a4, a5]) hk hd hm hl hb hy hcl rfl rfl h8 hc (by
  rintro v S2 ⟨r, rfl, h⟩
  exact k r S2 h)
theorem G_cS5J {a1 a2 a3 a4 a5 : Value} {post : Int → Sx → Prop} (hk : Ok κ Γ own cc nL (d + 1)) (hd : decode cc pc = .ok (.invokestatic idx, 3)) (hm : MS M 5) (hl : ML own idx M) (h8 : (rest.map fun v => v.category).sum ≤ 8) (hc : Ctr κ.2.1 Γ d M [a1, a2, a3, a4, a5] S (pL post)) (k : ∀ (r : Int) (S2 : Sx), post r S2 → GW κ Γ (pc + 3) L (vL r :: rest) (wl Γ S2)) : GW κ Γ pc L (a5 :: a4 :: a3 :: a2 :: a1 :: rest) (wl Γ S) := G_callS (As := [a1, a2, a3, a4, a5]) hk hd hm hl rfl rfl h8 hc (by
  rintro v S2 ⟨r, rfl, h⟩
  exact k r S2 h)
theorem G_cV5V {a1 a2 a3 a4 a5 : Value} {post : Sx → Prop} (hk : Ok κ Γ own cc nL (d + 1)) (hd : decode cc pc = .ok (.invokevirtual idx, 3)) (hm : MV M 5) (hl : ML own idx M) {b ci : Nat} {ks : List (Nat ⊕ Bool)} (hb : b < 59) (hy : lay b = .inr (ci, ks)) (hcl : (cls[ci]?).map (fun r => r.1) = some M.1.cls) (h8 : (rest.map fun v => v.category).sum ≤ 8) (hc : Ctr κ.2.1 Γ d M [rf Γ b, a1, a2, a3, a4, a5] S (pV post)) (k : ∀ (S2 : Sx), post S2 → GW κ Γ (pc + 3) L rest (wl Γ S2)) : GW κ Γ pc L (a5 :: a4 :: a3 :: a2 :: a1 :: rf Γ b :: rest) (wl Γ S) := G_callV (As := [a1, a2, a3, a4, a5]) hk hd hm hl hb hy hcl rfl rfl h8 hc (by
  rintro v S2 ⟨rfl, h⟩
  exact k S2 h)
theorem G_cS5V {a1 a2 a3 a4 a5 : Value} {post : Sx → Prop} (hk : Ok κ Γ own cc nL (d + 1)) (hd : decode cc pc = .ok (.invokestatic idx, 3)) (hm : MS M 5) (hl : ML own idx M) (h8 : (rest.map fun v => v.category).sum ≤ 8) (hc : Ctr κ.2.1 Γ d M [a1, a2, a3, a4, a5] S (pV post)) (k : ∀ (S2 : Sx), post S2 → GW κ Γ (pc + 3) L rest (wl Γ S2)) : GW κ Γ pc L (a5 :: a4 :: a3 :: a2 :: a1 :: rest) (wl Γ S) := G_callS (As := [a1, a2, a3, a4, a5]) hk hd hm hl rfl rfl h8 hc (by
  rintro v S2 ⟨rfl, h⟩
  exact k S2 h)
theorem G_cV5P {a1 a2 a3 a4 a5 : Value} {E : Int} (hk : Ok κ Γ own cc nL (d + 1)) (hd : decode cc pc = .ok (.invokevirtual idx, 3)) (hm : MV M 5) (hl : ML own idx M) {b ci : Nat} {ks : List (Nat ⊕ Bool)} (hb : b < 59) (hy : lay b = .inr (ci, ks)) (hcl : (cls[ci]?).map (fun r => r.1) = some M.1.cls) (h8 : (rest.map fun v => v.category).sum ≤ 8) (hc : Ctr κ.2.1 Γ d M [rf Γ b, a1, a2, a3, a4, a5] S (pP S E)) (k : GW κ Γ (pc + 3) L (vI E :: rest) (wl Γ S)) : GW κ Γ pc L (a5 :: a4 :: a3 :: a2 :: a1 :: rf Γ b :: rest) (wl Γ S) := G_callV (As := [a1, a2, a3, a4, a5]) hk hd hm hl hb hy hcl rfl rfl h8 hc (by
  rintro v S2 ⟨r, rfl, rfl, rfl⟩
  exact k)
theorem G_cS5P {a1 a2 a3 a4 a5 : Value} {E : Int} (hk : Ok κ Γ own cc nL (d + 1)) (hd : decode cc pc = .ok (.invokestatic idx, 3)) (hm : MS M 5) (hl : ML own idx M) (h8 : (rest.map fun v => v.category).sum ≤ 8) (hc : Ctr κ.2.1 Γ d M [a1, a2, a3, a4, a5] S (pP S E)) (k : GW κ Γ (pc + 3) L (vI E :: rest) (wl Γ S)) : GW κ Γ pc L (a5 :: a4 :: a3 :: a2 :: a1 :: rest) (wl Γ S) := G_callS (As := [a1, a2, a3, a4, a5]) hk hd hm hl rfl rfl h8 hc (by
  rintro v S2 ⟨r, rfl, rfl, rfl⟩
  exact k)
theorem G_cV6I {a1 a2 a3 a4 a5 a6 : Value} {post : Int → Sx → Prop} (hk : Ok κ Γ own cc nL (d + 1)) (hd : decode cc pc = .ok (.invokevirtual idx, 3)) (hm : MV M 6) (hl : ML own idx M) {b ci : Nat} {ks : List (Nat ⊕ Bool)} (hb : b < 59) (hy : lay b = .inr (ci, ks)) (hcl : (cls[ci]?).map (fun r => r.1) = some M.1.cls) (h8 : (rest.map fun v => v.category).sum ≤ 8) (hc : Ctr κ.2.1 Γ d M [rf Γ b, a1, a2, a3, a4, a5, a6] S (pI post)) (k : ∀ (r : Int) (S2 : Sx), post r S2 → GW κ Γ (pc + 3) L (vI r :: rest) (wl Γ S2)) : GW κ Γ pc L (a6 :: a5 :: a4 :: a3 :: a2 :: a1 :: rf Γ b :: rest) (wl Γ S) := G_callV (As := [a1, a2, a3, a4, a5, a6]) hk hd hm hl hb hy hcl rfl rfl h8 hc (by
  rintro v S2 ⟨r, rfl, h⟩
  exact k r S2 h)
theorem G_cS6I {a1 a2 a3 a4 a5 a6 : Value} {post : Int → Sx → Prop} (hk : Ok κ Γ own cc nL (d + 1)) (hd : decode cc pc = .ok (.invokestatic idx, 3)) (hm : MS M 6) (hl : ML own idx M) (h8 : (rest.map fun v => v.category).sum ≤ 8) (hc : Ctr κ.2.1 Γ d M [a1, a2, a3, a4, a5, a6] S (pI post)) (k : ∀ (r : Int) (S2 : Sx), post r S2 → GW κ Γ (pc + 3) L (vI r :: rest) (wl Γ S2)) : GW κ Γ pc L (a6 :: a5 :: a4 :: a3 :: a2 :: a1 :: rest) (wl Γ S) := G_callS (As := [a1, a2, a3, a4, a5, a6]) hk hd hm hl rfl rfl h8 hc (by
  rintro v S2 ⟨r, rfl, h⟩
  exact k r S2 h)
theorem G_cV6J {a1 a2 a3 a4 a5 a6 : Value} {post : Int → Sx → Prop} (hk : Ok κ Γ own cc nL (d + 1)) (hd : decode cc pc = .ok (.invokevirtual idx, 3)) (hm : MV M 6) (hl : ML own idx M) {b ci : Nat} {ks : List (Nat ⊕ Bool)} (hb : b < 59) (hy : lay b = .inr (ci, ks)) (hcl : (cls[ci]?).map (fun r => r.1) = some M.1.cls) (h8 : (rest.map fun v => v.category).sum ≤ 8) (hc : Ctr κ.2.1 Γ d M [rf Γ b, a1, a2, a3, a4, a5, a6] S (pL post)) (k : ∀ (r : Int) (S2 : Sx), post r S2 → GW κ Γ (pc + 3) L (vL r :: rest) (wl Γ S2)) : GW κ Γ pc L (a6 :: a5 :: a4 :: a3 :: a2 :: a1 :: rf Γ b :: rest) (wl Γ S) := G_callV (As := [a1, a2, a3, a4, a5, a6]) hk hd hm hl hb hy hcl rfl rfl h8 hc (by
  rintro v S2 ⟨r, rfl, h⟩
  exact k r S2 h)
theorem G_cS6J {a1 a2 a3 a4 a5 a6 : Value} {post : Int → Sx → Prop} (hk : Ok κ Γ own cc nL (d + 1)) (hd : decode cc pc = .ok (.invokestatic idx, 3)) (hm : MS M 6) (hl : ML own idx M) (h8 : (rest.map fun v => v.category).sum ≤ 8) (hc : Ctr κ.2.1 Γ d M [a1, a2, a3, a4, a5, a6] S (pL post)) (k : ∀ (r : Int) (S2 : Sx), post r S2 → GW κ Γ (pc + 3) L (vL r :: rest) (wl Γ S2)) : GW κ Γ pc L (a6 :: a5 :: a4 :: a3 :: a2 :: a1 :: rest) (wl Γ S) := G_callS (As := [a1, a2, a3, a4, a5, a6]) hk hd hm hl rfl rfl h8 hc (by
  rintro v S2 ⟨r, rfl, h⟩
  exact k r S2 h)
theorem G_cV6V {a1 a2 a3 a4 a5 a6 : Value} {post : Sx → Prop} (hk : Ok κ Γ own cc nL (d + 1)) (hd : decode cc pc = .ok (.invokevirtual idx, 3)) (hm : MV M 6) (hl : ML own idx M) {b ci : Nat} {ks : List (Nat ⊕ Bool)} (hb : b < 59) (hy : lay b = .inr (ci, ks)) (hcl : (cls[ci]?).map (fun r => r.1) = some M.1.cls) (h8 : (rest.map fun v => v.category).sum ≤ 8) (hc : Ctr κ.2.1 Γ d M [rf Γ b, a1, a2, a3, a4, a5, a6] S (pV post)) (k : ∀ (S2 : Sx), post S2 → GW κ Γ (pc + 3) L rest (wl Γ S2)) : GW κ Γ pc L (a6 :: a5 :: a4 :: a3 :: a2 :: a1 :: rf Γ b :: rest) (wl Γ S) := G_callV (As := [a1, a2, a3, a4, a5, a6]) hk hd hm hl hb hy hcl rfl rfl h8 hc (by
  rintro v S2 ⟨rfl, h⟩
  exact k S2 h)
theorem G_cS6V {a1 a2 a3 a4 a5 a6 : Value} {post : Sx → Prop} (hk : Ok κ Γ own cc nL (d + 1)) (hd : decode cc pc = .ok (.invokestatic idx, 3)) (hm : MS M 6) (hl : ML own idx M) (h8 : (rest.map fun v => v.category).sum ≤ 8) (hc : Ctr κ.2.1 Γ d M [a1, a2, a3, a4, a5, a6] S (pV post)) (k : ∀ (S2 : Sx), post S2 → GW κ Γ (pc + 3) L rest (wl Γ S2)) : GW κ Γ pc L (a6 :: a5 :: a4 :: a3 :: a2 :: a1 :: rest) (wl Γ S) := G_callS (As := [a1, a2, a3, a4, a5, a6]) hk hd hm hl rfl rfl h8 hc (by
  rintro v S2 ⟨rfl, h⟩
  exact k S2 h)
theorem G_cV6P {a1 a2 a3 a4 a5 a6 : Value} {E : Int} (hk : Ok κ Γ own cc nL (d + 1)) (hd : decode cc pc = .ok (.invokevirtual idx, 3)) (hm : MV M 6) (hl : ML own idx M) {b ci : Nat} {ks : List (Nat ⊕ Bool)} (hb : b < 59) (hy : lay b = .inr (ci, ks)) (hcl : (cls[ci]?).map (fun r => r.1) = some M.1.cls) (h8 : (rest.map fun v => v.category).sum ≤ 8) (hc : Ctr κ.2.1 Γ d M [rf Γ b, a1, a2, a3, a4, a5, a6] S (pP S E)) (k : GW κ Γ (pc + 3) L (vI E :: rest) (wl Γ S)) : GW κ Γ pc L (a6 :: a5 :: a4 :: a3 :: a2 :: a1 :: rf Γ b :: rest) (wl Γ S) := G_callV (As := [a1, a2, a3, a4, a5, a6]) hk hd hm hl hb hy hcl rfl rfl h8 hc (by
  rintro v S2 ⟨r, rfl, rfl, rfl⟩
  exact k)
theorem G_cS6P {a1 a2 a3 a4 a5 a6 : Value} {E : Int} (hk : Ok κ Γ own cc nL (d + 1)) (hd : decode cc pc = .ok (.invokestatic idx, 3)) (hm : MS M 6) (hl : ML own idx M) (h8 : (rest.map fun v => v.category).sum ≤ 8) (hc : Ctr κ.2.1 Γ d M [a1, a2, a3, a4, a5, a6] S (pP S E)) (k : GW κ Γ (pc + 3) L (vI E :: rest) (wl Γ S)) : GW κ Γ pc L (a6 :: a5 :: a4 :: a3 :: a2 :: a1 :: rest) (wl Γ S) := G_callS (As := [a1, a2, a3, a4, a5, a6]) hk hd hm hl rfl rfl h8 hc (by
  rintro v S2 ⟨r, rfl, rfl, rfl⟩
  exact k)
variable {ws : va_W} {st : List Value}
theorem G_bif_eq {c : Prop} [Decidable c] {off : Int} {tgt : Nat} (hk : Ok κ Γ own cc nL d) (hd : decode cc pc = .ok (.ifCond .eq off, 3)) (ht : (pc : Int) + off = (tgt : Int)) (kt : ¬ c → GW κ Γ tgt L st ws) (kf : c → GW κ Γ (pc + 3) L st ws) : GW κ Γ pc L (vI (bz c) :: st) ws := G_if_eq hk hd ht (bz_r c) (fun h => kt (bz_0.mp h)) (fun h => kf (Decidable.not_not.mp (fun q => h (bz_0.mpr q))))
theorem G_bif_ne {c : Prop} [Decidable c] {off : Int} {tgt : Nat} (hk : Ok κ Γ own cc nL d) (hd : decode cc pc = .ok (.ifCond .ne off, 3)) (ht : (pc : Int) + off = (tgt : Int)) (kt : c → GW κ Γ tgt L st ws) (kf : ¬ c → GW κ Γ (pc + 3) L st ws) : GW κ Γ pc L (vI (bz c) :: st) ws := G_if_ne hk hd ht (bz_r c) (fun h => kt (Decidable.not_not.mp (fun q => h (bz_0.mpr q)))) (fun h => kf (bz_0.mp h))
end CALLS2
end
section
theorem tin1 {w : Cond} (h : w ∈ tables_1_1) : w ∈ lw_tbl := List.mem_append_right _ (List.mem_append_left _ h)
theorem tin2 {w : Cond} (h : w ∈ tables_1_2) : w ∈ lw_tbl := List.mem_append_right _ (List.mem_append_right _ (List.mem_append_left _ h))
theorem tin3 {w : Cond} (h : w ∈ tables_1_3) : w ∈ lw_tbl := List.mem_append_right _ (List.mem_append_right _ (List.mem_append_right _ (List.mem_append_left _ h)))
theorem tin4 {w : Cond} (h : w ∈ tables_1_4) : w ∈ lw_tbl := List.mem_append_right _ (List.mem_append_right _ (List.mem_append_right _ (List.mem_append_right _ (List.mem_append_left _ h))))
theorem tin5 {w : Cond} (h : w ∈ tables_1_5) : w ∈ lw_tbl := List.mem_append_right _ (List.mem_append_right _ (List.mem_append_right _ (List.mem_append_right _ (List.mem_append_right _ (List.mem_append_left _ h)))))
theorem tin6 {w : Cond} (h : w ∈ tables_1_6) : w ∈ lw_tbl := List.mem_append_right _ (List.mem_append_right _ (List.mem_append_right _ (List.mem_append_right _ (List.mem_append_right _ (List.mem_append_right _ (h))))))
abbrev mX10_init : Mth := (yX10_init, cX10_init, 2, none)
abbrev mX4_init : Mth := (yX4_init, cX4_init, 1, none)
abbrev mX5_init : Mth := (yX5_init, cX5_init, 1, none)
abbrev mX7_init : Mth := (yX7_init, cX7_init, 3, none)
abbrev mJ9_max_7cf53 : Mth := (yJ9_max_7cf53, cJ9_max_7cf53, 2, (some .int))
theorem msJ9_max_7cf53 : MS mJ9_max_7cf53 2 := ⟨⟨gt_in (tin1 (List.mem_of_getElem? (l := tables_1_1) (i := 64) (by decide +kernel))) rfl, gt_in (tin1 (List.mem_of_getElem? (l := tables_1_1) (i := 5) (by decide +kernel))) rfl, by decide, by decide +kernel, by decide +kernel, by decide +kernel⟩, gt_in (tin1 (List.mem_of_getElem? (l := tables_1_1) (i := 63) (by decide +kernel))) rfl⟩
abbrev mX0_init : Mth := (yX0_init, cX0_init, 1, none)
abbrev mX3_init : Mth := (yX3_init, cX3_init, 4, none)
abbrev mX6_init : Mth := (yX6_init, cX6_init, 1, none)
abbrev mX2_init : Mth := (yX2_init, cX2_init, 1, none)
abbrev mJ7_fill_53178 : Mth := (yJ7_fill_53178, cJ7_fill_53178, 4, none)
theorem msJ7_fill_53178 : MS mJ7_fill_53178 2 := ⟨⟨gt_in (tin1 (List.mem_of_getElem? (l := tables_1_1) (i := 173) (by decide +kernel))) rfl, gt_in (tin1 (List.mem_of_getElem? (l := tables_1_1) (i := 10) (by decide +kernel))) rfl, by decide, by decide +kernel, by decide +kernel, by decide +kernel⟩, gt_in (tin1 (List.mem_of_getElem? (l := tables_1_1) (i := 172) (by decide +kernel))) rfl⟩
abbrev mX9_init : Mth := (yX9_init, cX9_init, 1, none)
abbrev mX1_init : Mth := (yX1_init, cX1_init, 1, none)
abbrev mX8_init : Mth := (yX8_init, cX8_init, 1, none)
abbrev mX10_type : Mth := (yX10_type, cX10_type, 2, (some .int))
theorem mvX10_type : MV mX10_type 1 := ⟨⟨gt_in (tin2 (List.mem_of_getElem? (l := tables_1_2) (i := 33) (by decide +kernel))) rfl, gt_in (tin1 (List.mem_of_getElem? (l := tables_1_1) (i := 1) (by decide +kernel))) rfl, by decide, by decide +kernel, by decide +kernel, by decide +kernel⟩, gt_in (tin2 (List.mem_of_getElem? (l := tables_1_2) (i := 31) (by decide +kernel))) rfl, gt_in (tin2 (List.mem_of_getElem? (l := tables_1_2) (i := 32) (by decide +kernel))) rfl⟩
abbrev mX10_isWithin : Mth := (yX10_isWithin, cX10_isWithin, 3, (some .boolean))
theorem msX10_isWithin : MS mX10_isWithin 3 := ⟨⟨gt_in (tin2 (List.mem_of_getElem? (l := tables_1_2) (i := 36) (by decide +kernel))) rfl, gt_in (tin1 (List.mem_of_getElem? (l := tables_1_1) (i := 1) (by decide +kernel))) rfl, by decide, by decide +kernel, by decide +kernel, by decide +kernel⟩, gt_in (tin2 (List.mem_of_getElem? (l := tables_1_2) (i := 35) (by decide +kernel))) rfl⟩
abbrev mX4_length : Mth := (yX4_length, cX4_length, 1, (some .int))
theorem mvX4_length : MV mX4_length 0 := ⟨⟨gt_in (tin2 (List.mem_of_getElem? (l := tables_1_2) (i := 40) (by decide +kernel))) rfl, gt_in (tin1 (List.mem_of_getElem? (l := tables_1_1) (i := 2) (by decide +kernel))) rfl, by decide, by decide +kernel, by decide +kernel, by decide +kernel⟩, gt_in (tin2 (List.mem_of_getElem? (l := tables_1_2) (i := 38) (by decide +kernel))) rfl, gt_in (tin2 (List.mem_of_getElem? (l := tables_1_2) (i := 39) (by decide +kernel))) rfl⟩
abbrev mX4_append : Mth := (yX4_append, cX4_append, 2, none)
theorem mvX4_append : MV mX4_append 1 := ⟨⟨gt_in (tin2 (List.mem_of_getElem? (l := tables_1_2) (i := 44) (by decide +kernel))) rfl, gt_in (tin1 (List.mem_of_getElem? (l := tables_1_1) (i := 2) (by decide +kernel))) rfl, by decide, by decide +kernel, by decide +kernel, by decide +kernel⟩, gt_in (tin2 (List.mem_of_getElem? (l := tables_1_2) (i := 42) (by decide +kernel))) rfl, gt_in (tin2 (List.mem_of_getElem? (l := tables_1_2) (i := 43) (by decide +kernel))) rfl⟩
abbrev mX4_readText : Mth := (yX4_readText, cX4_readText, 5, none)
theorem mvX4_readText : MV mX4_readText 0 := ⟨⟨gt_in (tin2 (List.mem_of_getElem? (l := tables_1_2) (i := 48) (by decide +kernel))) rfl, gt_in (tin1 (List.mem_of_getElem? (l := tables_1_1) (i := 2) (by decide +kernel))) rfl, by decide, by decide +kernel, by decide +kernel, by decide +kernel⟩, gt_in (tin2 (List.mem_of_getElem? (l := tables_1_2) (i := 47) (by decide +kernel))) rfl, gt_in (List.mem_append_left _ (List.mem_of_getElem? (l := k2_sels lw_privs) (i := 0) (by decide +kernel))) rfl⟩
abbrev mX4_findFault : Mth := (yX4_findFault, cX4_findFault, 2, (some .int))
theorem mvX4_findFault : MV mX4_findFault 0 := ⟨⟨gt_in (tin2 (List.mem_of_getElem? (l := tables_1_2) (i := 52) (by decide +kernel))) rfl, gt_in (tin1 (List.mem_of_getElem? (l := tables_1_1) (i := 2) (by decide +kernel))) rfl, by decide, by decide +kernel, by decide +kernel, by decide +kernel⟩, gt_in (tin2 (List.mem_of_getElem? (l := tables_1_2) (i := 51) (by decide +kernel))) rfl, gt_in (List.mem_append_left _ (List.mem_of_getElem? (l := k2_sels lw_privs) (i := 1) (by decide +kernel))) rfl⟩
abbrev mX4_mayStand : Mth := (yX4_mayStand, cX4_mayStand, 2, (some .boolean))
theorem msX4_mayStand : MS mX4_mayStand 2 := ⟨⟨gt_in (tin2 (List.mem_of_getElem? (l := tables_1_2) (i := 55) (by decide +kernel))) rfl, gt_in (tin1 (List.mem_of_getElem? (l := tables_1_1) (i := 2) (by decide +kernel))) rfl, by decide, by decide +kernel, by decide +kernel, by decide +kernel⟩, gt_in (tin2 (List.mem_of_getElem? (l := tables_1_2) (i := 54) (by decide +kernel))) rfl⟩
abbrev mX10_wipe : Mth := (yX10_wipe, cX10_wipe, 2, (some .int))
theorem mvX10_wipe : MV mX10_wipe 0 := ⟨⟨gt_in (tin2 (List.mem_of_getElem? (l := tables_1_2) (i := 59) (by decide +kernel))) rfl, gt_in (tin1 (List.mem_of_getElem? (l := tables_1_1) (i := 1) (by decide +kernel))) rfl, by decide, by decide +kernel, by decide +kernel, by decide +kernel⟩, gt_in (tin2 (List.mem_of_getElem? (l := tables_1_2) (i := 57) (by decide +kernel))) rfl, gt_in (tin2 (List.mem_of_getElem? (l := tables_1_2) (i := 58) (by decide +kernel))) rfl⟩
abbrev mX4_cutTo : Mth := (yX4_cutTo, cX4_cutTo, 2, none)
theorem mvX4_cutTo : MV mX4_cutTo 1 := ⟨⟨gt_in (tin2 (List.mem_of_getElem? (l := tables_1_2) (i := 63) (by decide +kernel))) rfl, gt_in (tin1 (List.mem_of_getElem? (l := tables_1_1) (i := 2) (by decide +kernel))) rfl, by decide, by decide +kernel, by decide +kernel, by decide +kernel⟩, gt_in (tin2 (List.mem_of_getElem? (l := tables_1_2) (i := 61) (by decide +kernel))) rfl, gt_in (tin2 (List.mem_of_getElem? (l := tables_1_2) (i := 62) (by decide +kernel))) rfl⟩
abbrev mX10_undo : Mth := (yX10_undo, cX10_undo, 1, (some .int))
theorem mvX10_undo : MV mX10_undo 0 := ⟨⟨gt_in (tin2 (List.mem_of_getElem? (l := tables_1_2) (i := 67) (by decide +kernel))) rfl, gt_in (tin1 (List.mem_of_getElem? (l := tables_1_1) (i := 1) (by decide +kernel))) rfl, by decide, by decide +kernel, by decide +kernel, by decide +kernel⟩, gt_in (tin2 (List.mem_of_getElem? (l := tables_1_2) (i := 65) (by decide +kernel))) rfl, gt_in (tin2 (List.mem_of_getElem? (l := tables_1_2) (i := 66) (by decide +kernel))) rfl⟩
abbrev mX10_fault : Mth := (yX10_fault, cX10_fault, 1, (some .int))
theorem mvX10_fault : MV mX10_fault 0 := ⟨⟨gt_in (tin2 (List.mem_of_getElem? (l := tables_1_2) (i := 71) (by decide +kernel))) rfl, gt_in (tin1 (List.mem_of_getElem? (l := tables_1_1) (i := 1) (by decide +kernel))) rfl, by decide, by decide +kernel, by decide +kernel, by decide +kernel⟩, gt_in (tin2 (List.mem_of_getElem? (l := tables_1_2) (i := 69) (by decide +kernel))) rfl, gt_in (tin2 (List.mem_of_getElem? (l := tables_1_2) (i := 70) (by decide +kernel))) rfl⟩
abbrev mX4_faultPlace : Mth := (yX4_faultPlace, cX4_faultPlace, 1, (some .int))
theorem mvX4_faultPlace : MV mX4_faultPlace 0 := ⟨⟨gt_in (tin2 (List.mem_of_getElem? (l := tables_1_2) (i := 75) (by decide +kernel))) rfl, gt_in (tin1 (List.mem_of_getElem? (l := tables_1_1) (i := 2) (by decide +kernel))) rfl, by decide, by decide +kernel, by decide +kernel, by decide +kernel⟩, gt_in (tin2 (List.mem_of_getElem? (l := tables_1_2) (i := 73) (by decide +kernel))) rfl, gt_in (tin2 (List.mem_of_getElem? (l := tables_1_2) (i := 74) (by decide +kernel))) rfl⟩
abbrev mX10_person : Mth := (yX10_person, cX10_person, 3, (some .int))
theorem mvX10_person : MV mX10_person 2 := ⟨⟨gt_in (tin2 (List.mem_of_getElem? (l := tables_1_2) (i := 79) (by decide +kernel))) rfl, gt_in (tin1 (List.mem_of_getElem? (l := tables_1_1) (i := 1) (by decide +kernel))) rfl, by decide, by decide +kernel, by decide +kernel, by decide +kernel⟩, gt_in (tin2 (List.mem_of_getElem? (l := tables_1_2) (i := 77) (by decide +kernel))) rfl, gt_in (tin2 (List.mem_of_getElem? (l := tables_1_2) (i := 78) (by decide +kernel))) rfl⟩
abbrev mX4_has : Mth := (yX4_has, cX4_has, 2, (some .boolean))
theorem mvX4_has : MV mX4_has 1 := ⟨⟨gt_in (tin2 (List.mem_of_getElem? (l := tables_1_2) (i := 83) (by decide +kernel))) rfl, gt_in (tin1 (List.mem_of_getElem? (l := tables_1_1) (i := 2) (by decide +kernel))) rfl, by decide, by decide +kernel, by decide +kernel, by decide +kernel⟩, gt_in (tin2 (List.mem_of_getElem? (l := tables_1_2) (i := 81) (by decide +kernel))) rfl, gt_in (tin2 (List.mem_of_getElem? (l := tables_1_2) (i := 82) (by decide +kernel))) rfl⟩
abbrev mX4_solidAtFirst : Mth := (yX4_solidAtFirst, cX4_solidAtFirst, 2, (some .int))
theorem mvX4_solidAtFirst : MV mX4_solidAtFirst 1 := ⟨⟨gt_in (tin2 (List.mem_of_getElem? (l := tables_1_2) (i := 87) (by decide +kernel))) rfl, gt_in (tin1 (List.mem_of_getElem? (l := tables_1_1) (i := 2) (by decide +kernel))) rfl, by decide, by decide +kernel, by decide +kernel, by decide +kernel⟩, gt_in (tin2 (List.mem_of_getElem? (l := tables_1_2) (i := 85) (by decide +kernel))) rfl, gt_in (tin2 (List.mem_of_getElem? (l := tables_1_2) (i := 86) (by decide +kernel))) rfl⟩
abbrev mX4_twinOf : Mth := (yX4_twinOf, cX4_twinOf, 2, (some .int))
theorem mvX4_twinOf : MV mX4_twinOf 1 := ⟨⟨gt_in (tin2 (List.mem_of_getElem? (l := tables_1_2) (i := 92) (by decide +kernel))) rfl, gt_in (tin1 (List.mem_of_getElem? (l := tables_1_1) (i := 2) (by decide +kernel))) rfl, by decide, by decide +kernel, by decide +kernel, by decide +kernel⟩, gt_in (tin2 (List.mem_of_getElem? (l := tables_1_2) (i := 90) (by decide +kernel))) rfl, gt_in (tin2 (List.mem_of_getElem? (l := tables_1_2) (i := 91) (by decide +kernel))) rfl⟩
abbrev mX10_picture : Mth := (yX10_picture, cX10_picture, 5, (some .int))
theorem mvX10_picture : MV mX10_picture 4 := ⟨⟨gt_in (tin2 (List.mem_of_getElem? (l := tables_1_2) (i := 96) (by decide +kernel))) rfl, gt_in (tin1 (List.mem_of_getElem? (l := tables_1_1) (i := 1) (by decide +kernel))) rfl, by decide, by decide +kernel, by decide +kernel, by decide +kernel⟩, gt_in (tin2 (List.mem_of_getElem? (l := tables_1_2) (i := 94) (by decide +kernel))) rfl, gt_in (tin2 (List.mem_of_getElem? (l := tables_1_2) (i := 95) (by decide +kernel))) rfl⟩
abbrev mX10_isYear : Mth := (yX10_isYear, cX10_isYear, 1, (some .boolean))
theorem msX10_isYear : MS mX10_isYear 1 := ⟨⟨gt_in (tin2 (List.mem_of_getElem? (l := tables_1_2) (i := 99) (by decide +kernel))) rfl, gt_in (tin1 (List.mem_of_getElem? (l := tables_1_1) (i := 1) (by decide +kernel))) rfl, by decide, by decide +kernel, by decide +kernel, by decide +kernel⟩, gt_in (tin2 (List.mem_of_getElem? (l := tables_1_2) (i := 98) (by decide +kernel))) rfl⟩
abbrev mX10_isSize : Mth := (yX10_isSize, cX10_isSize, 1, (some .boolean))
theorem msX10_isSize : MS mX10_isSize 1 := ⟨⟨gt_in (tin2 (List.mem_of_getElem? (l := tables_1_2) (i := 102) (by decide +kernel))) rfl, gt_in (tin1 (List.mem_of_getElem? (l := tables_1_1) (i := 1) (by decide +kernel))) rfl, by decide, by decide +kernel, by decide +kernel, by decide +kernel⟩, gt_in (tin2 (List.mem_of_getElem? (l := tables_1_2) (i := 101) (by decide +kernel))) rfl⟩
abbrev mX10_isDrawer : Mth := (yX10_isDrawer, cX10_isDrawer, 1, (some .boolean))
theorem msX10_isDrawer : MS mX10_isDrawer 1 := ⟨⟨gt_in (tin2 (List.mem_of_getElem? (l := tables_1_2) (i := 105) (by decide +kernel))) rfl, gt_in (tin1 (List.mem_of_getElem? (l := tables_1_1) (i := 1) (by decide +kernel))) rfl, by decide, by decide +kernel, by decide +kernel, by decide +kernel⟩, gt_in (tin2 (List.mem_of_getElem? (l := tables_1_2) (i := 104) (by decide +kernel))) rfl⟩
abbrev mX5_add : Mth := (yX5_add, cX5_add, 6, (some .boolean))
theorem mvX5_add : MV mX5_add 4 := ⟨⟨gt_in (tin2 (List.mem_of_getElem? (l := tables_1_2) (i := 109) (by decide +kernel))) rfl, gt_in (tin1 (List.mem_of_getElem? (l := tables_1_1) (i := 3) (by decide +kernel))) rfl, by decide, by decide +kernel, by decide +kernel, by decide +kernel⟩, gt_in (tin2 (List.mem_of_getElem? (l := tables_1_2) (i := 107) (by decide +kernel))) rfl, gt_in (tin2 (List.mem_of_getElem? (l := tables_1_2) (i := 108) (by decide +kernel))) rfl⟩
abbrev mX7_howMany : Mth := (yX7_howMany, cX7_howMany, 1, (some .int))
theorem mvX7_howMany : MV mX7_howMany 0 := ⟨⟨gt_in (tin2 (List.mem_of_getElem? (l := tables_1_2) (i := 113) (by decide +kernel))) rfl, gt_in (tin1 (List.mem_of_getElem? (l := tables_1_1) (i := 4) (by decide +kernel))) rfl, by decide, by decide +kernel, by decide +kernel, by decide +kernel⟩, gt_in (tin2 (List.mem_of_getElem? (l := tables_1_2) (i := 111) (by decide +kernel))) rfl, gt_in (tin2 (List.mem_of_getElem? (l := tables_1_2) (i := 112) (by decide +kernel))) rfl⟩
abbrev mX7_add : Mth := (yX7_add, cX7_add, 3, none)
theorem mvX7_add : MV mX7_add 1 := ⟨⟨gt_in (tin2 (List.mem_of_getElem? (l := tables_1_2) (i := 117) (by decide +kernel))) rfl, gt_in (tin1 (List.mem_of_getElem? (l := tables_1_1) (i := 4) (by decide +kernel))) rfl, by decide, by decide +kernel, by decide +kernel, by decide +kernel⟩, gt_in (tin2 (List.mem_of_getElem? (l := tables_1_2) (i := 115) (by decide +kernel))) rfl, gt_in (tin2 (List.mem_of_getElem? (l := tables_1_2) (i := 116) (by decide +kernel))) rfl⟩
abbrev mX7_isFull : Mth := (yX7_isFull, cX7_isFull, 1, (some .boolean))
theorem mvX7_isFull : MV mX7_isFull 0 := ⟨⟨gt_in (tin2 (List.mem_of_getElem? (l := tables_1_2) (i := 121) (by decide +kernel))) rfl, gt_in (tin1 (List.mem_of_getElem? (l := tables_1_1) (i := 4) (by decide +kernel))) rfl, by decide, by decide +kernel, by decide +kernel, by decide +kernel⟩, gt_in (tin2 (List.mem_of_getElem? (l := tables_1_2) (i := 119) (by decide +kernel))) rfl, gt_in (tin2 (List.mem_of_getElem? (l := tables_1_2) (i := 120) (by decide +kernel))) rfl⟩
abbrev mX7_yearAt : Mth := (yX7_yearAt, cX7_yearAt, 2, (some .int))
theorem mvX7_yearAt : MV mX7_yearAt 1 := ⟨⟨gt_in (tin2 (List.mem_of_getElem? (l := tables_1_2) (i := 125) (by decide +kernel))) rfl, gt_in (tin1 (List.mem_of_getElem? (l := tables_1_1) (i := 4) (by decide +kernel))) rfl, by decide, by decide +kernel, by decide +kernel, by decide +kernel⟩, gt_in (tin2 (List.mem_of_getElem? (l := tables_1_2) (i := 123) (by decide +kernel))) rfl, gt_in (tin2 (List.mem_of_getElem? (l := tables_1_2) (i := 124) (by decide +kernel))) rfl⟩
abbrev mX5_howMany : Mth := (yX5_howMany, cX5_howMany, 1, (some .int))
theorem mvX5_howMany : MV mX5_howMany 0 := ⟨⟨gt_in (tin2 (List.mem_of_getElem? (l := tables_1_2) (i := 129) (by decide +kernel))) rfl, gt_in (tin1 (List.mem_of_getElem? (l := tables_1_1) (i := 3) (by decide +kernel))) rfl, by decide, by decide +kernel, by decide +kernel, by decide +kernel⟩, gt_in (tin2 (List.mem_of_getElem? (l := tables_1_2) (i := 127) (by decide +kernel))) rfl, gt_in (tin2 (List.mem_of_getElem? (l := tables_1_2) (i := 128) (by decide +kernel))) rfl⟩
abbrev mX10_burn : Mth := (yX10_burn, cX10_burn, 3, (some .int))
theorem mvX10_burn : MV mX10_burn 2 := ⟨⟨gt_in (tin2 (List.mem_of_getElem? (l := tables_1_2) (i := 133) (by decide +kernel))) rfl, gt_in (tin1 (List.mem_of_getElem? (l := tables_1_1) (i := 1) (by decide +kernel))) rfl, by decide, by decide +kernel, by decide +kernel, by decide +kernel⟩, gt_in (tin2 (List.mem_of_getElem? (l := tables_1_2) (i := 131) (by decide +kernel))) rfl, gt_in (tin2 (List.mem_of_getElem? (l := tables_1_2) (i := 132) (by decide +kernel))) rfl⟩
abbrev mX0_add : Mth := (yX0_add, cX0_add, 4, (some .boolean))
theorem mvX0_add : MV mX0_add 2 := ⟨⟨gt_in (tin2 (List.mem_of_getElem? (l := tables_1_2) (i := 137) (by decide +kernel))) rfl, gt_in (tin1 (List.mem_of_getElem? (l := tables_1_1) (i := 6) (by decide +kernel))) rfl, by decide, by decide +kernel, by decide +kernel, by decide +kernel⟩, gt_in (tin2 (List.mem_of_getElem? (l := tables_1_2) (i := 135) (by decide +kernel))) rfl, gt_in (tin2 (List.mem_of_getElem? (l := tables_1_2) (i := 136) (by decide +kernel))) rfl⟩
abbrev mX0_howMany : Mth := (yX0_howMany, cX0_howMany, 1, (some .int))
theorem mvX0_howMany : MV mX0_howMany 0 := ⟨⟨gt_in (tin2 (List.mem_of_getElem? (l := tables_1_2) (i := 143) (by decide +kernel))) rfl, gt_in (tin1 (List.mem_of_getElem? (l := tables_1_1) (i := 6) (by decide +kernel))) rfl, by decide, by decide +kernel, by decide +kernel, by decide +kernel⟩, gt_in (tin2 (List.mem_of_getElem? (l := tables_1_2) (i := 141) (by decide +kernel))) rfl, gt_in (tin2 (List.mem_of_getElem? (l := tables_1_2) (i := 142) (by decide +kernel))) rfl⟩
abbrev mX10_back : Mth := (yX10_back, cX10_back, 3, (some .int))
theorem mvX10_back : MV mX10_back 1 := ⟨⟨gt_in (tin2 (List.mem_of_getElem? (l := tables_1_2) (i := 147) (by decide +kernel))) rfl, gt_in (tin1 (List.mem_of_getElem? (l := tables_1_1) (i := 1) (by decide +kernel))) rfl, by decide, by decide +kernel, by decide +kernel, by decide +kernel⟩, gt_in (tin2 (List.mem_of_getElem? (l := tables_1_2) (i := 145) (by decide +kernel))) rfl, gt_in (tin2 (List.mem_of_getElem? (l := tables_1_2) (i := 146) (by decide +kernel))) rfl⟩
abbrev mX7_dropLast : Mth := (yX7_dropLast, cX7_dropLast, 4, (some .boolean))
theorem mvX7_dropLast : MV mX7_dropLast 0 := ⟨⟨gt_in (tin2 (List.mem_of_getElem? (l := tables_1_2) (i := 151) (by decide +kernel))) rfl, gt_in (tin1 (List.mem_of_getElem? (l := tables_1_1) (i := 4) (by decide +kernel))) rfl, by decide, by decide +kernel, by decide +kernel, by decide +kernel⟩, gt_in (tin2 (List.mem_of_getElem? (l := tables_1_2) (i := 149) (by decide +kernel))) rfl, gt_in (tin2 (List.mem_of_getElem? (l := tables_1_2) (i := 150) (by decide +kernel))) rfl⟩
abbrev mX10_faint : Mth := (yX10_faint, cX10_faint, 3, (some .int))
theorem mvX10_faint : MV mX10_faint 1 := ⟨⟨gt_in (tin2 (List.mem_of_getElem? (l := tables_1_2) (i := 156) (by decide +kernel))) rfl, gt_in (tin1 (List.mem_of_getElem? (l := tables_1_1) (i := 1) (by decide +kernel))) rfl, by decide, by decide +kernel, by decide +kernel, by decide +kernel⟩, gt_in (tin2 (List.mem_of_getElem? (l := tables_1_2) (i := 154) (by decide +kernel))) rfl, gt_in (tin2 (List.mem_of_getElem? (l := tables_1_2) (i := 155) (by decide +kernel))) rfl⟩
abbrev mX10_want : Mth := (yX10_want, cX10_want, 3, (some .int))
theorem mvX10_want : MV mX10_want 2 := ⟨⟨gt_in (tin2 (List.mem_of_getElem? (l := tables_1_2) (i := 160) (by decide +kernel))) rfl, gt_in (tin1 (List.mem_of_getElem? (l := tables_1_1) (i := 1) (by decide +kernel))) rfl, by decide, by decide +kernel, by decide +kernel, by decide +kernel⟩, gt_in (tin2 (List.mem_of_getElem? (l := tables_1_2) (i := 158) (by decide +kernel))) rfl, gt_in (tin2 (List.mem_of_getElem? (l := tables_1_2) (i := 159) (by decide +kernel))) rfl⟩
abbrev mX2_changeWant : Mth := (yX2_changeWant, cX2_changeWant, 4, (some .int))
theorem mvX2_changeWant : MV mX2_changeWant 2 := ⟨⟨gt_in (tin2 (List.mem_of_getElem? (l := tables_1_2) (i := 164) (by decide +kernel))) rfl, gt_in (tin1 (List.mem_of_getElem? (l := tables_1_1) (i := 9) (by decide +kernel))) rfl, by decide, by decide +kernel, by decide +kernel, by decide +kernel⟩, gt_in (tin2 (List.mem_of_getElem? (l := tables_1_2) (i := 162) (by decide +kernel))) rfl, gt_in (tin2 (List.mem_of_getElem? (l := tables_1_2) (i := 163) (by decide +kernel))) rfl⟩
abbrev mX10_solid : Mth := (yX10_solid, cX10_solid, 3, (some .int))
theorem mvX10_solid : MV mX10_solid 2 := ⟨⟨gt_in (tin2 (List.mem_of_getElem? (l := tables_1_2) (i := 168) (by decide +kernel))) rfl, gt_in (tin1 (List.mem_of_getElem? (l := tables_1_1) (i := 1) (by decide +kernel))) rfl, by decide, by decide +kernel, by decide +kernel, by decide +kernel⟩, gt_in (tin2 (List.mem_of_getElem? (l := tables_1_2) (i := 166) (by decide +kernel))) rfl, gt_in (tin2 (List.mem_of_getElem? (l := tables_1_2) (i := 167) (by decide +kernel))) rfl⟩
abbrev mX3_goThrough : Mth := (yX3_goThrough, cX3_goThrough, 3, none)
theorem mvX3_goThrough : MV mX3_goThrough 1 := ⟨⟨gt_in (tin2 (List.mem_of_getElem? (l := tables_1_2) (i := 172) (by decide +kernel))) rfl, gt_in (tin1 (List.mem_of_getElem? (l := tables_1_1) (i := 7) (by decide +kernel))) rfl, by decide, by decide +kernel, by decide +kernel, by decide +kernel⟩, gt_in (tin2 (List.mem_of_getElem? (l := tables_1_2) (i := 170) (by decide +kernel))) rfl, gt_in (tin2 (List.mem_of_getElem? (l := tables_1_2) (i := 171) (by decide +kernel))) rfl⟩
abbrev mX3_begin : Mth := (yX3_begin, cX3_begin, 1, none)
theorem mvX3_begin : MV mX3_begin 0 := ⟨⟨gt_in (tin2 (List.mem_of_getElem? (l := tables_1_2) (i := 176) (by decide +kernel))) rfl, gt_in (tin1 (List.mem_of_getElem? (l := tables_1_1) (i := 7) (by decide +kernel))) rfl, by decide, by decide +kernel, by decide +kernel, by decide +kernel⟩, gt_in (tin2 (List.mem_of_getElem? (l := tables_1_2) (i := 174) (by decide +kernel))) rfl, gt_in (tin2 (List.mem_of_getElem? (l := tables_1_2) (i := 175) (by decide +kernel))) rfl⟩
abbrev mX3_beginAltered : Mth := (yX3_beginAltered, cX3_beginAltered, 4, none)
theorem mvX3_beginAltered : MV mX3_beginAltered 2 := ⟨⟨gt_in (tin2 (List.mem_of_getElem? (l := tables_1_2) (i := 180) (by decide +kernel))) rfl, gt_in (tin1 (List.mem_of_getElem? (l := tables_1_1) (i := 7) (by decide +kernel))) rfl, by decide, by decide +kernel, by decide +kernel, by decide +kernel⟩, gt_in (tin2 (List.mem_of_getElem? (l := tables_1_2) (i := 178) (by decide +kernel))) rfl, gt_in (tin2 (List.mem_of_getElem? (l := tables_1_2) (i := 179) (by decide +kernel))) rfl⟩
abbrev mX3_takeAllOf : Mth := (yX3_takeAllOf, cX3_takeAllOf, 2, none)
theorem mvX3_takeAllOf : MV mX3_takeAllOf 1 := ⟨⟨gt_in (tin2 (List.mem_of_getElem? (l := tables_1_2) (i := 186) (by decide +kernel))) rfl, gt_in (tin1 (List.mem_of_getElem? (l := tables_1_1) (i := 7) (by decide +kernel))) rfl, by decide, by decide +kernel, by decide +kernel, by decide +kernel⟩, gt_in (tin2 (List.mem_of_getElem? (l := tables_1_2) (i := 184) (by decide +kernel))) rfl, gt_in (tin2 (List.mem_of_getElem? (l := tables_1_2) (i := 185) (by decide +kernel))) rfl⟩
abbrev mX7_numberAt : Mth := (yX7_numberAt, cX7_numberAt, 2, (some .int))
theorem mvX7_numberAt : MV mX7_numberAt 1 := ⟨⟨gt_in (tin2 (List.mem_of_getElem? (l := tables_1_2) (i := 192) (by decide +kernel))) rfl, gt_in (tin1 (List.mem_of_getElem? (l := tables_1_1) (i := 4) (by decide +kernel))) rfl, by decide, by decide +kernel, by decide +kernel, by decide +kernel⟩, gt_in (tin2 (List.mem_of_getElem? (l := tables_1_2) (i := 190) (by decide +kernel))) rfl, gt_in (tin2 (List.mem_of_getElem? (l := tables_1_2) (i := 191) (by decide +kernel))) rfl⟩
abbrev mX3_takePicture : Mth := (yX3_takePicture, cX3_takePicture, 4, none)
theorem mvX3_takePicture : MV mX3_takePicture 1 := ⟨⟨gt_in (tin2 (List.mem_of_getElem? (l := tables_1_2) (i := 196) (by decide +kernel))) rfl, gt_in (tin1 (List.mem_of_getElem? (l := tables_1_1) (i := 7) (by decide +kernel))) rfl, by decide, by decide +kernel, by decide +kernel, by decide +kernel⟩, gt_in (tin2 (List.mem_of_getElem? (l := tables_1_2) (i := 195) (by decide +kernel))) rfl, gt_in (List.mem_append_left _ (List.mem_of_getElem? (l := k2_sels lw_privs) (i := 2) (by decide +kernel))) rfl⟩
abbrev mX5_personOn : Mth := (yX5_personOn, cX5_personOn, 2, (some .int))
theorem mvX5_personOn : MV mX5_personOn 1 := ⟨⟨gt_in (tin2 (List.mem_of_getElem? (l := tables_1_2) (i := 200) (by decide +kernel))) rfl, gt_in (tin1 (List.mem_of_getElem? (l := tables_1_1) (i := 3) (by decide +kernel))) rfl, by decide, by decide +kernel, by decide +kernel, by decide +kernel⟩, gt_in (tin2 (List.mem_of_getElem? (l := tables_1_2) (i := 198) (by decide +kernel))) rfl, gt_in (tin2 (List.mem_of_getElem? (l := tables_1_2) (i := 199) (by decide +kernel))) rfl⟩
abbrev mX5_has : Mth := (yX5_has, cX5_has, 2, (some .boolean))
theorem mvX5_has : MV mX5_has 1 := ⟨⟨gt_in (tin2 (List.mem_of_getElem? (l := tables_1_2) (i := 204) (by decide +kernel))) rfl, gt_in (tin1 (List.mem_of_getElem? (l := tables_1_1) (i := 3) (by decide +kernel))) rfl, by decide, by decide +kernel, by decide +kernel, by decide +kernel⟩, gt_in (tin2 (List.mem_of_getElem? (l := tables_1_2) (i := 202) (by decide +kernel))) rfl, gt_in (tin2 (List.mem_of_getElem? (l := tables_1_2) (i := 203) (by decide +kernel))) rfl⟩
abbrev mX5_sizeOf : Mth := (yX5_sizeOf, cX5_sizeOf, 2, (some .int))
theorem mvX5_sizeOf : MV mX5_sizeOf 1 := ⟨⟨gt_in (tin2 (List.mem_of_getElem? (l := tables_1_2) (i := 208) (by decide +kernel))) rfl, gt_in (tin1 (List.mem_of_getElem? (l := tables_1_1) (i := 3) (by decide +kernel))) rfl, by decide, by decide +kernel, by decide +kernel, by decide +kernel⟩, gt_in (tin2 (List.mem_of_getElem? (l := tables_1_2) (i := 206) (by decide +kernel))) rfl, gt_in (tin2 (List.mem_of_getElem? (l := tables_1_2) (i := 207) (by decide +kernel))) rfl⟩
abbrev mX3_isNumber : Mth := (yX3_isNumber, cX3_isNumber, 1, (some .boolean))
theorem msX3_isNumber : MS mX3_isNumber 1 := ⟨⟨gt_in (tin2 (List.mem_of_getElem? (l := tables_1_2) (i := 211) (by decide +kernel))) rfl, gt_in (tin1 (List.mem_of_getElem? (l := tables_1_1) (i := 7) (by decide +kernel))) rfl, by decide, by decide +kernel, by decide +kernel, by decide +kernel⟩, gt_in (tin2 (List.mem_of_getElem? (l := tables_1_2) (i := 210) (by decide +kernel))) rfl⟩
abbrev mX3_takeFrom : Mth := (yX3_takeFrom, cX3_takeFrom, 4, (some .int))
theorem mvX3_takeFrom : MV mX3_takeFrom 2 := ⟨⟨gt_in (tin2 (List.mem_of_getElem? (l := tables_1_2) (i := 216) (by decide +kernel))) rfl, gt_in (tin1 (List.mem_of_getElem? (l := tables_1_1) (i := 7) (by decide +kernel))) rfl, by decide, by decide +kernel, by decide +kernel, by decide +kernel⟩, gt_in (tin2 (List.mem_of_getElem? (l := tables_1_2) (i := 215) (by decide +kernel))) rfl, gt_in (List.mem_append_left _ (List.mem_of_getElem? (l := k2_sels lw_privs) (i := 3) (by decide +kernel))) rfl⟩
abbrev mJ9_min_7cf53 : Mth := (yJ9_min_7cf53, cJ9_min_7cf53, 2, (some .int))
theorem msJ9_min_7cf53 : MS mJ9_min_7cf53 2 := ⟨⟨gt_in (tin2 (List.mem_of_getElem? (l := tables_1_2) (i := 219) (by decide +kernel))) rfl, gt_in (tin1 (List.mem_of_getElem? (l := tables_1_1) (i := 5) (by decide +kernel))) rfl, by decide, by decide +kernel, by decide +kernel, by decide +kernel⟩, gt_in (tin2 (List.mem_of_getElem? (l := tables_1_2) (i := 218) (by decide +kernel))) rfl⟩
abbrev mX3_burnAllOf : Mth := (yX3_burnAllOf, cX3_burnAllOf, 2, none)
theorem mvX3_burnAllOf : MV mX3_burnAllOf 1 := ⟨⟨gt_in (tin2 (List.mem_of_getElem? (l := tables_1_2) (i := 224) (by decide +kernel))) rfl, gt_in (tin1 (List.mem_of_getElem? (l := tables_1_1) (i := 7) (by decide +kernel))) rfl, by decide, by decide +kernel, by decide +kernel, by decide +kernel⟩, gt_in (tin2 (List.mem_of_getElem? (l := tables_1_2) (i := 222) (by decide +kernel))) rfl, gt_in (tin2 (List.mem_of_getElem? (l := tables_1_2) (i := 223) (by decide +kernel))) rfl⟩
abbrev mX0_pictureOf : Mth := (yX0_pictureOf, cX0_pictureOf, 2, (some .int))
theorem mvX0_pictureOf : MV mX0_pictureOf 1 := ⟨⟨gt_in (tin2 (List.mem_of_getElem? (l := tables_1_2) (i := 229) (by decide +kernel))) rfl, gt_in (tin1 (List.mem_of_getElem? (l := tables_1_1) (i := 6) (by decide +kernel))) rfl, by decide, by decide +kernel, by decide +kernel, by decide +kernel⟩, gt_in (tin2 (List.mem_of_getElem? (l := tables_1_2) (i := 227) (by decide +kernel))) rfl, gt_in (tin2 (List.mem_of_getElem? (l := tables_1_2) (i := 228) (by decide +kernel))) rfl⟩
abbrev mX3_burnPicture : Mth := (yX3_burnPicture, cX3_burnPicture, 3, none)
theorem mvX3_burnPicture : MV mX3_burnPicture 1 := ⟨⟨gt_in (tin2 (List.mem_of_getElem? (l := tables_1_2) (i := 233) (by decide +kernel))) rfl, gt_in (tin1 (List.mem_of_getElem? (l := tables_1_1) (i := 7) (by decide +kernel))) rfl, by decide, by decide +kernel, by decide +kernel, by decide +kernel⟩, gt_in (tin2 (List.mem_of_getElem? (l := tables_1_2) (i := 232) (by decide +kernel))) rfl, gt_in (List.mem_append_left _ (List.mem_of_getElem? (l := k2_sels lw_privs) (i := 4) (by decide +kernel))) rfl⟩
abbrev mX3_isThere : Mth := (yX3_isThere, cX3_isThere, 2, (some .boolean))
theorem mvX3_isThere : MV mX3_isThere 1 := ⟨⟨gt_in (tin2 (List.mem_of_getElem? (l := tables_1_2) (i := 237) (by decide +kernel))) rfl, gt_in (tin1 (List.mem_of_getElem? (l := tables_1_1) (i := 7) (by decide +kernel))) rfl, by decide, by decide +kernel, by decide +kernel, by decide +kernel⟩, gt_in (tin2 (List.mem_of_getElem? (l := tables_1_2) (i := 235) (by decide +kernel))) rfl, gt_in (tin2 (List.mem_of_getElem? (l := tables_1_2) (i := 236) (by decide +kernel))) rfl⟩
abbrev mX3_thereBits : Mth := (yX3_thereBits, cX3_thereBits, 1, (some .int))
theorem mvX3_thereBits : MV mX3_thereBits 0 := ⟨⟨gt_in (tin3 (List.mem_of_getElem? (l := tables_1_3) (i := 1) (by decide +kernel))) rfl, gt_in (tin1 (List.mem_of_getElem? (l := tables_1_1) (i := 7) (by decide +kernel))) rfl, by decide, by decide +kernel, by decide +kernel, by decide +kernel⟩, gt_in (tin2 (List.mem_of_getElem? (l := tables_1_2) (i := 239) (by decide +kernel))) rfl, gt_in (tin3 (List.mem_of_getElem? (l := tables_1_3) (i := 0) (by decide +kernel))) rfl⟩
abbrev mX3_giveTo : Mth := (yX3_giveTo, cX3_giveTo, 3, none)
theorem mvX3_giveTo : MV mX3_giveTo 2 := ⟨⟨gt_in (tin3 (List.mem_of_getElem? (l := tables_1_3) (i := 5) (by decide +kernel))) rfl, gt_in (tin1 (List.mem_of_getElem? (l := tables_1_1) (i := 7) (by decide +kernel))) rfl, by decide, by decide +kernel, by decide +kernel, by decide +kernel⟩, gt_in (tin3 (List.mem_of_getElem? (l := tables_1_3) (i := 4) (by decide +kernel))) rfl, gt_in (List.mem_append_left _ (List.mem_of_getElem? (l := k2_sels lw_privs) (i := 5) (by decide +kernel))) rfl⟩
abbrev mX3_solidOf : Mth := (yX3_solidOf, cX3_solidOf, 2, (some .int))
theorem mvX3_solidOf : MV mX3_solidOf 1 := ⟨⟨gt_in (tin3 (List.mem_of_getElem? (l := tables_1_3) (i := 9) (by decide +kernel))) rfl, gt_in (tin1 (List.mem_of_getElem? (l := tables_1_1) (i := 7) (by decide +kernel))) rfl, by decide, by decide +kernel, by decide +kernel, by decide +kernel⟩, gt_in (tin3 (List.mem_of_getElem? (l := tables_1_3) (i := 7) (by decide +kernel))) rfl, gt_in (tin3 (List.mem_of_getElem? (l := tables_1_3) (i := 8) (by decide +kernel))) rfl⟩
abbrev mX10_behind : Mth := (yX10_behind, cX10_behind, 3, (some .int))
theorem mvX10_behind : MV mX10_behind 2 := ⟨⟨gt_in (tin3 (List.mem_of_getElem? (l := tables_1_3) (i := 13) (by decide +kernel))) rfl, gt_in (tin1 (List.mem_of_getElem? (l := tables_1_1) (i := 1) (by decide +kernel))) rfl, by decide, by decide +kernel, by decide +kernel, by decide +kernel⟩, gt_in (tin3 (List.mem_of_getElem? (l := tables_1_3) (i := 11) (by decide +kernel))) rfl, gt_in (tin3 (List.mem_of_getElem? (l := tables_1_3) (i := 12) (by decide +kernel))) rfl⟩
abbrev mX3_unseenBits : Mth := (yX3_unseenBits, cX3_unseenBits, 4, (some .int))
theorem mvX3_unseenBits : MV mX3_unseenBits 1 := ⟨⟨gt_in (tin3 (List.mem_of_getElem? (l := tables_1_3) (i := 17) (by decide +kernel))) rfl, gt_in (tin1 (List.mem_of_getElem? (l := tables_1_1) (i := 7) (by decide +kernel))) rfl, by decide, by decide +kernel, by decide +kernel, by decide +kernel⟩, gt_in (tin3 (List.mem_of_getElem? (l := tables_1_3) (i := 15) (by decide +kernel))) rfl, gt_in (tin3 (List.mem_of_getElem? (l := tables_1_3) (i := 16) (by decide +kernel))) rfl⟩
abbrev mX4_howMany : Mth := (yX4_howMany, cX4_howMany, 1, (some .int))
theorem mvX4_howMany : MV mX4_howMany 0 := ⟨⟨gt_in (tin3 (List.mem_of_getElem? (l := tables_1_3) (i := 21) (by decide +kernel))) rfl, gt_in (tin1 (List.mem_of_getElem? (l := tables_1_1) (i := 2) (by decide +kernel))) rfl, by decide, by decide +kernel, by decide +kernel, by decide +kernel⟩, gt_in (tin3 (List.mem_of_getElem? (l := tables_1_3) (i := 19) (by decide +kernel))) rfl, gt_in (tin3 (List.mem_of_getElem? (l := tables_1_3) (i := 20) (by decide +kernel))) rfl⟩
abbrev mX3_allTogether : Mth := (yX3_allTogether, cX3_allTogether, 3, (some .int))
theorem mvX3_allTogether : MV mX3_allTogether 0 := ⟨⟨gt_in (tin3 (List.mem_of_getElem? (l := tables_1_3) (i := 26) (by decide +kernel))) rfl, gt_in (tin1 (List.mem_of_getElem? (l := tables_1_1) (i := 7) (by decide +kernel))) rfl, by decide, by decide +kernel, by decide +kernel, by decide +kernel⟩, gt_in (tin3 (List.mem_of_getElem? (l := tables_1_3) (i := 24) (by decide +kernel))) rfl, gt_in (tin3 (List.mem_of_getElem? (l := tables_1_3) (i := 25) (by decide +kernel))) rfl⟩
abbrev mX3_heldBy : Mth := (yX3_heldBy, cX3_heldBy, 4, (some .int))
theorem mvX3_heldBy : MV mX3_heldBy 1 := ⟨⟨gt_in (tin3 (List.mem_of_getElem? (l := tables_1_3) (i := 30) (by decide +kernel))) rfl, gt_in (tin1 (List.mem_of_getElem? (l := tables_1_1) (i := 7) (by decide +kernel))) rfl, by decide, by decide +kernel, by decide +kernel, by decide +kernel⟩, gt_in (tin3 (List.mem_of_getElem? (l := tables_1_3) (i := 28) (by decide +kernel))) rfl, gt_in (tin3 (List.mem_of_getElem? (l := tables_1_3) (i := 29) (by decide +kernel))) rfl⟩
abbrev mX5_drawerOf : Mth := (yX5_drawerOf, cX5_drawerOf, 2, (some .int))
theorem mvX5_drawerOf : MV mX5_drawerOf 1 := ⟨⟨gt_in (tin3 (List.mem_of_getElem? (l := tables_1_3) (i := 34) (by decide +kernel))) rfl, gt_in (tin1 (List.mem_of_getElem? (l := tables_1_1) (i := 3) (by decide +kernel))) rfl, by decide, by decide +kernel, by decide +kernel, by decide +kernel⟩, gt_in (tin3 (List.mem_of_getElem? (l := tables_1_3) (i := 32) (by decide +kernel))) rfl, gt_in (tin3 (List.mem_of_getElem? (l := tables_1_3) (i := 33) (by decide +kernel))) rfl⟩
abbrev mX3_tookOfBoth : Mth := (yX3_tookOfBoth, cX3_tookOfBoth, 2, (some .int))
theorem mvX3_tookOfBoth : MV mX3_tookOfBoth 1 := ⟨⟨gt_in (tin3 (List.mem_of_getElem? (l := tables_1_3) (i := 38) (by decide +kernel))) rfl, gt_in (tin1 (List.mem_of_getElem? (l := tables_1_1) (i := 7) (by decide +kernel))) rfl, by decide, by decide +kernel, by decide +kernel, by decide +kernel⟩, gt_in (tin3 (List.mem_of_getElem? (l := tables_1_3) (i := 36) (by decide +kernel))) rfl, gt_in (tin3 (List.mem_of_getElem? (l := tables_1_3) (i := 37) (by decide +kernel))) rfl⟩
abbrev mX3_tookOfPerson : Mth := (yX3_tookOfPerson, cX3_tookOfPerson, 2, (some .int))
theorem mvX3_tookOfPerson : MV mX3_tookOfPerson 1 := ⟨⟨gt_in (tin3 (List.mem_of_getElem? (l := tables_1_3) (i := 42) (by decide +kernel))) rfl, gt_in (tin1 (List.mem_of_getElem? (l := tables_1_1) (i := 7) (by decide +kernel))) rfl, by decide, by decide +kernel, by decide +kernel, by decide +kernel⟩, gt_in (tin3 (List.mem_of_getElem? (l := tables_1_3) (i := 40) (by decide +kernel))) rfl, gt_in (tin3 (List.mem_of_getElem? (l := tables_1_3) (i := 41) (by decide +kernel))) rfl⟩
abbrev mX3_tookOfTwin : Mth := (yX3_tookOfTwin, cX3_tookOfTwin, 2, (some .int))
theorem mvX3_tookOfTwin : MV mX3_tookOfTwin 1 := ⟨⟨gt_in (tin3 (List.mem_of_getElem? (l := tables_1_3) (i := 46) (by decide +kernel))) rfl, gt_in (tin1 (List.mem_of_getElem? (l := tables_1_1) (i := 7) (by decide +kernel))) rfl, by decide, by decide +kernel, by decide +kernel, by decide +kernel⟩, gt_in (tin3 (List.mem_of_getElem? (l := tables_1_3) (i := 44) (by decide +kernel))) rfl, gt_in (tin3 (List.mem_of_getElem? (l := tables_1_3) (i := 45) (by decide +kernel))) rfl⟩
abbrev mX10_drawer : Mth := (yX10_drawer, cX10_drawer, 3, (some .int))
theorem mvX10_drawer : MV mX10_drawer 2 := ⟨⟨gt_in (tin3 (List.mem_of_getElem? (l := tables_1_3) (i := 50) (by decide +kernel))) rfl, gt_in (tin1 (List.mem_of_getElem? (l := tables_1_1) (i := 1) (by decide +kernel))) rfl, by decide, by decide +kernel, by decide +kernel, by decide +kernel⟩, gt_in (tin3 (List.mem_of_getElem? (l := tables_1_3) (i := 48) (by decide +kernel))) rfl, gt_in (tin3 (List.mem_of_getElem? (l := tables_1_3) (i := 49) (by decide +kernel))) rfl⟩
abbrev mX10_took : Mth := (yX10_took, cX10_took, 3, (some .int))
theorem mvX10_took : MV mX10_took 2 := ⟨⟨gt_in (tin3 (List.mem_of_getElem? (l := tables_1_3) (i := 55) (by decide +kernel))) rfl, gt_in (tin1 (List.mem_of_getElem? (l := tables_1_1) (i := 1) (by decide +kernel))) rfl, by decide, by decide +kernel, by decide +kernel, by decide +kernel⟩, gt_in (tin3 (List.mem_of_getElem? (l := tables_1_3) (i := 53) (by decide +kernel))) rfl, gt_in (tin3 (List.mem_of_getElem? (l := tables_1_3) (i := 54) (by decide +kernel))) rfl⟩
abbrev mX10_unseen : Mth := (yX10_unseen, cX10_unseen, 5, (some .int))
theorem mvX10_unseen : MV mX10_unseen 1 := ⟨⟨gt_in (tin3 (List.mem_of_getElem? (l := tables_1_3) (i := 62) (by decide +kernel))) rfl, gt_in (tin1 (List.mem_of_getElem? (l := tables_1_1) (i := 1) (by decide +kernel))) rfl, by decide, by decide +kernel, by decide +kernel, by decide +kernel⟩, gt_in (tin3 (List.mem_of_getElem? (l := tables_1_3) (i := 60) (by decide +kernel))) rfl, gt_in (tin3 (List.mem_of_getElem? (l := tables_1_3) (i := 61) (by decide +kernel))) rfl⟩
abbrev mX3_pass : Mth := (yX3_pass, cX3_pass, 2, none)
theorem mvX3_pass : MV mX3_pass 1 := ⟨⟨gt_in (tin3 (List.mem_of_getElem? (l := tables_1_3) (i := 67) (by decide +kernel))) rfl, gt_in (tin1 (List.mem_of_getElem? (l := tables_1_1) (i := 7) (by decide +kernel))) rfl, by decide, by decide +kernel, by decide +kernel, by decide +kernel⟩, gt_in (tin3 (List.mem_of_getElem? (l := tables_1_3) (i := 65) (by decide +kernel))) rfl, gt_in (tin3 (List.mem_of_getElem? (l := tables_1_3) (i := 66) (by decide +kernel))) rfl⟩
abbrev mX10_lowestOf : Mth := (yX10_lowestOf, cX10_lowestOf, 2, (some .int))
theorem msX10_lowestOf : MS mX10_lowestOf 1 := ⟨⟨gt_in (tin3 (List.mem_of_getElem? (l := tables_1_3) (i := 70) (by decide +kernel))) rfl, gt_in (tin1 (List.mem_of_getElem? (l := tables_1_1) (i := 1) (by decide +kernel))) rfl, by decide, by decide +kernel, by decide +kernel, by decide +kernel⟩, gt_in (tin3 (List.mem_of_getElem? (l := tables_1_3) (i := 69) (by decide +kernel))) rfl⟩
abbrev mX10_whole : Mth := (yX10_whole, cX10_whole, 6, (some .int))
theorem mvX10_whole : MV mX10_whole 5 := ⟨⟨gt_in (tin3 (List.mem_of_getElem? (l := tables_1_3) (i := 74) (by decide +kernel))) rfl, gt_in (tin1 (List.mem_of_getElem? (l := tables_1_1) (i := 1) (by decide +kernel))) rfl, by decide, by decide +kernel, by decide +kernel, by decide +kernel⟩, gt_in (tin3 (List.mem_of_getElem? (l := tables_1_3) (i := 72) (by decide +kernel))) rfl, gt_in (tin3 (List.mem_of_getElem? (l := tables_1_3) (i := 73) (by decide +kernel))) rfl⟩
abbrev mX6_plan : Mth := (yX6_plan, cX6_plan, 8, (some .boolean))
theorem mvX6_plan : MV mX6_plan 4 := ⟨⟨gt_in (tin3 (List.mem_of_getElem? (l := tables_1_3) (i := 78) (by decide +kernel))) rfl, gt_in (tin1 (List.mem_of_getElem? (l := tables_1_1) (i := 8) (by decide +kernel))) rfl, by decide, by decide +kernel, by decide +kernel, by decide +kernel⟩, gt_in (tin3 (List.mem_of_getElem? (l := tables_1_3) (i := 76) (by decide +kernel))) rfl, gt_in (tin3 (List.mem_of_getElem? (l := tables_1_3) (i := 77) (by decide +kernel))) rfl⟩
abbrev mX3_drawerOf : Mth := (yX3_drawerOf, cX3_drawerOf, 2, (some .int))
theorem mvX3_drawerOf : MV mX3_drawerOf 1 := ⟨⟨gt_in (tin3 (List.mem_of_getElem? (l := tables_1_3) (i := 87) (by decide +kernel))) rfl, gt_in (tin1 (List.mem_of_getElem? (l := tables_1_1) (i := 7) (by decide +kernel))) rfl, by decide, by decide +kernel, by decide +kernel, by decide +kernel⟩, gt_in (tin3 (List.mem_of_getElem? (l := tables_1_3) (i := 85) (by decide +kernel))) rfl, gt_in (tin3 (List.mem_of_getElem? (l := tables_1_3) (i := 86) (by decide +kernel))) rfl⟩
abbrev mX3_giftTo : Mth := (yX3_giftTo, cX3_giftTo, 4, (some .int))
theorem mvX3_giftTo : MV mX3_giftTo 2 := ⟨⟨gt_in (tin3 (List.mem_of_getElem? (l := tables_1_3) (i := 92) (by decide +kernel))) rfl, gt_in (tin1 (List.mem_of_getElem? (l := tables_1_1) (i := 7) (by decide +kernel))) rfl, by decide, by decide +kernel, by decide +kernel, by decide +kernel⟩, gt_in (tin3 (List.mem_of_getElem? (l := tables_1_3) (i := 90) (by decide +kernel))) rfl, gt_in (tin3 (List.mem_of_getElem? (l := tables_1_3) (i := 91) (by decide +kernel))) rfl⟩
abbrev mX6_offer : Mth := (yX6_offer, cX6_offer, 5, none)
theorem mvX6_offer : MV mX6_offer 2 := ⟨⟨gt_in (tin3 (List.mem_of_getElem? (l := tables_1_3) (i := 97) (by decide +kernel))) rfl, gt_in (tin1 (List.mem_of_getElem? (l := tables_1_1) (i := 8) (by decide +kernel))) rfl, by decide, by decide +kernel, by decide +kernel, by decide +kernel⟩, gt_in (tin3 (List.mem_of_getElem? (l := tables_1_3) (i := 96) (by decide +kernel))) rfl, gt_in (List.mem_append_left _ (List.mem_of_getElem? (l := k2_sels lw_privs) (i := 6) (by decide +kernel))) rfl⟩
abbrev mX6_burntBits : Mth := (yX6_burntBits, cX6_burntBits, 1, (some .int))
theorem mvX6_burntBits : MV mX6_burntBits 0 := ⟨⟨gt_in (tin3 (List.mem_of_getElem? (l := tables_1_3) (i := 102) (by decide +kernel))) rfl, gt_in (tin1 (List.mem_of_getElem? (l := tables_1_1) (i := 8) (by decide +kernel))) rfl, by decide, by decide +kernel, by decide +kernel, by decide +kernel⟩, gt_in (tin3 (List.mem_of_getElem? (l := tables_1_3) (i := 100) (by decide +kernel))) rfl, gt_in (tin3 (List.mem_of_getElem? (l := tables_1_3) (i := 101) (by decide +kernel))) rfl⟩
abbrev mX6_loss : Mth := (yX6_loss, cX6_loss, 1, (some .int))
theorem mvX6_loss : MV mX6_loss 0 := ⟨⟨gt_in (tin3 (List.mem_of_getElem? (l := tables_1_3) (i := 106) (by decide +kernel))) rfl, gt_in (tin1 (List.mem_of_getElem? (l := tables_1_1) (i := 8) (by decide +kernel))) rfl, by decide, by decide +kernel, by decide +kernel, by decide +kernel⟩, gt_in (tin3 (List.mem_of_getElem? (l := tables_1_3) (i := 104) (by decide +kernel))) rfl, gt_in (tin3 (List.mem_of_getElem? (l := tables_1_3) (i := 105) (by decide +kernel))) rfl⟩
abbrev mX10_feast : Mth := (yX10_feast, cX10_feast, 6, (some .int))
theorem mvX10_feast : MV mX10_feast 2 := ⟨⟨gt_in (tin3 (List.mem_of_getElem? (l := tables_1_3) (i := 110) (by decide +kernel))) rfl, gt_in (tin1 (List.mem_of_getElem? (l := tables_1_1) (i := 1) (by decide +kernel))) rfl, by decide, by decide +kernel, by decide +kernel, by decide +kernel⟩, gt_in (tin3 (List.mem_of_getElem? (l := tables_1_3) (i := 108) (by decide +kernel))) rfl, gt_in (tin3 (List.mem_of_getElem? (l := tables_1_3) (i := 109) (by decide +kernel))) rfl⟩
abbrev mX10_spy : Mth := (yX10_spy, cX10_spy, 7, (some .int))
theorem mvX10_spy : MV mX10_spy 3 := ⟨⟨gt_in (tin3 (List.mem_of_getElem? (l := tables_1_3) (i := 115) (by decide +kernel))) rfl, gt_in (tin1 (List.mem_of_getElem? (l := tables_1_1) (i := 1) (by decide +kernel))) rfl, by decide, by decide +kernel, by decide +kernel, by decide +kernel⟩, gt_in (tin3 (List.mem_of_getElem? (l := tables_1_3) (i := 113) (by decide +kernel))) rfl, gt_in (tin3 (List.mem_of_getElem? (l := tables_1_3) (i := 114) (by decide +kernel))) rfl⟩
abbrev mX10_swap : Mth := (yX10_swap, cX10_swap, 4, (some .int))
theorem mvX10_swap : MV mX10_swap 2 := ⟨⟨gt_in (tin3 (List.mem_of_getElem? (l := tables_1_3) (i := 122) (by decide +kernel))) rfl, gt_in (tin1 (List.mem_of_getElem? (l := tables_1_1) (i := 1) (by decide +kernel))) rfl, by decide, by decide +kernel, by decide +kernel, by decide +kernel⟩, gt_in (tin3 (List.mem_of_getElem? (l := tables_1_3) (i := 120) (by decide +kernel))) rfl, gt_in (tin3 (List.mem_of_getElem? (l := tables_1_3) (i := 121) (by decide +kernel))) rfl⟩
abbrev mX2_gather : Mth := (yX2_gather, cX2_gather, 5, none)
theorem mvX2_gather : MV mX2_gather 2 := ⟨⟨gt_in (tin3 (List.mem_of_getElem? (l := tables_1_3) (i := 126) (by decide +kernel))) rfl, gt_in (tin1 (List.mem_of_getElem? (l := tables_1_1) (i := 9) (by decide +kernel))) rfl, by decide, by decide +kernel, by decide +kernel, by decide +kernel⟩, gt_in (tin3 (List.mem_of_getElem? (l := tables_1_3) (i := 124) (by decide +kernel))) rfl, gt_in (tin3 (List.mem_of_getElem? (l := tables_1_3) (i := 125) (by decide +kernel))) rfl⟩
abbrev mX2_swapTillRest : Mth := (yX2_swapTillRest, cX2_swapTillRest, 3, (some .int))
theorem mvX2_swapTillRest : MV mX2_swapTillRest 0 := ⟨⟨gt_in (tin3 (List.mem_of_getElem? (l := tables_1_3) (i := 132) (by decide +kernel))) rfl, gt_in (tin1 (List.mem_of_getElem? (l := tables_1_1) (i := 9) (by decide +kernel))) rfl, by decide, by decide +kernel, by decide +kernel, by decide +kernel⟩, gt_in (tin3 (List.mem_of_getElem? (l := tables_1_3) (i := 130) (by decide +kernel))) rfl, gt_in (tin3 (List.mem_of_getElem? (l := tables_1_3) (i := 131) (by decide +kernel))) rfl⟩
abbrev mX2_findSwap : Mth := (yX2_findSwap, cX2_findSwap, 3, (some .int))
theorem mvX2_findSwap : MV mX2_findSwap 0 := ⟨⟨gt_in (tin3 (List.mem_of_getElem? (l := tables_1_3) (i := 136) (by decide +kernel))) rfl, gt_in (tin1 (List.mem_of_getElem? (l := tables_1_1) (i := 9) (by decide +kernel))) rfl, by decide, by decide +kernel, by decide +kernel, by decide +kernel⟩, gt_in (tin3 (List.mem_of_getElem? (l := tables_1_3) (i := 134) (by decide +kernel))) rfl, gt_in (tin3 (List.mem_of_getElem? (l := tables_1_3) (i := 135) (by decide +kernel))) rfl⟩
abbrev mX2_isGain : Mth := (yX2_isGain, cX2_isGain, 4, (some .boolean))
theorem mvX2_isGain : MV mX2_isGain 3 := ⟨⟨gt_in (tin3 (List.mem_of_getElem? (l := tables_1_3) (i := 140) (by decide +kernel))) rfl, gt_in (tin1 (List.mem_of_getElem? (l := tables_1_1) (i := 9) (by decide +kernel))) rfl, by decide, by decide +kernel, by decide +kernel, by decide +kernel⟩, gt_in (tin3 (List.mem_of_getElem? (l := tables_1_3) (i := 139) (by decide +kernel))) rfl, gt_in (List.mem_append_left _ (List.mem_of_getElem? (l := k2_sels lw_privs) (i := 7) (by decide +kernel))) rfl⟩
abbrev mX2_exchange : Mth := (yX2_exchange, cX2_exchange, 4, none)
theorem mvX2_exchange : MV mX2_exchange 2 := ⟨⟨gt_in (tin3 (List.mem_of_getElem? (l := tables_1_3) (i := 144) (by decide +kernel))) rfl, gt_in (tin1 (List.mem_of_getElem? (l := tables_1_1) (i := 9) (by decide +kernel))) rfl, by decide, by decide +kernel, by decide +kernel, by decide +kernel⟩, gt_in (tin3 (List.mem_of_getElem? (l := tables_1_3) (i := 143) (by decide +kernel))) rfl, gt_in (List.mem_append_left _ (List.mem_of_getElem? (l := k2_sels lw_privs) (i := 8) (by decide +kernel))) rfl⟩
abbrev mX10_seen : Mth := (yX10_seen, cX10_seen, 4, (some .int))
theorem mvX10_seen : MV mX10_seen 3 := ⟨⟨gt_in (tin3 (List.mem_of_getElem? (l := tables_1_3) (i := 149) (by decide +kernel))) rfl, gt_in (tin1 (List.mem_of_getElem? (l := tables_1_1) (i := 1) (by decide +kernel))) rfl, by decide, by decide +kernel, by decide +kernel, by decide +kernel⟩, gt_in (tin3 (List.mem_of_getElem? (l := tables_1_3) (i := 147) (by decide +kernel))) rfl, gt_in (tin3 (List.mem_of_getElem? (l := tables_1_3) (i := 148) (by decide +kernel))) rfl⟩
abbrev mX10_isSighting : Mth := (yX10_isSighting, cX10_isSighting, 3, (some .boolean))
theorem msX10_isSighting : MS mX10_isSighting 3 := ⟨⟨gt_in (tin3 (List.mem_of_getElem? (l := tables_1_3) (i := 152) (by decide +kernel))) rfl, gt_in (tin1 (List.mem_of_getElem? (l := tables_1_1) (i := 1) (by decide +kernel))) rfl, by decide, by decide +kernel, by decide +kernel, by decide +kernel⟩, gt_in (tin3 (List.mem_of_getElem? (l := tables_1_3) (i := 151) (by decide +kernel))) rfl⟩
abbrev mX9_add : Mth := (yX9_add, cX9_add, 5, (some .boolean))
theorem mvX9_add : MV mX9_add 3 := ⟨⟨gt_in (tin3 (List.mem_of_getElem? (l := tables_1_3) (i := 156) (by decide +kernel))) rfl, gt_in (tin1 (List.mem_of_getElem? (l := tables_1_1) (i := 11) (by decide +kernel))) rfl, by decide, by decide +kernel, by decide +kernel, by decide +kernel⟩, gt_in (tin3 (List.mem_of_getElem? (l := tables_1_3) (i := 154) (by decide +kernel))) rfl, gt_in (tin3 (List.mem_of_getElem? (l := tables_1_3) (i := 155) (by decide +kernel))) rfl⟩
abbrev mX9_howMany : Mth := (yX9_howMany, cX9_howMany, 1, (some .int))
theorem mvX9_howMany : MV mX9_howMany 0 := ⟨⟨gt_in (tin3 (List.mem_of_getElem? (l := tables_1_3) (i := 162) (by decide +kernel))) rfl, gt_in (tin1 (List.mem_of_getElem? (l := tables_1_1) (i := 11) (by decide +kernel))) rfl, by decide, by decide +kernel, by decide +kernel, by decide +kernel⟩, gt_in (tin3 (List.mem_of_getElem? (l := tables_1_3) (i := 160) (by decide +kernel))) rfl, gt_in (tin3 (List.mem_of_getElem? (l := tables_1_3) (i := 161) (by decide +kernel))) rfl⟩
abbrev mX10_forget : Mth := (yX10_forget, cX10_forget, 2, (some .int))
theorem mvX10_forget : MV mX10_forget 0 := ⟨⟨gt_in (tin3 (List.mem_of_getElem? (l := tables_1_3) (i := 166) (by decide +kernel))) rfl, gt_in (tin1 (List.mem_of_getElem? (l := tables_1_1) (i := 1) (by decide +kernel))) rfl, by decide, by decide +kernel, by decide +kernel, by decide +kernel⟩, gt_in (tin3 (List.mem_of_getElem? (l := tables_1_3) (i := 164) (by decide +kernel))) rfl, gt_in (tin3 (List.mem_of_getElem? (l := tables_1_3) (i := 165) (by decide +kernel))) rfl⟩
abbrev mX9_clear : Mth := (yX9_clear, cX9_clear, 1, none)
theorem mvX9_clear : MV mX9_clear 0 := ⟨⟨gt_in (tin3 (List.mem_of_getElem? (l := tables_1_3) (i := 170) (by decide +kernel))) rfl, gt_in (tin1 (List.mem_of_getElem? (l := tables_1_1) (i := 11) (by decide +kernel))) rfl, by decide, by decide +kernel, by decide +kernel, by decide +kernel⟩, gt_in (tin3 (List.mem_of_getElem? (l := tables_1_3) (i := 168) (by decide +kernel))) rfl, gt_in (tin3 (List.mem_of_getElem? (l := tables_1_3) (i := 169) (by decide +kernel))) rfl⟩
abbrev mX7_clear : Mth := (yX7_clear, cX7_clear, 1, none)
theorem mvX7_clear : MV mX7_clear 0 := ⟨⟨gt_in (tin3 (List.mem_of_getElem? (l := tables_1_3) (i := 174) (by decide +kernel))) rfl, gt_in (tin1 (List.mem_of_getElem? (l := tables_1_1) (i := 4) (by decide +kernel))) rfl, by decide, by decide +kernel, by decide +kernel, by decide +kernel⟩, gt_in (tin3 (List.mem_of_getElem? (l := tables_1_3) (i := 172) (by decide +kernel))) rfl, gt_in (tin3 (List.mem_of_getElem? (l := tables_1_3) (i := 173) (by decide +kernel))) rfl⟩
abbrev mX10_read : Mth := (yX10_read, cX10_read, 8, (some .int))
theorem mvX10_read : MV mX10_read 1 := ⟨⟨gt_in (tin3 (List.mem_of_getElem? (l := tables_1_3) (i := 178) (by decide +kernel))) rfl, gt_in (tin1 (List.mem_of_getElem? (l := tables_1_1) (i := 1) (by decide +kernel))) rfl, by decide, by decide +kernel, by decide +kernel, by decide +kernel⟩, gt_in (tin3 (List.mem_of_getElem? (l := tables_1_3) (i := 176) (by decide +kernel))) rfl, gt_in (tin3 (List.mem_of_getElem? (l := tables_1_3) (i := 177) (by decide +kernel))) rfl⟩
abbrev mX10_isSheet : Mth := (yX10_isSheet, cX10_isSheet, 1, (some .boolean))
theorem msX10_isSheet : MS mX10_isSheet 1 := ⟨⟨gt_in (tin3 (List.mem_of_getElem? (l := tables_1_3) (i := 181) (by decide +kernel))) rfl, gt_in (tin1 (List.mem_of_getElem? (l := tables_1_1) (i := 1) (by decide +kernel))) rfl, by decide, by decide +kernel, by decide +kernel, by decide +kernel⟩, gt_in (tin3 (List.mem_of_getElem? (l := tables_1_3) (i := 180) (by decide +kernel))) rfl⟩
abbrev mX8_isLost : Mth := (yX8_isLost, cX8_isLost, 1, (some .boolean))
theorem mvX8_isLost : MV mX8_isLost 0 := ⟨⟨gt_in (tin3 (List.mem_of_getElem? (l := tables_1_3) (i := 185) (by decide +kernel))) rfl, gt_in (tin1 (List.mem_of_getElem? (l := tables_1_1) (i := 13) (by decide +kernel))) rfl, by decide, by decide +kernel, by decide +kernel, by decide +kernel⟩, gt_in (tin3 (List.mem_of_getElem? (l := tables_1_3) (i := 183) (by decide +kernel))) rfl, gt_in (tin3 (List.mem_of_getElem? (l := tables_1_3) (i := 184) (by decide +kernel))) rfl⟩
abbrev mX10_found : Mth := (yX10_found, cX10_found, 2, (some .int))
theorem mvX10_found : MV mX10_found 1 := ⟨⟨gt_in (tin3 (List.mem_of_getElem? (l := tables_1_3) (i := 189) (by decide +kernel))) rfl, gt_in (tin1 (List.mem_of_getElem? (l := tables_1_1) (i := 1) (by decide +kernel))) rfl, by decide, by decide +kernel, by decide +kernel, by decide +kernel⟩, gt_in (tin3 (List.mem_of_getElem? (l := tables_1_3) (i := 188) (by decide +kernel))) rfl, gt_in (List.mem_append_left _ (List.mem_of_getElem? (l := k2_sels lw_privs) (i := 9) (by decide +kernel))) rfl⟩
abbrev mX8_length : Mth := (yX8_length, cX8_length, 1, (some .int))
theorem mvX8_length : MV mX8_length 0 := ⟨⟨gt_in (tin3 (List.mem_of_getElem? (l := tables_1_3) (i := 193) (by decide +kernel))) rfl, gt_in (tin1 (List.mem_of_getElem? (l := tables_1_1) (i := 13) (by decide +kernel))) rfl, by decide, by decide +kernel, by decide +kernel, by decide +kernel⟩, gt_in (tin3 (List.mem_of_getElem? (l := tables_1_3) (i := 191) (by decide +kernel))) rfl, gt_in (tin3 (List.mem_of_getElem? (l := tables_1_3) (i := 192) (by decide +kernel))) rfl⟩
abbrev mX8_item : Mth := (yX8_item, cX8_item, 2, (some .int))
theorem mvX8_item : MV mX8_item 1 := ⟨⟨gt_in (tin3 (List.mem_of_getElem? (l := tables_1_3) (i := 197) (by decide +kernel))) rfl, gt_in (tin1 (List.mem_of_getElem? (l := tables_1_1) (i := 13) (by decide +kernel))) rfl, by decide, by decide +kernel, by decide +kernel, by decide +kernel⟩, gt_in (tin3 (List.mem_of_getElem? (l := tables_1_3) (i := 195) (by decide +kernel))) rfl, gt_in (tin3 (List.mem_of_getElem? (l := tables_1_3) (i := 196) (by decide +kernel))) rfl⟩
abbrev mX8_hasRun : Mth := (yX8_hasRun, cX8_hasRun, 3, (some .boolean))
theorem mvX8_hasRun : MV mX8_hasRun 2 := ⟨⟨gt_in (tin3 (List.mem_of_getElem? (l := tables_1_3) (i := 201) (by decide +kernel))) rfl, gt_in (tin1 (List.mem_of_getElem? (l := tables_1_1) (i := 13) (by decide +kernel))) rfl, by decide, by decide +kernel, by decide +kernel, by decide +kernel⟩, gt_in (tin3 (List.mem_of_getElem? (l := tables_1_3) (i := 199) (by decide +kernel))) rfl, gt_in (tin3 (List.mem_of_getElem? (l := tables_1_3) (i := 200) (by decide +kernel))) rfl⟩
abbrev mX10_never : Mth := (yX10_never, cX10_never, 3, (some .int))
theorem mvX10_never : MV mX10_never 0 := ⟨⟨gt_in (tin3 (List.mem_of_getElem? (l := tables_1_3) (i := 205) (by decide +kernel))) rfl, gt_in (tin1 (List.mem_of_getElem? (l := tables_1_1) (i := 1) (by decide +kernel))) rfl, by decide, by decide +kernel, by decide +kernel, by decide +kernel⟩, gt_in (tin3 (List.mem_of_getElem? (l := tables_1_3) (i := 203) (by decide +kernel))) rfl, gt_in (tin3 (List.mem_of_getElem? (l := tables_1_3) (i := 204) (by decide +kernel))) rfl⟩
abbrev mX9_isBorneOut : Mth := (yX9_isBorneOut, cX9_isBorneOut, 6, (some .boolean))
theorem mvX9_isBorneOut : MV mX9_isBorneOut 3 := ⟨⟨gt_in (tin3 (List.mem_of_getElem? (l := tables_1_3) (i := 209) (by decide +kernel))) rfl, gt_in (tin1 (List.mem_of_getElem? (l := tables_1_1) (i := 11) (by decide +kernel))) rfl, by decide, by decide +kernel, by decide +kernel, by decide +kernel⟩, gt_in (tin3 (List.mem_of_getElem? (l := tables_1_3) (i := 207) (by decide +kernel))) rfl, gt_in (tin3 (List.mem_of_getElem? (l := tables_1_3) (i := 208) (by decide +kernel))) rfl⟩
abbrev mX9_agrees : Mth := (yX9_agrees, cX9_agrees, 3, (some .boolean))
theorem mvX9_agrees : MV mX9_agrees 2 := ⟨⟨gt_in (tin3 (List.mem_of_getElem? (l := tables_1_3) (i := 217) (by decide +kernel))) rfl, gt_in (tin1 (List.mem_of_getElem? (l := tables_1_1) (i := 11) (by decide +kernel))) rfl, by decide, by decide +kernel, by decide +kernel, by decide +kernel⟩, gt_in (tin3 (List.mem_of_getElem? (l := tables_1_3) (i := 216) (by decide +kernel))) rfl, gt_in (List.mem_append_left _ (List.mem_of_getElem? (l := k2_sels lw_privs) (i := 10) (by decide +kernel))) rfl⟩
abbrev mX10_sizes : Mth := (yX10_sizes, cX10_sizes, 4, (some .int))
theorem mvX10_sizes : MV mX10_sizes 1 := ⟨⟨gt_in (tin3 (List.mem_of_getElem? (l := tables_1_3) (i := 222) (by decide +kernel))) rfl, gt_in (tin1 (List.mem_of_getElem? (l := tables_1_1) (i := 1) (by decide +kernel))) rfl, by decide, by decide +kernel, by decide +kernel, by decide +kernel⟩, gt_in (tin3 (List.mem_of_getElem? (l := tables_1_3) (i := 220) (by decide +kernel))) rfl, gt_in (tin3 (List.mem_of_getElem? (l := tables_1_3) (i := 221) (by decide +kernel))) rfl⟩
abbrev mX10_town : Mth := (yX10_town, cX10_town, 4, (some .int))
theorem mvX10_town : MV mX10_town 3 := ⟨⟨gt_in (tin3 (List.mem_of_getElem? (l := tables_1_3) (i := 226) (by decide +kernel))) rfl, gt_in (tin1 (List.mem_of_getElem? (l := tables_1_1) (i := 1) (by decide +kernel))) rfl, by decide, by decide +kernel, by decide +kernel, by decide +kernel⟩, gt_in (tin3 (List.mem_of_getElem? (l := tables_1_3) (i := 224) (by decide +kernel))) rfl, gt_in (tin3 (List.mem_of_getElem? (l := tables_1_3) (i := 225) (by decide +kernel))) rfl⟩
abbrev mX10_isTown : Mth := (yX10_isTown, cX10_isTown, 2, (some .boolean))
theorem msX10_isTown : MS mX10_isTown 2 := ⟨⟨gt_in (tin3 (List.mem_of_getElem? (l := tables_1_3) (i := 229) (by decide +kernel))) rfl, gt_in (tin1 (List.mem_of_getElem? (l := tables_1_1) (i := 1) (by decide +kernel))) rfl, by decide, by decide +kernel, by decide +kernel, by decide +kernel⟩, gt_in (tin3 (List.mem_of_getElem? (l := tables_1_3) (i := 228) (by decide +kernel))) rfl⟩
abbrev mX10_endOfTown : Mth := (yX10_endOfTown, cX10_endOfTown, 5, (some .int))
theorem msX10_endOfTown : MS mX10_endOfTown 3 := ⟨⟨gt_in (tin3 (List.mem_of_getElem? (l := tables_1_3) (i := 232) (by decide +kernel))) rfl, gt_in (tin1 (List.mem_of_getElem? (l := tables_1_1) (i := 1) (by decide +kernel))) rfl, by decide, by decide +kernel, by decide +kernel, by decide +kernel⟩, gt_in (tin3 (List.mem_of_getElem? (l := tables_1_3) (i := 231) (by decide +kernel))) rfl⟩
abbrev mX10_toll : Mth := (yX10_toll, cX10_toll, 4, (some .int))
theorem mvX10_toll : MV mX10_toll 2 := ⟨⟨gt_in (tin3 (List.mem_of_getElem? (l := tables_1_3) (i := 237) (by decide +kernel))) rfl, gt_in (tin1 (List.mem_of_getElem? (l := tables_1_1) (i := 1) (by decide +kernel))) rfl, by decide, by decide +kernel, by decide +kernel, by decide +kernel⟩, gt_in (tin3 (List.mem_of_getElem? (l := tables_1_3) (i := 235) (by decide +kernel))) rfl, gt_in (tin3 (List.mem_of_getElem? (l := tables_1_3) (i := 236) (by decide +kernel))) rfl⟩
abbrev mX10_shots : Mth := (yX10_shots, cX10_shots, 7, (some .long))
theorem mvX10_shots : MV mX10_shots 6 := ⟨⟨gt_in (tin4 (List.mem_of_getElem? (l := tables_1_4) (i := 1) (by decide +kernel))) rfl, gt_in (tin1 (List.mem_of_getElem? (l := tables_1_1) (i := 1) (by decide +kernel))) rfl, by decide, by decide +kernel, by decide +kernel, by decide +kernel⟩, gt_in (tin3 (List.mem_of_getElem? (l := tables_1_3) (i := 239) (by decide +kernel))) rfl, gt_in (tin4 (List.mem_of_getElem? (l := tables_1_4) (i := 0) (by decide +kernel))) rfl⟩
abbrev mX1_countWays : Mth := (yX1_countWays, cX1_countWays, 5, none)
theorem mvX1_countWays : MV mX1_countWays 2 := ⟨⟨gt_in (tin4 (List.mem_of_getElem? (l := tables_1_4) (i := 6) (by decide +kernel))) rfl, gt_in (tin1 (List.mem_of_getElem? (l := tables_1_1) (i := 12) (by decide +kernel))) rfl, by decide, by decide +kernel, by decide +kernel, by decide +kernel⟩, gt_in (tin4 (List.mem_of_getElem? (l := tables_1_4) (i := 4) (by decide +kernel))) rfl, gt_in (tin4 (List.mem_of_getElem? (l := tables_1_4) (i := 5) (by decide +kernel))) rfl⟩
abbrev mJ7_fill_d0a16 : Mth := (yJ7_fill_d0a16, cJ7_fill_d0a16, 5, none)
theorem msJ7_fill_d0a16 : MS mJ7_fill_d0a16 2 := ⟨⟨gt_in (tin4 (List.mem_of_getElem? (l := tables_1_4) (i := 9) (by decide +kernel))) rfl, gt_in (tin1 (List.mem_of_getElem? (l := tables_1_1) (i := 10) (by decide +kernel))) rfl, by decide, by decide +kernel, by decide +kernel, by decide +kernel⟩, gt_in (tin4 (List.mem_of_getElem? (l := tables_1_4) (i := 8) (by decide +kernel))) rfl⟩
abbrev mX1_weighUnseen : Mth := (yX1_weighUnseen, cX1_weighUnseen, 6, none)
theorem mvX1_weighUnseen : MV mX1_weighUnseen 4 := ⟨⟨gt_in (tin4 (List.mem_of_getElem? (l := tables_1_4) (i := 13) (by decide +kernel))) rfl, gt_in (tin1 (List.mem_of_getElem? (l := tables_1_1) (i := 12) (by decide +kernel))) rfl, by decide, by decide +kernel, by decide +kernel, by decide +kernel⟩, gt_in (tin4 (List.mem_of_getElem? (l := tables_1_4) (i := 11) (by decide +kernel))) rfl, gt_in (tin4 (List.mem_of_getElem? (l := tables_1_4) (i := 12) (by decide +kernel))) rfl⟩
abbrev mX1_above : Mth := (yX1_above, cX1_above, 1, (some .long))
theorem mvX1_above : MV mX1_above 0 := ⟨⟨gt_in (tin4 (List.mem_of_getElem? (l := tables_1_4) (i := 18) (by decide +kernel))) rfl, gt_in (tin1 (List.mem_of_getElem? (l := tables_1_1) (i := 12) (by decide +kernel))) rfl, by decide, by decide +kernel, by decide +kernel, by decide +kernel⟩, gt_in (tin4 (List.mem_of_getElem? (l := tables_1_4) (i := 16) (by decide +kernel))) rfl, gt_in (tin4 (List.mem_of_getElem? (l := tables_1_4) (i := 17) (by decide +kernel))) rfl⟩
abbrev mX1_below : Mth := (yX1_below, cX1_below, 1, (some .long))
theorem mvX1_below : MV mX1_below 0 := ⟨⟨gt_in (tin4 (List.mem_of_getElem? (l := tables_1_4) (i := 22) (by decide +kernel))) rfl, gt_in (tin1 (List.mem_of_getElem? (l := tables_1_1) (i := 12) (by decide +kernel))) rfl, by decide, by decide +kernel, by decide +kernel, by decide +kernel⟩, gt_in (tin4 (List.mem_of_getElem? (l := tables_1_4) (i := 20) (by decide +kernel))) rfl, gt_in (tin4 (List.mem_of_getElem? (l := tables_1_4) (i := 21) (by decide +kernel))) rfl⟩
abbrev mX10_plates : Mth := (yX10_plates, cX10_plates, 7, (some .int))
theorem mvX10_plates : MV mX10_plates 3 := ⟨⟨gt_in (tin4 (List.mem_of_getElem? (l := tables_1_4) (i := 26) (by decide +kernel))) rfl, gt_in (tin1 (List.mem_of_getElem? (l := tables_1_1) (i := 1) (by decide +kernel))) rfl, by decide, by decide +kernel, by decide +kernel, by decide +kernel⟩, gt_in (tin4 (List.mem_of_getElem? (l := tables_1_4) (i := 24) (by decide +kernel))) rfl, gt_in (tin4 (List.mem_of_getElem? (l := tables_1_4) (i := 25) (by decide +kernel))) rfl⟩
abbrev mX10_nextSeed : Mth := (yX10_nextSeed, cX10_nextSeed, 1, (some .int))
theorem msX10_nextSeed : MS mX10_nextSeed 1 := ⟨⟨gt_in (tin4 (List.mem_of_getElem? (l := tables_1_4) (i := 29) (by decide +kernel))) rfl, gt_in (tin1 (List.mem_of_getElem? (l := tables_1_1) (i := 1) (by decide +kernel))) rfl, by decide, by decide +kernel, by decide +kernel, by decide +kernel⟩, gt_in (tin4 (List.mem_of_getElem? (l := tables_1_4) (i := 28) (by decide +kernel))) rfl⟩
abbrev mX10_lotOf : Mth := (yX10_lotOf, cX10_lotOf, 2, (some .int))
theorem msX10_lotOf : MS mX10_lotOf 2 := ⟨⟨gt_in (tin4 (List.mem_of_getElem? (l := tables_1_4) (i := 33) (by decide +kernel))) rfl, gt_in (tin1 (List.mem_of_getElem? (l := tables_1_1) (i := 1) (by decide +kernel))) rfl, by decide, by decide +kernel, by decide +kernel, by decide +kernel⟩, gt_in (tin4 (List.mem_of_getElem? (l := tables_1_4) (i := 32) (by decide +kernel))) rfl⟩
abbrev mX3_takeUncounted : Mth := (yX3_takeUncounted, cX3_takeUncounted, 3, none)
theorem mvX3_takeUncounted : MV mX3_takeUncounted 2 := ⟨⟨gt_in (tin4 (List.mem_of_getElem? (l := tables_1_4) (i := 37) (by decide +kernel))) rfl, gt_in (tin1 (List.mem_of_getElem? (l := tables_1_1) (i := 7) (by decide +kernel))) rfl, by decide, by decide +kernel, by decide +kernel, by decide +kernel⟩, gt_in (tin4 (List.mem_of_getElem? (l := tables_1_4) (i := 35) (by decide +kernel))) rfl, gt_in (tin4 (List.mem_of_getElem? (l := tables_1_4) (i := 36) (by decide +kernel))) rfl⟩
abbrev mX10_sheet : Mth := (yX10_sheet, cX10_sheet, 4, (some .int))
theorem mvX10_sheet : MV mX10_sheet 3 := ⟨⟨gt_in (tin4 (List.mem_of_getElem? (l := tables_1_4) (i := 41) (by decide +kernel))) rfl, gt_in (tin1 (List.mem_of_getElem? (l := tables_1_1) (i := 1) (by decide +kernel))) rfl, by decide, by decide +kernel, by decide +kernel, by decide +kernel⟩, gt_in (tin4 (List.mem_of_getElem? (l := tables_1_4) (i := 39) (by decide +kernel))) rfl, gt_in (tin4 (List.mem_of_getElem? (l := tables_1_4) (i := 40) (by decide +kernel))) rfl⟩
abbrev mX10_isForm : Mth := (yX10_isForm, cX10_isForm, 1, (some .boolean))
theorem msX10_isForm : MS mX10_isForm 1 := ⟨⟨gt_in (tin4 (List.mem_of_getElem? (l := tables_1_4) (i := 44) (by decide +kernel))) rfl, gt_in (tin1 (List.mem_of_getElem? (l := tables_1_1) (i := 1) (by decide +kernel))) rfl, by decide, by decide +kernel, by decide +kernel, by decide +kernel⟩, gt_in (tin4 (List.mem_of_getElem? (l := tables_1_4) (i := 43) (by decide +kernel))) rfl⟩
abbrev mX8_renew : Mth := (yX8_renew, cX8_renew, 3, none)
theorem mvX8_renew : MV mX8_renew 2 := ⟨⟨gt_in (tin4 (List.mem_of_getElem? (l := tables_1_4) (i := 48) (by decide +kernel))) rfl, gt_in (tin1 (List.mem_of_getElem? (l := tables_1_1) (i := 13) (by decide +kernel))) rfl, by decide, by decide +kernel, by decide +kernel, by decide +kernel⟩, gt_in (tin4 (List.mem_of_getElem? (l := tables_1_4) (i := 46) (by decide +kernel))) rfl, gt_in (tin4 (List.mem_of_getElem? (l := tables_1_4) (i := 47) (by decide +kernel))) rfl⟩
abbrev mX10_lose : Mth := (yX10_lose, cX10_lose, 3, (some .int))
theorem mvX10_lose : MV mX10_lose 1 := ⟨⟨gt_in (tin4 (List.mem_of_getElem? (l := tables_1_4) (i := 55) (by decide +kernel))) rfl, gt_in (tin1 (List.mem_of_getElem? (l := tables_1_1) (i := 1) (by decide +kernel))) rfl, by decide, by decide +kernel, by decide +kernel, by decide +kernel⟩, gt_in (tin4 (List.mem_of_getElem? (l := tables_1_4) (i := 53) (by decide +kernel))) rfl, gt_in (tin4 (List.mem_of_getElem? (l := tables_1_4) (i := 54) (by decide +kernel))) rfl⟩
abbrev mX8_becomeLost : Mth := (yX8_becomeLost, cX8_becomeLost, 1, none)
theorem mvX8_becomeLost : MV mX8_becomeLost 0 := ⟨⟨gt_in (tin4 (List.mem_of_getElem? (l := tables_1_4) (i := 59) (by decide +kernel))) rfl, gt_in (tin1 (List.mem_of_getElem? (l := tables_1_1) (i := 13) (by decide +kernel))) rfl, by decide, by decide +kernel, by decide +kernel, by decide +kernel⟩, gt_in (tin4 (List.mem_of_getElem? (l := tables_1_4) (i := 57) (by decide +kernel))) rfl, gt_in (tin4 (List.mem_of_getElem? (l := tables_1_4) (i := 58) (by decide +kernel))) rfl⟩
abbrev mX10_lay : Mth := (yX10_lay, cX10_lay, 6, (some .int))
theorem mvX10_lay : MV mX10_lay 4 := ⟨⟨gt_in (tin4 (List.mem_of_getElem? (l := tables_1_4) (i := 63) (by decide +kernel))) rfl, gt_in (tin1 (List.mem_of_getElem? (l := tables_1_1) (i := 1) (by decide +kernel))) rfl, by decide, by decide +kernel, by decide +kernel, by decide +kernel⟩, gt_in (tin4 (List.mem_of_getElem? (l := tables_1_4) (i := 61) (by decide +kernel))) rfl, gt_in (tin4 (List.mem_of_getElem? (l := tables_1_4) (i := 62) (by decide +kernel))) rfl⟩
abbrev mX8_troubleWith : Mth := (yX8_troubleWith, cX8_troubleWith, 3, (some .int))
theorem mvX8_troubleWith : MV mX8_troubleWith 2 := ⟨⟨gt_in (tin4 (List.mem_of_getElem? (l := tables_1_4) (i := 67) (by decide +kernel))) rfl, gt_in (tin1 (List.mem_of_getElem? (l := tables_1_1) (i := 13) (by decide +kernel))) rfl, by decide, by decide +kernel, by decide +kernel, by decide +kernel⟩, gt_in (tin4 (List.mem_of_getElem? (l := tables_1_4) (i := 65) (by decide +kernel))) rfl, gt_in (tin4 (List.mem_of_getElem? (l := tables_1_4) (i := 66) (by decide +kernel))) rfl⟩
abbrev mX8_putItem : Mth := (yX8_putItem, cX8_putItem, 3, none)
theorem mvX8_putItem : MV mX8_putItem 2 := ⟨⟨gt_in (tin4 (List.mem_of_getElem? (l := tables_1_4) (i := 72) (by decide +kernel))) rfl, gt_in (tin1 (List.mem_of_getElem? (l := tables_1_1) (i := 13) (by decide +kernel))) rfl, by decide, by decide +kernel, by decide +kernel, by decide +kernel⟩, gt_in (tin4 (List.mem_of_getElem? (l := tables_1_4) (i := 70) (by decide +kernel))) rfl, gt_in (tin4 (List.mem_of_getElem? (l := tables_1_4) (i := 71) (by decide +kernel))) rfl⟩
abbrev mX8_narrow : Mth := (yX8_narrow, cX8_narrow, 2, (some .int))
theorem mvX8_narrow : MV mX8_narrow 1 := ⟨⟨gt_in (tin4 (List.mem_of_getElem? (l := tables_1_4) (i := 76) (by decide +kernel))) rfl, gt_in (tin1 (List.mem_of_getElem? (l := tables_1_1) (i := 13) (by decide +kernel))) rfl, by decide, by decide +kernel, by decide +kernel, by decide +kernel⟩, gt_in (tin4 (List.mem_of_getElem? (l := tables_1_4) (i := 75) (by decide +kernel))) rfl, gt_in (List.mem_append_left _ (List.mem_of_getElem? (l := k2_sels lw_privs) (i := 11) (by decide +kernel))) rfl⟩
abbrev mX10_get : Mth := (yX10_get, cX10_get, 5, (some .int))
theorem mvX10_get : MV mX10_get 3 := ⟨⟨gt_in (tin4 (List.mem_of_getElem? (l := tables_1_4) (i := 80) (by decide +kernel))) rfl, gt_in (tin1 (List.mem_of_getElem? (l := tables_1_1) (i := 1) (by decide +kernel))) rfl, by decide, by decide +kernel, by decide +kernel, by decide +kernel⟩, gt_in (tin4 (List.mem_of_getElem? (l := tables_1_4) (i := 78) (by decide +kernel))) rfl, gt_in (tin4 (List.mem_of_getElem? (l := tables_1_4) (i := 79) (by decide +kernel))) rfl⟩
abbrev mX10_copy : Mth := (yX10_copy, cX10_copy, 8, (some .int))
theorem mvX10_copy : MV mX10_copy 5 := ⟨⟨gt_in (tin4 (List.mem_of_getElem? (l := tables_1_4) (i := 85) (by decide +kernel))) rfl, gt_in (tin1 (List.mem_of_getElem? (l := tables_1_1) (i := 1) (by decide +kernel))) rfl, by decide, by decide +kernel, by decide +kernel, by decide +kernel⟩, gt_in (tin4 (List.mem_of_getElem? (l := tables_1_4) (i := 83) (by decide +kernel))) rfl, gt_in (tin4 (List.mem_of_getElem? (l := tables_1_4) (i := 84) (by decide +kernel))) rfl⟩
abbrev mX8_isLike : Mth := (yX8_isLike, cX8_isLike, 2, (some .boolean))
theorem mvX8_isLike : MV mX8_isLike 1 := ⟨⟨gt_in (tin4 (List.mem_of_getElem? (l := tables_1_4) (i := 89) (by decide +kernel))) rfl, gt_in (tin1 (List.mem_of_getElem? (l := tables_1_1) (i := 13) (by decide +kernel))) rfl, by decide, by decide +kernel, by decide +kernel, by decide +kernel⟩, gt_in (tin4 (List.mem_of_getElem? (l := tables_1_4) (i := 87) (by decide +kernel))) rfl, gt_in (tin4 (List.mem_of_getElem? (l := tables_1_4) (i := 88) (by decide +kernel))) rfl⟩
abbrev mX8_putRun : Mth := (yX8_putRun, cX8_putRun, 5, none)
theorem mvX8_putRun : MV mX8_putRun 4 := ⟨⟨gt_in (tin4 (List.mem_of_getElem? (l := tables_1_4) (i := 94) (by decide +kernel))) rfl, gt_in (tin1 (List.mem_of_getElem? (l := tables_1_1) (i := 13) (by decide +kernel))) rfl, by decide, by decide +kernel, by decide +kernel, by decide +kernel⟩, gt_in (tin4 (List.mem_of_getElem? (l := tables_1_4) (i := 92) (by decide +kernel))) rfl, gt_in (tin4 (List.mem_of_getElem? (l := tables_1_4) (i := 93) (by decide +kernel))) rfl⟩
abbrev mX10_write : Mth := (yX10_write, cX10_write, 6, (some .int))
theorem mvX10_write : MV mX10_write 2 := ⟨⟨gt_in (tin4 (List.mem_of_getElem? (l := tables_1_4) (i := 101) (by decide +kernel))) rfl, gt_in (tin1 (List.mem_of_getElem? (l := tables_1_1) (i := 1) (by decide +kernel))) rfl, by decide, by decide +kernel, by decide +kernel, by decide +kernel⟩, gt_in (tin4 (List.mem_of_getElem? (l := tables_1_4) (i := 99) (by decide +kernel))) rfl, gt_in (tin4 (List.mem_of_getElem? (l := tables_1_4) (i := 100) (by decide +kernel))) rfl⟩
abbrev mX10_count : Mth := (yX10_count, cX10_count, 2, (some .int))
theorem mvX10_count : MV mX10_count 1 := ⟨⟨gt_in (tin4 (List.mem_of_getElem? (l := tables_1_4) (i := 105) (by decide +kernel))) rfl, gt_in (tin1 (List.mem_of_getElem? (l := tables_1_1) (i := 1) (by decide +kernel))) rfl, by decide, by decide +kernel, by decide +kernel, by decide +kernel⟩, gt_in (tin4 (List.mem_of_getElem? (l := tables_1_4) (i := 103) (by decide +kernel))) rfl, gt_in (tin4 (List.mem_of_getElem? (l := tables_1_4) (i := 104) (by decide +kernel))) rfl⟩
abbrev mX4_allAtFirst : Mth := (yX4_allAtFirst, cX4_allAtFirst, 3, (some .int))
theorem mvX4_allAtFirst : MV mX4_allAtFirst 0 := ⟨⟨gt_in (tin4 (List.mem_of_getElem? (l := tables_1_4) (i := 109) (by decide +kernel))) rfl, gt_in (tin1 (List.mem_of_getElem? (l := tables_1_1) (i := 2) (by decide +kernel))) rfl, by decide, by decide +kernel, by decide +kernel, by decide +kernel⟩, gt_in (tin4 (List.mem_of_getElem? (l := tables_1_4) (i := 107) (by decide +kernel))) rfl, gt_in (tin4 (List.mem_of_getElem? (l := tables_1_4) (i := 108) (by decide +kernel))) rfl⟩
abbrev mX4_howManyTwins : Mth := (yX4_howManyTwins, cX4_howManyTwins, 3, (some .int))
theorem mvX4_howManyTwins : MV mX4_howManyTwins 0 := ⟨⟨gt_in (tin4 (List.mem_of_getElem? (l := tables_1_4) (i := 113) (by decide +kernel))) rfl, gt_in (tin1 (List.mem_of_getElem? (l := tables_1_1) (i := 2) (by decide +kernel))) rfl, by decide, by decide +kernel, by decide +kernel, by decide +kernel⟩, gt_in (tin4 (List.mem_of_getElem? (l := tables_1_4) (i := 111) (by decide +kernel))) rfl, gt_in (tin4 (List.mem_of_getElem? (l := tables_1_4) (i := 112) (by decide +kernel))) rfl⟩
abbrev mX10_digest : Mth := (yX10_digest, cX10_digest, 4, (some .long))
theorem mvX10_digest : MV mX10_digest 0 := ⟨⟨gt_in (tin4 (List.mem_of_getElem? (l := tables_1_4) (i := 117) (by decide +kernel))) rfl, gt_in (tin1 (List.mem_of_getElem? (l := tables_1_1) (i := 1) (by decide +kernel))) rfl, by decide, by decide +kernel, by decide +kernel, by decide +kernel⟩, gt_in (tin4 (List.mem_of_getElem? (l := tables_1_4) (i := 115) (by decide +kernel))) rfl, gt_in (tin4 (List.mem_of_getElem? (l := tables_1_4) (i := 116) (by decide +kernel))) rfl⟩
abbrev mX10_mix : Mth := (yX10_mix, cX10_mix, 4, (some .long))
theorem msX10_mix : MS mX10_mix 2 := ⟨⟨gt_in (tin4 (List.mem_of_getElem? (l := tables_1_4) (i := 122) (by decide +kernel))) rfl, gt_in (tin1 (List.mem_of_getElem? (l := tables_1_1) (i := 1) (by decide +kernel))) rfl, by decide, by decide +kernel, by decide +kernel, by decide +kernel⟩, gt_in (tin4 (List.mem_of_getElem? (l := tables_1_4) (i := 121) (by decide +kernel))) rfl⟩
abbrev mX10_mixPerson : Mth := (yX10_mixPerson, cX10_mixPerson, 6, (some .long))
theorem mvX10_mixPerson : MV mX10_mixPerson 2 := ⟨⟨gt_in (tin4 (List.mem_of_getElem? (l := tables_1_4) (i := 128) (by decide +kernel))) rfl, gt_in (tin1 (List.mem_of_getElem? (l := tables_1_1) (i := 1) (by decide +kernel))) rfl, by decide, by decide +kernel, by decide +kernel, by decide +kernel⟩, gt_in (tin4 (List.mem_of_getElem? (l := tables_1_4) (i := 127) (by decide +kernel))) rfl, gt_in (List.mem_append_left _ (List.mem_of_getElem? (l := k2_sels lw_privs) (i := 12) (by decide +kernel))) rfl⟩
abbrev mX10_mixYear : Mth := (yX10_mixYear, cX10_mixYear, 7, (some .long))
theorem mvX10_mixYear : MV mX10_mixYear 2 := ⟨⟨gt_in (tin4 (List.mem_of_getElem? (l := tables_1_4) (i := 140) (by decide +kernel))) rfl, gt_in (tin1 (List.mem_of_getElem? (l := tables_1_1) (i := 1) (by decide +kernel))) rfl, by decide, by decide +kernel, by decide +kernel, by decide +kernel⟩, gt_in (tin4 (List.mem_of_getElem? (l := tables_1_4) (i := 139) (by decide +kernel))) rfl, gt_in (List.mem_append_left _ (List.mem_of_getElem? (l := k2_sels lw_privs) (i := 13) (by decide +kernel))) rfl⟩
abbrev mX11_init : Mth := (yX11_init, cX11_init, 2, none)
abbrev mX11_sheet : Mth := (yX11_sheet, cX11_sheet, 5, (some .int))
theorem mvX11_sheet : MV mX11_sheet 3 := ⟨⟨gt_in (tin5 (List.mem_of_getElem? (l := tables_1_5) (i := 18) (by decide +kernel))) rfl, gt_in (tin1 (List.mem_of_getElem? (l := tables_1_1) (i := 14) (by decide +kernel))) rfl, by decide, by decide +kernel, by decide +kernel, by decide +kernel⟩, gt_in (tin5 (List.mem_of_getElem? (l := tables_1_5) (i := 16) (by decide +kernel))) rfl, gt_in (tin5 (List.mem_of_getElem? (l := tables_1_5) (i := 17) (by decide +kernel))) rfl⟩
abbrev mX11_isSheet : Mth := (yX11_isSheet, cX11_isSheet, 1, (some .boolean))
theorem msX11_isSheet : MS mX11_isSheet 1 := ⟨⟨gt_in (tin5 (List.mem_of_getElem? (l := tables_1_5) (i := 21) (by decide +kernel))) rfl, gt_in (tin1 (List.mem_of_getElem? (l := tables_1_1) (i := 14) (by decide +kernel))) rfl, by decide, by decide +kernel, by decide +kernel, by decide +kernel⟩, gt_in (tin5 (List.mem_of_getElem? (l := tables_1_5) (i := 20) (by decide +kernel))) rfl⟩
abbrev mX11_in : Mth := (yX11_in, cX11_in, 6, (some .boolean))
theorem msX11_in : MS mX11_in 3 := ⟨⟨gt_in (tin5 (List.mem_of_getElem? (l := tables_1_5) (i := 25) (by decide +kernel))) rfl, gt_in (tin1 (List.mem_of_getElem? (l := tables_1_1) (i := 14) (by decide +kernel))) rfl, by decide, by decide +kernel, by decide +kernel, by decide +kernel⟩, gt_in (tin5 (List.mem_of_getElem? (l := tables_1_5) (i := 24) (by decide +kernel))) rfl⟩
abbrev mX11_finds : Mth := (yX11_finds, cX11_finds, 2, (some .int))
theorem mvX11_finds : MV mX11_finds 1 := ⟨⟨gt_in (tin5 (List.mem_of_getElem? (l := tables_1_5) (i := 30) (by decide +kernel))) rfl, gt_in (tin1 (List.mem_of_getElem? (l := tables_1_1) (i := 14) (by decide +kernel))) rfl, by decide, by decide +kernel, by decide +kernel, by decide +kernel⟩, gt_in (tin5 (List.mem_of_getElem? (l := tables_1_5) (i := 29) (by decide +kernel))) rfl, gt_in (List.mem_append_left _ (List.mem_of_getElem? (l := k2_sels lw_privs) (i := 14) (by decide +kernel))) rfl⟩
abbrev mX11_lose : Mth := (yX11_lose, cX11_lose, 2, (some .int))
theorem mvX11_lose : MV mX11_lose 1 := ⟨⟨gt_in (tin5 (List.mem_of_getElem? (l := tables_1_5) (i := 34) (by decide +kernel))) rfl, gt_in (tin1 (List.mem_of_getElem? (l := tables_1_1) (i := 14) (by decide +kernel))) rfl, by decide, by decide +kernel, by decide +kernel, by decide +kernel⟩, gt_in (tin5 (List.mem_of_getElem? (l := tables_1_5) (i := 32) (by decide +kernel))) rfl, gt_in (tin5 (List.mem_of_getElem? (l := tables_1_5) (i := 33) (by decide +kernel))) rfl⟩
abbrev mX11_lay : Mth := (yX11_lay, cX11_lay, 6, (some .int))
theorem mvX11_lay : MV mX11_lay 4 := ⟨⟨gt_in (tin5 (List.mem_of_getElem? (l := tables_1_5) (i := 38) (by decide +kernel))) rfl, gt_in (tin1 (List.mem_of_getElem? (l := tables_1_1) (i := 14) (by decide +kernel))) rfl, by decide, by decide +kernel, by decide +kernel, by decide +kernel⟩, gt_in (tin5 (List.mem_of_getElem? (l := tables_1_5) (i := 36) (by decide +kernel))) rfl, gt_in (tin5 (List.mem_of_getElem? (l := tables_1_5) (i := 37) (by decide +kernel))) rfl⟩
abbrev mX11_lacks : Mth := (yX11_lacks, cX11_lacks, 4, (some .int))
theorem mvX11_lacks : MV mX11_lacks 3 := ⟨⟨gt_in (tin5 (List.mem_of_getElem? (l := tables_1_5) (i := 42) (by decide +kernel))) rfl, gt_in (tin1 (List.mem_of_getElem? (l := tables_1_1) (i := 14) (by decide +kernel))) rfl, by decide, by decide +kernel, by decide +kernel, by decide +kernel⟩, gt_in (tin5 (List.mem_of_getElem? (l := tables_1_5) (i := 41) (by decide +kernel))) rfl, gt_in (List.mem_append_left _ (List.mem_of_getElem? (l := k2_sels lw_privs) (i := 15) (by decide +kernel))) rfl⟩
abbrev mX11_cut : Mth := (yX11_cut, cX11_cut, 2, (some .int))
theorem msX11_cut : MS mX11_cut 2 := ⟨⟨gt_in (tin5 (List.mem_of_getElem? (l := tables_1_5) (i := 45) (by decide +kernel))) rfl, gt_in (tin1 (List.mem_of_getElem? (l := tables_1_1) (i := 14) (by decide +kernel))) rfl, by decide, by decide +kernel, by decide +kernel, by decide +kernel⟩, gt_in (tin5 (List.mem_of_getElem? (l := tables_1_5) (i := 44) (by decide +kernel))) rfl⟩
abbrev mX11_get : Mth := (yX11_get, cX11_get, 4, (some .int))
theorem mvX11_get : MV mX11_get 3 := ⟨⟨gt_in (tin5 (List.mem_of_getElem? (l := tables_1_5) (i := 49) (by decide +kernel))) rfl, gt_in (tin1 (List.mem_of_getElem? (l := tables_1_1) (i := 14) (by decide +kernel))) rfl, by decide, by decide +kernel, by decide +kernel, by decide +kernel⟩, gt_in (tin5 (List.mem_of_getElem? (l := tables_1_5) (i := 47) (by decide +kernel))) rfl, gt_in (tin5 (List.mem_of_getElem? (l := tables_1_5) (i := 48) (by decide +kernel))) rfl⟩
abbrev mX11_copy : Mth := (yX11_copy, cX11_copy, 7, (some .int))
theorem mvX11_copy : MV mX11_copy 5 := ⟨⟨gt_in (tin5 (List.mem_of_getElem? (l := tables_1_5) (i := 54) (by decide +kernel))) rfl, gt_in (tin1 (List.mem_of_getElem? (l := tables_1_1) (i := 14) (by decide +kernel))) rfl, by decide, by decide +kernel, by decide +kernel, by decide +kernel⟩, gt_in (tin5 (List.mem_of_getElem? (l := tables_1_5) (i := 52) (by decide +kernel))) rfl, gt_in (tin5 (List.mem_of_getElem? (l := tables_1_5) (i := 53) (by decide +kernel))) rfl⟩
abbrev mX11_type : Mth := (yX11_type, cX11_type, 2, (some .int))
theorem mvX11_type : MV mX11_type 1 := ⟨⟨gt_in (tin5 (List.mem_of_getElem? (l := tables_1_5) (i := 58) (by decide +kernel))) rfl, gt_in (tin1 (List.mem_of_getElem? (l := tables_1_1) (i := 14) (by decide +kernel))) rfl, by decide, by decide +kernel, by decide +kernel, by decide +kernel⟩, gt_in (tin5 (List.mem_of_getElem? (l := tables_1_5) (i := 56) (by decide +kernel))) rfl, gt_in (tin5 (List.mem_of_getElem? (l := tables_1_5) (i := 57) (by decide +kernel))) rfl⟩
abbrev mX11_wipe : Mth := (yX11_wipe, cX11_wipe, 2, (some .int))
theorem mvX11_wipe : MV mX11_wipe 0 := ⟨⟨gt_in (tin5 (List.mem_of_getElem? (l := tables_1_5) (i := 63) (by decide +kernel))) rfl, gt_in (tin1 (List.mem_of_getElem? (l := tables_1_1) (i := 14) (by decide +kernel))) rfl, by decide, by decide +kernel, by decide +kernel, by decide +kernel⟩, gt_in (tin5 (List.mem_of_getElem? (l := tables_1_5) (i := 61) (by decide +kernel))) rfl, gt_in (tin5 (List.mem_of_getElem? (l := tables_1_5) (i := 62) (by decide +kernel))) rfl⟩
abbrev mX11_undo : Mth := (yX11_undo, cX11_undo, 1, (some .int))
theorem mvX11_undo : MV mX11_undo 0 := ⟨⟨gt_in (tin5 (List.mem_of_getElem? (l := tables_1_5) (i := 67) (by decide +kernel))) rfl, gt_in (tin1 (List.mem_of_getElem? (l := tables_1_1) (i := 14) (by decide +kernel))) rfl, by decide, by decide +kernel, by decide +kernel, by decide +kernel⟩, gt_in (tin5 (List.mem_of_getElem? (l := tables_1_5) (i := 65) (by decide +kernel))) rfl, gt_in (tin5 (List.mem_of_getElem? (l := tables_1_5) (i := 66) (by decide +kernel))) rfl⟩
abbrev mX11_fault : Mth := (yX11_fault, cX11_fault, 1, (some .int))
theorem mvX11_fault : MV mX11_fault 0 := ⟨⟨gt_in (tin5 (List.mem_of_getElem? (l := tables_1_5) (i := 71) (by decide +kernel))) rfl, gt_in (tin1 (List.mem_of_getElem? (l := tables_1_1) (i := 14) (by decide +kernel))) rfl, by decide, by decide +kernel, by decide +kernel, by decide +kernel⟩, gt_in (tin5 (List.mem_of_getElem? (l := tables_1_5) (i := 69) (by decide +kernel))) rfl, gt_in (tin5 (List.mem_of_getElem? (l := tables_1_5) (i := 70) (by decide +kernel))) rfl⟩
abbrev mX11_reads : Mth := (yX11_reads, cX11_reads, 3, (some .int))
theorem mvX11_reads : MV mX11_reads 0 := ⟨⟨gt_in (tin5 (List.mem_of_getElem? (l := tables_1_5) (i := 75) (by decide +kernel))) rfl, gt_in (tin1 (List.mem_of_getElem? (l := tables_1_1) (i := 14) (by decide +kernel))) rfl, by decide, by decide +kernel, by decide +kernel, by decide +kernel⟩, gt_in (tin5 (List.mem_of_getElem? (l := tables_1_5) (i := 74) (by decide +kernel))) rfl, gt_in (List.mem_append_left _ (List.mem_of_getElem? (l := k2_sels lw_privs) (i := 16) (by decide +kernel))) rfl⟩
abbrev mX11_readsPerson : Mth := (yX11_readsPerson, cX11_readsPerson, 4, (some .boolean))
theorem mvX11_readsPerson : MV mX11_readsPerson 0 := ⟨⟨gt_in (tin5 (List.mem_of_getElem? (l := tables_1_5) (i := 79) (by decide +kernel))) rfl, gt_in (tin1 (List.mem_of_getElem? (l := tables_1_1) (i := 14) (by decide +kernel))) rfl, by decide, by decide +kernel, by decide +kernel, by decide +kernel⟩, gt_in (tin5 (List.mem_of_getElem? (l := tables_1_5) (i := 78) (by decide +kernel))) rfl, gt_in (List.mem_append_left _ (List.mem_of_getElem? (l := k2_sels lw_privs) (i := 17) (by decide +kernel))) rfl⟩
abbrev mX11_person : Mth := (yX11_person, cX11_person, 3, (some .int))
theorem mvX11_person : MV mX11_person 2 := ⟨⟨gt_in (tin5 (List.mem_of_getElem? (l := tables_1_5) (i := 86) (by decide +kernel))) rfl, gt_in (tin1 (List.mem_of_getElem? (l := tables_1_1) (i := 14) (by decide +kernel))) rfl, by decide, by decide +kernel, by decide +kernel, by decide +kernel⟩, gt_in (tin5 (List.mem_of_getElem? (l := tables_1_5) (i := 84) (by decide +kernel))) rfl, gt_in (tin5 (List.mem_of_getElem? (l := tables_1_5) (i := 85) (by decide +kernel))) rfl⟩
abbrev mX11_isPerson : Mth := (yX11_isPerson, cX11_isPerson, 2, (some .boolean))
theorem mvX11_isPerson : MV mX11_isPerson 1 := ⟨⟨gt_in (tin5 (List.mem_of_getElem? (l := tables_1_5) (i := 90) (by decide +kernel))) rfl, gt_in (tin1 (List.mem_of_getElem? (l := tables_1_1) (i := 14) (by decide +kernel))) rfl, by decide, by decide +kernel, by decide +kernel, by decide +kernel⟩, gt_in (tin5 (List.mem_of_getElem? (l := tables_1_5) (i := 89) (by decide +kernel))) rfl, gt_in (List.mem_append_left _ (List.mem_of_getElem? (l := k2_sels lw_privs) (i := 18) (by decide +kernel))) rfl⟩
abbrev mX11_isTwo : Mth := (yX11_isTwo, cX11_isTwo, 1, (some .boolean))
theorem msX11_isTwo : MS mX11_isTwo 1 := ⟨⟨gt_in (tin5 (List.mem_of_getElem? (l := tables_1_5) (i := 93) (by decide +kernel))) rfl, gt_in (tin1 (List.mem_of_getElem? (l := tables_1_1) (i := 14) (by decide +kernel))) rfl, by decide, by decide +kernel, by decide +kernel, by decide +kernel⟩, gt_in (tin5 (List.mem_of_getElem? (l := tables_1_5) (i := 92) (by decide +kernel))) rfl⟩
abbrev mX11_twinOf : Mth := (yX11_twinOf, cX11_twinOf, 3, (some .int))
theorem mvX11_twinOf : MV mX11_twinOf 1 := ⟨⟨gt_in (tin5 (List.mem_of_getElem? (l := tables_1_5) (i := 97) (by decide +kernel))) rfl, gt_in (tin1 (List.mem_of_getElem? (l := tables_1_1) (i := 14) (by decide +kernel))) rfl, by decide, by decide +kernel, by decide +kernel, by decide +kernel⟩, gt_in (tin5 (List.mem_of_getElem? (l := tables_1_5) (i := 96) (by decide +kernel))) rfl, gt_in (List.mem_append_left _ (List.mem_of_getElem? (l := k2_sels lw_privs) (i := 19) (by decide +kernel))) rfl⟩
abbrev mX11_picture : Mth := (yX11_picture, cX11_picture, 5, (some .int))
theorem mvX11_picture : MV mX11_picture 4 := ⟨⟨gt_in (tin5 (List.mem_of_getElem? (l := tables_1_5) (i := 101) (by decide +kernel))) rfl, gt_in (tin1 (List.mem_of_getElem? (l := tables_1_1) (i := 14) (by decide +kernel))) rfl, by decide, by decide +kernel, by decide +kernel, by decide +kernel⟩, gt_in (tin5 (List.mem_of_getElem? (l := tables_1_5) (i := 99) (by decide +kernel))) rfl, gt_in (tin5 (List.mem_of_getElem? (l := tables_1_5) (i := 100) (by decide +kernel))) rfl⟩
abbrev mX11_isYear : Mth := (yX11_isYear, cX11_isYear, 1, (some .boolean))
theorem msX11_isYear : MS mX11_isYear 1 := ⟨⟨gt_in (tin5 (List.mem_of_getElem? (l := tables_1_5) (i := 104) (by decide +kernel))) rfl, gt_in (tin1 (List.mem_of_getElem? (l := tables_1_1) (i := 14) (by decide +kernel))) rfl, by decide, by decide +kernel, by decide +kernel, by decide +kernel⟩, gt_in (tin5 (List.mem_of_getElem? (l := tables_1_5) (i := 103) (by decide +kernel))) rfl⟩
abbrev mX11_isAnyone : Mth := (yX11_isAnyone, cX11_isAnyone, 1, (some .boolean))
theorem msX11_isAnyone : MS mX11_isAnyone 1 := ⟨⟨gt_in (tin5 (List.mem_of_getElem? (l := tables_1_5) (i := 108) (by decide +kernel))) rfl, gt_in (tin1 (List.mem_of_getElem? (l := tables_1_1) (i := 14) (by decide +kernel))) rfl, by decide, by decide +kernel, by decide +kernel, by decide +kernel⟩, gt_in (tin5 (List.mem_of_getElem? (l := tables_1_5) (i := 107) (by decide +kernel))) rfl⟩
abbrev mX11_isDrawer : Mth := (yX11_isDrawer, cX11_isDrawer, 1, (some .boolean))
theorem msX11_isDrawer : MS mX11_isDrawer 1 := ⟨⟨gt_in (tin5 (List.mem_of_getElem? (l := tables_1_5) (i := 112) (by decide +kernel))) rfl, gt_in (tin1 (List.mem_of_getElem? (l := tables_1_1) (i := 14) (by decide +kernel))) rfl, by decide, by decide +kernel, by decide +kernel, by decide +kernel⟩, gt_in (tin5 (List.mem_of_getElem? (l := tables_1_5) (i := 111) (by decide +kernel))) rfl⟩
abbrev mX11_burn : Mth := (yX11_burn, cX11_burn, 3, (some .int))
theorem mvX11_burn : MV mX11_burn 2 := ⟨⟨gt_in (tin5 (List.mem_of_getElem? (l := tables_1_5) (i := 116) (by decide +kernel))) rfl, gt_in (tin1 (List.mem_of_getElem? (l := tables_1_1) (i := 14) (by decide +kernel))) rfl, by decide, by decide +kernel, by decide +kernel, by decide +kernel⟩, gt_in (tin5 (List.mem_of_getElem? (l := tables_1_5) (i := 114) (by decide +kernel))) rfl, gt_in (tin5 (List.mem_of_getElem? (l := tables_1_5) (i := 115) (by decide +kernel))) rfl⟩
abbrev mX11_back : Mth := (yX11_back, cX11_back, 3, (some .int))
theorem mvX11_back : MV mX11_back 1 := ⟨⟨gt_in (tin5 (List.mem_of_getElem? (l := tables_1_5) (i := 121) (by decide +kernel))) rfl, gt_in (tin1 (List.mem_of_getElem? (l := tables_1_1) (i := 14) (by decide +kernel))) rfl, by decide, by decide +kernel, by decide +kernel, by decide +kernel⟩, gt_in (tin5 (List.mem_of_getElem? (l := tables_1_5) (i := 119) (by decide +kernel))) rfl, gt_in (tin5 (List.mem_of_getElem? (l := tables_1_5) (i := 120) (by decide +kernel))) rfl⟩
abbrev mX11_faint : Mth := (yX11_faint, cX11_faint, 3, (some .int))
theorem mvX11_faint : MV mX11_faint 1 := ⟨⟨gt_in (tin5 (List.mem_of_getElem? (l := tables_1_5) (i := 125) (by decide +kernel))) rfl, gt_in (tin1 (List.mem_of_getElem? (l := tables_1_1) (i := 14) (by decide +kernel))) rfl, by decide, by decide +kernel, by decide +kernel, by decide +kernel⟩, gt_in (tin5 (List.mem_of_getElem? (l := tables_1_5) (i := 123) (by decide +kernel))) rfl, gt_in (tin5 (List.mem_of_getElem? (l := tables_1_5) (i := 124) (by decide +kernel))) rfl⟩
abbrev mX11_want : Mth := (yX11_want, cX11_want, 4, (some .int))
theorem mvX11_want : MV mX11_want 2 := ⟨⟨gt_in (tin5 (List.mem_of_getElem? (l := tables_1_5) (i := 130) (by decide +kernel))) rfl, gt_in (tin1 (List.mem_of_getElem? (l := tables_1_1) (i := 14) (by decide +kernel))) rfl, by decide, by decide +kernel, by decide +kernel, by decide +kernel⟩, gt_in (tin5 (List.mem_of_getElem? (l := tables_1_5) (i := 128) (by decide +kernel))) rfl, gt_in (tin5 (List.mem_of_getElem? (l := tables_1_5) (i := 129) (by decide +kernel))) rfl⟩
abbrev mX11_solid : Mth := (yX11_solid, cX11_solid, 3, (some .int))
theorem mvX11_solid : MV mX11_solid 2 := ⟨⟨gt_in (tin5 (List.mem_of_getElem? (l := tables_1_5) (i := 135) (by decide +kernel))) rfl, gt_in (tin1 (List.mem_of_getElem? (l := tables_1_1) (i := 14) (by decide +kernel))) rfl, by decide, by decide +kernel, by decide +kernel, by decide +kernel⟩, gt_in (tin5 (List.mem_of_getElem? (l := tables_1_5) (i := 133) (by decide +kernel))) rfl, gt_in (tin5 (List.mem_of_getElem? (l := tables_1_5) (i := 134) (by decide +kernel))) rfl⟩
abbrev mX11_lives : Mth := (yX11_lives, cX11_lives, 3, none)
theorem mvX11_lives : MV mX11_lives 1 := ⟨⟨gt_in (tin5 (List.mem_of_getElem? (l := tables_1_5) (i := 139) (by decide +kernel))) rfl, gt_in (tin1 (List.mem_of_getElem? (l := tables_1_1) (i := 14) (by decide +kernel))) rfl, by decide, by decide +kernel, by decide +kernel, by decide +kernel⟩, gt_in (tin5 (List.mem_of_getElem? (l := tables_1_5) (i := 138) (by decide +kernel))) rfl, gt_in (List.mem_append_left _ (List.mem_of_getElem? (l := k2_sels lw_privs) (i := 20) (by decide +kernel))) rfl⟩
abbrev mX11_begins : Mth := (yX11_begins, cX11_begins, 2, none)
theorem mvX11_begins : MV mX11_begins 0 := ⟨⟨gt_in (tin5 (List.mem_of_getElem? (l := tables_1_5) (i := 143) (by decide +kernel))) rfl, gt_in (tin1 (List.mem_of_getElem? (l := tables_1_1) (i := 14) (by decide +kernel))) rfl, by decide, by decide +kernel, by decide +kernel, by decide +kernel⟩, gt_in (tin5 (List.mem_of_getElem? (l := tables_1_5) (i := 142) (by decide +kernel))) rfl, gt_in (List.mem_append_left _ (List.mem_of_getElem? (l := k2_sels lw_privs) (i := 21) (by decide +kernel))) rfl⟩
abbrev mX11_goesOn : Mth := (yX11_goesOn, cX11_goesOn, 4, none)
theorem mvX11_goesOn : MV mX11_goesOn 1 := ⟨⟨gt_in (tin5 (List.mem_of_getElem? (l := tables_1_5) (i := 147) (by decide +kernel))) rfl, gt_in (tin1 (List.mem_of_getElem? (l := tables_1_1) (i := 14) (by decide +kernel))) rfl, by decide, by decide +kernel, by decide +kernel, by decide +kernel⟩, gt_in (tin5 (List.mem_of_getElem? (l := tables_1_5) (i := 146) (by decide +kernel))) rfl, gt_in (List.mem_append_left _ (List.mem_of_getElem? (l := k2_sels lw_privs) (i := 22) (by decide +kernel))) rfl⟩
abbrev mX11_takesAll : Mth := (yX11_takesAll, cX11_takesAll, 4, none)
theorem mvX11_takesAll : MV mX11_takesAll 1 := ⟨⟨gt_in (tin5 (List.mem_of_getElem? (l := tables_1_5) (i := 151) (by decide +kernel))) rfl, gt_in (tin1 (List.mem_of_getElem? (l := tables_1_1) (i := 14) (by decide +kernel))) rfl, by decide, by decide +kernel, by decide +kernel, by decide +kernel⟩, gt_in (tin5 (List.mem_of_getElem? (l := tables_1_5) (i := 150) (by decide +kernel))) rfl, gt_in (List.mem_append_left _ (List.mem_of_getElem? (l := k2_sels lw_privs) (i := 23) (by decide +kernel))) rfl⟩
abbrev mX11_sizeOf : Mth := (yX11_sizeOf, cX11_sizeOf, 2, (some .int))
theorem mvX11_sizeOf : MV mX11_sizeOf 1 := ⟨⟨gt_in (tin5 (List.mem_of_getElem? (l := tables_1_5) (i := 155) (by decide +kernel))) rfl, gt_in (tin1 (List.mem_of_getElem? (l := tables_1_1) (i := 14) (by decide +kernel))) rfl, by decide, by decide +kernel, by decide +kernel, by decide +kernel⟩, gt_in (tin5 (List.mem_of_getElem? (l := tables_1_5) (i := 154) (by decide +kernel))) rfl, gt_in (List.mem_append_left _ (List.mem_of_getElem? (l := k2_sels lw_privs) (i := 24) (by decide +kernel))) rfl⟩
abbrev mX11_takes : Mth := (yX11_takes, cX11_takes, 4, (some .int))
theorem mvX11_takes : MV mX11_takes 2 := ⟨⟨gt_in (tin5 (List.mem_of_getElem? (l := tables_1_5) (i := 159) (by decide +kernel))) rfl, gt_in (tin1 (List.mem_of_getElem? (l := tables_1_1) (i := 14) (by decide +kernel))) rfl, by decide, by decide +kernel, by decide +kernel, by decide +kernel⟩, gt_in (tin5 (List.mem_of_getElem? (l := tables_1_5) (i := 158) (by decide +kernel))) rfl, gt_in (List.mem_append_left _ (List.mem_of_getElem? (l := k2_sels lw_privs) (i := 25) (by decide +kernel))) rfl⟩
abbrev mX11_lesser : Mth := (yX11_lesser, cX11_lesser, 2, (some .int))
theorem msX11_lesser : MS mX11_lesser 2 := ⟨⟨gt_in (tin5 (List.mem_of_getElem? (l := tables_1_5) (i := 162) (by decide +kernel))) rfl, gt_in (tin1 (List.mem_of_getElem? (l := tables_1_1) (i := 14) (by decide +kernel))) rfl, by decide, by decide +kernel, by decide +kernel, by decide +kernel⟩, gt_in (tin5 (List.mem_of_getElem? (l := tables_1_5) (i := 161) (by decide +kernel))) rfl⟩
abbrev mX11_lot : Mth := (yX11_lot, cX11_lot, 2, (some .int))
theorem mvX11_lot : MV mX11_lot 1 := ⟨⟨gt_in (tin5 (List.mem_of_getElem? (l := tables_1_5) (i := 166) (by decide +kernel))) rfl, gt_in (tin1 (List.mem_of_getElem? (l := tables_1_1) (i := 14) (by decide +kernel))) rfl, by decide, by decide +kernel, by decide +kernel, by decide +kernel⟩, gt_in (tin5 (List.mem_of_getElem? (l := tables_1_5) (i := 165) (by decide +kernel))) rfl, gt_in (List.mem_append_left _ (List.mem_of_getElem? (l := k2_sels lw_privs) (i := 26) (by decide +kernel))) rfl⟩
abbrev mX11_burnsAll : Mth := (yX11_burnsAll, cX11_burnsAll, 5, none)
theorem mvX11_burnsAll : MV mX11_burnsAll 1 := ⟨⟨gt_in (tin5 (List.mem_of_getElem? (l := tables_1_5) (i := 171) (by decide +kernel))) rfl, gt_in (tin1 (List.mem_of_getElem? (l := tables_1_1) (i := 14) (by decide +kernel))) rfl, by decide, by decide +kernel, by decide +kernel, by decide +kernel⟩, gt_in (tin5 (List.mem_of_getElem? (l := tables_1_5) (i := 170) (by decide +kernel))) rfl, gt_in (List.mem_append_left _ (List.mem_of_getElem? (l := k2_sels lw_privs) (i := 27) (by decide +kernel))) rfl⟩
abbrev mX11_behind : Mth := (yX11_behind, cX11_behind, 3, (some .int))
theorem mvX11_behind : MV mX11_behind 2 := ⟨⟨gt_in (tin5 (List.mem_of_getElem? (l := tables_1_5) (i := 175) (by decide +kernel))) rfl, gt_in (tin1 (List.mem_of_getElem? (l := tables_1_1) (i := 14) (by decide +kernel))) rfl, by decide, by decide +kernel, by decide +kernel, by decide +kernel⟩, gt_in (tin5 (List.mem_of_getElem? (l := tables_1_5) (i := 173) (by decide +kernel))) rfl, gt_in (tin5 (List.mem_of_getElem? (l := tables_1_5) (i := 174) (by decide +kernel))) rfl⟩
abbrev mX11_behindOf : Mth := (yX11_behindOf, cX11_behindOf, 3, (some .int))
theorem mvX11_behindOf : MV mX11_behindOf 2 := ⟨⟨gt_in (tin5 (List.mem_of_getElem? (l := tables_1_5) (i := 179) (by decide +kernel))) rfl, gt_in (tin1 (List.mem_of_getElem? (l := tables_1_1) (i := 14) (by decide +kernel))) rfl, by decide, by decide +kernel, by decide +kernel, by decide +kernel⟩, gt_in (tin5 (List.mem_of_getElem? (l := tables_1_5) (i := 178) (by decide +kernel))) rfl, gt_in (List.mem_append_left _ (List.mem_of_getElem? (l := k2_sels lw_privs) (i := 28) (by decide +kernel))) rfl⟩
abbrev mX11_unseenNow : Mth := (yX11_unseenNow, cX11_unseenNow, 3, (some .int))
theorem mvX11_unseenNow : MV mX11_unseenNow 0 := ⟨⟨gt_in (tin5 (List.mem_of_getElem? (l := tables_1_5) (i := 183) (by decide +kernel))) rfl, gt_in (tin1 (List.mem_of_getElem? (l := tables_1_1) (i := 14) (by decide +kernel))) rfl, by decide, by decide +kernel, by decide +kernel, by decide +kernel⟩, gt_in (tin5 (List.mem_of_getElem? (l := tables_1_5) (i := 182) (by decide +kernel))) rfl, gt_in (List.mem_append_left _ (List.mem_of_getElem? (l := k2_sels lw_privs) (i := 29) (by decide +kernel))) rfl⟩
abbrev mX11_thereNow : Mth := (yX11_thereNow, cX11_thereNow, 3, (some .int))
theorem mvX11_thereNow : MV mX11_thereNow 0 := ⟨⟨gt_in (tin5 (List.mem_of_getElem? (l := tables_1_5) (i := 187) (by decide +kernel))) rfl, gt_in (tin1 (List.mem_of_getElem? (l := tables_1_1) (i := 14) (by decide +kernel))) rfl, by decide, by decide +kernel, by decide +kernel, by decide +kernel⟩, gt_in (tin5 (List.mem_of_getElem? (l := tables_1_5) (i := 186) (by decide +kernel))) rfl, gt_in (List.mem_append_left _ (List.mem_of_getElem? (l := k2_sels lw_privs) (i := 30) (by decide +kernel))) rfl⟩
abbrev mX11_allNow : Mth := (yX11_allNow, cX11_allNow, 3, (some .int))
theorem mvX11_allNow : MV mX11_allNow 0 := ⟨⟨gt_in (tin5 (List.mem_of_getElem? (l := tables_1_5) (i := 191) (by decide +kernel))) rfl, gt_in (tin1 (List.mem_of_getElem? (l := tables_1_1) (i := 14) (by decide +kernel))) rfl, by decide, by decide +kernel, by decide +kernel, by decide +kernel⟩, gt_in (tin5 (List.mem_of_getElem? (l := tables_1_5) (i := 190) (by decide +kernel))) rfl, gt_in (List.mem_append_left _ (List.mem_of_getElem? (l := k2_sels lw_privs) (i := 31) (by decide +kernel))) rfl⟩
abbrev mX11_holds : Mth := (yX11_holds, cX11_holds, 4, (some .int))
theorem mvX11_holds : MV mX11_holds 1 := ⟨⟨gt_in (tin5 (List.mem_of_getElem? (l := tables_1_5) (i := 195) (by decide +kernel))) rfl, gt_in (tin1 (List.mem_of_getElem? (l := tables_1_1) (i := 14) (by decide +kernel))) rfl, by decide, by decide +kernel, by decide +kernel, by decide +kernel⟩, gt_in (tin5 (List.mem_of_getElem? (l := tables_1_5) (i := 194) (by decide +kernel))) rfl, gt_in (List.mem_append_left _ (List.mem_of_getElem? (l := k2_sels lw_privs) (i := 32) (by decide +kernel))) rfl⟩
abbrev mX11_drawer : Mth := (yX11_drawer, cX11_drawer, 3, (some .int))
theorem mvX11_drawer : MV mX11_drawer 2 := ⟨⟨gt_in (tin5 (List.mem_of_getElem? (l := tables_1_5) (i := 199) (by decide +kernel))) rfl, gt_in (tin1 (List.mem_of_getElem? (l := tables_1_1) (i := 14) (by decide +kernel))) rfl, by decide, by decide +kernel, by decide +kernel, by decide +kernel⟩, gt_in (tin5 (List.mem_of_getElem? (l := tables_1_5) (i := 197) (by decide +kernel))) rfl, gt_in (tin5 (List.mem_of_getElem? (l := tables_1_5) (i := 198) (by decide +kernel))) rfl⟩
abbrev mX11_drawerOf : Mth := (yX11_drawerOf, cX11_drawerOf, 3, (some .int))
theorem mvX11_drawerOf : MV mX11_drawerOf 2 := ⟨⟨gt_in (tin5 (List.mem_of_getElem? (l := tables_1_5) (i := 203) (by decide +kernel))) rfl, gt_in (tin1 (List.mem_of_getElem? (l := tables_1_1) (i := 14) (by decide +kernel))) rfl, by decide, by decide +kernel, by decide +kernel, by decide +kernel⟩, gt_in (tin5 (List.mem_of_getElem? (l := tables_1_5) (i := 202) (by decide +kernel))) rfl, gt_in (List.mem_append_left _ (List.mem_of_getElem? (l := k2_sels lw_privs) (i := 33) (by decide +kernel))) rfl⟩
abbrev mX11_took : Mth := (yX11_took, cX11_took, 3, (some .int))
theorem mvX11_took : MV mX11_took 2 := ⟨⟨gt_in (tin5 (List.mem_of_getElem? (l := tables_1_5) (i := 207) (by decide +kernel))) rfl, gt_in (tin1 (List.mem_of_getElem? (l := tables_1_1) (i := 14) (by decide +kernel))) rfl, by decide, by decide +kernel, by decide +kernel, by decide +kernel⟩, gt_in (tin5 (List.mem_of_getElem? (l := tables_1_5) (i := 205) (by decide +kernel))) rfl, gt_in (tin5 (List.mem_of_getElem? (l := tables_1_5) (i := 206) (by decide +kernel))) rfl⟩
abbrev mX11_tookOf : Mth := (yX11_tookOf, cX11_tookOf, 3, (some .int))
theorem mvX11_tookOf : MV mX11_tookOf 2 := ⟨⟨gt_in (tin5 (List.mem_of_getElem? (l := tables_1_5) (i := 211) (by decide +kernel))) rfl, gt_in (tin1 (List.mem_of_getElem? (l := tables_1_1) (i := 14) (by decide +kernel))) rfl, by decide, by decide +kernel, by decide +kernel, by decide +kernel⟩, gt_in (tin5 (List.mem_of_getElem? (l := tables_1_5) (i := 210) (by decide +kernel))) rfl, gt_in (List.mem_append_left _ (List.mem_of_getElem? (l := k2_sels lw_privs) (i := 34) (by decide +kernel))) rfl⟩
abbrev mX11_unseen : Mth := (yX11_unseen, cX11_unseen, 2, (some .int))
theorem mvX11_unseen : MV mX11_unseen 1 := ⟨⟨gt_in (tin5 (List.mem_of_getElem? (l := tables_1_5) (i := 215) (by decide +kernel))) rfl, gt_in (tin1 (List.mem_of_getElem? (l := tables_1_1) (i := 14) (by decide +kernel))) rfl, by decide, by decide +kernel, by decide +kernel, by decide +kernel⟩, gt_in (tin5 (List.mem_of_getElem? (l := tables_1_5) (i := 213) (by decide +kernel))) rfl, gt_in (tin5 (List.mem_of_getElem? (l := tables_1_5) (i := 214) (by decide +kernel))) rfl⟩
abbrev mX11_unseenOf : Mth := (yX11_unseenOf, cX11_unseenOf, 6, (some .int))
theorem mvX11_unseenOf : MV mX11_unseenOf 1 := ⟨⟨gt_in (tin5 (List.mem_of_getElem? (l := tables_1_5) (i := 219) (by decide +kernel))) rfl, gt_in (tin1 (List.mem_of_getElem? (l := tables_1_1) (i := 14) (by decide +kernel))) rfl, by decide, by decide +kernel, by decide +kernel, by decide +kernel⟩, gt_in (tin5 (List.mem_of_getElem? (l := tables_1_5) (i := 218) (by decide +kernel))) rfl, gt_in (List.mem_append_left _ (List.mem_of_getElem? (l := k2_sels lw_privs) (i := 35) (by decide +kernel))) rfl⟩
abbrev mX11_isIn : Mth := (yX11_isIn, cX11_isIn, 2, (some .boolean))
theorem msX11_isIn : MS mX11_isIn 2 := ⟨⟨gt_in (tin5 (List.mem_of_getElem? (l := tables_1_5) (i := 222) (by decide +kernel))) rfl, gt_in (tin1 (List.mem_of_getElem? (l := tables_1_1) (i := 14) (by decide +kernel))) rfl, by decide, by decide +kernel, by decide +kernel, by decide +kernel⟩, gt_in (tin5 (List.mem_of_getElem? (l := tables_1_5) (i := 221) (by decide +kernel))) rfl⟩
abbrev mX11_whole : Mth := (yX11_whole, cX11_whole, 7, (some .int))
theorem mvX11_whole : MV mX11_whole 5 := ⟨⟨gt_in (tin5 (List.mem_of_getElem? (l := tables_1_5) (i := 226) (by decide +kernel))) rfl, gt_in (tin1 (List.mem_of_getElem? (l := tables_1_1) (i := 14) (by decide +kernel))) rfl, by decide, by decide +kernel, by decide +kernel, by decide +kernel⟩, gt_in (tin5 (List.mem_of_getElem? (l := tables_1_5) (i := 224) (by decide +kernel))) rfl, gt_in (tin5 (List.mem_of_getElem? (l := tables_1_5) (i := 225) (by decide +kernel))) rfl⟩
abbrev mX11_wholeOf : Mth := (yX11_wholeOf, cX11_wholeOf, 6, (some .int))
theorem mvX11_wholeOf : MV mX11_wholeOf 5 := ⟨⟨gt_in (tin5 (List.mem_of_getElem? (l := tables_1_5) (i := 230) (by decide +kernel))) rfl, gt_in (tin1 (List.mem_of_getElem? (l := tables_1_1) (i := 14) (by decide +kernel))) rfl, by decide, by decide +kernel, by decide +kernel, by decide +kernel⟩, gt_in (tin5 (List.mem_of_getElem? (l := tables_1_5) (i := 229) (by decide +kernel))) rfl, gt_in (List.mem_append_left _ (List.mem_of_getElem? (l := k2_sels lw_privs) (i := 36) (by decide +kernel))) rfl⟩
abbrev mX11_findWhole : Mth := (yX11_findWhole, cX11_findWhole, 11, none)
theorem mvX11_findWhole : MV mX11_findWhole 4 := ⟨⟨gt_in (tin5 (List.mem_of_getElem? (l := tables_1_5) (i := 234) (by decide +kernel))) rfl, gt_in (tin1 (List.mem_of_getElem? (l := tables_1_1) (i := 14) (by decide +kernel))) rfl, by decide, by decide +kernel, by decide +kernel, by decide +kernel⟩, gt_in (tin5 (List.mem_of_getElem? (l := tables_1_5) (i := 233) (by decide +kernel))) rfl, gt_in (List.mem_append_left _ (List.mem_of_getElem? (l := k2_sels lw_privs) (i := 37) (by decide +kernel))) rfl⟩
abbrev mX11_backTo : Mth := (yX11_backTo, cX11_backTo, 4, (some .int))
theorem mvX11_backTo : MV mX11_backTo 2 := ⟨⟨gt_in (tin5 (List.mem_of_getElem? (l := tables_1_5) (i := 238) (by decide +kernel))) rfl, gt_in (tin1 (List.mem_of_getElem? (l := tables_1_1) (i := 14) (by decide +kernel))) rfl, by decide, by decide +kernel, by decide +kernel, by decide +kernel⟩, gt_in (tin5 (List.mem_of_getElem? (l := tables_1_5) (i := 237) (by decide +kernel))) rfl, gt_in (List.mem_append_left _ (List.mem_of_getElem? (l := k2_sels lw_privs) (i := 38) (by decide +kernel))) rfl⟩
abbrev mX11_ones : Mth := (yX11_ones, cX11_ones, 3, (some .int))
theorem msX11_ones : MS mX11_ones 1 := ⟨⟨gt_in (tin6 (List.mem_of_getElem? (l := tables_1_6) (i := 1) (by decide +kernel))) rfl, gt_in (tin1 (List.mem_of_getElem? (l := tables_1_1) (i := 14) (by decide +kernel))) rfl, by decide, by decide +kernel, by decide +kernel, by decide +kernel⟩, gt_in (tin6 (List.mem_of_getElem? (l := tables_1_6) (i := 0) (by decide +kernel))) rfl⟩
abbrev mX11_feast : Mth := (yX11_feast, cX11_feast, 3, (some .int))
theorem mvX11_feast : MV mX11_feast 2 := ⟨⟨gt_in (tin6 (List.mem_of_getElem? (l := tables_1_6) (i := 5) (by decide +kernel))) rfl, gt_in (tin1 (List.mem_of_getElem? (l := tables_1_1) (i := 14) (by decide +kernel))) rfl, by decide, by decide +kernel, by decide +kernel, by decide +kernel⟩, gt_in (tin6 (List.mem_of_getElem? (l := tables_1_6) (i := 3) (by decide +kernel))) rfl, gt_in (tin6 (List.mem_of_getElem? (l := tables_1_6) (i := 4) (by decide +kernel))) rfl⟩
abbrev mX11_feastOf : Mth := (yX11_feastOf, cX11_feastOf, 5, (some .int))
theorem mvX11_feastOf : MV mX11_feastOf 2 := ⟨⟨gt_in (tin6 (List.mem_of_getElem? (l := tables_1_6) (i := 9) (by decide +kernel))) rfl, gt_in (tin1 (List.mem_of_getElem? (l := tables_1_1) (i := 14) (by decide +kernel))) rfl, by decide, by decide +kernel, by decide +kernel, by decide +kernel⟩, gt_in (tin6 (List.mem_of_getElem? (l := tables_1_6) (i := 8) (by decide +kernel))) rfl, gt_in (List.mem_append_left _ (List.mem_of_getElem? (l := k2_sels lw_privs) (i := 39) (by decide +kernel))) rfl⟩
abbrev mX11_spy : Mth := (yX11_spy, cX11_spy, 4, (some .int))
theorem mvX11_spy : MV mX11_spy 3 := ⟨⟨gt_in (tin6 (List.mem_of_getElem? (l := tables_1_6) (i := 13) (by decide +kernel))) rfl, gt_in (tin1 (List.mem_of_getElem? (l := tables_1_1) (i := 14) (by decide +kernel))) rfl, by decide, by decide +kernel, by decide +kernel, by decide +kernel⟩, gt_in (tin6 (List.mem_of_getElem? (l := tables_1_6) (i := 11) (by decide +kernel))) rfl, gt_in (tin6 (List.mem_of_getElem? (l := tables_1_6) (i := 12) (by decide +kernel))) rfl⟩
abbrev mX11_spyOf : Mth := (yX11_spyOf, cX11_spyOf, 6, (some .int))
theorem mvX11_spyOf : MV mX11_spyOf 3 := ⟨⟨gt_in (tin6 (List.mem_of_getElem? (l := tables_1_6) (i := 17) (by decide +kernel))) rfl, gt_in (tin1 (List.mem_of_getElem? (l := tables_1_1) (i := 14) (by decide +kernel))) rfl, by decide, by decide +kernel, by decide +kernel, by decide +kernel⟩, gt_in (tin6 (List.mem_of_getElem? (l := tables_1_6) (i := 16) (by decide +kernel))) rfl, gt_in (List.mem_append_left _ (List.mem_of_getElem? (l := k2_sels lw_privs) (i := 40) (by decide +kernel))) rfl⟩
abbrev mX11_swap : Mth := (yX11_swap, cX11_swap, 3, (some .int))
theorem mvX11_swap : MV mX11_swap 2 := ⟨⟨gt_in (tin6 (List.mem_of_getElem? (l := tables_1_6) (i := 21) (by decide +kernel))) rfl, gt_in (tin1 (List.mem_of_getElem? (l := tables_1_1) (i := 14) (by decide +kernel))) rfl, by decide, by decide +kernel, by decide +kernel, by decide +kernel⟩, gt_in (tin6 (List.mem_of_getElem? (l := tables_1_6) (i := 19) (by decide +kernel))) rfl, gt_in (tin6 (List.mem_of_getElem? (l := tables_1_6) (i := 20) (by decide +kernel))) rfl⟩
abbrev mX11_swapOf : Mth := (yX11_swapOf, cX11_swapOf, 7, (some .int))
theorem mvX11_swapOf : MV mX11_swapOf 2 := ⟨⟨gt_in (tin6 (List.mem_of_getElem? (l := tables_1_6) (i := 25) (by decide +kernel))) rfl, gt_in (tin1 (List.mem_of_getElem? (l := tables_1_1) (i := 14) (by decide +kernel))) rfl, by decide, by decide +kernel, by decide +kernel, by decide +kernel⟩, gt_in (tin6 (List.mem_of_getElem? (l := tables_1_6) (i := 24) (by decide +kernel))) rfl, gt_in (List.mem_append_left _ (List.mem_of_getElem? (l := k2_sels lw_privs) (i := 41) (by decide +kernel))) rfl⟩
abbrev mX11_findSwap : Mth := (yX11_findSwap, cX11_findSwap, 4, none)
theorem mvX11_findSwap : MV mX11_findSwap 1 := ⟨⟨gt_in (tin6 (List.mem_of_getElem? (l := tables_1_6) (i := 29) (by decide +kernel))) rfl, gt_in (tin1 (List.mem_of_getElem? (l := tables_1_1) (i := 14) (by decide +kernel))) rfl, by decide, by decide +kernel, by decide +kernel, by decide +kernel⟩, gt_in (tin6 (List.mem_of_getElem? (l := tables_1_6) (i := 28) (by decide +kernel))) rfl, gt_in (List.mem_append_left _ (List.mem_of_getElem? (l := k2_sels lw_privs) (i := 42) (by decide +kernel))) rfl⟩
abbrev mX11_gains : Mth := (yX11_gains, cX11_gains, 5, (some .boolean))
theorem mvX11_gains : MV mX11_gains 2 := ⟨⟨gt_in (tin6 (List.mem_of_getElem? (l := tables_1_6) (i := 33) (by decide +kernel))) rfl, gt_in (tin1 (List.mem_of_getElem? (l := tables_1_1) (i := 14) (by decide +kernel))) rfl, by decide, by decide +kernel, by decide +kernel, by decide +kernel⟩, gt_in (tin6 (List.mem_of_getElem? (l := tables_1_6) (i := 32) (by decide +kernel))) rfl, gt_in (List.mem_append_left _ (List.mem_of_getElem? (l := k2_sels lw_privs) (i := 43) (by decide +kernel))) rfl⟩
abbrev mX11_isWanted : Mth := (yX11_isWanted, cX11_isWanted, 3, (some .boolean))
theorem mvX11_isWanted : MV mX11_isWanted 2 := ⟨⟨gt_in (tin6 (List.mem_of_getElem? (l := tables_1_6) (i := 37) (by decide +kernel))) rfl, gt_in (tin1 (List.mem_of_getElem? (l := tables_1_1) (i := 14) (by decide +kernel))) rfl, by decide, by decide +kernel, by decide +kernel, by decide +kernel⟩, gt_in (tin6 (List.mem_of_getElem? (l := tables_1_6) (i := 36) (by decide +kernel))) rfl, gt_in (List.mem_append_left _ (List.mem_of_getElem? (l := k2_sels lw_privs) (i := 44) (by decide +kernel))) rfl⟩
abbrev mX11_seen : Mth := (yX11_seen, cX11_seen, 4, (some .int))
theorem mvX11_seen : MV mX11_seen 3 := ⟨⟨gt_in (tin6 (List.mem_of_getElem? (l := tables_1_6) (i := 41) (by decide +kernel))) rfl, gt_in (tin1 (List.mem_of_getElem? (l := tables_1_1) (i := 14) (by decide +kernel))) rfl, by decide, by decide +kernel, by decide +kernel, by decide +kernel⟩, gt_in (tin6 (List.mem_of_getElem? (l := tables_1_6) (i := 39) (by decide +kernel))) rfl, gt_in (tin6 (List.mem_of_getElem? (l := tables_1_6) (i := 40) (by decide +kernel))) rfl⟩
abbrev mX11_forget : Mth := (yX11_forget, cX11_forget, 2, (some .int))
theorem mvX11_forget : MV mX11_forget 0 := ⟨⟨gt_in (tin6 (List.mem_of_getElem? (l := tables_1_6) (i := 45) (by decide +kernel))) rfl, gt_in (tin1 (List.mem_of_getElem? (l := tables_1_1) (i := 14) (by decide +kernel))) rfl, by decide, by decide +kernel, by decide +kernel, by decide +kernel⟩, gt_in (tin6 (List.mem_of_getElem? (l := tables_1_6) (i := 43) (by decide +kernel))) rfl, gt_in (tin6 (List.mem_of_getElem? (l := tables_1_6) (i := 44) (by decide +kernel))) rfl⟩
abbrev mX11_read : Mth := (yX11_read, cX11_read, 5, (some .int))
theorem mvX11_read : MV mX11_read 1 := ⟨⟨gt_in (tin6 (List.mem_of_getElem? (l := tables_1_6) (i := 49) (by decide +kernel))) rfl, gt_in (tin1 (List.mem_of_getElem? (l := tables_1_1) (i := 14) (by decide +kernel))) rfl, by decide, by decide +kernel, by decide +kernel, by decide +kernel⟩, gt_in (tin6 (List.mem_of_getElem? (l := tables_1_6) (i := 47) (by decide +kernel))) rfl, gt_in (tin6 (List.mem_of_getElem? (l := tables_1_6) (i := 48) (by decide +kernel))) rfl⟩
abbrev mX11_never : Mth := (yX11_never, cX11_never, 1, (some .int))
theorem mvX11_never : MV mX11_never 0 := ⟨⟨gt_in (tin6 (List.mem_of_getElem? (l := tables_1_6) (i := 54) (by decide +kernel))) rfl, gt_in (tin1 (List.mem_of_getElem? (l := tables_1_1) (i := 14) (by decide +kernel))) rfl, by decide, by decide +kernel, by decide +kernel, by decide +kernel⟩, gt_in (tin6 (List.mem_of_getElem? (l := tables_1_6) (i := 52) (by decide +kernel))) rfl, gt_in (tin6 (List.mem_of_getElem? (l := tables_1_6) (i := 53) (by decide +kernel))) rfl⟩
abbrev mX11_neverNow : Mth := (yX11_neverNow, cX11_neverNow, 3, (some .int))
theorem mvX11_neverNow : MV mX11_neverNow 0 := ⟨⟨gt_in (tin6 (List.mem_of_getElem? (l := tables_1_6) (i := 58) (by decide +kernel))) rfl, gt_in (tin1 (List.mem_of_getElem? (l := tables_1_1) (i := 14) (by decide +kernel))) rfl, by decide, by decide +kernel, by decide +kernel, by decide +kernel⟩, gt_in (tin6 (List.mem_of_getElem? (l := tables_1_6) (i := 57) (by decide +kernel))) rfl, gt_in (List.mem_append_left _ (List.mem_of_getElem? (l := k2_sels lw_privs) (i := 45) (by decide +kernel))) rfl⟩
abbrev mX11_isSeen : Mth := (yX11_isSeen, cX11_isSeen, 7, (some .boolean))
theorem mvX11_isSeen : MV mX11_isSeen 2 := ⟨⟨gt_in (tin6 (List.mem_of_getElem? (l := tables_1_6) (i := 62) (by decide +kernel))) rfl, gt_in (tin1 (List.mem_of_getElem? (l := tables_1_1) (i := 14) (by decide +kernel))) rfl, by decide, by decide +kernel, by decide +kernel, by decide +kernel⟩, gt_in (tin6 (List.mem_of_getElem? (l := tables_1_6) (i := 61) (by decide +kernel))) rfl, gt_in (List.mem_append_left _ (List.mem_of_getElem? (l := k2_sels lw_privs) (i := 46) (by decide +kernel))) rfl⟩
abbrev mX11_sizes : Mth := (yX11_sizes, cX11_sizes, 2, (some .int))
theorem mvX11_sizes : MV mX11_sizes 1 := ⟨⟨gt_in (tin6 (List.mem_of_getElem? (l := tables_1_6) (i := 66) (by decide +kernel))) rfl, gt_in (tin1 (List.mem_of_getElem? (l := tables_1_1) (i := 14) (by decide +kernel))) rfl, by decide, by decide +kernel, by decide +kernel, by decide +kernel⟩, gt_in (tin6 (List.mem_of_getElem? (l := tables_1_6) (i := 64) (by decide +kernel))) rfl, gt_in (tin6 (List.mem_of_getElem? (l := tables_1_6) (i := 65) (by decide +kernel))) rfl⟩
abbrev mX11_sizesOf : Mth := (yX11_sizesOf, cX11_sizesOf, 4, (some .int))
theorem mvX11_sizesOf : MV mX11_sizesOf 1 := ⟨⟨gt_in (tin6 (List.mem_of_getElem? (l := tables_1_6) (i := 70) (by decide +kernel))) rfl, gt_in (tin1 (List.mem_of_getElem? (l := tables_1_1) (i := 14) (by decide +kernel))) rfl, by decide, by decide +kernel, by decide +kernel, by decide +kernel⟩, gt_in (tin6 (List.mem_of_getElem? (l := tables_1_6) (i := 69) (by decide +kernel))) rfl, gt_in (List.mem_append_left _ (List.mem_of_getElem? (l := k2_sels lw_privs) (i := 47) (by decide +kernel))) rfl⟩
abbrev mX11_town : Mth := (yX11_town, cX11_town, 4, (some .int))
theorem mvX11_town : MV mX11_town 3 := ⟨⟨gt_in (tin6 (List.mem_of_getElem? (l := tables_1_6) (i := 74) (by decide +kernel))) rfl, gt_in (tin1 (List.mem_of_getElem? (l := tables_1_1) (i := 14) (by decide +kernel))) rfl, by decide, by decide +kernel, by decide +kernel, by decide +kernel⟩, gt_in (tin6 (List.mem_of_getElem? (l := tables_1_6) (i := 72) (by decide +kernel))) rfl, gt_in (tin6 (List.mem_of_getElem? (l := tables_1_6) (i := 73) (by decide +kernel))) rfl⟩
abbrev mX11_townOf : Mth := (yX11_townOf, cX11_townOf, 5, (some .int))
theorem msX11_townOf : MS mX11_townOf 3 := ⟨⟨gt_in (tin6 (List.mem_of_getElem? (l := tables_1_6) (i := 78) (by decide +kernel))) rfl, gt_in (tin1 (List.mem_of_getElem? (l := tables_1_1) (i := 14) (by decide +kernel))) rfl, by decide, by decide +kernel, by decide +kernel, by decide +kernel⟩, gt_in (tin6 (List.mem_of_getElem? (l := tables_1_6) (i := 77) (by decide +kernel))) rfl⟩
abbrev mX11_toll : Mth := (yX11_toll, cX11_toll, 3, (some .int))
theorem mvX11_toll : MV mX11_toll 2 := ⟨⟨gt_in (tin6 (List.mem_of_getElem? (l := tables_1_6) (i := 82) (by decide +kernel))) rfl, gt_in (tin1 (List.mem_of_getElem? (l := tables_1_1) (i := 14) (by decide +kernel))) rfl, by decide, by decide +kernel, by decide +kernel, by decide +kernel⟩, gt_in (tin6 (List.mem_of_getElem? (l := tables_1_6) (i := 80) (by decide +kernel))) rfl, gt_in (tin6 (List.mem_of_getElem? (l := tables_1_6) (i := 81) (by decide +kernel))) rfl⟩
abbrev mX11_tollOf : Mth := (yX11_tollOf, cX11_tollOf, 4, (some .int))
theorem msX11_tollOf : MS mX11_tollOf 2 := ⟨⟨gt_in (tin6 (List.mem_of_getElem? (l := tables_1_6) (i := 85) (by decide +kernel))) rfl, gt_in (tin1 (List.mem_of_getElem? (l := tables_1_1) (i := 14) (by decide +kernel))) rfl, by decide, by decide +kernel, by decide +kernel, by decide +kernel⟩, gt_in (tin6 (List.mem_of_getElem? (l := tables_1_6) (i := 84) (by decide +kernel))) rfl⟩
abbrev mX11_shots : Mth := (yX11_shots, cX11_shots, 8, (some .long))
theorem mvX11_shots : MV mX11_shots 6 := ⟨⟨gt_in (tin6 (List.mem_of_getElem? (l := tables_1_6) (i := 89) (by decide +kernel))) rfl, gt_in (tin1 (List.mem_of_getElem? (l := tables_1_1) (i := 14) (by decide +kernel))) rfl, by decide, by decide +kernel, by decide +kernel, by decide +kernel⟩, gt_in (tin6 (List.mem_of_getElem? (l := tables_1_6) (i := 87) (by decide +kernel))) rfl, gt_in (tin6 (List.mem_of_getElem? (l := tables_1_6) (i := 88) (by decide +kernel))) rfl⟩
abbrev mX11_shotsOf : Mth := (yX11_shotsOf, cX11_shotsOf, 17, (some .long))
theorem mvX11_shotsOf : MV mX11_shotsOf 6 := ⟨⟨gt_in (tin6 (List.mem_of_getElem? (l := tables_1_6) (i := 95) (by decide +kernel))) rfl, gt_in (tin1 (List.mem_of_getElem? (l := tables_1_1) (i := 14) (by decide +kernel))) rfl, by decide, by decide +kernel, by decide +kernel, by decide +kernel⟩, gt_in (tin6 (List.mem_of_getElem? (l := tables_1_6) (i := 94) (by decide +kernel))) rfl, gt_in (List.mem_append_left _ (List.mem_of_getElem? (l := k2_sels lw_privs) (i := 48) (by decide +kernel))) rfl⟩
abbrev mX11_least0 : Mth := (yX11_least0, cX11_least0, 1, (some .int))
theorem msX11_least0 : MS mX11_least0 1 := ⟨⟨gt_in (tin6 (List.mem_of_getElem? (l := tables_1_6) (i := 98) (by decide +kernel))) rfl, gt_in (tin1 (List.mem_of_getElem? (l := tables_1_1) (i := 14) (by decide +kernel))) rfl, by decide, by decide +kernel, by decide +kernel, by decide +kernel⟩, gt_in (tin6 (List.mem_of_getElem? (l := tables_1_6) (i := 97) (by decide +kernel))) rfl⟩
abbrev mX11_part : Mth := (yX11_part, cX11_part, 11, (some .long))
theorem msX11_part : MS mX11_part 3 := ⟨⟨gt_in (tin6 (List.mem_of_getElem? (l := tables_1_6) (i := 101) (by decide +kernel))) rfl, gt_in (tin1 (List.mem_of_getElem? (l := tables_1_1) (i := 14) (by decide +kernel))) rfl, by decide, by decide +kernel, by decide +kernel, by decide +kernel⟩, gt_in (tin6 (List.mem_of_getElem? (l := tables_1_6) (i := 100) (by decide +kernel))) rfl⟩
abbrev mX11_no : Mth := (yX11_no, cX11_no, 1, (some .long))
theorem msX11_no : MS mX11_no 1 := ⟨⟨gt_in (tin6 (List.mem_of_getElem? (l := tables_1_6) (i := 104) (by decide +kernel))) rfl, gt_in (tin1 (List.mem_of_getElem? (l := tables_1_1) (i := 14) (by decide +kernel))) rfl, by decide, by decide +kernel, by decide +kernel, by decide +kernel⟩, gt_in (tin6 (List.mem_of_getElem? (l := tables_1_6) (i := 103) (by decide +kernel))) rfl⟩
abbrev mX11_plates : Mth := (yX11_plates, cX11_plates, 4, (some .int))
theorem mvX11_plates : MV mX11_plates 3 := ⟨⟨gt_in (tin6 (List.mem_of_getElem? (l := tables_1_6) (i := 109) (by decide +kernel))) rfl, gt_in (tin1 (List.mem_of_getElem? (l := tables_1_1) (i := 14) (by decide +kernel))) rfl, by decide, by decide +kernel, by decide +kernel, by decide +kernel⟩, gt_in (tin6 (List.mem_of_getElem? (l := tables_1_6) (i := 107) (by decide +kernel))) rfl, gt_in (tin6 (List.mem_of_getElem? (l := tables_1_6) (i := 108) (by decide +kernel))) rfl⟩
abbrev mX11_platesOf : Mth := (yX11_platesOf, cX11_platesOf, 4, (some .int))
theorem mvX11_platesOf : MV mX11_platesOf 3 := ⟨⟨gt_in (tin6 (List.mem_of_getElem? (l := tables_1_6) (i := 113) (by decide +kernel))) rfl, gt_in (tin1 (List.mem_of_getElem? (l := tables_1_1) (i := 14) (by decide +kernel))) rfl, by decide, by decide +kernel, by decide +kernel, by decide +kernel⟩, gt_in (tin6 (List.mem_of_getElem? (l := tables_1_6) (i := 112) (by decide +kernel))) rfl, gt_in (List.mem_append_left _ (List.mem_of_getElem? (l := k2_sels lw_privs) (i := 49) (by decide +kernel))) rfl⟩
abbrev mX11_write : Mth := (yX11_write, cX11_write, 5, (some .int))
theorem mvX11_write : MV mX11_write 2 := ⟨⟨gt_in (tin6 (List.mem_of_getElem? (l := tables_1_6) (i := 117) (by decide +kernel))) rfl, gt_in (tin1 (List.mem_of_getElem? (l := tables_1_1) (i := 14) (by decide +kernel))) rfl, by decide, by decide +kernel, by decide +kernel, by decide +kernel⟩, gt_in (tin6 (List.mem_of_getElem? (l := tables_1_6) (i := 115) (by decide +kernel))) rfl, gt_in (tin6 (List.mem_of_getElem? (l := tables_1_6) (i := 116) (by decide +kernel))) rfl⟩
abbrev mX11_count : Mth := (yX11_count, cX11_count, 4, (some .int))
theorem mvX11_count : MV mX11_count 1 := ⟨⟨gt_in (tin6 (List.mem_of_getElem? (l := tables_1_6) (i := 121) (by decide +kernel))) rfl, gt_in (tin1 (List.mem_of_getElem? (l := tables_1_1) (i := 14) (by decide +kernel))) rfl, by decide, by decide +kernel, by decide +kernel, by decide +kernel⟩, gt_in (tin6 (List.mem_of_getElem? (l := tables_1_6) (i := 119) (by decide +kernel))) rfl, gt_in (tin6 (List.mem_of_getElem? (l := tables_1_6) (i := 120) (by decide +kernel))) rfl⟩
abbrev mX11_digest : Mth := (yX11_digest, cX11_digest, 6, (some .long))
theorem mvX11_digest : MV mX11_digest 0 := ⟨⟨gt_in (tin6 (List.mem_of_getElem? (l := tables_1_6) (i := 125) (by decide +kernel))) rfl, gt_in (tin1 (List.mem_of_getElem? (l := tables_1_1) (i := 14) (by decide +kernel))) rfl, by decide, by decide +kernel, by decide +kernel, by decide +kernel⟩, gt_in (tin6 (List.mem_of_getElem? (l := tables_1_6) (i := 123) (by decide +kernel))) rfl, gt_in (tin6 (List.mem_of_getElem? (l := tables_1_6) (i := 124) (by decide +kernel))) rfl⟩
abbrev mX11_tellsPerson : Mth := (yX11_tellsPerson, cX11_tellsPerson, 6, (some .long))
theorem mvX11_tellsPerson : MV mX11_tellsPerson 2 := ⟨⟨gt_in (tin6 (List.mem_of_getElem? (l := tables_1_6) (i := 132) (by decide +kernel))) rfl, gt_in (tin1 (List.mem_of_getElem? (l := tables_1_1) (i := 14) (by decide +kernel))) rfl, by decide, by decide +kernel, by decide +kernel, by decide +kernel⟩, gt_in (tin6 (List.mem_of_getElem? (l := tables_1_6) (i := 131) (by decide +kernel))) rfl, gt_in (List.mem_append_left _ (List.mem_of_getElem? (l := k2_sels lw_privs) (i := 50) (by decide +kernel))) rfl⟩
theorem mlX7_9 : ML RX7 9 mJ9_max_7cf53 := gt_in (tin1 (List.mem_of_getElem? (l := tables_1_1) (i := 62) (by decide +kernel))) rfl
theorem mlX2_21 : ML RX2 21 mJ7_fill_53178 := gt_in (tin1 (List.mem_of_getElem? (l := tables_1_1) (i := 171) (by decide +kernel))) rfl
theorem mlL_13 : ML RL 13 mX10_type := gt_in (tin2 (List.mem_of_getElem? (l := tables_1_2) (i := 30) (by decide +kernel))) rfl
theorem mlX10_81 : ML RX10 81 mX10_isWithin := gt_in (tin2 (List.mem_of_getElem? (l := tables_1_2) (i := 34) (by decide +kernel))) rfl
theorem mlX10_85 : ML RX10 85 mX4_length := gt_in (tin2 (List.mem_of_getElem? (l := tables_1_2) (i := 37) (by decide +kernel))) rfl
theorem mlX10_89 : ML RX10 89 mX4_append := gt_in (tin2 (List.mem_of_getElem? (l := tables_1_2) (i := 41) (by decide +kernel))) rfl
theorem mlX4_35 : ML RX4 35 mX4_readText := gt_in (tin2 (List.mem_of_getElem? (l := tables_1_2) (i := 45) (by decide +kernel))) rfl
theorem mlX4_38 : ML RX4 38 mX4_findFault := gt_in (tin2 (List.mem_of_getElem? (l := tables_1_2) (i := 49) (by decide +kernel))) rfl
theorem mlX4_42 : ML RX4 42 mX4_mayStand := gt_in (tin2 (List.mem_of_getElem? (l := tables_1_2) (i := 53) (by decide +kernel))) rfl
theorem mlL_18 : ML RL 18 mX10_wipe := gt_in (tin2 (List.mem_of_getElem? (l := tables_1_2) (i := 56) (by decide +kernel))) rfl
theorem mlX10_93 : ML RX10 93 mX4_cutTo := gt_in (tin2 (List.mem_of_getElem? (l := tables_1_2) (i := 60) (by decide +kernel))) rfl
theorem mlL_23 : ML RL 23 mX10_undo := gt_in (tin2 (List.mem_of_getElem? (l := tables_1_2) (i := 64) (by decide +kernel))) rfl
theorem mlL_27 : ML RL 27 mX10_fault := gt_in (tin2 (List.mem_of_getElem? (l := tables_1_2) (i := 68) (by decide +kernel))) rfl
theorem mlX10_96 : ML RX10 96 mX4_faultPlace := gt_in (tin2 (List.mem_of_getElem? (l := tables_1_2) (i := 72) (by decide +kernel))) rfl
theorem mlL_31 : ML RL 31 mX10_person := gt_in (tin2 (List.mem_of_getElem? (l := tables_1_2) (i := 76) (by decide +kernel))) rfl
theorem mlX10_99 : ML RX10 99 mX4_has := gt_in (tin2 (List.mem_of_getElem? (l := tables_1_2) (i := 80) (by decide +kernel))) rfl
theorem mlX10_103 : ML RX10 103 mX4_solidAtFirst := gt_in (tin2 (List.mem_of_getElem? (l := tables_1_2) (i := 84) (by decide +kernel))) rfl
theorem mlX4_31 : ML RX4 31 mX4_has := gt_in (tin2 (List.mem_of_getElem? (l := tables_1_2) (i := 88) (by decide +kernel))) rfl
theorem mlX10_107 : ML RX10 107 mX4_twinOf := gt_in (tin2 (List.mem_of_getElem? (l := tables_1_2) (i := 89) (by decide +kernel))) rfl
theorem mlL_36 : ML RL 36 mX10_picture := gt_in (tin2 (List.mem_of_getElem? (l := tables_1_2) (i := 93) (by decide +kernel))) rfl
theorem mlX10_110 : ML RX10 110 mX10_isYear := gt_in (tin2 (List.mem_of_getElem? (l := tables_1_2) (i := 97) (by decide +kernel))) rfl
theorem mlX10_113 : ML RX10 113 mX10_isSize := gt_in (tin2 (List.mem_of_getElem? (l := tables_1_2) (i := 100) (by decide +kernel))) rfl
theorem mlX10_116 : ML RX10 116 mX10_isDrawer := gt_in (tin2 (List.mem_of_getElem? (l := tables_1_2) (i := 103) (by decide +kernel))) rfl
theorem mlX10_119 : ML RX10 119 mX5_add := gt_in (tin2 (List.mem_of_getElem? (l := tables_1_2) (i := 106) (by decide +kernel))) rfl
theorem mlX5_30 : ML RX5 30 mX7_howMany := gt_in (tin2 (List.mem_of_getElem? (l := tables_1_2) (i := 110) (by decide +kernel))) rfl
theorem mlX5_34 : ML RX5 34 mX7_add := gt_in (tin2 (List.mem_of_getElem? (l := tables_1_2) (i := 114) (by decide +kernel))) rfl
theorem mlX7_28 : ML RX7 28 mX7_isFull := gt_in (tin2 (List.mem_of_getElem? (l := tables_1_2) (i := 118) (by decide +kernel))) rfl
theorem mlX7_32 : ML RX7 32 mX7_yearAt := gt_in (tin2 (List.mem_of_getElem? (l := tables_1_2) (i := 122) (by decide +kernel))) rfl
theorem mlX10_123 : ML RX10 123 mX5_howMany := gt_in (tin2 (List.mem_of_getElem? (l := tables_1_2) (i := 126) (by decide +kernel))) rfl
theorem mlL_41 : ML RL 41 mX10_burn := gt_in (tin2 (List.mem_of_getElem? (l := tables_1_2) (i := 130) (by decide +kernel))) rfl
theorem mlX10_126 : ML RX10 126 mX0_add := gt_in (tin2 (List.mem_of_getElem? (l := tables_1_2) (i := 134) (by decide +kernel))) rfl
theorem mlX0_24 : ML RX0 24 mX7_howMany := gt_in (tin2 (List.mem_of_getElem? (l := tables_1_2) (i := 138) (by decide +kernel))) rfl
theorem mlX0_28 : ML RX0 28 mX7_add := gt_in (tin2 (List.mem_of_getElem? (l := tables_1_2) (i := 139) (by decide +kernel))) rfl
theorem mlX10_129 : ML RX10 129 mX0_howMany := gt_in (tin2 (List.mem_of_getElem? (l := tables_1_2) (i := 140) (by decide +kernel))) rfl
theorem mlL_45 : ML RL 45 mX10_back := gt_in (tin2 (List.mem_of_getElem? (l := tables_1_2) (i := 144) (by decide +kernel))) rfl
theorem mlX10_135 : ML RX10 135 mX7_dropLast := gt_in (tin2 (List.mem_of_getElem? (l := tables_1_2) (i := 148) (by decide +kernel))) rfl
theorem mlX10_141 : ML RX10 141 mX7_howMany := gt_in (tin2 (List.mem_of_getElem? (l := tables_1_2) (i := 152) (by decide +kernel))) rfl
theorem mlL_49 : ML RL 49 mX10_faint := gt_in (tin2 (List.mem_of_getElem? (l := tables_1_2) (i := 153) (by decide +kernel))) rfl
theorem mlL_53 : ML RL 53 mX10_want := gt_in (tin2 (List.mem_of_getElem? (l := tables_1_2) (i := 157) (by decide +kernel))) rfl
theorem mlX10_142 : ML RX10 142 mX2_changeWant := gt_in (tin2 (List.mem_of_getElem? (l := tables_1_2) (i := 161) (by decide +kernel))) rfl
theorem mlL_57 : ML RL 57 mX10_solid := gt_in (tin2 (List.mem_of_getElem? (l := tables_1_2) (i := 165) (by decide +kernel))) rfl
theorem mlX10_146 : ML RX10 146 mX3_goThrough := gt_in (tin2 (List.mem_of_getElem? (l := tables_1_2) (i := 169) (by decide +kernel))) rfl
theorem mlX3_68 : ML RX3 68 mX3_begin := gt_in (tin2 (List.mem_of_getElem? (l := tables_1_2) (i := 173) (by decide +kernel))) rfl
theorem mlX3_37 : ML RX3 37 mX3_beginAltered := gt_in (tin2 (List.mem_of_getElem? (l := tables_1_2) (i := 177) (by decide +kernel))) rfl
theorem mlX3_44 : ML RX3 44 mX4_solidAtFirst := gt_in (tin2 (List.mem_of_getElem? (l := tables_1_2) (i := 181) (by decide +kernel))) rfl
theorem mlX3_50 : ML RX3 50 mJ7_fill_53178 := gt_in (tin2 (List.mem_of_getElem? (l := tables_1_2) (i := 182) (by decide +kernel))) rfl
theorem mlX3_71 : ML RX3 71 mX3_takeAllOf := gt_in (tin2 (List.mem_of_getElem? (l := tables_1_2) (i := 183) (by decide +kernel))) rfl
theorem mlX3_78 : ML RX3 78 mX5_howMany := gt_in (tin2 (List.mem_of_getElem? (l := tables_1_2) (i := 187) (by decide +kernel))) rfl
theorem mlX3_88 : ML RX3 88 mX7_yearAt := gt_in (tin2 (List.mem_of_getElem? (l := tables_1_2) (i := 188) (by decide +kernel))) rfl
theorem mlX3_93 : ML RX3 93 mX7_numberAt := gt_in (tin2 (List.mem_of_getElem? (l := tables_1_2) (i := 189) (by decide +kernel))) rfl
theorem mlX3_96 : ML RX3 96 mX3_takePicture := gt_in (tin2 (List.mem_of_getElem? (l := tables_1_2) (i := 193) (by decide +kernel))) rfl
theorem mlX3_116 : ML RX3 116 mX5_personOn := gt_in (tin2 (List.mem_of_getElem? (l := tables_1_2) (i := 197) (by decide +kernel))) rfl
theorem mlX5_37 : ML RX5 37 mX5_has := gt_in (tin2 (List.mem_of_getElem? (l := tables_1_2) (i := 201) (by decide +kernel))) rfl
theorem mlX3_119 : ML RX3 119 mX5_sizeOf := gt_in (tin2 (List.mem_of_getElem? (l := tables_1_2) (i := 205) (by decide +kernel))) rfl
theorem mlX3_122 : ML RX3 122 mX3_isNumber := gt_in (tin2 (List.mem_of_getElem? (l := tables_1_2) (i := 209) (by decide +kernel))) rfl
theorem mlX3_126 : ML RX3 126 mX4_has := gt_in (tin2 (List.mem_of_getElem? (l := tables_1_2) (i := 212) (by decide +kernel))) rfl
theorem mlX3_109 : ML RX3 109 mX3_takeFrom := gt_in (tin2 (List.mem_of_getElem? (l := tables_1_2) (i := 213) (by decide +kernel))) rfl
theorem mlX3_129 : ML RX3 129 mJ9_min_7cf53 := gt_in (tin2 (List.mem_of_getElem? (l := tables_1_2) (i := 217) (by decide +kernel))) rfl
theorem mlX3_113 : ML RX3 113 mX4_twinOf := gt_in (tin2 (List.mem_of_getElem? (l := tables_1_2) (i := 220) (by decide +kernel))) rfl
theorem mlX3_75 : ML RX3 75 mX3_burnAllOf := gt_in (tin2 (List.mem_of_getElem? (l := tables_1_2) (i := 221) (by decide +kernel))) rfl
theorem mlX3_99 : ML RX3 99 mX0_howMany := gt_in (tin2 (List.mem_of_getElem? (l := tables_1_2) (i := 225) (by decide +kernel))) rfl
theorem mlX3_103 : ML RX3 103 mX0_pictureOf := gt_in (tin2 (List.mem_of_getElem? (l := tables_1_2) (i := 226) (by decide +kernel))) rfl
theorem mlX3_106 : ML RX3 106 mX3_burnPicture := gt_in (tin2 (List.mem_of_getElem? (l := tables_1_2) (i := 230) (by decide +kernel))) rfl
theorem mlX3_134 : ML RX3 134 mX3_isThere := gt_in (tin2 (List.mem_of_getElem? (l := tables_1_2) (i := 234) (by decide +kernel))) rfl
theorem mlX3_140 : ML RX3 140 mX3_thereBits := gt_in (tin2 (List.mem_of_getElem? (l := tables_1_2) (i := 238) (by decide +kernel))) rfl
theorem mlX3_137 : ML RX3 137 mX3_giveTo := gt_in (tin3 (List.mem_of_getElem? (l := tables_1_3) (i := 2) (by decide +kernel))) rfl
theorem mlX10_149 : ML RX10 149 mX3_solidOf := gt_in (tin3 (List.mem_of_getElem? (l := tables_1_3) (i := 6) (by decide +kernel))) rfl
theorem mlL_61 : ML RL 61 mX10_behind := gt_in (tin3 (List.mem_of_getElem? (l := tables_1_3) (i := 10) (by decide +kernel))) rfl
theorem mlX10_152 : ML RX10 152 mX3_unseenBits := gt_in (tin3 (List.mem_of_getElem? (l := tables_1_3) (i := 14) (by decide +kernel))) rfl
theorem mlX3_155 : ML RX3 155 mX4_howMany := gt_in (tin3 (List.mem_of_getElem? (l := tables_1_3) (i := 18) (by decide +kernel))) rfl
theorem mlX10_155 : ML RX10 155 mX3_thereBits := gt_in (tin3 (List.mem_of_getElem? (l := tables_1_3) (i := 22) (by decide +kernel))) rfl
theorem mlX10_158 : ML RX10 158 mX3_allTogether := gt_in (tin3 (List.mem_of_getElem? (l := tables_1_3) (i := 23) (by decide +kernel))) rfl
theorem mlX3_156 : ML RX3 156 mX3_heldBy := gt_in (tin3 (List.mem_of_getElem? (l := tables_1_3) (i := 27) (by decide +kernel))) rfl
theorem mlX3_149 : ML RX3 149 mX5_drawerOf := gt_in (tin3 (List.mem_of_getElem? (l := tables_1_3) (i := 31) (by decide +kernel))) rfl
theorem mlX3_152 : ML RX3 152 mX3_tookOfBoth := gt_in (tin3 (List.mem_of_getElem? (l := tables_1_3) (i := 35) (by decide +kernel))) rfl
theorem mlX3_143 : ML RX3 143 mX3_tookOfPerson := gt_in (tin3 (List.mem_of_getElem? (l := tables_1_3) (i := 39) (by decide +kernel))) rfl
theorem mlX3_146 : ML RX3 146 mX3_tookOfTwin := gt_in (tin3 (List.mem_of_getElem? (l := tables_1_3) (i := 43) (by decide +kernel))) rfl
theorem mlL_65 : ML RL 65 mX10_drawer := gt_in (tin3 (List.mem_of_getElem? (l := tables_1_3) (i := 47) (by decide +kernel))) rfl
theorem mlX10_161 : ML RX10 161 mX3_heldBy := gt_in (tin3 (List.mem_of_getElem? (l := tables_1_3) (i := 51) (by decide +kernel))) rfl
theorem mlL_69 : ML RL 69 mX10_took := gt_in (tin3 (List.mem_of_getElem? (l := tables_1_3) (i := 52) (by decide +kernel))) rfl
theorem mlX10_164 : ML RX10 164 mX5_has := gt_in (tin3 (List.mem_of_getElem? (l := tables_1_3) (i := 56) (by decide +kernel))) rfl
theorem mlX10_165 : ML RX10 165 mX3_tookOfPerson := gt_in (tin3 (List.mem_of_getElem? (l := tables_1_3) (i := 57) (by decide +kernel))) rfl
theorem mlX10_168 : ML RX10 168 mX3_tookOfTwin := gt_in (tin3 (List.mem_of_getElem? (l := tables_1_3) (i := 58) (by decide +kernel))) rfl
theorem mlL_73 : ML RL 73 mX10_unseen := gt_in (tin3 (List.mem_of_getElem? (l := tables_1_3) (i := 59) (by decide +kernel))) rfl
theorem mlX10_171 : ML RX10 171 mX3_begin := gt_in (tin3 (List.mem_of_getElem? (l := tables_1_3) (i := 63) (by decide +kernel))) rfl
theorem mlX10_174 : ML RX10 174 mX3_pass := gt_in (tin3 (List.mem_of_getElem? (l := tables_1_3) (i := 64) (by decide +kernel))) rfl
theorem mlX10_177 : ML RX10 177 mX10_lowestOf := gt_in (tin3 (List.mem_of_getElem? (l := tables_1_3) (i := 68) (by decide +kernel))) rfl
theorem mlL_77 : ML RL 77 mX10_whole := gt_in (tin3 (List.mem_of_getElem? (l := tables_1_3) (i := 71) (by decide +kernel))) rfl
theorem mlX10_180 : ML RX10 180 mX6_plan := gt_in (tin3 (List.mem_of_getElem? (l := tables_1_3) (i := 75) (by decide +kernel))) rfl
theorem mlX6_15 : ML RX6 15 mX3_solidOf := gt_in (tin3 (List.mem_of_getElem? (l := tables_1_3) (i := 79) (by decide +kernel))) rfl
theorem mlX6_21 : ML RX6 21 mJ9_max_7cf53 := gt_in (tin3 (List.mem_of_getElem? (l := tables_1_3) (i := 80) (by decide +kernel))) rfl
theorem mlX6_28 : ML RX6 28 mJ7_fill_53178 := gt_in (tin3 (List.mem_of_getElem? (l := tables_1_3) (i := 82) (by decide +kernel))) rfl
theorem mlX6_34 : ML RX6 34 mX3_isThere := gt_in (tin3 (List.mem_of_getElem? (l := tables_1_3) (i := 83) (by decide +kernel))) rfl
theorem mlX6_38 : ML RX6 38 mX3_drawerOf := gt_in (tin3 (List.mem_of_getElem? (l := tables_1_3) (i := 84) (by decide +kernel))) rfl
theorem mlX6_41 : ML RX6 41 mX3_tookOfBoth := gt_in (tin3 (List.mem_of_getElem? (l := tables_1_3) (i := 88) (by decide +kernel))) rfl
theorem mlX6_44 : ML RX6 44 mX3_giftTo := gt_in (tin3 (List.mem_of_getElem? (l := tables_1_3) (i := 89) (by decide +kernel))) rfl
theorem mlX6_48 : ML RX6 48 mX6_offer := gt_in (tin3 (List.mem_of_getElem? (l := tables_1_3) (i := 94) (by decide +kernel))) rfl
theorem mlX6_56 : ML RX6 56 mJ9_min_7cf53 := gt_in (tin3 (List.mem_of_getElem? (l := tables_1_3) (i := 98) (by decide +kernel))) rfl
theorem mlX10_184 : ML RX10 184 mX6_burntBits := gt_in (tin3 (List.mem_of_getElem? (l := tables_1_3) (i := 99) (by decide +kernel))) rfl
theorem mlX10_187 : ML RX10 187 mX6_loss := gt_in (tin3 (List.mem_of_getElem? (l := tables_1_3) (i := 103) (by decide +kernel))) rfl
theorem mlL_82 : ML RL 82 mX10_feast := gt_in (tin3 (List.mem_of_getElem? (l := tables_1_3) (i := 107) (by decide +kernel))) rfl
theorem mlX10_190 : ML RX10 190 mX4_howMany := gt_in (tin3 (List.mem_of_getElem? (l := tables_1_3) (i := 111) (by decide +kernel))) rfl
theorem mlL_86 : ML RL 86 mX10_spy := gt_in (tin3 (List.mem_of_getElem? (l := tables_1_3) (i := 112) (by decide +kernel))) rfl
theorem mlX10_191 : ML RX10 191 mX3_takeAllOf := gt_in (tin3 (List.mem_of_getElem? (l := tables_1_3) (i := 116) (by decide +kernel))) rfl
theorem mlX10_194 : ML RX10 194 mX3_burnAllOf := gt_in (tin3 (List.mem_of_getElem? (l := tables_1_3) (i := 117) (by decide +kernel))) rfl
theorem mlX10_197 : ML RX10 197 mJ9_max_7cf53 := gt_in (tin3 (List.mem_of_getElem? (l := tables_1_3) (i := 118) (by decide +kernel))) rfl
theorem mlL_91 : ML RL 91 mX10_swap := gt_in (tin3 (List.mem_of_getElem? (l := tables_1_3) (i := 119) (by decide +kernel))) rfl
theorem mlX10_202 : ML RX10 202 mX2_gather := gt_in (tin3 (List.mem_of_getElem? (l := tables_1_3) (i := 123) (by decide +kernel))) rfl
theorem mlX2_27 : ML RX2 27 mX5_personOn := gt_in (tin3 (List.mem_of_getElem? (l := tables_1_3) (i := 127) (by decide +kernel))) rfl
theorem mlX2_33 : ML RX2 33 mX5_drawerOf := gt_in (tin3 (List.mem_of_getElem? (l := tables_1_3) (i := 128) (by decide +kernel))) rfl
theorem mlX10_206 : ML RX10 206 mX2_swapTillRest := gt_in (tin3 (List.mem_of_getElem? (l := tables_1_3) (i := 129) (by decide +kernel))) rfl
theorem mlX2_40 : ML RX2 40 mX2_findSwap := gt_in (tin3 (List.mem_of_getElem? (l := tables_1_3) (i := 133) (by decide +kernel))) rfl
theorem mlX2_36 : ML RX2 36 mX2_isGain := gt_in (tin3 (List.mem_of_getElem? (l := tables_1_3) (i := 137) (by decide +kernel))) rfl
theorem mlX2_44 : ML RX2 44 mX2_exchange := gt_in (tin3 (List.mem_of_getElem? (l := tables_1_3) (i := 141) (by decide +kernel))) rfl
theorem mlX10_209 : ML RX10 209 mX2_findSwap := gt_in (tin3 (List.mem_of_getElem? (l := tables_1_3) (i := 145) (by decide +kernel))) rfl
theorem mlL_95 : ML RL 95 mX10_seen := gt_in (tin3 (List.mem_of_getElem? (l := tables_1_3) (i := 146) (by decide +kernel))) rfl
theorem mlX10_212 : ML RX10 212 mX10_isSighting := gt_in (tin3 (List.mem_of_getElem? (l := tables_1_3) (i := 150) (by decide +kernel))) rfl
theorem mlX10_215 : ML RX10 215 mX9_add := gt_in (tin3 (List.mem_of_getElem? (l := tables_1_3) (i := 153) (by decide +kernel))) rfl
theorem mlX9_27 : ML RX9 27 mX7_howMany := gt_in (tin3 (List.mem_of_getElem? (l := tables_1_3) (i := 157) (by decide +kernel))) rfl
theorem mlX9_34 : ML RX9 34 mX7_add := gt_in (tin3 (List.mem_of_getElem? (l := tables_1_3) (i := 158) (by decide +kernel))) rfl
theorem mlX10_217 : ML RX10 217 mX9_howMany := gt_in (tin3 (List.mem_of_getElem? (l := tables_1_3) (i := 159) (by decide +kernel))) rfl
theorem mlL_99 : ML RL 99 mX10_forget := gt_in (tin3 (List.mem_of_getElem? (l := tables_1_3) (i := 163) (by decide +kernel))) rfl
theorem mlX10_218 : ML RX10 218 mX9_clear := gt_in (tin3 (List.mem_of_getElem? (l := tables_1_3) (i := 167) (by decide +kernel))) rfl
theorem mlX9_31 : ML RX9 31 mX7_clear := gt_in (tin3 (List.mem_of_getElem? (l := tables_1_3) (i := 171) (by decide +kernel))) rfl
theorem mlL_103 : ML RL 103 mX10_read := gt_in (tin3 (List.mem_of_getElem? (l := tables_1_3) (i := 175) (by decide +kernel))) rfl
theorem mlX10_221 : ML RX10 221 mX10_isSheet := gt_in (tin3 (List.mem_of_getElem? (l := tables_1_3) (i := 179) (by decide +kernel))) rfl
theorem mlX10_224 : ML RX10 224 mX8_isLost := gt_in (tin3 (List.mem_of_getElem? (l := tables_1_3) (i := 182) (by decide +kernel))) rfl
theorem mlX10_227 : ML RX10 227 mX10_found := gt_in (tin3 (List.mem_of_getElem? (l := tables_1_3) (i := 186) (by decide +kernel))) rfl
theorem mlX10_230 : ML RX10 230 mX8_length := gt_in (tin3 (List.mem_of_getElem? (l := tables_1_3) (i := 190) (by decide +kernel))) rfl
theorem mlX10_231 : ML RX10 231 mX8_item := gt_in (tin3 (List.mem_of_getElem? (l := tables_1_3) (i := 194) (by decide +kernel))) rfl
theorem mlX8_41 : ML RX8 41 mX8_hasRun := gt_in (tin3 (List.mem_of_getElem? (l := tables_1_3) (i := 198) (by decide +kernel))) rfl
theorem mlL_107 : ML RL 107 mX10_never := gt_in (tin3 (List.mem_of_getElem? (l := tables_1_3) (i := 202) (by decide +kernel))) rfl
theorem mlX10_234 : ML RX10 234 mX9_isBorneOut := gt_in (tin3 (List.mem_of_getElem? (l := tables_1_3) (i := 206) (by decide +kernel))) rfl
theorem mlX9_37 : ML RX9 37 mX3_beginAltered := gt_in (tin3 (List.mem_of_getElem? (l := tables_1_3) (i := 210) (by decide +kernel))) rfl
theorem mlX9_43 : ML RX9 43 mX3_pass := gt_in (tin3 (List.mem_of_getElem? (l := tables_1_3) (i := 211) (by decide +kernel))) rfl
theorem mlX9_46 : ML RX9 46 mX7_yearAt := gt_in (tin3 (List.mem_of_getElem? (l := tables_1_3) (i := 212) (by decide +kernel))) rfl
theorem mlX9_50 : ML RX9 50 mX7_numberAt := gt_in (tin3 (List.mem_of_getElem? (l := tables_1_3) (i := 213) (by decide +kernel))) rfl
theorem mlX9_53 : ML RX9 53 mX9_agrees := gt_in (tin3 (List.mem_of_getElem? (l := tables_1_3) (i := 214) (by decide +kernel))) rfl
theorem mlX9_57 : ML RX9 57 mX3_solidOf := gt_in (tin3 (List.mem_of_getElem? (l := tables_1_3) (i := 218) (by decide +kernel))) rfl
theorem mlL_111 : ML RL 111 mX10_sizes := gt_in (tin3 (List.mem_of_getElem? (l := tables_1_3) (i := 219) (by decide +kernel))) rfl
theorem mlL_115 : ML RL 115 mX10_town := gt_in (tin3 (List.mem_of_getElem? (l := tables_1_3) (i := 223) (by decide +kernel))) rfl
theorem mlX10_238 : ML RX10 238 mX10_isTown := gt_in (tin3 (List.mem_of_getElem? (l := tables_1_3) (i := 227) (by decide +kernel))) rfl
theorem mlX10_241 : ML RX10 241 mX10_endOfTown := gt_in (tin3 (List.mem_of_getElem? (l := tables_1_3) (i := 230) (by decide +kernel))) rfl
theorem mlX10_302 : ML RX10 302 mJ9_min_7cf53 := gt_in (tin3 (List.mem_of_getElem? (l := tables_1_3) (i := 233) (by decide +kernel))) rfl
theorem mlL_119 : ML RL 119 mX10_toll := gt_in (tin3 (List.mem_of_getElem? (l := tables_1_3) (i := 234) (by decide +kernel))) rfl
theorem mlL_123 : ML RL 123 mX10_shots := gt_in (tin3 (List.mem_of_getElem? (l := tables_1_3) (i := 238) (by decide +kernel))) rfl
theorem mlX10_249 : ML RX10 249 mX1_countWays := gt_in (tin4 (List.mem_of_getElem? (l := tables_1_4) (i := 3) (by decide +kernel))) rfl
theorem mlX1_19 : ML RX1 19 mJ7_fill_d0a16 := gt_in (tin4 (List.mem_of_getElem? (l := tables_1_4) (i := 7) (by decide +kernel))) rfl
theorem mlX10_253 : ML RX10 253 mX1_weighUnseen := gt_in (tin4 (List.mem_of_getElem? (l := tables_1_4) (i := 10) (by decide +kernel))) rfl
theorem mlX1_28 : ML RX1 28 mJ9_max_7cf53 := gt_in (tin4 (List.mem_of_getElem? (l := tables_1_4) (i := 14) (by decide +kernel))) rfl
theorem mlX10_257 : ML RX10 257 mX1_above := gt_in (tin4 (List.mem_of_getElem? (l := tables_1_4) (i := 15) (by decide +kernel))) rfl
theorem mlX10_261 : ML RX10 261 mX1_below := gt_in (tin4 (List.mem_of_getElem? (l := tables_1_4) (i := 19) (by decide +kernel))) rfl
theorem mlL_128 : ML RL 128 mX10_plates := gt_in (tin4 (List.mem_of_getElem? (l := tables_1_4) (i := 23) (by decide +kernel))) rfl
theorem mlX10_264 : ML RX10 264 mX10_nextSeed := gt_in (tin4 (List.mem_of_getElem? (l := tables_1_4) (i := 27) (by decide +kernel))) rfl
theorem mlX10_267 : ML RX10 267 mX10_lotOf := gt_in (tin4 (List.mem_of_getElem? (l := tables_1_4) (i := 31) (by decide +kernel))) rfl
theorem mlX10_270 : ML RX10 270 mX3_takeUncounted := gt_in (tin4 (List.mem_of_getElem? (l := tables_1_4) (i := 34) (by decide +kernel))) rfl
theorem mlL_132 : ML RL 132 mX10_sheet := gt_in (tin4 (List.mem_of_getElem? (l := tables_1_4) (i := 38) (by decide +kernel))) rfl
theorem mlX10_273 : ML RX10 273 mX10_isForm := gt_in (tin4 (List.mem_of_getElem? (l := tables_1_4) (i := 42) (by decide +kernel))) rfl
theorem mlX10_276 : ML RX10 276 mX8_renew := gt_in (tin4 (List.mem_of_getElem? (l := tables_1_4) (i := 45) (by decide +kernel))) rfl
theorem mlX8_22 : ML RX8 22 mJ7_fill_53178 := gt_in (tin4 (List.mem_of_getElem? (l := tables_1_4) (i := 49) (by decide +kernel))) rfl
theorem mlX8_28 : ML RX8 28 mJ9_min_7cf53 := gt_in (tin4 (List.mem_of_getElem? (l := tables_1_4) (i := 50) (by decide +kernel))) rfl
theorem mlX8_34 : ML RX8 34 mJ9_max_7cf53 := gt_in (tin4 (List.mem_of_getElem? (l := tables_1_4) (i := 51) (by decide +kernel))) rfl
theorem mlL_136 : ML RL 136 mX10_lose := gt_in (tin4 (List.mem_of_getElem? (l := tables_1_4) (i := 52) (by decide +kernel))) rfl
theorem mlX10_279 : ML RX10 279 mX8_becomeLost := gt_in (tin4 (List.mem_of_getElem? (l := tables_1_4) (i := 56) (by decide +kernel))) rfl
theorem mlL_140 : ML RL 140 mX10_lay := gt_in (tin4 (List.mem_of_getElem? (l := tables_1_4) (i := 60) (by decide +kernel))) rfl
theorem mlX10_282 : ML RX10 282 mX8_troubleWith := gt_in (tin4 (List.mem_of_getElem? (l := tables_1_4) (i := 64) (by decide +kernel))) rfl
theorem mlX8_37 : ML RX8 37 mX8_isLost := gt_in (tin4 (List.mem_of_getElem? (l := tables_1_4) (i := 68) (by decide +kernel))) rfl
theorem mlX10_285 : ML RX10 285 mX8_putItem := gt_in (tin4 (List.mem_of_getElem? (l := tables_1_4) (i := 69) (by decide +kernel))) rfl
theorem mlX8_45 : ML RX8 45 mX8_narrow := gt_in (tin4 (List.mem_of_getElem? (l := tables_1_4) (i := 73) (by decide +kernel))) rfl
theorem mlL_144 : ML RL 144 mX10_get := gt_in (tin4 (List.mem_of_getElem? (l := tables_1_4) (i := 77) (by decide +kernel))) rfl
theorem mlL_148 : ML RL 148 mX10_copy := gt_in (tin4 (List.mem_of_getElem? (l := tables_1_4) (i := 82) (by decide +kernel))) rfl
theorem mlX10_291 : ML RX10 291 mX8_isLike := gt_in (tin4 (List.mem_of_getElem? (l := tables_1_4) (i := 86) (by decide +kernel))) rfl
theorem mlX10_295 : ML RX10 295 mX8_hasRun := gt_in (tin4 (List.mem_of_getElem? (l := tables_1_4) (i := 90) (by decide +kernel))) rfl
theorem mlX10_298 : ML RX10 298 mX8_putRun := gt_in (tin4 (List.mem_of_getElem? (l := tables_1_4) (i := 91) (by decide +kernel))) rfl
theorem mlL_152 : ML RL 152 mX10_write := gt_in (tin4 (List.mem_of_getElem? (l := tables_1_4) (i := 98) (by decide +kernel))) rfl
theorem mlL_156 : ML RL 156 mX10_count := gt_in (tin4 (List.mem_of_getElem? (l := tables_1_4) (i := 102) (by decide +kernel))) rfl
theorem mlX10_305 : ML RX10 305 mX4_allAtFirst := gt_in (tin4 (List.mem_of_getElem? (l := tables_1_4) (i := 106) (by decide +kernel))) rfl
theorem mlX10_308 : ML RX10 308 mX4_howManyTwins := gt_in (tin4 (List.mem_of_getElem? (l := tables_1_4) (i := 110) (by decide +kernel))) rfl
theorem mlL_160 : ML RL 160 mX10_digest := gt_in (tin4 (List.mem_of_getElem? (l := tables_1_4) (i := 114) (by decide +kernel))) rfl
theorem mlX10_313 : ML RX10 313 mX10_count := gt_in (tin4 (List.mem_of_getElem? (l := tables_1_4) (i := 119) (by decide +kernel))) rfl
theorem mlX10_316 : ML RX10 316 mX10_mix := gt_in (tin4 (List.mem_of_getElem? (l := tables_1_4) (i := 120) (by decide +kernel))) rfl
theorem mlX10_320 : ML RX10 320 mX10_fault := gt_in (tin4 (List.mem_of_getElem? (l := tables_1_4) (i := 124) (by decide +kernel))) rfl
theorem mlX10_323 : ML RX10 323 mX10_mixPerson := gt_in (tin4 (List.mem_of_getElem? (l := tables_1_4) (i := 125) (by decide +kernel))) rfl
theorem mlX10_348 : ML RX10 348 mX10_person := gt_in (tin4 (List.mem_of_getElem? (l := tables_1_4) (i := 129) (by decide +kernel))) rfl
theorem mlX10_351 : ML RX10 351 mX10_solid := gt_in (tin4 (List.mem_of_getElem? (l := tables_1_4) (i := 130) (by decide +kernel))) rfl
theorem mlX10_354 : ML RX10 354 mX10_whole := gt_in (tin4 (List.mem_of_getElem? (l := tables_1_4) (i := 131) (by decide +kernel))) rfl
theorem mlX10_358 : ML RX10 358 mX10_spy := gt_in (tin4 (List.mem_of_getElem? (l := tables_1_4) (i := 132) (by decide +kernel))) rfl
theorem mlX10_361 : ML RX10 361 mX10_shots := gt_in (tin4 (List.mem_of_getElem? (l := tables_1_4) (i := 133) (by decide +kernel))) rfl
theorem mlX10_365 : ML RX10 365 mX10_plates := gt_in (tin4 (List.mem_of_getElem? (l := tables_1_4) (i := 134) (by decide +kernel))) rfl
theorem mlX10_327 : ML RX10 327 mX10_took := gt_in (tin4 (List.mem_of_getElem? (l := tables_1_4) (i := 135) (by decide +kernel))) rfl
theorem mlX10_330 : ML RX10 330 mX10_sizes := gt_in (tin4 (List.mem_of_getElem? (l := tables_1_4) (i := 136) (by decide +kernel))) rfl
theorem mlX10_333 : ML RX10 333 mX10_mixYear := gt_in (tin4 (List.mem_of_getElem? (l := tables_1_4) (i := 137) (by decide +kernel))) rfl
theorem mlX10_368 : ML RX10 368 mX10_behind := gt_in (tin4 (List.mem_of_getElem? (l := tables_1_4) (i := 141) (by decide +kernel))) rfl
theorem mlX10_371 : ML RX10 371 mX10_drawer := gt_in (tin4 (List.mem_of_getElem? (l := tables_1_4) (i := 142) (by decide +kernel))) rfl
theorem mlX10_374 : ML RX10 374 mX10_feast := gt_in (tin4 (List.mem_of_getElem? (l := tables_1_4) (i := 143) (by decide +kernel))) rfl
theorem mlX10_377 : ML RX10 377 mX10_swap := gt_in (tin4 (List.mem_of_getElem? (l := tables_1_4) (i := 144) (by decide +kernel))) rfl
theorem mlX10_336 : ML RX10 336 mX10_unseen := gt_in (tin4 (List.mem_of_getElem? (l := tables_1_4) (i := 145) (by decide +kernel))) rfl
theorem mlX10_339 : ML RX10 339 mX10_never := gt_in (tin4 (List.mem_of_getElem? (l := tables_1_4) (i := 146) (by decide +kernel))) rfl
theorem mlX10_342 : ML RX10 342 mX10_town := gt_in (tin4 (List.mem_of_getElem? (l := tables_1_4) (i := 147) (by decide +kernel))) rfl
theorem mlX10_345 : ML RX10 345 mX10_toll := gt_in (tin4 (List.mem_of_getElem? (l := tables_1_4) (i := 148) (by decide +kernel))) rfl
theorem mlL_135 : ML RL 135 mX11_sheet := gt_in (tin5 (List.mem_of_getElem? (l := tables_1_5) (i := 15) (by decide +kernel))) rfl
theorem mlX11_73 : ML RX11 73 mX11_isSheet := gt_in (tin5 (List.mem_of_getElem? (l := tables_1_5) (i := 19) (by decide +kernel))) rfl
theorem mlX11_64 : ML RX11 64 mX11_in := gt_in (tin5 (List.mem_of_getElem? (l := tables_1_5) (i := 23) (by decide +kernel))) rfl
theorem mlX11_79 : ML RX11 79 mX11_finds := gt_in (tin5 (List.mem_of_getElem? (l := tables_1_5) (i := 27) (by decide +kernel))) rfl
theorem mlL_139 : ML RL 139 mX11_lose := gt_in (tin5 (List.mem_of_getElem? (l := tables_1_5) (i := 31) (by decide +kernel))) rfl
theorem mlL_143 : ML RL 143 mX11_lay := gt_in (tin5 (List.mem_of_getElem? (l := tables_1_5) (i := 35) (by decide +kernel))) rfl
theorem mlX11_83 : ML RX11 83 mX11_lacks := gt_in (tin5 (List.mem_of_getElem? (l := tables_1_5) (i := 39) (by decide +kernel))) rfl
theorem mlX11_87 : ML RX11 87 mX11_cut := gt_in (tin5 (List.mem_of_getElem? (l := tables_1_5) (i := 43) (by decide +kernel))) rfl
theorem mlL_147 : ML RL 147 mX11_get := gt_in (tin5 (List.mem_of_getElem? (l := tables_1_5) (i := 46) (by decide +kernel))) rfl
theorem mlL_151 : ML RL 151 mX11_copy := gt_in (tin5 (List.mem_of_getElem? (l := tables_1_5) (i := 51) (by decide +kernel))) rfl
theorem mlL_17 : ML RL 17 mX11_type := gt_in (tin5 (List.mem_of_getElem? (l := tables_1_5) (i := 55) (by decide +kernel))) rfl
theorem mlL_22 : ML RL 22 mX11_wipe := gt_in (tin5 (List.mem_of_getElem? (l := tables_1_5) (i := 60) (by decide +kernel))) rfl
theorem mlL_26 : ML RL 26 mX11_undo := gt_in (tin5 (List.mem_of_getElem? (l := tables_1_5) (i := 64) (by decide +kernel))) rfl
theorem mlL_30 : ML RL 30 mX11_fault := gt_in (tin5 (List.mem_of_getElem? (l := tables_1_5) (i := 68) (by decide +kernel))) rfl
theorem mlX11_113 : ML RX11 113 mX11_reads := gt_in (tin5 (List.mem_of_getElem? (l := tables_1_5) (i := 72) (by decide +kernel))) rfl
theorem mlX11_109 : ML RX11 109 mX11_readsPerson := gt_in (tin5 (List.mem_of_getElem? (l := tables_1_5) (i := 76) (by decide +kernel))) rfl
theorem mlL_35 : ML RL 35 mX11_person := gt_in (tin5 (List.mem_of_getElem? (l := tables_1_5) (i := 83) (by decide +kernel))) rfl
theorem mlX11_121 : ML RX11 121 mX11_isPerson := gt_in (tin5 (List.mem_of_getElem? (l := tables_1_5) (i := 87) (by decide +kernel))) rfl
theorem mlX11_124 : ML RX11 124 mX11_isTwo := gt_in (tin5 (List.mem_of_getElem? (l := tables_1_5) (i := 91) (by decide +kernel))) rfl
theorem mlX11_127 : ML RX11 127 mX11_twinOf := gt_in (tin5 (List.mem_of_getElem? (l := tables_1_5) (i := 94) (by decide +kernel))) rfl
theorem mlL_40 : ML RL 40 mX11_picture := gt_in (tin5 (List.mem_of_getElem? (l := tables_1_5) (i := 98) (by decide +kernel))) rfl
theorem mlX11_130 : ML RX11 130 mX11_isYear := gt_in (tin5 (List.mem_of_getElem? (l := tables_1_5) (i := 102) (by decide +kernel))) rfl
theorem mlX11_133 : ML RX11 133 mX11_isAnyone := gt_in (tin5 (List.mem_of_getElem? (l := tables_1_5) (i := 106) (by decide +kernel))) rfl
theorem mlX11_136 : ML RX11 136 mX11_isDrawer := gt_in (tin5 (List.mem_of_getElem? (l := tables_1_5) (i := 110) (by decide +kernel))) rfl
theorem mlL_44 : ML RL 44 mX11_burn := gt_in (tin5 (List.mem_of_getElem? (l := tables_1_5) (i := 113) (by decide +kernel))) rfl
theorem mlL_48 : ML RL 48 mX11_back := gt_in (tin5 (List.mem_of_getElem? (l := tables_1_5) (i := 118) (by decide +kernel))) rfl
theorem mlL_52 : ML RL 52 mX11_faint := gt_in (tin5 (List.mem_of_getElem? (l := tables_1_5) (i := 122) (by decide +kernel))) rfl
theorem mlL_56 : ML RL 56 mX11_want := gt_in (tin5 (List.mem_of_getElem? (l := tables_1_5) (i := 127) (by decide +kernel))) rfl
theorem mlL_60 : ML RL 60 mX11_solid := gt_in (tin5 (List.mem_of_getElem? (l := tables_1_5) (i := 132) (by decide +kernel))) rfl
theorem mlX11_192 : ML RX11 192 mX11_lives := gt_in (tin5 (List.mem_of_getElem? (l := tables_1_5) (i := 136) (by decide +kernel))) rfl
theorem mlX11_186 : ML RX11 186 mX11_begins := gt_in (tin5 (List.mem_of_getElem? (l := tables_1_5) (i := 140) (by decide +kernel))) rfl
theorem mlX11_189 : ML RX11 189 mX11_goesOn := gt_in (tin5 (List.mem_of_getElem? (l := tables_1_5) (i := 144) (by decide +kernel))) rfl
theorem mlX11_167 : ML RX11 167 mX11_takesAll := gt_in (tin5 (List.mem_of_getElem? (l := tables_1_5) (i := 148) (by decide +kernel))) rfl
theorem mlX11_161 : ML RX11 161 mX11_sizeOf := gt_in (tin5 (List.mem_of_getElem? (l := tables_1_5) (i := 152) (by decide +kernel))) rfl
theorem mlX11_164 : ML RX11 164 mX11_takes := gt_in (tin5 (List.mem_of_getElem? (l := tables_1_5) (i := 156) (by decide +kernel))) rfl
theorem mlX11_151 : ML RX11 151 mX11_lesser := gt_in (tin5 (List.mem_of_getElem? (l := tables_1_5) (i := 160) (by decide +kernel))) rfl
theorem mlX11_171 : ML RX11 171 mX11_lot := gt_in (tin5 (List.mem_of_getElem? (l := tables_1_5) (i := 163) (by decide +kernel))) rfl
theorem mlX11_183 : ML RX11 183 mX11_burnsAll := gt_in (tin5 (List.mem_of_getElem? (l := tables_1_5) (i := 168) (by decide +kernel))) rfl
theorem mlL_64 : ML RL 64 mX11_behind := gt_in (tin5 (List.mem_of_getElem? (l := tables_1_5) (i := 172) (by decide +kernel))) rfl
theorem mlX11_207 : ML RX11 207 mX11_behindOf := gt_in (tin5 (List.mem_of_getElem? (l := tables_1_5) (i := 176) (by decide +kernel))) rfl
theorem mlX11_198 : ML RX11 198 mX11_unseenNow := gt_in (tin5 (List.mem_of_getElem? (l := tables_1_5) (i := 180) (by decide +kernel))) rfl
theorem mlX11_201 : ML RX11 201 mX11_thereNow := gt_in (tin5 (List.mem_of_getElem? (l := tables_1_5) (i := 184) (by decide +kernel))) rfl
theorem mlX11_204 : ML RX11 204 mX11_allNow := gt_in (tin5 (List.mem_of_getElem? (l := tables_1_5) (i := 188) (by decide +kernel))) rfl
theorem mlX11_195 : ML RX11 195 mX11_holds := gt_in (tin5 (List.mem_of_getElem? (l := tables_1_5) (i := 192) (by decide +kernel))) rfl
theorem mlL_68 : ML RL 68 mX11_drawer := gt_in (tin5 (List.mem_of_getElem? (l := tables_1_5) (i := 196) (by decide +kernel))) rfl
theorem mlX11_210 : ML RX11 210 mX11_drawerOf := gt_in (tin5 (List.mem_of_getElem? (l := tables_1_5) (i := 200) (by decide +kernel))) rfl
theorem mlL_72 : ML RL 72 mX11_took := gt_in (tin5 (List.mem_of_getElem? (l := tables_1_5) (i := 204) (by decide +kernel))) rfl
theorem mlX11_213 : ML RX11 213 mX11_tookOf := gt_in (tin5 (List.mem_of_getElem? (l := tables_1_5) (i := 208) (by decide +kernel))) rfl
theorem mlL_76 : ML RL 76 mX11_unseen := gt_in (tin5 (List.mem_of_getElem? (l := tables_1_5) (i := 212) (by decide +kernel))) rfl
theorem mlX11_220 : ML RX11 220 mX11_unseenOf := gt_in (tin5 (List.mem_of_getElem? (l := tables_1_5) (i := 216) (by decide +kernel))) rfl
theorem mlX11_216 : ML RX11 216 mX11_isIn := gt_in (tin5 (List.mem_of_getElem? (l := tables_1_5) (i := 220) (by decide +kernel))) rfl
theorem mlL_81 : ML RL 81 mX11_whole := gt_in (tin5 (List.mem_of_getElem? (l := tables_1_5) (i := 223) (by decide +kernel))) rfl
theorem mlX11_239 : ML RX11 239 mX11_wholeOf := gt_in (tin5 (List.mem_of_getElem? (l := tables_1_5) (i := 227) (by decide +kernel))) rfl
theorem mlX11_235 : ML RX11 235 mX11_findWhole := gt_in (tin5 (List.mem_of_getElem? (l := tables_1_5) (i := 231) (by decide +kernel))) rfl
theorem mlX11_229 : ML RX11 229 mX11_backTo := gt_in (tin5 (List.mem_of_getElem? (l := tables_1_5) (i := 235) (by decide +kernel))) rfl
theorem mlX11_232 : ML RX11 232 mX11_ones := gt_in (tin5 (List.mem_of_getElem? (l := tables_1_5) (i := 239) (by decide +kernel))) rfl
theorem mlL_85 : ML RL 85 mX11_feast := gt_in (tin6 (List.mem_of_getElem? (l := tables_1_6) (i := 2) (by decide +kernel))) rfl
theorem mlX11_243 : ML RX11 243 mX11_feastOf := gt_in (tin6 (List.mem_of_getElem? (l := tables_1_6) (i := 6) (by decide +kernel))) rfl
theorem mlL_90 : ML RL 90 mX11_spy := gt_in (tin6 (List.mem_of_getElem? (l := tables_1_6) (i := 10) (by decide +kernel))) rfl
theorem mlX11_246 : ML RX11 246 mX11_spyOf := gt_in (tin6 (List.mem_of_getElem? (l := tables_1_6) (i := 14) (by decide +kernel))) rfl
theorem mlL_94 : ML RL 94 mX11_swap := gt_in (tin6 (List.mem_of_getElem? (l := tables_1_6) (i := 18) (by decide +kernel))) rfl
theorem mlX11_264 : ML RX11 264 mX11_swapOf := gt_in (tin6 (List.mem_of_getElem? (l := tables_1_6) (i := 22) (by decide +kernel))) rfl
theorem mlX11_261 : ML RX11 261 mX11_findSwap := gt_in (tin6 (List.mem_of_getElem? (l := tables_1_6) (i := 26) (by decide +kernel))) rfl
theorem mlX11_258 : ML RX11 258 mX11_gains := gt_in (tin6 (List.mem_of_getElem? (l := tables_1_6) (i := 30) (by decide +kernel))) rfl
theorem mlX11_249 : ML RX11 249 mX11_isWanted := gt_in (tin6 (List.mem_of_getElem? (l := tables_1_6) (i := 34) (by decide +kernel))) rfl
theorem mlL_98 : ML RL 98 mX11_seen := gt_in (tin6 (List.mem_of_getElem? (l := tables_1_6) (i := 38) (by decide +kernel))) rfl
theorem mlL_102 : ML RL 102 mX11_forget := gt_in (tin6 (List.mem_of_getElem? (l := tables_1_6) (i := 42) (by decide +kernel))) rfl
theorem mlL_106 : ML RL 106 mX11_read := gt_in (tin6 (List.mem_of_getElem? (l := tables_1_6) (i := 46) (by decide +kernel))) rfl
theorem mlX11_270 : ML RX11 270 mX11_seen := gt_in (tin6 (List.mem_of_getElem? (l := tables_1_6) (i := 50) (by decide +kernel))) rfl
theorem mlL_110 : ML RL 110 mX11_never := gt_in (tin6 (List.mem_of_getElem? (l := tables_1_6) (i := 51) (by decide +kernel))) rfl
theorem mlX11_276 : ML RX11 276 mX11_neverNow := gt_in (tin6 (List.mem_of_getElem? (l := tables_1_6) (i := 55) (by decide +kernel))) rfl
theorem mlX11_273 : ML RX11 273 mX11_isSeen := gt_in (tin6 (List.mem_of_getElem? (l := tables_1_6) (i := 59) (by decide +kernel))) rfl
theorem mlL_114 : ML RL 114 mX11_sizes := gt_in (tin6 (List.mem_of_getElem? (l := tables_1_6) (i := 63) (by decide +kernel))) rfl
theorem mlX11_279 : ML RX11 279 mX11_sizesOf := gt_in (tin6 (List.mem_of_getElem? (l := tables_1_6) (i := 67) (by decide +kernel))) rfl
theorem mlL_118 : ML RL 118 mX11_town := gt_in (tin6 (List.mem_of_getElem? (l := tables_1_6) (i := 71) (by decide +kernel))) rfl
theorem mlX11_284 : ML RX11 284 mX11_townOf := gt_in (tin6 (List.mem_of_getElem? (l := tables_1_6) (i := 76) (by decide +kernel))) rfl
theorem mlL_122 : ML RL 122 mX11_toll := gt_in (tin6 (List.mem_of_getElem? (l := tables_1_6) (i := 79) (by decide +kernel))) rfl
theorem mlX11_287 : ML RX11 287 mX11_tollOf := gt_in (tin6 (List.mem_of_getElem? (l := tables_1_6) (i := 83) (by decide +kernel))) rfl
theorem mlL_127 : ML RL 127 mX11_shots := gt_in (tin6 (List.mem_of_getElem? (l := tables_1_6) (i := 86) (by decide +kernel))) rfl
theorem mlX11_301 : ML RX11 301 mX11_shotsOf := gt_in (tin6 (List.mem_of_getElem? (l := tables_1_6) (i := 92) (by decide +kernel))) rfl
theorem mlX11_292 : ML RX11 292 mX11_least0 := gt_in (tin6 (List.mem_of_getElem? (l := tables_1_6) (i := 96) (by decide +kernel))) rfl
theorem mlX11_295 : ML RX11 295 mX11_part := gt_in (tin6 (List.mem_of_getElem? (l := tables_1_6) (i := 99) (by decide +kernel))) rfl
theorem mlX11_305 : ML RX11 305 mX11_no := gt_in (tin6 (List.mem_of_getElem? (l := tables_1_6) (i := 102) (by decide +kernel))) rfl
theorem mlL_131 : ML RL 131 mX11_plates := gt_in (tin6 (List.mem_of_getElem? (l := tables_1_6) (i := 106) (by decide +kernel))) rfl
theorem mlX11_309 : ML RX11 309 mX11_platesOf := gt_in (tin6 (List.mem_of_getElem? (l := tables_1_6) (i := 110) (by decide +kernel))) rfl
theorem mlL_155 : ML RL 155 mX11_write := gt_in (tin6 (List.mem_of_getElem? (l := tables_1_6) (i := 114) (by decide +kernel))) rfl
theorem mlL_159 : ML RL 159 mX11_count := gt_in (tin6 (List.mem_of_getElem? (l := tables_1_6) (i := 118) (by decide +kernel))) rfl
theorem mlL_164 : ML RL 164 mX11_digest := gt_in (tin6 (List.mem_of_getElem? (l := tables_1_6) (i := 122) (by decide +kernel))) rfl
theorem mlX11_318 : ML RX11 318 mX11_count := gt_in (tin6 (List.mem_of_getElem? (l := tables_1_6) (i := 128) (by decide +kernel))) rfl
theorem mlX11_321 : ML RX11 321 mX11_tellsPerson := gt_in (tin6 (List.mem_of_getElem? (l := tables_1_6) (i := 129) (by decide +kernel))) rfl
theorem mlX11_314 : ML RX11 314 mX11_solid := gt_in (tin6 (List.mem_of_getElem? (l := tables_1_6) (i := 133) (by decide +kernel))) rfl
theorem flX4_9 : FL RX4 9 4 0 := ⟨(RX4, TX4, 6), rfl, by decide, gt_in (tin1 (List.mem_of_getElem? (l := tables_1_1) (i := 30) (by decide +kernel))) rfl⟩
theorem flX4_15 : FL RX4 15 4 1 := ⟨(RX4, TX4, 6), rfl, by decide, gt_in (tin1 (List.mem_of_getElem? (l := tables_1_1) (i := 31) (by decide +kernel))) rfl⟩
theorem flX4_18 : FL RX4 18 4 2 := ⟨(RX4, TX4, 6), rfl, by decide, gt_in (tin1 (List.mem_of_getElem? (l := tables_1_1) (i := 32) (by decide +kernel))) rfl⟩
theorem flX4_25 : FL RX4 25 4 3 := ⟨(RX4, TX4, 6), rfl, by decide, gt_in (tin1 (List.mem_of_getElem? (l := tables_1_1) (i := 33) (by decide +kernel))) rfl⟩
theorem flX4_21 : FL RX4 21 4 4 := ⟨(RX4, TX4, 6), rfl, by decide, gt_in (tin1 (List.mem_of_getElem? (l := tables_1_1) (i := 34) (by decide +kernel))) rfl⟩
theorem flX4_28 : FL RX4 28 4 5 := ⟨(RX4, TX4, 6), rfl, by decide, gt_in (tin1 (List.mem_of_getElem? (l := tables_1_1) (i := 35) (by decide +kernel))) rfl⟩
theorem flX7_15 : FL RX7 15 7 0 := ⟨(RX7, TX7, 3), rfl, by decide, gt_in (tin1 (List.mem_of_getElem? (l := tables_1_1) (i := 65) (by decide +kernel))) rfl⟩
theorem flX7_21 : FL RX7 21 7 1 := ⟨(RX7, TX7, 3), rfl, by decide, gt_in (tin1 (List.mem_of_getElem? (l := tables_1_1) (i := 66) (by decide +kernel))) rfl⟩
theorem flX7_24 : FL RX7 24 7 2 := ⟨(RX7, TX7, 3), rfl, by decide, gt_in (tin1 (List.mem_of_getElem? (l := tables_1_1) (i := 67) (by decide +kernel))) rfl⟩
theorem flX0_31 : FL RX0 31 7 2 := ⟨(RX7, TX7, 3), rfl, by decide, gt_in (tin1 (List.mem_of_getElem? (l := tables_1_1) (i := 68) (by decide +kernel))) rfl⟩
theorem flX5_41 : FL RX5 41 7 2 := ⟨(RX7, TX7, 3), rfl, by decide, gt_in (tin1 (List.mem_of_getElem? (l := tables_1_1) (i := 69) (by decide +kernel))) rfl⟩
theorem flX5_14 : FL RX5 14 5 0 := ⟨(RX5, TX5, 4), rfl, by decide, gt_in (tin1 (List.mem_of_getElem? (l := tables_1_1) (i := 77) (by decide +kernel))) rfl⟩
theorem flX3_84 : FL RX3 84 5 0 := ⟨(RX5, TX5, 4), rfl, by decide, gt_in (tin1 (List.mem_of_getElem? (l := tables_1_1) (i := 78) (by decide +kernel))) rfl⟩
theorem flX10_130 : FL RX10 130 5 0 := ⟨(RX5, TX5, 4), rfl, by decide, gt_in (tin1 (List.mem_of_getElem? (l := tables_1_1) (i := 79) (by decide +kernel))) rfl⟩
theorem flX5_20 : FL RX5 20 5 1 := ⟨(RX5, TX5, 4), rfl, by decide, gt_in (tin1 (List.mem_of_getElem? (l := tables_1_1) (i := 80) (by decide +kernel))) rfl⟩
theorem flX5_24 : FL RX5 24 5 2 := ⟨(RX5, TX5, 4), rfl, by decide, gt_in (tin1 (List.mem_of_getElem? (l := tables_1_1) (i := 81) (by decide +kernel))) rfl⟩
theorem flX5_27 : FL RX5 27 5 3 := ⟨(RX5, TX5, 4), rfl, by decide, gt_in (tin1 (List.mem_of_getElem? (l := tables_1_1) (i := 82) (by decide +kernel))) rfl⟩
theorem flX0_14 : FL RX0 14 0 0 := ⟨(RX0, TX0, 2), rfl, by decide, gt_in (tin1 (List.mem_of_getElem? (l := tables_1_1) (i := 100) (by decide +kernel))) rfl⟩
theorem flX3_102 : FL RX3 102 0 0 := ⟨(RX0, TX0, 2), rfl, by decide, gt_in (tin1 (List.mem_of_getElem? (l := tables_1_1) (i := 101) (by decide +kernel))) rfl⟩
theorem flX10_134 : FL RX10 134 0 0 := ⟨(RX0, TX0, 2), rfl, by decide, gt_in (tin1 (List.mem_of_getElem? (l := tables_1_1) (i := 102) (by decide +kernel))) rfl⟩
theorem flX0_20 : FL RX0 20 0 1 := ⟨(RX0, TX0, 2), rfl, by decide, gt_in (tin1 (List.mem_of_getElem? (l := tables_1_1) (i := 103) (by decide +kernel))) rfl⟩
theorem flX3_25 : FL RX3 25 3 0 := ⟨(RX3, TX3, 12), rfl, by decide, gt_in (tin1 (List.mem_of_getElem? (l := tables_1_1) (i := 115) (by decide +kernel))) rfl⟩
theorem flX3_29 : FL RX3 29 3 1 := ⟨(RX3, TX3, 12), rfl, by decide, gt_in (tin1 (List.mem_of_getElem? (l := tables_1_1) (i := 116) (by decide +kernel))) rfl⟩
theorem flX3_33 : FL RX3 33 3 2 := ⟨(RX3, TX3, 12), rfl, by decide, gt_in (tin1 (List.mem_of_getElem? (l := tables_1_1) (i := 117) (by decide +kernel))) rfl⟩
theorem flX3_9 : FL RX3 9 3 3 := ⟨(RX3, TX3, 12), rfl, by decide, gt_in (tin1 (List.mem_of_getElem? (l := tables_1_1) (i := 118) (by decide +kernel))) rfl⟩
theorem flX3_15 : FL RX3 15 3 4 := ⟨(RX3, TX3, 12), rfl, by decide, gt_in (tin1 (List.mem_of_getElem? (l := tables_1_1) (i := 119) (by decide +kernel))) rfl⟩
theorem flX3_18 : FL RX3 18 3 5 := ⟨(RX3, TX3, 12), rfl, by decide, gt_in (tin1 (List.mem_of_getElem? (l := tables_1_1) (i := 120) (by decide +kernel))) rfl⟩
theorem flX3_56 : FL RX3 56 3 6 := ⟨(RX3, TX3, 12), rfl, by decide, gt_in (tin1 (List.mem_of_getElem? (l := tables_1_1) (i := 121) (by decide +kernel))) rfl⟩
theorem flX3_59 : FL RX3 59 3 7 := ⟨(RX3, TX3, 12), rfl, by decide, gt_in (tin1 (List.mem_of_getElem? (l := tables_1_1) (i := 122) (by decide +kernel))) rfl⟩
theorem flX3_62 : FL RX3 62 3 8 := ⟨(RX3, TX3, 12), rfl, by decide, gt_in (tin1 (List.mem_of_getElem? (l := tables_1_1) (i := 123) (by decide +kernel))) rfl⟩
theorem flX3_65 : FL RX3 65 3 9 := ⟨(RX3, TX3, 12), rfl, by decide, gt_in (tin1 (List.mem_of_getElem? (l := tables_1_1) (i := 124) (by decide +kernel))) rfl⟩
theorem flX3_21 : FL RX3 21 3 10 := ⟨(RX3, TX3, 12), rfl, by decide, gt_in (tin1 (List.mem_of_getElem? (l := tables_1_1) (i := 125) (by decide +kernel))) rfl⟩
theorem flX3_41 : FL RX3 41 3 11 := ⟨(RX3, TX3, 12), rfl, by decide, gt_in (tin1 (List.mem_of_getElem? (l := tables_1_1) (i := 126) (by decide +kernel))) rfl⟩
theorem flX6_9 : FL RX6 9 6 0 := ⟨(RX6, TX6, 2), rfl, by decide, gt_in (tin1 (List.mem_of_getElem? (l := tables_1_1) (i := 158) (by decide +kernel))) rfl⟩
theorem flX6_52 : FL RX6 52 6 1 := ⟨(RX6, TX6, 2), rfl, by decide, gt_in (tin1 (List.mem_of_getElem? (l := tables_1_1) (i := 159) (by decide +kernel))) rfl⟩
theorem flX2_9 : FL RX2 9 2 0 := ⟨(RX2, TX2, 3), rfl, by decide, gt_in (tin1 (List.mem_of_getElem? (l := tables_1_1) (i := 174) (by decide +kernel))) rfl⟩
theorem flX2_15 : FL RX2 15 2 1 := ⟨(RX2, TX2, 3), rfl, by decide, gt_in (tin1 (List.mem_of_getElem? (l := tables_1_1) (i := 175) (by decide +kernel))) rfl⟩
theorem flX2_18 : FL RX2 18 2 2 := ⟨(RX2, TX2, 3), rfl, by decide, gt_in (tin1 (List.mem_of_getElem? (l := tables_1_1) (i := 176) (by decide +kernel))) rfl⟩
theorem flX9_14 : FL RX9 14 9 0 := ⟨(RX9, TX9, 3), rfl, by decide, gt_in (tin1 (List.mem_of_getElem? (l := tables_1_1) (i := 192) (by decide +kernel))) rfl⟩
theorem flX9_20 : FL RX9 20 9 1 := ⟨(RX9, TX9, 3), rfl, by decide, gt_in (tin1 (List.mem_of_getElem? (l := tables_1_1) (i := 193) (by decide +kernel))) rfl⟩
theorem flX9_24 : FL RX9 24 9 2 := ⟨(RX9, TX9, 3), rfl, by decide, gt_in (tin1 (List.mem_of_getElem? (l := tables_1_1) (i := 194) (by decide +kernel))) rfl⟩
theorem flX1_9 : FL RX1 9 1 0 := ⟨(RX1, TX1, 3), rfl, by decide, gt_in (tin1 (List.mem_of_getElem? (l := tables_1_1) (i := 208) (by decide +kernel))) rfl⟩
theorem flX1_25 : FL RX1 25 1 1 := ⟨(RX1, TX1, 3), rfl, by decide, gt_in (tin1 (List.mem_of_getElem? (l := tables_1_1) (i := 209) (by decide +kernel))) rfl⟩
theorem flX1_15 : FL RX1 15 1 2 := ⟨(RX1, TX1, 3), rfl, by decide, gt_in (tin1 (List.mem_of_getElem? (l := tables_1_1) (i := 210) (by decide +kernel))) rfl⟩
theorem flX8_9 : FL RX8 9 8 0 := ⟨(RX8, TX8, 3), rfl, by decide, gt_in (tin1 (List.mem_of_getElem? (l := tables_1_1) (i := 226) (by decide +kernel))) rfl⟩
theorem flX8_15 : FL RX8 15 8 1 := ⟨(RX8, TX8, 3), rfl, by decide, gt_in (tin1 (List.mem_of_getElem? (l := tables_1_1) (i := 227) (by decide +kernel))) rfl⟩
theorem flX8_19 : FL RX8 19 8 2 := ⟨(RX8, TX8, 3), rfl, by decide, gt_in (tin1 (List.mem_of_getElem? (l := tables_1_1) (i := 228) (by decide +kernel))) rfl⟩
theorem flX10_10 : FL RX10 10 10 0 := ⟨(RX10, TX10, 11), rfl, by decide, gt_in (tin1 (List.mem_of_getElem? (l := tables_1_1) (i := 236) (by decide +kernel))) rfl⟩
theorem flX10_19 : FL RX10 19 10 1 := ⟨(RX10, TX10, 11), rfl, by decide, gt_in (tin1 (List.mem_of_getElem? (l := tables_1_1) (i := 237) (by decide +kernel))) rfl⟩
theorem flX10_26 : FL RX10 26 10 2 := ⟨(RX10, TX10, 11), rfl, by decide, gt_in (tin1 (List.mem_of_getElem? (l := tables_1_1) (i := 238) (by decide +kernel))) rfl⟩
theorem flX10_35 : FL RX10 35 10 3 := ⟨(RX10, TX10, 11), rfl, by decide, gt_in (tin1 (List.mem_of_getElem? (l := tables_1_1) (i := 239) (by decide +kernel))) rfl⟩
theorem flX10_42 : FL RX10 42 10 4 := ⟨(RX10, TX10, 11), rfl, by decide, gt_in (tin2 (List.mem_of_getElem? (l := tables_1_2) (i := 0) (by decide +kernel))) rfl⟩
theorem flX10_49 : FL RX10 49 10 5 := ⟨(RX10, TX10, 11), rfl, by decide, gt_in (tin2 (List.mem_of_getElem? (l := tables_1_2) (i := 1) (by decide +kernel))) rfl⟩
theorem flX10_56 : FL RX10 56 10 6 := ⟨(RX10, TX10, 11), rfl, by decide, gt_in (tin2 (List.mem_of_getElem? (l := tables_1_2) (i := 2) (by decide +kernel))) rfl⟩
theorem flX10_63 : FL RX10 63 10 7 := ⟨(RX10, TX10, 11), rfl, by decide, gt_in (tin2 (List.mem_of_getElem? (l := tables_1_2) (i := 3) (by decide +kernel))) rfl⟩
theorem flX10_69 : FL RX10 69 10 8 := ⟨(RX10, TX10, 11), rfl, by decide, gt_in (tin2 (List.mem_of_getElem? (l := tables_1_2) (i := 4) (by decide +kernel))) rfl⟩
theorem flX10_73 : FL RX10 73 10 9 := ⟨(RX10, TX10, 11), rfl, by decide, gt_in (tin2 (List.mem_of_getElem? (l := tables_1_2) (i := 5) (by decide +kernel))) rfl⟩
theorem flX10_77 : FL RX10 77 10 10 := ⟨(RX10, TX10, 11), rfl, by decide, gt_in (tin2 (List.mem_of_getElem? (l := tables_1_2) (i := 6) (by decide +kernel))) rfl⟩
theorem flX11_7 : FL RX11 7 11 0 := ⟨(RX11, TX11, 33), rfl, by decide, gt_in (tin4 (List.mem_of_getElem? (l := tables_1_4) (i := 155) (by decide +kernel))) rfl⟩
theorem flX11_13 : FL RX11 13 11 1 := ⟨(RX11, TX11, 33), rfl, by decide, gt_in (tin4 (List.mem_of_getElem? (l := tables_1_4) (i := 156) (by decide +kernel))) rfl⟩
theorem flX11_16 : FL RX11 16 11 2 := ⟨(RX11, TX11, 33), rfl, by decide, gt_in (tin4 (List.mem_of_getElem? (l := tables_1_4) (i := 157) (by decide +kernel))) rfl⟩
theorem flX11_19 : FL RX11 19 11 3 := ⟨(RX11, TX11, 33), rfl, by decide, gt_in (tin4 (List.mem_of_getElem? (l := tables_1_4) (i := 158) (by decide +kernel))) rfl⟩
theorem flX11_68 : FL RX11 68 11 4 := ⟨(RX11, TX11, 33), rfl, by decide, gt_in (tin4 (List.mem_of_getElem? (l := tables_1_4) (i := 159) (by decide +kernel))) rfl⟩
theorem flX11_22 : FL RX11 22 11 5 := ⟨(RX11, TX11, 33), rfl, by decide, gt_in (tin4 (List.mem_of_getElem? (l := tables_1_4) (i := 160) (by decide +kernel))) rfl⟩
theorem flX11_94 : FL RX11 94 11 6 := ⟨(RX11, TX11, 33), rfl, by decide, gt_in (tin4 (List.mem_of_getElem? (l := tables_1_4) (i := 161) (by decide +kernel))) rfl⟩
theorem flX11_100 : FL RX11 100 11 7 := ⟨(RX11, TX11, 33), rfl, by decide, gt_in (tin4 (List.mem_of_getElem? (l := tables_1_4) (i := 162) (by decide +kernel))) rfl⟩
theorem flX11_97 : FL RX11 97 11 8 := ⟨(RX11, TX11, 33), rfl, by decide, gt_in (tin4 (List.mem_of_getElem? (l := tables_1_4) (i := 163) (by decide +kernel))) rfl⟩
theorem flX11_25 : FL RX11 25 11 9 := ⟨(RX11, TX11, 33), rfl, by decide, gt_in (tin4 (List.mem_of_getElem? (l := tables_1_4) (i := 164) (by decide +kernel))) rfl⟩
theorem flX11_139 : FL RX11 139 11 10 := ⟨(RX11, TX11, 33), rfl, by decide, gt_in (tin4 (List.mem_of_getElem? (l := tables_1_4) (i := 165) (by decide +kernel))) rfl⟩
theorem flX11_28 : FL RX11 28 11 11 := ⟨(RX11, TX11, 33), rfl, by decide, gt_in (tin4 (List.mem_of_getElem? (l := tables_1_4) (i := 166) (by decide +kernel))) rfl⟩
theorem flX11_144 : FL RX11 144 11 12 := ⟨(RX11, TX11, 33), rfl, by decide, gt_in (tin4 (List.mem_of_getElem? (l := tables_1_4) (i := 167) (by decide +kernel))) rfl⟩
theorem flX11_31 : FL RX11 31 11 13 := ⟨(RX11, TX11, 33), rfl, by decide, gt_in (tin4 (List.mem_of_getElem? (l := tables_1_4) (i := 168) (by decide +kernel))) rfl⟩
theorem flX11_52 : FL RX11 52 11 14 := ⟨(RX11, TX11, 33), rfl, by decide, gt_in (tin4 (List.mem_of_getElem? (l := tables_1_4) (i := 169) (by decide +kernel))) rfl⟩
theorem flX11_34 : FL RX11 34 11 15 := ⟨(RX11, TX11, 33), rfl, by decide, gt_in (tin4 (List.mem_of_getElem? (l := tables_1_4) (i := 170) (by decide +kernel))) rfl⟩
theorem flX11_37 : FL RX11 37 11 16 := ⟨(RX11, TX11, 33), rfl, by decide, gt_in (tin4 (List.mem_of_getElem? (l := tables_1_4) (i := 171) (by decide +kernel))) rfl⟩
theorem flX11_40 : FL RX11 40 11 17 := ⟨(RX11, TX11, 33), rfl, by decide, gt_in (tin4 (List.mem_of_getElem? (l := tables_1_4) (i := 172) (by decide +kernel))) rfl⟩
theorem flX11_43 : FL RX11 43 11 18 := ⟨(RX11, TX11, 33), rfl, by decide, gt_in (tin4 (List.mem_of_getElem? (l := tables_1_4) (i := 173) (by decide +kernel))) rfl⟩
theorem flX11_56 : FL RX11 56 11 19 := ⟨(RX11, TX11, 33), rfl, by decide, gt_in (tin4 (List.mem_of_getElem? (l := tables_1_4) (i := 174) (by decide +kernel))) rfl⟩
theorem flX11_158 : FL RX11 158 11 20 := ⟨(RX11, TX11, 33), rfl, by decide, gt_in (tin4 (List.mem_of_getElem? (l := tables_1_4) (i := 175) (by decide +kernel))) rfl⟩
theorem flX11_59 : FL RX11 59 11 21 := ⟨(RX11, TX11, 33), rfl, by decide, gt_in (tin4 (List.mem_of_getElem? (l := tables_1_4) (i := 176) (by decide +kernel))) rfl⟩
theorem flX11_155 : FL RX11 155 11 22 := ⟨(RX11, TX11, 33), rfl, by decide, gt_in (tin4 (List.mem_of_getElem? (l := tables_1_4) (i := 177) (by decide +kernel))) rfl⟩
theorem flX11_177 : FL RX11 177 11 23 := ⟨(RX11, TX11, 33), rfl, by decide, gt_in (tin4 (List.mem_of_getElem? (l := tables_1_4) (i := 178) (by decide +kernel))) rfl⟩
theorem flX11_180 : FL RX11 180 11 24 := ⟨(RX11, TX11, 33), rfl, by decide, gt_in (tin4 (List.mem_of_getElem? (l := tables_1_4) (i := 179) (by decide +kernel))) rfl⟩
theorem flX11_174 : FL RX11 174 11 25 := ⟨(RX11, TX11, 33), rfl, by decide, gt_in (tin4 (List.mem_of_getElem? (l := tables_1_4) (i := 180) (by decide +kernel))) rfl⟩
theorem flX11_223 : FL RX11 223 11 26 := ⟨(RX11, TX11, 33), rfl, by decide, gt_in (tin4 (List.mem_of_getElem? (l := tables_1_4) (i := 181) (by decide +kernel))) rfl⟩
theorem flX11_226 : FL RX11 226 11 27 := ⟨(RX11, TX11, 33), rfl, by decide, gt_in (tin4 (List.mem_of_getElem? (l := tables_1_4) (i := 182) (by decide +kernel))) rfl⟩
theorem flX11_46 : FL RX11 46 11 28 := ⟨(RX11, TX11, 33), rfl, by decide, gt_in (tin4 (List.mem_of_getElem? (l := tables_1_4) (i := 183) (by decide +kernel))) rfl⟩
theorem flX11_252 : FL RX11 252 11 29 := ⟨(RX11, TX11, 33), rfl, by decide, gt_in (tin4 (List.mem_of_getElem? (l := tables_1_4) (i := 184) (by decide +kernel))) rfl⟩
theorem flX11_255 : FL RX11 255 11 30 := ⟨(RX11, TX11, 33), rfl, by decide, gt_in (tin4 (List.mem_of_getElem? (l := tables_1_4) (i := 185) (by decide +kernel))) rfl⟩
theorem flX11_267 : FL RX11 267 11 31 := ⟨(RX11, TX11, 33), rfl, by decide, gt_in (tin4 (List.mem_of_getElem? (l := tables_1_4) (i := 186) (by decide +kernel))) rfl⟩
theorem flX11_49 : FL RX11 49 11 32 := ⟨(RX11, TX11, 33), rfl, by decide, gt_in (tin4 (List.mem_of_getElem? (l := tables_1_4) (i := 187) (by decide +kernel))) rfl⟩
theorem fpX1_1 : FP 1 1 .long := ⟨(RX1, TX1, 3), rfl, by decide +kernel, by decide +kernel⟩
theorem fpX1_2 : FP 1 2 .long := ⟨(RX1, TX1, 3), rfl, by decide +kernel, by decide +kernel⟩
theorem fpX3_6 : FP 3 6 .int := ⟨(RX3, TX3, 12), rfl, by decide +kernel, by decide +kernel⟩
theorem fpX3_7 : FP 3 7 .int := ⟨(RX3, TX3, 12), rfl, by decide +kernel, by decide +kernel⟩
theorem fpX3_8 : FP 3 8 .int := ⟨(RX3, TX3, 12), rfl, by decide +kernel, by decide +kernel⟩
theorem fpX3_9 : FP 3 9 .int := ⟨(RX3, TX3, 12), rfl, by decide +kernel, by decide +kernel⟩
theorem fpX3_10 : FP 3 10 .int := ⟨(RX3, TX3, 12), rfl, by decide +kernel, by decide +kernel⟩
theorem fpX3_11 : FP 3 11 .int := ⟨(RX3, TX3, 12), rfl, by decide +kernel, by decide +kernel⟩
theorem fpX4_3 : FP 4 3 .int := ⟨(RX4, TX4, 6), rfl, by decide +kernel, by decide +kernel⟩
theorem fpX4_4 : FP 4 4 .int := ⟨(RX4, TX4, 6), rfl, by decide +kernel, by decide +kernel⟩
theorem fpX4_5 : FP 4 5 .int := ⟨(RX4, TX4, 6), rfl, by decide +kernel, by decide +kernel⟩
theorem fpX6_1 : FP 6 1 .int := ⟨(RX6, TX6, 2), rfl, by decide +kernel, by decide +kernel⟩
theorem fpX7_2 : FP 7 2 .int := ⟨(RX7, TX7, 3), rfl, by decide +kernel, by decide +kernel⟩
theorem fpX8_1 : FP 8 1 .int := ⟨(RX8, TX8, 3), rfl, by decide +kernel, by decide +kernel⟩
theorem fpX8_2 : FP 8 2 .int := ⟨(RX8, TX8, 3), rfl, by decide +kernel, by decide +kernel⟩
theorem fpX10_9 : FP 10 9 .int := ⟨(RX10, TX10, 11), rfl, by decide +kernel, by decide +kernel⟩
theorem fpX10_10 : FP 10 10 .int := ⟨(RX10, TX10, 11), rfl, by decide +kernel, by decide +kernel⟩
theorem fpX11_4 : FP 11 4 .int := ⟨(RX11, TX11, 33), rfl, by decide +kernel, by decide +kernel⟩
theorem fpX11_6 : FP 11 6 .int := ⟨(RX11, TX11, 33), rfl, by decide +kernel, by decide +kernel⟩
theorem fpX11_7 : FP 11 7 .int := ⟨(RX11, TX11, 33), rfl, by decide +kernel, by decide +kernel⟩
theorem fpX11_8 : FP 11 8 .int := ⟨(RX11, TX11, 33), rfl, by decide +kernel, by decide +kernel⟩
theorem fpX11_10 : FP 11 10 .int := ⟨(RX11, TX11, 33), rfl, by decide +kernel, by decide +kernel⟩
theorem fpX11_12 : FP 11 12 .int := ⟨(RX11, TX11, 33), rfl, by decide +kernel, by decide +kernel⟩
theorem fpX11_14 : FP 11 14 .int := ⟨(RX11, TX11, 33), rfl, by decide +kernel, by decide +kernel⟩
theorem fpX11_19 : FP 11 19 .int := ⟨(RX11, TX11, 33), rfl, by decide +kernel, by decide +kernel⟩
theorem fpX11_20 : FP 11 20 .int := ⟨(RX11, TX11, 33), rfl, by decide +kernel, by decide +kernel⟩
theorem fpX11_21 : FP 11 21 .int := ⟨(RX11, TX11, 33), rfl, by decide +kernel, by decide +kernel⟩
theorem fpX11_22 : FP 11 22 .int := ⟨(RX11, TX11, 33), rfl, by decide +kernel, by decide +kernel⟩
theorem fpX11_23 : FP 11 23 .int := ⟨(RX11, TX11, 33), rfl, by decide +kernel, by decide +kernel⟩
theorem fpX11_24 : FP 11 24 .int := ⟨(RX11, TX11, 33), rfl, by decide +kernel, by decide +kernel⟩
theorem fpX11_25 : FP 11 25 .int := ⟨(RX11, TX11, 33), rfl, by decide +kernel, by decide +kernel⟩
theorem fpX11_26 : FP 11 26 .int := ⟨(RX11, TX11, 33), rfl, by decide +kernel, by decide +kernel⟩
theorem fpX11_27 : FP 11 27 .int := ⟨(RX11, TX11, 33), rfl, by decide +kernel, by decide +kernel⟩
theorem fpX11_29 : FP 11 29 .int := ⟨(RX11, TX11, 33), rfl, by decide +kernel, by decide +kernel⟩
theorem fpX11_30 : FP 11 30 .int := ⟨(RX11, TX11, 33), rfl, by decide +kernel, by decide +kernel⟩
theorem fpX11_31 : FP 11 31 .int := ⟨(RX11, TX11, 33), rfl, by decide +kernel, by decide +kernel⟩
theorem kcX6_27 : Cond.constant RX6 27 (268435456) ∈ gt := gt_in (tin3 (List.mem_of_getElem? (l := tables_1_3) (i := 81) (by decide +kernel))) rfl
theorem kcX6_47 : Cond.constant RX6 47 (1048576) ∈ gt := gt_in (tin3 (List.mem_of_getElem? (l := tables_1_3) (i := 93) (by decide +kernel))) rfl
theorem kcX10_247 : Cond.constantLong RX10 247 (-9223372036854775806) ∈ gt := gt_in (tin4 (List.mem_of_getElem? (l := tables_1_4) (i := 2) (by decide +kernel))) rfl
theorem kcX10_382 : Cond.constant RX10 382 (1103515245) ∈ gt := gt_in (tin4 (List.mem_of_getElem? (l := tables_1_4) (i := 30) (by decide +kernel))) rfl
theorem kcX10_290 : Cond.constant RX10 290 (-2147483648) ∈ gt := gt_in (tin4 (List.mem_of_getElem? (l := tables_1_4) (i := 81) (by decide +kernel))) rfl
theorem kcX10_311 : Cond.constantLong RX10 311 (17) ∈ gt := gt_in (tin4 (List.mem_of_getElem? (l := tables_1_4) (i := 118) (by decide +kernel))) rfl
theorem kcX10_380 : Cond.constantLong RX10 380 (31) ∈ gt := gt_in (tin4 (List.mem_of_getElem? (l := tables_1_4) (i := 123) (by decide +kernel))) rfl
theorem kcX11_71 : Cond.constantLong RX11 71 (3) ∈ gt := gt_in (tin5 (List.mem_of_getElem? (l := tables_1_5) (i := 22) (by decide +kernel))) rfl
theorem kcX11_77 : Cond.constantLong RX11 77 (2) ∈ gt := gt_in (tin5 (List.mem_of_getElem? (l := tables_1_5) (i := 26) (by decide +kernel))) rfl
theorem kcX11_91 : Cond.constant RX11 91 (-2147483648) ∈ gt := gt_in (tin5 (List.mem_of_getElem? (l := tables_1_5) (i := 50) (by decide +kernel))) rfl
theorem kcX11_92 : Cond.constantLong RX11 92 (255) ∈ gt := gt_in (tin5 (List.mem_of_getElem? (l := tables_1_5) (i := 59) (by decide +kernel))) rfl
theorem kcX11_103 : Cond.constantLong RX11 103 (9) ∈ gt := gt_in (tin5 (List.mem_of_getElem? (l := tables_1_5) (i := 80) (by decide +kernel))) rfl
theorem kcX11_105 : Cond.constantLong RX11 105 (97) ∈ gt := gt_in (tin5 (List.mem_of_getElem? (l := tables_1_5) (i := 81) (by decide +kernel))) rfl
theorem kcX11_107 : Cond.constantLong RX11 107 (104) ∈ gt := gt_in (tin5 (List.mem_of_getElem? (l := tables_1_5) (i := 82) (by decide +kernel))) rfl
theorem kcX11_119 : Cond.constantLong RX11 119 (29) ∈ gt := gt_in (tin5 (List.mem_of_getElem? (l := tables_1_5) (i := 105) (by decide +kernel))) rfl
theorem kcX11_117 : Cond.constantLong RX11 117 (7) ∈ gt := gt_in (tin5 (List.mem_of_getElem? (l := tables_1_5) (i := 109) (by decide +kernel))) rfl
theorem kcX11_142 : Cond.constantLong RX11 142 (11) ∈ gt := gt_in (tin5 (List.mem_of_getElem? (l := tables_1_5) (i := 117) (by decide +kernel))) rfl
theorem kcX11_147 : Cond.constantLong RX11 147 (99) ∈ gt := gt_in (tin5 (List.mem_of_getElem? (l := tables_1_5) (i := 126) (by decide +kernel))) rfl
theorem kcX11_149 : Cond.constantLong RX11 149 (-1) ∈ gt := gt_in (tin5 (List.mem_of_getElem? (l := tables_1_5) (i := 131) (by decide +kernel))) rfl
theorem kcX11_154 : Cond.constant RX11 154 (1103515245) ∈ gt := gt_in (tin5 (List.mem_of_getElem? (l := tables_1_5) (i := 167) (by decide +kernel))) rfl
theorem kcX11_282 : Cond.constantLong RX11 282 (999) ∈ gt := gt_in (tin6 (List.mem_of_getElem? (l := tables_1_6) (i := 75) (by decide +kernel))) rfl
theorem kcX11_290 : Cond.constantLong RX11 290 (16) ∈ gt := gt_in (tin6 (List.mem_of_getElem? (l := tables_1_6) (i := 90) (by decide +kernel))) rfl
theorem kcX11_299 : Cond.constantLong RX11 299 (10) ∈ gt := gt_in (tin6 (List.mem_of_getElem? (l := tables_1_6) (i := 91) (by decide +kernel))) rfl
theorem kcX11_62 : Cond.constantLong RX11 62 (-9223372036854775808) ∈ gt := gt_in (tin6 (List.mem_of_getElem? (l := tables_1_6) (i := 105) (by decide +kernel))) rfl
theorem kcX11_316 : Cond.constantLong RX11 316 (17) ∈ gt := gt_in (tin6 (List.mem_of_getElem? (l := tables_1_6) (i := 126) (by decide +kernel))) rfl
theorem kcX11_312 : Cond.constantLong RX11 312 (31) ∈ gt := gt_in (tin6 (List.mem_of_getElem? (l := tables_1_6) (i := 127) (by decide +kernel))) rfl
end
section
theorem c_X11_in (l : Launch) (Γ : Ev) (d : Nat) (S : Sx) (v lo hi : Int) (h1 : R64 v) (h2 : R64 lo) (h3 : R64 hi) : Ctr l Γ d mX11_in [vL v, vL lo, vL hi] S (pP S (bz (lo ≤ v ∧ v ≤ hi))) := by
  refine Ctr.of (by decide) rfl rfl (Nat.le_of_ble_eq_true rfl) ?_
  intro κ hl hk hr
  subst hl
  refine G_lload_n hk dX11_in_0 rfl ?_
  refine G_lload_n hk dX11_in_1 rfl ?_
  refine G_lcmp hk dX11_in_2 h1 h2 ?_
  refine G_if_lt (tgt := 17) hk dX11_in_3 (by decide) (zcmp_r _ _) (fun h_3 => ?_) (fun h_3 => ?_)
  · rw [zcmp_lt] at h_3
    refine G_iconst hk dX11_in_17 ?_
    exact G_zret hk hr dX11_in_18 (by decide) ⟨by simp only [bz]; split <;> omega, rfl⟩
  · rw [zcmp_lt] at h_3
    refine G_lload_n hk dX11_in_6 rfl ?_
    refine G_lload hk dX11_in_7 rfl ?_
    refine G_lcmp hk dX11_in_9 h1 h3 ?_
    refine G_if_gt (tgt := 17) hk dX11_in_10 (by decide) (zcmp_r _ _) (fun h_10 => ?_) (fun h_10 => ?_)
    · rw [zcmp_gt] at h_10
      refine G_iconst hk dX11_in_17 ?_
      exact G_zret hk hr dX11_in_18 (by decide) ⟨by simp only [bz]; split <;> omega, rfl⟩
    · rw [zcmp_gt] at h_10
      refine G_iconst hk dX11_in_13 ?_
      refine G_goto (tgt := 18) hk dX11_in_14 (by decide) ?_
      exact G_zret hk hr dX11_in_18 (by decide) ⟨by simp only [bz]; split <;> omega, rfl⟩

theorem c_X11_isTwo (l : Launch) (Γ : Ev) (d : Nat) (S : Sx) (v : Int) (h1 : R32 v) : Ctr l Γ (d + 1) mX11_isTwo [vI v] S (pP S (bz (0 ≤ v ∧ v ≤ 1))) := by
  refine Ctr.of (by decide) rfl rfl (Nat.le_of_ble_eq_true rfl) ?_
  intro κ hl hk hr
  subst hl
  refine G_iload_n hk dX11_isTwo_0 rfl ?_
  refine G_i2l hk dX11_isTwo_1 ⟨by omega, by omega⟩ ?_
  refine G_lconst (z := 0) hk dX11_isTwo_2 (by decide) ?_
  refine G_lconst (z := 1) hk dX11_isTwo_3 (by decide) ?_
  refine G_cS3P hk dX11_isTwo_4 msX11_in mlX11_64 (Nat.le_of_ble_eq_true rfl) (c_X11_in _ Γ (d + 0) _ _ _ _ ⟨by omega, by omega⟩ ⟨by omega, by omega⟩ ⟨by omega, by omega⟩) ?_
  exact G_zret hk hr dX11_isTwo_7 (bz_01 _) ⟨rfl, rfl⟩

theorem c_X11_isSheet (l : Launch) (Γ : Ev) (d : Nat) (S : Sx) (v : Int) (h1 : R32 v) : Ctr l Γ (d + 1) mX11_isSheet [vI v] S (pP S (bz (0 ≤ v ∧ v ≤ 3))) := by
  refine Ctr.of (by decide) rfl rfl (Nat.le_of_ble_eq_true rfl) ?_
  intro κ hl hk hr
  subst hl
  refine G_iload_n hk dX11_isSheet_0 rfl ?_
  refine G_i2l hk dX11_isSheet_1 ⟨by omega, by omega⟩ ?_
  refine G_lconst (z := 0) hk dX11_isSheet_2 (by decide) ?_
  refine G_ldc2 (z := (3)) hk dX11_isSheet_3 kcX11_71 (by decide) ?_
  refine G_cS3P hk dX11_isSheet_6 msX11_in mlX11_64 (Nat.le_of_ble_eq_true rfl) (c_X11_in _ Γ (d + 0) _ _ _ _ ⟨by omega, by omega⟩ ⟨by omega, by omega⟩ ⟨by omega, by omega⟩) ?_
  exact G_zret hk hr dX11_isSheet_9 (bz_01 _) ⟨rfl, rfl⟩

theorem c_X11_isAnyone (l : Launch) (Γ : Ev) (d : Nat) (S : Sx) (v : Int) (h1 : R32 v) : Ctr l Γ (d + 1) mX11_isAnyone [vI v] S (pP S (bz (0 ≤ v ∧ v ≤ 7))) := by
  refine Ctr.of (by decide) rfl rfl (Nat.le_of_ble_eq_true rfl) ?_
  intro κ hl hk hr
  subst hl
  refine G_iload_n hk dX11_isAnyone_0 rfl ?_
  refine G_i2l hk dX11_isAnyone_1 ⟨by omega, by omega⟩ ?_
  refine G_lconst (z := 0) hk dX11_isAnyone_2 (by decide) ?_
  refine G_ldc2 (z := (7)) hk dX11_isAnyone_3 kcX11_117 (by decide) ?_
  refine G_cS3P hk dX11_isAnyone_6 msX11_in mlX11_64 (Nat.le_of_ble_eq_true rfl) (c_X11_in _ Γ (d + 0) _ _ _ _ ⟨by omega, by omega⟩ ⟨by omega, by omega⟩ ⟨by omega, by omega⟩) ?_
  exact G_zret hk hr dX11_isAnyone_9 (bz_01 _) ⟨rfl, rfl⟩

theorem c_X11_isYear (l : Launch) (Γ : Ev) (d : Nat) (S : Sx) (v : Int) (h1 : R32 v) : Ctr l Γ (d + 1) mX11_isYear [vI v] S (pP S (bz (0 ≤ v ∧ v ≤ 29))) := by
  refine Ctr.of (by decide) rfl rfl (Nat.le_of_ble_eq_true rfl) ?_
  intro κ hl hk hr
  subst hl
  refine G_iload_n hk dX11_isYear_0 rfl ?_
  refine G_i2l hk dX11_isYear_1 ⟨by omega, by omega⟩ ?_
  refine G_lconst (z := 0) hk dX11_isYear_2 (by decide) ?_
  refine G_ldc2 (z := (29)) hk dX11_isYear_3 kcX11_119 (by decide) ?_
  refine G_cS3P hk dX11_isYear_6 msX11_in mlX11_64 (Nat.le_of_ble_eq_true rfl) (c_X11_in _ Γ (d + 0) _ _ _ _ ⟨by omega, by omega⟩ ⟨by omega, by omega⟩ ⟨by omega, by omega⟩) ?_
  exact G_zret hk hr dX11_isYear_9 (bz_01 _) ⟨rfl, rfl⟩

theorem c_X11_isDrawer (l : Launch) (Γ : Ev) (d : Nat) (S : Sx) (v : Int) (h1 : R32 v) : Ctr l Γ (d + 1) mX11_isDrawer [vI v] S (pP S (bz (0 ≤ v ∧ v ≤ 3))) := by
  refine Ctr.of (by decide) rfl rfl (Nat.le_of_ble_eq_true rfl) ?_
  intro κ hl hk hr
  subst hl
  refine G_iload_n hk dX11_isDrawer_0 rfl ?_
  refine G_i2l hk dX11_isDrawer_1 ⟨by omega, by omega⟩ ?_
  refine G_lconst (z := 0) hk dX11_isDrawer_2 (by decide) ?_
  refine G_ldc2 (z := (3)) hk dX11_isDrawer_3 kcX11_71 (by decide) ?_
  refine G_cS3P hk dX11_isDrawer_6 msX11_in mlX11_64 (Nat.le_of_ble_eq_true rfl) (c_X11_in _ Γ (d + 0) _ _ _ _ ⟨by omega, by omega⟩ ⟨by omega, by omega⟩ ⟨by omega, by omega⟩) ?_
  exact G_zret hk hr dX11_isDrawer_9 (bz_01 _) ⟨rfl, rfl⟩

theorem c_X11_lesser (l : Launch) (Γ : Ev) (d : Nat) (S : Sx) (a b : Int) (h1 : R32 a) (h2 : R32 b) : Ctr l Γ d mX11_lesser [vI a, vI b] S (pP S (if a < b then a else b)) := by
  refine Ctr.of (by decide) rfl rfl (Nat.le_of_ble_eq_true rfl) ?_
  intro κ hl hk hr
  subst hl
  refine G_iload_n hk dX11_lesser_0 rfl ?_
  refine G_iload_n hk dX11_lesser_1 rfl ?_
  refine G_icmp_ge (tgt := 9) hk dX11_lesser_2 (by decide) ⟨by omega, by omega⟩ ⟨by omega, by omega⟩ (fun h_2 => ?_) (fun h_2 => ?_)
  · refine G_iload_n hk dX11_lesser_9 rfl ?_
    exact G_iret hk hr dX11_lesser_10 ⟨by split <;> omega, rfl⟩
  · refine G_iload_n hk dX11_lesser_5 rfl ?_
    refine G_goto (tgt := 10) hk dX11_lesser_6 (by decide) ?_
    exact G_iret hk hr dX11_lesser_10 ⟨by split <;> omega, rfl⟩

theorem c_X11_least0 (l : Launch) (Γ : Ev) (d : Nat) (S : Sx) (a : Int) (h1 : R32 a) : Ctr l Γ d mX11_least0 [vI a] S (pP S (if a < 0 then 0 else a)) := by
  refine Ctr.of (by decide) rfl rfl (Nat.le_of_ble_eq_true rfl) ?_
  intro κ hl hk hr
  subst hl
  refine G_iload_n hk dX11_least0_0 rfl ?_
  refine G_if_ge (tgt := 8) hk dX11_least0_1 (by decide) ⟨by omega, by omega⟩ (fun h_1 => ?_) (fun h_1 => ?_)
  · refine G_iload_n hk dX11_least0_8 rfl ?_
    exact G_iret hk hr dX11_least0_9 ⟨by split <;> omega, rfl⟩
  · refine G_iconst hk dX11_least0_4 ?_
    refine G_goto (tgt := 9) hk dX11_least0_5 (by decide) ?_
    exact G_iret hk hr dX11_least0_9 ⟨by split <;> omega, rfl⟩

theorem c_X11_cut (l : Launch) (Γ : Ev) (d : Nat) (S : Sx) (f v : Int) (h1 : R32 f) : Ctr l Γ d mX11_cut [vI f, vI v] S (pP S (if f = 0 then zb8 v else if f = 1 then zs16 v else v)) := by
  refine Ctr.of (by decide) rfl rfl (Nat.le_of_ble_eq_true rfl) ?_
  intro κ hl hk hr
  subst hl
  refine G_iload_n hk dX11_cut_0 rfl ?_
  refine G_if_ne (tgt := 9) hk dX11_cut_1 (by decide) ⟨by omega, by omega⟩ (fun h_1 => ?_) (fun h_1 => ?_)
  · refine G_iload_n hk dX11_cut_9 rfl ?_
    refine G_iconst hk dX11_cut_10 ?_
    refine G_icmp_ne (tgt := 19) hk dX11_cut_11 (by decide) ⟨by omega, by omega⟩ ⟨by omega, by omega⟩ (fun h_11 => ?_) (fun h_11 => ?_)
    · refine G_iload_n hk dX11_cut_19 rfl ?_
      exact G_iret hk hr dX11_cut_20 ⟨by simp [*], rfl⟩
    · refine G_iload_n hk dX11_cut_14 rfl ?_
      refine G_i2s hk dX11_cut_15 ?_
      refine G_goto (tgt := 20) hk dX11_cut_16 (by decide) ?_
      exact G_iret hk hr dX11_cut_20 ⟨by simp [*], rfl⟩
  · refine G_iload_n hk dX11_cut_4 rfl ?_
    refine G_i2b hk dX11_cut_5 ?_
    refine G_goto (tgt := 20) hk dX11_cut_6 (by decide) ?_
    exact G_iret hk hr dX11_cut_20 ⟨by simp [*], rfl⟩

theorem c_X11_isPerson (l : Launch) (Γ : Ev) (d : Nat) (S : Sx) (v : Int) (h1 : R32 v) (h2 : 0 ≤ S 44 8 ∧ S 44 8 ≤ 8) : Ctr l Γ (d + 1) mX11_isPerson [rf Γ 44, vI v] S (pP S (bz (0 ≤ v ∧ v ≤ S 44 8 - 1))) := by
  refine Ctr.of (by decide) rfl rfl (Nat.le_of_ble_eq_true rfl) ?_
  intro κ hl hk hr
  subst hl
  refine G_iload_n hk dX11_isPerson_0 rfl ?_
  refine G_i2l hk dX11_isPerson_1 ⟨by omega, by omega⟩ ?_
  refine G_lconst (z := 0) hk dX11_isPerson_2 (by decide) ?_
  refine G_rload_n hk dX11_isPerson_3 rfl ?_
  refine G_getI hk dX11_isPerson_4 flX11_97 (by decide) rfl rfl ?_
  refine G_iconst hk dX11_isPerson_7 ?_
  refine G_isub hk dX11_isPerson_8 ?_
  refine G_i2l hk dX11_isPerson_9 ⟨by omega, by omega⟩ ?_
  refine G_cS3P hk dX11_isPerson_10 msX11_in mlX11_64 (Nat.le_of_ble_eq_true rfl) (c_X11_in _ Γ (d + 0) _ _ _ _ ⟨by omega, by omega⟩ ⟨by omega, by omega⟩ ⟨by omega, by omega⟩) ?_
  exact G_zret hk hr dX11_isPerson_13 (bz_01 _) ⟨rfl, rfl⟩

def tw11 (S : Sx) (p : Int) : Int := if S 50 (2 * p + 1).toNat ≠ p ∧ 0 ≤ S 50 (2 * p + 1).toNat ∧ S 50 (2 * p + 1).toNat ≤ S 44 8 - 1 then S 50 (2 * p + 1).toNat else -1

theorem c_X11_twinOf (l : Launch) (Γ : Ev) (d : Nat) (S : Sx) (p : Int) (h1 : 0 ≤ p ∧ p < 8) (h2 : 0 ≤ S 44 8 ∧ S 44 8 ≤ 8) (h3 : R32 (S 50 (2 * p + 1).toNat)) : Ctr l Γ (d + 2) mX11_twinOf [rf Γ 44, vI p] S (pP S (tw11 S p)) := by
  refine Ctr.of (by decide) rfl rfl (Nat.le_of_ble_eq_true rfl) ?_
  intro κ hl hk hr
  subst hl
  refine G_rload_n hk dX11_twinOf_0 rfl ?_
  refine G_getR hk dX11_twinOf_1 flX11_25 (by decide) rfl rfl ?_
  refine G_iconst hk dX11_twinOf_4 ?_
  refine G_iload_n hk dX11_twinOf_5 rfl ?_
  refine G_imul hk dX11_twinOf_6 ?_
  refine G_iconst hk dX11_twinOf_7 ?_
  refine G_iadd hk dX11_twinOf_8 ?_
  refine G_iald hk dX11_twinOf_9 (by decide) rfl (by decide) (by omega) (by omega) ?_
  refine G_istore_n hk dX11_twinOf_10 (by decide) rfl ?_
  refine G_iload_n hk dX11_twinOf_11 rfl ?_
  refine G_iload_n hk dX11_twinOf_12 rfl ?_
  refine G_icmp_eq (tgt := 28) hk dX11_twinOf_13 (by decide) ⟨by omega, by omega⟩ ⟨by omega, by omega⟩ (fun h_13 => ?_) (fun h_13 => ?_)
  · refine G_iconst hk dX11_twinOf_28 ?_
    exact G_iret hk hr dX11_twinOf_29 ⟨by unfold tw11; split <;> omega, rfl⟩
  · refine G_rload_n hk dX11_twinOf_16 rfl ?_
    refine G_iload_n hk dX11_twinOf_17 rfl ?_
    refine G_cV1P hk dX11_twinOf_18 mvX11_isPerson mlX11_121 (by decide) rfl rfl (Nat.le_of_ble_eq_true rfl) (c_X11_isPerson _ Γ (d + 0) _ _ ⟨by omega, by omega⟩ ⟨by omega, by omega⟩) ?_
    refine G_bif_eq (tgt := 28) hk dX11_twinOf_21 (by decide) (fun h_21 => ?_) (fun h_21 => ?_)
    · refine G_iconst hk dX11_twinOf_28 ?_
      exact G_iret hk hr dX11_twinOf_29 ⟨by unfold tw11; split <;> omega, rfl⟩
    · refine G_iload_n hk dX11_twinOf_24 rfl ?_
      refine G_goto (tgt := 29) hk dX11_twinOf_25 (by decide) ?_
      exact G_iret hk hr dX11_twinOf_29 ⟨by unfold tw11; split <;> omega, rfl⟩

theorem c_X10_isWithin (l : Launch) (Γ : Ev) (d : Nat) (S : Sx) (v lo hi : Int) (h1 : R32 v) (h2 : R32 lo) (h3 : R32 hi) : Ctr l Γ d mX10_isWithin [vI v, vI lo, vI hi] S (pP S (bz (lo ≤ v ∧ v ≤ hi))) := by
  refine Ctr.of (by decide) rfl rfl (Nat.le_of_ble_eq_true rfl) ?_
  intro κ hl hk hr
  subst hl
  refine G_iload_n hk dX10_isWithin_0 rfl ?_
  refine G_iload_n hk dX10_isWithin_1 rfl ?_
  refine G_icmp_lt (tgt := 14) hk dX10_isWithin_2 (by decide) ⟨by omega, by omega⟩ ⟨by omega, by omega⟩ (fun h_2 => ?_) (fun h_2 => ?_)
  · refine G_iconst hk dX10_isWithin_14 ?_
    exact G_zret hk hr dX10_isWithin_15 (by decide) ⟨by simp only [bz]; split <;> omega, rfl⟩
  · refine G_iload_n hk dX10_isWithin_5 rfl ?_
    refine G_iload_n hk dX10_isWithin_6 rfl ?_
    refine G_icmp_gt (tgt := 14) hk dX10_isWithin_7 (by decide) ⟨by omega, by omega⟩ ⟨by omega, by omega⟩ (fun h_7 => ?_) (fun h_7 => ?_)
    · refine G_iconst hk dX10_isWithin_14 ?_
      exact G_zret hk hr dX10_isWithin_15 (by decide) ⟨by simp only [bz]; split <;> omega, rfl⟩
    · refine G_iconst hk dX10_isWithin_10 ?_
      refine G_goto (tgt := 15) hk dX10_isWithin_11 (by decide) ?_
      exact G_zret hk hr dX10_isWithin_15 (by decide) ⟨by simp only [bz]; split <;> omega, rfl⟩

theorem c_X10_isYear (l : Launch) (Γ : Ev) (d : Nat) (S : Sx) (v : Int) (h1 : R32 v) : Ctr l Γ (d + 1) mX10_isYear [vI v] S (pP S (bz (0 ≤ v ∧ v ≤ 29))) := by
  refine Ctr.of (by decide) rfl rfl (Nat.le_of_ble_eq_true rfl) ?_
  intro κ hl hk hr
  subst hl
  refine G_iload_n hk dX10_isYear_0 rfl ?_
  refine G_iconst hk dX10_isYear_1 ?_
  refine G_bipush hk dX10_isYear_2 (by decide) ?_
  refine G_cS3P hk dX10_isYear_4 msX10_isWithin mlX10_81 (Nat.le_of_ble_eq_true rfl) (c_X10_isWithin _ Γ (d + 0) _ _ _ _ ⟨by omega, by omega⟩ ⟨by omega, by omega⟩ ⟨by omega, by omega⟩) ?_
  exact G_zret hk hr dX10_isYear_7 (bz_01 _) ⟨rfl, rfl⟩

theorem c_X10_isSize (l : Launch) (Γ : Ev) (d : Nat) (S : Sx) (v : Int) (h1 : R32 v) : Ctr l Γ (d + 1) mX10_isSize [vI v] S (pP S (bz (1 ≤ v ∧ v ≤ 9))) := by
  refine Ctr.of (by decide) rfl rfl (Nat.le_of_ble_eq_true rfl) ?_
  intro κ hl hk hr
  subst hl
  refine G_iload_n hk dX10_isSize_0 rfl ?_
  refine G_iconst hk dX10_isSize_1 ?_
  refine G_bipush hk dX10_isSize_2 (by decide) ?_
  refine G_cS3P hk dX10_isSize_4 msX10_isWithin mlX10_81 (Nat.le_of_ble_eq_true rfl) (c_X10_isWithin _ Γ (d + 0) _ _ _ _ ⟨by omega, by omega⟩ ⟨by omega, by omega⟩ ⟨by omega, by omega⟩) ?_
  exact G_zret hk hr dX10_isSize_7 (bz_01 _) ⟨rfl, rfl⟩

theorem c_X10_isDrawer (l : Launch) (Γ : Ev) (d : Nat) (S : Sx) (v : Int) (h1 : R32 v) : Ctr l Γ (d + 1) mX10_isDrawer [vI v] S (pP S (bz (0 ≤ v ∧ v ≤ 3))) := by
  refine Ctr.of (by decide) rfl rfl (Nat.le_of_ble_eq_true rfl) ?_
  intro κ hl hk hr
  subst hl
  refine G_iload_n hk dX10_isDrawer_0 rfl ?_
  refine G_iconst hk dX10_isDrawer_1 ?_
  refine G_iconst hk dX10_isDrawer_2 ?_
  refine G_cS3P hk dX10_isDrawer_3 msX10_isWithin mlX10_81 (Nat.le_of_ble_eq_true rfl) (c_X10_isWithin _ Γ (d + 0) _ _ _ _ ⟨by omega, by omega⟩ ⟨by omega, by omega⟩ ⟨by omega, by omega⟩) ?_
  exact G_zret hk hr dX10_isDrawer_6 (bz_01 _) ⟨rfl, rfl⟩

theorem c_X10_isSheet (l : Launch) (Γ : Ev) (d : Nat) (S : Sx) (v : Int) (h1 : R32 v) : Ctr l Γ (d + 1) mX10_isSheet [vI v] S (pP S (bz (0 ≤ v ∧ v ≤ 3))) := by
  refine Ctr.of (by decide) rfl rfl (Nat.le_of_ble_eq_true rfl) ?_
  intro κ hl hk hr
  subst hl
  refine G_iload_n hk dX10_isSheet_0 rfl ?_
  refine G_iconst hk dX10_isSheet_1 ?_
  refine G_iconst hk dX10_isSheet_2 ?_
  refine G_cS3P hk dX10_isSheet_3 msX10_isWithin mlX10_81 (Nat.le_of_ble_eq_true rfl) (c_X10_isWithin _ Γ (d + 0) _ _ _ _ ⟨by omega, by omega⟩ ⟨by omega, by omega⟩ ⟨by omega, by omega⟩) ?_
  exact G_zret hk hr dX10_isSheet_6 (bz_01 _) ⟨rfl, rfl⟩

theorem c_X10_isForm (l : Launch) (Γ : Ev) (d : Nat) (S : Sx) (v : Int) (h1 : R32 v) : Ctr l Γ (d + 1) mX10_isForm [vI v] S (pP S (bz (0 ≤ v ∧ v ≤ 2))) := by
  refine Ctr.of (by decide) rfl rfl (Nat.le_of_ble_eq_true rfl) ?_
  intro κ hl hk hr
  subst hl
  refine G_iload_n hk dX10_isForm_0 rfl ?_
  refine G_iconst hk dX10_isForm_1 ?_
  refine G_iconst hk dX10_isForm_2 ?_
  refine G_cS3P hk dX10_isForm_3 msX10_isWithin mlX10_81 (Nat.le_of_ble_eq_true rfl) (c_X10_isWithin _ Γ (d + 0) _ _ _ _ ⟨by omega, by omega⟩ ⟨by omega, by omega⟩ ⟨by omega, by omega⟩) ?_
  exact G_zret hk hr dX10_isForm_6 (bz_01 _) ⟨rfl, rfl⟩

theorem c_X4_has (l : Launch) (Γ : Ev) (d : Nat) (S : Sx) (v : Int) (h1 : R32 v) (h2 : 0 ≤ S 1 5 ∧ S 1 5 ≤ 8) : Ctr l Γ d mX4_has [rf Γ 1, vI v] S (pP S (bz (0 ≤ v ∧ v < S 1 5))) := by
  refine Ctr.of (by decide) rfl rfl (Nat.le_of_ble_eq_true rfl) ?_
  intro κ hl hk hr
  subst hl
  refine G_iload_n hk dX4_has_0 rfl ?_
  refine G_if_lt (tgt := 16) hk dX4_has_1 (by decide) ⟨by omega, by omega⟩ (fun h_1 => ?_) (fun h_1 => ?_)
  · refine G_iconst hk dX4_has_16 ?_
    exact G_zret hk hr dX4_has_17 (by decide) ⟨by simp only [bz]; split <;> omega, rfl⟩
  · refine G_iload_n hk dX4_has_4 rfl ?_
    refine G_rload_n hk dX4_has_5 rfl ?_
    refine G_getI hk dX4_has_6 flX4_28 (by decide) rfl rfl ?_
    refine G_icmp_ge (tgt := 16) hk dX4_has_9 (by decide) ⟨by omega, by omega⟩ ⟨by omega, by omega⟩ (fun h_9 => ?_) (fun h_9 => ?_)
    · refine G_iconst hk dX4_has_16 ?_
      exact G_zret hk hr dX4_has_17 (by decide) ⟨by simp only [bz]; split <;> omega, rfl⟩
    · refine G_iconst hk dX4_has_12 ?_
      refine G_goto (tgt := 17) hk dX4_has_13 (by decide) ?_
      exact G_zret hk hr dX4_has_17 (by decide) ⟨by simp only [bz]; split <;> omega, rfl⟩
end
