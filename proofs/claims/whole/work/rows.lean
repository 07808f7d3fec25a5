section
-- ===== PART A: goes FIRST, ahead of the names: the tables' words, and 'selects' of the private methods out of them =====
/-- a private method of a class that the tables say can be made, by its rows of tables_1 -/
def lw_okq (q : MethodName × Nat) : Prop := (q.1.cls ≠ "java/lang/invoke/MethodHandle" ∧ q.1.cls ≠ "java/lang/invoke/VarHandle") ∧ Cond.instantiable q.1.cls q.2 ∈ tables_1 ∧ Cond.privateMethod q.1 ∈ tables_1 ∧ Cond.instanceMethod q.1 ∈ tables_1
theorem lw_p0 : lw_okq (⟨"RingedLights", "tapeFour", "(I)V"⟩, 11) := ⟨⟨by decide +kernel, by decide +kernel⟩, List.mem_of_getElem? (i := 15) (by decide +kernel), List.mem_of_getElem? (i := 320) (by decide +kernel), List.mem_of_getElem? (i := 321) (by decide +kernel)⟩
theorem lw_p1 : lw_okq (⟨"RingedLights", "refuse", "(I)I"⟩, 11) := ⟨⟨by decide +kernel, by decide +kernel⟩, List.mem_of_getElem? (i := 15) (by decide +kernel), List.mem_of_getElem? (i := 328) (by decide +kernel), List.mem_of_getElem? (i := 329) (by decide +kernel)⟩
theorem lw_p2 : lw_okq (⟨"RingedLights", "answer", "(I)I"⟩, 11) := ⟨⟨by decide +kernel, by decide +kernel⟩, List.mem_of_getElem? (i := 15) (by decide +kernel), List.mem_of_getElem? (i := 585) (by decide +kernel), List.mem_of_getElem? (i := 586) (by decide +kernel)⟩
theorem lw_p3 : lw_okq (⟨"RingedLights", "deny", "(I)Z"⟩, 11) := ⟨⟨by decide +kernel, by decide +kernel⟩, List.mem_of_getElem? (i := 15) (by decide +kernel), List.mem_of_getElem? (i := 738) (by decide +kernel), List.mem_of_getElem? (i := 739) (by decide +kernel)⟩
theorem lw_p4 : lw_okq (⟨"RingedLights", "grant", "()Z"⟩, 11) := ⟨⟨by decide +kernel, by decide +kernel⟩, List.mem_of_getElem? (i := 15) (by decide +kernel), List.mem_of_getElem? (i := 750) (by decide +kernel), List.mem_of_getElem? (i := 751) (by decide +kernel)⟩
theorem lw_p5 : lw_okq (⟨"RingedLights", "keptAt", "(I)LRingedLights$Crossing;"⟩, 11) := ⟨⟨by decide +kernel, by decide +kernel⟩, List.mem_of_getElem? (i := 15) (by decide +kernel), List.mem_of_getElem? (i := 945) (by decide +kernel), List.mem_of_getElem? (i := 946) (by decide +kernel)⟩
theorem lw_p6 : lw_okq (⟨"RingedLights", "ticksUntil", "(II)I"⟩, 11) := ⟨⟨by decide +kernel, by decide +kernel⟩, List.mem_of_getElem? (i := 15) (by decide +kernel), List.mem_of_getElem? (i := 990) (by decide +kernel), List.mem_of_getElem? (i := 991) (by decide +kernel)⟩
theorem lw_p7 : lw_okq (⟨"RingedLightsModel", "begins", "()V"⟩, 21) := ⟨⟨by decide +kernel, by decide +kernel⟩, List.mem_of_getElem? (i := 1031) (by decide +kernel), List.mem_of_getElem? (i := 1037) (by decide +kernel), List.mem_of_getElem? (i := 1038) (by decide +kernel)⟩
theorem lw_p8 : lw_okq (⟨"RingedLightsModel", "puts", "(II)V"⟩, 21) := ⟨⟨by decide +kernel, by decide +kernel⟩, List.mem_of_getElem? (i := 1031) (by decide +kernel), List.mem_of_getElem? (i := 1041) (by decide +kernel), List.mem_of_getElem? (i := 1042) (by decide +kernel)⟩
theorem lw_p9 : lw_okq (⟨"RingedLightsModel", "starts", "()V"⟩, 21) := ⟨⟨by decide +kernel, by decide +kernel⟩, List.mem_of_getElem? (i := 1031) (by decide +kernel), List.mem_of_getElem? (i := 1045) (by decide +kernel), List.mem_of_getElem? (i := 1046) (by decide +kernel)⟩
theorem lw_p10 : lw_okq (⟨"RingedLightsModel", "firstOf", "(IIIZ)I"⟩, 21) := ⟨⟨by decide +kernel, by decide +kernel⟩, List.mem_of_getElem? (i := 1031) (by decide +kernel), List.mem_of_getElem? (i := 1049) (by decide +kernel), List.mem_of_getElem? (i := 1050) (by decide +kernel)⟩
theorem lw_p11 : lw_okq (⟨"RingedLightsModel", "of", "(I)I"⟩, 21) := ⟨⟨by decide +kernel, by decide +kernel⟩, List.mem_of_getElem? (i := 1031) (by decide +kernel), List.mem_of_getElem? (i := 1053) (by decide +kernel), List.mem_of_getElem? (i := 1054) (by decide +kernel)⟩
theorem lw_p12 : lw_okq (⟨"RingedLightsModel", "ofPhase", "(II)I"⟩, 21) := ⟨⟨by decide +kernel, by decide +kernel⟩, List.mem_of_getElem? (i := 1031) (by decide +kernel), List.mem_of_getElem? (i := 1057) (by decide +kernel), List.mem_of_getElem? (i := 1058) (by decide +kernel)⟩
theorem lw_p13 : lw_okq (⟨"RingedLightsModel", "isAsked", "(I)Z"⟩, 21) := ⟨⟨by decide +kernel, by decide +kernel⟩, List.mem_of_getElem? (i := 1031) (by decide +kernel), List.mem_of_getElem? (i := 1061) (by decide +kernel), List.mem_of_getElem? (i := 1062) (by decide +kernel)⟩
theorem lw_p14 : lw_okq (⟨"RingedLightsModel", "isCalled", "(I)Z"⟩, 21) := ⟨⟨by decide +kernel, by decide +kernel⟩, List.mem_of_getElem? (i := 1031) (by decide +kernel), List.mem_of_getElem? (i := 1065) (by decide +kernel), List.mem_of_getElem? (i := 1066) (by decide +kernel)⟩
theorem lw_p15 : lw_okq (⟨"RingedLightsModel", "mark", "(II)I"⟩, 21) := ⟨⟨by decide +kernel, by decide +kernel⟩, List.mem_of_getElem? (i := 1031) (by decide +kernel), List.mem_of_getElem? (i := 1069) (by decide +kernel), List.mem_of_getElem? (i := 1070) (by decide +kernel)⟩
def lw_privs_1 : List (MethodName × Nat) := [(⟨"RingedLights", "tapeFour", "(I)V"⟩, 11), (⟨"RingedLights", "refuse", "(I)I"⟩, 11), (⟨"RingedLights", "answer", "(I)I"⟩, 11), (⟨"RingedLights", "deny", "(I)Z"⟩, 11), (⟨"RingedLights", "grant", "()Z"⟩, 11), (⟨"RingedLights", "keptAt", "(I)LRingedLights$Crossing;"⟩, 11), (⟨"RingedLights", "ticksUntil", "(II)I"⟩, 11), (⟨"RingedLightsModel", "begins", "()V"⟩, 21), (⟨"RingedLightsModel", "puts", "(II)V"⟩, 21), (⟨"RingedLightsModel", "starts", "()V"⟩, 21), (⟨"RingedLightsModel", "firstOf", "(IIIZ)I"⟩, 21), (⟨"RingedLightsModel", "of", "(I)I"⟩, 21), (⟨"RingedLightsModel", "ofPhase", "(II)I"⟩, 21), (⟨"RingedLightsModel", "isAsked", "(I)Z"⟩, 21), (⟨"RingedLightsModel", "isCalled", "(I)Z"⟩, 21), (⟨"RingedLightsModel", "mark", "(II)I"⟩, 21)]
theorem lw_r1 : ∀ q ∈ lw_privs_1, lw_okq q := List.forall_mem_cons.mpr ⟨lw_p0, List.forall_mem_cons.mpr ⟨lw_p1, List.forall_mem_cons.mpr ⟨lw_p2, List.forall_mem_cons.mpr ⟨lw_p3, List.forall_mem_cons.mpr ⟨lw_p4, List.forall_mem_cons.mpr ⟨lw_p5, List.forall_mem_cons.mpr ⟨lw_p6, List.forall_mem_cons.mpr ⟨lw_p7, List.forall_mem_cons.mpr ⟨lw_p8, List.forall_mem_cons.mpr ⟨lw_p9, List.forall_mem_cons.mpr ⟨lw_p10, List.forall_mem_cons.mpr ⟨lw_p11, List.forall_mem_cons.mpr ⟨lw_p12, List.forall_mem_cons.mpr ⟨lw_p13, List.forall_mem_cons.mpr ⟨lw_p14, List.forall_mem_cons.mpr ⟨lw_p15, fun _ h => absurd h List.not_mem_nil⟩⟩⟩⟩⟩⟩⟩⟩⟩⟩⟩⟩⟩⟩⟩⟩
theorem lw_p16 : lw_okq (⟨"RingedLightsModel", "isOnFoot", "(I)Z"⟩, 21) := ⟨⟨by decide +kernel, by decide +kernel⟩, List.mem_of_getElem? (i := 1031) (by decide +kernel), List.mem_of_getElem? (i := 1073) (by decide +kernel), List.mem_of_getElem? (i := 1074) (by decide +kernel)⟩
theorem lw_p17 : lw_okq (⟨"RingedLightsModel", "clearsRing", "(I)V"⟩, 21) := ⟨⟨by decide +kernel, by decide +kernel⟩, List.mem_of_getElem? (i := 1031) (by decide +kernel), List.mem_of_getElem? (i := 1077) (by decide +kernel), List.mem_of_getElem? (i := 1078) (by decide +kernel)⟩
theorem lw_p18 : lw_okq (⟨"RingedLightsModel", "putsRing", "(III)V"⟩, 21) := ⟨⟨by decide +kernel, by decide +kernel⟩, List.mem_of_getElem? (i := 1031) (by decide +kernel), List.mem_of_getElem? (i := 1081) (by decide +kernel), List.mem_of_getElem? (i := 1082) (by decide +kernel)⟩
theorem lw_p19 : lw_okq (⟨"RingedLightsModel", "four", "(I)V"⟩, 21) := ⟨⟨by decide +kernel, by decide +kernel⟩, List.mem_of_getElem? (i := 1031) (by decide +kernel), List.mem_of_getElem? (i := 1160) (by decide +kernel), List.mem_of_getElem? (i := 1161) (by decide +kernel)⟩
theorem lw_p20 : lw_okq (⟨"RingedLightsModel", "refuse", "(I)I"⟩, 21) := ⟨⟨by decide +kernel, by decide +kernel⟩, List.mem_of_getElem? (i := 1031) (by decide +kernel), List.mem_of_getElem? (i := 1171) (by decide +kernel), List.mem_of_getElem? (i := 1172) (by decide +kernel)⟩
theorem lw_p21 : lw_okq (⟨"RingedLightsModel", "copies", "(II)V"⟩, 21) := ⟨⟨by decide +kernel, by decide +kernel⟩, List.mem_of_getElem? (i := 1031) (by decide +kernel), List.mem_of_getElem? (i := 1175) (by decide +kernel), List.mem_of_getElem? (i := 1176) (by decide +kernel)⟩
theorem lw_p22 : lw_okq (⟨"RingedLightsModel", "ahead", "()V"⟩, 21) := ⟨⟨by decide +kernel, by decide +kernel⟩, List.mem_of_getElem? (i := 1031) (by decide +kernel), List.mem_of_getElem? (i := 1179) (by decide +kernel), List.mem_of_getElem? (i := 1180) (by decide +kernel)⟩
theorem lw_p23 : lw_okq (⟨"RingedLightsModel", "byteAt", "(I)I"⟩, 21) := ⟨⟨by decide +kernel, by decide +kernel⟩, List.mem_of_getElem? (i := 1031) (by decide +kernel), List.mem_of_getElem? (i := 1183) (by decide +kernel), List.mem_of_getElem? (i := 1184) (by decide +kernel)⟩
theorem lw_p24 : lw_okq (⟨"RingedLightsModel", "aLine", "()Z"⟩, 21) := ⟨⟨by decide +kernel, by decide +kernel⟩, List.mem_of_getElem? (i := 1031) (by decide +kernel), List.mem_of_getElem? (i := 1194) (by decide +kernel), List.mem_of_getElem? (i := 1195) (by decide +kernel)⟩
theorem lw_p25 : lw_okq (⟨"RingedLightsModel", "key", "()I"⟩, 21) := ⟨⟨by decide +kernel, by decide +kernel⟩, List.mem_of_getElem? (i := 1031) (by decide +kernel), List.mem_of_getElem? (i := 1198) (by decide +kernel), List.mem_of_getElem? (i := 1199) (by decide +kernel)⟩
theorem lw_p26 : lw_okq (⟨"RingedLightsModel", "aPhase", "()Z"⟩, 21) := ⟨⟨by decide +kernel, by decide +kernel⟩, List.mem_of_getElem? (i := 1031) (by decide +kernel), List.mem_of_getElem? (i := 1205) (by decide +kernel), List.mem_of_getElem? (i := 1206) (by decide +kernel)⟩
theorem lw_p27 : lw_okq (⟨"RingedLightsModel", "fails", "(I)Z"⟩, 21) := ⟨⟨by decide +kernel, by decide +kernel⟩, List.mem_of_getElem? (i := 1031) (by decide +kernel), List.mem_of_getElem? (i := 1209) (by decide +kernel), List.mem_of_getElem? (i := 1210) (by decide +kernel)⟩
theorem lw_p28 : lw_okq (⟨"RingedLightsModel", "takesNumber", "(II)Z"⟩, 21) := ⟨⟨by decide +kernel, by decide +kernel⟩, List.mem_of_getElem? (i := 1031) (by decide +kernel), List.mem_of_getElem? (i := 1213) (by decide +kernel), List.mem_of_getElem? (i := 1214) (by decide +kernel)⟩
theorem lw_p29 : lw_okq (⟨"RingedLightsModel", "takes", "()Z"⟩, 21) := ⟨⟨by decide +kernel, by decide +kernel⟩, List.mem_of_getElem? (i := 1031) (by decide +kernel), List.mem_of_getElem? (i := 1217) (by decide +kernel), List.mem_of_getElem? (i := 1218) (by decide +kernel)⟩
theorem lw_p30 : lw_okq (⟨"RingedLightsModel", "putsPhase", "(III)V"⟩, 21) := ⟨⟨by decide +kernel, by decide +kernel⟩, List.mem_of_getElem? (i := 1031) (by decide +kernel), List.mem_of_getElem? (i := 1221) (by decide +kernel), List.mem_of_getElem? (i := 1222) (by decide +kernel)⟩
theorem lw_p31 : lw_okq (⟨"RingedLightsModel", "adds", "(II)V"⟩, 21) := ⟨⟨by decide +kernel, by decide +kernel⟩, List.mem_of_getElem? (i := 1031) (by decide +kernel), List.mem_of_getElem? (i := 1234) (by decide +kernel), List.mem_of_getElem? (i := 1235) (by decide +kernel)⟩
def lw_privs_2 : List (MethodName × Nat) := [(⟨"RingedLightsModel", "isOnFoot", "(I)Z"⟩, 21), (⟨"RingedLightsModel", "clearsRing", "(I)V"⟩, 21), (⟨"RingedLightsModel", "putsRing", "(III)V"⟩, 21), (⟨"RingedLightsModel", "four", "(I)V"⟩, 21), (⟨"RingedLightsModel", "refuse", "(I)I"⟩, 21), (⟨"RingedLightsModel", "copies", "(II)V"⟩, 21), (⟨"RingedLightsModel", "ahead", "()V"⟩, 21), (⟨"RingedLightsModel", "byteAt", "(I)I"⟩, 21), (⟨"RingedLightsModel", "aLine", "()Z"⟩, 21), (⟨"RingedLightsModel", "key", "()I"⟩, 21), (⟨"RingedLightsModel", "aPhase", "()Z"⟩, 21), (⟨"RingedLightsModel", "fails", "(I)Z"⟩, 21), (⟨"RingedLightsModel", "takesNumber", "(II)Z"⟩, 21), (⟨"RingedLightsModel", "takes", "()Z"⟩, 21), (⟨"RingedLightsModel", "putsPhase", "(III)V"⟩, 21), (⟨"RingedLightsModel", "adds", "(II)V"⟩, 21)]
theorem lw_r2 : ∀ q ∈ lw_privs_2, lw_okq q := List.forall_mem_cons.mpr ⟨lw_p16, List.forall_mem_cons.mpr ⟨lw_p17, List.forall_mem_cons.mpr ⟨lw_p18, List.forall_mem_cons.mpr ⟨lw_p19, List.forall_mem_cons.mpr ⟨lw_p20, List.forall_mem_cons.mpr ⟨lw_p21, List.forall_mem_cons.mpr ⟨lw_p22, List.forall_mem_cons.mpr ⟨lw_p23, List.forall_mem_cons.mpr ⟨lw_p24, List.forall_mem_cons.mpr ⟨lw_p25, List.forall_mem_cons.mpr ⟨lw_p26, List.forall_mem_cons.mpr ⟨lw_p27, List.forall_mem_cons.mpr ⟨lw_p28, List.forall_mem_cons.mpr ⟨lw_p29, List.forall_mem_cons.mpr ⟨lw_p30, List.forall_mem_cons.mpr ⟨lw_p31, fun _ h => absurd h List.not_mem_nil⟩⟩⟩⟩⟩⟩⟩⟩⟩⟩⟩⟩⟩⟩⟩⟩
theorem lw_p32 : lw_okq (⟨"RingedLightsModel", "aClock", "(I)Z"⟩, 21) := ⟨⟨by decide +kernel, by decide +kernel⟩, List.mem_of_getElem? (i := 1031) (by decide +kernel), List.mem_of_getElem? (i := 1238) (by decide +kernel), List.mem_of_getElem? (i := 1239) (by decide +kernel)⟩
theorem lw_p33 : lw_okq (⟨"RingedLightsModel", "aBreak", "()Z"⟩, 21) := ⟨⟨by decide +kernel, by decide +kernel⟩, List.mem_of_getElem? (i := 1031) (by decide +kernel), List.mem_of_getElem? (i := 1245) (by decide +kernel), List.mem_of_getElem? (i := 1246) (by decide +kernel)⟩
theorem lw_p34 : lw_okq (⟨"RingedLightsModel", "aGoal", "(II)Z"⟩, 21) := ⟨⟨by decide +kernel, by decide +kernel⟩, List.mem_of_getElem? (i := 1031) (by decide +kernel), List.mem_of_getElem? (i := 1249) (by decide +kernel), List.mem_of_getElem? (i := 1250) (by decide +kernel)⟩
theorem lw_p35 : lw_okq (⟨"RingedLightsModel", "takesWord", "(I)Z"⟩, 21) := ⟨⟨by decide +kernel, by decide +kernel⟩, List.mem_of_getElem? (i := 1031) (by decide +kernel), List.mem_of_getElem? (i := 1253) (by decide +kernel), List.mem_of_getElem? (i := 1254) (by decide +kernel)⟩
theorem lw_p36 : lw_okq (⟨"RingedLightsModel", "aSet", "()Z"⟩, 21) := ⟨⟨by decide +kernel, by decide +kernel⟩, List.mem_of_getElem? (i := 1031) (by decide +kernel), List.mem_of_getElem? (i := 1257) (by decide +kernel), List.mem_of_getElem? (i := 1258) (by decide +kernel)⟩
theorem lw_p37 : lw_okq (⟨"RingedLightsModel", "isPeace", "(I)Z"⟩, 21) := ⟨⟨by decide +kernel, by decide +kernel⟩, List.mem_of_getElem? (i := 1031) (by decide +kernel), List.mem_of_getElem? (i := 1261) (by decide +kernel), List.mem_of_getElem? (i := 1262) (by decide +kernel)⟩
theorem lw_p38 : lw_okq (⟨"RingedLightsModel", "foesOf", "(I)I"⟩, 21) := ⟨⟨by decide +kernel, by decide +kernel⟩, List.mem_of_getElem? (i := 1031) (by decide +kernel), List.mem_of_getElem? (i := 1265) (by decide +kernel), List.mem_of_getElem? (i := 1266) (by decide +kernel)⟩
theorem lw_p39 : lw_okq (⟨"RingedLightsModel", "areFoes", "(II)Z"⟩, 21) := ⟨⟨by decide +kernel, by decide +kernel⟩, List.mem_of_getElem? (i := 1031) (by decide +kernel), List.mem_of_getElem? (i := 1269) (by decide +kernel), List.mem_of_getElem? (i := 1270) (by decide +kernel)⟩
theorem lw_p40 : lw_okq (⟨"RingedLightsModel", "gives", "(I)I"⟩, 21) := ⟨⟨by decide +kernel, by decide +kernel⟩, List.mem_of_getElem? (i := 1031) (by decide +kernel), List.mem_of_getElem? (i := 1273) (by decide +kernel), List.mem_of_getElem? (i := 1274) (by decide +kernel)⟩
theorem lw_p41 : lw_okq (⟨"RingedLightsModel", "ofRing", "(II)I"⟩, 21) := ⟨⟨by decide +kernel, by decide +kernel⟩, List.mem_of_getElem? (i := 1031) (by decide +kernel), List.mem_of_getElem? (i := 1289) (by decide +kernel), List.mem_of_getElem? (i := 1290) (by decide +kernel)⟩
theorem lw_p42 : lw_okq (⟨"RingedLightsModel", "isGreen", "(I)Z"⟩, 21) := ⟨⟨by decide +kernel, by decide +kernel⟩, List.mem_of_getElem? (i := 1031) (by decide +kernel), List.mem_of_getElem? (i := 1293) (by decide +kernel), List.mem_of_getElem? (i := 1294) (by decide +kernel)⟩
theorem lw_p43 : lw_okq (⟨"RingedLightsModel", "isDone", "(I)Z"⟩, 21) := ⟨⟨by decide +kernel, by decide +kernel⟩, List.mem_of_getElem? (i := 1031) (by decide +kernel), List.mem_of_getElem? (i := 1297) (by decide +kernel), List.mem_of_getElem? (i := 1298) (by decide +kernel)⟩
theorem lw_p44 : lw_okq (⟨"RingedLightsModel", "isForced", "(I)Z"⟩, 21) := ⟨⟨by decide +kernel, by decide +kernel⟩, List.mem_of_getElem? (i := 1031) (by decide +kernel), List.mem_of_getElem? (i := 1301) (by decide +kernel), List.mem_of_getElem? (i := 1302) (by decide +kernel)⟩
theorem lw_p45 : lw_okq (⟨"RingedLightsModel", "endOf", "(I)I"⟩, 21) := ⟨⟨by decide +kernel, by decide +kernel⟩, List.mem_of_getElem? (i := 1031) (by decide +kernel), List.mem_of_getElem? (i := 1305) (by decide +kernel), List.mem_of_getElem? (i := 1306) (by decide +kernel)⟩
theorem lw_p46 : lw_okq (⟨"RingedLightsModel", "isFirst", "(I)Z"⟩, 21) := ⟨⟨by decide +kernel, by decide +kernel⟩, List.mem_of_getElem? (i := 1031) (by decide +kernel), List.mem_of_getElem? (i := 1312) (by decide +kernel), List.mem_of_getElem? (i := 1313) (by decide +kernel)⟩
theorem lw_p47 : lw_okq (⟨"RingedLightsModel", "isPhase", "(I)Z"⟩, 21) := ⟨⟨by decide +kernel, by decide +kernel⟩, List.mem_of_getElem? (i := 1031) (by decide +kernel), List.mem_of_getElem? (i := 1320) (by decide +kernel), List.mem_of_getElem? (i := 1321) (by decide +kernel)⟩
def lw_privs_3 : List (MethodName × Nat) := [(⟨"RingedLightsModel", "aClock", "(I)Z"⟩, 21), (⟨"RingedLightsModel", "aBreak", "()Z"⟩, 21), (⟨"RingedLightsModel", "aGoal", "(II)Z"⟩, 21), (⟨"RingedLightsModel", "takesWord", "(I)Z"⟩, 21), (⟨"RingedLightsModel", "aSet", "()Z"⟩, 21), (⟨"RingedLightsModel", "isPeace", "(I)Z"⟩, 21), (⟨"RingedLightsModel", "foesOf", "(I)I"⟩, 21), (⟨"RingedLightsModel", "areFoes", "(II)Z"⟩, 21), (⟨"RingedLightsModel", "gives", "(I)I"⟩, 21), (⟨"RingedLightsModel", "ofRing", "(II)I"⟩, 21), (⟨"RingedLightsModel", "isGreen", "(I)Z"⟩, 21), (⟨"RingedLightsModel", "isDone", "(I)Z"⟩, 21), (⟨"RingedLightsModel", "isForced", "(I)Z"⟩, 21), (⟨"RingedLightsModel", "endOf", "(I)I"⟩, 21), (⟨"RingedLightsModel", "isFirst", "(I)Z"⟩, 21), (⟨"RingedLightsModel", "isPhase", "(I)Z"⟩, 21)]
theorem lw_r3 : ∀ q ∈ lw_privs_3, lw_okq q := List.forall_mem_cons.mpr ⟨lw_p32, List.forall_mem_cons.mpr ⟨lw_p33, List.forall_mem_cons.mpr ⟨lw_p34, List.forall_mem_cons.mpr ⟨lw_p35, List.forall_mem_cons.mpr ⟨lw_p36, List.forall_mem_cons.mpr ⟨lw_p37, List.forall_mem_cons.mpr ⟨lw_p38, List.forall_mem_cons.mpr ⟨lw_p39, List.forall_mem_cons.mpr ⟨lw_p40, List.forall_mem_cons.mpr ⟨lw_p41, List.forall_mem_cons.mpr ⟨lw_p42, List.forall_mem_cons.mpr ⟨lw_p43, List.forall_mem_cons.mpr ⟨lw_p44, List.forall_mem_cons.mpr ⟨lw_p45, List.forall_mem_cons.mpr ⟨lw_p46, List.forall_mem_cons.mpr ⟨lw_p47, fun _ h => absurd h List.not_mem_nil⟩⟩⟩⟩⟩⟩⟩⟩⟩⟩⟩⟩⟩⟩⟩⟩
theorem lw_p48 : lw_okq (⟨"RingedLightsModel", "lampOf", "(I)I"⟩, 21) := ⟨⟨by decide +kernel, by decide +kernel⟩, List.mem_of_getElem? (i := 1031) (by decide +kernel), List.mem_of_getElem? (i := 1324) (by decide +kernel), List.mem_of_getElem? (i := 1325) (by decide +kernel)⟩
theorem lw_p49 : lw_okq (⟨"RingedLightsModel", "isHolding", "(I)Z"⟩, 21) := ⟨⟨by decide +kernel, by decide +kernel⟩, List.mem_of_getElem? (i := 1031) (by decide +kernel), List.mem_of_getElem? (i := 1328) (by decide +kernel), List.mem_of_getElem? (i := 1329) (by decide +kernel)⟩
theorem lw_p50 : lw_okq (⟨"RingedLightsModel", "ofBreak", "(II)I"⟩, 21) := ⟨⟨by decide +kernel, by decide +kernel⟩, List.mem_of_getElem? (i := 1031) (by decide +kernel), List.mem_of_getElem? (i := 1340) (by decide +kernel), List.mem_of_getElem? (i := 1341) (by decide +kernel)⟩
theorem lw_p51 : lw_okq (⟨"RingedLightsModel", "goneAll", "()I"⟩, 21) := ⟨⟨by decide +kernel, by decide +kernel⟩, List.mem_of_getElem? (i := 1031) (by decide +kernel), List.mem_of_getElem? (i := 1348) (by decide +kernel), List.mem_of_getElem? (i := 1349) (by decide +kernel)⟩
theorem lw_p52 : lw_okq (⟨"RingedLightsModel", "queues", "()I"⟩, 21) := ⟨⟨by decide +kernel, by decide +kernel⟩, List.mem_of_getElem? (i := 1031) (by decide +kernel), List.mem_of_getElem? (i := 1352) (by decide +kernel), List.mem_of_getElem? (i := 1353) (by decide +kernel)⟩
theorem lw_p53 : lw_okq (⟨"RingedLightsModel", "greatest", "()I"⟩, 21) := ⟨⟨by decide +kernel, by decide +kernel⟩, List.mem_of_getElem? (i := 1031) (by decide +kernel), List.mem_of_getElem? (i := 1356) (by decide +kernel), List.mem_of_getElem? (i := 1357) (by decide +kernel)⟩
theorem lw_p54 : lw_okq (⟨"RingedLightsModel", "shown", "()I"⟩, 21) := ⟨⟨by decide +kernel, by decide +kernel⟩, List.mem_of_getElem? (i := 1031) (by decide +kernel), List.mem_of_getElem? (i := 1360) (by decide +kernel), List.mem_of_getElem? (i := 1361) (by decide +kernel)⟩
theorem lw_p55 : lw_okq (⟨"RingedLightsModel", "isSo", "(I)Z"⟩, 21) := ⟨⟨by decide +kernel, by decide +kernel⟩, List.mem_of_getElem? (i := 1031) (by decide +kernel), List.mem_of_getElem? (i := 1380) (by decide +kernel), List.mem_of_getElem? (i := 1381) (by decide +kernel)⟩
theorem lw_p56 : lw_okq (⟨"RingedLightsModel", "calls", "(I)V"⟩, 21) := ⟨⟨by decide +kernel, by decide +kernel⟩, List.mem_of_getElem? (i := 1031) (by decide +kernel), List.mem_of_getElem? (i := 1384) (by decide +kernel), List.mem_of_getElem? (i := 1385) (by decide +kernel)⟩
theorem lw_p57 : lw_okq (⟨"RingedLightsModel", "isWanted", "(IZ)Z"⟩, 21) := ⟨⟨by decide +kernel, by decide +kernel⟩, List.mem_of_getElem? (i := 1031) (by decide +kernel), List.mem_of_getElem? (i := 1396) (by decide +kernel), List.mem_of_getElem? (i := 1397) (by decide +kernel)⟩
theorem lw_p58 : lw_okq (⟨"RingedLightsModel", "isSet", "(I)Z"⟩, 21) := ⟨⟨by decide +kernel, by decide +kernel⟩, List.mem_of_getElem? (i := 1031) (by decide +kernel), List.mem_of_getElem? (i := 1408) (by decide +kernel), List.mem_of_getElem? (i := 1409) (by decide +kernel)⟩
theorem lw_p59 : lw_okq (⟨"RingedLightsModel", "happens", "(II)V"⟩, 21) := ⟨⟨by decide +kernel, by decide +kernel⟩, List.mem_of_getElem? (i := 1031) (by decide +kernel), List.mem_of_getElem? (i := 1420) (by decide +kernel), List.mem_of_getElem? (i := 1421) (by decide +kernel)⟩
theorem lw_p60 : lw_okq (⟨"RingedLightsModel", "ticks", "(Z)V"⟩, 21) := ⟨⟨by decide +kernel, by decide +kernel⟩, List.mem_of_getElem? (i := 1031) (by decide +kernel), List.mem_of_getElem? (i := 1428) (by decide +kernel), List.mem_of_getElem? (i := 1429) (by decide +kernel)⟩
theorem lw_p61 : lw_okq (⟨"RingedLightsModel", "comers", "()V"⟩, 21) := ⟨⟨by decide +kernel, by decide +kernel⟩, List.mem_of_getElem? (i := 1031) (by decide +kernel), List.mem_of_getElem? (i := 1432) (by decide +kernel), List.mem_of_getElem? (i := 1433) (by decide +kernel)⟩
theorem lw_p62 : lw_okq (⟨"RingedLightsModel", "drawBy", "(I)I"⟩, 21) := ⟨⟨by decide +kernel, by decide +kernel⟩, List.mem_of_getElem? (i := 1031) (by decide +kernel), List.mem_of_getElem? (i := 1436) (by decide +kernel), List.mem_of_getElem? (i := 1437) (by decide +kernel)⟩
theorem lw_p63 : lw_okq (⟨"RingedLightsModel", "clockGoes", "()V"⟩, 21) := ⟨⟨by decide +kernel, by decide +kernel⟩, List.mem_of_getElem? (i := 1031) (by decide +kernel), List.mem_of_getElem? (i := 1443) (by decide +kernel), List.mem_of_getElem? (i := 1444) (by decide +kernel)⟩
def lw_privs_4 : List (MethodName × Nat) := [(⟨"RingedLightsModel", "lampOf", "(I)I"⟩, 21), (⟨"RingedLightsModel", "isHolding", "(I)Z"⟩, 21), (⟨"RingedLightsModel", "ofBreak", "(II)I"⟩, 21), (⟨"RingedLightsModel", "goneAll", "()I"⟩, 21), (⟨"RingedLightsModel", "queues", "()I"⟩, 21), (⟨"RingedLightsModel", "greatest", "()I"⟩, 21), (⟨"RingedLightsModel", "shown", "()I"⟩, 21), (⟨"RingedLightsModel", "isSo", "(I)Z"⟩, 21), (⟨"RingedLightsModel", "calls", "(I)V"⟩, 21), (⟨"RingedLightsModel", "isWanted", "(IZ)Z"⟩, 21), (⟨"RingedLightsModel", "isSet", "(I)Z"⟩, 21), (⟨"RingedLightsModel", "happens", "(II)V"⟩, 21), (⟨"RingedLightsModel", "ticks", "(Z)V"⟩, 21), (⟨"RingedLightsModel", "comers", "()V"⟩, 21), (⟨"RingedLightsModel", "drawBy", "(I)I"⟩, 21), (⟨"RingedLightsModel", "clockGoes", "()V"⟩, 21)]
theorem lw_r4 : ∀ q ∈ lw_privs_4, lw_okq q := List.forall_mem_cons.mpr ⟨lw_p48, List.forall_mem_cons.mpr ⟨lw_p49, List.forall_mem_cons.mpr ⟨lw_p50, List.forall_mem_cons.mpr ⟨lw_p51, List.forall_mem_cons.mpr ⟨lw_p52, List.forall_mem_cons.mpr ⟨lw_p53, List.forall_mem_cons.mpr ⟨lw_p54, List.forall_mem_cons.mpr ⟨lw_p55, List.forall_mem_cons.mpr ⟨lw_p56, List.forall_mem_cons.mpr ⟨lw_p57, List.forall_mem_cons.mpr ⟨lw_p58, List.forall_mem_cons.mpr ⟨lw_p59, List.forall_mem_cons.mpr ⟨lw_p60, List.forall_mem_cons.mpr ⟨lw_p61, List.forall_mem_cons.mpr ⟨lw_p62, List.forall_mem_cons.mpr ⟨lw_p63, fun _ h => absurd h List.not_mem_nil⟩⟩⟩⟩⟩⟩⟩⟩⟩⟩⟩⟩⟩⟩⟩⟩
theorem lw_p64 : lw_okq (⟨"RingedLightsModel", "due", "()I"⟩, 21) := ⟨⟨by decide +kernel, by decide +kernel⟩, List.mem_of_getElem? (i := 1031) (by decide +kernel), List.mem_of_getElem? (i := 1447) (by decide +kernel), List.mem_of_getElem? (i := 1448) (by decide +kernel)⟩
theorem lw_p65 : lw_okq (⟨"RingedLightsModel", "ringGoes", "(I)V"⟩, 21) := ⟨⟨by decide +kernel, by decide +kernel⟩, List.mem_of_getElem? (i := 1031) (by decide +kernel), List.mem_of_getElem? (i := 1451) (by decide +kernel), List.mem_of_getElem? (i := 1452) (by decide +kernel)⟩
theorem lw_p66 : lw_okq (⟨"RingedLightsModel", "greenGoes", "(I)V"⟩, 21) := ⟨⟨by decide +kernel, by decide +kernel⟩, List.mem_of_getElem? (i := 1031) (by decide +kernel), List.mem_of_getElem? (i := 1455) (by decide +kernel), List.mem_of_getElem? (i := 1456) (by decide +kernel)⟩
theorem lw_p67 : lw_okq (⟨"RingedLightsModel", "isFoeAsked", "(I)Z"⟩, 21) := ⟨⟨by decide +kernel, by decide +kernel⟩, List.mem_of_getElem? (i := 1031) (by decide +kernel), List.mem_of_getElem? (i := 1459) (by decide +kernel), List.mem_of_getElem? (i := 1460) (by decide +kernel)⟩
theorem lw_p68 : lw_okq (⟨"RingedLightsModel", "breaks", "()V"⟩, 21) := ⟨⟨by decide +kernel, by decide +kernel⟩, List.mem_of_getElem? (i := 1031) (by decide +kernel), List.mem_of_getElem? (i := 1463) (by decide +kernel), List.mem_of_getElem? (i := 1464) (by decide +kernel)⟩
theorem lw_p69 : lw_okq (⟨"RingedLightsModel", "breakEnds", "()V"⟩, 21) := ⟨⟨by decide +kernel, by decide +kernel⟩, List.mem_of_getElem? (i := 1031) (by decide +kernel), List.mem_of_getElem? (i := 1467) (by decide +kernel), List.mem_of_getElem? (i := 1468) (by decide +kernel)⟩
theorem lw_p70 : lw_okq (⟨"RingedLightsModel", "noBreak", "()V"⟩, 21) := ⟨⟨by decide +kernel, by decide +kernel⟩, List.mem_of_getElem? (i := 1031) (by decide +kernel), List.mem_of_getElem? (i := 1471) (by decide +kernel), List.mem_of_getElem? (i := 1472) (by decide +kernel)⟩
theorem lw_p71 : lw_okq (⟨"RingedLightsModel", "breakBegins", "(I)V"⟩, 21) := ⟨⟨by decide +kernel, by decide +kernel⟩, List.mem_of_getElem? (i := 1031) (by decide +kernel), List.mem_of_getElem? (i := 1475) (by decide +kernel), List.mem_of_getElem? (i := 1476) (by decide +kernel)⟩
theorem lw_p72 : lw_okq (⟨"RingedLightsModel", "isStage", "(I)V"⟩, 21) := ⟨⟨by decide +kernel, by decide +kernel⟩, List.mem_of_getElem? (i := 1031) (by decide +kernel), List.mem_of_getElem? (i := 1479) (by decide +kernel), List.mem_of_getElem? (i := 1480) (by decide +kernel)⟩
theorem lw_p73 : lw_okq (⟨"RingedLightsModel", "goesTo", "(I)V"⟩, 21) := ⟨⟨by decide +kernel, by decide +kernel⟩, List.mem_of_getElem? (i := 1031) (by decide +kernel), List.mem_of_getElem? (i := 1483) (by decide +kernel), List.mem_of_getElem? (i := 1484) (by decide +kernel)⟩
theorem lw_p74 : lw_okq (⟨"RingedLightsModel", "goal", "(I)I"⟩, 21) := ⟨⟨by decide +kernel, by decide +kernel⟩, List.mem_of_getElem? (i := 1031) (by decide +kernel), List.mem_of_getElem? (i := 1487) (by decide +kernel), List.mem_of_getElem? (i := 1488) (by decide +kernel)⟩
theorem lw_p75 : lw_okq (⟨"RingedLightsModel", "leaves", "(II)V"⟩, 21) := ⟨⟨by decide +kernel, by decide +kernel⟩, List.mem_of_getElem? (i := 1031) (by decide +kernel), List.mem_of_getElem? (i := 1491) (by decide +kernel), List.mem_of_getElem? (i := 1492) (by decide +kernel)⟩
theorem lw_p76 : lw_okq (⟨"RingedLightsModel", "goesOn", "()V"⟩, 21) := ⟨⟨by decide +kernel, by decide +kernel⟩, List.mem_of_getElem? (i := 1031) (by decide +kernel), List.mem_of_getElem? (i := 1495) (by decide +kernel), List.mem_of_getElem? (i := 1496) (by decide +kernel)⟩
theorem lw_p77 : lw_okq (⟨"RingedLightsModel", "goes", "(II)V"⟩, 21) := ⟨⟨by decide +kernel, by decide +kernel⟩, List.mem_of_getElem? (i := 1031) (by decide +kernel), List.mem_of_getElem? (i := 1499) (by decide +kernel), List.mem_of_getElem? (i := 1500) (by decide +kernel)⟩
theorem lw_p78 : lw_okq (⟨"RingedLightsModel", "becomes", "()V"⟩, 21) := ⟨⟨by decide +kernel, by decide +kernel⟩, List.mem_of_getElem? (i := 1031) (by decide +kernel), List.mem_of_getElem? (i := 1503) (by decide +kernel), List.mem_of_getElem? (i := 1504) (by decide +kernel)⟩
theorem lw_p79 : lw_okq (⟨"RingedLightsModel", "becomesGreen", "(II)V"⟩, 21) := ⟨⟨by decide +kernel, by decide +kernel⟩, List.mem_of_getElem? (i := 1031) (by decide +kernel), List.mem_of_getElem? (i := 1507) (by decide +kernel), List.mem_of_getElem? (i := 1508) (by decide +kernel)⟩
def lw_privs_5 : List (MethodName × Nat) := [(⟨"RingedLightsModel", "due", "()I"⟩, 21), (⟨"RingedLightsModel", "ringGoes", "(I)V"⟩, 21), (⟨"RingedLightsModel", "greenGoes", "(I)V"⟩, 21), (⟨"RingedLightsModel", "isFoeAsked", "(I)Z"⟩, 21), (⟨"RingedLightsModel", "breaks", "()V"⟩, 21), (⟨"RingedLightsModel", "breakEnds", "()V"⟩, 21), (⟨"RingedLightsModel", "noBreak", "()V"⟩, 21), (⟨"RingedLightsModel", "breakBegins", "(I)V"⟩, 21), (⟨"RingedLightsModel", "isStage", "(I)V"⟩, 21), (⟨"RingedLightsModel", "goesTo", "(I)V"⟩, 21), (⟨"RingedLightsModel", "goal", "(I)I"⟩, 21), (⟨"RingedLightsModel", "leaves", "(II)V"⟩, 21), (⟨"RingedLightsModel", "goesOn", "()V"⟩, 21), (⟨"RingedLightsModel", "goes", "(II)V"⟩, 21), (⟨"RingedLightsModel", "becomes", "()V"⟩, 21), (⟨"RingedLightsModel", "becomesGreen", "(II)V"⟩, 21)]
theorem lw_r5 : ∀ q ∈ lw_privs_5, lw_okq q := List.forall_mem_cons.mpr ⟨lw_p64, List.forall_mem_cons.mpr ⟨lw_p65, List.forall_mem_cons.mpr ⟨lw_p66, List.forall_mem_cons.mpr ⟨lw_p67, List.forall_mem_cons.mpr ⟨lw_p68, List.forall_mem_cons.mpr ⟨lw_p69, List.forall_mem_cons.mpr ⟨lw_p70, List.forall_mem_cons.mpr ⟨lw_p71, List.forall_mem_cons.mpr ⟨lw_p72, List.forall_mem_cons.mpr ⟨lw_p73, List.forall_mem_cons.mpr ⟨lw_p74, List.forall_mem_cons.mpr ⟨lw_p75, List.forall_mem_cons.mpr ⟨lw_p76, List.forall_mem_cons.mpr ⟨lw_p77, List.forall_mem_cons.mpr ⟨lw_p78, List.forall_mem_cons.mpr ⟨lw_p79, fun _ h => absurd h List.not_mem_nil⟩⟩⟩⟩⟩⟩⟩⟩⟩⟩⟩⟩⟩⟩⟩⟩
theorem lw_p80 : lw_okq (⟨"RingedLightsModel", "staged", "()V"⟩, 21) := ⟨⟨by decide +kernel, by decide +kernel⟩, List.mem_of_getElem? (i := 1031) (by decide +kernel), List.mem_of_getElem? (i := 1511) (by decide +kernel), List.mem_of_getElem? (i := 1512) (by decide +kernel)⟩
theorem lw_p81 : lw_okq (⟨"RingedLightsModel", "watches", "()V"⟩, 21) := ⟨⟨by decide +kernel, by decide +kernel⟩, List.mem_of_getElem? (i := 1031) (by decide +kernel), List.mem_of_getElem? (i := 1515) (by decide +kernel), List.mem_of_getElem? (i := 1516) (by decide +kernel)⟩
theorem lw_p82 : lw_okq (⟨"RingedLightsModel", "isFull", "(I)Z"⟩, 21) := ⟨⟨by decide +kernel, by decide +kernel⟩, List.mem_of_getElem? (i := 1031) (by decide +kernel), List.mem_of_getElem? (i := 1539) (by decide +kernel), List.mem_of_getElem? (i := 1540) (by decide +kernel)⟩
theorem lw_p83 : lw_okq (⟨"RingedLightsModel", "queuesIn", "(I)I"⟩, 21) := ⟨⟨by decide +kernel, by decide +kernel⟩, List.mem_of_getElem? (i := 1031) (by decide +kernel), List.mem_of_getElem? (i := 1543) (by decide +kernel), List.mem_of_getElem? (i := 1544) (by decide +kernel)⟩
theorem lw_p84 : lw_okq (⟨"RingedLightsModel", "reaches", "(II)I"⟩, 21) := ⟨⟨by decide +kernel, by decide +kernel⟩, List.mem_of_getElem? (i := 1031) (by decide +kernel), List.mem_of_getElem? (i := 1551) (by decide +kernel), List.mem_of_getElem? (i := 1552) (by decide +kernel)⟩
theorem lw_p85 : lw_okq (⟨"RingedLightsModel", "isReached", "(II)Z"⟩, 21) := ⟨⟨by decide +kernel, by decide +kernel⟩, List.mem_of_getElem? (i := 1031) (by decide +kernel), List.mem_of_getElem? (i := 1555) (by decide +kernel), List.mem_of_getElem? (i := 1556) (by decide +kernel)⟩
theorem lw_p86 : lw_okq (⟨"RingedLightsModel", "isGreenAt", "(I)Z"⟩, 21) := ⟨⟨by decide +kernel, by decide +kernel⟩, List.mem_of_getElem? (i := 1031) (by decide +kernel), List.mem_of_getElem? (i := 1559) (by decide +kernel), List.mem_of_getElem? (i := 1560) (by decide +kernel)⟩
theorem lw_p87 : lw_okq (⟨"RingedLightsModel", "callsOthers", "(I)V"⟩, 21) := ⟨⟨by decide +kernel, by decide +kernel⟩, List.mem_of_getElem? (i := 1031) (by decide +kernel), List.mem_of_getElem? (i := 1563) (by decide +kernel), List.mem_of_getElem? (i := 1564) (by decide +kernel)⟩
theorem lw_p88 : lw_okq (⟨"RingedLightsModel", "waitsIn", "(I)I"⟩, 21) := ⟨⟨by decide +kernel, by decide +kernel⟩, List.mem_of_getElem? (i := 1031) (by decide +kernel), List.mem_of_getElem? (i := 1587) (by decide +kernel), List.mem_of_getElem? (i := 1588) (by decide +kernel)⟩
def lw_privs_6 : List (MethodName × Nat) := [(⟨"RingedLightsModel", "staged", "()V"⟩, 21), (⟨"RingedLightsModel", "watches", "()V"⟩, 21), (⟨"RingedLightsModel", "isFull", "(I)Z"⟩, 21), (⟨"RingedLightsModel", "queuesIn", "(I)I"⟩, 21), (⟨"RingedLightsModel", "reaches", "(II)I"⟩, 21), (⟨"RingedLightsModel", "isReached", "(II)Z"⟩, 21), (⟨"RingedLightsModel", "isGreenAt", "(I)Z"⟩, 21), (⟨"RingedLightsModel", "callsOthers", "(I)V"⟩, 21), (⟨"RingedLightsModel", "waitsIn", "(I)I"⟩, 21)]
theorem lw_r6 : ∀ q ∈ lw_privs_6, lw_okq q := List.forall_mem_cons.mpr ⟨lw_p80, List.forall_mem_cons.mpr ⟨lw_p81, List.forall_mem_cons.mpr ⟨lw_p82, List.forall_mem_cons.mpr ⟨lw_p83, List.forall_mem_cons.mpr ⟨lw_p84, List.forall_mem_cons.mpr ⟨lw_p85, List.forall_mem_cons.mpr ⟨lw_p86, List.forall_mem_cons.mpr ⟨lw_p87, List.forall_mem_cons.mpr ⟨lw_p88, fun _ h => absurd h List.not_mem_nil⟩⟩⟩⟩⟩⟩⟩⟩⟩
def lw_privs : List (MethodName × Nat) := lw_privs_1 ++ (lw_privs_2 ++ (lw_privs_3 ++ (lw_privs_4 ++ (lw_privs_5 ++ (lw_privs_6)))))
def lw_tbl : List Cond := k2_sels lw_privs ++ tables_1
theorem lw_privs_ok : ∀ q ∈ lw_privs, lw_okq q := by
  show ∀ q ∈ lw_privs_1 ++ (lw_privs_2 ++ (lw_privs_3 ++ (lw_privs_4 ++ (lw_privs_5 ++ (lw_privs_6))))), lw_okq q
  exact List.forall_mem_append.mpr ⟨lw_r1, List.forall_mem_append.mpr ⟨lw_r2, List.forall_mem_append.mpr ⟨lw_r3, List.forall_mem_append.mpr ⟨lw_r4, List.forall_mem_append.mpr ⟨lw_r5, lw_r6⟩⟩⟩⟩⟩
-- classes and their fields
def RX0 : String := "RingedLights$Crossing"
def TX0 : u_T := fun k => match k with
  | 0 => ("RingedLights$Crossing", "plan", "LRingedLights$Plan;", true)
  | 1 => ("RingedLights$Crossing", "ring0", "LRingedLights$Ring;", true)
  | 2 => ("RingedLights$Crossing", "ring1", "LRingedLights$Ring;", true)
  | 3 => ("RingedLights$Crossing", "log", "LRingedLights$Log;", true)
  | 4 => ("RingedLights$Crossing", "queues", "[I", true)
  | 5 => ("RingedLights$Crossing", "letGo", "[I", true)
  | 6 => ("RingedLights$Crossing", "queued", "I", false)
  | 7 => ("RingedLights$Crossing", "calls", "I", false)
  | 8 => ("RingedLights$Crossing", "footCalls", "I", false)
  | 9 => ("RingedLights$Crossing", "greenCalls", "I", false)
  | 10 => ("RingedLights$Crossing", "stuck", "I", false)
  | 11 => ("RingedLights$Crossing", "wanted", "I", false)
  | 12 => ("RingedLights$Crossing", "latestTick", "I", false)
  | 13 => ("RingedLights$Crossing", "clockAt", "I", false)
  | 14 => ("RingedLights$Crossing", "waited", "I", false)
  | 15 => ("RingedLights$Crossing", "flash", "Z", false)
  | 16 => ("RingedLights$Crossing", "begun", "I", false)
  | 17 => ("RingedLights$Crossing", "stage", "I", false)
  | _ => ("RingedLights$Crossing", "stageTicks", "I", false)
def tyX0 : Nat → FieldType := fun k => match k with
  | 0 => .object "RingedLights$Plan"
  | 1 => .object "RingedLights$Ring"
  | 2 => .object "RingedLights$Ring"
  | 3 => .object "RingedLights$Log"
  | 4 => .array .int
  | 5 => .array .int
  | 6 => .int
  | 7 => .int
  | 8 => .int
  | 9 => .int
  | 10 => .int
  | 11 => .int
  | 12 => .int
  | 13 => .int
  | 14 => .int
  | 15 => .boolean
  | 16 => .int
  | 17 => .int
  | _ => .int
theorem nmX0 : ∀ a, a < 19 → ∀ b, b < 19 → a ≠ b → (TX0 a).2.1 ≠ (TX0 b).2.1 := by decide +kernel
theorem tyX0_ok : ∀ k, k < 19 → parseFieldDescriptor (TX0 k).2.2.1 = some (tyX0 k) := by decide +kernel
def RX1 : String := "RingedLights$Log"
def TX1 : u_T := fun k => match k with
  | 0 => ("RingedLights$Log", "kinds", "[I", true)
  | 1 => ("RingedLights$Log", "ticks", "[I", true)
  | 2 => ("RingedLights$Log", "whiches", "[I", true)
  | 3 => ("RingedLights$Log", "noted", "I", false)
  | _ => ("RingedLights$Log", "following", "I", false)
def tyX1 : Nat → FieldType := fun k => match k with
  | 0 => .array .int
  | 1 => .array .int
  | 2 => .array .int
  | 3 => .int
  | _ => .int
theorem nmX1 : ∀ a, a < 5 → ∀ b, b < 5 → a ≠ b → (TX1 a).2.1 ≠ (TX1 b).2.1 := by decide +kernel
theorem tyX1_ok : ∀ k, k < 5 → parseFieldDescriptor (TX1 k).2.2.1 = some (tyX1 k) := by decide +kernel
def RX2 : String := "RingedLights$Plan"
def TX2 : u_T := fun k => match k with
  | 0 => ("RingedLights$Plan", "phases", "I", false)
  | 1 => ("RingedLights$Plan", "cycle", "I", false)
  | 2 => ("RingedLights$Plan", "offset", "I", false)
  | 3 => ("RingedLights$Plan", "ringOf", "[I", true)
  | 4 => ("RingedLights$Plan", "sideOf", "[I", true)
  | 5 => ("RingedLights$Plan", "foes", "[I", true)
  | 6 => ("RingedLights$Plan", "marks", "[I", true)
  | 7 => ("RingedLights$Plan", "breaks", "[I", true)
  | 8 => ("RingedLights$Plan", "parts", "[I", true)
  | 9 => ("RingedLights$Plan", "recalled", "I", false)
  | 10 => ("RingedLights$Plan", "footRecalled", "I", false)
  | _ => ("RingedLights$Plan", "walked", "I", false)
def tyX2 : Nat → FieldType := fun k => match k with
  | 0 => .int
  | 1 => .int
  | 2 => .int
  | 3 => .array .int
  | 4 => .array .int
  | 5 => .array .int
  | 6 => .array .int
  | 7 => .array .int
  | 8 => .array .int
  | 9 => .int
  | 10 => .int
  | _ => .int
theorem nmX2 : ∀ a, a < 12 → ∀ b, b < 12 → a ≠ b → (TX2 a).2.1 ≠ (TX2 b).2.1 := by decide +kernel
theorem tyX2_ok : ∀ k, k < 12 → parseFieldDescriptor (TX2 k).2.2.1 = some (tyX2 k) := by decide +kernel
def RX3 : String := "RingedLights$Reader"
def TX3 : u_T := fun k => match k with
  | 0 => ("RingedLights$Reader", "text", "[B", true)
  | 1 => ("RingedLights$Reader", "plan", "LRingedLights$Plan;", true)
  | 2 => ("RingedLights$Reader", "end", "I", false)
  | 3 => ("RingedLights$Reader", "place", "I", false)
  | 4 => ("RingedLights$Reader", "start", "I", false)
  | 5 => ("RingedLights$Reader", "kind", "I", false)
  | 6 => ("RingedLights$Reader", "number", "I", false)
  | 7 => ("RingedLights$Reader", "lines", "I", false)
  | 8 => ("RingedLights$Reader", "told", "I", false)
  | 9 => ("RingedLights$Reader", "fault", "I", false)
  | 10 => ("RingedLights$Reader", "faultPlace", "I", false)
  | _ => ("RingedLights$Reader", "faultLine", "I", false)
def tyX3 : Nat → FieldType := fun k => match k with
  | 0 => .array .byte
  | 1 => .object "RingedLights$Plan"
  | 2 => .int
  | 3 => .int
  | 4 => .int
  | 5 => .int
  | 6 => .int
  | 7 => .int
  | 8 => .int
  | 9 => .int
  | 10 => .int
  | _ => .int
theorem nmX3 : ∀ a, a < 12 → ∀ b, b < 12 → a ≠ b → (TX3 a).2.1 ≠ (TX3 b).2.1 := by decide +kernel
theorem tyX3_ok : ∀ k, k < 12 → parseFieldDescriptor (TX3 k).2.2.1 = some (tyX3 k) := by decide +kernel
def RX4 : String := "RingedLights$Ring"
def TX4 : u_T := fun k => match k with
  | 0 => ("RingedLights$Ring", "number", "I", true)
  | 1 => ("RingedLights$Ring", "at", "I", false)
  | 2 => ("RingedLights$Ring", "lamp", "I", false)
  | 3 => ("RingedLights$Ring", "age", "I", false)
  | 4 => ("RingedLights$Ring", "to", "I", false)
  | 5 => ("RingedLights$Ring", "gap", "I", false)
  | 6 => ("RingedLights$Ring", "pressed", "I", false)
  | 7 => ("RingedLights$Ring", "walking", "I", false)
  | _ => ("RingedLights$Ring", "halted", "I", false)
def tyX4 : Nat → FieldType := fun k => match k with
  | 0 => .int
  | 1 => .int
  | 2 => .int
  | 3 => .int
  | 4 => .int
  | 5 => .int
  | 6 => .int
  | 7 => .int
  | _ => .int
theorem nmX4 : ∀ a, a < 9 → ∀ b, b < 9 → a ≠ b → (TX4 a).2.1 ≠ (TX4 b).2.1 := by decide +kernel
theorem tyX4_ok : ∀ k, k < 9 → parseFieldDescriptor (TX4 k).2.2.1 = some (tyX4 k) := by decide +kernel
def RX5 : String := "RingedLights"
def TX5 : u_T := fun k => match k with
  | 0 => ("RingedLights", "tape", "[B", true)
  | 1 => ("RingedLights", "reader", "LRingedLights$Reader;", true)
  | 2 => ("RingedLights", "now", "LRingedLights$Crossing;", true)
  | 3 => ("RingedLights", "spare", "LRingedLights$Crossing;", true)
  | 4 => ("RingedLights", "firstKept", "LRingedLights$Crossing;", true)
  | 5 => ("RingedLights", "secondKept", "LRingedLights$Crossing;", true)
  | 6 => ("RingedLights", "thirdKept", "LRingedLights$Crossing;", true)
  | 7 => ("RingedLights", "kept", "I", false)
  | 8 => ("RingedLights", "taped", "I", false)
  | 9 => ("RingedLights", "everRead", "Z", false)
  | _ => ("RingedLights", "status", "I", false)
def tyX5 : Nat → FieldType := fun k => match k with
  | 0 => .array .byte
  | 1 => .object "RingedLights$Reader"
  | 2 => .object "RingedLights$Crossing"
  | 3 => .object "RingedLights$Crossing"
  | 4 => .object "RingedLights$Crossing"
  | 5 => .object "RingedLights$Crossing"
  | 6 => .object "RingedLights$Crossing"
  | 7 => .int
  | 8 => .int
  | 9 => .boolean
  | _ => .int
theorem nmX5 : ∀ a, a < 11 → ∀ b, b < 11 → a ≠ b → (TX5 a).2.1 ≠ (TX5 b).2.1 := by decide +kernel
theorem tyX5_ok : ∀ k, k < 11 → parseFieldDescriptor (TX5 k).2.2.1 = some (tyX5 k) := by decide +kernel
def RX6 : String := "RingedLightsModel"
def TX6 : u_T := fun k => match k with
  | 0 => ("RingedLightsModel", "all", "[I", true)
  | 1 => ("RingedLightsModel", "status", "I", false)
  | 2 => ("RingedLightsModel", "marks", "I", false)
  | 3 => ("RingedLightsModel", "drawn", "I", false)
  | 4 => ("RingedLightsModel", "letGo", "I", false)
  | 5 => ("RingedLightsModel", "isGoing", "Z", false)
  | 6 => ("RingedLightsModel", "tape", "[B", true)
  | 7 => ("RingedLightsModel", "text", "[B", true)
  | 8 => ("RingedLightsModel", "taped", "I", false)
  | 9 => ("RingedLightsModel", "size", "I", false)
  | 10 => ("RingedLightsModel", "token", "I", false)
  | 11 => ("RingedLightsModel", "from", "I", false)
  | 12 => ("RingedLightsModel", "end", "I", false)
  | 13 => ("RingedLightsModel", "value", "I", false)
  | 14 => ("RingedLightsModel", "faults", "I", false)
  | 15 => ("RingedLightsModel", "faultPlace", "I", false)
  | 16 => ("RingedLightsModel", "faultLine", "I", false)
  | 17 => ("RingedLightsModel", "faultKind", "I", false)
  | 18 => ("RingedLightsModel", "lines", "I", false)
  | 19 => ("RingedLightsModel", "told", "I", false)
  | _ => ("RingedLightsModel", "taken", "I", false)
def tyX6 : Nat → FieldType := fun k => match k with
  | 0 => .array .int
  | 1 => .int
  | 2 => .int
  | 3 => .int
  | 4 => .int
  | 5 => .boolean
  | 6 => .array .byte
  | 7 => .array .byte
  | 8 => .int
  | 9 => .int
  | 10 => .int
  | 11 => .int
  | 12 => .int
  | 13 => .int
  | 14 => .int
  | 15 => .int
  | 16 => .int
  | 17 => .int
  | 18 => .int
  | 19 => .int
  | _ => .int
theorem nmX6 : ∀ a, a < 21 → ∀ b, b < 21 → a ≠ b → (TX6 a).2.1 ≠ (TX6 b).2.1 := by decide +kernel
theorem tyX6_ok : ∀ k, k < 21 → parseFieldDescriptor (TX6 k).2.2.1 = some (tyX6 k) := by decide +kernel
def RJ9 : String := "java/lang/Math"
def RJ0 : String := "java/lang/String"
def RJ1 : String := "java/lang/StringLatin1"
def RJ2 : String := "java/lang/StringUTF16"
def RJ10 : String := "java/lang/System"
def RJ3 : String := "jdk/internal/util/Preconditions"
def RL : String := "RingedLightsLaw"
end
section
/-! The small machine: the instructions that these classes use, over a picture of the cells: cell (i, j) is part j of owner i, and holds ints by slots -/
abbrev mV : Type := Int32 ⊕ (Int64 ⊕ (Nat × Nat))
abbrev mC : Type := Nat → Nat → Int32
abbrev mG : Type := Nat → mC
abbrev mR : Type := Option (Option mV × mG)
abbrev mT : Type := Nat × (Instr × Nat) × (Nat × Nat × Nat) × List (Int32 × Nat)
abbrev mL : Type := List (Option mV)
abbrev mX : Type := (Nat → Int32) × Nat
abbrev mK : Type := List mT → mL → List mV → mG → mR
abbrev mi (x : Int32) : mV := .inl x
abbrev ml (x : Int64) : mV := .inr (.inl x)
abbrev mr (i j : Nat) : mV := .inr (.inr (i, j))
def mP (c : mC) (j k : Nat) (v : Int32) : mC := fun j' k' => if j' = j ∧ k' = k then v else c j' k'
def mU (g : mG) (i : Nat) (c : mC) : mG := fun i' => if i' = i then c else g i'
def mA (c : mC) (j : Nat) (f : Nat → Int32) : mC := fun j' => if j' = j then f else c j'
/-- the class of a part that is an object; its fields that are references; those that are booleans -/
def mCls (j : Nat) : Option Nat := match j with
  | 0 => some 0 | 1 => some 2 | 8 => some 4 | 9 => some 4 | 10 => some 1 | 16 => some 3 | 18 => some 5 | 20 => some 6
  | _ => none
def mNF (ci : Nat) : Nat := match ci with
  | 0 => 19 | 1 => 5 | 2 => 12 | 3 => 12 | 4 => 9 | 5 => 11 | 6 => 21
  | _ => 0
def mRef (i j k : Nat) : Option (Nat × Nat) := match j with
  | 0 => (match k with | 0 => some (i, 1) | 1 => some (i, 8) | 2 => some (i, 9) | 3 => some (i, 10) | 4 => some (i, 14) | 5 => some (i, 15) | _ => none)
  | 1 => (match k with | 3 => some (i, 2) | 4 => some (i, 3) | 5 => some (i, 4) | 6 => some (i, 5) | 7 => some (i, 6) | 8 => some (i, 7) | _ => none)
  | 10 => (match k with | 0 => some (i, 11) | 1 => some (i, 12) | 2 => some (i, 13) | _ => none)
  | 16 => (match k with | 0 => some (6, 19) | 1 => some (i, 1) | _ => none)
  | 18 => (match k with | 0 => some (6, 19) | 1 => some (5, 16) | 2 => some (0, 0) | 3 => some (1, 0) | 4 => some (2, 0) | 5 => some (3, 0) | 6 => some (4, 0) | _ => none)
  | 20 => (match k with | 0 => some (7, 21) | 6 => some (7, 22) | 7 => some (7, 23) | _ => none)
  | _ => none
def mBoF (j k : Nat) : Bool := match j with
  | 0 => Nat.beq k 15
  | 18 => Nat.beq k 9
  | 20 => Nat.beq k 5
  | _ => false
/-- the constants: the strings' signs, the three rows of the marks; the script -/
def mSL : List Nat := [5, 5, 6, 5, 5, 5, 3, 3, 4, 3, 6, 5, 4, 4, 6, 5, 4, 96]
def mSB : List (List Int32) := [[112, 104, 97, 115, 101], [99, 121, 99, 108, 101], [111, 102, 102, 115, 101, 116], [98, 114, 101, 97, 107], [116, 114, 97, 99, 107], [100, 119, 101, 108, 108], [99, 117, 116], [109, 105, 110], [112, 97, 115, 115], [109, 97, 120], [121, 101, 108, 108, 111, 119], [99, 108, 101, 97, 114], [119, 97, 108, 107], [104, 97, 108, 116], [114, 101, 99, 97, 108, 108], [115, 112, 108, 105, 116], [114, 97, 116, 101], [32, 109, 105, 110, 32, 112, 97, 115, 115, 32, 109, 97, 120, 32, 121, 101, 108, 108, 111, 119, 32, 99, 108, 101, 97, 114, 32, 119, 97, 108, 107, 32, 104, 97, 108, 116, 32, 114, 101, 99, 97, 108, 108, 32, 115, 112, 108, 105, 116, 32, 114, 97, 116, 101, 32, 112, 104, 97, 115, 101, 32, 99, 121, 99, 108, 101, 32, 111, 102, 102, 115, 101, 116, 32, 98, 114, 101, 97, 107, 32, 116, 114, 97, 99, 107, 32, 100, 119, 101, 108, 108, 32, 99, 117, 116, 32]]
def mLeast : List Int32 := [1, 1, 1, 1, 0, 0, 0, 0, 0, 0]
def mMost : List Int32 := [30, 9, 60, 5, 4, 20, 20, 3, 60, 30]
def mUsual : List Int32 := [5, 2, 20, 3, 1, 0, 0, 0, 0, 0]
/-- the length of a part that is an array; whether of bytes -/
def mArr (X : mX) (i j : Nat) : Option (Nat × Bool) := match j with
  | 2 => some (8, false) | 3 => some (8, false) | 4 => some (8, false) | 5 => some (80, false) | 6 => some (10, false) | 7 => some (4, false)
  | 11 => some (32, false) | 12 => some (32, false) | 13 => some (32, false) | 14 => some (8, false) | 15 => some (8, false)
  | 19 => some (700, true) | 21 => some (1440, false) | 22 => some (700, true) | 23 => some (700, true)
  | 25 => some (mSL.getD i 0, true) | 26 => some (X.2, false) | 27 => some (10, false) | 28 => some (10, false) | 29 => some (10, false)
  | _ => none
def mRO (X : mX) (i j k : Nat) : Int32 := match j with
  | 25 => (mSB.getD i []).getD k 0
  | 26 => X.1 k
  | 27 => mLeast.getD k 0
  | 28 => mMost.getD k 0
  | 29 => mUsual.getD k 0
  | _ => 0
def mRd (X : mX) (g : mG) (i j k : Nat) : Int32 := match Nat.ble j 23 with
  | true => g i j k
  | false => mRO X i j k
def mDrop : List mT → Nat → List mT
  | [], _ => []
  | x :: nx, t => match Nat.beq x.1 t with
    | true => x :: nx
    | false => mDrop nx t
section MACH
def mLdI (n : Nat) (k : mK) (nx : List mT) (L : mL) (st : List mV) (g : mG) : mR := match L[n]? with
  | some (some (.inl v)) => k nx L (.inl v :: st) g
  | _ => none
def mLdL (n : Nat) (k : mK) (nx : List mT) (L : mL) (st : List mV) (g : mG) : mR := match L[n]? with
  | some (some (.inr (.inl v))) => k nx L (.inr (.inl v) :: st) g
  | _ => none
def mLdR (n : Nat) (k : mK) (nx : List mT) (L : mL) (st : List mV) (g : mG) : mR := match L[n]? with
  | some (some (.inr (.inr (i, j)))) => (match Nat.beq j 99 with
    | true => none
    | false => k nx L (.inr (.inr (i, j)) :: st) g)
  | _ => none
def mStI (n : Nat) (k : mK) (nx : List mT) (L : mL) (st : List mV) (g : mG) : mR := match st with
  | .inl v :: r => k nx (L.set n (some (.inl v))) r g
  | _ => none
def mStR (n : Nat) (k : mK) (nx : List mT) (L : mL) (st : List mV) (g : mG) : mR := match st with
  | .inr (.inr (i, j)) :: r => (match Nat.beq j 99 with
    | true => none
    | false => k nx (L.set n (some (.inr (.inr (i, j))))) r g)
  | _ => none
def mStL (n : Nat) (k : mK) (nx : List mT) (L : mL) (st : List mV) (g : mG) : mR := match st with
  | .inr (.inl v) :: r => k nx ((L.set n (some (.inr (.inl v)))).set (n + 1) none) r g
  | _ => none
def mInc (n : Nat) (d : Int) (k : mK) (nx : List mT) (L : mL) (st : List mV) (g : mG) : mR := match L[n]? with
  | some (some (.inl x)) => k nx (L.set n (some (.inl (x + Int32.ofInt d)))) st g
  | _ => none
def mB2 (f : Int32 → Int32 → Int32) (k : mK) (nx : List mT) (L : mL) (st : List mV) (g : mG) : mR := match st with
  | .inl y :: .inl x :: r => k nx L (.inl (f x y) :: r) g
  | _ => none
def mB2n (f : Int32 → Int32 → Int32) (k : mK) (nx : List mT) (L : mL) (st : List mV) (g : mG) : mR := match st with
  | .inl y :: .inl x :: r => if y = 0 then none else k nx L (.inl (f x y) :: r) g
  | _ => none
def mJ2 (f : Int64 → Int64 → Int64) (k : mK) (nx : List mT) (L : mL) (st : List mV) (g : mG) : mR := match st with
  | .inr (.inl y) :: .inr (.inl x) :: r => k nx L (.inr (.inl (f x y)) :: r) g
  | _ => none
def mJ2n (f : Int64 → Int64 → Int64) (k : mK) (nx : List mT) (L : mL) (st : List mV) (g : mG) : mR := match st with
  | .inr (.inl y) :: .inr (.inl x) :: r => if y = 0 then none else k nx L (.inr (.inl (f x y)) :: r) g
  | _ => none
def mLcmp (k : mK) (nx : List mT) (L : mL) (st : List mV) (g : mG) : mR := match st with
  | .inr (.inl y) :: .inr (.inl x) :: r => k nx L (.inl (lg_cmp x y) :: r) g
  | _ => none
def mI2l (k : mK) (nx : List mT) (L : mL) (st : List mV) (g : mG) : mR := match st with
  | .inl x :: r => k nx L (.inr (.inl x.toInt64) :: r) g
  | _ => none
def mL2i (k : mK) (nx : List mT) (L : mL) (st : List mV) (g : mG) : mR := match st with
  | .inr (.inl x) :: r => k nx L (.inl x.toInt32 :: r) g
  | _ => none
def mI2b (k : mK) (nx : List mT) (L : mL) (st : List mV) (g : mG) : mR := match st with
  | .inl x :: r => k nx L (.inl x.toInt8.toInt32 :: r) g
  | _ => none
def mI2c (k : mK) (nx : List mT) (L : mL) (st : List mV) (g : mG) : mR := match st with
  | .inl x :: r => k nx L (.inl (x.toUInt32 % 65536).toInt32 :: r) g
  | _ => none
def mDup (k : mK) (nx : List mT) (L : mL) (st : List mV) (g : mG) : mR := match st with
  | .inl x :: r => k nx L (.inl x :: .inl x :: r) g
  | .inr (.inr x) :: r => k nx L (.inr (.inr x) :: .inr (.inr x) :: r) g
  | _ => none
def mDup2 (k : mK) (nx : List mT) (L : mL) (st : List mV) (g : mG) : mR := match st with
  | .inl y :: .inr (.inr x) :: r => k nx L (.inl y :: .inr (.inr x) :: .inl y :: .inr (.inr x) :: r) g
  | _ => none
def mPop (k : mK) (nx : List mT) (L : mL) (st : List mV) (g : mG) : mR := match st with
  | .inl _ :: r => k nx L r g
  | _ => none
def mIf1 (cd : ClassFile.Cond) (tg : List mT) (k : mK) (nx : List mT) (L : mL) (st : List mV) (g : mG) : mR := match st with
  | .inl x :: r => (match cd with
    | .eq => if x = 0 then k tg L r g else k nx L r g
    | .ne => if x = 0 then k nx L r g else k tg L r g
    | .lt => if x < 0 then k tg L r g else k nx L r g
    | .ge => if 0 ≤ x then k tg L r g else k nx L r g
    | .gt => if 0 < x then k tg L r g else k nx L r g
    | .le => if x ≤ 0 then k tg L r g else k nx L r g)
  | _ => none
def mIf2 (cd : ClassFile.Cond) (tg : List mT) (k : mK) (nx : List mT) (L : mL) (st : List mV) (g : mG) : mR := match st with
  | .inl y :: .inl x :: r => (match cd with
    | .eq => if x = y then k tg L r g else k nx L r g
    | .ne => if x = y then k nx L r g else k tg L r g
    | .lt => if x < y then k tg L r g else k nx L r g
    | .ge => if y ≤ x then k tg L r g else k nx L r g
    | .gt => if y < x then k tg L r g else k nx L r g
    | .le => if x ≤ y then k tg L r g else k nx L r g)
  | _ => none
def mSwG (full : List mT) (dflt : Nat) (k : mK) (L : mL) (r : List mV) (g : mG) (x : Int32) : List (Int32 × Nat) → mR
  | [] => k (mDrop full dflt) L r g
  | q :: sw => if x = q.1 then k (mDrop full q.2) L r g else mSwG full dflt k L r g x sw
def mSw (full : List mT) (dflt : Nat) (sw : List (Int32 × Nat)) (k : mK) (L : mL) (st : List mV) (g : mG) : mR := match st with
  | .inl x :: r => mSwG full dflt k L r g x sw
  | _ => none
def mGet (a b : Nat) (k : mK) (nx : List mT) (L : mL) (st : List mV) (g : mG) : mR := match st with
  | .inr (.inr (i, j)) :: r => (match Nat.beq a 7 with
    | true => (match Nat.beq j 24 with
      | true => (match b with
        | 0 => k nx L (.inr (.inr (i, 25)) :: r) g
        | _ => k nx L (.inl 0 :: r) g)
      | false => none)
    | false => (match mCls j with
      | some ci => (match Nat.beq ci a with
        | true => (match mRef i j b with
          | some q => k nx L (.inr (.inr q) :: r) g
          | none => (match mBoF j b with
            | true => k nx L (.inl (g i j b &&& 1) :: r) g
            | false => k nx L (.inl (g i j b) :: r) g))
        | false => none)
      | none => none))
  | _ => none
def mPut (a b : Nat) (k : mK) (nx : List mT) (L : mL) (st : List mV) (g : mG) : mR := match st with
  | .inl v :: .inr (.inr (i, j)) :: r => (match mCls j with
      | some ci => (match Nat.beq ci a with
        | true => (match mRef i j b with
          | some _ => none
          | none => (match mBoF j b with
            | true => if v &&& 1 = v then k nx L r (mU g i (mP (g i) j b v)) else none
            | false => k nx L r (mU g i (mP (g i) j b v))))
        | false => none)
      | none => none)
  | _ => none
def mGetS (a b : Nat) (k : mK) (nx : List mT) (L : mL) (st : List mV) (g : mG) : mR := match a with
  | 0 => k nx L (.inr (.inr (9, b)) :: st) g
  | 1 => k nx L (.inl 1 :: st) g
  | 2 => k nx L (.inr (.inr (99, 99)) :: st) g
  | _ => none
def mAld (X : mX) (bt : Bool) (k : mK) (nx : List mT) (L : mL) (st : List mV) (g : mG) : mR := match st with
  | .inl ix :: .inr (.inr (i, j)) :: r => (match mArr X i j with
    | some (n, b) => if b = bt then (if ix < 0 ∨ n ≤ ix.toNatClampNeg then none else k nx L (.inl (mRd X g i j ix.toNatClampNeg) :: r) g) else none
    | none => none)
  | _ => none
def mAst (X : mX) (bt : Bool) (k : mK) (nx : List mT) (L : mL) (st : List mV) (g : mG) : mR := match st with
  | .inl v :: .inl ix :: .inr (.inr (i, j)) :: r => (match mArr X i j with
    | some (n, b) => if b = bt then (if ix < 0 ∨ n ≤ ix.toNatClampNeg then none else (match Nat.ble j 23 with
      | true => k nx L r (mU g i (mP (g i) j ix.toNatClampNeg (if bt then v.toInt8.toInt32 else v)))
      | false => none)) else none
    | none => none)
  | _ => none
def mLen (X : mX) (k : mK) (nx : List mT) (L : mL) (st : List mV) (g : mG) : mR := match st with
  | .inr (.inr (i, j)) :: r => (match mArr X i j with
    | some (n, _) => k nx L (.inl (Int32.ofNat n) :: r) g
    | none => none)
  | _ => none
def mCopy (X : mX) (k : mK) (nx : List mT) (L : mL) (st : List mV) (g : mG) : mR := match st with
  | .inl n :: .inl dp :: .inr (.inr (i2, j2)) :: .inl sp :: .inr (.inr (i1, j1)) :: r => (match mArr X i1 j1, mArr X i2 j2 with
    | some (n1, false), some (n2, false) => if sp = 0 ∧ dp = 0 ∧ ¬ n < 0 ∧ n.toNatClampNeg ≤ n1 ∧ n.toNatClampNeg ≤ n2 ∧ j1 ≤ 23 ∧ j2 ≤ 23 ∧ r.length ≤ 4 then
        k nx L r (mU g i2 (mA (g i2) j2 (fun q => if q < n.toNatClampNeg then g i1 j1 q else g i2 j2 q))) else none
    | _, _ => none)
  | _ => none
def mNoL (v : mV) : Bool := match v with
  | .inr (.inl _) => false
  | _ => true
def mArgOk (ci : Nat) (vs : List mV) : Bool := vs.all mNoL && (match ci with
  | 99 => true
  | _ => (match vs with
    | .inr (.inr (_, j)) :: _ => (match Nat.beq ci 7 with
      | true => Nat.beq j 24
      | false => (match mCls j with
        | some c => Nat.beq c ci
        | none => false))
    | _ => false))
def mAns (k : mK) (nx : List mT) (L : mL) (st : List mV) : mR → mR
  | none => none
  | some (none, g) => k nx L st g
  | some (some v, g) => k nx L (v :: st) g
/-- a call: a its number, b how many arguments (the receiver too), ci the class that the receiver must have (99: static) -/
def mInv (call : Nat → List mV → mG → mR) (a b ci : Nat) (k : mK) (nx : List mT) (L : mL) (st : List mV) (g : mG) : mR :=
  match mArgOk ci (st.take b).reverse && (Nat.ble (st.drop b).length 4 && Nat.ble b st.length) with
  | true => mAns k nx L (st.drop b) (call a (st.take b).reverse g)
  | false => none
def mRetI (rt : Nat) (st : List mV) (g : mG) : mR := match st with
  | [.inl v] => (match rt with
    | 1 => some (some (.inl v), g)
    | 2 => if v &&& 1 = v then some (some (.inl v), g) else none
    | 3 => if v.toUInt32.toUInt16.toUInt32.toInt32 = v then some (some (.inl v), g) else none
    | 4 => if v.toInt8.toInt32 = v then some (some (.inl v), g) else none
    | _ => none)
  | _ => none
def mRetR (st : List mV) (g : mG) : mR := match st with
  | [.inr (.inr (i, j))] => (match Nat.beq j 99 with
    | true => none
    | false => some (some (.inr (.inr (i, j))), g))
  | _ => none
def mRetV (st : List mV) (g : mG) : mR := match st with
  | [] => some (none, g)
  | _ => none
/-- at a loop's head: what its body alone uses is let go -/
def mKl (b d : Nat) (L : mL) : mL := match b with
  | 0 => L
  | _ => L.take d ++ List.replicate (L.length - d) none
def mIns (X : mX) (call : Nat → List mV → mG → mR) (rt : Nat) (full : List mT) (k : mK) (ins : Instr) (a b d : Nat) (sw : List (Int32 × Nat)) (nx : List mT) (L : mL) (st : List mV) (g : mG) : mR := match ins with
  | .iconst n => k nx L (.inl (Int32.ofInt n) :: st) g
  | .bipush n => k nx L (.inl (Int8.ofInt n).toInt32 :: st) g
  | .sipush n => k nx L (.inl (Int16.ofInt n).toInt32 :: st) g
  | .ldc2_w _ => k nx L (.inr (.inl (Int64.ofNat a)) :: st) g
  | .ldc _ => k nx L (.inr (.inr (a, 24)) :: st) g
  | .iload n => mLdI n k nx (mKl b d L) st g
  | .iload_n n => mLdI n.val k nx (mKl b d L) st g
  | .aload n => mLdR n k nx (mKl b d L) st g
  | .aload_n n => mLdR n.val k nx (mKl b d L) st g
  | .lload n => mLdL n k nx (mKl b d L) st g
  | .lload_n n => mLdL n.val k nx (mKl b d L) st g
  | .istore n => mStI n k nx L st g
  | .istore_n n => mStI n.val k nx L st g
  | .astore n => mStR n k nx L st g
  | .astore_n n => mStR n.val k nx L st g
  | .lstore n => mStL n k nx L st g
  | .lstore_n n => mStL n.val k nx L st g
  | .iinc n q => mInc n q k nx L st g
  | .iadd => mB2 (fun x y => x + y) k nx L st g
  | .isub => mB2 (fun x y => x - y) k nx L st g
  | .imul => mB2 (fun x y => x * y) k nx L st g
  | .iand => mB2 (fun x y => x &&& y) k nx L st g
  | .ior => mB2 (fun x y => x ||| y) k nx L st g
  | .ixor => mB2 (fun x y => x ^^^ y) k nx L st g
  | .ishl => mB2 (fun x y => x <<< (y &&& 31)) k nx L st g
  | .ishr => mB2 (fun x y => x >>> (y &&& 31)) k nx L st g
  | .idiv => mB2n (fun x y => x / y) k nx L st g
  | .irem => mB2n (fun x y => x - x / y * y) k nx L st g
  | .ladd => mJ2 (fun x y => x + y) k nx L st g
  | .lmul => mJ2 (fun x y => x * y) k nx L st g
  | .ldiv => mJ2n (fun x y => x / y) k nx L st g
  | .lrem => mJ2n (fun x y => x - x / y * y) k nx L st g
  | .lcmp => mLcmp k nx L st g
  | .i2l => mI2l k nx L st g
  | .l2i => mL2i k nx L st g
  | .i2b => mI2b k nx L st g
  | .i2c => mI2c k nx L st g
  | .dup => mDup k nx L st g
  | .dup2 => mDup2 k nx L st g
  | .pop => mPop k nx L st g
  | .ifCond c _ => mIf1 c (mDrop full a) k nx L st g
  | .if_icmp c _ => mIf2 c (mDrop full a) k nx L st g
  | .goto _ => k (mDrop full a) L st g
  | .tableswitch _ _ _ _ => mSw full a sw k L st g
  | .lookupswitch _ _ => mSw full a sw k L st g
  | .getfield _ => mGet a b k nx L st g
  | .putfield _ => mPut a b k nx L st g
  | .getstatic _ => mGetS a b k nx L st g
  | .iaload => mAld X false k nx L st g
  | .baload => mAld X true k nx L st g
  | .iastore => mAst X false k nx L st g
  | .bastore => mAst X true k nx L st g
  | .arraylength => mLen X k nx L st g
  | .invokevirtual _ => mInv call a b d k nx L st g
  | .invokestatic _ => (match Nat.beq a 999 with
    | true => mCopy X k nx L st g
    | false => (match Nat.beq a 998 with
      | true => none
      | false => mInv call a b d k nx L st g))
  | .ireturn => mRetI rt st g
  | .areturn => (match Nat.beq rt 5 with
    | true => mRetR st g
    | false => none)
  | .return_ => (match Nat.beq rt 0 with
    | true => mRetV st g
    | false => none)
  | _ => none
def mStep (X : mX) (call : Nat → List mV → mG → mR) (rt : Nat) (full : List mT) (k : mK) (cur : List mT) (L : mL) (st : List mV) (g : mG) : mR := match cur with
  | [] => none
  | x :: nx => mIns X call rt full k x.2.1.1 x.2.2.1.1 x.2.2.1.2.1 x.2.2.1.2.2 x.2.2.2 nx L st g
def mRun (X : mX) (call : Nat → List mV → mG → mR) (rt : Nat) (full : List mT) : Nat → mK
  | 0 => fun _ _ _ _ => none
  | n + 1 => mStep X call rt full (mRun X call rt full n)
end MACH
end
section
/-! The small machine's picture over the heap -/
abbrev mCLS : List vw_C := [(RX0, TX0, 19), (RX1, TX1, 5), (RX2, TX2, 12), (RX3, TX3, 12), (RX4, TX4, 9), (RX5, TX5, 11), (RX6, TX6, 21)]
def mCL : List (Nat × Nat) := (List.range 5).flatMap (fun i => (List.range 16).map (fun j => (i, j))) ++ ([(5, 16), (5, 1), (5, 2), (5, 3), (5, 4), (5, 5), (5, 6), (5, 7), (6, 18), (6, 19), (7, 20), (7, 21), (7, 22), (7, 23)] : List (Nat × Nat))
def mROL : List (Nat × Nat) := (8, 26) :: (9, 27) :: (9, 28) :: (9, 29) :: (99, 99) :: ((List.range 18).map (fun n => (n, 24)) ++ (List.range 18).map (fun n => (n, 25)))
def mIn (q : Nat × Nat) : Prop := q ∈ mCL ∨ q ∈ mROL
def mOv (v : mV) : Prop := match v with
  | .inr (.inr q) => mIn q
  | _ => True
def mOs (st : List mV) : Prop := ∀ v ∈ st, mOv v
def mOl (L : mL) : Prop := ∀ (n : Nat) (v : mV), L[n]? = some (some v) → mOv v
theorem mCL_nd : ∀ a ∈ List.range 94, ∀ b ∈ List.range 94, mCL[a]? = mCL[b]? → a = b := by decide +kernel
theorem mCL_len : mCL.length = 94 := by decide +kernel
theorem mCL_apart {a b : Nat} {q : Nat × Nat} (h1 : mCL[a]? = some q) (h2 : mCL[b]? = some q) : a = b := by
  have l1 : a < 94 := by rw [← mCL_len]; exact (List.getElem?_eq_some_iff.mp h1).1
  have l2 : b < 94 := by rw [← mCL_len]; exact (List.getElem?_eq_some_iff.mp h2).1
  exact mCL_nd a (List.mem_range.mpr l1) b (List.mem_range.mpr l2) (h1.trans h2.symm)
theorem mCL_cls : ∀ q ∈ mCL, ∀ ci, mCls q.2 = some ci → ci < 7 := by
  have h : ∀ q ∈ mCL, (match mCls q.2 with | some ci => decide (ci < 7) | none => true) = true := by decide +kernel
  intro q hq ci hc
  have := h q hq
  rw [hc] at this
  exact of_decide_eq_true this
/-- references lead on to cells that are there -/
theorem mCL_ref : ∀ q ∈ mCL, ∀ k ∈ List.range 21, ∀ r, mRef q.1 q.2 k = some r → r ∈ mCL := by
  have h : ∀ q ∈ mCL, ∀ k ∈ List.range 21, (match mRef q.1 q.2 k with | some r => decide (r ∈ mCL) | none => true) = true := by decide +kernel
  intro q hq k hk r hr
  have := h q hq k hk
  rw [hr] at this
  exact of_decide_eq_true this
theorem mRO_cls : ∀ q ∈ mROL, mCls q.2 = none := by decide +kernel
theorem mIn_obj {i j ci : Nat} (h : mIn (i, j)) (hc : mCls j = some ci) : (i, j) ∈ mCL := by
  rcases h with h | h
  · exact h
  · have q := mRO_cls _ h
    rw [hc] at q; cases q
theorem mRO_arr : ∀ q ∈ mROL, 24 ≤ q.2 := by decide +kernel
theorem mIn_arr {i j : Nat} (h : mIn (i, j)) (hj : j ≤ 23) : (i, j) ∈ mCL := by
  rcases h with h | h
  · exact h
  · have q : 24 ≤ j := mRO_arr _ h
    exact absurd q (by omega)
theorem mCL_99 : ∀ q ∈ mCL, q.1 ≠ 99 ∧ q.2 ≤ 23 := by decide +kernel
section WORLD
variable (ad : Nat → Nat → Nat) (oq : Value) (dC : Nat → ClassId) (dI : Nat → Nat → Nat) (aI aB : ClassId)
def mE (v : mV) : Value := match v with
  | .inl x => .int x
  | .inr (.inl x) => .long x
  | .inr (.inr (i, j)) => match Nat.beq i 99 with
    | true => oq
    | false => .ref (ad i j)
def mFv (g : mG) (i j k : Nat) : Value := match mRef i j k with
  | some r => .ref (ad r.1 r.2)
  | none => match mBoF j k with
    | true => .int (g i j k &&& 1)
    | false => .int (g i j k)
def mEnt (g : mG) (q : Nat × Nat) : va_E := match mCls q.2 with
  | some ci => .inr (ci, (List.range (mNF ci)).map (fun k => mFv ad g q.1 q.2 k))
  | none => match mArr (fun _ => 0, 0) q.1 q.2 with
    | some (n, true) => .inl (aB, n, .inl (g q.1 q.2))
    | some (n, false) => .inl (aI, n, .inl (g q.1 q.2))
    | none => .inl (aI, 0, .inl (g q.1 q.2))
def mWs (g : mG) : va_W := mCL.map (fun q => (ad q.1 q.2, mEnt ad aI aB g q))
/-- the cells that may be changed -/
def mAd (q : Nat) : Prop := ∃ c ∈ mCL, q = ad c.1 c.2
theorem mWs_at {g : mG} {q : Nat × Nat} (h : q ∈ mCL) : ∃ n : Nat, mCL[n]? = some q ∧ (mWs ad aI aB g)[n]? = some (ad q.1 q.2, mEnt ad aI aB g q) := by
  obtain ⟨n, hn⟩ := List.getElem?_of_mem h
  exact ⟨n, hn, by rw [mWs, List.getElem?_map, hn]; rfl⟩
theorem mWs_set {g g' : mG} {q : Nat × Nat} {n : Nat} {x : va_E} (hn : mCL[n]? = some q) (hx : x = mEnt ad aI aB g' q) (h : ∀ r ∈ mCL, r ≠ q → mEnt ad aI aB g' r = mEnt ad aI aB g r) : (mWs ad aI aB g).set n (ad q.1 q.2, x) = mWs ad aI aB g' := by
  subst hx
  apply List.ext_getElem?
  intro k
  rw [List.getElem?_set]
  by_cases hk : n = k
  · subst hk
    have hl : n < (mWs ad aI aB g).length := by rw [mWs, List.length_map]; exact (List.getElem?_eq_some_iff.mp hn).1
    rw [if_pos rfl, if_pos hl, mWs, List.getElem?_map, hn]
    rfl
  · rw [if_neg hk, mWs, mWs, List.getElem?_map, List.getElem?_map]
    cases hc : mCL[k]? with
    | none => rfl
    | some r =>
      have hr : r ≠ q := fun e => hk (mCL_apart hn (e ▸ hc))
      show some (ad r.1 r.2, mEnt ad aI aB g r) = some (ad r.1 r.2, mEnt ad aI aB g' r)
      rw [h r (List.mem_of_getElem? hc) hr]
theorem mEnt_cong {g g' : mG} {r : Nat × Nat} (h : g' r.1 r.2 = g r.1 r.2) : mEnt ad aI aB g' r = mEnt ad aI aB g r := by
  unfold mEnt mFv
  rw [h]
theorem mU_other {g : mG} {i j : Nat} {c : mC} (hc : ∀ j', j' ≠ j → c j' = g i j') {r : Nat × Nat} (hr : r ≠ (i, j)) : mU g i c r.1 r.2 = g r.1 r.2 := by
  unfold mU
  by_cases h1 : r.1 = i
  · rw [if_pos h1, h1]
    exact hc _ (fun e => hr (by cases r; simp_all))
  · rw [if_neg h1]
theorem mP_other (c : mC) (j k : Nat) (v : Int32) (j' : Nat) (h : j' ≠ j) : mP c j k v j' = c j' := by
  funext q
  unfold mP
  rw [if_neg (fun e => h e.1)]
theorem mA_other (c : mC) (j : Nat) (f : Nat → Int32) (j' : Nat) (h : j' ≠ j) : mA c j f j' = c j' := by
  unfold mA
  rw [if_neg h]
theorem mD_of {A : Nat → Prop} {g g' : mG} (h : va_D A (mWs ad aI aB g)) : va_D A (mWs ad aI aB g') := by
  have key : ∀ (g : mG) (k : Nat) (p : Nat × va_E), (mWs ad aI aB g)[k]? = some p → ∃ c, mCL[k]? = some c ∧ p.1 = ad c.1 c.2 := by
    intro g k p hp
    rw [mWs, List.getElem?_map] at hp
    cases hc : mCL[k]? with
    | none => rw [hc] at hp; cases hp
    | some c => rw [hc] at hp; cases hp; exact ⟨c, rfl, rfl⟩
  have back : ∀ (g : mG) (k : Nat) (c : Nat × Nat), mCL[k]? = some c → (mWs ad aI aB g)[k]? = some (ad c.1 c.2, mEnt ad aI aB g c) := by
    intro g k c hc
    rw [mWs, List.getElem?_map, hc]; rfl
  refine ⟨fun a b p q ha hb e => ?_, fun k q hk => ?_⟩
  · obtain ⟨c1, h1, e1⟩ := key _ _ _ ha
    obtain ⟨c2, h2, e2⟩ := key _ _ _ hb
    exact h.1 a b _ _ (back g a c1 h1) (back g b c2 h2) (by show ad c1.1 c1.2 = ad c2.1 c2.2; rw [← e1, ← e2, e])
  · obtain ⟨c1, h1, e1⟩ := key _ _ _ hk
    have := h.2 k _ (back g k c1 h1)
    rw [e1]
    exact this
theorem mAd_D {A : Nat → Prop} {g : mG} (h : va_D A (mWs ad aI aB g)) : va_D (mAd ad) (mWs ad aI aB g) := by
  refine ⟨h.1, fun k q hk => ?_⟩
  rw [mWs, List.getElem?_map] at hk
  cases hc : mCL[k]? with
  | none => rw [hc] at hk; cases hk
  | some c => rw [hc] at hk; cases hk; exact ⟨c, List.mem_of_getElem? hc, rfl⟩
theorem mAd_A {A : Nat → Prop} {g : mG} (h : va_D A (mWs ad aI aB g)) : ∀ q, mAd ad q → A q := by
  rintro q ⟨c, hc, rfl⟩
  obtain ⟨n, h1, h2⟩ := mWs_at ad aI aB (g := g) hc
  exact h.2 n _ h2
/-- the locals -/
def mPr (L : mL) : List (Nat × Value) := (List.range L.length).filterMap (fun n => match L[n]? with
  | some (some v) => some (n, mE ad oq v)
  | _ => none)
def mLS (LL : List Nat) (L : mL) : Prop := ∀ (n : Nat) (x : Int64), L[n]? = some (some (.inr (.inl x))) → n ∈ LL
def mLH (LL : List Nat) (ls : Array Slot) (L : mL) : Prop := lv_has ls L.length (mPr ad oq L) ∧ mLS LL L
theorem mPr_mem {L : mL} {n : Nat} {v : mV} (h : L[n]? = some (some v)) : (n, mE ad oq v) ∈ mPr ad oq L := by
  refine List.mem_filterMap.mpr ⟨n, List.mem_range.mpr (List.getElem?_eq_some_iff.mp h).1, ?_⟩
  rw [h]
theorem mPr_of {L : mL} {q : Nat × Value} (h : q ∈ mPr ad oq L) : ∃ v, L[q.1]? = some (some v) ∧ q.2 = mE ad oq v := by
  obtain ⟨n, -, h2⟩ := List.mem_filterMap.mp h
  split at h2
  next v hv => cases h2; exact ⟨v, hv, rfl⟩
  next => cases h2
theorem mLH_at {LL : List Nat} {ls : Array Slot} {L : mL} (h : mLH ad oq LL ls L) {n : Nat} {v : mV} (hn : L[n]? = some (some v)) : ls[n]? = some (.val (mE ad oq v)) := h.1.2.2 _ (mPr_mem ad oq hn)
theorem mE_cat {v : mV} (hq : oq.category = 1) (h : (mE ad oq v).category = 2) : ∃ x, v = .inr (.inl x) := by
  rcases v with x | x | ⟨i, j⟩
  · cases h
  · exact ⟨x, rfl⟩
  · exfalso
    unfold mE at h
    dsimp only at h
    split at h
    · rw [hq] at h; cases h
    · cases h
theorem mLH_set {LL : List Nat} {ls ls' : Array Slot} {L : mL} {n : Nat} {v : mV} (hq : oq.category = 1) (h : mLH ad oq LL ls L) (hv : mNoL v = true) (hn : ∀ a ∈ LL, a + 1 ≠ n)
    (h' : lv_has ls' L.length ((n, mE ad oq v) :: (mPr ad oq L).filter (fun q => !(q.1 == n) && !(q.1 + 1 == n && q.2.category == 2)))) : mLH ad oq LL ls' (L.set n (some v)) := by
  refine ⟨⟨by rw [List.length_set]; exact h'.1, h'.2.1, fun q hm => ?_⟩, fun a x ha => ?_⟩
  · obtain ⟨w, hw, e⟩ := mPr_of ad oq hm
    rw [List.getElem?_set] at hw
    by_cases hqn : n = q.1
    · rw [if_pos hqn] at hw
      split at hw
      next =>
        cases hw
        rw [e, ← hqn]
        exact h'.2.2 (n, mE ad oq v) List.mem_cons_self
      next => cases hw
    · rw [if_neg hqn] at hw
      refine h'.2.2 q (List.mem_cons_of_mem _ (List.mem_filter.mpr ⟨?_, ?_⟩))
      · have := mPr_mem ad oq hw
        rw [← e] at this
        exact this
      · have h1 : (q.1 == n) = false := beq_eq_false_iff_ne.mpr (fun z => hqn z.symm)
        rw [h1]
        show (true && _) = true
        rw [Bool.true_and, Bool.not_eq_true', Bool.and_eq_false_iff]
        by_cases hc : q.2.category = 2
        · left
          rw [e] at hc
          obtain ⟨x, hx⟩ := mE_cat ad oq hq hc
          rw [hx] at hw
          exact beq_eq_false_iff_ne.mpr (hn _ (h.2 _ _ hw))
        · right
          exact beq_eq_false_iff_ne.mpr hc
  · rw [List.getElem?_set] at ha
    by_cases hqn : n = a
    · rw [if_pos hqn] at ha
      split at ha
      next =>
        cases ha
        cases hv
      next => cases ha
    · rw [if_neg hqn] at ha
      exact h.2 a x ha
theorem mLH_set2 {LL : List Nat} {ls ls' : Array Slot} {L : mL} {n : Nat} {x : Int64} (hq : oq.category = 1) (h : mLH ad oq LL ls L) (hm : n ∈ LL) (hn : ∀ a ∈ LL, a + 1 ≠ n)
    (h' : lv_has ls' L.length ((n, .long x) :: (mPr ad oq L).filter (fun q => !(q.1 == n) && (!(q.1 == n + 1) && !(q.1 + 1 == n && q.2.category == 2))))) : mLH ad oq LL ls' ((L.set n (some (.inr (.inl x)))).set (n + 1) none) := by
  have g : ∀ (a : Nat) (w : mV), ((L.set n (some (.inr (.inl x)))).set (n + 1) none)[a]? = some (some w) → (a = n ∧ w = .inr (.inl x)) ∨ (a ≠ n ∧ a ≠ n + 1 ∧ L[a]? = some (some w)) := by
    intro a w hw
    rw [List.getElem?_set] at hw
    by_cases h1 : n + 1 = a
    · rw [if_pos h1] at hw
      split at hw
      · cases hw
      · cases hw
    · rw [if_neg h1, List.getElem?_set] at hw
      by_cases h2 : n = a
      · rw [if_pos h2] at hw
        split at hw
        · cases hw; exact Or.inl ⟨h2.symm, rfl⟩
        · cases hw
      · rw [if_neg h2] at hw
        exact Or.inr ⟨fun z => h2 z.symm, fun z => h1 z.symm, hw⟩
  refine ⟨⟨by rw [List.length_set, List.length_set]; exact h'.1, h'.2.1, fun q hm => ?_⟩, fun a y ha => ?_⟩
  · obtain ⟨w, hw, e⟩ := mPr_of ad oq hm
    rcases g _ _ hw with ⟨h1, h2⟩ | ⟨h1, h2, h3⟩
    · rw [e, h1, h2]
      exact h'.2.2 (n, .long x) List.mem_cons_self
    · refine h'.2.2 q (List.mem_cons_of_mem _ (List.mem_filter.mpr ⟨?_, ?_⟩))
      · have := mPr_mem ad oq h3
        rw [← e] at this
        exact this
      · have e1 : (q.1 == n) = false := beq_eq_false_iff_ne.mpr h1
        have e2 : (q.1 == n + 1) = false := beq_eq_false_iff_ne.mpr h2
        rw [e1, e2]
        show (true && (true && _)) = true
        rw [Bool.true_and, Bool.true_and, Bool.not_eq_true', Bool.and_eq_false_iff]
        by_cases hc : q.2.category = 2
        · left
          rw [e] at hc
          obtain ⟨z, hz⟩ := mE_cat ad oq hq hc
          rw [hz] at h3
          exact beq_eq_false_iff_ne.mpr (hn _ (h.2 _ _ h3))
        · right
          exact beq_eq_false_iff_ne.mpr hc
  · rcases g _ _ ha with ⟨h1, h2⟩ | ⟨h1, h2, h3⟩
    · rw [h1]; exact hm
    · exact h.2 a y h3
end WORLD
end
section
/-! One step of the small machine is a step of the machine -/
def mGd : List Cond := lw_tbl.filter goodWord
def mIsN : Cond → Bool
  | .methodLinkNest .. => true
  | .fieldLinkNest .. => true
  | _ => false
def mNest : List Cond := lw_tbl.filter mIsN
def mStrL : List (String × Nat × String × Nat) := [("RingedLights$Reader", 59, "phase", 0), ("RingedLights$Reader", 68, "cycle", 1), ("RingedLights$Reader", 73, "offset", 2), ("RingedLights$Reader", 78, "break", 3), ("RingedLights$Reader", 197, "track", 4), ("RingedLights$Reader", 205, "dwell", 5), ("RingedLights$Reader", 207, "cut", 6), ("RingedLights$Reader", 158, "min", 7), ("RingedLights$Reader", 159, "pass", 8), ("RingedLights$Reader", 161, "max", 9), ("RingedLights$Reader", 163, "yellow", 10), ("RingedLights$Reader", 165, "clear", 11), ("RingedLights$Reader", 167, "walk", 12), ("RingedLights$Reader", 169, "halt", 13), ("RingedLights$Reader", 171, "recall", 14), ("RingedLights$Reader", 173, "split", 15), ("RingedLights$Reader", 175, "rate", 16), ("RingedLightsModel", 249, " min pass max yellow clear walk halt recall split rate phase cycle offset break track dwell cut ", 17)]
def mStN (j : Nat) : String := match j with
  | 27 => "LEAST_MARK"
  | 28 => "MOST_MARK"
  | _ => "USUAL_MARK"
/-- what a method is: name, bytes, variables, what it returns, of which kind, whether static, its parameters, its instructions, those of two words, its pool -/
abbrev mDat : Type := MethodName × ByteArray × Nat × Option FieldType × (Nat × Nat × Nat) × List mT × List Nat × List (Nat × Nat × Nat × Nat × Nat)
abbrev mdY (q : mDat) : MethodName := q.1
abbrev mdB (q : mDat) : ByteArray := q.2.1
abbrev mdL (q : mDat) : Nat := q.2.2.1
abbrev mdR (q : mDat) : Option FieldType := q.2.2.2.1
abbrev mdK (q : mDat) : Nat := q.2.2.2.2.1.1
abbrev mdC (q : mDat) : Nat := q.2.2.2.2.1.2.1
abbrev mdN (q : mDat) : Nat := q.2.2.2.2.1.2.2
abbrev mdT (q : mDat) : List mT := q.2.2.2.2.2.1
abbrev mdW (q : mDat) : List Nat := q.2.2.2.2.2.2.1
abbrev mdP (q : mDat) : List (Nat × Nat × Nat × Nat × Nat) := q.2.2.2.2.2.2.2
def mClN (ci : Nat) : String := match ci with
  | 0 => RX0 | 1 => RX1 | 2 => RX2 | 3 => RX3 | 4 => RX4 | 5 => RX5 | 6 => RX6 | 7 => "java/lang/String"
  | _ => ""
/-- what the tables say of an entry of a class's pool: 0 a field, 1 a static one, 2 a method, 3 a text, 4 a long, 5 arraycopy -/
def mCpO (dat : Nat → mDat) (own : String) (q : Nat × Nat × Nat × Nat × Nat) : Prop := match q.1 with
  | 0 => (q.2.2.1 = 7 ∧ q.2.2.2.1 = 0 ∧ Cond.fieldLink own q.2.1 "java/lang/String" "value" "[B" ∈ mGd) ∨ (q.2.2.1 = 7 ∧ q.2.2.2.1 = 1 ∧ Cond.fieldLink own q.2.1 "java/lang/String" "coder" "B" ∈ mGd) ∨
      ∃ r, mCLS[q.2.2.1]? = some r ∧ q.2.2.2.1 < r.2.2 ∧ Cond.fieldLink own q.2.1 (r.2.1 q.2.2.2.1).1 (r.2.1 q.2.2.2.1).2.1 (r.2.1 q.2.2.2.1).2.2.1 ∈ mGd
  | 1 => (q.2.2.1 = 0 ∧ (27 ≤ q.2.2.2.1 ∧ q.2.2.2.1 ≤ 29) ∧ (Cond.fieldLink own q.2.1 "RingedLights" (mStN q.2.2.2.1) "[I" ∈ mGd ∨ Cond.fieldLinkNest own q.2.1 "RingedLights" (mStN q.2.2.2.1) "[I" "RingedLights" ∈ mNest)) ∨
      (q.2.2.1 = 1 ∧ Cond.fieldLink own q.2.1 "java/lang/String" "COMPACT_STRINGS" "Z" ∈ mGd) ∨ (q.2.2.1 = 2 ∧ Cond.fieldLink own q.2.1 "jdk/internal/util/Preconditions" "SIOOBE_FORMATTER" "Ljava/util/function/BiFunction;" ∈ mGd)
  | 2 => q.2.2.2.1 = mdN (dat q.2.2.1) + (if mdC (dat q.2.2.1) = 99 then 0 else 1) ∧ q.2.2.2.2 = mdC (dat q.2.2.1) ∧ (Cond.methodLink own q.2.1 (mdY (dat q.2.2.1)) ∈ mGd ∨ Cond.methodLinkNest own q.2.1 (mdY (dat q.2.2.1)) "RingedLights" ∈ mNest)
  | 3 => ∃ tx, (own, q.2.1, tx, q.2.2.1) ∈ mStrL
  | 4 => Cond.constantLong own q.2.1 (Int64.ofNat q.2.2.1) ∈ mGd
  | 5 => Cond.methodLink own q.2.1 arraycopyName ∈ mGd
  | _ => False
/-- what the tables say of a method -/
def mMO (q : mDat) : Prop := Cond.code (mdY q) (mdB q) (mdL q) (mdR q) ∈ mGd ∧ mdL q ≤ 17 ∧ plainFor (mdY q) = true ∧ ((mdY q).cls ≠ "java/lang/invoke/MethodHandle" ∧ (mdY q).cls ≠ "java/lang/invoke/VarHandle" ∧ (parseMethodDescriptor (mdY q).desc).map (fun d => d.parameters.length) = some (mdN q)) ∧ Cond.initialized (mdY q).cls ∈ mGd ∧
  ((mdC q = 99 ∧ Cond.static (mdY q) ∈ mGd) ∨ (mdC q ≠ 99 ∧ Cond.instanceMethod (mdY q) ∈ mGd ∧ Cond.selects (mdY q).cls (mdY q) (mdY q) ∈ mGd ∧ mClN (mdC q) = (mdY q).cls)) ∧
  ((mdK q = 0 ∧ mdR q = none) ∨ (mdK q = 1 ∧ mdR q = some .int) ∨ (mdK q = 2 ∧ mdR q = some .boolean) ∨ (mdK q = 3 ∧ mdR q = some .char) ∨ (mdK q = 4 ∧ mdR q = some .byte) ∨ (mdK q = 5 ∧ ∃ cn, mdR q = some (.object cn)))
def mLn : Instr → Nat
  | .bipush _ => 2 | .iload _ => 2 | .istore _ => 2 | .aload _ => 2 | .astore _ => 2 | .lload _ => 2 | .lstore _ => 2 | .ldc _ => 2
  | .sipush _ => 3 | .ldc2_w _ => 3 | .iinc _ _ => 3 | .ifCond _ _ => 3 | .if_icmp _ _ => 3 | .goto _ => 3 | .getfield _ => 3 | .putfield _ => 3 | .getstatic _ => 3 | .invokevirtual _ => 3 | .invokestatic _ => 3
  | _ => 1
def mSt1 (LL : List Nat) (nL n : Nat) : Bool := Nat.blt n nL && LL.all (fun q => !(Nat.beq (q + 1) n))
def mTsw (pc : Nat) (lo : Int) (offs : List Int) : List (Int32 × Nat) := (List.range offs.length).map (fun (k : Nat) => (Int32.ofInt (lo + (k : Int)), ((pc : Int) + offs.getD k 0).toNat))
def mCkI (LL : List Nat) (nL : Nat) (cp : List (Nat × Nat × Nat × Nat × Nat)) (pc : Nat) (ins : Instr) (a b d : Nat) (sw : List (Int32 × Nat)) : Bool := match ins with
  | .ldc2_w i => cp.contains (4, i, a, b, d)
  | .ldc i => cp.contains (3, i, a, b, d)
  | .istore n => mSt1 LL nL n
  | .istore_n n => mSt1 LL nL n.val
  | .astore n => mSt1 LL nL n
  | .astore_n n => mSt1 LL nL n.val
  | .iinc n _ => mSt1 LL nL n
  | .lstore n => mSt1 LL nL n && LL.contains n && Nat.blt (n + 1) nL
  | .lstore_n n => mSt1 LL nL n.val && LL.contains n.val && Nat.blt (n.val + 1) nL
  | .ifCond _ off => decide ((pc : Int) + off = (a : Int))
  | .if_icmp _ off => decide ((pc : Int) + off = (a : Int))
  | .goto off => decide ((pc : Int) + off = (a : Int))
  | .tableswitch dflt lo hi offs => decide ((pc : Int) + dflt = (a : Int)) && decide (sw = mTsw pc lo offs.toList) && decide (hi = lo + offs.toList.length - 1) && decide (-1000 ≤ lo) && decide (hi ≤ 1000) && offs.toList.all (fun o => decide (0 ≤ (pc : Int) + o)) && decide (0 < offs.toList.length)
  | .lookupswitch dflt ps => decide ((pc : Int) + dflt = (a : Int)) && (ps.toList.zip (ps.toList.drop 1)).all (fun (a, next) => decide (a.1 < next.1)) && decide (sw = ps.toList.map (fun q => (Int32.ofInt q.1, ((pc : Int) + q.2).toNat))) && ps.toList.all (fun q => decide (0 ≤ (pc : Int) + q.2) && decide (-1000 ≤ q.1) && decide (q.1 ≤ 1000))
  | .getfield i => cp.contains (0, i, a, b, d)
  | .putfield i => cp.contains (0, i, a, b, d) && (Nat.blt a 7 && !(Nat.beq a 4 && Nat.beq b 0))
  | .getstatic i => cp.contains (1, i, a, b, d)
  | .invokevirtual i => cp.contains (2, i, a, b, d) && !(Nat.beq d 99)
  | .invokestatic i => (match Nat.beq a 999 with
    | true => cp.contains (5, i, a, b, d)
    | false => (match Nat.beq a 998 with
      | true => true
      | false => cp.contains (2, i, a, b, d) && Nat.beq d 99))
  | _ => true
theorem mGd_in {i : Nat} {w : Cond} (h : lw_tbl[i]? = some w) (hg : goodWord w = true) : w ∈ mGd := List.mem_filter.mpr ⟨List.mem_of_getElem? h, hg⟩
theorem mNest_in {i : Nat} {w : Cond} (h : lw_tbl[i]? = some w) (hg : mIsN w = true) : w ∈ mNest := List.mem_filter.mpr ⟨List.mem_of_getElem? h, hg⟩
theorem mGd_good {w : Cond} (h : w ∈ mGd) : w ∈ mGd ∧ ((w.onTables && w.keeps) = true ∨ ∃ ty, w = .arrayClass ty) := ⟨h, good_of_word (List.mem_filter.mp h).2⟩
theorem mNest_warm {w : Cond} {s U : State} (hw : w ∈ mNest) (hW : s.WarmedH U.vm) (h : va_Nw w s) : va_Nw w U := by
  have h2 := (List.mem_filter.mp hw).2
  cases w
  case methodLinkNest a i x h0 => exact va_Nw.warmM hW h
  case fieldLinkNest a i b n d h0 => exact va_Nw.warmF hW h
  all_goals cases h2
theorem mNest_tab {w : Cond} (hw : w ∈ mNest) : w.onTables = true := by
  have h2 := (List.mem_filter.mp hw).2
  cases w
  case methodLinkNest => rfl
  case fieldLinkNest => rfl
  all_goals cases h2
section RO
variable (ad : Nat → Nat → Nat) (oq : Value) (X : mX)
/-- what stays all along: texts, rows of the marks, statics, the script -/
def mRo (A : Nat → Prop) (s : State) : Prop :=
  (∀ i j n b, mIn (i, j) → 25 ≤ j → mArr X i j = some (n, b) → va_T (if b then .byte else .int) (ad i j) n (fun k => .int (mRO X i j k)) A s s.heap) ∧
  (∀ n, n < 18 → va_O "java/lang/String" (ad n 24) A s s.heap ∧ va_OF "java/lang/String" "coder" "B" (.int 0) (ad n 24) A s s.heap ∧ va_OF "java/lang/String" "value" "[B" (.ref (ad n 25)) (ad n 24) A s s.heap) ∧
  (∀ j, 27 ≤ j ∧ j ≤ 29 → va_Z "RingedLights" (mStN j) "[I" (.ref (ad 9 j)) A s s.heap) ∧
  va_Z "java/lang/String" "COMPACT_STRINGS" "Z" (.int 1) A s s.heap ∧ va_Z "jdk/internal/util/Preconditions" "SIOOBE_FORMATTER" "Ljava/util/function/BiFunction;" oq A s s.heap ∧
  (∀ q ∈ mStrL, vk_R q.1 q.2.1 q.2.2.1 (ad q.2.2.2 24) s) ∧ (∀ w ∈ mNest, va_Nw w s)
theorem mRo_moved {A A1 : Nat → Prop} {s U : State} {H : Heap} {locs : List Loc} (h : mRo ad oq X A s) (hS : va_S A s.heap H locs) (hA : ∀ q, A1 q → A q) (hU : U.heap = H) (hW : s.WarmedH U.vm) : mRo ad oq X A1 U := by
  obtain ⟨h1, h2, h3, h4, h5, h6, h7⟩ := h
  have hv : s.vm.Alike U.vm := hW.alike
  subst hU
  refine ⟨fun i j n b q1 q2 q3 => ((h1 i j n b q1 q2 q3).kept hS.2.1).narrow hA |>.moved hv, fun n hn => ⟨va_O.moved hv (((h2 n hn).1.kept hS.2.1).narrow hA), va_OF.moved hv (((h2 n hn).2.1.kept hS.2.1).narrow hA), va_OF.moved hv (((h2 n hn).2.2.kept hS.2.1).narrow hA)⟩, fun j hj => va_Z.moved hv (((h3 j hj).kept hS.2.1).narrow hA), va_Z.moved hv ((h4.kept hS.2.1).narrow hA), va_Z.moved hv ((h5.kept hS.2.1).narrow hA), fun q hq => vk_R.warm hW (h6 q hq), fun w hw => mNest_warm hw hW (h7 w hw)⟩
/-- the same, at a state over the same tables and heap -/
theorem mRo_same {A : Nat → Prop} {s U : State} (h : mRo ad oq X A s) (hv : U.vm = s.vm) (hh : U.heap = s.heap) : mRo ad oq X A U := by
  obtain ⟨h1, h2, h3, h4, h5, h6, h7⟩ := h
  have ha : s.vm.Alike U.vm := by rw [hv]; exact Vm.Alike.refl _
  refine ⟨fun i j n b q1 q2 q3 => ?_, fun n hn => ?_, fun j hj => ?_, ?_, ?_, fun q hq => vk_R.same hv (h6 q hq), fun w hw => va_Nw.same (mNest_tab hw) hv.symm (h7 w hw)⟩
  · rw [hh]; exact va_T.moved ha (h1 i j n b q1 q2 q3)
  · rw [hh]; exact ⟨va_O.moved ha (h2 n hn).1, va_OF.moved ha (h2 n hn).2.1, va_OF.moved ha (h2 n hn).2.2⟩
  · rw [hh]; exact va_Z.moved ha (h3 j hj)
  · rw [hh]; exact va_Z.moved ha h4
  · rw [hh]; exact va_Z.moved ha h5
end RO
end
section
/-! One instruction -/
theorem mAns_some {k : mK} {nx : List mT} {L : mL} {st : List mV} {x : mR} {res : Option mV × mG} (h : mAns k nx L st x = some res) : ∃ r g, x = some (r, g) ∧ k nx L (r.toList ++ st) g = some res := by
  unfold mAns at h
  split at h
  · cases h
  · exact ⟨none, _, rfl, h⟩
  · exact ⟨some _, _, rfl, h⟩
section STEP
variable {ad : Nat → Nat → Nat} {oq : Value} {dC : Nat → ClassId} {dI : Nat → Nat → Nat} {aI aB : ClassId} {X : mX}
variable {p : Program} {l : Launch} {e : Env} {R : Room} {s : State} {m : MethodId} {args : Array Value} {below : List Frame} {meth : Method} {c : Code} {cells slots : Nat} {Q : State → Prop}
variable {cc : ByteArray} {own : String} {LL : List Nat} {nL : Nat} {cp : List (Nat × Nat × Nat × Nat × Nat)} {dat : Nat → mDat} {A : Nat → Prop}
/-- the frame: the machine, the code, what the tables say -/
def mFx (ad : Nat → Nat → Nat) (oq : Value) (dC : Nat → ClassId) (dI : Nat → Nat → Nat) (aI aB : ClassId) (X : mX) (p : Program) (s : State) (m : MethodId) (args : Array Value) (c : Code) (cc : ByteArray) (own : String) (nL : Nat) (cp : List (Nat × Nat × Nat × Nat × Nat)) (dat : Nat → mDat) (A : Nat → Prop) : Prop :=
  p.tables.exec = Jvm.exec ∧ c.code = cc ∧ c.maxLocals = nL ∧ s.vm.findClass own = some m.cls ∧ (∀ w ∈ mGd, w.before args s = true) ∧ va_K (dC, dI) mCLS [(aI, .int), (aB, .byte)] s ∧ mRo ad oq X A s ∧ (∀ q ∈ cp, mCpO dat own q) ∧ oq.category = 1
def mHp (ad : Nat → Nat → Nat) (dC : Nat → ClassId) (dI : Nat → Nat → Nat) (aI aB : ClassId) (s : State) (A : Nat → Prop) (g : mG) (H : Heap) (locs : List Loc) : Prop := va_P (dC, dI) mCLS (mWs ad aI aB g) H ∧ va_D A (mWs ad aI aB g) ∧ va_S A s.heap H locs
/-- from here on all goes well -/
def mWk (ad : Nat → Nat → Nat) (oq : Value) (dC : Nat → ClassId) (dI : Nat → Nat → Nat) (aI aB : ClassId) (p : Program) (l : Launch) (e : Env) (R : Room) (s : State) (m : MethodId) (args : Array Value) (below : List Frame) (meth : Method) (c : Code) (cells slots : Nat) (Q : State → Prop) (LL : List Nat) (A : Nat → Prop) (pc : Nat) (L : mL) (st : List mV) (g : mG) : Prop :=
  ∀ (H : Heap) (locs : List Loc) (ls : Array Slot), mHp ad dC dI aI aB s A g H locs → mLH ad oq LL ls L → W p l e R s m args below meth c H locs cells slots Q (F0 m pc ls (st.map (mE ad oq)))
/-- the answers of calls -/
def mCa (ad : Nat → Nat → Nat) (oq : Value) (dC : Nat → ClassId) (dI : Nat → Nat → Nat) (aI aB : ClassId) (X : mX) (l : Launch) (R : Room) (dat : Nat → mDat) (call : Nat → List mV → mG → mR) : Prop :=
  ∀ (a : Nat) (vs : List mV) (g : mG) (r : Option mV) (g' : mG), call a vs g = some (r, g') → mOs vs → ∃ rm : Room, rm.frames + 1 ≤ R.frames ∧ rm.locals + 36 ≤ R.locals ∧ rm.cells = 0 ∧ rm.slots = 0 ∧ mMO (dat a) ∧
    Met l (mdY (dat a)) (Cond.code (mdY (dat a)) (mdB (dat a)) (mdL (dat a)) (mdR (dat a)) :: mGd) rm
      (va_Pc (vs.map (mE ad oq)) (fun U => va_P (dC, dI) mCLS (mWs ad aI aB g) U.heap ∧ va_D (mAd ad) (mWs ad aI aB g) ∧ va_K (dC, dI) mCLS [(aI, .int), (aB, .byte)] U ∧ mRo ad oq X (mAd ad) U))
      (fun _ st oc t => oc = .returned (r.map (mE ad oq)) ∧ ((∀ v, r = some v → mOv v) ∧ va_P (dC, dI) mCLS (mWs ad aI aB g') t.heap) ∧ va_F (mAd ad) st t) 0 0 (mAd ad)
theorem mE_ref {i j : Nat} (h : i ≠ 99) : mE ad oq (.inr (.inr (i, j))) = .ref (ad i j) := by
  have : Nat.beq i 99 = false := by
    cases hb : Nat.beq i 99 with
    | false => rfl
    | true => exact absurd (Nat.eq_of_beq_eq_true hb) h
  unfold mE
  dsimp only
  rw [this]
theorem mE_refIn {q : Nat × Nat} (h : q ∈ mCL) : mE ad oq (.inr (.inr q)) = .ref (ad q.1 q.2) := by
  obtain ⟨i, j⟩ := q
  exact mE_ref (mCL_99 _ h).1
/-- a store into a cell -/
theorem mHp_set {g : mG} {q : Nat × Nat} {c' : mC} {n : Nat} {x : va_E} {H1 : Heap} {locs1 : List Loc} {s : State} (hn : mCL[n]? = some q) (hx : x = mEnt ad aI aB (mU g q.1 c') q) (hc : ∀ j', j' ≠ q.2 → c' j' = g q.1 j')
    (hP : va_P (dC, dI) mCLS ((mWs ad aI aB g).set n (ad q.1 q.2, x)) H1) (hD : va_D A (mWs ad aI aB g)) (hS : va_S A s.heap H1 locs1) : mHp ad dC dI aI aB s A (mU g q.1 c') H1 locs1 := by
  have e : (mWs ad aI aB g).set n (ad q.1 q.2, x) = mWs ad aI aB (mU g q.1 c') := mWs_set ad aI aB hn hx (fun r _ hr => mEnt_cong ad aI aB (mU_other (i := q.1) (j := q.2) hc (by simpa using hr)))
  rw [e] at hP
  exact ⟨hP, mD_of ad aI aB hD, hS⟩
theorem mEnt_obj {g : mG} {q : Nat × Nat} {ci : Nat} (h : mCls q.2 = some ci) : mEnt ad aI aB g q = .inr (ci, (List.range (mNF ci)).map (fun k => mFv ad g q.1 q.2 k)) := by
  unfold mEnt; rw [h]
theorem mArr_X {X Y : mX} {i j : Nat} (h : j ≤ 23) : mArr X i j = mArr Y i j := by
  unfold mArr
  split <;> first | rfl | omega
theorem mArr_cls {X : mX} {i j n : Nat} {b : Bool} (h : mArr X i j = some (n, b)) : mCls j = none := by
  unfold mArr at h
  split at h <;> first | rfl | cases h
theorem mEnt_arrI {g : mG} {q : Nat × Nat} {n : Nat} (hj : q.2 ≤ 23) (h : mArr X q.1 q.2 = some (n, false)) : mEnt ad aI aB g q = .inl (aI, n, .inl (g q.1 q.2)) := by
  unfold mEnt
  rw [mArr_cls h, mArr_X (Y := X) hj, h]
theorem mEnt_arrB {g : mG} {q : Nat × Nat} {n : Nat} (hj : q.2 ≤ 23) (h : mArr X q.1 q.2 = some (n, true)) : mEnt ad aI aB g q = .inl (aB, n, .inl (g q.1 q.2)) := by
  unfold mEnt
  rw [mArr_cls h, mArr_X (Y := X) hj, h]
theorem mCLS_nf : ∀ (ci : Nat) (r : vw_C), mCLS[ci]? = some r → mNF ci = r.2.2 := by
  intro ci r h
  rcases ci with _ | _ | _ | _ | _ | _ | _ | ci <;> first | (cases h; rfl) | (simp at h)
theorem mU_same (g : mG) (i : Nat) (c' : mC) : mU g i c' i = c' := by
  funext j; unfold mU; rw [if_pos rfl]
theorem mP_upd (f : mC) (j k : Nat) (v : Int32) : mP f j k v j = upd (f j) k v := by
  funext q
  unfold mP upd
  by_cases h : q = k
  · rw [if_pos ⟨rfl, h⟩, if_pos h]
  · rw [if_neg (fun z => h z.2), if_neg h]
theorem mFv_set {g : mG} {i j b ci : Nat} {v : Int32} (hr : mRef i j b = none) (hb : b < mNF ci) (hv : mBoF j b = true → v &&& 1 = v) : (((List.range (mNF ci)).map (fun k => mFv ad g i j k)).set b (.int v)) = (List.range (mNF ci)).map (fun k => mFv ad (mU g i (mP (g i) j b v)) i j k) := by
  apply List.ext_getElem?
  intro k
  rw [List.getElem?_set]
  by_cases hk : b = k
  · subst hk
    rw [if_pos rfl, if_pos (by simpa using hb), List.getElem?_map, List.getElem?_range hb]
    show _ = some (mFv ad _ i j b)
    unfold mFv
    have e : mU g i (mP (g i) j b v) i j b = v := by
      rw [mU_same]
      show mP (g i) j b v j b = v
      unfold mP
      rw [if_pos ⟨rfl, rfl⟩]
    rw [hr, e]
    dsimp only
    split
    next h => rw [hv h]
    next => rfl
  · rw [if_neg hk, List.getElem?_map, List.getElem?_map]
    cases hc : (List.range (mNF ci))[k]? with
    | none => rfl
    | some k' =>
      have e : k' = k := by
        have h1 := List.getElem?_eq_some_iff.mp hc
        obtain ⟨h2, h3⟩ := h1
        rw [List.getElem_range] at h3
        exact h3.symm
      subst e
      show some (mFv ad g i j k') = some (mFv ad _ i j k')
      have e : mU g i (mP (g i) j b v) i j k' = g i j k' := by
        rw [mU_same]
        show mP (g i) j b v j k' = g i j k'
        unfold mP
        rw [if_neg (fun z => hk z.2.symm)]
      unfold mFv
      rw [e]
theorem mNar_b {v : Int32} (h : v &&& 1 = v) : narrow .boolean (.int v) = .int v ∧ fits .boolean (.int v) = true := by
  have h1 : narrow .boolean (.int v) = .int v := by
    show Value.int (v &&& 1) = .int v
    rw [h]
  exact ⟨h1, by rw [← h1]; exact fits_narrow_boolean v⟩
theorem mOs_c {v : mV} {st : List mV} (h1 : mOv v) (h2 : mOs st) : mOs (v :: st) := fun w hw => (List.mem_cons.mp hw).elim (fun e => e ▸ h1) (h2 w)
theorem mOs_h {v : mV} {st : List mV} (h : mOs (v :: st)) : mOv v := h v List.mem_cons_self
theorem mOs_t {v : mV} {st : List mV} (h : mOs (v :: st)) : mOs st := fun w hw => h w (List.mem_cons_of_mem _ hw)
theorem mOl_set {L : mL} {n : Nat} {v : mV} (h : mOl L) (hv : mOv v) : mOl (L.set n (some v)) := by
  intro a w hw
  rw [List.getElem?_set] at hw
  split at hw
  · split at hw
    · cases hw; exact hv
    · cases hw
  · exact h a w hw
theorem mOl_setN {L : mL} {n : Nat} (h : mOl L) : mOl (L.set n none) := by
  intro a w hw
  rw [List.getElem?_set] at hw
  split at hw
  · split at hw
    · cases hw
    · cases hw
  · exact h a w hw
theorem mSt1_ok {n : Nat} (h : mSt1 LL nL n = true) : n < nL ∧ ∀ a ∈ LL, a + 1 ≠ n := by
  unfold mSt1 at h
  rw [Bool.and_eq_true] at h
  refine ⟨Nat.blt_eq.mp h.1, fun a ha e => ?_⟩
  have := List.all_eq_true.mp h.2 a ha
  rw [e] at this
  simp at this
variable {Ts : Instr} {len : Nat} {k : mK} {nx full : List mT} {pc : Nat} {L : mL} {st : List mV} {g : mG} {res : Option mV × mG}
/-- what comes next goes well -/
def mNx (ad : Nat → Nat → Nat) (oq : Value) (dC : Nat → ClassId) (dI : Nat → Nat → Nat) (aI aB : ClassId) (p : Program) (l : Launch) (e : Env) (R : Room) (s : State) (m : MethodId) (args : Array Value) (below : List Frame) (meth : Method) (c : Code) (cells slots : Nat) (Q : State → Prop) (LL : List Nat) (nL : Nat) (A : Nat → Prop) (k : mK) (cur : List mT) (res : Option mV × mG) (pc : Nat) : Prop :=
  ∀ (L : mL) (st : List mV) (g : mG), k cur L st g = some res → mOs st → mOl L → L.length = nL → mWk ad oq dC dI aI aB p l e R s m args below meth c cells slots Q LL A pc L st g
theorem mBeq_ne {i n : Nat} (h : Nat.beq i n = false) : i ≠ n := fun e => by rw [e, Nat.beq_refl] at h; cases h
theorem mIn_99 {i j : Nat} (h : mIn (i, j)) (hj : j ≠ 99) : i ≠ 99 := by
  intro e
  rcases h with q | q
  · exact (mCL_99 _ q).1 e
  · have : ∀ q ∈ mROL, q.1 = 99 → q.2 = 99 := by decide +kernel
    exact hj (this _ q e)
theorem mS_ldI {n : Nat} (hn : mNx ad oq dC dI aI aB p l e R s m args below meth c cells slots Q LL nL A k nx res (pc + len)) (h : mLdI n k nx L st g = some res) (hOs : mOs st) (hOl : mOl L) (hLn : L.length = nL)
    (row : ∀ (H : Heap) (locs : List Loc) (ls : Array Slot) (rest : List Value) (v : Int32), ls[n]? = some (.val (.int v)) → W p l e R s m args below meth c H locs cells slots Q (F0 m (pc + len) ls (.int v :: rest)) → W p l e R s m args below meth c H locs cells slots Q (F0 m pc ls rest)) : mWk ad oq dC dI aI aB p l e R s m args below meth c cells slots Q LL A pc L st g := by
  intro H locs ls hH hL
  unfold mLdI at h
  split at h
  next v hv => exact row H locs ls _ v (mLH_at ad oq hL hv) (hn L (.inl v :: st) g h (mOs_c trivial hOs) hOl hLn H locs ls hH hL)
  next => cases h
theorem mS_ldL {n : Nat} (hn : mNx ad oq dC dI aI aB p l e R s m args below meth c cells slots Q LL nL A k nx res (pc + len)) (h : mLdL n k nx L st g = some res) (hOs : mOs st) (hOl : mOl L) (hLn : L.length = nL)
    (row : ∀ (H : Heap) (locs : List Loc) (ls : Array Slot) (rest : List Value) (v : Int64), ls[n]? = some (.val (.long v)) → W p l e R s m args below meth c H locs cells slots Q (F0 m (pc + len) ls (.long v :: rest)) → W p l e R s m args below meth c H locs cells slots Q (F0 m pc ls rest)) : mWk ad oq dC dI aI aB p l e R s m args below meth c cells slots Q LL A pc L st g := by
  intro H locs ls hH hL
  unfold mLdL at h
  split at h
  next v hv => exact row H locs ls _ v (mLH_at ad oq hL hv) (hn L (.inr (.inl v) :: st) g h (mOs_c trivial hOs) hOl hLn H locs ls hH hL)
  next => cases h
theorem mS_ldR {n : Nat} (hn : mNx ad oq dC dI aI aB p l e R s m args below meth c cells slots Q LL nL A k nx res (pc + len)) (h : mLdR n k nx L st g = some res) (hOs : mOs st) (hOl : mOl L) (hLn : L.length = nL)
    (row : ∀ (H : Heap) (locs : List Loc) (ls : Array Slot) (rest : List Value) (v : Nat), ls[n]? = some (.val (.ref v)) → W p l e R s m args below meth c H locs cells slots Q (F0 m (pc + len) ls (.ref v :: rest)) → W p l e R s m args below meth c H locs cells slots Q (F0 m pc ls rest)) : mWk ad oq dC dI aI aB p l e R s m args below meth c cells slots Q LL A pc L st g := by
  intro H locs ls hH hL
  unfold mLdR at h
  split at h
  next i j hv =>
    split at h
    next => cases h
    next hj =>
      have hO := hOl _ _ hv
      have e99 := mIn_99 hO (mBeq_ne hj)
      have h1 := mLH_at ad oq hL hv
      have kk := hn L (.inr (.inr (i, j)) :: st) g h (mOs_c hO hOs) hOl hLn H locs ls hH hL
      rw [mE_ref e99] at h1
      rw [List.map_cons, mE_ref e99] at kk
      exact row H locs ls _ _ h1 kk
  next => cases h
theorem mS_b2 {f : Int32 → Int32 → Int32} (hn : mNx ad oq dC dI aI aB p l e R s m args below meth c cells slots Q LL nL A k nx res (pc + len)) (h : mB2 f k nx L st g = some res) (hOs : mOs st) (hOl : mOl L) (hLn : L.length = nL)
    (row : ∀ (H : Heap) (locs : List Loc) (ls : Array Slot) (rest : List Value) (x y : Int32), W p l e R s m args below meth c H locs cells slots Q (F0 m (pc + len) ls (.int (f x y) :: rest)) → W p l e R s m args below meth c H locs cells slots Q (F0 m pc ls (.int y :: .int x :: rest))) : mWk ad oq dC dI aI aB p l e R s m args below meth c cells slots Q LL A pc L st g := by
  intro H locs ls hH hL
  unfold mB2 at h
  split at h
  next y x r => exact row H locs ls (r.map (mE ad oq)) x y (hn L (.inl (f x y) :: r) g h (mOs_c trivial (mOs_t (mOs_t hOs))) hOl hLn H locs ls hH hL)
  next => cases h
theorem mS_b2n {f : Int32 → Int32 → Int32} (hn : mNx ad oq dC dI aI aB p l e R s m args below meth c cells slots Q LL nL A k nx res (pc + len)) (h : mB2n f k nx L st g = some res) (hOs : mOs st) (hOl : mOl L) (hLn : L.length = nL)
    (row : ∀ (H : Heap) (locs : List Loc) (ls : Array Slot) (rest : List Value) (x y : Int32), ¬ y = 0 → W p l e R s m args below meth c H locs cells slots Q (F0 m (pc + len) ls (.int (f x y) :: rest)) → W p l e R s m args below meth c H locs cells slots Q (F0 m pc ls (.int y :: .int x :: rest))) : mWk ad oq dC dI aI aB p l e R s m args below meth c cells slots Q LL A pc L st g := by
  intro H locs ls hH hL
  unfold mB2n at h
  split at h
  next y x r =>
    split at h
    next => cases h
    next hy => exact row H locs ls (r.map (mE ad oq)) x y hy (hn L (.inl (f x y) :: r) g h (mOs_c trivial (mOs_t (mOs_t hOs))) hOl hLn H locs ls hH hL)
  next => cases h
theorem mS_j2 {f : Int64 → Int64 → Int64} (hn : mNx ad oq dC dI aI aB p l e R s m args below meth c cells slots Q LL nL A k nx res (pc + len)) (h : mJ2 f k nx L st g = some res) (hOs : mOs st) (hOl : mOl L) (hLn : L.length = nL)
    (row : ∀ (H : Heap) (locs : List Loc) (ls : Array Slot) (rest : List Value) (x y : Int64), W p l e R s m args below meth c H locs cells slots Q (F0 m (pc + len) ls (.long (f x y) :: rest)) → W p l e R s m args below meth c H locs cells slots Q (F0 m pc ls (.long y :: .long x :: rest))) : mWk ad oq dC dI aI aB p l e R s m args below meth c cells slots Q LL A pc L st g := by
  intro H locs ls hH hL
  unfold mJ2 at h
  split at h
  next y x r => exact row H locs ls (r.map (mE ad oq)) x y (hn L (.inr (.inl (f x y)) :: r) g h (mOs_c trivial (mOs_t (mOs_t hOs))) hOl hLn H locs ls hH hL)
  next => cases h
theorem mS_j2n {f : Int64 → Int64 → Int64} (hn : mNx ad oq dC dI aI aB p l e R s m args below meth c cells slots Q LL nL A k nx res (pc + len)) (h : mJ2n f k nx L st g = some res) (hOs : mOs st) (hOl : mOl L) (hLn : L.length = nL)
    (row : ∀ (H : Heap) (locs : List Loc) (ls : Array Slot) (rest : List Value) (x y : Int64), ¬ y = 0 → W p l e R s m args below meth c H locs cells slots Q (F0 m (pc + len) ls (.long (f x y) :: rest)) → W p l e R s m args below meth c H locs cells slots Q (F0 m pc ls (.long y :: .long x :: rest))) : mWk ad oq dC dI aI aB p l e R s m args below meth c cells slots Q LL A pc L st g := by
  intro H locs ls hH hL
  unfold mJ2n at h
  split at h
  next y x r =>
    split at h
    next => cases h
    next hy => exact row H locs ls (r.map (mE ad oq)) x y hy (hn L (.inr (.inl (f x y)) :: r) g h (mOs_c trivial (mOs_t (mOs_t hOs))) hOl hLn H locs ls hH hL)
  next => cases h
theorem mS_lcmp  (hn : mNx ad oq dC dI aI aB p l e R s m args below meth c cells slots Q LL nL A k nx res (pc + len)) (h : mLcmp k nx L st g = some res) (hOs : mOs st) (hOl : mOl L) (hLn : L.length = nL)
    (row : ∀ (H : Heap) (locs : List Loc) (ls : Array Slot) (rest : List Value) (x y : Int64), W p l e R s m args below meth c H locs cells slots Q (F0 m (pc + len) ls (.int (lg_cmp x y) :: rest)) → W p l e R s m args below meth c H locs cells slots Q (F0 m pc ls (.long y :: .long x :: rest))) : mWk ad oq dC dI aI aB p l e R s m args below meth c cells slots Q LL A pc L st g := by
  intro H locs ls hH hL
  unfold mLcmp at h
  split at h
  next y x r => exact row H locs ls (r.map (mE ad oq)) x y (hn L (.inl (lg_cmp x y) :: r) g h (mOs_c trivial (mOs_t (mOs_t hOs))) hOl hLn H locs ls hH hL)
  next => cases h
theorem mS_i2l  (hn : mNx ad oq dC dI aI aB p l e R s m args below meth c cells slots Q LL nL A k nx res (pc + len)) (h : mI2l k nx L st g = some res) (hOs : mOs st) (hOl : mOl L) (hLn : L.length = nL)
    (row : ∀ (H : Heap) (locs : List Loc) (ls : Array Slot) (rest : List Value) (x : Int32), W p l e R s m args below meth c H locs cells slots Q (F0 m (pc + len) ls (.long x.toInt64 :: rest)) → W p l e R s m args below meth c H locs cells slots Q (F0 m pc ls (.int x :: rest))) : mWk ad oq dC dI aI aB p l e R s m args below meth c cells slots Q LL A pc L st g := by
  intro H locs ls hH hL
  unfold mI2l at h
  split at h
  next x r => exact row H locs ls (r.map (mE ad oq)) x (hn L (.inr (.inl x.toInt64) :: r) g h (mOs_c trivial (mOs_t hOs)) hOl hLn H locs ls hH hL)
  next => cases h
theorem mS_l2i  (hn : mNx ad oq dC dI aI aB p l e R s m args below meth c cells slots Q LL nL A k nx res (pc + len)) (h : mL2i k nx L st g = some res) (hOs : mOs st) (hOl : mOl L) (hLn : L.length = nL)
    (row : ∀ (H : Heap) (locs : List Loc) (ls : Array Slot) (rest : List Value) (x : Int64), W p l e R s m args below meth c H locs cells slots Q (F0 m (pc + len) ls (.int x.toInt32 :: rest)) → W p l e R s m args below meth c H locs cells slots Q (F0 m pc ls (.long x :: rest))) : mWk ad oq dC dI aI aB p l e R s m args below meth c cells slots Q LL A pc L st g := by
  intro H locs ls hH hL
  unfold mL2i at h
  split at h
  next x r => exact row H locs ls (r.map (mE ad oq)) x (hn L (.inl x.toInt32 :: r) g h (mOs_c trivial (mOs_t hOs)) hOl hLn H locs ls hH hL)
  next => cases h
theorem mS_i2b  (hn : mNx ad oq dC dI aI aB p l e R s m args below meth c cells slots Q LL nL A k nx res (pc + len)) (h : mI2b k nx L st g = some res) (hOs : mOs st) (hOl : mOl L) (hLn : L.length = nL)
    (row : ∀ (H : Heap) (locs : List Loc) (ls : Array Slot) (rest : List Value) (x : Int32), W p l e R s m args below meth c H locs cells slots Q (F0 m (pc + len) ls (.int x.toInt8.toInt32 :: rest)) → W p l e R s m args below meth c H locs cells slots Q (F0 m pc ls (.int x :: rest))) : mWk ad oq dC dI aI aB p l e R s m args below meth c cells slots Q LL A pc L st g := by
  intro H locs ls hH hL
  unfold mI2b at h
  split at h
  next x r => exact row H locs ls (r.map (mE ad oq)) x (hn L (.inl x.toInt8.toInt32 :: r) g h (mOs_c trivial (mOs_t hOs)) hOl hLn H locs ls hH hL)
  next => cases h
theorem mS_i2c  (hn : mNx ad oq dC dI aI aB p l e R s m args below meth c cells slots Q LL nL A k nx res (pc + len)) (h : mI2c k nx L st g = some res) (hOs : mOs st) (hOl : mOl L) (hLn : L.length = nL)
    (row : ∀ (H : Heap) (locs : List Loc) (ls : Array Slot) (rest : List Value) (x : Int32), W p l e R s m args below meth c H locs cells slots Q (F0 m (pc + len) ls (.int (x.toUInt32 % 65536).toInt32 :: rest)) → W p l e R s m args below meth c H locs cells slots Q (F0 m pc ls (.int x :: rest))) : mWk ad oq dC dI aI aB p l e R s m args below meth c cells slots Q LL A pc L st g := by
  intro H locs ls hH hL
  unfold mI2c at h
  split at h
  next x r => exact row H locs ls (r.map (mE ad oq)) x (hn L (.inl (x.toUInt32 % 65536).toInt32 :: r) g h (mOs_c trivial (mOs_t hOs)) hOl hLn H locs ls hH hL)
  next => cases h
theorem mS_stI {n : Nat} (F : mFx ad oq dC dI aI aB X p s m args c cc own nL cp dat A) (hn : mNx ad oq dC dI aI aB p l e R s m args below meth c cells slots Q LL nL A k nx res (pc + len)) (h : mStI n k nx L st g = some res) (hOs : mOs st) (hOl : mOl L) (hLn : L.length = nL) (hck : mSt1 LL nL n = true)
    (row : ∀ (H : Heap) (locs : List Loc) (ls : Array Slot) (rest : List Value) (lv : List (Nat × Value)) (v : Value) (x : mV), mNoL x = true → v = mE ad oq x → (∃ q, x = .inl q) → lv_has ls nL lv → n < nL → (∀ ls' : Array Slot, lv_has ls' nL ((n, v) :: lv.filter (fun q => !(q.1 == n) && !(q.1 + 1 == n && q.2.category == 2))) → W p l e R s m args below meth c H locs cells slots Q (F0 m (pc + len) ls' rest)) → W p l e R s m args below meth c H locs cells slots Q (F0 m pc ls (v :: rest))) : mWk ad oq dC dI aI aB p l e R s m args below meth c cells slots Q LL A pc L st g := by
  intro H locs ls hH hL
  obtain ⟨h1, h2⟩ := mSt1_ok hck
  unfold mStI at h
  split at h
  next v r =>
    refine row H locs ls (r.map (mE ad oq)) (mPr ad oq L) _ (.inl v) rfl rfl ⟨v, rfl⟩ (hLn ▸ hL.1) h1 (fun ls' h' => ?_)
    exact hn (L.set n (some (.inl v))) r g h (mOs_t hOs) (mOl_set hOl (mOs_h hOs)) (by rw [List.length_set]; exact hLn) H locs ls' hH (mLH_set ad oq F.2.2.2.2.2.2.2.2 hL rfl h2 (hLn ▸ h'))
  next => cases h
theorem mS_stR {n : Nat} (F : mFx ad oq dC dI aI aB X p s m args c cc own nL cp dat A) (hn : mNx ad oq dC dI aI aB p l e R s m args below meth c cells slots Q LL nL A k nx res (pc + len)) (h : mStR n k nx L st g = some res) (hOs : mOs st) (hOl : mOl L) (hLn : L.length = nL) (hck : mSt1 LL nL n = true)
    (row : ∀ (H : Heap) (locs : List Loc) (ls : Array Slot) (rest : List Value) (lv : List (Nat × Value)) (v : Value) (x : Nat), v = .ref x → lv_has ls nL lv → n < nL → (∀ ls' : Array Slot, lv_has ls' nL ((n, v) :: lv.filter (fun q => !(q.1 == n) && !(q.1 + 1 == n && q.2.category == 2))) → W p l e R s m args below meth c H locs cells slots Q (F0 m (pc + len) ls' rest)) → W p l e R s m args below meth c H locs cells slots Q (F0 m pc ls (v :: rest))) : mWk ad oq dC dI aI aB p l e R s m args below meth c cells slots Q LL A pc L st g := by
  intro H locs ls hH hL
  obtain ⟨h1, h2⟩ := mSt1_ok hck
  unfold mStR at h
  split at h
  next i j r =>
    split at h
    next => cases h
    next hj =>
      have hO := mOs_h hOs
      have e99 := mIn_99 hO (mBeq_ne hj)
      have e := mE_ref (ad := ad) (oq := oq) (j := j) e99
      rw [List.map_cons, e]
      refine row H locs ls (r.map (mE ad oq)) (mPr ad oq L) _ (ad i j) rfl (hLn ▸ hL.1) h1 (fun ls' h' => ?_)
      rw [← e] at h'
      exact hn (L.set n (some (.inr (.inr (i, j))))) r g h (mOs_t hOs) (mOl_set hOl hO) (by rw [List.length_set]; exact hLn) H locs ls' hH (mLH_set ad oq F.2.2.2.2.2.2.2.2 hL rfl h2 (hLn ▸ h'))
  next => cases h
theorem mS_stL {n : Nat} (F : mFx ad oq dC dI aI aB X p s m args c cc own nL cp dat A) (hn : mNx ad oq dC dI aI aB p l e R s m args below meth c cells slots Q LL nL A k nx res (pc + len)) (h : mStL n k nx L st g = some res) (hOs : mOs st) (hOl : mOl L) (hLn : L.length = nL) (hck : mSt1 LL nL n = true) (hm : n ∈ LL) (hb : n + 1 < nL)
    (row : ∀ (H : Heap) (locs : List Loc) (ls : Array Slot) (rest : List Value) (lv : List (Nat × Value)) (x : Int64), lv_has ls nL lv → (∀ ls' : Array Slot, lv_has ls' nL ((n, .long x) :: lv.filter (fun q => !(q.1 == n) && (!(q.1 == n + 1) && !(q.1 + 1 == n && q.2.category == 2)))) → W p l e R s m args below meth c H locs cells slots Q (F0 m (pc + len) ls' rest)) → W p l e R s m args below meth c H locs cells slots Q (F0 m pc ls (.long x :: rest))) : mWk ad oq dC dI aI aB p l e R s m args below meth c cells slots Q LL A pc L st g := by
  intro H locs ls hH hL
  obtain ⟨h1, h2⟩ := mSt1_ok hck
  unfold mStL at h
  split at h
  next v r =>
    refine row H locs ls (r.map (mE ad oq)) (mPr ad oq L) v (hLn ▸ hL.1) (fun ls' h' => ?_)
    exact hn ((L.set n (some (.inr (.inl v)))).set (n + 1) none) r g h (mOs_t hOs) (mOl_setN (mOl_set hOl (mOs_h hOs))) (by rw [List.length_set, List.length_set]; exact hLn) H locs ls' hH (mLH_set2 ad oq F.2.2.2.2.2.2.2.2 hL hm h2 (hLn ▸ h'))
  next => cases h
theorem mS_inc {n : Nat} {q : Int} (F : mFx ad oq dC dI aI aB X p s m args c cc own nL cp dat A) (hn : mNx ad oq dC dI aI aB p l e R s m args below meth c cells slots Q LL nL A k nx res (pc + len)) (h : mInc n q k nx L st g = some res) (hOs : mOs st) (hOl : mOl L) (hLn : L.length = nL) (hck : mSt1 LL nL n = true)
    (row : ∀ (H : Heap) (locs : List Loc) (ls : Array Slot) (rest : List Value) (lv : List (Nat × Value)) (x : Int32) (a : Nat), lv_has ls nL lv → lv[a]? = some (n, .int x) → n < nL → (∀ ls' : Array Slot, lv_has ls' nL ((n, .int (x + Int32.ofInt q)) :: lv.filter (fun q => !(q.1 == n) && !(q.1 + 1 == n && q.2.category == 2))) → W p l e R s m args below meth c H locs cells slots Q (F0 m (pc + len) ls' rest)) → W p l e R s m args below meth c H locs cells slots Q (F0 m pc ls rest)) : mWk ad oq dC dI aI aB p l e R s m args below meth c cells slots Q LL A pc L st g := by
  intro H locs ls hH hL
  obtain ⟨h1, h2⟩ := mSt1_ok hck
  unfold mInc at h
  split at h
  next x hx =>
    obtain ⟨a, ha⟩ := List.getElem?_of_mem (mPr_mem ad oq hx)
    refine row H locs ls (st.map (mE ad oq)) (mPr ad oq L) x a (hLn ▸ hL.1) ha h1 (fun ls' h' => ?_)
    exact hn (L.set n (some (.inl (x + Int32.ofInt q)))) st g h hOs (mOl_set hOl trivial) (by rw [List.length_set]; exact hLn) H locs ls' hH (mLH_set ad oq F.2.2.2.2.2.2.2.2 hL rfl h2 (hLn ▸ h'))
  next => cases h
end STEP
end
section
/-! branches, stack, cells, calls, ends -/
section STEP2
variable {ad : Nat → Nat → Nat} {oq : Value} {dC : Nat → ClassId} {dI : Nat → Nat → Nat} {aI aB : ClassId} {X : mX}
variable {p : Program} {l : Launch} {e : Env} {R : Room} {s : State} {m : MethodId} {args : Array Value} {below : List Frame} {meth : Method} {c : Code} {cells slots : Nat} {Q : State → Prop}
variable {cc : ByteArray} {own : String} {LL : List Nat} {nL : Nat} {cp : List (Nat × Nat × Nat × Nat × Nat)} {dat : Nat → mDat} {A : Nat → Prop}
variable {k : mK} {nx full : List mT} {pc : Nat} {L : mL} {st : List mV} {g : mG} {res : Option mV × mG}
theorem mS_if1 {cd : ClassFile.Cond} {off : Int} {a : Nat} (F : mFx ad oq dC dI aI aB X p s m args c cc own nL cp dat A) (hd : decode cc pc = .ok (.ifCond cd off, 3)) (ht : (pc : Int) + off = (a : Int)) (hn : mNx ad oq dC dI aI aB p l e R s m args below meth c cells slots Q LL nL A k nx res (pc + 3)) (hj : mNx ad oq dC dI aI aB p l e R s m args below meth c cells slots Q LL nL A k (mDrop full a) res a) (h : mIf1 cd (mDrop full a) k nx L st g = some res) (hOs : mOs st) (hOl : mOl L) (hLn : L.length = nL) : mWk ad oq dC dI aI aB p l e R s m args below meth c cells slots Q LL A pc L st g := by
  obtain ⟨hx, hb, -⟩ := F
  intro H locs ls hH hL
  unfold mIf1 at h
  split at h
  next x r =>
    have kn := fun (h : k nx L r g = some res) => hn L r g h (mOs_t hOs) hOl hLn H locs ls hH hL
    have kj := fun (h : k (mDrop full a) L r g = some res) => hj L r g h (mOs_t hOs) hOl hLn H locs ls hH hL
    split at h
    · exact lv_if_eq (tgt := a) hx hb hd ht (fun q => kj (by rw [if_pos q] at h; exact h)) (fun q => kn (by rw [if_neg q] at h; exact h))
    · exact lv_if_ne (tgt := a) hx hb hd ht (fun q => kj (by rw [if_neg q] at h; exact h)) (fun q => kn (by rw [if_pos q] at h; exact h))
    · exact lv_if_lt (tgt := a) hx hb hd ht (fun q => kj (by rw [if_pos q] at h; exact h)) (fun q => kn (by rw [if_neg q] at h; exact h))
    · exact lv_if_ge (tgt := a) hx hb hd ht (fun q => kj (by rw [if_pos q] at h; exact h)) (fun q => kn (by rw [if_neg q] at h; exact h))
    · exact lv_if_gt (tgt := a) hx hb hd ht (fun q => kj (by rw [if_pos q] at h; exact h)) (fun q => kn (by rw [if_neg q] at h; exact h))
    · exact lv_if_le (tgt := a) hx hb hd ht (fun q => kj (by rw [if_pos q] at h; exact h)) (fun q => kn (by rw [if_neg q] at h; exact h))
  next => cases h
theorem mS_if2 {cd : ClassFile.Cond} {off : Int} {a : Nat} (F : mFx ad oq dC dI aI aB X p s m args c cc own nL cp dat A) (hd : decode cc pc = .ok (.if_icmp cd off, 3)) (ht : (pc : Int) + off = (a : Int)) (hn : mNx ad oq dC dI aI aB p l e R s m args below meth c cells slots Q LL nL A k nx res (pc + 3)) (hj : mNx ad oq dC dI aI aB p l e R s m args below meth c cells slots Q LL nL A k (mDrop full a) res a) (h : mIf2 cd (mDrop full a) k nx L st g = some res) (hOs : mOs st) (hOl : mOl L) (hLn : L.length = nL) : mWk ad oq dC dI aI aB p l e R s m args below meth c cells slots Q LL A pc L st g := by
  obtain ⟨hx, hb, -⟩ := F
  intro H locs ls hH hL
  unfold mIf2 at h
  split at h
  next y x r =>
    have kn := fun (h : k nx L r g = some res) => hn L r g h (mOs_t (mOs_t hOs)) hOl hLn H locs ls hH hL
    have kj := fun (h : k (mDrop full a) L r g = some res) => hj L r g h (mOs_t (mOs_t hOs)) hOl hLn H locs ls hH hL
    split at h
    · exact lv_icmp_eq (tgt := a) hx hb hd ht (fun q => kj (by rw [if_pos q] at h; exact h)) (fun q => kn (by rw [if_neg q] at h; exact h))
    · exact lv_icmp_ne (tgt := a) hx hb hd ht (fun q => kj (by rw [if_neg q] at h; exact h)) (fun q => kn (by rw [if_pos q] at h; exact h))
    · exact lv_icmp_lt (tgt := a) hx hb hd ht (fun q => kj (by rw [if_pos q] at h; exact h)) (fun q => kn (by rw [if_neg q] at h; exact h))
    · exact lv_icmp_ge (tgt := a) hx hb hd ht (fun q => kj (by rw [if_pos q] at h; exact h)) (fun q => kn (by rw [if_neg q] at h; exact h))
    · exact lv_icmp_gt (tgt := a) hx hb hd ht (fun q => kj (by rw [if_pos q] at h; exact h)) (fun q => kn (by rw [if_neg q] at h; exact h))
    · exact lv_icmp_le (tgt := a) hx hb hd ht (fun q => kj (by rw [if_pos q] at h; exact h)) (fun q => kn (by rw [if_neg q] at h; exact h))
  next => cases h
/-- where a switch leads -/
def mSwT (dflt : Nat) (x : Int32) : List (Int32 × Nat) → Nat
  | [] => dflt
  | q :: sw => if x = q.1 then q.2 else mSwT dflt x sw
theorem mSwG_eq (dflt : Nat) (r : List mV) (x : Int32) : ∀ sw : List (Int32 × Nat), mSwG full dflt k L r g x sw = k (mDrop full (mSwT dflt x sw)) L r g
  | [] => rfl
  | q :: sw => by
    unfold mSwG mSwT
    split
    · rfl
    · exact mSwG_eq dflt r x sw
theorem mSwT_no (dflt : Nat) (x : Int32) : ∀ sw : List (Int32 × Nat), (∀ q ∈ sw, x ≠ q.1) → mSwT dflt x sw = dflt
  | [], _ => rfl
  | q :: sw, h => by
    unfold mSwT
    rw [if_neg (h q List.mem_cons_self)]
    exact mSwT_no dflt x sw (fun r hr => h r (List.mem_cons_of_mem _ hr))
theorem mSwT_yes (dflt : Nat) (x : Int32) : ∀ (sw : List (Int32 × Nat)) (n : Nat) (q : Int32 × Nat), sw[n]? = some q → x = q.1 → (∀ a r, a < n → sw[a]? = some r → x ≠ r.1) → mSwT dflt x sw = q.2
  | [], _, _, h, _, _ => by cases h
  | r :: sw, n, q, h, hx, hn => by
    unfold mSwT
    cases n with
    | zero => cases h; rw [if_pos hx]
    | succ n =>
      rw [if_neg (hn 0 r (Nat.succ_pos n) rfl)]
      exact mSwT_yes dflt x sw n q h hx (fun a z ha hz => hn (a + 1) z (Nat.succ_lt_succ ha) hz)
theorem mTsw_at {lo : Int} {offs : List Int} {n : Nat} (h : n < offs.length) : (mTsw pc lo offs)[n]? = some (Int32.ofInt (lo + (n : Int)), ((pc : Int) + offs.getD n 0).toNat) := by
  unfold mTsw
  rw [List.getElem?_map, List.getElem?_range h]
  rfl
theorem mOfI {z : Int} (h1 : -1000 ≤ z) (h2 : z ≤ 1000) : (Int32.ofInt z).toInt = z := by
  rw [Int32.toInt_ofInt]
  simp only [Int.bmod, Int32.size]
  omega
theorem mS_tsw {dflt lo hi : Int} {offs : Array Int} {a b d len : Nat} {sw : List (Int32 × Nat)} (F : mFx ad oq dC dI aI aB X p s m args c cc own nL cp dat A) (hd : decode cc pc = .ok (.tableswitch dflt lo hi offs, len)) (hck : mCkI LL nL cp pc (.tableswitch dflt lo hi offs) a b d sw = true) (hj : ∀ t, mNx ad oq dC dI aI aB p l e R s m args below meth c cells slots Q LL nL A k (mDrop full t) res t) (h : mSw full a sw k L st g = some res) (hOs : mOs st) (hOl : mOl L) (hLn : L.length = nL) : mWk ad oq dC dI aI aB p l e R s m args below meth c cells slots Q LL A pc L st g := by
  obtain ⟨hx, hb, -⟩ := F
  intro H locs ls hH hL
  unfold mCkI at hck
  simp only [Bool.and_eq_true, decide_eq_true_eq] at hck
  obtain ⟨⟨⟨⟨⟨⟨h1, h2⟩, h3⟩, h4⟩, h5⟩, h6⟩, h7⟩ := hck
  unfold mSw at h
  split at h
  next x r =>
    rw [mSwG_eq] at h
    have kj := hj _ L r g h (mOs_t hOs) hOl hLn H locs ls hH hL
    have hsz : offs.size = offs.toList.length := (Array.length_toList).symm
    by_cases hin : x.toInt < lo ∨ hi < x.toInt
    · have e : mSwT a x sw = a := by
        refine mSwT_no a x sw (fun q hq e => ?_)
        rw [h2] at hq
        obtain ⟨n, hn, rfl⟩ := List.mem_map.mp hq
        have hn' := List.mem_range.mp hn
        rw [e] at hin
        rw [show (Int32.ofInt (lo + (n : Int)), ((pc : Int) + offs.toList.getD n 0).toNat).1 = Int32.ofInt (lo + (n : Int)) from rfl, mOfI (by omega) (by omega)] at hin
        omega
      rw [e] at kj
      exact lv_tableOut hx hb hd hin h1 kj
    · have g1 : ¬ x.toInt < lo := fun q => hin (Or.inl q)
      have g2 : ¬ hi < x.toInt := fun q => hin (Or.inr q)
      have hn : (x.toInt - lo).toNat < offs.toList.length := by omega
      have hc : ((x.toInt - lo).toNat : Int) = x.toInt - lo := by omega
      have hxo : x = Int32.ofInt (lo + ((x.toInt - lo).toNat : Int)) := by
        rw [hc, show lo + (x.toInt - lo) = x.toInt by omega, Int32.ofInt_toInt]
      have e : mSwT a x sw = ((pc : Int) + offs.toList.getD (x.toInt - lo).toNat 0).toNat := by
        rw [h2]
        refine mSwT_yes a x _ _ _ (mTsw_at hn) hxo (fun b z hb hz e => ?_)
        rw [mTsw_at (by omega)] at hz
        cases hz
        have := congrArg Int32.toInt e
        rw [show (Int32.ofInt (lo + (b : Int)), ((pc : Int) + offs.toList.getD b 0).toNat).1 = Int32.ofInt (lo + (b : Int)) from rfl, mOfI (by omega) (by omega)] at this
        omega
      have ho : offs[(x.toInt - lo).toNat]? = some (offs.toList.getD (x.toInt - lo).toNat 0) := by
        rw [← Array.getElem?_toList, List.getElem?_eq_getElem hn, List.getD_eq_getElem?_getD, List.getElem?_eq_getElem hn]
        rfl
      have hp : 0 ≤ (pc : Int) + offs.toList.getD (x.toInt - lo).toNat 0 := by
        have := List.all_eq_true.mp h6 (offs.toList.getD (x.toInt - lo).toNat 0) (by rw [List.getD_eq_getElem?_getD, List.getElem?_eq_getElem hn]; exact List.getElem_mem hn)
        exact of_decide_eq_true this
      rw [e] at kj
      exact lv_tableIn hx hb hd g1 g2 ho (by omega) kj
  next => cases h
theorem mS_dup (F : mFx ad oq dC dI aI aB X p s m args c cc own nL cp dat A) (hd : decode cc pc = .ok (.dup, 1)) (hn : mNx ad oq dC dI aI aB p l e R s m args below meth c cells slots Q LL nL A k nx res (pc + 1)) (h : mDup k nx L st g = some res) (hOs : mOs st) (hOl : mOl L) (hLn : L.length = nL) : mWk ad oq dC dI aI aB p l e R s m args below meth c cells slots Q LL A pc L st g := by
  obtain ⟨hx, hb, -, -, -, -, -, -, hq⟩ := F
  intro H locs ls hH hL
  unfold mDup at h
  split at h
  next x r => exact lv_dup hx hb hd rfl (hn L (.inl x :: .inl x :: r) g h (mOs_c trivial hOs) hOl hLn H locs ls hH hL)
  next x r =>
    refine lv_dup hx hb hd ?_ (hn L (.inr (.inr x) :: .inr (.inr x) :: r) g h (mOs_c (mOs_h hOs) hOs) hOl hLn H locs ls hH hL)
    unfold mE
    dsimp only
    split
    · exact hq
    · rfl
  next => cases h
theorem mS_dup2 (F : mFx ad oq dC dI aI aB X p s m args c cc own nL cp dat A) (hd : decode cc pc = .ok (.dup2, 1)) (hn : mNx ad oq dC dI aI aB p l e R s m args below meth c cells slots Q LL nL A k nx res (pc + 1)) (h : mDup2 k nx L st g = some res) (hOs : mOs st) (hOl : mOl L) (hLn : L.length = nL) : mWk ad oq dC dI aI aB p l e R s m args below meth c cells slots Q LL A pc L st g := by
  obtain ⟨hx, hb, -, -, -, -, -, -, hq⟩ := F
  intro H locs ls hH hL
  unfold mDup2 at h
  split at h
  next y x r =>
    refine lv_dup2_11 hx hb hd rfl ?_ (hn L (.inl y :: .inr (.inr x) :: .inl y :: .inr (.inr x) :: r) g h (mOs_c trivial (mOs_c (mOs_h (mOs_t hOs)) hOs)) hOl hLn H locs ls hH hL)
    unfold mE
    dsimp only
    split
    · exact hq
    · rfl
  next => cases h
theorem mS_pop (F : mFx ad oq dC dI aI aB X p s m args c cc own nL cp dat A) (hd : decode cc pc = .ok (.pop, 1)) (hn : mNx ad oq dC dI aI aB p l e R s m args below meth c cells slots Q LL nL A k nx res (pc + 1)) (h : mPop k nx L st g = some res) (hOs : mOs st) (hOl : mOl L) (hLn : L.length = nL) : mWk ad oq dC dI aI aB p l e R s m args below meth c cells slots Q LL A pc L st g := by
  obtain ⟨hx, hb, -⟩ := F
  intro H locs ls hH hL
  unfold mPop at h
  split at h
  next x r => exact lv_pop hx hb hd rfl (hn L r g h (mOs_t hOs) hOl hLn H locs ls hH hL)
  next => cases h
end STEP2
end
section
/-! cells -/
section STEP3
variable {ad : Nat → Nat → Nat} {oq : Value} {dC : Nat → ClassId} {dI : Nat → Nat → Nat} {aI aB : ClassId} {X : mX}
variable {p : Program} {l : Launch} {e : Env} {R : Room} {s : State} {m : MethodId} {args : Array Value} {below : List Frame} {meth : Method} {c : Code} {cells slots : Nat} {Q : State → Prop}
variable {cc : ByteArray} {own : String} {LL : List Nat} {nL : Nat} {cp : List (Nat × Nat × Nat × Nat × Nat)} {dat : Nat → mDat} {A : Nat → Prop}
variable {k : mK} {nx full : List mT} {pc : Nat} {L : mL} {st : List mV} {g : mG} {res : Option mV × mG}
theorem mLk_eq (pc : Nat) (dflt : Int) (a : Nat) (x : Int32) (hd : (pc : Int) + dflt = (a : Int)) : ∀ ps : List (Int × Int), (∀ q ∈ ps, 0 ≤ (pc : Int) + q.2 ∧ -1000 ≤ q.1 ∧ q.1 ≤ 1000) → (pc : Int) + Op.lookupswitch.offset ps dflt x.toInt = (mSwT a x (ps.map (fun q => (Int32.ofInt q.1, ((pc : Int) + q.2).toNat))) : Int)
  | [], _ => by rw [Op.lookupswitch.offset_nil]; exact hd
  | q :: ps, h => by
    obtain ⟨h1, h2, h3⟩ := h q List.mem_cons_self
    rw [Op.lookupswitch.offset_cons]
    show _ = ((if x = Int32.ofInt q.1 then ((pc : Int) + q.2).toNat else mSwT a x (ps.map (fun q => (Int32.ofInt q.1, ((pc : Int) + q.2).toNat))) : Nat) : Int)
    by_cases hx : x = Int32.ofInt q.1
    · have e : x.toInt = q.1 := by rw [hx, mOfI h2 h3]
      rw [if_pos hx, e]
      simp
      omega
    · have e : ¬ x.toInt = q.1 := fun z => hx (by rw [← z, Int32.ofInt_toInt])
      rw [if_neg hx, ← mLk_eq pc dflt a x hd ps (fun r hr => h r (List.mem_cons_of_mem _ hr))]
      simp [e, Ne.symm e, eq_comm]
theorem mS_lsw {dflt : Int} {ps : Array (Int × Int)} {a b d len : Nat} {sw : List (Int32 × Nat)} (F : mFx ad oq dC dI aI aB X p s m args c cc own nL cp dat A) (hd : decode cc pc = .ok (.lookupswitch dflt ps, len)) (hck : mCkI LL nL cp pc (.lookupswitch dflt ps) a b d sw = true) (hj : ∀ t, mNx ad oq dC dI aI aB p l e R s m args below meth c cells slots Q LL nL A k (mDrop full t) res t) (h : mSw full a sw k L st g = some res) (hOs : mOs st) (hOl : mOl L) (hLn : L.length = nL) : mWk ad oq dC dI aI aB p l e R s m args below meth c cells slots Q LL A pc L st g := by
  obtain ⟨hx, hb, -⟩ := F
  intro H locs ls hH hL
  unfold mCkI at hck
  simp only [Bool.and_eq_true, decide_eq_true_eq] at hck
  obtain ⟨⟨⟨h1, h2⟩, h3⟩, h4⟩ := hck
  unfold mSw at h
  split at h
  next x r =>
    rw [mSwG_eq] at h
    have kj := hj _ L r g h (mOs_t hOs) hOl hLn H locs ls hH hL
    refine lv_lookup hx hb hd h2 rfl ?_ kj
    rw [h3]
    refine mLk_eq pc dflt a x h1 ps.toList (fun q hq => ?_)
    have := List.all_eq_true.mp h4 q hq
    simp only [Bool.and_eq_true, decide_eq_true_eq] at this
    exact ⟨this.1.1, this.1.2, this.2⟩
  next => cases h
theorem mCp_in {q : Nat × Nat × Nat × Nat × Nat} {own : String} (F : mFx ad oq dC dI aI aB X p s m args c cc own nL cp dat A) (h : cp.contains q = true) : mCpO dat own q := F.2.2.2.2.2.2.2.1 q (List.contains_iff_mem.mp h)
/-- the words of the classes' fields are all in the tables -/
def mFl : Prop := ∀ (ci : Nat) (r : vw_C), mCLS[ci]? = some r → (∀ w ∈ u_ws r.1 r.2.1 r.2.2, w ∈ mGd) ∧ (∀ a, a < r.2.2 → ∀ b, b < r.2.2 → a ≠ b → (r.2.1 a).2.1 ≠ (r.2.1 b).2.1) ∧ ∃ ty : Nat → FieldType, (∀ k, k < r.2.2 → parseFieldDescriptor (r.2.1 k).2.2.1 = some (ty k)) ∧
  ∀ (j k : Nat), mCls j = some ci → k < r.2.2 → (∀ i, mRef i j k = none) → (ty k = (if mBoF j k then .boolean else .int)) ∧ ((r.2.1 k).2.2.2 = false ∨ (ci = 4 ∧ k = 0))
theorem mS_get {i a b d : Nat} (F : mFx ad oq dC dI aI aB X p s m args c cc own nL cp dat A) (hfl : mFl) (hd : decode cc pc = .ok (.getfield i, 3)) (hck : cp.contains (0, i, a, b, d) = true) (hn : mNx ad oq dC dI aI aB p l e R s m args below meth c cells slots Q LL nL A k nx res (pc + 3)) (h : mGet a b k nx L st g = some res) (hOs : mOs st) (hOl : mOl L) (hLn : L.length = nL) : mWk ad oq dC dI aI aB p l e R s m args below meth c cells slots Q LL A pc L st g := by
  have hcp := mCp_in F hck
  obtain ⟨hx, hb, hml, hown, hts, hK, hRo, hcps, hq⟩ := F
  intro H locs ls hH hL
  obtain ⟨hP, hD, hS⟩ := id hH
  unfold mGet at h
  split at h
  next i0 j0 r =>
    have hO := mOs_h hOs
    split at h
    next ha =>
      have ha : a = 7 := Nat.eq_of_beq_eq_true ha
      split at h
      next hj =>
        have hj : j0 = 24 := Nat.eq_of_beq_eq_true hj
        subst hj
        have hi : i0 < 18 := by
          rcases hO with q | q
          · have z : 24 ≤ 23 := (mCL_99 _ q).2
            exact absurd z (by decide)
          · have : ∀ q ∈ mROL, q.2 = 24 → q.1 < 18 := by decide +kernel
            exact this _ q rfl
        obtain ⟨-, f2, f3⟩ := hRo.2.1 i0 hi
        have e99 : i0 ≠ 99 := by omega
        split at h
        next =>
          have hw : Cond.fieldLink own i "java/lang/String" "value" "[B" ∈ mGd := by
            rcases hcp with ⟨-, -, q⟩ | ⟨-, q, -⟩ | ⟨r, q, -⟩
            · exact q
            · cases q
            · rw [ha] at q; cases q
          have kk := hn L (.inr (.inr (i0, 25)) :: r) g h (mOs_c (Or.inr (by
            have : ∀ n ∈ List.range 18, (n, 25) ∈ mROL := by decide +kernel
            exact this i0 (List.mem_range.mpr hi))) (mOs_t hOs)) hOl hLn H locs ls hH hL
          rw [List.map_cons, mE_ref e99] at kk ⊢
          exact vk_getf hx hb f3 hS hown (hts _ hw) (fun _ z => z) hd kk
        next hb0 =>
          have hw : Cond.fieldLink own i "java/lang/String" "coder" "B" ∈ mGd := by
            rcases hcp with ⟨-, q, -⟩ | ⟨-, -, q⟩ | ⟨r, q, -⟩
            · exact absurd q hb0
            · exact q
            · rw [ha] at q; cases q
          have kk := hn L (.inl 0 :: r) g h (mOs_c trivial (mOs_t hOs)) hOl hLn H locs ls hH hL
          rw [List.map_cons] at kk
          rw [List.map_cons, mE_ref e99]
          exact vk_getf hx hb f2 hS hown (hts _ hw) (fun _ z => z) hd kk
      next => cases h
    next ha =>
      have ha : a ≠ 7 := fun z => by rw [z] at ha; cases ha
      split at h
      next ci hci =>
        split at h
        next hca =>
          have hca : ci = a := Nat.eq_of_beq_eq_true hca
          subst hca
          obtain ⟨r0, w1, w2, w3⟩ : ∃ r, mCLS[ci]? = some r ∧ b < r.2.2 ∧ Cond.fieldLink own i (r.2.1 b).1 (r.2.1 b).2.1 (r.2.1 b).2.2.1 ∈ mGd := by
            rcases hcp with ⟨q, -⟩ | ⟨q, -⟩ | q
            · exact absurd q ha
            · exact absurd q ha
            · exact q
          have hCL : (i0, j0) ∈ mCL := mIn_obj hO hci
          obtain ⟨n, n1, n2⟩ := mWs_at ad aI aB (g := g) hCL
          rw [mEnt_obj (q := (i0, j0)) hci] at n2
          obtain ⟨f1, -, -⟩ := hfl ci r0 w1
          have hbn : b < mNF ci := by rw [mCLS_nf ci r0 w1]; exact w2
          have hv : ((List.range (mNF ci)).map (fun k => mFv ad g i0 j0 k))[b]? = some (mFv ad g i0 j0 b) := by
            rw [List.getElem?_map, List.getElem?_range hbn]; rfl
          rw [List.map_cons, mE_refIn (ad := ad) (oq := oq) hCL]
          refine va_get (D := (dC, dI)) (ci := ci) (v := mFv ad g i0 j0 b) (C := r0.1) (T := r0.2.1) (N := r0.2.2) hx hb hts f1 hown hK hP n n2 w1 b w2 (hts _ w3) (fun _ z => z) hv hd ?_
          split at h
          next q hq2 =>
            have hqin : q ∈ mCL := mCL_ref _ hCL b (List.mem_range.mpr (Nat.lt_of_lt_of_le hbn (by
              have : ∀ ci, mNF ci ≤ 21 := by
                intro ci; unfold mNF; split <;> decide
              exact this ci))) q hq2
            have kk := hn L (.inr (.inr q) :: r) g h (mOs_c (Or.inl hqin) (mOs_t hOs)) hOl hLn H locs ls hH hL
            rw [List.map_cons, mE_refIn (ad := ad) (oq := oq) hqin] at kk
            unfold mFv
            rw [hq2]
            exact kk
          next hq2 =>
            unfold mFv
            rw [hq2]
            dsimp only
            split at h
            next hbo =>
              rw [hbo]
              exact hn L (.inl (g i0 j0 b &&& 1) :: r) g h (mOs_c trivial (mOs_t hOs)) hOl hLn H locs ls hH hL
            next hbo =>
              rw [hbo]
              exact hn L (.inl (g i0 j0 b) :: r) g h (mOs_c trivial (mOs_t hOs)) hOl hLn H locs ls hH hL
        next => cases h
      next => cases h
  next => cases h
end STEP3
end
section
/-! stores, statics, rows -/
section STEP4
variable {ad : Nat → Nat → Nat} {oq : Value} {dC : Nat → ClassId} {dI : Nat → Nat → Nat} {aI aB : ClassId} {X : mX}
variable {p : Program} {l : Launch} {e : Env} {R : Room} {s : State} {m : MethodId} {args : Array Value} {below : List Frame} {meth : Method} {c : Code} {cells slots : Nat} {Q : State → Prop}
variable {cc : ByteArray} {own : String} {LL : List Nat} {nL : Nat} {cp : List (Nat × Nat × Nat × Nat × Nat)} {dat : Nat → mDat} {A : Nat → Prop}
variable {k : mK} {nx full : List mT} {pc : Nat} {L : mL} {st : List mV} {g : mG} {res : Option mV × mG}
theorem mRef_any {i j k0 : Nat} (h : mRef i j k0 = none) (i' : Nat) : mRef i' j k0 = none := by
  unfold mRef at h ⊢
  split at h <;> first | rfl | (split at h <;> first | rfl | cases h)
theorem mS_put {i a b d : Nat} (F : mFx ad oq dC dI aI aB X p s m args c cc own nL cp dat A) (hfl : mFl) (hd : decode cc pc = .ok (.putfield i, 3)) (hck : cp.contains (0, i, a, b, d) = true) (h7 : (Nat.blt a 7 && !(Nat.beq a 4 && Nat.beq b 0)) = true) (hn : mNx ad oq dC dI aI aB p l e R s m args below meth c cells slots Q LL nL A k nx res (pc + 3)) (h : mPut a b k nx L st g = some res) (hOs : mOs st) (hOl : mOl L) (hLn : L.length = nL) : mWk ad oq dC dI aI aB p l e R s m args below meth c cells slots Q LL A pc L st g := by
  have hcp := mCp_in F hck
  obtain ⟨hx, hb, hml, hown, hts, hK, hRo, hcps, hq⟩ := F
  intro H locs ls hH hL
  obtain ⟨hP, hD, hS⟩ := id hH
  rw [Bool.and_eq_true] at h7
  have ha7 : a < 7 := Nat.blt_eq.mp h7.1
  unfold mPut at h
  split at h
  next v i0 j0 r =>
    split at h
    next ci hci =>
      split at h
      next hca =>
        have hca : ci = a := Nat.eq_of_beq_eq_true hca
        subst hca
        split at h
        next => cases h
        next hr =>
          obtain ⟨r0, w1, w2, w3⟩ : ∃ r, mCLS[ci]? = some r ∧ b < r.2.2 ∧ Cond.fieldLink own i (r.2.1 b).1 (r.2.1 b).2.1 (r.2.1 b).2.2.1 ∈ mGd := by
            rcases hcp with ⟨q, -⟩ | ⟨q, -⟩ | q
            · have q : ci = 7 := q
              omega
            · have q : ci = 7 := q
              omega
            · exact q
          have hCL : (i0, j0) ∈ mCL := mIn_obj (mOs_h (mOs_t hOs)) hci
          obtain ⟨n, n1, n2⟩ := mWs_at ad aI aB (g := g) hCL
          rw [mEnt_obj (q := (i0, j0)) hci] at n2
          obtain ⟨f1, f2, ty, f3, f4⟩ := hfl ci r0 w1
          obtain ⟨f5, f6⟩ := f4 j0 b hci w2 (mRef_any hr)
          have hfin : (r0.2.1 b).2.2.2 = false := by
            rcases f6 with q | ⟨q1, q2⟩
            · exact q
            · have := h7.2
              rw [q1, q2] at this
              cases this
          have hbn : b < mNF ci := by rw [mCLS_nf ci r0 w1]; exact w2
          have key : narrow (ty b) (.int v) = .int v ∧ fits (ty b) (.int v) = true ∧ k nx L r (mU g i0 (mP (g i0) j0 b v)) = some res ∧ (mBoF j0 b = true → v &&& 1 = v) := by
            split at h
            next hbo =>
              split at h
              next hv =>
                rw [f5, if_pos hbo]
                exact ⟨(mNar_b hv).1, (mNar_b hv).2, h, fun _ => hv⟩
              next => cases h
            next hbo =>
              rw [f5, if_neg (by rw [hbo]; decide)]
              exact ⟨rfl, rfl, h, fun z => by rw [hbo] at z; cases z⟩
          obtain ⟨g1, g2, g3, g4⟩ := key
          rw [List.map_cons, List.map_cons, mE_refIn (ad := ad) (oq := oq) hCL]
          refine va_put (D := (dC, dI)) (ci := ci) (v := .int v) (ty := ty b) (C := r0.1) (T := r0.2.1) (N := r0.2.2) hx hb hts f1 ty f3 f2 hown hK hP hD hS n n2 w1 b w2 (hts _ w3) (fun _ z => z) hfin (f3 b w2) g1 g2 (by simpa using hbn) hd (fun H1 locs1 hP1 _ hS1 => ?_)
          refine hn L r _ g3 (mOs_t (mOs_t hOs)) hOl hLn H1 locs1 ls (mHp_set (q := (i0, j0)) n1 ?_ (fun j' hj' => mP_other _ _ _ _ _ hj') hP1 hD hS1) hL
          rw [mEnt_obj (q := (i0, j0)) hci]
          exact congrArg (fun z => Sum.inr (ci, z)) (mFv_set hr hbn g4)
      next => cases h
    next => cases h
  next => cases h
theorem mS_gets {i a b d : Nat} (F : mFx ad oq dC dI aI aB X p s m args c cc own nL cp dat A) (hd : decode cc pc = .ok (.getstatic i, 3)) (hck : cp.contains (1, i, a, b, d) = true) (hn : mNx ad oq dC dI aI aB p l e R s m args below meth c cells slots Q LL nL A k nx res (pc + 3)) (h : mGetS a b k nx L st g = some res) (hOs : mOs st) (hOl : mOl L) (hLn : L.length = nL) : mWk ad oq dC dI aI aB p l e R s m args below meth c cells slots Q LL A pc L st g := by
  have hcp := mCp_in F hck
  obtain ⟨hx, hb, hml, hown, hts, hK, hRo, hcps, hq⟩ := F
  intro H locs ls hH hL
  obtain ⟨hP, hD, hS⟩ := id hH
  obtain ⟨-, -, z1, z2, z3, -, z4⟩ := hRo
  unfold mGetS at h
  split at h
  next =>
    obtain ⟨h1, h2⟩ : (27 ≤ b ∧ b ≤ 29) ∧ (Cond.fieldLink own i "RingedLights" (mStN b) "[I" ∈ mGd ∨ Cond.fieldLinkNest own i "RingedLights" (mStN b) "[I" "RingedLights" ∈ mNest) := by
      rcases hcp with ⟨-, q⟩ | ⟨q, -⟩ | ⟨q, -⟩
      · exact q
      · cases q
      · cases q
    have hin : mIn (9, b) := by
      have : b = 27 ∨ b = 28 ∨ b = 29 := by omega
      rcases this with rfl | rfl | rfl <;> exact Or.inr (by decide +kernel)
    have kk := hn L (.inr (.inr (9, b)) :: st) g h (mOs_c hin hOs) hOl hLn H locs ls hH hL
    rw [List.map_cons, mE_ref (by decide)] at kk
    rcases h2 with h2 | h2
    · exact va_gets hx hb (z1 b h1) hS hown (hts _ h2) (fun _ z => z) hd kk
    · exact va_getsN hx hb (z1 b h1) hS hown (va_Nw.use (mNest_tab h2) (z4 _ h2)) (fun _ z => z) hd kk
  next =>
    have h2 : Cond.fieldLink own i "java/lang/String" "COMPACT_STRINGS" "Z" ∈ mGd := by
      rcases hcp with ⟨q, -⟩ | ⟨-, q⟩ | ⟨q, -⟩
      · cases q
      · exact q
      · cases q
    have kk := hn L (.inl 1 :: st) g h (mOs_c trivial hOs) hOl hLn H locs ls hH hL
    exact va_gets hx hb z2 hS hown (hts _ h2) (fun _ z => z) hd kk
  next =>
    have h2 : Cond.fieldLink own i "jdk/internal/util/Preconditions" "SIOOBE_FORMATTER" "Ljava/util/function/BiFunction;" ∈ mGd := by
      rcases hcp with ⟨q, -⟩ | ⟨q, -⟩ | ⟨-, q⟩
      · cases q
      · cases q
      · exact q
    have kk := hn L (.inr (.inr (99, 99)) :: st) g h (mOs_c (Or.inr (by decide +kernel)) hOs) hOl hLn H locs ls hH hL
    exact va_gets hx hb z3 hS hown (hts _ h2) (fun _ z => z) hd kk
  next => cases h
theorem mStr_lt : ∀ q ∈ mStrL, q.2.2.2 < 18 := by decide +kernel
theorem mS_ldc {i a b d : Nat} (F : mFx ad oq dC dI aI aB X p s m args c cc own nL cp dat A) (hd : decode cc pc = .ok (.ldc i, 2)) (hck : cp.contains (3, i, a, b, d) = true) (hn : mNx ad oq dC dI aI aB p l e R s m args below meth c cells slots Q LL nL A k nx res (pc + 2)) (h : k nx L (.inr (.inr (a, 24)) :: st) g = some res) (hOs : mOs st) (hOl : mOl L) (hLn : L.length = nL) : mWk ad oq dC dI aI aB p l e R s m args below meth c cells slots Q LL A pc L st g := by
  have hcp := mCp_in F hck
  obtain ⟨hx, hb, hml, hown, hts, hK, hRo, hcps, hq⟩ := F
  intro H locs ls hH hL
  obtain ⟨-, -, -, -, -, z5, -⟩ := hRo
  obtain ⟨tx, ht⟩ := hcp
  have ha : a < 18 := mStr_lt _ ht
  have hin : mIn (a, 24) := Or.inr (by
    have : ∀ n ∈ List.range 18, (n, 24) ∈ mROL := by decide +kernel
    exact this a (List.mem_range.mpr ha))
  have kk := hn L _ g h (mOs_c hin hOs) hOl hLn H locs ls hH hL
  rw [List.map_cons, mE_ref (by omega)] at kk
  exact va_ldcS hx hb hown (z5 _ ht) hd kk
theorem mS_ldc2 {i a b d : Nat} (F : mFx ad oq dC dI aI aB X p s m args c cc own nL cp dat A) (hd : decode cc pc = .ok (.ldc2_w i, 3)) (hck : cp.contains (4, i, a, b, d) = true) (hn : mNx ad oq dC dI aI aB p l e R s m args below meth c cells slots Q LL nL A k nx res (pc + 3)) (h : k nx L (.inr (.inl (Int64.ofNat a)) :: st) g = some res) (hOs : mOs st) (hOl : mOl L) (hLn : L.length = nL) : mWk ad oq dC dI aI aB p l e R s m args below meth c cells slots Q LL A pc L st g := by
  have hcp := mCp_in F hck
  obtain ⟨hx, hb, hml, hown, hts, hK, hRo, hcps, hq⟩ := F
  intro H locs ls hH hL
  exact lv_ldc2 hx hb hown (hts _ hcp) hd (hn L _ g h (mOs_c trivial hOs) hOl hLn H locs ls hH hL)
theorem mRd_RO {i j n : Nat} (h : 23 < j) : mRd X g i j n = mRO X i j n := by
  unfold mRd
  cases hb : Nat.ble j 23 with
  | true => exact absurd (Nat.le_of_ble_eq_true hb) (by omega)
  | false => rfl
theorem mRd_g {i j n : Nat} (h : j ≤ 23) : mRd X g i j n = g i j n := by
  unfold mRd
  rw [Nat.ble_eq_true_of_le h]
theorem mRO_j : ∀ q ∈ mROL, q.2 = 24 ∨ 25 ≤ q.2 := by decide +kernel
theorem mS_ald {bt : Bool} (F : mFx ad oq dC dI aI aB X p s m args c cc own nL cp dat A) (hd : decode cc pc = .ok ((if bt then .baload else .iaload), 1)) (hn : mNx ad oq dC dI aI aB p l e R s m args below meth c cells slots Q LL nL A k nx res (pc + 1)) (h : mAld X bt k nx L st g = some res) (hOs : mOs st) (hOl : mOl L) (hLn : L.length = nL) : mWk ad oq dC dI aI aB p l e R s m args below meth c cells slots Q LL A pc L st g := by
  obtain ⟨hx, hb, hml, hown, hts, hK, hRo, hcps, hq⟩ := F
  intro H locs ls hH hL
  obtain ⟨hP, hD, hS⟩ := id hH
  unfold mAld at h
  split at h
  next ix i0 j0 r =>
    have hO : mIn (i0, j0) := mOs_h (mOs_t hOs)
    split at h
    next n b hA =>
      split at h
      next hbt =>
        subst hbt
        split at h
        next => cases h
        next hix =>
          have kk := hn L _ g h (mOs_c trivial (mOs_t (mOs_t hOs))) hOl hLn H locs ls hH hL
          rw [List.map_cons] at kk
          rw [List.map_cons, List.map_cons]
          rcases hO with hC | hC
          · have hj : j0 ≤ 23 := (mCL_99 _ hC).2
            rw [mRd_g hj] at kk
            obtain ⟨n0, n1, n2⟩ := mWs_at ad aI aB (g := g) hC
            rw [mE_refIn (ad := ad) (oq := oq) hC]
            cases b
            · rw [mEnt_arrI (q := (i0, j0)) hj hA] at n2
              exact va_iald hx hb hK hP n0 0 n2 rfl hix hd kk
            · rw [mEnt_arrB (q := (i0, j0)) hj hA] at n2
              exact va_bald hx hb hK hP n0 1 n2 rfl hix hd kk
          · have hj : 25 ≤ j0 := by
              rcases mRO_j _ hC with q | q
              · have q : j0 = 24 := q
                subst q; cases hA
              · exact q
            have e99 : i0 ≠ 99 := by
              intro e
              have : ∀ q ∈ mROL, q.1 = 99 → q.2 = 99 := by decide +kernel
              have q : j0 = 99 := this _ hC e
              subst q
              cases hA
            rw [mRd_RO (by omega)] at kk
            rw [mE_ref e99]
            obtain ⟨cell, c1, c2, c3, c4, c5, c6, c7⟩ := (hRo.1 i0 j0 n b (Or.inr hC) hj hA).kept hS.2.1
            have hlt : ix.toNatClampNeg < n := Nat.not_le.mp fun q => hix (Or.inr q)
            cases b
            · exact W.iald hx hb c1 c2 c3 (fun q => q.elim (fun z => hix (Or.inl z)) (fun z => absurd z (by omega))) (c6 _ hlt) rfl rfl hd kk
            · exact W.bald hx hb c1 c2 c3 (fun q => q.elim (fun z => hix (Or.inl z)) (fun z => absurd z (by omega))) (c6 _ hlt) rfl rfl hd kk
      next => cases h
    next => cases h
  next => cases h
theorem mS_ast {bt : Bool} (F : mFx ad oq dC dI aI aB X p s m args c cc own nL cp dat A) (hd : decode cc pc = .ok ((if bt then .bastore else .iastore), 1)) (hn : mNx ad oq dC dI aI aB p l e R s m args below meth c cells slots Q LL nL A k nx res (pc + 1)) (h : mAst X bt k nx L st g = some res) (hOs : mOs st) (hOl : mOl L) (hLn : L.length = nL) : mWk ad oq dC dI aI aB p l e R s m args below meth c cells slots Q LL A pc L st g := by
  obtain ⟨hx, hb, hml, hown, hts, hK, hRo, hcps, hq⟩ := F
  intro H locs ls hH hL
  obtain ⟨hP, hD, hS⟩ := id hH
  unfold mAst at h
  split at h
  next v ix i0 j0 r =>
    have hO : mIn (i0, j0) := mOs_h (mOs_t (mOs_t hOs))
    split at h
    next n b hA =>
      split at h
      next hbt =>
        subst hbt
        split at h
        next => cases h
        next hix =>
          split at h
          next hj =>
            have hj : j0 ≤ 23 := Nat.le_of_ble_eq_true hj
            have hC : (i0, j0) ∈ mCL := mIn_arr hO hj
            obtain ⟨n0, n1, n2⟩ := mWs_at ad aI aB (g := g) hC
            rw [List.map_cons, List.map_cons, List.map_cons, mE_refIn (ad := ad) (oq := oq) hC]
            cases b
            · rw [mEnt_arrI (q := (i0, j0)) hj hA] at n2
              refine va_iast hx hb hK hP hD hS n0 0 n2 rfl hix hd (fun H1 locs1 hP1 _ hS1 => ?_)
              refine hn L r _ h (mOs_t (mOs_t (mOs_t hOs))) hOl hLn H1 locs1 ls (mHp_set (q := (i0, j0)) n1 ?_ (fun j' hj' => mP_other _ _ _ _ _ hj') hP1 hD hS1) hL
              rw [mEnt_arrI (q := (i0, j0)) hj hA, mU_same, mP_upd]
              rfl
            · rw [mEnt_arrB (q := (i0, j0)) hj hA] at n2
              refine va_bast hx hb hK hP hD hS n0 1 n2 rfl hix hd (fun H1 locs1 hP1 _ hS1 => ?_)
              refine hn L r _ h (mOs_t (mOs_t (mOs_t hOs))) hOl hLn H1 locs1 ls (mHp_set (q := (i0, j0)) n1 ?_ (fun j' hj' => mP_other _ _ _ _ _ hj') hP1 hD hS1) hL
              rw [mEnt_arrB (q := (i0, j0)) hj hA, mU_same, mP_upd, vp_nar_byte]
              rfl
          next => cases h
      next => cases h
    next => cases h
  next => cases h
theorem mS_len (F : mFx ad oq dC dI aI aB X p s m args c cc own nL cp dat A) (hd : decode cc pc = .ok (.arraylength, 1)) (hn : mNx ad oq dC dI aI aB p l e R s m args below meth c cells slots Q LL nL A k nx res (pc + 1)) (h : mLen X k nx L st g = some res) (hOs : mOs st) (hOl : mOl L) (hLn : L.length = nL) : mWk ad oq dC dI aI aB p l e R s m args below meth c cells slots Q LL A pc L st g := by
  obtain ⟨hx, hb, hml, hown, hts, hK, hRo, hcps, hq⟩ := F
  intro H locs ls hH hL
  obtain ⟨hP, hD, hS⟩ := id hH
  unfold mLen at h
  split at h
  next i0 j0 r =>
    have hO : mIn (i0, j0) := mOs_h hOs
    split at h
    next n b hA =>
      have kk := hn L _ g h (mOs_c trivial (mOs_t hOs)) hOl hLn H locs ls hH hL
      rw [List.map_cons] at kk
      rw [List.map_cons]
      rcases hO with hC | hC
      · have hj : j0 ≤ 23 := (mCL_99 _ hC).2
        obtain ⟨n0, n1, n2⟩ := mWs_at ad aI aB (g := g) hC
        rw [mE_refIn (ad := ad) (oq := oq) hC]
        cases b
        · rw [mEnt_arrI (q := (i0, j0)) hj hA] at n2
          exact va_alen hx hb hK hP n0 0 n2 (ty := .int) rfl rfl hd kk
        · rw [mEnt_arrB (q := (i0, j0)) hj hA] at n2
          exact va_alen hx hb hK hP n0 1 n2 (ty := .byte) rfl rfl hd kk
      · have hj : 25 ≤ j0 := by
          rcases mRO_j _ hC with q | q
          · have q : j0 = 24 := q
            subst q; cases hA
          · exact q
        have e99 : i0 ≠ 99 := by
          intro e
          have : ∀ q ∈ mROL, q.1 = 99 → q.2 = 99 := by decide +kernel
          have q : j0 = 99 := this _ hC e
          subst q
          cases hA
        rw [mE_ref e99]
        obtain ⟨cell, c1, c2, c3, c4, c5, c6, c7⟩ := (hRo.1 i0 j0 n b (Or.inr hC) hj hA).kept hS.2.1
        exact W.alen hx hb c1 c2 c5 rfl rfl hd kk
    next => cases h
  next => cases h
end STEP4
end
section
/-! copies, calls -/
section STEP5
variable {ad : Nat → Nat → Nat} {oq : Value} {dC : Nat → ClassId} {dI : Nat → Nat → Nat} {aI aB : ClassId} {X : mX}
variable {p : Program} {l : Launch} {e : Env} {R : Room} {s : State} {m : MethodId} {args : Array Value} {below : List Frame} {meth : Method} {c : Code} {cells slots : Nat} {Q : State → Prop}
variable {cc : ByteArray} {own : String} {LL : List Nat} {nL : Nat} {cp : List (Nat × Nat × Nat × Nat × Nat)} {dat : Nat → mDat} {A : Nat → Prop}
variable {k : mK} {nx full : List mT} {pc : Nat} {L : mL} {st : List mV} {g : mG} {res : Option mV × mG}
theorem mCat_le {r : List mV} (hq : oq.category = 1) : (((r.map (mE ad oq)).map fun v => v.category).sum) ≤ 2 * r.length := by
  induction r with
  | nil => exact Nat.le_refl _
  | cons v r ih =>
    have h1 : (mE ad oq v).category ≤ 2 := by
      rcases lv_cat (mE ad oq v) with z | z <;> omega
    simp only [List.map_cons, List.sum_cons, List.length_cons]
    omega
theorem mS_copy {i a b d : Nat} (F : mFx ad oq dC dI aI aB X p s m args c cc own nL cp dat A) (hR1 : 1 ≤ R.frames) (hR2 : 8 + (nativeFrameWords "java/lang/System" "arraycopy" 5 + 11) ≤ R.locals) (hw : Cond.native arraycopyName ∈ mGd ∧ Cond.static arraycopyName ∈ mGd ∧ Cond.initialized "java/lang/System" ∈ mGd) (hd : decode cc pc = .ok (.invokestatic i, 3)) (hck : cp.contains (5, i, a, b, d) = true) (hn : mNx ad oq dC dI aI aB p l e R s m args below meth c cells slots Q LL nL A k nx res (pc + 3)) (h : mCopy X k nx L st g = some res) (hOs : mOs st) (hOl : mOl L) (hLn : L.length = nL) : mWk ad oq dC dI aI aB p l e R s m args below meth c cells slots Q LL A pc L st g := by
  have hcp := mCp_in F hck
  obtain ⟨hx, hb, hml, hown, hts, hK, hRo, hcps, hq⟩ := F
  intro H locs ls hH hL
  obtain ⟨hP, hD, hS⟩ := id hH
  unfold mCopy at h
  split at h
  next n dp i2 j2 sp i1 j1 r =>
    split at h
    next n1 n2 hA1 hA2 =>
      split at h
      next hc =>
        obtain ⟨rfl, rfl, h3, h4, h5, h6, h7, h8⟩ := hc
        have O1 : mIn (i1, j1) := mOs_h (mOs_t (mOs_t (mOs_t (mOs_t hOs))))
        have O2 : mIn (i2, j2) := mOs_h (mOs_t (mOs_t hOs))
        have C1 := mIn_arr O1 h6
        have C2 := mIn_arr O2 h7
        obtain ⟨q1, a1, a2⟩ := mWs_at ad aI aB (g := g) C1
        obtain ⟨q2, b1, b2⟩ := mWs_at ad aI aB (g := g) C2
        rw [mEnt_arrI (q := (i1, j1)) h6 hA1] at a2
        rw [mEnt_arrI (q := (i2, j2)) h7 hA2] at b2
        simp only [List.map_cons]
        rw [mE_refIn (ad := ad) (oq := oq) C1, mE_refIn (ad := ad) (oq := oq) C2]
        have hcat := mCat_le (ad := ad) (r := r) hq
        have z0 : (0 : Int32).toNatClampNeg = 0 := by decide
        refine va_copyi hx hb (by rw [hml, ← hLn]; exact hL.1.1.symm) hown (hts _ hcp) (hts _ hw.1) (hts _ hw.2.1) (hts _ hw.2.2) hK hP hD hS q1 q2 0 0 a2 b2 rfl rfl rfl (by decide) (by decide) h3 (by rw [z0]; omega) (by rw [z0]; omega) (fun _ _ => rfl) hR1 (by omega) hd (fun H1 locs1 hP1 _ hS1 => ?_)
        refine hn L r _ h (mOs_t (mOs_t (mOs_t (mOs_t (mOs_t hOs))))) hOl hLn H1 locs1 ls (mHp_set (q := (i2, j2)) b1 ?_ (fun j' hj' => mA_other _ _ _ _ hj') hP1 hD hS1) hL
        rw [mEnt_arrI (q := (i2, j2)) h7 hA2, mU_same]
        congr 4
        funext q
        show va_cpy (g i1 j1) (g i2 j2) _ _ _ q = mA (g i2) j2 _ j2 q
        unfold va_cpy mA
        rw [if_pos rfl, z0]
        simp
      next => cases h
    next => cases h
  next => cases h
/-- behind a call -/
theorem mCallK {A1 : Nat → Prop} {H : Heap} {locs : List Loc} {ls : Array Slot} {st0 rest : List Value} {Qa : State → Outcome → State → Prop} {v : Option Value} {Po : Heap → Prop}
    (hr : va_Run p l e R s m args below meth c H locs cells slots 0 0 (F0 m pc ls st0) rest Qa A1) (hS : va_S A s.heap H locs) (hA : ∀ q, A1 q → A q)
    (hq : ∀ st oc t, Qa st oc t → oc = .returned v ∧ Po t.heap ∧ va_F A1 st t)
    (kk : ∀ (H1 : Heap) (locs1 : List Loc), Po H1 → va_S A s.heap H1 locs1 → W p l e R s m args below meth c H1 locs1 cells slots Q (F0 m (pc + 3) ls (v.toList ++ rest))) : W p l e R s m args below meth c H locs cells slots Q (F0 m pc ls st0) := by
  intro T hT X
  obtain ⟨v', st₀, t, T', L, h0, X', hL, e1, e2, hQ, st⟩ := hr T hT X
  obtain ⟨hv, hp, hz, hk⟩ := hq _ _ _ hQ
  cases hv
  rw [h0] at hz hk
  obtain ⟨t2, a1, b1⟩ := kk T'.heap (locs ++ L) (by rw [e1]; exact hp)
    ⟨Nat.le_trans hS.1 (by rw [e1]; exact hz), fun q h1 h2 => by rw [e1, hk q (Nat.lt_of_lt_of_le h1 hS.1) (fun z => h2 (hA q z))]; exact hS.2.1 q h1 h2, fun q hq => by
      rcases List.mem_append.mp hq with h | h
      · exact hS.2.2 q h
      · exact hA _ (hL q h)⟩ T' rfl X'
  exact ⟨t2, st t2 a1, b1⟩
theorem mGoodWs {q : mDat} (h : mMO q) : GoodIn mGd (Cond.code (mdY q) (mdB q) (mdL q) (mdR q) :: mGd) := fun w hw => by
  rcases List.mem_cons.mp hw with rfl | hw
  · exact mGd_good h.1
  · exact mGd_good hw
theorem mBlind {g : mG} {A1 : Nat → Prop} {vs : List Value} : FrameBlind (va_Pc vs (fun U => va_P (dC, dI) mCLS (mWs ad aI aB g) U.heap ∧ va_D A1 (mWs ad aI aB g) ∧ va_K (dC, dI) mCLS [(aI, .int), (aB, .byte)] U ∧ mRo ad oq X A1 U)) := by
  rintro a U g' mk ⟨q0, q1, q2, q3, q4⟩
  exact ⟨q0, q1, q2, va_K.moved (u := U) (U := U.calling g' mk a) (Vm.Alike.refl U.vm) q3, mRo_same ad oq X q4 rfl rfl⟩
theorem mArgs_eq {ci : Nat} {vs : List mV} (h : mArgOk ci vs = true) (hci : ci ≠ 99) : ∃ (i j : Nat) (r : List mV), vs = .inr (.inr (i, j)) :: r ∧ ((ci = 7 ∧ j = 24) ∨ (ci ≠ 7 ∧ mCls j = some ci)) := by
  unfold mArgOk at h
  rw [Bool.and_eq_true] at h
  obtain ⟨-, h⟩ := h
  split at h
  next => exact absurd rfl hci
  next =>
    split at h
    next i j r =>
      refine ⟨i, j, r, rfl, ?_⟩
      split at h
      next hb => exact Or.inl ⟨Nat.eq_of_beq_eq_true hb, Nat.eq_of_beq_eq_true h⟩
      next hb =>
        split at h
        next c0 hc0 =>
          have := Nat.eq_of_beq_eq_true h
          subst this
          exact Or.inr ⟨fun e => (by rw [e] at hb; cases hb), hc0⟩
        next => cases h
    next => cases h
theorem mClN_at : ∀ (ci : Nat) (r : vw_C), mCLS[ci]? = some r → mClN ci = r.1 := by
  intro ci r h
  rcases ci with _ | _ | _ | _ | _ | _ | _ | ci <;> first | (cases h; rfl) | (simp at h)
theorem mRecv {i j ci : Nat} {g : mG} {H : Heap} {locs : List Loc} (F : mFx ad oq dC dI aI aB X p s m args c cc own nL cp dat A) (hO : mIn (i, j)) (hH : mHp ad dC dI aI aB s A g H locs) (hj : (ci = 7 ∧ j = 24) ∨ (ci ≠ 7 ∧ mCls j = some ci)) :
    mE ad oq (.inr (.inr (i, j))) = .ref (ad i j) ∧ ∃ cell : Cell, H[ad i j]? = some cell ∧ cell.vm.isStatics = false ∧ s.vm.findClass (mClN ci) = some cell.cls := by
  obtain ⟨hx, hb, hml, hown, hts, hK, hRo, hcps, hq⟩ := F
  obtain ⟨hP, hD, hS⟩ := hH
  rcases hj with ⟨rfl, rfl⟩ | ⟨h7, hc⟩
  · have hi : i < 18 := by
      rcases hO with q | q
      · have z : 24 ≤ 23 := (mCL_99 _ q).2
        exact absurd z (by decide)
      · have : ∀ q ∈ mROL, q.2 = 24 → q.1 < 18 := by decide +kernel
        exact this _ q rfl
    refine ⟨mE_ref (by omega), ?_⟩
    obtain ⟨cell, h1, h2, h3, -⟩ := (hRo.2.1 i hi).1.kept hS.2.1
    exact ⟨cell, h1, h2, h3⟩
  · have hC := mIn_obj hO hc
    refine ⟨mE_refIn (ad := ad) (oq := oq) hC, ?_⟩
    obtain ⟨n, n1, n2⟩ := mWs_at ad aI aB (g := g) hC
    rw [mEnt_obj (q := (i, j)) hc] at n2
    obtain ⟨r, hr⟩ : ∃ r, mCLS[ci]? = some r := by
      have := mCL_cls _ hC ci hc
      exact ⟨_, List.getElem?_eq_getElem (l := mCLS) (by simpa using this)⟩
    rw [mClN_at ci r hr]
    exact va_recv hK hP hr n2
theorem mTD {st : List mV} {b : Nat} : st = (st.take b).reverse.reverse ++ st.drop b := by rw [List.reverse_reverse, List.take_append_drop]
theorem mOs_take {st : List mV} {b : Nat} (h : mOs st) : mOs (st.take b).reverse := fun v hv => h v (List.mem_of_mem_take (List.mem_reverse.mp hv))
theorem mOs_drop {st : List mV} {b : Nat} (h : mOs st) : mOs (st.drop b) := fun v hv => h v (List.mem_of_mem_drop hv)
theorem mS_inv {i a b d : Nat} {call : Nat → List mV → mG → mR} {vi : Bool} (F : mFx ad oq dC dI aI aB X p s m args c cc own nL cp dat A) (hCa : mCa ad oq dC dI aI aB X l R dat call) (hcs : cells + 0 ≤ R.cells ∧ slots + 0 ≤ R.slots) (hd : decode cc pc = .ok ((if vi then .invokevirtual i else .invokestatic i), 3)) (hck : cp.contains (2, i, a, b, d) = true) (hvi : vi = !(Nat.beq d 99)) (hn : mNx ad oq dC dI aI aB p l e R s m args below meth c cells slots Q LL nL A k nx res (pc + 3)) (h : mInv call a b d k nx L st g = some res) (hOs : mOs st) (hOl : mOl L) (hLn : L.length = nL) : mWk ad oq dC dI aI aB p l e R s m args below meth c cells slots Q LL A pc L st g := by
  have hcp := mCp_in F hck
  have FF := F
  obtain ⟨hx, hb, hml, hown, hts, hK, hRo, hcps, hq⟩ := F
  intro H locs ls hH hL
  obtain ⟨hP, hD, hS⟩ := id hH
  unfold mInv at h
  split at h
  next hok =>
    rw [Bool.and_eq_true, Bool.and_eq_true] at hok
    obtain ⟨hok, hlen4, hlb⟩ := hok
    have hlen4 : (st.drop b).length ≤ 4 := Nat.le_of_ble_eq_true hlen4
    obtain ⟨r, g1, hc, hk⟩ := mAns_some h
    have hOa : mOs (st.take b).reverse := mOs_take hOs
    obtain ⟨rm, rm1, rm2, rm3, rm4, hM, hMet⟩ := hCa a _ g r g1 hc hOa
    obtain ⟨m1, m2, m3, ⟨m4, m5, m6⟩, m7, m8, m9⟩ := id hM
    obtain ⟨p1, p2, p3⟩ := hcp
    dsimp only at p1 p2 p3
    have hb1 : (st.take b).length = b := by
      rw [List.length_take, Nat.min_eq_left (Nat.le_of_ble_eq_true hlb)]
    have hcat : 2 * (F0 m pc ls (st.map (mE ad oq))).monitorRoom + ((((st.drop b).map (mE ad oq))).map fun v => v.category).sum ≤ 8 := by
      refine lv_room ?_
      have := mCat_le (ad := ad) (r := st.drop b) hq
      omega
    have hstk : st.map (mE ad oq) = ((st.take b).reverse.map (mE ad oq)).reverse ++ (st.drop b).map (mE ad oq) := by
      rw [← List.map_reverse, ← List.map_append, ← mTD]
    have hDA := mAd_D ad aI aB hD
    have hAA := mAd_A ad aI aB hD
    have pre : ∀ U : State, U.heap = H → s.WarmedH U.vm → va_P (dC, dI) mCLS (mWs ad aI aB g) U.heap ∧ va_D (mAd ad) (mWs ad aI aB g) ∧ va_K (dC, dI) mCLS [(aI, .int), (aB, .byte)] U ∧ mRo ad oq X (mAd ad) U :=
      fun U hU hW => ⟨by rw [hU]; exact hP, hDA, va_K.moved hW.alike hK, mRo_moved ad oq X hRo hS hAA hU hW⟩
    have kk : ∀ (H1 : Heap) (locs1 : List Loc), ((∀ v, r = some v → mOv v) ∧ va_P (dC, dI) mCLS (mWs ad aI aB g1) H1) → va_S A s.heap H1 locs1 → W p l e R s m args below meth c H1 locs1 cells slots Q (F0 m (pc + 3) ls ((r.map (mE ad oq)).toList ++ (st.drop b).map (mE ad oq))) := by
      intro H1 locs1 ⟨hrO, hP1⟩ hS1
      have e : (r.map (mE ad oq)).toList ++ (st.drop b).map (mE ad oq) = (r.toList ++ st.drop b).map (mE ad oq) := by
        cases r <;> rfl
      rw [e]
      refine hn L _ g1 hk (fun v hv => ?_) hOl hLn H1 locs1 ls ⟨hP1, mD_of ad aI aB hD, hS1⟩ hL
      rcases List.mem_append.mp hv with z | z
      · cases r with
        | none => cases z
        | some w => exact (List.mem_singleton.mp z) ▸ hrO w rfl
      · exact mOs_drop hOs v z
    have CF : CallFix p m c cc nL s args mGd own := ⟨hx, hb, hml, hown, hts⟩
    have hR : rm.frames + 1 ≤ R.frames ∧ 8 + (mdL (dat a) + 11) + rm.locals ≤ R.locals := ⟨rm1, by omega⟩
    have hsz : ls.size = nL := by rw [← hLn]; exact hL.1.1
    rw [hstk]
    cases hd99 : Nat.beq d 99 with
    | true =>
      have e99 : d = 99 := Nat.eq_of_beq_eq_true hd99
      rw [hd99] at hvi
      subst hvi
      have hcls : mdC (dat a) = 99 := by rw [← p2, e99]
      have hst : Cond.static (mdY (dat a)) ∈ mGd := by
        rcases m8 with ⟨-, z⟩ | ⟨z, -⟩
        · exact z
        · exact absurd hcls z
      have hn2 : ((st.take b).reverse.map (mE ad oq)).length = mdN (dat a) := by
        rw [List.length_map, List.length_reverse, hb1, p1, if_pos hcls]; rfl
      rcases p3 with p3 | p3
      · refine mCallK (Po := fun H1 => (∀ v, r = some v → mOv v) ∧ va_P (dC, dI) mCLS (mWs ad aI aB g1) H1) (va_runS CF hMet ⟨callB_of (mdN (dat a)) hts (mGoodWs hM) rfl rm3 rm4 (hts _ m7) (hts _ p3) ⟨m4, m5, m6⟩ hR, hts _ hst⟩ ⟨mBlind, fun U hU hW => ⟨rfl, pre U hU hW⟩⟩ rfl hn2 hsz rfl hcat hd hcs) hS hAA (fun _ _ _ z => z) kk
      · refine mCallK (Po := fun H1 => (∀ v, r = some v → mOv v) ∧ va_P (dC, dI) mCLS (mWs ad aI aB g1) H1) (va_runSN CF hMet ⟨va_cnB (mdN (dat a)) hts (mGoodWs hM) rfl rm3 rm4 (hRo.2.2.2.2.2.2 _ p3) (hts _ m7) ⟨m4, m5, m6⟩ hR, hts _ hst, trivial⟩ ⟨mBlind, fun U hU hW => ⟨rfl, pre U hU hW⟩⟩ rfl hn2 hsz rfl hcat hd hcs) hS hAA (fun _ _ _ z => z) kk
    | false =>
      have e99 : d ≠ 99 := fun z => by rw [z] at hd99; cases hd99
      rw [hd99] at hvi
      subst hvi
      have hcls : mdC (dat a) ≠ 99 := by rw [← p2]; exact e99
      obtain ⟨hst, hse, hcn⟩ : Cond.instanceMethod (mdY (dat a)) ∈ mGd ∧ Cond.selects (mdY (dat a)).cls (mdY (dat a)) (mdY (dat a)) ∈ mGd ∧ mClN (mdC (dat a)) = (mdY (dat a)).cls := by
        rcases m8 with ⟨z, -⟩ | ⟨-, z⟩
        · exact absurd z hcls
        · exact z
      obtain ⟨i0, j0, r0, hvs, hj0⟩ := mArgs_eq hok e99
      have hO0 : mIn (i0, j0) := by
        have := hOa (.inr (.inr (i0, j0))) (by rw [hvs]; exact List.mem_cons_self)
        exact this
      obtain ⟨eR, cell, c1, c2, c3⟩ := mRecv FF hO0 hH hj0
      rw [p2, hcn] at c3
      have hlr : r0.length = mdN (dat a) := by
        have := congrArg List.length hvs
        rw [List.length_reverse, hb1, p1, if_neg hcls, List.length_cons] at this
        omega
      have hn2 : (r0.map (mE ad oq)).length = mdN (dat a) := by rw [List.length_map]; exact hlr
      have est : ((st.take b).reverse.map (mE ad oq)).reverse ++ (st.drop b).map (mE ad oq) = (r0.map (mE ad oq)).reverse ++ .ref (ad i0 j0) :: (st.drop b).map (mE ad oq) := by
        rw [hvs, List.map_cons, eR, List.reverse_cons, List.append_assoc]; rfl
      have eargs : (Value.ref (ad i0 j0) :: r0.map (mE ad oq)).toArray = ((st.take b).reverse.map (mE ad oq)).toArray := by
        rw [hvs, List.map_cons, eR]
      rw [est]
      have hPre : PreV s H (mdY (dat a)).cls (ad i0 j0) (va_Pc ((st.take b).reverse.map (mE ad oq)) (fun U => va_P (dC, dI) mCLS (mWs ad aI aB g) U.heap ∧ va_D (mAd ad) (mWs ad aI aB g) ∧ va_K (dC, dI) mCLS [(aI, .int), (aB, .byte)] U ∧ mRo ad oq X (mAd ad) U)) (r0.map (mE ad oq)) :=
        ⟨mBlind, ⟨cell, c1, c2, c3⟩, fun U hU hW => ⟨eargs, pre U hU hW⟩⟩
      rcases p3 with p3 | p3
      · refine mCallK (Po := fun H1 => (∀ v, r = some v → mOv v) ∧ va_P (dC, dI) mCLS (mWs ad aI aB g1) H1) (va_runV (C := (mdY (dat a)).cls) CF hMet ⟨callB_of (mdN (dat a)) hts (mGoodWs hM) rfl rm3 rm4 (hts _ m7) (hts _ p3) ⟨m4, m5, m6⟩ hR, hts _ hst, hts _ hse⟩ hPre rfl hn2 hsz rfl hcat hd hcs) hS hAA (fun _ _ _ z => z) kk
      · refine mCallK (Po := fun H1 => (∀ v, r = some v → mOv v) ∧ va_P (dC, dI) mCLS (mWs ad aI aB g1) H1) (va_runVN (C := (mdY (dat a)).cls) CF hMet ⟨va_cnB (mdN (dat a)) hts (mGoodWs hM) rfl rm3 rm4 (hRo.2.2.2.2.2.2 _ p3) (hts _ m7) ⟨m4, m5, m6⟩ hR, hts _ hst, hts _ hse⟩ hPre rfl hn2 hsz rfl hcat hd hcs) hS hAA (fun _ _ _ z => z) kk
  next => cases h
end STEP5
end
section
/-! a whole method -/
section STEP6
variable {ad : Nat → Nat → Nat} {oq : Value} {dC : Nat → ClassId} {dI : Nat → Nat → Nat} {aI aB : ClassId} {X : mX}
variable {p : Program} {l : Launch} {e : Env} {R : Room} {s : State} {m : MethodId} {args : Array Value} {below : List Frame} {meth : Method} {c : Code} {cells slots : Nat} {Q : State → Prop}
variable {cc : ByteArray} {own : String} {LL : List Nat} {nL : Nat} {cp : List (Nat × Nat × Nat × Nat × Nat)} {dat : Nat → mDat} {A : Nat → Prop}
variable {k : mK} {nx full : List mT} {pc : Nat} {L : mL} {st : List mV} {g : mG} {res : Option mV × mG}
/-- the ends of a method: what holds there -/
def mRt (ad : Nat → Nat → Nat) (oq : Value) (dC : Nat → ClassId) (dI : Nat → Nat → Nat) (aI aB : ClassId) (p : Program) (l : Launch) (e : Env) (R : Room) (s : State) (m : MethodId) (args : Array Value) (below : List Frame) (meth : Method) (c : Code) (cells slots : Nat) (Q : State → Prop) (A : Nat → Prop) (cc : ByteArray) (rt : Nat) (res : Option mV × mG) : Prop :=
  ∀ (g : mG) (H : Heap) (locs : List Loc) (ls : Array Slot) (pc : Nat), mHp ad dC dI aI aB s A g H locs →
    (∀ v : Int32, decode cc pc = .ok (.ireturn, 1) → mRetI rt [.inl v] g = some res → W p l e R s m args below meth c H locs cells slots Q (F0 m pc ls [.int v])) ∧
    (∀ q : Nat × Nat, decode cc pc = .ok (.areturn, 1) → rt = 5 → mIn q → q.1 ≠ 99 → (some (.inr (.inr q)), g) = res → W p l e R s m args below meth c H locs cells slots Q (F0 m pc ls [mE ad oq (.inr (.inr q))])) ∧
    (decode cc pc = .ok (.return_, 1) → rt = 0 → (none, g) = res → W p l e R s m args below meth c H locs cells slots Q (F0 m pc ls []))
def mIsSw : Instr → Bool
  | .tableswitch _ _ _ _ => true
  | .lookupswitch _ _ => true
  | _ => false
theorem mKl_at {b d n : Nat} {L : mL} {v : mV} (h : (mKl b d L)[n]? = some (some v)) : L[n]? = some (some v) := by
  unfold mKl at h
  split at h
  · exact h
  · by_cases hn : n < (L.take d).length
    · rw [List.getElem?_append_left hn, List.getElem?_take] at h
      split at h
      · exact h
      · cases h
    · rw [List.getElem?_append_right (by omega)] at h
      have := (List.mem_replicate.mp (List.mem_of_getElem? h)).2
      cases this
theorem mKl_len {b d : Nat} {L : mL} : (mKl b d L).length = L.length := by
  unfold mKl
  split
  · rfl
  · rw [List.length_append, List.length_take, List.length_replicate]
    omega
theorem mKl_ol {b d : Nat} {L : mL} (h : mOl L) : mOl (mKl b d L) := fun n v hn => h n v (mKl_at hn)
theorem mKl_lh {b d : Nat} {L : mL} {ls : Array Slot} (h : mLH ad oq LL ls L) : mLH ad oq LL ls (mKl b d L) :=
  ⟨⟨by rw [mKl_len]; exact h.1.1, h.1.2.1, fun q hq => by
    obtain ⟨v, hv, e⟩ := mPr_of ad oq hq
    rw [e]
    exact mLH_at ad oq h (mKl_at hv)⟩, fun n x hn => h.2 n x (mKl_at hn)⟩
theorem mWk_kl {b d : Nat} (h : mWk ad oq dC dI aI aB p l e R s m args below meth c cells slots Q LL A pc (mKl b d L) st g) : mWk ad oq dC dI aI aB p l e R s m args below meth c cells slots Q LL A pc L st g :=
  fun H locs ls hH hL => h H locs ls hH (mKl_lh hL)
theorem mStep_sound {call : Nat → List mV → mG → mR} {rt ln : Nat} {ins : Instr} {a b d : Nat} {sw : List (Int32 × Nat)} (F : mFx ad oq dC dI aI aB X p s m args c cc own nL cp dat A) (hfl : mFl) (hCa : mCa ad oq dC dI aI aB X l R dat call) (hcs : cells + 0 ≤ R.cells ∧ slots + 0 ≤ R.slots)
    (hR1 : 1 ≤ R.frames) (hR2 : 8 + (nativeFrameWords "java/lang/System" "arraycopy" 5 + 11) ≤ R.locals) (hw : Cond.native arraycopyName ∈ mGd ∧ Cond.static arraycopyName ∈ mGd ∧ Cond.initialized "java/lang/System" ∈ mGd)
    (hrt : mRt ad oq dC dI aI aB p l e R s m args below meth c cells slots Q A cc rt res) (hdg : decode cc pc = .ok (ins, ln)) (hln : (mIsSw ins || Nat.beq ln (mLn ins)) = true) (hck : mCkI LL nL cp pc ins a b d sw = true)
    (hn : mIsSw ins = false → mNx ad oq dC dI aI aB p l e R s m args below meth c cells slots Q LL nL A k nx res (pc + mLn ins)) (hj : ∀ t, mNx ad oq dC dI aI aB p l e R s m args below meth c cells slots Q LL nL A k (mDrop full t) res t) (h : mIns X call rt full k ins a b d sw nx L st g = some res) (hOs : mOs st) (hOl : mOl L) (hLn : L.length = nL) : mWk ad oq dC dI aI aB p l e R s m args below meth c cells slots Q LL A pc L st g := by
  have hd : mIsSw ins = false → decode cc pc = .ok (ins, mLn ins) := fun z => by
    rw [z, Bool.false_or] at hln
    rw [hdg, Nat.eq_of_beq_eq_true hln]
  have hx := F.1
  have hb := F.2.1
  unfold mIns at h
  split at h
  next n => exact fun H locs ls hH hL => lv_iconst hx hb (hd rfl) rfl ((hn rfl) L _ g h (mOs_c trivial hOs) hOl hLn H locs ls hH hL)
  next n => exact fun H locs ls hH hL => lv_bipush hx hb (hd rfl) rfl ((hn rfl) L _ g h (mOs_c trivial hOs) hOl hLn H locs ls hH hL)
  next n => exact fun H locs ls hH hL => lv_sipush hx hb (hd rfl) rfl ((hn rfl) L _ g h (mOs_c trivial hOs) hOl hLn H locs ls hH hL)
  next i => exact mS_ldc2 F (hd rfl) hck (hn rfl) h hOs hOl hLn
  next i => exact mS_ldc F (hd rfl) hck (hn rfl) h hOs hOl hLn
  next n => exact mWk_kl (b := b) (d := d) (mS_ldI (len := 2) (hn rfl) h hOs (mKl_ol hOl) (mKl_len.trans hLn) (fun H locs ls rest v h1 kk => lv_iload hx hb (hd rfl)  h1 kk))
  next n => exact mWk_kl (b := b) (d := d) (mS_ldI (len := 1) (hn rfl) h hOs (mKl_ol hOl) (mKl_len.trans hLn) (fun H locs ls rest v h1 kk => lv_iload_n hx hb (hd rfl) rfl h1 kk))
  next n => exact mWk_kl (b := b) (d := d) (mS_ldR (len := 2) (hn rfl) h hOs (mKl_ol hOl) (mKl_len.trans hLn) (fun H locs ls rest v h1 kk => lv_aload hx hb (hd rfl)  h1 kk))
  next n => exact mWk_kl (b := b) (d := d) (mS_ldR (len := 1) (hn rfl) h hOs (mKl_ol hOl) (mKl_len.trans hLn) (fun H locs ls rest v h1 kk => lv_aload_n hx hb (hd rfl) rfl h1 kk))
  next n => exact mWk_kl (b := b) (d := d) (mS_ldL (len := 2) (hn rfl) h hOs (mKl_ol hOl) (mKl_len.trans hLn) (fun H locs ls rest v h1 kk => lv_lload hx hb (hd rfl)  h1 kk))
  next n => exact mWk_kl (b := b) (d := d) (mS_ldL (len := 1) (hn rfl) h hOs (mKl_ol hOl) (mKl_len.trans hLn) (fun H locs ls rest v h1 kk => lv_lload_n hx hb (hd rfl) rfl h1 kk))
  next n => exact mS_stI (len := 2) F (hn rfl) h hOs hOl hLn hck (fun H locs ls rest lv v x _ hv hx2 hl h1 kk => by
    obtain ⟨q, rfl⟩ := hx2
    subst hv
    exact lv_istore hx hb (hd rfl) hl h1 rfl kk)
  next n => exact mS_stI (len := 1) F (hn rfl) h hOs hOl hLn hck (fun H locs ls rest lv v x _ hv hx2 hl h1 kk => by
    obtain ⟨q, rfl⟩ := hx2
    subst hv
    exact lv_istore_n hx hb (hd rfl) rfl hl h1 rfl kk)
  next n => exact mS_stR (len := 2) F (hn rfl) h hOs hOl hLn hck (fun H locs ls rest lv v x hv hl h1 kk => by
    subst hv
    exact lv_astore hx hb (hd rfl) hl h1 rfl kk)
  next n => exact mS_stR (len := 1) F (hn rfl) h hOs hOl hLn hck (fun H locs ls rest lv v x hv hl h1 kk => by
    subst hv
    exact lv_astore_n hx hb (hd rfl) rfl hl h1 rfl kk)
  next n =>
    unfold mCkI at hck
    dsimp only at hck
    rw [Bool.and_eq_true, Bool.and_eq_true] at hck
    exact mS_stL (len := 2) F (hn rfl) h hOs hOl hLn hck.1.1 (List.contains_iff_mem.mp hck.1.2) (Nat.blt_eq.mp hck.2) (fun H locs ls rest lv x hl kk => lv_lstore hx hb (hd rfl) hl (Nat.blt_eq.mp hck.2) rfl kk)
  next n =>
    unfold mCkI at hck
    dsimp only at hck
    rw [Bool.and_eq_true, Bool.and_eq_true] at hck
    exact mS_stL (len := 1) F (hn rfl) h hOs hOl hLn hck.1.1 (List.contains_iff_mem.mp hck.1.2) (Nat.blt_eq.mp hck.2) (fun H locs ls rest lv x hl kk => lv_lstore_n hx hb (hd rfl) rfl hl (Nat.blt_eq.mp hck.2) rfl kk)
  next n q => exact mS_inc (len := 3) F (hn rfl) h hOs hOl hLn hck (fun H locs ls rest lv x a hl ha h1 kk => lv_iinc hx hb (hd rfl) hl ha rfl h1 rfl kk)
  next => exact mS_b2 (len := 1) (hn rfl) h hOs hOl hLn (fun H locs ls rest x y kk => lv_iadd hx hb (hd rfl) kk)
  next => exact mS_b2 (len := 1) (hn rfl) h hOs hOl hLn (fun H locs ls rest x y kk => lv_isub hx hb (hd rfl) kk)
  next => exact mS_b2 (len := 1) (hn rfl) h hOs hOl hLn (fun H locs ls rest x y kk => lv_imul hx hb (hd rfl) kk)
  next => exact mS_b2 (len := 1) (hn rfl) h hOs hOl hLn (fun H locs ls rest x y kk => lv_iand hx hb (hd rfl) kk)
  next => exact mS_b2 (len := 1) (hn rfl) h hOs hOl hLn (fun H locs ls rest x y kk => lv_ior hx hb (hd rfl) kk)
  next => exact mS_b2 (len := 1) (hn rfl) h hOs hOl hLn (fun H locs ls rest x y kk => lv_ixor hx hb (hd rfl) kk)
  next => exact mS_b2 (len := 1) (hn rfl) h hOs hOl hLn (fun H locs ls rest x y kk => lv_ishl hx hb (hd rfl) kk)
  next => exact mS_b2 (len := 1) (hn rfl) h hOs hOl hLn (fun H locs ls rest x y kk => lv_ishr hx hb (hd rfl) kk)
  next => exact mS_b2n (len := 1) (hn rfl) h hOs hOl hLn (fun H locs ls rest x y hy kk => lv_idiv hx hb (hd rfl) hy kk)
  next => exact mS_b2n (len := 1) (hn rfl) h hOs hOl hLn (fun H locs ls rest x y hy kk => lv_irem hx hb (hd rfl) hy kk)
  next => exact mS_j2 (len := 1) (hn rfl) h hOs hOl hLn (fun H locs ls rest x y kk => lv_ladd hx hb (hd rfl) kk)
  next => exact mS_j2 (len := 1) (hn rfl) h hOs hOl hLn (fun H locs ls rest x y kk => lv_lmul hx hb (hd rfl) kk)
  next => exact mS_j2n (len := 1) (hn rfl) h hOs hOl hLn (fun H locs ls rest x y hy kk => lv_ldiv hx hb (hd rfl) hy kk)
  next => exact mS_j2n (len := 1) (hn rfl) h hOs hOl hLn (fun H locs ls rest x y hy kk => lv_lrem hx hb (hd rfl) hy kk)
  next => exact mS_lcmp (len := 1) (hn rfl) h hOs hOl hLn (fun H locs ls rest x y kk => W.lcmp hx hb (hd rfl) kk)
  next => exact mS_i2l (len := 1) (hn rfl) h hOs hOl hLn (fun H locs ls rest x kk => lv_i2l hx hb (hd rfl) rfl kk)
  next => exact mS_l2i (len := 1) (hn rfl) h hOs hOl hLn (fun H locs ls rest x kk => lv_l2i hx hb (hd rfl) rfl kk)
  next => exact mS_i2b (len := 1) (hn rfl) h hOs hOl hLn (fun H locs ls rest x kk => lv_i2b hx hb (hd rfl) rfl kk)
  next => exact mS_i2c (len := 1) (hn rfl) h hOs hOl hLn (fun H locs ls rest x kk => lv_i2c hx hb (hd rfl) rfl kk)
  next => exact mS_dup F (hd rfl) (hn rfl) h hOs hOl hLn
  next => exact mS_dup2 F (hd rfl) (hn rfl) h hOs hOl hLn
  next => exact mS_pop F (hd rfl) (hn rfl) h hOs hOl hLn
  next cd off =>
    unfold mCkI at hck
    exact mS_if1 F (hd rfl) (of_decide_eq_true hck) (hn rfl) (hj a) h hOs hOl hLn
  next cd off =>
    unfold mCkI at hck
    exact mS_if2 F (hd rfl) (of_decide_eq_true hck) (hn rfl) (hj a) h hOs hOl hLn
  next off =>
    unfold mCkI at hck
    exact fun H locs ls hH hL => lv_goto hx hb (hd rfl) (of_decide_eq_true hck) (hj a L st g h hOs hOl hLn H locs ls hH hL)
  next => exact mS_tsw F hdg hck hj h hOs hOl hLn
  next => exact mS_lsw F hdg hck hj h hOs hOl hLn
  next i => exact mS_get F hfl (hd rfl) hck (hn rfl) h hOs hOl hLn
  next i =>
    unfold mCkI at hck
    dsimp only at hck
    have hck2 := (Bool.and_eq_true _ _).mp hck
    exact mS_put F hfl (hd rfl) hck2.1 hck2.2 (hn rfl) h hOs hOl hLn
  next i => exact mS_gets F (hd rfl) hck (hn rfl) h hOs hOl hLn
  next => exact mS_ald (bt := false) F (hd rfl) (hn rfl) h hOs hOl hLn
  next => exact mS_ald (bt := true) F (hd rfl) (hn rfl) h hOs hOl hLn
  next => exact mS_ast (bt := false) F (hd rfl) (hn rfl) h hOs hOl hLn
  next => exact mS_ast (bt := true) F (hd rfl) (hn rfl) h hOs hOl hLn
  next => exact mS_len F (hd rfl) (hn rfl) h hOs hOl hLn
  next i =>
    unfold mCkI at hck
    dsimp only at hck
    have hck2 := (Bool.and_eq_true _ _).mp hck
    exact mS_inv (vi := true) F hCa hcs (hd rfl) hck2.1 hck2.2.symm (hn rfl) h hOs hOl hLn
  next i =>
    unfold mCkI at hck
    dsimp only at hck
    cases h9 : Nat.beq a 999 with
    | true =>
      rw [h9] at h hck
      exact mS_copy F hR1 hR2 hw (hd rfl) hck (hn rfl) h hOs hOl hLn
    | false =>
      rw [h9] at h hck
      dsimp only at h hck
      cases h8 : Nat.beq a 998 with
      | true => rw [h8] at h; cases h
      | false =>
      rw [h8] at h hck
      have hck2 := (Bool.and_eq_true _ _).mp hck
      exact mS_inv (vi := false) F hCa hcs (hd rfl) hck2.1 (by rw [hck2.2]; rfl) (hn rfl) h hOs hOl hLn
  next =>
    intro H locs ls hH hL
    have h0 := h
    unfold mRetI at h
    split at h
    next v => exact (hrt g H locs ls pc hH).1 v (hd rfl) h0
    next => cases h
  next =>
    intro H locs ls hH hL
    cases h5 : Nat.beq rt 5 with
    | false => rw [h5] at h; cases h
    | true =>
      rw [h5] at h
      dsimp only at h
      unfold mRetR at h
      split at h
      next i j =>
        split at h
        next => cases h
        next hj0 => exact (hrt g H locs ls pc hH).2.1 (i, j) (hd rfl) (Nat.eq_of_beq_eq_true h5) (mOs_h hOs) (mIn_99 (mOs_h hOs) (mBeq_ne hj0)) (Option.some.inj h)
      next => cases h
  next =>
    intro H locs ls hH hL
    cases h5 : Nat.beq rt 0 with
    | false => rw [h5] at h; cases h
    | true =>
      rw [h5] at h
      dsimp only at h
      unfold mRetV at h
      split at h
      next => exact (hrt g H locs ls pc hH).2.2 (hd rfl) (Nat.eq_of_beq_eq_true h5) (Option.some.inj h)
      next => cases h
  next => cases h
end STEP6
end
section
/-! runs and calls -/
section STEP7
variable {ad : Nat → Nat → Nat} {oq : Value} {dC : Nat → ClassId} {dI : Nat → Nat → Nat} {aI aB : ClassId} {X : mX}
variable {p : Program} {l : Launch} {e : Env} {R : Room} {s : State} {m : MethodId} {args : Array Value} {below : List Frame} {meth : Method} {c : Code} {cells slots : Nat} {Q : State → Prop}
variable {cc : ByteArray} {own : String} {LL : List Nat} {nL : Nat} {cp : List (Nat × Nat × Nat × Nat × Nat)} {dat : Nat → mDat} {A : Nat → Prop}
variable {k : mK} {nx full : List mT} {pc : Nat} {L : mL} {st : List mV} {g : mG} {res : Option mV × mG}
def mPc : List mT → Nat
  | [] => 0
  | x :: _ => x.1
def mSeq : List mT → Bool
  | [] => true
  | x :: nx => (match nx with
    | [] => true
    | y :: _ => mIsSw x.2.1.1 || Nat.beq y.1 (x.1 + x.2.1.2)) && mSeq nx
def mTok (LL : List Nat) (nL : Nat) (cp : List (Nat × Nat × Nat × Nat × Nat)) (cc : ByteArray) (full : List mT) : Prop :=
  mSeq full = true ∧ ∀ x ∈ full, decode cc x.1 = .ok (x.2.1.1, x.2.1.2) ∧ (mIsSw x.2.1.1 || Nat.beq x.2.1.2 (mLn x.2.1.1)) = true ∧ mCkI LL nL cp x.1 x.2.1.1 x.2.2.1.1 x.2.2.1.2.1 x.2.2.1.2.2 x.2.2.2 = true
theorem mSeq_suf : ∀ (pre cur : List mT), mSeq (pre ++ cur) = true → mSeq cur = true
  | [], _, h => h
  | x :: pre, cur, h => mSeq_suf pre cur (by
    rw [List.cons_append] at h
    unfold mSeq at h
    exact ((Bool.and_eq_true _ _).mp h).2)
theorem mDrop_spec : ∀ (full : List mT) (t : Nat), mDrop full t = [] ∨ ∃ pre x r, full = pre ++ x :: r ∧ mDrop full t = x :: r ∧ x.1 = t
  | [], _ => Or.inl rfl
  | x :: nx, t => by
    unfold mDrop
    cases hb : Nat.beq x.1 t with
    | true => exact Or.inr ⟨[], x, nx, rfl, rfl, Nat.eq_of_beq_eq_true hb⟩
    | false =>
      rcases mDrop_spec nx t with h | ⟨pre, y, r, h1, h2, h3⟩
      · exact Or.inl h
      · exact Or.inr ⟨x :: pre, y, r, by rw [h1]; rfl, h2, h3⟩
theorem mRun_nil {call : Nat → List mV → mG → mR} {rt n : Nat} : mRun X call rt full n [] L st g = none := by
  cases n <;> rfl
theorem mRun_sound {call : Nat → List mV → mG → mR} {rt : Nat} (F : mFx ad oq dC dI aI aB X p s m args c cc own nL cp dat A) (hfl : mFl) (hCa : mCa ad oq dC dI aI aB X l R dat call) (hcs : cells + 0 ≤ R.cells ∧ slots + 0 ≤ R.slots)
    (hR1 : 1 ≤ R.frames) (hR2 : 8 + (nativeFrameWords "java/lang/System" "arraycopy" 5 + 11) ≤ R.locals) (hw : Cond.native arraycopyName ∈ mGd ∧ Cond.static arraycopyName ∈ mGd ∧ Cond.initialized "java/lang/System" ∈ mGd)
    (hrt : mRt ad oq dC dI aI aB p l e R s m args below meth c cells slots Q A cc rt res) (htk : mTok LL nL cp cc full) :
    ∀ (n : Nat) (cur : List mT), (∃ pre, full = pre ++ cur) → mNx ad oq dC dI aI aB p l e R s m args below meth c cells slots Q LL nL A (mRun X call rt full n) cur res (mPc cur) := by
  intro n
  induction n with
  | zero => intro cur _ L st g h; cases h
  | succ n ih =>
    intro cur ⟨pre, hpre⟩ L st g h hOs hOl hLn
    cases cur with
    | nil => rw [mRun_nil] at h; cases h
    | cons x nx =>
      obtain ⟨t1, t2, t3⟩ := htk.2 x (by rw [hpre]; exact List.mem_append_right _ List.mem_cons_self)
      have hseq := mSeq_suf pre (x :: nx) (hpre ▸ htk.1)
      have hsuf : ∃ pre, full = pre ++ nx := ⟨pre ++ [x], by rw [hpre, List.append_assoc]; rfl⟩
      refine mStep_sound (full := full) F hfl hCa hcs hR1 hR2 hw hrt t1 t2 t3 (fun hsw => ?_) (fun t => ?_) h hOs hOl hLn
      · intro L' st' g' h' o1 o2 o3
        cases nx with
        | nil => rw [mRun_nil] at h'; cases h'
        | cons y r =>
          have e : y.1 = x.1 + mLn x.2.1.1 := by
            unfold mSeq at hseq
            have := ((Bool.and_eq_true _ _).mp hseq).1
            dsimp only at this
            rw [hsw, Bool.false_or] at this t2
            rw [Nat.eq_of_beq_eq_true this, Nat.eq_of_beq_eq_true t2]
          have := ih (y :: r) hsuf L' st' g' h' o1 o2 o3
          rw [show mPc (y :: r) = y.1 from rfl, e] at this
          exact this
      · intro L' st' g' h' o1 o2 o3
        rcases mDrop_spec full t with q | ⟨pre2, y, r, q1, q2, q3⟩
        · rw [q, mRun_nil] at h'; cases h'
        · have := ih (y :: r) ⟨pre2, q1⟩ L' st' g' (q2 ▸ h') o1 o2 o3
          rw [show mPc (y :: r) = y.1 from rfl, q3] at this
          exact this
end STEP7
section STEP8
theorem mEv_ex (X : mX) (call : Nat → List mV → mG → mR) (rt : Nat) (full : List mT) : ∃ ev : mK, ∀ cur L st g, (∀ r, ev cur L st g = some r → ∃ n, mRun X call rt full n cur L st g = some r) ∧ ((∃ n r, mRun X call rt full n cur L st g = some r) → ev cur L st g ≠ none) := by
  classical
  refine ⟨fun cur L st g => if h : ∃ n r, mRun X call rt full n cur L st g = some r then some (Classical.choose (Classical.choose_spec h)) else none, fun cur L st g => ⟨fun r h => ?_, fun h => ?_⟩⟩
  · dsimp only at h
    split at h
    next h0 =>
      cases h
      exact ⟨_, Classical.choose_spec (Classical.choose_spec h0)⟩
    next => cases h
  · dsimp only
    rw [dif_pos h]
    exact fun e => by cases e
/-- the run, without a count -/
noncomputable def mEv (X : mX) (call : Nat → List mV → mG → mR) (rt : Nat) (full : List mT) : mK := Classical.choose (mEv_ex X call rt full)
theorem mEv_run {X : mX} {call : Nat → List mV → mG → mR} {rt : Nat} {full cur : List mT} {L : mL} {st : List mV} {g : mG} {r : Option mV × mG} (h : mEv X call rt full cur L st g = some r) : ∃ n, mRun X call rt full n cur L st g = some r :=
  (Classical.choose_spec (mEv_ex X call rt full) cur L st g).1 r h
def mL0 (nL : Nat) (vs : List mV) : mL := vs.map some ++ List.replicate (nL - vs.length) none
noncomputable def mCall (dat : Nat → mDat) (X : mX) : Nat → Nat → List mV → mG → mR
  | 0 => fun _ _ _ => none
  | d + 1 => fun a vs g => match Nat.ble vs.length (mdL (dat a)) && vs.all mNoL with
    | true => mEv X (mCall dat X d) (mdK (dat a)) (mdT (dat a)) (mdT (dat a)) (mL0 (mdL (dat a)) vs) [] g
    | false => none
theorem mL0_at {nL n : Nat} {vs : List mV} {v : mV} (h : (mL0 nL vs)[n]? = some (some v)) : vs[n]? = some v := by
  unfold mL0 at h
  by_cases hn : n < vs.length
  · rw [List.getElem?_append_left (by simpa using hn), List.getElem?_map] at h
    cases hv : vs[n]? with
    | none => rw [hv] at h; cases h
    | some w => rw [hv] at h; cases h; rfl
  · rw [List.getElem?_append_right (by simpa using hn)] at h
    have := List.mem_of_getElem? h
    have := (List.mem_replicate.mp this).2
    cases this
theorem mArgs_in : ∀ (vs : List Value) (i n : Nat) (v : Value), (∀ w ∈ vs, w.category = 1) → vs[n]? = some v → (i + n, v) ∈ lv_args i vs
  | [], _, _, _, _, h => by cases h
  | w :: vs, i, n, v, hc, h => by
    have h1 := hc w List.mem_cons_self
    unfold lv_args
    rw [if_neg (by rw [h1]; decide)]
    cases n with
    | zero => cases h; exact List.mem_cons_self
    | succ n =>
      refine List.mem_cons_of_mem _ ?_
      have := mArgs_in vs (i + 1) n v (fun z hz => hc z (List.mem_cons_of_mem _ hz)) h
      rw [show i + (n + 1) = i + 1 + n by omega]
      exact this
theorem mSl_len : ∀ (vs : List Value), (∀ w ∈ vs, w.category = 1) → (lg_sl vs).length = vs.length
  | [], _ => rfl
  | w :: vs, hc => by
    have h1 := hc w List.mem_cons_self
    have ih := mSl_len vs (fun z hz => hc z (List.mem_cons_of_mem _ hz))
    unfold lg_sl at ih ⊢
    rw [List.flatMap_cons, List.length_append, ih, h1]
    simp
    omega
end STEP8
end
section
/-! Every call of the small machine that answers is a contract -/
section CALLS
variable {ad : Nat → Nat → Nat} {oq : Value} {dC : Nat → ClassId} {dI : Nat → Nat → Nat} {aI aB : ClassId} {X : mX} {l : Launch} {dat : Nat → mDat}
def mDatOk (dat : Nat → mDat) : Prop := ∀ a, mdT (dat a) ≠ [] → mMO (dat a) ∧ mTok (mdW (dat a)) (mdL (dat a)) (mdP (dat a)) (mdB (dat a)) (mdT (dat a)) ∧ mPc (mdT (dat a)) = 0 ∧ ∀ q ∈ mdP (dat a), mCpO dat (mdY (dat a)).cls q
theorem mE_one {vs : List mV} (hq : oq.category = 1) (h : vs.all mNoL = true) : ∀ w ∈ vs.map (mE ad oq), w.category = 1 := by
  intro w hw
  obtain ⟨v, hv, rfl⟩ := List.mem_map.mp hw
  have h1 := List.all_eq_true.mp h v hv
  rcases lv_cat (mE ad oq v) with z | z
  · exact z
  · obtain ⟨x, rfl⟩ := mE_cat ad oq hq z
    cases h1
theorem mLH_0 {nL : Nat} {LL : List Nat} {vs : List mV} (hq : oq.category = 1) (hl : vs.length ≤ nL) (h : vs.all mNoL = true) :
    mLH ad oq LL ((lg_sl (vs.map (mE ad oq)) ++ List.replicate (nL - (lg_sl (vs.map (mE ad oq))).length) Slot.unset).toArray) (mL0 nL vs) := by
  have h1 := mE_one (ad := ad) hq h
  have e := mSl_len _ h1
  have hlen : (mL0 nL vs).length = nL := by
    unfold mL0
    rw [List.length_append, List.length_map, List.length_replicate]
    omega
  have h2 := lv_entry (vs.map (mE ad oq)) (n := nL) (by rw [e, List.length_map]; exact hl)
  refine ⟨⟨by rw [hlen]; exact h2.1, h2.2.1, fun q hq2 => ?_⟩, fun n x hn => ?_⟩
  · obtain ⟨v, hv, e2⟩ := mPr_of ad oq hq2
    have h3 := mL0_at hv
    have h4 := mArgs_in (vs.map (mE ad oq)) 0 q.1 (mE ad oq v) h1 (by rw [List.getElem?_map, h3]; rfl)
    rw [Nat.zero_add] at h4
    rw [e2]
    exact h2.2.2 _ h4
  · have := List.all_eq_true.mp h _ (List.mem_of_getElem? (mL0_at hn))
    cases this
/-- a contract by a walk, of a class that has methods of the machine's own beside -/
theorem mt_ofWF {l : Launch} {y : MethodName} {ws ws' : List Cond} {rm : Room} {Pc : Array Value → State → Prop} {Qc : Array Value → State → Outcome → State → Prop} {mc ms : Nat} {free : Addr → Prop} {cc : ByteArray} {maxL : Nat} {ret : Option FieldType}
    (hy : plainFor y = true) (hw : ws = Cond.code y cc maxL ret :: ws')
    (body : ∀ p e s m args below meth c s₁, BodyLoose p l y (headSpec ws rm) cc maxL ret e s m args below meth c s₁ → c.maxLocals = maxL → Pc args s →
      W p l e (headSpec ws rm).room s m args below meth c s.heap [] 0 0 (MQ below Qc args s mc ms free) (entryFrame m args maxL)) : Met l y ws rm Pc Qc mc ms free := by
  refine MetFree.of_bodySF (code := cc) (maxLocals := maxL) (ret := ret) hy ?_ ?_
  · intro args s m h hn
    obtain ⟨meth, c, h1, h2, h3, h4, h5, h6, -, -⟩ := Cond.code_spec hn (atoms_spec (ws := ws) h _ (by rw [hw]; exact List.mem_cons_self))
    exact ⟨meth, c, h1, h2, h3, h4, h5, h6⟩
  · intro p e s m args below meth c s₁ B hml hP _
    have hh0 : s₁.heap = s.heap := by rw [B.state]; rfl
    obtain ⟨t, a1, o, b1, b2, b3⟩ := body p e s m args below meth c s₁ B hml hP s₁ hh0 (Stand.of_body B)
    exact ⟨t, o, a1, b1, b2, ⟨b3.1, b3.2⟩⟩
def mRm (d : Nat) : Room := { frames := d, cells := 0, slots := 0, locals := 40 * d }
set_option maxHeartbeats 1000000 in
theorem mCall_met (hfl : mFl) (hdat : mDatOk dat) (hq : oq.category = 1) (hw : Cond.native arraycopyName ∈ mGd ∧ Cond.static arraycopyName ∈ mGd ∧ Cond.initialized "java/lang/System" ∈ mGd) :
    ∀ (d : Nat) (a : Nat) (vs : List mV) (g : mG) (r : Option mV) (g' : mG), mCall dat X d a vs g = some (r, g') → mOs vs → mMO (dat a) ∧
      Met l (mdY (dat a)) (Cond.code (mdY (dat a)) (mdB (dat a)) (mdL (dat a)) (mdR (dat a)) :: mGd) (mRm d)
        (va_Pc (vs.map (mE ad oq)) (fun U => va_P (dC, dI) mCLS (mWs ad aI aB g) U.heap ∧ va_D (mAd ad) (mWs ad aI aB g) ∧ va_K (dC, dI) mCLS [(aI, .int), (aB, .byte)] U ∧ mRo ad oq X (mAd ad) U))
        (fun _ st oc t => oc = .returned (r.map (mE ad oq)) ∧ ((∀ v, r = some v → mOv v) ∧ va_P (dC, dI) mCLS (mWs ad aI aB g') t.heap) ∧ va_F (mAd ad) st t) 0 0 (mAd ad) := by
  intro d
  induction d with
  | zero => intro a vs g r g' h; cases h
  | succ d ih =>
    intro a vs g r g' h hOs
    unfold mCall at h
    split at h
    next hok =>
      rw [Bool.and_eq_true] at hok
      have hlen : vs.length ≤ mdL (dat a) := Nat.le_of_ble_eq_true hok.1
      obtain ⟨n, hrun⟩ := mEv_run h
      have hne : mdT (dat a) ≠ [] := fun e => by rw [e, mRun_nil] at hrun; cases hrun
      obtain ⟨hM, hTk, hpc, hCp⟩ := hdat a hne
      obtain ⟨m1, m2, m3, ⟨m4, m5, m6⟩, m7, m8, m9⟩ := id hM
      refine ⟨hM, ?_⟩
      refine mt_ofWF (cc := mdB (dat a)) (maxL := mdL (dat a)) (ret := mdR (dat a)) m3 rfl ?_
      intro p e s m args below meth c s₁ B hml hv
      obtain ⟨rfl, hP, hD, hK, hRo⟩ := hv
      have hlocks : meth.locks = false := B.notSynchronized
      have hts0 := atoms_spec (ws := Cond.code (mdY (dat a)) (mdB (dat a)) (mdL (dat a)) (mdR (dat a)) :: mGd) B.pre
      have F : mFx ad oq dC dI aI aB X p s m (vs.map (mE ad oq)).toArray c (mdB (dat a)) (mdY (dat a)).cls (mdL (dat a)) (mdP (dat a)) dat (mAd ad) :=
        ⟨B.exec, B.bytes, hml, findClass_of_methodNamed B.named, fun w hw => hts0 w (List.mem_cons_of_mem _ hw), hK, hRo, hCp, hq⟩
      rw [lg_entry_eq]
      have hr := B.returns
      have hCa : mCa ad oq dC dI aI aB X l (mRm (d + 1)) dat (mCall dat X d) := fun a2 vs2 g2 r2 g2' h2 ho2 => by
        obtain ⟨q1, q2⟩ := ih a2 vs2 g2 r2 g2' h2 ho2
        exact ⟨mRm d, Nat.le_refl _, by show 40 * d + 36 ≤ 40 * (d + 1); omega, rfl, rfl, q1, q2⟩
      have hrt : mRt ad oq dC dI aI aB p l e (mRm (d + 1)) s m (vs.map (mE ad oq)).toArray below meth c 0 0 (MQ below (fun _ st oc t => oc = .returned (r.map (mE ad oq)) ∧ ((∀ v, r = some v → mOv v) ∧ va_P (dC, dI) mCLS (mWs ad aI aB g') t.heap) ∧ va_F (mAd ad) st t) (vs.map (mE ad oq)).toArray s 0 0 (mAd ad)) (mAd ad) (mdB (dat a)) (mdK (dat a)) (r, g') := by
        intro g2 H locs ls pc ⟨hP2, hD2, hS2⟩
        refine ⟨fun v hdg hri => ?_, fun q hdg h5 hin h99 hri => ?_, fun hdg h0 hri => ?_⟩
        · have key : ∃ ty, mdR (dat a) = some ty ∧ narrow ty (.int v) = .int v ∧ r = some (.inl v) ∧ g2 = g' := by
            unfold mRetI at hri
            rcases m9 with ⟨k1, k2⟩ | ⟨k1, k2⟩ | ⟨k1, k2⟩ | ⟨k1, k2⟩ | ⟨k1, k2⟩ | ⟨k1, k2⟩ <;> rw [k1] at hri
            · cases hri
            · cases hri; exact ⟨_, k2, rfl, rfl, rfl⟩
            · have hri : (if v &&& 1 = v then some (some (mi v), g2) else none) = some (r, g') := hri
              split at hri
              next hv => cases hri; exact ⟨_, k2, (mNar_b hv).1, rfl, rfl⟩
              next => cases hri
            · have hri : (if v.toUInt32.toUInt16.toUInt32.toInt32 = v then some (some (mi v), g2) else none) = some (r, g') := hri
              split at hri
              next hv => cases hri; exact ⟨_, k2, congrArg Value.int hv, rfl, rfl⟩
              next => cases hri
            · have hri : (if v.toInt8.toInt32 = v then some (some (mi v), g2) else none) = some (r, g') := hri
              split at hri
              next hv => cases hri; exact ⟨_, k2, congrArg Value.int hv, rfl, rfl⟩
              next => cases hri
            · cases hri
          obtain ⟨ty, e1, e2, e3, e4⟩ := key
          subst e3; subst e4
          exact W.zret (v := v) B.exec B.bytes (hr.trans e1) e2 (fun t ht hW => ⟨rfl, ⟨fun w hw => by cases hw; trivial, by rw [ht]; exact hP2⟩, hS2.F ht⟩) hS2.2.2 hdg
        · cases hri
          have k2 : ∃ cn, mdR (dat a) = some (.object cn) := by
            rcases m9 with ⟨k1, k2⟩ | ⟨k1, k2⟩ | ⟨k1, k2⟩ | ⟨k1, k2⟩ | ⟨k1, k2⟩ | ⟨k1, k2⟩
            · rw [h5] at k1; cases k1
            · rw [h5] at k1; cases k1
            · rw [h5] at k1; cases k1
            · rw [h5] at k1; cases k1
            · rw [h5] at k1; cases k1
            · exact k2
          obtain ⟨i, j⟩ := q
          obtain ⟨cn, k2⟩ := k2
          refine W.aret B.exec B.bytes (hr.trans k2) (Or.inl ⟨_, rfl⟩) (Or.inr ⟨_, mE_ref h99⟩) (fun t ht hW => ⟨rfl, ⟨fun w hw => ?_, by rw [ht]; exact hP2⟩, hS2.F ht⟩) hS2.2.2 hdg
          cases hw
          exact hin
        · cases hri
          have k2 : mdR (dat a) = none := by
            rcases m9 with ⟨k1, k2⟩ | ⟨k1, k2⟩ | ⟨k1, k2⟩ | ⟨k1, k2⟩ | ⟨k1, k2⟩ | ⟨k1, k2⟩
            · exact k2
            · rw [h0] at k1; cases k1
            · rw [h0] at k1; cases k1
            · rw [h0] at k1; cases k1
            · rw [h0] at k1; cases k1
            · rw [h0] at k1; cases k1
          exact W.vret B.exec B.bytes (hr.trans k2) (fun t ht hW => ⟨rfl, ⟨fun w hw => (by cases hw), by rw [ht]; exact hP2⟩, hS2.F ht⟩) hS2.2.2 hdg
      have K := mRun_sound (R := mRm (d + 1)) (LL := mdW (dat a)) (full := mdT (dat a)) (res := (r, g')) (rt := mdK (dat a)) F hfl hCa ⟨Nat.le_refl _, Nat.le_refl _⟩ (Nat.succ_le_succ (Nat.zero_le d)) (by show 8 + (7 + 11) ≤ 40 * (d + 1); omega) hw hrt hTk n (mdT (dat a)) ⟨[], rfl⟩ (mL0 (mdL (dat a)) vs) [] g hrun (fun v hv => by cases hv) (fun k v hv => hOs v (List.mem_of_getElem? (mL0_at hv))) (by
        unfold mL0
        rw [List.length_append, List.length_map, List.length_replicate]
        omega) s.heap [] _ ⟨hP, hD, va_S.rf⟩ (mLH_0 hq hlen hok.2)
      rw [hpc] at K
      exact K
    next => cases h
end CALLS
end
section
/-! The run without a count: one equation a step -/
section EVAL
variable {X : mX} {call : Nat → List mV → mG → mR} {rt : Nat} {full : List mT}
def mF (φ : mK → mR) : Prop := ∃ z : mR ⊕ (List mT × mL × List mV × mG), ∀ k : mK, φ k = (match z with
  | .inl r => r
  | .inr c => k c.1 c.2.1 c.2.2.1 c.2.2.2)
theorem mF_c (r : mR) : mF (fun _ => r) := ⟨.inl r, fun _ => rfl⟩
theorem mF_k (cur : List mT) (L : mL) (st : List mV) (g : mG) : mF (fun k => k cur L st g) := ⟨.inr (cur, L, st, g), fun _ => rfl⟩
theorem mF_i {c : Prop} {hd : Decidable c} {φ ψ : mK → mR} (h1 : mF φ) (h2 : mF ψ) : mF (fun k => @ite _ c hd (φ k) (ψ k)) := by
  by_cases h : c
  · obtain ⟨z, hz⟩ := h1
    exact ⟨z, fun k => (if_pos h).trans (hz k)⟩
  · obtain ⟨z, hz⟩ := h2
    exact ⟨z, fun k => (if_neg h).trans (hz k)⟩
variable (nx tg : List mT) (L : mL) (st : List mV) (g : mG) (n a b d : Nat)
theorem mF_ldI : mF (fun k => mLdI n k nx L st g) := by
  unfold mLdI
  generalize L[n]? = o
  rcases o with _ | _ | x | x | ⟨i, j⟩ <;> first | exact mF_c _ | exact mF_k _ _ _ _
theorem mF_ldL : mF (fun k => mLdL n k nx L st g) := by
  unfold mLdL
  generalize L[n]? = o
  rcases o with _ | _ | x | x | ⟨i, j⟩ <;> first | exact mF_c _ | exact mF_k _ _ _ _
theorem mF_ldR : mF (fun k => mLdR n k nx L st g) := by
  unfold mLdR
  generalize L[n]? = o
  rcases o with _ | _ | x | x | ⟨i, j⟩ <;> first | exact mF_c _ | skip
  dsimp only
  cases Nat.beq j 99 <;> first | exact mF_c _ | exact mF_k _ _ _ _
theorem mF_stI : mF (fun k => mStI n k nx L st g) := by
  unfold mStI
  rcases st with _ | ⟨x | x | ⟨i, j⟩, st⟩ <;> first | exact mF_c _ | exact mF_k _ _ _ _
theorem mF_stL : mF (fun k => mStL n k nx L st g) := by
  unfold mStL
  rcases st with _ | ⟨x | x | ⟨i, j⟩, st⟩ <;> first | exact mF_c _ | exact mF_k _ _ _ _
theorem mF_stR : mF (fun k => mStR n k nx L st g) := by
  unfold mStR
  rcases st with _ | ⟨x | x | ⟨i, j⟩, st⟩ <;> first | exact mF_c _ | skip
  dsimp only
  cases Nat.beq j 99 <;> first | exact mF_c _ | exact mF_k _ _ _ _
theorem mF_inc (q : Int) : mF (fun k => mInc n q k nx L st g) := by
  unfold mInc
  generalize L[n]? = o
  rcases o with _ | _ | x | x | ⟨i, j⟩ <;> first | exact mF_c _ | exact mF_k _ _ _ _
theorem mF_b2 (f : Int32 → Int32 → Int32) : mF (fun k => mB2 f k nx L st g) := by
  unfold mB2
  rcases st with _ | ⟨x | x | ⟨i, j⟩, _ | ⟨y | y | ⟨i2, j2⟩, st⟩⟩ <;> first | exact mF_c _ | exact mF_k _ _ _ _
theorem mF_b2n (f : Int32 → Int32 → Int32) : mF (fun k => mB2n f k nx L st g) := by
  unfold mB2n
  rcases st with _ | ⟨x | x | ⟨i, j⟩, _ | ⟨y | y | ⟨i2, j2⟩, st⟩⟩ <;> first | exact mF_c _ | exact mF_i (mF_c _) (mF_k _ _ _ _)
theorem mF_j2 (f : Int64 → Int64 → Int64) : mF (fun k => mJ2 f k nx L st g) := by
  unfold mJ2
  rcases st with _ | ⟨x | x | ⟨i, j⟩, _ | ⟨y | y | ⟨i2, j2⟩, st⟩⟩ <;> first | exact mF_c _ | exact mF_k _ _ _ _
theorem mF_j2n (f : Int64 → Int64 → Int64) : mF (fun k => mJ2n f k nx L st g) := by
  unfold mJ2n
  rcases st with _ | ⟨x | x | ⟨i, j⟩, _ | ⟨y | y | ⟨i2, j2⟩, st⟩⟩ <;> first | exact mF_c _ | exact mF_i (mF_c _) (mF_k _ _ _ _)
theorem mF_lcmp : mF (fun k => mLcmp k nx L st g) := by
  unfold mLcmp
  rcases st with _ | ⟨x | x | ⟨i, j⟩, _ | ⟨y | y | ⟨i2, j2⟩, st⟩⟩ <;> first | exact mF_c _ | exact mF_k _ _ _ _
theorem mF_i2l : mF (fun k => mI2l k nx L st g) := by
  unfold mI2l
  rcases st with _ | ⟨x | x | ⟨i, j⟩, st⟩ <;> first | exact mF_c _ | exact mF_k _ _ _ _
theorem mF_l2i : mF (fun k => mL2i k nx L st g) := by
  unfold mL2i
  rcases st with _ | ⟨x | x | ⟨i, j⟩, st⟩ <;> first | exact mF_c _ | exact mF_k _ _ _ _
theorem mF_i2b : mF (fun k => mI2b k nx L st g) := by
  unfold mI2b
  rcases st with _ | ⟨x | x | ⟨i, j⟩, st⟩ <;> first | exact mF_c _ | exact mF_k _ _ _ _
theorem mF_i2c : mF (fun k => mI2c k nx L st g) := by
  unfold mI2c
  rcases st with _ | ⟨x | x | ⟨i, j⟩, st⟩ <;> first | exact mF_c _ | exact mF_k _ _ _ _
theorem mF_dup : mF (fun k => mDup k nx L st g) := by
  unfold mDup
  rcases st with _ | ⟨x | x | ⟨i, j⟩, st⟩ <;> first | exact mF_c _ | exact mF_k _ _ _ _
theorem mF_dup2 : mF (fun k => mDup2 k nx L st g) := by
  unfold mDup2
  rcases st with _ | ⟨x | x | ⟨i, j⟩, _ | ⟨y | y | ⟨i2, j2⟩, st⟩⟩ <;> first | exact mF_c _ | exact mF_k _ _ _ _
theorem mF_pop : mF (fun k => mPop k nx L st g) := by
  unfold mPop
  rcases st with _ | ⟨x | x | ⟨i, j⟩, st⟩ <;> first | exact mF_c _ | exact mF_k _ _ _ _
theorem mF_if1 (cd : ClassFile.Cond) : mF (fun k => mIf1 cd tg k nx L st g) := by
  unfold mIf1
  rcases st with _ | ⟨x | x | ⟨i, j⟩, st⟩ <;> first | exact mF_c _ | skip
  cases cd <;> exact mF_i (mF_k _ _ _ _) (mF_k _ _ _ _)
theorem mF_if2 (cd : ClassFile.Cond) : mF (fun k => mIf2 cd tg k nx L st g) := by
  unfold mIf2
  rcases st with _ | ⟨x | x | ⟨i, j⟩, _ | ⟨y | y | ⟨i2, j2⟩, st⟩⟩ <;> first | exact mF_c _ | skip
  cases cd <;> exact mF_i (mF_k _ _ _ _) (mF_k _ _ _ _)
theorem mF_swG (dflt : Nat) (x : Int32) : ∀ sw : List (Int32 × Nat), mF (fun k => mSwG full dflt k L st g x sw)
  | [] => mF_k _ _ _ _
  | q :: sw => mF_i (mF_k _ _ _ _) (mF_swG dflt x sw)
theorem mF_sw (dflt : Nat) (sw : List (Int32 × Nat)) : mF (fun k => mSw full dflt sw k L st g) := by
  unfold mSw
  rcases st with _ | ⟨x | x | ⟨i, j⟩, st⟩ <;> first | exact mF_c _ | exact mF_swG _ _ _ _ _ _
theorem mF_get : mF (fun k => mGet a b k nx L st g) := by
  unfold mGet
  rcases st with _ | ⟨x | x | ⟨i, j⟩, st⟩ <;> first | exact mF_c _ | skip
  cases Nat.beq a 7
  · dsimp only
    cases mCls j with
    | none => exact mF_c _
    | some ci =>
      dsimp only
      cases Nat.beq ci a with
      | false => exact mF_c _
      | true =>
        dsimp only
        cases mRef i j b with
        | none =>
          dsimp only
          cases mBoF j b <;> exact mF_k _ _ _ _
        | some q => exact mF_k _ _ _ _
  · dsimp only
    cases Nat.beq j 24 with
    | false => exact mF_c _
    | true => cases b <;> exact mF_k _ _ _ _
theorem mF_put : mF (fun k => mPut a b k nx L st g) := by
  unfold mPut
  rcases st with _ | ⟨x | x | ⟨i, j⟩, _ | ⟨y | y | ⟨i2, j2⟩, st⟩⟩ <;> first | exact mF_c _ | skip
  dsimp only
  cases mCls j2 with
  | none => exact mF_c _
  | some ci =>
    dsimp only
    cases Nat.beq ci a with
    | false => exact mF_c _
    | true =>
      dsimp only
      cases mRef i2 j2 b with
      | some q => exact mF_c _
      | none =>
        dsimp only
        cases mBoF j2 b with
        | true => exact mF_i (mF_k _ _ _ _) (mF_c _)
        | false => exact mF_k _ _ _ _
theorem mF_gets : mF (fun k => mGetS a b k nx L st g) := by
  unfold mGetS
  rcases a with _ | _ | _ | a <;> first | exact mF_c _ | exact mF_k _ _ _ _
theorem mF_ald (bt : Bool) : mF (fun k => mAld X bt k nx L st g) := by
  unfold mAld
  rcases st with _ | ⟨x | x | ⟨i, j⟩, _ | ⟨y | y | ⟨i2, j2⟩, st⟩⟩ <;> first | exact mF_c _ | skip
  dsimp only
  rcases mArr X i2 j2 with _ | ⟨n, b⟩
  · exact mF_c _
  · exact mF_i (mF_i (mF_c _) (mF_k _ _ _ _)) (mF_c _)
theorem mF_ast (bt : Bool) : mF (fun k => mAst X bt k nx L st g) := by
  unfold mAst
  rcases st with _ | ⟨x | x | ⟨i, j⟩, _ | ⟨y | y | ⟨i2, j2⟩, _ | ⟨z | z | ⟨i3, j3⟩, st⟩⟩⟩ <;> first | exact mF_c _ | skip
  dsimp only
  rcases mArr X i3 j3 with _ | ⟨n, b⟩
  · exact mF_c _
  · refine mF_i (mF_i (mF_c _) ?_) (mF_c _)
    cases Nat.ble j3 23
    · exact mF_c _
    · exact mF_k _ _ _ _
theorem mF_len : mF (fun k => mLen X k nx L st g) := by
  unfold mLen
  rcases st with _ | ⟨x | x | ⟨i, j⟩, st⟩ <;> first | exact mF_c _ | skip
  dsimp only
  rcases mArr X i j with _ | ⟨n, b⟩
  · exact mF_c _
  · exact mF_k _ _ _ _
theorem mF_copy : mF (fun k => mCopy X k nx L st g) := by
  unfold mCopy
  rcases st with _ | ⟨x | x | ⟨i, j⟩, _ | ⟨y | y | ⟨i2, j2⟩, _ | ⟨z | z | ⟨i3, j3⟩, _ | ⟨w | w | ⟨i4, j4⟩, _ | ⟨u | u | ⟨i5, j5⟩, st⟩⟩⟩⟩⟩ <;> first | exact mF_c _ | skip
  dsimp only
  rcases mArr X i5 j5 with _ | ⟨n, b⟩
  · exact mF_c _
  · rcases mArr X i3 j3 with _ | ⟨n2, b2⟩
    · cases b <;> exact mF_c _
    · cases b <;> cases b2 <;> first | exact mF_c _ | exact mF_i (mF_k _ _ _ _) (mF_c _)
theorem mF_inv : mF (fun k => mInv call a b d k nx L st g) := by
  unfold mInv
  cases mArgOk d (st.take b).reverse && (Nat.ble (st.drop b).length 4 && Nat.ble b st.length) with
  | false => exact mF_c _
  | true =>
    dsimp only
    rcases call a (st.take b).reverse g with _ | ⟨_ | v, g'⟩
    · exact mF_c _
    · exact mF_k _ _ _ _
    · exact mF_k _ _ _ _
theorem mF_ins (ins : Instr) (sw : List (Int32 × Nat)) : mF (fun k => mIns X call rt full k ins a b d sw nx L st g) := by
  cases ins
  case iconst => exact mF_k _ _ _ _
  case bipush => exact mF_k _ _ _ _
  case sipush => exact mF_k _ _ _ _
  case ldc2_w => exact mF_k _ _ _ _
  case ldc => exact mF_k _ _ _ _
  case iload => exact mF_ldI _ _ _ _ _
  case iload_n => exact mF_ldI _ _ _ _ _
  case aload => exact mF_ldR _ _ _ _ _
  case aload_n => exact mF_ldR _ _ _ _ _
  case lload => exact mF_ldL _ _ _ _ _
  case lload_n => exact mF_ldL _ _ _ _ _
  case istore => exact mF_stI _ _ _ _ _
  case istore_n => exact mF_stI _ _ _ _ _
  case astore => exact mF_stR _ _ _ _ _
  case astore_n => exact mF_stR _ _ _ _ _
  case lstore => exact mF_stL _ _ _ _ _
  case lstore_n => exact mF_stL _ _ _ _ _
  case iinc => exact mF_inc _ _ _ _ _ _
  case iadd => exact mF_b2 _ _ _ _ _
  case isub => exact mF_b2 _ _ _ _ _
  case imul => exact mF_b2 _ _ _ _ _
  case iand => exact mF_b2 _ _ _ _ _
  case ior => exact mF_b2 _ _ _ _ _
  case ixor => exact mF_b2 _ _ _ _ _
  case ishl => exact mF_b2 _ _ _ _ _
  case ishr => exact mF_b2 _ _ _ _ _
  case idiv => exact mF_b2n _ _ _ _ _
  case irem => exact mF_b2n _ _ _ _ _
  case ladd => exact mF_j2 _ _ _ _ _
  case lmul => exact mF_j2 _ _ _ _ _
  case ldiv => exact mF_j2n _ _ _ _ _
  case lrem => exact mF_j2n _ _ _ _ _
  case lcmp => exact mF_lcmp _ _ _ _
  case i2l => exact mF_i2l _ _ _ _
  case l2i => exact mF_l2i _ _ _ _
  case i2b => exact mF_i2b _ _ _ _
  case i2c => exact mF_i2c _ _ _ _
  case dup => exact mF_dup _ _ _ _
  case dup2 => exact mF_dup2 _ _ _ _
  case pop => exact mF_pop _ _ _ _
  case ifCond => exact mF_if1 _ _ _ _ _ _
  case if_icmp => exact mF_if2 _ _ _ _ _ _
  case goto => exact mF_k _ _ _ _
  case tableswitch => exact mF_sw _ _ _ _ _
  case lookupswitch => exact mF_sw _ _ _ _ _
  case getfield => exact mF_get _ _ _ _ _ _
  case putfield => exact mF_put _ _ _ _ _ _
  case getstatic => exact mF_gets _ _ _ _ _ _
  case iaload => exact mF_ald _ _ _ _ _
  case baload => exact mF_ald _ _ _ _ _
  case iastore => exact mF_ast _ _ _ _ _
  case bastore => exact mF_ast _ _ _ _ _
  case arraylength => exact mF_len _ _ _ _
  case invokevirtual => exact mF_inv _ _ _ _ _ _ _
  case invokestatic =>
    show mF (fun k => match Nat.beq a 999 with
      | true => mCopy X k nx L st g
      | false => (match Nat.beq a 998 with
        | true => none
        | false => mInv call a b d k nx L st g))
    cases Nat.beq a 999
    · dsimp only
      cases Nat.beq a 998
      · exact mF_inv _ _ _ _ _ _ _
      · exact mF_c _
    · exact mF_copy _ _ _ _
  all_goals exact mF_c _
theorem mF_step (cur : List mT) : mF (fun k => mStep X call rt full k cur L st g) := by
  cases cur with
  | nil => exact mF_c _
  | cons x nx => exact mF_ins _ _ _ _ _ _ _ _ _
theorem mRun_mono : ∀ (n : Nat) (cur : List mT) (L : mL) (st : List mV) (g : mG) (r : Option mV × mG), mRun X call rt full n cur L st g = some r → mRun X call rt full (n + 1) cur L st g = some r
  | 0, _, _, _, _, _, h => by cases h
  | n + 1, cur, L, st, g, r, h => by
    obtain ⟨z, hz⟩ := mF_step (X := X) (call := call) (rt := rt) (full := full) L st g cur
    have h1 := hz (mRun X call rt full n)
    have h2 := hz (mRun X call rt full (n + 1))
    have h : mStep X call rt full (mRun X call rt full n) cur L st g = some r := h
    show mStep X call rt full (mRun X call rt full (n + 1)) cur L st g = some r
    dsimp only at h1 h2
    rw [h1] at h
    rw [h2]
    rcases z with z | z
    · exact h
    · exact mRun_mono n _ _ _ _ _ h
theorem mRun_le {n m : Nat} {cur : List mT} {r : Option mV × mG} (hnm : n ≤ m) (h : mRun X call rt full n cur L st g = some r) : mRun X call rt full m cur L st g = some r := by
  induction hnm with
  | refl => exact h
  | step _ ih => exact mRun_mono _ _ _ _ _ _ ih
theorem mEv_of {n : Nat} {cur : List mT} {r : Option mV × mG} (h : mRun X call rt full n cur L st g = some r) : mEv X call rt full cur L st g = some r := by
  have h0 : ∃ n r, mRun X call rt full n cur L st g = some r := ⟨n, r, h⟩
  cases he : mEv X call rt full cur L st g with
  | none =>
    exact absurd he ((Classical.choose_spec (mEv_ex X call rt full) cur L st g).2 h0)
  | some r2 =>
    obtain ⟨m, hm⟩ := mEv_run he
    have a1 := mRun_le L st g (Nat.le_max_left n m) h
    have a2 := mRun_le L st g (Nat.le_max_right n m) hm
    rw [a1] at a2
    exact a2.symm
/-- the equation -/
theorem mEv_eq (cur : List mT) : mEv X call rt full cur L st g = mStep X call rt full (mEv X call rt full) cur L st g := by
  obtain ⟨z, hz⟩ := mF_step (X := X) (call := call) (rt := rt) (full := full) L st g cur
  have h1 := hz (mEv X call rt full)
  dsimp only at h1
  rw [h1]
  have hs : ∀ n, mRun X call rt full (n + 1) cur L st g = (match (generalizing := false) z with
    | .inl r => r
    | .inr c => mRun X call rt full n c.1 c.2.1 c.2.2.1 c.2.2.2) := fun n => hz (mRun X call rt full n)
  rcases z with z | z
  · cases z with
    | some r => exact mEv_of (n := 1) L st g (hs 0)
    | none =>
      cases he : mEv X call rt full cur L st g with
      | none => rfl
      | some r =>
        obtain ⟨n, hn⟩ := mEv_run he
        have := mRun_mono n cur L st g r hn
        rw [hs n] at this
        cases this
  · cases he : mEv X call rt full cur L st g with
    | some r =>
      obtain ⟨n, hn⟩ := mEv_run he
      have := mRun_mono n cur L st g r hn
      rw [hs n] at this
      exact (mEv_of _ _ _ this).symm
    | none =>
      cases h2 : mEv X call rt full z.1 z.2.1 z.2.2.1 z.2.2.2 with
      | none => exact h2.symm
      | some r =>
        obtain ⟨n, hn⟩ := mEv_run h2
        have := mEv_of (n := n + 1) L st g ((hs n).trans hn)
        rw [he] at this
        cases this
/-- a method of truth values answers one -/
def mZ (res : Option mV × mG) : Prop := ∀ v g, res = (some (.inl v), g) → v &&& 1 = v
theorem mN_sw {dflt : Nat} {x : Int32} : ∀ sw : List (Int32 × Nat), mSwG full dflt (fun _ _ _ _ => none) L st g x sw = none
  | [] => rfl
  | q :: sw => by
    unfold mSwG
    split
    · rfl
    · exact mN_sw sw
theorem mN_ans {nx : List mT} (r : mR) : mAns (fun _ _ _ _ => none) nx L st r = none := by
  rcases r with _ | ⟨_ | v, g'⟩ <;> rfl
theorem mZ_ins {nx : List mT} {ins : Instr} {sw : List (Int32 × Nat)} {a b d : Nat} {res : Option mV × mG} (h : mIns X call 2 full (fun _ _ _ _ => none) ins a b d sw nx L st g = some res) : mZ res := by
  cases ins
  case ireturn =>
    rcases st with _ | ⟨x | x | ⟨i, j⟩, _ | ⟨y, st⟩⟩ <;> first | (cases h; done) | skip
    have h : (if x &&& 1 = x then some (some (mi x), g) else none) = some res := h
    by_cases hv : x &&& 1 = x
    · rw [if_pos hv] at h
      intro w g' e
      cases h
      cases e
      exact hv
    · rw [if_neg hv] at h; cases h
  case areturn => cases h
  case return_ => cases h
  all_goals
    exfalso
    first
      | (cases h; done)
      | (revert h
         simp only [mIns, mLdI, mLdL, mLdR, mStI, mStL, mStR, mInc, mB2, mB2n, mJ2, mJ2n, mLcmp, mI2l, mL2i, mI2b, mI2c, mDup, mDup2, mPop, mIf1, mIf2, mSw, mGet, mPut, mGetS, mAld, mAst, mLen, mCopy, mInv, mN_sw, mN_ans]
         (repeat' split) <;> (intro h; cases h))
end EVAL
end
section
/-! The methods: names, instructions, pools -/
def y_X0_takeFrom : MethodName := ⟨"RingedLights$Crossing", "takeFrom", "(LRingedLights$Crossing;)V"⟩
def y_X0_beginAnew : MethodName := ⟨"RingedLights$Crossing", "beginAnew", "()V"⟩
def y_X0_startRings : MethodName := ⟨"RingedLights$Crossing", "startRings", "()V"⟩
def y_X0_tellRing : MethodName := ⟨"RingedLights$Crossing", "tellRing", "(LRingedLights$Ring;I)I"⟩
def y_X0_tellPhase : MethodName := ⟨"RingedLights$Crossing", "tellPhase", "(II)I"⟩
def y_X0_lampOf : MethodName := ⟨"RingedLights$Crossing", "lampOf", "(I)I"⟩
def y_X0_isGreenAt : MethodName := ⟨"RingedLights$Crossing", "isGreenAt", "(I)Z"⟩
def y_X0_longestQueue : MethodName := ⟨"RingedLights$Crossing", "longestQueue", "()I"⟩
def y_X0_firstLongest : MethodName := ⟨"RingedLights$Crossing", "firstLongest", "()I"⟩
def y_X0_queueOf : MethodName := ⟨"RingedLights$Crossing", "queueOf", "(I)I"⟩
def y_X0_calledSet : MethodName := ⟨"RingedLights$Crossing", "calledSet", "()I"⟩
def y_X0_onFootSet : MethodName := ⟨"RingedLights$Crossing", "onFootSet", "()I"⟩
def y_X0_askedSet : MethodName := ⟨"RingedLights$Crossing", "askedSet", "()I"⟩
def y_X0_shownSet : MethodName := ⟨"RingedLights$Crossing", "shownSet", "()I"⟩
def y_X0_shownBy : MethodName := ⟨"RingedLights$Crossing", "shownBy", "(LRingedLights$Ring;)I"⟩
def y_X0_hasReached : MethodName := ⟨"RingedLights$Crossing", "hasReached", "(II)Z"⟩
def y_X0_putQueue : MethodName := ⟨"RingedLights$Crossing", "putQueue", "(II)V"⟩
def y_X0_takeCall : MethodName := ⟨"RingedLights$Crossing", "takeCall", "(I)V"⟩
def y_X0_callOthers : MethodName := ⟨"RingedLights$Crossing", "callOthers", "(I)V"⟩
def y_X0_takeCycle : MethodName := ⟨"RingedLights$Crossing", "takeCycle", "(I)V"⟩
def y_X0_takeComers : MethodName := ⟨"RingedLights$Crossing", "takeComers", "(I)I"⟩
def y_X0_passTicks : MethodName := ⟨"RingedLights$Crossing", "passTicks", "(I)V"⟩
def y_X0_passTick : MethodName := ⟨"RingedLights$Crossing", "passTick", "()V"⟩
def y_X0_moveClock : MethodName := ⟨"RingedLights$Crossing", "moveClock", "()V"⟩
def y_X0_aheadOfClock : MethodName := ⟨"RingedLights$Crossing", "aheadOfClock", "()I"⟩
def y_X0_isForced : MethodName := ⟨"RingedLights$Crossing", "isForced", "(I)Z"⟩
def y_X0_ageRing : MethodName := ⟨"RingedLights$Crossing", "ageRing", "(LRingedLights$Ring;)V"⟩
def y_X0_ageGreen : MethodName := ⟨"RingedLights$Crossing", "ageGreen", "(LRingedLights$Ring;)V"⟩
def y_X0_goTo : MethodName := ⟨"RingedLights$Crossing", "goTo", "(LRingedLights$Ring;I)V"⟩
def y_X0_turnGreen : MethodName := ⟨"RingedLights$Crossing", "turnGreen", "(LRingedLights$Ring;LRingedLights$Ring;)V"⟩
def y_X0_watch : MethodName := ⟨"RingedLights$Crossing", "watch", "()V"⟩
def y_X0_isDone : MethodName := ⟨"RingedLights$Crossing", "isDone", "(LRingedLights$Ring;)Z"⟩
def y_X0_moveOn : MethodName := ⟨"RingedLights$Crossing", "moveOn", "()V"⟩
def y_X0_leaveToNext : MethodName := ⟨"RingedLights$Crossing", "leaveToNext", "(LRingedLights$Ring;I)Z"⟩
def y_X0_moveTogether : MethodName := ⟨"RingedLights$Crossing", "moveTogether", "(I)V"⟩
def y_X0_crossOver : MethodName := ⟨"RingedLights$Crossing", "crossOver", "(LRingedLights$Ring;II)V"⟩
def y_X0_turnBack : MethodName := ⟨"RingedLights$Crossing", "turnBack", "(LRingedLights$Ring;I)V"⟩
def y_X0_moveBreaks : MethodName := ⟨"RingedLights$Crossing", "moveBreaks", "()V"⟩
def y_X0_beginWanted : MethodName := ⟨"RingedLights$Crossing", "beginWanted", "()V"⟩
def y_X0_beginBreak : MethodName := ⟨"RingedLights$Crossing", "beginBreak", "(I)V"⟩
def y_X0_dropBreak : MethodName := ⟨"RingedLights$Crossing", "dropBreak", "()V"⟩
def y_X0_seek : MethodName := ⟨"RingedLights$Crossing", "seek", "(I)V"⟩
def y_X0_steer : MethodName := ⟨"RingedLights$Crossing", "steer", "(LRingedLights$Ring;I)V"⟩
def y_X0_isThere : MethodName := ⟨"RingedLights$Crossing", "isThere", "(LRingedLights$Ring;I)Z"⟩
def y_X0_stayOnTrack : MethodName := ⟨"RingedLights$Crossing", "stayOnTrack", "()V"⟩
def y_X0_stayOnDwell : MethodName := ⟨"RingedLights$Crossing", "stayOnDwell", "()V"⟩
def y_X0_resume : MethodName := ⟨"RingedLights$Crossing", "resume", "()V"⟩
def y_X1_wipe : MethodName := ⟨"RingedLights$Log", "wipe", "()V"⟩
def y_X1_takeFrom : MethodName := ⟨"RingedLights$Log", "takeFrom", "(LRingedLights$Log;)V"⟩
def y_X1_note : MethodName := ⟨"RingedLights$Log", "note", "(III)V"⟩
def y_X1_tell : MethodName := ⟨"RingedLights$Log", "tell", "(II)I"⟩
def y_X2_wipe : MethodName := ⟨"RingedLights$Plan", "wipe", "()V"⟩
def y_X2_takeFrom : MethodName := ⟨"RingedLights$Plan", "takeFrom", "(LRingedLights$Plan;)V"⟩
def y_X2_addPhase : MethodName := ⟨"RingedLights$Plan", "addPhase", "(II)V"⟩
def y_X2_hasPhase : MethodName := ⟨"RingedLights$Plan", "hasPhase", "(I)Z"⟩
def y_X2_allSet : MethodName := ⟨"RingedLights$Plan", "allSet", "()I"⟩
def y_X2_hasAll : MethodName := ⟨"RingedLights$Plan", "hasAll", "(I)Z"⟩
def y_X2_markOf : MethodName := ⟨"RingedLights$Plan", "markOf", "(II)I"⟩
def y_X2_putMark : MethodName := ⟨"RingedLights$Plan", "putMark", "(III)V"⟩
def y_X2_breakOf : MethodName := ⟨"RingedLights$Plan", "breakOf", "(II)I"⟩
def y_X2_putBreak : MethodName := ⟨"RingedLights$Plan", "putBreak", "(III)V"⟩
def y_X2_partOf : MethodName := ⟨"RingedLights$Plan", "partOf", "(II)I"⟩
def y_X2_sideSet : MethodName := ⟨"RingedLights$Plan", "sideSet", "(I)I"⟩
def y_X2_foesOf : MethodName := ⟨"RingedLights$Plan", "foesOf", "(I)I"⟩
def y_X2_holdsFoes : MethodName := ⟨"RingedLights$Plan", "holdsFoes", "(I)Z"⟩
def y_X2_firstWithFoe : MethodName := ⟨"RingedLights$Plan", "firstWithFoe", "(I)I"⟩
def y_X2_isFull : MethodName := ⟨"RingedLights$Plan", "isFull", "(I)Z"⟩
def y_X2_firstOfRow : MethodName := ⟨"RingedLights$Plan", "firstOfRow", "(I)I"⟩
def y_X2_endOf : MethodName := ⟨"RingedLights$Plan", "endOf", "(I)I"⟩
def y_X3_readText : MethodName := ⟨"RingedLights$Reader", "readText", "(I)V"⟩
def y_X3_fail : MethodName := ⟨"RingedLights$Reader", "fail", "(I)V"⟩
def y_X3_step : MethodName := ⟨"RingedLights$Reader", "step", "()V"⟩
def y_X3_behind : MethodName := ⟨"RingedLights$Reader", "behind", "(II)I"⟩
def y_X3_kindAt : MethodName := ⟨"RingedLights$Reader", "kindAt", "(I)I"⟩
def y_X3_signAt : MethodName := ⟨"RingedLights$Reader", "signAt", "(I)I"⟩
def y_X3_isWord : MethodName := ⟨"RingedLights$Reader", "isWord", "(Ljava/lang/String;)Z"⟩
def y_X3_endLine : MethodName := ⟨"RingedLights$Reader", "endLine", "()V"⟩
def y_X3_takeWord : MethodName := ⟨"RingedLights$Reader", "takeWord", "(Ljava/lang/String;)V"⟩
def y_X3_takeNumber : MethodName := ⟨"RingedLights$Reader", "takeNumber", "(II)I"⟩
def y_X3_takeSet : MethodName := ⟨"RingedLights$Reader", "takeSet", "()I"⟩
def y_X3_readPhase : MethodName := ⟨"RingedLights$Reader", "readPhase", "()V"⟩
def y_X3_readMarks : MethodName := ⟨"RingedLights$Reader", "readMarks", "(I)V"⟩
def y_X3_markHere : MethodName := ⟨"RingedLights$Reader", "markHere", "()I"⟩
def y_X3_wordOf : MethodName := ⟨"RingedLights$Reader", "wordOf", "(I)Ljava/lang/String;"⟩
def y_X3_tellOnce : MethodName := ⟨"RingedLights$Reader", "tellOnce", "(I)V"⟩
def y_X3_readCycle : MethodName := ⟨"RingedLights$Reader", "readCycle", "()V"⟩
def y_X3_readOffset : MethodName := ⟨"RingedLights$Reader", "readOffset", "()V"⟩
def y_X3_readBreak : MethodName := ⟨"RingedLights$Reader", "readBreak", "()V"⟩
def y_X4_takeFrom : MethodName := ⟨"RingedLights$Ring", "takeFrom", "(LRingedLights$Ring;)V"⟩
def y_X4_holds : MethodName := ⟨"RingedLights$Ring", "holds", "()Z"⟩
def y_X4_isGreen : MethodName := ⟨"RingedLights$Ring", "isGreen", "()Z"⟩
def y_X4_waitFor : MethodName := ⟨"RingedLights$Ring", "waitFor", "(I)V"⟩
def y_X4_turnGreen : MethodName := ⟨"RingedLights$Ring", "turnGreen", "(IZ)V"⟩
def y_X4_turnYellow : MethodName := ⟨"RingedLights$Ring", "turnYellow", "(I)V"⟩
def y_X4_growDark : MethodName := ⟨"RingedLights$Ring", "growDark", "(II)V"⟩
def y_X4_walkOn : MethodName := ⟨"RingedLights$Ring", "walkOn", "(II)V"⟩
def y_X5_status : MethodName := ⟨"RingedLights", "status", "()I"⟩
def y_X5_feed : MethodName := ⟨"RingedLights", "feed", "(IIIII)I"⟩
def y_X5_load : MethodName := ⟨"RingedLights", "load", "(I)I"⟩
def y_X5_fault : MethodName := ⟨"RingedLights", "fault", "(I)I"⟩
def y_X5_many : MethodName := ⟨"RingedLights", "many", "(I)I"⟩
def y_X5_ring : MethodName := ⟨"RingedLights", "ring", "(II)I"⟩
def y_X5_phase : MethodName := ⟨"RingedLights", "phase", "(II)I"⟩
def y_X5_marked : MethodName := ⟨"RingedLights", "marked", "(II)I"⟩
def y_X5_brake : MethodName := ⟨"RingedLights", "brake", "(II)I"⟩
def y_X5_sum : MethodName := ⟨"RingedLights", "sum", "(I)I"⟩
def y_X5_event : MethodName := ⟨"RingedLights", "event", "(II)I"⟩
def y_X5_mark : MethodName := ⟨"RingedLights", "mark", "(III)I"⟩
def y_X5_clock : MethodName := ⟨"RingedLights", "clock", "(II)I"⟩
def y_X5_call : MethodName := ⟨"RingedLights", "call", "(IZ)Z"⟩
def y_X5_come : MethodName := ⟨"RingedLights", "come", "(II)I"⟩
def y_X5_ask : MethodName := ⟨"RingedLights", "ask", "(I)Z"⟩
def y_X5_let : MethodName := ⟨"RingedLights", "let", "(I)Z"⟩
def y_X5_brakes : MethodName := ⟨"RingedLights", "brakes", "(IIIIII)Z"⟩
def y_X5_stick : MethodName := ⟨"RingedLights", "stick", "(IZ)Z"⟩
def y_X5_reset : MethodName := ⟨"RingedLights", "reset", "()Z"⟩
def y_X5_tick : MethodName := ⟨"RingedLights", "tick", "(I)I"⟩
def y_X5_run : MethodName := ⟨"RingedLights", "run", "(II)I"⟩
def y_X5_keep : MethodName := ⟨"RingedLights", "keep", "()I"⟩
def y_X5_back : MethodName := ⟨"RingedLights", "back", "()I"⟩
def y_X5_foes : MethodName := ⟨"RingedLights", "foes", "(II)I"⟩
def y_X5_sets : MethodName := ⟨"RingedLights", "sets", "(I)I"⟩
def y_X5_when : MethodName := ⟨"RingedLights", "when", "(I)I"⟩
def y_X5_worst : MethodName := ⟨"RingedLights", "worst", "(I)I"⟩
def y_X5_cleared : MethodName := ⟨"RingedLights", "cleared", "()I"⟩
def y_X5_instep : MethodName := ⟨"RingedLights", "instep", "()I"⟩
def y_X5_broken : MethodName := ⟨"RingedLights", "broken", "(I)I"⟩
def y_X5_paper : MethodName := ⟨"RingedLights", "paper", "(II)I"⟩
def y_X5_bestMax : MethodName := ⟨"RingedLights", "bestMax", "(II)I"⟩
def y_X5_cheapest : MethodName := ⟨"RingedLights", "cheapest", "(I)I"⟩
def y_X5_answer : MethodName := ⟨"RingedLights", "answer", "(I)I"⟩
def y_X5_refuse : MethodName := ⟨"RingedLights", "refuse", "(I)I"⟩
def y_X5_grant : MethodName := ⟨"RingedLights", "grant", "()Z"⟩
def y_X5_deny : MethodName := ⟨"RingedLights", "deny", "(I)Z"⟩
def y_X5_tapeFour : MethodName := ⟨"RingedLights", "tapeFour", "(I)V"⟩
def y_X5_keptAt : MethodName := ⟨"RingedLights", "keptAt", "(I)LRingedLights$Crossing;"⟩
def y_X5_ticksUntil : MethodName := ⟨"RingedLights", "ticksUntil", "(II)I"⟩
def y_X5_isBreak : MethodName := ⟨"RingedLights", "isBreak", "(I)Z"⟩
def y_X5_isCycle : MethodName := ⟨"RingedLights", "isCycle", "(I)Z"⟩
def y_X5_isOffset : MethodName := ⟨"RingedLights", "isOffset", "(I)Z"⟩
def y_X5_isDwell : MethodName := ⟨"RingedLights", "isDwell", "(I)Z"⟩
def y_X5_cell : MethodName := ⟨"RingedLights", "cell", "([II)I"⟩
def y_X5_put : MethodName := ⟨"RingedLights", "put", "([III)V"⟩
def y_X5_copyRow : MethodName := ⟨"RingedLights", "copyRow", "([I[I)V"⟩
def y_X5_fillRow : MethodName := ⟨"RingedLights", "fillRow", "([II)V"⟩
def y_X5_total : MethodName := ⟨"RingedLights", "total", "([I)I"⟩
def y_X5_bit : MethodName := ⟨"RingedLights", "bit", "(I)I"⟩
def y_X5_withBit : MethodName := ⟨"RingedLights", "withBit", "(IIZ)I"⟩
def y_X5_inSet : MethodName := ⟨"RingedLights", "inSet", "(II)Z"⟩
def y_X5_firstIn : MethodName := ⟨"RingedLights", "firstIn", "(I)I"⟩
def y_X6_status : MethodName := ⟨"RingedLightsModel", "status", "()I"⟩
def y_X6_refuse : MethodName := ⟨"RingedLightsModel", "refuse", "(I)I"⟩
def y_X6_isSo : MethodName := ⟨"RingedLightsModel", "isSo", "(I)Z"⟩
def y_X6_gives : MethodName := ⟨"RingedLightsModel", "gives", "(I)I"⟩
def y_X6_isFrom : MethodName := ⟨"RingedLightsModel", "isFrom", "(III)Z"⟩
def y_X6_has : MethodName := ⟨"RingedLightsModel", "has", "(II)Z"⟩
def y_X6_left : MethodName := ⟨"RingedLightsModel", "left", "(II)I"⟩
def y_X6_of : MethodName := ⟨"RingedLightsModel", "of", "(I)I"⟩
def y_X6_puts : MethodName := ⟨"RingedLightsModel", "puts", "(II)V"⟩
def y_X6_adds : MethodName := ⟨"RingedLightsModel", "adds", "(II)V"⟩
def y_X6_copies : MethodName := ⟨"RingedLightsModel", "copies", "(II)V"⟩
def y_X6_ring : MethodName := ⟨"RingedLightsModel", "ring", "(I)I"⟩
def y_X6_ofRing : MethodName := ⟨"RingedLightsModel", "ofRing", "(II)I"⟩
def y_X6_putsRing : MethodName := ⟨"RingedLightsModel", "putsRing", "(III)V"⟩
def y_X6_ofPhase : MethodName := ⟨"RingedLightsModel", "ofPhase", "(II)I"⟩
def y_X6_putsPhase : MethodName := ⟨"RingedLightsModel", "putsPhase", "(III)V"⟩
def y_X6_mark : MethodName := ⟨"RingedLightsModel", "mark", "(II)I"⟩
def y_X6_isPhase : MethodName := ⟨"RingedLightsModel", "isPhase", "(I)Z"⟩
def y_X6_begins : MethodName := ⟨"RingedLightsModel", "begins", "()V"⟩
def y_X6_areFoes : MethodName := ⟨"RingedLightsModel", "areFoes", "(II)Z"⟩
def y_X6_foesOf : MethodName := ⟨"RingedLightsModel", "foesOf", "(I)I"⟩
def y_X6_isPeace : MethodName := ⟨"RingedLightsModel", "isPeace", "(I)Z"⟩
def y_X6_firstOf : MethodName := ⟨"RingedLightsModel", "firstOf", "(IIIZ)I"⟩
def y_X6_starts : MethodName := ⟨"RingedLightsModel", "starts", "()V"⟩
def y_X6_clearsRing : MethodName := ⟨"RingedLightsModel", "clearsRing", "(I)V"⟩
def y_X6_isCalled : MethodName := ⟨"RingedLightsModel", "isCalled", "(I)Z"⟩
def y_X6_isOnFoot : MethodName := ⟨"RingedLightsModel", "isOnFoot", "(I)Z"⟩
def y_X6_isAsked : MethodName := ⟨"RingedLightsModel", "isAsked", "(I)Z"⟩
def y_X6_isFoeAsked : MethodName := ⟨"RingedLightsModel", "isFoeAsked", "(I)Z"⟩
def y_X6_isHolding : MethodName := ⟨"RingedLightsModel", "isHolding", "(I)Z"⟩
def y_X6_isGreen : MethodName := ⟨"RingedLightsModel", "isGreen", "(I)Z"⟩
def y_X6_happens : MethodName := ⟨"RingedLightsModel", "happens", "(II)V"⟩
def y_X6_becomesGreen : MethodName := ⟨"RingedLightsModel", "becomesGreen", "(II)V"⟩
def y_X6_leaves : MethodName := ⟨"RingedLightsModel", "leaves", "(II)V"⟩
def y_X6_goes : MethodName := ⟨"RingedLightsModel", "goes", "(II)V"⟩
def y_X6_drawBy : MethodName := ⟨"RingedLightsModel", "drawBy", "(I)I"⟩
def y_X6_comers : MethodName := ⟨"RingedLightsModel", "comers", "()V"⟩
def y_X6_due : MethodName := ⟨"RingedLightsModel", "due", "()I"⟩
def y_X6_clockGoes : MethodName := ⟨"RingedLightsModel", "clockGoes", "()V"⟩
def y_X6_greenGoes : MethodName := ⟨"RingedLightsModel", "greenGoes", "(I)V"⟩
def y_X6_ringGoes : MethodName := ⟨"RingedLightsModel", "ringGoes", "(I)V"⟩
def y_X6_endOf : MethodName := ⟨"RingedLightsModel", "endOf", "(I)I"⟩
def y_X6_isForced : MethodName := ⟨"RingedLightsModel", "isForced", "(I)Z"⟩
def y_X6_isFirst : MethodName := ⟨"RingedLightsModel", "isFirst", "(I)Z"⟩
def y_X6_isDone : MethodName := ⟨"RingedLightsModel", "isDone", "(I)Z"⟩
def y_X6_goesOn : MethodName := ⟨"RingedLightsModel", "goesOn", "()V"⟩
def y_X6_becomes : MethodName := ⟨"RingedLightsModel", "becomes", "()V"⟩
def y_X6_shown : MethodName := ⟨"RingedLightsModel", "shown", "()I"⟩
def y_X6_watches : MethodName := ⟨"RingedLightsModel", "watches", "()V"⟩
def y_X6_queues : MethodName := ⟨"RingedLightsModel", "queues", "()I"⟩
def y_X6_ticks : MethodName := ⟨"RingedLightsModel", "ticks", "(Z)V"⟩
def y_X6_ofBreak : MethodName := ⟨"RingedLightsModel", "ofBreak", "(II)I"⟩
def y_X6_noBreak : MethodName := ⟨"RingedLightsModel", "noBreak", "()V"⟩
def y_X6_isStage : MethodName := ⟨"RingedLightsModel", "isStage", "(I)V"⟩
def y_X6_breakBegins : MethodName := ⟨"RingedLightsModel", "breakBegins", "(I)V"⟩
def y_X6_breakEnds : MethodName := ⟨"RingedLightsModel", "breakEnds", "()V"⟩
def y_X6_goal : MethodName := ⟨"RingedLightsModel", "goal", "(I)I"⟩
def y_X6_goesTo : MethodName := ⟨"RingedLightsModel", "goesTo", "(I)V"⟩
def y_X6_breaks : MethodName := ⟨"RingedLightsModel", "breaks", "()V"⟩
def y_X6_staged : MethodName := ⟨"RingedLightsModel", "staged", "()V"⟩
def y_X6_feed : MethodName := ⟨"RingedLightsModel", "feed", "(IIIII)I"⟩
def y_X6_four : MethodName := ⟨"RingedLightsModel", "four", "(I)V"⟩
def y_X6_byteAt : MethodName := ⟨"RingedLightsModel", "byteAt", "(I)I"⟩
def y_X6_isSmall : MethodName := ⟨"RingedLightsModel", "isSmall", "(I)Z"⟩
def y_X6_isDigit : MethodName := ⟨"RingedLightsModel", "isDigit", "(I)Z"⟩
def y_X6_ahead : MethodName := ⟨"RingedLightsModel", "ahead", "()V"⟩
def y_X6_key : MethodName := ⟨"RingedLightsModel", "key", "()I"⟩
def y_X6_fails : MethodName := ⟨"RingedLightsModel", "fails", "(I)Z"⟩
def y_X6_takes : MethodName := ⟨"RingedLightsModel", "takes", "()Z"⟩
def y_X6_takesNumber : MethodName := ⟨"RingedLightsModel", "takesNumber", "(II)Z"⟩
def y_X6_takesWord : MethodName := ⟨"RingedLightsModel", "takesWord", "(I)Z"⟩
def y_X6_leastOf : MethodName := ⟨"RingedLightsModel", "leastOf", "(I)I"⟩
def y_X6_mostOf : MethodName := ⟨"RingedLightsModel", "mostOf", "(I)I"⟩
def y_X6_aPhase : MethodName := ⟨"RingedLightsModel", "aPhase", "()Z"⟩
def y_X6_aSet : MethodName := ⟨"RingedLightsModel", "aSet", "()Z"⟩
def y_X6_aGoal : MethodName := ⟨"RingedLightsModel", "aGoal", "(II)Z"⟩
def y_X6_aBreak : MethodName := ⟨"RingedLightsModel", "aBreak", "()Z"⟩
def y_X6_isCycle : MethodName := ⟨"RingedLightsModel", "isCycle", "(I)Z"⟩
def y_X6_aClock : MethodName := ⟨"RingedLightsModel", "aClock", "(I)Z"⟩
def y_X6_aLine : MethodName := ⟨"RingedLightsModel", "aLine", "()Z"⟩
def y_X6_load : MethodName := ⟨"RingedLightsModel", "load", "(I)I"⟩
def y_X6_fault : MethodName := ⟨"RingedLightsModel", "fault", "(I)I"⟩
def y_X6_many : MethodName := ⟨"RingedLightsModel", "many", "(I)I"⟩
def y_X6_ring_ : MethodName := ⟨"RingedLightsModel", "ring", "(II)I"⟩
def y_X6_lampOf : MethodName := ⟨"RingedLightsModel", "lampOf", "(I)I"⟩
def y_X6_phase : MethodName := ⟨"RingedLightsModel", "phase", "(II)I"⟩
def y_X6_marked : MethodName := ⟨"RingedLightsModel", "marked", "(II)I"⟩
def y_X6_brake : MethodName := ⟨"RingedLightsModel", "brake", "(II)I"⟩
def y_X6_greatest : MethodName := ⟨"RingedLightsModel", "greatest", "()I"⟩
def y_X6_goneAll : MethodName := ⟨"RingedLightsModel", "goneAll", "()I"⟩
def y_X6_sum : MethodName := ⟨"RingedLightsModel", "sum", "(I)I"⟩
def y_X6_event : MethodName := ⟨"RingedLightsModel", "event", "(II)I"⟩
def y_X6_mark_ : MethodName := ⟨"RingedLightsModel", "mark", "(III)I"⟩
def y_X6_clock : MethodName := ⟨"RingedLightsModel", "clock", "(II)I"⟩
def y_X6_calls : MethodName := ⟨"RingedLightsModel", "calls", "(I)V"⟩
def y_X6_call : MethodName := ⟨"RingedLightsModel", "call", "(IZ)Z"⟩
def y_X6_come : MethodName := ⟨"RingedLightsModel", "come", "(II)I"⟩
def y_X6_isWanted : MethodName := ⟨"RingedLightsModel", "isWanted", "(IZ)Z"⟩
def y_X6_ask : MethodName := ⟨"RingedLightsModel", "ask", "(I)Z"⟩
def y_X6_let : MethodName := ⟨"RingedLightsModel", "let", "(I)Z"⟩
def y_X6_isSet : MethodName := ⟨"RingedLightsModel", "isSet", "(I)Z"⟩
def y_X6_brakes : MethodName := ⟨"RingedLightsModel", "brakes", "(IIIIII)Z"⟩
def y_X6_stick : MethodName := ⟨"RingedLightsModel", "stick", "(IZ)Z"⟩
def y_X6_reset : MethodName := ⟨"RingedLightsModel", "reset", "()Z"⟩
def y_X6_tick : MethodName := ⟨"RingedLightsModel", "tick", "(I)I"⟩
def y_X6_run : MethodName := ⟨"RingedLightsModel", "run", "(II)I"⟩
def y_X6_keep : MethodName := ⟨"RingedLightsModel", "keep", "()I"⟩
def y_X6_back : MethodName := ⟨"RingedLightsModel", "back", "()I"⟩
def y_X6_foes : MethodName := ⟨"RingedLightsModel", "foes", "(II)I"⟩
def y_X6_isFull : MethodName := ⟨"RingedLightsModel", "isFull", "(I)Z"⟩
def y_X6_queuesIn : MethodName := ⟨"RingedLightsModel", "queuesIn", "(I)I"⟩
def y_X6_sets : MethodName := ⟨"RingedLightsModel", "sets", "(I)I"⟩
def y_X6_isGreenAt : MethodName := ⟨"RingedLightsModel", "isGreenAt", "(I)Z"⟩
def y_X6_isReached : MethodName := ⟨"RingedLightsModel", "isReached", "(II)Z"⟩
def y_X6_callsOthers : MethodName := ⟨"RingedLightsModel", "callsOthers", "(I)V"⟩
def y_X6_reaches : MethodName := ⟨"RingedLightsModel", "reaches", "(II)I"⟩
def y_X6_when : MethodName := ⟨"RingedLightsModel", "when", "(I)I"⟩
def y_X6_worst : MethodName := ⟨"RingedLightsModel", "worst", "(I)I"⟩
def y_X6_cleared : MethodName := ⟨"RingedLightsModel", "cleared", "()I"⟩
def y_X6_instep : MethodName := ⟨"RingedLightsModel", "instep", "()I"⟩
def y_X6_broken : MethodName := ⟨"RingedLightsModel", "broken", "(I)I"⟩
def y_X6_waitsIn : MethodName := ⟨"RingedLightsModel", "waitsIn", "(I)I"⟩
def y_X6_paper : MethodName := ⟨"RingedLightsModel", "paper", "(II)I"⟩
def y_X6_bestMax : MethodName := ⟨"RingedLightsModel", "bestMax", "(II)I"⟩
def y_X6_cheapest : MethodName := ⟨"RingedLightsModel", "cheapest", "(I)I"⟩
def y_J9_floorMod_7cf53 : MethodName := ⟨"java/lang/Math", "floorMod", "(II)I"⟩
def y_J9_max_7cf53 : MethodName := ⟨"java/lang/Math", "max", "(II)I"⟩
def y_J9_min_7cf53 : MethodName := ⟨"java/lang/Math", "min", "(II)I"⟩
def y_J0_length_8abf5 : MethodName := ⟨"java/lang/String", "length", "()I"⟩
def y_J0_charAt_5068e : MethodName := ⟨"java/lang/String", "charAt", "(I)C"⟩
def y_J0_coder_7d493 : MethodName := ⟨"java/lang/String", "coder", "()B"⟩
def y_J0_isLatin1_aae02 : MethodName := ⟨"java/lang/String", "isLatin1", "()Z"⟩
def y_J0_checkIndex_df160 : MethodName := ⟨"java/lang/String", "checkIndex", "(II)V"⟩
def y_J1_charAt_3b067 : MethodName := ⟨"java/lang/StringLatin1", "charAt", "([BI)C"⟩
def y_J3_checkIndex_8e157 : MethodName := ⟨"jdk/internal/util/Preconditions", "checkIndex", "(IILjava/util/function/BiFunction;)I"⟩
def cp_X0 : List (Nat × Nat × Nat × Nat × Nat) := [(0, 12, 0, 0, 0), (0, 23, 0, 1, 0), (0, 27, 0, 2, 0), (0, 33, 0, 3, 0), (0, 37, 0, 4, 0), (0, 41, 0, 5, 0), (0, 44, 0, 16, 0), (0, 62, 0, 6, 0), (0, 65, 0, 7, 0), (0, 68, 0, 8, 0), (0, 71, 0, 9, 0), (0, 74, 0, 10, 0), (0, 77, 0, 11, 0), (0, 80, 0, 12, 0), (0, 83, 0, 13, 0), (0, 86, 0, 14, 0), (0, 89, 0, 15, 0), (0, 93, 0, 17, 0), (0, 96, 0, 18, 0), (0, 127, 4, 1, 0), (0, 130, 4, 2, 0), (0, 133, 4, 3, 0), (0, 136, 4, 4, 0), (0, 139, 4, 5, 0), (0, 142, 4, 6, 0), (0, 145, 4, 7, 0), (0, 148, 4, 8, 0), (0, 159, 2, 3, 0), (0, 166, 2, 4, 0), (0, 189, 2, 0, 0), (0, 200, 2, 9, 0), (0, 203, 2, 11, 0), (0, 206, 2, 10, 0), (0, 237, 2, 1, 0), (0, 280, 2, 2, 0), (0, 314, 4, 0, 0), (2, 48, 52, 2, 2), (2, 52, 88, 2, 4), (2, 55, 48, 2, 1), (2, 58, 143, 2, 99), (2, 99, 47, 1, 1), (2, 102, 144, 2, 99), (2, 106, 40, 1, 0), (2, 109, 2, 1, 0), (2, 112, 61, 3, 2), (2, 116, 149, 1, 99), (2, 120, 91, 2, 4), (2, 123, 90, 1, 4), (2, 151, 31, 2, 0), (2, 155, 25, 2, 0), (2, 162, 141, 2, 99), (2, 169, 5, 2, 0), (2, 172, 10, 1, 0), (2, 176, 148, 2, 99), (2, 180, 11, 1, 0), (2, 183, 68, 2, 2), (2, 186, 63, 2, 2), (2, 192, 276, 2, 99), (2, 197, 7, 1, 0), (2, 209, 14, 2, 0), (2, 213, 146, 1, 99), (2, 216, 145, 1, 99), (2, 220, 24, 1, 0), (2, 223, 6, 2, 0), (2, 226, 142, 3, 99), (2, 230, 147, 3, 99), (2, 234, 17, 2, 0), (2, 240, 275, 2, 99), (2, 251, 57, 3, 2), (2, 254, 16, 3, 0), (2, 258, 22, 1, 0), (2, 261, 23, 1, 0), (2, 264, 26, 2, 0), (2, 267, 37, 1, 0), (2, 270, 32, 1, 0), (2, 273, 29, 3, 0), (2, 277, 30, 1, 0), (2, 283, 89, 1, 4), (2, 286, 27, 2, 0), (2, 289, 94, 3, 4), (2, 292, 12, 1, 0), (2, 295, 95, 3, 4), (2, 298, 49, 4, 1), (2, 302, 93, 2, 4), (2, 305, 92, 3, 4), (2, 308, 13, 1, 0), (2, 311, 65, 2, 2), (2, 317, 67, 2, 2), (2, 320, 33, 3, 0), (2, 324, 34, 2, 0), (2, 327, 28, 3, 0), (2, 331, 62, 2, 2), (2, 334, 35, 4, 0), (2, 338, 36, 3, 0), (2, 341, 38, 1, 0), (2, 344, 39, 2, 0), (2, 347, 59, 3, 2), (2, 350, 41, 2, 0), (2, 353, 44, 1, 0), (2, 356, 45, 1, 0), (2, 359, 42, 3, 0), (2, 362, 43, 3, 0), (2, 365, 46, 1, 0), (4, 243, 9301, 0, 0), (4, 245, 49297, 0, 0), (4, 247, 233280, 0, 0), (4, 249, 60, 0, 0)]
def cp_X1 : List (Nat × Nat × Nat × Nat × Nat) := [(0, 9, 1, 0, 0), (0, 15, 1, 1, 0), (0, 18, 1, 2, 0), (0, 21, 1, 3, 0), (0, 25, 1, 4, 0), (2, 28, 143, 2, 99), (2, 32, 277, 2, 99), (2, 38, 275, 2, 99), (2, 41, 141, 2, 99)]
def cp_X2 : List (Nat × Nat × Nat × Nat × Nat) := [(0, 9, 2, 3, 0), (0, 15, 2, 4, 0), (0, 18, 2, 5, 0), (0, 21, 2, 6, 0), (0, 24, 2, 7, 0), (0, 27, 2, 8, 0), (0, 30, 2, 0, 0), (0, 34, 2, 9, 0), (0, 37, 2, 10, 0), (0, 40, 2, 11, 0), (0, 43, 2, 1, 0), (0, 46, 2, 2, 0), (1, 76, 0, 29, 0), (2, 49, 144, 2, 99), (2, 53, 143, 2, 99), (2, 57, 141, 2, 99), (2, 61, 63, 2, 2), (2, 65, 146, 1, 99), (2, 68, 142, 3, 99), (2, 72, 61, 3, 2), (2, 79, 58, 4, 2), (2, 83, 55, 1, 2), (2, 87, 147, 3, 99), (2, 91, 65, 2, 2), (2, 94, 148, 2, 99), (2, 98, 149, 1, 99), (2, 101, 57, 3, 2)]
def cp_X3 : List (Nat × Nat × Nat × Nat × Nat) := [(0, 12, 3, 1, 0), (0, 18, 3, 0, 0), (0, 31, 3, 2, 0), (0, 35, 3, 3, 0), (0, 38, 3, 7, 0), (0, 41, 3, 8, 0), (0, 44, 3, 9, 0), (0, 47, 3, 10, 0), (0, 50, 3, 11, 0), (0, 56, 3, 5, 0), (0, 87, 3, 4, 0), (0, 97, 3, 6, 0), (0, 123, 2, 0, 0), (0, 187, 2, 1, 0), (0, 189, 2, 2, 0), (1, 139, 0, 27, 0), (1, 147, 0, 28, 0), (2, 22, 51, 1, 2), (2, 25, 277, 2, 99), (2, 53, 71, 1, 3), (2, 61, 75, 2, 3), (2, 65, 80, 1, 3), (2, 70, 85, 1, 3), (2, 75, 86, 1, 3), (2, 80, 87, 1, 3), (2, 83, 70, 2, 3), (2, 90, 72, 3, 3), (2, 93, 73, 2, 3), (2, 100, 74, 2, 3), (2, 103, 278, 1, 7), (2, 109, 279, 2, 7), (2, 113, 56, 2, 2), (2, 117, 64, 2, 2), (2, 120, 78, 3, 3), (2, 126, 53, 3, 2), (2, 130, 81, 2, 3), (2, 133, 76, 1, 3), (2, 136, 82, 1, 3), (2, 143, 141, 2, 99), (2, 150, 58, 4, 2), (2, 154, 83, 1, 99), (2, 177, 84, 2, 3), (2, 180, 77, 2, 3), (2, 184, 138, 1, 99), (2, 191, 137, 1, 99), (2, 194, 146, 1, 99), (2, 199, 79, 1, 3), (2, 202, 60, 4, 2), (3, 59, 0, 0, 0), (3, 68, 1, 0, 0), (3, 73, 2, 0, 0), (3, 78, 3, 0, 0), (3, 158, 7, 0, 0), (3, 159, 8, 0, 0), (3, 161, 9, 0, 0), (3, 163, 10, 0, 0), (3, 165, 11, 0, 0), (3, 167, 12, 0, 0), (3, 169, 13, 0, 0), (3, 171, 14, 0, 0), (3, 173, 15, 0, 0), (3, 175, 16, 0, 0), (3, 197, 4, 0, 0), (3, 205, 5, 0, 0), (3, 207, 6, 0, 0)]
def cp_X4 : List (Nat × Nat × Nat × Nat × Nat) := [(0, 9, 4, 1, 0), (0, 15, 4, 2, 0), (0, 18, 4, 4, 0), (0, 24, 4, 3, 0), (0, 27, 4, 5, 0), (0, 30, 4, 6, 0), (0, 33, 4, 7, 0), (0, 36, 4, 8, 0), (2, 39, 91, 2, 4)]
def cp_X5 : List (Nat × Nat × Nat × Nat × Nat) := [(0, 9, 5, 0, 0), (0, 18, 5, 1, 0), (0, 25, 5, 2, 0), (0, 29, 5, 3, 0), (0, 32, 5, 4, 0), (0, 35, 5, 5, 0), (0, 38, 5, 6, 0), (0, 41, 5, 7, 0), (0, 45, 5, 8, 0), (0, 48, 5, 9, 0), (0, 52, 5, 10, 0), (0, 66, 3, 9, 0), (0, 69, 0, 0, 0), (0, 73, 3, 1, 0), (0, 83, 2, 0, 0), (0, 89, 3, 10, 0), (0, 92, 3, 11, 0), (0, 95, 0, 12, 0), (0, 98, 2, 1, 0), (0, 101, 2, 2, 0), (0, 104, 0, 13, 0), (0, 107, 0, 15, 0), (0, 110, 0, 10, 0), (0, 113, 0, 16, 0), (0, 116, 0, 17, 0), (0, 119, 0, 18, 0), (0, 122, 0, 11, 0), (0, 125, 0, 1, 0), (0, 129, 0, 2, 0), (0, 157, 0, 5, 0), (0, 165, 0, 14, 0), (0, 168, 0, 4, 0), (0, 181, 0, 3, 0), (0, 185, 1, 3, 0), (0, 219, 0, 8, 0), (0, 222, 0, 7, 0), (1, 193, 0, 27, 0), (1, 200, 0, 28, 0), (2, 55, 134, 2, 5), (2, 59, 131, 2, 5), (2, 63, 69, 2, 3), (2, 74, 52, 2, 2), (2, 80, 1, 1, 0), (2, 86, 130, 2, 5), (2, 132, 3, 3, 0), (2, 136, 54, 2, 2), (2, 140, 4, 3, 0), (2, 144, 57, 3, 2), (2, 147, 137, 1, 99), (2, 150, 148, 2, 99), (2, 154, 59, 3, 2), (2, 161, 145, 1, 99), (2, 171, 7, 1, 0), (2, 175, 8, 1, 0), (2, 178, 13, 1, 0), (2, 190, 50, 3, 1), (2, 196, 141, 2, 99), (2, 203, 58, 4, 2), (2, 207, 138, 1, 99), (2, 210, 139, 1, 99), (2, 213, 19, 2, 0), (2, 216, 133, 2, 5), (2, 225, 146, 1, 99), (2, 228, 17, 2, 0), (2, 231, 132, 1, 5), (2, 235, 16, 3, 0), (2, 239, 56, 2, 2), (2, 242, 140, 1, 99), (2, 245, 64, 2, 2), (2, 248, 60, 4, 2), (2, 251, 147, 3, 99), (2, 255, 2, 1, 0), (2, 258, 49, 4, 1), (2, 261, 21, 2, 0), (2, 264, 20, 2, 0), (2, 267, 22, 1, 0), (2, 270, 135, 2, 5), (2, 274, 0, 2, 0), (2, 277, 63, 2, 2), (2, 280, 55, 1, 2), (2, 283, 66, 2, 2), (2, 286, 9, 2, 0), (2, 289, 136, 3, 5), (2, 292, 15, 3, 0), (2, 295, 18, 2, 0), (2, 298, 277, 2, 99), (5, 303, 999, 0, 0)]
def cp_X6 : List (Nat × Nat × Nat × Nat × Nat) := [(0, 7, 6, 0, 0), (0, 13, 6, 6, 0), (0, 17, 6, 7, 0), (0, 20, 6, 15, 0), (0, 24, 6, 16, 0), (0, 27, 6, 17, 0), (0, 36, 6, 1, 0), (0, 107, 6, 3, 0), (0, 131, 6, 4, 0), (0, 206, 6, 5, 0), (0, 219, 6, 8, 0), (0, 225, 6, 9, 0), (0, 228, 6, 12, 0), (0, 234, 6, 11, 0), (0, 237, 6, 10, 0), (0, 246, 6, 13, 0), (0, 260, 6, 14, 0), (0, 263, 6, 18, 0), (0, 276, 6, 20, 0), (0, 301, 6, 19, 0), (0, 331, 6, 2, 0), (2, 30, 168, 1, 6), (2, 33, 173, 1, 6), (2, 39, 161, 1, 99), (2, 43, 157, 2, 6), (2, 46, 158, 3, 6), (2, 50, 164, 3, 6), (2, 54, 169, 3, 6), (2, 58, 155, 2, 99), (2, 61, 170, 2, 6), (2, 64, 177, 2, 6), (2, 68, 172, 5, 6), (2, 72, 174, 2, 6), (2, 76, 163, 4, 6), (2, 80, 166, 3, 6), (2, 83, 175, 2, 6), (2, 86, 176, 2, 6), (2, 89, 162, 3, 6), (2, 92, 159, 3, 6), (2, 95, 165, 4, 6), (2, 98, 181, 3, 6), (2, 101, 179, 2, 6), (2, 104, 183, 3, 6), (2, 116, 185, 2, 6), (2, 119, 277, 2, 99), (2, 124, 156, 2, 99), (2, 127, 187, 1, 6), (2, 134, 178, 2, 6), (2, 137, 180, 2, 6), (2, 140, 189, 2, 6), (2, 143, 191, 2, 6), (2, 146, 192, 2, 6), (2, 149, 193, 2, 6), (2, 152, 194, 2, 6), (2, 155, 184, 3, 6), (2, 158, 182, 3, 6), (2, 161, 197, 1, 6), (2, 164, 171, 2, 6), (2, 167, 202, 1, 6), (2, 170, 186, 1, 6), (2, 173, 188, 1, 6), (2, 176, 190, 2, 6), (2, 179, 208, 1, 6), (2, 182, 195, 1, 6), (2, 185, 196, 1, 6), (2, 188, 209, 1, 6), (2, 191, 198, 1, 6), (2, 194, 199, 1, 6), (2, 197, 201, 3, 6), (2, 200, 203, 2, 6), (2, 203, 206, 2, 6), (2, 210, 205, 1, 6), (2, 213, 204, 2, 6), (2, 216, 207, 2, 6), (2, 222, 211, 2, 6), (2, 231, 212, 2, 6), (2, 240, 213, 1, 99), (2, 243, 214, 1, 99), (2, 251, 278, 1, 7), (2, 256, 279, 2, 7), (2, 266, 215, 1, 6), (2, 269, 217, 2, 6), (2, 272, 154, 3, 99), (2, 279, 218, 1, 6), (2, 283, 216, 1, 6), (2, 286, 219, 3, 6), (2, 289, 221, 1, 99), (2, 292, 222, 1, 99), (2, 295, 220, 2, 6), (2, 298, 224, 1, 6), (2, 304, 225, 3, 6), (2, 307, 227, 1, 99), (2, 310, 223, 1, 6), (2, 313, 228, 2, 6), (2, 316, 226, 1, 6), (2, 319, 151, 2, 6), (2, 322, 160, 3, 6), (2, 325, 229, 1, 6), (2, 328, 153, 2, 6), (2, 334, 167, 2, 6), (2, 337, 234, 2, 6), (2, 340, 239, 1, 6), (2, 343, 238, 1, 6), (2, 346, 152, 2, 6), (2, 349, 244, 2, 6), (2, 352, 247, 3, 6), (2, 356, 250, 2, 6), (2, 359, 200, 2, 6), (2, 363, 259, 2, 6), (2, 366, 260, 2, 6), (2, 369, 262, 2, 6), (2, 372, 263, 3, 6), (2, 375, 264, 2, 6), (2, 378, 265, 3, 6), (2, 381, 271, 2, 6), (3, 249, 17, 0, 0), (4, 110, 9301, 0, 0), (4, 112, 49297, 0, 0), (4, 114, 233280, 0, 0)]
def cp_J0 : List (Nat × Nat × Nat × Nat × Nat) := [(0, 9, 7, 0, 0), (0, 15, 7, 1, 0), (1, 38, 1, 0, 0), (1, 1053, 2, 0, 0), (2, 335, 280, 1, 7), (2, 492, 281, 1, 7), (2, 495, 283, 2, 99), (2, 1059, 284, 3, 99)]
def cp_J1 : List (Nat × Nat × Nat × Nat × Nat) := [(2, 9, 282, 2, 99)]
def cp_L : List (Nat × Nat × Nat × Nat × Nat) := [(2, 13, 96, 1, 5), (2, 17, 150, 1, 6), (2, 18, 97, 6, 5), (2, 22, 210, 6, 6), (2, 23, 98, 2, 5), (2, 27, 230, 2, 6), (2, 28, 99, 2, 5), (2, 31, 231, 2, 6), (2, 32, 100, 2, 5), (2, 35, 232, 2, 6), (2, 36, 101, 3, 5), (2, 40, 233, 3, 6), (2, 41, 102, 3, 5), (2, 44, 235, 3, 6), (2, 45, 103, 3, 5), (2, 48, 236, 3, 6), (2, 49, 104, 3, 5), (2, 52, 237, 3, 6), (2, 53, 105, 2, 5), (2, 56, 240, 2, 6), (2, 57, 106, 3, 5), (2, 60, 241, 3, 6), (2, 61, 107, 4, 5), (2, 65, 242, 4, 6), (2, 66, 108, 3, 5), (2, 69, 243, 3, 6), (2, 70, 109, 3, 5), (2, 74, 245, 3, 6), (2, 75, 110, 3, 5), (2, 78, 246, 3, 6), (2, 79, 111, 2, 5), (2, 83, 248, 2, 6), (2, 84, 112, 2, 5), (2, 87, 249, 2, 6), (2, 88, 113, 7, 5), (2, 92, 251, 7, 6), (2, 93, 114, 3, 5), (2, 96, 252, 3, 6), (2, 97, 115, 1, 5), (2, 101, 253, 1, 6), (2, 102, 116, 2, 5), (2, 105, 254, 2, 6), (2, 106, 117, 3, 5), (2, 109, 255, 3, 6), (2, 110, 118, 1, 5), (2, 113, 256, 1, 6), (2, 114, 119, 1, 5), (2, 117, 257, 1, 6), (2, 118, 120, 3, 5), (2, 121, 258, 3, 6), (2, 122, 121, 2, 5), (2, 125, 261, 2, 6), (2, 126, 122, 2, 5), (2, 129, 266, 2, 6), (2, 130, 123, 2, 5), (2, 133, 267, 2, 6), (2, 134, 124, 1, 5), (2, 137, 268, 1, 6), (2, 138, 125, 1, 5), (2, 141, 269, 1, 6), (2, 142, 126, 2, 5), (2, 145, 270, 2, 6), (2, 146, 127, 3, 5), (2, 149, 272, 3, 6), (2, 150, 128, 3, 5), (2, 153, 273, 3, 6), (2, 154, 129, 2, 5), (2, 157, 274, 2, 6)]
def cp_J9 : List (Nat × Nat × Nat × Nat × Nat) := []
def cp_J3 : List (Nat × Nat × Nat × Nat × Nat) := []
def t_X0_takeFrom : List mT := [
  (0, (.aload_n 0, 1), (0, 0, 0), []),
  (1, (.getfield 12, 3), (0, 0, 0), []),
  (4, (.aload_n 1, 1), (0, 0, 0), []),
  (5, (.getfield 12, 3), (0, 0, 0), []),
  (8, (.invokevirtual 48, 3), (52, 2, 2), []),
  (11, (.aload_n 0, 1), (0, 0, 0), []),
  (12, (.getfield 23, 3), (0, 1, 0), []),
  (15, (.aload_n 1, 1), (0, 0, 0), []),
  (16, (.getfield 23, 3), (0, 1, 0), []),
  (19, (.invokevirtual 52, 3), (88, 2, 4), []),
  (22, (.aload_n 0, 1), (0, 0, 0), []),
  (23, (.getfield 27, 3), (0, 2, 0), []),
  (26, (.aload_n 1, 1), (0, 0, 0), []),
  (27, (.getfield 27, 3), (0, 2, 0), []),
  (30, (.invokevirtual 52, 3), (88, 2, 4), []),
  (33, (.aload_n 0, 1), (0, 0, 0), []),
  (34, (.getfield 33, 3), (0, 3, 0), []),
  (37, (.aload_n 1, 1), (0, 0, 0), []),
  (38, (.getfield 33, 3), (0, 3, 0), []),
  (41, (.invokevirtual 55, 3), (48, 2, 1), []),
  (44, (.aload_n 1, 1), (0, 0, 0), []),
  (45, (.getfield 37, 3), (0, 4, 0), []),
  (48, (.aload_n 0, 1), (0, 0, 0), []),
  (49, (.getfield 37, 3), (0, 4, 0), []),
  (52, (.invokestatic 58, 3), (143, 2, 99), []),
  (55, (.aload_n 1, 1), (0, 0, 0), []),
  (56, (.getfield 41, 3), (0, 5, 0), []),
  (59, (.aload_n 0, 1), (0, 0, 0), []),
  (60, (.getfield 41, 3), (0, 5, 0), []),
  (63, (.invokestatic 58, 3), (143, 2, 99), []),
  (66, (.aload_n 0, 1), (0, 0, 0), []),
  (67, (.aload_n 1, 1), (0, 0, 0), []),
  (68, (.getfield 62, 3), (0, 6, 0), []),
  (71, (.putfield 62, 3), (0, 6, 0), []),
  (74, (.aload_n 0, 1), (0, 0, 0), []),
  (75, (.aload_n 1, 1), (0, 0, 0), []),
  (76, (.getfield 65, 3), (0, 7, 0), []),
  (79, (.putfield 65, 3), (0, 7, 0), []),
  (82, (.aload_n 0, 1), (0, 0, 0), []),
  (83, (.aload_n 1, 1), (0, 0, 0), []),
  (84, (.getfield 68, 3), (0, 8, 0), []),
  (87, (.putfield 68, 3), (0, 8, 0), []),
  (90, (.aload_n 0, 1), (0, 0, 0), []),
  (91, (.aload_n 1, 1), (0, 0, 0), []),
  (92, (.getfield 71, 3), (0, 9, 0), []),
  (95, (.putfield 71, 3), (0, 9, 0), []),
  (98, (.aload_n 0, 1), (0, 0, 0), []),
  (99, (.aload_n 1, 1), (0, 0, 0), []),
  (100, (.getfield 74, 3), (0, 10, 0), []),
  (103, (.putfield 74, 3), (0, 10, 0), []),
  (106, (.aload_n 0, 1), (0, 0, 0), []),
  (107, (.aload_n 1, 1), (0, 0, 0), []),
  (108, (.getfield 77, 3), (0, 11, 0), []),
  (111, (.putfield 77, 3), (0, 11, 0), []),
  (114, (.aload_n 0, 1), (0, 0, 0), []),
  (115, (.aload_n 1, 1), (0, 0, 0), []),
  (116, (.getfield 80, 3), (0, 12, 0), []),
  (119, (.putfield 80, 3), (0, 12, 0), []),
  (122, (.aload_n 0, 1), (0, 0, 0), []),
  (123, (.aload_n 1, 1), (0, 0, 0), []),
  (124, (.getfield 83, 3), (0, 13, 0), []),
  (127, (.putfield 83, 3), (0, 13, 0), []),
  (130, (.aload_n 0, 1), (0, 0, 0), []),
  (131, (.aload_n 1, 1), (0, 0, 0), []),
  (132, (.getfield 86, 3), (0, 14, 0), []),
  (135, (.putfield 86, 3), (0, 14, 0), []),
  (138, (.aload_n 0, 1), (0, 0, 0), []),
  (139, (.aload_n 1, 1), (0, 0, 0), []),
  (140, (.getfield 89, 3), (0, 15, 0), []),
  (143, (.putfield 89, 3), (0, 15, 0), []),
  (146, (.aload_n 0, 1), (0, 0, 0), []),
  (147, (.aload_n 1, 1), (0, 0, 0), []),
  (148, (.getfield 44, 3), (0, 16, 0), []),
  (151, (.putfield 44, 3), (0, 16, 0), []),
  (154, (.aload_n 0, 1), (0, 0, 0), []),
  (155, (.aload_n 1, 1), (0, 0, 0), []),
  (156, (.getfield 93, 3), (0, 17, 0), []),
  (159, (.putfield 93, 3), (0, 17, 0), []),
  (162, (.aload_n 0, 1), (0, 0, 0), []),
  (163, (.aload_n 1, 1), (0, 0, 0), []),
  (164, (.getfield 96, 3), (0, 18, 0), []),
  (167, (.putfield 96, 3), (0, 18, 0), []),
  (170, (.return_, 1), (0, 0, 0), [])]
def t_X0_beginAnew : List mT := [
  (0, (.aload_n 0, 1), (0, 0, 0), []),
  (1, (.getfield 33, 3), (0, 3, 0), []),
  (4, (.invokevirtual 99, 3), (47, 1, 1), []),
  (7, (.aload_n 0, 1), (0, 0, 0), []),
  (8, (.getfield 37, 3), (0, 4, 0), []),
  (11, (.iconst 0, 1), (0, 0, 0), []),
  (12, (.invokestatic 102, 3), (144, 2, 99), []),
  (15, (.aload_n 0, 1), (0, 0, 0), []),
  (16, (.getfield 41, 3), (0, 5, 0), []),
  (19, (.iconst 0, 1), (0, 0, 0), []),
  (20, (.invokestatic 102, 3), (144, 2, 99), []),
  (23, (.aload_n 0, 1), (0, 0, 0), []),
  (24, (.iconst 0, 1), (0, 0, 0), []),
  (25, (.putfield 62, 3), (0, 6, 0), []),
  (28, (.aload_n 0, 1), (0, 0, 0), []),
  (29, (.iconst 0, 1), (0, 0, 0), []),
  (30, (.putfield 65, 3), (0, 7, 0), []),
  (33, (.aload_n 0, 1), (0, 0, 0), []),
  (34, (.iconst 0, 1), (0, 0, 0), []),
  (35, (.putfield 68, 3), (0, 8, 0), []),
  (38, (.aload_n 0, 1), (0, 0, 0), []),
  (39, (.iconst 0, 1), (0, 0, 0), []),
  (40, (.putfield 71, 3), (0, 9, 0), []),
  (43, (.aload_n 0, 1), (0, 0, 0), []),
  (44, (.iconst 0, 1), (0, 0, 0), []),
  (45, (.putfield 74, 3), (0, 10, 0), []),
  (48, (.aload_n 0, 1), (0, 0, 0), []),
  (49, (.iconst 0, 1), (0, 0, 0), []),
  (50, (.putfield 77, 3), (0, 11, 0), []),
  (53, (.aload_n 0, 1), (0, 0, 0), []),
  (54, (.iconst 0, 1), (0, 0, 0), []),
  (55, (.putfield 80, 3), (0, 12, 0), []),
  (58, (.aload_n 0, 1), (0, 0, 0), []),
  (59, (.iconst 0, 1), (0, 0, 0), []),
  (60, (.putfield 83, 3), (0, 13, 0), []),
  (63, (.aload_n 0, 1), (0, 0, 0), []),
  (64, (.iconst 0, 1), (0, 0, 0), []),
  (65, (.putfield 86, 3), (0, 14, 0), []),
  (68, (.aload_n 0, 1), (0, 0, 0), []),
  (69, (.iconst 0, 1), (0, 0, 0), []),
  (70, (.putfield 89, 3), (0, 15, 0), []),
  (73, (.aload_n 0, 1), (0, 0, 0), []),
  (74, (.invokevirtual 106, 3), (40, 1, 0), []),
  (77, (.aload_n 0, 1), (0, 0, 0), []),
  (78, (.invokevirtual 109, 3), (2, 1, 0), []),
  (81, (.return_, 1), (0, 0, 0), [])]
def t_X0_startRings : List mT := [
  (0, (.aload_n 0, 1), (0, 0, 0), []),
  (1, (.getfield 12, 3), (0, 0, 0), []),
  (4, (.iconst 0, 1), (0, 0, 0), []),
  (5, (.iconst 0, 1), (0, 0, 0), []),
  (6, (.invokevirtual 112, 3), (61, 3, 2), []),
  (9, (.aload_n 0, 1), (0, 0, 0), []),
  (10, (.getfield 12, 3), (0, 0, 0), []),
  (13, (.iconst 1, 1), (0, 0, 0), []),
  (14, (.iconst 0, 1), (0, 0, 0), []),
  (15, (.invokevirtual 112, 3), (61, 3, 2), []),
  (18, (.ior, 1), (0, 0, 0), []),
  (19, (.ifCond .eq 7, 3), (26, 0, 0), []),
  (22, (.iconst 0, 1), (0, 0, 0), []),
  (23, (.goto 4, 3), (27, 0, 0), []),
  (26, (.iconst 1, 1), (0, 0, 0), []),
  (27, (.istore_n 1, 1), (0, 0, 0), []),
  (28, (.aload_n 0, 1), (0, 0, 0), []),
  (29, (.getfield 23, 3), (0, 1, 0), []),
  (32, (.aload_n 0, 1), (0, 0, 0), []),
  (33, (.getfield 12, 3), (0, 0, 0), []),
  (36, (.iconst 0, 1), (0, 0, 0), []),
  (37, (.iload_n 1, 1), (0, 0, 0), []),
  (38, (.invokevirtual 112, 3), (61, 3, 2), []),
  (41, (.invokestatic 116, 3), (149, 1, 99), []),
  (44, (.invokevirtual 120, 3), (91, 2, 4), []),
  (47, (.aload_n 0, 1), (0, 0, 0), []),
  (48, (.getfield 27, 3), (0, 2, 0), []),
  (51, (.aload_n 0, 1), (0, 0, 0), []),
  (52, (.getfield 12, 3), (0, 0, 0), []),
  (55, (.iconst 1, 1), (0, 0, 0), []),
  (56, (.iload_n 1, 1), (0, 0, 0), []),
  (57, (.invokevirtual 112, 3), (61, 3, 2), []),
  (60, (.invokestatic 116, 3), (149, 1, 99), []),
  (63, (.invokevirtual 120, 3), (91, 2, 4), []),
  (66, (.return_, 1), (0, 0, 0), [])]
def t_X0_tellRing : List mT := [
  (0, (.iload_n 2, 1), (0, 0, 0), []),
  (1, (.iconst 3, 1), (0, 0, 0), []),
  (2, (.if_icmp .le 12, 3), (14, 0, 0), []),
  (5, (.aload_n 1, 1), (0, 0, 0), []),
  (6, (.invokevirtual 123, 3), (90, 1, 4), []),
  (9, (.ifCond .ne 5, 3), (14, 0, 0), []),
  (12, (.iconst 0, 1), (0, 0, 0), []),
  (13, (.ireturn, 1), (0, 0, 0), []),
  (14, (.iload_n 2, 1), (0, 0, 0), []),
  (15, (.tableswitch 103 0 8 #[49, 54, 59, 64, 69, 74, 79, 84, 89], 49), (118, 0, 0), [(0, 64), (1, 69), (2, 74), (3, 79), (4, 84), (5, 89), (6, 94), (7, 99), (8, 104)]),
  (64, (.aload_n 1, 1), (0, 0, 0), []),
  (65, (.getfield 127, 3), (4, 1, 0), []),
  (68, (.ireturn, 1), (0, 0, 0), []),
  (69, (.aload_n 1, 1), (0, 0, 0), []),
  (70, (.getfield 130, 3), (4, 2, 0), []),
  (73, (.ireturn, 1), (0, 0, 0), []),
  (74, (.aload_n 1, 1), (0, 0, 0), []),
  (75, (.getfield 133, 3), (4, 3, 0), []),
  (78, (.ireturn, 1), (0, 0, 0), []),
  (79, (.aload_n 1, 1), (0, 0, 0), []),
  (80, (.getfield 136, 3), (4, 4, 0), []),
  (83, (.ireturn, 1), (0, 0, 0), []),
  (84, (.aload_n 1, 1), (0, 0, 0), []),
  (85, (.getfield 139, 3), (4, 5, 0), []),
  (88, (.ireturn, 1), (0, 0, 0), []),
  (89, (.aload_n 1, 1), (0, 0, 0), []),
  (90, (.getfield 142, 3), (4, 6, 0), []),
  (93, (.ireturn, 1), (0, 0, 0), []),
  (94, (.aload_n 1, 1), (0, 0, 0), []),
  (95, (.getfield 145, 3), (4, 7, 0), []),
  (98, (.ireturn, 1), (0, 0, 0), []),
  (99, (.aload_n 1, 1), (0, 0, 0), []),
  (100, (.getfield 148, 3), (4, 8, 0), []),
  (103, (.ireturn, 1), (0, 0, 0), []),
  (104, (.aload_n 0, 1), (0, 0, 0), []),
  (105, (.aload_n 1, 1), (0, 0, 0), []),
  (106, (.invokevirtual 151, 3), (31, 2, 0), []),
  (109, (.ifCond .eq 7, 3), (116, 0, 0), []),
  (112, (.iconst 1, 1), (0, 0, 0), []),
  (113, (.goto 4, 3), (117, 0, 0), []),
  (116, (.iconst 0, 1), (0, 0, 0), []),
  (117, (.ireturn, 1), (0, 0, 0), []),
  (118, (.aload_n 0, 1), (0, 0, 0), []),
  (119, (.aload_n 1, 1), (0, 0, 0), []),
  (120, (.getfield 127, 3), (4, 1, 0), []),
  (123, (.invokevirtual 155, 3), (25, 2, 0), []),
  (126, (.ifCond .eq 7, 3), (133, 0, 0), []),
  (129, (.iconst 1, 1), (0, 0, 0), []),
  (130, (.goto 4, 3), (134, 0, 0), []),
  (133, (.iconst 0, 1), (0, 0, 0), []),
  (134, (.ireturn, 1), (0, 0, 0), [])]
def t_X0_tellPhase : List mT := [
  (0, (.iload_n 2, 1), (0, 0, 0), []),
  (1, (.tableswitch 138 0 7 #[47, 59, 71, 77, 86, 103, 120, 129], 47), (139, 0, 0), [(0, 48), (1, 60), (2, 72), (3, 78), (4, 87), (5, 104), (6, 121), (7, 130)]),
  (48, (.aload_n 0, 1), (0, 0, 0), []),
  (49, (.getfield 12, 3), (0, 0, 0), []),
  (52, (.getfield 159, 3), (2, 3, 0), []),
  (55, (.iload_n 1, 1), (0, 0, 0), []),
  (56, (.invokestatic 162, 3), (141, 2, 99), []),
  (59, (.ireturn, 1), (0, 0, 0), []),
  (60, (.aload_n 0, 1), (0, 0, 0), []),
  (61, (.getfield 12, 3), (0, 0, 0), []),
  (64, (.getfield 166, 3), (2, 4, 0), []),
  (67, (.iload_n 1, 1), (0, 0, 0), []),
  (68, (.invokestatic 162, 3), (141, 2, 99), []),
  (71, (.ireturn, 1), (0, 0, 0), []),
  (72, (.aload_n 0, 1), (0, 0, 0), []),
  (73, (.iload_n 1, 1), (0, 0, 0), []),
  (74, (.invokevirtual 169, 3), (5, 2, 0), []),
  (77, (.ireturn, 1), (0, 0, 0), []),
  (78, (.aload_n 0, 1), (0, 0, 0), []),
  (79, (.getfield 37, 3), (0, 4, 0), []),
  (82, (.iload_n 1, 1), (0, 0, 0), []),
  (83, (.invokestatic 162, 3), (141, 2, 99), []),
  (86, (.ireturn, 1), (0, 0, 0), []),
  (87, (.aload_n 0, 1), (0, 0, 0), []),
  (88, (.invokevirtual 172, 3), (10, 1, 0), []),
  (91, (.iload_n 1, 1), (0, 0, 0), []),
  (92, (.invokestatic 176, 3), (148, 2, 99), []),
  (95, (.ifCond .eq 7, 3), (102, 0, 0), []),
  (98, (.iconst 1, 1), (0, 0, 0), []),
  (99, (.goto 4, 3), (103, 0, 0), []),
  (102, (.iconst 0, 1), (0, 0, 0), []),
  (103, (.ireturn, 1), (0, 0, 0), []),
  (104, (.aload_n 0, 1), (0, 0, 0), []),
  (105, (.invokevirtual 180, 3), (11, 1, 0), []),
  (108, (.iload_n 1, 1), (0, 0, 0), []),
  (109, (.invokestatic 176, 3), (148, 2, 99), []),
  (112, (.ifCond .eq 7, 3), (119, 0, 0), []),
  (115, (.iconst 1, 1), (0, 0, 0), []),
  (116, (.goto 4, 3), (120, 0, 0), []),
  (119, (.iconst 0, 1), (0, 0, 0), []),
  (120, (.ireturn, 1), (0, 0, 0), []),
  (121, (.aload_n 0, 1), (0, 0, 0), []),
  (122, (.getfield 41, 3), (0, 5, 0), []),
  (125, (.iload_n 1, 1), (0, 0, 0), []),
  (126, (.invokestatic 162, 3), (141, 2, 99), []),
  (129, (.ireturn, 1), (0, 0, 0), []),
  (130, (.aload_n 0, 1), (0, 0, 0), []),
  (131, (.getfield 12, 3), (0, 0, 0), []),
  (134, (.iload_n 1, 1), (0, 0, 0), []),
  (135, (.invokevirtual 183, 3), (68, 2, 2), []),
  (138, (.ireturn, 1), (0, 0, 0), []),
  (139, (.aload_n 0, 1), (0, 0, 0), []),
  (140, (.getfield 12, 3), (0, 0, 0), []),
  (143, (.iload_n 1, 1), (0, 0, 0), []),
  (144, (.invokevirtual 186, 3), (63, 2, 2), []),
  (147, (.ireturn, 1), (0, 0, 0), [])]
def t_X0_lampOf : List mT := [
  (0, (.aload_n 0, 1), (0, 0, 0), []),
  (1, (.getfield 12, 3), (0, 0, 0), []),
  (4, (.getfield 159, 3), (2, 3, 0), []),
  (7, (.iload_n 1, 1), (0, 0, 0), []),
  (8, (.invokestatic 162, 3), (141, 2, 99), []),
  (11, (.ifCond .ne 10, 3), (21, 0, 0), []),
  (14, (.aload_n 0, 1), (0, 0, 0), []),
  (15, (.getfield 23, 3), (0, 1, 0), []),
  (18, (.goto 7, 3), (25, 0, 0), []),
  (21, (.aload_n 0, 1), (0, 0, 0), []),
  (22, (.getfield 27, 3), (0, 2, 0), []),
  (25, (.astore_n 2, 1), (0, 0, 0), []),
  (26, (.aload_n 0, 1), (0, 0, 0), []),
  (27, (.getfield 74, 3), (0, 10, 0), []),
  (30, (.iload_n 1, 1), (0, 0, 0), []),
  (31, (.invokestatic 176, 3), (148, 2, 99), []),
  (34, (.ifCond .ne 18, 3), (52, 0, 0), []),
  (37, (.aload_n 2, 1), (0, 0, 0), []),
  (38, (.getfield 127, 3), (4, 1, 0), []),
  (41, (.iload_n 1, 1), (0, 0, 0), []),
  (42, (.if_icmp .ne 12, 3), (54, 0, 0), []),
  (45, (.aload_n 2, 1), (0, 0, 0), []),
  (46, (.getfield 130, 3), (4, 2, 0), []),
  (49, (.ifCond .ne 5, 3), (54, 0, 0), []),
  (52, (.iconst 2, 1), (0, 0, 0), []),
  (53, (.ireturn, 1), (0, 0, 0), []),
  (54, (.aload_n 2, 1), (0, 0, 0), []),
  (55, (.getfield 127, 3), (4, 1, 0), []),
  (58, (.iload_n 1, 1), (0, 0, 0), []),
  (59, (.if_icmp .ne 15, 3), (74, 0, 0), []),
  (62, (.aload_n 2, 1), (0, 0, 0), []),
  (63, (.getfield 130, 3), (4, 2, 0), []),
  (66, (.iconst 1, 1), (0, 0, 0), []),
  (67, (.if_icmp .ne 7, 3), (74, 0, 0), []),
  (70, (.iconst 1, 1), (0, 0, 0), []),
  (71, (.goto 4, 3), (75, 0, 0), []),
  (74, (.iconst 0, 1), (0, 0, 0), []),
  (75, (.ireturn, 1), (0, 0, 0), [])]
def t_X0_isGreenAt : List mT := [
  (0, (.aload_n 0, 1), (0, 0, 0), []),
  (1, (.getfield 23, 3), (0, 1, 0), []),
  (4, (.invokevirtual 123, 3), (90, 1, 4), []),
  (7, (.ifCond .eq 14, 3), (21, 0, 0), []),
  (10, (.aload_n 0, 1), (0, 0, 0), []),
  (11, (.getfield 23, 3), (0, 1, 0), []),
  (14, (.getfield 127, 3), (4, 1, 0), []),
  (17, (.iload_n 1, 1), (0, 0, 0), []),
  (18, (.if_icmp .eq 24, 3), (42, 0, 0), []),
  (21, (.aload_n 0, 1), (0, 0, 0), []),
  (22, (.getfield 27, 3), (0, 2, 0), []),
  (25, (.invokevirtual 123, 3), (90, 1, 4), []),
  (28, (.ifCond .eq 18, 3), (46, 0, 0), []),
  (31, (.aload_n 0, 1), (0, 0, 0), []),
  (32, (.getfield 27, 3), (0, 2, 0), []),
  (35, (.getfield 127, 3), (4, 1, 0), []),
  (38, (.iload_n 1, 1), (0, 0, 0), []),
  (39, (.if_icmp .ne 7, 3), (46, 0, 0), []),
  (42, (.iconst 1, 1), (0, 0, 0), []),
  (43, (.goto 4, 3), (47, 0, 0), []),
  (46, (.iconst 0, 1), (0, 0, 0), []),
  (47, (.ireturn, 1), (0, 0, 0), [])]
def t_X0_longestQueue : List mT := [
  (0, (.iconst 0, 1), (0, 0, 0), []),
  (1, (.istore_n 1, 1), (0, 0, 0), []),
  (2, (.iconst 0, 1), (0, 0, 0), []),
  (3, (.istore_n 2, 1), (0, 0, 0), []),
  (4, (.iload_n 2, 1), (0, 0, 0), []),
  (5, (.aload_n 0, 1), (0, 0, 0), []),
  (6, (.getfield 12, 3), (0, 0, 0), []),
  (9, (.getfield 189, 3), (2, 0, 0), []),
  (12, (.if_icmp .ge 22, 3), (34, 0, 0), []),
  (15, (.iload_n 1, 1), (0, 0, 0), []),
  (16, (.aload_n 0, 1), (0, 0, 0), []),
  (17, (.getfield 37, 3), (0, 4, 0), []),
  (20, (.iload_n 2, 1), (0, 0, 0), []),
  (21, (.invokestatic 162, 3), (141, 2, 99), []),
  (24, (.invokestatic 192, 3), (276, 2, 99), []),
  (27, (.istore_n 1, 1), (0, 0, 0), []),
  (28, (.iinc 2 1, 3), (0, 0, 0), []),
  (31, (.goto (-27), 3), (4, 0, 0), []),
  (34, (.iload_n 1, 1), (0, 0, 0), []),
  (35, (.ireturn, 1), (0, 0, 0), [])]
def t_X0_firstLongest : List mT := [
  (0, (.aload_n 0, 1), (0, 0, 0), []),
  (1, (.invokevirtual 197, 3), (7, 1, 0), []),
  (4, (.istore_n 1, 1), (0, 0, 0), []),
  (5, (.iconst 0, 1), (0, 0, 0), []),
  (6, (.istore_n 2, 1), (0, 0, 0), []),
  (7, (.iload_n 2, 1), (0, 0, 0), []),
  (8, (.aload_n 0, 1), (0, 0, 0), []),
  (9, (.getfield 12, 3), (0, 0, 0), []),
  (12, (.getfield 189, 3), (2, 0, 0), []),
  (15, (.if_icmp .ge 27, 3), (42, 0, 0), []),
  (18, (.iload_n 1, 1), (0, 0, 0), []),
  (19, (.ifCond .le 23, 3), (42, 0, 0), []),
  (22, (.aload_n 0, 1), (0, 0, 0), []),
  (23, (.getfield 37, 3), (0, 4, 0), []),
  (26, (.iload_n 2, 1), (0, 0, 0), []),
  (27, (.invokestatic 162, 3), (141, 2, 99), []),
  (30, (.iload_n 1, 1), (0, 0, 0), []),
  (31, (.if_icmp .ne 5, 3), (36, 0, 0), []),
  (34, (.iload_n 2, 1), (0, 0, 0), []),
  (35, (.ireturn, 1), (0, 0, 0), []),
  (36, (.iinc 2 1, 3), (0, 0, 0), []),
  (39, (.goto (-32), 3), (7, 0, 0), []),
  (42, (.iconst (-1), 1), (0, 0, 0), []),
  (43, (.ireturn, 1), (0, 0, 0), [])]
def t_X0_queueOf : List mT := [
  (0, (.iconst 0, 1), (0, 0, 0), []),
  (1, (.istore_n 2, 1), (0, 0, 0), []),
  (2, (.iconst 0, 1), (0, 0, 0), []),
  (3, (.istore_n 3, 1), (0, 0, 0), []),
  (4, (.iload_n 3, 1), (0, 0, 0), []),
  (5, (.aload_n 0, 1), (0, 0, 0), []),
  (6, (.getfield 12, 3), (0, 0, 0), []),
  (9, (.getfield 189, 3), (2, 0, 0), []),
  (12, (.if_icmp .ge 28, 3), (40, 0, 0), []),
  (15, (.iload_n 1, 1), (0, 0, 0), []),
  (16, (.iload_n 3, 1), (0, 0, 0), []),
  (17, (.invokestatic 176, 3), (148, 2, 99), []),
  (20, (.ifCond .eq 14, 3), (34, 0, 0), []),
  (23, (.iload_n 2, 1), (0, 0, 0), []),
  (24, (.aload_n 0, 1), (0, 0, 0), []),
  (25, (.getfield 37, 3), (0, 4, 0), []),
  (28, (.iload_n 3, 1), (0, 0, 0), []),
  (29, (.invokestatic 162, 3), (141, 2, 99), []),
  (32, (.iadd, 1), (0, 0, 0), []),
  (33, (.istore_n 2, 1), (0, 0, 0), []),
  (34, (.iinc 3 1, 3), (0, 0, 0), []),
  (37, (.goto (-33), 3), (4, 0, 0), []),
  (40, (.iload_n 2, 1), (0, 0, 0), []),
  (41, (.ireturn, 1), (0, 0, 0), [])]
def t_X0_calledSet : List mT := [
  (0, (.aload_n 0, 1), (0, 0, 0), []),
  (1, (.getfield 65, 3), (0, 7, 0), []),
  (4, (.aload_n 0, 1), (0, 0, 0), []),
  (5, (.getfield 62, 3), (0, 6, 0), []),
  (8, (.ior, 1), (0, 0, 0), []),
  (9, (.aload_n 0, 1), (0, 0, 0), []),
  (10, (.getfield 12, 3), (0, 0, 0), []),
  (13, (.getfield 200, 3), (2, 9, 0), []),
  (16, (.ior, 1), (0, 0, 0), []),
  (17, (.ireturn, 1), (0, 0, 0), [])]
def t_X0_onFootSet : List mT := [
  (0, (.aload_n 0, 1), (0, 0, 0), []),
  (1, (.getfield 68, 3), (0, 8, 0), []),
  (4, (.aload_n 0, 1), (0, 0, 0), []),
  (5, (.getfield 12, 3), (0, 0, 0), []),
  (8, (.getfield 203, 3), (2, 11, 0), []),
  (11, (.iand, 1), (0, 0, 0), []),
  (12, (.aload_n 0, 1), (0, 0, 0), []),
  (13, (.getfield 12, 3), (0, 0, 0), []),
  (16, (.getfield 206, 3), (2, 10, 0), []),
  (19, (.ior, 1), (0, 0, 0), []),
  (20, (.ireturn, 1), (0, 0, 0), [])]
def t_X0_askedSet : List mT := [
  (0, (.aload_n 0, 1), (0, 0, 0), []),
  (1, (.invokevirtual 172, 3), (10, 1, 0), []),
  (4, (.aload_n 0, 1), (0, 0, 0), []),
  (5, (.invokevirtual 180, 3), (11, 1, 0), []),
  (8, (.ior, 1), (0, 0, 0), []),
  (9, (.ireturn, 1), (0, 0, 0), [])]
def t_X0_shownSet : List mT := [
  (0, (.aload_n 0, 1), (0, 0, 0), []),
  (1, (.getfield 74, 3), (0, 10, 0), []),
  (4, (.aload_n 0, 1), (0, 0, 0), []),
  (5, (.aload_n 0, 1), (0, 0, 0), []),
  (6, (.getfield 23, 3), (0, 1, 0), []),
  (9, (.invokevirtual 209, 3), (14, 2, 0), []),
  (12, (.ior, 1), (0, 0, 0), []),
  (13, (.aload_n 0, 1), (0, 0, 0), []),
  (14, (.aload_n 0, 1), (0, 0, 0), []),
  (15, (.getfield 27, 3), (0, 2, 0), []),
  (18, (.invokevirtual 209, 3), (14, 2, 0), []),
  (21, (.ior, 1), (0, 0, 0), []),
  (22, (.ireturn, 1), (0, 0, 0), [])]
def t_X0_shownBy : List mT := [
  (0, (.aload_n 1, 1), (0, 0, 0), []),
  (1, (.getfield 130, 3), (4, 2, 0), []),
  (4, (.ifCond .eq 11, 3), (15, 0, 0), []),
  (7, (.aload_n 1, 1), (0, 0, 0), []),
  (8, (.getfield 130, 3), (4, 2, 0), []),
  (11, (.iconst 1, 1), (0, 0, 0), []),
  (12, (.if_icmp .ne 13, 3), (25, 0, 0), []),
  (15, (.aload_n 1, 1), (0, 0, 0), []),
  (16, (.getfield 127, 3), (4, 1, 0), []),
  (19, (.invokestatic 213, 3), (146, 1, 99), []),
  (22, (.goto 4, 3), (26, 0, 0), []),
  (25, (.iconst 0, 1), (0, 0, 0), []),
  (26, (.ireturn, 1), (0, 0, 0), [])]
def t_X0_hasReached : List mT := [
  (0, (.iload_n 1, 1), (0, 0, 0), []),
  (1, (.tableswitch 86 2 4 #[27, 43, 56], 27), (87, 0, 0), [(2, 28), (3, 44), (4, 57)]),
  (28, (.aload_n 0, 1), (0, 0, 0), []),
  (29, (.getfield 37, 3), (0, 4, 0), []),
  (32, (.invokestatic 216, 3), (145, 1, 99), []),
  (35, (.ifCond .ne 7, 3), (42, 0, 0), []),
  (38, (.iconst 1, 1), (0, 0, 0), []),
  (39, (.goto 4, 3), (43, 0, 0), []),
  (42, (.iconst 0, 1), (0, 0, 0), []),
  (43, (.ireturn, 1), (0, 0, 0), []),
  (44, (.aload_n 0, 1), (0, 0, 0), []),
  (45, (.invokevirtual 220, 3), (24, 1, 0), []),
  (48, (.ifCond .ne 7, 3), (55, 0, 0), []),
  (51, (.iconst 1, 1), (0, 0, 0), []),
  (52, (.goto 4, 3), (56, 0, 0), []),
  (55, (.iconst 0, 1), (0, 0, 0), []),
  (56, (.ireturn, 1), (0, 0, 0), []),
  (57, (.aload_n 0, 1), (0, 0, 0), []),
  (58, (.getfield 44, 3), (0, 16, 0), []),
  (61, (.iload_n 2, 1), (0, 0, 0), []),
  (62, (.if_icmp .ne 23, 3), (85, 0, 0), []),
  (65, (.aload_n 0, 1), (0, 0, 0), []),
  (66, (.getfield 93, 3), (0, 17, 0), []),
  (69, (.iconst 2, 1), (0, 0, 0), []),
  (70, (.if_icmp .eq 11, 3), (81, 0, 0), []),
  (73, (.aload_n 0, 1), (0, 0, 0), []),
  (74, (.getfield 93, 3), (0, 17, 0), []),
  (77, (.iconst 4, 1), (0, 0, 0), []),
  (78, (.if_icmp .ne 7, 3), (85, 0, 0), []),
  (81, (.iconst 1, 1), (0, 0, 0), []),
  (82, (.goto 4, 3), (86, 0, 0), []),
  (85, (.iconst 0, 1), (0, 0, 0), []),
  (86, (.ireturn, 1), (0, 0, 0), []),
  (87, (.aload_n 0, 1), (0, 0, 0), []),
  (88, (.iload_n 2, 1), (0, 0, 0), []),
  (89, (.invokevirtual 223, 3), (6, 2, 0), []),
  (92, (.ireturn, 1), (0, 0, 0), [])]
def t_X0_putQueue : List mT := [
  (0, (.aload_n 0, 1), (0, 0, 0), []),
  (1, (.getfield 37, 3), (0, 4, 0), []),
  (4, (.iload_n 1, 1), (0, 0, 0), []),
  (5, (.iload_n 2, 1), (0, 0, 0), []),
  (6, (.invokestatic 226, 3), (142, 3, 99), []),
  (9, (.aload_n 0, 1), (0, 0, 0), []),
  (10, (.aload_n 0, 1), (0, 0, 0), []),
  (11, (.getfield 62, 3), (0, 6, 0), []),
  (14, (.iload_n 1, 1), (0, 0, 0), []),
  (15, (.iload_n 2, 1), (0, 0, 0), []),
  (16, (.ifCond .le 7, 3), (23, 0, 0), []),
  (19, (.iconst 1, 1), (0, 0, 0), []),
  (20, (.goto 4, 3), (24, 0, 0), []),
  (23, (.iconst 0, 1), (0, 0, 0), []),
  (24, (.invokestatic 230, 3), (147, 3, 99), []),
  (27, (.putfield 62, 3), (0, 6, 0), []),
  (30, (.return_, 1), (0, 0, 0), [])]
def t_X0_takeCall : List mT := [
  (0, (.aload_n 0, 1), (0, 0, 0), []),
  (1, (.iload_n 1, 1), (0, 0, 0), []),
  (2, (.invokevirtual 223, 3), (6, 2, 0), []),
  (5, (.ifCond .eq 19, 3), (24, 0, 0), []),
  (8, (.aload_n 0, 1), (0, 0, 0), []),
  (9, (.dup, 1), (0, 0, 0), []),
  (10, (.getfield 71, 3), (0, 9, 0), []),
  (13, (.iload_n 1, 1), (0, 0, 0), []),
  (14, (.invokestatic 213, 3), (146, 1, 99), []),
  (17, (.ior, 1), (0, 0, 0), []),
  (18, (.putfield 71, 3), (0, 9, 0), []),
  (21, (.goto 16, 3), (37, 0, 0), []),
  (24, (.aload_n 0, 1), (0, 0, 0), []),
  (25, (.dup, 1), (0, 0, 0), []),
  (26, (.getfield 65, 3), (0, 7, 0), []),
  (29, (.iload_n 1, 1), (0, 0, 0), []),
  (30, (.invokestatic 213, 3), (146, 1, 99), []),
  (33, (.ior, 1), (0, 0, 0), []),
  (34, (.putfield 65, 3), (0, 7, 0), []),
  (37, (.return_, 1), (0, 0, 0), [])]
def t_X0_callOthers : List mT := [
  (0, (.iconst 0, 1), (0, 0, 0), []),
  (1, (.istore_n 2, 1), (0, 0, 0), []),
  (2, (.iload_n 2, 1), (0, 0, 0), []),
  (3, (.aload_n 0, 1), (0, 0, 0), []),
  (4, (.getfield 12, 3), (0, 0, 0), []),
  (7, (.getfield 189, 3), (2, 0, 0), []),
  (10, (.if_icmp .ge 19, 3), (29, 0, 0), []),
  (13, (.iload_n 2, 1), (0, 0, 0), []),
  (14, (.iload_n 1, 1), (0, 0, 0), []),
  (15, (.if_icmp .eq 8, 3), (23, 0, 0), []),
  (18, (.aload_n 0, 1), (0, 0, 0), []),
  (19, (.iload_n 2, 1), (0, 0, 0), []),
  (20, (.invokevirtual 234, 3), (17, 2, 0), []),
  (23, (.iinc 2 1, 3), (0, 0, 0), []),
  (26, (.goto (-24), 3), (2, 0, 0), []),
  (29, (.return_, 1), (0, 0, 0), [])]
def t_X0_takeCycle : List mT := [
  (0, (.aload_n 0, 1), (0, 0, 0), []),
  (1, (.getfield 12, 3), (0, 0, 0), []),
  (4, (.iload_n 1, 1), (0, 0, 0), []),
  (5, (.putfield 237, 3), (2, 1, 0), []),
  (8, (.aload_n 0, 1), (0, 0, 0), []),
  (9, (.iload_n 1, 1), (0, 0, 0), []),
  (10, (.ifCond .le 14, 3), (24, 0, 0), []),
  (13, (.aload_n 0, 1), (0, 0, 0), []),
  (14, (.getfield 83, 3), (0, 13, 0), []),
  (17, (.iload_n 1, 1), (0, 0, 0), []),
  (18, (.invokestatic 240, 3), (275, 2, 99), []),
  (21, (.goto 4, 3), (25, 0, 0), []),
  (24, (.iconst 0, 1), (0, 0, 0), []),
  (25, (.putfield 83, 3), (0, 13, 0), []),
  (28, (.return_, 1), (0, 0, 0), [])]
def t_X0_takeComers : List mT := [
  (0, (.iload_n 1, 1), (0, 0, 0), []),
  (1, (.i2l, 1), (0, 0, 0), []),
  (2, (.lstore_n 2, 1), (0, 0, 0), []),
  (3, (.iconst 0, 1), (0, 0, 0), []),
  (4, (.istore 4, 2), (0, 0, 0), []),
  (6, (.iload 4, 2), (0, 1, 5), []),
  (8, (.aload_n 0, 1), (0, 0, 0), []),
  (9, (.getfield 12, 3), (0, 0, 0), []),
  (12, (.getfield 189, 3), (2, 0, 0), []),
  (15, (.if_icmp .ge 76, 3), (91, 0, 0), []),
  (18, (.lload_n 2, 1), (0, 0, 0), []),
  (19, (.ldc2_w 243, 3), (9301, 0, 0), []),
  (22, (.lmul, 1), (0, 0, 0), []),
  (23, (.ldc2_w 245, 3), (49297, 0, 0), []),
  (26, (.ladd, 1), (0, 0, 0), []),
  (27, (.ldc2_w 247, 3), (233280, 0, 0), []),
  (30, (.lrem, 1), (0, 0, 0), []),
  (31, (.lstore_n 2, 1), (0, 0, 0), []),
  (32, (.aload_n 0, 1), (0, 0, 0), []),
  (33, (.getfield 37, 3), (0, 4, 0), []),
  (36, (.iload 4, 2), (0, 0, 0), []),
  (38, (.invokestatic 162, 3), (141, 2, 99), []),
  (41, (.istore 5, 2), (0, 0, 0), []),
  (43, (.lload_n 2, 1), (0, 0, 0), []),
  (44, (.ldc2_w 249, 3), (60, 0, 0), []),
  (47, (.lmul, 1), (0, 0, 0), []),
  (48, (.ldc2_w 247, 3), (233280, 0, 0), []),
  (51, (.ldiv, 1), (0, 0, 0), []),
  (52, (.aload_n 0, 1), (0, 0, 0), []),
  (53, (.getfield 12, 3), (0, 0, 0), []),
  (56, (.iload 4, 2), (0, 0, 0), []),
  (58, (.bipush 9, 2), (0, 0, 0), []),
  (60, (.invokevirtual 251, 3), (57, 3, 2), []),
  (63, (.i2l, 1), (0, 0, 0), []),
  (64, (.lcmp, 1), (0, 0, 0), []),
  (65, (.ifCond .ge 20, 3), (85, 0, 0), []),
  (68, (.iload 5, 2), (0, 0, 0), []),
  (70, (.bipush 99, 2), (0, 0, 0), []),
  (72, (.if_icmp .ge 13, 3), (85, 0, 0), []),
  (75, (.aload_n 0, 1), (0, 0, 0), []),
  (76, (.iload 4, 2), (0, 0, 0), []),
  (78, (.iload 5, 2), (0, 0, 0), []),
  (80, (.iconst 1, 1), (0, 0, 0), []),
  (81, (.iadd, 1), (0, 0, 0), []),
  (82, (.invokevirtual 254, 3), (16, 3, 0), []),
  (85, (.iinc 4 1, 3), (0, 0, 0), []),
  (88, (.goto (-82), 3), (6, 0, 0), []),
  (91, (.lload_n 2, 1), (0, 0, 0), []),
  (92, (.l2i, 1), (0, 0, 0), []),
  (93, (.ireturn, 1), (0, 0, 0), [])]
def t_X0_passTicks : List mT := [
  (0, (.iconst 0, 1), (0, 0, 0), []),
  (1, (.istore_n 2, 1), (0, 0, 0), []),
  (2, (.iload_n 2, 1), (0, 0, 0), []),
  (3, (.iload_n 1, 1), (0, 0, 0), []),
  (4, (.if_icmp .ge 13, 3), (17, 0, 0), []),
  (7, (.aload_n 0, 1), (0, 0, 0), []),
  (8, (.invokevirtual 258, 3), (22, 1, 0), []),
  (11, (.iinc 2 1, 3), (0, 0, 0), []),
  (14, (.goto (-12), 3), (2, 0, 0), []),
  (17, (.return_, 1), (0, 0, 0), [])]
def t_X0_passTick : List mT := [
  (0, (.aload_n 0, 1), (0, 0, 0), []),
  (1, (.dup, 1), (0, 0, 0), []),
  (2, (.getfield 80, 3), (0, 12, 0), []),
  (5, (.iconst 1, 1), (0, 0, 0), []),
  (6, (.iadd, 1), (0, 0, 0), []),
  (7, (.putfield 80, 3), (0, 12, 0), []),
  (10, (.aload_n 0, 1), (0, 0, 0), []),
  (11, (.invokevirtual 261, 3), (23, 1, 0), []),
  (14, (.aload_n 0, 1), (0, 0, 0), []),
  (15, (.getfield 89, 3), (0, 15, 0), []),
  (18, (.ifCond .ne 64, 3), (82, 0, 0), []),
  (21, (.aload_n 0, 1), (0, 0, 0), []),
  (22, (.aload_n 0, 1), (0, 0, 0), []),
  (23, (.getfield 23, 3), (0, 1, 0), []),
  (26, (.invokevirtual 264, 3), (26, 2, 0), []),
  (29, (.aload_n 0, 1), (0, 0, 0), []),
  (30, (.aload_n 0, 1), (0, 0, 0), []),
  (31, (.getfield 27, 3), (0, 2, 0), []),
  (34, (.invokevirtual 264, 3), (26, 2, 0), []),
  (37, (.aload_n 0, 1), (0, 0, 0), []),
  (38, (.iconst 0, 1), (0, 0, 0), []),
  (39, (.putfield 71, 3), (0, 9, 0), []),
  (42, (.aload_n 0, 1), (0, 0, 0), []),
  (43, (.invokevirtual 267, 3), (37, 1, 0), []),
  (46, (.aload_n 0, 1), (0, 0, 0), []),
  (47, (.getfield 44, 3), (0, 16, 0), []),
  (50, (.iconst (-1), 1), (0, 0, 0), []),
  (51, (.if_icmp .ne 7, 3), (58, 0, 0), []),
  (54, (.aload_n 0, 1), (0, 0, 0), []),
  (55, (.invokevirtual 270, 3), (32, 1, 0), []),
  (58, (.aload_n 0, 1), (0, 0, 0), []),
  (59, (.aload_n 0, 1), (0, 0, 0), []),
  (60, (.getfield 23, 3), (0, 1, 0), []),
  (63, (.aload_n 0, 1), (0, 0, 0), []),
  (64, (.getfield 27, 3), (0, 2, 0), []),
  (67, (.invokevirtual 273, 3), (29, 3, 0), []),
  (70, (.aload_n 0, 1), (0, 0, 0), []),
  (71, (.aload_n 0, 1), (0, 0, 0), []),
  (72, (.getfield 27, 3), (0, 2, 0), []),
  (75, (.aload_n 0, 1), (0, 0, 0), []),
  (76, (.getfield 23, 3), (0, 1, 0), []),
  (79, (.invokevirtual 273, 3), (29, 3, 0), []),
  (82, (.aload_n 0, 1), (0, 0, 0), []),
  (83, (.invokevirtual 277, 3), (30, 1, 0), []),
  (86, (.aload_n 0, 1), (0, 0, 0), []),
  (87, (.dup, 1), (0, 0, 0), []),
  (88, (.getfield 86, 3), (0, 14, 0), []),
  (91, (.aload_n 0, 1), (0, 0, 0), []),
  (92, (.getfield 37, 3), (0, 4, 0), []),
  (95, (.invokestatic 216, 3), (145, 1, 99), []),
  (98, (.iadd, 1), (0, 0, 0), []),
  (99, (.putfield 86, 3), (0, 14, 0), []),
  (102, (.return_, 1), (0, 0, 0), [])]
def t_X0_moveClock : List mT := [
  (0, (.aload_n 0, 1), (0, 0, 0), []),
  (1, (.getfield 12, 3), (0, 0, 0), []),
  (4, (.getfield 237, 3), (2, 1, 0), []),
  (7, (.istore_n 1, 1), (0, 0, 0), []),
  (8, (.iload_n 1, 1), (0, 0, 0), []),
  (9, (.ifCond .gt 4, 3), (13, 0, 0), []),
  (12, (.return_, 1), (0, 0, 0), []),
  (13, (.aload_n 0, 1), (0, 0, 0), []),
  (14, (.aload_n 0, 1), (0, 0, 0), []),
  (15, (.getfield 83, 3), (0, 13, 0), []),
  (18, (.iconst 1, 1), (0, 0, 0), []),
  (19, (.iadd, 1), (0, 0, 0), []),
  (20, (.iload_n 1, 1), (0, 0, 0), []),
  (21, (.invokestatic 240, 3), (275, 2, 99), []),
  (24, (.putfield 83, 3), (0, 13, 0), []),
  (27, (.aload_n 0, 1), (0, 0, 0), []),
  (28, (.invokevirtual 220, 3), (24, 1, 0), []),
  (31, (.istore_n 2, 1), (0, 0, 0), []),
  (32, (.iload_n 2, 1), (0, 0, 0), []),
  (33, (.ifCond .eq 42, 3), (75, 0, 0), []),
  (36, (.aload_n 0, 1), (0, 0, 0), []),
  (37, (.getfield 80, 3), (0, 12, 0), []),
  (40, (.iconst 4, 1), (0, 0, 0), []),
  (41, (.irem, 1), (0, 0, 0), []),
  (42, (.ifCond .ne 33, 3), (75, 0, 0), []),
  (45, (.aload_n 0, 1), (0, 0, 0), []),
  (46, (.iload_n 2, 1), (0, 0, 0), []),
  (47, (.iload_n 1, 1), (0, 0, 0), []),
  (48, (.iconst 2, 1), (0, 0, 0), []),
  (49, (.idiv, 1), (0, 0, 0), []),
  (50, (.if_icmp .gt 12, 3), (62, 0, 0), []),
  (53, (.aload_n 0, 1), (0, 0, 0), []),
  (54, (.getfield 83, 3), (0, 13, 0), []),
  (57, (.iconst 1, 1), (0, 0, 0), []),
  (58, (.iadd, 1), (0, 0, 0), []),
  (59, (.goto 9, 3), (68, 0, 0), []),
  (62, (.aload_n 0, 1), (0, 0, 0), []),
  (63, (.getfield 83, 3), (0, 13, 0), []),
  (66, (.iconst 1, 1), (0, 0, 0), []),
  (67, (.isub, 1), (0, 0, 0), []),
  (68, (.iload_n 1, 1), (0, 0, 0), []),
  (69, (.invokestatic 240, 3), (275, 2, 99), []),
  (72, (.putfield 83, 3), (0, 13, 0), []),
  (75, (.return_, 1), (0, 0, 0), [])]
def t_X0_aheadOfClock : List mT := [
  (0, (.aload_n 0, 1), (0, 0, 0), []),
  (1, (.getfield 12, 3), (0, 0, 0), []),
  (4, (.getfield 237, 3), (2, 1, 0), []),
  (7, (.istore_n 1, 1), (0, 0, 0), []),
  (8, (.iload_n 1, 1), (0, 0, 0), []),
  (9, (.ifCond .gt 5, 3), (14, 0, 0), []),
  (12, (.iconst 0, 1), (0, 0, 0), []),
  (13, (.ireturn, 1), (0, 0, 0), []),
  (14, (.aload_n 0, 1), (0, 0, 0), []),
  (15, (.getfield 80, 3), (0, 12, 0), []),
  (18, (.aload_n 0, 1), (0, 0, 0), []),
  (19, (.getfield 12, 3), (0, 0, 0), []),
  (22, (.getfield 280, 3), (2, 2, 0), []),
  (25, (.isub, 1), (0, 0, 0), []),
  (26, (.iload_n 1, 1), (0, 0, 0), []),
  (27, (.invokestatic 240, 3), (275, 2, 99), []),
  (30, (.istore_n 2, 1), (0, 0, 0), []),
  (31, (.iload_n 2, 1), (0, 0, 0), []),
  (32, (.aload_n 0, 1), (0, 0, 0), []),
  (33, (.getfield 83, 3), (0, 13, 0), []),
  (36, (.isub, 1), (0, 0, 0), []),
  (37, (.iload_n 1, 1), (0, 0, 0), []),
  (38, (.invokestatic 240, 3), (275, 2, 99), []),
  (41, (.ireturn, 1), (0, 0, 0), [])]
def t_X0_isForced : List mT := [
  (0, (.aload_n 0, 1), (0, 0, 0), []),
  (1, (.getfield 12, 3), (0, 0, 0), []),
  (4, (.getfield 237, 3), (2, 1, 0), []),
  (7, (.istore_n 2, 1), (0, 0, 0), []),
  (8, (.iload_n 2, 1), (0, 0, 0), []),
  (9, (.ifCond .le 30, 3), (39, 0, 0), []),
  (12, (.aload_n 0, 1), (0, 0, 0), []),
  (13, (.getfield 83, 3), (0, 13, 0), []),
  (16, (.aload_n 0, 1), (0, 0, 0), []),
  (17, (.getfield 12, 3), (0, 0, 0), []),
  (20, (.iload_n 1, 1), (0, 0, 0), []),
  (21, (.invokevirtual 183, 3), (68, 2, 2), []),
  (24, (.isub, 1), (0, 0, 0), []),
  (25, (.iload_n 2, 1), (0, 0, 0), []),
  (26, (.invokestatic 240, 3), (275, 2, 99), []),
  (29, (.iload_n 2, 1), (0, 0, 0), []),
  (30, (.iconst 2, 1), (0, 0, 0), []),
  (31, (.idiv, 1), (0, 0, 0), []),
  (32, (.if_icmp .ge 7, 3), (39, 0, 0), []),
  (35, (.iconst 1, 1), (0, 0, 0), []),
  (36, (.goto 4, 3), (40, 0, 0), []),
  (39, (.iconst 0, 1), (0, 0, 0), []),
  (40, (.ireturn, 1), (0, 0, 0), [])]
def t_X0_ageRing : List mT := [
  (0, (.aload_n 1, 1), (0, 0, 0), []),
  (1, (.invokevirtual 283, 3), (89, 1, 4), []),
  (4, (.ifCond .ne 4, 3), (8, 0, 0), []),
  (7, (.return_, 1), (0, 0, 0), []),
  (8, (.aload_n 1, 1), (0, 0, 0), []),
  (9, (.dup, 1), (0, 0, 0), []),
  (10, (.getfield 133, 3), (4, 3, 0), []),
  (13, (.iconst 1, 1), (0, 0, 0), []),
  (14, (.iadd, 1), (0, 0, 0), []),
  (15, (.putfield 133, 3), (4, 3, 0), []),
  (18, (.aload_n 1, 1), (0, 0, 0), []),
  (19, (.invokevirtual 123, 3), (90, 1, 4), []),
  (22, (.ifCond .eq 11, 3), (33, 0, 0), []),
  (25, (.aload_n 0, 1), (0, 0, 0), []),
  (26, (.aload_n 1, 1), (0, 0, 0), []),
  (27, (.invokevirtual 286, 3), (27, 2, 0), []),
  (30, (.goto 31, 3), (61, 0, 0), []),
  (33, (.aload_n 1, 1), (0, 0, 0), []),
  (34, (.aload_n 0, 1), (0, 0, 0), []),
  (35, (.getfield 12, 3), (0, 0, 0), []),
  (38, (.aload_n 1, 1), (0, 0, 0), []),
  (39, (.getfield 127, 3), (4, 1, 0), []),
  (42, (.iconst 3, 1), (0, 0, 0), []),
  (43, (.invokevirtual 251, 3), (57, 3, 2), []),
  (46, (.aload_n 0, 1), (0, 0, 0), []),
  (47, (.getfield 12, 3), (0, 0, 0), []),
  (50, (.aload_n 1, 1), (0, 0, 0), []),
  (51, (.getfield 127, 3), (4, 1, 0), []),
  (54, (.iconst 4, 1), (0, 0, 0), []),
  (55, (.invokevirtual 251, 3), (57, 3, 2), []),
  (58, (.invokevirtual 289, 3), (94, 3, 4), []),
  (61, (.return_, 1), (0, 0, 0), [])]
def t_X0_ageGreen : List mT := [
  (0, (.aload_n 1, 1), (0, 0, 0), []),
  (1, (.getfield 127, 3), (4, 1, 0), []),
  (4, (.istore_n 2, 1), (0, 0, 0), []),
  (5, (.aload_n 0, 1), (0, 0, 0), []),
  (6, (.getfield 37, 3), (0, 4, 0), []),
  (9, (.iload_n 2, 1), (0, 0, 0), []),
  (10, (.invokestatic 162, 3), (141, 2, 99), []),
  (13, (.istore_n 3, 1), (0, 0, 0), []),
  (14, (.aload_n 1, 1), (0, 0, 0), []),
  (15, (.iload_n 3, 1), (0, 0, 0), []),
  (16, (.ifCond .gt 14, 3), (30, 0, 0), []),
  (19, (.aload_n 0, 1), (0, 0, 0), []),
  (20, (.getfield 71, 3), (0, 9, 0), []),
  (23, (.iload_n 2, 1), (0, 0, 0), []),
  (24, (.invokestatic 176, 3), (148, 2, 99), []),
  (27, (.ifCond .eq 7, 3), (34, 0, 0), []),
  (30, (.iconst 0, 1), (0, 0, 0), []),
  (31, (.goto 9, 3), (40, 0, 0), []),
  (34, (.aload_n 1, 1), (0, 0, 0), []),
  (35, (.getfield 139, 3), (4, 5, 0), []),
  (38, (.iconst 1, 1), (0, 0, 0), []),
  (39, (.iadd, 1), (0, 0, 0), []),
  (40, (.putfield 139, 3), (4, 5, 0), []),
  (43, (.iload_n 3, 1), (0, 0, 0), []),
  (44, (.ifCond .le 29, 3), (73, 0, 0), []),
  (47, (.aload_n 0, 1), (0, 0, 0), []),
  (48, (.iload_n 2, 1), (0, 0, 0), []),
  (49, (.iload_n 3, 1), (0, 0, 0), []),
  (50, (.iconst 1, 1), (0, 0, 0), []),
  (51, (.isub, 1), (0, 0, 0), []),
  (52, (.invokevirtual 254, 3), (16, 3, 0), []),
  (55, (.aload_n 0, 1), (0, 0, 0), []),
  (56, (.getfield 41, 3), (0, 5, 0), []),
  (59, (.iload_n 2, 1), (0, 0, 0), []),
  (60, (.aload_n 0, 1), (0, 0, 0), []),
  (61, (.getfield 41, 3), (0, 5, 0), []),
  (64, (.iload_n 2, 1), (0, 0, 0), []),
  (65, (.invokestatic 162, 3), (141, 2, 99), []),
  (68, (.iconst 1, 1), (0, 0, 0), []),
  (69, (.iadd, 1), (0, 0, 0), []),
  (70, (.invokestatic 226, 3), (142, 3, 99), []),
  (73, (.aload_n 0, 1), (0, 0, 0), []),
  (74, (.getfield 12, 3), (0, 0, 0), []),
  (77, (.iload_n 2, 1), (0, 0, 0), []),
  (78, (.invokevirtual 186, 3), (63, 2, 2), []),
  (81, (.aload_n 0, 1), (0, 0, 0), []),
  (82, (.invokevirtual 292, 3), (12, 1, 0), []),
  (85, (.iand, 1), (0, 0, 0), []),
  (86, (.ifCond .eq 13, 3), (99, 0, 0), []),
  (89, (.aload_n 1, 1), (0, 0, 0), []),
  (90, (.dup, 1), (0, 0, 0), []),
  (91, (.getfield 142, 3), (4, 6, 0), []),
  (94, (.iconst 1, 1), (0, 0, 0), []),
  (95, (.iadd, 1), (0, 0, 0), []),
  (96, (.putfield 142, 3), (4, 6, 0), []),
  (99, (.aload_n 1, 1), (0, 0, 0), []),
  (100, (.aload_n 0, 1), (0, 0, 0), []),
  (101, (.getfield 12, 3), (0, 0, 0), []),
  (104, (.iload_n 2, 1), (0, 0, 0), []),
  (105, (.iconst 5, 1), (0, 0, 0), []),
  (106, (.invokevirtual 251, 3), (57, 3, 2), []),
  (109, (.aload_n 0, 1), (0, 0, 0), []),
  (110, (.getfield 12, 3), (0, 0, 0), []),
  (113, (.iload_n 2, 1), (0, 0, 0), []),
  (114, (.bipush 6, 2), (0, 0, 0), []),
  (116, (.invokevirtual 251, 3), (57, 3, 2), []),
  (119, (.invokevirtual 295, 3), (95, 3, 4), []),
  (122, (.return_, 1), (0, 0, 0), [])]
def t_X0_goTo : List mT := [
  (0, (.aload_n 1, 1), (0, 0, 0), []),
  (1, (.invokevirtual 283, 3), (89, 1, 4), []),
  (4, (.ifCond .eq 27, 3), (31, 0, 0), []),
  (7, (.aload_n 0, 1), (0, 0, 0), []),
  (8, (.getfield 33, 3), (0, 3, 0), []),
  (11, (.iconst 1, 1), (0, 0, 0), []),
  (12, (.aload_n 0, 1), (0, 0, 0), []),
  (13, (.getfield 80, 3), (0, 12, 0), []),
  (16, (.aload_n 1, 1), (0, 0, 0), []),
  (17, (.getfield 127, 3), (4, 1, 0), []),
  (20, (.invokevirtual 298, 3), (49, 4, 1), []),
  (23, (.aload_n 1, 1), (0, 0, 0), []),
  (24, (.iload_n 2, 1), (0, 0, 0), []),
  (25, (.invokevirtual 302, 3), (93, 2, 4), []),
  (28, (.goto 8, 3), (36, 0, 0), []),
  (31, (.aload_n 1, 1), (0, 0, 0), []),
  (32, (.iload_n 2, 1), (0, 0, 0), []),
  (33, (.putfield 136, 3), (4, 4, 0), []),
  (36, (.return_, 1), (0, 0, 0), [])]
def t_X0_turnGreen : List mT := [
  (0, (.aload_n 1, 1), (0, 0, 0), []),
  (1, (.getfield 136, 3), (4, 4, 0), []),
  (4, (.istore_n 3, 1), (0, 0, 0), []),
  (5, (.aload_n 1, 1), (0, 0, 0), []),
  (6, (.getfield 130, 3), (4, 2, 0), []),
  (9, (.iconst 3, 1), (0, 0, 0), []),
  (10, (.if_icmp .ne 26, 3), (36, 0, 0), []),
  (13, (.iload_n 3, 1), (0, 0, 0), []),
  (14, (.iconst (-1), 1), (0, 0, 0), []),
  (15, (.if_icmp .eq 21, 3), (36, 0, 0), []),
  (18, (.aload_n 0, 1), (0, 0, 0), []),
  (19, (.getfield 12, 3), (0, 0, 0), []),
  (22, (.iload_n 3, 1), (0, 0, 0), []),
  (23, (.invokevirtual 186, 3), (63, 2, 2), []),
  (26, (.aload_n 2, 1), (0, 0, 0), []),
  (27, (.getfield 127, 3), (4, 1, 0), []),
  (30, (.invokestatic 176, 3), (148, 2, 99), []),
  (33, (.ifCond .eq 4, 3), (37, 0, 0), []),
  (36, (.return_, 1), (0, 0, 0), []),
  (37, (.aload_n 1, 1), (0, 0, 0), []),
  (38, (.iload_n 3, 1), (0, 0, 0), []),
  (39, (.aload_n 0, 1), (0, 0, 0), []),
  (40, (.invokevirtual 180, 3), (11, 1, 0), []),
  (43, (.iload_n 3, 1), (0, 0, 0), []),
  (44, (.invokestatic 176, 3), (148, 2, 99), []),
  (47, (.invokevirtual 305, 3), (92, 3, 4), []),
  (50, (.aload_n 0, 1), (0, 0, 0), []),
  (51, (.dup, 1), (0, 0, 0), []),
  (52, (.getfield 65, 3), (0, 7, 0), []),
  (55, (.iload_n 3, 1), (0, 0, 0), []),
  (56, (.invokestatic 213, 3), (146, 1, 99), []),
  (59, (.iconst (-1), 1), (0, 0, 0), []),
  (60, (.ixor, 1), (0, 0, 0), []),
  (61, (.iand, 1), (0, 0, 0), []),
  (62, (.putfield 65, 3), (0, 7, 0), []),
  (65, (.aload_n 0, 1), (0, 0, 0), []),
  (66, (.dup, 1), (0, 0, 0), []),
  (67, (.getfield 68, 3), (0, 8, 0), []),
  (70, (.iload_n 3, 1), (0, 0, 0), []),
  (71, (.invokestatic 213, 3), (146, 1, 99), []),
  (74, (.iconst (-1), 1), (0, 0, 0), []),
  (75, (.ixor, 1), (0, 0, 0), []),
  (76, (.iand, 1), (0, 0, 0), []),
  (77, (.putfield 68, 3), (0, 8, 0), []),
  (80, (.aload_n 0, 1), (0, 0, 0), []),
  (81, (.getfield 33, 3), (0, 3, 0), []),
  (84, (.iconst 0, 1), (0, 0, 0), []),
  (85, (.aload_n 0, 1), (0, 0, 0), []),
  (86, (.getfield 80, 3), (0, 12, 0), []),
  (89, (.iload_n 3, 1), (0, 0, 0), []),
  (90, (.invokevirtual 298, 3), (49, 4, 1), []),
  (93, (.return_, 1), (0, 0, 0), [])]
def t_X0_watch : List mT := [
  (0, (.aload_n 0, 1), (0, 0, 0), []),
  (1, (.getfield 89, 3), (0, 15, 0), []),
  (4, (.ifCond .eq 7, 3), (11, 0, 0), []),
  (7, (.iconst (-1), 1), (0, 0, 0), []),
  (8, (.goto 14, 3), (22, 0, 0), []),
  (11, (.aload_n 0, 1), (0, 0, 0), []),
  (12, (.getfield 12, 3), (0, 0, 0), []),
  (15, (.aload_n 0, 1), (0, 0, 0), []),
  (16, (.invokevirtual 308, 3), (13, 1, 0), []),
  (19, (.invokevirtual 311, 3), (65, 2, 2), []),
  (22, (.istore_n 1, 1), (0, 0, 0), []),
  (23, (.iload_n 1, 1), (0, 0, 0), []),
  (24, (.iconst (-1), 1), (0, 0, 0), []),
  (25, (.if_icmp .ne 4, 3), (29, 0, 0), []),
  (28, (.return_, 1), (0, 0, 0), []),
  (29, (.aload_n 0, 1), (0, 0, 0), []),
  (30, (.iconst 1, 1), (0, 0, 0), []),
  (31, (.putfield 89, 3), (0, 15, 0), []),
  (34, (.aload_n 0, 1), (0, 0, 0), []),
  (35, (.getfield 23, 3), (0, 1, 0), []),
  (38, (.iconst (-1), 1), (0, 0, 0), []),
  (39, (.invokevirtual 120, 3), (91, 2, 4), []),
  (42, (.aload_n 0, 1), (0, 0, 0), []),
  (43, (.getfield 27, 3), (0, 2, 0), []),
  (46, (.iconst (-1), 1), (0, 0, 0), []),
  (47, (.invokevirtual 120, 3), (91, 2, 4), []),
  (50, (.aload_n 0, 1), (0, 0, 0), []),
  (51, (.invokevirtual 106, 3), (40, 1, 0), []),
  (54, (.aload_n 0, 1), (0, 0, 0), []),
  (55, (.getfield 33, 3), (0, 3, 0), []),
  (58, (.iconst 4, 1), (0, 0, 0), []),
  (59, (.aload_n 0, 1), (0, 0, 0), []),
  (60, (.getfield 80, 3), (0, 12, 0), []),
  (63, (.iload_n 1, 1), (0, 0, 0), []),
  (64, (.invokevirtual 298, 3), (49, 4, 1), []),
  (67, (.return_, 1), (0, 0, 0), [])]
def t_X0_isDone : List mT := [
  (0, (.aload_n 1, 1), (0, 0, 0), []),
  (1, (.invokevirtual 123, 3), (90, 1, 4), []),
  (4, (.ifCond .eq 29, 3), (33, 0, 0), []),
  (7, (.aload_n 1, 1), (0, 0, 0), []),
  (8, (.getfield 133, 3), (4, 3, 0), []),
  (11, (.aload_n 0, 1), (0, 0, 0), []),
  (12, (.getfield 12, 3), (0, 0, 0), []),
  (15, (.aload_n 1, 1), (0, 0, 0), []),
  (16, (.getfield 127, 3), (4, 1, 0), []),
  (19, (.iconst 0, 1), (0, 0, 0), []),
  (20, (.invokevirtual 251, 3), (57, 3, 2), []),
  (23, (.if_icmp .lt 10, 3), (33, 0, 0), []),
  (26, (.aload_n 1, 1), (0, 0, 0), []),
  (27, (.getfield 145, 3), (4, 7, 0), []),
  (30, (.ifCond .eq 5, 3), (35, 0, 0), []),
  (33, (.iconst 0, 1), (0, 0, 0), []),
  (34, (.ireturn, 1), (0, 0, 0), []),
  (35, (.aload_n 1, 1), (0, 0, 0), []),
  (36, (.getfield 139, 3), (4, 5, 0), []),
  (39, (.aload_n 0, 1), (0, 0, 0), []),
  (40, (.getfield 12, 3), (0, 0, 0), []),
  (43, (.aload_n 1, 1), (0, 0, 0), []),
  (44, (.getfield 127, 3), (4, 1, 0), []),
  (47, (.iconst 1, 1), (0, 0, 0), []),
  (48, (.invokevirtual 251, 3), (57, 3, 2), []),
  (51, (.if_icmp .lt 7, 3), (58, 0, 0), []),
  (54, (.iconst 1, 1), (0, 0, 0), []),
  (55, (.goto 4, 3), (59, 0, 0), []),
  (58, (.iconst 0, 1), (0, 0, 0), []),
  (59, (.istore_n 2, 1), (0, 0, 0), []),
  (60, (.aload_n 0, 1), (0, 0, 0), []),
  (61, (.getfield 12, 3), (0, 0, 0), []),
  (64, (.getfield 237, 3), (2, 1, 0), []),
  (67, (.ifCond .le 42, 3), (109, 0, 0), []),
  (70, (.aload_n 0, 1), (0, 0, 0), []),
  (71, (.aload_n 1, 1), (0, 0, 0), []),
  (72, (.getfield 127, 3), (4, 1, 0), []),
  (75, (.invokevirtual 155, 3), (25, 2, 0), []),
  (78, (.ifCond .ne 25, 3), (103, 0, 0), []),
  (81, (.iload_n 2, 1), (0, 0, 0), []),
  (82, (.ifCond .eq 25, 3), (107, 0, 0), []),
  (85, (.aload_n 1, 1), (0, 0, 0), []),
  (86, (.getfield 127, 3), (4, 1, 0), []),
  (89, (.aload_n 0, 1), (0, 0, 0), []),
  (90, (.getfield 12, 3), (0, 0, 0), []),
  (93, (.aload_n 1, 1), (0, 0, 0), []),
  (94, (.getfield 314, 3), (4, 0, 0), []),
  (97, (.invokevirtual 317, 3), (67, 2, 2), []),
  (100, (.if_icmp .eq 7, 3), (107, 0, 0), []),
  (103, (.iconst 1, 1), (0, 0, 0), []),
  (104, (.goto 4, 3), (108, 0, 0), []),
  (107, (.iconst 0, 1), (0, 0, 0), []),
  (108, (.ireturn, 1), (0, 0, 0), []),
  (109, (.iload_n 2, 1), (0, 0, 0), []),
  (110, (.ifCond .eq 20, 3), (130, 0, 0), []),
  (113, (.aload_n 0, 1), (0, 0, 0), []),
  (114, (.getfield 12, 3), (0, 0, 0), []),
  (117, (.aload_n 1, 1), (0, 0, 0), []),
  (118, (.getfield 127, 3), (4, 1, 0), []),
  (121, (.bipush 7, 2), (0, 0, 0), []),
  (123, (.invokevirtual 251, 3), (57, 3, 2), []),
  (126, (.iconst 2, 1), (0, 0, 0), []),
  (127, (.if_icmp .ne 22, 3), (149, 0, 0), []),
  (130, (.aload_n 1, 1), (0, 0, 0), []),
  (131, (.getfield 142, 3), (4, 6, 0), []),
  (134, (.aload_n 0, 1), (0, 0, 0), []),
  (135, (.getfield 12, 3), (0, 0, 0), []),
  (138, (.aload_n 1, 1), (0, 0, 0), []),
  (139, (.getfield 127, 3), (4, 1, 0), []),
  (142, (.iconst 2, 1), (0, 0, 0), []),
  (143, (.invokevirtual 251, 3), (57, 3, 2), []),
  (146, (.if_icmp .lt 7, 3), (153, 0, 0), []),
  (149, (.iconst 1, 1), (0, 0, 0), []),
  (150, (.goto 4, 3), (154, 0, 0), []),
  (153, (.iconst 0, 1), (0, 0, 0), []),
  (154, (.ireturn, 1), (0, 0, 0), [])]
def t_X0_moveOn : List mT := [
  (0, (.aload_n 0, 1), (0, 0, 0), []),
  (1, (.invokevirtual 292, 3), (12, 1, 0), []),
  (4, (.istore_n 1, 1), (0, 0, 0), []),
  (5, (.aload_n 0, 1), (0, 0, 0), []),
  (6, (.aload_n 0, 1), (0, 0, 0), []),
  (7, (.getfield 23, 3), (0, 1, 0), []),
  (10, (.invokevirtual 151, 3), (31, 2, 0), []),
  (13, (.istore_n 2, 1), (0, 0, 0), []),
  (14, (.aload_n 0, 1), (0, 0, 0), []),
  (15, (.aload_n 0, 1), (0, 0, 0), []),
  (16, (.getfield 27, 3), (0, 2, 0), []),
  (19, (.invokevirtual 151, 3), (31, 2, 0), []),
  (22, (.istore_n 3, 1), (0, 0, 0), []),
  (23, (.iload_n 2, 1), (0, 0, 0), []),
  (24, (.ifCond .eq 19, 3), (43, 0, 0), []),
  (27, (.aload_n 0, 1), (0, 0, 0), []),
  (28, (.aload_n 0, 1), (0, 0, 0), []),
  (29, (.getfield 23, 3), (0, 1, 0), []),
  (32, (.iload_n 1, 1), (0, 0, 0), []),
  (33, (.invokevirtual 320, 3), (33, 3, 0), []),
  (36, (.ifCond .eq 7, 3), (43, 0, 0), []),
  (39, (.iconst 1, 1), (0, 0, 0), []),
  (40, (.goto 4, 3), (44, 0, 0), []),
  (43, (.iconst 0, 1), (0, 0, 0), []),
  (44, (.istore 4, 2), (0, 0, 0), []),
  (46, (.iload_n 3, 1), (0, 0, 0), []),
  (47, (.ifCond .eq 19, 3), (66, 0, 0), []),
  (50, (.aload_n 0, 1), (0, 0, 0), []),
  (51, (.aload_n 0, 1), (0, 0, 0), []),
  (52, (.getfield 27, 3), (0, 2, 0), []),
  (55, (.iload_n 1, 1), (0, 0, 0), []),
  (56, (.invokevirtual 320, 3), (33, 3, 0), []),
  (59, (.ifCond .eq 7, 3), (66, 0, 0), []),
  (62, (.iconst 1, 1), (0, 0, 0), []),
  (63, (.goto 4, 3), (67, 0, 0), []),
  (66, (.iconst 0, 1), (0, 0, 0), []),
  (67, (.istore 5, 2), (0, 0, 0), []),
  (69, (.iload 4, 2), (0, 0, 0), []),
  (71, (.ifCond .ne 30, 3), (101, 0, 0), []),
  (74, (.iload 5, 2), (0, 0, 0), []),
  (76, (.ifCond .ne 25, 3), (101, 0, 0), []),
  (79, (.aload_n 0, 1), (0, 0, 0), []),
  (80, (.getfield 23, 3), (0, 1, 0), []),
  (83, (.invokevirtual 283, 3), (89, 1, 4), []),
  (86, (.iload_n 2, 1), (0, 0, 0), []),
  (87, (.if_icmp .ne 14, 3), (101, 0, 0), []),
  (90, (.aload_n 0, 1), (0, 0, 0), []),
  (91, (.getfield 27, 3), (0, 2, 0), []),
  (94, (.invokevirtual 283, 3), (89, 1, 4), []),
  (97, (.iload_n 3, 1), (0, 0, 0), []),
  (98, (.if_icmp .eq 4, 3), (102, 0, 0), []),
  (101, (.return_, 1), (0, 0, 0), []),
  (102, (.aload_n 0, 1), (0, 0, 0), []),
  (103, (.getfield 23, 3), (0, 1, 0), []),
  (106, (.invokevirtual 283, 3), (89, 1, 4), []),
  (109, (.ifCond .ne 13, 3), (122, 0, 0), []),
  (112, (.aload_n 0, 1), (0, 0, 0), []),
  (113, (.getfield 27, 3), (0, 2, 0), []),
  (116, (.invokevirtual 283, 3), (89, 1, 4), []),
  (119, (.ifCond .eq 8, 3), (127, 0, 0), []),
  (122, (.aload_n 0, 1), (0, 0, 0), []),
  (123, (.iload_n 1, 1), (0, 0, 0), []),
  (124, (.invokevirtual 324, 3), (34, 2, 0), []),
  (127, (.return_, 1), (0, 0, 0), [])]
def t_X0_leaveToNext : List mT := [
  (0, (.aload_n 1, 1), (0, 0, 0), []),
  (1, (.getfield 127, 3), (4, 1, 0), []),
  (4, (.invokestatic 213, 3), (146, 1, 99), []),
  (7, (.iconst 2, 1), (0, 0, 0), []),
  (8, (.imul, 1), (0, 0, 0), []),
  (9, (.iconst 1, 1), (0, 0, 0), []),
  (10, (.isub, 1), (0, 0, 0), []),
  (11, (.istore_n 3, 1), (0, 0, 0), []),
  (12, (.aload_n 0, 1), (0, 0, 0), []),
  (13, (.getfield 12, 3), (0, 0, 0), []),
  (16, (.aload_n 1, 1), (0, 0, 0), []),
  (17, (.getfield 314, 3), (4, 0, 0), []),
  (20, (.aload_n 0, 1), (0, 0, 0), []),
  (21, (.getfield 12, 3), (0, 0, 0), []),
  (24, (.getfield 166, 3), (2, 4, 0), []),
  (27, (.aload_n 1, 1), (0, 0, 0), []),
  (28, (.getfield 127, 3), (4, 1, 0), []),
  (31, (.invokestatic 162, 3), (141, 2, 99), []),
  (34, (.invokevirtual 112, 3), (61, 3, 2), []),
  (37, (.iload_n 2, 1), (0, 0, 0), []),
  (38, (.iand, 1), (0, 0, 0), []),
  (39, (.iload_n 3, 1), (0, 0, 0), []),
  (40, (.iconst (-1), 1), (0, 0, 0), []),
  (41, (.ixor, 1), (0, 0, 0), []),
  (42, (.iand, 1), (0, 0, 0), []),
  (43, (.invokestatic 116, 3), (149, 1, 99), []),
  (46, (.istore 4, 2), (0, 0, 0), []),
  (48, (.iload 4, 2), (0, 0, 0), []),
  (50, (.iconst (-1), 1), (0, 0, 0), []),
  (51, (.if_icmp .ne 5, 3), (56, 0, 0), []),
  (54, (.iconst 0, 1), (0, 0, 0), []),
  (55, (.ireturn, 1), (0, 0, 0), []),
  (56, (.aload_n 0, 1), (0, 0, 0), []),
  (57, (.aload_n 1, 1), (0, 0, 0), []),
  (58, (.iload 4, 2), (0, 0, 0), []),
  (60, (.invokevirtual 327, 3), (28, 3, 0), []),
  (63, (.iconst 1, 1), (0, 0, 0), []),
  (64, (.ireturn, 1), (0, 0, 0), [])]
def t_X0_moveTogether : List mT := [
  (0, (.aload_n 0, 1), (0, 0, 0), []),
  (1, (.getfield 12, 3), (0, 0, 0), []),
  (4, (.getfield 166, 3), (2, 4, 0), []),
  (7, (.aload_n 0, 1), (0, 0, 0), []),
  (8, (.getfield 23, 3), (0, 1, 0), []),
  (11, (.invokevirtual 283, 3), (89, 1, 4), []),
  (14, (.ifCond .eq 13, 3), (27, 0, 0), []),
  (17, (.aload_n 0, 1), (0, 0, 0), []),
  (18, (.getfield 23, 3), (0, 1, 0), []),
  (21, (.getfield 127, 3), (4, 1, 0), []),
  (24, (.goto 10, 3), (34, 0, 0), []),
  (27, (.aload_n 0, 1), (0, 0, 0), []),
  (28, (.getfield 27, 3), (0, 2, 0), []),
  (31, (.getfield 127, 3), (4, 1, 0), []),
  (34, (.invokestatic 162, 3), (141, 2, 99), []),
  (37, (.istore_n 2, 1), (0, 0, 0), []),
  (38, (.iconst 1, 1), (0, 0, 0), []),
  (39, (.iload_n 2, 1), (0, 0, 0), []),
  (40, (.isub, 1), (0, 0, 0), []),
  (41, (.istore_n 3, 1), (0, 0, 0), []),
  (42, (.aload_n 0, 1), (0, 0, 0), []),
  (43, (.getfield 12, 3), (0, 0, 0), []),
  (46, (.iload_n 3, 1), (0, 0, 0), []),
  (47, (.invokevirtual 331, 3), (62, 2, 2), []),
  (50, (.iload_n 1, 1), (0, 0, 0), []),
  (51, (.iand, 1), (0, 0, 0), []),
  (52, (.ifCond .eq 42, 3), (94, 0, 0), []),
  (55, (.aload_n 0, 1), (0, 0, 0), []),
  (56, (.aload_n 0, 1), (0, 0, 0), []),
  (57, (.getfield 23, 3), (0, 1, 0), []),
  (60, (.aload_n 0, 1), (0, 0, 0), []),
  (61, (.getfield 12, 3), (0, 0, 0), []),
  (64, (.iconst 0, 1), (0, 0, 0), []),
  (65, (.iload_n 3, 1), (0, 0, 0), []),
  (66, (.invokevirtual 112, 3), (61, 3, 2), []),
  (69, (.iload_n 1, 1), (0, 0, 0), []),
  (70, (.invokevirtual 334, 3), (35, 4, 0), []),
  (73, (.aload_n 0, 1), (0, 0, 0), []),
  (74, (.aload_n 0, 1), (0, 0, 0), []),
  (75, (.getfield 27, 3), (0, 2, 0), []),
  (78, (.aload_n 0, 1), (0, 0, 0), []),
  (79, (.getfield 12, 3), (0, 0, 0), []),
  (82, (.iconst 1, 1), (0, 0, 0), []),
  (83, (.iload_n 3, 1), (0, 0, 0), []),
  (84, (.invokevirtual 112, 3), (61, 3, 2), []),
  (87, (.iload_n 1, 1), (0, 0, 0), []),
  (88, (.invokevirtual 334, 3), (35, 4, 0), []),
  (91, (.goto 41, 3), (132, 0, 0), []),
  (94, (.aload_n 0, 1), (0, 0, 0), []),
  (95, (.aload_n 0, 1), (0, 0, 0), []),
  (96, (.getfield 23, 3), (0, 1, 0), []),
  (99, (.aload_n 0, 1), (0, 0, 0), []),
  (100, (.getfield 12, 3), (0, 0, 0), []),
  (103, (.iconst 0, 1), (0, 0, 0), []),
  (104, (.iload_n 2, 1), (0, 0, 0), []),
  (105, (.invokevirtual 112, 3), (61, 3, 2), []),
  (108, (.iload_n 1, 1), (0, 0, 0), []),
  (109, (.iand, 1), (0, 0, 0), []),
  (110, (.invokevirtual 338, 3), (36, 3, 0), []),
  (113, (.aload_n 0, 1), (0, 0, 0), []),
  (114, (.aload_n 0, 1), (0, 0, 0), []),
  (115, (.getfield 27, 3), (0, 2, 0), []),
  (118, (.aload_n 0, 1), (0, 0, 0), []),
  (119, (.getfield 12, 3), (0, 0, 0), []),
  (122, (.iconst 1, 1), (0, 0, 0), []),
  (123, (.iload_n 2, 1), (0, 0, 0), []),
  (124, (.invokevirtual 112, 3), (61, 3, 2), []),
  (127, (.iload_n 1, 1), (0, 0, 0), []),
  (128, (.iand, 1), (0, 0, 0), []),
  (129, (.invokevirtual 338, 3), (36, 3, 0), []),
  (132, (.return_, 1), (0, 0, 0), [])]
def t_X0_crossOver : List mT := [
  (0, (.aload_n 0, 1), (0, 0, 0), []),
  (1, (.aload_n 1, 1), (0, 0, 0), []),
  (2, (.iload_n 2, 1), (0, 0, 0), []),
  (3, (.iload_n 3, 1), (0, 0, 0), []),
  (4, (.iand, 1), (0, 0, 0), []),
  (5, (.ifCond .eq 9, 3), (14, 0, 0), []),
  (8, (.iload_n 2, 1), (0, 0, 0), []),
  (9, (.iload_n 3, 1), (0, 0, 0), []),
  (10, (.iand, 1), (0, 0, 0), []),
  (11, (.goto 4, 3), (15, 0, 0), []),
  (14, (.iload_n 2, 1), (0, 0, 0), []),
  (15, (.invokestatic 116, 3), (149, 1, 99), []),
  (18, (.invokevirtual 327, 3), (28, 3, 0), []),
  (21, (.return_, 1), (0, 0, 0), [])]
def t_X0_turnBack : List mT := [
  (0, (.iload_n 2, 1), (0, 0, 0), []),
  (1, (.aload_n 1, 1), (0, 0, 0), []),
  (2, (.getfield 127, 3), (4, 1, 0), []),
  (5, (.invokestatic 213, 3), (146, 1, 99), []),
  (8, (.iconst (-1), 1), (0, 0, 0), []),
  (9, (.ixor, 1), (0, 0, 0), []),
  (10, (.iand, 1), (0, 0, 0), []),
  (11, (.invokestatic 116, 3), (149, 1, 99), []),
  (14, (.istore_n 3, 1), (0, 0, 0), []),
  (15, (.iload_n 3, 1), (0, 0, 0), []),
  (16, (.iconst (-1), 1), (0, 0, 0), []),
  (17, (.if_icmp .eq 9, 3), (26, 0, 0), []),
  (20, (.aload_n 0, 1), (0, 0, 0), []),
  (21, (.aload_n 1, 1), (0, 0, 0), []),
  (22, (.iload_n 3, 1), (0, 0, 0), []),
  (23, (.invokevirtual 327, 3), (28, 3, 0), []),
  (26, (.return_, 1), (0, 0, 0), [])]
def t_X0_moveBreaks : List mT := [
  (0, (.aload_n 0, 1), (0, 0, 0), []),
  (1, (.getfield 44, 3), (0, 16, 0), []),
  (4, (.iconst (-1), 1), (0, 0, 0), []),
  (5, (.if_icmp .ne 10, 3), (15, 0, 0), []),
  (8, (.aload_n 0, 1), (0, 0, 0), []),
  (9, (.invokevirtual 341, 3), (38, 1, 0), []),
  (12, (.goto 40, 3), (52, 0, 0), []),
  (15, (.aload_n 0, 1), (0, 0, 0), []),
  (16, (.getfield 44, 3), (0, 16, 0), []),
  (19, (.iconst 1, 1), (0, 0, 0), []),
  (20, (.if_icmp .ne 32, 3), (52, 0, 0), []),
  (23, (.aload_n 0, 1), (0, 0, 0), []),
  (24, (.getfield 77, 3), (0, 11, 0), []),
  (27, (.iconst 0, 1), (0, 0, 0), []),
  (28, (.invokestatic 176, 3), (148, 2, 99), []),
  (31, (.ifCond .eq 21, 3), (52, 0, 0), []),
  (34, (.aload_n 0, 1), (0, 0, 0), []),
  (35, (.getfield 33, 3), (0, 3, 0), []),
  (38, (.iconst 3, 1), (0, 0, 0), []),
  (39, (.aload_n 0, 1), (0, 0, 0), []),
  (40, (.getfield 80, 3), (0, 12, 0), []),
  (43, (.iconst 1, 1), (0, 0, 0), []),
  (44, (.invokevirtual 298, 3), (49, 4, 1), []),
  (47, (.aload_n 0, 1), (0, 0, 0), []),
  (48, (.iconst 0, 1), (0, 0, 0), []),
  (49, (.invokevirtual 344, 3), (39, 2, 0), []),
  (52, (.aload_n 0, 1), (0, 0, 0), []),
  (53, (.getfield 93, 3), (0, 17, 0), []),
  (56, (.tableswitch 84 1 4 #[32, 51, 58, 77], 32), (140, 0, 0), [(1, 88), (2, 107), (3, 114), (4, 133)]),
  (88, (.aload_n 0, 1), (0, 0, 0), []),
  (89, (.aload_n 0, 1), (0, 0, 0), []),
  (90, (.getfield 12, 3), (0, 0, 0), []),
  (93, (.aload_n 0, 1), (0, 0, 0), []),
  (94, (.getfield 44, 3), (0, 16, 0), []),
  (97, (.iconst 0, 1), (0, 0, 0), []),
  (98, (.invokevirtual 347, 3), (59, 3, 2), []),
  (101, (.invokevirtual 350, 3), (41, 2, 0), []),
  (104, (.goto 36, 3), (140, 0, 0), []),
  (107, (.aload_n 0, 1), (0, 0, 0), []),
  (108, (.invokevirtual 353, 3), (44, 1, 0), []),
  (111, (.goto 29, 3), (140, 0, 0), []),
  (114, (.aload_n 0, 1), (0, 0, 0), []),
  (115, (.aload_n 0, 1), (0, 0, 0), []),
  (116, (.getfield 12, 3), (0, 0, 0), []),
  (119, (.aload_n 0, 1), (0, 0, 0), []),
  (120, (.getfield 44, 3), (0, 16, 0), []),
  (123, (.iconst 2, 1), (0, 0, 0), []),
  (124, (.invokevirtual 347, 3), (59, 3, 2), []),
  (127, (.invokevirtual 350, 3), (41, 2, 0), []),
  (130, (.goto 10, 3), (140, 0, 0), []),
  (133, (.aload_n 0, 1), (0, 0, 0), []),
  (134, (.invokevirtual 356, 3), (45, 1, 0), []),
  (137, (.goto 3, 3), (140, 0, 0), []),
  (140, (.return_, 1), (0, 0, 0), [])]
def t_X0_beginWanted : List mT := [
  (0, (.aload_n 0, 1), (0, 0, 0), []),
  (1, (.getfield 77, 3), (0, 11, 0), []),
  (4, (.iconst 0, 1), (0, 0, 0), []),
  (5, (.invokestatic 176, 3), (148, 2, 99), []),
  (8, (.ifCond .eq 11, 3), (19, 0, 0), []),
  (11, (.aload_n 0, 1), (0, 0, 0), []),
  (12, (.iconst 0, 1), (0, 0, 0), []),
  (13, (.invokevirtual 344, 3), (39, 2, 0), []),
  (16, (.goto 19, 3), (35, 0, 0), []),
  (19, (.aload_n 0, 1), (0, 0, 0), []),
  (20, (.getfield 77, 3), (0, 11, 0), []),
  (23, (.iconst 1, 1), (0, 0, 0), []),
  (24, (.invokestatic 176, 3), (148, 2, 99), []),
  (27, (.ifCond .eq 8, 3), (35, 0, 0), []),
  (30, (.aload_n 0, 1), (0, 0, 0), []),
  (31, (.iconst 1, 1), (0, 0, 0), []),
  (32, (.invokevirtual 344, 3), (39, 2, 0), []),
  (35, (.return_, 1), (0, 0, 0), [])]
def t_X0_beginBreak : List mT := [
  (0, (.aload_n 0, 1), (0, 0, 0), []),
  (1, (.iload_n 1, 1), (0, 0, 0), []),
  (2, (.putfield 44, 3), (0, 16, 0), []),
  (5, (.aload_n 0, 1), (0, 0, 0), []),
  (6, (.aload_n 0, 1), (0, 0, 0), []),
  (7, (.getfield 12, 3), (0, 0, 0), []),
  (10, (.iload_n 1, 1), (0, 0, 0), []),
  (11, (.iconst 0, 1), (0, 0, 0), []),
  (12, (.invokevirtual 347, 3), (59, 3, 2), []),
  (15, (.ifCond .eq 7, 3), (22, 0, 0), []),
  (18, (.iconst 1, 1), (0, 0, 0), []),
  (19, (.goto 4, 3), (23, 0, 0), []),
  (22, (.iconst 3, 1), (0, 0, 0), []),
  (23, (.putfield 93, 3), (0, 17, 0), []),
  (26, (.aload_n 0, 1), (0, 0, 0), []),
  (27, (.iconst 0, 1), (0, 0, 0), []),
  (28, (.putfield 96, 3), (0, 18, 0), []),
  (31, (.aload_n 0, 1), (0, 0, 0), []),
  (32, (.getfield 33, 3), (0, 3, 0), []),
  (35, (.iconst 2, 1), (0, 0, 0), []),
  (36, (.aload_n 0, 1), (0, 0, 0), []),
  (37, (.getfield 80, 3), (0, 12, 0), []),
  (40, (.iload_n 1, 1), (0, 0, 0), []),
  (41, (.invokevirtual 298, 3), (49, 4, 1), []),
  (44, (.return_, 1), (0, 0, 0), [])]
def t_X0_dropBreak : List mT := [
  (0, (.aload_n 0, 1), (0, 0, 0), []),
  (1, (.iconst (-1), 1), (0, 0, 0), []),
  (2, (.putfield 44, 3), (0, 16, 0), []),
  (5, (.aload_n 0, 1), (0, 0, 0), []),
  (6, (.iconst 0, 1), (0, 0, 0), []),
  (7, (.putfield 93, 3), (0, 17, 0), []),
  (10, (.aload_n 0, 1), (0, 0, 0), []),
  (11, (.iconst 0, 1), (0, 0, 0), []),
  (12, (.putfield 96, 3), (0, 18, 0), []),
  (15, (.return_, 1), (0, 0, 0), [])]
def t_X0_seek : List mT := [
  (0, (.iload_n 1, 1), (0, 0, 0), []),
  (1, (.aload_n 0, 1), (0, 0, 0), []),
  (2, (.getfield 12, 3), (0, 0, 0), []),
  (5, (.iconst 0, 1), (0, 0, 0), []),
  (6, (.iconst 0, 1), (0, 0, 0), []),
  (7, (.invokevirtual 112, 3), (61, 3, 2), []),
  (10, (.aload_n 0, 1), (0, 0, 0), []),
  (11, (.getfield 12, 3), (0, 0, 0), []),
  (14, (.iconst 0, 1), (0, 0, 0), []),
  (15, (.iconst 1, 1), (0, 0, 0), []),
  (16, (.invokevirtual 112, 3), (61, 3, 2), []),
  (19, (.ior, 1), (0, 0, 0), []),
  (20, (.iand, 1), (0, 0, 0), []),
  (21, (.invokestatic 116, 3), (149, 1, 99), []),
  (24, (.istore_n 2, 1), (0, 0, 0), []),
  (25, (.iload_n 1, 1), (0, 0, 0), []),
  (26, (.aload_n 0, 1), (0, 0, 0), []),
  (27, (.getfield 12, 3), (0, 0, 0), []),
  (30, (.iconst 1, 1), (0, 0, 0), []),
  (31, (.iconst 0, 1), (0, 0, 0), []),
  (32, (.invokevirtual 112, 3), (61, 3, 2), []),
  (35, (.aload_n 0, 1), (0, 0, 0), []),
  (36, (.getfield 12, 3), (0, 0, 0), []),
  (39, (.iconst 1, 1), (0, 0, 0), []),
  (40, (.iconst 1, 1), (0, 0, 0), []),
  (41, (.invokevirtual 112, 3), (61, 3, 2), []),
  (44, (.ior, 1), (0, 0, 0), []),
  (45, (.iand, 1), (0, 0, 0), []),
  (46, (.invokestatic 116, 3), (149, 1, 99), []),
  (49, (.istore_n 3, 1), (0, 0, 0), []),
  (50, (.aload_n 0, 1), (0, 0, 0), []),
  (51, (.aload_n 0, 1), (0, 0, 0), []),
  (52, (.getfield 23, 3), (0, 1, 0), []),
  (55, (.iload_n 2, 1), (0, 0, 0), []),
  (56, (.invokevirtual 359, 3), (42, 3, 0), []),
  (59, (.aload_n 0, 1), (0, 0, 0), []),
  (60, (.aload_n 0, 1), (0, 0, 0), []),
  (61, (.getfield 27, 3), (0, 2, 0), []),
  (64, (.iload_n 3, 1), (0, 0, 0), []),
  (65, (.invokevirtual 359, 3), (42, 3, 0), []),
  (68, (.aload_n 0, 1), (0, 0, 0), []),
  (69, (.aload_n 0, 1), (0, 0, 0), []),
  (70, (.getfield 23, 3), (0, 1, 0), []),
  (73, (.aload_n 0, 1), (0, 0, 0), []),
  (74, (.getfield 27, 3), (0, 2, 0), []),
  (77, (.invokevirtual 273, 3), (29, 3, 0), []),
  (80, (.aload_n 0, 1), (0, 0, 0), []),
  (81, (.aload_n 0, 1), (0, 0, 0), []),
  (82, (.getfield 27, 3), (0, 2, 0), []),
  (85, (.aload_n 0, 1), (0, 0, 0), []),
  (86, (.getfield 23, 3), (0, 1, 0), []),
  (89, (.invokevirtual 273, 3), (29, 3, 0), []),
  (92, (.aload_n 0, 1), (0, 0, 0), []),
  (93, (.aload_n 0, 1), (0, 0, 0), []),
  (94, (.getfield 23, 3), (0, 1, 0), []),
  (97, (.iload_n 2, 1), (0, 0, 0), []),
  (98, (.invokevirtual 362, 3), (43, 3, 0), []),
  (101, (.ifCond .eq 30, 3), (131, 0, 0), []),
  (104, (.aload_n 0, 1), (0, 0, 0), []),
  (105, (.aload_n 0, 1), (0, 0, 0), []),
  (106, (.getfield 27, 3), (0, 2, 0), []),
  (109, (.iload_n 3, 1), (0, 0, 0), []),
  (110, (.invokevirtual 362, 3), (43, 3, 0), []),
  (113, (.ifCond .eq 18, 3), (131, 0, 0), []),
  (116, (.aload_n 0, 1), (0, 0, 0), []),
  (117, (.dup, 1), (0, 0, 0), []),
  (118, (.getfield 93, 3), (0, 17, 0), []),
  (121, (.iconst 1, 1), (0, 0, 0), []),
  (122, (.iadd, 1), (0, 0, 0), []),
  (123, (.putfield 93, 3), (0, 17, 0), []),
  (126, (.aload_n 0, 1), (0, 0, 0), []),
  (127, (.iconst 0, 1), (0, 0, 0), []),
  (128, (.putfield 96, 3), (0, 18, 0), []),
  (131, (.return_, 1), (0, 0, 0), [])]
def t_X0_steer : List mT := [
  (0, (.aload_n 1, 1), (0, 0, 0), []),
  (1, (.invokevirtual 123, 3), (90, 1, 4), []),
  (4, (.ifCond .ne 9, 3), (13, 0, 0), []),
  (7, (.aload_n 1, 1), (0, 0, 0), []),
  (8, (.iload_n 2, 1), (0, 0, 0), []),
  (9, (.putfield 136, 3), (4, 4, 0), []),
  (12, (.return_, 1), (0, 0, 0), []),
  (13, (.aload_n 1, 1), (0, 0, 0), []),
  (14, (.getfield 127, 3), (4, 1, 0), []),
  (17, (.iload_n 2, 1), (0, 0, 0), []),
  (18, (.if_icmp .ne 4, 3), (22, 0, 0), []),
  (21, (.return_, 1), (0, 0, 0), []),
  (22, (.aload_n 1, 1), (0, 0, 0), []),
  (23, (.getfield 145, 3), (4, 7, 0), []),
  (26, (.iconst 1, 1), (0, 0, 0), []),
  (27, (.if_icmp .ne 13, 3), (40, 0, 0), []),
  (30, (.aload_n 1, 1), (0, 0, 0), []),
  (31, (.iconst 2, 1), (0, 0, 0), []),
  (32, (.putfield 145, 3), (4, 7, 0), []),
  (35, (.aload_n 1, 1), (0, 0, 0), []),
  (36, (.iconst 0, 1), (0, 0, 0), []),
  (37, (.putfield 148, 3), (4, 8, 0), []),
  (40, (.aload_n 1, 1), (0, 0, 0), []),
  (41, (.getfield 145, 3), (4, 7, 0), []),
  (44, (.ifCond .eq 22, 3), (66, 0, 0), []),
  (47, (.aload_n 1, 1), (0, 0, 0), []),
  (48, (.getfield 148, 3), (4, 8, 0), []),
  (51, (.aload_n 0, 1), (0, 0, 0), []),
  (52, (.getfield 12, 3), (0, 0, 0), []),
  (55, (.aload_n 0, 1), (0, 0, 0), []),
  (56, (.getfield 44, 3), (0, 16, 0), []),
  (59, (.iconst 4, 1), (0, 0, 0), []),
  (60, (.invokevirtual 347, 3), (59, 3, 2), []),
  (63, (.if_icmp .lt 9, 3), (72, 0, 0), []),
  (66, (.aload_n 0, 1), (0, 0, 0), []),
  (67, (.aload_n 1, 1), (0, 0, 0), []),
  (68, (.iload_n 2, 1), (0, 0, 0), []),
  (69, (.invokevirtual 327, 3), (28, 3, 0), []),
  (72, (.return_, 1), (0, 0, 0), [])]
def t_X0_isThere : List mT := [
  (0, (.aload_n 1, 1), (0, 0, 0), []),
  (1, (.getfield 127, 3), (4, 1, 0), []),
  (4, (.iload_n 2, 1), (0, 0, 0), []),
  (5, (.if_icmp .ne 19, 3), (24, 0, 0), []),
  (8, (.iload_n 2, 1), (0, 0, 0), []),
  (9, (.iconst (-1), 1), (0, 0, 0), []),
  (10, (.if_icmp .eq 10, 3), (20, 0, 0), []),
  (13, (.aload_n 1, 1), (0, 0, 0), []),
  (14, (.getfield 130, 3), (4, 2, 0), []),
  (17, (.ifCond .ne 7, 3), (24, 0, 0), []),
  (20, (.iconst 1, 1), (0, 0, 0), []),
  (21, (.goto 4, 3), (25, 0, 0), []),
  (24, (.iconst 0, 1), (0, 0, 0), []),
  (25, (.ireturn, 1), (0, 0, 0), [])]
def t_X0_stayOnTrack : List mT := [
  (0, (.aload_n 0, 1), (0, 0, 0), []),
  (1, (.dup, 1), (0, 0, 0), []),
  (2, (.getfield 96, 3), (0, 18, 0), []),
  (5, (.iconst 1, 1), (0, 0, 0), []),
  (6, (.iadd, 1), (0, 0, 0), []),
  (7, (.putfield 96, 3), (0, 18, 0), []),
  (10, (.aload_n 0, 1), (0, 0, 0), []),
  (11, (.getfield 96, 3), (0, 18, 0), []),
  (14, (.aload_n 0, 1), (0, 0, 0), []),
  (15, (.getfield 12, 3), (0, 0, 0), []),
  (18, (.aload_n 0, 1), (0, 0, 0), []),
  (19, (.getfield 44, 3), (0, 16, 0), []),
  (22, (.iconst 1, 1), (0, 0, 0), []),
  (23, (.invokevirtual 347, 3), (59, 3, 2), []),
  (26, (.if_icmp .lt 13, 3), (39, 0, 0), []),
  (29, (.aload_n 0, 1), (0, 0, 0), []),
  (30, (.iconst 3, 1), (0, 0, 0), []),
  (31, (.putfield 93, 3), (0, 17, 0), []),
  (34, (.aload_n 0, 1), (0, 0, 0), []),
  (35, (.iconst 0, 1), (0, 0, 0), []),
  (36, (.putfield 96, 3), (0, 18, 0), []),
  (39, (.return_, 1), (0, 0, 0), [])]
def t_X0_stayOnDwell : List mT := [
  (0, (.aload_n 0, 1), (0, 0, 0), []),
  (1, (.dup, 1), (0, 0, 0), []),
  (2, (.getfield 96, 3), (0, 18, 0), []),
  (5, (.iconst 1, 1), (0, 0, 0), []),
  (6, (.iadd, 1), (0, 0, 0), []),
  (7, (.putfield 96, 3), (0, 18, 0), []),
  (10, (.aload_n 0, 1), (0, 0, 0), []),
  (11, (.getfield 96, 3), (0, 18, 0), []),
  (14, (.aload_n 0, 1), (0, 0, 0), []),
  (15, (.getfield 12, 3), (0, 0, 0), []),
  (18, (.aload_n 0, 1), (0, 0, 0), []),
  (19, (.getfield 44, 3), (0, 16, 0), []),
  (22, (.iconst 3, 1), (0, 0, 0), []),
  (23, (.invokevirtual 347, 3), (59, 3, 2), []),
  (26, (.if_icmp .lt 41, 3), (67, 0, 0), []),
  (29, (.aload_n 0, 1), (0, 0, 0), []),
  (30, (.getfield 77, 3), (0, 11, 0), []),
  (33, (.aload_n 0, 1), (0, 0, 0), []),
  (34, (.getfield 44, 3), (0, 16, 0), []),
  (37, (.invokestatic 176, 3), (148, 2, 99), []),
  (40, (.ifCond .ne 27, 3), (67, 0, 0), []),
  (43, (.aload_n 0, 1), (0, 0, 0), []),
  (44, (.getfield 33, 3), (0, 3, 0), []),
  (47, (.iconst 3, 1), (0, 0, 0), []),
  (48, (.aload_n 0, 1), (0, 0, 0), []),
  (49, (.getfield 80, 3), (0, 12, 0), []),
  (52, (.aload_n 0, 1), (0, 0, 0), []),
  (53, (.getfield 44, 3), (0, 16, 0), []),
  (56, (.invokevirtual 298, 3), (49, 4, 1), []),
  (59, (.aload_n 0, 1), (0, 0, 0), []),
  (60, (.invokevirtual 106, 3), (40, 1, 0), []),
  (63, (.aload_n 0, 1), (0, 0, 0), []),
  (64, (.invokevirtual 365, 3), (46, 1, 0), []),
  (67, (.return_, 1), (0, 0, 0), [])]
def t_X0_resume : List mT := [
  (0, (.aload_n 0, 1), (0, 0, 0), []),
  (1, (.getfield 23, 3), (0, 1, 0), []),
  (4, (.invokevirtual 123, 3), (90, 1, 4), []),
  (7, (.ifCond .ne 18, 3), (25, 0, 0), []),
  (10, (.aload_n 0, 1), (0, 0, 0), []),
  (11, (.getfield 27, 3), (0, 2, 0), []),
  (14, (.invokevirtual 123, 3), (90, 1, 4), []),
  (17, (.ifCond .ne 8, 3), (25, 0, 0), []),
  (20, (.aload_n 0, 1), (0, 0, 0), []),
  (21, (.invokevirtual 109, 3), (2, 1, 0), []),
  (24, (.return_, 1), (0, 0, 0), []),
  (25, (.aload_n 0, 1), (0, 0, 0), []),
  (26, (.getfield 12, 3), (0, 0, 0), []),
  (29, (.getfield 166, 3), (2, 4, 0), []),
  (32, (.aload_n 0, 1), (0, 0, 0), []),
  (33, (.getfield 23, 3), (0, 1, 0), []),
  (36, (.invokevirtual 123, 3), (90, 1, 4), []),
  (39, (.ifCond .eq 13, 3), (52, 0, 0), []),
  (42, (.aload_n 0, 1), (0, 0, 0), []),
  (43, (.getfield 23, 3), (0, 1, 0), []),
  (46, (.getfield 127, 3), (4, 1, 0), []),
  (49, (.goto 10, 3), (59, 0, 0), []),
  (52, (.aload_n 0, 1), (0, 0, 0), []),
  (53, (.getfield 27, 3), (0, 2, 0), []),
  (56, (.getfield 127, 3), (4, 1, 0), []),
  (59, (.invokestatic 162, 3), (141, 2, 99), []),
  (62, (.istore_n 1, 1), (0, 0, 0), []),
  (63, (.aload_n 0, 1), (0, 0, 0), []),
  (64, (.getfield 23, 3), (0, 1, 0), []),
  (67, (.invokevirtual 283, 3), (89, 1, 4), []),
  (70, (.ifCond .ne 22, 3), (92, 0, 0), []),
  (73, (.aload_n 0, 1), (0, 0, 0), []),
  (74, (.getfield 23, 3), (0, 1, 0), []),
  (77, (.aload_n 0, 1), (0, 0, 0), []),
  (78, (.getfield 12, 3), (0, 0, 0), []),
  (81, (.iconst 0, 1), (0, 0, 0), []),
  (82, (.iload_n 1, 1), (0, 0, 0), []),
  (83, (.invokevirtual 112, 3), (61, 3, 2), []),
  (86, (.invokestatic 116, 3), (149, 1, 99), []),
  (89, (.putfield 136, 3), (4, 4, 0), []),
  (92, (.aload_n 0, 1), (0, 0, 0), []),
  (93, (.getfield 27, 3), (0, 2, 0), []),
  (96, (.invokevirtual 283, 3), (89, 1, 4), []),
  (99, (.ifCond .ne 22, 3), (121, 0, 0), []),
  (102, (.aload_n 0, 1), (0, 0, 0), []),
  (103, (.getfield 27, 3), (0, 2, 0), []),
  (106, (.aload_n 0, 1), (0, 0, 0), []),
  (107, (.getfield 12, 3), (0, 0, 0), []),
  (110, (.iconst 1, 1), (0, 0, 0), []),
  (111, (.iload_n 1, 1), (0, 0, 0), []),
  (112, (.invokevirtual 112, 3), (61, 3, 2), []),
  (115, (.invokestatic 116, 3), (149, 1, 99), []),
  (118, (.putfield 136, 3), (4, 4, 0), []),
  (121, (.return_, 1), (0, 0, 0), [])]
def t_X1_wipe : List mT := [
  (0, (.aload_n 0, 1), (0, 0, 0), []),
  (1, (.iconst 0, 1), (0, 0, 0), []),
  (2, (.putfield 21, 3), (1, 3, 0), []),
  (5, (.aload_n 0, 1), (0, 0, 0), []),
  (6, (.iconst 0, 1), (0, 0, 0), []),
  (7, (.putfield 25, 3), (1, 4, 0), []),
  (10, (.return_, 1), (0, 0, 0), [])]
def t_X1_takeFrom : List mT := [
  (0, (.aload_n 0, 1), (0, 0, 0), []),
  (1, (.aload_n 1, 1), (0, 0, 0), []),
  (2, (.getfield 21, 3), (1, 3, 0), []),
  (5, (.putfield 21, 3), (1, 3, 0), []),
  (8, (.aload_n 0, 1), (0, 0, 0), []),
  (9, (.aload_n 1, 1), (0, 0, 0), []),
  (10, (.getfield 25, 3), (1, 4, 0), []),
  (13, (.putfield 25, 3), (1, 4, 0), []),
  (16, (.aload_n 1, 1), (0, 0, 0), []),
  (17, (.getfield 9, 3), (1, 0, 0), []),
  (20, (.aload_n 0, 1), (0, 0, 0), []),
  (21, (.getfield 9, 3), (1, 0, 0), []),
  (24, (.invokestatic 28, 3), (143, 2, 99), []),
  (27, (.aload_n 1, 1), (0, 0, 0), []),
  (28, (.getfield 15, 3), (1, 1, 0), []),
  (31, (.aload_n 0, 1), (0, 0, 0), []),
  (32, (.getfield 15, 3), (1, 1, 0), []),
  (35, (.invokestatic 28, 3), (143, 2, 99), []),
  (38, (.aload_n 1, 1), (0, 0, 0), []),
  (39, (.getfield 18, 3), (1, 2, 0), []),
  (42, (.aload_n 0, 1), (0, 0, 0), []),
  (43, (.getfield 18, 3), (1, 2, 0), []),
  (46, (.invokestatic 28, 3), (143, 2, 99), []),
  (49, (.return_, 1), (0, 0, 0), [])]
def t_X1_note : List mT := [
  (0, (.aload_n 0, 1), (0, 0, 0), []),
  (1, (.getfield 25, 3), (1, 4, 0), []),
  (4, (.ifCond .lt 42, 3), (46, 0, 0), []),
  (7, (.aload_n 0, 1), (0, 0, 0), []),
  (8, (.getfield 25, 3), (1, 4, 0), []),
  (11, (.bipush 32, 2), (0, 0, 0), []),
  (13, (.if_icmp .ge 33, 3), (46, 0, 0), []),
  (16, (.aload_n 0, 1), (0, 0, 0), []),
  (17, (.getfield 9, 3), (1, 0, 0), []),
  (20, (.aload_n 0, 1), (0, 0, 0), []),
  (21, (.getfield 25, 3), (1, 4, 0), []),
  (24, (.iload_n 1, 1), (0, 0, 0), []),
  (25, (.iastore, 1), (0, 0, 0), []),
  (26, (.aload_n 0, 1), (0, 0, 0), []),
  (27, (.getfield 15, 3), (1, 1, 0), []),
  (30, (.aload_n 0, 1), (0, 0, 0), []),
  (31, (.getfield 25, 3), (1, 4, 0), []),
  (34, (.iload_n 2, 1), (0, 0, 0), []),
  (35, (.iastore, 1), (0, 0, 0), []),
  (36, (.aload_n 0, 1), (0, 0, 0), []),
  (37, (.getfield 18, 3), (1, 2, 0), []),
  (40, (.aload_n 0, 1), (0, 0, 0), []),
  (41, (.getfield 25, 3), (1, 4, 0), []),
  (44, (.iload_n 3, 1), (0, 0, 0), []),
  (45, (.iastore, 1), (0, 0, 0), []),
  (46, (.aload_n 0, 1), (0, 0, 0), []),
  (47, (.aload_n 0, 1), (0, 0, 0), []),
  (48, (.getfield 25, 3), (1, 4, 0), []),
  (51, (.iconst 1, 1), (0, 0, 0), []),
  (52, (.iadd, 1), (0, 0, 0), []),
  (53, (.bipush 32, 2), (0, 0, 0), []),
  (55, (.irem, 1), (0, 0, 0), []),
  (56, (.putfield 25, 3), (1, 4, 0), []),
  (59, (.aload_n 0, 1), (0, 0, 0), []),
  (60, (.aload_n 0, 1), (0, 0, 0), []),
  (61, (.getfield 21, 3), (1, 3, 0), []),
  (64, (.iconst 1, 1), (0, 0, 0), []),
  (65, (.iadd, 1), (0, 0, 0), []),
  (66, (.bipush 32, 2), (0, 0, 0), []),
  (68, (.invokestatic 32, 3), (277, 2, 99), []),
  (71, (.putfield 21, 3), (1, 3, 0), []),
  (74, (.return_, 1), (0, 0, 0), [])]
def t_X1_tell : List mT := [
  (0, (.aload_n 0, 1), (0, 0, 0), []),
  (1, (.getfield 25, 3), (1, 4, 0), []),
  (4, (.iconst 1, 1), (0, 0, 0), []),
  (5, (.isub, 1), (0, 0, 0), []),
  (6, (.iload_n 1, 1), (0, 0, 0), []),
  (7, (.isub, 1), (0, 0, 0), []),
  (8, (.bipush 32, 2), (0, 0, 0), []),
  (10, (.invokestatic 38, 3), (275, 2, 99), []),
  (13, (.istore_n 3, 1), (0, 0, 0), []),
  (14, (.iload_n 2, 1), (0, 0, 0), []),
  (15, (.lookupswitch 43 #[(0, 25), (1, 34)], 25), (58, 0, 0), [(0, 40), (1, 49)]),
  (40, (.aload_n 0, 1), (0, 0, 0), []),
  (41, (.getfield 9, 3), (1, 0, 0), []),
  (44, (.iload_n 3, 1), (0, 0, 0), []),
  (45, (.invokestatic 41, 3), (141, 2, 99), []),
  (48, (.ireturn, 1), (0, 0, 0), []),
  (49, (.aload_n 0, 1), (0, 0, 0), []),
  (50, (.getfield 15, 3), (1, 1, 0), []),
  (53, (.iload_n 3, 1), (0, 0, 0), []),
  (54, (.invokestatic 41, 3), (141, 2, 99), []),
  (57, (.ireturn, 1), (0, 0, 0), []),
  (58, (.aload_n 0, 1), (0, 0, 0), []),
  (59, (.getfield 18, 3), (1, 2, 0), []),
  (62, (.iload_n 3, 1), (0, 0, 0), []),
  (63, (.invokestatic 41, 3), (141, 2, 99), []),
  (66, (.ireturn, 1), (0, 0, 0), [])]
def t_X2_wipe : List mT := [
  (0, (.aload_n 0, 1), (0, 0, 0), []),
  (1, (.iconst 0, 1), (0, 0, 0), []),
  (2, (.putfield 30, 3), (2, 0, 0), []),
  (5, (.aload_n 0, 1), (0, 0, 0), []),
  (6, (.iconst 0, 1), (0, 0, 0), []),
  (7, (.putfield 34, 3), (2, 9, 0), []),
  (10, (.aload_n 0, 1), (0, 0, 0), []),
  (11, (.iconst 0, 1), (0, 0, 0), []),
  (12, (.putfield 37, 3), (2, 10, 0), []),
  (15, (.aload_n 0, 1), (0, 0, 0), []),
  (16, (.iconst 0, 1), (0, 0, 0), []),
  (17, (.putfield 40, 3), (2, 11, 0), []),
  (20, (.aload_n 0, 1), (0, 0, 0), []),
  (21, (.iconst 0, 1), (0, 0, 0), []),
  (22, (.putfield 43, 3), (2, 1, 0), []),
  (25, (.aload_n 0, 1), (0, 0, 0), []),
  (26, (.iconst 0, 1), (0, 0, 0), []),
  (27, (.putfield 46, 3), (2, 2, 0), []),
  (30, (.aload_n 0, 1), (0, 0, 0), []),
  (31, (.getfield 9, 3), (2, 3, 0), []),
  (34, (.iconst 0, 1), (0, 0, 0), []),
  (35, (.invokestatic 49, 3), (144, 2, 99), []),
  (38, (.aload_n 0, 1), (0, 0, 0), []),
  (39, (.getfield 15, 3), (2, 4, 0), []),
  (42, (.iconst 0, 1), (0, 0, 0), []),
  (43, (.invokestatic 49, 3), (144, 2, 99), []),
  (46, (.aload_n 0, 1), (0, 0, 0), []),
  (47, (.getfield 18, 3), (2, 5, 0), []),
  (50, (.iconst 0, 1), (0, 0, 0), []),
  (51, (.invokestatic 49, 3), (144, 2, 99), []),
  (54, (.aload_n 0, 1), (0, 0, 0), []),
  (55, (.getfield 21, 3), (2, 6, 0), []),
  (58, (.iconst 0, 1), (0, 0, 0), []),
  (59, (.invokestatic 49, 3), (144, 2, 99), []),
  (62, (.aload_n 0, 1), (0, 0, 0), []),
  (63, (.getfield 24, 3), (2, 7, 0), []),
  (66, (.iconst 0, 1), (0, 0, 0), []),
  (67, (.invokestatic 49, 3), (144, 2, 99), []),
  (70, (.aload_n 0, 1), (0, 0, 0), []),
  (71, (.getfield 27, 3), (2, 8, 0), []),
  (74, (.iconst 0, 1), (0, 0, 0), []),
  (75, (.invokestatic 49, 3), (144, 2, 99), []),
  (78, (.return_, 1), (0, 0, 0), [])]
def t_X2_takeFrom : List mT := [
  (0, (.aload_n 0, 1), (0, 0, 0), []),
  (1, (.aload_n 1, 1), (0, 0, 0), []),
  (2, (.getfield 30, 3), (2, 0, 0), []),
  (5, (.putfield 30, 3), (2, 0, 0), []),
  (8, (.aload_n 0, 1), (0, 0, 0), []),
  (9, (.aload_n 1, 1), (0, 0, 0), []),
  (10, (.getfield 43, 3), (2, 1, 0), []),
  (13, (.putfield 43, 3), (2, 1, 0), []),
  (16, (.aload_n 0, 1), (0, 0, 0), []),
  (17, (.aload_n 1, 1), (0, 0, 0), []),
  (18, (.getfield 46, 3), (2, 2, 0), []),
  (21, (.putfield 46, 3), (2, 2, 0), []),
  (24, (.aload_n 0, 1), (0, 0, 0), []),
  (25, (.aload_n 1, 1), (0, 0, 0), []),
  (26, (.getfield 34, 3), (2, 9, 0), []),
  (29, (.putfield 34, 3), (2, 9, 0), []),
  (32, (.aload_n 0, 1), (0, 0, 0), []),
  (33, (.aload_n 1, 1), (0, 0, 0), []),
  (34, (.getfield 37, 3), (2, 10, 0), []),
  (37, (.putfield 37, 3), (2, 10, 0), []),
  (40, (.aload_n 0, 1), (0, 0, 0), []),
  (41, (.aload_n 1, 1), (0, 0, 0), []),
  (42, (.getfield 40, 3), (2, 11, 0), []),
  (45, (.putfield 40, 3), (2, 11, 0), []),
  (48, (.aload_n 1, 1), (0, 0, 0), []),
  (49, (.getfield 9, 3), (2, 3, 0), []),
  (52, (.aload_n 0, 1), (0, 0, 0), []),
  (53, (.getfield 9, 3), (2, 3, 0), []),
  (56, (.invokestatic 53, 3), (143, 2, 99), []),
  (59, (.aload_n 1, 1), (0, 0, 0), []),
  (60, (.getfield 15, 3), (2, 4, 0), []),
  (63, (.aload_n 0, 1), (0, 0, 0), []),
  (64, (.getfield 15, 3), (2, 4, 0), []),
  (67, (.invokestatic 53, 3), (143, 2, 99), []),
  (70, (.aload_n 1, 1), (0, 0, 0), []),
  (71, (.getfield 18, 3), (2, 5, 0), []),
  (74, (.aload_n 0, 1), (0, 0, 0), []),
  (75, (.getfield 18, 3), (2, 5, 0), []),
  (78, (.invokestatic 53, 3), (143, 2, 99), []),
  (81, (.aload_n 1, 1), (0, 0, 0), []),
  (82, (.getfield 21, 3), (2, 6, 0), []),
  (85, (.aload_n 0, 1), (0, 0, 0), []),
  (86, (.getfield 21, 3), (2, 6, 0), []),
  (89, (.invokestatic 53, 3), (143, 2, 99), []),
  (92, (.aload_n 1, 1), (0, 0, 0), []),
  (93, (.getfield 24, 3), (2, 7, 0), []),
  (96, (.aload_n 0, 1), (0, 0, 0), []),
  (97, (.getfield 24, 3), (2, 7, 0), []),
  (100, (.invokestatic 53, 3), (143, 2, 99), []),
  (103, (.aload_n 1, 1), (0, 0, 0), []),
  (104, (.getfield 27, 3), (2, 8, 0), []),
  (107, (.aload_n 0, 1), (0, 0, 0), []),
  (108, (.getfield 27, 3), (2, 8, 0), []),
  (111, (.invokestatic 53, 3), (143, 2, 99), []),
  (114, (.return_, 1), (0, 0, 0), [])]
def t_X2_addPhase : List mT := [
  (0, (.iconst 0, 1), (0, 0, 0), []),
  (1, (.istore_n 3, 1), (0, 0, 0), []),
  (2, (.iload_n 3, 1), (0, 0, 0), []),
  (3, (.aload_n 0, 1), (0, 0, 0), []),
  (4, (.getfield 30, 3), (2, 0, 0), []),
  (7, (.if_icmp .ge 78, 3), (85, 0, 0), []),
  (10, (.aload_n 0, 1), (0, 0, 0), []),
  (11, (.getfield 9, 3), (2, 3, 0), []),
  (14, (.iload_n 3, 1), (0, 0, 0), []),
  (15, (.invokestatic 57, 3), (141, 2, 99), []),
  (18, (.iload_n 1, 1), (0, 0, 0), []),
  (19, (.if_icmp .eq 15, 3), (34, 0, 0), []),
  (22, (.aload_n 0, 1), (0, 0, 0), []),
  (23, (.getfield 15, 3), (2, 4, 0), []),
  (26, (.iload_n 3, 1), (0, 0, 0), []),
  (27, (.invokestatic 57, 3), (141, 2, 99), []),
  (30, (.iload_n 2, 1), (0, 0, 0), []),
  (31, (.if_icmp .eq 48, 3), (79, 0, 0), []),
  (34, (.aload_n 0, 1), (0, 0, 0), []),
  (35, (.getfield 18, 3), (2, 5, 0), []),
  (38, (.iload_n 3, 1), (0, 0, 0), []),
  (39, (.aload_n 0, 1), (0, 0, 0), []),
  (40, (.iload_n 3, 1), (0, 0, 0), []),
  (41, (.invokevirtual 61, 3), (63, 2, 2), []),
  (44, (.aload_n 0, 1), (0, 0, 0), []),
  (45, (.getfield 30, 3), (2, 0, 0), []),
  (48, (.invokestatic 65, 3), (146, 1, 99), []),
  (51, (.ior, 1), (0, 0, 0), []),
  (52, (.invokestatic 68, 3), (142, 3, 99), []),
  (55, (.aload_n 0, 1), (0, 0, 0), []),
  (56, (.getfield 18, 3), (2, 5, 0), []),
  (59, (.aload_n 0, 1), (0, 0, 0), []),
  (60, (.getfield 30, 3), (2, 0, 0), []),
  (63, (.aload_n 0, 1), (0, 0, 0), []),
  (64, (.aload_n 0, 1), (0, 0, 0), []),
  (65, (.getfield 30, 3), (2, 0, 0), []),
  (68, (.invokevirtual 61, 3), (63, 2, 2), []),
  (71, (.iload_n 3, 1), (0, 0, 0), []),
  (72, (.invokestatic 65, 3), (146, 1, 99), []),
  (75, (.ior, 1), (0, 0, 0), []),
  (76, (.invokestatic 68, 3), (142, 3, 99), []),
  (79, (.iinc 3 1, 3), (0, 0, 0), []),
  (82, (.goto (-80), 3), (2, 0, 0), []),
  (85, (.aload_n 0, 1), (0, 0, 0), []),
  (86, (.getfield 9, 3), (2, 3, 0), []),
  (89, (.aload_n 0, 1), (0, 0, 0), []),
  (90, (.getfield 30, 3), (2, 0, 0), []),
  (93, (.iload_n 1, 1), (0, 0, 0), []),
  (94, (.invokestatic 68, 3), (142, 3, 99), []),
  (97, (.aload_n 0, 1), (0, 0, 0), []),
  (98, (.getfield 15, 3), (2, 4, 0), []),
  (101, (.aload_n 0, 1), (0, 0, 0), []),
  (102, (.getfield 30, 3), (2, 0, 0), []),
  (105, (.iload_n 2, 1), (0, 0, 0), []),
  (106, (.invokestatic 68, 3), (142, 3, 99), []),
  (109, (.aload_n 0, 1), (0, 0, 0), []),
  (110, (.getfield 27, 3), (2, 8, 0), []),
  (113, (.iload_n 1, 1), (0, 0, 0), []),
  (114, (.iconst 2, 1), (0, 0, 0), []),
  (115, (.imul, 1), (0, 0, 0), []),
  (116, (.iload_n 2, 1), (0, 0, 0), []),
  (117, (.iadd, 1), (0, 0, 0), []),
  (118, (.aload_n 0, 1), (0, 0, 0), []),
  (119, (.iload_n 1, 1), (0, 0, 0), []),
  (120, (.iload_n 2, 1), (0, 0, 0), []),
  (121, (.invokevirtual 72, 3), (61, 3, 2), []),
  (124, (.aload_n 0, 1), (0, 0, 0), []),
  (125, (.getfield 30, 3), (2, 0, 0), []),
  (128, (.invokestatic 65, 3), (146, 1, 99), []),
  (131, (.ior, 1), (0, 0, 0), []),
  (132, (.invokestatic 68, 3), (142, 3, 99), []),
  (135, (.iconst 0, 1), (0, 0, 0), []),
  (136, (.istore_n 3, 1), (0, 0, 0), []),
  (137, (.iload_n 3, 1), (0, 0, 0), []),
  (138, (.bipush 10, 2), (0, 0, 0), []),
  (140, (.if_icmp .ge 25, 3), (165, 0, 0), []),
  (143, (.aload_n 0, 1), (0, 0, 0), []),
  (144, (.aload_n 0, 1), (0, 0, 0), []),
  (145, (.getfield 30, 3), (2, 0, 0), []),
  (148, (.iload_n 3, 1), (0, 0, 0), []),
  (149, (.getstatic 76, 3), (0, 29, 0), []),
  (152, (.iload_n 3, 1), (0, 0, 0), []),
  (153, (.invokestatic 57, 3), (141, 2, 99), []),
  (156, (.invokevirtual 79, 3), (58, 4, 2), []),
  (159, (.iinc 3 1, 3), (0, 0, 0), []),
  (162, (.goto (-25), 3), (137, 0, 0), []),
  (165, (.aload_n 0, 1), (0, 0, 0), []),
  (166, (.dup, 1), (0, 0, 0), []),
  (167, (.getfield 30, 3), (2, 0, 0), []),
  (170, (.iconst 1, 1), (0, 0, 0), []),
  (171, (.iadd, 1), (0, 0, 0), []),
  (172, (.putfield 30, 3), (2, 0, 0), []),
  (175, (.return_, 1), (0, 0, 0), [])]
def t_X2_hasPhase : List mT := [
  (0, (.iload_n 1, 1), (0, 0, 0), []),
  (1, (.ifCond .lt 15, 3), (16, 0, 0), []),
  (4, (.iload_n 1, 1), (0, 0, 0), []),
  (5, (.aload_n 0, 1), (0, 0, 0), []),
  (6, (.getfield 30, 3), (2, 0, 0), []),
  (9, (.if_icmp .ge 7, 3), (16, 0, 0), []),
  (12, (.iconst 1, 1), (0, 0, 0), []),
  (13, (.goto 4, 3), (17, 0, 0), []),
  (16, (.iconst 0, 1), (0, 0, 0), []),
  (17, (.ireturn, 1), (0, 0, 0), [])]
def t_X2_allSet : List mT := [
  (0, (.iconst 1, 1), (0, 0, 0), []),
  (1, (.aload_n 0, 1), (0, 0, 0), []),
  (2, (.getfield 30, 3), (2, 0, 0), []),
  (5, (.ishl, 1), (0, 0, 0), []),
  (6, (.iconst 1, 1), (0, 0, 0), []),
  (7, (.isub, 1), (0, 0, 0), []),
  (8, (.ireturn, 1), (0, 0, 0), [])]
def t_X2_hasAll : List mT := [
  (0, (.iload_n 1, 1), (0, 0, 0), []),
  (1, (.ifCond .lt 15, 3), (16, 0, 0), []),
  (4, (.iload_n 1, 1), (0, 0, 0), []),
  (5, (.aload_n 0, 1), (0, 0, 0), []),
  (6, (.invokevirtual 83, 3), (55, 1, 2), []),
  (9, (.if_icmp .gt 7, 3), (16, 0, 0), []),
  (12, (.iconst 1, 1), (0, 0, 0), []),
  (13, (.goto 4, 3), (17, 0, 0), []),
  (16, (.iconst 0, 1), (0, 0, 0), []),
  (17, (.ireturn, 1), (0, 0, 0), [])]
def t_X2_markOf : List mT := [
  (0, (.iload_n 1, 1), (0, 0, 0), []),
  (1, (.bipush 10, 2), (0, 0, 0), []),
  (3, (.imul, 1), (0, 0, 0), []),
  (4, (.iload_n 2, 1), (0, 0, 0), []),
  (5, (.iadd, 1), (0, 0, 0), []),
  (6, (.istore_n 3, 1), (0, 0, 0), []),
  (7, (.iload_n 3, 1), (0, 0, 0), []),
  (8, (.ifCond .lt 21, 3), (29, 0, 0), []),
  (11, (.iload_n 3, 1), (0, 0, 0), []),
  (12, (.aload_n 0, 1), (0, 0, 0), []),
  (13, (.getfield 21, 3), (2, 6, 0), []),
  (16, (.arraylength, 1), (0, 0, 0), []),
  (17, (.if_icmp .ge 12, 3), (29, 0, 0), []),
  (20, (.aload_n 0, 1), (0, 0, 0), []),
  (21, (.getfield 21, 3), (2, 6, 0), []),
  (24, (.iload_n 3, 1), (0, 0, 0), []),
  (25, (.iaload, 1), (0, 0, 0), []),
  (26, (.goto 4, 3), (30, 0, 0), []),
  (29, (.iconst 0, 1), (0, 0, 0), []),
  (30, (.ireturn, 1), (0, 0, 0), [])]
def t_X2_putMark : List mT := [
  (0, (.aload_n 0, 1), (0, 0, 0), []),
  (1, (.getfield 21, 3), (2, 6, 0), []),
  (4, (.iload_n 1, 1), (0, 0, 0), []),
  (5, (.bipush 10, 2), (0, 0, 0), []),
  (7, (.imul, 1), (0, 0, 0), []),
  (8, (.iload_n 2, 1), (0, 0, 0), []),
  (9, (.iadd, 1), (0, 0, 0), []),
  (10, (.iload_n 3, 1), (0, 0, 0), []),
  (11, (.invokestatic 68, 3), (142, 3, 99), []),
  (14, (.iload_n 2, 1), (0, 0, 0), []),
  (15, (.bipush 7, 2), (0, 0, 0), []),
  (17, (.if_icmp .ne 49, 3), (66, 0, 0), []),
  (20, (.aload_n 0, 1), (0, 0, 0), []),
  (21, (.aload_n 0, 1), (0, 0, 0), []),
  (22, (.getfield 34, 3), (2, 9, 0), []),
  (25, (.iload_n 1, 1), (0, 0, 0), []),
  (26, (.iload_n 3, 1), (0, 0, 0), []),
  (27, (.ifCond .eq 7, 3), (34, 0, 0), []),
  (30, (.iconst 1, 1), (0, 0, 0), []),
  (31, (.goto 4, 3), (35, 0, 0), []),
  (34, (.iconst 0, 1), (0, 0, 0), []),
  (35, (.invokestatic 87, 3), (147, 3, 99), []),
  (38, (.putfield 34, 3), (2, 9, 0), []),
  (41, (.aload_n 0, 1), (0, 0, 0), []),
  (42, (.aload_n 0, 1), (0, 0, 0), []),
  (43, (.getfield 37, 3), (2, 10, 0), []),
  (46, (.iload_n 1, 1), (0, 0, 0), []),
  (47, (.iload_n 3, 1), (0, 0, 0), []),
  (48, (.iconst 3, 1), (0, 0, 0), []),
  (49, (.if_icmp .ne 7, 3), (56, 0, 0), []),
  (52, (.iconst 1, 1), (0, 0, 0), []),
  (53, (.goto 4, 3), (57, 0, 0), []),
  (56, (.iconst 0, 1), (0, 0, 0), []),
  (57, (.invokestatic 87, 3), (147, 3, 99), []),
  (60, (.putfield 37, 3), (2, 10, 0), []),
  (63, (.goto 29, 3), (92, 0, 0), []),
  (66, (.iload_n 2, 1), (0, 0, 0), []),
  (67, (.iconst 5, 1), (0, 0, 0), []),
  (68, (.if_icmp .ne 24, 3), (92, 0, 0), []),
  (71, (.aload_n 0, 1), (0, 0, 0), []),
  (72, (.aload_n 0, 1), (0, 0, 0), []),
  (73, (.getfield 40, 3), (2, 11, 0), []),
  (76, (.iload_n 1, 1), (0, 0, 0), []),
  (77, (.iload_n 3, 1), (0, 0, 0), []),
  (78, (.ifCond .le 7, 3), (85, 0, 0), []),
  (81, (.iconst 1, 1), (0, 0, 0), []),
  (82, (.goto 4, 3), (86, 0, 0), []),
  (85, (.iconst 0, 1), (0, 0, 0), []),
  (86, (.invokestatic 87, 3), (147, 3, 99), []),
  (89, (.putfield 40, 3), (2, 11, 0), []),
  (92, (.return_, 1), (0, 0, 0), [])]
def t_X2_breakOf : List mT := [
  (0, (.aload_n 0, 1), (0, 0, 0), []),
  (1, (.getfield 24, 3), (2, 7, 0), []),
  (4, (.iload_n 1, 1), (0, 0, 0), []),
  (5, (.iconst 5, 1), (0, 0, 0), []),
  (6, (.imul, 1), (0, 0, 0), []),
  (7, (.iload_n 2, 1), (0, 0, 0), []),
  (8, (.iadd, 1), (0, 0, 0), []),
  (9, (.invokestatic 57, 3), (141, 2, 99), []),
  (12, (.ireturn, 1), (0, 0, 0), [])]
def t_X2_putBreak : List mT := [
  (0, (.aload_n 0, 1), (0, 0, 0), []),
  (1, (.getfield 24, 3), (2, 7, 0), []),
  (4, (.iload_n 1, 1), (0, 0, 0), []),
  (5, (.iconst 5, 1), (0, 0, 0), []),
  (6, (.imul, 1), (0, 0, 0), []),
  (7, (.iload_n 2, 1), (0, 0, 0), []),
  (8, (.iadd, 1), (0, 0, 0), []),
  (9, (.iload_n 3, 1), (0, 0, 0), []),
  (10, (.invokestatic 68, 3), (142, 3, 99), []),
  (13, (.return_, 1), (0, 0, 0), [])]
def t_X2_partOf : List mT := [
  (0, (.iload_n 1, 1), (0, 0, 0), []),
  (1, (.iconst 2, 1), (0, 0, 0), []),
  (2, (.imul, 1), (0, 0, 0), []),
  (3, (.iload_n 2, 1), (0, 0, 0), []),
  (4, (.iadd, 1), (0, 0, 0), []),
  (5, (.istore_n 3, 1), (0, 0, 0), []),
  (6, (.iload_n 3, 1), (0, 0, 0), []),
  (7, (.ifCond .lt 21, 3), (28, 0, 0), []),
  (10, (.iload_n 3, 1), (0, 0, 0), []),
  (11, (.aload_n 0, 1), (0, 0, 0), []),
  (12, (.getfield 27, 3), (2, 8, 0), []),
  (15, (.arraylength, 1), (0, 0, 0), []),
  (16, (.if_icmp .ge 12, 3), (28, 0, 0), []),
  (19, (.aload_n 0, 1), (0, 0, 0), []),
  (20, (.getfield 27, 3), (2, 8, 0), []),
  (23, (.iload_n 3, 1), (0, 0, 0), []),
  (24, (.iaload, 1), (0, 0, 0), []),
  (25, (.goto 4, 3), (29, 0, 0), []),
  (28, (.iconst 0, 1), (0, 0, 0), []),
  (29, (.ireturn, 1), (0, 0, 0), [])]
def t_X2_sideSet : List mT := [
  (0, (.aload_n 0, 1), (0, 0, 0), []),
  (1, (.iconst 0, 1), (0, 0, 0), []),
  (2, (.iload_n 1, 1), (0, 0, 0), []),
  (3, (.invokevirtual 72, 3), (61, 3, 2), []),
  (6, (.aload_n 0, 1), (0, 0, 0), []),
  (7, (.iconst 1, 1), (0, 0, 0), []),
  (8, (.iload_n 1, 1), (0, 0, 0), []),
  (9, (.invokevirtual 72, 3), (61, 3, 2), []),
  (12, (.ior, 1), (0, 0, 0), []),
  (13, (.ireturn, 1), (0, 0, 0), [])]
def t_X2_foesOf : List mT := [
  (0, (.aload_n 0, 1), (0, 0, 0), []),
  (1, (.getfield 18, 3), (2, 5, 0), []),
  (4, (.iload_n 1, 1), (0, 0, 0), []),
  (5, (.invokestatic 57, 3), (141, 2, 99), []),
  (8, (.ireturn, 1), (0, 0, 0), [])]
def t_X2_holdsFoes : List mT := [
  (0, (.aload_n 0, 1), (0, 0, 0), []),
  (1, (.iload_n 1, 1), (0, 0, 0), []),
  (2, (.invokevirtual 91, 3), (65, 2, 2), []),
  (5, (.iconst (-1), 1), (0, 0, 0), []),
  (6, (.if_icmp .eq 7, 3), (13, 0, 0), []),
  (9, (.iconst 1, 1), (0, 0, 0), []),
  (10, (.goto 4, 3), (14, 0, 0), []),
  (13, (.iconst 0, 1), (0, 0, 0), []),
  (14, (.ireturn, 1), (0, 0, 0), [])]
def t_X2_firstWithFoe : List mT := [
  (0, (.iconst 0, 1), (0, 0, 0), []),
  (1, (.istore_n 2, 1), (0, 0, 0), []),
  (2, (.iload_n 2, 1), (0, 0, 0), []),
  (3, (.aload_n 0, 1), (0, 0, 0), []),
  (4, (.getfield 30, 3), (2, 0, 0), []),
  (7, (.if_icmp .ge 29, 3), (36, 0, 0), []),
  (10, (.iload_n 1, 1), (0, 0, 0), []),
  (11, (.iload_n 2, 1), (0, 0, 0), []),
  (12, (.invokestatic 94, 3), (148, 2, 99), []),
  (15, (.ifCond .eq 15, 3), (30, 0, 0), []),
  (18, (.aload_n 0, 1), (0, 0, 0), []),
  (19, (.iload_n 2, 1), (0, 0, 0), []),
  (20, (.invokevirtual 61, 3), (63, 2, 2), []),
  (23, (.iload_n 1, 1), (0, 0, 0), []),
  (24, (.iand, 1), (0, 0, 0), []),
  (25, (.ifCond .eq 5, 3), (30, 0, 0), []),
  (28, (.iload_n 2, 1), (0, 0, 0), []),
  (29, (.ireturn, 1), (0, 0, 0), []),
  (30, (.iinc 2 1, 3), (0, 0, 0), []),
  (33, (.goto (-31), 3), (2, 0, 0), []),
  (36, (.iconst (-1), 1), (0, 0, 0), []),
  (37, (.ireturn, 1), (0, 0, 0), [])]
def t_X2_isFull : List mT := [
  (0, (.iconst 0, 1), (0, 0, 0), []),
  (1, (.istore_n 2, 1), (0, 0, 0), []),
  (2, (.iload_n 2, 1), (0, 1, 3), []),
  (3, (.aload_n 0, 1), (0, 0, 0), []),
  (4, (.getfield 30, 3), (2, 0, 0), []),
  (7, (.if_icmp .ge 36, 3), (43, 0, 0), []),
  (10, (.iload_n 1, 1), (0, 0, 0), []),
  (11, (.iload_n 2, 1), (0, 0, 0), []),
  (12, (.invokestatic 94, 3), (148, 2, 99), []),
  (15, (.istore_n 3, 1), (0, 0, 0), []),
  (16, (.iload_n 3, 1), (0, 0, 0), []),
  (17, (.aload_n 0, 1), (0, 0, 0), []),
  (18, (.iload_n 2, 1), (0, 0, 0), []),
  (19, (.invokevirtual 61, 3), (63, 2, 2), []),
  (22, (.iload_n 1, 1), (0, 0, 0), []),
  (23, (.iand, 1), (0, 0, 0), []),
  (24, (.ifCond .eq 7, 3), (31, 0, 0), []),
  (27, (.iconst 1, 1), (0, 0, 0), []),
  (28, (.goto 4, 3), (32, 0, 0), []),
  (31, (.iconst 0, 1), (0, 0, 0), []),
  (32, (.if_icmp .ne 5, 3), (37, 0, 0), []),
  (35, (.iconst 0, 1), (0, 0, 0), []),
  (36, (.ireturn, 1), (0, 0, 0), []),
  (37, (.iinc 2 1, 3), (0, 0, 0), []),
  (40, (.goto (-38), 3), (2, 0, 0), []),
  (43, (.iconst 1, 1), (0, 0, 0), []),
  (44, (.ireturn, 1), (0, 0, 0), [])]
def t_X2_firstOfRow : List mT := [
  (0, (.aload_n 0, 1), (0, 0, 0), []),
  (1, (.iload_n 1, 1), (0, 0, 0), []),
  (2, (.iconst 0, 1), (0, 0, 0), []),
  (3, (.invokevirtual 72, 3), (61, 3, 2), []),
  (6, (.istore_n 2, 1), (0, 0, 0), []),
  (7, (.iload_n 2, 1), (0, 0, 0), []),
  (8, (.ifCond .eq 7, 3), (15, 0, 0), []),
  (11, (.iload_n 2, 1), (0, 0, 0), []),
  (12, (.goto 9, 3), (21, 0, 0), []),
  (15, (.aload_n 0, 1), (0, 0, 0), []),
  (16, (.iload_n 1, 1), (0, 0, 0), []),
  (17, (.iconst 1, 1), (0, 0, 0), []),
  (18, (.invokevirtual 72, 3), (61, 3, 2), []),
  (21, (.invokestatic 98, 3), (149, 1, 99), []),
  (24, (.ireturn, 1), (0, 0, 0), [])]
def t_X2_endOf : List mT := [
  (0, (.aload_n 0, 1), (0, 0, 0), []),
  (1, (.getfield 9, 3), (2, 3, 0), []),
  (4, (.iload_n 1, 1), (0, 0, 0), []),
  (5, (.invokestatic 57, 3), (141, 2, 99), []),
  (8, (.istore_n 2, 1), (0, 0, 0), []),
  (9, (.aload_n 0, 1), (0, 0, 0), []),
  (10, (.getfield 15, 3), (2, 4, 0), []),
  (13, (.iload_n 1, 1), (0, 0, 0), []),
  (14, (.invokestatic 57, 3), (141, 2, 99), []),
  (17, (.istore_n 3, 1), (0, 0, 0), []),
  (18, (.aload_n 0, 1), (0, 0, 0), []),
  (19, (.iload_n 2, 1), (0, 0, 0), []),
  (20, (.iload_n 3, 1), (0, 0, 0), []),
  (21, (.invokevirtual 72, 3), (61, 3, 2), []),
  (24, (.iload_n 1, 1), (0, 0, 0), []),
  (25, (.invokestatic 65, 3), (146, 1, 99), []),
  (28, (.iconst 2, 1), (0, 0, 0), []),
  (29, (.imul, 1), (0, 0, 0), []),
  (30, (.iconst 1, 1), (0, 0, 0), []),
  (31, (.isub, 1), (0, 0, 0), []),
  (32, (.iand, 1), (0, 0, 0), []),
  (33, (.istore 4, 2), (0, 0, 0), []),
  (35, (.iload_n 3, 1), (0, 0, 0), []),
  (36, (.iconst 1, 1), (0, 0, 0), []),
  (37, (.if_icmp .ne 14, 3), (51, 0, 0), []),
  (40, (.iload 4, 2), (0, 0, 0), []),
  (42, (.aload_n 0, 1), (0, 0, 0), []),
  (43, (.iload_n 2, 1), (0, 0, 0), []),
  (44, (.iconst 0, 1), (0, 0, 0), []),
  (45, (.invokevirtual 72, 3), (61, 3, 2), []),
  (48, (.ior, 1), (0, 0, 0), []),
  (49, (.istore 4, 2), (0, 0, 0), []),
  (51, (.iconst 0, 1), (0, 0, 0), []),
  (52, (.istore 5, 2), (0, 0, 0), []),
  (54, (.iconst 0, 1), (0, 0, 0), []),
  (55, (.istore 6, 2), (0, 0, 0), []),
  (57, (.iload 6, 2), (0, 0, 0), []),
  (59, (.aload_n 0, 1), (0, 0, 0), []),
  (60, (.getfield 30, 3), (2, 0, 0), []),
  (63, (.if_icmp .ge 32, 3), (95, 0, 0), []),
  (66, (.iload 4, 2), (0, 0, 0), []),
  (68, (.iload 6, 2), (0, 0, 0), []),
  (70, (.invokestatic 94, 3), (148, 2, 99), []),
  (73, (.ifCond .eq 16, 3), (89, 0, 0), []),
  (76, (.iload 5, 2), (0, 0, 0), []),
  (78, (.aload_n 0, 1), (0, 0, 0), []),
  (79, (.iload 6, 2), (0, 0, 0), []),
  (81, (.bipush 8, 2), (0, 0, 0), []),
  (83, (.invokevirtual 101, 3), (57, 3, 2), []),
  (86, (.iadd, 1), (0, 0, 0), []),
  (87, (.istore 5, 2), (0, 0, 0), []),
  (89, (.iinc 6 1, 3), (0, 0, 0), []),
  (92, (.goto (-35), 3), (57, 0, 0), []),
  (95, (.iload 5, 2), (0, 0, 0), []),
  (97, (.ireturn, 1), (0, 0, 0), [])]
def t_X3_readText : List mT := [
  (0, (.aload_n 0, 1), (0, 0, 0), []),
  (1, (.getfield 12, 3), (3, 1, 0), []),
  (4, (.invokevirtual 22, 3), (51, 1, 2), []),
  (7, (.aload_n 0, 1), (0, 0, 0), []),
  (8, (.iload_n 1, 1), (0, 0, 0), []),
  (9, (.aload_n 0, 1), (0, 0, 0), []),
  (10, (.getfield 18, 3), (3, 0, 0), []),
  (13, (.arraylength, 1), (0, 0, 0), []),
  (14, (.invokestatic 25, 3), (277, 2, 99), []),
  (17, (.putfield 31, 3), (3, 2, 0), []),
  (20, (.aload_n 0, 1), (0, 0, 0), []),
  (21, (.iconst 0, 1), (0, 0, 0), []),
  (22, (.putfield 35, 3), (3, 3, 0), []),
  (25, (.aload_n 0, 1), (0, 0, 0), []),
  (26, (.iconst 0, 1), (0, 0, 0), []),
  (27, (.putfield 38, 3), (3, 7, 0), []),
  (30, (.aload_n 0, 1), (0, 0, 0), []),
  (31, (.iconst 0, 1), (0, 0, 0), []),
  (32, (.putfield 41, 3), (3, 8, 0), []),
  (35, (.aload_n 0, 1), (0, 0, 0), []),
  (36, (.iconst 0, 1), (0, 0, 0), []),
  (37, (.putfield 44, 3), (3, 9, 0), []),
  (40, (.aload_n 0, 1), (0, 0, 0), []),
  (41, (.iconst (-1), 1), (0, 0, 0), []),
  (42, (.putfield 47, 3), (3, 10, 0), []),
  (45, (.aload_n 0, 1), (0, 0, 0), []),
  (46, (.iconst (-1), 1), (0, 0, 0), []),
  (47, (.putfield 50, 3), (3, 11, 0), []),
  (50, (.aload_n 0, 1), (0, 0, 0), []),
  (51, (.invokevirtual 53, 3), (71, 1, 3), []),
  (54, (.iconst 0, 1), (0, 0, 0), []),
  (55, (.istore_n 2, 1), (0, 0, 0), []),
  (56, (.iload_n 2, 1), (0, 0, 0), []),
  (57, (.sipush 700, 3), (0, 0, 0), []),
  (60, (.if_icmp .gt 92, 3), (152, 0, 0), []),
  (63, (.aload_n 0, 1), (0, 0, 0), []),
  (64, (.getfield 44, 3), (3, 9, 0), []),
  (67, (.ifCond .ne 85, 3), (152, 0, 0), []),
  (70, (.aload_n 0, 1), (0, 0, 0), []),
  (71, (.getfield 56, 3), (3, 5, 0), []),
  (74, (.ifCond .eq 78, 3), (152, 0, 0), []),
  (77, (.aload_n 0, 1), (0, 0, 0), []),
  (78, (.ldc 59, 2), (0, 0, 0), []),
  (80, (.invokevirtual 61, 3), (75, 2, 3), []),
  (83, (.ifCond .eq 10, 3), (93, 0, 0), []),
  (86, (.aload_n 0, 1), (0, 0, 0), []),
  (87, (.invokevirtual 65, 3), (80, 1, 3), []),
  (90, (.goto 56, 3), (146, 0, 0), []),
  (93, (.aload_n 0, 1), (0, 0, 0), []),
  (94, (.ldc 68, 2), (1, 0, 0), []),
  (96, (.invokevirtual 61, 3), (75, 2, 3), []),
  (99, (.ifCond .eq 10, 3), (109, 0, 0), []),
  (102, (.aload_n 0, 1), (0, 0, 0), []),
  (103, (.invokevirtual 70, 3), (85, 1, 3), []),
  (106, (.goto 40, 3), (146, 0, 0), []),
  (109, (.aload_n 0, 1), (0, 0, 0), []),
  (110, (.ldc 73, 2), (2, 0, 0), []),
  (112, (.invokevirtual 61, 3), (75, 2, 3), []),
  (115, (.ifCond .eq 10, 3), (125, 0, 0), []),
  (118, (.aload_n 0, 1), (0, 0, 0), []),
  (119, (.invokevirtual 75, 3), (86, 1, 3), []),
  (122, (.goto 24, 3), (146, 0, 0), []),
  (125, (.aload_n 0, 1), (0, 0, 0), []),
  (126, (.ldc 78, 2), (3, 0, 0), []),
  (128, (.invokevirtual 61, 3), (75, 2, 3), []),
  (131, (.ifCond .eq 10, 3), (141, 0, 0), []),
  (134, (.aload_n 0, 1), (0, 0, 0), []),
  (135, (.invokevirtual 80, 3), (87, 1, 3), []),
  (138, (.goto 8, 3), (146, 0, 0), []),
  (141, (.aload_n 0, 1), (0, 0, 0), []),
  (142, (.iconst 2, 1), (0, 0, 0), []),
  (143, (.invokevirtual 83, 3), (70, 2, 3), []),
  (146, (.iinc 2 1, 3), (0, 0, 0), []),
  (149, (.goto (-93), 3), (56, 0, 0), []),
  (152, (.return_, 1), (0, 0, 0), [])]
def t_X3_fail : List mT := [
  (0, (.aload_n 0, 1), (0, 0, 0), []),
  (1, (.getfield 44, 3), (3, 9, 0), []),
  (4, (.ifCond .ne 24, 3), (28, 0, 0), []),
  (7, (.aload_n 0, 1), (0, 0, 0), []),
  (8, (.iload_n 1, 1), (0, 0, 0), []),
  (9, (.putfield 44, 3), (3, 9, 0), []),
  (12, (.aload_n 0, 1), (0, 0, 0), []),
  (13, (.aload_n 0, 1), (0, 0, 0), []),
  (14, (.getfield 87, 3), (3, 4, 0), []),
  (17, (.putfield 47, 3), (3, 10, 0), []),
  (20, (.aload_n 0, 1), (0, 0, 0), []),
  (21, (.aload_n 0, 1), (0, 0, 0), []),
  (22, (.getfield 38, 3), (3, 7, 0), []),
  (25, (.putfield 50, 3), (3, 11, 0), []),
  (28, (.return_, 1), (0, 0, 0), [])]
def t_X3_step : List mT := [
  (0, (.aload_n 0, 1), (0, 0, 0), []),
  (1, (.aload_n 0, 1), (0, 0, 0), []),
  (2, (.aload_n 0, 1), (0, 0, 0), []),
  (3, (.getfield 35, 3), (3, 3, 0), []),
  (6, (.iconst 4, 1), (0, 0, 0), []),
  (7, (.invokevirtual 90, 3), (72, 3, 3), []),
  (10, (.putfield 87, 3), (3, 4, 0), []),
  (13, (.aload_n 0, 1), (0, 0, 0), []),
  (14, (.aload_n 0, 1), (0, 0, 0), []),
  (15, (.aload_n 0, 1), (0, 0, 0), []),
  (16, (.getfield 87, 3), (3, 4, 0), []),
  (19, (.invokevirtual 93, 3), (73, 2, 3), []),
  (22, (.putfield 56, 3), (3, 5, 0), []),
  (25, (.aload_n 0, 1), (0, 0, 0), []),
  (26, (.aload_n 0, 1), (0, 0, 0), []),
  (27, (.getfield 56, 3), (3, 5, 0), []),
  (30, (.iconst 1, 1), (0, 0, 0), []),
  (31, (.if_icmp .eq 11, 3), (42, 0, 0), []),
  (34, (.aload_n 0, 1), (0, 0, 0), []),
  (35, (.getfield 56, 3), (3, 5, 0), []),
  (38, (.iconst 2, 1), (0, 0, 0), []),
  (39, (.if_icmp .ne 18, 3), (57, 0, 0), []),
  (42, (.aload_n 0, 1), (0, 0, 0), []),
  (43, (.aload_n 0, 1), (0, 0, 0), []),
  (44, (.getfield 87, 3), (3, 4, 0), []),
  (47, (.aload_n 0, 1), (0, 0, 0), []),
  (48, (.getfield 56, 3), (3, 5, 0), []),
  (51, (.invokevirtual 90, 3), (72, 3, 3), []),
  (54, (.goto 9, 3), (63, 0, 0), []),
  (57, (.aload_n 0, 1), (0, 0, 0), []),
  (58, (.getfield 87, 3), (3, 4, 0), []),
  (61, (.iconst 1, 1), (0, 0, 0), []),
  (62, (.iadd, 1), (0, 0, 0), []),
  (63, (.putfield 35, 3), (3, 3, 0), []),
  (66, (.aload_n 0, 1), (0, 0, 0), []),
  (67, (.getfield 56, 3), (3, 5, 0), []),
  (70, (.iconst 5, 1), (0, 0, 0), []),
  (71, (.if_icmp .eq 24, 3), (95, 0, 0), []),
  (74, (.aload_n 0, 1), (0, 0, 0), []),
  (75, (.getfield 56, 3), (3, 5, 0), []),
  (78, (.iconst 2, 1), (0, 0, 0), []),
  (79, (.if_icmp .ne 21, 3), (100, 0, 0), []),
  (82, (.aload_n 0, 1), (0, 0, 0), []),
  (83, (.getfield 35, 3), (3, 3, 0), []),
  (86, (.aload_n 0, 1), (0, 0, 0), []),
  (87, (.getfield 87, 3), (3, 4, 0), []),
  (90, (.isub, 1), (0, 0, 0), []),
  (91, (.iconst 3, 1), (0, 0, 0), []),
  (92, (.if_icmp .le 8, 3), (100, 0, 0), []),
  (95, (.aload_n 0, 1), (0, 0, 0), []),
  (96, (.iconst 1, 1), (0, 0, 0), []),
  (97, (.invokevirtual 83, 3), (70, 2, 3), []),
  (100, (.aload_n 0, 1), (0, 0, 0), []),
  (101, (.iconst 0, 1), (0, 0, 0), []),
  (102, (.putfield 97, 3), (3, 6, 0), []),
  (105, (.aload_n 0, 1), (0, 0, 0), []),
  (106, (.getfield 87, 3), (3, 4, 0), []),
  (109, (.istore_n 1, 1), (0, 0, 0), []),
  (110, (.aload_n 0, 1), (0, 0, 0), []),
  (111, (.getfield 56, 3), (3, 5, 0), []),
  (114, (.iconst 2, 1), (0, 0, 0), []),
  (115, (.if_icmp .ne 47, 3), (162, 0, 0), []),
  (118, (.iload_n 1, 1), (0, 0, 0), []),
  (119, (.aload_n 0, 1), (0, 0, 0), []),
  (120, (.getfield 35, 3), (3, 3, 0), []),
  (123, (.if_icmp .ge 39, 3), (162, 0, 0), []),
  (126, (.iload_n 1, 1), (0, 0, 0), []),
  (127, (.aload_n 0, 1), (0, 0, 0), []),
  (128, (.getfield 87, 3), (3, 4, 0), []),
  (131, (.iconst 3, 1), (0, 0, 0), []),
  (132, (.iadd, 1), (0, 0, 0), []),
  (133, (.if_icmp .ge 29, 3), (162, 0, 0), []),
  (136, (.aload_n 0, 1), (0, 0, 0), []),
  (137, (.aload_n 0, 1), (0, 0, 0), []),
  (138, (.getfield 97, 3), (3, 6, 0), []),
  (141, (.bipush 10, 2), (0, 0, 0), []),
  (143, (.imul, 1), (0, 0, 0), []),
  (144, (.aload_n 0, 1), (0, 0, 0), []),
  (145, (.iload_n 1, 1), (0, 0, 0), []),
  (146, (.invokevirtual 100, 3), (74, 2, 3), []),
  (149, (.iadd, 1), (0, 0, 0), []),
  (150, (.bipush 48, 2), (0, 0, 0), []),
  (152, (.isub, 1), (0, 0, 0), []),
  (153, (.putfield 97, 3), (3, 6, 0), []),
  (156, (.iinc 1 1, 3), (0, 0, 0), []),
  (159, (.goto (-49), 3), (110, 0, 0), []),
  (162, (.return_, 1), (0, 0, 0), [])]
def t_X3_behind : List mT := [
  (0, (.iload_n 1, 1), (0, 0, 0), []),
  (1, (.istore_n 3, 1), (0, 0, 0), []),
  (2, (.iload_n 3, 1), (0, 0, 0), []),
  (3, (.aload_n 0, 1), (0, 0, 0), []),
  (4, (.getfield 31, 3), (3, 2, 0), []),
  (7, (.if_icmp .ge 18, 3), (25, 0, 0), []),
  (10, (.aload_n 0, 1), (0, 0, 0), []),
  (11, (.iload_n 3, 1), (0, 0, 0), []),
  (12, (.invokevirtual 93, 3), (73, 2, 3), []),
  (15, (.iload_n 2, 1), (0, 0, 0), []),
  (16, (.if_icmp .ne 9, 3), (25, 0, 0), []),
  (19, (.iinc 3 1, 3), (0, 0, 0), []),
  (22, (.goto (-20), 3), (2, 0, 0), []),
  (25, (.iload_n 3, 1), (0, 0, 0), []),
  (26, (.ireturn, 1), (0, 0, 0), [])]
def t_X3_kindAt : List mT := [
  (0, (.iload_n 1, 1), (0, 0, 0), []),
  (1, (.ifCond .lt 20, 3), (21, 0, 0), []),
  (4, (.iload_n 1, 1), (0, 0, 0), []),
  (5, (.aload_n 0, 1), (0, 0, 0), []),
  (6, (.getfield 31, 3), (3, 2, 0), []),
  (9, (.if_icmp .ge 12, 3), (21, 0, 0), []),
  (12, (.iload_n 1, 1), (0, 0, 0), []),
  (13, (.aload_n 0, 1), (0, 0, 0), []),
  (14, (.getfield 18, 3), (3, 0, 0), []),
  (17, (.arraylength, 1), (0, 0, 0), []),
  (18, (.if_icmp .lt 5, 3), (23, 0, 0), []),
  (21, (.iconst 0, 1), (0, 0, 0), []),
  (22, (.ireturn, 1), (0, 0, 0), []),
  (23, (.aload_n 0, 1), (0, 0, 0), []),
  (24, (.getfield 18, 3), (3, 0, 0), []),
  (27, (.iload_n 1, 1), (0, 0, 0), []),
  (28, (.baload, 1), (0, 0, 0), []),
  (29, (.istore_n 2, 1), (0, 0, 0), []),
  (30, (.iload_n 2, 1), (0, 0, 0), []),
  (31, (.bipush 97, 2), (0, 0, 0), []),
  (33, (.if_icmp .lt 11, 3), (44, 0, 0), []),
  (36, (.iload_n 2, 1), (0, 0, 0), []),
  (37, (.bipush 122, 2), (0, 0, 0), []),
  (39, (.if_icmp .gt 5, 3), (44, 0, 0), []),
  (42, (.iconst 1, 1), (0, 0, 0), []),
  (43, (.ireturn, 1), (0, 0, 0), []),
  (44, (.iload_n 2, 1), (0, 0, 0), []),
  (45, (.bipush 48, 2), (0, 0, 0), []),
  (47, (.if_icmp .lt 11, 3), (58, 0, 0), []),
  (50, (.iload_n 2, 1), (0, 0, 0), []),
  (51, (.bipush 57, 2), (0, 0, 0), []),
  (53, (.if_icmp .gt 5, 3), (58, 0, 0), []),
  (56, (.iconst 2, 1), (0, 0, 0), []),
  (57, (.ireturn, 1), (0, 0, 0), []),
  (58, (.iload_n 2, 1), (0, 0, 0), []),
  (59, (.bipush 10, 2), (0, 0, 0), []),
  (61, (.if_icmp .eq 9, 3), (70, 0, 0), []),
  (64, (.iload_n 2, 1), (0, 0, 0), []),
  (65, (.bipush 32, 2), (0, 0, 0), []),
  (67, (.if_icmp .ne 5, 3), (72, 0, 0), []),
  (70, (.iconst 4, 1), (0, 0, 0), []),
  (71, (.ireturn, 1), (0, 0, 0), []),
  (72, (.iload_n 2, 1), (0, 0, 0), []),
  (73, (.bipush 59, 2), (0, 0, 0), []),
  (75, (.if_icmp .ne 7, 3), (82, 0, 0), []),
  (78, (.iconst 3, 1), (0, 0, 0), []),
  (79, (.goto 4, 3), (83, 0, 0), []),
  (82, (.iconst 5, 1), (0, 0, 0), []),
  (83, (.ireturn, 1), (0, 0, 0), [])]
def t_X3_signAt : List mT := [
  (0, (.iload_n 1, 1), (0, 0, 0), []),
  (1, (.ifCond .lt 21, 3), (22, 0, 0), []),
  (4, (.iload_n 1, 1), (0, 0, 0), []),
  (5, (.aload_n 0, 1), (0, 0, 0), []),
  (6, (.getfield 18, 3), (3, 0, 0), []),
  (9, (.arraylength, 1), (0, 0, 0), []),
  (10, (.if_icmp .ge 12, 3), (22, 0, 0), []),
  (13, (.aload_n 0, 1), (0, 0, 0), []),
  (14, (.getfield 18, 3), (3, 0, 0), []),
  (17, (.iload_n 1, 1), (0, 0, 0), []),
  (18, (.baload, 1), (0, 0, 0), []),
  (19, (.goto 4, 3), (23, 0, 0), []),
  (22, (.iconst (-1), 1), (0, 0, 0), []),
  (23, (.ireturn, 1), (0, 0, 0), [])]
def t_X3_isWord : List mT := [
  (0, (.aload_n 0, 1), (0, 0, 0), []),
  (1, (.getfield 56, 3), (3, 5, 0), []),
  (4, (.iconst 1, 1), (0, 0, 0), []),
  (5, (.if_icmp .ne 19, 3), (24, 0, 0), []),
  (8, (.aload_n 0, 1), (0, 0, 0), []),
  (9, (.getfield 35, 3), (3, 3, 0), []),
  (12, (.aload_n 0, 1), (0, 0, 0), []),
  (13, (.getfield 87, 3), (3, 4, 0), []),
  (16, (.isub, 1), (0, 0, 0), []),
  (17, (.aload_n 1, 1), (0, 0, 0), []),
  (18, (.invokevirtual 103, 3), (278, 1, 7), []),
  (21, (.if_icmp .eq 5, 3), (26, 0, 0), []),
  (24, (.iconst 0, 1), (0, 0, 0), []),
  (25, (.ireturn, 1), (0, 0, 0), []),
  (26, (.iconst 0, 1), (0, 0, 0), []),
  (27, (.istore_n 2, 1), (0, 0, 0), []),
  (28, (.iload_n 2, 1), (0, 0, 0), []),
  (29, (.aload_n 1, 1), (0, 0, 0), []),
  (30, (.invokevirtual 103, 3), (278, 1, 7), []),
  (33, (.if_icmp .ge 29, 3), (62, 0, 0), []),
  (36, (.aload_n 0, 1), (0, 0, 0), []),
  (37, (.aload_n 0, 1), (0, 0, 0), []),
  (38, (.getfield 87, 3), (3, 4, 0), []),
  (41, (.iload_n 2, 1), (0, 0, 0), []),
  (42, (.iadd, 1), (0, 0, 0), []),
  (43, (.invokevirtual 100, 3), (74, 2, 3), []),
  (46, (.aload_n 1, 1), (0, 0, 0), []),
  (47, (.iload_n 2, 1), (0, 0, 0), []),
  (48, (.invokevirtual 109, 3), (279, 2, 7), []),
  (51, (.if_icmp .eq 5, 3), (56, 0, 0), []),
  (54, (.iconst 0, 1), (0, 0, 0), []),
  (55, (.ireturn, 1), (0, 0, 0), []),
  (56, (.iinc 2 1, 3), (0, 0, 0), []),
  (59, (.goto (-31), 3), (28, 0, 0), []),
  (62, (.iconst 1, 1), (0, 0, 0), []),
  (63, (.ireturn, 1), (0, 0, 0), [])]
def t_X3_endLine : List mT := [
  (0, (.aload_n 0, 1), (0, 0, 0), []),
  (1, (.getfield 44, 3), (3, 9, 0), []),
  (4, (.ifCond .eq 4, 3), (8, 0, 0), []),
  (7, (.return_, 1), (0, 0, 0), []),
  (8, (.aload_n 0, 1), (0, 0, 0), []),
  (9, (.getfield 56, 3), (3, 5, 0), []),
  (12, (.iconst 3, 1), (0, 0, 0), []),
  (13, (.if_icmp .eq 9, 3), (22, 0, 0), []),
  (16, (.aload_n 0, 1), (0, 0, 0), []),
  (17, (.iconst 2, 1), (0, 0, 0), []),
  (18, (.invokevirtual 83, 3), (70, 2, 3), []),
  (21, (.return_, 1), (0, 0, 0), []),
  (22, (.aload_n 0, 1), (0, 0, 0), []),
  (23, (.dup, 1), (0, 0, 0), []),
  (24, (.getfield 38, 3), (3, 7, 0), []),
  (27, (.iconst 1, 1), (0, 0, 0), []),
  (28, (.iadd, 1), (0, 0, 0), []),
  (29, (.putfield 38, 3), (3, 7, 0), []),
  (32, (.aload_n 0, 1), (0, 0, 0), []),
  (33, (.invokevirtual 53, 3), (71, 1, 3), []),
  (36, (.return_, 1), (0, 0, 0), [])]
def t_X3_takeWord : List mT := [
  (0, (.aload_n 0, 1), (0, 0, 0), []),
  (1, (.getfield 44, 3), (3, 9, 0), []),
  (4, (.ifCond .eq 4, 3), (8, 0, 0), []),
  (7, (.return_, 1), (0, 0, 0), []),
  (8, (.aload_n 0, 1), (0, 0, 0), []),
  (9, (.aload_n 1, 1), (0, 0, 0), []),
  (10, (.invokevirtual 61, 3), (75, 2, 3), []),
  (13, (.ifCond .ne 9, 3), (22, 0, 0), []),
  (16, (.aload_n 0, 1), (0, 0, 0), []),
  (17, (.iconst 2, 1), (0, 0, 0), []),
  (18, (.invokevirtual 83, 3), (70, 2, 3), []),
  (21, (.return_, 1), (0, 0, 0), []),
  (22, (.aload_n 0, 1), (0, 0, 0), []),
  (23, (.invokevirtual 53, 3), (71, 1, 3), []),
  (26, (.return_, 1), (0, 0, 0), [])]
def t_X3_takeNumber : List mT := [
  (0, (.aload_n 0, 1), (0, 0, 0), []),
  (1, (.getfield 44, 3), (3, 9, 0), []),
  (4, (.ifCond .eq 5, 3), (9, 0, 0), []),
  (7, (.iconst 0, 1), (0, 0, 0), []),
  (8, (.ireturn, 1), (0, 0, 0), []),
  (9, (.aload_n 0, 1), (0, 0, 0), []),
  (10, (.getfield 56, 3), (3, 5, 0), []),
  (13, (.iconst 2, 1), (0, 0, 0), []),
  (14, (.if_icmp .eq 10, 3), (24, 0, 0), []),
  (17, (.aload_n 0, 1), (0, 0, 0), []),
  (18, (.iconst 2, 1), (0, 0, 0), []),
  (19, (.invokevirtual 83, 3), (70, 2, 3), []),
  (22, (.iconst 0, 1), (0, 0, 0), []),
  (23, (.ireturn, 1), (0, 0, 0), []),
  (24, (.aload_n 0, 1), (0, 0, 0), []),
  (25, (.getfield 97, 3), (3, 6, 0), []),
  (28, (.istore_n 3, 1), (0, 0, 0), []),
  (29, (.iload_n 3, 1), (0, 0, 0), []),
  (30, (.iload_n 1, 1), (0, 0, 0), []),
  (31, (.if_icmp .lt 8, 3), (39, 0, 0), []),
  (34, (.iload_n 3, 1), (0, 0, 0), []),
  (35, (.iload_n 2, 1), (0, 0, 0), []),
  (36, (.if_icmp .le 10, 3), (46, 0, 0), []),
  (39, (.aload_n 0, 1), (0, 0, 0), []),
  (40, (.iconst 4, 1), (0, 0, 0), []),
  (41, (.invokevirtual 83, 3), (70, 2, 3), []),
  (44, (.iconst 0, 1), (0, 0, 0), []),
  (45, (.ireturn, 1), (0, 0, 0), []),
  (46, (.aload_n 0, 1), (0, 0, 0), []),
  (47, (.invokevirtual 53, 3), (71, 1, 3), []),
  (50, (.iload_n 3, 1), (0, 0, 0), []),
  (51, (.ireturn, 1), (0, 0, 0), [])]
def t_X3_takeSet : List mT := [
  (0, (.aload_n 0, 1), (0, 0, 0), []),
  (1, (.getfield 44, 3), (3, 9, 0), []),
  (4, (.ifCond .ne 52, 3), (56, 0, 0), []),
  (7, (.aload_n 0, 1), (0, 0, 0), []),
  (8, (.getfield 56, 3), (3, 5, 0), []),
  (11, (.iconst 2, 1), (0, 0, 0), []),
  (12, (.if_icmp .ne 44, 3), (56, 0, 0), []),
  (15, (.aload_n 0, 1), (0, 0, 0), []),
  (16, (.getfield 12, 3), (3, 1, 0), []),
  (19, (.aload_n 0, 1), (0, 0, 0), []),
  (20, (.getfield 97, 3), (3, 6, 0), []),
  (23, (.invokevirtual 113, 3), (56, 2, 2), []),
  (26, (.ifCond .ne 11, 3), (37, 0, 0), []),
  (29, (.aload_n 0, 1), (0, 0, 0), []),
  (30, (.iconst 3, 1), (0, 0, 0), []),
  (31, (.invokevirtual 83, 3), (70, 2, 3), []),
  (34, (.goto 22, 3), (56, 0, 0), []),
  (37, (.aload_n 0, 1), (0, 0, 0), []),
  (38, (.getfield 12, 3), (3, 1, 0), []),
  (41, (.aload_n 0, 1), (0, 0, 0), []),
  (42, (.getfield 97, 3), (3, 6, 0), []),
  (45, (.invokevirtual 117, 3), (64, 2, 2), []),
  (48, (.ifCond .eq 8, 3), (56, 0, 0), []),
  (51, (.aload_n 0, 1), (0, 0, 0), []),
  (52, (.iconst 4, 1), (0, 0, 0), []),
  (53, (.invokevirtual 83, 3), (70, 2, 3), []),
  (56, (.aload_n 0, 1), (0, 0, 0), []),
  (57, (.iconst 0, 1), (0, 0, 0), []),
  (58, (.sipush 255, 3), (0, 0, 0), []),
  (61, (.invokevirtual 120, 3), (78, 3, 3), []),
  (64, (.ireturn, 1), (0, 0, 0), [])]
def t_X3_readPhase : List mT := [
  (0, (.aload_n 0, 1), (0, 0, 0), []),
  (1, (.getfield 12, 3), (3, 1, 0), []),
  (4, (.getfield 123, 3), (2, 0, 0), []),
  (7, (.bipush 8, 2), (0, 0, 0), []),
  (9, (.if_icmp .lt 10, 3), (19, 0, 0), []),
  (12, (.aload_n 0, 1), (0, 0, 0), []),
  (13, (.bipush 6, 2), (0, 0, 0), []),
  (15, (.invokevirtual 83, 3), (70, 2, 3), []),
  (18, (.return_, 1), (0, 0, 0), []),
  (19, (.aload_n 0, 1), (0, 0, 0), []),
  (20, (.invokevirtual 53, 3), (71, 1, 3), []),
  (23, (.aload_n 0, 1), (0, 0, 0), []),
  (24, (.iconst 0, 1), (0, 0, 0), []),
  (25, (.iconst 1, 1), (0, 0, 0), []),
  (26, (.invokevirtual 120, 3), (78, 3, 3), []),
  (29, (.istore_n 1, 1), (0, 0, 0), []),
  (30, (.aload_n 0, 1), (0, 0, 0), []),
  (31, (.iconst 0, 1), (0, 0, 0), []),
  (32, (.iconst 1, 1), (0, 0, 0), []),
  (33, (.invokevirtual 120, 3), (78, 3, 3), []),
  (36, (.istore_n 2, 1), (0, 0, 0), []),
  (37, (.aload_n 0, 1), (0, 0, 0), []),
  (38, (.getfield 44, 3), (3, 9, 0), []),
  (41, (.ifCond .ne 25, 3), (66, 0, 0), []),
  (44, (.aload_n 0, 1), (0, 0, 0), []),
  (45, (.getfield 12, 3), (3, 1, 0), []),
  (48, (.iload_n 1, 1), (0, 0, 0), []),
  (49, (.iload_n 2, 1), (0, 0, 0), []),
  (50, (.invokevirtual 126, 3), (53, 3, 2), []),
  (53, (.aload_n 0, 1), (0, 0, 0), []),
  (54, (.aload_n 0, 1), (0, 0, 0), []),
  (55, (.getfield 12, 3), (3, 1, 0), []),
  (58, (.getfield 123, 3), (2, 0, 0), []),
  (61, (.iconst 1, 1), (0, 0, 0), []),
  (62, (.isub, 1), (0, 0, 0), []),
  (63, (.invokevirtual 130, 3), (81, 2, 3), []),
  (66, (.aload_n 0, 1), (0, 0, 0), []),
  (67, (.invokevirtual 133, 3), (76, 1, 3), []),
  (70, (.return_, 1), (0, 0, 0), [])]
def t_X3_readMarks : List mT := [
  (0, (.iconst 0, 1), (0, 0, 0), []),
  (1, (.istore_n 2, 1), (0, 0, 0), []),
  (2, (.iconst 0, 1), (0, 0, 0), []),
  (3, (.istore_n 3, 1), (0, 0, 0), []),
  (4, (.iload_n 3, 1), (0, 1, 4), []),
  (5, (.bipush 10, 2), (0, 0, 0), []),
  (7, (.if_icmp .gt 102, 3), (109, 0, 0), []),
  (10, (.aload_n 0, 1), (0, 0, 0), []),
  (11, (.getfield 44, 3), (3, 9, 0), []),
  (14, (.ifCond .ne 95, 3), (109, 0, 0), []),
  (17, (.aload_n 0, 1), (0, 0, 0), []),
  (18, (.getfield 56, 3), (3, 5, 0), []),
  (21, (.iconst 1, 1), (0, 0, 0), []),
  (22, (.if_icmp .ne 87, 3), (109, 0, 0), []),
  (25, (.aload_n 0, 1), (0, 0, 0), []),
  (26, (.invokevirtual 136, 3), (82, 1, 3), []),
  (29, (.istore 4, 2), (0, 0, 0), []),
  (31, (.iload 4, 2), (0, 0, 0), []),
  (33, (.iconst (-1), 1), (0, 0, 0), []),
  (34, (.if_icmp .ne 11, 3), (45, 0, 0), []),
  (37, (.aload_n 0, 1), (0, 0, 0), []),
  (38, (.iconst 2, 1), (0, 0, 0), []),
  (39, (.invokevirtual 83, 3), (70, 2, 3), []),
  (42, (.goto 61, 3), (103, 0, 0), []),
  (45, (.iload_n 2, 1), (0, 0, 0), []),
  (46, (.iload 4, 2), (0, 0, 0), []),
  (48, (.ishr, 1), (0, 0, 0), []),
  (49, (.iconst 1, 1), (0, 0, 0), []),
  (50, (.iand, 1), (0, 0, 0), []),
  (51, (.ifCond .eq 11, 3), (62, 0, 0), []),
  (54, (.aload_n 0, 1), (0, 0, 0), []),
  (55, (.iconst 5, 1), (0, 0, 0), []),
  (56, (.invokevirtual 83, 3), (70, 2, 3), []),
  (59, (.goto 44, 3), (103, 0, 0), []),
  (62, (.iload_n 2, 1), (0, 0, 0), []),
  (63, (.iconst 1, 1), (0, 0, 0), []),
  (64, (.iload 4, 2), (0, 0, 0), []),
  (66, (.ishl, 1), (0, 0, 0), []),
  (67, (.ior, 1), (0, 0, 0), []),
  (68, (.istore_n 2, 1), (0, 0, 0), []),
  (69, (.aload_n 0, 1), (0, 0, 0), []),
  (70, (.invokevirtual 53, 3), (71, 1, 3), []),
  (73, (.aload_n 0, 1), (0, 0, 0), []),
  (74, (.getfield 12, 3), (3, 1, 0), []),
  (77, (.iload_n 1, 1), (0, 0, 0), []),
  (78, (.iload 4, 2), (0, 0, 0), []),
  (80, (.aload_n 0, 1), (0, 0, 0), []),
  (81, (.getstatic 139, 3), (0, 27, 0), []),
  (84, (.iload 4, 2), (0, 0, 0), []),
  (86, (.invokestatic 143, 3), (141, 2, 99), []),
  (89, (.getstatic 147, 3), (0, 28, 0), []),
  (92, (.iload 4, 2), (0, 0, 0), []),
  (94, (.invokestatic 143, 3), (141, 2, 99), []),
  (97, (.invokevirtual 120, 3), (78, 3, 3), []),
  (100, (.invokevirtual 150, 3), (58, 4, 2), []),
  (103, (.iinc 3 1, 3), (0, 0, 0), []),
  (106, (.goto (-102), 3), (4, 0, 0), []),
  (109, (.return_, 1), (0, 0, 0), [])]
def t_X3_markHere : List mT := [
  (0, (.iconst 0, 1), (0, 0, 0), []),
  (1, (.istore_n 1, 1), (0, 0, 0), []),
  (2, (.iload_n 1, 1), (0, 0, 0), []),
  (3, (.bipush 10, 2), (0, 0, 0), []),
  (5, (.if_icmp .ge 22, 3), (27, 0, 0), []),
  (8, (.aload_n 0, 1), (0, 0, 0), []),
  (9, (.iload_n 1, 1), (0, 0, 0), []),
  (10, (.invokestatic 154, 3), (83, 1, 99), []),
  (13, (.invokevirtual 61, 3), (75, 2, 3), []),
  (16, (.ifCond .eq 5, 3), (21, 0, 0), []),
  (19, (.iload_n 1, 1), (0, 0, 0), []),
  (20, (.ireturn, 1), (0, 0, 0), []),
  (21, (.iinc 1 1, 3), (0, 0, 0), []),
  (24, (.goto (-22), 3), (2, 0, 0), []),
  (27, (.iconst (-1), 1), (0, 0, 0), []),
  (28, (.ireturn, 1), (0, 0, 0), [])]
def t_X3_wordOf : List mT := [
  (0, (.iload_n 0, 1), (0, 0, 0), []),
  (1, (.tableswitch 78 0 8 #[51, 54, 57, 60, 63, 66, 69, 72, 75], 51), (79, 0, 0), [(0, 52), (1, 55), (2, 58), (3, 61), (4, 64), (5, 67), (6, 70), (7, 73), (8, 76)]),
  (52, (.ldc 158, 2), (7, 0, 0), []),
  (54, (.areturn, 1), (0, 0, 0), []),
  (55, (.ldc 159, 2), (8, 0, 0), []),
  (57, (.areturn, 1), (0, 0, 0), []),
  (58, (.ldc 161, 2), (9, 0, 0), []),
  (60, (.areturn, 1), (0, 0, 0), []),
  (61, (.ldc 163, 2), (10, 0, 0), []),
  (63, (.areturn, 1), (0, 0, 0), []),
  (64, (.ldc 165, 2), (11, 0, 0), []),
  (66, (.areturn, 1), (0, 0, 0), []),
  (67, (.ldc 167, 2), (12, 0, 0), []),
  (69, (.areturn, 1), (0, 0, 0), []),
  (70, (.ldc 169, 2), (13, 0, 0), []),
  (72, (.areturn, 1), (0, 0, 0), []),
  (73, (.ldc 171, 2), (14, 0, 0), []),
  (75, (.areturn, 1), (0, 0, 0), []),
  (76, (.ldc 173, 2), (15, 0, 0), []),
  (78, (.areturn, 1), (0, 0, 0), []),
  (79, (.ldc 175, 2), (16, 0, 0), []),
  (81, (.areturn, 1), (0, 0, 0), [])]
def t_X3_tellOnce : List mT := [
  (0, (.aload_n 0, 1), (0, 0, 0), []),
  (1, (.getfield 44, 3), (3, 9, 0), []),
  (4, (.ifCond .ne 17, 3), (21, 0, 0), []),
  (7, (.aload_n 0, 1), (0, 0, 0), []),
  (8, (.getfield 41, 3), (3, 8, 0), []),
  (11, (.iload_n 1, 1), (0, 0, 0), []),
  (12, (.iand, 1), (0, 0, 0), []),
  (13, (.ifCond .eq 8, 3), (21, 0, 0), []),
  (16, (.aload_n 0, 1), (0, 0, 0), []),
  (17, (.iconst 5, 1), (0, 0, 0), []),
  (18, (.invokevirtual 83, 3), (70, 2, 3), []),
  (21, (.aload_n 0, 1), (0, 0, 0), []),
  (22, (.dup, 1), (0, 0, 0), []),
  (23, (.getfield 41, 3), (3, 8, 0), []),
  (26, (.iload_n 1, 1), (0, 0, 0), []),
  (27, (.ior, 1), (0, 0, 0), []),
  (28, (.putfield 41, 3), (3, 8, 0), []),
  (31, (.return_, 1), (0, 0, 0), [])]
def t_X3_readCycle : List mT := [
  (0, (.aload_n 0, 1), (0, 0, 0), []),
  (1, (.iconst 4, 1), (0, 0, 0), []),
  (2, (.invokevirtual 177, 3), (84, 2, 3), []),
  (5, (.aload_n 0, 1), (0, 0, 0), []),
  (6, (.ldc 68, 2), (1, 0, 0), []),
  (8, (.invokevirtual 180, 3), (77, 2, 3), []),
  (11, (.aload_n 0, 1), (0, 0, 0), []),
  (12, (.getfield 44, 3), (3, 9, 0), []),
  (15, (.ifCond .ne 26, 3), (41, 0, 0), []),
  (18, (.aload_n 0, 1), (0, 0, 0), []),
  (19, (.getfield 56, 3), (3, 5, 0), []),
  (22, (.iconst 2, 1), (0, 0, 0), []),
  (23, (.if_icmp .ne 18, 3), (41, 0, 0), []),
  (26, (.aload_n 0, 1), (0, 0, 0), []),
  (27, (.getfield 97, 3), (3, 6, 0), []),
  (30, (.invokestatic 184, 3), (138, 1, 99), []),
  (33, (.ifCond .ne 8, 3), (41, 0, 0), []),
  (36, (.aload_n 0, 1), (0, 0, 0), []),
  (37, (.iconst 4, 1), (0, 0, 0), []),
  (38, (.invokevirtual 83, 3), (70, 2, 3), []),
  (41, (.aload_n 0, 1), (0, 0, 0), []),
  (42, (.getfield 12, 3), (3, 1, 0), []),
  (45, (.aload_n 0, 1), (0, 0, 0), []),
  (46, (.iconst 0, 1), (0, 0, 0), []),
  (47, (.sipush 240, 3), (0, 0, 0), []),
  (50, (.invokevirtual 120, 3), (78, 3, 3), []),
  (53, (.putfield 187, 3), (2, 1, 0), []),
  (56, (.aload_n 0, 1), (0, 0, 0), []),
  (57, (.invokevirtual 133, 3), (76, 1, 3), []),
  (60, (.return_, 1), (0, 0, 0), [])]
def t_X3_readOffset : List mT := [
  (0, (.aload_n 0, 1), (0, 0, 0), []),
  (1, (.bipush 8, 2), (0, 0, 0), []),
  (3, (.invokevirtual 177, 3), (84, 2, 3), []),
  (6, (.aload_n 0, 1), (0, 0, 0), []),
  (7, (.ldc 73, 2), (2, 0, 0), []),
  (9, (.invokevirtual 180, 3), (77, 2, 3), []),
  (12, (.aload_n 0, 1), (0, 0, 0), []),
  (13, (.getfield 12, 3), (3, 1, 0), []),
  (16, (.aload_n 0, 1), (0, 0, 0), []),
  (17, (.iconst 0, 1), (0, 0, 0), []),
  (18, (.sipush 239, 3), (0, 0, 0), []),
  (21, (.invokevirtual 120, 3), (78, 3, 3), []),
  (24, (.putfield 189, 3), (2, 2, 0), []),
  (27, (.aload_n 0, 1), (0, 0, 0), []),
  (28, (.invokevirtual 133, 3), (76, 1, 3), []),
  (31, (.return_, 1), (0, 0, 0), [])]
def t_X3_readBreak : List mT := [
  (0, (.aload_n 0, 1), (0, 0, 0), []),
  (1, (.invokevirtual 53, 3), (71, 1, 3), []),
  (4, (.aload_n 0, 1), (0, 0, 0), []),
  (5, (.getfield 44, 3), (3, 9, 0), []),
  (8, (.ifCond .ne 32, 3), (40, 0, 0), []),
  (11, (.aload_n 0, 1), (0, 0, 0), []),
  (12, (.getfield 56, 3), (3, 5, 0), []),
  (15, (.iconst 2, 1), (0, 0, 0), []),
  (16, (.if_icmp .ne 24, 3), (40, 0, 0), []),
  (19, (.aload_n 0, 1), (0, 0, 0), []),
  (20, (.getfield 97, 3), (3, 6, 0), []),
  (23, (.invokestatic 191, 3), (137, 1, 99), []),
  (26, (.ifCond .eq 14, 3), (40, 0, 0), []),
  (29, (.aload_n 0, 1), (0, 0, 0), []),
  (30, (.aload_n 0, 1), (0, 0, 0), []),
  (31, (.getfield 97, 3), (3, 6, 0), []),
  (34, (.invokestatic 194, 3), (146, 1, 99), []),
  (37, (.invokevirtual 177, 3), (84, 2, 3), []),
  (40, (.aload_n 0, 1), (0, 0, 0), []),
  (41, (.iconst 0, 1), (0, 0, 0), []),
  (42, (.iconst 1, 1), (0, 0, 0), []),
  (43, (.invokevirtual 120, 3), (78, 3, 3), []),
  (46, (.istore_n 1, 1), (0, 0, 0), []),
  (47, (.aload_n 0, 1), (0, 0, 0), []),
  (48, (.ldc 197, 2), (4, 0, 0), []),
  (50, (.invokevirtual 180, 3), (77, 2, 3), []),
  (53, (.aload_n 0, 1), (0, 0, 0), []),
  (54, (.getfield 12, 3), (3, 1, 0), []),
  (57, (.iload_n 1, 1), (0, 0, 0), []),
  (58, (.iconst 0, 1), (0, 0, 0), []),
  (59, (.aload_n 0, 1), (0, 0, 0), []),
  (60, (.invokevirtual 199, 3), (79, 1, 3), []),
  (63, (.invokevirtual 202, 3), (60, 4, 2), []),
  (66, (.aload_n 0, 1), (0, 0, 0), []),
  (67, (.getfield 12, 3), (3, 1, 0), []),
  (70, (.iload_n 1, 1), (0, 0, 0), []),
  (71, (.iconst 1, 1), (0, 0, 0), []),
  (72, (.aload_n 0, 1), (0, 0, 0), []),
  (73, (.iconst 0, 1), (0, 0, 0), []),
  (74, (.bipush 30, 2), (0, 0, 0), []),
  (76, (.invokevirtual 120, 3), (78, 3, 3), []),
  (79, (.invokevirtual 202, 3), (60, 4, 2), []),
  (82, (.aload_n 0, 1), (0, 0, 0), []),
  (83, (.ldc 205, 2), (5, 0, 0), []),
  (85, (.invokevirtual 180, 3), (77, 2, 3), []),
  (88, (.aload_n 0, 1), (0, 0, 0), []),
  (89, (.getfield 12, 3), (3, 1, 0), []),
  (92, (.iload_n 1, 1), (0, 0, 0), []),
  (93, (.iconst 2, 1), (0, 0, 0), []),
  (94, (.aload_n 0, 1), (0, 0, 0), []),
  (95, (.invokevirtual 199, 3), (79, 1, 3), []),
  (98, (.invokevirtual 202, 3), (60, 4, 2), []),
  (101, (.aload_n 0, 1), (0, 0, 0), []),
  (102, (.getfield 12, 3), (3, 1, 0), []),
  (105, (.iload_n 1, 1), (0, 0, 0), []),
  (106, (.iconst 3, 1), (0, 0, 0), []),
  (107, (.aload_n 0, 1), (0, 0, 0), []),
  (108, (.iconst 0, 1), (0, 0, 0), []),
  (109, (.bipush 30, 2), (0, 0, 0), []),
  (111, (.invokevirtual 120, 3), (78, 3, 3), []),
  (114, (.invokevirtual 202, 3), (60, 4, 2), []),
  (117, (.aload_n 0, 1), (0, 0, 0), []),
  (118, (.ldc 207, 2), (6, 0, 0), []),
  (120, (.invokevirtual 180, 3), (77, 2, 3), []),
  (123, (.aload_n 0, 1), (0, 0, 0), []),
  (124, (.getfield 12, 3), (3, 1, 0), []),
  (127, (.iload_n 1, 1), (0, 0, 0), []),
  (128, (.iconst 4, 1), (0, 0, 0), []),
  (129, (.aload_n 0, 1), (0, 0, 0), []),
  (130, (.iconst 0, 1), (0, 0, 0), []),
  (131, (.bipush 20, 2), (0, 0, 0), []),
  (133, (.invokevirtual 120, 3), (78, 3, 3), []),
  (136, (.invokevirtual 202, 3), (60, 4, 2), []),
  (139, (.aload_n 0, 1), (0, 0, 0), []),
  (140, (.invokevirtual 133, 3), (76, 1, 3), []),
  (143, (.return_, 1), (0, 0, 0), [])]
def t_X4_takeFrom : List mT := [
  (0, (.aload_n 0, 1), (0, 0, 0), []),
  (1, (.aload_n 1, 1), (0, 0, 0), []),
  (2, (.getfield 9, 3), (4, 1, 0), []),
  (5, (.putfield 9, 3), (4, 1, 0), []),
  (8, (.aload_n 0, 1), (0, 0, 0), []),
  (9, (.aload_n 1, 1), (0, 0, 0), []),
  (10, (.getfield 15, 3), (4, 2, 0), []),
  (13, (.putfield 15, 3), (4, 2, 0), []),
  (16, (.aload_n 0, 1), (0, 0, 0), []),
  (17, (.aload_n 1, 1), (0, 0, 0), []),
  (18, (.getfield 24, 3), (4, 3, 0), []),
  (21, (.putfield 24, 3), (4, 3, 0), []),
  (24, (.aload_n 0, 1), (0, 0, 0), []),
  (25, (.aload_n 1, 1), (0, 0, 0), []),
  (26, (.getfield 18, 3), (4, 4, 0), []),
  (29, (.putfield 18, 3), (4, 4, 0), []),
  (32, (.aload_n 0, 1), (0, 0, 0), []),
  (33, (.aload_n 1, 1), (0, 0, 0), []),
  (34, (.getfield 27, 3), (4, 5, 0), []),
  (37, (.putfield 27, 3), (4, 5, 0), []),
  (40, (.aload_n 0, 1), (0, 0, 0), []),
  (41, (.aload_n 1, 1), (0, 0, 0), []),
  (42, (.getfield 30, 3), (4, 6, 0), []),
  (45, (.putfield 30, 3), (4, 6, 0), []),
  (48, (.aload_n 0, 1), (0, 0, 0), []),
  (49, (.aload_n 1, 1), (0, 0, 0), []),
  (50, (.getfield 33, 3), (4, 7, 0), []),
  (53, (.putfield 33, 3), (4, 7, 0), []),
  (56, (.aload_n 0, 1), (0, 0, 0), []),
  (57, (.aload_n 1, 1), (0, 0, 0), []),
  (58, (.getfield 36, 3), (4, 8, 0), []),
  (61, (.putfield 36, 3), (4, 8, 0), []),
  (64, (.return_, 1), (0, 0, 0), [])]
def t_X4_holds : List mT := [
  (0, (.aload_n 0, 1), (0, 0, 0), []),
  (1, (.getfield 9, 3), (4, 1, 0), []),
  (4, (.iconst (-1), 1), (0, 0, 0), []),
  (5, (.if_icmp .eq 7, 3), (12, 0, 0), []),
  (8, (.iconst 1, 1), (0, 0, 0), []),
  (9, (.goto 4, 3), (13, 0, 0), []),
  (12, (.iconst 0, 1), (0, 0, 0), []),
  (13, (.ireturn, 1), (0, 0, 0), [])]
def t_X4_isGreen : List mT := [
  (0, (.aload_n 0, 1), (0, 0, 0), []),
  (1, (.getfield 9, 3), (4, 1, 0), []),
  (4, (.iconst (-1), 1), (0, 0, 0), []),
  (5, (.if_icmp .eq 14, 3), (19, 0, 0), []),
  (8, (.aload_n 0, 1), (0, 0, 0), []),
  (9, (.getfield 15, 3), (4, 2, 0), []),
  (12, (.ifCond .ne 7, 3), (19, 0, 0), []),
  (15, (.iconst 1, 1), (0, 0, 0), []),
  (16, (.goto 4, 3), (20, 0, 0), []),
  (19, (.iconst 0, 1), (0, 0, 0), []),
  (20, (.ireturn, 1), (0, 0, 0), [])]
def t_X4_waitFor : List mT := [
  (0, (.aload_n 0, 1), (0, 0, 0), []),
  (1, (.iconst (-1), 1), (0, 0, 0), []),
  (2, (.putfield 9, 3), (4, 1, 0), []),
  (5, (.aload_n 0, 1), (0, 0, 0), []),
  (6, (.iconst 3, 1), (0, 0, 0), []),
  (7, (.putfield 15, 3), (4, 2, 0), []),
  (10, (.aload_n 0, 1), (0, 0, 0), []),
  (11, (.iconst 0, 1), (0, 0, 0), []),
  (12, (.putfield 24, 3), (4, 3, 0), []),
  (15, (.aload_n 0, 1), (0, 0, 0), []),
  (16, (.iload_n 1, 1), (0, 0, 0), []),
  (17, (.putfield 18, 3), (4, 4, 0), []),
  (20, (.return_, 1), (0, 0, 0), [])]
def t_X4_turnGreen : List mT := [
  (0, (.aload_n 0, 1), (0, 0, 0), []),
  (1, (.iload_n 1, 1), (0, 0, 0), []),
  (2, (.putfield 9, 3), (4, 1, 0), []),
  (5, (.aload_n 0, 1), (0, 0, 0), []),
  (6, (.iconst 0, 1), (0, 0, 0), []),
  (7, (.putfield 15, 3), (4, 2, 0), []),
  (10, (.aload_n 0, 1), (0, 0, 0), []),
  (11, (.iconst 0, 1), (0, 0, 0), []),
  (12, (.putfield 24, 3), (4, 3, 0), []),
  (15, (.aload_n 0, 1), (0, 0, 0), []),
  (16, (.iconst (-1), 1), (0, 0, 0), []),
  (17, (.putfield 18, 3), (4, 4, 0), []),
  (20, (.aload_n 0, 1), (0, 0, 0), []),
  (21, (.iconst 0, 1), (0, 0, 0), []),
  (22, (.putfield 27, 3), (4, 5, 0), []),
  (25, (.aload_n 0, 1), (0, 0, 0), []),
  (26, (.iconst 0, 1), (0, 0, 0), []),
  (27, (.putfield 30, 3), (4, 6, 0), []),
  (30, (.aload_n 0, 1), (0, 0, 0), []),
  (31, (.iconst 0, 1), (0, 0, 0), []),
  (32, (.putfield 36, 3), (4, 8, 0), []),
  (35, (.aload_n 0, 1), (0, 0, 0), []),
  (36, (.iload_n 2, 1), (0, 0, 0), []),
  (37, (.ifCond .eq 7, 3), (44, 0, 0), []),
  (40, (.iconst 1, 1), (0, 0, 0), []),
  (41, (.goto 4, 3), (45, 0, 0), []),
  (44, (.iconst 0, 1), (0, 0, 0), []),
  (45, (.putfield 33, 3), (4, 7, 0), []),
  (48, (.return_, 1), (0, 0, 0), [])]
def t_X4_turnYellow : List mT := [
  (0, (.aload_n 0, 1), (0, 0, 0), []),
  (1, (.iconst 1, 1), (0, 0, 0), []),
  (2, (.putfield 15, 3), (4, 2, 0), []),
  (5, (.aload_n 0, 1), (0, 0, 0), []),
  (6, (.iconst 0, 1), (0, 0, 0), []),
  (7, (.putfield 24, 3), (4, 3, 0), []),
  (10, (.aload_n 0, 1), (0, 0, 0), []),
  (11, (.iload_n 1, 1), (0, 0, 0), []),
  (12, (.putfield 18, 3), (4, 4, 0), []),
  (15, (.aload_n 0, 1), (0, 0, 0), []),
  (16, (.iconst 0, 1), (0, 0, 0), []),
  (17, (.putfield 33, 3), (4, 7, 0), []),
  (20, (.return_, 1), (0, 0, 0), [])]
def t_X4_growDark : List mT := [
  (0, (.aload_n 0, 1), (0, 0, 0), []),
  (1, (.getfield 15, 3), (4, 2, 0), []),
  (4, (.iconst 1, 1), (0, 0, 0), []),
  (5, (.if_icmp .ne 21, 3), (26, 0, 0), []),
  (8, (.aload_n 0, 1), (0, 0, 0), []),
  (9, (.getfield 24, 3), (4, 3, 0), []),
  (12, (.iload_n 1, 1), (0, 0, 0), []),
  (13, (.if_icmp .lt 13, 3), (26, 0, 0), []),
  (16, (.aload_n 0, 1), (0, 0, 0), []),
  (17, (.iconst 2, 1), (0, 0, 0), []),
  (18, (.putfield 15, 3), (4, 2, 0), []),
  (21, (.aload_n 0, 1), (0, 0, 0), []),
  (22, (.iconst 0, 1), (0, 0, 0), []),
  (23, (.putfield 24, 3), (4, 3, 0), []),
  (26, (.aload_n 0, 1), (0, 0, 0), []),
  (27, (.getfield 15, 3), (4, 2, 0), []),
  (30, (.iconst 2, 1), (0, 0, 0), []),
  (31, (.if_icmp .ne 19, 3), (50, 0, 0), []),
  (34, (.aload_n 0, 1), (0, 0, 0), []),
  (35, (.getfield 24, 3), (4, 3, 0), []),
  (38, (.iload_n 2, 1), (0, 0, 0), []),
  (39, (.if_icmp .lt 11, 3), (50, 0, 0), []),
  (42, (.aload_n 0, 1), (0, 0, 0), []),
  (43, (.aload_n 0, 1), (0, 0, 0), []),
  (44, (.getfield 18, 3), (4, 4, 0), []),
  (47, (.invokevirtual 39, 3), (91, 2, 4), []),
  (50, (.return_, 1), (0, 0, 0), [])]
def t_X4_walkOn : List mT := [
  (0, (.aload_n 0, 1), (0, 0, 0), []),
  (1, (.getfield 33, 3), (4, 7, 0), []),
  (4, (.iconst 2, 1), (0, 0, 0), []),
  (5, (.if_icmp .ne 13, 3), (18, 0, 0), []),
  (8, (.aload_n 0, 1), (0, 0, 0), []),
  (9, (.dup, 1), (0, 0, 0), []),
  (10, (.getfield 36, 3), (4, 8, 0), []),
  (13, (.iconst 1, 1), (0, 0, 0), []),
  (14, (.iadd, 1), (0, 0, 0), []),
  (15, (.putfield 36, 3), (4, 8, 0), []),
  (18, (.aload_n 0, 1), (0, 0, 0), []),
  (19, (.getfield 33, 3), (4, 7, 0), []),
  (22, (.iconst 1, 1), (0, 0, 0), []),
  (23, (.if_icmp .ne 16, 3), (39, 0, 0), []),
  (26, (.aload_n 0, 1), (0, 0, 0), []),
  (27, (.getfield 24, 3), (4, 3, 0), []),
  (30, (.iload_n 1, 1), (0, 0, 0), []),
  (31, (.if_icmp .lt 8, 3), (39, 0, 0), []),
  (34, (.aload_n 0, 1), (0, 0, 0), []),
  (35, (.iconst 2, 1), (0, 0, 0), []),
  (36, (.putfield 33, 3), (4, 7, 0), []),
  (39, (.aload_n 0, 1), (0, 0, 0), []),
  (40, (.getfield 33, 3), (4, 7, 0), []),
  (43, (.iconst 2, 1), (0, 0, 0), []),
  (44, (.if_icmp .ne 16, 3), (60, 0, 0), []),
  (47, (.aload_n 0, 1), (0, 0, 0), []),
  (48, (.getfield 36, 3), (4, 8, 0), []),
  (51, (.iload_n 2, 1), (0, 0, 0), []),
  (52, (.if_icmp .lt 8, 3), (60, 0, 0), []),
  (55, (.aload_n 0, 1), (0, 0, 0), []),
  (56, (.iconst 0, 1), (0, 0, 0), []),
  (57, (.putfield 33, 3), (4, 7, 0), []),
  (60, (.return_, 1), (0, 0, 0), [])]
def t_X5_status : List mT := [
  (0, (.aload_n 0, 1), (0, 0, 0), []),
  (1, (.getfield 52, 3), (5, 10, 0), []),
  (4, (.ireturn, 1), (0, 0, 0), [])]
def t_X5_feed : List mT := [
  (0, (.aload_n 0, 1), (0, 0, 0), []),
  (1, (.getfield 45, 3), (5, 8, 0), []),
  (4, (.bipush 20, 2), (0, 0, 0), []),
  (6, (.iadd, 1), (0, 0, 0), []),
  (7, (.sipush 700, 3), (0, 0, 0), []),
  (10, (.if_icmp .le 5, 3), (15, 0, 0), []),
  (13, (.iconst (-1), 1), (0, 0, 0), []),
  (14, (.ireturn, 1), (0, 0, 0), []),
  (15, (.aload_n 0, 1), (0, 0, 0), []),
  (16, (.iload_n 1, 1), (0, 0, 0), []),
  (17, (.invokevirtual 55, 3), (134, 2, 5), []),
  (20, (.aload_n 0, 1), (0, 0, 0), []),
  (21, (.iload_n 2, 1), (0, 0, 0), []),
  (22, (.invokevirtual 55, 3), (134, 2, 5), []),
  (25, (.aload_n 0, 1), (0, 0, 0), []),
  (26, (.iload_n 3, 1), (0, 0, 0), []),
  (27, (.invokevirtual 55, 3), (134, 2, 5), []),
  (30, (.aload_n 0, 1), (0, 0, 0), []),
  (31, (.iload 4, 2), (0, 0, 0), []),
  (33, (.invokevirtual 55, 3), (134, 2, 5), []),
  (36, (.aload_n 0, 1), (0, 0, 0), []),
  (37, (.iload 5, 2), (0, 0, 0), []),
  (39, (.invokevirtual 55, 3), (134, 2, 5), []),
  (42, (.aload_n 0, 1), (0, 0, 0), []),
  (43, (.getfield 45, 3), (5, 8, 0), []),
  (46, (.ireturn, 1), (0, 0, 0), [])]
def t_X5_load : List mT := [
  (0, (.iload_n 1, 1), (0, 0, 0), []),
  (1, (.ifCond .lt 11, 3), (12, 0, 0), []),
  (4, (.iload_n 1, 1), (0, 0, 0), []),
  (5, (.aload_n 0, 1), (0, 0, 0), []),
  (6, (.getfield 45, 3), (5, 8, 0), []),
  (9, (.if_icmp .le 9, 3), (18, 0, 0), []),
  (12, (.aload_n 0, 1), (0, 0, 0), []),
  (13, (.iconst 1, 1), (0, 0, 0), []),
  (14, (.invokevirtual 59, 3), (131, 2, 5), []),
  (17, (.ireturn, 1), (0, 0, 0), []),
  (18, (.aload_n 0, 1), (0, 0, 0), []),
  (19, (.iconst 0, 1), (0, 0, 0), []),
  (20, (.putfield 45, 3), (5, 8, 0), []),
  (23, (.aload_n 0, 1), (0, 0, 0), []),
  (24, (.iconst 1, 1), (0, 0, 0), []),
  (25, (.putfield 48, 3), (5, 9, 0), []),
  (28, (.aload_n 0, 1), (0, 0, 0), []),
  (29, (.getfield 18, 3), (5, 1, 0), []),
  (32, (.iload_n 1, 1), (0, 0, 0), []),
  (33, (.invokevirtual 63, 3), (69, 2, 3), []),
  (36, (.aload_n 0, 1), (0, 0, 0), []),
  (37, (.getfield 18, 3), (5, 1, 0), []),
  (40, (.getfield 66, 3), (3, 9, 0), []),
  (43, (.ifCond .eq 10, 3), (53, 0, 0), []),
  (46, (.aload_n 0, 1), (0, 0, 0), []),
  (47, (.bipush 9, 2), (0, 0, 0), []),
  (49, (.invokevirtual 59, 3), (131, 2, 5), []),
  (52, (.ireturn, 1), (0, 0, 0), []),
  (53, (.aload_n 0, 1), (0, 0, 0), []),
  (54, (.getfield 25, 3), (5, 2, 0), []),
  (57, (.getfield 69, 3), (0, 0, 0), []),
  (60, (.aload_n 0, 1), (0, 0, 0), []),
  (61, (.getfield 18, 3), (5, 1, 0), []),
  (64, (.getfield 73, 3), (3, 1, 0), []),
  (67, (.invokevirtual 74, 3), (52, 2, 2), []),
  (70, (.aload_n 0, 1), (0, 0, 0), []),
  (71, (.getfield 25, 3), (5, 2, 0), []),
  (74, (.invokevirtual 80, 3), (1, 1, 0), []),
  (77, (.aload_n 0, 1), (0, 0, 0), []),
  (78, (.aload_n 0, 1), (0, 0, 0), []),
  (79, (.getfield 25, 3), (5, 2, 0), []),
  (82, (.getfield 69, 3), (0, 0, 0), []),
  (85, (.getfield 83, 3), (2, 0, 0), []),
  (88, (.invokevirtual 86, 3), (130, 2, 5), []),
  (91, (.ireturn, 1), (0, 0, 0), [])]
def t_X5_fault : List mT := [
  (0, (.aload_n 0, 1), (0, 0, 0), []),
  (1, (.getfield 48, 3), (5, 9, 0), []),
  (4, (.ifCond .ne 5, 3), (9, 0, 0), []),
  (7, (.iconst (-1), 1), (0, 0, 0), []),
  (8, (.ireturn, 1), (0, 0, 0), []),
  (9, (.iload_n 1, 1), (0, 0, 0), []),
  (10, (.tableswitch 50 0 2 #[26, 34, 42], 26), (60, 0, 0), [(0, 36), (1, 44), (2, 52)]),
  (36, (.aload_n 0, 1), (0, 0, 0), []),
  (37, (.getfield 18, 3), (5, 1, 0), []),
  (40, (.getfield 66, 3), (3, 9, 0), []),
  (43, (.ireturn, 1), (0, 0, 0), []),
  (44, (.aload_n 0, 1), (0, 0, 0), []),
  (45, (.getfield 18, 3), (5, 1, 0), []),
  (48, (.getfield 89, 3), (3, 10, 0), []),
  (51, (.ireturn, 1), (0, 0, 0), []),
  (52, (.aload_n 0, 1), (0, 0, 0), []),
  (53, (.getfield 18, 3), (5, 1, 0), []),
  (56, (.getfield 92, 3), (3, 11, 0), []),
  (59, (.ireturn, 1), (0, 0, 0), []),
  (60, (.iconst (-1), 1), (0, 0, 0), []),
  (61, (.ireturn, 1), (0, 0, 0), [])]
def t_X5_many : List mT := [
  (0, (.iload_n 1, 1), (0, 0, 0), []),
  (1, (.tableswitch 221 0 11 #[63, 78, 90, 105, 120, 132, 152, 164, 176, 188, 200, 212], 63), (222, 0, 0), [(0, 64), (1, 79), (2, 91), (3, 106), (4, 121), (5, 133), (6, 153), (7, 165), (8, 177), (9, 189), (10, 201), (11, 213)]),
  (64, (.aload_n 0, 1), (0, 0, 0), []),
  (65, (.aload_n 0, 1), (0, 0, 0), []),
  (66, (.getfield 25, 3), (5, 2, 0), []),
  (69, (.getfield 69, 3), (0, 0, 0), []),
  (72, (.getfield 83, 3), (2, 0, 0), []),
  (75, (.invokevirtual 86, 3), (130, 2, 5), []),
  (78, (.ireturn, 1), (0, 0, 0), []),
  (79, (.aload_n 0, 1), (0, 0, 0), []),
  (80, (.aload_n 0, 1), (0, 0, 0), []),
  (81, (.getfield 25, 3), (5, 2, 0), []),
  (84, (.getfield 95, 3), (0, 12, 0), []),
  (87, (.invokevirtual 86, 3), (130, 2, 5), []),
  (90, (.ireturn, 1), (0, 0, 0), []),
  (91, (.aload_n 0, 1), (0, 0, 0), []),
  (92, (.aload_n 0, 1), (0, 0, 0), []),
  (93, (.getfield 25, 3), (5, 2, 0), []),
  (96, (.getfield 69, 3), (0, 0, 0), []),
  (99, (.getfield 98, 3), (2, 1, 0), []),
  (102, (.invokevirtual 86, 3), (130, 2, 5), []),
  (105, (.ireturn, 1), (0, 0, 0), []),
  (106, (.aload_n 0, 1), (0, 0, 0), []),
  (107, (.aload_n 0, 1), (0, 0, 0), []),
  (108, (.getfield 25, 3), (5, 2, 0), []),
  (111, (.getfield 69, 3), (0, 0, 0), []),
  (114, (.getfield 101, 3), (2, 2, 0), []),
  (117, (.invokevirtual 86, 3), (130, 2, 5), []),
  (120, (.ireturn, 1), (0, 0, 0), []),
  (121, (.aload_n 0, 1), (0, 0, 0), []),
  (122, (.aload_n 0, 1), (0, 0, 0), []),
  (123, (.getfield 25, 3), (5, 2, 0), []),
  (126, (.getfield 104, 3), (0, 13, 0), []),
  (129, (.invokevirtual 86, 3), (130, 2, 5), []),
  (132, (.ireturn, 1), (0, 0, 0), []),
  (133, (.aload_n 0, 1), (0, 0, 0), []),
  (134, (.aload_n 0, 1), (0, 0, 0), []),
  (135, (.getfield 25, 3), (5, 2, 0), []),
  (138, (.getfield 107, 3), (0, 15, 0), []),
  (141, (.ifCond .eq 7, 3), (148, 0, 0), []),
  (144, (.iconst 1, 1), (0, 0, 0), []),
  (145, (.goto 4, 3), (149, 0, 0), []),
  (148, (.iconst 0, 1), (0, 0, 0), []),
  (149, (.invokevirtual 86, 3), (130, 2, 5), []),
  (152, (.ireturn, 1), (0, 0, 0), []),
  (153, (.aload_n 0, 1), (0, 0, 0), []),
  (154, (.aload_n 0, 1), (0, 0, 0), []),
  (155, (.getfield 25, 3), (5, 2, 0), []),
  (158, (.getfield 110, 3), (0, 10, 0), []),
  (161, (.invokevirtual 86, 3), (130, 2, 5), []),
  (164, (.ireturn, 1), (0, 0, 0), []),
  (165, (.aload_n 0, 1), (0, 0, 0), []),
  (166, (.aload_n 0, 1), (0, 0, 0), []),
  (167, (.getfield 25, 3), (5, 2, 0), []),
  (170, (.getfield 113, 3), (0, 16, 0), []),
  (173, (.invokevirtual 86, 3), (130, 2, 5), []),
  (176, (.ireturn, 1), (0, 0, 0), []),
  (177, (.aload_n 0, 1), (0, 0, 0), []),
  (178, (.aload_n 0, 1), (0, 0, 0), []),
  (179, (.getfield 25, 3), (5, 2, 0), []),
  (182, (.getfield 116, 3), (0, 17, 0), []),
  (185, (.invokevirtual 86, 3), (130, 2, 5), []),
  (188, (.ireturn, 1), (0, 0, 0), []),
  (189, (.aload_n 0, 1), (0, 0, 0), []),
  (190, (.aload_n 0, 1), (0, 0, 0), []),
  (191, (.getfield 25, 3), (5, 2, 0), []),
  (194, (.getfield 119, 3), (0, 18, 0), []),
  (197, (.invokevirtual 86, 3), (130, 2, 5), []),
  (200, (.ireturn, 1), (0, 0, 0), []),
  (201, (.aload_n 0, 1), (0, 0, 0), []),
  (202, (.aload_n 0, 1), (0, 0, 0), []),
  (203, (.getfield 25, 3), (5, 2, 0), []),
  (206, (.getfield 122, 3), (0, 11, 0), []),
  (209, (.invokevirtual 86, 3), (130, 2, 5), []),
  (212, (.ireturn, 1), (0, 0, 0), []),
  (213, (.aload_n 0, 1), (0, 0, 0), []),
  (214, (.aload_n 0, 1), (0, 0, 0), []),
  (215, (.getfield 41, 3), (5, 7, 0), []),
  (218, (.invokevirtual 86, 3), (130, 2, 5), []),
  (221, (.ireturn, 1), (0, 0, 0), []),
  (222, (.aload_n 0, 1), (0, 0, 0), []),
  (223, (.iconst 1, 1), (0, 0, 0), []),
  (224, (.invokevirtual 59, 3), (131, 2, 5), []),
  (227, (.ireturn, 1), (0, 0, 0), [])]
def t_X5_ring : List mT := [
  (0, (.iload_n 2, 1), (0, 0, 0), []),
  (1, (.ifCond .lt 9, 3), (10, 0, 0), []),
  (4, (.iload_n 2, 1), (0, 0, 0), []),
  (5, (.bipush 9, 2), (0, 0, 0), []),
  (7, (.if_icmp .le 9, 3), (16, 0, 0), []),
  (10, (.aload_n 0, 1), (0, 0, 0), []),
  (11, (.iconst 1, 1), (0, 0, 0), []),
  (12, (.invokevirtual 59, 3), (131, 2, 5), []),
  (15, (.ireturn, 1), (0, 0, 0), []),
  (16, (.iload_n 1, 1), (0, 0, 0), []),
  (17, (.ifCond .lt 8, 3), (25, 0, 0), []),
  (20, (.iload_n 1, 1), (0, 0, 0), []),
  (21, (.iconst 1, 1), (0, 0, 0), []),
  (22, (.if_icmp .le 9, 3), (31, 0, 0), []),
  (25, (.aload_n 0, 1), (0, 0, 0), []),
  (26, (.iconst 2, 1), (0, 0, 0), []),
  (27, (.invokevirtual 59, 3), (131, 2, 5), []),
  (30, (.ireturn, 1), (0, 0, 0), []),
  (31, (.aload_n 0, 1), (0, 0, 0), []),
  (32, (.aload_n 0, 1), (0, 0, 0), []),
  (33, (.getfield 25, 3), (5, 2, 0), []),
  (36, (.iload_n 1, 1), (0, 0, 0), []),
  (37, (.ifCond .ne 13, 3), (50, 0, 0), []),
  (40, (.aload_n 0, 1), (0, 0, 0), []),
  (41, (.getfield 25, 3), (5, 2, 0), []),
  (44, (.getfield 125, 3), (0, 1, 0), []),
  (47, (.goto 10, 3), (57, 0, 0), []),
  (50, (.aload_n 0, 1), (0, 0, 0), []),
  (51, (.getfield 25, 3), (5, 2, 0), []),
  (54, (.getfield 129, 3), (0, 2, 0), []),
  (57, (.iload_n 2, 1), (0, 0, 0), []),
  (58, (.invokevirtual 132, 3), (3, 3, 0), []),
  (61, (.invokevirtual 86, 3), (130, 2, 5), []),
  (64, (.ireturn, 1), (0, 0, 0), [])]
def t_X5_phase : List mT := [
  (0, (.iload_n 2, 1), (0, 0, 0), []),
  (1, (.ifCond .lt 9, 3), (10, 0, 0), []),
  (4, (.iload_n 2, 1), (0, 0, 0), []),
  (5, (.bipush 8, 2), (0, 0, 0), []),
  (7, (.if_icmp .le 9, 3), (16, 0, 0), []),
  (10, (.aload_n 0, 1), (0, 0, 0), []),
  (11, (.iconst 1, 1), (0, 0, 0), []),
  (12, (.invokevirtual 59, 3), (131, 2, 5), []),
  (15, (.ireturn, 1), (0, 0, 0), []),
  (16, (.aload_n 0, 1), (0, 0, 0), []),
  (17, (.getfield 25, 3), (5, 2, 0), []),
  (20, (.getfield 69, 3), (0, 0, 0), []),
  (23, (.iload_n 1, 1), (0, 0, 0), []),
  (24, (.invokevirtual 136, 3), (54, 2, 2), []),
  (27, (.ifCond .ne 9, 3), (36, 0, 0), []),
  (30, (.aload_n 0, 1), (0, 0, 0), []),
  (31, (.iconst 2, 1), (0, 0, 0), []),
  (32, (.invokevirtual 59, 3), (131, 2, 5), []),
  (35, (.ireturn, 1), (0, 0, 0), []),
  (36, (.aload_n 0, 1), (0, 0, 0), []),
  (37, (.aload_n 0, 1), (0, 0, 0), []),
  (38, (.getfield 25, 3), (5, 2, 0), []),
  (41, (.iload_n 1, 1), (0, 0, 0), []),
  (42, (.iload_n 2, 1), (0, 0, 0), []),
  (43, (.invokevirtual 140, 3), (4, 3, 0), []),
  (46, (.invokevirtual 86, 3), (130, 2, 5), []),
  (49, (.ireturn, 1), (0, 0, 0), [])]
def t_X5_marked : List mT := [
  (0, (.iload_n 2, 1), (0, 0, 0), []),
  (1, (.ifCond .lt 9, 3), (10, 0, 0), []),
  (4, (.iload_n 2, 1), (0, 0, 0), []),
  (5, (.bipush 10, 2), (0, 0, 0), []),
  (7, (.if_icmp .lt 9, 3), (16, 0, 0), []),
  (10, (.aload_n 0, 1), (0, 0, 0), []),
  (11, (.iconst 1, 1), (0, 0, 0), []),
  (12, (.invokevirtual 59, 3), (131, 2, 5), []),
  (15, (.ireturn, 1), (0, 0, 0), []),
  (16, (.aload_n 0, 1), (0, 0, 0), []),
  (17, (.getfield 25, 3), (5, 2, 0), []),
  (20, (.getfield 69, 3), (0, 0, 0), []),
  (23, (.iload_n 1, 1), (0, 0, 0), []),
  (24, (.invokevirtual 136, 3), (54, 2, 2), []),
  (27, (.ifCond .ne 9, 3), (36, 0, 0), []),
  (30, (.aload_n 0, 1), (0, 0, 0), []),
  (31, (.iconst 2, 1), (0, 0, 0), []),
  (32, (.invokevirtual 59, 3), (131, 2, 5), []),
  (35, (.ireturn, 1), (0, 0, 0), []),
  (36, (.aload_n 0, 1), (0, 0, 0), []),
  (37, (.aload_n 0, 1), (0, 0, 0), []),
  (38, (.getfield 25, 3), (5, 2, 0), []),
  (41, (.getfield 69, 3), (0, 0, 0), []),
  (44, (.iload_n 1, 1), (0, 0, 0), []),
  (45, (.iload_n 2, 1), (0, 0, 0), []),
  (46, (.invokevirtual 144, 3), (57, 3, 2), []),
  (49, (.invokevirtual 86, 3), (130, 2, 5), []),
  (52, (.ireturn, 1), (0, 0, 0), [])]
def t_X5_brake : List mT := [
  (0, (.iload_n 2, 1), (0, 0, 0), []),
  (1, (.ifCond .lt 8, 3), (9, 0, 0), []),
  (4, (.iload_n 2, 1), (0, 0, 0), []),
  (5, (.iconst 5, 1), (0, 0, 0), []),
  (6, (.if_icmp .le 9, 3), (15, 0, 0), []),
  (9, (.aload_n 0, 1), (0, 0, 0), []),
  (10, (.iconst 1, 1), (0, 0, 0), []),
  (11, (.invokevirtual 59, 3), (131, 2, 5), []),
  (14, (.ireturn, 1), (0, 0, 0), []),
  (15, (.iload_n 1, 1), (0, 0, 0), []),
  (16, (.invokestatic 147, 3), (137, 1, 99), []),
  (19, (.ifCond .ne 9, 3), (28, 0, 0), []),
  (22, (.aload_n 0, 1), (0, 0, 0), []),
  (23, (.iconst 2, 1), (0, 0, 0), []),
  (24, (.invokevirtual 59, 3), (131, 2, 5), []),
  (27, (.ireturn, 1), (0, 0, 0), []),
  (28, (.iload_n 2, 1), (0, 0, 0), []),
  (29, (.iconst 5, 1), (0, 0, 0), []),
  (30, (.if_icmp .ne 27, 3), (57, 0, 0), []),
  (33, (.aload_n 0, 1), (0, 0, 0), []),
  (34, (.aload_n 0, 1), (0, 0, 0), []),
  (35, (.getfield 25, 3), (5, 2, 0), []),
  (38, (.getfield 122, 3), (0, 11, 0), []),
  (41, (.iload_n 1, 1), (0, 0, 0), []),
  (42, (.invokestatic 150, 3), (148, 2, 99), []),
  (45, (.ifCond .eq 7, 3), (52, 0, 0), []),
  (48, (.iconst 1, 1), (0, 0, 0), []),
  (49, (.goto 4, 3), (53, 0, 0), []),
  (52, (.iconst 0, 1), (0, 0, 0), []),
  (53, (.invokevirtual 86, 3), (130, 2, 5), []),
  (56, (.ireturn, 1), (0, 0, 0), []),
  (57, (.aload_n 0, 1), (0, 0, 0), []),
  (58, (.aload_n 0, 1), (0, 0, 0), []),
  (59, (.getfield 25, 3), (5, 2, 0), []),
  (62, (.getfield 69, 3), (0, 0, 0), []),
  (65, (.iload_n 1, 1), (0, 0, 0), []),
  (66, (.iload_n 2, 1), (0, 0, 0), []),
  (67, (.invokevirtual 154, 3), (59, 3, 2), []),
  (70, (.invokevirtual 86, 3), (130, 2, 5), []),
  (73, (.ireturn, 1), (0, 0, 0), [])]
def t_X5_sum : List mT := [
  (0, (.iload_n 1, 1), (0, 0, 0), []),
  (1, (.tableswitch 117 0 5 #[39, 54, 66, 81, 93, 105], 39), (118, 0, 0), [(0, 40), (1, 55), (2, 67), (3, 82), (4, 94), (5, 106)]),
  (40, (.aload_n 0, 1), (0, 0, 0), []),
  (41, (.aload_n 0, 1), (0, 0, 0), []),
  (42, (.getfield 25, 3), (5, 2, 0), []),
  (45, (.getfield 157, 3), (0, 5, 0), []),
  (48, (.invokestatic 161, 3), (145, 1, 99), []),
  (51, (.invokevirtual 86, 3), (130, 2, 5), []),
  (54, (.ireturn, 1), (0, 0, 0), []),
  (55, (.aload_n 0, 1), (0, 0, 0), []),
  (56, (.aload_n 0, 1), (0, 0, 0), []),
  (57, (.getfield 25, 3), (5, 2, 0), []),
  (60, (.getfield 165, 3), (0, 14, 0), []),
  (63, (.invokevirtual 86, 3), (130, 2, 5), []),
  (66, (.ireturn, 1), (0, 0, 0), []),
  (67, (.aload_n 0, 1), (0, 0, 0), []),
  (68, (.aload_n 0, 1), (0, 0, 0), []),
  (69, (.getfield 25, 3), (5, 2, 0), []),
  (72, (.getfield 168, 3), (0, 4, 0), []),
  (75, (.invokestatic 161, 3), (145, 1, 99), []),
  (78, (.invokevirtual 86, 3), (130, 2, 5), []),
  (81, (.ireturn, 1), (0, 0, 0), []),
  (82, (.aload_n 0, 1), (0, 0, 0), []),
  (83, (.aload_n 0, 1), (0, 0, 0), []),
  (84, (.getfield 25, 3), (5, 2, 0), []),
  (87, (.invokevirtual 171, 3), (7, 1, 0), []),
  (90, (.invokevirtual 86, 3), (130, 2, 5), []),
  (93, (.ireturn, 1), (0, 0, 0), []),
  (94, (.aload_n 0, 1), (0, 0, 0), []),
  (95, (.aload_n 0, 1), (0, 0, 0), []),
  (96, (.getfield 25, 3), (5, 2, 0), []),
  (99, (.invokevirtual 175, 3), (8, 1, 0), []),
  (102, (.invokevirtual 86, 3), (130, 2, 5), []),
  (105, (.ireturn, 1), (0, 0, 0), []),
  (106, (.aload_n 0, 1), (0, 0, 0), []),
  (107, (.aload_n 0, 1), (0, 0, 0), []),
  (108, (.getfield 25, 3), (5, 2, 0), []),
  (111, (.invokevirtual 178, 3), (13, 1, 0), []),
  (114, (.invokevirtual 86, 3), (130, 2, 5), []),
  (117, (.ireturn, 1), (0, 0, 0), []),
  (118, (.aload_n 0, 1), (0, 0, 0), []),
  (119, (.iconst 1, 1), (0, 0, 0), []),
  (120, (.invokevirtual 59, 3), (131, 2, 5), []),
  (123, (.ireturn, 1), (0, 0, 0), [])]
def t_X5_event : List mT := [
  (0, (.iload_n 1, 1), (0, 0, 0), []),
  (1, (.ifCond .lt 18, 3), (19, 0, 0), []),
  (4, (.iload_n 1, 1), (0, 0, 0), []),
  (5, (.bipush 32, 2), (0, 0, 0), []),
  (7, (.if_icmp .ge 12, 3), (19, 0, 0), []),
  (10, (.iload_n 2, 1), (0, 0, 0), []),
  (11, (.ifCond .lt 8, 3), (19, 0, 0), []),
  (14, (.iload_n 2, 1), (0, 0, 0), []),
  (15, (.iconst 2, 1), (0, 0, 0), []),
  (16, (.if_icmp .le 9, 3), (25, 0, 0), []),
  (19, (.aload_n 0, 1), (0, 0, 0), []),
  (20, (.iconst 1, 1), (0, 0, 0), []),
  (21, (.invokevirtual 59, 3), (131, 2, 5), []),
  (24, (.ireturn, 1), (0, 0, 0), []),
  (25, (.iload_n 1, 1), (0, 0, 0), []),
  (26, (.aload_n 0, 1), (0, 0, 0), []),
  (27, (.getfield 25, 3), (5, 2, 0), []),
  (30, (.getfield 181, 3), (0, 3, 0), []),
  (33, (.getfield 185, 3), (1, 3, 0), []),
  (36, (.if_icmp .lt 9, 3), (45, 0, 0), []),
  (39, (.aload_n 0, 1), (0, 0, 0), []),
  (40, (.iconst 5, 1), (0, 0, 0), []),
  (41, (.invokevirtual 59, 3), (131, 2, 5), []),
  (44, (.ireturn, 1), (0, 0, 0), []),
  (45, (.aload_n 0, 1), (0, 0, 0), []),
  (46, (.aload_n 0, 1), (0, 0, 0), []),
  (47, (.getfield 25, 3), (5, 2, 0), []),
  (50, (.getfield 181, 3), (0, 3, 0), []),
  (53, (.iload_n 1, 1), (0, 0, 0), []),
  (54, (.iload_n 2, 1), (0, 0, 0), []),
  (55, (.invokevirtual 190, 3), (50, 3, 1), []),
  (58, (.invokevirtual 86, 3), (130, 2, 5), []),
  (61, (.ireturn, 1), (0, 0, 0), [])]
def t_X5_mark : List mT := [
  (0, (.iload_n 2, 1), (0, 0, 0), []),
  (1, (.ifCond .lt 31, 3), (32, 0, 0), []),
  (4, (.iload_n 2, 1), (0, 0, 0), []),
  (5, (.bipush 10, 2), (0, 0, 0), []),
  (7, (.if_icmp .ge 25, 3), (32, 0, 0), []),
  (10, (.iload_n 3, 1), (0, 0, 0), []),
  (11, (.getstatic 193, 3), (0, 27, 0), []),
  (14, (.iload_n 2, 1), (0, 0, 0), []),
  (15, (.invokestatic 196, 3), (141, 2, 99), []),
  (18, (.if_icmp .lt 14, 3), (32, 0, 0), []),
  (21, (.iload_n 3, 1), (0, 0, 0), []),
  (22, (.getstatic 200, 3), (0, 28, 0), []),
  (25, (.iload_n 2, 1), (0, 0, 0), []),
  (26, (.invokestatic 196, 3), (141, 2, 99), []),
  (29, (.if_icmp .le 9, 3), (38, 0, 0), []),
  (32, (.aload_n 0, 1), (0, 0, 0), []),
  (33, (.iconst 1, 1), (0, 0, 0), []),
  (34, (.invokevirtual 59, 3), (131, 2, 5), []),
  (37, (.ireturn, 1), (0, 0, 0), []),
  (38, (.aload_n 0, 1), (0, 0, 0), []),
  (39, (.getfield 25, 3), (5, 2, 0), []),
  (42, (.getfield 69, 3), (0, 0, 0), []),
  (45, (.iload_n 1, 1), (0, 0, 0), []),
  (46, (.invokevirtual 136, 3), (54, 2, 2), []),
  (49, (.ifCond .ne 9, 3), (58, 0, 0), []),
  (52, (.aload_n 0, 1), (0, 0, 0), []),
  (53, (.iconst 2, 1), (0, 0, 0), []),
  (54, (.invokevirtual 59, 3), (131, 2, 5), []),
  (57, (.ireturn, 1), (0, 0, 0), []),
  (58, (.aload_n 0, 1), (0, 0, 0), []),
  (59, (.getfield 25, 3), (5, 2, 0), []),
  (62, (.getfield 69, 3), (0, 0, 0), []),
  (65, (.iload_n 1, 1), (0, 0, 0), []),
  (66, (.iload_n 2, 1), (0, 0, 0), []),
  (67, (.invokevirtual 144, 3), (57, 3, 2), []),
  (70, (.istore 4, 2), (0, 0, 0), []),
  (72, (.aload_n 0, 1), (0, 0, 0), []),
  (73, (.getfield 25, 3), (5, 2, 0), []),
  (76, (.getfield 69, 3), (0, 0, 0), []),
  (79, (.iload_n 1, 1), (0, 0, 0), []),
  (80, (.iload_n 2, 1), (0, 0, 0), []),
  (81, (.iload_n 3, 1), (0, 0, 0), []),
  (82, (.invokevirtual 203, 3), (58, 4, 2), []),
  (85, (.aload_n 0, 1), (0, 0, 0), []),
  (86, (.iload 4, 2), (0, 0, 0), []),
  (88, (.invokevirtual 86, 3), (130, 2, 5), []),
  (91, (.ireturn, 1), (0, 0, 0), [])]
def t_X5_clock : List mT := [
  (0, (.iload_n 1, 1), (0, 0, 0), []),
  (1, (.ifCond .lt 29, 3), (30, 0, 0), []),
  (4, (.iload_n 1, 1), (0, 0, 0), []),
  (5, (.iconst 1, 1), (0, 0, 0), []),
  (6, (.if_icmp .gt 24, 3), (30, 0, 0), []),
  (9, (.iload_n 1, 1), (0, 0, 0), []),
  (10, (.ifCond .ne 13, 3), (23, 0, 0), []),
  (13, (.iload_n 2, 1), (0, 0, 0), []),
  (14, (.invokestatic 207, 3), (138, 1, 99), []),
  (17, (.ifCond .eq 13, 3), (30, 0, 0), []),
  (20, (.goto 16, 3), (36, 0, 0), []),
  (23, (.iload_n 2, 1), (0, 0, 0), []),
  (24, (.invokestatic 210, 3), (139, 1, 99), []),
  (27, (.ifCond .ne 9, 3), (36, 0, 0), []),
  (30, (.aload_n 0, 1), (0, 0, 0), []),
  (31, (.iconst 1, 1), (0, 0, 0), []),
  (32, (.invokevirtual 59, 3), (131, 2, 5), []),
  (35, (.ireturn, 1), (0, 0, 0), []),
  (36, (.iload_n 1, 1), (0, 0, 0), []),
  (37, (.ifCond .ne 16, 3), (53, 0, 0), []),
  (40, (.aload_n 0, 1), (0, 0, 0), []),
  (41, (.getfield 25, 3), (5, 2, 0), []),
  (44, (.getfield 69, 3), (0, 0, 0), []),
  (47, (.getfield 98, 3), (2, 1, 0), []),
  (50, (.goto 13, 3), (63, 0, 0), []),
  (53, (.aload_n 0, 1), (0, 0, 0), []),
  (54, (.getfield 25, 3), (5, 2, 0), []),
  (57, (.getfield 69, 3), (0, 0, 0), []),
  (60, (.getfield 101, 3), (2, 2, 0), []),
  (63, (.istore_n 3, 1), (0, 0, 0), []),
  (64, (.iload_n 3, 1), (0, 0, 0), []),
  (65, (.iload_n 2, 1), (0, 0, 0), []),
  (66, (.if_icmp .ne 9, 3), (75, 0, 0), []),
  (69, (.aload_n 0, 1), (0, 0, 0), []),
  (70, (.iconst 4, 1), (0, 0, 0), []),
  (71, (.invokevirtual 59, 3), (131, 2, 5), []),
  (74, (.ireturn, 1), (0, 0, 0), []),
  (75, (.iload_n 1, 1), (0, 0, 0), []),
  (76, (.ifCond .ne 14, 3), (90, 0, 0), []),
  (79, (.aload_n 0, 1), (0, 0, 0), []),
  (80, (.getfield 25, 3), (5, 2, 0), []),
  (83, (.iload_n 2, 1), (0, 0, 0), []),
  (84, (.invokevirtual 213, 3), (19, 2, 0), []),
  (87, (.goto 14, 3), (101, 0, 0), []),
  (90, (.aload_n 0, 1), (0, 0, 0), []),
  (91, (.getfield 25, 3), (5, 2, 0), []),
  (94, (.getfield 69, 3), (0, 0, 0), []),
  (97, (.iload_n 2, 1), (0, 0, 0), []),
  (98, (.putfield 101, 3), (2, 2, 0), []),
  (101, (.aload_n 0, 1), (0, 0, 0), []),
  (102, (.iload_n 3, 1), (0, 0, 0), []),
  (103, (.invokevirtual 86, 3), (130, 2, 5), []),
  (106, (.ireturn, 1), (0, 0, 0), [])]
def t_X5_call : List mT := [
  (0, (.aload_n 0, 1), (0, 0, 0), []),
  (1, (.getfield 25, 3), (5, 2, 0), []),
  (4, (.getfield 69, 3), (0, 0, 0), []),
  (7, (.iload_n 1, 1), (0, 0, 0), []),
  (8, (.invokevirtual 136, 3), (54, 2, 2), []),
  (11, (.ifCond .ne 9, 3), (20, 0, 0), []),
  (14, (.aload_n 0, 1), (0, 0, 0), []),
  (15, (.iconst 2, 1), (0, 0, 0), []),
  (16, (.invokevirtual 216, 3), (133, 2, 5), []),
  (19, (.ireturn, 1), (0, 0, 0), []),
  (20, (.iload_n 2, 1), (0, 0, 0), []),
  (21, (.ifCond .eq 13, 3), (34, 0, 0), []),
  (24, (.aload_n 0, 1), (0, 0, 0), []),
  (25, (.getfield 25, 3), (5, 2, 0), []),
  (28, (.getfield 219, 3), (0, 8, 0), []),
  (31, (.goto 10, 3), (41, 0, 0), []),
  (34, (.aload_n 0, 1), (0, 0, 0), []),
  (35, (.getfield 25, 3), (5, 2, 0), []),
  (38, (.getfield 222, 3), (0, 7, 0), []),
  (41, (.iload_n 1, 1), (0, 0, 0), []),
  (42, (.invokestatic 150, 3), (148, 2, 99), []),
  (45, (.ifCond .eq 9, 3), (54, 0, 0), []),
  (48, (.aload_n 0, 1), (0, 0, 0), []),
  (49, (.iconst 4, 1), (0, 0, 0), []),
  (50, (.invokevirtual 216, 3), (133, 2, 5), []),
  (53, (.ireturn, 1), (0, 0, 0), []),
  (54, (.iload_n 2, 1), (0, 0, 0), []),
  (55, (.ifCond .eq 24, 3), (79, 0, 0), []),
  (58, (.aload_n 0, 1), (0, 0, 0), []),
  (59, (.getfield 25, 3), (5, 2, 0), []),
  (62, (.getfield 69, 3), (0, 0, 0), []),
  (65, (.iload_n 1, 1), (0, 0, 0), []),
  (66, (.iconst 5, 1), (0, 0, 0), []),
  (67, (.invokevirtual 144, 3), (57, 3, 2), []),
  (70, (.ifCond .ne 9, 3), (79, 0, 0), []),
  (73, (.aload_n 0, 1), (0, 0, 0), []),
  (74, (.iconst 5, 1), (0, 0, 0), []),
  (75, (.invokevirtual 216, 3), (133, 2, 5), []),
  (78, (.ireturn, 1), (0, 0, 0), []),
  (79, (.aload_n 0, 1), (0, 0, 0), []),
  (80, (.getfield 25, 3), (5, 2, 0), []),
  (83, (.getfield 107, 3), (0, 15, 0), []),
  (86, (.ifCond .eq 10, 3), (96, 0, 0), []),
  (89, (.aload_n 0, 1), (0, 0, 0), []),
  (90, (.bipush 8, 2), (0, 0, 0), []),
  (92, (.invokevirtual 216, 3), (133, 2, 5), []),
  (95, (.ireturn, 1), (0, 0, 0), []),
  (96, (.iload_n 2, 1), (0, 0, 0), []),
  (97, (.ifCond .eq 22, 3), (119, 0, 0), []),
  (100, (.aload_n 0, 1), (0, 0, 0), []),
  (101, (.getfield 25, 3), (5, 2, 0), []),
  (104, (.dup, 1), (0, 0, 0), []),
  (105, (.getfield 219, 3), (0, 8, 0), []),
  (108, (.iload_n 1, 1), (0, 0, 0), []),
  (109, (.invokestatic 225, 3), (146, 1, 99), []),
  (112, (.ior, 1), (0, 0, 0), []),
  (113, (.putfield 219, 3), (0, 8, 0), []),
  (116, (.goto 11, 3), (127, 0, 0), []),
  (119, (.aload_n 0, 1), (0, 0, 0), []),
  (120, (.getfield 25, 3), (5, 2, 0), []),
  (123, (.iload_n 1, 1), (0, 0, 0), []),
  (124, (.invokevirtual 228, 3), (17, 2, 0), []),
  (127, (.aload_n 0, 1), (0, 0, 0), []),
  (128, (.invokevirtual 231, 3), (132, 1, 5), []),
  (131, (.ireturn, 1), (0, 0, 0), [])]
def t_X5_come : List mT := [
  (0, (.iload_n 2, 1), (0, 0, 0), []),
  (1, (.iconst 1, 1), (0, 0, 0), []),
  (2, (.if_icmp .lt 9, 3), (11, 0, 0), []),
  (5, (.iload_n 2, 1), (0, 0, 0), []),
  (6, (.bipush 99, 2), (0, 0, 0), []),
  (8, (.if_icmp .le 9, 3), (17, 0, 0), []),
  (11, (.aload_n 0, 1), (0, 0, 0), []),
  (12, (.iconst 1, 1), (0, 0, 0), []),
  (13, (.invokevirtual 59, 3), (131, 2, 5), []),
  (16, (.ireturn, 1), (0, 0, 0), []),
  (17, (.aload_n 0, 1), (0, 0, 0), []),
  (18, (.getfield 25, 3), (5, 2, 0), []),
  (21, (.getfield 69, 3), (0, 0, 0), []),
  (24, (.iload_n 1, 1), (0, 0, 0), []),
  (25, (.invokevirtual 136, 3), (54, 2, 2), []),
  (28, (.ifCond .ne 9, 3), (37, 0, 0), []),
  (31, (.aload_n 0, 1), (0, 0, 0), []),
  (32, (.iconst 2, 1), (0, 0, 0), []),
  (33, (.invokevirtual 59, 3), (131, 2, 5), []),
  (36, (.ireturn, 1), (0, 0, 0), []),
  (37, (.aload_n 0, 1), (0, 0, 0), []),
  (38, (.getfield 25, 3), (5, 2, 0), []),
  (41, (.getfield 168, 3), (0, 4, 0), []),
  (44, (.iload_n 1, 1), (0, 0, 0), []),
  (45, (.invokestatic 196, 3), (141, 2, 99), []),
  (48, (.iload_n 2, 1), (0, 0, 0), []),
  (49, (.iadd, 1), (0, 0, 0), []),
  (50, (.istore_n 3, 1), (0, 0, 0), []),
  (51, (.iload_n 3, 1), (0, 0, 0), []),
  (52, (.bipush 99, 2), (0, 0, 0), []),
  (54, (.if_icmp .le 9, 3), (63, 0, 0), []),
  (57, (.aload_n 0, 1), (0, 0, 0), []),
  (58, (.iconst 3, 1), (0, 0, 0), []),
  (59, (.invokevirtual 59, 3), (131, 2, 5), []),
  (62, (.ireturn, 1), (0, 0, 0), []),
  (63, (.aload_n 0, 1), (0, 0, 0), []),
  (64, (.getfield 25, 3), (5, 2, 0), []),
  (67, (.iload_n 1, 1), (0, 0, 0), []),
  (68, (.iload_n 3, 1), (0, 0, 0), []),
  (69, (.invokevirtual 235, 3), (16, 3, 0), []),
  (72, (.aload_n 0, 1), (0, 0, 0), []),
  (73, (.iload_n 3, 1), (0, 0, 0), []),
  (74, (.invokevirtual 86, 3), (130, 2, 5), []),
  (77, (.ireturn, 1), (0, 0, 0), [])]
def t_X5_ask : List mT := [
  (0, (.iload_n 1, 1), (0, 0, 0), []),
  (1, (.invokestatic 147, 3), (137, 1, 99), []),
  (4, (.ifCond .ne 9, 3), (13, 0, 0), []),
  (7, (.aload_n 0, 1), (0, 0, 0), []),
  (8, (.iconst 2, 1), (0, 0, 0), []),
  (9, (.invokevirtual 216, 3), (133, 2, 5), []),
  (12, (.ireturn, 1), (0, 0, 0), []),
  (13, (.aload_n 0, 1), (0, 0, 0), []),
  (14, (.getfield 25, 3), (5, 2, 0), []),
  (17, (.getfield 122, 3), (0, 11, 0), []),
  (20, (.iload_n 1, 1), (0, 0, 0), []),
  (21, (.invokestatic 150, 3), (148, 2, 99), []),
  (24, (.ifCond .eq 9, 3), (33, 0, 0), []),
  (27, (.aload_n 0, 1), (0, 0, 0), []),
  (28, (.iconst 4, 1), (0, 0, 0), []),
  (29, (.invokevirtual 216, 3), (133, 2, 5), []),
  (32, (.ireturn, 1), (0, 0, 0), []),
  (33, (.aload_n 0, 1), (0, 0, 0), []),
  (34, (.getfield 25, 3), (5, 2, 0), []),
  (37, (.dup, 1), (0, 0, 0), []),
  (38, (.getfield 122, 3), (0, 11, 0), []),
  (41, (.iload_n 1, 1), (0, 0, 0), []),
  (42, (.invokestatic 225, 3), (146, 1, 99), []),
  (45, (.ior, 1), (0, 0, 0), []),
  (46, (.putfield 122, 3), (0, 11, 0), []),
  (49, (.aload_n 0, 1), (0, 0, 0), []),
  (50, (.invokevirtual 231, 3), (132, 1, 5), []),
  (53, (.ireturn, 1), (0, 0, 0), [])]
def t_X5_let : List mT := [
  (0, (.iload_n 1, 1), (0, 0, 0), []),
  (1, (.invokestatic 147, 3), (137, 1, 99), []),
  (4, (.ifCond .ne 9, 3), (13, 0, 0), []),
  (7, (.aload_n 0, 1), (0, 0, 0), []),
  (8, (.iconst 2, 1), (0, 0, 0), []),
  (9, (.invokevirtual 216, 3), (133, 2, 5), []),
  (12, (.ireturn, 1), (0, 0, 0), []),
  (13, (.aload_n 0, 1), (0, 0, 0), []),
  (14, (.getfield 25, 3), (5, 2, 0), []),
  (17, (.getfield 122, 3), (0, 11, 0), []),
  (20, (.iload_n 1, 1), (0, 0, 0), []),
  (21, (.invokestatic 150, 3), (148, 2, 99), []),
  (24, (.ifCond .ne 9, 3), (33, 0, 0), []),
  (27, (.aload_n 0, 1), (0, 0, 0), []),
  (28, (.iconst 4, 1), (0, 0, 0), []),
  (29, (.invokevirtual 216, 3), (133, 2, 5), []),
  (32, (.ireturn, 1), (0, 0, 0), []),
  (33, (.aload_n 0, 1), (0, 0, 0), []),
  (34, (.getfield 25, 3), (5, 2, 0), []),
  (37, (.dup, 1), (0, 0, 0), []),
  (38, (.getfield 122, 3), (0, 11, 0), []),
  (41, (.iload_n 1, 1), (0, 0, 0), []),
  (42, (.invokestatic 225, 3), (146, 1, 99), []),
  (45, (.iconst (-1), 1), (0, 0, 0), []),
  (46, (.ixor, 1), (0, 0, 0), []),
  (47, (.iand, 1), (0, 0, 0), []),
  (48, (.putfield 122, 3), (0, 11, 0), []),
  (51, (.aload_n 0, 1), (0, 0, 0), []),
  (52, (.invokevirtual 231, 3), (132, 1, 5), []),
  (55, (.ireturn, 1), (0, 0, 0), [])]
def t_X5_brakes : List mT := [
  (0, (.aload_n 0, 1), (0, 0, 0), []),
  (1, (.getfield 25, 3), (5, 2, 0), []),
  (4, (.getfield 69, 3), (0, 0, 0), []),
  (7, (.iload_n 2, 1), (0, 0, 0), []),
  (8, (.invokevirtual 239, 3), (56, 2, 2), []),
  (11, (.ifCond .eq 45, 3), (56, 0, 0), []),
  (14, (.aload_n 0, 1), (0, 0, 0), []),
  (15, (.getfield 25, 3), (5, 2, 0), []),
  (18, (.getfield 69, 3), (0, 0, 0), []),
  (21, (.iload 4, 2), (0, 0, 0), []),
  (23, (.invokevirtual 239, 3), (56, 2, 2), []),
  (26, (.ifCond .eq 30, 3), (56, 0, 0), []),
  (29, (.iload_n 3, 1), (0, 0, 0), []),
  (30, (.invokestatic 242, 3), (140, 1, 99), []),
  (33, (.ifCond .eq 23, 3), (56, 0, 0), []),
  (36, (.iload 5, 2), (0, 0, 0), []),
  (38, (.invokestatic 242, 3), (140, 1, 99), []),
  (41, (.ifCond .eq 15, 3), (56, 0, 0), []),
  (44, (.iload 6, 2), (0, 0, 0), []),
  (46, (.ifCond .lt 10, 3), (56, 0, 0), []),
  (49, (.iload 6, 2), (0, 0, 0), []),
  (51, (.bipush 20, 2), (0, 0, 0), []),
  (53, (.if_icmp .le 9, 3), (62, 0, 0), []),
  (56, (.aload_n 0, 1), (0, 0, 0), []),
  (57, (.iconst 1, 1), (0, 0, 0), []),
  (58, (.invokevirtual 216, 3), (133, 2, 5), []),
  (61, (.ireturn, 1), (0, 0, 0), []),
  (62, (.iload_n 1, 1), (0, 0, 0), []),
  (63, (.invokestatic 147, 3), (137, 1, 99), []),
  (66, (.ifCond .ne 9, 3), (75, 0, 0), []),
  (69, (.aload_n 0, 1), (0, 0, 0), []),
  (70, (.iconst 2, 1), (0, 0, 0), []),
  (71, (.invokevirtual 216, 3), (133, 2, 5), []),
  (74, (.ireturn, 1), (0, 0, 0), []),
  (75, (.aload_n 0, 1), (0, 0, 0), []),
  (76, (.getfield 25, 3), (5, 2, 0), []),
  (79, (.getfield 113, 3), (0, 16, 0), []),
  (82, (.iload_n 1, 1), (0, 0, 0), []),
  (83, (.if_icmp .ne 9, 3), (92, 0, 0), []),
  (86, (.aload_n 0, 1), (0, 0, 0), []),
  (87, (.iconst 4, 1), (0, 0, 0), []),
  (88, (.invokevirtual 216, 3), (133, 2, 5), []),
  (91, (.ireturn, 1), (0, 0, 0), []),
  (92, (.aload_n 0, 1), (0, 0, 0), []),
  (93, (.getfield 25, 3), (5, 2, 0), []),
  (96, (.getfield 69, 3), (0, 0, 0), []),
  (99, (.iload_n 2, 1), (0, 0, 0), []),
  (100, (.invokevirtual 245, 3), (64, 2, 2), []),
  (103, (.ifCond .ne 18, 3), (121, 0, 0), []),
  (106, (.aload_n 0, 1), (0, 0, 0), []),
  (107, (.getfield 25, 3), (5, 2, 0), []),
  (110, (.getfield 69, 3), (0, 0, 0), []),
  (113, (.iload 4, 2), (0, 0, 0), []),
  (115, (.invokevirtual 245, 3), (64, 2, 2), []),
  (118, (.ifCond .eq 10, 3), (128, 0, 0), []),
  (121, (.aload_n 0, 1), (0, 0, 0), []),
  (122, (.bipush 7, 2), (0, 0, 0), []),
  (124, (.invokevirtual 216, 3), (133, 2, 5), []),
  (127, (.ireturn, 1), (0, 0, 0), []),
  (128, (.aload_n 0, 1), (0, 0, 0), []),
  (129, (.getfield 25, 3), (5, 2, 0), []),
  (132, (.getfield 69, 3), (0, 0, 0), []),
  (135, (.iload_n 1, 1), (0, 0, 0), []),
  (136, (.iconst 0, 1), (0, 0, 0), []),
  (137, (.iload_n 2, 1), (0, 0, 0), []),
  (138, (.invokevirtual 248, 3), (60, 4, 2), []),
  (141, (.aload_n 0, 1), (0, 0, 0), []),
  (142, (.getfield 25, 3), (5, 2, 0), []),
  (145, (.getfield 69, 3), (0, 0, 0), []),
  (148, (.iload_n 1, 1), (0, 0, 0), []),
  (149, (.iconst 1, 1), (0, 0, 0), []),
  (150, (.iload_n 3, 1), (0, 0, 0), []),
  (151, (.invokevirtual 248, 3), (60, 4, 2), []),
  (154, (.aload_n 0, 1), (0, 0, 0), []),
  (155, (.getfield 25, 3), (5, 2, 0), []),
  (158, (.getfield 69, 3), (0, 0, 0), []),
  (161, (.iload_n 1, 1), (0, 0, 0), []),
  (162, (.iconst 2, 1), (0, 0, 0), []),
  (163, (.iload 4, 2), (0, 0, 0), []),
  (165, (.invokevirtual 248, 3), (60, 4, 2), []),
  (168, (.aload_n 0, 1), (0, 0, 0), []),
  (169, (.getfield 25, 3), (5, 2, 0), []),
  (172, (.getfield 69, 3), (0, 0, 0), []),
  (175, (.iload_n 1, 1), (0, 0, 0), []),
  (176, (.iconst 3, 1), (0, 0, 0), []),
  (177, (.iload 5, 2), (0, 0, 0), []),
  (179, (.invokevirtual 248, 3), (60, 4, 2), []),
  (182, (.aload_n 0, 1), (0, 0, 0), []),
  (183, (.getfield 25, 3), (5, 2, 0), []),
  (186, (.getfield 69, 3), (0, 0, 0), []),
  (189, (.iload_n 1, 1), (0, 0, 0), []),
  (190, (.iconst 4, 1), (0, 0, 0), []),
  (191, (.iload 6, 2), (0, 0, 0), []),
  (193, (.invokevirtual 248, 3), (60, 4, 2), []),
  (196, (.aload_n 0, 1), (0, 0, 0), []),
  (197, (.invokevirtual 231, 3), (132, 1, 5), []),
  (200, (.ireturn, 1), (0, 0, 0), [])]
def t_X5_stick : List mT := [
  (0, (.aload_n 0, 1), (0, 0, 0), []),
  (1, (.getfield 25, 3), (5, 2, 0), []),
  (4, (.getfield 69, 3), (0, 0, 0), []),
  (7, (.iload_n 1, 1), (0, 0, 0), []),
  (8, (.invokevirtual 136, 3), (54, 2, 2), []),
  (11, (.ifCond .ne 9, 3), (20, 0, 0), []),
  (14, (.aload_n 0, 1), (0, 0, 0), []),
  (15, (.iconst 2, 1), (0, 0, 0), []),
  (16, (.invokevirtual 216, 3), (133, 2, 5), []),
  (19, (.ireturn, 1), (0, 0, 0), []),
  (20, (.aload_n 0, 1), (0, 0, 0), []),
  (21, (.getfield 25, 3), (5, 2, 0), []),
  (24, (.getfield 110, 3), (0, 10, 0), []),
  (27, (.iload_n 1, 1), (0, 0, 0), []),
  (28, (.invokestatic 150, 3), (148, 2, 99), []),
  (31, (.iload_n 2, 1), (0, 0, 0), []),
  (32, (.if_icmp .ne 9, 3), (41, 0, 0), []),
  (35, (.aload_n 0, 1), (0, 0, 0), []),
  (36, (.iconst 4, 1), (0, 0, 0), []),
  (37, (.invokevirtual 216, 3), (133, 2, 5), []),
  (40, (.ireturn, 1), (0, 0, 0), []),
  (41, (.aload_n 0, 1), (0, 0, 0), []),
  (42, (.getfield 25, 3), (5, 2, 0), []),
  (45, (.aload_n 0, 1), (0, 0, 0), []),
  (46, (.getfield 25, 3), (5, 2, 0), []),
  (49, (.getfield 110, 3), (0, 10, 0), []),
  (52, (.iload_n 1, 1), (0, 0, 0), []),
  (53, (.iload_n 2, 1), (0, 0, 0), []),
  (54, (.invokestatic 251, 3), (147, 3, 99), []),
  (57, (.putfield 110, 3), (0, 10, 0), []),
  (60, (.aload_n 0, 1), (0, 0, 0), []),
  (61, (.invokevirtual 231, 3), (132, 1, 5), []),
  (64, (.ireturn, 1), (0, 0, 0), [])]
def t_X5_reset : List mT := [
  (0, (.aload_n 0, 1), (0, 0, 0), []),
  (1, (.getfield 25, 3), (5, 2, 0), []),
  (4, (.getfield 107, 3), (0, 15, 0), []),
  (7, (.ifCond .ne 9, 3), (16, 0, 0), []),
  (10, (.aload_n 0, 1), (0, 0, 0), []),
  (11, (.iconst 5, 1), (0, 0, 0), []),
  (12, (.invokevirtual 216, 3), (133, 2, 5), []),
  (15, (.ireturn, 1), (0, 0, 0), []),
  (16, (.aload_n 0, 1), (0, 0, 0), []),
  (17, (.getfield 25, 3), (5, 2, 0), []),
  (20, (.iconst 0, 1), (0, 0, 0), []),
  (21, (.putfield 107, 3), (0, 15, 0), []),
  (24, (.aload_n 0, 1), (0, 0, 0), []),
  (25, (.getfield 25, 3), (5, 2, 0), []),
  (28, (.invokevirtual 255, 3), (2, 1, 0), []),
  (31, (.aload_n 0, 1), (0, 0, 0), []),
  (32, (.getfield 25, 3), (5, 2, 0), []),
  (35, (.getfield 181, 3), (0, 3, 0), []),
  (38, (.iconst 5, 1), (0, 0, 0), []),
  (39, (.aload_n 0, 1), (0, 0, 0), []),
  (40, (.getfield 25, 3), (5, 2, 0), []),
  (43, (.getfield 95, 3), (0, 12, 0), []),
  (46, (.iconst (-1), 1), (0, 0, 0), []),
  (47, (.invokevirtual 258, 3), (49, 4, 1), []),
  (50, (.aload_n 0, 1), (0, 0, 0), []),
  (51, (.invokevirtual 231, 3), (132, 1, 5), []),
  (54, (.ireturn, 1), (0, 0, 0), [])]
def t_X5_tick : List mT := [
  (0, (.iload_n 1, 1), (0, 0, 0), []),
  (1, (.iconst 1, 1), (0, 0, 0), []),
  (2, (.if_icmp .lt 10, 3), (12, 0, 0), []),
  (5, (.iload_n 1, 1), (0, 0, 0), []),
  (6, (.sipush 300, 3), (0, 0, 0), []),
  (9, (.if_icmp .le 9, 3), (18, 0, 0), []),
  (12, (.aload_n 0, 1), (0, 0, 0), []),
  (13, (.iconst 1, 1), (0, 0, 0), []),
  (14, (.invokevirtual 59, 3), (131, 2, 5), []),
  (17, (.ireturn, 1), (0, 0, 0), []),
  (18, (.aload_n 0, 1), (0, 0, 0), []),
  (19, (.getfield 25, 3), (5, 2, 0), []),
  (22, (.iload_n 1, 1), (0, 0, 0), []),
  (23, (.invokevirtual 261, 3), (21, 2, 0), []),
  (26, (.aload_n 0, 1), (0, 0, 0), []),
  (27, (.aload_n 0, 1), (0, 0, 0), []),
  (28, (.getfield 25, 3), (5, 2, 0), []),
  (31, (.getfield 95, 3), (0, 12, 0), []),
  (34, (.invokevirtual 86, 3), (130, 2, 5), []),
  (37, (.ireturn, 1), (0, 0, 0), [])]
def t_X5_run : List mT := [
  (0, (.iload_n 1, 1), (0, 0, 0), []),
  (1, (.iconst 1, 1), (0, 0, 0), []),
  (2, (.if_icmp .lt 21, 3), (23, 0, 0), []),
  (5, (.iload_n 1, 1), (0, 0, 0), []),
  (6, (.sipush 300, 3), (0, 0, 0), []),
  (9, (.if_icmp .gt 14, 3), (23, 0, 0), []),
  (12, (.iload_n 2, 1), (0, 0, 0), []),
  (13, (.ifCond .lt 10, 3), (23, 0, 0), []),
  (16, (.iload_n 2, 1), (0, 0, 0), []),
  (17, (.sipush 9999, 3), (0, 0, 0), []),
  (20, (.if_icmp .le 9, 3), (29, 0, 0), []),
  (23, (.aload_n 0, 1), (0, 0, 0), []),
  (24, (.iconst 1, 1), (0, 0, 0), []),
  (25, (.invokevirtual 59, 3), (131, 2, 5), []),
  (28, (.ireturn, 1), (0, 0, 0), []),
  (29, (.aload_n 0, 1), (0, 0, 0), []),
  (30, (.getfield 25, 3), (5, 2, 0), []),
  (33, (.getfield 157, 3), (0, 5, 0), []),
  (36, (.invokestatic 161, 3), (145, 1, 99), []),
  (39, (.istore_n 3, 1), (0, 0, 0), []),
  (40, (.iload_n 2, 1), (0, 0, 0), []),
  (41, (.istore 4, 2), (0, 0, 0), []),
  (43, (.iconst 0, 1), (0, 0, 0), []),
  (44, (.istore 5, 2), (0, 0, 0), []),
  (46, (.iload 5, 2), (0, 0, 0), []),
  (48, (.iload_n 1, 1), (0, 0, 0), []),
  (49, (.if_icmp .ge 27, 3), (76, 0, 0), []),
  (52, (.aload_n 0, 1), (0, 0, 0), []),
  (53, (.getfield 25, 3), (5, 2, 0), []),
  (56, (.iload 4, 2), (0, 0, 0), []),
  (58, (.invokevirtual 264, 3), (20, 2, 0), []),
  (61, (.istore 4, 2), (0, 0, 0), []),
  (63, (.aload_n 0, 1), (0, 0, 0), []),
  (64, (.getfield 25, 3), (5, 2, 0), []),
  (67, (.invokevirtual 267, 3), (22, 1, 0), []),
  (70, (.iinc 5 1, 3), (0, 0, 0), []),
  (73, (.goto (-27), 3), (46, 0, 0), []),
  (76, (.aload_n 0, 1), (0, 0, 0), []),
  (77, (.aload_n 0, 1), (0, 0, 0), []),
  (78, (.getfield 25, 3), (5, 2, 0), []),
  (81, (.getfield 157, 3), (0, 5, 0), []),
  (84, (.invokestatic 161, 3), (145, 1, 99), []),
  (87, (.iload_n 3, 1), (0, 0, 0), []),
  (88, (.isub, 1), (0, 0, 0), []),
  (89, (.invokevirtual 86, 3), (130, 2, 5), []),
  (92, (.ireturn, 1), (0, 0, 0), [])]
def t_X5_keep : List mT := [
  (0, (.aload_n 0, 1), (0, 0, 0), []),
  (1, (.getfield 41, 3), (5, 7, 0), []),
  (4, (.iconst 3, 1), (0, 0, 0), []),
  (5, (.if_icmp .lt 9, 3), (14, 0, 0), []),
  (8, (.aload_n 0, 1), (0, 0, 0), []),
  (9, (.iconst 3, 1), (0, 0, 0), []),
  (10, (.invokevirtual 59, 3), (131, 2, 5), []),
  (13, (.ireturn, 1), (0, 0, 0), []),
  (14, (.aload_n 0, 1), (0, 0, 0), []),
  (15, (.aload_n 0, 1), (0, 0, 0), []),
  (16, (.getfield 41, 3), (5, 7, 0), []),
  (19, (.invokevirtual 270, 3), (135, 2, 5), []),
  (22, (.aload_n 0, 1), (0, 0, 0), []),
  (23, (.getfield 25, 3), (5, 2, 0), []),
  (26, (.invokevirtual 274, 3), (0, 2, 0), []),
  (29, (.aload_n 0, 1), (0, 0, 0), []),
  (30, (.dup, 1), (0, 0, 0), []),
  (31, (.getfield 41, 3), (5, 7, 0), []),
  (34, (.iconst 1, 1), (0, 0, 0), []),
  (35, (.iadd, 1), (0, 0, 0), []),
  (36, (.putfield 41, 3), (5, 7, 0), []),
  (39, (.aload_n 0, 1), (0, 0, 0), []),
  (40, (.aload_n 0, 1), (0, 0, 0), []),
  (41, (.getfield 41, 3), (5, 7, 0), []),
  (44, (.invokevirtual 86, 3), (130, 2, 5), []),
  (47, (.ireturn, 1), (0, 0, 0), [])]
def t_X5_back : List mT := [
  (0, (.aload_n 0, 1), (0, 0, 0), []),
  (1, (.getfield 41, 3), (5, 7, 0), []),
  (4, (.iconst 1, 1), (0, 0, 0), []),
  (5, (.if_icmp .ge 9, 3), (14, 0, 0), []),
  (8, (.aload_n 0, 1), (0, 0, 0), []),
  (9, (.iconst 5, 1), (0, 0, 0), []),
  (10, (.invokevirtual 59, 3), (131, 2, 5), []),
  (13, (.ireturn, 1), (0, 0, 0), []),
  (14, (.aload_n 0, 1), (0, 0, 0), []),
  (15, (.dup, 1), (0, 0, 0), []),
  (16, (.getfield 41, 3), (5, 7, 0), []),
  (19, (.iconst 1, 1), (0, 0, 0), []),
  (20, (.isub, 1), (0, 0, 0), []),
  (21, (.putfield 41, 3), (5, 7, 0), []),
  (24, (.aload_n 0, 1), (0, 0, 0), []),
  (25, (.getfield 25, 3), (5, 2, 0), []),
  (28, (.aload_n 0, 1), (0, 0, 0), []),
  (29, (.aload_n 0, 1), (0, 0, 0), []),
  (30, (.getfield 41, 3), (5, 7, 0), []),
  (33, (.invokevirtual 270, 3), (135, 2, 5), []),
  (36, (.invokevirtual 274, 3), (0, 2, 0), []),
  (39, (.aload_n 0, 1), (0, 0, 0), []),
  (40, (.aload_n 0, 1), (0, 0, 0), []),
  (41, (.getfield 41, 3), (5, 7, 0), []),
  (44, (.invokevirtual 86, 3), (130, 2, 5), []),
  (47, (.ireturn, 1), (0, 0, 0), [])]
def t_X5_foes : List mT := [
  (0, (.aload_n 0, 1), (0, 0, 0), []),
  (1, (.getfield 25, 3), (5, 2, 0), []),
  (4, (.getfield 69, 3), (0, 0, 0), []),
  (7, (.iload_n 1, 1), (0, 0, 0), []),
  (8, (.invokevirtual 136, 3), (54, 2, 2), []),
  (11, (.ifCond .eq 17, 3), (28, 0, 0), []),
  (14, (.aload_n 0, 1), (0, 0, 0), []),
  (15, (.getfield 25, 3), (5, 2, 0), []),
  (18, (.getfield 69, 3), (0, 0, 0), []),
  (21, (.iload_n 2, 1), (0, 0, 0), []),
  (22, (.invokevirtual 136, 3), (54, 2, 2), []),
  (25, (.ifCond .ne 9, 3), (34, 0, 0), []),
  (28, (.aload_n 0, 1), (0, 0, 0), []),
  (29, (.iconst 2, 1), (0, 0, 0), []),
  (30, (.invokevirtual 59, 3), (131, 2, 5), []),
  (33, (.ireturn, 1), (0, 0, 0), []),
  (34, (.aload_n 0, 1), (0, 0, 0), []),
  (35, (.aload_n 0, 1), (0, 0, 0), []),
  (36, (.getfield 25, 3), (5, 2, 0), []),
  (39, (.getfield 69, 3), (0, 0, 0), []),
  (42, (.iload_n 1, 1), (0, 0, 0), []),
  (43, (.invokevirtual 277, 3), (63, 2, 2), []),
  (46, (.iload_n 2, 1), (0, 0, 0), []),
  (47, (.invokestatic 150, 3), (148, 2, 99), []),
  (50, (.ifCond .eq 7, 3), (57, 0, 0), []),
  (53, (.iconst 1, 1), (0, 0, 0), []),
  (54, (.goto 4, 3), (58, 0, 0), []),
  (57, (.iconst 0, 1), (0, 0, 0), []),
  (58, (.invokevirtual 86, 3), (130, 2, 5), []),
  (61, (.ireturn, 1), (0, 0, 0), [])]
def t_X5_sets : List mT := [
  (0, (.iload_n 1, 1), (0, 0, 0), []),
  (1, (.ifCond .lt 8, 3), (9, 0, 0), []),
  (4, (.iload_n 1, 1), (0, 0, 0), []),
  (5, (.iconst 1, 1), (0, 0, 0), []),
  (6, (.if_icmp .le 9, 3), (15, 0, 0), []),
  (9, (.aload_n 0, 1), (0, 0, 0), []),
  (10, (.iconst 1, 1), (0, 0, 0), []),
  (11, (.invokevirtual 59, 3), (131, 2, 5), []),
  (14, (.ireturn, 1), (0, 0, 0), []),
  (15, (.iconst 0, 1), (0, 0, 0), []),
  (16, (.istore_n 2, 1), (0, 0, 0), []),
  (17, (.iconst 0, 1), (0, 0, 0), []),
  (18, (.istore_n 3, 1), (0, 0, 0), []),
  (19, (.iconst (-1), 1), (0, 0, 0), []),
  (20, (.istore 4, 2), (0, 0, 0), []),
  (22, (.iconst 1, 1), (0, 0, 0), []),
  (23, (.istore 5, 2), (0, 0, 0), []),
  (25, (.iload 5, 2), (0, 1, 6), []),
  (27, (.aload_n 0, 1), (0, 0, 0), []),
  (28, (.getfield 25, 3), (5, 2, 0), []),
  (31, (.getfield 69, 3), (0, 0, 0), []),
  (34, (.invokevirtual 280, 3), (55, 1, 2), []),
  (37, (.if_icmp .gt 52, 3), (89, 0, 0), []),
  (40, (.aload_n 0, 1), (0, 0, 0), []),
  (41, (.getfield 25, 3), (5, 2, 0), []),
  (44, (.getfield 69, 3), (0, 0, 0), []),
  (47, (.iload 5, 2), (0, 0, 0), []),
  (49, (.invokevirtual 283, 3), (66, 2, 2), []),
  (52, (.ifCond .eq 31, 3), (83, 0, 0), []),
  (55, (.iinc 2 1, 3), (0, 0, 0), []),
  (58, (.aload_n 0, 1), (0, 0, 0), []),
  (59, (.getfield 25, 3), (5, 2, 0), []),
  (62, (.iload 5, 2), (0, 0, 0), []),
  (64, (.invokevirtual 286, 3), (9, 2, 0), []),
  (67, (.istore 6, 2), (0, 0, 0), []),
  (69, (.iload 6, 2), (0, 0, 0), []),
  (71, (.iload 4, 2), (0, 0, 0), []),
  (73, (.if_icmp .le 10, 3), (83, 0, 0), []),
  (76, (.iload 6, 2), (0, 0, 0), []),
  (78, (.istore 4, 2), (0, 0, 0), []),
  (80, (.iload 5, 2), (0, 0, 0), []),
  (82, (.istore_n 3, 1), (0, 0, 0), []),
  (83, (.iinc 5 1, 3), (0, 0, 0), []),
  (86, (.goto (-61), 3), (25, 0, 0), []),
  (89, (.aload_n 0, 1), (0, 0, 0), []),
  (90, (.iload_n 1, 1), (0, 0, 0), []),
  (91, (.ifCond .ne 7, 3), (98, 0, 0), []),
  (94, (.iload_n 2, 1), (0, 0, 0), []),
  (95, (.goto 4, 3), (99, 0, 0), []),
  (98, (.iload_n 3, 1), (0, 0, 0), []),
  (99, (.invokevirtual 86, 3), (130, 2, 5), []),
  (102, (.ireturn, 1), (0, 0, 0), [])]
def t_X5_when : List mT := [
  (0, (.aload_n 0, 1), (0, 0, 0), []),
  (1, (.getfield 25, 3), (5, 2, 0), []),
  (4, (.getfield 69, 3), (0, 0, 0), []),
  (7, (.iload_n 1, 1), (0, 0, 0), []),
  (8, (.invokevirtual 136, 3), (54, 2, 2), []),
  (11, (.ifCond .ne 9, 3), (20, 0, 0), []),
  (14, (.aload_n 0, 1), (0, 0, 0), []),
  (15, (.iconst 2, 1), (0, 0, 0), []),
  (16, (.invokevirtual 59, 3), (131, 2, 5), []),
  (19, (.ireturn, 1), (0, 0, 0), []),
  (20, (.aload_n 0, 1), (0, 0, 0), []),
  (21, (.getfield 29, 3), (5, 3, 0), []),
  (24, (.aload_n 0, 1), (0, 0, 0), []),
  (25, (.getfield 25, 3), (5, 2, 0), []),
  (28, (.invokevirtual 274, 3), (0, 2, 0), []),
  (31, (.aload_n 0, 1), (0, 0, 0), []),
  (32, (.iconst 0, 1), (0, 0, 0), []),
  (33, (.iload_n 1, 1), (0, 0, 0), []),
  (34, (.invokevirtual 289, 3), (136, 3, 5), []),
  (37, (.ireturn, 1), (0, 0, 0), [])]
def t_X5_worst : List mT := [
  (0, (.aload_n 0, 1), (0, 0, 0), []),
  (1, (.getfield 25, 3), (5, 2, 0), []),
  (4, (.getfield 69, 3), (0, 0, 0), []),
  (7, (.iload_n 1, 1), (0, 0, 0), []),
  (8, (.invokevirtual 136, 3), (54, 2, 2), []),
  (11, (.ifCond .ne 9, 3), (20, 0, 0), []),
  (14, (.aload_n 0, 1), (0, 0, 0), []),
  (15, (.iconst 2, 1), (0, 0, 0), []),
  (16, (.invokevirtual 59, 3), (131, 2, 5), []),
  (19, (.ireturn, 1), (0, 0, 0), []),
  (20, (.aload_n 0, 1), (0, 0, 0), []),
  (21, (.getfield 29, 3), (5, 3, 0), []),
  (24, (.aload_n 0, 1), (0, 0, 0), []),
  (25, (.getfield 25, 3), (5, 2, 0), []),
  (28, (.invokevirtual 274, 3), (0, 2, 0), []),
  (31, (.aload_n 0, 1), (0, 0, 0), []),
  (32, (.getfield 29, 3), (5, 3, 0), []),
  (35, (.iload_n 1, 1), (0, 0, 0), []),
  (36, (.invokevirtual 228, 3), (17, 2, 0), []),
  (39, (.aload_n 0, 1), (0, 0, 0), []),
  (40, (.iconst 1, 1), (0, 0, 0), []),
  (41, (.iload_n 1, 1), (0, 0, 0), []),
  (42, (.invokevirtual 289, 3), (136, 3, 5), []),
  (45, (.ireturn, 1), (0, 0, 0), [])]
def t_X5_cleared : List mT := [
  (0, (.aload_n 0, 1), (0, 0, 0), []),
  (1, (.getfield 29, 3), (5, 3, 0), []),
  (4, (.aload_n 0, 1), (0, 0, 0), []),
  (5, (.getfield 25, 3), (5, 2, 0), []),
  (8, (.invokevirtual 274, 3), (0, 2, 0), []),
  (11, (.aload_n 0, 1), (0, 0, 0), []),
  (12, (.iconst 2, 1), (0, 0, 0), []),
  (13, (.iconst (-1), 1), (0, 0, 0), []),
  (14, (.invokevirtual 289, 3), (136, 3, 5), []),
  (17, (.ireturn, 1), (0, 0, 0), [])]
def t_X5_instep : List mT := [
  (0, (.aload_n 0, 1), (0, 0, 0), []),
  (1, (.getfield 25, 3), (5, 2, 0), []),
  (4, (.getfield 69, 3), (0, 0, 0), []),
  (7, (.getfield 98, 3), (2, 1, 0), []),
  (10, (.ifCond .ne 9, 3), (19, 0, 0), []),
  (13, (.aload_n 0, 1), (0, 0, 0), []),
  (14, (.iconst 5, 1), (0, 0, 0), []),
  (15, (.invokevirtual 59, 3), (131, 2, 5), []),
  (18, (.ireturn, 1), (0, 0, 0), []),
  (19, (.aload_n 0, 1), (0, 0, 0), []),
  (20, (.getfield 29, 3), (5, 3, 0), []),
  (23, (.aload_n 0, 1), (0, 0, 0), []),
  (24, (.getfield 25, 3), (5, 2, 0), []),
  (27, (.invokevirtual 274, 3), (0, 2, 0), []),
  (30, (.aload_n 0, 1), (0, 0, 0), []),
  (31, (.iconst 3, 1), (0, 0, 0), []),
  (32, (.iconst (-1), 1), (0, 0, 0), []),
  (33, (.invokevirtual 289, 3), (136, 3, 5), []),
  (36, (.ireturn, 1), (0, 0, 0), [])]
def t_X5_broken : List mT := [
  (0, (.iload_n 1, 1), (0, 0, 0), []),
  (1, (.invokestatic 147, 3), (137, 1, 99), []),
  (4, (.ifCond .ne 9, 3), (13, 0, 0), []),
  (7, (.aload_n 0, 1), (0, 0, 0), []),
  (8, (.iconst 2, 1), (0, 0, 0), []),
  (9, (.invokevirtual 59, 3), (131, 2, 5), []),
  (12, (.ireturn, 1), (0, 0, 0), []),
  (13, (.aload_n 0, 1), (0, 0, 0), []),
  (14, (.getfield 29, 3), (5, 3, 0), []),
  (17, (.aload_n 0, 1), (0, 0, 0), []),
  (18, (.getfield 25, 3), (5, 2, 0), []),
  (21, (.invokevirtual 274, 3), (0, 2, 0), []),
  (24, (.aload_n 0, 1), (0, 0, 0), []),
  (25, (.getfield 29, 3), (5, 3, 0), []),
  (28, (.dup, 1), (0, 0, 0), []),
  (29, (.getfield 122, 3), (0, 11, 0), []),
  (32, (.iload_n 1, 1), (0, 0, 0), []),
  (33, (.invokestatic 225, 3), (146, 1, 99), []),
  (36, (.ior, 1), (0, 0, 0), []),
  (37, (.putfield 122, 3), (0, 11, 0), []),
  (40, (.aload_n 0, 1), (0, 0, 0), []),
  (41, (.iconst 4, 1), (0, 0, 0), []),
  (42, (.iload_n 1, 1), (0, 0, 0), []),
  (43, (.invokevirtual 289, 3), (136, 3, 5), []),
  (46, (.ireturn, 1), (0, 0, 0), [])]
def t_X5_paper : List mT := [
  (0, (.iload_n 1, 1), (0, 0, 0), []),
  (1, (.iconst 1, 1), (0, 0, 0), []),
  (2, (.if_icmp .lt 19, 3), (21, 0, 0), []),
  (5, (.iload_n 1, 1), (0, 0, 0), []),
  (6, (.sipush 300, 3), (0, 0, 0), []),
  (9, (.if_icmp .gt 12, 3), (21, 0, 0), []),
  (12, (.iload_n 2, 1), (0, 0, 0), []),
  (13, (.ifCond .lt 8, 3), (21, 0, 0), []),
  (16, (.iload_n 2, 1), (0, 0, 0), []),
  (17, (.iconst 1, 1), (0, 0, 0), []),
  (18, (.if_icmp .le 9, 3), (27, 0, 0), []),
  (21, (.aload_n 0, 1), (0, 0, 0), []),
  (22, (.iconst 1, 1), (0, 0, 0), []),
  (23, (.invokevirtual 59, 3), (131, 2, 5), []),
  (26, (.ireturn, 1), (0, 0, 0), []),
  (27, (.aload_n 0, 1), (0, 0, 0), []),
  (28, (.getfield 29, 3), (5, 3, 0), []),
  (31, (.aload_n 0, 1), (0, 0, 0), []),
  (32, (.getfield 25, 3), (5, 2, 0), []),
  (35, (.invokevirtual 274, 3), (0, 2, 0), []),
  (38, (.aload_n 0, 1), (0, 0, 0), []),
  (39, (.getfield 29, 3), (5, 3, 0), []),
  (42, (.iload_n 1, 1), (0, 0, 0), []),
  (43, (.invokevirtual 261, 3), (21, 2, 0), []),
  (46, (.iload_n 2, 1), (0, 0, 0), []),
  (47, (.ifCond .ne 29, 3), (76, 0, 0), []),
  (50, (.aload_n 0, 1), (0, 0, 0), []),
  (51, (.aload_n 0, 1), (0, 0, 0), []),
  (52, (.getfield 29, 3), (5, 3, 0), []),
  (55, (.getfield 157, 3), (0, 5, 0), []),
  (58, (.invokestatic 161, 3), (145, 1, 99), []),
  (61, (.aload_n 0, 1), (0, 0, 0), []),
  (62, (.getfield 25, 3), (5, 2, 0), []),
  (65, (.getfield 157, 3), (0, 5, 0), []),
  (68, (.invokestatic 161, 3), (145, 1, 99), []),
  (71, (.isub, 1), (0, 0, 0), []),
  (72, (.invokevirtual 86, 3), (130, 2, 5), []),
  (75, (.ireturn, 1), (0, 0, 0), []),
  (76, (.aload_n 0, 1), (0, 0, 0), []),
  (77, (.aload_n 0, 1), (0, 0, 0), []),
  (78, (.getfield 29, 3), (5, 3, 0), []),
  (81, (.getfield 165, 3), (0, 14, 0), []),
  (84, (.aload_n 0, 1), (0, 0, 0), []),
  (85, (.getfield 25, 3), (5, 2, 0), []),
  (88, (.getfield 165, 3), (0, 14, 0), []),
  (91, (.isub, 1), (0, 0, 0), []),
  (92, (.invokevirtual 86, 3), (130, 2, 5), []),
  (95, (.ireturn, 1), (0, 0, 0), [])]
def t_X5_bestMax : List mT := [
  (0, (.iload_n 2, 1), (0, 0, 0), []),
  (1, (.iconst 1, 1), (0, 0, 0), []),
  (2, (.if_icmp .lt 9, 3), (11, 0, 0), []),
  (5, (.iload_n 2, 1), (0, 0, 0), []),
  (6, (.bipush 100, 2), (0, 0, 0), []),
  (8, (.if_icmp .le 9, 3), (17, 0, 0), []),
  (11, (.aload_n 0, 1), (0, 0, 0), []),
  (12, (.iconst 1, 1), (0, 0, 0), []),
  (13, (.invokevirtual 59, 3), (131, 2, 5), []),
  (16, (.ireturn, 1), (0, 0, 0), []),
  (17, (.aload_n 0, 1), (0, 0, 0), []),
  (18, (.getfield 25, 3), (5, 2, 0), []),
  (21, (.getfield 69, 3), (0, 0, 0), []),
  (24, (.iload_n 1, 1), (0, 0, 0), []),
  (25, (.invokevirtual 136, 3), (54, 2, 2), []),
  (28, (.ifCond .ne 9, 3), (37, 0, 0), []),
  (31, (.aload_n 0, 1), (0, 0, 0), []),
  (32, (.iconst 2, 1), (0, 0, 0), []),
  (33, (.invokevirtual 59, 3), (131, 2, 5), []),
  (36, (.ireturn, 1), (0, 0, 0), []),
  (37, (.iconst (-1), 1), (0, 0, 0), []),
  (38, (.istore_n 3, 1), (0, 0, 0), []),
  (39, (.iconst 0, 1), (0, 0, 0), []),
  (40, (.istore 4, 2), (0, 0, 0), []),
  (42, (.getstatic 193, 3), (0, 27, 0), []),
  (45, (.iconst 2, 1), (0, 0, 0), []),
  (46, (.invokestatic 196, 3), (141, 2, 99), []),
  (49, (.istore 5, 2), (0, 0, 0), []),
  (51, (.iload 5, 2), (0, 0, 0), []),
  (53, (.getstatic 200, 3), (0, 28, 0), []),
  (56, (.iconst 2, 1), (0, 0, 0), []),
  (57, (.invokestatic 196, 3), (141, 2, 99), []),
  (60, (.if_icmp .gt 71, 3), (131, 0, 0), []),
  (63, (.aload_n 0, 1), (0, 0, 0), []),
  (64, (.getfield 29, 3), (5, 3, 0), []),
  (67, (.aload_n 0, 1), (0, 0, 0), []),
  (68, (.getfield 25, 3), (5, 2, 0), []),
  (71, (.invokevirtual 274, 3), (0, 2, 0), []),
  (74, (.aload_n 0, 1), (0, 0, 0), []),
  (75, (.getfield 29, 3), (5, 3, 0), []),
  (78, (.getfield 69, 3), (0, 0, 0), []),
  (81, (.iload_n 1, 1), (0, 0, 0), []),
  (82, (.iconst 2, 1), (0, 0, 0), []),
  (83, (.iload 5, 2), (0, 0, 0), []),
  (85, (.invokevirtual 203, 3), (58, 4, 2), []),
  (88, (.aload_n 0, 1), (0, 0, 0), []),
  (89, (.getfield 29, 3), (5, 3, 0), []),
  (92, (.iload_n 2, 1), (0, 0, 0), []),
  (93, (.invokevirtual 261, 3), (21, 2, 0), []),
  (96, (.iload_n 3, 1), (0, 0, 0), []),
  (97, (.iconst (-1), 1), (0, 0, 0), []),
  (98, (.if_icmp .eq 15, 3), (113, 0, 0), []),
  (101, (.aload_n 0, 1), (0, 0, 0), []),
  (102, (.getfield 29, 3), (5, 3, 0), []),
  (105, (.getfield 165, 3), (0, 14, 0), []),
  (108, (.iload 4, 2), (0, 0, 0), []),
  (110, (.if_icmp .ge 15, 3), (125, 0, 0), []),
  (113, (.iload 5, 2), (0, 0, 0), []),
  (115, (.istore_n 3, 1), (0, 0, 0), []),
  (116, (.aload_n 0, 1), (0, 0, 0), []),
  (117, (.getfield 29, 3), (5, 3, 0), []),
  (120, (.getfield 165, 3), (0, 14, 0), []),
  (123, (.istore 4, 2), (0, 0, 0), []),
  (125, (.iinc 5 1, 3), (0, 0, 0), []),
  (128, (.goto (-77), 3), (51, 0, 0), []),
  (131, (.aload_n 0, 1), (0, 0, 0), []),
  (132, (.iload_n 3, 1), (0, 0, 0), []),
  (133, (.invokevirtual 86, 3), (130, 2, 5), []),
  (136, (.ireturn, 1), (0, 0, 0), [])]
def t_X5_cheapest : List mT := [
  (0, (.iload_n 1, 1), (0, 0, 0), []),
  (1, (.iconst 1, 1), (0, 0, 0), []),
  (2, (.if_icmp .lt 9, 3), (11, 0, 0), []),
  (5, (.iload_n 1, 1), (0, 0, 0), []),
  (6, (.bipush 100, 2), (0, 0, 0), []),
  (8, (.if_icmp .le 9, 3), (17, 0, 0), []),
  (11, (.aload_n 0, 1), (0, 0, 0), []),
  (12, (.iconst 1, 1), (0, 0, 0), []),
  (13, (.invokevirtual 59, 3), (131, 2, 5), []),
  (16, (.ireturn, 1), (0, 0, 0), []),
  (17, (.aload_n 0, 1), (0, 0, 0), []),
  (18, (.getfield 25, 3), (5, 2, 0), []),
  (21, (.getfield 69, 3), (0, 0, 0), []),
  (24, (.getfield 83, 3), (2, 0, 0), []),
  (27, (.ifCond .ne 9, 3), (36, 0, 0), []),
  (30, (.aload_n 0, 1), (0, 0, 0), []),
  (31, (.iconst 5, 1), (0, 0, 0), []),
  (32, (.invokevirtual 59, 3), (131, 2, 5), []),
  (35, (.ireturn, 1), (0, 0, 0), []),
  (36, (.iconst (-1), 1), (0, 0, 0), []),
  (37, (.istore_n 2, 1), (0, 0, 0), []),
  (38, (.iconst 0, 1), (0, 0, 0), []),
  (39, (.istore_n 3, 1), (0, 0, 0), []),
  (40, (.iconst 0, 1), (0, 0, 0), []),
  (41, (.istore 4, 2), (0, 0, 0), []),
  (43, (.iload 4, 2), (0, 0, 0), []),
  (45, (.aload_n 0, 1), (0, 0, 0), []),
  (46, (.getfield 25, 3), (5, 2, 0), []),
  (49, (.getfield 69, 3), (0, 0, 0), []),
  (52, (.getfield 83, 3), (2, 0, 0), []),
  (55, (.if_icmp .ge 79, 3), (134, 0, 0), []),
  (58, (.aload_n 0, 1), (0, 0, 0), []),
  (59, (.getfield 29, 3), (5, 3, 0), []),
  (62, (.aload_n 0, 1), (0, 0, 0), []),
  (63, (.getfield 25, 3), (5, 2, 0), []),
  (66, (.invokevirtual 274, 3), (0, 2, 0), []),
  (69, (.aload_n 0, 1), (0, 0, 0), []),
  (70, (.getfield 29, 3), (5, 3, 0), []),
  (73, (.iload 4, 2), (0, 0, 0), []),
  (75, (.aload_n 0, 1), (0, 0, 0), []),
  (76, (.getfield 29, 3), (5, 3, 0), []),
  (79, (.getfield 168, 3), (0, 4, 0), []),
  (82, (.iload 4, 2), (0, 0, 0), []),
  (84, (.invokestatic 196, 3), (141, 2, 99), []),
  (87, (.bipush 10, 2), (0, 0, 0), []),
  (89, (.iadd, 1), (0, 0, 0), []),
  (90, (.invokevirtual 235, 3), (16, 3, 0), []),
  (93, (.aload_n 0, 1), (0, 0, 0), []),
  (94, (.getfield 29, 3), (5, 3, 0), []),
  (97, (.iload_n 1, 1), (0, 0, 0), []),
  (98, (.invokevirtual 261, 3), (21, 2, 0), []),
  (101, (.iload_n 2, 1), (0, 0, 0), []),
  (102, (.iconst (-1), 1), (0, 0, 0), []),
  (103, (.if_icmp .eq 14, 3), (117, 0, 0), []),
  (106, (.aload_n 0, 1), (0, 0, 0), []),
  (107, (.getfield 29, 3), (5, 3, 0), []),
  (110, (.getfield 165, 3), (0, 14, 0), []),
  (113, (.iload_n 3, 1), (0, 0, 0), []),
  (114, (.if_icmp .ge 14, 3), (128, 0, 0), []),
  (117, (.iload 4, 2), (0, 0, 0), []),
  (119, (.istore_n 2, 1), (0, 0, 0), []),
  (120, (.aload_n 0, 1), (0, 0, 0), []),
  (121, (.getfield 29, 3), (5, 3, 0), []),
  (124, (.getfield 165, 3), (0, 14, 0), []),
  (127, (.istore_n 3, 1), (0, 0, 0), []),
  (128, (.iinc 4 1, 3), (0, 0, 0), []),
  (131, (.goto (-88), 3), (43, 0, 0), []),
  (134, (.aload_n 0, 1), (0, 0, 0), []),
  (135, (.iload_n 2, 1), (0, 0, 0), []),
  (136, (.invokevirtual 86, 3), (130, 2, 5), []),
  (139, (.ireturn, 1), (0, 0, 0), [])]
def t_X5_answer : List mT := [
  (0, (.aload_n 0, 1), (0, 0, 0), []),
  (1, (.iconst 0, 1), (0, 0, 0), []),
  (2, (.putfield 52, 3), (5, 10, 0), []),
  (5, (.iload_n 1, 1), (0, 0, 0), []),
  (6, (.ireturn, 1), (0, 0, 0), [])]
def t_X5_refuse : List mT := [
  (0, (.aload_n 0, 1), (0, 0, 0), []),
  (1, (.iload_n 1, 1), (0, 0, 0), []),
  (2, (.putfield 52, 3), (5, 10, 0), []),
  (5, (.iconst (-1), 1), (0, 0, 0), []),
  (6, (.ireturn, 1), (0, 0, 0), [])]
def t_X5_grant : List mT := [
  (0, (.aload_n 0, 1), (0, 0, 0), []),
  (1, (.iconst 0, 1), (0, 0, 0), []),
  (2, (.putfield 52, 3), (5, 10, 0), []),
  (5, (.iconst 1, 1), (0, 0, 0), []),
  (6, (.ireturn, 1), (0, 0, 0), [])]
def t_X5_deny : List mT := [
  (0, (.aload_n 0, 1), (0, 0, 0), []),
  (1, (.iload_n 1, 1), (0, 0, 0), []),
  (2, (.putfield 52, 3), (5, 10, 0), []),
  (5, (.iconst 0, 1), (0, 0, 0), []),
  (6, (.ireturn, 1), (0, 0, 0), [])]
def t_X5_tapeFour : List mT := [
  (0, (.bipush 24, 2), (0, 0, 0), []),
  (2, (.istore_n 2, 1), (0, 0, 0), []),
  (3, (.iload_n 2, 1), (0, 0, 0), []),
  (4, (.ifCond .lt 44, 3), (48, 0, 0), []),
  (7, (.aload_n 0, 1), (0, 0, 0), []),
  (8, (.getfield 45, 3), (5, 8, 0), []),
  (11, (.aload_n 0, 1), (0, 0, 0), []),
  (12, (.getfield 9, 3), (5, 0, 0), []),
  (15, (.arraylength, 1), (0, 0, 0), []),
  (16, (.if_icmp .ge 26, 3), (42, 0, 0), []),
  (19, (.aload_n 0, 1), (0, 0, 0), []),
  (20, (.getfield 9, 3), (5, 0, 0), []),
  (23, (.aload_n 0, 1), (0, 0, 0), []),
  (24, (.getfield 45, 3), (5, 8, 0), []),
  (27, (.iload_n 1, 1), (0, 0, 0), []),
  (28, (.iload_n 2, 1), (0, 0, 0), []),
  (29, (.ishr, 1), (0, 0, 0), []),
  (30, (.i2b, 1), (0, 0, 0), []),
  (31, (.bastore, 1), (0, 0, 0), []),
  (32, (.aload_n 0, 1), (0, 0, 0), []),
  (33, (.dup, 1), (0, 0, 0), []),
  (34, (.getfield 45, 3), (5, 8, 0), []),
  (37, (.iconst 1, 1), (0, 0, 0), []),
  (38, (.iadd, 1), (0, 0, 0), []),
  (39, (.putfield 45, 3), (5, 8, 0), []),
  (42, (.iinc 2 (-8), 3), (0, 0, 0), []),
  (45, (.goto (-42), 3), (3, 0, 0), []),
  (48, (.return_, 1), (0, 0, 0), [])]
def t_X5_keptAt : List mT := [
  (0, (.iload_n 1, 1), (0, 0, 0), []),
  (1, (.ifCond .ne 8, 3), (9, 0, 0), []),
  (4, (.aload_n 0, 1), (0, 0, 0), []),
  (5, (.getfield 32, 3), (5, 4, 0), []),
  (8, (.areturn, 1), (0, 0, 0), []),
  (9, (.iload_n 1, 1), (0, 0, 0), []),
  (10, (.iconst 1, 1), (0, 0, 0), []),
  (11, (.if_icmp .ne 10, 3), (21, 0, 0), []),
  (14, (.aload_n 0, 1), (0, 0, 0), []),
  (15, (.getfield 35, 3), (5, 5, 0), []),
  (18, (.goto 7, 3), (25, 0, 0), []),
  (21, (.aload_n 0, 1), (0, 0, 0), []),
  (22, (.getfield 38, 3), (5, 6, 0), []),
  (25, (.areturn, 1), (0, 0, 0), [])]
def t_X5_ticksUntil : List mT := [
  (0, (.iconst 0, 1), (0, 0, 0), []),
  (1, (.istore_n 3, 1), (0, 0, 0), []),
  (2, (.iload_n 3, 1), (0, 0, 0), []),
  (3, (.sipush 600, 3), (0, 0, 0), []),
  (6, (.if_icmp .gt 47, 3), (53, 0, 0), []),
  (9, (.aload_n 0, 1), (0, 0, 0), []),
  (10, (.getfield 29, 3), (5, 3, 0), []),
  (13, (.iload_n 1, 1), (0, 0, 0), []),
  (14, (.iload_n 2, 1), (0, 0, 0), []),
  (15, (.invokevirtual 292, 3), (15, 3, 0), []),
  (18, (.ifCond .eq 9, 3), (27, 0, 0), []),
  (21, (.aload_n 0, 1), (0, 0, 0), []),
  (22, (.iload_n 3, 1), (0, 0, 0), []),
  (23, (.invokevirtual 86, 3), (130, 2, 5), []),
  (26, (.ireturn, 1), (0, 0, 0), []),
  (27, (.iload_n 1, 1), (0, 0, 0), []),
  (28, (.iconst 1, 1), (0, 0, 0), []),
  (29, (.if_icmp .ne 11, 3), (40, 0, 0), []),
  (32, (.aload_n 0, 1), (0, 0, 0), []),
  (33, (.getfield 29, 3), (5, 3, 0), []),
  (36, (.iload_n 2, 1), (0, 0, 0), []),
  (37, (.invokevirtual 295, 3), (18, 2, 0), []),
  (40, (.aload_n 0, 1), (0, 0, 0), []),
  (41, (.getfield 29, 3), (5, 3, 0), []),
  (44, (.invokevirtual 267, 3), (22, 1, 0), []),
  (47, (.iinc 3 1, 3), (0, 0, 0), []),
  (50, (.goto (-48), 3), (2, 0, 0), []),
  (53, (.aload_n 0, 1), (0, 0, 0), []),
  (54, (.bipush 6, 2), (0, 0, 0), []),
  (56, (.invokevirtual 59, 3), (131, 2, 5), []),
  (59, (.ireturn, 1), (0, 0, 0), [])]
def t_X5_isBreak : List mT := [
  (0, (.iload_n 0, 1), (0, 0, 0), []),
  (1, (.ifCond .eq 8, 3), (9, 0, 0), []),
  (4, (.iload_n 0, 1), (0, 0, 0), []),
  (5, (.iconst 1, 1), (0, 0, 0), []),
  (6, (.if_icmp .ne 7, 3), (13, 0, 0), []),
  (9, (.iconst 1, 1), (0, 0, 0), []),
  (10, (.goto 4, 3), (14, 0, 0), []),
  (13, (.iconst 0, 1), (0, 0, 0), []),
  (14, (.ireturn, 1), (0, 0, 0), [])]
def t_X5_isCycle : List mT := [
  (0, (.iload_n 0, 1), (0, 0, 0), []),
  (1, (.ifCond .eq 16, 3), (17, 0, 0), []),
  (4, (.iload_n 0, 1), (0, 0, 0), []),
  (5, (.bipush 20, 2), (0, 0, 0), []),
  (7, (.if_icmp .lt 14, 3), (21, 0, 0), []),
  (10, (.iload_n 0, 1), (0, 0, 0), []),
  (11, (.sipush 240, 3), (0, 0, 0), []),
  (14, (.if_icmp .gt 7, 3), (21, 0, 0), []),
  (17, (.iconst 1, 1), (0, 0, 0), []),
  (18, (.goto 4, 3), (22, 0, 0), []),
  (21, (.iconst 0, 1), (0, 0, 0), []),
  (22, (.ireturn, 1), (0, 0, 0), [])]
def t_X5_isOffset : List mT := [
  (0, (.iload_n 0, 1), (0, 0, 0), []),
  (1, (.ifCond .lt 14, 3), (15, 0, 0), []),
  (4, (.iload_n 0, 1), (0, 0, 0), []),
  (5, (.sipush 239, 3), (0, 0, 0), []),
  (8, (.if_icmp .gt 7, 3), (15, 0, 0), []),
  (11, (.iconst 1, 1), (0, 0, 0), []),
  (12, (.goto 4, 3), (16, 0, 0), []),
  (15, (.iconst 0, 1), (0, 0, 0), []),
  (16, (.ireturn, 1), (0, 0, 0), [])]
def t_X5_isDwell : List mT := [
  (0, (.iload_n 0, 1), (0, 0, 0), []),
  (1, (.ifCond .lt 13, 3), (14, 0, 0), []),
  (4, (.iload_n 0, 1), (0, 0, 0), []),
  (5, (.bipush 30, 2), (0, 0, 0), []),
  (7, (.if_icmp .gt 7, 3), (14, 0, 0), []),
  (10, (.iconst 1, 1), (0, 0, 0), []),
  (11, (.goto 4, 3), (15, 0, 0), []),
  (14, (.iconst 0, 1), (0, 0, 0), []),
  (15, (.ireturn, 1), (0, 0, 0), [])]
def t_X5_cell : List mT := [
  (0, (.iload_n 1, 1), (0, 0, 0), []),
  (1, (.ifCond .lt 15, 3), (16, 0, 0), []),
  (4, (.iload_n 1, 1), (0, 0, 0), []),
  (5, (.aload_n 0, 1), (0, 0, 0), []),
  (6, (.arraylength, 1), (0, 0, 0), []),
  (7, (.if_icmp .ge 9, 3), (16, 0, 0), []),
  (10, (.aload_n 0, 1), (0, 0, 0), []),
  (11, (.iload_n 1, 1), (0, 0, 0), []),
  (12, (.iaload, 1), (0, 0, 0), []),
  (13, (.goto 4, 3), (17, 0, 0), []),
  (16, (.iconst 0, 1), (0, 0, 0), []),
  (17, (.ireturn, 1), (0, 0, 0), [])]
def t_X5_put : List mT := [
  (0, (.iload_n 1, 1), (0, 0, 0), []),
  (1, (.ifCond .lt 13, 3), (14, 0, 0), []),
  (4, (.iload_n 1, 1), (0, 0, 0), []),
  (5, (.aload_n 0, 1), (0, 0, 0), []),
  (6, (.arraylength, 1), (0, 0, 0), []),
  (7, (.if_icmp .ge 7, 3), (14, 0, 0), []),
  (10, (.aload_n 0, 1), (0, 0, 0), []),
  (11, (.iload_n 1, 1), (0, 0, 0), []),
  (12, (.iload_n 2, 1), (0, 0, 0), []),
  (13, (.iastore, 1), (0, 0, 0), []),
  (14, (.return_, 1), (0, 0, 0), [])]
def t_X5_copyRow : List mT := [
  (0, (.aload_n 0, 1), (0, 0, 0), []),
  (1, (.iconst 0, 1), (0, 0, 0), []),
  (2, (.aload_n 1, 1), (0, 0, 0), []),
  (3, (.iconst 0, 1), (0, 0, 0), []),
  (4, (.aload_n 0, 1), (0, 0, 0), []),
  (5, (.arraylength, 1), (0, 0, 0), []),
  (6, (.aload_n 1, 1), (0, 0, 0), []),
  (7, (.arraylength, 1), (0, 0, 0), []),
  (8, (.invokestatic 298, 3), (277, 2, 99), []),
  (11, (.invokestatic 303, 3), (999, 0, 0), []),
  (14, (.return_, 1), (0, 0, 0), [])]
def t_X5_fillRow : List mT := [
  (0, (.iconst 0, 1), (0, 0, 0), []),
  (1, (.istore_n 2, 1), (0, 0, 0), []),
  (2, (.iload_n 2, 1), (0, 0, 0), []),
  (3, (.aload_n 0, 1), (0, 0, 0), []),
  (4, (.arraylength, 1), (0, 0, 0), []),
  (5, (.if_icmp .ge 13, 3), (18, 0, 0), []),
  (8, (.aload_n 0, 1), (0, 0, 0), []),
  (9, (.iload_n 2, 1), (0, 0, 0), []),
  (10, (.iload_n 1, 1), (0, 0, 0), []),
  (11, (.iastore, 1), (0, 0, 0), []),
  (12, (.iinc 2 1, 3), (0, 0, 0), []),
  (15, (.goto (-13), 3), (2, 0, 0), []),
  (18, (.return_, 1), (0, 0, 0), [])]
def t_X5_total : List mT := [
  (0, (.iconst 0, 1), (0, 0, 0), []),
  (1, (.istore_n 1, 1), (0, 0, 0), []),
  (2, (.iconst 0, 1), (0, 0, 0), []),
  (3, (.istore_n 2, 1), (0, 0, 0), []),
  (4, (.iload_n 2, 1), (0, 0, 0), []),
  (5, (.aload_n 0, 1), (0, 0, 0), []),
  (6, (.arraylength, 1), (0, 0, 0), []),
  (7, (.if_icmp .ge 15, 3), (22, 0, 0), []),
  (10, (.iload_n 1, 1), (0, 0, 0), []),
  (11, (.aload_n 0, 1), (0, 0, 0), []),
  (12, (.iload_n 2, 1), (0, 0, 0), []),
  (13, (.iaload, 1), (0, 0, 0), []),
  (14, (.iadd, 1), (0, 0, 0), []),
  (15, (.istore_n 1, 1), (0, 0, 0), []),
  (16, (.iinc 2 1, 3), (0, 0, 0), []),
  (19, (.goto (-15), 3), (4, 0, 0), []),
  (22, (.iload_n 1, 1), (0, 0, 0), []),
  (23, (.ireturn, 1), (0, 0, 0), [])]
def t_X5_bit : List mT := [
  (0, (.iload_n 0, 1), (0, 0, 0), []),
  (1, (.ifCond .lt 9, 3), (10, 0, 0), []),
  (4, (.iload_n 0, 1), (0, 0, 0), []),
  (5, (.bipush 8, 2), (0, 0, 0), []),
  (7, (.if_icmp .lt 7, 3), (14, 0, 0), []),
  (10, (.iconst 0, 1), (0, 0, 0), []),
  (11, (.goto 6, 3), (17, 0, 0), []),
  (14, (.iconst 1, 1), (0, 0, 0), []),
  (15, (.iload_n 0, 1), (0, 0, 0), []),
  (16, (.ishl, 1), (0, 0, 0), []),
  (17, (.ireturn, 1), (0, 0, 0), [])]
def t_X5_withBit : List mT := [
  (0, (.iload_n 2, 1), (0, 0, 0), []),
  (1, (.ifCond .eq 12, 3), (13, 0, 0), []),
  (4, (.iload_n 0, 1), (0, 0, 0), []),
  (5, (.iload_n 1, 1), (0, 0, 0), []),
  (6, (.invokestatic 225, 3), (146, 1, 99), []),
  (9, (.ior, 1), (0, 0, 0), []),
  (10, (.goto 11, 3), (21, 0, 0), []),
  (13, (.iload_n 0, 1), (0, 0, 0), []),
  (14, (.iload_n 1, 1), (0, 0, 0), []),
  (15, (.invokestatic 225, 3), (146, 1, 99), []),
  (18, (.iconst (-1), 1), (0, 0, 0), []),
  (19, (.ixor, 1), (0, 0, 0), []),
  (20, (.iand, 1), (0, 0, 0), []),
  (21, (.ireturn, 1), (0, 0, 0), [])]
def t_X5_inSet : List mT := [
  (0, (.iload_n 1, 1), (0, 0, 0), []),
  (1, (.ifCond .lt 21, 3), (22, 0, 0), []),
  (4, (.iload_n 1, 1), (0, 0, 0), []),
  (5, (.bipush 8, 2), (0, 0, 0), []),
  (7, (.if_icmp .ge 15, 3), (22, 0, 0), []),
  (10, (.iload_n 0, 1), (0, 0, 0), []),
  (11, (.iload_n 1, 1), (0, 0, 0), []),
  (12, (.ishr, 1), (0, 0, 0), []),
  (13, (.iconst 1, 1), (0, 0, 0), []),
  (14, (.iand, 1), (0, 0, 0), []),
  (15, (.ifCond .eq 7, 3), (22, 0, 0), []),
  (18, (.iconst 1, 1), (0, 0, 0), []),
  (19, (.goto 4, 3), (23, 0, 0), []),
  (22, (.iconst 0, 1), (0, 0, 0), []),
  (23, (.ireturn, 1), (0, 0, 0), [])]
def t_X5_firstIn : List mT := [
  (0, (.iconst 0, 1), (0, 0, 0), []),
  (1, (.istore_n 1, 1), (0, 0, 0), []),
  (2, (.iload_n 1, 1), (0, 0, 0), []),
  (3, (.bipush 8, 2), (0, 0, 0), []),
  (5, (.if_icmp .ge 19, 3), (24, 0, 0), []),
  (8, (.iload_n 0, 1), (0, 0, 0), []),
  (9, (.iload_n 1, 1), (0, 0, 0), []),
  (10, (.ishr, 1), (0, 0, 0), []),
  (11, (.iconst 1, 1), (0, 0, 0), []),
  (12, (.iand, 1), (0, 0, 0), []),
  (13, (.ifCond .eq 5, 3), (18, 0, 0), []),
  (16, (.iload_n 1, 1), (0, 0, 0), []),
  (17, (.ireturn, 1), (0, 0, 0), []),
  (18, (.iinc 1 1, 3), (0, 0, 0), []),
  (21, (.goto (-19), 3), (2, 0, 0), []),
  (24, (.iconst (-1), 1), (0, 0, 0), []),
  (25, (.ireturn, 1), (0, 0, 0), [])]
def t_X6_status : List mT := [
  (0, (.aload_n 0, 1), (0, 0, 0), []),
  (1, (.getfield 36, 3), (6, 1, 0), []),
  (4, (.ireturn, 1), (0, 0, 0), [])]
def t_X6_refuse : List mT := [
  (0, (.aload_n 0, 1), (0, 0, 0), []),
  (1, (.iload_n 1, 1), (0, 0, 0), []),
  (2, (.putfield 36, 3), (6, 1, 0), []),
  (5, (.iconst (-1), 1), (0, 0, 0), []),
  (6, (.ireturn, 1), (0, 0, 0), [])]
def t_X6_isSo : List mT := [
  (0, (.aload_n 0, 1), (0, 0, 0), []),
  (1, (.iload_n 1, 1), (0, 0, 0), []),
  (2, (.putfield 36, 3), (6, 1, 0), []),
  (5, (.iload_n 1, 1), (0, 0, 0), []),
  (6, (.ifCond .ne 7, 3), (13, 0, 0), []),
  (9, (.iconst 1, 1), (0, 0, 0), []),
  (10, (.goto 4, 3), (14, 0, 0), []),
  (13, (.iconst 0, 1), (0, 0, 0), []),
  (14, (.ireturn, 1), (0, 0, 0), [])]
def t_X6_gives : List mT := [
  (0, (.aload_n 0, 1), (0, 0, 0), []),
  (1, (.iconst 0, 1), (0, 0, 0), []),
  (2, (.putfield 36, 3), (6, 1, 0), []),
  (5, (.iload_n 1, 1), (0, 0, 0), []),
  (6, (.ireturn, 1), (0, 0, 0), [])]
def t_X6_isFrom : List mT := [
  (0, (.iload_n 0, 1), (0, 0, 0), []),
  (1, (.iload_n 1, 1), (0, 0, 0), []),
  (2, (.if_icmp .lt 12, 3), (14, 0, 0), []),
  (5, (.iload_n 0, 1), (0, 0, 0), []),
  (6, (.iload_n 2, 1), (0, 0, 0), []),
  (7, (.if_icmp .gt 7, 3), (14, 0, 0), []),
  (10, (.iconst 1, 1), (0, 0, 0), []),
  (11, (.goto 4, 3), (15, 0, 0), []),
  (14, (.iconst 0, 1), (0, 0, 0), []),
  (15, (.ireturn, 1), (0, 0, 0), [])]
def t_X6_has : List mT := [
  (0, (.iload_n 0, 1), (0, 0, 0), []),
  (1, (.iload_n 1, 1), (0, 0, 0), []),
  (2, (.ishr, 1), (0, 0, 0), []),
  (3, (.iconst 1, 1), (0, 0, 0), []),
  (4, (.iand, 1), (0, 0, 0), []),
  (5, (.iconst 1, 1), (0, 0, 0), []),
  (6, (.if_icmp .ne 7, 3), (13, 0, 0), []),
  (9, (.iconst 1, 1), (0, 0, 0), []),
  (10, (.goto 4, 3), (14, 0, 0), []),
  (13, (.iconst 0, 1), (0, 0, 0), []),
  (14, (.ireturn, 1), (0, 0, 0), [])]
def t_X6_left : List mT := [
  (0, (.iload_n 0, 1), (0, 0, 0), []),
  (1, (.iload_n 1, 1), (0, 0, 0), []),
  (2, (.irem, 1), (0, 0, 0), []),
  (3, (.istore_n 2, 1), (0, 0, 0), []),
  (4, (.iload_n 2, 1), (0, 0, 0), []),
  (5, (.ifCond .ge 9, 3), (14, 0, 0), []),
  (8, (.iload_n 2, 1), (0, 0, 0), []),
  (9, (.iload_n 1, 1), (0, 0, 0), []),
  (10, (.iadd, 1), (0, 0, 0), []),
  (11, (.goto 4, 3), (15, 0, 0), []),
  (14, (.iload_n 2, 1), (0, 0, 0), []),
  (15, (.ireturn, 1), (0, 0, 0), [])]
def t_X6_of : List mT := [
  (0, (.aload_n 0, 1), (0, 0, 0), []),
  (1, (.getfield 7, 3), (6, 0, 0), []),
  (4, (.iload_n 1, 1), (0, 0, 0), []),
  (5, (.iaload, 1), (0, 0, 0), []),
  (6, (.ireturn, 1), (0, 0, 0), [])]
def t_X6_puts : List mT := [
  (0, (.aload_n 0, 1), (0, 0, 0), []),
  (1, (.getfield 7, 3), (6, 0, 0), []),
  (4, (.iload_n 1, 1), (0, 0, 0), []),
  (5, (.iload_n 2, 1), (0, 0, 0), []),
  (6, (.iastore, 1), (0, 0, 0), []),
  (7, (.return_, 1), (0, 0, 0), [])]
def t_X6_adds : List mT := [
  (0, (.aload_n 0, 1), (0, 0, 0), []),
  (1, (.getfield 7, 3), (6, 0, 0), []),
  (4, (.iload_n 1, 1), (0, 0, 0), []),
  (5, (.dup2, 1), (0, 0, 0), []),
  (6, (.iaload, 1), (0, 0, 0), []),
  (7, (.iload_n 2, 1), (0, 0, 0), []),
  (8, (.iadd, 1), (0, 0, 0), []),
  (9, (.iastore, 1), (0, 0, 0), []),
  (10, (.return_, 1), (0, 0, 0), [])]
def t_X6_copies : List mT := [
  (0, (.iconst 0, 1), (0, 0, 0), []),
  (1, (.istore_n 3, 1), (0, 0, 0), []),
  (2, (.iload_n 3, 1), (0, 0, 0), []),
  (3, (.sipush 288, 3), (0, 0, 0), []),
  (6, (.if_icmp .ge 25, 3), (31, 0, 0), []),
  (9, (.aload_n 0, 1), (0, 0, 0), []),
  (10, (.getfield 7, 3), (6, 0, 0), []),
  (13, (.iload_n 2, 1), (0, 0, 0), []),
  (14, (.iload_n 3, 1), (0, 0, 0), []),
  (15, (.iadd, 1), (0, 0, 0), []),
  (16, (.aload_n 0, 1), (0, 0, 0), []),
  (17, (.getfield 7, 3), (6, 0, 0), []),
  (20, (.iload_n 1, 1), (0, 0, 0), []),
  (21, (.iload_n 3, 1), (0, 0, 0), []),
  (22, (.iadd, 1), (0, 0, 0), []),
  (23, (.iaload, 1), (0, 0, 0), []),
  (24, (.iastore, 1), (0, 0, 0), []),
  (25, (.iinc 3 1, 3), (0, 0, 0), []),
  (28, (.goto (-26), 3), (2, 0, 0), []),
  (31, (.return_, 1), (0, 0, 0), [])]
def t_X6_ring : List mT := [
  (0, (.bipush 16, 2), (0, 0, 0), []),
  (2, (.bipush 8, 2), (0, 0, 0), []),
  (4, (.iload_n 0, 1), (0, 0, 0), []),
  (5, (.imul, 1), (0, 0, 0), []),
  (6, (.iadd, 1), (0, 0, 0), []),
  (7, (.ireturn, 1), (0, 0, 0), [])]
def t_X6_ofRing : List mT := [
  (0, (.aload_n 0, 1), (0, 0, 0), []),
  (1, (.iload_n 1, 1), (0, 0, 0), []),
  (2, (.invokestatic 39, 3), (161, 1, 99), []),
  (5, (.iload_n 2, 1), (0, 0, 0), []),
  (6, (.iadd, 1), (0, 0, 0), []),
  (7, (.invokevirtual 43, 3), (157, 2, 6), []),
  (10, (.ireturn, 1), (0, 0, 0), [])]
def t_X6_putsRing : List mT := [
  (0, (.aload_n 0, 1), (0, 0, 0), []),
  (1, (.iload_n 1, 1), (0, 0, 0), []),
  (2, (.invokestatic 39, 3), (161, 1, 99), []),
  (5, (.iload_n 2, 1), (0, 0, 0), []),
  (6, (.iadd, 1), (0, 0, 0), []),
  (7, (.iload_n 3, 1), (0, 0, 0), []),
  (8, (.invokevirtual 46, 3), (158, 3, 6), []),
  (11, (.return_, 1), (0, 0, 0), [])]
def t_X6_ofPhase : List mT := [
  (0, (.aload_n 0, 1), (0, 0, 0), []),
  (1, (.bipush 32, 2), (0, 0, 0), []),
  (3, (.bipush 18, 2), (0, 0, 0), []),
  (5, (.iload_n 1, 1), (0, 0, 0), []),
  (6, (.imul, 1), (0, 0, 0), []),
  (7, (.iadd, 1), (0, 0, 0), []),
  (8, (.iload_n 2, 1), (0, 0, 0), []),
  (9, (.iadd, 1), (0, 0, 0), []),
  (10, (.invokevirtual 43, 3), (157, 2, 6), []),
  (13, (.ireturn, 1), (0, 0, 0), [])]
def t_X6_putsPhase : List mT := [
  (0, (.aload_n 0, 1), (0, 0, 0), []),
  (1, (.bipush 32, 2), (0, 0, 0), []),
  (3, (.bipush 18, 2), (0, 0, 0), []),
  (5, (.iload_n 1, 1), (0, 0, 0), []),
  (6, (.imul, 1), (0, 0, 0), []),
  (7, (.iadd, 1), (0, 0, 0), []),
  (8, (.iload_n 2, 1), (0, 0, 0), []),
  (9, (.iadd, 1), (0, 0, 0), []),
  (10, (.iload_n 3, 1), (0, 0, 0), []),
  (11, (.invokevirtual 46, 3), (158, 3, 6), []),
  (14, (.return_, 1), (0, 0, 0), [])]
def t_X6_mark : List mT := [
  (0, (.aload_n 0, 1), (0, 0, 0), []),
  (1, (.iload_n 1, 1), (0, 0, 0), []),
  (2, (.iconst 2, 1), (0, 0, 0), []),
  (3, (.iload_n 2, 1), (0, 0, 0), []),
  (4, (.iadd, 1), (0, 0, 0), []),
  (5, (.invokevirtual 50, 3), (164, 3, 6), []),
  (8, (.ireturn, 1), (0, 0, 0), [])]
def t_X6_isPhase : List mT := [
  (0, (.iload_n 1, 1), (0, 0, 0), []),
  (1, (.ifCond .lt 16, 3), (17, 0, 0), []),
  (4, (.iload_n 1, 1), (0, 0, 0), []),
  (5, (.aload_n 0, 1), (0, 0, 0), []),
  (6, (.iconst 0, 1), (0, 0, 0), []),
  (7, (.invokevirtual 43, 3), (157, 2, 6), []),
  (10, (.if_icmp .ge 7, 3), (17, 0, 0), []),
  (13, (.iconst 1, 1), (0, 0, 0), []),
  (14, (.goto 4, 3), (18, 0, 0), []),
  (17, (.iconst 0, 1), (0, 0, 0), []),
  (18, (.ireturn, 1), (0, 0, 0), [])]
def t_X6_begins : List mT := [
  (0, (.iconst 0, 1), (0, 0, 0), []),
  (1, (.istore_n 1, 1), (0, 0, 0), []),
  (2, (.iload_n 1, 1), (0, 0, 0), []),
  (3, (.sipush 288, 3), (0, 0, 0), []),
  (6, (.if_icmp .ge 15, 3), (21, 0, 0), []),
  (9, (.aload_n 0, 1), (0, 0, 0), []),
  (10, (.iload_n 1, 1), (0, 0, 0), []),
  (11, (.iconst 0, 1), (0, 0, 0), []),
  (12, (.invokevirtual 46, 3), (158, 3, 6), []),
  (15, (.iinc 1 1, 3), (0, 0, 0), []),
  (18, (.goto (-16), 3), (2, 0, 0), []),
  (21, (.aload_n 0, 1), (0, 0, 0), []),
  (22, (.bipush 7, 2), (0, 0, 0), []),
  (24, (.iconst (-1), 1), (0, 0, 0), []),
  (25, (.invokevirtual 46, 3), (158, 3, 6), []),
  (28, (.return_, 1), (0, 0, 0), [])]
def t_X6_areFoes : List mT := [
  (0, (.iload_n 1, 1), (0, 0, 0), []),
  (1, (.iload_n 2, 1), (0, 0, 0), []),
  (2, (.if_icmp .eq 37, 3), (39, 0, 0), []),
  (5, (.aload_n 0, 1), (0, 0, 0), []),
  (6, (.iload_n 1, 1), (0, 0, 0), []),
  (7, (.iconst 0, 1), (0, 0, 0), []),
  (8, (.invokevirtual 50, 3), (164, 3, 6), []),
  (11, (.aload_n 0, 1), (0, 0, 0), []),
  (12, (.iload_n 2, 1), (0, 0, 0), []),
  (13, (.iconst 0, 1), (0, 0, 0), []),
  (14, (.invokevirtual 50, 3), (164, 3, 6), []),
  (17, (.if_icmp .eq 18, 3), (35, 0, 0), []),
  (20, (.aload_n 0, 1), (0, 0, 0), []),
  (21, (.iload_n 1, 1), (0, 0, 0), []),
  (22, (.iconst 1, 1), (0, 0, 0), []),
  (23, (.invokevirtual 50, 3), (164, 3, 6), []),
  (26, (.aload_n 0, 1), (0, 0, 0), []),
  (27, (.iload_n 2, 1), (0, 0, 0), []),
  (28, (.iconst 1, 1), (0, 0, 0), []),
  (29, (.invokevirtual 50, 3), (164, 3, 6), []),
  (32, (.if_icmp .eq 7, 3), (39, 0, 0), []),
  (35, (.iconst 1, 1), (0, 0, 0), []),
  (36, (.goto 4, 3), (40, 0, 0), []),
  (39, (.iconst 0, 1), (0, 0, 0), []),
  (40, (.ireturn, 1), (0, 0, 0), [])]
def t_X6_foesOf : List mT := [
  (0, (.iconst 0, 1), (0, 0, 0), []),
  (1, (.istore_n 2, 1), (0, 0, 0), []),
  (2, (.iconst 0, 1), (0, 0, 0), []),
  (3, (.istore_n 3, 1), (0, 0, 0), []),
  (4, (.iload_n 3, 1), (0, 0, 0), []),
  (5, (.aload_n 0, 1), (0, 0, 0), []),
  (6, (.iconst 0, 1), (0, 0, 0), []),
  (7, (.invokevirtual 43, 3), (157, 2, 6), []),
  (10, (.if_icmp .ge 28, 3), (38, 0, 0), []),
  (13, (.iload_n 2, 1), (0, 0, 0), []),
  (14, (.aload_n 0, 1), (0, 0, 0), []),
  (15, (.iload_n 1, 1), (0, 0, 0), []),
  (16, (.iload_n 3, 1), (0, 0, 0), []),
  (17, (.invokevirtual 54, 3), (169, 3, 6), []),
  (20, (.ifCond .eq 9, 3), (29, 0, 0), []),
  (23, (.iconst 1, 1), (0, 0, 0), []),
  (24, (.iload_n 3, 1), (0, 0, 0), []),
  (25, (.ishl, 1), (0, 0, 0), []),
  (26, (.goto 4, 3), (30, 0, 0), []),
  (29, (.iconst 0, 1), (0, 0, 0), []),
  (30, (.ior, 1), (0, 0, 0), []),
  (31, (.istore_n 2, 1), (0, 0, 0), []),
  (32, (.iinc 3 1, 3), (0, 0, 0), []),
  (35, (.goto (-31), 3), (4, 0, 0), []),
  (38, (.iload_n 2, 1), (0, 0, 0), []),
  (39, (.ireturn, 1), (0, 0, 0), [])]
def t_X6_isPeace : List mT := [
  (0, (.iconst 0, 1), (0, 0, 0), []),
  (1, (.istore_n 2, 1), (0, 0, 0), []),
  (2, (.iload_n 2, 1), (0, 0, 0), []),
  (3, (.aload_n 0, 1), (0, 0, 0), []),
  (4, (.iconst 0, 1), (0, 0, 0), []),
  (5, (.invokevirtual 43, 3), (157, 2, 6), []),
  (8, (.if_icmp .ge 29, 3), (37, 0, 0), []),
  (11, (.iload_n 1, 1), (0, 0, 0), []),
  (12, (.iload_n 2, 1), (0, 0, 0), []),
  (13, (.invokestatic 58, 3), (155, 2, 99), []),
  (16, (.ifCond .eq 15, 3), (31, 0, 0), []),
  (19, (.aload_n 0, 1), (0, 0, 0), []),
  (20, (.iload_n 2, 1), (0, 0, 0), []),
  (21, (.invokevirtual 61, 3), (170, 2, 6), []),
  (24, (.iload_n 1, 1), (0, 0, 0), []),
  (25, (.iand, 1), (0, 0, 0), []),
  (26, (.ifCond .eq 5, 3), (31, 0, 0), []),
  (29, (.iconst 0, 1), (0, 0, 0), []),
  (30, (.ireturn, 1), (0, 0, 0), []),
  (31, (.iinc 2 1, 3), (0, 0, 0), []),
  (34, (.goto (-32), 3), (2, 0, 0), []),
  (37, (.iconst 1, 1), (0, 0, 0), []),
  (38, (.ireturn, 1), (0, 0, 0), [])]
def t_X6_firstOf : List mT := [
  (0, (.iload_n 3, 1), (0, 0, 0), []),
  (1, (.iconst 1, 1), (0, 0, 0), []),
  (2, (.iadd, 1), (0, 0, 0), []),
  (3, (.istore 5, 2), (0, 0, 0), []),
  (5, (.iload 5, 2), (0, 0, 0), []),
  (7, (.aload_n 0, 1), (0, 0, 0), []),
  (8, (.iconst 0, 1), (0, 0, 0), []),
  (9, (.invokevirtual 43, 3), (157, 2, 6), []),
  (12, (.if_icmp .ge 48, 3), (60, 0, 0), []),
  (15, (.aload_n 0, 1), (0, 0, 0), []),
  (16, (.iload 5, 2), (0, 0, 0), []),
  (18, (.iconst 0, 1), (0, 0, 0), []),
  (19, (.invokevirtual 50, 3), (164, 3, 6), []),
  (22, (.iload_n 1, 1), (0, 0, 0), []),
  (23, (.if_icmp .ne 31, 3), (54, 0, 0), []),
  (26, (.aload_n 0, 1), (0, 0, 0), []),
  (27, (.iload 5, 2), (0, 0, 0), []),
  (29, (.iconst 1, 1), (0, 0, 0), []),
  (30, (.invokevirtual 50, 3), (164, 3, 6), []),
  (33, (.iload_n 2, 1), (0, 0, 0), []),
  (34, (.if_icmp .ne 20, 3), (54, 0, 0), []),
  (37, (.iload 4, 2), (0, 0, 0), []),
  (39, (.ifCond .eq 12, 3), (51, 0, 0), []),
  (42, (.aload_n 0, 1), (0, 0, 0), []),
  (43, (.iload 5, 2), (0, 0, 0), []),
  (45, (.invokevirtual 64, 3), (177, 2, 6), []),
  (48, (.ifCond .eq 6, 3), (54, 0, 0), []),
  (51, (.iload 5, 2), (0, 0, 0), []),
  (53, (.ireturn, 1), (0, 0, 0), []),
  (54, (.iinc 5 1, 3), (0, 0, 0), []),
  (57, (.goto (-52), 3), (5, 0, 0), []),
  (60, (.iconst (-1), 1), (0, 0, 0), []),
  (61, (.ireturn, 1), (0, 0, 0), [])]
def t_X6_starts : List mT := [
  (0, (.iconst (-1), 1), (0, 0, 0), []),
  (1, (.istore_n 1, 1), (0, 0, 0), []),
  (2, (.iconst 0, 1), (0, 0, 0), []),
  (3, (.istore_n 2, 1), (0, 0, 0), []),
  (4, (.iload_n 2, 1), (0, 0, 0), []),
  (5, (.iconst 2, 1), (0, 0, 0), []),
  (6, (.if_icmp .ge 23, 3), (29, 0, 0), []),
  (9, (.iload_n 1, 1), (0, 0, 0), []),
  (10, (.iconst (-1), 1), (0, 0, 0), []),
  (11, (.if_icmp .ne 18, 3), (29, 0, 0), []),
  (14, (.aload_n 0, 1), (0, 0, 0), []),
  (15, (.iload_n 2, 1), (0, 0, 0), []),
  (16, (.iconst 0, 1), (0, 0, 0), []),
  (17, (.iconst (-1), 1), (0, 0, 0), []),
  (18, (.iconst 0, 1), (0, 0, 0), []),
  (19, (.invokevirtual 68, 3), (172, 5, 6), []),
  (22, (.istore_n 1, 1), (0, 0, 0), []),
  (23, (.iinc 2 1, 3), (0, 0, 0), []),
  (26, (.goto (-22), 3), (4, 0, 0), []),
  (29, (.iconst 0, 1), (0, 0, 0), []),
  (30, (.istore_n 2, 1), (0, 0, 0), []),
  (31, (.iload_n 2, 1), (0, 0, 0), []),
  (32, (.iconst 2, 1), (0, 0, 0), []),
  (33, (.if_icmp .ge 37, 3), (70, 0, 0), []),
  (36, (.aload_n 0, 1), (0, 0, 0), []),
  (37, (.iload_n 2, 1), (0, 0, 0), []),
  (38, (.invokevirtual 72, 3), (174, 2, 6), []),
  (41, (.aload_n 0, 1), (0, 0, 0), []),
  (42, (.iload_n 2, 1), (0, 0, 0), []),
  (43, (.iconst 3, 1), (0, 0, 0), []),
  (44, (.aload_n 0, 1), (0, 0, 0), []),
  (45, (.iload_n 2, 1), (0, 0, 0), []),
  (46, (.iload_n 1, 1), (0, 0, 0), []),
  (47, (.iconst (-1), 1), (0, 0, 0), []),
  (48, (.if_icmp .ne 7, 3), (55, 0, 0), []),
  (51, (.iconst 1, 1), (0, 0, 0), []),
  (52, (.goto 4, 3), (56, 0, 0), []),
  (55, (.iconst 0, 1), (0, 0, 0), []),
  (56, (.iconst (-1), 1), (0, 0, 0), []),
  (57, (.iconst 0, 1), (0, 0, 0), []),
  (58, (.invokevirtual 68, 3), (172, 5, 6), []),
  (61, (.invokevirtual 76, 3), (163, 4, 6), []),
  (64, (.iinc 2 1, 3), (0, 0, 0), []),
  (67, (.goto (-36), 3), (31, 0, 0), []),
  (70, (.return_, 1), (0, 0, 0), [])]
def t_X6_clearsRing : List mT := [
  (0, (.iconst 0, 1), (0, 0, 0), []),
  (1, (.istore_n 2, 1), (0, 0, 0), []),
  (2, (.iload_n 2, 1), (0, 0, 0), []),
  (3, (.bipush 8, 2), (0, 0, 0), []),
  (5, (.if_icmp .ge 16, 3), (21, 0, 0), []),
  (8, (.aload_n 0, 1), (0, 0, 0), []),
  (9, (.iload_n 1, 1), (0, 0, 0), []),
  (10, (.iload_n 2, 1), (0, 0, 0), []),
  (11, (.iconst 0, 1), (0, 0, 0), []),
  (12, (.invokevirtual 76, 3), (163, 4, 6), []),
  (15, (.iinc 2 1, 3), (0, 0, 0), []),
  (18, (.goto (-16), 3), (2, 0, 0), []),
  (21, (.aload_n 0, 1), (0, 0, 0), []),
  (22, (.iload_n 1, 1), (0, 0, 0), []),
  (23, (.iconst 0, 1), (0, 0, 0), []),
  (24, (.iconst (-1), 1), (0, 0, 0), []),
  (25, (.invokevirtual 76, 3), (163, 4, 6), []),
  (28, (.aload_n 0, 1), (0, 0, 0), []),
  (29, (.iload_n 1, 1), (0, 0, 0), []),
  (30, (.iconst 1, 1), (0, 0, 0), []),
  (31, (.iconst 3, 1), (0, 0, 0), []),
  (32, (.invokevirtual 76, 3), (163, 4, 6), []),
  (35, (.aload_n 0, 1), (0, 0, 0), []),
  (36, (.iload_n 1, 1), (0, 0, 0), []),
  (37, (.iconst 3, 1), (0, 0, 0), []),
  (38, (.iconst (-1), 1), (0, 0, 0), []),
  (39, (.invokevirtual 76, 3), (163, 4, 6), []),
  (42, (.return_, 1), (0, 0, 0), [])]
def t_X6_isCalled : List mT := [
  (0, (.aload_n 0, 1), (0, 0, 0), []),
  (1, (.iload_n 1, 1), (0, 0, 0), []),
  (2, (.bipush 13, 2), (0, 0, 0), []),
  (4, (.invokevirtual 50, 3), (164, 3, 6), []),
  (7, (.iconst 1, 1), (0, 0, 0), []),
  (8, (.if_icmp .eq 23, 3), (31, 0, 0), []),
  (11, (.aload_n 0, 1), (0, 0, 0), []),
  (12, (.iload_n 1, 1), (0, 0, 0), []),
  (13, (.bipush 12, 2), (0, 0, 0), []),
  (15, (.invokevirtual 50, 3), (164, 3, 6), []),
  (18, (.ifCond .gt 13, 3), (31, 0, 0), []),
  (21, (.aload_n 0, 1), (0, 0, 0), []),
  (22, (.iload_n 1, 1), (0, 0, 0), []),
  (23, (.bipush 7, 2), (0, 0, 0), []),
  (25, (.invokevirtual 80, 3), (166, 3, 6), []),
  (28, (.ifCond .eq 7, 3), (35, 0, 0), []),
  (31, (.iconst 1, 1), (0, 0, 0), []),
  (32, (.goto 4, 3), (36, 0, 0), []),
  (35, (.iconst 0, 1), (0, 0, 0), []),
  (36, (.ireturn, 1), (0, 0, 0), [])]
def t_X6_isOnFoot : List mT := [
  (0, (.aload_n 0, 1), (0, 0, 0), []),
  (1, (.iload_n 1, 1), (0, 0, 0), []),
  (2, (.iconst 5, 1), (0, 0, 0), []),
  (3, (.invokevirtual 80, 3), (166, 3, 6), []),
  (6, (.ifCond .le 29, 3), (35, 0, 0), []),
  (9, (.aload_n 0, 1), (0, 0, 0), []),
  (10, (.iload_n 1, 1), (0, 0, 0), []),
  (11, (.bipush 14, 2), (0, 0, 0), []),
  (13, (.invokevirtual 50, 3), (164, 3, 6), []),
  (16, (.iconst 1, 1), (0, 0, 0), []),
  (17, (.if_icmp .eq 14, 3), (31, 0, 0), []),
  (20, (.aload_n 0, 1), (0, 0, 0), []),
  (21, (.iload_n 1, 1), (0, 0, 0), []),
  (22, (.bipush 7, 2), (0, 0, 0), []),
  (24, (.invokevirtual 80, 3), (166, 3, 6), []),
  (27, (.iconst 3, 1), (0, 0, 0), []),
  (28, (.if_icmp .ne 7, 3), (35, 0, 0), []),
  (31, (.iconst 1, 1), (0, 0, 0), []),
  (32, (.goto 4, 3), (36, 0, 0), []),
  (35, (.iconst 0, 1), (0, 0, 0), []),
  (36, (.ireturn, 1), (0, 0, 0), [])]
def t_X6_isAsked : List mT := [
  (0, (.aload_n 0, 1), (0, 0, 0), []),
  (1, (.iload_n 1, 1), (0, 0, 0), []),
  (2, (.invokevirtual 83, 3), (175, 2, 6), []),
  (5, (.ifCond .ne 11, 3), (16, 0, 0), []),
  (8, (.aload_n 0, 1), (0, 0, 0), []),
  (9, (.iload_n 1, 1), (0, 0, 0), []),
  (10, (.invokevirtual 86, 3), (176, 2, 6), []),
  (13, (.ifCond .eq 7, 3), (20, 0, 0), []),
  (16, (.iconst 1, 1), (0, 0, 0), []),
  (17, (.goto 4, 3), (21, 0, 0), []),
  (20, (.iconst 0, 1), (0, 0, 0), []),
  (21, (.ireturn, 1), (0, 0, 0), [])]
def t_X6_isFoeAsked : List mT := [
  (0, (.iconst 0, 1), (0, 0, 0), []),
  (1, (.istore_n 2, 1), (0, 0, 0), []),
  (2, (.iload_n 2, 1), (0, 0, 0), []),
  (3, (.aload_n 0, 1), (0, 0, 0), []),
  (4, (.iconst 0, 1), (0, 0, 0), []),
  (5, (.invokevirtual 43, 3), (157, 2, 6), []),
  (8, (.if_icmp .ge 28, 3), (36, 0, 0), []),
  (11, (.aload_n 0, 1), (0, 0, 0), []),
  (12, (.iload_n 1, 1), (0, 0, 0), []),
  (13, (.iload_n 2, 1), (0, 0, 0), []),
  (14, (.invokevirtual 54, 3), (169, 3, 6), []),
  (17, (.ifCond .eq 13, 3), (30, 0, 0), []),
  (20, (.aload_n 0, 1), (0, 0, 0), []),
  (21, (.iload_n 2, 1), (0, 0, 0), []),
  (22, (.invokevirtual 64, 3), (177, 2, 6), []),
  (25, (.ifCond .eq 5, 3), (30, 0, 0), []),
  (28, (.iconst 1, 1), (0, 0, 0), []),
  (29, (.ireturn, 1), (0, 0, 0), []),
  (30, (.iinc 2 1, 3), (0, 0, 0), []),
  (33, (.goto (-31), 3), (2, 0, 0), []),
  (36, (.iconst 0, 1), (0, 0, 0), []),
  (37, (.ireturn, 1), (0, 0, 0), [])]
def t_X6_isHolding : List mT := [
  (0, (.aload_n 0, 1), (0, 0, 0), []),
  (1, (.iload_n 1, 1), (0, 0, 0), []),
  (2, (.iconst 0, 1), (0, 0, 0), []),
  (3, (.invokevirtual 89, 3), (162, 3, 6), []),
  (6, (.iconst (-1), 1), (0, 0, 0), []),
  (7, (.if_icmp .eq 17, 3), (24, 0, 0), []),
  (10, (.aload_n 0, 1), (0, 0, 0), []),
  (11, (.iload_n 1, 1), (0, 0, 0), []),
  (12, (.iconst 1, 1), (0, 0, 0), []),
  (13, (.invokevirtual 89, 3), (162, 3, 6), []),
  (16, (.iconst 3, 1), (0, 0, 0), []),
  (17, (.if_icmp .eq 7, 3), (24, 0, 0), []),
  (20, (.iconst 1, 1), (0, 0, 0), []),
  (21, (.goto 4, 3), (25, 0, 0), []),
  (24, (.iconst 0, 1), (0, 0, 0), []),
  (25, (.ireturn, 1), (0, 0, 0), [])]
def t_X6_isGreen : List mT := [
  (0, (.aload_n 0, 1), (0, 0, 0), []),
  (1, (.iload_n 1, 1), (0, 0, 0), []),
  (2, (.iconst 0, 1), (0, 0, 0), []),
  (3, (.invokevirtual 89, 3), (162, 3, 6), []),
  (6, (.iconst (-1), 1), (0, 0, 0), []),
  (7, (.if_icmp .eq 16, 3), (23, 0, 0), []),
  (10, (.aload_n 0, 1), (0, 0, 0), []),
  (11, (.iload_n 1, 1), (0, 0, 0), []),
  (12, (.iconst 1, 1), (0, 0, 0), []),
  (13, (.invokevirtual 89, 3), (162, 3, 6), []),
  (16, (.ifCond .ne 7, 3), (23, 0, 0), []),
  (19, (.iconst 1, 1), (0, 0, 0), []),
  (20, (.goto 4, 3), (24, 0, 0), []),
  (23, (.iconst 0, 1), (0, 0, 0), []),
  (24, (.ireturn, 1), (0, 0, 0), [])]
def t_X6_happens : List mT := [
  (0, (.aload_n 0, 1), (0, 0, 0), []),
  (1, (.bipush 12, 2), (0, 0, 0), []),
  (3, (.invokevirtual 43, 3), (157, 2, 6), []),
  (6, (.bipush 32, 2), (0, 0, 0), []),
  (8, (.if_icmp .ne 39, 3), (47, 0, 0), []),
  (11, (.sipush 192, 3), (0, 0, 0), []),
  (14, (.istore_n 3, 1), (0, 0, 0), []),
  (15, (.iload_n 3, 1), (0, 0, 0), []),
  (16, (.sipush 285, 3), (0, 0, 0), []),
  (19, (.if_icmp .ge 21, 3), (40, 0, 0), []),
  (22, (.aload_n 0, 1), (0, 0, 0), []),
  (23, (.iload_n 3, 1), (0, 0, 0), []),
  (24, (.aload_n 0, 1), (0, 0, 0), []),
  (25, (.iload_n 3, 1), (0, 0, 0), []),
  (26, (.iconst 3, 1), (0, 0, 0), []),
  (27, (.iadd, 1), (0, 0, 0), []),
  (28, (.invokevirtual 43, 3), (157, 2, 6), []),
  (31, (.invokevirtual 46, 3), (158, 3, 6), []),
  (34, (.iinc 3 1, 3), (0, 0, 0), []),
  (37, (.goto (-22), 3), (15, 0, 0), []),
  (40, (.aload_n 0, 1), (0, 0, 0), []),
  (41, (.bipush 12, 2), (0, 0, 0), []),
  (43, (.iconst (-1), 1), (0, 0, 0), []),
  (44, (.invokevirtual 92, 3), (159, 3, 6), []),
  (47, (.sipush 192, 3), (0, 0, 0), []),
  (50, (.iconst 3, 1), (0, 0, 0), []),
  (51, (.aload_n 0, 1), (0, 0, 0), []),
  (52, (.bipush 12, 2), (0, 0, 0), []),
  (54, (.invokevirtual 43, 3), (157, 2, 6), []),
  (57, (.imul, 1), (0, 0, 0), []),
  (58, (.iadd, 1), (0, 0, 0), []),
  (59, (.istore_n 3, 1), (0, 0, 0), []),
  (60, (.aload_n 0, 1), (0, 0, 0), []),
  (61, (.iload_n 3, 1), (0, 0, 0), []),
  (62, (.iload_n 1, 1), (0, 0, 0), []),
  (63, (.invokevirtual 46, 3), (158, 3, 6), []),
  (66, (.aload_n 0, 1), (0, 0, 0), []),
  (67, (.iload_n 3, 1), (0, 0, 0), []),
  (68, (.iconst 1, 1), (0, 0, 0), []),
  (69, (.iadd, 1), (0, 0, 0), []),
  (70, (.aload_n 0, 1), (0, 0, 0), []),
  (71, (.iconst 1, 1), (0, 0, 0), []),
  (72, (.invokevirtual 43, 3), (157, 2, 6), []),
  (75, (.invokevirtual 46, 3), (158, 3, 6), []),
  (78, (.aload_n 0, 1), (0, 0, 0), []),
  (79, (.iload_n 3, 1), (0, 0, 0), []),
  (80, (.iconst 2, 1), (0, 0, 0), []),
  (81, (.iadd, 1), (0, 0, 0), []),
  (82, (.iload_n 2, 1), (0, 0, 0), []),
  (83, (.invokevirtual 46, 3), (158, 3, 6), []),
  (86, (.aload_n 0, 1), (0, 0, 0), []),
  (87, (.bipush 12, 2), (0, 0, 0), []),
  (89, (.iconst 1, 1), (0, 0, 0), []),
  (90, (.invokevirtual 92, 3), (159, 3, 6), []),
  (93, (.return_, 1), (0, 0, 0), [])]
def t_X6_becomesGreen : List mT := [
  (0, (.aload_n 0, 1), (0, 0, 0), []),
  (1, (.iload_n 2, 1), (0, 0, 0), []),
  (2, (.invokevirtual 86, 3), (176, 2, 6), []),
  (5, (.ifCond .eq 7, 3), (12, 0, 0), []),
  (8, (.iconst 1, 1), (0, 0, 0), []),
  (9, (.goto 4, 3), (13, 0, 0), []),
  (12, (.iconst 0, 1), (0, 0, 0), []),
  (13, (.istore_n 3, 1), (0, 0, 0), []),
  (14, (.aload_n 0, 1), (0, 0, 0), []),
  (15, (.iload_n 1, 1), (0, 0, 0), []),
  (16, (.invokevirtual 72, 3), (174, 2, 6), []),
  (19, (.aload_n 0, 1), (0, 0, 0), []),
  (20, (.iload_n 1, 1), (0, 0, 0), []),
  (21, (.iconst 0, 1), (0, 0, 0), []),
  (22, (.iload_n 2, 1), (0, 0, 0), []),
  (23, (.invokevirtual 76, 3), (163, 4, 6), []),
  (26, (.aload_n 0, 1), (0, 0, 0), []),
  (27, (.iload_n 1, 1), (0, 0, 0), []),
  (28, (.iconst 1, 1), (0, 0, 0), []),
  (29, (.iconst 0, 1), (0, 0, 0), []),
  (30, (.invokevirtual 76, 3), (163, 4, 6), []),
  (33, (.aload_n 0, 1), (0, 0, 0), []),
  (34, (.iload_n 1, 1), (0, 0, 0), []),
  (35, (.bipush 6, 2), (0, 0, 0), []),
  (37, (.iload_n 3, 1), (0, 0, 0), []),
  (38, (.invokevirtual 76, 3), (163, 4, 6), []),
  (41, (.aload_n 0, 1), (0, 0, 0), []),
  (42, (.iload_n 2, 1), (0, 0, 0), []),
  (43, (.bipush 13, 2), (0, 0, 0), []),
  (45, (.iconst 0, 1), (0, 0, 0), []),
  (46, (.invokevirtual 95, 3), (165, 4, 6), []),
  (49, (.aload_n 0, 1), (0, 0, 0), []),
  (50, (.iload_n 2, 1), (0, 0, 0), []),
  (51, (.bipush 14, 2), (0, 0, 0), []),
  (53, (.iconst 0, 1), (0, 0, 0), []),
  (54, (.invokevirtual 95, 3), (165, 4, 6), []),
  (57, (.aload_n 0, 1), (0, 0, 0), []),
  (58, (.iconst 0, 1), (0, 0, 0), []),
  (59, (.iload_n 2, 1), (0, 0, 0), []),
  (60, (.invokevirtual 98, 3), (181, 3, 6), []),
  (63, (.return_, 1), (0, 0, 0), [])]
def t_X6_leaves : List mT := [
  (0, (.aload_n 0, 1), (0, 0, 0), []),
  (1, (.iload_n 1, 1), (0, 0, 0), []),
  (2, (.iconst 0, 1), (0, 0, 0), []),
  (3, (.invokevirtual 89, 3), (162, 3, 6), []),
  (6, (.istore_n 3, 1), (0, 0, 0), []),
  (7, (.aload_n 0, 1), (0, 0, 0), []),
  (8, (.iload_n 1, 1), (0, 0, 0), []),
  (9, (.invokevirtual 72, 3), (174, 2, 6), []),
  (12, (.aload_n 0, 1), (0, 0, 0), []),
  (13, (.iload_n 1, 1), (0, 0, 0), []),
  (14, (.iconst 0, 1), (0, 0, 0), []),
  (15, (.iload_n 3, 1), (0, 0, 0), []),
  (16, (.invokevirtual 76, 3), (163, 4, 6), []),
  (19, (.aload_n 0, 1), (0, 0, 0), []),
  (20, (.iload_n 1, 1), (0, 0, 0), []),
  (21, (.iconst 1, 1), (0, 0, 0), []),
  (22, (.iconst 1, 1), (0, 0, 0), []),
  (23, (.invokevirtual 76, 3), (163, 4, 6), []),
  (26, (.aload_n 0, 1), (0, 0, 0), []),
  (27, (.iload_n 1, 1), (0, 0, 0), []),
  (28, (.iconst 3, 1), (0, 0, 0), []),
  (29, (.iload_n 2, 1), (0, 0, 0), []),
  (30, (.invokevirtual 76, 3), (163, 4, 6), []),
  (33, (.aload_n 0, 1), (0, 0, 0), []),
  (34, (.iconst 1, 1), (0, 0, 0), []),
  (35, (.iload_n 3, 1), (0, 0, 0), []),
  (36, (.invokevirtual 98, 3), (181, 3, 6), []),
  (39, (.return_, 1), (0, 0, 0), [])]
def t_X6_goes : List mT := [
  (0, (.aload_n 0, 1), (0, 0, 0), []),
  (1, (.iload_n 1, 1), (0, 0, 0), []),
  (2, (.invokevirtual 101, 3), (179, 2, 6), []),
  (5, (.ifCond .eq 12, 3), (17, 0, 0), []),
  (8, (.aload_n 0, 1), (0, 0, 0), []),
  (9, (.iload_n 1, 1), (0, 0, 0), []),
  (10, (.iload_n 2, 1), (0, 0, 0), []),
  (11, (.invokevirtual 104, 3), (183, 3, 6), []),
  (14, (.goto 10, 3), (24, 0, 0), []),
  (17, (.aload_n 0, 1), (0, 0, 0), []),
  (18, (.iload_n 1, 1), (0, 0, 0), []),
  (19, (.iconst 3, 1), (0, 0, 0), []),
  (20, (.iload_n 2, 1), (0, 0, 0), []),
  (21, (.invokevirtual 76, 3), (163, 4, 6), []),
  (24, (.return_, 1), (0, 0, 0), [])]
def t_X6_drawBy : List mT := [
  (0, (.aload_n 0, 1), (0, 0, 0), []),
  (1, (.aload_n 0, 1), (0, 0, 0), []),
  (2, (.getfield 107, 3), (6, 3, 0), []),
  (5, (.i2l, 1), (0, 0, 0), []),
  (6, (.ldc2_w 110, 3), (9301, 0, 0), []),
  (9, (.lmul, 1), (0, 0, 0), []),
  (10, (.ldc2_w 112, 3), (49297, 0, 0), []),
  (13, (.ladd, 1), (0, 0, 0), []),
  (14, (.ldc2_w 114, 3), (233280, 0, 0), []),
  (17, (.lrem, 1), (0, 0, 0), []),
  (18, (.l2i, 1), (0, 0, 0), []),
  (19, (.putfield 107, 3), (6, 3, 0), []),
  (22, (.aload_n 0, 1), (0, 0, 0), []),
  (23, (.getfield 107, 3), (6, 3, 0), []),
  (26, (.i2l, 1), (0, 0, 0), []),
  (27, (.iload_n 1, 1), (0, 0, 0), []),
  (28, (.i2l, 1), (0, 0, 0), []),
  (29, (.lmul, 1), (0, 0, 0), []),
  (30, (.ldc2_w 114, 3), (233280, 0, 0), []),
  (33, (.ldiv, 1), (0, 0, 0), []),
  (34, (.l2i, 1), (0, 0, 0), []),
  (35, (.ireturn, 1), (0, 0, 0), [])]
def t_X6_comers : List mT := [
  (0, (.iconst 0, 1), (0, 0, 0), []),
  (1, (.istore_n 1, 1), (0, 0, 0), []),
  (2, (.iload_n 1, 1), (0, 0, 0), []),
  (3, (.aload_n 0, 1), (0, 0, 0), []),
  (4, (.iconst 0, 1), (0, 0, 0), []),
  (5, (.invokevirtual 43, 3), (157, 2, 6), []),
  (8, (.if_icmp .ge 46, 3), (54, 0, 0), []),
  (11, (.aload_n 0, 1), (0, 0, 0), []),
  (12, (.bipush 60, 2), (0, 0, 0), []),
  (14, (.invokevirtual 116, 3), (185, 2, 6), []),
  (17, (.aload_n 0, 1), (0, 0, 0), []),
  (18, (.iload_n 1, 1), (0, 0, 0), []),
  (19, (.bipush 9, 2), (0, 0, 0), []),
  (21, (.invokevirtual 80, 3), (166, 3, 6), []),
  (24, (.if_icmp .ge 24, 3), (48, 0, 0), []),
  (27, (.aload_n 0, 1), (0, 0, 0), []),
  (28, (.iload_n 1, 1), (0, 0, 0), []),
  (29, (.bipush 12, 2), (0, 0, 0), []),
  (31, (.bipush 99, 2), (0, 0, 0), []),
  (33, (.aload_n 0, 1), (0, 0, 0), []),
  (34, (.iload_n 1, 1), (0, 0, 0), []),
  (35, (.bipush 12, 2), (0, 0, 0), []),
  (37, (.invokevirtual 50, 3), (164, 3, 6), []),
  (40, (.iconst 1, 1), (0, 0, 0), []),
  (41, (.iadd, 1), (0, 0, 0), []),
  (42, (.invokestatic 119, 3), (277, 2, 99), []),
  (45, (.invokevirtual 95, 3), (165, 4, 6), []),
  (48, (.iinc 1 1, 3), (0, 0, 0), []),
  (51, (.goto (-49), 3), (2, 0, 0), []),
  (54, (.return_, 1), (0, 0, 0), [])]
def t_X6_due : List mT := [
  (0, (.aload_n 0, 1), (0, 0, 0), []),
  (1, (.iconst 1, 1), (0, 0, 0), []),
  (2, (.invokevirtual 43, 3), (157, 2, 6), []),
  (5, (.aload_n 0, 1), (0, 0, 0), []),
  (6, (.iconst 3, 1), (0, 0, 0), []),
  (7, (.invokevirtual 43, 3), (157, 2, 6), []),
  (10, (.isub, 1), (0, 0, 0), []),
  (11, (.aload_n 0, 1), (0, 0, 0), []),
  (12, (.iconst 2, 1), (0, 0, 0), []),
  (13, (.invokevirtual 43, 3), (157, 2, 6), []),
  (16, (.invokestatic 124, 3), (156, 2, 99), []),
  (19, (.ireturn, 1), (0, 0, 0), [])]
def t_X6_clockGoes : List mT := [
  (0, (.aload_n 0, 1), (0, 0, 0), []),
  (1, (.iconst 2, 1), (0, 0, 0), []),
  (2, (.invokevirtual 43, 3), (157, 2, 6), []),
  (5, (.istore_n 1, 1), (0, 0, 0), []),
  (6, (.iload_n 1, 1), (0, 0, 0), []),
  (7, (.ifCond .ne 4, 3), (11, 0, 0), []),
  (10, (.return_, 1), (0, 0, 0), []),
  (11, (.aload_n 0, 1), (0, 0, 0), []),
  (12, (.iconst 4, 1), (0, 0, 0), []),
  (13, (.aload_n 0, 1), (0, 0, 0), []),
  (14, (.iconst 4, 1), (0, 0, 0), []),
  (15, (.invokevirtual 43, 3), (157, 2, 6), []),
  (18, (.iconst 1, 1), (0, 0, 0), []),
  (19, (.iadd, 1), (0, 0, 0), []),
  (20, (.iload_n 1, 1), (0, 0, 0), []),
  (21, (.irem, 1), (0, 0, 0), []),
  (22, (.invokevirtual 46, 3), (158, 3, 6), []),
  (25, (.aload_n 0, 1), (0, 0, 0), []),
  (26, (.invokevirtual 127, 3), (187, 1, 6), []),
  (29, (.aload_n 0, 1), (0, 0, 0), []),
  (30, (.iconst 4, 1), (0, 0, 0), []),
  (31, (.invokevirtual 43, 3), (157, 2, 6), []),
  (34, (.isub, 1), (0, 0, 0), []),
  (35, (.iload_n 1, 1), (0, 0, 0), []),
  (36, (.invokestatic 124, 3), (156, 2, 99), []),
  (39, (.istore_n 2, 1), (0, 0, 0), []),
  (40, (.iload_n 2, 1), (0, 0, 0), []),
  (41, (.ifCond .eq 13, 3), (54, 0, 0), []),
  (44, (.aload_n 0, 1), (0, 0, 0), []),
  (45, (.iconst 1, 1), (0, 0, 0), []),
  (46, (.invokevirtual 43, 3), (157, 2, 6), []),
  (49, (.iconst 4, 1), (0, 0, 0), []),
  (50, (.irem, 1), (0, 0, 0), []),
  (51, (.ifCond .eq 4, 3), (55, 0, 0), []),
  (54, (.return_, 1), (0, 0, 0), []),
  (55, (.aload_n 0, 1), (0, 0, 0), []),
  (56, (.iconst 4, 1), (0, 0, 0), []),
  (57, (.aload_n 0, 1), (0, 0, 0), []),
  (58, (.iconst 4, 1), (0, 0, 0), []),
  (59, (.invokevirtual 43, 3), (157, 2, 6), []),
  (62, (.iload_n 2, 1), (0, 0, 0), []),
  (63, (.iload_n 1, 1), (0, 0, 0), []),
  (64, (.iconst 2, 1), (0, 0, 0), []),
  (65, (.idiv, 1), (0, 0, 0), []),
  (66, (.if_icmp .gt 7, 3), (73, 0, 0), []),
  (69, (.iconst 1, 1), (0, 0, 0), []),
  (70, (.goto 4, 3), (74, 0, 0), []),
  (73, (.iconst (-1), 1), (0, 0, 0), []),
  (74, (.iadd, 1), (0, 0, 0), []),
  (75, (.iload_n 1, 1), (0, 0, 0), []),
  (76, (.invokestatic 124, 3), (156, 2, 99), []),
  (79, (.invokevirtual 46, 3), (158, 3, 6), []),
  (82, (.return_, 1), (0, 0, 0), [])]
def t_X6_greenGoes : List mT := [
  (0, (.aload_n 0, 1), (0, 0, 0), []),
  (1, (.iload_n 1, 1), (0, 0, 0), []),
  (2, (.iconst 0, 1), (0, 0, 0), []),
  (3, (.invokevirtual 89, 3), (162, 3, 6), []),
  (6, (.istore_n 2, 1), (0, 0, 0), []),
  (7, (.aload_n 0, 1), (0, 0, 0), []),
  (8, (.iload_n 2, 1), (0, 0, 0), []),
  (9, (.bipush 12, 2), (0, 0, 0), []),
  (11, (.invokevirtual 50, 3), (164, 3, 6), []),
  (14, (.istore_n 3, 1), (0, 0, 0), []),
  (15, (.aload_n 0, 1), (0, 0, 0), []),
  (16, (.iload_n 1, 1), (0, 0, 0), []),
  (17, (.iconst 4, 1), (0, 0, 0), []),
  (18, (.iload_n 3, 1), (0, 0, 0), []),
  (19, (.ifCond .gt 14, 3), (33, 0, 0), []),
  (22, (.aload_n 0, 1), (0, 0, 0), []),
  (23, (.iload_n 2, 1), (0, 0, 0), []),
  (24, (.bipush 16, 2), (0, 0, 0), []),
  (26, (.invokevirtual 50, 3), (164, 3, 6), []),
  (29, (.iconst 1, 1), (0, 0, 0), []),
  (30, (.if_icmp .ne 7, 3), (37, 0, 0), []),
  (33, (.iconst 0, 1), (0, 0, 0), []),
  (34, (.goto 11, 3), (45, 0, 0), []),
  (37, (.aload_n 0, 1), (0, 0, 0), []),
  (38, (.iload_n 1, 1), (0, 0, 0), []),
  (39, (.iconst 4, 1), (0, 0, 0), []),
  (40, (.invokevirtual 89, 3), (162, 3, 6), []),
  (43, (.iconst 1, 1), (0, 0, 0), []),
  (44, (.iadd, 1), (0, 0, 0), []),
  (45, (.invokevirtual 76, 3), (163, 4, 6), []),
  (48, (.iload_n 3, 1), (0, 0, 0), []),
  (49, (.ifCond .le 39, 3), (88, 0, 0), []),
  (52, (.aload_n 0, 1), (0, 0, 0), []),
  (53, (.iload_n 2, 1), (0, 0, 0), []),
  (54, (.bipush 12, 2), (0, 0, 0), []),
  (56, (.iload_n 3, 1), (0, 0, 0), []),
  (57, (.iconst 1, 1), (0, 0, 0), []),
  (58, (.isub, 1), (0, 0, 0), []),
  (59, (.invokevirtual 95, 3), (165, 4, 6), []),
  (62, (.aload_n 0, 1), (0, 0, 0), []),
  (63, (.iload_n 2, 1), (0, 0, 0), []),
  (64, (.bipush 15, 2), (0, 0, 0), []),
  (66, (.aload_n 0, 1), (0, 0, 0), []),
  (67, (.iload_n 2, 1), (0, 0, 0), []),
  (68, (.bipush 15, 2), (0, 0, 0), []),
  (70, (.invokevirtual 50, 3), (164, 3, 6), []),
  (73, (.iconst 1, 1), (0, 0, 0), []),
  (74, (.iadd, 1), (0, 0, 0), []),
  (75, (.invokevirtual 95, 3), (165, 4, 6), []),
  (78, (.aload_n 0, 1), (0, 0, 0), []),
  (79, (.dup, 1), (0, 0, 0), []),
  (80, (.getfield 131, 3), (6, 4, 0), []),
  (83, (.iconst 1, 1), (0, 0, 0), []),
  (84, (.iadd, 1), (0, 0, 0), []),
  (85, (.putfield 131, 3), (6, 4, 0), []),
  (88, (.aload_n 0, 1), (0, 0, 0), []),
  (89, (.iload_n 2, 1), (0, 0, 0), []),
  (90, (.invokevirtual 134, 3), (178, 2, 6), []),
  (93, (.ifCond .eq 17, 3), (110, 0, 0), []),
  (96, (.aload_n 0, 1), (0, 0, 0), []),
  (97, (.iload_n 1, 1), (0, 0, 0), []),
  (98, (.iconst 5, 1), (0, 0, 0), []),
  (99, (.aload_n 0, 1), (0, 0, 0), []),
  (100, (.iload_n 1, 1), (0, 0, 0), []),
  (101, (.iconst 5, 1), (0, 0, 0), []),
  (102, (.invokevirtual 89, 3), (162, 3, 6), []),
  (105, (.iconst 1, 1), (0, 0, 0), []),
  (106, (.iadd, 1), (0, 0, 0), []),
  (107, (.invokevirtual 76, 3), (163, 4, 6), []),
  (110, (.aload_n 0, 1), (0, 0, 0), []),
  (111, (.iload_n 1, 1), (0, 0, 0), []),
  (112, (.bipush 6, 2), (0, 0, 0), []),
  (114, (.invokevirtual 89, 3), (162, 3, 6), []),
  (117, (.iconst 2, 1), (0, 0, 0), []),
  (118, (.if_icmp .ne 19, 3), (137, 0, 0), []),
  (121, (.aload_n 0, 1), (0, 0, 0), []),
  (122, (.iload_n 1, 1), (0, 0, 0), []),
  (123, (.bipush 7, 2), (0, 0, 0), []),
  (125, (.aload_n 0, 1), (0, 0, 0), []),
  (126, (.iload_n 1, 1), (0, 0, 0), []),
  (127, (.bipush 7, 2), (0, 0, 0), []),
  (129, (.invokevirtual 89, 3), (162, 3, 6), []),
  (132, (.iconst 1, 1), (0, 0, 0), []),
  (133, (.iadd, 1), (0, 0, 0), []),
  (134, (.invokevirtual 76, 3), (163, 4, 6), []),
  (137, (.aload_n 0, 1), (0, 0, 0), []),
  (138, (.iload_n 1, 1), (0, 0, 0), []),
  (139, (.bipush 6, 2), (0, 0, 0), []),
  (141, (.invokevirtual 89, 3), (162, 3, 6), []),
  (144, (.iconst 1, 1), (0, 0, 0), []),
  (145, (.if_icmp .ne 26, 3), (171, 0, 0), []),
  (148, (.aload_n 0, 1), (0, 0, 0), []),
  (149, (.iload_n 1, 1), (0, 0, 0), []),
  (150, (.iconst 2, 1), (0, 0, 0), []),
  (151, (.invokevirtual 89, 3), (162, 3, 6), []),
  (154, (.aload_n 0, 1), (0, 0, 0), []),
  (155, (.iload_n 2, 1), (0, 0, 0), []),
  (156, (.iconst 5, 1), (0, 0, 0), []),
  (157, (.invokevirtual 80, 3), (166, 3, 6), []),
  (160, (.if_icmp .lt 11, 3), (171, 0, 0), []),
  (163, (.aload_n 0, 1), (0, 0, 0), []),
  (164, (.iload_n 1, 1), (0, 0, 0), []),
  (165, (.bipush 6, 2), (0, 0, 0), []),
  (167, (.iconst 2, 1), (0, 0, 0), []),
  (168, (.invokevirtual 76, 3), (163, 4, 6), []),
  (171, (.aload_n 0, 1), (0, 0, 0), []),
  (172, (.iload_n 1, 1), (0, 0, 0), []),
  (173, (.bipush 6, 2), (0, 0, 0), []),
  (175, (.invokevirtual 89, 3), (162, 3, 6), []),
  (178, (.iconst 2, 1), (0, 0, 0), []),
  (179, (.if_icmp .ne 28, 3), (207, 0, 0), []),
  (182, (.aload_n 0, 1), (0, 0, 0), []),
  (183, (.iload_n 1, 1), (0, 0, 0), []),
  (184, (.bipush 7, 2), (0, 0, 0), []),
  (186, (.invokevirtual 89, 3), (162, 3, 6), []),
  (189, (.aload_n 0, 1), (0, 0, 0), []),
  (190, (.iload_n 2, 1), (0, 0, 0), []),
  (191, (.bipush 6, 2), (0, 0, 0), []),
  (193, (.invokevirtual 80, 3), (166, 3, 6), []),
  (196, (.if_icmp .lt 11, 3), (207, 0, 0), []),
  (199, (.aload_n 0, 1), (0, 0, 0), []),
  (200, (.iload_n 1, 1), (0, 0, 0), []),
  (201, (.bipush 6, 2), (0, 0, 0), []),
  (203, (.iconst 0, 1), (0, 0, 0), []),
  (204, (.invokevirtual 76, 3), (163, 4, 6), []),
  (207, (.return_, 1), (0, 0, 0), [])]
def t_X6_ringGoes : List mT := [
  (0, (.aload_n 0, 1), (0, 0, 0), []),
  (1, (.iload_n 1, 1), (0, 0, 0), []),
  (2, (.invokevirtual 101, 3), (179, 2, 6), []),
  (5, (.ifCond .ne 4, 3), (9, 0, 0), []),
  (8, (.return_, 1), (0, 0, 0), []),
  (9, (.aload_n 0, 1), (0, 0, 0), []),
  (10, (.iload_n 1, 1), (0, 0, 0), []),
  (11, (.iconst 0, 1), (0, 0, 0), []),
  (12, (.invokevirtual 89, 3), (162, 3, 6), []),
  (15, (.istore_n 2, 1), (0, 0, 0), []),
  (16, (.aload_n 0, 1), (0, 0, 0), []),
  (17, (.iload_n 1, 1), (0, 0, 0), []),
  (18, (.iconst 2, 1), (0, 0, 0), []),
  (19, (.aload_n 0, 1), (0, 0, 0), []),
  (20, (.iload_n 1, 1), (0, 0, 0), []),
  (21, (.iconst 2, 1), (0, 0, 0), []),
  (22, (.invokevirtual 89, 3), (162, 3, 6), []),
  (25, (.iconst 1, 1), (0, 0, 0), []),
  (26, (.iadd, 1), (0, 0, 0), []),
  (27, (.invokevirtual 76, 3), (163, 4, 6), []),
  (30, (.aload_n 0, 1), (0, 0, 0), []),
  (31, (.iload_n 1, 1), (0, 0, 0), []),
  (32, (.invokevirtual 137, 3), (180, 2, 6), []),
  (35, (.ifCond .eq 9, 3), (44, 0, 0), []),
  (38, (.aload_n 0, 1), (0, 0, 0), []),
  (39, (.iload_n 1, 1), (0, 0, 0), []),
  (40, (.invokevirtual 140, 3), (189, 2, 6), []),
  (43, (.return_, 1), (0, 0, 0), []),
  (44, (.aload_n 0, 1), (0, 0, 0), []),
  (45, (.iload_n 1, 1), (0, 0, 0), []),
  (46, (.iconst 1, 1), (0, 0, 0), []),
  (47, (.invokevirtual 89, 3), (162, 3, 6), []),
  (50, (.iconst 1, 1), (0, 0, 0), []),
  (51, (.if_icmp .ne 32, 3), (83, 0, 0), []),
  (54, (.aload_n 0, 1), (0, 0, 0), []),
  (55, (.iload_n 1, 1), (0, 0, 0), []),
  (56, (.iconst 2, 1), (0, 0, 0), []),
  (57, (.invokevirtual 89, 3), (162, 3, 6), []),
  (60, (.aload_n 0, 1), (0, 0, 0), []),
  (61, (.iload_n 2, 1), (0, 0, 0), []),
  (62, (.iconst 3, 1), (0, 0, 0), []),
  (63, (.invokevirtual 80, 3), (166, 3, 6), []),
  (66, (.if_icmp .lt 17, 3), (83, 0, 0), []),
  (69, (.aload_n 0, 1), (0, 0, 0), []),
  (70, (.iload_n 1, 1), (0, 0, 0), []),
  (71, (.iconst 1, 1), (0, 0, 0), []),
  (72, (.iconst 2, 1), (0, 0, 0), []),
  (73, (.invokevirtual 76, 3), (163, 4, 6), []),
  (76, (.aload_n 0, 1), (0, 0, 0), []),
  (77, (.iload_n 1, 1), (0, 0, 0), []),
  (78, (.iconst 2, 1), (0, 0, 0), []),
  (79, (.iconst 0, 1), (0, 0, 0), []),
  (80, (.invokevirtual 76, 3), (163, 4, 6), []),
  (83, (.aload_n 0, 1), (0, 0, 0), []),
  (84, (.iload_n 1, 1), (0, 0, 0), []),
  (85, (.iconst 1, 1), (0, 0, 0), []),
  (86, (.invokevirtual 89, 3), (162, 3, 6), []),
  (89, (.iconst 2, 1), (0, 0, 0), []),
  (90, (.if_icmp .ne 18, 3), (108, 0, 0), []),
  (93, (.aload_n 0, 1), (0, 0, 0), []),
  (94, (.iload_n 1, 1), (0, 0, 0), []),
  (95, (.iconst 2, 1), (0, 0, 0), []),
  (96, (.invokevirtual 89, 3), (162, 3, 6), []),
  (99, (.aload_n 0, 1), (0, 0, 0), []),
  (100, (.iload_n 2, 1), (0, 0, 0), []),
  (101, (.iconst 4, 1), (0, 0, 0), []),
  (102, (.invokevirtual 80, 3), (166, 3, 6), []),
  (105, (.if_icmp .ge 4, 3), (109, 0, 0), []),
  (108, (.return_, 1), (0, 0, 0), []),
  (109, (.aload_n 0, 1), (0, 0, 0), []),
  (110, (.iload_n 1, 1), (0, 0, 0), []),
  (111, (.iconst 3, 1), (0, 0, 0), []),
  (112, (.invokevirtual 89, 3), (162, 3, 6), []),
  (115, (.istore_n 3, 1), (0, 0, 0), []),
  (116, (.aload_n 0, 1), (0, 0, 0), []),
  (117, (.iload_n 1, 1), (0, 0, 0), []),
  (118, (.invokevirtual 72, 3), (174, 2, 6), []),
  (121, (.aload_n 0, 1), (0, 0, 0), []),
  (122, (.iload_n 1, 1), (0, 0, 0), []),
  (123, (.iconst 3, 1), (0, 0, 0), []),
  (124, (.iload_n 3, 1), (0, 0, 0), []),
  (125, (.invokevirtual 76, 3), (163, 4, 6), []),
  (128, (.return_, 1), (0, 0, 0), [])]
def t_X6_endOf : List mT := [
  (0, (.iconst 0, 1), (0, 0, 0), []),
  (1, (.istore_n 2, 1), (0, 0, 0), []),
  (2, (.iconst 0, 1), (0, 0, 0), []),
  (3, (.istore_n 3, 1), (0, 0, 0), []),
  (4, (.iload_n 3, 1), (0, 1, 4), []),
  (5, (.aload_n 0, 1), (0, 0, 0), []),
  (6, (.iconst 0, 1), (0, 0, 0), []),
  (7, (.invokevirtual 43, 3), (157, 2, 6), []),
  (10, (.if_icmp .ge 85, 3), (95, 0, 0), []),
  (13, (.aload_n 0, 1), (0, 0, 0), []),
  (14, (.iload_n 3, 1), (0, 0, 0), []),
  (15, (.iconst 1, 1), (0, 0, 0), []),
  (16, (.invokevirtual 50, 3), (164, 3, 6), []),
  (19, (.aload_n 0, 1), (0, 0, 0), []),
  (20, (.iload_n 1, 1), (0, 0, 0), []),
  (21, (.iconst 1, 1), (0, 0, 0), []),
  (22, (.invokevirtual 50, 3), (164, 3, 6), []),
  (25, (.if_icmp .lt 23, 3), (48, 0, 0), []),
  (28, (.aload_n 0, 1), (0, 0, 0), []),
  (29, (.iload_n 3, 1), (0, 0, 0), []),
  (30, (.iconst 1, 1), (0, 0, 0), []),
  (31, (.invokevirtual 50, 3), (164, 3, 6), []),
  (34, (.aload_n 0, 1), (0, 0, 0), []),
  (35, (.iload_n 1, 1), (0, 0, 0), []),
  (36, (.iconst 1, 1), (0, 0, 0), []),
  (37, (.invokevirtual 50, 3), (164, 3, 6), []),
  (40, (.if_icmp .ne 12, 3), (52, 0, 0), []),
  (43, (.iload_n 3, 1), (0, 0, 0), []),
  (44, (.iload_n 1, 1), (0, 0, 0), []),
  (45, (.if_icmp .gt 7, 3), (52, 0, 0), []),
  (48, (.iconst 1, 1), (0, 0, 0), []),
  (49, (.goto 4, 3), (53, 0, 0), []),
  (52, (.iconst 0, 1), (0, 0, 0), []),
  (53, (.istore 4, 2), (0, 0, 0), []),
  (55, (.iload_n 2, 1), (0, 0, 0), []),
  (56, (.aload_n 0, 1), (0, 0, 0), []),
  (57, (.iload_n 3, 1), (0, 0, 0), []),
  (58, (.iconst 0, 1), (0, 0, 0), []),
  (59, (.invokevirtual 50, 3), (164, 3, 6), []),
  (62, (.aload_n 0, 1), (0, 0, 0), []),
  (63, (.iload_n 1, 1), (0, 0, 0), []),
  (64, (.iconst 0, 1), (0, 0, 0), []),
  (65, (.invokevirtual 50, 3), (164, 3, 6), []),
  (68, (.if_icmp .ne 18, 3), (86, 0, 0), []),
  (71, (.iload 4, 2), (0, 0, 0), []),
  (73, (.ifCond .eq 13, 3), (86, 0, 0), []),
  (76, (.aload_n 0, 1), (0, 0, 0), []),
  (77, (.iload_n 3, 1), (0, 0, 0), []),
  (78, (.bipush 8, 2), (0, 0, 0), []),
  (80, (.invokevirtual 80, 3), (166, 3, 6), []),
  (83, (.goto 4, 3), (87, 0, 0), []),
  (86, (.iconst 0, 1), (0, 0, 0), []),
  (87, (.iadd, 1), (0, 0, 0), []),
  (88, (.istore_n 2, 1), (0, 0, 0), []),
  (89, (.iinc 3 1, 3), (0, 0, 0), []),
  (92, (.goto (-88), 3), (4, 0, 0), []),
  (95, (.iload_n 2, 1), (0, 0, 0), []),
  (96, (.ireturn, 1), (0, 0, 0), [])]
def t_X6_isForced : List mT := [
  (0, (.aload_n 0, 1), (0, 0, 0), []),
  (1, (.iconst 2, 1), (0, 0, 0), []),
  (2, (.invokevirtual 43, 3), (157, 2, 6), []),
  (5, (.ifCond .le 36, 3), (41, 0, 0), []),
  (8, (.aload_n 0, 1), (0, 0, 0), []),
  (9, (.iconst 4, 1), (0, 0, 0), []),
  (10, (.invokevirtual 43, 3), (157, 2, 6), []),
  (13, (.aload_n 0, 1), (0, 0, 0), []),
  (14, (.iload_n 1, 1), (0, 0, 0), []),
  (15, (.invokevirtual 143, 3), (191, 2, 6), []),
  (18, (.isub, 1), (0, 0, 0), []),
  (19, (.aload_n 0, 1), (0, 0, 0), []),
  (20, (.iconst 2, 1), (0, 0, 0), []),
  (21, (.invokevirtual 43, 3), (157, 2, 6), []),
  (24, (.invokestatic 124, 3), (156, 2, 99), []),
  (27, (.aload_n 0, 1), (0, 0, 0), []),
  (28, (.iconst 2, 1), (0, 0, 0), []),
  (29, (.invokevirtual 43, 3), (157, 2, 6), []),
  (32, (.iconst 2, 1), (0, 0, 0), []),
  (33, (.idiv, 1), (0, 0, 0), []),
  (34, (.if_icmp .ge 7, 3), (41, 0, 0), []),
  (37, (.iconst 1, 1), (0, 0, 0), []),
  (38, (.goto 4, 3), (42, 0, 0), []),
  (41, (.iconst 0, 1), (0, 0, 0), []),
  (42, (.ireturn, 1), (0, 0, 0), [])]
def t_X6_isFirst : List mT := [
  (0, (.aload_n 0, 1), (0, 0, 0), []),
  (1, (.iload_n 1, 1), (0, 0, 0), []),
  (2, (.iconst 0, 1), (0, 0, 0), []),
  (3, (.invokevirtual 50, 3), (164, 3, 6), []),
  (6, (.istore_n 2, 1), (0, 0, 0), []),
  (7, (.aload_n 0, 1), (0, 0, 0), []),
  (8, (.iload_n 2, 1), (0, 0, 0), []),
  (9, (.iconst 0, 1), (0, 0, 0), []),
  (10, (.iconst (-1), 1), (0, 0, 0), []),
  (11, (.iconst 0, 1), (0, 0, 0), []),
  (12, (.invokevirtual 68, 3), (172, 5, 6), []),
  (15, (.istore_n 3, 1), (0, 0, 0), []),
  (16, (.iload_n 1, 1), (0, 0, 0), []),
  (17, (.iload_n 3, 1), (0, 0, 0), []),
  (18, (.iconst (-1), 1), (0, 0, 0), []),
  (19, (.if_icmp .ne 14, 3), (33, 0, 0), []),
  (22, (.aload_n 0, 1), (0, 0, 0), []),
  (23, (.iload_n 2, 1), (0, 0, 0), []),
  (24, (.iconst 1, 1), (0, 0, 0), []),
  (25, (.iconst (-1), 1), (0, 0, 0), []),
  (26, (.iconst 0, 1), (0, 0, 0), []),
  (27, (.invokevirtual 68, 3), (172, 5, 6), []),
  (30, (.goto 4, 3), (34, 0, 0), []),
  (33, (.iload_n 3, 1), (0, 0, 0), []),
  (34, (.if_icmp .ne 7, 3), (41, 0, 0), []),
  (37, (.iconst 1, 1), (0, 0, 0), []),
  (38, (.goto 4, 3), (42, 0, 0), []),
  (41, (.iconst 0, 1), (0, 0, 0), []),
  (42, (.ireturn, 1), (0, 0, 0), [])]
def t_X6_isDone : List mT := [
  (0, (.aload_n 0, 1), (0, 0, 0), []),
  (1, (.iload_n 1, 1), (0, 0, 0), []),
  (2, (.invokevirtual 137, 3), (180, 2, 6), []),
  (5, (.ifCond .ne 5, 3), (10, 0, 0), []),
  (8, (.iconst 0, 1), (0, 0, 0), []),
  (9, (.ireturn, 1), (0, 0, 0), []),
  (10, (.aload_n 0, 1), (0, 0, 0), []),
  (11, (.iload_n 1, 1), (0, 0, 0), []),
  (12, (.iconst 0, 1), (0, 0, 0), []),
  (13, (.invokevirtual 89, 3), (162, 3, 6), []),
  (16, (.istore_n 2, 1), (0, 0, 0), []),
  (17, (.aload_n 0, 1), (0, 0, 0), []),
  (18, (.iload_n 1, 1), (0, 0, 0), []),
  (19, (.iconst 2, 1), (0, 0, 0), []),
  (20, (.invokevirtual 89, 3), (162, 3, 6), []),
  (23, (.aload_n 0, 1), (0, 0, 0), []),
  (24, (.iload_n 2, 1), (0, 0, 0), []),
  (25, (.iconst 0, 1), (0, 0, 0), []),
  (26, (.invokevirtual 80, 3), (166, 3, 6), []),
  (29, (.if_icmp .lt 13, 3), (42, 0, 0), []),
  (32, (.aload_n 0, 1), (0, 0, 0), []),
  (33, (.iload_n 1, 1), (0, 0, 0), []),
  (34, (.bipush 6, 2), (0, 0, 0), []),
  (36, (.invokevirtual 89, 3), (162, 3, 6), []),
  (39, (.ifCond .eq 5, 3), (44, 0, 0), []),
  (42, (.iconst 0, 1), (0, 0, 0), []),
  (43, (.ireturn, 1), (0, 0, 0), []),
  (44, (.aload_n 0, 1), (0, 0, 0), []),
  (45, (.iload_n 1, 1), (0, 0, 0), []),
  (46, (.iconst 4, 1), (0, 0, 0), []),
  (47, (.invokevirtual 89, 3), (162, 3, 6), []),
  (50, (.aload_n 0, 1), (0, 0, 0), []),
  (51, (.iload_n 2, 1), (0, 0, 0), []),
  (52, (.iconst 1, 1), (0, 0, 0), []),
  (53, (.invokevirtual 80, 3), (166, 3, 6), []),
  (56, (.if_icmp .lt 7, 3), (63, 0, 0), []),
  (59, (.iconst 1, 1), (0, 0, 0), []),
  (60, (.goto 4, 3), (64, 0, 0), []),
  (63, (.iconst 0, 1), (0, 0, 0), []),
  (64, (.istore_n 3, 1), (0, 0, 0), []),
  (65, (.aload_n 0, 1), (0, 0, 0), []),
  (66, (.iconst 2, 1), (0, 0, 0), []),
  (67, (.invokevirtual 43, 3), (157, 2, 6), []),
  (70, (.ifCond .le 29, 3), (99, 0, 0), []),
  (73, (.aload_n 0, 1), (0, 0, 0), []),
  (74, (.iload_n 2, 1), (0, 0, 0), []),
  (75, (.invokevirtual 146, 3), (192, 2, 6), []),
  (78, (.ifCond .ne 15, 3), (93, 0, 0), []),
  (81, (.aload_n 0, 1), (0, 0, 0), []),
  (82, (.iload_n 2, 1), (0, 0, 0), []),
  (83, (.invokevirtual 149, 3), (193, 2, 6), []),
  (86, (.ifCond .ne 11, 3), (97, 0, 0), []),
  (89, (.iload_n 3, 1), (0, 0, 0), []),
  (90, (.ifCond .eq 7, 3), (97, 0, 0), []),
  (93, (.iconst 1, 1), (0, 0, 0), []),
  (94, (.goto 4, 3), (98, 0, 0), []),
  (97, (.iconst 0, 1), (0, 0, 0), []),
  (98, (.ireturn, 1), (0, 0, 0), []),
  (99, (.iload_n 3, 1), (0, 0, 0), []),
  (100, (.ifCond .eq 14, 3), (114, 0, 0), []),
  (103, (.aload_n 0, 1), (0, 0, 0), []),
  (104, (.iload_n 2, 1), (0, 0, 0), []),
  (105, (.bipush 7, 2), (0, 0, 0), []),
  (107, (.invokevirtual 80, 3), (166, 3, 6), []),
  (110, (.iconst 2, 1), (0, 0, 0), []),
  (111, (.if_icmp .ne 18, 3), (129, 0, 0), []),
  (114, (.aload_n 0, 1), (0, 0, 0), []),
  (115, (.iload_n 1, 1), (0, 0, 0), []),
  (116, (.iconst 5, 1), (0, 0, 0), []),
  (117, (.invokevirtual 89, 3), (162, 3, 6), []),
  (120, (.aload_n 0, 1), (0, 0, 0), []),
  (121, (.iload_n 2, 1), (0, 0, 0), []),
  (122, (.iconst 2, 1), (0, 0, 0), []),
  (123, (.invokevirtual 80, 3), (166, 3, 6), []),
  (126, (.if_icmp .lt 7, 3), (133, 0, 0), []),
  (129, (.iconst 1, 1), (0, 0, 0), []),
  (130, (.goto 4, 3), (134, 0, 0), []),
  (133, (.iconst 0, 1), (0, 0, 0), []),
  (134, (.ireturn, 1), (0, 0, 0), [])]
def t_X6_goesOn : List mT := [
  (0, (.iconst 0, 1), (0, 0, 0), []),
  (1, (.istore_n 1, 1), (0, 0, 0), []),
  (2, (.iconst 0, 1), (0, 0, 0), []),
  (3, (.istore_n 2, 1), (0, 0, 0), []),
  (4, (.iconst 1, 1), (0, 0, 0), []),
  (5, (.istore_n 3, 1), (0, 0, 0), []),
  (6, (.iconst 0, 1), (0, 0, 0), []),
  (7, (.istore 4, 2), (0, 0, 0), []),
  (9, (.iconst 0, 1), (0, 0, 0), []),
  (10, (.istore 5, 2), (0, 0, 0), []),
  (12, (.iload 5, 2), (0, 1, 6), []),
  (14, (.iconst 2, 1), (0, 0, 0), []),
  (15, (.if_icmp .ge 105, 3), (120, 0, 0), []),
  (18, (.aload_n 0, 1), (0, 0, 0), []),
  (19, (.iload 5, 2), (0, 0, 0), []),
  (21, (.invokevirtual 101, 3), (179, 2, 6), []),
  (24, (.ifCond .ne 6, 3), (30, 0, 0), []),
  (27, (.goto 87, 3), (114, 0, 0), []),
  (30, (.aload_n 0, 1), (0, 0, 0), []),
  (31, (.iload 5, 2), (0, 0, 0), []),
  (33, (.iconst 0, 1), (0, 0, 0), []),
  (34, (.invokevirtual 89, 3), (162, 3, 6), []),
  (37, (.istore 6, 2), (0, 0, 0), []),
  (39, (.iconst 1, 1), (0, 0, 0), []),
  (40, (.istore_n 2, 1), (0, 0, 0), []),
  (41, (.aload_n 0, 1), (0, 0, 0), []),
  (42, (.iload 6, 2), (0, 0, 0), []),
  (44, (.iconst 1, 1), (0, 0, 0), []),
  (45, (.invokevirtual 50, 3), (164, 3, 6), []),
  (48, (.istore 4, 2), (0, 0, 0), []),
  (50, (.iload_n 3, 1), (0, 0, 0), []),
  (51, (.ifCond .eq 16, 3), (67, 0, 0), []),
  (54, (.aload_n 0, 1), (0, 0, 0), []),
  (55, (.iload 5, 2), (0, 0, 0), []),
  (57, (.invokevirtual 152, 3), (194, 2, 6), []),
  (60, (.ifCond .eq 7, 3), (67, 0, 0), []),
  (63, (.iconst 1, 1), (0, 0, 0), []),
  (64, (.goto 4, 3), (68, 0, 0), []),
  (67, (.iconst 0, 1), (0, 0, 0), []),
  (68, (.istore_n 3, 1), (0, 0, 0), []),
  (69, (.aload_n 0, 1), (0, 0, 0), []),
  (70, (.iload 5, 2), (0, 0, 0), []),
  (72, (.invokevirtual 152, 3), (194, 2, 6), []),
  (75, (.ifCond .eq 17, 3), (92, 0, 0), []),
  (78, (.aload_n 0, 1), (0, 0, 0), []),
  (79, (.iload 5, 2), (0, 0, 0), []),
  (81, (.iload 4, 2), (0, 0, 0), []),
  (83, (.iload 6, 2), (0, 0, 0), []),
  (85, (.iconst 1, 1), (0, 0, 0), []),
  (86, (.invokevirtual 68, 3), (172, 5, 6), []),
  (89, (.goto 4, 3), (93, 0, 0), []),
  (92, (.iconst (-1), 1), (0, 0, 0), []),
  (93, (.istore 7, 2), (0, 0, 0), []),
  (95, (.iload 7, 2), (0, 0, 0), []),
  (97, (.iconst (-1), 1), (0, 0, 0), []),
  (98, (.if_icmp .ne 6, 3), (104, 0, 0), []),
  (101, (.goto 13, 3), (114, 0, 0), []),
  (104, (.aload_n 0, 1), (0, 0, 0), []),
  (105, (.iload 5, 2), (0, 0, 0), []),
  (107, (.iload 7, 2), (0, 0, 0), []),
  (109, (.invokevirtual 104, 3), (183, 3, 6), []),
  (112, (.iconst 1, 1), (0, 0, 0), []),
  (113, (.istore_n 1, 1), (0, 0, 0), []),
  (114, (.iinc 5 1, 3), (0, 0, 0), []),
  (117, (.goto (-105), 3), (12, 0, 0), []),
  (120, (.iload_n 1, 1), (0, 0, 0), []),
  (121, (.ifCond .ne 11, 3), (132, 0, 0), []),
  (124, (.iload_n 2, 1), (0, 0, 0), []),
  (125, (.ifCond .eq 7, 3), (132, 0, 0), []),
  (128, (.iload_n 3, 1), (0, 0, 0), []),
  (129, (.ifCond .ne 4, 3), (133, 0, 0), []),
  (132, (.return_, 1), (0, 0, 0), []),
  (133, (.aload_n 0, 1), (0, 0, 0), []),
  (134, (.iconst 0, 1), (0, 0, 0), []),
  (135, (.iconst 1, 1), (0, 0, 0), []),
  (136, (.iload 4, 2), (0, 0, 0), []),
  (138, (.isub, 1), (0, 0, 0), []),
  (139, (.iconst (-1), 1), (0, 0, 0), []),
  (140, (.iconst 1, 1), (0, 0, 0), []),
  (141, (.invokevirtual 68, 3), (172, 5, 6), []),
  (144, (.iconst (-1), 1), (0, 0, 0), []),
  (145, (.if_icmp .ne 18, 3), (163, 0, 0), []),
  (148, (.aload_n 0, 1), (0, 0, 0), []),
  (149, (.iconst 1, 1), (0, 0, 0), []),
  (150, (.iconst 1, 1), (0, 0, 0), []),
  (151, (.iload 4, 2), (0, 0, 0), []),
  (153, (.isub, 1), (0, 0, 0), []),
  (154, (.iconst (-1), 1), (0, 0, 0), []),
  (155, (.iconst 1, 1), (0, 0, 0), []),
  (156, (.invokevirtual 68, 3), (172, 5, 6), []),
  (159, (.iconst (-1), 1), (0, 0, 0), []),
  (160, (.if_icmp .eq 7, 3), (167, 0, 0), []),
  (163, (.iconst 1, 1), (0, 0, 0), []),
  (164, (.goto 4, 3), (168, 0, 0), []),
  (167, (.iconst 0, 1), (0, 0, 0), []),
  (168, (.istore 5, 2), (0, 0, 0), []),
  (170, (.iconst 0, 1), (0, 0, 0), []),
  (171, (.istore 6, 2), (0, 0, 0), []),
  (173, (.iload 6, 2), (0, 1, 7), []),
  (175, (.iconst 2, 1), (0, 0, 0), []),
  (176, (.if_icmp .ge 117, 3), (293, 0, 0), []),
  (179, (.iload 5, 2), (0, 0, 0), []),
  (181, (.ifCond .eq 49, 3), (230, 0, 0), []),
  (184, (.aload_n 0, 1), (0, 0, 0), []),
  (185, (.iload 6, 2), (0, 0, 0), []),
  (187, (.iconst 1, 1), (0, 0, 0), []),
  (188, (.iload 4, 2), (0, 0, 0), []),
  (190, (.isub, 1), (0, 0, 0), []),
  (191, (.iconst (-1), 1), (0, 0, 0), []),
  (192, (.iconst 1, 1), (0, 0, 0), []),
  (193, (.invokevirtual 68, 3), (172, 5, 6), []),
  (196, (.istore 7, 2), (0, 0, 0), []),
  (198, (.aload_n 0, 1), (0, 0, 0), []),
  (199, (.iload 6, 2), (0, 0, 0), []),
  (201, (.iload 7, 2), (0, 0, 0), []),
  (203, (.iconst (-1), 1), (0, 0, 0), []),
  (204, (.if_icmp .ne 18, 3), (222, 0, 0), []),
  (207, (.aload_n 0, 1), (0, 0, 0), []),
  (208, (.iload 6, 2), (0, 0, 0), []),
  (210, (.iconst 1, 1), (0, 0, 0), []),
  (211, (.iload 4, 2), (0, 0, 0), []),
  (213, (.isub, 1), (0, 0, 0), []),
  (214, (.iconst (-1), 1), (0, 0, 0), []),
  (215, (.iconst 0, 1), (0, 0, 0), []),
  (216, (.invokevirtual 68, 3), (172, 5, 6), []),
  (219, (.goto 5, 3), (224, 0, 0), []),
  (222, (.iload 7, 2), (0, 0, 0), []),
  (224, (.invokevirtual 155, 3), (184, 3, 6), []),
  (227, (.goto 60, 3), (287, 0, 0), []),
  (230, (.aload_n 0, 1), (0, 0, 0), []),
  (231, (.iload 6, 2), (0, 0, 0), []),
  (233, (.iload 4, 2), (0, 0, 0), []),
  (235, (.iconst (-1), 1), (0, 0, 0), []),
  (236, (.iconst 1, 1), (0, 0, 0), []),
  (237, (.invokevirtual 68, 3), (172, 5, 6), []),
  (240, (.istore 7, 2), (0, 0, 0), []),
  (242, (.iload 7, 2), (0, 0, 0), []),
  (244, (.iconst (-1), 1), (0, 0, 0), []),
  (245, (.if_icmp .eq 28, 3), (273, 0, 0), []),
  (248, (.iload 7, 2), (0, 0, 0), []),
  (250, (.aload_n 0, 1), (0, 0, 0), []),
  (251, (.iload 6, 2), (0, 0, 0), []),
  (253, (.iconst 0, 1), (0, 0, 0), []),
  (254, (.invokevirtual 89, 3), (162, 3, 6), []),
  (257, (.if_icmp .ne 16, 3), (273, 0, 0), []),
  (260, (.aload_n 0, 1), (0, 0, 0), []),
  (261, (.iload 6, 2), (0, 0, 0), []),
  (263, (.iload 4, 2), (0, 0, 0), []),
  (265, (.iload 7, 2), (0, 0, 0), []),
  (267, (.iconst 1, 1), (0, 0, 0), []),
  (268, (.invokevirtual 68, 3), (172, 5, 6), []),
  (271, (.istore 7, 2), (0, 0, 0), []),
  (273, (.iload 7, 2), (0, 0, 0), []),
  (275, (.iconst (-1), 1), (0, 0, 0), []),
  (276, (.if_icmp .eq 11, 3), (287, 0, 0), []),
  (279, (.aload_n 0, 1), (0, 0, 0), []),
  (280, (.iload 6, 2), (0, 0, 0), []),
  (282, (.iload 7, 2), (0, 0, 0), []),
  (284, (.invokevirtual 155, 3), (184, 3, 6), []),
  (287, (.iinc 6 1, 3), (0, 0, 0), []),
  (290, (.goto (-117), 3), (173, 0, 0), []),
  (293, (.return_, 1), (0, 0, 0), [])]
def t_X6_becomes : List mT := [
  (0, (.iconst 0, 1), (0, 0, 0), []),
  (1, (.istore_n 1, 1), (0, 0, 0), []),
  (2, (.iload_n 1, 1), (0, 1, 2), []),
  (3, (.iconst 2, 1), (0, 0, 0), []),
  (4, (.if_icmp .ge 69, 3), (73, 0, 0), []),
  (7, (.aload_n 0, 1), (0, 0, 0), []),
  (8, (.iload_n 1, 1), (0, 0, 0), []),
  (9, (.iconst 3, 1), (0, 0, 0), []),
  (10, (.invokevirtual 89, 3), (162, 3, 6), []),
  (13, (.istore_n 2, 1), (0, 0, 0), []),
  (14, (.aload_n 0, 1), (0, 0, 0), []),
  (15, (.iload_n 1, 1), (0, 0, 0), []),
  (16, (.iconst 1, 1), (0, 0, 0), []),
  (17, (.invokevirtual 89, 3), (162, 3, 6), []),
  (20, (.iconst 3, 1), (0, 0, 0), []),
  (21, (.if_icmp .ne 46, 3), (67, 0, 0), []),
  (24, (.iload_n 2, 1), (0, 0, 0), []),
  (25, (.iconst (-1), 1), (0, 0, 0), []),
  (26, (.if_icmp .ne 6, 3), (32, 0, 0), []),
  (29, (.goto 38, 3), (67, 0, 0), []),
  (32, (.aload_n 0, 1), (0, 0, 0), []),
  (33, (.iconst 1, 1), (0, 0, 0), []),
  (34, (.iload_n 1, 1), (0, 0, 0), []),
  (35, (.isub, 1), (0, 0, 0), []),
  (36, (.invokevirtual 101, 3), (179, 2, 6), []),
  (39, (.ifCond .eq 22, 3), (61, 0, 0), []),
  (42, (.aload_n 0, 1), (0, 0, 0), []),
  (43, (.iload_n 2, 1), (0, 0, 0), []),
  (44, (.aload_n 0, 1), (0, 0, 0), []),
  (45, (.iconst 1, 1), (0, 0, 0), []),
  (46, (.iload_n 1, 1), (0, 0, 0), []),
  (47, (.isub, 1), (0, 0, 0), []),
  (48, (.iconst 0, 1), (0, 0, 0), []),
  (49, (.invokevirtual 89, 3), (162, 3, 6), []),
  (52, (.invokevirtual 54, 3), (169, 3, 6), []),
  (55, (.ifCond .eq 6, 3), (61, 0, 0), []),
  (58, (.goto 9, 3), (67, 0, 0), []),
  (61, (.aload_n 0, 1), (0, 0, 0), []),
  (62, (.iload_n 1, 1), (0, 0, 0), []),
  (63, (.iload_n 2, 1), (0, 0, 0), []),
  (64, (.invokevirtual 158, 3), (182, 3, 6), []),
  (67, (.iinc 1 1, 3), (0, 0, 0), []),
  (70, (.goto (-68), 3), (2, 0, 0), []),
  (73, (.return_, 1), (0, 0, 0), [])]
def t_X6_shown : List mT := [
  (0, (.aload_n 0, 1), (0, 0, 0), []),
  (1, (.bipush 6, 2), (0, 0, 0), []),
  (3, (.invokevirtual 43, 3), (157, 2, 6), []),
  (6, (.istore_n 1, 1), (0, 0, 0), []),
  (7, (.iconst 0, 1), (0, 0, 0), []),
  (8, (.istore_n 2, 1), (0, 0, 0), []),
  (9, (.iload_n 2, 1), (0, 0, 0), []),
  (10, (.iconst 2, 1), (0, 0, 0), []),
  (11, (.if_icmp .ge 42, 3), (53, 0, 0), []),
  (14, (.iload_n 1, 1), (0, 0, 0), []),
  (15, (.aload_n 0, 1), (0, 0, 0), []),
  (16, (.iload_n 2, 1), (0, 0, 0), []),
  (17, (.invokevirtual 101, 3), (179, 2, 6), []),
  (20, (.ifCond .eq 24, 3), (44, 0, 0), []),
  (23, (.aload_n 0, 1), (0, 0, 0), []),
  (24, (.iload_n 2, 1), (0, 0, 0), []),
  (25, (.iconst 1, 1), (0, 0, 0), []),
  (26, (.invokevirtual 89, 3), (162, 3, 6), []),
  (29, (.iconst 2, 1), (0, 0, 0), []),
  (30, (.if_icmp .ge 14, 3), (44, 0, 0), []),
  (33, (.iconst 1, 1), (0, 0, 0), []),
  (34, (.aload_n 0, 1), (0, 0, 0), []),
  (35, (.iload_n 2, 1), (0, 0, 0), []),
  (36, (.iconst 0, 1), (0, 0, 0), []),
  (37, (.invokevirtual 89, 3), (162, 3, 6), []),
  (40, (.ishl, 1), (0, 0, 0), []),
  (41, (.goto 4, 3), (45, 0, 0), []),
  (44, (.iconst 0, 1), (0, 0, 0), []),
  (45, (.ior, 1), (0, 0, 0), []),
  (46, (.istore_n 1, 1), (0, 0, 0), []),
  (47, (.iinc 2 1, 3), (0, 0, 0), []),
  (50, (.goto (-41), 3), (9, 0, 0), []),
  (53, (.iload_n 1, 1), (0, 0, 0), []),
  (54, (.ireturn, 1), (0, 0, 0), [])]
def t_X6_watches : List mT := [
  (0, (.aload_n 0, 1), (0, 0, 0), []),
  (1, (.invokevirtual 161, 3), (197, 1, 6), []),
  (4, (.istore_n 1, 1), (0, 0, 0), []),
  (5, (.aload_n 0, 1), (0, 0, 0), []),
  (6, (.iconst 5, 1), (0, 0, 0), []),
  (7, (.invokevirtual 43, 3), (157, 2, 6), []),
  (10, (.iconst 1, 1), (0, 0, 0), []),
  (11, (.if_icmp .eq 11, 3), (22, 0, 0), []),
  (14, (.aload_n 0, 1), (0, 0, 0), []),
  (15, (.iload_n 1, 1), (0, 0, 0), []),
  (16, (.invokevirtual 164, 3), (171, 2, 6), []),
  (19, (.ifCond .eq 4, 3), (23, 0, 0), []),
  (22, (.return_, 1), (0, 0, 0), []),
  (23, (.iconst 0, 1), (0, 0, 0), []),
  (24, (.istore_n 2, 1), (0, 0, 0), []),
  (25, (.iload_n 1, 1), (0, 0, 0), []),
  (26, (.iload_n 2, 1), (0, 0, 0), []),
  (27, (.invokestatic 58, 3), (155, 2, 99), []),
  (30, (.ifCond .eq 13, 3), (43, 0, 0), []),
  (33, (.aload_n 0, 1), (0, 0, 0), []),
  (34, (.iload_n 2, 1), (0, 0, 0), []),
  (35, (.invokevirtual 61, 3), (170, 2, 6), []),
  (38, (.iload_n 1, 1), (0, 0, 0), []),
  (39, (.iand, 1), (0, 0, 0), []),
  (40, (.ifCond .ne 9, 3), (49, 0, 0), []),
  (43, (.iinc 2 1, 3), (0, 0, 0), []),
  (46, (.goto (-21), 3), (25, 0, 0), []),
  (49, (.aload_n 0, 1), (0, 0, 0), []),
  (50, (.iconst 5, 1), (0, 0, 0), []),
  (51, (.iconst 1, 1), (0, 0, 0), []),
  (52, (.invokevirtual 46, 3), (158, 3, 6), []),
  (55, (.iconst 0, 1), (0, 0, 0), []),
  (56, (.istore_n 3, 1), (0, 0, 0), []),
  (57, (.iload_n 3, 1), (0, 0, 0), []),
  (58, (.iconst 2, 1), (0, 0, 0), []),
  (59, (.if_icmp .ge 14, 3), (73, 0, 0), []),
  (62, (.aload_n 0, 1), (0, 0, 0), []),
  (63, (.iload_n 3, 1), (0, 0, 0), []),
  (64, (.invokevirtual 72, 3), (174, 2, 6), []),
  (67, (.iinc 3 1, 3), (0, 0, 0), []),
  (70, (.goto (-13), 3), (57, 0, 0), []),
  (73, (.aload_n 0, 1), (0, 0, 0), []),
  (74, (.invokevirtual 167, 3), (202, 1, 6), []),
  (77, (.aload_n 0, 1), (0, 0, 0), []),
  (78, (.iconst 4, 1), (0, 0, 0), []),
  (79, (.iload_n 2, 1), (0, 0, 0), []),
  (80, (.invokevirtual 98, 3), (181, 3, 6), []),
  (83, (.return_, 1), (0, 0, 0), [])]
def t_X6_queues : List mT := [
  (0, (.iconst 0, 1), (0, 0, 0), []),
  (1, (.istore_n 1, 1), (0, 0, 0), []),
  (2, (.iconst 0, 1), (0, 0, 0), []),
  (3, (.istore_n 2, 1), (0, 0, 0), []),
  (4, (.iload_n 2, 1), (0, 0, 0), []),
  (5, (.aload_n 0, 1), (0, 0, 0), []),
  (6, (.iconst 0, 1), (0, 0, 0), []),
  (7, (.invokevirtual 43, 3), (157, 2, 6), []),
  (10, (.if_icmp .ge 19, 3), (29, 0, 0), []),
  (13, (.iload_n 1, 1), (0, 0, 0), []),
  (14, (.aload_n 0, 1), (0, 0, 0), []),
  (15, (.iload_n 2, 1), (0, 0, 0), []),
  (16, (.bipush 12, 2), (0, 0, 0), []),
  (18, (.invokevirtual 50, 3), (164, 3, 6), []),
  (21, (.iadd, 1), (0, 0, 0), []),
  (22, (.istore_n 1, 1), (0, 0, 0), []),
  (23, (.iinc 2 1, 3), (0, 0, 0), []),
  (26, (.goto (-22), 3), (4, 0, 0), []),
  (29, (.iload_n 1, 1), (0, 0, 0), []),
  (30, (.ireturn, 1), (0, 0, 0), [])]
def t_X6_ticks : List mT := [
  (0, (.aload_n 0, 1), (0, 0, 0), []),
  (1, (.iconst 1, 1), (0, 0, 0), []),
  (2, (.iconst 1, 1), (0, 0, 0), []),
  (3, (.invokevirtual 92, 3), (159, 3, 6), []),
  (6, (.iload_n 1, 1), (0, 0, 0), []),
  (7, (.ifCond .eq 7, 3), (14, 0, 0), []),
  (10, (.aload_n 0, 1), (0, 0, 0), []),
  (11, (.invokevirtual 170, 3), (186, 1, 6), []),
  (14, (.aload_n 0, 1), (0, 0, 0), []),
  (15, (.invokevirtual 173, 3), (188, 1, 6), []),
  (18, (.aload_n 0, 1), (0, 0, 0), []),
  (19, (.iconst 5, 1), (0, 0, 0), []),
  (20, (.invokevirtual 43, 3), (157, 2, 6), []),
  (23, (.ifCond .ne 39, 3), (62, 0, 0), []),
  (26, (.aload_n 0, 1), (0, 0, 0), []),
  (27, (.iconst 0, 1), (0, 0, 0), []),
  (28, (.invokevirtual 176, 3), (190, 2, 6), []),
  (31, (.aload_n 0, 1), (0, 0, 0), []),
  (32, (.iconst 1, 1), (0, 0, 0), []),
  (33, (.invokevirtual 176, 3), (190, 2, 6), []),
  (36, (.aload_n 0, 1), (0, 0, 0), []),
  (37, (.invokevirtual 179, 3), (208, 1, 6), []),
  (40, (.aload_n 0, 1), (0, 0, 0), []),
  (41, (.bipush 7, 2), (0, 0, 0), []),
  (43, (.invokevirtual 43, 3), (157, 2, 6), []),
  (46, (.iconst (-1), 1), (0, 0, 0), []),
  (47, (.if_icmp .ne 7, 3), (54, 0, 0), []),
  (50, (.aload_n 0, 1), (0, 0, 0), []),
  (51, (.invokevirtual 182, 3), (195, 1, 6), []),
  (54, (.aload_n 0, 1), (0, 0, 0), []),
  (55, (.invokevirtual 185, 3), (196, 1, 6), []),
  (58, (.aload_n 0, 1), (0, 0, 0), []),
  (59, (.invokevirtual 188, 3), (209, 1, 6), []),
  (62, (.aload_n 0, 1), (0, 0, 0), []),
  (63, (.invokevirtual 191, 3), (198, 1, 6), []),
  (66, (.aload_n 0, 1), (0, 0, 0), []),
  (67, (.bipush 11, 2), (0, 0, 0), []),
  (69, (.aload_n 0, 1), (0, 0, 0), []),
  (70, (.invokevirtual 194, 3), (199, 1, 6), []),
  (73, (.invokevirtual 92, 3), (159, 3, 6), []),
  (76, (.iconst 0, 1), (0, 0, 0), []),
  (77, (.istore_n 2, 1), (0, 0, 0), []),
  (78, (.iload_n 2, 1), (0, 0, 0), []),
  (79, (.aload_n 0, 1), (0, 0, 0), []),
  (80, (.iconst 0, 1), (0, 0, 0), []),
  (81, (.invokevirtual 43, 3), (157, 2, 6), []),
  (84, (.if_icmp .ge 17, 3), (101, 0, 0), []),
  (87, (.aload_n 0, 1), (0, 0, 0), []),
  (88, (.iload_n 2, 1), (0, 0, 0), []),
  (89, (.bipush 16, 2), (0, 0, 0), []),
  (91, (.iconst 0, 1), (0, 0, 0), []),
  (92, (.invokevirtual 95, 3), (165, 4, 6), []),
  (95, (.iinc 2 1, 3), (0, 0, 0), []),
  (98, (.goto (-20), 3), (78, 0, 0), []),
  (101, (.return_, 1), (0, 0, 0), [])]
def t_X6_ofBreak : List mT := [
  (0, (.aload_n 0, 1), (0, 0, 0), []),
  (1, (.sipush 176, 3), (0, 0, 0), []),
  (4, (.iconst 5, 1), (0, 0, 0), []),
  (5, (.iload_n 1, 1), (0, 0, 0), []),
  (6, (.imul, 1), (0, 0, 0), []),
  (7, (.iadd, 1), (0, 0, 0), []),
  (8, (.iload_n 2, 1), (0, 0, 0), []),
  (9, (.iadd, 1), (0, 0, 0), []),
  (10, (.invokevirtual 43, 3), (157, 2, 6), []),
  (13, (.ireturn, 1), (0, 0, 0), [])]
def t_X6_noBreak : List mT := [
  (0, (.aload_n 0, 1), (0, 0, 0), []),
  (1, (.bipush 7, 2), (0, 0, 0), []),
  (3, (.iconst (-1), 1), (0, 0, 0), []),
  (4, (.invokevirtual 46, 3), (158, 3, 6), []),
  (7, (.aload_n 0, 1), (0, 0, 0), []),
  (8, (.bipush 8, 2), (0, 0, 0), []),
  (10, (.iconst 0, 1), (0, 0, 0), []),
  (11, (.invokevirtual 46, 3), (158, 3, 6), []),
  (14, (.aload_n 0, 1), (0, 0, 0), []),
  (15, (.bipush 9, 2), (0, 0, 0), []),
  (17, (.iconst 0, 1), (0, 0, 0), []),
  (18, (.invokevirtual 46, 3), (158, 3, 6), []),
  (21, (.return_, 1), (0, 0, 0), [])]
def t_X6_isStage : List mT := [
  (0, (.aload_n 0, 1), (0, 0, 0), []),
  (1, (.bipush 8, 2), (0, 0, 0), []),
  (3, (.iload_n 1, 1), (0, 0, 0), []),
  (4, (.invokevirtual 46, 3), (158, 3, 6), []),
  (7, (.aload_n 0, 1), (0, 0, 0), []),
  (8, (.bipush 9, 2), (0, 0, 0), []),
  (10, (.iconst 0, 1), (0, 0, 0), []),
  (11, (.invokevirtual 46, 3), (158, 3, 6), []),
  (14, (.return_, 1), (0, 0, 0), [])]
def t_X6_breakBegins : List mT := [
  (0, (.aload_n 0, 1), (0, 0, 0), []),
  (1, (.bipush 7, 2), (0, 0, 0), []),
  (3, (.iload_n 1, 1), (0, 0, 0), []),
  (4, (.invokevirtual 46, 3), (158, 3, 6), []),
  (7, (.aload_n 0, 1), (0, 0, 0), []),
  (8, (.aload_n 0, 1), (0, 0, 0), []),
  (9, (.iload_n 1, 1), (0, 0, 0), []),
  (10, (.iconst 0, 1), (0, 0, 0), []),
  (11, (.invokevirtual 197, 3), (201, 3, 6), []),
  (14, (.ifCond .eq 7, 3), (21, 0, 0), []),
  (17, (.iconst 1, 1), (0, 0, 0), []),
  (18, (.goto 4, 3), (22, 0, 0), []),
  (21, (.iconst 3, 1), (0, 0, 0), []),
  (22, (.invokevirtual 200, 3), (203, 2, 6), []),
  (25, (.aload_n 0, 1), (0, 0, 0), []),
  (26, (.iconst 2, 1), (0, 0, 0), []),
  (27, (.iload_n 1, 1), (0, 0, 0), []),
  (28, (.invokevirtual 98, 3), (181, 3, 6), []),
  (31, (.return_, 1), (0, 0, 0), [])]
def t_X6_breakEnds : List mT := [
  (0, (.aload_n 0, 1), (0, 0, 0), []),
  (1, (.iconst 3, 1), (0, 0, 0), []),
  (2, (.aload_n 0, 1), (0, 0, 0), []),
  (3, (.bipush 7, 2), (0, 0, 0), []),
  (5, (.invokevirtual 43, 3), (157, 2, 6), []),
  (8, (.invokevirtual 98, 3), (181, 3, 6), []),
  (11, (.aload_n 0, 1), (0, 0, 0), []),
  (12, (.invokevirtual 167, 3), (202, 1, 6), []),
  (15, (.return_, 1), (0, 0, 0), [])]
def t_X6_goal : List mT := [
  (0, (.aload_n 0, 1), (0, 0, 0), []),
  (1, (.aload_n 0, 1), (0, 0, 0), []),
  (2, (.bipush 7, 2), (0, 0, 0), []),
  (4, (.invokevirtual 43, 3), (157, 2, 6), []),
  (7, (.aload_n 0, 1), (0, 0, 0), []),
  (8, (.bipush 8, 2), (0, 0, 0), []),
  (10, (.invokevirtual 43, 3), (157, 2, 6), []),
  (13, (.iconst 3, 1), (0, 0, 0), []),
  (14, (.if_icmp .ge 7, 3), (21, 0, 0), []),
  (17, (.iconst 0, 1), (0, 0, 0), []),
  (18, (.goto 4, 3), (22, 0, 0), []),
  (21, (.iconst 2, 1), (0, 0, 0), []),
  (22, (.invokevirtual 197, 3), (201, 3, 6), []),
  (25, (.istore_n 2, 1), (0, 0, 0), []),
  (26, (.iconst 0, 1), (0, 0, 0), []),
  (27, (.istore_n 3, 1), (0, 0, 0), []),
  (28, (.iload_n 3, 1), (0, 0, 0), []),
  (29, (.aload_n 0, 1), (0, 0, 0), []),
  (30, (.iconst 0, 1), (0, 0, 0), []),
  (31, (.invokevirtual 43, 3), (157, 2, 6), []),
  (34, (.if_icmp .ge 29, 3), (63, 0, 0), []),
  (37, (.iload_n 2, 1), (0, 0, 0), []),
  (38, (.iload_n 3, 1), (0, 0, 0), []),
  (39, (.invokestatic 58, 3), (155, 2, 99), []),
  (42, (.ifCond .eq 15, 3), (57, 0, 0), []),
  (45, (.aload_n 0, 1), (0, 0, 0), []),
  (46, (.iload_n 3, 1), (0, 0, 0), []),
  (47, (.iconst 0, 1), (0, 0, 0), []),
  (48, (.invokevirtual 50, 3), (164, 3, 6), []),
  (51, (.iload_n 1, 1), (0, 0, 0), []),
  (52, (.if_icmp .ne 5, 3), (57, 0, 0), []),
  (55, (.iload_n 3, 1), (0, 0, 0), []),
  (56, (.ireturn, 1), (0, 0, 0), []),
  (57, (.iinc 3 1, 3), (0, 0, 0), []),
  (60, (.goto (-32), 3), (28, 0, 0), []),
  (63, (.iconst (-1), 1), (0, 0, 0), []),
  (64, (.ireturn, 1), (0, 0, 0), [])]
def t_X6_goesTo : List mT := [
  (0, (.aload_n 0, 1), (0, 0, 0), []),
  (1, (.iload_n 1, 1), (0, 0, 0), []),
  (2, (.invokevirtual 203, 3), (206, 2, 6), []),
  (5, (.istore_n 2, 1), (0, 0, 0), []),
  (6, (.aload_n 0, 1), (0, 0, 0), []),
  (7, (.iload_n 1, 1), (0, 0, 0), []),
  (8, (.invokevirtual 137, 3), (180, 2, 6), []),
  (11, (.ifCond .ne 13, 3), (24, 0, 0), []),
  (14, (.aload_n 0, 1), (0, 0, 0), []),
  (15, (.iload_n 1, 1), (0, 0, 0), []),
  (16, (.iconst 3, 1), (0, 0, 0), []),
  (17, (.iload_n 2, 1), (0, 0, 0), []),
  (18, (.invokevirtual 76, 3), (163, 4, 6), []),
  (21, (.goto 77, 3), (98, 0, 0), []),
  (24, (.aload_n 0, 1), (0, 0, 0), []),
  (25, (.iload_n 1, 1), (0, 0, 0), []),
  (26, (.iconst 0, 1), (0, 0, 0), []),
  (27, (.invokevirtual 89, 3), (162, 3, 6), []),
  (30, (.iload_n 2, 1), (0, 0, 0), []),
  (31, (.if_icmp .eq 67, 3), (98, 0, 0), []),
  (34, (.aload_n 0, 1), (0, 0, 0), []),
  (35, (.iload_n 1, 1), (0, 0, 0), []),
  (36, (.bipush 6, 2), (0, 0, 0), []),
  (38, (.invokevirtual 89, 3), (162, 3, 6), []),
  (41, (.iconst 1, 1), (0, 0, 0), []),
  (42, (.if_icmp .ne 19, 3), (61, 0, 0), []),
  (45, (.aload_n 0, 1), (0, 0, 0), []),
  (46, (.iload_n 1, 1), (0, 0, 0), []),
  (47, (.bipush 6, 2), (0, 0, 0), []),
  (49, (.iconst 2, 1), (0, 0, 0), []),
  (50, (.invokevirtual 76, 3), (163, 4, 6), []),
  (53, (.aload_n 0, 1), (0, 0, 0), []),
  (54, (.iload_n 1, 1), (0, 0, 0), []),
  (55, (.bipush 7, 2), (0, 0, 0), []),
  (57, (.iconst 0, 1), (0, 0, 0), []),
  (58, (.invokevirtual 76, 3), (163, 4, 6), []),
  (61, (.aload_n 0, 1), (0, 0, 0), []),
  (62, (.iload_n 1, 1), (0, 0, 0), []),
  (63, (.bipush 6, 2), (0, 0, 0), []),
  (65, (.invokevirtual 89, 3), (162, 3, 6), []),
  (68, (.ifCond .eq 24, 3), (92, 0, 0), []),
  (71, (.aload_n 0, 1), (0, 0, 0), []),
  (72, (.iload_n 1, 1), (0, 0, 0), []),
  (73, (.bipush 7, 2), (0, 0, 0), []),
  (75, (.invokevirtual 89, 3), (162, 3, 6), []),
  (78, (.aload_n 0, 1), (0, 0, 0), []),
  (79, (.aload_n 0, 1), (0, 0, 0), []),
  (80, (.bipush 7, 2), (0, 0, 0), []),
  (82, (.invokevirtual 43, 3), (157, 2, 6), []),
  (85, (.iconst 4, 1), (0, 0, 0), []),
  (86, (.invokevirtual 197, 3), (201, 3, 6), []),
  (89, (.if_icmp .lt 9, 3), (98, 0, 0), []),
  (92, (.aload_n 0, 1), (0, 0, 0), []),
  (93, (.iload_n 1, 1), (0, 0, 0), []),
  (94, (.iload_n 2, 1), (0, 0, 0), []),
  (95, (.invokevirtual 104, 3), (183, 3, 6), []),
  (98, (.return_, 1), (0, 0, 0), [])]
def t_X6_breaks : List mT := [
  (0, (.aload_n 0, 1), (0, 0, 0), []),
  (1, (.iconst 0, 1), (0, 0, 0), []),
  (2, (.putfield 206, 3), (6, 5, 0), []),
  (5, (.aload_n 0, 1), (0, 0, 0), []),
  (6, (.bipush 7, 2), (0, 0, 0), []),
  (8, (.invokevirtual 43, 3), (157, 2, 6), []),
  (11, (.iconst 1, 1), (0, 0, 0), []),
  (12, (.if_icmp .ne 20, 3), (32, 0, 0), []),
  (15, (.aload_n 0, 1), (0, 0, 0), []),
  (16, (.bipush 10, 2), (0, 0, 0), []),
  (18, (.invokevirtual 43, 3), (157, 2, 6), []),
  (21, (.iconst 0, 1), (0, 0, 0), []),
  (22, (.invokestatic 58, 3), (155, 2, 99), []),
  (25, (.ifCond .eq 7, 3), (32, 0, 0), []),
  (28, (.aload_n 0, 1), (0, 0, 0), []),
  (29, (.invokevirtual 210, 3), (205, 1, 6), []),
  (32, (.aload_n 0, 1), (0, 0, 0), []),
  (33, (.bipush 7, 2), (0, 0, 0), []),
  (35, (.invokevirtual 43, 3), (157, 2, 6), []),
  (38, (.iconst (-1), 1), (0, 0, 0), []),
  (39, (.if_icmp .ne 34, 3), (73, 0, 0), []),
  (42, (.aload_n 0, 1), (0, 0, 0), []),
  (43, (.bipush 10, 2), (0, 0, 0), []),
  (45, (.invokevirtual 43, 3), (157, 2, 6), []),
  (48, (.ifCond .eq 25, 3), (73, 0, 0), []),
  (51, (.aload_n 0, 1), (0, 0, 0), []),
  (52, (.aload_n 0, 1), (0, 0, 0), []),
  (53, (.bipush 10, 2), (0, 0, 0), []),
  (55, (.invokevirtual 43, 3), (157, 2, 6), []),
  (58, (.iconst 0, 1), (0, 0, 0), []),
  (59, (.invokestatic 58, 3), (155, 2, 99), []),
  (62, (.ifCond .eq 7, 3), (69, 0, 0), []),
  (65, (.iconst 0, 1), (0, 0, 0), []),
  (66, (.goto 4, 3), (70, 0, 0), []),
  (69, (.iconst 1, 1), (0, 0, 0), []),
  (70, (.invokevirtual 213, 3), (204, 2, 6), []),
  (73, (.aload_n 0, 1), (0, 0, 0), []),
  (74, (.bipush 7, 2), (0, 0, 0), []),
  (76, (.invokevirtual 43, 3), (157, 2, 6), []),
  (79, (.iconst (-1), 1), (0, 0, 0), []),
  (80, (.if_icmp .ne 4, 3), (84, 0, 0), []),
  (83, (.return_, 1), (0, 0, 0), []),
  (84, (.aload_n 0, 1), (0, 0, 0), []),
  (85, (.aload_n 0, 1), (0, 0, 0), []),
  (86, (.bipush 8, 2), (0, 0, 0), []),
  (88, (.invokevirtual 43, 3), (157, 2, 6), []),
  (91, (.iconst 1, 1), (0, 0, 0), []),
  (92, (.if_icmp .eq 13, 3), (105, 0, 0), []),
  (95, (.aload_n 0, 1), (0, 0, 0), []),
  (96, (.bipush 8, 2), (0, 0, 0), []),
  (98, (.invokevirtual 43, 3), (157, 2, 6), []),
  (101, (.iconst 3, 1), (0, 0, 0), []),
  (102, (.if_icmp .ne 7, 3), (109, 0, 0), []),
  (105, (.iconst 1, 1), (0, 0, 0), []),
  (106, (.goto 4, 3), (110, 0, 0), []),
  (109, (.iconst 0, 1), (0, 0, 0), []),
  (110, (.putfield 206, 3), (6, 5, 0), []),
  (113, (.aload_n 0, 1), (0, 0, 0), []),
  (114, (.getfield 206, 3), (6, 5, 0), []),
  (117, (.ifCond .eq 14, 3), (131, 0, 0), []),
  (120, (.aload_n 0, 1), (0, 0, 0), []),
  (121, (.iconst 0, 1), (0, 0, 0), []),
  (122, (.invokevirtual 216, 3), (207, 2, 6), []),
  (125, (.aload_n 0, 1), (0, 0, 0), []),
  (126, (.iconst 1, 1), (0, 0, 0), []),
  (127, (.invokevirtual 216, 3), (207, 2, 6), []),
  (130, (.return_, 1), (0, 0, 0), []),
  (131, (.aload_n 0, 1), (0, 0, 0), []),
  (132, (.bipush 9, 2), (0, 0, 0), []),
  (134, (.iconst 1, 1), (0, 0, 0), []),
  (135, (.invokevirtual 92, 3), (159, 3, 6), []),
  (138, (.aload_n 0, 1), (0, 0, 0), []),
  (139, (.bipush 8, 2), (0, 0, 0), []),
  (141, (.invokevirtual 43, 3), (157, 2, 6), []),
  (144, (.iconst 2, 1), (0, 0, 0), []),
  (145, (.if_icmp .ne 29, 3), (174, 0, 0), []),
  (148, (.aload_n 0, 1), (0, 0, 0), []),
  (149, (.bipush 9, 2), (0, 0, 0), []),
  (151, (.invokevirtual 43, 3), (157, 2, 6), []),
  (154, (.aload_n 0, 1), (0, 0, 0), []),
  (155, (.aload_n 0, 1), (0, 0, 0), []),
  (156, (.bipush 7, 2), (0, 0, 0), []),
  (158, (.invokevirtual 43, 3), (157, 2, 6), []),
  (161, (.iconst 1, 1), (0, 0, 0), []),
  (162, (.invokevirtual 197, 3), (201, 3, 6), []),
  (165, (.if_icmp .lt 8, 3), (173, 0, 0), []),
  (168, (.aload_n 0, 1), (0, 0, 0), []),
  (169, (.iconst 3, 1), (0, 0, 0), []),
  (170, (.invokevirtual 200, 3), (203, 2, 6), []),
  (173, (.return_, 1), (0, 0, 0), []),
  (174, (.aload_n 0, 1), (0, 0, 0), []),
  (175, (.bipush 9, 2), (0, 0, 0), []),
  (177, (.invokevirtual 43, 3), (157, 2, 6), []),
  (180, (.aload_n 0, 1), (0, 0, 0), []),
  (181, (.aload_n 0, 1), (0, 0, 0), []),
  (182, (.bipush 7, 2), (0, 0, 0), []),
  (184, (.invokevirtual 43, 3), (157, 2, 6), []),
  (187, (.iconst 3, 1), (0, 0, 0), []),
  (188, (.invokevirtual 197, 3), (201, 3, 6), []),
  (191, (.if_icmp .lt 21, 3), (212, 0, 0), []),
  (194, (.aload_n 0, 1), (0, 0, 0), []),
  (195, (.bipush 10, 2), (0, 0, 0), []),
  (197, (.invokevirtual 43, 3), (157, 2, 6), []),
  (200, (.aload_n 0, 1), (0, 0, 0), []),
  (201, (.bipush 7, 2), (0, 0, 0), []),
  (203, (.invokevirtual 43, 3), (157, 2, 6), []),
  (206, (.invokestatic 58, 3), (155, 2, 99), []),
  (209, (.ifCond .eq 4, 3), (213, 0, 0), []),
  (212, (.return_, 1), (0, 0, 0), []),
  (213, (.aload_n 0, 1), (0, 0, 0), []),
  (214, (.invokevirtual 210, 3), (205, 1, 6), []),
  (217, (.aload_n 0, 1), (0, 0, 0), []),
  (218, (.iconst 0, 1), (0, 0, 0), []),
  (219, (.invokevirtual 137, 3), (180, 2, 6), []),
  (222, (.ifCond .ne 16, 3), (238, 0, 0), []),
  (225, (.aload_n 0, 1), (0, 0, 0), []),
  (226, (.iconst 1, 1), (0, 0, 0), []),
  (227, (.invokevirtual 137, 3), (180, 2, 6), []),
  (230, (.ifCond .ne 8, 3), (238, 0, 0), []),
  (233, (.aload_n 0, 1), (0, 0, 0), []),
  (234, (.invokevirtual 33, 3), (173, 1, 6), []),
  (237, (.return_, 1), (0, 0, 0), []),
  (238, (.aload_n 0, 1), (0, 0, 0), []),
  (239, (.aload_n 0, 1), (0, 0, 0), []),
  (240, (.aload_n 0, 1), (0, 0, 0), []),
  (241, (.iconst 0, 1), (0, 0, 0), []),
  (242, (.invokevirtual 137, 3), (180, 2, 6), []),
  (245, (.ifCond .eq 7, 3), (252, 0, 0), []),
  (248, (.iconst 0, 1), (0, 0, 0), []),
  (249, (.goto 4, 3), (253, 0, 0), []),
  (252, (.iconst 1, 1), (0, 0, 0), []),
  (253, (.iconst 0, 1), (0, 0, 0), []),
  (254, (.invokevirtual 89, 3), (162, 3, 6), []),
  (257, (.iconst 1, 1), (0, 0, 0), []),
  (258, (.invokevirtual 50, 3), (164, 3, 6), []),
  (261, (.istore_n 1, 1), (0, 0, 0), []),
  (262, (.iconst 0, 1), (0, 0, 0), []),
  (263, (.istore_n 2, 1), (0, 0, 0), []),
  (264, (.iload_n 2, 1), (0, 0, 0), []),
  (265, (.iconst 2, 1), (0, 0, 0), []),
  (266, (.if_icmp .ge 33, 3), (299, 0, 0), []),
  (269, (.aload_n 0, 1), (0, 0, 0), []),
  (270, (.iload_n 2, 1), (0, 0, 0), []),
  (271, (.iconst 0, 1), (0, 0, 0), []),
  (272, (.invokevirtual 89, 3), (162, 3, 6), []),
  (275, (.iconst (-1), 1), (0, 0, 0), []),
  (276, (.if_icmp .ne 17, 3), (293, 0, 0), []),
  (279, (.aload_n 0, 1), (0, 0, 0), []),
  (280, (.iload_n 2, 1), (0, 0, 0), []),
  (281, (.iconst 3, 1), (0, 0, 0), []),
  (282, (.aload_n 0, 1), (0, 0, 0), []),
  (283, (.iload_n 2, 1), (0, 0, 0), []),
  (284, (.iload_n 1, 1), (0, 0, 0), []),
  (285, (.iconst (-1), 1), (0, 0, 0), []),
  (286, (.iconst 0, 1), (0, 0, 0), []),
  (287, (.invokevirtual 68, 3), (172, 5, 6), []),
  (290, (.invokevirtual 76, 3), (163, 4, 6), []),
  (293, (.iinc 2 1, 3), (0, 0, 0), []),
  (296, (.goto (-32), 3), (264, 0, 0), []),
  (299, (.return_, 1), (0, 0, 0), [])]
def t_X6_staged : List mT := [
  (0, (.aload_n 0, 1), (0, 0, 0), []),
  (1, (.getfield 206, 3), (6, 5, 0), []),
  (4, (.ifCond .eq 13, 3), (17, 0, 0), []),
  (7, (.aload_n 0, 1), (0, 0, 0), []),
  (8, (.bipush 7, 2), (0, 0, 0), []),
  (10, (.invokevirtual 43, 3), (157, 2, 6), []),
  (13, (.iconst (-1), 1), (0, 0, 0), []),
  (14, (.if_icmp .ne 4, 3), (18, 0, 0), []),
  (17, (.return_, 1), (0, 0, 0), []),
  (18, (.iconst 0, 1), (0, 0, 0), []),
  (19, (.istore_n 1, 1), (0, 0, 0), []),
  (20, (.iload_n 1, 1), (0, 1, 2), []),
  (21, (.iconst 2, 1), (0, 0, 0), []),
  (22, (.if_icmp .ge 52, 3), (74, 0, 0), []),
  (25, (.aload_n 0, 1), (0, 0, 0), []),
  (26, (.iload_n 1, 1), (0, 0, 0), []),
  (27, (.invokevirtual 203, 3), (206, 2, 6), []),
  (30, (.istore_n 2, 1), (0, 0, 0), []),
  (31, (.iload_n 2, 1), (0, 0, 0), []),
  (32, (.iconst (-1), 1), (0, 0, 0), []),
  (33, (.if_icmp .ne 16, 3), (49, 0, 0), []),
  (36, (.aload_n 0, 1), (0, 0, 0), []),
  (37, (.iload_n 1, 1), (0, 0, 0), []),
  (38, (.iconst 0, 1), (0, 0, 0), []),
  (39, (.invokevirtual 89, 3), (162, 3, 6), []),
  (42, (.iconst (-1), 1), (0, 0, 0), []),
  (43, (.if_icmp .eq 25, 3), (68, 0, 0), []),
  (46, (.goto 21, 3), (67, 0, 0), []),
  (49, (.aload_n 0, 1), (0, 0, 0), []),
  (50, (.iload_n 1, 1), (0, 0, 0), []),
  (51, (.invokevirtual 137, 3), (180, 2, 6), []),
  (54, (.ifCond .eq 13, 3), (67, 0, 0), []),
  (57, (.aload_n 0, 1), (0, 0, 0), []),
  (58, (.iload_n 1, 1), (0, 0, 0), []),
  (59, (.iconst 0, 1), (0, 0, 0), []),
  (60, (.invokevirtual 89, 3), (162, 3, 6), []),
  (63, (.iload_n 2, 1), (0, 0, 0), []),
  (64, (.if_icmp .eq 4, 3), (68, 0, 0), []),
  (67, (.return_, 1), (0, 0, 0), []),
  (68, (.iinc 1 1, 3), (0, 0, 0), []),
  (71, (.goto (-51), 3), (20, 0, 0), []),
  (74, (.aload_n 0, 1), (0, 0, 0), []),
  (75, (.aload_n 0, 1), (0, 0, 0), []),
  (76, (.bipush 8, 2), (0, 0, 0), []),
  (78, (.invokevirtual 43, 3), (157, 2, 6), []),
  (81, (.iconst 1, 1), (0, 0, 0), []),
  (82, (.iadd, 1), (0, 0, 0), []),
  (83, (.invokevirtual 200, 3), (203, 2, 6), []),
  (86, (.return_, 1), (0, 0, 0), [])]
def t_X6_feed : List mT := [
  (0, (.aload_n 0, 1), (0, 0, 0), []),
  (1, (.getfield 219, 3), (6, 8, 0), []),
  (4, (.sipush 680, 3), (0, 0, 0), []),
  (7, (.if_icmp .le 5, 3), (12, 0, 0), []),
  (10, (.iconst (-1), 1), (0, 0, 0), []),
  (11, (.ireturn, 1), (0, 0, 0), []),
  (12, (.aload_n 0, 1), (0, 0, 0), []),
  (13, (.iload_n 1, 1), (0, 0, 0), []),
  (14, (.invokevirtual 222, 3), (211, 2, 6), []),
  (17, (.aload_n 0, 1), (0, 0, 0), []),
  (18, (.iload_n 2, 1), (0, 0, 0), []),
  (19, (.invokevirtual 222, 3), (211, 2, 6), []),
  (22, (.aload_n 0, 1), (0, 0, 0), []),
  (23, (.iload_n 3, 1), (0, 0, 0), []),
  (24, (.invokevirtual 222, 3), (211, 2, 6), []),
  (27, (.aload_n 0, 1), (0, 0, 0), []),
  (28, (.iload 4, 2), (0, 0, 0), []),
  (30, (.invokevirtual 222, 3), (211, 2, 6), []),
  (33, (.aload_n 0, 1), (0, 0, 0), []),
  (34, (.iload 5, 2), (0, 0, 0), []),
  (36, (.invokevirtual 222, 3), (211, 2, 6), []),
  (39, (.aload_n 0, 1), (0, 0, 0), []),
  (40, (.getfield 219, 3), (6, 8, 0), []),
  (43, (.ireturn, 1), (0, 0, 0), [])]
def t_X6_four : List mT := [
  (0, (.iconst 3, 1), (0, 0, 0), []),
  (1, (.istore_n 2, 1), (0, 0, 0), []),
  (2, (.iload_n 2, 1), (0, 0, 0), []),
  (3, (.ifCond .lt 35, 3), (38, 0, 0), []),
  (6, (.aload_n 0, 1), (0, 0, 0), []),
  (7, (.getfield 13, 3), (6, 6, 0), []),
  (10, (.aload_n 0, 1), (0, 0, 0), []),
  (11, (.getfield 219, 3), (6, 8, 0), []),
  (14, (.iload_n 1, 1), (0, 0, 0), []),
  (15, (.bipush 8, 2), (0, 0, 0), []),
  (17, (.iload_n 2, 1), (0, 0, 0), []),
  (18, (.imul, 1), (0, 0, 0), []),
  (19, (.ishr, 1), (0, 0, 0), []),
  (20, (.i2b, 1), (0, 0, 0), []),
  (21, (.bastore, 1), (0, 0, 0), []),
  (22, (.aload_n 0, 1), (0, 0, 0), []),
  (23, (.dup, 1), (0, 0, 0), []),
  (24, (.getfield 219, 3), (6, 8, 0), []),
  (27, (.iconst 1, 1), (0, 0, 0), []),
  (28, (.iadd, 1), (0, 0, 0), []),
  (29, (.putfield 219, 3), (6, 8, 0), []),
  (32, (.iinc 2 (-1), 3), (0, 0, 0), []),
  (35, (.goto (-33), 3), (2, 0, 0), []),
  (38, (.return_, 1), (0, 0, 0), [])]
def t_X6_byteAt : List mT := [
  (0, (.iload_n 1, 1), (0, 0, 0), []),
  (1, (.aload_n 0, 1), (0, 0, 0), []),
  (2, (.getfield 225, 3), (6, 9, 0), []),
  (5, (.if_icmp .ge 16, 3), (21, 0, 0), []),
  (8, (.aload_n 0, 1), (0, 0, 0), []),
  (9, (.getfield 17, 3), (6, 7, 0), []),
  (12, (.iload_n 1, 1), (0, 0, 0), []),
  (13, (.baload, 1), (0, 0, 0), []),
  (14, (.sipush 255, 3), (0, 0, 0), []),
  (17, (.iand, 1), (0, 0, 0), []),
  (18, (.goto 4, 3), (22, 0, 0), []),
  (21, (.iconst (-1), 1), (0, 0, 0), []),
  (22, (.ireturn, 1), (0, 0, 0), [])]
def t_X6_isSmall : List mT := [
  (0, (.iload_n 0, 1), (0, 0, 0), []),
  (1, (.bipush 97, 2), (0, 0, 0), []),
  (3, (.if_icmp .lt 13, 3), (16, 0, 0), []),
  (6, (.iload_n 0, 1), (0, 0, 0), []),
  (7, (.bipush 122, 2), (0, 0, 0), []),
  (9, (.if_icmp .gt 7, 3), (16, 0, 0), []),
  (12, (.iconst 1, 1), (0, 0, 0), []),
  (13, (.goto 4, 3), (17, 0, 0), []),
  (16, (.iconst 0, 1), (0, 0, 0), []),
  (17, (.ireturn, 1), (0, 0, 0), [])]
def t_X6_isDigit : List mT := [
  (0, (.iload_n 0, 1), (0, 0, 0), []),
  (1, (.bipush 48, 2), (0, 0, 0), []),
  (3, (.if_icmp .lt 13, 3), (16, 0, 0), []),
  (6, (.iload_n 0, 1), (0, 0, 0), []),
  (7, (.bipush 57, 2), (0, 0, 0), []),
  (9, (.if_icmp .gt 7, 3), (16, 0, 0), []),
  (12, (.iconst 1, 1), (0, 0, 0), []),
  (13, (.goto 4, 3), (17, 0, 0), []),
  (16, (.iconst 0, 1), (0, 0, 0), []),
  (17, (.ireturn, 1), (0, 0, 0), [])]
def t_X6_ahead : List mT := [
  (0, (.aload_n 0, 1), (0, 0, 0), []),
  (1, (.aload_n 0, 1), (0, 0, 0), []),
  (2, (.getfield 228, 3), (6, 12, 0), []),
  (5, (.invokevirtual 231, 3), (212, 2, 6), []),
  (8, (.bipush 32, 2), (0, 0, 0), []),
  (10, (.if_icmp .eq 16, 3), (26, 0, 0), []),
  (13, (.aload_n 0, 1), (0, 0, 0), []),
  (14, (.aload_n 0, 1), (0, 0, 0), []),
  (15, (.getfield 228, 3), (6, 12, 0), []),
  (18, (.invokevirtual 231, 3), (212, 2, 6), []),
  (21, (.bipush 10, 2), (0, 0, 0), []),
  (23, (.if_icmp .ne 16, 3), (39, 0, 0), []),
  (26, (.aload_n 0, 1), (0, 0, 0), []),
  (27, (.dup, 1), (0, 0, 0), []),
  (28, (.getfield 228, 3), (6, 12, 0), []),
  (31, (.iconst 1, 1), (0, 0, 0), []),
  (32, (.iadd, 1), (0, 0, 0), []),
  (33, (.putfield 228, 3), (6, 12, 0), []),
  (36, (.goto (-36), 3), (0, 0, 0), []),
  (39, (.aload_n 0, 1), (0, 0, 0), []),
  (40, (.aload_n 0, 1), (0, 0, 0), []),
  (41, (.getfield 228, 3), (6, 12, 0), []),
  (44, (.putfield 234, 3), (6, 11, 0), []),
  (47, (.aload_n 0, 1), (0, 0, 0), []),
  (48, (.aload_n 0, 1), (0, 0, 0), []),
  (49, (.getfield 228, 3), (6, 12, 0), []),
  (52, (.invokevirtual 231, 3), (212, 2, 6), []),
  (55, (.istore_n 1, 1), (0, 0, 0), []),
  (56, (.iload_n 1, 1), (0, 0, 0), []),
  (57, (.iconst (-1), 1), (0, 0, 0), []),
  (58, (.if_icmp .ne 11, 3), (69, 0, 0), []),
  (61, (.aload_n 0, 1), (0, 0, 0), []),
  (62, (.iconst 0, 1), (0, 0, 0), []),
  (63, (.putfield 237, 3), (6, 10, 0), []),
  (66, (.goto 163, 3), (229, 0, 0), []),
  (69, (.iload_n 1, 1), (0, 0, 0), []),
  (70, (.invokestatic 240, 3), (213, 1, 99), []),
  (73, (.ifCond .eq 38, 3), (111, 0, 0), []),
  (76, (.aload_n 0, 1), (0, 0, 0), []),
  (77, (.aload_n 0, 1), (0, 0, 0), []),
  (78, (.getfield 228, 3), (6, 12, 0), []),
  (81, (.invokevirtual 231, 3), (212, 2, 6), []),
  (84, (.invokestatic 240, 3), (213, 1, 99), []),
  (87, (.ifCond .eq 16, 3), (103, 0, 0), []),
  (90, (.aload_n 0, 1), (0, 0, 0), []),
  (91, (.dup, 1), (0, 0, 0), []),
  (92, (.getfield 228, 3), (6, 12, 0), []),
  (95, (.iconst 1, 1), (0, 0, 0), []),
  (96, (.iadd, 1), (0, 0, 0), []),
  (97, (.putfield 228, 3), (6, 12, 0), []),
  (100, (.goto (-24), 3), (76, 0, 0), []),
  (103, (.aload_n 0, 1), (0, 0, 0), []),
  (104, (.iconst 2, 1), (0, 0, 0), []),
  (105, (.putfield 237, 3), (6, 10, 0), []),
  (108, (.goto 121, 3), (229, 0, 0), []),
  (111, (.iload_n 1, 1), (0, 0, 0), []),
  (112, (.invokestatic 243, 3), (214, 1, 99), []),
  (115, (.ifCond .eq 89, 3), (204, 0, 0), []),
  (118, (.aload_n 0, 1), (0, 0, 0), []),
  (119, (.iconst 0, 1), (0, 0, 0), []),
  (120, (.putfield 246, 3), (6, 13, 0), []),
  (123, (.aload_n 0, 1), (0, 0, 0), []),
  (124, (.aload_n 0, 1), (0, 0, 0), []),
  (125, (.getfield 228, 3), (6, 12, 0), []),
  (128, (.invokevirtual 231, 3), (212, 2, 6), []),
  (131, (.invokestatic 243, 3), (214, 1, 99), []),
  (134, (.ifCond .eq 45, 3), (179, 0, 0), []),
  (137, (.aload_n 0, 1), (0, 0, 0), []),
  (138, (.sipush 9999, 3), (0, 0, 0), []),
  (141, (.bipush 10, 2), (0, 0, 0), []),
  (143, (.aload_n 0, 1), (0, 0, 0), []),
  (144, (.getfield 246, 3), (6, 13, 0), []),
  (147, (.imul, 1), (0, 0, 0), []),
  (148, (.aload_n 0, 1), (0, 0, 0), []),
  (149, (.aload_n 0, 1), (0, 0, 0), []),
  (150, (.getfield 228, 3), (6, 12, 0), []),
  (153, (.invokevirtual 231, 3), (212, 2, 6), []),
  (156, (.iadd, 1), (0, 0, 0), []),
  (157, (.bipush 48, 2), (0, 0, 0), []),
  (159, (.isub, 1), (0, 0, 0), []),
  (160, (.invokestatic 119, 3), (277, 2, 99), []),
  (163, (.putfield 246, 3), (6, 13, 0), []),
  (166, (.aload_n 0, 1), (0, 0, 0), []),
  (167, (.dup, 1), (0, 0, 0), []),
  (168, (.getfield 228, 3), (6, 12, 0), []),
  (171, (.iconst 1, 1), (0, 0, 0), []),
  (172, (.iadd, 1), (0, 0, 0), []),
  (173, (.putfield 228, 3), (6, 12, 0), []),
  (176, (.goto (-53), 3), (123, 0, 0), []),
  (179, (.aload_n 0, 1), (0, 0, 0), []),
  (180, (.aload_n 0, 1), (0, 0, 0), []),
  (181, (.getfield 228, 3), (6, 12, 0), []),
  (184, (.aload_n 0, 1), (0, 0, 0), []),
  (185, (.getfield 234, 3), (6, 11, 0), []),
  (188, (.isub, 1), (0, 0, 0), []),
  (189, (.iconst 3, 1), (0, 0, 0), []),
  (190, (.if_icmp .le 7, 3), (197, 0, 0), []),
  (193, (.iconst 1, 1), (0, 0, 0), []),
  (194, (.goto 4, 3), (198, 0, 0), []),
  (197, (.iconst 3, 1), (0, 0, 0), []),
  (198, (.putfield 237, 3), (6, 10, 0), []),
  (201, (.goto 28, 3), (229, 0, 0), []),
  (204, (.aload_n 0, 1), (0, 0, 0), []),
  (205, (.dup, 1), (0, 0, 0), []),
  (206, (.getfield 228, 3), (6, 12, 0), []),
  (209, (.iconst 1, 1), (0, 0, 0), []),
  (210, (.iadd, 1), (0, 0, 0), []),
  (211, (.putfield 228, 3), (6, 12, 0), []),
  (214, (.aload_n 0, 1), (0, 0, 0), []),
  (215, (.iload_n 1, 1), (0, 0, 0), []),
  (216, (.bipush 59, 2), (0, 0, 0), []),
  (218, (.if_icmp .ne 7, 3), (225, 0, 0), []),
  (221, (.iconst 4, 1), (0, 0, 0), []),
  (222, (.goto 4, 3), (226, 0, 0), []),
  (225, (.iconst 1, 1), (0, 0, 0), []),
  (226, (.putfield 237, 3), (6, 10, 0), []),
  (229, (.return_, 1), (0, 0, 0), [])]
def t_X6_key : List mT := [
  (0, (.aload_n 0, 1), (0, 0, 0), []),
  (1, (.getfield 237, 3), (6, 10, 0), []),
  (4, (.iconst 2, 1), (0, 0, 0), []),
  (5, (.if_icmp .eq 5, 3), (10, 0, 0), []),
  (8, (.iconst (-1), 1), (0, 0, 0), []),
  (9, (.ireturn, 1), (0, 0, 0), []),
  (10, (.iconst 0, 1), (0, 0, 0), []),
  (11, (.istore_n 1, 1), (0, 0, 0), []),
  (12, (.iconst 1, 1), (0, 0, 0), []),
  (13, (.istore_n 2, 1), (0, 0, 0), []),
  (14, (.iload_n 2, 1), (0, 1, 3), []),
  (15, (.ldc 249, 2), (17, 0, 0), []),
  (17, (.invokevirtual 251, 3), (278, 1, 7), []),
  (20, (.if_icmp .ge 113, 3), (133, 0, 0), []),
  (23, (.iload_n 2, 1), (0, 0, 0), []),
  (24, (.istore_n 3, 1), (0, 0, 0), []),
  (25, (.ldc 249, 2), (17, 0, 0), []),
  (27, (.iload_n 3, 1), (0, 0, 0), []),
  (28, (.invokevirtual 256, 3), (279, 2, 7), []),
  (31, (.bipush 32, 2), (0, 0, 0), []),
  (33, (.if_icmp .eq 9, 3), (42, 0, 0), []),
  (36, (.iinc 3 1, 3), (0, 0, 0), []),
  (39, (.goto (-14), 3), (25, 0, 0), []),
  (42, (.iload_n 3, 1), (0, 0, 0), []),
  (43, (.iload_n 2, 1), (0, 0, 0), []),
  (44, (.isub, 1), (0, 0, 0), []),
  (45, (.aload_n 0, 1), (0, 0, 0), []),
  (46, (.getfield 228, 3), (6, 12, 0), []),
  (49, (.aload_n 0, 1), (0, 0, 0), []),
  (50, (.getfield 234, 3), (6, 11, 0), []),
  (53, (.isub, 1), (0, 0, 0), []),
  (54, (.if_icmp .ne 7, 3), (61, 0, 0), []),
  (57, (.iconst 1, 1), (0, 0, 0), []),
  (58, (.goto 4, 3), (62, 0, 0), []),
  (61, (.iconst 0, 1), (0, 0, 0), []),
  (62, (.istore 4, 2), (0, 0, 0), []),
  (64, (.iconst 0, 1), (0, 0, 0), []),
  (65, (.istore 5, 2), (0, 0, 0), []),
  (67, (.iload 5, 2), (0, 0, 0), []),
  (69, (.iload_n 3, 1), (0, 0, 0), []),
  (70, (.iload_n 2, 1), (0, 0, 0), []),
  (71, (.isub, 1), (0, 0, 0), []),
  (72, (.if_icmp .ge 44, 3), (116, 0, 0), []),
  (75, (.iload 4, 2), (0, 0, 0), []),
  (77, (.ifCond .eq 39, 3), (116, 0, 0), []),
  (80, (.ldc 249, 2), (17, 0, 0), []),
  (82, (.iload_n 2, 1), (0, 0, 0), []),
  (83, (.iload 5, 2), (0, 0, 0), []),
  (85, (.iadd, 1), (0, 0, 0), []),
  (86, (.invokevirtual 256, 3), (279, 2, 7), []),
  (89, (.aload_n 0, 1), (0, 0, 0), []),
  (90, (.aload_n 0, 1), (0, 0, 0), []),
  (91, (.getfield 234, 3), (6, 11, 0), []),
  (94, (.iload 5, 2), (0, 0, 0), []),
  (96, (.iadd, 1), (0, 0, 0), []),
  (97, (.invokevirtual 231, 3), (212, 2, 6), []),
  (100, (.if_icmp .ne 7, 3), (107, 0, 0), []),
  (103, (.iconst 1, 1), (0, 0, 0), []),
  (104, (.goto 4, 3), (108, 0, 0), []),
  (107, (.iconst 0, 1), (0, 0, 0), []),
  (108, (.istore 4, 2), (0, 0, 0), []),
  (110, (.iinc 5 1, 3), (0, 0, 0), []),
  (113, (.goto (-46), 3), (67, 0, 0), []),
  (116, (.iload 4, 2), (0, 0, 0), []),
  (118, (.ifCond .eq 5, 3), (123, 0, 0), []),
  (121, (.iload_n 1, 1), (0, 0, 0), []),
  (122, (.ireturn, 1), (0, 0, 0), []),
  (123, (.iinc 1 1, 3), (0, 0, 0), []),
  (126, (.iload_n 3, 1), (0, 0, 0), []),
  (127, (.iconst 1, 1), (0, 0, 0), []),
  (128, (.iadd, 1), (0, 0, 0), []),
  (129, (.istore_n 2, 1), (0, 0, 0), []),
  (130, (.goto (-116), 3), (14, 0, 0), []),
  (133, (.iconst (-1), 1), (0, 0, 0), []),
  (134, (.ireturn, 1), (0, 0, 0), [])]
def t_X6_fails : List mT := [
  (0, (.aload_n 0, 1), (0, 0, 0), []),
  (1, (.getfield 260, 3), (6, 14, 0), []),
  (4, (.ifCond .ne 36, 3), (40, 0, 0), []),
  (7, (.aload_n 0, 1), (0, 0, 0), []),
  (8, (.aload_n 0, 1), (0, 0, 0), []),
  (9, (.getfield 237, 3), (6, 10, 0), []),
  (12, (.iconst 1, 1), (0, 0, 0), []),
  (13, (.if_icmp .ne 7, 3), (20, 0, 0), []),
  (16, (.iconst 1, 1), (0, 0, 0), []),
  (17, (.goto 4, 3), (21, 0, 0), []),
  (20, (.iload_n 1, 1), (0, 0, 0), []),
  (21, (.putfield 260, 3), (6, 14, 0), []),
  (24, (.aload_n 0, 1), (0, 0, 0), []),
  (25, (.aload_n 0, 1), (0, 0, 0), []),
  (26, (.getfield 234, 3), (6, 11, 0), []),
  (29, (.putfield 20, 3), (6, 15, 0), []),
  (32, (.aload_n 0, 1), (0, 0, 0), []),
  (33, (.aload_n 0, 1), (0, 0, 0), []),
  (34, (.getfield 263, 3), (6, 18, 0), []),
  (37, (.putfield 24, 3), (6, 16, 0), []),
  (40, (.iconst 0, 1), (0, 0, 0), []),
  (41, (.ireturn, 1), (0, 0, 0), [])]
def t_X6_takes : List mT := [
  (0, (.aload_n 0, 1), (0, 0, 0), []),
  (1, (.invokevirtual 266, 3), (215, 1, 6), []),
  (4, (.iconst 1, 1), (0, 0, 0), []),
  (5, (.ireturn, 1), (0, 0, 0), [])]
def t_X6_takesNumber : List mT := [
  (0, (.aload_n 0, 1), (0, 0, 0), []),
  (1, (.getfield 237, 3), (6, 10, 0), []),
  (4, (.iconst 3, 1), (0, 0, 0), []),
  (5, (.if_icmp .eq 9, 3), (14, 0, 0), []),
  (8, (.aload_n 0, 1), (0, 0, 0), []),
  (9, (.iconst 2, 1), (0, 0, 0), []),
  (10, (.invokevirtual 269, 3), (217, 2, 6), []),
  (13, (.ireturn, 1), (0, 0, 0), []),
  (14, (.aload_n 0, 1), (0, 0, 0), []),
  (15, (.getfield 246, 3), (6, 13, 0), []),
  (18, (.iload_n 1, 1), (0, 0, 0), []),
  (19, (.iload_n 2, 1), (0, 0, 0), []),
  (20, (.invokestatic 272, 3), (154, 3, 99), []),
  (23, (.ifCond .ne 9, 3), (32, 0, 0), []),
  (26, (.aload_n 0, 1), (0, 0, 0), []),
  (27, (.iconst 4, 1), (0, 0, 0), []),
  (28, (.invokevirtual 269, 3), (217, 2, 6), []),
  (31, (.ireturn, 1), (0, 0, 0), []),
  (32, (.aload_n 0, 1), (0, 0, 0), []),
  (33, (.aload_n 0, 1), (0, 0, 0), []),
  (34, (.getfield 246, 3), (6, 13, 0), []),
  (37, (.putfield 276, 3), (6, 20, 0), []),
  (40, (.aload_n 0, 1), (0, 0, 0), []),
  (41, (.invokevirtual 279, 3), (218, 1, 6), []),
  (44, (.ireturn, 1), (0, 0, 0), [])]
def t_X6_takesWord : List mT := [
  (0, (.aload_n 0, 1), (0, 0, 0), []),
  (1, (.invokevirtual 283, 3), (216, 1, 6), []),
  (4, (.iload_n 1, 1), (0, 0, 0), []),
  (5, (.if_icmp .ne 10, 3), (15, 0, 0), []),
  (8, (.aload_n 0, 1), (0, 0, 0), []),
  (9, (.invokevirtual 279, 3), (218, 1, 6), []),
  (12, (.goto 8, 3), (20, 0, 0), []),
  (15, (.aload_n 0, 1), (0, 0, 0), []),
  (16, (.iconst 2, 1), (0, 0, 0), []),
  (17, (.invokevirtual 269, 3), (217, 2, 6), []),
  (20, (.ireturn, 1), (0, 0, 0), [])]
def t_X6_leastOf : List mT := [
  (0, (.iload_n 0, 1), (0, 0, 0), []),
  (1, (.iconst 3, 1), (0, 0, 0), []),
  (2, (.if_icmp .gt 7, 3), (9, 0, 0), []),
  (5, (.iconst 1, 1), (0, 0, 0), []),
  (6, (.goto 4, 3), (10, 0, 0), []),
  (9, (.iconst 0, 1), (0, 0, 0), []),
  (10, (.ireturn, 1), (0, 0, 0), [])]
def t_X6_mostOf : List mT := [
  (0, (.iload_n 0, 1), (0, 0, 0), []),
  (1, (.tableswitch 70 0 9 #[55, 58, 61, 64, 66, 70, 70, 68, 61, 55], 55), (71, 0, 0), [(0, 56), (1, 59), (2, 62), (3, 65), (4, 67), (5, 71), (6, 71), (7, 69), (8, 62), (9, 56)]),
  (56, (.bipush 30, 2), (0, 0, 0), []),
  (58, (.ireturn, 1), (0, 0, 0), []),
  (59, (.bipush 9, 2), (0, 0, 0), []),
  (61, (.ireturn, 1), (0, 0, 0), []),
  (62, (.bipush 60, 2), (0, 0, 0), []),
  (64, (.ireturn, 1), (0, 0, 0), []),
  (65, (.iconst 5, 1), (0, 0, 0), []),
  (66, (.ireturn, 1), (0, 0, 0), []),
  (67, (.iconst 4, 1), (0, 0, 0), []),
  (68, (.ireturn, 1), (0, 0, 0), []),
  (69, (.iconst 3, 1), (0, 0, 0), []),
  (70, (.ireturn, 1), (0, 0, 0), []),
  (71, (.bipush 20, 2), (0, 0, 0), []),
  (73, (.ireturn, 1), (0, 0, 0), [])]
def t_X6_aPhase : List mT := [
  (0, (.aload_n 0, 1), (0, 0, 0), []),
  (1, (.iconst 0, 1), (0, 0, 0), []),
  (2, (.invokevirtual 43, 3), (157, 2, 6), []),
  (5, (.bipush 8, 2), (0, 0, 0), []),
  (7, (.if_icmp .ne 10, 3), (17, 0, 0), []),
  (10, (.aload_n 0, 1), (0, 0, 0), []),
  (11, (.bipush 6, 2), (0, 0, 0), []),
  (13, (.invokevirtual 269, 3), (217, 2, 6), []),
  (16, (.ireturn, 1), (0, 0, 0), []),
  (17, (.aload_n 0, 1), (0, 0, 0), []),
  (18, (.invokevirtual 266, 3), (215, 1, 6), []),
  (21, (.aload_n 0, 1), (0, 0, 0), []),
  (22, (.iconst 0, 1), (0, 0, 0), []),
  (23, (.invokevirtual 43, 3), (157, 2, 6), []),
  (26, (.istore_n 1, 1), (0, 0, 0), []),
  (27, (.aload_n 0, 1), (0, 0, 0), []),
  (28, (.iconst 0, 1), (0, 0, 0), []),
  (29, (.iconst 1, 1), (0, 0, 0), []),
  (30, (.invokevirtual 286, 3), (219, 3, 6), []),
  (33, (.ifCond .ne 5, 3), (38, 0, 0), []),
  (36, (.iconst 0, 1), (0, 0, 0), []),
  (37, (.ireturn, 1), (0, 0, 0), []),
  (38, (.aload_n 0, 1), (0, 0, 0), []),
  (39, (.iload_n 1, 1), (0, 0, 0), []),
  (40, (.iconst 0, 1), (0, 0, 0), []),
  (41, (.aload_n 0, 1), (0, 0, 0), []),
  (42, (.getfield 276, 3), (6, 20, 0), []),
  (45, (.invokevirtual 95, 3), (165, 4, 6), []),
  (48, (.aload_n 0, 1), (0, 0, 0), []),
  (49, (.iconst 0, 1), (0, 0, 0), []),
  (50, (.iconst 1, 1), (0, 0, 0), []),
  (51, (.invokevirtual 286, 3), (219, 3, 6), []),
  (54, (.ifCond .ne 5, 3), (59, 0, 0), []),
  (57, (.iconst 0, 1), (0, 0, 0), []),
  (58, (.ireturn, 1), (0, 0, 0), []),
  (59, (.aload_n 0, 1), (0, 0, 0), []),
  (60, (.iload_n 1, 1), (0, 0, 0), []),
  (61, (.iconst 1, 1), (0, 0, 0), []),
  (62, (.aload_n 0, 1), (0, 0, 0), []),
  (63, (.getfield 276, 3), (6, 20, 0), []),
  (66, (.invokevirtual 95, 3), (165, 4, 6), []),
  (69, (.aload_n 0, 1), (0, 0, 0), []),
  (70, (.iload_n 1, 1), (0, 0, 0), []),
  (71, (.iconst 2, 1), (0, 0, 0), []),
  (72, (.iconst 5, 1), (0, 0, 0), []),
  (73, (.invokevirtual 95, 3), (165, 4, 6), []),
  (76, (.aload_n 0, 1), (0, 0, 0), []),
  (77, (.iload_n 1, 1), (0, 0, 0), []),
  (78, (.iconst 3, 1), (0, 0, 0), []),
  (79, (.iconst 2, 1), (0, 0, 0), []),
  (80, (.invokevirtual 95, 3), (165, 4, 6), []),
  (83, (.aload_n 0, 1), (0, 0, 0), []),
  (84, (.iload_n 1, 1), (0, 0, 0), []),
  (85, (.iconst 4, 1), (0, 0, 0), []),
  (86, (.bipush 20, 2), (0, 0, 0), []),
  (88, (.invokevirtual 95, 3), (165, 4, 6), []),
  (91, (.aload_n 0, 1), (0, 0, 0), []),
  (92, (.iload_n 1, 1), (0, 0, 0), []),
  (93, (.iconst 5, 1), (0, 0, 0), []),
  (94, (.iconst 3, 1), (0, 0, 0), []),
  (95, (.invokevirtual 95, 3), (165, 4, 6), []),
  (98, (.aload_n 0, 1), (0, 0, 0), []),
  (99, (.iload_n 1, 1), (0, 0, 0), []),
  (100, (.bipush 6, 2), (0, 0, 0), []),
  (102, (.iconst 1, 1), (0, 0, 0), []),
  (103, (.invokevirtual 95, 3), (165, 4, 6), []),
  (106, (.iconst 0, 1), (0, 0, 0), []),
  (107, (.istore_n 2, 1), (0, 0, 0), []),
  (108, (.aload_n 0, 1), (0, 1, 3), []),
  (109, (.invokevirtual 283, 3), (216, 1, 6), []),
  (112, (.iconst 0, 1), (0, 0, 0), []),
  (113, (.bipush 9, 2), (0, 0, 0), []),
  (115, (.invokestatic 272, 3), (154, 3, 99), []),
  (118, (.ifCond .eq 64, 3), (182, 0, 0), []),
  (121, (.aload_n 0, 1), (0, 0, 0), []),
  (122, (.invokevirtual 283, 3), (216, 1, 6), []),
  (125, (.istore_n 3, 1), (0, 0, 0), []),
  (126, (.iload_n 2, 1), (0, 0, 0), []),
  (127, (.iload_n 3, 1), (0, 0, 0), []),
  (128, (.invokestatic 58, 3), (155, 2, 99), []),
  (131, (.ifCond .eq 9, 3), (140, 0, 0), []),
  (134, (.aload_n 0, 1), (0, 0, 0), []),
  (135, (.iconst 5, 1), (0, 0, 0), []),
  (136, (.invokevirtual 269, 3), (217, 2, 6), []),
  (139, (.ireturn, 1), (0, 0, 0), []),
  (140, (.iload_n 2, 1), (0, 0, 0), []),
  (141, (.iconst 1, 1), (0, 0, 0), []),
  (142, (.iload_n 3, 1), (0, 0, 0), []),
  (143, (.ishl, 1), (0, 0, 0), []),
  (144, (.ior, 1), (0, 0, 0), []),
  (145, (.istore_n 2, 1), (0, 0, 0), []),
  (146, (.aload_n 0, 1), (0, 0, 0), []),
  (147, (.invokevirtual 266, 3), (215, 1, 6), []),
  (150, (.aload_n 0, 1), (0, 0, 0), []),
  (151, (.iload_n 3, 1), (0, 0, 0), []),
  (152, (.invokestatic 289, 3), (221, 1, 99), []),
  (155, (.iload_n 3, 1), (0, 0, 0), []),
  (156, (.invokestatic 292, 3), (222, 1, 99), []),
  (159, (.invokevirtual 286, 3), (219, 3, 6), []),
  (162, (.ifCond .ne 5, 3), (167, 0, 0), []),
  (165, (.iconst 0, 1), (0, 0, 0), []),
  (166, (.ireturn, 1), (0, 0, 0), []),
  (167, (.aload_n 0, 1), (0, 0, 0), []),
  (168, (.iload_n 1, 1), (0, 0, 0), []),
  (169, (.iconst 2, 1), (0, 0, 0), []),
  (170, (.iload_n 3, 1), (0, 0, 0), []),
  (171, (.iadd, 1), (0, 0, 0), []),
  (172, (.aload_n 0, 1), (0, 0, 0), []),
  (173, (.getfield 276, 3), (6, 20, 0), []),
  (176, (.invokevirtual 95, 3), (165, 4, 6), []),
  (179, (.goto (-71), 3), (108, 0, 0), []),
  (182, (.aload_n 0, 1), (0, 0, 0), []),
  (183, (.iconst 0, 1), (0, 0, 0), []),
  (184, (.iconst 1, 1), (0, 0, 0), []),
  (185, (.invokevirtual 92, 3), (159, 3, 6), []),
  (188, (.iconst 1, 1), (0, 0, 0), []),
  (189, (.ireturn, 1), (0, 0, 0), [])]
def t_X6_aSet : List mT := [
  (0, (.aload_n 0, 1), (0, 0, 0), []),
  (1, (.getfield 237, 3), (6, 10, 0), []),
  (4, (.iconst 3, 1), (0, 0, 0), []),
  (5, (.if_icmp .eq 9, 3), (14, 0, 0), []),
  (8, (.aload_n 0, 1), (0, 0, 0), []),
  (9, (.iconst 2, 1), (0, 0, 0), []),
  (10, (.invokevirtual 269, 3), (217, 2, 6), []),
  (13, (.ireturn, 1), (0, 0, 0), []),
  (14, (.aload_n 0, 1), (0, 0, 0), []),
  (15, (.getfield 246, 3), (6, 13, 0), []),
  (18, (.aload_n 0, 1), (0, 0, 0), []),
  (19, (.iconst 0, 1), (0, 0, 0), []),
  (20, (.invokevirtual 43, 3), (157, 2, 6), []),
  (23, (.ishr, 1), (0, 0, 0), []),
  (24, (.ifCond .eq 9, 3), (33, 0, 0), []),
  (27, (.aload_n 0, 1), (0, 0, 0), []),
  (28, (.iconst 3, 1), (0, 0, 0), []),
  (29, (.invokevirtual 269, 3), (217, 2, 6), []),
  (32, (.ireturn, 1), (0, 0, 0), []),
  (33, (.aload_n 0, 1), (0, 0, 0), []),
  (34, (.aload_n 0, 1), (0, 0, 0), []),
  (35, (.getfield 246, 3), (6, 13, 0), []),
  (38, (.invokevirtual 164, 3), (171, 2, 6), []),
  (41, (.ifCond .ne 9, 3), (50, 0, 0), []),
  (44, (.aload_n 0, 1), (0, 0, 0), []),
  (45, (.iconst 4, 1), (0, 0, 0), []),
  (46, (.invokevirtual 269, 3), (217, 2, 6), []),
  (49, (.ireturn, 1), (0, 0, 0), []),
  (50, (.aload_n 0, 1), (0, 0, 0), []),
  (51, (.aload_n 0, 1), (0, 0, 0), []),
  (52, (.getfield 246, 3), (6, 13, 0), []),
  (55, (.putfield 276, 3), (6, 20, 0), []),
  (58, (.aload_n 0, 1), (0, 0, 0), []),
  (59, (.invokevirtual 279, 3), (218, 1, 6), []),
  (62, (.ireturn, 1), (0, 0, 0), [])]
def t_X6_aGoal : List mT := [
  (0, (.aload_n 0, 1), (0, 0, 0), []),
  (1, (.iload_n 2, 1), (0, 0, 0), []),
  (2, (.invokevirtual 295, 3), (220, 2, 6), []),
  (5, (.ifCond .eq 10, 3), (15, 0, 0), []),
  (8, (.aload_n 0, 1), (0, 0, 0), []),
  (9, (.invokevirtual 298, 3), (224, 1, 6), []),
  (12, (.ifCond .ne 5, 3), (17, 0, 0), []),
  (15, (.iconst 0, 1), (0, 0, 0), []),
  (16, (.ireturn, 1), (0, 0, 0), []),
  (17, (.aload_n 0, 1), (0, 0, 0), []),
  (18, (.iload_n 1, 1), (0, 0, 0), []),
  (19, (.aload_n 0, 1), (0, 0, 0), []),
  (20, (.getfield 276, 3), (6, 20, 0), []),
  (23, (.invokevirtual 46, 3), (158, 3, 6), []),
  (26, (.aload_n 0, 1), (0, 0, 0), []),
  (27, (.iconst 0, 1), (0, 0, 0), []),
  (28, (.bipush 30, 2), (0, 0, 0), []),
  (30, (.invokevirtual 286, 3), (219, 3, 6), []),
  (33, (.ifCond .ne 5, 3), (38, 0, 0), []),
  (36, (.iconst 0, 1), (0, 0, 0), []),
  (37, (.ireturn, 1), (0, 0, 0), []),
  (38, (.aload_n 0, 1), (0, 0, 0), []),
  (39, (.iload_n 1, 1), (0, 0, 0), []),
  (40, (.iconst 1, 1), (0, 0, 0), []),
  (41, (.iadd, 1), (0, 0, 0), []),
  (42, (.aload_n 0, 1), (0, 0, 0), []),
  (43, (.getfield 276, 3), (6, 20, 0), []),
  (46, (.invokevirtual 46, 3), (158, 3, 6), []),
  (49, (.iconst 1, 1), (0, 0, 0), []),
  (50, (.ireturn, 1), (0, 0, 0), [])]
def t_X6_aBreak : List mT := [
  (0, (.aload_n 0, 1), (0, 0, 0), []),
  (1, (.invokevirtual 266, 3), (215, 1, 6), []),
  (4, (.aload_n 0, 1), (0, 0, 0), []),
  (5, (.getfield 237, 3), (6, 10, 0), []),
  (8, (.iconst 3, 1), (0, 0, 0), []),
  (9, (.if_icmp .eq 9, 3), (18, 0, 0), []),
  (12, (.aload_n 0, 1), (0, 0, 0), []),
  (13, (.iconst 2, 1), (0, 0, 0), []),
  (14, (.invokevirtual 269, 3), (217, 2, 6), []),
  (17, (.ireturn, 1), (0, 0, 0), []),
  (18, (.aload_n 0, 1), (0, 0, 0), []),
  (19, (.getfield 246, 3), (6, 13, 0), []),
  (22, (.iconst 1, 1), (0, 0, 0), []),
  (23, (.if_icmp .le 9, 3), (32, 0, 0), []),
  (26, (.aload_n 0, 1), (0, 0, 0), []),
  (27, (.iconst 4, 1), (0, 0, 0), []),
  (28, (.invokevirtual 269, 3), (217, 2, 6), []),
  (31, (.ireturn, 1), (0, 0, 0), []),
  (32, (.aload_n 0, 1), (0, 0, 0), []),
  (33, (.getfield 301, 3), (6, 19, 0), []),
  (36, (.aload_n 0, 1), (0, 0, 0), []),
  (37, (.getfield 246, 3), (6, 13, 0), []),
  (40, (.invokestatic 58, 3), (155, 2, 99), []),
  (43, (.ifCond .eq 9, 3), (52, 0, 0), []),
  (46, (.aload_n 0, 1), (0, 0, 0), []),
  (47, (.iconst 5, 1), (0, 0, 0), []),
  (48, (.invokevirtual 269, 3), (217, 2, 6), []),
  (51, (.ireturn, 1), (0, 0, 0), []),
  (52, (.aload_n 0, 1), (0, 0, 0), []),
  (53, (.dup, 1), (0, 0, 0), []),
  (54, (.getfield 301, 3), (6, 19, 0), []),
  (57, (.iconst 1, 1), (0, 0, 0), []),
  (58, (.aload_n 0, 1), (0, 0, 0), []),
  (59, (.getfield 246, 3), (6, 13, 0), []),
  (62, (.ishl, 1), (0, 0, 0), []),
  (63, (.ior, 1), (0, 0, 0), []),
  (64, (.putfield 301, 3), (6, 19, 0), []),
  (67, (.sipush 176, 3), (0, 0, 0), []),
  (70, (.iconst 5, 1), (0, 0, 0), []),
  (71, (.aload_n 0, 1), (0, 0, 0), []),
  (72, (.getfield 246, 3), (6, 13, 0), []),
  (75, (.imul, 1), (0, 0, 0), []),
  (76, (.iadd, 1), (0, 0, 0), []),
  (77, (.istore_n 1, 1), (0, 0, 0), []),
  (78, (.aload_n 0, 1), (0, 0, 0), []),
  (79, (.invokevirtual 266, 3), (215, 1, 6), []),
  (82, (.aload_n 0, 1), (0, 0, 0), []),
  (83, (.iload_n 1, 1), (0, 0, 0), []),
  (84, (.iconst 0, 1), (0, 0, 0), []),
  (85, (.iadd, 1), (0, 0, 0), []),
  (86, (.bipush 14, 2), (0, 0, 0), []),
  (88, (.invokevirtual 304, 3), (225, 3, 6), []),
  (91, (.ifCond .eq 34, 3), (125, 0, 0), []),
  (94, (.aload_n 0, 1), (0, 0, 0), []),
  (95, (.iload_n 1, 1), (0, 0, 0), []),
  (96, (.iconst 2, 1), (0, 0, 0), []),
  (97, (.iadd, 1), (0, 0, 0), []),
  (98, (.bipush 15, 2), (0, 0, 0), []),
  (100, (.invokevirtual 304, 3), (225, 3, 6), []),
  (103, (.ifCond .eq 22, 3), (125, 0, 0), []),
  (106, (.aload_n 0, 1), (0, 0, 0), []),
  (107, (.bipush 16, 2), (0, 0, 0), []),
  (109, (.invokevirtual 295, 3), (220, 2, 6), []),
  (112, (.ifCond .eq 13, 3), (125, 0, 0), []),
  (115, (.aload_n 0, 1), (0, 0, 0), []),
  (116, (.iconst 0, 1), (0, 0, 0), []),
  (117, (.bipush 20, 2), (0, 0, 0), []),
  (119, (.invokevirtual 286, 3), (219, 3, 6), []),
  (122, (.ifCond .ne 5, 3), (127, 0, 0), []),
  (125, (.iconst 0, 1), (0, 0, 0), []),
  (126, (.ireturn, 1), (0, 0, 0), []),
  (127, (.aload_n 0, 1), (0, 0, 0), []),
  (128, (.iload_n 1, 1), (0, 0, 0), []),
  (129, (.iconst 4, 1), (0, 0, 0), []),
  (130, (.iadd, 1), (0, 0, 0), []),
  (131, (.aload_n 0, 1), (0, 0, 0), []),
  (132, (.getfield 276, 3), (6, 20, 0), []),
  (135, (.invokevirtual 46, 3), (158, 3, 6), []),
  (138, (.iconst 1, 1), (0, 0, 0), []),
  (139, (.ireturn, 1), (0, 0, 0), [])]
def t_X6_isCycle : List mT := [
  (0, (.iload_n 0, 1), (0, 0, 0), []),
  (1, (.ifCond .eq 15, 3), (16, 0, 0), []),
  (4, (.iload_n 0, 1), (0, 0, 0), []),
  (5, (.bipush 20, 2), (0, 0, 0), []),
  (7, (.sipush 240, 3), (0, 0, 0), []),
  (10, (.invokestatic 272, 3), (154, 3, 99), []),
  (13, (.ifCond .eq 7, 3), (20, 0, 0), []),
  (16, (.iconst 1, 1), (0, 0, 0), []),
  (17, (.goto 4, 3), (21, 0, 0), []),
  (20, (.iconst 0, 1), (0, 0, 0), []),
  (21, (.ireturn, 1), (0, 0, 0), [])]
def t_X6_aClock : List mT := [
  (0, (.aload_n 0, 1), (0, 0, 0), []),
  (1, (.getfield 301, 3), (6, 19, 0), []),
  (4, (.iload_n 1, 1), (0, 0, 0), []),
  (5, (.invokestatic 58, 3), (155, 2, 99), []),
  (8, (.ifCond .eq 9, 3), (17, 0, 0), []),
  (11, (.aload_n 0, 1), (0, 0, 0), []),
  (12, (.iconst 5, 1), (0, 0, 0), []),
  (13, (.invokevirtual 269, 3), (217, 2, 6), []),
  (16, (.ireturn, 1), (0, 0, 0), []),
  (17, (.aload_n 0, 1), (0, 0, 0), []),
  (18, (.dup, 1), (0, 0, 0), []),
  (19, (.getfield 301, 3), (6, 19, 0), []),
  (22, (.iconst 1, 1), (0, 0, 0), []),
  (23, (.iload_n 1, 1), (0, 0, 0), []),
  (24, (.ishl, 1), (0, 0, 0), []),
  (25, (.ior, 1), (0, 0, 0), []),
  (26, (.putfield 301, 3), (6, 19, 0), []),
  (29, (.aload_n 0, 1), (0, 0, 0), []),
  (30, (.invokevirtual 266, 3), (215, 1, 6), []),
  (33, (.aload_n 0, 1), (0, 0, 0), []),
  (34, (.getfield 237, 3), (6, 10, 0), []),
  (37, (.iconst 3, 1), (0, 0, 0), []),
  (38, (.if_icmp .eq 9, 3), (47, 0, 0), []),
  (41, (.aload_n 0, 1), (0, 0, 0), []),
  (42, (.iconst 2, 1), (0, 0, 0), []),
  (43, (.invokevirtual 269, 3), (217, 2, 6), []),
  (46, (.ireturn, 1), (0, 0, 0), []),
  (47, (.iload_n 1, 1), (0, 0, 0), []),
  (48, (.bipush 11, 2), (0, 0, 0), []),
  (50, (.if_icmp .ne 16, 3), (66, 0, 0), []),
  (53, (.aload_n 0, 1), (0, 0, 0), []),
  (54, (.getfield 246, 3), (6, 13, 0), []),
  (57, (.invokestatic 307, 3), (227, 1, 99), []),
  (60, (.ifCond .ne 22, 3), (82, 0, 0), []),
  (63, (.goto 13, 3), (76, 0, 0), []),
  (66, (.aload_n 0, 1), (0, 0, 0), []),
  (67, (.getfield 246, 3), (6, 13, 0), []),
  (70, (.sipush 239, 3), (0, 0, 0), []),
  (73, (.if_icmp .le 9, 3), (82, 0, 0), []),
  (76, (.aload_n 0, 1), (0, 0, 0), []),
  (77, (.iconst 4, 1), (0, 0, 0), []),
  (78, (.invokevirtual 269, 3), (217, 2, 6), []),
  (81, (.ireturn, 1), (0, 0, 0), []),
  (82, (.aload_n 0, 1), (0, 0, 0), []),
  (83, (.iload_n 1, 1), (0, 0, 0), []),
  (84, (.bipush 11, 2), (0, 0, 0), []),
  (86, (.if_icmp .ne 7, 3), (93, 0, 0), []),
  (89, (.iconst 2, 1), (0, 0, 0), []),
  (90, (.goto 4, 3), (94, 0, 0), []),
  (93, (.iconst 3, 1), (0, 0, 0), []),
  (94, (.aload_n 0, 1), (0, 0, 0), []),
  (95, (.getfield 246, 3), (6, 13, 0), []),
  (98, (.invokevirtual 46, 3), (158, 3, 6), []),
  (101, (.aload_n 0, 1), (0, 0, 0), []),
  (102, (.invokevirtual 279, 3), (218, 1, 6), []),
  (105, (.ireturn, 1), (0, 0, 0), [])]
def t_X6_aLine : List mT := [
  (0, (.aload_n 0, 1), (0, 0, 0), []),
  (1, (.invokevirtual 283, 3), (216, 1, 6), []),
  (4, (.istore_n 1, 1), (0, 0, 0), []),
  (5, (.iload_n 1, 1), (0, 0, 0), []),
  (6, (.bipush 10, 2), (0, 0, 0), []),
  (8, (.if_icmp .ne 10, 3), (18, 0, 0), []),
  (11, (.aload_n 0, 1), (0, 0, 0), []),
  (12, (.invokevirtual 310, 3), (223, 1, 6), []),
  (15, (.goto 41, 3), (56, 0, 0), []),
  (18, (.iload_n 1, 1), (0, 0, 0), []),
  (19, (.bipush 11, 2), (0, 0, 0), []),
  (21, (.if_icmp .eq 9, 3), (30, 0, 0), []),
  (24, (.iload_n 1, 1), (0, 0, 0), []),
  (25, (.bipush 12, 2), (0, 0, 0), []),
  (27, (.if_icmp .ne 11, 3), (38, 0, 0), []),
  (30, (.aload_n 0, 1), (0, 0, 0), []),
  (31, (.iload_n 1, 1), (0, 0, 0), []),
  (32, (.invokevirtual 313, 3), (228, 2, 6), []),
  (35, (.goto 21, 3), (56, 0, 0), []),
  (38, (.iload_n 1, 1), (0, 0, 0), []),
  (39, (.bipush 13, 2), (0, 0, 0), []),
  (41, (.if_icmp .ne 10, 3), (51, 0, 0), []),
  (44, (.aload_n 0, 1), (0, 0, 0), []),
  (45, (.invokevirtual 316, 3), (226, 1, 6), []),
  (48, (.goto 8, 3), (56, 0, 0), []),
  (51, (.aload_n 0, 1), (0, 0, 0), []),
  (52, (.iconst 2, 1), (0, 0, 0), []),
  (53, (.invokevirtual 269, 3), (217, 2, 6), []),
  (56, (.istore_n 2, 1), (0, 0, 0), []),
  (57, (.iload_n 2, 1), (0, 0, 0), []),
  (58, (.ifCond .ne 5, 3), (63, 0, 0), []),
  (61, (.iconst 0, 1), (0, 0, 0), []),
  (62, (.ireturn, 1), (0, 0, 0), []),
  (63, (.aload_n 0, 1), (0, 0, 0), []),
  (64, (.getfield 237, 3), (6, 10, 0), []),
  (67, (.iconst 4, 1), (0, 0, 0), []),
  (68, (.if_icmp .eq 9, 3), (77, 0, 0), []),
  (71, (.aload_n 0, 1), (0, 0, 0), []),
  (72, (.iconst 2, 1), (0, 0, 0), []),
  (73, (.invokevirtual 269, 3), (217, 2, 6), []),
  (76, (.ireturn, 1), (0, 0, 0), []),
  (77, (.aload_n 0, 1), (0, 0, 0), []),
  (78, (.dup, 1), (0, 0, 0), []),
  (79, (.getfield 263, 3), (6, 18, 0), []),
  (82, (.iconst 1, 1), (0, 0, 0), []),
  (83, (.iadd, 1), (0, 0, 0), []),
  (84, (.putfield 263, 3), (6, 18, 0), []),
  (87, (.aload_n 0, 1), (0, 0, 0), []),
  (88, (.invokevirtual 279, 3), (218, 1, 6), []),
  (91, (.ireturn, 1), (0, 0, 0), [])]
def t_X6_load : List mT := [
  (0, (.iload_n 1, 1), (0, 0, 0), []),
  (1, (.iconst 0, 1), (0, 0, 0), []),
  (2, (.aload_n 0, 1), (0, 0, 0), []),
  (3, (.getfield 219, 3), (6, 8, 0), []),
  (6, (.invokestatic 272, 3), (154, 3, 99), []),
  (9, (.ifCond .ne 9, 3), (18, 0, 0), []),
  (12, (.aload_n 0, 1), (0, 0, 0), []),
  (13, (.iconst 1, 1), (0, 0, 0), []),
  (14, (.invokevirtual 319, 3), (151, 2, 6), []),
  (17, (.ireturn, 1), (0, 0, 0), []),
  (18, (.aload_n 0, 1), (0, 0, 0), []),
  (19, (.iload_n 1, 1), (0, 0, 0), []),
  (20, (.putfield 225, 3), (6, 9, 0), []),
  (23, (.iconst 0, 1), (0, 0, 0), []),
  (24, (.istore_n 2, 1), (0, 0, 0), []),
  (25, (.iload_n 2, 1), (0, 0, 0), []),
  (26, (.iload_n 1, 1), (0, 0, 0), []),
  (27, (.if_icmp .ge 21, 3), (48, 0, 0), []),
  (30, (.aload_n 0, 1), (0, 0, 0), []),
  (31, (.getfield 17, 3), (6, 7, 0), []),
  (34, (.iload_n 2, 1), (0, 0, 0), []),
  (35, (.aload_n 0, 1), (0, 0, 0), []),
  (36, (.getfield 13, 3), (6, 6, 0), []),
  (39, (.iload_n 2, 1), (0, 0, 0), []),
  (40, (.baload, 1), (0, 0, 0), []),
  (41, (.bastore, 1), (0, 0, 0), []),
  (42, (.iinc 2 1, 3), (0, 0, 0), []),
  (45, (.goto (-20), 3), (25, 0, 0), []),
  (48, (.aload_n 0, 1), (0, 0, 0), []),
  (49, (.iconst 0, 1), (0, 0, 0), []),
  (50, (.putfield 219, 3), (6, 8, 0), []),
  (53, (.aload_n 0, 1), (0, 0, 0), []),
  (54, (.iconst 0, 1), (0, 0, 0), []),
  (55, (.putfield 260, 3), (6, 14, 0), []),
  (58, (.aload_n 0, 1), (0, 0, 0), []),
  (59, (.iconst (-1), 1), (0, 0, 0), []),
  (60, (.putfield 20, 3), (6, 15, 0), []),
  (63, (.aload_n 0, 1), (0, 0, 0), []),
  (64, (.iconst (-1), 1), (0, 0, 0), []),
  (65, (.putfield 24, 3), (6, 16, 0), []),
  (68, (.aload_n 0, 1), (0, 0, 0), []),
  (69, (.iconst 0, 1), (0, 0, 0), []),
  (70, (.putfield 263, 3), (6, 18, 0), []),
  (73, (.aload_n 0, 1), (0, 0, 0), []),
  (74, (.iconst 0, 1), (0, 0, 0), []),
  (75, (.putfield 301, 3), (6, 19, 0), []),
  (78, (.aload_n 0, 1), (0, 0, 0), []),
  (79, (.iconst 0, 1), (0, 0, 0), []),
  (80, (.putfield 228, 3), (6, 12, 0), []),
  (83, (.aload_n 0, 1), (0, 0, 0), []),
  (84, (.iconst 0, 1), (0, 0, 0), []),
  (85, (.sipush 288, 3), (0, 0, 0), []),
  (88, (.invokevirtual 322, 3), (160, 3, 6), []),
  (91, (.aload_n 0, 1), (0, 0, 0), []),
  (92, (.invokevirtual 30, 3), (168, 1, 6), []),
  (95, (.aload_n 0, 1), (0, 0, 0), []),
  (96, (.invokevirtual 266, 3), (215, 1, 6), []),
  (99, (.iconst 1, 1), (0, 0, 0), []),
  (100, (.istore_n 2, 1), (0, 0, 0), []),
  (101, (.iload_n 2, 1), (0, 0, 0), []),
  (102, (.ifCond .eq 18, 3), (120, 0, 0), []),
  (105, (.aload_n 0, 1), (0, 0, 0), []),
  (106, (.getfield 237, 3), (6, 10, 0), []),
  (109, (.ifCond .eq 11, 3), (120, 0, 0), []),
  (112, (.aload_n 0, 1), (0, 0, 0), []),
  (113, (.invokevirtual 325, 3), (229, 1, 6), []),
  (116, (.istore_n 2, 1), (0, 0, 0), []),
  (117, (.goto (-16), 3), (101, 0, 0), []),
  (120, (.aload_n 0, 1), (0, 0, 0), []),
  (121, (.aload_n 0, 1), (0, 0, 0), []),
  (122, (.getfield 260, 3), (6, 14, 0), []),
  (125, (.putfield 27, 3), (6, 17, 0), []),
  (128, (.aload_n 0, 1), (0, 0, 0), []),
  (129, (.getfield 260, 3), (6, 14, 0), []),
  (132, (.ifCond .le 18, 3), (150, 0, 0), []),
  (135, (.aload_n 0, 1), (0, 0, 0), []),
  (136, (.sipush 288, 3), (0, 0, 0), []),
  (139, (.iconst 0, 1), (0, 0, 0), []),
  (140, (.invokevirtual 322, 3), (160, 3, 6), []),
  (143, (.aload_n 0, 1), (0, 0, 0), []),
  (144, (.bipush 9, 2), (0, 0, 0), []),
  (146, (.invokevirtual 319, 3), (151, 2, 6), []),
  (149, (.ireturn, 1), (0, 0, 0), []),
  (150, (.aload_n 0, 1), (0, 0, 0), []),
  (151, (.invokevirtual 33, 3), (173, 1, 6), []),
  (154, (.aload_n 0, 1), (0, 0, 0), []),
  (155, (.aload_n 0, 1), (0, 0, 0), []),
  (156, (.iconst 0, 1), (0, 0, 0), []),
  (157, (.invokevirtual 43, 3), (157, 2, 6), []),
  (160, (.invokevirtual 328, 3), (153, 2, 6), []),
  (163, (.ireturn, 1), (0, 0, 0), [])]
def t_X6_fault : List mT := [
  (0, (.iload_n 1, 1), (0, 0, 0), []),
  (1, (.ifCond .ne 10, 3), (11, 0, 0), []),
  (4, (.aload_n 0, 1), (0, 0, 0), []),
  (5, (.getfield 27, 3), (6, 17, 0), []),
  (8, (.goto 28, 3), (36, 0, 0), []),
  (11, (.iload_n 1, 1), (0, 0, 0), []),
  (12, (.iconst 1, 1), (0, 0, 0), []),
  (13, (.if_icmp .ne 10, 3), (23, 0, 0), []),
  (16, (.aload_n 0, 1), (0, 0, 0), []),
  (17, (.getfield 20, 3), (6, 15, 0), []),
  (20, (.goto 16, 3), (36, 0, 0), []),
  (23, (.iload_n 1, 1), (0, 0, 0), []),
  (24, (.iconst 2, 1), (0, 0, 0), []),
  (25, (.if_icmp .ne 10, 3), (35, 0, 0), []),
  (28, (.aload_n 0, 1), (0, 0, 0), []),
  (29, (.getfield 24, 3), (6, 16, 0), []),
  (32, (.goto 4, 3), (36, 0, 0), []),
  (35, (.iconst (-1), 1), (0, 0, 0), []),
  (36, (.ireturn, 1), (0, 0, 0), [])]
def t_X6_many : List mT := [
  (0, (.iload_n 1, 1), (0, 0, 0), []),
  (1, (.iconst 0, 1), (0, 0, 0), []),
  (2, (.bipush 10, 2), (0, 0, 0), []),
  (4, (.invokestatic 272, 3), (154, 3, 99), []),
  (7, (.ifCond .eq 15, 3), (22, 0, 0), []),
  (10, (.aload_n 0, 1), (0, 0, 0), []),
  (11, (.aload_n 0, 1), (0, 0, 0), []),
  (12, (.iload_n 1, 1), (0, 0, 0), []),
  (13, (.invokevirtual 43, 3), (157, 2, 6), []),
  (16, (.invokevirtual 328, 3), (153, 2, 6), []),
  (19, (.goto 25, 3), (44, 0, 0), []),
  (22, (.iload_n 1, 1), (0, 0, 0), []),
  (23, (.bipush 11, 2), (0, 0, 0), []),
  (25, (.if_icmp .ne 14, 3), (39, 0, 0), []),
  (28, (.aload_n 0, 1), (0, 0, 0), []),
  (29, (.aload_n 0, 1), (0, 0, 0), []),
  (30, (.getfield 331, 3), (6, 2, 0), []),
  (33, (.invokevirtual 328, 3), (153, 2, 6), []),
  (36, (.goto 8, 3), (44, 0, 0), []),
  (39, (.aload_n 0, 1), (0, 0, 0), []),
  (40, (.iconst 1, 1), (0, 0, 0), []),
  (41, (.invokevirtual 319, 3), (151, 2, 6), []),
  (44, (.ireturn, 1), (0, 0, 0), [])]
def t_X6_ring_ : List mT := [
  (0, (.iload_n 2, 1), (0, 0, 0), []),
  (1, (.iconst 0, 1), (0, 0, 0), []),
  (2, (.bipush 9, 2), (0, 0, 0), []),
  (4, (.invokestatic 272, 3), (154, 3, 99), []),
  (7, (.ifCond .ne 9, 3), (16, 0, 0), []),
  (10, (.aload_n 0, 1), (0, 0, 0), []),
  (11, (.iconst 1, 1), (0, 0, 0), []),
  (12, (.invokevirtual 319, 3), (151, 2, 6), []),
  (15, (.ireturn, 1), (0, 0, 0), []),
  (16, (.iload_n 1, 1), (0, 0, 0), []),
  (17, (.iconst 0, 1), (0, 0, 0), []),
  (18, (.iconst 1, 1), (0, 0, 0), []),
  (19, (.invokestatic 272, 3), (154, 3, 99), []),
  (22, (.ifCond .ne 9, 3), (31, 0, 0), []),
  (25, (.aload_n 0, 1), (0, 0, 0), []),
  (26, (.iconst 2, 1), (0, 0, 0), []),
  (27, (.invokevirtual 319, 3), (151, 2, 6), []),
  (30, (.ireturn, 1), (0, 0, 0), []),
  (31, (.iload_n 2, 1), (0, 0, 0), []),
  (32, (.iconst 4, 1), (0, 0, 0), []),
  (33, (.if_icmp .ge 14, 3), (47, 0, 0), []),
  (36, (.aload_n 0, 1), (0, 0, 0), []),
  (37, (.aload_n 0, 1), (0, 0, 0), []),
  (38, (.iload_n 1, 1), (0, 0, 0), []),
  (39, (.iload_n 2, 1), (0, 0, 0), []),
  (40, (.invokevirtual 89, 3), (162, 3, 6), []),
  (43, (.invokevirtual 328, 3), (153, 2, 6), []),
  (46, (.ireturn, 1), (0, 0, 0), []),
  (47, (.aload_n 0, 1), (0, 0, 0), []),
  (48, (.iload_n 1, 1), (0, 0, 0), []),
  (49, (.invokevirtual 137, 3), (180, 2, 6), []),
  (52, (.ifCond .ne 9, 3), (61, 0, 0), []),
  (55, (.aload_n 0, 1), (0, 0, 0), []),
  (56, (.iconst 0, 1), (0, 0, 0), []),
  (57, (.invokevirtual 328, 3), (153, 2, 6), []),
  (60, (.ireturn, 1), (0, 0, 0), []),
  (61, (.aload_n 0, 1), (0, 0, 0), []),
  (62, (.iload_n 2, 1), (0, 0, 0), []),
  (63, (.bipush 8, 2), (0, 0, 0), []),
  (65, (.if_icmp .ge 12, 3), (77, 0, 0), []),
  (68, (.aload_n 0, 1), (0, 0, 0), []),
  (69, (.iload_n 1, 1), (0, 0, 0), []),
  (70, (.iload_n 2, 1), (0, 0, 0), []),
  (71, (.invokevirtual 89, 3), (162, 3, 6), []),
  (74, (.goto 43, 3), (117, 0, 0), []),
  (77, (.iload_n 2, 1), (0, 0, 0), []),
  (78, (.bipush 8, 2), (0, 0, 0), []),
  (80, (.if_icmp .ne 19, 3), (99, 0, 0), []),
  (83, (.aload_n 0, 1), (0, 0, 0), []),
  (84, (.iload_n 1, 1), (0, 0, 0), []),
  (85, (.invokevirtual 152, 3), (194, 2, 6), []),
  (88, (.ifCond .eq 7, 3), (95, 0, 0), []),
  (91, (.iconst 1, 1), (0, 0, 0), []),
  (92, (.goto 25, 3), (117, 0, 0), []),
  (95, (.iconst 0, 1), (0, 0, 0), []),
  (96, (.goto 21, 3), (117, 0, 0), []),
  (99, (.aload_n 0, 1), (0, 0, 0), []),
  (100, (.aload_n 0, 1), (0, 0, 0), []),
  (101, (.iload_n 1, 1), (0, 0, 0), []),
  (102, (.iconst 0, 1), (0, 0, 0), []),
  (103, (.invokevirtual 89, 3), (162, 3, 6), []),
  (106, (.invokevirtual 146, 3), (192, 2, 6), []),
  (109, (.ifCond .eq 7, 3), (116, 0, 0), []),
  (112, (.iconst 1, 1), (0, 0, 0), []),
  (113, (.goto 4, 3), (117, 0, 0), []),
  (116, (.iconst 0, 1), (0, 0, 0), []),
  (117, (.invokevirtual 328, 3), (153, 2, 6), []),
  (120, (.ireturn, 1), (0, 0, 0), [])]
def t_X6_lampOf : List mT := [
  (0, (.aload_n 0, 1), (0, 0, 0), []),
  (1, (.iload_n 1, 1), (0, 0, 0), []),
  (2, (.iconst 0, 1), (0, 0, 0), []),
  (3, (.invokevirtual 50, 3), (164, 3, 6), []),
  (6, (.istore_n 2, 1), (0, 0, 0), []),
  (7, (.aload_n 0, 1), (0, 0, 0), []),
  (8, (.bipush 6, 2), (0, 0, 0), []),
  (10, (.invokevirtual 43, 3), (157, 2, 6), []),
  (13, (.iload_n 1, 1), (0, 0, 0), []),
  (14, (.invokestatic 58, 3), (155, 2, 99), []),
  (17, (.ifCond .eq 5, 3), (22, 0, 0), []),
  (20, (.iconst 2, 1), (0, 0, 0), []),
  (21, (.ireturn, 1), (0, 0, 0), []),
  (22, (.aload_n 0, 1), (0, 0, 0), []),
  (23, (.iload_n 2, 1), (0, 0, 0), []),
  (24, (.invokevirtual 101, 3), (179, 2, 6), []),
  (27, (.ifCond .eq 13, 3), (40, 0, 0), []),
  (30, (.aload_n 0, 1), (0, 0, 0), []),
  (31, (.iload_n 2, 1), (0, 0, 0), []),
  (32, (.iconst 0, 1), (0, 0, 0), []),
  (33, (.invokevirtual 89, 3), (162, 3, 6), []),
  (36, (.iload_n 1, 1), (0, 0, 0), []),
  (37, (.if_icmp .eq 7, 3), (44, 0, 0), []),
  (40, (.iconst 0, 1), (0, 0, 0), []),
  (41, (.goto 31, 3), (72, 0, 0), []),
  (44, (.aload_n 0, 1), (0, 0, 0), []),
  (45, (.iload_n 2, 1), (0, 0, 0), []),
  (46, (.iconst 1, 1), (0, 0, 0), []),
  (47, (.invokevirtual 89, 3), (162, 3, 6), []),
  (50, (.ifCond .ne 7, 3), (57, 0, 0), []),
  (53, (.iconst 2, 1), (0, 0, 0), []),
  (54, (.goto 18, 3), (72, 0, 0), []),
  (57, (.aload_n 0, 1), (0, 0, 0), []),
  (58, (.iload_n 2, 1), (0, 0, 0), []),
  (59, (.iconst 1, 1), (0, 0, 0), []),
  (60, (.invokevirtual 89, 3), (162, 3, 6), []),
  (63, (.iconst 1, 1), (0, 0, 0), []),
  (64, (.if_icmp .ne 7, 3), (71, 0, 0), []),
  (67, (.iconst 1, 1), (0, 0, 0), []),
  (68, (.goto 4, 3), (72, 0, 0), []),
  (71, (.iconst 0, 1), (0, 0, 0), []),
  (72, (.ireturn, 1), (0, 0, 0), [])]
def t_X6_phase : List mT := [
  (0, (.iload_n 2, 1), (0, 0, 0), []),
  (1, (.iconst 0, 1), (0, 0, 0), []),
  (2, (.bipush 8, 2), (0, 0, 0), []),
  (4, (.invokestatic 272, 3), (154, 3, 99), []),
  (7, (.ifCond .ne 9, 3), (16, 0, 0), []),
  (10, (.aload_n 0, 1), (0, 0, 0), []),
  (11, (.iconst 1, 1), (0, 0, 0), []),
  (12, (.invokevirtual 319, 3), (151, 2, 6), []),
  (15, (.ireturn, 1), (0, 0, 0), []),
  (16, (.aload_n 0, 1), (0, 0, 0), []),
  (17, (.iload_n 1, 1), (0, 0, 0), []),
  (18, (.invokevirtual 334, 3), (167, 2, 6), []),
  (21, (.ifCond .ne 9, 3), (30, 0, 0), []),
  (24, (.aload_n 0, 1), (0, 0, 0), []),
  (25, (.iconst 2, 1), (0, 0, 0), []),
  (26, (.invokevirtual 319, 3), (151, 2, 6), []),
  (29, (.ireturn, 1), (0, 0, 0), []),
  (30, (.iload_n 2, 1), (0, 0, 0), []),
  (31, (.tableswitch 136 0 7 #[45, 45, 56, 66, 78, 96, 114, 126], 45), (167, 0, 0), [(0, 76), (1, 76), (2, 87), (3, 97), (4, 109), (5, 127), (6, 145), (7, 157)]),
  (76, (.aload_n 0, 1), (0, 0, 0), []),
  (77, (.aload_n 0, 1), (0, 0, 0), []),
  (78, (.iload_n 1, 1), (0, 0, 0), []),
  (79, (.iload_n 2, 1), (0, 0, 0), []),
  (80, (.invokevirtual 50, 3), (164, 3, 6), []),
  (83, (.invokevirtual 328, 3), (153, 2, 6), []),
  (86, (.ireturn, 1), (0, 0, 0), []),
  (87, (.aload_n 0, 1), (0, 0, 0), []),
  (88, (.aload_n 0, 1), (0, 0, 0), []),
  (89, (.iload_n 1, 1), (0, 0, 0), []),
  (90, (.invokevirtual 337, 3), (234, 2, 6), []),
  (93, (.invokevirtual 328, 3), (153, 2, 6), []),
  (96, (.ireturn, 1), (0, 0, 0), []),
  (97, (.aload_n 0, 1), (0, 0, 0), []),
  (98, (.aload_n 0, 1), (0, 0, 0), []),
  (99, (.iload_n 1, 1), (0, 0, 0), []),
  (100, (.bipush 12, 2), (0, 0, 0), []),
  (102, (.invokevirtual 50, 3), (164, 3, 6), []),
  (105, (.invokevirtual 328, 3), (153, 2, 6), []),
  (108, (.ireturn, 1), (0, 0, 0), []),
  (109, (.aload_n 0, 1), (0, 0, 0), []),
  (110, (.aload_n 0, 1), (0, 0, 0), []),
  (111, (.iload_n 1, 1), (0, 0, 0), []),
  (112, (.invokevirtual 83, 3), (175, 2, 6), []),
  (115, (.ifCond .eq 7, 3), (122, 0, 0), []),
  (118, (.iconst 1, 1), (0, 0, 0), []),
  (119, (.goto 4, 3), (123, 0, 0), []),
  (122, (.iconst 0, 1), (0, 0, 0), []),
  (123, (.invokevirtual 328, 3), (153, 2, 6), []),
  (126, (.ireturn, 1), (0, 0, 0), []),
  (127, (.aload_n 0, 1), (0, 0, 0), []),
  (128, (.aload_n 0, 1), (0, 0, 0), []),
  (129, (.iload_n 1, 1), (0, 0, 0), []),
  (130, (.invokevirtual 86, 3), (176, 2, 6), []),
  (133, (.ifCond .eq 7, 3), (140, 0, 0), []),
  (136, (.iconst 1, 1), (0, 0, 0), []),
  (137, (.goto 4, 3), (141, 0, 0), []),
  (140, (.iconst 0, 1), (0, 0, 0), []),
  (141, (.invokevirtual 328, 3), (153, 2, 6), []),
  (144, (.ireturn, 1), (0, 0, 0), []),
  (145, (.aload_n 0, 1), (0, 0, 0), []),
  (146, (.aload_n 0, 1), (0, 0, 0), []),
  (147, (.iload_n 1, 1), (0, 0, 0), []),
  (148, (.bipush 15, 2), (0, 0, 0), []),
  (150, (.invokevirtual 50, 3), (164, 3, 6), []),
  (153, (.invokevirtual 328, 3), (153, 2, 6), []),
  (156, (.ireturn, 1), (0, 0, 0), []),
  (157, (.aload_n 0, 1), (0, 0, 0), []),
  (158, (.aload_n 0, 1), (0, 0, 0), []),
  (159, (.iload_n 1, 1), (0, 0, 0), []),
  (160, (.invokevirtual 143, 3), (191, 2, 6), []),
  (163, (.invokevirtual 328, 3), (153, 2, 6), []),
  (166, (.ireturn, 1), (0, 0, 0), []),
  (167, (.aload_n 0, 1), (0, 0, 0), []),
  (168, (.aload_n 0, 1), (0, 0, 0), []),
  (169, (.iload_n 1, 1), (0, 0, 0), []),
  (170, (.invokevirtual 61, 3), (170, 2, 6), []),
  (173, (.invokevirtual 328, 3), (153, 2, 6), []),
  (176, (.ireturn, 1), (0, 0, 0), [])]
def t_X6_marked : List mT := [
  (0, (.iload_n 2, 1), (0, 0, 0), []),
  (1, (.iconst 0, 1), (0, 0, 0), []),
  (2, (.bipush 9, 2), (0, 0, 0), []),
  (4, (.invokestatic 272, 3), (154, 3, 99), []),
  (7, (.ifCond .ne 9, 3), (16, 0, 0), []),
  (10, (.aload_n 0, 1), (0, 0, 0), []),
  (11, (.iconst 1, 1), (0, 0, 0), []),
  (12, (.invokevirtual 319, 3), (151, 2, 6), []),
  (15, (.ireturn, 1), (0, 0, 0), []),
  (16, (.aload_n 0, 1), (0, 0, 0), []),
  (17, (.iload_n 1, 1), (0, 0, 0), []),
  (18, (.invokevirtual 334, 3), (167, 2, 6), []),
  (21, (.ifCond .eq 16, 3), (37, 0, 0), []),
  (24, (.aload_n 0, 1), (0, 0, 0), []),
  (25, (.aload_n 0, 1), (0, 0, 0), []),
  (26, (.iload_n 1, 1), (0, 0, 0), []),
  (27, (.iload_n 2, 1), (0, 0, 0), []),
  (28, (.invokevirtual 80, 3), (166, 3, 6), []),
  (31, (.invokevirtual 328, 3), (153, 2, 6), []),
  (34, (.goto 8, 3), (42, 0, 0), []),
  (37, (.aload_n 0, 1), (0, 0, 0), []),
  (38, (.iconst 2, 1), (0, 0, 0), []),
  (39, (.invokevirtual 319, 3), (151, 2, 6), []),
  (42, (.ireturn, 1), (0, 0, 0), [])]
def t_X6_brake : List mT := [
  (0, (.iload_n 2, 1), (0, 0, 0), []),
  (1, (.iconst 0, 1), (0, 0, 0), []),
  (2, (.iconst 5, 1), (0, 0, 0), []),
  (3, (.invokestatic 272, 3), (154, 3, 99), []),
  (6, (.ifCond .ne 9, 3), (15, 0, 0), []),
  (9, (.aload_n 0, 1), (0, 0, 0), []),
  (10, (.iconst 1, 1), (0, 0, 0), []),
  (11, (.invokevirtual 319, 3), (151, 2, 6), []),
  (14, (.ireturn, 1), (0, 0, 0), []),
  (15, (.iload_n 1, 1), (0, 0, 0), []),
  (16, (.iconst 0, 1), (0, 0, 0), []),
  (17, (.iconst 1, 1), (0, 0, 0), []),
  (18, (.invokestatic 272, 3), (154, 3, 99), []),
  (21, (.ifCond .ne 9, 3), (30, 0, 0), []),
  (24, (.aload_n 0, 1), (0, 0, 0), []),
  (25, (.iconst 2, 1), (0, 0, 0), []),
  (26, (.invokevirtual 319, 3), (151, 2, 6), []),
  (29, (.ireturn, 1), (0, 0, 0), []),
  (30, (.aload_n 0, 1), (0, 0, 0), []),
  (31, (.iload_n 2, 1), (0, 0, 0), []),
  (32, (.iconst 5, 1), (0, 0, 0), []),
  (33, (.if_icmp .ne 16, 3), (49, 0, 0), []),
  (36, (.aload_n 0, 1), (0, 0, 0), []),
  (37, (.bipush 10, 2), (0, 0, 0), []),
  (39, (.invokevirtual 43, 3), (157, 2, 6), []),
  (42, (.iload_n 1, 1), (0, 0, 0), []),
  (43, (.ishr, 1), (0, 0, 0), []),
  (44, (.iconst 1, 1), (0, 0, 0), []),
  (45, (.iand, 1), (0, 0, 0), []),
  (46, (.goto 9, 3), (55, 0, 0), []),
  (49, (.aload_n 0, 1), (0, 0, 0), []),
  (50, (.iload_n 1, 1), (0, 0, 0), []),
  (51, (.iload_n 2, 1), (0, 0, 0), []),
  (52, (.invokevirtual 197, 3), (201, 3, 6), []),
  (55, (.invokevirtual 328, 3), (153, 2, 6), []),
  (58, (.ireturn, 1), (0, 0, 0), [])]
def t_X6_greatest : List mT := [
  (0, (.iconst (-1), 1), (0, 0, 0), []),
  (1, (.istore_n 1, 1), (0, 0, 0), []),
  (2, (.iconst 0, 1), (0, 0, 0), []),
  (3, (.istore_n 2, 1), (0, 0, 0), []),
  (4, (.iload_n 2, 1), (0, 0, 0), []),
  (5, (.aload_n 0, 1), (0, 0, 0), []),
  (6, (.iconst 0, 1), (0, 0, 0), []),
  (7, (.invokevirtual 43, 3), (157, 2, 6), []),
  (10, (.if_icmp .ge 37, 3), (47, 0, 0), []),
  (13, (.aload_n 0, 1), (0, 0, 0), []),
  (14, (.iload_n 2, 1), (0, 0, 0), []),
  (15, (.bipush 12, 2), (0, 0, 0), []),
  (17, (.invokevirtual 50, 3), (164, 3, 6), []),
  (20, (.iload_n 1, 1), (0, 0, 0), []),
  (21, (.iconst (-1), 1), (0, 0, 0), []),
  (22, (.if_icmp .ne 7, 3), (29, 0, 0), []),
  (25, (.iconst 0, 1), (0, 0, 0), []),
  (26, (.goto 10, 3), (36, 0, 0), []),
  (29, (.aload_n 0, 1), (0, 0, 0), []),
  (30, (.iload_n 1, 1), (0, 0, 0), []),
  (31, (.bipush 12, 2), (0, 0, 0), []),
  (33, (.invokevirtual 50, 3), (164, 3, 6), []),
  (36, (.if_icmp .le 5, 3), (41, 0, 0), []),
  (39, (.iload_n 2, 1), (0, 0, 0), []),
  (40, (.istore_n 1, 1), (0, 0, 0), []),
  (41, (.iinc 2 1, 3), (0, 0, 0), []),
  (44, (.goto (-40), 3), (4, 0, 0), []),
  (47, (.iload_n 1, 1), (0, 0, 0), []),
  (48, (.ireturn, 1), (0, 0, 0), [])]
def t_X6_goneAll : List mT := [
  (0, (.iconst 0, 1), (0, 0, 0), []),
  (1, (.istore_n 1, 1), (0, 0, 0), []),
  (2, (.iconst 0, 1), (0, 0, 0), []),
  (3, (.istore_n 2, 1), (0, 0, 0), []),
  (4, (.iload_n 2, 1), (0, 0, 0), []),
  (5, (.aload_n 0, 1), (0, 0, 0), []),
  (6, (.iconst 0, 1), (0, 0, 0), []),
  (7, (.invokevirtual 43, 3), (157, 2, 6), []),
  (10, (.if_icmp .ge 19, 3), (29, 0, 0), []),
  (13, (.iload_n 1, 1), (0, 0, 0), []),
  (14, (.aload_n 0, 1), (0, 0, 0), []),
  (15, (.iload_n 2, 1), (0, 0, 0), []),
  (16, (.bipush 15, 2), (0, 0, 0), []),
  (18, (.invokevirtual 50, 3), (164, 3, 6), []),
  (21, (.iadd, 1), (0, 0, 0), []),
  (22, (.istore_n 1, 1), (0, 0, 0), []),
  (23, (.iinc 2 1, 3), (0, 0, 0), []),
  (26, (.goto (-22), 3), (4, 0, 0), []),
  (29, (.iload_n 1, 1), (0, 0, 0), []),
  (30, (.ireturn, 1), (0, 0, 0), [])]
def t_X6_sum : List mT := [
  (0, (.iload_n 1, 1), (0, 0, 0), []),
  (1, (.tableswitch 113 0 5 #[39, 48, 59, 68, 95, 104], 39), (114, 0, 0), [(0, 40), (1, 49), (2, 60), (3, 69), (4, 96), (5, 105)]),
  (40, (.aload_n 0, 1), (0, 0, 0), []),
  (41, (.aload_n 0, 1), (0, 0, 0), []),
  (42, (.invokevirtual 340, 3), (239, 1, 6), []),
  (45, (.invokevirtual 328, 3), (153, 2, 6), []),
  (48, (.ireturn, 1), (0, 0, 0), []),
  (49, (.aload_n 0, 1), (0, 0, 0), []),
  (50, (.aload_n 0, 1), (0, 0, 0), []),
  (51, (.bipush 11, 2), (0, 0, 0), []),
  (53, (.invokevirtual 43, 3), (157, 2, 6), []),
  (56, (.invokevirtual 328, 3), (153, 2, 6), []),
  (59, (.ireturn, 1), (0, 0, 0), []),
  (60, (.aload_n 0, 1), (0, 0, 0), []),
  (61, (.aload_n 0, 1), (0, 0, 0), []),
  (62, (.invokevirtual 194, 3), (199, 1, 6), []),
  (65, (.invokevirtual 328, 3), (153, 2, 6), []),
  (68, (.ireturn, 1), (0, 0, 0), []),
  (69, (.aload_n 0, 1), (0, 0, 0), []),
  (70, (.aload_n 0, 1), (0, 0, 0), []),
  (71, (.invokevirtual 343, 3), (238, 1, 6), []),
  (74, (.iconst (-1), 1), (0, 0, 0), []),
  (75, (.if_icmp .ne 7, 3), (82, 0, 0), []),
  (78, (.iconst 0, 1), (0, 0, 0), []),
  (79, (.goto 13, 3), (92, 0, 0), []),
  (82, (.aload_n 0, 1), (0, 0, 0), []),
  (83, (.aload_n 0, 1), (0, 0, 0), []),
  (84, (.invokevirtual 343, 3), (238, 1, 6), []),
  (87, (.bipush 12, 2), (0, 0, 0), []),
  (89, (.invokevirtual 50, 3), (164, 3, 6), []),
  (92, (.invokevirtual 328, 3), (153, 2, 6), []),
  (95, (.ireturn, 1), (0, 0, 0), []),
  (96, (.aload_n 0, 1), (0, 0, 0), []),
  (97, (.aload_n 0, 1), (0, 0, 0), []),
  (98, (.invokevirtual 343, 3), (238, 1, 6), []),
  (101, (.invokevirtual 328, 3), (153, 2, 6), []),
  (104, (.ireturn, 1), (0, 0, 0), []),
  (105, (.aload_n 0, 1), (0, 0, 0), []),
  (106, (.aload_n 0, 1), (0, 0, 0), []),
  (107, (.invokevirtual 161, 3), (197, 1, 6), []),
  (110, (.invokevirtual 328, 3), (153, 2, 6), []),
  (113, (.ireturn, 1), (0, 0, 0), []),
  (114, (.aload_n 0, 1), (0, 0, 0), []),
  (115, (.iconst 1, 1), (0, 0, 0), []),
  (116, (.invokevirtual 319, 3), (151, 2, 6), []),
  (119, (.ireturn, 1), (0, 0, 0), [])]
def t_X6_event : List mT := [
  (0, (.iload_n 1, 1), (0, 0, 0), []),
  (1, (.iconst 0, 1), (0, 0, 0), []),
  (2, (.bipush 31, 2), (0, 0, 0), []),
  (4, (.invokestatic 272, 3), (154, 3, 99), []),
  (7, (.ifCond .eq 12, 3), (19, 0, 0), []),
  (10, (.iload_n 2, 1), (0, 0, 0), []),
  (11, (.iconst 0, 1), (0, 0, 0), []),
  (12, (.iconst 2, 1), (0, 0, 0), []),
  (13, (.invokestatic 272, 3), (154, 3, 99), []),
  (16, (.ifCond .ne 9, 3), (25, 0, 0), []),
  (19, (.aload_n 0, 1), (0, 0, 0), []),
  (20, (.iconst 1, 1), (0, 0, 0), []),
  (21, (.invokevirtual 319, 3), (151, 2, 6), []),
  (24, (.ireturn, 1), (0, 0, 0), []),
  (25, (.iload_n 1, 1), (0, 0, 0), []),
  (26, (.aload_n 0, 1), (0, 0, 0), []),
  (27, (.bipush 12, 2), (0, 0, 0), []),
  (29, (.invokevirtual 43, 3), (157, 2, 6), []),
  (32, (.if_icmp .ge 32, 3), (64, 0, 0), []),
  (35, (.aload_n 0, 1), (0, 0, 0), []),
  (36, (.aload_n 0, 1), (0, 0, 0), []),
  (37, (.sipush 192, 3), (0, 0, 0), []),
  (40, (.iconst 3, 1), (0, 0, 0), []),
  (41, (.aload_n 0, 1), (0, 0, 0), []),
  (42, (.bipush 12, 2), (0, 0, 0), []),
  (44, (.invokevirtual 43, 3), (157, 2, 6), []),
  (47, (.iconst 1, 1), (0, 0, 0), []),
  (48, (.isub, 1), (0, 0, 0), []),
  (49, (.iload_n 1, 1), (0, 0, 0), []),
  (50, (.isub, 1), (0, 0, 0), []),
  (51, (.imul, 1), (0, 0, 0), []),
  (52, (.iadd, 1), (0, 0, 0), []),
  (53, (.iload_n 2, 1), (0, 0, 0), []),
  (54, (.iadd, 1), (0, 0, 0), []),
  (55, (.invokevirtual 43, 3), (157, 2, 6), []),
  (58, (.invokevirtual 328, 3), (153, 2, 6), []),
  (61, (.goto 8, 3), (69, 0, 0), []),
  (64, (.aload_n 0, 1), (0, 0, 0), []),
  (65, (.iconst 5, 1), (0, 0, 0), []),
  (66, (.invokevirtual 319, 3), (151, 2, 6), []),
  (69, (.ireturn, 1), (0, 0, 0), [])]
def t_X6_mark_ : List mT := [
  (0, (.iload_n 2, 1), (0, 0, 0), []),
  (1, (.iconst 0, 1), (0, 0, 0), []),
  (2, (.bipush 9, 2), (0, 0, 0), []),
  (4, (.invokestatic 272, 3), (154, 3, 99), []),
  (7, (.ifCond .eq 18, 3), (25, 0, 0), []),
  (10, (.iload_n 3, 1), (0, 0, 0), []),
  (11, (.iload_n 2, 1), (0, 0, 0), []),
  (12, (.invokestatic 289, 3), (221, 1, 99), []),
  (15, (.iload_n 2, 1), (0, 0, 0), []),
  (16, (.invokestatic 292, 3), (222, 1, 99), []),
  (19, (.invokestatic 272, 3), (154, 3, 99), []),
  (22, (.ifCond .ne 9, 3), (31, 0, 0), []),
  (25, (.aload_n 0, 1), (0, 0, 0), []),
  (26, (.iconst 1, 1), (0, 0, 0), []),
  (27, (.invokevirtual 319, 3), (151, 2, 6), []),
  (30, (.ireturn, 1), (0, 0, 0), []),
  (31, (.aload_n 0, 1), (0, 0, 0), []),
  (32, (.iload_n 1, 1), (0, 0, 0), []),
  (33, (.invokevirtual 334, 3), (167, 2, 6), []),
  (36, (.ifCond .ne 9, 3), (45, 0, 0), []),
  (39, (.aload_n 0, 1), (0, 0, 0), []),
  (40, (.iconst 2, 1), (0, 0, 0), []),
  (41, (.invokevirtual 319, 3), (151, 2, 6), []),
  (44, (.ireturn, 1), (0, 0, 0), []),
  (45, (.aload_n 0, 1), (0, 0, 0), []),
  (46, (.iload_n 1, 1), (0, 0, 0), []),
  (47, (.iload_n 2, 1), (0, 0, 0), []),
  (48, (.invokevirtual 80, 3), (166, 3, 6), []),
  (51, (.istore 4, 2), (0, 0, 0), []),
  (53, (.aload_n 0, 1), (0, 0, 0), []),
  (54, (.iload_n 1, 1), (0, 0, 0), []),
  (55, (.iconst 2, 1), (0, 0, 0), []),
  (56, (.iload_n 2, 1), (0, 0, 0), []),
  (57, (.iadd, 1), (0, 0, 0), []),
  (58, (.iload_n 3, 1), (0, 0, 0), []),
  (59, (.invokevirtual 95, 3), (165, 4, 6), []),
  (62, (.aload_n 0, 1), (0, 0, 0), []),
  (63, (.iload 4, 2), (0, 0, 0), []),
  (65, (.invokevirtual 328, 3), (153, 2, 6), []),
  (68, (.ireturn, 1), (0, 0, 0), [])]
def t_X6_clock : List mT := [
  (0, (.iload_n 1, 1), (0, 0, 0), []),
  (1, (.ifCond .ne 13, 3), (14, 0, 0), []),
  (4, (.iload_n 2, 1), (0, 0, 0), []),
  (5, (.invokestatic 307, 3), (227, 1, 99), []),
  (8, (.ifCond .ne 28, 3), (36, 0, 0), []),
  (11, (.goto 19, 3), (30, 0, 0), []),
  (14, (.iload_n 1, 1), (0, 0, 0), []),
  (15, (.iconst 1, 1), (0, 0, 0), []),
  (16, (.if_icmp .ne 14, 3), (30, 0, 0), []),
  (19, (.iload_n 2, 1), (0, 0, 0), []),
  (20, (.iconst 0, 1), (0, 0, 0), []),
  (21, (.sipush 239, 3), (0, 0, 0), []),
  (24, (.invokestatic 272, 3), (154, 3, 99), []),
  (27, (.ifCond .ne 9, 3), (36, 0, 0), []),
  (30, (.aload_n 0, 1), (0, 0, 0), []),
  (31, (.iconst 1, 1), (0, 0, 0), []),
  (32, (.invokevirtual 319, 3), (151, 2, 6), []),
  (35, (.ireturn, 1), (0, 0, 0), []),
  (36, (.aload_n 0, 1), (0, 0, 0), []),
  (37, (.iconst 2, 1), (0, 0, 0), []),
  (38, (.iload_n 1, 1), (0, 0, 0), []),
  (39, (.iadd, 1), (0, 0, 0), []),
  (40, (.invokevirtual 43, 3), (157, 2, 6), []),
  (43, (.istore_n 3, 1), (0, 0, 0), []),
  (44, (.iload_n 3, 1), (0, 0, 0), []),
  (45, (.iload_n 2, 1), (0, 0, 0), []),
  (46, (.if_icmp .ne 9, 3), (55, 0, 0), []),
  (49, (.aload_n 0, 1), (0, 0, 0), []),
  (50, (.iconst 4, 1), (0, 0, 0), []),
  (51, (.invokevirtual 319, 3), (151, 2, 6), []),
  (54, (.ireturn, 1), (0, 0, 0), []),
  (55, (.aload_n 0, 1), (0, 0, 0), []),
  (56, (.iconst 2, 1), (0, 0, 0), []),
  (57, (.iload_n 1, 1), (0, 0, 0), []),
  (58, (.iadd, 1), (0, 0, 0), []),
  (59, (.iload_n 2, 1), (0, 0, 0), []),
  (60, (.invokevirtual 46, 3), (158, 3, 6), []),
  (63, (.iload_n 1, 1), (0, 0, 0), []),
  (64, (.ifCond .ne 23, 3), (87, 0, 0), []),
  (67, (.aload_n 0, 1), (0, 0, 0), []),
  (68, (.iconst 4, 1), (0, 0, 0), []),
  (69, (.iload_n 2, 1), (0, 0, 0), []),
  (70, (.ifCond .ne 7, 3), (77, 0, 0), []),
  (73, (.iconst 0, 1), (0, 0, 0), []),
  (74, (.goto 10, 3), (84, 0, 0), []),
  (77, (.aload_n 0, 1), (0, 0, 0), []),
  (78, (.iconst 4, 1), (0, 0, 0), []),
  (79, (.invokevirtual 43, 3), (157, 2, 6), []),
  (82, (.iload_n 2, 1), (0, 0, 0), []),
  (83, (.irem, 1), (0, 0, 0), []),
  (84, (.invokevirtual 46, 3), (158, 3, 6), []),
  (87, (.aload_n 0, 1), (0, 0, 0), []),
  (88, (.iload_n 3, 1), (0, 0, 0), []),
  (89, (.invokevirtual 328, 3), (153, 2, 6), []),
  (92, (.ireturn, 1), (0, 0, 0), [])]
def t_X6_calls : List mT := [
  (0, (.aload_n 0, 1), (0, 0, 0), []),
  (1, (.iload_n 1, 1), (0, 0, 0), []),
  (2, (.iconst 0, 1), (0, 0, 0), []),
  (3, (.invokevirtual 50, 3), (164, 3, 6), []),
  (6, (.istore_n 2, 1), (0, 0, 0), []),
  (7, (.aload_n 0, 1), (0, 0, 0), []),
  (8, (.iload_n 1, 1), (0, 0, 0), []),
  (9, (.aload_n 0, 1), (0, 0, 0), []),
  (10, (.iload_n 2, 1), (0, 0, 0), []),
  (11, (.invokevirtual 137, 3), (180, 2, 6), []),
  (14, (.ifCond .eq 18, 3), (32, 0, 0), []),
  (17, (.aload_n 0, 1), (0, 0, 0), []),
  (18, (.iload_n 2, 1), (0, 0, 0), []),
  (19, (.iconst 0, 1), (0, 0, 0), []),
  (20, (.invokevirtual 89, 3), (162, 3, 6), []),
  (23, (.iload_n 1, 1), (0, 0, 0), []),
  (24, (.if_icmp .ne 8, 3), (32, 0, 0), []),
  (27, (.bipush 16, 2), (0, 0, 0), []),
  (29, (.goto 5, 3), (34, 0, 0), []),
  (32, (.bipush 13, 2), (0, 0, 0), []),
  (34, (.iconst 1, 1), (0, 0, 0), []),
  (35, (.invokevirtual 95, 3), (165, 4, 6), []),
  (38, (.return_, 1), (0, 0, 0), [])]
def t_X6_call : List mT := [
  (0, (.aload_n 0, 1), (0, 0, 0), []),
  (1, (.iload_n 1, 1), (0, 0, 0), []),
  (2, (.invokevirtual 334, 3), (167, 2, 6), []),
  (5, (.ifCond .ne 9, 3), (14, 0, 0), []),
  (8, (.aload_n 0, 1), (0, 0, 0), []),
  (9, (.iconst 2, 1), (0, 0, 0), []),
  (10, (.invokevirtual 346, 3), (152, 2, 6), []),
  (13, (.ireturn, 1), (0, 0, 0), []),
  (14, (.aload_n 0, 1), (0, 0, 0), []),
  (15, (.iload_n 1, 1), (0, 0, 0), []),
  (16, (.iload_n 2, 1), (0, 0, 0), []),
  (17, (.ifCond .eq 8, 3), (25, 0, 0), []),
  (20, (.bipush 14, 2), (0, 0, 0), []),
  (22, (.goto 5, 3), (27, 0, 0), []),
  (25, (.bipush 13, 2), (0, 0, 0), []),
  (27, (.invokevirtual 50, 3), (164, 3, 6), []),
  (30, (.iconst 1, 1), (0, 0, 0), []),
  (31, (.if_icmp .ne 9, 3), (40, 0, 0), []),
  (34, (.aload_n 0, 1), (0, 0, 0), []),
  (35, (.iconst 4, 1), (0, 0, 0), []),
  (36, (.invokevirtual 346, 3), (152, 2, 6), []),
  (39, (.ireturn, 1), (0, 0, 0), []),
  (40, (.iload_n 2, 1), (0, 0, 0), []),
  (41, (.ifCond .eq 18, 3), (59, 0, 0), []),
  (44, (.aload_n 0, 1), (0, 0, 0), []),
  (45, (.iload_n 1, 1), (0, 0, 0), []),
  (46, (.iconst 5, 1), (0, 0, 0), []),
  (47, (.invokevirtual 80, 3), (166, 3, 6), []),
  (50, (.ifCond .ne 9, 3), (59, 0, 0), []),
  (53, (.aload_n 0, 1), (0, 0, 0), []),
  (54, (.iconst 5, 1), (0, 0, 0), []),
  (55, (.invokevirtual 346, 3), (152, 2, 6), []),
  (58, (.ireturn, 1), (0, 0, 0), []),
  (59, (.aload_n 0, 1), (0, 0, 0), []),
  (60, (.iconst 5, 1), (0, 0, 0), []),
  (61, (.invokevirtual 43, 3), (157, 2, 6), []),
  (64, (.iconst 1, 1), (0, 0, 0), []),
  (65, (.if_icmp .ne 10, 3), (75, 0, 0), []),
  (68, (.aload_n 0, 1), (0, 0, 0), []),
  (69, (.bipush 8, 2), (0, 0, 0), []),
  (71, (.invokevirtual 346, 3), (152, 2, 6), []),
  (74, (.ireturn, 1), (0, 0, 0), []),
  (75, (.iload_n 2, 1), (0, 0, 0), []),
  (76, (.ifCond .eq 14, 3), (90, 0, 0), []),
  (79, (.aload_n 0, 1), (0, 0, 0), []),
  (80, (.iload_n 1, 1), (0, 0, 0), []),
  (81, (.bipush 14, 2), (0, 0, 0), []),
  (83, (.iconst 1, 1), (0, 0, 0), []),
  (84, (.invokevirtual 95, 3), (165, 4, 6), []),
  (87, (.goto 8, 3), (95, 0, 0), []),
  (90, (.aload_n 0, 1), (0, 0, 0), []),
  (91, (.iload_n 1, 1), (0, 0, 0), []),
  (92, (.invokevirtual 349, 3), (244, 2, 6), []),
  (95, (.aload_n 0, 1), (0, 0, 0), []),
  (96, (.iconst 0, 1), (0, 0, 0), []),
  (97, (.invokevirtual 346, 3), (152, 2, 6), []),
  (100, (.ireturn, 1), (0, 0, 0), [])]
def t_X6_come : List mT := [
  (0, (.iload_n 2, 1), (0, 0, 0), []),
  (1, (.iconst 1, 1), (0, 0, 0), []),
  (2, (.bipush 99, 2), (0, 0, 0), []),
  (4, (.invokestatic 272, 3), (154, 3, 99), []),
  (7, (.ifCond .ne 9, 3), (16, 0, 0), []),
  (10, (.aload_n 0, 1), (0, 0, 0), []),
  (11, (.iconst 1, 1), (0, 0, 0), []),
  (12, (.invokevirtual 319, 3), (151, 2, 6), []),
  (15, (.ireturn, 1), (0, 0, 0), []),
  (16, (.aload_n 0, 1), (0, 0, 0), []),
  (17, (.iload_n 1, 1), (0, 0, 0), []),
  (18, (.invokevirtual 334, 3), (167, 2, 6), []),
  (21, (.ifCond .ne 9, 3), (30, 0, 0), []),
  (24, (.aload_n 0, 1), (0, 0, 0), []),
  (25, (.iconst 2, 1), (0, 0, 0), []),
  (26, (.invokevirtual 319, 3), (151, 2, 6), []),
  (29, (.ireturn, 1), (0, 0, 0), []),
  (30, (.aload_n 0, 1), (0, 0, 0), []),
  (31, (.iload_n 1, 1), (0, 0, 0), []),
  (32, (.bipush 12, 2), (0, 0, 0), []),
  (34, (.invokevirtual 50, 3), (164, 3, 6), []),
  (37, (.iload_n 2, 1), (0, 0, 0), []),
  (38, (.iadd, 1), (0, 0, 0), []),
  (39, (.bipush 99, 2), (0, 0, 0), []),
  (41, (.if_icmp .le 9, 3), (50, 0, 0), []),
  (44, (.aload_n 0, 1), (0, 0, 0), []),
  (45, (.iconst 3, 1), (0, 0, 0), []),
  (46, (.invokevirtual 319, 3), (151, 2, 6), []),
  (49, (.ireturn, 1), (0, 0, 0), []),
  (50, (.aload_n 0, 1), (0, 0, 0), []),
  (51, (.iload_n 1, 1), (0, 0, 0), []),
  (52, (.bipush 12, 2), (0, 0, 0), []),
  (54, (.aload_n 0, 1), (0, 0, 0), []),
  (55, (.iload_n 1, 1), (0, 0, 0), []),
  (56, (.bipush 12, 2), (0, 0, 0), []),
  (58, (.invokevirtual 50, 3), (164, 3, 6), []),
  (61, (.iload_n 2, 1), (0, 0, 0), []),
  (62, (.iadd, 1), (0, 0, 0), []),
  (63, (.invokevirtual 95, 3), (165, 4, 6), []),
  (66, (.aload_n 0, 1), (0, 0, 0), []),
  (67, (.aload_n 0, 1), (0, 0, 0), []),
  (68, (.iload_n 1, 1), (0, 0, 0), []),
  (69, (.bipush 12, 2), (0, 0, 0), []),
  (71, (.invokevirtual 50, 3), (164, 3, 6), []),
  (74, (.invokevirtual 328, 3), (153, 2, 6), []),
  (77, (.ireturn, 1), (0, 0, 0), [])]
def t_X6_isWanted : List mT := [
  (0, (.iload_n 1, 1), (0, 0, 0), []),
  (1, (.iconst 0, 1), (0, 0, 0), []),
  (2, (.iconst 1, 1), (0, 0, 0), []),
  (3, (.invokestatic 272, 3), (154, 3, 99), []),
  (6, (.ifCond .ne 9, 3), (15, 0, 0), []),
  (9, (.aload_n 0, 1), (0, 0, 0), []),
  (10, (.iconst 2, 1), (0, 0, 0), []),
  (11, (.invokevirtual 346, 3), (152, 2, 6), []),
  (14, (.ireturn, 1), (0, 0, 0), []),
  (15, (.aload_n 0, 1), (0, 0, 0), []),
  (16, (.bipush 10, 2), (0, 0, 0), []),
  (18, (.invokevirtual 43, 3), (157, 2, 6), []),
  (21, (.iload_n 1, 1), (0, 0, 0), []),
  (22, (.invokestatic 58, 3), (155, 2, 99), []),
  (25, (.iload_n 2, 1), (0, 0, 0), []),
  (26, (.if_icmp .ne 9, 3), (35, 0, 0), []),
  (29, (.aload_n 0, 1), (0, 0, 0), []),
  (30, (.iconst 4, 1), (0, 0, 0), []),
  (31, (.invokevirtual 346, 3), (152, 2, 6), []),
  (34, (.ireturn, 1), (0, 0, 0), []),
  (35, (.aload_n 0, 1), (0, 0, 0), []),
  (36, (.bipush 10, 2), (0, 0, 0), []),
  (38, (.aload_n 0, 1), (0, 0, 0), []),
  (39, (.bipush 10, 2), (0, 0, 0), []),
  (41, (.invokevirtual 43, 3), (157, 2, 6), []),
  (44, (.iconst 1, 1), (0, 0, 0), []),
  (45, (.iload_n 1, 1), (0, 0, 0), []),
  (46, (.ishl, 1), (0, 0, 0), []),
  (47, (.ixor, 1), (0, 0, 0), []),
  (48, (.invokevirtual 46, 3), (158, 3, 6), []),
  (51, (.aload_n 0, 1), (0, 0, 0), []),
  (52, (.iconst 0, 1), (0, 0, 0), []),
  (53, (.invokevirtual 346, 3), (152, 2, 6), []),
  (56, (.ireturn, 1), (0, 0, 0), [])]
def t_X6_ask : List mT := [
  (0, (.aload_n 0, 1), (0, 0, 0), []),
  (1, (.iload_n 1, 1), (0, 0, 0), []),
  (2, (.iconst 1, 1), (0, 0, 0), []),
  (3, (.invokevirtual 352, 3), (247, 3, 6), []),
  (6, (.ireturn, 1), (0, 0, 0), [])]
def t_X6_let : List mT := [
  (0, (.aload_n 0, 1), (0, 0, 0), []),
  (1, (.iload_n 1, 1), (0, 0, 0), []),
  (2, (.iconst 0, 1), (0, 0, 0), []),
  (3, (.invokevirtual 352, 3), (247, 3, 6), []),
  (6, (.ireturn, 1), (0, 0, 0), [])]
def t_X6_isSet : List mT := [
  (0, (.iload_n 1, 1), (0, 0, 0), []),
  (1, (.ifCond .lt 17, 3), (18, 0, 0), []),
  (4, (.iload_n 1, 1), (0, 0, 0), []),
  (5, (.aload_n 0, 1), (0, 0, 0), []),
  (6, (.iconst 0, 1), (0, 0, 0), []),
  (7, (.invokevirtual 43, 3), (157, 2, 6), []),
  (10, (.ishr, 1), (0, 0, 0), []),
  (11, (.ifCond .ne 7, 3), (18, 0, 0), []),
  (14, (.iconst 1, 1), (0, 0, 0), []),
  (15, (.goto 4, 3), (19, 0, 0), []),
  (18, (.iconst 0, 1), (0, 0, 0), []),
  (19, (.ireturn, 1), (0, 0, 0), [])]
def t_X6_brakes : List mT := [
  (0, (.aload_n 0, 1), (0, 0, 0), []),
  (1, (.iload_n 2, 1), (0, 0, 0), []),
  (2, (.invokevirtual 356, 3), (250, 2, 6), []),
  (5, (.ifCond .eq 44, 3), (49, 0, 0), []),
  (8, (.aload_n 0, 1), (0, 0, 0), []),
  (9, (.iload 4, 2), (0, 0, 0), []),
  (11, (.invokevirtual 356, 3), (250, 2, 6), []),
  (14, (.ifCond .eq 35, 3), (49, 0, 0), []),
  (17, (.iload_n 3, 1), (0, 0, 0), []),
  (18, (.iconst 0, 1), (0, 0, 0), []),
  (19, (.bipush 30, 2), (0, 0, 0), []),
  (21, (.invokestatic 272, 3), (154, 3, 99), []),
  (24, (.ifCond .eq 25, 3), (49, 0, 0), []),
  (27, (.iload 5, 2), (0, 0, 0), []),
  (29, (.iconst 0, 1), (0, 0, 0), []),
  (30, (.bipush 30, 2), (0, 0, 0), []),
  (32, (.invokestatic 272, 3), (154, 3, 99), []),
  (35, (.ifCond .eq 14, 3), (49, 0, 0), []),
  (38, (.iload 6, 2), (0, 0, 0), []),
  (40, (.iconst 0, 1), (0, 0, 0), []),
  (41, (.bipush 20, 2), (0, 0, 0), []),
  (43, (.invokestatic 272, 3), (154, 3, 99), []),
  (46, (.ifCond .ne 9, 3), (55, 0, 0), []),
  (49, (.aload_n 0, 1), (0, 0, 0), []),
  (50, (.iconst 1, 1), (0, 0, 0), []),
  (51, (.invokevirtual 346, 3), (152, 2, 6), []),
  (54, (.ireturn, 1), (0, 0, 0), []),
  (55, (.iload_n 1, 1), (0, 0, 0), []),
  (56, (.iconst 0, 1), (0, 0, 0), []),
  (57, (.iconst 1, 1), (0, 0, 0), []),
  (58, (.invokestatic 272, 3), (154, 3, 99), []),
  (61, (.ifCond .ne 9, 3), (70, 0, 0), []),
  (64, (.aload_n 0, 1), (0, 0, 0), []),
  (65, (.iconst 2, 1), (0, 0, 0), []),
  (66, (.invokevirtual 346, 3), (152, 2, 6), []),
  (69, (.ireturn, 1), (0, 0, 0), []),
  (70, (.aload_n 0, 1), (0, 0, 0), []),
  (71, (.bipush 7, 2), (0, 0, 0), []),
  (73, (.invokevirtual 43, 3), (157, 2, 6), []),
  (76, (.iload_n 1, 1), (0, 0, 0), []),
  (77, (.if_icmp .ne 9, 3), (86, 0, 0), []),
  (80, (.aload_n 0, 1), (0, 0, 0), []),
  (81, (.iconst 4, 1), (0, 0, 0), []),
  (82, (.invokevirtual 346, 3), (152, 2, 6), []),
  (85, (.ireturn, 1), (0, 0, 0), []),
  (86, (.aload_n 0, 1), (0, 0, 0), []),
  (87, (.iload_n 2, 1), (0, 0, 0), []),
  (88, (.invokevirtual 164, 3), (171, 2, 6), []),
  (91, (.ifCond .eq 12, 3), (103, 0, 0), []),
  (94, (.aload_n 0, 1), (0, 0, 0), []),
  (95, (.iload 4, 2), (0, 0, 0), []),
  (97, (.invokevirtual 164, 3), (171, 2, 6), []),
  (100, (.ifCond .ne 10, 3), (110, 0, 0), []),
  (103, (.aload_n 0, 1), (0, 0, 0), []),
  (104, (.bipush 7, 2), (0, 0, 0), []),
  (106, (.invokevirtual 346, 3), (152, 2, 6), []),
  (109, (.ireturn, 1), (0, 0, 0), []),
  (110, (.sipush 176, 3), (0, 0, 0), []),
  (113, (.iconst 5, 1), (0, 0, 0), []),
  (114, (.iload_n 1, 1), (0, 0, 0), []),
  (115, (.imul, 1), (0, 0, 0), []),
  (116, (.iadd, 1), (0, 0, 0), []),
  (117, (.istore 7, 2), (0, 0, 0), []),
  (119, (.aload_n 0, 1), (0, 0, 0), []),
  (120, (.iload 7, 2), (0, 0, 0), []),
  (122, (.iconst 0, 1), (0, 0, 0), []),
  (123, (.iadd, 1), (0, 0, 0), []),
  (124, (.iload_n 2, 1), (0, 0, 0), []),
  (125, (.invokevirtual 46, 3), (158, 3, 6), []),
  (128, (.aload_n 0, 1), (0, 0, 0), []),
  (129, (.iload 7, 2), (0, 0, 0), []),
  (131, (.iconst 1, 1), (0, 0, 0), []),
  (132, (.iadd, 1), (0, 0, 0), []),
  (133, (.iload_n 3, 1), (0, 0, 0), []),
  (134, (.invokevirtual 46, 3), (158, 3, 6), []),
  (137, (.aload_n 0, 1), (0, 0, 0), []),
  (138, (.iload 7, 2), (0, 0, 0), []),
  (140, (.iconst 2, 1), (0, 0, 0), []),
  (141, (.iadd, 1), (0, 0, 0), []),
  (142, (.iload 4, 2), (0, 0, 0), []),
  (144, (.invokevirtual 46, 3), (158, 3, 6), []),
  (147, (.aload_n 0, 1), (0, 0, 0), []),
  (148, (.iload 7, 2), (0, 0, 0), []),
  (150, (.iconst 3, 1), (0, 0, 0), []),
  (151, (.iadd, 1), (0, 0, 0), []),
  (152, (.iload 5, 2), (0, 0, 0), []),
  (154, (.invokevirtual 46, 3), (158, 3, 6), []),
  (157, (.aload_n 0, 1), (0, 0, 0), []),
  (158, (.iload 7, 2), (0, 0, 0), []),
  (160, (.iconst 4, 1), (0, 0, 0), []),
  (161, (.iadd, 1), (0, 0, 0), []),
  (162, (.iload 6, 2), (0, 0, 0), []),
  (164, (.invokevirtual 46, 3), (158, 3, 6), []),
  (167, (.aload_n 0, 1), (0, 0, 0), []),
  (168, (.iconst 0, 1), (0, 0, 0), []),
  (169, (.invokevirtual 346, 3), (152, 2, 6), []),
  (172, (.ireturn, 1), (0, 0, 0), [])]
def t_X6_stick : List mT := [
  (0, (.aload_n 0, 1), (0, 0, 0), []),
  (1, (.iload_n 1, 1), (0, 0, 0), []),
  (2, (.invokevirtual 334, 3), (167, 2, 6), []),
  (5, (.ifCond .ne 9, 3), (14, 0, 0), []),
  (8, (.aload_n 0, 1), (0, 0, 0), []),
  (9, (.iconst 2, 1), (0, 0, 0), []),
  (10, (.invokevirtual 346, 3), (152, 2, 6), []),
  (13, (.ireturn, 1), (0, 0, 0), []),
  (14, (.aload_n 0, 1), (0, 0, 0), []),
  (15, (.bipush 6, 2), (0, 0, 0), []),
  (17, (.invokevirtual 43, 3), (157, 2, 6), []),
  (20, (.iload_n 1, 1), (0, 0, 0), []),
  (21, (.invokestatic 58, 3), (155, 2, 99), []),
  (24, (.iload_n 2, 1), (0, 0, 0), []),
  (25, (.if_icmp .ne 9, 3), (34, 0, 0), []),
  (28, (.aload_n 0, 1), (0, 0, 0), []),
  (29, (.iconst 4, 1), (0, 0, 0), []),
  (30, (.invokevirtual 346, 3), (152, 2, 6), []),
  (33, (.ireturn, 1), (0, 0, 0), []),
  (34, (.aload_n 0, 1), (0, 0, 0), []),
  (35, (.bipush 6, 2), (0, 0, 0), []),
  (37, (.aload_n 0, 1), (0, 0, 0), []),
  (38, (.bipush 6, 2), (0, 0, 0), []),
  (40, (.invokevirtual 43, 3), (157, 2, 6), []),
  (43, (.iconst 1, 1), (0, 0, 0), []),
  (44, (.iload_n 1, 1), (0, 0, 0), []),
  (45, (.ishl, 1), (0, 0, 0), []),
  (46, (.ixor, 1), (0, 0, 0), []),
  (47, (.invokevirtual 46, 3), (158, 3, 6), []),
  (50, (.aload_n 0, 1), (0, 0, 0), []),
  (51, (.iconst 0, 1), (0, 0, 0), []),
  (52, (.invokevirtual 346, 3), (152, 2, 6), []),
  (55, (.ireturn, 1), (0, 0, 0), [])]
def t_X6_reset : List mT := [
  (0, (.aload_n 0, 1), (0, 0, 0), []),
  (1, (.iconst 5, 1), (0, 0, 0), []),
  (2, (.invokevirtual 43, 3), (157, 2, 6), []),
  (5, (.ifCond .ne 9, 3), (14, 0, 0), []),
  (8, (.aload_n 0, 1), (0, 0, 0), []),
  (9, (.iconst 5, 1), (0, 0, 0), []),
  (10, (.invokevirtual 346, 3), (152, 2, 6), []),
  (13, (.ireturn, 1), (0, 0, 0), []),
  (14, (.aload_n 0, 1), (0, 0, 0), []),
  (15, (.iconst 5, 1), (0, 0, 0), []),
  (16, (.iconst 0, 1), (0, 0, 0), []),
  (17, (.invokevirtual 46, 3), (158, 3, 6), []),
  (20, (.aload_n 0, 1), (0, 0, 0), []),
  (21, (.invokevirtual 33, 3), (173, 1, 6), []),
  (24, (.aload_n 0, 1), (0, 0, 0), []),
  (25, (.iconst 5, 1), (0, 0, 0), []),
  (26, (.iconst (-1), 1), (0, 0, 0), []),
  (27, (.invokevirtual 98, 3), (181, 3, 6), []),
  (30, (.aload_n 0, 1), (0, 0, 0), []),
  (31, (.iconst 0, 1), (0, 0, 0), []),
  (32, (.invokevirtual 346, 3), (152, 2, 6), []),
  (35, (.ireturn, 1), (0, 0, 0), [])]
def t_X6_tick : List mT := [
  (0, (.iload_n 1, 1), (0, 0, 0), []),
  (1, (.iconst 1, 1), (0, 0, 0), []),
  (2, (.sipush 300, 3), (0, 0, 0), []),
  (5, (.invokestatic 272, 3), (154, 3, 99), []),
  (8, (.ifCond .ne 9, 3), (17, 0, 0), []),
  (11, (.aload_n 0, 1), (0, 0, 0), []),
  (12, (.iconst 1, 1), (0, 0, 0), []),
  (13, (.invokevirtual 319, 3), (151, 2, 6), []),
  (16, (.ireturn, 1), (0, 0, 0), []),
  (17, (.iconst 0, 1), (0, 0, 0), []),
  (18, (.istore_n 2, 1), (0, 0, 0), []),
  (19, (.iload_n 2, 1), (0, 0, 0), []),
  (20, (.iload_n 1, 1), (0, 0, 0), []),
  (21, (.if_icmp .ge 14, 3), (35, 0, 0), []),
  (24, (.aload_n 0, 1), (0, 0, 0), []),
  (25, (.iconst 0, 1), (0, 0, 0), []),
  (26, (.invokevirtual 359, 3), (200, 2, 6), []),
  (29, (.iinc 2 1, 3), (0, 0, 0), []),
  (32, (.goto (-13), 3), (19, 0, 0), []),
  (35, (.aload_n 0, 1), (0, 0, 0), []),
  (36, (.aload_n 0, 1), (0, 0, 0), []),
  (37, (.iconst 1, 1), (0, 0, 0), []),
  (38, (.invokevirtual 43, 3), (157, 2, 6), []),
  (41, (.invokevirtual 328, 3), (153, 2, 6), []),
  (44, (.ireturn, 1), (0, 0, 0), [])]
def t_X6_run : List mT := [
  (0, (.iload_n 1, 1), (0, 0, 0), []),
  (1, (.iconst 1, 1), (0, 0, 0), []),
  (2, (.sipush 300, 3), (0, 0, 0), []),
  (5, (.invokestatic 272, 3), (154, 3, 99), []),
  (8, (.ifCond .eq 14, 3), (22, 0, 0), []),
  (11, (.iload_n 2, 1), (0, 0, 0), []),
  (12, (.iconst 0, 1), (0, 0, 0), []),
  (13, (.sipush 9999, 3), (0, 0, 0), []),
  (16, (.invokestatic 272, 3), (154, 3, 99), []),
  (19, (.ifCond .ne 9, 3), (28, 0, 0), []),
  (22, (.aload_n 0, 1), (0, 0, 0), []),
  (23, (.iconst 1, 1), (0, 0, 0), []),
  (24, (.invokevirtual 319, 3), (151, 2, 6), []),
  (27, (.ireturn, 1), (0, 0, 0), []),
  (28, (.aload_n 0, 1), (0, 0, 0), []),
  (29, (.iload_n 2, 1), (0, 0, 0), []),
  (30, (.putfield 107, 3), (6, 3, 0), []),
  (33, (.aload_n 0, 1), (0, 0, 0), []),
  (34, (.iconst 0, 1), (0, 0, 0), []),
  (35, (.putfield 131, 3), (6, 4, 0), []),
  (38, (.iconst 0, 1), (0, 0, 0), []),
  (39, (.istore_n 3, 1), (0, 0, 0), []),
  (40, (.iload_n 3, 1), (0, 0, 0), []),
  (41, (.iload_n 1, 1), (0, 0, 0), []),
  (42, (.if_icmp .ge 14, 3), (56, 0, 0), []),
  (45, (.aload_n 0, 1), (0, 0, 0), []),
  (46, (.iconst 1, 1), (0, 0, 0), []),
  (47, (.invokevirtual 359, 3), (200, 2, 6), []),
  (50, (.iinc 3 1, 3), (0, 0, 0), []),
  (53, (.goto (-13), 3), (40, 0, 0), []),
  (56, (.aload_n 0, 1), (0, 0, 0), []),
  (57, (.aload_n 0, 1), (0, 0, 0), []),
  (58, (.getfield 131, 3), (6, 4, 0), []),
  (61, (.invokevirtual 328, 3), (153, 2, 6), []),
  (64, (.ireturn, 1), (0, 0, 0), [])]
def t_X6_keep : List mT := [
  (0, (.aload_n 0, 1), (0, 0, 0), []),
  (1, (.getfield 331, 3), (6, 2, 0), []),
  (4, (.iconst 3, 1), (0, 0, 0), []),
  (5, (.if_icmp .ne 9, 3), (14, 0, 0), []),
  (8, (.aload_n 0, 1), (0, 0, 0), []),
  (9, (.iconst 3, 1), (0, 0, 0), []),
  (10, (.invokevirtual 319, 3), (151, 2, 6), []),
  (13, (.ireturn, 1), (0, 0, 0), []),
  (14, (.aload_n 0, 1), (0, 0, 0), []),
  (15, (.iconst 0, 1), (0, 0, 0), []),
  (16, (.sipush 576, 3), (0, 0, 0), []),
  (19, (.sipush 288, 3), (0, 0, 0), []),
  (22, (.aload_n 0, 1), (0, 0, 0), []),
  (23, (.getfield 331, 3), (6, 2, 0), []),
  (26, (.imul, 1), (0, 0, 0), []),
  (27, (.iadd, 1), (0, 0, 0), []),
  (28, (.invokevirtual 322, 3), (160, 3, 6), []),
  (31, (.aload_n 0, 1), (0, 0, 0), []),
  (32, (.dup, 1), (0, 0, 0), []),
  (33, (.getfield 331, 3), (6, 2, 0), []),
  (36, (.iconst 1, 1), (0, 0, 0), []),
  (37, (.iadd, 1), (0, 0, 0), []),
  (38, (.putfield 331, 3), (6, 2, 0), []),
  (41, (.aload_n 0, 1), (0, 0, 0), []),
  (42, (.aload_n 0, 1), (0, 0, 0), []),
  (43, (.getfield 331, 3), (6, 2, 0), []),
  (46, (.invokevirtual 328, 3), (153, 2, 6), []),
  (49, (.ireturn, 1), (0, 0, 0), [])]
def t_X6_back : List mT := [
  (0, (.aload_n 0, 1), (0, 0, 0), []),
  (1, (.getfield 331, 3), (6, 2, 0), []),
  (4, (.ifCond .ne 9, 3), (13, 0, 0), []),
  (7, (.aload_n 0, 1), (0, 0, 0), []),
  (8, (.iconst 5, 1), (0, 0, 0), []),
  (9, (.invokevirtual 319, 3), (151, 2, 6), []),
  (12, (.ireturn, 1), (0, 0, 0), []),
  (13, (.aload_n 0, 1), (0, 0, 0), []),
  (14, (.dup, 1), (0, 0, 0), []),
  (15, (.getfield 331, 3), (6, 2, 0), []),
  (18, (.iconst 1, 1), (0, 0, 0), []),
  (19, (.isub, 1), (0, 0, 0), []),
  (20, (.putfield 331, 3), (6, 2, 0), []),
  (23, (.aload_n 0, 1), (0, 0, 0), []),
  (24, (.sipush 576, 3), (0, 0, 0), []),
  (27, (.sipush 288, 3), (0, 0, 0), []),
  (30, (.aload_n 0, 1), (0, 0, 0), []),
  (31, (.getfield 331, 3), (6, 2, 0), []),
  (34, (.imul, 1), (0, 0, 0), []),
  (35, (.iadd, 1), (0, 0, 0), []),
  (36, (.iconst 0, 1), (0, 0, 0), []),
  (37, (.invokevirtual 322, 3), (160, 3, 6), []),
  (40, (.aload_n 0, 1), (0, 0, 0), []),
  (41, (.aload_n 0, 1), (0, 0, 0), []),
  (42, (.getfield 331, 3), (6, 2, 0), []),
  (45, (.invokevirtual 328, 3), (153, 2, 6), []),
  (48, (.ireturn, 1), (0, 0, 0), [])]
def t_X6_foes : List mT := [
  (0, (.aload_n 0, 1), (0, 0, 0), []),
  (1, (.iload_n 1, 1), (0, 0, 0), []),
  (2, (.invokevirtual 334, 3), (167, 2, 6), []),
  (5, (.ifCond .eq 32, 3), (37, 0, 0), []),
  (8, (.aload_n 0, 1), (0, 0, 0), []),
  (9, (.iload_n 2, 1), (0, 0, 0), []),
  (10, (.invokevirtual 334, 3), (167, 2, 6), []),
  (13, (.ifCond .eq 24, 3), (37, 0, 0), []),
  (16, (.aload_n 0, 1), (0, 0, 0), []),
  (17, (.aload_n 0, 1), (0, 0, 0), []),
  (18, (.iload_n 1, 1), (0, 0, 0), []),
  (19, (.iload_n 2, 1), (0, 0, 0), []),
  (20, (.invokevirtual 54, 3), (169, 3, 6), []),
  (23, (.ifCond .eq 7, 3), (30, 0, 0), []),
  (26, (.iconst 1, 1), (0, 0, 0), []),
  (27, (.goto 4, 3), (31, 0, 0), []),
  (30, (.iconst 0, 1), (0, 0, 0), []),
  (31, (.invokevirtual 328, 3), (153, 2, 6), []),
  (34, (.goto 8, 3), (42, 0, 0), []),
  (37, (.aload_n 0, 1), (0, 0, 0), []),
  (38, (.iconst 2, 1), (0, 0, 0), []),
  (39, (.invokevirtual 319, 3), (151, 2, 6), []),
  (42, (.ireturn, 1), (0, 0, 0), [])]
def t_X6_isFull : List mT := [
  (0, (.aload_n 0, 1), (0, 0, 0), []),
  (1, (.iload_n 1, 1), (0, 0, 0), []),
  (2, (.invokevirtual 164, 3), (171, 2, 6), []),
  (5, (.ifCond .ne 5, 3), (10, 0, 0), []),
  (8, (.iconst 0, 1), (0, 0, 0), []),
  (9, (.ireturn, 1), (0, 0, 0), []),
  (10, (.iconst 0, 1), (0, 0, 0), []),
  (11, (.istore_n 2, 1), (0, 0, 0), []),
  (12, (.iload_n 2, 1), (0, 0, 0), []),
  (13, (.aload_n 0, 1), (0, 0, 0), []),
  (14, (.iconst 0, 1), (0, 0, 0), []),
  (15, (.invokevirtual 43, 3), (157, 2, 6), []),
  (18, (.if_icmp .ge 31, 3), (49, 0, 0), []),
  (21, (.iload_n 1, 1), (0, 0, 0), []),
  (22, (.iload_n 2, 1), (0, 0, 0), []),
  (23, (.invokestatic 58, 3), (155, 2, 99), []),
  (26, (.ifCond .ne 17, 3), (43, 0, 0), []),
  (29, (.aload_n 0, 1), (0, 0, 0), []),
  (30, (.iload_n 1, 1), (0, 0, 0), []),
  (31, (.iconst 1, 1), (0, 0, 0), []),
  (32, (.iload_n 2, 1), (0, 0, 0), []),
  (33, (.ishl, 1), (0, 0, 0), []),
  (34, (.ior, 1), (0, 0, 0), []),
  (35, (.invokevirtual 164, 3), (171, 2, 6), []),
  (38, (.ifCond .eq 5, 3), (43, 0, 0), []),
  (41, (.iconst 0, 1), (0, 0, 0), []),
  (42, (.ireturn, 1), (0, 0, 0), []),
  (43, (.iinc 2 1, 3), (0, 0, 0), []),
  (46, (.goto (-34), 3), (12, 0, 0), []),
  (49, (.iconst 1, 1), (0, 0, 0), []),
  (50, (.ireturn, 1), (0, 0, 0), [])]
def t_X6_queuesIn : List mT := [
  (0, (.iconst 0, 1), (0, 0, 0), []),
  (1, (.istore_n 2, 1), (0, 0, 0), []),
  (2, (.iconst 0, 1), (0, 0, 0), []),
  (3, (.istore_n 3, 1), (0, 0, 0), []),
  (4, (.iload_n 3, 1), (0, 0, 0), []),
  (5, (.aload_n 0, 1), (0, 0, 0), []),
  (6, (.iconst 0, 1), (0, 0, 0), []),
  (7, (.invokevirtual 43, 3), (157, 2, 6), []),
  (10, (.if_icmp .ge 31, 3), (41, 0, 0), []),
  (13, (.iload_n 2, 1), (0, 0, 0), []),
  (14, (.iload_n 1, 1), (0, 0, 0), []),
  (15, (.iload_n 3, 1), (0, 0, 0), []),
  (16, (.invokestatic 58, 3), (155, 2, 99), []),
  (19, (.ifCond .eq 13, 3), (32, 0, 0), []),
  (22, (.aload_n 0, 1), (0, 0, 0), []),
  (23, (.iload_n 3, 1), (0, 0, 0), []),
  (24, (.bipush 12, 2), (0, 0, 0), []),
  (26, (.invokevirtual 50, 3), (164, 3, 6), []),
  (29, (.goto 4, 3), (33, 0, 0), []),
  (32, (.iconst 0, 1), (0, 0, 0), []),
  (33, (.iadd, 1), (0, 0, 0), []),
  (34, (.istore_n 2, 1), (0, 0, 0), []),
  (35, (.iinc 3 1, 3), (0, 0, 0), []),
  (38, (.goto (-34), 3), (4, 0, 0), []),
  (41, (.iload_n 2, 1), (0, 0, 0), []),
  (42, (.ireturn, 1), (0, 0, 0), [])]
def t_X6_sets : List mT := [
  (0, (.iload_n 1, 1), (0, 0, 0), []),
  (1, (.iconst 0, 1), (0, 0, 0), []),
  (2, (.iconst 1, 1), (0, 0, 0), []),
  (3, (.invokestatic 272, 3), (154, 3, 99), []),
  (6, (.ifCond .ne 9, 3), (15, 0, 0), []),
  (9, (.aload_n 0, 1), (0, 0, 0), []),
  (10, (.iconst 1, 1), (0, 0, 0), []),
  (11, (.invokevirtual 319, 3), (151, 2, 6), []),
  (14, (.ireturn, 1), (0, 0, 0), []),
  (15, (.iconst 0, 1), (0, 0, 0), []),
  (16, (.istore_n 2, 1), (0, 0, 0), []),
  (17, (.iconst 0, 1), (0, 0, 0), []),
  (18, (.istore_n 3, 1), (0, 0, 0), []),
  (19, (.iconst 1, 1), (0, 0, 0), []),
  (20, (.istore 4, 2), (0, 0, 0), []),
  (22, (.iload 4, 2), (0, 0, 0), []),
  (24, (.iconst 1, 1), (0, 0, 0), []),
  (25, (.aload_n 0, 1), (0, 0, 0), []),
  (26, (.iconst 0, 1), (0, 0, 0), []),
  (27, (.invokevirtual 43, 3), (157, 2, 6), []),
  (30, (.ishl, 1), (0, 0, 0), []),
  (31, (.if_icmp .ge 49, 3), (80, 0, 0), []),
  (34, (.aload_n 0, 1), (0, 0, 0), []),
  (35, (.iload 4, 2), (0, 0, 0), []),
  (37, (.invokevirtual 363, 3), (259, 2, 6), []),
  (40, (.ifCond .ne 6, 3), (46, 0, 0), []),
  (43, (.goto 31, 3), (74, 0, 0), []),
  (46, (.iinc 2 1, 3), (0, 0, 0), []),
  (49, (.iload_n 3, 1), (0, 0, 0), []),
  (50, (.ifCond .eq 17, 3), (67, 0, 0), []),
  (53, (.aload_n 0, 1), (0, 0, 0), []),
  (54, (.iload 4, 2), (0, 0, 0), []),
  (56, (.invokevirtual 366, 3), (260, 2, 6), []),
  (59, (.aload_n 0, 1), (0, 0, 0), []),
  (60, (.iload_n 3, 1), (0, 0, 0), []),
  (61, (.invokevirtual 366, 3), (260, 2, 6), []),
  (64, (.if_icmp .le 8, 3), (72, 0, 0), []),
  (67, (.iload 4, 2), (0, 0, 0), []),
  (69, (.goto 4, 3), (73, 0, 0), []),
  (72, (.iload_n 3, 1), (0, 0, 0), []),
  (73, (.istore_n 3, 1), (0, 0, 0), []),
  (74, (.iinc 4 1, 3), (0, 0, 0), []),
  (77, (.goto (-55), 3), (22, 0, 0), []),
  (80, (.aload_n 0, 1), (0, 0, 0), []),
  (81, (.iload_n 1, 1), (0, 0, 0), []),
  (82, (.ifCond .ne 7, 3), (89, 0, 0), []),
  (85, (.iload_n 2, 1), (0, 0, 0), []),
  (86, (.goto 4, 3), (90, 0, 0), []),
  (89, (.iload_n 3, 1), (0, 0, 0), []),
  (90, (.invokevirtual 328, 3), (153, 2, 6), []),
  (93, (.ireturn, 1), (0, 0, 0), [])]
def t_X6_isGreenAt : List mT := [
  (0, (.aload_n 0, 1), (0, 0, 0), []),
  (1, (.aload_n 0, 1), (0, 0, 0), []),
  (2, (.iload_n 1, 1), (0, 0, 0), []),
  (3, (.iconst 0, 1), (0, 0, 0), []),
  (4, (.invokevirtual 50, 3), (164, 3, 6), []),
  (7, (.invokevirtual 137, 3), (180, 2, 6), []),
  (10, (.ifCond .eq 22, 3), (32, 0, 0), []),
  (13, (.aload_n 0, 1), (0, 0, 0), []),
  (14, (.aload_n 0, 1), (0, 0, 0), []),
  (15, (.iload_n 1, 1), (0, 0, 0), []),
  (16, (.iconst 0, 1), (0, 0, 0), []),
  (17, (.invokevirtual 50, 3), (164, 3, 6), []),
  (20, (.iconst 0, 1), (0, 0, 0), []),
  (21, (.invokevirtual 89, 3), (162, 3, 6), []),
  (24, (.iload_n 1, 1), (0, 0, 0), []),
  (25, (.if_icmp .ne 7, 3), (32, 0, 0), []),
  (28, (.iconst 1, 1), (0, 0, 0), []),
  (29, (.goto 4, 3), (33, 0, 0), []),
  (32, (.iconst 0, 1), (0, 0, 0), []),
  (33, (.ireturn, 1), (0, 0, 0), [])]
def t_X6_isReached : List mT := [
  (0, (.iload_n 1, 1), (0, 0, 0), []),
  (1, (.tableswitch 68 0 3 #[31, 31, 37, 50], 31), (69, 0, 0), [(0, 32), (1, 32), (2, 38), (3, 51)]),
  (32, (.aload_n 0, 1), (0, 0, 0), []),
  (33, (.iload_n 2, 1), (0, 0, 0), []),
  (34, (.invokevirtual 369, 3), (262, 2, 6), []),
  (37, (.ireturn, 1), (0, 0, 0), []),
  (38, (.aload_n 0, 1), (0, 0, 0), []),
  (39, (.invokevirtual 194, 3), (199, 1, 6), []),
  (42, (.ifCond .ne 7, 3), (49, 0, 0), []),
  (45, (.iconst 1, 1), (0, 0, 0), []),
  (46, (.goto 4, 3), (50, 0, 0), []),
  (49, (.iconst 0, 1), (0, 0, 0), []),
  (50, (.ireturn, 1), (0, 0, 0), []),
  (51, (.aload_n 0, 1), (0, 0, 0), []),
  (52, (.invokevirtual 127, 3), (187, 1, 6), []),
  (55, (.aload_n 0, 1), (0, 0, 0), []),
  (56, (.iconst 4, 1), (0, 0, 0), []),
  (57, (.invokevirtual 43, 3), (157, 2, 6), []),
  (60, (.if_icmp .ne 7, 3), (67, 0, 0), []),
  (63, (.iconst 1, 1), (0, 0, 0), []),
  (64, (.goto 4, 3), (68, 0, 0), []),
  (67, (.iconst 0, 1), (0, 0, 0), []),
  (68, (.ireturn, 1), (0, 0, 0), []),
  (69, (.aload_n 0, 1), (0, 0, 0), []),
  (70, (.bipush 7, 2), (0, 0, 0), []),
  (72, (.invokevirtual 43, 3), (157, 2, 6), []),
  (75, (.iload_n 2, 1), (0, 0, 0), []),
  (76, (.if_icmp .ne 27, 3), (103, 0, 0), []),
  (79, (.aload_n 0, 1), (0, 0, 0), []),
  (80, (.bipush 8, 2), (0, 0, 0), []),
  (82, (.invokevirtual 43, 3), (157, 2, 6), []),
  (85, (.iconst 2, 1), (0, 0, 0), []),
  (86, (.if_icmp .eq 13, 3), (99, 0, 0), []),
  (89, (.aload_n 0, 1), (0, 0, 0), []),
  (90, (.bipush 8, 2), (0, 0, 0), []),
  (92, (.invokevirtual 43, 3), (157, 2, 6), []),
  (95, (.iconst 4, 1), (0, 0, 0), []),
  (96, (.if_icmp .ne 7, 3), (103, 0, 0), []),
  (99, (.iconst 1, 1), (0, 0, 0), []),
  (100, (.goto 4, 3), (104, 0, 0), []),
  (103, (.iconst 0, 1), (0, 0, 0), []),
  (104, (.ireturn, 1), (0, 0, 0), [])]
def t_X6_callsOthers : List mT := [
  (0, (.iconst 0, 1), (0, 0, 0), []),
  (1, (.istore_n 2, 1), (0, 0, 0), []),
  (2, (.iload_n 2, 1), (0, 0, 0), []),
  (3, (.aload_n 0, 1), (0, 0, 0), []),
  (4, (.iconst 0, 1), (0, 0, 0), []),
  (5, (.invokevirtual 43, 3), (157, 2, 6), []),
  (8, (.if_icmp .ge 27, 3), (35, 0, 0), []),
  (11, (.iload_n 2, 1), (0, 0, 0), []),
  (12, (.iload_n 1, 1), (0, 0, 0), []),
  (13, (.if_icmp .eq 16, 3), (29, 0, 0), []),
  (16, (.aload_n 0, 1), (0, 0, 0), []),
  (17, (.iconst 5, 1), (0, 0, 0), []),
  (18, (.invokevirtual 43, 3), (157, 2, 6), []),
  (21, (.ifCond .ne 8, 3), (29, 0, 0), []),
  (24, (.aload_n 0, 1), (0, 0, 0), []),
  (25, (.iload_n 2, 1), (0, 0, 0), []),
  (26, (.invokevirtual 349, 3), (244, 2, 6), []),
  (29, (.iinc 2 1, 3), (0, 0, 0), []),
  (32, (.goto (-30), 3), (2, 0, 0), []),
  (35, (.return_, 1), (0, 0, 0), [])]
def t_X6_reaches : List mT := [
  (0, (.aload_n 0, 1), (0, 0, 0), []),
  (1, (.iconst 0, 1), (0, 0, 0), []),
  (2, (.sipush 288, 3), (0, 0, 0), []),
  (5, (.invokevirtual 322, 3), (160, 3, 6), []),
  (8, (.iload_n 1, 1), (0, 0, 0), []),
  (9, (.iconst 1, 1), (0, 0, 0), []),
  (10, (.if_icmp .ne 16, 3), (26, 0, 0), []),
  (13, (.aload_n 0, 1), (0, 0, 0), []),
  (14, (.iconst 5, 1), (0, 0, 0), []),
  (15, (.invokevirtual 43, 3), (157, 2, 6), []),
  (18, (.ifCond .ne 8, 3), (26, 0, 0), []),
  (21, (.aload_n 0, 1), (0, 0, 0), []),
  (22, (.iload_n 2, 1), (0, 0, 0), []),
  (23, (.invokevirtual 349, 3), (244, 2, 6), []),
  (26, (.iload_n 1, 1), (0, 0, 0), []),
  (27, (.iconst 4, 1), (0, 0, 0), []),
  (28, (.if_icmp .ne 19, 3), (47, 0, 0), []),
  (31, (.aload_n 0, 1), (0, 0, 0), []),
  (32, (.bipush 10, 2), (0, 0, 0), []),
  (34, (.aload_n 0, 1), (0, 0, 0), []),
  (35, (.bipush 10, 2), (0, 0, 0), []),
  (37, (.invokevirtual 43, 3), (157, 2, 6), []),
  (40, (.iconst 1, 1), (0, 0, 0), []),
  (41, (.iload_n 2, 1), (0, 0, 0), []),
  (42, (.ishl, 1), (0, 0, 0), []),
  (43, (.ior, 1), (0, 0, 0), []),
  (44, (.invokevirtual 46, 3), (158, 3, 6), []),
  (47, (.iconst 0, 1), (0, 0, 0), []),
  (48, (.istore_n 3, 1), (0, 0, 0), []),
  (49, (.iload_n 3, 1), (0, 0, 0), []),
  (50, (.sipush 600, 3), (0, 0, 0), []),
  (53, (.if_icmp .ge 33, 3), (86, 0, 0), []),
  (56, (.aload_n 0, 1), (0, 0, 0), []),
  (57, (.iload_n 1, 1), (0, 0, 0), []),
  (58, (.iload_n 2, 1), (0, 0, 0), []),
  (59, (.invokevirtual 372, 3), (263, 3, 6), []),
  (62, (.ifCond .ne 24, 3), (86, 0, 0), []),
  (65, (.iload_n 1, 1), (0, 0, 0), []),
  (66, (.iconst 1, 1), (0, 0, 0), []),
  (67, (.if_icmp .ne 8, 3), (75, 0, 0), []),
  (70, (.aload_n 0, 1), (0, 0, 0), []),
  (71, (.iload_n 2, 1), (0, 0, 0), []),
  (72, (.invokevirtual 375, 3), (264, 2, 6), []),
  (75, (.aload_n 0, 1), (0, 0, 0), []),
  (76, (.iconst 0, 1), (0, 0, 0), []),
  (77, (.invokevirtual 359, 3), (200, 2, 6), []),
  (80, (.iinc 3 1, 3), (0, 0, 0), []),
  (83, (.goto (-34), 3), (49, 0, 0), []),
  (86, (.aload_n 0, 1), (0, 0, 0), []),
  (87, (.iload_n 1, 1), (0, 0, 0), []),
  (88, (.iload_n 2, 1), (0, 0, 0), []),
  (89, (.invokevirtual 372, 3), (263, 3, 6), []),
  (92, (.istore 4, 2), (0, 0, 0), []),
  (94, (.aload_n 0, 1), (0, 0, 0), []),
  (95, (.sipush 288, 3), (0, 0, 0), []),
  (98, (.iconst 0, 1), (0, 0, 0), []),
  (99, (.invokevirtual 322, 3), (160, 3, 6), []),
  (102, (.iload 4, 2), (0, 0, 0), []),
  (104, (.ifCond .eq 11, 3), (115, 0, 0), []),
  (107, (.aload_n 0, 1), (0, 0, 0), []),
  (108, (.iload_n 3, 1), (0, 0, 0), []),
  (109, (.invokevirtual 328, 3), (153, 2, 6), []),
  (112, (.goto 9, 3), (121, 0, 0), []),
  (115, (.aload_n 0, 1), (0, 0, 0), []),
  (116, (.bipush 6, 2), (0, 0, 0), []),
  (118, (.invokevirtual 319, 3), (151, 2, 6), []),
  (121, (.ireturn, 1), (0, 0, 0), [])]
def t_X6_when : List mT := [
  (0, (.aload_n 0, 1), (0, 0, 0), []),
  (1, (.iload_n 1, 1), (0, 0, 0), []),
  (2, (.invokevirtual 334, 3), (167, 2, 6), []),
  (5, (.ifCond .eq 12, 3), (17, 0, 0), []),
  (8, (.aload_n 0, 1), (0, 0, 0), []),
  (9, (.iconst 0, 1), (0, 0, 0), []),
  (10, (.iload_n 1, 1), (0, 0, 0), []),
  (11, (.invokevirtual 378, 3), (265, 3, 6), []),
  (14, (.goto 8, 3), (22, 0, 0), []),
  (17, (.aload_n 0, 1), (0, 0, 0), []),
  (18, (.iconst 2, 1), (0, 0, 0), []),
  (19, (.invokevirtual 319, 3), (151, 2, 6), []),
  (22, (.ireturn, 1), (0, 0, 0), [])]
def t_X6_worst : List mT := [
  (0, (.aload_n 0, 1), (0, 0, 0), []),
  (1, (.iload_n 1, 1), (0, 0, 0), []),
  (2, (.invokevirtual 334, 3), (167, 2, 6), []),
  (5, (.ifCond .eq 12, 3), (17, 0, 0), []),
  (8, (.aload_n 0, 1), (0, 0, 0), []),
  (9, (.iconst 1, 1), (0, 0, 0), []),
  (10, (.iload_n 1, 1), (0, 0, 0), []),
  (11, (.invokevirtual 378, 3), (265, 3, 6), []),
  (14, (.goto 8, 3), (22, 0, 0), []),
  (17, (.aload_n 0, 1), (0, 0, 0), []),
  (18, (.iconst 2, 1), (0, 0, 0), []),
  (19, (.invokevirtual 319, 3), (151, 2, 6), []),
  (22, (.ireturn, 1), (0, 0, 0), [])]
def t_X6_cleared : List mT := [
  (0, (.aload_n 0, 1), (0, 0, 0), []),
  (1, (.iconst 2, 1), (0, 0, 0), []),
  (2, (.iconst (-1), 1), (0, 0, 0), []),
  (3, (.invokevirtual 378, 3), (265, 3, 6), []),
  (6, (.ireturn, 1), (0, 0, 0), [])]
def t_X6_instep : List mT := [
  (0, (.aload_n 0, 1), (0, 0, 0), []),
  (1, (.iconst 2, 1), (0, 0, 0), []),
  (2, (.invokevirtual 43, 3), (157, 2, 6), []),
  (5, (.ifCond .ne 11, 3), (16, 0, 0), []),
  (8, (.aload_n 0, 1), (0, 0, 0), []),
  (9, (.iconst 5, 1), (0, 0, 0), []),
  (10, (.invokevirtual 319, 3), (151, 2, 6), []),
  (13, (.goto 9, 3), (22, 0, 0), []),
  (16, (.aload_n 0, 1), (0, 0, 0), []),
  (17, (.iconst 3, 1), (0, 0, 0), []),
  (18, (.iconst (-1), 1), (0, 0, 0), []),
  (19, (.invokevirtual 378, 3), (265, 3, 6), []),
  (22, (.ireturn, 1), (0, 0, 0), [])]
def t_X6_broken : List mT := [
  (0, (.iload_n 1, 1), (0, 0, 0), []),
  (1, (.iconst 0, 1), (0, 0, 0), []),
  (2, (.iconst 1, 1), (0, 0, 0), []),
  (3, (.invokestatic 272, 3), (154, 3, 99), []),
  (6, (.ifCond .eq 12, 3), (18, 0, 0), []),
  (9, (.aload_n 0, 1), (0, 0, 0), []),
  (10, (.iconst 4, 1), (0, 0, 0), []),
  (11, (.iload_n 1, 1), (0, 0, 0), []),
  (12, (.invokevirtual 378, 3), (265, 3, 6), []),
  (15, (.goto 8, 3), (23, 0, 0), []),
  (18, (.aload_n 0, 1), (0, 0, 0), []),
  (19, (.iconst 2, 1), (0, 0, 0), []),
  (20, (.invokevirtual 319, 3), (151, 2, 6), []),
  (23, (.ireturn, 1), (0, 0, 0), [])]
def t_X6_waitsIn : List mT := [
  (0, (.aload_n 0, 1), (0, 0, 0), []),
  (1, (.bipush 11, 2), (0, 0, 0), []),
  (3, (.invokevirtual 43, 3), (157, 2, 6), []),
  (6, (.istore_n 2, 1), (0, 0, 0), []),
  (7, (.aload_n 0, 1), (0, 0, 0), []),
  (8, (.iconst 0, 1), (0, 0, 0), []),
  (9, (.putfield 131, 3), (6, 4, 0), []),
  (12, (.iconst 0, 1), (0, 0, 0), []),
  (13, (.istore_n 3, 1), (0, 0, 0), []),
  (14, (.iload_n 3, 1), (0, 0, 0), []),
  (15, (.iload_n 1, 1), (0, 0, 0), []),
  (16, (.if_icmp .ge 14, 3), (30, 0, 0), []),
  (19, (.aload_n 0, 1), (0, 0, 0), []),
  (20, (.iconst 0, 1), (0, 0, 0), []),
  (21, (.invokevirtual 359, 3), (200, 2, 6), []),
  (24, (.iinc 3 1, 3), (0, 0, 0), []),
  (27, (.goto (-13), 3), (14, 0, 0), []),
  (30, (.aload_n 0, 1), (0, 0, 0), []),
  (31, (.bipush 11, 2), (0, 0, 0), []),
  (33, (.invokevirtual 43, 3), (157, 2, 6), []),
  (36, (.iload_n 2, 1), (0, 0, 0), []),
  (37, (.isub, 1), (0, 0, 0), []),
  (38, (.istore_n 3, 1), (0, 0, 0), []),
  (39, (.aload_n 0, 1), (0, 0, 0), []),
  (40, (.sipush 288, 3), (0, 0, 0), []),
  (43, (.iconst 0, 1), (0, 0, 0), []),
  (44, (.invokevirtual 322, 3), (160, 3, 6), []),
  (47, (.iload_n 3, 1), (0, 0, 0), []),
  (48, (.ireturn, 1), (0, 0, 0), [])]
def t_X6_paper : List mT := [
  (0, (.iload_n 1, 1), (0, 0, 0), []),
  (1, (.iconst 1, 1), (0, 0, 0), []),
  (2, (.sipush 300, 3), (0, 0, 0), []),
  (5, (.invokestatic 272, 3), (154, 3, 99), []),
  (8, (.ifCond .eq 12, 3), (20, 0, 0), []),
  (11, (.iload_n 2, 1), (0, 0, 0), []),
  (12, (.iconst 0, 1), (0, 0, 0), []),
  (13, (.iconst 1, 1), (0, 0, 0), []),
  (14, (.invokestatic 272, 3), (154, 3, 99), []),
  (17, (.ifCond .ne 9, 3), (26, 0, 0), []),
  (20, (.aload_n 0, 1), (0, 0, 0), []),
  (21, (.iconst 1, 1), (0, 0, 0), []),
  (22, (.invokevirtual 319, 3), (151, 2, 6), []),
  (25, (.ireturn, 1), (0, 0, 0), []),
  (26, (.aload_n 0, 1), (0, 0, 0), []),
  (27, (.iconst 0, 1), (0, 0, 0), []),
  (28, (.sipush 288, 3), (0, 0, 0), []),
  (31, (.invokevirtual 322, 3), (160, 3, 6), []),
  (34, (.aload_n 0, 1), (0, 0, 0), []),
  (35, (.iload_n 1, 1), (0, 0, 0), []),
  (36, (.invokevirtual 381, 3), (271, 2, 6), []),
  (39, (.istore_n 3, 1), (0, 0, 0), []),
  (40, (.aload_n 0, 1), (0, 0, 0), []),
  (41, (.iload_n 2, 1), (0, 0, 0), []),
  (42, (.ifCond .ne 10, 3), (52, 0, 0), []),
  (45, (.aload_n 0, 1), (0, 0, 0), []),
  (46, (.getfield 131, 3), (6, 4, 0), []),
  (49, (.goto 4, 3), (53, 0, 0), []),
  (52, (.iload_n 3, 1), (0, 0, 0), []),
  (53, (.invokevirtual 328, 3), (153, 2, 6), []),
  (56, (.ireturn, 1), (0, 0, 0), [])]
def t_X6_bestMax : List mT := [
  (0, (.iload_n 2, 1), (0, 0, 0), []),
  (1, (.iconst 1, 1), (0, 0, 0), []),
  (2, (.bipush 100, 2), (0, 0, 0), []),
  (4, (.invokestatic 272, 3), (154, 3, 99), []),
  (7, (.ifCond .ne 9, 3), (16, 0, 0), []),
  (10, (.aload_n 0, 1), (0, 0, 0), []),
  (11, (.iconst 1, 1), (0, 0, 0), []),
  (12, (.invokevirtual 319, 3), (151, 2, 6), []),
  (15, (.ireturn, 1), (0, 0, 0), []),
  (16, (.aload_n 0, 1), (0, 0, 0), []),
  (17, (.iload_n 1, 1), (0, 0, 0), []),
  (18, (.invokevirtual 334, 3), (167, 2, 6), []),
  (21, (.ifCond .ne 9, 3), (30, 0, 0), []),
  (24, (.aload_n 0, 1), (0, 0, 0), []),
  (25, (.iconst 2, 1), (0, 0, 0), []),
  (26, (.invokevirtual 319, 3), (151, 2, 6), []),
  (29, (.ireturn, 1), (0, 0, 0), []),
  (30, (.iconst (-1), 1), (0, 0, 0), []),
  (31, (.istore_n 3, 1), (0, 0, 0), []),
  (32, (.iconst 0, 1), (0, 0, 0), []),
  (33, (.istore 4, 2), (0, 0, 0), []),
  (35, (.aload_n 0, 1), (0, 0, 0), []),
  (36, (.iconst 0, 1), (0, 0, 0), []),
  (37, (.sipush 288, 3), (0, 0, 0), []),
  (40, (.invokevirtual 322, 3), (160, 3, 6), []),
  (43, (.iconst 1, 1), (0, 0, 0), []),
  (44, (.istore 5, 2), (0, 0, 0), []),
  (46, (.iload 5, 2), (0, 1, 6), []),
  (48, (.bipush 60, 2), (0, 0, 0), []),
  (50, (.if_icmp .gt 46, 3), (96, 0, 0), []),
  (53, (.aload_n 0, 1), (0, 0, 0), []),
  (54, (.iload_n 1, 1), (0, 0, 0), []),
  (55, (.iconst 4, 1), (0, 0, 0), []),
  (56, (.iload 5, 2), (0, 0, 0), []),
  (58, (.invokevirtual 95, 3), (165, 4, 6), []),
  (61, (.aload_n 0, 1), (0, 0, 0), []),
  (62, (.iload_n 2, 1), (0, 0, 0), []),
  (63, (.invokevirtual 381, 3), (271, 2, 6), []),
  (66, (.istore 6, 2), (0, 0, 0), []),
  (68, (.iload_n 3, 1), (0, 0, 0), []),
  (69, (.iconst (-1), 1), (0, 0, 0), []),
  (70, (.if_icmp .eq 13, 3), (83, 0, 0), []),
  (73, (.iload 6, 2), (0, 0, 0), []),
  (75, (.iload 4, 2), (0, 0, 0), []),
  (77, (.if_icmp .lt 6, 3), (83, 0, 0), []),
  (80, (.goto 10, 3), (90, 0, 0), []),
  (83, (.iload 5, 2), (0, 0, 0), []),
  (85, (.istore_n 3, 1), (0, 0, 0), []),
  (86, (.iload 6, 2), (0, 0, 0), []),
  (88, (.istore 4, 2), (0, 0, 0), []),
  (90, (.iinc 5 1, 3), (0, 0, 0), []),
  (93, (.goto (-47), 3), (46, 0, 0), []),
  (96, (.aload_n 0, 1), (0, 0, 0), []),
  (97, (.iload_n 3, 1), (0, 0, 0), []),
  (98, (.invokevirtual 328, 3), (153, 2, 6), []),
  (101, (.ireturn, 1), (0, 0, 0), [])]
def t_X6_cheapest : List mT := [
  (0, (.iload_n 1, 1), (0, 0, 0), []),
  (1, (.iconst 1, 1), (0, 0, 0), []),
  (2, (.bipush 100, 2), (0, 0, 0), []),
  (4, (.invokestatic 272, 3), (154, 3, 99), []),
  (7, (.ifCond .ne 9, 3), (16, 0, 0), []),
  (10, (.aload_n 0, 1), (0, 0, 0), []),
  (11, (.iconst 1, 1), (0, 0, 0), []),
  (12, (.invokevirtual 319, 3), (151, 2, 6), []),
  (15, (.ireturn, 1), (0, 0, 0), []),
  (16, (.iconst (-1), 1), (0, 0, 0), []),
  (17, (.istore_n 2, 1), (0, 0, 0), []),
  (18, (.iconst 0, 1), (0, 0, 0), []),
  (19, (.istore_n 3, 1), (0, 0, 0), []),
  (20, (.aload_n 0, 1), (0, 0, 0), []),
  (21, (.iconst 0, 1), (0, 0, 0), []),
  (22, (.sipush 288, 3), (0, 0, 0), []),
  (25, (.invokevirtual 322, 3), (160, 3, 6), []),
  (28, (.iconst 0, 1), (0, 0, 0), []),
  (29, (.istore 4, 2), (0, 0, 0), []),
  (31, (.iload 4, 2), (0, 1, 5), []),
  (33, (.aload_n 0, 1), (0, 0, 0), []),
  (34, (.iconst 0, 1), (0, 0, 0), []),
  (35, (.invokevirtual 43, 3), (157, 2, 6), []),
  (38, (.if_icmp .ge 55, 3), (93, 0, 0), []),
  (41, (.aload_n 0, 1), (0, 0, 0), []),
  (42, (.iload 4, 2), (0, 0, 0), []),
  (44, (.bipush 12, 2), (0, 0, 0), []),
  (46, (.aload_n 0, 1), (0, 0, 0), []),
  (47, (.iload 4, 2), (0, 0, 0), []),
  (49, (.bipush 12, 2), (0, 0, 0), []),
  (51, (.invokevirtual 50, 3), (164, 3, 6), []),
  (54, (.bipush 10, 2), (0, 0, 0), []),
  (56, (.iadd, 1), (0, 0, 0), []),
  (57, (.invokevirtual 95, 3), (165, 4, 6), []),
  (60, (.aload_n 0, 1), (0, 0, 0), []),
  (61, (.iload_n 1, 1), (0, 0, 0), []),
  (62, (.invokevirtual 381, 3), (271, 2, 6), []),
  (65, (.istore 5, 2), (0, 0, 0), []),
  (67, (.iload_n 2, 1), (0, 0, 0), []),
  (68, (.iconst (-1), 1), (0, 0, 0), []),
  (69, (.if_icmp .eq 12, 3), (81, 0, 0), []),
  (72, (.iload 5, 2), (0, 0, 0), []),
  (74, (.iload_n 3, 1), (0, 0, 0), []),
  (75, (.if_icmp .lt 6, 3), (81, 0, 0), []),
  (78, (.goto 9, 3), (87, 0, 0), []),
  (81, (.iload 4, 2), (0, 0, 0), []),
  (83, (.istore_n 2, 1), (0, 0, 0), []),
  (84, (.iload 5, 2), (0, 0, 0), []),
  (86, (.istore_n 3, 1), (0, 0, 0), []),
  (87, (.iinc 4 1, 3), (0, 0, 0), []),
  (90, (.goto (-59), 3), (31, 0, 0), []),
  (93, (.iload_n 2, 1), (0, 0, 0), []),
  (94, (.iconst (-1), 1), (0, 0, 0), []),
  (95, (.if_icmp .ne 11, 3), (106, 0, 0), []),
  (98, (.aload_n 0, 1), (0, 0, 0), []),
  (99, (.iconst 5, 1), (0, 0, 0), []),
  (100, (.invokevirtual 319, 3), (151, 2, 6), []),
  (103, (.goto 8, 3), (111, 0, 0), []),
  (106, (.aload_n 0, 1), (0, 0, 0), []),
  (107, (.iload_n 2, 1), (0, 0, 0), []),
  (108, (.invokevirtual 328, 3), (153, 2, 6), []),
  (111, (.ireturn, 1), (0, 0, 0), [])]
def t_J9_floorMod_7cf53 : List mT := [
  (0, (.iload_n 0, 1), (0, 0, 0), []),
  (1, (.iload_n 1, 1), (0, 0, 0), []),
  (2, (.irem, 1), (0, 0, 0), []),
  (3, (.istore_n 2, 1), (0, 0, 0), []),
  (4, (.iload_n 0, 1), (0, 0, 0), []),
  (5, (.iload_n 1, 1), (0, 0, 0), []),
  (6, (.ixor, 1), (0, 0, 0), []),
  (7, (.ifCond .ge 11, 3), (18, 0, 0), []),
  (10, (.iload_n 2, 1), (0, 0, 0), []),
  (11, (.ifCond .eq 7, 3), (18, 0, 0), []),
  (14, (.iload_n 2, 1), (0, 0, 0), []),
  (15, (.iload_n 1, 1), (0, 0, 0), []),
  (16, (.iadd, 1), (0, 0, 0), []),
  (17, (.ireturn, 1), (0, 0, 0), []),
  (18, (.iload_n 2, 1), (0, 0, 0), []),
  (19, (.ireturn, 1), (0, 0, 0), [])]
def t_J9_max_7cf53 : List mT := [
  (0, (.iload_n 0, 1), (0, 0, 0), []),
  (1, (.iload_n 1, 1), (0, 0, 0), []),
  (2, (.if_icmp .lt 7, 3), (9, 0, 0), []),
  (5, (.iload_n 0, 1), (0, 0, 0), []),
  (6, (.goto 4, 3), (10, 0, 0), []),
  (9, (.iload_n 1, 1), (0, 0, 0), []),
  (10, (.ireturn, 1), (0, 0, 0), [])]
def t_J9_min_7cf53 : List mT := [
  (0, (.iload_n 0, 1), (0, 0, 0), []),
  (1, (.iload_n 1, 1), (0, 0, 0), []),
  (2, (.if_icmp .gt 7, 3), (9, 0, 0), []),
  (5, (.iload_n 0, 1), (0, 0, 0), []),
  (6, (.goto 4, 3), (10, 0, 0), []),
  (9, (.iload_n 1, 1), (0, 0, 0), []),
  (10, (.ireturn, 1), (0, 0, 0), [])]
def t_J0_length_8abf5 : List mT := [
  (0, (.aload_n 0, 1), (0, 0, 0), []),
  (1, (.getfield 9, 3), (7, 0, 0), []),
  (4, (.arraylength, 1), (0, 0, 0), []),
  (5, (.aload_n 0, 1), (0, 0, 0), []),
  (6, (.invokevirtual 335, 3), (280, 1, 7), []),
  (9, (.ishr, 1), (0, 0, 0), []),
  (10, (.ireturn, 1), (0, 0, 0), [])]
def t_J0_charAt_5068e : List mT := [
  (0, (.aload_n 0, 1), (0, 0, 0), []),
  (1, (.invokevirtual 492, 3), (281, 1, 7), []),
  (4, (.ifCond .eq 12, 3), (16, 0, 0), []),
  (7, (.aload_n 0, 1), (0, 0, 0), []),
  (8, (.getfield 9, 3), (7, 0, 0), []),
  (11, (.iload_n 1, 1), (0, 0, 0), []),
  (12, (.invokestatic 495, 3), (283, 2, 99), []),
  (15, (.ireturn, 1), (0, 0, 0), []),
  (16, (.aload_n 0, 1), (0, 0, 0), []),
  (17, (.getfield 9, 3), (7, 0, 0), []),
  (20, (.iload_n 1, 1), (0, 0, 0), []),
  (21, (.invokestatic 498, 3), (998, 0, 0), []),
  (24, (.ireturn, 1), (0, 0, 0), [])]
def t_J0_coder_7d493 : List mT := [
  (0, (.getstatic 38, 3), (1, 0, 0), []),
  (3, (.ifCond .eq 10, 3), (13, 0, 0), []),
  (6, (.aload_n 0, 1), (0, 0, 0), []),
  (7, (.getfield 15, 3), (7, 1, 0), []),
  (10, (.goto 4, 3), (14, 0, 0), []),
  (13, (.iconst 1, 1), (0, 0, 0), []),
  (14, (.ireturn, 1), (0, 0, 0), [])]
def t_J0_isLatin1_aae02 : List mT := [
  (0, (.getstatic 38, 3), (1, 0, 0), []),
  (3, (.ifCond .eq 14, 3), (17, 0, 0), []),
  (6, (.aload_n 0, 1), (0, 0, 0), []),
  (7, (.getfield 15, 3), (7, 1, 0), []),
  (10, (.ifCond .ne 7, 3), (17, 0, 0), []),
  (13, (.iconst 1, 1), (0, 0, 0), []),
  (14, (.goto 4, 3), (18, 0, 0), []),
  (17, (.iconst 0, 1), (0, 0, 0), []),
  (18, (.ireturn, 1), (0, 0, 0), [])]
def t_J0_checkIndex_df160 : List mT := [
  (0, (.iload_n 0, 1), (0, 0, 0), []),
  (1, (.iload_n 1, 1), (0, 0, 0), []),
  (2, (.getstatic 1053, 3), (2, 0, 0), []),
  (5, (.invokestatic 1059, 3), (284, 3, 99), []),
  (8, (.pop, 1), (0, 0, 0), []),
  (9, (.return_, 1), (0, 0, 0), [])]
def t_J1_charAt_3b067 : List mT := [
  (0, (.iload_n 1, 1), (0, 0, 0), []),
  (1, (.aload_n 0, 1), (0, 0, 0), []),
  (2, (.arraylength, 1), (0, 0, 0), []),
  (3, (.invokestatic 9, 3), (282, 2, 99), []),
  (6, (.aload_n 0, 1), (0, 0, 0), []),
  (7, (.iload_n 1, 1), (0, 0, 0), []),
  (8, (.baload, 1), (0, 0, 0), []),
  (9, (.sipush 255, 3), (0, 0, 0), []),
  (12, (.iand, 1), (0, 0, 0), []),
  (13, (.i2c, 1), (0, 0, 0), []),
  (14, (.ireturn, 1), (0, 0, 0), [])]
def t_J3_checkIndex_8e157 : List mT := [
  (0, (.iload_n 0, 1), (0, 0, 0), []),
  (1, (.ifCond .lt 8, 3), (9, 0, 0), []),
  (4, (.iload_n 0, 1), (0, 0, 0), []),
  (5, (.iload_n 1, 1), (0, 0, 0), []),
  (6, (.if_icmp .lt 10, 3), (16, 0, 0), []),
  (9, (.aload_n 2, 1), (0, 0, 0), []),
  (10, (.iload_n 0, 1), (0, 0, 0), []),
  (11, (.iload_n 1, 1), (0, 0, 0), []),
  (12, (.invokestatic 95, 3), (998, 0, 0), []),
  (15, (.athrow, 1), (0, 0, 0), []),
  (16, (.iload_n 0, 1), (0, 0, 0), []),
  (17, (.ireturn, 1), (0, 0, 0), [])]
def t_L_law : List mT := [
  (16, (.iconst 0, 1), (0, 0, 0), []),
  (17, (.istore_n 3, 1), (0, 0, 0), []),
  (18, (.iload_n 3, 1), (0, 0, 0), []),
  (19, (.aload_n 0, 1), (0, 0, 0), []),
  (20, (.arraylength, 1), (0, 0, 0), []),
  (21, (.bipush 7, 2), (0, 0, 0), []),
  (23, (.isub, 1), (0, 0, 0), []),
  (24, (.if_icmp .gt 1162, 3), (1186, 0, 0), []),
  (27, (.aload_n 0, 1), (0, 0, 0), []),
  (28, (.iload_n 3, 1), (0, 0, 0), []),
  (29, (.iaload, 1), (0, 0, 0), []),
  (30, (.bipush 63, 2), (0, 0, 0), []),
  (32, (.iand, 1), (0, 0, 0), []),
  (33, (.tableswitch 1147 0 33 #[151, 164, 227, 250, 273, 296, 329, 362, 395, 428, 451, 484, 527, 560, 609, 642, 665, 688, 763, 812, 825, 848, 881, 894, 907, 940, 963, 986, 1009, 1022, 1035, 1058, 1091, 1124], 151), (1180, 0, 0), [(0, 184), (1, 197), (2, 260), (3, 283), (4, 306), (5, 329), (6, 362), (7, 395), (8, 428), (9, 461), (10, 484), (11, 517), (12, 560), (13, 593), (14, 642), (15, 675), (16, 698), (17, 721), (18, 796), (19, 845), (20, 858), (21, 881), (22, 914), (23, 927), (24, 940), (25, 973), (26, 996), (27, 1019), (28, 1042), (29, 1055), (30, 1068), (31, 1091), (32, 1124), (33, 1157)]),
  (184, (.aload_n 1, 1), (0, 0, 0), []),
  (185, (.invokevirtual 13, 3), (96, 1, 5), []),
  (188, (.aload_n 2, 1), (0, 0, 0), []),
  (189, (.invokevirtual 17, 3), (150, 1, 6), []),
  (192, (.if_icmp .eq 988, 3), (1180, 0, 0), []),
  (195, (.iconst 0, 1), (0, 0, 0), []),
  (196, (.ireturn, 1), (0, 0, 0), []),
  (197, (.aload_n 1, 1), (0, 0, 0), []),
  (198, (.aload_n 0, 1), (0, 0, 0), []),
  (199, (.iload_n 3, 1), (0, 0, 0), []),
  (200, (.iconst 1, 1), (0, 0, 0), []),
  (201, (.iadd, 1), (0, 0, 0), []),
  (202, (.iaload, 1), (0, 0, 0), []),
  (203, (.aload_n 0, 1), (0, 0, 0), []),
  (204, (.iload_n 3, 1), (0, 0, 0), []),
  (205, (.iconst 2, 1), (0, 0, 0), []),
  (206, (.iadd, 1), (0, 0, 0), []),
  (207, (.iaload, 1), (0, 0, 0), []),
  (208, (.aload_n 0, 1), (0, 0, 0), []),
  (209, (.iload_n 3, 1), (0, 0, 0), []),
  (210, (.iconst 3, 1), (0, 0, 0), []),
  (211, (.iadd, 1), (0, 0, 0), []),
  (212, (.iaload, 1), (0, 0, 0), []),
  (213, (.aload_n 0, 1), (0, 0, 0), []),
  (214, (.iload_n 3, 1), (0, 0, 0), []),
  (215, (.iconst 4, 1), (0, 0, 0), []),
  (216, (.iadd, 1), (0, 0, 0), []),
  (217, (.iaload, 1), (0, 0, 0), []),
  (218, (.aload_n 0, 1), (0, 0, 0), []),
  (219, (.iload_n 3, 1), (0, 0, 0), []),
  (220, (.iconst 5, 1), (0, 0, 0), []),
  (221, (.iadd, 1), (0, 0, 0), []),
  (222, (.iaload, 1), (0, 0, 0), []),
  (223, (.invokevirtual 18, 3), (97, 6, 5), []),
  (226, (.aload_n 2, 1), (0, 0, 0), []),
  (227, (.aload_n 0, 1), (0, 0, 0), []),
  (228, (.iload_n 3, 1), (0, 0, 0), []),
  (229, (.iconst 1, 1), (0, 0, 0), []),
  (230, (.iadd, 1), (0, 0, 0), []),
  (231, (.iaload, 1), (0, 0, 0), []),
  (232, (.aload_n 0, 1), (0, 0, 0), []),
  (233, (.iload_n 3, 1), (0, 0, 0), []),
  (234, (.iconst 2, 1), (0, 0, 0), []),
  (235, (.iadd, 1), (0, 0, 0), []),
  (236, (.iaload, 1), (0, 0, 0), []),
  (237, (.aload_n 0, 1), (0, 0, 0), []),
  (238, (.iload_n 3, 1), (0, 0, 0), []),
  (239, (.iconst 3, 1), (0, 0, 0), []),
  (240, (.iadd, 1), (0, 0, 0), []),
  (241, (.iaload, 1), (0, 0, 0), []),
  (242, (.aload_n 0, 1), (0, 0, 0), []),
  (243, (.iload_n 3, 1), (0, 0, 0), []),
  (244, (.iconst 4, 1), (0, 0, 0), []),
  (245, (.iadd, 1), (0, 0, 0), []),
  (246, (.iaload, 1), (0, 0, 0), []),
  (247, (.aload_n 0, 1), (0, 0, 0), []),
  (248, (.iload_n 3, 1), (0, 0, 0), []),
  (249, (.iconst 5, 1), (0, 0, 0), []),
  (250, (.iadd, 1), (0, 0, 0), []),
  (251, (.iaload, 1), (0, 0, 0), []),
  (252, (.invokevirtual 22, 3), (210, 6, 6), []),
  (255, (.if_icmp .eq 925, 3), (1180, 0, 0), []),
  (258, (.iconst 0, 1), (0, 0, 0), []),
  (259, (.ireturn, 1), (0, 0, 0), []),
  (260, (.aload_n 1, 1), (0, 0, 0), []),
  (261, (.aload_n 0, 1), (0, 0, 0), []),
  (262, (.iload_n 3, 1), (0, 0, 0), []),
  (263, (.iconst 1, 1), (0, 0, 0), []),
  (264, (.iadd, 1), (0, 0, 0), []),
  (265, (.iaload, 1), (0, 0, 0), []),
  (266, (.invokevirtual 23, 3), (98, 2, 5), []),
  (269, (.aload_n 2, 1), (0, 0, 0), []),
  (270, (.aload_n 0, 1), (0, 0, 0), []),
  (271, (.iload_n 3, 1), (0, 0, 0), []),
  (272, (.iconst 1, 1), (0, 0, 0), []),
  (273, (.iadd, 1), (0, 0, 0), []),
  (274, (.iaload, 1), (0, 0, 0), []),
  (275, (.invokevirtual 27, 3), (230, 2, 6), []),
  (278, (.if_icmp .eq 902, 3), (1180, 0, 0), []),
  (281, (.iconst 0, 1), (0, 0, 0), []),
  (282, (.ireturn, 1), (0, 0, 0), []),
  (283, (.aload_n 1, 1), (0, 0, 0), []),
  (284, (.aload_n 0, 1), (0, 0, 0), []),
  (285, (.iload_n 3, 1), (0, 0, 0), []),
  (286, (.iconst 1, 1), (0, 0, 0), []),
  (287, (.iadd, 1), (0, 0, 0), []),
  (288, (.iaload, 1), (0, 0, 0), []),
  (289, (.invokevirtual 28, 3), (99, 2, 5), []),
  (292, (.aload_n 2, 1), (0, 0, 0), []),
  (293, (.aload_n 0, 1), (0, 0, 0), []),
  (294, (.iload_n 3, 1), (0, 0, 0), []),
  (295, (.iconst 1, 1), (0, 0, 0), []),
  (296, (.iadd, 1), (0, 0, 0), []),
  (297, (.iaload, 1), (0, 0, 0), []),
  (298, (.invokevirtual 31, 3), (231, 2, 6), []),
  (301, (.if_icmp .eq 879, 3), (1180, 0, 0), []),
  (304, (.iconst 0, 1), (0, 0, 0), []),
  (305, (.ireturn, 1), (0, 0, 0), []),
  (306, (.aload_n 1, 1), (0, 0, 0), []),
  (307, (.aload_n 0, 1), (0, 0, 0), []),
  (308, (.iload_n 3, 1), (0, 0, 0), []),
  (309, (.iconst 1, 1), (0, 0, 0), []),
  (310, (.iadd, 1), (0, 0, 0), []),
  (311, (.iaload, 1), (0, 0, 0), []),
  (312, (.invokevirtual 32, 3), (100, 2, 5), []),
  (315, (.aload_n 2, 1), (0, 0, 0), []),
  (316, (.aload_n 0, 1), (0, 0, 0), []),
  (317, (.iload_n 3, 1), (0, 0, 0), []),
  (318, (.iconst 1, 1), (0, 0, 0), []),
  (319, (.iadd, 1), (0, 0, 0), []),
  (320, (.iaload, 1), (0, 0, 0), []),
  (321, (.invokevirtual 35, 3), (232, 2, 6), []),
  (324, (.if_icmp .eq 856, 3), (1180, 0, 0), []),
  (327, (.iconst 0, 1), (0, 0, 0), []),
  (328, (.ireturn, 1), (0, 0, 0), []),
  (329, (.aload_n 1, 1), (0, 0, 0), []),
  (330, (.aload_n 0, 1), (0, 0, 0), []),
  (331, (.iload_n 3, 1), (0, 0, 0), []),
  (332, (.iconst 1, 1), (0, 0, 0), []),
  (333, (.iadd, 1), (0, 0, 0), []),
  (334, (.iaload, 1), (0, 0, 0), []),
  (335, (.aload_n 0, 1), (0, 0, 0), []),
  (336, (.iload_n 3, 1), (0, 0, 0), []),
  (337, (.iconst 2, 1), (0, 0, 0), []),
  (338, (.iadd, 1), (0, 0, 0), []),
  (339, (.iaload, 1), (0, 0, 0), []),
  (340, (.invokevirtual 36, 3), (101, 3, 5), []),
  (343, (.aload_n 2, 1), (0, 0, 0), []),
  (344, (.aload_n 0, 1), (0, 0, 0), []),
  (345, (.iload_n 3, 1), (0, 0, 0), []),
  (346, (.iconst 1, 1), (0, 0, 0), []),
  (347, (.iadd, 1), (0, 0, 0), []),
  (348, (.iaload, 1), (0, 0, 0), []),
  (349, (.aload_n 0, 1), (0, 0, 0), []),
  (350, (.iload_n 3, 1), (0, 0, 0), []),
  (351, (.iconst 2, 1), (0, 0, 0), []),
  (352, (.iadd, 1), (0, 0, 0), []),
  (353, (.iaload, 1), (0, 0, 0), []),
  (354, (.invokevirtual 40, 3), (233, 3, 6), []),
  (357, (.if_icmp .eq 823, 3), (1180, 0, 0), []),
  (360, (.iconst 0, 1), (0, 0, 0), []),
  (361, (.ireturn, 1), (0, 0, 0), []),
  (362, (.aload_n 1, 1), (0, 0, 0), []),
  (363, (.aload_n 0, 1), (0, 0, 0), []),
  (364, (.iload_n 3, 1), (0, 0, 0), []),
  (365, (.iconst 1, 1), (0, 0, 0), []),
  (366, (.iadd, 1), (0, 0, 0), []),
  (367, (.iaload, 1), (0, 0, 0), []),
  (368, (.aload_n 0, 1), (0, 0, 0), []),
  (369, (.iload_n 3, 1), (0, 0, 0), []),
  (370, (.iconst 2, 1), (0, 0, 0), []),
  (371, (.iadd, 1), (0, 0, 0), []),
  (372, (.iaload, 1), (0, 0, 0), []),
  (373, (.invokevirtual 41, 3), (102, 3, 5), []),
  (376, (.aload_n 2, 1), (0, 0, 0), []),
  (377, (.aload_n 0, 1), (0, 0, 0), []),
  (378, (.iload_n 3, 1), (0, 0, 0), []),
  (379, (.iconst 1, 1), (0, 0, 0), []),
  (380, (.iadd, 1), (0, 0, 0), []),
  (381, (.iaload, 1), (0, 0, 0), []),
  (382, (.aload_n 0, 1), (0, 0, 0), []),
  (383, (.iload_n 3, 1), (0, 0, 0), []),
  (384, (.iconst 2, 1), (0, 0, 0), []),
  (385, (.iadd, 1), (0, 0, 0), []),
  (386, (.iaload, 1), (0, 0, 0), []),
  (387, (.invokevirtual 44, 3), (235, 3, 6), []),
  (390, (.if_icmp .eq 790, 3), (1180, 0, 0), []),
  (393, (.iconst 0, 1), (0, 0, 0), []),
  (394, (.ireturn, 1), (0, 0, 0), []),
  (395, (.aload_n 1, 1), (0, 0, 0), []),
  (396, (.aload_n 0, 1), (0, 0, 0), []),
  (397, (.iload_n 3, 1), (0, 0, 0), []),
  (398, (.iconst 1, 1), (0, 0, 0), []),
  (399, (.iadd, 1), (0, 0, 0), []),
  (400, (.iaload, 1), (0, 0, 0), []),
  (401, (.aload_n 0, 1), (0, 0, 0), []),
  (402, (.iload_n 3, 1), (0, 0, 0), []),
  (403, (.iconst 2, 1), (0, 0, 0), []),
  (404, (.iadd, 1), (0, 0, 0), []),
  (405, (.iaload, 1), (0, 0, 0), []),
  (406, (.invokevirtual 45, 3), (103, 3, 5), []),
  (409, (.aload_n 2, 1), (0, 0, 0), []),
  (410, (.aload_n 0, 1), (0, 0, 0), []),
  (411, (.iload_n 3, 1), (0, 0, 0), []),
  (412, (.iconst 1, 1), (0, 0, 0), []),
  (413, (.iadd, 1), (0, 0, 0), []),
  (414, (.iaload, 1), (0, 0, 0), []),
  (415, (.aload_n 0, 1), (0, 0, 0), []),
  (416, (.iload_n 3, 1), (0, 0, 0), []),
  (417, (.iconst 2, 1), (0, 0, 0), []),
  (418, (.iadd, 1), (0, 0, 0), []),
  (419, (.iaload, 1), (0, 0, 0), []),
  (420, (.invokevirtual 48, 3), (236, 3, 6), []),
  (423, (.if_icmp .eq 757, 3), (1180, 0, 0), []),
  (426, (.iconst 0, 1), (0, 0, 0), []),
  (427, (.ireturn, 1), (0, 0, 0), []),
  (428, (.aload_n 1, 1), (0, 0, 0), []),
  (429, (.aload_n 0, 1), (0, 0, 0), []),
  (430, (.iload_n 3, 1), (0, 0, 0), []),
  (431, (.iconst 1, 1), (0, 0, 0), []),
  (432, (.iadd, 1), (0, 0, 0), []),
  (433, (.iaload, 1), (0, 0, 0), []),
  (434, (.aload_n 0, 1), (0, 0, 0), []),
  (435, (.iload_n 3, 1), (0, 0, 0), []),
  (436, (.iconst 2, 1), (0, 0, 0), []),
  (437, (.iadd, 1), (0, 0, 0), []),
  (438, (.iaload, 1), (0, 0, 0), []),
  (439, (.invokevirtual 49, 3), (104, 3, 5), []),
  (442, (.aload_n 2, 1), (0, 0, 0), []),
  (443, (.aload_n 0, 1), (0, 0, 0), []),
  (444, (.iload_n 3, 1), (0, 0, 0), []),
  (445, (.iconst 1, 1), (0, 0, 0), []),
  (446, (.iadd, 1), (0, 0, 0), []),
  (447, (.iaload, 1), (0, 0, 0), []),
  (448, (.aload_n 0, 1), (0, 0, 0), []),
  (449, (.iload_n 3, 1), (0, 0, 0), []),
  (450, (.iconst 2, 1), (0, 0, 0), []),
  (451, (.iadd, 1), (0, 0, 0), []),
  (452, (.iaload, 1), (0, 0, 0), []),
  (453, (.invokevirtual 52, 3), (237, 3, 6), []),
  (456, (.if_icmp .eq 724, 3), (1180, 0, 0), []),
  (459, (.iconst 0, 1), (0, 0, 0), []),
  (460, (.ireturn, 1), (0, 0, 0), []),
  (461, (.aload_n 1, 1), (0, 0, 0), []),
  (462, (.aload_n 0, 1), (0, 0, 0), []),
  (463, (.iload_n 3, 1), (0, 0, 0), []),
  (464, (.iconst 1, 1), (0, 0, 0), []),
  (465, (.iadd, 1), (0, 0, 0), []),
  (466, (.iaload, 1), (0, 0, 0), []),
  (467, (.invokevirtual 53, 3), (105, 2, 5), []),
  (470, (.aload_n 2, 1), (0, 0, 0), []),
  (471, (.aload_n 0, 1), (0, 0, 0), []),
  (472, (.iload_n 3, 1), (0, 0, 0), []),
  (473, (.iconst 1, 1), (0, 0, 0), []),
  (474, (.iadd, 1), (0, 0, 0), []),
  (475, (.iaload, 1), (0, 0, 0), []),
  (476, (.invokevirtual 56, 3), (240, 2, 6), []),
  (479, (.if_icmp .eq 701, 3), (1180, 0, 0), []),
  (482, (.iconst 0, 1), (0, 0, 0), []),
  (483, (.ireturn, 1), (0, 0, 0), []),
  (484, (.aload_n 1, 1), (0, 0, 0), []),
  (485, (.aload_n 0, 1), (0, 0, 0), []),
  (486, (.iload_n 3, 1), (0, 0, 0), []),
  (487, (.iconst 1, 1), (0, 0, 0), []),
  (488, (.iadd, 1), (0, 0, 0), []),
  (489, (.iaload, 1), (0, 0, 0), []),
  (490, (.aload_n 0, 1), (0, 0, 0), []),
  (491, (.iload_n 3, 1), (0, 0, 0), []),
  (492, (.iconst 2, 1), (0, 0, 0), []),
  (493, (.iadd, 1), (0, 0, 0), []),
  (494, (.iaload, 1), (0, 0, 0), []),
  (495, (.invokevirtual 57, 3), (106, 3, 5), []),
  (498, (.aload_n 2, 1), (0, 0, 0), []),
  (499, (.aload_n 0, 1), (0, 0, 0), []),
  (500, (.iload_n 3, 1), (0, 0, 0), []),
  (501, (.iconst 1, 1), (0, 0, 0), []),
  (502, (.iadd, 1), (0, 0, 0), []),
  (503, (.iaload, 1), (0, 0, 0), []),
  (504, (.aload_n 0, 1), (0, 0, 0), []),
  (505, (.iload_n 3, 1), (0, 0, 0), []),
  (506, (.iconst 2, 1), (0, 0, 0), []),
  (507, (.iadd, 1), (0, 0, 0), []),
  (508, (.iaload, 1), (0, 0, 0), []),
  (509, (.invokevirtual 60, 3), (241, 3, 6), []),
  (512, (.if_icmp .eq 668, 3), (1180, 0, 0), []),
  (515, (.iconst 0, 1), (0, 0, 0), []),
  (516, (.ireturn, 1), (0, 0, 0), []),
  (517, (.aload_n 1, 1), (0, 0, 0), []),
  (518, (.aload_n 0, 1), (0, 0, 0), []),
  (519, (.iload_n 3, 1), (0, 0, 0), []),
  (520, (.iconst 1, 1), (0, 0, 0), []),
  (521, (.iadd, 1), (0, 0, 0), []),
  (522, (.iaload, 1), (0, 0, 0), []),
  (523, (.aload_n 0, 1), (0, 0, 0), []),
  (524, (.iload_n 3, 1), (0, 0, 0), []),
  (525, (.iconst 2, 1), (0, 0, 0), []),
  (526, (.iadd, 1), (0, 0, 0), []),
  (527, (.iaload, 1), (0, 0, 0), []),
  (528, (.aload_n 0, 1), (0, 0, 0), []),
  (529, (.iload_n 3, 1), (0, 0, 0), []),
  (530, (.iconst 3, 1), (0, 0, 0), []),
  (531, (.iadd, 1), (0, 0, 0), []),
  (532, (.iaload, 1), (0, 0, 0), []),
  (533, (.invokevirtual 61, 3), (107, 4, 5), []),
  (536, (.aload_n 2, 1), (0, 0, 0), []),
  (537, (.aload_n 0, 1), (0, 0, 0), []),
  (538, (.iload_n 3, 1), (0, 0, 0), []),
  (539, (.iconst 1, 1), (0, 0, 0), []),
  (540, (.iadd, 1), (0, 0, 0), []),
  (541, (.iaload, 1), (0, 0, 0), []),
  (542, (.aload_n 0, 1), (0, 0, 0), []),
  (543, (.iload_n 3, 1), (0, 0, 0), []),
  (544, (.iconst 2, 1), (0, 0, 0), []),
  (545, (.iadd, 1), (0, 0, 0), []),
  (546, (.iaload, 1), (0, 0, 0), []),
  (547, (.aload_n 0, 1), (0, 0, 0), []),
  (548, (.iload_n 3, 1), (0, 0, 0), []),
  (549, (.iconst 3, 1), (0, 0, 0), []),
  (550, (.iadd, 1), (0, 0, 0), []),
  (551, (.iaload, 1), (0, 0, 0), []),
  (552, (.invokevirtual 65, 3), (242, 4, 6), []),
  (555, (.if_icmp .eq 625, 3), (1180, 0, 0), []),
  (558, (.iconst 0, 1), (0, 0, 0), []),
  (559, (.ireturn, 1), (0, 0, 0), []),
  (560, (.aload_n 1, 1), (0, 0, 0), []),
  (561, (.aload_n 0, 1), (0, 0, 0), []),
  (562, (.iload_n 3, 1), (0, 0, 0), []),
  (563, (.iconst 1, 1), (0, 0, 0), []),
  (564, (.iadd, 1), (0, 0, 0), []),
  (565, (.iaload, 1), (0, 0, 0), []),
  (566, (.aload_n 0, 1), (0, 0, 0), []),
  (567, (.iload_n 3, 1), (0, 0, 0), []),
  (568, (.iconst 2, 1), (0, 0, 0), []),
  (569, (.iadd, 1), (0, 0, 0), []),
  (570, (.iaload, 1), (0, 0, 0), []),
  (571, (.invokevirtual 66, 3), (108, 3, 5), []),
  (574, (.aload_n 2, 1), (0, 0, 0), []),
  (575, (.aload_n 0, 1), (0, 0, 0), []),
  (576, (.iload_n 3, 1), (0, 0, 0), []),
  (577, (.iconst 1, 1), (0, 0, 0), []),
  (578, (.iadd, 1), (0, 0, 0), []),
  (579, (.iaload, 1), (0, 0, 0), []),
  (580, (.aload_n 0, 1), (0, 0, 0), []),
  (581, (.iload_n 3, 1), (0, 0, 0), []),
  (582, (.iconst 2, 1), (0, 0, 0), []),
  (583, (.iadd, 1), (0, 0, 0), []),
  (584, (.iaload, 1), (0, 0, 0), []),
  (585, (.invokevirtual 69, 3), (243, 3, 6), []),
  (588, (.if_icmp .eq 592, 3), (1180, 0, 0), []),
  (591, (.iconst 0, 1), (0, 0, 0), []),
  (592, (.ireturn, 1), (0, 0, 0), []),
  (593, (.aload_n 1, 1), (0, 0, 0), []),
  (594, (.aload_n 0, 1), (0, 0, 0), []),
  (595, (.iload_n 3, 1), (0, 0, 0), []),
  (596, (.iconst 1, 1), (0, 0, 0), []),
  (597, (.iadd, 1), (0, 0, 0), []),
  (598, (.iaload, 1), (0, 0, 0), []),
  (599, (.aload_n 0, 1), (0, 0, 0), []),
  (600, (.iload_n 3, 1), (0, 0, 0), []),
  (601, (.iconst 2, 1), (0, 0, 0), []),
  (602, (.iadd, 1), (0, 0, 0), []),
  (603, (.iaload, 1), (0, 0, 0), []),
  (604, (.ifCond .eq 7, 3), (611, 0, 0), []),
  (607, (.iconst 1, 1), (0, 0, 0), []),
  (608, (.goto 4, 3), (612, 0, 0), []),
  (611, (.iconst 0, 1), (0, 0, 0), []),
  (612, (.invokevirtual 70, 3), (109, 3, 5), []),
  (615, (.aload_n 2, 1), (0, 0, 0), []),
  (616, (.aload_n 0, 1), (0, 0, 0), []),
  (617, (.iload_n 3, 1), (0, 0, 0), []),
  (618, (.iconst 1, 1), (0, 0, 0), []),
  (619, (.iadd, 1), (0, 0, 0), []),
  (620, (.iaload, 1), (0, 0, 0), []),
  (621, (.aload_n 0, 1), (0, 0, 0), []),
  (622, (.iload_n 3, 1), (0, 0, 0), []),
  (623, (.iconst 2, 1), (0, 0, 0), []),
  (624, (.iadd, 1), (0, 0, 0), []),
  (625, (.iaload, 1), (0, 0, 0), []),
  (626, (.ifCond .eq 7, 3), (633, 0, 0), []),
  (629, (.iconst 1, 1), (0, 0, 0), []),
  (630, (.goto 4, 3), (634, 0, 0), []),
  (633, (.iconst 0, 1), (0, 0, 0), []),
  (634, (.invokevirtual 74, 3), (245, 3, 6), []),
  (637, (.if_icmp .eq 543, 3), (1180, 0, 0), []),
  (640, (.iconst 0, 1), (0, 0, 0), []),
  (641, (.ireturn, 1), (0, 0, 0), []),
  (642, (.aload_n 1, 1), (0, 0, 0), []),
  (643, (.aload_n 0, 1), (0, 0, 0), []),
  (644, (.iload_n 3, 1), (0, 0, 0), []),
  (645, (.iconst 1, 1), (0, 0, 0), []),
  (646, (.iadd, 1), (0, 0, 0), []),
  (647, (.iaload, 1), (0, 0, 0), []),
  (648, (.aload_n 0, 1), (0, 0, 0), []),
  (649, (.iload_n 3, 1), (0, 0, 0), []),
  (650, (.iconst 2, 1), (0, 0, 0), []),
  (651, (.iadd, 1), (0, 0, 0), []),
  (652, (.iaload, 1), (0, 0, 0), []),
  (653, (.invokevirtual 75, 3), (110, 3, 5), []),
  (656, (.aload_n 2, 1), (0, 0, 0), []),
  (657, (.aload_n 0, 1), (0, 0, 0), []),
  (658, (.iload_n 3, 1), (0, 0, 0), []),
  (659, (.iconst 1, 1), (0, 0, 0), []),
  (660, (.iadd, 1), (0, 0, 0), []),
  (661, (.iaload, 1), (0, 0, 0), []),
  (662, (.aload_n 0, 1), (0, 0, 0), []),
  (663, (.iload_n 3, 1), (0, 0, 0), []),
  (664, (.iconst 2, 1), (0, 0, 0), []),
  (665, (.iadd, 1), (0, 0, 0), []),
  (666, (.iaload, 1), (0, 0, 0), []),
  (667, (.invokevirtual 78, 3), (246, 3, 6), []),
  (670, (.if_icmp .eq 510, 3), (1180, 0, 0), []),
  (673, (.iconst 0, 1), (0, 0, 0), []),
  (674, (.ireturn, 1), (0, 0, 0), []),
  (675, (.aload_n 1, 1), (0, 0, 0), []),
  (676, (.aload_n 0, 1), (0, 0, 0), []),
  (677, (.iload_n 3, 1), (0, 0, 0), []),
  (678, (.iconst 1, 1), (0, 0, 0), []),
  (679, (.iadd, 1), (0, 0, 0), []),
  (680, (.iaload, 1), (0, 0, 0), []),
  (681, (.invokevirtual 79, 3), (111, 2, 5), []),
  (684, (.aload_n 2, 1), (0, 0, 0), []),
  (685, (.aload_n 0, 1), (0, 0, 0), []),
  (686, (.iload_n 3, 1), (0, 0, 0), []),
  (687, (.iconst 1, 1), (0, 0, 0), []),
  (688, (.iadd, 1), (0, 0, 0), []),
  (689, (.iaload, 1), (0, 0, 0), []),
  (690, (.invokevirtual 83, 3), (248, 2, 6), []),
  (693, (.if_icmp .eq 487, 3), (1180, 0, 0), []),
  (696, (.iconst 0, 1), (0, 0, 0), []),
  (697, (.ireturn, 1), (0, 0, 0), []),
  (698, (.aload_n 1, 1), (0, 0, 0), []),
  (699, (.aload_n 0, 1), (0, 0, 0), []),
  (700, (.iload_n 3, 1), (0, 0, 0), []),
  (701, (.iconst 1, 1), (0, 0, 0), []),
  (702, (.iadd, 1), (0, 0, 0), []),
  (703, (.iaload, 1), (0, 0, 0), []),
  (704, (.invokevirtual 84, 3), (112, 2, 5), []),
  (707, (.aload_n 2, 1), (0, 0, 0), []),
  (708, (.aload_n 0, 1), (0, 0, 0), []),
  (709, (.iload_n 3, 1), (0, 0, 0), []),
  (710, (.iconst 1, 1), (0, 0, 0), []),
  (711, (.iadd, 1), (0, 0, 0), []),
  (712, (.iaload, 1), (0, 0, 0), []),
  (713, (.invokevirtual 87, 3), (249, 2, 6), []),
  (716, (.if_icmp .eq 464, 3), (1180, 0, 0), []),
  (719, (.iconst 0, 1), (0, 0, 0), []),
  (720, (.ireturn, 1), (0, 0, 0), []),
  (721, (.aload_n 1, 1), (0, 0, 0), []),
  (722, (.aload_n 0, 1), (0, 0, 0), []),
  (723, (.iload_n 3, 1), (0, 0, 0), []),
  (724, (.iconst 1, 1), (0, 0, 0), []),
  (725, (.iadd, 1), (0, 0, 0), []),
  (726, (.iaload, 1), (0, 0, 0), []),
  (727, (.aload_n 0, 1), (0, 0, 0), []),
  (728, (.iload_n 3, 1), (0, 0, 0), []),
  (729, (.iconst 2, 1), (0, 0, 0), []),
  (730, (.iadd, 1), (0, 0, 0), []),
  (731, (.iaload, 1), (0, 0, 0), []),
  (732, (.aload_n 0, 1), (0, 0, 0), []),
  (733, (.iload_n 3, 1), (0, 0, 0), []),
  (734, (.iconst 3, 1), (0, 0, 0), []),
  (735, (.iadd, 1), (0, 0, 0), []),
  (736, (.iaload, 1), (0, 0, 0), []),
  (737, (.aload_n 0, 1), (0, 0, 0), []),
  (738, (.iload_n 3, 1), (0, 0, 0), []),
  (739, (.iconst 4, 1), (0, 0, 0), []),
  (740, (.iadd, 1), (0, 0, 0), []),
  (741, (.iaload, 1), (0, 0, 0), []),
  (742, (.aload_n 0, 1), (0, 0, 0), []),
  (743, (.iload_n 3, 1), (0, 0, 0), []),
  (744, (.iconst 5, 1), (0, 0, 0), []),
  (745, (.iadd, 1), (0, 0, 0), []),
  (746, (.iaload, 1), (0, 0, 0), []),
  (747, (.aload_n 0, 1), (0, 0, 0), []),
  (748, (.iload_n 3, 1), (0, 0, 0), []),
  (749, (.bipush 6, 2), (0, 0, 0), []),
  (751, (.iadd, 1), (0, 0, 0), []),
  (752, (.iaload, 1), (0, 0, 0), []),
  (753, (.invokevirtual 88, 3), (113, 7, 5), []),
  (756, (.aload_n 2, 1), (0, 0, 0), []),
  (757, (.aload_n 0, 1), (0, 0, 0), []),
  (758, (.iload_n 3, 1), (0, 0, 0), []),
  (759, (.iconst 1, 1), (0, 0, 0), []),
  (760, (.iadd, 1), (0, 0, 0), []),
  (761, (.iaload, 1), (0, 0, 0), []),
  (762, (.aload_n 0, 1), (0, 0, 0), []),
  (763, (.iload_n 3, 1), (0, 0, 0), []),
  (764, (.iconst 2, 1), (0, 0, 0), []),
  (765, (.iadd, 1), (0, 0, 0), []),
  (766, (.iaload, 1), (0, 0, 0), []),
  (767, (.aload_n 0, 1), (0, 0, 0), []),
  (768, (.iload_n 3, 1), (0, 0, 0), []),
  (769, (.iconst 3, 1), (0, 0, 0), []),
  (770, (.iadd, 1), (0, 0, 0), []),
  (771, (.iaload, 1), (0, 0, 0), []),
  (772, (.aload_n 0, 1), (0, 0, 0), []),
  (773, (.iload_n 3, 1), (0, 0, 0), []),
  (774, (.iconst 4, 1), (0, 0, 0), []),
  (775, (.iadd, 1), (0, 0, 0), []),
  (776, (.iaload, 1), (0, 0, 0), []),
  (777, (.aload_n 0, 1), (0, 0, 0), []),
  (778, (.iload_n 3, 1), (0, 0, 0), []),
  (779, (.iconst 5, 1), (0, 0, 0), []),
  (780, (.iadd, 1), (0, 0, 0), []),
  (781, (.iaload, 1), (0, 0, 0), []),
  (782, (.aload_n 0, 1), (0, 0, 0), []),
  (783, (.iload_n 3, 1), (0, 0, 0), []),
  (784, (.bipush 6, 2), (0, 0, 0), []),
  (786, (.iadd, 1), (0, 0, 0), []),
  (787, (.iaload, 1), (0, 0, 0), []),
  (788, (.invokevirtual 92, 3), (251, 7, 6), []),
  (791, (.if_icmp .eq 389, 3), (1180, 0, 0), []),
  (794, (.iconst 0, 1), (0, 0, 0), []),
  (795, (.ireturn, 1), (0, 0, 0), []),
  (796, (.aload_n 1, 1), (0, 0, 0), []),
  (797, (.aload_n 0, 1), (0, 0, 0), []),
  (798, (.iload_n 3, 1), (0, 0, 0), []),
  (799, (.iconst 1, 1), (0, 0, 0), []),
  (800, (.iadd, 1), (0, 0, 0), []),
  (801, (.iaload, 1), (0, 0, 0), []),
  (802, (.aload_n 0, 1), (0, 0, 0), []),
  (803, (.iload_n 3, 1), (0, 0, 0), []),
  (804, (.iconst 2, 1), (0, 0, 0), []),
  (805, (.iadd, 1), (0, 0, 0), []),
  (806, (.iaload, 1), (0, 0, 0), []),
  (807, (.ifCond .eq 7, 3), (814, 0, 0), []),
  (810, (.iconst 1, 1), (0, 0, 0), []),
  (811, (.goto 4, 3), (815, 0, 0), []),
  (814, (.iconst 0, 1), (0, 0, 0), []),
  (815, (.invokevirtual 93, 3), (114, 3, 5), []),
  (818, (.aload_n 2, 1), (0, 0, 0), []),
  (819, (.aload_n 0, 1), (0, 0, 0), []),
  (820, (.iload_n 3, 1), (0, 0, 0), []),
  (821, (.iconst 1, 1), (0, 0, 0), []),
  (822, (.iadd, 1), (0, 0, 0), []),
  (823, (.iaload, 1), (0, 0, 0), []),
  (824, (.aload_n 0, 1), (0, 0, 0), []),
  (825, (.iload_n 3, 1), (0, 0, 0), []),
  (826, (.iconst 2, 1), (0, 0, 0), []),
  (827, (.iadd, 1), (0, 0, 0), []),
  (828, (.iaload, 1), (0, 0, 0), []),
  (829, (.ifCond .eq 7, 3), (836, 0, 0), []),
  (832, (.iconst 1, 1), (0, 0, 0), []),
  (833, (.goto 4, 3), (837, 0, 0), []),
  (836, (.iconst 0, 1), (0, 0, 0), []),
  (837, (.invokevirtual 96, 3), (252, 3, 6), []),
  (840, (.if_icmp .eq 340, 3), (1180, 0, 0), []),
  (843, (.iconst 0, 1), (0, 0, 0), []),
  (844, (.ireturn, 1), (0, 0, 0), []),
  (845, (.aload_n 1, 1), (0, 0, 0), []),
  (846, (.invokevirtual 97, 3), (115, 1, 5), []),
  (849, (.aload_n 2, 1), (0, 0, 0), []),
  (850, (.invokevirtual 101, 3), (253, 1, 6), []),
  (853, (.if_icmp .eq 327, 3), (1180, 0, 0), []),
  (856, (.iconst 0, 1), (0, 0, 0), []),
  (857, (.ireturn, 1), (0, 0, 0), []),
  (858, (.aload_n 1, 1), (0, 0, 0), []),
  (859, (.aload_n 0, 1), (0, 0, 0), []),
  (860, (.iload_n 3, 1), (0, 0, 0), []),
  (861, (.iconst 1, 1), (0, 0, 0), []),
  (862, (.iadd, 1), (0, 0, 0), []),
  (863, (.iaload, 1), (0, 0, 0), []),
  (864, (.invokevirtual 102, 3), (116, 2, 5), []),
  (867, (.aload_n 2, 1), (0, 0, 0), []),
  (868, (.aload_n 0, 1), (0, 0, 0), []),
  (869, (.iload_n 3, 1), (0, 0, 0), []),
  (870, (.iconst 1, 1), (0, 0, 0), []),
  (871, (.iadd, 1), (0, 0, 0), []),
  (872, (.iaload, 1), (0, 0, 0), []),
  (873, (.invokevirtual 105, 3), (254, 2, 6), []),
  (876, (.if_icmp .eq 304, 3), (1180, 0, 0), []),
  (879, (.iconst 0, 1), (0, 0, 0), []),
  (880, (.ireturn, 1), (0, 0, 0), []),
  (881, (.aload_n 1, 1), (0, 0, 0), []),
  (882, (.aload_n 0, 1), (0, 0, 0), []),
  (883, (.iload_n 3, 1), (0, 0, 0), []),
  (884, (.iconst 1, 1), (0, 0, 0), []),
  (885, (.iadd, 1), (0, 0, 0), []),
  (886, (.iaload, 1), (0, 0, 0), []),
  (887, (.aload_n 0, 1), (0, 0, 0), []),
  (888, (.iload_n 3, 1), (0, 0, 0), []),
  (889, (.iconst 2, 1), (0, 0, 0), []),
  (890, (.iadd, 1), (0, 0, 0), []),
  (891, (.iaload, 1), (0, 0, 0), []),
  (892, (.invokevirtual 106, 3), (117, 3, 5), []),
  (895, (.aload_n 2, 1), (0, 0, 0), []),
  (896, (.aload_n 0, 1), (0, 0, 0), []),
  (897, (.iload_n 3, 1), (0, 0, 0), []),
  (898, (.iconst 1, 1), (0, 0, 0), []),
  (899, (.iadd, 1), (0, 0, 0), []),
  (900, (.iaload, 1), (0, 0, 0), []),
  (901, (.aload_n 0, 1), (0, 0, 0), []),
  (902, (.iload_n 3, 1), (0, 0, 0), []),
  (903, (.iconst 2, 1), (0, 0, 0), []),
  (904, (.iadd, 1), (0, 0, 0), []),
  (905, (.iaload, 1), (0, 0, 0), []),
  (906, (.invokevirtual 109, 3), (255, 3, 6), []),
  (909, (.if_icmp .eq 271, 3), (1180, 0, 0), []),
  (912, (.iconst 0, 1), (0, 0, 0), []),
  (913, (.ireturn, 1), (0, 0, 0), []),
  (914, (.aload_n 1, 1), (0, 0, 0), []),
  (915, (.invokevirtual 110, 3), (118, 1, 5), []),
  (918, (.aload_n 2, 1), (0, 0, 0), []),
  (919, (.invokevirtual 113, 3), (256, 1, 6), []),
  (922, (.if_icmp .eq 258, 3), (1180, 0, 0), []),
  (925, (.iconst 0, 1), (0, 0, 0), []),
  (926, (.ireturn, 1), (0, 0, 0), []),
  (927, (.aload_n 1, 1), (0, 0, 0), []),
  (928, (.invokevirtual 114, 3), (119, 1, 5), []),
  (931, (.aload_n 2, 1), (0, 0, 0), []),
  (932, (.invokevirtual 117, 3), (257, 1, 6), []),
  (935, (.if_icmp .eq 245, 3), (1180, 0, 0), []),
  (938, (.iconst 0, 1), (0, 0, 0), []),
  (939, (.ireturn, 1), (0, 0, 0), []),
  (940, (.aload_n 1, 1), (0, 0, 0), []),
  (941, (.aload_n 0, 1), (0, 0, 0), []),
  (942, (.iload_n 3, 1), (0, 0, 0), []),
  (943, (.iconst 1, 1), (0, 0, 0), []),
  (944, (.iadd, 1), (0, 0, 0), []),
  (945, (.iaload, 1), (0, 0, 0), []),
  (946, (.aload_n 0, 1), (0, 0, 0), []),
  (947, (.iload_n 3, 1), (0, 0, 0), []),
  (948, (.iconst 2, 1), (0, 0, 0), []),
  (949, (.iadd, 1), (0, 0, 0), []),
  (950, (.iaload, 1), (0, 0, 0), []),
  (951, (.invokevirtual 118, 3), (120, 3, 5), []),
  (954, (.aload_n 2, 1), (0, 0, 0), []),
  (955, (.aload_n 0, 1), (0, 0, 0), []),
  (956, (.iload_n 3, 1), (0, 0, 0), []),
  (957, (.iconst 1, 1), (0, 0, 0), []),
  (958, (.iadd, 1), (0, 0, 0), []),
  (959, (.iaload, 1), (0, 0, 0), []),
  (960, (.aload_n 0, 1), (0, 0, 0), []),
  (961, (.iload_n 3, 1), (0, 0, 0), []),
  (962, (.iconst 2, 1), (0, 0, 0), []),
  (963, (.iadd, 1), (0, 0, 0), []),
  (964, (.iaload, 1), (0, 0, 0), []),
  (965, (.invokevirtual 121, 3), (258, 3, 6), []),
  (968, (.if_icmp .eq 212, 3), (1180, 0, 0), []),
  (971, (.iconst 0, 1), (0, 0, 0), []),
  (972, (.ireturn, 1), (0, 0, 0), []),
  (973, (.aload_n 1, 1), (0, 0, 0), []),
  (974, (.aload_n 0, 1), (0, 0, 0), []),
  (975, (.iload_n 3, 1), (0, 0, 0), []),
  (976, (.iconst 1, 1), (0, 0, 0), []),
  (977, (.iadd, 1), (0, 0, 0), []),
  (978, (.iaload, 1), (0, 0, 0), []),
  (979, (.invokevirtual 122, 3), (121, 2, 5), []),
  (982, (.aload_n 2, 1), (0, 0, 0), []),
  (983, (.aload_n 0, 1), (0, 0, 0), []),
  (984, (.iload_n 3, 1), (0, 0, 0), []),
  (985, (.iconst 1, 1), (0, 0, 0), []),
  (986, (.iadd, 1), (0, 0, 0), []),
  (987, (.iaload, 1), (0, 0, 0), []),
  (988, (.invokevirtual 125, 3), (261, 2, 6), []),
  (991, (.if_icmp .eq 189, 3), (1180, 0, 0), []),
  (994, (.iconst 0, 1), (0, 0, 0), []),
  (995, (.ireturn, 1), (0, 0, 0), []),
  (996, (.aload_n 1, 1), (0, 0, 0), []),
  (997, (.aload_n 0, 1), (0, 0, 0), []),
  (998, (.iload_n 3, 1), (0, 0, 0), []),
  (999, (.iconst 1, 1), (0, 0, 0), []),
  (1000, (.iadd, 1), (0, 0, 0), []),
  (1001, (.iaload, 1), (0, 0, 0), []),
  (1002, (.invokevirtual 126, 3), (122, 2, 5), []),
  (1005, (.aload_n 2, 1), (0, 0, 0), []),
  (1006, (.aload_n 0, 1), (0, 0, 0), []),
  (1007, (.iload_n 3, 1), (0, 0, 0), []),
  (1008, (.iconst 1, 1), (0, 0, 0), []),
  (1009, (.iadd, 1), (0, 0, 0), []),
  (1010, (.iaload, 1), (0, 0, 0), []),
  (1011, (.invokevirtual 129, 3), (266, 2, 6), []),
  (1014, (.if_icmp .eq 166, 3), (1180, 0, 0), []),
  (1017, (.iconst 0, 1), (0, 0, 0), []),
  (1018, (.ireturn, 1), (0, 0, 0), []),
  (1019, (.aload_n 1, 1), (0, 0, 0), []),
  (1020, (.aload_n 0, 1), (0, 0, 0), []),
  (1021, (.iload_n 3, 1), (0, 0, 0), []),
  (1022, (.iconst 1, 1), (0, 0, 0), []),
  (1023, (.iadd, 1), (0, 0, 0), []),
  (1024, (.iaload, 1), (0, 0, 0), []),
  (1025, (.invokevirtual 130, 3), (123, 2, 5), []),
  (1028, (.aload_n 2, 1), (0, 0, 0), []),
  (1029, (.aload_n 0, 1), (0, 0, 0), []),
  (1030, (.iload_n 3, 1), (0, 0, 0), []),
  (1031, (.iconst 1, 1), (0, 0, 0), []),
  (1032, (.iadd, 1), (0, 0, 0), []),
  (1033, (.iaload, 1), (0, 0, 0), []),
  (1034, (.invokevirtual 133, 3), (267, 2, 6), []),
  (1037, (.if_icmp .eq 143, 3), (1180, 0, 0), []),
  (1040, (.iconst 0, 1), (0, 0, 0), []),
  (1041, (.ireturn, 1), (0, 0, 0), []),
  (1042, (.aload_n 1, 1), (0, 0, 0), []),
  (1043, (.invokevirtual 134, 3), (124, 1, 5), []),
  (1046, (.aload_n 2, 1), (0, 0, 0), []),
  (1047, (.invokevirtual 137, 3), (268, 1, 6), []),
  (1050, (.if_icmp .eq 130, 3), (1180, 0, 0), []),
  (1053, (.iconst 0, 1), (0, 0, 0), []),
  (1054, (.ireturn, 1), (0, 0, 0), []),
  (1055, (.aload_n 1, 1), (0, 0, 0), []),
  (1056, (.invokevirtual 138, 3), (125, 1, 5), []),
  (1059, (.aload_n 2, 1), (0, 0, 0), []),
  (1060, (.invokevirtual 141, 3), (269, 1, 6), []),
  (1063, (.if_icmp .eq 117, 3), (1180, 0, 0), []),
  (1066, (.iconst 0, 1), (0, 0, 0), []),
  (1067, (.ireturn, 1), (0, 0, 0), []),
  (1068, (.aload_n 1, 1), (0, 0, 0), []),
  (1069, (.aload_n 0, 1), (0, 0, 0), []),
  (1070, (.iload_n 3, 1), (0, 0, 0), []),
  (1071, (.iconst 1, 1), (0, 0, 0), []),
  (1072, (.iadd, 1), (0, 0, 0), []),
  (1073, (.iaload, 1), (0, 0, 0), []),
  (1074, (.invokevirtual 142, 3), (126, 2, 5), []),
  (1077, (.aload_n 2, 1), (0, 0, 0), []),
  (1078, (.aload_n 0, 1), (0, 0, 0), []),
  (1079, (.iload_n 3, 1), (0, 0, 0), []),
  (1080, (.iconst 1, 1), (0, 0, 0), []),
  (1081, (.iadd, 1), (0, 0, 0), []),
  (1082, (.iaload, 1), (0, 0, 0), []),
  (1083, (.invokevirtual 145, 3), (270, 2, 6), []),
  (1086, (.if_icmp .eq 94, 3), (1180, 0, 0), []),
  (1089, (.iconst 0, 1), (0, 0, 0), []),
  (1090, (.ireturn, 1), (0, 0, 0), []),
  (1091, (.aload_n 1, 1), (0, 0, 0), []),
  (1092, (.aload_n 0, 1), (0, 0, 0), []),
  (1093, (.iload_n 3, 1), (0, 0, 0), []),
  (1094, (.iconst 1, 1), (0, 0, 0), []),
  (1095, (.iadd, 1), (0, 0, 0), []),
  (1096, (.iaload, 1), (0, 0, 0), []),
  (1097, (.aload_n 0, 1), (0, 0, 0), []),
  (1098, (.iload_n 3, 1), (0, 0, 0), []),
  (1099, (.iconst 2, 1), (0, 0, 0), []),
  (1100, (.iadd, 1), (0, 0, 0), []),
  (1101, (.iaload, 1), (0, 0, 0), []),
  (1102, (.invokevirtual 146, 3), (127, 3, 5), []),
  (1105, (.aload_n 2, 1), (0, 0, 0), []),
  (1106, (.aload_n 0, 1), (0, 0, 0), []),
  (1107, (.iload_n 3, 1), (0, 0, 0), []),
  (1108, (.iconst 1, 1), (0, 0, 0), []),
  (1109, (.iadd, 1), (0, 0, 0), []),
  (1110, (.iaload, 1), (0, 0, 0), []),
  (1111, (.aload_n 0, 1), (0, 0, 0), []),
  (1112, (.iload_n 3, 1), (0, 0, 0), []),
  (1113, (.iconst 2, 1), (0, 0, 0), []),
  (1114, (.iadd, 1), (0, 0, 0), []),
  (1115, (.iaload, 1), (0, 0, 0), []),
  (1116, (.invokevirtual 149, 3), (272, 3, 6), []),
  (1119, (.if_icmp .eq 61, 3), (1180, 0, 0), []),
  (1122, (.iconst 0, 1), (0, 0, 0), []),
  (1123, (.ireturn, 1), (0, 0, 0), []),
  (1124, (.aload_n 1, 1), (0, 0, 0), []),
  (1125, (.aload_n 0, 1), (0, 0, 0), []),
  (1126, (.iload_n 3, 1), (0, 0, 0), []),
  (1127, (.iconst 1, 1), (0, 0, 0), []),
  (1128, (.iadd, 1), (0, 0, 0), []),
  (1129, (.iaload, 1), (0, 0, 0), []),
  (1130, (.aload_n 0, 1), (0, 0, 0), []),
  (1131, (.iload_n 3, 1), (0, 0, 0), []),
  (1132, (.iconst 2, 1), (0, 0, 0), []),
  (1133, (.iadd, 1), (0, 0, 0), []),
  (1134, (.iaload, 1), (0, 0, 0), []),
  (1135, (.invokevirtual 150, 3), (128, 3, 5), []),
  (1138, (.aload_n 2, 1), (0, 0, 0), []),
  (1139, (.aload_n 0, 1), (0, 0, 0), []),
  (1140, (.iload_n 3, 1), (0, 0, 0), []),
  (1141, (.iconst 1, 1), (0, 0, 0), []),
  (1142, (.iadd, 1), (0, 0, 0), []),
  (1143, (.iaload, 1), (0, 0, 0), []),
  (1144, (.aload_n 0, 1), (0, 0, 0), []),
  (1145, (.iload_n 3, 1), (0, 0, 0), []),
  (1146, (.iconst 2, 1), (0, 0, 0), []),
  (1147, (.iadd, 1), (0, 0, 0), []),
  (1148, (.iaload, 1), (0, 0, 0), []),
  (1149, (.invokevirtual 153, 3), (273, 3, 6), []),
  (1152, (.if_icmp .eq 28, 3), (1180, 0, 0), []),
  (1155, (.iconst 0, 1), (0, 0, 0), []),
  (1156, (.ireturn, 1), (0, 0, 0), []),
  (1157, (.aload_n 1, 1), (0, 0, 0), []),
  (1158, (.aload_n 0, 1), (0, 0, 0), []),
  (1159, (.iload_n 3, 1), (0, 0, 0), []),
  (1160, (.iconst 1, 1), (0, 0, 0), []),
  (1161, (.iadd, 1), (0, 0, 0), []),
  (1162, (.iaload, 1), (0, 0, 0), []),
  (1163, (.invokevirtual 154, 3), (129, 2, 5), []),
  (1166, (.aload_n 2, 1), (0, 0, 0), []),
  (1167, (.aload_n 0, 1), (0, 0, 0), []),
  (1168, (.iload_n 3, 1), (0, 0, 0), []),
  (1169, (.iconst 1, 1), (0, 0, 0), []),
  (1170, (.iadd, 1), (0, 0, 0), []),
  (1171, (.iaload, 1), (0, 0, 0), []),
  (1172, (.invokevirtual 157, 3), (274, 2, 6), []),
  (1175, (.if_icmp .eq 5, 3), (1180, 0, 0), []),
  (1178, (.iconst 0, 1), (0, 0, 0), []),
  (1179, (.ireturn, 1), (0, 0, 0), []),
  (1180, (.iinc 3 7, 3), (0, 0, 0), []),
  (1183, (.goto (-1165), 3), (18, 0, 0), []),
  (1186, (.iconst 1, 1), (0, 0, 0), []),
  (1187, (.ireturn, 1), (0, 0, 0), [])]
def m_X0_takeFrom : mDat := (y_X0_takeFrom, prog_2_method_2_code, 2, none, (0, 0, 1), t_X0_takeFrom, [], cp_X0)
def m_X0_beginAnew : mDat := (y_X0_beginAnew, prog_2_method_3_code, 1, none, (0, 0, 0), t_X0_beginAnew, [], cp_X0)
def m_X0_startRings : mDat := (y_X0_startRings, prog_2_method_4_code, 2, none, (0, 0, 0), t_X0_startRings, [], cp_X0)
def m_X0_tellRing : mDat := (y_X0_tellRing, prog_2_method_5_code, 3, some .int, (1, 0, 2), t_X0_tellRing, [], cp_X0)
def m_X0_tellPhase : mDat := (y_X0_tellPhase, prog_2_method_6_code, 3, some .int, (1, 0, 2), t_X0_tellPhase, [], cp_X0)
def m_X0_lampOf : mDat := (y_X0_lampOf, prog_2_method_7_code, 3, some .int, (1, 0, 1), t_X0_lampOf, [], cp_X0)
def m_X0_isGreenAt : mDat := (y_X0_isGreenAt, prog_2_method_8_code, 2, some .boolean, (2, 0, 1), t_X0_isGreenAt, [], cp_X0)
def m_X0_longestQueue : mDat := (y_X0_longestQueue, prog_2_method_9_code, 3, some .int, (1, 0, 0), t_X0_longestQueue, [], cp_X0)
def m_X0_firstLongest : mDat := (y_X0_firstLongest, prog_2_method_10_code, 3, some .int, (1, 0, 0), t_X0_firstLongest, [], cp_X0)
def m_X0_queueOf : mDat := (y_X0_queueOf, prog_2_method_11_code, 4, some .int, (1, 0, 1), t_X0_queueOf, [], cp_X0)
def m_X0_calledSet : mDat := (y_X0_calledSet, prog_2_method_12_code, 1, some .int, (1, 0, 0), t_X0_calledSet, [], cp_X0)
def m_X0_onFootSet : mDat := (y_X0_onFootSet, prog_2_method_13_code, 1, some .int, (1, 0, 0), t_X0_onFootSet, [], cp_X0)
def m_X0_askedSet : mDat := (y_X0_askedSet, prog_2_method_14_code, 1, some .int, (1, 0, 0), t_X0_askedSet, [], cp_X0)
def m_X0_shownSet : mDat := (y_X0_shownSet, prog_2_method_15_code, 1, some .int, (1, 0, 0), t_X0_shownSet, [], cp_X0)
def m_X0_shownBy : mDat := (y_X0_shownBy, prog_2_method_16_code, 2, some .int, (1, 0, 1), t_X0_shownBy, [], cp_X0)
def m_X0_hasReached : mDat := (y_X0_hasReached, prog_2_method_17_code, 3, some .boolean, (2, 0, 2), t_X0_hasReached, [], cp_X0)
def m_X0_putQueue : mDat := (y_X0_putQueue, prog_2_method_18_code, 3, none, (0, 0, 2), t_X0_putQueue, [], cp_X0)
def m_X0_takeCall : mDat := (y_X0_takeCall, prog_2_method_19_code, 2, none, (0, 0, 1), t_X0_takeCall, [], cp_X0)
def m_X0_callOthers : mDat := (y_X0_callOthers, prog_2_method_20_code, 3, none, (0, 0, 1), t_X0_callOthers, [], cp_X0)
def m_X0_takeCycle : mDat := (y_X0_takeCycle, prog_2_method_21_code, 2, none, (0, 0, 1), t_X0_takeCycle, [], cp_X0)
def m_X0_takeComers : mDat := (y_X0_takeComers, prog_2_method_22_code, 6, some .int, (1, 0, 1), t_X0_takeComers, [2], cp_X0)
def m_X0_passTicks : mDat := (y_X0_passTicks, prog_2_method_23_code, 3, none, (0, 0, 1), t_X0_passTicks, [], cp_X0)
def m_X0_passTick : mDat := (y_X0_passTick, prog_2_method_24_code, 1, none, (0, 0, 0), t_X0_passTick, [], cp_X0)
def m_X0_moveClock : mDat := (y_X0_moveClock, prog_2_method_25_code, 3, none, (0, 0, 0), t_X0_moveClock, [], cp_X0)
def m_X0_aheadOfClock : mDat := (y_X0_aheadOfClock, prog_2_method_26_code, 3, some .int, (1, 0, 0), t_X0_aheadOfClock, [], cp_X0)
def m_X0_isForced : mDat := (y_X0_isForced, prog_2_method_27_code, 3, some .boolean, (2, 0, 1), t_X0_isForced, [], cp_X0)
def m_X0_ageRing : mDat := (y_X0_ageRing, prog_2_method_28_code, 2, none, (0, 0, 1), t_X0_ageRing, [], cp_X0)
def m_X0_ageGreen : mDat := (y_X0_ageGreen, prog_2_method_29_code, 4, none, (0, 0, 1), t_X0_ageGreen, [], cp_X0)
def m_X0_goTo : mDat := (y_X0_goTo, prog_2_method_30_code, 3, none, (0, 0, 2), t_X0_goTo, [], cp_X0)
def m_X0_turnGreen : mDat := (y_X0_turnGreen, prog_2_method_31_code, 4, none, (0, 0, 2), t_X0_turnGreen, [], cp_X0)
def m_X0_watch : mDat := (y_X0_watch, prog_2_method_32_code, 2, none, (0, 0, 0), t_X0_watch, [], cp_X0)
def m_X0_isDone : mDat := (y_X0_isDone, prog_2_method_33_code, 3, some .boolean, (2, 0, 1), t_X0_isDone, [], cp_X0)
def m_X0_moveOn : mDat := (y_X0_moveOn, prog_2_method_34_code, 6, none, (0, 0, 0), t_X0_moveOn, [], cp_X0)
def m_X0_leaveToNext : mDat := (y_X0_leaveToNext, prog_2_method_35_code, 5, some .boolean, (2, 0, 2), t_X0_leaveToNext, [], cp_X0)
def m_X0_moveTogether : mDat := (y_X0_moveTogether, prog_2_method_36_code, 4, none, (0, 0, 1), t_X0_moveTogether, [], cp_X0)
def m_X0_crossOver : mDat := (y_X0_crossOver, prog_2_method_37_code, 4, none, (0, 0, 3), t_X0_crossOver, [], cp_X0)
def m_X0_turnBack : mDat := (y_X0_turnBack, prog_2_method_38_code, 4, none, (0, 0, 2), t_X0_turnBack, [], cp_X0)
def m_X0_moveBreaks : mDat := (y_X0_moveBreaks, prog_2_method_39_code, 1, none, (0, 0, 0), t_X0_moveBreaks, [], cp_X0)
def m_X0_beginWanted : mDat := (y_X0_beginWanted, prog_2_method_40_code, 1, none, (0, 0, 0), t_X0_beginWanted, [], cp_X0)
def m_X0_beginBreak : mDat := (y_X0_beginBreak, prog_2_method_41_code, 2, none, (0, 0, 1), t_X0_beginBreak, [], cp_X0)
def m_X0_dropBreak : mDat := (y_X0_dropBreak, prog_2_method_42_code, 1, none, (0, 0, 0), t_X0_dropBreak, [], cp_X0)
def m_X0_seek : mDat := (y_X0_seek, prog_2_method_43_code, 4, none, (0, 0, 1), t_X0_seek, [], cp_X0)
def m_X0_steer : mDat := (y_X0_steer, prog_2_method_44_code, 3, none, (0, 0, 2), t_X0_steer, [], cp_X0)
def m_X0_isThere : mDat := (y_X0_isThere, prog_2_method_45_code, 3, some .boolean, (2, 0, 2), t_X0_isThere, [], cp_X0)
def m_X0_stayOnTrack : mDat := (y_X0_stayOnTrack, prog_2_method_46_code, 1, none, (0, 0, 0), t_X0_stayOnTrack, [], cp_X0)
def m_X0_stayOnDwell : mDat := (y_X0_stayOnDwell, prog_2_method_47_code, 1, none, (0, 0, 0), t_X0_stayOnDwell, [], cp_X0)
def m_X0_resume : mDat := (y_X0_resume, prog_2_method_48_code, 2, none, (0, 0, 0), t_X0_resume, [], cp_X0)
def m_X1_wipe : mDat := (y_X1_wipe, prog_3_method_2_code, 1, none, (0, 1, 0), t_X1_wipe, [], cp_X1)
def m_X1_takeFrom : mDat := (y_X1_takeFrom, prog_3_method_3_code, 2, none, (0, 1, 1), t_X1_takeFrom, [], cp_X1)
def m_X1_note : mDat := (y_X1_note, prog_3_method_4_code, 4, none, (0, 1, 3), t_X1_note, [], cp_X1)
def m_X1_tell : mDat := (y_X1_tell, prog_3_method_5_code, 4, some .int, (1, 1, 2), t_X1_tell, [], cp_X1)
def m_X2_wipe : mDat := (y_X2_wipe, prog_4_method_2_code, 1, none, (0, 2, 0), t_X2_wipe, [], cp_X2)
def m_X2_takeFrom : mDat := (y_X2_takeFrom, prog_4_method_3_code, 2, none, (0, 2, 1), t_X2_takeFrom, [], cp_X2)
def m_X2_addPhase : mDat := (y_X2_addPhase, prog_4_method_4_code, 4, none, (0, 2, 2), t_X2_addPhase, [], cp_X2)
def m_X2_hasPhase : mDat := (y_X2_hasPhase, prog_4_method_5_code, 2, some .boolean, (2, 2, 1), t_X2_hasPhase, [], cp_X2)
def m_X2_allSet : mDat := (y_X2_allSet, prog_4_method_6_code, 1, some .int, (1, 2, 0), t_X2_allSet, [], cp_X2)
def m_X2_hasAll : mDat := (y_X2_hasAll, prog_4_method_7_code, 2, some .boolean, (2, 2, 1), t_X2_hasAll, [], cp_X2)
def m_X2_markOf : mDat := (y_X2_markOf, prog_4_method_8_code, 4, some .int, (1, 2, 2), t_X2_markOf, [], cp_X2)
def m_X2_putMark : mDat := (y_X2_putMark, prog_4_method_9_code, 4, none, (0, 2, 3), t_X2_putMark, [], cp_X2)
def m_X2_breakOf : mDat := (y_X2_breakOf, prog_4_method_10_code, 3, some .int, (1, 2, 2), t_X2_breakOf, [], cp_X2)
def m_X2_putBreak : mDat := (y_X2_putBreak, prog_4_method_11_code, 4, none, (0, 2, 3), t_X2_putBreak, [], cp_X2)
def m_X2_partOf : mDat := (y_X2_partOf, prog_4_method_12_code, 4, some .int, (1, 2, 2), t_X2_partOf, [], cp_X2)
def m_X2_sideSet : mDat := (y_X2_sideSet, prog_4_method_13_code, 2, some .int, (1, 2, 1), t_X2_sideSet, [], cp_X2)
def m_X2_foesOf : mDat := (y_X2_foesOf, prog_4_method_14_code, 2, some .int, (1, 2, 1), t_X2_foesOf, [], cp_X2)
def m_X2_holdsFoes : mDat := (y_X2_holdsFoes, prog_4_method_15_code, 2, some .boolean, (2, 2, 1), t_X2_holdsFoes, [], cp_X2)
def m_X2_firstWithFoe : mDat := (y_X2_firstWithFoe, prog_4_method_16_code, 3, some .int, (1, 2, 1), t_X2_firstWithFoe, [], cp_X2)
def m_X2_isFull : mDat := (y_X2_isFull, prog_4_method_17_code, 4, some .boolean, (2, 2, 1), t_X2_isFull, [], cp_X2)
def m_X2_firstOfRow : mDat := (y_X2_firstOfRow, prog_4_method_18_code, 3, some .int, (1, 2, 1), t_X2_firstOfRow, [], cp_X2)
def m_X2_endOf : mDat := (y_X2_endOf, prog_4_method_19_code, 7, some .int, (1, 2, 1), t_X2_endOf, [], cp_X2)
def m_X3_readText : mDat := (y_X3_readText, prog_5_method_2_code, 3, none, (0, 3, 1), t_X3_readText, [], cp_X3)
def m_X3_fail : mDat := (y_X3_fail, prog_5_method_3_code, 2, none, (0, 3, 1), t_X3_fail, [], cp_X3)
def m_X3_step : mDat := (y_X3_step, prog_5_method_4_code, 2, none, (0, 3, 0), t_X3_step, [], cp_X3)
def m_X3_behind : mDat := (y_X3_behind, prog_5_method_5_code, 4, some .int, (1, 3, 2), t_X3_behind, [], cp_X3)
def m_X3_kindAt : mDat := (y_X3_kindAt, prog_5_method_6_code, 3, some .int, (1, 3, 1), t_X3_kindAt, [], cp_X3)
def m_X3_signAt : mDat := (y_X3_signAt, prog_5_method_7_code, 2, some .int, (1, 3, 1), t_X3_signAt, [], cp_X3)
def m_X3_isWord : mDat := (y_X3_isWord, prog_5_method_8_code, 3, some .boolean, (2, 3, 1), t_X3_isWord, [], cp_X3)
def m_X3_endLine : mDat := (y_X3_endLine, prog_5_method_9_code, 1, none, (0, 3, 0), t_X3_endLine, [], cp_X3)
def m_X3_takeWord : mDat := (y_X3_takeWord, prog_5_method_10_code, 2, none, (0, 3, 1), t_X3_takeWord, [], cp_X3)
def m_X3_takeNumber : mDat := (y_X3_takeNumber, prog_5_method_11_code, 4, some .int, (1, 3, 2), t_X3_takeNumber, [], cp_X3)
def m_X3_takeSet : mDat := (y_X3_takeSet, prog_5_method_12_code, 1, some .int, (1, 3, 0), t_X3_takeSet, [], cp_X3)
def m_X3_readPhase : mDat := (y_X3_readPhase, prog_5_method_13_code, 3, none, (0, 3, 0), t_X3_readPhase, [], cp_X3)
def m_X3_readMarks : mDat := (y_X3_readMarks, prog_5_method_14_code, 5, none, (0, 3, 1), t_X3_readMarks, [], cp_X3)
def m_X3_markHere : mDat := (y_X3_markHere, prog_5_method_15_code, 2, some .int, (1, 3, 0), t_X3_markHere, [], cp_X3)
def m_X3_wordOf : mDat := (y_X3_wordOf, prog_5_method_16_code, 1, some (.object "java/lang/String"), (5, 99, 1), t_X3_wordOf, [], cp_X3)
def m_X3_tellOnce : mDat := (y_X3_tellOnce, prog_5_method_17_code, 2, none, (0, 3, 1), t_X3_tellOnce, [], cp_X3)
def m_X3_readCycle : mDat := (y_X3_readCycle, prog_5_method_18_code, 1, none, (0, 3, 0), t_X3_readCycle, [], cp_X3)
def m_X3_readOffset : mDat := (y_X3_readOffset, prog_5_method_19_code, 1, none, (0, 3, 0), t_X3_readOffset, [], cp_X3)
def m_X3_readBreak : mDat := (y_X3_readBreak, prog_5_method_20_code, 2, none, (0, 3, 0), t_X3_readBreak, [], cp_X3)
def m_X4_takeFrom : mDat := (y_X4_takeFrom, prog_6_method_2_code, 2, none, (0, 4, 1), t_X4_takeFrom, [], cp_X4)
def m_X4_holds : mDat := (y_X4_holds, prog_6_method_3_code, 1, some .boolean, (2, 4, 0), t_X4_holds, [], cp_X4)
def m_X4_isGreen : mDat := (y_X4_isGreen, prog_6_method_4_code, 1, some .boolean, (2, 4, 0), t_X4_isGreen, [], cp_X4)
def m_X4_waitFor : mDat := (y_X4_waitFor, prog_6_method_5_code, 2, none, (0, 4, 1), t_X4_waitFor, [], cp_X4)
def m_X4_turnGreen : mDat := (y_X4_turnGreen, prog_6_method_6_code, 3, none, (0, 4, 2), t_X4_turnGreen, [], cp_X4)
def m_X4_turnYellow : mDat := (y_X4_turnYellow, prog_6_method_7_code, 2, none, (0, 4, 1), t_X4_turnYellow, [], cp_X4)
def m_X4_growDark : mDat := (y_X4_growDark, prog_6_method_8_code, 3, none, (0, 4, 2), t_X4_growDark, [], cp_X4)
def m_X4_walkOn : mDat := (y_X4_walkOn, prog_6_method_9_code, 3, none, (0, 4, 2), t_X4_walkOn, [], cp_X4)
def m_X5_status : mDat := (y_X5_status, prog_1_method_2_code, 1, some .int, (1, 5, 0), t_X5_status, [], cp_X5)
def m_X5_feed : mDat := (y_X5_feed, prog_1_method_3_code, 6, some .int, (1, 5, 5), t_X5_feed, [], cp_X5)
def m_X5_load : mDat := (y_X5_load, prog_1_method_4_code, 2, some .int, (1, 5, 1), t_X5_load, [], cp_X5)
def m_X5_fault : mDat := (y_X5_fault, prog_1_method_5_code, 2, some .int, (1, 5, 1), t_X5_fault, [], cp_X5)
def m_X5_many : mDat := (y_X5_many, prog_1_method_6_code, 2, some .int, (1, 5, 1), t_X5_many, [], cp_X5)
def m_X5_ring : mDat := (y_X5_ring, prog_1_method_7_code, 3, some .int, (1, 5, 2), t_X5_ring, [], cp_X5)
def m_X5_phase : mDat := (y_X5_phase, prog_1_method_8_code, 3, some .int, (1, 5, 2), t_X5_phase, [], cp_X5)
def m_X5_marked : mDat := (y_X5_marked, prog_1_method_9_code, 3, some .int, (1, 5, 2), t_X5_marked, [], cp_X5)
def m_X5_brake : mDat := (y_X5_brake, prog_1_method_10_code, 3, some .int, (1, 5, 2), t_X5_brake, [], cp_X5)
def m_X5_sum : mDat := (y_X5_sum, prog_1_method_11_code, 2, some .int, (1, 5, 1), t_X5_sum, [], cp_X5)
def m_X5_event : mDat := (y_X5_event, prog_1_method_12_code, 3, some .int, (1, 5, 2), t_X5_event, [], cp_X5)
def m_X5_mark : mDat := (y_X5_mark, prog_1_method_13_code, 5, some .int, (1, 5, 3), t_X5_mark, [], cp_X5)
def m_X5_clock : mDat := (y_X5_clock, prog_1_method_14_code, 4, some .int, (1, 5, 2), t_X5_clock, [], cp_X5)
def m_X5_call : mDat := (y_X5_call, prog_1_method_15_code, 3, some .boolean, (2, 5, 2), t_X5_call, [], cp_X5)
def m_X5_come : mDat := (y_X5_come, prog_1_method_16_code, 4, some .int, (1, 5, 2), t_X5_come, [], cp_X5)
def m_X5_ask : mDat := (y_X5_ask, prog_1_method_17_code, 2, some .boolean, (2, 5, 1), t_X5_ask, [], cp_X5)
def m_X5_let : mDat := (y_X5_let, prog_1_method_18_code, 2, some .boolean, (2, 5, 1), t_X5_let, [], cp_X5)
def m_X5_brakes : mDat := (y_X5_brakes, prog_1_method_19_code, 7, some .boolean, (2, 5, 6), t_X5_brakes, [], cp_X5)
def m_X5_stick : mDat := (y_X5_stick, prog_1_method_20_code, 3, some .boolean, (2, 5, 2), t_X5_stick, [], cp_X5)
def m_X5_reset : mDat := (y_X5_reset, prog_1_method_21_code, 1, some .boolean, (2, 5, 0), t_X5_reset, [], cp_X5)
def m_X5_tick : mDat := (y_X5_tick, prog_1_method_22_code, 2, some .int, (1, 5, 1), t_X5_tick, [], cp_X5)
def m_X5_run : mDat := (y_X5_run, prog_1_method_23_code, 6, some .int, (1, 5, 2), t_X5_run, [], cp_X5)
def m_X5_keep : mDat := (y_X5_keep, prog_1_method_24_code, 1, some .int, (1, 5, 0), t_X5_keep, [], cp_X5)
def m_X5_back : mDat := (y_X5_back, prog_1_method_25_code, 1, some .int, (1, 5, 0), t_X5_back, [], cp_X5)
def m_X5_foes : mDat := (y_X5_foes, prog_1_method_26_code, 3, some .int, (1, 5, 2), t_X5_foes, [], cp_X5)
def m_X5_sets : mDat := (y_X5_sets, prog_1_method_27_code, 7, some .int, (1, 5, 1), t_X5_sets, [], cp_X5)
def m_X5_when : mDat := (y_X5_when, prog_1_method_28_code, 2, some .int, (1, 5, 1), t_X5_when, [], cp_X5)
def m_X5_worst : mDat := (y_X5_worst, prog_1_method_29_code, 2, some .int, (1, 5, 1), t_X5_worst, [], cp_X5)
def m_X5_cleared : mDat := (y_X5_cleared, prog_1_method_30_code, 1, some .int, (1, 5, 0), t_X5_cleared, [], cp_X5)
def m_X5_instep : mDat := (y_X5_instep, prog_1_method_31_code, 1, some .int, (1, 5, 0), t_X5_instep, [], cp_X5)
def m_X5_broken : mDat := (y_X5_broken, prog_1_method_32_code, 2, some .int, (1, 5, 1), t_X5_broken, [], cp_X5)
def m_X5_paper : mDat := (y_X5_paper, prog_1_method_33_code, 3, some .int, (1, 5, 2), t_X5_paper, [], cp_X5)
def m_X5_bestMax : mDat := (y_X5_bestMax, prog_1_method_34_code, 6, some .int, (1, 5, 2), t_X5_bestMax, [], cp_X5)
def m_X5_cheapest : mDat := (y_X5_cheapest, prog_1_method_35_code, 5, some .int, (1, 5, 1), t_X5_cheapest, [], cp_X5)
def m_X5_answer : mDat := (y_X5_answer, prog_1_method_36_code, 2, some .int, (1, 5, 1), t_X5_answer, [], cp_X5)
def m_X5_refuse : mDat := (y_X5_refuse, prog_1_method_37_code, 2, some .int, (1, 5, 1), t_X5_refuse, [], cp_X5)
def m_X5_grant : mDat := (y_X5_grant, prog_1_method_38_code, 1, some .boolean, (2, 5, 0), t_X5_grant, [], cp_X5)
def m_X5_deny : mDat := (y_X5_deny, prog_1_method_39_code, 2, some .boolean, (2, 5, 1), t_X5_deny, [], cp_X5)
def m_X5_tapeFour : mDat := (y_X5_tapeFour, prog_1_method_40_code, 3, none, (0, 5, 1), t_X5_tapeFour, [], cp_X5)
def m_X5_keptAt : mDat := (y_X5_keptAt, prog_1_method_41_code, 2, some (.object "RingedLights$Crossing"), (5, 5, 1), t_X5_keptAt, [], cp_X5)
def m_X5_ticksUntil : mDat := (y_X5_ticksUntil, prog_1_method_42_code, 4, some .int, (1, 5, 2), t_X5_ticksUntil, [], cp_X5)
def m_X5_isBreak : mDat := (y_X5_isBreak, prog_1_method_43_code, 1, some .boolean, (2, 99, 1), t_X5_isBreak, [], cp_X5)
def m_X5_isCycle : mDat := (y_X5_isCycle, prog_1_method_44_code, 1, some .boolean, (2, 99, 1), t_X5_isCycle, [], cp_X5)
def m_X5_isOffset : mDat := (y_X5_isOffset, prog_1_method_45_code, 1, some .boolean, (2, 99, 1), t_X5_isOffset, [], cp_X5)
def m_X5_isDwell : mDat := (y_X5_isDwell, prog_1_method_46_code, 1, some .boolean, (2, 99, 1), t_X5_isDwell, [], cp_X5)
def m_X5_cell : mDat := (y_X5_cell, prog_1_method_47_code, 2, some .int, (1, 99, 2), t_X5_cell, [], cp_X5)
def m_X5_put : mDat := (y_X5_put, prog_1_method_48_code, 3, none, (0, 99, 3), t_X5_put, [], cp_X5)
def m_X5_copyRow : mDat := (y_X5_copyRow, prog_1_method_49_code, 2, none, (0, 99, 2), t_X5_copyRow, [], cp_X5)
def m_X5_fillRow : mDat := (y_X5_fillRow, prog_1_method_50_code, 3, none, (0, 99, 2), t_X5_fillRow, [], cp_X5)
def m_X5_total : mDat := (y_X5_total, prog_1_method_51_code, 3, some .int, (1, 99, 1), t_X5_total, [], cp_X5)
def m_X5_bit : mDat := (y_X5_bit, prog_1_method_52_code, 1, some .int, (1, 99, 1), t_X5_bit, [], cp_X5)
def m_X5_withBit : mDat := (y_X5_withBit, prog_1_method_53_code, 3, some .int, (1, 99, 3), t_X5_withBit, [], cp_X5)
def m_X5_inSet : mDat := (y_X5_inSet, prog_1_method_54_code, 2, some .boolean, (2, 99, 2), t_X5_inSet, [], cp_X5)
def m_X5_firstIn : mDat := (y_X5_firstIn, prog_1_method_55_code, 2, some .int, (1, 99, 1), t_X5_firstIn, [], cp_X5)
def m_X6_status : mDat := (y_X6_status, prog_8_method_2_code, 1, some .int, (1, 6, 0), t_X6_status, [], cp_X6)
def m_X6_refuse : mDat := (y_X6_refuse, prog_8_method_3_code, 2, some .int, (1, 6, 1), t_X6_refuse, [], cp_X6)
def m_X6_isSo : mDat := (y_X6_isSo, prog_8_method_4_code, 2, some .boolean, (2, 6, 1), t_X6_isSo, [], cp_X6)
def m_X6_gives : mDat := (y_X6_gives, prog_8_method_5_code, 2, some .int, (1, 6, 1), t_X6_gives, [], cp_X6)
def m_X6_isFrom : mDat := (y_X6_isFrom, prog_8_method_6_code, 3, some .boolean, (2, 99, 3), t_X6_isFrom, [], cp_X6)
def m_X6_has : mDat := (y_X6_has, prog_8_method_7_code, 2, some .boolean, (2, 99, 2), t_X6_has, [], cp_X6)
def m_X6_left : mDat := (y_X6_left, prog_8_method_8_code, 3, some .int, (1, 99, 2), t_X6_left, [], cp_X6)
def m_X6_of : mDat := (y_X6_of, prog_8_method_9_code, 2, some .int, (1, 6, 1), t_X6_of, [], cp_X6)
def m_X6_puts : mDat := (y_X6_puts, prog_8_method_10_code, 3, none, (0, 6, 2), t_X6_puts, [], cp_X6)
def m_X6_adds : mDat := (y_X6_adds, prog_8_method_11_code, 3, none, (0, 6, 2), t_X6_adds, [], cp_X6)
def m_X6_copies : mDat := (y_X6_copies, prog_8_method_12_code, 4, none, (0, 6, 2), t_X6_copies, [], cp_X6)
def m_X6_ring : mDat := (y_X6_ring, prog_8_method_13_code, 1, some .int, (1, 99, 1), t_X6_ring, [], cp_X6)
def m_X6_ofRing : mDat := (y_X6_ofRing, prog_8_method_14_code, 3, some .int, (1, 6, 2), t_X6_ofRing, [], cp_X6)
def m_X6_putsRing : mDat := (y_X6_putsRing, prog_8_method_15_code, 4, none, (0, 6, 3), t_X6_putsRing, [], cp_X6)
def m_X6_ofPhase : mDat := (y_X6_ofPhase, prog_8_method_16_code, 3, some .int, (1, 6, 2), t_X6_ofPhase, [], cp_X6)
def m_X6_putsPhase : mDat := (y_X6_putsPhase, prog_8_method_17_code, 4, none, (0, 6, 3), t_X6_putsPhase, [], cp_X6)
def m_X6_mark : mDat := (y_X6_mark, prog_8_method_18_code, 3, some .int, (1, 6, 2), t_X6_mark, [], cp_X6)
def m_X6_isPhase : mDat := (y_X6_isPhase, prog_8_method_19_code, 2, some .boolean, (2, 6, 1), t_X6_isPhase, [], cp_X6)
def m_X6_begins : mDat := (y_X6_begins, prog_8_method_20_code, 2, none, (0, 6, 0), t_X6_begins, [], cp_X6)
def m_X6_areFoes : mDat := (y_X6_areFoes, prog_8_method_21_code, 3, some .boolean, (2, 6, 2), t_X6_areFoes, [], cp_X6)
def m_X6_foesOf : mDat := (y_X6_foesOf, prog_8_method_22_code, 4, some .int, (1, 6, 1), t_X6_foesOf, [], cp_X6)
def m_X6_isPeace : mDat := (y_X6_isPeace, prog_8_method_23_code, 3, some .boolean, (2, 6, 1), t_X6_isPeace, [], cp_X6)
def m_X6_firstOf : mDat := (y_X6_firstOf, prog_8_method_24_code, 6, some .int, (1, 6, 4), t_X6_firstOf, [], cp_X6)
def m_X6_starts : mDat := (y_X6_starts, prog_8_method_25_code, 3, none, (0, 6, 0), t_X6_starts, [], cp_X6)
def m_X6_clearsRing : mDat := (y_X6_clearsRing, prog_8_method_26_code, 3, none, (0, 6, 1), t_X6_clearsRing, [], cp_X6)
def m_X6_isCalled : mDat := (y_X6_isCalled, prog_8_method_27_code, 2, some .boolean, (2, 6, 1), t_X6_isCalled, [], cp_X6)
def m_X6_isOnFoot : mDat := (y_X6_isOnFoot, prog_8_method_28_code, 2, some .boolean, (2, 6, 1), t_X6_isOnFoot, [], cp_X6)
def m_X6_isAsked : mDat := (y_X6_isAsked, prog_8_method_29_code, 2, some .boolean, (2, 6, 1), t_X6_isAsked, [], cp_X6)
def m_X6_isFoeAsked : mDat := (y_X6_isFoeAsked, prog_8_method_30_code, 3, some .boolean, (2, 6, 1), t_X6_isFoeAsked, [], cp_X6)
def m_X6_isHolding : mDat := (y_X6_isHolding, prog_8_method_31_code, 2, some .boolean, (2, 6, 1), t_X6_isHolding, [], cp_X6)
def m_X6_isGreen : mDat := (y_X6_isGreen, prog_8_method_32_code, 2, some .boolean, (2, 6, 1), t_X6_isGreen, [], cp_X6)
def m_X6_happens : mDat := (y_X6_happens, prog_8_method_33_code, 4, none, (0, 6, 2), t_X6_happens, [], cp_X6)
def m_X6_becomesGreen : mDat := (y_X6_becomesGreen, prog_8_method_34_code, 4, none, (0, 6, 2), t_X6_becomesGreen, [], cp_X6)
def m_X6_leaves : mDat := (y_X6_leaves, prog_8_method_35_code, 4, none, (0, 6, 2), t_X6_leaves, [], cp_X6)
def m_X6_goes : mDat := (y_X6_goes, prog_8_method_36_code, 3, none, (0, 6, 2), t_X6_goes, [], cp_X6)
def m_X6_drawBy : mDat := (y_X6_drawBy, prog_8_method_37_code, 2, some .int, (1, 6, 1), t_X6_drawBy, [], cp_X6)
def m_X6_comers : mDat := (y_X6_comers, prog_8_method_38_code, 2, none, (0, 6, 0), t_X6_comers, [], cp_X6)
def m_X6_due : mDat := (y_X6_due, prog_8_method_39_code, 1, some .int, (1, 6, 0), t_X6_due, [], cp_X6)
def m_X6_clockGoes : mDat := (y_X6_clockGoes, prog_8_method_40_code, 3, none, (0, 6, 0), t_X6_clockGoes, [], cp_X6)
def m_X6_greenGoes : mDat := (y_X6_greenGoes, prog_8_method_41_code, 4, none, (0, 6, 1), t_X6_greenGoes, [], cp_X6)
def m_X6_ringGoes : mDat := (y_X6_ringGoes, prog_8_method_42_code, 4, none, (0, 6, 1), t_X6_ringGoes, [], cp_X6)
def m_X6_endOf : mDat := (y_X6_endOf, prog_8_method_43_code, 5, some .int, (1, 6, 1), t_X6_endOf, [], cp_X6)
def m_X6_isForced : mDat := (y_X6_isForced, prog_8_method_44_code, 2, some .boolean, (2, 6, 1), t_X6_isForced, [], cp_X6)
def m_X6_isFirst : mDat := (y_X6_isFirst, prog_8_method_45_code, 4, some .boolean, (2, 6, 1), t_X6_isFirst, [], cp_X6)
def m_X6_isDone : mDat := (y_X6_isDone, prog_8_method_46_code, 4, some .boolean, (2, 6, 1), t_X6_isDone, [], cp_X6)
def m_X6_goesOn : mDat := (y_X6_goesOn, prog_8_method_47_code, 8, none, (0, 6, 0), t_X6_goesOn, [], cp_X6)
def m_X6_becomes : mDat := (y_X6_becomes, prog_8_method_48_code, 3, none, (0, 6, 0), t_X6_becomes, [], cp_X6)
def m_X6_shown : mDat := (y_X6_shown, prog_8_method_49_code, 3, some .int, (1, 6, 0), t_X6_shown, [], cp_X6)
def m_X6_watches : mDat := (y_X6_watches, prog_8_method_50_code, 4, none, (0, 6, 0), t_X6_watches, [], cp_X6)
def m_X6_queues : mDat := (y_X6_queues, prog_8_method_51_code, 3, some .int, (1, 6, 0), t_X6_queues, [], cp_X6)
def m_X6_ticks : mDat := (y_X6_ticks, prog_8_method_52_code, 3, none, (0, 6, 1), t_X6_ticks, [], cp_X6)
def m_X6_ofBreak : mDat := (y_X6_ofBreak, prog_8_method_53_code, 3, some .int, (1, 6, 2), t_X6_ofBreak, [], cp_X6)
def m_X6_noBreak : mDat := (y_X6_noBreak, prog_8_method_54_code, 1, none, (0, 6, 0), t_X6_noBreak, [], cp_X6)
def m_X6_isStage : mDat := (y_X6_isStage, prog_8_method_55_code, 2, none, (0, 6, 1), t_X6_isStage, [], cp_X6)
def m_X6_breakBegins : mDat := (y_X6_breakBegins, prog_8_method_56_code, 2, none, (0, 6, 1), t_X6_breakBegins, [], cp_X6)
def m_X6_breakEnds : mDat := (y_X6_breakEnds, prog_8_method_57_code, 1, none, (0, 6, 0), t_X6_breakEnds, [], cp_X6)
def m_X6_goal : mDat := (y_X6_goal, prog_8_method_58_code, 4, some .int, (1, 6, 1), t_X6_goal, [], cp_X6)
def m_X6_goesTo : mDat := (y_X6_goesTo, prog_8_method_59_code, 3, none, (0, 6, 1), t_X6_goesTo, [], cp_X6)
def m_X6_breaks : mDat := (y_X6_breaks, prog_8_method_60_code, 3, none, (0, 6, 0), t_X6_breaks, [], cp_X6)
def m_X6_staged : mDat := (y_X6_staged, prog_8_method_61_code, 3, none, (0, 6, 0), t_X6_staged, [], cp_X6)
def m_X6_feed : mDat := (y_X6_feed, prog_8_method_62_code, 6, some .int, (1, 6, 5), t_X6_feed, [], cp_X6)
def m_X6_four : mDat := (y_X6_four, prog_8_method_63_code, 3, none, (0, 6, 1), t_X6_four, [], cp_X6)
def m_X6_byteAt : mDat := (y_X6_byteAt, prog_8_method_64_code, 2, some .int, (1, 6, 1), t_X6_byteAt, [], cp_X6)
def m_X6_isSmall : mDat := (y_X6_isSmall, prog_8_method_65_code, 1, some .boolean, (2, 99, 1), t_X6_isSmall, [], cp_X6)
def m_X6_isDigit : mDat := (y_X6_isDigit, prog_8_method_66_code, 1, some .boolean, (2, 99, 1), t_X6_isDigit, [], cp_X6)
def m_X6_ahead : mDat := (y_X6_ahead, prog_8_method_67_code, 2, none, (0, 6, 0), t_X6_ahead, [], cp_X6)
def m_X6_key : mDat := (y_X6_key, prog_8_method_68_code, 6, some .int, (1, 6, 0), t_X6_key, [], cp_X6)
def m_X6_fails : mDat := (y_X6_fails, prog_8_method_69_code, 2, some .boolean, (2, 6, 1), t_X6_fails, [], cp_X6)
def m_X6_takes : mDat := (y_X6_takes, prog_8_method_70_code, 1, some .boolean, (2, 6, 0), t_X6_takes, [], cp_X6)
def m_X6_takesNumber : mDat := (y_X6_takesNumber, prog_8_method_71_code, 3, some .boolean, (2, 6, 2), t_X6_takesNumber, [], cp_X6)
def m_X6_takesWord : mDat := (y_X6_takesWord, prog_8_method_72_code, 2, some .boolean, (2, 6, 1), t_X6_takesWord, [], cp_X6)
def m_X6_leastOf : mDat := (y_X6_leastOf, prog_8_method_73_code, 1, some .int, (1, 99, 1), t_X6_leastOf, [], cp_X6)
def m_X6_mostOf : mDat := (y_X6_mostOf, prog_8_method_74_code, 1, some .int, (1, 99, 1), t_X6_mostOf, [], cp_X6)
def m_X6_aPhase : mDat := (y_X6_aPhase, prog_8_method_75_code, 4, some .boolean, (2, 6, 0), t_X6_aPhase, [], cp_X6)
def m_X6_aSet : mDat := (y_X6_aSet, prog_8_method_76_code, 1, some .boolean, (2, 6, 0), t_X6_aSet, [], cp_X6)
def m_X6_aGoal : mDat := (y_X6_aGoal, prog_8_method_77_code, 3, some .boolean, (2, 6, 2), t_X6_aGoal, [], cp_X6)
def m_X6_aBreak : mDat := (y_X6_aBreak, prog_8_method_78_code, 2, some .boolean, (2, 6, 0), t_X6_aBreak, [], cp_X6)
def m_X6_isCycle : mDat := (y_X6_isCycle, prog_8_method_79_code, 1, some .boolean, (2, 99, 1), t_X6_isCycle, [], cp_X6)
def m_X6_aClock : mDat := (y_X6_aClock, prog_8_method_80_code, 2, some .boolean, (2, 6, 1), t_X6_aClock, [], cp_X6)
def m_X6_aLine : mDat := (y_X6_aLine, prog_8_method_81_code, 3, some .boolean, (2, 6, 0), t_X6_aLine, [], cp_X6)
def m_X6_load : mDat := (y_X6_load, prog_8_method_82_code, 3, some .int, (1, 6, 1), t_X6_load, [], cp_X6)
def m_X6_fault : mDat := (y_X6_fault, prog_8_method_83_code, 2, some .int, (1, 6, 1), t_X6_fault, [], cp_X6)
def m_X6_many : mDat := (y_X6_many, prog_8_method_84_code, 2, some .int, (1, 6, 1), t_X6_many, [], cp_X6)
def m_X6_ring_ : mDat := (y_X6_ring_, prog_8_method_85_code, 3, some .int, (1, 6, 2), t_X6_ring_, [], cp_X6)
def m_X6_lampOf : mDat := (y_X6_lampOf, prog_8_method_86_code, 3, some .int, (1, 6, 1), t_X6_lampOf, [], cp_X6)
def m_X6_phase : mDat := (y_X6_phase, prog_8_method_87_code, 3, some .int, (1, 6, 2), t_X6_phase, [], cp_X6)
def m_X6_marked : mDat := (y_X6_marked, prog_8_method_88_code, 3, some .int, (1, 6, 2), t_X6_marked, [], cp_X6)
def m_X6_brake : mDat := (y_X6_brake, prog_8_method_89_code, 3, some .int, (1, 6, 2), t_X6_brake, [], cp_X6)
def m_X6_greatest : mDat := (y_X6_greatest, prog_8_method_90_code, 3, some .int, (1, 6, 0), t_X6_greatest, [], cp_X6)
def m_X6_goneAll : mDat := (y_X6_goneAll, prog_8_method_91_code, 3, some .int, (1, 6, 0), t_X6_goneAll, [], cp_X6)
def m_X6_sum : mDat := (y_X6_sum, prog_8_method_92_code, 2, some .int, (1, 6, 1), t_X6_sum, [], cp_X6)
def m_X6_event : mDat := (y_X6_event, prog_8_method_93_code, 3, some .int, (1, 6, 2), t_X6_event, [], cp_X6)
def m_X6_mark_ : mDat := (y_X6_mark_, prog_8_method_94_code, 5, some .int, (1, 6, 3), t_X6_mark_, [], cp_X6)
def m_X6_clock : mDat := (y_X6_clock, prog_8_method_95_code, 4, some .int, (1, 6, 2), t_X6_clock, [], cp_X6)
def m_X6_calls : mDat := (y_X6_calls, prog_8_method_96_code, 3, none, (0, 6, 1), t_X6_calls, [], cp_X6)
def m_X6_call : mDat := (y_X6_call, prog_8_method_97_code, 3, some .boolean, (2, 6, 2), t_X6_call, [], cp_X6)
def m_X6_come : mDat := (y_X6_come, prog_8_method_98_code, 3, some .int, (1, 6, 2), t_X6_come, [], cp_X6)
def m_X6_isWanted : mDat := (y_X6_isWanted, prog_8_method_99_code, 3, some .boolean, (2, 6, 2), t_X6_isWanted, [], cp_X6)
def m_X6_ask : mDat := (y_X6_ask, prog_8_method_100_code, 2, some .boolean, (2, 6, 1), t_X6_ask, [], cp_X6)
def m_X6_let : mDat := (y_X6_let, prog_8_method_101_code, 2, some .boolean, (2, 6, 1), t_X6_let, [], cp_X6)
def m_X6_isSet : mDat := (y_X6_isSet, prog_8_method_102_code, 2, some .boolean, (2, 6, 1), t_X6_isSet, [], cp_X6)
def m_X6_brakes : mDat := (y_X6_brakes, prog_8_method_103_code, 8, some .boolean, (2, 6, 6), t_X6_brakes, [], cp_X6)
def m_X6_stick : mDat := (y_X6_stick, prog_8_method_104_code, 3, some .boolean, (2, 6, 2), t_X6_stick, [], cp_X6)
def m_X6_reset : mDat := (y_X6_reset, prog_8_method_105_code, 1, some .boolean, (2, 6, 0), t_X6_reset, [], cp_X6)
def m_X6_tick : mDat := (y_X6_tick, prog_8_method_106_code, 3, some .int, (1, 6, 1), t_X6_tick, [], cp_X6)
def m_X6_run : mDat := (y_X6_run, prog_8_method_107_code, 4, some .int, (1, 6, 2), t_X6_run, [], cp_X6)
def m_X6_keep : mDat := (y_X6_keep, prog_8_method_108_code, 1, some .int, (1, 6, 0), t_X6_keep, [], cp_X6)
def m_X6_back : mDat := (y_X6_back, prog_8_method_109_code, 1, some .int, (1, 6, 0), t_X6_back, [], cp_X6)
def m_X6_foes : mDat := (y_X6_foes, prog_8_method_110_code, 3, some .int, (1, 6, 2), t_X6_foes, [], cp_X6)
def m_X6_isFull : mDat := (y_X6_isFull, prog_8_method_111_code, 3, some .boolean, (2, 6, 1), t_X6_isFull, [], cp_X6)
def m_X6_queuesIn : mDat := (y_X6_queuesIn, prog_8_method_112_code, 4, some .int, (1, 6, 1), t_X6_queuesIn, [], cp_X6)
def m_X6_sets : mDat := (y_X6_sets, prog_8_method_113_code, 5, some .int, (1, 6, 1), t_X6_sets, [], cp_X6)
def m_X6_isGreenAt : mDat := (y_X6_isGreenAt, prog_8_method_114_code, 2, some .boolean, (2, 6, 1), t_X6_isGreenAt, [], cp_X6)
def m_X6_isReached : mDat := (y_X6_isReached, prog_8_method_115_code, 3, some .boolean, (2, 6, 2), t_X6_isReached, [], cp_X6)
def m_X6_callsOthers : mDat := (y_X6_callsOthers, prog_8_method_116_code, 3, none, (0, 6, 1), t_X6_callsOthers, [], cp_X6)
def m_X6_reaches : mDat := (y_X6_reaches, prog_8_method_117_code, 5, some .int, (1, 6, 2), t_X6_reaches, [], cp_X6)
def m_X6_when : mDat := (y_X6_when, prog_8_method_118_code, 2, some .int, (1, 6, 1), t_X6_when, [], cp_X6)
def m_X6_worst : mDat := (y_X6_worst, prog_8_method_119_code, 2, some .int, (1, 6, 1), t_X6_worst, [], cp_X6)
def m_X6_cleared : mDat := (y_X6_cleared, prog_8_method_120_code, 1, some .int, (1, 6, 0), t_X6_cleared, [], cp_X6)
def m_X6_instep : mDat := (y_X6_instep, prog_8_method_121_code, 1, some .int, (1, 6, 0), t_X6_instep, [], cp_X6)
def m_X6_broken : mDat := (y_X6_broken, prog_8_method_122_code, 2, some .int, (1, 6, 1), t_X6_broken, [], cp_X6)
def m_X6_waitsIn : mDat := (y_X6_waitsIn, prog_8_method_123_code, 4, some .int, (1, 6, 1), t_X6_waitsIn, [], cp_X6)
def m_X6_paper : mDat := (y_X6_paper, prog_8_method_124_code, 4, some .int, (1, 6, 2), t_X6_paper, [], cp_X6)
def m_X6_bestMax : mDat := (y_X6_bestMax, prog_8_method_125_code, 7, some .int, (1, 6, 2), t_X6_bestMax, [], cp_X6)
def m_X6_cheapest : mDat := (y_X6_cheapest, prog_8_method_126_code, 6, some .int, (1, 6, 1), t_X6_cheapest, [], cp_X6)
def m_J9_floorMod_7cf53 : mDat := (y_J9_floorMod_7cf53, prog_9_method_50_code, 3, some .int, (1, 99, 2), t_J9_floorMod_7cf53, [], cp_J9)
def m_J9_max_7cf53 : mDat := (y_J9_max_7cf53, prog_9_method_65_code, 2, some .int, (1, 99, 2), t_J9_max_7cf53, [], cp_J9)
def m_J9_min_7cf53 : mDat := (y_J9_min_7cf53, prog_9_method_69_code, 2, some .int, (1, 99, 2), t_J9_min_7cf53, [], cp_J9)
def m_J0_length_8abf5 : mDat := (y_J0_length_8abf5, prog_10_method_54_code, 1, some .int, (1, 7, 0), t_J0_length_8abf5, [], cp_J0)
def m_J0_charAt_5068e : mDat := (y_J0_charAt_5068e, prog_10_method_56_code, 2, some .char, (3, 7, 1), t_J0_charAt_5068e, [], cp_J0)
def m_J0_coder_7d493 : mDat := (y_J0_coder_7d493, prog_10_method_152_code, 1, some .byte, (4, 7, 0), t_J0_coder_7d493, [], cp_J0)
def m_J0_isLatin1_aae02 : mDat := (y_J0_isLatin1_aae02, prog_10_method_154_code, 1, some .boolean, (2, 7, 0), t_J0_isLatin1_aae02, [], cp_J0)
def m_J0_checkIndex_df160 : mDat := (y_J0_checkIndex_df160, prog_10_method_155_code, 2, none, (0, 99, 2), t_J0_checkIndex_df160, [], cp_J0)
def m_J1_charAt_3b067 : mDat := (y_J1_charAt_3b067, prog_11_method_2_code, 2, some .char, (3, 99, 2), t_J1_charAt_3b067, [], cp_J1)
def m_J3_checkIndex_8e157 : mDat := (y_J3_checkIndex_8e157, prog_14_method_11_code, 3, some .int, (1, 99, 3), t_J3_checkIndex_8e157, [], cp_J3)
def mDs : List mDat := [m_X0_takeFrom, m_X0_beginAnew, m_X0_startRings, m_X0_tellRing, m_X0_tellPhase, m_X0_lampOf, m_X0_isGreenAt, m_X0_longestQueue, m_X0_firstLongest, m_X0_queueOf, m_X0_calledSet, m_X0_onFootSet, m_X0_askedSet, m_X0_shownSet, m_X0_shownBy, m_X0_hasReached, m_X0_putQueue, m_X0_takeCall, m_X0_callOthers, m_X0_takeCycle, m_X0_takeComers, m_X0_passTicks, m_X0_passTick, m_X0_moveClock, m_X0_aheadOfClock, m_X0_isForced, m_X0_ageRing, m_X0_ageGreen, m_X0_goTo, m_X0_turnGreen, m_X0_watch, m_X0_isDone, m_X0_moveOn, m_X0_leaveToNext, m_X0_moveTogether, m_X0_crossOver, m_X0_turnBack, m_X0_moveBreaks, m_X0_beginWanted, m_X0_beginBreak, m_X0_dropBreak, m_X0_seek, m_X0_steer, m_X0_isThere, m_X0_stayOnTrack, m_X0_stayOnDwell, m_X0_resume, m_X1_wipe, m_X1_takeFrom, m_X1_note, m_X1_tell, m_X2_wipe, m_X2_takeFrom, m_X2_addPhase, m_X2_hasPhase, m_X2_allSet, m_X2_hasAll, m_X2_markOf, m_X2_putMark, m_X2_breakOf, m_X2_putBreak, m_X2_partOf, m_X2_sideSet, m_X2_foesOf, m_X2_holdsFoes, m_X2_firstWithFoe, m_X2_isFull, m_X2_firstOfRow, m_X2_endOf, m_X3_readText, m_X3_fail, m_X3_step, m_X3_behind, m_X3_kindAt, m_X3_signAt, m_X3_isWord, m_X3_endLine, m_X3_takeWord, m_X3_takeNumber, m_X3_takeSet, m_X3_readPhase, m_X3_readMarks, m_X3_markHere, m_X3_wordOf, m_X3_tellOnce, m_X3_readCycle, m_X3_readOffset, m_X3_readBreak, m_X4_takeFrom, m_X4_holds, m_X4_isGreen, m_X4_waitFor, m_X4_turnGreen, m_X4_turnYellow, m_X4_growDark, m_X4_walkOn, m_X5_status, m_X5_feed, m_X5_load, m_X5_fault, m_X5_many, m_X5_ring, m_X5_phase, m_X5_marked, m_X5_brake, m_X5_sum, m_X5_event, m_X5_mark, m_X5_clock, m_X5_call, m_X5_come, m_X5_ask, m_X5_let, m_X5_brakes, m_X5_stick, m_X5_reset, m_X5_tick, m_X5_run, m_X5_keep, m_X5_back, m_X5_foes, m_X5_sets, m_X5_when, m_X5_worst, m_X5_cleared, m_X5_instep, m_X5_broken, m_X5_paper, m_X5_bestMax, m_X5_cheapest, m_X5_answer, m_X5_refuse, m_X5_grant, m_X5_deny, m_X5_tapeFour, m_X5_keptAt, m_X5_ticksUntil, m_X5_isBreak, m_X5_isCycle, m_X5_isOffset, m_X5_isDwell, m_X5_cell, m_X5_put, m_X5_copyRow, m_X5_fillRow, m_X5_total, m_X5_bit, m_X5_withBit, m_X5_inSet, m_X5_firstIn, m_X6_status, m_X6_refuse, m_X6_isSo, m_X6_gives, m_X6_isFrom, m_X6_has, m_X6_left, m_X6_of, m_X6_puts, m_X6_adds, m_X6_copies, m_X6_ring, m_X6_ofRing, m_X6_putsRing, m_X6_ofPhase, m_X6_putsPhase, m_X6_mark, m_X6_isPhase, m_X6_begins, m_X6_areFoes, m_X6_foesOf, m_X6_isPeace, m_X6_firstOf, m_X6_starts, m_X6_clearsRing, m_X6_isCalled, m_X6_isOnFoot, m_X6_isAsked, m_X6_isFoeAsked, m_X6_isHolding, m_X6_isGreen, m_X6_happens, m_X6_becomesGreen, m_X6_leaves, m_X6_goes, m_X6_drawBy, m_X6_comers, m_X6_due, m_X6_clockGoes, m_X6_greenGoes, m_X6_ringGoes, m_X6_endOf, m_X6_isForced, m_X6_isFirst, m_X6_isDone, m_X6_goesOn, m_X6_becomes, m_X6_shown, m_X6_watches, m_X6_queues, m_X6_ticks, m_X6_ofBreak, m_X6_noBreak, m_X6_isStage, m_X6_breakBegins, m_X6_breakEnds, m_X6_goal, m_X6_goesTo, m_X6_breaks, m_X6_staged, m_X6_feed, m_X6_four, m_X6_byteAt, m_X6_isSmall, m_X6_isDigit, m_X6_ahead, m_X6_key, m_X6_fails, m_X6_takes, m_X6_takesNumber, m_X6_takesWord, m_X6_leastOf, m_X6_mostOf, m_X6_aPhase, m_X6_aSet, m_X6_aGoal, m_X6_aBreak, m_X6_isCycle, m_X6_aClock, m_X6_aLine, m_X6_load, m_X6_fault, m_X6_many, m_X6_ring_, m_X6_lampOf, m_X6_phase, m_X6_marked, m_X6_brake, m_X6_greatest, m_X6_goneAll, m_X6_sum, m_X6_event, m_X6_mark_, m_X6_clock, m_X6_calls, m_X6_call, m_X6_come, m_X6_isWanted, m_X6_ask, m_X6_let, m_X6_isSet, m_X6_brakes, m_X6_stick, m_X6_reset, m_X6_tick, m_X6_run, m_X6_keep, m_X6_back, m_X6_foes, m_X6_isFull, m_X6_queuesIn, m_X6_sets, m_X6_isGreenAt, m_X6_isReached, m_X6_callsOthers, m_X6_reaches, m_X6_when, m_X6_worst, m_X6_cleared, m_X6_instep, m_X6_broken, m_X6_waitsIn, m_X6_paper, m_X6_bestMax, m_X6_cheapest, m_J9_floorMod_7cf53, m_J9_max_7cf53, m_J9_min_7cf53, m_J0_length_8abf5, m_J0_charAt_5068e, m_J0_coder_7d493, m_J0_isLatin1_aae02, m_J0_checkIndex_df160, m_J1_charAt_3b067, m_J3_checkIndex_8e157]
def mNo : mDat := (⟨"", "", ""⟩, ⟨#[]⟩, 0, none, (0, 0, 0), [], [], [])
def mD (n : Nat) : mDat := mDs.getD n mNo
end
section
/-! From runs to functions: what a block does, loops, calls -/
section BASE
variable {X : mX} {call : Nat → List mV → mG → mR} {rt : Nat} {full cur : List mT} {L : mL} {st : List mV} {g : mG}
theorem mEv_fun : mEv X call rt full = mStep X call rt full (mEv X call rt full) := by
  funext a b c d
  exact mEv_eq b c d a
theorem mU_mU (g : mG) (i : Nat) (c c' : mC) : mU (mU g i c) i c' = mU g i c' := by
  funext j
  unfold mU
  by_cases h : j = i
  · rw [if_pos h, if_pos h]
  · rw [if_neg h, if_neg h, if_neg h]
theorem mU_self (g : mG) (i : Nat) : mU g i (g i) = g := by
  funext j
  unfold mU
  by_cases h : j = i
  · rw [if_pos h, h]
  · rw [if_neg h]
theorem mU_ne (g : mG) {i o : Nat} (c : mC) (h : o ≠ i) : mU g i c o = g o := by
  unfold mU
  rw [if_neg h]
def mBd {α β : Type} (x : α) (f : α → β) : β := f x
abbrev wN (g : mG) (x : Int32) : mR := some (some (mi x), g)
abbrev wI (g : mG) (i : Nat) (c : mC) (x : Int32) : mR := some (some (mi x), mU g i c)
abbrev wV (g : mG) (i : Nat) (c : mC) : mR := some (none, mU g i c)
abbrev wW (g : mG) (i : Nat) (x : Int32 × mC) : mR := some (some (mi x.1), mU g i x.2)
def wO {α : Type} (w : α → mR) : Option α → mR
  | none => none
  | some x => w x
def wB {S R : Type} (ev : S → mR) (w : R → mR) : S ⊕ R → mR
  | .inl s => ev s
  | .inr r => w r
theorem mw_ite {α : Type} {w : α → mR} {c : Prop} {hd : Decidable c} {a b : mR} {x y : α} (h1 : c → a = w x) (h2 : ¬ c → b = w y) : @ite _ c hd a b = w (@ite _ c hd x y) := by
  by_cases h : c
  · rw [if_pos h, if_pos h]; exact h1 h
  · rw [if_neg h, if_neg h]; exact h2 h
theorem mw_cI {α : Type} {w : α → mR} {k : mK} {nx : List mT} {x : mR} {v : Int32} {g : mG} {body : Int32 → α} (h : x = some (some (mi v), g)) (hk : ∀ z, k nx L (mi z :: st) g = w (body z)) : mAns k nx L st x = w (mBd v body) := by
  rw [h]; exact hk v
theorem mw_cV {α : Type} {w : α → mR} {k : mK} {nx : List mT} {x : mR} {c : mC} {i : Nat} {g : mG} {body : mC → α} (h : x = wV g i c) (hk : ∀ z, k nx L st (mU g i z) = w (body z)) : mAns k nx L st x = w (mBd c body) := by
  rw [h]; exact hk c
theorem mw_cW {α : Type} {w : α → mR} {k : mK} {nx : List mT} {x : mR} {c : Int32 × mC} {i : Nat} {g : mG} {body : Int32 × mC → α} (h : x = wW g i c) (hk : ∀ z : Int32 × mC, k nx L (mi z.1 :: st) (mU g i z.2) = w (body z)) : mAns k nx L st x = w (mBd c body) := by
  rw [h]; exact hk c
theorem mCall_eq {dat : Nat → mDat} {d a : Nat} {vs : List mV} (h : (Nat.ble vs.length (mdL (dat a)) && vs.all mNoL) = true) : mCall dat X (d + 1) a vs g = mEv X (mCall dat X d) (mdK (dat a)) (mdT (dat a)) (mdT (dat a)) (mL0 (mdL (dat a)) vs) [] g := by
  show (match Nat.ble vs.length (mdL (dat a)) && vs.all mNoL with
    | true => mEv X (mCall dat X d) (mdK (dat a)) (mdT (dat a)) (mdT (dat a)) (mL0 (mdL (dat a)) vs) [] g
    | false => none) = _
  rw [h]
/-- a loop, to its end -/
def mWn {S R : Type} (B : S → S ⊕ R) : Nat → S → Option R
  | 0, _ => none
  | n + 1, s => match B s with
    | .inl s' => mWn B n s'
    | .inr r => some r
def mTm {S R : Type} (B : S → S ⊕ R) : Prop := ∃ μ : S → Nat, ∀ s s', B s = .inl s' → μ s' < μ s
noncomputable def mWh {S R : Type} (dv : R) (B : S → S ⊕ R) (s : S) : R := by
  classical
  exact if h : ∃ n r, mWn B n s = some r then Classical.choose (Classical.choose_spec h) else dv
theorem mWn_mono {S R : Type} (B : S → S ⊕ R) : ∀ (n : Nat) (s : S) (r : R), mWn B n s = some r → mWn B (n + 1) s = some r
  | 0, _, _, h => by cases h
  | n + 1, s, r, h => by
    unfold mWn at h ⊢
    split at h
    next s' hs => exact mWn_mono B n s' r h
    next r' hr => exact h
theorem mWn_le {S R : Type} {B : S → S ⊕ R} {n m : Nat} {s : S} {r : R} (hn : n ≤ m) (h : mWn B n s = some r) : mWn B m s = some r := by
  induction hn with
  | refl => exact h
  | step _ ih => exact mWn_mono B _ s r ih
theorem mWh_of {S R : Type} {dv : R} {B : S → S ⊕ R} {n : Nat} {s : S} {r : R} (h : mWn B n s = some r) : mWh dv B s = r := by
  have h0 : ∃ n r, mWn B n s = some r := ⟨n, r, h⟩
  unfold mWh
  rw [dif_pos h0]
  have h1 := Classical.choose_spec (Classical.choose_spec h0)
  have a1 := mWn_le (Nat.le_max_left n (Classical.choose h0)) h
  have a2 := mWn_le (Nat.le_max_right n (Classical.choose h0)) h1
  rw [a1] at a2
  exact (Option.some.inj a2).symm
theorem mWn_ends {S R : Type} {B : S → S ⊕ R} (ht : mTm B) (s : S) : ∃ n r, mWn B n s = some r := by
  obtain ⟨μ, hμ⟩ := ht
  have : ∀ m s, μ s < m → ∃ n r, mWn B n s = some r := by
    intro m
    induction m with
    | zero => intro s h; omega
    | succ m ih =>
      intro s h
      cases hb : B s with
      | inr r => exact ⟨1, r, by unfold mWn; rw [hb]⟩
      | inl s' =>
        obtain ⟨n, r, hn⟩ := ih s' (by have := hμ s s' hb; omega)
        exact ⟨n + 1, r, by unfold mWn; rw [hb]; exact hn⟩
  exact this (μ s + 1) s (Nat.lt_succ_self _)
/-- the loop's equation -/
theorem mWh_eq {S R : Type} {dv : R} {B : S → S ⊕ R} (ht : mTm B) (s : S) : mWh dv B s = (match B s with
    | .inl s' => mWh dv B s'
    | .inr r => r) := by
  cases hb : B s with
  | inr r => exact mWh_of (n := 1) (by unfold mWn; rw [hb])
  | inl s' =>
    obtain ⟨n, r, hn⟩ := mWn_ends ht s'
    show mWh dv B s = mWh dv B s'
    rw [mWh_of hn]
    exact mWh_of (n := n + 1) (by unfold mWn; rw [hb]; exact hn)
theorem mWh_ev {S R : Type} {dv : R} {B : S → S ⊕ R} {ev : S → mR} {w : R → mR} (ht : mTm B) (h : ∀ s, ev s = wB ev w (B s)) (s : S) : ev s = w (mWh dv B s) := by
  obtain ⟨n, r, hn⟩ := mWn_ends ht s
  rw [mWh_of hn]
  induction n generalizing s with
  | zero => cases hn
  | succ n ih =>
    rw [h s]
    unfold mWn at hn
    cases hb : B s with
    | inr r' => rw [hb] at hn; cases hn; rfl
    | inl s' => rw [hb] at hn; exact ih s' hn
theorem mw_inr {S R : Type} {ev : S → mR} {w : R → mR} {a : mR} {r : R} (h : a = w r) : a = wB ev w (.inr r) := h
theorem mw_inl {S R : Type} {ev : S → mR} {w : R → mR} {a : mR} {s : S} (h : a = ev s) : a = wB ev w (.inl s) := h
theorem mZ_run : ∀ (n : Nat) (cur : List mT) (L : mL) (st : List mV) (g : mG) (res : Option mV × mG), mRun X call 2 full n cur L st g = some res → mZ res
  | 0, _, _, _, _, _, h => by cases h
  | n + 1, cur, L, st, g, res, h => by
    cases cur with
    | nil => cases h
    | cons x nx =>
      obtain ⟨z, hz⟩ := mF_step (X := X) (call := call) (rt := 2) (full := full) L st g (x :: nx)
      have h1 := hz (mRun X call 2 full n)
      have h2 := hz (fun _ _ _ _ => none)
      have h : mStep X call 2 full (mRun X call 2 full n) (x :: nx) L st g = some res := h
      dsimp only at h1 h2
      rw [h1] at h
      rcases z with z | z
      · have h3 : mStep X call 2 full (fun _ _ _ _ => none) (x :: nx) L st g = some res := h2.trans h
        exact mZ_ins L st g h3
      · exact mZ_run n _ _ _ _ _ h
theorem mCall_bool {dat : Nat → mDat} {d a : Nat} {vs : List mV} {v : Int32} {g' : mG} (h : mCall dat X d a vs g = some (some (mi v), g')) (hk : mdK (dat a) = 2) : v &&& 1 = v := by
  cases d with
  | zero => cases h
  | succ d =>
    unfold mCall at h
    split at h
    next =>
      rw [hk] at h
      obtain ⟨n, hn⟩ := mEv_run h
      exact mZ_run n _ _ _ _ _ hn v g' rfl
    next => cases h
def mBo {α γ : Type} (dz : γ) (o : Option α) (f : α → γ) : γ := match o with
  | none => dz
  | some x => f x
theorem mw_cZ {α : Type} {w : α → mR} {k : mK} {nx : List mT} {d a : Nat} {vs : List mV} {dat : Nat → mDat} {v : Int32} {g0 g : mG} {body : Int32 → α} (h : mCall dat X d a vs g0 = some (some (mi v), g)) (hb : mdK (dat a) = 2) (hk : ∀ z, z &&& 1 = z → k nx L (mi z :: st) g = w (body z)) : mAns k nx L st (mCall dat X d a vs g0) = w (mBd v body) := by
  have h2 := mCall_bool h hb
  rw [h]; exact hk v h2
theorem mw_oI {γ : Type} {w : γ → mR} {dz : γ} {k : mK} {nx : List mT} {x : mR} {o : Option Int32} {i : Nat} {c : mC} {g : mG} {body : Int32 → γ} (hz : none = w dz) (h : x = wO (wI g i c) o) (hk : ∀ z, k nx L (mi z :: st) (mU g i c) = w (body z)) : mAns k nx L st x = w (mBo dz o body) := by
  rw [h]; cases o with
  | none => exact hz
  | some v => exact hk v
theorem mw_oN {γ : Type} {w : γ → mR} {dz : γ} {k : mK} {nx : List mT} {x : mR} {o : Option Int32} {g : mG} {body : Int32 → γ} (hz : none = w dz) (h : x = wO (wN g) o) (hk : ∀ z, k nx L (mi z :: st) g = w (body z)) : mAns k nx L st x = w (mBo dz o body) := by
  rw [h]; cases o with
  | none => exact hz
  | some v => exact hk v
theorem mw_oV {γ : Type} {w : γ → mR} {dz : γ} {k : mK} {nx : List mT} {x : mR} {o : Option mC} {i : Nat} {g : mG} {body : mC → γ} (hz : none = w dz) (h : x = wO (wV g i) o) (hk : ∀ z, k nx L st (mU g i z) = w (body z)) : mAns k nx L st x = w (mBo dz o body) := by
  rw [h]; cases o with
  | none => exact hz
  | some v => exact hk v
theorem mw_oW {γ : Type} {w : γ → mR} {dz : γ} {k : mK} {nx : List mT} {x : mR} {o : Option (Int32 × mC)} {i : Nat} {g : mG} {body : Int32 × mC → γ} (hz : none = w dz) (h : x = wO (wW g i) o) (hk : ∀ z : Int32 × mC, k nx L (mi z.1 :: st) (mU g i z.2) = w (body z)) : mAns k nx L st x = w (mBo dz o body) := by
  rw [h]; cases o with
  | none => exact hz
  | some v => exact hk v
theorem mw_oZ {γ : Type} {w : γ → mR} {dz : γ} {k : mK} {nx : List mT} {d a : Nat} {vs : List mV} {dat : Nat → mDat} {o : Option Int32} {i : Nat} {c : mC} {g0 g : mG} {body : Int32 → γ} (hz : none = w dz) (h : mCall dat X d a vs g0 = wO (wI g i c) o) (hb : mdK (dat a) = 2) (hk : ∀ z, z &&& 1 = z → k nx L (mi z :: st) (mU g i c) = w (body z)) : mAns k nx L st (mCall dat X d a vs g0) = w (mBo dz o body) := by
  cases o with
  | none => rw [h]; exact hz
  | some v =>
    have h2 := mCall_bool h hb
    rw [h]; exact hk v h2
theorem mw_oY {γ : Type} {w : γ → mR} {dz : γ} {k : mK} {nx : List mT} {d a : Nat} {vs : List mV} {dat : Nat → mDat} {o : Option (Int32 × mC)} {i : Nat} {g0 g : mG} {body : Int32 × mC → γ} (hz : none = w dz) (h : mCall dat X d a vs g0 = wO (wW g i) o) (hb : mdK (dat a) = 2) (hk : ∀ z : Int32 × mC, z.1 &&& 1 = z.1 → k nx L (mi z.1 :: st) (mU g i z.2) = w (body z)) : mAns k nx L st (mCall dat X d a vs g0) = w (mBo dz o body) := by
  cases o with
  | none => rw [h]; exact hz
  | some v =>
    have h2 := mCall_bool h hb
    rw [h]; exact hk v h2
theorem mw_cY {α : Type} {w : α → mR} {k : mK} {nx : List mT} {d a : Nat} {vs : List mV} {dat : Nat → mDat} {c : Int32 × mC} {i : Nat} {g0 g : mG} {body : Int32 × mC → α} (h : mCall dat X d a vs g0 = wW g i c) (hb : mdK (dat a) = 2) (hk : ∀ z : Int32 × mC, z.1 &&& 1 = z.1 → k nx L (mi z.1 :: st) (mU g i z.2) = w (body z)) : mAns k nx L st (mCall dat X d a vs g0) = w (mBd c body) := by
  have h2 := mCall_bool h hb
  rw [h]; exact hk c h2
abbrev wG (x : Int32 × mG) : mR := some (some (mi x.1), x.2)
theorem mw_gV {α : Type} {w : α → mR} {k : mK} {nx : List mT} {x : mR} {c : mG} {body : mG → α} (h : x = some (none, c)) (hk : ∀ z, k nx L st z = w (body z)) : mAns k nx L st x = w (mBd c body) := by
  rw [h]; exact hk c
theorem mw_gW {α : Type} {w : α → mR} {k : mK} {nx : List mT} {x : mR} {c : Int32 × mG} {body : Int32 × mG → α} (h : x = wG c) (hk : ∀ z : Int32 × mG, k nx L (mi z.1 :: st) z.2 = w (body z)) : mAns k nx L st x = w (mBd c body) := by
  rw [h]; exact hk c
theorem mw_gY {α : Type} {w : α → mR} {k : mK} {nx : List mT} {d a : Nat} {vs : List mV} {dat : Nat → mDat} {c : Int32 × mG} {g0 : mG} {body : Int32 × mG → α} (h : mCall dat X d a vs g0 = wG c) (hb : mdK (dat a) = 2) (hk : ∀ z : Int32 × mG, z.1 &&& 1 = z.1 → k nx L (mi z.1 :: st) z.2 = w (body z)) : mAns k nx L st (mCall dat X d a vs g0) = w (mBd c body) := by
  have h2 := mCall_bool h hb
  rw [h]; exact hk c h2
theorem mand1 (x : Int32) : (x &&& 1) &&& 1 = x &&& 1 := by
  rw [Int32.and_assoc, Int32.and_self]
theorem mne_pos {x : Int32} (h : ¬ x ≤ 0) : x ≠ 0 := fun e => h (by rw [e]; exact Int32.le_refl 0)
theorem mne_pos2 {x : Int32} (h : 0 < x) : x ≠ 0 := fun e => by rw [e] at h; exact Int32.lt_irrefl h
end BASE
section STEPS
variable {X : mX} {call : Nat → List mV → mG → mR} {rt : Nat} {full : List mT} (cur : List mT) (L : mL) (st : List mV) (g : mG)
theorem mEv_1 : mEv X call rt full cur L st g = mStep X call rt full (mEv X call rt full) cur L st g := mEv_eq L st g cur
theorem mEv_2 : mEv X call rt full cur L st g = (mStep X call rt full (mStep X call rt full (mEv X call rt full))) cur L st g := by
  rw [mEv_1]
  exact congrArg (fun k => (mStep X call rt full k) cur L st g) mEv_fun
theorem mEv_3 : mEv X call rt full cur L st g = (mStep X call rt full (mStep X call rt full (mStep X call rt full (mEv X call rt full)))) cur L st g := by
  rw [mEv_2]
  exact congrArg (fun k => (mStep X call rt full (mStep X call rt full k)) cur L st g) mEv_fun
theorem mEv_4 : mEv X call rt full cur L st g = (mStep X call rt full (mStep X call rt full (mStep X call rt full (mStep X call rt full (mEv X call rt full))))) cur L st g := by
  rw [mEv_3]
  exact congrArg (fun k => (mStep X call rt full (mStep X call rt full (mStep X call rt full k))) cur L st g) mEv_fun
theorem mEv_5 : mEv X call rt full cur L st g = (mStep X call rt full (mStep X call rt full (mStep X call rt full (mStep X call rt full (mStep X call rt full (mEv X call rt full)))))) cur L st g := by
  rw [mEv_4]
  exact congrArg (fun k => (mStep X call rt full (mStep X call rt full (mStep X call rt full (mStep X call rt full k)))) cur L st g) mEv_fun
theorem mEv_6 : mEv X call rt full cur L st g = (mStep X call rt full (mStep X call rt full (mStep X call rt full (mStep X call rt full (mStep X call rt full (mStep X call rt full (mEv X call rt full))))))) cur L st g := by
  rw [mEv_5]
  exact congrArg (fun k => (mStep X call rt full (mStep X call rt full (mStep X call rt full (mStep X call rt full (mStep X call rt full k))))) cur L st g) mEv_fun
theorem mEv_7 : mEv X call rt full cur L st g = (mStep X call rt full (mStep X call rt full (mStep X call rt full (mStep X call rt full (mStep X call rt full (mStep X call rt full (mStep X call rt full (mEv X call rt full)))))))) cur L st g := by
  rw [mEv_6]
  exact congrArg (fun k => (mStep X call rt full (mStep X call rt full (mStep X call rt full (mStep X call rt full (mStep X call rt full (mStep X call rt full k)))))) cur L st g) mEv_fun
theorem mEv_8 : mEv X call rt full cur L st g = (mStep X call rt full (mStep X call rt full (mStep X call rt full (mStep X call rt full (mStep X call rt full (mStep X call rt full (mStep X call rt full (mStep X call rt full (mEv X call rt full))))))))) cur L st g := by
  rw [mEv_7]
  exact congrArg (fun k => (mStep X call rt full (mStep X call rt full (mStep X call rt full (mStep X call rt full (mStep X call rt full (mStep X call rt full (mStep X call rt full k))))))) cur L st g) mEv_fun
theorem mEv_9 : mEv X call rt full cur L st g = (mStep X call rt full (mStep X call rt full (mStep X call rt full (mStep X call rt full (mStep X call rt full (mStep X call rt full (mStep X call rt full (mStep X call rt full (mStep X call rt full (mEv X call rt full)))))))))) cur L st g := by
  rw [mEv_8]
  exact congrArg (fun k => (mStep X call rt full (mStep X call rt full (mStep X call rt full (mStep X call rt full (mStep X call rt full (mStep X call rt full (mStep X call rt full (mStep X call rt full k)))))))) cur L st g) mEv_fun
theorem mEv_10 : mEv X call rt full cur L st g = (mStep X call rt full (mStep X call rt full (mStep X call rt full (mStep X call rt full (mStep X call rt full (mStep X call rt full (mStep X call rt full (mStep X call rt full (mStep X call rt full (mStep X call rt full (mEv X call rt full))))))))))) cur L st g := by
  rw [mEv_9]
  exact congrArg (fun k => (mStep X call rt full (mStep X call rt full (mStep X call rt full (mStep X call rt full (mStep X call rt full (mStep X call rt full (mStep X call rt full (mStep X call rt full (mStep X call rt full k))))))))) cur L st g) mEv_fun
theorem mEv_11 : mEv X call rt full cur L st g = (mStep X call rt full (mStep X call rt full (mStep X call rt full (mStep X call rt full (mStep X call rt full (mStep X call rt full (mStep X call rt full (mStep X call rt full (mStep X call rt full (mStep X call rt full (mStep X call rt full (mEv X call rt full)))))))))))) cur L st g := by
  rw [mEv_10]
  exact congrArg (fun k => (mStep X call rt full (mStep X call rt full (mStep X call rt full (mStep X call rt full (mStep X call rt full (mStep X call rt full (mStep X call rt full (mStep X call rt full (mStep X call rt full (mStep X call rt full k)))))))))) cur L st g) mEv_fun
theorem mEv_12 : mEv X call rt full cur L st g = (mStep X call rt full (mStep X call rt full (mStep X call rt full (mStep X call rt full (mStep X call rt full (mStep X call rt full (mStep X call rt full (mStep X call rt full (mStep X call rt full (mStep X call rt full (mStep X call rt full (mStep X call rt full (mEv X call rt full))))))))))))) cur L st g := by
  rw [mEv_11]
  exact congrArg (fun k => (mStep X call rt full (mStep X call rt full (mStep X call rt full (mStep X call rt full (mStep X call rt full (mStep X call rt full (mStep X call rt full (mStep X call rt full (mStep X call rt full (mStep X call rt full (mStep X call rt full k))))))))))) cur L st g) mEv_fun
theorem mEv_13 : mEv X call rt full cur L st g = (mStep X call rt full (mStep X call rt full (mStep X call rt full (mStep X call rt full (mStep X call rt full (mStep X call rt full (mStep X call rt full (mStep X call rt full (mStep X call rt full (mStep X call rt full (mStep X call rt full (mStep X call rt full (mStep X call rt full (mEv X call rt full)))))))))))))) cur L st g := by
  rw [mEv_12]
  exact congrArg (fun k => (mStep X call rt full (mStep X call rt full (mStep X call rt full (mStep X call rt full (mStep X call rt full (mStep X call rt full (mStep X call rt full (mStep X call rt full (mStep X call rt full (mStep X call rt full (mStep X call rt full (mStep X call rt full k)))))))))))) cur L st g) mEv_fun
theorem mEv_14 : mEv X call rt full cur L st g = (mStep X call rt full (mStep X call rt full (mStep X call rt full (mStep X call rt full (mStep X call rt full (mStep X call rt full (mStep X call rt full (mStep X call rt full (mStep X call rt full (mStep X call rt full (mStep X call rt full (mStep X call rt full (mStep X call rt full (mStep X call rt full (mEv X call rt full))))))))))))))) cur L st g := by
  rw [mEv_13]
  exact congrArg (fun k => (mStep X call rt full (mStep X call rt full (mStep X call rt full (mStep X call rt full (mStep X call rt full (mStep X call rt full (mStep X call rt full (mStep X call rt full (mStep X call rt full (mStep X call rt full (mStep X call rt full (mStep X call rt full (mStep X call rt full k))))))))))))) cur L st g) mEv_fun
theorem mEv_15 : mEv X call rt full cur L st g = (mStep X call rt full (mStep X call rt full (mStep X call rt full (mStep X call rt full (mStep X call rt full (mStep X call rt full (mStep X call rt full (mStep X call rt full (mStep X call rt full (mStep X call rt full (mStep X call rt full (mStep X call rt full (mStep X call rt full (mStep X call rt full (mStep X call rt full (mEv X call rt full)))))))))))))))) cur L st g := by
  rw [mEv_14]
  exact congrArg (fun k => (mStep X call rt full (mStep X call rt full (mStep X call rt full (mStep X call rt full (mStep X call rt full (mStep X call rt full (mStep X call rt full (mStep X call rt full (mStep X call rt full (mStep X call rt full (mStep X call rt full (mStep X call rt full (mStep X call rt full (mStep X call rt full k)))))))))))))) cur L st g) mEv_fun
theorem mEv_16 : mEv X call rt full cur L st g = (mStep X call rt full (mStep X call rt full (mStep X call rt full (mStep X call rt full (mStep X call rt full (mStep X call rt full (mStep X call rt full (mStep X call rt full (mStep X call rt full (mStep X call rt full (mStep X call rt full (mStep X call rt full (mStep X call rt full (mStep X call rt full (mStep X call rt full (mStep X call rt full (mEv X call rt full))))))))))))))))) cur L st g := by
  rw [mEv_15]
  exact congrArg (fun k => (mStep X call rt full (mStep X call rt full (mStep X call rt full (mStep X call rt full (mStep X call rt full (mStep X call rt full (mStep X call rt full (mStep X call rt full (mStep X call rt full (mStep X call rt full (mStep X call rt full (mStep X call rt full (mStep X call rt full (mStep X call rt full (mStep X call rt full k))))))))))))))) cur L st g) mEv_fun
theorem mEv_17 : mEv X call rt full cur L st g = (mStep X call rt full (mStep X call rt full (mStep X call rt full (mStep X call rt full (mStep X call rt full (mStep X call rt full (mStep X call rt full (mStep X call rt full (mStep X call rt full (mStep X call rt full (mStep X call rt full (mStep X call rt full (mStep X call rt full (mStep X call rt full (mStep X call rt full (mStep X call rt full (mStep X call rt full (mEv X call rt full)))))))))))))))))) cur L st g := by
  rw [mEv_16]
  exact congrArg (fun k => (mStep X call rt full (mStep X call rt full (mStep X call rt full (mStep X call rt full (mStep X call rt full (mStep X call rt full (mStep X call rt full (mStep X call rt full (mStep X call rt full (mStep X call rt full (mStep X call rt full (mStep X call rt full (mStep X call rt full (mStep X call rt full (mStep X call rt full (mStep X call rt full k)))))))))))))))) cur L st g) mEv_fun
theorem mEv_18 : mEv X call rt full cur L st g = (mStep X call rt full (mStep X call rt full (mStep X call rt full (mStep X call rt full (mStep X call rt full (mStep X call rt full (mStep X call rt full (mStep X call rt full (mStep X call rt full (mStep X call rt full (mStep X call rt full (mStep X call rt full (mStep X call rt full (mStep X call rt full (mStep X call rt full (mStep X call rt full (mStep X call rt full (mStep X call rt full (mEv X call rt full))))))))))))))))))) cur L st g := by
  rw [mEv_17]
  exact congrArg (fun k => (mStep X call rt full (mStep X call rt full (mStep X call rt full (mStep X call rt full (mStep X call rt full (mStep X call rt full (mStep X call rt full (mStep X call rt full (mStep X call rt full (mStep X call rt full (mStep X call rt full (mStep X call rt full (mStep X call rt full (mStep X call rt full (mStep X call rt full (mStep X call rt full (mStep X call rt full k))))))))))))))))) cur L st g) mEv_fun
theorem mEv_19 : mEv X call rt full cur L st g = (mStep X call rt full (mStep X call rt full (mStep X call rt full (mStep X call rt full (mStep X call rt full (mStep X call rt full (mStep X call rt full (mStep X call rt full (mStep X call rt full (mStep X call rt full (mStep X call rt full (mStep X call rt full (mStep X call rt full (mStep X call rt full (mStep X call rt full (mStep X call rt full (mStep X call rt full (mStep X call rt full (mStep X call rt full (mEv X call rt full)))))))))))))))))))) cur L st g := by
  rw [mEv_18]
  exact congrArg (fun k => (mStep X call rt full (mStep X call rt full (mStep X call rt full (mStep X call rt full (mStep X call rt full (mStep X call rt full (mStep X call rt full (mStep X call rt full (mStep X call rt full (mStep X call rt full (mStep X call rt full (mStep X call rt full (mStep X call rt full (mStep X call rt full (mStep X call rt full (mStep X call rt full (mStep X call rt full (mStep X call rt full k)))))))))))))))))) cur L st g) mEv_fun
theorem mEv_20 : mEv X call rt full cur L st g = (mStep X call rt full (mStep X call rt full (mStep X call rt full (mStep X call rt full (mStep X call rt full (mStep X call rt full (mStep X call rt full (mStep X call rt full (mStep X call rt full (mStep X call rt full (mStep X call rt full (mStep X call rt full (mStep X call rt full (mStep X call rt full (mStep X call rt full (mStep X call rt full (mStep X call rt full (mStep X call rt full (mStep X call rt full (mStep X call rt full (mEv X call rt full))))))))))))))))))))) cur L st g := by
  rw [mEv_19]
  exact congrArg (fun k => (mStep X call rt full (mStep X call rt full (mStep X call rt full (mStep X call rt full (mStep X call rt full (mStep X call rt full (mStep X call rt full (mStep X call rt full (mStep X call rt full (mStep X call rt full (mStep X call rt full (mStep X call rt full (mStep X call rt full (mStep X call rt full (mStep X call rt full (mStep X call rt full (mStep X call rt full (mStep X call rt full (mStep X call rt full k))))))))))))))))))) cur L st g) mEv_fun
theorem mEv_21 : mEv X call rt full cur L st g = (mStep X call rt full (mStep X call rt full (mStep X call rt full (mStep X call rt full (mStep X call rt full (mStep X call rt full (mStep X call rt full (mStep X call rt full (mStep X call rt full (mStep X call rt full (mStep X call rt full (mStep X call rt full (mStep X call rt full (mStep X call rt full (mStep X call rt full (mStep X call rt full (mStep X call rt full (mStep X call rt full (mStep X call rt full (mStep X call rt full (mStep X call rt full (mEv X call rt full)))))))))))))))))))))) cur L st g := by
  rw [mEv_20]
  exact congrArg (fun k => (mStep X call rt full (mStep X call rt full (mStep X call rt full (mStep X call rt full (mStep X call rt full (mStep X call rt full (mStep X call rt full (mStep X call rt full (mStep X call rt full (mStep X call rt full (mStep X call rt full (mStep X call rt full (mStep X call rt full (mStep X call rt full (mStep X call rt full (mStep X call rt full (mStep X call rt full (mStep X call rt full (mStep X call rt full (mStep X call rt full k)))))))))))))))))))) cur L st g) mEv_fun
theorem mEv_22 : mEv X call rt full cur L st g = (mStep X call rt full (mStep X call rt full (mStep X call rt full (mStep X call rt full (mStep X call rt full (mStep X call rt full (mStep X call rt full (mStep X call rt full (mStep X call rt full (mStep X call rt full (mStep X call rt full (mStep X call rt full (mStep X call rt full (mStep X call rt full (mStep X call rt full (mStep X call rt full (mStep X call rt full (mStep X call rt full (mStep X call rt full (mStep X call rt full (mStep X call rt full (mStep X call rt full (mEv X call rt full))))))))))))))))))))))) cur L st g := by
  rw [mEv_21]
  exact congrArg (fun k => (mStep X call rt full (mStep X call rt full (mStep X call rt full (mStep X call rt full (mStep X call rt full (mStep X call rt full (mStep X call rt full (mStep X call rt full (mStep X call rt full (mStep X call rt full (mStep X call rt full (mStep X call rt full (mStep X call rt full (mStep X call rt full (mStep X call rt full (mStep X call rt full (mStep X call rt full (mStep X call rt full (mStep X call rt full (mStep X call rt full (mStep X call rt full k))))))))))))))))))))) cur L st g) mEv_fun
theorem mEv_23 : mEv X call rt full cur L st g = (mStep X call rt full (mStep X call rt full (mStep X call rt full (mStep X call rt full (mStep X call rt full (mStep X call rt full (mStep X call rt full (mStep X call rt full (mStep X call rt full (mStep X call rt full (mStep X call rt full (mStep X call rt full (mStep X call rt full (mStep X call rt full (mStep X call rt full (mStep X call rt full (mStep X call rt full (mStep X call rt full (mStep X call rt full (mStep X call rt full (mStep X call rt full (mStep X call rt full (mStep X call rt full (mEv X call rt full)))))))))))))))))))))))) cur L st g := by
  rw [mEv_22]
  exact congrArg (fun k => (mStep X call rt full (mStep X call rt full (mStep X call rt full (mStep X call rt full (mStep X call rt full (mStep X call rt full (mStep X call rt full (mStep X call rt full (mStep X call rt full (mStep X call rt full (mStep X call rt full (mStep X call rt full (mStep X call rt full (mStep X call rt full (mStep X call rt full (mStep X call rt full (mStep X call rt full (mStep X call rt full (mStep X call rt full (mStep X call rt full (mStep X call rt full (mStep X call rt full k)))))))))))))))))))))) cur L st g) mEv_fun
theorem mEv_24 : mEv X call rt full cur L st g = (mStep X call rt full (mStep X call rt full (mStep X call rt full (mStep X call rt full (mStep X call rt full (mStep X call rt full (mStep X call rt full (mStep X call rt full (mStep X call rt full (mStep X call rt full (mStep X call rt full (mStep X call rt full (mStep X call rt full (mStep X call rt full (mStep X call rt full (mStep X call rt full (mStep X call rt full (mStep X call rt full (mStep X call rt full (mStep X call rt full (mStep X call rt full (mStep X call rt full (mStep X call rt full (mStep X call rt full (mEv X call rt full))))))))))))))))))))))))) cur L st g := by
  rw [mEv_23]
  exact congrArg (fun k => (mStep X call rt full (mStep X call rt full (mStep X call rt full (mStep X call rt full (mStep X call rt full (mStep X call rt full (mStep X call rt full (mStep X call rt full (mStep X call rt full (mStep X call rt full (mStep X call rt full (mStep X call rt full (mStep X call rt full (mStep X call rt full (mStep X call rt full (mStep X call rt full (mStep X call rt full (mStep X call rt full (mStep X call rt full (mStep X call rt full (mStep X call rt full (mStep X call rt full (mStep X call rt full k))))))))))))))))))))))) cur L st g) mEv_fun
theorem mEv_25 : mEv X call rt full cur L st g = (mStep X call rt full (mStep X call rt full (mStep X call rt full (mStep X call rt full (mStep X call rt full (mStep X call rt full (mStep X call rt full (mStep X call rt full (mStep X call rt full (mStep X call rt full (mStep X call rt full (mStep X call rt full (mStep X call rt full (mStep X call rt full (mStep X call rt full (mStep X call rt full (mStep X call rt full (mStep X call rt full (mStep X call rt full (mStep X call rt full (mStep X call rt full (mStep X call rt full (mStep X call rt full (mStep X call rt full (mStep X call rt full (mEv X call rt full)))))))))))))))))))))))))) cur L st g := by
  rw [mEv_24]
  exact congrArg (fun k => (mStep X call rt full (mStep X call rt full (mStep X call rt full (mStep X call rt full (mStep X call rt full (mStep X call rt full (mStep X call rt full (mStep X call rt full (mStep X call rt full (mStep X call rt full (mStep X call rt full (mStep X call rt full (mStep X call rt full (mStep X call rt full (mStep X call rt full (mStep X call rt full (mStep X call rt full (mStep X call rt full (mStep X call rt full (mStep X call rt full (mStep X call rt full (mStep X call rt full (mStep X call rt full (mStep X call rt full k)))))))))))))))))))))))) cur L st g) mEv_fun
theorem mEv_26 : mEv X call rt full cur L st g = (mStep X call rt full (mStep X call rt full (mStep X call rt full (mStep X call rt full (mStep X call rt full (mStep X call rt full (mStep X call rt full (mStep X call rt full (mStep X call rt full (mStep X call rt full (mStep X call rt full (mStep X call rt full (mStep X call rt full (mStep X call rt full (mStep X call rt full (mStep X call rt full (mStep X call rt full (mStep X call rt full (mStep X call rt full (mStep X call rt full (mStep X call rt full (mStep X call rt full (mStep X call rt full (mStep X call rt full (mStep X call rt full (mStep X call rt full (mEv X call rt full))))))))))))))))))))))))))) cur L st g := by
  rw [mEv_25]
  exact congrArg (fun k => (mStep X call rt full (mStep X call rt full (mStep X call rt full (mStep X call rt full (mStep X call rt full (mStep X call rt full (mStep X call rt full (mStep X call rt full (mStep X call rt full (mStep X call rt full (mStep X call rt full (mStep X call rt full (mStep X call rt full (mStep X call rt full (mStep X call rt full (mStep X call rt full (mStep X call rt full (mStep X call rt full (mStep X call rt full (mStep X call rt full (mStep X call rt full (mStep X call rt full (mStep X call rt full (mStep X call rt full (mStep X call rt full k))))))))))))))))))))))))) cur L st g) mEv_fun
theorem mEv_27 : mEv X call rt full cur L st g = (mStep X call rt full (mStep X call rt full (mStep X call rt full (mStep X call rt full (mStep X call rt full (mStep X call rt full (mStep X call rt full (mStep X call rt full (mStep X call rt full (mStep X call rt full (mStep X call rt full (mStep X call rt full (mStep X call rt full (mStep X call rt full (mStep X call rt full (mStep X call rt full (mStep X call rt full (mStep X call rt full (mStep X call rt full (mStep X call rt full (mStep X call rt full (mStep X call rt full (mStep X call rt full (mStep X call rt full (mStep X call rt full (mStep X call rt full (mStep X call rt full (mEv X call rt full)))))))))))))))))))))))))))) cur L st g := by
  rw [mEv_26]
  exact congrArg (fun k => (mStep X call rt full (mStep X call rt full (mStep X call rt full (mStep X call rt full (mStep X call rt full (mStep X call rt full (mStep X call rt full (mStep X call rt full (mStep X call rt full (mStep X call rt full (mStep X call rt full (mStep X call rt full (mStep X call rt full (mStep X call rt full (mStep X call rt full (mStep X call rt full (mStep X call rt full (mStep X call rt full (mStep X call rt full (mStep X call rt full (mStep X call rt full (mStep X call rt full (mStep X call rt full (mStep X call rt full (mStep X call rt full (mStep X call rt full k)))))))))))))))))))))))))) cur L st g) mEv_fun
theorem mEv_28 : mEv X call rt full cur L st g = (mStep X call rt full (mStep X call rt full (mStep X call rt full (mStep X call rt full (mStep X call rt full (mStep X call rt full (mStep X call rt full (mStep X call rt full (mStep X call rt full (mStep X call rt full (mStep X call rt full (mStep X call rt full (mStep X call rt full (mStep X call rt full (mStep X call rt full (mStep X call rt full (mStep X call rt full (mStep X call rt full (mStep X call rt full (mStep X call rt full (mStep X call rt full (mStep X call rt full (mStep X call rt full (mStep X call rt full (mStep X call rt full (mStep X call rt full (mStep X call rt full (mStep X call rt full (mEv X call rt full))))))))))))))))))))))))))))) cur L st g := by
  rw [mEv_27]
  exact congrArg (fun k => (mStep X call rt full (mStep X call rt full (mStep X call rt full (mStep X call rt full (mStep X call rt full (mStep X call rt full (mStep X call rt full (mStep X call rt full (mStep X call rt full (mStep X call rt full (mStep X call rt full (mStep X call rt full (mStep X call rt full (mStep X call rt full (mStep X call rt full (mStep X call rt full (mStep X call rt full (mStep X call rt full (mStep X call rt full (mStep X call rt full (mStep X call rt full (mStep X call rt full (mStep X call rt full (mStep X call rt full (mStep X call rt full (mStep X call rt full (mStep X call rt full k))))))))))))))))))))))))))) cur L st g) mEv_fun
theorem mEv_29 : mEv X call rt full cur L st g = (mStep X call rt full (mStep X call rt full (mStep X call rt full (mStep X call rt full (mStep X call rt full (mStep X call rt full (mStep X call rt full (mStep X call rt full (mStep X call rt full (mStep X call rt full (mStep X call rt full (mStep X call rt full (mStep X call rt full (mStep X call rt full (mStep X call rt full (mStep X call rt full (mStep X call rt full (mStep X call rt full (mStep X call rt full (mStep X call rt full (mStep X call rt full (mStep X call rt full (mStep X call rt full (mStep X call rt full (mStep X call rt full (mStep X call rt full (mStep X call rt full (mStep X call rt full (mStep X call rt full (mEv X call rt full)))))))))))))))))))))))))))))) cur L st g := by
  rw [mEv_28]
  exact congrArg (fun k => (mStep X call rt full (mStep X call rt full (mStep X call rt full (mStep X call rt full (mStep X call rt full (mStep X call rt full (mStep X call rt full (mStep X call rt full (mStep X call rt full (mStep X call rt full (mStep X call rt full (mStep X call rt full (mStep X call rt full (mStep X call rt full (mStep X call rt full (mStep X call rt full (mStep X call rt full (mStep X call rt full (mStep X call rt full (mStep X call rt full (mStep X call rt full (mStep X call rt full (mStep X call rt full (mStep X call rt full (mStep X call rt full (mStep X call rt full (mStep X call rt full (mStep X call rt full k)))))))))))))))))))))))))))) cur L st g) mEv_fun
theorem mEv_30 : mEv X call rt full cur L st g = (mStep X call rt full (mStep X call rt full (mStep X call rt full (mStep X call rt full (mStep X call rt full (mStep X call rt full (mStep X call rt full (mStep X call rt full (mStep X call rt full (mStep X call rt full (mStep X call rt full (mStep X call rt full (mStep X call rt full (mStep X call rt full (mStep X call rt full (mStep X call rt full (mStep X call rt full (mStep X call rt full (mStep X call rt full (mStep X call rt full (mStep X call rt full (mStep X call rt full (mStep X call rt full (mStep X call rt full (mStep X call rt full (mStep X call rt full (mStep X call rt full (mStep X call rt full (mStep X call rt full (mStep X call rt full (mEv X call rt full))))))))))))))))))))))))))))))) cur L st g := by
  rw [mEv_29]
  exact congrArg (fun k => (mStep X call rt full (mStep X call rt full (mStep X call rt full (mStep X call rt full (mStep X call rt full (mStep X call rt full (mStep X call rt full (mStep X call rt full (mStep X call rt full (mStep X call rt full (mStep X call rt full (mStep X call rt full (mStep X call rt full (mStep X call rt full (mStep X call rt full (mStep X call rt full (mStep X call rt full (mStep X call rt full (mStep X call rt full (mStep X call rt full (mStep X call rt full (mStep X call rt full (mStep X call rt full (mStep X call rt full (mStep X call rt full (mStep X call rt full (mStep X call rt full (mStep X call rt full (mStep X call rt full k))))))))))))))))))))))))))))) cur L st g) mEv_fun
theorem mEv_31 : mEv X call rt full cur L st g = (mStep X call rt full (mStep X call rt full (mStep X call rt full (mStep X call rt full (mStep X call rt full (mStep X call rt full (mStep X call rt full (mStep X call rt full (mStep X call rt full (mStep X call rt full (mStep X call rt full (mStep X call rt full (mStep X call rt full (mStep X call rt full (mStep X call rt full (mStep X call rt full (mStep X call rt full (mStep X call rt full (mStep X call rt full (mStep X call rt full (mStep X call rt full (mStep X call rt full (mStep X call rt full (mStep X call rt full (mStep X call rt full (mStep X call rt full (mStep X call rt full (mStep X call rt full (mStep X call rt full (mStep X call rt full (mStep X call rt full (mEv X call rt full)))))))))))))))))))))))))))))))) cur L st g := by
  rw [mEv_30]
  exact congrArg (fun k => (mStep X call rt full (mStep X call rt full (mStep X call rt full (mStep X call rt full (mStep X call rt full (mStep X call rt full (mStep X call rt full (mStep X call rt full (mStep X call rt full (mStep X call rt full (mStep X call rt full (mStep X call rt full (mStep X call rt full (mStep X call rt full (mStep X call rt full (mStep X call rt full (mStep X call rt full (mStep X call rt full (mStep X call rt full (mStep X call rt full (mStep X call rt full (mStep X call rt full (mStep X call rt full (mStep X call rt full (mStep X call rt full (mStep X call rt full (mStep X call rt full (mStep X call rt full (mStep X call rt full (mStep X call rt full k)))))))))))))))))))))))))))))) cur L st g) mEv_fun
theorem mEv_32 : mEv X call rt full cur L st g = (mStep X call rt full (mStep X call rt full (mStep X call rt full (mStep X call rt full (mStep X call rt full (mStep X call rt full (mStep X call rt full (mStep X call rt full (mStep X call rt full (mStep X call rt full (mStep X call rt full (mStep X call rt full (mStep X call rt full (mStep X call rt full (mStep X call rt full (mStep X call rt full (mStep X call rt full (mStep X call rt full (mStep X call rt full (mStep X call rt full (mStep X call rt full (mStep X call rt full (mStep X call rt full (mStep X call rt full (mStep X call rt full (mStep X call rt full (mStep X call rt full (mStep X call rt full (mStep X call rt full (mStep X call rt full (mStep X call rt full (mStep X call rt full (mEv X call rt full))))))))))))))))))))))))))))))))) cur L st g := by
  rw [mEv_31]
  exact congrArg (fun k => (mStep X call rt full (mStep X call rt full (mStep X call rt full (mStep X call rt full (mStep X call rt full (mStep X call rt full (mStep X call rt full (mStep X call rt full (mStep X call rt full (mStep X call rt full (mStep X call rt full (mStep X call rt full (mStep X call rt full (mStep X call rt full (mStep X call rt full (mStep X call rt full (mStep X call rt full (mStep X call rt full (mStep X call rt full (mStep X call rt full (mStep X call rt full (mStep X call rt full (mStep X call rt full (mStep X call rt full (mStep X call rt full (mStep X call rt full (mStep X call rt full (mStep X call rt full (mStep X call rt full (mStep X call rt full (mStep X call rt full k))))))))))))))))))))))))))))))) cur L st g) mEv_fun
theorem mEv_33 : mEv X call rt full cur L st g = (mStep X call rt full (mStep X call rt full (mStep X call rt full (mStep X call rt full (mStep X call rt full (mStep X call rt full (mStep X call rt full (mStep X call rt full (mStep X call rt full (mStep X call rt full (mStep X call rt full (mStep X call rt full (mStep X call rt full (mStep X call rt full (mStep X call rt full (mStep X call rt full (mStep X call rt full (mStep X call rt full (mStep X call rt full (mStep X call rt full (mStep X call rt full (mStep X call rt full (mStep X call rt full (mStep X call rt full (mStep X call rt full (mStep X call rt full (mStep X call rt full (mStep X call rt full (mStep X call rt full (mStep X call rt full (mStep X call rt full (mStep X call rt full (mStep X call rt full (mEv X call rt full)))))))))))))))))))))))))))))))))) cur L st g := by
  rw [mEv_32]
  exact congrArg (fun k => (mStep X call rt full (mStep X call rt full (mStep X call rt full (mStep X call rt full (mStep X call rt full (mStep X call rt full (mStep X call rt full (mStep X call rt full (mStep X call rt full (mStep X call rt full (mStep X call rt full (mStep X call rt full (mStep X call rt full (mStep X call rt full (mStep X call rt full (mStep X call rt full (mStep X call rt full (mStep X call rt full (mStep X call rt full (mStep X call rt full (mStep X call rt full (mStep X call rt full (mStep X call rt full (mStep X call rt full (mStep X call rt full (mStep X call rt full (mStep X call rt full (mStep X call rt full (mStep X call rt full (mStep X call rt full (mStep X call rt full (mStep X call rt full k)))))))))))))))))))))))))))))))) cur L st g) mEv_fun
theorem mEv_34 : mEv X call rt full cur L st g = (mStep X call rt full (mStep X call rt full (mStep X call rt full (mStep X call rt full (mStep X call rt full (mStep X call rt full (mStep X call rt full (mStep X call rt full (mStep X call rt full (mStep X call rt full (mStep X call rt full (mStep X call rt full (mStep X call rt full (mStep X call rt full (mStep X call rt full (mStep X call rt full (mStep X call rt full (mStep X call rt full (mStep X call rt full (mStep X call rt full (mStep X call rt full (mStep X call rt full (mStep X call rt full (mStep X call rt full (mStep X call rt full (mStep X call rt full (mStep X call rt full (mStep X call rt full (mStep X call rt full (mStep X call rt full (mStep X call rt full (mStep X call rt full (mStep X call rt full (mStep X call rt full (mEv X call rt full))))))))))))))))))))))))))))))))))) cur L st g := by
  rw [mEv_33]
  exact congrArg (fun k => (mStep X call rt full (mStep X call rt full (mStep X call rt full (mStep X call rt full (mStep X call rt full (mStep X call rt full (mStep X call rt full (mStep X call rt full (mStep X call rt full (mStep X call rt full (mStep X call rt full (mStep X call rt full (mStep X call rt full (mStep X call rt full (mStep X call rt full (mStep X call rt full (mStep X call rt full (mStep X call rt full (mStep X call rt full (mStep X call rt full (mStep X call rt full (mStep X call rt full (mStep X call rt full (mStep X call rt full (mStep X call rt full (mStep X call rt full (mStep X call rt full (mStep X call rt full (mStep X call rt full (mStep X call rt full (mStep X call rt full (mStep X call rt full (mStep X call rt full k))))))))))))))))))))))))))))))))) cur L st g) mEv_fun
theorem mEv_35 : mEv X call rt full cur L st g = (mStep X call rt full (mStep X call rt full (mStep X call rt full (mStep X call rt full (mStep X call rt full (mStep X call rt full (mStep X call rt full (mStep X call rt full (mStep X call rt full (mStep X call rt full (mStep X call rt full (mStep X call rt full (mStep X call rt full (mStep X call rt full (mStep X call rt full (mStep X call rt full (mStep X call rt full (mStep X call rt full (mStep X call rt full (mStep X call rt full (mStep X call rt full (mStep X call rt full (mStep X call rt full (mStep X call rt full (mStep X call rt full (mStep X call rt full (mStep X call rt full (mStep X call rt full (mStep X call rt full (mStep X call rt full (mStep X call rt full (mStep X call rt full (mStep X call rt full (mStep X call rt full (mStep X call rt full (mEv X call rt full)))))))))))))))))))))))))))))))))))) cur L st g := by
  rw [mEv_34]
  exact congrArg (fun k => (mStep X call rt full (mStep X call rt full (mStep X call rt full (mStep X call rt full (mStep X call rt full (mStep X call rt full (mStep X call rt full (mStep X call rt full (mStep X call rt full (mStep X call rt full (mStep X call rt full (mStep X call rt full (mStep X call rt full (mStep X call rt full (mStep X call rt full (mStep X call rt full (mStep X call rt full (mStep X call rt full (mStep X call rt full (mStep X call rt full (mStep X call rt full (mStep X call rt full (mStep X call rt full (mStep X call rt full (mStep X call rt full (mStep X call rt full (mStep X call rt full (mStep X call rt full (mStep X call rt full (mStep X call rt full (mStep X call rt full (mStep X call rt full (mStep X call rt full (mStep X call rt full k)))))))))))))))))))))))))))))))))) cur L st g) mEv_fun
theorem mEv_36 : mEv X call rt full cur L st g = (mStep X call rt full (mStep X call rt full (mStep X call rt full (mStep X call rt full (mStep X call rt full (mStep X call rt full (mStep X call rt full (mStep X call rt full (mStep X call rt full (mStep X call rt full (mStep X call rt full (mStep X call rt full (mStep X call rt full (mStep X call rt full (mStep X call rt full (mStep X call rt full (mStep X call rt full (mStep X call rt full (mStep X call rt full (mStep X call rt full (mStep X call rt full (mStep X call rt full (mStep X call rt full (mStep X call rt full (mStep X call rt full (mStep X call rt full (mStep X call rt full (mStep X call rt full (mStep X call rt full (mStep X call rt full (mStep X call rt full (mStep X call rt full (mStep X call rt full (mStep X call rt full (mStep X call rt full (mStep X call rt full (mEv X call rt full))))))))))))))))))))))))))))))))))))) cur L st g := by
  rw [mEv_35]
  exact congrArg (fun k => (mStep X call rt full (mStep X call rt full (mStep X call rt full (mStep X call rt full (mStep X call rt full (mStep X call rt full (mStep X call rt full (mStep X call rt full (mStep X call rt full (mStep X call rt full (mStep X call rt full (mStep X call rt full (mStep X call rt full (mStep X call rt full (mStep X call rt full (mStep X call rt full (mStep X call rt full (mStep X call rt full (mStep X call rt full (mStep X call rt full (mStep X call rt full (mStep X call rt full (mStep X call rt full (mStep X call rt full (mStep X call rt full (mStep X call rt full (mStep X call rt full (mStep X call rt full (mStep X call rt full (mStep X call rt full (mStep X call rt full (mStep X call rt full (mStep X call rt full (mStep X call rt full (mStep X call rt full k))))))))))))))))))))))))))))))))))) cur L st g) mEv_fun
theorem mEv_37 : mEv X call rt full cur L st g = (mStep X call rt full (mStep X call rt full (mStep X call rt full (mStep X call rt full (mStep X call rt full (mStep X call rt full (mStep X call rt full (mStep X call rt full (mStep X call rt full (mStep X call rt full (mStep X call rt full (mStep X call rt full (mStep X call rt full (mStep X call rt full (mStep X call rt full (mStep X call rt full (mStep X call rt full (mStep X call rt full (mStep X call rt full (mStep X call rt full (mStep X call rt full (mStep X call rt full (mStep X call rt full (mStep X call rt full (mStep X call rt full (mStep X call rt full (mStep X call rt full (mStep X call rt full (mStep X call rt full (mStep X call rt full (mStep X call rt full (mStep X call rt full (mStep X call rt full (mStep X call rt full (mStep X call rt full (mStep X call rt full (mStep X call rt full (mEv X call rt full)))))))))))))))))))))))))))))))))))))) cur L st g := by
  rw [mEv_36]
  exact congrArg (fun k => (mStep X call rt full (mStep X call rt full (mStep X call rt full (mStep X call rt full (mStep X call rt full (mStep X call rt full (mStep X call rt full (mStep X call rt full (mStep X call rt full (mStep X call rt full (mStep X call rt full (mStep X call rt full (mStep X call rt full (mStep X call rt full (mStep X call rt full (mStep X call rt full (mStep X call rt full (mStep X call rt full (mStep X call rt full (mStep X call rt full (mStep X call rt full (mStep X call rt full (mStep X call rt full (mStep X call rt full (mStep X call rt full (mStep X call rt full (mStep X call rt full (mStep X call rt full (mStep X call rt full (mStep X call rt full (mStep X call rt full (mStep X call rt full (mStep X call rt full (mStep X call rt full (mStep X call rt full (mStep X call rt full k)))))))))))))))))))))))))))))))))))) cur L st g) mEv_fun
theorem mEv_38 : mEv X call rt full cur L st g = (mStep X call rt full (mStep X call rt full (mStep X call rt full (mStep X call rt full (mStep X call rt full (mStep X call rt full (mStep X call rt full (mStep X call rt full (mStep X call rt full (mStep X call rt full (mStep X call rt full (mStep X call rt full (mStep X call rt full (mStep X call rt full (mStep X call rt full (mStep X call rt full (mStep X call rt full (mStep X call rt full (mStep X call rt full (mStep X call rt full (mStep X call rt full (mStep X call rt full (mStep X call rt full (mStep X call rt full (mStep X call rt full (mStep X call rt full (mStep X call rt full (mStep X call rt full (mStep X call rt full (mStep X call rt full (mStep X call rt full (mStep X call rt full (mStep X call rt full (mStep X call rt full (mStep X call rt full (mStep X call rt full (mStep X call rt full (mStep X call rt full (mEv X call rt full))))))))))))))))))))))))))))))))))))))) cur L st g := by
  rw [mEv_37]
  exact congrArg (fun k => (mStep X call rt full (mStep X call rt full (mStep X call rt full (mStep X call rt full (mStep X call rt full (mStep X call rt full (mStep X call rt full (mStep X call rt full (mStep X call rt full (mStep X call rt full (mStep X call rt full (mStep X call rt full (mStep X call rt full (mStep X call rt full (mStep X call rt full (mStep X call rt full (mStep X call rt full (mStep X call rt full (mStep X call rt full (mStep X call rt full (mStep X call rt full (mStep X call rt full (mStep X call rt full (mStep X call rt full (mStep X call rt full (mStep X call rt full (mStep X call rt full (mStep X call rt full (mStep X call rt full (mStep X call rt full (mStep X call rt full (mStep X call rt full (mStep X call rt full (mStep X call rt full (mStep X call rt full (mStep X call rt full (mStep X call rt full k))))))))))))))))))))))))))))))))))))) cur L st g) mEv_fun
theorem mEv_39 : mEv X call rt full cur L st g = (mStep X call rt full (mStep X call rt full (mStep X call rt full (mStep X call rt full (mStep X call rt full (mStep X call rt full (mStep X call rt full (mStep X call rt full (mStep X call rt full (mStep X call rt full (mStep X call rt full (mStep X call rt full (mStep X call rt full (mStep X call rt full (mStep X call rt full (mStep X call rt full (mStep X call rt full (mStep X call rt full (mStep X call rt full (mStep X call rt full (mStep X call rt full (mStep X call rt full (mStep X call rt full (mStep X call rt full (mStep X call rt full (mStep X call rt full (mStep X call rt full (mStep X call rt full (mStep X call rt full (mStep X call rt full (mStep X call rt full (mStep X call rt full (mStep X call rt full (mStep X call rt full (mStep X call rt full (mStep X call rt full (mStep X call rt full (mStep X call rt full (mStep X call rt full (mEv X call rt full)))))))))))))))))))))))))))))))))))))))) cur L st g := by
  rw [mEv_38]
  exact congrArg (fun k => (mStep X call rt full (mStep X call rt full (mStep X call rt full (mStep X call rt full (mStep X call rt full (mStep X call rt full (mStep X call rt full (mStep X call rt full (mStep X call rt full (mStep X call rt full (mStep X call rt full (mStep X call rt full (mStep X call rt full (mStep X call rt full (mStep X call rt full (mStep X call rt full (mStep X call rt full (mStep X call rt full (mStep X call rt full (mStep X call rt full (mStep X call rt full (mStep X call rt full (mStep X call rt full (mStep X call rt full (mStep X call rt full (mStep X call rt full (mStep X call rt full (mStep X call rt full (mStep X call rt full (mStep X call rt full (mStep X call rt full (mStep X call rt full (mStep X call rt full (mStep X call rt full (mStep X call rt full (mStep X call rt full (mStep X call rt full (mStep X call rt full k)))))))))))))))))))))))))))))))))))))) cur L st g) mEv_fun
theorem mEv_40 : mEv X call rt full cur L st g = (mStep X call rt full (mStep X call rt full (mStep X call rt full (mStep X call rt full (mStep X call rt full (mStep X call rt full (mStep X call rt full (mStep X call rt full (mStep X call rt full (mStep X call rt full (mStep X call rt full (mStep X call rt full (mStep X call rt full (mStep X call rt full (mStep X call rt full (mStep X call rt full (mStep X call rt full (mStep X call rt full (mStep X call rt full (mStep X call rt full (mStep X call rt full (mStep X call rt full (mStep X call rt full (mStep X call rt full (mStep X call rt full (mStep X call rt full (mStep X call rt full (mStep X call rt full (mStep X call rt full (mStep X call rt full (mStep X call rt full (mStep X call rt full (mStep X call rt full (mStep X call rt full (mStep X call rt full (mStep X call rt full (mStep X call rt full (mStep X call rt full (mStep X call rt full (mStep X call rt full (mEv X call rt full))))))))))))))))))))))))))))))))))))))))) cur L st g := by
  rw [mEv_39]
  exact congrArg (fun k => (mStep X call rt full (mStep X call rt full (mStep X call rt full (mStep X call rt full (mStep X call rt full (mStep X call rt full (mStep X call rt full (mStep X call rt full (mStep X call rt full (mStep X call rt full (mStep X call rt full (mStep X call rt full (mStep X call rt full (mStep X call rt full (mStep X call rt full (mStep X call rt full (mStep X call rt full (mStep X call rt full (mStep X call rt full (mStep X call rt full (mStep X call rt full (mStep X call rt full (mStep X call rt full (mStep X call rt full (mStep X call rt full (mStep X call rt full (mStep X call rt full (mStep X call rt full (mStep X call rt full (mStep X call rt full (mStep X call rt full (mStep X call rt full (mStep X call rt full (mStep X call rt full (mStep X call rt full (mStep X call rt full (mStep X call rt full (mStep X call rt full (mStep X call rt full k))))))))))))))))))))))))))))))))))))))) cur L st g) mEv_fun
end STEPS
end
section
theorem e_J9_min_7cf53_0 {X : mX} {call : Nat → List mV → mG → mR} {g : mG} {x0 x1 : Int32} : mEv X call 1 t_J9_min_7cf53 (mDrop t_J9_min_7cf53 0) [some (mi x0), some (mi x1)] [] g = if x1 < x0 then mEv X call 1 t_J9_min_7cf53 (mDrop t_J9_min_7cf53 9) [some (mi x0), some (mi x1)] [] g else mEv X call 1 t_J9_min_7cf53 (mDrop t_J9_min_7cf53 5) [some (mi x0), some (mi x1)] [] g := (mEv_3 _ _ _ _).trans rfl
theorem e_J9_min_7cf53_9 {X : mX} {call : Nat → List mV → mG → mR} {g : mG} {x0 x1 : Int32} : mEv X call 1 t_J9_min_7cf53 (mDrop t_J9_min_7cf53 9) [some (mi x0), some (mi x1)] [] g = mEv X call 1 t_J9_min_7cf53 (mDrop t_J9_min_7cf53 10) [some (mi x0), some (mi x1)] [mi x1] g := (mEv_1 _ _ _ _).trans rfl
theorem e_J9_min_7cf53_10 {X : mX} {call : Nat → List mV → mG → mR} {g : mG} {x0 x1 s0 : Int32} : mEv X call 1 t_J9_min_7cf53 (mDrop t_J9_min_7cf53 10) [some (mi x0), some (mi x1)] [mi s0] g = some (some (mi s0), g) := (mEv_1 _ _ _ _).trans rfl
theorem e_J9_min_7cf53_5 {X : mX} {call : Nat → List mV → mG → mR} {g : mG} {x0 x1 : Int32} : mEv X call 1 t_J9_min_7cf53 (mDrop t_J9_min_7cf53 5) [some (mi x0), some (mi x1)] [] g = mEv X call 1 t_J9_min_7cf53 (mDrop t_J9_min_7cf53 10) [some (mi x0), some (mi x1)] [mi x0] g := (mEv_2 _ _ _ _).trans rfl
def P_J9_min_7cf53 (x0 : Int32) (x1 : Int32) : (Int32) := (if x1 < x0 then x1 else x0)
theorem rr_J9_min_7cf53 (d : Nat) {X : mX} {g : mG} {x0 x1 : Int32} : mCall mD X (d + 1) 277 [mi x0, mi x1] g = (wN g) (P_J9_min_7cf53 x0 x1) := by
  refine Eq.trans (mCall_eq (d := d + 0) rfl) ?_
  show mEv X (mCall mD X (d + 0)) 1 t_J9_min_7cf53 (mDrop t_J9_min_7cf53 0) [some (mi x0), some (mi x1)] [] g = _
  refine Eq.trans (e_J9_min_7cf53_0) ?_
  refine mw_ite (fun h1 => ?_) (fun h1 => ?_)
  · refine Eq.trans (e_J9_min_7cf53_9) ?_
    refine Eq.trans (e_J9_min_7cf53_10) ?_
    rfl
  · refine Eq.trans (e_J9_min_7cf53_5) ?_
    refine Eq.trans (e_J9_min_7cf53_10) ?_
    rfl
theorem e_J9_max_7cf53_0 {X : mX} {call : Nat → List mV → mG → mR} {g : mG} {x0 x1 : Int32} : mEv X call 1 t_J9_max_7cf53 (mDrop t_J9_max_7cf53 0) [some (mi x0), some (mi x1)] [] g = if x0 < x1 then mEv X call 1 t_J9_max_7cf53 (mDrop t_J9_max_7cf53 9) [some (mi x0), some (mi x1)] [] g else mEv X call 1 t_J9_max_7cf53 (mDrop t_J9_max_7cf53 5) [some (mi x0), some (mi x1)] [] g := (mEv_3 _ _ _ _).trans rfl
theorem e_J9_max_7cf53_9 {X : mX} {call : Nat → List mV → mG → mR} {g : mG} {x0 x1 : Int32} : mEv X call 1 t_J9_max_7cf53 (mDrop t_J9_max_7cf53 9) [some (mi x0), some (mi x1)] [] g = mEv X call 1 t_J9_max_7cf53 (mDrop t_J9_max_7cf53 10) [some (mi x0), some (mi x1)] [mi x1] g := (mEv_1 _ _ _ _).trans rfl
theorem e_J9_max_7cf53_10 {X : mX} {call : Nat → List mV → mG → mR} {g : mG} {x0 x1 s0 : Int32} : mEv X call 1 t_J9_max_7cf53 (mDrop t_J9_max_7cf53 10) [some (mi x0), some (mi x1)] [mi s0] g = some (some (mi s0), g) := (mEv_1 _ _ _ _).trans rfl
theorem e_J9_max_7cf53_5 {X : mX} {call : Nat → List mV → mG → mR} {g : mG} {x0 x1 : Int32} : mEv X call 1 t_J9_max_7cf53 (mDrop t_J9_max_7cf53 5) [some (mi x0), some (mi x1)] [] g = mEv X call 1 t_J9_max_7cf53 (mDrop t_J9_max_7cf53 10) [some (mi x0), some (mi x1)] [mi x0] g := (mEv_2 _ _ _ _).trans rfl
def P_J9_max_7cf53 (x0 : Int32) (x1 : Int32) : (Int32) := (if x0 < x1 then x1 else x0)
theorem rr_J9_max_7cf53 (d : Nat) {X : mX} {g : mG} {x0 x1 : Int32} : mCall mD X (d + 1) 276 [mi x0, mi x1] g = (wN g) (P_J9_max_7cf53 x0 x1) := by
  refine Eq.trans (mCall_eq (d := d + 0) rfl) ?_
  show mEv X (mCall mD X (d + 0)) 1 t_J9_max_7cf53 (mDrop t_J9_max_7cf53 0) [some (mi x0), some (mi x1)] [] g = _
  refine Eq.trans (e_J9_max_7cf53_0) ?_
  refine mw_ite (fun h1 => ?_) (fun h1 => ?_)
  · refine Eq.trans (e_J9_max_7cf53_9) ?_
    refine Eq.trans (e_J9_max_7cf53_10) ?_
    rfl
  · refine Eq.trans (e_J9_max_7cf53_5) ?_
    refine Eq.trans (e_J9_max_7cf53_10) ?_
    rfl
/-! the leaves: rows of cells -/
section LEAF
variable {X : mX}
def cl (n : Nat) (f : Nat → Int32) (k : Int32) : Int32 := if k < 0 ∨ n ≤ k.toNatClampNeg then 0 else f k.toNatClampNeg
def pt (n : Nat) (c : mC) (j : Nat) (k v : Int32) : mC := if k < 0 ∨ n ≤ k.toNatClampNeg then c else mP c j k.toNatClampNeg v
def mCp (n : Nat) (c : mC) (j : Nat) (f : Nat → Int32) : mC := mA c j (fun q => if q < n then f q else c j q)
def mFi (n : Nat) (c : mC) (j : Nat) (v : Int32) : mC := mA c j (fun q => if q < n then v else c j q)
def mTs (f : Nat → Int32) : Nat → Int32
  | 0 => 0
  | n + 1 => mTs f n + f n
def mTt (n : Nat) (f : Nat → Int32) : Int32 := mTs f n
def mFm (x y : Int32) : Int32 := if 0 ≤ (x ^^^ y) then x - x / y * y else if x - x / y * y = 0 then x - x / y * y else x - x / y * y + y
theorem wI_self (g : mG) (i : Nat) (x : Int32) : wI g i (g i) x = wN g x := by
  show some (some (mi x), mU g i (g i)) = _
  rw [mU_self]
theorem wOI_self (g : mG) (i : Nat) (o : Option Int32) : wO (wI g i (g i)) o = wO (wN g) o := by
  cases o with
  | none => rfl
  | some x => exact wI_self g i x
theorem mw_cR {R : mR} {k : mK} {nx : List mT} {L : mL} {st : List mV} {x : mR} {a b : Nat} {g : mG} (h : x = some (some (mr a b), g)) (hk : k nx L (mr a b :: st) g = R) : mAns k nx L st x = R := by
  rw [h]; exact hk
theorem mle_iff {k : Int32} {n : Nat} (hn : n < 2 ^ 31) (h0 : ¬ k < 0) : Int32.ofNat n ≤ k ↔ n ≤ k.toNatClampNeg := by
  obtain ⟨q, hq, rfl⟩ := nI_of h0
  rw [nI_clamp hq]
  exact nI_leI hn hq
theorem mrng {k : Int32} {n : Nat} (hn : n < 2 ^ 31) (h0 : ¬ k < 0) (h1 : ¬ Int32.ofNat n ≤ k) : ¬ (k < 0 ∨ n ≤ k.toNatClampNeg) := fun z => z.elim h0 (fun z => h1 ((mle_iff hn h0).mpr z))
theorem rr_J9_floorMod_7cf53 (d : Nat) {g : mG} {x y : Int32} (h : y ≠ 0) : mCall mD X (d + 1) 275 [mi x, mi y] g = wN g (mFm x y) := by
  refine Eq.trans (mCall_eq (d := d) rfl) ?_
  show mEv X (mCall mD X d) 1 t_J9_floorMod_7cf53 (mDrop t_J9_floorMod_7cf53 0) [some (mi x), some (mi y), none] [] g = _
  refine Eq.trans (mEv_3 _ _ _ _) (Eq.trans (if_neg h) ?_)
  unfold mFm
  by_cases h1 : 0 ≤ (x ^^^ y)
  · rw [if_pos h1]
    refine Eq.trans (mEv_5 _ _ _ _) (Eq.trans (if_pos h1) ?_)
    exact Eq.trans (mEv_2 _ _ _ _) rfl
  · rw [if_neg h1]
    refine Eq.trans (mEv_5 _ _ _ _) (Eq.trans (if_neg h1) ?_)
    by_cases h2 : x - x / y * y = 0
    · rw [if_pos h2]
      refine Eq.trans (mEv_2 _ _ _ _) (Eq.trans (if_pos h2) ?_)
      exact Eq.trans (mEv_2 _ _ _ _) rfl
    · rw [if_neg h2]
      refine Eq.trans (mEv_2 _ _ _ _) (Eq.trans (if_neg h2) ?_)
      exact Eq.trans (mEv_4 _ _ _ _) rfl
theorem rr_X5_cell_2_at (d : Nat) {g : mG} {i : Nat} {k : Int32} : mCall mD X (d + 1) 141 [mr i 2, mi k] g = wN g (cl 8 (g i 2) k) := by
  refine Eq.trans (mCall_eq (d := d) rfl) ?_
  show mEv X (mCall mD X d) 1 t_X5_cell (mDrop t_X5_cell 0) [some (mr i 2), some (mi k)] [] g = _
  unfold cl
  by_cases h0 : k < 0
  · rw [if_pos (Or.inl h0)]
    exact Eq.trans (mEv_2 _ _ _ _) (Eq.trans (if_pos h0) (Eq.trans (mEv_2 _ _ _ _) rfl))
  · refine Eq.trans (mEv_2 _ _ _ _) (Eq.trans (if_neg h0) ?_)
    by_cases h1 : Int32.ofNat 8 ≤ k
    · rw [if_pos (Or.inr ((mle_iff (by decide) h0).mp h1))]
      exact Eq.trans (mEv_4 _ _ _ _) (Eq.trans (if_pos h1) (Eq.trans (mEv_2 _ _ _ _) rfl))
    · have h2 : ¬ (k < 0 ∨ 8 ≤ k.toNatClampNeg) := fun z => z.elim h0 (fun z => h1 ((mle_iff (by decide) h0).mpr z))
      rw [if_neg h2]
      refine Eq.trans (mEv_4 _ _ _ _) (Eq.trans (if_neg h1) ?_)
      refine Eq.trans (mEv_3 _ _ _ _) (Eq.trans (if_neg h2) ?_)
      exact Eq.trans (mEv_2 _ _ _ _) rfl
theorem rr_X5_cell_2 (d : Nat) {g : mG} {c : mC} {i : Nat} {k : Int32} : mCall mD X (d + 1) 141 [mr i 2, mi k] (mU g i c) = wI g i c (cl 8 (c 2) k) := by
  rw [rr_X5_cell_2_at, mU_same]
theorem rr_X5_cell_3_at (d : Nat) {g : mG} {i : Nat} {k : Int32} : mCall mD X (d + 1) 141 [mr i 3, mi k] g = wN g (cl 8 (g i 3) k) := by
  refine Eq.trans (mCall_eq (d := d) rfl) ?_
  show mEv X (mCall mD X d) 1 t_X5_cell (mDrop t_X5_cell 0) [some (mr i 3), some (mi k)] [] g = _
  unfold cl
  by_cases h0 : k < 0
  · rw [if_pos (Or.inl h0)]
    exact Eq.trans (mEv_2 _ _ _ _) (Eq.trans (if_pos h0) (Eq.trans (mEv_2 _ _ _ _) rfl))
  · refine Eq.trans (mEv_2 _ _ _ _) (Eq.trans (if_neg h0) ?_)
    by_cases h1 : Int32.ofNat 8 ≤ k
    · rw [if_pos (Or.inr ((mle_iff (by decide) h0).mp h1))]
      exact Eq.trans (mEv_4 _ _ _ _) (Eq.trans (if_pos h1) (Eq.trans (mEv_2 _ _ _ _) rfl))
    · have h2 : ¬ (k < 0 ∨ 8 ≤ k.toNatClampNeg) := fun z => z.elim h0 (fun z => h1 ((mle_iff (by decide) h0).mpr z))
      rw [if_neg h2]
      refine Eq.trans (mEv_4 _ _ _ _) (Eq.trans (if_neg h1) ?_)
      refine Eq.trans (mEv_3 _ _ _ _) (Eq.trans (if_neg h2) ?_)
      exact Eq.trans (mEv_2 _ _ _ _) rfl
theorem rr_X5_cell_3 (d : Nat) {g : mG} {c : mC} {i : Nat} {k : Int32} : mCall mD X (d + 1) 141 [mr i 3, mi k] (mU g i c) = wI g i c (cl 8 (c 3) k) := by
  rw [rr_X5_cell_3_at, mU_same]
theorem rr_X5_cell_4_at (d : Nat) {g : mG} {i : Nat} {k : Int32} : mCall mD X (d + 1) 141 [mr i 4, mi k] g = wN g (cl 8 (g i 4) k) := by
  refine Eq.trans (mCall_eq (d := d) rfl) ?_
  show mEv X (mCall mD X d) 1 t_X5_cell (mDrop t_X5_cell 0) [some (mr i 4), some (mi k)] [] g = _
  unfold cl
  by_cases h0 : k < 0
  · rw [if_pos (Or.inl h0)]
    exact Eq.trans (mEv_2 _ _ _ _) (Eq.trans (if_pos h0) (Eq.trans (mEv_2 _ _ _ _) rfl))
  · refine Eq.trans (mEv_2 _ _ _ _) (Eq.trans (if_neg h0) ?_)
    by_cases h1 : Int32.ofNat 8 ≤ k
    · rw [if_pos (Or.inr ((mle_iff (by decide) h0).mp h1))]
      exact Eq.trans (mEv_4 _ _ _ _) (Eq.trans (if_pos h1) (Eq.trans (mEv_2 _ _ _ _) rfl))
    · have h2 : ¬ (k < 0 ∨ 8 ≤ k.toNatClampNeg) := fun z => z.elim h0 (fun z => h1 ((mle_iff (by decide) h0).mpr z))
      rw [if_neg h2]
      refine Eq.trans (mEv_4 _ _ _ _) (Eq.trans (if_neg h1) ?_)
      refine Eq.trans (mEv_3 _ _ _ _) (Eq.trans (if_neg h2) ?_)
      exact Eq.trans (mEv_2 _ _ _ _) rfl
theorem rr_X5_cell_4 (d : Nat) {g : mG} {c : mC} {i : Nat} {k : Int32} : mCall mD X (d + 1) 141 [mr i 4, mi k] (mU g i c) = wI g i c (cl 8 (c 4) k) := by
  rw [rr_X5_cell_4_at, mU_same]
theorem rr_X5_cell_6_at (d : Nat) {g : mG} {i : Nat} {k : Int32} : mCall mD X (d + 1) 141 [mr i 6, mi k] g = wN g (cl 10 (g i 6) k) := by
  refine Eq.trans (mCall_eq (d := d) rfl) ?_
  show mEv X (mCall mD X d) 1 t_X5_cell (mDrop t_X5_cell 0) [some (mr i 6), some (mi k)] [] g = _
  unfold cl
  by_cases h0 : k < 0
  · rw [if_pos (Or.inl h0)]
    exact Eq.trans (mEv_2 _ _ _ _) (Eq.trans (if_pos h0) (Eq.trans (mEv_2 _ _ _ _) rfl))
  · refine Eq.trans (mEv_2 _ _ _ _) (Eq.trans (if_neg h0) ?_)
    by_cases h1 : Int32.ofNat 10 ≤ k
    · rw [if_pos (Or.inr ((mle_iff (by decide) h0).mp h1))]
      exact Eq.trans (mEv_4 _ _ _ _) (Eq.trans (if_pos h1) (Eq.trans (mEv_2 _ _ _ _) rfl))
    · have h2 : ¬ (k < 0 ∨ 10 ≤ k.toNatClampNeg) := fun z => z.elim h0 (fun z => h1 ((mle_iff (by decide) h0).mpr z))
      rw [if_neg h2]
      refine Eq.trans (mEv_4 _ _ _ _) (Eq.trans (if_neg h1) ?_)
      refine Eq.trans (mEv_3 _ _ _ _) (Eq.trans (if_neg h2) ?_)
      exact Eq.trans (mEv_2 _ _ _ _) rfl
theorem rr_X5_cell_6 (d : Nat) {g : mG} {c : mC} {i : Nat} {k : Int32} : mCall mD X (d + 1) 141 [mr i 6, mi k] (mU g i c) = wI g i c (cl 10 (c 6) k) := by
  rw [rr_X5_cell_6_at, mU_same]
theorem rr_X5_cell_11_at (d : Nat) {g : mG} {i : Nat} {k : Int32} : mCall mD X (d + 1) 141 [mr i 11, mi k] g = wN g (cl 32 (g i 11) k) := by
  refine Eq.trans (mCall_eq (d := d) rfl) ?_
  show mEv X (mCall mD X d) 1 t_X5_cell (mDrop t_X5_cell 0) [some (mr i 11), some (mi k)] [] g = _
  unfold cl
  by_cases h0 : k < 0
  · rw [if_pos (Or.inl h0)]
    exact Eq.trans (mEv_2 _ _ _ _) (Eq.trans (if_pos h0) (Eq.trans (mEv_2 _ _ _ _) rfl))
  · refine Eq.trans (mEv_2 _ _ _ _) (Eq.trans (if_neg h0) ?_)
    by_cases h1 : Int32.ofNat 32 ≤ k
    · rw [if_pos (Or.inr ((mle_iff (by decide) h0).mp h1))]
      exact Eq.trans (mEv_4 _ _ _ _) (Eq.trans (if_pos h1) (Eq.trans (mEv_2 _ _ _ _) rfl))
    · have h2 : ¬ (k < 0 ∨ 32 ≤ k.toNatClampNeg) := fun z => z.elim h0 (fun z => h1 ((mle_iff (by decide) h0).mpr z))
      rw [if_neg h2]
      refine Eq.trans (mEv_4 _ _ _ _) (Eq.trans (if_neg h1) ?_)
      refine Eq.trans (mEv_3 _ _ _ _) (Eq.trans (if_neg h2) ?_)
      exact Eq.trans (mEv_2 _ _ _ _) rfl
theorem rr_X5_cell_11 (d : Nat) {g : mG} {c : mC} {i : Nat} {k : Int32} : mCall mD X (d + 1) 141 [mr i 11, mi k] (mU g i c) = wI g i c (cl 32 (c 11) k) := by
  rw [rr_X5_cell_11_at, mU_same]
theorem rr_X5_cell_12_at (d : Nat) {g : mG} {i : Nat} {k : Int32} : mCall mD X (d + 1) 141 [mr i 12, mi k] g = wN g (cl 32 (g i 12) k) := by
  refine Eq.trans (mCall_eq (d := d) rfl) ?_
  show mEv X (mCall mD X d) 1 t_X5_cell (mDrop t_X5_cell 0) [some (mr i 12), some (mi k)] [] g = _
  unfold cl
  by_cases h0 : k < 0
  · rw [if_pos (Or.inl h0)]
    exact Eq.trans (mEv_2 _ _ _ _) (Eq.trans (if_pos h0) (Eq.trans (mEv_2 _ _ _ _) rfl))
  · refine Eq.trans (mEv_2 _ _ _ _) (Eq.trans (if_neg h0) ?_)
    by_cases h1 : Int32.ofNat 32 ≤ k
    · rw [if_pos (Or.inr ((mle_iff (by decide) h0).mp h1))]
      exact Eq.trans (mEv_4 _ _ _ _) (Eq.trans (if_pos h1) (Eq.trans (mEv_2 _ _ _ _) rfl))
    · have h2 : ¬ (k < 0 ∨ 32 ≤ k.toNatClampNeg) := fun z => z.elim h0 (fun z => h1 ((mle_iff (by decide) h0).mpr z))
      rw [if_neg h2]
      refine Eq.trans (mEv_4 _ _ _ _) (Eq.trans (if_neg h1) ?_)
      refine Eq.trans (mEv_3 _ _ _ _) (Eq.trans (if_neg h2) ?_)
      exact Eq.trans (mEv_2 _ _ _ _) rfl
theorem rr_X5_cell_12 (d : Nat) {g : mG} {c : mC} {i : Nat} {k : Int32} : mCall mD X (d + 1) 141 [mr i 12, mi k] (mU g i c) = wI g i c (cl 32 (c 12) k) := by
  rw [rr_X5_cell_12_at, mU_same]
theorem rr_X5_cell_13_at (d : Nat) {g : mG} {i : Nat} {k : Int32} : mCall mD X (d + 1) 141 [mr i 13, mi k] g = wN g (cl 32 (g i 13) k) := by
  refine Eq.trans (mCall_eq (d := d) rfl) ?_
  show mEv X (mCall mD X d) 1 t_X5_cell (mDrop t_X5_cell 0) [some (mr i 13), some (mi k)] [] g = _
  unfold cl
  by_cases h0 : k < 0
  · rw [if_pos (Or.inl h0)]
    exact Eq.trans (mEv_2 _ _ _ _) (Eq.trans (if_pos h0) (Eq.trans (mEv_2 _ _ _ _) rfl))
  · refine Eq.trans (mEv_2 _ _ _ _) (Eq.trans (if_neg h0) ?_)
    by_cases h1 : Int32.ofNat 32 ≤ k
    · rw [if_pos (Or.inr ((mle_iff (by decide) h0).mp h1))]
      exact Eq.trans (mEv_4 _ _ _ _) (Eq.trans (if_pos h1) (Eq.trans (mEv_2 _ _ _ _) rfl))
    · have h2 : ¬ (k < 0 ∨ 32 ≤ k.toNatClampNeg) := fun z => z.elim h0 (fun z => h1 ((mle_iff (by decide) h0).mpr z))
      rw [if_neg h2]
      refine Eq.trans (mEv_4 _ _ _ _) (Eq.trans (if_neg h1) ?_)
      refine Eq.trans (mEv_3 _ _ _ _) (Eq.trans (if_neg h2) ?_)
      exact Eq.trans (mEv_2 _ _ _ _) rfl
theorem rr_X5_cell_13 (d : Nat) {g : mG} {c : mC} {i : Nat} {k : Int32} : mCall mD X (d + 1) 141 [mr i 13, mi k] (mU g i c) = wI g i c (cl 32 (c 13) k) := by
  rw [rr_X5_cell_13_at, mU_same]
theorem rr_X5_cell_14_at (d : Nat) {g : mG} {i : Nat} {k : Int32} : mCall mD X (d + 1) 141 [mr i 14, mi k] g = wN g (cl 8 (g i 14) k) := by
  refine Eq.trans (mCall_eq (d := d) rfl) ?_
  show mEv X (mCall mD X d) 1 t_X5_cell (mDrop t_X5_cell 0) [some (mr i 14), some (mi k)] [] g = _
  unfold cl
  by_cases h0 : k < 0
  · rw [if_pos (Or.inl h0)]
    exact Eq.trans (mEv_2 _ _ _ _) (Eq.trans (if_pos h0) (Eq.trans (mEv_2 _ _ _ _) rfl))
  · refine Eq.trans (mEv_2 _ _ _ _) (Eq.trans (if_neg h0) ?_)
    by_cases h1 : Int32.ofNat 8 ≤ k
    · rw [if_pos (Or.inr ((mle_iff (by decide) h0).mp h1))]
      exact Eq.trans (mEv_4 _ _ _ _) (Eq.trans (if_pos h1) (Eq.trans (mEv_2 _ _ _ _) rfl))
    · have h2 : ¬ (k < 0 ∨ 8 ≤ k.toNatClampNeg) := fun z => z.elim h0 (fun z => h1 ((mle_iff (by decide) h0).mpr z))
      rw [if_neg h2]
      refine Eq.trans (mEv_4 _ _ _ _) (Eq.trans (if_neg h1) ?_)
      refine Eq.trans (mEv_3 _ _ _ _) (Eq.trans (if_neg h2) ?_)
      exact Eq.trans (mEv_2 _ _ _ _) rfl
theorem rr_X5_cell_14 (d : Nat) {g : mG} {c : mC} {i : Nat} {k : Int32} : mCall mD X (d + 1) 141 [mr i 14, mi k] (mU g i c) = wI g i c (cl 8 (c 14) k) := by
  rw [rr_X5_cell_14_at, mU_same]
theorem rr_X5_cell_15_at (d : Nat) {g : mG} {i : Nat} {k : Int32} : mCall mD X (d + 1) 141 [mr i 15, mi k] g = wN g (cl 8 (g i 15) k) := by
  refine Eq.trans (mCall_eq (d := d) rfl) ?_
  show mEv X (mCall mD X d) 1 t_X5_cell (mDrop t_X5_cell 0) [some (mr i 15), some (mi k)] [] g = _
  unfold cl
  by_cases h0 : k < 0
  · rw [if_pos (Or.inl h0)]
    exact Eq.trans (mEv_2 _ _ _ _) (Eq.trans (if_pos h0) (Eq.trans (mEv_2 _ _ _ _) rfl))
  · refine Eq.trans (mEv_2 _ _ _ _) (Eq.trans (if_neg h0) ?_)
    by_cases h1 : Int32.ofNat 8 ≤ k
    · rw [if_pos (Or.inr ((mle_iff (by decide) h0).mp h1))]
      exact Eq.trans (mEv_4 _ _ _ _) (Eq.trans (if_pos h1) (Eq.trans (mEv_2 _ _ _ _) rfl))
    · have h2 : ¬ (k < 0 ∨ 8 ≤ k.toNatClampNeg) := fun z => z.elim h0 (fun z => h1 ((mle_iff (by decide) h0).mpr z))
      rw [if_neg h2]
      refine Eq.trans (mEv_4 _ _ _ _) (Eq.trans (if_neg h1) ?_)
      refine Eq.trans (mEv_3 _ _ _ _) (Eq.trans (if_neg h2) ?_)
      exact Eq.trans (mEv_2 _ _ _ _) rfl
theorem rr_X5_cell_15 (d : Nat) {g : mG} {c : mC} {i : Nat} {k : Int32} : mCall mD X (d + 1) 141 [mr i 15, mi k] (mU g i c) = wI g i c (cl 8 (c 15) k) := by
  rw [rr_X5_cell_15_at, mU_same]
theorem rr_X5_cell_27_at (d : Nat) {g : mG} {k : Int32} : mCall mD X (d + 1) 141 [mr 9 27, mi k] g = wN g (cl 10 (mRO X 9 27) k) := by
  refine Eq.trans (mCall_eq (d := d) rfl) ?_
  show mEv X (mCall mD X d) 1 t_X5_cell (mDrop t_X5_cell 0) [some (mr 9 27), some (mi k)] [] g = _
  unfold cl
  by_cases h0 : k < 0
  · rw [if_pos (Or.inl h0)]
    exact Eq.trans (mEv_2 _ _ _ _) (Eq.trans (if_pos h0) (Eq.trans (mEv_2 _ _ _ _) rfl))
  · refine Eq.trans (mEv_2 _ _ _ _) (Eq.trans (if_neg h0) ?_)
    by_cases h1 : Int32.ofNat 10 ≤ k
    · rw [if_pos (Or.inr ((mle_iff (by decide) h0).mp h1))]
      exact Eq.trans (mEv_4 _ _ _ _) (Eq.trans (if_pos h1) (Eq.trans (mEv_2 _ _ _ _) rfl))
    · have h2 : ¬ (k < 0 ∨ 10 ≤ k.toNatClampNeg) := fun z => z.elim h0 (fun z => h1 ((mle_iff (by decide) h0).mpr z))
      rw [if_neg h2]
      refine Eq.trans (mEv_4 _ _ _ _) (Eq.trans (if_neg h1) ?_)
      refine Eq.trans (mEv_3 _ _ _ _) (Eq.trans (if_neg h2) ?_)
      exact Eq.trans (mEv_2 _ _ _ _) rfl
theorem rr_X5_cell_28_at (d : Nat) {g : mG} {k : Int32} : mCall mD X (d + 1) 141 [mr 9 28, mi k] g = wN g (cl 10 (mRO X 9 28) k) := by
  refine Eq.trans (mCall_eq (d := d) rfl) ?_
  show mEv X (mCall mD X d) 1 t_X5_cell (mDrop t_X5_cell 0) [some (mr 9 28), some (mi k)] [] g = _
  unfold cl
  by_cases h0 : k < 0
  · rw [if_pos (Or.inl h0)]
    exact Eq.trans (mEv_2 _ _ _ _) (Eq.trans (if_pos h0) (Eq.trans (mEv_2 _ _ _ _) rfl))
  · refine Eq.trans (mEv_2 _ _ _ _) (Eq.trans (if_neg h0) ?_)
    by_cases h1 : Int32.ofNat 10 ≤ k
    · rw [if_pos (Or.inr ((mle_iff (by decide) h0).mp h1))]
      exact Eq.trans (mEv_4 _ _ _ _) (Eq.trans (if_pos h1) (Eq.trans (mEv_2 _ _ _ _) rfl))
    · have h2 : ¬ (k < 0 ∨ 10 ≤ k.toNatClampNeg) := fun z => z.elim h0 (fun z => h1 ((mle_iff (by decide) h0).mpr z))
      rw [if_neg h2]
      refine Eq.trans (mEv_4 _ _ _ _) (Eq.trans (if_neg h1) ?_)
      refine Eq.trans (mEv_3 _ _ _ _) (Eq.trans (if_neg h2) ?_)
      exact Eq.trans (mEv_2 _ _ _ _) rfl
theorem rr_X5_cell_29_at (d : Nat) {g : mG} {k : Int32} : mCall mD X (d + 1) 141 [mr 9 29, mi k] g = wN g (cl 10 (mRO X 9 29) k) := by
  refine Eq.trans (mCall_eq (d := d) rfl) ?_
  show mEv X (mCall mD X d) 1 t_X5_cell (mDrop t_X5_cell 0) [some (mr 9 29), some (mi k)] [] g = _
  unfold cl
  by_cases h0 : k < 0
  · rw [if_pos (Or.inl h0)]
    exact Eq.trans (mEv_2 _ _ _ _) (Eq.trans (if_pos h0) (Eq.trans (mEv_2 _ _ _ _) rfl))
  · refine Eq.trans (mEv_2 _ _ _ _) (Eq.trans (if_neg h0) ?_)
    by_cases h1 : Int32.ofNat 10 ≤ k
    · rw [if_pos (Or.inr ((mle_iff (by decide) h0).mp h1))]
      exact Eq.trans (mEv_4 _ _ _ _) (Eq.trans (if_pos h1) (Eq.trans (mEv_2 _ _ _ _) rfl))
    · have h2 : ¬ (k < 0 ∨ 10 ≤ k.toNatClampNeg) := fun z => z.elim h0 (fun z => h1 ((mle_iff (by decide) h0).mpr z))
      rw [if_neg h2]
      refine Eq.trans (mEv_4 _ _ _ _) (Eq.trans (if_neg h1) ?_)
      refine Eq.trans (mEv_3 _ _ _ _) (Eq.trans (if_neg h2) ?_)
      exact Eq.trans (mEv_2 _ _ _ _) rfl
theorem rr_X5_put_2 (d : Nat) {g : mG} {c : mC} {i : Nat} {k v : Int32} : mCall mD X (d + 1) 142 [mr i 2, mi k, mi v] (mU g i c) = wV g i (pt 8 c 2 k v) := by
  refine Eq.trans (mCall_eq (d := d) rfl) ?_
  show mEv X (mCall mD X d) 0 t_X5_put (mDrop t_X5_put 0) [some (mr i 2), some (mi k), some (mi v)] [] (mU g i c) = _
  unfold pt
  by_cases h0 : k < 0
  · rw [if_pos (Or.inl h0)]
    exact Eq.trans (mEv_2 _ _ _ _) (Eq.trans (if_pos h0) (Eq.trans (mEv_1 _ _ _ _) rfl))
  · refine Eq.trans (mEv_2 _ _ _ _) (Eq.trans (if_neg h0) ?_)
    by_cases h1 : Int32.ofNat 8 ≤ k
    · rw [if_pos (Or.inr ((mle_iff (by decide) h0).mp h1))]
      exact Eq.trans (mEv_4 _ _ _ _) (Eq.trans (if_pos h1) (Eq.trans (mEv_1 _ _ _ _) rfl))
    · have h2 : ¬ (k < 0 ∨ 8 ≤ k.toNatClampNeg) := fun z => z.elim h0 (fun z => h1 ((mle_iff (by decide) h0).mpr z))
      rw [if_neg h2]
      refine Eq.trans (mEv_4 _ _ _ _) (Eq.trans (if_neg h1) ?_)
      refine Eq.trans (mEv_4 _ _ _ _) (Eq.trans (if_neg h2) ?_)
      refine Eq.trans (mEv_1 _ _ _ _) ?_
      show some (none, mU (mU g i c) i (mP (mU g i c i) 2 k.toNatClampNeg v)) = _
      rw [mU_same, mU_mU]
theorem rr_X5_put_3 (d : Nat) {g : mG} {c : mC} {i : Nat} {k v : Int32} : mCall mD X (d + 1) 142 [mr i 3, mi k, mi v] (mU g i c) = wV g i (pt 8 c 3 k v) := by
  refine Eq.trans (mCall_eq (d := d) rfl) ?_
  show mEv X (mCall mD X d) 0 t_X5_put (mDrop t_X5_put 0) [some (mr i 3), some (mi k), some (mi v)] [] (mU g i c) = _
  unfold pt
  by_cases h0 : k < 0
  · rw [if_pos (Or.inl h0)]
    exact Eq.trans (mEv_2 _ _ _ _) (Eq.trans (if_pos h0) (Eq.trans (mEv_1 _ _ _ _) rfl))
  · refine Eq.trans (mEv_2 _ _ _ _) (Eq.trans (if_neg h0) ?_)
    by_cases h1 : Int32.ofNat 8 ≤ k
    · rw [if_pos (Or.inr ((mle_iff (by decide) h0).mp h1))]
      exact Eq.trans (mEv_4 _ _ _ _) (Eq.trans (if_pos h1) (Eq.trans (mEv_1 _ _ _ _) rfl))
    · have h2 : ¬ (k < 0 ∨ 8 ≤ k.toNatClampNeg) := fun z => z.elim h0 (fun z => h1 ((mle_iff (by decide) h0).mpr z))
      rw [if_neg h2]
      refine Eq.trans (mEv_4 _ _ _ _) (Eq.trans (if_neg h1) ?_)
      refine Eq.trans (mEv_4 _ _ _ _) (Eq.trans (if_neg h2) ?_)
      refine Eq.trans (mEv_1 _ _ _ _) ?_
      show some (none, mU (mU g i c) i (mP (mU g i c i) 3 k.toNatClampNeg v)) = _
      rw [mU_same, mU_mU]
theorem rr_X5_put_4 (d : Nat) {g : mG} {c : mC} {i : Nat} {k v : Int32} : mCall mD X (d + 1) 142 [mr i 4, mi k, mi v] (mU g i c) = wV g i (pt 8 c 4 k v) := by
  refine Eq.trans (mCall_eq (d := d) rfl) ?_
  show mEv X (mCall mD X d) 0 t_X5_put (mDrop t_X5_put 0) [some (mr i 4), some (mi k), some (mi v)] [] (mU g i c) = _
  unfold pt
  by_cases h0 : k < 0
  · rw [if_pos (Or.inl h0)]
    exact Eq.trans (mEv_2 _ _ _ _) (Eq.trans (if_pos h0) (Eq.trans (mEv_1 _ _ _ _) rfl))
  · refine Eq.trans (mEv_2 _ _ _ _) (Eq.trans (if_neg h0) ?_)
    by_cases h1 : Int32.ofNat 8 ≤ k
    · rw [if_pos (Or.inr ((mle_iff (by decide) h0).mp h1))]
      exact Eq.trans (mEv_4 _ _ _ _) (Eq.trans (if_pos h1) (Eq.trans (mEv_1 _ _ _ _) rfl))
    · have h2 : ¬ (k < 0 ∨ 8 ≤ k.toNatClampNeg) := fun z => z.elim h0 (fun z => h1 ((mle_iff (by decide) h0).mpr z))
      rw [if_neg h2]
      refine Eq.trans (mEv_4 _ _ _ _) (Eq.trans (if_neg h1) ?_)
      refine Eq.trans (mEv_4 _ _ _ _) (Eq.trans (if_neg h2) ?_)
      refine Eq.trans (mEv_1 _ _ _ _) ?_
      show some (none, mU (mU g i c) i (mP (mU g i c i) 4 k.toNatClampNeg v)) = _
      rw [mU_same, mU_mU]
theorem rr_X5_put_5 (d : Nat) {g : mG} {c : mC} {i : Nat} {k v : Int32} : mCall mD X (d + 1) 142 [mr i 5, mi k, mi v] (mU g i c) = wV g i (pt 80 c 5 k v) := by
  refine Eq.trans (mCall_eq (d := d) rfl) ?_
  show mEv X (mCall mD X d) 0 t_X5_put (mDrop t_X5_put 0) [some (mr i 5), some (mi k), some (mi v)] [] (mU g i c) = _
  unfold pt
  by_cases h0 : k < 0
  · rw [if_pos (Or.inl h0)]
    exact Eq.trans (mEv_2 _ _ _ _) (Eq.trans (if_pos h0) (Eq.trans (mEv_1 _ _ _ _) rfl))
  · refine Eq.trans (mEv_2 _ _ _ _) (Eq.trans (if_neg h0) ?_)
    by_cases h1 : Int32.ofNat 80 ≤ k
    · rw [if_pos (Or.inr ((mle_iff (by decide) h0).mp h1))]
      exact Eq.trans (mEv_4 _ _ _ _) (Eq.trans (if_pos h1) (Eq.trans (mEv_1 _ _ _ _) rfl))
    · have h2 : ¬ (k < 0 ∨ 80 ≤ k.toNatClampNeg) := fun z => z.elim h0 (fun z => h1 ((mle_iff (by decide) h0).mpr z))
      rw [if_neg h2]
      refine Eq.trans (mEv_4 _ _ _ _) (Eq.trans (if_neg h1) ?_)
      refine Eq.trans (mEv_4 _ _ _ _) (Eq.trans (if_neg h2) ?_)
      refine Eq.trans (mEv_1 _ _ _ _) ?_
      show some (none, mU (mU g i c) i (mP (mU g i c i) 5 k.toNatClampNeg v)) = _
      rw [mU_same, mU_mU]
theorem rr_X5_put_6 (d : Nat) {g : mG} {c : mC} {i : Nat} {k v : Int32} : mCall mD X (d + 1) 142 [mr i 6, mi k, mi v] (mU g i c) = wV g i (pt 10 c 6 k v) := by
  refine Eq.trans (mCall_eq (d := d) rfl) ?_
  show mEv X (mCall mD X d) 0 t_X5_put (mDrop t_X5_put 0) [some (mr i 6), some (mi k), some (mi v)] [] (mU g i c) = _
  unfold pt
  by_cases h0 : k < 0
  · rw [if_pos (Or.inl h0)]
    exact Eq.trans (mEv_2 _ _ _ _) (Eq.trans (if_pos h0) (Eq.trans (mEv_1 _ _ _ _) rfl))
  · refine Eq.trans (mEv_2 _ _ _ _) (Eq.trans (if_neg h0) ?_)
    by_cases h1 : Int32.ofNat 10 ≤ k
    · rw [if_pos (Or.inr ((mle_iff (by decide) h0).mp h1))]
      exact Eq.trans (mEv_4 _ _ _ _) (Eq.trans (if_pos h1) (Eq.trans (mEv_1 _ _ _ _) rfl))
    · have h2 : ¬ (k < 0 ∨ 10 ≤ k.toNatClampNeg) := fun z => z.elim h0 (fun z => h1 ((mle_iff (by decide) h0).mpr z))
      rw [if_neg h2]
      refine Eq.trans (mEv_4 _ _ _ _) (Eq.trans (if_neg h1) ?_)
      refine Eq.trans (mEv_4 _ _ _ _) (Eq.trans (if_neg h2) ?_)
      refine Eq.trans (mEv_1 _ _ _ _) ?_
      show some (none, mU (mU g i c) i (mP (mU g i c i) 6 k.toNatClampNeg v)) = _
      rw [mU_same, mU_mU]
theorem rr_X5_put_7 (d : Nat) {g : mG} {c : mC} {i : Nat} {k v : Int32} : mCall mD X (d + 1) 142 [mr i 7, mi k, mi v] (mU g i c) = wV g i (pt 4 c 7 k v) := by
  refine Eq.trans (mCall_eq (d := d) rfl) ?_
  show mEv X (mCall mD X d) 0 t_X5_put (mDrop t_X5_put 0) [some (mr i 7), some (mi k), some (mi v)] [] (mU g i c) = _
  unfold pt
  by_cases h0 : k < 0
  · rw [if_pos (Or.inl h0)]
    exact Eq.trans (mEv_2 _ _ _ _) (Eq.trans (if_pos h0) (Eq.trans (mEv_1 _ _ _ _) rfl))
  · refine Eq.trans (mEv_2 _ _ _ _) (Eq.trans (if_neg h0) ?_)
    by_cases h1 : Int32.ofNat 4 ≤ k
    · rw [if_pos (Or.inr ((mle_iff (by decide) h0).mp h1))]
      exact Eq.trans (mEv_4 _ _ _ _) (Eq.trans (if_pos h1) (Eq.trans (mEv_1 _ _ _ _) rfl))
    · have h2 : ¬ (k < 0 ∨ 4 ≤ k.toNatClampNeg) := fun z => z.elim h0 (fun z => h1 ((mle_iff (by decide) h0).mpr z))
      rw [if_neg h2]
      refine Eq.trans (mEv_4 _ _ _ _) (Eq.trans (if_neg h1) ?_)
      refine Eq.trans (mEv_4 _ _ _ _) (Eq.trans (if_neg h2) ?_)
      refine Eq.trans (mEv_1 _ _ _ _) ?_
      show some (none, mU (mU g i c) i (mP (mU g i c i) 7 k.toNatClampNeg v)) = _
      rw [mU_same, mU_mU]
theorem rr_X5_put_14 (d : Nat) {g : mG} {c : mC} {i : Nat} {k v : Int32} : mCall mD X (d + 1) 142 [mr i 14, mi k, mi v] (mU g i c) = wV g i (pt 8 c 14 k v) := by
  refine Eq.trans (mCall_eq (d := d) rfl) ?_
  show mEv X (mCall mD X d) 0 t_X5_put (mDrop t_X5_put 0) [some (mr i 14), some (mi k), some (mi v)] [] (mU g i c) = _
  unfold pt
  by_cases h0 : k < 0
  · rw [if_pos (Or.inl h0)]
    exact Eq.trans (mEv_2 _ _ _ _) (Eq.trans (if_pos h0) (Eq.trans (mEv_1 _ _ _ _) rfl))
  · refine Eq.trans (mEv_2 _ _ _ _) (Eq.trans (if_neg h0) ?_)
    by_cases h1 : Int32.ofNat 8 ≤ k
    · rw [if_pos (Or.inr ((mle_iff (by decide) h0).mp h1))]
      exact Eq.trans (mEv_4 _ _ _ _) (Eq.trans (if_pos h1) (Eq.trans (mEv_1 _ _ _ _) rfl))
    · have h2 : ¬ (k < 0 ∨ 8 ≤ k.toNatClampNeg) := fun z => z.elim h0 (fun z => h1 ((mle_iff (by decide) h0).mpr z))
      rw [if_neg h2]
      refine Eq.trans (mEv_4 _ _ _ _) (Eq.trans (if_neg h1) ?_)
      refine Eq.trans (mEv_4 _ _ _ _) (Eq.trans (if_neg h2) ?_)
      refine Eq.trans (mEv_1 _ _ _ _) ?_
      show some (none, mU (mU g i c) i (mP (mU g i c i) 14 k.toNatClampNeg v)) = _
      rw [mU_same, mU_mU]
theorem rr_X5_put_15 (d : Nat) {g : mG} {c : mC} {i : Nat} {k v : Int32} : mCall mD X (d + 1) 142 [mr i 15, mi k, mi v] (mU g i c) = wV g i (pt 8 c 15 k v) := by
  refine Eq.trans (mCall_eq (d := d) rfl) ?_
  show mEv X (mCall mD X d) 0 t_X5_put (mDrop t_X5_put 0) [some (mr i 15), some (mi k), some (mi v)] [] (mU g i c) = _
  unfold pt
  by_cases h0 : k < 0
  · rw [if_pos (Or.inl h0)]
    exact Eq.trans (mEv_2 _ _ _ _) (Eq.trans (if_pos h0) (Eq.trans (mEv_1 _ _ _ _) rfl))
  · refine Eq.trans (mEv_2 _ _ _ _) (Eq.trans (if_neg h0) ?_)
    by_cases h1 : Int32.ofNat 8 ≤ k
    · rw [if_pos (Or.inr ((mle_iff (by decide) h0).mp h1))]
      exact Eq.trans (mEv_4 _ _ _ _) (Eq.trans (if_pos h1) (Eq.trans (mEv_1 _ _ _ _) rfl))
    · have h2 : ¬ (k < 0 ∨ 8 ≤ k.toNatClampNeg) := fun z => z.elim h0 (fun z => h1 ((mle_iff (by decide) h0).mpr z))
      rw [if_neg h2]
      refine Eq.trans (mEv_4 _ _ _ _) (Eq.trans (if_neg h1) ?_)
      refine Eq.trans (mEv_4 _ _ _ _) (Eq.trans (if_neg h2) ?_)
      refine Eq.trans (mEv_1 _ _ _ _) ?_
      show some (none, mU (mU g i c) i (mP (mU g i c i) 15 k.toNatClampNeg v)) = _
      rw [mU_same, mU_mU]
theorem rr_X5_copyRow_2 (d : Nat) {g : mG} {c : mC} {i o : Nat} (h_o : o ≠ i) : mCall mD X (d + 2) 143 [mr o 2, mr i 2] (mU g i c) = wV g i (mCp 8 c 2 (g o 2)) := by
  refine Eq.trans (mCall_eq (d := d + 1) rfl) ?_
  show mEv X (mCall mD X (d + 1)) 0 t_X5_copyRow (mDrop t_X5_copyRow 0) [some (mr o 2), some (mr i 2)] [] (mU g i c) = _
  refine Eq.trans (mEv_9 _ _ _ _) ?_
  show mAns (mEv X (mCall mD X (d + 1)) 0 t_X5_copyRow) (mDrop t_X5_copyRow 11) [some (mr o 2), some (mr i 2)] [mi 0, mr i 2, mi 0, mr o 2] (mCall mD X (d + 1) 277 [mi 8, mi 8] (mU g i c)) = _
  rw [rr_J9_min_7cf53 d, show P_J9_min_7cf53 8 8 = 8 by decide]
  show mEv X (mCall mD X (d + 1)) 0 t_X5_copyRow (mDrop t_X5_copyRow 11) [some (mr o 2), some (mr i 2)] [mi 8, mi 0, mr i 2, mi 0, mr o 2] (mU g i c) = _
  refine Eq.trans (mEv_1 _ _ _ _) ?_
  show mEv X (mCall mD X (d + 1)) 0 t_X5_copyRow (mDrop t_X5_copyRow 14) [some (mr o 2), some (mr i 2)] [] (mU (mU g i c) i (mA (mU g i c i) 2 (fun q => if q < (8 : Int32).toNatClampNeg then mU g i c o 2 q else mU g i c i 2 q))) = _
  refine Eq.trans (mEv_1 _ _ _ _) ?_
  show some (none, mU (mU g i c) i (mA (mU g i c i) 2 (fun q => if q < (8 : Int32).toNatClampNeg then mU g i c o 2 q else mU g i c i 2 q))) = _
  rw [mU_same, mU_mU, mU_ne _ _ h_o, show (8 : Int32).toNatClampNeg = 8 by decide]
  rfl
theorem rr_X5_copyRow_3 (d : Nat) {g : mG} {c : mC} {i o : Nat} (h_o : o ≠ i) : mCall mD X (d + 2) 143 [mr o 3, mr i 3] (mU g i c) = wV g i (mCp 8 c 3 (g o 3)) := by
  refine Eq.trans (mCall_eq (d := d + 1) rfl) ?_
  show mEv X (mCall mD X (d + 1)) 0 t_X5_copyRow (mDrop t_X5_copyRow 0) [some (mr o 3), some (mr i 3)] [] (mU g i c) = _
  refine Eq.trans (mEv_9 _ _ _ _) ?_
  show mAns (mEv X (mCall mD X (d + 1)) 0 t_X5_copyRow) (mDrop t_X5_copyRow 11) [some (mr o 3), some (mr i 3)] [mi 0, mr i 3, mi 0, mr o 3] (mCall mD X (d + 1) 277 [mi 8, mi 8] (mU g i c)) = _
  rw [rr_J9_min_7cf53 d, show P_J9_min_7cf53 8 8 = 8 by decide]
  show mEv X (mCall mD X (d + 1)) 0 t_X5_copyRow (mDrop t_X5_copyRow 11) [some (mr o 3), some (mr i 3)] [mi 8, mi 0, mr i 3, mi 0, mr o 3] (mU g i c) = _
  refine Eq.trans (mEv_1 _ _ _ _) ?_
  show mEv X (mCall mD X (d + 1)) 0 t_X5_copyRow (mDrop t_X5_copyRow 14) [some (mr o 3), some (mr i 3)] [] (mU (mU g i c) i (mA (mU g i c i) 3 (fun q => if q < (8 : Int32).toNatClampNeg then mU g i c o 3 q else mU g i c i 3 q))) = _
  refine Eq.trans (mEv_1 _ _ _ _) ?_
  show some (none, mU (mU g i c) i (mA (mU g i c i) 3 (fun q => if q < (8 : Int32).toNatClampNeg then mU g i c o 3 q else mU g i c i 3 q))) = _
  rw [mU_same, mU_mU, mU_ne _ _ h_o, show (8 : Int32).toNatClampNeg = 8 by decide]
  rfl
theorem rr_X5_copyRow_4 (d : Nat) {g : mG} {c : mC} {i o : Nat} (h_o : o ≠ i) : mCall mD X (d + 2) 143 [mr o 4, mr i 4] (mU g i c) = wV g i (mCp 8 c 4 (g o 4)) := by
  refine Eq.trans (mCall_eq (d := d + 1) rfl) ?_
  show mEv X (mCall mD X (d + 1)) 0 t_X5_copyRow (mDrop t_X5_copyRow 0) [some (mr o 4), some (mr i 4)] [] (mU g i c) = _
  refine Eq.trans (mEv_9 _ _ _ _) ?_
  show mAns (mEv X (mCall mD X (d + 1)) 0 t_X5_copyRow) (mDrop t_X5_copyRow 11) [some (mr o 4), some (mr i 4)] [mi 0, mr i 4, mi 0, mr o 4] (mCall mD X (d + 1) 277 [mi 8, mi 8] (mU g i c)) = _
  rw [rr_J9_min_7cf53 d, show P_J9_min_7cf53 8 8 = 8 by decide]
  show mEv X (mCall mD X (d + 1)) 0 t_X5_copyRow (mDrop t_X5_copyRow 11) [some (mr o 4), some (mr i 4)] [mi 8, mi 0, mr i 4, mi 0, mr o 4] (mU g i c) = _
  refine Eq.trans (mEv_1 _ _ _ _) ?_
  show mEv X (mCall mD X (d + 1)) 0 t_X5_copyRow (mDrop t_X5_copyRow 14) [some (mr o 4), some (mr i 4)] [] (mU (mU g i c) i (mA (mU g i c i) 4 (fun q => if q < (8 : Int32).toNatClampNeg then mU g i c o 4 q else mU g i c i 4 q))) = _
  refine Eq.trans (mEv_1 _ _ _ _) ?_
  show some (none, mU (mU g i c) i (mA (mU g i c i) 4 (fun q => if q < (8 : Int32).toNatClampNeg then mU g i c o 4 q else mU g i c i 4 q))) = _
  rw [mU_same, mU_mU, mU_ne _ _ h_o, show (8 : Int32).toNatClampNeg = 8 by decide]
  rfl
theorem rr_X5_copyRow_5 (d : Nat) {g : mG} {c : mC} {i o : Nat} (h_o : o ≠ i) : mCall mD X (d + 2) 143 [mr o 5, mr i 5] (mU g i c) = wV g i (mCp 80 c 5 (g o 5)) := by
  refine Eq.trans (mCall_eq (d := d + 1) rfl) ?_
  show mEv X (mCall mD X (d + 1)) 0 t_X5_copyRow (mDrop t_X5_copyRow 0) [some (mr o 5), some (mr i 5)] [] (mU g i c) = _
  refine Eq.trans (mEv_9 _ _ _ _) ?_
  show mAns (mEv X (mCall mD X (d + 1)) 0 t_X5_copyRow) (mDrop t_X5_copyRow 11) [some (mr o 5), some (mr i 5)] [mi 0, mr i 5, mi 0, mr o 5] (mCall mD X (d + 1) 277 [mi 80, mi 80] (mU g i c)) = _
  rw [rr_J9_min_7cf53 d, show P_J9_min_7cf53 80 80 = 80 by decide]
  show mEv X (mCall mD X (d + 1)) 0 t_X5_copyRow (mDrop t_X5_copyRow 11) [some (mr o 5), some (mr i 5)] [mi 80, mi 0, mr i 5, mi 0, mr o 5] (mU g i c) = _
  refine Eq.trans (mEv_1 _ _ _ _) ?_
  show mEv X (mCall mD X (d + 1)) 0 t_X5_copyRow (mDrop t_X5_copyRow 14) [some (mr o 5), some (mr i 5)] [] (mU (mU g i c) i (mA (mU g i c i) 5 (fun q => if q < (80 : Int32).toNatClampNeg then mU g i c o 5 q else mU g i c i 5 q))) = _
  refine Eq.trans (mEv_1 _ _ _ _) ?_
  show some (none, mU (mU g i c) i (mA (mU g i c i) 5 (fun q => if q < (80 : Int32).toNatClampNeg then mU g i c o 5 q else mU g i c i 5 q))) = _
  rw [mU_same, mU_mU, mU_ne _ _ h_o, show (80 : Int32).toNatClampNeg = 80 by decide]
  rfl
theorem rr_X5_copyRow_6 (d : Nat) {g : mG} {c : mC} {i o : Nat} (h_o : o ≠ i) : mCall mD X (d + 2) 143 [mr o 6, mr i 6] (mU g i c) = wV g i (mCp 10 c 6 (g o 6)) := by
  refine Eq.trans (mCall_eq (d := d + 1) rfl) ?_
  show mEv X (mCall mD X (d + 1)) 0 t_X5_copyRow (mDrop t_X5_copyRow 0) [some (mr o 6), some (mr i 6)] [] (mU g i c) = _
  refine Eq.trans (mEv_9 _ _ _ _) ?_
  show mAns (mEv X (mCall mD X (d + 1)) 0 t_X5_copyRow) (mDrop t_X5_copyRow 11) [some (mr o 6), some (mr i 6)] [mi 0, mr i 6, mi 0, mr o 6] (mCall mD X (d + 1) 277 [mi 10, mi 10] (mU g i c)) = _
  rw [rr_J9_min_7cf53 d, show P_J9_min_7cf53 10 10 = 10 by decide]
  show mEv X (mCall mD X (d + 1)) 0 t_X5_copyRow (mDrop t_X5_copyRow 11) [some (mr o 6), some (mr i 6)] [mi 10, mi 0, mr i 6, mi 0, mr o 6] (mU g i c) = _
  refine Eq.trans (mEv_1 _ _ _ _) ?_
  show mEv X (mCall mD X (d + 1)) 0 t_X5_copyRow (mDrop t_X5_copyRow 14) [some (mr o 6), some (mr i 6)] [] (mU (mU g i c) i (mA (mU g i c i) 6 (fun q => if q < (10 : Int32).toNatClampNeg then mU g i c o 6 q else mU g i c i 6 q))) = _
  refine Eq.trans (mEv_1 _ _ _ _) ?_
  show some (none, mU (mU g i c) i (mA (mU g i c i) 6 (fun q => if q < (10 : Int32).toNatClampNeg then mU g i c o 6 q else mU g i c i 6 q))) = _
  rw [mU_same, mU_mU, mU_ne _ _ h_o, show (10 : Int32).toNatClampNeg = 10 by decide]
  rfl
theorem rr_X5_copyRow_7 (d : Nat) {g : mG} {c : mC} {i o : Nat} (h_o : o ≠ i) : mCall mD X (d + 2) 143 [mr o 7, mr i 7] (mU g i c) = wV g i (mCp 4 c 7 (g o 7)) := by
  refine Eq.trans (mCall_eq (d := d + 1) rfl) ?_
  show mEv X (mCall mD X (d + 1)) 0 t_X5_copyRow (mDrop t_X5_copyRow 0) [some (mr o 7), some (mr i 7)] [] (mU g i c) = _
  refine Eq.trans (mEv_9 _ _ _ _) ?_
  show mAns (mEv X (mCall mD X (d + 1)) 0 t_X5_copyRow) (mDrop t_X5_copyRow 11) [some (mr o 7), some (mr i 7)] [mi 0, mr i 7, mi 0, mr o 7] (mCall mD X (d + 1) 277 [mi 4, mi 4] (mU g i c)) = _
  rw [rr_J9_min_7cf53 d, show P_J9_min_7cf53 4 4 = 4 by decide]
  show mEv X (mCall mD X (d + 1)) 0 t_X5_copyRow (mDrop t_X5_copyRow 11) [some (mr o 7), some (mr i 7)] [mi 4, mi 0, mr i 7, mi 0, mr o 7] (mU g i c) = _
  refine Eq.trans (mEv_1 _ _ _ _) ?_
  show mEv X (mCall mD X (d + 1)) 0 t_X5_copyRow (mDrop t_X5_copyRow 14) [some (mr o 7), some (mr i 7)] [] (mU (mU g i c) i (mA (mU g i c i) 7 (fun q => if q < (4 : Int32).toNatClampNeg then mU g i c o 7 q else mU g i c i 7 q))) = _
  refine Eq.trans (mEv_1 _ _ _ _) ?_
  show some (none, mU (mU g i c) i (mA (mU g i c i) 7 (fun q => if q < (4 : Int32).toNatClampNeg then mU g i c o 7 q else mU g i c i 7 q))) = _
  rw [mU_same, mU_mU, mU_ne _ _ h_o, show (4 : Int32).toNatClampNeg = 4 by decide]
  rfl
theorem rr_X5_copyRow_11 (d : Nat) {g : mG} {c : mC} {i o : Nat} (h_o : o ≠ i) : mCall mD X (d + 2) 143 [mr o 11, mr i 11] (mU g i c) = wV g i (mCp 32 c 11 (g o 11)) := by
  refine Eq.trans (mCall_eq (d := d + 1) rfl) ?_
  show mEv X (mCall mD X (d + 1)) 0 t_X5_copyRow (mDrop t_X5_copyRow 0) [some (mr o 11), some (mr i 11)] [] (mU g i c) = _
  refine Eq.trans (mEv_9 _ _ _ _) ?_
  show mAns (mEv X (mCall mD X (d + 1)) 0 t_X5_copyRow) (mDrop t_X5_copyRow 11) [some (mr o 11), some (mr i 11)] [mi 0, mr i 11, mi 0, mr o 11] (mCall mD X (d + 1) 277 [mi 32, mi 32] (mU g i c)) = _
  rw [rr_J9_min_7cf53 d, show P_J9_min_7cf53 32 32 = 32 by decide]
  show mEv X (mCall mD X (d + 1)) 0 t_X5_copyRow (mDrop t_X5_copyRow 11) [some (mr o 11), some (mr i 11)] [mi 32, mi 0, mr i 11, mi 0, mr o 11] (mU g i c) = _
  refine Eq.trans (mEv_1 _ _ _ _) ?_
  show mEv X (mCall mD X (d + 1)) 0 t_X5_copyRow (mDrop t_X5_copyRow 14) [some (mr o 11), some (mr i 11)] [] (mU (mU g i c) i (mA (mU g i c i) 11 (fun q => if q < (32 : Int32).toNatClampNeg then mU g i c o 11 q else mU g i c i 11 q))) = _
  refine Eq.trans (mEv_1 _ _ _ _) ?_
  show some (none, mU (mU g i c) i (mA (mU g i c i) 11 (fun q => if q < (32 : Int32).toNatClampNeg then mU g i c o 11 q else mU g i c i 11 q))) = _
  rw [mU_same, mU_mU, mU_ne _ _ h_o, show (32 : Int32).toNatClampNeg = 32 by decide]
  rfl
theorem rr_X5_copyRow_12 (d : Nat) {g : mG} {c : mC} {i o : Nat} (h_o : o ≠ i) : mCall mD X (d + 2) 143 [mr o 12, mr i 12] (mU g i c) = wV g i (mCp 32 c 12 (g o 12)) := by
  refine Eq.trans (mCall_eq (d := d + 1) rfl) ?_
  show mEv X (mCall mD X (d + 1)) 0 t_X5_copyRow (mDrop t_X5_copyRow 0) [some (mr o 12), some (mr i 12)] [] (mU g i c) = _
  refine Eq.trans (mEv_9 _ _ _ _) ?_
  show mAns (mEv X (mCall mD X (d + 1)) 0 t_X5_copyRow) (mDrop t_X5_copyRow 11) [some (mr o 12), some (mr i 12)] [mi 0, mr i 12, mi 0, mr o 12] (mCall mD X (d + 1) 277 [mi 32, mi 32] (mU g i c)) = _
  rw [rr_J9_min_7cf53 d, show P_J9_min_7cf53 32 32 = 32 by decide]
  show mEv X (mCall mD X (d + 1)) 0 t_X5_copyRow (mDrop t_X5_copyRow 11) [some (mr o 12), some (mr i 12)] [mi 32, mi 0, mr i 12, mi 0, mr o 12] (mU g i c) = _
  refine Eq.trans (mEv_1 _ _ _ _) ?_
  show mEv X (mCall mD X (d + 1)) 0 t_X5_copyRow (mDrop t_X5_copyRow 14) [some (mr o 12), some (mr i 12)] [] (mU (mU g i c) i (mA (mU g i c i) 12 (fun q => if q < (32 : Int32).toNatClampNeg then mU g i c o 12 q else mU g i c i 12 q))) = _
  refine Eq.trans (mEv_1 _ _ _ _) ?_
  show some (none, mU (mU g i c) i (mA (mU g i c i) 12 (fun q => if q < (32 : Int32).toNatClampNeg then mU g i c o 12 q else mU g i c i 12 q))) = _
  rw [mU_same, mU_mU, mU_ne _ _ h_o, show (32 : Int32).toNatClampNeg = 32 by decide]
  rfl
theorem rr_X5_copyRow_13 (d : Nat) {g : mG} {c : mC} {i o : Nat} (h_o : o ≠ i) : mCall mD X (d + 2) 143 [mr o 13, mr i 13] (mU g i c) = wV g i (mCp 32 c 13 (g o 13)) := by
  refine Eq.trans (mCall_eq (d := d + 1) rfl) ?_
  show mEv X (mCall mD X (d + 1)) 0 t_X5_copyRow (mDrop t_X5_copyRow 0) [some (mr o 13), some (mr i 13)] [] (mU g i c) = _
  refine Eq.trans (mEv_9 _ _ _ _) ?_
  show mAns (mEv X (mCall mD X (d + 1)) 0 t_X5_copyRow) (mDrop t_X5_copyRow 11) [some (mr o 13), some (mr i 13)] [mi 0, mr i 13, mi 0, mr o 13] (mCall mD X (d + 1) 277 [mi 32, mi 32] (mU g i c)) = _
  rw [rr_J9_min_7cf53 d, show P_J9_min_7cf53 32 32 = 32 by decide]
  show mEv X (mCall mD X (d + 1)) 0 t_X5_copyRow (mDrop t_X5_copyRow 11) [some (mr o 13), some (mr i 13)] [mi 32, mi 0, mr i 13, mi 0, mr o 13] (mU g i c) = _
  refine Eq.trans (mEv_1 _ _ _ _) ?_
  show mEv X (mCall mD X (d + 1)) 0 t_X5_copyRow (mDrop t_X5_copyRow 14) [some (mr o 13), some (mr i 13)] [] (mU (mU g i c) i (mA (mU g i c i) 13 (fun q => if q < (32 : Int32).toNatClampNeg then mU g i c o 13 q else mU g i c i 13 q))) = _
  refine Eq.trans (mEv_1 _ _ _ _) ?_
  show some (none, mU (mU g i c) i (mA (mU g i c i) 13 (fun q => if q < (32 : Int32).toNatClampNeg then mU g i c o 13 q else mU g i c i 13 q))) = _
  rw [mU_same, mU_mU, mU_ne _ _ h_o, show (32 : Int32).toNatClampNeg = 32 by decide]
  rfl
theorem rr_X5_copyRow_14 (d : Nat) {g : mG} {c : mC} {i o : Nat} (h_o : o ≠ i) : mCall mD X (d + 2) 143 [mr o 14, mr i 14] (mU g i c) = wV g i (mCp 8 c 14 (g o 14)) := by
  refine Eq.trans (mCall_eq (d := d + 1) rfl) ?_
  show mEv X (mCall mD X (d + 1)) 0 t_X5_copyRow (mDrop t_X5_copyRow 0) [some (mr o 14), some (mr i 14)] [] (mU g i c) = _
  refine Eq.trans (mEv_9 _ _ _ _) ?_
  show mAns (mEv X (mCall mD X (d + 1)) 0 t_X5_copyRow) (mDrop t_X5_copyRow 11) [some (mr o 14), some (mr i 14)] [mi 0, mr i 14, mi 0, mr o 14] (mCall mD X (d + 1) 277 [mi 8, mi 8] (mU g i c)) = _
  rw [rr_J9_min_7cf53 d, show P_J9_min_7cf53 8 8 = 8 by decide]
  show mEv X (mCall mD X (d + 1)) 0 t_X5_copyRow (mDrop t_X5_copyRow 11) [some (mr o 14), some (mr i 14)] [mi 8, mi 0, mr i 14, mi 0, mr o 14] (mU g i c) = _
  refine Eq.trans (mEv_1 _ _ _ _) ?_
  show mEv X (mCall mD X (d + 1)) 0 t_X5_copyRow (mDrop t_X5_copyRow 14) [some (mr o 14), some (mr i 14)] [] (mU (mU g i c) i (mA (mU g i c i) 14 (fun q => if q < (8 : Int32).toNatClampNeg then mU g i c o 14 q else mU g i c i 14 q))) = _
  refine Eq.trans (mEv_1 _ _ _ _) ?_
  show some (none, mU (mU g i c) i (mA (mU g i c i) 14 (fun q => if q < (8 : Int32).toNatClampNeg then mU g i c o 14 q else mU g i c i 14 q))) = _
  rw [mU_same, mU_mU, mU_ne _ _ h_o, show (8 : Int32).toNatClampNeg = 8 by decide]
  rfl
theorem rr_X5_copyRow_15 (d : Nat) {g : mG} {c : mC} {i o : Nat} (h_o : o ≠ i) : mCall mD X (d + 2) 143 [mr o 15, mr i 15] (mU g i c) = wV g i (mCp 8 c 15 (g o 15)) := by
  refine Eq.trans (mCall_eq (d := d + 1) rfl) ?_
  show mEv X (mCall mD X (d + 1)) 0 t_X5_copyRow (mDrop t_X5_copyRow 0) [some (mr o 15), some (mr i 15)] [] (mU g i c) = _
  refine Eq.trans (mEv_9 _ _ _ _) ?_
  show mAns (mEv X (mCall mD X (d + 1)) 0 t_X5_copyRow) (mDrop t_X5_copyRow 11) [some (mr o 15), some (mr i 15)] [mi 0, mr i 15, mi 0, mr o 15] (mCall mD X (d + 1) 277 [mi 8, mi 8] (mU g i c)) = _
  rw [rr_J9_min_7cf53 d, show P_J9_min_7cf53 8 8 = 8 by decide]
  show mEv X (mCall mD X (d + 1)) 0 t_X5_copyRow (mDrop t_X5_copyRow 11) [some (mr o 15), some (mr i 15)] [mi 8, mi 0, mr i 15, mi 0, mr o 15] (mU g i c) = _
  refine Eq.trans (mEv_1 _ _ _ _) ?_
  show mEv X (mCall mD X (d + 1)) 0 t_X5_copyRow (mDrop t_X5_copyRow 14) [some (mr o 15), some (mr i 15)] [] (mU (mU g i c) i (mA (mU g i c i) 15 (fun q => if q < (8 : Int32).toNatClampNeg then mU g i c o 15 q else mU g i c i 15 q))) = _
  refine Eq.trans (mEv_1 _ _ _ _) ?_
  show some (none, mU (mU g i c) i (mA (mU g i c i) 15 (fun q => if q < (8 : Int32).toNatClampNeg then mU g i c o 15 q else mU g i c i 15 q))) = _
  rw [mU_same, mU_mU, mU_ne _ _ h_o, show (8 : Int32).toNatClampNeg = 8 by decide]
  rfl
theorem mFi_zero (c : mC) (j : Nat) (v : Int32) : mFi 0 c j v = c := by
  funext a
  unfold mFi mA
  by_cases h : a = j
  · rw [if_pos h]
    funext q
    rw [if_neg (Nat.not_lt_zero q), h]
  · rw [if_neg h]
theorem mFi_succ (q : Nat) (c : mC) (j : Nat) (v : Int32) : mP (mFi q c j v) j q v = mFi (q + 1) c j v := by
  funext a b
  unfold mP mFi mA
  by_cases h : a = j
  · subst h
    by_cases hb : b = q
    · rw [if_pos ⟨rfl, hb⟩, if_pos rfl, if_pos (by omega)]
    · rw [if_neg (fun z => hb z.2), if_pos rfl, if_pos rfl]
      by_cases h2 : b < q
      · rw [if_pos h2, if_pos (by omega)]
      · rw [if_neg h2, if_neg (by omega)]
  · rw [if_neg (fun z => h z.1), if_neg h, if_neg h]
theorem rr_X5_fillRow_2 (d : Nat) {g : mG} {c : mC} {i : Nat} {v : Int32} : mCall mD X (d + 1) 144 [mr i 2, mi v] (mU g i c) = wV g i (mFi 8 c 2 v) := by
  refine Eq.trans (mCall_eq (d := d) rfl) ?_
  show mEv X (mCall mD X d) 0 t_X5_fillRow (mDrop t_X5_fillRow 0) [some (mr i 2), some (mi v), none] [] (mU g i c) = _
  refine Eq.trans (mEv_2 _ _ _ _) ?_
  have key : ∀ m q : Nat, q + m = 8 → mEv X (mCall mD X d) 0 t_X5_fillRow (mDrop t_X5_fillRow 2) [some (mr i 2), some (mi v), some (mi (nI q))] [] (mU g i (mFi q c 2 v)) = wV g i (mFi 8 c 2 v) := by
    intro m
    induction m with
    | zero =>
      intro q hq
      have e : q = 8 := hq
      refine Eq.trans (mEv_4 _ _ _ _) (Eq.trans (if_pos (show nI 8 ≤ nI q by rw [e]; exact Int32.le_refl _)) ?_)
      rw [e]
      exact Eq.trans (mEv_1 _ _ _ _) rfl
    | succ m ih =>
      intro q hq
      have hlt : q < 8 := by omega
      have hb : q < 2 ^ 31 := Nat.lt_trans hlt (by decide)
      refine Eq.trans (mEv_4 _ _ _ _) (Eq.trans (if_neg (nI_ge hlt (by decide))) ?_)
      refine Eq.trans (mEv_4 _ _ _ _) (Eq.trans (if_neg (nI_in hlt (by decide))) ?_)
      refine Eq.trans (mEv_2 _ _ _ _) ?_
      show mEv X (mCall mD X d) 0 t_X5_fillRow (mDrop t_X5_fillRow 2) [some (mr i 2), some (mi v), some (mi (nI q + 1))] [] (mU (mU g i (mFi q c 2 v)) i (mP (mU g i (mFi q c 2 v) i) 2 (nI q).toNatClampNeg v)) = _
      rw [mU_same, mU_mU, nI_clamp hb, nI_1, ← ih (q + 1) (by omega)]
      congr 2
      exact mFi_succ _ _ _ _
  have h := key 8 0 (by decide)
  rw [mFi_zero] at h
  exact h
theorem rr_X5_fillRow_3 (d : Nat) {g : mG} {c : mC} {i : Nat} {v : Int32} : mCall mD X (d + 1) 144 [mr i 3, mi v] (mU g i c) = wV g i (mFi 8 c 3 v) := by
  refine Eq.trans (mCall_eq (d := d) rfl) ?_
  show mEv X (mCall mD X d) 0 t_X5_fillRow (mDrop t_X5_fillRow 0) [some (mr i 3), some (mi v), none] [] (mU g i c) = _
  refine Eq.trans (mEv_2 _ _ _ _) ?_
  have key : ∀ m q : Nat, q + m = 8 → mEv X (mCall mD X d) 0 t_X5_fillRow (mDrop t_X5_fillRow 2) [some (mr i 3), some (mi v), some (mi (nI q))] [] (mU g i (mFi q c 3 v)) = wV g i (mFi 8 c 3 v) := by
    intro m
    induction m with
    | zero =>
      intro q hq
      have e : q = 8 := hq
      refine Eq.trans (mEv_4 _ _ _ _) (Eq.trans (if_pos (show nI 8 ≤ nI q by rw [e]; exact Int32.le_refl _)) ?_)
      rw [e]
      exact Eq.trans (mEv_1 _ _ _ _) rfl
    | succ m ih =>
      intro q hq
      have hlt : q < 8 := by omega
      have hb : q < 2 ^ 31 := Nat.lt_trans hlt (by decide)
      refine Eq.trans (mEv_4 _ _ _ _) (Eq.trans (if_neg (nI_ge hlt (by decide))) ?_)
      refine Eq.trans (mEv_4 _ _ _ _) (Eq.trans (if_neg (nI_in hlt (by decide))) ?_)
      refine Eq.trans (mEv_2 _ _ _ _) ?_
      show mEv X (mCall mD X d) 0 t_X5_fillRow (mDrop t_X5_fillRow 2) [some (mr i 3), some (mi v), some (mi (nI q + 1))] [] (mU (mU g i (mFi q c 3 v)) i (mP (mU g i (mFi q c 3 v) i) 3 (nI q).toNatClampNeg v)) = _
      rw [mU_same, mU_mU, nI_clamp hb, nI_1, ← ih (q + 1) (by omega)]
      congr 2
      exact mFi_succ _ _ _ _
  have h := key 8 0 (by decide)
  rw [mFi_zero] at h
  exact h
theorem rr_X5_fillRow_4 (d : Nat) {g : mG} {c : mC} {i : Nat} {v : Int32} : mCall mD X (d + 1) 144 [mr i 4, mi v] (mU g i c) = wV g i (mFi 8 c 4 v) := by
  refine Eq.trans (mCall_eq (d := d) rfl) ?_
  show mEv X (mCall mD X d) 0 t_X5_fillRow (mDrop t_X5_fillRow 0) [some (mr i 4), some (mi v), none] [] (mU g i c) = _
  refine Eq.trans (mEv_2 _ _ _ _) ?_
  have key : ∀ m q : Nat, q + m = 8 → mEv X (mCall mD X d) 0 t_X5_fillRow (mDrop t_X5_fillRow 2) [some (mr i 4), some (mi v), some (mi (nI q))] [] (mU g i (mFi q c 4 v)) = wV g i (mFi 8 c 4 v) := by
    intro m
    induction m with
    | zero =>
      intro q hq
      have e : q = 8 := hq
      refine Eq.trans (mEv_4 _ _ _ _) (Eq.trans (if_pos (show nI 8 ≤ nI q by rw [e]; exact Int32.le_refl _)) ?_)
      rw [e]
      exact Eq.trans (mEv_1 _ _ _ _) rfl
    | succ m ih =>
      intro q hq
      have hlt : q < 8 := by omega
      have hb : q < 2 ^ 31 := Nat.lt_trans hlt (by decide)
      refine Eq.trans (mEv_4 _ _ _ _) (Eq.trans (if_neg (nI_ge hlt (by decide))) ?_)
      refine Eq.trans (mEv_4 _ _ _ _) (Eq.trans (if_neg (nI_in hlt (by decide))) ?_)
      refine Eq.trans (mEv_2 _ _ _ _) ?_
      show mEv X (mCall mD X d) 0 t_X5_fillRow (mDrop t_X5_fillRow 2) [some (mr i 4), some (mi v), some (mi (nI q + 1))] [] (mU (mU g i (mFi q c 4 v)) i (mP (mU g i (mFi q c 4 v) i) 4 (nI q).toNatClampNeg v)) = _
      rw [mU_same, mU_mU, nI_clamp hb, nI_1, ← ih (q + 1) (by omega)]
      congr 2
      exact mFi_succ _ _ _ _
  have h := key 8 0 (by decide)
  rw [mFi_zero] at h
  exact h
theorem rr_X5_fillRow_5 (d : Nat) {g : mG} {c : mC} {i : Nat} {v : Int32} : mCall mD X (d + 1) 144 [mr i 5, mi v] (mU g i c) = wV g i (mFi 80 c 5 v) := by
  refine Eq.trans (mCall_eq (d := d) rfl) ?_
  show mEv X (mCall mD X d) 0 t_X5_fillRow (mDrop t_X5_fillRow 0) [some (mr i 5), some (mi v), none] [] (mU g i c) = _
  refine Eq.trans (mEv_2 _ _ _ _) ?_
  have key : ∀ m q : Nat, q + m = 80 → mEv X (mCall mD X d) 0 t_X5_fillRow (mDrop t_X5_fillRow 2) [some (mr i 5), some (mi v), some (mi (nI q))] [] (mU g i (mFi q c 5 v)) = wV g i (mFi 80 c 5 v) := by
    intro m
    induction m with
    | zero =>
      intro q hq
      have e : q = 80 := hq
      refine Eq.trans (mEv_4 _ _ _ _) (Eq.trans (if_pos (show nI 80 ≤ nI q by rw [e]; exact Int32.le_refl _)) ?_)
      rw [e]
      exact Eq.trans (mEv_1 _ _ _ _) rfl
    | succ m ih =>
      intro q hq
      have hlt : q < 80 := by omega
      have hb : q < 2 ^ 31 := Nat.lt_trans hlt (by decide)
      refine Eq.trans (mEv_4 _ _ _ _) (Eq.trans (if_neg (nI_ge hlt (by decide))) ?_)
      refine Eq.trans (mEv_4 _ _ _ _) (Eq.trans (if_neg (nI_in hlt (by decide))) ?_)
      refine Eq.trans (mEv_2 _ _ _ _) ?_
      show mEv X (mCall mD X d) 0 t_X5_fillRow (mDrop t_X5_fillRow 2) [some (mr i 5), some (mi v), some (mi (nI q + 1))] [] (mU (mU g i (mFi q c 5 v)) i (mP (mU g i (mFi q c 5 v) i) 5 (nI q).toNatClampNeg v)) = _
      rw [mU_same, mU_mU, nI_clamp hb, nI_1, ← ih (q + 1) (by omega)]
      congr 2
      exact mFi_succ _ _ _ _
  have h := key 80 0 (by decide)
  rw [mFi_zero] at h
  exact h
theorem rr_X5_fillRow_6 (d : Nat) {g : mG} {c : mC} {i : Nat} {v : Int32} : mCall mD X (d + 1) 144 [mr i 6, mi v] (mU g i c) = wV g i (mFi 10 c 6 v) := by
  refine Eq.trans (mCall_eq (d := d) rfl) ?_
  show mEv X (mCall mD X d) 0 t_X5_fillRow (mDrop t_X5_fillRow 0) [some (mr i 6), some (mi v), none] [] (mU g i c) = _
  refine Eq.trans (mEv_2 _ _ _ _) ?_
  have key : ∀ m q : Nat, q + m = 10 → mEv X (mCall mD X d) 0 t_X5_fillRow (mDrop t_X5_fillRow 2) [some (mr i 6), some (mi v), some (mi (nI q))] [] (mU g i (mFi q c 6 v)) = wV g i (mFi 10 c 6 v) := by
    intro m
    induction m with
    | zero =>
      intro q hq
      have e : q = 10 := hq
      refine Eq.trans (mEv_4 _ _ _ _) (Eq.trans (if_pos (show nI 10 ≤ nI q by rw [e]; exact Int32.le_refl _)) ?_)
      rw [e]
      exact Eq.trans (mEv_1 _ _ _ _) rfl
    | succ m ih =>
      intro q hq
      have hlt : q < 10 := by omega
      have hb : q < 2 ^ 31 := Nat.lt_trans hlt (by decide)
      refine Eq.trans (mEv_4 _ _ _ _) (Eq.trans (if_neg (nI_ge hlt (by decide))) ?_)
      refine Eq.trans (mEv_4 _ _ _ _) (Eq.trans (if_neg (nI_in hlt (by decide))) ?_)
      refine Eq.trans (mEv_2 _ _ _ _) ?_
      show mEv X (mCall mD X d) 0 t_X5_fillRow (mDrop t_X5_fillRow 2) [some (mr i 6), some (mi v), some (mi (nI q + 1))] [] (mU (mU g i (mFi q c 6 v)) i (mP (mU g i (mFi q c 6 v) i) 6 (nI q).toNatClampNeg v)) = _
      rw [mU_same, mU_mU, nI_clamp hb, nI_1, ← ih (q + 1) (by omega)]
      congr 2
      exact mFi_succ _ _ _ _
  have h := key 10 0 (by decide)
  rw [mFi_zero] at h
  exact h
theorem rr_X5_fillRow_7 (d : Nat) {g : mG} {c : mC} {i : Nat} {v : Int32} : mCall mD X (d + 1) 144 [mr i 7, mi v] (mU g i c) = wV g i (mFi 4 c 7 v) := by
  refine Eq.trans (mCall_eq (d := d) rfl) ?_
  show mEv X (mCall mD X d) 0 t_X5_fillRow (mDrop t_X5_fillRow 0) [some (mr i 7), some (mi v), none] [] (mU g i c) = _
  refine Eq.trans (mEv_2 _ _ _ _) ?_
  have key : ∀ m q : Nat, q + m = 4 → mEv X (mCall mD X d) 0 t_X5_fillRow (mDrop t_X5_fillRow 2) [some (mr i 7), some (mi v), some (mi (nI q))] [] (mU g i (mFi q c 7 v)) = wV g i (mFi 4 c 7 v) := by
    intro m
    induction m with
    | zero =>
      intro q hq
      have e : q = 4 := hq
      refine Eq.trans (mEv_4 _ _ _ _) (Eq.trans (if_pos (show nI 4 ≤ nI q by rw [e]; exact Int32.le_refl _)) ?_)
      rw [e]
      exact Eq.trans (mEv_1 _ _ _ _) rfl
    | succ m ih =>
      intro q hq
      have hlt : q < 4 := by omega
      have hb : q < 2 ^ 31 := Nat.lt_trans hlt (by decide)
      refine Eq.trans (mEv_4 _ _ _ _) (Eq.trans (if_neg (nI_ge hlt (by decide))) ?_)
      refine Eq.trans (mEv_4 _ _ _ _) (Eq.trans (if_neg (nI_in hlt (by decide))) ?_)
      refine Eq.trans (mEv_2 _ _ _ _) ?_
      show mEv X (mCall mD X d) 0 t_X5_fillRow (mDrop t_X5_fillRow 2) [some (mr i 7), some (mi v), some (mi (nI q + 1))] [] (mU (mU g i (mFi q c 7 v)) i (mP (mU g i (mFi q c 7 v) i) 7 (nI q).toNatClampNeg v)) = _
      rw [mU_same, mU_mU, nI_clamp hb, nI_1, ← ih (q + 1) (by omega)]
      congr 2
      exact mFi_succ _ _ _ _
  have h := key 4 0 (by decide)
  rw [mFi_zero] at h
  exact h
theorem rr_X5_fillRow_14 (d : Nat) {g : mG} {c : mC} {i : Nat} {v : Int32} : mCall mD X (d + 1) 144 [mr i 14, mi v] (mU g i c) = wV g i (mFi 8 c 14 v) := by
  refine Eq.trans (mCall_eq (d := d) rfl) ?_
  show mEv X (mCall mD X d) 0 t_X5_fillRow (mDrop t_X5_fillRow 0) [some (mr i 14), some (mi v), none] [] (mU g i c) = _
  refine Eq.trans (mEv_2 _ _ _ _) ?_
  have key : ∀ m q : Nat, q + m = 8 → mEv X (mCall mD X d) 0 t_X5_fillRow (mDrop t_X5_fillRow 2) [some (mr i 14), some (mi v), some (mi (nI q))] [] (mU g i (mFi q c 14 v)) = wV g i (mFi 8 c 14 v) := by
    intro m
    induction m with
    | zero =>
      intro q hq
      have e : q = 8 := hq
      refine Eq.trans (mEv_4 _ _ _ _) (Eq.trans (if_pos (show nI 8 ≤ nI q by rw [e]; exact Int32.le_refl _)) ?_)
      rw [e]
      exact Eq.trans (mEv_1 _ _ _ _) rfl
    | succ m ih =>
      intro q hq
      have hlt : q < 8 := by omega
      have hb : q < 2 ^ 31 := Nat.lt_trans hlt (by decide)
      refine Eq.trans (mEv_4 _ _ _ _) (Eq.trans (if_neg (nI_ge hlt (by decide))) ?_)
      refine Eq.trans (mEv_4 _ _ _ _) (Eq.trans (if_neg (nI_in hlt (by decide))) ?_)
      refine Eq.trans (mEv_2 _ _ _ _) ?_
      show mEv X (mCall mD X d) 0 t_X5_fillRow (mDrop t_X5_fillRow 2) [some (mr i 14), some (mi v), some (mi (nI q + 1))] [] (mU (mU g i (mFi q c 14 v)) i (mP (mU g i (mFi q c 14 v) i) 14 (nI q).toNatClampNeg v)) = _
      rw [mU_same, mU_mU, nI_clamp hb, nI_1, ← ih (q + 1) (by omega)]
      congr 2
      exact mFi_succ _ _ _ _
  have h := key 8 0 (by decide)
  rw [mFi_zero] at h
  exact h
theorem rr_X5_fillRow_15 (d : Nat) {g : mG} {c : mC} {i : Nat} {v : Int32} : mCall mD X (d + 1) 144 [mr i 15, mi v] (mU g i c) = wV g i (mFi 8 c 15 v) := by
  refine Eq.trans (mCall_eq (d := d) rfl) ?_
  show mEv X (mCall mD X d) 0 t_X5_fillRow (mDrop t_X5_fillRow 0) [some (mr i 15), some (mi v), none] [] (mU g i c) = _
  refine Eq.trans (mEv_2 _ _ _ _) ?_
  have key : ∀ m q : Nat, q + m = 8 → mEv X (mCall mD X d) 0 t_X5_fillRow (mDrop t_X5_fillRow 2) [some (mr i 15), some (mi v), some (mi (nI q))] [] (mU g i (mFi q c 15 v)) = wV g i (mFi 8 c 15 v) := by
    intro m
    induction m with
    | zero =>
      intro q hq
      have e : q = 8 := hq
      refine Eq.trans (mEv_4 _ _ _ _) (Eq.trans (if_pos (show nI 8 ≤ nI q by rw [e]; exact Int32.le_refl _)) ?_)
      rw [e]
      exact Eq.trans (mEv_1 _ _ _ _) rfl
    | succ m ih =>
      intro q hq
      have hlt : q < 8 := by omega
      have hb : q < 2 ^ 31 := Nat.lt_trans hlt (by decide)
      refine Eq.trans (mEv_4 _ _ _ _) (Eq.trans (if_neg (nI_ge hlt (by decide))) ?_)
      refine Eq.trans (mEv_4 _ _ _ _) (Eq.trans (if_neg (nI_in hlt (by decide))) ?_)
      refine Eq.trans (mEv_2 _ _ _ _) ?_
      show mEv X (mCall mD X d) 0 t_X5_fillRow (mDrop t_X5_fillRow 2) [some (mr i 15), some (mi v), some (mi (nI q + 1))] [] (mU (mU g i (mFi q c 15 v)) i (mP (mU g i (mFi q c 15 v) i) 15 (nI q).toNatClampNeg v)) = _
      rw [mU_same, mU_mU, nI_clamp hb, nI_1, ← ih (q + 1) (by omega)]
      congr 2
      exact mFi_succ _ _ _ _
  have h := key 8 0 (by decide)
  rw [mFi_zero] at h
  exact h
theorem rr_X5_total_14_at (d : Nat) {g : mG} {i : Nat} : mCall mD X (d + 1) 145 [mr i 14] g = wN g (mTt 8 (g i 14)) := by
  refine Eq.trans (mCall_eq (d := d) rfl) ?_
  show mEv X (mCall mD X d) 1 t_X5_total (mDrop t_X5_total 0) [some (mr i 14), none, none] [] g = _
  refine Eq.trans (mEv_4 _ _ _ _) ?_
  have key : ∀ m q : Nat, q + m = 8 → mEv X (mCall mD X d) 1 t_X5_total (mDrop t_X5_total 4) [some (mr i 14), some (mi (mTs (g i 14) q)), some (mi (nI q))] [] g = wN g (mTt 8 (g i 14)) := by
    intro m
    induction m with
    | zero =>
      intro q hq
      have e : q = 8 := hq
      refine Eq.trans (mEv_4 _ _ _ _) (Eq.trans (if_pos (show nI 8 ≤ nI q by rw [e]; exact Int32.le_refl _)) ?_)
      rw [e]
      exact Eq.trans (mEv_2 _ _ _ _) rfl
    | succ m ih =>
      intro q hq
      have hlt : q < 8 := by omega
      have hb : q < 2 ^ 31 := Nat.lt_trans hlt (by decide)
      refine Eq.trans (mEv_4 _ _ _ _) (Eq.trans (if_neg (nI_ge hlt (by decide))) ?_)
      refine Eq.trans (mEv_4 _ _ _ _) (Eq.trans (if_neg (nI_in hlt (by decide))) ?_)
      refine Eq.trans (mEv_4 _ _ _ _) ?_
      show mEv X (mCall mD X d) 1 t_X5_total (mDrop t_X5_total 4) [some (mr i 14), some (mi (mTs (g i 14) q + g i 14 (nI q).toNatClampNeg)), some (mi (nI q + 1))] [] g = _
      rw [nI_clamp hb, nI_1]
      exact ih (q + 1) (by omega)
  exact key 8 0 (by decide)
theorem rr_X5_total_14 (d : Nat) {g : mG} {c : mC} {i : Nat} : mCall mD X (d + 1) 145 [mr i 14] (mU g i c) = wI g i c (mTt 8 (c 14)) := by
  rw [rr_X5_total_14_at, mU_same]
theorem rr_X5_total_15_at (d : Nat) {g : mG} {i : Nat} : mCall mD X (d + 1) 145 [mr i 15] g = wN g (mTt 8 (g i 15)) := by
  refine Eq.trans (mCall_eq (d := d) rfl) ?_
  show mEv X (mCall mD X d) 1 t_X5_total (mDrop t_X5_total 0) [some (mr i 15), none, none] [] g = _
  refine Eq.trans (mEv_4 _ _ _ _) ?_
  have key : ∀ m q : Nat, q + m = 8 → mEv X (mCall mD X d) 1 t_X5_total (mDrop t_X5_total 4) [some (mr i 15), some (mi (mTs (g i 15) q)), some (mi (nI q))] [] g = wN g (mTt 8 (g i 15)) := by
    intro m
    induction m with
    | zero =>
      intro q hq
      have e : q = 8 := hq
      refine Eq.trans (mEv_4 _ _ _ _) (Eq.trans (if_pos (show nI 8 ≤ nI q by rw [e]; exact Int32.le_refl _)) ?_)
      rw [e]
      exact Eq.trans (mEv_2 _ _ _ _) rfl
    | succ m ih =>
      intro q hq
      have hlt : q < 8 := by omega
      have hb : q < 2 ^ 31 := Nat.lt_trans hlt (by decide)
      refine Eq.trans (mEv_4 _ _ _ _) (Eq.trans (if_neg (nI_ge hlt (by decide))) ?_)
      refine Eq.trans (mEv_4 _ _ _ _) (Eq.trans (if_neg (nI_in hlt (by decide))) ?_)
      refine Eq.trans (mEv_4 _ _ _ _) ?_
      show mEv X (mCall mD X d) 1 t_X5_total (mDrop t_X5_total 4) [some (mr i 15), some (mi (mTs (g i 15) q + g i 15 (nI q).toNatClampNeg)), some (mi (nI q + 1))] [] g = _
      rw [nI_clamp hb, nI_1]
      exact ih (q + 1) (by omega)
  exact key 8 0 (by decide)
theorem rr_X5_total_15 (d : Nat) {g : mG} {c : mC} {i : Nat} : mCall mD X (d + 1) 145 [mr i 15] (mU g i c) = wI g i c (mTt 8 (c 15)) := by
  rw [rr_X5_total_15_at, mU_same]
def P_X2_markOf (c : mC) (x1 x2 : Int32) : Int32 := cl 80 (c 5) (x1 * 10 + x2)
theorem rr_X2_markOf (d : Nat) {g : mG} {c : mC} {i : Nat} {x1 x2 : Int32} : mCall mD X (d + 1) 57 [mr i 1, mi x1, mi x2] (mU g i c) = wI g i c (P_X2_markOf c x1 x2) := by
  refine Eq.trans (mCall_eq (d := d) rfl) ?_
  show mEv X (mCall mD X d) 1 t_X2_markOf (mDrop t_X2_markOf 0) [some (mr i 1), some (mi x1), some (mi x2), none] [] (mU g i c) = _
  unfold P_X2_markOf cl
  refine Eq.trans (mEv_6 _ _ _ _) ?_
  show mEv X (mCall mD X d) 1 t_X2_markOf (mDrop t_X2_markOf 7) [some (mr i 1), some (mi x1), some (mi x2), some (mi (x1 * 10 + x2))] [] (mU g i c) = _
  generalize x1 * 10 + x2 = k
  by_cases h0 : k < 0
  · rw [if_pos (Or.inl h0)]
    exact Eq.trans (mEv_2 _ _ _ _) (Eq.trans (if_pos h0) (Eq.trans (mEv_2 _ _ _ _) rfl))
  · refine Eq.trans (mEv_2 _ _ _ _) (Eq.trans (if_neg h0) ?_)
    by_cases h1 : Int32.ofNat 80 ≤ k
    · rw [if_pos (Or.inr ((mle_iff (by decide) h0).mp h1))]
      exact Eq.trans (mEv_5 _ _ _ _) (Eq.trans (if_pos h1) (Eq.trans (mEv_2 _ _ _ _) rfl))
    · have h2 : ¬ (k < 0 ∨ 80 ≤ k.toNatClampNeg) := fun z => z.elim h0 (fun z => h1 ((mle_iff (by decide) h0).mpr z))
      rw [if_neg h2]
      refine Eq.trans (mEv_5 _ _ _ _) (Eq.trans (if_neg h1) ?_)
      refine Eq.trans (mEv_4 _ _ _ _) (Eq.trans (if_neg h2) ?_)
      refine Eq.trans (mEv_2 _ _ _ _) ?_
      show some (some (mi (mU g i c i 5 k.toNatClampNeg)), mU g i c) = _
      rw [mU_same]
theorem rr_X2_markOf_at (d : Nat) {g : mG} {i : Nat} {x1 x2 : Int32} : mCall mD X (d + 1) 57 [mr i 1, mi x1, mi x2] g = wN g (P_X2_markOf (g i) x1 x2) := by
  have h := rr_X2_markOf (X := X) d (g := g) (c := g i) (i := i) (x1 := x1) (x2 := x2)
  rw [mU_self] at h
  exact h.trans (wI_self _ _ _)
def P_X2_partOf (c : mC) (x1 x2 : Int32) : Int32 := cl 4 (c 7) (x1 * 2 + x2)
theorem rr_X2_partOf (d : Nat) {g : mG} {c : mC} {i : Nat} {x1 x2 : Int32} : mCall mD X (d + 1) 61 [mr i 1, mi x1, mi x2] (mU g i c) = wI g i c (P_X2_partOf c x1 x2) := by
  refine Eq.trans (mCall_eq (d := d) rfl) ?_
  show mEv X (mCall mD X d) 1 t_X2_partOf (mDrop t_X2_partOf 0) [some (mr i 1), some (mi x1), some (mi x2), none] [] (mU g i c) = _
  unfold P_X2_partOf cl
  refine Eq.trans (mEv_6 _ _ _ _) ?_
  show mEv X (mCall mD X d) 1 t_X2_partOf (mDrop t_X2_partOf 6) [some (mr i 1), some (mi x1), some (mi x2), some (mi (x1 * 2 + x2))] [] (mU g i c) = _
  generalize x1 * 2 + x2 = k
  by_cases h0 : k < 0
  · rw [if_pos (Or.inl h0)]
    exact Eq.trans (mEv_2 _ _ _ _) (Eq.trans (if_pos h0) (Eq.trans (mEv_2 _ _ _ _) rfl))
  · refine Eq.trans (mEv_2 _ _ _ _) (Eq.trans (if_neg h0) ?_)
    by_cases h1 : Int32.ofNat 4 ≤ k
    · rw [if_pos (Or.inr ((mle_iff (by decide) h0).mp h1))]
      exact Eq.trans (mEv_5 _ _ _ _) (Eq.trans (if_pos h1) (Eq.trans (mEv_2 _ _ _ _) rfl))
    · have h2 : ¬ (k < 0 ∨ 4 ≤ k.toNatClampNeg) := fun z => z.elim h0 (fun z => h1 ((mle_iff (by decide) h0).mpr z))
      rw [if_neg h2]
      refine Eq.trans (mEv_5 _ _ _ _) (Eq.trans (if_neg h1) ?_)
      refine Eq.trans (mEv_4 _ _ _ _) (Eq.trans (if_neg h2) ?_)
      refine Eq.trans (mEv_2 _ _ _ _) ?_
      show some (some (mi (mU g i c i 7 k.toNatClampNeg)), mU g i c) = _
      rw [mU_same]
theorem rr_X2_partOf_at (d : Nat) {g : mG} {i : Nat} {x1 x2 : Int32} : mCall mD X (d + 1) 61 [mr i 1, mi x1, mi x2] g = wN g (P_X2_partOf (g i) x1 x2) := by
  have h := rr_X2_partOf (X := X) d (g := g) (c := g i) (i := i) (x1 := x1) (x2 := x2)
  rw [mU_self] at h
  exact h.trans (wI_self _ _ _)
end LEAF
end
section
theorem e_X4_takeFrom_0 {X : mX} {call : Nat → List mV → mG → mR} {g : mG} {i r o : Nat} (h_r : r = 8 ∨ r = 9) : mEv X call 0 t_X4_takeFrom (mDrop t_X4_takeFrom 0) [some (mr i r), some (mr o r)] [] g = mEv X call 0 t_X4_takeFrom (mDrop t_X4_takeFrom 8) [some (mr i r), some (mr o r)] [] (mU g i (mP (g i) r 1 (g o r 1))) := by
  rcases h_r with rfl | rfl <;> exact (mEv_4 _ _ _ _).trans rfl
theorem e_X4_takeFrom_8 {X : mX} {call : Nat → List mV → mG → mR} {g : mG} {i r o : Nat} (h_r : r = 8 ∨ r = 9) : mEv X call 0 t_X4_takeFrom (mDrop t_X4_takeFrom 8) [some (mr i r), some (mr o r)] [] g = mEv X call 0 t_X4_takeFrom (mDrop t_X4_takeFrom 16) [some (mr i r), some (mr o r)] [] (mU g i (mP (g i) r 2 (g o r 2))) := by
  rcases h_r with rfl | rfl <;> exact (mEv_4 _ _ _ _).trans rfl
theorem e_X4_takeFrom_16 {X : mX} {call : Nat → List mV → mG → mR} {g : mG} {i r o : Nat} (h_r : r = 8 ∨ r = 9) : mEv X call 0 t_X4_takeFrom (mDrop t_X4_takeFrom 16) [some (mr i r), some (mr o r)] [] g = mEv X call 0 t_X4_takeFrom (mDrop t_X4_takeFrom 24) [some (mr i r), some (mr o r)] [] (mU g i (mP (g i) r 3 (g o r 3))) := by
  rcases h_r with rfl | rfl <;> exact (mEv_4 _ _ _ _).trans rfl
theorem e_X4_takeFrom_24 {X : mX} {call : Nat → List mV → mG → mR} {g : mG} {i r o : Nat} (h_r : r = 8 ∨ r = 9) : mEv X call 0 t_X4_takeFrom (mDrop t_X4_takeFrom 24) [some (mr i r), some (mr o r)] [] g = mEv X call 0 t_X4_takeFrom (mDrop t_X4_takeFrom 32) [some (mr i r), some (mr o r)] [] (mU g i (mP (g i) r 4 (g o r 4))) := by
  rcases h_r with rfl | rfl <;> exact (mEv_4 _ _ _ _).trans rfl
theorem e_X4_takeFrom_32 {X : mX} {call : Nat → List mV → mG → mR} {g : mG} {i r o : Nat} (h_r : r = 8 ∨ r = 9) : mEv X call 0 t_X4_takeFrom (mDrop t_X4_takeFrom 32) [some (mr i r), some (mr o r)] [] g = mEv X call 0 t_X4_takeFrom (mDrop t_X4_takeFrom 40) [some (mr i r), some (mr o r)] [] (mU g i (mP (g i) r 5 (g o r 5))) := by
  rcases h_r with rfl | rfl <;> exact (mEv_4 _ _ _ _).trans rfl
theorem e_X4_takeFrom_40 {X : mX} {call : Nat → List mV → mG → mR} {g : mG} {i r o : Nat} (h_r : r = 8 ∨ r = 9) : mEv X call 0 t_X4_takeFrom (mDrop t_X4_takeFrom 40) [some (mr i r), some (mr o r)] [] g = mEv X call 0 t_X4_takeFrom (mDrop t_X4_takeFrom 48) [some (mr i r), some (mr o r)] [] (mU g i (mP (g i) r 6 (g o r 6))) := by
  rcases h_r with rfl | rfl <;> exact (mEv_4 _ _ _ _).trans rfl
theorem e_X4_takeFrom_48 {X : mX} {call : Nat → List mV → mG → mR} {g : mG} {i r o : Nat} (h_r : r = 8 ∨ r = 9) : mEv X call 0 t_X4_takeFrom (mDrop t_X4_takeFrom 48) [some (mr i r), some (mr o r)] [] g = mEv X call 0 t_X4_takeFrom (mDrop t_X4_takeFrom 56) [some (mr i r), some (mr o r)] [] (mU g i (mP (g i) r 7 (g o r 7))) := by
  rcases h_r with rfl | rfl <;> exact (mEv_4 _ _ _ _).trans rfl
theorem e_X4_takeFrom_56 {X : mX} {call : Nat → List mV → mG → mR} {g : mG} {i r o : Nat} (h_r : r = 8 ∨ r = 9) : mEv X call 0 t_X4_takeFrom (mDrop t_X4_takeFrom 56) [some (mr i r), some (mr o r)] [] g = mEv X call 0 t_X4_takeFrom (mDrop t_X4_takeFrom 64) [some (mr i r), some (mr o r)] [] (mU g i (mP (g i) r 8 (g o r 8))) := by
  rcases h_r with rfl | rfl <;> exact (mEv_4 _ _ _ _).trans rfl
theorem e_X4_takeFrom_64 {X : mX} {call : Nat → List mV → mG → mR} {g : mG} {i r o : Nat} (h_r : r = 8 ∨ r = 9) : mEv X call 0 t_X4_takeFrom (mDrop t_X4_takeFrom 64) [some (mr i r), some (mr o r)] [] g = some (none, g) := by
  rcases h_r with rfl | rfl <;> exact (mEv_1 _ _ _ _).trans rfl
noncomputable def P_X4_takeFrom (r : Nat) (c : mC) (co : mC) : (mC) := (mP (mP (mP (mP (mP (mP (mP (mP c r 1 (co r 1)) r 2 (co r 2)) r 3 (co r 3)) r 4 (co r 4)) r 5 (co r 5)) r 6 (co r 6)) r 7 (co r 7)) r 8 (co r 8))
theorem rr_X4_takeFrom (d : Nat) {X : mX} {g : mG} {i r o : Nat} (h_r : r = 8 ∨ r = 9) (h_o : o ≠ i) {c : mC} : mCall mD X (d + 1) 88 [mr i r, mr o r] (mU g i c) = (wV g i) (P_X4_takeFrom r c (g o)) := by
  refine Eq.trans (mCall_eq (d := d + 0) rfl) ?_
  show mEv X (mCall mD X (d + 0)) 0 t_X4_takeFrom (mDrop t_X4_takeFrom 0) [some (mr i r), some (mr o r)] [] (mU g i c) = _
  refine Eq.trans (e_X4_takeFrom_0 h_r) ?_
  try simp only [mU_same, mU_mU, mU_ne _ _ h_o]
  refine Eq.trans (e_X4_takeFrom_8 h_r) ?_
  try simp only [mU_same, mU_mU, mU_ne _ _ h_o]
  refine Eq.trans (e_X4_takeFrom_16 h_r) ?_
  try simp only [mU_same, mU_mU, mU_ne _ _ h_o]
  refine Eq.trans (e_X4_takeFrom_24 h_r) ?_
  try simp only [mU_same, mU_mU, mU_ne _ _ h_o]
  refine Eq.trans (e_X4_takeFrom_32 h_r) ?_
  try simp only [mU_same, mU_mU, mU_ne _ _ h_o]
  refine Eq.trans (e_X4_takeFrom_40 h_r) ?_
  try simp only [mU_same, mU_mU, mU_ne _ _ h_o]
  refine Eq.trans (e_X4_takeFrom_48 h_r) ?_
  try simp only [mU_same, mU_mU, mU_ne _ _ h_o]
  refine Eq.trans (e_X4_takeFrom_56 h_r) ?_
  try simp only [mU_same, mU_mU, mU_ne _ _ h_o]
  refine Eq.trans (e_X4_takeFrom_64 h_r) ?_
  try simp only [mU_same, mU_mU, mU_ne _ _ h_o]
  all_goals rfl
theorem rr_X4_takeFrom_at (d : Nat) {X : mX} {g : mG} {i r o : Nat} (h_r : r = 8 ∨ r = 9) (h_o : o ≠ i) : mCall mD X (d + 1) 88 [mr i r, mr o r] g = some (none, mU g i (P_X4_takeFrom r (g i) (g o))) := by
  have h := rr_X4_takeFrom (X := X) d (g := g) (c := g i) h_r h_o (i := i) (o := o)
  rw [mU_self] at h
  exact h
theorem e_X1_takeFrom_0 {X : mX} {call : Nat → List mV → mG → mR} {g : mG} {i o : Nat} : mEv X call 0 t_X1_takeFrom (mDrop t_X1_takeFrom 0) [some (mr i 10), some (mr o 10)] [] g = mEv X call 0 t_X1_takeFrom (mDrop t_X1_takeFrom 8) [some (mr i 10), some (mr o 10)] [] (mU g i (mP (g i) 10 3 (g o 10 3))) := (mEv_4 _ _ _ _).trans rfl
theorem e_X1_takeFrom_8 {X : mX} {call : Nat → List mV → mG → mR} {g : mG} {i o : Nat} : mEv X call 0 t_X1_takeFrom (mDrop t_X1_takeFrom 8) [some (mr i 10), some (mr o 10)] [] g = mEv X call 0 t_X1_takeFrom (mDrop t_X1_takeFrom 16) [some (mr i 10), some (mr o 10)] [] (mU g i (mP (g i) 10 4 (g o 10 4))) := (mEv_4 _ _ _ _).trans rfl
theorem e_X1_takeFrom_16 {X : mX} {call : Nat → List mV → mG → mR} {g : mG} {i o : Nat} : mEv X call 0 t_X1_takeFrom (mDrop t_X1_takeFrom 16) [some (mr i 10), some (mr o 10)] [] g = mAns (mEv X call 0 t_X1_takeFrom) (mDrop t_X1_takeFrom 27) [some (mr i 10), some (mr o 10)] [] (call 143 [mr o 11, mr i 11] g) := (mEv_5 _ _ _ _).trans rfl
theorem e_X1_takeFrom_27 {X : mX} {call : Nat → List mV → mG → mR} {g : mG} {i o : Nat} : mEv X call 0 t_X1_takeFrom (mDrop t_X1_takeFrom 27) [some (mr i 10), some (mr o 10)] [] g = mAns (mEv X call 0 t_X1_takeFrom) (mDrop t_X1_takeFrom 38) [some (mr i 10), some (mr o 10)] [] (call 143 [mr o 12, mr i 12] g) := (mEv_5 _ _ _ _).trans rfl
theorem e_X1_takeFrom_38 {X : mX} {call : Nat → List mV → mG → mR} {g : mG} {i o : Nat} : mEv X call 0 t_X1_takeFrom (mDrop t_X1_takeFrom 38) [some (mr i 10), some (mr o 10)] [] g = mAns (mEv X call 0 t_X1_takeFrom) (mDrop t_X1_takeFrom 49) [some (mr i 10), some (mr o 10)] [] (call 143 [mr o 13, mr i 13] g) := (mEv_5 _ _ _ _).trans rfl
theorem e_X1_takeFrom_49 {X : mX} {call : Nat → List mV → mG → mR} {g : mG} {i o : Nat} : mEv X call 0 t_X1_takeFrom (mDrop t_X1_takeFrom 49) [some (mr i 10), some (mr o 10)] [] g = some (none, g) := (mEv_1 _ _ _ _).trans rfl
noncomputable def P_X1_takeFrom (c : mC) (co : mC) : (mC) := (mBd (α := mC) (mCp 32 (mP (mP c 10 3 (co 10 3)) 10 4 (co 10 4)) 11 (co 11)) (fun c1 => (mBd (α := mC) (mCp 32 c1 12 (co 12)) (fun c2 => (mBd (α := mC) (mCp 32 c2 13 (co 13)) (fun c3 => c3))))))
theorem rr_X1_takeFrom (d : Nat) {X : mX} {g : mG} {i o : Nat} (h_o : o ≠ i) {c : mC} : mCall mD X (d + 3) 48 [mr i 10, mr o 10] (mU g i c) = (wV g i) (P_X1_takeFrom c (g o)) := by
  refine Eq.trans (mCall_eq (d := d + 2) rfl) ?_
  show mEv X (mCall mD X (d + 2)) 0 t_X1_takeFrom (mDrop t_X1_takeFrom 0) [some (mr i 10), some (mr o 10)] [] (mU g i c) = _
  refine Eq.trans (e_X1_takeFrom_0) ?_
  try simp only [mU_same, mU_mU, mU_ne _ _ h_o]
  refine Eq.trans (e_X1_takeFrom_8) ?_
  try simp only [mU_same, mU_mU, mU_ne _ _ h_o]
  refine Eq.trans (e_X1_takeFrom_16) ?_
  try simp only [mU_same, mU_mU, mU_ne _ _ h_o]
  refine mw_cV (rr_X5_copyRow_11 d h_o) (fun c1 => ?_)
  refine Eq.trans (e_X1_takeFrom_27) ?_
  try simp only [mU_same, mU_mU, mU_ne _ _ h_o]
  refine mw_cV (rr_X5_copyRow_12 d h_o) (fun c2 => ?_)
  refine Eq.trans (e_X1_takeFrom_38) ?_
  try simp only [mU_same, mU_mU, mU_ne _ _ h_o]
  refine mw_cV (rr_X5_copyRow_13 d h_o) (fun c3 => ?_)
  refine Eq.trans (e_X1_takeFrom_49) ?_
  try simp only [mU_same, mU_mU, mU_ne _ _ h_o]
  all_goals rfl
theorem rr_X1_takeFrom_at (d : Nat) {X : mX} {g : mG} {i o : Nat} (h_o : o ≠ i) : mCall mD X (d + 3) 48 [mr i 10, mr o 10] g = some (none, mU g i (P_X1_takeFrom (g i) (g o))) := by
  have h := rr_X1_takeFrom (X := X) d (g := g) (c := g i) h_o (i := i) (o := o)
  rw [mU_self] at h
  exact h
theorem e_X1_wipe_0 {X : mX} {call : Nat → List mV → mG → mR} {g : mG} {i : Nat} : mEv X call 0 t_X1_wipe (mDrop t_X1_wipe 0) [some (mr i 10)] [] g = mEv X call 0 t_X1_wipe (mDrop t_X1_wipe 5) [some (mr i 10)] [] (mU g i (mP (g i) 10 3 0)) := (mEv_3 _ _ _ _).trans rfl
theorem e_X1_wipe_5 {X : mX} {call : Nat → List mV → mG → mR} {g : mG} {i : Nat} : mEv X call 0 t_X1_wipe (mDrop t_X1_wipe 5) [some (mr i 10)] [] g = mEv X call 0 t_X1_wipe (mDrop t_X1_wipe 10) [some (mr i 10)] [] (mU g i (mP (g i) 10 4 0)) := (mEv_3 _ _ _ _).trans rfl
theorem e_X1_wipe_10 {X : mX} {call : Nat → List mV → mG → mR} {g : mG} {i : Nat} : mEv X call 0 t_X1_wipe (mDrop t_X1_wipe 10) [some (mr i 10)] [] g = some (none, g) := (mEv_1 _ _ _ _).trans rfl
noncomputable def P_X1_wipe (c : mC) : (mC) := (mP (mP c 10 3 0) 10 4 0)
theorem rr_X1_wipe (d : Nat) {X : mX} {g : mG} {i : Nat} {c : mC} : mCall mD X (d + 1) 47 [mr i 10] (mU g i c) = (wV g i) (P_X1_wipe c) := by
  refine Eq.trans (mCall_eq (d := d + 0) rfl) ?_
  show mEv X (mCall mD X (d + 0)) 0 t_X1_wipe (mDrop t_X1_wipe 0) [some (mr i 10)] [] (mU g i c) = _
  refine Eq.trans (e_X1_wipe_0) ?_
  try simp only [mU_same, mU_mU]
  refine Eq.trans (e_X1_wipe_5) ?_
  try simp only [mU_same, mU_mU]
  refine Eq.trans (e_X1_wipe_10) ?_
  try simp only [mU_same, mU_mU]
  all_goals rfl
theorem rr_X1_wipe_at (d : Nat) {X : mX} {g : mG} {i : Nat} : mCall mD X (d + 1) 47 [mr i 10] g = some (none, mU g i (P_X1_wipe (g i))) := by
  have h := rr_X1_wipe (X := X) d (g := g) (c := g i) (i := i)
  rw [mU_self] at h
  exact h
theorem e_X5_firstIn_0 {X : mX} {call : Nat → List mV → mG → mR} {g : mG} {x0 : Int32} {u1 : Option mV} : mEv X call 1 t_X5_firstIn (mDrop t_X5_firstIn 0) [some (mi x0), u1] [] g = mEv X call 1 t_X5_firstIn (mDrop t_X5_firstIn 2) [some (mi x0), some (mi 0)] [] g := (mEv_2 _ _ _ _).trans rfl
theorem e_X5_firstIn_2 {X : mX} {call : Nat → List mV → mG → mR} {g : mG} {x0 x1 : Int32} : mEv X call 1 t_X5_firstIn (mDrop t_X5_firstIn 2) [some (mi x0), some (mi x1)] [] g = if 8 ≤ x1 then mEv X call 1 t_X5_firstIn (mDrop t_X5_firstIn 24) [some (mi x0), some (mi x1)] [] g else mEv X call 1 t_X5_firstIn (mDrop t_X5_firstIn 8) [some (mi x0), some (mi x1)] [] g := (mEv_3 _ _ _ _).trans rfl
theorem e_X5_firstIn_24 {X : mX} {call : Nat → List mV → mG → mR} {g : mG} {x0 x1 : Int32} : mEv X call 1 t_X5_firstIn (mDrop t_X5_firstIn 24) [some (mi x0), some (mi x1)] [] g = some (some (mi (-1)), g) := (mEv_2 _ _ _ _).trans rfl
theorem e_X5_firstIn_8 {X : mX} {call : Nat → List mV → mG → mR} {g : mG} {x0 x1 : Int32} : mEv X call 1 t_X5_firstIn (mDrop t_X5_firstIn 8) [some (mi x0), some (mi x1)] [] g = if ((x0 >>> (x1 &&& 31)) &&& 1) = 0 then mEv X call 1 t_X5_firstIn (mDrop t_X5_firstIn 18) [some (mi x0), some (mi x1)] [] g else mEv X call 1 t_X5_firstIn (mDrop t_X5_firstIn 16) [some (mi x0), some (mi x1)] [] g := (mEv_6 _ _ _ _).trans rfl
theorem e_X5_firstIn_18 {X : mX} {call : Nat → List mV → mG → mR} {g : mG} {x0 x1 : Int32} : mEv X call 1 t_X5_firstIn (mDrop t_X5_firstIn 18) [some (mi x0), some (mi x1)] [] g = mEv X call 1 t_X5_firstIn (mDrop t_X5_firstIn 2) [some (mi x0), some (mi (x1 + 1))] [] g := (mEv_2 _ _ _ _).trans rfl
theorem e_X5_firstIn_16 {X : mX} {call : Nat → List mV → mG → mR} {g : mG} {x0 x1 : Int32} : mEv X call 1 t_X5_firstIn (mDrop t_X5_firstIn 16) [some (mi x0), some (mi x1)] [] g = some (some (mi x1), g) := (mEv_2 _ _ _ _).trans rfl
noncomputable def B_X5_firstIn_2 (x0 : Int32) : (Int32) → (Int32) ⊕ (Int32) := fun x1 => (if 8 ≤ x1 then (.inr (-1)) else (if ((x0 >>> (x1 &&& 31)) &&& 1) = 0 then (.inl (x1 + 1)) else (.inr x1)))
theorem tm_X5_firstIn_2 {x0 : Int32} : mTm (B_X5_firstIn_2 x0) := sorry
theorem rl_X5_firstIn_2 (d : Nat) {X : mX} {g : mG} {x0 x1 : Int32} : mEv X (mCall mD X (d + 0)) 1 t_X5_firstIn (mDrop t_X5_firstIn 2) [some (mi x0), some (mi x1)] [] g = (wN g) (mWh 0 (B_X5_firstIn_2 x0) x1) := by
  refine mWh_ev (B := (B_X5_firstIn_2 x0)) (ev := fun x1 : (Int32) => mEv X (mCall mD X (d + 0)) 1 t_X5_firstIn (mDrop t_X5_firstIn 2) [some (mi x0), some (mi x1)] [] g) (w := (wN g)) (tm_X5_firstIn_2) ?_ x1
  intro x1
  show mEv X (mCall mD X (d + 0)) 1 t_X5_firstIn (mDrop t_X5_firstIn 2) [some (mi x0), some (mi x1)] [] g = wB (fun x1 : (Int32) => mEv X (mCall mD X (d + 0)) 1 t_X5_firstIn (mDrop t_X5_firstIn 2) [some (mi x0), some (mi x1)] [] g) (wN g) (B_X5_firstIn_2 x0 x1)
  refine Eq.trans (e_X5_firstIn_2) ?_
  refine mw_ite (fun h2 => ?_) (fun h2 => ?_)
  · refine mw_inr ?_
    refine Eq.trans (e_X5_firstIn_24) ?_
    all_goals rfl
  · refine Eq.trans (e_X5_firstIn_8) ?_
    refine mw_ite (fun h1 => ?_) (fun h1 => ?_)
    · refine Eq.trans (e_X5_firstIn_18) ?_
      exact mw_inl (rfl)
    · refine mw_inr ?_
      refine Eq.trans (e_X5_firstIn_16) ?_
      all_goals rfl
noncomputable def P_X5_firstIn (x0 : Int32) : (Int32) := (mWh 0 (B_X5_firstIn_2 x0) 0)
theorem rr_X5_firstIn (d : Nat) {X : mX} {g : mG} {x0 : Int32} : mCall mD X (d + 1) 149 [mi x0] g = (wN g) (P_X5_firstIn x0) := by
  refine Eq.trans (mCall_eq (d := d + 0) rfl) ?_
  show mEv X (mCall mD X (d + 0)) 1 t_X5_firstIn (mDrop t_X5_firstIn 0) [some (mi x0), none] [] g = _
  refine Eq.trans (e_X5_firstIn_0) ?_
  exact rl_X5_firstIn_2 d
theorem e_X4_waitFor_0 {X : mX} {call : Nat → List mV → mG → mR} {g : mG} {x1 : Int32} {i r : Nat} (h_r : r = 8 ∨ r = 9) : mEv X call 0 t_X4_waitFor (mDrop t_X4_waitFor 0) [some (mr i r), some (mi x1)] [] g = mEv X call 0 t_X4_waitFor (mDrop t_X4_waitFor 5) [some (mr i r), some (mi x1)] [] (mU g i (mP (g i) r 1 (-1))) := by
  rcases h_r with rfl | rfl <;> exact (mEv_3 _ _ _ _).trans rfl
theorem e_X4_waitFor_5 {X : mX} {call : Nat → List mV → mG → mR} {g : mG} {x1 : Int32} {i r : Nat} (h_r : r = 8 ∨ r = 9) : mEv X call 0 t_X4_waitFor (mDrop t_X4_waitFor 5) [some (mr i r), some (mi x1)] [] g = mEv X call 0 t_X4_waitFor (mDrop t_X4_waitFor 10) [some (mr i r), some (mi x1)] [] (mU g i (mP (g i) r 2 3)) := by
  rcases h_r with rfl | rfl <;> exact (mEv_3 _ _ _ _).trans rfl
theorem e_X4_waitFor_10 {X : mX} {call : Nat → List mV → mG → mR} {g : mG} {x1 : Int32} {i r : Nat} (h_r : r = 8 ∨ r = 9) : mEv X call 0 t_X4_waitFor (mDrop t_X4_waitFor 10) [some (mr i r), some (mi x1)] [] g = mEv X call 0 t_X4_waitFor (mDrop t_X4_waitFor 15) [some (mr i r), some (mi x1)] [] (mU g i (mP (g i) r 3 0)) := by
  rcases h_r with rfl | rfl <;> exact (mEv_3 _ _ _ _).trans rfl
theorem e_X4_waitFor_15 {X : mX} {call : Nat → List mV → mG → mR} {g : mG} {x1 : Int32} {i r : Nat} (h_r : r = 8 ∨ r = 9) : mEv X call 0 t_X4_waitFor (mDrop t_X4_waitFor 15) [some (mr i r), some (mi x1)] [] g = mEv X call 0 t_X4_waitFor (mDrop t_X4_waitFor 20) [some (mr i r), some (mi x1)] [] (mU g i (mP (g i) r 4 x1)) := by
  rcases h_r with rfl | rfl <;> exact (mEv_3 _ _ _ _).trans rfl
theorem e_X4_waitFor_20 {X : mX} {call : Nat → List mV → mG → mR} {g : mG} {x1 : Int32} {i r : Nat} (h_r : r = 8 ∨ r = 9) : mEv X call 0 t_X4_waitFor (mDrop t_X4_waitFor 20) [some (mr i r), some (mi x1)] [] g = some (none, g) := by
  rcases h_r with rfl | rfl <;> exact (mEv_1 _ _ _ _).trans rfl
noncomputable def P_X4_waitFor (r : Nat) (c : mC) (x1 : Int32) : (mC) := (mP (mP (mP (mP c r 1 (-1)) r 2 3) r 3 0) r 4 x1)
theorem rr_X4_waitFor (d : Nat) {X : mX} {g : mG} {i r : Nat} (h_r : r = 8 ∨ r = 9) {x1 : Int32} {c : mC} : mCall mD X (d + 1) 91 [mr i r, mi x1] (mU g i c) = (wV g i) (P_X4_waitFor r c x1) := by
  refine Eq.trans (mCall_eq (d := d + 0) rfl) ?_
  show mEv X (mCall mD X (d + 0)) 0 t_X4_waitFor (mDrop t_X4_waitFor 0) [some (mr i r), some (mi x1)] [] (mU g i c) = _
  refine Eq.trans (e_X4_waitFor_0 h_r) ?_
  try simp only [mU_same, mU_mU]
  refine Eq.trans (e_X4_waitFor_5 h_r) ?_
  try simp only [mU_same, mU_mU]
  refine Eq.trans (e_X4_waitFor_10 h_r) ?_
  try simp only [mU_same, mU_mU]
  refine Eq.trans (e_X4_waitFor_15 h_r) ?_
  try simp only [mU_same, mU_mU]
  refine Eq.trans (e_X4_waitFor_20 h_r) ?_
  try simp only [mU_same, mU_mU]
  all_goals rfl
theorem rr_X4_waitFor_at (d : Nat) {X : mX} {g : mG} {i r : Nat} (h_r : r = 8 ∨ r = 9) {x1 : Int32} : mCall mD X (d + 1) 91 [mr i r, mi x1] g = some (none, mU g i (P_X4_waitFor r (g i) x1)) := by
  have h := rr_X4_waitFor (X := X) d (g := g) (c := g i) h_r (x1 := x1) (i := i)
  rw [mU_self] at h
  exact h
theorem e_X4_isGreen_0 {X : mX} {call : Nat → List mV → mG → mR} {g : mG} {i r : Nat} (h_r : r = 8 ∨ r = 9) : mEv X call 2 t_X4_isGreen (mDrop t_X4_isGreen 0) [some (mr i r)] [] g = if (g i r 1) = (-1) then mEv X call 2 t_X4_isGreen (mDrop t_X4_isGreen 19) [some (mr i r)] [] g else mEv X call 2 t_X4_isGreen (mDrop t_X4_isGreen 8) [some (mr i r)] [] g := by
  rcases h_r with rfl | rfl <;> exact (mEv_4 _ _ _ _).trans rfl
theorem e_X4_isGreen_19 {X : mX} {call : Nat → List mV → mG → mR} {g : mG} {i r : Nat} (h_r : r = 8 ∨ r = 9) : mEv X call 2 t_X4_isGreen (mDrop t_X4_isGreen 19) [some (mr i r)] [] g = mEv X call 2 t_X4_isGreen (mDrop t_X4_isGreen 20) [some (mr i r)] [mi 0] g := by
  rcases h_r with rfl | rfl <;> exact (mEv_1 _ _ _ _).trans rfl
theorem e_X4_isGreen_20 {X : mX} {call : Nat → List mV → mG → mR} {g : mG} {s0 : Int32} {i r : Nat} (h_r : r = 8 ∨ r = 9) : mEv X call 2 t_X4_isGreen (mDrop t_X4_isGreen 20) [some (mr i r)] [mi s0] g = if (s0 : Int32) &&& 1 = s0 then some (some (mi s0), g) else none := by
  rcases h_r with rfl | rfl <;> exact (mEv_1 _ _ _ _).trans rfl
noncomputable def J_X4_isGreen_19 (r : Nat) (c : mC) : (Int32) := 0
theorem rj_X4_isGreen_19 (d : Nat) {X : mX} {g : mG} {i r : Nat} (h_r : r = 8 ∨ r = 9) {c : mC} : mEv X (mCall mD X (d + 0)) 2 t_X4_isGreen (mDrop t_X4_isGreen 19) [some (mr i r)] [] (mU g i c) = (wI g i c) (J_X4_isGreen_19 r c) := by
  refine Eq.trans (e_X4_isGreen_19 h_r) ?_
  try simp only [mU_same, mU_mU]
  refine Eq.trans (e_X4_isGreen_20 h_r) ?_
  try simp only [mU_same, mU_mU]
  exact if_pos (by decide)
theorem e_X4_isGreen_8 {X : mX} {call : Nat → List mV → mG → mR} {g : mG} {i r : Nat} (h_r : r = 8 ∨ r = 9) : mEv X call 2 t_X4_isGreen (mDrop t_X4_isGreen 8) [some (mr i r)] [] g = if (g i r 2) = 0 then mEv X call 2 t_X4_isGreen (mDrop t_X4_isGreen 15) [some (mr i r)] [] g else mEv X call 2 t_X4_isGreen (mDrop t_X4_isGreen 19) [some (mr i r)] [] g := by
  rcases h_r with rfl | rfl <;> exact (mEv_3 _ _ _ _).trans rfl
theorem e_X4_isGreen_15 {X : mX} {call : Nat → List mV → mG → mR} {g : mG} {i r : Nat} (h_r : r = 8 ∨ r = 9) : mEv X call 2 t_X4_isGreen (mDrop t_X4_isGreen 15) [some (mr i r)] [] g = mEv X call 2 t_X4_isGreen (mDrop t_X4_isGreen 20) [some (mr i r)] [mi 1] g := by
  rcases h_r with rfl | rfl <;> exact (mEv_2 _ _ _ _).trans rfl
noncomputable def P_X4_isGreen (r : Nat) (c : mC) : (Int32) := (if (c r 1) = (-1) then (J_X4_isGreen_19 r c) else (if (c r 2) = 0 then 1 else (J_X4_isGreen_19 r c)))
theorem rr_X4_isGreen (d : Nat) {X : mX} {g : mG} {i r : Nat} (h_r : r = 8 ∨ r = 9) {c : mC} : mCall mD X (d + 1) 90 [mr i r] (mU g i c) = (wI g i c) (P_X4_isGreen r c) := by
  refine Eq.trans (mCall_eq (d := d + 0) rfl) ?_
  show mEv X (mCall mD X (d + 0)) 2 t_X4_isGreen (mDrop t_X4_isGreen 0) [some (mr i r)] [] (mU g i c) = _
  refine Eq.trans (e_X4_isGreen_0 h_r) ?_
  try simp only [mU_same, mU_mU]
  refine mw_ite (fun h2 => ?_) (fun h2 => ?_)
  · exact rj_X4_isGreen_19 d h_r
  · refine Eq.trans (e_X4_isGreen_8 h_r) ?_
    try simp only [mU_same, mU_mU]
    refine mw_ite (fun h1 => ?_) (fun h1 => ?_)
    · refine Eq.trans (e_X4_isGreen_15 h_r) ?_
      try simp only [mU_same, mU_mU]
      refine Eq.trans (e_X4_isGreen_20 h_r) ?_
      try simp only [mU_same, mU_mU]
      exact if_pos (by decide)
    · exact rj_X4_isGreen_19 d h_r
theorem rr_X4_isGreen_at (d : Nat) {X : mX} {g : mG} {i r : Nat} (h_r : r = 8 ∨ r = 9) : mCall mD X (d + 1) 90 [mr i r] g = wN g (P_X4_isGreen r (g i)) := by
  have h := rr_X4_isGreen (X := X) d (g := g) (c := g i) h_r (i := i)
  rw [mU_self] at h
  exact h.trans (wI_self _ _ _)
theorem e_X5_bit_0 {X : mX} {call : Nat → List mV → mG → mR} {g : mG} {x0 : Int32} : mEv X call 1 t_X5_bit (mDrop t_X5_bit 0) [some (mi x0)] [] g = if x0 < 0 then mEv X call 1 t_X5_bit (mDrop t_X5_bit 10) [some (mi x0)] [] g else mEv X call 1 t_X5_bit (mDrop t_X5_bit 4) [some (mi x0)] [] g := (mEv_2 _ _ _ _).trans rfl
theorem e_X5_bit_10 {X : mX} {call : Nat → List mV → mG → mR} {g : mG} {x0 : Int32} : mEv X call 1 t_X5_bit (mDrop t_X5_bit 10) [some (mi x0)] [] g = mEv X call 1 t_X5_bit (mDrop t_X5_bit 17) [some (mi x0)] [mi 0] g := (mEv_2 _ _ _ _).trans rfl
theorem e_X5_bit_17 {X : mX} {call : Nat → List mV → mG → mR} {g : mG} {x0 s0 : Int32} : mEv X call 1 t_X5_bit (mDrop t_X5_bit 17) [some (mi x0)] [mi s0] g = some (some (mi s0), g) := (mEv_1 _ _ _ _).trans rfl
noncomputable def J_X5_bit_10  : (Int32) := 0
theorem rj_X5_bit_10 (d : Nat) {X : mX} {g : mG} {x0 : Int32} : mEv X (mCall mD X (d + 0)) 1 t_X5_bit (mDrop t_X5_bit 10) [some (mi x0)] [] g = (wN g) (J_X5_bit_10 ) := by
  refine Eq.trans (e_X5_bit_10) ?_
  refine Eq.trans (e_X5_bit_17) ?_
  all_goals rfl
theorem e_X5_bit_4 {X : mX} {call : Nat → List mV → mG → mR} {g : mG} {x0 : Int32} : mEv X call 1 t_X5_bit (mDrop t_X5_bit 4) [some (mi x0)] [] g = if x0 < 8 then mEv X call 1 t_X5_bit (mDrop t_X5_bit 14) [some (mi x0)] [] g else mEv X call 1 t_X5_bit (mDrop t_X5_bit 10) [some (mi x0)] [] g := (mEv_3 _ _ _ _).trans rfl
theorem e_X5_bit_14 {X : mX} {call : Nat → List mV → mG → mR} {g : mG} {x0 : Int32} : mEv X call 1 t_X5_bit (mDrop t_X5_bit 14) [some (mi x0)] [] g = mEv X call 1 t_X5_bit (mDrop t_X5_bit 17) [some (mi x0)] [mi (1 <<< (x0 &&& 31))] g := (mEv_3 _ _ _ _).trans rfl
noncomputable def P_X5_bit (x0 : Int32) : (Int32) := (if x0 < 0 then (J_X5_bit_10 ) else (if x0 < 8 then (1 <<< (x0 &&& 31)) else (J_X5_bit_10 )))
theorem rr_X5_bit (d : Nat) {X : mX} {g : mG} {x0 : Int32} : mCall mD X (d + 1) 146 [mi x0] g = (wN g) (P_X5_bit x0) := by
  refine Eq.trans (mCall_eq (d := d + 0) rfl) ?_
  show mEv X (mCall mD X (d + 0)) 1 t_X5_bit (mDrop t_X5_bit 0) [some (mi x0)] [] g = _
  refine Eq.trans (e_X5_bit_0) ?_
  refine mw_ite (fun h2 => ?_) (fun h2 => ?_)
  · exact rj_X5_bit_10 d
  · refine Eq.trans (e_X5_bit_4) ?_
    refine mw_ite (fun h1 => ?_) (fun h1 => ?_)
    · refine Eq.trans (e_X5_bit_14) ?_
      refine Eq.trans (e_X5_bit_17) ?_
      all_goals rfl
    · exact rj_X5_bit_10 d
theorem e_X5_inSet_0 {X : mX} {call : Nat → List mV → mG → mR} {g : mG} {x0 x1 : Int32} : mEv X call 2 t_X5_inSet (mDrop t_X5_inSet 0) [some (mi x0), some (mi x1)] [] g = if x1 < 0 then mEv X call 2 t_X5_inSet (mDrop t_X5_inSet 22) [some (mi x0), some (mi x1)] [] g else mEv X call 2 t_X5_inSet (mDrop t_X5_inSet 4) [some (mi x0), some (mi x1)] [] g := (mEv_2 _ _ _ _).trans rfl
theorem e_X5_inSet_22 {X : mX} {call : Nat → List mV → mG → mR} {g : mG} {x0 x1 : Int32} : mEv X call 2 t_X5_inSet (mDrop t_X5_inSet 22) [some (mi x0), some (mi x1)] [] g = mEv X call 2 t_X5_inSet (mDrop t_X5_inSet 23) [some (mi x0), some (mi x1)] [mi 0] g := (mEv_1 _ _ _ _).trans rfl
theorem e_X5_inSet_23 {X : mX} {call : Nat → List mV → mG → mR} {g : mG} {x0 x1 s0 : Int32} : mEv X call 2 t_X5_inSet (mDrop t_X5_inSet 23) [some (mi x0), some (mi x1)] [mi s0] g = if (s0 : Int32) &&& 1 = s0 then some (some (mi s0), g) else none := (mEv_1 _ _ _ _).trans rfl
noncomputable def J_X5_inSet_22  : (Int32) := 0
theorem rj_X5_inSet_22 (d : Nat) {X : mX} {g : mG} {x0 x1 : Int32} : mEv X (mCall mD X (d + 0)) 2 t_X5_inSet (mDrop t_X5_inSet 22) [some (mi x0), some (mi x1)] [] g = (wN g) (J_X5_inSet_22 ) := by
  refine Eq.trans (e_X5_inSet_22) ?_
  refine Eq.trans (e_X5_inSet_23) ?_
  exact if_pos (by decide)
theorem e_X5_inSet_4 {X : mX} {call : Nat → List mV → mG → mR} {g : mG} {x0 x1 : Int32} : mEv X call 2 t_X5_inSet (mDrop t_X5_inSet 4) [some (mi x0), some (mi x1)] [] g = if 8 ≤ x1 then mEv X call 2 t_X5_inSet (mDrop t_X5_inSet 22) [some (mi x0), some (mi x1)] [] g else mEv X call 2 t_X5_inSet (mDrop t_X5_inSet 10) [some (mi x0), some (mi x1)] [] g := (mEv_3 _ _ _ _).trans rfl
theorem e_X5_inSet_10 {X : mX} {call : Nat → List mV → mG → mR} {g : mG} {x0 x1 : Int32} : mEv X call 2 t_X5_inSet (mDrop t_X5_inSet 10) [some (mi x0), some (mi x1)] [] g = if ((x0 >>> (x1 &&& 31)) &&& 1) = 0 then mEv X call 2 t_X5_inSet (mDrop t_X5_inSet 22) [some (mi x0), some (mi x1)] [] g else mEv X call 2 t_X5_inSet (mDrop t_X5_inSet 18) [some (mi x0), some (mi x1)] [] g := (mEv_6 _ _ _ _).trans rfl
theorem e_X5_inSet_18 {X : mX} {call : Nat → List mV → mG → mR} {g : mG} {x0 x1 : Int32} : mEv X call 2 t_X5_inSet (mDrop t_X5_inSet 18) [some (mi x0), some (mi x1)] [] g = mEv X call 2 t_X5_inSet (mDrop t_X5_inSet 23) [some (mi x0), some (mi x1)] [mi 1] g := (mEv_2 _ _ _ _).trans rfl
noncomputable def P_X5_inSet (x0 : Int32) (x1 : Int32) : (Int32) := (if x1 < 0 then (J_X5_inSet_22 ) else (if 8 ≤ x1 then (J_X5_inSet_22 ) else (if ((x0 >>> (x1 &&& 31)) &&& 1) = 0 then (J_X5_inSet_22 ) else 1)))
theorem rr_X5_inSet (d : Nat) {X : mX} {g : mG} {x0 x1 : Int32} : mCall mD X (d + 1) 148 [mi x0, mi x1] g = (wN g) (P_X5_inSet x0 x1) := by
  refine Eq.trans (mCall_eq (d := d + 0) rfl) ?_
  show mEv X (mCall mD X (d + 0)) 2 t_X5_inSet (mDrop t_X5_inSet 0) [some (mi x0), some (mi x1)] [] g = _
  refine Eq.trans (e_X5_inSet_0) ?_
  refine mw_ite (fun h3 => ?_) (fun h3 => ?_)
  · exact rj_X5_inSet_22 d
  · refine Eq.trans (e_X5_inSet_4) ?_
    refine mw_ite (fun h2 => ?_) (fun h2 => ?_)
    · exact rj_X5_inSet_22 d
    · refine Eq.trans (e_X5_inSet_10) ?_
      refine mw_ite (fun h1 => ?_) (fun h1 => ?_)
      · exact rj_X5_inSet_22 d
      · refine Eq.trans (e_X5_inSet_18) ?_
        refine Eq.trans (e_X5_inSet_23) ?_
        exact if_pos (by decide)
theorem e_X5_withBit_0 {X : mX} {call : Nat → List mV → mG → mR} {g : mG} {x0 x1 x2 : Int32} : mEv X call 1 t_X5_withBit (mDrop t_X5_withBit 0) [some (mi x0), some (mi x1), some (mi x2)] [] g = if x2 = 0 then mEv X call 1 t_X5_withBit (mDrop t_X5_withBit 13) [some (mi x0), some (mi x1), some (mi x2)] [] g else mEv X call 1 t_X5_withBit (mDrop t_X5_withBit 4) [some (mi x0), some (mi x1), some (mi x2)] [] g := (mEv_2 _ _ _ _).trans rfl
theorem e_X5_withBit_13 {X : mX} {call : Nat → List mV → mG → mR} {g : mG} {x0 x1 x2 : Int32} : mEv X call 1 t_X5_withBit (mDrop t_X5_withBit 13) [some (mi x0), some (mi x1), some (mi x2)] [] g = mAns (mEv X call 1 t_X5_withBit) (mDrop t_X5_withBit 18) [some (mi x0), some (mi x1), some (mi x2)] [mi x0] (call 146 [mi x1] g) := (mEv_3 _ _ _ _).trans rfl
theorem e_X5_withBit_18 {X : mX} {call : Nat → List mV → mG → mR} {g : mG} {x0 x1 x2 s0 s1 : Int32} : mEv X call 1 t_X5_withBit (mDrop t_X5_withBit 18) [some (mi x0), some (mi x1), some (mi x2)] [mi s1, mi s0] g = mEv X call 1 t_X5_withBit (mDrop t_X5_withBit 21) [some (mi x0), some (mi x1), some (mi x2)] [mi (s0 &&& (s1 ^^^ (-1)))] g := (mEv_3 _ _ _ _).trans rfl
theorem e_X5_withBit_21 {X : mX} {call : Nat → List mV → mG → mR} {g : mG} {x0 x1 x2 s0 : Int32} : mEv X call 1 t_X5_withBit (mDrop t_X5_withBit 21) [some (mi x0), some (mi x1), some (mi x2)] [mi s0] g = some (some (mi s0), g) := (mEv_1 _ _ _ _).trans rfl
theorem e_X5_withBit_4 {X : mX} {call : Nat → List mV → mG → mR} {g : mG} {x0 x1 x2 : Int32} : mEv X call 1 t_X5_withBit (mDrop t_X5_withBit 4) [some (mi x0), some (mi x1), some (mi x2)] [] g = mAns (mEv X call 1 t_X5_withBit) (mDrop t_X5_withBit 9) [some (mi x0), some (mi x1), some (mi x2)] [mi x0] (call 146 [mi x1] g) := (mEv_3 _ _ _ _).trans rfl
theorem e_X5_withBit_9 {X : mX} {call : Nat → List mV → mG → mR} {g : mG} {x0 x1 x2 s0 s1 : Int32} : mEv X call 1 t_X5_withBit (mDrop t_X5_withBit 9) [some (mi x0), some (mi x1), some (mi x2)] [mi s1, mi s0] g = mEv X call 1 t_X5_withBit (mDrop t_X5_withBit 21) [some (mi x0), some (mi x1), some (mi x2)] [mi (s0 ||| s1)] g := (mEv_2 _ _ _ _).trans rfl
noncomputable def P_X5_withBit (x0 : Int32) (x1 : Int32) (x2 : Int32) : (Int32) := (if x2 = 0 then (mBd (α := Int32) (P_X5_bit x1) (fun v1 => (x0 &&& (v1 ^^^ (-1))))) else (mBd (α := Int32) (P_X5_bit x1) (fun v2 => (x0 ||| v2))))
theorem rr_X5_withBit (d : Nat) {X : mX} {g : mG} {x0 x1 x2 : Int32} : mCall mD X (d + 2) 147 [mi x0, mi x1, mi x2] g = (wN g) (P_X5_withBit x0 x1 x2) := by
  refine Eq.trans (mCall_eq (d := d + 1) rfl) ?_
  show mEv X (mCall mD X (d + 1)) 1 t_X5_withBit (mDrop t_X5_withBit 0) [some (mi x0), some (mi x1), some (mi x2)] [] g = _
  refine Eq.trans (e_X5_withBit_0) ?_
  refine mw_ite (fun h3 => ?_) (fun h3 => ?_)
  · refine Eq.trans (e_X5_withBit_13) ?_
    refine mw_cI (rr_X5_bit d) (fun v1 => ?_)
    refine Eq.trans (e_X5_withBit_18) ?_
    refine Eq.trans (e_X5_withBit_21) ?_
    all_goals rfl
  · refine Eq.trans (e_X5_withBit_4) ?_
    refine mw_cI (rr_X5_bit d) (fun v2 => ?_)
    refine Eq.trans (e_X5_withBit_9) ?_
    refine Eq.trans (e_X5_withBit_21) ?_
    all_goals rfl
theorem e_X4_holds_0 {X : mX} {call : Nat → List mV → mG → mR} {g : mG} {i r : Nat} (h_r : r = 8 ∨ r = 9) : mEv X call 2 t_X4_holds (mDrop t_X4_holds 0) [some (mr i r)] [] g = if (g i r 1) = (-1) then mEv X call 2 t_X4_holds (mDrop t_X4_holds 12) [some (mr i r)] [] g else mEv X call 2 t_X4_holds (mDrop t_X4_holds 8) [some (mr i r)] [] g := by
  rcases h_r with rfl | rfl <;> exact (mEv_4 _ _ _ _).trans rfl
theorem e_X4_holds_12 {X : mX} {call : Nat → List mV → mG → mR} {g : mG} {i r : Nat} (h_r : r = 8 ∨ r = 9) : mEv X call 2 t_X4_holds (mDrop t_X4_holds 12) [some (mr i r)] [] g = mEv X call 2 t_X4_holds (mDrop t_X4_holds 13) [some (mr i r)] [mi 0] g := by
  rcases h_r with rfl | rfl <;> exact (mEv_1 _ _ _ _).trans rfl
theorem e_X4_holds_13 {X : mX} {call : Nat → List mV → mG → mR} {g : mG} {s0 : Int32} {i r : Nat} (h_r : r = 8 ∨ r = 9) : mEv X call 2 t_X4_holds (mDrop t_X4_holds 13) [some (mr i r)] [mi s0] g = if (s0 : Int32) &&& 1 = s0 then some (some (mi s0), g) else none := by
  rcases h_r with rfl | rfl <;> exact (mEv_1 _ _ _ _).trans rfl
theorem e_X4_holds_8 {X : mX} {call : Nat → List mV → mG → mR} {g : mG} {i r : Nat} (h_r : r = 8 ∨ r = 9) : mEv X call 2 t_X4_holds (mDrop t_X4_holds 8) [some (mr i r)] [] g = mEv X call 2 t_X4_holds (mDrop t_X4_holds 13) [some (mr i r)] [mi 1] g := by
  rcases h_r with rfl | rfl <;> exact (mEv_2 _ _ _ _).trans rfl
noncomputable def P_X4_holds (r : Nat) (c : mC) : (Int32) := (if (c r 1) = (-1) then 0 else 1)
theorem rr_X4_holds (d : Nat) {X : mX} {g : mG} {i r : Nat} (h_r : r = 8 ∨ r = 9) {c : mC} : mCall mD X (d + 1) 89 [mr i r] (mU g i c) = (wI g i c) (P_X4_holds r c) := by
  refine Eq.trans (mCall_eq (d := d + 0) rfl) ?_
  show mEv X (mCall mD X (d + 0)) 2 t_X4_holds (mDrop t_X4_holds 0) [some (mr i r)] [] (mU g i c) = _
  refine Eq.trans (e_X4_holds_0 h_r) ?_
  try simp only [mU_same, mU_mU]
  refine mw_ite (fun h1 => ?_) (fun h1 => ?_)
  · refine Eq.trans (e_X4_holds_12 h_r) ?_
    try simp only [mU_same, mU_mU]
    refine Eq.trans (e_X4_holds_13 h_r) ?_
    try simp only [mU_same, mU_mU]
    exact if_pos (by decide)
  · refine Eq.trans (e_X4_holds_8 h_r) ?_
    try simp only [mU_same, mU_mU]
    refine Eq.trans (e_X4_holds_13 h_r) ?_
    try simp only [mU_same, mU_mU]
    exact if_pos (by decide)
theorem rr_X4_holds_at (d : Nat) {X : mX} {g : mG} {i r : Nat} (h_r : r = 8 ∨ r = 9) : mCall mD X (d + 1) 89 [mr i r] g = wN g (P_X4_holds r (g i)) := by
  have h := rr_X4_holds (X := X) d (g := g) (c := g i) h_r (i := i)
  rw [mU_self] at h
  exact h.trans (wI_self _ _ _)
theorem e_X4_walkOn_0 {X : mX} {call : Nat → List mV → mG → mR} {g : mG} {x1 x2 : Int32} {i r : Nat} (h_r : r = 8 ∨ r = 9) : mEv X call 0 t_X4_walkOn (mDrop t_X4_walkOn 0) [some (mr i r), some (mi x1), some (mi x2)] [] g = if (g i r 7) = 2 then mEv X call 0 t_X4_walkOn (mDrop t_X4_walkOn 8) [some (mr i r), some (mi x1), some (mi x2)] [] g else mEv X call 0 t_X4_walkOn (mDrop t_X4_walkOn 18) [some (mr i r), some (mi x1), some (mi x2)] [] g := by
  rcases h_r with rfl | rfl <;> exact (mEv_4 _ _ _ _).trans rfl
theorem e_X4_walkOn_8 {X : mX} {call : Nat → List mV → mG → mR} {g : mG} {x1 x2 : Int32} {i r : Nat} (h_r : r = 8 ∨ r = 9) : mEv X call 0 t_X4_walkOn (mDrop t_X4_walkOn 8) [some (mr i r), some (mi x1), some (mi x2)] [] g = mEv X call 0 t_X4_walkOn (mDrop t_X4_walkOn 18) [some (mr i r), some (mi x1), some (mi x2)] [] (mU g i (mP (g i) r 8 ((g i r 8) + 1))) := by
  rcases h_r with rfl | rfl <;> exact (mEv_6 _ _ _ _).trans rfl
theorem e_X4_walkOn_18 {X : mX} {call : Nat → List mV → mG → mR} {g : mG} {x1 x2 : Int32} {i r : Nat} (h_r : r = 8 ∨ r = 9) : mEv X call 0 t_X4_walkOn (mDrop t_X4_walkOn 18) [some (mr i r), some (mi x1), some (mi x2)] [] g = if (g i r 7) = 1 then mEv X call 0 t_X4_walkOn (mDrop t_X4_walkOn 26) [some (mr i r), some (mi x1), some (mi x2)] [] g else mEv X call 0 t_X4_walkOn (mDrop t_X4_walkOn 39) [some (mr i r), some (mi x1), some (mi x2)] [] g := by
  rcases h_r with rfl | rfl <;> exact (mEv_4 _ _ _ _).trans rfl
theorem e_X4_walkOn_26 {X : mX} {call : Nat → List mV → mG → mR} {g : mG} {x1 x2 : Int32} {i r : Nat} (h_r : r = 8 ∨ r = 9) : mEv X call 0 t_X4_walkOn (mDrop t_X4_walkOn 26) [some (mr i r), some (mi x1), some (mi x2)] [] g = if (g i r 3) < x1 then mEv X call 0 t_X4_walkOn (mDrop t_X4_walkOn 39) [some (mr i r), some (mi x1), some (mi x2)] [] g else mEv X call 0 t_X4_walkOn (mDrop t_X4_walkOn 34) [some (mr i r), some (mi x1), some (mi x2)] [] g := by
  rcases h_r with rfl | rfl <;> exact (mEv_4 _ _ _ _).trans rfl
theorem e_X4_walkOn_39 {X : mX} {call : Nat → List mV → mG → mR} {g : mG} {x1 x2 : Int32} {i r : Nat} (h_r : r = 8 ∨ r = 9) : mEv X call 0 t_X4_walkOn (mDrop t_X4_walkOn 39) [some (mr i r), some (mi x1), some (mi x2)] [] g = if (g i r 7) = 2 then mEv X call 0 t_X4_walkOn (mDrop t_X4_walkOn 47) [some (mr i r), some (mi x1), some (mi x2)] [] g else mEv X call 0 t_X4_walkOn (mDrop t_X4_walkOn 60) [some (mr i r), some (mi x1), some (mi x2)] [] g := by
  rcases h_r with rfl | rfl <;> exact (mEv_4 _ _ _ _).trans rfl
theorem e_X4_walkOn_47 {X : mX} {call : Nat → List mV → mG → mR} {g : mG} {x1 x2 : Int32} {i r : Nat} (h_r : r = 8 ∨ r = 9) : mEv X call 0 t_X4_walkOn (mDrop t_X4_walkOn 47) [some (mr i r), some (mi x1), some (mi x2)] [] g = if (g i r 8) < x2 then mEv X call 0 t_X4_walkOn (mDrop t_X4_walkOn 60) [some (mr i r), some (mi x1), some (mi x2)] [] g else mEv X call 0 t_X4_walkOn (mDrop t_X4_walkOn 55) [some (mr i r), some (mi x1), some (mi x2)] [] g := by
  rcases h_r with rfl | rfl <;> exact (mEv_4 _ _ _ _).trans rfl
theorem e_X4_walkOn_60 {X : mX} {call : Nat → List mV → mG → mR} {g : mG} {x1 x2 : Int32} {i r : Nat} (h_r : r = 8 ∨ r = 9) : mEv X call 0 t_X4_walkOn (mDrop t_X4_walkOn 60) [some (mr i r), some (mi x1), some (mi x2)] [] g = some (none, g) := by
  rcases h_r with rfl | rfl <;> exact (mEv_1 _ _ _ _).trans rfl
theorem e_X4_walkOn_55 {X : mX} {call : Nat → List mV → mG → mR} {g : mG} {x1 x2 : Int32} {i r : Nat} (h_r : r = 8 ∨ r = 9) : mEv X call 0 t_X4_walkOn (mDrop t_X4_walkOn 55) [some (mr i r), some (mi x1), some (mi x2)] [] g = mEv X call 0 t_X4_walkOn (mDrop t_X4_walkOn 60) [some (mr i r), some (mi x1), some (mi x2)] [] (mU g i (mP (g i) r 7 0)) := by
  rcases h_r with rfl | rfl <;> exact (mEv_3 _ _ _ _).trans rfl
noncomputable def J_X4_walkOn_39 (r : Nat) (c : mC) (x2 : Int32) : (mC) := (if (c r 7) = 2 then (if (c r 8) < x2 then c else (mP c r 7 0)) else c)
theorem rj_X4_walkOn_39 (d : Nat) {X : mX} {g : mG} {i r : Nat} (h_r : r = 8 ∨ r = 9) {x1 x2 : Int32} {c : mC} : mEv X (mCall mD X (d + 0)) 0 t_X4_walkOn (mDrop t_X4_walkOn 39) [some (mr i r), some (mi x1), some (mi x2)] [] (mU g i c) = (wV g i) (J_X4_walkOn_39 r c x2) := by
  refine Eq.trans (e_X4_walkOn_39 h_r) ?_
  try simp only [mU_same, mU_mU]
  refine mw_ite (fun h2 => ?_) (fun h2 => ?_)
  · refine Eq.trans (e_X4_walkOn_47 h_r) ?_
    try simp only [mU_same, mU_mU]
    refine mw_ite (fun h1 => ?_) (fun h1 => ?_)
    · refine Eq.trans (e_X4_walkOn_60 h_r) ?_
      try simp only [mU_same, mU_mU]
      all_goals rfl
    · refine Eq.trans (e_X4_walkOn_55 h_r) ?_
      try simp only [mU_same, mU_mU]
      refine Eq.trans (e_X4_walkOn_60 h_r) ?_
      try simp only [mU_same, mU_mU]
      all_goals rfl
  · refine Eq.trans (e_X4_walkOn_60 h_r) ?_
    try simp only [mU_same, mU_mU]
    all_goals rfl
theorem e_X4_walkOn_34 {X : mX} {call : Nat → List mV → mG → mR} {g : mG} {x1 x2 : Int32} {i r : Nat} (h_r : r = 8 ∨ r = 9) : mEv X call 0 t_X4_walkOn (mDrop t_X4_walkOn 34) [some (mr i r), some (mi x1), some (mi x2)] [] g = mEv X call 0 t_X4_walkOn (mDrop t_X4_walkOn 39) [some (mr i r), some (mi x1), some (mi x2)] [] (mU g i (mP (g i) r 7 2)) := by
  rcases h_r with rfl | rfl <;> exact (mEv_3 _ _ _ _).trans rfl
noncomputable def J_X4_walkOn_18 (r : Nat) (c : mC) (x1 : Int32) (x2 : Int32) : (mC) := (if (c r 7) = 1 then (if (c r 3) < x1 then (J_X4_walkOn_39 r c x2) else (J_X4_walkOn_39 r (mP c r 7 2) x2)) else (J_X4_walkOn_39 r c x2))
theorem rj_X4_walkOn_18 (d : Nat) {X : mX} {g : mG} {i r : Nat} (h_r : r = 8 ∨ r = 9) {x1 x2 : Int32} {c : mC} : mEv X (mCall mD X (d + 0)) 0 t_X4_walkOn (mDrop t_X4_walkOn 18) [some (mr i r), some (mi x1), some (mi x2)] [] (mU g i c) = (wV g i) (J_X4_walkOn_18 r c x1 x2) := by
  refine Eq.trans (e_X4_walkOn_18 h_r) ?_
  try simp only [mU_same, mU_mU]
  refine mw_ite (fun h2 => ?_) (fun h2 => ?_)
  · refine Eq.trans (e_X4_walkOn_26 h_r) ?_
    try simp only [mU_same, mU_mU]
    refine mw_ite (fun h1 => ?_) (fun h1 => ?_)
    · exact rj_X4_walkOn_39 d h_r
    · refine Eq.trans (e_X4_walkOn_34 h_r) ?_
      try simp only [mU_same, mU_mU]
      exact rj_X4_walkOn_39 d h_r
  · exact rj_X4_walkOn_39 d h_r
noncomputable def P_X4_walkOn (r : Nat) (c : mC) (x1 : Int32) (x2 : Int32) : (mC) := (if (c r 7) = 2 then (J_X4_walkOn_18 r (mP c r 8 ((c r 8) + 1)) x1 x2) else (J_X4_walkOn_18 r c x1 x2))
theorem rr_X4_walkOn (d : Nat) {X : mX} {g : mG} {i r : Nat} (h_r : r = 8 ∨ r = 9) {x1 x2 : Int32} {c : mC} : mCall mD X (d + 1) 95 [mr i r, mi x1, mi x2] (mU g i c) = (wV g i) (P_X4_walkOn r c x1 x2) := by
  refine Eq.trans (mCall_eq (d := d + 0) rfl) ?_
  show mEv X (mCall mD X (d + 0)) 0 t_X4_walkOn (mDrop t_X4_walkOn 0) [some (mr i r), some (mi x1), some (mi x2)] [] (mU g i c) = _
  refine Eq.trans (e_X4_walkOn_0 h_r) ?_
  try simp only [mU_same, mU_mU]
  refine mw_ite (fun h1 => ?_) (fun h1 => ?_)
  · refine Eq.trans (e_X4_walkOn_8 h_r) ?_
    try simp only [mU_same, mU_mU]
    exact rj_X4_walkOn_18 d h_r
  · exact rj_X4_walkOn_18 d h_r
theorem rr_X4_walkOn_at (d : Nat) {X : mX} {g : mG} {i r : Nat} (h_r : r = 8 ∨ r = 9) {x1 x2 : Int32} : mCall mD X (d + 1) 95 [mr i r, mi x1, mi x2] g = some (none, mU g i (P_X4_walkOn r (g i) x1 x2)) := by
  have h := rr_X4_walkOn (X := X) d (g := g) (c := g i) h_r (x1 := x1) (x2 := x2) (i := i)
  rw [mU_self] at h
  exact h
theorem e_X4_growDark_0 {X : mX} {call : Nat → List mV → mG → mR} {g : mG} {x1 x2 : Int32} {i r : Nat} (h_r : r = 8 ∨ r = 9) : mEv X call 0 t_X4_growDark (mDrop t_X4_growDark 0) [some (mr i r), some (mi x1), some (mi x2)] [] g = if (g i r 2) = 1 then mEv X call 0 t_X4_growDark (mDrop t_X4_growDark 8) [some (mr i r), some (mi x1), some (mi x2)] [] g else mEv X call 0 t_X4_growDark (mDrop t_X4_growDark 26) [some (mr i r), some (mi x1), some (mi x2)] [] g := by
  rcases h_r with rfl | rfl <;> exact (mEv_4 _ _ _ _).trans rfl
theorem e_X4_growDark_8 {X : mX} {call : Nat → List mV → mG → mR} {g : mG} {x1 x2 : Int32} {i r : Nat} (h_r : r = 8 ∨ r = 9) : mEv X call 0 t_X4_growDark (mDrop t_X4_growDark 8) [some (mr i r), some (mi x1), some (mi x2)] [] g = if (g i r 3) < x1 then mEv X call 0 t_X4_growDark (mDrop t_X4_growDark 26) [some (mr i r), some (mi x1), some (mi x2)] [] g else mEv X call 0 t_X4_growDark (mDrop t_X4_growDark 16) [some (mr i r), some (mi x1), some (mi x2)] [] g := by
  rcases h_r with rfl | rfl <;> exact (mEv_4 _ _ _ _).trans rfl
theorem e_X4_growDark_26 {X : mX} {call : Nat → List mV → mG → mR} {g : mG} {x1 x2 : Int32} {i r : Nat} (h_r : r = 8 ∨ r = 9) : mEv X call 0 t_X4_growDark (mDrop t_X4_growDark 26) [some (mr i r), some (mi x1), some (mi x2)] [] g = if (g i r 2) = 2 then mEv X call 0 t_X4_growDark (mDrop t_X4_growDark 34) [some (mr i r), some (mi x1), some (mi x2)] [] g else mEv X call 0 t_X4_growDark (mDrop t_X4_growDark 50) [some (mr i r), some (mi x1), some (mi x2)] [] g := by
  rcases h_r with rfl | rfl <;> exact (mEv_4 _ _ _ _).trans rfl
theorem e_X4_growDark_34 {X : mX} {call : Nat → List mV → mG → mR} {g : mG} {x1 x2 : Int32} {i r : Nat} (h_r : r = 8 ∨ r = 9) : mEv X call 0 t_X4_growDark (mDrop t_X4_growDark 34) [some (mr i r), some (mi x1), some (mi x2)] [] g = if (g i r 3) < x2 then mEv X call 0 t_X4_growDark (mDrop t_X4_growDark 50) [some (mr i r), some (mi x1), some (mi x2)] [] g else mEv X call 0 t_X4_growDark (mDrop t_X4_growDark 42) [some (mr i r), some (mi x1), some (mi x2)] [] g := by
  rcases h_r with rfl | rfl <;> exact (mEv_4 _ _ _ _).trans rfl
theorem e_X4_growDark_50 {X : mX} {call : Nat → List mV → mG → mR} {g : mG} {x1 x2 : Int32} {i r : Nat} (h_r : r = 8 ∨ r = 9) : mEv X call 0 t_X4_growDark (mDrop t_X4_growDark 50) [some (mr i r), some (mi x1), some (mi x2)] [] g = some (none, g) := by
  rcases h_r with rfl | rfl <;> exact (mEv_1 _ _ _ _).trans rfl
theorem e_X4_growDark_42 {X : mX} {call : Nat → List mV → mG → mR} {g : mG} {x1 x2 : Int32} {i r : Nat} (h_r : r = 8 ∨ r = 9) : mEv X call 0 t_X4_growDark (mDrop t_X4_growDark 42) [some (mr i r), some (mi x1), some (mi x2)] [] g = mAns (mEv X call 0 t_X4_growDark) (mDrop t_X4_growDark 50) [some (mr i r), some (mi x1), some (mi x2)] [] (call 91 [mr i r, mi (g i r 4)] g) := by
  rcases h_r with rfl | rfl <;> exact (mEv_4 _ _ _ _).trans rfl
noncomputable def J_X4_growDark_26 (r : Nat) (c : mC) (x2 : Int32) : (mC) := (if (c r 2) = 2 then (if (c r 3) < x2 then c else (mBd (α := mC) (P_X4_waitFor r c (c r 4)) (fun c1 => c1))) else c)
theorem rj_X4_growDark_26 (d : Nat) {X : mX} {g : mG} {i r : Nat} (h_r : r = 8 ∨ r = 9) {x1 x2 : Int32} {c : mC} : mEv X (mCall mD X (d + 1)) 0 t_X4_growDark (mDrop t_X4_growDark 26) [some (mr i r), some (mi x1), some (mi x2)] [] (mU g i c) = (wV g i) (J_X4_growDark_26 r c x2) := by
  refine Eq.trans (e_X4_growDark_26 h_r) ?_
  try simp only [mU_same, mU_mU]
  refine mw_ite (fun h3 => ?_) (fun h3 => ?_)
  · refine Eq.trans (e_X4_growDark_34 h_r) ?_
    try simp only [mU_same, mU_mU]
    refine mw_ite (fun h2 => ?_) (fun h2 => ?_)
    · refine Eq.trans (e_X4_growDark_50 h_r) ?_
      try simp only [mU_same, mU_mU]
      all_goals rfl
    · refine Eq.trans (e_X4_growDark_42 h_r) ?_
      try simp only [mU_same, mU_mU]
      refine mw_cV (rr_X4_waitFor d h_r) (fun c1 => ?_)
      refine Eq.trans (e_X4_growDark_50 h_r) ?_
      try simp only [mU_same, mU_mU]
      all_goals rfl
  · refine Eq.trans (e_X4_growDark_50 h_r) ?_
    try simp only [mU_same, mU_mU]
    all_goals rfl
theorem e_X4_growDark_16 {X : mX} {call : Nat → List mV → mG → mR} {g : mG} {x1 x2 : Int32} {i r : Nat} (h_r : r = 8 ∨ r = 9) : mEv X call 0 t_X4_growDark (mDrop t_X4_growDark 16) [some (mr i r), some (mi x1), some (mi x2)] [] g = mEv X call 0 t_X4_growDark (mDrop t_X4_growDark 21) [some (mr i r), some (mi x1), some (mi x2)] [] (mU g i (mP (g i) r 2 2)) := by
  rcases h_r with rfl | rfl <;> exact (mEv_3 _ _ _ _).trans rfl
theorem e_X4_growDark_21 {X : mX} {call : Nat → List mV → mG → mR} {g : mG} {x1 x2 : Int32} {i r : Nat} (h_r : r = 8 ∨ r = 9) : mEv X call 0 t_X4_growDark (mDrop t_X4_growDark 21) [some (mr i r), some (mi x1), some (mi x2)] [] g = mEv X call 0 t_X4_growDark (mDrop t_X4_growDark 26) [some (mr i r), some (mi x1), some (mi x2)] [] (mU g i (mP (g i) r 3 0)) := by
  rcases h_r with rfl | rfl <;> exact (mEv_3 _ _ _ _).trans rfl
noncomputable def P_X4_growDark (r : Nat) (c : mC) (x1 : Int32) (x2 : Int32) : (mC) := (if (c r 2) = 1 then (if (c r 3) < x1 then (J_X4_growDark_26 r c x2) else (J_X4_growDark_26 r (mP (mP c r 2 2) r 3 0) x2)) else (J_X4_growDark_26 r c x2))
theorem rr_X4_growDark (d : Nat) {X : mX} {g : mG} {i r : Nat} (h_r : r = 8 ∨ r = 9) {x1 x2 : Int32} {c : mC} : mCall mD X (d + 2) 94 [mr i r, mi x1, mi x2] (mU g i c) = (wV g i) (P_X4_growDark r c x1 x2) := by
  refine Eq.trans (mCall_eq (d := d + 1) rfl) ?_
  show mEv X (mCall mD X (d + 1)) 0 t_X4_growDark (mDrop t_X4_growDark 0) [some (mr i r), some (mi x1), some (mi x2)] [] (mU g i c) = _
  refine Eq.trans (e_X4_growDark_0 h_r) ?_
  try simp only [mU_same, mU_mU]
  refine mw_ite (fun h2 => ?_) (fun h2 => ?_)
  · refine Eq.trans (e_X4_growDark_8 h_r) ?_
    try simp only [mU_same, mU_mU]
    refine mw_ite (fun h1 => ?_) (fun h1 => ?_)
    · exact rj_X4_growDark_26 d h_r
    · refine Eq.trans (e_X4_growDark_16 h_r) ?_
      try simp only [mU_same, mU_mU]
      refine Eq.trans (e_X4_growDark_21 h_r) ?_
      try simp only [mU_same, mU_mU]
      exact rj_X4_growDark_26 d h_r
  · exact rj_X4_growDark_26 d h_r
theorem rr_X4_growDark_at (d : Nat) {X : mX} {g : mG} {i r : Nat} (h_r : r = 8 ∨ r = 9) {x1 x2 : Int32} : mCall mD X (d + 2) 94 [mr i r, mi x1, mi x2] g = some (none, mU g i (P_X4_growDark r (g i) x1 x2)) := by
  have h := rr_X4_growDark (X := X) d (g := g) (c := g i) h_r (x1 := x1) (x2 := x2) (i := i)
  rw [mU_self] at h
  exact h
theorem e_X1_note_0 {X : mX} {call : Nat → List mV → mG → mR} {g : mG} {x1 x2 x3 : Int32} {i : Nat} : mEv X call 0 t_X1_note (mDrop t_X1_note 0) [some (mr i 10), some (mi x1), some (mi x2), some (mi x3)] [] g = if (g i 10 4) < 0 then mEv X call 0 t_X1_note (mDrop t_X1_note 46) [some (mr i 10), some (mi x1), some (mi x2), some (mi x3)] [] g else mEv X call 0 t_X1_note (mDrop t_X1_note 7) [some (mr i 10), some (mi x1), some (mi x2), some (mi x3)] [] g := (mEv_3 _ _ _ _).trans rfl
theorem e_X1_note_46 {X : mX} {call : Nat → List mV → mG → mR} {g : mG} {x1 x2 x3 : Int32} {i : Nat} : mEv X call 0 t_X1_note (mDrop t_X1_note 46) [some (mr i 10), some (mi x1), some (mi x2), some (mi x3)] [] g = if (32 : Int32) = 0 then none else mEv X call 0 t_X1_note (mDrop t_X1_note 56) [some (mr i 10), some (mi x1), some (mi x2), some (mi x3)] [mi (((g i 10 4) + 1) - ((g i 10 4) + 1) / 32 * 32), mr i 10] g := (mEv_7 _ _ _ _).trans rfl
theorem e_X1_note_56 {X : mX} {call : Nat → List mV → mG → mR} {g : mG} {x1 x2 x3 s1 : Int32} {i : Nat} : mEv X call 0 t_X1_note (mDrop t_X1_note 56) [some (mr i 10), some (mi x1), some (mi x2), some (mi x3)] [mi s1, mr i 10] g = mEv X call 0 t_X1_note (mDrop t_X1_note 59) [some (mr i 10), some (mi x1), some (mi x2), some (mi x3)] [] (mU g i (mP (g i) 10 4 s1)) := (mEv_1 _ _ _ _).trans rfl
theorem e_X1_note_59 {X : mX} {call : Nat → List mV → mG → mR} {g : mG} {x1 x2 x3 : Int32} {i : Nat} : mEv X call 0 t_X1_note (mDrop t_X1_note 59) [some (mr i 10), some (mi x1), some (mi x2), some (mi x3)] [] g = mAns (mEv X call 0 t_X1_note) (mDrop t_X1_note 71) [some (mr i 10), some (mi x1), some (mi x2), some (mi x3)] [mr i 10] (call 277 [mi ((g i 10 3) + 1), mi 32] g) := (mEv_7 _ _ _ _).trans rfl
theorem e_X1_note_71 {X : mX} {call : Nat → List mV → mG → mR} {g : mG} {x1 x2 x3 s1 : Int32} {i : Nat} : mEv X call 0 t_X1_note (mDrop t_X1_note 71) [some (mr i 10), some (mi x1), some (mi x2), some (mi x3)] [mi s1, mr i 10] g = mEv X call 0 t_X1_note (mDrop t_X1_note 74) [some (mr i 10), some (mi x1), some (mi x2), some (mi x3)] [] (mU g i (mP (g i) 10 3 s1)) := (mEv_1 _ _ _ _).trans rfl
theorem e_X1_note_74 {X : mX} {call : Nat → List mV → mG → mR} {g : mG} {x1 x2 x3 : Int32} {i : Nat} : mEv X call 0 t_X1_note (mDrop t_X1_note 74) [some (mr i 10), some (mi x1), some (mi x2), some (mi x3)] [] g = some (none, g) := (mEv_1 _ _ _ _).trans rfl
noncomputable def J_X1_note_46 (c : mC) : (mC) := (mBd (α := Int32) (P_J9_min_7cf53 (((mP c 10 4 (((c 10 4) + 1) - ((c 10 4) + 1) / 32 * 32)) 10 3) + 1) 32) (fun v1 => (mP (mP c 10 4 (((c 10 4) + 1) - ((c 10 4) + 1) / 32 * 32)) 10 3 v1)))
theorem rj_X1_note_46 (d : Nat) {X : mX} {g : mG} {i : Nat} {x1 x2 x3 : Int32} {c : mC} : mEv X (mCall mD X (d + 1)) 0 t_X1_note (mDrop t_X1_note 46) [some (mr i 10), some (mi x1), some (mi x2), some (mi x3)] [] (mU g i c) = (wV g i) (J_X1_note_46 c) := by
  refine Eq.trans (e_X1_note_46) ?_
  try simp only [mU_same, mU_mU]
  refine Eq.trans (if_neg (by decide)) ?_
  refine Eq.trans (e_X1_note_56) ?_
  try simp only [mU_same, mU_mU]
  refine Eq.trans (e_X1_note_59) ?_
  try simp only [mU_same, mU_mU]
  refine mw_cI (rr_J9_min_7cf53 d) (fun v1 => ?_)
  refine Eq.trans (e_X1_note_71) ?_
  try simp only [mU_same, mU_mU]
  refine Eq.trans (e_X1_note_74) ?_
  try simp only [mU_same, mU_mU]
  all_goals rfl
theorem e_X1_note_7 {X : mX} {call : Nat → List mV → mG → mR} {g : mG} {x1 x2 x3 : Int32} {i : Nat} : mEv X call 0 t_X1_note (mDrop t_X1_note 7) [some (mr i 10), some (mi x1), some (mi x2), some (mi x3)] [] g = if 32 ≤ (g i 10 4) then mEv X call 0 t_X1_note (mDrop t_X1_note 46) [some (mr i 10), some (mi x1), some (mi x2), some (mi x3)] [] g else mEv X call 0 t_X1_note (mDrop t_X1_note 16) [some (mr i 10), some (mi x1), some (mi x2), some (mi x3)] [] g := (mEv_4 _ _ _ _).trans rfl
theorem e_X1_note_16 {X : mX} {call : Nat → List mV → mG → mR} {g : mG} {x1 x2 x3 : Int32} {i : Nat} : mEv X call 0 t_X1_note (mDrop t_X1_note 16) [some (mr i 10), some (mi x1), some (mi x2), some (mi x3)] [] g = if ((g i 10 4) : Int32) < 0 ∨ 32 ≤ ((g i 10 4) : Int32).toNatClampNeg then none else mEv X call 0 t_X1_note (mDrop t_X1_note 26) [some (mr i 10), some (mi x1), some (mi x2), some (mi x3)] [] (mU g i (mP (g i) 11 ((g i 10 4)).toNatClampNeg x1)) := (mEv_6 _ _ _ _).trans rfl
theorem e_X1_note_26 {X : mX} {call : Nat → List mV → mG → mR} {g : mG} {x1 x2 x3 : Int32} {i : Nat} : mEv X call 0 t_X1_note (mDrop t_X1_note 26) [some (mr i 10), some (mi x1), some (mi x2), some (mi x3)] [] g = if ((g i 10 4) : Int32) < 0 ∨ 32 ≤ ((g i 10 4) : Int32).toNatClampNeg then none else mEv X call 0 t_X1_note (mDrop t_X1_note 36) [some (mr i 10), some (mi x1), some (mi x2), some (mi x3)] [] (mU g i (mP (g i) 12 ((g i 10 4)).toNatClampNeg x2)) := (mEv_6 _ _ _ _).trans rfl
theorem e_X1_note_36 {X : mX} {call : Nat → List mV → mG → mR} {g : mG} {x1 x2 x3 : Int32} {i : Nat} : mEv X call 0 t_X1_note (mDrop t_X1_note 36) [some (mr i 10), some (mi x1), some (mi x2), some (mi x3)] [] g = if ((g i 10 4) : Int32) < 0 ∨ 32 ≤ ((g i 10 4) : Int32).toNatClampNeg then none else mEv X call 0 t_X1_note (mDrop t_X1_note 46) [some (mr i 10), some (mi x1), some (mi x2), some (mi x3)] [] (mU g i (mP (g i) 13 ((g i 10 4)).toNatClampNeg x3)) := (mEv_6 _ _ _ _).trans rfl
noncomputable def P_X1_note (c : mC) (x1 : Int32) (x2 : Int32) (x3 : Int32) : (mC) := (if (c 10 4) < 0 then (J_X1_note_46 c) else (if 32 ≤ (c 10 4) then (J_X1_note_46 c) else (J_X1_note_46 (mP (mP (mP c 11 ((c 10 4)).toNatClampNeg x1) 12 (((mP c 11 ((c 10 4)).toNatClampNeg x1) 10 4)).toNatClampNeg x2) 13 (((mP (mP c 11 ((c 10 4)).toNatClampNeg x1) 12 (((mP c 11 ((c 10 4)).toNatClampNeg x1) 10 4)).toNatClampNeg x2) 10 4)).toNatClampNeg x3))))
theorem rr_X1_note (d : Nat) {X : mX} {g : mG} {i : Nat} {x1 x2 x3 : Int32} {c : mC} : mCall mD X (d + 2) 49 [mr i 10, mi x1, mi x2, mi x3] (mU g i c) = (wV g i) (P_X1_note c x1 x2 x3) := by
  refine Eq.trans (mCall_eq (d := d + 1) rfl) ?_
  show mEv X (mCall mD X (d + 1)) 0 t_X1_note (mDrop t_X1_note 0) [some (mr i 10), some (mi x1), some (mi x2), some (mi x3)] [] (mU g i c) = _
  refine Eq.trans (e_X1_note_0) ?_
  try simp only [mU_same, mU_mU]
  refine mw_ite (fun h2 => ?_) (fun h2 => ?_)
  · exact rj_X1_note_46 d
  · refine Eq.trans (e_X1_note_7) ?_
    try simp only [mU_same, mU_mU]
    refine mw_ite (fun h1 => ?_) (fun h1 => ?_)
    · exact rj_X1_note_46 d
    · refine Eq.trans (e_X1_note_16) ?_
      try simp only [mU_same, mU_mU]
      refine Eq.trans (if_neg (mrng (by decide) (by first | assumption | exact Int32.not_lt.mpr (by assumption)) (by first | assumption | exact Int32.not_le.mpr (by assumption)))) ?_
      refine Eq.trans (e_X1_note_26) ?_
      try simp only [mU_same, mU_mU]
      refine Eq.trans (if_neg (mrng (by decide) (by first | assumption | exact Int32.not_lt.mpr (by assumption)) (by first | assumption | exact Int32.not_le.mpr (by assumption)))) ?_
      refine Eq.trans (e_X1_note_36) ?_
      try simp only [mU_same, mU_mU]
      refine Eq.trans (if_neg (mrng (by decide) (by first | assumption | exact Int32.not_lt.mpr (by assumption)) (by first | assumption | exact Int32.not_le.mpr (by assumption)))) ?_
      exact rj_X1_note_46 d
theorem rr_X1_note_at (d : Nat) {X : mX} {g : mG} {i : Nat} {x1 x2 x3 : Int32} : mCall mD X (d + 2) 49 [mr i 10, mi x1, mi x2, mi x3] g = some (none, mU g i (P_X1_note (g i) x1 x2 x3)) := by
  have h := rr_X1_note (X := X) d (g := g) (c := g i) (x1 := x1) (x2 := x2) (x3 := x3) (i := i)
  rw [mU_self] at h
  exact h
theorem e_X4_turnYellow_0 {X : mX} {call : Nat → List mV → mG → mR} {g : mG} {x1 : Int32} {i r : Nat} (h_r : r = 8 ∨ r = 9) : mEv X call 0 t_X4_turnYellow (mDrop t_X4_turnYellow 0) [some (mr i r), some (mi x1)] [] g = mEv X call 0 t_X4_turnYellow (mDrop t_X4_turnYellow 5) [some (mr i r), some (mi x1)] [] (mU g i (mP (g i) r 2 1)) := by
  rcases h_r with rfl | rfl <;> exact (mEv_3 _ _ _ _).trans rfl
theorem e_X4_turnYellow_5 {X : mX} {call : Nat → List mV → mG → mR} {g : mG} {x1 : Int32} {i r : Nat} (h_r : r = 8 ∨ r = 9) : mEv X call 0 t_X4_turnYellow (mDrop t_X4_turnYellow 5) [some (mr i r), some (mi x1)] [] g = mEv X call 0 t_X4_turnYellow (mDrop t_X4_turnYellow 10) [some (mr i r), some (mi x1)] [] (mU g i (mP (g i) r 3 0)) := by
  rcases h_r with rfl | rfl <;> exact (mEv_3 _ _ _ _).trans rfl
theorem e_X4_turnYellow_10 {X : mX} {call : Nat → List mV → mG → mR} {g : mG} {x1 : Int32} {i r : Nat} (h_r : r = 8 ∨ r = 9) : mEv X call 0 t_X4_turnYellow (mDrop t_X4_turnYellow 10) [some (mr i r), some (mi x1)] [] g = mEv X call 0 t_X4_turnYellow (mDrop t_X4_turnYellow 15) [some (mr i r), some (mi x1)] [] (mU g i (mP (g i) r 4 x1)) := by
  rcases h_r with rfl | rfl <;> exact (mEv_3 _ _ _ _).trans rfl
theorem e_X4_turnYellow_15 {X : mX} {call : Nat → List mV → mG → mR} {g : mG} {x1 : Int32} {i r : Nat} (h_r : r = 8 ∨ r = 9) : mEv X call 0 t_X4_turnYellow (mDrop t_X4_turnYellow 15) [some (mr i r), some (mi x1)] [] g = mEv X call 0 t_X4_turnYellow (mDrop t_X4_turnYellow 20) [some (mr i r), some (mi x1)] [] (mU g i (mP (g i) r 7 0)) := by
  rcases h_r with rfl | rfl <;> exact (mEv_3 _ _ _ _).trans rfl
theorem e_X4_turnYellow_20 {X : mX} {call : Nat → List mV → mG → mR} {g : mG} {x1 : Int32} {i r : Nat} (h_r : r = 8 ∨ r = 9) : mEv X call 0 t_X4_turnYellow (mDrop t_X4_turnYellow 20) [some (mr i r), some (mi x1)] [] g = some (none, g) := by
  rcases h_r with rfl | rfl <;> exact (mEv_1 _ _ _ _).trans rfl
noncomputable def P_X4_turnYellow (r : Nat) (c : mC) (x1 : Int32) : (mC) := (mP (mP (mP (mP c r 2 1) r 3 0) r 4 x1) r 7 0)
theorem rr_X4_turnYellow (d : Nat) {X : mX} {g : mG} {i r : Nat} (h_r : r = 8 ∨ r = 9) {x1 : Int32} {c : mC} : mCall mD X (d + 1) 93 [mr i r, mi x1] (mU g i c) = (wV g i) (P_X4_turnYellow r c x1) := by
  refine Eq.trans (mCall_eq (d := d + 0) rfl) ?_
  show mEv X (mCall mD X (d + 0)) 0 t_X4_turnYellow (mDrop t_X4_turnYellow 0) [some (mr i r), some (mi x1)] [] (mU g i c) = _
  refine Eq.trans (e_X4_turnYellow_0 h_r) ?_
  try simp only [mU_same, mU_mU]
  refine Eq.trans (e_X4_turnYellow_5 h_r) ?_
  try simp only [mU_same, mU_mU]
  refine Eq.trans (e_X4_turnYellow_10 h_r) ?_
  try simp only [mU_same, mU_mU]
  refine Eq.trans (e_X4_turnYellow_15 h_r) ?_
  try simp only [mU_same, mU_mU]
  refine Eq.trans (e_X4_turnYellow_20 h_r) ?_
  try simp only [mU_same, mU_mU]
  all_goals rfl
theorem rr_X4_turnYellow_at (d : Nat) {X : mX} {g : mG} {i r : Nat} (h_r : r = 8 ∨ r = 9) {x1 : Int32} : mCall mD X (d + 1) 93 [mr i r, mi x1] g = some (none, mU g i (P_X4_turnYellow r (g i) x1)) := by
  have h := rr_X4_turnYellow (X := X) d (g := g) (c := g i) h_r (x1 := x1) (i := i)
  rw [mU_self] at h
  exact h
theorem e_X4_turnGreen_0 {X : mX} {call : Nat → List mV → mG → mR} {g : mG} {x1 x2 : Int32} {i r : Nat} (h_r : r = 8 ∨ r = 9) : mEv X call 0 t_X4_turnGreen (mDrop t_X4_turnGreen 0) [some (mr i r), some (mi x1), some (mi x2)] [] g = mEv X call 0 t_X4_turnGreen (mDrop t_X4_turnGreen 5) [some (mr i r), some (mi x1), some (mi x2)] [] (mU g i (mP (g i) r 1 x1)) := by
  rcases h_r with rfl | rfl <;> exact (mEv_3 _ _ _ _).trans rfl
theorem e_X4_turnGreen_5 {X : mX} {call : Nat → List mV → mG → mR} {g : mG} {x1 x2 : Int32} {i r : Nat} (h_r : r = 8 ∨ r = 9) : mEv X call 0 t_X4_turnGreen (mDrop t_X4_turnGreen 5) [some (mr i r), some (mi x1), some (mi x2)] [] g = mEv X call 0 t_X4_turnGreen (mDrop t_X4_turnGreen 10) [some (mr i r), some (mi x1), some (mi x2)] [] (mU g i (mP (g i) r 2 0)) := by
  rcases h_r with rfl | rfl <;> exact (mEv_3 _ _ _ _).trans rfl
theorem e_X4_turnGreen_10 {X : mX} {call : Nat → List mV → mG → mR} {g : mG} {x1 x2 : Int32} {i r : Nat} (h_r : r = 8 ∨ r = 9) : mEv X call 0 t_X4_turnGreen (mDrop t_X4_turnGreen 10) [some (mr i r), some (mi x1), some (mi x2)] [] g = mEv X call 0 t_X4_turnGreen (mDrop t_X4_turnGreen 15) [some (mr i r), some (mi x1), some (mi x2)] [] (mU g i (mP (g i) r 3 0)) := by
  rcases h_r with rfl | rfl <;> exact (mEv_3 _ _ _ _).trans rfl
theorem e_X4_turnGreen_15 {X : mX} {call : Nat → List mV → mG → mR} {g : mG} {x1 x2 : Int32} {i r : Nat} (h_r : r = 8 ∨ r = 9) : mEv X call 0 t_X4_turnGreen (mDrop t_X4_turnGreen 15) [some (mr i r), some (mi x1), some (mi x2)] [] g = mEv X call 0 t_X4_turnGreen (mDrop t_X4_turnGreen 20) [some (mr i r), some (mi x1), some (mi x2)] [] (mU g i (mP (g i) r 4 (-1))) := by
  rcases h_r with rfl | rfl <;> exact (mEv_3 _ _ _ _).trans rfl
theorem e_X4_turnGreen_20 {X : mX} {call : Nat → List mV → mG → mR} {g : mG} {x1 x2 : Int32} {i r : Nat} (h_r : r = 8 ∨ r = 9) : mEv X call 0 t_X4_turnGreen (mDrop t_X4_turnGreen 20) [some (mr i r), some (mi x1), some (mi x2)] [] g = mEv X call 0 t_X4_turnGreen (mDrop t_X4_turnGreen 25) [some (mr i r), some (mi x1), some (mi x2)] [] (mU g i (mP (g i) r 5 0)) := by
  rcases h_r with rfl | rfl <;> exact (mEv_3 _ _ _ _).trans rfl
theorem e_X4_turnGreen_25 {X : mX} {call : Nat → List mV → mG → mR} {g : mG} {x1 x2 : Int32} {i r : Nat} (h_r : r = 8 ∨ r = 9) : mEv X call 0 t_X4_turnGreen (mDrop t_X4_turnGreen 25) [some (mr i r), some (mi x1), some (mi x2)] [] g = mEv X call 0 t_X4_turnGreen (mDrop t_X4_turnGreen 30) [some (mr i r), some (mi x1), some (mi x2)] [] (mU g i (mP (g i) r 6 0)) := by
  rcases h_r with rfl | rfl <;> exact (mEv_3 _ _ _ _).trans rfl
theorem e_X4_turnGreen_30 {X : mX} {call : Nat → List mV → mG → mR} {g : mG} {x1 x2 : Int32} {i r : Nat} (h_r : r = 8 ∨ r = 9) : mEv X call 0 t_X4_turnGreen (mDrop t_X4_turnGreen 30) [some (mr i r), some (mi x1), some (mi x2)] [] g = mEv X call 0 t_X4_turnGreen (mDrop t_X4_turnGreen 35) [some (mr i r), some (mi x1), some (mi x2)] [] (mU g i (mP (g i) r 8 0)) := by
  rcases h_r with rfl | rfl <;> exact (mEv_3 _ _ _ _).trans rfl
theorem e_X4_turnGreen_35 {X : mX} {call : Nat → List mV → mG → mR} {g : mG} {x1 x2 : Int32} {i r : Nat} (h_r : r = 8 ∨ r = 9) : mEv X call 0 t_X4_turnGreen (mDrop t_X4_turnGreen 35) [some (mr i r), some (mi x1), some (mi x2)] [] g = if x2 = 0 then mEv X call 0 t_X4_turnGreen (mDrop t_X4_turnGreen 44) [some (mr i r), some (mi x1), some (mi x2)] [mr i r] g else mEv X call 0 t_X4_turnGreen (mDrop t_X4_turnGreen 40) [some (mr i r), some (mi x1), some (mi x2)] [mr i r] g := by
  rcases h_r with rfl | rfl <;> exact (mEv_3 _ _ _ _).trans rfl
theorem e_X4_turnGreen_44 {X : mX} {call : Nat → List mV → mG → mR} {g : mG} {x1 x2 : Int32} {i r : Nat} (h_r : r = 8 ∨ r = 9) : mEv X call 0 t_X4_turnGreen (mDrop t_X4_turnGreen 44) [some (mr i r), some (mi x1), some (mi x2)] [mr i r] g = mEv X call 0 t_X4_turnGreen (mDrop t_X4_turnGreen 45) [some (mr i r), some (mi x1), some (mi x2)] [mi 0, mr i r] g := by
  rcases h_r with rfl | rfl <;> exact (mEv_1 _ _ _ _).trans rfl
theorem e_X4_turnGreen_45 {X : mX} {call : Nat → List mV → mG → mR} {g : mG} {x1 x2 s1 : Int32} {i r : Nat} (h_r : r = 8 ∨ r = 9) : mEv X call 0 t_X4_turnGreen (mDrop t_X4_turnGreen 45) [some (mr i r), some (mi x1), some (mi x2)] [mi s1, mr i r] g = mEv X call 0 t_X4_turnGreen (mDrop t_X4_turnGreen 48) [some (mr i r), some (mi x1), some (mi x2)] [] (mU g i (mP (g i) r 7 s1)) := by
  rcases h_r with rfl | rfl <;> exact (mEv_1 _ _ _ _).trans rfl
theorem e_X4_turnGreen_48 {X : mX} {call : Nat → List mV → mG → mR} {g : mG} {x1 x2 : Int32} {i r : Nat} (h_r : r = 8 ∨ r = 9) : mEv X call 0 t_X4_turnGreen (mDrop t_X4_turnGreen 48) [some (mr i r), some (mi x1), some (mi x2)] [] g = some (none, g) := by
  rcases h_r with rfl | rfl <;> exact (mEv_1 _ _ _ _).trans rfl
noncomputable def J_X4_turnGreen_45 (r : Nat) (c : mC) (s1 : Int32) : (mC) := (mP c r 7 s1)
theorem rj_X4_turnGreen_45 (d : Nat) {X : mX} {g : mG} {i r : Nat} (h_r : r = 8 ∨ r = 9) {x1 x2 s1 : Int32} {c : mC} : mEv X (mCall mD X (d + 0)) 0 t_X4_turnGreen (mDrop t_X4_turnGreen 45) [some (mr i r), some (mi x1), some (mi x2)] [mi s1, mr i r] (mU g i c) = (wV g i) (J_X4_turnGreen_45 r c s1) := by
  refine Eq.trans (e_X4_turnGreen_45 h_r) ?_
  try simp only [mU_same, mU_mU]
  refine Eq.trans (e_X4_turnGreen_48 h_r) ?_
  try simp only [mU_same, mU_mU]
  all_goals rfl
theorem e_X4_turnGreen_40 {X : mX} {call : Nat → List mV → mG → mR} {g : mG} {x1 x2 : Int32} {i r : Nat} (h_r : r = 8 ∨ r = 9) : mEv X call 0 t_X4_turnGreen (mDrop t_X4_turnGreen 40) [some (mr i r), some (mi x1), some (mi x2)] [mr i r] g = mEv X call 0 t_X4_turnGreen (mDrop t_X4_turnGreen 45) [some (mr i r), some (mi x1), some (mi x2)] [mi 1, mr i r] g := by
  rcases h_r with rfl | rfl <;> exact (mEv_2 _ _ _ _).trans rfl
noncomputable def P_X4_turnGreen (r : Nat) (c : mC) (x1 : Int32) (x2 : Int32) : (mC) := (if x2 = 0 then (J_X4_turnGreen_45 r (mP (mP (mP (mP (mP (mP (mP c r 1 x1) r 2 0) r 3 0) r 4 (-1)) r 5 0) r 6 0) r 8 0) 0) else (J_X4_turnGreen_45 r (mP (mP (mP (mP (mP (mP (mP c r 1 x1) r 2 0) r 3 0) r 4 (-1)) r 5 0) r 6 0) r 8 0) 1))
theorem rr_X4_turnGreen (d : Nat) {X : mX} {g : mG} {i r : Nat} (h_r : r = 8 ∨ r = 9) {x1 x2 : Int32} {c : mC} : mCall mD X (d + 1) 92 [mr i r, mi x1, mi x2] (mU g i c) = (wV g i) (P_X4_turnGreen r c x1 x2) := by
  refine Eq.trans (mCall_eq (d := d + 0) rfl) ?_
  show mEv X (mCall mD X (d + 0)) 0 t_X4_turnGreen (mDrop t_X4_turnGreen 0) [some (mr i r), some (mi x1), some (mi x2)] [] (mU g i c) = _
  refine Eq.trans (e_X4_turnGreen_0 h_r) ?_
  try simp only [mU_same, mU_mU]
  refine Eq.trans (e_X4_turnGreen_5 h_r) ?_
  try simp only [mU_same, mU_mU]
  refine Eq.trans (e_X4_turnGreen_10 h_r) ?_
  try simp only [mU_same, mU_mU]
  refine Eq.trans (e_X4_turnGreen_15 h_r) ?_
  try simp only [mU_same, mU_mU]
  refine Eq.trans (e_X4_turnGreen_20 h_r) ?_
  try simp only [mU_same, mU_mU]
  refine Eq.trans (e_X4_turnGreen_25 h_r) ?_
  try simp only [mU_same, mU_mU]
  refine Eq.trans (e_X4_turnGreen_30 h_r) ?_
  try simp only [mU_same, mU_mU]
  refine Eq.trans (e_X4_turnGreen_35 h_r) ?_
  try simp only [mU_same, mU_mU]
  refine mw_ite (fun h1 => ?_) (fun h1 => ?_)
  · refine Eq.trans (e_X4_turnGreen_44 h_r) ?_
    try simp only [mU_same, mU_mU]
    exact rj_X4_turnGreen_45 d h_r
  · refine Eq.trans (e_X4_turnGreen_40 h_r) ?_
    try simp only [mU_same, mU_mU]
    exact rj_X4_turnGreen_45 d h_r
theorem rr_X4_turnGreen_at (d : Nat) {X : mX} {g : mG} {i r : Nat} (h_r : r = 8 ∨ r = 9) {x1 x2 : Int32} : mCall mD X (d + 1) 92 [mr i r, mi x1, mi x2] g = some (none, mU g i (P_X4_turnGreen r (g i) x1 x2)) := by
  have h := rr_X4_turnGreen (X := X) d (g := g) (c := g i) h_r (x1 := x1) (x2 := x2) (i := i)
  rw [mU_self] at h
  exact h
theorem e_X1_tell_0 {X : mX} {call : Nat → List mV → mG → mR} {g : mG} {x1 x2 : Int32} {u3 : Option mV} {i : Nat} : mEv X call 1 t_X1_tell (mDrop t_X1_tell 0) [some (mr i 10), some (mi x1), some (mi x2), u3] [] g = mAns (mEv X call 1 t_X1_tell) (mDrop t_X1_tell 13) [some (mr i 10), some (mi x1), some (mi x2), u3] [] (call 275 [mi (((g i 10 4) - 1) - x1), mi 32] g) := (mEv_8 _ _ _ _).trans rfl
theorem e_X1_tell_13 {X : mX} {call : Nat → List mV → mG → mR} {g : mG} {x1 x2 s0 : Int32} {u3 : Option mV} {i : Nat} : mEv X call 1 t_X1_tell (mDrop t_X1_tell 13) [some (mr i 10), some (mi x1), some (mi x2), u3] [mi s0] g = if x2 = 0 then mEv X call 1 t_X1_tell (mDrop t_X1_tell 40) [some (mr i 10), some (mi x1), some (mi x2), some (mi s0)] [] g else (if x2 = 1 then mEv X call 1 t_X1_tell (mDrop t_X1_tell 49) [some (mr i 10), some (mi x1), some (mi x2), some (mi s0)] [] g else (mEv X call 1 t_X1_tell (mDrop t_X1_tell 58) [some (mr i 10), some (mi x1), some (mi x2), some (mi s0)] [] g)) := (mEv_3 _ _ _ _).trans rfl
theorem e_X1_tell_58 {X : mX} {call : Nat → List mV → mG → mR} {g : mG} {x1 x2 x3 : Int32} {i : Nat} : mEv X call 1 t_X1_tell (mDrop t_X1_tell 58) [some (mr i 10), some (mi x1), some (mi x2), some (mi x3)] [] g = mAns (mEv X call 1 t_X1_tell) (mDrop t_X1_tell 66) [some (mr i 10), some (mi x1), some (mi x2), some (mi x3)] [] (call 141 [mr i 13, mi x3] g) := (mEv_4 _ _ _ _).trans rfl
theorem e_X1_tell_66 {X : mX} {call : Nat → List mV → mG → mR} {g : mG} {x1 x2 x3 s0 : Int32} {i : Nat} : mEv X call 1 t_X1_tell (mDrop t_X1_tell 66) [some (mr i 10), some (mi x1), some (mi x2), some (mi x3)] [mi s0] g = some (some (mi s0), g) := (mEv_1 _ _ _ _).trans rfl
theorem e_X1_tell_40 {X : mX} {call : Nat → List mV → mG → mR} {g : mG} {x1 x2 x3 : Int32} {i : Nat} : mEv X call 1 t_X1_tell (mDrop t_X1_tell 40) [some (mr i 10), some (mi x1), some (mi x2), some (mi x3)] [] g = mAns (mEv X call 1 t_X1_tell) (mDrop t_X1_tell 48) [some (mr i 10), some (mi x1), some (mi x2), some (mi x3)] [] (call 141 [mr i 11, mi x3] g) := (mEv_4 _ _ _ _).trans rfl
theorem e_X1_tell_48 {X : mX} {call : Nat → List mV → mG → mR} {g : mG} {x1 x2 x3 s0 : Int32} {i : Nat} : mEv X call 1 t_X1_tell (mDrop t_X1_tell 48) [some (mr i 10), some (mi x1), some (mi x2), some (mi x3)] [mi s0] g = some (some (mi s0), g) := (mEv_1 _ _ _ _).trans rfl
theorem e_X1_tell_49 {X : mX} {call : Nat → List mV → mG → mR} {g : mG} {x1 x2 x3 : Int32} {i : Nat} : mEv X call 1 t_X1_tell (mDrop t_X1_tell 49) [some (mr i 10), some (mi x1), some (mi x2), some (mi x3)] [] g = mAns (mEv X call 1 t_X1_tell) (mDrop t_X1_tell 57) [some (mr i 10), some (mi x1), some (mi x2), some (mi x3)] [] (call 141 [mr i 12, mi x3] g) := (mEv_4 _ _ _ _).trans rfl
theorem e_X1_tell_57 {X : mX} {call : Nat → List mV → mG → mR} {g : mG} {x1 x2 x3 s0 : Int32} {i : Nat} : mEv X call 1 t_X1_tell (mDrop t_X1_tell 57) [some (mr i 10), some (mi x1), some (mi x2), some (mi x3)] [mi s0] g = some (some (mi s0), g) := (mEv_1 _ _ _ _).trans rfl
noncomputable def P_X1_tell (c : mC) (x1 : Int32) (x2 : Int32) : (Int32) := (mBd (α := Int32) (mFm (((c 10 4) - 1) - x1) 32) (fun v1 => (if x2 = 0 then (mBd (α := Int32) (cl 32 (c 11) v1) (fun v3 => v3)) else (if x2 = 1 then (mBd (α := Int32) (cl 32 (c 12) v1) (fun v4 => v4)) else (mBd (α := Int32) (cl 32 (c 13) v1) (fun v2 => v2))))))
theorem rr_X1_tell (d : Nat) {X : mX} {g : mG} {i : Nat} {x1 x2 : Int32} {c : mC} : mCall mD X (d + 2) 50 [mr i 10, mi x1, mi x2] (mU g i c) = (wI g i c) (P_X1_tell c x1 x2) := by
  refine Eq.trans (mCall_eq (d := d + 1) rfl) ?_
  show mEv X (mCall mD X (d + 1)) 1 t_X1_tell (mDrop t_X1_tell 0) [some (mr i 10), some (mi x1), some (mi x2), none] [] (mU g i c) = _
  refine Eq.trans (e_X1_tell_0) ?_
  try simp only [mU_same, mU_mU]
  refine mw_cI (rr_J9_floorMod_7cf53 d (by first | decide | exact mne_pos (by assumption) | exact mne_pos2 (by assumption))) (fun v1 => ?_)
  refine Eq.trans (e_X1_tell_13) ?_
  try simp only [mU_same, mU_mU]
  refine mw_ite (fun _ => ?_) (fun _ => ?_)
  · refine Eq.trans (e_X1_tell_40) ?_
    try simp only [mU_same, mU_mU]
    refine mw_cI (rr_X5_cell_11 d) (fun v3 => ?_)
    refine Eq.trans (e_X1_tell_48) ?_
    try simp only [mU_same, mU_mU]
    all_goals rfl
  · refine mw_ite (fun _ => ?_) (fun _ => ?_)
    · refine Eq.trans (e_X1_tell_49) ?_
      try simp only [mU_same, mU_mU]
      refine mw_cI (rr_X5_cell_12 d) (fun v4 => ?_)
      refine Eq.trans (e_X1_tell_57) ?_
      try simp only [mU_same, mU_mU]
      all_goals rfl
    · refine Eq.trans (e_X1_tell_58) ?_
      try simp only [mU_same, mU_mU]
      refine mw_cI (rr_X5_cell_13 d) (fun v2 => ?_)
      refine Eq.trans (e_X1_tell_66) ?_
      try simp only [mU_same, mU_mU]
      all_goals rfl
theorem rr_X1_tell_at (d : Nat) {X : mX} {g : mG} {i : Nat} {x1 x2 : Int32} : mCall mD X (d + 2) 50 [mr i 10, mi x1, mi x2] g = wN g (P_X1_tell (g i) x1 x2) := by
  have h := rr_X1_tell (X := X) d (g := g) (c := g i) (x1 := x1) (x2 := x2) (i := i)
  rw [mU_self] at h
  exact h.trans (wI_self _ _ _)
theorem e_X5_isCycle_0 {X : mX} {call : Nat → List mV → mG → mR} {g : mG} {x0 : Int32} : mEv X call 2 t_X5_isCycle (mDrop t_X5_isCycle 0) [some (mi x0)] [] g = if x0 = 0 then mEv X call 2 t_X5_isCycle (mDrop t_X5_isCycle 17) [some (mi x0)] [] g else mEv X call 2 t_X5_isCycle (mDrop t_X5_isCycle 4) [some (mi x0)] [] g := (mEv_2 _ _ _ _).trans rfl
theorem e_X5_isCycle_17 {X : mX} {call : Nat → List mV → mG → mR} {g : mG} {x0 : Int32} : mEv X call 2 t_X5_isCycle (mDrop t_X5_isCycle 17) [some (mi x0)] [] g = mEv X call 2 t_X5_isCycle (mDrop t_X5_isCycle 22) [some (mi x0)] [mi 1] g := (mEv_2 _ _ _ _).trans rfl
theorem e_X5_isCycle_22 {X : mX} {call : Nat → List mV → mG → mR} {g : mG} {x0 s0 : Int32} : mEv X call 2 t_X5_isCycle (mDrop t_X5_isCycle 22) [some (mi x0)] [mi s0] g = if (s0 : Int32) &&& 1 = s0 then some (some (mi s0), g) else none := (mEv_1 _ _ _ _).trans rfl
noncomputable def J_X5_isCycle_17  : (Int32) := 1
theorem rj_X5_isCycle_17 (d : Nat) {X : mX} {g : mG} {x0 : Int32} : mEv X (mCall mD X (d + 0)) 2 t_X5_isCycle (mDrop t_X5_isCycle 17) [some (mi x0)] [] g = (wN g) (J_X5_isCycle_17 ) := by
  refine Eq.trans (e_X5_isCycle_17) ?_
  refine Eq.trans (e_X5_isCycle_22) ?_
  exact if_pos (by decide)
theorem e_X5_isCycle_4 {X : mX} {call : Nat → List mV → mG → mR} {g : mG} {x0 : Int32} : mEv X call 2 t_X5_isCycle (mDrop t_X5_isCycle 4) [some (mi x0)] [] g = if x0 < 20 then mEv X call 2 t_X5_isCycle (mDrop t_X5_isCycle 21) [some (mi x0)] [] g else mEv X call 2 t_X5_isCycle (mDrop t_X5_isCycle 10) [some (mi x0)] [] g := (mEv_3 _ _ _ _).trans rfl
theorem e_X5_isCycle_21 {X : mX} {call : Nat → List mV → mG → mR} {g : mG} {x0 : Int32} : mEv X call 2 t_X5_isCycle (mDrop t_X5_isCycle 21) [some (mi x0)] [] g = mEv X call 2 t_X5_isCycle (mDrop t_X5_isCycle 22) [some (mi x0)] [mi 0] g := (mEv_1 _ _ _ _).trans rfl
noncomputable def J_X5_isCycle_21  : (Int32) := 0
theorem rj_X5_isCycle_21 (d : Nat) {X : mX} {g : mG} {x0 : Int32} : mEv X (mCall mD X (d + 0)) 2 t_X5_isCycle (mDrop t_X5_isCycle 21) [some (mi x0)] [] g = (wN g) (J_X5_isCycle_21 ) := by
  refine Eq.trans (e_X5_isCycle_21) ?_
  refine Eq.trans (e_X5_isCycle_22) ?_
  exact if_pos (by decide)
theorem e_X5_isCycle_10 {X : mX} {call : Nat → List mV → mG → mR} {g : mG} {x0 : Int32} : mEv X call 2 t_X5_isCycle (mDrop t_X5_isCycle 10) [some (mi x0)] [] g = if 240 < x0 then mEv X call 2 t_X5_isCycle (mDrop t_X5_isCycle 21) [some (mi x0)] [] g else mEv X call 2 t_X5_isCycle (mDrop t_X5_isCycle 17) [some (mi x0)] [] g := (mEv_3 _ _ _ _).trans rfl
noncomputable def P_X5_isCycle (x0 : Int32) : (Int32) := (if x0 = 0 then (J_X5_isCycle_17 ) else (if x0 < 20 then (J_X5_isCycle_21 ) else (if 240 < x0 then (J_X5_isCycle_21 ) else (J_X5_isCycle_17 ))))
theorem rr_X5_isCycle (d : Nat) {X : mX} {g : mG} {x0 : Int32} : mCall mD X (d + 1) 138 [mi x0] g = (wN g) (P_X5_isCycle x0) := by
  refine Eq.trans (mCall_eq (d := d + 0) rfl) ?_
  show mEv X (mCall mD X (d + 0)) 2 t_X5_isCycle (mDrop t_X5_isCycle 0) [some (mi x0)] [] g = _
  refine Eq.trans (e_X5_isCycle_0) ?_
  refine mw_ite (fun h3 => ?_) (fun h3 => ?_)
  · exact rj_X5_isCycle_17 d
  · refine Eq.trans (e_X5_isCycle_4) ?_
    refine mw_ite (fun h2 => ?_) (fun h2 => ?_)
    · exact rj_X5_isCycle_21 d
    · refine Eq.trans (e_X5_isCycle_10) ?_
      refine mw_ite (fun h1 => ?_) (fun h1 => ?_)
      · exact rj_X5_isCycle_21 d
      · exact rj_X5_isCycle_17 d
theorem e_X5_isBreak_0 {X : mX} {call : Nat → List mV → mG → mR} {g : mG} {x0 : Int32} : mEv X call 2 t_X5_isBreak (mDrop t_X5_isBreak 0) [some (mi x0)] [] g = if x0 = 0 then mEv X call 2 t_X5_isBreak (mDrop t_X5_isBreak 9) [some (mi x0)] [] g else mEv X call 2 t_X5_isBreak (mDrop t_X5_isBreak 4) [some (mi x0)] [] g := (mEv_2 _ _ _ _).trans rfl
theorem e_X5_isBreak_9 {X : mX} {call : Nat → List mV → mG → mR} {g : mG} {x0 : Int32} : mEv X call 2 t_X5_isBreak (mDrop t_X5_isBreak 9) [some (mi x0)] [] g = mEv X call 2 t_X5_isBreak (mDrop t_X5_isBreak 14) [some (mi x0)] [mi 1] g := (mEv_2 _ _ _ _).trans rfl
theorem e_X5_isBreak_14 {X : mX} {call : Nat → List mV → mG → mR} {g : mG} {x0 s0 : Int32} : mEv X call 2 t_X5_isBreak (mDrop t_X5_isBreak 14) [some (mi x0)] [mi s0] g = if (s0 : Int32) &&& 1 = s0 then some (some (mi s0), g) else none := (mEv_1 _ _ _ _).trans rfl
noncomputable def J_X5_isBreak_9  : (Int32) := 1
theorem rj_X5_isBreak_9 (d : Nat) {X : mX} {g : mG} {x0 : Int32} : mEv X (mCall mD X (d + 0)) 2 t_X5_isBreak (mDrop t_X5_isBreak 9) [some (mi x0)] [] g = (wN g) (J_X5_isBreak_9 ) := by
  refine Eq.trans (e_X5_isBreak_9) ?_
  refine Eq.trans (e_X5_isBreak_14) ?_
  exact if_pos (by decide)
theorem e_X5_isBreak_4 {X : mX} {call : Nat → List mV → mG → mR} {g : mG} {x0 : Int32} : mEv X call 2 t_X5_isBreak (mDrop t_X5_isBreak 4) [some (mi x0)] [] g = if x0 = 1 then mEv X call 2 t_X5_isBreak (mDrop t_X5_isBreak 9) [some (mi x0)] [] g else mEv X call 2 t_X5_isBreak (mDrop t_X5_isBreak 13) [some (mi x0)] [] g := (mEv_3 _ _ _ _).trans rfl
theorem e_X5_isBreak_13 {X : mX} {call : Nat → List mV → mG → mR} {g : mG} {x0 : Int32} : mEv X call 2 t_X5_isBreak (mDrop t_X5_isBreak 13) [some (mi x0)] [] g = mEv X call 2 t_X5_isBreak (mDrop t_X5_isBreak 14) [some (mi x0)] [mi 0] g := (mEv_1 _ _ _ _).trans rfl
noncomputable def P_X5_isBreak (x0 : Int32) : (Int32) := (if x0 = 0 then (J_X5_isBreak_9 ) else (if x0 = 1 then (J_X5_isBreak_9 ) else 0))
theorem rr_X5_isBreak (d : Nat) {X : mX} {g : mG} {x0 : Int32} : mCall mD X (d + 1) 137 [mi x0] g = (wN g) (P_X5_isBreak x0) := by
  refine Eq.trans (mCall_eq (d := d + 0) rfl) ?_
  show mEv X (mCall mD X (d + 0)) 2 t_X5_isBreak (mDrop t_X5_isBreak 0) [some (mi x0)] [] g = _
  refine Eq.trans (e_X5_isBreak_0) ?_
  refine mw_ite (fun h2 => ?_) (fun h2 => ?_)
  · exact rj_X5_isBreak_9 d
  · refine Eq.trans (e_X5_isBreak_4) ?_
    refine mw_ite (fun h1 => ?_) (fun h1 => ?_)
    · exact rj_X5_isBreak_9 d
    · refine Eq.trans (e_X5_isBreak_13) ?_
      refine Eq.trans (e_X5_isBreak_14) ?_
      exact if_pos (by decide)
theorem e_X5_isOffset_0 {X : mX} {call : Nat → List mV → mG → mR} {g : mG} {x0 : Int32} : mEv X call 2 t_X5_isOffset (mDrop t_X5_isOffset 0) [some (mi x0)] [] g = if x0 < 0 then mEv X call 2 t_X5_isOffset (mDrop t_X5_isOffset 15) [some (mi x0)] [] g else mEv X call 2 t_X5_isOffset (mDrop t_X5_isOffset 4) [some (mi x0)] [] g := (mEv_2 _ _ _ _).trans rfl
theorem e_X5_isOffset_15 {X : mX} {call : Nat → List mV → mG → mR} {g : mG} {x0 : Int32} : mEv X call 2 t_X5_isOffset (mDrop t_X5_isOffset 15) [some (mi x0)] [] g = mEv X call 2 t_X5_isOffset (mDrop t_X5_isOffset 16) [some (mi x0)] [mi 0] g := (mEv_1 _ _ _ _).trans rfl
theorem e_X5_isOffset_16 {X : mX} {call : Nat → List mV → mG → mR} {g : mG} {x0 s0 : Int32} : mEv X call 2 t_X5_isOffset (mDrop t_X5_isOffset 16) [some (mi x0)] [mi s0] g = if (s0 : Int32) &&& 1 = s0 then some (some (mi s0), g) else none := (mEv_1 _ _ _ _).trans rfl
noncomputable def J_X5_isOffset_15  : (Int32) := 0
theorem rj_X5_isOffset_15 (d : Nat) {X : mX} {g : mG} {x0 : Int32} : mEv X (mCall mD X (d + 0)) 2 t_X5_isOffset (mDrop t_X5_isOffset 15) [some (mi x0)] [] g = (wN g) (J_X5_isOffset_15 ) := by
  refine Eq.trans (e_X5_isOffset_15) ?_
  refine Eq.trans (e_X5_isOffset_16) ?_
  exact if_pos (by decide)
theorem e_X5_isOffset_4 {X : mX} {call : Nat → List mV → mG → mR} {g : mG} {x0 : Int32} : mEv X call 2 t_X5_isOffset (mDrop t_X5_isOffset 4) [some (mi x0)] [] g = if 239 < x0 then mEv X call 2 t_X5_isOffset (mDrop t_X5_isOffset 15) [some (mi x0)] [] g else mEv X call 2 t_X5_isOffset (mDrop t_X5_isOffset 11) [some (mi x0)] [] g := (mEv_3 _ _ _ _).trans rfl
theorem e_X5_isOffset_11 {X : mX} {call : Nat → List mV → mG → mR} {g : mG} {x0 : Int32} : mEv X call 2 t_X5_isOffset (mDrop t_X5_isOffset 11) [some (mi x0)] [] g = mEv X call 2 t_X5_isOffset (mDrop t_X5_isOffset 16) [some (mi x0)] [mi 1] g := (mEv_2 _ _ _ _).trans rfl
noncomputable def P_X5_isOffset (x0 : Int32) : (Int32) := (if x0 < 0 then (J_X5_isOffset_15 ) else (if 239 < x0 then (J_X5_isOffset_15 ) else 1))
theorem rr_X5_isOffset (d : Nat) {X : mX} {g : mG} {x0 : Int32} : mCall mD X (d + 1) 139 [mi x0] g = (wN g) (P_X5_isOffset x0) := by
  refine Eq.trans (mCall_eq (d := d + 0) rfl) ?_
  show mEv X (mCall mD X (d + 0)) 2 t_X5_isOffset (mDrop t_X5_isOffset 0) [some (mi x0)] [] g = _
  refine Eq.trans (e_X5_isOffset_0) ?_
  refine mw_ite (fun h2 => ?_) (fun h2 => ?_)
  · exact rj_X5_isOffset_15 d
  · refine Eq.trans (e_X5_isOffset_4) ?_
    refine mw_ite (fun h1 => ?_) (fun h1 => ?_)
    · exact rj_X5_isOffset_15 d
    · refine Eq.trans (e_X5_isOffset_11) ?_
      refine Eq.trans (e_X5_isOffset_16) ?_
      exact if_pos (by decide)
theorem e_X5_isDwell_0 {X : mX} {call : Nat → List mV → mG → mR} {g : mG} {x0 : Int32} : mEv X call 2 t_X5_isDwell (mDrop t_X5_isDwell 0) [some (mi x0)] [] g = if x0 < 0 then mEv X call 2 t_X5_isDwell (mDrop t_X5_isDwell 14) [some (mi x0)] [] g else mEv X call 2 t_X5_isDwell (mDrop t_X5_isDwell 4) [some (mi x0)] [] g := (mEv_2 _ _ _ _).trans rfl
theorem e_X5_isDwell_14 {X : mX} {call : Nat → List mV → mG → mR} {g : mG} {x0 : Int32} : mEv X call 2 t_X5_isDwell (mDrop t_X5_isDwell 14) [some (mi x0)] [] g = mEv X call 2 t_X5_isDwell (mDrop t_X5_isDwell 15) [some (mi x0)] [mi 0] g := (mEv_1 _ _ _ _).trans rfl
theorem e_X5_isDwell_15 {X : mX} {call : Nat → List mV → mG → mR} {g : mG} {x0 s0 : Int32} : mEv X call 2 t_X5_isDwell (mDrop t_X5_isDwell 15) [some (mi x0)] [mi s0] g = if (s0 : Int32) &&& 1 = s0 then some (some (mi s0), g) else none := (mEv_1 _ _ _ _).trans rfl
noncomputable def J_X5_isDwell_14  : (Int32) := 0
theorem rj_X5_isDwell_14 (d : Nat) {X : mX} {g : mG} {x0 : Int32} : mEv X (mCall mD X (d + 0)) 2 t_X5_isDwell (mDrop t_X5_isDwell 14) [some (mi x0)] [] g = (wN g) (J_X5_isDwell_14 ) := by
  refine Eq.trans (e_X5_isDwell_14) ?_
  refine Eq.trans (e_X5_isDwell_15) ?_
  exact if_pos (by decide)
theorem e_X5_isDwell_4 {X : mX} {call : Nat → List mV → mG → mR} {g : mG} {x0 : Int32} : mEv X call 2 t_X5_isDwell (mDrop t_X5_isDwell 4) [some (mi x0)] [] g = if 30 < x0 then mEv X call 2 t_X5_isDwell (mDrop t_X5_isDwell 14) [some (mi x0)] [] g else mEv X call 2 t_X5_isDwell (mDrop t_X5_isDwell 10) [some (mi x0)] [] g := (mEv_3 _ _ _ _).trans rfl
theorem e_X5_isDwell_10 {X : mX} {call : Nat → List mV → mG → mR} {g : mG} {x0 : Int32} : mEv X call 2 t_X5_isDwell (mDrop t_X5_isDwell 10) [some (mi x0)] [] g = mEv X call 2 t_X5_isDwell (mDrop t_X5_isDwell 15) [some (mi x0)] [mi 1] g := (mEv_2 _ _ _ _).trans rfl
noncomputable def P_X5_isDwell (x0 : Int32) : (Int32) := (if x0 < 0 then (J_X5_isDwell_14 ) else (if 30 < x0 then (J_X5_isDwell_14 ) else 1))
theorem rr_X5_isDwell (d : Nat) {X : mX} {g : mG} {x0 : Int32} : mCall mD X (d + 1) 140 [mi x0] g = (wN g) (P_X5_isDwell x0) := by
  refine Eq.trans (mCall_eq (d := d + 0) rfl) ?_
  show mEv X (mCall mD X (d + 0)) 2 t_X5_isDwell (mDrop t_X5_isDwell 0) [some (mi x0)] [] g = _
  refine Eq.trans (e_X5_isDwell_0) ?_
  refine mw_ite (fun h2 => ?_) (fun h2 => ?_)
  · exact rj_X5_isDwell_14 d
  · refine Eq.trans (e_X5_isDwell_4) ?_
    refine mw_ite (fun h1 => ?_) (fun h1 => ?_)
    · exact rj_X5_isDwell_14 d
    · refine Eq.trans (e_X5_isDwell_10) ?_
      refine Eq.trans (e_X5_isDwell_15) ?_
      exact if_pos (by decide)
end
