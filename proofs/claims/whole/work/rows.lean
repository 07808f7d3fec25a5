section
-- ===== PART A: goes FIRST, ahead of the names: the tables' words, and 'selects' of the private methods out of them =====
/-- a private method of a class that the tables say can be made, by its rows of tables_1 -/
def lw_okq (q : MethodName × Nat) : Prop := (q.1.cls ≠ "java/lang/invoke/MethodHandle" ∧ q.1.cls ≠ "java/lang/invoke/VarHandle") ∧ Cond.instantiable q.1.cls q.2 ∈ tables_1 ∧ Cond.privateMethod q.1 ∈ tables_1 ∧ Cond.instanceMethod q.1 ∈ tables_1
theorem lw_p0 : lw_okq (⟨"RingedLights", "tapeFour", "(I)V"⟩, 11) := ⟨⟨by decide +kernel, by decide +kernel⟩, List.mem_of_getElem? (i := 15) (by decide +kernel), List.mem_of_getElem? (i := 320) (by decide +kernel), List.mem_of_getElem? (i := 321) (by decide +kernel)⟩
theorem lw_p1 : lw_okq (⟨"RingedLights", "refuse", "(I)I"⟩, 11) := ⟨⟨by decide +kernel, by decide +kernel⟩, List.mem_of_getElem? (i := 15) (by decide +kernel), List.mem_of_getElem? (i := 328) (by decide +kernel), List.mem_of_getElem? (i := 329) (by decide +kernel)⟩
theorem lw_p2 : lw_okq (⟨"RingedLights", "answer", "(I)I"⟩, 11) := ⟨⟨by decide +kernel, by decide +kernel⟩, List.mem_of_getElem? (i := 15) (by decide +kernel), List.mem_of_getElem? (i := 585) (by decide +kernel), List.mem_of_getElem? (i := 586) (by decide +kernel)⟩
theorem lw_p3 : lw_okq (⟨"RingedLights", "deny", "(I)Z"⟩, 11) := ⟨⟨by decide +kernel, by decide +kernel⟩, List.mem_of_getElem? (i := 15) (by decide +kernel), List.mem_of_getElem? (i := 738) (by decide +kernel), List.mem_of_getElem? (i := 739) (by decide +kernel)⟩
theorem lw_p4 : lw_okq (⟨"RingedLights", "grant", "()Z"⟩, 11) := ⟨⟨by decide +kernel, by decide +kernel⟩, List.mem_of_getElem? (i := 15) (by decide +kernel), List.mem_of_getElem? (i := 750) (by decide +kernel), List.mem_of_getElem? (i := 751) (by decide +kernel)⟩
theorem lw_p5 : lw_okq (⟨"RingedLights", "keptAt", "(I)LRingedLights$Crossing;"⟩, 11) := ⟨⟨by decide +kernel, by decide +kernel⟩, List.mem_of_getElem? (i := 15) (by decide +kernel), List.mem_of_getElem? (i := 945) (by decide +kernel), List.mem_of_getElem? (i := 946) (by decide +kernel)⟩
theorem lw_p6 : lw_okq (⟨"RingedLights", "ticksUntil", "(II)I"⟩, 11) := ⟨⟨by decide +kernel, by decide +kernel⟩, List.mem_of_getElem? (i := 15) (by decide +kernel), List.mem_of_getElem? (i := 990) (by decide +kernel), List.mem_of_getElem? (i := 991) (by decide +kernel)⟩
theorem lw_p7 : lw_okq (⟨"RingedLightsModel", "begins", "()V"⟩, 21) := ⟨⟨by decide +kernel, by decide +kernel⟩, List.mem_of_getElem? (i := 1031) (by decide +kernel), List.mem_of_getElem? (i := 1037) (by decide +kernel), List.mem_of_getElem? (i := 1038) (by decide +kernel)⟩
theorem lw_p8 : lw_okq (⟨"RingedLightsModel", "puts", "(II)V"⟩, 21) := ⟨⟨by decide +kernel, by decide +kernel⟩, List.mem_of_getElem? (i := 1031) (by decide +kernel), List.mem_of_getElem? (i := 1041) (by decide +kernel), List.mem_of_getElem? (i := 1042) (by decide +kernel)⟩
theorem lw_p9 : lw_okq (⟨"RingedLightsModel", "starts", "()V"⟩, 21) := ⟨⟨by decide +kernel, by decide +kernel⟩, List.mem_of_getElem? (i := 1031) (by decide +kernel), List.mem_of_getElem? (i := 1045) (by decide +kernel), List.mem_of_getElem? (i := 1046) (by decide +kernel)⟩
theorem lw_p10 : lw_okq (⟨"RingedLightsModel", "firstOf", "(IIIZ)I"⟩, 21) := ⟨⟨by decide +kernel, by decide +kernel⟩, List.mem_of_getElem? (i := 1031) (by decide +kernel), List.mem_of_getElem? (i := 1049) (by decide +kernel), List.mem_of_getElem? (i := 1050) (by decide +kernel)⟩
theorem lw_p11 : lw_okq (⟨"RingedLightsModel", "of", "(I)I"⟩, 21) := ⟨⟨by decide +kernel, by decide +kernel⟩, List.mem_of_getElem? (i := 1031) (by decide +kernel), List.mem_of_getElem? (i := 1053) (by decide +kernel), List.mem_of_getElem? (i := 1054) (by decide +kernel)⟩
theorem lw_p12 : lw_okq (⟨"RingedLightsModel", "ofPhase", "(II)I"⟩, 21) := ⟨⟨by decide +kernel, by decide +kernel⟩, List.mem_of_getElem? (i := 1031) (by decide +kernel), List.mem_of_getElem? (i := 1057) (by decide +kernel), List.mem_of_getElem? (i := 1058) (by decide +kernel)⟩
theorem lw_p13 : lw_okq (⟨"RingedLightsModel", "isAsked", "(I)Z"⟩, 21) := ⟨⟨by decide +kernel, by decide +kernel⟩, List.mem_of_getElem? (i := 1031) (by decide +kernel), List.mem_of_getElem? (i := 1061) (by decide +kernel), List.mem_of_getElem? (i := 1062) (by decide +kernel)⟩
theorem lw_p14 : lw_okq (⟨"RingedLightsModel", "isCalled", "(I)Z"⟩, 21) := ⟨⟨by decide +kernel, by decide +kernel⟩, List.mem_of_getElem? (i := 1031) (by decide +kernel), List.mem_of_getElem? (i := 1065) (by decide +kernel), List.mem_of_getElem? (i := 1066) (by decide +kernel)⟩
theorem lw_p15 : lw_okq (⟨"RingedLightsModel", "mark", "(II)I"⟩, 21) := ⟨⟨by decide +kernel, by decide +kernel⟩, List.mem_of_getElem? (i := 1031) (by decide +kernel), List.mem_of_getElem? (i := 1069) (by decide +kernel), List.mem_of_getElem? (i := 1070) (by decide +kernel)⟩
def lw_privs_1 : List (MethodName × Nat) := [(⟨"RingedLights", "tapeFour", "(I)V"⟩, 11), (⟨"RingedLights", "refuse", "(I)I"⟩, 11), (⟨"RingedLights", "answer", "(I)I"⟩, 11), (⟨"RingedLights", "deny", "(I)Z"⟩, 11), (⟨"RingedLights", "grant", "()Z"⟩, 11), (⟨"RingedLights", "keptAt", "(I)LRingedLights$Crossing;"⟩, 11), (⟨"RingedLights", "ticksUntil", "(II)I"⟩, 11), (⟨"RingedLightsModel", "begins", "()V"⟩, 21), (⟨"RingedLightsModel", "puts", "(II)V"⟩, 21), (⟨"RingedLightsModel", "starts", "()V"⟩, 21), (⟨"RingedLightsModel", "firstOf", "(IIIZ)I"⟩, 21), (⟨"RingedLightsModel", "of", "(I)I"⟩, 21), (⟨"RingedLightsModel", "ofPhase", "(II)I"⟩, 21), (⟨"RingedLightsModel", "isAsked", "(I)Z"⟩, 21), (⟨"RingedLightsModel", "isCalled", "(I)Z"⟩, 21), (⟨"RingedLightsModel", "mark", "(II)I"⟩, 21)]
theorem lw_r1 : ∀ q ∈ lw_privs_1, lw_okq q := List.forall_mem_cons.mpr ⟨lw_p0, List.forall_mem_cons.mpr ⟨lw_p1, List.forall_mem_cons.mpr ⟨lw_p2, List.forall_mem_cons.mpr ⟨lw_p3, List.forall_mem_cons.mpr ⟨lw_p4, List.forall_mem_cons.mpr ⟨lw_p5, List.forall_mem_cons.mpr ⟨lw_p6, List.forall_mem_cons.mpr ⟨lw_p7, List.forall_mem_cons.mpr ⟨lw_p8, List.forall_mem_cons.mpr ⟨lw_p9, List.forall_mem_cons.mpr ⟨lw_p10, List.forall_mem_cons.mpr ⟨lw_p11, List.forall_mem_cons.mpr ⟨lw_p12, List.forall_mem_cons.mpr ⟨lw_p13, List.forall_mem_cons.mpr ⟨lw_p14, List.forall_mem_cons.mpr ⟨lw_p15, fun _ h => absurd h List.not_mem_nil⟩⟩⟩⟩⟩⟩⟩⟩⟩⟩⟩⟩⟩⟩⟩⟩
theorem lw_p16 : lw_okq (⟨"RingedLightsModel", "isOnFoot", "(I)Z"⟩, 21) := ⟨⟨by decide +kernel, by decide +kernel⟩, List.mem_of_getElem? (i := 1031) (by decide +kernel), List.mem_of_getElem? (i := 1073) (by decide +kernel), List.mem_of_getElem? (i := 1074) (by decide +kernel)⟩
theorem lw_p17 : lw_okq (⟨"RingedLightsModel", "clearsRing", "(I)V"⟩, 21) := ⟨⟨by decide +kernel, by decide +kernel⟩, List.mem_of_getElem? (i := 1031) (by decide +kernel), List.mem_of_getElem? (i := 1077) (by decide +kernel), List.mem_of_getElem? (i := 1078) (by decide +kernel)⟩
theorem lw_p18 : lw_okq (⟨"RingedLightsModel", "putsRing", "(III)V"⟩, 21) := ⟨⟨by decide +kernel, by decide +kernel⟩, List.mem_of_getElem? (i := 1031) (by decide +kernel), List.mem_of_getElem? (i := 1081) (by decide +kernel), List.mem_of_getElem? (i := 1082) (by decide +kernel)⟩
theorem lw_p19 : lw_okq (⟨"RingedLightsModel", "four", "(I)V"⟩, 21) := ⟨⟨by decide +kernel, by decide +kernel⟩, List.mem_of_getElem? (i := 1031) (by decide +kernel), List.mem_of_getElem? (i := 1160) (by decide +kernel), List.mem_of_getElem? (i := 1161) (by decide +kernel)⟩
theorem lw_p20 : lw_okq (⟨"RingedLightsModel", "refuse", "(I)I"⟩, 21) := ⟨⟨by decide +kernel, by decide +kernel⟩, List.mem_of_getElem? (i := 1031) (by decide +kernel), List.mem_of_getElem? (i := 1171) (by decide +kernel), List.mem_of_getElem? (i := 1172) (by decide +kernel)⟩
theorem lw_p21 : lw_okq (⟨"RingedLightsModel", "copies", "(II)V"⟩, 21) := ⟨⟨by decide +kernel, by decide +kernel⟩, List.mem_of_getElem? (i := 1031) (by decide +kernel), List.mem_of_getElem? (i := 1175) (by decide +kernel), List.mem_of_getElem? (i := 1176) (by decide +kernel)⟩
theorem lw_p22 : lw_okq (⟨"RingedLightsModel", "ahead", "()V"⟩, 21) := ⟨⟨by decide +kernel, by decide +kernel⟩, List.mem_of_getElem? (i := 1031) (by decide +kernel), List.mem_of_getElem? (i := 1179) (by decide +kernel), List.mem_of_getElem? (i := 1180) (by decide +kernel)⟩
theorem lw_p23 : lw_okq (⟨"RingedLightsModel", "byteAt", "(I)I"⟩, 21) := ⟨⟨by decide +kernel, by decide +kernel⟩, List.mem_of_getElem? (i := 1031) (by decide +kernel), List.mem_of_getElem? (i := 1183) (by decide +kernel), List.mem_of_getElem? (i := 1184) (by decide +kernel)⟩
theorem lw_p24 : lw_okq (⟨"RingedLightsModel", "aLine", "()Z"⟩, 21) := ⟨⟨by decide +kernel, by decide +kernel⟩, List.mem_of_getElem? (i := 1031) (by decide +kernel), List.mem_of_getElem? (i := 1194) (by decide +kernel), List.mem_of_getElem? (i := 1195) (by decide +kernel)⟩
theorem lw_p25 : lw_okq (⟨"RingedLightsModel", "key", "()I"⟩, 21) := ⟨⟨by decide +kernel, by decide +kernel⟩, List.mem_of_getElem? (i := 1031) (by decide +kernel), List.mem_of_getElem? (i := 1198) (by decide +kernel), List.mem_of_getElem? (i := 1199) (by decide +kernel)⟩
theorem lw_p26 : lw_okq (⟨"RingedLightsModel", "aPhase", "()Z"⟩, 21) := ⟨⟨by decide +kernel, by decide +kernel⟩, List.mem_of_getElem? (i := 1031) (by decide +kernel), List.mem_of_getElem? (i := 1205) (by decide +kernel), List.mem_of_getElem? (i := 1206) (by decide +kernel)⟩
theorem lw_p27 : lw_okq (⟨"RingedLightsModel", "fails", "(I)Z"⟩, 21) := ⟨⟨by decide +kernel, by decide +kernel⟩, List.mem_of_getElem? (i := 1031) (by decide +kernel), List.mem_of_getElem? (i := 1209) (by decide +kernel), List.mem_of_getElem? (i := 1210) (by decide +kernel)⟩
theorem lw_p28 : lw_okq (⟨"RingedLightsModel", "takesNumber", "(II)Z"⟩, 21) := ⟨⟨by decide +kernel, by decide +kernel⟩, List.mem_of_getElem? (i := 1031) (by decide +kernel), List.mem_of_getElem? (i := 1213) (by decide +kernel), List.mem_of_getElem? (i := 1214) (by decide +kernel)⟩
theorem lw_p29 : lw_okq (⟨"RingedLightsModel", "takes", "()Z"⟩, 21) := ⟨⟨by decide +kernel, by decide +kernel⟩, List.mem_of_getElem? (i := 1031) (by decide +kernel), List.mem_of_getElem? (i := 1217) (by decide +kernel), List.mem_of_getElem? (i := 1218) (by decide +kernel)⟩
theorem lw_p30 : lw_okq (⟨"RingedLightsModel", "putsPhase", "(III)V"⟩, 21) := ⟨⟨by decide +kernel, by decide +kernel⟩, List.mem_of_getElem? (i := 1031) (by decide +kernel), List.mem_of_getElem? (i := 1221) (by decide +kernel), List.mem_of_getElem? (i := 1222) (by decide +kernel)⟩
theorem lw_p31 : lw_okq (⟨"RingedLightsModel", "adds", "(II)V"⟩, 21) := ⟨⟨by decide +kernel, by decide +kernel⟩, List.mem_of_getElem? (i := 1031) (by decide +kernel), List.mem_of_getElem? (i := 1234) (by decide +kernel), List.mem_of_getElem? (i := 1235) (by decide +kernel)⟩
def lw_privs_2 : List (MethodName × Nat) := [(⟨"RingedLightsModel", "isOnFoot", "(I)Z"⟩, 21), (⟨"RingedLightsModel", "clearsRing", "(I)V"⟩, 21), (⟨"RingedLightsModel", "putsRing", "(III)V"⟩, 21), (⟨"RingedLightsModel", "four", "(I)V"⟩, 21), (⟨"RingedLightsModel", "refuse", "(I)I"⟩, 21), (⟨"RingedLightsModel", "copies", "(II)V"⟩, 21), (⟨"RingedLightsModel", "ahead", "()V"⟩, 21), (⟨"RingedLightsModel", "byteAt", "(I)I"⟩, 21), (⟨"RingedLightsModel", "aLine", "()Z"⟩, 21), (⟨"RingedLightsModel", "key", "()I"⟩, 21), (⟨"RingedLightsModel", "aPhase", "()Z"⟩, 21), (⟨"RingedLightsModel", "fails", "(I)Z"⟩, 21), (⟨"RingedLightsModel", "takesNumber", "(II)Z"⟩, 21), (⟨"RingedLightsModel", "takes", "()Z"⟩, 21), (⟨"RingedLightsModel", "putsPhase", "(III)V"⟩, 21), (⟨"RingedLightsModel", "adds", "(II)V"⟩, 21)]
theorem lw_r2 : ∀ q ∈ lw_privs_2, lw_okq q := List.forall_mem_cons.mpr ⟨lw_p16, List.forall_mem_cons.mpr ⟨lw_p17, List.forall_mem_cons.mpr ⟨lw_p18, List.forall_mem_cons.mpr ⟨lw_p19, List.forall_mem_cons.mpr ⟨lw_p20, List.forall_mem_cons.mpr ⟨lw_p21, List.forall_mem_cons.mpr ⟨lw_p22, List.forall_mem_cons.mpr ⟨lw_p23, List.forall_mem_cons.mpr ⟨lw_p24, List.forall_mem_cons.mpr ⟨lw_p25, List.forall_mem_cons.mpr ⟨lw_p26, List.forall_mem_cons.mpr ⟨lw_p27, List.forall_mem_cons.mpr ⟨lw_p28, List.forall_mem_cons.mpr ⟨lw_p29, List.forall_mem_cons.mpr ⟨lw_p30, List.forall_mem_cons.mpr ⟨lw_p31, fun _ h => absurd h List.not_mem_nil⟩⟩⟩⟩⟩⟩⟩⟩⟩⟩⟩⟩⟩⟩⟩⟩
theorem lw_p32 : lw_okq (⟨"RingedLightsModel", "aClock", "(I)Z"⟩, 21) := ⟨⟨by decide +kernel, by decide +kernel⟩, List.mem_of_getElem? (i := 1031) (by decide +kernel), List.mem_of_getElem? (i := 1238) (by decide +kernel), List.mem_of_getElem? (i := 1239) (by decide +kernel)⟩
theorem lw_p33 : lw_okq (⟨"RingedLightsModel", "aBreak", "()Z"⟩, 21) := ⟨⟨by decide +kernel, by decide +kernel⟩, List.mem_of_getElem? (i := 1031) (by decide +kernel), List.mem_of_getElem? (i := 1245) (by decide +kernel), List.mem_of_getElem? (i := 1246) (by decide +kernel)⟩
theorem lw_p34 : lw_okq (⟨"RingedLightsModel", "aGoal", "(II)Z"⟩, 21) := ⟨⟨by decide +kernel, by decide +kernel⟩, List.mem_of_getElem? (i := 1031) (by decide +kernel), List.mem_of_getElem? (i := 1249) (by decide +kernel), List.mem_of_getElem? (i := 1250) (by decide +kernel)⟩
theorem lw_p35 : lw_okq (⟨"RingedLightsModel", "takesWord", "(I)Z"⟩, 21) := ⟨⟨by decide +kernel, by decide +kernel⟩, List.mem_of_getElem? (i := 1031) (by decide +kernel), List.mem_of_getElem? (i := 1253) (by decide +kernel), List.mem_of_getElem? (i := 1254) (by decide +kernel)⟩
theorem lw_p36 : lw_okq (⟨"RingedLightsModel", "aSet", "()Z"⟩, 21) := ⟨⟨by decide +kernel, by decide +kernel⟩, List.mem_of_getElem? (i := 1031) (by decide +kernel), List.mem_of_getElem? (i := 1257) (by decide +kernel), List.mem_of_getElem? (i := 1258) (by decide +kernel)⟩
theorem lw_p37 : lw_okq (⟨"RingedLightsModel", "isPeace", "(I)Z"⟩, 21) := ⟨⟨by decide +kernel, by decide +kernel⟩, List.mem_of_getElem? (i := 1031) (by decide +kernel), List.mem_of_getElem? (i := 1261) (by decide +kernel), List.mem_of_getElem? (i := 1262) (by decide +kernel)⟩
theorem lw_p38 : lw_okq (⟨"RingedLightsModel", "foesOf", "(I)I"⟩, 21) := ⟨⟨by decide +kernel, by decide +kernel⟩, List.mem_of_getElem? (i := 1031) (by decide +kernel), List.mem_of_getElem? (i := 1265) (by decide +kernel), List.mem_of_getElem? (i := 1266) (by decide +kernel)⟩
theorem lw_p39 : lw_okq (⟨"RingedLightsModel", "areFoes", "(II)Z"⟩, 21) := ⟨⟨by decide +kernel, by decide +kernel⟩, List.mem_of_getElem? (i := 1031) (by decide +kernel), List.mem_of_getElem? (i := 1269) (by decide +kernel), List.mem_of_getElem? (i := 1270) (by decide +kernel)⟩
theorem lw_p40 : lw_okq (⟨"RingedLightsModel", "gives", "(I)I"⟩, 21) := ⟨⟨by decide +kernel, by decide +kernel⟩, List.mem_of_getElem? (i := 1031) (by decide +kernel), List.mem_of_getElem? (i := 1273) (by decide +kernel), List.mem_of_getElem? (i := 1274) (by decide +kernel)⟩
theorem lw_p41 : lw_okq (⟨"RingedLightsModel", "ofRing", "(II)I"⟩, 21) := ⟨⟨by decide +kernel, by decide +kernel⟩, List.mem_of_getElem? (i := 1031) (by decide +kernel), List.mem_of_getElem? (i := 1289) (by decide +kernel), List.mem_of_getElem? (i := 1290) (by decide +kernel)⟩
theorem lw_p42 : lw_okq (⟨"RingedLightsModel", "isGreen", "(I)Z"⟩, 21) := ⟨⟨by decide +kernel, by decide +kernel⟩, List.mem_of_getElem? (i := 1031) (by decide +kernel), List.mem_of_getElem? (i := 1293) (by decide +kernel), List.mem_of_getElem? (i := 1294) (by decide +kernel)⟩
theorem lw_p43 : lw_okq (⟨"RingedLightsModel", "isDone", "(I)Z"⟩, 21) := ⟨⟨by decide +kernel, by decide +kernel⟩, List.mem_of_getElem? (i := 1031) (by decide +kernel), List.mem_of_getElem? (i := 1297) (by decide +kernel), List.mem_of_getElem? (i := 1298) (by decide +kernel)⟩
theorem lw_p44 : lw_okq (⟨"RingedLightsModel", "isForced", "(I)Z"⟩, 21) := ⟨⟨by decide +kernel, by decide +kernel⟩, List.mem_of_getElem? (i := 1031) (by decide +kernel), List.mem_of_getElem? (i := 1301) (by decide +kernel), List.mem_of_getElem? (i := 1302) (by decide +kernel)⟩
theorem lw_p45 : lw_okq (⟨"RingedLightsModel", "endOf", "(I)I"⟩, 21) := ⟨⟨by decide +kernel, by decide +kernel⟩, List.mem_of_getElem? (i := 1031) (by decide +kernel), List.mem_of_getElem? (i := 1305) (by decide +kernel), List.mem_of_getElem? (i := 1306) (by decide +kernel)⟩
theorem lw_p46 : lw_okq (⟨"RingedLightsModel", "isFirst", "(I)Z"⟩, 21) := ⟨⟨by decide +kernel, by decide +kernel⟩, List.mem_of_getElem? (i := 1031) (by decide +kernel), List.mem_of_getElem? (i := 1312) (by decide +kernel), List.mem_of_getElem? (i := 1313) (by decide +kernel)⟩
theorem lw_p47 : lw_okq (⟨"RingedLightsModel", "isPhase", "(I)Z"⟩, 21) := ⟨⟨by decide +kernel, by decide +kernel⟩, List.mem_of_getElem? (i := 1031) (by decide +kernel), List.mem_of_getElem? (i := 1320) (by decide +kernel), List.mem_of_getElem? (i := 1321) (by decide +kernel)⟩
def lw_privs_3 : List (MethodName × Nat) := [(⟨"RingedLightsModel", "aClock", "(I)Z"⟩, 21), (⟨"RingedLightsModel", "aBreak", "()Z"⟩, 21), (⟨"RingedLightsModel", "aGoal", "(II)Z"⟩, 21), (⟨"RingedLightsModel", "takesWord", "(I)Z"⟩, 21), (⟨"RingedLightsModel", "aSet", "()Z"⟩, 21), (⟨"RingedLightsModel", "isPeace", "(I)Z"⟩, 21), (⟨"RingedLightsModel", "foesOf", "(I)I"⟩, 21), (⟨"RingedLightsModel", "areFoes", "(II)Z"⟩, 21), (⟨"RingedLightsModel", "gives", "(I)I"⟩, 21), (⟨"RingedLightsModel", "ofRing", "(II)I"⟩, 21), (⟨"RingedLightsModel", "isGreen", "(I)Z"⟩, 21), (⟨"RingedLightsModel", "isDone", "(I)Z"⟩, 21), (⟨"RingedLightsModel", "isForced", "(I)Z"⟩, 21), (⟨"RingedLightsModel", "endOf", "(I)I"⟩, 21), (⟨"RingedLightsModel", "isFirst", "(I)Z"⟩, 21), (⟨"RingedLightsModel", "isPhase", "(I)Z"⟩, 21)]
theorem lw_r3 : ∀ q ∈ lw_privs_3, lw_okq q := List.forall_mem_cons.mpr ⟨lw_p32, List.forall_mem_cons.mpr ⟨lw_p33, List.forall_mem_cons.mpr ⟨lw_p34, List.forall_mem_cons.mpr ⟨lw_p35, List.forall_mem_cons.mpr ⟨lw_p36, List.forall_mem_cons.mpr ⟨lw_p37, List.forall_mem_cons.mpr ⟨lw_p38, List.forall_mem_cons.mpr ⟨lw_p39, List.forall_mem_cons.mpr ⟨lw_p40, List.forall_mem_cons.mpr ⟨lw_p41, List.forall_mem_cons.mpr ⟨lw_p42, List.forall_mem_cons.mpr ⟨lw_p43, List.forall_mem_cons.mpr ⟨lw_p44, List.forall_mem_cons.mpr ⟨lw_p45, List.forall_mem_cons.mpr ⟨lw_p46, List.forall_mem_cons.mpr ⟨lw_p47, fun _ h => absurd h List.not_mem_nil⟩⟩⟩⟩⟩⟩⟩⟩⟩⟩⟩⟩⟩⟩⟩⟩
theorem lw_p48 : lw_okq (⟨"RingedLightsModel", "lampOf", "(I)I"⟩, 21) := ⟨⟨by decide +kernel, by decide +kernel⟩, List.mem_of_getElem? (i := 1031) (by decide +kernel), List.mem_of_getElem? (i := 1324) (by decide +kernel), List.mem_of_getElem? (i := 1325) (by decide +kernel)⟩
theorem lw_p49 : lw_okq (⟨"RingedLightsModel", "isHolding", "(I)Z"⟩, 21) := ⟨⟨by decide +kernel, by decide +kernel⟩, List.mem_of_getElem? (i := 1031) (by decide +kernel), List.mem_of_getElem? (i := 1328) (by decide +kernel), List.mem_of_getElem? (i := 1329) (by decide +kernel)⟩
theorem lw_p50 : lw_okq (⟨"RingedLightsModel", "ofBreak", "(II)I"⟩, 21) := ⟨⟨by decide +kernel, by decide +kernel⟩, List.mem_of_getElem? (i := 1031) (by decide +kernel), List.mem_of_getElem? (i := 1340) (by decide +kernel), List.mem_of_getElem? (i := 1341) (by decide +kernel)⟩
theorem lw_p51 : lw_okq (⟨"RingedLightsModel", "goneAll", "()I"⟩, 21) := ⟨⟨by decide +kernel, by decide +kernel⟩, List.mem_of_getElem? (i := 1031) (by decide +kernel), List.mem_of_getElem? (i := 1348) (by decide +kernel), List.mem_of_getElem? (i := 1349) (by decide +kernel)⟩
theorem lw_p52 : lw_okq (⟨"RingedLightsModel", "queues", "()I"⟩, 21) := ⟨⟨by decide +kernel, by decide +kernel⟩, List.mem_of_getElem? (i := 1031) (by decide +kernel), List.mem_of_getElem? (i := 1352) (by decide +kernel), List.mem_of_getElem? (i := 1353) (by decide +kernel)⟩
theorem lw_p53 : lw_okq (⟨"RingedLightsModel", "greatest", "()I"⟩, 21) := ⟨⟨by decide +kernel, by decide +kernel⟩, List.mem_of_getElem? (i := 1031) (by decide +kernel), List.mem_of_getElem? (i := 1356) (by decide +kernel), List.mem_of_getElem? (i := 1357) (by decide +kernel)⟩
theorem lw_p54 : lw_okq (⟨"RingedLightsModel", "shown", "()I"⟩, 21) := ⟨⟨by decide +kernel, by decide +kernel⟩, List.mem_of_getElem? (i := 1031) (by decide +kernel), List.mem_of_getElem? (i := 1360) (by decide +kernel), List.mem_of_getElem? (i := 1361) (by decide +kernel)⟩
theorem lw_p55 : lw_okq (⟨"RingedLightsModel", "isSo", "(I)Z"⟩, 21) := ⟨⟨by decide +kernel, by decide +kernel⟩, List.mem_of_getElem? (i := 1031) (by decide +kernel), List.mem_of_getElem? (i := 1380) (by decide +kernel), List.mem_of_getElem? (i := 1381) (by decide +kernel)⟩
theorem lw_p56 : lw_okq (⟨"RingedLightsModel", "calls", "(I)V"⟩, 21) := ⟨⟨by decide +kernel, by decide +kernel⟩, List.mem_of_getElem? (i := 1031) (by decide +kernel), List.mem_of_getElem? (i := 1384) (by decide +kernel), List.mem_of_getElem? (i := 1385) (by decide +kernel)⟩
theorem lw_p57 : lw_okq (⟨"RingedLightsModel", "isWanted", "(IZ)Z"⟩, 21) := ⟨⟨by decide +kernel, by decide +kernel⟩, List.mem_of_getElem? (i := 1031) (by decide +kernel), List.mem_of_getElem? (i := 1396) (by decide +kernel), List.mem_of_getElem? (i := 1397) (by decide +kernel)⟩
theorem lw_p58 : lw_okq (⟨"RingedLightsModel", "isSet", "(I)Z"⟩, 21) := ⟨⟨by decide +kernel, by decide +kernel⟩, List.mem_of_getElem? (i := 1031) (by decide +kernel), List.mem_of_getElem? (i := 1408) (by decide +kernel), List.mem_of_getElem? (i := 1409) (by decide +kernel)⟩
theorem lw_p59 : lw_okq (⟨"RingedLightsModel", "happens", "(II)V"⟩, 21) := ⟨⟨by decide +kernel, by decide +kernel⟩, List.mem_of_getElem? (i := 1031) (by decide +kernel), List.mem_of_getElem? (i := 1420) (by decide +kernel), List.mem_of_getElem? (i := 1421) (by decide +kernel)⟩
theorem lw_p60 : lw_okq (⟨"RingedLightsModel", "ticks", "(Z)V"⟩, 21) := ⟨⟨by decide +kernel, by decide +kernel⟩, List.mem_of_getElem? (i := 1031) (by decide +kernel), List.mem_of_getElem? (i := 1428) (by decide +kernel), List.mem_of_getElem? (i := 1429) (by decide +kernel)⟩
theorem lw_p61 : lw_okq (⟨"RingedLightsModel", "comers", "()V"⟩, 21) := ⟨⟨by decide +kernel, by decide +kernel⟩, List.mem_of_getElem? (i := 1031) (by decide +kernel), List.mem_of_getElem? (i := 1432) (by decide +kernel), List.mem_of_getElem? (i := 1433) (by decide +kernel)⟩
theorem lw_p62 : lw_okq (⟨"RingedLightsModel", "drawBy", "(I)I"⟩, 21) := ⟨⟨by decide +kernel, by decide +kernel⟩, List.mem_of_getElem? (i := 1031) (by decide +kernel), List.mem_of_getElem? (i := 1436) (by decide +kernel), List.mem_of_getElem? (i := 1437) (by decide +kernel)⟩
theorem lw_p63 : lw_okq (⟨"RingedLightsModel", "clockGoes", "()V"⟩, 21) := ⟨⟨by decide +kernel, by decide +kernel⟩, List.mem_of_getElem? (i := 1031) (by decide +kernel), List.mem_of_getElem? (i := 1443) (by decide +kernel), List.mem_of_getElem? (i := 1444) (by decide +kernel)⟩
def lw_privs_4 : List (MethodName × Nat) := [(⟨"RingedLightsModel", "lampOf", "(I)I"⟩, 21), (⟨"RingedLightsModel", "isHolding", "(I)Z"⟩, 21), (⟨"RingedLightsModel", "ofBreak", "(II)I"⟩, 21), (⟨"RingedLightsModel", "goneAll", "()I"⟩, 21), (⟨"RingedLightsModel", "queues", "()I"⟩, 21), (⟨"RingedLightsModel", "greatest", "()I"⟩, 21), (⟨"RingedLightsModel", "shown", "()I"⟩, 21), (⟨"RingedLightsModel", "isSo", "(I)Z"⟩, 21), (⟨"RingedLightsModel", "calls", "(I)V"⟩, 21), (⟨"RingedLightsModel", "isWanted", "(IZ)Z"⟩, 21), (⟨"RingedLightsModel", "isSet", "(I)Z"⟩, 21), (⟨"RingedLightsModel", "happens", "(II)V"⟩, 21), (⟨"RingedLightsModel", "ticks", "(Z)V"⟩, 21), (⟨"RingedLightsModel", "comers", "()V"⟩, 21), (⟨"RingedLightsModel", "drawBy", "(I)I"⟩, 21), (⟨"RingedLightsModel", "clockGoes", "()V"⟩, 21)]
theorem lw_r4 : ∀ q ∈ lw_privs_4, lw_okq q := List.forall_mem_cons.mpr ⟨lw_p48, List.forall_mem_cons.mpr ⟨lw_p49, List.forall_mem_cons.mpr ⟨lw_p50, List.forall_mem_cons.mpr ⟨lw_p51, List.forall_mem_cons.mpr ⟨lw_p52, List.forall_mem_cons.mpr ⟨lw_p53, List.forall_mem_cons.mpr ⟨lw_p54, List.forall_mem_cons.mpr ⟨lw_p55, List.forall_mem_cons.mpr ⟨lw_p56, List.forall_mem_cons.mpr ⟨lw_p57, List.forall_mem_cons.mpr ⟨lw_p58, List.forall_mem_cons.mpr ⟨lw_p59, List.forall_mem_cons.mpr ⟨lw_p60, List.forall_mem_cons.mpr ⟨lw_p61, List.forall_mem_cons.mpr ⟨lw_p62, List.forall_mem_cons.mpr ⟨lw_p63, fun _ h => absurd h List.not_mem_nil⟩⟩⟩⟩⟩⟩⟩⟩⟩⟩⟩⟩⟩⟩⟩⟩
theorem lw_p64 : lw_okq (⟨"RingedLightsModel", "due", "()I"⟩, 21) := ⟨⟨by decide +kernel, by decide +kernel⟩, List.mem_of_getElem? (i := 1031) (by decide +kernel), List.mem_of_getElem? (i := 1447) (by decide +kernel), List.mem_of_getElem? (i := 1448) (by decide +kernel)⟩
theorem lw_p65 : lw_okq (⟨"RingedLightsModel", "ringGoes", "(I)V"⟩, 21) := ⟨⟨by decide +kernel, by decide +kernel⟩, List.mem_of_getElem? (i := 1031) (by decide +kernel), List.mem_of_getElem? (i := 1451) (by decide +kernel), List.mem_of_getElem? (i := 1452) (by decide +kernel)⟩
theorem lw_p66 : lw_okq (⟨"RingedLightsModel", "greenGoes", "(I)V"⟩, 21) := ⟨⟨by decide +kernel, by decide +kernel⟩, List.mem_of_getElem? (i := 1031) (by decide +kernel), List.mem_of_getElem? (i := 1455) (by decide +kernel), List.mem_of_getElem? (i := 1456) (by decide +kernel)⟩
theorem lw_p67 : lw_okq (⟨"RingedLightsModel", "isFoeAsked", "(I)Z"⟩, 21) := ⟨⟨by decide +kernel, by decide +kernel⟩, List.mem_of_getElem? (i := 1031) (by decide +kernel), List.mem_of_getElem? (i := 1459) (by decide +kernel), List.mem_of_getElem? (i := 1460) (by decide +kernel)⟩
theorem lw_p68 : lw_okq (⟨"RingedLightsModel", "breaks", "()V"⟩, 21) := ⟨⟨by decide +kernel, by decide +kernel⟩, List.mem_of_getElem? (i := 1031) (by decide +kernel), List.mem_of_getElem? (i := 1463) (by decide +kernel), List.mem_of_getElem? (i := 1464) (by decide +kernel)⟩
theorem lw_p69 : lw_okq (⟨"RingedLightsModel", "breakEnds", "()V"⟩, 21) := ⟨⟨by decide +kernel, by decide +kernel⟩, List.mem_of_getElem? (i := 1031) (by decide +kernel), List.mem_of_getElem? (i := 1467) (by decide +kernel), List.mem_of_getElem? (i := 1468) (by decide +kernel)⟩
theorem lw_p70 : lw_okq (⟨"RingedLightsModel", "noBreak", "()V"⟩, 21) := ⟨⟨by decide +kernel, by decide +kernel⟩, List.mem_of_getElem? (i := 1031) (by decide +kernel), List.mem_of_getElem? (i := 1471) (by decide +kernel), List.mem_of_getElem? (i := 1472) (by decide +kernel)⟩
theorem lw_p71 : lw_okq (⟨"RingedLightsModel", "breakBegins", "(I)V"⟩, 21) := ⟨⟨by decide +kernel, by decide +kernel⟩, List.mem_of_getElem? (i := 1031) (by decide +kernel), List.mem_of_getElem? (i := 1475) (by decide +kernel), List.mem_of_getElem? (i := 1476) (by decide +kernel)⟩
theorem lw_p72 : lw_okq (⟨"RingedLightsModel", "isStage", "(I)V"⟩, 21) := ⟨⟨by decide +kernel, by decide +kernel⟩, List.mem_of_getElem? (i := 1031) (by decide +kernel), List.mem_of_getElem? (i := 1479) (by decide +kernel), List.mem_of_getElem? (i := 1480) (by decide +kernel)⟩
theorem lw_p73 : lw_okq (⟨"RingedLightsModel", "goesTo", "(I)V"⟩, 21) := ⟨⟨by decide +kernel, by decide +kernel⟩, List.mem_of_getElem? (i := 1031) (by decide +kernel), List.mem_of_getElem? (i := 1483) (by decide +kernel), List.mem_of_getElem? (i := 1484) (by decide +kernel)⟩
theorem lw_p74 : lw_okq (⟨"RingedLightsModel", "goal", "(I)I"⟩, 21) := ⟨⟨by decide +kernel, by decide +kernel⟩, List.mem_of_getElem? (i := 1031) (by decide +kernel), List.mem_of_getElem? (i := 1487) (by decide +kernel), List.mem_of_getElem? (i := 1488) (by decide +kernel)⟩
theorem lw_p75 : lw_okq (⟨"RingedLightsModel", "leaves", "(II)V"⟩, 21) := ⟨⟨by decide +kernel, by decide +kernel⟩, List.mem_of_getElem? (i := 1031) (by decide +kernel), List.mem_of_getElem? (i := 1491) (by decide +kernel), List.mem_of_getElem? (i := 1492) (by decide +kernel)⟩
theorem lw_p76 : lw_okq (⟨"RingedLightsModel", "goesOn", "()V"⟩, 21) := ⟨⟨by decide +kernel, by decide +kernel⟩, List.mem_of_getElem? (i := 1031) (by decide +kernel), List.mem_of_getElem? (i := 1495) (by decide +kernel), List.mem_of_getElem? (i := 1496) (by decide +kernel)⟩
theorem lw_p77 : lw_okq (⟨"RingedLightsModel", "goes", "(II)V"⟩, 21) := ⟨⟨by decide +kernel, by decide +kernel⟩, List.mem_of_getElem? (i := 1031) (by decide +kernel), List.mem_of_getElem? (i := 1499) (by decide +kernel), List.mem_of_getElem? (i := 1500) (by decide +kernel)⟩
theorem lw_p78 : lw_okq (⟨"RingedLightsModel", "becomes", "()V"⟩, 21) := ⟨⟨by decide +kernel, by decide +kernel⟩, List.mem_of_getElem? (i := 1031) (by decide +kernel), List.mem_of_getElem? (i := 1503) (by decide +kernel), List.mem_of_getElem? (i := 1504) (by decide +kernel)⟩
theorem lw_p79 : lw_okq (⟨"RingedLightsModel", "becomesGreen", "(II)V"⟩, 21) := ⟨⟨by decide +kernel, by decide +kernel⟩, List.mem_of_getElem? (i := 1031) (by decide +kernel), List.mem_of_getElem? (i := 1507) (by decide +kernel), List.mem_of_getElem? (i := 1508) (by decide +kernel)⟩
def lw_privs_5 : List (MethodName × Nat) := [(⟨"RingedLightsModel", "due", "()I"⟩, 21), (⟨"RingedLightsModel", "ringGoes", "(I)V"⟩, 21), (⟨"RingedLightsModel", "greenGoes", "(I)V"⟩, 21), (⟨"RingedLightsModel", "isFoeAsked", "(I)Z"⟩, 21), (⟨"RingedLightsModel", "breaks", "()V"⟩, 21), (⟨"RingedLightsModel", "breakEnds", "()V"⟩, 21), (⟨"RingedLightsModel", "noBreak", "()V"⟩, 21), (⟨"RingedLightsModel", "breakBegins", "(I)V"⟩, 21), (⟨"RingedLightsModel", "isStage", "(I)V"⟩, 21), (⟨"RingedLightsModel", "goesTo", "(I)V"⟩, 21), (⟨"RingedLightsModel", "goal", "(I)I"⟩, 21), (⟨"RingedLightsModel", "leaves", "(II)V"⟩, 21), (⟨"RingedLightsModel", "goesOn", "()V"⟩, 21), (⟨"RingedLightsModel", "goes", "(II)V"⟩, 21), (⟨"RingedLightsModel", "becomes", "()V"⟩, 21), (⟨"RingedLightsModel", "becomesGreen", "(II)V"⟩, 21)]
theorem lw_r5 : ∀ q ∈ lw_privs_5, lw_okq q := List.forall_mem_cons.mpr ⟨lw_p64, List.forall_mem_cons.mpr ⟨lw_p65, List.forall_mem_cons.mpr ⟨lw_p66, List.forall_mem_cons.mpr ⟨lw_p67, List.forall_mem_cons.mpr ⟨lw_p68, List.forall_mem_cons.mpr ⟨lw_p69, List.forall_mem_cons.mpr ⟨lw_p70, List.forall_mem_cons.mpr ⟨lw_p71, List.forall_mem_cons.mpr ⟨lw_p72, List.forall_mem_cons.mpr ⟨lw_p73, List.forall_mem_cons.mpr ⟨lw_p74, List.forall_mem_cons.mpr ⟨lw_p75, List.forall_mem_cons.mpr ⟨lw_p76, List.forall_mem_cons.mpr ⟨lw_p77, List.forall_mem_cons.mpr ⟨lw_p78, List.forall_mem_cons.mpr ⟨lw_p79, fun _ h => absurd h List.not_mem_nil⟩⟩⟩⟩⟩⟩⟩⟩⟩⟩⟩⟩⟩⟩⟩⟩
theorem lw_p80 : lw_okq (⟨"RingedLightsModel", "staged", "()V"⟩, 21) := ⟨⟨by decide +kernel, by decide +kernel⟩, List.mem_of_getElem? (i := 1031) (by decide +kernel), List.mem_of_getElem? (i := 1511) (by decide +kernel), List.mem_of_getElem? (i := 1512) (by decide +kernel)⟩
theorem lw_p81 : lw_okq (⟨"RingedLightsModel", "watches", "()V"⟩, 21) := ⟨⟨by decide +kernel, by decide +kernel⟩, List.mem_of_getElem? (i := 1031) (by decide +kernel), List.mem_of_getElem? (i := 1515) (by decide +kernel), List.mem_of_getElem? (i := 1516) (by decide +kernel)⟩
theorem lw_p82 : lw_okq (⟨"RingedLightsModel", "isFull", "(I)Z"⟩, 21) := ⟨⟨by decide +kernel, by decide +kernel⟩, List.mem_of_getElem? (i := 1031) (by decide +kernel), List.mem_of_getElem? (i := 1539) (by decide +kernel), List.mem_of_getElem? (i := 1540) (by decide +kernel)⟩
theorem lw_p83 : lw_okq (⟨"RingedLightsModel", "queuesIn", "(I)I"⟩, 21) := ⟨⟨by decide +kernel, by decide +kernel⟩, List.mem_of_getElem? (i := 1031) (by decide +kernel), List.mem_of_getElem? (i := 1543) (by decide +kernel), List.mem_of_getElem? (i := 1544) (by decide +kernel)⟩
theorem lw_p84 : lw_okq (⟨"RingedLightsModel", "reaches", "(II)I"⟩, 21) := ⟨⟨by decide +kernel, by decide +kernel⟩, List.mem_of_getElem? (i := 1031) (by decide +kernel), List.mem_of_getElem? (i := 1551) (by decide +kernel), List.mem_of_getElem? (i := 1552) (by decide +kernel)⟩
theorem lw_p85 : lw_okq (⟨"RingedLightsModel", "isReached", "(II)Z"⟩, 21) := ⟨⟨by decide +kernel, by decide +kernel⟩, List.mem_of_getElem? (i := 1031) (by decide +kernel), List.mem_of_getElem? (i := 1555) (by decide +kernel), List.mem_of_getElem? (i := 1556) (by decide +kernel)⟩
theorem lw_p86 : lw_okq (⟨"RingedLightsModel", "isGreenAt", "(I)Z"⟩, 21) := ⟨⟨by decide +kernel, by decide +kernel⟩, List.mem_of_getElem? (i := 1031) (by decide +kernel), List.mem_of_getElem? (i := 1559) (by decide +kernel), List.mem_of_getElem? (i := 1560) (by decide +kernel)⟩
theorem lw_p87 : lw_okq (⟨"RingedLightsModel", "callsOthers", "(I)V"⟩, 21) := ⟨⟨by decide +kernel, by decide +kernel⟩, List.mem_of_getElem? (i := 1031) (by decide +kernel), List.mem_of_getElem? (i := 1563) (by decide +kernel), List.mem_of_getElem? (i := 1564) (by decide +kernel)⟩
theorem lw_p88 : lw_okq (⟨"RingedLightsModel", "waitsIn", "(I)I"⟩, 21) := ⟨⟨by decide +kernel, by decide +kernel⟩, List.mem_of_getElem? (i := 1031) (by decide +kernel), List.mem_of_getElem? (i := 1587) (by decide +kernel), List.mem_of_getElem? (i := 1588) (by decide +kernel)⟩
def lw_privs_6 : List (MethodName × Nat) := [(⟨"RingedLightsModel", "staged", "()V"⟩, 21), (⟨"RingedLightsModel", "watches", "()V"⟩, 21), (⟨"RingedLightsModel", "isFull", "(I)Z"⟩, 21), (⟨"RingedLightsModel", "queuesIn", "(I)I"⟩, 21), (⟨"RingedLightsModel", "reaches", "(II)I"⟩, 21), (⟨"RingedLightsModel", "isReached", "(II)Z"⟩, 21), (⟨"RingedLightsModel", "isGreenAt", "(I)Z"⟩, 21), (⟨"RingedLightsModel", "callsOthers", "(I)V"⟩, 21), (⟨"RingedLightsModel", "waitsIn", "(I)I"⟩, 21)]
theorem lw_r6 : ∀ q ∈ lw_privs_6, lw_okq q := List.forall_mem_cons.mpr ⟨lw_p80, List.forall_mem_cons.mpr ⟨lw_p81, List.forall_mem_cons.mpr ⟨lw_p82, List.forall_mem_cons.mpr ⟨lw_p83, List.forall_mem_cons.mpr ⟨lw_p84, List.forall_mem_cons.mpr ⟨lw_p85, List.forall_mem_cons.mpr ⟨lw_p86, List.forall_mem_cons.mpr ⟨lw_p87, List.forall_mem_cons.mpr ⟨lw_p88, fun _ h => absurd h List.not_mem_nil⟩⟩⟩⟩⟩⟩⟩⟩⟩
def lw_privs : List (MethodName × Nat) := lw_privs_1 ++ (lw_privs_2 ++ (lw_privs_3 ++ (lw_privs_4 ++ (lw_privs_5 ++ (lw_privs_6)))))
def lw_tbl : List Cond := k2_sels lw_privs ++ tables_1
theorem lw_privs_ok : ∀ q ∈ lw_privs, lw_okq q := by
  show ∀ q ∈ lw_privs_1 ++ (lw_privs_2 ++ (lw_privs_3 ++ (lw_privs_4 ++ (lw_privs_5 ++ (lw_privs_6))))), lw_okq q
  exact List.forall_mem_append.mpr ⟨lw_r1, List.forall_mem_append.mpr ⟨lw_r2, List.forall_mem_append.mpr ⟨lw_r3, List.forall_mem_append.mpr ⟨lw_r4, List.forall_mem_append.mpr ⟨lw_r5, lw_r6⟩⟩⟩⟩⟩
-- classes and their fields
def RX0 : String := "RingedLights$Crossing"
def TX0 : u_T := fun k => match k with
  | 0 => ("RingedLights$Crossing", "plan", "LRingedLights$Plan;", true)
  | 1 => ("RingedLights$Crossing", "ring0", "LRingedLights$Ring;", true)
  | 2 => ("RingedLights$Crossing", "ring1", "LRingedLights$Ring;", true)
  | 3 => ("RingedLights$Crossing", "log", "LRingedLights$Log;", true)
  | 4 => ("RingedLights$Crossing", "queues", "[I", true)
  | 5 => ("RingedLights$Crossing", "letGo", "[I", true)
  | 6 => ("RingedLights$Crossing", "queued", "I", false)
  | 7 => ("RingedLights$Crossing", "calls", "I", false)
  | 8 => ("RingedLights$Crossing", "footCalls", "I", false)
  | 9 => ("RingedLights$Crossing", "greenCalls", "I", false)
  | 10 => ("RingedLights$Crossing", "stuck", "I", false)
  | 11 => ("RingedLights$Crossing", "wanted", "I", false)
  | 12 => ("RingedLights$Crossing", "latestTick", "I", false)
  | 13 => ("RingedLights$Crossing", "clockAt", "I", false)
  | 14 => ("RingedLights$Crossing", "waited", "I", false)
  | 15 => ("RingedLights$Crossing", "flash", "Z", false)
  | 16 => ("RingedLights$Crossing", "begun", "I", false)
  | 17 => ("RingedLights$Crossing", "stage", "I", false)
  | _ => ("RingedLights$Crossing", "stageTicks", "I", false)
def tyX0 : Nat → FieldType := fun k => match k with
  | 0 => .object "RingedLights$Plan"
  | 1 => .object "RingedLights$Ring"
  | 2 => .object "RingedLights$Ring"
  | 3 => .object "RingedLights$Log"
  | 4 => .array .int
  | 5 => .array .int
  | 6 => .int
  | 7 => .int
  | 8 => .int
  | 9 => .int
  | 10 => .int
  | 11 => .int
  | 12 => .int
  | 13 => .int
  | 14 => .int
  | 15 => .boolean
  | 16 => .int
  | 17 => .int
  | _ => .int
theorem nmX0 : ∀ a, a < 19 → ∀ b, b < 19 → a ≠ b → (TX0 a).2.1 ≠ (TX0 b).2.1 := by decide +kernel
theorem tyX0_ok : ∀ k, k < 19 → parseFieldDescriptor (TX0 k).2.2.1 = some (tyX0 k) := by decide +kernel
def RX1 : String := "RingedLights$Log"
def TX1 : u_T := fun k => match k with
  | 0 => ("RingedLights$Log", "kinds", "[I", true)
  | 1 => ("RingedLights$Log", "ticks", "[I", true)
  | 2 => ("RingedLights$Log", "whiches", "[I", true)
  | 3 => ("RingedLights$Log", "noted", "I", false)
  | _ => ("RingedLights$Log", "following", "I", false)
def tyX1 : Nat → FieldType := fun k => match k with
  | 0 => .array .int
  | 1 => .array .int
  | 2 => .array .int
  | 3 => .int
  | _ => .int
theorem nmX1 : ∀ a, a < 5 → ∀ b, b < 5 → a ≠ b → (TX1 a).2.1 ≠ (TX1 b).2.1 := by decide +kernel
theorem tyX1_ok : ∀ k, k < 5 → parseFieldDescriptor (TX1 k).2.2.1 = some (tyX1 k) := by decide +kernel
def RX2 : String := "RingedLights$Plan"
def TX2 : u_T := fun k => match k with
  | 0 => ("RingedLights$Plan", "phases", "I", false)
  | 1 => ("RingedLights$Plan", "cycle", "I", false)
  | 2 => ("RingedLights$Plan", "offset", "I", false)
  | 3 => ("RingedLights$Plan", "ringOf", "[I", true)
  | 4 => ("RingedLights$Plan", "sideOf", "[I", true)
  | 5 => ("RingedLights$Plan", "foes", "[I", true)
  | 6 => ("RingedLights$Plan", "marks", "[I", true)
  | 7 => ("RingedLights$Plan", "breaks", "[I", true)
  | 8 => ("RingedLights$Plan", "parts", "[I", true)
  | 9 => ("RingedLights$Plan", "recalled", "I", false)
  | 10 => ("RingedLights$Plan", "footRecalled", "I", false)
  | _ => ("RingedLights$Plan", "walked", "I", false)
def tyX2 : Nat → FieldType := fun k => match k with
  | 0 => .int
  | 1 => .int
  | 2 => .int
  | 3 => .array .int
  | 4 => .array .int
  | 5 => .array .int
  | 6 => .array .int
  | 7 => .array .int
  | 8 => .array .int
  | 9 => .int
  | 10 => .int
  | _ => .int
theorem nmX2 : ∀ a, a < 12 → ∀ b, b < 12 → a ≠ b → (TX2 a).2.1 ≠ (TX2 b).2.1 := by decide +kernel
theorem tyX2_ok : ∀ k, k < 12 → parseFieldDescriptor (TX2 k).2.2.1 = some (tyX2 k) := by decide +kernel
def RX3 : String := "RingedLights$Reader"
def TX3 : u_T := fun k => match k with
  | 0 => ("RingedLights$Reader", "text", "[B", true)
  | 1 => ("RingedLights$Reader", "plan", "LRingedLights$Plan;", true)
  | 2 => ("RingedLights$Reader", "end", "I", false)
  | 3 => ("RingedLights$Reader", "place", "I", false)
  | 4 => ("RingedLights$Reader", "start", "I", false)
  | 5 => ("RingedLights$Reader", "kind", "I", false)
  | 6 => ("RingedLights$Reader", "number", "I", false)
  | 7 => ("RingedLights$Reader", "lines", "I", false)
  | 8 => ("RingedLights$Reader", "told", "I", false)
  | 9 => ("RingedLights$Reader", "fault", "I", false)
  | 10 => ("RingedLights$Reader", "faultPlace", "I", false)
  | _ => ("RingedLights$Reader", "faultLine", "I", false)
def tyX3 : Nat → FieldType := fun k => match k with
  | 0 => .array .byte
  | 1 => .object "RingedLights$Plan"
  | 2 => .int
  | 3 => .int
  | 4 => .int
  | 5 => .int
  | 6 => .int
  | 7 => .int
  | 8 => .int
  | 9 => .int
  | 10 => .int
  | _ => .int
theorem nmX3 : ∀ a, a < 12 → ∀ b, b < 12 → a ≠ b → (TX3 a).2.1 ≠ (TX3 b).2.1 := by decide +kernel
theorem tyX3_ok : ∀ k, k < 12 → parseFieldDescriptor (TX3 k).2.2.1 = some (tyX3 k) := by decide +kernel
def RX4 : String := "RingedLights$Ring"
def TX4 : u_T := fun k => match k with
  | 0 => ("RingedLights$Ring", "number", "I", true)
  | 1 => ("RingedLights$Ring", "at", "I", false)
  | 2 => ("RingedLights$Ring", "lamp", "I", false)
  | 3 => ("RingedLights$Ring", "age", "I", false)
  | 4 => ("RingedLights$Ring", "to", "I", false)
  | 5 => ("RingedLights$Ring", "gap", "I", false)
  | 6 => ("RingedLights$Ring", "pressed", "I", false)
  | 7 => ("RingedLights$Ring", "walking", "I", false)
  | _ => ("RingedLights$Ring", "halted", "I", false)
def tyX4 : Nat → FieldType := fun k => match k with
  | 0 => .int
  | 1 => .int
  | 2 => .int
  | 3 => .int
  | 4 => .int
  | 5 => .int
  | 6 => .int
  | 7 => .int
  | _ => .int
theorem nmX4 : ∀ a, a < 9 → ∀ b, b < 9 → a ≠ b → (TX4 a).2.1 ≠ (TX4 b).2.1 := by decide +kernel
theorem tyX4_ok : ∀ k, k < 9 → parseFieldDescriptor (TX4 k).2.2.1 = some (tyX4 k) := by decide +kernel
def RX5 : String := "RingedLights"
def TX5 : u_T := fun k => match k with
  | 0 => ("RingedLights", "tape", "[B", true)
  | 1 => ("RingedLights", "reader", "LRingedLights$Reader;", true)
  | 2 => ("RingedLights", "now", "LRingedLights$Crossing;", true)
  | 3 => ("RingedLights", "spare", "LRingedLights$Crossing;", true)
  | 4 => ("RingedLights", "firstKept", "LRingedLights$Crossing;", true)
  | 5 => ("RingedLights", "secondKept", "LRingedLights$Crossing;", true)
  | 6 => ("RingedLights", "thirdKept", "LRingedLights$Crossing;", true)
  | 7 => ("RingedLights", "kept", "I", false)
  | 8 => ("RingedLights", "taped", "I", false)
  | 9 => ("RingedLights", "everRead", "Z", false)
  | _ => ("RingedLights", "status", "I", false)
def tyX5 : Nat → FieldType := fun k => match k with
  | 0 => .array .byte
  | 1 => .object "RingedLights$Reader"
  | 2 => .object "RingedLights$Crossing"
  | 3 => .object "RingedLights$Crossing"
  | 4 => .object "RingedLights$Crossing"
  | 5 => .object "RingedLights$Crossing"
  | 6 => .object "RingedLights$Crossing"
  | 7 => .int
  | 8 => .int
  | 9 => .boolean
  | _ => .int
theorem nmX5 : ∀ a, a < 11 → ∀ b, b < 11 → a ≠ b → (TX5 a).2.1 ≠ (TX5 b).2.1 := by decide +kernel
theorem tyX5_ok : ∀ k, k < 11 → parseFieldDescriptor (TX5 k).2.2.1 = some (tyX5 k) := by decide +kernel
def RX6 : String := "RingedLightsModel"
def TX6 : u_T := fun k => match k with
  | 0 => ("RingedLightsModel", "all", "[I", true)
  | 1 => ("RingedLightsModel", "status", "I", false)
  | 2 => ("RingedLightsModel", "marks", "I", false)
  | 3 => ("RingedLightsModel", "drawn", "I", false)
  | 4 => ("RingedLightsModel", "letGo", "I", false)
  | 5 => ("RingedLightsModel", "isGoing", "Z", false)
  | 6 => ("RingedLightsModel", "tape", "[B", true)
  | 7 => ("RingedLightsModel", "text", "[B", true)
  | 8 => ("RingedLightsModel", "taped", "I", false)
  | 9 => ("RingedLightsModel", "size", "I", false)
  | 10 => ("RingedLightsModel", "token", "I", false)
  | 11 => ("RingedLightsModel", "from", "I", false)
  | 12 => ("RingedLightsModel", "end", "I", false)
  | 13 => ("RingedLightsModel", "value", "I", false)
  | 14 => ("RingedLightsModel", "faults", "I", false)
  | 15 => ("RingedLightsModel", "faultPlace", "I", false)
  | 16 => ("RingedLightsModel", "faultLine", "I", false)
  | 17 => ("RingedLightsModel", "faultKind", "I", false)
  | 18 => ("RingedLightsModel", "lines", "I", false)
  | 19 => ("RingedLightsModel", "told", "I", false)
  | _ => ("RingedLightsModel", "taken", "I", false)
def tyX6 : Nat → FieldType := fun k => match k with
  | 0 => .array .int
  | 1 => .int
  | 2 => .int
  | 3 => .int
  | 4 => .int
  | 5 => .boolean
  | 6 => .array .byte
  | 7 => .array .byte
  | 8 => .int
  | 9 => .int
  | 10 => .int
  | 11 => .int
  | 12 => .int
  | 13 => .int
  | 14 => .int
  | 15 => .int
  | 16 => .int
  | 17 => .int
  | 18 => .int
  | 19 => .int
  | _ => .int
theorem nmX6 : ∀ a, a < 21 → ∀ b, b < 21 → a ≠ b → (TX6 a).2.1 ≠ (TX6 b).2.1 := by decide +kernel
theorem tyX6_ok : ∀ k, k < 21 → parseFieldDescriptor (TX6 k).2.2.1 = some (tyX6 k) := by decide +kernel
def RJ9 : String := "java/lang/Math"
def RJ0 : String := "java/lang/String"
def RJ1 : String := "java/lang/StringLatin1"
def RJ2 : String := "java/lang/StringUTF16"
def RJ10 : String := "java/lang/System"
def RJ3 : String := "jdk/internal/util/Preconditions"
def RL : String := "RingedLightsLaw"
end
section
/-! The small machine: the instructions that these classes use, over a picture of the cells: cell (i, j) is part j of owner i, and holds ints by slots -/
abbrev mV : Type := Int32 ⊕ (Int64 ⊕ (Nat × Nat))
abbrev mC : Type := Nat → Nat → Int32
abbrev mG : Type := Nat → mC
abbrev mR : Type := Option (Option mV × mG)
abbrev mT : Type := Nat × (Instr × Nat) × (Nat × Nat × Nat) × List (Int32 × Nat)
abbrev mL : Type := List (Option mV)
abbrev mX : Type := (Nat → Int32) × Nat
abbrev mK : Type := List mT → mL → List mV → mG → mR
abbrev mi (x : Int32) : mV := .inl x
abbrev ml (x : Int64) : mV := .inr (.inl x)
abbrev mr (i j : Nat) : mV := .inr (.inr (i, j))
def mP (c : mC) (j k : Nat) (v : Int32) : mC := fun j' k' => if j' = j ∧ k' = k then v else c j' k'
def mU (g : mG) (i : Nat) (c : mC) : mG := fun i' => if i' = i then c else g i'
def mA (c : mC) (j : Nat) (f : Nat → Int32) : mC := fun j' => if j' = j then f else c j'
/-- the class of a part that is an object; its fields that are references; those that are booleans -/
def mCls (j : Nat) : Option Nat := match j with
  | 0 => some 0 | 1 => some 2 | 8 => some 4 | 9 => some 4 | 10 => some 1 | 16 => some 3 | 18 => some 5 | 20 => some 6
  | _ => none
def mNF (ci : Nat) : Nat := match ci with
  | 0 => 19 | 1 => 5 | 2 => 12 | 3 => 12 | 4 => 9 | 5 => 11 | 6 => 21
  | _ => 0
def mRef (i j k : Nat) : Option (Nat × Nat) := match j with
  | 0 => (match k with | 0 => some (i, 1) | 1 => some (i, 8) | 2 => some (i, 9) | 3 => some (i, 10) | 4 => some (i, 14) | 5 => some (i, 15) | _ => none)
  | 1 => (match k with | 3 => some (i, 2) | 4 => some (i, 3) | 5 => some (i, 4) | 6 => some (i, 5) | 7 => some (i, 6) | 8 => some (i, 7) | _ => none)
  | 10 => (match k with | 0 => some (i, 11) | 1 => some (i, 12) | 2 => some (i, 13) | _ => none)
  | 16 => (match k with | 0 => some (6, 19) | 1 => some (i, 1) | _ => none)
  | 18 => (match k with | 0 => some (6, 19) | 1 => some (5, 16) | 2 => some (0, 0) | 3 => some (1, 0) | 4 => some (2, 0) | 5 => some (3, 0) | 6 => some (4, 0) | _ => none)
  | 20 => (match k with | 0 => some (7, 21) | 6 => some (7, 22) | 7 => some (7, 23) | _ => none)
  | _ => none
def mBoF (j k : Nat) : Bool := match j with
  | 0 => Nat.beq k 15
  | 18 => Nat.beq k 9
  | 20 => Nat.beq k 5
  | _ => false
/-- the constants: the strings' signs, the three rows of the marks; the script -/
def mSL : List Nat := [5, 5, 6, 5, 5, 5, 3, 3, 4, 3, 6, 5, 4, 4, 6, 5, 4, 96]
def mSB : List (List Int32) := [[112, 104, 97, 115, 101], [99, 121, 99, 108, 101], [111, 102, 102, 115, 101, 116], [98, 114, 101, 97, 107], [116, 114, 97, 99, 107], [100, 119, 101, 108, 108], [99, 117, 116], [109, 105, 110], [112, 97, 115, 115], [109, 97, 120], [121, 101, 108, 108, 111, 119], [99, 108, 101, 97, 114], [119, 97, 108, 107], [104, 97, 108, 116], [114, 101, 99, 97, 108, 108], [115, 112, 108, 105, 116], [114, 97, 116, 101], [32, 109, 105, 110, 32, 112, 97, 115, 115, 32, 109, 97, 120, 32, 121, 101, 108, 108, 111, 119, 32, 99, 108, 101, 97, 114, 32, 119, 97, 108, 107, 32, 104, 97, 108, 116, 32, 114, 101, 99, 97, 108, 108, 32, 115, 112, 108, 105, 116, 32, 114, 97, 116, 101, 32, 112, 104, 97, 115, 101, 32, 99, 121, 99, 108, 101, 32, 111, 102, 102, 115, 101, 116, 32, 98, 114, 101, 97, 107, 32, 116, 114, 97, 99, 107, 32, 100, 119, 101, 108, 108, 32, 99, 117, 116, 32]]
def mLeast : List Int32 := [1, 1, 1, 1, 0, 0, 0, 0, 0, 0]
def mMost : List Int32 := [30, 9, 60, 5, 4, 20, 20, 3, 60, 30]
def mUsual : List Int32 := [5, 2, 20, 3, 1, 0, 0, 0, 0, 0]
/-- the length of a part that is an array; whether of bytes -/
def mArr (X : mX) (i j : Nat) : Option (Nat × Bool) := match j with
  | 2 => some (8, false) | 3 => some (8, false) | 4 => some (8, false) | 5 => some (80, false) | 6 => some (10, false) | 7 => some (4, false)
  | 11 => some (32, false) | 12 => some (32, false) | 13 => some (32, false) | 14 => some (8, false) | 15 => some (8, false)
  | 19 => some (700, true) | 21 => some (1440, false) | 22 => some (700, true) | 23 => some (700, true)
  | 25 => some (mSL.getD i 0, true) | 26 => some (X.2, false) | 27 => some (10, false) | 28 => some (10, false) | 29 => some (10, false)
  | _ => none
def mRO (X : mX) (i j k : Nat) : Int32 := match j with
  | 25 => (mSB.getD i []).getD k 0
  | 26 => X.1 k
  | 27 => mLeast.getD k 0
  | 28 => mMost.getD k 0
  | 29 => mUsual.getD k 0
  | _ => 0
def mRd (X : mX) (g : mG) (i j k : Nat) : Int32 := match Nat.ble j 23 with
  | true => g i j k
  | false => mRO X i j k
def mDrop : List mT → Nat → List mT
  | [], _ => []
  | x :: nx, t => match Nat.beq x.1 t with
    | true => x :: nx
    | false => mDrop nx t
section MACH
def mLdI (n : Nat) (k : mK) (nx : List mT) (L : mL) (st : List mV) (g : mG) : mR := match L[n]? with
  | some (some (.inl v)) => k nx L (.inl v :: st) g
  | _ => none
def mLdL (n : Nat) (k : mK) (nx : List mT) (L : mL) (st : List mV) (g : mG) : mR := match L[n]? with
  | some (some (.inr (.inl v))) => k nx L (.inr (.inl v) :: st) g
  | _ => none
def mLdR (n : Nat) (k : mK) (nx : List mT) (L : mL) (st : List mV) (g : mG) : mR := match L[n]? with
  | some (some (.inr (.inr (i, j)))) => (match Nat.beq j 99 with
    | true => none
    | false => k nx L (.inr (.inr (i, j)) :: st) g)
  | _ => none
def mStI (n : Nat) (k : mK) (nx : List mT) (L : mL) (st : List mV) (g : mG) : mR := match st with
  | .inl v :: r => k nx (L.set n (some (.inl v))) r g
  | _ => none
def mStR (n : Nat) (k : mK) (nx : List mT) (L : mL) (st : List mV) (g : mG) : mR := match st with
  | .inr (.inr (i, j)) :: r => (match Nat.beq j 99 with
    | true => none
    | false => k nx (L.set n (some (.inr (.inr (i, j))))) r g)
  | _ => none
def mStL (n : Nat) (k : mK) (nx : List mT) (L : mL) (st : List mV) (g : mG) : mR := match st with
  | .inr (.inl v) :: r => k nx ((L.set n (some (.inr (.inl v)))).set (n + 1) none) r g
  | _ => none
def mInc (n : Nat) (d : Int) (k : mK) (nx : List mT) (L : mL) (st : List mV) (g : mG) : mR := match L[n]? with
  | some (some (.inl x)) => k nx (L.set n (some (.inl (x + Int32.ofInt d)))) st g
  | _ => none
def mB2 (f : Int32 → Int32 → Int32) (k : mK) (nx : List mT) (L : mL) (st : List mV) (g : mG) : mR := match st with
  | .inl y :: .inl x :: r => k nx L (.inl (f x y) :: r) g
  | _ => none
def mB2n (f : Int32 → Int32 → Int32) (k : mK) (nx : List mT) (L : mL) (st : List mV) (g : mG) : mR := match st with
  | .inl y :: .inl x :: r => if y = 0 then none else k nx L (.inl (f x y) :: r) g
  | _ => none
def mJ2 (f : Int64 → Int64 → Int64) (k : mK) (nx : List mT) (L : mL) (st : List mV) (g : mG) : mR := match st with
  | .inr (.inl y) :: .inr (.inl x) :: r => k nx L (.inr (.inl (f x y)) :: r) g
  | _ => none
def mJ2n (f : Int64 → Int64 → Int64) (k : mK) (nx : List mT) (L : mL) (st : List mV) (g : mG) : mR := match st with
  | .inr (.inl y) :: .inr (.inl x) :: r => if y = 0 then none else k nx L (.inr (.inl (f x y)) :: r) g
  | _ => none
def mLcmp (k : mK) (nx : List mT) (L : mL) (st : List mV) (g : mG) : mR := match st with
  | .inr (.inl y) :: .inr (.inl x) :: r => k nx L (.inl (lg_cmp x y) :: r) g
  | _ => none
def mI2l (k : mK) (nx : List mT) (L : mL) (st : List mV) (g : mG) : mR := match st with
  | .inl x :: r => k nx L (.inr (.inl x.toInt64) :: r) g
  | _ => none
def mL2i (k : mK) (nx : List mT) (L : mL) (st : List mV) (g : mG) : mR := match st with
  | .inr (.inl x) :: r => k nx L (.inl x.toInt32 :: r) g
  | _ => none
def mI2b (k : mK) (nx : List mT) (L : mL) (st : List mV) (g : mG) : mR := match st with
  | .inl x :: r => k nx L (.inl x.toInt8.toInt32 :: r) g
  | _ => none
def mI2c (k : mK) (nx : List mT) (L : mL) (st : List mV) (g : mG) : mR := match st with
  | .inl x :: r => k nx L (.inl (x.toUInt32 % 65536).toInt32 :: r) g
  | _ => none
def mDup (k : mK) (nx : List mT) (L : mL) (st : List mV) (g : mG) : mR := match st with
  | .inl x :: r => k nx L (.inl x :: .inl x :: r) g
  | .inr (.inr x) :: r => k nx L (.inr (.inr x) :: .inr (.inr x) :: r) g
  | _ => none
def mDup2 (k : mK) (nx : List mT) (L : mL) (st : List mV) (g : mG) : mR := match st with
  | .inl y :: .inr (.inr x) :: r => k nx L (.inl y :: .inr (.inr x) :: .inl y :: .inr (.inr x) :: r) g
  | _ => none
def mPop (k : mK) (nx : List mT) (L : mL) (st : List mV) (g : mG) : mR := match st with
  | .inl _ :: r => k nx L r g
  | _ => none
def mIf1 (cd : ClassFile.Cond) (tg : List mT) (k : mK) (nx : List mT) (L : mL) (st : List mV) (g : mG) : mR := match st with
  | .inl x :: r => (match cd with
    | .eq => if x = 0 then k tg L r g else k nx L r g
    | .ne => if x = 0 then k nx L r g else k tg L r g
    | .lt => if x < 0 then k tg L r g else k nx L r g
    | .ge => if 0 ≤ x then k tg L r g else k nx L r g
    | .gt => if 0 < x then k tg L r g else k nx L r g
    | .le => if x ≤ 0 then k tg L r g else k nx L r g)
  | _ => none
def mIf2 (cd : ClassFile.Cond) (tg : List mT) (k : mK) (nx : List mT) (L : mL) (st : List mV) (g : mG) : mR := match st with
  | .inl y :: .inl x :: r => (match cd with
    | .eq => if x = y then k tg L r g else k nx L r g
    | .ne => if x = y then k nx L r g else k tg L r g
    | .lt => if x < y then k tg L r g else k nx L r g
    | .ge => if y ≤ x then k tg L r g else k nx L r g
    | .gt => if y < x then k tg L r g else k nx L r g
    | .le => if x ≤ y then k tg L r g else k nx L r g)
  | _ => none
def mSwG (full : List mT) (dflt : Nat) (k : mK) (L : mL) (r : List mV) (g : mG) (x : Int32) : List (Int32 × Nat) → mR
  | [] => k (mDrop full dflt) L r g
  | q :: sw => if x = q.1 then k (mDrop full q.2) L r g else mSwG full dflt k L r g x sw
def mSw (full : List mT) (dflt : Nat) (sw : List (Int32 × Nat)) (k : mK) (L : mL) (st : List mV) (g : mG) : mR := match st with
  | .inl x :: r => mSwG full dflt k L r g x sw
  | _ => none
def mGet (a b : Nat) (k : mK) (nx : List mT) (L : mL) (st : List mV) (g : mG) : mR := match st with
  | .inr (.inr (i, j)) :: r => (match Nat.beq a 7 with
    | true => (match Nat.beq j 24 with
      | true => (match b with
        | 0 => k nx L (.inr (.inr (i, 25)) :: r) g
        | _ => k nx L (.inl 0 :: r) g)
      | false => none)
    | false => (match mCls j with
      | some ci => (match Nat.beq ci a with
        | true => (match mRef i j b with
          | some q => k nx L (.inr (.inr q) :: r) g
          | none => k nx L (.inl (g i j b) :: r) g)
        | false => none)
      | none => none))
  | _ => none
def mPut (a b : Nat) (k : mK) (nx : List mT) (L : mL) (st : List mV) (g : mG) : mR := match st with
  | .inl v :: .inr (.inr (i, j)) :: r => (match mCls j with
      | some ci => (match Nat.beq ci a with
        | true => (match mRef i j b with
          | some _ => none
          | none => (match mBoF j b with
            | true => if v &&& 1 = v then k nx L r (mU g i (mP (g i) j b v)) else none
            | false => k nx L r (mU g i (mP (g i) j b v))))
        | false => none)
      | none => none)
  | _ => none
def mGetS (a b : Nat) (k : mK) (nx : List mT) (L : mL) (st : List mV) (g : mG) : mR := match a with
  | 0 => k nx L (.inr (.inr (9, b)) :: st) g
  | 1 => k nx L (.inl 1 :: st) g
  | 2 => k nx L (.inr (.inr (99, 99)) :: st) g
  | _ => none
def mAld (X : mX) (bt : Bool) (k : mK) (nx : List mT) (L : mL) (st : List mV) (g : mG) : mR := match st with
  | .inl ix :: .inr (.inr (i, j)) :: r => (match mArr X i j with
    | some (n, b) => if b = bt then (if ix < 0 ∨ n ≤ ix.toNatClampNeg then none else k nx L (.inl (mRd X g i j ix.toNatClampNeg) :: r) g) else none
    | none => none)
  | _ => none
def mAst (X : mX) (bt : Bool) (k : mK) (nx : List mT) (L : mL) (st : List mV) (g : mG) : mR := match st with
  | .inl v :: .inl ix :: .inr (.inr (i, j)) :: r => (match mArr X i j with
    | some (n, b) => if b = bt then (if ix < 0 ∨ n ≤ ix.toNatClampNeg then none else (match Nat.ble j 23 with
      | true => k nx L r (mU g i (mP (g i) j ix.toNatClampNeg (if bt then v.toInt8.toInt32 else v)))
      | false => none)) else none
    | none => none)
  | _ => none
def mLen (X : mX) (k : mK) (nx : List mT) (L : mL) (st : List mV) (g : mG) : mR := match st with
  | .inr (.inr (i, j)) :: r => (match mArr X i j with
    | some (n, _) => k nx L (.inl (Int32.ofNat n) :: r) g
    | none => none)
  | _ => none
def mCopy (X : mX) (k : mK) (nx : List mT) (L : mL) (st : List mV) (g : mG) : mR := match st with
  | .inl n :: .inl dp :: .inr (.inr (i2, j2)) :: .inl sp :: .inr (.inr (i1, j1)) :: r => (match mArr X i1 j1, mArr X i2 j2 with
    | some (n1, false), some (n2, false) => if sp = 0 ∧ dp = 0 ∧ ¬ n < 0 ∧ n.toNatClampNeg ≤ n1 ∧ n.toNatClampNeg ≤ n2 ∧ j1 ≤ 23 ∧ j2 ≤ 23 ∧ r.length ≤ 4 then
        k nx L r (mU g i2 (mA (g i2) j2 (fun q => if q < n.toNatClampNeg then g i1 j1 q else g i2 j2 q))) else none
    | _, _ => none)
  | _ => none
def mNoL (v : mV) : Bool := match v with
  | .inr (.inl _) => false
  | _ => true
def mArgOk (ci : Nat) (vs : List mV) : Bool := vs.all mNoL && (match ci with
  | 99 => true
  | _ => (match vs with
    | .inr (.inr (_, j)) :: _ => (match Nat.beq ci 7 with
      | true => Nat.beq j 24
      | false => (match mCls j with
        | some c => Nat.beq c ci
        | none => false))
    | _ => false))
def mAns (k : mK) (nx : List mT) (L : mL) (st : List mV) : mR → mR
  | none => none
  | some (none, g) => k nx L st g
  | some (some v, g) => k nx L (v :: st) g
/-- a call: a its number, b how many arguments (the receiver too), ci the class that the receiver must have (99: static) -/
def mInv (call : Nat → List mV → mG → mR) (a b ci : Nat) (k : mK) (nx : List mT) (L : mL) (st : List mV) (g : mG) : mR :=
  match mArgOk ci (st.take b).reverse && (Nat.ble (st.drop b).length 4 && Nat.ble b st.length) with
  | true => mAns k nx L (st.drop b) (call a (st.take b).reverse g)
  | false => none
def mRetI (rt : Nat) (st : List mV) (g : mG) : mR := match st with
  | [.inl v] => (match rt with
    | 1 => some (some (.inl v), g)
    | 2 => if v &&& 1 = v then some (some (.inl v), g) else none
    | 3 => if v.toUInt32.toUInt16.toUInt32.toInt32 = v then some (some (.inl v), g) else none
    | 4 => if v.toInt8.toInt32 = v then some (some (.inl v), g) else none
    | _ => none)
  | _ => none
def mRetR (st : List mV) (g : mG) : mR := match st with
  | [.inr (.inr (i, j))] => (match Nat.beq j 99 with
    | true => none
    | false => some (some (.inr (.inr (i, j))), g))
  | _ => none
def mRetV (st : List mV) (g : mG) : mR := match st with
  | [] => some (none, g)
  | _ => none
def mIns (X : mX) (call : Nat → List mV → mG → mR) (rt : Nat) (full : List mT) (k : mK) (ins : Instr) (a b d : Nat) (sw : List (Int32 × Nat)) (nx : List mT) (L : mL) (st : List mV) (g : mG) : mR := match ins with
  | .iconst n => k nx L (.inl (Int32.ofInt n) :: st) g
  | .bipush n => k nx L (.inl (Int8.ofInt n).toInt32 :: st) g
  | .sipush n => k nx L (.inl (Int16.ofInt n).toInt32 :: st) g
  | .ldc2_w _ => k nx L (.inr (.inl (Int64.ofNat a)) :: st) g
  | .ldc _ => k nx L (.inr (.inr (a, 24)) :: st) g
  | .iload n => mLdI n k nx L st g
  | .iload_n n => mLdI n.val k nx L st g
  | .aload n => mLdR n k nx L st g
  | .aload_n n => mLdR n.val k nx L st g
  | .lload n => mLdL n k nx L st g
  | .lload_n n => mLdL n.val k nx L st g
  | .istore n => mStI n k nx L st g
  | .istore_n n => mStI n.val k nx L st g
  | .astore n => mStR n k nx L st g
  | .astore_n n => mStR n.val k nx L st g
  | .lstore n => mStL n k nx L st g
  | .lstore_n n => mStL n.val k nx L st g
  | .iinc n q => mInc n q k nx L st g
  | .iadd => mB2 (fun x y => x + y) k nx L st g
  | .isub => mB2 (fun x y => x - y) k nx L st g
  | .imul => mB2 (fun x y => x * y) k nx L st g
  | .iand => mB2 (fun x y => x &&& y) k nx L st g
  | .ior => mB2 (fun x y => x ||| y) k nx L st g
  | .ixor => mB2 (fun x y => x ^^^ y) k nx L st g
  | .ishl => mB2 (fun x y => x <<< (y &&& 31)) k nx L st g
  | .ishr => mB2 (fun x y => x >>> (y &&& 31)) k nx L st g
  | .idiv => mB2n (fun x y => x / y) k nx L st g
  | .irem => mB2n (fun x y => x - x / y * y) k nx L st g
  | .ladd => mJ2 (fun x y => x + y) k nx L st g
  | .lmul => mJ2 (fun x y => x * y) k nx L st g
  | .ldiv => mJ2n (fun x y => x / y) k nx L st g
  | .lrem => mJ2n (fun x y => x - x / y * y) k nx L st g
  | .lcmp => mLcmp k nx L st g
  | .i2l => mI2l k nx L st g
  | .l2i => mL2i k nx L st g
  | .i2b => mI2b k nx L st g
  | .i2c => mI2c k nx L st g
  | .dup => mDup k nx L st g
  | .dup2 => mDup2 k nx L st g
  | .pop => mPop k nx L st g
  | .ifCond c _ => mIf1 c (mDrop full a) k nx L st g
  | .if_icmp c _ => mIf2 c (mDrop full a) k nx L st g
  | .goto _ => k (mDrop full a) L st g
  | .tableswitch _ _ _ _ => mSw full a sw k L st g
  | .lookupswitch _ _ => mSw full a sw k L st g
  | .getfield _ => mGet a b k nx L st g
  | .putfield _ => mPut a b k nx L st g
  | .getstatic _ => mGetS a b k nx L st g
  | .iaload => mAld X false k nx L st g
  | .baload => mAld X true k nx L st g
  | .iastore => mAst X false k nx L st g
  | .bastore => mAst X true k nx L st g
  | .arraylength => mLen X k nx L st g
  | .invokevirtual _ => mInv call a b d k nx L st g
  | .invokestatic _ => (match Nat.beq a 999 with
    | true => mCopy X k nx L st g
    | false => (match Nat.beq a 998 with
      | true => none
      | false => mInv call a b d k nx L st g))
  | .ireturn => mRetI rt st g
  | .areturn => (match Nat.beq rt 5 with
    | true => mRetR st g
    | false => none)
  | .return_ => (match Nat.beq rt 0 with
    | true => mRetV st g
    | false => none)
  | _ => none
def mStep (X : mX) (call : Nat → List mV → mG → mR) (rt : Nat) (full : List mT) (k : mK) (cur : List mT) (L : mL) (st : List mV) (g : mG) : mR := match cur with
  | [] => none
  | x :: nx => mIns X call rt full k x.2.1.1 x.2.2.1.1 x.2.2.1.2.1 x.2.2.1.2.2 x.2.2.2 nx L st g
def mRun (X : mX) (call : Nat → List mV → mG → mR) (rt : Nat) (full : List mT) : Nat → mK
  | 0 => fun _ _ _ _ => none
  | n + 1 => mStep X call rt full (mRun X call rt full n)
end MACH
end
section
/-! The small machine's picture over the heap -/
abbrev mCLS : List vw_C := [(RX0, TX0, 19), (RX1, TX1, 5), (RX2, TX2, 12), (RX3, TX3, 12), (RX4, TX4, 9), (RX5, TX5, 11), (RX6, TX6, 21)]
def mCL : List (Nat × Nat) := (List.range 5).flatMap (fun i => (List.range 16).map (fun j => (i, j))) ++ ([(5, 16), (5, 1), (5, 2), (5, 3), (5, 4), (5, 5), (5, 6), (5, 7), (6, 18), (6, 19), (7, 20), (7, 21), (7, 22), (7, 23)] : List (Nat × Nat))
def mROL : List (Nat × Nat) := (8, 26) :: (9, 27) :: (9, 28) :: (9, 29) :: (99, 99) :: ((List.range 18).map (fun n => (n, 24)) ++ (List.range 18).map (fun n => (n, 25)))
def mIn (q : Nat × Nat) : Prop := q ∈ mCL ∨ q ∈ mROL
def mOv (v : mV) : Prop := match v with
  | .inr (.inr q) => mIn q
  | _ => True
def mOs (st : List mV) : Prop := ∀ v ∈ st, mOv v
def mOl (L : mL) : Prop := ∀ (n : Nat) (v : mV), L[n]? = some (some v) → mOv v
theorem mCL_nd : ∀ a ∈ List.range 94, ∀ b ∈ List.range 94, mCL[a]? = mCL[b]? → a = b := by decide +kernel
theorem mCL_len : mCL.length = 94 := by decide +kernel
theorem mCL_apart {a b : Nat} {q : Nat × Nat} (h1 : mCL[a]? = some q) (h2 : mCL[b]? = some q) : a = b := by
  have l1 : a < 94 := by rw [← mCL_len]; exact (List.getElem?_eq_some_iff.mp h1).1
  have l2 : b < 94 := by rw [← mCL_len]; exact (List.getElem?_eq_some_iff.mp h2).1
  exact mCL_nd a (List.mem_range.mpr l1) b (List.mem_range.mpr l2) (h1.trans h2.symm)
theorem mCL_cls : ∀ q ∈ mCL, ∀ ci, mCls q.2 = some ci → ci < 7 := by
  have h : ∀ q ∈ mCL, (match mCls q.2 with | some ci => decide (ci < 7) | none => true) = true := by decide +kernel
  intro q hq ci hc
  have := h q hq
  rw [hc] at this
  exact of_decide_eq_true this
/-- references lead on to cells that are there -/
theorem mCL_ref : ∀ q ∈ mCL, ∀ k ∈ List.range 21, ∀ r, mRef q.1 q.2 k = some r → r ∈ mCL := by
  have h : ∀ q ∈ mCL, ∀ k ∈ List.range 21, (match mRef q.1 q.2 k with | some r => decide (r ∈ mCL) | none => true) = true := by decide +kernel
  intro q hq k hk r hr
  have := h q hq k hk
  rw [hr] at this
  exact of_decide_eq_true this
theorem mRO_cls : ∀ q ∈ mROL, mCls q.2 = none := by decide +kernel
theorem mIn_obj {i j ci : Nat} (h : mIn (i, j)) (hc : mCls j = some ci) : (i, j) ∈ mCL := by
  rcases h with h | h
  · exact h
  · have q := mRO_cls _ h
    rw [hc] at q; cases q
theorem mRO_arr : ∀ q ∈ mROL, 24 ≤ q.2 := by decide +kernel
theorem mIn_arr {i j : Nat} (h : mIn (i, j)) (hj : j ≤ 23) : (i, j) ∈ mCL := by
  rcases h with h | h
  · exact h
  · have q : 24 ≤ j := mRO_arr _ h
    exact absurd q (by omega)
theorem mCL_99 : ∀ q ∈ mCL, q.1 ≠ 99 ∧ q.2 ≤ 23 := by decide +kernel
section WORLD
variable (ad : Nat → Nat → Nat) (oq : Value) (dC : Nat → ClassId) (dI : Nat → Nat → Nat) (aI aB : ClassId)
def mE (v : mV) : Value := match v with
  | .inl x => .int x
  | .inr (.inl x) => .long x
  | .inr (.inr (i, j)) => match Nat.beq i 99 with
    | true => oq
    | false => .ref (ad i j)
def mFv (g : mG) (i j k : Nat) : Value := match mRef i j k with
  | some r => .ref (ad r.1 r.2)
  | none => .int (g i j k)
def mEnt (g : mG) (q : Nat × Nat) : va_E := match mCls q.2 with
  | some ci => .inr (ci, (List.range (mNF ci)).map (fun k => mFv ad g q.1 q.2 k))
  | none => match mArr (fun _ => 0, 0) q.1 q.2 with
    | some (n, true) => .inl (aB, n, .inl (g q.1 q.2))
    | some (n, false) => .inl (aI, n, .inl (g q.1 q.2))
    | none => .inl (aI, 0, .inl (g q.1 q.2))
def mWs (g : mG) : va_W := mCL.map (fun q => (ad q.1 q.2, mEnt ad aI aB g q))
/-- the cells that may be changed -/
def mAd (q : Nat) : Prop := ∃ c ∈ mCL, q = ad c.1 c.2
theorem mWs_at {g : mG} {q : Nat × Nat} (h : q ∈ mCL) : ∃ n : Nat, mCL[n]? = some q ∧ (mWs ad aI aB g)[n]? = some (ad q.1 q.2, mEnt ad aI aB g q) := by
  obtain ⟨n, hn⟩ := List.getElem?_of_mem h
  exact ⟨n, hn, by rw [mWs, List.getElem?_map, hn]; rfl⟩
theorem mWs_set {g g' : mG} {q : Nat × Nat} {n : Nat} {x : va_E} (hn : mCL[n]? = some q) (hx : x = mEnt ad aI aB g' q) (h : ∀ r ∈ mCL, r ≠ q → mEnt ad aI aB g' r = mEnt ad aI aB g r) : (mWs ad aI aB g).set n (ad q.1 q.2, x) = mWs ad aI aB g' := by
  subst hx
  apply List.ext_getElem?
  intro k
  rw [List.getElem?_set]
  by_cases hk : n = k
  · subst hk
    have hl : n < (mWs ad aI aB g).length := by rw [mWs, List.length_map]; exact (List.getElem?_eq_some_iff.mp hn).1
    rw [if_pos rfl, if_pos hl, mWs, List.getElem?_map, hn]
    rfl
  · rw [if_neg hk, mWs, mWs, List.getElem?_map, List.getElem?_map]
    cases hc : mCL[k]? with
    | none => rfl
    | some r =>
      have hr : r ≠ q := fun e => hk (mCL_apart hn (e ▸ hc))
      show some (ad r.1 r.2, mEnt ad aI aB g r) = some (ad r.1 r.2, mEnt ad aI aB g' r)
      rw [h r (List.mem_of_getElem? hc) hr]
theorem mEnt_cong {g g' : mG} {r : Nat × Nat} (h : g' r.1 r.2 = g r.1 r.2) : mEnt ad aI aB g' r = mEnt ad aI aB g r := by
  unfold mEnt mFv
  rw [h]
theorem mU_other {g : mG} {i j : Nat} {c : mC} (hc : ∀ j', j' ≠ j → c j' = g i j') {r : Nat × Nat} (hr : r ≠ (i, j)) : mU g i c r.1 r.2 = g r.1 r.2 := by
  unfold mU
  by_cases h1 : r.1 = i
  · rw [if_pos h1, h1]
    exact hc _ (fun e => hr (by cases r; simp_all))
  · rw [if_neg h1]
theorem mP_other (c : mC) (j k : Nat) (v : Int32) (j' : Nat) (h : j' ≠ j) : mP c j k v j' = c j' := by
  funext q
  unfold mP
  rw [if_neg (fun e => h e.1)]
theorem mA_other (c : mC) (j : Nat) (f : Nat → Int32) (j' : Nat) (h : j' ≠ j) : mA c j f j' = c j' := by
  unfold mA
  rw [if_neg h]
theorem mD_of {A : Nat → Prop} {g g' : mG} (h : va_D A (mWs ad aI aB g)) : va_D A (mWs ad aI aB g') := by
  have key : ∀ (g : mG) (k : Nat) (p : Nat × va_E), (mWs ad aI aB g)[k]? = some p → ∃ c, mCL[k]? = some c ∧ p.1 = ad c.1 c.2 := by
    intro g k p hp
    rw [mWs, List.getElem?_map] at hp
    cases hc : mCL[k]? with
    | none => rw [hc] at hp; cases hp
    | some c => rw [hc] at hp; cases hp; exact ⟨c, rfl, rfl⟩
  have back : ∀ (g : mG) (k : Nat) (c : Nat × Nat), mCL[k]? = some c → (mWs ad aI aB g)[k]? = some (ad c.1 c.2, mEnt ad aI aB g c) := by
    intro g k c hc
    rw [mWs, List.getElem?_map, hc]; rfl
  refine ⟨fun a b p q ha hb e => ?_, fun k q hk => ?_⟩
  · obtain ⟨c1, h1, e1⟩ := key _ _ _ ha
    obtain ⟨c2, h2, e2⟩ := key _ _ _ hb
    exact h.1 a b _ _ (back g a c1 h1) (back g b c2 h2) (by show ad c1.1 c1.2 = ad c2.1 c2.2; rw [← e1, ← e2, e])
  · obtain ⟨c1, h1, e1⟩ := key _ _ _ hk
    have := h.2 k _ (back g k c1 h1)
    rw [e1]
    exact this
theorem mAd_D {A : Nat → Prop} {g : mG} (h : va_D A (mWs ad aI aB g)) : va_D (mAd ad) (mWs ad aI aB g) := by
  refine ⟨h.1, fun k q hk => ?_⟩
  rw [mWs, List.getElem?_map] at hk
  cases hc : mCL[k]? with
  | none => rw [hc] at hk; cases hk
  | some c => rw [hc] at hk; cases hk; exact ⟨c, List.mem_of_getElem? hc, rfl⟩
theorem mAd_A {A : Nat → Prop} {g : mG} (h : va_D A (mWs ad aI aB g)) : ∀ q, mAd ad q → A q := by
  rintro q ⟨c, hc, rfl⟩
  obtain ⟨n, h1, h2⟩ := mWs_at ad aI aB (g := g) hc
  exact h.2 n _ h2
/-- the locals -/
def mPr (L : mL) : List (Nat × Value) := (List.range L.length).filterMap (fun n => match L[n]? with
  | some (some v) => some (n, mE ad oq v)
  | _ => none)
def mLS (LL : List Nat) (L : mL) : Prop := ∀ (n : Nat) (x : Int64), L[n]? = some (some (.inr (.inl x))) → n ∈ LL
def mLH (LL : List Nat) (ls : Array Slot) (L : mL) : Prop := lv_has ls L.length (mPr ad oq L) ∧ mLS LL L
theorem mPr_mem {L : mL} {n : Nat} {v : mV} (h : L[n]? = some (some v)) : (n, mE ad oq v) ∈ mPr ad oq L := by
  refine List.mem_filterMap.mpr ⟨n, List.mem_range.mpr (List.getElem?_eq_some_iff.mp h).1, ?_⟩
  rw [h]
theorem mPr_of {L : mL} {q : Nat × Value} (h : q ∈ mPr ad oq L) : ∃ v, L[q.1]? = some (some v) ∧ q.2 = mE ad oq v := by
  obtain ⟨n, -, h2⟩ := List.mem_filterMap.mp h
  split at h2
  next v hv => cases h2; exact ⟨v, hv, rfl⟩
  next => cases h2
theorem mLH_at {LL : List Nat} {ls : Array Slot} {L : mL} (h : mLH ad oq LL ls L) {n : Nat} {v : mV} (hn : L[n]? = some (some v)) : ls[n]? = some (.val (mE ad oq v)) := h.1.2.2 _ (mPr_mem ad oq hn)
theorem mE_cat {v : mV} (hq : oq.category = 1) (h : (mE ad oq v).category = 2) : ∃ x, v = .inr (.inl x) := by
  rcases v with x | x | ⟨i, j⟩
  · cases h
  · exact ⟨x, rfl⟩
  · exfalso
    unfold mE at h
    dsimp only at h
    split at h
    · rw [hq] at h; cases h
    · cases h
theorem mLH_set {LL : List Nat} {ls ls' : Array Slot} {L : mL} {n : Nat} {v : mV} (hq : oq.category = 1) (h : mLH ad oq LL ls L) (hv : mNoL v = true) (hn : ∀ a ∈ LL, a + 1 ≠ n)
    (h' : lv_has ls' L.length ((n, mE ad oq v) :: (mPr ad oq L).filter (fun q => !(q.1 == n) && !(q.1 + 1 == n && q.2.category == 2)))) : mLH ad oq LL ls' (L.set n (some v)) := by
  refine ⟨⟨by rw [List.length_set]; exact h'.1, h'.2.1, fun q hm => ?_⟩, fun a x ha => ?_⟩
  · obtain ⟨w, hw, e⟩ := mPr_of ad oq hm
    rw [List.getElem?_set] at hw
    by_cases hqn : n = q.1
    · rw [if_pos hqn] at hw
      split at hw
      next =>
        cases hw
        rw [e, ← hqn]
        exact h'.2.2 (n, mE ad oq v) List.mem_cons_self
      next => cases hw
    · rw [if_neg hqn] at hw
      refine h'.2.2 q (List.mem_cons_of_mem _ (List.mem_filter.mpr ⟨?_, ?_⟩))
      · have := mPr_mem ad oq hw
        rw [← e] at this
        exact this
      · have h1 : (q.1 == n) = false := beq_eq_false_iff_ne.mpr (fun z => hqn z.symm)
        rw [h1]
        show (true && _) = true
        rw [Bool.true_and, Bool.not_eq_true', Bool.and_eq_false_iff]
        by_cases hc : q.2.category = 2
        · left
          rw [e] at hc
          obtain ⟨x, hx⟩ := mE_cat ad oq hq hc
          rw [hx] at hw
          exact beq_eq_false_iff_ne.mpr (hn _ (h.2 _ _ hw))
        · right
          exact beq_eq_false_iff_ne.mpr hc
  · rw [List.getElem?_set] at ha
    by_cases hqn : n = a
    · rw [if_pos hqn] at ha
      split at ha
      next =>
        cases ha
        cases hv
      next => cases ha
    · rw [if_neg hqn] at ha
      exact h.2 a x ha
theorem mLH_set2 {LL : List Nat} {ls ls' : Array Slot} {L : mL} {n : Nat} {x : Int64} (hq : oq.category = 1) (h : mLH ad oq LL ls L) (hm : n ∈ LL) (hn : ∀ a ∈ LL, a + 1 ≠ n)
    (h' : lv_has ls' L.length ((n, .long x) :: (mPr ad oq L).filter (fun q => !(q.1 == n) && (!(q.1 == n + 1) && !(q.1 + 1 == n && q.2.category == 2))))) : mLH ad oq LL ls' ((L.set n (some (.inr (.inl x)))).set (n + 1) none) := by
  have g : ∀ (a : Nat) (w : mV), ((L.set n (some (.inr (.inl x)))).set (n + 1) none)[a]? = some (some w) → (a = n ∧ w = .inr (.inl x)) ∨ (a ≠ n ∧ a ≠ n + 1 ∧ L[a]? = some (some w)) := by
    intro a w hw
    rw [List.getElem?_set] at hw
    by_cases h1 : n + 1 = a
    · rw [if_pos h1] at hw
      split at hw
      · cases hw
      · cases hw
    · rw [if_neg h1, List.getElem?_set] at hw
      by_cases h2 : n = a
      · rw [if_pos h2] at hw
        split at hw
        · cases hw; exact Or.inl ⟨h2.symm, rfl⟩
        · cases hw
      · rw [if_neg h2] at hw
        exact Or.inr ⟨fun z => h2 z.symm, fun z => h1 z.symm, hw⟩
  refine ⟨⟨by rw [List.length_set, List.length_set]; exact h'.1, h'.2.1, fun q hm => ?_⟩, fun a y ha => ?_⟩
  · obtain ⟨w, hw, e⟩ := mPr_of ad oq hm
    rcases g _ _ hw with ⟨h1, h2⟩ | ⟨h1, h2, h3⟩
    · rw [e, h1, h2]
      exact h'.2.2 (n, .long x) List.mem_cons_self
    · refine h'.2.2 q (List.mem_cons_of_mem _ (List.mem_filter.mpr ⟨?_, ?_⟩))
      · have := mPr_mem ad oq h3
        rw [← e] at this
        exact this
      · have e1 : (q.1 == n) = false := beq_eq_false_iff_ne.mpr h1
        have e2 : (q.1 == n + 1) = false := beq_eq_false_iff_ne.mpr h2
        rw [e1, e2]
        show (true && (true && _)) = true
        rw [Bool.true_and, Bool.true_and, Bool.not_eq_true', Bool.and_eq_false_iff]
        by_cases hc : q.2.category = 2
        · left
          rw [e] at hc
          obtain ⟨z, hz⟩ := mE_cat ad oq hq hc
          rw [hz] at h3
          exact beq_eq_false_iff_ne.mpr (hn _ (h.2 _ _ h3))
        · right
          exact beq_eq_false_iff_ne.mpr hc
  · rcases g _ _ ha with ⟨h1, h2⟩ | ⟨h1, h2, h3⟩
    · rw [h1]; exact hm
    · exact h.2 a y h3
end WORLD
end
section
/-! One step of the small machine is a step of the machine -/
def mGd : List Cond := lw_tbl.filter goodWord
def mIsN : Cond → Bool
  | .methodLinkNest .. => true
  | .fieldLinkNest .. => true
  | _ => false
def mNest : List Cond := lw_tbl.filter mIsN
def mStrL : List (String × Nat × String × Nat) := [("RingedLights$Reader", 59, "phase", 0), ("RingedLights$Reader", 68, "cycle", 1), ("RingedLights$Reader", 73, "offset", 2), ("RingedLights$Reader", 78, "break", 3), ("RingedLights$Reader", 197, "track", 4), ("RingedLights$Reader", 205, "dwell", 5), ("RingedLights$Reader", 207, "cut", 6), ("RingedLights$Reader", 158, "min", 7), ("RingedLights$Reader", 159, "pass", 8), ("RingedLights$Reader", 161, "max", 9), ("RingedLights$Reader", 163, "yellow", 10), ("RingedLights$Reader", 165, "clear", 11), ("RingedLights$Reader", 167, "walk", 12), ("RingedLights$Reader", 169, "halt", 13), ("RingedLights$Reader", 171, "recall", 14), ("RingedLights$Reader", 173, "split", 15), ("RingedLights$Reader", 175, "rate", 16), ("RingedLightsModel", 249, " min pass max yellow clear walk halt recall split rate phase cycle offset break track dwell cut ", 17)]
def mStN (j : Nat) : String := match j with
  | 27 => "LEAST_MARK"
  | 28 => "MOST_MARK"
  | _ => "USUAL_MARK"
/-- what a method is: name, bytes, variables, what it returns, of which kind, whether static, its parameters, its instructions, those of two words, its pool -/
abbrev mDat : Type := MethodName × ByteArray × Nat × Option FieldType × (Nat × Nat × Nat) × List mT × List Nat × List (Nat × Nat × Nat × Nat × Nat)
abbrev mdY (q : mDat) : MethodName := q.1
abbrev mdB (q : mDat) : ByteArray := q.2.1
abbrev mdL (q : mDat) : Nat := q.2.2.1
abbrev mdR (q : mDat) : Option FieldType := q.2.2.2.1
abbrev mdK (q : mDat) : Nat := q.2.2.2.2.1.1
abbrev mdC (q : mDat) : Nat := q.2.2.2.2.1.2.1
abbrev mdN (q : mDat) : Nat := q.2.2.2.2.1.2.2
abbrev mdT (q : mDat) : List mT := q.2.2.2.2.2.1
abbrev mdW (q : mDat) : List Nat := q.2.2.2.2.2.2.1
abbrev mdP (q : mDat) : List (Nat × Nat × Nat × Nat × Nat) := q.2.2.2.2.2.2.2
def mClN (ci : Nat) : String := match ci with
  | 0 => RX0 | 1 => RX1 | 2 => RX2 | 3 => RX3 | 4 => RX4 | 5 => RX5 | 6 => RX6 | 7 => "java/lang/String"
  | _ => ""
/-- what the tables say of an entry of a class's pool: 0 a field, 1 a static one, 2 a method, 3 a text, 4 a long, 5 arraycopy -/
def mCpO (dat : Nat → mDat) (own : String) (q : Nat × Nat × Nat × Nat × Nat) : Prop := match q.1 with
  | 0 => (q.2.2.1 = 7 ∧ q.2.2.2.1 = 0 ∧ Cond.fieldLink own q.2.1 "java/lang/String" "value" "[B" ∈ mGd) ∨ (q.2.2.1 = 7 ∧ q.2.2.2.1 = 1 ∧ Cond.fieldLink own q.2.1 "java/lang/String" "coder" "B" ∈ mGd) ∨
      ∃ r, mCLS[q.2.2.1]? = some r ∧ q.2.2.2.1 < r.2.2 ∧ Cond.fieldLink own q.2.1 (r.2.1 q.2.2.2.1).1 (r.2.1 q.2.2.2.1).2.1 (r.2.1 q.2.2.2.1).2.2.1 ∈ mGd
  | 1 => (q.2.2.1 = 0 ∧ (27 ≤ q.2.2.2.1 ∧ q.2.2.2.1 ≤ 29) ∧ (Cond.fieldLink own q.2.1 "RingedLights" (mStN q.2.2.2.1) "[I" ∈ mGd ∨ Cond.fieldLinkNest own q.2.1 "RingedLights" (mStN q.2.2.2.1) "[I" "RingedLights" ∈ mNest)) ∨
      (q.2.2.1 = 1 ∧ Cond.fieldLink own q.2.1 "java/lang/String" "COMPACT_STRINGS" "Z" ∈ mGd) ∨ (q.2.2.1 = 2 ∧ Cond.fieldLink own q.2.1 "jdk/internal/util/Preconditions" "SIOOBE_FORMATTER" "Ljava/util/function/BiFunction;" ∈ mGd)
  | 2 => q.2.2.2.1 = mdN (dat q.2.2.1) + (if mdC (dat q.2.2.1) = 99 then 0 else 1) ∧ q.2.2.2.2 = mdC (dat q.2.2.1) ∧ (Cond.methodLink own q.2.1 (mdY (dat q.2.2.1)) ∈ mGd ∨ Cond.methodLinkNest own q.2.1 (mdY (dat q.2.2.1)) "RingedLights" ∈ mNest)
  | 3 => ∃ tx, (own, q.2.1, tx, q.2.2.1) ∈ mStrL
  | 4 => Cond.constantLong own q.2.1 (Int64.ofNat q.2.2.1) ∈ mGd
  | 5 => Cond.methodLink own q.2.1 arraycopyName ∈ mGd
  | _ => False
/-- what the tables say of a method -/
def mMO (q : mDat) : Prop := Cond.code (mdY q) (mdB q) (mdL q) (mdR q) ∈ mGd ∧ mdL q ≤ 17 ∧ plainFor (mdY q) = true ∧ ((mdY q).cls ≠ "java/lang/invoke/MethodHandle" ∧ (mdY q).cls ≠ "java/lang/invoke/VarHandle" ∧ (parseMethodDescriptor (mdY q).desc).map (fun d => d.parameters.length) = some (mdN q)) ∧ Cond.initialized (mdY q).cls ∈ mGd ∧
  ((mdC q = 99 ∧ Cond.static (mdY q) ∈ mGd) ∨ (mdC q ≠ 99 ∧ Cond.instanceMethod (mdY q) ∈ mGd ∧ Cond.selects (mdY q).cls (mdY q) (mdY q) ∈ mGd ∧ mClN (mdC q) = (mdY q).cls)) ∧
  ((mdK q = 0 ∧ mdR q = none) ∨ (mdK q = 1 ∧ mdR q = some .int) ∨ (mdK q = 2 ∧ mdR q = some .boolean) ∨ (mdK q = 3 ∧ mdR q = some .char) ∨ (mdK q = 4 ∧ mdR q = some .byte) ∨ (mdK q = 5 ∧ ∃ cn, mdR q = some (.object cn)))
def mLn : Instr → Nat
  | .bipush _ => 2 | .iload _ => 2 | .istore _ => 2 | .aload _ => 2 | .astore _ => 2 | .lload _ => 2 | .lstore _ => 2 | .ldc _ => 2
  | .sipush _ => 3 | .ldc2_w _ => 3 | .iinc _ _ => 3 | .ifCond _ _ => 3 | .if_icmp _ _ => 3 | .goto _ => 3 | .getfield _ => 3 | .putfield _ => 3 | .getstatic _ => 3 | .invokevirtual _ => 3 | .invokestatic _ => 3
  | _ => 1
def mSt1 (LL : List Nat) (nL n : Nat) : Bool := Nat.blt n nL && LL.all (fun q => !(Nat.beq (q + 1) n))
def mTsw (pc : Nat) (lo : Int) (offs : List Int) : List (Int32 × Nat) := (List.range offs.length).map (fun (k : Nat) => (Int32.ofInt (lo + (k : Int)), ((pc : Int) + offs.getD k 0).toNat))
def mCkI (LL : List Nat) (nL : Nat) (cp : List (Nat × Nat × Nat × Nat × Nat)) (pc : Nat) (ins : Instr) (a b d : Nat) (sw : List (Int32 × Nat)) : Bool := match ins with
  | .ldc2_w i => cp.contains (4, i, a, b, d)
  | .ldc i => cp.contains (3, i, a, b, d)
  | .istore n => mSt1 LL nL n
  | .istore_n n => mSt1 LL nL n.val
  | .astore n => mSt1 LL nL n
  | .astore_n n => mSt1 LL nL n.val
  | .iinc n _ => mSt1 LL nL n
  | .lstore n => mSt1 LL nL n && LL.contains n && Nat.blt (n + 1) nL
  | .lstore_n n => mSt1 LL nL n.val && LL.contains n.val && Nat.blt (n.val + 1) nL
  | .ifCond _ off => decide ((pc : Int) + off = (a : Int))
  | .if_icmp _ off => decide ((pc : Int) + off = (a : Int))
  | .goto off => decide ((pc : Int) + off = (a : Int))
  | .tableswitch dflt lo hi offs => decide ((pc : Int) + dflt = (a : Int)) && decide (sw = mTsw pc lo offs.toList) && decide (hi = lo + offs.toList.length - 1) && decide (-1000 ≤ lo) && decide (hi ≤ 1000) && offs.toList.all (fun o => decide (0 ≤ (pc : Int) + o)) && decide (0 < offs.toList.length)
  | .lookupswitch dflt ps => decide ((pc : Int) + dflt = (a : Int)) && (ps.toList.zip (ps.toList.drop 1)).all (fun (a, next) => decide (a.1 < next.1)) && decide (sw = ps.toList.map (fun q => (Int32.ofInt q.1, ((pc : Int) + q.2).toNat))) && ps.toList.all (fun q => decide (0 ≤ (pc : Int) + q.2) && decide (-1000 ≤ q.1) && decide (q.1 ≤ 1000))
  | .getfield i => cp.contains (0, i, a, b, d)
  | .putfield i => cp.contains (0, i, a, b, d) && (Nat.blt a 7 && !(Nat.beq a 4 && Nat.beq b 0))
  | .getstatic i => cp.contains (1, i, a, b, d)
  | .invokevirtual i => cp.contains (2, i, a, b, d) && !(Nat.beq d 99)
  | .invokestatic i => (match Nat.beq a 999 with
    | true => cp.contains (5, i, a, b, d)
    | false => (match Nat.beq a 998 with
      | true => true
      | false => cp.contains (2, i, a, b, d) && Nat.beq d 99))
  | _ => true
theorem mGd_in {i : Nat} {w : Cond} (h : lw_tbl[i]? = some w) (hg : goodWord w = true) : w ∈ mGd := List.mem_filter.mpr ⟨List.mem_of_getElem? h, hg⟩
theorem mNest_in {i : Nat} {w : Cond} (h : lw_tbl[i]? = some w) (hg : mIsN w = true) : w ∈ mNest := List.mem_filter.mpr ⟨List.mem_of_getElem? h, hg⟩
theorem mGd_good {w : Cond} (h : w ∈ mGd) : w ∈ mGd ∧ ((w.onTables && w.keeps) = true ∨ ∃ ty, w = .arrayClass ty) := ⟨h, good_of_word (List.mem_filter.mp h).2⟩
theorem mNest_warm {w : Cond} {s U : State} (hw : w ∈ mNest) (hW : s.WarmedH U.vm) (h : va_Nw w s) : va_Nw w U := by
  have h2 := (List.mem_filter.mp hw).2
  cases w
  case methodLinkNest a i x h0 => exact va_Nw.warmM hW h
  case fieldLinkNest a i b n d h0 => exact va_Nw.warmF hW h
  all_goals cases h2
theorem mNest_tab {w : Cond} (hw : w ∈ mNest) : w.onTables = true := by
  have h2 := (List.mem_filter.mp hw).2
  cases w
  case methodLinkNest => rfl
  case fieldLinkNest => rfl
  all_goals cases h2
section RO
variable (ad : Nat → Nat → Nat) (oq : Value) (X : mX)
/-- what stays all along: texts, rows of the marks, statics, the script -/
def mRo (A : Nat → Prop) (s : State) : Prop :=
  (∀ i j n b, mIn (i, j) → 25 ≤ j → mArr X i j = some (n, b) → va_T (if b then .byte else .int) (ad i j) n (fun k => .int (mRO X i j k)) A s s.heap) ∧
  (∀ n, n < 18 → va_O "java/lang/String" (ad n 24) A s s.heap ∧ va_OF "java/lang/String" "coder" "B" (.int 0) (ad n 24) A s s.heap ∧ va_OF "java/lang/String" "value" "[B" (.ref (ad n 25)) (ad n 24) A s s.heap) ∧
  (∀ j, 27 ≤ j ∧ j ≤ 29 → va_Z "RingedLights" (mStN j) "[I" (.ref (ad 9 j)) A s s.heap) ∧
  va_Z "java/lang/String" "COMPACT_STRINGS" "Z" (.int 1) A s s.heap ∧ va_Z "jdk/internal/util/Preconditions" "SIOOBE_FORMATTER" "Ljava/util/function/BiFunction;" oq A s s.heap ∧
  (∀ q ∈ mStrL, vk_R q.1 q.2.1 q.2.2.1 (ad q.2.2.2 24) s) ∧ (∀ w ∈ mNest, va_Nw w s)
theorem mRo_moved {A A1 : Nat → Prop} {s U : State} {H : Heap} {locs : List Loc} (h : mRo ad oq X A s) (hS : va_S A s.heap H locs) (hA : ∀ q, A1 q → A q) (hU : U.heap = H) (hW : s.WarmedH U.vm) : mRo ad oq X A1 U := by
  obtain ⟨h1, h2, h3, h4, h5, h6, h7⟩ := h
  have hv : s.vm.Alike U.vm := hW.alike
  subst hU
  refine ⟨fun i j n b q1 q2 q3 => ((h1 i j n b q1 q2 q3).kept hS.2.1).narrow hA |>.moved hv, fun n hn => ⟨va_O.moved hv (((h2 n hn).1.kept hS.2.1).narrow hA), va_OF.moved hv (((h2 n hn).2.1.kept hS.2.1).narrow hA), va_OF.moved hv (((h2 n hn).2.2.kept hS.2.1).narrow hA)⟩, fun j hj => va_Z.moved hv (((h3 j hj).kept hS.2.1).narrow hA), va_Z.moved hv ((h4.kept hS.2.1).narrow hA), va_Z.moved hv ((h5.kept hS.2.1).narrow hA), fun q hq => vk_R.warm hW (h6 q hq), fun w hw => mNest_warm hw hW (h7 w hw)⟩
/-- the same, at a state over the same tables and heap -/
theorem mRo_same {A : Nat → Prop} {s U : State} (h : mRo ad oq X A s) (hv : U.vm = s.vm) (hh : U.heap = s.heap) : mRo ad oq X A U := by
  obtain ⟨h1, h2, h3, h4, h5, h6, h7⟩ := h
  have ha : s.vm.Alike U.vm := by rw [hv]; exact Vm.Alike.refl _
  refine ⟨fun i j n b q1 q2 q3 => ?_, fun n hn => ?_, fun j hj => ?_, ?_, ?_, fun q hq => vk_R.same hv (h6 q hq), fun w hw => va_Nw.same (mNest_tab hw) hv.symm (h7 w hw)⟩
  · rw [hh]; exact va_T.moved ha (h1 i j n b q1 q2 q3)
  · rw [hh]; exact ⟨va_O.moved ha (h2 n hn).1, va_OF.moved ha (h2 n hn).2.1, va_OF.moved ha (h2 n hn).2.2⟩
  · rw [hh]; exact va_Z.moved ha (h3 j hj)
  · rw [hh]; exact va_Z.moved ha h4
  · rw [hh]; exact va_Z.moved ha h5
end RO
end
section
/-! One instruction -/
theorem mAns_some {k : mK} {nx : List mT} {L : mL} {st : List mV} {x : mR} {res : Option mV × mG} (h : mAns k nx L st x = some res) : ∃ r g, x = some (r, g) ∧ k nx L (r.toList ++ st) g = some res := by
  unfold mAns at h
  split at h
  · cases h
  · exact ⟨none, _, rfl, h⟩
  · exact ⟨some _, _, rfl, h⟩
section STEP
variable {ad : Nat → Nat → Nat} {oq : Value} {dC : Nat → ClassId} {dI : Nat → Nat → Nat} {aI aB : ClassId} {X : mX}
variable {p : Program} {l : Launch} {e : Env} {R : Room} {s : State} {m : MethodId} {args : Array Value} {below : List Frame} {meth : Method} {c : Code} {cells slots : Nat} {Q : State → Prop}
variable {cc : ByteArray} {own : String} {LL : List Nat} {nL : Nat} {cp : List (Nat × Nat × Nat × Nat × Nat)} {dat : Nat → mDat} {A : Nat → Prop}
/-- the frame: the machine, the code, what the tables say -/
def mFx (ad : Nat → Nat → Nat) (oq : Value) (dC : Nat → ClassId) (dI : Nat → Nat → Nat) (aI aB : ClassId) (X : mX) (p : Program) (s : State) (m : MethodId) (args : Array Value) (c : Code) (cc : ByteArray) (own : String) (nL : Nat) (cp : List (Nat × Nat × Nat × Nat × Nat)) (dat : Nat → mDat) (A : Nat → Prop) : Prop :=
  p.tables.exec = Jvm.exec ∧ c.code = cc ∧ c.maxLocals = nL ∧ s.vm.findClass own = some m.cls ∧ (∀ w ∈ mGd, w.before args s = true) ∧ va_K (dC, dI) mCLS [(aI, .int), (aB, .byte)] s ∧ mRo ad oq X A s ∧ (∀ q ∈ cp, mCpO dat own q) ∧ oq.category = 1
def mHp (ad : Nat → Nat → Nat) (dC : Nat → ClassId) (dI : Nat → Nat → Nat) (aI aB : ClassId) (s : State) (A : Nat → Prop) (g : mG) (H : Heap) (locs : List Loc) : Prop := va_P (dC, dI) mCLS (mWs ad aI aB g) H ∧ va_D A (mWs ad aI aB g) ∧ va_S A s.heap H locs
/-- from here on all goes well -/
def mWk (ad : Nat → Nat → Nat) (oq : Value) (dC : Nat → ClassId) (dI : Nat → Nat → Nat) (aI aB : ClassId) (p : Program) (l : Launch) (e : Env) (R : Room) (s : State) (m : MethodId) (args : Array Value) (below : List Frame) (meth : Method) (c : Code) (cells slots : Nat) (Q : State → Prop) (LL : List Nat) (A : Nat → Prop) (pc : Nat) (L : mL) (st : List mV) (g : mG) : Prop :=
  ∀ (H : Heap) (locs : List Loc) (ls : Array Slot), mHp ad dC dI aI aB s A g H locs → mLH ad oq LL ls L → W p l e R s m args below meth c H locs cells slots Q (F0 m pc ls (st.map (mE ad oq)))
/-- the answers of calls -/
def mCa (ad : Nat → Nat → Nat) (oq : Value) (dC : Nat → ClassId) (dI : Nat → Nat → Nat) (aI aB : ClassId) (X : mX) (l : Launch) (R : Room) (dat : Nat → mDat) (call : Nat → List mV → mG → mR) : Prop :=
  ∀ (a : Nat) (vs : List mV) (g : mG) (r : Option mV) (g' : mG), call a vs g = some (r, g') → mOs vs → ∃ rm : Room, rm.frames + 1 ≤ R.frames ∧ rm.locals + 36 ≤ R.locals ∧ rm.cells = 0 ∧ rm.slots = 0 ∧ mMO (dat a) ∧
    Met l (mdY (dat a)) (Cond.code (mdY (dat a)) (mdB (dat a)) (mdL (dat a)) (mdR (dat a)) :: mGd) rm
      (va_Pc (vs.map (mE ad oq)) (fun U => va_P (dC, dI) mCLS (mWs ad aI aB g) U.heap ∧ va_D (mAd ad) (mWs ad aI aB g) ∧ va_K (dC, dI) mCLS [(aI, .int), (aB, .byte)] U ∧ mRo ad oq X (mAd ad) U))
      (fun _ st oc t => oc = .returned (r.map (mE ad oq)) ∧ ((∀ v, r = some v → mOv v) ∧ va_P (dC, dI) mCLS (mWs ad aI aB g') t.heap) ∧ va_F (mAd ad) st t) 0 0 (mAd ad)
theorem mE_ref {i j : Nat} (h : i ≠ 99) : mE ad oq (.inr (.inr (i, j))) = .ref (ad i j) := by
  have : Nat.beq i 99 = false := by
    cases hb : Nat.beq i 99 with
    | false => rfl
    | true => exact absurd (Nat.eq_of_beq_eq_true hb) h
  unfold mE
  dsimp only
  rw [this]
theorem mE_refIn {q : Nat × Nat} (h : q ∈ mCL) : mE ad oq (.inr (.inr q)) = .ref (ad q.1 q.2) := by
  obtain ⟨i, j⟩ := q
  exact mE_ref (mCL_99 _ h).1
/-- a store into a cell -/
theorem mHp_set {g : mG} {q : Nat × Nat} {c' : mC} {n : Nat} {x : va_E} {H1 : Heap} {locs1 : List Loc} {s : State} (hn : mCL[n]? = some q) (hx : x = mEnt ad aI aB (mU g q.1 c') q) (hc : ∀ j', j' ≠ q.2 → c' j' = g q.1 j')
    (hP : va_P (dC, dI) mCLS ((mWs ad aI aB g).set n (ad q.1 q.2, x)) H1) (hD : va_D A (mWs ad aI aB g)) (hS : va_S A s.heap H1 locs1) : mHp ad dC dI aI aB s A (mU g q.1 c') H1 locs1 := by
  have e : (mWs ad aI aB g).set n (ad q.1 q.2, x) = mWs ad aI aB (mU g q.1 c') := mWs_set ad aI aB hn hx (fun r _ hr => mEnt_cong ad aI aB (mU_other (i := q.1) (j := q.2) hc (by simpa using hr)))
  rw [e] at hP
  exact ⟨hP, mD_of ad aI aB hD, hS⟩
theorem mEnt_obj {g : mG} {q : Nat × Nat} {ci : Nat} (h : mCls q.2 = some ci) : mEnt ad aI aB g q = .inr (ci, (List.range (mNF ci)).map (fun k => mFv ad g q.1 q.2 k)) := by
  unfold mEnt; rw [h]
theorem mArr_X {X Y : mX} {i j : Nat} (h : j ≤ 23) : mArr X i j = mArr Y i j := by
  unfold mArr
  split <;> first | rfl | omega
theorem mArr_cls {X : mX} {i j n : Nat} {b : Bool} (h : mArr X i j = some (n, b)) : mCls j = none := by
  unfold mArr at h
  split at h <;> first | rfl | cases h
theorem mEnt_arrI {g : mG} {q : Nat × Nat} {n : Nat} (hj : q.2 ≤ 23) (h : mArr X q.1 q.2 = some (n, false)) : mEnt ad aI aB g q = .inl (aI, n, .inl (g q.1 q.2)) := by
  unfold mEnt
  rw [mArr_cls h, mArr_X (Y := X) hj, h]
theorem mEnt_arrB {g : mG} {q : Nat × Nat} {n : Nat} (hj : q.2 ≤ 23) (h : mArr X q.1 q.2 = some (n, true)) : mEnt ad aI aB g q = .inl (aB, n, .inl (g q.1 q.2)) := by
  unfold mEnt
  rw [mArr_cls h, mArr_X (Y := X) hj, h]
theorem mCLS_nf : ∀ (ci : Nat) (r : vw_C), mCLS[ci]? = some r → mNF ci = r.2.2 := by
  intro ci r h
  rcases ci with _ | _ | _ | _ | _ | _ | _ | ci <;> first | (cases h; rfl) | (simp at h)
theorem mU_same (g : mG) (i : Nat) (c' : mC) : mU g i c' i = c' := by
  funext j; unfold mU; rw [if_pos rfl]
theorem mP_upd (f : mC) (j k : Nat) (v : Int32) : mP f j k v j = upd (f j) k v := by
  funext q
  unfold mP upd
  by_cases h : q = k
  · rw [if_pos ⟨rfl, h⟩, if_pos h]
  · rw [if_neg (fun z => h z.2), if_neg h]
theorem mFv_set {g : mG} {i j b ci : Nat} {v : Int32} (hr : mRef i j b = none) (hb : b < mNF ci) : (((List.range (mNF ci)).map (fun k => mFv ad g i j k)).set b (.int v)) = (List.range (mNF ci)).map (fun k => mFv ad (mU g i (mP (g i) j b v)) i j k) := by
  apply List.ext_getElem?
  intro k
  rw [List.getElem?_set]
  by_cases hk : b = k
  · subst hk
    rw [if_pos rfl, if_pos (by simpa using hb), List.getElem?_map, List.getElem?_range hb]
    show _ = some (mFv ad _ i j b)
    unfold mFv
    rw [hr, mU_same]
    show some (Value.int v) = some (Value.int (mP (g i) j b v j b))
    unfold mP
    rw [if_pos ⟨rfl, rfl⟩]
  · rw [if_neg hk, List.getElem?_map, List.getElem?_map]
    cases hc : (List.range (mNF ci))[k]? with
    | none => rfl
    | some k' =>
      have e : k' = k := by
        have h1 := List.getElem?_eq_some_iff.mp hc
        obtain ⟨h2, h3⟩ := h1
        rw [List.getElem_range] at h3
        exact h3.symm
      subst e
      show some (mFv ad g i j k') = some (mFv ad _ i j k')
      unfold mFv
      split
      · rfl
      · rw [mU_same]
        unfold mP
        rw [if_neg (fun z => hk z.2.symm)]
theorem mNar_b {v : Int32} (h : v &&& 1 = v) : narrow .boolean (.int v) = .int v ∧ fits .boolean (.int v) = true := by
  have h1 : narrow .boolean (.int v) = .int v := by
    show Value.int (v &&& 1) = .int v
    rw [h]
  exact ⟨h1, by rw [← h1]; exact fits_narrow_boolean v⟩
theorem mOs_c {v : mV} {st : List mV} (h1 : mOv v) (h2 : mOs st) : mOs (v :: st) := fun w hw => (List.mem_cons.mp hw).elim (fun e => e ▸ h1) (h2 w)
theorem mOs_h {v : mV} {st : List mV} (h : mOs (v :: st)) : mOv v := h v List.mem_cons_self
theorem mOs_t {v : mV} {st : List mV} (h : mOs (v :: st)) : mOs st := fun w hw => h w (List.mem_cons_of_mem _ hw)
theorem mOl_set {L : mL} {n : Nat} {v : mV} (h : mOl L) (hv : mOv v) : mOl (L.set n (some v)) := by
  intro a w hw
  rw [List.getElem?_set] at hw
  split at hw
  · split at hw
    · cases hw; exact hv
    · cases hw
  · exact h a w hw
theorem mOl_setN {L : mL} {n : Nat} (h : mOl L) : mOl (L.set n none) := by
  intro a w hw
  rw [List.getElem?_set] at hw
  split at hw
  · split at hw
    · cases hw
    · cases hw
  · exact h a w hw
theorem mSt1_ok {n : Nat} (h : mSt1 LL nL n = true) : n < nL ∧ ∀ a ∈ LL, a + 1 ≠ n := by
  unfold mSt1 at h
  rw [Bool.and_eq_true] at h
  refine ⟨Nat.blt_eq.mp h.1, fun a ha e => ?_⟩
  have := List.all_eq_true.mp h.2 a ha
  rw [e] at this
  simp at this
variable {Ts : Instr} {len : Nat} {k : mK} {nx full : List mT} {pc : Nat} {L : mL} {st : List mV} {g : mG} {res : Option mV × mG}
/-- what comes next goes well -/
def mNx (ad : Nat → Nat → Nat) (oq : Value) (dC : Nat → ClassId) (dI : Nat → Nat → Nat) (aI aB : ClassId) (p : Program) (l : Launch) (e : Env) (R : Room) (s : State) (m : MethodId) (args : Array Value) (below : List Frame) (meth : Method) (c : Code) (cells slots : Nat) (Q : State → Prop) (LL : List Nat) (nL : Nat) (A : Nat → Prop) (k : mK) (cur : List mT) (res : Option mV × mG) (pc : Nat) : Prop :=
  ∀ (L : mL) (st : List mV) (g : mG), k cur L st g = some res → mOs st → mOl L → L.length = nL → mWk ad oq dC dI aI aB p l e R s m args below meth c cells slots Q LL A pc L st g
theorem mBeq_ne {i n : Nat} (h : Nat.beq i n = false) : i ≠ n := fun e => by rw [e, Nat.beq_refl] at h; cases h
theorem mIn_99 {i j : Nat} (h : mIn (i, j)) (hj : j ≠ 99) : i ≠ 99 := by
  intro e
  rcases h with q | q
  · exact (mCL_99 _ q).1 e
  · have : ∀ q ∈ mROL, q.1 = 99 → q.2 = 99 := by decide +kernel
    exact hj (this _ q e)
theorem mS_ldI {n : Nat} (hn : mNx ad oq dC dI aI aB p l e R s m args below meth c cells slots Q LL nL A k nx res (pc + len)) (h : mLdI n k nx L st g = some res) (hOs : mOs st) (hOl : mOl L) (hLn : L.length = nL)
    (row : ∀ (H : Heap) (locs : List Loc) (ls : Array Slot) (rest : List Value) (v : Int32), ls[n]? = some (.val (.int v)) → W p l e R s m args below meth c H locs cells slots Q (F0 m (pc + len) ls (.int v :: rest)) → W p l e R s m args below meth c H locs cells slots Q (F0 m pc ls rest)) : mWk ad oq dC dI aI aB p l e R s m args below meth c cells slots Q LL A pc L st g := by
  intro H locs ls hH hL
  unfold mLdI at h
  split at h
  next v hv => exact row H locs ls _ v (mLH_at ad oq hL hv) (hn L (.inl v :: st) g h (mOs_c trivial hOs) hOl hLn H locs ls hH hL)
  next => cases h
theorem mS_ldL {n : Nat} (hn : mNx ad oq dC dI aI aB p l e R s m args below meth c cells slots Q LL nL A k nx res (pc + len)) (h : mLdL n k nx L st g = some res) (hOs : mOs st) (hOl : mOl L) (hLn : L.length = nL)
    (row : ∀ (H : Heap) (locs : List Loc) (ls : Array Slot) (rest : List Value) (v : Int64), ls[n]? = some (.val (.long v)) → W p l e R s m args below meth c H locs cells slots Q (F0 m (pc + len) ls (.long v :: rest)) → W p l e R s m args below meth c H locs cells slots Q (F0 m pc ls rest)) : mWk ad oq dC dI aI aB p l e R s m args below meth c cells slots Q LL A pc L st g := by
  intro H locs ls hH hL
  unfold mLdL at h
  split at h
  next v hv => exact row H locs ls _ v (mLH_at ad oq hL hv) (hn L (.inr (.inl v) :: st) g h (mOs_c trivial hOs) hOl hLn H locs ls hH hL)
  next => cases h
theorem mS_ldR {n : Nat} (hn : mNx ad oq dC dI aI aB p l e R s m args below meth c cells slots Q LL nL A k nx res (pc + len)) (h : mLdR n k nx L st g = some res) (hOs : mOs st) (hOl : mOl L) (hLn : L.length = nL)
    (row : ∀ (H : Heap) (locs : List Loc) (ls : Array Slot) (rest : List Value) (v : Nat), ls[n]? = some (.val (.ref v)) → W p l e R s m args below meth c H locs cells slots Q (F0 m (pc + len) ls (.ref v :: rest)) → W p l e R s m args below meth c H locs cells slots Q (F0 m pc ls rest)) : mWk ad oq dC dI aI aB p l e R s m args below meth c cells slots Q LL A pc L st g := by
  intro H locs ls hH hL
  unfold mLdR at h
  split at h
  next i j hv =>
    split at h
    next => cases h
    next hj =>
      have hO := hOl _ _ hv
      have e99 := mIn_99 hO (mBeq_ne hj)
      have h1 := mLH_at ad oq hL hv
      have kk := hn L (.inr (.inr (i, j)) :: st) g h (mOs_c hO hOs) hOl hLn H locs ls hH hL
      rw [mE_ref e99] at h1
      rw [List.map_cons, mE_ref e99] at kk
      exact row H locs ls _ _ h1 kk
  next => cases h
theorem mS_b2 {f : Int32 → Int32 → Int32} (hn : mNx ad oq dC dI aI aB p l e R s m args below meth c cells slots Q LL nL A k nx res (pc + len)) (h : mB2 f k nx L st g = some res) (hOs : mOs st) (hOl : mOl L) (hLn : L.length = nL)
    (row : ∀ (H : Heap) (locs : List Loc) (ls : Array Slot) (rest : List Value) (x y : Int32), W p l e R s m args below meth c H locs cells slots Q (F0 m (pc + len) ls (.int (f x y) :: rest)) → W p l e R s m args below meth c H locs cells slots Q (F0 m pc ls (.int y :: .int x :: rest))) : mWk ad oq dC dI aI aB p l e R s m args below meth c cells slots Q LL A pc L st g := by
  intro H locs ls hH hL
  unfold mB2 at h
  split at h
  next y x r => exact row H locs ls (r.map (mE ad oq)) x y (hn L (.inl (f x y) :: r) g h (mOs_c trivial (mOs_t (mOs_t hOs))) hOl hLn H locs ls hH hL)
  next => cases h
theorem mS_b2n {f : Int32 → Int32 → Int32} (hn : mNx ad oq dC dI aI aB p l e R s m args below meth c cells slots Q LL nL A k nx res (pc + len)) (h : mB2n f k nx L st g = some res) (hOs : mOs st) (hOl : mOl L) (hLn : L.length = nL)
    (row : ∀ (H : Heap) (locs : List Loc) (ls : Array Slot) (rest : List Value) (x y : Int32), ¬ y = 0 → W p l e R s m args below meth c H locs cells slots Q (F0 m (pc + len) ls (.int (f x y) :: rest)) → W p l e R s m args below meth c H locs cells slots Q (F0 m pc ls (.int y :: .int x :: rest))) : mWk ad oq dC dI aI aB p l e R s m args below meth c cells slots Q LL A pc L st g := by
  intro H locs ls hH hL
  unfold mB2n at h
  split at h
  next y x r =>
    split at h
    next => cases h
    next hy => exact row H locs ls (r.map (mE ad oq)) x y hy (hn L (.inl (f x y) :: r) g h (mOs_c trivial (mOs_t (mOs_t hOs))) hOl hLn H locs ls hH hL)
  next => cases h
theorem mS_j2 {f : Int64 → Int64 → Int64} (hn : mNx ad oq dC dI aI aB p l e R s m args below meth c cells slots Q LL nL A k nx res (pc + len)) (h : mJ2 f k nx L st g = some res) (hOs : mOs st) (hOl : mOl L) (hLn : L.length = nL)
    (row : ∀ (H : Heap) (locs : List Loc) (ls : Array Slot) (rest : List Value) (x y : Int64), W p l e R s m args below meth c H locs cells slots Q (F0 m (pc + len) ls (.long (f x y) :: rest)) → W p l e R s m args below meth c H locs cells slots Q (F0 m pc ls (.long y :: .long x :: rest))) : mWk ad oq dC dI aI aB p l e R s m args below meth c cells slots Q LL A pc L st g := by
  intro H locs ls hH hL
  unfold mJ2 at h
  split at h
  next y x r => exact row H locs ls (r.map (mE ad oq)) x y (hn L (.inr (.inl (f x y)) :: r) g h (mOs_c trivial (mOs_t (mOs_t hOs))) hOl hLn H locs ls hH hL)
  next => cases h
theorem mS_j2n {f : Int64 → Int64 → Int64} (hn : mNx ad oq dC dI aI aB p l e R s m args below meth c cells slots Q LL nL A k nx res (pc + len)) (h : mJ2n f k nx L st g = some res) (hOs : mOs st) (hOl : mOl L) (hLn : L.length = nL)
    (row : ∀ (H : Heap) (locs : List Loc) (ls : Array Slot) (rest : List Value) (x y : Int64), ¬ y = 0 → W p l e R s m args below meth c H locs cells slots Q (F0 m (pc + len) ls (.long (f x y) :: rest)) → W p l e R s m args below meth c H locs cells slots Q (F0 m pc ls (.long y :: .long x :: rest))) : mWk ad oq dC dI aI aB p l e R s m args below meth c cells slots Q LL A pc L st g := by
  intro H locs ls hH hL
  unfold mJ2n at h
  split at h
  next y x r =>
    split at h
    next => cases h
    next hy => exact row H locs ls (r.map (mE ad oq)) x y hy (hn L (.inr (.inl (f x y)) :: r) g h (mOs_c trivial (mOs_t (mOs_t hOs))) hOl hLn H locs ls hH hL)
  next => cases h
theorem mS_lcmp  (hn : mNx ad oq dC dI aI aB p l e R s m args below meth c cells slots Q LL nL A k nx res (pc + len)) (h : mLcmp k nx L st g = some res) (hOs : mOs st) (hOl : mOl L) (hLn : L.length = nL)
    (row : ∀ (H : Heap) (locs : List Loc) (ls : Array Slot) (rest : List Value) (x y : Int64), W p l e R s m args below meth c H locs cells slots Q (F0 m (pc + len) ls (.int (lg_cmp x y) :: rest)) → W p l e R s m args below meth c H locs cells slots Q (F0 m pc ls (.long y :: .long x :: rest))) : mWk ad oq dC dI aI aB p l e R s m args below meth c cells slots Q LL A pc L st g := by
  intro H locs ls hH hL
  unfold mLcmp at h
  split at h
  next y x r => exact row H locs ls (r.map (mE ad oq)) x y (hn L (.inl (lg_cmp x y) :: r) g h (mOs_c trivial (mOs_t (mOs_t hOs))) hOl hLn H locs ls hH hL)
  next => cases h
theorem mS_i2l  (hn : mNx ad oq dC dI aI aB p l e R s m args below meth c cells slots Q LL nL A k nx res (pc + len)) (h : mI2l k nx L st g = some res) (hOs : mOs st) (hOl : mOl L) (hLn : L.length = nL)
    (row : ∀ (H : Heap) (locs : List Loc) (ls : Array Slot) (rest : List Value) (x : Int32), W p l e R s m args below meth c H locs cells slots Q (F0 m (pc + len) ls (.long x.toInt64 :: rest)) → W p l e R s m args below meth c H locs cells slots Q (F0 m pc ls (.int x :: rest))) : mWk ad oq dC dI aI aB p l e R s m args below meth c cells slots Q LL A pc L st g := by
  intro H locs ls hH hL
  unfold mI2l at h
  split at h
  next x r => exact row H locs ls (r.map (mE ad oq)) x (hn L (.inr (.inl x.toInt64) :: r) g h (mOs_c trivial (mOs_t hOs)) hOl hLn H locs ls hH hL)
  next => cases h
theorem mS_l2i  (hn : mNx ad oq dC dI aI aB p l e R s m args below meth c cells slots Q LL nL A k nx res (pc + len)) (h : mL2i k nx L st g = some res) (hOs : mOs st) (hOl : mOl L) (hLn : L.length = nL)
    (row : ∀ (H : Heap) (locs : List Loc) (ls : Array Slot) (rest : List Value) (x : Int64), W p l e R s m args below meth c H locs cells slots Q (F0 m (pc + len) ls (.int x.toInt32 :: rest)) → W p l e R s m args below meth c H locs cells slots Q (F0 m pc ls (.long x :: rest))) : mWk ad oq dC dI aI aB p l e R s m args below meth c cells slots Q LL A pc L st g := by
  intro H locs ls hH hL
  unfold mL2i at h
  split at h
  next x r => exact row H locs ls (r.map (mE ad oq)) x (hn L (.inl x.toInt32 :: r) g h (mOs_c trivial (mOs_t hOs)) hOl hLn H locs ls hH hL)
  next => cases h
theorem mS_i2b  (hn : mNx ad oq dC dI aI aB p l e R s m args below meth c cells slots Q LL nL A k nx res (pc + len)) (h : mI2b k nx L st g = some res) (hOs : mOs st) (hOl : mOl L) (hLn : L.length = nL)
    (row : ∀ (H : Heap) (locs : List Loc) (ls : Array Slot) (rest : List Value) (x : Int32), W p l e R s m args below meth c H locs cells slots Q (F0 m (pc + len) ls (.int x.toInt8.toInt32 :: rest)) → W p l e R s m args below meth c H locs cells slots Q (F0 m pc ls (.int x :: rest))) : mWk ad oq dC dI aI aB p l e R s m args below meth c cells slots Q LL A pc L st g := by
  intro H locs ls hH hL
  unfold mI2b at h
  split at h
  next x r => exact row H locs ls (r.map (mE ad oq)) x (hn L (.inl x.toInt8.toInt32 :: r) g h (mOs_c trivial (mOs_t hOs)) hOl hLn H locs ls hH hL)
  next => cases h
theorem mS_i2c  (hn : mNx ad oq dC dI aI aB p l e R s m args below meth c cells slots Q LL nL A k nx res (pc + len)) (h : mI2c k nx L st g = some res) (hOs : mOs st) (hOl : mOl L) (hLn : L.length = nL)
    (row : ∀ (H : Heap) (locs : List Loc) (ls : Array Slot) (rest : List Value) (x : Int32), W p l e R s m args below meth c H locs cells slots Q (F0 m (pc + len) ls (.int (x.toUInt32 % 65536).toInt32 :: rest)) → W p l e R s m args below meth c H locs cells slots Q (F0 m pc ls (.int x :: rest))) : mWk ad oq dC dI aI aB p l e R s m args below meth c cells slots Q LL A pc L st g := by
  intro H locs ls hH hL
  unfold mI2c at h
  split at h
  next x r => exact row H locs ls (r.map (mE ad oq)) x (hn L (.inl (x.toUInt32 % 65536).toInt32 :: r) g h (mOs_c trivial (mOs_t hOs)) hOl hLn H locs ls hH hL)
  next => cases h
theorem mS_stI {n : Nat} (F : mFx ad oq dC dI aI aB X p s m args c cc own nL cp dat A) (hn : mNx ad oq dC dI aI aB p l e R s m args below meth c cells slots Q LL nL A k nx res (pc + len)) (h : mStI n k nx L st g = some res) (hOs : mOs st) (hOl : mOl L) (hLn : L.length = nL) (hck : mSt1 LL nL n = true)
    (row : ∀ (H : Heap) (locs : List Loc) (ls : Array Slot) (rest : List Value) (lv : List (Nat × Value)) (v : Value) (x : mV), mNoL x = true → v = mE ad oq x → (∃ q, x = .inl q) → lv_has ls nL lv → n < nL → (∀ ls' : Array Slot, lv_has ls' nL ((n, v) :: lv.filter (fun q => !(q.1 == n) && !(q.1 + 1 == n && q.2.category == 2))) → W p l e R s m args below meth c H locs cells slots Q (F0 m (pc + len) ls' rest)) → W p l e R s m args below meth c H locs cells slots Q (F0 m pc ls (v :: rest))) : mWk ad oq dC dI aI aB p l e R s m args below meth c cells slots Q LL A pc L st g := by
  intro H locs ls hH hL
  obtain ⟨h1, h2⟩ := mSt1_ok hck
  unfold mStI at h
  split at h
  next v r =>
    refine row H locs ls (r.map (mE ad oq)) (mPr ad oq L) _ (.inl v) rfl rfl ⟨v, rfl⟩ (hLn ▸ hL.1) h1 (fun ls' h' => ?_)
    exact hn (L.set n (some (.inl v))) r g h (mOs_t hOs) (mOl_set hOl (mOs_h hOs)) (by rw [List.length_set]; exact hLn) H locs ls' hH (mLH_set ad oq F.2.2.2.2.2.2.2.2 hL rfl h2 (hLn ▸ h'))
  next => cases h
theorem mS_stR {n : Nat} (F : mFx ad oq dC dI aI aB X p s m args c cc own nL cp dat A) (hn : mNx ad oq dC dI aI aB p l e R s m args below meth c cells slots Q LL nL A k nx res (pc + len)) (h : mStR n k nx L st g = some res) (hOs : mOs st) (hOl : mOl L) (hLn : L.length = nL) (hck : mSt1 LL nL n = true)
    (row : ∀ (H : Heap) (locs : List Loc) (ls : Array Slot) (rest : List Value) (lv : List (Nat × Value)) (v : Value) (x : Nat), v = .ref x → lv_has ls nL lv → n < nL → (∀ ls' : Array Slot, lv_has ls' nL ((n, v) :: lv.filter (fun q => !(q.1 == n) && !(q.1 + 1 == n && q.2.category == 2))) → W p l e R s m args below meth c H locs cells slots Q (F0 m (pc + len) ls' rest)) → W p l e R s m args below meth c H locs cells slots Q (F0 m pc ls (v :: rest))) : mWk ad oq dC dI aI aB p l e R s m args below meth c cells slots Q LL A pc L st g := by
  intro H locs ls hH hL
  obtain ⟨h1, h2⟩ := mSt1_ok hck
  unfold mStR at h
  split at h
  next i j r =>
    split at h
    next => cases h
    next hj =>
      have hO := mOs_h hOs
      have e99 := mIn_99 hO (mBeq_ne hj)
      have e := mE_ref (ad := ad) (oq := oq) (j := j) e99
      rw [List.map_cons, e]
      refine row H locs ls (r.map (mE ad oq)) (mPr ad oq L) _ (ad i j) rfl (hLn ▸ hL.1) h1 (fun ls' h' => ?_)
      rw [← e] at h'
      exact hn (L.set n (some (.inr (.inr (i, j))))) r g h (mOs_t hOs) (mOl_set hOl hO) (by rw [List.length_set]; exact hLn) H locs ls' hH (mLH_set ad oq F.2.2.2.2.2.2.2.2 hL rfl h2 (hLn ▸ h'))
  next => cases h
theorem mS_stL {n : Nat} (F : mFx ad oq dC dI aI aB X p s m args c cc own nL cp dat A) (hn : mNx ad oq dC dI aI aB p l e R s m args below meth c cells slots Q LL nL A k nx res (pc + len)) (h : mStL n k nx L st g = some res) (hOs : mOs st) (hOl : mOl L) (hLn : L.length = nL) (hck : mSt1 LL nL n = true) (hm : n ∈ LL) (hb : n + 1 < nL)
    (row : ∀ (H : Heap) (locs : List Loc) (ls : Array Slot) (rest : List Value) (lv : List (Nat × Value)) (x : Int64), lv_has ls nL lv → (∀ ls' : Array Slot, lv_has ls' nL ((n, .long x) :: lv.filter (fun q => !(q.1 == n) && (!(q.1 == n + 1) && !(q.1 + 1 == n && q.2.category == 2)))) → W p l e R s m args below meth c H locs cells slots Q (F0 m (pc + len) ls' rest)) → W p l e R s m args below meth c H locs cells slots Q (F0 m pc ls (.long x :: rest))) : mWk ad oq dC dI aI aB p l e R s m args below meth c cells slots Q LL A pc L st g := by
  intro H locs ls hH hL
  obtain ⟨h1, h2⟩ := mSt1_ok hck
  unfold mStL at h
  split at h
  next v r =>
    refine row H locs ls (r.map (mE ad oq)) (mPr ad oq L) v (hLn ▸ hL.1) (fun ls' h' => ?_)
    exact hn ((L.set n (some (.inr (.inl v)))).set (n + 1) none) r g h (mOs_t hOs) (mOl_setN (mOl_set hOl (mOs_h hOs))) (by rw [List.length_set, List.length_set]; exact hLn) H locs ls' hH (mLH_set2 ad oq F.2.2.2.2.2.2.2.2 hL hm h2 (hLn ▸ h'))
  next => cases h
theorem mS_inc {n : Nat} {q : Int} (F : mFx ad oq dC dI aI aB X p s m args c cc own nL cp dat A) (hn : mNx ad oq dC dI aI aB p l e R s m args below meth c cells slots Q LL nL A k nx res (pc + len)) (h : mInc n q k nx L st g = some res) (hOs : mOs st) (hOl : mOl L) (hLn : L.length = nL) (hck : mSt1 LL nL n = true)
    (row : ∀ (H : Heap) (locs : List Loc) (ls : Array Slot) (rest : List Value) (lv : List (Nat × Value)) (x : Int32) (a : Nat), lv_has ls nL lv → lv[a]? = some (n, .int x) → n < nL → (∀ ls' : Array Slot, lv_has ls' nL ((n, .int (x + Int32.ofInt q)) :: lv.filter (fun q => !(q.1 == n) && !(q.1 + 1 == n && q.2.category == 2))) → W p l e R s m args below meth c H locs cells slots Q (F0 m (pc + len) ls' rest)) → W p l e R s m args below meth c H locs cells slots Q (F0 m pc ls rest)) : mWk ad oq dC dI aI aB p l e R s m args below meth c cells slots Q LL A pc L st g := by
  intro H locs ls hH hL
  obtain ⟨h1, h2⟩ := mSt1_ok hck
  unfold mInc at h
  split at h
  next x hx =>
    obtain ⟨a, ha⟩ := List.getElem?_of_mem (mPr_mem ad oq hx)
    refine row H locs ls (st.map (mE ad oq)) (mPr ad oq L) x a (hLn ▸ hL.1) ha h1 (fun ls' h' => ?_)
    exact hn (L.set n (some (.inl (x + Int32.ofInt q)))) st g h hOs (mOl_set hOl trivial) (by rw [List.length_set]; exact hLn) H locs ls' hH (mLH_set ad oq F.2.2.2.2.2.2.2.2 hL rfl h2 (hLn ▸ h'))
  next => cases h
end STEP
end
section
/-! branches, stack, cells, calls, ends -/
section STEP2
variable {ad : Nat → Nat → Nat} {oq : Value} {dC : Nat → ClassId} {dI : Nat → Nat → Nat} {aI aB : ClassId} {X : mX}
variable {p : Program} {l : Launch} {e : Env} {R : Room} {s : State} {m : MethodId} {args : Array Value} {below : List Frame} {meth : Method} {c : Code} {cells slots : Nat} {Q : State → Prop}
variable {cc : ByteArray} {own : String} {LL : List Nat} {nL : Nat} {cp : List (Nat × Nat × Nat × Nat × Nat)} {dat : Nat → mDat} {A : Nat → Prop}
variable {k : mK} {nx full : List mT} {pc : Nat} {L : mL} {st : List mV} {g : mG} {res : Option mV × mG}
theorem mS_if1 {cd : ClassFile.Cond} {off : Int} {a : Nat} (F : mFx ad oq dC dI aI aB X p s m args c cc own nL cp dat A) (hd : decode cc pc = .ok (.ifCond cd off, 3)) (ht : (pc : Int) + off = (a : Int)) (hn : mNx ad oq dC dI aI aB p l e R s m args below meth c cells slots Q LL nL A k nx res (pc + 3)) (hj : mNx ad oq dC dI aI aB p l e R s m args below meth c cells slots Q LL nL A k (mDrop full a) res a) (h : mIf1 cd (mDrop full a) k nx L st g = some res) (hOs : mOs st) (hOl : mOl L) (hLn : L.length = nL) : mWk ad oq dC dI aI aB p l e R s m args below meth c cells slots Q LL A pc L st g := by
  obtain ⟨hx, hb, -⟩ := F
  intro H locs ls hH hL
  unfold mIf1 at h
  split at h
  next x r =>
    have kn := fun (h : k nx L r g = some res) => hn L r g h (mOs_t hOs) hOl hLn H locs ls hH hL
    have kj := fun (h : k (mDrop full a) L r g = some res) => hj L r g h (mOs_t hOs) hOl hLn H locs ls hH hL
    split at h
    · exact lv_if_eq (tgt := a) hx hb hd ht (fun q => kj (by rw [if_pos q] at h; exact h)) (fun q => kn (by rw [if_neg q] at h; exact h))
    · exact lv_if_ne (tgt := a) hx hb hd ht (fun q => kj (by rw [if_neg q] at h; exact h)) (fun q => kn (by rw [if_pos q] at h; exact h))
    · exact lv_if_lt (tgt := a) hx hb hd ht (fun q => kj (by rw [if_pos q] at h; exact h)) (fun q => kn (by rw [if_neg q] at h; exact h))
    · exact lv_if_ge (tgt := a) hx hb hd ht (fun q => kj (by rw [if_pos q] at h; exact h)) (fun q => kn (by rw [if_neg q] at h; exact h))
    · exact lv_if_gt (tgt := a) hx hb hd ht (fun q => kj (by rw [if_pos q] at h; exact h)) (fun q => kn (by rw [if_neg q] at h; exact h))
    · exact lv_if_le (tgt := a) hx hb hd ht (fun q => kj (by rw [if_pos q] at h; exact h)) (fun q => kn (by rw [if_neg q] at h; exact h))
  next => cases h
theorem mS_if2 {cd : ClassFile.Cond} {off : Int} {a : Nat} (F : mFx ad oq dC dI aI aB X p s m args c cc own nL cp dat A) (hd : decode cc pc = .ok (.if_icmp cd off, 3)) (ht : (pc : Int) + off = (a : Int)) (hn : mNx ad oq dC dI aI aB p l e R s m args below meth c cells slots Q LL nL A k nx res (pc + 3)) (hj : mNx ad oq dC dI aI aB p l e R s m args below meth c cells slots Q LL nL A k (mDrop full a) res a) (h : mIf2 cd (mDrop full a) k nx L st g = some res) (hOs : mOs st) (hOl : mOl L) (hLn : L.length = nL) : mWk ad oq dC dI aI aB p l e R s m args below meth c cells slots Q LL A pc L st g := by
  obtain ⟨hx, hb, -⟩ := F
  intro H locs ls hH hL
  unfold mIf2 at h
  split at h
  next y x r =>
    have kn := fun (h : k nx L r g = some res) => hn L r g h (mOs_t (mOs_t hOs)) hOl hLn H locs ls hH hL
    have kj := fun (h : k (mDrop full a) L r g = some res) => hj L r g h (mOs_t (mOs_t hOs)) hOl hLn H locs ls hH hL
    split at h
    · exact lv_icmp_eq (tgt := a) hx hb hd ht (fun q => kj (by rw [if_pos q] at h; exact h)) (fun q => kn (by rw [if_neg q] at h; exact h))
    · exact lv_icmp_ne (tgt := a) hx hb hd ht (fun q => kj (by rw [if_neg q] at h; exact h)) (fun q => kn (by rw [if_pos q] at h; exact h))
    · exact lv_icmp_lt (tgt := a) hx hb hd ht (fun q => kj (by rw [if_pos q] at h; exact h)) (fun q => kn (by rw [if_neg q] at h; exact h))
    · exact lv_icmp_ge (tgt := a) hx hb hd ht (fun q => kj (by rw [if_pos q] at h; exact h)) (fun q => kn (by rw [if_neg q] at h; exact h))
    · exact lv_icmp_gt (tgt := a) hx hb hd ht (fun q => kj (by rw [if_pos q] at h; exact h)) (fun q => kn (by rw [if_neg q] at h; exact h))
    · exact lv_icmp_le (tgt := a) hx hb hd ht (fun q => kj (by rw [if_pos q] at h; exact h)) (fun q => kn (by rw [if_neg q] at h; exact h))
  next => cases h
/-- where a switch leads -/
def mSwT (dflt : Nat) (x : Int32) : List (Int32 × Nat) → Nat
  | [] => dflt
  | q :: sw => if x = q.1 then q.2 else mSwT dflt x sw
theorem mSwG_eq (dflt : Nat) (r : List mV) (x : Int32) : ∀ sw : List (Int32 × Nat), mSwG full dflt k L r g x sw = k (mDrop full (mSwT dflt x sw)) L r g
  | [] => rfl
  | q :: sw => by
    unfold mSwG mSwT
    split
    · rfl
    · exact mSwG_eq dflt r x sw
theorem mSwT_no (dflt : Nat) (x : Int32) : ∀ sw : List (Int32 × Nat), (∀ q ∈ sw, x ≠ q.1) → mSwT dflt x sw = dflt
  | [], _ => rfl
  | q :: sw, h => by
    unfold mSwT
    rw [if_neg (h q List.mem_cons_self)]
    exact mSwT_no dflt x sw (fun r hr => h r (List.mem_cons_of_mem _ hr))
theorem mSwT_yes (dflt : Nat) (x : Int32) : ∀ (sw : List (Int32 × Nat)) (n : Nat) (q : Int32 × Nat), sw[n]? = some q → x = q.1 → (∀ a r, a < n → sw[a]? = some r → x ≠ r.1) → mSwT dflt x sw = q.2
  | [], _, _, h, _, _ => by cases h
  | r :: sw, n, q, h, hx, hn => by
    unfold mSwT
    cases n with
    | zero => cases h; rw [if_pos hx]
    | succ n =>
      rw [if_neg (hn 0 r (Nat.succ_pos n) rfl)]
      exact mSwT_yes dflt x sw n q h hx (fun a z ha hz => hn (a + 1) z (Nat.succ_lt_succ ha) hz)
theorem mTsw_at {lo : Int} {offs : List Int} {n : Nat} (h : n < offs.length) : (mTsw pc lo offs)[n]? = some (Int32.ofInt (lo + (n : Int)), ((pc : Int) + offs.getD n 0).toNat) := by
  unfold mTsw
  rw [List.getElem?_map, List.getElem?_range h]
  rfl
theorem mOfI {z : Int} (h1 : -1000 ≤ z) (h2 : z ≤ 1000) : (Int32.ofInt z).toInt = z := by
  rw [Int32.toInt_ofInt]
  simp only [Int.bmod, Int32.size]
  omega
theorem mS_tsw {dflt lo hi : Int} {offs : Array Int} {a b d len : Nat} {sw : List (Int32 × Nat)} (F : mFx ad oq dC dI aI aB X p s m args c cc own nL cp dat A) (hd : decode cc pc = .ok (.tableswitch dflt lo hi offs, len)) (hck : mCkI LL nL cp pc (.tableswitch dflt lo hi offs) a b d sw = true) (hj : ∀ t, mNx ad oq dC dI aI aB p l e R s m args below meth c cells slots Q LL nL A k (mDrop full t) res t) (h : mSw full a sw k L st g = some res) (hOs : mOs st) (hOl : mOl L) (hLn : L.length = nL) : mWk ad oq dC dI aI aB p l e R s m args below meth c cells slots Q LL A pc L st g := by
  obtain ⟨hx, hb, -⟩ := F
  intro H locs ls hH hL
  unfold mCkI at hck
  simp only [Bool.and_eq_true, decide_eq_true_eq] at hck
  obtain ⟨⟨⟨⟨⟨⟨h1, h2⟩, h3⟩, h4⟩, h5⟩, h6⟩, h7⟩ := hck
  unfold mSw at h
  split at h
  next x r =>
    rw [mSwG_eq] at h
    have kj := hj _ L r g h (mOs_t hOs) hOl hLn H locs ls hH hL
    have hsz : offs.size = offs.toList.length := (Array.length_toList).symm
    by_cases hin : x.toInt < lo ∨ hi < x.toInt
    · have e : mSwT a x sw = a := by
        refine mSwT_no a x sw (fun q hq e => ?_)
        rw [h2] at hq
        obtain ⟨n, hn, rfl⟩ := List.mem_map.mp hq
        have hn' := List.mem_range.mp hn
        rw [e] at hin
        rw [show (Int32.ofInt (lo + (n : Int)), ((pc : Int) + offs.toList.getD n 0).toNat).1 = Int32.ofInt (lo + (n : Int)) from rfl, mOfI (by omega) (by omega)] at hin
        omega
      rw [e] at kj
      exact lv_tableOut hx hb hd hin h1 kj
    · have g1 : ¬ x.toInt < lo := fun q => hin (Or.inl q)
      have g2 : ¬ hi < x.toInt := fun q => hin (Or.inr q)
      have hn : (x.toInt - lo).toNat < offs.toList.length := by omega
      have hc : ((x.toInt - lo).toNat : Int) = x.toInt - lo := by omega
      have hxo : x = Int32.ofInt (lo + ((x.toInt - lo).toNat : Int)) := by
        rw [hc, show lo + (x.toInt - lo) = x.toInt by omega, Int32.ofInt_toInt]
      have e : mSwT a x sw = ((pc : Int) + offs.toList.getD (x.toInt - lo).toNat 0).toNat := by
        rw [h2]
        refine mSwT_yes a x _ _ _ (mTsw_at hn) hxo (fun b z hb hz e => ?_)
        rw [mTsw_at (by omega)] at hz
        cases hz
        have := congrArg Int32.toInt e
        rw [show (Int32.ofInt (lo + (b : Int)), ((pc : Int) + offs.toList.getD b 0).toNat).1 = Int32.ofInt (lo + (b : Int)) from rfl, mOfI (by omega) (by omega)] at this
        omega
      have ho : offs[(x.toInt - lo).toNat]? = some (offs.toList.getD (x.toInt - lo).toNat 0) := by
        rw [← Array.getElem?_toList, List.getElem?_eq_getElem hn, List.getD_eq_getElem?_getD, List.getElem?_eq_getElem hn]
        rfl
      have hp : 0 ≤ (pc : Int) + offs.toList.getD (x.toInt - lo).toNat 0 := by
        have := List.all_eq_true.mp h6 (offs.toList.getD (x.toInt - lo).toNat 0) (by rw [List.getD_eq_getElem?_getD, List.getElem?_eq_getElem hn]; exact List.getElem_mem hn)
        exact of_decide_eq_true this
      rw [e] at kj
      exact lv_tableIn hx hb hd g1 g2 ho (by omega) kj
  next => cases h
theorem mS_dup (F : mFx ad oq dC dI aI aB X p s m args c cc own nL cp dat A) (hd : decode cc pc = .ok (.dup, 1)) (hn : mNx ad oq dC dI aI aB p l e R s m args below meth c cells slots Q LL nL A k nx res (pc + 1)) (h : mDup k nx L st g = some res) (hOs : mOs st) (hOl : mOl L) (hLn : L.length = nL) : mWk ad oq dC dI aI aB p l e R s m args below meth c cells slots Q LL A pc L st g := by
  obtain ⟨hx, hb, -, -, -, -, -, -, hq⟩ := F
  intro H locs ls hH hL
  unfold mDup at h
  split at h
  next x r => exact lv_dup hx hb hd rfl (hn L (.inl x :: .inl x :: r) g h (mOs_c trivial hOs) hOl hLn H locs ls hH hL)
  next x r =>
    refine lv_dup hx hb hd ?_ (hn L (.inr (.inr x) :: .inr (.inr x) :: r) g h (mOs_c (mOs_h hOs) hOs) hOl hLn H locs ls hH hL)
    unfold mE
    dsimp only
    split
    · exact hq
    · rfl
  next => cases h
theorem mS_dup2 (F : mFx ad oq dC dI aI aB X p s m args c cc own nL cp dat A) (hd : decode cc pc = .ok (.dup2, 1)) (hn : mNx ad oq dC dI aI aB p l e R s m args below meth c cells slots Q LL nL A k nx res (pc + 1)) (h : mDup2 k nx L st g = some res) (hOs : mOs st) (hOl : mOl L) (hLn : L.length = nL) : mWk ad oq dC dI aI aB p l e R s m args below meth c cells slots Q LL A pc L st g := by
  obtain ⟨hx, hb, -, -, -, -, -, -, hq⟩ := F
  intro H locs ls hH hL
  unfold mDup2 at h
  split at h
  next y x r =>
    refine lv_dup2_11 hx hb hd rfl ?_ (hn L (.inl y :: .inr (.inr x) :: .inl y :: .inr (.inr x) :: r) g h (mOs_c trivial (mOs_c (mOs_h (mOs_t hOs)) hOs)) hOl hLn H locs ls hH hL)
    unfold mE
    dsimp only
    split
    · exact hq
    · rfl
  next => cases h
theorem mS_pop (F : mFx ad oq dC dI aI aB X p s m args c cc own nL cp dat A) (hd : decode cc pc = .ok (.pop, 1)) (hn : mNx ad oq dC dI aI aB p l e R s m args below meth c cells slots Q LL nL A k nx res (pc + 1)) (h : mPop k nx L st g = some res) (hOs : mOs st) (hOl : mOl L) (hLn : L.length = nL) : mWk ad oq dC dI aI aB p l e R s m args below meth c cells slots Q LL A pc L st g := by
  obtain ⟨hx, hb, -⟩ := F
  intro H locs ls hH hL
  unfold mPop at h
  split at h
  next x r => exact lv_pop hx hb hd rfl (hn L r g h (mOs_t hOs) hOl hLn H locs ls hH hL)
  next => cases h
end STEP2
end
section
/-! cells -/
section STEP3
variable {ad : Nat → Nat → Nat} {oq : Value} {dC : Nat → ClassId} {dI : Nat → Nat → Nat} {aI aB : ClassId} {X : mX}
variable {p : Program} {l : Launch} {e : Env} {R : Room} {s : State} {m : MethodId} {args : Array Value} {below : List Frame} {meth : Method} {c : Code} {cells slots : Nat} {Q : State → Prop}
variable {cc : ByteArray} {own : String} {LL : List Nat} {nL : Nat} {cp : List (Nat × Nat × Nat × Nat × Nat)} {dat : Nat → mDat} {A : Nat → Prop}
variable {k : mK} {nx full : List mT} {pc : Nat} {L : mL} {st : List mV} {g : mG} {res : Option mV × mG}
theorem mLk_eq (pc : Nat) (dflt : Int) (a : Nat) (x : Int32) (hd : (pc : Int) + dflt = (a : Int)) : ∀ ps : List (Int × Int), (∀ q ∈ ps, 0 ≤ (pc : Int) + q.2 ∧ -1000 ≤ q.1 ∧ q.1 ≤ 1000) → (pc : Int) + Op.lookupswitch.offset ps dflt x.toInt = (mSwT a x (ps.map (fun q => (Int32.ofInt q.1, ((pc : Int) + q.2).toNat))) : Int)
  | [], _ => by rw [Op.lookupswitch.offset_nil]; exact hd
  | q :: ps, h => by
    obtain ⟨h1, h2, h3⟩ := h q List.mem_cons_self
    rw [Op.lookupswitch.offset_cons]
    show _ = ((if x = Int32.ofInt q.1 then ((pc : Int) + q.2).toNat else mSwT a x (ps.map (fun q => (Int32.ofInt q.1, ((pc : Int) + q.2).toNat))) : Nat) : Int)
    by_cases hx : x = Int32.ofInt q.1
    · have e : x.toInt = q.1 := by rw [hx, mOfI h2 h3]
      rw [if_pos hx, e]
      simp
      omega
    · have e : ¬ x.toInt = q.1 := fun z => hx (by rw [← z, Int32.ofInt_toInt])
      rw [if_neg hx, ← mLk_eq pc dflt a x hd ps (fun r hr => h r (List.mem_cons_of_mem _ hr))]
      simp [e, Ne.symm e, eq_comm]
theorem mS_lsw {dflt : Int} {ps : Array (Int × Int)} {a b d len : Nat} {sw : List (Int32 × Nat)} (F : mFx ad oq dC dI aI aB X p s m args c cc own nL cp dat A) (hd : decode cc pc = .ok (.lookupswitch dflt ps, len)) (hck : mCkI LL nL cp pc (.lookupswitch dflt ps) a b d sw = true) (hj : ∀ t, mNx ad oq dC dI aI aB p l e R s m args below meth c cells slots Q LL nL A k (mDrop full t) res t) (h : mSw full a sw k L st g = some res) (hOs : mOs st) (hOl : mOl L) (hLn : L.length = nL) : mWk ad oq dC dI aI aB p l e R s m args below meth c cells slots Q LL A pc L st g := by
  obtain ⟨hx, hb, -⟩ := F
  intro H locs ls hH hL
  unfold mCkI at hck
  simp only [Bool.and_eq_true, decide_eq_true_eq] at hck
  obtain ⟨⟨⟨h1, h2⟩, h3⟩, h4⟩ := hck
  unfold mSw at h
  split at h
  next x r =>
    rw [mSwG_eq] at h
    have kj := hj _ L r g h (mOs_t hOs) hOl hLn H locs ls hH hL
    refine lv_lookup hx hb hd h2 rfl ?_ kj
    rw [h3]
    refine mLk_eq pc dflt a x h1 ps.toList (fun q hq => ?_)
    have := List.all_eq_true.mp h4 q hq
    simp only [Bool.and_eq_true, decide_eq_true_eq] at this
    exact ⟨this.1.1, this.1.2, this.2⟩
  next => cases h
theorem mCp_in {q : Nat × Nat × Nat × Nat × Nat} {own : String} (F : mFx ad oq dC dI aI aB X p s m args c cc own nL cp dat A) (h : cp.contains q = true) : mCpO dat own q := F.2.2.2.2.2.2.2.1 q (List.contains_iff_mem.mp h)
/-- the words of the classes' fields are all in the tables -/
def mFl : Prop := ∀ (ci : Nat) (r : vw_C), mCLS[ci]? = some r → (∀ w ∈ u_ws r.1 r.2.1 r.2.2, w ∈ mGd) ∧ (∀ a, a < r.2.2 → ∀ b, b < r.2.2 → a ≠ b → (r.2.1 a).2.1 ≠ (r.2.1 b).2.1) ∧ ∃ ty : Nat → FieldType, (∀ k, k < r.2.2 → parseFieldDescriptor (r.2.1 k).2.2.1 = some (ty k)) ∧
  ∀ (j k : Nat), mCls j = some ci → k < r.2.2 → (∀ i, mRef i j k = none) → (ty k = (if mBoF j k then .boolean else .int)) ∧ ((r.2.1 k).2.2.2 = false ∨ (ci = 4 ∧ k = 0))
theorem mS_get {i a b d : Nat} (F : mFx ad oq dC dI aI aB X p s m args c cc own nL cp dat A) (hfl : mFl) (hd : decode cc pc = .ok (.getfield i, 3)) (hck : cp.contains (0, i, a, b, d) = true) (hn : mNx ad oq dC dI aI aB p l e R s m args below meth c cells slots Q LL nL A k nx res (pc + 3)) (h : mGet a b k nx L st g = some res) (hOs : mOs st) (hOl : mOl L) (hLn : L.length = nL) : mWk ad oq dC dI aI aB p l e R s m args below meth c cells slots Q LL A pc L st g := by
  have hcp := mCp_in F hck
  obtain ⟨hx, hb, hml, hown, hts, hK, hRo, hcps, hq⟩ := F
  intro H locs ls hH hL
  obtain ⟨hP, hD, hS⟩ := id hH
  unfold mGet at h
  split at h
  next i0 j0 r =>
    have hO := mOs_h hOs
    split at h
    next ha =>
      have ha : a = 7 := Nat.eq_of_beq_eq_true ha
      split at h
      next hj =>
        have hj : j0 = 24 := Nat.eq_of_beq_eq_true hj
        subst hj
        have hi : i0 < 18 := by
          rcases hO with q | q
          · have z : 24 ≤ 23 := (mCL_99 _ q).2
            exact absurd z (by decide)
          · have : ∀ q ∈ mROL, q.2 = 24 → q.1 < 18 := by decide +kernel
            exact this _ q rfl
        obtain ⟨-, f2, f3⟩ := hRo.2.1 i0 hi
        have e99 : i0 ≠ 99 := by omega
        split at h
        next =>
          have hw : Cond.fieldLink own i "java/lang/String" "value" "[B" ∈ mGd := by
            rcases hcp with ⟨-, -, q⟩ | ⟨-, q, -⟩ | ⟨r, q, -⟩
            · exact q
            · cases q
            · rw [ha] at q; cases q
          have kk := hn L (.inr (.inr (i0, 25)) :: r) g h (mOs_c (Or.inr (by
            have : ∀ n ∈ List.range 18, (n, 25) ∈ mROL := by decide +kernel
            exact this i0 (List.mem_range.mpr hi))) (mOs_t hOs)) hOl hLn H locs ls hH hL
          rw [List.map_cons, mE_ref e99] at kk ⊢
          exact vk_getf hx hb f3 hS hown (hts _ hw) (fun _ z => z) hd kk
        next hb0 =>
          have hw : Cond.fieldLink own i "java/lang/String" "coder" "B" ∈ mGd := by
            rcases hcp with ⟨-, q, -⟩ | ⟨-, -, q⟩ | ⟨r, q, -⟩
            · exact absurd q hb0
            · exact q
            · rw [ha] at q; cases q
          have kk := hn L (.inl 0 :: r) g h (mOs_c trivial (mOs_t hOs)) hOl hLn H locs ls hH hL
          rw [List.map_cons] at kk
          rw [List.map_cons, mE_ref e99]
          exact vk_getf hx hb f2 hS hown (hts _ hw) (fun _ z => z) hd kk
      next => cases h
    next ha =>
      have ha : a ≠ 7 := fun z => by rw [z] at ha; cases ha
      split at h
      next ci hci =>
        split at h
        next hca =>
          have hca : ci = a := Nat.eq_of_beq_eq_true hca
          subst hca
          obtain ⟨r0, w1, w2, w3⟩ : ∃ r, mCLS[ci]? = some r ∧ b < r.2.2 ∧ Cond.fieldLink own i (r.2.1 b).1 (r.2.1 b).2.1 (r.2.1 b).2.2.1 ∈ mGd := by
            rcases hcp with ⟨q, -⟩ | ⟨q, -⟩ | q
            · exact absurd q ha
            · exact absurd q ha
            · exact q
          have hCL : (i0, j0) ∈ mCL := mIn_obj hO hci
          obtain ⟨n, n1, n2⟩ := mWs_at ad aI aB (g := g) hCL
          rw [mEnt_obj (q := (i0, j0)) hci] at n2
          obtain ⟨f1, -, -⟩ := hfl ci r0 w1
          have hbn : b < mNF ci := by rw [mCLS_nf ci r0 w1]; exact w2
          have hv : ((List.range (mNF ci)).map (fun k => mFv ad g i0 j0 k))[b]? = some (mFv ad g i0 j0 b) := by
            rw [List.getElem?_map, List.getElem?_range hbn]; rfl
          rw [List.map_cons, mE_refIn (ad := ad) (oq := oq) hCL]
          refine va_get (D := (dC, dI)) (ci := ci) (v := mFv ad g i0 j0 b) (C := r0.1) (T := r0.2.1) (N := r0.2.2) hx hb hts f1 hown hK hP n n2 w1 b w2 (hts _ w3) (fun _ z => z) hv hd ?_
          split at h
          next q hq2 =>
            have hqin : q ∈ mCL := mCL_ref _ hCL b (List.mem_range.mpr (Nat.lt_of_lt_of_le hbn (by
              have : ∀ ci, mNF ci ≤ 21 := by
                intro ci; unfold mNF; split <;> decide
              exact this ci))) q hq2
            have kk := hn L (.inr (.inr q) :: r) g h (mOs_c (Or.inl hqin) (mOs_t hOs)) hOl hLn H locs ls hH hL
            rw [List.map_cons, mE_refIn (ad := ad) (oq := oq) hqin] at kk
            unfold mFv
            rw [hq2]
            exact kk
          next hq2 =>
            have kk := hn L (.inl (g i0 j0 b) :: r) g h (mOs_c trivial (mOs_t hOs)) hOl hLn H locs ls hH hL
            unfold mFv
            rw [hq2]
            exact kk
        next => cases h
      next => cases h
  next => cases h
end STEP3
end
section
/-! stores, statics, rows -/
section STEP4
variable {ad : Nat → Nat → Nat} {oq : Value} {dC : Nat → ClassId} {dI : Nat → Nat → Nat} {aI aB : ClassId} {X : mX}
variable {p : Program} {l : Launch} {e : Env} {R : Room} {s : State} {m : MethodId} {args : Array Value} {below : List Frame} {meth : Method} {c : Code} {cells slots : Nat} {Q : State → Prop}
variable {cc : ByteArray} {own : String} {LL : List Nat} {nL : Nat} {cp : List (Nat × Nat × Nat × Nat × Nat)} {dat : Nat → mDat} {A : Nat → Prop}
variable {k : mK} {nx full : List mT} {pc : Nat} {L : mL} {st : List mV} {g : mG} {res : Option mV × mG}
theorem mRef_any {i j k0 : Nat} (h : mRef i j k0 = none) (i' : Nat) : mRef i' j k0 = none := by
  unfold mRef at h ⊢
  split at h <;> first | rfl | (split at h <;> first | rfl | cases h)
theorem mS_put {i a b d : Nat} (F : mFx ad oq dC dI aI aB X p s m args c cc own nL cp dat A) (hfl : mFl) (hd : decode cc pc = .ok (.putfield i, 3)) (hck : cp.contains (0, i, a, b, d) = true) (h7 : (Nat.blt a 7 && !(Nat.beq a 4 && Nat.beq b 0)) = true) (hn : mNx ad oq dC dI aI aB p l e R s m args below meth c cells slots Q LL nL A k nx res (pc + 3)) (h : mPut a b k nx L st g = some res) (hOs : mOs st) (hOl : mOl L) (hLn : L.length = nL) : mWk ad oq dC dI aI aB p l e R s m args below meth c cells slots Q LL A pc L st g := by
  have hcp := mCp_in F hck
  obtain ⟨hx, hb, hml, hown, hts, hK, hRo, hcps, hq⟩ := F
  intro H locs ls hH hL
  obtain ⟨hP, hD, hS⟩ := id hH
  rw [Bool.and_eq_true] at h7
  have ha7 : a < 7 := Nat.blt_eq.mp h7.1
  unfold mPut at h
  split at h
  next v i0 j0 r =>
    split at h
    next ci hci =>
      split at h
      next hca =>
        have hca : ci = a := Nat.eq_of_beq_eq_true hca
        subst hca
        split at h
        next => cases h
        next hr =>
          obtain ⟨r0, w1, w2, w3⟩ : ∃ r, mCLS[ci]? = some r ∧ b < r.2.2 ∧ Cond.fieldLink own i (r.2.1 b).1 (r.2.1 b).2.1 (r.2.1 b).2.2.1 ∈ mGd := by
            rcases hcp with ⟨q, -⟩ | ⟨q, -⟩ | q
            · have q : ci = 7 := q
              omega
            · have q : ci = 7 := q
              omega
            · exact q
          have hCL : (i0, j0) ∈ mCL := mIn_obj (mOs_h (mOs_t hOs)) hci
          obtain ⟨n, n1, n2⟩ := mWs_at ad aI aB (g := g) hCL
          rw [mEnt_obj (q := (i0, j0)) hci] at n2
          obtain ⟨f1, f2, ty, f3, f4⟩ := hfl ci r0 w1
          obtain ⟨f5, f6⟩ := f4 j0 b hci w2 (mRef_any hr)
          have hfin : (r0.2.1 b).2.2.2 = false := by
            rcases f6 with q | ⟨q1, q2⟩
            · exact q
            · have := h7.2
              rw [q1, q2] at this
              cases this
          have hbn : b < mNF ci := by rw [mCLS_nf ci r0 w1]; exact w2
          have key : narrow (ty b) (.int v) = .int v ∧ fits (ty b) (.int v) = true ∧ k nx L r (mU g i0 (mP (g i0) j0 b v)) = some res := by
            split at h
            next hbo =>
              split at h
              next hv =>
                rw [f5, if_pos hbo]
                exact ⟨(mNar_b hv).1, (mNar_b hv).2, h⟩
              next => cases h
            next hbo =>
              rw [f5, if_neg (by rw [hbo]; decide)]
              exact ⟨rfl, rfl, h⟩
          obtain ⟨g1, g2, g3⟩ := key
          rw [List.map_cons, List.map_cons, mE_refIn (ad := ad) (oq := oq) hCL]
          refine va_put (D := (dC, dI)) (ci := ci) (v := .int v) (ty := ty b) (C := r0.1) (T := r0.2.1) (N := r0.2.2) hx hb hts f1 ty f3 f2 hown hK hP hD hS n n2 w1 b w2 (hts _ w3) (fun _ z => z) hfin (f3 b w2) g1 g2 (by simpa using hbn) hd (fun H1 locs1 hP1 _ hS1 => ?_)
          refine hn L r _ g3 (mOs_t (mOs_t hOs)) hOl hLn H1 locs1 ls (mHp_set (q := (i0, j0)) n1 ?_ (fun j' hj' => mP_other _ _ _ _ _ hj') hP1 hD hS1) hL
          rw [mEnt_obj (q := (i0, j0)) hci]
          exact congrArg (fun z => Sum.inr (ci, z)) (mFv_set hr hbn)
      next => cases h
    next => cases h
  next => cases h
theorem mS_gets {i a b d : Nat} (F : mFx ad oq dC dI aI aB X p s m args c cc own nL cp dat A) (hd : decode cc pc = .ok (.getstatic i, 3)) (hck : cp.contains (1, i, a, b, d) = true) (hn : mNx ad oq dC dI aI aB p l e R s m args below meth c cells slots Q LL nL A k nx res (pc + 3)) (h : mGetS a b k nx L st g = some res) (hOs : mOs st) (hOl : mOl L) (hLn : L.length = nL) : mWk ad oq dC dI aI aB p l e R s m args below meth c cells slots Q LL A pc L st g := by
  have hcp := mCp_in F hck
  obtain ⟨hx, hb, hml, hown, hts, hK, hRo, hcps, hq⟩ := F
  intro H locs ls hH hL
  obtain ⟨hP, hD, hS⟩ := id hH
  obtain ⟨-, -, z1, z2, z3, -, z4⟩ := hRo
  unfold mGetS at h
  split at h
  next =>
    obtain ⟨h1, h2⟩ : (27 ≤ b ∧ b ≤ 29) ∧ (Cond.fieldLink own i "RingedLights" (mStN b) "[I" ∈ mGd ∨ Cond.fieldLinkNest own i "RingedLights" (mStN b) "[I" "RingedLights" ∈ mNest) := by
      rcases hcp with ⟨-, q⟩ | ⟨q, -⟩ | ⟨q, -⟩
      · exact q
      · cases q
      · cases q
    have hin : mIn (9, b) := by
      have : b = 27 ∨ b = 28 ∨ b = 29 := by omega
      rcases this with rfl | rfl | rfl <;> exact Or.inr (by decide +kernel)
    have kk := hn L (.inr (.inr (9, b)) :: st) g h (mOs_c hin hOs) hOl hLn H locs ls hH hL
    rw [List.map_cons, mE_ref (by decide)] at kk
    rcases h2 with h2 | h2
    · exact va_gets hx hb (z1 b h1) hS hown (hts _ h2) (fun _ z => z) hd kk
    · exact va_getsN hx hb (z1 b h1) hS hown (va_Nw.use (mNest_tab h2) (z4 _ h2)) (fun _ z => z) hd kk
  next =>
    have h2 : Cond.fieldLink own i "java/lang/String" "COMPACT_STRINGS" "Z" ∈ mGd := by
      rcases hcp with ⟨q, -⟩ | ⟨-, q⟩ | ⟨q, -⟩
      · cases q
      · exact q
      · cases q
    have kk := hn L (.inl 1 :: st) g h (mOs_c trivial hOs) hOl hLn H locs ls hH hL
    exact va_gets hx hb z2 hS hown (hts _ h2) (fun _ z => z) hd kk
  next =>
    have h2 : Cond.fieldLink own i "jdk/internal/util/Preconditions" "SIOOBE_FORMATTER" "Ljava/util/function/BiFunction;" ∈ mGd := by
      rcases hcp with ⟨q, -⟩ | ⟨q, -⟩ | ⟨-, q⟩
      · cases q
      · cases q
      · exact q
    have kk := hn L (.inr (.inr (99, 99)) :: st) g h (mOs_c (Or.inr (by decide +kernel)) hOs) hOl hLn H locs ls hH hL
    exact va_gets hx hb z3 hS hown (hts _ h2) (fun _ z => z) hd kk
  next => cases h
theorem mStr_lt : ∀ q ∈ mStrL, q.2.2.2 < 18 := by decide +kernel
theorem mS_ldc {i a b d : Nat} (F : mFx ad oq dC dI aI aB X p s m args c cc own nL cp dat A) (hd : decode cc pc = .ok (.ldc i, 2)) (hck : cp.contains (3, i, a, b, d) = true) (hn : mNx ad oq dC dI aI aB p l e R s m args below meth c cells slots Q LL nL A k nx res (pc + 2)) (h : k nx L (.inr (.inr (a, 24)) :: st) g = some res) (hOs : mOs st) (hOl : mOl L) (hLn : L.length = nL) : mWk ad oq dC dI aI aB p l e R s m args below meth c cells slots Q LL A pc L st g := by
  have hcp := mCp_in F hck
  obtain ⟨hx, hb, hml, hown, hts, hK, hRo, hcps, hq⟩ := F
  intro H locs ls hH hL
  obtain ⟨-, -, -, -, -, z5, -⟩ := hRo
  obtain ⟨tx, ht⟩ := hcp
  have ha : a < 18 := mStr_lt _ ht
  have hin : mIn (a, 24) := Or.inr (by
    have : ∀ n ∈ List.range 18, (n, 24) ∈ mROL := by decide +kernel
    exact this a (List.mem_range.mpr ha))
  have kk := hn L _ g h (mOs_c hin hOs) hOl hLn H locs ls hH hL
  rw [List.map_cons, mE_ref (by omega)] at kk
  exact va_ldcS hx hb hown (z5 _ ht) hd kk
theorem mS_ldc2 {i a b d : Nat} (F : mFx ad oq dC dI aI aB X p s m args c cc own nL cp dat A) (hd : decode cc pc = .ok (.ldc2_w i, 3)) (hck : cp.contains (4, i, a, b, d) = true) (hn : mNx ad oq dC dI aI aB p l e R s m args below meth c cells slots Q LL nL A k nx res (pc + 3)) (h : k nx L (.inr (.inl (Int64.ofNat a)) :: st) g = some res) (hOs : mOs st) (hOl : mOl L) (hLn : L.length = nL) : mWk ad oq dC dI aI aB p l e R s m args below meth c cells slots Q LL A pc L st g := by
  have hcp := mCp_in F hck
  obtain ⟨hx, hb, hml, hown, hts, hK, hRo, hcps, hq⟩ := F
  intro H locs ls hH hL
  exact lv_ldc2 hx hb hown (hts _ hcp) hd (hn L _ g h (mOs_c trivial hOs) hOl hLn H locs ls hH hL)
theorem mRd_RO {i j n : Nat} (h : 23 < j) : mRd X g i j n = mRO X i j n := by
  unfold mRd
  cases hb : Nat.ble j 23 with
  | true => exact absurd (Nat.le_of_ble_eq_true hb) (by omega)
  | false => rfl
theorem mRd_g {i j n : Nat} (h : j ≤ 23) : mRd X g i j n = g i j n := by
  unfold mRd
  rw [Nat.ble_eq_true_of_le h]
theorem mRO_j : ∀ q ∈ mROL, q.2 = 24 ∨ 25 ≤ q.2 := by decide +kernel
theorem mS_ald {bt : Bool} (F : mFx ad oq dC dI aI aB X p s m args c cc own nL cp dat A) (hd : decode cc pc = .ok ((if bt then .baload else .iaload), 1)) (hn : mNx ad oq dC dI aI aB p l e R s m args below meth c cells slots Q LL nL A k nx res (pc + 1)) (h : mAld X bt k nx L st g = some res) (hOs : mOs st) (hOl : mOl L) (hLn : L.length = nL) : mWk ad oq dC dI aI aB p l e R s m args below meth c cells slots Q LL A pc L st g := by
  obtain ⟨hx, hb, hml, hown, hts, hK, hRo, hcps, hq⟩ := F
  intro H locs ls hH hL
  obtain ⟨hP, hD, hS⟩ := id hH
  unfold mAld at h
  split at h
  next ix i0 j0 r =>
    have hO : mIn (i0, j0) := mOs_h (mOs_t hOs)
    split at h
    next n b hA =>
      split at h
      next hbt =>
        subst hbt
        split at h
        next => cases h
        next hix =>
          have kk := hn L _ g h (mOs_c trivial (mOs_t (mOs_t hOs))) hOl hLn H locs ls hH hL
          rw [List.map_cons] at kk
          rw [List.map_cons, List.map_cons]
          rcases hO with hC | hC
          · have hj : j0 ≤ 23 := (mCL_99 _ hC).2
            rw [mRd_g hj] at kk
            obtain ⟨n0, n1, n2⟩ := mWs_at ad aI aB (g := g) hC
            rw [mE_refIn (ad := ad) (oq := oq) hC]
            cases b
            · rw [mEnt_arrI (q := (i0, j0)) hj hA] at n2
              exact va_iald hx hb hK hP n0 0 n2 rfl hix hd kk
            · rw [mEnt_arrB (q := (i0, j0)) hj hA] at n2
              exact va_bald hx hb hK hP n0 1 n2 rfl hix hd kk
          · have hj : 25 ≤ j0 := by
              rcases mRO_j _ hC with q | q
              · have q : j0 = 24 := q
                subst q; cases hA
              · exact q
            have e99 : i0 ≠ 99 := by
              intro e
              have : ∀ q ∈ mROL, q.1 = 99 → q.2 = 99 := by decide +kernel
              have q : j0 = 99 := this _ hC e
              subst q
              cases hA
            rw [mRd_RO (by omega)] at kk
            rw [mE_ref e99]
            obtain ⟨cell, c1, c2, c3, c4, c5, c6, c7⟩ := (hRo.1 i0 j0 n b (Or.inr hC) hj hA).kept hS.2.1
            have hlt : ix.toNatClampNeg < n := Nat.not_le.mp fun q => hix (Or.inr q)
            cases b
            · exact W.iald hx hb c1 c2 c3 (fun q => q.elim (fun z => hix (Or.inl z)) (fun z => absurd z (by omega))) (c6 _ hlt) rfl rfl hd kk
            · exact W.bald hx hb c1 c2 c3 (fun q => q.elim (fun z => hix (Or.inl z)) (fun z => absurd z (by omega))) (c6 _ hlt) rfl rfl hd kk
      next => cases h
    next => cases h
  next => cases h
theorem mS_ast {bt : Bool} (F : mFx ad oq dC dI aI aB X p s m args c cc own nL cp dat A) (hd : decode cc pc = .ok ((if bt then .bastore else .iastore), 1)) (hn : mNx ad oq dC dI aI aB p l e R s m args below meth c cells slots Q LL nL A k nx res (pc + 1)) (h : mAst X bt k nx L st g = some res) (hOs : mOs st) (hOl : mOl L) (hLn : L.length = nL) : mWk ad oq dC dI aI aB p l e R s m args below meth c cells slots Q LL A pc L st g := by
  obtain ⟨hx, hb, hml, hown, hts, hK, hRo, hcps, hq⟩ := F
  intro H locs ls hH hL
  obtain ⟨hP, hD, hS⟩ := id hH
  unfold mAst at h
  split at h
  next v ix i0 j0 r =>
    have hO : mIn (i0, j0) := mOs_h (mOs_t (mOs_t hOs))
    split at h
    next n b hA =>
      split at h
      next hbt =>
        subst hbt
        split at h
        next => cases h
        next hix =>
          split at h
          next hj =>
            have hj : j0 ≤ 23 := Nat.le_of_ble_eq_true hj
            have hC : (i0, j0) ∈ mCL := mIn_arr hO hj
            obtain ⟨n0, n1, n2⟩ := mWs_at ad aI aB (g := g) hC
            rw [List.map_cons, List.map_cons, List.map_cons, mE_refIn (ad := ad) (oq := oq) hC]
            cases b
            · rw [mEnt_arrI (q := (i0, j0)) hj hA] at n2
              refine va_iast hx hb hK hP hD hS n0 0 n2 rfl hix hd (fun H1 locs1 hP1 _ hS1 => ?_)
              refine hn L r _ h (mOs_t (mOs_t (mOs_t hOs))) hOl hLn H1 locs1 ls (mHp_set (q := (i0, j0)) n1 ?_ (fun j' hj' => mP_other _ _ _ _ _ hj') hP1 hD hS1) hL
              rw [mEnt_arrI (q := (i0, j0)) hj hA, mU_same, mP_upd]
              rfl
            · rw [mEnt_arrB (q := (i0, j0)) hj hA] at n2
              refine va_bast hx hb hK hP hD hS n0 1 n2 rfl hix hd (fun H1 locs1 hP1 _ hS1 => ?_)
              refine hn L r _ h (mOs_t (mOs_t (mOs_t hOs))) hOl hLn H1 locs1 ls (mHp_set (q := (i0, j0)) n1 ?_ (fun j' hj' => mP_other _ _ _ _ _ hj') hP1 hD hS1) hL
              rw [mEnt_arrB (q := (i0, j0)) hj hA, mU_same, mP_upd, vp_nar_byte]
              rfl
          next => cases h
      next => cases h
    next => cases h
  next => cases h
theorem mS_len (F : mFx ad oq dC dI aI aB X p s m args c cc own nL cp dat A) (hd : decode cc pc = .ok (.arraylength, 1)) (hn : mNx ad oq dC dI aI aB p l e R s m args below meth c cells slots Q LL nL A k nx res (pc + 1)) (h : mLen X k nx L st g = some res) (hOs : mOs st) (hOl : mOl L) (hLn : L.length = nL) : mWk ad oq dC dI aI aB p l e R s m args below meth c cells slots Q LL A pc L st g := by
  obtain ⟨hx, hb, hml, hown, hts, hK, hRo, hcps, hq⟩ := F
  intro H locs ls hH hL
  obtain ⟨hP, hD, hS⟩ := id hH
  unfold mLen at h
  split at h
  next i0 j0 r =>
    have hO : mIn (i0, j0) := mOs_h hOs
    split at h
    next n b hA =>
      have kk := hn L _ g h (mOs_c trivial (mOs_t hOs)) hOl hLn H locs ls hH hL
      rw [List.map_cons] at kk
      rw [List.map_cons]
      rcases hO with hC | hC
      · have hj : j0 ≤ 23 := (mCL_99 _ hC).2
        obtain ⟨n0, n1, n2⟩ := mWs_at ad aI aB (g := g) hC
        rw [mE_refIn (ad := ad) (oq := oq) hC]
        cases b
        · rw [mEnt_arrI (q := (i0, j0)) hj hA] at n2
          exact va_alen hx hb hK hP n0 0 n2 (ty := .int) rfl rfl hd kk
        · rw [mEnt_arrB (q := (i0, j0)) hj hA] at n2
          exact va_alen hx hb hK hP n0 1 n2 (ty := .byte) rfl rfl hd kk
      · have hj : 25 ≤ j0 := by
          rcases mRO_j _ hC with q | q
          · have q : j0 = 24 := q
            subst q; cases hA
          · exact q
        have e99 : i0 ≠ 99 := by
          intro e
          have : ∀ q ∈ mROL, q.1 = 99 → q.2 = 99 := by decide +kernel
          have q : j0 = 99 := this _ hC e
          subst q
          cases hA
        rw [mE_ref e99]
        obtain ⟨cell, c1, c2, c3, c4, c5, c6, c7⟩ := (hRo.1 i0 j0 n b (Or.inr hC) hj hA).kept hS.2.1
        exact W.alen hx hb c1 c2 c5 rfl rfl hd kk
    next => cases h
  next => cases h
end STEP4
end
section
/-! copies, calls -/
section STEP5
variable {ad : Nat → Nat → Nat} {oq : Value} {dC : Nat → ClassId} {dI : Nat → Nat → Nat} {aI aB : ClassId} {X : mX}
variable {p : Program} {l : Launch} {e : Env} {R : Room} {s : State} {m : MethodId} {args : Array Value} {below : List Frame} {meth : Method} {c : Code} {cells slots : Nat} {Q : State → Prop}
variable {cc : ByteArray} {own : String} {LL : List Nat} {nL : Nat} {cp : List (Nat × Nat × Nat × Nat × Nat)} {dat : Nat → mDat} {A : Nat → Prop}
variable {k : mK} {nx full : List mT} {pc : Nat} {L : mL} {st : List mV} {g : mG} {res : Option mV × mG}
theorem mCat_le {r : List mV} (hq : oq.category = 1) : (((r.map (mE ad oq)).map fun v => v.category).sum) ≤ 2 * r.length := by
  induction r with
  | nil => exact Nat.le_refl _
  | cons v r ih =>
    have h1 : (mE ad oq v).category ≤ 2 := by
      rcases lv_cat (mE ad oq v) with z | z <;> omega
    simp only [List.map_cons, List.sum_cons, List.length_cons]
    omega
theorem mS_copy {i a b d : Nat} (F : mFx ad oq dC dI aI aB X p s m args c cc own nL cp dat A) (hR1 : 1 ≤ R.frames) (hR2 : 8 + (nativeFrameWords "java/lang/System" "arraycopy" 5 + 11) ≤ R.locals) (hw : Cond.native arraycopyName ∈ mGd ∧ Cond.static arraycopyName ∈ mGd ∧ Cond.initialized "java/lang/System" ∈ mGd) (hd : decode cc pc = .ok (.invokestatic i, 3)) (hck : cp.contains (5, i, a, b, d) = true) (hn : mNx ad oq dC dI aI aB p l e R s m args below meth c cells slots Q LL nL A k nx res (pc + 3)) (h : mCopy X k nx L st g = some res) (hOs : mOs st) (hOl : mOl L) (hLn : L.length = nL) : mWk ad oq dC dI aI aB p l e R s m args below meth c cells slots Q LL A pc L st g := by
  have hcp := mCp_in F hck
  obtain ⟨hx, hb, hml, hown, hts, hK, hRo, hcps, hq⟩ := F
  intro H locs ls hH hL
  obtain ⟨hP, hD, hS⟩ := id hH
  unfold mCopy at h
  split at h
  next n dp i2 j2 sp i1 j1 r =>
    split at h
    next n1 n2 hA1 hA2 =>
      split at h
      next hc =>
        obtain ⟨rfl, rfl, h3, h4, h5, h6, h7, h8⟩ := hc
        have O1 : mIn (i1, j1) := mOs_h (mOs_t (mOs_t (mOs_t (mOs_t hOs))))
        have O2 : mIn (i2, j2) := mOs_h (mOs_t (mOs_t hOs))
        have C1 := mIn_arr O1 h6
        have C2 := mIn_arr O2 h7
        obtain ⟨q1, a1, a2⟩ := mWs_at ad aI aB (g := g) C1
        obtain ⟨q2, b1, b2⟩ := mWs_at ad aI aB (g := g) C2
        rw [mEnt_arrI (q := (i1, j1)) h6 hA1] at a2
        rw [mEnt_arrI (q := (i2, j2)) h7 hA2] at b2
        simp only [List.map_cons]
        rw [mE_refIn (ad := ad) (oq := oq) C1, mE_refIn (ad := ad) (oq := oq) C2]
        have hcat := mCat_le (ad := ad) (r := r) hq
        have z0 : (0 : Int32).toNatClampNeg = 0 := by decide
        refine va_copyi hx hb (by rw [hml, ← hLn]; exact hL.1.1.symm) hown (hts _ hcp) (hts _ hw.1) (hts _ hw.2.1) (hts _ hw.2.2) hK hP hD hS q1 q2 0 0 a2 b2 rfl rfl rfl (by decide) (by decide) h3 (by rw [z0]; omega) (by rw [z0]; omega) (fun _ _ => rfl) hR1 (by omega) hd (fun H1 locs1 hP1 _ hS1 => ?_)
        refine hn L r _ h (mOs_t (mOs_t (mOs_t (mOs_t (mOs_t hOs))))) hOl hLn H1 locs1 ls (mHp_set (q := (i2, j2)) b1 ?_ (fun j' hj' => mA_other _ _ _ _ hj') hP1 hD hS1) hL
        rw [mEnt_arrI (q := (i2, j2)) h7 hA2, mU_same]
        congr 4
        funext q
        show va_cpy (g i1 j1) (g i2 j2) _ _ _ q = mA (g i2) j2 _ j2 q
        unfold va_cpy mA
        rw [if_pos rfl, z0]
        simp
      next => cases h
    next => cases h
  next => cases h
/-- behind a call -/
theorem mCallK {A1 : Nat → Prop} {H : Heap} {locs : List Loc} {ls : Array Slot} {st0 rest : List Value} {Qa : State → Outcome → State → Prop} {v : Option Value} {Po : Heap → Prop}
    (hr : va_Run p l e R s m args below meth c H locs cells slots 0 0 (F0 m pc ls st0) rest Qa A1) (hS : va_S A s.heap H locs) (hA : ∀ q, A1 q → A q)
    (hq : ∀ st oc t, Qa st oc t → oc = .returned v ∧ Po t.heap ∧ va_F A1 st t)
    (kk : ∀ (H1 : Heap) (locs1 : List Loc), Po H1 → va_S A s.heap H1 locs1 → W p l e R s m args below meth c H1 locs1 cells slots Q (F0 m (pc + 3) ls (v.toList ++ rest))) : W p l e R s m args below meth c H locs cells slots Q (F0 m pc ls st0) := by
  intro T hT X
  obtain ⟨v', st₀, t, T', L, h0, X', hL, e1, e2, hQ, st⟩ := hr T hT X
  obtain ⟨hv, hp, hz, hk⟩ := hq _ _ _ hQ
  cases hv
  rw [h0] at hz hk
  obtain ⟨t2, a1, b1⟩ := kk T'.heap (locs ++ L) (by rw [e1]; exact hp)
    ⟨Nat.le_trans hS.1 (by rw [e1]; exact hz), fun q h1 h2 => by rw [e1, hk q (Nat.lt_of_lt_of_le h1 hS.1) (fun z => h2 (hA q z))]; exact hS.2.1 q h1 h2, fun q hq => by
      rcases List.mem_append.mp hq with h | h
      · exact hS.2.2 q h
      · exact hA _ (hL q h)⟩ T' rfl X'
  exact ⟨t2, st t2 a1, b1⟩
theorem mGoodWs {q : mDat} (h : mMO q) : GoodIn mGd (Cond.code (mdY q) (mdB q) (mdL q) (mdR q) :: mGd) := fun w hw => by
  rcases List.mem_cons.mp hw with rfl | hw
  · exact mGd_good h.1
  · exact mGd_good hw
theorem mBlind {g : mG} {A1 : Nat → Prop} {vs : List Value} : FrameBlind (va_Pc vs (fun U => va_P (dC, dI) mCLS (mWs ad aI aB g) U.heap ∧ va_D A1 (mWs ad aI aB g) ∧ va_K (dC, dI) mCLS [(aI, .int), (aB, .byte)] U ∧ mRo ad oq X A1 U)) := by
  rintro a U g' mk ⟨q0, q1, q2, q3, q4⟩
  exact ⟨q0, q1, q2, va_K.moved (u := U) (U := U.calling g' mk a) (Vm.Alike.refl U.vm) q3, mRo_same ad oq X q4 rfl rfl⟩
theorem mArgs_eq {ci : Nat} {vs : List mV} (h : mArgOk ci vs = true) (hci : ci ≠ 99) : ∃ (i j : Nat) (r : List mV), vs = .inr (.inr (i, j)) :: r ∧ ((ci = 7 ∧ j = 24) ∨ (ci ≠ 7 ∧ mCls j = some ci)) := by
  unfold mArgOk at h
  rw [Bool.and_eq_true] at h
  obtain ⟨-, h⟩ := h
  split at h
  next => exact absurd rfl hci
  next =>
    split at h
    next i j r =>
      refine ⟨i, j, r, rfl, ?_⟩
      split at h
      next hb => exact Or.inl ⟨Nat.eq_of_beq_eq_true hb, Nat.eq_of_beq_eq_true h⟩
      next hb =>
        split at h
        next c0 hc0 =>
          have := Nat.eq_of_beq_eq_true h
          subst this
          exact Or.inr ⟨fun e => (by rw [e] at hb; cases hb), hc0⟩
        next => cases h
    next => cases h
theorem mClN_at : ∀ (ci : Nat) (r : vw_C), mCLS[ci]? = some r → mClN ci = r.1 := by
  intro ci r h
  rcases ci with _ | _ | _ | _ | _ | _ | _ | ci <;> first | (cases h; rfl) | (simp at h)
theorem mRecv {i j ci : Nat} {g : mG} {H : Heap} {locs : List Loc} (F : mFx ad oq dC dI aI aB X p s m args c cc own nL cp dat A) (hO : mIn (i, j)) (hH : mHp ad dC dI aI aB s A g H locs) (hj : (ci = 7 ∧ j = 24) ∨ (ci ≠ 7 ∧ mCls j = some ci)) :
    mE ad oq (.inr (.inr (i, j))) = .ref (ad i j) ∧ ∃ cell : Cell, H[ad i j]? = some cell ∧ cell.vm.isStatics = false ∧ s.vm.findClass (mClN ci) = some cell.cls := by
  obtain ⟨hx, hb, hml, hown, hts, hK, hRo, hcps, hq⟩ := F
  obtain ⟨hP, hD, hS⟩ := hH
  rcases hj with ⟨rfl, rfl⟩ | ⟨h7, hc⟩
  · have hi : i < 18 := by
      rcases hO with q | q
      · have z : 24 ≤ 23 := (mCL_99 _ q).2
        exact absurd z (by decide)
      · have : ∀ q ∈ mROL, q.2 = 24 → q.1 < 18 := by decide +kernel
        exact this _ q rfl
    refine ⟨mE_ref (by omega), ?_⟩
    obtain ⟨cell, h1, h2, h3, -⟩ := (hRo.2.1 i hi).1.kept hS.2.1
    exact ⟨cell, h1, h2, h3⟩
  · have hC := mIn_obj hO hc
    refine ⟨mE_refIn (ad := ad) (oq := oq) hC, ?_⟩
    obtain ⟨n, n1, n2⟩ := mWs_at ad aI aB (g := g) hC
    rw [mEnt_obj (q := (i, j)) hc] at n2
    obtain ⟨r, hr⟩ : ∃ r, mCLS[ci]? = some r := by
      have := mCL_cls _ hC ci hc
      exact ⟨_, List.getElem?_eq_getElem (l := mCLS) (by simpa using this)⟩
    rw [mClN_at ci r hr]
    exact va_recv hK hP hr n2
theorem mTD {st : List mV} {b : Nat} : st = (st.take b).reverse.reverse ++ st.drop b := by rw [List.reverse_reverse, List.take_append_drop]
theorem mOs_take {st : List mV} {b : Nat} (h : mOs st) : mOs (st.take b).reverse := fun v hv => h v (List.mem_of_mem_take (List.mem_reverse.mp hv))
theorem mOs_drop {st : List mV} {b : Nat} (h : mOs st) : mOs (st.drop b) := fun v hv => h v (List.mem_of_mem_drop hv)
theorem mS_inv {i a b d : Nat} {call : Nat → List mV → mG → mR} {vi : Bool} (F : mFx ad oq dC dI aI aB X p s m args c cc own nL cp dat A) (hCa : mCa ad oq dC dI aI aB X l R dat call) (hcs : cells + 0 ≤ R.cells ∧ slots + 0 ≤ R.slots) (hd : decode cc pc = .ok ((if vi then .invokevirtual i else .invokestatic i), 3)) (hck : cp.contains (2, i, a, b, d) = true) (hvi : vi = !(Nat.beq d 99)) (hn : mNx ad oq dC dI aI aB p l e R s m args below meth c cells slots Q LL nL A k nx res (pc + 3)) (h : mInv call a b d k nx L st g = some res) (hOs : mOs st) (hOl : mOl L) (hLn : L.length = nL) : mWk ad oq dC dI aI aB p l e R s m args below meth c cells slots Q LL A pc L st g := by
  have hcp := mCp_in F hck
  have FF := F
  obtain ⟨hx, hb, hml, hown, hts, hK, hRo, hcps, hq⟩ := F
  intro H locs ls hH hL
  obtain ⟨hP, hD, hS⟩ := id hH
  unfold mInv at h
  split at h
  next hok =>
    rw [Bool.and_eq_true, Bool.and_eq_true] at hok
    obtain ⟨hok, hlen4, hlb⟩ := hok
    have hlen4 : (st.drop b).length ≤ 4 := Nat.le_of_ble_eq_true hlen4
    obtain ⟨r, g1, hc, hk⟩ := mAns_some h
    have hOa : mOs (st.take b).reverse := mOs_take hOs
    obtain ⟨rm, rm1, rm2, rm3, rm4, hM, hMet⟩ := hCa a _ g r g1 hc hOa
    obtain ⟨m1, m2, m3, ⟨m4, m5, m6⟩, m7, m8, m9⟩ := id hM
    obtain ⟨p1, p2, p3⟩ := hcp
    dsimp only at p1 p2 p3
    have hb1 : (st.take b).length = b := by
      rw [List.length_take, Nat.min_eq_left (Nat.le_of_ble_eq_true hlb)]
    have hcat : 2 * (F0 m pc ls (st.map (mE ad oq))).monitorRoom + ((((st.drop b).map (mE ad oq))).map fun v => v.category).sum ≤ 8 := by
      refine lv_room ?_
      have := mCat_le (ad := ad) (r := st.drop b) hq
      omega
    have hstk : st.map (mE ad oq) = ((st.take b).reverse.map (mE ad oq)).reverse ++ (st.drop b).map (mE ad oq) := by
      rw [← List.map_reverse, ← List.map_append, ← mTD]
    have hDA := mAd_D ad aI aB hD
    have hAA := mAd_A ad aI aB hD
    have pre : ∀ U : State, U.heap = H → s.WarmedH U.vm → va_P (dC, dI) mCLS (mWs ad aI aB g) U.heap ∧ va_D (mAd ad) (mWs ad aI aB g) ∧ va_K (dC, dI) mCLS [(aI, .int), (aB, .byte)] U ∧ mRo ad oq X (mAd ad) U :=
      fun U hU hW => ⟨by rw [hU]; exact hP, hDA, va_K.moved hW.alike hK, mRo_moved ad oq X hRo hS hAA hU hW⟩
    have kk : ∀ (H1 : Heap) (locs1 : List Loc), ((∀ v, r = some v → mOv v) ∧ va_P (dC, dI) mCLS (mWs ad aI aB g1) H1) → va_S A s.heap H1 locs1 → W p l e R s m args below meth c H1 locs1 cells slots Q (F0 m (pc + 3) ls ((r.map (mE ad oq)).toList ++ (st.drop b).map (mE ad oq))) := by
      intro H1 locs1 ⟨hrO, hP1⟩ hS1
      have e : (r.map (mE ad oq)).toList ++ (st.drop b).map (mE ad oq) = (r.toList ++ st.drop b).map (mE ad oq) := by
        cases r <;> rfl
      rw [e]
      refine hn L _ g1 hk (fun v hv => ?_) hOl hLn H1 locs1 ls ⟨hP1, mD_of ad aI aB hD, hS1⟩ hL
      rcases List.mem_append.mp hv with z | z
      · cases r with
        | none => cases z
        | some w => exact (List.mem_singleton.mp z) ▸ hrO w rfl
      · exact mOs_drop hOs v z
    have CF : CallFix p m c cc nL s args mGd own := ⟨hx, hb, hml, hown, hts⟩
    have hR : rm.frames + 1 ≤ R.frames ∧ 8 + (mdL (dat a) + 11) + rm.locals ≤ R.locals := ⟨rm1, by omega⟩
    have hsz : ls.size = nL := by rw [← hLn]; exact hL.1.1
    rw [hstk]
    cases hd99 : Nat.beq d 99 with
    | true =>
      have e99 : d = 99 := Nat.eq_of_beq_eq_true hd99
      rw [hd99] at hvi
      subst hvi
      have hcls : mdC (dat a) = 99 := by rw [← p2, e99]
      have hst : Cond.static (mdY (dat a)) ∈ mGd := by
        rcases m8 with ⟨-, z⟩ | ⟨z, -⟩
        · exact z
        · exact absurd hcls z
      have hn2 : ((st.take b).reverse.map (mE ad oq)).length = mdN (dat a) := by
        rw [List.length_map, List.length_reverse, hb1, p1, if_pos hcls]; rfl
      rcases p3 with p3 | p3
      · refine mCallK (Po := fun H1 => (∀ v, r = some v → mOv v) ∧ va_P (dC, dI) mCLS (mWs ad aI aB g1) H1) (va_runS CF hMet ⟨callB_of (mdN (dat a)) hts (mGoodWs hM) rfl rm3 rm4 (hts _ m7) (hts _ p3) ⟨m4, m5, m6⟩ hR, hts _ hst⟩ ⟨mBlind, fun U hU hW => ⟨rfl, pre U hU hW⟩⟩ rfl hn2 hsz rfl hcat hd hcs) hS hAA (fun _ _ _ z => z) kk
      · refine mCallK (Po := fun H1 => (∀ v, r = some v → mOv v) ∧ va_P (dC, dI) mCLS (mWs ad aI aB g1) H1) (va_runSN CF hMet ⟨va_cnB (mdN (dat a)) hts (mGoodWs hM) rfl rm3 rm4 (hRo.2.2.2.2.2.2 _ p3) (hts _ m7) ⟨m4, m5, m6⟩ hR, hts _ hst, trivial⟩ ⟨mBlind, fun U hU hW => ⟨rfl, pre U hU hW⟩⟩ rfl hn2 hsz rfl hcat hd hcs) hS hAA (fun _ _ _ z => z) kk
    | false =>
      have e99 : d ≠ 99 := fun z => by rw [z] at hd99; cases hd99
      rw [hd99] at hvi
      subst hvi
      have hcls : mdC (dat a) ≠ 99 := by rw [← p2]; exact e99
      obtain ⟨hst, hse, hcn⟩ : Cond.instanceMethod (mdY (dat a)) ∈ mGd ∧ Cond.selects (mdY (dat a)).cls (mdY (dat a)) (mdY (dat a)) ∈ mGd ∧ mClN (mdC (dat a)) = (mdY (dat a)).cls := by
        rcases m8 with ⟨z, -⟩ | ⟨-, z⟩
        · exact absurd z hcls
        · exact z
      obtain ⟨i0, j0, r0, hvs, hj0⟩ := mArgs_eq hok e99
      have hO0 : mIn (i0, j0) := by
        have := hOa (.inr (.inr (i0, j0))) (by rw [hvs]; exact List.mem_cons_self)
        exact this
      obtain ⟨eR, cell, c1, c2, c3⟩ := mRecv FF hO0 hH hj0
      rw [p2, hcn] at c3
      have hlr : r0.length = mdN (dat a) := by
        have := congrArg List.length hvs
        rw [List.length_reverse, hb1, p1, if_neg hcls, List.length_cons] at this
        omega
      have hn2 : (r0.map (mE ad oq)).length = mdN (dat a) := by rw [List.length_map]; exact hlr
      have est : ((st.take b).reverse.map (mE ad oq)).reverse ++ (st.drop b).map (mE ad oq) = (r0.map (mE ad oq)).reverse ++ .ref (ad i0 j0) :: (st.drop b).map (mE ad oq) := by
        rw [hvs, List.map_cons, eR, List.reverse_cons, List.append_assoc]; rfl
      have eargs : (Value.ref (ad i0 j0) :: r0.map (mE ad oq)).toArray = ((st.take b).reverse.map (mE ad oq)).toArray := by
        rw [hvs, List.map_cons, eR]
      rw [est]
      have hPre : PreV s H (mdY (dat a)).cls (ad i0 j0) (va_Pc ((st.take b).reverse.map (mE ad oq)) (fun U => va_P (dC, dI) mCLS (mWs ad aI aB g) U.heap ∧ va_D (mAd ad) (mWs ad aI aB g) ∧ va_K (dC, dI) mCLS [(aI, .int), (aB, .byte)] U ∧ mRo ad oq X (mAd ad) U)) (r0.map (mE ad oq)) :=
        ⟨mBlind, ⟨cell, c1, c2, c3⟩, fun U hU hW => ⟨eargs, pre U hU hW⟩⟩
      rcases p3 with p3 | p3
      · refine mCallK (Po := fun H1 => (∀ v, r = some v → mOv v) ∧ va_P (dC, dI) mCLS (mWs ad aI aB g1) H1) (va_runV (C := (mdY (dat a)).cls) CF hMet ⟨callB_of (mdN (dat a)) hts (mGoodWs hM) rfl rm3 rm4 (hts _ m7) (hts _ p3) ⟨m4, m5, m6⟩ hR, hts _ hst, hts _ hse⟩ hPre rfl hn2 hsz rfl hcat hd hcs) hS hAA (fun _ _ _ z => z) kk
      · refine mCallK (Po := fun H1 => (∀ v, r = some v → mOv v) ∧ va_P (dC, dI) mCLS (mWs ad aI aB g1) H1) (va_runVN (C := (mdY (dat a)).cls) CF hMet ⟨va_cnB (mdN (dat a)) hts (mGoodWs hM) rfl rm3 rm4 (hRo.2.2.2.2.2.2 _ p3) (hts _ m7) ⟨m4, m5, m6⟩ hR, hts _ hst, hts _ hse⟩ hPre rfl hn2 hsz rfl hcat hd hcs) hS hAA (fun _ _ _ z => z) kk
  next => cases h
end STEP5
end
section
/-! a whole method -/
section STEP6
variable {ad : Nat → Nat → Nat} {oq : Value} {dC : Nat → ClassId} {dI : Nat → Nat → Nat} {aI aB : ClassId} {X : mX}
variable {p : Program} {l : Launch} {e : Env} {R : Room} {s : State} {m : MethodId} {args : Array Value} {below : List Frame} {meth : Method} {c : Code} {cells slots : Nat} {Q : State → Prop}
variable {cc : ByteArray} {own : String} {LL : List Nat} {nL : Nat} {cp : List (Nat × Nat × Nat × Nat × Nat)} {dat : Nat → mDat} {A : Nat → Prop}
variable {k : mK} {nx full : List mT} {pc : Nat} {L : mL} {st : List mV} {g : mG} {res : Option mV × mG}
/-- the ends of a method: what holds there -/
def mRt (ad : Nat → Nat → Nat) (oq : Value) (dC : Nat → ClassId) (dI : Nat → Nat → Nat) (aI aB : ClassId) (p : Program) (l : Launch) (e : Env) (R : Room) (s : State) (m : MethodId) (args : Array Value) (below : List Frame) (meth : Method) (c : Code) (cells slots : Nat) (Q : State → Prop) (A : Nat → Prop) (cc : ByteArray) (rt : Nat) (res : Option mV × mG) : Prop :=
  ∀ (g : mG) (H : Heap) (locs : List Loc) (ls : Array Slot) (pc : Nat), mHp ad dC dI aI aB s A g H locs →
    (∀ v : Int32, decode cc pc = .ok (.ireturn, 1) → mRetI rt [.inl v] g = some res → W p l e R s m args below meth c H locs cells slots Q (F0 m pc ls [.int v])) ∧
    (∀ q : Nat × Nat, decode cc pc = .ok (.areturn, 1) → rt = 5 → mIn q → q.1 ≠ 99 → (some (.inr (.inr q)), g) = res → W p l e R s m args below meth c H locs cells slots Q (F0 m pc ls [mE ad oq (.inr (.inr q))])) ∧
    (decode cc pc = .ok (.return_, 1) → rt = 0 → (none, g) = res → W p l e R s m args below meth c H locs cells slots Q (F0 m pc ls []))
def mIsSw : Instr → Bool
  | .tableswitch _ _ _ _ => true
  | .lookupswitch _ _ => true
  | _ => false
theorem mStep_sound {call : Nat → List mV → mG → mR} {rt ln : Nat} {ins : Instr} {a b d : Nat} {sw : List (Int32 × Nat)} (F : mFx ad oq dC dI aI aB X p s m args c cc own nL cp dat A) (hfl : mFl) (hCa : mCa ad oq dC dI aI aB X l R dat call) (hcs : cells + 0 ≤ R.cells ∧ slots + 0 ≤ R.slots)
    (hR1 : 1 ≤ R.frames) (hR2 : 8 + (nativeFrameWords "java/lang/System" "arraycopy" 5 + 11) ≤ R.locals) (hw : Cond.native arraycopyName ∈ mGd ∧ Cond.static arraycopyName ∈ mGd ∧ Cond.initialized "java/lang/System" ∈ mGd)
    (hrt : mRt ad oq dC dI aI aB p l e R s m args below meth c cells slots Q A cc rt res) (hdg : decode cc pc = .ok (ins, ln)) (hln : (mIsSw ins || Nat.beq ln (mLn ins)) = true) (hck : mCkI LL nL cp pc ins a b d sw = true)
    (hn : mIsSw ins = false → mNx ad oq dC dI aI aB p l e R s m args below meth c cells slots Q LL nL A k nx res (pc + mLn ins)) (hj : ∀ t, mNx ad oq dC dI aI aB p l e R s m args below meth c cells slots Q LL nL A k (mDrop full t) res t) (h : mIns X call rt full k ins a b d sw nx L st g = some res) (hOs : mOs st) (hOl : mOl L) (hLn : L.length = nL) : mWk ad oq dC dI aI aB p l e R s m args below meth c cells slots Q LL A pc L st g := by
  have hd : mIsSw ins = false → decode cc pc = .ok (ins, mLn ins) := fun z => by
    rw [z, Bool.false_or] at hln
    rw [hdg, Nat.eq_of_beq_eq_true hln]
  have hx := F.1
  have hb := F.2.1
  unfold mIns at h
  split at h
  next n => exact fun H locs ls hH hL => lv_iconst hx hb (hd rfl) rfl ((hn rfl) L _ g h (mOs_c trivial hOs) hOl hLn H locs ls hH hL)
  next n => exact fun H locs ls hH hL => lv_bipush hx hb (hd rfl) rfl ((hn rfl) L _ g h (mOs_c trivial hOs) hOl hLn H locs ls hH hL)
  next n => exact fun H locs ls hH hL => lv_sipush hx hb (hd rfl) rfl ((hn rfl) L _ g h (mOs_c trivial hOs) hOl hLn H locs ls hH hL)
  next i => exact mS_ldc2 F (hd rfl) hck (hn rfl) h hOs hOl hLn
  next i => exact mS_ldc F (hd rfl) hck (hn rfl) h hOs hOl hLn
  next n => exact mS_ldI (len := 2) (hn rfl) h hOs hOl hLn (fun H locs ls rest v h1 kk => lv_iload hx hb (hd rfl)  h1 kk)
  next n => exact mS_ldI (len := 1) (hn rfl) h hOs hOl hLn (fun H locs ls rest v h1 kk => lv_iload_n hx hb (hd rfl) rfl h1 kk)
  next n => exact mS_ldR (len := 2) (hn rfl) h hOs hOl hLn (fun H locs ls rest v h1 kk => lv_aload hx hb (hd rfl)  h1 kk)
  next n => exact mS_ldR (len := 1) (hn rfl) h hOs hOl hLn (fun H locs ls rest v h1 kk => lv_aload_n hx hb (hd rfl) rfl h1 kk)
  next n => exact mS_ldL (len := 2) (hn rfl) h hOs hOl hLn (fun H locs ls rest v h1 kk => lv_lload hx hb (hd rfl)  h1 kk)
  next n => exact mS_ldL (len := 1) (hn rfl) h hOs hOl hLn (fun H locs ls rest v h1 kk => lv_lload_n hx hb (hd rfl) rfl h1 kk)
  next n => exact mS_stI (len := 2) F (hn rfl) h hOs hOl hLn hck (fun H locs ls rest lv v x _ hv hx2 hl h1 kk => by
    obtain ⟨q, rfl⟩ := hx2
    subst hv
    exact lv_istore hx hb (hd rfl) hl h1 rfl kk)
  next n => exact mS_stI (len := 1) F (hn rfl) h hOs hOl hLn hck (fun H locs ls rest lv v x _ hv hx2 hl h1 kk => by
    obtain ⟨q, rfl⟩ := hx2
    subst hv
    exact lv_istore_n hx hb (hd rfl) rfl hl h1 rfl kk)
  next n => exact mS_stR (len := 2) F (hn rfl) h hOs hOl hLn hck (fun H locs ls rest lv v x hv hl h1 kk => by
    subst hv
    exact lv_astore hx hb (hd rfl) hl h1 rfl kk)
  next n => exact mS_stR (len := 1) F (hn rfl) h hOs hOl hLn hck (fun H locs ls rest lv v x hv hl h1 kk => by
    subst hv
    exact lv_astore_n hx hb (hd rfl) rfl hl h1 rfl kk)
  next n =>
    unfold mCkI at hck
    dsimp only at hck
    rw [Bool.and_eq_true, Bool.and_eq_true] at hck
    exact mS_stL (len := 2) F (hn rfl) h hOs hOl hLn hck.1.1 (List.contains_iff_mem.mp hck.1.2) (Nat.blt_eq.mp hck.2) (fun H locs ls rest lv x hl kk => lv_lstore hx hb (hd rfl) hl (Nat.blt_eq.mp hck.2) rfl kk)
  next n =>
    unfold mCkI at hck
    dsimp only at hck
    rw [Bool.and_eq_true, Bool.and_eq_true] at hck
    exact mS_stL (len := 1) F (hn rfl) h hOs hOl hLn hck.1.1 (List.contains_iff_mem.mp hck.1.2) (Nat.blt_eq.mp hck.2) (fun H locs ls rest lv x hl kk => lv_lstore_n hx hb (hd rfl) rfl hl (Nat.blt_eq.mp hck.2) rfl kk)
  next n q => exact mS_inc (len := 3) F (hn rfl) h hOs hOl hLn hck (fun H locs ls rest lv x a hl ha h1 kk => lv_iinc hx hb (hd rfl) hl ha rfl h1 rfl kk)
  next => exact mS_b2 (len := 1) (hn rfl) h hOs hOl hLn (fun H locs ls rest x y kk => lv_iadd hx hb (hd rfl) kk)
  next => exact mS_b2 (len := 1) (hn rfl) h hOs hOl hLn (fun H locs ls rest x y kk => lv_isub hx hb (hd rfl) kk)
  next => exact mS_b2 (len := 1) (hn rfl) h hOs hOl hLn (fun H locs ls rest x y kk => lv_imul hx hb (hd rfl) kk)
  next => exact mS_b2 (len := 1) (hn rfl) h hOs hOl hLn (fun H locs ls rest x y kk => lv_iand hx hb (hd rfl) kk)
  next => exact mS_b2 (len := 1) (hn rfl) h hOs hOl hLn (fun H locs ls rest x y kk => lv_ior hx hb (hd rfl) kk)
  next => exact mS_b2 (len := 1) (hn rfl) h hOs hOl hLn (fun H locs ls rest x y kk => lv_ixor hx hb (hd rfl) kk)
  next => exact mS_b2 (len := 1) (hn rfl) h hOs hOl hLn (fun H locs ls rest x y kk => lv_ishl hx hb (hd rfl) kk)
  next => exact mS_b2 (len := 1) (hn rfl) h hOs hOl hLn (fun H locs ls rest x y kk => lv_ishr hx hb (hd rfl) kk)
  next => exact mS_b2n (len := 1) (hn rfl) h hOs hOl hLn (fun H locs ls rest x y hy kk => lv_idiv hx hb (hd rfl) hy kk)
  next => exact mS_b2n (len := 1) (hn rfl) h hOs hOl hLn (fun H locs ls rest x y hy kk => lv_irem hx hb (hd rfl) hy kk)
  next => exact mS_j2 (len := 1) (hn rfl) h hOs hOl hLn (fun H locs ls rest x y kk => lv_ladd hx hb (hd rfl) kk)
  next => exact mS_j2 (len := 1) (hn rfl) h hOs hOl hLn (fun H locs ls rest x y kk => lv_lmul hx hb (hd rfl) kk)
  next => exact mS_j2n (len := 1) (hn rfl) h hOs hOl hLn (fun H locs ls rest x y hy kk => lv_ldiv hx hb (hd rfl) hy kk)
  next => exact mS_j2n (len := 1) (hn rfl) h hOs hOl hLn (fun H locs ls rest x y hy kk => lv_lrem hx hb (hd rfl) hy kk)
  next => exact mS_lcmp (len := 1) (hn rfl) h hOs hOl hLn (fun H locs ls rest x y kk => W.lcmp hx hb (hd rfl) kk)
  next => exact mS_i2l (len := 1) (hn rfl) h hOs hOl hLn (fun H locs ls rest x kk => lv_i2l hx hb (hd rfl) rfl kk)
  next => exact mS_l2i (len := 1) (hn rfl) h hOs hOl hLn (fun H locs ls rest x kk => lv_l2i hx hb (hd rfl) rfl kk)
  next => exact mS_i2b (len := 1) (hn rfl) h hOs hOl hLn (fun H locs ls rest x kk => lv_i2b hx hb (hd rfl) rfl kk)
  next => exact mS_i2c (len := 1) (hn rfl) h hOs hOl hLn (fun H locs ls rest x kk => lv_i2c hx hb (hd rfl) rfl kk)
  next => exact mS_dup F (hd rfl) (hn rfl) h hOs hOl hLn
  next => exact mS_dup2 F (hd rfl) (hn rfl) h hOs hOl hLn
  next => exact mS_pop F (hd rfl) (hn rfl) h hOs hOl hLn
  next cd off =>
    unfold mCkI at hck
    exact mS_if1 F (hd rfl) (of_decide_eq_true hck) (hn rfl) (hj a) h hOs hOl hLn
  next cd off =>
    unfold mCkI at hck
    exact mS_if2 F (hd rfl) (of_decide_eq_true hck) (hn rfl) (hj a) h hOs hOl hLn
  next off =>
    unfold mCkI at hck
    exact fun H locs ls hH hL => lv_goto hx hb (hd rfl) (of_decide_eq_true hck) (hj a L st g h hOs hOl hLn H locs ls hH hL)
  next => exact mS_tsw F hdg hck hj h hOs hOl hLn
  next => exact mS_lsw F hdg hck hj h hOs hOl hLn
  next i => exact mS_get F hfl (hd rfl) hck (hn rfl) h hOs hOl hLn
  next i =>
    unfold mCkI at hck
    dsimp only at hck
    have hck2 := (Bool.and_eq_true _ _).mp hck
    exact mS_put F hfl (hd rfl) hck2.1 hck2.2 (hn rfl) h hOs hOl hLn
  next i => exact mS_gets F (hd rfl) hck (hn rfl) h hOs hOl hLn
  next => exact mS_ald (bt := false) F (hd rfl) (hn rfl) h hOs hOl hLn
  next => exact mS_ald (bt := true) F (hd rfl) (hn rfl) h hOs hOl hLn
  next => exact mS_ast (bt := false) F (hd rfl) (hn rfl) h hOs hOl hLn
  next => exact mS_ast (bt := true) F (hd rfl) (hn rfl) h hOs hOl hLn
  next => exact mS_len F (hd rfl) (hn rfl) h hOs hOl hLn
  next i =>
    unfold mCkI at hck
    dsimp only at hck
    have hck2 := (Bool.and_eq_true _ _).mp hck
    exact mS_inv (vi := true) F hCa hcs (hd rfl) hck2.1 hck2.2.symm (hn rfl) h hOs hOl hLn
  next i =>
    unfold mCkI at hck
    dsimp only at hck
    cases h9 : Nat.beq a 999 with
    | true =>
      rw [h9] at h hck
      exact mS_copy F hR1 hR2 hw (hd rfl) hck (hn rfl) h hOs hOl hLn
    | false =>
      rw [h9] at h hck
      dsimp only at h hck
      cases h8 : Nat.beq a 998 with
      | true => rw [h8] at h; cases h
      | false =>
      rw [h8] at h hck
      have hck2 := (Bool.and_eq_true _ _).mp hck
      exact mS_inv (vi := false) F hCa hcs (hd rfl) hck2.1 (by rw [hck2.2]; rfl) (hn rfl) h hOs hOl hLn
  next =>
    intro H locs ls hH hL
    have h0 := h
    unfold mRetI at h
    split at h
    next v => exact (hrt g H locs ls pc hH).1 v (hd rfl) h0
    next => cases h
  next =>
    intro H locs ls hH hL
    cases h5 : Nat.beq rt 5 with
    | false => rw [h5] at h; cases h
    | true =>
      rw [h5] at h
      dsimp only at h
      unfold mRetR at h
      split at h
      next i j =>
        split at h
        next => cases h
        next hj0 => exact (hrt g H locs ls pc hH).2.1 (i, j) (hd rfl) (Nat.eq_of_beq_eq_true h5) (mOs_h hOs) (mIn_99 (mOs_h hOs) (mBeq_ne hj0)) (Option.some.inj h)
      next => cases h
  next =>
    intro H locs ls hH hL
    cases h5 : Nat.beq rt 0 with
    | false => rw [h5] at h; cases h
    | true =>
      rw [h5] at h
      dsimp only at h
      unfold mRetV at h
      split at h
      next => exact (hrt g H locs ls pc hH).2.2 (hd rfl) (Nat.eq_of_beq_eq_true h5) (Option.some.inj h)
      next => cases h
  next => cases h
end STEP6
end
section
/-! runs and calls -/
section STEP7
variable {ad : Nat → Nat → Nat} {oq : Value} {dC : Nat → ClassId} {dI : Nat → Nat → Nat} {aI aB : ClassId} {X : mX}
variable {p : Program} {l : Launch} {e : Env} {R : Room} {s : State} {m : MethodId} {args : Array Value} {below : List Frame} {meth : Method} {c : Code} {cells slots : Nat} {Q : State → Prop}
variable {cc : ByteArray} {own : String} {LL : List Nat} {nL : Nat} {cp : List (Nat × Nat × Nat × Nat × Nat)} {dat : Nat → mDat} {A : Nat → Prop}
variable {k : mK} {nx full : List mT} {pc : Nat} {L : mL} {st : List mV} {g : mG} {res : Option mV × mG}
def mPc : List mT → Nat
  | [] => 0
  | x :: _ => x.1
def mSeq : List mT → Bool
  | [] => true
  | x :: nx => (match nx with
    | [] => true
    | y :: _ => mIsSw x.2.1.1 || Nat.beq y.1 (x.1 + x.2.1.2)) && mSeq nx
def mTok (LL : List Nat) (nL : Nat) (cp : List (Nat × Nat × Nat × Nat × Nat)) (cc : ByteArray) (full : List mT) : Prop :=
  mSeq full = true ∧ ∀ x ∈ full, decode cc x.1 = .ok (x.2.1.1, x.2.1.2) ∧ (mIsSw x.2.1.1 || Nat.beq x.2.1.2 (mLn x.2.1.1)) = true ∧ mCkI LL nL cp x.1 x.2.1.1 x.2.2.1.1 x.2.2.1.2.1 x.2.2.1.2.2 x.2.2.2 = true
theorem mSeq_suf : ∀ (pre cur : List mT), mSeq (pre ++ cur) = true → mSeq cur = true
  | [], _, h => h
  | x :: pre, cur, h => mSeq_suf pre cur (by
    rw [List.cons_append] at h
    unfold mSeq at h
    exact ((Bool.and_eq_true _ _).mp h).2)
theorem mDrop_spec : ∀ (full : List mT) (t : Nat), mDrop full t = [] ∨ ∃ pre x r, full = pre ++ x :: r ∧ mDrop full t = x :: r ∧ x.1 = t
  | [], _ => Or.inl rfl
  | x :: nx, t => by
    unfold mDrop
    cases hb : Nat.beq x.1 t with
    | true => exact Or.inr ⟨[], x, nx, rfl, rfl, Nat.eq_of_beq_eq_true hb⟩
    | false =>
      rcases mDrop_spec nx t with h | ⟨pre, y, r, h1, h2, h3⟩
      · exact Or.inl h
      · exact Or.inr ⟨x :: pre, y, r, by rw [h1]; rfl, h2, h3⟩
theorem mRun_nil {call : Nat → List mV → mG → mR} {rt n : Nat} : mRun X call rt full n [] L st g = none := by
  cases n <;> rfl
theorem mRun_sound {call : Nat → List mV → mG → mR} {rt : Nat} (F : mFx ad oq dC dI aI aB X p s m args c cc own nL cp dat A) (hfl : mFl) (hCa : mCa ad oq dC dI aI aB X l R dat call) (hcs : cells + 0 ≤ R.cells ∧ slots + 0 ≤ R.slots)
    (hR1 : 1 ≤ R.frames) (hR2 : 8 + (nativeFrameWords "java/lang/System" "arraycopy" 5 + 11) ≤ R.locals) (hw : Cond.native arraycopyName ∈ mGd ∧ Cond.static arraycopyName ∈ mGd ∧ Cond.initialized "java/lang/System" ∈ mGd)
    (hrt : mRt ad oq dC dI aI aB p l e R s m args below meth c cells slots Q A cc rt res) (htk : mTok LL nL cp cc full) :
    ∀ (n : Nat) (cur : List mT), (∃ pre, full = pre ++ cur) → mNx ad oq dC dI aI aB p l e R s m args below meth c cells slots Q LL nL A (mRun X call rt full n) cur res (mPc cur) := by
  intro n
  induction n with
  | zero => intro cur _ L st g h; cases h
  | succ n ih =>
    intro cur ⟨pre, hpre⟩ L st g h hOs hOl hLn
    cases cur with
    | nil => rw [mRun_nil] at h; cases h
    | cons x nx =>
      obtain ⟨t1, t2, t3⟩ := htk.2 x (by rw [hpre]; exact List.mem_append_right _ List.mem_cons_self)
      have hseq := mSeq_suf pre (x :: nx) (hpre ▸ htk.1)
      have hsuf : ∃ pre, full = pre ++ nx := ⟨pre ++ [x], by rw [hpre, List.append_assoc]; rfl⟩
      refine mStep_sound (full := full) F hfl hCa hcs hR1 hR2 hw hrt t1 t2 t3 (fun hsw => ?_) (fun t => ?_) h hOs hOl hLn
      · intro L' st' g' h' o1 o2 o3
        cases nx with
        | nil => rw [mRun_nil] at h'; cases h'
        | cons y r =>
          have e : y.1 = x.1 + mLn x.2.1.1 := by
            unfold mSeq at hseq
            have := ((Bool.and_eq_true _ _).mp hseq).1
            dsimp only at this
            rw [hsw, Bool.false_or] at this t2
            rw [Nat.eq_of_beq_eq_true this, Nat.eq_of_beq_eq_true t2]
          have := ih (y :: r) hsuf L' st' g' h' o1 o2 o3
          rw [show mPc (y :: r) = y.1 from rfl, e] at this
          exact this
      · intro L' st' g' h' o1 o2 o3
        rcases mDrop_spec full t with q | ⟨pre2, y, r, q1, q2, q3⟩
        · rw [q, mRun_nil] at h'; cases h'
        · have := ih (y :: r) ⟨pre2, q1⟩ L' st' g' (q2 ▸ h') o1 o2 o3
          rw [show mPc (y :: r) = y.1 from rfl, q3] at this
          exact this
end STEP7
section STEP8
/-- the run, without a count -/
noncomputable def mEv (X : mX) (call : Nat → List mV → mG → mR) (rt : Nat) (full : List mT) : mK := fun cur L st g => by
  classical
  exact if h : ∃ n r, mRun X call rt full n cur L st g = some r then some (Classical.choose (Classical.choose_spec h)) else none
theorem mEv_run {X : mX} {call : Nat → List mV → mG → mR} {rt : Nat} {full cur : List mT} {L : mL} {st : List mV} {g : mG} {r : Option mV × mG} (h : mEv X call rt full cur L st g = some r) : ∃ n, mRun X call rt full n cur L st g = some r := by
  unfold mEv at h
  split at h
  next h0 =>
    cases h
    exact ⟨_, Classical.choose_spec (Classical.choose_spec h0)⟩
  next => cases h
def mL0 (nL : Nat) (vs : List mV) : mL := vs.map some ++ List.replicate (nL - vs.length) none
noncomputable def mCall (dat : Nat → mDat) (X : mX) : Nat → Nat → List mV → mG → mR
  | 0 => fun _ _ _ => none
  | d + 1 => fun a vs g => match Nat.ble vs.length (mdL (dat a)) && vs.all mNoL with
    | true => mEv X (mCall dat X d) (mdK (dat a)) (mdT (dat a)) (mdT (dat a)) (mL0 (mdL (dat a)) vs) [] g
    | false => none
theorem mL0_at {nL n : Nat} {vs : List mV} {v : mV} (h : (mL0 nL vs)[n]? = some (some v)) : vs[n]? = some v := by
  unfold mL0 at h
  by_cases hn : n < vs.length
  · rw [List.getElem?_append_left (by simpa using hn), List.getElem?_map] at h
    cases hv : vs[n]? with
    | none => rw [hv] at h; cases h
    | some w => rw [hv] at h; cases h; rfl
  · rw [List.getElem?_append_right (by simpa using hn)] at h
    have := List.mem_of_getElem? h
    have := (List.mem_replicate.mp this).2
    cases this
theorem mArgs_in : ∀ (vs : List Value) (i n : Nat) (v : Value), (∀ w ∈ vs, w.category = 1) → vs[n]? = some v → (i + n, v) ∈ lv_args i vs
  | [], _, _, _, _, h => by cases h
  | w :: vs, i, n, v, hc, h => by
    have h1 := hc w List.mem_cons_self
    unfold lv_args
    rw [if_neg (by rw [h1]; decide)]
    cases n with
    | zero => cases h; exact List.mem_cons_self
    | succ n =>
      refine List.mem_cons_of_mem _ ?_
      have := mArgs_in vs (i + 1) n v (fun z hz => hc z (List.mem_cons_of_mem _ hz)) h
      rw [show i + (n + 1) = i + 1 + n by omega]
      exact this
theorem mSl_len : ∀ (vs : List Value), (∀ w ∈ vs, w.category = 1) → (lg_sl vs).length = vs.length
  | [], _ => rfl
  | w :: vs, hc => by
    have h1 := hc w List.mem_cons_self
    have ih := mSl_len vs (fun z hz => hc z (List.mem_cons_of_mem _ hz))
    unfold lg_sl at ih ⊢
    rw [List.flatMap_cons, List.length_append, ih, h1]
    simp
    omega
end STEP8
end
section
/-! Every call of the small machine that answers is a contract -/
section CALLS
variable {ad : Nat → Nat → Nat} {oq : Value} {dC : Nat → ClassId} {dI : Nat → Nat → Nat} {aI aB : ClassId} {X : mX} {l : Launch} {dat : Nat → mDat}
def mDatOk (dat : Nat → mDat) : Prop := ∀ a, mdT (dat a) ≠ [] → mMO (dat a) ∧ mTok (mdW (dat a)) (mdL (dat a)) (mdP (dat a)) (mdB (dat a)) (mdT (dat a)) ∧ mPc (mdT (dat a)) = 0 ∧ ∀ q ∈ mdP (dat a), mCpO dat (mdY (dat a)).cls q
theorem mE_one {vs : List mV} (hq : oq.category = 1) (h : vs.all mNoL = true) : ∀ w ∈ vs.map (mE ad oq), w.category = 1 := by
  intro w hw
  obtain ⟨v, hv, rfl⟩ := List.mem_map.mp hw
  have h1 := List.all_eq_true.mp h v hv
  rcases lv_cat (mE ad oq v) with z | z
  · exact z
  · obtain ⟨x, rfl⟩ := mE_cat ad oq hq z
    cases h1
theorem mLH_0 {nL : Nat} {LL : List Nat} {vs : List mV} (hq : oq.category = 1) (hl : vs.length ≤ nL) (h : vs.all mNoL = true) :
    mLH ad oq LL ((lg_sl (vs.map (mE ad oq)) ++ List.replicate (nL - (lg_sl (vs.map (mE ad oq))).length) Slot.unset).toArray) (mL0 nL vs) := by
  have h1 := mE_one (ad := ad) hq h
  have e := mSl_len _ h1
  have hlen : (mL0 nL vs).length = nL := by
    unfold mL0
    rw [List.length_append, List.length_map, List.length_replicate]
    omega
  have h2 := lv_entry (vs.map (mE ad oq)) (n := nL) (by rw [e, List.length_map]; exact hl)
  refine ⟨⟨by rw [hlen]; exact h2.1, h2.2.1, fun q hq2 => ?_⟩, fun n x hn => ?_⟩
  · obtain ⟨v, hv, e2⟩ := mPr_of ad oq hq2
    have h3 := mL0_at hv
    have h4 := mArgs_in (vs.map (mE ad oq)) 0 q.1 (mE ad oq v) h1 (by rw [List.getElem?_map, h3]; rfl)
    rw [Nat.zero_add] at h4
    rw [e2]
    exact h2.2.2 _ h4
  · have := List.all_eq_true.mp h _ (List.mem_of_getElem? (mL0_at hn))
    cases this
/-- a contract by a walk, of a class that has methods of the machine's own beside -/
theorem mt_ofWF {l : Launch} {y : MethodName} {ws ws' : List Cond} {rm : Room} {Pc : Array Value → State → Prop} {Qc : Array Value → State → Outcome → State → Prop} {mc ms : Nat} {free : Addr → Prop} {cc : ByteArray} {maxL : Nat} {ret : Option FieldType}
    (hy : plainFor y = true) (hw : ws = Cond.code y cc maxL ret :: ws')
    (body : ∀ p e s m args below meth c s₁, BodyLoose p l y (headSpec ws rm) cc maxL ret e s m args below meth c s₁ → c.maxLocals = maxL → Pc args s →
      W p l e (headSpec ws rm).room s m args below meth c s.heap [] 0 0 (MQ below Qc args s mc ms free) (entryFrame m args maxL)) : Met l y ws rm Pc Qc mc ms free := by
  refine MetFree.of_bodySF (code := cc) (maxLocals := maxL) (ret := ret) hy ?_ ?_
  · intro args s m h hn
    obtain ⟨meth, c, h1, h2, h3, h4, h5, h6, -, -⟩ := Cond.code_spec hn (atoms_spec (ws := ws) h _ (by rw [hw]; exact List.mem_cons_self))
    exact ⟨meth, c, h1, h2, h3, h4, h5, h6⟩
  · intro p e s m args below meth c s₁ B hml hP _
    have hh0 : s₁.heap = s.heap := by rw [B.state]; rfl
    obtain ⟨t, a1, o, b1, b2, b3⟩ := body p e s m args below meth c s₁ B hml hP s₁ hh0 (Stand.of_body B)
    exact ⟨t, o, a1, b1, b2, ⟨b3.1, b3.2⟩⟩
def mRm (d : Nat) : Room := { frames := d, cells := 0, slots := 0, locals := 40 * d }
set_option maxHeartbeats 1000000 in
theorem mCall_met (hfl : mFl) (hdat : mDatOk dat) (hq : oq.category = 1) (hw : Cond.native arraycopyName ∈ mGd ∧ Cond.static arraycopyName ∈ mGd ∧ Cond.initialized "java/lang/System" ∈ mGd) :
    ∀ (d : Nat) (a : Nat) (vs : List mV) (g : mG) (r : Option mV) (g' : mG), mCall dat X d a vs g = some (r, g') → mOs vs → mMO (dat a) ∧
      Met l (mdY (dat a)) (Cond.code (mdY (dat a)) (mdB (dat a)) (mdL (dat a)) (mdR (dat a)) :: mGd) (mRm d)
        (va_Pc (vs.map (mE ad oq)) (fun U => va_P (dC, dI) mCLS (mWs ad aI aB g) U.heap ∧ va_D (mAd ad) (mWs ad aI aB g) ∧ va_K (dC, dI) mCLS [(aI, .int), (aB, .byte)] U ∧ mRo ad oq X (mAd ad) U))
        (fun _ st oc t => oc = .returned (r.map (mE ad oq)) ∧ ((∀ v, r = some v → mOv v) ∧ va_P (dC, dI) mCLS (mWs ad aI aB g') t.heap) ∧ va_F (mAd ad) st t) 0 0 (mAd ad) := by
  intro d
  induction d with
  | zero => intro a vs g r g' h; cases h
  | succ d ih =>
    intro a vs g r g' h hOs
    unfold mCall at h
    split at h
    next hok =>
      rw [Bool.and_eq_true] at hok
      have hlen : vs.length ≤ mdL (dat a) := Nat.le_of_ble_eq_true hok.1
      obtain ⟨n, hrun⟩ := mEv_run h
      have hne : mdT (dat a) ≠ [] := fun e => by rw [e, mRun_nil] at hrun; cases hrun
      obtain ⟨hM, hTk, hpc, hCp⟩ := hdat a hne
      obtain ⟨m1, m2, m3, ⟨m4, m5, m6⟩, m7, m8, m9⟩ := id hM
      refine ⟨hM, ?_⟩
      refine mt_ofWF (cc := mdB (dat a)) (maxL := mdL (dat a)) (ret := mdR (dat a)) m3 rfl ?_
      intro p e s m args below meth c s₁ B hml hv
      obtain ⟨rfl, hP, hD, hK, hRo⟩ := hv
      have hlocks : meth.locks = false := B.notSynchronized
      have hts0 := atoms_spec (ws := Cond.code (mdY (dat a)) (mdB (dat a)) (mdL (dat a)) (mdR (dat a)) :: mGd) B.pre
      have F : mFx ad oq dC dI aI aB X p s m (vs.map (mE ad oq)).toArray c (mdB (dat a)) (mdY (dat a)).cls (mdL (dat a)) (mdP (dat a)) dat (mAd ad) :=
        ⟨B.exec, B.bytes, hml, findClass_of_methodNamed B.named, fun w hw => hts0 w (List.mem_cons_of_mem _ hw), hK, hRo, hCp, hq⟩
      rw [lg_entry_eq]
      have hr := B.returns
      have hCa : mCa ad oq dC dI aI aB X l (mRm (d + 1)) dat (mCall dat X d) := fun a2 vs2 g2 r2 g2' h2 ho2 => by
        obtain ⟨q1, q2⟩ := ih a2 vs2 g2 r2 g2' h2 ho2
        exact ⟨mRm d, Nat.le_refl _, by show 40 * d + 36 ≤ 40 * (d + 1); omega, rfl, rfl, q1, q2⟩
      have hrt : mRt ad oq dC dI aI aB p l e (mRm (d + 1)) s m (vs.map (mE ad oq)).toArray below meth c 0 0 (MQ below (fun _ st oc t => oc = .returned (r.map (mE ad oq)) ∧ ((∀ v, r = some v → mOv v) ∧ va_P (dC, dI) mCLS (mWs ad aI aB g') t.heap) ∧ va_F (mAd ad) st t) (vs.map (mE ad oq)).toArray s 0 0 (mAd ad)) (mAd ad) (mdB (dat a)) (mdK (dat a)) (r, g') := by
        intro g2 H locs ls pc ⟨hP2, hD2, hS2⟩
        refine ⟨fun v hdg hri => ?_, fun q hdg h5 hin h99 hri => ?_, fun hdg h0 hri => ?_⟩
        · have key : ∃ ty, mdR (dat a) = some ty ∧ narrow ty (.int v) = .int v ∧ r = some (.inl v) ∧ g2 = g' := by
            unfold mRetI at hri
            rcases m9 with ⟨k1, k2⟩ | ⟨k1, k2⟩ | ⟨k1, k2⟩ | ⟨k1, k2⟩ | ⟨k1, k2⟩ | ⟨k1, k2⟩ <;> rw [k1] at hri
            · cases hri
            · cases hri; exact ⟨_, k2, rfl, rfl, rfl⟩
            · have hri : (if v &&& 1 = v then some (some (mi v), g2) else none) = some (r, g') := hri
              split at hri
              next hv => cases hri; exact ⟨_, k2, (mNar_b hv).1, rfl, rfl⟩
              next => cases hri
            · have hri : (if v.toUInt32.toUInt16.toUInt32.toInt32 = v then some (some (mi v), g2) else none) = some (r, g') := hri
              split at hri
              next hv => cases hri; exact ⟨_, k2, congrArg Value.int hv, rfl, rfl⟩
              next => cases hri
            · have hri : (if v.toInt8.toInt32 = v then some (some (mi v), g2) else none) = some (r, g') := hri
              split at hri
              next hv => cases hri; exact ⟨_, k2, congrArg Value.int hv, rfl, rfl⟩
              next => cases hri
            · cases hri
          obtain ⟨ty, e1, e2, e3, e4⟩ := key
          subst e3; subst e4
          exact W.zret (v := v) B.exec B.bytes (hr.trans e1) e2 (fun t ht hW => ⟨rfl, ⟨fun w hw => by cases hw; trivial, by rw [ht]; exact hP2⟩, hS2.F ht⟩) hS2.2.2 hdg
        · cases hri
          have k2 : ∃ cn, mdR (dat a) = some (.object cn) := by
            rcases m9 with ⟨k1, k2⟩ | ⟨k1, k2⟩ | ⟨k1, k2⟩ | ⟨k1, k2⟩ | ⟨k1, k2⟩ | ⟨k1, k2⟩
            · rw [h5] at k1; cases k1
            · rw [h5] at k1; cases k1
            · rw [h5] at k1; cases k1
            · rw [h5] at k1; cases k1
            · rw [h5] at k1; cases k1
            · exact k2
          obtain ⟨i, j⟩ := q
          obtain ⟨cn, k2⟩ := k2
          refine W.aret B.exec B.bytes (hr.trans k2) (Or.inl ⟨_, rfl⟩) (Or.inr ⟨_, mE_ref h99⟩) (fun t ht hW => ⟨rfl, ⟨fun w hw => ?_, by rw [ht]; exact hP2⟩, hS2.F ht⟩) hS2.2.2 hdg
          cases hw
          exact hin
        · cases hri
          have k2 : mdR (dat a) = none := by
            rcases m9 with ⟨k1, k2⟩ | ⟨k1, k2⟩ | ⟨k1, k2⟩ | ⟨k1, k2⟩ | ⟨k1, k2⟩ | ⟨k1, k2⟩
            · exact k2
            · rw [h0] at k1; cases k1
            · rw [h0] at k1; cases k1
            · rw [h0] at k1; cases k1
            · rw [h0] at k1; cases k1
            · rw [h0] at k1; cases k1
          exact W.vret B.exec B.bytes (hr.trans k2) (fun t ht hW => ⟨rfl, ⟨fun w hw => (by cases hw), by rw [ht]; exact hP2⟩, hS2.F ht⟩) hS2.2.2 hdg
      have K := mRun_sound (R := mRm (d + 1)) (LL := mdW (dat a)) (full := mdT (dat a)) (res := (r, g')) (rt := mdK (dat a)) F hfl hCa ⟨Nat.le_refl _, Nat.le_refl _⟩ (Nat.succ_le_succ (Nat.zero_le d)) (by show 8 + (7 + 11) ≤ 40 * (d + 1); omega) hw hrt hTk n (mdT (dat a)) ⟨[], rfl⟩ (mL0 (mdL (dat a)) vs) [] g hrun (fun v hv => by cases hv) (fun k v hv => hOs v (List.mem_of_getElem? (mL0_at hv))) (by
        unfold mL0
        rw [List.length_append, List.length_map, List.length_replicate]
        omega) s.heap [] _ ⟨hP, hD, va_S.rf⟩ (mLH_0 hq hlen hok.2)
      rw [hpc] at K
      exact K
    next => cases h
end CALLS
end
