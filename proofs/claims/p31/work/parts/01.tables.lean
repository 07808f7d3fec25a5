-- ===== PART A: goes FIRST, ahead of the names: the tables' words, and 'selects' of the private methods out of them =====
/-- a private method of a class that the tables say can be made, by its rows of tables_1 -/
def lw_okq (q : MethodName × Nat) : Prop := (q.1.cls ≠ "java/lang/invoke/MethodHandle" ∧ q.1.cls ≠ "java/lang/invoke/VarHandle") ∧ Cond.instantiable q.1.cls q.2 ∈ tables_1 ∧ Cond.privateMethod q.1 ∈ tables_1 ∧ Cond.instanceMethod q.1 ∈ tables_1
theorem lw_p0 : lw_okq (⟨"RingedLights", "tapeFour", "(I)V"⟩, 10) := ⟨⟨by decide +kernel, by decide +kernel⟩, List.mem_of_getElem? (i := 15) (by decide +kernel), List.mem_of_getElem? (i := 317) (by decide +kernel), List.mem_of_getElem? (i := 318) (by decide +kernel)⟩
theorem lw_p1 : lw_okq (⟨"RingedLights", "refuse", "(I)I"⟩, 10) := ⟨⟨by decide +kernel, by decide +kernel⟩, List.mem_of_getElem? (i := 15) (by decide +kernel), List.mem_of_getElem? (i := 329) (by decide +kernel), List.mem_of_getElem? (i := 330) (by decide +kernel)⟩
theorem lw_p2 : lw_okq (⟨"RingedLights", "answer", "(I)I"⟩, 10) := ⟨⟨by decide +kernel, by decide +kernel⟩, List.mem_of_getElem? (i := 15) (by decide +kernel), List.mem_of_getElem? (i := 586) (by decide +kernel), List.mem_of_getElem? (i := 587) (by decide +kernel)⟩
theorem lw_p3 : lw_okq (⟨"RingedLights", "deny", "(I)Z"⟩, 10) := ⟨⟨by decide +kernel, by decide +kernel⟩, List.mem_of_getElem? (i := 15) (by decide +kernel), List.mem_of_getElem? (i := 739) (by decide +kernel), List.mem_of_getElem? (i := 740) (by decide +kernel)⟩
theorem lw_p4 : lw_okq (⟨"RingedLights", "grant", "()Z"⟩, 10) := ⟨⟨by decide +kernel, by decide +kernel⟩, List.mem_of_getElem? (i := 15) (by decide +kernel), List.mem_of_getElem? (i := 751) (by decide +kernel), List.mem_of_getElem? (i := 752) (by decide +kernel)⟩
theorem lw_p5 : lw_okq (⟨"RingedLights", "keptAt", "(I)LRingedLights$Crossing;"⟩, 10) := ⟨⟨by decide +kernel, by decide +kernel⟩, List.mem_of_getElem? (i := 15) (by decide +kernel), List.mem_of_getElem? (i := 946) (by decide +kernel), List.mem_of_getElem? (i := 947) (by decide +kernel)⟩
theorem lw_p6 : lw_okq (⟨"RingedLights", "ticksUntil", "(II)I"⟩, 10) := ⟨⟨by decide +kernel, by decide +kernel⟩, List.mem_of_getElem? (i := 15) (by decide +kernel), List.mem_of_getElem? (i := 991) (by decide +kernel), List.mem_of_getElem? (i := 992) (by decide +kernel)⟩
theorem lw_p7 : lw_okq (⟨"RingedLightsModel", "begins", "()V"⟩, 21) := ⟨⟨by decide +kernel, by decide +kernel⟩, List.mem_of_getElem? (i := 1032) (by decide +kernel), List.mem_of_getElem? (i := 1038) (by decide +kernel), List.mem_of_getElem? (i := 1039) (by decide +kernel)⟩
theorem lw_p8 : lw_okq (⟨"RingedLightsModel", "puts", "(II)V"⟩, 21) := ⟨⟨by decide +kernel, by decide +kernel⟩, List.mem_of_getElem? (i := 1032) (by decide +kernel), List.mem_of_getElem? (i := 1042) (by decide +kernel), List.mem_of_getElem? (i := 1043) (by decide +kernel)⟩
theorem lw_p9 : lw_okq (⟨"RingedLightsModel", "starts", "()V"⟩, 21) := ⟨⟨by decide +kernel, by decide +kernel⟩, List.mem_of_getElem? (i := 1032) (by decide +kernel), List.mem_of_getElem? (i := 1046) (by decide +kernel), List.mem_of_getElem? (i := 1047) (by decide +kernel)⟩
theorem lw_p10 : lw_okq (⟨"RingedLightsModel", "firstOf", "(IIIZ)I"⟩, 21) := ⟨⟨by decide +kernel, by decide +kernel⟩, List.mem_of_getElem? (i := 1032) (by decide +kernel), List.mem_of_getElem? (i := 1050) (by decide +kernel), List.mem_of_getElem? (i := 1051) (by decide +kernel)⟩
theorem lw_p11 : lw_okq (⟨"RingedLightsModel", "of", "(I)I"⟩, 21) := ⟨⟨by decide +kernel, by decide +kernel⟩, List.mem_of_getElem? (i := 1032) (by decide +kernel), List.mem_of_getElem? (i := 1054) (by decide +kernel), List.mem_of_getElem? (i := 1055) (by decide +kernel)⟩
theorem lw_p12 : lw_okq (⟨"RingedLightsModel", "ofPhase", "(II)I"⟩, 21) := ⟨⟨by decide +kernel, by decide +kernel⟩, List.mem_of_getElem? (i := 1032) (by decide +kernel), List.mem_of_getElem? (i := 1058) (by decide +kernel), List.mem_of_getElem? (i := 1059) (by decide +kernel)⟩
theorem lw_p13 : lw_okq (⟨"RingedLightsModel", "isAsked", "(I)Z"⟩, 21) := ⟨⟨by decide +kernel, by decide +kernel⟩, List.mem_of_getElem? (i := 1032) (by decide +kernel), List.mem_of_getElem? (i := 1062) (by decide +kernel), List.mem_of_getElem? (i := 1063) (by decide +kernel)⟩
theorem lw_p14 : lw_okq (⟨"RingedLightsModel", "isCalled", "(I)Z"⟩, 21) := ⟨⟨by decide +kernel, by decide +kernel⟩, List.mem_of_getElem? (i := 1032) (by decide +kernel), List.mem_of_getElem? (i := 1066) (by decide +kernel), List.mem_of_getElem? (i := 1067) (by decide +kernel)⟩
theorem lw_p15 : lw_okq (⟨"RingedLightsModel", "mark", "(II)I"⟩, 21) := ⟨⟨by decide +kernel, by decide +kernel⟩, List.mem_of_getElem? (i := 1032) (by decide +kernel), List.mem_of_getElem? (i := 1070) (by decide +kernel), List.mem_of_getElem? (i := 1071) (by decide +kernel)⟩
def lw_privs_1 : List (MethodName × Nat) := [(⟨"RingedLights", "tapeFour", "(I)V"⟩, 10), (⟨"RingedLights", "refuse", "(I)I"⟩, 10), (⟨"RingedLights", "answer", "(I)I"⟩, 10), (⟨"RingedLights", "deny", "(I)Z"⟩, 10), (⟨"RingedLights", "grant", "()Z"⟩, 10), (⟨"RingedLights", "keptAt", "(I)LRingedLights$Crossing;"⟩, 10), (⟨"RingedLights", "ticksUntil", "(II)I"⟩, 10), (⟨"RingedLightsModel", "begins", "()V"⟩, 21), (⟨"RingedLightsModel", "puts", "(II)V"⟩, 21), (⟨"RingedLightsModel", "starts", "()V"⟩, 21), (⟨"RingedLightsModel", "firstOf", "(IIIZ)I"⟩, 21), (⟨"RingedLightsModel", "of", "(I)I"⟩, 21), (⟨"RingedLightsModel", "ofPhase", "(II)I"⟩, 21), (⟨"RingedLightsModel", "isAsked", "(I)Z"⟩, 21), (⟨"RingedLightsModel", "isCalled", "(I)Z"⟩, 21), (⟨"RingedLightsModel", "mark", "(II)I"⟩, 21)]
theorem lw_r1 : ∀ q ∈ lw_privs_1, lw_okq q := List.forall_mem_cons.mpr ⟨lw_p0, List.forall_mem_cons.mpr ⟨lw_p1, List.forall_mem_cons.mpr ⟨lw_p2, List.forall_mem_cons.mpr ⟨lw_p3, List.forall_mem_cons.mpr ⟨lw_p4, List.forall_mem_cons.mpr ⟨lw_p5, List.forall_mem_cons.mpr ⟨lw_p6, List.forall_mem_cons.mpr ⟨lw_p7, List.forall_mem_cons.mpr ⟨lw_p8, List.forall_mem_cons.mpr ⟨lw_p9, List.forall_mem_cons.mpr ⟨lw_p10, List.forall_mem_cons.mpr ⟨lw_p11, List.forall_mem_cons.mpr ⟨lw_p12, List.forall_mem_cons.mpr ⟨lw_p13, List.forall_mem_cons.mpr ⟨lw_p14, List.forall_mem_cons.mpr ⟨lw_p15, fun _ h => absurd h List.not_mem_nil⟩⟩⟩⟩⟩⟩⟩⟩⟩⟩⟩⟩⟩⟩⟩⟩
theorem lw_p16 : lw_okq (⟨"RingedLightsModel", "isOnFoot", "(I)Z"⟩, 21) := ⟨⟨by decide +kernel, by decide +kernel⟩, List.mem_of_getElem? (i := 1032) (by decide +kernel), List.mem_of_getElem? (i := 1074) (by decide +kernel), List.mem_of_getElem? (i := 1075) (by decide +kernel)⟩
theorem lw_p17 : lw_okq (⟨"RingedLightsModel", "clearsRing", "(I)V"⟩, 21) := ⟨⟨by decide +kernel, by decide +kernel⟩, List.mem_of_getElem? (i := 1032) (by decide +kernel), List.mem_of_getElem? (i := 1078) (by decide +kernel), List.mem_of_getElem? (i := 1079) (by decide +kernel)⟩
theorem lw_p18 : lw_okq (⟨"RingedLightsModel", "putsRing", "(III)V"⟩, 21) := ⟨⟨by decide +kernel, by decide +kernel⟩, List.mem_of_getElem? (i := 1032) (by decide +kernel), List.mem_of_getElem? (i := 1082) (by decide +kernel), List.mem_of_getElem? (i := 1083) (by decide +kernel)⟩
theorem lw_p19 : lw_okq (⟨"RingedLightsModel", "four", "(I)V"⟩, 21) := ⟨⟨by decide +kernel, by decide +kernel⟩, List.mem_of_getElem? (i := 1032) (by decide +kernel), List.mem_of_getElem? (i := 1161) (by decide +kernel), List.mem_of_getElem? (i := 1162) (by decide +kernel)⟩
theorem lw_p20 : lw_okq (⟨"RingedLightsModel", "refuse", "(I)I"⟩, 21) := ⟨⟨by decide +kernel, by decide +kernel⟩, List.mem_of_getElem? (i := 1032) (by decide +kernel), List.mem_of_getElem? (i := 1172) (by decide +kernel), List.mem_of_getElem? (i := 1173) (by decide +kernel)⟩
theorem lw_p21 : lw_okq (⟨"RingedLightsModel", "copies", "(II)V"⟩, 21) := ⟨⟨by decide +kernel, by decide +kernel⟩, List.mem_of_getElem? (i := 1032) (by decide +kernel), List.mem_of_getElem? (i := 1176) (by decide +kernel), List.mem_of_getElem? (i := 1177) (by decide +kernel)⟩
theorem lw_p22 : lw_okq (⟨"RingedLightsModel", "ahead", "()V"⟩, 21) := ⟨⟨by decide +kernel, by decide +kernel⟩, List.mem_of_getElem? (i := 1032) (by decide +kernel), List.mem_of_getElem? (i := 1180) (by decide +kernel), List.mem_of_getElem? (i := 1181) (by decide +kernel)⟩
theorem lw_p23 : lw_okq (⟨"RingedLightsModel", "byteAt", "(I)I"⟩, 21) := ⟨⟨by decide +kernel, by decide +kernel⟩, List.mem_of_getElem? (i := 1032) (by decide +kernel), List.mem_of_getElem? (i := 1184) (by decide +kernel), List.mem_of_getElem? (i := 1185) (by decide +kernel)⟩
theorem lw_p24 : lw_okq (⟨"RingedLightsModel", "aLine", "()Z"⟩, 21) := ⟨⟨by decide +kernel, by decide +kernel⟩, List.mem_of_getElem? (i := 1032) (by decide +kernel), List.mem_of_getElem? (i := 1195) (by decide +kernel), List.mem_of_getElem? (i := 1196) (by decide +kernel)⟩
theorem lw_p25 : lw_okq (⟨"RingedLightsModel", "key", "()I"⟩, 21) := ⟨⟨by decide +kernel, by decide +kernel⟩, List.mem_of_getElem? (i := 1032) (by decide +kernel), List.mem_of_getElem? (i := 1199) (by decide +kernel), List.mem_of_getElem? (i := 1200) (by decide +kernel)⟩
theorem lw_p26 : lw_okq (⟨"RingedLightsModel", "aPhase", "()Z"⟩, 21) := ⟨⟨by decide +kernel, by decide +kernel⟩, List.mem_of_getElem? (i := 1032) (by decide +kernel), List.mem_of_getElem? (i := 1206) (by decide +kernel), List.mem_of_getElem? (i := 1207) (by decide +kernel)⟩
theorem lw_p27 : lw_okq (⟨"RingedLightsModel", "fails", "(I)Z"⟩, 21) := ⟨⟨by decide +kernel, by decide +kernel⟩, List.mem_of_getElem? (i := 1032) (by decide +kernel), List.mem_of_getElem? (i := 1210) (by decide +kernel), List.mem_of_getElem? (i := 1211) (by decide +kernel)⟩
theorem lw_p28 : lw_okq (⟨"RingedLightsModel", "takesNumber", "(II)Z"⟩, 21) := ⟨⟨by decide +kernel, by decide +kernel⟩, List.mem_of_getElem? (i := 1032) (by decide +kernel), List.mem_of_getElem? (i := 1214) (by decide +kernel), List.mem_of_getElem? (i := 1215) (by decide +kernel)⟩
theorem lw_p29 : lw_okq (⟨"RingedLightsModel", "takes", "()Z"⟩, 21) := ⟨⟨by decide +kernel, by decide +kernel⟩, List.mem_of_getElem? (i := 1032) (by decide +kernel), List.mem_of_getElem? (i := 1218) (by decide +kernel), List.mem_of_getElem? (i := 1219) (by decide +kernel)⟩
theorem lw_p30 : lw_okq (⟨"RingedLightsModel", "putsPhase", "(III)V"⟩, 21) := ⟨⟨by decide +kernel, by decide +kernel⟩, List.mem_of_getElem? (i := 1032) (by decide +kernel), List.mem_of_getElem? (i := 1222) (by decide +kernel), List.mem_of_getElem? (i := 1223) (by decide +kernel)⟩
theorem lw_p31 : lw_okq (⟨"RingedLightsModel", "adds", "(II)V"⟩, 21) := ⟨⟨by decide +kernel, by decide +kernel⟩, List.mem_of_getElem? (i := 1032) (by decide +kernel), List.mem_of_getElem? (i := 1235) (by decide +kernel), List.mem_of_getElem? (i := 1236) (by decide +kernel)⟩
def lw_privs_2 : List (MethodName × Nat) := [(⟨"RingedLightsModel", "isOnFoot", "(I)Z"⟩, 21), (⟨"RingedLightsModel", "clearsRing", "(I)V"⟩, 21), (⟨"RingedLightsModel", "putsRing", "(III)V"⟩, 21), (⟨"RingedLightsModel", "four", "(I)V"⟩, 21), (⟨"RingedLightsModel", "refuse", "(I)I"⟩, 21), (⟨"RingedLightsModel", "copies", "(II)V"⟩, 21), (⟨"RingedLightsModel", "ahead", "()V"⟩, 21), (⟨"RingedLightsModel", "byteAt", "(I)I"⟩, 21), (⟨"RingedLightsModel", "aLine", "()Z"⟩, 21), (⟨"RingedLightsModel", "key", "()I"⟩, 21), (⟨"RingedLightsModel", "aPhase", "()Z"⟩, 21), (⟨"RingedLightsModel", "fails", "(I)Z"⟩, 21), (⟨"RingedLightsModel", "takesNumber", "(II)Z"⟩, 21), (⟨"RingedLightsModel", "takes", "()Z"⟩, 21), (⟨"RingedLightsModel", "putsPhase", "(III)V"⟩, 21), (⟨"RingedLightsModel", "adds", "(II)V"⟩, 21)]
theorem lw_r2 : ∀ q ∈ lw_privs_2, lw_okq q := List.forall_mem_cons.mpr ⟨lw_p16, List.forall_mem_cons.mpr ⟨lw_p17, List.forall_mem_cons.mpr ⟨lw_p18, List.forall_mem_cons.mpr ⟨lw_p19, List.forall_mem_cons.mpr ⟨lw_p20, List.forall_mem_cons.mpr ⟨lw_p21, List.forall_mem_cons.mpr ⟨lw_p22, List.forall_mem_cons.mpr ⟨lw_p23, List.forall_mem_cons.mpr ⟨lw_p24, List.forall_mem_cons.mpr ⟨lw_p25, List.forall_mem_cons.mpr ⟨lw_p26, List.forall_mem_cons.mpr ⟨lw_p27, List.forall_mem_cons.mpr ⟨lw_p28, List.forall_mem_cons.mpr ⟨lw_p29, List.forall_mem_cons.mpr ⟨lw_p30, List.forall_mem_cons.mpr ⟨lw_p31, fun _ h => absurd h List.not_mem_nil⟩⟩⟩⟩⟩⟩⟩⟩⟩⟩⟩⟩⟩⟩⟩⟩
theorem lw_p32 : lw_okq (⟨"RingedLightsModel", "aClock", "(I)Z"⟩, 21) := ⟨⟨by decide +kernel, by decide +kernel⟩, List.mem_of_getElem? (i := 1032) (by decide +kernel), List.mem_of_getElem? (i := 1239) (by decide +kernel), List.mem_of_getElem? (i := 1240) (by decide +kernel)⟩
theorem lw_p33 : lw_okq (⟨"RingedLightsModel", "aBreak", "()Z"⟩, 21) := ⟨⟨by decide +kernel, by decide +kernel⟩, List.mem_of_getElem? (i := 1032) (by decide +kernel), List.mem_of_getElem? (i := 1246) (by decide +kernel), List.mem_of_getElem? (i := 1247) (by decide +kernel)⟩
theorem lw_p34 : lw_okq (⟨"RingedLightsModel", "aGoal", "(II)Z"⟩, 21) := ⟨⟨by decide +kernel, by decide +kernel⟩, List.mem_of_getElem? (i := 1032) (by decide +kernel), List.mem_of_getElem? (i := 1250) (by decide +kernel), List.mem_of_getElem? (i := 1251) (by decide +kernel)⟩
theorem lw_p35 : lw_okq (⟨"RingedLightsModel", "takesWord", "(I)Z"⟩, 21) := ⟨⟨by decide +kernel, by decide +kernel⟩, List.mem_of_getElem? (i := 1032) (by decide +kernel), List.mem_of_getElem? (i := 1254) (by decide +kernel), List.mem_of_getElem? (i := 1255) (by decide +kernel)⟩
theorem lw_p36 : lw_okq (⟨"RingedLightsModel", "aSet", "()Z"⟩, 21) := ⟨⟨by decide +kernel, by decide +kernel⟩, List.mem_of_getElem? (i := 1032) (by decide +kernel), List.mem_of_getElem? (i := 1258) (by decide +kernel), List.mem_of_getElem? (i := 1259) (by decide +kernel)⟩
theorem lw_p37 : lw_okq (⟨"RingedLightsModel", "isPeace", "(I)Z"⟩, 21) := ⟨⟨by decide +kernel, by decide +kernel⟩, List.mem_of_getElem? (i := 1032) (by decide +kernel), List.mem_of_getElem? (i := 1262) (by decide +kernel), List.mem_of_getElem? (i := 1263) (by decide +kernel)⟩
theorem lw_p38 : lw_okq (⟨"RingedLightsModel", "foesOf", "(I)I"⟩, 21) := ⟨⟨by decide +kernel, by decide +kernel⟩, List.mem_of_getElem? (i := 1032) (by decide +kernel), List.mem_of_getElem? (i := 1266) (by decide +kernel), List.mem_of_getElem? (i := 1267) (by decide +kernel)⟩
theorem lw_p39 : lw_okq (⟨"RingedLightsModel", "areFoes", "(II)Z"⟩, 21) := ⟨⟨by decide +kernel, by decide +kernel⟩, List.mem_of_getElem? (i := 1032) (by decide +kernel), List.mem_of_getElem? (i := 1270) (by decide +kernel), List.mem_of_getElem? (i := 1271) (by decide +kernel)⟩
theorem lw_p40 : lw_okq (⟨"RingedLightsModel", "gives", "(I)I"⟩, 21) := ⟨⟨by decide +kernel, by decide +kernel⟩, List.mem_of_getElem? (i := 1032) (by decide +kernel), List.mem_of_getElem? (i := 1274) (by decide +kernel), List.mem_of_getElem? (i := 1275) (by decide +kernel)⟩
theorem lw_p41 : lw_okq (⟨"RingedLightsModel", "ofRing", "(II)I"⟩, 21) := ⟨⟨by decide +kernel, by decide +kernel⟩, List.mem_of_getElem? (i := 1032) (by decide +kernel), List.mem_of_getElem? (i := 1290) (by decide +kernel), List.mem_of_getElem? (i := 1291) (by decide +kernel)⟩
theorem lw_p42 : lw_okq (⟨"RingedLightsModel", "isGreen", "(I)Z"⟩, 21) := ⟨⟨by decide +kernel, by decide +kernel⟩, List.mem_of_getElem? (i := 1032) (by decide +kernel), List.mem_of_getElem? (i := 1294) (by decide +kernel), List.mem_of_getElem? (i := 1295) (by decide +kernel)⟩
theorem lw_p43 : lw_okq (⟨"RingedLightsModel", "isDone", "(I)Z"⟩, 21) := ⟨⟨by decide +kernel, by decide +kernel⟩, List.mem_of_getElem? (i := 1032) (by decide +kernel), List.mem_of_getElem? (i := 1298) (by decide +kernel), List.mem_of_getElem? (i := 1299) (by decide +kernel)⟩
theorem lw_p44 : lw_okq (⟨"RingedLightsModel", "isForced", "(I)Z"⟩, 21) := ⟨⟨by decide +kernel, by decide +kernel⟩, List.mem_of_getElem? (i := 1032) (by decide +kernel), List.mem_of_getElem? (i := 1302) (by decide +kernel), List.mem_of_getElem? (i := 1303) (by decide +kernel)⟩
theorem lw_p45 : lw_okq (⟨"RingedLightsModel", "endOf", "(I)I"⟩, 21) := ⟨⟨by decide +kernel, by decide +kernel⟩, List.mem_of_getElem? (i := 1032) (by decide +kernel), List.mem_of_getElem? (i := 1306) (by decide +kernel), List.mem_of_getElem? (i := 1307) (by decide +kernel)⟩
theorem lw_p46 : lw_okq (⟨"RingedLightsModel", "isFirst", "(I)Z"⟩, 21) := ⟨⟨by decide +kernel, by decide +kernel⟩, List.mem_of_getElem? (i := 1032) (by decide +kernel), List.mem_of_getElem? (i := 1313) (by decide +kernel), List.mem_of_getElem? (i := 1314) (by decide +kernel)⟩
theorem lw_p47 : lw_okq (⟨"RingedLightsModel", "isPhase", "(I)Z"⟩, 21) := ⟨⟨by decide +kernel, by decide +kernel⟩, List.mem_of_getElem? (i := 1032) (by decide +kernel), List.mem_of_getElem? (i := 1321) (by decide +kernel), List.mem_of_getElem? (i := 1322) (by decide +kernel)⟩
def lw_privs_3 : List (MethodName × Nat) := [(⟨"RingedLightsModel", "aClock", "(I)Z"⟩, 21), (⟨"RingedLightsModel", "aBreak", "()Z"⟩, 21), (⟨"RingedLightsModel", "aGoal", "(II)Z"⟩, 21), (⟨"RingedLightsModel", "takesWord", "(I)Z"⟩, 21), (⟨"RingedLightsModel", "aSet", "()Z"⟩, 21), (⟨"RingedLightsModel", "isPeace", "(I)Z"⟩, 21), (⟨"RingedLightsModel", "foesOf", "(I)I"⟩, 21), (⟨"RingedLightsModel", "areFoes", "(II)Z"⟩, 21), (⟨"RingedLightsModel", "gives", "(I)I"⟩, 21), (⟨"RingedLightsModel", "ofRing", "(II)I"⟩, 21), (⟨"RingedLightsModel", "isGreen", "(I)Z"⟩, 21), (⟨"RingedLightsModel", "isDone", "(I)Z"⟩, 21), (⟨"RingedLightsModel", "isForced", "(I)Z"⟩, 21), (⟨"RingedLightsModel", "endOf", "(I)I"⟩, 21), (⟨"RingedLightsModel", "isFirst", "(I)Z"⟩, 21), (⟨"RingedLightsModel", "isPhase", "(I)Z"⟩, 21)]
theorem lw_r3 : ∀ q ∈ lw_privs_3, lw_okq q := List.forall_mem_cons.mpr ⟨lw_p32, List.forall_mem_cons.mpr ⟨lw_p33, List.forall_mem_cons.mpr ⟨lw_p34, List.forall_mem_cons.mpr ⟨lw_p35, List.forall_mem_cons.mpr ⟨lw_p36, List.forall_mem_cons.mpr ⟨lw_p37, List.forall_mem_cons.mpr ⟨lw_p38, List.forall_mem_cons.mpr ⟨lw_p39, List.forall_mem_cons.mpr ⟨lw_p40, List.forall_mem_cons.mpr ⟨lw_p41, List.forall_mem_cons.mpr ⟨lw_p42, List.forall_mem_cons.mpr ⟨lw_p43, List.forall_mem_cons.mpr ⟨lw_p44, List.forall_mem_cons.mpr ⟨lw_p45, List.forall_mem_cons.mpr ⟨lw_p46, List.forall_mem_cons.mpr ⟨lw_p47, fun _ h => absurd h List.not_mem_nil⟩⟩⟩⟩⟩⟩⟩⟩⟩⟩⟩⟩⟩⟩⟩⟩
theorem lw_p48 : lw_okq (⟨"RingedLightsModel", "lampOf", "(I)I"⟩, 21) := ⟨⟨by decide +kernel, by decide +kernel⟩, List.mem_of_getElem? (i := 1032) (by decide +kernel), List.mem_of_getElem? (i := 1325) (by decide +kernel), List.mem_of_getElem? (i := 1326) (by decide +kernel)⟩
theorem lw_p49 : lw_okq (⟨"RingedLightsModel", "isHolding", "(I)Z"⟩, 21) := ⟨⟨by decide +kernel, by decide +kernel⟩, List.mem_of_getElem? (i := 1032) (by decide +kernel), List.mem_of_getElem? (i := 1329) (by decide +kernel), List.mem_of_getElem? (i := 1330) (by decide +kernel)⟩
theorem lw_p50 : lw_okq (⟨"RingedLightsModel", "ofBreak", "(II)I"⟩, 21) := ⟨⟨by decide +kernel, by decide +kernel⟩, List.mem_of_getElem? (i := 1032) (by decide +kernel), List.mem_of_getElem? (i := 1341) (by decide +kernel), List.mem_of_getElem? (i := 1342) (by decide +kernel)⟩
theorem lw_p51 : lw_okq (⟨"RingedLightsModel", "goneAll", "()I"⟩, 21) := ⟨⟨by decide +kernel, by decide +kernel⟩, List.mem_of_getElem? (i := 1032) (by decide +kernel), List.mem_of_getElem? (i := 1349) (by decide +kernel), List.mem_of_getElem? (i := 1350) (by decide +kernel)⟩
theorem lw_p52 : lw_okq (⟨"RingedLightsModel", "queues", "()I"⟩, 21) := ⟨⟨by decide +kernel, by decide +kernel⟩, List.mem_of_getElem? (i := 1032) (by decide +kernel), List.mem_of_getElem? (i := 1353) (by decide +kernel), List.mem_of_getElem? (i := 1354) (by decide +kernel)⟩
theorem lw_p53 : lw_okq (⟨"RingedLightsModel", "greatest", "()I"⟩, 21) := ⟨⟨by decide +kernel, by decide +kernel⟩, List.mem_of_getElem? (i := 1032) (by decide +kernel), List.mem_of_getElem? (i := 1357) (by decide +kernel), List.mem_of_getElem? (i := 1358) (by decide +kernel)⟩
theorem lw_p54 : lw_okq (⟨"RingedLightsModel", "shown", "()I"⟩, 21) := ⟨⟨by decide +kernel, by decide +kernel⟩, List.mem_of_getElem? (i := 1032) (by decide +kernel), List.mem_of_getElem? (i := 1361) (by decide +kernel), List.mem_of_getElem? (i := 1362) (by decide +kernel)⟩
theorem lw_p55 : lw_okq (⟨"RingedLightsModel", "isSo", "(I)Z"⟩, 21) := ⟨⟨by decide +kernel, by decide +kernel⟩, List.mem_of_getElem? (i := 1032) (by decide +kernel), List.mem_of_getElem? (i := 1381) (by decide +kernel), List.mem_of_getElem? (i := 1382) (by decide +kernel)⟩
theorem lw_p56 : lw_okq (⟨"RingedLightsModel", "calls", "(I)V"⟩, 21) := ⟨⟨by decide +kernel, by decide +kernel⟩, List.mem_of_getElem? (i := 1032) (by decide +kernel), List.mem_of_getElem? (i := 1385) (by decide +kernel), List.mem_of_getElem? (i := 1386) (by decide +kernel)⟩
theorem lw_p57 : lw_okq (⟨"RingedLightsModel", "isWanted", "(IZ)Z"⟩, 21) := ⟨⟨by decide +kernel, by decide +kernel⟩, List.mem_of_getElem? (i := 1032) (by decide +kernel), List.mem_of_getElem? (i := 1397) (by decide +kernel), List.mem_of_getElem? (i := 1398) (by decide +kernel)⟩
theorem lw_p58 : lw_okq (⟨"RingedLightsModel", "isSet", "(I)Z"⟩, 21) := ⟨⟨by decide +kernel, by decide +kernel⟩, List.mem_of_getElem? (i := 1032) (by decide +kernel), List.mem_of_getElem? (i := 1409) (by decide +kernel), List.mem_of_getElem? (i := 1410) (by decide +kernel)⟩
theorem lw_p59 : lw_okq (⟨"RingedLightsModel", "happens", "(II)V"⟩, 21) := ⟨⟨by decide +kernel, by decide +kernel⟩, List.mem_of_getElem? (i := 1032) (by decide +kernel), List.mem_of_getElem? (i := 1421) (by decide +kernel), List.mem_of_getElem? (i := 1422) (by decide +kernel)⟩
theorem lw_p60 : lw_okq (⟨"RingedLightsModel", "ticks", "(Z)V"⟩, 21) := ⟨⟨by decide +kernel, by decide +kernel⟩, List.mem_of_getElem? (i := 1032) (by decide +kernel), List.mem_of_getElem? (i := 1429) (by decide +kernel), List.mem_of_getElem? (i := 1430) (by decide +kernel)⟩
theorem lw_p61 : lw_okq (⟨"RingedLightsModel", "comers", "()V"⟩, 21) := ⟨⟨by decide +kernel, by decide +kernel⟩, List.mem_of_getElem? (i := 1032) (by decide +kernel), List.mem_of_getElem? (i := 1433) (by decide +kernel), List.mem_of_getElem? (i := 1434) (by decide +kernel)⟩
theorem lw_p62 : lw_okq (⟨"RingedLightsModel", "drawBy", "(I)I"⟩, 21) := ⟨⟨by decide +kernel, by decide +kernel⟩, List.mem_of_getElem? (i := 1032) (by decide +kernel), List.mem_of_getElem? (i := 1437) (by decide +kernel), List.mem_of_getElem? (i := 1438) (by decide +kernel)⟩
theorem lw_p63 : lw_okq (⟨"RingedLightsModel", "clockGoes", "()V"⟩, 21) := ⟨⟨by decide +kernel, by decide +kernel⟩, List.mem_of_getElem? (i := 1032) (by decide +kernel), List.mem_of_getElem? (i := 1444) (by decide +kernel), List.mem_of_getElem? (i := 1445) (by decide +kernel)⟩
def lw_privs_4 : List (MethodName × Nat) := [(⟨"RingedLightsModel", "lampOf", "(I)I"⟩, 21), (⟨"RingedLightsModel", "isHolding", "(I)Z"⟩, 21), (⟨"RingedLightsModel", "ofBreak", "(II)I"⟩, 21), (⟨"RingedLightsModel", "goneAll", "()I"⟩, 21), (⟨"RingedLightsModel", "queues", "()I"⟩, 21), (⟨"RingedLightsModel", "greatest", "()I"⟩, 21), (⟨"RingedLightsModel", "shown", "()I"⟩, 21), (⟨"RingedLightsModel", "isSo", "(I)Z"⟩, 21), (⟨"RingedLightsModel", "calls", "(I)V"⟩, 21), (⟨"RingedLightsModel", "isWanted", "(IZ)Z"⟩, 21), (⟨"RingedLightsModel", "isSet", "(I)Z"⟩, 21), (⟨"RingedLightsModel", "happens", "(II)V"⟩, 21), (⟨"RingedLightsModel", "ticks", "(Z)V"⟩, 21), (⟨"RingedLightsModel", "comers", "()V"⟩, 21), (⟨"RingedLightsModel", "drawBy", "(I)I"⟩, 21), (⟨"RingedLightsModel", "clockGoes", "()V"⟩, 21)]
theorem lw_r4 : ∀ q ∈ lw_privs_4, lw_okq q := List.forall_mem_cons.mpr ⟨lw_p48, List.forall_mem_cons.mpr ⟨lw_p49, List.forall_mem_cons.mpr ⟨lw_p50, List.forall_mem_cons.mpr ⟨lw_p51, List.forall_mem_cons.mpr ⟨lw_p52, List.forall_mem_cons.mpr ⟨lw_p53, List.forall_mem_cons.mpr ⟨lw_p54, List.forall_mem_cons.mpr ⟨lw_p55, List.forall_mem_cons.mpr ⟨lw_p56, List.forall_mem_cons.mpr ⟨lw_p57, List.forall_mem_cons.mpr ⟨lw_p58, List.forall_mem_cons.mpr ⟨lw_p59, List.forall_mem_cons.mpr ⟨lw_p60, List.forall_mem_cons.mpr ⟨lw_p61, List.forall_mem_cons.mpr ⟨lw_p62, List.forall_mem_cons.mpr ⟨lw_p63, fun _ h => absurd h List.not_mem_nil⟩⟩⟩⟩⟩⟩⟩⟩⟩⟩⟩⟩⟩⟩⟩⟩
theorem lw_p64 : lw_okq (⟨"RingedLightsModel", "due", "()I"⟩, 21) := ⟨⟨by decide +kernel, by decide +kernel⟩, List.mem_of_getElem? (i := 1032) (by decide +kernel), List.mem_of_getElem? (i := 1448) (by decide +kernel), List.mem_of_getElem? (i := 1449) (by decide +kernel)⟩
theorem lw_p65 : lw_okq (⟨"RingedLightsModel", "ringGoes", "(I)V"⟩, 21) := ⟨⟨by decide +kernel, by decide +kernel⟩, List.mem_of_getElem? (i := 1032) (by decide +kernel), List.mem_of_getElem? (i := 1452) (by decide +kernel), List.mem_of_getElem? (i := 1453) (by decide +kernel)⟩
theorem lw_p66 : lw_okq (⟨"RingedLightsModel", "greenGoes", "(I)V"⟩, 21) := ⟨⟨by decide +kernel, by decide +kernel⟩, List.mem_of_getElem? (i := 1032) (by decide +kernel), List.mem_of_getElem? (i := 1456) (by decide +kernel), List.mem_of_getElem? (i := 1457) (by decide +kernel)⟩
theorem lw_p67 : lw_okq (⟨"RingedLightsModel", "isFoeAsked", "(I)Z"⟩, 21) := ⟨⟨by decide +kernel, by decide +kernel⟩, List.mem_of_getElem? (i := 1032) (by decide +kernel), List.mem_of_getElem? (i := 1460) (by decide +kernel), List.mem_of_getElem? (i := 1461) (by decide +kernel)⟩
theorem lw_p68 : lw_okq (⟨"RingedLightsModel", "breaks", "()V"⟩, 21) := ⟨⟨by decide +kernel, by decide +kernel⟩, List.mem_of_getElem? (i := 1032) (by decide +kernel), List.mem_of_getElem? (i := 1464) (by decide +kernel), List.mem_of_getElem? (i := 1465) (by decide +kernel)⟩
theorem lw_p69 : lw_okq (⟨"RingedLightsModel", "breakEnds", "()V"⟩, 21) := ⟨⟨by decide +kernel, by decide +kernel⟩, List.mem_of_getElem? (i := 1032) (by decide +kernel), List.mem_of_getElem? (i := 1468) (by decide +kernel), List.mem_of_getElem? (i := 1469) (by decide +kernel)⟩
theorem lw_p70 : lw_okq (⟨"RingedLightsModel", "noBreak", "()V"⟩, 21) := ⟨⟨by decide +kernel, by decide +kernel⟩, List.mem_of_getElem? (i := 1032) (by decide +kernel), List.mem_of_getElem? (i := 1472) (by decide +kernel), List.mem_of_getElem? (i := 1473) (by decide +kernel)⟩
theorem lw_p71 : lw_okq (⟨"RingedLightsModel", "breakBegins", "(I)V"⟩, 21) := ⟨⟨by decide +kernel, by decide +kernel⟩, List.mem_of_getElem? (i := 1032) (by decide +kernel), List.mem_of_getElem? (i := 1476) (by decide +kernel), List.mem_of_getElem? (i := 1477) (by decide +kernel)⟩
theorem lw_p72 : lw_okq (⟨"RingedLightsModel", "isStage", "(I)V"⟩, 21) := ⟨⟨by decide +kernel, by decide +kernel⟩, List.mem_of_getElem? (i := 1032) (by decide +kernel), List.mem_of_getElem? (i := 1480) (by decide +kernel), List.mem_of_getElem? (i := 1481) (by decide +kernel)⟩
theorem lw_p73 : lw_okq (⟨"RingedLightsModel", "goesTo", "(I)V"⟩, 21) := ⟨⟨by decide +kernel, by decide +kernel⟩, List.mem_of_getElem? (i := 1032) (by decide +kernel), List.mem_of_getElem? (i := 1484) (by decide +kernel), List.mem_of_getElem? (i := 1485) (by decide +kernel)⟩
theorem lw_p74 : lw_okq (⟨"RingedLightsModel", "goal", "(I)I"⟩, 21) := ⟨⟨by decide +kernel, by decide +kernel⟩, List.mem_of_getElem? (i := 1032) (by decide +kernel), List.mem_of_getElem? (i := 1488) (by decide +kernel), List.mem_of_getElem? (i := 1489) (by decide +kernel)⟩
theorem lw_p75 : lw_okq (⟨"RingedLightsModel", "leaves", "(II)V"⟩, 21) := ⟨⟨by decide +kernel, by decide +kernel⟩, List.mem_of_getElem? (i := 1032) (by decide +kernel), List.mem_of_getElem? (i := 1492) (by decide +kernel), List.mem_of_getElem? (i := 1493) (by decide +kernel)⟩
theorem lw_p76 : lw_okq (⟨"RingedLightsModel", "goesOn", "()V"⟩, 21) := ⟨⟨by decide +kernel, by decide +kernel⟩, List.mem_of_getElem? (i := 1032) (by decide +kernel), List.mem_of_getElem? (i := 1496) (by decide +kernel), List.mem_of_getElem? (i := 1497) (by decide +kernel)⟩
theorem lw_p77 : lw_okq (⟨"RingedLightsModel", "goes", "(II)V"⟩, 21) := ⟨⟨by decide +kernel, by decide +kernel⟩, List.mem_of_getElem? (i := 1032) (by decide +kernel), List.mem_of_getElem? (i := 1500) (by decide +kernel), List.mem_of_getElem? (i := 1501) (by decide +kernel)⟩
theorem lw_p78 : lw_okq (⟨"RingedLightsModel", "becomes", "()V"⟩, 21) := ⟨⟨by decide +kernel, by decide +kernel⟩, List.mem_of_getElem? (i := 1032) (by decide +kernel), List.mem_of_getElem? (i := 1504) (by decide +kernel), List.mem_of_getElem? (i := 1505) (by decide +kernel)⟩
theorem lw_p79 : lw_okq (⟨"RingedLightsModel", "becomesGreen", "(II)V"⟩, 21) := ⟨⟨by decide +kernel, by decide +kernel⟩, List.mem_of_getElem? (i := 1032) (by decide +kernel), List.mem_of_getElem? (i := 1508) (by decide +kernel), List.mem_of_getElem? (i := 1509) (by decide +kernel)⟩
def lw_privs_5 : List (MethodName × Nat) := [(⟨"RingedLightsModel", "due", "()I"⟩, 21), (⟨"RingedLightsModel", "ringGoes", "(I)V"⟩, 21), (⟨"RingedLightsModel", "greenGoes", "(I)V"⟩, 21), (⟨"RingedLightsModel", "isFoeAsked", "(I)Z"⟩, 21), (⟨"RingedLightsModel", "breaks", "()V"⟩, 21), (⟨"RingedLightsModel", "breakEnds", "()V"⟩, 21), (⟨"RingedLightsModel", "noBreak", "()V"⟩, 21), (⟨"RingedLightsModel", "breakBegins", "(I)V"⟩, 21), (⟨"RingedLightsModel", "isStage", "(I)V"⟩, 21), (⟨"RingedLightsModel", "goesTo", "(I)V"⟩, 21), (⟨"RingedLightsModel", "goal", "(I)I"⟩, 21), (⟨"RingedLightsModel", "leaves", "(II)V"⟩, 21), (⟨"RingedLightsModel", "goesOn", "()V"⟩, 21), (⟨"RingedLightsModel", "goes", "(II)V"⟩, 21), (⟨"RingedLightsModel", "becomes", "()V"⟩, 21), (⟨"RingedLightsModel", "becomesGreen", "(II)V"⟩, 21)]
theorem lw_r5 : ∀ q ∈ lw_privs_5, lw_okq q := List.forall_mem_cons.mpr ⟨lw_p64, List.forall_mem_cons.mpr ⟨lw_p65, List.forall_mem_cons.mpr ⟨lw_p66, List.forall_mem_cons.mpr ⟨lw_p67, List.forall_mem_cons.mpr ⟨lw_p68, List.forall_mem_cons.mpr ⟨lw_p69, List.forall_mem_cons.mpr ⟨lw_p70, List.forall_mem_cons.mpr ⟨lw_p71, List.forall_mem_cons.mpr ⟨lw_p72, List.forall_mem_cons.mpr ⟨lw_p73, List.forall_mem_cons.mpr ⟨lw_p74, List.forall_mem_cons.mpr ⟨lw_p75, List.forall_mem_cons.mpr ⟨lw_p76, List.forall_mem_cons.mpr ⟨lw_p77, List.forall_mem_cons.mpr ⟨lw_p78, List.forall_mem_cons.mpr ⟨lw_p79, fun _ h => absurd h List.not_mem_nil⟩⟩⟩⟩⟩⟩⟩⟩⟩⟩⟩⟩⟩⟩⟩⟩
theorem lw_p80 : lw_okq (⟨"RingedLightsModel", "staged", "()V"⟩, 21) := ⟨⟨by decide +kernel, by decide +kernel⟩, List.mem_of_getElem? (i := 1032) (by decide +kernel), List.mem_of_getElem? (i := 1512) (by decide +kernel), List.mem_of_getElem? (i := 1513) (by decide +kernel)⟩
theorem lw_p81 : lw_okq (⟨"RingedLightsModel", "watches", "()V"⟩, 21) := ⟨⟨by decide +kernel, by decide +kernel⟩, List.mem_of_getElem? (i := 1032) (by decide +kernel), List.mem_of_getElem? (i := 1516) (by decide +kernel), List.mem_of_getElem? (i := 1517) (by decide +kernel)⟩
theorem lw_p82 : lw_okq (⟨"RingedLightsModel", "isFull", "(I)Z"⟩, 21) := ⟨⟨by decide +kernel, by decide +kernel⟩, List.mem_of_getElem? (i := 1032) (by decide +kernel), List.mem_of_getElem? (i := 1540) (by decide +kernel), List.mem_of_getElem? (i := 1541) (by decide +kernel)⟩
theorem lw_p83 : lw_okq (⟨"RingedLightsModel", "queuesIn", "(I)I"⟩, 21) := ⟨⟨by decide +kernel, by decide +kernel⟩, List.mem_of_getElem? (i := 1032) (by decide +kernel), List.mem_of_getElem? (i := 1544) (by decide +kernel), List.mem_of_getElem? (i := 1545) (by decide +kernel)⟩
theorem lw_p84 : lw_okq (⟨"RingedLightsModel", "reaches", "(II)I"⟩, 21) := ⟨⟨by decide +kernel, by decide +kernel⟩, List.mem_of_getElem? (i := 1032) (by decide +kernel), List.mem_of_getElem? (i := 1552) (by decide +kernel), List.mem_of_getElem? (i := 1553) (by decide +kernel)⟩
theorem lw_p85 : lw_okq (⟨"RingedLightsModel", "isReached", "(II)Z"⟩, 21) := ⟨⟨by decide +kernel, by decide +kernel⟩, List.mem_of_getElem? (i := 1032) (by decide +kernel), List.mem_of_getElem? (i := 1556) (by decide +kernel), List.mem_of_getElem? (i := 1557) (by decide +kernel)⟩
theorem lw_p86 : lw_okq (⟨"RingedLightsModel", "isGreenAt", "(I)Z"⟩, 21) := ⟨⟨by decide +kernel, by decide +kernel⟩, List.mem_of_getElem? (i := 1032) (by decide +kernel), List.mem_of_getElem? (i := 1560) (by decide +kernel), List.mem_of_getElem? (i := 1561) (by decide +kernel)⟩
theorem lw_p87 : lw_okq (⟨"RingedLightsModel", "callsOthers", "(I)V"⟩, 21) := ⟨⟨by decide +kernel, by decide +kernel⟩, List.mem_of_getElem? (i := 1032) (by decide +kernel), List.mem_of_getElem? (i := 1564) (by decide +kernel), List.mem_of_getElem? (i := 1565) (by decide +kernel)⟩
theorem lw_p88 : lw_okq (⟨"RingedLightsModel", "waitsIn", "(I)I"⟩, 21) := ⟨⟨by decide +kernel, by decide +kernel⟩, List.mem_of_getElem? (i := 1032) (by decide +kernel), List.mem_of_getElem? (i := 1588) (by decide +kernel), List.mem_of_getElem? (i := 1589) (by decide +kernel)⟩
def lw_privs_6 : List (MethodName × Nat) := [(⟨"RingedLightsModel", "staged", "()V"⟩, 21), (⟨"RingedLightsModel", "watches", "()V"⟩, 21), (⟨"RingedLightsModel", "isFull", "(I)Z"⟩, 21), (⟨"RingedLightsModel", "queuesIn", "(I)I"⟩, 21), (⟨"RingedLightsModel", "reaches", "(II)I"⟩, 21), (⟨"RingedLightsModel", "isReached", "(II)Z"⟩, 21), (⟨"RingedLightsModel", "isGreenAt", "(I)Z"⟩, 21), (⟨"RingedLightsModel", "callsOthers", "(I)V"⟩, 21), (⟨"RingedLightsModel", "waitsIn", "(I)I"⟩, 21)]
theorem lw_r6 : ∀ q ∈ lw_privs_6, lw_okq q := List.forall_mem_cons.mpr ⟨lw_p80, List.forall_mem_cons.mpr ⟨lw_p81, List.forall_mem_cons.mpr ⟨lw_p82, List.forall_mem_cons.mpr ⟨lw_p83, List.forall_mem_cons.mpr ⟨lw_p84, List.forall_mem_cons.mpr ⟨lw_p85, List.forall_mem_cons.mpr ⟨lw_p86, List.forall_mem_cons.mpr ⟨lw_p87, List.forall_mem_cons.mpr ⟨lw_p88, fun _ h => absurd h List.not_mem_nil⟩⟩⟩⟩⟩⟩⟩⟩⟩
def lw_privs : List (MethodName × Nat) := lw_privs_1 ++ (lw_privs_2 ++ (lw_privs_3 ++ (lw_privs_4 ++ (lw_privs_5 ++ (lw_privs_6)))))
def lw_tbl : List Cond := k2_sels lw_privs ++ tables_1
theorem lw_privs_ok : ∀ q ∈ lw_privs, lw_okq q := by
  show ∀ q ∈ lw_privs_1 ++ (lw_privs_2 ++ (lw_privs_3 ++ (lw_privs_4 ++ (lw_privs_5 ++ (lw_privs_6))))), lw_okq q
  exact List.forall_mem_append.mpr ⟨lw_r1, List.forall_mem_append.mpr ⟨lw_r2, List.forall_mem_append.mpr ⟨lw_r3, List.forall_mem_append.mpr ⟨lw_r4, List.forall_mem_append.mpr ⟨lw_r5, lw_r6⟩⟩⟩⟩⟩
-- classes and their fields
def RX0 : String := "RingedLights$Crossing"
def TX0 : u_T := fun k => match k with
  | 0 => ("RingedLights$Crossing", "plan", "LRingedLights$Plan;", true)
  | 1 => ("RingedLights$Crossing", "ring0", "LRingedLights$Ring;", true)
  | 2 => ("RingedLights$Crossing", "ring1", "LRingedLights$Ring;", true)
  | 3 => ("RingedLights$Crossing", "log", "LRingedLights$Log;", true)
  | 4 => ("RingedLights$Crossing", "queues", "[I", true)
  | 5 => ("RingedLights$Crossing", "letGo", "[I", true)
  | 6 => ("RingedLights$Crossing", "queued", "I", false)
  | 7 => ("RingedLights$Crossing", "calls", "I", false)
  | 8 => ("RingedLights$Crossing", "footCalls", "I", false)
  | 9 => ("RingedLights$Crossing", "greenCalls", "I", false)
  | 10 => ("RingedLights$Crossing", "stuck", "I", false)
  | 11 => ("RingedLights$Crossing", "wanted", "I", false)
  | 12 => ("RingedLights$Crossing", "latestTick", "I", false)
  | 13 => ("RingedLights$Crossing", "clockAt", "I", false)
  | 14 => ("RingedLights$Crossing", "waited", "I", false)
  | 15 => ("RingedLights$Crossing", "flash", "Z", false)
  | 16 => ("RingedLights$Crossing", "begun", "I", false)
  | 17 => ("RingedLights$Crossing", "stage", "I", false)
  | _ => ("RingedLights$Crossing", "stageTicks", "I", false)
def tyX0 : Nat → FieldType := fun k => match k with
  | 0 => .object "RingedLights$Plan"
  | 1 => .object "RingedLights$Ring"
  | 2 => .object "RingedLights$Ring"
  | 3 => .object "RingedLights$Log"
  | 4 => .array .int
  | 5 => .array .int
  | 6 => .int
  | 7 => .int
  | 8 => .int
  | 9 => .int
  | 10 => .int
  | 11 => .int
  | 12 => .int
  | 13 => .int
  | 14 => .int
  | 15 => .boolean
  | 16 => .int
  | 17 => .int
  | _ => .int
theorem nmX0 : ∀ a, a < 19 → ∀ b, b < 19 → a ≠ b → (TX0 a).2.1 ≠ (TX0 b).2.1 := by decide +kernel
theorem tyX0_ok : ∀ k, k < 19 → parseFieldDescriptor (TX0 k).2.2.1 = some (tyX0 k) := by decide +kernel
def RX1 : String := "RingedLights$Log"
def TX1 : u_T := fun k => match k with
  | 0 => ("RingedLights$Log", "kinds", "[I", true)
  | 1 => ("RingedLights$Log", "ticks", "[I", true)
  | 2 => ("RingedLights$Log", "whiches", "[I", true)
  | 3 => ("RingedLights$Log", "noted", "I", false)
  | _ => ("RingedLights$Log", "following", "I", false)
def tyX1 : Nat → FieldType := fun k => match k with
  | 0 => .array .int
  | 1 => .array .int
  | 2 => .array .int
  | 3 => .int
  | _ => .int
theorem nmX1 : ∀ a, a < 5 → ∀ b, b < 5 → a ≠ b → (TX1 a).2.1 ≠ (TX1 b).2.1 := by decide +kernel
theorem tyX1_ok : ∀ k, k < 5 → parseFieldDescriptor (TX1 k).2.2.1 = some (tyX1 k) := by decide +kernel
def RX2 : String := "RingedLights$Plan"
def TX2 : u_T := fun k => match k with
  | 0 => ("RingedLights$Plan", "phases", "I", false)
  | 1 => ("RingedLights$Plan", "cycle", "I", false)
  | 2 => ("RingedLights$Plan", "offset", "I", false)
  | 3 => ("RingedLights$Plan", "ringOf", "[I", true)
  | 4 => ("RingedLights$Plan", "sideOf", "[I", true)
  | 5 => ("RingedLights$Plan", "foes", "[I", true)
  | 6 => ("RingedLights$Plan", "marks", "[I", true)
  | 7 => ("RingedLights$Plan", "breaks", "[I", true)
  | 8 => ("RingedLights$Plan", "parts", "[I", true)
  | 9 => ("RingedLights$Plan", "recalled", "I", false)
  | 10 => ("RingedLights$Plan", "footRecalled", "I", false)
  | _ => ("RingedLights$Plan", "walked", "I", false)
def tyX2 : Nat → FieldType := fun k => match k with
  | 0 => .int
  | 1 => .int
  | 2 => .int
  | 3 => .array .int
  | 4 => .array .int
  | 5 => .array .int
  | 6 => .array .int
  | 7 => .array .int
  | 8 => .array .int
  | 9 => .int
  | 10 => .int
  | _ => .int
theorem nmX2 : ∀ a, a < 12 → ∀ b, b < 12 → a ≠ b → (TX2 a).2.1 ≠ (TX2 b).2.1 := by decide +kernel
theorem tyX2_ok : ∀ k, k < 12 → parseFieldDescriptor (TX2 k).2.2.1 = some (tyX2 k) := by decide +kernel
def RX3 : String := "RingedLights$Reader"
def TX3 : u_T := fun k => match k with
  | 0 => ("RingedLights$Reader", "tape", "[B", true)
  | 1 => ("RingedLights$Reader", "plan", "LRingedLights$Plan;", true)
  | 2 => ("RingedLights$Reader", "end", "I", false)
  | 3 => ("RingedLights$Reader", "place", "I", false)
  | 4 => ("RingedLights$Reader", "start", "I", false)
  | 5 => ("RingedLights$Reader", "kind", "I", false)
  | 6 => ("RingedLights$Reader", "number", "I", false)
  | 7 => ("RingedLights$Reader", "lines", "I", false)
  | 8 => ("RingedLights$Reader", "told", "I", false)
  | 9 => ("RingedLights$Reader", "fault", "I", false)
  | 10 => ("RingedLights$Reader", "faultPlace", "I", false)
  | _ => ("RingedLights$Reader", "faultLine", "I", false)
def tyX3 : Nat → FieldType := fun k => match k with
  | 0 => .array .byte
  | 1 => .object "RingedLights$Plan"
  | 2 => .int
  | 3 => .int
  | 4 => .int
  | 5 => .int
  | 6 => .int
  | 7 => .int
  | 8 => .int
  | 9 => .int
  | 10 => .int
  | _ => .int
theorem nmX3 : ∀ a, a < 12 → ∀ b, b < 12 → a ≠ b → (TX3 a).2.1 ≠ (TX3 b).2.1 := by decide +kernel
theorem tyX3_ok : ∀ k, k < 12 → parseFieldDescriptor (TX3 k).2.2.1 = some (tyX3 k) := by decide +kernel
def RX4 : String := "RingedLights$Ring"
def TX4 : u_T := fun k => match k with
  | 0 => ("RingedLights$Ring", "number", "I", true)
  | 1 => ("RingedLights$Ring", "at", "I", false)
  | 2 => ("RingedLights$Ring", "lamp", "I", false)
  | 3 => ("RingedLights$Ring", "age", "I", false)
  | 4 => ("RingedLights$Ring", "to", "I", false)
  | 5 => ("RingedLights$Ring", "gap", "I", false)
  | 6 => ("RingedLights$Ring", "pressed", "I", false)
  | 7 => ("RingedLights$Ring", "walking", "I", false)
  | _ => ("RingedLights$Ring", "halted", "I", false)
def tyX4 : Nat → FieldType := fun k => match k with
  | 0 => .int
  | 1 => .int
  | 2 => .int
  | 3 => .int
  | 4 => .int
  | 5 => .int
  | 6 => .int
  | 7 => .int
  | _ => .int
theorem nmX4 : ∀ a, a < 9 → ∀ b, b < 9 → a ≠ b → (TX4 a).2.1 ≠ (TX4 b).2.1 := by decide +kernel
theorem tyX4_ok : ∀ k, k < 9 → parseFieldDescriptor (TX4 k).2.2.1 = some (tyX4 k) := by decide +kernel
def RX5 : String := "RingedLights"
def TX5 : u_T := fun k => match k with
  | 0 => ("RingedLights", "reader", "LRingedLights$Reader;", true)
  | 1 => ("RingedLights", "now", "LRingedLights$Crossing;", true)
  | 2 => ("RingedLights", "spare", "LRingedLights$Crossing;", true)
  | 3 => ("RingedLights", "firstKept", "LRingedLights$Crossing;", true)
  | 4 => ("RingedLights", "secondKept", "LRingedLights$Crossing;", true)
  | 5 => ("RingedLights", "thirdKept", "LRingedLights$Crossing;", true)
  | 6 => ("RingedLights", "kept", "I", false)
  | 7 => ("RingedLights", "taped", "I", false)
  | 8 => ("RingedLights", "everRead", "Z", false)
  | _ => ("RingedLights", "status", "I", false)
def tyX5 : Nat → FieldType := fun k => match k with
  | 0 => .object "RingedLights$Reader"
  | 1 => .object "RingedLights$Crossing"
  | 2 => .object "RingedLights$Crossing"
  | 3 => .object "RingedLights$Crossing"
  | 4 => .object "RingedLights$Crossing"
  | 5 => .object "RingedLights$Crossing"
  | 6 => .int
  | 7 => .int
  | 8 => .boolean
  | _ => .int
theorem nmX5 : ∀ a, a < 10 → ∀ b, b < 10 → a ≠ b → (TX5 a).2.1 ≠ (TX5 b).2.1 := by decide +kernel
theorem tyX5_ok : ∀ k, k < 10 → parseFieldDescriptor (TX5 k).2.2.1 = some (tyX5 k) := by decide +kernel
def RX6 : String := "RingedLightsModel"
def TX6 : u_T := fun k => match k with
  | 0 => ("RingedLightsModel", "all", "[I", true)
  | 1 => ("RingedLightsModel", "status", "I", false)
  | 2 => ("RingedLightsModel", "marks", "I", false)
  | 3 => ("RingedLightsModel", "drawn", "I", false)
  | 4 => ("RingedLightsModel", "letGo", "I", false)
  | 5 => ("RingedLightsModel", "isGoing", "Z", false)
  | 6 => ("RingedLightsModel", "tape", "[B", true)
  | 7 => ("RingedLightsModel", "text", "[B", true)
  | 8 => ("RingedLightsModel", "taped", "I", false)
  | 9 => ("RingedLightsModel", "size", "I", false)
  | 10 => ("RingedLightsModel", "token", "I", false)
  | 11 => ("RingedLightsModel", "from", "I", false)
  | 12 => ("RingedLightsModel", "end", "I", false)
  | 13 => ("RingedLightsModel", "value", "I", false)
  | 14 => ("RingedLightsModel", "faults", "I", false)
  | 15 => ("RingedLightsModel", "faultPlace", "I", false)
  | 16 => ("RingedLightsModel", "faultLine", "I", false)
  | 17 => ("RingedLightsModel", "faultKind", "I", false)
  | 18 => ("RingedLightsModel", "lines", "I", false)
  | 19 => ("RingedLightsModel", "told", "I", false)
  | _ => ("RingedLightsModel", "taken", "I", false)
def tyX6 : Nat → FieldType := fun k => match k with
  | 0 => .array .int
  | 1 => .int
  | 2 => .int
  | 3 => .int
  | 4 => .int
  | 5 => .boolean
  | 6 => .array .byte
  | 7 => .array .byte
  | 8 => .int
  | 9 => .int
  | 10 => .int
  | 11 => .int
  | 12 => .int
  | 13 => .int
  | 14 => .int
  | 15 => .int
  | 16 => .int
  | 17 => .int
  | 18 => .int
  | 19 => .int
  | _ => .int
theorem nmX6 : ∀ a, a < 21 → ∀ b, b < 21 → a ≠ b → (TX6 a).2.1 ≠ (TX6 b).2.1 := by decide +kernel
theorem tyX6_ok : ∀ k, k < 21 → parseFieldDescriptor (TX6 k).2.2.1 = some (tyX6 k) := by decide +kernel
def RJ9 : String := "java/lang/Math"
def RJ0 : String := "java/lang/String"
def RJ1 : String := "java/lang/StringLatin1"
def RJ2 : String := "java/lang/StringUTF16"
def RJ10 : String := "java/lang/System"
def RJ3 : String := "jdk/internal/util/Preconditions"
def RL : String := "RingedLightsLaw"
