section
-- ===== PART A: goes FIRST, ahead of the names: the tables' words, and 'selects' of the private methods out of them =====
/-- a private method of a class that the tables say can be made, by its rows of tables_1 -/
def lw_okq (q : MethodName × Nat) : Prop := (q.1.cls ≠ "java/lang/invoke/MethodHandle" ∧ q.1.cls ≠ "java/lang/invoke/VarHandle") ∧ Cond.instantiable q.1.cls q.2 ∈ tables_1 ∧ Cond.privateMethod q.1 ∈ tables_1 ∧ Cond.instanceMethod q.1 ∈ tables_1
theorem lw_p0 : lw_okq (⟨"DragonRing$History", "row", "(I)LDragonRing$State;"⟩, 3) := ⟨⟨by decide +kernel, by decide +kernel⟩, List.mem_of_getElem? (i := 158) (by decide +kernel), List.mem_of_getElem? (i := 208) (by decide +kernel), List.mem_of_getElem? (i := 209) (by decide +kernel)⟩
theorem lw_p1 : lw_okq (⟨"DragonRing", "settled", "(I)I"⟩, 5) := ⟨⟨by decide +kernel, by decide +kernel⟩, List.mem_of_getElem? (i := 24) (by decide +kernel), List.mem_of_getElem? (i := 272) (by decide +kernel), List.mem_of_getElem? (i := 273) (by decide +kernel)⟩
theorem lw_p2 : lw_okq (⟨"java/lang/Throwable", "fillInStackTrace", "(I)Ljava/lang/Throwable;"⟩, 6) := ⟨⟨by decide +kernel, by decide +kernel⟩, List.mem_of_getElem? (i := 317) (by decide +kernel), List.mem_of_getElem? (i := 315) (by decide +kernel), List.mem_of_getElem? (i := 316) (by decide +kernel)⟩
theorem lw_p3 : lw_okq (⟨"DragonRing$State", "goAsFarAs", "(I)I"⟩, 4) := ⟨⟨by decide +kernel, by decide +kernel⟩, List.mem_of_getElem? (i := 32) (by decide +kernel), List.mem_of_getElem? (i := 359) (by decide +kernel), List.mem_of_getElem? (i := 360) (by decide +kernel)⟩
theorem lw_p4 : lw_okq (⟨"DragonRing", "hashScroll", "(LDragonRing$Hash;)V"⟩, 5) := ⟨⟨by decide +kernel, by decide +kernel⟩, List.mem_of_getElem? (i := 24) (by decide +kernel), List.mem_of_getElem? (i := 665) (by decide +kernel), List.mem_of_getElem? (i := 666) (by decide +kernel)⟩
theorem lw_p5 : lw_okq (⟨"DragonRing", "hashRing", "(LDragonRing$Hash;)V"⟩, 5) := ⟨⟨by decide +kernel, by decide +kernel⟩, List.mem_of_getElem? (i := 24) (by decide +kernel), List.mem_of_getElem? (i := 693) (by decide +kernel), List.mem_of_getElem? (i := 694) (by decide +kernel)⟩
theorem lw_p6 : lw_okq (⟨"DragonRing", "hashRest", "(LDragonRing$Hash;)V"⟩, 5) := ⟨⟨by decide +kernel, by decide +kernel⟩, List.mem_of_getElem? (i := 24) (by decide +kernel), List.mem_of_getElem? (i := 704) (by decide +kernel), List.mem_of_getElem? (i := 705) (by decide +kernel)⟩
theorem lw_p7 : lw_okq (⟨"DragonRing$Scroll", "makeWay", "(I)V"⟩, 3) := ⟨⟨by decide +kernel, by decide +kernel⟩, List.mem_of_getElem? (i := 38) (by decide +kernel), List.mem_of_getElem? (i := 763) (by decide +kernel), List.mem_of_getElem? (i := 764) (by decide +kernel)⟩
theorem lw_p8 : lw_okq (⟨"DragonRing$State", "kill", "(IIZ)I"⟩, 4) := ⟨⟨by decide +kernel, by decide +kernel⟩, List.mem_of_getElem? (i := 32) (by decide +kernel), List.mem_of_getElem? (i := 870) (by decide +kernel), List.mem_of_getElem? (i := 871) (by decide +kernel)⟩
theorem lw_p9 : lw_okq (⟨"DragonRing$State", "writeHoard", "(LDragonRing$Text;)I"⟩, 4) := ⟨⟨by decide +kernel, by decide +kernel⟩, List.mem_of_getElem? (i := 32) (by decide +kernel), List.mem_of_getElem? (i := 948) (by decide +kernel), List.mem_of_getElem? (i := 949) (by decide +kernel)⟩
theorem lw_p10 : lw_okq (⟨"DragonRing", "tellsDeeds", "()Z"⟩, 5) := ⟨⟨by decide +kernel, by decide +kernel⟩, List.mem_of_getElem? (i := 24) (by decide +kernel), List.mem_of_getElem? (i := 1018) (by decide +kernel), List.mem_of_getElem? (i := 1019) (by decide +kernel)⟩
theorem lw_p11 : lw_okq (⟨"DragonRing", "deedsDone", "()I"⟩, 5) := ⟨⟨by decide +kernel, by decide +kernel⟩, List.mem_of_getElem? (i := 24) (by decide +kernel), List.mem_of_getElem? (i := 1023) (by decide +kernel), List.mem_of_getElem? (i := 1024) (by decide +kernel)⟩
theorem lw_p12 : lw_okq (⟨"DragonRingModel", "goes", "(ZZZ)Z"⟩, 10) := ⟨⟨by decide +kernel, by decide +kernel⟩, List.mem_of_getElem? (i := 1168) (by decide +kernel), List.mem_of_getElem? (i := 1217) (by decide +kernel), List.mem_of_getElem? (i := 1218) (by decide +kernel)⟩
theorem lw_p13 : lw_okq (⟨"DragonRingModel", "saves", "()V"⟩, 10) := ⟨⟨by decide +kernel, by decide +kernel⟩, List.mem_of_getElem? (i := 1168) (by decide +kernel), List.mem_of_getElem? (i := 1221) (by decide +kernel), List.mem_of_getElem? (i := 1222) (by decide +kernel)⟩
theorem lw_p14 : lw_okq (⟨"DragonRingModel", "copies", "(II)V"⟩, 10) := ⟨⟨by decide +kernel, by decide +kernel⟩, List.mem_of_getElem? (i := 1168) (by decide +kernel), List.mem_of_getElem? (i := 1225) (by decide +kernel), List.mem_of_getElem? (i := 1226) (by decide +kernel)⟩
theorem lw_p15 : lw_okq (⟨"DragonRingModel", "writes", "(I)I"⟩, 10) := ⟨⟨by decide +kernel, by decide +kernel⟩, List.mem_of_getElem? (i := 1168) (by decide +kernel), List.mem_of_getElem? (i := 1229) (by decide +kernel), List.mem_of_getElem? (i := 1230) (by decide +kernel)⟩
def lw_privs_1 : List (MethodName × Nat) := [(⟨"DragonRing$History", "row", "(I)LDragonRing$State;"⟩, 3), (⟨"DragonRing", "settled", "(I)I"⟩, 5), (⟨"java/lang/Throwable", "fillInStackTrace", "(I)Ljava/lang/Throwable;"⟩, 6), (⟨"DragonRing$State", "goAsFarAs", "(I)I"⟩, 4), (⟨"DragonRing", "hashScroll", "(LDragonRing$Hash;)V"⟩, 5), (⟨"DragonRing", "hashRing", "(LDragonRing$Hash;)V"⟩, 5), (⟨"DragonRing", "hashRest", "(LDragonRing$Hash;)V"⟩, 5), (⟨"DragonRing$Scroll", "makeWay", "(I)V"⟩, 3), (⟨"DragonRing$State", "kill", "(IIZ)I"⟩, 4), (⟨"DragonRing$State", "writeHoard", "(LDragonRing$Text;)I"⟩, 4), (⟨"DragonRing", "tellsDeeds", "()Z"⟩, 5), (⟨"DragonRing", "deedsDone", "()I"⟩, 5), (⟨"DragonRingModel", "goes", "(ZZZ)Z"⟩, 10), (⟨"DragonRingModel", "saves", "()V"⟩, 10), (⟨"DragonRingModel", "copies", "(II)V"⟩, 10), (⟨"DragonRingModel", "writes", "(I)I"⟩, 10)]
theorem lw_r1 : ∀ q ∈ lw_privs_1, lw_okq q := List.forall_mem_cons.mpr ⟨lw_p0, List.forall_mem_cons.mpr ⟨lw_p1, List.forall_mem_cons.mpr ⟨lw_p2, List.forall_mem_cons.mpr ⟨lw_p3, List.forall_mem_cons.mpr ⟨lw_p4, List.forall_mem_cons.mpr ⟨lw_p5, List.forall_mem_cons.mpr ⟨lw_p6, List.forall_mem_cons.mpr ⟨lw_p7, List.forall_mem_cons.mpr ⟨lw_p8, List.forall_mem_cons.mpr ⟨lw_p9, List.forall_mem_cons.mpr ⟨lw_p10, List.forall_mem_cons.mpr ⟨lw_p11, List.forall_mem_cons.mpr ⟨lw_p12, List.forall_mem_cons.mpr ⟨lw_p13, List.forall_mem_cons.mpr ⟨lw_p14, List.forall_mem_cons.mpr ⟨lw_p15, fun _ h => absurd h List.not_mem_nil⟩⟩⟩⟩⟩⟩⟩⟩⟩⟩⟩⟩⟩⟩⟩⟩
theorem lw_p16 : lw_okq (⟨"DragonRingModel", "parts", "(I)V"⟩, 10) := ⟨⟨by decide +kernel, by decide +kernel⟩, List.mem_of_getElem? (i := 1168) (by decide +kernel), List.mem_of_getElem? (i := 1233) (by decide +kernel), List.mem_of_getElem? (i := 1234) (by decide +kernel)⟩
theorem lw_p17 : lw_okq (⟨"DragonRingModel", "code", "(I)I"⟩, 10) := ⟨⟨by decide +kernel, by decide +kernel⟩, List.mem_of_getElem? (i := 1168) (by decide +kernel), List.mem_of_getElem? (i := 1237) (by decide +kernel), List.mem_of_getElem? (i := 1238) (by decide +kernel)⟩
theorem lw_p18 : lw_okq (⟨"DragonRingModel", "acts", "(I)I"⟩, 10) := ⟨⟨by decide +kernel, by decide +kernel⟩, List.mem_of_getElem? (i := 1168) (by decide +kernel), List.mem_of_getElem? (i := 1245) (by decide +kernel), List.mem_of_getElem? (i := 1246) (by decide +kernel)⟩
theorem lw_p19 : lw_okq (⟨"DragonRingModel", "does", "(II)I"⟩, 10) := ⟨⟨by decide +kernel, by decide +kernel⟩, List.mem_of_getElem? (i := 1168) (by decide +kernel), List.mem_of_getElem? (i := 1249) (by decide +kernel), List.mem_of_getElem? (i := 1250) (by decide +kernel)⟩
theorem lw_p20 : lw_okq (⟨"DragonRingModel", "goesTo", "(I)I"⟩, 10) := ⟨⟨by decide +kernel, by decide +kernel⟩, List.mem_of_getElem? (i := 1168) (by decide +kernel), List.mem_of_getElem? (i := 1253) (by decide +kernel), List.mem_of_getElem? (i := 1254) (by decide +kernel)⟩
theorem lw_p21 : lw_okq (⟨"DragonRingModel", "behindWord", "(I)I"⟩, 10) := ⟨⟨by decide +kernel, by decide +kernel⟩, List.mem_of_getElem? (i := 1168) (by decide +kernel), List.mem_of_getElem? (i := 1257) (by decide +kernel), List.mem_of_getElem? (i := 1258) (by decide +kernel)⟩
theorem lw_p22 : lw_okq (⟨"DragonRingModel", "isWord", "(I)Z"⟩, 10) := ⟨⟨by decide +kernel, by decide +kernel⟩, List.mem_of_getElem? (i := 1168) (by decide +kernel), List.mem_of_getElem? (i := 1261) (by decide +kernel), List.mem_of_getElem? (i := 1262) (by decide +kernel)⟩
theorem lw_p23 : lw_okq (⟨"DragonRingModel", "aheadOfWord", "(I)I"⟩, 10) := ⟨⟨by decide +kernel, by decide +kernel⟩, List.mem_of_getElem? (i := 1168) (by decide +kernel), List.mem_of_getElem? (i := 1268) (by decide +kernel), List.mem_of_getElem? (i := 1269) (by decide +kernel)⟩
theorem lw_p24 : lw_okq (⟨"DragonRingModel", "beginOf", "(I)I"⟩, 10) := ⟨⟨by decide +kernel, by decide +kernel⟩, List.mem_of_getElem? (i := 1168) (by decide +kernel), List.mem_of_getElem? (i := 1272) (by decide +kernel), List.mem_of_getElem? (i := 1273) (by decide +kernel)⟩
theorem lw_p25 : lw_okq (⟨"DragonRingModel", "endOf", "(I)I"⟩, 10) := ⟨⟨by decide +kernel, by decide +kernel⟩, List.mem_of_getElem? (i := 1168) (by decide +kernel), List.mem_of_getElem? (i := 1276) (by decide +kernel), List.mem_of_getElem? (i := 1277) (by decide +kernel)⟩
theorem lw_p26 : lw_okq (⟨"DragonRingModel", "marks", "()I"⟩, 10) := ⟨⟨by decide +kernel, by decide +kernel⟩, List.mem_of_getElem? (i := 1168) (by decide +kernel), List.mem_of_getElem? (i := 1280) (by decide +kernel), List.mem_of_getElem? (i := 1281) (by decide +kernel)⟩
theorem lw_p27 : lw_okq (⟨"DragonRingModel", "exchanges", "()I"⟩, 10) := ⟨⟨by decide +kernel, by decide +kernel⟩, List.mem_of_getElem? (i := 1168) (by decide +kernel), List.mem_of_getElem? (i := 1284) (by decide +kernel), List.mem_of_getElem? (i := 1285) (by decide +kernel)⟩
theorem lw_p28 : lw_okq (⟨"DragonRingModel", "killsWord", "()I"⟩, 10) := ⟨⟨by decide +kernel, by decide +kernel⟩, List.mem_of_getElem? (i := 1168) (by decide +kernel), List.mem_of_getElem? (i := 1288) (by decide +kernel), List.mem_of_getElem? (i := 1289) (by decide +kernel)⟩
theorem lw_p29 : lw_okq (⟨"DragonRingModel", "kills", "(IIZ)I"⟩, 10) := ⟨⟨by decide +kernel, by decide +kernel⟩, List.mem_of_getElem? (i := 1168) (by decide +kernel), List.mem_of_getElem? (i := 1292) (by decide +kernel), List.mem_of_getElem? (i := 1293) (by decide +kernel)⟩
theorem lw_p30 : lw_okq (⟨"DragonRingModel", "grows", "(IIZ)V"⟩, 10) := ⟨⟨by decide +kernel, by decide +kernel⟩, List.mem_of_getElem? (i := 1168) (by decide +kernel), List.mem_of_getElem? (i := 1296) (by decide +kernel), List.mem_of_getElem? (i := 1297) (by decide +kernel)⟩
theorem lw_p31 : lw_okq (⟨"DragonRingModel", "collects", "(II)V"⟩, 10) := ⟨⟨by decide +kernel, by decide +kernel⟩, List.mem_of_getElem? (i := 1168) (by decide +kernel), List.mem_of_getElem? (i := 1300) (by decide +kernel), List.mem_of_getElem? (i := 1301) (by decide +kernel)⟩
def lw_privs_2 : List (MethodName × Nat) := [(⟨"DragonRingModel", "parts", "(I)V"⟩, 10), (⟨"DragonRingModel", "code", "(I)I"⟩, 10), (⟨"DragonRingModel", "acts", "(I)I"⟩, 10), (⟨"DragonRingModel", "does", "(II)I"⟩, 10), (⟨"DragonRingModel", "goesTo", "(I)I"⟩, 10), (⟨"DragonRingModel", "behindWord", "(I)I"⟩, 10), (⟨"DragonRingModel", "isWord", "(I)Z"⟩, 10), (⟨"DragonRingModel", "aheadOfWord", "(I)I"⟩, 10), (⟨"DragonRingModel", "beginOf", "(I)I"⟩, 10), (⟨"DragonRingModel", "endOf", "(I)I"⟩, 10), (⟨"DragonRingModel", "marks", "()I"⟩, 10), (⟨"DragonRingModel", "exchanges", "()I"⟩, 10), (⟨"DragonRingModel", "killsWord", "()I"⟩, 10), (⟨"DragonRingModel", "kills", "(IIZ)I"⟩, 10), (⟨"DragonRingModel", "grows", "(IIZ)V"⟩, 10), (⟨"DragonRingModel", "collects", "(II)V"⟩, 10)]
theorem lw_r2 : ∀ q ∈ lw_privs_2, lw_okq q := List.forall_mem_cons.mpr ⟨lw_p16, List.forall_mem_cons.mpr ⟨lw_p17, List.forall_mem_cons.mpr ⟨lw_p18, List.forall_mem_cons.mpr ⟨lw_p19, List.forall_mem_cons.mpr ⟨lw_p20, List.forall_mem_cons.mpr ⟨lw_p21, List.forall_mem_cons.mpr ⟨lw_p22, List.forall_mem_cons.mpr ⟨lw_p23, List.forall_mem_cons.mpr ⟨lw_p24, List.forall_mem_cons.mpr ⟨lw_p25, List.forall_mem_cons.mpr ⟨lw_p26, List.forall_mem_cons.mpr ⟨lw_p27, List.forall_mem_cons.mpr ⟨lw_p28, List.forall_mem_cons.mpr ⟨lw_p29, List.forall_mem_cons.mpr ⟨lw_p30, List.forall_mem_cons.mpr ⟨lw_p31, fun _ h => absurd h List.not_mem_nil⟩⟩⟩⟩⟩⟩⟩⟩⟩⟩⟩⟩⟩⟩⟩⟩
theorem lw_p32 : lw_okq (⟨"DragonRingModel", "takesOut", "(II)V"⟩, 10) := ⟨⟨by decide +kernel, by decide +kernel⟩, List.mem_of_getElem? (i := 1168) (by decide +kernel), List.mem_of_getElem? (i := 1304) (by decide +kernel), List.mem_of_getElem? (i := 1305) (by decide +kernel)⟩
theorem lw_p33 : lw_okq (⟨"DragonRingModel", "killsBack", "()I"⟩, 10) := ⟨⟨by decide +kernel, by decide +kernel⟩, List.mem_of_getElem? (i := 1168) (by decide +kernel), List.mem_of_getElem? (i := 1311) (by decide +kernel), List.mem_of_getElem? (i := 1312) (by decide +kernel)⟩
theorem lw_p34 : lw_okq (⟨"DragonRingModel", "killsLine", "()I"⟩, 10) := ⟨⟨by decide +kernel, by decide +kernel⟩, List.mem_of_getElem? (i := 1168) (by decide +kernel), List.mem_of_getElem? (i := 1315) (by decide +kernel), List.mem_of_getElem? (i := 1316) (by decide +kernel)⟩
theorem lw_p35 : lw_okq (⟨"DragonRingModel", "killsBetween", "()I"⟩, 10) := ⟨⟨by decide +kernel, by decide +kernel⟩, List.mem_of_getElem? (i := 1168) (by decide +kernel), List.mem_of_getElem? (i := 1319) (by decide +kernel), List.mem_of_getElem? (i := 1320) (by decide +kernel)⟩
theorem lw_p36 : lw_okq (⟨"DragonRingModel", "doesMore", "(II)I"⟩, 10) := ⟨⟨by decide +kernel, by decide +kernel⟩, List.mem_of_getElem? (i := 1168) (by decide +kernel), List.mem_of_getElem? (i := 1323) (by decide +kernel), List.mem_of_getElem? (i := 1324) (by decide +kernel)⟩
theorem lw_p37 : lw_okq (⟨"DragonRingModel", "copiesBetween", "()I"⟩, 10) := ⟨⟨by decide +kernel, by decide +kernel⟩, List.mem_of_getElem? (i := 1168) (by decide +kernel), List.mem_of_getElem? (i := 1327) (by decide +kernel), List.mem_of_getElem? (i := 1328) (by decide +kernel)⟩
theorem lw_p38 : lw_okq (⟨"DragonRingModel", "apart", "()I"⟩, 10) := ⟨⟨by decide +kernel, by decide +kernel⟩, List.mem_of_getElem? (i := 1168) (by decide +kernel), List.mem_of_getElem? (i := 1331) (by decide +kernel), List.mem_of_getElem? (i := 1332) (by decide +kernel)⟩
theorem lw_p39 : lw_okq (⟨"DragonRingModel", "yanks", "()I"⟩, 10) := ⟨⟨by decide +kernel, by decide +kernel⟩, List.mem_of_getElem? (i := 1168) (by decide +kernel), List.mem_of_getElem? (i := 1335) (by decide +kernel), List.mem_of_getElem? (i := 1336) (by decide +kernel)⟩
theorem lw_p40 : lw_okq (⟨"DragonRingModel", "yanksOther", "()I"⟩, 10) := ⟨⟨by decide +kernel, by decide +kernel⟩, List.mem_of_getElem? (i := 1168) (by decide +kernel), List.mem_of_getElem? (i := 1339) (by decide +kernel), List.mem_of_getElem? (i := 1340) (by decide +kernel)⟩
theorem lw_p41 : lw_okq (⟨"DragonRingModel", "turns", "(I)I"⟩, 10) := ⟨⟨by decide +kernel, by decide +kernel⟩, List.mem_of_getElem? (i := 1168) (by decide +kernel), List.mem_of_getElem? (i := 1343) (by decide +kernel), List.mem_of_getElem? (i := 1344) (by decide +kernel)⟩
theorem lw_p42 : lw_okq (⟨"DragonRingModel", "rubs", "()I"⟩, 10) := ⟨⟨by decide +kernel, by decide +kernel⟩, List.mem_of_getElem? (i := 1168) (by decide +kernel), List.mem_of_getElem? (i := 1347) (by decide +kernel), List.mem_of_getElem? (i := 1348) (by decide +kernel)⟩
theorem lw_p43 : lw_okq (⟨"DragonRingModel", "swaps", "()I"⟩, 10) := ⟨⟨by decide +kernel, by decide +kernel⟩, List.mem_of_getElem? (i := 1168) (by decide +kernel), List.mem_of_getElem? (i := 1351) (by decide +kernel), List.mem_of_getElem? (i := 1352) (by decide +kernel)⟩
theorem lw_p44 : lw_okq (⟨"DragonRingModel", "greatens", "()I"⟩, 10) := ⟨⟨by decide +kernel, by decide +kernel⟩, List.mem_of_getElem? (i := 1168) (by decide +kernel), List.mem_of_getElem? (i := 1355) (by decide +kernel), List.mem_of_getElem? (i := 1356) (by decide +kernel)⟩
theorem lw_p45 : lw_okq (⟨"DragonRingModel", "remembers", "()V"⟩, 10) := ⟨⟨by decide +kernel, by decide +kernel⟩, List.mem_of_getElem? (i := 1168) (by decide +kernel), List.mem_of_getElem? (i := 1359) (by decide +kernel), List.mem_of_getElem? (i := 1360) (by decide +kernel)⟩
theorem lw_p46 : lw_okq (⟨"DragonRingModel", "lineAt", "(I)I"⟩, 10) := ⟨⟨by decide +kernel, by decide +kernel⟩, List.mem_of_getElem? (i := 1168) (by decide +kernel), List.mem_of_getElem? (i := 1398) (by decide +kernel), List.mem_of_getElem? (i := 1399) (by decide +kernel)⟩
theorem lw_p47 : lw_okq (⟨"DragonRingModel", "isFoundAt", "(I)Z"⟩, 10) := ⟨⟨by decide +kernel, by decide +kernel⟩, List.mem_of_getElem? (i := 1168) (by decide +kernel), List.mem_of_getElem? (i := 1414) (by decide +kernel), List.mem_of_getElem? (i := 1415) (by decide +kernel)⟩
def lw_privs_3 : List (MethodName × Nat) := [(⟨"DragonRingModel", "takesOut", "(II)V"⟩, 10), (⟨"DragonRingModel", "killsBack", "()I"⟩, 10), (⟨"DragonRingModel", "killsLine", "()I"⟩, 10), (⟨"DragonRingModel", "killsBetween", "()I"⟩, 10), (⟨"DragonRingModel", "doesMore", "(II)I"⟩, 10), (⟨"DragonRingModel", "copiesBetween", "()I"⟩, 10), (⟨"DragonRingModel", "apart", "()I"⟩, 10), (⟨"DragonRingModel", "yanks", "()I"⟩, 10), (⟨"DragonRingModel", "yanksOther", "()I"⟩, 10), (⟨"DragonRingModel", "turns", "(I)I"⟩, 10), (⟨"DragonRingModel", "rubs", "()I"⟩, 10), (⟨"DragonRingModel", "swaps", "()I"⟩, 10), (⟨"DragonRingModel", "greatens", "()I"⟩, 10), (⟨"DragonRingModel", "remembers", "()V"⟩, 10), (⟨"DragonRingModel", "lineAt", "(I)I"⟩, 10), (⟨"DragonRingModel", "isFoundAt", "(I)Z"⟩, 10)]
theorem lw_r3 : ∀ q ∈ lw_privs_3, lw_okq q := List.forall_mem_cons.mpr ⟨lw_p32, List.forall_mem_cons.mpr ⟨lw_p33, List.forall_mem_cons.mpr ⟨lw_p34, List.forall_mem_cons.mpr ⟨lw_p35, List.forall_mem_cons.mpr ⟨lw_p36, List.forall_mem_cons.mpr ⟨lw_p37, List.forall_mem_cons.mpr ⟨lw_p38, List.forall_mem_cons.mpr ⟨lw_p39, List.forall_mem_cons.mpr ⟨lw_p40, List.forall_mem_cons.mpr ⟨lw_p41, List.forall_mem_cons.mpr ⟨lw_p42, List.forall_mem_cons.mpr ⟨lw_p43, List.forall_mem_cons.mpr ⟨lw_p44, List.forall_mem_cons.mpr ⟨lw_p45, List.forall_mem_cons.mpr ⟨lw_p46, List.forall_mem_cons.mpr ⟨lw_p47, fun _ h => absurd h List.not_mem_nil⟩⟩⟩⟩⟩⟩⟩⟩⟩⟩⟩⟩⟩⟩⟩⟩
theorem lw_p48 : lw_okq (⟨"DragonRingModel", "tells", "()Z"⟩, 10) := ⟨⟨by decide +kernel, by decide +kernel⟩, List.mem_of_getElem? (i := 1168) (by decide +kernel), List.mem_of_getElem? (i := 1466) (by decide +kernel), List.mem_of_getElem? (i := 1467) (by decide +kernel)⟩
theorem lw_p49 : lw_okq (⟨"DragonRingModel", "part", "()I"⟩, 10) := ⟨⟨by decide +kernel, by decide +kernel⟩, List.mem_of_getElem? (i := 1168) (by decide +kernel), List.mem_of_getElem? (i := 1470) (by decide +kernel), List.mem_of_getElem? (i := 1471) (by decide +kernel)⟩
theorem lw_p50 : lw_okq (⟨"DragonRingModel", "doesAll", "()I"⟩, 10) := ⟨⟨by decide +kernel, by decide +kernel⟩, List.mem_of_getElem? (i := 1168) (by decide +kernel), List.mem_of_getElem? (i := 1481) (by decide +kernel), List.mem_of_getElem? (i := 1482) (by decide +kernel)⟩
theorem lw_p51 : lw_okq (⟨"DragonRingModel", "plain", "(I)I"⟩, 10) := ⟨⟨by decide +kernel, by decide +kernel⟩, List.mem_of_getElem? (i := 1168) (by decide +kernel), List.mem_of_getElem? (i := 1505) (by decide +kernel), List.mem_of_getElem? (i := 1506) (by decide +kernel)⟩
theorem lw_p52 : lw_okq (⟨"DragonRingModel", "endsUntil", "(I)I"⟩, 10) := ⟨⟨by decide +kernel, by decide +kernel⟩, List.mem_of_getElem? (i := 1168) (by decide +kernel), List.mem_of_getElem? (i := 1529) (by decide +kernel), List.mem_of_getElem? (i := 1530) (by decide +kernel)⟩
theorem lw_p53 : lw_okq (⟨"DragonRingModel", "longest", "()I"⟩, 10) := ⟨⟨by decide +kernel, by decide +kernel⟩, List.mem_of_getElem? (i := 1168) (by decide +kernel), List.mem_of_getElem? (i := 1549) (by decide +kernel), List.mem_of_getElem? (i := 1550) (by decide +kernel)⟩
theorem lw_p54 : lw_okq (⟨"DragonRingModel", "words", "()I"⟩, 10) := ⟨⟨by decide +kernel, by decide +kernel⟩, List.mem_of_getElem? (i := 1168) (by decide +kernel), List.mem_of_getElem? (i := 1557) (by decide +kernel), List.mem_of_getElem? (i := 1558) (by decide +kernel)⟩
theorem lw_p55 : lw_okq (⟨"DragonRingModel", "isHoard", "(I)Z"⟩, 10) := ⟨⟨by decide +kernel, by decide +kernel⟩, List.mem_of_getElem? (i := 1168) (by decide +kernel), List.mem_of_getElem? (i := 1577) (by decide +kernel), List.mem_of_getElem? (i := 1578) (by decide +kernel)⟩
theorem lw_p56 : lw_okq (⟨"DragonRingModel", "sum", "()I"⟩, 10) := ⟨⟨by decide +kernel, by decide +kernel⟩, List.mem_of_getElem? (i := 1168) (by decide +kernel), List.mem_of_getElem? (i := 1605) (by decide +kernel), List.mem_of_getElem? (i := 1606) (by decide +kernel)⟩
theorem lw_p57 : lw_okq (⟨"DragonRingModel", "heavy", "()I"⟩, 10) := ⟨⟨by decide +kernel, by decide +kernel⟩, List.mem_of_getElem? (i := 1168) (by decide +kernel), List.mem_of_getElem? (i := 1613) (by decide +kernel), List.mem_of_getElem? (i := 1614) (by decide +kernel)⟩
theorem lw_p58 : lw_okq (⟨"DragonRingModel", "hashOfScroll", "()J"⟩, 10) := ⟨⟨by decide +kernel, by decide +kernel⟩, List.mem_of_getElem? (i := 1168) (by decide +kernel), List.mem_of_getElem? (i := 1645) (by decide +kernel), List.mem_of_getElem? (i := 1646) (by decide +kernel)⟩
def lw_privs_4 : List (MethodName × Nat) := [(⟨"DragonRingModel", "tells", "()Z"⟩, 10), (⟨"DragonRingModel", "part", "()I"⟩, 10), (⟨"DragonRingModel", "doesAll", "()I"⟩, 10), (⟨"DragonRingModel", "plain", "(I)I"⟩, 10), (⟨"DragonRingModel", "endsUntil", "(I)I"⟩, 10), (⟨"DragonRingModel", "longest", "()I"⟩, 10), (⟨"DragonRingModel", "words", "()I"⟩, 10), (⟨"DragonRingModel", "isHoard", "(I)Z"⟩, 10), (⟨"DragonRingModel", "sum", "()I"⟩, 10), (⟨"DragonRingModel", "heavy", "()I"⟩, 10), (⟨"DragonRingModel", "hashOfScroll", "()J"⟩, 10)]
theorem lw_r4 : ∀ q ∈ lw_privs_4, lw_okq q := List.forall_mem_cons.mpr ⟨lw_p48, List.forall_mem_cons.mpr ⟨lw_p49, List.forall_mem_cons.mpr ⟨lw_p50, List.forall_mem_cons.mpr ⟨lw_p51, List.forall_mem_cons.mpr ⟨lw_p52, List.forall_mem_cons.mpr ⟨lw_p53, List.forall_mem_cons.mpr ⟨lw_p54, List.forall_mem_cons.mpr ⟨lw_p55, List.forall_mem_cons.mpr ⟨lw_p56, List.forall_mem_cons.mpr ⟨lw_p57, List.forall_mem_cons.mpr ⟨lw_p58, fun _ h => absurd h List.not_mem_nil⟩⟩⟩⟩⟩⟩⟩⟩⟩⟩⟩
def lw_privs : List (MethodName × Nat) := lw_privs_1 ++ (lw_privs_2 ++ (lw_privs_3 ++ (lw_privs_4)))
def lw_tbl : List Cond := k2_sels lw_privs ++ tables_1
theorem lw_privs_ok : ∀ q ∈ lw_privs, lw_okq q := by
  show ∀ q ∈ lw_privs_1 ++ (lw_privs_2 ++ (lw_privs_3 ++ (lw_privs_4))), lw_okq q
  exact List.forall_mem_append.mpr ⟨lw_r1, List.forall_mem_append.mpr ⟨lw_r2, List.forall_mem_append.mpr ⟨lw_r3, lw_r4⟩⟩⟩
/-- the streams that the claim lets the run draw from -/
abbrev lw_cs : List Choice := [Jvm.Choice.named "NaN.bits"]
theorem lw_bits : nanBits ∈ lw_cs := by first | decide | exact List.mem_cons_self | simp [lw_cs, nanBits]
-- ===== end of PART A
/-! ===== BEGIN words of one list among another's, by their places ===== -/
theorem goodIn_r {big : List Cond} (ws : List Cond) (ps : List Nat) (hp : ws = ps.filterMap (fun i => big[i]?)) (h : ws.all goodWord = true) : GoodIn big ws := by
  intro w hw
  have h1 := List.all_eq_true.mp h w hw
  rw [hp] at hw
  obtain ⟨i, -, hi⟩ := List.mem_filterMap.mp hw
  have hm : w ∈ big := by first | exact List.mem_of_getElem? hi | exact List.getElem?_mem hi
  exact ⟨hm, good_of_word h1⟩
theorem goodIn_app {big a b : List Cond} (ha : GoodIn big a) (hb : GoodIn big b) : GoodIn big (a ++ b) := fun w h => (List.mem_append.mp h).elim (ha w) (hb w)
theorem goodIn_ca {big a b : List Cond} {c : Cond} (ha : GoodIn big (c :: a)) (hb : GoodIn big b) : GoodIn big (c :: (a ++ b)) := fun w h => (List.mem_cons.mp h).elim (fun e => ha w (List.mem_cons.mpr (Or.inl e))) (fun h => (List.mem_append.mp h).elim (fun h => ha w (List.mem_cons.mpr (Or.inr h))) (hb w))
theorem goodIn_sub {big ws : List Cond} (hm : ∀ w ∈ ws, w ∈ big) (h : ws.all goodWord = true) : GoodIn big ws := fun w hw => ⟨hm w hw, good_of_word (List.all_eq_true.mp h w hw)⟩
/-! ===== END ===== -/

/-! ===== BEGIN exceptions that leave a method, and their catching by the caller (launches without stack traces) ===== -/
section VXA
/-! The laws vx_back, vx_callV, vx_callS, vx_callSW, vx_throw0, vx_throwS follow proofs of the library, with one case more: JvmDerived/Free/Laws.lean (Back.of_free), Shelf42/LK1.lean (callV, callS), Shelf/KitTraced.lean (throwNew0V, throwNewS). -/
/-- where a method has thrown q: the class by its name, the cell, what was written, the world -/
def vx_T (XC : String → State → State → Prop) (st : State) (q : Addr) (t : State) (mc ms : Nat) (free : Addr → Prop) : Prop :=
  ∃ (E : String) (ce : Cell) (L : List Loc), XC E st t ∧ t.heap[q]? = some ce ∧ ce.vm = .none ∧ st.vm.findClass E = some ce.cls ∧ st.WarmedH t.vm ∧ st.sameButNew ({ t with vm := st.vm } : State) L mc ms ∧ ∀ z ∈ L, free z.base
def vx_Q (Qc : Array Value → State → Outcome → State → Prop) (XC : String → State → State → Prop) (mc ms : Nat) (free : Addr → Prop) : Array Value → State → Outcome → State → Prop := fun a st o t =>
  (Qc a st o t ∧ ∃ L, FrameEnd st o t L mc ms ∧ ∀ q ∈ L, free q.base) ∨ ∃ q, o = .threw q ∧ vx_T XC st q t mc ms free
/-- a callee that returns or throws -/
def vx_Met (l : Launch) (y : MethodName) (ws : List Cond) (rm : Room) (Pc : Array Value → State → Prop) (Qc : Array Value → State → Outcome → State → Prop) (XC : String → State → State → Prop) (mc ms : Nat) (free : Addr → Prop) : Prop :=
  MetFree l y (headSpec ws rm) Pc (fun _ _ _ _ _ => True) (vx_Q Qc XC mc ms free)
def vx_Post (XC : String → State → State → Prop) (mc ms : Nat) (free : Addr → Prop) : Pt → Array Value → Addr → Pt → Prop := fun A a q B =>
  ∃ (g : JFrame) (mk : MethodId) (t : State) (L : List Loc) (E : String) (ce : Cell), B.U.heap = t.heap ∧ B.U.vm = t.vm ∧ XC E (A.U.calling g mk a) t ∧ t.heap[q]? = some ce ∧ ce.vm = .none ∧ A.U.vm.findClass E = some ce.cls ∧ B.locs = A.locs ++ L ∧ (∀ z ∈ L, free z.base) ∧ B.cells = A.cells + mc ∧ B.slots = A.slots + ms
def vx_Back (l : Launch) (R : Room) (p : Program) (e : Env) (below : List Frame) (s : State) (sargs : Array Value) (y : MethodName) (len W9 : Nat)
    (Pre : Pt → Array Value → Prop) (Post : Pt → Array Value → Option Value → Pt → Prop) (PostX : Pt → Array Value → Addr → Pt → Prop) : Prop :=
  ∀ (m : MethodId) (meth : Method) (c : Code) (A : Pt) (g : JFrame) (ig : Instr) (mk : MethodId) (a : Array Value),
    Stand p l e R s m sargs below meth c A.U A.locs A.cells A.slots → g.method = m → g.locals.size = c.maxLocals → decode c.code g.pc = .ok (ig, len) →
    2 * g.monitorRoom + (g.stack.map fun v => v.category).sum ≤ W9 → A.U.methodNamed? y = some mk → Pre A a →
    (∃ (v : Option Value) (B : Pt), Stand p l e R s m sargs below meth c B.U B.locs B.cells B.slots ∧ Post A a v B ∧
      Steps p.tables e below (doInvoke e (A.U.setTop g) [] mk a).1 (B.U.setTop { g with pc := g.pc + len, stack := v.toList ++ g.stack })) ∨
    (∃ (q : Addr) (B : Pt), Stand p l e R s m sargs below meth c B.U B.locs B.cells B.slots ∧ PostX A a q B ∧
      Steps p.tables e below (doInvoke e (A.U.setTop g) [] mk a).1 ((B.U.setTop g).pushFrame (.throwing q)))
section Payer
variable {l : Launch} {R : Room} {p : Program} {e : Env} {below : List Frame} {s : State} {sargs : Array Value} {y : MethodName} {len W9 : Nat}
theorem vx_back {ws : List Cond} {rm : Room} {Pc : Array Value → State → Prop} {Qc : Array Value → State → Outcome → State → Prop} {XC : String → State → State → Prop} {mc ms : Nat} {free : Addr → Prop} {bytes : ByteArray} {maxL : Nat} {ret : Option FieldType}
    (hM : vx_Met l y ws rm Pc Qc XC mc ms free) (hblind : FrameBlind Pc) (hrc : rm.cells = mc) (hrs : rm.slots = ms)
    (hframes : rm.frames + 1 ≤ R.frames) (hlocals : W9 + (maxL + 11) + rm.locals ≤ R.locals)
    (hws : ∀ w ∈ ws, ∀ a' U, s.WarmedH U.vm → w.before a' U = true) (hcode : Cond.code y bytes maxL ret ∈ ws) (hinit : ∀ a' U, s.WarmedH U.vm → (Cond.initialized y.cls).before a' U = true) :
    vx_Back l R p e below s sargs y len W9 (PreOf R mc ms Pc) (PostOf Qc mc ms free) (vx_Post XC mc ms free) := by
  intro m meth c A g ig mk a X hg hsize hdg hW hn hp
  have h1 : (headSpec ws rm).pre.before a A.U = true := atoms_intro fun w hw => hws w hw _ _ X.warmed
  have h2 : (Cond.code y bytes maxL ret).before a A.U = true := hws _ hcode _ _ X.warmed
  have h3 : (Cond.initialized y.cls).before a A.U = true := hinit _ _ X.warmed
  have h4 : A.cells + (headSpec ws rm).room.cells ≤ R.cells := by rw [show (headSpec ws rm).room.cells = mc from hrc]; exact hp.1
  have h5 : A.slots + (headSpec ws rm).room.slots ≤ R.slots := by rw [show (headSpec ws rm).room.slots = ms from hrs]; exact hp.2.1
  have hPc : Pc a (A.U.calling g mk a) := hblind _ _ _ _ hp.2.2
  obtain ⟨U, Ls, c0, s0⟩ := A
  dsimp only [Pt.U, Pt.locs, Pt.cells, Pt.slots] at h1 h2 h3 h4 h5 X hn hPc ⊢
  obtain ⟨methY, cY, hmY, hcY, -, hlY, -, -, -, -⟩ := Cond.code_spec hn h2
  obtain ⟨kY, hkY, -⟩ := className_of_methodNamed hn
  have hinitY : kY.init = .initialized := Cond.initialized_spec (findClass_of_methodNamed hn) hkY h3
  have h : At U g.method c below := by rw [hg]; exact X.here
  have hlocals9 : W9 + (maxL + 11) + (headSpec ws rm).room.locals ≤ R.locals := hlocals
  have happ : (headSpec ws rm).appliesLoose y e.platform (U.calling g mk a) = true :=
    Spec.appliesLoose_calling (g := g) h hdg hn hkY hinitY
      (X.room_calling (g := g) (R' := (headSpec ws rm).room) hsize hmY hcY hframes (by rw [hlY]; omega) h4 h5) h1
  obtain ⟨mid, hmid⟩ := h.above
  have hfr : (U.setTop g).frames = (.java g :: mid) ++ below := by rw [State.frames_setTop' g h.top, hmid]; rfl
  obtain ⟨o, s₂, hsteps, -, hend, hq⟩ := Steps.callFree hM p X.admits X.cas X.clock (acts := []) hfr happ hPc trivial
  have hq' : vx_Q Qc XC mc ms free a (U.calling g mk a) o s₂ := hq
  rw [State.frames_setTop' g h.top] at hend
  obtain ⟨g₀, hg0⟩ := Option.isSome_iff_exists.mp h.top
  obtain ⟨r, hr⟩ := State.topJava?_eq_some.mp hg0
  have hr' : (({ U with heap := s₂.heap, slotsUsed := s₂.slotsUsed } : State).setVm s₂.vm).frames = .java g₀ :: r := hr
  rcases hq' with ⟨hqc, L, hfe, hL⟩ | ⟨q, rfl, E, ce, L, hx, hce, hcv, hcl, hW₂, hsm, hL⟩
  · obtain ⟨⟨v, rfl⟩, hW₂, e2, q2, q3, q4, q5, q6⟩ := id hfe
    have e3 : s₂ = ({ (U.calling g mk a).setFrames s₂.frames with heap := s₂.heap, slotsUsed := s₂.slotsUsed } : State).setVm s₂.vm := by
      have : s₂ = ({ s₂ with vm := (U.calling g mk a).vm } : State).setVm s₂.vm := rfl
      rw [e2] at this
      exact this
    obtain ⟨c₂, i₂, len₂, hc₂, hd₂, hf₂⟩ := hend
    have hW' : U.WarmedH s₂.vm := hW₂
    have hcc : c₂ = c := by
      have h1 : s₂.code? g.method = U.code? g.method := by
        rw [State.code?_eq, State.code?_eq, hW'.alike.method?]
      exact Option.some.inj (hc₂.symm.trans (h1.trans h.code))
    subst hcc
    have hlen : len₂ = len := by rw [hdg] at hd₂; cases hd₂; rfl
    subst hlen
    have hs₂ : s₂ = (({ U with heap := s₂.heap, slotsUsed := s₂.slotsUsed } : State).setVm s₂.vm).setTop { g with pc := g.pc + len₂, stack := v.toList ++ g.stack } := by
      refine e3.trans ?_
      rw [hf₂, State.calling_eq h.top, State.setFrames_setFrames, State.setTop_of_frames _ hr', hr]
      rfl
    have hsame : U.sameButNew ({ U with heap := s₂.heap, slotsUsed := s₂.slotsUsed } : State) L mc ms := by
      refine ⟨?_, q2, q3, q4, q5, q6⟩
      obtain ⟨t, ht, -⟩ := State.frames_cons hr
      show ({ U with heap := s₂.heap, slotsUsed := s₂.slotsUsed } : State) = { U.setFrames U.frames with heap := s₂.heap, slotsUsed := s₂.slotsUsed }
      rw [State.setFrames_self ht]
    subst hg
    refine Or.inl ⟨v, ⟨(({ U with heap := s₂.heap, slotsUsed := s₂.slotsUsed } : State).setVm s₂.vm), Ls ++ L, c0 + mc, s0 + ms⟩,
      ⟨X.admits, X.cas, X.clock, X.frames, X.room, X.hears, X.method, X.code, (X.here.setHeapUsed s₂.heap s₂.slotsUsed).setVm hW'.alike, X.tail, State.WarmedH.trans X.warmed hW', X.limits, X.bytes, X.same.trans (hsame.setVm s.vm)⟩,
      ⟨g, mk, s₂, L, rfl, rfl, hqc, rfl, hL, rfl, rfl⟩, ?_⟩
    show Steps p.tables e below _ ((({ U with heap := s₂.heap, slotsUsed := s₂.slotsUsed } : State).setVm s₂.vm).setTop { g with pc := g.pc + len₂, stack := v.toList ++ g.stack })
    rw [← hs₂]
    exact hsteps
  · obtain ⟨e2, q2, q3, q4, q5, q6⟩ := id hsm
    have e3 : s₂ = ({ (U.calling g mk a).setFrames s₂.frames with heap := s₂.heap, slotsUsed := s₂.slotsUsed } : State).setVm s₂.vm := by
      have : s₂ = ({ s₂ with vm := (U.calling g mk a).vm } : State).setVm s₂.vm := rfl
      rw [e2] at this
      exact this
    have hf₂ : s₂.frames = .throwing q :: .java g :: U.frames.tail := hend
    have hW' : U.WarmedH s₂.vm := hW₂
    have hs₂ : s₂ = ((({ U with heap := s₂.heap, slotsUsed := s₂.slotsUsed } : State).setVm s₂.vm).setTop g).pushFrame (.throwing q) := by
      refine e3.trans ?_
      rw [hf₂, State.calling_eq h.top, State.setFrames_setFrames, State.pushFrame, State.frames_setTop _ hr', State.setTop_of_frames _ hr', State.setFrames_setFrames, hr]
      rfl
    have hsame : U.sameButNew ({ U with heap := s₂.heap, slotsUsed := s₂.slotsUsed } : State) L mc ms := by
      refine ⟨?_, q2, q3, q4, q5, q6⟩
      obtain ⟨t, ht, -⟩ := State.frames_cons hr
      show ({ U with heap := s₂.heap, slotsUsed := s₂.slotsUsed } : State) = { U.setFrames U.frames with heap := s₂.heap, slotsUsed := s₂.slotsUsed }
      rw [State.setFrames_self ht]
    subst hg
    refine Or.inr ⟨q, ⟨(({ U with heap := s₂.heap, slotsUsed := s₂.slotsUsed } : State).setVm s₂.vm), Ls ++ L, c0 + mc, s0 + ms⟩,
      ⟨X.admits, X.cas, X.clock, X.frames, X.room, X.hears, X.method, X.code, (X.here.setHeapUsed s₂.heap s₂.slotsUsed).setVm hW'.alike, X.tail, State.WarmedH.trans X.warmed hW', X.limits, X.bytes, X.same.trans (hsame.setVm s.vm)⟩,
      ⟨g, mk, s₂, L, E, ce, rfl, rfl, hx, hce, hcv, hcl, rfl, hL, rfl, rfl⟩, ?_⟩
    show Steps p.tables e below _ (((({ U with heap := s₂.heap, slotsUsed := s₂.slotsUsed } : State).setVm s₂.vm).setTop g).pushFrame (.throwing q))
    rw [← hs₂]
    exact hsteps
end Payer
section Calls
variable {p : Program} {l : Launch} {e : Env} {R : Room} {s : State} {m : MethodId} {args : Array Value} {below : List Frame} {meth : Method} {c : Code} {T : State} {locs : List Loc} {cells slots : Nat}
theorem vx_callV (X : Stand p l e R s m args below meth c T locs cells slots) (hexec : p.tables.exec = Jvm.exec) {own C : String} {index : Nat} {y : MethodName} {bytes : ByteArray} {maxL : Nat} {ret : Option FieldType}
    (hown : s.vm.findClass own = some m.cls) (hlink : (Cond.methodLink own index y).before args s = true) (hinst : (Cond.instanceMethod y).before args s = true) (hsel : (Cond.selects C y y).before args s = true)
    (hcode : (Cond.code y bytes maxL ret).before args s = true) (hy : y.cls ≠ "java/lang/invoke/MethodHandle" ∧ y.cls ≠ "java/lang/invoke/VarHandle")
    {W9 : Nat} {Pre : Pt → Array Value → Prop} {Post : Pt → Array Value → Option Value → Pt → Prop} {PostX : Pt → Array Value → Addr → Pt → Prop} (hK : vx_Back l R p e below s args y 3 W9 Pre Post PostX)
    {b : Addr} {cellB : Cell} (hcell : T.heap[b]? = some cellB) (hobj : cellB.vm.isStatics = false) (hcls : s.vm.findClass C = some cellB.cls)
    {g : JFrame} (hg : g.method = m) (hsize : g.locals.size = c.maxLocals) {argsL rest : List Value} (hlen : ∀ sig, parseMethodDescriptor y.desc = some sig → argsL.length = sig.parameters.length)
    (hstack : g.stack = argsL.reverse ++ .ref b :: rest) (hW : 2 * g.monitorRoom + (rest.map fun v => v.category).sum ≤ W9) (hdg : decode c.code g.pc = .ok (.invokevirtual index, 3))
    (hpre : ∀ vm₁, s.WarmedH vm₁ → Pre ⟨T.setVm vm₁, locs, cells, slots⟩ (Value.ref b :: argsL).toArray) :
    (∃ (v : Option Value) (vm₁ : Vm) (B : Pt), s.WarmedH vm₁ ∧ Stand p l e R s m args below meth c B.U B.locs B.cells B.slots ∧ Post ⟨T.setVm vm₁, locs, cells, slots⟩ (Value.ref b :: argsL).toArray v B ∧
      ∀ target, Steps p.tables e below (B.U.setTop { g with pc := g.pc + 3, stack := v.toList ++ rest }) target → Steps p.tables e below (T.setTop g) target) ∨
    (∃ (q : Addr) (vm₁ : Vm) (B : Pt), s.WarmedH vm₁ ∧ Stand p l e R s m args below meth c B.U B.locs B.cells B.slots ∧ PostX ⟨T.setVm vm₁, locs, cells, slots⟩ (Value.ref b :: argsL).toArray q B ∧
      Steps p.tables e below (T.setTop g) ((B.U.setTop { g with stack := rest }).pushFrame (.throwing q))) := by
  obtain ⟨mk, methM, hnamed, hmethM, hstM, habM⟩ := Cond.instanceMethod_spec hinst
  obtain ⟨methM', cM, hmethM', -, -, -, -, -, -, hsigM⟩ := Cond.code_spec hnamed hcode
  cases hmethM.symm.trans hmethM'
  obtain ⟨c2, r2, m2, q1, q2, q3, q4, kP, hkP, hkPi⟩ := Cond.selects_spec hsel
  cases hcls.symm.trans q1
  cases (State.methodFound?_of_named hnamed hy).symm.trans q2
  cases hnamed.symm.trans q3
  have hselP : selectMethod e.platform s.vm cellB.cls mk = .method mk := by rw [Launch.admits_selectMethod X.admits]; exact q4
  obtain ⟨vm₁, X₁, hstep₁⟩ := X.invokevirtual hexec hown hlink hnamed hmethM hstM hkP hkPi hy (a := b) (cell := cellB) hcell
    (fun z h => by rw [h] at hobj; cases hobj) hselP hmethM habM hkP hkPi (g := g) hg (argsL := argsL) (rest := rest) (hlen _ hsigM) hstack hdg
  rcases hK m meth c ⟨T.setVm vm₁, locs, cells, slots⟩ { g with stack := rest } (.invokevirtual index) mk (Value.ref b :: argsL).toArray X₁ hg hsize hdg hW (X₁.named hnamed) (hpre vm₁ X₁.warmed) with ⟨v, B, X', hpost, hsteps⟩ | ⟨q, B, X', hpost, hsteps⟩
  · exact Or.inl ⟨v, vm₁, B, X₁.warmed, X', hpost, fun target h => hstep₁ _ fun acts => by rw [doInvoke_state]; exact hsteps.trans h⟩
  · exact Or.inr ⟨q, vm₁, B, X₁.warmed, X', hpost, hstep₁ _ fun acts => by rw [doInvoke_state]; exact hsteps⟩
theorem vx_callS (X : Stand p l e R s m args below meth c T locs cells slots) (hexec : p.tables.exec = Jvm.exec) {own : String} {index : Nat} {y : MethodName} {bytes : ByteArray} {maxL : Nat} {ret : Option FieldType}
    (hown : s.vm.findClass own = some m.cls) (hlink : (Cond.methodLink own index y).before args s = true) (hstat : (Cond.static y).before args s = true) (hinit : (Cond.initialized y.cls).before args s = true)
    (hcode : (Cond.code y bytes maxL ret).before args s = true) (hy : y.cls ≠ "java/lang/invoke/MethodHandle" ∧ y.cls ≠ "java/lang/invoke/VarHandle")
    {W9 : Nat} {Pre : Pt → Array Value → Prop} {Post : Pt → Array Value → Option Value → Pt → Prop} {PostX : Pt → Array Value → Addr → Pt → Prop} (hK : vx_Back l R p e below s args y 3 W9 Pre Post PostX)
    {g : JFrame} (hg : g.method = m) (hsize : g.locals.size = c.maxLocals) {argsL rest : List Value} (hlen : ∀ sig, parseMethodDescriptor y.desc = some sig → argsL.length = sig.parameters.length)
    (hstack : g.stack = argsL.reverse ++ rest) (hW : 2 * g.monitorRoom + (rest.map fun v => v.category).sum ≤ W9) (hdg : decode c.code g.pc = .ok (.invokestatic index, 3))
    (hpre : ∀ vm₁, s.WarmedH vm₁ → Pre ⟨T.setVm vm₁, locs, cells, slots⟩ argsL.toArray) :
    (∃ (v : Option Value) (vm₁ : Vm) (B : Pt), s.WarmedH vm₁ ∧ Stand p l e R s m args below meth c B.U B.locs B.cells B.slots ∧ Post ⟨T.setVm vm₁, locs, cells, slots⟩ argsL.toArray v B ∧
      ∀ target, Steps p.tables e below (B.U.setTop { g with pc := g.pc + 3, stack := v.toList ++ rest }) target → Steps p.tables e below (T.setTop g) target) ∨
    (∃ (q : Addr) (vm₁ : Vm) (B : Pt), s.WarmedH vm₁ ∧ Stand p l e R s m args below meth c B.U B.locs B.cells B.slots ∧ PostX ⟨T.setVm vm₁, locs, cells, slots⟩ argsL.toArray q B ∧
      Steps p.tables e below (T.setTop g) ((B.U.setTop { g with stack := rest }).pushFrame (.throwing q))) := by
  obtain ⟨mk, hnamed⟩ := Cond.code_named hcode
  obtain ⟨methM, cM, hmethM, -, -, -, -, -, -, hsigM⟩ := Cond.code_spec hnamed hcode
  have hstatic : methM.isStatic = true := Cond.static_spec hnamed hmethM hstat
  obtain ⟨kP, hkP, -⟩ := className_of_methodNamed hnamed
  have hinitP : kP.init = .initialized := Cond.initialized_spec (findClass_of_methodNamed hnamed) hkP hinit
  obtain ⟨vm₁, X₁, hstep₁⟩ := X.invokestatic hexec hown hlink hnamed hmethM hstatic hkP hinitP hy (g := g) hg (argsL := argsL) (rest := rest) (hlen _ hsigM) hstack hdg
  rcases hK m meth c ⟨T.setVm vm₁, locs, cells, slots⟩ { g with stack := rest } (.invokestatic index) mk argsL.toArray X₁ hg hsize hdg hW (X₁.named hnamed) (hpre vm₁ X₁.warmed) with ⟨v, B, X', hpost, hsteps⟩ | ⟨q, B, X', hpost, hsteps⟩
  · exact Or.inl ⟨v, vm₁, B, X₁.warmed, X', hpost, fun target h => hstep₁ _ fun acts => by rw [doInvoke_state]; exact hsteps.trans h⟩
  · exact Or.inr ⟨q, vm₁, B, X₁.warmed, X', hpost, hstep₁ _ fun acts => by rw [doInvoke_state]; exact hsteps⟩
end Calls
theorem vx_cls {s : State} {T : State} {vm₁ : Vm} {E : String} {k : ClassId} (hW : s.WarmedH vm₁) (h : (T.setVm vm₁).vm.findClass E = some k) : s.vm.findClass E = some k := by
  have h1 : vm₁.findClass E = some k := h
  rw [hW.alike.findClass] at h1
  exact h1
/-- the method's frame g, with q thrown over it -/
def vx_W (p : Program) (l : Launch) (e : Env) (R : Room) (s : State) (m : MethodId) (args : Array Value) (below : List Frame) (meth : Method) (c : Code) (H : Heap) (locs : List Loc) (cells slots : Nat) (Q : State → Prop) (g : JFrame) (q : Addr) : Prop :=
  ∀ T : State, T.heap = H → Stand p l e R s m args below meth c T locs cells slots → ∃ t, Steps p.tables e below ((T.setTop g).pushFrame (.throwing q)) t ∧ Q t
def vx_Run (p : Program) (l : Launch) (e : Env) (R : Room) (s : State) (m : MethodId) (args : Array Value) (below : List Frame) (meth : Method) (c : Code) (H : Heap) (locs : List Loc) (cells slots mc ms : Nat) (g : JFrame) (rest : List Value) (Qa : State → Outcome → State → Prop) (XC : String → State → State → Prop) (free : Addr → Prop) : Prop :=
  ∀ T : State, T.heap = H → Stand p l e R s m args below meth c T locs cells slots →
    (∃ (v : Option Value) (st₀ t T' : State) (L : List Loc), st₀.heap = H ∧ Stand p l e R s m args below meth c T' (locs ++ L) (cells + mc) (slots + ms) ∧ (∀ q ∈ L, free q.base) ∧ T'.heap = t.heap ∧ T'.vm = t.vm ∧ Qa st₀ (.returned v) t ∧
      Goes p e below T g T' { g with pc := g.pc + 3, stack := v.toList ++ rest }) ∨
    (∃ (q : Addr) (st₀ t T' : State) (L : List Loc) (E : String) (ce : Cell), st₀.heap = H ∧ Stand p l e R s m args below meth c T' (locs ++ L) (cells + mc) (slots + ms) ∧ (∀ z ∈ L, free z.base) ∧ T'.heap = t.heap ∧ T'.vm = t.vm ∧ XC E st₀ t ∧ t.heap[q]? = some ce ∧ ce.vm = .none ∧ s.vm.findClass E = some ce.cls ∧
      Steps p.tables e below (T.setTop g) ((T'.setTop { g with stack := rest }).pushFrame (.throwing q)))
def vx_X {S : Type} (px : S → Prop) (B : String → S → State → Prop) (A : Nat → Prop) : String → State → State → Prop := fun E st t => ∃ u : S, px u ∧ B E u t ∧ va_F A st t
section Runs
variable {p : Program} {l : Launch} {e : Env} {R : Room} {s : State} {m : MethodId} {args : Array Value} {below : List Frame} {meth : Method} {c : Code} {H : Heap} {locs : List Loc} {cells slots : Nat}
variable {y : MethodName} {bytes cc : ByteArray} {maxL nL mc ms n index : Nat} {ret : Option FieldType} {ws : List Cond} {rm : Room} {Pc : Array Value → State → Prop} {Qc : Array Value → State → Outcome → State → Prop} {XC : String → State → State → Prop} {free : Addr → Prop} {Ts : List Cond} {own C : String} {b : Addr} {As rest : List Value} {g : JFrame}
theorem vx_callBack (cb : CallB R s args own index y bytes maxL ret ws rm mc ms n) (hM : vx_Met l y ws rm Pc Qc XC mc ms free) (hbl : FrameBlind Pc) : vx_Back l R p e below s args y 3 8 (PreOf R mc ms Pc) (PostOf Qc mc ms free) (vx_Post XC mc ms free) := by
  obtain ⟨hrc, hrs, hfr, hlo, hws, hcw, -, hini, -⟩ := cb
  exact vx_back (bytes := bytes) (maxL := maxL) (ret := ret) hM hbl hrc hrs hfr hlo hws hcw (fun a' U hW => word_at hW (Or.inl (by first | rfl | simp [Cond.onTables, Cond.keeps, Cond.steady])) hini)
theorem vx_runV (S : CallFix p m c cc nL s args Ts own) (hM : vx_Met l y ws rm Pc Qc XC mc ms free) (cw : CallW R s args own C index y bytes maxL ret ws rm mc ms n) (hp : PreV s H C b Pc As)
    (hg : g.method = m) (hn : As.length = n) (hsize : g.locals.size = nL) (hstack : g.stack = As.reverse ++ .ref b :: rest) (hW : 2 * g.monitorRoom + (rest.map fun v => v.category).sum ≤ 8) (hdg : decode cc g.pc = .ok (.invokevirtual index, 3)) (hf : cells + mc ≤ R.cells ∧ slots + ms ≤ R.slots) :
    vx_Run p l e R s m args below meth c H locs cells slots mc ms g rest (Qc (Value.ref b :: As).toArray) XC free := by
  have hK : vx_Back l R p e below s args y 3 8 (PreOf R mc ms Pc) (PostOf Qc mc ms free) (vx_Post XC mc ms free) := vx_callBack cw.1 hM hp.1
  obtain ⟨⟨-, -, -, -, -, -, hcode, -, hy, hlen, hl⟩, hin, hse⟩ := cw
  obtain ⟨hx, hb, hml, ho, -⟩ := S
  obtain ⟨-, ⟨cellB, hcB, hoB, hclB⟩, hPc⟩ := hp
  intro T hT X
  rcases vx_callV X hx (C := C) (bytes := bytes) (maxL := maxL) (ret := ret) ho hl hin hse hcode hy hK (by rw [hT]; exact hcB) hoB hclB hg (hsize.trans hml.symm) (argsL := As) (rest := rest) (fun sig h => hn.trans (hlen sig h)) hstack hW (by rw [hb]; exact hdg)
    (fun vm₁ hW₁ => ⟨hf.1, hf.2, hPc (T.setVm vm₁) hT hW₁⟩) with ⟨v, vm₁, ⟨U', l2, c2, s2⟩, hW₁, X', ⟨g', mk, t, L, e1, e2, hq, h1, hL, h2, h3⟩, st⟩ | ⟨q, vm₁, ⟨U', l2, c2, s2⟩, hW₁, X', ⟨g', mk, t, L, E, ce, e1, e2, hq, hce, hcv, hcl, h1, hL, h2, h3⟩, st⟩
  · dsimp only [Pt.U, Pt.locs, Pt.cells, Pt.slots] at X' e1 e2 h1 h2 h3 st
    subst h1; subst h2; subst h3
    exact Or.inl ⟨v, (T.setVm vm₁).calling g' mk (Value.ref b :: As).toArray, t, U', L, hT, X', hL, e1, e2, hq, st⟩
  · dsimp only [Pt.U, Pt.locs, Pt.cells, Pt.slots] at X' e1 e2 h1 h2 h3 st hcl
    subst h1; subst h2; subst h3
    exact Or.inr ⟨q, (T.setVm vm₁).calling g' mk (Value.ref b :: As).toArray, t, U', L, E, ce, hT, X', hL, e1, e2, hq, hce, hcv, vx_cls hW₁ hcl, st⟩
theorem vx_runS (S : CallFix p m c cc nL s args Ts own) (hM : vx_Met l y ws rm Pc Qc XC mc ms free) (cw : CallB R s args own index y bytes maxL ret ws rm mc ms n ∧ (Cond.static y).before args s = true) (hp : PreS s H Pc As)
    (hg : g.method = m) (hn : As.length = n) (hsize : g.locals.size = nL) (hstack : g.stack = As.reverse ++ rest) (hW : 2 * g.monitorRoom + (rest.map fun v => v.category).sum ≤ 8) (hdg : decode cc g.pc = .ok (.invokestatic index, 3)) (hf : cells + mc ≤ R.cells ∧ slots + ms ≤ R.slots) :
    vx_Run p l e R s m args below meth c H locs cells slots mc ms g rest (Qc As.toArray) XC free := by
  have hK : vx_Back l R p e below s args y 3 8 (PreOf R mc ms Pc) (PostOf Qc mc ms free) (vx_Post XC mc ms free) := vx_callBack cw.1 hM hp.1
  obtain ⟨⟨-, -, -, -, -, -, hcode, hini, hy, hlen, hl⟩, hstt⟩ := cw
  obtain ⟨hx, hb, hml, ho, -⟩ := S
  intro T hT X
  rcases vx_callS X hx (bytes := bytes) (maxL := maxL) (ret := ret) ho hl hstt hini hcode hy hK hg (hsize.trans hml.symm) (argsL := As) (rest := rest) (fun sig h => hn.trans (hlen sig h)) hstack hW (by rw [hb]; exact hdg)
    (fun vm₁ hW₁ => ⟨hf.1, hf.2, hp.2 (T.setVm vm₁) hT hW₁⟩) with ⟨v, vm₁, ⟨U', l2, c2, s2⟩, hW₁, X', ⟨g', mk, t, L, e1, e2, hq, h1, hL, h2, h3⟩, st⟩ | ⟨q, vm₁, ⟨U', l2, c2, s2⟩, hW₁, X', ⟨g', mk, t, L, E, ce, e1, e2, hq, hce, hcv, hcl, h1, hL, h2, h3⟩, st⟩
  · dsimp only [Pt.U, Pt.locs, Pt.cells, Pt.slots] at X' e1 e2 h1 h2 h3 st
    subst h1; subst h2; subst h3
    exact Or.inl ⟨v, (T.setVm vm₁).calling g' mk As.toArray, t, U', L, hT, X', hL, e1, e2, hq, st⟩
  · dsimp only [Pt.U, Pt.locs, Pt.cells, Pt.slots] at X' e1 e2 h1 h2 h3 st hcl
    subst h1; subst h2; subst h3
    exact Or.inr ⟨q, (T.setVm vm₁).calling g' mk As.toArray, t, U', L, E, ce, hT, X', hL, e1, e2, hq, hce, hcv, vx_cls hW₁ hcl, st⟩
end Runs
section Rows
variable {p : Program} {l : Launch} {e : Env} {R : Room} {s : State} {m : MethodId} {args : Array Value} {below : List Frame} {meth : Method} {c : Code} {H : Heap} {locs : List Loc} {cells slots : Nat} {Q : State → Prop}
variable {mc ms : Nat} {free : Addr → Prop} {A0 A1 : Nat → Prop} {H0 : Heap} {a : Array Value} {pc : Nat} {ls : Array Slot} {st0 rest : List Value}
theorem vx_keep {st₀ t T' : State} {L : List Loc} (h0 : st₀.heap = H) (e1 : T'.heap = t.heap) (hS : va_S A0 H0 H locs) (hA : ∀ q, q < H.size → A1 q → A0 q) (hf : ∀ q, free q → A0 q) (hL : ∀ q ∈ L, free q.base) (hF : va_F A1 st₀ t) :
    H.size ≤ T'.heap.size ∧ (∀ q : Nat, q < H.size → ¬ A1 q → T'.heap[q]? = H[q]?) ∧ va_S A0 H0 T'.heap (locs ++ L) := by
  obtain ⟨hz, hk⟩ := hF
  rw [h0] at hz hk
  exact ⟨by rw [e1]; exact hz, fun q h1 h2 => by rw [e1]; exact hk q h1 h2,
    ⟨Nat.le_trans hS.1 (by rw [e1]; exact hz), fun q h1 h2 => by rw [e1, hk q (Nat.lt_of_lt_of_le h1 hS.1) (fun z => h2 (hA q (Nat.lt_of_lt_of_le h1 hS.1) z))]; exact hS.2.1 q h1 h2, fun q hq => by
      rcases List.mem_append.mp hq with h | h
      · exact hS.2.2 q h
      · exact hf _ (hL q h)⟩⟩
theorem vx_calli {S SX : Type} {post : Int32 → S → Prop} {px : SX → Prop} {B : S → State → Prop} {BX : String → SX → State → Prop} {AX : Nat → Prop} (hr : vx_Run p l e R s m args below meth c H locs cells slots mc ms (F0 m pc ls st0) rest (va_Qi post B A1 a) (vx_X px BX AX) free) (hS : va_S A0 H0 H locs) (hA : ∀ q, q < H.size → A1 q → A0 q) (hf : ∀ q, free q → A0 q) (hAX : ∀ q, q < H.size → AX q → A0 q)
    (kx : ∀ (E : String) (ce : Cell) (q9 : Addr) (u : SX) (t : State) (H1 : Heap) (locs1 : List Loc), t.heap = H1 → s.vm.Alike t.vm → px u → BX E u t → H.size ≤ H1.size → (∀ q : Nat, q < H.size → ¬ AX q → H1[q]? = H[q]?) → va_S A0 H0 H1 locs1 → H1[q9]? = some ce → ce.vm = .none → s.vm.findClass E = some ce.cls → vx_W p l e R s m args below meth c H1 locs1 (cells + mc) (slots + ms) Q (F0 m pc ls rest) q9)
    (kk : ∀ (r : Int32) (u : S) (t : State) (H1 : Heap) (locs1 : List Loc), t.heap = H1 → s.vm.Alike t.vm → post r u → B u t → H.size ≤ H1.size → (∀ q : Nat, q < H.size → ¬ A1 q → H1[q]? = H[q]?) → va_S A0 H0 H1 locs1 → W p l e R s m args below meth c H1 locs1 (cells + mc) (slots + ms) Q (F0 m (pc + 3) ls (.int r :: rest))) : W p l e R s m args below meth c H locs cells slots Q (F0 m pc ls st0) := by
  intro T hT X
  rcases hr T hT X with ⟨v, st₀, t, T', L, h0, X', hL, e1, e2, ⟨⟨r, u, hv, hp, hb⟩, hF⟩, st⟩ | ⟨q, st₀, t, T', L, E, ce, h0, X', hL, e1, e2, ⟨u, hp, hb, hF⟩, hce, hcv, hcl, st⟩
  · cases hv
    obtain ⟨k1, k2, k3⟩ := vx_keep h0 e1 hS hA hf hL hF
    obtain ⟨t2, a1, b1⟩ := kk r u t T'.heap (locs ++ L) e1.symm (by rw [← e2]; exact X'.warmed.alike) hp hb k1 k2 k3 T' rfl X'
    exact ⟨t2, st t2 a1, b1⟩
  · obtain ⟨k1, k2, k3⟩ := vx_keep h0 e1 hS hAX hf hL hF
    obtain ⟨t2, a1, b1⟩ := kx E ce q u t T'.heap (locs ++ L) e1.symm (by rw [← e2]; exact X'.warmed.alike) hp hb k1 k2 k3 (by rw [e1]; exact hce) hcv hcl T' rfl X'
    exact ⟨t2, st.trans a1, b1⟩
theorem vx_calll {S SX : Type} {post : Int64 → S → Prop} {px : SX → Prop} {B : S → State → Prop} {BX : String → SX → State → Prop} {AX : Nat → Prop} (hr : vx_Run p l e R s m args below meth c H locs cells slots mc ms (F0 m pc ls st0) rest (va_Ql post B A1 a) (vx_X px BX AX) free) (hS : va_S A0 H0 H locs) (hA : ∀ q, q < H.size → A1 q → A0 q) (hf : ∀ q, free q → A0 q) (hAX : ∀ q, q < H.size → AX q → A0 q)
    (kx : ∀ (E : String) (ce : Cell) (q9 : Addr) (u : SX) (t : State) (H1 : Heap) (locs1 : List Loc), t.heap = H1 → s.vm.Alike t.vm → px u → BX E u t → H.size ≤ H1.size → (∀ q : Nat, q < H.size → ¬ AX q → H1[q]? = H[q]?) → va_S A0 H0 H1 locs1 → H1[q9]? = some ce → ce.vm = .none → s.vm.findClass E = some ce.cls → vx_W p l e R s m args below meth c H1 locs1 (cells + mc) (slots + ms) Q (F0 m pc ls rest) q9)
    (kk : ∀ (r : Int64) (u : S) (t : State) (H1 : Heap) (locs1 : List Loc), t.heap = H1 → s.vm.Alike t.vm → post r u → B u t → H.size ≤ H1.size → (∀ q : Nat, q < H.size → ¬ A1 q → H1[q]? = H[q]?) → va_S A0 H0 H1 locs1 → W p l e R s m args below meth c H1 locs1 (cells + mc) (slots + ms) Q (F0 m (pc + 3) ls (.long r :: rest))) : W p l e R s m args below meth c H locs cells slots Q (F0 m pc ls st0) := by
  intro T hT X
  rcases hr T hT X with ⟨v, st₀, t, T', L, h0, X', hL, e1, e2, ⟨⟨r, u, hv, hp, hb⟩, hF⟩, st⟩ | ⟨q, st₀, t, T', L, E, ce, h0, X', hL, e1, e2, ⟨u, hp, hb, hF⟩, hce, hcv, hcl, st⟩
  · cases hv
    obtain ⟨k1, k2, k3⟩ := vx_keep h0 e1 hS hA hf hL hF
    obtain ⟨t2, a1, b1⟩ := kk r u t T'.heap (locs ++ L) e1.symm (by rw [← e2]; exact X'.warmed.alike) hp hb k1 k2 k3 T' rfl X'
    exact ⟨t2, st t2 a1, b1⟩
  · obtain ⟨k1, k2, k3⟩ := vx_keep h0 e1 hS hAX hf hL hF
    obtain ⟨t2, a1, b1⟩ := kx E ce q u t T'.heap (locs ++ L) e1.symm (by rw [← e2]; exact X'.warmed.alike) hp hb k1 k2 k3 (by rw [e1]; exact hce) hcv hcl T' rfl X'
    exact ⟨t2, st.trans a1, b1⟩
theorem vx_callf {S SX : Type} {post : UInt32 → S → Prop} {px : SX → Prop} {B : S → State → Prop} {BX : String → SX → State → Prop} {AX : Nat → Prop} (hr : vx_Run p l e R s m args below meth c H locs cells slots mc ms (F0 m pc ls st0) rest (va_Qf post B A1 a) (vx_X px BX AX) free) (hS : va_S A0 H0 H locs) (hA : ∀ q, q < H.size → A1 q → A0 q) (hf : ∀ q, free q → A0 q) (hAX : ∀ q, q < H.size → AX q → A0 q)
    (kx : ∀ (E : String) (ce : Cell) (q9 : Addr) (u : SX) (t : State) (H1 : Heap) (locs1 : List Loc), t.heap = H1 → s.vm.Alike t.vm → px u → BX E u t → H.size ≤ H1.size → (∀ q : Nat, q < H.size → ¬ AX q → H1[q]? = H[q]?) → va_S A0 H0 H1 locs1 → H1[q9]? = some ce → ce.vm = .none → s.vm.findClass E = some ce.cls → vx_W p l e R s m args below meth c H1 locs1 (cells + mc) (slots + ms) Q (F0 m pc ls rest) q9)
    (kk : ∀ (r : UInt32) (u : S) (t : State) (H1 : Heap) (locs1 : List Loc), t.heap = H1 → s.vm.Alike t.vm → post r u → B u t → H.size ≤ H1.size → (∀ q : Nat, q < H.size → ¬ A1 q → H1[q]? = H[q]?) → va_S A0 H0 H1 locs1 → W p l e R s m args below meth c H1 locs1 (cells + mc) (slots + ms) Q (F0 m (pc + 3) ls (.float r :: rest))) : W p l e R s m args below meth c H locs cells slots Q (F0 m pc ls st0) := by
  intro T hT X
  rcases hr T hT X with ⟨v, st₀, t, T', L, h0, X', hL, e1, e2, ⟨⟨r, u, hv, hp, hb⟩, hF⟩, st⟩ | ⟨q, st₀, t, T', L, E, ce, h0, X', hL, e1, e2, ⟨u, hp, hb, hF⟩, hce, hcv, hcl, st⟩
  · cases hv
    obtain ⟨k1, k2, k3⟩ := vx_keep h0 e1 hS hA hf hL hF
    obtain ⟨t2, a1, b1⟩ := kk r u t T'.heap (locs ++ L) e1.symm (by rw [← e2]; exact X'.warmed.alike) hp hb k1 k2 k3 T' rfl X'
    exact ⟨t2, st t2 a1, b1⟩
  · obtain ⟨k1, k2, k3⟩ := vx_keep h0 e1 hS hAX hf hL hF
    obtain ⟨t2, a1, b1⟩ := kx E ce q u t T'.heap (locs ++ L) e1.symm (by rw [← e2]; exact X'.warmed.alike) hp hb k1 k2 k3 (by rw [e1]; exact hce) hcv hcl T' rfl X'
    exact ⟨t2, st.trans a1, b1⟩
theorem vx_calld {S SX : Type} {post : UInt64 → S → Prop} {px : SX → Prop} {B : S → State → Prop} {BX : String → SX → State → Prop} {AX : Nat → Prop} (hr : vx_Run p l e R s m args below meth c H locs cells slots mc ms (F0 m pc ls st0) rest (va_Qd post B A1 a) (vx_X px BX AX) free) (hS : va_S A0 H0 H locs) (hA : ∀ q, q < H.size → A1 q → A0 q) (hf : ∀ q, free q → A0 q) (hAX : ∀ q, q < H.size → AX q → A0 q)
    (kx : ∀ (E : String) (ce : Cell) (q9 : Addr) (u : SX) (t : State) (H1 : Heap) (locs1 : List Loc), t.heap = H1 → s.vm.Alike t.vm → px u → BX E u t → H.size ≤ H1.size → (∀ q : Nat, q < H.size → ¬ AX q → H1[q]? = H[q]?) → va_S A0 H0 H1 locs1 → H1[q9]? = some ce → ce.vm = .none → s.vm.findClass E = some ce.cls → vx_W p l e R s m args below meth c H1 locs1 (cells + mc) (slots + ms) Q (F0 m pc ls rest) q9)
    (kk : ∀ (r : UInt64) (u : S) (t : State) (H1 : Heap) (locs1 : List Loc), t.heap = H1 → s.vm.Alike t.vm → post r u → B u t → H.size ≤ H1.size → (∀ q : Nat, q < H.size → ¬ A1 q → H1[q]? = H[q]?) → va_S A0 H0 H1 locs1 → W p l e R s m args below meth c H1 locs1 (cells + mc) (slots + ms) Q (F0 m (pc + 3) ls (.double r :: rest))) : W p l e R s m args below meth c H locs cells slots Q (F0 m pc ls st0) := by
  intro T hT X
  rcases hr T hT X with ⟨v, st₀, t, T', L, h0, X', hL, e1, e2, ⟨⟨r, u, hv, hp, hb⟩, hF⟩, st⟩ | ⟨q, st₀, t, T', L, E, ce, h0, X', hL, e1, e2, ⟨u, hp, hb, hF⟩, hce, hcv, hcl, st⟩
  · cases hv
    obtain ⟨k1, k2, k3⟩ := vx_keep h0 e1 hS hA hf hL hF
    obtain ⟨t2, a1, b1⟩ := kk r u t T'.heap (locs ++ L) e1.symm (by rw [← e2]; exact X'.warmed.alike) hp hb k1 k2 k3 T' rfl X'
    exact ⟨t2, st t2 a1, b1⟩
  · obtain ⟨k1, k2, k3⟩ := vx_keep h0 e1 hS hAX hf hL hF
    obtain ⟨t2, a1, b1⟩ := kx E ce q u t T'.heap (locs ++ L) e1.symm (by rw [← e2]; exact X'.warmed.alike) hp hb k1 k2 k3 (by rw [e1]; exact hce) hcv hcl T' rfl X'
    exact ⟨t2, st.trans a1, b1⟩
theorem vx_callv {S SX : Type} {post : S → Prop} {px : SX → Prop} {B : S → State → Prop} {BX : String → SX → State → Prop} {AX : Nat → Prop} (hr : vx_Run p l e R s m args below meth c H locs cells slots mc ms (F0 m pc ls st0) rest (va_Qv post B A1 a) (vx_X px BX AX) free) (hS : va_S A0 H0 H locs) (hA : ∀ q, q < H.size → A1 q → A0 q) (hf : ∀ q, free q → A0 q) (hAX : ∀ q, q < H.size → AX q → A0 q)
    (kx : ∀ (E : String) (ce : Cell) (q9 : Addr) (u : SX) (t : State) (H1 : Heap) (locs1 : List Loc), t.heap = H1 → s.vm.Alike t.vm → px u → BX E u t → H.size ≤ H1.size → (∀ q : Nat, q < H.size → ¬ AX q → H1[q]? = H[q]?) → va_S A0 H0 H1 locs1 → H1[q9]? = some ce → ce.vm = .none → s.vm.findClass E = some ce.cls → vx_W p l e R s m args below meth c H1 locs1 (cells + mc) (slots + ms) Q (F0 m pc ls rest) q9)
    (kk : ∀ (u : S) (t : State) (H1 : Heap) (locs1 : List Loc), t.heap = H1 → s.vm.Alike t.vm → post u → B u t → H.size ≤ H1.size → (∀ q : Nat, q < H.size → ¬ A1 q → H1[q]? = H[q]?) → va_S A0 H0 H1 locs1 → W p l e R s m args below meth c H1 locs1 (cells + mc) (slots + ms) Q (F0 m (pc + 3) ls (rest))) : W p l e R s m args below meth c H locs cells slots Q (F0 m pc ls st0) := by
  intro T hT X
  rcases hr T hT X with ⟨v, st₀, t, T', L, h0, X', hL, e1, e2, ⟨⟨u, hv, hp, hb⟩, hF⟩, st⟩ | ⟨q, st₀, t, T', L, E, ce, h0, X', hL, e1, e2, ⟨u, hp, hb, hF⟩, hce, hcv, hcl, st⟩
  · cases hv
    obtain ⟨k1, k2, k3⟩ := vx_keep h0 e1 hS hA hf hL hF
    obtain ⟨t2, a1, b1⟩ := kk u t T'.heap (locs ++ L) e1.symm (by rw [← e2]; exact X'.warmed.alike) hp hb k1 k2 k3 T' rfl X'
    exact ⟨t2, st t2 a1, b1⟩
  · obtain ⟨k1, k2, k3⟩ := vx_keep h0 e1 hS hAX hf hL hF
    obtain ⟨t2, a1, b1⟩ := kx E ce q u t T'.heap (locs ++ L) e1.symm (by rw [← e2]; exact X'.warmed.alike) hp hb k1 k2 k3 (by rw [e1]; exact hce) hcv hcl T' rfl X'
    exact ⟨t2, st.trans a1, b1⟩
/-- caught by the row x of this method's table; the rows ahead don't take it -/
theorem vx_catch {own name : String} {E : String} {ce : Cell} {q : Addr} (hown : s.vm.findClass own = some m.cls) (pre : List ExceptionTableEntry) (x : ExceptionTableEntry) (suf : List ExceptionTableEntry) (hsplit : c.exceptionTable.toList = pre ++ x :: suf)
    (hpass : ∀ z ∈ pre, covers z pc = false ∨ (z.catchType ≠ 0 ∧ ∃ nm : String, (Cond.classLink own z.catchType nm).before args s = true ∧ va_Nc E nm s)) (hx : covers x pc = true) (h0 : x.catchType ≠ 0)
    (hlink : (Cond.classLink own x.catchType name).before args s = true) (hcast : (Cond.castable E name).before args s = true) (hcell : H[q]? = some ce) (hv : ce.vm = .none) (hcl : s.vm.findClass E = some ce.cls)
    (kk : W p l e R s m args below meth c H locs cells slots Q (F0 m x.handlerPc ls [.ref q])) : vx_W p l e R s m args below meth c H locs cells slots Q (F0 m pc ls rest) q := by
  intro T hT X
  have hpl : e.platform.magicAccessors = ({} : Platform).magicAccessors := by rw [X.admits.platform]
  obtain ⟨c3, c4, hc3, hc4, hasg⟩ := Cond.castable_spec hcast
  cases Option.some.inj (hc3.symm.trans hcl)
  obtain ⟨c5, hc5, hcl5⟩ := Cond.classLink_spec hown hlink e.platform hpl
  cases Option.some.inj (hc4.symm.trans hc5)
  obtain ⟨vm', X', st⟩ := X.thenCaughtThrough q (g := F0 m pc ls rest) rfl (Steps.refl _) (by rw [hT]; exact hcell) (by rw [hv]; rfl) (by obtain ⟨k9, h9, -⟩ := Vm.findClass_spec hcl; exact ⟨k9, h9⟩) pre x suf hsplit
    (fun z hz => by
      rcases hpass z hz with h | ⟨hz0, nm, hl1, hn1⟩
      · exact Or.inl h
      · obtain ⟨c6, hc6, hcl6⟩ := Cond.classLink_spec hown hl1 e.platform hpl
        obtain ⟨a8, b8, h1, h2, h3⟩ := hn1
        cases Option.some.inj (h1.symm.trans hcl)
        cases Option.some.inj (h2.symm.trans hc6)
        exact Or.inr ⟨hz0, _, hcl6, h3⟩) hx (Or.inr ⟨h0, c4, hcl5, hasg⟩)
  obtain ⟨t, a1, b1⟩ := kk (T.setVm vm') hT X'
  exact ⟨t, st.trans a1, b1⟩
end Rows
section Ends
variable {p : Program} {l : Launch} {e : Env} {R : Room} {s : State} {m : MethodId} {args : Array Value} {below : List Frame} {meth : Method} {c : Code} {H : Heap} {locs : List Loc} {cells slots : Nat} {Q : State → Prop}
variable {mc ms : Nat} {free : Addr → Prop} {A0 A1 : Nat → Prop} {H0 : Heap} {a : Array Value} {ls : Array Slot} {st0 rest : List Value}
variable {Qc : Array Value → State → Outcome → State → Prop} {XC : String → State → State → Prop}
/-- what a body that may throw owes at its end -/
def vx_MQ (below : List Frame) (Qc : Array Value → State → Outcome → State → Prop) (XC : String → State → State → Prop) (a : Array Value) (s : State) (mc ms : Nat) (free : Addr → Prop) : State → Prop := fun t =>
  ∃ o, t.status = .running ∧ Ended t below o ∧ vx_Q Qc XC mc ms free a s o t
theorem vx_ret {g : JFrame} {mc ms : Nat} (k : W p l e R s m args below meth c H locs cells slots (MQ below Qc args s mc ms free) g) : W p l e R s m args below meth c H locs cells slots (vx_MQ below Qc XC args s mc ms free) g := by
  intro T hT X
  obtain ⟨t, a1, o, b1, b2, b3, b4⟩ := k T hT X
  exact ⟨t, a1, o, b1, b2, Or.inl ⟨b3, b4⟩⟩
/-- not caught here: it goes on to the caller -/
theorem vx_widen {g : JFrame} {q : Addr} {k n : Nat} (h1 : cells ≤ k) (h2 : slots ≤ n) (kk : vx_W p l e R s m args below meth c H locs k n Q g q) : vx_W p l e R s m args below meth c H locs cells slots Q g q := fun T hT X => kk T hT (stand_widen X h1 h2)
theorem vx_out {pc : Nat} {E : String} {ce : Cell} {q : Addr} {mc ms : Nat} (hout : ∀ x ∈ c.exceptionTable.toList, covers x pc = false) (hlocks : meth.locks = false) (hcell : H[q]? = some ce) (hv : ce.vm = .none) (hcl : s.vm.findClass E = some ce.cls)
    (hx : ∀ t : State, t.heap = H → s.vm.Alike t.vm → XC E s t) (hf : ∀ z ∈ locs, free z.base) (hc : cells ≤ mc) (hs : slots ≤ ms) :
    vx_W p l e R s m args below meth c H locs cells slots (vx_MQ below Qc XC args s mc ms free) (F0 m pc ls rest) q := by
  intro T hT X
  obtain ⟨st1, hrun, hend, hW, hsm⟩ := X.leaveThrown q (g := F0 m pc ls rest) rfl rfl rfl hout hlocks
  have hcell9 : (T.setFrames (.throwing q :: below)).heap[q]? = some ce := by
    show T.heap[q]? = some ce
    rw [hT]; exact hcell
  exact ⟨_, st1, .threw q, hrun, hend, Or.inr ⟨q, rfl, E, ce, locs, hx _ hT hW.alike, hcell9, hv, hcl, hW, hsm.mono hc hs, hf⟩⟩
theorem vx_frame {U : State} {k n : Nat} (h : s.sameButNew ({ U with vm := s.vm } : State) locs k n) : s.heap.size ≤ U.heap.size ∧ ∀ q : Nat, q < s.heap.size → (∀ z ∈ locs, z.base ≠ q) → U.heap[q]? = s.heap[q]? := by
  obtain ⟨-, h2, -, -, -, h6⟩ := h
  refine ⟨h2, fun q hq hz => ?_⟩
  obtain ⟨c9, e1, e2, e3, e4⟩ := h6 q _ (Array.getElem?_eq_getElem hq)
  have hs : c9.slots = (s.heap[q]).slots := Array.ext_getElem? fun i => e4 i fun hm => hz _ hm rfl
  have h9 : c9 = s.heap[q] := by
    rw [hs] at e2
    exact e2
  have e5 : U.heap[q]? = some c9 := e1
  rw [e5, h9, Array.getElem?_eq_getElem hq]
/-- the words of a throw but the four that speak of the heap -/
def vx_no (w : Cond) : Bool := decide (w ≠ .isRef (.static Bundle.tN "UNASSIGNED_STACK" Bundle.steD)) && decide (w ≠ .isRef (.static Bundle.tN "SUPPRESSED_SENTINEL" Bundle.listD)) && decide (w ≠ .laysStatic Bundle.tN "UNASSIGNED_STACK" Bundle.steD) && decide (w ≠ .laysStatic Bundle.tN "SUPPRESSED_SENTINEL" Bundle.listD)
def vx_at0 (own : String) (ic : Nat) (X : String) (names : List String) : List Cond := (Bundle.ownAtoms0 own ic X names).filter vx_no
def vx_atS (own : String) (ic : Nat) (X : String) (names : List String) : List Cond := (Bundle.ownAtoms own ic X names).filter vx_no
/-- a word that the tables alone decide, or a good one -/
def vx_ot (w : Cond) : Bool := w.onTables || goodWord w
theorem vx_ot_at {args a' : Array Value} {s U : State} {w : Cond} (hW : s.WarmedH U.vm) (hvm : s.vm = U.vm) (hg : vx_ot w = true) (h : w.before args s = true) : w.before a' U = true := by
  simp only [vx_ot, Bool.or_eq_true] at hg
  rcases hg with hg | hg
  · exact va_tabs hg hvm h
  · exact word_at hW (good_of_word hg) h
/-- a list's words: the good ones out of the method's own list, the others by premises of their own -/
theorem vx_hat {args : Array Value} {s : State} {L B : List Cond} (h1 : ∀ w ∈ L.filter goodWord, w.before args s = true) (h2 : ∀ w ∈ L.filter (fun w => !goodWord w), w ∈ B) (h3 : ∀ w ∈ B, w.before args s = true) : ∀ w ∈ L, w.before args s = true := by
  intro w hw
  by_cases g : goodWord w = true
  · exact h1 w (List.mem_filter.mpr ⟨hw, g⟩)
  · refine h3 w (h2 w (List.mem_filter.mpr ⟨hw, ?_⟩))
    show (!goodWord w) = true
    cases hgw : goodWord w
    · rfl
    · exact absurd hgw g
theorem vx_c {args : Array Value} {s : State} {w : Cond} {B : List Cond} (h : w.before args s = true) (t : ∀ w ∈ B, w.before args s = true) : ∀ w' ∈ w :: B, w'.before args s = true := fun w' h' => (List.mem_cons.mp h').elim (fun e => by rw [e]; exact h) (t w')
theorem vx_n {args : Array Value} {s : State} : ∀ w ∈ ([] : List Cond), w.before args s = true := fun _ h => nomatch h
theorem vx_own {args : Array Value} {s : State} {L : List Cond} (h1 : ∀ w ∈ L.filter vx_no, w.before args s = true)
    (hU : (Cond.isRef (.static Bundle.tN "UNASSIGNED_STACK" Bundle.steD)).before args s = true) (hN : (Cond.isRef (.static Bundle.tN "SUPPRESSED_SENTINEL" Bundle.listD)).before args s = true)
    (lU : (Cond.laysStatic Bundle.tN "UNASSIGNED_STACK" Bundle.steD).before args s = true) (lN : (Cond.laysStatic Bundle.tN "SUPPRESSED_SENTINEL" Bundle.listD).before args s = true) : ∀ w ∈ L, w.before args s = true := by
  intro w hw
  by_cases e1 : w = .isRef (.static Bundle.tN "UNASSIGNED_STACK" Bundle.steD)
  · rw [e1]; exact hU
  · by_cases e2 : w = .isRef (.static Bundle.tN "SUPPRESSED_SENTINEL" Bundle.listD)
    · rw [e2]; exact hN
    · by_cases e3 : w = .laysStatic Bundle.tN "UNASSIGNED_STACK" Bundle.steD
      · rw [e3]; exact lU
      · by_cases e4 : w = .laysStatic Bundle.tN "SUPPRESSED_SENTINEL" Bundle.listD
        · rw [e4]; exact lN
        · exact h1 w (List.mem_filter.mpr ⟨hw, by unfold vx_no; rw [decide_eq_true e1, decide_eq_true e2, decide_eq_true e3, decide_eq_true e4]; rfl⟩)
/-- where a static field lies, its class's statics cell in H -/
def vx_L (C n d : String) (A : Nat → Prop) (U : State) (H : Heap) : Prop := ∃ (c : ClassId) (k : Class) (i : Nat) (f : Field) (a : Nat) (cell : Cell), U.vm.findClass C = some c ∧ U.fieldFound? C n d = some (c, k, i, f) ∧ f.isStatic = true ∧ k.statics = some a ∧ H[a]? = some cell ∧ cell.vm.isStatics = true ∧ cell.cls = c ∧ f.slot < cell.slots.size ∧ k.staticTypes[f.slot]? = some f.type ∧ ¬ A a
theorem vx_L.moved {C n d : String} {A : Nat → Prop} {u U : State} {H : Heap} (hvm : u.vm.Alike U.vm) (h : vx_L C n d A u H) : vx_L C n d A U H := by
  obtain ⟨c, k, i, f, a, cell, h1, h2, h3, h4, h5, h6, h7, h8, h9, h10⟩ := h
  obtain ⟨k', hi', he⟩ := State.fieldFound?_setVm hvm h2
  exact ⟨c, k', i, f, a, cell, by rw [hvm.findClass]; exact h1, hi', h3, by rw [he]; exact h4, h5, h6, h7, h8, by rw [he]; exact h9, h10⟩
theorem vx_L.kept {C n d : String} {A : Nat → Prop} {U : State} {H H1 : Heap} (h : vx_L C n d A U H) (hq : ∀ a : Nat, a < H.size → ¬ A a → H1[a]? = H[a]?) : vx_L C n d A U H1 := by
  obtain ⟨c, k, i, f, a, cell, h1, h2, h3, h4, h5, h6, h7, h8, h9, h10⟩ := h
  exact ⟨c, k, i, f, a, cell, h1, h2, h3, h4, by rw [hq a (Array.getElem?_eq_some_iff.mp h5).1 h10]; exact h5, h6, h7, h8, h9, h10⟩
theorem vx_L.narrow {C n d : String} {A B : Nat → Prop} {U : State} {H : Heap} (h : vx_L C n d A U H) (hAB : ∀ q, B q → A q) : vx_L C n d B U H := by
  obtain ⟨c, k, i, f, a, cell, h1, h2, h3, h4, h5, h6, h7, h8, h9, h10⟩ := h
  exact ⟨c, k, i, f, a, cell, h1, h2, h3, h4, h5, h6, h7, h8, h9, fun z => h10 (hAB _ z)⟩
theorem vx_L.word {C n d : String} {A : Nat → Prop} {s : State} {args : Array Value} (h : vx_L C n d A s s.heap) : (Cond.laysStatic C n d).before args s = true := by
  obtain ⟨c, k, i, f, a, cell, h1, h2, h3, h4, h5, h6, h7, h8, h9, -⟩ := h
  show (Cond.laysStatic C n d).holds args s none s [] = true
  exact Cond.laysStatic_of h1 h2 h3 h4 h5 h6 h7 h8 h9
/-- .. and what it holds: null or some reference -/
def vx_Zq (C n d : String) (A : Nat → Prop) (U : State) (H : Heap) : Prop := va_Zq C n d A U H ∧ vx_L C n d A U H
theorem vx_Zq.moved {C n d : String} {A : Nat → Prop} {u U : State} {H : Heap} (hvm : u.vm.Alike U.vm) (h : vx_Zq C n d A u H) : vx_Zq C n d A U H := ⟨va_Zq.moved hvm h.1, vx_L.moved hvm h.2⟩
theorem vx_Zq.kept {C n d : String} {A : Nat → Prop} {U : State} {H H1 : Heap} (h : vx_Zq C n d A U H) (hq : ∀ a : Nat, a < H.size → ¬ A a → H1[a]? = H[a]?) : vx_Zq C n d A U H1 := ⟨va_Zq.kept h.1 hq, vx_L.kept h.2 hq⟩
theorem vx_Zq.narrow {C n d : String} {A B : Nat → Prop} {U : State} {H : Heap} (h : vx_Zq C n d A U H) (hAB : ∀ q, B q → A q) : vx_Zq C n d B U H := ⟨va_Zq.narrow h.1 hAB, vx_L.narrow h.2 hAB⟩
theorem vx_Zqof {args : Array Value} {s : State} {C n d : String} {A : Nat → Prop} (hl : (Cond.laysStatic C n d).before args s = true) (hini : (Cond.initialized C).before args s = true) (h : (Cond.isRef (.static C n d)).before args s = true) (hA : ∀ a : Nat, a < s.heap.size → ¬ A a) : vx_Zq C n d A s s.heap := by
  refine ⟨va_Zqof hl hini h hA, ?_⟩
  obtain ⟨c, k, i, f, a, cell, h1, h2, h3, h4, h5, h6, h7, h8, h9⟩ := Cond.laysStatic_spec hl
  exact ⟨c, k, i, f, a, cell, h1, h2, h3, h4, h5, h6, h7, h8, h9, hA a (Array.getElem?_eq_some_iff.mp h5).1⟩
theorem vx_isRef {C n d : String} {v : Value} {A : Nat → Prop} {s : State} {args : Array Value} (h : va_Z C n d v A s s.heap) (hv : v.isRef = true) : (Cond.isRef (.static C n d)).before args s = true := by
  obtain ⟨cf, kf, fi, f, a, cell, h1, h2, h3, h4, h5, h6, h7, -⟩ := h
  have he : (Term.static C n d).eval args s none [] s = some v := by
    simp [Term.eval, State.fieldNamed?, h1, h2, h4, h5, h6, h7]
  simp only [Cond.before, Cond.holds, Cond.value, he]
  cases v <;> simp_all [Value.isRef]
theorem vx_isRefq {C n d : String} {A : Nat → Prop} {s : State} {args : Array Value} (h : va_Zq C n d A s s.heap) : (Cond.isRef (.static C n d)).before args s = true := by
  rcases h with h | ⟨t, h⟩
  · exact vx_isRef h rfl
  · exact vx_isRef h rfl
/-- the same frame, seen from here: as if the method were called anew in this heap -/
theorem vx_rebase {T : State} (X : Stand p l e R s m args below meth c T locs cells slots) {R' : Room} (hf : R'.frames ≤ R.frames) (hl : R'.locals ≤ R.locals) (hc : cells + R'.cells ≤ R.cells) (hs : slots + R'.slots ≤ R.slots) :
    Stand p l e R' ((T.setVm s.vm).setFrames (.invoking m args :: below)) m args below meth c T [] 0 0 := by
  have htop : (T.setVm s.vm).topJava?.isSome := X.here.top
  have hF : ((T.setVm s.vm).setFrames (.invoking m args :: below)).frames = .invoking m args :: below := State.frames_setFrames _ (State.cur_lt_of_top htop)
  obtain ⟨g₀, hg0⟩ := Option.isSome_iff_exists.mp htop
  obtain ⟨r, hr⟩ := State.topJava?_eq_some.mp hg0
  have hl9 : e.platform.stackLimits (T.setVm s.vm).me = e.platform.stackLimits s.me := X.limits
  have hb9 : (T.setVm s.vm).me.stackBytes = s.me.stackBytes := X.bytes
  refine ⟨X.admits, X.cas, X.clock, hF, ?_, X.hears, X.method, X.code, X.here, X.tail, X.warmed, ?_, ?_, ?_⟩
  · have h := X.room
    have hU : ((T.setVm s.vm).setFrames (.invoking m args :: below)).localsInUse = s.localsInUse := by
      rw [State.localsInUse_invoking hF (meth := meth) (c := c) X.method X.code, State.localsInUse_invoking X.frames X.method X.code]
    simp only [State.hasRoom, Bool.and_eq_true, decide_eq_true_eq] at h ⊢
    obtain ⟨⟨⟨⟨h1, h2, h3, h4, h5, h6⟩, h7⟩, h8⟩, h9⟩ := h
    rw [X.frames, List.length_cons] at h2 h3
    have q1 := X.heapSize
    have q2 := X.used
    simp only [hF, hU, List.length_cons, State.stackLimits_setFrames, State.stackBytes_setFrames, hl9, hb9]
    refine ⟨⟨⟨⟨by omega, by omega, by omega, by omega, by omega, h6⟩, ?_⟩, ?_⟩, X.book⟩
    · show T.heap.size + R'.cells ≤ e.platform.maxCells
      omega
    · show T.slotsUsed + R'.slots ≤ e.platform.maxSlots
      omega
  · rw [State.stackLimits_setFrames]; rfl
  · rw [State.stackBytes_setFrames]; rfl
  · refine ⟨?_, Nat.le_refl _, Nat.le_refl _, ?_, ?_, fun a c9 h9 => ⟨c9, h9, rfl, rfl, fun _ _ => rfl⟩⟩
    · obtain ⟨t, ht, -⟩ := State.frames_cons hr
      show T.setVm s.vm = { ((T.setVm s.vm).setFrames (.invoking m args :: below)).setFrames (T.setVm s.vm).frames with heap := T.heap, slotsUsed := T.slotsUsed }
      rw [State.setFrames_setFrames, State.setFrames_self ht]
      rfl
    · show T.slotsUsed = T.slotsUsed + ((T.heap.toList.drop T.heap.size).map (·.slots.size)).sum
      rw [List.drop_eq_nil_of_le (Nat.le_of_eq Array.length_toList)]
      rfl
    · show ((T.heap.toList.drop T.heap.size).map (·.slots.size)).sum ≤ 0
      rw [List.drop_eq_nil_of_le (Nat.le_of_eq Array.length_toList)]
      exact Nat.le_refl _
/-- 'throw new E()': new; dup; invokespecial; athrow -/
theorem vx_throw0 {cc : ByteArray} {pc : Nat} (hexec : p.tables.exec = Jvm.exec) (hb : c.code = cc) (hl : l.stackTraces = false) {own cls : String} {names : List String} {ik ic mc ms : Nat} {A : Nat → Prop}
    (hown : s.vm.findClass own = some m.cls) (hcls : Bundle.fit cls = true) (hnames : ∀ n ∈ names, Bundle.fit n = true)
    (hk : (Cond.classLink own ik cls).before args s = true) (hini : (Cond.initialized cls).before args s = true) (hat : ∀ w ∈ vx_at0 own ic cls names, w.before args s = true)
    (hgood : ∀ w ∈ Cond.classLink own ik cls :: Cond.initialized cls :: vx_at0 own ic cls names, vx_ot w = true)
    (hU : vx_Zq Bundle.tN "UNASSIGNED_STACK" Bundle.steD A s s.heap) (hN : vx_Zq Bundle.tN "SUPPRESSED_SENTINEL" Bundle.listD A s s.heap) (hS : va_S A s.heap H locs) (hsize : ls.size = c.maxLocals)
    (d0 : decode cc pc = .ok (.new ik, 3)) (d3 : decode cc (pc + 3) = .ok (.dup, 1)) (d4 : decode cc (pc + 4) = .ok (.invokespecial ic, 3)) (d7 : decode cc (pc + 7) = .ok (.athrow, 1))
    (hout : ∀ x ∈ c.exceptionTable.toList, covers x (pc + 7) = false)
    (hRframes : names.length + 3 < R.frames) (hRlocals : (rest.map fun v => v.category).sum + (13 * (names.length + 1) + 42) ≤ R.locals) (hRcells : cells + 1 ≤ R.cells) (hRslots : slots + 6 ≤ R.slots) (hlocks : meth.locks = false)
    (hx : ∀ t : State, s.vm.Alike t.vm → H.size ≤ t.heap.size → (∀ q : Nat, q < H.size → t.heap[q]? = H[q]?) → XC cls s t)
    (hf : ∀ z ∈ locs, free z.base) (hc : cells + 1 ≤ mc) (hs : slots + 6 ≤ ms) :
    W p l e R s m args below meth c H locs cells slots (vx_MQ below Qc XC args s mc ms free) (F0 m pc ls rest) := by
  intro T hT X
  have htr : e.platform.stackTraces = false := (show e.platform.stackTraces = l.stackTraces by rw [X.admits.platform]).trans hl
  have Y := vx_rebase X (R' := { frames := R.frames, locals := R.locals, cells := 1, slots := 6 }) (Nat.le_refl _) (Nat.le_refl _) hRcells hRslots
  obtain ⟨s', hA⟩ : ∃ z, z = (T.setVm s.vm).setFrames (.invoking m args :: below) := ⟨_, rfl⟩
  rw [← hA] at Y
  have hvm : s'.vm = s.vm := by rw [hA]; rfl
  have hhp : s'.heap = H := by rw [hA]; exact hT
  have hW0 : s.WarmedH s'.vm := by rw [hvm]; exact State.WarmedH.refl s
  have hat' : ∀ w ∈ vx_at0 own ic cls names, w.before args s' = true := fun w hw => vx_ot_at hW0 hvm.symm (hgood w (List.mem_cons_of_mem _ (List.mem_cons_of_mem _ hw))) (hat w hw)
  have hk' : (Cond.classLink own ik cls).before args s' = true := vx_ot_at hW0 hvm.symm (hgood _ List.mem_cons_self) hk
  have hini' : (Cond.initialized cls).before args s' = true := vx_ot_at hW0 hvm.symm (hgood _ (List.mem_cons_of_mem _ List.mem_cons_self)) hini
  have hU' : vx_Zq Bundle.tN "UNASSIGNED_STACK" Bundle.steD A s' s'.heap := by rw [hhp]; exact vx_Zq.moved hW0.alike (hU.kept hS.2.1)
  have hN' : vx_Zq Bundle.tN "SUPPRESSED_SENTINEL" Bundle.listD A s' s'.heap := by rw [hhp]; exact vx_Zq.moved hW0.alike (hN.kept hS.2.1)
  have h : ∀ w ∈ Bundle.ownAtoms0 own ic cls names, w.before args s' = true := vx_own hat' (vx_isRefq hU'.1) (vx_isRefq hN'.1) hU'.2.word hN'.2.word
  have hown' : s'.vm.findClass own = some m.cls := by rw [hvm]; exact hown
  have hins : (Cond.instantiable cls 6).before args s' = true := h _ (by simp [Bundle.ownAtoms0])
  obtain ⟨vm₁, cX, kX, hfX, hkX, -, -, X₁, st1⟩ := Y.newCold hexec (own := own) (C := cls) (index := ik) (n := 6) hown' hk' hins hini'
    (g := F0 m pc ls rest) rfl (by rw [hb]; exact d0) (Nat.le_refl _) (Nat.le_refl _)
  generalize hT1 : (T.setVm vm₁).pushCell { cls := cX, slots := kX.instanceTypes.map defaultValue, vm := .none } = T1 at X₁ st1
  have hcat : (Value.ref T.heap.size).category = 1 := rfl
  have hcellA : T1.heap[T.heap.size]? = some (freshCell cX kX) := by rw [← hT1]; exact State.heap_pushCell_size _ _
  have d3' : decode c.code (pc + 3) = .ok (.dup, 1) := by rw [hb]; exact d3
  obtain ⟨U, hsteps, hrun, hend, hW, hsame, ce, hce, hO⟩ := X₁.ctorThrow0 hexec htr (own := own) (cls := cls) (names := names) (ic := ic) hown' hcls hnames h (fun x hx => nomatch hx) hfX hkX hcellA (by rw [hhp, hT]; exact Nat.le_refl _)
    (g := { method := m, pc := pc + 4, locals := ls, stack := .ref T.heap.size :: .ref T.heap.size :: rest, locked := none }) rfl hsize rfl rfl (rest := rest) rfl
    (by rw [hb]; exact d4) (by rw [hb]; exact d7) hout hRframes (by simp only [List.map_cons, List.sum_cons, hcat]; omega) hlocks
  obtain ⟨f1, f2⟩ := vx_frame hsame
  rw [hhp] at f1 f2
  have hWs : s.WarmedH U.vm := State.WarmedH.trans hW0 hW
  have hcl : s.vm.findClass cls = some ce.cls := by
    have h9 := hO.cls
    rw [hvm] at h9
    exact h9
  have hall : s.sameButNew ({ U with vm := s.vm } : State) locs mc ms := by
    subst hA
    obtain ⟨e1, e2⟩ := hsame
    rw [State.setFrames_setFrames] at e1
    have h2 : (T.setVm s.vm).sameButNew ({ U with vm := s.vm } : State) [] (0 + 1) (0 + 6) := ⟨e1, e2⟩
    have h3 := X.same.trans h2
    rw [List.append_nil] at h3
    exact h3.mono hc hs
  refine ⟨U, ?_, .threw T.heap.size, hrun, hend, Or.inr ⟨T.heap.size, rfl, cls, ce, locs, hx U hWs.alike f1 (fun q hq => f2 q hq (fun z hz => nomatch hz)), hce, hO.vm, hcl, hWs, hall, hf⟩⟩
  refine st1 _ ?_
  show Steps p.tables e below (T1.setTop { method := m, pc := pc + 3, locals := ls, stack := .ref T.heap.size :: rest, locked := none }) _
  jvm_step X₁.here [X₁.here.top, hexec, d3', Value.category]
  exact hsteps
/-- 'throw new E("text")': new; dup; ldc; invokespecial; athrow -/
theorem vx_throwS {cc : ByteArray} {pc : Nat} (hexec : p.tables.exec = Jvm.exec) (hb : c.code = cc) (hl : l.stackTraces = false) {own cls text : String} {names : List String} {ik is ic mc ms sa : Nat} {A : Nat → Prop}
    (hown : s.vm.findClass own = some m.cls) (hcls : Bundle.fit cls = true) (hnames : ∀ n ∈ names, Bundle.fit n = true)
    (hk : (Cond.classLink own ik cls).before args s = true) (hini : (Cond.initialized cls).before args s = true) (hstr : vk_R own is text sa s) (hat : ∀ w ∈ vx_atS own ic cls names, w.before args s = true)
    (hgood : ∀ w ∈ Cond.classLink own ik cls :: Cond.initialized cls :: vx_atS own ic cls names, vx_ot w = true)
    (hU : vx_Zq Bundle.tN "UNASSIGNED_STACK" Bundle.steD A s s.heap) (hN : vx_Zq Bundle.tN "SUPPRESSED_SENTINEL" Bundle.listD A s s.heap) (hS : va_S A s.heap H locs) (hsize : ls.size = c.maxLocals)
    (d0 : decode cc pc = .ok (.new ik, 3)) (d3 : decode cc (pc + 3) = .ok (.dup, 1)) (d4 : decode cc (pc + 4) = .ok (.ldc is, 2)) (d6 : decode cc (pc + 6) = .ok (.invokespecial ic, 3)) (d9 : decode cc (pc + 9) = .ok (.athrow, 1))
    (hout : ∀ x ∈ c.exceptionTable.toList, covers x (pc + 9) = false)
    (hRframes : names.length + 3 < R.frames) (hRlocals : (rest.map fun v => v.category).sum + (13 * (names.length + 1) + 43) ≤ R.locals) (hRcells : cells + 1 ≤ R.cells) (hRslots : slots + 6 ≤ R.slots) (hlocks : meth.locks = false)
    (hx : ∀ t : State, s.vm.Alike t.vm → H.size ≤ t.heap.size → (∀ q : Nat, q < H.size → t.heap[q]? = H[q]?) → XC cls s t)
    (hf : ∀ z ∈ locs, free z.base) (hc : cells + 1 ≤ mc) (hs : slots + 6 ≤ ms) :
    W p l e R s m args below meth c H locs cells slots (vx_MQ below Qc XC args s mc ms free) (F0 m pc ls rest) := by
  intro T hT X
  have htr : e.platform.stackTraces = false := (show e.platform.stackTraces = l.stackTraces by rw [X.admits.platform]).trans hl
  have Y := vx_rebase X (R' := { frames := R.frames, locals := R.locals, cells := 1, slots := 6 }) (Nat.le_refl _) (Nat.le_refl _) hRcells hRslots
  obtain ⟨s', hA⟩ : ∃ z, z = (T.setVm s.vm).setFrames (.invoking m args :: below) := ⟨_, rfl⟩
  rw [← hA] at Y
  have hvm : s'.vm = s.vm := by rw [hA]; rfl
  have hhp : s'.heap = H := by rw [hA]; exact hT
  have hW0 : s.WarmedH s'.vm := by rw [hvm]; exact State.WarmedH.refl s
  have hat' : ∀ w ∈ vx_atS own ic cls names, w.before args s' = true := fun w hw => vx_ot_at hW0 hvm.symm (hgood w (List.mem_cons_of_mem _ (List.mem_cons_of_mem _ hw))) (hat w hw)
  have hk' : (Cond.classLink own ik cls).before args s' = true := vx_ot_at hW0 hvm.symm (hgood _ List.mem_cons_self) hk
  have hini' : (Cond.initialized cls).before args s' = true := vx_ot_at hW0 hvm.symm (hgood _ (List.mem_cons_of_mem _ List.mem_cons_self)) hini
  have hU' : vx_Zq Bundle.tN "UNASSIGNED_STACK" Bundle.steD A s' s'.heap := by rw [hhp]; exact vx_Zq.moved hW0.alike (hU.kept hS.2.1)
  have hN' : vx_Zq Bundle.tN "SUPPRESSED_SENTINEL" Bundle.listD A s' s'.heap := by rw [hhp]; exact vx_Zq.moved hW0.alike (hN.kept hS.2.1)
  have h : ∀ w ∈ Bundle.ownAtoms own ic cls names, w.before args s' = true := vx_own hat' (vx_isRefq hU'.1) (vx_isRefq hN'.1) hU'.2.word hN'.2.word
  have hown' : s'.vm.findClass own = some m.cls := by rw [hvm]; exact hown
  have hins : (Cond.instantiable cls 6).before args s' = true := h _ (by simp [Bundle.ownAtoms])
  obtain ⟨vm₁, cX, kX, hfX, hkX, -, -, X₁, st1⟩ := Y.newCold hexec (own := own) (C := cls) (index := ik) (n := 6) hown' hk' hins hini'
    (g := F0 m pc ls rest) rfl (by rw [hb]; exact d0) (Nat.le_refl _) (Nat.le_refl _)
  generalize hT1 : (T.setVm vm₁).pushCell { cls := cX, slots := kX.instanceTypes.map defaultValue, vm := .none } = T1 at X₁ st1
  have hcat : (Value.ref T.heap.size).category = 1 := rfl
  have hcellA : T1.heap[T.heap.size]? = some (freshCell cX kX) := by rw [← hT1]; exact State.heap_pushCell_size _ _
  have d3' : decode c.code (pc + 3) = .ok (.dup, 1) := by rw [hb]; exact d3
  have d4' : decode c.code (pc + 4) = .ok (.ldc is, 2) := by rw [hb]; exact d4
  have hstr' : vk_R own is text sa s' := vk_R.warm hW0 hstr
  obtain ⟨U, hsteps, hrun, hend, hW, hsame, ce, hce, hO⟩ := X₁.ctorThrowS hexec htr (own := own) (cls := cls) (names := names) (ic := ic) hown' hcls hnames h (fun x hx => nomatch hx) hfX hkX hcellA (by rw [hhp, hT]; exact Nat.le_refl _) (msg := .ref sa) rfl
    (g := { method := m, pc := pc + 6, locals := ls, stack := .ref sa :: .ref T.heap.size :: .ref T.heap.size :: rest, locked := none }) rfl hsize rfl rfl (rest := rest) rfl
    (by rw [hb]; exact d6) (by rw [hb]; exact d9) hout hRframes (by simp only [List.map_cons, List.sum_cons, hcat]; omega) hlocks
  obtain ⟨f1, f2⟩ := vx_frame hsame
  rw [hhp] at f1 f2
  have hWs : s.WarmedH U.vm := State.WarmedH.trans hW0 hW
  have hcl : s.vm.findClass cls = some ce.cls := by
    have h9 := hO.cls
    rw [hvm] at h9
    exact h9
  have hall : s.sameButNew ({ U with vm := s.vm } : State) locs mc ms := by
    subst hA
    obtain ⟨e1, e2⟩ := hsame
    rw [State.setFrames_setFrames] at e1
    have h2 : (T.setVm s.vm).sameButNew ({ U with vm := s.vm } : State) [] (0 + 1) (0 + 6) := ⟨e1, e2⟩
    have h3 := X.same.trans h2
    rw [List.append_nil] at h3
    exact h3.mono hc hs
  refine ⟨U, ?_, .threw T.heap.size, hrun, hend, Or.inr ⟨T.heap.size, rfl, cls, ce, locs, hx U hWs.alike f1 (fun q hq => f2 q hq (fun z hz => nomatch hz)), hce, hO.vm, hcl, hWs, hall, hf⟩⟩
  refine st1 _ ?_
  show Steps p.tables e below (T1.setTop { method := m, pc := pc + 3, locals := ls, stack := .ref T.heap.size :: rest, locked := none }) _
  jvm_step X₁.here [X₁.here.top, hexec, d3', Value.category]
  exact X₁.ldcString hexec (own := own) (text := text) (index := is) (a := sa) hown' hstr'.1 hstr'.2
    (g := { method := m, pc := pc + 4, locals := ls, stack := .ref T.heap.size :: .ref T.heap.size :: rest, locked := none }) rfl d4' _ hsteps
/-- 'throw new E("text")', the text by a wide index -/
theorem vx_throwSW {cc : ByteArray} {pc : Nat} (hexec : p.tables.exec = Jvm.exec) (hb : c.code = cc) (hl : l.stackTraces = false) {own cls text : String} {names : List String} {ik is ic mc ms sa : Nat} {A : Nat → Prop}
    (hown : s.vm.findClass own = some m.cls) (hcls : Bundle.fit cls = true) (hnames : ∀ n ∈ names, Bundle.fit n = true)
    (hk : (Cond.classLink own ik cls).before args s = true) (hini : (Cond.initialized cls).before args s = true) (hstr : vk_R own is text sa s) (hat : ∀ w ∈ vx_atS own ic cls names, w.before args s = true)
    (hgood : ∀ w ∈ Cond.classLink own ik cls :: Cond.initialized cls :: vx_atS own ic cls names, vx_ot w = true)
    (hU : vx_Zq Bundle.tN "UNASSIGNED_STACK" Bundle.steD A s s.heap) (hN : vx_Zq Bundle.tN "SUPPRESSED_SENTINEL" Bundle.listD A s s.heap) (hS : va_S A s.heap H locs) (hsize : ls.size = c.maxLocals)
    (d0 : decode cc pc = .ok (.new ik, 3)) (d3 : decode cc (pc + 3) = .ok (.dup, 1)) (d4 : decode cc (pc + 4) = .ok (.ldc_w is, 3)) (d7 : decode cc (pc + 7) = .ok (.invokespecial ic, 3)) (d10 : decode cc (pc + 10) = .ok (.athrow, 1))
    (hout : ∀ x ∈ c.exceptionTable.toList, covers x (pc + 10) = false)
    (hRframes : names.length + 3 < R.frames) (hRlocals : (rest.map fun v => v.category).sum + (13 * (names.length + 1) + 43) ≤ R.locals) (hRcells : cells + 1 ≤ R.cells) (hRslots : slots + 6 ≤ R.slots) (hlocks : meth.locks = false)
    (hx : ∀ t : State, s.vm.Alike t.vm → H.size ≤ t.heap.size → (∀ q : Nat, q < H.size → t.heap[q]? = H[q]?) → XC cls s t)
    (hf : ∀ z ∈ locs, free z.base) (hc : cells + 1 ≤ mc) (hs : slots + 6 ≤ ms) :
    W p l e R s m args below meth c H locs cells slots (vx_MQ below Qc XC args s mc ms free) (F0 m pc ls rest) := by
  intro T hT X
  have htr : e.platform.stackTraces = false := (show e.platform.stackTraces = l.stackTraces by rw [X.admits.platform]).trans hl
  have Y := vx_rebase X (R' := { frames := R.frames, locals := R.locals, cells := 1, slots := 6 }) (Nat.le_refl _) (Nat.le_refl _) hRcells hRslots
  obtain ⟨s', hA⟩ : ∃ z, z = (T.setVm s.vm).setFrames (.invoking m args :: below) := ⟨_, rfl⟩
  rw [← hA] at Y
  have hvm : s'.vm = s.vm := by rw [hA]; rfl
  have hhp : s'.heap = H := by rw [hA]; exact hT
  have hW0 : s.WarmedH s'.vm := by rw [hvm]; exact State.WarmedH.refl s
  have hat' : ∀ w ∈ vx_atS own ic cls names, w.before args s' = true := fun w hw => vx_ot_at hW0 hvm.symm (hgood w (List.mem_cons_of_mem _ (List.mem_cons_of_mem _ hw))) (hat w hw)
  have hk' : (Cond.classLink own ik cls).before args s' = true := vx_ot_at hW0 hvm.symm (hgood _ List.mem_cons_self) hk
  have hini' : (Cond.initialized cls).before args s' = true := vx_ot_at hW0 hvm.symm (hgood _ (List.mem_cons_of_mem _ List.mem_cons_self)) hini
  have hU' : vx_Zq Bundle.tN "UNASSIGNED_STACK" Bundle.steD A s' s'.heap := by rw [hhp]; exact vx_Zq.moved hW0.alike (hU.kept hS.2.1)
  have hN' : vx_Zq Bundle.tN "SUPPRESSED_SENTINEL" Bundle.listD A s' s'.heap := by rw [hhp]; exact vx_Zq.moved hW0.alike (hN.kept hS.2.1)
  have h : ∀ w ∈ Bundle.ownAtoms own ic cls names, w.before args s' = true := vx_own hat' (vx_isRefq hU'.1) (vx_isRefq hN'.1) hU'.2.word hN'.2.word
  have hown' : s'.vm.findClass own = some m.cls := by rw [hvm]; exact hown
  have hins : (Cond.instantiable cls 6).before args s' = true := h _ (by simp [Bundle.ownAtoms])
  obtain ⟨vm₁, cX, kX, hfX, hkX, -, -, X₁, st1⟩ := Y.newCold hexec (own := own) (C := cls) (index := ik) (n := 6) hown' hk' hins hini'
    (g := F0 m pc ls rest) rfl (by rw [hb]; exact d0) (Nat.le_refl _) (Nat.le_refl _)
  generalize hT1 : (T.setVm vm₁).pushCell { cls := cX, slots := kX.instanceTypes.map defaultValue, vm := .none } = T1 at X₁ st1
  have hcat : (Value.ref T.heap.size).category = 1 := rfl
  have hcellA : T1.heap[T.heap.size]? = some (freshCell cX kX) := by rw [← hT1]; exact State.heap_pushCell_size _ _
  have d3' : decode c.code (pc + 3) = .ok (.dup, 1) := by rw [hb]; exact d3
  have d4' : decode c.code (pc + 4) = .ok (.ldc_w is, 3) := by rw [hb]; exact d4
  have hstr' : vk_R own is text sa s' := vk_R.warm hW0 hstr
  obtain ⟨U, hsteps, hrun, hend, hW, hsame, ce, hce, hO⟩ := X₁.ctorThrowS hexec htr (own := own) (cls := cls) (names := names) (ic := ic) hown' hcls hnames h (fun x hx => nomatch hx) hfX hkX hcellA (by rw [hhp, hT]; exact Nat.le_refl _) (msg := .ref sa) rfl
    (g := { method := m, pc := pc + 7, locals := ls, stack := .ref sa :: .ref T.heap.size :: .ref T.heap.size :: rest, locked := none }) rfl hsize rfl rfl (rest := rest) rfl
    (by rw [hb]; exact d7) (by rw [hb]; exact d10) hout hRframes (by simp only [List.map_cons, List.sum_cons, hcat]; omega) hlocks
  obtain ⟨f1, f2⟩ := vx_frame hsame
  rw [hhp] at f1 f2
  have hWs : s.WarmedH U.vm := State.WarmedH.trans hW0 hW
  have hcl : s.vm.findClass cls = some ce.cls := by
    have h9 := hO.cls
    rw [hvm] at h9
    exact h9
  have hall : s.sameButNew ({ U with vm := s.vm } : State) locs mc ms := by
    subst hA
    obtain ⟨e1, e2⟩ := hsame
    rw [State.setFrames_setFrames] at e1
    have h2 : (T.setVm s.vm).sameButNew ({ U with vm := s.vm } : State) [] (0 + 1) (0 + 6) := ⟨e1, e2⟩
    have h3 := X.same.trans h2
    rw [List.append_nil] at h3
    exact h3.mono hc hs
  refine ⟨U, ?_, .threw T.heap.size, hrun, hend, Or.inr ⟨T.heap.size, rfl, cls, ce, locs, hx U hWs.alike f1 (fun q hq => f2 q hq (fun z hz => nomatch hz)), hce, hO.vm, hcl, hWs, hall, hf⟩⟩
  refine st1 _ ?_
  show Steps p.tables e below (T1.setTop { method := m, pc := pc + 3, locals := ls, stack := .ref T.heap.size :: rest, locked := none }) _
  jvm_step X₁.here [X₁.here.top, hexec, d3', Value.category]
  exact X₁.ldcStringW hexec (own := own) (text := text) (index := is) (a := sa) hown' hstr'.1 hstr'.2
    (g := { method := m, pc := pc + 4, locals := ls, stack := .ref T.heap.size :: .ref T.heap.size :: rest, locked := none }) rfl d4' _ hsteps
end Ends
section Bodies
variable {l : Launch}
theorem vx_ofW {y : MethodName} {ws ws' : List Cond} {rm : Room} {Pc : Array Value → State → Prop} {Qc : Array Value → State → Outcome → State → Prop} {XC : String → State → State → Prop} {mc ms : Nat} {free : Addr → Prop} {cc : ByteArray} {maxL : Nat} {ret : Option FieldType}
    (hy : plainName y.cls = true) (hw : ws = Cond.code y cc maxL ret :: ws')
    (body : ∀ p e s m args below meth c s₁, BodyLoose p l y (headSpec ws rm) cc maxL ret e s m args below meth c s₁ → c.maxLocals = maxL → (∀ x ∈ c.exceptionTable.toList, False) → Pc args s →
      W p l e (headSpec ws rm).room s m args below meth c s.heap [] 0 0 (vx_MQ below Qc XC args s mc ms free) (entryFrame m args maxL)) : vx_Met l y ws rm Pc Qc XC mc ms free := by
  refine MetFree.of_bodyS (code := cc) (maxLocals := maxL) (ret := ret) hy ?_ ?_
  · intro args s m h hn
    obtain ⟨meth, c, h1, h2, h3, h4, h5, h6, -, -⟩ := Cond.code_spec hn (atoms_spec (ws := ws) h _ (by rw [hw]; exact List.mem_cons_self))
    exact ⟨meth, c, h1, h2, h3, h4, h5, h6⟩
  · intro p e s m args below meth c s₁ B hml hP _
    have hh0 : s₁.heap = s.heap := by rw [B.state]; rfl
    have ht : ∀ x ∈ c.exceptionTable.toList, False := by
      obtain ⟨meth9, c9, h1, h2, -, -, -, -, h7, -⟩ := Cond.code_spec B.named (atoms_spec (ws := ws) B.pre _ (by rw [hw]; exact List.mem_cons_self))
      cases Option.some.inj (h1.symm.trans B.method)
      cases Option.some.inj (h2.symm.trans (Stand.of_body B).code)
      intro x hx
      rw [Array.isEmpty_iff.mp h7] at hx
      cases hx
    obtain ⟨t, a1, o, b1, b2, b3⟩ := body p e s m args below meth c s₁ B hml ht hP s₁ hh0 (Stand.of_body B)
    exact ⟨t, o, a1, b1, b2, b3⟩
/-- the table of a body with handlers -/
theorem vx_table {p : Program} {x y : MethodName} {S : Spec} {cc bytes : ByteArray} {maxL maxL' : Nat} {ret ret' : Option FieldType} {e : Env} {s s₁ : State} {m : MethodId} {args : Array Value} {below : List Frame} {meth : Method} {c : Code} {hh : List (Nat × Nat × Nat × Nat)}
    (B : BodyLoose p l y S cc maxL ret e s m args below meth c s₁) (h : (Cond.codeWith y bytes maxL' ret' hh).before args s = true) : c.exceptionTable.toList = tableOf hh := by
  obtain ⟨m9, meth9, c9, hn9, h1, h2, -, -, h6, -⟩ := Cond.codeWith_spec h
  cases Option.some.inj (hn9.symm.trans B.named)
  cases Option.some.inj (h1.symm.trans B.method)
  cases Option.some.inj (h2.symm.trans (Stand.of_body B).code)
  rw [← h6, table_eq]
end Bodies
end VXA
/-! ===== END ===== -/
/-! ===== BEGIN a static call of a method with an exception table ===== -/
section VXS
variable {p : Program} {l : Launch} {e : Env} {R : Room} {s : State} {m : MethodId} {args : Array Value} {below : List Frame} {meth : Method} {c : Code} {T : State} {H : Heap} {locs : List Loc} {cells slots : Nat}
abbrev vx_CSW (R : Room) (s : State) (args : Array Value) (own : String) (index : Nat) (y : MethodName) (bytes : ByteArray) (maxL : Nat) (ret : Option FieldType) (hh : List (Nat × Nat × Nat × Nat)) (ws : List Cond) (rm : Room) (mc ms n : Nat) : Prop :=
  (rm.cells = mc ∧ rm.slots = ms ∧ rm.frames + 1 ≤ R.frames ∧ 8 + (maxL + 11) + rm.locals ≤ R.locals ∧ (∀ w ∈ ws, ∀ (a' : Array Value) (U : State), s.WarmedH U.vm → w.before a' U = true) ∧ Cond.codeWith y bytes maxL ret hh ∈ ws) ∧
  (Cond.codeWith y bytes maxL ret hh).before args s = true ∧ (Cond.initialized y.cls).before args s = true ∧ (y.cls ≠ "java/lang/invoke/MethodHandle" ∧ y.cls ≠ "java/lang/invoke/VarHandle") ∧
  (∀ sig, parseMethodDescriptor y.desc = some sig → n = sig.parameters.length) ∧ (Cond.methodLink own index y).before args s = true ∧ (Cond.static y).before args s = true
theorem vx_cwSW {own : String} {index maxL mc ms : Nat} {y : MethodName} {bytes : ByteArray} {ret : Option FieldType} {hh : List (Nat × Nat × Nat × Nat)} {Ts ws ws' : List Cond} {rm : Room} (n : Nat) (ht : ∀ w ∈ Ts, w.before args s = true) (hT : GoodIn Ts (va_wsS own index y ws)) (hw : ws = Cond.codeWith y bytes maxL ret hh :: ws') (hrc : rm.cells = mc) (hrs : rm.slots = ms)
    (hd : y.cls ≠ "java/lang/invoke/MethodHandle" ∧ y.cls ≠ "java/lang/invoke/VarHandle" ∧ (parseMethodDescriptor y.desc).map (fun d => d.parameters.length) = some n) (hR : rm.frames + 1 ≤ R.frames ∧ 8 + (maxL + 11) + rm.locals ≤ R.locals) :
    vx_CSW R s args own index y bytes maxL ret hh ws rm mc ms n := by
  have ok : ∀ w ∈ va_wsS own index y ws, w.before args s = true := fun w h => ht w (hT w h).1
  have hG : GoodIn Ts ws := fun w h => hT w (by unfold va_wsS; exact List.mem_append_right _ h)
  have hc : Cond.codeWith y bytes maxL ret hh ∈ ws := by rw [hw]; exact List.mem_cons_self
  refine ⟨⟨hrc, hrs, hR.1, hR.2, pay_in ht hG, hc⟩, ht _ (hG _ hc).1, ok _ (by simp [va_wsS]), ⟨hd.1, hd.2.1⟩, fun sig h => ?_, ok _ (by simp [va_wsS]), ok _ (by simp [va_wsS])⟩
  have h2 := hd.2.2
  rw [h] at h2
  exact (Option.some.inj h2).symm
theorem vx_callSW (X : Stand p l e R s m args below meth c T locs cells slots) (hexec : p.tables.exec = Jvm.exec) {own : String} {index : Nat} {y : MethodName} {bytes : ByteArray} {maxL : Nat} {ret : Option FieldType} {hh : List (Nat × Nat × Nat × Nat)}
    (hown : s.vm.findClass own = some m.cls) (hlink : (Cond.methodLink own index y).before args s = true) (hstat : (Cond.static y).before args s = true) (hinit : (Cond.initialized y.cls).before args s = true)
    (hcode : (Cond.codeWith y bytes maxL ret hh).before args s = true) (hy : y.cls ≠ "java/lang/invoke/MethodHandle" ∧ y.cls ≠ "java/lang/invoke/VarHandle")
    {W9 : Nat} {Pre : Pt → Array Value → Prop} {Post : Pt → Array Value → Option Value → Pt → Prop} (hK : Back l R p e below s args y 3 W9 Pre Post)
    {g : JFrame} (hg : g.method = m) (hsize : g.locals.size = c.maxLocals) {argsL rest : List Value} (hlen : ∀ sig, parseMethodDescriptor y.desc = some sig → argsL.length = sig.parameters.length)
    (hstack : g.stack = argsL.reverse ++ rest) (hW : 2 * g.monitorRoom + (rest.map fun v => v.category).sum ≤ W9) (hdg : decode c.code g.pc = .ok (.invokestatic index, 3))
    (hpre : ∀ vm₁, s.WarmedH vm₁ → Pre ⟨T.setVm vm₁, locs, cells, slots⟩ argsL.toArray) :
    ∃ (v : Option Value) (vm₁ : Vm) (B : Pt), s.WarmedH vm₁ ∧ Stand p l e R s m args below meth c B.U B.locs B.cells B.slots ∧ Post ⟨T.setVm vm₁, locs, cells, slots⟩ argsL.toArray v B ∧
      ∀ target, Steps p.tables e below (B.U.setTop { g with pc := g.pc + 3, stack := v.toList ++ rest }) target → Steps p.tables e below (T.setTop g) target := by
  obtain ⟨mk, methM, cM, hnamed, hmethM, -, -, -, -, -, -, hsigM⟩ := Cond.codeWith_spec hcode
  have hstatic : methM.isStatic = true := Cond.static_spec hnamed hmethM hstat
  obtain ⟨kP, hkP, -⟩ := className_of_methodNamed hnamed
  have hinitP : kP.init = .initialized := Cond.initialized_spec (findClass_of_methodNamed hnamed) hkP hinit
  obtain ⟨vm₁, X₁, hstep₁⟩ := X.invokestatic hexec hown hlink hnamed hmethM hstatic hkP hinitP hy (g := g) hg (argsL := argsL) (rest := rest) (hlen _ hsigM) hstack hdg
  obtain ⟨v, B, X', hpost, hsteps⟩ := hK m meth c ⟨T.setVm vm₁, locs, cells, slots⟩ { g with stack := rest } (.invokestatic index) mk argsL.toArray X₁ hg hsize hdg hW (X₁.named hnamed) (hpre vm₁ X₁.warmed)
  exact ⟨v, vm₁, B, X₁.warmed, X', hpost, fun target h => hstep₁ _ fun acts => by rw [doInvoke_state]; exact hsteps.trans h⟩
theorem vx_runSW {y : MethodName} {bytes cc : ByteArray} {maxL nL mc ms n index : Nat} {ret : Option FieldType} {hh : List (Nat × Nat × Nat × Nat)} {ws : List Cond} {rm : Room} {Pc : Array Value → State → Prop} {Qc : Array Value → State → Outcome → State → Prop} {free : Addr → Prop} {Ts : List Cond} {own : String} {As rest : List Value} {g : JFrame}
    (S : CallFix p m c cc nL s args Ts own) (hM : Met l y ws rm Pc Qc mc ms free) (cw : vx_CSW R s args own index y bytes maxL ret hh ws rm mc ms n) (hp : PreS s H Pc As)
    (hg : g.method = m) (hn : As.length = n) (hsize : g.locals.size = nL) (hstack : g.stack = As.reverse ++ rest) (hW : 2 * g.monitorRoom + (rest.map fun v => v.category).sum ≤ 8) (hdg : decode cc g.pc = .ok (.invokestatic index, 3)) (hf : cells + mc ≤ R.cells ∧ slots + ms ≤ R.slots) :
    va_Run p l e R s m args below meth c H locs cells slots mc ms g rest (Qc As.toArray) (free) := by
  obtain ⟨⟨hrc, hrs, hfr, hlo, hws, hcw⟩, hcode, hini, hy, hlen, hl, hstt⟩ := cw
  have hK : Back l R p e below s args y 3 8 (PreOf R mc ms Pc) (PostOf Qc mc ms free) := va_backW (hh := hh) (bytes := bytes) (maxL := maxL) (ret := ret) hM hp.1 hrc hrs hfr hlo hws hcw (fun a' U hW => word_at hW (Or.inl (by first | rfl | simp [Cond.onTables, Cond.keeps, Cond.steady])) hini)
  obtain ⟨hx, hb, hml, ho, -⟩ := S
  intro T hT X
  obtain ⟨v, vm₁, ⟨U', l2, c2, s2⟩, hW₁, X', ⟨g', mk, t, L, e1, e2, hq, h1, hL, h2, h3⟩, st⟩ := vx_callSW X hx (hh := hh) (bytes := bytes) (maxL := maxL) (ret := ret) ho hl hstt hini hcode hy hK hg (hsize.trans hml.symm) (argsL := As) (rest := rest) (fun sig h => hn.trans (hlen sig h)) hstack hW (by rw [hb]; exact hdg)
    (fun vm₁ hW₁ => ⟨hf.1, hf.2, hp.2 (T.setVm vm₁) hT hW₁⟩)
  dsimp only [Pt.U, Pt.locs, Pt.cells, Pt.slots] at X' e1 e2 h1 h2 h3 st
  subst h1; subst h2; subst h3
  exact ⟨v, (T.setVm vm₁).calling g' mk As.toArray, t, U', L, hT, X', hL, e1, e2, hq, st⟩
/-- not caught here, past rows that name other classes: it goes on to the caller -/
theorem vx_outP {p : Program} {l : Launch} {e : Env} {R : Room} {s : State} {m : MethodId} {args : Array Value} {below : List Frame} {meth : Method} {c : Code} {H : Heap} {locs : List Loc} {cells slots : Nat} {free : Addr → Prop} {ls : Array Slot} {rest : List Value} {Qc : Array Value → State → Outcome → State → Prop} {XC : String → State → State → Prop}
    {pc : Nat} {own E : String} {ce : Cell} {q : Addr} {mc ms : Nat} (hown : s.vm.findClass own = some m.cls) (hlocks : meth.locks = false)
    (hpass : ∀ z ∈ c.exceptionTable.toList, covers z pc = false ∨ (z.catchType ≠ 0 ∧ ∃ nm : String, (Cond.classLink own z.catchType nm).before args s = true ∧ va_Nc E nm s)) (hcell : H[q]? = some ce) (hv : ce.vm = .none) (hcl : s.vm.findClass E = some ce.cls)
    (hx : ∀ t : State, t.heap = H → s.vm.Alike t.vm → XC E s t) (hf : ∀ z ∈ locs, free z.base) (hc : cells ≤ mc) (hs : slots ≤ ms) :
    vx_W p l e R s m args below meth c H locs cells slots (vx_MQ below Qc XC args s mc ms free) (F0 m pc ls rest) q := by
  intro T hT X
  have hpl : e.platform.magicAccessors = ({} : Platform).magicAccessors := by rw [X.admits.platform]
  obtain ⟨vm', hW', X', st⟩ := X.outThrough hlocks q (g := F0 m pc ls rest) rfl rfl rfl (cell := ce) (by rw [hT]; exact hcell) (by rw [hv]; rfl)
    (by obtain ⟨k9, h9, -⟩ := Vm.findClass_spec hcl; exact ⟨k9, h9⟩) (fun z hz => by
      rcases hpass z hz with h | ⟨hz0, nm, hl1, hn1⟩
      · exact Or.inl h
      · obtain ⟨c6, hc6, hcl6⟩ := Cond.classLink_spec hown hl1 e.platform hpl
        obtain ⟨a8, b8, h1, h2, h3⟩ := hn1
        cases Option.some.inj (h1.symm.trans hcl)
        cases Option.some.inj (h2.symm.trans hc6)
        exact Or.inr ⟨hz0, _, hcl6, h3⟩)
  obtain ⟨g₀, hfr⟩ := X'.frames_eq
  have hcell9 : ((T.setVm vm').setFrames (.throwing q :: below)).heap[q]? = some ce := by
    show T.heap[q]? = some ce
    rw [hT]; exact hcell
  have hend : Ended ((T.setVm vm').setFrames (.throwing q :: below)) below (.threw q) := State.frames_setFrames _ (State.cur_lt_of_frames hfr)
  refine ⟨(T.setVm vm').setFrames (.throwing q :: below), ?_, .threw q, X'.here.running, hend, Or.inr ⟨q, rfl, E, ce, locs, hx _ hT (X'.ends _).1.alike, hcell9, hv, hcl, (X'.ends _).1, (X'.ends _).2.mono hc hs, hf⟩⟩
  rw [X.pushThrowing_eq]
  exact st
/-- a thing of a world lies in the heap -/
theorem vx_lt {D : va_G} {cl : List vw_C} {ws : va_W} {H1 : Heap} (h : va_P D cl ws H1) {k : Nat} {q : Nat × va_E} (hk : ws[k]? = some q) : q.1 < H1.size := (h k q hk).lt
end VXS
/-! ===== END ===== -/
/-! ===== BEGIN methods with a table of their own: called by a name, returning or throwing ===== -/
section VXH
/-! vx_backW, vx_callVX, vx_callSX, vx_callVW, vx_runVW, vx_runVX, vx_runSX, vx_ofWH follow the same proofs as their sisters above (Free/Laws.lean, Shelf42/LK1.lean); vx_outP calls Shelf42/NT130.lean (outThrough). -/
section
variable {l : Launch} {R : Room} {p : Program} {e : Env} {below : List Frame} {s : State} {sargs : Array Value} {y : MethodName} {len W9 : Nat}
theorem vx_backW {ws : List Cond} {rm : Room} {Pc : Array Value → State → Prop} {Qc : Array Value → State → Outcome → State → Prop} {XC : String → State → State → Prop} {mc ms : Nat} {free : Addr → Prop} {bytes : ByteArray} {maxL : Nat} {ret : Option FieldType} {hh : List (Nat × Nat × Nat × Nat)}
    (hM : vx_Met l y ws rm Pc Qc XC mc ms free) (hblind : FrameBlind Pc) (hrc : rm.cells = mc) (hrs : rm.slots = ms)
    (hframes : rm.frames + 1 ≤ R.frames) (hlocals : W9 + (maxL + 11) + rm.locals ≤ R.locals)
    (hws : ∀ w ∈ ws, ∀ a' U, s.WarmedH U.vm → w.before a' U = true) (hcode : Cond.codeWith y bytes maxL ret hh ∈ ws) (hinit : ∀ a' U, s.WarmedH U.vm → (Cond.initialized y.cls).before a' U = true) :
    vx_Back l R p e below s sargs y len W9 (PreOf R mc ms Pc) (PostOf Qc mc ms free) (vx_Post XC mc ms free) := by
  intro m meth c A g ig mk a X hg hsize hdg hW hn hp
  have h1 : (headSpec ws rm).pre.before a A.U = true := atoms_intro fun w hw => hws w hw _ _ X.warmed
  have h2 : (Cond.codeWith y bytes maxL ret hh).before a A.U = true := hws _ hcode _ _ X.warmed
  have h3 : (Cond.initialized y.cls).before a A.U = true := hinit _ _ X.warmed
  have h4 : A.cells + (headSpec ws rm).room.cells ≤ R.cells := by rw [show (headSpec ws rm).room.cells = mc from hrc]; exact hp.1
  have h5 : A.slots + (headSpec ws rm).room.slots ≤ R.slots := by rw [show (headSpec ws rm).room.slots = ms from hrs]; exact hp.2.1
  have hPc : Pc a (A.U.calling g mk a) := hblind _ _ _ _ hp.2.2
  obtain ⟨U, Ls, c0, s0⟩ := A
  dsimp only [Pt.U, Pt.locs, Pt.cells, Pt.slots] at h1 h2 h3 h4 h5 X hn hPc ⊢
  obtain ⟨m9, methY, cY, hn9, hmY, hcY, -, hlY, -⟩ := Cond.codeWith_spec h2
  cases Option.some.inj (hn9.symm.trans hn)
  obtain ⟨kY, hkY, -⟩ := className_of_methodNamed hn
  have hinitY : kY.init = .initialized := Cond.initialized_spec (findClass_of_methodNamed hn) hkY h3
  have h : At U g.method c below := by rw [hg]; exact X.here
  have hlocals9 : W9 + (maxL + 11) + (headSpec ws rm).room.locals ≤ R.locals := hlocals
  have happ : (headSpec ws rm).appliesLoose y e.platform (U.calling g mk a) = true :=
    Spec.appliesLoose_calling (g := g) h hdg hn hkY hinitY
      (X.room_calling (g := g) (R' := (headSpec ws rm).room) hsize hmY hcY hframes (by rw [hlY]; omega) h4 h5) h1
  obtain ⟨mid, hmid⟩ := h.above
  have hfr : (U.setTop g).frames = (.java g :: mid) ++ below := by rw [State.frames_setTop' g h.top, hmid]; rfl
  obtain ⟨o, s₂, hsteps, -, hend, hq⟩ := Steps.callFree hM p X.admits X.cas X.clock (acts := []) hfr happ hPc trivial
  have hq' : vx_Q Qc XC mc ms free a (U.calling g mk a) o s₂ := hq
  rw [State.frames_setTop' g h.top] at hend
  obtain ⟨g₀, hg0⟩ := Option.isSome_iff_exists.mp h.top
  obtain ⟨r, hr⟩ := State.topJava?_eq_some.mp hg0
  have hr' : (({ U with heap := s₂.heap, slotsUsed := s₂.slotsUsed } : State).setVm s₂.vm).frames = .java g₀ :: r := hr
  rcases hq' with ⟨hqc, L, hfe, hL⟩ | ⟨q, rfl, E, ce, L, hx, hce, hcv, hcl, hW₂, hsm, hL⟩
  · obtain ⟨⟨v, rfl⟩, hW₂, e2, q2, q3, q4, q5, q6⟩ := id hfe
    have e3 : s₂ = ({ (U.calling g mk a).setFrames s₂.frames with heap := s₂.heap, slotsUsed := s₂.slotsUsed } : State).setVm s₂.vm := by
      have : s₂ = ({ s₂ with vm := (U.calling g mk a).vm } : State).setVm s₂.vm := rfl
      rw [e2] at this
      exact this
    obtain ⟨c₂, i₂, len₂, hc₂, hd₂, hf₂⟩ := hend
    have hW' : U.WarmedH s₂.vm := hW₂
    have hcc : c₂ = c := by
      have h1 : s₂.code? g.method = U.code? g.method := by
        rw [State.code?_eq, State.code?_eq, hW'.alike.method?]
      exact Option.some.inj (hc₂.symm.trans (h1.trans h.code))
    subst hcc
    have hlen : len₂ = len := by rw [hdg] at hd₂; cases hd₂; rfl
    subst hlen
    have hs₂ : s₂ = (({ U with heap := s₂.heap, slotsUsed := s₂.slotsUsed } : State).setVm s₂.vm).setTop { g with pc := g.pc + len₂, stack := v.toList ++ g.stack } := by
      refine e3.trans ?_
      rw [hf₂, State.calling_eq h.top, State.setFrames_setFrames, State.setTop_of_frames _ hr', hr]
      rfl
    have hsame : U.sameButNew ({ U with heap := s₂.heap, slotsUsed := s₂.slotsUsed } : State) L mc ms := by
      refine ⟨?_, q2, q3, q4, q5, q6⟩
      obtain ⟨t, ht, -⟩ := State.frames_cons hr
      show ({ U with heap := s₂.heap, slotsUsed := s₂.slotsUsed } : State) = { U.setFrames U.frames with heap := s₂.heap, slotsUsed := s₂.slotsUsed }
      rw [State.setFrames_self ht]
    subst hg
    refine Or.inl ⟨v, ⟨(({ U with heap := s₂.heap, slotsUsed := s₂.slotsUsed } : State).setVm s₂.vm), Ls ++ L, c0 + mc, s0 + ms⟩,
      ⟨X.admits, X.cas, X.clock, X.frames, X.room, X.hears, X.method, X.code, (X.here.setHeapUsed s₂.heap s₂.slotsUsed).setVm hW'.alike, X.tail, State.WarmedH.trans X.warmed hW', X.limits, X.bytes, X.same.trans (hsame.setVm s.vm)⟩,
      ⟨g, mk, s₂, L, rfl, rfl, hqc, rfl, hL, rfl, rfl⟩, ?_⟩
    show Steps p.tables e below _ ((({ U with heap := s₂.heap, slotsUsed := s₂.slotsUsed } : State).setVm s₂.vm).setTop { g with pc := g.pc + len₂, stack := v.toList ++ g.stack })
    rw [← hs₂]
    exact hsteps
  · obtain ⟨e2, q2, q3, q4, q5, q6⟩ := id hsm
    have e3 : s₂ = ({ (U.calling g mk a).setFrames s₂.frames with heap := s₂.heap, slotsUsed := s₂.slotsUsed } : State).setVm s₂.vm := by
      have : s₂ = ({ s₂ with vm := (U.calling g mk a).vm } : State).setVm s₂.vm := rfl
      rw [e2] at this
      exact this
    have hf₂ : s₂.frames = .throwing q :: .java g :: U.frames.tail := hend
    have hW' : U.WarmedH s₂.vm := hW₂
    have hs₂ : s₂ = ((({ U with heap := s₂.heap, slotsUsed := s₂.slotsUsed } : State).setVm s₂.vm).setTop g).pushFrame (.throwing q) := by
      refine e3.trans ?_
      rw [hf₂, State.calling_eq h.top, State.setFrames_setFrames, State.pushFrame, State.frames_setTop _ hr', State.setTop_of_frames _ hr', State.setFrames_setFrames, hr]
      rfl
    have hsame : U.sameButNew ({ U with heap := s₂.heap, slotsUsed := s₂.slotsUsed } : State) L mc ms := by
      refine ⟨?_, q2, q3, q4, q5, q6⟩
      obtain ⟨t, ht, -⟩ := State.frames_cons hr
      show ({ U with heap := s₂.heap, slotsUsed := s₂.slotsUsed } : State) = { U.setFrames U.frames with heap := s₂.heap, slotsUsed := s₂.slotsUsed }
      rw [State.setFrames_self ht]
    subst hg
    refine Or.inr ⟨q, ⟨(({ U with heap := s₂.heap, slotsUsed := s₂.slotsUsed } : State).setVm s₂.vm), Ls ++ L, c0 + mc, s0 + ms⟩,
      ⟨X.admits, X.cas, X.clock, X.frames, X.room, X.hears, X.method, X.code, (X.here.setHeapUsed s₂.heap s₂.slotsUsed).setVm hW'.alike, X.tail, State.WarmedH.trans X.warmed hW', X.limits, X.bytes, X.same.trans (hsame.setVm s.vm)⟩,
      ⟨g, mk, s₂, L, E, ce, rfl, rfl, hx, hce, hcv, hcl, rfl, hL, rfl, rfl⟩, ?_⟩
    show Steps p.tables e below _ (((({ U with heap := s₂.heap, slotsUsed := s₂.slotsUsed } : State).setVm s₂.vm).setTop g).pushFrame (.throwing q))
    rw [← hs₂]
    exact hsteps
end
variable {p : Program} {l : Launch} {e : Env} {R : Room} {s : State} {m : MethodId} {args : Array Value} {below : List Frame} {meth : Method} {c : Code} {T : State} {H : Heap} {locs : List Loc} {cells slots : Nat}
theorem vx_callVX (X : Stand p l e R s m args below meth c T locs cells slots) (hexec : p.tables.exec = Jvm.exec) {own C : String} {index : Nat} {y : MethodName} {bytes : ByteArray} {maxL : Nat} {ret : Option FieldType} {hh : List (Nat × Nat × Nat × Nat)}
    (hown : s.vm.findClass own = some m.cls) (hlink : (Cond.methodLink own index y).before args s = true) (hinst : (Cond.instanceMethod y).before args s = true) (hsel : (Cond.selects C y y).before args s = true)
    (hcode : (Cond.codeWith y bytes maxL ret hh).before args s = true) (hy : y.cls ≠ "java/lang/invoke/MethodHandle" ∧ y.cls ≠ "java/lang/invoke/VarHandle")
    {W9 : Nat} {Pre : Pt → Array Value → Prop} {Post : Pt → Array Value → Option Value → Pt → Prop} {PostX : Pt → Array Value → Addr → Pt → Prop} (hK : vx_Back l R p e below s args y 3 W9 Pre Post PostX)
    {b : Addr} {cellB : Cell} (hcell : T.heap[b]? = some cellB) (hobj : cellB.vm.isStatics = false) (hcls : s.vm.findClass C = some cellB.cls)
    {g : JFrame} (hg : g.method = m) (hsize : g.locals.size = c.maxLocals) {argsL rest : List Value} (hlen : ∀ sig, parseMethodDescriptor y.desc = some sig → argsL.length = sig.parameters.length)
    (hstack : g.stack = argsL.reverse ++ .ref b :: rest) (hW : 2 * g.monitorRoom + (rest.map fun v => v.category).sum ≤ W9) (hdg : decode c.code g.pc = .ok (.invokevirtual index, 3))
    (hpre : ∀ vm₁, s.WarmedH vm₁ → Pre ⟨T.setVm vm₁, locs, cells, slots⟩ (Value.ref b :: argsL).toArray) :
    (∃ (v : Option Value) (vm₁ : Vm) (B : Pt), s.WarmedH vm₁ ∧ Stand p l e R s m args below meth c B.U B.locs B.cells B.slots ∧ Post ⟨T.setVm vm₁, locs, cells, slots⟩ (Value.ref b :: argsL).toArray v B ∧
      ∀ target, Steps p.tables e below (B.U.setTop { g with pc := g.pc + 3, stack := v.toList ++ rest }) target → Steps p.tables e below (T.setTop g) target) ∨
    (∃ (q : Addr) (vm₁ : Vm) (B : Pt), s.WarmedH vm₁ ∧ Stand p l e R s m args below meth c B.U B.locs B.cells B.slots ∧ PostX ⟨T.setVm vm₁, locs, cells, slots⟩ (Value.ref b :: argsL).toArray q B ∧
      Steps p.tables e below (T.setTop g) ((B.U.setTop { g with stack := rest }).pushFrame (.throwing q))) := by
  obtain ⟨mk, methM, hnamed, hmethM, hstM, habM⟩ := Cond.instanceMethod_spec hinst
  obtain ⟨m8, methM', cM, hn8, hmethM', -, -, -, -, -, -, hsigM⟩ := Cond.codeWith_spec hcode
  cases Option.some.inj (hn8.symm.trans hnamed)
  cases hmethM.symm.trans hmethM'
  obtain ⟨c2, r2, m2, q1, q2, q3, q4, kP, hkP, hkPi⟩ := Cond.selects_spec hsel
  cases hcls.symm.trans q1
  cases (State.methodFound?_of_named hnamed hy).symm.trans q2
  cases hnamed.symm.trans q3
  have hselP : selectMethod e.platform s.vm cellB.cls mk = .method mk := by rw [Launch.admits_selectMethod X.admits]; exact q4
  obtain ⟨vm₁, X₁, hstep₁⟩ := X.invokevirtual hexec hown hlink hnamed hmethM hstM hkP hkPi hy (a := b) (cell := cellB) hcell
    (fun z h => by rw [h] at hobj; cases hobj) hselP hmethM habM hkP hkPi (g := g) hg (argsL := argsL) (rest := rest) (hlen _ hsigM) hstack hdg
  rcases hK m meth c ⟨T.setVm vm₁, locs, cells, slots⟩ { g with stack := rest } (.invokevirtual index) mk (Value.ref b :: argsL).toArray X₁ hg hsize hdg hW (X₁.named hnamed) (hpre vm₁ X₁.warmed) with ⟨v, B, X', hpost, hsteps⟩ | ⟨q, B, X', hpost, hsteps⟩
  · exact Or.inl ⟨v, vm₁, B, X₁.warmed, X', hpost, fun target h => hstep₁ _ fun acts => by rw [doInvoke_state]; exact hsteps.trans h⟩
  · exact Or.inr ⟨q, vm₁, B, X₁.warmed, X', hpost, hstep₁ _ fun acts => by rw [doInvoke_state]; exact hsteps⟩
theorem vx_callSX (X : Stand p l e R s m args below meth c T locs cells slots) (hexec : p.tables.exec = Jvm.exec) {own : String} {index : Nat} {y : MethodName} {bytes : ByteArray} {maxL : Nat} {ret : Option FieldType} {hh : List (Nat × Nat × Nat × Nat)}
    (hown : s.vm.findClass own = some m.cls) (hlink : (Cond.methodLink own index y).before args s = true) (hstat : (Cond.static y).before args s = true) (hinit : (Cond.initialized y.cls).before args s = true)
    (hcode : (Cond.codeWith y bytes maxL ret hh).before args s = true) (hy : y.cls ≠ "java/lang/invoke/MethodHandle" ∧ y.cls ≠ "java/lang/invoke/VarHandle")
    {W9 : Nat} {Pre : Pt → Array Value → Prop} {Post : Pt → Array Value → Option Value → Pt → Prop} {PostX : Pt → Array Value → Addr → Pt → Prop} (hK : vx_Back l R p e below s args y 3 W9 Pre Post PostX)
    {g : JFrame} (hg : g.method = m) (hsize : g.locals.size = c.maxLocals) {argsL rest : List Value} (hlen : ∀ sig, parseMethodDescriptor y.desc = some sig → argsL.length = sig.parameters.length)
    (hstack : g.stack = argsL.reverse ++ rest) (hW : 2 * g.monitorRoom + (rest.map fun v => v.category).sum ≤ W9) (hdg : decode c.code g.pc = .ok (.invokestatic index, 3))
    (hpre : ∀ vm₁, s.WarmedH vm₁ → Pre ⟨T.setVm vm₁, locs, cells, slots⟩ argsL.toArray) :
    (∃ (v : Option Value) (vm₁ : Vm) (B : Pt), s.WarmedH vm₁ ∧ Stand p l e R s m args below meth c B.U B.locs B.cells B.slots ∧ Post ⟨T.setVm vm₁, locs, cells, slots⟩ argsL.toArray v B ∧
      ∀ target, Steps p.tables e below (B.U.setTop { g with pc := g.pc + 3, stack := v.toList ++ rest }) target → Steps p.tables e below (T.setTop g) target) ∨
    (∃ (q : Addr) (vm₁ : Vm) (B : Pt), s.WarmedH vm₁ ∧ Stand p l e R s m args below meth c B.U B.locs B.cells B.slots ∧ PostX ⟨T.setVm vm₁, locs, cells, slots⟩ argsL.toArray q B ∧
      Steps p.tables e below (T.setTop g) ((B.U.setTop { g with stack := rest }).pushFrame (.throwing q))) := by
  obtain ⟨mk, methM, cM, hnamed, hmethM, -, -, -, -, -, -, hsigM⟩ := Cond.codeWith_spec hcode
  have hstatic : methM.isStatic = true := Cond.static_spec hnamed hmethM hstat
  obtain ⟨kP, hkP, -⟩ := className_of_methodNamed hnamed
  have hinitP : kP.init = .initialized := Cond.initialized_spec (findClass_of_methodNamed hnamed) hkP hinit
  obtain ⟨vm₁, X₁, hstep₁⟩ := X.invokestatic hexec hown hlink hnamed hmethM hstatic hkP hinitP hy (g := g) hg (argsL := argsL) (rest := rest) (hlen _ hsigM) hstack hdg
  rcases hK m meth c ⟨T.setVm vm₁, locs, cells, slots⟩ { g with stack := rest } (.invokestatic index) mk argsL.toArray X₁ hg hsize hdg hW (X₁.named hnamed) (hpre vm₁ X₁.warmed) with ⟨v, B, X', hpost, hsteps⟩ | ⟨q, B, X', hpost, hsteps⟩
  · exact Or.inl ⟨v, vm₁, B, X₁.warmed, X', hpost, fun target h => hstep₁ _ fun acts => by rw [doInvoke_state]; exact hsteps.trans h⟩
  · exact Or.inr ⟨q, vm₁, B, X₁.warmed, X', hpost, hstep₁ _ fun acts => by rw [doInvoke_state]; exact hsteps⟩
theorem vx_callVW (X : Stand p l e R s m args below meth c T locs cells slots) (hexec : p.tables.exec = Jvm.exec) {own C : String} {index : Nat} {y : MethodName} {bytes : ByteArray} {maxL : Nat} {ret : Option FieldType} {hh : List (Nat × Nat × Nat × Nat)}
    (hown : s.vm.findClass own = some m.cls) (hlink : (Cond.methodLink own index y).before args s = true) (hinst : (Cond.instanceMethod y).before args s = true) (hsel : (Cond.selects C y y).before args s = true)
    (hcode : (Cond.codeWith y bytes maxL ret hh).before args s = true) (hy : y.cls ≠ "java/lang/invoke/MethodHandle" ∧ y.cls ≠ "java/lang/invoke/VarHandle")
    {W9 : Nat} {Pre : Pt → Array Value → Prop} {Post : Pt → Array Value → Option Value → Pt → Prop} (hK : Back l R p e below s args y 3 W9 Pre Post)
    {b : Addr} {cellB : Cell} (hcell : T.heap[b]? = some cellB) (hobj : cellB.vm.isStatics = false) (hcls : s.vm.findClass C = some cellB.cls)
    {g : JFrame} (hg : g.method = m) (hsize : g.locals.size = c.maxLocals) {argsL rest : List Value} (hlen : ∀ sig, parseMethodDescriptor y.desc = some sig → argsL.length = sig.parameters.length)
    (hstack : g.stack = argsL.reverse ++ .ref b :: rest) (hW : 2 * g.monitorRoom + (rest.map fun v => v.category).sum ≤ W9) (hdg : decode c.code g.pc = .ok (.invokevirtual index, 3))
    (hpre : ∀ vm₁, s.WarmedH vm₁ → Pre ⟨T.setVm vm₁, locs, cells, slots⟩ (Value.ref b :: argsL).toArray) :
    ∃ (v : Option Value) (vm₁ : Vm) (B : Pt), s.WarmedH vm₁ ∧ Stand p l e R s m args below meth c B.U B.locs B.cells B.slots ∧ Post ⟨T.setVm vm₁, locs, cells, slots⟩ (Value.ref b :: argsL).toArray v B ∧
      ∀ target, Steps p.tables e below (B.U.setTop { g with pc := g.pc + 3, stack := v.toList ++ rest }) target → Steps p.tables e below (T.setTop g) target := by
  obtain ⟨mk, methM, hnamed, hmethM, hstM, habM⟩ := Cond.instanceMethod_spec hinst
  obtain ⟨m8, methM', cM, hn8, hmethM', -, -, -, -, -, -, hsigM⟩ := Cond.codeWith_spec hcode
  cases Option.some.inj (hn8.symm.trans hnamed)
  cases hmethM.symm.trans hmethM'
  obtain ⟨c2, r2, m2, q1, q2, q3, q4, kP, hkP, hkPi⟩ := Cond.selects_spec hsel
  cases hcls.symm.trans q1
  cases (State.methodFound?_of_named hnamed hy).symm.trans q2
  cases hnamed.symm.trans q3
  have hselP : selectMethod e.platform s.vm cellB.cls mk = .method mk := by rw [Launch.admits_selectMethod X.admits]; exact q4
  obtain ⟨vm₁, X₁, hstep₁⟩ := X.invokevirtual hexec hown hlink hnamed hmethM hstM hkP hkPi hy (a := b) (cell := cellB) hcell
    (fun z h => by rw [h] at hobj; cases hobj) hselP hmethM habM hkP hkPi (g := g) hg (argsL := argsL) (rest := rest) (hlen _ hsigM) hstack hdg
  obtain ⟨v, B, X', hpost, hsteps⟩ := hK m meth c ⟨T.setVm vm₁, locs, cells, slots⟩ { g with stack := rest } (.invokevirtual index) mk (Value.ref b :: argsL).toArray X₁ hg hsize hdg hW (X₁.named hnamed) (hpre vm₁ X₁.warmed)
  exact ⟨v, vm₁, B, X₁.warmed, X', hpost, fun target h => hstep₁ _ fun acts => by rw [doInvoke_state]; exact hsteps.trans h⟩
abbrev vx_CVW (R : Room) (s : State) (args : Array Value) (own C : String) (index : Nat) (y : MethodName) (bytes : ByteArray) (maxL : Nat) (ret : Option FieldType) (hh : List (Nat × Nat × Nat × Nat)) (ws : List Cond) (rm : Room) (mc ms n : Nat) : Prop :=
  (rm.cells = mc ∧ rm.slots = ms ∧ rm.frames + 1 ≤ R.frames ∧ 8 + (maxL + 11) + rm.locals ≤ R.locals ∧ (∀ w ∈ ws, ∀ (a' : Array Value) (U : State), s.WarmedH U.vm → w.before a' U = true) ∧ Cond.codeWith y bytes maxL ret hh ∈ ws) ∧
  (Cond.codeWith y bytes maxL ret hh).before args s = true ∧ (Cond.initialized y.cls).before args s = true ∧ (y.cls ≠ "java/lang/invoke/MethodHandle" ∧ y.cls ≠ "java/lang/invoke/VarHandle") ∧
  (∀ sig, parseMethodDescriptor y.desc = some sig → n = sig.parameters.length) ∧ (Cond.methodLink own index y).before args s = true ∧ (Cond.instanceMethod y).before args s = true ∧ (Cond.selects C y y).before args s = true
theorem vx_cwVW {own C : String} {index maxL mc ms : Nat} {y : MethodName} {bytes : ByteArray} {ret : Option FieldType} {hh : List (Nat × Nat × Nat × Nat)} {Ts ws ws' : List Cond} {rm : Room} (n : Nat) (ht : ∀ w ∈ Ts, w.before args s = true) (hT : GoodIn Ts (wsV own index C y ws)) (hw : ws = Cond.codeWith y bytes maxL ret hh :: ws') (hrc : rm.cells = mc) (hrs : rm.slots = ms)
    (hd : y.cls = C ∧ y.cls ≠ "java/lang/invoke/MethodHandle" ∧ y.cls ≠ "java/lang/invoke/VarHandle" ∧ (parseMethodDescriptor y.desc).map (fun d => d.parameters.length) = some n) (hR : rm.frames + 1 ≤ R.frames ∧ 8 + (maxL + 11) + rm.locals ≤ R.locals) :
    vx_CVW R s args own C index y bytes maxL ret hh ws rm mc ms n := by
  obtain ⟨hC, hd⟩ := hd
  subst hC
  have ok : ∀ w ∈ wsV own index y.cls y ws, w.before args s = true := fun w h => ht w (hT w h).1
  have hG : GoodIn Ts ws := fun w h => hT w (by unfold wsV; exact List.mem_append_right _ h)
  have hc : Cond.codeWith y bytes maxL ret hh ∈ ws := by rw [hw]; exact List.mem_cons_self
  refine ⟨⟨hrc, hrs, hR.1, hR.2, pay_in ht hG, hc⟩, ht _ (hG _ hc).1, ok _ (by simp [wsV]), ⟨hd.1, hd.2.1⟩, fun sig h => ?_, ok _ (by simp [wsV]), ok _ (by simp [wsV]), ok _ (by simp [wsV])⟩
  have h2 := hd.2.2
  rw [h] at h2
  exact (Option.some.inj h2).symm
theorem vx_runVW {y : MethodName} {bytes cc : ByteArray} {maxL nL mc ms n index : Nat} {ret : Option FieldType} {hh : List (Nat × Nat × Nat × Nat)} {ws : List Cond} {rm : Room} {Pc : Array Value → State → Prop} {Qc : Array Value → State → Outcome → State → Prop} {free : Addr → Prop} {Ts : List Cond} {own C : String} {b : Addr} {As rest : List Value} {g : JFrame}
    (S : CallFix p m c cc nL s args Ts own) (hM : Met l y ws rm Pc Qc mc ms free) (cw : vx_CVW R s args own C index y bytes maxL ret hh ws rm mc ms n) (hp : PreV s H C b Pc As)
    (hg : g.method = m) (hn : As.length = n) (hsize : g.locals.size = nL) (hstack : g.stack = As.reverse ++ .ref b :: rest) (hW : 2 * g.monitorRoom + (rest.map fun v => v.category).sum ≤ 8) (hdg : decode cc g.pc = .ok (.invokevirtual index, 3)) (hf : cells + mc ≤ R.cells ∧ slots + ms ≤ R.slots) :
    va_Run p l e R s m args below meth c H locs cells slots mc ms g rest (Qc (Value.ref b :: As).toArray) free := by
  obtain ⟨⟨hrc, hrs, hfr, hlo, hws, hcw⟩, hcode, hini, hy, hlen, hl, hin, hse⟩ := cw
  have hK : Back l R p e below s args y 3 8 (PreOf R mc ms Pc) (PostOf Qc mc ms free) := va_backW (hh := hh) (bytes := bytes) (maxL := maxL) (ret := ret) hM hp.1 hrc hrs hfr hlo hws hcw (fun a' U hW => word_at hW (Or.inl (by first | rfl | simp [Cond.onTables, Cond.keeps, Cond.steady])) hini)
  obtain ⟨hx, hb, hml, ho, -⟩ := S
  obtain ⟨-, ⟨cellB, hcB, hoB, hclB⟩, hPc⟩ := hp
  intro T hT X
  obtain ⟨v, vm₁, ⟨U', l2, c2, s2⟩, hW₁, X', ⟨g', mk, t, L, e1, e2, hq, h1, hL, h2, h3⟩, st⟩ := vx_callVW X hx (C := C) (hh := hh) (bytes := bytes) (maxL := maxL) (ret := ret) ho hl hin hse hcode hy hK (by rw [hT]; exact hcB) hoB hclB hg (hsize.trans hml.symm) (argsL := As) (rest := rest) (fun sig h => hn.trans (hlen sig h)) hstack hW (by rw [hb]; exact hdg)
    (fun vm₁ hW₁ => ⟨hf.1, hf.2, hPc (T.setVm vm₁) hT hW₁⟩)
  dsimp only [Pt.U, Pt.locs, Pt.cells, Pt.slots] at X' e1 e2 h1 h2 h3 st
  subst h1; subst h2; subst h3
  exact ⟨v, (T.setVm vm₁).calling g' mk (Value.ref b :: As).toArray, t, U', L, hT, X', hL, e1, e2, hq, st⟩
section
variable {y : MethodName} {bytes cc : ByteArray} {maxL nL mc ms n index : Nat} {ret : Option FieldType} {ws : List Cond} {rm : Room} {Pc : Array Value → State → Prop} {Qc : Array Value → State → Outcome → State → Prop} {XC : String → State → State → Prop} {free : Addr → Prop} {Ts : List Cond} {own C : String} {b : Addr} {As rest : List Value} {g : JFrame}
theorem vx_runVX {hh : List (Nat × Nat × Nat × Nat)} (S : CallFix p m c cc nL s args Ts own) (hM : vx_Met l y ws rm Pc Qc XC mc ms free) (cw : vx_CVW R s args own C index y bytes maxL ret hh ws rm mc ms n) (hp : PreV s H C b Pc As)
    (hg : g.method = m) (hn : As.length = n) (hsize : g.locals.size = nL) (hstack : g.stack = As.reverse ++ .ref b :: rest) (hW : 2 * g.monitorRoom + (rest.map fun v => v.category).sum ≤ 8) (hdg : decode cc g.pc = .ok (.invokevirtual index, 3)) (hf : cells + mc ≤ R.cells ∧ slots + ms ≤ R.slots) :
    vx_Run p l e R s m args below meth c H locs cells slots mc ms g rest (Qc (Value.ref b :: As).toArray) XC free := by
  obtain ⟨⟨hrc, hrs, hfr, hlo, hws, hcw⟩, hcode, hini, hy, hlen, hl, hin, hse⟩ := cw
  have hK : vx_Back l R p e below s args y 3 8 (PreOf R mc ms Pc) (PostOf Qc mc ms free) (vx_Post XC mc ms free) := vx_backW (hh := hh) (bytes := bytes) (maxL := maxL) (ret := ret) hM hp.1 hrc hrs hfr hlo hws hcw (fun a' U hW => word_at hW (Or.inl (by first | rfl | simp [Cond.onTables, Cond.keeps, Cond.steady])) hini)
  obtain ⟨hx, hb, hml, ho, -⟩ := S
  obtain ⟨-, ⟨cellB, hcB, hoB, hclB⟩, hPc⟩ := hp
  intro T hT X
  rcases vx_callVX X hx (C := C) (hh := hh) (bytes := bytes) (maxL := maxL) (ret := ret) ho hl hin hse hcode hy hK (by rw [hT]; exact hcB) hoB hclB hg (hsize.trans hml.symm) (argsL := As) (rest := rest) (fun sig h => hn.trans (hlen sig h)) hstack hW (by rw [hb]; exact hdg)
    (fun vm₁ hW₁ => ⟨hf.1, hf.2, hPc (T.setVm vm₁) hT hW₁⟩) with ⟨v, vm₁, ⟨U', l2, c2, s2⟩, hW₁, X', ⟨g', mk, t, L, e1, e2, hq, h1, hL, h2, h3⟩, st⟩ | ⟨q, vm₁, ⟨U', l2, c2, s2⟩, hW₁, X', ⟨g', mk, t, L, E, ce, e1, e2, hq, hce, hcv, hcl, h1, hL, h2, h3⟩, st⟩
  · dsimp only [Pt.U, Pt.locs, Pt.cells, Pt.slots] at X' e1 e2 h1 h2 h3 st
    subst h1; subst h2; subst h3
    exact Or.inl ⟨v, (T.setVm vm₁).calling g' mk (Value.ref b :: As).toArray, t, U', L, hT, X', hL, e1, e2, hq, st⟩
  · dsimp only [Pt.U, Pt.locs, Pt.cells, Pt.slots] at X' e1 e2 h1 h2 h3 st hcl
    subst h1; subst h2; subst h3
    exact Or.inr ⟨q, (T.setVm vm₁).calling g' mk (Value.ref b :: As).toArray, t, U', L, E, ce, hT, X', hL, e1, e2, hq, hce, hcv, vx_cls hW₁ hcl, st⟩
theorem vx_runSX {hh : List (Nat × Nat × Nat × Nat)} (S : CallFix p m c cc nL s args Ts own) (hM : vx_Met l y ws rm Pc Qc XC mc ms free) (cw : vx_CSW R s args own index y bytes maxL ret hh ws rm mc ms n) (hp : PreS s H Pc As)
    (hg : g.method = m) (hn : As.length = n) (hsize : g.locals.size = nL) (hstack : g.stack = As.reverse ++ rest) (hW : 2 * g.monitorRoom + (rest.map fun v => v.category).sum ≤ 8) (hdg : decode cc g.pc = .ok (.invokestatic index, 3)) (hf : cells + mc ≤ R.cells ∧ slots + ms ≤ R.slots) :
    vx_Run p l e R s m args below meth c H locs cells slots mc ms g rest (Qc As.toArray) XC free := by
  obtain ⟨⟨hrc, hrs, hfr, hlo, hws, hcw⟩, hcode, hini, hy, hlen, hl, hstt⟩ := cw
  have hK : vx_Back l R p e below s args y 3 8 (PreOf R mc ms Pc) (PostOf Qc mc ms free) (vx_Post XC mc ms free) := vx_backW (hh := hh) (bytes := bytes) (maxL := maxL) (ret := ret) hM hp.1 hrc hrs hfr hlo hws hcw (fun a' U hW => word_at hW (Or.inl (by first | rfl | simp [Cond.onTables, Cond.keeps, Cond.steady])) hini)
  obtain ⟨hx, hb, hml, ho, -⟩ := S
  intro T hT X
  rcases vx_callSX X hx (hh := hh) (bytes := bytes) (maxL := maxL) (ret := ret) ho hl hstt hini hcode hy hK hg (hsize.trans hml.symm) (argsL := As) (rest := rest) (fun sig h => hn.trans (hlen sig h)) hstack hW (by rw [hb]; exact hdg)
    (fun vm₁ hW₁ => ⟨hf.1, hf.2, hp.2 (T.setVm vm₁) hT hW₁⟩) with ⟨v, vm₁, ⟨U', l2, c2, s2⟩, hW₁, X', ⟨g', mk, t, L, e1, e2, hq, h1, hL, h2, h3⟩, st⟩ | ⟨q, vm₁, ⟨U', l2, c2, s2⟩, hW₁, X', ⟨g', mk, t, L, E, ce, e1, e2, hq, hce, hcv, hcl, h1, hL, h2, h3⟩, st⟩
  · dsimp only [Pt.U, Pt.locs, Pt.cells, Pt.slots] at X' e1 e2 h1 h2 h3 st
    subst h1; subst h2; subst h3
    exact Or.inl ⟨v, (T.setVm vm₁).calling g' mk As.toArray, t, U', L, hT, X', hL, e1, e2, hq, st⟩
  · dsimp only [Pt.U, Pt.locs, Pt.cells, Pt.slots] at X' e1 e2 h1 h2 h3 st hcl
    subst h1; subst h2; subst h3
    exact Or.inr ⟨q, (T.setVm vm₁).calling g' mk As.toArray, t, U', L, E, ce, hT, X', hL, e1, e2, hq, hce, hcv, vx_cls hW₁ hcl, st⟩
end
end VXH
theorem vx_ofWH {l : Launch} {y : MethodName} {ws ws' : List Cond} {rm : Room} {Pc : Array Value → State → Prop} {Qc : Array Value → State → Outcome → State → Prop} {XC : String → State → State → Prop} {mc ms : Nat} {free : Addr → Prop} {cc : ByteArray} {maxL : Nat} {ret : Option FieldType} {hh : List (Nat × Nat × Nat × Nat)}
    (hy : plainName y.cls = true) (hw : ws = Cond.codeWith y cc maxL ret hh :: ws')
    (body : ∀ p e s m args below meth c s₁, BodyLoose p l y (headSpec ws rm) cc maxL ret e s m args below meth c s₁ → c.maxLocals = maxL → Pc args s →
      W p l e (headSpec ws rm).room s m args below meth c s.heap [] 0 0 (vx_MQ below Qc XC args s mc ms free) (entryFrame m args maxL)) : vx_Met l y ws rm Pc Qc XC mc ms free := by
  refine MetFree.of_bodyS (code := cc) (maxLocals := maxL) (ret := ret) hy ?_ ?_
  · intro args s m h hn
    obtain ⟨m9, meth, c, hn9, h1, h2, h3, h4, -, h5, h6, -⟩ := Cond.codeWith_spec (atoms_spec (ws := ws) h _ (by rw [hw]; exact List.mem_cons_self))
    cases hn.symm.trans hn9
    exact ⟨meth, c, h1, h2, h3, h4, h5, h6⟩
  · intro p e s m args below meth c s₁ B hml hP _
    have hh0 : s₁.heap = s.heap := by rw [B.state]; rfl
    obtain ⟨t, a1, o, b1, b2, b3⟩ := body p e s m args below meth c s₁ B hml hP s₁ hh0 (Stand.of_body B)
    exact ⟨t, o, a1, b1, b2, b3⟩
/-! ===== END ===== -/
end
section
def RX0 : String := "DragonRing$Accounts"
def TX0 : u_T := fun k => match k with
  | 0 => ("DragonRing$Accounts", "written", "I", false)
  | 1 => ("DragonRing$Accounts", "rubbed", "I", false)
  | 2 => ("DragonRing$Accounts", "killed", "I", false)
  | 3 => ("DragonRing$Accounts", "yanked", "I", false)
  | 4 => ("DragonRing$Accounts", "takenOut", "I", false)
  | _ => ("DragonRing$Accounts", "lost", "I", false)
def tyX0 : Nat → FieldType := fun k => match k with
  | 0 => .int
  | 1 => .int
  | 2 => .int
  | 3 => .int
  | 4 => .int
  | _ => .int
abbrev wsX00 : List Cond := u_ws RX0 TX0 6
theorem nmX0 : ∀ a, a < 6 → ∀ b, b < 6 → a ≠ b → (TX0 a).2.1 ≠ (TX0 b).2.1 := by decide +kernel
theorem tyX0_ok : ∀ k, k < 6 → parseFieldDescriptor (TX0 k).2.2.1 = some (tyX0 k) := by decide +kernel
abbrev cX0_init : ByteArray := prog_2_method_1_code
def yX0_init : MethodName := ⟨RX0, "<init>", "()V"⟩
abbrev cX0_copyFrom : ByteArray := prog_2_method_2_code
def yX0_copyFrom : MethodName := ⟨RX0, "copyFrom", "(LDragonRing$Accounts;)V"⟩
abbrev cX0_balance : ByteArray := prog_2_method_3_code
def yX0_balance : MethodName := ⟨RX0, "balance", "()I"⟩
def RX1 : String := "DragonRing$Hash"
def TX1 : u_T := fun k => match k with
  | _ => ("DragonRing$Hash", "value", "J", false)
def tyX1 : Nat → FieldType := fun k => match k with
  | _ => .long
abbrev wsX10 : List Cond := u_ws RX1 TX1 1
theorem nmX1 : ∀ a, a < 1 → ∀ b, b < 1 → a ≠ b → (TX1 a).2.1 ≠ (TX1 b).2.1 := by decide +kernel
theorem tyX1_ok : ∀ k, k < 1 → parseFieldDescriptor (TX1 k).2.2.1 = some (tyX1 k) := by decide +kernel
abbrev cX1_init : ByteArray := prog_3_method_1_code
def yX1_init : MethodName := ⟨RX1, "<init>", "()V"⟩
abbrev cX1_add : ByteArray := prog_3_method_2_code
def yX1_add : MethodName := ⟨RX1, "add", "(J)V"⟩
abbrev cX1_addText : ByteArray := prog_3_method_3_code
def yX1_addText : MethodName := ⟨RX1, "addText", "(LDragonRing$Text;)V"⟩
def RX2 : String := "DragonRing$History"
def TX2 : u_T := fun k => match k with
  | 0 => ("DragonRing$History", "rows", "[LDragonRing$State;", true)
  | 1 => ("DragonRing$History", "first", "I", false)
  | _ => ("DragonRing$History", "saved", "I", false)
def tyX2 : Nat → FieldType := fun k => match k with
  | 0 => .array (.object "DragonRing$State")
  | 1 => .int
  | _ => .int
abbrev wsX20 : List Cond := u_ws RX2 TX2 3
theorem nmX2 : ∀ a, a < 3 → ∀ b, b < 3 → a ≠ b → (TX2 a).2.1 ≠ (TX2 b).2.1 := by decide +kernel
theorem tyX2_ok : ∀ k, k < 3 → parseFieldDescriptor (TX2 k).2.2.1 = some (tyX2 k) := by decide +kernel
abbrev cX2_init : ByteArray := prog_4_method_1_code
def yX2_init : MethodName := ⟨RX2, "<init>", "()V"⟩
abbrev cX2_count : ByteArray := prog_4_method_2_code
def yX2_count : MethodName := ⟨RX2, "count", "()I"⟩
abbrev cX2_row : ByteArray := prog_4_method_3_code
def yX2_row : MethodName := ⟨RX2, "row", "(I)LDragonRing$State;"⟩
abbrev cX2_prepare : ByteArray := prog_4_method_4_code
def yX2_prepare : MethodName := ⟨RX2, "prepare", "(LDragonRing$State;)V"⟩
abbrev cX2_prepared : ByteArray := prog_4_method_5_code
def yX2_prepared : MethodName := ⟨RX2, "prepared", "()LDragonRing$State;"⟩
abbrev cX2_save : ByteArray := prog_4_method_6_code
def yX2_save : MethodName := ⟨RX2, "save", "()V"⟩
abbrev cX2_latest : ByteArray := prog_4_method_7_code
def yX2_latest : MethodName := ⟨RX2, "latest", "()LDragonRing$State;"⟩
abbrev cX2_drop : ByteArray := prog_4_method_8_code
def yX2_drop : MethodName := ⟨RX2, "drop", "()V"⟩
def RX3 : String := "DragonRing$Ring"
def TX3 : u_T := fun k => match k with
  | 0 => ("DragonRing$Ring", "rows", "[LDragonRing$Text;", true)
  | 1 => ("DragonRing$Ring", "noHoard", "LDragonRing$Text;", true)
  | 2 => ("DragonRing$Ring", "count", "I", false)
  | 3 => ("DragonRing$Ring", "caves", "I", false)
  | _ => ("DragonRing$Ring", "next", "I", false)
def tyX3 : Nat → FieldType := fun k => match k with
  | 0 => .array (.object "DragonRing$Text")
  | 1 => .object "DragonRing$Text"
  | 2 => .int
  | 3 => .int
  | _ => .int
abbrev wsX30 : List Cond := u_ws RX3 TX3 5
theorem nmX3 : ∀ a, a < 5 → ∀ b, b < 5 → a ≠ b → (TX3 a).2.1 ≠ (TX3 b).2.1 := by decide +kernel
theorem tyX3_ok : ∀ k, k < 5 → parseFieldDescriptor (TX3 k).2.2.1 = some (tyX3 k) := by decide +kernel
abbrev cX3_init : ByteArray := prog_5_method_1_code
def yX3_init : MethodName := ⟨RX3, "<init>", "()V"⟩
abbrev cX3_copyFrom : ByteArray := prog_5_method_2_code
def yX3_copyFrom : MethodName := ⟨RX3, "copyFrom", "(LDragonRing$Ring;)V"⟩
abbrev cX3_hoard : ByteArray := prog_5_method_3_code
def yX3_hoard : MethodName := ⟨RX3, "hoard", "(I)LDragonRing$Text;"⟩
abbrev cX3_countAt : ByteArray := prog_5_method_4_code
def yX3_countAt : MethodName := ⟨RX3, "countAt", "(I)I"⟩
abbrev cX3_add : ByteArray := prog_5_method_5_code
def yX3_add : MethodName := ⟨RX3, "add", "(LDragonRing$Text;II)I"⟩
abbrev cX3_grow : ByteArray := prog_5_method_6_code
def yX3_grow : MethodName := ⟨RX3, "grow", "(LDragonRing$Text;IIZ)V"⟩
abbrev cX3_nextIfTurned : ByteArray := prog_5_method_7_code
def yX3_nextIfTurned : MethodName := ⟨RX3, "nextIfTurned", "(I)I"⟩
abbrev cX3_changeTo : ByteArray := prog_5_method_8_code
def yX3_changeTo : MethodName := ⟨RX3, "changeTo", "(I)I"⟩
abbrev cX3_allCodes : ByteArray := prog_5_method_9_code
def yX3_allCodes : MethodName := ⟨RX3, "allCodes", "()I"⟩
abbrev cX3_longestAt : ByteArray := prog_5_method_10_code
def yX3_longestAt : MethodName := ⟨RX3, "longestAt", "()I"⟩
def RX4 : String := "DragonRing$Scroll"
def TX4 : u_T := fun k => match k with
  | 0 => ("DragonRing$Scroll", "text", "LDragonRing$Text;", true)
  | 1 => ("DragonRing$Scroll", "point", "I", false)
  | _ => ("DragonRing$Scroll", "mark", "I", false)
def tyX4 : Nat → FieldType := fun k => match k with
  | 0 => .object "DragonRing$Text"
  | 1 => .int
  | _ => .int
abbrev wsX40 : List Cond := u_ws RX4 TX4 3
theorem nmX4 : ∀ a, a < 3 → ∀ b, b < 3 → a ≠ b → (TX4 a).2.1 ≠ (TX4 b).2.1 := by decide +kernel
theorem tyX4_ok : ∀ k, k < 3 → parseFieldDescriptor (TX4 k).2.2.1 = some (tyX4 k) := by decide +kernel
abbrev cX4_init : ByteArray := prog_6_method_1_code
def yX4_init : MethodName := ⟨RX4, "<init>", "()V"⟩
abbrev cX4_copyFrom : ByteArray := prog_6_method_2_code
def yX4_copyFrom : MethodName := ⟨RX4, "copyFrom", "(LDragonRing$Scroll;)V"⟩
abbrev cX4_writeCode : ByteArray := prog_6_method_3_code
def yX4_writeCode : MethodName := ⟨RX4, "writeCode", "(I)V"⟩
abbrev cX4_writeText : ByteArray := prog_6_method_4_code
def yX4_writeText : MethodName := ⟨RX4, "writeText", "(LDragonRing$Text;)V"⟩
abbrev cX4_makeWay : ByteArray := prog_6_method_5_code
def yX4_makeWay : MethodName := ⟨RX4, "makeWay", "(I)V"⟩
abbrev cX4_takeOut : ByteArray := prog_6_method_6_code
def yX4_takeOut : MethodName := ⟨RX4, "takeOut", "(II)V"⟩
abbrev cX4_placeThen : ByteArray := prog_6_method_7_code
def yX4_placeThen : MethodName := ⟨RX4, "placeThen", "(III)I"⟩
abbrev cX4_fromMark : ByteArray := prog_6_method_8_code
def yX4_fromMark : MethodName := ⟨RX4, "fromMark", "()I"⟩
abbrev cX4_isWordAt : ByteArray := prog_6_method_9_code
def yX4_isWordAt : MethodName := ⟨RX4, "isWordAt", "(I)Z"⟩
abbrev cX4_isSmallAt : ByteArray := prog_6_method_10_code
def yX4_isSmallAt : MethodName := ⟨RX4, "isSmallAt", "(I)Z"⟩
abbrev cX4_isEndAt : ByteArray := prog_6_method_11_code
def yX4_isEndAt : MethodName := ⟨RX4, "isEndAt", "(I)Z"⟩
abbrev cX4_wordStop : ByteArray := prog_6_method_12_code
def yX4_wordStop : MethodName := ⟨RX4, "wordStop", "(I)I"⟩
abbrev cX4_wordStart : ByteArray := prog_6_method_13_code
def yX4_wordStart : MethodName := ⟨RX4, "wordStart", "(I)I"⟩
abbrev cX4_lineStart : ByteArray := prog_6_method_14_code
def yX4_lineStart : MethodName := ⟨RX4, "lineStart", "(I)I"⟩
abbrev cX4_lineStop : ByteArray := prog_6_method_15_code
def yX4_lineStop : MethodName := ⟨RX4, "lineStop", "(I)I"⟩
abbrev cX4_lineStartOver : ByteArray := prog_6_method_16_code
def yX4_lineStartOver : MethodName := ⟨RX4, "lineStartOver", "(II)I"⟩
abbrev cX4_placeOf : ByteArray := prog_6_method_17_code
def yX4_placeOf : MethodName := ⟨RX4, "placeOf", "(LDragonRing$Text;)I"⟩
abbrev cX4_endsAhead : ByteArray := prog_6_method_18_code
def yX4_endsAhead : MethodName := ⟨RX4, "endsAhead", "(I)I"⟩
abbrev cX4_linesGone : ByteArray := prog_6_method_19_code
def yX4_linesGone : MethodName := ⟨RX4, "linesGone", "()I"⟩
abbrev cX4_longest : ByteArray := prog_6_method_20_code
def yX4_longest : MethodName := ⟨RX4, "longest", "()I"⟩
abbrev cX4_wordsBegun : ByteArray := prog_6_method_21_code
def yX4_wordsBegun : MethodName := ⟨RX4, "wordsBegun", "()I"⟩
abbrev cX4_wordsGone : ByteArray := prog_6_method_22_code
def yX4_wordsGone : MethodName := ⟨RX4, "wordsGone", "()I"⟩
def RX5 : String := "DragonRing$State"
def TX5 : u_T := fun k => match k with
  | 0 => ("DragonRing$State", "scroll", "LDragonRing$Scroll;", true)
  | 1 => ("DragonRing$State", "ring", "LDragonRing$Ring;", true)
  | 2 => ("DragonRing$State", "accounts", "LDragonRing$Accounts;", true)
  | _ => ("DragonRing$State", "kind", "I", false)
def tyX5 : Nat → FieldType := fun k => match k with
  | 0 => .object "DragonRing$Scroll"
  | 1 => .object "DragonRing$Ring"
  | 2 => .object "DragonRing$Accounts"
  | _ => .int
abbrev wsX50 : List Cond := u_ws RX5 TX5 4
theorem nmX5 : ∀ a, a < 4 → ∀ b, b < 4 → a ≠ b → (TX5 a).2.1 ≠ (TX5 b).2.1 := by decide +kernel
theorem tyX5_ok : ∀ k, k < 4 → parseFieldDescriptor (TX5 k).2.2.1 = some (tyX5 k) := by decide +kernel
abbrev cX5_init : ByteArray := prog_7_method_1_code
def yX5_init : MethodName := ⟨RX5, "<init>", "()V"⟩
abbrev cX5_copyFrom : ByteArray := prog_7_method_2_code
def yX5_copyFrom : MethodName := ⟨RX5, "copyFrom", "(LDragonRing$State;)V"⟩
abbrev cX5_comeBackTo : ByteArray := prog_7_method_3_code
def yX5_comeBackTo : MethodName := ⟨RX5, "comeBackTo", "(LDragonRing$State;)V"⟩
abbrev cX5_doDeed : ByteArray := prog_7_method_4_code
def yX5_doDeed : MethodName := ⟨RX5, "doDeed", "(II)I"⟩
abbrev cX5_writeCode : ByteArray := prog_7_method_5_code
def yX5_writeCode : MethodName := ⟨RX5, "writeCode", "(I)I"⟩
abbrev cX5_rubOut : ByteArray := prog_7_method_6_code
def yX5_rubOut : MethodName := ⟨RX5, "rubOut", "()I"⟩
abbrev cX5_swapBoth : ByteArray := prog_7_method_7_code
def yX5_swapBoth : MethodName := ⟨RX5, "swapBoth", "()I"⟩
abbrev cX5_makeGreat : ByteArray := prog_7_method_8_code
def yX5_makeGreat : MethodName := ⟨RX5, "makeGreat", "()I"⟩
abbrev cX5_goPlace : ByteArray := prog_7_method_9_code
def yX5_goPlace : MethodName := ⟨RX5, "goPlace", "(I)I"⟩
abbrev cX5_goAsFarAs : ByteArray := prog_7_method_10_code
def yX5_goAsFarAs : MethodName := ⟨RX5, "goAsFarAs", "(I)I"⟩
abbrev cX5_goWordOn : ByteArray := prog_7_method_11_code
def yX5_goWordOn : MethodName := ⟨RX5, "goWordOn", "()I"⟩
abbrev cX5_goWordBack : ByteArray := prog_7_method_12_code
def yX5_goWordBack : MethodName := ⟨RX5, "goWordBack", "()I"⟩
abbrev cX5_goLineStart : ByteArray := prog_7_method_13_code
def yX5_goLineStart : MethodName := ⟨RX5, "goLineStart", "()I"⟩
abbrev cX5_goLineStop : ByteArray := prog_7_method_14_code
def yX5_goLineStop : MethodName := ⟨RX5, "goLineStop", "()I"⟩
abbrev cX5_goUpOrDown : ByteArray := prog_7_method_15_code
def yX5_goUpOrDown : MethodName := ⟨RX5, "goUpOrDown", "(I)I"⟩
abbrev cX5_setMark : ByteArray := prog_7_method_16_code
def yX5_setMark : MethodName := ⟨RX5, "setMark", "()I"⟩
abbrev cX5_exchangeBoth : ByteArray := prog_7_method_17_code
def yX5_exchangeBoth : MethodName := ⟨RX5, "exchangeBoth", "()I"⟩
abbrev cX5_goToText : ByteArray := prog_7_method_18_code
def yX5_goToText : MethodName := ⟨RX5, "goToText", "(LDragonRing$Text;)I"⟩
abbrev cX5_killWordOn : ByteArray := prog_7_method_19_code
def yX5_killWordOn : MethodName := ⟨RX5, "killWordOn", "()I"⟩
abbrev cX5_killWordBack : ByteArray := prog_7_method_20_code
def yX5_killWordBack : MethodName := ⟨RX5, "killWordBack", "()I"⟩
abbrev cX5_killLineOn : ByteArray := prog_7_method_21_code
def yX5_killLineOn : MethodName := ⟨RX5, "killLineOn", "()I"⟩
abbrev cX5_killToMark : ByteArray := prog_7_method_22_code
def yX5_killToMark : MethodName := ⟨RX5, "killToMark", "()I"⟩
abbrev cX5_kill : ByteArray := prog_7_method_23_code
def yX5_kill : MethodName := ⟨RX5, "kill", "(IIZ)I"⟩
abbrev cX5_copyToMark : ByteArray := prog_7_method_24_code
def yX5_copyToMark : MethodName := ⟨RX5, "copyToMark", "()I"⟩
abbrev cX5_yankNext : ByteArray := prog_7_method_25_code
def yX5_yankNext : MethodName := ⟨RX5, "yankNext", "()I"⟩
abbrev cX5_writeHoard : ByteArray := prog_7_method_26_code
def yX5_writeHoard : MethodName := ⟨RX5, "writeHoard", "(LDragonRing$Text;)I"⟩
abbrev cX5_yankOlder : ByteArray := prog_7_method_27_code
def yX5_yankOlder : MethodName := ⟨RX5, "yankOlder", "()I"⟩
abbrev cX5_turnRing : ByteArray := prog_7_method_28_code
def yX5_turnRing : MethodName := ⟨RX5, "turnRing", "(I)I"⟩
abbrev cX5_setCaves : ByteArray := prog_7_method_29_code
def yX5_setCaves : MethodName := ⟨RX5, "setCaves", "(I)I"⟩
def RX6 : String := "DragonRing$Text"
def TX6 : u_T := fun k => match k with
  | 0 => ("DragonRing$Text", "codes", "[I", true)
  | _ => ("DragonRing$Text", "count", "I", false)
def tyX6 : Nat → FieldType := fun k => match k with
  | 0 => .array .int
  | _ => .int
abbrev wsX60 : List Cond := u_ws RX6 TX6 2
theorem nmX6 : ∀ a, a < 2 → ∀ b, b < 2 → a ≠ b → (TX6 a).2.1 ≠ (TX6 b).2.1 := by decide +kernel
theorem tyX6_ok : ∀ k, k < 2 → parseFieldDescriptor (TX6 k).2.2.1 = some (tyX6 k) := by decide +kernel
abbrev cX6_init : ByteArray := prog_8_method_1_code
def yX6_init : MethodName := ⟨RX6, "<init>", "(I)V"⟩
abbrev cX6_count : ByteArray := prog_8_method_2_code
def yX6_count : MethodName := ⟨RX6, "count", "()I"⟩
abbrev cX6_room : ByteArray := prog_8_method_3_code
def yX6_room : MethodName := ⟨RX6, "room", "()I"⟩
abbrev cX6_code : ByteArray := prog_8_method_4_code
def yX6_code : MethodName := ⟨RX6, "code", "(I)I"⟩
abbrev cX6_change : ByteArray := prog_8_method_5_code
def yX6_change : MethodName := ⟨RX6, "change", "(II)V"⟩
abbrev cX6_empty : ByteArray := prog_8_method_6_code
def yX6_empty : MethodName := ⟨RX6, "empty", "()V"⟩
abbrev cX6_copyFrom : ByteArray := prog_8_method_7_code
def yX6_copyFrom : MethodName := ⟨RX6, "copyFrom", "(LDragonRing$Text;)V"⟩
abbrev cX6_insertCode : ByteArray := prog_8_method_8_code
def yX6_insertCode : MethodName := ⟨RX6, "insertCode", "(II)V"⟩
abbrev cX6_insertPart : ByteArray := prog_8_method_9_code
def yX6_insertPart : MethodName := ⟨RX6, "insertPart", "(ILDragonRing$Text;II)V"⟩
abbrev cX6_takeOut : ByteArray := prog_8_method_10_code
def yX6_takeOut : MethodName := ⟨RX6, "takeOut", "(II)V"⟩
abbrev cX6_standsAt : ByteArray := prog_8_method_11_code
def yX6_standsAt : MethodName := ⟨RX6, "standsAt", "(ILDragonRing$Text;)Z"⟩
def RX7 : String := "DragonRing"
def TX7 : u_T := fun k => match k with
  | 0 => ("DragonRing", "now", "LDragonRing$State;", true)
  | 1 => ("DragonRing", "history", "LDragonRing$History;", true)
  | 2 => ("DragonRing", "slots", "[LDragonRing$State;", true)
  | 3 => ("DragonRing", "isKept", "[Z", true)
  | _ => ("DragonRing", "buffer", "LDragonRing$Text;", true)
def tyX7 : Nat → FieldType := fun k => match k with
  | 0 => .object "DragonRing$State"
  | 1 => .object "DragonRing$History"
  | 2 => .array (.object "DragonRing$State")
  | 3 => .array .boolean
  | _ => .object "DragonRing$Text"
abbrev wsX70 : List Cond := u_ws RX7 TX7 5
theorem nmX7 : ∀ a, a < 5 → ∀ b, b < 5 → a ≠ b → (TX7 a).2.1 ≠ (TX7 b).2.1 := by decide +kernel
theorem tyX7_ok : ∀ k, k < 5 → parseFieldDescriptor (TX7 k).2.2.1 = some (tyX7 k) := by decide +kernel
abbrev cX7_init : ByteArray := prog_1_method_1_code
def yX7_init : MethodName := ⟨RX7, "<init>", "()V"⟩
abbrev cX7_write : ByteArray := prog_1_method_2_code
def yX7_write : MethodName := ⟨RX7, "write", "(I)I"⟩
abbrev cX7_rub : ByteArray := prog_1_method_3_code
def yX7_rub : MethodName := ⟨RX7, "rub", "()I"⟩
abbrev cX7_swap : ByteArray := prog_1_method_4_code
def yX7_swap : MethodName := ⟨RX7, "swap", "()I"⟩
abbrev cX7_greaten : ByteArray := prog_1_method_5_code
def yX7_greaten : MethodName := ⟨RX7, "greaten", "()I"⟩
abbrev cX7_goTo : ByteArray := prog_1_method_6_code
def yX7_goTo : MethodName := ⟨RX7, "goTo", "(I)I"⟩
abbrev cX7_wordOn : ByteArray := prog_1_method_7_code
def yX7_wordOn : MethodName := ⟨RX7, "wordOn", "()I"⟩
abbrev cX7_wordBack : ByteArray := prog_1_method_8_code
def yX7_wordBack : MethodName := ⟨RX7, "wordBack", "()I"⟩
abbrev cX7_lineBegin : ByteArray := prog_1_method_9_code
def yX7_lineBegin : MethodName := ⟨RX7, "lineBegin", "()I"⟩
abbrev cX7_lineEnd : ByteArray := prog_1_method_10_code
def yX7_lineEnd : MethodName := ⟨RX7, "lineEnd", "()I"⟩
abbrev cX7_goLines : ByteArray := prog_1_method_11_code
def yX7_goLines : MethodName := ⟨RX7, "goLines", "(I)I"⟩
abbrev cX7_mark : ByteArray := prog_1_method_12_code
def yX7_mark : MethodName := ⟨RX7, "mark", "()I"⟩
abbrev cX7_exchange : ByteArray := prog_1_method_13_code
def yX7_exchange : MethodName := ⟨RX7, "exchange", "()I"⟩
abbrev cX7_find : ByteArray := prog_1_method_14_code
def yX7_find : MethodName := ⟨RX7, "find", "()I"⟩
abbrev cX7_killWord : ByteArray := prog_1_method_15_code
def yX7_killWord : MethodName := ⟨RX7, "killWord", "()I"⟩
abbrev cX7_killBack : ByteArray := prog_1_method_16_code
def yX7_killBack : MethodName := ⟨RX7, "killBack", "()I"⟩
abbrev cX7_killLine : ByteArray := prog_1_method_17_code
def yX7_killLine : MethodName := ⟨RX7, "killLine", "()I"⟩
abbrev cX7_killBetween : ByteArray := prog_1_method_18_code
def yX7_killBetween : MethodName := ⟨RX7, "killBetween", "()I"⟩
abbrev cX7_copyBetween : ByteArray := prog_1_method_19_code
def yX7_copyBetween : MethodName := ⟨RX7, "copyBetween", "()I"⟩
abbrev cX7_yank : ByteArray := prog_1_method_20_code
def yX7_yank : MethodName := ⟨RX7, "yank", "()I"⟩
abbrev cX7_yankOther : ByteArray := prog_1_method_21_code
def yX7_yankOther : MethodName := ⟨RX7, "yankOther", "()I"⟩
abbrev cX7_turn : ByteArray := prog_1_method_22_code
def yX7_turn : MethodName := ⟨RX7, "turn", "(I)I"⟩
abbrev cX7_changeCaves : ByteArray := prog_1_method_23_code
def yX7_changeCaves : MethodName := ⟨RX7, "changeCaves", "(I)I"⟩
abbrev cX7_append : ByteArray := prog_1_method_24_code
def yX7_append : MethodName := ⟨RX7, "append", "(I)I"⟩
abbrev cX7_clearBuffer : ByteArray := prog_1_method_25_code
def yX7_clearBuffer : MethodName := ⟨RX7, "clearBuffer", "()I"⟩
abbrev cX7_firstError : ByteArray := prog_1_method_26_code
def yX7_firstError : MethodName := ⟨RX7, "firstError", "()I"⟩
abbrev cX7_perform : ByteArray := prog_1_method_27_code
def yX7_perform : MethodName := ⟨RX7, "perform", "()I"⟩
abbrev cX7_keep : ByteArray := prog_1_method_28_code
def yX7_keep : MethodName := ⟨RX7, "keep", "(I)V"⟩
abbrev cX7_goBack : ByteArray := prog_1_method_29_code
def yX7_goBack : MethodName := ⟨RX7, "goBack", "(I)V"⟩
abbrev cX7_undo : ByteArray := prog_1_method_30_code
def yX7_undo : MethodName := ⟨RX7, "undo", "()V"⟩
abbrev cX7_savedStates : ByteArray := prog_1_method_31_code
def yX7_savedStates : MethodName := ⟨RX7, "savedStates", "()I"⟩
abbrev cX7_length : ByteArray := prog_1_method_32_code
def yX7_length : MethodName := ⟨RX7, "length", "()I"⟩
abbrev cX7_codeAt : ByteArray := prog_1_method_33_code
def yX7_codeAt : MethodName := ⟨RX7, "codeAt", "(I)I"⟩
abbrev cX7_point : ByteArray := prog_1_method_34_code
def yX7_point : MethodName := ⟨RX7, "point", "()I"⟩
abbrev cX7_markAt : ByteArray := prog_1_method_35_code
def yX7_markAt : MethodName := ⟨RX7, "markAt", "()I"⟩
abbrev cX7_between : ByteArray := prog_1_method_36_code
def yX7_between : MethodName := ⟨RX7, "between", "()I"⟩
abbrev cX7_linesByEnds : ByteArray := prog_1_method_37_code
def yX7_linesByEnds : MethodName := ⟨RX7, "linesByEnds", "()I"⟩
abbrev cX7_linesByGoing : ByteArray := prog_1_method_38_code
def yX7_linesByGoing : MethodName := ⟨RX7, "linesByGoing", "()I"⟩
abbrev cX7_line : ByteArray := prog_1_method_39_code
def yX7_line : MethodName := ⟨RX7, "line", "()I"⟩
abbrev cX7_column : ByteArray := prog_1_method_40_code
def yX7_column : MethodName := ⟨RX7, "column", "()I"⟩
abbrev cX7_longestLine : ByteArray := prog_1_method_41_code
def yX7_longestLine : MethodName := ⟨RX7, "longestLine", "()I"⟩
abbrev cX7_wordsByBegins : ByteArray := prog_1_method_42_code
def yX7_wordsByBegins : MethodName := ⟨RX7, "wordsByBegins", "()I"⟩
abbrev cX7_wordsByGoing : ByteArray := prog_1_method_43_code
def yX7_wordsByGoing : MethodName := ⟨RX7, "wordsByGoing", "()I"⟩
abbrev cX7_hoards : ByteArray := prog_1_method_44_code
def yX7_hoards : MethodName := ⟨RX7, "hoards", "()I"⟩
abbrev cX7_caves : ByteArray := prog_1_method_45_code
def yX7_caves : MethodName := ⟨RX7, "caves", "()I"⟩
abbrev cX7_lengthOf : ByteArray := prog_1_method_46_code
def yX7_lengthOf : MethodName := ⟨RX7, "lengthOf", "(I)I"⟩
abbrev cX7_codeIn : ByteArray := prog_1_method_47_code
def yX7_codeIn : MethodName := ⟨RX7, "codeIn", "(II)I"⟩
abbrev cX7_nextHoard : ByteArray := prog_1_method_48_code
def yX7_nextHoard : MethodName := ⟨RX7, "nextHoard", "()I"⟩
abbrev cX7_isGrowing : ByteArray := prog_1_method_49_code
def yX7_isGrowing : MethodName := ⟨RX7, "isGrowing", "()Z"⟩
abbrev cX7_canTurnYank : ByteArray := prog_1_method_50_code
def yX7_canTurnYank : MethodName := ⟨RX7, "canTurnYank", "()Z"⟩
abbrev cX7_lengthIfYanked : ByteArray := prog_1_method_51_code
def yX7_lengthIfYanked : MethodName := ⟨RX7, "lengthIfYanked", "(I)I"⟩
abbrev cX7_weight : ByteArray := prog_1_method_52_code
def yX7_weight : MethodName := ⟨RX7, "weight", "()I"⟩
abbrev cX7_heaviest : ByteArray := prog_1_method_53_code
def yX7_heaviest : MethodName := ⟨RX7, "heaviest", "()I"⟩
abbrev cX7_killed : ByteArray := prog_1_method_54_code
def yX7_killed : MethodName := ⟨RX7, "killed", "()I"⟩
abbrev cX7_yanked : ByteArray := prog_1_method_55_code
def yX7_yanked : MethodName := ⟨RX7, "yanked", "()I"⟩
abbrev cX7_written : ByteArray := prog_1_method_56_code
def yX7_written : MethodName := ⟨RX7, "written", "()I"⟩
abbrev cX7_lostHoards : ByteArray := prog_1_method_57_code
def yX7_lostHoards : MethodName := ⟨RX7, "lostHoards", "()I"⟩
abbrev cX7_lengthByAccount : ByteArray := prog_1_method_58_code
def yX7_lengthByAccount : MethodName := ⟨RX7, "lengthByAccount", "()I"⟩
abbrev cX7_meanHoard : ByteArray := prog_1_method_59_code
def yX7_meanHoard : MethodName := ⟨RX7, "meanHoard", "()D"⟩
abbrev cX7_digest : ByteArray := prog_1_method_60_code
def yX7_digest : MethodName := ⟨RX7, "digest", "()J"⟩
abbrev cX7_settled : ByteArray := prog_1_method_61_code
def yX7_settled : MethodName := ⟨RX7, "settled", "(I)I"⟩
abbrev cX7_possible : ByteArray := prog_1_method_62_code
def yX7_possible : MethodName := ⟨RX7, "possible", "(I)I"⟩
abbrev cX7_existing : ByteArray := prog_1_method_63_code
def yX7_existing : MethodName := ⟨RX7, "existing", "(I)I"⟩
abbrev cX7_stageBehind : ByteArray := prog_1_method_64_code
def yX7_stageBehind : MethodName := ⟨RX7, "stageBehind", "(II)I"⟩
abbrev cX7_isNumber : ByteArray := prog_1_method_65_code
def yX7_isNumber : MethodName := ⟨RX7, "isNumber", "(I)Z"⟩
abbrev cX7_tellsDeeds : ByteArray := prog_1_method_66_code
def yX7_tellsDeeds : MethodName := ⟨RX7, "tellsDeeds", "()Z"⟩
abbrev cX7_deedsDone : ByteArray := prog_1_method_67_code
def yX7_deedsDone : MethodName := ⟨RX7, "deedsDone", "()I"⟩
abbrev cX7_hashScroll : ByteArray := prog_1_method_68_code
def yX7_hashScroll : MethodName := ⟨RX7, "hashScroll", "(LDragonRing$Hash;)V"⟩
abbrev cX7_hashRing : ByteArray := prog_1_method_69_code
def yX7_hashRing : MethodName := ⟨RX7, "hashRing", "(LDragonRing$Hash;)V"⟩
abbrev cX7_hashRest : ByteArray := prog_1_method_70_code
def yX7_hashRest : MethodName := ⟨RX7, "hashRest", "(LDragonRing$Hash;)V"⟩
abbrev cX7_bitsOf : ByteArray := prog_1_method_71_code
def yX7_bitsOf : MethodName := ⟨RX7, "bitsOf", "(D)J"⟩
def RX8 : String := "DragonRingModel"
def TX8 : u_T := fun k => match k with
  | 0 => ("DragonRingModel", "s", "[I", true)
  | 1 => ("DragonRingModel", "states", "I", false)
  | 2 => ("DragonRingModel", "isKept", "[Z", true)
  | 3 => ("DragonRingModel", "thrown", "I", false)
  | 4 => ("DragonRingModel", "kind", "I", false)
  | 5 => ("DragonRingModel", "text", "[C", true)
  | 6 => ("DragonRingModel", "typed", "I", false)
  | 7 => ("DragonRingModel", "at", "I", false)
  | 8 => ("DragonRingModel", "times", "I", false)
  | _ => ("DragonRingModel", "sign", "I", false)
def tyX8 : Nat → FieldType := fun k => match k with
  | 0 => .array .int
  | 1 => .int
  | 2 => .array .boolean
  | 3 => .int
  | 4 => .int
  | 5 => .array .char
  | 6 => .int
  | 7 => .int
  | 8 => .int
  | _ => .int
abbrev wsX80 : List Cond := u_ws RX8 TX8 10
theorem nmX8 : ∀ a, a < 10 → ∀ b, b < 10 → a ≠ b → (TX8 a).2.1 ≠ (TX8 b).2.1 := by decide +kernel
theorem tyX8_ok : ∀ k, k < 10 → parseFieldDescriptor (TX8 k).2.2.1 = some (tyX8 k) := by decide +kernel
abbrev cX8_init : ByteArray := prog_10_method_1_code
def yX8_init : MethodName := ⟨RX8, "<init>", "()V"⟩
abbrev cX8_thrown : ByteArray := prog_10_method_2_code
def yX8_thrown : MethodName := ⟨RX8, "thrown", "()I"⟩
abbrev cX8_in : ByteArray := prog_10_method_3_code
def yX8_in : MethodName := ⟨RX8, "in", "(III)Z"⟩
abbrev cX8_goes : ByteArray := prog_10_method_4_code
def yX8_goes : MethodName := ⟨RX8, "goes", "(ZZZ)Z"⟩
abbrev cX8_copies : ByteArray := prog_10_method_5_code
def yX8_copies : MethodName := ⟨RX8, "copies", "(II)V"⟩
abbrev cX8_saves : ByteArray := prog_10_method_6_code
def yX8_saves : MethodName := ⟨RX8, "saves", "()V"⟩
abbrev cX8_code : ByteArray := prog_10_method_7_code
def yX8_code : MethodName := ⟨RX8, "code", "(I)I"⟩
abbrev cX8_isLetter : ByteArray := prog_10_method_8_code
def yX8_isLetter : MethodName := ⟨RX8, "isLetter", "(I)Z"⟩
abbrev cX8_isWord : ByteArray := prog_10_method_9_code
def yX8_isWord : MethodName := ⟨RX8, "isWord", "(I)Z"⟩
abbrev cX8_behindWord : ByteArray := prog_10_method_10_code
def yX8_behindWord : MethodName := ⟨RX8, "behindWord", "(I)I"⟩
abbrev cX8_aheadOfWord : ByteArray := prog_10_method_11_code
def yX8_aheadOfWord : MethodName := ⟨RX8, "aheadOfWord", "(I)I"⟩
abbrev cX8_beginOf : ByteArray := prog_10_method_12_code
def yX8_beginOf : MethodName := ⟨RX8, "beginOf", "(I)I"⟩
abbrev cX8_endOf : ByteArray := prog_10_method_13_code
def yX8_endOf : MethodName := ⟨RX8, "endOf", "(I)I"⟩
abbrev cX8_moved : ByteArray := prog_10_method_14_code
def yX8_moved : MethodName := ⟨RX8, "moved", "(III)I"⟩
abbrev cX8_takesOut : ByteArray := prog_10_method_15_code
def yX8_takesOut : MethodName := ⟨RX8, "takesOut", "(II)V"⟩
abbrev cX8_parts : ByteArray := prog_10_method_16_code
def yX8_parts : MethodName := ⟨RX8, "parts", "(I)V"⟩
abbrev cX8_writes : ByteArray := prog_10_method_17_code
def yX8_writes : MethodName := ⟨RX8, "writes", "(I)I"⟩
abbrev cX8_rubs : ByteArray := prog_10_method_18_code
def yX8_rubs : MethodName := ⟨RX8, "rubs", "()I"⟩
abbrev cX8_swaps : ByteArray := prog_10_method_19_code
def yX8_swaps : MethodName := ⟨RX8, "swaps", "()I"⟩
abbrev cX8_greatens : ByteArray := prog_10_method_20_code
def yX8_greatens : MethodName := ⟨RX8, "greatens", "()I"⟩
abbrev cX8_goesTo : ByteArray := prog_10_method_21_code
def yX8_goesTo : MethodName := ⟨RX8, "goesTo", "(I)I"⟩
abbrev cX8_lineAt : ByteArray := prog_10_method_22_code
def yX8_lineAt : MethodName := ⟨RX8, "lineAt", "(I)I"⟩
abbrev cX8_marks : ByteArray := prog_10_method_23_code
def yX8_marks : MethodName := ⟨RX8, "marks", "()I"⟩
abbrev cX8_exchanges : ByteArray := prog_10_method_24_code
def yX8_exchanges : MethodName := ⟨RX8, "exchanges", "()I"⟩
abbrev cX8_collects : ByteArray := prog_10_method_25_code
def yX8_collects : MethodName := ⟨RX8, "collects", "(II)V"⟩
abbrev cX8_grows : ByteArray := prog_10_method_26_code
def yX8_grows : MethodName := ⟨RX8, "grows", "(IIZ)V"⟩
abbrev cX8_kills : ByteArray := prog_10_method_27_code
def yX8_kills : MethodName := ⟨RX8, "kills", "(IIZ)I"⟩
abbrev cX8_killsWord : ByteArray := prog_10_method_28_code
def yX8_killsWord : MethodName := ⟨RX8, "killsWord", "()I"⟩
abbrev cX8_killsBack : ByteArray := prog_10_method_29_code
def yX8_killsBack : MethodName := ⟨RX8, "killsBack", "()I"⟩
abbrev cX8_killsLine : ByteArray := prog_10_method_30_code
def yX8_killsLine : MethodName := ⟨RX8, "killsLine", "()I"⟩
abbrev cX8_killsBetween : ByteArray := prog_10_method_31_code
def yX8_killsBetween : MethodName := ⟨RX8, "killsBetween", "()I"⟩
abbrev cX8_apart : ByteArray := prog_10_method_32_code
def yX8_apart : MethodName := ⟨RX8, "apart", "()I"⟩
abbrev cX8_copiesBetween : ByteArray := prog_10_method_33_code
def yX8_copiesBetween : MethodName := ⟨RX8, "copiesBetween", "()I"⟩
abbrev cX8_yanks : ByteArray := prog_10_method_34_code
def yX8_yanks : MethodName := ⟨RX8, "yanks", "()I"⟩
abbrev cX8_turns : ByteArray := prog_10_method_35_code
def yX8_turns : MethodName := ⟨RX8, "turns", "(I)I"⟩
abbrev cX8_yanksOther : ByteArray := prog_10_method_36_code
def yX8_yanksOther : MethodName := ⟨RX8, "yanksOther", "()I"⟩
abbrev cX8_does : ByteArray := prog_10_method_37_code
def yX8_does : MethodName := ⟨RX8, "does", "(II)I"⟩
abbrev cX8_doesMore : ByteArray := prog_10_method_38_code
def yX8_doesMore : MethodName := ⟨RX8, "doesMore", "(II)I"⟩
abbrev cX8_kindOf : ByteArray := prog_10_method_39_code
def yX8_kindOf : MethodName := ⟨RX8, "kindOf", "(I)I"⟩
abbrev cX8_acts : ByteArray := prog_10_method_40_code
def yX8_acts : MethodName := ⟨RX8, "acts", "(I)I"⟩
abbrev cX8_remembers : ByteArray := prog_10_method_41_code
def yX8_remembers : MethodName := ⟨RX8, "remembers", "()V"⟩
abbrev cX8_write : ByteArray := prog_10_method_42_code
def yX8_write : MethodName := ⟨RX8, "write", "(I)I"⟩
abbrev cX8_rub : ByteArray := prog_10_method_43_code
def yX8_rub : MethodName := ⟨RX8, "rub", "()I"⟩
abbrev cX8_swap : ByteArray := prog_10_method_44_code
def yX8_swap : MethodName := ⟨RX8, "swap", "()I"⟩
abbrev cX8_greaten : ByteArray := prog_10_method_45_code
def yX8_greaten : MethodName := ⟨RX8, "greaten", "()I"⟩
abbrev cX8_goTo : ByteArray := prog_10_method_46_code
def yX8_goTo : MethodName := ⟨RX8, "goTo", "(I)I"⟩
abbrev cX8_wordOn : ByteArray := prog_10_method_47_code
def yX8_wordOn : MethodName := ⟨RX8, "wordOn", "()I"⟩
abbrev cX8_wordBack : ByteArray := prog_10_method_48_code
def yX8_wordBack : MethodName := ⟨RX8, "wordBack", "()I"⟩
abbrev cX8_lineBegin : ByteArray := prog_10_method_49_code
def yX8_lineBegin : MethodName := ⟨RX8, "lineBegin", "()I"⟩
abbrev cX8_lineEnd : ByteArray := prog_10_method_50_code
def yX8_lineEnd : MethodName := ⟨RX8, "lineEnd", "()I"⟩
abbrev cX8_goLines : ByteArray := prog_10_method_51_code
def yX8_goLines : MethodName := ⟨RX8, "goLines", "(I)I"⟩
abbrev cX8_mark : ByteArray := prog_10_method_52_code
def yX8_mark : MethodName := ⟨RX8, "mark", "()I"⟩
abbrev cX8_exchange : ByteArray := prog_10_method_53_code
def yX8_exchange : MethodName := ⟨RX8, "exchange", "()I"⟩
abbrev cX8_isFoundAt : ByteArray := prog_10_method_54_code
def yX8_isFoundAt : MethodName := ⟨RX8, "isFoundAt", "(I)Z"⟩
abbrev cX8_find : ByteArray := prog_10_method_55_code
def yX8_find : MethodName := ⟨RX8, "find", "()I"⟩
abbrev cX8_killWord : ByteArray := prog_10_method_56_code
def yX8_killWord : MethodName := ⟨RX8, "killWord", "()I"⟩
abbrev cX8_killBack : ByteArray := prog_10_method_57_code
def yX8_killBack : MethodName := ⟨RX8, "killBack", "()I"⟩
abbrev cX8_killLine : ByteArray := prog_10_method_58_code
def yX8_killLine : MethodName := ⟨RX8, "killLine", "()I"⟩
abbrev cX8_killBetween : ByteArray := prog_10_method_59_code
def yX8_killBetween : MethodName := ⟨RX8, "killBetween", "()I"⟩
abbrev cX8_copyBetween : ByteArray := prog_10_method_60_code
def yX8_copyBetween : MethodName := ⟨RX8, "copyBetween", "()I"⟩
abbrev cX8_yank : ByteArray := prog_10_method_61_code
def yX8_yank : MethodName := ⟨RX8, "yank", "()I"⟩
abbrev cX8_yankOther : ByteArray := prog_10_method_62_code
def yX8_yankOther : MethodName := ⟨RX8, "yankOther", "()I"⟩
abbrev cX8_turn : ByteArray := prog_10_method_63_code
def yX8_turn : MethodName := ⟨RX8, "turn", "(I)I"⟩
abbrev cX8_changeCaves : ByteArray := prog_10_method_64_code
def yX8_changeCaves : MethodName := ⟨RX8, "changeCaves", "(I)I"⟩
abbrev cX8_append : ByteArray := prog_10_method_65_code
def yX8_append : MethodName := ⟨RX8, "append", "(I)I"⟩
abbrev cX8_clearBuffer : ByteArray := prog_10_method_66_code
def yX8_clearBuffer : MethodName := ⟨RX8, "clearBuffer", "()I"⟩
abbrev cX8_isSign : ByteArray := prog_10_method_67_code
def yX8_isSign : MethodName := ⟨RX8, "isSign", "(I)Z"⟩
abbrev cX8_part : ByteArray := prog_10_method_68_code
def yX8_part : MethodName := ⟨RX8, "part", "()I"⟩
abbrev cX8_tells : ByteArray := prog_10_method_69_code
def yX8_tells : MethodName := ⟨RX8, "tells", "()Z"⟩
abbrev cX8_firstError : ByteArray := prog_10_method_70_code
def yX8_firstError : MethodName := ⟨RX8, "firstError", "()I"⟩
abbrev cX8_doesAll : ByteArray := prog_10_method_71_code
def yX8_doesAll : MethodName := ⟨RX8, "doesAll", "()I"⟩
abbrev cX8_perform : ByteArray := prog_10_method_72_code
def yX8_perform : MethodName := ⟨RX8, "perform", "()I"⟩
abbrev cX8_keep : ByteArray := prog_10_method_73_code
def yX8_keep : MethodName := ⟨RX8, "keep", "(I)V"⟩
abbrev cX8_goBack : ByteArray := prog_10_method_74_code
def yX8_goBack : MethodName := ⟨RX8, "goBack", "(I)V"⟩
abbrev cX8_undo : ByteArray := prog_10_method_75_code
def yX8_undo : MethodName := ⟨RX8, "undo", "()V"⟩
abbrev cX8_savedStates : ByteArray := prog_10_method_76_code
def yX8_savedStates : MethodName := ⟨RX8, "savedStates", "()I"⟩
abbrev cX8_plain : ByteArray := prog_10_method_77_code
def yX8_plain : MethodName := ⟨RX8, "plain", "(I)I"⟩
abbrev cX8_length : ByteArray := prog_10_method_78_code
def yX8_length : MethodName := ⟨RX8, "length", "()I"⟩
abbrev cX8_codeAt : ByteArray := prog_10_method_79_code
def yX8_codeAt : MethodName := ⟨RX8, "codeAt", "(I)I"⟩
abbrev cX8_point : ByteArray := prog_10_method_80_code
def yX8_point : MethodName := ⟨RX8, "point", "()I"⟩
abbrev cX8_markAt : ByteArray := prog_10_method_81_code
def yX8_markAt : MethodName := ⟨RX8, "markAt", "()I"⟩
abbrev cX8_between : ByteArray := prog_10_method_82_code
def yX8_between : MethodName := ⟨RX8, "between", "()I"⟩
abbrev cX8_endsUntil : ByteArray := prog_10_method_83_code
def yX8_endsUntil : MethodName := ⟨RX8, "endsUntil", "(I)I"⟩
abbrev cX8_linesByEnds : ByteArray := prog_10_method_84_code
def yX8_linesByEnds : MethodName := ⟨RX8, "linesByEnds", "()I"⟩
abbrev cX8_linesByGoing : ByteArray := prog_10_method_85_code
def yX8_linesByGoing : MethodName := ⟨RX8, "linesByGoing", "()I"⟩
abbrev cX8_line : ByteArray := prog_10_method_86_code
def yX8_line : MethodName := ⟨RX8, "line", "()I"⟩
abbrev cX8_column : ByteArray := prog_10_method_87_code
def yX8_column : MethodName := ⟨RX8, "column", "()I"⟩
abbrev cX8_longest : ByteArray := prog_10_method_88_code
def yX8_longest : MethodName := ⟨RX8, "longest", "()I"⟩
abbrev cX8_longestLine : ByteArray := prog_10_method_89_code
def yX8_longestLine : MethodName := ⟨RX8, "longestLine", "()I"⟩
abbrev cX8_words : ByteArray := prog_10_method_90_code
def yX8_words : MethodName := ⟨RX8, "words", "()I"⟩
abbrev cX8_wordsByBegins : ByteArray := prog_10_method_91_code
def yX8_wordsByBegins : MethodName := ⟨RX8, "wordsByBegins", "()I"⟩
abbrev cX8_wordsByGoing : ByteArray := prog_10_method_92_code
def yX8_wordsByGoing : MethodName := ⟨RX8, "wordsByGoing", "()I"⟩
abbrev cX8_hoards : ByteArray := prog_10_method_93_code
def yX8_hoards : MethodName := ⟨RX8, "hoards", "()I"⟩
abbrev cX8_caves : ByteArray := prog_10_method_94_code
def yX8_caves : MethodName := ⟨RX8, "caves", "()I"⟩
abbrev cX8_isHoard : ByteArray := prog_10_method_95_code
def yX8_isHoard : MethodName := ⟨RX8, "isHoard", "(I)Z"⟩
abbrev cX8_lengthOf : ByteArray := prog_10_method_96_code
def yX8_lengthOf : MethodName := ⟨RX8, "lengthOf", "(I)I"⟩
abbrev cX8_codeIn : ByteArray := prog_10_method_97_code
def yX8_codeIn : MethodName := ⟨RX8, "codeIn", "(II)I"⟩
abbrev cX8_nextHoard : ByteArray := prog_10_method_98_code
def yX8_nextHoard : MethodName := ⟨RX8, "nextHoard", "()I"⟩
abbrev cX8_isGrowing : ByteArray := prog_10_method_99_code
def yX8_isGrowing : MethodName := ⟨RX8, "isGrowing", "()Z"⟩
abbrev cX8_canTurnYank : ByteArray := prog_10_method_100_code
def yX8_canTurnYank : MethodName := ⟨RX8, "canTurnYank", "()Z"⟩
abbrev cX8_lengthIfYanked : ByteArray := prog_10_method_101_code
def yX8_lengthIfYanked : MethodName := ⟨RX8, "lengthIfYanked", "(I)I"⟩
abbrev cX8_sum : ByteArray := prog_10_method_102_code
def yX8_sum : MethodName := ⟨RX8, "sum", "()I"⟩
abbrev cX8_weight : ByteArray := prog_10_method_103_code
def yX8_weight : MethodName := ⟨RX8, "weight", "()I"⟩
abbrev cX8_heavy : ByteArray := prog_10_method_104_code
def yX8_heavy : MethodName := ⟨RX8, "heavy", "()I"⟩
abbrev cX8_heaviest : ByteArray := prog_10_method_105_code
def yX8_heaviest : MethodName := ⟨RX8, "heaviest", "()I"⟩
abbrev cX8_killed : ByteArray := prog_10_method_106_code
def yX8_killed : MethodName := ⟨RX8, "killed", "()I"⟩
abbrev cX8_yanked : ByteArray := prog_10_method_107_code
def yX8_yanked : MethodName := ⟨RX8, "yanked", "()I"⟩
abbrev cX8_written : ByteArray := prog_10_method_108_code
def yX8_written : MethodName := ⟨RX8, "written", "()I"⟩
abbrev cX8_lostHoards : ByteArray := prog_10_method_109_code
def yX8_lostHoards : MethodName := ⟨RX8, "lostHoards", "()I"⟩
abbrev cX8_lengthByAccount : ByteArray := prog_10_method_110_code
def yX8_lengthByAccount : MethodName := ⟨RX8, "lengthByAccount", "()I"⟩
abbrev cX8_meanHoard : ByteArray := prog_10_method_111_code
def yX8_meanHoard : MethodName := ⟨RX8, "meanHoard", "()D"⟩
abbrev cX8_bits : ByteArray := prog_10_method_112_code
def yX8_bits : MethodName := ⟨RX8, "bits", "(II)J"⟩
abbrev cX8_hashOfScroll : ByteArray := prog_10_method_113_code
def yX8_hashOfScroll : MethodName := ⟨RX8, "hashOfScroll", "()J"⟩
abbrev cX8_digest : ByteArray := prog_10_method_114_code
def yX8_digest : MethodName := ⟨RX8, "digest", "()J"⟩
def RJ11 : String := "java/lang/Character"
def TJ11 : u_T := fun k => match k with
  | _ => ("", "", "", false)
def tyJ11 : Nat → FieldType := fun k => match k with
  | _ => .int
abbrev wsJ110 : List Cond := u_ws RJ11 TJ11 0
theorem nmJ11 : ∀ a, a < 0 → ∀ b, b < 0 → a ≠ b → (TJ11 a).2.1 ≠ (TJ11 b).2.1 := by decide +kernel
theorem tyJ11_ok : ∀ k, k < 0 → parseFieldDescriptor (TJ11 k).2.2.1 = some (tyJ11 k) := by decide +kernel
abbrev cJ11_isValidCodePoint_9a6ad : ByteArray := prog_11_method_11_code
def yJ11_isValidCodePoint_9a6ad : MethodName := ⟨RJ11, "isValidCodePoint", "(I)Z"⟩
abbrev cJ11_highSurrogate_5068e : ByteArray := prog_11_method_28_code
def yJ11_highSurrogate_5068e : MethodName := ⟨RJ11, "highSurrogate", "(I)C"⟩
abbrev cJ11_lowSurrogate_5068e : ByteArray := prog_11_method_29_code
def yJ11_lowSurrogate_5068e : MethodName := ⟨RJ11, "lowSurrogate", "(I)C"⟩
def RJ9 : String := "java/lang/Math"
def TJ9 : u_T := fun k => match k with
  | _ => ("", "", "", false)
def tyJ9 : Nat → FieldType := fun k => match k with
  | _ => .int
abbrev wsJ90 : List Cond := u_ws RJ9 TJ9 0
theorem nmJ9 : ∀ a, a < 0 → ∀ b, b < 0 → a ≠ b → (TJ9 a).2.1 ≠ (TJ9 b).2.1 := by decide +kernel
theorem tyJ9_ok : ∀ k, k < 0 → parseFieldDescriptor (TJ9 k).2.2.1 = some (tyJ9 k) := by decide +kernel
abbrev cJ9_floorMod_7cf53 : ByteArray := prog_16_method_50_code
def yJ9_floorMod_7cf53 : MethodName := ⟨RJ9, "floorMod", "(II)I"⟩
abbrev cJ9_abs_0f7a4 : ByteArray := prog_16_method_59_code
def yJ9_abs_0f7a4 : MethodName := ⟨RJ9, "abs", "(I)I"⟩
abbrev cJ9_max_7cf53 : ByteArray := prog_16_method_65_code
def yJ9_max_7cf53 : MethodName := ⟨RJ9, "max", "(II)I"⟩
abbrev cJ9_min_7cf53 : ByteArray := prog_16_method_69_code
def yJ9_min_7cf53 : MethodName := ⟨RJ9, "min", "(II)I"⟩
def RJ0 : String := "java/lang/String"
def TJ0 : u_T := fun k => match k with
  | _ => ("", "", "", false)
def tyJ0 : Nat → FieldType := fun k => match k with
  | _ => .int
abbrev wsJ00 : List Cond := u_ws RJ0 TJ0 0
theorem nmJ0 : ∀ a, a < 0 → ∀ b, b < 0 → a ≠ b → (TJ0 a).2.1 ≠ (TJ0 b).2.1 := by decide +kernel
theorem tyJ0_ok : ∀ k, k < 0 → parseFieldDescriptor (TJ0 k).2.2.1 = some (tyJ0 k) := by decide +kernel
abbrev cJ0_length_8abf5 : ByteArray := prog_18_method_54_code
def yJ0_length_8abf5 : MethodName := ⟨RJ0, "length", "()I"⟩
abbrev cJ0_indexOf_0f7a4 : ByteArray := prog_18_method_79_code
def yJ0_indexOf_0f7a4 : MethodName := ⟨RJ0, "indexOf", "(I)I"⟩
abbrev cJ0_indexOf_7cf53 : ByteArray := prog_18_method_80_code
def yJ0_indexOf_7cf53 : MethodName := ⟨RJ0, "indexOf", "(II)I"⟩
abbrev cJ0_coder_7d493 : ByteArray := prog_18_method_152_code
def yJ0_coder_7d493 : MethodName := ⟨RJ0, "coder", "()B"⟩
abbrev cJ0_isLatin1_aae02 : ByteArray := prog_18_method_154_code
def yJ0_isLatin1_aae02 : MethodName := ⟨RJ0, "isLatin1", "()Z"⟩
abbrev cJ0_checkBoundsBeginEnd_23922 : ByteArray := prog_18_method_158_code
def yJ0_checkBoundsBeginEnd_23922 : MethodName := ⟨RJ0, "checkBoundsBeginEnd", "(III)V"⟩
def RJ1 : String := "java/lang/StringLatin1"
def TJ1 : u_T := fun k => match k with
  | _ => ("", "", "", false)
def tyJ1 : Nat → FieldType := fun k => match k with
  | _ => .int
abbrev wsJ10 : List Cond := u_ws RJ1 TJ1 0
theorem nmJ1 : ∀ a, a < 0 → ∀ b, b < 0 → a ≠ b → (TJ1 a).2.1 ≠ (TJ1 b).2.1 := by decide +kernel
theorem tyJ1_ok : ∀ k, k < 0 → parseFieldDescriptor (TJ1 k).2.2.1 = some (tyJ1 k) := by decide +kernel
abbrev cJ1_canEncode_9a6ad : ByteArray := prog_19_method_4_code
def yJ1_canEncode_9a6ad : MethodName := ⟨RJ1, "canEncode", "(I)Z"⟩
abbrev cJ1_indexOf_4cfef : ByteArray := prog_19_method_22_code
def yJ1_indexOf_4cfef : MethodName := ⟨RJ1, "indexOf", "([BIII)I"⟩
abbrev cJ1_indexOfChar_4cfef : ByteArray := prog_19_method_23_code
def yJ1_indexOfChar_4cfef : MethodName := ⟨RJ1, "indexOfChar", "([BIII)I"⟩
def RJ2 : String := "java/lang/StringUTF16"
def TJ2 : u_T := fun k => match k with
  | _ => ("", "", "", false)
def tyJ2 : Nat → FieldType := fun k => match k with
  | _ => .int
abbrev wsJ20 : List Cond := u_ws RJ2 TJ2 0
theorem nmJ2 : ∀ a, a < 0 → ∀ b, b < 0 → a ≠ b → (TJ2 a).2.1 ≠ (TJ2 b).2.1 := by decide +kernel
theorem tyJ2_ok : ∀ k, k < 0 → parseFieldDescriptor (TJ2 k).2.2.1 = some (tyJ2 k) := by decide +kernel
abbrev cJ2_getChar_3b067 : ByteArray := prog_20_method_5_code
def yJ2_getChar_3b067 : MethodName := ⟨RJ2, "getChar", "([BI)C"⟩
abbrev cJ2_length_9d52b : ByteArray := prog_20_method_6_code
def yJ2_length_9d52b : MethodName := ⟨RJ2, "length", "([B)I"⟩
abbrev cJ2_indexOf_4cfef : ByteArray := prog_20_method_40_code
def yJ2_indexOf_4cfef : MethodName := ⟨RJ2, "indexOf", "([BIII)I"⟩
abbrev cJ2_indexOfChar_4cfef : ByteArray := prog_20_method_47_code
def yJ2_indexOfChar_4cfef : MethodName := ⟨RJ2, "indexOfChar", "([BIII)I"⟩
abbrev cJ2_indexOfCharUnsafe_4cfef : ByteArray := prog_20_method_48_code
def yJ2_indexOfCharUnsafe_4cfef : MethodName := ⟨RJ2, "indexOfCharUnsafe", "([BIII)I"⟩
abbrev cJ2_indexOfSupplementary_4cfef : ByteArray := prog_20_method_49_code
def yJ2_indexOfSupplementary_4cfef : MethodName := ⟨RJ2, "indexOfSupplementary", "([BIII)I"⟩
abbrev cJ2_checkBoundsBeginEnd_d044e : ByteArray := prog_20_method_93_code
def yJ2_checkBoundsBeginEnd_d044e : MethodName := ⟨RJ2, "checkBoundsBeginEnd", "(II[B)V"⟩
def RJ10 : String := "java/lang/System"
def TJ10 : u_T := fun k => match k with
  | _ => ("", "", "", false)
def tyJ10 : Nat → FieldType := fun k => match k with
  | _ => .int
abbrev wsJ100 : List Cond := u_ws RJ10 TJ10 0
theorem nmJ10 : ∀ a, a < 0 → ∀ b, b < 0 → a ≠ b → (TJ10 a).2.1 ≠ (TJ10 b).2.1 := by decide +kernel
theorem tyJ10_ok : ∀ k, k < 0 → parseFieldDescriptor (TJ10 k).2.2.1 = some (tyJ10 k) := by decide +kernel
def RJ3 : String := "jdk/internal/util/Preconditions"
def TJ3 : u_T := fun k => match k with
  | _ => ("", "", "", false)
def tyJ3 : Nat → FieldType := fun k => match k with
  | _ => .int
abbrev wsJ30 : List Cond := u_ws RJ3 TJ3 0
theorem nmJ3 : ∀ a, a < 0 → ∀ b, b < 0 → a ≠ b → (TJ3 a).2.1 ≠ (TJ3 b).2.1 := by decide +kernel
theorem tyJ3_ok : ∀ k, k < 0 → parseFieldDescriptor (TJ3 k).2.2.1 = some (tyJ3 k) := by decide +kernel
abbrev cJ3_checkFromToIndex_8c36e : ByteArray := prog_23_method_12_code
def yJ3_checkFromToIndex_8c36e : MethodName := ⟨RJ3, "checkFromToIndex", "(IIILjava/util/function/BiFunction;)I"⟩
def RL : String := "DragonRingLaw"
abbrev cL_write : ByteArray := method_3_code
def yL_write : MethodName := ⟨RL, "write", "(LDragonRing;I[J)I"⟩
abbrev cL_rub : ByteArray := method_4_code
def yL_rub : MethodName := ⟨RL, "rub", "(LDragonRing;[J)I"⟩
abbrev cL_swap : ByteArray := method_5_code
def yL_swap : MethodName := ⟨RL, "swap", "(LDragonRing;[J)I"⟩
abbrev cL_goTo : ByteArray := method_6_code
def yL_goTo : MethodName := ⟨RL, "goTo", "(LDragonRing;I[J)I"⟩
abbrev cL_goLines : ByteArray := method_7_code
def yL_goLines : MethodName := ⟨RL, "goLines", "(LDragonRing;I[J)I"⟩
abbrev cL_exchange : ByteArray := method_8_code
def yL_exchange : MethodName := ⟨RL, "exchange", "(LDragonRing;[J)I"⟩
abbrev cL_find : ByteArray := method_9_code
def yL_find : MethodName := ⟨RL, "find", "(LDragonRing;[J)I"⟩
abbrev cL_killWord : ByteArray := method_10_code
def yL_killWord : MethodName := ⟨RL, "killWord", "(LDragonRing;[J)I"⟩
abbrev cL_killBack : ByteArray := method_11_code
def yL_killBack : MethodName := ⟨RL, "killBack", "(LDragonRing;[J)I"⟩
abbrev cL_killLine : ByteArray := method_12_code
def yL_killLine : MethodName := ⟨RL, "killLine", "(LDragonRing;[J)I"⟩
abbrev cL_killBetween : ByteArray := method_13_code
def yL_killBetween : MethodName := ⟨RL, "killBetween", "(LDragonRing;[J)I"⟩
abbrev cL_copyBetween : ByteArray := method_14_code
def yL_copyBetween : MethodName := ⟨RL, "copyBetween", "(LDragonRing;[J)I"⟩
abbrev cL_yank : ByteArray := method_15_code
def yL_yank : MethodName := ⟨RL, "yank", "(LDragonRing;[J)I"⟩
abbrev cL_yankOther : ByteArray := method_16_code
def yL_yankOther : MethodName := ⟨RL, "yankOther", "(LDragonRing;[J)I"⟩
abbrev cL_turn : ByteArray := method_17_code
def yL_turn : MethodName := ⟨RL, "turn", "(LDragonRing;I[J)I"⟩
abbrev cL_changeCaves : ByteArray := method_18_code
def yL_changeCaves : MethodName := ⟨RL, "changeCaves", "(LDragonRing;I[J)I"⟩
abbrev cL_append : ByteArray := method_19_code
def yL_append : MethodName := ⟨RL, "append", "(LDragonRing;I[J)I"⟩
abbrev cL_perform : ByteArray := method_20_code
def yL_perform : MethodName := ⟨RL, "perform", "(LDragonRing;[J)I"⟩
abbrev cL_keep : ByteArray := method_21_code
def yL_keep : MethodName := ⟨RL, "keep", "(LDragonRing;I)I"⟩
abbrev cL_goBack : ByteArray := method_22_code
def yL_goBack : MethodName := ⟨RL, "goBack", "(LDragonRing;I)I"⟩
abbrev cL_undo : ByteArray := method_23_code
def yL_undo : MethodName := ⟨RL, "undo", "(LDragonRing;)I"⟩
abbrev cL_codeAt : ByteArray := method_24_code
def yL_codeAt : MethodName := ⟨RL, "codeAt", "(LDragonRing;I[J)I"⟩
abbrev cL_markAt : ByteArray := method_25_code
def yL_markAt : MethodName := ⟨RL, "markAt", "(LDragonRing;[J)I"⟩
abbrev cL_between : ByteArray := method_26_code
def yL_between : MethodName := ⟨RL, "between", "(LDragonRing;[J)I"⟩
abbrev cL_lengthOf : ByteArray := method_27_code
def yL_lengthOf : MethodName := ⟨RL, "lengthOf", "(LDragonRing;I[J)I"⟩
abbrev cL_codeIn : ByteArray := method_28_code
def yL_codeIn : MethodName := ⟨RL, "codeIn", "(LDragonRing;II[J)I"⟩
abbrev cL_nextHoard : ByteArray := method_29_code
def yL_nextHoard : MethodName := ⟨RL, "nextHoard", "(LDragonRing;[J)I"⟩
abbrev cL_lengthIfYanked : ByteArray := method_30_code
def yL_lengthIfYanked : MethodName := ⟨RL, "lengthIfYanked", "(LDragonRing;I[J)I"⟩
abbrev cL_heaviest : ByteArray := method_31_code
def yL_heaviest : MethodName := ⟨RL, "heaviest", "(LDragonRing;[J)I"⟩
abbrev cL_law : ByteArray := code
def yL_law : MethodName := ⟨RL, "law", "([I)Z"⟩
abbrev vwCl : List vw_C := [(RX0, TX0, 6), (RX1, TX1, 1), (RX2, TX2, 3), (RX3, TX3, 5), (RX4, TX4, 3), (RX5, TX5, 4), (RX6, TX6, 2), (RX7, TX7, 5), (RX8, TX8, 10)]
end
section
theorem dX0_init_0 : decode cX0_init 0 = .ok (.aload_n 0, 1) := by decide +kernel
theorem dX0_init_1 : decode cX0_init 1 = .ok (.invokespecial 1, 3) := by decide +kernel
theorem dX0_init_4 : decode cX0_init 4 = .ok (.return_, 1) := by decide +kernel
theorem dX0_copyFrom_0 : decode cX0_copyFrom 0 = .ok (.aload_n 0, 1) := by decide +kernel
theorem dX0_copyFrom_1 : decode cX0_copyFrom 1 = .ok (.aload_n 1, 1) := by decide +kernel
theorem dX0_copyFrom_2 : decode cX0_copyFrom 2 = .ok (.getfield 7, 3) := by decide +kernel
theorem dX0_copyFrom_5 : decode cX0_copyFrom 5 = .ok (.putfield 7, 3) := by decide +kernel
theorem dX0_copyFrom_8 : decode cX0_copyFrom 8 = .ok (.aload_n 0, 1) := by decide +kernel
theorem dX0_copyFrom_9 : decode cX0_copyFrom 9 = .ok (.aload_n 1, 1) := by decide +kernel
theorem dX0_copyFrom_10 : decode cX0_copyFrom 10 = .ok (.getfield 13, 3) := by decide +kernel
theorem dX0_copyFrom_13 : decode cX0_copyFrom 13 = .ok (.putfield 13, 3) := by decide +kernel
theorem dX0_copyFrom_16 : decode cX0_copyFrom 16 = .ok (.aload_n 0, 1) := by decide +kernel
theorem dX0_copyFrom_17 : decode cX0_copyFrom 17 = .ok (.aload_n 1, 1) := by decide +kernel
theorem dX0_copyFrom_18 : decode cX0_copyFrom 18 = .ok (.getfield 16, 3) := by decide +kernel
theorem dX0_copyFrom_21 : decode cX0_copyFrom 21 = .ok (.putfield 16, 3) := by decide +kernel
theorem dX0_copyFrom_24 : decode cX0_copyFrom 24 = .ok (.aload_n 0, 1) := by decide +kernel
theorem dX0_copyFrom_25 : decode cX0_copyFrom 25 = .ok (.aload_n 1, 1) := by decide +kernel
theorem dX0_copyFrom_26 : decode cX0_copyFrom 26 = .ok (.getfield 19, 3) := by decide +kernel
theorem dX0_copyFrom_29 : decode cX0_copyFrom 29 = .ok (.putfield 19, 3) := by decide +kernel
theorem dX0_copyFrom_32 : decode cX0_copyFrom 32 = .ok (.aload_n 0, 1) := by decide +kernel
theorem dX0_copyFrom_33 : decode cX0_copyFrom 33 = .ok (.aload_n 1, 1) := by decide +kernel
theorem dX0_copyFrom_34 : decode cX0_copyFrom 34 = .ok (.getfield 22, 3) := by decide +kernel
theorem dX0_copyFrom_37 : decode cX0_copyFrom 37 = .ok (.putfield 22, 3) := by decide +kernel
theorem dX0_copyFrom_40 : decode cX0_copyFrom 40 = .ok (.aload_n 0, 1) := by decide +kernel
theorem dX0_copyFrom_41 : decode cX0_copyFrom 41 = .ok (.aload_n 1, 1) := by decide +kernel
theorem dX0_copyFrom_42 : decode cX0_copyFrom 42 = .ok (.getfield 25, 3) := by decide +kernel
theorem dX0_copyFrom_45 : decode cX0_copyFrom 45 = .ok (.putfield 25, 3) := by decide +kernel
theorem dX0_copyFrom_48 : decode cX0_copyFrom 48 = .ok (.return_, 1) := by decide +kernel
theorem dX0_balance_0 : decode cX0_balance 0 = .ok (.aload_n 0, 1) := by decide +kernel
theorem dX0_balance_1 : decode cX0_balance 1 = .ok (.getfield 7, 3) := by decide +kernel
theorem dX0_balance_4 : decode cX0_balance 4 = .ok (.aload_n 0, 1) := by decide +kernel
theorem dX0_balance_5 : decode cX0_balance 5 = .ok (.getfield 19, 3) := by decide +kernel
theorem dX0_balance_8 : decode cX0_balance 8 = .ok (.iadd, 1) := by decide +kernel
theorem dX0_balance_9 : decode cX0_balance 9 = .ok (.aload_n 0, 1) := by decide +kernel
theorem dX0_balance_10 : decode cX0_balance 10 = .ok (.getfield 16, 3) := by decide +kernel
theorem dX0_balance_13 : decode cX0_balance 13 = .ok (.isub, 1) := by decide +kernel
theorem dX0_balance_14 : decode cX0_balance 14 = .ok (.aload_n 0, 1) := by decide +kernel
theorem dX0_balance_15 : decode cX0_balance 15 = .ok (.getfield 13, 3) := by decide +kernel
theorem dX0_balance_18 : decode cX0_balance 18 = .ok (.isub, 1) := by decide +kernel
theorem dX0_balance_19 : decode cX0_balance 19 = .ok (.aload_n 0, 1) := by decide +kernel
theorem dX0_balance_20 : decode cX0_balance 20 = .ok (.getfield 22, 3) := by decide +kernel
theorem dX0_balance_23 : decode cX0_balance 23 = .ok (.isub, 1) := by decide +kernel
theorem dX0_balance_24 : decode cX0_balance 24 = .ok (.ireturn, 1) := by decide +kernel
theorem dX1_init_0 : decode cX1_init 0 = .ok (.aload_n 0, 1) := by decide +kernel
theorem dX1_init_1 : decode cX1_init 1 = .ok (.invokespecial 3, 3) := by decide +kernel
theorem dX1_init_4 : decode cX1_init 4 = .ok (.aload_n 0, 1) := by decide +kernel
theorem dX1_init_5 : decode cX1_init 5 = .ok (.ldc2_w 9, 3) := by decide +kernel
theorem dX1_init_8 : decode cX1_init 8 = .ok (.putfield 11, 3) := by decide +kernel
theorem dX1_init_11 : decode cX1_init 11 = .ok (.return_, 1) := by decide +kernel
theorem dX1_add_0 : decode cX1_add 0 = .ok (.aload_n 0, 1) := by decide +kernel
theorem dX1_add_1 : decode cX1_add 1 = .ok (.ldc2_w 17, 3) := by decide +kernel
theorem dX1_add_4 : decode cX1_add 4 = .ok (.aload_n 0, 1) := by decide +kernel
theorem dX1_add_5 : decode cX1_add 5 = .ok (.getfield 11, 3) := by decide +kernel
theorem dX1_add_8 : decode cX1_add 8 = .ok (.lmul, 1) := by decide +kernel
theorem dX1_add_9 : decode cX1_add 9 = .ok (.lload_n 1, 1) := by decide +kernel
theorem dX1_add_10 : decode cX1_add 10 = .ok (.ladd, 1) := by decide +kernel
theorem dX1_add_11 : decode cX1_add 11 = .ok (.putfield 11, 3) := by decide +kernel
theorem dX1_add_14 : decode cX1_add 14 = .ok (.return_, 1) := by decide +kernel
theorem dX1_addText_0 : decode cX1_addText 0 = .ok (.aload_n 0, 1) := by decide +kernel
theorem dX1_addText_1 : decode cX1_addText 1 = .ok (.aload_n 1, 1) := by decide +kernel
theorem dX1_addText_2 : decode cX1_addText 2 = .ok (.invokevirtual 19, 3) := by decide +kernel
theorem dX1_addText_5 : decode cX1_addText 5 = .ok (.i2l, 1) := by decide +kernel
theorem dX1_addText_6 : decode cX1_addText 6 = .ok (.invokevirtual 25, 3) := by decide +kernel
theorem dX1_addText_9 : decode cX1_addText 9 = .ok (.iconst 0, 1) := by decide +kernel
theorem dX1_addText_10 : decode cX1_addText 10 = .ok (.istore_n 2, 1) := by decide +kernel
theorem dX1_addText_11 : decode cX1_addText 11 = .ok (.iload_n 2, 1) := by decide +kernel
theorem dX1_addText_12 : decode cX1_addText 12 = .ok (.aload_n 1, 1) := by decide +kernel
theorem dX1_addText_13 : decode cX1_addText 13 = .ok (.invokevirtual 19, 3) := by decide +kernel
theorem dX1_addText_16 : decode cX1_addText 16 = .ok (.if_icmp .ge 19, 3) := by decide +kernel
theorem dX1_addText_19 : decode cX1_addText 19 = .ok (.aload_n 0, 1) := by decide +kernel
theorem dX1_addText_20 : decode cX1_addText 20 = .ok (.aload_n 1, 1) := by decide +kernel
theorem dX1_addText_21 : decode cX1_addText 21 = .ok (.iload_n 2, 1) := by decide +kernel
theorem dX1_addText_22 : decode cX1_addText 22 = .ok (.invokevirtual 29, 3) := by decide +kernel
theorem dX1_addText_25 : decode cX1_addText 25 = .ok (.i2l, 1) := by decide +kernel
theorem dX1_addText_26 : decode cX1_addText 26 = .ok (.invokevirtual 25, 3) := by decide +kernel
theorem dX1_addText_29 : decode cX1_addText 29 = .ok (.iinc 2 1, 3) := by decide +kernel
theorem dX1_addText_32 : decode cX1_addText 32 = .ok (.goto (-21), 3) := by decide +kernel
theorem dX1_addText_35 : decode cX1_addText 35 = .ok (.return_, 1) := by decide +kernel
theorem dX2_init_0 : decode cX2_init 0 = .ok (.aload_n 0, 1) := by decide +kernel
theorem dX2_init_1 : decode cX2_init 1 = .ok (.invokespecial 3, 3) := by decide +kernel
theorem dX2_init_4 : decode cX2_init 4 = .ok (.aload_n 0, 1) := by decide +kernel
theorem dX2_init_5 : decode cX2_init 5 = .ok (.bipush 7, 2) := by decide +kernel
theorem dX2_init_7 : decode cX2_init 7 = .ok (.anewarray 11, 3) := by decide +kernel
theorem dX2_init_10 : decode cX2_init 10 = .ok (.putfield 13, 3) := by decide +kernel
theorem dX2_init_13 : decode cX2_init 13 = .ok (.iconst 0, 1) := by decide +kernel
theorem dX2_init_14 : decode cX2_init 14 = .ok (.istore_n 1, 1) := by decide +kernel
theorem dX2_init_15 : decode cX2_init 15 = .ok (.iload_n 1, 1) := by decide +kernel
theorem dX2_init_16 : decode cX2_init 16 = .ok (.bipush 7, 2) := by decide +kernel
theorem dX2_init_18 : decode cX2_init 18 = .ok (.if_icmp .ge 22, 3) := by decide +kernel
theorem dX2_init_21 : decode cX2_init 21 = .ok (.aload_n 0, 1) := by decide +kernel
theorem dX2_init_22 : decode cX2_init 22 = .ok (.getfield 13, 3) := by decide +kernel
theorem dX2_init_25 : decode cX2_init 25 = .ok (.iload_n 1, 1) := by decide +kernel
theorem dX2_init_26 : decode cX2_init 26 = .ok (.new 11, 3) := by decide +kernel
theorem dX2_init_29 : decode cX2_init 29 = .ok (.dup, 1) := by decide +kernel
theorem dX2_init_30 : decode cX2_init 30 = .ok (.invokespecial 17, 3) := by decide +kernel
theorem dX2_init_33 : decode cX2_init 33 = .ok (.aastore, 1) := by decide +kernel
theorem dX2_init_34 : decode cX2_init 34 = .ok (.iinc 1 1, 3) := by decide +kernel
theorem dX2_init_37 : decode cX2_init 37 = .ok (.goto (-22), 3) := by decide +kernel
theorem dX2_init_40 : decode cX2_init 40 = .ok (.return_, 1) := by decide +kernel
theorem dX2_count_0 : decode cX2_count 0 = .ok (.aload_n 0, 1) := by decide +kernel
theorem dX2_count_1 : decode cX2_count 1 = .ok (.getfield 18, 3) := by decide +kernel
theorem dX2_count_4 : decode cX2_count 4 = .ok (.ireturn, 1) := by decide +kernel
theorem dX2_row_0 : decode cX2_row 0 = .ok (.aload_n 0, 1) := by decide +kernel
theorem dX2_row_1 : decode cX2_row 1 = .ok (.getfield 13, 3) := by decide +kernel
theorem dX2_row_4 : decode cX2_row 4 = .ok (.iload_n 1, 1) := by decide +kernel
theorem dX2_row_5 : decode cX2_row 5 = .ok (.bipush 7, 2) := by decide +kernel
theorem dX2_row_7 : decode cX2_row 7 = .ok (.invokestatic 22, 3) := by decide +kernel
theorem dX2_row_10 : decode cX2_row 10 = .ok (.aaload, 1) := by decide +kernel
theorem dX2_row_11 : decode cX2_row 11 = .ok (.areturn, 1) := by decide +kernel
theorem dX2_prepare_0 : decode cX2_prepare 0 = .ok (.aload_n 0, 1) := by decide +kernel
theorem dX2_prepare_1 : decode cX2_prepare 1 = .ok (.invokevirtual 28, 3) := by decide +kernel
theorem dX2_prepare_4 : decode cX2_prepare 4 = .ok (.aload_n 1, 1) := by decide +kernel
theorem dX2_prepare_5 : decode cX2_prepare 5 = .ok (.invokevirtual 32, 3) := by decide +kernel
theorem dX2_prepare_8 : decode cX2_prepare 8 = .ok (.return_, 1) := by decide +kernel
theorem dX2_prepared_0 : decode cX2_prepared 0 = .ok (.aload_n 0, 1) := by decide +kernel
theorem dX2_prepared_1 : decode cX2_prepared 1 = .ok (.aload_n 0, 1) := by decide +kernel
theorem dX2_prepared_2 : decode cX2_prepared 2 = .ok (.getfield 36, 3) := by decide +kernel
theorem dX2_prepared_5 : decode cX2_prepared 5 = .ok (.aload_n 0, 1) := by decide +kernel
theorem dX2_prepared_6 : decode cX2_prepared 6 = .ok (.getfield 18, 3) := by decide +kernel
theorem dX2_prepared_9 : decode cX2_prepared 9 = .ok (.iadd, 1) := by decide +kernel
theorem dX2_prepared_10 : decode cX2_prepared 10 = .ok (.invokevirtual 39, 3) := by decide +kernel
theorem dX2_prepared_13 : decode cX2_prepared 13 = .ok (.areturn, 1) := by decide +kernel
theorem dX2_save_0 : decode cX2_save 0 = .ok (.aload_n 0, 1) := by decide +kernel
theorem dX2_save_1 : decode cX2_save 1 = .ok (.getfield 18, 3) := by decide +kernel
theorem dX2_save_4 : decode cX2_save 4 = .ok (.bipush 6, 2) := by decide +kernel
theorem dX2_save_6 : decode cX2_save 6 = .ok (.if_icmp .ge 16, 3) := by decide +kernel
theorem dX2_save_9 : decode cX2_save 9 = .ok (.aload_n 0, 1) := by decide +kernel
theorem dX2_save_10 : decode cX2_save 10 = .ok (.dup, 1) := by decide +kernel
theorem dX2_save_11 : decode cX2_save 11 = .ok (.getfield 18, 3) := by decide +kernel
theorem dX2_save_14 : decode cX2_save 14 = .ok (.iconst 1, 1) := by decide +kernel
theorem dX2_save_15 : decode cX2_save 15 = .ok (.iadd, 1) := by decide +kernel
theorem dX2_save_16 : decode cX2_save 16 = .ok (.putfield 18, 3) := by decide +kernel
theorem dX2_save_19 : decode cX2_save 19 = .ok (.goto 18, 3) := by decide +kernel
theorem dX2_save_22 : decode cX2_save 22 = .ok (.aload_n 0, 1) := by decide +kernel
theorem dX2_save_23 : decode cX2_save 23 = .ok (.aload_n 0, 1) := by decide +kernel
theorem dX2_save_24 : decode cX2_save 24 = .ok (.getfield 36, 3) := by decide +kernel
theorem dX2_save_27 : decode cX2_save 27 = .ok (.iconst 1, 1) := by decide +kernel
theorem dX2_save_28 : decode cX2_save 28 = .ok (.iadd, 1) := by decide +kernel
theorem dX2_save_29 : decode cX2_save 29 = .ok (.bipush 7, 2) := by decide +kernel
theorem dX2_save_31 : decode cX2_save 31 = .ok (.invokestatic 22, 3) := by decide +kernel
theorem dX2_save_34 : decode cX2_save 34 = .ok (.putfield 36, 3) := by decide +kernel
theorem dX2_save_37 : decode cX2_save 37 = .ok (.return_, 1) := by decide +kernel
theorem dX2_latest_0 : decode cX2_latest 0 = .ok (.aload_n 0, 1) := by decide +kernel
theorem dX2_latest_1 : decode cX2_latest 1 = .ok (.aload_n 0, 1) := by decide +kernel
theorem dX2_latest_2 : decode cX2_latest 2 = .ok (.getfield 36, 3) := by decide +kernel
theorem dX2_latest_5 : decode cX2_latest 5 = .ok (.aload_n 0, 1) := by decide +kernel
theorem dX2_latest_6 : decode cX2_latest 6 = .ok (.getfield 18, 3) := by decide +kernel
theorem dX2_latest_9 : decode cX2_latest 9 = .ok (.iadd, 1) := by decide +kernel
theorem dX2_latest_10 : decode cX2_latest 10 = .ok (.iconst 1, 1) := by decide +kernel
theorem dX2_latest_11 : decode cX2_latest 11 = .ok (.isub, 1) := by decide +kernel
theorem dX2_latest_12 : decode cX2_latest 12 = .ok (.invokevirtual 39, 3) := by decide +kernel
theorem dX2_latest_15 : decode cX2_latest 15 = .ok (.areturn, 1) := by decide +kernel
theorem dX2_drop_0 : decode cX2_drop 0 = .ok (.aload_n 0, 1) := by decide +kernel
theorem dX2_drop_1 : decode cX2_drop 1 = .ok (.getfield 18, 3) := by decide +kernel
theorem dX2_drop_4 : decode cX2_drop 4 = .ok (.ifCond .le 13, 3) := by decide +kernel
theorem dX2_drop_7 : decode cX2_drop 7 = .ok (.aload_n 0, 1) := by decide +kernel
theorem dX2_drop_8 : decode cX2_drop 8 = .ok (.dup, 1) := by decide +kernel
theorem dX2_drop_9 : decode cX2_drop 9 = .ok (.getfield 18, 3) := by decide +kernel
theorem dX2_drop_12 : decode cX2_drop 12 = .ok (.iconst 1, 1) := by decide +kernel
theorem dX2_drop_13 : decode cX2_drop 13 = .ok (.isub, 1) := by decide +kernel
theorem dX2_drop_14 : decode cX2_drop 14 = .ok (.putfield 18, 3) := by decide +kernel
theorem dX2_drop_17 : decode cX2_drop 17 = .ok (.return_, 1) := by decide +kernel
theorem dX3_init_0 : decode cX3_init 0 = .ok (.aload_n 0, 1) := by decide +kernel
theorem dX3_init_1 : decode cX3_init 1 = .ok (.invokespecial 3, 3) := by decide +kernel
theorem dX3_init_4 : decode cX3_init 4 = .ok (.aload_n 0, 1) := by decide +kernel
theorem dX3_init_5 : decode cX3_init 5 = .ok (.bipush 8, 2) := by decide +kernel
theorem dX3_init_7 : decode cX3_init 7 = .ok (.anewarray 9, 3) := by decide +kernel
theorem dX3_init_10 : decode cX3_init 10 = .ok (.putfield 11, 3) := by decide +kernel
theorem dX3_init_13 : decode cX3_init 13 = .ok (.aload_n 0, 1) := by decide +kernel
theorem dX3_init_14 : decode cX3_init 14 = .ok (.new 9, 3) := by decide +kernel
theorem dX3_init_17 : decode cX3_init 17 = .ok (.dup, 1) := by decide +kernel
theorem dX3_init_18 : decode cX3_init 18 = .ok (.iconst 0, 1) := by decide +kernel
theorem dX3_init_19 : decode cX3_init 19 = .ok (.invokespecial 17, 3) := by decide +kernel
theorem dX3_init_22 : decode cX3_init 22 = .ok (.putfield 20, 3) := by decide +kernel
theorem dX3_init_25 : decode cX3_init 25 = .ok (.aload_n 0, 1) := by decide +kernel
theorem dX3_init_26 : decode cX3_init 26 = .ok (.iconst 5, 1) := by decide +kernel
theorem dX3_init_27 : decode cX3_init 27 = .ok (.putfield 24, 3) := by decide +kernel
theorem dX3_init_30 : decode cX3_init 30 = .ok (.aload_n 0, 1) := by decide +kernel
theorem dX3_init_31 : decode cX3_init 31 = .ok (.iconst (-1), 1) := by decide +kernel
theorem dX3_init_32 : decode cX3_init 32 = .ok (.putfield 28, 3) := by decide +kernel
theorem dX3_init_35 : decode cX3_init 35 = .ok (.iconst 0, 1) := by decide +kernel
theorem dX3_init_36 : decode cX3_init 36 = .ok (.istore_n 1, 1) := by decide +kernel
theorem dX3_init_37 : decode cX3_init 37 = .ok (.iload_n 1, 1) := by decide +kernel
theorem dX3_init_38 : decode cX3_init 38 = .ok (.bipush 8, 2) := by decide +kernel
theorem dX3_init_40 : decode cX3_init 40 = .ok (.if_icmp .ge 25, 3) := by decide +kernel
theorem dX3_init_43 : decode cX3_init 43 = .ok (.aload_n 0, 1) := by decide +kernel
theorem dX3_init_44 : decode cX3_init 44 = .ok (.getfield 11, 3) := by decide +kernel
theorem dX3_init_47 : decode cX3_init 47 = .ok (.iload_n 1, 1) := by decide +kernel
theorem dX3_init_48 : decode cX3_init 48 = .ok (.new 9, 3) := by decide +kernel
theorem dX3_init_51 : decode cX3_init 51 = .ok (.dup, 1) := by decide +kernel
theorem dX3_init_52 : decode cX3_init 52 = .ok (.sipush 200, 3) := by decide +kernel
theorem dX3_init_55 : decode cX3_init 55 = .ok (.invokespecial 17, 3) := by decide +kernel
theorem dX3_init_58 : decode cX3_init 58 = .ok (.aastore, 1) := by decide +kernel
theorem dX3_init_59 : decode cX3_init 59 = .ok (.iinc 1 1, 3) := by decide +kernel
theorem dX3_init_62 : decode cX3_init 62 = .ok (.goto (-25), 3) := by decide +kernel
theorem dX3_init_65 : decode cX3_init 65 = .ok (.return_, 1) := by decide +kernel
theorem dX3_copyFrom_0 : decode cX3_copyFrom 0 = .ok (.aload_n 0, 1) := by decide +kernel
theorem dX3_copyFrom_1 : decode cX3_copyFrom 1 = .ok (.aload_n 1, 1) := by decide +kernel
theorem dX3_copyFrom_2 : decode cX3_copyFrom 2 = .ok (.getfield 31, 3) := by decide +kernel
theorem dX3_copyFrom_5 : decode cX3_copyFrom 5 = .ok (.putfield 31, 3) := by decide +kernel
theorem dX3_copyFrom_8 : decode cX3_copyFrom 8 = .ok (.aload_n 0, 1) := by decide +kernel
theorem dX3_copyFrom_9 : decode cX3_copyFrom 9 = .ok (.aload_n 1, 1) := by decide +kernel
theorem dX3_copyFrom_10 : decode cX3_copyFrom 10 = .ok (.getfield 24, 3) := by decide +kernel
theorem dX3_copyFrom_13 : decode cX3_copyFrom 13 = .ok (.putfield 24, 3) := by decide +kernel
theorem dX3_copyFrom_16 : decode cX3_copyFrom 16 = .ok (.aload_n 0, 1) := by decide +kernel
theorem dX3_copyFrom_17 : decode cX3_copyFrom 17 = .ok (.aload_n 1, 1) := by decide +kernel
theorem dX3_copyFrom_18 : decode cX3_copyFrom 18 = .ok (.getfield 28, 3) := by decide +kernel
theorem dX3_copyFrom_21 : decode cX3_copyFrom 21 = .ok (.putfield 28, 3) := by decide +kernel
theorem dX3_copyFrom_24 : decode cX3_copyFrom 24 = .ok (.iconst 0, 1) := by decide +kernel
theorem dX3_copyFrom_25 : decode cX3_copyFrom 25 = .ok (.istore_n 2, 1) := by decide +kernel
theorem dX3_copyFrom_26 : decode cX3_copyFrom 26 = .ok (.iload_n 2, 1) := by decide +kernel
theorem dX3_copyFrom_27 : decode cX3_copyFrom 27 = .ok (.aload_n 0, 1) := by decide +kernel
theorem dX3_copyFrom_28 : decode cX3_copyFrom 28 = .ok (.getfield 31, 3) := by decide +kernel
theorem dX3_copyFrom_31 : decode cX3_copyFrom 31 = .ok (.if_icmp .ge 30, 3) := by decide +kernel
theorem dX3_copyFrom_34 : decode cX3_copyFrom 34 = .ok (.iload_n 2, 1) := by decide +kernel
theorem dX3_copyFrom_35 : decode cX3_copyFrom 35 = .ok (.bipush 8, 2) := by decide +kernel
theorem dX3_copyFrom_37 : decode cX3_copyFrom 37 = .ok (.if_icmp .ge 24, 3) := by decide +kernel
theorem dX3_copyFrom_40 : decode cX3_copyFrom 40 = .ok (.aload_n 0, 1) := by decide +kernel
theorem dX3_copyFrom_41 : decode cX3_copyFrom 41 = .ok (.getfield 11, 3) := by decide +kernel
theorem dX3_copyFrom_44 : decode cX3_copyFrom 44 = .ok (.iload_n 2, 1) := by decide +kernel
theorem dX3_copyFrom_45 : decode cX3_copyFrom 45 = .ok (.aaload, 1) := by decide +kernel
theorem dX3_copyFrom_46 : decode cX3_copyFrom 46 = .ok (.aload_n 1, 1) := by decide +kernel
theorem dX3_copyFrom_47 : decode cX3_copyFrom 47 = .ok (.getfield 11, 3) := by decide +kernel
theorem dX3_copyFrom_50 : decode cX3_copyFrom 50 = .ok (.iload_n 2, 1) := by decide +kernel
theorem dX3_copyFrom_51 : decode cX3_copyFrom 51 = .ok (.aaload, 1) := by decide +kernel
theorem dX3_copyFrom_52 : decode cX3_copyFrom 52 = .ok (.invokevirtual 34, 3) := by decide +kernel
theorem dX3_copyFrom_55 : decode cX3_copyFrom 55 = .ok (.iinc 2 1, 3) := by decide +kernel
theorem dX3_copyFrom_58 : decode cX3_copyFrom 58 = .ok (.goto (-32), 3) := by decide +kernel
theorem dX3_copyFrom_61 : decode cX3_copyFrom 61 = .ok (.return_, 1) := by decide +kernel
theorem dX3_hoard_0 : decode cX3_hoard 0 = .ok (.iload_n 1, 1) := by decide +kernel
theorem dX3_hoard_1 : decode cX3_hoard 1 = .ok (.ifCond .lt 26, 3) := by decide +kernel
theorem dX3_hoard_4 : decode cX3_hoard 4 = .ok (.iload_n 1, 1) := by decide +kernel
theorem dX3_hoard_5 : decode cX3_hoard 5 = .ok (.aload_n 0, 1) := by decide +kernel
theorem dX3_hoard_6 : decode cX3_hoard 6 = .ok (.getfield 31, 3) := by decide +kernel
theorem dX3_hoard_9 : decode cX3_hoard 9 = .ok (.if_icmp .ge 18, 3) := by decide +kernel
theorem dX3_hoard_12 : decode cX3_hoard 12 = .ok (.iload_n 1, 1) := by decide +kernel
theorem dX3_hoard_13 : decode cX3_hoard 13 = .ok (.bipush 8, 2) := by decide +kernel
theorem dX3_hoard_15 : decode cX3_hoard 15 = .ok (.if_icmp .ge 12, 3) := by decide +kernel
theorem dX3_hoard_18 : decode cX3_hoard 18 = .ok (.aload_n 0, 1) := by decide +kernel
theorem dX3_hoard_19 : decode cX3_hoard 19 = .ok (.getfield 11, 3) := by decide +kernel
theorem dX3_hoard_22 : decode cX3_hoard 22 = .ok (.iload_n 1, 1) := by decide +kernel
theorem dX3_hoard_23 : decode cX3_hoard 23 = .ok (.aaload, 1) := by decide +kernel
theorem dX3_hoard_24 : decode cX3_hoard 24 = .ok (.goto 7, 3) := by decide +kernel
theorem dX3_hoard_27 : decode cX3_hoard 27 = .ok (.aload_n 0, 1) := by decide +kernel
theorem dX3_hoard_28 : decode cX3_hoard 28 = .ok (.getfield 20, 3) := by decide +kernel
theorem dX3_hoard_31 : decode cX3_hoard 31 = .ok (.areturn, 1) := by decide +kernel
theorem dX3_countAt_0 : decode cX3_countAt 0 = .ok (.iload_n 1, 1) := by decide +kernel
theorem dX3_countAt_1 : decode cX3_countAt 1 = .ok (.ifCond .lt 22, 3) := by decide +kernel
theorem dX3_countAt_4 : decode cX3_countAt 4 = .ok (.iload_n 1, 1) := by decide +kernel
theorem dX3_countAt_5 : decode cX3_countAt 5 = .ok (.aload_n 0, 1) := by decide +kernel
theorem dX3_countAt_6 : decode cX3_countAt 6 = .ok (.getfield 31, 3) := by decide +kernel
theorem dX3_countAt_9 : decode cX3_countAt 9 = .ok (.if_icmp .ge 14, 3) := by decide +kernel
theorem dX3_countAt_12 : decode cX3_countAt 12 = .ok (.aload_n 0, 1) := by decide +kernel
theorem dX3_countAt_13 : decode cX3_countAt 13 = .ok (.iload_n 1, 1) := by decide +kernel
theorem dX3_countAt_14 : decode cX3_countAt 14 = .ok (.invokevirtual 38, 3) := by decide +kernel
theorem dX3_countAt_17 : decode cX3_countAt 17 = .ok (.invokevirtual 42, 3) := by decide +kernel
theorem dX3_countAt_20 : decode cX3_countAt 20 = .ok (.goto 4, 3) := by decide +kernel
theorem dX3_countAt_23 : decode cX3_countAt 23 = .ok (.iconst (-1), 1) := by decide +kernel
theorem dX3_countAt_24 : decode cX3_countAt 24 = .ok (.ireturn, 1) := by decide +kernel
theorem dX3_add_0 : decode cX3_add 0 = .ok (.aload_n 0, 1) := by decide +kernel
theorem dX3_add_1 : decode cX3_add 1 = .ok (.getfield 31, 3) := by decide +kernel
theorem dX3_add_4 : decode cX3_add 4 = .ok (.aload_n 0, 1) := by decide +kernel
theorem dX3_add_5 : decode cX3_add 5 = .ok (.getfield 24, 3) := by decide +kernel
theorem dX3_add_8 : decode cX3_add 8 = .ok (.if_icmp .lt 7, 3) := by decide +kernel
theorem dX3_add_11 : decode cX3_add 11 = .ok (.iconst 1, 1) := by decide +kernel
theorem dX3_add_12 : decode cX3_add 12 = .ok (.goto 4, 3) := by decide +kernel
theorem dX3_add_15 : decode cX3_add 15 = .ok (.iconst 0, 1) := by decide +kernel
theorem dX3_add_16 : decode cX3_add 16 = .ok (.istore 4, 2) := by decide +kernel
theorem dX3_add_18 : decode cX3_add 18 = .ok (.aload_n 0, 1) := by decide +kernel
theorem dX3_add_19 : decode cX3_add 19 = .ok (.aload_n 0, 1) := by decide +kernel
theorem dX3_add_20 : decode cX3_add 20 = .ok (.getfield 31, 3) := by decide +kernel
theorem dX3_add_23 : decode cX3_add 23 = .ok (.iconst 1, 1) := by decide +kernel
theorem dX3_add_24 : decode cX3_add 24 = .ok (.iadd, 1) := by decide +kernel
theorem dX3_add_25 : decode cX3_add 25 = .ok (.iload 4, 2) := by decide +kernel
theorem dX3_add_27 : decode cX3_add 27 = .ok (.isub, 1) := by decide +kernel
theorem dX3_add_28 : decode cX3_add 28 = .ok (.putfield 31, 3) := by decide +kernel
theorem dX3_add_31 : decode cX3_add 31 = .ok (.iconst 0, 1) := by decide +kernel
theorem dX3_add_32 : decode cX3_add 32 = .ok (.aload_n 0, 1) := by decide +kernel
theorem dX3_add_33 : decode cX3_add 33 = .ok (.getfield 31, 3) := by decide +kernel
theorem dX3_add_36 : decode cX3_add 36 = .ok (.bipush 8, 2) := by decide +kernel
theorem dX3_add_38 : decode cX3_add 38 = .ok (.invokestatic 45, 3) := by decide +kernel
theorem dX3_add_41 : decode cX3_add 41 = .ok (.iconst 1, 1) := by decide +kernel
theorem dX3_add_42 : decode cX3_add 42 = .ok (.isub, 1) := by decide +kernel
theorem dX3_add_43 : decode cX3_add 43 = .ok (.invokestatic 51, 3) := by decide +kernel
theorem dX3_add_46 : decode cX3_add 46 = .ok (.istore 5, 2) := by decide +kernel
theorem dX3_add_48 : decode cX3_add 48 = .ok (.aload_n 0, 1) := by decide +kernel
theorem dX3_add_49 : decode cX3_add 49 = .ok (.getfield 11, 3) := by decide +kernel
theorem dX3_add_52 : decode cX3_add 52 = .ok (.iload 5, 2) := by decide +kernel
theorem dX3_add_54 : decode cX3_add 54 = .ok (.aaload, 1) := by decide +kernel
theorem dX3_add_55 : decode cX3_add 55 = .ok (.astore 6, 2) := by decide +kernel
theorem dX3_add_57 : decode cX3_add 57 = .ok (.iload 5, 2) := by decide +kernel
theorem dX3_add_59 : decode cX3_add 59 = .ok (.istore 7, 2) := by decide +kernel
theorem dX3_add_61 : decode cX3_add 61 = .ok (.iload 7, 2) := by decide +kernel
theorem dX3_add_63 : decode cX3_add 63 = .ok (.ifCond .le 25, 3) := by decide +kernel
theorem dX3_add_66 : decode cX3_add 66 = .ok (.aload_n 0, 1) := by decide +kernel
theorem dX3_add_67 : decode cX3_add 67 = .ok (.getfield 11, 3) := by decide +kernel
theorem dX3_add_70 : decode cX3_add 70 = .ok (.iload 7, 2) := by decide +kernel
theorem dX3_add_72 : decode cX3_add 72 = .ok (.aload_n 0, 1) := by decide +kernel
theorem dX3_add_73 : decode cX3_add 73 = .ok (.getfield 11, 3) := by decide +kernel
theorem dX3_add_76 : decode cX3_add 76 = .ok (.iload 7, 2) := by decide +kernel
theorem dX3_add_78 : decode cX3_add 78 = .ok (.iconst 1, 1) := by decide +kernel
theorem dX3_add_79 : decode cX3_add 79 = .ok (.isub, 1) := by decide +kernel
theorem dX3_add_80 : decode cX3_add 80 = .ok (.aaload, 1) := by decide +kernel
theorem dX3_add_81 : decode cX3_add 81 = .ok (.aastore, 1) := by decide +kernel
theorem dX3_add_82 : decode cX3_add 82 = .ok (.iinc 7 (-1), 3) := by decide +kernel
theorem dX3_add_85 : decode cX3_add 85 = .ok (.goto (-24), 3) := by decide +kernel
theorem dX3_add_88 : decode cX3_add 88 = .ok (.aload_n 0, 1) := by decide +kernel
theorem dX3_add_89 : decode cX3_add 89 = .ok (.getfield 11, 3) := by decide +kernel
theorem dX3_add_92 : decode cX3_add 92 = .ok (.iconst 0, 1) := by decide +kernel
theorem dX3_add_93 : decode cX3_add 93 = .ok (.aload 6, 2) := by decide +kernel
theorem dX3_add_95 : decode cX3_add 95 = .ok (.aastore, 1) := by decide +kernel
theorem dX3_add_96 : decode cX3_add 96 = .ok (.aload 6, 2) := by decide +kernel
theorem dX3_add_98 : decode cX3_add 98 = .ok (.invokevirtual 54, 3) := by decide +kernel
theorem dX3_add_101 : decode cX3_add 101 = .ok (.aload 6, 2) := by decide +kernel
theorem dX3_add_103 : decode cX3_add 103 = .ok (.iconst 0, 1) := by decide +kernel
theorem dX3_add_104 : decode cX3_add 104 = .ok (.aload_n 1, 1) := by decide +kernel
theorem dX3_add_105 : decode cX3_add 105 = .ok (.iload_n 2, 1) := by decide +kernel
theorem dX3_add_106 : decode cX3_add 106 = .ok (.iload_n 3, 1) := by decide +kernel
theorem dX3_add_107 : decode cX3_add 107 = .ok (.invokevirtual 57, 3) := by decide +kernel
theorem dX3_add_110 : decode cX3_add 110 = .ok (.aload_n 0, 1) := by decide +kernel
theorem dX3_add_111 : decode cX3_add 111 = .ok (.iconst 0, 1) := by decide +kernel
theorem dX3_add_112 : decode cX3_add 112 = .ok (.putfield 28, 3) := by decide +kernel
theorem dX3_add_115 : decode cX3_add 115 = .ok (.iload 4, 2) := by decide +kernel
theorem dX3_add_117 : decode cX3_add 117 = .ok (.ireturn, 1) := by decide +kernel
theorem dX3_grow_0 : decode cX3_grow 0 = .ok (.aload_n 0, 1) := by decide +kernel
theorem dX3_grow_1 : decode cX3_grow 1 = .ok (.iconst 0, 1) := by decide +kernel
theorem dX3_grow_2 : decode cX3_grow 2 = .ok (.invokevirtual 38, 3) := by decide +kernel
theorem dX3_grow_5 : decode cX3_grow 5 = .ok (.astore 5, 2) := by decide +kernel
theorem dX3_grow_7 : decode cX3_grow 7 = .ok (.aload 5, 2) := by decide +kernel
theorem dX3_grow_9 : decode cX3_grow 9 = .ok (.iload 4, 2) := by decide +kernel
theorem dX3_grow_11 : decode cX3_grow 11 = .ok (.ifCond .eq 7, 3) := by decide +kernel
theorem dX3_grow_14 : decode cX3_grow 14 = .ok (.iconst 0, 1) := by decide +kernel
theorem dX3_grow_15 : decode cX3_grow 15 = .ok (.goto 8, 3) := by decide +kernel
theorem dX3_grow_18 : decode cX3_grow 18 = .ok (.aload 5, 2) := by decide +kernel
theorem dX3_grow_20 : decode cX3_grow 20 = .ok (.invokevirtual 42, 3) := by decide +kernel
theorem dX3_grow_23 : decode cX3_grow 23 = .ok (.aload_n 1, 1) := by decide +kernel
theorem dX3_grow_24 : decode cX3_grow 24 = .ok (.iload_n 2, 1) := by decide +kernel
theorem dX3_grow_25 : decode cX3_grow 25 = .ok (.iload_n 3, 1) := by decide +kernel
theorem dX3_grow_26 : decode cX3_grow 26 = .ok (.invokevirtual 57, 3) := by decide +kernel
theorem dX3_grow_29 : decode cX3_grow 29 = .ok (.aload_n 0, 1) := by decide +kernel
theorem dX3_grow_30 : decode cX3_grow 30 = .ok (.iconst 0, 1) := by decide +kernel
theorem dX3_grow_31 : decode cX3_grow 31 = .ok (.putfield 28, 3) := by decide +kernel
theorem dX3_grow_34 : decode cX3_grow 34 = .ok (.return_, 1) := by decide +kernel
theorem dX3_nextIfTurned_0 : decode cX3_nextIfTurned 0 = .ok (.aload_n 0, 1) := by decide +kernel
theorem dX3_nextIfTurned_1 : decode cX3_nextIfTurned 1 = .ok (.getfield 31, 3) := by decide +kernel
theorem dX3_nextIfTurned_4 : decode cX3_nextIfTurned 4 = .ok (.ifCond .le 19, 3) := by decide +kernel
theorem dX3_nextIfTurned_7 : decode cX3_nextIfTurned 7 = .ok (.aload_n 0, 1) := by decide +kernel
theorem dX3_nextIfTurned_8 : decode cX3_nextIfTurned 8 = .ok (.getfield 28, 3) := by decide +kernel
theorem dX3_nextIfTurned_11 : decode cX3_nextIfTurned 11 = .ok (.iload_n 1, 1) := by decide +kernel
theorem dX3_nextIfTurned_12 : decode cX3_nextIfTurned 12 = .ok (.iadd, 1) := by decide +kernel
theorem dX3_nextIfTurned_13 : decode cX3_nextIfTurned 13 = .ok (.aload_n 0, 1) := by decide +kernel
theorem dX3_nextIfTurned_14 : decode cX3_nextIfTurned 14 = .ok (.getfield 31, 3) := by decide +kernel
theorem dX3_nextIfTurned_17 : decode cX3_nextIfTurned 17 = .ok (.invokestatic 61, 3) := by decide +kernel
theorem dX3_nextIfTurned_20 : decode cX3_nextIfTurned 20 = .ok (.goto 4, 3) := by decide +kernel
theorem dX3_nextIfTurned_23 : decode cX3_nextIfTurned 23 = .ok (.iconst (-1), 1) := by decide +kernel
theorem dX3_nextIfTurned_24 : decode cX3_nextIfTurned 24 = .ok (.ireturn, 1) := by decide +kernel
theorem dX3_changeTo_0 : decode cX3_changeTo 0 = .ok (.iconst 0, 1) := by decide +kernel
theorem dX3_changeTo_1 : decode cX3_changeTo 1 = .ok (.aload_n 0, 1) := by decide +kernel
theorem dX3_changeTo_2 : decode cX3_changeTo 2 = .ok (.getfield 31, 3) := by decide +kernel
theorem dX3_changeTo_5 : decode cX3_changeTo 5 = .ok (.iload_n 1, 1) := by decide +kernel
theorem dX3_changeTo_6 : decode cX3_changeTo 6 = .ok (.isub, 1) := by decide +kernel
theorem dX3_changeTo_7 : decode cX3_changeTo 7 = .ok (.invokestatic 51, 3) := by decide +kernel
theorem dX3_changeTo_10 : decode cX3_changeTo 10 = .ok (.istore_n 2, 1) := by decide +kernel
theorem dX3_changeTo_11 : decode cX3_changeTo 11 = .ok (.aload_n 0, 1) := by decide +kernel
theorem dX3_changeTo_12 : decode cX3_changeTo 12 = .ok (.iload_n 1, 1) := by decide +kernel
theorem dX3_changeTo_13 : decode cX3_changeTo 13 = .ok (.putfield 24, 3) := by decide +kernel
theorem dX3_changeTo_16 : decode cX3_changeTo 16 = .ok (.aload_n 0, 1) := by decide +kernel
theorem dX3_changeTo_17 : decode cX3_changeTo 17 = .ok (.dup, 1) := by decide +kernel
theorem dX3_changeTo_18 : decode cX3_changeTo 18 = .ok (.getfield 31, 3) := by decide +kernel
theorem dX3_changeTo_21 : decode cX3_changeTo 21 = .ok (.iload_n 2, 1) := by decide +kernel
theorem dX3_changeTo_22 : decode cX3_changeTo 22 = .ok (.isub, 1) := by decide +kernel
theorem dX3_changeTo_23 : decode cX3_changeTo 23 = .ok (.putfield 31, 3) := by decide +kernel
theorem dX3_changeTo_26 : decode cX3_changeTo 26 = .ok (.aload_n 0, 1) := by decide +kernel
theorem dX3_changeTo_27 : decode cX3_changeTo 27 = .ok (.getfield 28, 3) := by decide +kernel
theorem dX3_changeTo_30 : decode cX3_changeTo 30 = .ok (.aload_n 0, 1) := by decide +kernel
theorem dX3_changeTo_31 : decode cX3_changeTo 31 = .ok (.getfield 31, 3) := by decide +kernel
theorem dX3_changeTo_34 : decode cX3_changeTo 34 = .ok (.if_icmp .lt 8, 3) := by decide +kernel
theorem dX3_changeTo_37 : decode cX3_changeTo 37 = .ok (.aload_n 0, 1) := by decide +kernel
theorem dX3_changeTo_38 : decode cX3_changeTo 38 = .ok (.iconst 0, 1) := by decide +kernel
theorem dX3_changeTo_39 : decode cX3_changeTo 39 = .ok (.putfield 28, 3) := by decide +kernel
theorem dX3_changeTo_42 : decode cX3_changeTo 42 = .ok (.iload_n 2, 1) := by decide +kernel
theorem dX3_changeTo_43 : decode cX3_changeTo 43 = .ok (.ireturn, 1) := by decide +kernel
theorem dX3_allCodes_0 : decode cX3_allCodes 0 = .ok (.iconst 0, 1) := by decide +kernel
theorem dX3_allCodes_1 : decode cX3_allCodes 1 = .ok (.istore_n 1, 1) := by decide +kernel
theorem dX3_allCodes_2 : decode cX3_allCodes 2 = .ok (.iconst 0, 1) := by decide +kernel
theorem dX3_allCodes_3 : decode cX3_allCodes 3 = .ok (.istore_n 2, 1) := by decide +kernel
theorem dX3_allCodes_4 : decode cX3_allCodes 4 = .ok (.iload_n 2, 1) := by decide +kernel
theorem dX3_allCodes_5 : decode cX3_allCodes 5 = .ok (.aload_n 0, 1) := by decide +kernel
theorem dX3_allCodes_6 : decode cX3_allCodes 6 = .ok (.getfield 31, 3) := by decide +kernel
theorem dX3_allCodes_9 : decode cX3_allCodes 9 = .ok (.if_icmp .ge 20, 3) := by decide +kernel
theorem dX3_allCodes_12 : decode cX3_allCodes 12 = .ok (.iload_n 1, 1) := by decide +kernel
theorem dX3_allCodes_13 : decode cX3_allCodes 13 = .ok (.aload_n 0, 1) := by decide +kernel
theorem dX3_allCodes_14 : decode cX3_allCodes 14 = .ok (.iload_n 2, 1) := by decide +kernel
theorem dX3_allCodes_15 : decode cX3_allCodes 15 = .ok (.invokevirtual 38, 3) := by decide +kernel
theorem dX3_allCodes_18 : decode cX3_allCodes 18 = .ok (.invokevirtual 42, 3) := by decide +kernel
theorem dX3_allCodes_21 : decode cX3_allCodes 21 = .ok (.iadd, 1) := by decide +kernel
theorem dX3_allCodes_22 : decode cX3_allCodes 22 = .ok (.istore_n 1, 1) := by decide +kernel
theorem dX3_allCodes_23 : decode cX3_allCodes 23 = .ok (.iinc 2 1, 3) := by decide +kernel
theorem dX3_allCodes_26 : decode cX3_allCodes 26 = .ok (.goto (-22), 3) := by decide +kernel
theorem dX3_allCodes_29 : decode cX3_allCodes 29 = .ok (.iload_n 1, 1) := by decide +kernel
theorem dX3_allCodes_30 : decode cX3_allCodes 30 = .ok (.ireturn, 1) := by decide +kernel
theorem dX3_longestAt_0 : decode cX3_longestAt 0 = .ok (.iconst (-1), 1) := by decide +kernel
theorem dX3_longestAt_1 : decode cX3_longestAt 1 = .ok (.istore_n 1, 1) := by decide +kernel
theorem dX3_longestAt_2 : decode cX3_longestAt 2 = .ok (.iconst 0, 1) := by decide +kernel
theorem dX3_longestAt_3 : decode cX3_longestAt 3 = .ok (.istore_n 2, 1) := by decide +kernel
theorem dX3_longestAt_4 : decode cX3_longestAt 4 = .ok (.iload_n 2, 1) := by decide +kernel
theorem dX3_longestAt_5 : decode cX3_longestAt 5 = .ok (.aload_n 0, 1) := by decide +kernel
theorem dX3_longestAt_6 : decode cX3_longestAt 6 = .ok (.getfield 31, 3) := by decide +kernel
theorem dX3_longestAt_9 : decode cX3_longestAt 9 = .ok (.if_icmp .ge 35, 3) := by decide +kernel
theorem dX3_longestAt_12 : decode cX3_longestAt 12 = .ok (.iload_n 1, 1) := by decide +kernel
theorem dX3_longestAt_13 : decode cX3_longestAt 13 = .ok (.iconst (-1), 1) := by decide +kernel
theorem dX3_longestAt_14 : decode cX3_longestAt 14 = .ok (.if_icmp .eq 22, 3) := by decide +kernel
theorem dX3_longestAt_17 : decode cX3_longestAt 17 = .ok (.aload_n 0, 1) := by decide +kernel
theorem dX3_longestAt_18 : decode cX3_longestAt 18 = .ok (.iload_n 2, 1) := by decide +kernel
theorem dX3_longestAt_19 : decode cX3_longestAt 19 = .ok (.invokevirtual 38, 3) := by decide +kernel
theorem dX3_longestAt_22 : decode cX3_longestAt 22 = .ok (.invokevirtual 42, 3) := by decide +kernel
theorem dX3_longestAt_25 : decode cX3_longestAt 25 = .ok (.aload_n 0, 1) := by decide +kernel
theorem dX3_longestAt_26 : decode cX3_longestAt 26 = .ok (.iload_n 1, 1) := by decide +kernel
theorem dX3_longestAt_27 : decode cX3_longestAt 27 = .ok (.invokevirtual 38, 3) := by decide +kernel
theorem dX3_longestAt_30 : decode cX3_longestAt 30 = .ok (.invokevirtual 42, 3) := by decide +kernel
theorem dX3_longestAt_33 : decode cX3_longestAt 33 = .ok (.if_icmp .le 5, 3) := by decide +kernel
theorem dX3_longestAt_36 : decode cX3_longestAt 36 = .ok (.iload_n 2, 1) := by decide +kernel
theorem dX3_longestAt_37 : decode cX3_longestAt 37 = .ok (.istore_n 1, 1) := by decide +kernel
theorem dX3_longestAt_38 : decode cX3_longestAt 38 = .ok (.iinc 2 1, 3) := by decide +kernel
theorem dX3_longestAt_41 : decode cX3_longestAt 41 = .ok (.goto (-37), 3) := by decide +kernel
theorem dX3_longestAt_44 : decode cX3_longestAt 44 = .ok (.iload_n 1, 1) := by decide +kernel
theorem dX3_longestAt_45 : decode cX3_longestAt 45 = .ok (.ireturn, 1) := by decide +kernel
theorem dX4_init_0 : decode cX4_init 0 = .ok (.aload_n 0, 1) := by decide +kernel
theorem dX4_init_1 : decode cX4_init 1 = .ok (.invokespecial 3, 3) := by decide +kernel
theorem dX4_init_4 : decode cX4_init 4 = .ok (.aload_n 0, 1) := by decide +kernel
theorem dX4_init_5 : decode cX4_init 5 = .ok (.new 9, 3) := by decide +kernel
theorem dX4_init_8 : decode cX4_init 8 = .ok (.dup, 1) := by decide +kernel
theorem dX4_init_9 : decode cX4_init 9 = .ok (.sipush 200, 3) := by decide +kernel
theorem dX4_init_12 : decode cX4_init 12 = .ok (.invokespecial 11, 3) := by decide +kernel
theorem dX4_init_15 : decode cX4_init 15 = .ok (.putfield 14, 3) := by decide +kernel
theorem dX4_init_18 : decode cX4_init 18 = .ok (.aload_n 0, 1) := by decide +kernel
theorem dX4_init_19 : decode cX4_init 19 = .ok (.iconst (-1), 1) := by decide +kernel
theorem dX4_init_20 : decode cX4_init 20 = .ok (.putfield 20, 3) := by decide +kernel
theorem dX4_init_23 : decode cX4_init 23 = .ok (.return_, 1) := by decide +kernel
theorem dX4_copyFrom_0 : decode cX4_copyFrom 0 = .ok (.aload_n 0, 1) := by decide +kernel
theorem dX4_copyFrom_1 : decode cX4_copyFrom 1 = .ok (.getfield 14, 3) := by decide +kernel
theorem dX4_copyFrom_4 : decode cX4_copyFrom 4 = .ok (.aload_n 1, 1) := by decide +kernel
theorem dX4_copyFrom_5 : decode cX4_copyFrom 5 = .ok (.getfield 14, 3) := by decide +kernel
theorem dX4_copyFrom_8 : decode cX4_copyFrom 8 = .ok (.invokevirtual 24, 3) := by decide +kernel
theorem dX4_copyFrom_11 : decode cX4_copyFrom 11 = .ok (.aload_n 0, 1) := by decide +kernel
theorem dX4_copyFrom_12 : decode cX4_copyFrom 12 = .ok (.aload_n 1, 1) := by decide +kernel
theorem dX4_copyFrom_13 : decode cX4_copyFrom 13 = .ok (.getfield 28, 3) := by decide +kernel
theorem dX4_copyFrom_16 : decode cX4_copyFrom 16 = .ok (.putfield 28, 3) := by decide +kernel
theorem dX4_copyFrom_19 : decode cX4_copyFrom 19 = .ok (.aload_n 0, 1) := by decide +kernel
theorem dX4_copyFrom_20 : decode cX4_copyFrom 20 = .ok (.aload_n 1, 1) := by decide +kernel
theorem dX4_copyFrom_21 : decode cX4_copyFrom 21 = .ok (.getfield 20, 3) := by decide +kernel
theorem dX4_copyFrom_24 : decode cX4_copyFrom 24 = .ok (.putfield 20, 3) := by decide +kernel
theorem dX4_copyFrom_27 : decode cX4_copyFrom 27 = .ok (.return_, 1) := by decide +kernel
theorem dX4_writeCode_0 : decode cX4_writeCode 0 = .ok (.aload_n 0, 1) := by decide +kernel
theorem dX4_writeCode_1 : decode cX4_writeCode 1 = .ok (.getfield 14, 3) := by decide +kernel
theorem dX4_writeCode_4 : decode cX4_writeCode 4 = .ok (.aload_n 0, 1) := by decide +kernel
theorem dX4_writeCode_5 : decode cX4_writeCode 5 = .ok (.getfield 28, 3) := by decide +kernel
theorem dX4_writeCode_8 : decode cX4_writeCode 8 = .ok (.iload_n 1, 1) := by decide +kernel
theorem dX4_writeCode_9 : decode cX4_writeCode 9 = .ok (.invokevirtual 31, 3) := by decide +kernel
theorem dX4_writeCode_12 : decode cX4_writeCode 12 = .ok (.aload_n 0, 1) := by decide +kernel
theorem dX4_writeCode_13 : decode cX4_writeCode 13 = .ok (.iconst 1, 1) := by decide +kernel
theorem dX4_writeCode_14 : decode cX4_writeCode 14 = .ok (.invokevirtual 35, 3) := by decide +kernel
theorem dX4_writeCode_17 : decode cX4_writeCode 17 = .ok (.return_, 1) := by decide +kernel
theorem dX4_writeText_0 : decode cX4_writeText 0 = .ok (.aload_n 0, 1) := by decide +kernel
theorem dX4_writeText_1 : decode cX4_writeText 1 = .ok (.getfield 14, 3) := by decide +kernel
theorem dX4_writeText_4 : decode cX4_writeText 4 = .ok (.aload_n 0, 1) := by decide +kernel
theorem dX4_writeText_5 : decode cX4_writeText 5 = .ok (.getfield 28, 3) := by decide +kernel
theorem dX4_writeText_8 : decode cX4_writeText 8 = .ok (.aload_n 1, 1) := by decide +kernel
theorem dX4_writeText_9 : decode cX4_writeText 9 = .ok (.iconst 0, 1) := by decide +kernel
theorem dX4_writeText_10 : decode cX4_writeText 10 = .ok (.aload_n 1, 1) := by decide +kernel
theorem dX4_writeText_11 : decode cX4_writeText 11 = .ok (.invokevirtual 38, 3) := by decide +kernel
theorem dX4_writeText_14 : decode cX4_writeText 14 = .ok (.invokevirtual 42, 3) := by decide +kernel
theorem dX4_writeText_17 : decode cX4_writeText 17 = .ok (.aload_n 0, 1) := by decide +kernel
theorem dX4_writeText_18 : decode cX4_writeText 18 = .ok (.aload_n 1, 1) := by decide +kernel
theorem dX4_writeText_19 : decode cX4_writeText 19 = .ok (.invokevirtual 38, 3) := by decide +kernel
theorem dX4_writeText_22 : decode cX4_writeText 22 = .ok (.invokevirtual 35, 3) := by decide +kernel
theorem dX4_writeText_25 : decode cX4_writeText 25 = .ok (.return_, 1) := by decide +kernel
theorem dX4_makeWay_0 : decode cX4_makeWay 0 = .ok (.aload_n 0, 1) := by decide +kernel
theorem dX4_makeWay_1 : decode cX4_makeWay 1 = .ok (.getfield 20, 3) := by decide +kernel
theorem dX4_makeWay_4 : decode cX4_makeWay 4 = .ok (.aload_n 0, 1) := by decide +kernel
theorem dX4_makeWay_5 : decode cX4_makeWay 5 = .ok (.getfield 28, 3) := by decide +kernel
theorem dX4_makeWay_8 : decode cX4_makeWay 8 = .ok (.if_icmp .le 13, 3) := by decide +kernel
theorem dX4_makeWay_11 : decode cX4_makeWay 11 = .ok (.aload_n 0, 1) := by decide +kernel
theorem dX4_makeWay_12 : decode cX4_makeWay 12 = .ok (.dup, 1) := by decide +kernel
theorem dX4_makeWay_13 : decode cX4_makeWay 13 = .ok (.getfield 20, 3) := by decide +kernel
theorem dX4_makeWay_16 : decode cX4_makeWay 16 = .ok (.iload_n 1, 1) := by decide +kernel
theorem dX4_makeWay_17 : decode cX4_makeWay 17 = .ok (.iadd, 1) := by decide +kernel
theorem dX4_makeWay_18 : decode cX4_makeWay 18 = .ok (.putfield 20, 3) := by decide +kernel
theorem dX4_makeWay_21 : decode cX4_makeWay 21 = .ok (.aload_n 0, 1) := by decide +kernel
theorem dX4_makeWay_22 : decode cX4_makeWay 22 = .ok (.dup, 1) := by decide +kernel
theorem dX4_makeWay_23 : decode cX4_makeWay 23 = .ok (.getfield 28, 3) := by decide +kernel
theorem dX4_makeWay_26 : decode cX4_makeWay 26 = .ok (.iload_n 1, 1) := by decide +kernel
theorem dX4_makeWay_27 : decode cX4_makeWay 27 = .ok (.iadd, 1) := by decide +kernel
theorem dX4_makeWay_28 : decode cX4_makeWay 28 = .ok (.putfield 28, 3) := by decide +kernel
theorem dX4_makeWay_31 : decode cX4_makeWay 31 = .ok (.return_, 1) := by decide +kernel
theorem dX4_takeOut_0 : decode cX4_takeOut 0 = .ok (.aload_n 0, 1) := by decide +kernel
theorem dX4_takeOut_1 : decode cX4_takeOut 1 = .ok (.getfield 14, 3) := by decide +kernel
theorem dX4_takeOut_4 : decode cX4_takeOut 4 = .ok (.iload_n 1, 1) := by decide +kernel
theorem dX4_takeOut_5 : decode cX4_takeOut 5 = .ok (.iload_n 2, 1) := by decide +kernel
theorem dX4_takeOut_6 : decode cX4_takeOut 6 = .ok (.invokevirtual 46, 3) := by decide +kernel
theorem dX4_takeOut_9 : decode cX4_takeOut 9 = .ok (.aload_n 0, 1) := by decide +kernel
theorem dX4_takeOut_10 : decode cX4_takeOut 10 = .ok (.aload_n 0, 1) := by decide +kernel
theorem dX4_takeOut_11 : decode cX4_takeOut 11 = .ok (.getfield 28, 3) := by decide +kernel
theorem dX4_takeOut_14 : decode cX4_takeOut 14 = .ok (.iload_n 1, 1) := by decide +kernel
theorem dX4_takeOut_15 : decode cX4_takeOut 15 = .ok (.iload_n 2, 1) := by decide +kernel
theorem dX4_takeOut_16 : decode cX4_takeOut 16 = .ok (.invokestatic 49, 3) := by decide +kernel
theorem dX4_takeOut_19 : decode cX4_takeOut 19 = .ok (.putfield 28, 3) := by decide +kernel
theorem dX4_takeOut_22 : decode cX4_takeOut 22 = .ok (.aload_n 0, 1) := by decide +kernel
theorem dX4_takeOut_23 : decode cX4_takeOut 23 = .ok (.aload_n 0, 1) := by decide +kernel
theorem dX4_takeOut_24 : decode cX4_takeOut 24 = .ok (.getfield 20, 3) := by decide +kernel
theorem dX4_takeOut_27 : decode cX4_takeOut 27 = .ok (.iload_n 1, 1) := by decide +kernel
theorem dX4_takeOut_28 : decode cX4_takeOut 28 = .ok (.iload_n 2, 1) := by decide +kernel
theorem dX4_takeOut_29 : decode cX4_takeOut 29 = .ok (.invokestatic 49, 3) := by decide +kernel
theorem dX4_takeOut_32 : decode cX4_takeOut 32 = .ok (.putfield 20, 3) := by decide +kernel
theorem dX4_takeOut_35 : decode cX4_takeOut 35 = .ok (.return_, 1) := by decide +kernel
theorem dX4_placeThen_0 : decode cX4_placeThen 0 = .ok (.iload_n 0, 1) := by decide +kernel
theorem dX4_placeThen_1 : decode cX4_placeThen 1 = .ok (.iload_n 2, 1) := by decide +kernel
theorem dX4_placeThen_2 : decode cX4_placeThen 2 = .ok (.if_icmp .lt 9, 3) := by decide +kernel
theorem dX4_placeThen_5 : decode cX4_placeThen 5 = .ok (.iload_n 0, 1) := by decide +kernel
theorem dX4_placeThen_6 : decode cX4_placeThen 6 = .ok (.iload_n 2, 1) := by decide +kernel
theorem dX4_placeThen_7 : decode cX4_placeThen 7 = .ok (.iload_n 1, 1) := by decide +kernel
theorem dX4_placeThen_8 : decode cX4_placeThen 8 = .ok (.isub, 1) := by decide +kernel
theorem dX4_placeThen_9 : decode cX4_placeThen 9 = .ok (.isub, 1) := by decide +kernel
theorem dX4_placeThen_10 : decode cX4_placeThen 10 = .ok (.ireturn, 1) := by decide +kernel
theorem dX4_placeThen_11 : decode cX4_placeThen 11 = .ok (.iload_n 0, 1) := by decide +kernel
theorem dX4_placeThen_12 : decode cX4_placeThen 12 = .ok (.iload_n 1, 1) := by decide +kernel
theorem dX4_placeThen_13 : decode cX4_placeThen 13 = .ok (.if_icmp .le 7, 3) := by decide +kernel
theorem dX4_placeThen_16 : decode cX4_placeThen 16 = .ok (.iload_n 1, 1) := by decide +kernel
theorem dX4_placeThen_17 : decode cX4_placeThen 17 = .ok (.goto 4, 3) := by decide +kernel
theorem dX4_placeThen_20 : decode cX4_placeThen 20 = .ok (.iload_n 0, 1) := by decide +kernel
theorem dX4_placeThen_21 : decode cX4_placeThen 21 = .ok (.ireturn, 1) := by decide +kernel
theorem dX4_fromMark_0 : decode cX4_fromMark 0 = .ok (.aload_n 0, 1) := by decide +kernel
theorem dX4_fromMark_1 : decode cX4_fromMark 1 = .ok (.getfield 20, 3) := by decide +kernel
theorem dX4_fromMark_4 : decode cX4_fromMark 4 = .ok (.iconst (-1), 1) := by decide +kernel
theorem dX4_fromMark_5 : decode cX4_fromMark 5 = .ok (.if_icmp .ne 7, 3) := by decide +kernel
theorem dX4_fromMark_8 : decode cX4_fromMark 8 = .ok (.iconst (-1), 1) := by decide +kernel
theorem dX4_fromMark_9 : decode cX4_fromMark 9 = .ok (.goto 15, 3) := by decide +kernel
theorem dX4_fromMark_12 : decode cX4_fromMark 12 = .ok (.aload_n 0, 1) := by decide +kernel
theorem dX4_fromMark_13 : decode cX4_fromMark 13 = .ok (.getfield 20, 3) := by decide +kernel
theorem dX4_fromMark_16 : decode cX4_fromMark 16 = .ok (.aload_n 0, 1) := by decide +kernel
theorem dX4_fromMark_17 : decode cX4_fromMark 17 = .ok (.getfield 28, 3) := by decide +kernel
theorem dX4_fromMark_20 : decode cX4_fromMark 20 = .ok (.isub, 1) := by decide +kernel
theorem dX4_fromMark_21 : decode cX4_fromMark 21 = .ok (.invokestatic 53, 3) := by decide +kernel
theorem dX4_fromMark_24 : decode cX4_fromMark 24 = .ok (.ireturn, 1) := by decide +kernel
theorem dX4_isWordAt_0 : decode cX4_isWordAt 0 = .ok (.aload_n 0, 1) := by decide +kernel
theorem dX4_isWordAt_1 : decode cX4_isWordAt 1 = .ok (.getfield 14, 3) := by decide +kernel
theorem dX4_isWordAt_4 : decode cX4_isWordAt 4 = .ok (.iload_n 1, 1) := by decide +kernel
theorem dX4_isWordAt_5 : decode cX4_isWordAt 5 = .ok (.invokevirtual 59, 3) := by decide +kernel
theorem dX4_isWordAt_8 : decode cX4_isWordAt 8 = .ok (.istore_n 2, 1) := by decide +kernel
theorem dX4_isWordAt_9 : decode cX4_isWordAt 9 = .ok (.iload_n 2, 1) := by decide +kernel
theorem dX4_isWordAt_10 : decode cX4_isWordAt 10 = .ok (.bipush 48, 2) := by decide +kernel
theorem dX4_isWordAt_12 : decode cX4_isWordAt 12 = .ok (.if_icmp .lt 9, 3) := by decide +kernel
theorem dX4_isWordAt_15 : decode cX4_isWordAt 15 = .ok (.iload_n 2, 1) := by decide +kernel
theorem dX4_isWordAt_16 : decode cX4_isWordAt 16 = .ok (.bipush 57, 2) := by decide +kernel
theorem dX4_isWordAt_18 : decode cX4_isWordAt 18 = .ok (.if_icmp .le 23, 3) := by decide +kernel
theorem dX4_isWordAt_21 : decode cX4_isWordAt 21 = .ok (.iload_n 2, 1) := by decide +kernel
theorem dX4_isWordAt_22 : decode cX4_isWordAt 22 = .ok (.bipush 65, 2) := by decide +kernel
theorem dX4_isWordAt_24 : decode cX4_isWordAt 24 = .ok (.if_icmp .lt 9, 3) := by decide +kernel
theorem dX4_isWordAt_27 : decode cX4_isWordAt 27 = .ok (.iload_n 2, 1) := by decide +kernel
theorem dX4_isWordAt_28 : decode cX4_isWordAt 28 = .ok (.bipush 90, 2) := by decide +kernel
theorem dX4_isWordAt_30 : decode cX4_isWordAt 30 = .ok (.if_icmp .le 11, 3) := by decide +kernel
theorem dX4_isWordAt_33 : decode cX4_isWordAt 33 = .ok (.aload_n 0, 1) := by decide +kernel
theorem dX4_isWordAt_34 : decode cX4_isWordAt 34 = .ok (.iload_n 1, 1) := by decide +kernel
theorem dX4_isWordAt_35 : decode cX4_isWordAt 35 = .ok (.invokevirtual 62, 3) := by decide +kernel
theorem dX4_isWordAt_38 : decode cX4_isWordAt 38 = .ok (.ifCond .eq 7, 3) := by decide +kernel
theorem dX4_isWordAt_41 : decode cX4_isWordAt 41 = .ok (.iconst 1, 1) := by decide +kernel
theorem dX4_isWordAt_42 : decode cX4_isWordAt 42 = .ok (.goto 4, 3) := by decide +kernel
theorem dX4_isWordAt_45 : decode cX4_isWordAt 45 = .ok (.iconst 0, 1) := by decide +kernel
theorem dX4_isWordAt_46 : decode cX4_isWordAt 46 = .ok (.ireturn, 1) := by decide +kernel
theorem dX4_isSmallAt_0 : decode cX4_isSmallAt 0 = .ok (.aload_n 0, 1) := by decide +kernel
theorem dX4_isSmallAt_1 : decode cX4_isSmallAt 1 = .ok (.getfield 14, 3) := by decide +kernel
theorem dX4_isSmallAt_4 : decode cX4_isSmallAt 4 = .ok (.iload_n 1, 1) := by decide +kernel
theorem dX4_isSmallAt_5 : decode cX4_isSmallAt 5 = .ok (.invokevirtual 59, 3) := by decide +kernel
theorem dX4_isSmallAt_8 : decode cX4_isSmallAt 8 = .ok (.istore_n 2, 1) := by decide +kernel
theorem dX4_isSmallAt_9 : decode cX4_isSmallAt 9 = .ok (.iload_n 2, 1) := by decide +kernel
theorem dX4_isSmallAt_10 : decode cX4_isSmallAt 10 = .ok (.bipush 97, 2) := by decide +kernel
theorem dX4_isSmallAt_12 : decode cX4_isSmallAt 12 = .ok (.if_icmp .lt 13, 3) := by decide +kernel
theorem dX4_isSmallAt_15 : decode cX4_isSmallAt 15 = .ok (.iload_n 2, 1) := by decide +kernel
theorem dX4_isSmallAt_16 : decode cX4_isSmallAt 16 = .ok (.bipush 122, 2) := by decide +kernel
theorem dX4_isSmallAt_18 : decode cX4_isSmallAt 18 = .ok (.if_icmp .gt 7, 3) := by decide +kernel
theorem dX4_isSmallAt_21 : decode cX4_isSmallAt 21 = .ok (.iconst 1, 1) := by decide +kernel
theorem dX4_isSmallAt_22 : decode cX4_isSmallAt 22 = .ok (.goto 4, 3) := by decide +kernel
theorem dX4_isSmallAt_25 : decode cX4_isSmallAt 25 = .ok (.iconst 0, 1) := by decide +kernel
theorem dX4_isSmallAt_26 : decode cX4_isSmallAt 26 = .ok (.ireturn, 1) := by decide +kernel
theorem dX4_isEndAt_0 : decode cX4_isEndAt 0 = .ok (.aload_n 0, 1) := by decide +kernel
theorem dX4_isEndAt_1 : decode cX4_isEndAt 1 = .ok (.getfield 14, 3) := by decide +kernel
theorem dX4_isEndAt_4 : decode cX4_isEndAt 4 = .ok (.iload_n 1, 1) := by decide +kernel
theorem dX4_isEndAt_5 : decode cX4_isEndAt 5 = .ok (.invokevirtual 59, 3) := by decide +kernel
theorem dX4_isEndAt_8 : decode cX4_isEndAt 8 = .ok (.bipush 10, 2) := by decide +kernel
theorem dX4_isEndAt_10 : decode cX4_isEndAt 10 = .ok (.if_icmp .ne 7, 3) := by decide +kernel
theorem dX4_isEndAt_13 : decode cX4_isEndAt 13 = .ok (.iconst 1, 1) := by decide +kernel
theorem dX4_isEndAt_14 : decode cX4_isEndAt 14 = .ok (.goto 4, 3) := by decide +kernel
theorem dX4_isEndAt_17 : decode cX4_isEndAt 17 = .ok (.iconst 0, 1) := by decide +kernel
theorem dX4_isEndAt_18 : decode cX4_isEndAt 18 = .ok (.ireturn, 1) := by decide +kernel
theorem dX4_wordStop_0 : decode cX4_wordStop 0 = .ok (.iload_n 1, 1) := by decide +kernel
theorem dX4_wordStop_1 : decode cX4_wordStop 1 = .ok (.istore_n 2, 1) := by decide +kernel
theorem dX4_wordStop_2 : decode cX4_wordStop 2 = .ok (.iload_n 2, 1) := by decide +kernel
theorem dX4_wordStop_3 : decode cX4_wordStop 3 = .ok (.aload_n 0, 1) := by decide +kernel
theorem dX4_wordStop_4 : decode cX4_wordStop 4 = .ok (.getfield 14, 3) := by decide +kernel
theorem dX4_wordStop_7 : decode cX4_wordStop 7 = .ok (.invokevirtual 38, 3) := by decide +kernel
theorem dX4_wordStop_10 : decode cX4_wordStop 10 = .ok (.if_icmp .ge 17, 3) := by decide +kernel
theorem dX4_wordStop_13 : decode cX4_wordStop 13 = .ok (.aload_n 0, 1) := by decide +kernel
theorem dX4_wordStop_14 : decode cX4_wordStop 14 = .ok (.iload_n 2, 1) := by decide +kernel
theorem dX4_wordStop_15 : decode cX4_wordStop 15 = .ok (.invokevirtual 66, 3) := by decide +kernel
theorem dX4_wordStop_18 : decode cX4_wordStop 18 = .ok (.ifCond .ne 9, 3) := by decide +kernel
theorem dX4_wordStop_21 : decode cX4_wordStop 21 = .ok (.iinc 2 1, 3) := by decide +kernel
theorem dX4_wordStop_24 : decode cX4_wordStop 24 = .ok (.goto (-22), 3) := by decide +kernel
theorem dX4_wordStop_27 : decode cX4_wordStop 27 = .ok (.iload_n 2, 1) := by decide +kernel
theorem dX4_wordStop_28 : decode cX4_wordStop 28 = .ok (.aload_n 0, 1) := by decide +kernel
theorem dX4_wordStop_29 : decode cX4_wordStop 29 = .ok (.getfield 14, 3) := by decide +kernel
theorem dX4_wordStop_32 : decode cX4_wordStop 32 = .ok (.invokevirtual 38, 3) := by decide +kernel
theorem dX4_wordStop_35 : decode cX4_wordStop 35 = .ok (.if_icmp .ge 17, 3) := by decide +kernel
theorem dX4_wordStop_38 : decode cX4_wordStop 38 = .ok (.aload_n 0, 1) := by decide +kernel
theorem dX4_wordStop_39 : decode cX4_wordStop 39 = .ok (.iload_n 2, 1) := by decide +kernel
theorem dX4_wordStop_40 : decode cX4_wordStop 40 = .ok (.invokevirtual 66, 3) := by decide +kernel
theorem dX4_wordStop_43 : decode cX4_wordStop 43 = .ok (.ifCond .eq 9, 3) := by decide +kernel
theorem dX4_wordStop_46 : decode cX4_wordStop 46 = .ok (.iinc 2 1, 3) := by decide +kernel
theorem dX4_wordStop_49 : decode cX4_wordStop 49 = .ok (.goto (-22), 3) := by decide +kernel
theorem dX4_wordStop_52 : decode cX4_wordStop 52 = .ok (.iload_n 2, 1) := by decide +kernel
theorem dX4_wordStop_53 : decode cX4_wordStop 53 = .ok (.ireturn, 1) := by decide +kernel
theorem dX4_wordStart_0 : decode cX4_wordStart 0 = .ok (.iload_n 1, 1) := by decide +kernel
theorem dX4_wordStart_1 : decode cX4_wordStart 1 = .ok (.istore_n 2, 1) := by decide +kernel
theorem dX4_wordStart_2 : decode cX4_wordStart 2 = .ok (.iload_n 2, 1) := by decide +kernel
theorem dX4_wordStart_3 : decode cX4_wordStart 3 = .ok (.ifCond .le 19, 3) := by decide +kernel
theorem dX4_wordStart_6 : decode cX4_wordStart 6 = .ok (.aload_n 0, 1) := by decide +kernel
theorem dX4_wordStart_7 : decode cX4_wordStart 7 = .ok (.iload_n 2, 1) := by decide +kernel
theorem dX4_wordStart_8 : decode cX4_wordStart 8 = .ok (.iconst 1, 1) := by decide +kernel
theorem dX4_wordStart_9 : decode cX4_wordStart 9 = .ok (.isub, 1) := by decide +kernel
theorem dX4_wordStart_10 : decode cX4_wordStart 10 = .ok (.invokevirtual 66, 3) := by decide +kernel
theorem dX4_wordStart_13 : decode cX4_wordStart 13 = .ok (.ifCond .ne 9, 3) := by decide +kernel
theorem dX4_wordStart_16 : decode cX4_wordStart 16 = .ok (.iinc 2 (-1), 3) := by decide +kernel
theorem dX4_wordStart_19 : decode cX4_wordStart 19 = .ok (.goto (-17), 3) := by decide +kernel
theorem dX4_wordStart_22 : decode cX4_wordStart 22 = .ok (.iload_n 2, 1) := by decide +kernel
theorem dX4_wordStart_23 : decode cX4_wordStart 23 = .ok (.ifCond .le 19, 3) := by decide +kernel
theorem dX4_wordStart_26 : decode cX4_wordStart 26 = .ok (.aload_n 0, 1) := by decide +kernel
theorem dX4_wordStart_27 : decode cX4_wordStart 27 = .ok (.iload_n 2, 1) := by decide +kernel
theorem dX4_wordStart_28 : decode cX4_wordStart 28 = .ok (.iconst 1, 1) := by decide +kernel
theorem dX4_wordStart_29 : decode cX4_wordStart 29 = .ok (.isub, 1) := by decide +kernel
theorem dX4_wordStart_30 : decode cX4_wordStart 30 = .ok (.invokevirtual 66, 3) := by decide +kernel
theorem dX4_wordStart_33 : decode cX4_wordStart 33 = .ok (.ifCond .eq 9, 3) := by decide +kernel
theorem dX4_wordStart_36 : decode cX4_wordStart 36 = .ok (.iinc 2 (-1), 3) := by decide +kernel
theorem dX4_wordStart_39 : decode cX4_wordStart 39 = .ok (.goto (-17), 3) := by decide +kernel
theorem dX4_wordStart_42 : decode cX4_wordStart 42 = .ok (.iload_n 2, 1) := by decide +kernel
theorem dX4_wordStart_43 : decode cX4_wordStart 43 = .ok (.ireturn, 1) := by decide +kernel
theorem dX4_lineStart_0 : decode cX4_lineStart 0 = .ok (.iload_n 1, 1) := by decide +kernel
theorem dX4_lineStart_1 : decode cX4_lineStart 1 = .ok (.istore_n 2, 1) := by decide +kernel
theorem dX4_lineStart_2 : decode cX4_lineStart 2 = .ok (.iload_n 2, 1) := by decide +kernel
theorem dX4_lineStart_3 : decode cX4_lineStart 3 = .ok (.ifCond .le 19, 3) := by decide +kernel
theorem dX4_lineStart_6 : decode cX4_lineStart 6 = .ok (.aload_n 0, 1) := by decide +kernel
theorem dX4_lineStart_7 : decode cX4_lineStart 7 = .ok (.iload_n 2, 1) := by decide +kernel
theorem dX4_lineStart_8 : decode cX4_lineStart 8 = .ok (.iconst 1, 1) := by decide +kernel
theorem dX4_lineStart_9 : decode cX4_lineStart 9 = .ok (.isub, 1) := by decide +kernel
theorem dX4_lineStart_10 : decode cX4_lineStart 10 = .ok (.invokevirtual 69, 3) := by decide +kernel
theorem dX4_lineStart_13 : decode cX4_lineStart 13 = .ok (.ifCond .ne 9, 3) := by decide +kernel
theorem dX4_lineStart_16 : decode cX4_lineStart 16 = .ok (.iinc 2 (-1), 3) := by decide +kernel
theorem dX4_lineStart_19 : decode cX4_lineStart 19 = .ok (.goto (-17), 3) := by decide +kernel
theorem dX4_lineStart_22 : decode cX4_lineStart 22 = .ok (.iload_n 2, 1) := by decide +kernel
theorem dX4_lineStart_23 : decode cX4_lineStart 23 = .ok (.ireturn, 1) := by decide +kernel
theorem dX4_lineStop_0 : decode cX4_lineStop 0 = .ok (.iload_n 1, 1) := by decide +kernel
theorem dX4_lineStop_1 : decode cX4_lineStop 1 = .ok (.istore_n 2, 1) := by decide +kernel
theorem dX4_lineStop_2 : decode cX4_lineStop 2 = .ok (.iload_n 2, 1) := by decide +kernel
theorem dX4_lineStop_3 : decode cX4_lineStop 3 = .ok (.aload_n 0, 1) := by decide +kernel
theorem dX4_lineStop_4 : decode cX4_lineStop 4 = .ok (.getfield 14, 3) := by decide +kernel
theorem dX4_lineStop_7 : decode cX4_lineStop 7 = .ok (.invokevirtual 38, 3) := by decide +kernel
theorem dX4_lineStop_10 : decode cX4_lineStop 10 = .ok (.if_icmp .ge 17, 3) := by decide +kernel
theorem dX4_lineStop_13 : decode cX4_lineStop 13 = .ok (.aload_n 0, 1) := by decide +kernel
theorem dX4_lineStop_14 : decode cX4_lineStop 14 = .ok (.iload_n 2, 1) := by decide +kernel
theorem dX4_lineStop_15 : decode cX4_lineStop 15 = .ok (.invokevirtual 69, 3) := by decide +kernel
theorem dX4_lineStop_18 : decode cX4_lineStop 18 = .ok (.ifCond .ne 9, 3) := by decide +kernel
theorem dX4_lineStop_21 : decode cX4_lineStop 21 = .ok (.iinc 2 1, 3) := by decide +kernel
theorem dX4_lineStop_24 : decode cX4_lineStop 24 = .ok (.goto (-22), 3) := by decide +kernel
theorem dX4_lineStop_27 : decode cX4_lineStop 27 = .ok (.iload_n 2, 1) := by decide +kernel
theorem dX4_lineStop_28 : decode cX4_lineStop 28 = .ok (.ireturn, 1) := by decide +kernel
theorem dX4_lineStartOver_0 : decode cX4_lineStartOver 0 = .ok (.aload_n 0, 1) := by decide +kernel
theorem dX4_lineStartOver_1 : decode cX4_lineStartOver 1 = .ok (.iload_n 1, 1) := by decide +kernel
theorem dX4_lineStartOver_2 : decode cX4_lineStartOver 2 = .ok (.invokevirtual 72, 3) := by decide +kernel
theorem dX4_lineStartOver_5 : decode cX4_lineStartOver 5 = .ok (.istore_n 3, 1) := by decide +kernel
theorem dX4_lineStartOver_6 : decode cX4_lineStartOver 6 = .ok (.iconst 0, 1) := by decide +kernel
theorem dX4_lineStartOver_7 : decode cX4_lineStartOver 7 = .ok (.istore 4, 2) := by decide +kernel
theorem dX4_lineStartOver_9 : decode cX4_lineStartOver 9 = .ok (.iload 4, 2) := by decide +kernel
theorem dX4_lineStartOver_11 : decode cX4_lineStartOver 11 = .ok (.iload_n 2, 1) := by decide +kernel
theorem dX4_lineStartOver_12 : decode cX4_lineStartOver 12 = .ok (.if_icmp .ge 30, 3) := by decide +kernel
theorem dX4_lineStartOver_15 : decode cX4_lineStartOver 15 = .ok (.aload_n 0, 1) := by decide +kernel
theorem dX4_lineStartOver_16 : decode cX4_lineStartOver 16 = .ok (.iload_n 3, 1) := by decide +kernel
theorem dX4_lineStartOver_17 : decode cX4_lineStartOver 17 = .ok (.invokevirtual 75, 3) := by decide +kernel
theorem dX4_lineStartOver_20 : decode cX4_lineStartOver 20 = .ok (.iconst 1, 1) := by decide +kernel
theorem dX4_lineStartOver_21 : decode cX4_lineStartOver 21 = .ok (.iadd, 1) := by decide +kernel
theorem dX4_lineStartOver_22 : decode cX4_lineStartOver 22 = .ok (.istore_n 3, 1) := by decide +kernel
theorem dX4_lineStartOver_23 : decode cX4_lineStartOver 23 = .ok (.iload_n 3, 1) := by decide +kernel
theorem dX4_lineStartOver_24 : decode cX4_lineStartOver 24 = .ok (.aload_n 0, 1) := by decide +kernel
theorem dX4_lineStartOver_25 : decode cX4_lineStartOver 25 = .ok (.getfield 14, 3) := by decide +kernel
theorem dX4_lineStartOver_28 : decode cX4_lineStartOver 28 = .ok (.invokevirtual 38, 3) := by decide +kernel
theorem dX4_lineStartOver_31 : decode cX4_lineStartOver 31 = .ok (.if_icmp .le 5, 3) := by decide +kernel
theorem dX4_lineStartOver_34 : decode cX4_lineStartOver 34 = .ok (.iconst (-1), 1) := by decide +kernel
theorem dX4_lineStartOver_35 : decode cX4_lineStartOver 35 = .ok (.ireturn, 1) := by decide +kernel
theorem dX4_lineStartOver_36 : decode cX4_lineStartOver 36 = .ok (.iinc 4 1, 3) := by decide +kernel
theorem dX4_lineStartOver_39 : decode cX4_lineStartOver 39 = .ok (.goto (-30), 3) := by decide +kernel
theorem dX4_lineStartOver_42 : decode cX4_lineStartOver 42 = .ok (.iconst 0, 1) := by decide +kernel
theorem dX4_lineStartOver_43 : decode cX4_lineStartOver 43 = .ok (.istore 4, 2) := by decide +kernel
theorem dX4_lineStartOver_45 : decode cX4_lineStartOver 45 = .ok (.iload 4, 2) := by decide +kernel
theorem dX4_lineStartOver_47 : decode cX4_lineStartOver 47 = .ok (.iload_n 2, 1) := by decide +kernel
theorem dX4_lineStartOver_48 : decode cX4_lineStartOver 48 = .ok (.if_icmp .le 24, 3) := by decide +kernel
theorem dX4_lineStartOver_51 : decode cX4_lineStartOver 51 = .ok (.iload_n 3, 1) := by decide +kernel
theorem dX4_lineStartOver_52 : decode cX4_lineStartOver 52 = .ok (.iconst 1, 1) := by decide +kernel
theorem dX4_lineStartOver_53 : decode cX4_lineStartOver 53 = .ok (.if_icmp .ge 5, 3) := by decide +kernel
theorem dX4_lineStartOver_56 : decode cX4_lineStartOver 56 = .ok (.iconst (-1), 1) := by decide +kernel
theorem dX4_lineStartOver_57 : decode cX4_lineStartOver 57 = .ok (.ireturn, 1) := by decide +kernel
theorem dX4_lineStartOver_58 : decode cX4_lineStartOver 58 = .ok (.aload_n 0, 1) := by decide +kernel
theorem dX4_lineStartOver_59 : decode cX4_lineStartOver 59 = .ok (.iload_n 3, 1) := by decide +kernel
theorem dX4_lineStartOver_60 : decode cX4_lineStartOver 60 = .ok (.iconst 1, 1) := by decide +kernel
theorem dX4_lineStartOver_61 : decode cX4_lineStartOver 61 = .ok (.isub, 1) := by decide +kernel
theorem dX4_lineStartOver_62 : decode cX4_lineStartOver 62 = .ok (.invokevirtual 72, 3) := by decide +kernel
theorem dX4_lineStartOver_65 : decode cX4_lineStartOver 65 = .ok (.istore_n 3, 1) := by decide +kernel
theorem dX4_lineStartOver_66 : decode cX4_lineStartOver 66 = .ok (.iinc 4 (-1), 3) := by decide +kernel
theorem dX4_lineStartOver_69 : decode cX4_lineStartOver 69 = .ok (.goto (-24), 3) := by decide +kernel
theorem dX4_lineStartOver_72 : decode cX4_lineStartOver 72 = .ok (.iload_n 3, 1) := by decide +kernel
theorem dX4_lineStartOver_73 : decode cX4_lineStartOver 73 = .ok (.ireturn, 1) := by decide +kernel
theorem dX4_placeOf_0 : decode cX4_placeOf 0 = .ok (.aload_n 0, 1) := by decide +kernel
theorem dX4_placeOf_1 : decode cX4_placeOf 1 = .ok (.getfield 28, 3) := by decide +kernel
theorem dX4_placeOf_4 : decode cX4_placeOf 4 = .ok (.istore_n 2, 1) := by decide +kernel
theorem dX4_placeOf_5 : decode cX4_placeOf 5 = .ok (.iload_n 2, 1) := by decide +kernel
theorem dX4_placeOf_6 : decode cX4_placeOf 6 = .ok (.aload_n 0, 1) := by decide +kernel
theorem dX4_placeOf_7 : decode cX4_placeOf 7 = .ok (.getfield 14, 3) := by decide +kernel
theorem dX4_placeOf_10 : decode cX4_placeOf 10 = .ok (.invokevirtual 38, 3) := by decide +kernel
theorem dX4_placeOf_13 : decode cX4_placeOf 13 = .ok (.if_icmp .ge 23, 3) := by decide +kernel
theorem dX4_placeOf_16 : decode cX4_placeOf 16 = .ok (.aload_n 0, 1) := by decide +kernel
theorem dX4_placeOf_17 : decode cX4_placeOf 17 = .ok (.getfield 14, 3) := by decide +kernel
theorem dX4_placeOf_20 : decode cX4_placeOf 20 = .ok (.iload_n 2, 1) := by decide +kernel
theorem dX4_placeOf_21 : decode cX4_placeOf 21 = .ok (.aload_n 1, 1) := by decide +kernel
theorem dX4_placeOf_22 : decode cX4_placeOf 22 = .ok (.invokevirtual 78, 3) := by decide +kernel
theorem dX4_placeOf_25 : decode cX4_placeOf 25 = .ok (.ifCond .eq 5, 3) := by decide +kernel
theorem dX4_placeOf_28 : decode cX4_placeOf 28 = .ok (.iload_n 2, 1) := by decide +kernel
theorem dX4_placeOf_29 : decode cX4_placeOf 29 = .ok (.ireturn, 1) := by decide +kernel
theorem dX4_placeOf_30 : decode cX4_placeOf 30 = .ok (.iinc 2 1, 3) := by decide +kernel
theorem dX4_placeOf_33 : decode cX4_placeOf 33 = .ok (.goto (-28), 3) := by decide +kernel
theorem dX4_placeOf_36 : decode cX4_placeOf 36 = .ok (.iconst (-1), 1) := by decide +kernel
theorem dX4_placeOf_37 : decode cX4_placeOf 37 = .ok (.ireturn, 1) := by decide +kernel
theorem dX4_endsAhead_0 : decode cX4_endsAhead 0 = .ok (.iconst 0, 1) := by decide +kernel
theorem dX4_endsAhead_1 : decode cX4_endsAhead 1 = .ok (.istore_n 2, 1) := by decide +kernel
theorem dX4_endsAhead_2 : decode cX4_endsAhead 2 = .ok (.iconst 0, 1) := by decide +kernel
theorem dX4_endsAhead_3 : decode cX4_endsAhead 3 = .ok (.istore_n 3, 1) := by decide +kernel
theorem dX4_endsAhead_4 : decode cX4_endsAhead 4 = .ok (.iload_n 3, 1) := by decide +kernel
theorem dX4_endsAhead_5 : decode cX4_endsAhead 5 = .ok (.iload_n 1, 1) := by decide +kernel
theorem dX4_endsAhead_6 : decode cX4_endsAhead 6 = .ok (.if_icmp .ge 20, 3) := by decide +kernel
theorem dX4_endsAhead_9 : decode cX4_endsAhead 9 = .ok (.aload_n 0, 1) := by decide +kernel
theorem dX4_endsAhead_10 : decode cX4_endsAhead 10 = .ok (.iload_n 3, 1) := by decide +kernel
theorem dX4_endsAhead_11 : decode cX4_endsAhead 11 = .ok (.invokevirtual 69, 3) := by decide +kernel
theorem dX4_endsAhead_14 : decode cX4_endsAhead 14 = .ok (.ifCond .eq 6, 3) := by decide +kernel
theorem dX4_endsAhead_17 : decode cX4_endsAhead 17 = .ok (.iinc 2 1, 3) := by decide +kernel
theorem dX4_endsAhead_20 : decode cX4_endsAhead 20 = .ok (.iinc 3 1, 3) := by decide +kernel
theorem dX4_endsAhead_23 : decode cX4_endsAhead 23 = .ok (.goto (-19), 3) := by decide +kernel
theorem dX4_endsAhead_26 : decode cX4_endsAhead 26 = .ok (.iload_n 2, 1) := by decide +kernel
theorem dX4_endsAhead_27 : decode cX4_endsAhead 27 = .ok (.ireturn, 1) := by decide +kernel
theorem dX4_linesGone_0 : decode cX4_linesGone 0 = .ok (.iconst 1, 1) := by decide +kernel
theorem dX4_linesGone_1 : decode cX4_linesGone 1 = .ok (.istore_n 1, 1) := by decide +kernel
theorem dX4_linesGone_2 : decode cX4_linesGone 2 = .ok (.aload_n 0, 1) := by decide +kernel
theorem dX4_linesGone_3 : decode cX4_linesGone 3 = .ok (.iconst 0, 1) := by decide +kernel
theorem dX4_linesGone_4 : decode cX4_linesGone 4 = .ok (.invokevirtual 75, 3) := by decide +kernel
theorem dX4_linesGone_7 : decode cX4_linesGone 7 = .ok (.istore_n 2, 1) := by decide +kernel
theorem dX4_linesGone_8 : decode cX4_linesGone 8 = .ok (.iconst 0, 1) := by decide +kernel
theorem dX4_linesGone_9 : decode cX4_linesGone 9 = .ok (.istore_n 3, 1) := by decide +kernel
theorem dX4_linesGone_10 : decode cX4_linesGone 10 = .ok (.iload_n 3, 1) := by decide +kernel
theorem dX4_linesGone_11 : decode cX4_linesGone 11 = .ok (.aload_n 0, 1) := by decide +kernel
theorem dX4_linesGone_12 : decode cX4_linesGone 12 = .ok (.getfield 14, 3) := by decide +kernel
theorem dX4_linesGone_15 : decode cX4_linesGone 15 = .ok (.invokevirtual 38, 3) := by decide +kernel
theorem dX4_linesGone_18 : decode cX4_linesGone 18 = .ok (.if_icmp .ge 31, 3) := by decide +kernel
theorem dX4_linesGone_21 : decode cX4_linesGone 21 = .ok (.iload_n 2, 1) := by decide +kernel
theorem dX4_linesGone_22 : decode cX4_linesGone 22 = .ok (.aload_n 0, 1) := by decide +kernel
theorem dX4_linesGone_23 : decode cX4_linesGone 23 = .ok (.getfield 14, 3) := by decide +kernel
theorem dX4_linesGone_26 : decode cX4_linesGone 26 = .ok (.invokevirtual 38, 3) := by decide +kernel
theorem dX4_linesGone_29 : decode cX4_linesGone 29 = .ok (.if_icmp .ge 20, 3) := by decide +kernel
theorem dX4_linesGone_32 : decode cX4_linesGone 32 = .ok (.iinc 1 1, 3) := by decide +kernel
theorem dX4_linesGone_35 : decode cX4_linesGone 35 = .ok (.aload_n 0, 1) := by decide +kernel
theorem dX4_linesGone_36 : decode cX4_linesGone 36 = .ok (.iload_n 2, 1) := by decide +kernel
theorem dX4_linesGone_37 : decode cX4_linesGone 37 = .ok (.iconst 1, 1) := by decide +kernel
theorem dX4_linesGone_38 : decode cX4_linesGone 38 = .ok (.iadd, 1) := by decide +kernel
theorem dX4_linesGone_39 : decode cX4_linesGone 39 = .ok (.invokevirtual 75, 3) := by decide +kernel
theorem dX4_linesGone_42 : decode cX4_linesGone 42 = .ok (.istore_n 2, 1) := by decide +kernel
theorem dX4_linesGone_43 : decode cX4_linesGone 43 = .ok (.iinc 3 1, 3) := by decide +kernel
theorem dX4_linesGone_46 : decode cX4_linesGone 46 = .ok (.goto (-36), 3) := by decide +kernel
theorem dX4_linesGone_49 : decode cX4_linesGone 49 = .ok (.iload_n 1, 1) := by decide +kernel
theorem dX4_linesGone_50 : decode cX4_linesGone 50 = .ok (.ireturn, 1) := by decide +kernel
theorem dX4_longest_0 : decode cX4_longest 0 = .ok (.iconst 0, 1) := by decide +kernel
theorem dX4_longest_1 : decode cX4_longest 1 = .ok (.istore_n 1, 1) := by decide +kernel
theorem dX4_longest_2 : decode cX4_longest 2 = .ok (.iconst 0, 1) := by decide +kernel
theorem dX4_longest_3 : decode cX4_longest 3 = .ok (.istore_n 2, 1) := by decide +kernel
theorem dX4_longest_4 : decode cX4_longest 4 = .ok (.iconst 0, 1) := by decide +kernel
theorem dX4_longest_5 : decode cX4_longest 5 = .ok (.istore_n 3, 1) := by decide +kernel
theorem dX4_longest_6 : decode cX4_longest 6 = .ok (.iload_n 3, 1) := by decide +kernel
theorem dX4_longest_7 : decode cX4_longest 7 = .ok (.aload_n 0, 1) := by decide +kernel
theorem dX4_longest_8 : decode cX4_longest 8 = .ok (.getfield 14, 3) := by decide +kernel
theorem dX4_longest_11 : decode cX4_longest 11 = .ok (.invokevirtual 38, 3) := by decide +kernel
theorem dX4_longest_14 : decode cX4_longest 14 = .ok (.if_icmp .gt 41, 3) := by decide +kernel
theorem dX4_longest_17 : decode cX4_longest 17 = .ok (.iload_n 2, 1) := by decide +kernel
theorem dX4_longest_18 : decode cX4_longest 18 = .ok (.aload_n 0, 1) := by decide +kernel
theorem dX4_longest_19 : decode cX4_longest 19 = .ok (.getfield 14, 3) := by decide +kernel
theorem dX4_longest_22 : decode cX4_longest 22 = .ok (.invokevirtual 38, 3) := by decide +kernel
theorem dX4_longest_25 : decode cX4_longest 25 = .ok (.if_icmp .gt 30, 3) := by decide +kernel
theorem dX4_longest_28 : decode cX4_longest 28 = .ok (.aload_n 0, 1) := by decide +kernel
theorem dX4_longest_29 : decode cX4_longest 29 = .ok (.iload_n 2, 1) := by decide +kernel
theorem dX4_longest_30 : decode cX4_longest 30 = .ok (.invokevirtual 75, 3) := by decide +kernel
theorem dX4_longest_33 : decode cX4_longest 33 = .ok (.istore 4, 2) := by decide +kernel
theorem dX4_longest_35 : decode cX4_longest 35 = .ok (.iload_n 1, 1) := by decide +kernel
theorem dX4_longest_36 : decode cX4_longest 36 = .ok (.iload 4, 2) := by decide +kernel
theorem dX4_longest_38 : decode cX4_longest 38 = .ok (.iload_n 2, 1) := by decide +kernel
theorem dX4_longest_39 : decode cX4_longest 39 = .ok (.isub, 1) := by decide +kernel
theorem dX4_longest_40 : decode cX4_longest 40 = .ok (.invokestatic 82, 3) := by decide +kernel
theorem dX4_longest_43 : decode cX4_longest 43 = .ok (.istore_n 1, 1) := by decide +kernel
theorem dX4_longest_44 : decode cX4_longest 44 = .ok (.iload 4, 2) := by decide +kernel
theorem dX4_longest_46 : decode cX4_longest 46 = .ok (.iconst 1, 1) := by decide +kernel
theorem dX4_longest_47 : decode cX4_longest 47 = .ok (.iadd, 1) := by decide +kernel
theorem dX4_longest_48 : decode cX4_longest 48 = .ok (.istore_n 2, 1) := by decide +kernel
theorem dX4_longest_49 : decode cX4_longest 49 = .ok (.iinc 3 1, 3) := by decide +kernel
theorem dX4_longest_52 : decode cX4_longest 52 = .ok (.goto (-46), 3) := by decide +kernel
theorem dX4_longest_55 : decode cX4_longest 55 = .ok (.iload_n 1, 1) := by decide +kernel
theorem dX4_longest_56 : decode cX4_longest 56 = .ok (.ireturn, 1) := by decide +kernel
theorem dX4_wordsBegun_0 : decode cX4_wordsBegun 0 = .ok (.iconst 0, 1) := by decide +kernel
theorem dX4_wordsBegun_1 : decode cX4_wordsBegun 1 = .ok (.istore_n 1, 1) := by decide +kernel
theorem dX4_wordsBegun_2 : decode cX4_wordsBegun 2 = .ok (.iconst 0, 1) := by decide +kernel
theorem dX4_wordsBegun_3 : decode cX4_wordsBegun 3 = .ok (.istore_n 2, 1) := by decide +kernel
theorem dX4_wordsBegun_4 : decode cX4_wordsBegun 4 = .ok (.iload_n 2, 1) := by decide +kernel
theorem dX4_wordsBegun_5 : decode cX4_wordsBegun 5 = .ok (.aload_n 0, 1) := by decide +kernel
theorem dX4_wordsBegun_6 : decode cX4_wordsBegun 6 = .ok (.getfield 14, 3) := by decide +kernel
theorem dX4_wordsBegun_9 : decode cX4_wordsBegun 9 = .ok (.invokevirtual 38, 3) := by decide +kernel
theorem dX4_wordsBegun_12 : decode cX4_wordsBegun 12 = .ok (.if_icmp .ge 30, 3) := by decide +kernel
theorem dX4_wordsBegun_15 : decode cX4_wordsBegun 15 = .ok (.aload_n 0, 1) := by decide +kernel
theorem dX4_wordsBegun_16 : decode cX4_wordsBegun 16 = .ok (.iload_n 2, 1) := by decide +kernel
theorem dX4_wordsBegun_17 : decode cX4_wordsBegun 17 = .ok (.invokevirtual 66, 3) := by decide +kernel
theorem dX4_wordsBegun_20 : decode cX4_wordsBegun 20 = .ok (.ifCond .eq 16, 3) := by decide +kernel
theorem dX4_wordsBegun_23 : decode cX4_wordsBegun 23 = .ok (.aload_n 0, 1) := by decide +kernel
theorem dX4_wordsBegun_24 : decode cX4_wordsBegun 24 = .ok (.iload_n 2, 1) := by decide +kernel
theorem dX4_wordsBegun_25 : decode cX4_wordsBegun 25 = .ok (.iconst 1, 1) := by decide +kernel
theorem dX4_wordsBegun_26 : decode cX4_wordsBegun 26 = .ok (.isub, 1) := by decide +kernel
theorem dX4_wordsBegun_27 : decode cX4_wordsBegun 27 = .ok (.invokevirtual 66, 3) := by decide +kernel
theorem dX4_wordsBegun_30 : decode cX4_wordsBegun 30 = .ok (.ifCond .ne 6, 3) := by decide +kernel
theorem dX4_wordsBegun_33 : decode cX4_wordsBegun 33 = .ok (.iinc 1 1, 3) := by decide +kernel
theorem dX4_wordsBegun_36 : decode cX4_wordsBegun 36 = .ok (.iinc 2 1, 3) := by decide +kernel
theorem dX4_wordsBegun_39 : decode cX4_wordsBegun 39 = .ok (.goto (-35), 3) := by decide +kernel
theorem dX4_wordsBegun_42 : decode cX4_wordsBegun 42 = .ok (.iload_n 1, 1) := by decide +kernel
theorem dX4_wordsBegun_43 : decode cX4_wordsBegun 43 = .ok (.ireturn, 1) := by decide +kernel
theorem dX4_wordsGone_0 : decode cX4_wordsGone 0 = .ok (.iconst 0, 1) := by decide +kernel
theorem dX4_wordsGone_1 : decode cX4_wordsGone 1 = .ok (.istore_n 1, 1) := by decide +kernel
theorem dX4_wordsGone_2 : decode cX4_wordsGone 2 = .ok (.iconst 0, 1) := by decide +kernel
theorem dX4_wordsGone_3 : decode cX4_wordsGone 3 = .ok (.istore_n 2, 1) := by decide +kernel
theorem dX4_wordsGone_4 : decode cX4_wordsGone 4 = .ok (.iconst 0, 1) := by decide +kernel
theorem dX4_wordsGone_5 : decode cX4_wordsGone 5 = .ok (.istore_n 3, 1) := by decide +kernel
theorem dX4_wordsGone_6 : decode cX4_wordsGone 6 = .ok (.iload_n 3, 1) := by decide +kernel
theorem dX4_wordsGone_7 : decode cX4_wordsGone 7 = .ok (.aload_n 0, 1) := by decide +kernel
theorem dX4_wordsGone_8 : decode cX4_wordsGone 8 = .ok (.getfield 14, 3) := by decide +kernel
theorem dX4_wordsGone_11 : decode cX4_wordsGone 11 = .ok (.invokevirtual 38, 3) := by decide +kernel
theorem dX4_wordsGone_14 : decode cX4_wordsGone 14 = .ok (.if_icmp .ge 39, 3) := by decide +kernel
theorem dX4_wordsGone_17 : decode cX4_wordsGone 17 = .ok (.iload_n 2, 1) := by decide +kernel
theorem dX4_wordsGone_18 : decode cX4_wordsGone 18 = .ok (.aload_n 0, 1) := by decide +kernel
theorem dX4_wordsGone_19 : decode cX4_wordsGone 19 = .ok (.getfield 14, 3) := by decide +kernel
theorem dX4_wordsGone_22 : decode cX4_wordsGone 22 = .ok (.invokevirtual 38, 3) := by decide +kernel
theorem dX4_wordsGone_25 : decode cX4_wordsGone 25 = .ok (.if_icmp .ge 28, 3) := by decide +kernel
theorem dX4_wordsGone_28 : decode cX4_wordsGone 28 = .ok (.aload_n 0, 1) := by decide +kernel
theorem dX4_wordsGone_29 : decode cX4_wordsGone 29 = .ok (.iload_n 2, 1) := by decide +kernel
theorem dX4_wordsGone_30 : decode cX4_wordsGone 30 = .ok (.invokevirtual 86, 3) := by decide +kernel
theorem dX4_wordsGone_33 : decode cX4_wordsGone 33 = .ok (.istore_n 2, 1) := by decide +kernel
theorem dX4_wordsGone_34 : decode cX4_wordsGone 34 = .ok (.aload_n 0, 1) := by decide +kernel
theorem dX4_wordsGone_35 : decode cX4_wordsGone 35 = .ok (.iload_n 2, 1) := by decide +kernel
theorem dX4_wordsGone_36 : decode cX4_wordsGone 36 = .ok (.iconst 1, 1) := by decide +kernel
theorem dX4_wordsGone_37 : decode cX4_wordsGone 37 = .ok (.isub, 1) := by decide +kernel
theorem dX4_wordsGone_38 : decode cX4_wordsGone 38 = .ok (.invokevirtual 66, 3) := by decide +kernel
theorem dX4_wordsGone_41 : decode cX4_wordsGone 41 = .ok (.ifCond .eq 6, 3) := by decide +kernel
theorem dX4_wordsGone_44 : decode cX4_wordsGone 44 = .ok (.iinc 1 1, 3) := by decide +kernel
theorem dX4_wordsGone_47 : decode cX4_wordsGone 47 = .ok (.iinc 3 1, 3) := by decide +kernel
theorem dX4_wordsGone_50 : decode cX4_wordsGone 50 = .ok (.goto (-44), 3) := by decide +kernel
theorem dX4_wordsGone_53 : decode cX4_wordsGone 53 = .ok (.iload_n 1, 1) := by decide +kernel
theorem dX4_wordsGone_54 : decode cX4_wordsGone 54 = .ok (.ireturn, 1) := by decide +kernel
theorem dX5_init_0 : decode cX5_init 0 = .ok (.aload_n 0, 1) := by decide +kernel
theorem dX5_init_1 : decode cX5_init 1 = .ok (.invokespecial 3, 3) := by decide +kernel
theorem dX5_init_4 : decode cX5_init 4 = .ok (.aload_n 0, 1) := by decide +kernel
theorem dX5_init_5 : decode cX5_init 5 = .ok (.new 9, 3) := by decide +kernel
theorem dX5_init_8 : decode cX5_init 8 = .ok (.dup, 1) := by decide +kernel
theorem dX5_init_9 : decode cX5_init 9 = .ok (.invokespecial 11, 3) := by decide +kernel
theorem dX5_init_12 : decode cX5_init 12 = .ok (.putfield 12, 3) := by decide +kernel
theorem dX5_init_15 : decode cX5_init 15 = .ok (.aload_n 0, 1) := by decide +kernel
theorem dX5_init_16 : decode cX5_init 16 = .ok (.new 18, 3) := by decide +kernel
theorem dX5_init_19 : decode cX5_init 19 = .ok (.dup, 1) := by decide +kernel
theorem dX5_init_20 : decode cX5_init 20 = .ok (.invokespecial 20, 3) := by decide +kernel
theorem dX5_init_23 : decode cX5_init 23 = .ok (.putfield 21, 3) := by decide +kernel
theorem dX5_init_26 : decode cX5_init 26 = .ok (.aload_n 0, 1) := by decide +kernel
theorem dX5_init_27 : decode cX5_init 27 = .ok (.new 25, 3) := by decide +kernel
theorem dX5_init_30 : decode cX5_init 30 = .ok (.dup, 1) := by decide +kernel
theorem dX5_init_31 : decode cX5_init 31 = .ok (.invokespecial 27, 3) := by decide +kernel
theorem dX5_init_34 : decode cX5_init 34 = .ok (.putfield 28, 3) := by decide +kernel
theorem dX5_init_37 : decode cX5_init 37 = .ok (.aload_n 0, 1) := by decide +kernel
theorem dX5_init_38 : decode cX5_init 38 = .ok (.iconst 0, 1) := by decide +kernel
theorem dX5_init_39 : decode cX5_init 39 = .ok (.putfield 32, 3) := by decide +kernel
theorem dX5_init_42 : decode cX5_init 42 = .ok (.return_, 1) := by decide +kernel
theorem dX5_copyFrom_0 : decode cX5_copyFrom 0 = .ok (.aload_n 0, 1) := by decide +kernel
theorem dX5_copyFrom_1 : decode cX5_copyFrom 1 = .ok (.getfield 12, 3) := by decide +kernel
theorem dX5_copyFrom_4 : decode cX5_copyFrom 4 = .ok (.aload_n 1, 1) := by decide +kernel
theorem dX5_copyFrom_5 : decode cX5_copyFrom 5 = .ok (.getfield 12, 3) := by decide +kernel
theorem dX5_copyFrom_8 : decode cX5_copyFrom 8 = .ok (.invokevirtual 36, 3) := by decide +kernel
theorem dX5_copyFrom_11 : decode cX5_copyFrom 11 = .ok (.aload_n 0, 1) := by decide +kernel
theorem dX5_copyFrom_12 : decode cX5_copyFrom 12 = .ok (.getfield 21, 3) := by decide +kernel
theorem dX5_copyFrom_15 : decode cX5_copyFrom 15 = .ok (.aload_n 1, 1) := by decide +kernel
theorem dX5_copyFrom_16 : decode cX5_copyFrom 16 = .ok (.getfield 21, 3) := by decide +kernel
theorem dX5_copyFrom_19 : decode cX5_copyFrom 19 = .ok (.invokevirtual 40, 3) := by decide +kernel
theorem dX5_copyFrom_22 : decode cX5_copyFrom 22 = .ok (.aload_n 0, 1) := by decide +kernel
theorem dX5_copyFrom_23 : decode cX5_copyFrom 23 = .ok (.getfield 28, 3) := by decide +kernel
theorem dX5_copyFrom_26 : decode cX5_copyFrom 26 = .ok (.aload_n 1, 1) := by decide +kernel
theorem dX5_copyFrom_27 : decode cX5_copyFrom 27 = .ok (.getfield 28, 3) := by decide +kernel
theorem dX5_copyFrom_30 : decode cX5_copyFrom 30 = .ok (.invokevirtual 43, 3) := by decide +kernel
theorem dX5_copyFrom_33 : decode cX5_copyFrom 33 = .ok (.aload_n 0, 1) := by decide +kernel
theorem dX5_copyFrom_34 : decode cX5_copyFrom 34 = .ok (.aload_n 1, 1) := by decide +kernel
theorem dX5_copyFrom_35 : decode cX5_copyFrom 35 = .ok (.getfield 32, 3) := by decide +kernel
theorem dX5_copyFrom_38 : decode cX5_copyFrom 38 = .ok (.putfield 32, 3) := by decide +kernel
theorem dX5_copyFrom_41 : decode cX5_copyFrom 41 = .ok (.return_, 1) := by decide +kernel
theorem dX5_comeBackTo_0 : decode cX5_comeBackTo 0 = .ok (.aload_n 0, 1) := by decide +kernel
theorem dX5_comeBackTo_1 : decode cX5_comeBackTo 1 = .ok (.aload_n 1, 1) := by decide +kernel
theorem dX5_comeBackTo_2 : decode cX5_comeBackTo 2 = .ok (.invokevirtual 46, 3) := by decide +kernel
theorem dX5_comeBackTo_5 : decode cX5_comeBackTo 5 = .ok (.aload_n 0, 1) := by decide +kernel
theorem dX5_comeBackTo_6 : decode cX5_comeBackTo 6 = .ok (.iconst 0, 1) := by decide +kernel
theorem dX5_comeBackTo_7 : decode cX5_comeBackTo 7 = .ok (.putfield 32, 3) := by decide +kernel
theorem dX5_comeBackTo_10 : decode cX5_comeBackTo 10 = .ok (.return_, 1) := by decide +kernel
theorem dX5_doDeed_0 : decode cX5_doDeed 0 = .ok (.iload_n 1, 1) := by decide +kernel
theorem dX5_doDeed_1 : decode cX5_doDeed 1 = .ok (.tableswitch 481 39 121 #[475, 481, 481, 481, 481, 481, 481, 481, 481, 481, 481, 481, 481, 481, 481, 481, 481, 481, 481, 481, 481, 481, 481, 481, 481, 481, 481, 380, 481, 481, 481, 375, 481, 481, 481, 481, 481, 481, 481, 481, 481, 481, 481, 481, 481, 481, 481, 481, 410, 481, 481, 481, 481, 481, 481, 481, 468, 481, 385, 361, 425, 481, 390, 347, 456, 481, 481, 481, 415, 481, 395, 461, 481, 435, 481, 420, 451, 440, 446, 481, 405, 400, 430], 347) := by decide +kernel
theorem dX5_doDeed_348 : decode cX5_doDeed 348 = .ok (.aload_n 0, 1) := by decide +kernel
theorem dX5_doDeed_349 : decode cX5_doDeed 349 = .ok (.aload_n 0, 1) := by decide +kernel
theorem dX5_doDeed_350 : decode cX5_doDeed 350 = .ok (.getfield 12, 3) := by decide +kernel
theorem dX5_doDeed_353 : decode cX5_doDeed 353 = .ok (.getfield 49, 3) := by decide +kernel
theorem dX5_doDeed_356 : decode cX5_doDeed 356 = .ok (.iconst 1, 1) := by decide +kernel
theorem dX5_doDeed_357 : decode cX5_doDeed 357 = .ok (.iadd, 1) := by decide +kernel
theorem dX5_doDeed_358 : decode cX5_doDeed 358 = .ok (.invokevirtual 52, 3) := by decide +kernel
theorem dX5_doDeed_361 : decode cX5_doDeed 361 = .ok (.ireturn, 1) := by decide +kernel
theorem dX5_doDeed_362 : decode cX5_doDeed 362 = .ok (.aload_n 0, 1) := by decide +kernel
theorem dX5_doDeed_363 : decode cX5_doDeed 363 = .ok (.aload_n 0, 1) := by decide +kernel
theorem dX5_doDeed_364 : decode cX5_doDeed 364 = .ok (.getfield 12, 3) := by decide +kernel
theorem dX5_doDeed_367 : decode cX5_doDeed 367 = .ok (.getfield 49, 3) := by decide +kernel
theorem dX5_doDeed_370 : decode cX5_doDeed 370 = .ok (.iconst 1, 1) := by decide +kernel
theorem dX5_doDeed_371 : decode cX5_doDeed 371 = .ok (.isub, 1) := by decide +kernel
theorem dX5_doDeed_372 : decode cX5_doDeed 372 = .ok (.invokevirtual 52, 3) := by decide +kernel
theorem dX5_doDeed_375 : decode cX5_doDeed 375 = .ok (.ireturn, 1) := by decide +kernel
theorem dX5_doDeed_376 : decode cX5_doDeed 376 = .ok (.aload_n 0, 1) := by decide +kernel
theorem dX5_doDeed_377 : decode cX5_doDeed 377 = .ok (.invokevirtual 56, 3) := by decide +kernel
theorem dX5_doDeed_380 : decode cX5_doDeed 380 = .ok (.ireturn, 1) := by decide +kernel
theorem dX5_doDeed_381 : decode cX5_doDeed 381 = .ok (.aload_n 0, 1) := by decide +kernel
theorem dX5_doDeed_382 : decode cX5_doDeed 382 = .ok (.invokevirtual 60, 3) := by decide +kernel
theorem dX5_doDeed_385 : decode cX5_doDeed 385 = .ok (.ireturn, 1) := by decide +kernel
theorem dX5_doDeed_386 : decode cX5_doDeed 386 = .ok (.aload_n 0, 1) := by decide +kernel
theorem dX5_doDeed_387 : decode cX5_doDeed 387 = .ok (.invokevirtual 63, 3) := by decide +kernel
theorem dX5_doDeed_390 : decode cX5_doDeed 390 = .ok (.ireturn, 1) := by decide +kernel
theorem dX5_doDeed_391 : decode cX5_doDeed 391 = .ok (.aload_n 0, 1) := by decide +kernel
theorem dX5_doDeed_392 : decode cX5_doDeed 392 = .ok (.invokevirtual 66, 3) := by decide +kernel
theorem dX5_doDeed_395 : decode cX5_doDeed 395 = .ok (.ireturn, 1) := by decide +kernel
theorem dX5_doDeed_396 : decode cX5_doDeed 396 = .ok (.aload_n 0, 1) := by decide +kernel
theorem dX5_doDeed_397 : decode cX5_doDeed 397 = .ok (.invokevirtual 69, 3) := by decide +kernel
theorem dX5_doDeed_400 : decode cX5_doDeed 400 = .ok (.ireturn, 1) := by decide +kernel
theorem dX5_doDeed_401 : decode cX5_doDeed 401 = .ok (.aload_n 0, 1) := by decide +kernel
theorem dX5_doDeed_402 : decode cX5_doDeed 402 = .ok (.invokevirtual 72, 3) := by decide +kernel
theorem dX5_doDeed_405 : decode cX5_doDeed 405 = .ok (.ireturn, 1) := by decide +kernel
theorem dX5_doDeed_406 : decode cX5_doDeed 406 = .ok (.aload_n 0, 1) := by decide +kernel
theorem dX5_doDeed_407 : decode cX5_doDeed 407 = .ok (.invokevirtual 75, 3) := by decide +kernel
theorem dX5_doDeed_410 : decode cX5_doDeed 410 = .ok (.ireturn, 1) := by decide +kernel
theorem dX5_doDeed_411 : decode cX5_doDeed 411 = .ok (.aload_n 0, 1) := by decide +kernel
theorem dX5_doDeed_412 : decode cX5_doDeed 412 = .ok (.invokevirtual 78, 3) := by decide +kernel
theorem dX5_doDeed_415 : decode cX5_doDeed 415 = .ok (.ireturn, 1) := by decide +kernel
theorem dX5_doDeed_416 : decode cX5_doDeed 416 = .ok (.aload_n 0, 1) := by decide +kernel
theorem dX5_doDeed_417 : decode cX5_doDeed 417 = .ok (.invokevirtual 81, 3) := by decide +kernel
theorem dX5_doDeed_420 : decode cX5_doDeed 420 = .ok (.ireturn, 1) := by decide +kernel
theorem dX5_doDeed_421 : decode cX5_doDeed 421 = .ok (.aload_n 0, 1) := by decide +kernel
theorem dX5_doDeed_422 : decode cX5_doDeed 422 = .ok (.invokevirtual 84, 3) := by decide +kernel
theorem dX5_doDeed_425 : decode cX5_doDeed 425 = .ok (.ireturn, 1) := by decide +kernel
theorem dX5_doDeed_426 : decode cX5_doDeed 426 = .ok (.aload_n 0, 1) := by decide +kernel
theorem dX5_doDeed_427 : decode cX5_doDeed 427 = .ok (.invokevirtual 87, 3) := by decide +kernel
theorem dX5_doDeed_430 : decode cX5_doDeed 430 = .ok (.ireturn, 1) := by decide +kernel
theorem dX5_doDeed_431 : decode cX5_doDeed 431 = .ok (.aload_n 0, 1) := by decide +kernel
theorem dX5_doDeed_432 : decode cX5_doDeed 432 = .ok (.invokevirtual 90, 3) := by decide +kernel
theorem dX5_doDeed_435 : decode cX5_doDeed 435 = .ok (.ireturn, 1) := by decide +kernel
theorem dX5_doDeed_436 : decode cX5_doDeed 436 = .ok (.aload_n 0, 1) := by decide +kernel
theorem dX5_doDeed_437 : decode cX5_doDeed 437 = .ok (.invokevirtual 93, 3) := by decide +kernel
theorem dX5_doDeed_440 : decode cX5_doDeed 440 = .ok (.ireturn, 1) := by decide +kernel
theorem dX5_doDeed_441 : decode cX5_doDeed 441 = .ok (.aload_n 0, 1) := by decide +kernel
theorem dX5_doDeed_442 : decode cX5_doDeed 442 = .ok (.iconst 1, 1) := by decide +kernel
theorem dX5_doDeed_443 : decode cX5_doDeed 443 = .ok (.invokevirtual 96, 3) := by decide +kernel
theorem dX5_doDeed_446 : decode cX5_doDeed 446 = .ok (.ireturn, 1) := by decide +kernel
theorem dX5_doDeed_447 : decode cX5_doDeed 447 = .ok (.aload_n 0, 1) := by decide +kernel
theorem dX5_doDeed_448 : decode cX5_doDeed 448 = .ok (.invokevirtual 99, 3) := by decide +kernel
theorem dX5_doDeed_451 : decode cX5_doDeed 451 = .ok (.ireturn, 1) := by decide +kernel
theorem dX5_doDeed_452 : decode cX5_doDeed 452 = .ok (.aload_n 0, 1) := by decide +kernel
theorem dX5_doDeed_453 : decode cX5_doDeed 453 = .ok (.invokevirtual 102, 3) := by decide +kernel
theorem dX5_doDeed_456 : decode cX5_doDeed 456 = .ok (.ireturn, 1) := by decide +kernel
theorem dX5_doDeed_457 : decode cX5_doDeed 457 = .ok (.aload_n 0, 1) := by decide +kernel
theorem dX5_doDeed_458 : decode cX5_doDeed 458 = .ok (.invokevirtual 105, 3) := by decide +kernel
theorem dX5_doDeed_461 : decode cX5_doDeed 461 = .ok (.ireturn, 1) := by decide +kernel
theorem dX5_doDeed_462 : decode cX5_doDeed 462 = .ok (.aload_n 0, 1) := by decide +kernel
theorem dX5_doDeed_463 : decode cX5_doDeed 463 = .ok (.bipush 10, 2) := by decide +kernel
theorem dX5_doDeed_465 : decode cX5_doDeed 465 = .ok (.invokevirtual 108, 3) := by decide +kernel
theorem dX5_doDeed_468 : decode cX5_doDeed 468 = .ok (.ireturn, 1) := by decide +kernel
theorem dX5_doDeed_469 : decode cX5_doDeed 469 = .ok (.aload_n 0, 1) := by decide +kernel
theorem dX5_doDeed_470 : decode cX5_doDeed 470 = .ok (.bipush 32, 2) := by decide +kernel
theorem dX5_doDeed_472 : decode cX5_doDeed 472 = .ok (.invokevirtual 108, 3) := by decide +kernel
theorem dX5_doDeed_475 : decode cX5_doDeed 475 = .ok (.ireturn, 1) := by decide +kernel
theorem dX5_doDeed_476 : decode cX5_doDeed 476 = .ok (.aload_n 0, 1) := by decide +kernel
theorem dX5_doDeed_477 : decode cX5_doDeed 477 = .ok (.iload_n 2, 1) := by decide +kernel
theorem dX5_doDeed_478 : decode cX5_doDeed 478 = .ok (.invokevirtual 108, 3) := by decide +kernel
theorem dX5_doDeed_481 : decode cX5_doDeed 481 = .ok (.ireturn, 1) := by decide +kernel
theorem dX5_doDeed_482 : decode cX5_doDeed 482 = .ok (.iconst (-1), 1) := by decide +kernel
theorem dX5_doDeed_483 : decode cX5_doDeed 483 = .ok (.ireturn, 1) := by decide +kernel
theorem dX5_writeCode_0 : decode cX5_writeCode 0 = .ok (.aload_n 0, 1) := by decide +kernel
theorem dX5_writeCode_1 : decode cX5_writeCode 1 = .ok (.getfield 12, 3) := by decide +kernel
theorem dX5_writeCode_4 : decode cX5_writeCode 4 = .ok (.getfield 111, 3) := by decide +kernel
theorem dX5_writeCode_7 : decode cX5_writeCode 7 = .ok (.invokevirtual 115, 3) := by decide +kernel
theorem dX5_writeCode_10 : decode cX5_writeCode 10 = .ok (.iconst 1, 1) := by decide +kernel
theorem dX5_writeCode_11 : decode cX5_writeCode 11 = .ok (.if_icmp .ge 5, 3) := by decide +kernel
theorem dX5_writeCode_14 : decode cX5_writeCode 14 = .ok (.iconst (-1), 1) := by decide +kernel
theorem dX5_writeCode_15 : decode cX5_writeCode 15 = .ok (.ireturn, 1) := by decide +kernel
theorem dX5_writeCode_16 : decode cX5_writeCode 16 = .ok (.aload_n 0, 1) := by decide +kernel
theorem dX5_writeCode_17 : decode cX5_writeCode 17 = .ok (.getfield 12, 3) := by decide +kernel
theorem dX5_writeCode_20 : decode cX5_writeCode 20 = .ok (.iload_n 1, 1) := by decide +kernel
theorem dX5_writeCode_21 : decode cX5_writeCode 21 = .ok (.invokevirtual 120, 3) := by decide +kernel
theorem dX5_writeCode_24 : decode cX5_writeCode 24 = .ok (.aload_n 0, 1) := by decide +kernel
theorem dX5_writeCode_25 : decode cX5_writeCode 25 = .ok (.getfield 28, 3) := by decide +kernel
theorem dX5_writeCode_28 : decode cX5_writeCode 28 = .ok (.dup, 1) := by decide +kernel
theorem dX5_writeCode_29 : decode cX5_writeCode 29 = .ok (.getfield 123, 3) := by decide +kernel
theorem dX5_writeCode_32 : decode cX5_writeCode 32 = .ok (.iconst 1, 1) := by decide +kernel
theorem dX5_writeCode_33 : decode cX5_writeCode 33 = .ok (.iadd, 1) := by decide +kernel
theorem dX5_writeCode_34 : decode cX5_writeCode 34 = .ok (.putfield 123, 3) := by decide +kernel
theorem dX5_writeCode_37 : decode cX5_writeCode 37 = .ok (.aload_n 0, 1) := by decide +kernel
theorem dX5_writeCode_38 : decode cX5_writeCode 38 = .ok (.iconst 0, 1) := by decide +kernel
theorem dX5_writeCode_39 : decode cX5_writeCode 39 = .ok (.putfield 32, 3) := by decide +kernel
theorem dX5_writeCode_42 : decode cX5_writeCode 42 = .ok (.aload_n 0, 1) := by decide +kernel
theorem dX5_writeCode_43 : decode cX5_writeCode 43 = .ok (.getfield 12, 3) := by decide +kernel
theorem dX5_writeCode_46 : decode cX5_writeCode 46 = .ok (.getfield 111, 3) := by decide +kernel
theorem dX5_writeCode_49 : decode cX5_writeCode 49 = .ok (.invokevirtual 126, 3) := by decide +kernel
theorem dX5_writeCode_52 : decode cX5_writeCode 52 = .ok (.ireturn, 1) := by decide +kernel
theorem dX5_rubOut_0 : decode cX5_rubOut 0 = .ok (.aload_n 0, 1) := by decide +kernel
theorem dX5_rubOut_1 : decode cX5_rubOut 1 = .ok (.getfield 12, 3) := by decide +kernel
theorem dX5_rubOut_4 : decode cX5_rubOut 4 = .ok (.getfield 111, 3) := by decide +kernel
theorem dX5_rubOut_7 : decode cX5_rubOut 7 = .ok (.aload_n 0, 1) := by decide +kernel
theorem dX5_rubOut_8 : decode cX5_rubOut 8 = .ok (.getfield 12, 3) := by decide +kernel
theorem dX5_rubOut_11 : decode cX5_rubOut 11 = .ok (.getfield 49, 3) := by decide +kernel
theorem dX5_rubOut_14 : decode cX5_rubOut 14 = .ok (.iconst 1, 1) := by decide +kernel
theorem dX5_rubOut_15 : decode cX5_rubOut 15 = .ok (.isub, 1) := by decide +kernel
theorem dX5_rubOut_16 : decode cX5_rubOut 16 = .ok (.invokevirtual 129, 3) := by decide +kernel
theorem dX5_rubOut_19 : decode cX5_rubOut 19 = .ok (.istore_n 1, 1) := by decide +kernel
theorem dX5_rubOut_20 : decode cX5_rubOut 20 = .ok (.iload_n 1, 1) := by decide +kernel
theorem dX5_rubOut_21 : decode cX5_rubOut 21 = .ok (.iconst (-1), 1) := by decide +kernel
theorem dX5_rubOut_22 : decode cX5_rubOut 22 = .ok (.if_icmp .ne 5, 3) := by decide +kernel
theorem dX5_rubOut_25 : decode cX5_rubOut 25 = .ok (.iconst (-1), 1) := by decide +kernel
theorem dX5_rubOut_26 : decode cX5_rubOut 26 = .ok (.ireturn, 1) := by decide +kernel
theorem dX5_rubOut_27 : decode cX5_rubOut 27 = .ok (.aload_n 0, 1) := by decide +kernel
theorem dX5_rubOut_28 : decode cX5_rubOut 28 = .ok (.getfield 12, 3) := by decide +kernel
theorem dX5_rubOut_31 : decode cX5_rubOut 31 = .ok (.aload_n 0, 1) := by decide +kernel
theorem dX5_rubOut_32 : decode cX5_rubOut 32 = .ok (.getfield 12, 3) := by decide +kernel
theorem dX5_rubOut_35 : decode cX5_rubOut 35 = .ok (.getfield 49, 3) := by decide +kernel
theorem dX5_rubOut_38 : decode cX5_rubOut 38 = .ok (.iconst 1, 1) := by decide +kernel
theorem dX5_rubOut_39 : decode cX5_rubOut 39 = .ok (.isub, 1) := by decide +kernel
theorem dX5_rubOut_40 : decode cX5_rubOut 40 = .ok (.aload_n 0, 1) := by decide +kernel
theorem dX5_rubOut_41 : decode cX5_rubOut 41 = .ok (.getfield 12, 3) := by decide +kernel
theorem dX5_rubOut_44 : decode cX5_rubOut 44 = .ok (.getfield 49, 3) := by decide +kernel
theorem dX5_rubOut_47 : decode cX5_rubOut 47 = .ok (.invokevirtual 132, 3) := by decide +kernel
theorem dX5_rubOut_50 : decode cX5_rubOut 50 = .ok (.aload_n 0, 1) := by decide +kernel
theorem dX5_rubOut_51 : decode cX5_rubOut 51 = .ok (.getfield 28, 3) := by decide +kernel
theorem dX5_rubOut_54 : decode cX5_rubOut 54 = .ok (.dup, 1) := by decide +kernel
theorem dX5_rubOut_55 : decode cX5_rubOut 55 = .ok (.getfield 136, 3) := by decide +kernel
theorem dX5_rubOut_58 : decode cX5_rubOut 58 = .ok (.iconst 1, 1) := by decide +kernel
theorem dX5_rubOut_59 : decode cX5_rubOut 59 = .ok (.iadd, 1) := by decide +kernel
theorem dX5_rubOut_60 : decode cX5_rubOut 60 = .ok (.putfield 136, 3) := by decide +kernel
theorem dX5_rubOut_63 : decode cX5_rubOut 63 = .ok (.aload_n 0, 1) := by decide +kernel
theorem dX5_rubOut_64 : decode cX5_rubOut 64 = .ok (.iconst 0, 1) := by decide +kernel
theorem dX5_rubOut_65 : decode cX5_rubOut 65 = .ok (.putfield 32, 3) := by decide +kernel
theorem dX5_rubOut_68 : decode cX5_rubOut 68 = .ok (.iload_n 1, 1) := by decide +kernel
theorem dX5_rubOut_69 : decode cX5_rubOut 69 = .ok (.ireturn, 1) := by decide +kernel
theorem dX5_swapBoth_0 : decode cX5_swapBoth 0 = .ok (.aload_n 0, 1) := by decide +kernel
theorem dX5_swapBoth_1 : decode cX5_swapBoth 1 = .ok (.getfield 12, 3) := by decide +kernel
theorem dX5_swapBoth_4 : decode cX5_swapBoth 4 = .ok (.getfield 111, 3) := by decide +kernel
theorem dX5_swapBoth_7 : decode cX5_swapBoth 7 = .ok (.aload_n 0, 1) := by decide +kernel
theorem dX5_swapBoth_8 : decode cX5_swapBoth 8 = .ok (.getfield 12, 3) := by decide +kernel
theorem dX5_swapBoth_11 : decode cX5_swapBoth 11 = .ok (.getfield 49, 3) := by decide +kernel
theorem dX5_swapBoth_14 : decode cX5_swapBoth 14 = .ok (.iconst 1, 1) := by decide +kernel
theorem dX5_swapBoth_15 : decode cX5_swapBoth 15 = .ok (.isub, 1) := by decide +kernel
theorem dX5_swapBoth_16 : decode cX5_swapBoth 16 = .ok (.invokevirtual 129, 3) := by decide +kernel
theorem dX5_swapBoth_19 : decode cX5_swapBoth 19 = .ok (.istore_n 1, 1) := by decide +kernel
theorem dX5_swapBoth_20 : decode cX5_swapBoth 20 = .ok (.aload_n 0, 1) := by decide +kernel
theorem dX5_swapBoth_21 : decode cX5_swapBoth 21 = .ok (.getfield 12, 3) := by decide +kernel
theorem dX5_swapBoth_24 : decode cX5_swapBoth 24 = .ok (.getfield 111, 3) := by decide +kernel
theorem dX5_swapBoth_27 : decode cX5_swapBoth 27 = .ok (.aload_n 0, 1) := by decide +kernel
theorem dX5_swapBoth_28 : decode cX5_swapBoth 28 = .ok (.getfield 12, 3) := by decide +kernel
theorem dX5_swapBoth_31 : decode cX5_swapBoth 31 = .ok (.getfield 49, 3) := by decide +kernel
theorem dX5_swapBoth_34 : decode cX5_swapBoth 34 = .ok (.invokevirtual 129, 3) := by decide +kernel
theorem dX5_swapBoth_37 : decode cX5_swapBoth 37 = .ok (.istore_n 2, 1) := by decide +kernel
theorem dX5_swapBoth_38 : decode cX5_swapBoth 38 = .ok (.iload_n 1, 1) := by decide +kernel
theorem dX5_swapBoth_39 : decode cX5_swapBoth 39 = .ok (.iconst (-1), 1) := by decide +kernel
theorem dX5_swapBoth_40 : decode cX5_swapBoth 40 = .ok (.if_icmp .eq 8, 3) := by decide +kernel
theorem dX5_swapBoth_43 : decode cX5_swapBoth 43 = .ok (.iload_n 2, 1) := by decide +kernel
theorem dX5_swapBoth_44 : decode cX5_swapBoth 44 = .ok (.iconst (-1), 1) := by decide +kernel
theorem dX5_swapBoth_45 : decode cX5_swapBoth 45 = .ok (.if_icmp .ne 5, 3) := by decide +kernel
theorem dX5_swapBoth_48 : decode cX5_swapBoth 48 = .ok (.iconst (-1), 1) := by decide +kernel
theorem dX5_swapBoth_49 : decode cX5_swapBoth 49 = .ok (.ireturn, 1) := by decide +kernel
theorem dX5_swapBoth_50 : decode cX5_swapBoth 50 = .ok (.aload_n 0, 1) := by decide +kernel
theorem dX5_swapBoth_51 : decode cX5_swapBoth 51 = .ok (.getfield 12, 3) := by decide +kernel
theorem dX5_swapBoth_54 : decode cX5_swapBoth 54 = .ok (.getfield 111, 3) := by decide +kernel
theorem dX5_swapBoth_57 : decode cX5_swapBoth 57 = .ok (.aload_n 0, 1) := by decide +kernel
theorem dX5_swapBoth_58 : decode cX5_swapBoth 58 = .ok (.getfield 12, 3) := by decide +kernel
theorem dX5_swapBoth_61 : decode cX5_swapBoth 61 = .ok (.getfield 49, 3) := by decide +kernel
theorem dX5_swapBoth_64 : decode cX5_swapBoth 64 = .ok (.iconst 1, 1) := by decide +kernel
theorem dX5_swapBoth_65 : decode cX5_swapBoth 65 = .ok (.isub, 1) := by decide +kernel
theorem dX5_swapBoth_66 : decode cX5_swapBoth 66 = .ok (.iload_n 2, 1) := by decide +kernel
theorem dX5_swapBoth_67 : decode cX5_swapBoth 67 = .ok (.invokevirtual 139, 3) := by decide +kernel
theorem dX5_swapBoth_70 : decode cX5_swapBoth 70 = .ok (.aload_n 0, 1) := by decide +kernel
theorem dX5_swapBoth_71 : decode cX5_swapBoth 71 = .ok (.getfield 12, 3) := by decide +kernel
theorem dX5_swapBoth_74 : decode cX5_swapBoth 74 = .ok (.getfield 111, 3) := by decide +kernel
theorem dX5_swapBoth_77 : decode cX5_swapBoth 77 = .ok (.aload_n 0, 1) := by decide +kernel
theorem dX5_swapBoth_78 : decode cX5_swapBoth 78 = .ok (.getfield 12, 3) := by decide +kernel
theorem dX5_swapBoth_81 : decode cX5_swapBoth 81 = .ok (.getfield 49, 3) := by decide +kernel
theorem dX5_swapBoth_84 : decode cX5_swapBoth 84 = .ok (.iload_n 1, 1) := by decide +kernel
theorem dX5_swapBoth_85 : decode cX5_swapBoth 85 = .ok (.invokevirtual 139, 3) := by decide +kernel
theorem dX5_swapBoth_88 : decode cX5_swapBoth 88 = .ok (.aload_n 0, 1) := by decide +kernel
theorem dX5_swapBoth_89 : decode cX5_swapBoth 89 = .ok (.getfield 12, 3) := by decide +kernel
theorem dX5_swapBoth_92 : decode cX5_swapBoth 92 = .ok (.dup, 1) := by decide +kernel
theorem dX5_swapBoth_93 : decode cX5_swapBoth 93 = .ok (.getfield 49, 3) := by decide +kernel
theorem dX5_swapBoth_96 : decode cX5_swapBoth 96 = .ok (.iconst 1, 1) := by decide +kernel
theorem dX5_swapBoth_97 : decode cX5_swapBoth 97 = .ok (.iadd, 1) := by decide +kernel
theorem dX5_swapBoth_98 : decode cX5_swapBoth 98 = .ok (.putfield 49, 3) := by decide +kernel
theorem dX5_swapBoth_101 : decode cX5_swapBoth 101 = .ok (.aload_n 0, 1) := by decide +kernel
theorem dX5_swapBoth_102 : decode cX5_swapBoth 102 = .ok (.iconst 0, 1) := by decide +kernel
theorem dX5_swapBoth_103 : decode cX5_swapBoth 103 = .ok (.putfield 32, 3) := by decide +kernel
theorem dX5_swapBoth_106 : decode cX5_swapBoth 106 = .ok (.iload_n 1, 1) := by decide +kernel
theorem dX5_swapBoth_107 : decode cX5_swapBoth 107 = .ok (.ireturn, 1) := by decide +kernel
theorem dX5_makeGreat_0 : decode cX5_makeGreat 0 = .ok (.aload_n 0, 1) := by decide +kernel
theorem dX5_makeGreat_1 : decode cX5_makeGreat 1 = .ok (.getfield 12, 3) := by decide +kernel
theorem dX5_makeGreat_4 : decode cX5_makeGreat 4 = .ok (.aload_n 0, 1) := by decide +kernel
theorem dX5_makeGreat_5 : decode cX5_makeGreat 5 = .ok (.getfield 12, 3) := by decide +kernel
theorem dX5_makeGreat_8 : decode cX5_makeGreat 8 = .ok (.getfield 49, 3) := by decide +kernel
theorem dX5_makeGreat_11 : decode cX5_makeGreat 11 = .ok (.invokevirtual 142, 3) := by decide +kernel
theorem dX5_makeGreat_14 : decode cX5_makeGreat 14 = .ok (.istore_n 1, 1) := by decide +kernel
theorem dX5_makeGreat_15 : decode cX5_makeGreat 15 = .ok (.iconst 0, 1) := by decide +kernel
theorem dX5_makeGreat_16 : decode cX5_makeGreat 16 = .ok (.istore_n 2, 1) := by decide +kernel
theorem dX5_makeGreat_17 : decode cX5_makeGreat 17 = .ok (.aload_n 0, 1) := by decide +kernel
theorem dX5_makeGreat_18 : decode cX5_makeGreat 18 = .ok (.getfield 12, 3) := by decide +kernel
theorem dX5_makeGreat_21 : decode cX5_makeGreat 21 = .ok (.getfield 49, 3) := by decide +kernel
theorem dX5_makeGreat_24 : decode cX5_makeGreat 24 = .ok (.istore_n 3, 1) := by decide +kernel
theorem dX5_makeGreat_25 : decode cX5_makeGreat 25 = .ok (.iload_n 3, 1) := by decide +kernel
theorem dX5_makeGreat_26 : decode cX5_makeGreat 26 = .ok (.iload_n 1, 1) := by decide +kernel
theorem dX5_makeGreat_27 : decode cX5_makeGreat 27 = .ok (.if_icmp .ge 48, 3) := by decide +kernel
theorem dX5_makeGreat_30 : decode cX5_makeGreat 30 = .ok (.aload_n 0, 1) := by decide +kernel
theorem dX5_makeGreat_31 : decode cX5_makeGreat 31 = .ok (.getfield 12, 3) := by decide +kernel
theorem dX5_makeGreat_34 : decode cX5_makeGreat 34 = .ok (.iload_n 3, 1) := by decide +kernel
theorem dX5_makeGreat_35 : decode cX5_makeGreat 35 = .ok (.invokevirtual 145, 3) := by decide +kernel
theorem dX5_makeGreat_38 : decode cX5_makeGreat 38 = .ok (.ifCond .eq 31, 3) := by decide +kernel
theorem dX5_makeGreat_41 : decode cX5_makeGreat 41 = .ok (.aload_n 0, 1) := by decide +kernel
theorem dX5_makeGreat_42 : decode cX5_makeGreat 42 = .ok (.getfield 12, 3) := by decide +kernel
theorem dX5_makeGreat_45 : decode cX5_makeGreat 45 = .ok (.getfield 111, 3) := by decide +kernel
theorem dX5_makeGreat_48 : decode cX5_makeGreat 48 = .ok (.iload_n 3, 1) := by decide +kernel
theorem dX5_makeGreat_49 : decode cX5_makeGreat 49 = .ok (.aload_n 0, 1) := by decide +kernel
theorem dX5_makeGreat_50 : decode cX5_makeGreat 50 = .ok (.getfield 12, 3) := by decide +kernel
theorem dX5_makeGreat_53 : decode cX5_makeGreat 53 = .ok (.getfield 111, 3) := by decide +kernel
theorem dX5_makeGreat_56 : decode cX5_makeGreat 56 = .ok (.iload_n 3, 1) := by decide +kernel
theorem dX5_makeGreat_57 : decode cX5_makeGreat 57 = .ok (.invokevirtual 129, 3) := by decide +kernel
theorem dX5_makeGreat_60 : decode cX5_makeGreat 60 = .ok (.bipush (-32), 2) := by decide +kernel
theorem dX5_makeGreat_62 : decode cX5_makeGreat 62 = .ok (.iadd, 1) := by decide +kernel
theorem dX5_makeGreat_63 : decode cX5_makeGreat 63 = .ok (.invokevirtual 139, 3) := by decide +kernel
theorem dX5_makeGreat_66 : decode cX5_makeGreat 66 = .ok (.iinc 2 1, 3) := by decide +kernel
theorem dX5_makeGreat_69 : decode cX5_makeGreat 69 = .ok (.iinc 3 1, 3) := by decide +kernel
theorem dX5_makeGreat_72 : decode cX5_makeGreat 72 = .ok (.goto (-47), 3) := by decide +kernel
theorem dX5_makeGreat_75 : decode cX5_makeGreat 75 = .ok (.aload_n 0, 1) := by decide +kernel
theorem dX5_makeGreat_76 : decode cX5_makeGreat 76 = .ok (.getfield 12, 3) := by decide +kernel
theorem dX5_makeGreat_79 : decode cX5_makeGreat 79 = .ok (.iload_n 1, 1) := by decide +kernel
theorem dX5_makeGreat_80 : decode cX5_makeGreat 80 = .ok (.putfield 49, 3) := by decide +kernel
theorem dX5_makeGreat_83 : decode cX5_makeGreat 83 = .ok (.aload_n 0, 1) := by decide +kernel
theorem dX5_makeGreat_84 : decode cX5_makeGreat 84 = .ok (.iconst 0, 1) := by decide +kernel
theorem dX5_makeGreat_85 : decode cX5_makeGreat 85 = .ok (.putfield 32, 3) := by decide +kernel
theorem dX5_makeGreat_88 : decode cX5_makeGreat 88 = .ok (.iload_n 2, 1) := by decide +kernel
theorem dX5_makeGreat_89 : decode cX5_makeGreat 89 = .ok (.ireturn, 1) := by decide +kernel
theorem dX5_goPlace_0 : decode cX5_goPlace 0 = .ok (.iload_n 1, 1) := by decide +kernel
theorem dX5_goPlace_1 : decode cX5_goPlace 1 = .ok (.ifCond .lt 17, 3) := by decide +kernel
theorem dX5_goPlace_4 : decode cX5_goPlace 4 = .ok (.iload_n 1, 1) := by decide +kernel
theorem dX5_goPlace_5 : decode cX5_goPlace 5 = .ok (.aload_n 0, 1) := by decide +kernel
theorem dX5_goPlace_6 : decode cX5_goPlace 6 = .ok (.getfield 12, 3) := by decide +kernel
theorem dX5_goPlace_9 : decode cX5_goPlace 9 = .ok (.getfield 111, 3) := by decide +kernel
theorem dX5_goPlace_12 : decode cX5_goPlace 12 = .ok (.invokevirtual 126, 3) := by decide +kernel
theorem dX5_goPlace_15 : decode cX5_goPlace 15 = .ok (.if_icmp .le 5, 3) := by decide +kernel
theorem dX5_goPlace_18 : decode cX5_goPlace 18 = .ok (.iconst (-1), 1) := by decide +kernel
theorem dX5_goPlace_19 : decode cX5_goPlace 19 = .ok (.ireturn, 1) := by decide +kernel
theorem dX5_goPlace_20 : decode cX5_goPlace 20 = .ok (.aload_n 0, 1) := by decide +kernel
theorem dX5_goPlace_21 : decode cX5_goPlace 21 = .ok (.getfield 12, 3) := by decide +kernel
theorem dX5_goPlace_24 : decode cX5_goPlace 24 = .ok (.getfield 49, 3) := by decide +kernel
theorem dX5_goPlace_27 : decode cX5_goPlace 27 = .ok (.istore_n 2, 1) := by decide +kernel
theorem dX5_goPlace_28 : decode cX5_goPlace 28 = .ok (.aload_n 0, 1) := by decide +kernel
theorem dX5_goPlace_29 : decode cX5_goPlace 29 = .ok (.getfield 12, 3) := by decide +kernel
theorem dX5_goPlace_32 : decode cX5_goPlace 32 = .ok (.iload_n 1, 1) := by decide +kernel
theorem dX5_goPlace_33 : decode cX5_goPlace 33 = .ok (.putfield 49, 3) := by decide +kernel
theorem dX5_goPlace_36 : decode cX5_goPlace 36 = .ok (.aload_n 0, 1) := by decide +kernel
theorem dX5_goPlace_37 : decode cX5_goPlace 37 = .ok (.iconst 0, 1) := by decide +kernel
theorem dX5_goPlace_38 : decode cX5_goPlace 38 = .ok (.putfield 32, 3) := by decide +kernel
theorem dX5_goPlace_41 : decode cX5_goPlace 41 = .ok (.iload_n 2, 1) := by decide +kernel
theorem dX5_goPlace_42 : decode cX5_goPlace 42 = .ok (.ireturn, 1) := by decide +kernel
theorem dX5_goAsFarAs_0 : decode cX5_goAsFarAs 0 = .ok (.iload_n 1, 1) := by decide +kernel
theorem dX5_goAsFarAs_1 : decode cX5_goAsFarAs 1 = .ok (.aload_n 0, 1) := by decide +kernel
theorem dX5_goAsFarAs_2 : decode cX5_goAsFarAs 2 = .ok (.iload_n 1, 1) := by decide +kernel
theorem dX5_goAsFarAs_3 : decode cX5_goAsFarAs 3 = .ok (.invokevirtual 52, 3) := by decide +kernel
theorem dX5_goAsFarAs_6 : decode cX5_goAsFarAs 6 = .ok (.isub, 1) := by decide +kernel
theorem dX5_goAsFarAs_7 : decode cX5_goAsFarAs 7 = .ok (.invokestatic 149, 3) := by decide +kernel
theorem dX5_goAsFarAs_10 : decode cX5_goAsFarAs 10 = .ok (.ireturn, 1) := by decide +kernel
theorem dX5_goWordOn_0 : decode cX5_goWordOn 0 = .ok (.aload_n 0, 1) := by decide +kernel
theorem dX5_goWordOn_1 : decode cX5_goWordOn 1 = .ok (.aload_n 0, 1) := by decide +kernel
theorem dX5_goWordOn_2 : decode cX5_goWordOn 2 = .ok (.getfield 12, 3) := by decide +kernel
theorem dX5_goWordOn_5 : decode cX5_goWordOn 5 = .ok (.aload_n 0, 1) := by decide +kernel
theorem dX5_goWordOn_6 : decode cX5_goWordOn 6 = .ok (.getfield 12, 3) := by decide +kernel
theorem dX5_goWordOn_9 : decode cX5_goWordOn 9 = .ok (.getfield 49, 3) := by decide +kernel
theorem dX5_goWordOn_12 : decode cX5_goWordOn 12 = .ok (.invokevirtual 142, 3) := by decide +kernel
theorem dX5_goWordOn_15 : decode cX5_goWordOn 15 = .ok (.invokevirtual 154, 3) := by decide +kernel
theorem dX5_goWordOn_18 : decode cX5_goWordOn 18 = .ok (.ireturn, 1) := by decide +kernel
theorem dX5_goWordBack_0 : decode cX5_goWordBack 0 = .ok (.aload_n 0, 1) := by decide +kernel
theorem dX5_goWordBack_1 : decode cX5_goWordBack 1 = .ok (.aload_n 0, 1) := by decide +kernel
theorem dX5_goWordBack_2 : decode cX5_goWordBack 2 = .ok (.getfield 12, 3) := by decide +kernel
theorem dX5_goWordBack_5 : decode cX5_goWordBack 5 = .ok (.aload_n 0, 1) := by decide +kernel
theorem dX5_goWordBack_6 : decode cX5_goWordBack 6 = .ok (.getfield 12, 3) := by decide +kernel
theorem dX5_goWordBack_9 : decode cX5_goWordBack 9 = .ok (.getfield 49, 3) := by decide +kernel
theorem dX5_goWordBack_12 : decode cX5_goWordBack 12 = .ok (.invokevirtual 157, 3) := by decide +kernel
theorem dX5_goWordBack_15 : decode cX5_goWordBack 15 = .ok (.invokevirtual 154, 3) := by decide +kernel
theorem dX5_goWordBack_18 : decode cX5_goWordBack 18 = .ok (.ireturn, 1) := by decide +kernel
theorem dX5_goLineStart_0 : decode cX5_goLineStart 0 = .ok (.aload_n 0, 1) := by decide +kernel
theorem dX5_goLineStart_1 : decode cX5_goLineStart 1 = .ok (.aload_n 0, 1) := by decide +kernel
theorem dX5_goLineStart_2 : decode cX5_goLineStart 2 = .ok (.getfield 12, 3) := by decide +kernel
theorem dX5_goLineStart_5 : decode cX5_goLineStart 5 = .ok (.aload_n 0, 1) := by decide +kernel
theorem dX5_goLineStart_6 : decode cX5_goLineStart 6 = .ok (.getfield 12, 3) := by decide +kernel
theorem dX5_goLineStart_9 : decode cX5_goLineStart 9 = .ok (.getfield 49, 3) := by decide +kernel
theorem dX5_goLineStart_12 : decode cX5_goLineStart 12 = .ok (.invokevirtual 160, 3) := by decide +kernel
theorem dX5_goLineStart_15 : decode cX5_goLineStart 15 = .ok (.invokevirtual 154, 3) := by decide +kernel
theorem dX5_goLineStart_18 : decode cX5_goLineStart 18 = .ok (.ireturn, 1) := by decide +kernel
theorem dX5_goLineStop_0 : decode cX5_goLineStop 0 = .ok (.aload_n 0, 1) := by decide +kernel
theorem dX5_goLineStop_1 : decode cX5_goLineStop 1 = .ok (.aload_n 0, 1) := by decide +kernel
theorem dX5_goLineStop_2 : decode cX5_goLineStop 2 = .ok (.getfield 12, 3) := by decide +kernel
theorem dX5_goLineStop_5 : decode cX5_goLineStop 5 = .ok (.aload_n 0, 1) := by decide +kernel
theorem dX5_goLineStop_6 : decode cX5_goLineStop 6 = .ok (.getfield 12, 3) := by decide +kernel
theorem dX5_goLineStop_9 : decode cX5_goLineStop 9 = .ok (.getfield 49, 3) := by decide +kernel
theorem dX5_goLineStop_12 : decode cX5_goLineStop 12 = .ok (.invokevirtual 163, 3) := by decide +kernel
theorem dX5_goLineStop_15 : decode cX5_goLineStop 15 = .ok (.invokevirtual 154, 3) := by decide +kernel
theorem dX5_goLineStop_18 : decode cX5_goLineStop 18 = .ok (.ireturn, 1) := by decide +kernel
theorem dX5_goUpOrDown_0 : decode cX5_goUpOrDown 0 = .ok (.aload_n 0, 1) := by decide +kernel
theorem dX5_goUpOrDown_1 : decode cX5_goUpOrDown 1 = .ok (.getfield 12, 3) := by decide +kernel
theorem dX5_goUpOrDown_4 : decode cX5_goUpOrDown 4 = .ok (.aload_n 0, 1) := by decide +kernel
theorem dX5_goUpOrDown_5 : decode cX5_goUpOrDown 5 = .ok (.getfield 12, 3) := by decide +kernel
theorem dX5_goUpOrDown_8 : decode cX5_goUpOrDown 8 = .ok (.getfield 49, 3) := by decide +kernel
theorem dX5_goUpOrDown_11 : decode cX5_goUpOrDown 11 = .ok (.iload_n 1, 1) := by decide +kernel
theorem dX5_goUpOrDown_12 : decode cX5_goUpOrDown 12 = .ok (.invokevirtual 166, 3) := by decide +kernel
theorem dX5_goUpOrDown_15 : decode cX5_goUpOrDown 15 = .ok (.istore_n 2, 1) := by decide +kernel
theorem dX5_goUpOrDown_16 : decode cX5_goUpOrDown 16 = .ok (.iload_n 2, 1) := by decide +kernel
theorem dX5_goUpOrDown_17 : decode cX5_goUpOrDown 17 = .ok (.iconst (-1), 1) := by decide +kernel
theorem dX5_goUpOrDown_18 : decode cX5_goUpOrDown 18 = .ok (.if_icmp .ne 5, 3) := by decide +kernel
theorem dX5_goUpOrDown_21 : decode cX5_goUpOrDown 21 = .ok (.iconst (-1), 1) := by decide +kernel
theorem dX5_goUpOrDown_22 : decode cX5_goUpOrDown 22 = .ok (.ireturn, 1) := by decide +kernel
theorem dX5_goUpOrDown_23 : decode cX5_goUpOrDown 23 = .ok (.aload_n 0, 1) := by decide +kernel
theorem dX5_goUpOrDown_24 : decode cX5_goUpOrDown 24 = .ok (.getfield 12, 3) := by decide +kernel
theorem dX5_goUpOrDown_27 : decode cX5_goUpOrDown 27 = .ok (.getfield 49, 3) := by decide +kernel
theorem dX5_goUpOrDown_30 : decode cX5_goUpOrDown 30 = .ok (.aload_n 0, 1) := by decide +kernel
theorem dX5_goUpOrDown_31 : decode cX5_goUpOrDown 31 = .ok (.getfield 12, 3) := by decide +kernel
theorem dX5_goUpOrDown_34 : decode cX5_goUpOrDown 34 = .ok (.aload_n 0, 1) := by decide +kernel
theorem dX5_goUpOrDown_35 : decode cX5_goUpOrDown 35 = .ok (.getfield 12, 3) := by decide +kernel
theorem dX5_goUpOrDown_38 : decode cX5_goUpOrDown 38 = .ok (.getfield 49, 3) := by decide +kernel
theorem dX5_goUpOrDown_41 : decode cX5_goUpOrDown 41 = .ok (.invokevirtual 160, 3) := by decide +kernel
theorem dX5_goUpOrDown_44 : decode cX5_goUpOrDown 44 = .ok (.isub, 1) := by decide +kernel
theorem dX5_goUpOrDown_45 : decode cX5_goUpOrDown 45 = .ok (.istore_n 3, 1) := by decide +kernel
theorem dX5_goUpOrDown_46 : decode cX5_goUpOrDown 46 = .ok (.aload_n 0, 1) := by decide +kernel
theorem dX5_goUpOrDown_47 : decode cX5_goUpOrDown 47 = .ok (.iload_n 2, 1) := by decide +kernel
theorem dX5_goUpOrDown_48 : decode cX5_goUpOrDown 48 = .ok (.iload_n 3, 1) := by decide +kernel
theorem dX5_goUpOrDown_49 : decode cX5_goUpOrDown 49 = .ok (.iadd, 1) := by decide +kernel
theorem dX5_goUpOrDown_50 : decode cX5_goUpOrDown 50 = .ok (.aload_n 0, 1) := by decide +kernel
theorem dX5_goUpOrDown_51 : decode cX5_goUpOrDown 51 = .ok (.getfield 12, 3) := by decide +kernel
theorem dX5_goUpOrDown_54 : decode cX5_goUpOrDown 54 = .ok (.iload_n 2, 1) := by decide +kernel
theorem dX5_goUpOrDown_55 : decode cX5_goUpOrDown 55 = .ok (.invokevirtual 163, 3) := by decide +kernel
theorem dX5_goUpOrDown_58 : decode cX5_goUpOrDown 58 = .ok (.invokestatic 170, 3) := by decide +kernel
theorem dX5_goUpOrDown_61 : decode cX5_goUpOrDown 61 = .ok (.invokevirtual 52, 3) := by decide +kernel
theorem dX5_goUpOrDown_64 : decode cX5_goUpOrDown 64 = .ok (.pop, 1) := by decide +kernel
theorem dX5_goUpOrDown_65 : decode cX5_goUpOrDown 65 = .ok (.aload_n 0, 1) := by decide +kernel
theorem dX5_goUpOrDown_66 : decode cX5_goUpOrDown 66 = .ok (.getfield 12, 3) := by decide +kernel
theorem dX5_goUpOrDown_69 : decode cX5_goUpOrDown 69 = .ok (.getfield 49, 3) := by decide +kernel
theorem dX5_goUpOrDown_72 : decode cX5_goUpOrDown 72 = .ok (.ireturn, 1) := by decide +kernel
theorem dX5_setMark_0 : decode cX5_setMark 0 = .ok (.aload_n 0, 1) := by decide +kernel
theorem dX5_setMark_1 : decode cX5_setMark 1 = .ok (.getfield 12, 3) := by decide +kernel
theorem dX5_setMark_4 : decode cX5_setMark 4 = .ok (.aload_n 0, 1) := by decide +kernel
theorem dX5_setMark_5 : decode cX5_setMark 5 = .ok (.getfield 12, 3) := by decide +kernel
theorem dX5_setMark_8 : decode cX5_setMark 8 = .ok (.getfield 49, 3) := by decide +kernel
theorem dX5_setMark_11 : decode cX5_setMark 11 = .ok (.putfield 173, 3) := by decide +kernel
theorem dX5_setMark_14 : decode cX5_setMark 14 = .ok (.aload_n 0, 1) := by decide +kernel
theorem dX5_setMark_15 : decode cX5_setMark 15 = .ok (.iconst 0, 1) := by decide +kernel
theorem dX5_setMark_16 : decode cX5_setMark 16 = .ok (.putfield 32, 3) := by decide +kernel
theorem dX5_setMark_19 : decode cX5_setMark 19 = .ok (.aload_n 0, 1) := by decide +kernel
theorem dX5_setMark_20 : decode cX5_setMark 20 = .ok (.getfield 12, 3) := by decide +kernel
theorem dX5_setMark_23 : decode cX5_setMark 23 = .ok (.getfield 173, 3) := by decide +kernel
theorem dX5_setMark_26 : decode cX5_setMark 26 = .ok (.ireturn, 1) := by decide +kernel
theorem dX5_exchangeBoth_0 : decode cX5_exchangeBoth 0 = .ok (.aload_n 0, 1) := by decide +kernel
theorem dX5_exchangeBoth_1 : decode cX5_exchangeBoth 1 = .ok (.getfield 12, 3) := by decide +kernel
theorem dX5_exchangeBoth_4 : decode cX5_exchangeBoth 4 = .ok (.getfield 173, 3) := by decide +kernel
theorem dX5_exchangeBoth_7 : decode cX5_exchangeBoth 7 = .ok (.iconst (-1), 1) := by decide +kernel
theorem dX5_exchangeBoth_8 : decode cX5_exchangeBoth 8 = .ok (.if_icmp .ne 5, 3) := by decide +kernel
theorem dX5_exchangeBoth_11 : decode cX5_exchangeBoth 11 = .ok (.iconst (-1), 1) := by decide +kernel
theorem dX5_exchangeBoth_12 : decode cX5_exchangeBoth 12 = .ok (.ireturn, 1) := by decide +kernel
theorem dX5_exchangeBoth_13 : decode cX5_exchangeBoth 13 = .ok (.aload_n 0, 1) := by decide +kernel
theorem dX5_exchangeBoth_14 : decode cX5_exchangeBoth 14 = .ok (.getfield 12, 3) := by decide +kernel
theorem dX5_exchangeBoth_17 : decode cX5_exchangeBoth 17 = .ok (.getfield 173, 3) := by decide +kernel
theorem dX5_exchangeBoth_20 : decode cX5_exchangeBoth 20 = .ok (.istore_n 1, 1) := by decide +kernel
theorem dX5_exchangeBoth_21 : decode cX5_exchangeBoth 21 = .ok (.aload_n 0, 1) := by decide +kernel
theorem dX5_exchangeBoth_22 : decode cX5_exchangeBoth 22 = .ok (.getfield 12, 3) := by decide +kernel
theorem dX5_exchangeBoth_25 : decode cX5_exchangeBoth 25 = .ok (.aload_n 0, 1) := by decide +kernel
theorem dX5_exchangeBoth_26 : decode cX5_exchangeBoth 26 = .ok (.getfield 12, 3) := by decide +kernel
theorem dX5_exchangeBoth_29 : decode cX5_exchangeBoth 29 = .ok (.getfield 49, 3) := by decide +kernel
theorem dX5_exchangeBoth_32 : decode cX5_exchangeBoth 32 = .ok (.putfield 173, 3) := by decide +kernel
theorem dX5_exchangeBoth_35 : decode cX5_exchangeBoth 35 = .ok (.aload_n 0, 1) := by decide +kernel
theorem dX5_exchangeBoth_36 : decode cX5_exchangeBoth 36 = .ok (.getfield 12, 3) := by decide +kernel
theorem dX5_exchangeBoth_39 : decode cX5_exchangeBoth 39 = .ok (.iload_n 1, 1) := by decide +kernel
theorem dX5_exchangeBoth_40 : decode cX5_exchangeBoth 40 = .ok (.putfield 49, 3) := by decide +kernel
theorem dX5_exchangeBoth_43 : decode cX5_exchangeBoth 43 = .ok (.aload_n 0, 1) := by decide +kernel
theorem dX5_exchangeBoth_44 : decode cX5_exchangeBoth 44 = .ok (.iconst 0, 1) := by decide +kernel
theorem dX5_exchangeBoth_45 : decode cX5_exchangeBoth 45 = .ok (.putfield 32, 3) := by decide +kernel
theorem dX5_exchangeBoth_48 : decode cX5_exchangeBoth 48 = .ok (.iload_n 1, 1) := by decide +kernel
theorem dX5_exchangeBoth_49 : decode cX5_exchangeBoth 49 = .ok (.ireturn, 1) := by decide +kernel
theorem dX5_goToText_0 : decode cX5_goToText 0 = .ok (.aload_n 0, 1) := by decide +kernel
theorem dX5_goToText_1 : decode cX5_goToText 1 = .ok (.getfield 12, 3) := by decide +kernel
theorem dX5_goToText_4 : decode cX5_goToText 4 = .ok (.aload_n 1, 1) := by decide +kernel
theorem dX5_goToText_5 : decode cX5_goToText 5 = .ok (.invokevirtual 176, 3) := by decide +kernel
theorem dX5_goToText_8 : decode cX5_goToText 8 = .ok (.istore_n 2, 1) := by decide +kernel
theorem dX5_goToText_9 : decode cX5_goToText 9 = .ok (.iload_n 2, 1) := by decide +kernel
theorem dX5_goToText_10 : decode cX5_goToText 10 = .ok (.iconst (-1), 1) := by decide +kernel
theorem dX5_goToText_11 : decode cX5_goToText 11 = .ok (.if_icmp .ne 5, 3) := by decide +kernel
theorem dX5_goToText_14 : decode cX5_goToText 14 = .ok (.iconst (-1), 1) := by decide +kernel
theorem dX5_goToText_15 : decode cX5_goToText 15 = .ok (.ireturn, 1) := by decide +kernel
theorem dX5_goToText_16 : decode cX5_goToText 16 = .ok (.aload_n 0, 1) := by decide +kernel
theorem dX5_goToText_17 : decode cX5_goToText 17 = .ok (.iload_n 2, 1) := by decide +kernel
theorem dX5_goToText_18 : decode cX5_goToText 18 = .ok (.invokevirtual 52, 3) := by decide +kernel
theorem dX5_goToText_21 : decode cX5_goToText 21 = .ok (.pop, 1) := by decide +kernel
theorem dX5_goToText_22 : decode cX5_goToText 22 = .ok (.iload_n 2, 1) := by decide +kernel
theorem dX5_goToText_23 : decode cX5_goToText 23 = .ok (.ireturn, 1) := by decide +kernel
theorem dX5_killWordOn_0 : decode cX5_killWordOn 0 = .ok (.aload_n 0, 1) := by decide +kernel
theorem dX5_killWordOn_1 : decode cX5_killWordOn 1 = .ok (.aload_n 0, 1) := by decide +kernel
theorem dX5_killWordOn_2 : decode cX5_killWordOn 2 = .ok (.getfield 12, 3) := by decide +kernel
theorem dX5_killWordOn_5 : decode cX5_killWordOn 5 = .ok (.getfield 49, 3) := by decide +kernel
theorem dX5_killWordOn_8 : decode cX5_killWordOn 8 = .ok (.aload_n 0, 1) := by decide +kernel
theorem dX5_killWordOn_9 : decode cX5_killWordOn 9 = .ok (.getfield 12, 3) := by decide +kernel
theorem dX5_killWordOn_12 : decode cX5_killWordOn 12 = .ok (.aload_n 0, 1) := by decide +kernel
theorem dX5_killWordOn_13 : decode cX5_killWordOn 13 = .ok (.getfield 12, 3) := by decide +kernel
theorem dX5_killWordOn_16 : decode cX5_killWordOn 16 = .ok (.getfield 49, 3) := by decide +kernel
theorem dX5_killWordOn_19 : decode cX5_killWordOn 19 = .ok (.invokevirtual 142, 3) := by decide +kernel
theorem dX5_killWordOn_22 : decode cX5_killWordOn 22 = .ok (.iconst 0, 1) := by decide +kernel
theorem dX5_killWordOn_23 : decode cX5_killWordOn 23 = .ok (.invokevirtual 180, 3) := by decide +kernel
theorem dX5_killWordOn_26 : decode cX5_killWordOn 26 = .ok (.ireturn, 1) := by decide +kernel
theorem dX5_killWordBack_0 : decode cX5_killWordBack 0 = .ok (.aload_n 0, 1) := by decide +kernel
theorem dX5_killWordBack_1 : decode cX5_killWordBack 1 = .ok (.aload_n 0, 1) := by decide +kernel
theorem dX5_killWordBack_2 : decode cX5_killWordBack 2 = .ok (.getfield 12, 3) := by decide +kernel
theorem dX5_killWordBack_5 : decode cX5_killWordBack 5 = .ok (.aload_n 0, 1) := by decide +kernel
theorem dX5_killWordBack_6 : decode cX5_killWordBack 6 = .ok (.getfield 12, 3) := by decide +kernel
theorem dX5_killWordBack_9 : decode cX5_killWordBack 9 = .ok (.getfield 49, 3) := by decide +kernel
theorem dX5_killWordBack_12 : decode cX5_killWordBack 12 = .ok (.invokevirtual 157, 3) := by decide +kernel
theorem dX5_killWordBack_15 : decode cX5_killWordBack 15 = .ok (.aload_n 0, 1) := by decide +kernel
theorem dX5_killWordBack_16 : decode cX5_killWordBack 16 = .ok (.getfield 12, 3) := by decide +kernel
theorem dX5_killWordBack_19 : decode cX5_killWordBack 19 = .ok (.getfield 49, 3) := by decide +kernel
theorem dX5_killWordBack_22 : decode cX5_killWordBack 22 = .ok (.iconst 1, 1) := by decide +kernel
theorem dX5_killWordBack_23 : decode cX5_killWordBack 23 = .ok (.invokevirtual 180, 3) := by decide +kernel
theorem dX5_killWordBack_26 : decode cX5_killWordBack 26 = .ok (.ireturn, 1) := by decide +kernel
theorem dX5_killLineOn_0 : decode cX5_killLineOn 0 = .ok (.aload_n 0, 1) := by decide +kernel
theorem dX5_killLineOn_1 : decode cX5_killLineOn 1 = .ok (.getfield 12, 3) := by decide +kernel
theorem dX5_killLineOn_4 : decode cX5_killLineOn 4 = .ok (.aload_n 0, 1) := by decide +kernel
theorem dX5_killLineOn_5 : decode cX5_killLineOn 5 = .ok (.getfield 12, 3) := by decide +kernel
theorem dX5_killLineOn_8 : decode cX5_killLineOn 8 = .ok (.getfield 49, 3) := by decide +kernel
theorem dX5_killLineOn_11 : decode cX5_killLineOn 11 = .ok (.invokevirtual 163, 3) := by decide +kernel
theorem dX5_killLineOn_14 : decode cX5_killLineOn 14 = .ok (.istore_n 1, 1) := by decide +kernel
theorem dX5_killLineOn_15 : decode cX5_killLineOn 15 = .ok (.iload_n 1, 1) := by decide +kernel
theorem dX5_killLineOn_16 : decode cX5_killLineOn 16 = .ok (.aload_n 0, 1) := by decide +kernel
theorem dX5_killLineOn_17 : decode cX5_killLineOn 17 = .ok (.getfield 12, 3) := by decide +kernel
theorem dX5_killLineOn_20 : decode cX5_killLineOn 20 = .ok (.getfield 49, 3) := by decide +kernel
theorem dX5_killLineOn_23 : decode cX5_killLineOn 23 = .ok (.if_icmp .ne 18, 3) := by decide +kernel
theorem dX5_killLineOn_26 : decode cX5_killLineOn 26 = .ok (.aload_n 0, 1) := by decide +kernel
theorem dX5_killLineOn_27 : decode cX5_killLineOn 27 = .ok (.getfield 12, 3) := by decide +kernel
theorem dX5_killLineOn_30 : decode cX5_killLineOn 30 = .ok (.iload_n 1, 1) := by decide +kernel
theorem dX5_killLineOn_31 : decode cX5_killLineOn 31 = .ok (.invokevirtual 184, 3) := by decide +kernel
theorem dX5_killLineOn_34 : decode cX5_killLineOn 34 = .ok (.ifCond .eq 7, 3) := by decide +kernel
theorem dX5_killLineOn_37 : decode cX5_killLineOn 37 = .ok (.iconst 1, 1) := by decide +kernel
theorem dX5_killLineOn_38 : decode cX5_killLineOn 38 = .ok (.goto 4, 3) := by decide +kernel
theorem dX5_killLineOn_41 : decode cX5_killLineOn 41 = .ok (.iconst 0, 1) := by decide +kernel
theorem dX5_killLineOn_42 : decode cX5_killLineOn 42 = .ok (.istore_n 2, 1) := by decide +kernel
theorem dX5_killLineOn_43 : decode cX5_killLineOn 43 = .ok (.aload_n 0, 1) := by decide +kernel
theorem dX5_killLineOn_44 : decode cX5_killLineOn 44 = .ok (.aload_n 0, 1) := by decide +kernel
theorem dX5_killLineOn_45 : decode cX5_killLineOn 45 = .ok (.getfield 12, 3) := by decide +kernel
theorem dX5_killLineOn_48 : decode cX5_killLineOn 48 = .ok (.getfield 49, 3) := by decide +kernel
theorem dX5_killLineOn_51 : decode cX5_killLineOn 51 = .ok (.iload_n 2, 1) := by decide +kernel
theorem dX5_killLineOn_52 : decode cX5_killLineOn 52 = .ok (.ifCond .eq 9, 3) := by decide +kernel
theorem dX5_killLineOn_55 : decode cX5_killLineOn 55 = .ok (.iload_n 1, 1) := by decide +kernel
theorem dX5_killLineOn_56 : decode cX5_killLineOn 56 = .ok (.iconst 1, 1) := by decide +kernel
theorem dX5_killLineOn_57 : decode cX5_killLineOn 57 = .ok (.iadd, 1) := by decide +kernel
theorem dX5_killLineOn_58 : decode cX5_killLineOn 58 = .ok (.goto 4, 3) := by decide +kernel
theorem dX5_killLineOn_61 : decode cX5_killLineOn 61 = .ok (.iload_n 1, 1) := by decide +kernel
theorem dX5_killLineOn_62 : decode cX5_killLineOn 62 = .ok (.iconst 0, 1) := by decide +kernel
theorem dX5_killLineOn_63 : decode cX5_killLineOn 63 = .ok (.invokevirtual 180, 3) := by decide +kernel
theorem dX5_killLineOn_66 : decode cX5_killLineOn 66 = .ok (.ireturn, 1) := by decide +kernel
theorem dX5_killToMark_0 : decode cX5_killToMark 0 = .ok (.aload_n 0, 1) := by decide +kernel
theorem dX5_killToMark_1 : decode cX5_killToMark 1 = .ok (.getfield 12, 3) := by decide +kernel
theorem dX5_killToMark_4 : decode cX5_killToMark 4 = .ok (.getfield 173, 3) := by decide +kernel
theorem dX5_killToMark_7 : decode cX5_killToMark 7 = .ok (.iconst (-1), 1) := by decide +kernel
theorem dX5_killToMark_8 : decode cX5_killToMark 8 = .ok (.if_icmp .ne 5, 3) := by decide +kernel
theorem dX5_killToMark_11 : decode cX5_killToMark 11 = .ok (.iconst (-1), 1) := by decide +kernel
theorem dX5_killToMark_12 : decode cX5_killToMark 12 = .ok (.ireturn, 1) := by decide +kernel
theorem dX5_killToMark_13 : decode cX5_killToMark 13 = .ok (.aload_n 0, 1) := by decide +kernel
theorem dX5_killToMark_14 : decode cX5_killToMark 14 = .ok (.getfield 12, 3) := by decide +kernel
theorem dX5_killToMark_17 : decode cX5_killToMark 17 = .ok (.getfield 173, 3) := by decide +kernel
theorem dX5_killToMark_20 : decode cX5_killToMark 20 = .ok (.aload_n 0, 1) := by decide +kernel
theorem dX5_killToMark_21 : decode cX5_killToMark 21 = .ok (.getfield 12, 3) := by decide +kernel
theorem dX5_killToMark_24 : decode cX5_killToMark 24 = .ok (.getfield 49, 3) := by decide +kernel
theorem dX5_killToMark_27 : decode cX5_killToMark 27 = .ok (.invokestatic 170, 3) := by decide +kernel
theorem dX5_killToMark_30 : decode cX5_killToMark 30 = .ok (.istore_n 1, 1) := by decide +kernel
theorem dX5_killToMark_31 : decode cX5_killToMark 31 = .ok (.aload_n 0, 1) := by decide +kernel
theorem dX5_killToMark_32 : decode cX5_killToMark 32 = .ok (.getfield 12, 3) := by decide +kernel
theorem dX5_killToMark_35 : decode cX5_killToMark 35 = .ok (.getfield 173, 3) := by decide +kernel
theorem dX5_killToMark_38 : decode cX5_killToMark 38 = .ok (.aload_n 0, 1) := by decide +kernel
theorem dX5_killToMark_39 : decode cX5_killToMark 39 = .ok (.getfield 12, 3) := by decide +kernel
theorem dX5_killToMark_42 : decode cX5_killToMark 42 = .ok (.getfield 49, 3) := by decide +kernel
theorem dX5_killToMark_45 : decode cX5_killToMark 45 = .ok (.invokestatic 187, 3) := by decide +kernel
theorem dX5_killToMark_48 : decode cX5_killToMark 48 = .ok (.istore_n 2, 1) := by decide +kernel
theorem dX5_killToMark_49 : decode cX5_killToMark 49 = .ok (.aload_n 0, 1) := by decide +kernel
theorem dX5_killToMark_50 : decode cX5_killToMark 50 = .ok (.iload_n 1, 1) := by decide +kernel
theorem dX5_killToMark_51 : decode cX5_killToMark 51 = .ok (.iload_n 2, 1) := by decide +kernel
theorem dX5_killToMark_52 : decode cX5_killToMark 52 = .ok (.aload_n 0, 1) := by decide +kernel
theorem dX5_killToMark_53 : decode cX5_killToMark 53 = .ok (.getfield 12, 3) := by decide +kernel
theorem dX5_killToMark_56 : decode cX5_killToMark 56 = .ok (.getfield 173, 3) := by decide +kernel
theorem dX5_killToMark_59 : decode cX5_killToMark 59 = .ok (.aload_n 0, 1) := by decide +kernel
theorem dX5_killToMark_60 : decode cX5_killToMark 60 = .ok (.getfield 12, 3) := by decide +kernel
theorem dX5_killToMark_63 : decode cX5_killToMark 63 = .ok (.getfield 49, 3) := by decide +kernel
theorem dX5_killToMark_66 : decode cX5_killToMark 66 = .ok (.if_icmp .ge 7, 3) := by decide +kernel
theorem dX5_killToMark_69 : decode cX5_killToMark 69 = .ok (.iconst 1, 1) := by decide +kernel
theorem dX5_killToMark_70 : decode cX5_killToMark 70 = .ok (.goto 4, 3) := by decide +kernel
theorem dX5_killToMark_73 : decode cX5_killToMark 73 = .ok (.iconst 0, 1) := by decide +kernel
theorem dX5_killToMark_74 : decode cX5_killToMark 74 = .ok (.invokevirtual 180, 3) := by decide +kernel
theorem dX5_killToMark_77 : decode cX5_killToMark 77 = .ok (.ireturn, 1) := by decide +kernel
theorem dX5_kill_0 : decode cX5_kill 0 = .ok (.iload_n 1, 1) := by decide +kernel
theorem dX5_kill_1 : decode cX5_kill 1 = .ok (.iload_n 2, 1) := by decide +kernel
theorem dX5_kill_2 : decode cX5_kill 2 = .ok (.if_icmp .lt 5, 3) := by decide +kernel
theorem dX5_kill_5 : decode cX5_kill 5 = .ok (.iconst (-1), 1) := by decide +kernel
theorem dX5_kill_6 : decode cX5_kill 6 = .ok (.ireturn, 1) := by decide +kernel
theorem dX5_kill_7 : decode cX5_kill 7 = .ok (.aload_n 0, 1) := by decide +kernel
theorem dX5_kill_8 : decode cX5_kill 8 = .ok (.getfield 32, 3) := by decide +kernel
theorem dX5_kill_11 : decode cX5_kill 11 = .ok (.iconst 1, 1) := by decide +kernel
theorem dX5_kill_12 : decode cX5_kill 12 = .ok (.if_icmp .ne 23, 3) := by decide +kernel
theorem dX5_kill_15 : decode cX5_kill 15 = .ok (.aload_n 0, 1) := by decide +kernel
theorem dX5_kill_16 : decode cX5_kill 16 = .ok (.getfield 21, 3) := by decide +kernel
theorem dX5_kill_19 : decode cX5_kill 19 = .ok (.aload_n 0, 1) := by decide +kernel
theorem dX5_kill_20 : decode cX5_kill 20 = .ok (.getfield 12, 3) := by decide +kernel
theorem dX5_kill_23 : decode cX5_kill 23 = .ok (.getfield 111, 3) := by decide +kernel
theorem dX5_kill_26 : decode cX5_kill 26 = .ok (.iload_n 1, 1) := by decide +kernel
theorem dX5_kill_27 : decode cX5_kill 27 = .ok (.iload_n 2, 1) := by decide +kernel
theorem dX5_kill_28 : decode cX5_kill 28 = .ok (.iload_n 3, 1) := by decide +kernel
theorem dX5_kill_29 : decode cX5_kill 29 = .ok (.invokevirtual 190, 3) := by decide +kernel
theorem dX5_kill_32 : decode cX5_kill 32 = .ok (.goto 31, 3) := by decide +kernel
theorem dX5_kill_35 : decode cX5_kill 35 = .ok (.aload_n 0, 1) := by decide +kernel
theorem dX5_kill_36 : decode cX5_kill 36 = .ok (.getfield 28, 3) := by decide +kernel
theorem dX5_kill_39 : decode cX5_kill 39 = .ok (.dup, 1) := by decide +kernel
theorem dX5_kill_40 : decode cX5_kill 40 = .ok (.getfield 194, 3) := by decide +kernel
theorem dX5_kill_43 : decode cX5_kill 43 = .ok (.aload_n 0, 1) := by decide +kernel
theorem dX5_kill_44 : decode cX5_kill 44 = .ok (.getfield 21, 3) := by decide +kernel
theorem dX5_kill_47 : decode cX5_kill 47 = .ok (.aload_n 0, 1) := by decide +kernel
theorem dX5_kill_48 : decode cX5_kill 48 = .ok (.getfield 12, 3) := by decide +kernel
theorem dX5_kill_51 : decode cX5_kill 51 = .ok (.getfield 111, 3) := by decide +kernel
theorem dX5_kill_54 : decode cX5_kill 54 = .ok (.iload_n 1, 1) := by decide +kernel
theorem dX5_kill_55 : decode cX5_kill 55 = .ok (.iload_n 2, 1) := by decide +kernel
theorem dX5_kill_56 : decode cX5_kill 56 = .ok (.invokevirtual 197, 3) := by decide +kernel
theorem dX5_kill_59 : decode cX5_kill 59 = .ok (.iadd, 1) := by decide +kernel
theorem dX5_kill_60 : decode cX5_kill 60 = .ok (.putfield 194, 3) := by decide +kernel
theorem dX5_kill_63 : decode cX5_kill 63 = .ok (.aload_n 0, 1) := by decide +kernel
theorem dX5_kill_64 : decode cX5_kill 64 = .ok (.getfield 12, 3) := by decide +kernel
theorem dX5_kill_67 : decode cX5_kill 67 = .ok (.iload_n 1, 1) := by decide +kernel
theorem dX5_kill_68 : decode cX5_kill 68 = .ok (.iload_n 2, 1) := by decide +kernel
theorem dX5_kill_69 : decode cX5_kill 69 = .ok (.invokevirtual 132, 3) := by decide +kernel
theorem dX5_kill_72 : decode cX5_kill 72 = .ok (.aload_n 0, 1) := by decide +kernel
theorem dX5_kill_73 : decode cX5_kill 73 = .ok (.getfield 28, 3) := by decide +kernel
theorem dX5_kill_76 : decode cX5_kill 76 = .ok (.dup, 1) := by decide +kernel
theorem dX5_kill_77 : decode cX5_kill 77 = .ok (.getfield 201, 3) := by decide +kernel
theorem dX5_kill_80 : decode cX5_kill 80 = .ok (.iload_n 2, 1) := by decide +kernel
theorem dX5_kill_81 : decode cX5_kill 81 = .ok (.iload_n 1, 1) := by decide +kernel
theorem dX5_kill_82 : decode cX5_kill 82 = .ok (.isub, 1) := by decide +kernel
theorem dX5_kill_83 : decode cX5_kill 83 = .ok (.iadd, 1) := by decide +kernel
theorem dX5_kill_84 : decode cX5_kill 84 = .ok (.putfield 201, 3) := by decide +kernel
theorem dX5_kill_87 : decode cX5_kill 87 = .ok (.aload_n 0, 1) := by decide +kernel
theorem dX5_kill_88 : decode cX5_kill 88 = .ok (.iconst 1, 1) := by decide +kernel
theorem dX5_kill_89 : decode cX5_kill 89 = .ok (.putfield 32, 3) := by decide +kernel
theorem dX5_kill_92 : decode cX5_kill 92 = .ok (.iload_n 2, 1) := by decide +kernel
theorem dX5_kill_93 : decode cX5_kill 93 = .ok (.iload_n 1, 1) := by decide +kernel
theorem dX5_kill_94 : decode cX5_kill 94 = .ok (.isub, 1) := by decide +kernel
theorem dX5_kill_95 : decode cX5_kill 95 = .ok (.ireturn, 1) := by decide +kernel
theorem dX5_copyToMark_0 : decode cX5_copyToMark 0 = .ok (.aload_n 0, 1) := by decide +kernel
theorem dX5_copyToMark_1 : decode cX5_copyToMark 1 = .ok (.getfield 12, 3) := by decide +kernel
theorem dX5_copyToMark_4 : decode cX5_copyToMark 4 = .ok (.invokevirtual 204, 3) := by decide +kernel
theorem dX5_copyToMark_7 : decode cX5_copyToMark 7 = .ok (.istore_n 1, 1) := by decide +kernel
theorem dX5_copyToMark_8 : decode cX5_copyToMark 8 = .ok (.iload_n 1, 1) := by decide +kernel
theorem dX5_copyToMark_9 : decode cX5_copyToMark 9 = .ok (.iconst 1, 1) := by decide +kernel
theorem dX5_copyToMark_10 : decode cX5_copyToMark 10 = .ok (.if_icmp .ge 5, 3) := by decide +kernel
theorem dX5_copyToMark_13 : decode cX5_copyToMark 13 = .ok (.iconst (-1), 1) := by decide +kernel
theorem dX5_copyToMark_14 : decode cX5_copyToMark 14 = .ok (.ireturn, 1) := by decide +kernel
theorem dX5_copyToMark_15 : decode cX5_copyToMark 15 = .ok (.aload_n 0, 1) := by decide +kernel
theorem dX5_copyToMark_16 : decode cX5_copyToMark 16 = .ok (.getfield 12, 3) := by decide +kernel
theorem dX5_copyToMark_19 : decode cX5_copyToMark 19 = .ok (.getfield 173, 3) := by decide +kernel
theorem dX5_copyToMark_22 : decode cX5_copyToMark 22 = .ok (.aload_n 0, 1) := by decide +kernel
theorem dX5_copyToMark_23 : decode cX5_copyToMark 23 = .ok (.getfield 12, 3) := by decide +kernel
theorem dX5_copyToMark_26 : decode cX5_copyToMark 26 = .ok (.getfield 49, 3) := by decide +kernel
theorem dX5_copyToMark_29 : decode cX5_copyToMark 29 = .ok (.invokestatic 170, 3) := by decide +kernel
theorem dX5_copyToMark_32 : decode cX5_copyToMark 32 = .ok (.istore_n 2, 1) := by decide +kernel
theorem dX5_copyToMark_33 : decode cX5_copyToMark 33 = .ok (.aload_n 0, 1) := by decide +kernel
theorem dX5_copyToMark_34 : decode cX5_copyToMark 34 = .ok (.getfield 28, 3) := by decide +kernel
theorem dX5_copyToMark_37 : decode cX5_copyToMark 37 = .ok (.dup, 1) := by decide +kernel
theorem dX5_copyToMark_38 : decode cX5_copyToMark 38 = .ok (.getfield 194, 3) := by decide +kernel
theorem dX5_copyToMark_41 : decode cX5_copyToMark 41 = .ok (.aload_n 0, 1) := by decide +kernel
theorem dX5_copyToMark_42 : decode cX5_copyToMark 42 = .ok (.getfield 21, 3) := by decide +kernel
theorem dX5_copyToMark_45 : decode cX5_copyToMark 45 = .ok (.aload_n 0, 1) := by decide +kernel
theorem dX5_copyToMark_46 : decode cX5_copyToMark 46 = .ok (.getfield 12, 3) := by decide +kernel
theorem dX5_copyToMark_49 : decode cX5_copyToMark 49 = .ok (.getfield 111, 3) := by decide +kernel
theorem dX5_copyToMark_52 : decode cX5_copyToMark 52 = .ok (.iload_n 2, 1) := by decide +kernel
theorem dX5_copyToMark_53 : decode cX5_copyToMark 53 = .ok (.iload_n 2, 1) := by decide +kernel
theorem dX5_copyToMark_54 : decode cX5_copyToMark 54 = .ok (.iload_n 1, 1) := by decide +kernel
theorem dX5_copyToMark_55 : decode cX5_copyToMark 55 = .ok (.iadd, 1) := by decide +kernel
theorem dX5_copyToMark_56 : decode cX5_copyToMark 56 = .ok (.invokevirtual 197, 3) := by decide +kernel
theorem dX5_copyToMark_59 : decode cX5_copyToMark 59 = .ok (.iadd, 1) := by decide +kernel
theorem dX5_copyToMark_60 : decode cX5_copyToMark 60 = .ok (.putfield 194, 3) := by decide +kernel
theorem dX5_copyToMark_63 : decode cX5_copyToMark 63 = .ok (.aload_n 0, 1) := by decide +kernel
theorem dX5_copyToMark_64 : decode cX5_copyToMark 64 = .ok (.iconst 0, 1) := by decide +kernel
theorem dX5_copyToMark_65 : decode cX5_copyToMark 65 = .ok (.putfield 32, 3) := by decide +kernel
theorem dX5_copyToMark_68 : decode cX5_copyToMark 68 = .ok (.iload_n 1, 1) := by decide +kernel
theorem dX5_copyToMark_69 : decode cX5_copyToMark 69 = .ok (.ireturn, 1) := by decide +kernel
theorem dX5_yankNext_0 : decode cX5_yankNext 0 = .ok (.aload_n 0, 1) := by decide +kernel
theorem dX5_yankNext_1 : decode cX5_yankNext 1 = .ok (.getfield 21, 3) := by decide +kernel
theorem dX5_yankNext_4 : decode cX5_yankNext 4 = .ok (.aload_n 0, 1) := by decide +kernel
theorem dX5_yankNext_5 : decode cX5_yankNext 5 = .ok (.getfield 21, 3) := by decide +kernel
theorem dX5_yankNext_8 : decode cX5_yankNext 8 = .ok (.getfield 207, 3) := by decide +kernel
theorem dX5_yankNext_11 : decode cX5_yankNext 11 = .ok (.invokevirtual 210, 3) := by decide +kernel
theorem dX5_yankNext_14 : decode cX5_yankNext 14 = .ok (.astore_n 1, 1) := by decide +kernel
theorem dX5_yankNext_15 : decode cX5_yankNext 15 = .ok (.aload_n 0, 1) := by decide +kernel
theorem dX5_yankNext_16 : decode cX5_yankNext 16 = .ok (.getfield 21, 3) := by decide +kernel
theorem dX5_yankNext_19 : decode cX5_yankNext 19 = .ok (.getfield 214, 3) := by decide +kernel
theorem dX5_yankNext_22 : decode cX5_yankNext 22 = .ok (.iconst 1, 1) := by decide +kernel
theorem dX5_yankNext_23 : decode cX5_yankNext 23 = .ok (.if_icmp .lt 20, 3) := by decide +kernel
theorem dX5_yankNext_26 : decode cX5_yankNext 26 = .ok (.aload_n 1, 1) := by decide +kernel
theorem dX5_yankNext_27 : decode cX5_yankNext 27 = .ok (.invokevirtual 126, 3) := by decide +kernel
theorem dX5_yankNext_30 : decode cX5_yankNext 30 = .ok (.aload_n 0, 1) := by decide +kernel
theorem dX5_yankNext_31 : decode cX5_yankNext 31 = .ok (.getfield 12, 3) := by decide +kernel
theorem dX5_yankNext_34 : decode cX5_yankNext 34 = .ok (.getfield 111, 3) := by decide +kernel
theorem dX5_yankNext_37 : decode cX5_yankNext 37 = .ok (.invokevirtual 115, 3) := by decide +kernel
theorem dX5_yankNext_40 : decode cX5_yankNext 40 = .ok (.if_icmp .le 5, 3) := by decide +kernel
theorem dX5_yankNext_43 : decode cX5_yankNext 43 = .ok (.iconst (-1), 1) := by decide +kernel
theorem dX5_yankNext_44 : decode cX5_yankNext 44 = .ok (.ireturn, 1) := by decide +kernel
theorem dX5_yankNext_45 : decode cX5_yankNext 45 = .ok (.aload_n 0, 1) := by decide +kernel
theorem dX5_yankNext_46 : decode cX5_yankNext 46 = .ok (.aload_n 1, 1) := by decide +kernel
theorem dX5_yankNext_47 : decode cX5_yankNext 47 = .ok (.invokevirtual 216, 3) := by decide +kernel
theorem dX5_yankNext_50 : decode cX5_yankNext 50 = .ok (.ireturn, 1) := by decide +kernel
theorem dX5_writeHoard_0 : decode cX5_writeHoard 0 = .ok (.aload_n 0, 1) := by decide +kernel
theorem dX5_writeHoard_1 : decode cX5_writeHoard 1 = .ok (.getfield 12, 3) := by decide +kernel
theorem dX5_writeHoard_4 : decode cX5_writeHoard 4 = .ok (.aload_n 0, 1) := by decide +kernel
theorem dX5_writeHoard_5 : decode cX5_writeHoard 5 = .ok (.getfield 12, 3) := by decide +kernel
theorem dX5_writeHoard_8 : decode cX5_writeHoard 8 = .ok (.getfield 49, 3) := by decide +kernel
theorem dX5_writeHoard_11 : decode cX5_writeHoard 11 = .ok (.putfield 173, 3) := by decide +kernel
theorem dX5_writeHoard_14 : decode cX5_writeHoard 14 = .ok (.aload_n 0, 1) := by decide +kernel
theorem dX5_writeHoard_15 : decode cX5_writeHoard 15 = .ok (.getfield 12, 3) := by decide +kernel
theorem dX5_writeHoard_18 : decode cX5_writeHoard 18 = .ok (.aload_n 1, 1) := by decide +kernel
theorem dX5_writeHoard_19 : decode cX5_writeHoard 19 = .ok (.invokevirtual 219, 3) := by decide +kernel
theorem dX5_writeHoard_22 : decode cX5_writeHoard 22 = .ok (.aload_n 0, 1) := by decide +kernel
theorem dX5_writeHoard_23 : decode cX5_writeHoard 23 = .ok (.getfield 28, 3) := by decide +kernel
theorem dX5_writeHoard_26 : decode cX5_writeHoard 26 = .ok (.dup, 1) := by decide +kernel
theorem dX5_writeHoard_27 : decode cX5_writeHoard 27 = .ok (.getfield 223, 3) := by decide +kernel
theorem dX5_writeHoard_30 : decode cX5_writeHoard 30 = .ok (.aload_n 1, 1) := by decide +kernel
theorem dX5_writeHoard_31 : decode cX5_writeHoard 31 = .ok (.invokevirtual 126, 3) := by decide +kernel
theorem dX5_writeHoard_34 : decode cX5_writeHoard 34 = .ok (.iadd, 1) := by decide +kernel
theorem dX5_writeHoard_35 : decode cX5_writeHoard 35 = .ok (.putfield 223, 3) := by decide +kernel
theorem dX5_writeHoard_38 : decode cX5_writeHoard 38 = .ok (.aload_n 0, 1) := by decide +kernel
theorem dX5_writeHoard_39 : decode cX5_writeHoard 39 = .ok (.iconst 2, 1) := by decide +kernel
theorem dX5_writeHoard_40 : decode cX5_writeHoard 40 = .ok (.putfield 32, 3) := by decide +kernel
theorem dX5_writeHoard_43 : decode cX5_writeHoard 43 = .ok (.aload_n 1, 1) := by decide +kernel
theorem dX5_writeHoard_44 : decode cX5_writeHoard 44 = .ok (.invokevirtual 126, 3) := by decide +kernel
theorem dX5_writeHoard_47 : decode cX5_writeHoard 47 = .ok (.ireturn, 1) := by decide +kernel
theorem dX5_yankOlder_0 : decode cX5_yankOlder 0 = .ok (.aload_n 0, 1) := by decide +kernel
theorem dX5_yankOlder_1 : decode cX5_yankOlder 1 = .ok (.getfield 32, 3) := by decide +kernel
theorem dX5_yankOlder_4 : decode cX5_yankOlder 4 = .ok (.iconst 2, 1) := by decide +kernel
theorem dX5_yankOlder_5 : decode cX5_yankOlder 5 = .ok (.if_icmp .eq 5, 3) := by decide +kernel
theorem dX5_yankOlder_8 : decode cX5_yankOlder 8 = .ok (.iconst (-1), 1) := by decide +kernel
theorem dX5_yankOlder_9 : decode cX5_yankOlder 9 = .ok (.ireturn, 1) := by decide +kernel
theorem dX5_yankOlder_10 : decode cX5_yankOlder 10 = .ok (.aload_n 0, 1) := by decide +kernel
theorem dX5_yankOlder_11 : decode cX5_yankOlder 11 = .ok (.getfield 12, 3) := by decide +kernel
theorem dX5_yankOlder_14 : decode cX5_yankOlder 14 = .ok (.invokevirtual 204, 3) := by decide +kernel
theorem dX5_yankOlder_17 : decode cX5_yankOlder 17 = .ok (.istore_n 1, 1) := by decide +kernel
theorem dX5_yankOlder_18 : decode cX5_yankOlder 18 = .ok (.aload_n 0, 1) := by decide +kernel
theorem dX5_yankOlder_19 : decode cX5_yankOlder 19 = .ok (.getfield 21, 3) := by decide +kernel
theorem dX5_yankOlder_22 : decode cX5_yankOlder 22 = .ok (.iconst 1, 1) := by decide +kernel
theorem dX5_yankOlder_23 : decode cX5_yankOlder 23 = .ok (.invokevirtual 226, 3) := by decide +kernel
theorem dX5_yankOlder_26 : decode cX5_yankOlder 26 = .ok (.istore_n 2, 1) := by decide +kernel
theorem dX5_yankOlder_27 : decode cX5_yankOlder 27 = .ok (.aload_n 0, 1) := by decide +kernel
theorem dX5_yankOlder_28 : decode cX5_yankOlder 28 = .ok (.getfield 21, 3) := by decide +kernel
theorem dX5_yankOlder_31 : decode cX5_yankOlder 31 = .ok (.iload_n 2, 1) := by decide +kernel
theorem dX5_yankOlder_32 : decode cX5_yankOlder 32 = .ok (.invokevirtual 210, 3) := by decide +kernel
theorem dX5_yankOlder_35 : decode cX5_yankOlder 35 = .ok (.invokevirtual 126, 3) := by decide +kernel
theorem dX5_yankOlder_38 : decode cX5_yankOlder 38 = .ok (.aload_n 0, 1) := by decide +kernel
theorem dX5_yankOlder_39 : decode cX5_yankOlder 39 = .ok (.getfield 12, 3) := by decide +kernel
theorem dX5_yankOlder_42 : decode cX5_yankOlder 42 = .ok (.getfield 111, 3) := by decide +kernel
theorem dX5_yankOlder_45 : decode cX5_yankOlder 45 = .ok (.invokevirtual 115, 3) := by decide +kernel
theorem dX5_yankOlder_48 : decode cX5_yankOlder 48 = .ok (.iload_n 1, 1) := by decide +kernel
theorem dX5_yankOlder_49 : decode cX5_yankOlder 49 = .ok (.iadd, 1) := by decide +kernel
theorem dX5_yankOlder_50 : decode cX5_yankOlder 50 = .ok (.if_icmp .le 5, 3) := by decide +kernel
theorem dX5_yankOlder_53 : decode cX5_yankOlder 53 = .ok (.iconst (-1), 1) := by decide +kernel
theorem dX5_yankOlder_54 : decode cX5_yankOlder 54 = .ok (.ireturn, 1) := by decide +kernel
theorem dX5_yankOlder_55 : decode cX5_yankOlder 55 = .ok (.aload_n 0, 1) := by decide +kernel
theorem dX5_yankOlder_56 : decode cX5_yankOlder 56 = .ok (.getfield 12, 3) := by decide +kernel
theorem dX5_yankOlder_59 : decode cX5_yankOlder 59 = .ok (.aload_n 0, 1) := by decide +kernel
theorem dX5_yankOlder_60 : decode cX5_yankOlder 60 = .ok (.getfield 12, 3) := by decide +kernel
theorem dX5_yankOlder_63 : decode cX5_yankOlder 63 = .ok (.getfield 173, 3) := by decide +kernel
theorem dX5_yankOlder_66 : decode cX5_yankOlder 66 = .ok (.aload_n 0, 1) := by decide +kernel
theorem dX5_yankOlder_67 : decode cX5_yankOlder 67 = .ok (.getfield 12, 3) := by decide +kernel
theorem dX5_yankOlder_70 : decode cX5_yankOlder 70 = .ok (.getfield 49, 3) := by decide +kernel
theorem dX5_yankOlder_73 : decode cX5_yankOlder 73 = .ok (.invokevirtual 132, 3) := by decide +kernel
theorem dX5_yankOlder_76 : decode cX5_yankOlder 76 = .ok (.aload_n 0, 1) := by decide +kernel
theorem dX5_yankOlder_77 : decode cX5_yankOlder 77 = .ok (.getfield 28, 3) := by decide +kernel
theorem dX5_yankOlder_80 : decode cX5_yankOlder 80 = .ok (.dup, 1) := by decide +kernel
theorem dX5_yankOlder_81 : decode cX5_yankOlder 81 = .ok (.getfield 229, 3) := by decide +kernel
theorem dX5_yankOlder_84 : decode cX5_yankOlder 84 = .ok (.iload_n 1, 1) := by decide +kernel
theorem dX5_yankOlder_85 : decode cX5_yankOlder 85 = .ok (.iadd, 1) := by decide +kernel
theorem dX5_yankOlder_86 : decode cX5_yankOlder 86 = .ok (.putfield 229, 3) := by decide +kernel
theorem dX5_yankOlder_89 : decode cX5_yankOlder 89 = .ok (.aload_n 0, 1) := by decide +kernel
theorem dX5_yankOlder_90 : decode cX5_yankOlder 90 = .ok (.getfield 21, 3) := by decide +kernel
theorem dX5_yankOlder_93 : decode cX5_yankOlder 93 = .ok (.iload_n 2, 1) := by decide +kernel
theorem dX5_yankOlder_94 : decode cX5_yankOlder 94 = .ok (.putfield 207, 3) := by decide +kernel
theorem dX5_yankOlder_97 : decode cX5_yankOlder 97 = .ok (.aload_n 0, 1) := by decide +kernel
theorem dX5_yankOlder_98 : decode cX5_yankOlder 98 = .ok (.aload_n 0, 1) := by decide +kernel
theorem dX5_yankOlder_99 : decode cX5_yankOlder 99 = .ok (.getfield 21, 3) := by decide +kernel
theorem dX5_yankOlder_102 : decode cX5_yankOlder 102 = .ok (.iload_n 2, 1) := by decide +kernel
theorem dX5_yankOlder_103 : decode cX5_yankOlder 103 = .ok (.invokevirtual 210, 3) := by decide +kernel
theorem dX5_yankOlder_106 : decode cX5_yankOlder 106 = .ok (.invokevirtual 216, 3) := by decide +kernel
theorem dX5_yankOlder_109 : decode cX5_yankOlder 109 = .ok (.ireturn, 1) := by decide +kernel
theorem dX5_turnRing_0 : decode cX5_turnRing 0 = .ok (.aload_n 0, 1) := by decide +kernel
theorem dX5_turnRing_1 : decode cX5_turnRing 1 = .ok (.getfield 21, 3) := by decide +kernel
theorem dX5_turnRing_4 : decode cX5_turnRing 4 = .ok (.iload_n 1, 1) := by decide +kernel
theorem dX5_turnRing_5 : decode cX5_turnRing 5 = .ok (.invokevirtual 226, 3) := by decide +kernel
theorem dX5_turnRing_8 : decode cX5_turnRing 8 = .ok (.istore_n 2, 1) := by decide +kernel
theorem dX5_turnRing_9 : decode cX5_turnRing 9 = .ok (.iload_n 2, 1) := by decide +kernel
theorem dX5_turnRing_10 : decode cX5_turnRing 10 = .ok (.iconst (-1), 1) := by decide +kernel
theorem dX5_turnRing_11 : decode cX5_turnRing 11 = .ok (.if_icmp .ne 5, 3) := by decide +kernel
theorem dX5_turnRing_14 : decode cX5_turnRing 14 = .ok (.iconst (-1), 1) := by decide +kernel
theorem dX5_turnRing_15 : decode cX5_turnRing 15 = .ok (.ireturn, 1) := by decide +kernel
theorem dX5_turnRing_16 : decode cX5_turnRing 16 = .ok (.aload_n 0, 1) := by decide +kernel
theorem dX5_turnRing_17 : decode cX5_turnRing 17 = .ok (.getfield 21, 3) := by decide +kernel
theorem dX5_turnRing_20 : decode cX5_turnRing 20 = .ok (.iload_n 2, 1) := by decide +kernel
theorem dX5_turnRing_21 : decode cX5_turnRing 21 = .ok (.putfield 207, 3) := by decide +kernel
theorem dX5_turnRing_24 : decode cX5_turnRing 24 = .ok (.aload_n 0, 1) := by decide +kernel
theorem dX5_turnRing_25 : decode cX5_turnRing 25 = .ok (.iconst 0, 1) := by decide +kernel
theorem dX5_turnRing_26 : decode cX5_turnRing 26 = .ok (.putfield 32, 3) := by decide +kernel
theorem dX5_turnRing_29 : decode cX5_turnRing 29 = .ok (.iload_n 2, 1) := by decide +kernel
theorem dX5_turnRing_30 : decode cX5_turnRing 30 = .ok (.ireturn, 1) := by decide +kernel
theorem dX5_setCaves_0 : decode cX5_setCaves 0 = .ok (.aload_n 0, 1) := by decide +kernel
theorem dX5_setCaves_1 : decode cX5_setCaves 1 = .ok (.getfield 21, 3) := by decide +kernel
theorem dX5_setCaves_4 : decode cX5_setCaves 4 = .ok (.getfield 232, 3) := by decide +kernel
theorem dX5_setCaves_7 : decode cX5_setCaves 7 = .ok (.istore_n 2, 1) := by decide +kernel
theorem dX5_setCaves_8 : decode cX5_setCaves 8 = .ok (.aload_n 0, 1) := by decide +kernel
theorem dX5_setCaves_9 : decode cX5_setCaves 9 = .ok (.getfield 28, 3) := by decide +kernel
theorem dX5_setCaves_12 : decode cX5_setCaves 12 = .ok (.dup, 1) := by decide +kernel
theorem dX5_setCaves_13 : decode cX5_setCaves 13 = .ok (.getfield 194, 3) := by decide +kernel
theorem dX5_setCaves_16 : decode cX5_setCaves 16 = .ok (.aload_n 0, 1) := by decide +kernel
theorem dX5_setCaves_17 : decode cX5_setCaves 17 = .ok (.getfield 21, 3) := by decide +kernel
theorem dX5_setCaves_20 : decode cX5_setCaves 20 = .ok (.iload_n 1, 1) := by decide +kernel
theorem dX5_setCaves_21 : decode cX5_setCaves 21 = .ok (.invokevirtual 235, 3) := by decide +kernel
theorem dX5_setCaves_24 : decode cX5_setCaves 24 = .ok (.iadd, 1) := by decide +kernel
theorem dX5_setCaves_25 : decode cX5_setCaves 25 = .ok (.putfield 194, 3) := by decide +kernel
theorem dX5_setCaves_28 : decode cX5_setCaves 28 = .ok (.aload_n 0, 1) := by decide +kernel
theorem dX5_setCaves_29 : decode cX5_setCaves 29 = .ok (.iconst 0, 1) := by decide +kernel
theorem dX5_setCaves_30 : decode cX5_setCaves 30 = .ok (.putfield 32, 3) := by decide +kernel
theorem dX5_setCaves_33 : decode cX5_setCaves 33 = .ok (.iload_n 2, 1) := by decide +kernel
theorem dX5_setCaves_34 : decode cX5_setCaves 34 = .ok (.ireturn, 1) := by decide +kernel
theorem dX6_init_0 : decode cX6_init 0 = .ok (.aload_n 0, 1) := by decide +kernel
theorem dX6_init_1 : decode cX6_init 1 = .ok (.invokespecial 3, 3) := by decide +kernel
theorem dX6_init_4 : decode cX6_init 4 = .ok (.aload_n 0, 1) := by decide +kernel
theorem dX6_init_5 : decode cX6_init 5 = .ok (.iload_n 1, 1) := by decide +kernel
theorem dX6_init_6 : decode cX6_init 6 = .ok (.ifCond .ge 7, 3) := by decide +kernel
theorem dX6_init_9 : decode cX6_init 9 = .ok (.iconst 0, 1) := by decide +kernel
theorem dX6_init_10 : decode cX6_init 10 = .ok (.goto 4, 3) := by decide +kernel
theorem dX6_init_13 : decode cX6_init 13 = .ok (.iload_n 1, 1) := by decide +kernel
theorem dX6_init_14 : decode cX6_init 14 = .ok (.newarray .int, 2) := by decide +kernel
theorem dX6_init_16 : decode cX6_init 16 = .ok (.putfield 9, 3) := by decide +kernel
theorem dX6_init_19 : decode cX6_init 19 = .ok (.return_, 1) := by decide +kernel
theorem dX6_count_0 : decode cX6_count 0 = .ok (.aload_n 0, 1) := by decide +kernel
theorem dX6_count_1 : decode cX6_count 1 = .ok (.getfield 15, 3) := by decide +kernel
theorem dX6_count_4 : decode cX6_count 4 = .ok (.ireturn, 1) := by decide +kernel
theorem dX6_room_0 : decode cX6_room 0 = .ok (.aload_n 0, 1) := by decide +kernel
theorem dX6_room_1 : decode cX6_room 1 = .ok (.getfield 9, 3) := by decide +kernel
theorem dX6_room_4 : decode cX6_room 4 = .ok (.arraylength, 1) := by decide +kernel
theorem dX6_room_5 : decode cX6_room 5 = .ok (.aload_n 0, 1) := by decide +kernel
theorem dX6_room_6 : decode cX6_room 6 = .ok (.getfield 15, 3) := by decide +kernel
theorem dX6_room_9 : decode cX6_room 9 = .ok (.isub, 1) := by decide +kernel
theorem dX6_room_10 : decode cX6_room 10 = .ok (.ireturn, 1) := by decide +kernel
theorem dX6_code_0 : decode cX6_code 0 = .ok (.iload_n 1, 1) := by decide +kernel
theorem dX6_code_1 : decode cX6_code 1 = .ok (.ifCond .lt 29, 3) := by decide +kernel
theorem dX6_code_4 : decode cX6_code 4 = .ok (.iload_n 1, 1) := by decide +kernel
theorem dX6_code_5 : decode cX6_code 5 = .ok (.aload_n 0, 1) := by decide +kernel
theorem dX6_code_6 : decode cX6_code 6 = .ok (.getfield 15, 3) := by decide +kernel
theorem dX6_code_9 : decode cX6_code 9 = .ok (.if_icmp .ge 21, 3) := by decide +kernel
theorem dX6_code_12 : decode cX6_code 12 = .ok (.iload_n 1, 1) := by decide +kernel
theorem dX6_code_13 : decode cX6_code 13 = .ok (.aload_n 0, 1) := by decide +kernel
theorem dX6_code_14 : decode cX6_code 14 = .ok (.getfield 9, 3) := by decide +kernel
theorem dX6_code_17 : decode cX6_code 17 = .ok (.arraylength, 1) := by decide +kernel
theorem dX6_code_18 : decode cX6_code 18 = .ok (.if_icmp .ge 12, 3) := by decide +kernel
theorem dX6_code_21 : decode cX6_code 21 = .ok (.aload_n 0, 1) := by decide +kernel
theorem dX6_code_22 : decode cX6_code 22 = .ok (.getfield 9, 3) := by decide +kernel
theorem dX6_code_25 : decode cX6_code 25 = .ok (.iload_n 1, 1) := by decide +kernel
theorem dX6_code_26 : decode cX6_code 26 = .ok (.iaload, 1) := by decide +kernel
theorem dX6_code_27 : decode cX6_code 27 = .ok (.goto 4, 3) := by decide +kernel
theorem dX6_code_30 : decode cX6_code 30 = .ok (.iconst (-1), 1) := by decide +kernel
theorem dX6_code_31 : decode cX6_code 31 = .ok (.ireturn, 1) := by decide +kernel
theorem dX6_change_0 : decode cX6_change 0 = .ok (.iload_n 1, 1) := by decide +kernel
theorem dX6_change_1 : decode cX6_change 1 = .ok (.ifCond .lt 27, 3) := by decide +kernel
theorem dX6_change_4 : decode cX6_change 4 = .ok (.iload_n 1, 1) := by decide +kernel
theorem dX6_change_5 : decode cX6_change 5 = .ok (.aload_n 0, 1) := by decide +kernel
theorem dX6_change_6 : decode cX6_change 6 = .ok (.getfield 15, 3) := by decide +kernel
theorem dX6_change_9 : decode cX6_change 9 = .ok (.if_icmp .ge 19, 3) := by decide +kernel
theorem dX6_change_12 : decode cX6_change 12 = .ok (.iload_n 1, 1) := by decide +kernel
theorem dX6_change_13 : decode cX6_change 13 = .ok (.aload_n 0, 1) := by decide +kernel
theorem dX6_change_14 : decode cX6_change 14 = .ok (.getfield 9, 3) := by decide +kernel
theorem dX6_change_17 : decode cX6_change 17 = .ok (.arraylength, 1) := by decide +kernel
theorem dX6_change_18 : decode cX6_change 18 = .ok (.if_icmp .ge 10, 3) := by decide +kernel
theorem dX6_change_21 : decode cX6_change 21 = .ok (.aload_n 0, 1) := by decide +kernel
theorem dX6_change_22 : decode cX6_change 22 = .ok (.getfield 9, 3) := by decide +kernel
theorem dX6_change_25 : decode cX6_change 25 = .ok (.iload_n 1, 1) := by decide +kernel
theorem dX6_change_26 : decode cX6_change 26 = .ok (.iload_n 2, 1) := by decide +kernel
theorem dX6_change_27 : decode cX6_change 27 = .ok (.iastore, 1) := by decide +kernel
theorem dX6_change_28 : decode cX6_change 28 = .ok (.return_, 1) := by decide +kernel
theorem dX6_empty_0 : decode cX6_empty 0 = .ok (.aload_n 0, 1) := by decide +kernel
theorem dX6_empty_1 : decode cX6_empty 1 = .ok (.iconst 0, 1) := by decide +kernel
theorem dX6_empty_2 : decode cX6_empty 2 = .ok (.putfield 15, 3) := by decide +kernel
theorem dX6_empty_5 : decode cX6_empty 5 = .ok (.return_, 1) := by decide +kernel
theorem dX6_copyFrom_0 : decode cX6_copyFrom 0 = .ok (.aload_n 0, 1) := by decide +kernel
theorem dX6_copyFrom_1 : decode cX6_copyFrom 1 = .ok (.aload_n 1, 1) := by decide +kernel
theorem dX6_copyFrom_2 : decode cX6_copyFrom 2 = .ok (.getfield 15, 3) := by decide +kernel
theorem dX6_copyFrom_5 : decode cX6_copyFrom 5 = .ok (.aload_n 0, 1) := by decide +kernel
theorem dX6_copyFrom_6 : decode cX6_copyFrom 6 = .ok (.getfield 9, 3) := by decide +kernel
theorem dX6_copyFrom_9 : decode cX6_copyFrom 9 = .ok (.arraylength, 1) := by decide +kernel
theorem dX6_copyFrom_10 : decode cX6_copyFrom 10 = .ok (.invokestatic 19, 3) := by decide +kernel
theorem dX6_copyFrom_13 : decode cX6_copyFrom 13 = .ok (.putfield 15, 3) := by decide +kernel
theorem dX6_copyFrom_16 : decode cX6_copyFrom 16 = .ok (.aload_n 1, 1) := by decide +kernel
theorem dX6_copyFrom_17 : decode cX6_copyFrom 17 = .ok (.getfield 9, 3) := by decide +kernel
theorem dX6_copyFrom_20 : decode cX6_copyFrom 20 = .ok (.iconst 0, 1) := by decide +kernel
theorem dX6_copyFrom_21 : decode cX6_copyFrom 21 = .ok (.aload_n 0, 1) := by decide +kernel
theorem dX6_copyFrom_22 : decode cX6_copyFrom 22 = .ok (.getfield 9, 3) := by decide +kernel
theorem dX6_copyFrom_25 : decode cX6_copyFrom 25 = .ok (.iconst 0, 1) := by decide +kernel
theorem dX6_copyFrom_26 : decode cX6_copyFrom 26 = .ok (.aload_n 0, 1) := by decide +kernel
theorem dX6_copyFrom_27 : decode cX6_copyFrom 27 = .ok (.getfield 15, 3) := by decide +kernel
theorem dX6_copyFrom_30 : decode cX6_copyFrom 30 = .ok (.invokestatic 25, 3) := by decide +kernel
theorem dX6_copyFrom_33 : decode cX6_copyFrom 33 = .ok (.return_, 1) := by decide +kernel
theorem dX6_insertCode_0 : decode cX6_insertCode 0 = .ok (.iload_n 1, 1) := by decide +kernel
theorem dX6_insertCode_1 : decode cX6_insertCode 1 = .ok (.ifCond .lt 19, 3) := by decide +kernel
theorem dX6_insertCode_4 : decode cX6_insertCode 4 = .ok (.iload_n 1, 1) := by decide +kernel
theorem dX6_insertCode_5 : decode cX6_insertCode 5 = .ok (.aload_n 0, 1) := by decide +kernel
theorem dX6_insertCode_6 : decode cX6_insertCode 6 = .ok (.getfield 15, 3) := by decide +kernel
theorem dX6_insertCode_9 : decode cX6_insertCode 9 = .ok (.if_icmp .gt 11, 3) := by decide +kernel
theorem dX6_insertCode_12 : decode cX6_insertCode 12 = .ok (.aload_n 0, 1) := by decide +kernel
theorem dX6_insertCode_13 : decode cX6_insertCode 13 = .ok (.invokevirtual 31, 3) := by decide +kernel
theorem dX6_insertCode_16 : decode cX6_insertCode 16 = .ok (.iconst 1, 1) := by decide +kernel
theorem dX6_insertCode_17 : decode cX6_insertCode 17 = .ok (.if_icmp .ge 4, 3) := by decide +kernel
theorem dX6_insertCode_20 : decode cX6_insertCode 20 = .ok (.return_, 1) := by decide +kernel
theorem dX6_insertCode_21 : decode cX6_insertCode 21 = .ok (.aload_n 0, 1) := by decide +kernel
theorem dX6_insertCode_22 : decode cX6_insertCode 22 = .ok (.getfield 9, 3) := by decide +kernel
theorem dX6_insertCode_25 : decode cX6_insertCode 25 = .ok (.iload_n 1, 1) := by decide +kernel
theorem dX6_insertCode_26 : decode cX6_insertCode 26 = .ok (.aload_n 0, 1) := by decide +kernel
theorem dX6_insertCode_27 : decode cX6_insertCode 27 = .ok (.getfield 9, 3) := by decide +kernel
theorem dX6_insertCode_30 : decode cX6_insertCode 30 = .ok (.iload_n 1, 1) := by decide +kernel
theorem dX6_insertCode_31 : decode cX6_insertCode 31 = .ok (.iconst 1, 1) := by decide +kernel
theorem dX6_insertCode_32 : decode cX6_insertCode 32 = .ok (.iadd, 1) := by decide +kernel
theorem dX6_insertCode_33 : decode cX6_insertCode 33 = .ok (.aload_n 0, 1) := by decide +kernel
theorem dX6_insertCode_34 : decode cX6_insertCode 34 = .ok (.getfield 15, 3) := by decide +kernel
theorem dX6_insertCode_37 : decode cX6_insertCode 37 = .ok (.iload_n 1, 1) := by decide +kernel
theorem dX6_insertCode_38 : decode cX6_insertCode 38 = .ok (.isub, 1) := by decide +kernel
theorem dX6_insertCode_39 : decode cX6_insertCode 39 = .ok (.invokestatic 25, 3) := by decide +kernel
theorem dX6_insertCode_42 : decode cX6_insertCode 42 = .ok (.aload_n 0, 1) := by decide +kernel
theorem dX6_insertCode_43 : decode cX6_insertCode 43 = .ok (.dup, 1) := by decide +kernel
theorem dX6_insertCode_44 : decode cX6_insertCode 44 = .ok (.getfield 15, 3) := by decide +kernel
theorem dX6_insertCode_47 : decode cX6_insertCode 47 = .ok (.iconst 1, 1) := by decide +kernel
theorem dX6_insertCode_48 : decode cX6_insertCode 48 = .ok (.iadd, 1) := by decide +kernel
theorem dX6_insertCode_49 : decode cX6_insertCode 49 = .ok (.putfield 15, 3) := by decide +kernel
theorem dX6_insertCode_52 : decode cX6_insertCode 52 = .ok (.aload_n 0, 1) := by decide +kernel
theorem dX6_insertCode_53 : decode cX6_insertCode 53 = .ok (.getfield 9, 3) := by decide +kernel
theorem dX6_insertCode_56 : decode cX6_insertCode 56 = .ok (.iload_n 1, 1) := by decide +kernel
theorem dX6_insertCode_57 : decode cX6_insertCode 57 = .ok (.iload_n 2, 1) := by decide +kernel
theorem dX6_insertCode_58 : decode cX6_insertCode 58 = .ok (.iastore, 1) := by decide +kernel
theorem dX6_insertCode_59 : decode cX6_insertCode 59 = .ok (.return_, 1) := by decide +kernel
theorem dX6_insertPart_0 : decode cX6_insertPart 0 = .ok (.iload 4, 2) := by decide +kernel
theorem dX6_insertPart_2 : decode cX6_insertPart 2 = .ok (.iload_n 3, 1) := by decide +kernel
theorem dX6_insertPart_3 : decode cX6_insertPart 3 = .ok (.isub, 1) := by decide +kernel
theorem dX6_insertPart_4 : decode cX6_insertPart 4 = .ok (.istore 5, 2) := by decide +kernel
theorem dX6_insertPart_6 : decode cX6_insertPart 6 = .ok (.iload_n 3, 1) := by decide +kernel
theorem dX6_insertPart_7 : decode cX6_insertPart 7 = .ok (.ifCond .lt 38, 3) := by decide +kernel
theorem dX6_insertPart_10 : decode cX6_insertPart 10 = .ok (.iload 5, 2) := by decide +kernel
theorem dX6_insertPart_12 : decode cX6_insertPart 12 = .ok (.ifCond .lt 33, 3) := by decide +kernel
theorem dX6_insertPart_15 : decode cX6_insertPart 15 = .ok (.iload 4, 2) := by decide +kernel
theorem dX6_insertPart_17 : decode cX6_insertPart 17 = .ok (.aload_n 2, 1) := by decide +kernel
theorem dX6_insertPart_18 : decode cX6_insertPart 18 = .ok (.getfield 15, 3) := by decide +kernel
theorem dX6_insertPart_21 : decode cX6_insertPart 21 = .ok (.if_icmp .gt 24, 3) := by decide +kernel
theorem dX6_insertPart_24 : decode cX6_insertPart 24 = .ok (.iload_n 1, 1) := by decide +kernel
theorem dX6_insertPart_25 : decode cX6_insertPart 25 = .ok (.ifCond .lt 20, 3) := by decide +kernel
theorem dX6_insertPart_28 : decode cX6_insertPart 28 = .ok (.iload_n 1, 1) := by decide +kernel
theorem dX6_insertPart_29 : decode cX6_insertPart 29 = .ok (.aload_n 0, 1) := by decide +kernel
theorem dX6_insertPart_30 : decode cX6_insertPart 30 = .ok (.getfield 15, 3) := by decide +kernel
theorem dX6_insertPart_33 : decode cX6_insertPart 33 = .ok (.if_icmp .gt 12, 3) := by decide +kernel
theorem dX6_insertPart_36 : decode cX6_insertPart 36 = .ok (.iload 5, 2) := by decide +kernel
theorem dX6_insertPart_38 : decode cX6_insertPart 38 = .ok (.aload_n 0, 1) := by decide +kernel
theorem dX6_insertPart_39 : decode cX6_insertPart 39 = .ok (.invokevirtual 31, 3) := by decide +kernel
theorem dX6_insertPart_42 : decode cX6_insertPart 42 = .ok (.if_icmp .le 4, 3) := by decide +kernel
theorem dX6_insertPart_45 : decode cX6_insertPart 45 = .ok (.return_, 1) := by decide +kernel
theorem dX6_insertPart_46 : decode cX6_insertPart 46 = .ok (.aload_n 0, 1) := by decide +kernel
theorem dX6_insertPart_47 : decode cX6_insertPart 47 = .ok (.getfield 9, 3) := by decide +kernel
theorem dX6_insertPart_50 : decode cX6_insertPart 50 = .ok (.iload_n 1, 1) := by decide +kernel
theorem dX6_insertPart_51 : decode cX6_insertPart 51 = .ok (.aload_n 0, 1) := by decide +kernel
theorem dX6_insertPart_52 : decode cX6_insertPart 52 = .ok (.getfield 9, 3) := by decide +kernel
theorem dX6_insertPart_55 : decode cX6_insertPart 55 = .ok (.iload_n 1, 1) := by decide +kernel
theorem dX6_insertPart_56 : decode cX6_insertPart 56 = .ok (.iload 5, 2) := by decide +kernel
theorem dX6_insertPart_58 : decode cX6_insertPart 58 = .ok (.iadd, 1) := by decide +kernel
theorem dX6_insertPart_59 : decode cX6_insertPart 59 = .ok (.aload_n 0, 1) := by decide +kernel
theorem dX6_insertPart_60 : decode cX6_insertPart 60 = .ok (.getfield 15, 3) := by decide +kernel
theorem dX6_insertPart_63 : decode cX6_insertPart 63 = .ok (.iload_n 1, 1) := by decide +kernel
theorem dX6_insertPart_64 : decode cX6_insertPart 64 = .ok (.isub, 1) := by decide +kernel
theorem dX6_insertPart_65 : decode cX6_insertPart 65 = .ok (.invokestatic 25, 3) := by decide +kernel
theorem dX6_insertPart_68 : decode cX6_insertPart 68 = .ok (.aload_n 2, 1) := by decide +kernel
theorem dX6_insertPart_69 : decode cX6_insertPart 69 = .ok (.getfield 9, 3) := by decide +kernel
theorem dX6_insertPart_72 : decode cX6_insertPart 72 = .ok (.iload_n 3, 1) := by decide +kernel
theorem dX6_insertPart_73 : decode cX6_insertPart 73 = .ok (.aload_n 0, 1) := by decide +kernel
theorem dX6_insertPart_74 : decode cX6_insertPart 74 = .ok (.getfield 9, 3) := by decide +kernel
theorem dX6_insertPart_77 : decode cX6_insertPart 77 = .ok (.iload_n 1, 1) := by decide +kernel
theorem dX6_insertPart_78 : decode cX6_insertPart 78 = .ok (.iload 5, 2) := by decide +kernel
theorem dX6_insertPart_80 : decode cX6_insertPart 80 = .ok (.invokestatic 25, 3) := by decide +kernel
theorem dX6_insertPart_83 : decode cX6_insertPart 83 = .ok (.aload_n 0, 1) := by decide +kernel
theorem dX6_insertPart_84 : decode cX6_insertPart 84 = .ok (.dup, 1) := by decide +kernel
theorem dX6_insertPart_85 : decode cX6_insertPart 85 = .ok (.getfield 15, 3) := by decide +kernel
theorem dX6_insertPart_88 : decode cX6_insertPart 88 = .ok (.iload 5, 2) := by decide +kernel
theorem dX6_insertPart_90 : decode cX6_insertPart 90 = .ok (.iadd, 1) := by decide +kernel
theorem dX6_insertPart_91 : decode cX6_insertPart 91 = .ok (.putfield 15, 3) := by decide +kernel
theorem dX6_insertPart_94 : decode cX6_insertPart 94 = .ok (.return_, 1) := by decide +kernel
theorem dX6_takeOut_0 : decode cX6_takeOut 0 = .ok (.iload_n 1, 1) := by decide +kernel
theorem dX6_takeOut_1 : decode cX6_takeOut 1 = .ok (.ifCond .lt 16, 3) := by decide +kernel
theorem dX6_takeOut_4 : decode cX6_takeOut 4 = .ok (.iload_n 1, 1) := by decide +kernel
theorem dX6_takeOut_5 : decode cX6_takeOut 5 = .ok (.iload_n 2, 1) := by decide +kernel
theorem dX6_takeOut_6 : decode cX6_takeOut 6 = .ok (.if_icmp .gt 11, 3) := by decide +kernel
theorem dX6_takeOut_9 : decode cX6_takeOut 9 = .ok (.iload_n 2, 1) := by decide +kernel
theorem dX6_takeOut_10 : decode cX6_takeOut 10 = .ok (.aload_n 0, 1) := by decide +kernel
theorem dX6_takeOut_11 : decode cX6_takeOut 11 = .ok (.getfield 15, 3) := by decide +kernel
theorem dX6_takeOut_14 : decode cX6_takeOut 14 = .ok (.if_icmp .le 4, 3) := by decide +kernel
theorem dX6_takeOut_17 : decode cX6_takeOut 17 = .ok (.return_, 1) := by decide +kernel
theorem dX6_takeOut_18 : decode cX6_takeOut 18 = .ok (.aload_n 0, 1) := by decide +kernel
theorem dX6_takeOut_19 : decode cX6_takeOut 19 = .ok (.getfield 9, 3) := by decide +kernel
theorem dX6_takeOut_22 : decode cX6_takeOut 22 = .ok (.iload_n 2, 1) := by decide +kernel
theorem dX6_takeOut_23 : decode cX6_takeOut 23 = .ok (.aload_n 0, 1) := by decide +kernel
theorem dX6_takeOut_24 : decode cX6_takeOut 24 = .ok (.getfield 9, 3) := by decide +kernel
theorem dX6_takeOut_27 : decode cX6_takeOut 27 = .ok (.iload_n 1, 1) := by decide +kernel
theorem dX6_takeOut_28 : decode cX6_takeOut 28 = .ok (.aload_n 0, 1) := by decide +kernel
theorem dX6_takeOut_29 : decode cX6_takeOut 29 = .ok (.getfield 15, 3) := by decide +kernel
theorem dX6_takeOut_32 : decode cX6_takeOut 32 = .ok (.iload_n 2, 1) := by decide +kernel
theorem dX6_takeOut_33 : decode cX6_takeOut 33 = .ok (.isub, 1) := by decide +kernel
theorem dX6_takeOut_34 : decode cX6_takeOut 34 = .ok (.invokestatic 25, 3) := by decide +kernel
theorem dX6_takeOut_37 : decode cX6_takeOut 37 = .ok (.aload_n 0, 1) := by decide +kernel
theorem dX6_takeOut_38 : decode cX6_takeOut 38 = .ok (.dup, 1) := by decide +kernel
theorem dX6_takeOut_39 : decode cX6_takeOut 39 = .ok (.getfield 15, 3) := by decide +kernel
theorem dX6_takeOut_42 : decode cX6_takeOut 42 = .ok (.iload_n 2, 1) := by decide +kernel
theorem dX6_takeOut_43 : decode cX6_takeOut 43 = .ok (.iload_n 1, 1) := by decide +kernel
theorem dX6_takeOut_44 : decode cX6_takeOut 44 = .ok (.isub, 1) := by decide +kernel
theorem dX6_takeOut_45 : decode cX6_takeOut 45 = .ok (.isub, 1) := by decide +kernel
theorem dX6_takeOut_46 : decode cX6_takeOut 46 = .ok (.putfield 15, 3) := by decide +kernel
theorem dX6_takeOut_49 : decode cX6_takeOut 49 = .ok (.return_, 1) := by decide +kernel
theorem dX6_standsAt_0 : decode cX6_standsAt 0 = .ok (.iload_n 1, 1) := by decide +kernel
theorem dX6_standsAt_1 : decode cX6_standsAt 1 = .ok (.ifCond .lt 16, 3) := by decide +kernel
theorem dX6_standsAt_4 : decode cX6_standsAt 4 = .ok (.iload_n 1, 1) := by decide +kernel
theorem dX6_standsAt_5 : decode cX6_standsAt 5 = .ok (.aload_n 0, 1) := by decide +kernel
theorem dX6_standsAt_6 : decode cX6_standsAt 6 = .ok (.getfield 15, 3) := by decide +kernel
theorem dX6_standsAt_9 : decode cX6_standsAt 9 = .ok (.aload_n 2, 1) := by decide +kernel
theorem dX6_standsAt_10 : decode cX6_standsAt 10 = .ok (.getfield 15, 3) := by decide +kernel
theorem dX6_standsAt_13 : decode cX6_standsAt 13 = .ok (.isub, 1) := by decide +kernel
theorem dX6_standsAt_14 : decode cX6_standsAt 14 = .ok (.if_icmp .le 5, 3) := by decide +kernel
theorem dX6_standsAt_17 : decode cX6_standsAt 17 = .ok (.iconst 0, 1) := by decide +kernel
theorem dX6_standsAt_18 : decode cX6_standsAt 18 = .ok (.ireturn, 1) := by decide +kernel
theorem dX6_standsAt_19 : decode cX6_standsAt 19 = .ok (.iconst 0, 1) := by decide +kernel
theorem dX6_standsAt_20 : decode cX6_standsAt 20 = .ok (.istore_n 3, 1) := by decide +kernel
theorem dX6_standsAt_21 : decode cX6_standsAt 21 = .ok (.iload_n 3, 1) := by decide +kernel
theorem dX6_standsAt_22 : decode cX6_standsAt 22 = .ok (.aload_n 2, 1) := by decide +kernel
theorem dX6_standsAt_23 : decode cX6_standsAt 23 = .ok (.getfield 15, 3) := by decide +kernel
theorem dX6_standsAt_26 : decode cX6_standsAt 26 = .ok (.if_icmp .ge 26, 3) := by decide +kernel
theorem dX6_standsAt_29 : decode cX6_standsAt 29 = .ok (.aload_n 0, 1) := by decide +kernel
theorem dX6_standsAt_30 : decode cX6_standsAt 30 = .ok (.iload_n 1, 1) := by decide +kernel
theorem dX6_standsAt_31 : decode cX6_standsAt 31 = .ok (.iload_n 3, 1) := by decide +kernel
theorem dX6_standsAt_32 : decode cX6_standsAt 32 = .ok (.iadd, 1) := by decide +kernel
theorem dX6_standsAt_33 : decode cX6_standsAt 33 = .ok (.invokevirtual 35, 3) := by decide +kernel
theorem dX6_standsAt_36 : decode cX6_standsAt 36 = .ok (.aload_n 2, 1) := by decide +kernel
theorem dX6_standsAt_37 : decode cX6_standsAt 37 = .ok (.iload_n 3, 1) := by decide +kernel
theorem dX6_standsAt_38 : decode cX6_standsAt 38 = .ok (.invokevirtual 35, 3) := by decide +kernel
theorem dX6_standsAt_41 : decode cX6_standsAt 41 = .ok (.if_icmp .eq 5, 3) := by decide +kernel
theorem dX6_standsAt_44 : decode cX6_standsAt 44 = .ok (.iconst 0, 1) := by decide +kernel
theorem dX6_standsAt_45 : decode cX6_standsAt 45 = .ok (.ireturn, 1) := by decide +kernel
theorem dX6_standsAt_46 : decode cX6_standsAt 46 = .ok (.iinc 3 1, 3) := by decide +kernel
theorem dX6_standsAt_49 : decode cX6_standsAt 49 = .ok (.goto (-28), 3) := by decide +kernel
theorem dX6_standsAt_52 : decode cX6_standsAt 52 = .ok (.iconst 1, 1) := by decide +kernel
theorem dX6_standsAt_53 : decode cX6_standsAt 53 = .ok (.ireturn, 1) := by decide +kernel
theorem dX7_init_0 : decode cX7_init 0 = .ok (.aload_n 0, 1) := by decide +kernel
theorem dX7_init_1 : decode cX7_init 1 = .ok (.invokespecial 1, 3) := by decide +kernel
theorem dX7_init_4 : decode cX7_init 4 = .ok (.aload_n 0, 1) := by decide +kernel
theorem dX7_init_5 : decode cX7_init 5 = .ok (.new 7, 3) := by decide +kernel
theorem dX7_init_8 : decode cX7_init 8 = .ok (.dup, 1) := by decide +kernel
theorem dX7_init_9 : decode cX7_init 9 = .ok (.invokespecial 9, 3) := by decide +kernel
theorem dX7_init_12 : decode cX7_init 12 = .ok (.putfield 10, 3) := by decide +kernel
theorem dX7_init_15 : decode cX7_init 15 = .ok (.aload_n 0, 1) := by decide +kernel
theorem dX7_init_16 : decode cX7_init 16 = .ok (.new 16, 3) := by decide +kernel
theorem dX7_init_19 : decode cX7_init 19 = .ok (.dup, 1) := by decide +kernel
theorem dX7_init_20 : decode cX7_init 20 = .ok (.invokespecial 18, 3) := by decide +kernel
theorem dX7_init_23 : decode cX7_init 23 = .ok (.putfield 19, 3) := by decide +kernel
theorem dX7_init_26 : decode cX7_init 26 = .ok (.aload_n 0, 1) := by decide +kernel
theorem dX7_init_27 : decode cX7_init 27 = .ok (.iconst 2, 1) := by decide +kernel
theorem dX7_init_28 : decode cX7_init 28 = .ok (.anewarray 7, 3) := by decide +kernel
theorem dX7_init_31 : decode cX7_init 31 = .ok (.putfield 23, 3) := by decide +kernel
theorem dX7_init_34 : decode cX7_init 34 = .ok (.iconst 0, 1) := by decide +kernel
theorem dX7_init_35 : decode cX7_init 35 = .ok (.istore_n 1, 1) := by decide +kernel
theorem dX7_init_36 : decode cX7_init 36 = .ok (.iload_n 1, 1) := by decide +kernel
theorem dX7_init_37 : decode cX7_init 37 = .ok (.iconst 2, 1) := by decide +kernel
theorem dX7_init_38 : decode cX7_init 38 = .ok (.if_icmp .ge 22, 3) := by decide +kernel
theorem dX7_init_41 : decode cX7_init 41 = .ok (.aload_n 0, 1) := by decide +kernel
theorem dX7_init_42 : decode cX7_init 42 = .ok (.getfield 23, 3) := by decide +kernel
theorem dX7_init_45 : decode cX7_init 45 = .ok (.iload_n 1, 1) := by decide +kernel
theorem dX7_init_46 : decode cX7_init 46 = .ok (.new 7, 3) := by decide +kernel
theorem dX7_init_49 : decode cX7_init 49 = .ok (.dup, 1) := by decide +kernel
theorem dX7_init_50 : decode cX7_init 50 = .ok (.invokespecial 9, 3) := by decide +kernel
theorem dX7_init_53 : decode cX7_init 53 = .ok (.aastore, 1) := by decide +kernel
theorem dX7_init_54 : decode cX7_init 54 = .ok (.iinc 1 1, 3) := by decide +kernel
theorem dX7_init_57 : decode cX7_init 57 = .ok (.goto (-21), 3) := by decide +kernel
theorem dX7_init_60 : decode cX7_init 60 = .ok (.aload_n 0, 1) := by decide +kernel
theorem dX7_init_61 : decode cX7_init 61 = .ok (.iconst 2, 1) := by decide +kernel
theorem dX7_init_62 : decode cX7_init 62 = .ok (.newarray .boolean, 2) := by decide +kernel
theorem dX7_init_64 : decode cX7_init 64 = .ok (.putfield 27, 3) := by decide +kernel
theorem dX7_init_67 : decode cX7_init 67 = .ok (.aload_n 0, 1) := by decide +kernel
theorem dX7_init_68 : decode cX7_init 68 = .ok (.new 31, 3) := by decide +kernel
theorem dX7_init_71 : decode cX7_init 71 = .ok (.dup, 1) := by decide +kernel
theorem dX7_init_72 : decode cX7_init 72 = .ok (.bipush 60, 2) := by decide +kernel
theorem dX7_init_74 : decode cX7_init 74 = .ok (.invokespecial 33, 3) := by decide +kernel
theorem dX7_init_77 : decode cX7_init 77 = .ok (.putfield 36, 3) := by decide +kernel
theorem dX7_init_80 : decode cX7_init 80 = .ok (.return_, 1) := by decide +kernel
theorem dX7_write_0 : decode cX7_write 0 = .ok (.iload_n 1, 1) := by decide +kernel
theorem dX7_write_1 : decode cX7_write 1 = .ok (.bipush 10, 2) := by decide +kernel
theorem dX7_write_3 : decode cX7_write 3 = .ok (.if_icmp .eq 25, 3) := by decide +kernel
theorem dX7_write_6 : decode cX7_write 6 = .ok (.iload_n 1, 1) := by decide +kernel
theorem dX7_write_7 : decode cX7_write 7 = .ok (.bipush 32, 2) := by decide +kernel
theorem dX7_write_9 : decode cX7_write 9 = .ok (.if_icmp .lt 9, 3) := by decide +kernel
theorem dX7_write_12 : decode cX7_write 12 = .ok (.iload_n 1, 1) := by decide +kernel
theorem dX7_write_13 : decode cX7_write 13 = .ok (.bipush 126, 2) := by decide +kernel
theorem dX7_write_15 : decode cX7_write 15 = .ok (.if_icmp .le 13, 3) := by decide +kernel
theorem dX7_write_18 : decode cX7_write 18 = .ok (.new 40, 3) := by decide +kernel
theorem dX7_write_21 : decode cX7_write 21 = .ok (.dup, 1) := by decide +kernel
theorem dX7_write_22 : decode cX7_write 22 = .ok (.ldc 42, 2) := by decide +kernel
theorem dX7_write_24 : decode cX7_write 24 = .ok (.invokespecial 44, 3) := by decide +kernel
theorem dX7_write_27 : decode cX7_write 27 = .ok (.athrow, 1) := by decide +kernel
theorem dX7_write_28 : decode cX7_write 28 = .ok (.aload_n 0, 1) := by decide +kernel
theorem dX7_write_29 : decode cX7_write 29 = .ok (.getfield 19, 3) := by decide +kernel
theorem dX7_write_32 : decode cX7_write 32 = .ok (.aload_n 0, 1) := by decide +kernel
theorem dX7_write_33 : decode cX7_write 33 = .ok (.getfield 10, 3) := by decide +kernel
theorem dX7_write_36 : decode cX7_write 36 = .ok (.invokevirtual 47, 3) := by decide +kernel
theorem dX7_write_39 : decode cX7_write 39 = .ok (.aload_n 0, 1) := by decide +kernel
theorem dX7_write_40 : decode cX7_write 40 = .ok (.aload_n 0, 1) := by decide +kernel
theorem dX7_write_41 : decode cX7_write 41 = .ok (.getfield 10, 3) := by decide +kernel
theorem dX7_write_44 : decode cX7_write 44 = .ok (.iload_n 1, 1) := by decide +kernel
theorem dX7_write_45 : decode cX7_write 45 = .ok (.invokevirtual 51, 3) := by decide +kernel
theorem dX7_write_48 : decode cX7_write 48 = .ok (.invokevirtual 55, 3) := by decide +kernel
theorem dX7_write_51 : decode cX7_write 51 = .ok (.ireturn, 1) := by decide +kernel
theorem dX7_rub_0 : decode cX7_rub 0 = .ok (.aload_n 0, 1) := by decide +kernel
theorem dX7_rub_1 : decode cX7_rub 1 = .ok (.getfield 19, 3) := by decide +kernel
theorem dX7_rub_4 : decode cX7_rub 4 = .ok (.aload_n 0, 1) := by decide +kernel
theorem dX7_rub_5 : decode cX7_rub 5 = .ok (.getfield 10, 3) := by decide +kernel
theorem dX7_rub_8 : decode cX7_rub 8 = .ok (.invokevirtual 47, 3) := by decide +kernel
theorem dX7_rub_11 : decode cX7_rub 11 = .ok (.aload_n 0, 1) := by decide +kernel
theorem dX7_rub_12 : decode cX7_rub 12 = .ok (.aload_n 0, 1) := by decide +kernel
theorem dX7_rub_13 : decode cX7_rub 13 = .ok (.getfield 10, 3) := by decide +kernel
theorem dX7_rub_16 : decode cX7_rub 16 = .ok (.invokevirtual 58, 3) := by decide +kernel
theorem dX7_rub_19 : decode cX7_rub 19 = .ok (.invokevirtual 55, 3) := by decide +kernel
theorem dX7_rub_22 : decode cX7_rub 22 = .ok (.ireturn, 1) := by decide +kernel
theorem dX7_swap_0 : decode cX7_swap 0 = .ok (.aload_n 0, 1) := by decide +kernel
theorem dX7_swap_1 : decode cX7_swap 1 = .ok (.getfield 19, 3) := by decide +kernel
theorem dX7_swap_4 : decode cX7_swap 4 = .ok (.aload_n 0, 1) := by decide +kernel
theorem dX7_swap_5 : decode cX7_swap 5 = .ok (.getfield 10, 3) := by decide +kernel
theorem dX7_swap_8 : decode cX7_swap 8 = .ok (.invokevirtual 47, 3) := by decide +kernel
theorem dX7_swap_11 : decode cX7_swap 11 = .ok (.aload_n 0, 1) := by decide +kernel
theorem dX7_swap_12 : decode cX7_swap 12 = .ok (.aload_n 0, 1) := by decide +kernel
theorem dX7_swap_13 : decode cX7_swap 13 = .ok (.getfield 10, 3) := by decide +kernel
theorem dX7_swap_16 : decode cX7_swap 16 = .ok (.invokevirtual 62, 3) := by decide +kernel
theorem dX7_swap_19 : decode cX7_swap 19 = .ok (.invokevirtual 55, 3) := by decide +kernel
theorem dX7_swap_22 : decode cX7_swap 22 = .ok (.ireturn, 1) := by decide +kernel
theorem dX7_greaten_0 : decode cX7_greaten 0 = .ok (.aload_n 0, 1) := by decide +kernel
theorem dX7_greaten_1 : decode cX7_greaten 1 = .ok (.getfield 19, 3) := by decide +kernel
theorem dX7_greaten_4 : decode cX7_greaten 4 = .ok (.aload_n 0, 1) := by decide +kernel
theorem dX7_greaten_5 : decode cX7_greaten 5 = .ok (.getfield 10, 3) := by decide +kernel
theorem dX7_greaten_8 : decode cX7_greaten 8 = .ok (.invokevirtual 47, 3) := by decide +kernel
theorem dX7_greaten_11 : decode cX7_greaten 11 = .ok (.aload_n 0, 1) := by decide +kernel
theorem dX7_greaten_12 : decode cX7_greaten 12 = .ok (.aload_n 0, 1) := by decide +kernel
theorem dX7_greaten_13 : decode cX7_greaten 13 = .ok (.getfield 10, 3) := by decide +kernel
theorem dX7_greaten_16 : decode cX7_greaten 16 = .ok (.invokevirtual 65, 3) := by decide +kernel
theorem dX7_greaten_19 : decode cX7_greaten 19 = .ok (.invokevirtual 55, 3) := by decide +kernel
theorem dX7_greaten_22 : decode cX7_greaten 22 = .ok (.ireturn, 1) := by decide +kernel
theorem dX7_goTo_0 : decode cX7_goTo 0 = .ok (.iload_n 1, 1) := by decide +kernel
theorem dX7_goTo_1 : decode cX7_goTo 1 = .ok (.ifCond .lt 20, 3) := by decide +kernel
theorem dX7_goTo_4 : decode cX7_goTo 4 = .ok (.iload_n 1, 1) := by decide +kernel
theorem dX7_goTo_5 : decode cX7_goTo 5 = .ok (.aload_n 0, 1) := by decide +kernel
theorem dX7_goTo_6 : decode cX7_goTo 6 = .ok (.getfield 10, 3) := by decide +kernel
theorem dX7_goTo_9 : decode cX7_goTo 9 = .ok (.getfield 68, 3) := by decide +kernel
theorem dX7_goTo_12 : decode cX7_goTo 12 = .ok (.getfield 72, 3) := by decide +kernel
theorem dX7_goTo_15 : decode cX7_goTo 15 = .ok (.invokevirtual 77, 3) := by decide +kernel
theorem dX7_goTo_18 : decode cX7_goTo 18 = .ok (.if_icmp .le 13, 3) := by decide +kernel
theorem dX7_goTo_21 : decode cX7_goTo 21 = .ok (.new 40, 3) := by decide +kernel
theorem dX7_goTo_24 : decode cX7_goTo 24 = .ok (.dup, 1) := by decide +kernel
theorem dX7_goTo_25 : decode cX7_goTo 25 = .ok (.ldc 80, 2) := by decide +kernel
theorem dX7_goTo_27 : decode cX7_goTo 27 = .ok (.invokespecial 44, 3) := by decide +kernel
theorem dX7_goTo_30 : decode cX7_goTo 30 = .ok (.athrow, 1) := by decide +kernel
theorem dX7_goTo_31 : decode cX7_goTo 31 = .ok (.aload_n 0, 1) := by decide +kernel
theorem dX7_goTo_32 : decode cX7_goTo 32 = .ok (.getfield 19, 3) := by decide +kernel
theorem dX7_goTo_35 : decode cX7_goTo 35 = .ok (.aload_n 0, 1) := by decide +kernel
theorem dX7_goTo_36 : decode cX7_goTo 36 = .ok (.getfield 10, 3) := by decide +kernel
theorem dX7_goTo_39 : decode cX7_goTo 39 = .ok (.invokevirtual 47, 3) := by decide +kernel
theorem dX7_goTo_42 : decode cX7_goTo 42 = .ok (.aload_n 0, 1) := by decide +kernel
theorem dX7_goTo_43 : decode cX7_goTo 43 = .ok (.aload_n 0, 1) := by decide +kernel
theorem dX7_goTo_44 : decode cX7_goTo 44 = .ok (.getfield 10, 3) := by decide +kernel
theorem dX7_goTo_47 : decode cX7_goTo 47 = .ok (.iload_n 1, 1) := by decide +kernel
theorem dX7_goTo_48 : decode cX7_goTo 48 = .ok (.invokevirtual 82, 3) := by decide +kernel
theorem dX7_goTo_51 : decode cX7_goTo 51 = .ok (.invokevirtual 55, 3) := by decide +kernel
theorem dX7_goTo_54 : decode cX7_goTo 54 = .ok (.ireturn, 1) := by decide +kernel
theorem dX7_wordOn_0 : decode cX7_wordOn 0 = .ok (.aload_n 0, 1) := by decide +kernel
theorem dX7_wordOn_1 : decode cX7_wordOn 1 = .ok (.getfield 19, 3) := by decide +kernel
theorem dX7_wordOn_4 : decode cX7_wordOn 4 = .ok (.aload_n 0, 1) := by decide +kernel
theorem dX7_wordOn_5 : decode cX7_wordOn 5 = .ok (.getfield 10, 3) := by decide +kernel
theorem dX7_wordOn_8 : decode cX7_wordOn 8 = .ok (.invokevirtual 47, 3) := by decide +kernel
theorem dX7_wordOn_11 : decode cX7_wordOn 11 = .ok (.aload_n 0, 1) := by decide +kernel
theorem dX7_wordOn_12 : decode cX7_wordOn 12 = .ok (.aload_n 0, 1) := by decide +kernel
theorem dX7_wordOn_13 : decode cX7_wordOn 13 = .ok (.getfield 10, 3) := by decide +kernel
theorem dX7_wordOn_16 : decode cX7_wordOn 16 = .ok (.invokevirtual 85, 3) := by decide +kernel
theorem dX7_wordOn_19 : decode cX7_wordOn 19 = .ok (.invokevirtual 55, 3) := by decide +kernel
theorem dX7_wordOn_22 : decode cX7_wordOn 22 = .ok (.ireturn, 1) := by decide +kernel
theorem dX7_wordBack_0 : decode cX7_wordBack 0 = .ok (.aload_n 0, 1) := by decide +kernel
theorem dX7_wordBack_1 : decode cX7_wordBack 1 = .ok (.getfield 19, 3) := by decide +kernel
theorem dX7_wordBack_4 : decode cX7_wordBack 4 = .ok (.aload_n 0, 1) := by decide +kernel
theorem dX7_wordBack_5 : decode cX7_wordBack 5 = .ok (.getfield 10, 3) := by decide +kernel
theorem dX7_wordBack_8 : decode cX7_wordBack 8 = .ok (.invokevirtual 47, 3) := by decide +kernel
theorem dX7_wordBack_11 : decode cX7_wordBack 11 = .ok (.aload_n 0, 1) := by decide +kernel
theorem dX7_wordBack_12 : decode cX7_wordBack 12 = .ok (.aload_n 0, 1) := by decide +kernel
theorem dX7_wordBack_13 : decode cX7_wordBack 13 = .ok (.getfield 10, 3) := by decide +kernel
theorem dX7_wordBack_16 : decode cX7_wordBack 16 = .ok (.invokevirtual 88, 3) := by decide +kernel
theorem dX7_wordBack_19 : decode cX7_wordBack 19 = .ok (.invokevirtual 55, 3) := by decide +kernel
theorem dX7_wordBack_22 : decode cX7_wordBack 22 = .ok (.ireturn, 1) := by decide +kernel
theorem dX7_lineBegin_0 : decode cX7_lineBegin 0 = .ok (.aload_n 0, 1) := by decide +kernel
theorem dX7_lineBegin_1 : decode cX7_lineBegin 1 = .ok (.getfield 19, 3) := by decide +kernel
theorem dX7_lineBegin_4 : decode cX7_lineBegin 4 = .ok (.aload_n 0, 1) := by decide +kernel
theorem dX7_lineBegin_5 : decode cX7_lineBegin 5 = .ok (.getfield 10, 3) := by decide +kernel
theorem dX7_lineBegin_8 : decode cX7_lineBegin 8 = .ok (.invokevirtual 47, 3) := by decide +kernel
theorem dX7_lineBegin_11 : decode cX7_lineBegin 11 = .ok (.aload_n 0, 1) := by decide +kernel
theorem dX7_lineBegin_12 : decode cX7_lineBegin 12 = .ok (.aload_n 0, 1) := by decide +kernel
theorem dX7_lineBegin_13 : decode cX7_lineBegin 13 = .ok (.getfield 10, 3) := by decide +kernel
theorem dX7_lineBegin_16 : decode cX7_lineBegin 16 = .ok (.invokevirtual 91, 3) := by decide +kernel
theorem dX7_lineBegin_19 : decode cX7_lineBegin 19 = .ok (.invokevirtual 55, 3) := by decide +kernel
theorem dX7_lineBegin_22 : decode cX7_lineBegin 22 = .ok (.ireturn, 1) := by decide +kernel
theorem dX7_lineEnd_0 : decode cX7_lineEnd 0 = .ok (.aload_n 0, 1) := by decide +kernel
theorem dX7_lineEnd_1 : decode cX7_lineEnd 1 = .ok (.getfield 19, 3) := by decide +kernel
theorem dX7_lineEnd_4 : decode cX7_lineEnd 4 = .ok (.aload_n 0, 1) := by decide +kernel
theorem dX7_lineEnd_5 : decode cX7_lineEnd 5 = .ok (.getfield 10, 3) := by decide +kernel
theorem dX7_lineEnd_8 : decode cX7_lineEnd 8 = .ok (.invokevirtual 47, 3) := by decide +kernel
theorem dX7_lineEnd_11 : decode cX7_lineEnd 11 = .ok (.aload_n 0, 1) := by decide +kernel
theorem dX7_lineEnd_12 : decode cX7_lineEnd 12 = .ok (.aload_n 0, 1) := by decide +kernel
theorem dX7_lineEnd_13 : decode cX7_lineEnd 13 = .ok (.getfield 10, 3) := by decide +kernel
theorem dX7_lineEnd_16 : decode cX7_lineEnd 16 = .ok (.invokevirtual 94, 3) := by decide +kernel
theorem dX7_lineEnd_19 : decode cX7_lineEnd 19 = .ok (.invokevirtual 55, 3) := by decide +kernel
theorem dX7_lineEnd_22 : decode cX7_lineEnd 22 = .ok (.ireturn, 1) := by decide +kernel
theorem dX7_goLines_0 : decode cX7_goLines 0 = .ok (.iload_n 1, 1) := by decide +kernel
theorem dX7_goLines_1 : decode cX7_goLines 1 = .ok (.bipush (-50), 2) := by decide +kernel
theorem dX7_goLines_3 : decode cX7_goLines 3 = .ok (.if_icmp .lt 13, 3) := by decide +kernel
theorem dX7_goLines_6 : decode cX7_goLines 6 = .ok (.iload_n 1, 1) := by decide +kernel
theorem dX7_goLines_7 : decode cX7_goLines 7 = .ok (.bipush 50, 2) := by decide +kernel
theorem dX7_goLines_9 : decode cX7_goLines 9 = .ok (.if_icmp .gt 7, 3) := by decide +kernel
theorem dX7_goLines_12 : decode cX7_goLines 12 = .ok (.iload_n 1, 1) := by decide +kernel
theorem dX7_goLines_13 : decode cX7_goLines 13 = .ok (.ifCond .ne 13, 3) := by decide +kernel
theorem dX7_goLines_16 : decode cX7_goLines 16 = .ok (.new 40, 3) := by decide +kernel
theorem dX7_goLines_19 : decode cX7_goLines 19 = .ok (.dup, 1) := by decide +kernel
theorem dX7_goLines_20 : decode cX7_goLines 20 = .ok (.ldc 97, 2) := by decide +kernel
theorem dX7_goLines_22 : decode cX7_goLines 22 = .ok (.invokespecial 44, 3) := by decide +kernel
theorem dX7_goLines_25 : decode cX7_goLines 25 = .ok (.athrow, 1) := by decide +kernel
theorem dX7_goLines_26 : decode cX7_goLines 26 = .ok (.aload_n 0, 1) := by decide +kernel
theorem dX7_goLines_27 : decode cX7_goLines 27 = .ok (.getfield 19, 3) := by decide +kernel
theorem dX7_goLines_30 : decode cX7_goLines 30 = .ok (.aload_n 0, 1) := by decide +kernel
theorem dX7_goLines_31 : decode cX7_goLines 31 = .ok (.getfield 10, 3) := by decide +kernel
theorem dX7_goLines_34 : decode cX7_goLines 34 = .ok (.invokevirtual 47, 3) := by decide +kernel
theorem dX7_goLines_37 : decode cX7_goLines 37 = .ok (.aload_n 0, 1) := by decide +kernel
theorem dX7_goLines_38 : decode cX7_goLines 38 = .ok (.aload_n 0, 1) := by decide +kernel
theorem dX7_goLines_39 : decode cX7_goLines 39 = .ok (.getfield 10, 3) := by decide +kernel
theorem dX7_goLines_42 : decode cX7_goLines 42 = .ok (.iload_n 1, 1) := by decide +kernel
theorem dX7_goLines_43 : decode cX7_goLines 43 = .ok (.invokevirtual 99, 3) := by decide +kernel
theorem dX7_goLines_46 : decode cX7_goLines 46 = .ok (.invokevirtual 55, 3) := by decide +kernel
theorem dX7_goLines_49 : decode cX7_goLines 49 = .ok (.ireturn, 1) := by decide +kernel
theorem dX7_mark_0 : decode cX7_mark 0 = .ok (.aload_n 0, 1) := by decide +kernel
theorem dX7_mark_1 : decode cX7_mark 1 = .ok (.getfield 19, 3) := by decide +kernel
theorem dX7_mark_4 : decode cX7_mark 4 = .ok (.aload_n 0, 1) := by decide +kernel
theorem dX7_mark_5 : decode cX7_mark 5 = .ok (.getfield 10, 3) := by decide +kernel
theorem dX7_mark_8 : decode cX7_mark 8 = .ok (.invokevirtual 47, 3) := by decide +kernel
theorem dX7_mark_11 : decode cX7_mark 11 = .ok (.aload_n 0, 1) := by decide +kernel
theorem dX7_mark_12 : decode cX7_mark 12 = .ok (.aload_n 0, 1) := by decide +kernel
theorem dX7_mark_13 : decode cX7_mark 13 = .ok (.getfield 10, 3) := by decide +kernel
theorem dX7_mark_16 : decode cX7_mark 16 = .ok (.invokevirtual 102, 3) := by decide +kernel
theorem dX7_mark_19 : decode cX7_mark 19 = .ok (.invokevirtual 55, 3) := by decide +kernel
theorem dX7_mark_22 : decode cX7_mark 22 = .ok (.ireturn, 1) := by decide +kernel
theorem dX7_exchange_0 : decode cX7_exchange 0 = .ok (.aload_n 0, 1) := by decide +kernel
theorem dX7_exchange_1 : decode cX7_exchange 1 = .ok (.getfield 19, 3) := by decide +kernel
theorem dX7_exchange_4 : decode cX7_exchange 4 = .ok (.aload_n 0, 1) := by decide +kernel
theorem dX7_exchange_5 : decode cX7_exchange 5 = .ok (.getfield 10, 3) := by decide +kernel
theorem dX7_exchange_8 : decode cX7_exchange 8 = .ok (.invokevirtual 47, 3) := by decide +kernel
theorem dX7_exchange_11 : decode cX7_exchange 11 = .ok (.aload_n 0, 1) := by decide +kernel
theorem dX7_exchange_12 : decode cX7_exchange 12 = .ok (.aload_n 0, 1) := by decide +kernel
theorem dX7_exchange_13 : decode cX7_exchange 13 = .ok (.getfield 10, 3) := by decide +kernel
theorem dX7_exchange_16 : decode cX7_exchange 16 = .ok (.invokevirtual 105, 3) := by decide +kernel
theorem dX7_exchange_19 : decode cX7_exchange 19 = .ok (.invokevirtual 55, 3) := by decide +kernel
theorem dX7_exchange_22 : decode cX7_exchange 22 = .ok (.ireturn, 1) := by decide +kernel
theorem dX7_find_0 : decode cX7_find 0 = .ok (.aload_n 0, 1) := by decide +kernel
theorem dX7_find_1 : decode cX7_find 1 = .ok (.getfield 36, 3) := by decide +kernel
theorem dX7_find_4 : decode cX7_find 4 = .ok (.invokevirtual 77, 3) := by decide +kernel
theorem dX7_find_7 : decode cX7_find 7 = .ok (.ifCond .ne 13, 3) := by decide +kernel
theorem dX7_find_10 : decode cX7_find 10 = .ok (.new 40, 3) := by decide +kernel
theorem dX7_find_13 : decode cX7_find 13 = .ok (.dup, 1) := by decide +kernel
theorem dX7_find_14 : decode cX7_find 14 = .ok (.ldc 108, 2) := by decide +kernel
theorem dX7_find_16 : decode cX7_find 16 = .ok (.invokespecial 44, 3) := by decide +kernel
theorem dX7_find_19 : decode cX7_find 19 = .ok (.athrow, 1) := by decide +kernel
theorem dX7_find_20 : decode cX7_find 20 = .ok (.aload_n 0, 1) := by decide +kernel
theorem dX7_find_21 : decode cX7_find 21 = .ok (.getfield 19, 3) := by decide +kernel
theorem dX7_find_24 : decode cX7_find 24 = .ok (.aload_n 0, 1) := by decide +kernel
theorem dX7_find_25 : decode cX7_find 25 = .ok (.getfield 10, 3) := by decide +kernel
theorem dX7_find_28 : decode cX7_find 28 = .ok (.invokevirtual 47, 3) := by decide +kernel
theorem dX7_find_31 : decode cX7_find 31 = .ok (.aload_n 0, 1) := by decide +kernel
theorem dX7_find_32 : decode cX7_find 32 = .ok (.aload_n 0, 1) := by decide +kernel
theorem dX7_find_33 : decode cX7_find 33 = .ok (.getfield 10, 3) := by decide +kernel
theorem dX7_find_36 : decode cX7_find 36 = .ok (.aload_n 0, 1) := by decide +kernel
theorem dX7_find_37 : decode cX7_find 37 = .ok (.getfield 36, 3) := by decide +kernel
theorem dX7_find_40 : decode cX7_find 40 = .ok (.invokevirtual 110, 3) := by decide +kernel
theorem dX7_find_43 : decode cX7_find 43 = .ok (.invokevirtual 55, 3) := by decide +kernel
theorem dX7_find_46 : decode cX7_find 46 = .ok (.ireturn, 1) := by decide +kernel
theorem dX7_killWord_0 : decode cX7_killWord 0 = .ok (.aload_n 0, 1) := by decide +kernel
theorem dX7_killWord_1 : decode cX7_killWord 1 = .ok (.getfield 19, 3) := by decide +kernel
theorem dX7_killWord_4 : decode cX7_killWord 4 = .ok (.aload_n 0, 1) := by decide +kernel
theorem dX7_killWord_5 : decode cX7_killWord 5 = .ok (.getfield 10, 3) := by decide +kernel
theorem dX7_killWord_8 : decode cX7_killWord 8 = .ok (.invokevirtual 47, 3) := by decide +kernel
theorem dX7_killWord_11 : decode cX7_killWord 11 = .ok (.aload_n 0, 1) := by decide +kernel
theorem dX7_killWord_12 : decode cX7_killWord 12 = .ok (.aload_n 0, 1) := by decide +kernel
theorem dX7_killWord_13 : decode cX7_killWord 13 = .ok (.getfield 10, 3) := by decide +kernel
theorem dX7_killWord_16 : decode cX7_killWord 16 = .ok (.invokevirtual 114, 3) := by decide +kernel
theorem dX7_killWord_19 : decode cX7_killWord 19 = .ok (.invokevirtual 55, 3) := by decide +kernel
theorem dX7_killWord_22 : decode cX7_killWord 22 = .ok (.ireturn, 1) := by decide +kernel
theorem dX7_killBack_0 : decode cX7_killBack 0 = .ok (.aload_n 0, 1) := by decide +kernel
theorem dX7_killBack_1 : decode cX7_killBack 1 = .ok (.getfield 19, 3) := by decide +kernel
theorem dX7_killBack_4 : decode cX7_killBack 4 = .ok (.aload_n 0, 1) := by decide +kernel
theorem dX7_killBack_5 : decode cX7_killBack 5 = .ok (.getfield 10, 3) := by decide +kernel
theorem dX7_killBack_8 : decode cX7_killBack 8 = .ok (.invokevirtual 47, 3) := by decide +kernel
theorem dX7_killBack_11 : decode cX7_killBack 11 = .ok (.aload_n 0, 1) := by decide +kernel
theorem dX7_killBack_12 : decode cX7_killBack 12 = .ok (.aload_n 0, 1) := by decide +kernel
theorem dX7_killBack_13 : decode cX7_killBack 13 = .ok (.getfield 10, 3) := by decide +kernel
theorem dX7_killBack_16 : decode cX7_killBack 16 = .ok (.invokevirtual 117, 3) := by decide +kernel
theorem dX7_killBack_19 : decode cX7_killBack 19 = .ok (.invokevirtual 55, 3) := by decide +kernel
theorem dX7_killBack_22 : decode cX7_killBack 22 = .ok (.ireturn, 1) := by decide +kernel
theorem dX7_killLine_0 : decode cX7_killLine 0 = .ok (.aload_n 0, 1) := by decide +kernel
theorem dX7_killLine_1 : decode cX7_killLine 1 = .ok (.getfield 19, 3) := by decide +kernel
theorem dX7_killLine_4 : decode cX7_killLine 4 = .ok (.aload_n 0, 1) := by decide +kernel
theorem dX7_killLine_5 : decode cX7_killLine 5 = .ok (.getfield 10, 3) := by decide +kernel
theorem dX7_killLine_8 : decode cX7_killLine 8 = .ok (.invokevirtual 47, 3) := by decide +kernel
theorem dX7_killLine_11 : decode cX7_killLine 11 = .ok (.aload_n 0, 1) := by decide +kernel
theorem dX7_killLine_12 : decode cX7_killLine 12 = .ok (.aload_n 0, 1) := by decide +kernel
theorem dX7_killLine_13 : decode cX7_killLine 13 = .ok (.getfield 10, 3) := by decide +kernel
theorem dX7_killLine_16 : decode cX7_killLine 16 = .ok (.invokevirtual 120, 3) := by decide +kernel
theorem dX7_killLine_19 : decode cX7_killLine 19 = .ok (.invokevirtual 55, 3) := by decide +kernel
theorem dX7_killLine_22 : decode cX7_killLine 22 = .ok (.ireturn, 1) := by decide +kernel
theorem dX7_killBetween_0 : decode cX7_killBetween 0 = .ok (.aload_n 0, 1) := by decide +kernel
theorem dX7_killBetween_1 : decode cX7_killBetween 1 = .ok (.getfield 19, 3) := by decide +kernel
theorem dX7_killBetween_4 : decode cX7_killBetween 4 = .ok (.aload_n 0, 1) := by decide +kernel
theorem dX7_killBetween_5 : decode cX7_killBetween 5 = .ok (.getfield 10, 3) := by decide +kernel
theorem dX7_killBetween_8 : decode cX7_killBetween 8 = .ok (.invokevirtual 47, 3) := by decide +kernel
theorem dX7_killBetween_11 : decode cX7_killBetween 11 = .ok (.aload_n 0, 1) := by decide +kernel
theorem dX7_killBetween_12 : decode cX7_killBetween 12 = .ok (.aload_n 0, 1) := by decide +kernel
theorem dX7_killBetween_13 : decode cX7_killBetween 13 = .ok (.getfield 10, 3) := by decide +kernel
theorem dX7_killBetween_16 : decode cX7_killBetween 16 = .ok (.invokevirtual 123, 3) := by decide +kernel
theorem dX7_killBetween_19 : decode cX7_killBetween 19 = .ok (.invokevirtual 55, 3) := by decide +kernel
theorem dX7_killBetween_22 : decode cX7_killBetween 22 = .ok (.ireturn, 1) := by decide +kernel
theorem dX7_copyBetween_0 : decode cX7_copyBetween 0 = .ok (.aload_n 0, 1) := by decide +kernel
theorem dX7_copyBetween_1 : decode cX7_copyBetween 1 = .ok (.getfield 19, 3) := by decide +kernel
theorem dX7_copyBetween_4 : decode cX7_copyBetween 4 = .ok (.aload_n 0, 1) := by decide +kernel
theorem dX7_copyBetween_5 : decode cX7_copyBetween 5 = .ok (.getfield 10, 3) := by decide +kernel
theorem dX7_copyBetween_8 : decode cX7_copyBetween 8 = .ok (.invokevirtual 47, 3) := by decide +kernel
theorem dX7_copyBetween_11 : decode cX7_copyBetween 11 = .ok (.aload_n 0, 1) := by decide +kernel
theorem dX7_copyBetween_12 : decode cX7_copyBetween 12 = .ok (.aload_n 0, 1) := by decide +kernel
theorem dX7_copyBetween_13 : decode cX7_copyBetween 13 = .ok (.getfield 10, 3) := by decide +kernel
theorem dX7_copyBetween_16 : decode cX7_copyBetween 16 = .ok (.invokevirtual 126, 3) := by decide +kernel
theorem dX7_copyBetween_19 : decode cX7_copyBetween 19 = .ok (.invokevirtual 55, 3) := by decide +kernel
theorem dX7_copyBetween_22 : decode cX7_copyBetween 22 = .ok (.ireturn, 1) := by decide +kernel
theorem dX7_yank_0 : decode cX7_yank 0 = .ok (.aload_n 0, 1) := by decide +kernel
theorem dX7_yank_1 : decode cX7_yank 1 = .ok (.getfield 19, 3) := by decide +kernel
theorem dX7_yank_4 : decode cX7_yank 4 = .ok (.aload_n 0, 1) := by decide +kernel
theorem dX7_yank_5 : decode cX7_yank 5 = .ok (.getfield 10, 3) := by decide +kernel
theorem dX7_yank_8 : decode cX7_yank 8 = .ok (.invokevirtual 47, 3) := by decide +kernel
theorem dX7_yank_11 : decode cX7_yank 11 = .ok (.aload_n 0, 1) := by decide +kernel
theorem dX7_yank_12 : decode cX7_yank 12 = .ok (.aload_n 0, 1) := by decide +kernel
theorem dX7_yank_13 : decode cX7_yank 13 = .ok (.getfield 10, 3) := by decide +kernel
theorem dX7_yank_16 : decode cX7_yank 16 = .ok (.invokevirtual 129, 3) := by decide +kernel
theorem dX7_yank_19 : decode cX7_yank 19 = .ok (.invokevirtual 55, 3) := by decide +kernel
theorem dX7_yank_22 : decode cX7_yank 22 = .ok (.ireturn, 1) := by decide +kernel
theorem dX7_yankOther_0 : decode cX7_yankOther 0 = .ok (.aload_n 0, 1) := by decide +kernel
theorem dX7_yankOther_1 : decode cX7_yankOther 1 = .ok (.getfield 19, 3) := by decide +kernel
theorem dX7_yankOther_4 : decode cX7_yankOther 4 = .ok (.aload_n 0, 1) := by decide +kernel
theorem dX7_yankOther_5 : decode cX7_yankOther 5 = .ok (.getfield 10, 3) := by decide +kernel
theorem dX7_yankOther_8 : decode cX7_yankOther 8 = .ok (.invokevirtual 47, 3) := by decide +kernel
theorem dX7_yankOther_11 : decode cX7_yankOther 11 = .ok (.aload_n 0, 1) := by decide +kernel
theorem dX7_yankOther_12 : decode cX7_yankOther 12 = .ok (.aload_n 0, 1) := by decide +kernel
theorem dX7_yankOther_13 : decode cX7_yankOther 13 = .ok (.getfield 10, 3) := by decide +kernel
theorem dX7_yankOther_16 : decode cX7_yankOther 16 = .ok (.invokevirtual 132, 3) := by decide +kernel
theorem dX7_yankOther_19 : decode cX7_yankOther 19 = .ok (.invokevirtual 55, 3) := by decide +kernel
theorem dX7_yankOther_22 : decode cX7_yankOther 22 = .ok (.ireturn, 1) := by decide +kernel
theorem dX7_turn_0 : decode cX7_turn 0 = .ok (.iload_n 1, 1) := by decide +kernel
theorem dX7_turn_1 : decode cX7_turn 1 = .ok (.bipush (-20), 2) := by decide +kernel
theorem dX7_turn_3 : decode cX7_turn 3 = .ok (.if_icmp .lt 9, 3) := by decide +kernel
theorem dX7_turn_6 : decode cX7_turn 6 = .ok (.iload_n 1, 1) := by decide +kernel
theorem dX7_turn_7 : decode cX7_turn 7 = .ok (.bipush 20, 2) := by decide +kernel
theorem dX7_turn_9 : decode cX7_turn 9 = .ok (.if_icmp .le 13, 3) := by decide +kernel
theorem dX7_turn_12 : decode cX7_turn 12 = .ok (.new 40, 3) := by decide +kernel
theorem dX7_turn_15 : decode cX7_turn 15 = .ok (.dup, 1) := by decide +kernel
theorem dX7_turn_16 : decode cX7_turn 16 = .ok (.ldc 135, 2) := by decide +kernel
theorem dX7_turn_18 : decode cX7_turn 18 = .ok (.invokespecial 44, 3) := by decide +kernel
theorem dX7_turn_21 : decode cX7_turn 21 = .ok (.athrow, 1) := by decide +kernel
theorem dX7_turn_22 : decode cX7_turn 22 = .ok (.aload_n 0, 1) := by decide +kernel
theorem dX7_turn_23 : decode cX7_turn 23 = .ok (.getfield 19, 3) := by decide +kernel
theorem dX7_turn_26 : decode cX7_turn 26 = .ok (.aload_n 0, 1) := by decide +kernel
theorem dX7_turn_27 : decode cX7_turn 27 = .ok (.getfield 10, 3) := by decide +kernel
theorem dX7_turn_30 : decode cX7_turn 30 = .ok (.invokevirtual 47, 3) := by decide +kernel
theorem dX7_turn_33 : decode cX7_turn 33 = .ok (.aload_n 0, 1) := by decide +kernel
theorem dX7_turn_34 : decode cX7_turn 34 = .ok (.aload_n 0, 1) := by decide +kernel
theorem dX7_turn_35 : decode cX7_turn 35 = .ok (.getfield 10, 3) := by decide +kernel
theorem dX7_turn_38 : decode cX7_turn 38 = .ok (.iload_n 1, 1) := by decide +kernel
theorem dX7_turn_39 : decode cX7_turn 39 = .ok (.invokevirtual 137, 3) := by decide +kernel
theorem dX7_turn_42 : decode cX7_turn 42 = .ok (.invokevirtual 55, 3) := by decide +kernel
theorem dX7_turn_45 : decode cX7_turn 45 = .ok (.ireturn, 1) := by decide +kernel
theorem dX7_changeCaves_0 : decode cX7_changeCaves 0 = .ok (.iload_n 1, 1) := by decide +kernel
theorem dX7_changeCaves_1 : decode cX7_changeCaves 1 = .ok (.iconst 1, 1) := by decide +kernel
theorem dX7_changeCaves_2 : decode cX7_changeCaves 2 = .ok (.if_icmp .lt 9, 3) := by decide +kernel
theorem dX7_changeCaves_5 : decode cX7_changeCaves 5 = .ok (.iload_n 1, 1) := by decide +kernel
theorem dX7_changeCaves_6 : decode cX7_changeCaves 6 = .ok (.bipush 8, 2) := by decide +kernel
theorem dX7_changeCaves_8 : decode cX7_changeCaves 8 = .ok (.if_icmp .le 13, 3) := by decide +kernel
theorem dX7_changeCaves_11 : decode cX7_changeCaves 11 = .ok (.new 40, 3) := by decide +kernel
theorem dX7_changeCaves_14 : decode cX7_changeCaves 14 = .ok (.dup, 1) := by decide +kernel
theorem dX7_changeCaves_15 : decode cX7_changeCaves 15 = .ok (.ldc 140, 2) := by decide +kernel
theorem dX7_changeCaves_17 : decode cX7_changeCaves 17 = .ok (.invokespecial 44, 3) := by decide +kernel
theorem dX7_changeCaves_20 : decode cX7_changeCaves 20 = .ok (.athrow, 1) := by decide +kernel
theorem dX7_changeCaves_21 : decode cX7_changeCaves 21 = .ok (.aload_n 0, 1) := by decide +kernel
theorem dX7_changeCaves_22 : decode cX7_changeCaves 22 = .ok (.getfield 19, 3) := by decide +kernel
theorem dX7_changeCaves_25 : decode cX7_changeCaves 25 = .ok (.aload_n 0, 1) := by decide +kernel
theorem dX7_changeCaves_26 : decode cX7_changeCaves 26 = .ok (.getfield 10, 3) := by decide +kernel
theorem dX7_changeCaves_29 : decode cX7_changeCaves 29 = .ok (.invokevirtual 47, 3) := by decide +kernel
theorem dX7_changeCaves_32 : decode cX7_changeCaves 32 = .ok (.aload_n 0, 1) := by decide +kernel
theorem dX7_changeCaves_33 : decode cX7_changeCaves 33 = .ok (.aload_n 0, 1) := by decide +kernel
theorem dX7_changeCaves_34 : decode cX7_changeCaves 34 = .ok (.getfield 10, 3) := by decide +kernel
theorem dX7_changeCaves_37 : decode cX7_changeCaves 37 = .ok (.iload_n 1, 1) := by decide +kernel
theorem dX7_changeCaves_38 : decode cX7_changeCaves 38 = .ok (.invokevirtual 142, 3) := by decide +kernel
theorem dX7_changeCaves_41 : decode cX7_changeCaves 41 = .ok (.invokevirtual 55, 3) := by decide +kernel
theorem dX7_changeCaves_44 : decode cX7_changeCaves 44 = .ok (.ireturn, 1) := by decide +kernel
theorem dX7_append_0 : decode cX7_append 0 = .ok (.iload_n 1, 1) := by decide +kernel
theorem dX7_append_1 : decode cX7_append 1 = .ok (.bipush 32, 2) := by decide +kernel
theorem dX7_append_3 : decode cX7_append 3 = .ok (.if_icmp .le 9, 3) := by decide +kernel
theorem dX7_append_6 : decode cX7_append 6 = .ok (.iload_n 1, 1) := by decide +kernel
theorem dX7_append_7 : decode cX7_append 7 = .ok (.bipush 126, 2) := by decide +kernel
theorem dX7_append_9 : decode cX7_append 9 = .ok (.if_icmp .le 13, 3) := by decide +kernel
theorem dX7_append_12 : decode cX7_append 12 = .ok (.new 40, 3) := by decide +kernel
theorem dX7_append_15 : decode cX7_append 15 = .ok (.dup, 1) := by decide +kernel
theorem dX7_append_16 : decode cX7_append 16 = .ok (.ldc 42, 2) := by decide +kernel
theorem dX7_append_18 : decode cX7_append 18 = .ok (.invokespecial 44, 3) := by decide +kernel
theorem dX7_append_21 : decode cX7_append 21 = .ok (.athrow, 1) := by decide +kernel
theorem dX7_append_22 : decode cX7_append 22 = .ok (.aload_n 0, 1) := by decide +kernel
theorem dX7_append_23 : decode cX7_append 23 = .ok (.getfield 36, 3) := by decide +kernel
theorem dX7_append_26 : decode cX7_append 26 = .ok (.invokevirtual 145, 3) := by decide +kernel
theorem dX7_append_29 : decode cX7_append 29 = .ok (.ifCond .ne 13, 3) := by decide +kernel
theorem dX7_append_32 : decode cX7_append 32 = .ok (.new 148, 3) := by decide +kernel
theorem dX7_append_35 : decode cX7_append 35 = .ok (.dup, 1) := by decide +kernel
theorem dX7_append_36 : decode cX7_append 36 = .ok (.ldc 150, 2) := by decide +kernel
theorem dX7_append_38 : decode cX7_append 38 = .ok (.invokespecial 152, 3) := by decide +kernel
theorem dX7_append_41 : decode cX7_append 41 = .ok (.athrow, 1) := by decide +kernel
theorem dX7_append_42 : decode cX7_append 42 = .ok (.aload_n 0, 1) := by decide +kernel
theorem dX7_append_43 : decode cX7_append 43 = .ok (.getfield 36, 3) := by decide +kernel
theorem dX7_append_46 : decode cX7_append 46 = .ok (.aload_n 0, 1) := by decide +kernel
theorem dX7_append_47 : decode cX7_append 47 = .ok (.getfield 36, 3) := by decide +kernel
theorem dX7_append_50 : decode cX7_append 50 = .ok (.invokevirtual 77, 3) := by decide +kernel
theorem dX7_append_53 : decode cX7_append 53 = .ok (.iload_n 1, 1) := by decide +kernel
theorem dX7_append_54 : decode cX7_append 54 = .ok (.invokevirtual 153, 3) := by decide +kernel
theorem dX7_append_57 : decode cX7_append 57 = .ok (.aload_n 0, 1) := by decide +kernel
theorem dX7_append_58 : decode cX7_append 58 = .ok (.getfield 36, 3) := by decide +kernel
theorem dX7_append_61 : decode cX7_append 61 = .ok (.invokevirtual 77, 3) := by decide +kernel
theorem dX7_append_64 : decode cX7_append 64 = .ok (.ireturn, 1) := by decide +kernel
theorem dX7_clearBuffer_0 : decode cX7_clearBuffer 0 = .ok (.aload_n 0, 1) := by decide +kernel
theorem dX7_clearBuffer_1 : decode cX7_clearBuffer 1 = .ok (.getfield 36, 3) := by decide +kernel
theorem dX7_clearBuffer_4 : decode cX7_clearBuffer 4 = .ok (.invokevirtual 77, 3) := by decide +kernel
theorem dX7_clearBuffer_7 : decode cX7_clearBuffer 7 = .ok (.istore_n 1, 1) := by decide +kernel
theorem dX7_clearBuffer_8 : decode cX7_clearBuffer 8 = .ok (.aload_n 0, 1) := by decide +kernel
theorem dX7_clearBuffer_9 : decode cX7_clearBuffer 9 = .ok (.getfield 36, 3) := by decide +kernel
theorem dX7_clearBuffer_12 : decode cX7_clearBuffer 12 = .ok (.invokevirtual 157, 3) := by decide +kernel
theorem dX7_clearBuffer_15 : decode cX7_clearBuffer 15 = .ok (.iload_n 1, 1) := by decide +kernel
theorem dX7_clearBuffer_16 : decode cX7_clearBuffer 16 = .ok (.ireturn, 1) := by decide +kernel
theorem dX7_firstError_0 : decode cX7_firstError 0 = .ok (.iconst 0, 1) := by decide +kernel
theorem dX7_firstError_1 : decode cX7_firstError 1 = .ok (.istore_n 1, 1) := by decide +kernel
theorem dX7_firstError_2 : decode cX7_firstError 2 = .ok (.iconst 0, 1) := by decide +kernel
theorem dX7_firstError_3 : decode cX7_firstError 3 = .ok (.istore_n 2, 1) := by decide +kernel
theorem dX7_firstError_4 : decode cX7_firstError 4 = .ok (.iload_n 2, 1) := by decide +kernel
theorem dX7_firstError_5 : decode cX7_firstError 5 = .ok (.aload_n 0, 1) := by decide +kernel
theorem dX7_firstError_6 : decode cX7_firstError 6 = .ok (.getfield 36, 3) := by decide +kernel
theorem dX7_firstError_9 : decode cX7_firstError 9 = .ok (.invokevirtual 77, 3) := by decide +kernel
theorem dX7_firstError_12 : decode cX7_firstError 12 = .ok (.if_icmp .ge 29, 3) := by decide +kernel
theorem dX7_firstError_15 : decode cX7_firstError 15 = .ok (.iload_n 1, 1) := by decide +kernel
theorem dX7_firstError_16 : decode cX7_firstError 16 = .ok (.aload_n 0, 1) := by decide +kernel
theorem dX7_firstError_17 : decode cX7_firstError 17 = .ok (.getfield 36, 3) := by decide +kernel
theorem dX7_firstError_20 : decode cX7_firstError 20 = .ok (.iload_n 2, 1) := by decide +kernel
theorem dX7_firstError_21 : decode cX7_firstError 21 = .ok (.invokevirtual 160, 3) := by decide +kernel
theorem dX7_firstError_24 : decode cX7_firstError 24 = .ok (.invokestatic 163, 3) := by decide +kernel
theorem dX7_firstError_27 : decode cX7_firstError 27 = .ok (.istore_n 1, 1) := by decide +kernel
theorem dX7_firstError_28 : decode cX7_firstError 28 = .ok (.iload_n 1, 1) := by decide +kernel
theorem dX7_firstError_29 : decode cX7_firstError 29 = .ok (.iconst (-1), 1) := by decide +kernel
theorem dX7_firstError_30 : decode cX7_firstError 30 = .ok (.if_icmp .ne 5, 3) := by decide +kernel
theorem dX7_firstError_33 : decode cX7_firstError 33 = .ok (.iload_n 2, 1) := by decide +kernel
theorem dX7_firstError_34 : decode cX7_firstError 34 = .ok (.ireturn, 1) := by decide +kernel
theorem dX7_firstError_35 : decode cX7_firstError 35 = .ok (.iinc 2 1, 3) := by decide +kernel
theorem dX7_firstError_38 : decode cX7_firstError 38 = .ok (.goto (-34), 3) := by decide +kernel
theorem dX7_firstError_41 : decode cX7_firstError 41 = .ok (.aload_n 0, 1) := by decide +kernel
theorem dX7_firstError_42 : decode cX7_firstError 42 = .ok (.getfield 36, 3) := by decide +kernel
theorem dX7_firstError_45 : decode cX7_firstError 45 = .ok (.invokevirtual 77, 3) := by decide +kernel
theorem dX7_firstError_48 : decode cX7_firstError 48 = .ok (.ireturn, 1) := by decide +kernel
theorem dX7_perform_0 : decode cX7_perform 0 = .ok (.aload_n 0, 1) := by decide +kernel
theorem dX7_perform_1 : decode cX7_perform 1 = .ok (.invokevirtual 167, 3) := by decide +kernel
theorem dX7_perform_4 : decode cX7_perform 4 = .ok (.ifCond .ne 13, 3) := by decide +kernel
theorem dX7_perform_7 : decode cX7_perform 7 = .ok (.new 40, 3) := by decide +kernel
theorem dX7_perform_10 : decode cX7_perform 10 = .ok (.dup, 1) := by decide +kernel
theorem dX7_perform_11 : decode cX7_perform 11 = .ok (.ldc 171, 2) := by decide +kernel
theorem dX7_perform_13 : decode cX7_perform 13 = .ok (.invokespecial 44, 3) := by decide +kernel
theorem dX7_perform_16 : decode cX7_perform 16 = .ok (.athrow, 1) := by decide +kernel
theorem dX7_perform_17 : decode cX7_perform 17 = .ok (.aload_n 0, 1) := by decide +kernel
theorem dX7_perform_18 : decode cX7_perform 18 = .ok (.getfield 19, 3) := by decide +kernel
theorem dX7_perform_21 : decode cX7_perform 21 = .ok (.aload_n 0, 1) := by decide +kernel
theorem dX7_perform_22 : decode cX7_perform 22 = .ok (.getfield 10, 3) := by decide +kernel
theorem dX7_perform_25 : decode cX7_perform 25 = .ok (.invokevirtual 47, 3) := by decide +kernel
theorem dX7_perform_28 : decode cX7_perform 28 = .ok (.aload_n 0, 1) := by decide +kernel
theorem dX7_perform_29 : decode cX7_perform 29 = .ok (.invokevirtual 173, 3) := by decide +kernel
theorem dX7_perform_32 : decode cX7_perform 32 = .ok (.istore_n 1, 1) := by decide +kernel
theorem dX7_perform_33 : decode cX7_perform 33 = .ok (.iload_n 1, 1) := by decide +kernel
theorem dX7_perform_34 : decode cX7_perform 34 = .ok (.iconst (-1), 1) := by decide +kernel
theorem dX7_perform_35 : decode cX7_perform 35 = .ok (.if_icmp .ne 17, 3) := by decide +kernel
theorem dX7_perform_38 : decode cX7_perform 38 = .ok (.aload_n 0, 1) := by decide +kernel
theorem dX7_perform_39 : decode cX7_perform 39 = .ok (.getfield 10, 3) := by decide +kernel
theorem dX7_perform_42 : decode cX7_perform 42 = .ok (.aload_n 0, 1) := by decide +kernel
theorem dX7_perform_43 : decode cX7_perform 43 = .ok (.getfield 19, 3) := by decide +kernel
theorem dX7_perform_46 : decode cX7_perform 46 = .ok (.invokevirtual 176, 3) := by decide +kernel
theorem dX7_perform_49 : decode cX7_perform 49 = .ok (.invokevirtual 180, 3) := by decide +kernel
theorem dX7_perform_52 : decode cX7_perform 52 = .ok (.aload_n 0, 1) := by decide +kernel
theorem dX7_perform_53 : decode cX7_perform 53 = .ok (.iload_n 1, 1) := by decide +kernel
theorem dX7_perform_54 : decode cX7_perform 54 = .ok (.invokevirtual 55, 3) := by decide +kernel
theorem dX7_perform_57 : decode cX7_perform 57 = .ok (.pop, 1) := by decide +kernel
theorem dX7_perform_58 : decode cX7_perform 58 = .ok (.aload_n 0, 1) := by decide +kernel
theorem dX7_perform_59 : decode cX7_perform 59 = .ok (.getfield 36, 3) := by decide +kernel
theorem dX7_perform_62 : decode cX7_perform 62 = .ok (.invokevirtual 157, 3) := by decide +kernel
theorem dX7_perform_65 : decode cX7_perform 65 = .ok (.iload_n 1, 1) := by decide +kernel
theorem dX7_perform_66 : decode cX7_perform 66 = .ok (.ireturn, 1) := by decide +kernel
theorem dX7_keep_0 : decode cX7_keep 0 = .ok (.iload_n 1, 1) := by decide +kernel
theorem dX7_keep_1 : decode cX7_keep 1 = .ok (.ifCond .lt 8, 3) := by decide +kernel
theorem dX7_keep_4 : decode cX7_keep 4 = .ok (.iload_n 1, 1) := by decide +kernel
theorem dX7_keep_5 : decode cX7_keep 5 = .ok (.iconst 2, 1) := by decide +kernel
theorem dX7_keep_6 : decode cX7_keep 6 = .ok (.if_icmp .lt 13, 3) := by decide +kernel
theorem dX7_keep_9 : decode cX7_keep 9 = .ok (.new 40, 3) := by decide +kernel
theorem dX7_keep_12 : decode cX7_keep 12 = .ok (.dup, 1) := by decide +kernel
theorem dX7_keep_13 : decode cX7_keep 13 = .ok (.ldc 183, 2) := by decide +kernel
theorem dX7_keep_15 : decode cX7_keep 15 = .ok (.invokespecial 44, 3) := by decide +kernel
theorem dX7_keep_18 : decode cX7_keep 18 = .ok (.athrow, 1) := by decide +kernel
theorem dX7_keep_19 : decode cX7_keep 19 = .ok (.aload_n 0, 1) := by decide +kernel
theorem dX7_keep_20 : decode cX7_keep 20 = .ok (.getfield 23, 3) := by decide +kernel
theorem dX7_keep_23 : decode cX7_keep 23 = .ok (.iload_n 1, 1) := by decide +kernel
theorem dX7_keep_24 : decode cX7_keep 24 = .ok (.aaload, 1) := by decide +kernel
theorem dX7_keep_25 : decode cX7_keep 25 = .ok (.aload_n 0, 1) := by decide +kernel
theorem dX7_keep_26 : decode cX7_keep 26 = .ok (.getfield 10, 3) := by decide +kernel
theorem dX7_keep_29 : decode cX7_keep 29 = .ok (.invokevirtual 180, 3) := by decide +kernel
theorem dX7_keep_32 : decode cX7_keep 32 = .ok (.aload_n 0, 1) := by decide +kernel
theorem dX7_keep_33 : decode cX7_keep 33 = .ok (.getfield 27, 3) := by decide +kernel
theorem dX7_keep_36 : decode cX7_keep 36 = .ok (.iload_n 1, 1) := by decide +kernel
theorem dX7_keep_37 : decode cX7_keep 37 = .ok (.iconst 1, 1) := by decide +kernel
theorem dX7_keep_38 : decode cX7_keep 38 = .ok (.bastore, 1) := by decide +kernel
theorem dX7_keep_39 : decode cX7_keep 39 = .ok (.return_, 1) := by decide +kernel
theorem dX7_goBack_0 : decode cX7_goBack 0 = .ok (.iload_n 1, 1) := by decide +kernel
theorem dX7_goBack_1 : decode cX7_goBack 1 = .ok (.ifCond .lt 8, 3) := by decide +kernel
theorem dX7_goBack_4 : decode cX7_goBack 4 = .ok (.iload_n 1, 1) := by decide +kernel
theorem dX7_goBack_5 : decode cX7_goBack 5 = .ok (.iconst 2, 1) := by decide +kernel
theorem dX7_goBack_6 : decode cX7_goBack 6 = .ok (.if_icmp .lt 13, 3) := by decide +kernel
theorem dX7_goBack_9 : decode cX7_goBack 9 = .ok (.new 40, 3) := by decide +kernel
theorem dX7_goBack_12 : decode cX7_goBack 12 = .ok (.dup, 1) := by decide +kernel
theorem dX7_goBack_13 : decode cX7_goBack 13 = .ok (.ldc 183, 2) := by decide +kernel
theorem dX7_goBack_15 : decode cX7_goBack 15 = .ok (.invokespecial 44, 3) := by decide +kernel
theorem dX7_goBack_18 : decode cX7_goBack 18 = .ok (.athrow, 1) := by decide +kernel
theorem dX7_goBack_19 : decode cX7_goBack 19 = .ok (.aload_n 0, 1) := by decide +kernel
theorem dX7_goBack_20 : decode cX7_goBack 20 = .ok (.getfield 27, 3) := by decide +kernel
theorem dX7_goBack_23 : decode cX7_goBack 23 = .ok (.iload_n 1, 1) := by decide +kernel
theorem dX7_goBack_24 : decode cX7_goBack 24 = .ok (.baload, 1) := by decide +kernel
theorem dX7_goBack_25 : decode cX7_goBack 25 = .ok (.ifCond .ne 13, 3) := by decide +kernel
theorem dX7_goBack_28 : decode cX7_goBack 28 = .ok (.new 148, 3) := by decide +kernel
theorem dX7_goBack_31 : decode cX7_goBack 31 = .ok (.dup, 1) := by decide +kernel
theorem dX7_goBack_32 : decode cX7_goBack 32 = .ok (.ldc 185, 2) := by decide +kernel
theorem dX7_goBack_34 : decode cX7_goBack 34 = .ok (.invokespecial 152, 3) := by decide +kernel
theorem dX7_goBack_37 : decode cX7_goBack 37 = .ok (.athrow, 1) := by decide +kernel
theorem dX7_goBack_38 : decode cX7_goBack 38 = .ok (.aload_n 0, 1) := by decide +kernel
theorem dX7_goBack_39 : decode cX7_goBack 39 = .ok (.getfield 19, 3) := by decide +kernel
theorem dX7_goBack_42 : decode cX7_goBack 42 = .ok (.aload_n 0, 1) := by decide +kernel
theorem dX7_goBack_43 : decode cX7_goBack 43 = .ok (.getfield 10, 3) := by decide +kernel
theorem dX7_goBack_46 : decode cX7_goBack 46 = .ok (.invokevirtual 47, 3) := by decide +kernel
theorem dX7_goBack_49 : decode cX7_goBack 49 = .ok (.aload_n 0, 1) := by decide +kernel
theorem dX7_goBack_50 : decode cX7_goBack 50 = .ok (.getfield 19, 3) := by decide +kernel
theorem dX7_goBack_53 : decode cX7_goBack 53 = .ok (.invokevirtual 187, 3) := by decide +kernel
theorem dX7_goBack_56 : decode cX7_goBack 56 = .ok (.aload_n 0, 1) := by decide +kernel
theorem dX7_goBack_57 : decode cX7_goBack 57 = .ok (.getfield 10, 3) := by decide +kernel
theorem dX7_goBack_60 : decode cX7_goBack 60 = .ok (.aload_n 0, 1) := by decide +kernel
theorem dX7_goBack_61 : decode cX7_goBack 61 = .ok (.getfield 23, 3) := by decide +kernel
theorem dX7_goBack_64 : decode cX7_goBack 64 = .ok (.iload_n 1, 1) := by decide +kernel
theorem dX7_goBack_65 : decode cX7_goBack 65 = .ok (.aaload, 1) := by decide +kernel
theorem dX7_goBack_66 : decode cX7_goBack 66 = .ok (.invokevirtual 190, 3) := by decide +kernel
theorem dX7_goBack_69 : decode cX7_goBack 69 = .ok (.return_, 1) := by decide +kernel
theorem dX7_undo_0 : decode cX7_undo 0 = .ok (.aload_n 0, 1) := by decide +kernel
theorem dX7_undo_1 : decode cX7_undo 1 = .ok (.getfield 19, 3) := by decide +kernel
theorem dX7_undo_4 : decode cX7_undo 4 = .ok (.invokevirtual 193, 3) := by decide +kernel
theorem dX7_undo_7 : decode cX7_undo 7 = .ok (.ifCond .ne 13, 3) := by decide +kernel
theorem dX7_undo_10 : decode cX7_undo 10 = .ok (.new 148, 3) := by decide +kernel
theorem dX7_undo_13 : decode cX7_undo 13 = .ok (.dup, 1) := by decide +kernel
theorem dX7_undo_14 : decode cX7_undo 14 = .ok (.ldc 194, 2) := by decide +kernel
theorem dX7_undo_16 : decode cX7_undo 16 = .ok (.invokespecial 152, 3) := by decide +kernel
theorem dX7_undo_19 : decode cX7_undo 19 = .ok (.athrow, 1) := by decide +kernel
theorem dX7_undo_20 : decode cX7_undo 20 = .ok (.aload_n 0, 1) := by decide +kernel
theorem dX7_undo_21 : decode cX7_undo 21 = .ok (.getfield 10, 3) := by decide +kernel
theorem dX7_undo_24 : decode cX7_undo 24 = .ok (.aload_n 0, 1) := by decide +kernel
theorem dX7_undo_25 : decode cX7_undo 25 = .ok (.getfield 19, 3) := by decide +kernel
theorem dX7_undo_28 : decode cX7_undo 28 = .ok (.invokevirtual 196, 3) := by decide +kernel
theorem dX7_undo_31 : decode cX7_undo 31 = .ok (.invokevirtual 190, 3) := by decide +kernel
theorem dX7_undo_34 : decode cX7_undo 34 = .ok (.aload_n 0, 1) := by decide +kernel
theorem dX7_undo_35 : decode cX7_undo 35 = .ok (.getfield 19, 3) := by decide +kernel
theorem dX7_undo_38 : decode cX7_undo 38 = .ok (.invokevirtual 199, 3) := by decide +kernel
theorem dX7_undo_41 : decode cX7_undo 41 = .ok (.return_, 1) := by decide +kernel
theorem dX7_savedStates_0 : decode cX7_savedStates 0 = .ok (.aload_n 0, 1) := by decide +kernel
theorem dX7_savedStates_1 : decode cX7_savedStates 1 = .ok (.getfield 19, 3) := by decide +kernel
theorem dX7_savedStates_4 : decode cX7_savedStates 4 = .ok (.invokevirtual 193, 3) := by decide +kernel
theorem dX7_savedStates_7 : decode cX7_savedStates 7 = .ok (.ireturn, 1) := by decide +kernel
theorem dX7_length_0 : decode cX7_length 0 = .ok (.aload_n 0, 1) := by decide +kernel
theorem dX7_length_1 : decode cX7_length 1 = .ok (.getfield 10, 3) := by decide +kernel
theorem dX7_length_4 : decode cX7_length 4 = .ok (.getfield 68, 3) := by decide +kernel
theorem dX7_length_7 : decode cX7_length 7 = .ok (.getfield 72, 3) := by decide +kernel
theorem dX7_length_10 : decode cX7_length 10 = .ok (.invokevirtual 77, 3) := by decide +kernel
theorem dX7_length_13 : decode cX7_length 13 = .ok (.ireturn, 1) := by decide +kernel
theorem dX7_codeAt_0 : decode cX7_codeAt 0 = .ok (.aload_n 0, 1) := by decide +kernel
theorem dX7_codeAt_1 : decode cX7_codeAt 1 = .ok (.getfield 10, 3) := by decide +kernel
theorem dX7_codeAt_4 : decode cX7_codeAt 4 = .ok (.getfield 68, 3) := by decide +kernel
theorem dX7_codeAt_7 : decode cX7_codeAt 7 = .ok (.getfield 72, 3) := by decide +kernel
theorem dX7_codeAt_10 : decode cX7_codeAt 10 = .ok (.iload_n 1, 1) := by decide +kernel
theorem dX7_codeAt_11 : decode cX7_codeAt 11 = .ok (.invokevirtual 160, 3) := by decide +kernel
theorem dX7_codeAt_14 : decode cX7_codeAt 14 = .ok (.invokestatic 202, 3) := by decide +kernel
theorem dX7_codeAt_17 : decode cX7_codeAt 17 = .ok (.ireturn, 1) := by decide +kernel
theorem dX7_point_0 : decode cX7_point 0 = .ok (.aload_n 0, 1) := by decide +kernel
theorem dX7_point_1 : decode cX7_point 1 = .ok (.getfield 10, 3) := by decide +kernel
theorem dX7_point_4 : decode cX7_point 4 = .ok (.getfield 68, 3) := by decide +kernel
theorem dX7_point_7 : decode cX7_point 7 = .ok (.getfield 205, 3) := by decide +kernel
theorem dX7_point_10 : decode cX7_point 10 = .ok (.ireturn, 1) := by decide +kernel
theorem dX7_markAt_0 : decode cX7_markAt 0 = .ok (.aload_n 0, 1) := by decide +kernel
theorem dX7_markAt_1 : decode cX7_markAt 1 = .ok (.getfield 10, 3) := by decide +kernel
theorem dX7_markAt_4 : decode cX7_markAt 4 = .ok (.getfield 68, 3) := by decide +kernel
theorem dX7_markAt_7 : decode cX7_markAt 7 = .ok (.getfield 209, 3) := by decide +kernel
theorem dX7_markAt_10 : decode cX7_markAt 10 = .ok (.invokestatic 212, 3) := by decide +kernel
theorem dX7_markAt_13 : decode cX7_markAt 13 = .ok (.ireturn, 1) := by decide +kernel
theorem dX7_between_0 : decode cX7_between 0 = .ok (.aload_n 0, 1) := by decide +kernel
theorem dX7_between_1 : decode cX7_between 1 = .ok (.getfield 10, 3) := by decide +kernel
theorem dX7_between_4 : decode cX7_between 4 = .ok (.getfield 68, 3) := by decide +kernel
theorem dX7_between_7 : decode cX7_between 7 = .ok (.invokevirtual 215, 3) := by decide +kernel
theorem dX7_between_10 : decode cX7_between 10 = .ok (.invokestatic 212, 3) := by decide +kernel
theorem dX7_between_13 : decode cX7_between 13 = .ok (.ireturn, 1) := by decide +kernel
theorem dX7_linesByEnds_0 : decode cX7_linesByEnds 0 = .ok (.aload_n 0, 1) := by decide +kernel
theorem dX7_linesByEnds_1 : decode cX7_linesByEnds 1 = .ok (.getfield 10, 3) := by decide +kernel
theorem dX7_linesByEnds_4 : decode cX7_linesByEnds 4 = .ok (.getfield 68, 3) := by decide +kernel
theorem dX7_linesByEnds_7 : decode cX7_linesByEnds 7 = .ok (.aload_n 0, 1) := by decide +kernel
theorem dX7_linesByEnds_8 : decode cX7_linesByEnds 8 = .ok (.getfield 10, 3) := by decide +kernel
theorem dX7_linesByEnds_11 : decode cX7_linesByEnds 11 = .ok (.getfield 68, 3) := by decide +kernel
theorem dX7_linesByEnds_14 : decode cX7_linesByEnds 14 = .ok (.getfield 72, 3) := by decide +kernel
theorem dX7_linesByEnds_17 : decode cX7_linesByEnds 17 = .ok (.invokevirtual 77, 3) := by decide +kernel
theorem dX7_linesByEnds_20 : decode cX7_linesByEnds 20 = .ok (.invokevirtual 218, 3) := by decide +kernel
theorem dX7_linesByEnds_23 : decode cX7_linesByEnds 23 = .ok (.iconst 1, 1) := by decide +kernel
theorem dX7_linesByEnds_24 : decode cX7_linesByEnds 24 = .ok (.iadd, 1) := by decide +kernel
theorem dX7_linesByEnds_25 : decode cX7_linesByEnds 25 = .ok (.ireturn, 1) := by decide +kernel
theorem dX7_linesByGoing_0 : decode cX7_linesByGoing 0 = .ok (.aload_n 0, 1) := by decide +kernel
theorem dX7_linesByGoing_1 : decode cX7_linesByGoing 1 = .ok (.getfield 10, 3) := by decide +kernel
theorem dX7_linesByGoing_4 : decode cX7_linesByGoing 4 = .ok (.getfield 68, 3) := by decide +kernel
theorem dX7_linesByGoing_7 : decode cX7_linesByGoing 7 = .ok (.invokevirtual 221, 3) := by decide +kernel
theorem dX7_linesByGoing_10 : decode cX7_linesByGoing 10 = .ok (.ireturn, 1) := by decide +kernel
theorem dX7_line_0 : decode cX7_line 0 = .ok (.aload_n 0, 1) := by decide +kernel
theorem dX7_line_1 : decode cX7_line 1 = .ok (.getfield 10, 3) := by decide +kernel
theorem dX7_line_4 : decode cX7_line 4 = .ok (.getfield 68, 3) := by decide +kernel
theorem dX7_line_7 : decode cX7_line 7 = .ok (.aload_n 0, 1) := by decide +kernel
theorem dX7_line_8 : decode cX7_line 8 = .ok (.getfield 10, 3) := by decide +kernel
theorem dX7_line_11 : decode cX7_line 11 = .ok (.getfield 68, 3) := by decide +kernel
theorem dX7_line_14 : decode cX7_line 14 = .ok (.getfield 205, 3) := by decide +kernel
theorem dX7_line_17 : decode cX7_line 17 = .ok (.invokevirtual 218, 3) := by decide +kernel
theorem dX7_line_20 : decode cX7_line 20 = .ok (.ireturn, 1) := by decide +kernel
theorem dX7_column_0 : decode cX7_column 0 = .ok (.aload_n 0, 1) := by decide +kernel
theorem dX7_column_1 : decode cX7_column 1 = .ok (.getfield 10, 3) := by decide +kernel
theorem dX7_column_4 : decode cX7_column 4 = .ok (.getfield 68, 3) := by decide +kernel
theorem dX7_column_7 : decode cX7_column 7 = .ok (.getfield 205, 3) := by decide +kernel
theorem dX7_column_10 : decode cX7_column 10 = .ok (.aload_n 0, 1) := by decide +kernel
theorem dX7_column_11 : decode cX7_column 11 = .ok (.getfield 10, 3) := by decide +kernel
theorem dX7_column_14 : decode cX7_column 14 = .ok (.getfield 68, 3) := by decide +kernel
theorem dX7_column_17 : decode cX7_column 17 = .ok (.aload_n 0, 1) := by decide +kernel
theorem dX7_column_18 : decode cX7_column 18 = .ok (.getfield 10, 3) := by decide +kernel
theorem dX7_column_21 : decode cX7_column 21 = .ok (.getfield 68, 3) := by decide +kernel
theorem dX7_column_24 : decode cX7_column 24 = .ok (.getfield 205, 3) := by decide +kernel
theorem dX7_column_27 : decode cX7_column 27 = .ok (.invokevirtual 224, 3) := by decide +kernel
theorem dX7_column_30 : decode cX7_column 30 = .ok (.isub, 1) := by decide +kernel
theorem dX7_column_31 : decode cX7_column 31 = .ok (.ireturn, 1) := by decide +kernel
theorem dX7_longestLine_0 : decode cX7_longestLine 0 = .ok (.aload_n 0, 1) := by decide +kernel
theorem dX7_longestLine_1 : decode cX7_longestLine 1 = .ok (.getfield 10, 3) := by decide +kernel
theorem dX7_longestLine_4 : decode cX7_longestLine 4 = .ok (.getfield 68, 3) := by decide +kernel
theorem dX7_longestLine_7 : decode cX7_longestLine 7 = .ok (.invokevirtual 227, 3) := by decide +kernel
theorem dX7_longestLine_10 : decode cX7_longestLine 10 = .ok (.ireturn, 1) := by decide +kernel
theorem dX7_wordsByBegins_0 : decode cX7_wordsByBegins 0 = .ok (.aload_n 0, 1) := by decide +kernel
theorem dX7_wordsByBegins_1 : decode cX7_wordsByBegins 1 = .ok (.getfield 10, 3) := by decide +kernel
theorem dX7_wordsByBegins_4 : decode cX7_wordsByBegins 4 = .ok (.getfield 68, 3) := by decide +kernel
theorem dX7_wordsByBegins_7 : decode cX7_wordsByBegins 7 = .ok (.invokevirtual 230, 3) := by decide +kernel
theorem dX7_wordsByBegins_10 : decode cX7_wordsByBegins 10 = .ok (.ireturn, 1) := by decide +kernel
theorem dX7_wordsByGoing_0 : decode cX7_wordsByGoing 0 = .ok (.aload_n 0, 1) := by decide +kernel
theorem dX7_wordsByGoing_1 : decode cX7_wordsByGoing 1 = .ok (.getfield 10, 3) := by decide +kernel
theorem dX7_wordsByGoing_4 : decode cX7_wordsByGoing 4 = .ok (.getfield 68, 3) := by decide +kernel
theorem dX7_wordsByGoing_7 : decode cX7_wordsByGoing 7 = .ok (.invokevirtual 233, 3) := by decide +kernel
theorem dX7_wordsByGoing_10 : decode cX7_wordsByGoing 10 = .ok (.ireturn, 1) := by decide +kernel
theorem dX7_hoards_0 : decode cX7_hoards 0 = .ok (.aload_n 0, 1) := by decide +kernel
theorem dX7_hoards_1 : decode cX7_hoards 1 = .ok (.getfield 10, 3) := by decide +kernel
theorem dX7_hoards_4 : decode cX7_hoards 4 = .ok (.getfield 236, 3) := by decide +kernel
theorem dX7_hoards_7 : decode cX7_hoards 7 = .ok (.getfield 240, 3) := by decide +kernel
theorem dX7_hoards_10 : decode cX7_hoards 10 = .ok (.ireturn, 1) := by decide +kernel
theorem dX7_caves_0 : decode cX7_caves 0 = .ok (.aload_n 0, 1) := by decide +kernel
theorem dX7_caves_1 : decode cX7_caves 1 = .ok (.getfield 10, 3) := by decide +kernel
theorem dX7_caves_4 : decode cX7_caves 4 = .ok (.getfield 236, 3) := by decide +kernel
theorem dX7_caves_7 : decode cX7_caves 7 = .ok (.getfield 244, 3) := by decide +kernel
theorem dX7_caves_10 : decode cX7_caves 10 = .ok (.ireturn, 1) := by decide +kernel
theorem dX7_lengthOf_0 : decode cX7_lengthOf 0 = .ok (.aload_n 0, 1) := by decide +kernel
theorem dX7_lengthOf_1 : decode cX7_lengthOf 1 = .ok (.getfield 10, 3) := by decide +kernel
theorem dX7_lengthOf_4 : decode cX7_lengthOf 4 = .ok (.getfield 236, 3) := by decide +kernel
theorem dX7_lengthOf_7 : decode cX7_lengthOf 7 = .ok (.iload_n 1, 1) := by decide +kernel
theorem dX7_lengthOf_8 : decode cX7_lengthOf 8 = .ok (.invokevirtual 247, 3) := by decide +kernel
theorem dX7_lengthOf_11 : decode cX7_lengthOf 11 = .ok (.invokestatic 202, 3) := by decide +kernel
theorem dX7_lengthOf_14 : decode cX7_lengthOf 14 = .ok (.ireturn, 1) := by decide +kernel
theorem dX7_codeIn_0 : decode cX7_codeIn 0 = .ok (.aload_n 0, 1) := by decide +kernel
theorem dX7_codeIn_1 : decode cX7_codeIn 1 = .ok (.getfield 10, 3) := by decide +kernel
theorem dX7_codeIn_4 : decode cX7_codeIn 4 = .ok (.getfield 236, 3) := by decide +kernel
theorem dX7_codeIn_7 : decode cX7_codeIn 7 = .ok (.iload_n 1, 1) := by decide +kernel
theorem dX7_codeIn_8 : decode cX7_codeIn 8 = .ok (.invokevirtual 250, 3) := by decide +kernel
theorem dX7_codeIn_11 : decode cX7_codeIn 11 = .ok (.iload_n 2, 1) := by decide +kernel
theorem dX7_codeIn_12 : decode cX7_codeIn 12 = .ok (.invokevirtual 160, 3) := by decide +kernel
theorem dX7_codeIn_15 : decode cX7_codeIn 15 = .ok (.invokestatic 202, 3) := by decide +kernel
theorem dX7_codeIn_18 : decode cX7_codeIn 18 = .ok (.ireturn, 1) := by decide +kernel
theorem dX7_nextHoard_0 : decode cX7_nextHoard 0 = .ok (.aload_n 0, 1) := by decide +kernel
theorem dX7_nextHoard_1 : decode cX7_nextHoard 1 = .ok (.getfield 10, 3) := by decide +kernel
theorem dX7_nextHoard_4 : decode cX7_nextHoard 4 = .ok (.getfield 236, 3) := by decide +kernel
theorem dX7_nextHoard_7 : decode cX7_nextHoard 7 = .ok (.getfield 254, 3) := by decide +kernel
theorem dX7_nextHoard_10 : decode cX7_nextHoard 10 = .ok (.invokestatic 212, 3) := by decide +kernel
theorem dX7_nextHoard_13 : decode cX7_nextHoard 13 = .ok (.ireturn, 1) := by decide +kernel
theorem dX7_isGrowing_0 : decode cX7_isGrowing 0 = .ok (.aload_n 0, 1) := by decide +kernel
theorem dX7_isGrowing_1 : decode cX7_isGrowing 1 = .ok (.getfield 10, 3) := by decide +kernel
theorem dX7_isGrowing_4 : decode cX7_isGrowing 4 = .ok (.getfield 257, 3) := by decide +kernel
theorem dX7_isGrowing_7 : decode cX7_isGrowing 7 = .ok (.iconst 1, 1) := by decide +kernel
theorem dX7_isGrowing_8 : decode cX7_isGrowing 8 = .ok (.if_icmp .ne 7, 3) := by decide +kernel
theorem dX7_isGrowing_11 : decode cX7_isGrowing 11 = .ok (.iconst 1, 1) := by decide +kernel
theorem dX7_isGrowing_12 : decode cX7_isGrowing 12 = .ok (.goto 4, 3) := by decide +kernel
theorem dX7_isGrowing_15 : decode cX7_isGrowing 15 = .ok (.iconst 0, 1) := by decide +kernel
theorem dX7_isGrowing_16 : decode cX7_isGrowing 16 = .ok (.ireturn, 1) := by decide +kernel
theorem dX7_canTurnYank_0 : decode cX7_canTurnYank 0 = .ok (.aload_n 0, 1) := by decide +kernel
theorem dX7_canTurnYank_1 : decode cX7_canTurnYank 1 = .ok (.getfield 10, 3) := by decide +kernel
theorem dX7_canTurnYank_4 : decode cX7_canTurnYank 4 = .ok (.getfield 257, 3) := by decide +kernel
theorem dX7_canTurnYank_7 : decode cX7_canTurnYank 7 = .ok (.iconst 2, 1) := by decide +kernel
theorem dX7_canTurnYank_8 : decode cX7_canTurnYank 8 = .ok (.if_icmp .ne 7, 3) := by decide +kernel
theorem dX7_canTurnYank_11 : decode cX7_canTurnYank 11 = .ok (.iconst 1, 1) := by decide +kernel
theorem dX7_canTurnYank_12 : decode cX7_canTurnYank 12 = .ok (.goto 4, 3) := by decide +kernel
theorem dX7_canTurnYank_15 : decode cX7_canTurnYank 15 = .ok (.iconst 0, 1) := by decide +kernel
theorem dX7_canTurnYank_16 : decode cX7_canTurnYank 16 = .ok (.ireturn, 1) := by decide +kernel
theorem dX7_lengthIfYanked_0 : decode cX7_lengthIfYanked 0 = .ok (.aload_n 0, 1) := by decide +kernel
theorem dX7_lengthIfYanked_1 : decode cX7_lengthIfYanked 1 = .ok (.getfield 10, 3) := by decide +kernel
theorem dX7_lengthIfYanked_4 : decode cX7_lengthIfYanked 4 = .ok (.getfield 68, 3) := by decide +kernel
theorem dX7_lengthIfYanked_7 : decode cX7_lengthIfYanked 7 = .ok (.getfield 72, 3) := by decide +kernel
theorem dX7_lengthIfYanked_10 : decode cX7_lengthIfYanked 10 = .ok (.invokevirtual 77, 3) := by decide +kernel
theorem dX7_lengthIfYanked_13 : decode cX7_lengthIfYanked 13 = .ok (.aload_n 0, 1) := by decide +kernel
theorem dX7_lengthIfYanked_14 : decode cX7_lengthIfYanked 14 = .ok (.getfield 10, 3) := by decide +kernel
theorem dX7_lengthIfYanked_17 : decode cX7_lengthIfYanked 17 = .ok (.getfield 236, 3) := by decide +kernel
theorem dX7_lengthIfYanked_20 : decode cX7_lengthIfYanked 20 = .ok (.iload_n 1, 1) := by decide +kernel
theorem dX7_lengthIfYanked_21 : decode cX7_lengthIfYanked 21 = .ok (.invokevirtual 247, 3) := by decide +kernel
theorem dX7_lengthIfYanked_24 : decode cX7_lengthIfYanked 24 = .ok (.invokestatic 202, 3) := by decide +kernel
theorem dX7_lengthIfYanked_27 : decode cX7_lengthIfYanked 27 = .ok (.iadd, 1) := by decide +kernel
theorem dX7_lengthIfYanked_28 : decode cX7_lengthIfYanked 28 = .ok (.ireturn, 1) := by decide +kernel
theorem dX7_weight_0 : decode cX7_weight 0 = .ok (.aload_n 0, 1) := by decide +kernel
theorem dX7_weight_1 : decode cX7_weight 1 = .ok (.getfield 10, 3) := by decide +kernel
theorem dX7_weight_4 : decode cX7_weight 4 = .ok (.getfield 236, 3) := by decide +kernel
theorem dX7_weight_7 : decode cX7_weight 7 = .ok (.invokevirtual 260, 3) := by decide +kernel
theorem dX7_weight_10 : decode cX7_weight 10 = .ok (.ireturn, 1) := by decide +kernel
theorem dX7_heaviest_0 : decode cX7_heaviest 0 = .ok (.aload_n 0, 1) := by decide +kernel
theorem dX7_heaviest_1 : decode cX7_heaviest 1 = .ok (.getfield 10, 3) := by decide +kernel
theorem dX7_heaviest_4 : decode cX7_heaviest 4 = .ok (.getfield 236, 3) := by decide +kernel
theorem dX7_heaviest_7 : decode cX7_heaviest 7 = .ok (.invokevirtual 263, 3) := by decide +kernel
theorem dX7_heaviest_10 : decode cX7_heaviest 10 = .ok (.invokestatic 212, 3) := by decide +kernel
theorem dX7_heaviest_13 : decode cX7_heaviest 13 = .ok (.ireturn, 1) := by decide +kernel
theorem dX7_killed_0 : decode cX7_killed 0 = .ok (.aload_n 0, 1) := by decide +kernel
theorem dX7_killed_1 : decode cX7_killed 1 = .ok (.getfield 10, 3) := by decide +kernel
theorem dX7_killed_4 : decode cX7_killed 4 = .ok (.getfield 266, 3) := by decide +kernel
theorem dX7_killed_7 : decode cX7_killed 7 = .ok (.getfield 270, 3) := by decide +kernel
theorem dX7_killed_10 : decode cX7_killed 10 = .ok (.ireturn, 1) := by decide +kernel
theorem dX7_yanked_0 : decode cX7_yanked 0 = .ok (.aload_n 0, 1) := by decide +kernel
theorem dX7_yanked_1 : decode cX7_yanked 1 = .ok (.getfield 10, 3) := by decide +kernel
theorem dX7_yanked_4 : decode cX7_yanked 4 = .ok (.getfield 266, 3) := by decide +kernel
theorem dX7_yanked_7 : decode cX7_yanked 7 = .ok (.getfield 275, 3) := by decide +kernel
theorem dX7_yanked_10 : decode cX7_yanked 10 = .ok (.ireturn, 1) := by decide +kernel
theorem dX7_written_0 : decode cX7_written 0 = .ok (.aload_n 0, 1) := by decide +kernel
theorem dX7_written_1 : decode cX7_written 1 = .ok (.getfield 10, 3) := by decide +kernel
theorem dX7_written_4 : decode cX7_written 4 = .ok (.getfield 266, 3) := by decide +kernel
theorem dX7_written_7 : decode cX7_written 7 = .ok (.getfield 278, 3) := by decide +kernel
theorem dX7_written_10 : decode cX7_written 10 = .ok (.aload_n 0, 1) := by decide +kernel
theorem dX7_written_11 : decode cX7_written 11 = .ok (.getfield 10, 3) := by decide +kernel
theorem dX7_written_14 : decode cX7_written 14 = .ok (.getfield 266, 3) := by decide +kernel
theorem dX7_written_17 : decode cX7_written 17 = .ok (.getfield 281, 3) := by decide +kernel
theorem dX7_written_20 : decode cX7_written 20 = .ok (.iadd, 1) := by decide +kernel
theorem dX7_written_21 : decode cX7_written 21 = .ok (.ireturn, 1) := by decide +kernel
theorem dX7_lostHoards_0 : decode cX7_lostHoards 0 = .ok (.aload_n 0, 1) := by decide +kernel
theorem dX7_lostHoards_1 : decode cX7_lostHoards 1 = .ok (.getfield 10, 3) := by decide +kernel
theorem dX7_lostHoards_4 : decode cX7_lostHoards 4 = .ok (.getfield 266, 3) := by decide +kernel
theorem dX7_lostHoards_7 : decode cX7_lostHoards 7 = .ok (.getfield 284, 3) := by decide +kernel
theorem dX7_lostHoards_10 : decode cX7_lostHoards 10 = .ok (.ireturn, 1) := by decide +kernel
theorem dX7_lengthByAccount_0 : decode cX7_lengthByAccount 0 = .ok (.aload_n 0, 1) := by decide +kernel
theorem dX7_lengthByAccount_1 : decode cX7_lengthByAccount 1 = .ok (.getfield 10, 3) := by decide +kernel
theorem dX7_lengthByAccount_4 : decode cX7_lengthByAccount 4 = .ok (.getfield 266, 3) := by decide +kernel
theorem dX7_lengthByAccount_7 : decode cX7_lengthByAccount 7 = .ok (.invokevirtual 287, 3) := by decide +kernel
theorem dX7_lengthByAccount_10 : decode cX7_lengthByAccount 10 = .ok (.ireturn, 1) := by decide +kernel
theorem dX7_meanHoard_0 : decode cX7_meanHoard 0 = .ok (.aload_n 0, 1) := by decide +kernel
theorem dX7_meanHoard_1 : decode cX7_meanHoard 1 = .ok (.getfield 10, 3) := by decide +kernel
theorem dX7_meanHoard_4 : decode cX7_meanHoard 4 = .ok (.getfield 236, 3) := by decide +kernel
theorem dX7_meanHoard_7 : decode cX7_meanHoard 7 = .ok (.getfield 240, 3) := by decide +kernel
theorem dX7_meanHoard_10 : decode cX7_meanHoard 10 = .ok (.istore_n 1, 1) := by decide +kernel
theorem dX7_meanHoard_11 : decode cX7_meanHoard 11 = .ok (.iload_n 1, 1) := by decide +kernel
theorem dX7_meanHoard_12 : decode cX7_meanHoard 12 = .ok (.ifCond .le 20, 3) := by decide +kernel
theorem dX7_meanHoard_15 : decode cX7_meanHoard 15 = .ok (.aload_n 0, 1) := by decide +kernel
theorem dX7_meanHoard_16 : decode cX7_meanHoard 16 = .ok (.getfield 10, 3) := by decide +kernel
theorem dX7_meanHoard_19 : decode cX7_meanHoard 19 = .ok (.getfield 236, 3) := by decide +kernel
theorem dX7_meanHoard_22 : decode cX7_meanHoard 22 = .ok (.invokevirtual 260, 3) := by decide +kernel
theorem dX7_meanHoard_25 : decode cX7_meanHoard 25 = .ok (.i2d, 1) := by decide +kernel
theorem dX7_meanHoard_26 : decode cX7_meanHoard 26 = .ok (.iload_n 1, 1) := by decide +kernel
theorem dX7_meanHoard_27 : decode cX7_meanHoard 27 = .ok (.i2d, 1) := by decide +kernel
theorem dX7_meanHoard_28 : decode cX7_meanHoard 28 = .ok (.ddiv, 1) := by decide +kernel
theorem dX7_meanHoard_29 : decode cX7_meanHoard 29 = .ok (.goto 4, 3) := by decide +kernel
theorem dX7_meanHoard_32 : decode cX7_meanHoard 32 = .ok (.dconst 0, 1) := by decide +kernel
theorem dX7_meanHoard_33 : decode cX7_meanHoard 33 = .ok (.dreturn, 1) := by decide +kernel
theorem dX7_digest_0 : decode cX7_digest 0 = .ok (.new 290, 3) := by decide +kernel
theorem dX7_digest_3 : decode cX7_digest 3 = .ok (.dup, 1) := by decide +kernel
theorem dX7_digest_4 : decode cX7_digest 4 = .ok (.invokespecial 292, 3) := by decide +kernel
theorem dX7_digest_7 : decode cX7_digest 7 = .ok (.astore_n 1, 1) := by decide +kernel
theorem dX7_digest_8 : decode cX7_digest 8 = .ok (.aload_n 0, 1) := by decide +kernel
theorem dX7_digest_9 : decode cX7_digest 9 = .ok (.aload_n 1, 1) := by decide +kernel
theorem dX7_digest_10 : decode cX7_digest 10 = .ok (.invokevirtual 293, 3) := by decide +kernel
theorem dX7_digest_13 : decode cX7_digest 13 = .ok (.aload_n 0, 1) := by decide +kernel
theorem dX7_digest_14 : decode cX7_digest 14 = .ok (.aload_n 1, 1) := by decide +kernel
theorem dX7_digest_15 : decode cX7_digest 15 = .ok (.invokevirtual 297, 3) := by decide +kernel
theorem dX7_digest_18 : decode cX7_digest 18 = .ok (.aload_n 0, 1) := by decide +kernel
theorem dX7_digest_19 : decode cX7_digest 19 = .ok (.aload_n 1, 1) := by decide +kernel
theorem dX7_digest_20 : decode cX7_digest 20 = .ok (.invokevirtual 300, 3) := by decide +kernel
theorem dX7_digest_23 : decode cX7_digest 23 = .ok (.aload_n 1, 1) := by decide +kernel
theorem dX7_digest_24 : decode cX7_digest 24 = .ok (.getfield 303, 3) := by decide +kernel
theorem dX7_digest_27 : decode cX7_digest 27 = .ok (.lreturn, 1) := by decide +kernel
theorem dX7_settled_0 : decode cX7_settled 0 = .ok (.iload_n 1, 1) := by decide +kernel
theorem dX7_settled_1 : decode cX7_settled 1 = .ok (.invokestatic 212, 3) := by decide +kernel
theorem dX7_settled_4 : decode cX7_settled 4 = .ok (.pop, 1) := by decide +kernel
theorem dX7_settled_5 : decode cX7_settled 5 = .ok (.aload_n 0, 1) := by decide +kernel
theorem dX7_settled_6 : decode cX7_settled 6 = .ok (.getfield 19, 3) := by decide +kernel
theorem dX7_settled_9 : decode cX7_settled 9 = .ok (.invokevirtual 187, 3) := by decide +kernel
theorem dX7_settled_12 : decode cX7_settled 12 = .ok (.iload_n 1, 1) := by decide +kernel
theorem dX7_settled_13 : decode cX7_settled 13 = .ok (.ireturn, 1) := by decide +kernel
theorem dX7_possible_0 : decode cX7_possible 0 = .ok (.iload_n 0, 1) := by decide +kernel
theorem dX7_possible_1 : decode cX7_possible 1 = .ok (.iconst (-1), 1) := by decide +kernel
theorem dX7_possible_2 : decode cX7_possible 2 = .ok (.if_icmp .ne 14, 3) := by decide +kernel
theorem dX7_possible_5 : decode cX7_possible 5 = .ok (.new 148, 3) := by decide +kernel
theorem dX7_possible_8 : decode cX7_possible 8 = .ok (.dup, 1) := by decide +kernel
theorem dX7_possible_9 : decode cX7_possible 9 = .ok (.ldc_w 307, 3) := by decide +kernel
theorem dX7_possible_12 : decode cX7_possible 12 = .ok (.invokespecial 152, 3) := by decide +kernel
theorem dX7_possible_15 : decode cX7_possible 15 = .ok (.athrow, 1) := by decide +kernel
theorem dX7_possible_16 : decode cX7_possible 16 = .ok (.iload_n 0, 1) := by decide +kernel
theorem dX7_possible_17 : decode cX7_possible 17 = .ok (.ireturn, 1) := by decide +kernel
theorem dX7_existing_0 : decode cX7_existing 0 = .ok (.iload_n 0, 1) := by decide +kernel
theorem dX7_existing_1 : decode cX7_existing 1 = .ok (.iconst (-1), 1) := by decide +kernel
theorem dX7_existing_2 : decode cX7_existing 2 = .ok (.if_icmp .ne 14, 3) := by decide +kernel
theorem dX7_existing_5 : decode cX7_existing 5 = .ok (.new 309, 3) := by decide +kernel
theorem dX7_existing_8 : decode cX7_existing 8 = .ok (.dup, 1) := by decide +kernel
theorem dX7_existing_9 : decode cX7_existing 9 = .ok (.ldc_w 311, 3) := by decide +kernel
theorem dX7_existing_12 : decode cX7_existing 12 = .ok (.invokespecial 313, 3) := by decide +kernel
theorem dX7_existing_15 : decode cX7_existing 15 = .ok (.athrow, 1) := by decide +kernel
theorem dX7_existing_16 : decode cX7_existing 16 = .ok (.iload_n 0, 1) := by decide +kernel
theorem dX7_existing_17 : decode cX7_existing 17 = .ok (.ireturn, 1) := by decide +kernel
theorem dX7_stageBehind_0 : decode cX7_stageBehind 0 = .ok (.iload_n 0, 1) := by decide +kernel
theorem dX7_stageBehind_1 : decode cX7_stageBehind 1 = .ok (.iconst (-1), 1) := by decide +kernel
theorem dX7_stageBehind_2 : decode cX7_stageBehind 2 = .ok (.if_icmp .ne 5, 3) := by decide +kernel
theorem dX7_stageBehind_5 : decode cX7_stageBehind 5 = .ok (.iconst (-1), 1) := by decide +kernel
theorem dX7_stageBehind_6 : decode cX7_stageBehind 6 = .ok (.ireturn, 1) := by decide +kernel
theorem dX7_stageBehind_7 : decode cX7_stageBehind 7 = .ok (.iload_n 0, 1) := by decide +kernel
theorem dX7_stageBehind_8 : decode cX7_stageBehind 8 = .ok (.iconst 2, 1) := by decide +kernel
theorem dX7_stageBehind_9 : decode cX7_stageBehind 9 = .ok (.if_icmp .ne 5, 3) := by decide +kernel
theorem dX7_stageBehind_12 : decode cX7_stageBehind 12 = .ok (.iconst 0, 1) := by decide +kernel
theorem dX7_stageBehind_13 : decode cX7_stageBehind 13 = .ok (.ireturn, 1) := by decide +kernel
theorem dX7_stageBehind_14 : decode cX7_stageBehind 14 = .ok (.iload_n 1, 1) := by decide +kernel
theorem dX7_stageBehind_15 : decode cX7_stageBehind 15 = .ok (.bipush 39, 2) := by decide +kernel
theorem dX7_stageBehind_17 : decode cX7_stageBehind 17 = .ok (.if_icmp .ne 5, 3) := by decide +kernel
theorem dX7_stageBehind_20 : decode cX7_stageBehind 20 = .ok (.iconst 2, 1) := by decide +kernel
theorem dX7_stageBehind_21 : decode cX7_stageBehind 21 = .ok (.ireturn, 1) := by decide +kernel
theorem dX7_stageBehind_22 : decode cX7_stageBehind 22 = .ok (.ldc_w 314, 3) := by decide +kernel
theorem dX7_stageBehind_25 : decode cX7_stageBehind 25 = .ok (.iload_n 1, 1) := by decide +kernel
theorem dX7_stageBehind_26 : decode cX7_stageBehind 26 = .ok (.i2c, 1) := by decide +kernel
theorem dX7_stageBehind_27 : decode cX7_stageBehind 27 = .ok (.invokevirtual 316, 3) := by decide +kernel
theorem dX7_stageBehind_30 : decode cX7_stageBehind 30 = .ok (.ifCond .lt 5, 3) := by decide +kernel
theorem dX7_stageBehind_33 : decode cX7_stageBehind 33 = .ok (.iconst 0, 1) := by decide +kernel
theorem dX7_stageBehind_34 : decode cX7_stageBehind 34 = .ok (.ireturn, 1) := by decide +kernel
theorem dX7_stageBehind_35 : decode cX7_stageBehind 35 = .ok (.iload_n 0, 1) := by decide +kernel
theorem dX7_stageBehind_36 : decode cX7_stageBehind 36 = .ok (.ifCond .ne 14, 3) := by decide +kernel
theorem dX7_stageBehind_39 : decode cX7_stageBehind 39 = .ok (.iload_n 1, 1) := by decide +kernel
theorem dX7_stageBehind_40 : decode cX7_stageBehind 40 = .ok (.invokestatic 321, 3) := by decide +kernel
theorem dX7_stageBehind_43 : decode cX7_stageBehind 43 = .ok (.ifCond .eq 7, 3) := by decide +kernel
theorem dX7_stageBehind_46 : decode cX7_stageBehind 46 = .ok (.iconst 1, 1) := by decide +kernel
theorem dX7_stageBehind_47 : decode cX7_stageBehind 47 = .ok (.goto 4, 3) := by decide +kernel
theorem dX7_stageBehind_50 : decode cX7_stageBehind 50 = .ok (.iconst (-1), 1) := by decide +kernel
theorem dX7_stageBehind_51 : decode cX7_stageBehind 51 = .ok (.ireturn, 1) := by decide +kernel
theorem dX7_isNumber_0 : decode cX7_isNumber 0 = .ok (.iload_n 0, 1) := by decide +kernel
theorem dX7_isNumber_1 : decode cX7_isNumber 1 = .ok (.bipush 50, 2) := by decide +kernel
theorem dX7_isNumber_3 : decode cX7_isNumber 3 = .ok (.if_icmp .lt 13, 3) := by decide +kernel
theorem dX7_isNumber_6 : decode cX7_isNumber 6 = .ok (.iload_n 0, 1) := by decide +kernel
theorem dX7_isNumber_7 : decode cX7_isNumber 7 = .ok (.bipush 57, 2) := by decide +kernel
theorem dX7_isNumber_9 : decode cX7_isNumber 9 = .ok (.if_icmp .gt 7, 3) := by decide +kernel
theorem dX7_isNumber_12 : decode cX7_isNumber 12 = .ok (.iconst 1, 1) := by decide +kernel
theorem dX7_isNumber_13 : decode cX7_isNumber 13 = .ok (.goto 4, 3) := by decide +kernel
theorem dX7_isNumber_16 : decode cX7_isNumber 16 = .ok (.iconst 0, 1) := by decide +kernel
theorem dX7_isNumber_17 : decode cX7_isNumber 17 = .ok (.ireturn, 1) := by decide +kernel
theorem dX7_tellsDeeds_0 : decode cX7_tellsDeeds 0 = .ok (.iconst 0, 1) := by decide +kernel
theorem dX7_tellsDeeds_1 : decode cX7_tellsDeeds 1 = .ok (.istore_n 1, 1) := by decide +kernel
theorem dX7_tellsDeeds_2 : decode cX7_tellsDeeds 2 = .ok (.iconst 0, 1) := by decide +kernel
theorem dX7_tellsDeeds_3 : decode cX7_tellsDeeds 3 = .ok (.istore_n 2, 1) := by decide +kernel
theorem dX7_tellsDeeds_4 : decode cX7_tellsDeeds 4 = .ok (.iload_n 2, 1) := by decide +kernel
theorem dX7_tellsDeeds_5 : decode cX7_tellsDeeds 5 = .ok (.aload_n 0, 1) := by decide +kernel
theorem dX7_tellsDeeds_6 : decode cX7_tellsDeeds 6 = .ok (.getfield 36, 3) := by decide +kernel
theorem dX7_tellsDeeds_9 : decode cX7_tellsDeeds 9 = .ok (.invokevirtual 77, 3) := by decide +kernel
theorem dX7_tellsDeeds_12 : decode cX7_tellsDeeds 12 = .ok (.if_icmp .ge 22, 3) := by decide +kernel
theorem dX7_tellsDeeds_15 : decode cX7_tellsDeeds 15 = .ok (.iload_n 1, 1) := by decide +kernel
theorem dX7_tellsDeeds_16 : decode cX7_tellsDeeds 16 = .ok (.aload_n 0, 1) := by decide +kernel
theorem dX7_tellsDeeds_17 : decode cX7_tellsDeeds 17 = .ok (.getfield 36, 3) := by decide +kernel
theorem dX7_tellsDeeds_20 : decode cX7_tellsDeeds 20 = .ok (.iload_n 2, 1) := by decide +kernel
theorem dX7_tellsDeeds_21 : decode cX7_tellsDeeds 21 = .ok (.invokevirtual 160, 3) := by decide +kernel
theorem dX7_tellsDeeds_24 : decode cX7_tellsDeeds 24 = .ok (.invokestatic 163, 3) := by decide +kernel
theorem dX7_tellsDeeds_27 : decode cX7_tellsDeeds 27 = .ok (.istore_n 1, 1) := by decide +kernel
theorem dX7_tellsDeeds_28 : decode cX7_tellsDeeds 28 = .ok (.iinc 2 1, 3) := by decide +kernel
theorem dX7_tellsDeeds_31 : decode cX7_tellsDeeds 31 = .ok (.goto (-27), 3) := by decide +kernel
theorem dX7_tellsDeeds_34 : decode cX7_tellsDeeds 34 = .ok (.aload_n 0, 1) := by decide +kernel
theorem dX7_tellsDeeds_35 : decode cX7_tellsDeeds 35 = .ok (.getfield 36, 3) := by decide +kernel
theorem dX7_tellsDeeds_38 : decode cX7_tellsDeeds 38 = .ok (.invokevirtual 77, 3) := by decide +kernel
theorem dX7_tellsDeeds_41 : decode cX7_tellsDeeds 41 = .ok (.ifCond .le 11, 3) := by decide +kernel
theorem dX7_tellsDeeds_44 : decode cX7_tellsDeeds 44 = .ok (.iload_n 1, 1) := by decide +kernel
theorem dX7_tellsDeeds_45 : decode cX7_tellsDeeds 45 = .ok (.ifCond .ne 7, 3) := by decide +kernel
theorem dX7_tellsDeeds_48 : decode cX7_tellsDeeds 48 = .ok (.iconst 1, 1) := by decide +kernel
theorem dX7_tellsDeeds_49 : decode cX7_tellsDeeds 49 = .ok (.goto 4, 3) := by decide +kernel
theorem dX7_tellsDeeds_52 : decode cX7_tellsDeeds 52 = .ok (.iconst 0, 1) := by decide +kernel
theorem dX7_tellsDeeds_53 : decode cX7_tellsDeeds 53 = .ok (.ireturn, 1) := by decide +kernel
theorem dX7_deedsDone_0 : decode cX7_deedsDone 0 = .ok (.iconst 0, 1) := by decide +kernel
theorem dX7_deedsDone_1 : decode cX7_deedsDone 1 = .ok (.istore_n 1, 1) := by decide +kernel
theorem dX7_deedsDone_2 : decode cX7_deedsDone 2 = .ok (.iconst 1, 1) := by decide +kernel
theorem dX7_deedsDone_3 : decode cX7_deedsDone 3 = .ok (.istore_n 2, 1) := by decide +kernel
theorem dX7_deedsDone_4 : decode cX7_deedsDone 4 = .ok (.iconst 0, 1) := by decide +kernel
theorem dX7_deedsDone_5 : decode cX7_deedsDone 5 = .ok (.istore_n 3, 1) := by decide +kernel
theorem dX7_deedsDone_6 : decode cX7_deedsDone 6 = .ok (.iload_n 3, 1) := by decide +kernel
theorem dX7_deedsDone_7 : decode cX7_deedsDone 7 = .ok (.aload_n 0, 1) := by decide +kernel
theorem dX7_deedsDone_8 : decode cX7_deedsDone 8 = .ok (.getfield 36, 3) := by decide +kernel
theorem dX7_deedsDone_11 : decode cX7_deedsDone 11 = .ok (.invokevirtual 77, 3) := by decide +kernel
theorem dX7_deedsDone_14 : decode cX7_deedsDone 14 = .ok (.if_icmp .ge 90, 3) := by decide +kernel
theorem dX7_deedsDone_17 : decode cX7_deedsDone 17 = .ok (.aload_n 0, 1) := by decide +kernel
theorem dX7_deedsDone_18 : decode cX7_deedsDone 18 = .ok (.getfield 36, 3) := by decide +kernel
theorem dX7_deedsDone_21 : decode cX7_deedsDone 21 = .ok (.iload_n 3, 1) := by decide +kernel
theorem dX7_deedsDone_22 : decode cX7_deedsDone 22 = .ok (.invokevirtual 160, 3) := by decide +kernel
theorem dX7_deedsDone_25 : decode cX7_deedsDone 25 = .ok (.istore 4, 2) := by decide +kernel
theorem dX7_deedsDone_27 : decode cX7_deedsDone 27 = .ok (.iload 4, 2) := by decide +kernel
theorem dX7_deedsDone_29 : decode cX7_deedsDone 29 = .ok (.invokestatic 321, 3) := by decide +kernel
theorem dX7_deedsDone_32 : decode cX7_deedsDone 32 = .ok (.ifCond .eq 12, 3) := by decide +kernel
theorem dX7_deedsDone_35 : decode cX7_deedsDone 35 = .ok (.iload 4, 2) := by decide +kernel
theorem dX7_deedsDone_37 : decode cX7_deedsDone 37 = .ok (.bipush 48, 2) := by decide +kernel
theorem dX7_deedsDone_39 : decode cX7_deedsDone 39 = .ok (.isub, 1) := by decide +kernel
theorem dX7_deedsDone_40 : decode cX7_deedsDone 40 = .ok (.istore_n 2, 1) := by decide +kernel
theorem dX7_deedsDone_41 : decode cX7_deedsDone 41 = .ok (.goto 57, 3) := by decide +kernel
theorem dX7_deedsDone_44 : decode cX7_deedsDone 44 = .ok (.iload 4, 2) := by decide +kernel
theorem dX7_deedsDone_46 : decode cX7_deedsDone 46 = .ok (.bipush 39, 2) := by decide +kernel
theorem dX7_deedsDone_48 : decode cX7_deedsDone 48 = .ok (.if_icmp .ne 6, 3) := by decide +kernel
theorem dX7_deedsDone_51 : decode cX7_deedsDone 51 = .ok (.iinc 3 1, 3) := by decide +kernel
theorem dX7_deedsDone_54 : decode cX7_deedsDone 54 = .ok (.iconst 0, 1) := by decide +kernel
theorem dX7_deedsDone_55 : decode cX7_deedsDone 55 = .ok (.istore 5, 2) := by decide +kernel
theorem dX7_deedsDone_57 : decode cX7_deedsDone 57 = .ok (.iload 5, 2) := by decide +kernel
theorem dX7_deedsDone_59 : decode cX7_deedsDone 59 = .ok (.iload_n 2, 1) := by decide +kernel
theorem dX7_deedsDone_60 : decode cX7_deedsDone 60 = .ok (.if_icmp .ge 32, 3) := by decide +kernel
theorem dX7_deedsDone_63 : decode cX7_deedsDone 63 = .ok (.aload_n 0, 1) := by decide +kernel
theorem dX7_deedsDone_64 : decode cX7_deedsDone 64 = .ok (.getfield 10, 3) := by decide +kernel
theorem dX7_deedsDone_67 : decode cX7_deedsDone 67 = .ok (.iload 4, 2) := by decide +kernel
theorem dX7_deedsDone_69 : decode cX7_deedsDone 69 = .ok (.aload_n 0, 1) := by decide +kernel
theorem dX7_deedsDone_70 : decode cX7_deedsDone 70 = .ok (.getfield 36, 3) := by decide +kernel
theorem dX7_deedsDone_73 : decode cX7_deedsDone 73 = .ok (.iload_n 3, 1) := by decide +kernel
theorem dX7_deedsDone_74 : decode cX7_deedsDone 74 = .ok (.invokevirtual 160, 3) := by decide +kernel
theorem dX7_deedsDone_77 : decode cX7_deedsDone 77 = .ok (.invokevirtual 325, 3) := by decide +kernel
theorem dX7_deedsDone_80 : decode cX7_deedsDone 80 = .ok (.iconst (-1), 1) := by decide +kernel
theorem dX7_deedsDone_81 : decode cX7_deedsDone 81 = .ok (.if_icmp .ne 5, 3) := by decide +kernel
theorem dX7_deedsDone_84 : decode cX7_deedsDone 84 = .ok (.iconst (-1), 1) := by decide +kernel
theorem dX7_deedsDone_85 : decode cX7_deedsDone 85 = .ok (.ireturn, 1) := by decide +kernel
theorem dX7_deedsDone_86 : decode cX7_deedsDone 86 = .ok (.iinc 5 1, 3) := by decide +kernel
theorem dX7_deedsDone_89 : decode cX7_deedsDone 89 = .ok (.goto (-32), 3) := by decide +kernel
theorem dX7_deedsDone_92 : decode cX7_deedsDone 92 = .ok (.iload_n 1, 1) := by decide +kernel
theorem dX7_deedsDone_93 : decode cX7_deedsDone 93 = .ok (.iload_n 2, 1) := by decide +kernel
theorem dX7_deedsDone_94 : decode cX7_deedsDone 94 = .ok (.iadd, 1) := by decide +kernel
theorem dX7_deedsDone_95 : decode cX7_deedsDone 95 = .ok (.istore_n 1, 1) := by decide +kernel
theorem dX7_deedsDone_96 : decode cX7_deedsDone 96 = .ok (.iconst 1, 1) := by decide +kernel
theorem dX7_deedsDone_97 : decode cX7_deedsDone 97 = .ok (.istore_n 2, 1) := by decide +kernel
theorem dX7_deedsDone_98 : decode cX7_deedsDone 98 = .ok (.iinc 3 1, 3) := by decide +kernel
theorem dX7_deedsDone_101 : decode cX7_deedsDone 101 = .ok (.goto (-95), 3) := by decide +kernel
theorem dX7_deedsDone_104 : decode cX7_deedsDone 104 = .ok (.iload_n 1, 1) := by decide +kernel
theorem dX7_deedsDone_105 : decode cX7_deedsDone 105 = .ok (.ireturn, 1) := by decide +kernel
theorem dX7_hashScroll_0 : decode cX7_hashScroll 0 = .ok (.aload_n 0, 1) := by decide +kernel
theorem dX7_hashScroll_1 : decode cX7_hashScroll 1 = .ok (.getfield 10, 3) := by decide +kernel
theorem dX7_hashScroll_4 : decode cX7_hashScroll 4 = .ok (.getfield 68, 3) := by decide +kernel
theorem dX7_hashScroll_7 : decode cX7_hashScroll 7 = .ok (.astore_n 2, 1) := by decide +kernel
theorem dX7_hashScroll_8 : decode cX7_hashScroll 8 = .ok (.aload_n 1, 1) := by decide +kernel
theorem dX7_hashScroll_9 : decode cX7_hashScroll 9 = .ok (.aload_n 2, 1) := by decide +kernel
theorem dX7_hashScroll_10 : decode cX7_hashScroll 10 = .ok (.getfield 72, 3) := by decide +kernel
theorem dX7_hashScroll_13 : decode cX7_hashScroll 13 = .ok (.invokevirtual 328, 3) := by decide +kernel
theorem dX7_hashScroll_16 : decode cX7_hashScroll 16 = .ok (.aload_n 1, 1) := by decide +kernel
theorem dX7_hashScroll_17 : decode cX7_hashScroll 17 = .ok (.aload_n 2, 1) := by decide +kernel
theorem dX7_hashScroll_18 : decode cX7_hashScroll 18 = .ok (.getfield 205, 3) := by decide +kernel
theorem dX7_hashScroll_21 : decode cX7_hashScroll 21 = .ok (.i2l, 1) := by decide +kernel
theorem dX7_hashScroll_22 : decode cX7_hashScroll 22 = .ok (.invokevirtual 332, 3) := by decide +kernel
theorem dX7_hashScroll_25 : decode cX7_hashScroll 25 = .ok (.aload_n 1, 1) := by decide +kernel
theorem dX7_hashScroll_26 : decode cX7_hashScroll 26 = .ok (.aload_n 2, 1) := by decide +kernel
theorem dX7_hashScroll_27 : decode cX7_hashScroll 27 = .ok (.getfield 209, 3) := by decide +kernel
theorem dX7_hashScroll_30 : decode cX7_hashScroll 30 = .ok (.iconst 1, 1) := by decide +kernel
theorem dX7_hashScroll_31 : decode cX7_hashScroll 31 = .ok (.iadd, 1) := by decide +kernel
theorem dX7_hashScroll_32 : decode cX7_hashScroll 32 = .ok (.i2l, 1) := by decide +kernel
theorem dX7_hashScroll_33 : decode cX7_hashScroll 33 = .ok (.invokevirtual 332, 3) := by decide +kernel
theorem dX7_hashScroll_36 : decode cX7_hashScroll 36 = .ok (.aload_n 1, 1) := by decide +kernel
theorem dX7_hashScroll_37 : decode cX7_hashScroll 37 = .ok (.aload_n 2, 1) := by decide +kernel
theorem dX7_hashScroll_38 : decode cX7_hashScroll 38 = .ok (.invokevirtual 215, 3) := by decide +kernel
theorem dX7_hashScroll_41 : decode cX7_hashScroll 41 = .ok (.iconst 1, 1) := by decide +kernel
theorem dX7_hashScroll_42 : decode cX7_hashScroll 42 = .ok (.iadd, 1) := by decide +kernel
theorem dX7_hashScroll_43 : decode cX7_hashScroll 43 = .ok (.i2l, 1) := by decide +kernel
theorem dX7_hashScroll_44 : decode cX7_hashScroll 44 = .ok (.invokevirtual 332, 3) := by decide +kernel
theorem dX7_hashScroll_47 : decode cX7_hashScroll 47 = .ok (.aload_n 1, 1) := by decide +kernel
theorem dX7_hashScroll_48 : decode cX7_hashScroll 48 = .ok (.aload_n 0, 1) := by decide +kernel
theorem dX7_hashScroll_49 : decode cX7_hashScroll 49 = .ok (.invokevirtual 336, 3) := by decide +kernel
theorem dX7_hashScroll_52 : decode cX7_hashScroll 52 = .ok (.i2l, 1) := by decide +kernel
theorem dX7_hashScroll_53 : decode cX7_hashScroll 53 = .ok (.invokevirtual 332, 3) := by decide +kernel
theorem dX7_hashScroll_56 : decode cX7_hashScroll 56 = .ok (.aload_n 1, 1) := by decide +kernel
theorem dX7_hashScroll_57 : decode cX7_hashScroll 57 = .ok (.aload_n 0, 1) := by decide +kernel
theorem dX7_hashScroll_58 : decode cX7_hashScroll 58 = .ok (.invokevirtual 339, 3) := by decide +kernel
theorem dX7_hashScroll_61 : decode cX7_hashScroll 61 = .ok (.i2l, 1) := by decide +kernel
theorem dX7_hashScroll_62 : decode cX7_hashScroll 62 = .ok (.invokevirtual 332, 3) := by decide +kernel
theorem dX7_hashScroll_65 : decode cX7_hashScroll 65 = .ok (.aload_n 1, 1) := by decide +kernel
theorem dX7_hashScroll_66 : decode cX7_hashScroll 66 = .ok (.aload_n 0, 1) := by decide +kernel
theorem dX7_hashScroll_67 : decode cX7_hashScroll 67 = .ok (.invokevirtual 342, 3) := by decide +kernel
theorem dX7_hashScroll_70 : decode cX7_hashScroll 70 = .ok (.i2l, 1) := by decide +kernel
theorem dX7_hashScroll_71 : decode cX7_hashScroll 71 = .ok (.invokevirtual 332, 3) := by decide +kernel
theorem dX7_hashScroll_74 : decode cX7_hashScroll 74 = .ok (.aload_n 1, 1) := by decide +kernel
theorem dX7_hashScroll_75 : decode cX7_hashScroll 75 = .ok (.aload_n 0, 1) := by decide +kernel
theorem dX7_hashScroll_76 : decode cX7_hashScroll 76 = .ok (.invokevirtual 345, 3) := by decide +kernel
theorem dX7_hashScroll_79 : decode cX7_hashScroll 79 = .ok (.i2l, 1) := by decide +kernel
theorem dX7_hashScroll_80 : decode cX7_hashScroll 80 = .ok (.invokevirtual 332, 3) := by decide +kernel
theorem dX7_hashScroll_83 : decode cX7_hashScroll 83 = .ok (.aload_n 1, 1) := by decide +kernel
theorem dX7_hashScroll_84 : decode cX7_hashScroll 84 = .ok (.aload_n 0, 1) := by decide +kernel
theorem dX7_hashScroll_85 : decode cX7_hashScroll 85 = .ok (.invokevirtual 348, 3) := by decide +kernel
theorem dX7_hashScroll_88 : decode cX7_hashScroll 88 = .ok (.i2l, 1) := by decide +kernel
theorem dX7_hashScroll_89 : decode cX7_hashScroll 89 = .ok (.invokevirtual 332, 3) := by decide +kernel
theorem dX7_hashScroll_92 : decode cX7_hashScroll 92 = .ok (.aload_n 1, 1) := by decide +kernel
theorem dX7_hashScroll_93 : decode cX7_hashScroll 93 = .ok (.aload_n 0, 1) := by decide +kernel
theorem dX7_hashScroll_94 : decode cX7_hashScroll 94 = .ok (.invokevirtual 351, 3) := by decide +kernel
theorem dX7_hashScroll_97 : decode cX7_hashScroll 97 = .ok (.i2l, 1) := by decide +kernel
theorem dX7_hashScroll_98 : decode cX7_hashScroll 98 = .ok (.invokevirtual 332, 3) := by decide +kernel
theorem dX7_hashScroll_101 : decode cX7_hashScroll 101 = .ok (.aload_n 1, 1) := by decide +kernel
theorem dX7_hashScroll_102 : decode cX7_hashScroll 102 = .ok (.aload_n 0, 1) := by decide +kernel
theorem dX7_hashScroll_103 : decode cX7_hashScroll 103 = .ok (.invokevirtual 354, 3) := by decide +kernel
theorem dX7_hashScroll_106 : decode cX7_hashScroll 106 = .ok (.i2l, 1) := by decide +kernel
theorem dX7_hashScroll_107 : decode cX7_hashScroll 107 = .ok (.invokevirtual 332, 3) := by decide +kernel
theorem dX7_hashScroll_110 : decode cX7_hashScroll 110 = .ok (.return_, 1) := by decide +kernel
theorem dX7_hashRing_0 : decode cX7_hashRing 0 = .ok (.aload_n 0, 1) := by decide +kernel
theorem dX7_hashRing_1 : decode cX7_hashRing 1 = .ok (.getfield 10, 3) := by decide +kernel
theorem dX7_hashRing_4 : decode cX7_hashRing 4 = .ok (.getfield 236, 3) := by decide +kernel
theorem dX7_hashRing_7 : decode cX7_hashRing 7 = .ok (.astore_n 2, 1) := by decide +kernel
theorem dX7_hashRing_8 : decode cX7_hashRing 8 = .ok (.aload_n 1, 1) := by decide +kernel
theorem dX7_hashRing_9 : decode cX7_hashRing 9 = .ok (.aload_n 2, 1) := by decide +kernel
theorem dX7_hashRing_10 : decode cX7_hashRing 10 = .ok (.getfield 240, 3) := by decide +kernel
theorem dX7_hashRing_13 : decode cX7_hashRing 13 = .ok (.i2l, 1) := by decide +kernel
theorem dX7_hashRing_14 : decode cX7_hashRing 14 = .ok (.invokevirtual 332, 3) := by decide +kernel
theorem dX7_hashRing_17 : decode cX7_hashRing 17 = .ok (.aload_n 1, 1) := by decide +kernel
theorem dX7_hashRing_18 : decode cX7_hashRing 18 = .ok (.aload_n 2, 1) := by decide +kernel
theorem dX7_hashRing_19 : decode cX7_hashRing 19 = .ok (.getfield 244, 3) := by decide +kernel
theorem dX7_hashRing_22 : decode cX7_hashRing 22 = .ok (.i2l, 1) := by decide +kernel
theorem dX7_hashRing_23 : decode cX7_hashRing 23 = .ok (.invokevirtual 332, 3) := by decide +kernel
theorem dX7_hashRing_26 : decode cX7_hashRing 26 = .ok (.iconst 0, 1) := by decide +kernel
theorem dX7_hashRing_27 : decode cX7_hashRing 27 = .ok (.istore_n 3, 1) := by decide +kernel
theorem dX7_hashRing_28 : decode cX7_hashRing 28 = .ok (.iload_n 3, 1) := by decide +kernel
theorem dX7_hashRing_29 : decode cX7_hashRing 29 = .ok (.aload_n 2, 1) := by decide +kernel
theorem dX7_hashRing_30 : decode cX7_hashRing 30 = .ok (.getfield 240, 3) := by decide +kernel
theorem dX7_hashRing_33 : decode cX7_hashRing 33 = .ok (.if_icmp .ge 45, 3) := by decide +kernel
theorem dX7_hashRing_36 : decode cX7_hashRing 36 = .ok (.aload_n 1, 1) := by decide +kernel
theorem dX7_hashRing_37 : decode cX7_hashRing 37 = .ok (.aload_n 2, 1) := by decide +kernel
theorem dX7_hashRing_38 : decode cX7_hashRing 38 = .ok (.iload_n 3, 1) := by decide +kernel
theorem dX7_hashRing_39 : decode cX7_hashRing 39 = .ok (.invokevirtual 250, 3) := by decide +kernel
theorem dX7_hashRing_42 : decode cX7_hashRing 42 = .ok (.invokevirtual 328, 3) := by decide +kernel
theorem dX7_hashRing_45 : decode cX7_hashRing 45 = .ok (.aload_n 1, 1) := by decide +kernel
theorem dX7_hashRing_46 : decode cX7_hashRing 46 = .ok (.aload_n 0, 1) := by decide +kernel
theorem dX7_hashRing_47 : decode cX7_hashRing 47 = .ok (.getfield 10, 3) := by decide +kernel
theorem dX7_hashRing_50 : decode cX7_hashRing 50 = .ok (.getfield 68, 3) := by decide +kernel
theorem dX7_hashRing_53 : decode cX7_hashRing 53 = .ok (.getfield 72, 3) := by decide +kernel
theorem dX7_hashRing_56 : decode cX7_hashRing 56 = .ok (.invokevirtual 77, 3) := by decide +kernel
theorem dX7_hashRing_59 : decode cX7_hashRing 59 = .ok (.aload_n 2, 1) := by decide +kernel
theorem dX7_hashRing_60 : decode cX7_hashRing 60 = .ok (.iload_n 3, 1) := by decide +kernel
theorem dX7_hashRing_61 : decode cX7_hashRing 61 = .ok (.invokevirtual 250, 3) := by decide +kernel
theorem dX7_hashRing_64 : decode cX7_hashRing 64 = .ok (.invokevirtual 77, 3) := by decide +kernel
theorem dX7_hashRing_67 : decode cX7_hashRing 67 = .ok (.iadd, 1) := by decide +kernel
theorem dX7_hashRing_68 : decode cX7_hashRing 68 = .ok (.i2l, 1) := by decide +kernel
theorem dX7_hashRing_69 : decode cX7_hashRing 69 = .ok (.invokevirtual 332, 3) := by decide +kernel
theorem dX7_hashRing_72 : decode cX7_hashRing 72 = .ok (.iinc 3 1, 3) := by decide +kernel
theorem dX7_hashRing_75 : decode cX7_hashRing 75 = .ok (.goto (-47), 3) := by decide +kernel
theorem dX7_hashRing_78 : decode cX7_hashRing 78 = .ok (.aload_n 1, 1) := by decide +kernel
theorem dX7_hashRing_79 : decode cX7_hashRing 79 = .ok (.aload_n 2, 1) := by decide +kernel
theorem dX7_hashRing_80 : decode cX7_hashRing 80 = .ok (.getfield 254, 3) := by decide +kernel
theorem dX7_hashRing_83 : decode cX7_hashRing 83 = .ok (.iconst 1, 1) := by decide +kernel
theorem dX7_hashRing_84 : decode cX7_hashRing 84 = .ok (.iadd, 1) := by decide +kernel
theorem dX7_hashRing_85 : decode cX7_hashRing 85 = .ok (.i2l, 1) := by decide +kernel
theorem dX7_hashRing_86 : decode cX7_hashRing 86 = .ok (.invokevirtual 332, 3) := by decide +kernel
theorem dX7_hashRing_89 : decode cX7_hashRing 89 = .ok (.aload_n 1, 1) := by decide +kernel
theorem dX7_hashRing_90 : decode cX7_hashRing 90 = .ok (.aload_n 0, 1) := by decide +kernel
theorem dX7_hashRing_91 : decode cX7_hashRing 91 = .ok (.invokevirtual 357, 3) := by decide +kernel
theorem dX7_hashRing_94 : decode cX7_hashRing 94 = .ok (.ifCond .eq 7, 3) := by decide +kernel
theorem dX7_hashRing_97 : decode cX7_hashRing 97 = .ok (.lconst 1, 1) := by decide +kernel
theorem dX7_hashRing_98 : decode cX7_hashRing 98 = .ok (.goto 4, 3) := by decide +kernel
theorem dX7_hashRing_101 : decode cX7_hashRing 101 = .ok (.lconst 0, 1) := by decide +kernel
theorem dX7_hashRing_102 : decode cX7_hashRing 102 = .ok (.invokevirtual 332, 3) := by decide +kernel
theorem dX7_hashRing_105 : decode cX7_hashRing 105 = .ok (.aload_n 1, 1) := by decide +kernel
theorem dX7_hashRing_106 : decode cX7_hashRing 106 = .ok (.aload_n 0, 1) := by decide +kernel
theorem dX7_hashRing_107 : decode cX7_hashRing 107 = .ok (.invokevirtual 360, 3) := by decide +kernel
theorem dX7_hashRing_110 : decode cX7_hashRing 110 = .ok (.ifCond .eq 7, 3) := by decide +kernel
theorem dX7_hashRing_113 : decode cX7_hashRing 113 = .ok (.lconst 1, 1) := by decide +kernel
theorem dX7_hashRing_114 : decode cX7_hashRing 114 = .ok (.goto 4, 3) := by decide +kernel
theorem dX7_hashRing_117 : decode cX7_hashRing 117 = .ok (.lconst 0, 1) := by decide +kernel
theorem dX7_hashRing_118 : decode cX7_hashRing 118 = .ok (.invokevirtual 332, 3) := by decide +kernel
theorem dX7_hashRing_121 : decode cX7_hashRing 121 = .ok (.aload_n 1, 1) := by decide +kernel
theorem dX7_hashRing_122 : decode cX7_hashRing 122 = .ok (.aload_n 2, 1) := by decide +kernel
theorem dX7_hashRing_123 : decode cX7_hashRing 123 = .ok (.invokevirtual 260, 3) := by decide +kernel
theorem dX7_hashRing_126 : decode cX7_hashRing 126 = .ok (.i2l, 1) := by decide +kernel
theorem dX7_hashRing_127 : decode cX7_hashRing 127 = .ok (.invokevirtual 332, 3) := by decide +kernel
theorem dX7_hashRing_130 : decode cX7_hashRing 130 = .ok (.aload_n 1, 1) := by decide +kernel
theorem dX7_hashRing_131 : decode cX7_hashRing 131 = .ok (.aload_n 2, 1) := by decide +kernel
theorem dX7_hashRing_132 : decode cX7_hashRing 132 = .ok (.invokevirtual 263, 3) := by decide +kernel
theorem dX7_hashRing_135 : decode cX7_hashRing 135 = .ok (.iconst 1, 1) := by decide +kernel
theorem dX7_hashRing_136 : decode cX7_hashRing 136 = .ok (.iadd, 1) := by decide +kernel
theorem dX7_hashRing_137 : decode cX7_hashRing 137 = .ok (.i2l, 1) := by decide +kernel
theorem dX7_hashRing_138 : decode cX7_hashRing 138 = .ok (.invokevirtual 332, 3) := by decide +kernel
theorem dX7_hashRing_141 : decode cX7_hashRing 141 = .ok (.return_, 1) := by decide +kernel
theorem dX7_hashRest_0 : decode cX7_hashRest 0 = .ok (.aload_n 1, 1) := by decide +kernel
theorem dX7_hashRest_1 : decode cX7_hashRest 1 = .ok (.aload_n 0, 1) := by decide +kernel
theorem dX7_hashRest_2 : decode cX7_hashRest 2 = .ok (.invokevirtual 363, 3) := by decide +kernel
theorem dX7_hashRest_5 : decode cX7_hashRest 5 = .ok (.i2l, 1) := by decide +kernel
theorem dX7_hashRest_6 : decode cX7_hashRest 6 = .ok (.invokevirtual 332, 3) := by decide +kernel
theorem dX7_hashRest_9 : decode cX7_hashRest 9 = .ok (.aload_n 1, 1) := by decide +kernel
theorem dX7_hashRest_10 : decode cX7_hashRest 10 = .ok (.aload_n 0, 1) := by decide +kernel
theorem dX7_hashRest_11 : decode cX7_hashRest 11 = .ok (.invokevirtual 365, 3) := by decide +kernel
theorem dX7_hashRest_14 : decode cX7_hashRest 14 = .ok (.i2l, 1) := by decide +kernel
theorem dX7_hashRest_15 : decode cX7_hashRest 15 = .ok (.invokevirtual 332, 3) := by decide +kernel
theorem dX7_hashRest_18 : decode cX7_hashRest 18 = .ok (.aload_n 1, 1) := by decide +kernel
theorem dX7_hashRest_19 : decode cX7_hashRest 19 = .ok (.aload_n 0, 1) := by decide +kernel
theorem dX7_hashRest_20 : decode cX7_hashRest 20 = .ok (.invokevirtual 367, 3) := by decide +kernel
theorem dX7_hashRest_23 : decode cX7_hashRest 23 = .ok (.i2l, 1) := by decide +kernel
theorem dX7_hashRest_24 : decode cX7_hashRest 24 = .ok (.invokevirtual 332, 3) := by decide +kernel
theorem dX7_hashRest_27 : decode cX7_hashRest 27 = .ok (.aload_n 1, 1) := by decide +kernel
theorem dX7_hashRest_28 : decode cX7_hashRest 28 = .ok (.aload_n 0, 1) := by decide +kernel
theorem dX7_hashRest_29 : decode cX7_hashRest 29 = .ok (.invokevirtual 369, 3) := by decide +kernel
theorem dX7_hashRest_32 : decode cX7_hashRest 32 = .ok (.i2l, 1) := by decide +kernel
theorem dX7_hashRest_33 : decode cX7_hashRest 33 = .ok (.invokevirtual 332, 3) := by decide +kernel
theorem dX7_hashRest_36 : decode cX7_hashRest 36 = .ok (.aload_n 1, 1) := by decide +kernel
theorem dX7_hashRest_37 : decode cX7_hashRest 37 = .ok (.aload_n 0, 1) := by decide +kernel
theorem dX7_hashRest_38 : decode cX7_hashRest 38 = .ok (.invokevirtual 372, 3) := by decide +kernel
theorem dX7_hashRest_41 : decode cX7_hashRest 41 = .ok (.i2l, 1) := by decide +kernel
theorem dX7_hashRest_42 : decode cX7_hashRest 42 = .ok (.invokevirtual 332, 3) := by decide +kernel
theorem dX7_hashRest_45 : decode cX7_hashRest 45 = .ok (.aload_n 1, 1) := by decide +kernel
theorem dX7_hashRest_46 : decode cX7_hashRest 46 = .ok (.aload_n 0, 1) := by decide +kernel
theorem dX7_hashRest_47 : decode cX7_hashRest 47 = .ok (.invokevirtual 375, 3) := by decide +kernel
theorem dX7_hashRest_50 : decode cX7_hashRest 50 = .ok (.i2l, 1) := by decide +kernel
theorem dX7_hashRest_51 : decode cX7_hashRest 51 = .ok (.invokevirtual 332, 3) := by decide +kernel
theorem dX7_hashRest_54 : decode cX7_hashRest 54 = .ok (.aload_n 1, 1) := by decide +kernel
theorem dX7_hashRest_55 : decode cX7_hashRest 55 = .ok (.aload_n 0, 1) := by decide +kernel
theorem dX7_hashRest_56 : decode cX7_hashRest 56 = .ok (.invokevirtual 378, 3) := by decide +kernel
theorem dX7_hashRest_59 : decode cX7_hashRest 59 = .ok (.invokestatic 382, 3) := by decide +kernel
theorem dX7_hashRest_62 : decode cX7_hashRest 62 = .ok (.invokevirtual 332, 3) := by decide +kernel
theorem dX7_hashRest_65 : decode cX7_hashRest 65 = .ok (.iconst 0, 1) := by decide +kernel
theorem dX7_hashRest_66 : decode cX7_hashRest 66 = .ok (.istore_n 2, 1) := by decide +kernel
theorem dX7_hashRest_67 : decode cX7_hashRest 67 = .ok (.iload_n 2, 1) := by decide +kernel
theorem dX7_hashRest_68 : decode cX7_hashRest 68 = .ok (.iconst 2, 1) := by decide +kernel
theorem dX7_hashRest_69 : decode cX7_hashRest 69 = .ok (.if_icmp .ge 27, 3) := by decide +kernel
theorem dX7_hashRest_72 : decode cX7_hashRest 72 = .ok (.aload_n 1, 1) := by decide +kernel
theorem dX7_hashRest_73 : decode cX7_hashRest 73 = .ok (.aload_n 0, 1) := by decide +kernel
theorem dX7_hashRest_74 : decode cX7_hashRest 74 = .ok (.getfield 27, 3) := by decide +kernel
theorem dX7_hashRest_77 : decode cX7_hashRest 77 = .ok (.iload_n 2, 1) := by decide +kernel
theorem dX7_hashRest_78 : decode cX7_hashRest 78 = .ok (.baload, 1) := by decide +kernel
theorem dX7_hashRest_79 : decode cX7_hashRest 79 = .ok (.ifCond .eq 7, 3) := by decide +kernel
theorem dX7_hashRest_82 : decode cX7_hashRest 82 = .ok (.lconst 1, 1) := by decide +kernel
theorem dX7_hashRest_83 : decode cX7_hashRest 83 = .ok (.goto 4, 3) := by decide +kernel
theorem dX7_hashRest_86 : decode cX7_hashRest 86 = .ok (.lconst 0, 1) := by decide +kernel
theorem dX7_hashRest_87 : decode cX7_hashRest 87 = .ok (.invokevirtual 332, 3) := by decide +kernel
theorem dX7_hashRest_90 : decode cX7_hashRest 90 = .ok (.iinc 2 1, 3) := by decide +kernel
theorem dX7_hashRest_93 : decode cX7_hashRest 93 = .ok (.goto (-26), 3) := by decide +kernel
theorem dX7_hashRest_96 : decode cX7_hashRest 96 = .ok (.aload_n 1, 1) := by decide +kernel
theorem dX7_hashRest_97 : decode cX7_hashRest 97 = .ok (.aload_n 0, 1) := by decide +kernel
theorem dX7_hashRest_98 : decode cX7_hashRest 98 = .ok (.getfield 36, 3) := by decide +kernel
theorem dX7_hashRest_101 : decode cX7_hashRest 101 = .ok (.invokevirtual 328, 3) := by decide +kernel
theorem dX7_hashRest_104 : decode cX7_hashRest 104 = .ok (.return_, 1) := by decide +kernel
theorem dX7_bitsOf_0 : decode cX7_bitsOf 0 = .ok (.dload_n 0, 1) := by decide +kernel
theorem dX7_bitsOf_1 : decode cX7_bitsOf 1 = .ok (.dconst 1, 1) := by decide +kernel
theorem dX7_bitsOf_2 : decode cX7_bitsOf 2 = .ok (.dcmp .l, 1) := by decide +kernel
theorem dX7_bitsOf_3 : decode cX7_bitsOf 3 = .ok (.ifCond .ge 5, 3) := by decide +kernel
theorem dX7_bitsOf_6 : decode cX7_bitsOf 6 = .ok (.lconst 0, 1) := by decide +kernel
theorem dX7_bitsOf_7 : decode cX7_bitsOf 7 = .ok (.lreturn, 1) := by decide +kernel
theorem dX7_bitsOf_8 : decode cX7_bitsOf 8 = .ok (.dload_n 0, 1) := by decide +kernel
theorem dX7_bitsOf_9 : decode cX7_bitsOf 9 = .ok (.dstore_n 2, 1) := by decide +kernel
theorem dX7_bitsOf_10 : decode cX7_bitsOf 10 = .ok (.ldc2_w 386, 3) := by decide +kernel
theorem dX7_bitsOf_13 : decode cX7_bitsOf 13 = .ok (.lstore 4, 2) := by decide +kernel
theorem dX7_bitsOf_15 : decode cX7_bitsOf 15 = .ok (.iconst 0, 1) := by decide +kernel
theorem dX7_bitsOf_16 : decode cX7_bitsOf 16 = .ok (.istore 6, 2) := by decide +kernel
theorem dX7_bitsOf_18 : decode cX7_bitsOf 18 = .ok (.iload 6, 2) := by decide +kernel
theorem dX7_bitsOf_20 : decode cX7_bitsOf 20 = .ok (.sipush 1023, 3) := by decide +kernel
theorem dX7_bitsOf_23 : decode cX7_bitsOf 23 = .ok (.if_icmp .ge 29, 3) := by decide +kernel
theorem dX7_bitsOf_26 : decode cX7_bitsOf 26 = .ok (.dload_n 2, 1) := by decide +kernel
theorem dX7_bitsOf_27 : decode cX7_bitsOf 27 = .ok (.ldc2_w 388, 3) := by decide +kernel
theorem dX7_bitsOf_30 : decode cX7_bitsOf 30 = .ok (.dcmp .l, 1) := by decide +kernel
theorem dX7_bitsOf_31 : decode cX7_bitsOf 31 = .ok (.ifCond .lt 21, 3) := by decide +kernel
theorem dX7_bitsOf_34 : decode cX7_bitsOf 34 = .ok (.dload_n 2, 1) := by decide +kernel
theorem dX7_bitsOf_35 : decode cX7_bitsOf 35 = .ok (.ldc2_w 388, 3) := by decide +kernel
theorem dX7_bitsOf_38 : decode cX7_bitsOf 38 = .ok (.ddiv, 1) := by decide +kernel
theorem dX7_bitsOf_39 : decode cX7_bitsOf 39 = .ok (.dstore_n 2, 1) := by decide +kernel
theorem dX7_bitsOf_40 : decode cX7_bitsOf 40 = .ok (.lload 4, 2) := by decide +kernel
theorem dX7_bitsOf_42 : decode cX7_bitsOf 42 = .ok (.lconst 1, 1) := by decide +kernel
theorem dX7_bitsOf_43 : decode cX7_bitsOf 43 = .ok (.ladd, 1) := by decide +kernel
theorem dX7_bitsOf_44 : decode cX7_bitsOf 44 = .ok (.lstore 4, 2) := by decide +kernel
theorem dX7_bitsOf_46 : decode cX7_bitsOf 46 = .ok (.iinc 6 1, 3) := by decide +kernel
theorem dX7_bitsOf_49 : decode cX7_bitsOf 49 = .ok (.goto (-31), 3) := by decide +kernel
theorem dX7_bitsOf_52 : decode cX7_bitsOf 52 = .ok (.lload 4, 2) := by decide +kernel
theorem dX7_bitsOf_54 : decode cX7_bitsOf 54 = .ok (.bipush 52, 2) := by decide +kernel
theorem dX7_bitsOf_56 : decode cX7_bitsOf 56 = .ok (.lshl, 1) := by decide +kernel
theorem dX7_bitsOf_57 : decode cX7_bitsOf 57 = .ok (.dload_n 2, 1) := by decide +kernel
theorem dX7_bitsOf_58 : decode cX7_bitsOf 58 = .ok (.dconst 1, 1) := by decide +kernel
theorem dX7_bitsOf_59 : decode cX7_bitsOf 59 = .ok (.dsub, 1) := by decide +kernel
theorem dX7_bitsOf_60 : decode cX7_bitsOf 60 = .ok (.ldc2_w 390, 3) := by decide +kernel
theorem dX7_bitsOf_63 : decode cX7_bitsOf 63 = .ok (.dmul, 1) := by decide +kernel
theorem dX7_bitsOf_64 : decode cX7_bitsOf 64 = .ok (.d2l, 1) := by decide +kernel
theorem dX7_bitsOf_65 : decode cX7_bitsOf 65 = .ok (.ladd, 1) := by decide +kernel
theorem dX7_bitsOf_66 : decode cX7_bitsOf 66 = .ok (.lreturn, 1) := by decide +kernel
theorem dJ11_isValidCodePoint_9a6ad_0 : decode cJ11_isValidCodePoint_9a6ad 0 = .ok (.iload_n 0, 1) := by decide +kernel
theorem dJ11_isValidCodePoint_9a6ad_1 : decode cJ11_isValidCodePoint_9a6ad 1 = .ok (.bipush 16, 2) := by decide +kernel
theorem dJ11_isValidCodePoint_9a6ad_3 : decode cJ11_isValidCodePoint_9a6ad 3 = .ok (.iushr, 1) := by decide +kernel
theorem dJ11_isValidCodePoint_9a6ad_4 : decode cJ11_isValidCodePoint_9a6ad 4 = .ok (.istore_n 1, 1) := by decide +kernel
theorem dJ11_isValidCodePoint_9a6ad_5 : decode cJ11_isValidCodePoint_9a6ad 5 = .ok (.iload_n 1, 1) := by decide +kernel
theorem dJ11_isValidCodePoint_9a6ad_6 : decode cJ11_isValidCodePoint_9a6ad 6 = .ok (.bipush 17, 2) := by decide +kernel
theorem dJ11_isValidCodePoint_9a6ad_8 : decode cJ11_isValidCodePoint_9a6ad 8 = .ok (.if_icmp .ge 7, 3) := by decide +kernel
theorem dJ11_isValidCodePoint_9a6ad_11 : decode cJ11_isValidCodePoint_9a6ad 11 = .ok (.iconst 1, 1) := by decide +kernel
theorem dJ11_isValidCodePoint_9a6ad_12 : decode cJ11_isValidCodePoint_9a6ad 12 = .ok (.goto 4, 3) := by decide +kernel
theorem dJ11_isValidCodePoint_9a6ad_15 : decode cJ11_isValidCodePoint_9a6ad 15 = .ok (.iconst 0, 1) := by decide +kernel
theorem dJ11_isValidCodePoint_9a6ad_16 : decode cJ11_isValidCodePoint_9a6ad 16 = .ok (.ireturn, 1) := by decide +kernel
theorem dJ11_highSurrogate_5068e_0 : decode cJ11_highSurrogate_5068e 0 = .ok (.iload_n 0, 1) := by decide +kernel
theorem dJ11_highSurrogate_5068e_1 : decode cJ11_highSurrogate_5068e 1 = .ok (.bipush 10, 2) := by decide +kernel
theorem dJ11_highSurrogate_5068e_3 : decode cJ11_highSurrogate_5068e 3 = .ok (.iushr, 1) := by decide +kernel
theorem dJ11_highSurrogate_5068e_4 : decode cJ11_highSurrogate_5068e 4 = .ok (.ldc 110, 2) := by decide +kernel
theorem dJ11_highSurrogate_5068e_6 : decode cJ11_highSurrogate_5068e 6 = .ok (.iadd, 1) := by decide +kernel
theorem dJ11_highSurrogate_5068e_7 : decode cJ11_highSurrogate_5068e 7 = .ok (.i2c, 1) := by decide +kernel
theorem dJ11_highSurrogate_5068e_8 : decode cJ11_highSurrogate_5068e 8 = .ok (.ireturn, 1) := by decide +kernel
theorem dJ11_lowSurrogate_5068e_0 : decode cJ11_lowSurrogate_5068e 0 = .ok (.iload_n 0, 1) := by decide +kernel
theorem dJ11_lowSurrogate_5068e_1 : decode cJ11_lowSurrogate_5068e 1 = .ok (.sipush 1023, 3) := by decide +kernel
theorem dJ11_lowSurrogate_5068e_4 : decode cJ11_lowSurrogate_5068e 4 = .ok (.iand, 1) := by decide +kernel
theorem dJ11_lowSurrogate_5068e_5 : decode cJ11_lowSurrogate_5068e 5 = .ok (.ldc 76, 2) := by decide +kernel
theorem dJ11_lowSurrogate_5068e_7 : decode cJ11_lowSurrogate_5068e 7 = .ok (.iadd, 1) := by decide +kernel
theorem dJ11_lowSurrogate_5068e_8 : decode cJ11_lowSurrogate_5068e 8 = .ok (.i2c, 1) := by decide +kernel
theorem dJ11_lowSurrogate_5068e_9 : decode cJ11_lowSurrogate_5068e 9 = .ok (.ireturn, 1) := by decide +kernel
theorem dJ9_floorMod_7cf53_0 : decode cJ9_floorMod_7cf53 0 = .ok (.iload_n 0, 1) := by decide +kernel
theorem dJ9_floorMod_7cf53_1 : decode cJ9_floorMod_7cf53 1 = .ok (.iload_n 1, 1) := by decide +kernel
theorem dJ9_floorMod_7cf53_2 : decode cJ9_floorMod_7cf53 2 = .ok (.irem, 1) := by decide +kernel
theorem dJ9_floorMod_7cf53_3 : decode cJ9_floorMod_7cf53 3 = .ok (.istore_n 2, 1) := by decide +kernel
theorem dJ9_floorMod_7cf53_4 : decode cJ9_floorMod_7cf53 4 = .ok (.iload_n 0, 1) := by decide +kernel
theorem dJ9_floorMod_7cf53_5 : decode cJ9_floorMod_7cf53 5 = .ok (.iload_n 1, 1) := by decide +kernel
theorem dJ9_floorMod_7cf53_6 : decode cJ9_floorMod_7cf53 6 = .ok (.ixor, 1) := by decide +kernel
theorem dJ9_floorMod_7cf53_7 : decode cJ9_floorMod_7cf53 7 = .ok (.ifCond .ge 11, 3) := by decide +kernel
theorem dJ9_floorMod_7cf53_10 : decode cJ9_floorMod_7cf53 10 = .ok (.iload_n 2, 1) := by decide +kernel
theorem dJ9_floorMod_7cf53_11 : decode cJ9_floorMod_7cf53 11 = .ok (.ifCond .eq 7, 3) := by decide +kernel
theorem dJ9_floorMod_7cf53_14 : decode cJ9_floorMod_7cf53 14 = .ok (.iload_n 2, 1) := by decide +kernel
theorem dJ9_floorMod_7cf53_15 : decode cJ9_floorMod_7cf53 15 = .ok (.iload_n 1, 1) := by decide +kernel
theorem dJ9_floorMod_7cf53_16 : decode cJ9_floorMod_7cf53 16 = .ok (.iadd, 1) := by decide +kernel
theorem dJ9_floorMod_7cf53_17 : decode cJ9_floorMod_7cf53 17 = .ok (.ireturn, 1) := by decide +kernel
theorem dJ9_floorMod_7cf53_18 : decode cJ9_floorMod_7cf53 18 = .ok (.iload_n 2, 1) := by decide +kernel
theorem dJ9_floorMod_7cf53_19 : decode cJ9_floorMod_7cf53 19 = .ok (.ireturn, 1) := by decide +kernel
theorem dJ9_abs_0f7a4_0 : decode cJ9_abs_0f7a4 0 = .ok (.iload_n 0, 1) := by decide +kernel
theorem dJ9_abs_0f7a4_1 : decode cJ9_abs_0f7a4 1 = .ok (.ifCond .ge 8, 3) := by decide +kernel
theorem dJ9_abs_0f7a4_4 : decode cJ9_abs_0f7a4 4 = .ok (.iload_n 0, 1) := by decide +kernel
theorem dJ9_abs_0f7a4_5 : decode cJ9_abs_0f7a4 5 = .ok (.ineg, 1) := by decide +kernel
theorem dJ9_abs_0f7a4_6 : decode cJ9_abs_0f7a4 6 = .ok (.goto 4, 3) := by decide +kernel
theorem dJ9_abs_0f7a4_9 : decode cJ9_abs_0f7a4 9 = .ok (.iload_n 0, 1) := by decide +kernel
theorem dJ9_abs_0f7a4_10 : decode cJ9_abs_0f7a4 10 = .ok (.ireturn, 1) := by decide +kernel
theorem dJ9_max_7cf53_0 : decode cJ9_max_7cf53 0 = .ok (.iload_n 0, 1) := by decide +kernel
theorem dJ9_max_7cf53_1 : decode cJ9_max_7cf53 1 = .ok (.iload_n 1, 1) := by decide +kernel
theorem dJ9_max_7cf53_2 : decode cJ9_max_7cf53 2 = .ok (.if_icmp .lt 7, 3) := by decide +kernel
theorem dJ9_max_7cf53_5 : decode cJ9_max_7cf53 5 = .ok (.iload_n 0, 1) := by decide +kernel
theorem dJ9_max_7cf53_6 : decode cJ9_max_7cf53 6 = .ok (.goto 4, 3) := by decide +kernel
theorem dJ9_max_7cf53_9 : decode cJ9_max_7cf53 9 = .ok (.iload_n 1, 1) := by decide +kernel
theorem dJ9_max_7cf53_10 : decode cJ9_max_7cf53 10 = .ok (.ireturn, 1) := by decide +kernel
theorem dJ9_min_7cf53_0 : decode cJ9_min_7cf53 0 = .ok (.iload_n 0, 1) := by decide +kernel
theorem dJ9_min_7cf53_1 : decode cJ9_min_7cf53 1 = .ok (.iload_n 1, 1) := by decide +kernel
theorem dJ9_min_7cf53_2 : decode cJ9_min_7cf53 2 = .ok (.if_icmp .gt 7, 3) := by decide +kernel
theorem dJ9_min_7cf53_5 : decode cJ9_min_7cf53 5 = .ok (.iload_n 0, 1) := by decide +kernel
theorem dJ9_min_7cf53_6 : decode cJ9_min_7cf53 6 = .ok (.goto 4, 3) := by decide +kernel
theorem dJ9_min_7cf53_9 : decode cJ9_min_7cf53 9 = .ok (.iload_n 1, 1) := by decide +kernel
theorem dJ9_min_7cf53_10 : decode cJ9_min_7cf53 10 = .ok (.ireturn, 1) := by decide +kernel
theorem dJ0_length_8abf5_0 : decode cJ0_length_8abf5 0 = .ok (.aload_n 0, 1) := by decide +kernel
theorem dJ0_length_8abf5_1 : decode cJ0_length_8abf5 1 = .ok (.getfield 9, 3) := by decide +kernel
theorem dJ0_length_8abf5_4 : decode cJ0_length_8abf5 4 = .ok (.arraylength, 1) := by decide +kernel
theorem dJ0_length_8abf5_5 : decode cJ0_length_8abf5 5 = .ok (.aload_n 0, 1) := by decide +kernel
theorem dJ0_length_8abf5_6 : decode cJ0_length_8abf5 6 = .ok (.invokevirtual 335, 3) := by decide +kernel
theorem dJ0_length_8abf5_9 : decode cJ0_length_8abf5 9 = .ok (.ishr, 1) := by decide +kernel
theorem dJ0_length_8abf5_10 : decode cJ0_length_8abf5 10 = .ok (.ireturn, 1) := by decide +kernel
theorem dJ0_indexOf_0f7a4_0 : decode cJ0_indexOf_0f7a4 0 = .ok (.aload_n 0, 1) := by decide +kernel
theorem dJ0_indexOf_0f7a4_1 : decode cJ0_indexOf_0f7a4 1 = .ok (.iload_n 1, 1) := by decide +kernel
theorem dJ0_indexOf_0f7a4_2 : decode cJ0_indexOf_0f7a4 2 = .ok (.iconst 0, 1) := by decide +kernel
theorem dJ0_indexOf_0f7a4_3 : decode cJ0_indexOf_0f7a4 3 = .ok (.invokevirtual 633, 3) := by decide +kernel
theorem dJ0_indexOf_0f7a4_6 : decode cJ0_indexOf_0f7a4 6 = .ok (.ireturn, 1) := by decide +kernel
theorem dJ0_indexOf_7cf53_0 : decode cJ0_indexOf_7cf53 0 = .ok (.aload_n 0, 1) := by decide +kernel
theorem dJ0_indexOf_7cf53_1 : decode cJ0_indexOf_7cf53 1 = .ok (.invokevirtual 492, 3) := by decide +kernel
theorem dJ0_indexOf_7cf53_4 : decode cJ0_indexOf_7cf53 4 = .ok (.ifCond .eq 19, 3) := by decide +kernel
theorem dJ0_indexOf_7cf53_7 : decode cJ0_indexOf_7cf53 7 = .ok (.aload_n 0, 1) := by decide +kernel
theorem dJ0_indexOf_7cf53_8 : decode cJ0_indexOf_7cf53 8 = .ok (.getfield 9, 3) := by decide +kernel
theorem dJ0_indexOf_7cf53_11 : decode cJ0_indexOf_7cf53 11 = .ok (.iload_n 1, 1) := by decide +kernel
theorem dJ0_indexOf_7cf53_12 : decode cJ0_indexOf_7cf53 12 = .ok (.iload_n 2, 1) := by decide +kernel
theorem dJ0_indexOf_7cf53_13 : decode cJ0_indexOf_7cf53 13 = .ok (.aload_n 0, 1) := by decide +kernel
theorem dJ0_indexOf_7cf53_14 : decode cJ0_indexOf_7cf53 14 = .ok (.invokevirtual 505, 3) := by decide +kernel
theorem dJ0_indexOf_7cf53_17 : decode cJ0_indexOf_7cf53 17 = .ok (.invokestatic 637, 3) := by decide +kernel
theorem dJ0_indexOf_7cf53_20 : decode cJ0_indexOf_7cf53 20 = .ok (.goto 16, 3) := by decide +kernel
theorem dJ0_indexOf_7cf53_23 : decode cJ0_indexOf_7cf53 23 = .ok (.aload_n 0, 1) := by decide +kernel
theorem dJ0_indexOf_7cf53_24 : decode cJ0_indexOf_7cf53 24 = .ok (.getfield 9, 3) := by decide +kernel
theorem dJ0_indexOf_7cf53_27 : decode cJ0_indexOf_7cf53 27 = .ok (.iload_n 1, 1) := by decide +kernel
theorem dJ0_indexOf_7cf53_28 : decode cJ0_indexOf_7cf53 28 = .ok (.iload_n 2, 1) := by decide +kernel
theorem dJ0_indexOf_7cf53_29 : decode cJ0_indexOf_7cf53 29 = .ok (.aload_n 0, 1) := by decide +kernel
theorem dJ0_indexOf_7cf53_30 : decode cJ0_indexOf_7cf53 30 = .ok (.invokevirtual 505, 3) := by decide +kernel
theorem dJ0_indexOf_7cf53_33 : decode cJ0_indexOf_7cf53 33 = .ok (.invokestatic 640, 3) := by decide +kernel
theorem dJ0_indexOf_7cf53_36 : decode cJ0_indexOf_7cf53 36 = .ok (.ireturn, 1) := by decide +kernel
theorem dJ0_coder_7d493_0 : decode cJ0_coder_7d493 0 = .ok (.getstatic 38, 3) := by decide +kernel
theorem dJ0_coder_7d493_3 : decode cJ0_coder_7d493 3 = .ok (.ifCond .eq 10, 3) := by decide +kernel
theorem dJ0_coder_7d493_6 : decode cJ0_coder_7d493 6 = .ok (.aload_n 0, 1) := by decide +kernel
theorem dJ0_coder_7d493_7 : decode cJ0_coder_7d493 7 = .ok (.getfield 15, 3) := by decide +kernel
theorem dJ0_coder_7d493_10 : decode cJ0_coder_7d493 10 = .ok (.goto 4, 3) := by decide +kernel
theorem dJ0_coder_7d493_13 : decode cJ0_coder_7d493 13 = .ok (.iconst 1, 1) := by decide +kernel
theorem dJ0_coder_7d493_14 : decode cJ0_coder_7d493 14 = .ok (.ireturn, 1) := by decide +kernel
theorem dJ0_isLatin1_aae02_0 : decode cJ0_isLatin1_aae02 0 = .ok (.getstatic 38, 3) := by decide +kernel
theorem dJ0_isLatin1_aae02_3 : decode cJ0_isLatin1_aae02 3 = .ok (.ifCond .eq 14, 3) := by decide +kernel
theorem dJ0_isLatin1_aae02_6 : decode cJ0_isLatin1_aae02 6 = .ok (.aload_n 0, 1) := by decide +kernel
theorem dJ0_isLatin1_aae02_7 : decode cJ0_isLatin1_aae02 7 = .ok (.getfield 15, 3) := by decide +kernel
theorem dJ0_isLatin1_aae02_10 : decode cJ0_isLatin1_aae02 10 = .ok (.ifCond .ne 7, 3) := by decide +kernel
theorem dJ0_isLatin1_aae02_13 : decode cJ0_isLatin1_aae02 13 = .ok (.iconst 1, 1) := by decide +kernel
theorem dJ0_isLatin1_aae02_14 : decode cJ0_isLatin1_aae02 14 = .ok (.goto 4, 3) := by decide +kernel
theorem dJ0_isLatin1_aae02_17 : decode cJ0_isLatin1_aae02 17 = .ok (.iconst 0, 1) := by decide +kernel
theorem dJ0_isLatin1_aae02_18 : decode cJ0_isLatin1_aae02 18 = .ok (.ireturn, 1) := by decide +kernel
theorem dJ0_checkBoundsBeginEnd_23922_0 : decode cJ0_checkBoundsBeginEnd_23922 0 = .ok (.iload_n 0, 1) := by decide +kernel
theorem dJ0_checkBoundsBeginEnd_23922_1 : decode cJ0_checkBoundsBeginEnd_23922 1 = .ok (.iload_n 1, 1) := by decide +kernel
theorem dJ0_checkBoundsBeginEnd_23922_2 : decode cJ0_checkBoundsBeginEnd_23922 2 = .ok (.iload_n 2, 1) := by decide +kernel
theorem dJ0_checkBoundsBeginEnd_23922_3 : decode cJ0_checkBoundsBeginEnd_23922 3 = .ok (.getstatic 1053, 3) := by decide +kernel
theorem dJ0_checkBoundsBeginEnd_23922_6 : decode cJ0_checkBoundsBeginEnd_23922 6 = .ok (.invokestatic 1062, 3) := by decide +kernel
theorem dJ0_checkBoundsBeginEnd_23922_9 : decode cJ0_checkBoundsBeginEnd_23922 9 = .ok (.pop, 1) := by decide +kernel
theorem dJ0_checkBoundsBeginEnd_23922_10 : decode cJ0_checkBoundsBeginEnd_23922 10 = .ok (.return_, 1) := by decide +kernel
theorem dJ1_canEncode_9a6ad_0 : decode cJ1_canEncode_9a6ad 0 = .ok (.iload_n 0, 1) := by decide +kernel
theorem dJ1_canEncode_9a6ad_1 : decode cJ1_canEncode_9a6ad 1 = .ok (.ifCond .lt 14, 3) := by decide +kernel
theorem dJ1_canEncode_9a6ad_4 : decode cJ1_canEncode_9a6ad 4 = .ok (.iload_n 0, 1) := by decide +kernel
theorem dJ1_canEncode_9a6ad_5 : decode cJ1_canEncode_9a6ad 5 = .ok (.sipush 255, 3) := by decide +kernel
theorem dJ1_canEncode_9a6ad_8 : decode cJ1_canEncode_9a6ad 8 = .ok (.if_icmp .gt 7, 3) := by decide +kernel
theorem dJ1_canEncode_9a6ad_11 : decode cJ1_canEncode_9a6ad 11 = .ok (.iconst 1, 1) := by decide +kernel
theorem dJ1_canEncode_9a6ad_12 : decode cJ1_canEncode_9a6ad 12 = .ok (.goto 4, 3) := by decide +kernel
theorem dJ1_canEncode_9a6ad_15 : decode cJ1_canEncode_9a6ad 15 = .ok (.iconst 0, 1) := by decide +kernel
theorem dJ1_canEncode_9a6ad_16 : decode cJ1_canEncode_9a6ad 16 = .ok (.ireturn, 1) := by decide +kernel
theorem dJ1_indexOf_4cfef_0 : decode cJ1_indexOf_4cfef 0 = .ok (.iload_n 1, 1) := by decide +kernel
theorem dJ1_indexOf_4cfef_1 : decode cJ1_indexOf_4cfef 1 = .ok (.invokestatic 88, 3) := by decide +kernel
theorem dJ1_indexOf_4cfef_4 : decode cJ1_indexOf_4cfef 4 = .ok (.ifCond .ne 5, 3) := by decide +kernel
theorem dJ1_indexOf_4cfef_7 : decode cJ1_indexOf_4cfef 7 = .ok (.iconst (-1), 1) := by decide +kernel
theorem dJ1_indexOf_4cfef_8 : decode cJ1_indexOf_4cfef 8 = .ok (.ireturn, 1) := by decide +kernel
theorem dJ1_indexOf_4cfef_9 : decode cJ1_indexOf_4cfef 9 = .ok (.iload_n 2, 1) := by decide +kernel
theorem dJ1_indexOf_4cfef_10 : decode cJ1_indexOf_4cfef 10 = .ok (.iconst 0, 1) := by decide +kernel
theorem dJ1_indexOf_4cfef_11 : decode cJ1_indexOf_4cfef 11 = .ok (.invokestatic 92, 3) := by decide +kernel
theorem dJ1_indexOf_4cfef_14 : decode cJ1_indexOf_4cfef 14 = .ok (.istore_n 2, 1) := by decide +kernel
theorem dJ1_indexOf_4cfef_15 : decode cJ1_indexOf_4cfef 15 = .ok (.iload_n 3, 1) := by decide +kernel
theorem dJ1_indexOf_4cfef_16 : decode cJ1_indexOf_4cfef 16 = .ok (.aload_n 0, 1) := by decide +kernel
theorem dJ1_indexOf_4cfef_17 : decode cJ1_indexOf_4cfef 17 = .ok (.arraylength, 1) := by decide +kernel
theorem dJ1_indexOf_4cfef_18 : decode cJ1_indexOf_4cfef 18 = .ok (.invokestatic 38, 3) := by decide +kernel
theorem dJ1_indexOf_4cfef_21 : decode cJ1_indexOf_4cfef 21 = .ok (.istore_n 3, 1) := by decide +kernel
theorem dJ1_indexOf_4cfef_22 : decode cJ1_indexOf_4cfef 22 = .ok (.iload_n 2, 1) := by decide +kernel
theorem dJ1_indexOf_4cfef_23 : decode cJ1_indexOf_4cfef 23 = .ok (.iload_n 3, 1) := by decide +kernel
theorem dJ1_indexOf_4cfef_24 : decode cJ1_indexOf_4cfef 24 = .ok (.if_icmp .lt 5, 3) := by decide +kernel
theorem dJ1_indexOf_4cfef_27 : decode cJ1_indexOf_4cfef 27 = .ok (.iconst (-1), 1) := by decide +kernel
theorem dJ1_indexOf_4cfef_28 : decode cJ1_indexOf_4cfef 28 = .ok (.ireturn, 1) := by decide +kernel
theorem dJ1_indexOf_4cfef_29 : decode cJ1_indexOf_4cfef 29 = .ok (.aload_n 0, 1) := by decide +kernel
theorem dJ1_indexOf_4cfef_30 : decode cJ1_indexOf_4cfef 30 = .ok (.iload_n 1, 1) := by decide +kernel
theorem dJ1_indexOf_4cfef_31 : decode cJ1_indexOf_4cfef 31 = .ok (.iload_n 2, 1) := by decide +kernel
theorem dJ1_indexOf_4cfef_32 : decode cJ1_indexOf_4cfef 32 = .ok (.iload_n 3, 1) := by decide +kernel
theorem dJ1_indexOf_4cfef_33 : decode cJ1_indexOf_4cfef 33 = .ok (.invokestatic 95, 3) := by decide +kernel
theorem dJ1_indexOf_4cfef_36 : decode cJ1_indexOf_4cfef 36 = .ok (.ireturn, 1) := by decide +kernel
theorem dJ1_indexOfChar_4cfef_0 : decode cJ1_indexOfChar_4cfef 0 = .ok (.iload_n 1, 1) := by decide +kernel
theorem dJ1_indexOfChar_4cfef_1 : decode cJ1_indexOfChar_4cfef 1 = .ok (.i2b, 1) := by decide +kernel
theorem dJ1_indexOfChar_4cfef_2 : decode cJ1_indexOfChar_4cfef 2 = .ok (.istore 4, 2) := by decide +kernel
theorem dJ1_indexOfChar_4cfef_4 : decode cJ1_indexOfChar_4cfef 4 = .ok (.iload_n 2, 1) := by decide +kernel
theorem dJ1_indexOfChar_4cfef_5 : decode cJ1_indexOfChar_4cfef 5 = .ok (.istore 5, 2) := by decide +kernel
theorem dJ1_indexOfChar_4cfef_7 : decode cJ1_indexOfChar_4cfef 7 = .ok (.iload 5, 2) := by decide +kernel
theorem dJ1_indexOfChar_4cfef_9 : decode cJ1_indexOfChar_4cfef 9 = .ok (.iload_n 3, 1) := by decide +kernel
theorem dJ1_indexOfChar_4cfef_10 : decode cJ1_indexOfChar_4cfef 10 = .ok (.if_icmp .ge 21, 3) := by decide +kernel
theorem dJ1_indexOfChar_4cfef_13 : decode cJ1_indexOfChar_4cfef 13 = .ok (.aload_n 0, 1) := by decide +kernel
theorem dJ1_indexOfChar_4cfef_14 : decode cJ1_indexOfChar_4cfef 14 = .ok (.iload 5, 2) := by decide +kernel
theorem dJ1_indexOfChar_4cfef_16 : decode cJ1_indexOfChar_4cfef 16 = .ok (.baload, 1) := by decide +kernel
theorem dJ1_indexOfChar_4cfef_17 : decode cJ1_indexOfChar_4cfef 17 = .ok (.iload 4, 2) := by decide +kernel
theorem dJ1_indexOfChar_4cfef_19 : decode cJ1_indexOfChar_4cfef 19 = .ok (.if_icmp .ne 6, 3) := by decide +kernel
theorem dJ1_indexOfChar_4cfef_22 : decode cJ1_indexOfChar_4cfef 22 = .ok (.iload 5, 2) := by decide +kernel
theorem dJ1_indexOfChar_4cfef_24 : decode cJ1_indexOfChar_4cfef 24 = .ok (.ireturn, 1) := by decide +kernel
theorem dJ1_indexOfChar_4cfef_25 : decode cJ1_indexOfChar_4cfef 25 = .ok (.iinc 5 1, 3) := by decide +kernel
theorem dJ1_indexOfChar_4cfef_28 : decode cJ1_indexOfChar_4cfef 28 = .ok (.goto (-21), 3) := by decide +kernel
theorem dJ1_indexOfChar_4cfef_31 : decode cJ1_indexOfChar_4cfef 31 = .ok (.iconst (-1), 1) := by decide +kernel
theorem dJ1_indexOfChar_4cfef_32 : decode cJ1_indexOfChar_4cfef 32 = .ok (.ireturn, 1) := by decide +kernel
theorem dJ2_getChar_3b067_0 : decode cJ2_getChar_3b067 0 = .ok (.getstatic 44, 3) := by decide +kernel
theorem dJ2_getChar_3b067_3 : decode cJ2_getChar_3b067 3 = .ok (.ifCond .ne 25, 3) := by decide +kernel
theorem dJ2_getChar_3b067_6 : decode cJ2_getChar_3b067 6 = .ok (.iload_n 1, 1) := by decide +kernel
theorem dJ2_getChar_3b067_7 : decode cJ2_getChar_3b067 7 = .ok (.ifCond .lt 11, 3) := by decide +kernel
theorem dJ2_getChar_3b067_10 : decode cJ2_getChar_3b067 10 = .ok (.iload_n 1, 1) := by decide +kernel
theorem dJ2_getChar_3b067_11 : decode cJ2_getChar_3b067 11 = .ok (.aload_n 0, 1) := by decide +kernel
theorem dJ2_getChar_3b067_12 : decode cJ2_getChar_3b067 12 = .ok (.invokestatic 48, 3) := by decide +kernel
theorem dJ2_getChar_3b067_15 : decode cJ2_getChar_3b067 15 = .ok (.if_icmp .lt 13, 3) := by decide +kernel
theorem dJ2_getChar_3b067_18 : decode cJ2_getChar_3b067 18 = .ok (.new 52, 3) := by decide +kernel
theorem dJ2_getChar_3b067_21 : decode cJ2_getChar_3b067 21 = .ok (.dup, 1) := by decide +kernel
theorem dJ2_getChar_3b067_22 : decode cJ2_getChar_3b067 22 = .ok (.ldc 54, 2) := by decide +kernel
theorem dJ2_getChar_3b067_24 : decode cJ2_getChar_3b067 24 = .ok (.invokespecial 56, 3) := by decide +kernel
theorem dJ2_getChar_3b067_27 : decode cJ2_getChar_3b067 27 = .ok (.athrow, 1) := by decide +kernel
theorem dJ2_getChar_3b067_28 : decode cJ2_getChar_3b067 28 = .ok (.iload_n 1, 1) := by decide +kernel
theorem dJ2_getChar_3b067_29 : decode cJ2_getChar_3b067 29 = .ok (.iconst 1, 1) := by decide +kernel
theorem dJ2_getChar_3b067_30 : decode cJ2_getChar_3b067 30 = .ok (.ishl, 1) := by decide +kernel
theorem dJ2_getChar_3b067_31 : decode cJ2_getChar_3b067 31 = .ok (.istore_n 1, 1) := by decide +kernel
theorem dJ2_getChar_3b067_32 : decode cJ2_getChar_3b067 32 = .ok (.aload_n 0, 1) := by decide +kernel
theorem dJ2_getChar_3b067_33 : decode cJ2_getChar_3b067 33 = .ok (.iload_n 1, 1) := by decide +kernel
theorem dJ2_getChar_3b067_34 : decode cJ2_getChar_3b067 34 = .ok (.iinc 1 1, 3) := by decide +kernel
theorem dJ2_getChar_3b067_37 : decode cJ2_getChar_3b067 37 = .ok (.baload, 1) := by decide +kernel
theorem dJ2_getChar_3b067_38 : decode cJ2_getChar_3b067 38 = .ok (.sipush 255, 3) := by decide +kernel
theorem dJ2_getChar_3b067_41 : decode cJ2_getChar_3b067 41 = .ok (.iand, 1) := by decide +kernel
theorem dJ2_getChar_3b067_42 : decode cJ2_getChar_3b067 42 = .ok (.getstatic 59, 3) := by decide +kernel
theorem dJ2_getChar_3b067_45 : decode cJ2_getChar_3b067 45 = .ok (.ishl, 1) := by decide +kernel
theorem dJ2_getChar_3b067_46 : decode cJ2_getChar_3b067 46 = .ok (.aload_n 0, 1) := by decide +kernel
theorem dJ2_getChar_3b067_47 : decode cJ2_getChar_3b067 47 = .ok (.iload_n 1, 1) := by decide +kernel
theorem dJ2_getChar_3b067_48 : decode cJ2_getChar_3b067 48 = .ok (.baload, 1) := by decide +kernel
theorem dJ2_getChar_3b067_49 : decode cJ2_getChar_3b067 49 = .ok (.sipush 255, 3) := by decide +kernel
theorem dJ2_getChar_3b067_52 : decode cJ2_getChar_3b067 52 = .ok (.iand, 1) := by decide +kernel
theorem dJ2_getChar_3b067_53 : decode cJ2_getChar_3b067 53 = .ok (.getstatic 63, 3) := by decide +kernel
theorem dJ2_getChar_3b067_56 : decode cJ2_getChar_3b067 56 = .ok (.ishl, 1) := by decide +kernel
theorem dJ2_getChar_3b067_57 : decode cJ2_getChar_3b067 57 = .ok (.ior, 1) := by decide +kernel
theorem dJ2_getChar_3b067_58 : decode cJ2_getChar_3b067 58 = .ok (.i2c, 1) := by decide +kernel
theorem dJ2_getChar_3b067_59 : decode cJ2_getChar_3b067 59 = .ok (.ireturn, 1) := by decide +kernel
theorem dJ2_length_9d52b_0 : decode cJ2_length_9d52b 0 = .ok (.aload_n 0, 1) := by decide +kernel
theorem dJ2_length_9d52b_1 : decode cJ2_length_9d52b 1 = .ok (.arraylength, 1) := by decide +kernel
theorem dJ2_length_9d52b_2 : decode cJ2_length_9d52b 2 = .ok (.iconst 1, 1) := by decide +kernel
theorem dJ2_length_9d52b_3 : decode cJ2_length_9d52b 3 = .ok (.ishr, 1) := by decide +kernel
theorem dJ2_length_9d52b_4 : decode cJ2_length_9d52b 4 = .ok (.ireturn, 1) := by decide +kernel
theorem dJ2_indexOf_4cfef_0 : decode cJ2_indexOf_4cfef 0 = .ok (.iload_n 2, 1) := by decide +kernel
theorem dJ2_indexOf_4cfef_1 : decode cJ2_indexOf_4cfef 1 = .ok (.iconst 0, 1) := by decide +kernel
theorem dJ2_indexOf_4cfef_2 : decode cJ2_indexOf_4cfef 2 = .ok (.invokestatic 224, 3) := by decide +kernel
theorem dJ2_indexOf_4cfef_5 : decode cJ2_indexOf_4cfef 5 = .ok (.istore_n 2, 1) := by decide +kernel
theorem dJ2_indexOf_4cfef_6 : decode cJ2_indexOf_4cfef 6 = .ok (.iload_n 3, 1) := by decide +kernel
theorem dJ2_indexOf_4cfef_7 : decode cJ2_indexOf_4cfef 7 = .ok (.aload_n 0, 1) := by decide +kernel
theorem dJ2_indexOf_4cfef_8 : decode cJ2_indexOf_4cfef 8 = .ok (.arraylength, 1) := by decide +kernel
theorem dJ2_indexOf_4cfef_9 : decode cJ2_indexOf_4cfef 9 = .ok (.iconst 1, 1) := by decide +kernel
theorem dJ2_indexOf_4cfef_10 : decode cJ2_indexOf_4cfef 10 = .ok (.ishr, 1) := by decide +kernel
theorem dJ2_indexOf_4cfef_11 : decode cJ2_indexOf_4cfef 11 = .ok (.invokestatic 183, 3) := by decide +kernel
theorem dJ2_indexOf_4cfef_14 : decode cJ2_indexOf_4cfef 14 = .ok (.istore_n 3, 1) := by decide +kernel
theorem dJ2_indexOf_4cfef_15 : decode cJ2_indexOf_4cfef 15 = .ok (.iload_n 2, 1) := by decide +kernel
theorem dJ2_indexOf_4cfef_16 : decode cJ2_indexOf_4cfef 16 = .ok (.iload_n 3, 1) := by decide +kernel
theorem dJ2_indexOf_4cfef_17 : decode cJ2_indexOf_4cfef 17 = .ok (.if_icmp .lt 5, 3) := by decide +kernel
theorem dJ2_indexOf_4cfef_20 : decode cJ2_indexOf_4cfef 20 = .ok (.iconst (-1), 1) := by decide +kernel
theorem dJ2_indexOf_4cfef_21 : decode cJ2_indexOf_4cfef 21 = .ok (.ireturn, 1) := by decide +kernel
theorem dJ2_indexOf_4cfef_22 : decode cJ2_indexOf_4cfef 22 = .ok (.iload_n 1, 1) := by decide +kernel
theorem dJ2_indexOf_4cfef_23 : decode cJ2_indexOf_4cfef 23 = .ok (.ldc 227, 2) := by decide +kernel
theorem dJ2_indexOf_4cfef_25 : decode cJ2_indexOf_4cfef 25 = .ok (.if_icmp .ge 11, 3) := by decide +kernel
theorem dJ2_indexOf_4cfef_28 : decode cJ2_indexOf_4cfef 28 = .ok (.aload_n 0, 1) := by decide +kernel
theorem dJ2_indexOf_4cfef_29 : decode cJ2_indexOf_4cfef 29 = .ok (.iload_n 1, 1) := by decide +kernel
theorem dJ2_indexOf_4cfef_30 : decode cJ2_indexOf_4cfef 30 = .ok (.iload_n 2, 1) := by decide +kernel
theorem dJ2_indexOf_4cfef_31 : decode cJ2_indexOf_4cfef 31 = .ok (.iload_n 3, 1) := by decide +kernel
theorem dJ2_indexOf_4cfef_32 : decode cJ2_indexOf_4cfef 32 = .ok (.invokestatic 228, 3) := by decide +kernel
theorem dJ2_indexOf_4cfef_35 : decode cJ2_indexOf_4cfef 35 = .ok (.ireturn, 1) := by decide +kernel
theorem dJ2_indexOf_4cfef_36 : decode cJ2_indexOf_4cfef 36 = .ok (.aload_n 0, 1) := by decide +kernel
theorem dJ2_indexOf_4cfef_37 : decode cJ2_indexOf_4cfef 37 = .ok (.iload_n 1, 1) := by decide +kernel
theorem dJ2_indexOf_4cfef_38 : decode cJ2_indexOf_4cfef 38 = .ok (.iload_n 2, 1) := by decide +kernel
theorem dJ2_indexOf_4cfef_39 : decode cJ2_indexOf_4cfef 39 = .ok (.iload_n 3, 1) := by decide +kernel
theorem dJ2_indexOf_4cfef_40 : decode cJ2_indexOf_4cfef 40 = .ok (.invokestatic 232, 3) := by decide +kernel
theorem dJ2_indexOf_4cfef_43 : decode cJ2_indexOf_4cfef 43 = .ok (.ireturn, 1) := by decide +kernel
theorem dJ2_indexOfChar_4cfef_0 : decode cJ2_indexOfChar_4cfef 0 = .ok (.iload_n 2, 1) := by decide +kernel
theorem dJ2_indexOfChar_4cfef_1 : decode cJ2_indexOfChar_4cfef 1 = .ok (.iload_n 3, 1) := by decide +kernel
theorem dJ2_indexOfChar_4cfef_2 : decode cJ2_indexOfChar_4cfef 2 = .ok (.aload_n 0, 1) := by decide +kernel
theorem dJ2_indexOfChar_4cfef_3 : decode cJ2_indexOfChar_4cfef 3 = .ok (.invokestatic 96, 3) := by decide +kernel
theorem dJ2_indexOfChar_4cfef_6 : decode cJ2_indexOfChar_4cfef 6 = .ok (.aload_n 0, 1) := by decide +kernel
theorem dJ2_indexOfChar_4cfef_7 : decode cJ2_indexOfChar_4cfef 7 = .ok (.iload_n 1, 1) := by decide +kernel
theorem dJ2_indexOfChar_4cfef_8 : decode cJ2_indexOfChar_4cfef 8 = .ok (.iload_n 2, 1) := by decide +kernel
theorem dJ2_indexOfChar_4cfef_9 : decode cJ2_indexOfChar_4cfef 9 = .ok (.iload_n 3, 1) := by decide +kernel
theorem dJ2_indexOfChar_4cfef_10 : decode cJ2_indexOfChar_4cfef 10 = .ok (.invokestatic 244, 3) := by decide +kernel
theorem dJ2_indexOfChar_4cfef_13 : decode cJ2_indexOfChar_4cfef 13 = .ok (.ireturn, 1) := by decide +kernel
theorem dJ2_indexOfCharUnsafe_4cfef_0 : decode cJ2_indexOfCharUnsafe_4cfef 0 = .ok (.iload_n 2, 1) := by decide +kernel
theorem dJ2_indexOfCharUnsafe_4cfef_1 : decode cJ2_indexOfCharUnsafe_4cfef 1 = .ok (.istore 4, 2) := by decide +kernel
theorem dJ2_indexOfCharUnsafe_4cfef_3 : decode cJ2_indexOfCharUnsafe_4cfef 3 = .ok (.iload 4, 2) := by decide +kernel
theorem dJ2_indexOfCharUnsafe_4cfef_5 : decode cJ2_indexOfCharUnsafe_4cfef 5 = .ok (.iload_n 3, 1) := by decide +kernel
theorem dJ2_indexOfCharUnsafe_4cfef_6 : decode cJ2_indexOfCharUnsafe_4cfef 6 = .ok (.if_icmp .ge 22, 3) := by decide +kernel
theorem dJ2_indexOfCharUnsafe_4cfef_9 : decode cJ2_indexOfCharUnsafe_4cfef 9 = .ok (.aload_n 0, 1) := by decide +kernel
theorem dJ2_indexOfCharUnsafe_4cfef_10 : decode cJ2_indexOfCharUnsafe_4cfef 10 = .ok (.iload 4, 2) := by decide +kernel
theorem dJ2_indexOfCharUnsafe_4cfef_12 : decode cJ2_indexOfCharUnsafe_4cfef 12 = .ok (.invokestatic 71, 3) := by decide +kernel
theorem dJ2_indexOfCharUnsafe_4cfef_15 : decode cJ2_indexOfCharUnsafe_4cfef 15 = .ok (.iload_n 1, 1) := by decide +kernel
theorem dJ2_indexOfCharUnsafe_4cfef_16 : decode cJ2_indexOfCharUnsafe_4cfef 16 = .ok (.if_icmp .ne 6, 3) := by decide +kernel
theorem dJ2_indexOfCharUnsafe_4cfef_19 : decode cJ2_indexOfCharUnsafe_4cfef 19 = .ok (.iload 4, 2) := by decide +kernel
theorem dJ2_indexOfCharUnsafe_4cfef_21 : decode cJ2_indexOfCharUnsafe_4cfef 21 = .ok (.ireturn, 1) := by decide +kernel
theorem dJ2_indexOfCharUnsafe_4cfef_22 : decode cJ2_indexOfCharUnsafe_4cfef 22 = .ok (.iinc 4 1, 3) := by decide +kernel
theorem dJ2_indexOfCharUnsafe_4cfef_25 : decode cJ2_indexOfCharUnsafe_4cfef 25 = .ok (.goto (-22), 3) := by decide +kernel
theorem dJ2_indexOfCharUnsafe_4cfef_28 : decode cJ2_indexOfCharUnsafe_4cfef 28 = .ok (.iconst (-1), 1) := by decide +kernel
theorem dJ2_indexOfCharUnsafe_4cfef_29 : decode cJ2_indexOfCharUnsafe_4cfef 29 = .ok (.ireturn, 1) := by decide +kernel
theorem dJ2_indexOfSupplementary_4cfef_0 : decode cJ2_indexOfSupplementary_4cfef 0 = .ok (.iload_n 1, 1) := by decide +kernel
theorem dJ2_indexOfSupplementary_4cfef_1 : decode cJ2_indexOfSupplementary_4cfef 1 = .ok (.invokestatic 164, 3) := by decide +kernel
theorem dJ2_indexOfSupplementary_4cfef_4 : decode cJ2_indexOfSupplementary_4cfef 4 = .ok (.ifCond .eq 65, 3) := by decide +kernel
theorem dJ2_indexOfSupplementary_4cfef_7 : decode cJ2_indexOfSupplementary_4cfef 7 = .ok (.iload_n 1, 1) := by decide +kernel
theorem dJ2_indexOfSupplementary_4cfef_8 : decode cJ2_indexOfSupplementary_4cfef 8 = .ok (.invokestatic 157, 3) := by decide +kernel
theorem dJ2_indexOfSupplementary_4cfef_11 : decode cJ2_indexOfSupplementary_4cfef 11 = .ok (.istore 4, 2) := by decide +kernel
theorem dJ2_indexOfSupplementary_4cfef_13 : decode cJ2_indexOfSupplementary_4cfef 13 = .ok (.iload_n 1, 1) := by decide +kernel
theorem dJ2_indexOfSupplementary_4cfef_14 : decode cJ2_indexOfSupplementary_4cfef 14 = .ok (.invokestatic 161, 3) := by decide +kernel
theorem dJ2_indexOfSupplementary_4cfef_17 : decode cJ2_indexOfSupplementary_4cfef 17 = .ok (.istore 5, 2) := by decide +kernel
theorem dJ2_indexOfSupplementary_4cfef_19 : decode cJ2_indexOfSupplementary_4cfef 19 = .ok (.iload_n 2, 1) := by decide +kernel
theorem dJ2_indexOfSupplementary_4cfef_20 : decode cJ2_indexOfSupplementary_4cfef 20 = .ok (.iload_n 3, 1) := by decide +kernel
theorem dJ2_indexOfSupplementary_4cfef_21 : decode cJ2_indexOfSupplementary_4cfef 21 = .ok (.aload_n 0, 1) := by decide +kernel
theorem dJ2_indexOfSupplementary_4cfef_22 : decode cJ2_indexOfSupplementary_4cfef 22 = .ok (.invokestatic 96, 3) := by decide +kernel
theorem dJ2_indexOfSupplementary_4cfef_25 : decode cJ2_indexOfSupplementary_4cfef 25 = .ok (.iload_n 2, 1) := by decide +kernel
theorem dJ2_indexOfSupplementary_4cfef_26 : decode cJ2_indexOfSupplementary_4cfef 26 = .ok (.istore 6, 2) := by decide +kernel
theorem dJ2_indexOfSupplementary_4cfef_28 : decode cJ2_indexOfSupplementary_4cfef 28 = .ok (.iload 6, 2) := by decide +kernel
theorem dJ2_indexOfSupplementary_4cfef_30 : decode cJ2_indexOfSupplementary_4cfef 30 = .ok (.iload_n 3, 1) := by decide +kernel
theorem dJ2_indexOfSupplementary_4cfef_31 : decode cJ2_indexOfSupplementary_4cfef 31 = .ok (.iconst 1, 1) := by decide +kernel
theorem dJ2_indexOfSupplementary_4cfef_32 : decode cJ2_indexOfSupplementary_4cfef 32 = .ok (.isub, 1) := by decide +kernel
theorem dJ2_indexOfSupplementary_4cfef_33 : decode cJ2_indexOfSupplementary_4cfef 33 = .ok (.if_icmp .ge 36, 3) := by decide +kernel
theorem dJ2_indexOfSupplementary_4cfef_36 : decode cJ2_indexOfSupplementary_4cfef 36 = .ok (.aload_n 0, 1) := by decide +kernel
theorem dJ2_indexOfSupplementary_4cfef_37 : decode cJ2_indexOfSupplementary_4cfef 37 = .ok (.iload 6, 2) := by decide +kernel
theorem dJ2_indexOfSupplementary_4cfef_39 : decode cJ2_indexOfSupplementary_4cfef 39 = .ok (.invokestatic 71, 3) := by decide +kernel
theorem dJ2_indexOfSupplementary_4cfef_42 : decode cJ2_indexOfSupplementary_4cfef 42 = .ok (.iload 4, 2) := by decide +kernel
theorem dJ2_indexOfSupplementary_4cfef_44 : decode cJ2_indexOfSupplementary_4cfef 44 = .ok (.if_icmp .ne 19, 3) := by decide +kernel
theorem dJ2_indexOfSupplementary_4cfef_47 : decode cJ2_indexOfSupplementary_4cfef 47 = .ok (.aload_n 0, 1) := by decide +kernel
theorem dJ2_indexOfSupplementary_4cfef_48 : decode cJ2_indexOfSupplementary_4cfef 48 = .ok (.iload 6, 2) := by decide +kernel
theorem dJ2_indexOfSupplementary_4cfef_50 : decode cJ2_indexOfSupplementary_4cfef 50 = .ok (.iconst 1, 1) := by decide +kernel
theorem dJ2_indexOfSupplementary_4cfef_51 : decode cJ2_indexOfSupplementary_4cfef 51 = .ok (.iadd, 1) := by decide +kernel
theorem dJ2_indexOfSupplementary_4cfef_52 : decode cJ2_indexOfSupplementary_4cfef 52 = .ok (.invokestatic 71, 3) := by decide +kernel
theorem dJ2_indexOfSupplementary_4cfef_55 : decode cJ2_indexOfSupplementary_4cfef 55 = .ok (.iload 5, 2) := by decide +kernel
theorem dJ2_indexOfSupplementary_4cfef_57 : decode cJ2_indexOfSupplementary_4cfef 57 = .ok (.if_icmp .ne 6, 3) := by decide +kernel
theorem dJ2_indexOfSupplementary_4cfef_60 : decode cJ2_indexOfSupplementary_4cfef 60 = .ok (.iload 6, 2) := by decide +kernel
theorem dJ2_indexOfSupplementary_4cfef_62 : decode cJ2_indexOfSupplementary_4cfef 62 = .ok (.ireturn, 1) := by decide +kernel
theorem dJ2_indexOfSupplementary_4cfef_63 : decode cJ2_indexOfSupplementary_4cfef 63 = .ok (.iinc 6 1, 3) := by decide +kernel
theorem dJ2_indexOfSupplementary_4cfef_66 : decode cJ2_indexOfSupplementary_4cfef 66 = .ok (.goto (-38), 3) := by decide +kernel
theorem dJ2_indexOfSupplementary_4cfef_69 : decode cJ2_indexOfSupplementary_4cfef 69 = .ok (.iconst (-1), 1) := by decide +kernel
theorem dJ2_indexOfSupplementary_4cfef_70 : decode cJ2_indexOfSupplementary_4cfef 70 = .ok (.ireturn, 1) := by decide +kernel
theorem dJ2_checkBoundsBeginEnd_d044e_0 : decode cJ2_checkBoundsBeginEnd_d044e 0 = .ok (.iload_n 0, 1) := by decide +kernel
theorem dJ2_checkBoundsBeginEnd_d044e_1 : decode cJ2_checkBoundsBeginEnd_d044e 1 = .ok (.iload_n 1, 1) := by decide +kernel
theorem dJ2_checkBoundsBeginEnd_d044e_2 : decode cJ2_checkBoundsBeginEnd_d044e 2 = .ok (.aload_n 2, 1) := by decide +kernel
theorem dJ2_checkBoundsBeginEnd_d044e_3 : decode cJ2_checkBoundsBeginEnd_d044e 3 = .ok (.invokestatic 48, 3) := by decide +kernel
theorem dJ2_checkBoundsBeginEnd_d044e_6 : decode cJ2_checkBoundsBeginEnd_d044e 6 = .ok (.invokestatic 241, 3) := by decide +kernel
theorem dJ2_checkBoundsBeginEnd_d044e_9 : decode cJ2_checkBoundsBeginEnd_d044e 9 = .ok (.return_, 1) := by decide +kernel
theorem dJ3_checkFromToIndex_8c36e_0 : decode cJ3_checkFromToIndex_8c36e 0 = .ok (.iload_n 0, 1) := by decide +kernel
theorem dJ3_checkFromToIndex_8c36e_1 : decode cJ3_checkFromToIndex_8c36e 1 = .ok (.ifCond .lt 13, 3) := by decide +kernel
theorem dJ3_checkFromToIndex_8c36e_4 : decode cJ3_checkFromToIndex_8c36e 4 = .ok (.iload_n 0, 1) := by decide +kernel
theorem dJ3_checkFromToIndex_8c36e_5 : decode cJ3_checkFromToIndex_8c36e 5 = .ok (.iload_n 1, 1) := by decide +kernel
theorem dJ3_checkFromToIndex_8c36e_6 : decode cJ3_checkFromToIndex_8c36e 6 = .ok (.if_icmp .gt 8, 3) := by decide +kernel
theorem dJ3_checkFromToIndex_8c36e_9 : decode cJ3_checkFromToIndex_8c36e 9 = .ok (.iload_n 1, 1) := by decide +kernel
theorem dJ3_checkFromToIndex_8c36e_10 : decode cJ3_checkFromToIndex_8c36e 10 = .ok (.iload_n 2, 1) := by decide +kernel
theorem dJ3_checkFromToIndex_8c36e_11 : decode cJ3_checkFromToIndex_8c36e 11 = .ok (.if_icmp .le 11, 3) := by decide +kernel
theorem dJ3_checkFromToIndex_8c36e_14 : decode cJ3_checkFromToIndex_8c36e 14 = .ok (.aload_n 3, 1) := by decide +kernel
theorem dJ3_checkFromToIndex_8c36e_15 : decode cJ3_checkFromToIndex_8c36e 15 = .ok (.iload_n 0, 1) := by decide +kernel
theorem dJ3_checkFromToIndex_8c36e_16 : decode cJ3_checkFromToIndex_8c36e 16 = .ok (.iload_n 1, 1) := by decide +kernel
theorem dJ3_checkFromToIndex_8c36e_17 : decode cJ3_checkFromToIndex_8c36e 17 = .ok (.iload_n 2, 1) := by decide +kernel
theorem dJ3_checkFromToIndex_8c36e_18 : decode cJ3_checkFromToIndex_8c36e 18 = .ok (.invokestatic 99, 3) := by decide +kernel
theorem dJ3_checkFromToIndex_8c36e_21 : decode cJ3_checkFromToIndex_8c36e 21 = .ok (.athrow, 1) := by decide +kernel
theorem dJ3_checkFromToIndex_8c36e_22 : decode cJ3_checkFromToIndex_8c36e 22 = .ok (.iload_n 0, 1) := by decide +kernel
theorem dJ3_checkFromToIndex_8c36e_23 : decode cJ3_checkFromToIndex_8c36e 23 = .ok (.ireturn, 1) := by decide +kernel
end
section
/-! ===== BEGIN a constructor that throws (launches without stack traces) ===== -/
section VXIA
variable {p : Program} {l : Launch} {e : Env} {R : Room} {s : State} {m : MethodId} {args : Array Value} {below : List Frame} {meth : Method} {c : Code} {T : State} {locs : List Loc} {cells slots : Nat}
theorem vx_callI (X : Stand p l e R s m args below meth c T locs cells slots) (hexec : p.tables.exec = Jvm.exec) {own : String} {index : Nat} {y : MethodName} {bytes : ByteArray} {maxL : Nat}
    (hown : s.vm.findClass own = some m.cls) (hy1 : y.name = "<init>") (hlink : (Cond.methodLink own index y).before args s = true) (hinst : (Cond.instanceMethod y).before args s = true)
    (hcode : (Cond.code y bytes maxL none).before args s = true) (hy : y.cls ≠ "java/lang/invoke/MethodHandle" ∧ y.cls ≠ "java/lang/invoke/VarHandle")
    {W9 : Nat} {Pre : Pt → Array Value → Prop} {Post : Pt → Array Value → Option Value → Pt → Prop} {PostX : Pt → Array Value → Addr → Pt → Prop} (hK : vx_Back l R p e below s args y 3 W9 Pre Post PostX)
    {g : JFrame} (hg : g.method = m) (hsize : g.locals.size = c.maxLocals) {a : Addr} {argsL rest : List Value} (hlen : ∀ sig, parseMethodDescriptor y.desc = some sig → argsL.length = sig.parameters.length)
    (hstack : g.stack = argsL.reverse ++ .ref a :: rest) (hW : 2 * g.monitorRoom + (rest.map fun v => v.category).sum ≤ W9) (hdg : decode c.code g.pc = .ok (.invokespecial index, 3))
    (hpre : ∀ vm₁, s.WarmedH vm₁ → Pre ⟨T.setVm vm₁, locs, cells, slots⟩ (Value.ref a :: argsL).toArray) :
    (∃ (v : Option Value) (vm₁ : Vm) (B : Pt), s.WarmedH vm₁ ∧ Stand p l e R s m args below meth c B.U B.locs B.cells B.slots ∧ Post ⟨T.setVm vm₁, locs, cells, slots⟩ (Value.ref a :: argsL).toArray v B ∧
      ∀ target, Steps p.tables e below (B.U.setTop { g with pc := g.pc + 3, stack := v.toList ++ rest }) target → Steps p.tables e below (T.setTop g) target) ∨
    (∃ (q : Addr) (vm₁ : Vm) (B : Pt), s.WarmedH vm₁ ∧ Stand p l e R s m args below meth c B.U B.locs B.cells B.slots ∧ PostX ⟨T.setVm vm₁, locs, cells, slots⟩ (Value.ref a :: argsL).toArray q B ∧
      Steps p.tables e below (T.setTop g) ((B.U.setTop { g with stack := rest }).pushFrame (.throwing q))) := by
  subst hg
  have hpl : e.platform.magicAccessors = ({} : Platform).magicAccessors := by rw [X.admits.platform]
  obtain ⟨mk, methM, cM, kP, vm₁, hnamed, hmethM, hcodeM, -, hlocalsM, -, hkP, -, hW₁, hstep₁⟩ := Steps.initColdArgs (e := e) X.here hexec X.warmed hpl hown hy1 hy hlink hinst hcode (f := g) rfl hlen hstack hdg
  have X₁ := X.noted hW₁
  rcases hK g.method meth c ⟨T.setVm vm₁, locs, cells, slots⟩ { g with stack := rest } (.invokespecial index) mk (Value.ref a :: argsL).toArray X₁ rfl hsize hdg hW (X₁.named hnamed) (hpre vm₁ X₁.warmed) with ⟨v, B, X', hpost, hsteps⟩ | ⟨q, B, X', hpost, hsteps⟩
  · exact Or.inl ⟨v, vm₁, B, X₁.warmed, X', hpost, fun target h => hstep₁ _ fun acts => by rw [doInvoke_state]; exact hsteps.trans h⟩
  · exact Or.inr ⟨q, vm₁, B, X₁.warmed, X', hpost, hstep₁ _ fun acts => by rw [doInvoke_state]; exact hsteps⟩
end VXIA
section VXIB
variable {p : Program} {l : Launch} {e : Env} {R : Room} {s : State} {m : MethodId} {args : Array Value} {below : List Frame} {meth : Method} {c : Code} {H : Heap} {locs : List Loc} {cells slots : Nat}
variable {y : MethodName} {bytes cc : ByteArray} {maxL nL mc ms n index : Nat} {ret : Option FieldType} {ws : List Cond} {rm : Room} {Pc : Array Value → State → Prop} {Qc : Array Value → State → Outcome → State → Prop} {XC : String → State → State → Prop} {free : Addr → Prop} {Ts : List Cond} {own C : String} {b : Addr} {As rest : List Value} {g : JFrame}
theorem vx_runI (S : CallFix p m c cc nL s args Ts own) (hM : vx_Met l y ws rm Pc Qc XC mc ms free) (cw : CallB R s args own index y bytes maxL none ws rm mc ms n ∧ y.name = "<init>" ∧ (Cond.instanceMethod y).before args s = true) (hp : PreS s H Pc (.ref b :: As))
    (hg : g.method = m) (hn : As.length = n) (hsize : g.locals.size = nL) (hstack : g.stack = As.reverse ++ .ref b :: rest) (hW : 2 * g.monitorRoom + (rest.map fun v => v.category).sum ≤ 8) (hdg : decode cc g.pc = .ok (.invokespecial index, 3)) (hf : cells + mc ≤ R.cells ∧ slots + ms ≤ R.slots) :
    vx_Run p l e R s m args below meth c H locs cells slots mc ms g rest (Qc (Value.ref b :: As).toArray) XC free := by
  have hK : vx_Back l R p e below s args y 3 8 (PreOf R mc ms Pc) (PostOf Qc mc ms free) (vx_Post XC mc ms free) := vx_callBack cw.1 hM hp.1
  obtain ⟨⟨-, -, -, -, -, -, hcode, -, hy, hlen, hl⟩, hy1, hin⟩ := cw
  obtain ⟨hx, hb, hml, ho, -⟩ := S
  have hPc := hp.2
  intro T hT X
  rcases vx_callI X hx (bytes := bytes) (maxL := maxL) ho hy1 hl hin hcode hy hK hg (hsize.trans hml.symm) (a := b) (argsL := As) (rest := rest) (fun sig h => hn.trans (hlen sig h)) hstack hW (by rw [hb]; exact hdg)
    (fun vm₁ hW₁ => ⟨hf.1, hf.2, hPc (T.setVm vm₁) hT hW₁⟩) with ⟨v, vm₁, ⟨U', l2, c2, s2⟩, hW₁, X', ⟨g', mk, t, L, e1, e2, hq, h1, hL, h2, h3⟩, st⟩ | ⟨q, vm₁, ⟨U', l2, c2, s2⟩, hW₁, X', ⟨g', mk, t, L, E, ce, e1, e2, hq, hce, hcv, hcl, h1, hL, h2, h3⟩, st⟩
  · dsimp only [Pt.U, Pt.locs, Pt.cells, Pt.slots] at X' e1 e2 h1 h2 h3 st
    subst h1; subst h2; subst h3
    exact Or.inl ⟨v, (T.setVm vm₁).calling g' mk (Value.ref b :: As).toArray, t, U', L, hT, X', hL, e1, e2, hq, st⟩
  · dsimp only [Pt.U, Pt.locs, Pt.cells, Pt.slots] at X' e1 e2 h1 h2 h3 st hcl
    subst h1; subst h2; subst h3
    exact Or.inr ⟨q, (T.setVm vm₁).calling g' mk (Value.ref b :: As).toArray, t, U', L, E, ce, hT, X', hL, e1, e2, hq, hce, hcv, vx_cls hW₁ hcl, st⟩
end VXIB
/-! ===== END ===== -/
/-! ===== BEGIN a private constructor of a nest mate that throws ===== -/
section VXIC
variable {p : Program} {l : Launch} {e : Env} {R : Room} {s : State} {m : MethodId} {args : Array Value} {below : List Frame} {meth : Method} {c : Code} {T : State} {locs : List Loc} {cells slots : Nat}
theorem vx_callIN (X : Stand p l e R s m args below meth c T locs cells slots) (hexec : p.tables.exec = Jvm.exec) {own : String} {index : Nat} {host : String} {y : MethodName} {bytes : ByteArray} {maxL : Nat}
    (hown : s.vm.findClass own = some m.cls) (hy1 : y.name = "<init>") (hlink : (Cond.methodLinkNest own index y host).before args s = true) (hinst : (Cond.instanceMethod y).before args s = true)
    (hcode : (Cond.code y bytes maxL none).before args s = true) (hy : y.cls ≠ "java/lang/invoke/MethodHandle" ∧ y.cls ≠ "java/lang/invoke/VarHandle")
    {W9 : Nat} {Pre : Pt → Array Value → Prop} {Post : Pt → Array Value → Option Value → Pt → Prop} {PostX : Pt → Array Value → Addr → Pt → Prop} (hK : vx_Back l R p e below s args y 3 W9 Pre Post PostX)
    {g : JFrame} (hg : g.method = m) (hsize : g.locals.size = c.maxLocals) {a : Addr} {argsL rest : List Value} (hlen : ∀ sig, parseMethodDescriptor y.desc = some sig → argsL.length = sig.parameters.length)
    (hstack : g.stack = argsL.reverse ++ .ref a :: rest) (hW : 2 * g.monitorRoom + (rest.map fun v => v.category).sum ≤ W9) (hdg : decode c.code g.pc = .ok (.invokespecial index, 3))
    (hpre : ∀ vm₁, s.WarmedH vm₁ → Pre ⟨T.setVm vm₁, locs, cells, slots⟩ (Value.ref a :: argsL).toArray) :
    (∃ (v : Option Value) (vm₁ : Vm) (B : Pt), s.WarmedH vm₁ ∧ Stand p l e R s m args below meth c B.U B.locs B.cells B.slots ∧ Post ⟨T.setVm vm₁, locs, cells, slots⟩ (Value.ref a :: argsL).toArray v B ∧
      ∀ target, Steps p.tables e below (B.U.setTop { g with pc := g.pc + 3, stack := v.toList ++ rest }) target → Steps p.tables e below (T.setTop g) target) ∨
    (∃ (q : Addr) (vm₁ : Vm) (B : Pt), s.WarmedH vm₁ ∧ Stand p l e R s m args below meth c B.U B.locs B.cells B.slots ∧ PostX ⟨T.setVm vm₁, locs, cells, slots⟩ (Value.ref a :: argsL).toArray q B ∧
      Steps p.tables e below (T.setTop g) ((B.U.setTop { g with stack := rest }).pushFrame (.throwing q))) := by
  subst hg
  have hpl : e.platform.magicAccessors = ({} : Platform).magicAccessors := by rw [X.admits.platform]
  obtain ⟨mk, methM, cM, kP, vm₁, hnamed, hmethM, hcodeM, -, hlocalsM, -, hkP, -, hW₁, hstep₁⟩ := Steps.initColdArgsNest (e := e) X.here hexec X.warmed hpl hown hy1 hy hlink hinst hcode (f := g) rfl hlen hstack hdg
  have X₁ := X.noted hW₁
  rcases hK g.method meth c ⟨T.setVm vm₁, locs, cells, slots⟩ { g with stack := rest } (.invokespecial index) mk (Value.ref a :: argsL).toArray X₁ rfl hsize hdg hW (X₁.named hnamed) (hpre vm₁ X₁.warmed) with ⟨v, B, X', hpost, hsteps⟩ | ⟨q, B, X', hpost, hsteps⟩
  · exact Or.inl ⟨v, vm₁, B, X₁.warmed, X', hpost, fun target h => hstep₁ _ fun acts => by rw [doInvoke_state]; exact hsteps.trans h⟩
  · exact Or.inr ⟨q, vm₁, B, X₁.warmed, X', hpost, hstep₁ _ fun acts => by rw [doInvoke_state]; exact hsteps⟩
end VXIC
section VXID
variable {p : Program} {l : Launch} {e : Env} {R : Room} {s : State} {m : MethodId} {args : Array Value} {below : List Frame} {meth : Method} {c : Code} {H : Heap} {locs : List Loc} {cells slots : Nat}
theorem vx_runIN {y : MethodName} {bytes cc : ByteArray} {maxL nL mc ms n index : Nat} {ws : List Cond} {rm : Room} {Pc : Array Value → State → Prop} {Qc : Array Value → State → Outcome → State → Prop} {XC : String → State → State → Prop} {free : Addr → Prop} {Ts : List Cond} {own host : String} {b : Addr} {As rest : List Value} {g : JFrame}
    (S : CallFix p m c cc nL s args Ts own) (hM : vx_Met l y ws rm Pc Qc XC mc ms free) (cw : va_CN R s args own index y host bytes maxL none ws rm mc ms n ∧ y.name = "<init>" ∧ (Cond.instanceMethod y).before args s = true) (hp : PreS s H Pc (.ref b :: As))
    (hg : g.method = m) (hn : As.length = n) (hsize : g.locals.size = nL) (hstack : g.stack = As.reverse ++ .ref b :: rest) (hW : 2 * g.monitorRoom + (rest.map fun v => v.category).sum ≤ 8) (hdg : decode cc g.pc = .ok (.invokespecial index, 3)) (hf : cells + mc ≤ R.cells ∧ slots + ms ≤ R.slots) :
    vx_Run p l e R s m args below meth c H locs cells slots mc ms g rest (Qc (Value.ref b :: As).toArray) XC free := by
  obtain ⟨⟨⟨hrc, hrs, hfr, hlo, hws, hcw⟩, hcode, hini, hy, hlen, hl⟩, hx1, hx2⟩ := cw
  have hK : vx_Back l R p e below s args y 3 8 (PreOf R mc ms Pc) (PostOf Qc mc ms free) (vx_Post XC mc ms free) := vx_back (bytes := bytes) (maxL := maxL) (ret := none) hM hp.1 hrc hrs hfr hlo hws hcw (fun a' U hW => word_at hW (Or.inl (by first | rfl | simp [Cond.onTables, Cond.keeps, Cond.steady])) hini)
  obtain ⟨hx, hb, hml, ho, -⟩ := S
  have hPc := hp.2
  intro T hT X
  rcases vx_callIN X hx (bytes := bytes) (maxL := maxL) ho hx1 hl hx2 hcode hy hK hg (hsize.trans hml.symm) (a := b) (argsL := As) (rest := rest) (fun sig h => hn.trans (hlen sig h)) hstack hW (by rw [hb]; exact hdg)
    (fun vm₁ hW₁ => ⟨hf.1, hf.2, hPc (T.setVm vm₁) hT hW₁⟩) with ⟨v, vm₁, ⟨U', l2, c2, s2⟩, hW₁, X', ⟨g', mk, t, L, e1, e2, hq, h1, hL, h2, h3⟩, st⟩ | ⟨q, vm₁, ⟨U', l2, c2, s2⟩, hW₁, X', ⟨g', mk, t, L, E, ce, e1, e2, hq, hce, hcv, hcl, h1, hL, h2, h3⟩, st⟩
  · dsimp only [Pt.U, Pt.locs, Pt.cells, Pt.slots] at X' e1 e2 h1 h2 h3 st
    subst h1; subst h2; subst h3
    exact Or.inl ⟨v, (T.setVm vm₁).calling g' mk (Value.ref b :: As).toArray, t, U', L, hT, X', hL, e1, e2, hq, st⟩
  · dsimp only [Pt.U, Pt.locs, Pt.cells, Pt.slots] at X' e1 e2 h1 h2 h3 st hcl
    subst h1; subst h2; subst h3
    exact Or.inr ⟨q, (T.setVm vm₁).calling g' mk (Value.ref b :: As).toArray, t, U', L, E, ce, hT, X', hL, e1, e2, hq, hce, hcv, vx_cls hW₁ hcl, st⟩
end VXID
/-! ===== END ===== -/
end
section
/-! THE LAYER: the world is a map from addresses to contents over Int (no places in lists, no cutting and joining); a method's walk is a walk of ZZ, which hides the machine. -/
def iI (z : Int) : Int32 := Int32.ofInt z
def lL (z : Int) : Int64 := Int64.ofInt z
theorem iI_add (a b : Int) : iI a + iI b = iI (a + b) := (Int32.ofInt_add a b).symm
theorem iI_sub (a b : Int) : iI a - iI b = iI (a - b) := (Int32.ofInt_sub a b).symm
theorem iI_mul (a b : Int) : iI a * iI b = iI (a * b) := (Int32.ofInt_mul a b).symm
theorem iI_neg (a : Int) : -iI a = iI (-a) := (Int32.ofInt_neg a).symm
theorem iI_nI (n : Nat) : nI n = iI (n : Int) := by
  apply Int32.toInt_inj.mp
  rw [iI, Int32.toInt_ofInt, nI, Int32.toInt_ofNat']
def okI (z : Int) : Prop := -2147483648 ≤ z ∧ z ≤ 2147483647
theorem iI_toInt {z : Int} (h : okI z) : (iI z).toInt = z := by
  rw [iI, Int32.toInt_ofInt]
  have e : (Int32.size : Int) = 4294967296 := rfl
  have h1 := h.1
  have h2 := h.2
  apply Int.bmod_eq_of_le <;> omega
theorem iI_eq {a b : Int} (ha : okI a) (hb : okI b) : iI a = iI b ↔ a = b := by
  rw [← Int32.toInt_inj, iI_toInt ha, iI_toInt hb]
theorem iI_lt {a b : Int} (ha : okI a) (hb : okI b) : iI a < iI b ↔ a < b := by
  rw [Int32.lt_iff_toInt_lt, iI_toInt ha, iI_toInt hb]
theorem iI_le {a b : Int} (ha : okI a) (hb : okI b) : iI a ≤ iI b ↔ a ≤ b := by
  rw [Int32.le_iff_toInt_le, iI_toInt ha, iI_toInt hb]
theorem iI_of (x : Int32) : ∃ z : Int, okI z ∧ x = iI z := ⟨x.toInt, ⟨by have := Int32.minValue_le_toInt x; exact this, by have := Int32.toInt_le x; exact this⟩, by
  apply Int32.toInt_inj.mp
  rw [iI, Int32.ofInt_toInt]⟩
theorem iI_clamp {z : Int} (h : okI z) (h0 : 0 ≤ z) : (((iI z).toNatClampNeg : Nat) : Int) = z := by
  rw [Int32.toNatClampNeg, iI_toInt h]
  omega
theorem iI_in {z : Int} {N : Nat} (h : okI z) (h0 : 0 ≤ z) (h1 : z < N) : vp_in (iI z) N := vp_in_iff.mpr (by rw [iI_toInt h]; exact ⟨h0, h1⟩)
/-- contents: arrays of ints (booleans, chars), of longs, of references; objects -/
abbrev PE : Type := (Nat × Nat × (Int → Int)) ⊕ (Nat × (Int → Int)) ⊕ (Nat × Nat × (Int → Option Nat)) ⊕ (Nat × List Value)
abbrev eI (t N : Nat) (g : Int → Int) : PE := .inl (t, N, g)
abbrev eL (N : Nat) (g : Int → Int) : PE := .inr (.inl (N, g))
abbrev eQ (t N : Nat) (r : Int → Option Nat) : PE := .inr (.inr (.inl (t, N, r)))
abbrev eO (ci : Nat) (fs : List Value) : PE := .inr (.inr (.inr (ci, fs)))
def pT (κ : Nat → ClassId) : PE → va_E
  | .inl (t, N, g) => .inl (κ t, N, .inl (fun j => iI (g (j : Int))))
  | .inr (.inl (N, g)) => .inl (κ 5, N, .inr (.inl (fun j => lL (g (j : Int)))))
  | .inr (.inr (.inl (t, N, r))) => .inl (κ t, N, .inr (.inr (.inr (.inr (fun j => r (j : Int))))))
  | .inr (.inr (.inr (ci, fs))) => .inr (ci, fs)
def tysK (κ : Nat → ClassId) : List (ClassId × FieldType) := [(κ 0, .int), (κ 1, .boolean), (κ 2, .char), (κ 3, .object "DragonRing$State"), (κ 4, .object "DragonRing$Text"), (κ 5, .long)]
def pw (κ : Nat → ClassId) (L : List Nat) (F : Nat → PE) : va_W := va_pl L (fun a => pT κ (F a))
def pA (L : List Nat) (sz : Nat) : Nat → Prop := fun q => q ∈ L ∨ sz ≤ q
def wu {α : Type} (f : Int → α) (k : Int) (v : α) : Int → α := fun j => if j = k then v else f j
theorem pw_get {κ : Nat → ClassId} {L : List Nat} {F : Nat → PE} {a : Nat} {e : PE} (h : a ∈ L) (hF : F a = e) : ∃ k : Nat, (pw κ L F)[k]? = some (a, pT κ e) := by
  subst hF
  exact va_pl_get (X := []) h
theorem pw_set {κ : Nat → ClassId} {L : List Nat} {F : Nat → PE} {A : Nat → Prop} {a k : Nat} {e0 e : PE} (hD : va_D A (pw κ L F)) (h : a ∈ L) (hF : F a = e0) (hk : (pw κ L F)[k]? = some (a, pT κ e0)) : (pw κ L F).set k (a, pT κ e) = pw κ L (va_up F a e) := by
  subst hF
  refine (va_pl_set (X := []) (e := pT κ e) hD h hk).trans ?_
  refine va_pl_congr fun b => ?_
  unfold va_up
  split <;> rfl
/-- the texts of the exceptions, by their places in the class file -/
def strs : List (Nat × String) := [(108, "the buffer is empty"), (135, "the times are out of range"), (140, "the caves are out of range"), (150, "the buffer is full"), (171, "the buffer does not tell deeds as a text"), (183, "the slot is out of range"), (185, "there is no snapshot in the slot"), (194, "there is no saved state"), (307, "that is not possible now"), (311, "there is no such place"), (42, "the code is out of range"), (80, "the place is out of range"), (97, "the lines are out of range, or 0")]
/-- the letters of deeds, as the bytes of the text -/
def ltrB : List Int32 := [102, 98, 70, 66, 97, 101, 109, 120, 119, 87, 107, 114, 99, 121, 112, 116, 117, 115, 103, 110, 95]
def pS (A : Nat → Prop) (U : State) (H : Heap) : Prop := (∃ adK adV : Nat → Nat, vk_S 1 [21] [ltrB] adK adV A U H ∧ vk_R "DragonRing" 314 "fbFBaemxwWkrcyptusgn_" (adK 0) U) ∧ va_Z "java/lang/String" "COMPACT_STRINGS" "Z" (.int 1) A U H
/-- links to private constructors of nest mates -/
def nstW : List (String × Nat × MethodName × String) := [(RX7, 9, yX5_init, RX7), (RX5, 11, yX4_init, RX7), (RX5, 27, yX0_init, RX7), (RX2, 17, yX5_init, RX7), (RX7, 292, yX1_init, RX7)]
/-- the words of a throw that the good ones don't hold -/
def xtS : List Cond := vx_atS RX7 152 "java/lang/IllegalStateException" ["java/lang/RuntimeException", "java/lang/Exception"]
def xtA : List Cond := vx_atS RX7 44 "java/lang/IllegalArgumentException" ["java/lang/RuntimeException", "java/lang/Exception"]
def xtB : List Cond := vx_atS RX7 313 "java/lang/IndexOutOfBoundsException" ["java/lang/RuntimeException", "java/lang/Exception"]
def xtL : List Cond := (xtS ++ (xtA ++ xtB)).filter (fun w => !goodWord w)
def isCD (w : Cond) : Bool := match w with | .castable .. => true | .declares .. => true | _ => false
theorem xtL_cd : ∀ w ∈ xtL, isCD w = true := by decide +kernel
theorem isCD_on {w : Cond} (h : isCD w = true) : w.onTables = true := by
  cases w <;> first | rfl | cases h
theorem isCD_warm {w : Cond} (h : isCD w = true) {s U : State} (hW : s.WarmedH U.vm) (hZ : va_Nw w s) : va_Nw w U := by
  cases w <;> first | exact va_Nw.warmC hW hZ | exact va_Nw.warmD hW hZ | cases h
def pN (U : State) : Prop := (∀ q ∈ nstW, va_Nw (.methodLinkNest q.1 q.2.1 q.2.2.1 q.2.2.2) U) ∧ (va_AO RX5 U ∧ va_AO RX6 U) ∧ ∀ w ∈ xtL, va_Nw w U
theorem pN.warm {s U : State} (hW : s.WarmedH U.vm) (h : pN s) : pN U := ⟨fun q hq => (h.1 q hq).warmM hW, ⟨h.2.1.1.moved hW.alike, h.2.1.2.moved hW.alike⟩, fun w hw => isCD_warm (xtL_cd w hw) hW (h.2.2 w hw)⟩
theorem pN.same {u U : State} (hv : u.vm = U.vm) (h : pN u) : pN U := ⟨fun q hq => (h.1 q hq).same rfl hv, ⟨h.2.1.1.moved (hv ▸ Vm.Alike.refl _), h.2.1.2.moved (hv ▸ Vm.Alike.refl _)⟩, fun w hw => (h.2.2 w hw).same (isCD_on (xtL_cd w hw)) hv⟩
def pK (D : va_G) (κ : Nat → ClassId) (A : Nat → Prop) (U : State) (H : Heap) : Prop :=
  va_K D vwCl (tysK κ) U ∧ (∀ q ∈ strs, ∃ a, vk_R "DragonRing" q.1 q.2 a U) ∧ vx_Zq Bundle.tN "UNASSIGNED_STACK" Bundle.steD A U H ∧ vx_Zq Bundle.tN "SUPPRESSED_SENTINEL" Bundle.listD A U H ∧ pS A U H ∧ pN U
theorem pS.warm {A : Nat → Prop} {s U : State} {H : Heap} (hW : s.WarmedH U.vm) (h : pS A s H) : pS A U H := by
  obtain ⟨⟨adK, adV, h1, h2⟩, h3⟩ := h
  exact ⟨⟨adK, adV, h1.moved hW.alike, h2.warm hW⟩, h3.moved hW.alike⟩
theorem pS.kept {A : Nat → Prop} {U : State} {H H1 : Heap} (h : pS A U H) (hq : ∀ a : Nat, a < H.size → ¬ A a → H1[a]? = H[a]?) : pS A U H1 := by
  obtain ⟨⟨adK, adV, h1, h2⟩, h3⟩ := h
  exact ⟨⟨adK, adV, h1.kept hq, h2⟩, h3.kept hq⟩
theorem pS.narrow {A B : Nat → Prop} {U : State} {H : Heap} (h : pS A U H) (hAB : ∀ q, B q → A q) : pS B U H := by
  obtain ⟨⟨adK, adV, h1, h2⟩, h3⟩ := h
  exact ⟨⟨adK, adV, h1.narrow hAB, h2⟩, h3.narrow hAB⟩
theorem pK.warm {D : va_G} {κ : Nat → ClassId} {A : Nat → Prop} {s U : State} {H : Heap} (hW : s.WarmedH U.vm) (h : pK D κ A s H) : pK D κ A U H :=
  ⟨va_K.moved hW.alike h.1, fun q hq => (h.2.1 q hq).imp fun _ z => z.warm hW, h.2.2.1.moved hW.alike, h.2.2.2.1.moved hW.alike, h.2.2.2.2.1.warm hW, h.2.2.2.2.2.warm hW⟩
theorem pK.kept {D : va_G} {κ : Nat → ClassId} {A : Nat → Prop} {U : State} {H H1 : Heap} (h : pK D κ A U H) (hq : ∀ a : Nat, a < H.size → ¬ A a → H1[a]? = H[a]?) : pK D κ A U H1 :=
  ⟨h.1, h.2.1, h.2.2.1.kept hq, h.2.2.2.1.kept hq, h.2.2.2.2.1.kept hq, h.2.2.2.2.2⟩
theorem pK.narrow {D : va_G} {κ : Nat → ClassId} {A B : Nat → Prop} {U : State} {H : Heap} (h : pK D κ A U H) (hAB : ∀ q, B q → A q) : pK D κ B U H :=
  ⟨h.1, h.2.1, h.2.2.1.narrow hAB, h.2.2.2.1.narrow hAB, h.2.2.2.2.1.narrow hAB, h.2.2.2.2.2⟩
theorem pK.calling {D : va_G} {κ : Nat → ClassId} {A : Nat → Prop} {U : State} {H : Heap} {g : JFrame} {mk : MethodId} {a : Array Value} (h : pK D κ A U H) : pK D κ A (U.calling g mk a) H :=
  ⟨va_K.moved (u := U) (U := U.calling g mk a) (Vm.Alike.refl U.vm) h.1, fun q hq => (h.2.1 q hq).imp fun _ z => vk_R.same (u := U) rfl z, vx_Zq.moved (u := U) (Vm.Alike.refl U.vm) h.2.2.1, vx_Zq.moved (u := U) (Vm.Alike.refl U.vm) h.2.2.2.1, by
    obtain ⟨⟨adK, adV, h1, h2⟩, h3⟩ := h.2.2.2.2.1
    exact ⟨⟨adK, adV, vk_S.moved (u := U) (Vm.Alike.refl U.vm) h1, vk_R.same (u := U) rfl h2⟩, va_Z.moved (u := U) (Vm.Alike.refl U.vm) h3⟩, pN.same (u := U) rfl h.2.2.2.2.2⟩
/-- the words that any method may need -/
def wsG : List Cond := lw_tbl.filter goodWord
theorem wg {w : Cond} (h : w ∈ lw_tbl) (hg : goodWord w = true) : w ∈ wsG := List.mem_filter.mpr ⟨h, hg⟩
theorem goodG {w : Cond} (h : w ∈ wsG) (x : Cond) : GoodIn (x :: wsG) (w :: wsG) := by
  intro z hz
  rcases List.mem_cons.mp hz with rfl | hz
  · exact ⟨List.mem_cons_of_mem _ h, good_of_word (List.mem_filter.mp h).2⟩
  · exact ⟨List.mem_cons_of_mem _ hz, good_of_word (List.mem_filter.mp hz).2⟩
theorem goodT {w : Cond} (h : w ∈ wsG) : GoodIn lw_tbl (w :: wsG) := by
  intro z hz
  rcases List.mem_cons.mp hz with rfl | hz
  · exact ⟨(List.mem_filter.mp h).1, good_of_word (List.mem_filter.mp h).2⟩
  · exact ⟨(List.mem_filter.mp hz).1, good_of_word (List.mem_filter.mp hz).2⟩
theorem tw1 (i : Nat) {w : Cond} (h : tables_1_1[i]? = some w) : w ∈ lw_tbl := List.mem_append_right _ (List.mem_append_left _ (List.mem_of_getElem? h))
theorem tw2 (i : Nat) {w : Cond} (h : tables_1_2[i]? = some w) : w ∈ lw_tbl := List.mem_append_right _ (List.mem_append_right _ (List.mem_append_left _ (List.mem_of_getElem? h)))
theorem tw3 (i : Nat) {w : Cond} (h : tables_1_3[i]? = some w) : w ∈ lw_tbl := List.mem_append_right _ (List.mem_append_right _ (List.mem_append_right _ (List.mem_append_left _ (List.mem_of_getElem? h))))
theorem tw4 (i : Nat) {w : Cond} (h : tables_1_4[i]? = some w) : w ∈ lw_tbl := List.mem_append_right _ (List.mem_append_right _ (List.mem_append_right _ (List.mem_append_right _ (List.mem_append_left _ (List.mem_of_getElem? h)))))
theorem tw5 (i : Nat) {w : Cond} (h : tables_1_5[i]? = some w) : w ∈ lw_tbl := List.mem_append_right _ (List.mem_append_right _ (List.mem_append_right _ (List.mem_append_right _ (List.mem_append_right _ (List.mem_append_left _ (List.mem_of_getElem? h))))))
theorem tw6 (i : Nat) {w : Cond} (h : tables_1_6[i]? = some w) : w ∈ lw_tbl := List.mem_append_right _ (List.mem_append_right _ (List.mem_append_right _ (List.mem_append_right _ (List.mem_append_right _ (List.mem_append_right _ (List.mem_append_left _ (List.mem_of_getElem? h)))))))
theorem tw7 (i : Nat) {w : Cond} (h : tables_1_7[i]? = some w) : w ∈ lw_tbl := List.mem_append_right _ (List.mem_append_right _ (List.mem_append_right _ (List.mem_append_right _ (List.mem_append_right _ (List.mem_append_right _ (List.mem_append_right _ (List.mem_of_getElem? h)))))))
theorem tw0 {q : MethodName × Nat} {w : Cond} (h : q ∈ lw_privs) (hw : w = .selects q.1.cls q.1 q.1) : w ∈ lw_tbl := by
  subst hw
  exact List.mem_append_left _ (List.mem_map.mpr ⟨q, h, rfl⟩)
end
section
/-! THE LAYER, 2: locals as a list by their numbers; ZZ and contracts PM; calls and ends. -/
def lh (ls : Array Slot) (nL : Nat) (lv : List (Option Value)) : Prop := ls.size = nL ∧ lv_wf ls ∧ ∀ (i : Nat) (v : Value), lv[i]? = some (some v) → ls[i]? = some (.val v)
def lpr (lv : List (Option Value)) : List (Nat × Value) := (List.range lv.length).flatMap (fun i => match lv[i]? with | some (some v) => [(i, v)] | _ => [])
theorem lpr_mem {lv : List (Option Value)} {i : Nat} {v : Value} : (i, v) ∈ lpr lv ↔ lv[i]? = some (some v) := by
  unfold lpr
  rw [List.mem_flatMap]
  constructor
  · rintro ⟨j, -, h⟩
    rcases hq : lv[j]? with _ | o
    · rw [hq] at h; cases h
    · rcases o with _ | w
      · rw [hq] at h; cases h
      · rw [hq] at h
        have h2 := List.mem_singleton.mp h
        cases h2
        exact hq
  · intro h
    refine ⟨i, List.mem_range.mpr (List.getElem?_eq_some_iff.mp h).1, ?_⟩
    rw [h]
    exact List.mem_singleton.mpr rfl
theorem lh_has {ls : Array Slot} {nL : Nat} {lv : List (Option Value)} (h : lh ls nL lv) : lv_has ls nL (lpr lv) := ⟨h.1, h.2.1, fun q hq => h.2.2 q.1 q.2 (lpr_mem.mp hq)⟩
def c1 (o : Option Value) : Bool := match o with | none => true | some v => v.category == 1
theorem lh_st1 {ls' : Array Slot} {nL i : Nat} {lv : List (Option Value)} {v : Value} (h' : lv_has ls' nL ((i, v) :: (lpr lv).filter (fun q => !(q.1 == i) && !(q.1 + 1 == i && q.2.category == 2)))) (hp : ∀ (j : Nat) (w : Value), j + 1 = i → lv[j]? = some (some w) → ¬ w.category = 2) : lh ls' nL (lv.set i (some v)) := by
  refine ⟨h'.1, h'.2.1, fun j w hj => ?_⟩
  by_cases e : j = i
  · subst e
    have hlt := (List.getElem?_eq_some_iff.mp hj).1
    rw [List.length_set] at hlt
    rw [List.getElem?_set_self hlt] at hj
    cases hj
    exact h'.2.2 (j, v) List.mem_cons_self
  · rw [List.getElem?_set_ne (Ne.symm e)] at hj
    refine h'.2.2 (j, w) (List.mem_cons_of_mem _ (List.mem_filter.mpr ⟨lpr_mem.mpr hj, ?_⟩))
    have := hp j w
    simp only [Bool.and_eq_true, Bool.not_eq_true', beq_eq_false_iff_ne, ne_eq, Bool.and_eq_false_iff, beq_iff_eq]
    refine ⟨e, ?_⟩
    by_cases hh : j + 1 = i
    · exact Or.inr (this hh hj)
    · exact Or.inl hh
theorem lh_st2 {ls' : Array Slot} {nL i : Nat} {lv : List (Option Value)} {v : Value} (h' : lv_has ls' nL ((i, v) :: (lpr lv).filter (fun q => !(q.1 == i) && (!(q.1 == i + 1) && !(q.1 + 1 == i && q.2.category == 2))))) (hp : ∀ (j : Nat) (w : Value), j + 1 = i → lv[j]? = some (some w) → ¬ w.category = 2) : lh ls' nL ((lv.set i (some v)).set (i + 1) none) := by
  refine ⟨h'.1, h'.2.1, fun j w hj => ?_⟩
  by_cases e2 : j = i + 1
  · subst e2
    have hlt := (List.getElem?_eq_some_iff.mp hj).1
    rw [List.length_set] at hlt
    rw [List.getElem?_set_self hlt] at hj
    cases hj
  rw [List.getElem?_set_ne (Ne.symm e2)] at hj
  by_cases e : j = i
  · subst e
    have hlt := (List.getElem?_eq_some_iff.mp hj).1
    rw [List.length_set] at hlt
    rw [List.getElem?_set_self hlt] at hj
    cases hj
    exact h'.2.2 (j, v) List.mem_cons_self
  · rw [List.getElem?_set_ne (Ne.symm e)] at hj
    refine h'.2.2 (j, w) (List.mem_cons_of_mem _ (List.mem_filter.mpr ⟨lpr_mem.mpr hj, ?_⟩))
    have := hp j w
    simp only [Bool.and_eq_true, Bool.not_eq_true', beq_eq_false_iff_ne, ne_eq, Bool.and_eq_false_iff, beq_iff_eq]
    refine ⟨e, e2, ?_⟩
    by_cases hh : j + 1 = i
    · exact Or.inr (this hh hj)
    · exact Or.inl hh
/-- the locals at a method's entry -/
def lent : List Value → List (Option Value)
  | [] => []
  | v :: vs => if v.category = 2 then some v :: none :: lent vs else some v :: lent vs
theorem lent_args (vs : List Value) : ∀ (k i : Nat) (v : Value), (lent vs)[i]? = some (some v) → (k + i, v) ∈ lv_args k vs := by
  induction vs with
  | nil => intro k i v h; simp [lent] at h
  | cons w ws ih =>
    intro k i v h
    unfold lent at h
    unfold lv_args
    by_cases hc : w.category = 2
    · rw [if_pos hc] at h ⊢
      match i, h with
      | 0, h => cases h; exact List.mem_cons_self
      | 1, h => cases h
      | i + 2, h =>
        have := ih (k + 2) i v h
        rw [show k + (i + 2) = k + 2 + i by omega]
        exact List.mem_cons_of_mem _ this
    · rw [if_neg hc] at h ⊢
      match i, h with
      | 0, h => cases h; exact List.mem_cons_self
      | i + 1, h =>
        have := ih (k + 1) i v h
        rw [show k + (i + 1) = k + 1 + i by omega]
        exact List.mem_cons_of_mem _ this
theorem lent_has {ls : Array Slot} {nL n : Nat} {vs : List Value} (h : lv_has ls nL (lv_args 0 vs)) : lh ls nL (lent vs ++ List.replicate n none) := by
  refine ⟨h.1, h.2.1, fun i v hi => ?_⟩
  by_cases hl : i < (lent vs).length
  · rw [List.getElem?_append_left hl] at hi
    have := lent_args vs 0 i v hi
    rw [Nat.zero_add] at this
    exact h.2.2 (i, v) this
  · rw [List.getElem?_append_right (by omega), List.getElem?_replicate] at hi
    split at hi <;> cases hi
def pQ (D : va_G) (κ : Nat → ClassId) (A : Nat → Prop) (post : Option Value → List Nat → (Nat → PE) → Prop) : Array Value → State → Outcome → State → Prop := fun _ st oc t =>
  ∃ (v : Option Value) (L' : List Nat) (F' : Nat → PE), oc = .returned v ∧ post v L' F' ∧ va_P D vwCl (pw κ L' F') t.heap ∧ va_D A (pw κ L' F') ∧ va_F A st t
def pX (D : va_G) (κ : Nat → ClassId) (A : Nat → Prop) (xp : String → List Nat → (Nat → PE) → Prop) : String → State → State → Prop := fun E st t =>
  ∃ (L' : List Nat) (F' : Nat → PE), xp E L' F' ∧ va_P D vwCl (pw κ L' F') t.heap ∧ va_D A (pw κ L' F') ∧ va_F A st t
/-- what stays the same in a method's walk -/
def Zfx (l : Launch) (y : MethodName) (cc : ByteArray) (nL : Nat) (ret : Option FieldType) (L0 : List Nat) (p : Program) (s : State) (m : MethodId) (args : Array Value) (meth : Method) (c : Code) (D : va_G) (κ : Nat → ClassId) : Prop :=
  p.tables.exec = Jvm.exec ∧ c.code = cc ∧ c.maxLocals = nL ∧ s.vm.findClass y.cls = some m.cls ∧ (∀ w ∈ wsG, w.before args s = true) ∧ pK D κ (pA L0 s.heap.size) s s.heap ∧ meth.sig.returnType = ret ∧ meth.locks = false ∧ (∀ x ∈ c.exceptionTable.toList, False) ∧ meth.name = y.name
/-- the walk of a method from a place: locals, stack, pool, contents -/
def Zj (l : Launch) (y : MethodName) (cc : ByteArray) (nL : Nat) (ret : Option FieldType) (R : Room) (L0 : List Nat) (post : Option Value → List Nat → (Nat → PE) → Prop) (xp : String → List Nat → (Nat → PE) → Prop) (k n pc : Nat) (lv : List (Option Value)) (st : List Value) (L : List Nat) (F : Nat → PE) : Prop :=
  ∀ (p : Program) (e : Env) (s : State) (m : MethodId) (args : Array Value) (below : List Frame) (meth : Method) (c : Code) (D : va_G) (κ : Nat → ClassId), Zfx l y cc nL ret L0 p s m args meth c D κ →
    ∀ (H : Heap) (locs : List Loc) (ls : Array Slot), va_P D vwCl (pw κ L F) H → va_D (pA L0 s.heap.size) (pw κ L F) → va_S (pA L0 s.heap.size) s.heap H locs → lh ls nL lv →
      W p l e R s m args below meth c H locs k n (vx_MQ below (pQ D κ (pA L0 s.heap.size) post) (pX D κ (pA L0 s.heap.size) xp) args s R.cells R.slots (pA L0 s.heap.size)) (F0 m pc ls st)
abbrev ZT : Type := Nat → Nat → Nat → List (Option Value) → List Value → List Nat → (Nat → PE) → Prop
/-- a method's contract -/
def PM (l : Launch) (y : MethodName) (cc : ByteArray) (nL : Nat) (ret : Option FieldType) (R : Room) (L0 : List Nat) (av : List Value) (F : Nat → PE) (post : Option Value → List Nat → (Nat → PE) → Prop) (xp : String → List Nat → (Nat → PE) → Prop) : Prop :=
  Cond.code y cc nL ret ∈ wsG ∧ ∀ (D : va_G) (κ : Nat → ClassId) (sz : Nat), vx_Met l y (Cond.code y cc nL ret :: wsG) R (va_Pc av (fun U => U.heap.size = sz ∧ va_P D vwCl (pw κ L0 F) U.heap ∧ va_D (fun _ => True) (pw κ L0 F) ∧ pK D κ (pA L0 sz) U U.heap))
    (pQ D κ (pA L0 sz) post) (pX D κ (pA L0 sz) xp) R.cells R.slots (pA L0 sz)
theorem pw_A {κ : Nat → ClassId} {L : List Nat} {F : Nat → PE} {A B : Nat → Prop} (h : va_D A (pw κ L F)) (hB : ∀ a ∈ L, B a) : va_D B (pw κ L F) := by
  refine ⟨h.1, fun k q hk => ?_⟩
  obtain ⟨a, ha, rfl⟩ := List.mem_map.mp (List.mem_of_getElem? hk)
  exact hB a ha
theorem pw_in {κ : Nat → ClassId} {L : List Nat} {F : Nat → PE} {A : Nat → Prop} (h : va_D A (pw κ L F)) : ∀ a ∈ L, A a := fun a ha => by
  obtain ⟨k, hk⟩ := pw_get (κ := κ) (F := F) ha rfl
  exact h.2 k _ hk
theorem pm_of {l : Launch} {y : MethodName} {cc : ByteArray} {nL : Nat} {ret : Option FieldType} {R : Room} {L0 : List Nat} {av : List Value} {F : Nat → PE} {post : Option Value → List Nat → (Nat → PE) → Prop} {xp : String → List Nat → (Nat → PE) → Prop}
    (hc : Cond.code y cc nL ret ∈ wsG) (hy : plainName y.cls = true) (hfit : (lg_sl av).length ≤ nL) (body : ∀ ZZ : ZT, ZZ = Zj l y cc nL ret R L0 post xp → ZZ 0 0 0 (lent av ++ List.replicate (nL - (lg_sl av).length) none) [] L0 F) : PM l y cc nL ret R L0 av F post xp := by
  refine ⟨hc, fun D κ sz => ?_⟩
  refine vx_ofW (cc := cc) (maxL := nL) (ret := ret) hy rfl ?_
  intro p e s m args below meth c s₁ B hml hex hv
  obtain ⟨rfl, hsz, hP, hD0, hK⟩ := hv
  subst hsz
  have hts := atoms_spec B.pre
  rw [lg_entry_eq]
  exact body _ rfl p e s m _ below meth c D κ ⟨B.exec, B.bytes, hml, findClass_of_methodNamed B.named, fun w hw => hts w (List.mem_cons_of_mem _ hw), hK, B.returns, B.notSynchronized, hex, (name_of_methodNamed B.named B.method).1⟩
    s.heap [] _ hP (pw_A hD0 (fun a ha => Or.inl ha)) va_S.rf (lent_has (lv_entry av hfit))
section ZC
variable {ZZ : ZT} {l : Launch} {y : MethodName} {cc : ByteArray} {nL : Nat} {ret : Option FieldType} {R : Room} {L0 : List Nat} {post : Option Value → List Nat → (Nat → PE) → Prop} {xp : String → List Nat → (Nat → PE) → Prop}
variable {k n pc : Nat} {lv : List (Option Value)} {st : List Value} {L : List Nat} {F : Nat → PE}
/-- the ends -/
theorem z_iret (hZ : ZZ = Zj l y cc nL ret R L0 post xp) (hr : ret = some .int) {z : Int} (hk : k ≤ R.cells) (hn : n ≤ R.slots) (d : decode cc pc = .ok (.ireturn, 1)) (hp : post (some (.int (iI z))) L F) : ZZ k n pc lv [.int (iI z)] L F := by
  subst hZ
  intro p e s m args below meth c D κ hx H locs ls hP hD hS hl
  refine W.widen hk hn (vx_ret ?_)
  exact W.iret hx.1 hx.2.1 (hx.2.2.2.2.2.2.1.trans hr) (fun t ht hW => ⟨_, L, F, rfl, hp, by rw [ht]; exact hP, hD, hS.F ht⟩) hS.2.2 d hx.2.2.2.2.2.2.2.1
theorem z_zret (hZ : ZZ = Zj l y cc nL ret R L0 post xp) (hr : ret = some .boolean) {z : Int} (hk : k ≤ R.cells) (hn : n ≤ R.slots) (d : decode cc pc = .ok (.ireturn, 1)) (hb : z = 0 ∨ z = 1) (hp : post (some (.int (iI z))) L F) : ZZ k n pc lv [.int (iI z)] L F := by
  subst hZ
  intro p e s m args below meth c D κ hx H locs ls hP hD hS hl
  refine W.widen hk hn (vx_ret ?_)
  exact W.zret hx.1 hx.2.1 (hx.2.2.2.2.2.2.1.trans hr) (by rcases hb with rfl | rfl <;> decide) (fun t ht hW => ⟨_, L, F, rfl, hp, by rw [ht]; exact hP, hD, hS.F ht⟩) hS.2.2 d hx.2.2.2.2.2.2.2.1
theorem z_lret (hZ : ZZ = Zj l y cc nL ret R L0 post xp) (hr : ret = some .long) {z : Int64} (hk : k ≤ R.cells) (hn : n ≤ R.slots) (d : decode cc pc = .ok (.lreturn, 1)) (hp : post (some (.long z)) L F) : ZZ k n pc lv [.long z] L F := by
  subst hZ
  intro p e s m args below meth c D κ hx H locs ls hP hD hS hl
  refine W.widen hk hn (vx_ret ?_)
  exact W.lret hx.1 hx.2.1 (hx.2.2.2.2.2.2.1.trans hr) (fun t ht hW => ⟨_, L, F, rfl, hp, by rw [ht]; exact hP, hD, hS.F ht⟩) hS.2.2 d hx.2.2.2.2.2.2.2.1
theorem z_dret (hZ : ZZ = Zj l y cc nL ret R L0 post xp) (hr : ret = some .double) {z : UInt64} (hk : k ≤ R.cells) (hn : n ≤ R.slots) (d : decode cc pc = .ok (.dreturn, 1)) (hp : post (some (.double z)) L F) : ZZ k n pc lv [.double z] L F := by
  subst hZ
  intro p e s m args below meth c D κ hx H locs ls hP hD hS hl
  refine W.widen hk hn (vx_ret ?_)
  exact W.dret hx.1 hx.2.1 (hx.2.2.2.2.2.2.1.trans hr) (fun t ht hW => ⟨_, L, F, rfl, hp, by rw [ht]; exact hP, hD, hS.F ht⟩) hS.2.2 d hx.2.2.2.2.2.2.2.1
theorem z_vret (hZ : ZZ = Zj l y cc nL ret R L0 post xp) (hr : ret = none) (hk : k ≤ R.cells) (hn : n ≤ R.slots) (d : decode cc pc = .ok (.return_, 1)) (hp : post none L F) : ZZ k n pc lv [] L F := by
  subst hZ
  intro p e s m args below meth c D κ hx H locs ls hP hD hS hl
  refine W.widen hk hn (vx_ret ?_)
  exact W.vret hx.1 hx.2.1 (hx.2.2.2.2.2.2.1.trans hr) (fun t ht hW => ⟨_, L, F, rfl, hp, by rw [ht]; exact hP, hD, hS.F ht⟩) hS.2.2 d hx.2.2.2.2.2.2.2.1
theorem z_aret (hZ : ZZ = Zj l y cc nL ret R L0 post xp) {C : String} (hr : ret = some (.object C)) {a : Nat} (hk : k ≤ R.cells) (hn : n ≤ R.slots) (d : decode cc pc = .ok (.areturn, 1)) (hp : post (some (.ref a)) L F) : ZZ k n pc lv [.ref a] L F := by
  subst hZ
  intro p e s m args below meth c D κ hx H locs ls hP hD hS hl
  refine W.widen hk hn (vx_ret ?_)
  exact W.aret hx.1 hx.2.1 (hx.2.2.2.2.2.2.1.trans hr) (Or.inl ⟨C, rfl⟩) (Or.inr ⟨a, rfl⟩) (fun t ht hW => ⟨_, L, F, rfl, hp, by rw [ht]; exact hP, hD, hS.F ht⟩) hS.2.2 d hx.2.2.2.2.2.2.2.1
/-- calls: the core -/
def wyB (y : MethodName) (n : Nat) : Prop := Cond.initialized y.cls ∈ wsG ∧ (y.cls ≠ "java/lang/invoke/MethodHandle" ∧ y.cls ≠ "java/lang/invoke/VarHandle") ∧ (parseMethodDescriptor y.desc).map (fun d => d.parameters.length) = some n
def wyV (y : MethodName) (n : Nat) : Prop := wyB y n ∧ Cond.instanceMethod y ∈ wsG ∧ Cond.selects y.cls y y ∈ wsG
def wyS (y : MethodName) (n : Nat) : Prop := wyB y n ∧ Cond.static y ∈ wsG
def wyI (y : MethodName) (n : Nat) : Prop := wyB y n ∧ y.name = "<init>" ∧ Cond.instanceMethod y ∈ wsG
theorem wsG_GI {w : Cond} (h : w ∈ wsG) : GoodIn wsG (w :: wsG) := by
  intro z hz
  rcases List.mem_cons.mp hz with rfl | hz
  · exact ⟨h, good_of_word (List.mem_filter.mp h).2⟩
  · exact ⟨hz, good_of_word (List.mem_filter.mp hz).2⟩
theorem z_callB {s : State} {args : Array Value} {own : String} {idx n1 nL1 : Nat} {y1 : MethodName} {cc1 : ByteArray} {ret1 : Option FieldType} {R R1 : Room} (hts : ∀ w ∈ wsG, w.before args s = true) (hc : Cond.code y1 cc1 nL1 ret1 ∈ wsG) (hw : wyB y1 n1) (hl : Cond.methodLink own idx y1 ∈ wsG) (hR : R1.frames + 1 ≤ R.frames ∧ 8 + (nL1 + 11) + R1.locals ≤ R.locals) :
    CallB R s args own idx y1 cc1 nL1 ret1 (Cond.code y1 cc1 nL1 ret1 :: wsG) R1 R1.cells R1.slots n1 := by
  refine ⟨rfl, rfl, hR.1, hR.2, pay_in hts (wsG_GI hc), List.mem_cons_self, hts _ hc, hts _ hw.1, hw.2.1, fun sig h => ?_, hts _ hl⟩
  have h2 := hw.2.2
  rw [h] at h2
  exact (Option.some.inj h2).symm
/-- behind a call -/
theorem z_back {p : Program} {e : Env} {s : State} {m : MethodId} {args : Array Value} {below : List Frame} {meth : Method} {c : Code} {D : va_G} {κ : Nat → ClassId} {H : Heap} {locs : List Loc} {ls : Array Slot} {R1 : Room} {a : Array Value} {rest st0 : List Value}
    {post1 : Option Value → List Nat → (Nat → PE) → Prop} {xp1 : String → List Nat → (Nat → PE) → Prop}
    (hx : Zfx l y cc nL ret L0 p s m args meth c D κ) (hS : va_S (pA L0 s.heap.size) s.heap H locs) (hD : va_D (pA L0 s.heap.size) (pw κ L F)) (hl : lh ls nL lv)
    (hr : vx_Run p l e R s m args below meth c H locs k n R1.cells R1.slots (F0 m pc ls st0) rest (pQ D κ (pA L H.size) post1 a) (pX D κ (pA L H.size) xp1) (pA L H.size))
    (kx : ∀ (E : String) (L' : List Nat) (F' : Nat → PE), xp1 E L' F' → xp E L' F' ∧ k + R1.cells ≤ R.cells ∧ n + R1.slots ≤ R.slots)
    (kk : ∀ (v : Option Value) (L' : List Nat) (F' : Nat → PE), post1 v L' F' → Zj l y cc nL ret R L0 post xp (k + R1.cells) (n + R1.slots) (pc + 3) lv (v.toList ++ rest) L' F') :
    W p l e R s m args below meth c H locs k n (vx_MQ below (pQ D κ (pA L0 s.heap.size) post) (pX D κ (pA L0 s.heap.size) xp) args s R.cells R.slots (pA L0 s.heap.size)) (F0 m pc ls st0) := by
  have hAA : ∀ q, pA L H.size q → pA L0 s.heap.size q := fun q h => h.elim (fun h => pw_in hD q h) (fun h => Or.inr (Nat.le_trans hS.1 h))
  intro T hT X
  rcases hr T hT X with ⟨v, st₀, t, T', Ls, h0, X', hL, e1, e2, ⟨v2, L', F', hv, hp, hP1, hD1, hF⟩, st⟩ | ⟨q, st₀, t, T', Ls, E, ce, h0, X', hL, e1, e2, ⟨L', F', hp, hP1, hD1, hF⟩, hce, hcv, hcl, st⟩
  · cases hv
    obtain ⟨k1, k2, k3⟩ := vx_keep h0 e1 hS (fun q _ h => hAA q h) hAA hL hF
    obtain ⟨t2, a1, b1⟩ := kk v L' F' hp p e s m args below meth c D κ hx T'.heap (locs ++ Ls) ls (by rw [e1]; exact hP1) ⟨hD1.1, fun k q hk => hAA _ (hD1.2 k q hk)⟩ k3 hl T' rfl X'
    exact ⟨t2, st t2 a1, b1⟩
  · obtain ⟨k1, k2, k3⟩ := vx_keep h0 e1 hS (fun q _ h => hAA q h) hAA hL hF
    obtain ⟨g1, g2, g3⟩ := kx E L' F' hp
    obtain ⟨t2, a1, b1⟩ := vx_out (Qc := pQ D κ (pA L0 s.heap.size) post) (XC := pX D κ (pA L0 s.heap.size) xp) (free := pA L0 s.heap.size) (pc := pc) (rest := rest) (ls := ls) (fun x hx9 => (hx.2.2.2.2.2.2.2.2.1 x hx9).elim) hx.2.2.2.2.2.2.2.1 (by rw [e1]; exact hce) hcv hcl
      (fun t3 ht3 hal => ⟨L', F', g1, by rw [ht3, e1]; exact hP1, ⟨hD1.1, fun k q hk => hAA _ (hD1.2 k q hk)⟩, k3.F ht3⟩) k3.2.2 g2 g3 T' rfl X'
    exact ⟨t2, st.trans a1, b1⟩
theorem z_pc {s U : State} {D : va_G} {κ : Nat → ClassId} {H : Heap} {locs : List Loc} (hK : pK D κ (pA L0 s.heap.size) s s.heap) (hS : va_S (pA L0 s.heap.size) s.heap H locs) (hP : va_P D vwCl (pw κ L F) H) (hD : va_D (pA L0 s.heap.size) (pw κ L F)) (hU : U.heap = H) (hW : s.WarmedH U.vm) :
    U.heap.size = H.size ∧ va_P D vwCl (pw κ L F) U.heap ∧ va_D (fun _ => True) (pw κ L F) ∧ pK D κ (pA L H.size) U U.heap := by
  have hAA : ∀ q, pA L H.size q → pA L0 s.heap.size q := fun q h => h.elim (fun h => pw_in hD q h) (fun h => Or.inr (Nat.le_trans hS.1 h))
  refine ⟨by rw [hU], by rw [hU]; exact hP, pw_A hD (fun _ _ => trivial), ?_⟩
  rw [hU]
  exact ((hK.kept hS.2.1).narrow hAA).warm hW
theorem z_blind {D : va_G} {κ : Nat → ClassId} {av : List Value} {sz : Nat} : FrameBlind (va_Pc av (fun U => U.heap.size = sz ∧ va_P D vwCl (pw κ L F) U.heap ∧ va_D (fun _ => True) (pw κ L F) ∧ pK D κ (pA L sz) U U.heap)) := fun a U g mk q => ⟨q.1, q.2.1, q.2.2.1, q.2.2.2.1, q.2.2.2.2.calling⟩
theorem z_cV (hZ : ZZ = Zj l y cc nL ret R L0 post xp) {y1 : MethodName} {cc1 : ByteArray} {nL1 idx b ci : Nat} {ret1 : Option FieldType} {R1 : Room} {As rest st0 : List Value} {fs : List Value} {T1 : u_T} {N1 : Nat} {post1 : Option Value → List Nat → (Nat → PE) → Prop} {xp1 : String → List Nat → (Nat → PE) → Prop}
    (hst : st0 = As.reverse ++ .ref b :: rest) (d : decode cc pc = .ok (.invokevirtual idx, 3)) (hl : Cond.methodLink y.cls idx y1 ∈ wsG) (hw : wyV y1 As.length) (hM : PM l y1 cc1 nL1 ret1 R1 L (.ref b :: As) F post1 xp1)
    (hb : b ∈ L) (hF : F b = eO ci fs) (hci : vwCl[ci]? = some (y1.cls, T1, N1)) (hR : R1.frames + 1 ≤ R.frames ∧ 8 + (nL1 + 11) + R1.locals ≤ R.locals) (hRc : k + R1.cells ≤ R.cells ∧ n + R1.slots ≤ R.slots) (hrest : (rest.map fun v => v.category).sum ≤ 8)
    (kx : ∀ (E : String) (L' : List Nat) (F' : Nat → PE), xp1 E L' F' → xp E L' F')
    (kk : ∀ (v : Option Value) (L' : List Nat) (F' : Nat → PE), post1 v L' F' → ZZ (k + R1.cells) (n + R1.slots) (pc + 3) lv (v.toList ++ rest) L' F') : ZZ k n pc lv st0 L F := by
  subst hZ
  intro p e s m args below meth c D κ hx H locs ls hP hD hS hl
  subst hst
  obtain ⟨q0, hq0⟩ := pw_get (κ := κ) hb hF
  refine z_back (R1 := R1) hx hS hD hl (vx_runV (As := As) (b := b) (C := y1.cls) ⟨hx.1, hx.2.1, hx.2.2.1, hx.2.2.2.1, hx.2.2.2.2.1⟩ (hM.2 D κ H.size) ⟨z_callB hx.2.2.2.2.1 hM.1 hw.1 ‹_› hR, hx.2.2.2.2.1 _ hw.2.1, hx.2.2.2.2.1 _ hw.2.2⟩
    ⟨z_blind, va_recv hx.2.2.2.2.2.1.1 hP hci hq0, fun U hU hW => ⟨rfl, z_pc hx.2.2.2.2.2.1 hS hP hD hU hW⟩⟩ rfl rfl hl.1 rfl (lv_room hrest) d hRc) (fun E L' F' h => ⟨kx E L' F' h, hRc⟩) kk
theorem z_cS (hZ : ZZ = Zj l y cc nL ret R L0 post xp) {y1 : MethodName} {cc1 : ByteArray} {nL1 idx : Nat} {ret1 : Option FieldType} {R1 : Room} {As rest st0 : List Value} {post1 : Option Value → List Nat → (Nat → PE) → Prop} {xp1 : String → List Nat → (Nat → PE) → Prop}
    (hst : st0 = As.reverse ++ rest) (d : decode cc pc = .ok (.invokestatic idx, 3)) (hl : Cond.methodLink y.cls idx y1 ∈ wsG) (hw : wyS y1 As.length) (hM : PM l y1 cc1 nL1 ret1 R1 L As F post1 xp1)
    (hR : R1.frames + 1 ≤ R.frames ∧ 8 + (nL1 + 11) + R1.locals ≤ R.locals) (hRc : k + R1.cells ≤ R.cells ∧ n + R1.slots ≤ R.slots) (hrest : (rest.map fun v => v.category).sum ≤ 8)
    (kx : ∀ (E : String) (L' : List Nat) (F' : Nat → PE), xp1 E L' F' → xp E L' F')
    (kk : ∀ (v : Option Value) (L' : List Nat) (F' : Nat → PE), post1 v L' F' → ZZ (k + R1.cells) (n + R1.slots) (pc + 3) lv (v.toList ++ rest) L' F') : ZZ k n pc lv st0 L F := by
  subst hZ
  intro p e s m args below meth c D κ hx H locs ls hP hD hS hl
  subst hst
  refine z_back (R1 := R1) hx hS hD hl (vx_runS (As := As) ⟨hx.1, hx.2.1, hx.2.2.1, hx.2.2.2.1, hx.2.2.2.2.1⟩ (hM.2 D κ H.size) ⟨z_callB hx.2.2.2.2.1 hM.1 hw.1 ‹_› hR, hx.2.2.2.2.1 _ hw.2⟩
    ⟨z_blind, fun U hU hW => ⟨rfl, z_pc hx.2.2.2.2.2.1 hS hP hD hU hW⟩⟩ rfl rfl hl.1 rfl (lv_room hrest) d hRc) (fun E L' F' h => ⟨kx E L' F' h, hRc⟩) kk
end ZC
end
section
/-! THE LAYER, 3: a row an instruction. -/
def b2 (P : Prop) [Decidable P] : Int := if P then 1 else 0
theorem b2_t {P : Prop} [Decidable P] (h : P) : b2 P = 1 := if_pos h
theorem b2_f {P : Prop} [Decidable P] (h : ¬ P) : b2 P = 0 := if_neg h
theorem b2_in (P : Prop) [Decidable P] : b2 P = 0 ∨ b2 P = 1 := by by_cases h : P; exact Or.inr (b2_t h); exact Or.inl (b2_f h)
theorem lL_add (a b : Int) : lL a + lL b = lL (a + b) := (Int64.ofInt_add a b).symm
theorem lL_sub (a b : Int) : lL a - lL b = lL (a - b) := (Int64.ofInt_sub a b).symm
theorem lL_mul (a b : Int) : lL a * lL b = lL (a * b) := (Int64.ofInt_mul a b).symm
theorem lL_of (x : Int64) : ∃ z : Int, -9223372036854775808 ≤ z ∧ z ≤ 9223372036854775807 ∧ x = lL z := ⟨x.toInt, by have := Int64.minValue_le_toInt x; exact this, by have := Int64.toInt_le x; exact this, by
  apply Int64.toInt_inj.mp
  rw [lL, Int64.ofInt_toInt]⟩
theorem lL_toInt {z : Int} (h1 : -9223372036854775808 ≤ z) (h2 : z ≤ 9223372036854775807) : (lL z).toInt = z := by
  rw [lL, Int64.toInt_ofInt]
  have e : (Int64.size : Int) = 18446744073709551616 := rfl
  apply Int.bmod_eq_of_le <;> omega
theorem iI_L {z : Int} (h : okI z) : (iI z).toInt64 = lL z := by
  apply Int64.toInt_inj.mp
  rw [Int32.toInt_toInt64, iI_toInt h, lL_toInt (by have := h.1; omega) (by have := h.2; omega)]
theorem iI_pos {a : Int} (h : 0 ≤ a) : iI a = nI a.toNat := by
  rw [iI_nI, Int.toNat_of_nonneg h]
theorem iI_rem {a b : Int} (h0 : 0 ≤ a) (ha : okI a) (h1 : 0 < b) (hb : okI b) : iI a - iI a / iI b * iI b = iI (a % b) := by
  have e1 := ha.2
  have e2 := hb.2
  rw [iI_pos h0, iI_pos (Int.le_of_lt h1), pk_rem (by omega) (by omega) (by omega), iI_nI]
  congr 1
  rw [Int.natCast_emod, Int.toNat_of_nonneg h0, Int.toNat_of_nonneg (Int.le_of_lt h1)]
def zcp (f g : Int → Int) (sp dp n : Int) : Int → Int := fun j => if dp ≤ j ∧ j < dp + n then f (sp + (j - dp)) else g j
section ZR
variable {ZZ : ZT} {l : Launch} {y : MethodName} {cc : ByteArray} {nL : Nat} {ret : Option FieldType} {R : Room} {L0 : List Nat} {post : Option Value → List Nat → (Nat → PE) → Prop} {xp : String → List Nat → (Nat → PE) → Prop}
variable {k n pc : Nat} {lv : List (Option Value)} {st : List Value} {L : List Nat} {F : Nat → PE}
theorem z_iconst (hZ : ZZ = Zj l y cc nL ret R L0 post xp) {w : Int} (d : decode cc pc = .ok (.iconst w, 1)) (kk : ZZ k n (pc + 1) lv (.int (iI w) :: st) L F) : ZZ k n pc lv (st) L F := by
  subst hZ
  intro p e s m args below meth c D κ hx H locs ls hP hD hS hl
  refine lv_iconst hx.1 hx.2.1 d (v := iI w) rfl ?_
  exact kk p e s m args below meth c D κ hx H locs ls hP hD hS hl
theorem z_bipush (hZ : ZZ = Zj l y cc nL ret R L0 post xp) {c : Int} (d : decode cc pc = .ok (.bipush c, 2)) (hv : (Int8.ofInt c).toInt32 = iI c) (kk : ZZ k n (pc + 2) lv (.int (iI c) :: st) L F) : ZZ k n pc lv (st) L F := by
  subst hZ
  intro p e s m args below meth c D κ hx H locs ls hP hD hS hl
  refine lv_bipush hx.1 hx.2.1 d hv ?_
  exact kk p e s m args below meth c D κ hx H locs ls hP hD hS hl
theorem z_sipush (hZ : ZZ = Zj l y cc nL ret R L0 post xp) {c : Int} (d : decode cc pc = .ok (.sipush c, 3)) (hv : (Int16.ofInt c).toInt32 = iI c) (kk : ZZ k n (pc + 3) lv (.int (iI c) :: st) L F) : ZZ k n pc lv (st) L F := by
  subst hZ
  intro p e s m args below meth c D κ hx H locs ls hP hD hS hl
  refine lv_sipush hx.1 hx.2.1 d hv ?_
  exact kk p e s m args below meth c D κ hx H locs ls hP hD hS hl
theorem z_lconst (hZ : ZZ = Zj l y cc nL ret R L0 post xp) {c : Fin 2} {v : Int} (d : decode cc pc = .ok (.lconst c, 1)) (hv : Int64.ofNat (c : Nat) = lL v) (kk : ZZ k n (pc + 1) lv (.long (lL v) :: st) L F) : ZZ k n pc lv (st) L F := by
  subst hZ
  intro p e s m args below meth c D κ hx H locs ls hP hD hS hl
  refine lv_lconst hx.1 hx.2.1 d hv ?_
  exact kk p e s m args below meth c D κ hx H locs ls hP hD hS hl
theorem z_dconst0 (hZ : ZZ = Zj l y cc nL ret R L0 post xp) (d : decode cc pc = .ok (.dconst 0, 1)) (kk : ZZ k n (pc + 1) lv (.double FP.dconst0 :: st) L F) : ZZ k n pc lv (st) L F := by
  subst hZ
  intro p e s m args below meth c D κ hx H locs ls hP hD hS hl
  refine lv_dconst0 hx.1 hx.2.1 d ?_
  exact kk p e s m args below meth c D κ hx H locs ls hP hD hS hl
theorem z_dconst1 (hZ : ZZ = Zj l y cc nL ret R L0 post xp) (d : decode cc pc = .ok (.dconst 1, 1)) (kk : ZZ k n (pc + 1) lv (.double FP.dconst1 :: st) L F) : ZZ k n pc lv (st) L F := by
  subst hZ
  intro p e s m args below meth c D κ hx H locs ls hP hD hS hl
  refine lv_dconst1 hx.1 hx.2.1 d ?_
  exact kk p e s m args below meth c D κ hx H locs ls hP hD hS hl
theorem z_ldc2 (hZ : ZZ = Zj l y cc nL ret R L0 post xp) {ix : Nat} {v : Int64} (d : decode cc pc = .ok (.ldc2_w ix, 3)) (hw : Cond.constantLong y.cls ix v ∈ wsG) (kk : ZZ k n (pc + 3) lv (.long v :: st) L F) : ZZ k n pc lv (st) L F := by
  subst hZ
  intro p e s m args below meth c D κ hx H locs ls hP hD hS hl
  refine lv_ldc2 hx.1 hx.2.1 hx.2.2.2.1 (hx.2.2.2.2.1 _ hw) d ?_
  exact kk p e s m args below meth c D κ hx H locs ls hP hD hS hl
theorem z_ldc2d (hZ : ZZ = Zj l y cc nL ret R L0 post xp) {ix : Nat} {v : UInt64} (d : decode cc pc = .ok (.ldc2_w ix, 3)) (hw : Cond.constantDouble y.cls ix v ∈ wsG) (kk : ZZ k n (pc + 3) lv (.double v :: st) L F) : ZZ k n pc lv (st) L F := by
  subst hZ
  intro p e s m args below meth c D κ hx H locs ls hP hD hS hl
  refine lv_ldc2d hx.1 hx.2.1 hx.2.2.2.1 (hx.2.2.2.2.1 _ hw) d ?_
  exact kk p e s m args below meth c D κ hx H locs ls hP hD hS hl
theorem z_iload_n0 (hZ : ZZ = Zj l y cc nL ret R L0 post xp) {t : List (Option Value)} {z : Int32} (d : decode cc pc = .ok (.iload_n 0, 1)) (kk : ZZ k n (pc + 1) (some (.int z) :: t) (.int z :: st) L F) : ZZ k n pc (some (.int z) :: t) (st) L F := by
  subst hZ
  intro p e s m args below meth c D κ hx H locs ls hP hD hS hl
  refine lv_iload_n hx.1 hx.2.1 d rfl (hl.2.2 0 _ rfl) ?_
  exact kk p e s m args below meth c D κ hx H locs ls hP hD hS hl
theorem z_iload0 (hZ : ZZ = Zj l y cc nL ret R L0 post xp) {t : List (Option Value)} {z : Int32} (d : decode cc pc = .ok (.iload 0, 2)) (kk : ZZ k n (pc + 2) (some (.int z) :: t) (.int z :: st) L F) : ZZ k n pc (some (.int z) :: t) (st) L F := by
  subst hZ
  intro p e s m args below meth c D κ hx H locs ls hP hD hS hl
  refine lv_iload hx.1 hx.2.1 d (hl.2.2 0 _ rfl) ?_
  exact kk p e s m args below meth c D κ hx H locs ls hP hD hS hl
theorem z_aload_n0 (hZ : ZZ = Zj l y cc nL ret R L0 post xp) {t : List (Option Value)} {z : Nat} (d : decode cc pc = .ok (.aload_n 0, 1)) (kk : ZZ k n (pc + 1) (some (.ref z) :: t) (.ref z :: st) L F) : ZZ k n pc (some (.ref z) :: t) (st) L F := by
  subst hZ
  intro p e s m args below meth c D κ hx H locs ls hP hD hS hl
  refine lv_aload_n hx.1 hx.2.1 d rfl (hl.2.2 0 _ rfl) ?_
  exact kk p e s m args below meth c D κ hx H locs ls hP hD hS hl
theorem z_aload0 (hZ : ZZ = Zj l y cc nL ret R L0 post xp) {t : List (Option Value)} {z : Nat} (d : decode cc pc = .ok (.aload 0, 2)) (kk : ZZ k n (pc + 2) (some (.ref z) :: t) (.ref z :: st) L F) : ZZ k n pc (some (.ref z) :: t) (st) L F := by
  subst hZ
  intro p e s m args below meth c D κ hx H locs ls hP hD hS hl
  refine lv_aload hx.1 hx.2.1 d (hl.2.2 0 _ rfl) ?_
  exact kk p e s m args below meth c D κ hx H locs ls hP hD hS hl
theorem z_lload_n0 (hZ : ZZ = Zj l y cc nL ret R L0 post xp) {t : List (Option Value)} {z : Int64} (d : decode cc pc = .ok (.lload_n 0, 1)) (kk : ZZ k n (pc + 1) (some (.long z) :: t) (.long z :: st) L F) : ZZ k n pc (some (.long z) :: t) (st) L F := by
  subst hZ
  intro p e s m args below meth c D κ hx H locs ls hP hD hS hl
  refine lv_lload_n hx.1 hx.2.1 d rfl (hl.2.2 0 _ rfl) ?_
  exact kk p e s m args below meth c D κ hx H locs ls hP hD hS hl
theorem z_lload0 (hZ : ZZ = Zj l y cc nL ret R L0 post xp) {t : List (Option Value)} {z : Int64} (d : decode cc pc = .ok (.lload 0, 2)) (kk : ZZ k n (pc + 2) (some (.long z) :: t) (.long z :: st) L F) : ZZ k n pc (some (.long z) :: t) (st) L F := by
  subst hZ
  intro p e s m args below meth c D κ hx H locs ls hP hD hS hl
  refine lv_lload hx.1 hx.2.1 d (hl.2.2 0 _ rfl) ?_
  exact kk p e s m args below meth c D κ hx H locs ls hP hD hS hl
theorem z_dload_n0 (hZ : ZZ = Zj l y cc nL ret R L0 post xp) {t : List (Option Value)} {z : UInt64} (d : decode cc pc = .ok (.dload_n 0, 1)) (kk : ZZ k n (pc + 1) (some (.double z) :: t) (.double z :: st) L F) : ZZ k n pc (some (.double z) :: t) (st) L F := by
  subst hZ
  intro p e s m args below meth c D κ hx H locs ls hP hD hS hl
  refine lv_dload_n hx.1 hx.2.1 d rfl (hl.2.2 0 _ rfl) ?_
  exact kk p e s m args below meth c D κ hx H locs ls hP hD hS hl
theorem z_dload0 (hZ : ZZ = Zj l y cc nL ret R L0 post xp) {t : List (Option Value)} {z : UInt64} (d : decode cc pc = .ok (.dload 0, 2)) (kk : ZZ k n (pc + 2) (some (.double z) :: t) (.double z :: st) L F) : ZZ k n pc (some (.double z) :: t) (st) L F := by
  subst hZ
  intro p e s m args below meth c D κ hx H locs ls hP hD hS hl
  refine lv_dload hx.1 hx.2.1 d (hl.2.2 0 _ rfl) ?_
  exact kk p e s m args below meth c D κ hx H locs ls hP hD hS hl
theorem z_istore_n0 (hZ : ZZ = Zj l y cc nL ret R L0 post xp) {xi : Option Value} {t : List (Option Value)} {z : Int32} (d : decode cc pc = .ok (.istore_n 0, 1)) (hn : 0 < nL) (kk : ZZ k n (pc + 1) (some (.int z) :: t) st L F) : ZZ k n pc (xi :: t) (.int z :: st) L F := by
  subst hZ
  intro p e s m args below meth c D κ hx H locs ls hP hD hS hl
  exact lv_istore_n hx.1 hx.2.1 d rfl (lh_has hl) hn rfl (fun ls' h' => kk p e s m args below meth c D κ hx H locs ls' hP hD hS (lh_st1 (lv := xi :: t) h' (fun j w hj _ => absurd hj (by omega))))
theorem z_istore0 (hZ : ZZ = Zj l y cc nL ret R L0 post xp) {xi : Option Value} {t : List (Option Value)} {z : Int32} (d : decode cc pc = .ok (.istore 0, 2)) (hn : 0 < nL) (kk : ZZ k n (pc + 2) (some (.int z) :: t) st L F) : ZZ k n pc (xi :: t) (.int z :: st) L F := by
  subst hZ
  intro p e s m args below meth c D κ hx H locs ls hP hD hS hl
  exact lv_istore hx.1 hx.2.1 d (lh_has hl) hn rfl (fun ls' h' => kk p e s m args below meth c D κ hx H locs ls' hP hD hS (lh_st1 (lv := xi :: t) h' (fun j w hj _ => absurd hj (by omega))))
theorem z_astore_n0 (hZ : ZZ = Zj l y cc nL ret R L0 post xp) {xi : Option Value} {t : List (Option Value)} {z : Nat} (d : decode cc pc = .ok (.astore_n 0, 1)) (hn : 0 < nL) (kk : ZZ k n (pc + 1) (some (.ref z) :: t) st L F) : ZZ k n pc (xi :: t) (.ref z :: st) L F := by
  subst hZ
  intro p e s m args below meth c D κ hx H locs ls hP hD hS hl
  exact lv_astore_n hx.1 hx.2.1 d rfl (lh_has hl) hn rfl (fun ls' h' => kk p e s m args below meth c D κ hx H locs ls' hP hD hS (lh_st1 (lv := xi :: t) h' (fun j w hj _ => absurd hj (by omega))))
theorem z_astore0 (hZ : ZZ = Zj l y cc nL ret R L0 post xp) {xi : Option Value} {t : List (Option Value)} {z : Nat} (d : decode cc pc = .ok (.astore 0, 2)) (hn : 0 < nL) (kk : ZZ k n (pc + 2) (some (.ref z) :: t) st L F) : ZZ k n pc (xi :: t) (.ref z :: st) L F := by
  subst hZ
  intro p e s m args below meth c D κ hx H locs ls hP hD hS hl
  exact lv_astore hx.1 hx.2.1 d (lh_has hl) hn rfl (fun ls' h' => kk p e s m args below meth c D κ hx H locs ls' hP hD hS (lh_st1 (lv := xi :: t) h' (fun j w hj _ => absurd hj (by omega))))
theorem z_lstore_n0 (hZ : ZZ = Zj l y cc nL ret R L0 post xp) {xi xj : Option Value} {t : List (Option Value)} {z : Int64} (d : decode cc pc = .ok (.lstore_n 0, 1)) (hn : 0 + 1 < nL) (kk : ZZ k n (pc + 1) (some (.long z) :: none :: t) st L F) : ZZ k n pc (xi :: xj :: t) (.long z :: st) L F := by
  subst hZ
  intro p e s m args below meth c D κ hx H locs ls hP hD hS hl
  exact lv_lstore_n hx.1 hx.2.1 d rfl (lh_has hl) hn rfl (fun ls' h' => kk p e s m args below meth c D κ hx H locs ls' hP hD hS (lh_st2 (lv := xi :: xj :: t) h' (fun j w hj _ => absurd hj (by omega))))
theorem z_lstore0 (hZ : ZZ = Zj l y cc nL ret R L0 post xp) {xi xj : Option Value} {t : List (Option Value)} {z : Int64} (d : decode cc pc = .ok (.lstore 0, 2)) (hn : 0 + 1 < nL) (kk : ZZ k n (pc + 2) (some (.long z) :: none :: t) st L F) : ZZ k n pc (xi :: xj :: t) (.long z :: st) L F := by
  subst hZ
  intro p e s m args below meth c D κ hx H locs ls hP hD hS hl
  exact lv_lstore hx.1 hx.2.1 d (lh_has hl) hn rfl (fun ls' h' => kk p e s m args below meth c D κ hx H locs ls' hP hD hS (lh_st2 (lv := xi :: xj :: t) h' (fun j w hj _ => absurd hj (by omega))))
theorem z_dstore_n0 (hZ : ZZ = Zj l y cc nL ret R L0 post xp) {xi xj : Option Value} {t : List (Option Value)} {z : UInt64} (d : decode cc pc = .ok (.dstore_n 0, 1)) (hn : 0 + 1 < nL) (kk : ZZ k n (pc + 1) (some (.double z) :: none :: t) st L F) : ZZ k n pc (xi :: xj :: t) (.double z :: st) L F := by
  subst hZ
  intro p e s m args below meth c D κ hx H locs ls hP hD hS hl
  exact lv_dstore_n hx.1 hx.2.1 d rfl (lh_has hl) hn rfl (fun ls' h' => kk p e s m args below meth c D κ hx H locs ls' hP hD hS (lh_st2 (lv := xi :: xj :: t) h' (fun j w hj _ => absurd hj (by omega))))
theorem z_dstore0 (hZ : ZZ = Zj l y cc nL ret R L0 post xp) {xi xj : Option Value} {t : List (Option Value)} {z : UInt64} (d : decode cc pc = .ok (.dstore 0, 2)) (hn : 0 + 1 < nL) (kk : ZZ k n (pc + 2) (some (.double z) :: none :: t) st L F) : ZZ k n pc (xi :: xj :: t) (.double z :: st) L F := by
  subst hZ
  intro p e s m args below meth c D κ hx H locs ls hP hD hS hl
  exact lv_dstore hx.1 hx.2.1 d (lh_has hl) hn rfl (fun ls' h' => kk p e s m args below meth c D κ hx H locs ls' hP hD hS (lh_st2 (lv := xi :: xj :: t) h' (fun j w hj _ => absurd hj (by omega))))
theorem z_iinc0 (hZ : ZZ = Zj l y cc nL ret R L0 post xp) {t : List (Option Value)} {a q : Int} (d : decode cc pc = .ok (.iinc 0 q, 3)) (hn : 0 < nL) (kk : ZZ k n (pc + 3) (some (.int (iI (a + q))) :: t) st L F) : ZZ k n pc (some (.int (iI a)) :: t) st L F := by
  subst hZ
  intro p e s m args below meth c D κ hx H locs ls hP hD hS hl
  obtain ⟨k9, hk9⟩ := List.getElem?_of_mem (lpr_mem.mpr (show (some (Value.int (iI a)) :: t)[0]? = some (some (Value.int (iI a))) from rfl))
  exact lv_iinc hx.1 hx.2.1 d (lh_has hl) hk9 (iI_add a q) hn rfl (fun ls' h' => kk p e s m args below meth c D κ hx H locs ls' hP hD hS (lh_st1 (lv := some (.int (iI a)) :: t) h' (fun j w hj _ => absurd hj (by omega))))
theorem z_iload_n1 (hZ : ZZ = Zj l y cc nL ret R L0 post xp) {x0 : Option Value} {t : List (Option Value)} {z : Int32} (d : decode cc pc = .ok (.iload_n 1, 1)) (kk : ZZ k n (pc + 1) (x0 :: some (.int z) :: t) (.int z :: st) L F) : ZZ k n pc (x0 :: some (.int z) :: t) (st) L F := by
  subst hZ
  intro p e s m args below meth c D κ hx H locs ls hP hD hS hl
  refine lv_iload_n hx.1 hx.2.1 d rfl (hl.2.2 1 _ rfl) ?_
  exact kk p e s m args below meth c D κ hx H locs ls hP hD hS hl
theorem z_iload1 (hZ : ZZ = Zj l y cc nL ret R L0 post xp) {x0 : Option Value} {t : List (Option Value)} {z : Int32} (d : decode cc pc = .ok (.iload 1, 2)) (kk : ZZ k n (pc + 2) (x0 :: some (.int z) :: t) (.int z :: st) L F) : ZZ k n pc (x0 :: some (.int z) :: t) (st) L F := by
  subst hZ
  intro p e s m args below meth c D κ hx H locs ls hP hD hS hl
  refine lv_iload hx.1 hx.2.1 d (hl.2.2 1 _ rfl) ?_
  exact kk p e s m args below meth c D κ hx H locs ls hP hD hS hl
theorem z_aload_n1 (hZ : ZZ = Zj l y cc nL ret R L0 post xp) {x0 : Option Value} {t : List (Option Value)} {z : Nat} (d : decode cc pc = .ok (.aload_n 1, 1)) (kk : ZZ k n (pc + 1) (x0 :: some (.ref z) :: t) (.ref z :: st) L F) : ZZ k n pc (x0 :: some (.ref z) :: t) (st) L F := by
  subst hZ
  intro p e s m args below meth c D κ hx H locs ls hP hD hS hl
  refine lv_aload_n hx.1 hx.2.1 d rfl (hl.2.2 1 _ rfl) ?_
  exact kk p e s m args below meth c D κ hx H locs ls hP hD hS hl
theorem z_aload1 (hZ : ZZ = Zj l y cc nL ret R L0 post xp) {x0 : Option Value} {t : List (Option Value)} {z : Nat} (d : decode cc pc = .ok (.aload 1, 2)) (kk : ZZ k n (pc + 2) (x0 :: some (.ref z) :: t) (.ref z :: st) L F) : ZZ k n pc (x0 :: some (.ref z) :: t) (st) L F := by
  subst hZ
  intro p e s m args below meth c D κ hx H locs ls hP hD hS hl
  refine lv_aload hx.1 hx.2.1 d (hl.2.2 1 _ rfl) ?_
  exact kk p e s m args below meth c D κ hx H locs ls hP hD hS hl
theorem z_lload_n1 (hZ : ZZ = Zj l y cc nL ret R L0 post xp) {x0 : Option Value} {t : List (Option Value)} {z : Int64} (d : decode cc pc = .ok (.lload_n 1, 1)) (kk : ZZ k n (pc + 1) (x0 :: some (.long z) :: t) (.long z :: st) L F) : ZZ k n pc (x0 :: some (.long z) :: t) (st) L F := by
  subst hZ
  intro p e s m args below meth c D κ hx H locs ls hP hD hS hl
  refine lv_lload_n hx.1 hx.2.1 d rfl (hl.2.2 1 _ rfl) ?_
  exact kk p e s m args below meth c D κ hx H locs ls hP hD hS hl
theorem z_lload1 (hZ : ZZ = Zj l y cc nL ret R L0 post xp) {x0 : Option Value} {t : List (Option Value)} {z : Int64} (d : decode cc pc = .ok (.lload 1, 2)) (kk : ZZ k n (pc + 2) (x0 :: some (.long z) :: t) (.long z :: st) L F) : ZZ k n pc (x0 :: some (.long z) :: t) (st) L F := by
  subst hZ
  intro p e s m args below meth c D κ hx H locs ls hP hD hS hl
  refine lv_lload hx.1 hx.2.1 d (hl.2.2 1 _ rfl) ?_
  exact kk p e s m args below meth c D κ hx H locs ls hP hD hS hl
theorem z_dload_n1 (hZ : ZZ = Zj l y cc nL ret R L0 post xp) {x0 : Option Value} {t : List (Option Value)} {z : UInt64} (d : decode cc pc = .ok (.dload_n 1, 1)) (kk : ZZ k n (pc + 1) (x0 :: some (.double z) :: t) (.double z :: st) L F) : ZZ k n pc (x0 :: some (.double z) :: t) (st) L F := by
  subst hZ
  intro p e s m args below meth c D κ hx H locs ls hP hD hS hl
  refine lv_dload_n hx.1 hx.2.1 d rfl (hl.2.2 1 _ rfl) ?_
  exact kk p e s m args below meth c D κ hx H locs ls hP hD hS hl
theorem z_dload1 (hZ : ZZ = Zj l y cc nL ret R L0 post xp) {x0 : Option Value} {t : List (Option Value)} {z : UInt64} (d : decode cc pc = .ok (.dload 1, 2)) (kk : ZZ k n (pc + 2) (x0 :: some (.double z) :: t) (.double z :: st) L F) : ZZ k n pc (x0 :: some (.double z) :: t) (st) L F := by
  subst hZ
  intro p e s m args below meth c D κ hx H locs ls hP hD hS hl
  refine lv_dload hx.1 hx.2.1 d (hl.2.2 1 _ rfl) ?_
  exact kk p e s m args below meth c D κ hx H locs ls hP hD hS hl
theorem z_istore_n1 (hZ : ZZ = Zj l y cc nL ret R L0 post xp) {x0 : Option Value} {xi : Option Value} {t : List (Option Value)} {z : Int32} (d : decode cc pc = .ok (.istore_n 1, 1)) (hn : 1 < nL) (hc : c1 x0 = true) (kk : ZZ k n (pc + 1) (x0 :: some (.int z) :: t) st L F) : ZZ k n pc (x0 :: xi :: t) (.int z :: st) L F := by
  subst hZ
  intro p e s m args below meth c D κ hx H locs ls hP hD hS hl
  exact lv_istore_n hx.1 hx.2.1 d rfl (lh_has hl) hn rfl (fun ls' h' => kk p e s m args below meth c D κ hx H locs ls' hP hD hS (lh_st1 (lv := x0 :: xi :: t) h' (fun j w hj hw => by obtain rfl : j = 0 := (by omega); have hw := Option.some.inj hw; rw [hw] at hc; have := eq_of_beq (show (w.category == 1) = true from hc); omega)))
theorem z_istore1 (hZ : ZZ = Zj l y cc nL ret R L0 post xp) {x0 : Option Value} {xi : Option Value} {t : List (Option Value)} {z : Int32} (d : decode cc pc = .ok (.istore 1, 2)) (hn : 1 < nL) (hc : c1 x0 = true) (kk : ZZ k n (pc + 2) (x0 :: some (.int z) :: t) st L F) : ZZ k n pc (x0 :: xi :: t) (.int z :: st) L F := by
  subst hZ
  intro p e s m args below meth c D κ hx H locs ls hP hD hS hl
  exact lv_istore hx.1 hx.2.1 d (lh_has hl) hn rfl (fun ls' h' => kk p e s m args below meth c D κ hx H locs ls' hP hD hS (lh_st1 (lv := x0 :: xi :: t) h' (fun j w hj hw => by obtain rfl : j = 0 := (by omega); have hw := Option.some.inj hw; rw [hw] at hc; have := eq_of_beq (show (w.category == 1) = true from hc); omega)))
theorem z_astore_n1 (hZ : ZZ = Zj l y cc nL ret R L0 post xp) {x0 : Option Value} {xi : Option Value} {t : List (Option Value)} {z : Nat} (d : decode cc pc = .ok (.astore_n 1, 1)) (hn : 1 < nL) (hc : c1 x0 = true) (kk : ZZ k n (pc + 1) (x0 :: some (.ref z) :: t) st L F) : ZZ k n pc (x0 :: xi :: t) (.ref z :: st) L F := by
  subst hZ
  intro p e s m args below meth c D κ hx H locs ls hP hD hS hl
  exact lv_astore_n hx.1 hx.2.1 d rfl (lh_has hl) hn rfl (fun ls' h' => kk p e s m args below meth c D κ hx H locs ls' hP hD hS (lh_st1 (lv := x0 :: xi :: t) h' (fun j w hj hw => by obtain rfl : j = 0 := (by omega); have hw := Option.some.inj hw; rw [hw] at hc; have := eq_of_beq (show (w.category == 1) = true from hc); omega)))
theorem z_astore1 (hZ : ZZ = Zj l y cc nL ret R L0 post xp) {x0 : Option Value} {xi : Option Value} {t : List (Option Value)} {z : Nat} (d : decode cc pc = .ok (.astore 1, 2)) (hn : 1 < nL) (hc : c1 x0 = true) (kk : ZZ k n (pc + 2) (x0 :: some (.ref z) :: t) st L F) : ZZ k n pc (x0 :: xi :: t) (.ref z :: st) L F := by
  subst hZ
  intro p e s m args below meth c D κ hx H locs ls hP hD hS hl
  exact lv_astore hx.1 hx.2.1 d (lh_has hl) hn rfl (fun ls' h' => kk p e s m args below meth c D κ hx H locs ls' hP hD hS (lh_st1 (lv := x0 :: xi :: t) h' (fun j w hj hw => by obtain rfl : j = 0 := (by omega); have hw := Option.some.inj hw; rw [hw] at hc; have := eq_of_beq (show (w.category == 1) = true from hc); omega)))
theorem z_lstore_n1 (hZ : ZZ = Zj l y cc nL ret R L0 post xp) {x0 : Option Value} {xi xj : Option Value} {t : List (Option Value)} {z : Int64} (d : decode cc pc = .ok (.lstore_n 1, 1)) (hn : 1 + 1 < nL) (hc : c1 x0 = true) (kk : ZZ k n (pc + 1) (x0 :: some (.long z) :: none :: t) st L F) : ZZ k n pc (x0 :: xi :: xj :: t) (.long z :: st) L F := by
  subst hZ
  intro p e s m args below meth c D κ hx H locs ls hP hD hS hl
  exact lv_lstore_n hx.1 hx.2.1 d rfl (lh_has hl) hn rfl (fun ls' h' => kk p e s m args below meth c D κ hx H locs ls' hP hD hS (lh_st2 (lv := x0 :: xi :: xj :: t) h' (fun j w hj hw => by obtain rfl : j = 0 := (by omega); have hw := Option.some.inj hw; rw [hw] at hc; have := eq_of_beq (show (w.category == 1) = true from hc); omega)))
theorem z_lstore1 (hZ : ZZ = Zj l y cc nL ret R L0 post xp) {x0 : Option Value} {xi xj : Option Value} {t : List (Option Value)} {z : Int64} (d : decode cc pc = .ok (.lstore 1, 2)) (hn : 1 + 1 < nL) (hc : c1 x0 = true) (kk : ZZ k n (pc + 2) (x0 :: some (.long z) :: none :: t) st L F) : ZZ k n pc (x0 :: xi :: xj :: t) (.long z :: st) L F := by
  subst hZ
  intro p e s m args below meth c D κ hx H locs ls hP hD hS hl
  exact lv_lstore hx.1 hx.2.1 d (lh_has hl) hn rfl (fun ls' h' => kk p e s m args below meth c D κ hx H locs ls' hP hD hS (lh_st2 (lv := x0 :: xi :: xj :: t) h' (fun j w hj hw => by obtain rfl : j = 0 := (by omega); have hw := Option.some.inj hw; rw [hw] at hc; have := eq_of_beq (show (w.category == 1) = true from hc); omega)))
theorem z_dstore_n1 (hZ : ZZ = Zj l y cc nL ret R L0 post xp) {x0 : Option Value} {xi xj : Option Value} {t : List (Option Value)} {z : UInt64} (d : decode cc pc = .ok (.dstore_n 1, 1)) (hn : 1 + 1 < nL) (hc : c1 x0 = true) (kk : ZZ k n (pc + 1) (x0 :: some (.double z) :: none :: t) st L F) : ZZ k n pc (x0 :: xi :: xj :: t) (.double z :: st) L F := by
  subst hZ
  intro p e s m args below meth c D κ hx H locs ls hP hD hS hl
  exact lv_dstore_n hx.1 hx.2.1 d rfl (lh_has hl) hn rfl (fun ls' h' => kk p e s m args below meth c D κ hx H locs ls' hP hD hS (lh_st2 (lv := x0 :: xi :: xj :: t) h' (fun j w hj hw => by obtain rfl : j = 0 := (by omega); have hw := Option.some.inj hw; rw [hw] at hc; have := eq_of_beq (show (w.category == 1) = true from hc); omega)))
theorem z_dstore1 (hZ : ZZ = Zj l y cc nL ret R L0 post xp) {x0 : Option Value} {xi xj : Option Value} {t : List (Option Value)} {z : UInt64} (d : decode cc pc = .ok (.dstore 1, 2)) (hn : 1 + 1 < nL) (hc : c1 x0 = true) (kk : ZZ k n (pc + 2) (x0 :: some (.double z) :: none :: t) st L F) : ZZ k n pc (x0 :: xi :: xj :: t) (.double z :: st) L F := by
  subst hZ
  intro p e s m args below meth c D κ hx H locs ls hP hD hS hl
  exact lv_dstore hx.1 hx.2.1 d (lh_has hl) hn rfl (fun ls' h' => kk p e s m args below meth c D κ hx H locs ls' hP hD hS (lh_st2 (lv := x0 :: xi :: xj :: t) h' (fun j w hj hw => by obtain rfl : j = 0 := (by omega); have hw := Option.some.inj hw; rw [hw] at hc; have := eq_of_beq (show (w.category == 1) = true from hc); omega)))
theorem z_iinc1 (hZ : ZZ = Zj l y cc nL ret R L0 post xp) {x0 : Option Value} {t : List (Option Value)} {a q : Int} (d : decode cc pc = .ok (.iinc 1 q, 3)) (hn : 1 < nL) (hc : c1 x0 = true) (kk : ZZ k n (pc + 3) (x0 :: some (.int (iI (a + q))) :: t) st L F) : ZZ k n pc (x0 :: some (.int (iI a)) :: t) st L F := by
  subst hZ
  intro p e s m args below meth c D κ hx H locs ls hP hD hS hl
  obtain ⟨k9, hk9⟩ := List.getElem?_of_mem (lpr_mem.mpr (show (x0 :: some (Value.int (iI a)) :: t)[1]? = some (some (Value.int (iI a))) from rfl))
  exact lv_iinc hx.1 hx.2.1 d (lh_has hl) hk9 (iI_add a q) hn rfl (fun ls' h' => kk p e s m args below meth c D κ hx H locs ls' hP hD hS (lh_st1 (lv := x0 :: some (.int (iI a)) :: t) h' (fun j w hj hw => by obtain rfl : j = 0 := (by omega); have hw := Option.some.inj hw; rw [hw] at hc; have := eq_of_beq (show (w.category == 1) = true from hc); omega)))
theorem z_iload_n2 (hZ : ZZ = Zj l y cc nL ret R L0 post xp) {x0 x1 : Option Value} {t : List (Option Value)} {z : Int32} (d : decode cc pc = .ok (.iload_n 2, 1)) (kk : ZZ k n (pc + 1) (x0 :: x1 :: some (.int z) :: t) (.int z :: st) L F) : ZZ k n pc (x0 :: x1 :: some (.int z) :: t) (st) L F := by
  subst hZ
  intro p e s m args below meth c D κ hx H locs ls hP hD hS hl
  refine lv_iload_n hx.1 hx.2.1 d rfl (hl.2.2 2 _ rfl) ?_
  exact kk p e s m args below meth c D κ hx H locs ls hP hD hS hl
theorem z_iload2 (hZ : ZZ = Zj l y cc nL ret R L0 post xp) {x0 x1 : Option Value} {t : List (Option Value)} {z : Int32} (d : decode cc pc = .ok (.iload 2, 2)) (kk : ZZ k n (pc + 2) (x0 :: x1 :: some (.int z) :: t) (.int z :: st) L F) : ZZ k n pc (x0 :: x1 :: some (.int z) :: t) (st) L F := by
  subst hZ
  intro p e s m args below meth c D κ hx H locs ls hP hD hS hl
  refine lv_iload hx.1 hx.2.1 d (hl.2.2 2 _ rfl) ?_
  exact kk p e s m args below meth c D κ hx H locs ls hP hD hS hl
theorem z_aload_n2 (hZ : ZZ = Zj l y cc nL ret R L0 post xp) {x0 x1 : Option Value} {t : List (Option Value)} {z : Nat} (d : decode cc pc = .ok (.aload_n 2, 1)) (kk : ZZ k n (pc + 1) (x0 :: x1 :: some (.ref z) :: t) (.ref z :: st) L F) : ZZ k n pc (x0 :: x1 :: some (.ref z) :: t) (st) L F := by
  subst hZ
  intro p e s m args below meth c D κ hx H locs ls hP hD hS hl
  refine lv_aload_n hx.1 hx.2.1 d rfl (hl.2.2 2 _ rfl) ?_
  exact kk p e s m args below meth c D κ hx H locs ls hP hD hS hl
theorem z_aload2 (hZ : ZZ = Zj l y cc nL ret R L0 post xp) {x0 x1 : Option Value} {t : List (Option Value)} {z : Nat} (d : decode cc pc = .ok (.aload 2, 2)) (kk : ZZ k n (pc + 2) (x0 :: x1 :: some (.ref z) :: t) (.ref z :: st) L F) : ZZ k n pc (x0 :: x1 :: some (.ref z) :: t) (st) L F := by
  subst hZ
  intro p e s m args below meth c D κ hx H locs ls hP hD hS hl
  refine lv_aload hx.1 hx.2.1 d (hl.2.2 2 _ rfl) ?_
  exact kk p e s m args below meth c D κ hx H locs ls hP hD hS hl
theorem z_lload_n2 (hZ : ZZ = Zj l y cc nL ret R L0 post xp) {x0 x1 : Option Value} {t : List (Option Value)} {z : Int64} (d : decode cc pc = .ok (.lload_n 2, 1)) (kk : ZZ k n (pc + 1) (x0 :: x1 :: some (.long z) :: t) (.long z :: st) L F) : ZZ k n pc (x0 :: x1 :: some (.long z) :: t) (st) L F := by
  subst hZ
  intro p e s m args below meth c D κ hx H locs ls hP hD hS hl
  refine lv_lload_n hx.1 hx.2.1 d rfl (hl.2.2 2 _ rfl) ?_
  exact kk p e s m args below meth c D κ hx H locs ls hP hD hS hl
theorem z_lload2 (hZ : ZZ = Zj l y cc nL ret R L0 post xp) {x0 x1 : Option Value} {t : List (Option Value)} {z : Int64} (d : decode cc pc = .ok (.lload 2, 2)) (kk : ZZ k n (pc + 2) (x0 :: x1 :: some (.long z) :: t) (.long z :: st) L F) : ZZ k n pc (x0 :: x1 :: some (.long z) :: t) (st) L F := by
  subst hZ
  intro p e s m args below meth c D κ hx H locs ls hP hD hS hl
  refine lv_lload hx.1 hx.2.1 d (hl.2.2 2 _ rfl) ?_
  exact kk p e s m args below meth c D κ hx H locs ls hP hD hS hl
theorem z_dload_n2 (hZ : ZZ = Zj l y cc nL ret R L0 post xp) {x0 x1 : Option Value} {t : List (Option Value)} {z : UInt64} (d : decode cc pc = .ok (.dload_n 2, 1)) (kk : ZZ k n (pc + 1) (x0 :: x1 :: some (.double z) :: t) (.double z :: st) L F) : ZZ k n pc (x0 :: x1 :: some (.double z) :: t) (st) L F := by
  subst hZ
  intro p e s m args below meth c D κ hx H locs ls hP hD hS hl
  refine lv_dload_n hx.1 hx.2.1 d rfl (hl.2.2 2 _ rfl) ?_
  exact kk p e s m args below meth c D κ hx H locs ls hP hD hS hl
theorem z_dload2 (hZ : ZZ = Zj l y cc nL ret R L0 post xp) {x0 x1 : Option Value} {t : List (Option Value)} {z : UInt64} (d : decode cc pc = .ok (.dload 2, 2)) (kk : ZZ k n (pc + 2) (x0 :: x1 :: some (.double z) :: t) (.double z :: st) L F) : ZZ k n pc (x0 :: x1 :: some (.double z) :: t) (st) L F := by
  subst hZ
  intro p e s m args below meth c D κ hx H locs ls hP hD hS hl
  refine lv_dload hx.1 hx.2.1 d (hl.2.2 2 _ rfl) ?_
  exact kk p e s m args below meth c D κ hx H locs ls hP hD hS hl
theorem z_istore_n2 (hZ : ZZ = Zj l y cc nL ret R L0 post xp) {x0 x1 : Option Value} {xi : Option Value} {t : List (Option Value)} {z : Int32} (d : decode cc pc = .ok (.istore_n 2, 1)) (hn : 2 < nL) (hc : c1 x1 = true) (kk : ZZ k n (pc + 1) (x0 :: x1 :: some (.int z) :: t) st L F) : ZZ k n pc (x0 :: x1 :: xi :: t) (.int z :: st) L F := by
  subst hZ
  intro p e s m args below meth c D κ hx H locs ls hP hD hS hl
  exact lv_istore_n hx.1 hx.2.1 d rfl (lh_has hl) hn rfl (fun ls' h' => kk p e s m args below meth c D κ hx H locs ls' hP hD hS (lh_st1 (lv := x0 :: x1 :: xi :: t) h' (fun j w hj hw => by obtain rfl : j = 1 := (by omega); have hw := Option.some.inj hw; rw [hw] at hc; have := eq_of_beq (show (w.category == 1) = true from hc); omega)))
theorem z_istore2 (hZ : ZZ = Zj l y cc nL ret R L0 post xp) {x0 x1 : Option Value} {xi : Option Value} {t : List (Option Value)} {z : Int32} (d : decode cc pc = .ok (.istore 2, 2)) (hn : 2 < nL) (hc : c1 x1 = true) (kk : ZZ k n (pc + 2) (x0 :: x1 :: some (.int z) :: t) st L F) : ZZ k n pc (x0 :: x1 :: xi :: t) (.int z :: st) L F := by
  subst hZ
  intro p e s m args below meth c D κ hx H locs ls hP hD hS hl
  exact lv_istore hx.1 hx.2.1 d (lh_has hl) hn rfl (fun ls' h' => kk p e s m args below meth c D κ hx H locs ls' hP hD hS (lh_st1 (lv := x0 :: x1 :: xi :: t) h' (fun j w hj hw => by obtain rfl : j = 1 := (by omega); have hw := Option.some.inj hw; rw [hw] at hc; have := eq_of_beq (show (w.category == 1) = true from hc); omega)))
theorem z_astore_n2 (hZ : ZZ = Zj l y cc nL ret R L0 post xp) {x0 x1 : Option Value} {xi : Option Value} {t : List (Option Value)} {z : Nat} (d : decode cc pc = .ok (.astore_n 2, 1)) (hn : 2 < nL) (hc : c1 x1 = true) (kk : ZZ k n (pc + 1) (x0 :: x1 :: some (.ref z) :: t) st L F) : ZZ k n pc (x0 :: x1 :: xi :: t) (.ref z :: st) L F := by
  subst hZ
  intro p e s m args below meth c D κ hx H locs ls hP hD hS hl
  exact lv_astore_n hx.1 hx.2.1 d rfl (lh_has hl) hn rfl (fun ls' h' => kk p e s m args below meth c D κ hx H locs ls' hP hD hS (lh_st1 (lv := x0 :: x1 :: xi :: t) h' (fun j w hj hw => by obtain rfl : j = 1 := (by omega); have hw := Option.some.inj hw; rw [hw] at hc; have := eq_of_beq (show (w.category == 1) = true from hc); omega)))
theorem z_astore2 (hZ : ZZ = Zj l y cc nL ret R L0 post xp) {x0 x1 : Option Value} {xi : Option Value} {t : List (Option Value)} {z : Nat} (d : decode cc pc = .ok (.astore 2, 2)) (hn : 2 < nL) (hc : c1 x1 = true) (kk : ZZ k n (pc + 2) (x0 :: x1 :: some (.ref z) :: t) st L F) : ZZ k n pc (x0 :: x1 :: xi :: t) (.ref z :: st) L F := by
  subst hZ
  intro p e s m args below meth c D κ hx H locs ls hP hD hS hl
  exact lv_astore hx.1 hx.2.1 d (lh_has hl) hn rfl (fun ls' h' => kk p e s m args below meth c D κ hx H locs ls' hP hD hS (lh_st1 (lv := x0 :: x1 :: xi :: t) h' (fun j w hj hw => by obtain rfl : j = 1 := (by omega); have hw := Option.some.inj hw; rw [hw] at hc; have := eq_of_beq (show (w.category == 1) = true from hc); omega)))
theorem z_lstore_n2 (hZ : ZZ = Zj l y cc nL ret R L0 post xp) {x0 x1 : Option Value} {xi xj : Option Value} {t : List (Option Value)} {z : Int64} (d : decode cc pc = .ok (.lstore_n 2, 1)) (hn : 2 + 1 < nL) (hc : c1 x1 = true) (kk : ZZ k n (pc + 1) (x0 :: x1 :: some (.long z) :: none :: t) st L F) : ZZ k n pc (x0 :: x1 :: xi :: xj :: t) (.long z :: st) L F := by
  subst hZ
  intro p e s m args below meth c D κ hx H locs ls hP hD hS hl
  exact lv_lstore_n hx.1 hx.2.1 d rfl (lh_has hl) hn rfl (fun ls' h' => kk p e s m args below meth c D κ hx H locs ls' hP hD hS (lh_st2 (lv := x0 :: x1 :: xi :: xj :: t) h' (fun j w hj hw => by obtain rfl : j = 1 := (by omega); have hw := Option.some.inj hw; rw [hw] at hc; have := eq_of_beq (show (w.category == 1) = true from hc); omega)))
theorem z_lstore2 (hZ : ZZ = Zj l y cc nL ret R L0 post xp) {x0 x1 : Option Value} {xi xj : Option Value} {t : List (Option Value)} {z : Int64} (d : decode cc pc = .ok (.lstore 2, 2)) (hn : 2 + 1 < nL) (hc : c1 x1 = true) (kk : ZZ k n (pc + 2) (x0 :: x1 :: some (.long z) :: none :: t) st L F) : ZZ k n pc (x0 :: x1 :: xi :: xj :: t) (.long z :: st) L F := by
  subst hZ
  intro p e s m args below meth c D κ hx H locs ls hP hD hS hl
  exact lv_lstore hx.1 hx.2.1 d (lh_has hl) hn rfl (fun ls' h' => kk p e s m args below meth c D κ hx H locs ls' hP hD hS (lh_st2 (lv := x0 :: x1 :: xi :: xj :: t) h' (fun j w hj hw => by obtain rfl : j = 1 := (by omega); have hw := Option.some.inj hw; rw [hw] at hc; have := eq_of_beq (show (w.category == 1) = true from hc); omega)))
theorem z_dstore_n2 (hZ : ZZ = Zj l y cc nL ret R L0 post xp) {x0 x1 : Option Value} {xi xj : Option Value} {t : List (Option Value)} {z : UInt64} (d : decode cc pc = .ok (.dstore_n 2, 1)) (hn : 2 + 1 < nL) (hc : c1 x1 = true) (kk : ZZ k n (pc + 1) (x0 :: x1 :: some (.double z) :: none :: t) st L F) : ZZ k n pc (x0 :: x1 :: xi :: xj :: t) (.double z :: st) L F := by
  subst hZ
  intro p e s m args below meth c D κ hx H locs ls hP hD hS hl
  exact lv_dstore_n hx.1 hx.2.1 d rfl (lh_has hl) hn rfl (fun ls' h' => kk p e s m args below meth c D κ hx H locs ls' hP hD hS (lh_st2 (lv := x0 :: x1 :: xi :: xj :: t) h' (fun j w hj hw => by obtain rfl : j = 1 := (by omega); have hw := Option.some.inj hw; rw [hw] at hc; have := eq_of_beq (show (w.category == 1) = true from hc); omega)))
theorem z_dstore2 (hZ : ZZ = Zj l y cc nL ret R L0 post xp) {x0 x1 : Option Value} {xi xj : Option Value} {t : List (Option Value)} {z : UInt64} (d : decode cc pc = .ok (.dstore 2, 2)) (hn : 2 + 1 < nL) (hc : c1 x1 = true) (kk : ZZ k n (pc + 2) (x0 :: x1 :: some (.double z) :: none :: t) st L F) : ZZ k n pc (x0 :: x1 :: xi :: xj :: t) (.double z :: st) L F := by
  subst hZ
  intro p e s m args below meth c D κ hx H locs ls hP hD hS hl
  exact lv_dstore hx.1 hx.2.1 d (lh_has hl) hn rfl (fun ls' h' => kk p e s m args below meth c D κ hx H locs ls' hP hD hS (lh_st2 (lv := x0 :: x1 :: xi :: xj :: t) h' (fun j w hj hw => by obtain rfl : j = 1 := (by omega); have hw := Option.some.inj hw; rw [hw] at hc; have := eq_of_beq (show (w.category == 1) = true from hc); omega)))
theorem z_iinc2 (hZ : ZZ = Zj l y cc nL ret R L0 post xp) {x0 x1 : Option Value} {t : List (Option Value)} {a q : Int} (d : decode cc pc = .ok (.iinc 2 q, 3)) (hn : 2 < nL) (hc : c1 x1 = true) (kk : ZZ k n (pc + 3) (x0 :: x1 :: some (.int (iI (a + q))) :: t) st L F) : ZZ k n pc (x0 :: x1 :: some (.int (iI a)) :: t) st L F := by
  subst hZ
  intro p e s m args below meth c D κ hx H locs ls hP hD hS hl
  obtain ⟨k9, hk9⟩ := List.getElem?_of_mem (lpr_mem.mpr (show (x0 :: x1 :: some (Value.int (iI a)) :: t)[2]? = some (some (Value.int (iI a))) from rfl))
  exact lv_iinc hx.1 hx.2.1 d (lh_has hl) hk9 (iI_add a q) hn rfl (fun ls' h' => kk p e s m args below meth c D κ hx H locs ls' hP hD hS (lh_st1 (lv := x0 :: x1 :: some (.int (iI a)) :: t) h' (fun j w hj hw => by obtain rfl : j = 1 := (by omega); have hw := Option.some.inj hw; rw [hw] at hc; have := eq_of_beq (show (w.category == 1) = true from hc); omega)))
theorem z_iload_n3 (hZ : ZZ = Zj l y cc nL ret R L0 post xp) {x0 x1 x2 : Option Value} {t : List (Option Value)} {z : Int32} (d : decode cc pc = .ok (.iload_n 3, 1)) (kk : ZZ k n (pc + 1) (x0 :: x1 :: x2 :: some (.int z) :: t) (.int z :: st) L F) : ZZ k n pc (x0 :: x1 :: x2 :: some (.int z) :: t) (st) L F := by
  subst hZ
  intro p e s m args below meth c D κ hx H locs ls hP hD hS hl
  refine lv_iload_n hx.1 hx.2.1 d rfl (hl.2.2 3 _ rfl) ?_
  exact kk p e s m args below meth c D κ hx H locs ls hP hD hS hl
theorem z_iload3 (hZ : ZZ = Zj l y cc nL ret R L0 post xp) {x0 x1 x2 : Option Value} {t : List (Option Value)} {z : Int32} (d : decode cc pc = .ok (.iload 3, 2)) (kk : ZZ k n (pc + 2) (x0 :: x1 :: x2 :: some (.int z) :: t) (.int z :: st) L F) : ZZ k n pc (x0 :: x1 :: x2 :: some (.int z) :: t) (st) L F := by
  subst hZ
  intro p e s m args below meth c D κ hx H locs ls hP hD hS hl
  refine lv_iload hx.1 hx.2.1 d (hl.2.2 3 _ rfl) ?_
  exact kk p e s m args below meth c D κ hx H locs ls hP hD hS hl
theorem z_aload_n3 (hZ : ZZ = Zj l y cc nL ret R L0 post xp) {x0 x1 x2 : Option Value} {t : List (Option Value)} {z : Nat} (d : decode cc pc = .ok (.aload_n 3, 1)) (kk : ZZ k n (pc + 1) (x0 :: x1 :: x2 :: some (.ref z) :: t) (.ref z :: st) L F) : ZZ k n pc (x0 :: x1 :: x2 :: some (.ref z) :: t) (st) L F := by
  subst hZ
  intro p e s m args below meth c D κ hx H locs ls hP hD hS hl
  refine lv_aload_n hx.1 hx.2.1 d rfl (hl.2.2 3 _ rfl) ?_
  exact kk p e s m args below meth c D κ hx H locs ls hP hD hS hl
theorem z_aload3 (hZ : ZZ = Zj l y cc nL ret R L0 post xp) {x0 x1 x2 : Option Value} {t : List (Option Value)} {z : Nat} (d : decode cc pc = .ok (.aload 3, 2)) (kk : ZZ k n (pc + 2) (x0 :: x1 :: x2 :: some (.ref z) :: t) (.ref z :: st) L F) : ZZ k n pc (x0 :: x1 :: x2 :: some (.ref z) :: t) (st) L F := by
  subst hZ
  intro p e s m args below meth c D κ hx H locs ls hP hD hS hl
  refine lv_aload hx.1 hx.2.1 d (hl.2.2 3 _ rfl) ?_
  exact kk p e s m args below meth c D κ hx H locs ls hP hD hS hl
theorem z_lload_n3 (hZ : ZZ = Zj l y cc nL ret R L0 post xp) {x0 x1 x2 : Option Value} {t : List (Option Value)} {z : Int64} (d : decode cc pc = .ok (.lload_n 3, 1)) (kk : ZZ k n (pc + 1) (x0 :: x1 :: x2 :: some (.long z) :: t) (.long z :: st) L F) : ZZ k n pc (x0 :: x1 :: x2 :: some (.long z) :: t) (st) L F := by
  subst hZ
  intro p e s m args below meth c D κ hx H locs ls hP hD hS hl
  refine lv_lload_n hx.1 hx.2.1 d rfl (hl.2.2 3 _ rfl) ?_
  exact kk p e s m args below meth c D κ hx H locs ls hP hD hS hl
theorem z_lload3 (hZ : ZZ = Zj l y cc nL ret R L0 post xp) {x0 x1 x2 : Option Value} {t : List (Option Value)} {z : Int64} (d : decode cc pc = .ok (.lload 3, 2)) (kk : ZZ k n (pc + 2) (x0 :: x1 :: x2 :: some (.long z) :: t) (.long z :: st) L F) : ZZ k n pc (x0 :: x1 :: x2 :: some (.long z) :: t) (st) L F := by
  subst hZ
  intro p e s m args below meth c D κ hx H locs ls hP hD hS hl
  refine lv_lload hx.1 hx.2.1 d (hl.2.2 3 _ rfl) ?_
  exact kk p e s m args below meth c D κ hx H locs ls hP hD hS hl
theorem z_dload_n3 (hZ : ZZ = Zj l y cc nL ret R L0 post xp) {x0 x1 x2 : Option Value} {t : List (Option Value)} {z : UInt64} (d : decode cc pc = .ok (.dload_n 3, 1)) (kk : ZZ k n (pc + 1) (x0 :: x1 :: x2 :: some (.double z) :: t) (.double z :: st) L F) : ZZ k n pc (x0 :: x1 :: x2 :: some (.double z) :: t) (st) L F := by
  subst hZ
  intro p e s m args below meth c D κ hx H locs ls hP hD hS hl
  refine lv_dload_n hx.1 hx.2.1 d rfl (hl.2.2 3 _ rfl) ?_
  exact kk p e s m args below meth c D κ hx H locs ls hP hD hS hl
theorem z_dload3 (hZ : ZZ = Zj l y cc nL ret R L0 post xp) {x0 x1 x2 : Option Value} {t : List (Option Value)} {z : UInt64} (d : decode cc pc = .ok (.dload 3, 2)) (kk : ZZ k n (pc + 2) (x0 :: x1 :: x2 :: some (.double z) :: t) (.double z :: st) L F) : ZZ k n pc (x0 :: x1 :: x2 :: some (.double z) :: t) (st) L F := by
  subst hZ
  intro p e s m args below meth c D κ hx H locs ls hP hD hS hl
  refine lv_dload hx.1 hx.2.1 d (hl.2.2 3 _ rfl) ?_
  exact kk p e s m args below meth c D κ hx H locs ls hP hD hS hl
theorem z_istore_n3 (hZ : ZZ = Zj l y cc nL ret R L0 post xp) {x0 x1 x2 : Option Value} {xi : Option Value} {t : List (Option Value)} {z : Int32} (d : decode cc pc = .ok (.istore_n 3, 1)) (hn : 3 < nL) (hc : c1 x2 = true) (kk : ZZ k n (pc + 1) (x0 :: x1 :: x2 :: some (.int z) :: t) st L F) : ZZ k n pc (x0 :: x1 :: x2 :: xi :: t) (.int z :: st) L F := by
  subst hZ
  intro p e s m args below meth c D κ hx H locs ls hP hD hS hl
  exact lv_istore_n hx.1 hx.2.1 d rfl (lh_has hl) hn rfl (fun ls' h' => kk p e s m args below meth c D κ hx H locs ls' hP hD hS (lh_st1 (lv := x0 :: x1 :: x2 :: xi :: t) h' (fun j w hj hw => by obtain rfl : j = 2 := (by omega); have hw := Option.some.inj hw; rw [hw] at hc; have := eq_of_beq (show (w.category == 1) = true from hc); omega)))
theorem z_istore3 (hZ : ZZ = Zj l y cc nL ret R L0 post xp) {x0 x1 x2 : Option Value} {xi : Option Value} {t : List (Option Value)} {z : Int32} (d : decode cc pc = .ok (.istore 3, 2)) (hn : 3 < nL) (hc : c1 x2 = true) (kk : ZZ k n (pc + 2) (x0 :: x1 :: x2 :: some (.int z) :: t) st L F) : ZZ k n pc (x0 :: x1 :: x2 :: xi :: t) (.int z :: st) L F := by
  subst hZ
  intro p e s m args below meth c D κ hx H locs ls hP hD hS hl
  exact lv_istore hx.1 hx.2.1 d (lh_has hl) hn rfl (fun ls' h' => kk p e s m args below meth c D κ hx H locs ls' hP hD hS (lh_st1 (lv := x0 :: x1 :: x2 :: xi :: t) h' (fun j w hj hw => by obtain rfl : j = 2 := (by omega); have hw := Option.some.inj hw; rw [hw] at hc; have := eq_of_beq (show (w.category == 1) = true from hc); omega)))
theorem z_astore_n3 (hZ : ZZ = Zj l y cc nL ret R L0 post xp) {x0 x1 x2 : Option Value} {xi : Option Value} {t : List (Option Value)} {z : Nat} (d : decode cc pc = .ok (.astore_n 3, 1)) (hn : 3 < nL) (hc : c1 x2 = true) (kk : ZZ k n (pc + 1) (x0 :: x1 :: x2 :: some (.ref z) :: t) st L F) : ZZ k n pc (x0 :: x1 :: x2 :: xi :: t) (.ref z :: st) L F := by
  subst hZ
  intro p e s m args below meth c D κ hx H locs ls hP hD hS hl
  exact lv_astore_n hx.1 hx.2.1 d rfl (lh_has hl) hn rfl (fun ls' h' => kk p e s m args below meth c D κ hx H locs ls' hP hD hS (lh_st1 (lv := x0 :: x1 :: x2 :: xi :: t) h' (fun j w hj hw => by obtain rfl : j = 2 := (by omega); have hw := Option.some.inj hw; rw [hw] at hc; have := eq_of_beq (show (w.category == 1) = true from hc); omega)))
theorem z_astore3 (hZ : ZZ = Zj l y cc nL ret R L0 post xp) {x0 x1 x2 : Option Value} {xi : Option Value} {t : List (Option Value)} {z : Nat} (d : decode cc pc = .ok (.astore 3, 2)) (hn : 3 < nL) (hc : c1 x2 = true) (kk : ZZ k n (pc + 2) (x0 :: x1 :: x2 :: some (.ref z) :: t) st L F) : ZZ k n pc (x0 :: x1 :: x2 :: xi :: t) (.ref z :: st) L F := by
  subst hZ
  intro p e s m args below meth c D κ hx H locs ls hP hD hS hl
  exact lv_astore hx.1 hx.2.1 d (lh_has hl) hn rfl (fun ls' h' => kk p e s m args below meth c D κ hx H locs ls' hP hD hS (lh_st1 (lv := x0 :: x1 :: x2 :: xi :: t) h' (fun j w hj hw => by obtain rfl : j = 2 := (by omega); have hw := Option.some.inj hw; rw [hw] at hc; have := eq_of_beq (show (w.category == 1) = true from hc); omega)))
theorem z_lstore_n3 (hZ : ZZ = Zj l y cc nL ret R L0 post xp) {x0 x1 x2 : Option Value} {xi xj : Option Value} {t : List (Option Value)} {z : Int64} (d : decode cc pc = .ok (.lstore_n 3, 1)) (hn : 3 + 1 < nL) (hc : c1 x2 = true) (kk : ZZ k n (pc + 1) (x0 :: x1 :: x2 :: some (.long z) :: none :: t) st L F) : ZZ k n pc (x0 :: x1 :: x2 :: xi :: xj :: t) (.long z :: st) L F := by
  subst hZ
  intro p e s m args below meth c D κ hx H locs ls hP hD hS hl
  exact lv_lstore_n hx.1 hx.2.1 d rfl (lh_has hl) hn rfl (fun ls' h' => kk p e s m args below meth c D κ hx H locs ls' hP hD hS (lh_st2 (lv := x0 :: x1 :: x2 :: xi :: xj :: t) h' (fun j w hj hw => by obtain rfl : j = 2 := (by omega); have hw := Option.some.inj hw; rw [hw] at hc; have := eq_of_beq (show (w.category == 1) = true from hc); omega)))
theorem z_lstore3 (hZ : ZZ = Zj l y cc nL ret R L0 post xp) {x0 x1 x2 : Option Value} {xi xj : Option Value} {t : List (Option Value)} {z : Int64} (d : decode cc pc = .ok (.lstore 3, 2)) (hn : 3 + 1 < nL) (hc : c1 x2 = true) (kk : ZZ k n (pc + 2) (x0 :: x1 :: x2 :: some (.long z) :: none :: t) st L F) : ZZ k n pc (x0 :: x1 :: x2 :: xi :: xj :: t) (.long z :: st) L F := by
  subst hZ
  intro p e s m args below meth c D κ hx H locs ls hP hD hS hl
  exact lv_lstore hx.1 hx.2.1 d (lh_has hl) hn rfl (fun ls' h' => kk p e s m args below meth c D κ hx H locs ls' hP hD hS (lh_st2 (lv := x0 :: x1 :: x2 :: xi :: xj :: t) h' (fun j w hj hw => by obtain rfl : j = 2 := (by omega); have hw := Option.some.inj hw; rw [hw] at hc; have := eq_of_beq (show (w.category == 1) = true from hc); omega)))
theorem z_dstore_n3 (hZ : ZZ = Zj l y cc nL ret R L0 post xp) {x0 x1 x2 : Option Value} {xi xj : Option Value} {t : List (Option Value)} {z : UInt64} (d : decode cc pc = .ok (.dstore_n 3, 1)) (hn : 3 + 1 < nL) (hc : c1 x2 = true) (kk : ZZ k n (pc + 1) (x0 :: x1 :: x2 :: some (.double z) :: none :: t) st L F) : ZZ k n pc (x0 :: x1 :: x2 :: xi :: xj :: t) (.double z :: st) L F := by
  subst hZ
  intro p e s m args below meth c D κ hx H locs ls hP hD hS hl
  exact lv_dstore_n hx.1 hx.2.1 d rfl (lh_has hl) hn rfl (fun ls' h' => kk p e s m args below meth c D κ hx H locs ls' hP hD hS (lh_st2 (lv := x0 :: x1 :: x2 :: xi :: xj :: t) h' (fun j w hj hw => by obtain rfl : j = 2 := (by omega); have hw := Option.some.inj hw; rw [hw] at hc; have := eq_of_beq (show (w.category == 1) = true from hc); omega)))
theorem z_dstore3 (hZ : ZZ = Zj l y cc nL ret R L0 post xp) {x0 x1 x2 : Option Value} {xi xj : Option Value} {t : List (Option Value)} {z : UInt64} (d : decode cc pc = .ok (.dstore 3, 2)) (hn : 3 + 1 < nL) (hc : c1 x2 = true) (kk : ZZ k n (pc + 2) (x0 :: x1 :: x2 :: some (.double z) :: none :: t) st L F) : ZZ k n pc (x0 :: x1 :: x2 :: xi :: xj :: t) (.double z :: st) L F := by
  subst hZ
  intro p e s m args below meth c D κ hx H locs ls hP hD hS hl
  exact lv_dstore hx.1 hx.2.1 d (lh_has hl) hn rfl (fun ls' h' => kk p e s m args below meth c D κ hx H locs ls' hP hD hS (lh_st2 (lv := x0 :: x1 :: x2 :: xi :: xj :: t) h' (fun j w hj hw => by obtain rfl : j = 2 := (by omega); have hw := Option.some.inj hw; rw [hw] at hc; have := eq_of_beq (show (w.category == 1) = true from hc); omega)))
theorem z_iinc3 (hZ : ZZ = Zj l y cc nL ret R L0 post xp) {x0 x1 x2 : Option Value} {t : List (Option Value)} {a q : Int} (d : decode cc pc = .ok (.iinc 3 q, 3)) (hn : 3 < nL) (hc : c1 x2 = true) (kk : ZZ k n (pc + 3) (x0 :: x1 :: x2 :: some (.int (iI (a + q))) :: t) st L F) : ZZ k n pc (x0 :: x1 :: x2 :: some (.int (iI a)) :: t) st L F := by
  subst hZ
  intro p e s m args below meth c D κ hx H locs ls hP hD hS hl
  obtain ⟨k9, hk9⟩ := List.getElem?_of_mem (lpr_mem.mpr (show (x0 :: x1 :: x2 :: some (Value.int (iI a)) :: t)[3]? = some (some (Value.int (iI a))) from rfl))
  exact lv_iinc hx.1 hx.2.1 d (lh_has hl) hk9 (iI_add a q) hn rfl (fun ls' h' => kk p e s m args below meth c D κ hx H locs ls' hP hD hS (lh_st1 (lv := x0 :: x1 :: x2 :: some (.int (iI a)) :: t) h' (fun j w hj hw => by obtain rfl : j = 2 := (by omega); have hw := Option.some.inj hw; rw [hw] at hc; have := eq_of_beq (show (w.category == 1) = true from hc); omega)))
theorem z_iload4 (hZ : ZZ = Zj l y cc nL ret R L0 post xp) {x0 x1 x2 x3 : Option Value} {t : List (Option Value)} {z : Int32} (d : decode cc pc = .ok (.iload 4, 2)) (kk : ZZ k n (pc + 2) (x0 :: x1 :: x2 :: x3 :: some (.int z) :: t) (.int z :: st) L F) : ZZ k n pc (x0 :: x1 :: x2 :: x3 :: some (.int z) :: t) (st) L F := by
  subst hZ
  intro p e s m args below meth c D κ hx H locs ls hP hD hS hl
  refine lv_iload hx.1 hx.2.1 d (hl.2.2 4 _ rfl) ?_
  exact kk p e s m args below meth c D κ hx H locs ls hP hD hS hl
theorem z_aload4 (hZ : ZZ = Zj l y cc nL ret R L0 post xp) {x0 x1 x2 x3 : Option Value} {t : List (Option Value)} {z : Nat} (d : decode cc pc = .ok (.aload 4, 2)) (kk : ZZ k n (pc + 2) (x0 :: x1 :: x2 :: x3 :: some (.ref z) :: t) (.ref z :: st) L F) : ZZ k n pc (x0 :: x1 :: x2 :: x3 :: some (.ref z) :: t) (st) L F := by
  subst hZ
  intro p e s m args below meth c D κ hx H locs ls hP hD hS hl
  refine lv_aload hx.1 hx.2.1 d (hl.2.2 4 _ rfl) ?_
  exact kk p e s m args below meth c D κ hx H locs ls hP hD hS hl
theorem z_lload4 (hZ : ZZ = Zj l y cc nL ret R L0 post xp) {x0 x1 x2 x3 : Option Value} {t : List (Option Value)} {z : Int64} (d : decode cc pc = .ok (.lload 4, 2)) (kk : ZZ k n (pc + 2) (x0 :: x1 :: x2 :: x3 :: some (.long z) :: t) (.long z :: st) L F) : ZZ k n pc (x0 :: x1 :: x2 :: x3 :: some (.long z) :: t) (st) L F := by
  subst hZ
  intro p e s m args below meth c D κ hx H locs ls hP hD hS hl
  refine lv_lload hx.1 hx.2.1 d (hl.2.2 4 _ rfl) ?_
  exact kk p e s m args below meth c D κ hx H locs ls hP hD hS hl
theorem z_dload4 (hZ : ZZ = Zj l y cc nL ret R L0 post xp) {x0 x1 x2 x3 : Option Value} {t : List (Option Value)} {z : UInt64} (d : decode cc pc = .ok (.dload 4, 2)) (kk : ZZ k n (pc + 2) (x0 :: x1 :: x2 :: x3 :: some (.double z) :: t) (.double z :: st) L F) : ZZ k n pc (x0 :: x1 :: x2 :: x3 :: some (.double z) :: t) (st) L F := by
  subst hZ
  intro p e s m args below meth c D κ hx H locs ls hP hD hS hl
  refine lv_dload hx.1 hx.2.1 d (hl.2.2 4 _ rfl) ?_
  exact kk p e s m args below meth c D κ hx H locs ls hP hD hS hl
theorem z_istore4 (hZ : ZZ = Zj l y cc nL ret R L0 post xp) {x0 x1 x2 x3 : Option Value} {xi : Option Value} {t : List (Option Value)} {z : Int32} (d : decode cc pc = .ok (.istore 4, 2)) (hn : 4 < nL) (hc : c1 x3 = true) (kk : ZZ k n (pc + 2) (x0 :: x1 :: x2 :: x3 :: some (.int z) :: t) st L F) : ZZ k n pc (x0 :: x1 :: x2 :: x3 :: xi :: t) (.int z :: st) L F := by
  subst hZ
  intro p e s m args below meth c D κ hx H locs ls hP hD hS hl
  exact lv_istore hx.1 hx.2.1 d (lh_has hl) hn rfl (fun ls' h' => kk p e s m args below meth c D κ hx H locs ls' hP hD hS (lh_st1 (lv := x0 :: x1 :: x2 :: x3 :: xi :: t) h' (fun j w hj hw => by obtain rfl : j = 3 := (by omega); have hw := Option.some.inj hw; rw [hw] at hc; have := eq_of_beq (show (w.category == 1) = true from hc); omega)))
theorem z_astore4 (hZ : ZZ = Zj l y cc nL ret R L0 post xp) {x0 x1 x2 x3 : Option Value} {xi : Option Value} {t : List (Option Value)} {z : Nat} (d : decode cc pc = .ok (.astore 4, 2)) (hn : 4 < nL) (hc : c1 x3 = true) (kk : ZZ k n (pc + 2) (x0 :: x1 :: x2 :: x3 :: some (.ref z) :: t) st L F) : ZZ k n pc (x0 :: x1 :: x2 :: x3 :: xi :: t) (.ref z :: st) L F := by
  subst hZ
  intro p e s m args below meth c D κ hx H locs ls hP hD hS hl
  exact lv_astore hx.1 hx.2.1 d (lh_has hl) hn rfl (fun ls' h' => kk p e s m args below meth c D κ hx H locs ls' hP hD hS (lh_st1 (lv := x0 :: x1 :: x2 :: x3 :: xi :: t) h' (fun j w hj hw => by obtain rfl : j = 3 := (by omega); have hw := Option.some.inj hw; rw [hw] at hc; have := eq_of_beq (show (w.category == 1) = true from hc); omega)))
theorem z_lstore4 (hZ : ZZ = Zj l y cc nL ret R L0 post xp) {x0 x1 x2 x3 : Option Value} {xi xj : Option Value} {t : List (Option Value)} {z : Int64} (d : decode cc pc = .ok (.lstore 4, 2)) (hn : 4 + 1 < nL) (hc : c1 x3 = true) (kk : ZZ k n (pc + 2) (x0 :: x1 :: x2 :: x3 :: some (.long z) :: none :: t) st L F) : ZZ k n pc (x0 :: x1 :: x2 :: x3 :: xi :: xj :: t) (.long z :: st) L F := by
  subst hZ
  intro p e s m args below meth c D κ hx H locs ls hP hD hS hl
  exact lv_lstore hx.1 hx.2.1 d (lh_has hl) hn rfl (fun ls' h' => kk p e s m args below meth c D κ hx H locs ls' hP hD hS (lh_st2 (lv := x0 :: x1 :: x2 :: x3 :: xi :: xj :: t) h' (fun j w hj hw => by obtain rfl : j = 3 := (by omega); have hw := Option.some.inj hw; rw [hw] at hc; have := eq_of_beq (show (w.category == 1) = true from hc); omega)))
theorem z_dstore4 (hZ : ZZ = Zj l y cc nL ret R L0 post xp) {x0 x1 x2 x3 : Option Value} {xi xj : Option Value} {t : List (Option Value)} {z : UInt64} (d : decode cc pc = .ok (.dstore 4, 2)) (hn : 4 + 1 < nL) (hc : c1 x3 = true) (kk : ZZ k n (pc + 2) (x0 :: x1 :: x2 :: x3 :: some (.double z) :: none :: t) st L F) : ZZ k n pc (x0 :: x1 :: x2 :: x3 :: xi :: xj :: t) (.double z :: st) L F := by
  subst hZ
  intro p e s m args below meth c D κ hx H locs ls hP hD hS hl
  exact lv_dstore hx.1 hx.2.1 d (lh_has hl) hn rfl (fun ls' h' => kk p e s m args below meth c D κ hx H locs ls' hP hD hS (lh_st2 (lv := x0 :: x1 :: x2 :: x3 :: xi :: xj :: t) h' (fun j w hj hw => by obtain rfl : j = 3 := (by omega); have hw := Option.some.inj hw; rw [hw] at hc; have := eq_of_beq (show (w.category == 1) = true from hc); omega)))
theorem z_iinc4 (hZ : ZZ = Zj l y cc nL ret R L0 post xp) {x0 x1 x2 x3 : Option Value} {t : List (Option Value)} {a q : Int} (d : decode cc pc = .ok (.iinc 4 q, 3)) (hn : 4 < nL) (hc : c1 x3 = true) (kk : ZZ k n (pc + 3) (x0 :: x1 :: x2 :: x3 :: some (.int (iI (a + q))) :: t) st L F) : ZZ k n pc (x0 :: x1 :: x2 :: x3 :: some (.int (iI a)) :: t) st L F := by
  subst hZ
  intro p e s m args below meth c D κ hx H locs ls hP hD hS hl
  obtain ⟨k9, hk9⟩ := List.getElem?_of_mem (lpr_mem.mpr (show (x0 :: x1 :: x2 :: x3 :: some (Value.int (iI a)) :: t)[4]? = some (some (Value.int (iI a))) from rfl))
  exact lv_iinc hx.1 hx.2.1 d (lh_has hl) hk9 (iI_add a q) hn rfl (fun ls' h' => kk p e s m args below meth c D κ hx H locs ls' hP hD hS (lh_st1 (lv := x0 :: x1 :: x2 :: x3 :: some (.int (iI a)) :: t) h' (fun j w hj hw => by obtain rfl : j = 3 := (by omega); have hw := Option.some.inj hw; rw [hw] at hc; have := eq_of_beq (show (w.category == 1) = true from hc); omega)))
theorem z_iload5 (hZ : ZZ = Zj l y cc nL ret R L0 post xp) {x0 x1 x2 x3 x4 : Option Value} {t : List (Option Value)} {z : Int32} (d : decode cc pc = .ok (.iload 5, 2)) (kk : ZZ k n (pc + 2) (x0 :: x1 :: x2 :: x3 :: x4 :: some (.int z) :: t) (.int z :: st) L F) : ZZ k n pc (x0 :: x1 :: x2 :: x3 :: x4 :: some (.int z) :: t) (st) L F := by
  subst hZ
  intro p e s m args below meth c D κ hx H locs ls hP hD hS hl
  refine lv_iload hx.1 hx.2.1 d (hl.2.2 5 _ rfl) ?_
  exact kk p e s m args below meth c D κ hx H locs ls hP hD hS hl
theorem z_aload5 (hZ : ZZ = Zj l y cc nL ret R L0 post xp) {x0 x1 x2 x3 x4 : Option Value} {t : List (Option Value)} {z : Nat} (d : decode cc pc = .ok (.aload 5, 2)) (kk : ZZ k n (pc + 2) (x0 :: x1 :: x2 :: x3 :: x4 :: some (.ref z) :: t) (.ref z :: st) L F) : ZZ k n pc (x0 :: x1 :: x2 :: x3 :: x4 :: some (.ref z) :: t) (st) L F := by
  subst hZ
  intro p e s m args below meth c D κ hx H locs ls hP hD hS hl
  refine lv_aload hx.1 hx.2.1 d (hl.2.2 5 _ rfl) ?_
  exact kk p e s m args below meth c D κ hx H locs ls hP hD hS hl
theorem z_lload5 (hZ : ZZ = Zj l y cc nL ret R L0 post xp) {x0 x1 x2 x3 x4 : Option Value} {t : List (Option Value)} {z : Int64} (d : decode cc pc = .ok (.lload 5, 2)) (kk : ZZ k n (pc + 2) (x0 :: x1 :: x2 :: x3 :: x4 :: some (.long z) :: t) (.long z :: st) L F) : ZZ k n pc (x0 :: x1 :: x2 :: x3 :: x4 :: some (.long z) :: t) (st) L F := by
  subst hZ
  intro p e s m args below meth c D κ hx H locs ls hP hD hS hl
  refine lv_lload hx.1 hx.2.1 d (hl.2.2 5 _ rfl) ?_
  exact kk p e s m args below meth c D κ hx H locs ls hP hD hS hl
theorem z_dload5 (hZ : ZZ = Zj l y cc nL ret R L0 post xp) {x0 x1 x2 x3 x4 : Option Value} {t : List (Option Value)} {z : UInt64} (d : decode cc pc = .ok (.dload 5, 2)) (kk : ZZ k n (pc + 2) (x0 :: x1 :: x2 :: x3 :: x4 :: some (.double z) :: t) (.double z :: st) L F) : ZZ k n pc (x0 :: x1 :: x2 :: x3 :: x4 :: some (.double z) :: t) (st) L F := by
  subst hZ
  intro p e s m args below meth c D κ hx H locs ls hP hD hS hl
  refine lv_dload hx.1 hx.2.1 d (hl.2.2 5 _ rfl) ?_
  exact kk p e s m args below meth c D κ hx H locs ls hP hD hS hl
theorem z_istore5 (hZ : ZZ = Zj l y cc nL ret R L0 post xp) {x0 x1 x2 x3 x4 : Option Value} {xi : Option Value} {t : List (Option Value)} {z : Int32} (d : decode cc pc = .ok (.istore 5, 2)) (hn : 5 < nL) (hc : c1 x4 = true) (kk : ZZ k n (pc + 2) (x0 :: x1 :: x2 :: x3 :: x4 :: some (.int z) :: t) st L F) : ZZ k n pc (x0 :: x1 :: x2 :: x3 :: x4 :: xi :: t) (.int z :: st) L F := by
  subst hZ
  intro p e s m args below meth c D κ hx H locs ls hP hD hS hl
  exact lv_istore hx.1 hx.2.1 d (lh_has hl) hn rfl (fun ls' h' => kk p e s m args below meth c D κ hx H locs ls' hP hD hS (lh_st1 (lv := x0 :: x1 :: x2 :: x3 :: x4 :: xi :: t) h' (fun j w hj hw => by obtain rfl : j = 4 := (by omega); have hw := Option.some.inj hw; rw [hw] at hc; have := eq_of_beq (show (w.category == 1) = true from hc); omega)))
theorem z_astore5 (hZ : ZZ = Zj l y cc nL ret R L0 post xp) {x0 x1 x2 x3 x4 : Option Value} {xi : Option Value} {t : List (Option Value)} {z : Nat} (d : decode cc pc = .ok (.astore 5, 2)) (hn : 5 < nL) (hc : c1 x4 = true) (kk : ZZ k n (pc + 2) (x0 :: x1 :: x2 :: x3 :: x4 :: some (.ref z) :: t) st L F) : ZZ k n pc (x0 :: x1 :: x2 :: x3 :: x4 :: xi :: t) (.ref z :: st) L F := by
  subst hZ
  intro p e s m args below meth c D κ hx H locs ls hP hD hS hl
  exact lv_astore hx.1 hx.2.1 d (lh_has hl) hn rfl (fun ls' h' => kk p e s m args below meth c D κ hx H locs ls' hP hD hS (lh_st1 (lv := x0 :: x1 :: x2 :: x3 :: x4 :: xi :: t) h' (fun j w hj hw => by obtain rfl : j = 4 := (by omega); have hw := Option.some.inj hw; rw [hw] at hc; have := eq_of_beq (show (w.category == 1) = true from hc); omega)))
theorem z_lstore5 (hZ : ZZ = Zj l y cc nL ret R L0 post xp) {x0 x1 x2 x3 x4 : Option Value} {xi xj : Option Value} {t : List (Option Value)} {z : Int64} (d : decode cc pc = .ok (.lstore 5, 2)) (hn : 5 + 1 < nL) (hc : c1 x4 = true) (kk : ZZ k n (pc + 2) (x0 :: x1 :: x2 :: x3 :: x4 :: some (.long z) :: none :: t) st L F) : ZZ k n pc (x0 :: x1 :: x2 :: x3 :: x4 :: xi :: xj :: t) (.long z :: st) L F := by
  subst hZ
  intro p e s m args below meth c D κ hx H locs ls hP hD hS hl
  exact lv_lstore hx.1 hx.2.1 d (lh_has hl) hn rfl (fun ls' h' => kk p e s m args below meth c D κ hx H locs ls' hP hD hS (lh_st2 (lv := x0 :: x1 :: x2 :: x3 :: x4 :: xi :: xj :: t) h' (fun j w hj hw => by obtain rfl : j = 4 := (by omega); have hw := Option.some.inj hw; rw [hw] at hc; have := eq_of_beq (show (w.category == 1) = true from hc); omega)))
theorem z_dstore5 (hZ : ZZ = Zj l y cc nL ret R L0 post xp) {x0 x1 x2 x3 x4 : Option Value} {xi xj : Option Value} {t : List (Option Value)} {z : UInt64} (d : decode cc pc = .ok (.dstore 5, 2)) (hn : 5 + 1 < nL) (hc : c1 x4 = true) (kk : ZZ k n (pc + 2) (x0 :: x1 :: x2 :: x3 :: x4 :: some (.double z) :: none :: t) st L F) : ZZ k n pc (x0 :: x1 :: x2 :: x3 :: x4 :: xi :: xj :: t) (.double z :: st) L F := by
  subst hZ
  intro p e s m args below meth c D κ hx H locs ls hP hD hS hl
  exact lv_dstore hx.1 hx.2.1 d (lh_has hl) hn rfl (fun ls' h' => kk p e s m args below meth c D κ hx H locs ls' hP hD hS (lh_st2 (lv := x0 :: x1 :: x2 :: x3 :: x4 :: xi :: xj :: t) h' (fun j w hj hw => by obtain rfl : j = 4 := (by omega); have hw := Option.some.inj hw; rw [hw] at hc; have := eq_of_beq (show (w.category == 1) = true from hc); omega)))
theorem z_iinc5 (hZ : ZZ = Zj l y cc nL ret R L0 post xp) {x0 x1 x2 x3 x4 : Option Value} {t : List (Option Value)} {a q : Int} (d : decode cc pc = .ok (.iinc 5 q, 3)) (hn : 5 < nL) (hc : c1 x4 = true) (kk : ZZ k n (pc + 3) (x0 :: x1 :: x2 :: x3 :: x4 :: some (.int (iI (a + q))) :: t) st L F) : ZZ k n pc (x0 :: x1 :: x2 :: x3 :: x4 :: some (.int (iI a)) :: t) st L F := by
  subst hZ
  intro p e s m args below meth c D κ hx H locs ls hP hD hS hl
  obtain ⟨k9, hk9⟩ := List.getElem?_of_mem (lpr_mem.mpr (show (x0 :: x1 :: x2 :: x3 :: x4 :: some (Value.int (iI a)) :: t)[5]? = some (some (Value.int (iI a))) from rfl))
  exact lv_iinc hx.1 hx.2.1 d (lh_has hl) hk9 (iI_add a q) hn rfl (fun ls' h' => kk p e s m args below meth c D κ hx H locs ls' hP hD hS (lh_st1 (lv := x0 :: x1 :: x2 :: x3 :: x4 :: some (.int (iI a)) :: t) h' (fun j w hj hw => by obtain rfl : j = 4 := (by omega); have hw := Option.some.inj hw; rw [hw] at hc; have := eq_of_beq (show (w.category == 1) = true from hc); omega)))
theorem z_iload6 (hZ : ZZ = Zj l y cc nL ret R L0 post xp) {x0 x1 x2 x3 x4 x5 : Option Value} {t : List (Option Value)} {z : Int32} (d : decode cc pc = .ok (.iload 6, 2)) (kk : ZZ k n (pc + 2) (x0 :: x1 :: x2 :: x3 :: x4 :: x5 :: some (.int z) :: t) (.int z :: st) L F) : ZZ k n pc (x0 :: x1 :: x2 :: x3 :: x4 :: x5 :: some (.int z) :: t) (st) L F := by
  subst hZ
  intro p e s m args below meth c D κ hx H locs ls hP hD hS hl
  refine lv_iload hx.1 hx.2.1 d (hl.2.2 6 _ rfl) ?_
  exact kk p e s m args below meth c D κ hx H locs ls hP hD hS hl
theorem z_aload6 (hZ : ZZ = Zj l y cc nL ret R L0 post xp) {x0 x1 x2 x3 x4 x5 : Option Value} {t : List (Option Value)} {z : Nat} (d : decode cc pc = .ok (.aload 6, 2)) (kk : ZZ k n (pc + 2) (x0 :: x1 :: x2 :: x3 :: x4 :: x5 :: some (.ref z) :: t) (.ref z :: st) L F) : ZZ k n pc (x0 :: x1 :: x2 :: x3 :: x4 :: x5 :: some (.ref z) :: t) (st) L F := by
  subst hZ
  intro p e s m args below meth c D κ hx H locs ls hP hD hS hl
  refine lv_aload hx.1 hx.2.1 d (hl.2.2 6 _ rfl) ?_
  exact kk p e s m args below meth c D κ hx H locs ls hP hD hS hl
theorem z_lload6 (hZ : ZZ = Zj l y cc nL ret R L0 post xp) {x0 x1 x2 x3 x4 x5 : Option Value} {t : List (Option Value)} {z : Int64} (d : decode cc pc = .ok (.lload 6, 2)) (kk : ZZ k n (pc + 2) (x0 :: x1 :: x2 :: x3 :: x4 :: x5 :: some (.long z) :: t) (.long z :: st) L F) : ZZ k n pc (x0 :: x1 :: x2 :: x3 :: x4 :: x5 :: some (.long z) :: t) (st) L F := by
  subst hZ
  intro p e s m args below meth c D κ hx H locs ls hP hD hS hl
  refine lv_lload hx.1 hx.2.1 d (hl.2.2 6 _ rfl) ?_
  exact kk p e s m args below meth c D κ hx H locs ls hP hD hS hl
theorem z_dload6 (hZ : ZZ = Zj l y cc nL ret R L0 post xp) {x0 x1 x2 x3 x4 x5 : Option Value} {t : List (Option Value)} {z : UInt64} (d : decode cc pc = .ok (.dload 6, 2)) (kk : ZZ k n (pc + 2) (x0 :: x1 :: x2 :: x3 :: x4 :: x5 :: some (.double z) :: t) (.double z :: st) L F) : ZZ k n pc (x0 :: x1 :: x2 :: x3 :: x4 :: x5 :: some (.double z) :: t) (st) L F := by
  subst hZ
  intro p e s m args below meth c D κ hx H locs ls hP hD hS hl
  refine lv_dload hx.1 hx.2.1 d (hl.2.2 6 _ rfl) ?_
  exact kk p e s m args below meth c D κ hx H locs ls hP hD hS hl
theorem z_istore6 (hZ : ZZ = Zj l y cc nL ret R L0 post xp) {x0 x1 x2 x3 x4 x5 : Option Value} {xi : Option Value} {t : List (Option Value)} {z : Int32} (d : decode cc pc = .ok (.istore 6, 2)) (hn : 6 < nL) (hc : c1 x5 = true) (kk : ZZ k n (pc + 2) (x0 :: x1 :: x2 :: x3 :: x4 :: x5 :: some (.int z) :: t) st L F) : ZZ k n pc (x0 :: x1 :: x2 :: x3 :: x4 :: x5 :: xi :: t) (.int z :: st) L F := by
  subst hZ
  intro p e s m args below meth c D κ hx H locs ls hP hD hS hl
  exact lv_istore hx.1 hx.2.1 d (lh_has hl) hn rfl (fun ls' h' => kk p e s m args below meth c D κ hx H locs ls' hP hD hS (lh_st1 (lv := x0 :: x1 :: x2 :: x3 :: x4 :: x5 :: xi :: t) h' (fun j w hj hw => by obtain rfl : j = 5 := (by omega); have hw := Option.some.inj hw; rw [hw] at hc; have := eq_of_beq (show (w.category == 1) = true from hc); omega)))
theorem z_astore6 (hZ : ZZ = Zj l y cc nL ret R L0 post xp) {x0 x1 x2 x3 x4 x5 : Option Value} {xi : Option Value} {t : List (Option Value)} {z : Nat} (d : decode cc pc = .ok (.astore 6, 2)) (hn : 6 < nL) (hc : c1 x5 = true) (kk : ZZ k n (pc + 2) (x0 :: x1 :: x2 :: x3 :: x4 :: x5 :: some (.ref z) :: t) st L F) : ZZ k n pc (x0 :: x1 :: x2 :: x3 :: x4 :: x5 :: xi :: t) (.ref z :: st) L F := by
  subst hZ
  intro p e s m args below meth c D κ hx H locs ls hP hD hS hl
  exact lv_astore hx.1 hx.2.1 d (lh_has hl) hn rfl (fun ls' h' => kk p e s m args below meth c D κ hx H locs ls' hP hD hS (lh_st1 (lv := x0 :: x1 :: x2 :: x3 :: x4 :: x5 :: xi :: t) h' (fun j w hj hw => by obtain rfl : j = 5 := (by omega); have hw := Option.some.inj hw; rw [hw] at hc; have := eq_of_beq (show (w.category == 1) = true from hc); omega)))
theorem z_lstore6 (hZ : ZZ = Zj l y cc nL ret R L0 post xp) {x0 x1 x2 x3 x4 x5 : Option Value} {xi xj : Option Value} {t : List (Option Value)} {z : Int64} (d : decode cc pc = .ok (.lstore 6, 2)) (hn : 6 + 1 < nL) (hc : c1 x5 = true) (kk : ZZ k n (pc + 2) (x0 :: x1 :: x2 :: x3 :: x4 :: x5 :: some (.long z) :: none :: t) st L F) : ZZ k n pc (x0 :: x1 :: x2 :: x3 :: x4 :: x5 :: xi :: xj :: t) (.long z :: st) L F := by
  subst hZ
  intro p e s m args below meth c D κ hx H locs ls hP hD hS hl
  exact lv_lstore hx.1 hx.2.1 d (lh_has hl) hn rfl (fun ls' h' => kk p e s m args below meth c D κ hx H locs ls' hP hD hS (lh_st2 (lv := x0 :: x1 :: x2 :: x3 :: x4 :: x5 :: xi :: xj :: t) h' (fun j w hj hw => by obtain rfl : j = 5 := (by omega); have hw := Option.some.inj hw; rw [hw] at hc; have := eq_of_beq (show (w.category == 1) = true from hc); omega)))
theorem z_dstore6 (hZ : ZZ = Zj l y cc nL ret R L0 post xp) {x0 x1 x2 x3 x4 x5 : Option Value} {xi xj : Option Value} {t : List (Option Value)} {z : UInt64} (d : decode cc pc = .ok (.dstore 6, 2)) (hn : 6 + 1 < nL) (hc : c1 x5 = true) (kk : ZZ k n (pc + 2) (x0 :: x1 :: x2 :: x3 :: x4 :: x5 :: some (.double z) :: none :: t) st L F) : ZZ k n pc (x0 :: x1 :: x2 :: x3 :: x4 :: x5 :: xi :: xj :: t) (.double z :: st) L F := by
  subst hZ
  intro p e s m args below meth c D κ hx H locs ls hP hD hS hl
  exact lv_dstore hx.1 hx.2.1 d (lh_has hl) hn rfl (fun ls' h' => kk p e s m args below meth c D κ hx H locs ls' hP hD hS (lh_st2 (lv := x0 :: x1 :: x2 :: x3 :: x4 :: x5 :: xi :: xj :: t) h' (fun j w hj hw => by obtain rfl : j = 5 := (by omega); have hw := Option.some.inj hw; rw [hw] at hc; have := eq_of_beq (show (w.category == 1) = true from hc); omega)))
theorem z_iinc6 (hZ : ZZ = Zj l y cc nL ret R L0 post xp) {x0 x1 x2 x3 x4 x5 : Option Value} {t : List (Option Value)} {a q : Int} (d : decode cc pc = .ok (.iinc 6 q, 3)) (hn : 6 < nL) (hc : c1 x5 = true) (kk : ZZ k n (pc + 3) (x0 :: x1 :: x2 :: x3 :: x4 :: x5 :: some (.int (iI (a + q))) :: t) st L F) : ZZ k n pc (x0 :: x1 :: x2 :: x3 :: x4 :: x5 :: some (.int (iI a)) :: t) st L F := by
  subst hZ
  intro p e s m args below meth c D κ hx H locs ls hP hD hS hl
  obtain ⟨k9, hk9⟩ := List.getElem?_of_mem (lpr_mem.mpr (show (x0 :: x1 :: x2 :: x3 :: x4 :: x5 :: some (Value.int (iI a)) :: t)[6]? = some (some (Value.int (iI a))) from rfl))
  exact lv_iinc hx.1 hx.2.1 d (lh_has hl) hk9 (iI_add a q) hn rfl (fun ls' h' => kk p e s m args below meth c D κ hx H locs ls' hP hD hS (lh_st1 (lv := x0 :: x1 :: x2 :: x3 :: x4 :: x5 :: some (.int (iI a)) :: t) h' (fun j w hj hw => by obtain rfl : j = 5 := (by omega); have hw := Option.some.inj hw; rw [hw] at hc; have := eq_of_beq (show (w.category == 1) = true from hc); omega)))
theorem z_iload7 (hZ : ZZ = Zj l y cc nL ret R L0 post xp) {x0 x1 x2 x3 x4 x5 x6 : Option Value} {t : List (Option Value)} {z : Int32} (d : decode cc pc = .ok (.iload 7, 2)) (kk : ZZ k n (pc + 2) (x0 :: x1 :: x2 :: x3 :: x4 :: x5 :: x6 :: some (.int z) :: t) (.int z :: st) L F) : ZZ k n pc (x0 :: x1 :: x2 :: x3 :: x4 :: x5 :: x6 :: some (.int z) :: t) (st) L F := by
  subst hZ
  intro p e s m args below meth c D κ hx H locs ls hP hD hS hl
  refine lv_iload hx.1 hx.2.1 d (hl.2.2 7 _ rfl) ?_
  exact kk p e s m args below meth c D κ hx H locs ls hP hD hS hl
theorem z_aload7 (hZ : ZZ = Zj l y cc nL ret R L0 post xp) {x0 x1 x2 x3 x4 x5 x6 : Option Value} {t : List (Option Value)} {z : Nat} (d : decode cc pc = .ok (.aload 7, 2)) (kk : ZZ k n (pc + 2) (x0 :: x1 :: x2 :: x3 :: x4 :: x5 :: x6 :: some (.ref z) :: t) (.ref z :: st) L F) : ZZ k n pc (x0 :: x1 :: x2 :: x3 :: x4 :: x5 :: x6 :: some (.ref z) :: t) (st) L F := by
  subst hZ
  intro p e s m args below meth c D κ hx H locs ls hP hD hS hl
  refine lv_aload hx.1 hx.2.1 d (hl.2.2 7 _ rfl) ?_
  exact kk p e s m args below meth c D κ hx H locs ls hP hD hS hl
theorem z_lload7 (hZ : ZZ = Zj l y cc nL ret R L0 post xp) {x0 x1 x2 x3 x4 x5 x6 : Option Value} {t : List (Option Value)} {z : Int64} (d : decode cc pc = .ok (.lload 7, 2)) (kk : ZZ k n (pc + 2) (x0 :: x1 :: x2 :: x3 :: x4 :: x5 :: x6 :: some (.long z) :: t) (.long z :: st) L F) : ZZ k n pc (x0 :: x1 :: x2 :: x3 :: x4 :: x5 :: x6 :: some (.long z) :: t) (st) L F := by
  subst hZ
  intro p e s m args below meth c D κ hx H locs ls hP hD hS hl
  refine lv_lload hx.1 hx.2.1 d (hl.2.2 7 _ rfl) ?_
  exact kk p e s m args below meth c D κ hx H locs ls hP hD hS hl
theorem z_dload7 (hZ : ZZ = Zj l y cc nL ret R L0 post xp) {x0 x1 x2 x3 x4 x5 x6 : Option Value} {t : List (Option Value)} {z : UInt64} (d : decode cc pc = .ok (.dload 7, 2)) (kk : ZZ k n (pc + 2) (x0 :: x1 :: x2 :: x3 :: x4 :: x5 :: x6 :: some (.double z) :: t) (.double z :: st) L F) : ZZ k n pc (x0 :: x1 :: x2 :: x3 :: x4 :: x5 :: x6 :: some (.double z) :: t) (st) L F := by
  subst hZ
  intro p e s m args below meth c D κ hx H locs ls hP hD hS hl
  refine lv_dload hx.1 hx.2.1 d (hl.2.2 7 _ rfl) ?_
  exact kk p e s m args below meth c D κ hx H locs ls hP hD hS hl
theorem z_istore7 (hZ : ZZ = Zj l y cc nL ret R L0 post xp) {x0 x1 x2 x3 x4 x5 x6 : Option Value} {xi : Option Value} {t : List (Option Value)} {z : Int32} (d : decode cc pc = .ok (.istore 7, 2)) (hn : 7 < nL) (hc : c1 x6 = true) (kk : ZZ k n (pc + 2) (x0 :: x1 :: x2 :: x3 :: x4 :: x5 :: x6 :: some (.int z) :: t) st L F) : ZZ k n pc (x0 :: x1 :: x2 :: x3 :: x4 :: x5 :: x6 :: xi :: t) (.int z :: st) L F := by
  subst hZ
  intro p e s m args below meth c D κ hx H locs ls hP hD hS hl
  exact lv_istore hx.1 hx.2.1 d (lh_has hl) hn rfl (fun ls' h' => kk p e s m args below meth c D κ hx H locs ls' hP hD hS (lh_st1 (lv := x0 :: x1 :: x2 :: x3 :: x4 :: x5 :: x6 :: xi :: t) h' (fun j w hj hw => by obtain rfl : j = 6 := (by omega); have hw := Option.some.inj hw; rw [hw] at hc; have := eq_of_beq (show (w.category == 1) = true from hc); omega)))
theorem z_astore7 (hZ : ZZ = Zj l y cc nL ret R L0 post xp) {x0 x1 x2 x3 x4 x5 x6 : Option Value} {xi : Option Value} {t : List (Option Value)} {z : Nat} (d : decode cc pc = .ok (.astore 7, 2)) (hn : 7 < nL) (hc : c1 x6 = true) (kk : ZZ k n (pc + 2) (x0 :: x1 :: x2 :: x3 :: x4 :: x5 :: x6 :: some (.ref z) :: t) st L F) : ZZ k n pc (x0 :: x1 :: x2 :: x3 :: x4 :: x5 :: x6 :: xi :: t) (.ref z :: st) L F := by
  subst hZ
  intro p e s m args below meth c D κ hx H locs ls hP hD hS hl
  exact lv_astore hx.1 hx.2.1 d (lh_has hl) hn rfl (fun ls' h' => kk p e s m args below meth c D κ hx H locs ls' hP hD hS (lh_st1 (lv := x0 :: x1 :: x2 :: x3 :: x4 :: x5 :: x6 :: xi :: t) h' (fun j w hj hw => by obtain rfl : j = 6 := (by omega); have hw := Option.some.inj hw; rw [hw] at hc; have := eq_of_beq (show (w.category == 1) = true from hc); omega)))
theorem z_lstore7 (hZ : ZZ = Zj l y cc nL ret R L0 post xp) {x0 x1 x2 x3 x4 x5 x6 : Option Value} {xi xj : Option Value} {t : List (Option Value)} {z : Int64} (d : decode cc pc = .ok (.lstore 7, 2)) (hn : 7 + 1 < nL) (hc : c1 x6 = true) (kk : ZZ k n (pc + 2) (x0 :: x1 :: x2 :: x3 :: x4 :: x5 :: x6 :: some (.long z) :: none :: t) st L F) : ZZ k n pc (x0 :: x1 :: x2 :: x3 :: x4 :: x5 :: x6 :: xi :: xj :: t) (.long z :: st) L F := by
  subst hZ
  intro p e s m args below meth c D κ hx H locs ls hP hD hS hl
  exact lv_lstore hx.1 hx.2.1 d (lh_has hl) hn rfl (fun ls' h' => kk p e s m args below meth c D κ hx H locs ls' hP hD hS (lh_st2 (lv := x0 :: x1 :: x2 :: x3 :: x4 :: x5 :: x6 :: xi :: xj :: t) h' (fun j w hj hw => by obtain rfl : j = 6 := (by omega); have hw := Option.some.inj hw; rw [hw] at hc; have := eq_of_beq (show (w.category == 1) = true from hc); omega)))
theorem z_dstore7 (hZ : ZZ = Zj l y cc nL ret R L0 post xp) {x0 x1 x2 x3 x4 x5 x6 : Option Value} {xi xj : Option Value} {t : List (Option Value)} {z : UInt64} (d : decode cc pc = .ok (.dstore 7, 2)) (hn : 7 + 1 < nL) (hc : c1 x6 = true) (kk : ZZ k n (pc + 2) (x0 :: x1 :: x2 :: x3 :: x4 :: x5 :: x6 :: some (.double z) :: none :: t) st L F) : ZZ k n pc (x0 :: x1 :: x2 :: x3 :: x4 :: x5 :: x6 :: xi :: xj :: t) (.double z :: st) L F := by
  subst hZ
  intro p e s m args below meth c D κ hx H locs ls hP hD hS hl
  exact lv_dstore hx.1 hx.2.1 d (lh_has hl) hn rfl (fun ls' h' => kk p e s m args below meth c D κ hx H locs ls' hP hD hS (lh_st2 (lv := x0 :: x1 :: x2 :: x3 :: x4 :: x5 :: x6 :: xi :: xj :: t) h' (fun j w hj hw => by obtain rfl : j = 6 := (by omega); have hw := Option.some.inj hw; rw [hw] at hc; have := eq_of_beq (show (w.category == 1) = true from hc); omega)))
theorem z_iinc7 (hZ : ZZ = Zj l y cc nL ret R L0 post xp) {x0 x1 x2 x3 x4 x5 x6 : Option Value} {t : List (Option Value)} {a q : Int} (d : decode cc pc = .ok (.iinc 7 q, 3)) (hn : 7 < nL) (hc : c1 x6 = true) (kk : ZZ k n (pc + 3) (x0 :: x1 :: x2 :: x3 :: x4 :: x5 :: x6 :: some (.int (iI (a + q))) :: t) st L F) : ZZ k n pc (x0 :: x1 :: x2 :: x3 :: x4 :: x5 :: x6 :: some (.int (iI a)) :: t) st L F := by
  subst hZ
  intro p e s m args below meth c D κ hx H locs ls hP hD hS hl
  obtain ⟨k9, hk9⟩ := List.getElem?_of_mem (lpr_mem.mpr (show (x0 :: x1 :: x2 :: x3 :: x4 :: x5 :: x6 :: some (Value.int (iI a)) :: t)[7]? = some (some (Value.int (iI a))) from rfl))
  exact lv_iinc hx.1 hx.2.1 d (lh_has hl) hk9 (iI_add a q) hn rfl (fun ls' h' => kk p e s m args below meth c D κ hx H locs ls' hP hD hS (lh_st1 (lv := x0 :: x1 :: x2 :: x3 :: x4 :: x5 :: x6 :: some (.int (iI a)) :: t) h' (fun j w hj hw => by obtain rfl : j = 6 := (by omega); have hw := Option.some.inj hw; rw [hw] at hc; have := eq_of_beq (show (w.category == 1) = true from hc); omega)))
theorem z_iload8 (hZ : ZZ = Zj l y cc nL ret R L0 post xp) {x0 x1 x2 x3 x4 x5 x6 x7 : Option Value} {t : List (Option Value)} {z : Int32} (d : decode cc pc = .ok (.iload 8, 2)) (kk : ZZ k n (pc + 2) (x0 :: x1 :: x2 :: x3 :: x4 :: x5 :: x6 :: x7 :: some (.int z) :: t) (.int z :: st) L F) : ZZ k n pc (x0 :: x1 :: x2 :: x3 :: x4 :: x5 :: x6 :: x7 :: some (.int z) :: t) (st) L F := by
  subst hZ
  intro p e s m args below meth c D κ hx H locs ls hP hD hS hl
  refine lv_iload hx.1 hx.2.1 d (hl.2.2 8 _ rfl) ?_
  exact kk p e s m args below meth c D κ hx H locs ls hP hD hS hl
theorem z_aload8 (hZ : ZZ = Zj l y cc nL ret R L0 post xp) {x0 x1 x2 x3 x4 x5 x6 x7 : Option Value} {t : List (Option Value)} {z : Nat} (d : decode cc pc = .ok (.aload 8, 2)) (kk : ZZ k n (pc + 2) (x0 :: x1 :: x2 :: x3 :: x4 :: x5 :: x6 :: x7 :: some (.ref z) :: t) (.ref z :: st) L F) : ZZ k n pc (x0 :: x1 :: x2 :: x3 :: x4 :: x5 :: x6 :: x7 :: some (.ref z) :: t) (st) L F := by
  subst hZ
  intro p e s m args below meth c D κ hx H locs ls hP hD hS hl
  refine lv_aload hx.1 hx.2.1 d (hl.2.2 8 _ rfl) ?_
  exact kk p e s m args below meth c D κ hx H locs ls hP hD hS hl
theorem z_lload8 (hZ : ZZ = Zj l y cc nL ret R L0 post xp) {x0 x1 x2 x3 x4 x5 x6 x7 : Option Value} {t : List (Option Value)} {z : Int64} (d : decode cc pc = .ok (.lload 8, 2)) (kk : ZZ k n (pc + 2) (x0 :: x1 :: x2 :: x3 :: x4 :: x5 :: x6 :: x7 :: some (.long z) :: t) (.long z :: st) L F) : ZZ k n pc (x0 :: x1 :: x2 :: x3 :: x4 :: x5 :: x6 :: x7 :: some (.long z) :: t) (st) L F := by
  subst hZ
  intro p e s m args below meth c D κ hx H locs ls hP hD hS hl
  refine lv_lload hx.1 hx.2.1 d (hl.2.2 8 _ rfl) ?_
  exact kk p e s m args below meth c D κ hx H locs ls hP hD hS hl
theorem z_dload8 (hZ : ZZ = Zj l y cc nL ret R L0 post xp) {x0 x1 x2 x3 x4 x5 x6 x7 : Option Value} {t : List (Option Value)} {z : UInt64} (d : decode cc pc = .ok (.dload 8, 2)) (kk : ZZ k n (pc + 2) (x0 :: x1 :: x2 :: x3 :: x4 :: x5 :: x6 :: x7 :: some (.double z) :: t) (.double z :: st) L F) : ZZ k n pc (x0 :: x1 :: x2 :: x3 :: x4 :: x5 :: x6 :: x7 :: some (.double z) :: t) (st) L F := by
  subst hZ
  intro p e s m args below meth c D κ hx H locs ls hP hD hS hl
  refine lv_dload hx.1 hx.2.1 d (hl.2.2 8 _ rfl) ?_
  exact kk p e s m args below meth c D κ hx H locs ls hP hD hS hl
theorem z_istore8 (hZ : ZZ = Zj l y cc nL ret R L0 post xp) {x0 x1 x2 x3 x4 x5 x6 x7 : Option Value} {xi : Option Value} {t : List (Option Value)} {z : Int32} (d : decode cc pc = .ok (.istore 8, 2)) (hn : 8 < nL) (hc : c1 x7 = true) (kk : ZZ k n (pc + 2) (x0 :: x1 :: x2 :: x3 :: x4 :: x5 :: x6 :: x7 :: some (.int z) :: t) st L F) : ZZ k n pc (x0 :: x1 :: x2 :: x3 :: x4 :: x5 :: x6 :: x7 :: xi :: t) (.int z :: st) L F := by
  subst hZ
  intro p e s m args below meth c D κ hx H locs ls hP hD hS hl
  exact lv_istore hx.1 hx.2.1 d (lh_has hl) hn rfl (fun ls' h' => kk p e s m args below meth c D κ hx H locs ls' hP hD hS (lh_st1 (lv := x0 :: x1 :: x2 :: x3 :: x4 :: x5 :: x6 :: x7 :: xi :: t) h' (fun j w hj hw => by obtain rfl : j = 7 := (by omega); have hw := Option.some.inj hw; rw [hw] at hc; have := eq_of_beq (show (w.category == 1) = true from hc); omega)))
theorem z_astore8 (hZ : ZZ = Zj l y cc nL ret R L0 post xp) {x0 x1 x2 x3 x4 x5 x6 x7 : Option Value} {xi : Option Value} {t : List (Option Value)} {z : Nat} (d : decode cc pc = .ok (.astore 8, 2)) (hn : 8 < nL) (hc : c1 x7 = true) (kk : ZZ k n (pc + 2) (x0 :: x1 :: x2 :: x3 :: x4 :: x5 :: x6 :: x7 :: some (.ref z) :: t) st L F) : ZZ k n pc (x0 :: x1 :: x2 :: x3 :: x4 :: x5 :: x6 :: x7 :: xi :: t) (.ref z :: st) L F := by
  subst hZ
  intro p e s m args below meth c D κ hx H locs ls hP hD hS hl
  exact lv_astore hx.1 hx.2.1 d (lh_has hl) hn rfl (fun ls' h' => kk p e s m args below meth c D κ hx H locs ls' hP hD hS (lh_st1 (lv := x0 :: x1 :: x2 :: x3 :: x4 :: x5 :: x6 :: x7 :: xi :: t) h' (fun j w hj hw => by obtain rfl : j = 7 := (by omega); have hw := Option.some.inj hw; rw [hw] at hc; have := eq_of_beq (show (w.category == 1) = true from hc); omega)))
theorem z_lstore8 (hZ : ZZ = Zj l y cc nL ret R L0 post xp) {x0 x1 x2 x3 x4 x5 x6 x7 : Option Value} {xi xj : Option Value} {t : List (Option Value)} {z : Int64} (d : decode cc pc = .ok (.lstore 8, 2)) (hn : 8 + 1 < nL) (hc : c1 x7 = true) (kk : ZZ k n (pc + 2) (x0 :: x1 :: x2 :: x3 :: x4 :: x5 :: x6 :: x7 :: some (.long z) :: none :: t) st L F) : ZZ k n pc (x0 :: x1 :: x2 :: x3 :: x4 :: x5 :: x6 :: x7 :: xi :: xj :: t) (.long z :: st) L F := by
  subst hZ
  intro p e s m args below meth c D κ hx H locs ls hP hD hS hl
  exact lv_lstore hx.1 hx.2.1 d (lh_has hl) hn rfl (fun ls' h' => kk p e s m args below meth c D κ hx H locs ls' hP hD hS (lh_st2 (lv := x0 :: x1 :: x2 :: x3 :: x4 :: x5 :: x6 :: x7 :: xi :: xj :: t) h' (fun j w hj hw => by obtain rfl : j = 7 := (by omega); have hw := Option.some.inj hw; rw [hw] at hc; have := eq_of_beq (show (w.category == 1) = true from hc); omega)))
theorem z_dstore8 (hZ : ZZ = Zj l y cc nL ret R L0 post xp) {x0 x1 x2 x3 x4 x5 x6 x7 : Option Value} {xi xj : Option Value} {t : List (Option Value)} {z : UInt64} (d : decode cc pc = .ok (.dstore 8, 2)) (hn : 8 + 1 < nL) (hc : c1 x7 = true) (kk : ZZ k n (pc + 2) (x0 :: x1 :: x2 :: x3 :: x4 :: x5 :: x6 :: x7 :: some (.double z) :: none :: t) st L F) : ZZ k n pc (x0 :: x1 :: x2 :: x3 :: x4 :: x5 :: x6 :: x7 :: xi :: xj :: t) (.double z :: st) L F := by
  subst hZ
  intro p e s m args below meth c D κ hx H locs ls hP hD hS hl
  exact lv_dstore hx.1 hx.2.1 d (lh_has hl) hn rfl (fun ls' h' => kk p e s m args below meth c D κ hx H locs ls' hP hD hS (lh_st2 (lv := x0 :: x1 :: x2 :: x3 :: x4 :: x5 :: x6 :: x7 :: xi :: xj :: t) h' (fun j w hj hw => by obtain rfl : j = 7 := (by omega); have hw := Option.some.inj hw; rw [hw] at hc; have := eq_of_beq (show (w.category == 1) = true from hc); omega)))
theorem z_iinc8 (hZ : ZZ = Zj l y cc nL ret R L0 post xp) {x0 x1 x2 x3 x4 x5 x6 x7 : Option Value} {t : List (Option Value)} {a q : Int} (d : decode cc pc = .ok (.iinc 8 q, 3)) (hn : 8 < nL) (hc : c1 x7 = true) (kk : ZZ k n (pc + 3) (x0 :: x1 :: x2 :: x3 :: x4 :: x5 :: x6 :: x7 :: some (.int (iI (a + q))) :: t) st L F) : ZZ k n pc (x0 :: x1 :: x2 :: x3 :: x4 :: x5 :: x6 :: x7 :: some (.int (iI a)) :: t) st L F := by
  subst hZ
  intro p e s m args below meth c D κ hx H locs ls hP hD hS hl
  obtain ⟨k9, hk9⟩ := List.getElem?_of_mem (lpr_mem.mpr (show (x0 :: x1 :: x2 :: x3 :: x4 :: x5 :: x6 :: x7 :: some (Value.int (iI a)) :: t)[8]? = some (some (Value.int (iI a))) from rfl))
  exact lv_iinc hx.1 hx.2.1 d (lh_has hl) hk9 (iI_add a q) hn rfl (fun ls' h' => kk p e s m args below meth c D κ hx H locs ls' hP hD hS (lh_st1 (lv := x0 :: x1 :: x2 :: x3 :: x4 :: x5 :: x6 :: x7 :: some (.int (iI a)) :: t) h' (fun j w hj hw => by obtain rfl : j = 7 := (by omega); have hw := Option.some.inj hw; rw [hw] at hc; have := eq_of_beq (show (w.category == 1) = true from hc); omega)))
theorem z_iload9 (hZ : ZZ = Zj l y cc nL ret R L0 post xp) {x0 x1 x2 x3 x4 x5 x6 x7 x8 : Option Value} {t : List (Option Value)} {z : Int32} (d : decode cc pc = .ok (.iload 9, 2)) (kk : ZZ k n (pc + 2) (x0 :: x1 :: x2 :: x3 :: x4 :: x5 :: x6 :: x7 :: x8 :: some (.int z) :: t) (.int z :: st) L F) : ZZ k n pc (x0 :: x1 :: x2 :: x3 :: x4 :: x5 :: x6 :: x7 :: x8 :: some (.int z) :: t) (st) L F := by
  subst hZ
  intro p e s m args below meth c D κ hx H locs ls hP hD hS hl
  refine lv_iload hx.1 hx.2.1 d (hl.2.2 9 _ rfl) ?_
  exact kk p e s m args below meth c D κ hx H locs ls hP hD hS hl
theorem z_aload9 (hZ : ZZ = Zj l y cc nL ret R L0 post xp) {x0 x1 x2 x3 x4 x5 x6 x7 x8 : Option Value} {t : List (Option Value)} {z : Nat} (d : decode cc pc = .ok (.aload 9, 2)) (kk : ZZ k n (pc + 2) (x0 :: x1 :: x2 :: x3 :: x4 :: x5 :: x6 :: x7 :: x8 :: some (.ref z) :: t) (.ref z :: st) L F) : ZZ k n pc (x0 :: x1 :: x2 :: x3 :: x4 :: x5 :: x6 :: x7 :: x8 :: some (.ref z) :: t) (st) L F := by
  subst hZ
  intro p e s m args below meth c D κ hx H locs ls hP hD hS hl
  refine lv_aload hx.1 hx.2.1 d (hl.2.2 9 _ rfl) ?_
  exact kk p e s m args below meth c D κ hx H locs ls hP hD hS hl
theorem z_lload9 (hZ : ZZ = Zj l y cc nL ret R L0 post xp) {x0 x1 x2 x3 x4 x5 x6 x7 x8 : Option Value} {t : List (Option Value)} {z : Int64} (d : decode cc pc = .ok (.lload 9, 2)) (kk : ZZ k n (pc + 2) (x0 :: x1 :: x2 :: x3 :: x4 :: x5 :: x6 :: x7 :: x8 :: some (.long z) :: t) (.long z :: st) L F) : ZZ k n pc (x0 :: x1 :: x2 :: x3 :: x4 :: x5 :: x6 :: x7 :: x8 :: some (.long z) :: t) (st) L F := by
  subst hZ
  intro p e s m args below meth c D κ hx H locs ls hP hD hS hl
  refine lv_lload hx.1 hx.2.1 d (hl.2.2 9 _ rfl) ?_
  exact kk p e s m args below meth c D κ hx H locs ls hP hD hS hl
theorem z_dload9 (hZ : ZZ = Zj l y cc nL ret R L0 post xp) {x0 x1 x2 x3 x4 x5 x6 x7 x8 : Option Value} {t : List (Option Value)} {z : UInt64} (d : decode cc pc = .ok (.dload 9, 2)) (kk : ZZ k n (pc + 2) (x0 :: x1 :: x2 :: x3 :: x4 :: x5 :: x6 :: x7 :: x8 :: some (.double z) :: t) (.double z :: st) L F) : ZZ k n pc (x0 :: x1 :: x2 :: x3 :: x4 :: x5 :: x6 :: x7 :: x8 :: some (.double z) :: t) (st) L F := by
  subst hZ
  intro p e s m args below meth c D κ hx H locs ls hP hD hS hl
  refine lv_dload hx.1 hx.2.1 d (hl.2.2 9 _ rfl) ?_
  exact kk p e s m args below meth c D κ hx H locs ls hP hD hS hl
theorem z_istore9 (hZ : ZZ = Zj l y cc nL ret R L0 post xp) {x0 x1 x2 x3 x4 x5 x6 x7 x8 : Option Value} {xi : Option Value} {t : List (Option Value)} {z : Int32} (d : decode cc pc = .ok (.istore 9, 2)) (hn : 9 < nL) (hc : c1 x8 = true) (kk : ZZ k n (pc + 2) (x0 :: x1 :: x2 :: x3 :: x4 :: x5 :: x6 :: x7 :: x8 :: some (.int z) :: t) st L F) : ZZ k n pc (x0 :: x1 :: x2 :: x3 :: x4 :: x5 :: x6 :: x7 :: x8 :: xi :: t) (.int z :: st) L F := by
  subst hZ
  intro p e s m args below meth c D κ hx H locs ls hP hD hS hl
  exact lv_istore hx.1 hx.2.1 d (lh_has hl) hn rfl (fun ls' h' => kk p e s m args below meth c D κ hx H locs ls' hP hD hS (lh_st1 (lv := x0 :: x1 :: x2 :: x3 :: x4 :: x5 :: x6 :: x7 :: x8 :: xi :: t) h' (fun j w hj hw => by obtain rfl : j = 8 := (by omega); have hw := Option.some.inj hw; rw [hw] at hc; have := eq_of_beq (show (w.category == 1) = true from hc); omega)))
theorem z_astore9 (hZ : ZZ = Zj l y cc nL ret R L0 post xp) {x0 x1 x2 x3 x4 x5 x6 x7 x8 : Option Value} {xi : Option Value} {t : List (Option Value)} {z : Nat} (d : decode cc pc = .ok (.astore 9, 2)) (hn : 9 < nL) (hc : c1 x8 = true) (kk : ZZ k n (pc + 2) (x0 :: x1 :: x2 :: x3 :: x4 :: x5 :: x6 :: x7 :: x8 :: some (.ref z) :: t) st L F) : ZZ k n pc (x0 :: x1 :: x2 :: x3 :: x4 :: x5 :: x6 :: x7 :: x8 :: xi :: t) (.ref z :: st) L F := by
  subst hZ
  intro p e s m args below meth c D κ hx H locs ls hP hD hS hl
  exact lv_astore hx.1 hx.2.1 d (lh_has hl) hn rfl (fun ls' h' => kk p e s m args below meth c D κ hx H locs ls' hP hD hS (lh_st1 (lv := x0 :: x1 :: x2 :: x3 :: x4 :: x5 :: x6 :: x7 :: x8 :: xi :: t) h' (fun j w hj hw => by obtain rfl : j = 8 := (by omega); have hw := Option.some.inj hw; rw [hw] at hc; have := eq_of_beq (show (w.category == 1) = true from hc); omega)))
theorem z_lstore9 (hZ : ZZ = Zj l y cc nL ret R L0 post xp) {x0 x1 x2 x3 x4 x5 x6 x7 x8 : Option Value} {xi xj : Option Value} {t : List (Option Value)} {z : Int64} (d : decode cc pc = .ok (.lstore 9, 2)) (hn : 9 + 1 < nL) (hc : c1 x8 = true) (kk : ZZ k n (pc + 2) (x0 :: x1 :: x2 :: x3 :: x4 :: x5 :: x6 :: x7 :: x8 :: some (.long z) :: none :: t) st L F) : ZZ k n pc (x0 :: x1 :: x2 :: x3 :: x4 :: x5 :: x6 :: x7 :: x8 :: xi :: xj :: t) (.long z :: st) L F := by
  subst hZ
  intro p e s m args below meth c D κ hx H locs ls hP hD hS hl
  exact lv_lstore hx.1 hx.2.1 d (lh_has hl) hn rfl (fun ls' h' => kk p e s m args below meth c D κ hx H locs ls' hP hD hS (lh_st2 (lv := x0 :: x1 :: x2 :: x3 :: x4 :: x5 :: x6 :: x7 :: x8 :: xi :: xj :: t) h' (fun j w hj hw => by obtain rfl : j = 8 := (by omega); have hw := Option.some.inj hw; rw [hw] at hc; have := eq_of_beq (show (w.category == 1) = true from hc); omega)))
theorem z_dstore9 (hZ : ZZ = Zj l y cc nL ret R L0 post xp) {x0 x1 x2 x3 x4 x5 x6 x7 x8 : Option Value} {xi xj : Option Value} {t : List (Option Value)} {z : UInt64} (d : decode cc pc = .ok (.dstore 9, 2)) (hn : 9 + 1 < nL) (hc : c1 x8 = true) (kk : ZZ k n (pc + 2) (x0 :: x1 :: x2 :: x3 :: x4 :: x5 :: x6 :: x7 :: x8 :: some (.double z) :: none :: t) st L F) : ZZ k n pc (x0 :: x1 :: x2 :: x3 :: x4 :: x5 :: x6 :: x7 :: x8 :: xi :: xj :: t) (.double z :: st) L F := by
  subst hZ
  intro p e s m args below meth c D κ hx H locs ls hP hD hS hl
  exact lv_dstore hx.1 hx.2.1 d (lh_has hl) hn rfl (fun ls' h' => kk p e s m args below meth c D κ hx H locs ls' hP hD hS (lh_st2 (lv := x0 :: x1 :: x2 :: x3 :: x4 :: x5 :: x6 :: x7 :: x8 :: xi :: xj :: t) h' (fun j w hj hw => by obtain rfl : j = 8 := (by omega); have hw := Option.some.inj hw; rw [hw] at hc; have := eq_of_beq (show (w.category == 1) = true from hc); omega)))
theorem z_iinc9 (hZ : ZZ = Zj l y cc nL ret R L0 post xp) {x0 x1 x2 x3 x4 x5 x6 x7 x8 : Option Value} {t : List (Option Value)} {a q : Int} (d : decode cc pc = .ok (.iinc 9 q, 3)) (hn : 9 < nL) (hc : c1 x8 = true) (kk : ZZ k n (pc + 3) (x0 :: x1 :: x2 :: x3 :: x4 :: x5 :: x6 :: x7 :: x8 :: some (.int (iI (a + q))) :: t) st L F) : ZZ k n pc (x0 :: x1 :: x2 :: x3 :: x4 :: x5 :: x6 :: x7 :: x8 :: some (.int (iI a)) :: t) st L F := by
  subst hZ
  intro p e s m args below meth c D κ hx H locs ls hP hD hS hl
  obtain ⟨k9, hk9⟩ := List.getElem?_of_mem (lpr_mem.mpr (show (x0 :: x1 :: x2 :: x3 :: x4 :: x5 :: x6 :: x7 :: x8 :: some (Value.int (iI a)) :: t)[9]? = some (some (Value.int (iI a))) from rfl))
  exact lv_iinc hx.1 hx.2.1 d (lh_has hl) hk9 (iI_add a q) hn rfl (fun ls' h' => kk p e s m args below meth c D κ hx H locs ls' hP hD hS (lh_st1 (lv := x0 :: x1 :: x2 :: x3 :: x4 :: x5 :: x6 :: x7 :: x8 :: some (.int (iI a)) :: t) h' (fun j w hj hw => by obtain rfl : j = 8 := (by omega); have hw := Option.some.inj hw; rw [hw] at hc; have := eq_of_beq (show (w.category == 1) = true from hc); omega)))
theorem z_dup (hZ : ZZ = Zj l y cc nL ret R L0 post xp) {v : Value} (d : decode cc pc = .ok (.dup, 1)) (hv : v.category = 1) (kk : ZZ k n (pc + 1) lv (v :: v :: st) L F) : ZZ k n pc lv (v :: st) L F := by
  subst hZ
  intro p e s m args below meth c D κ hx H locs ls hP hD hS hl
  refine lv_dup hx.1 hx.2.1 d hv ?_
  exact kk p e s m args below meth c D κ hx H locs ls hP hD hS hl
theorem z_dup2 (hZ : ZZ = Zj l y cc nL ret R L0 post xp) {v w : Value} (d : decode cc pc = .ok (.dup2, 1)) (hv : v.category = 1) (hw : w.category = 1) (kk : ZZ k n (pc + 1) lv (v :: w :: v :: w :: st) L F) : ZZ k n pc lv (v :: w :: st) L F := by
  subst hZ
  intro p e s m args below meth c D κ hx H locs ls hP hD hS hl
  refine lv_dup2_11 hx.1 hx.2.1 d hv hw ?_
  exact kk p e s m args below meth c D κ hx H locs ls hP hD hS hl
theorem z_pop (hZ : ZZ = Zj l y cc nL ret R L0 post xp) {v : Value} (d : decode cc pc = .ok (.pop, 1)) (hv : v.category = 1) (kk : ZZ k n (pc + 1) lv (st) L F) : ZZ k n pc lv (v :: st) L F := by
  subst hZ
  intro p e s m args below meth c D κ hx H locs ls hP hD hS hl
  refine lv_pop hx.1 hx.2.1 d hv ?_
  exact kk p e s m args below meth c D κ hx H locs ls hP hD hS hl
theorem z_iadd (hZ : ZZ = Zj l y cc nL ret R L0 post xp) {a b : Int} (d : decode cc pc = .ok (.iadd, 1)) (kk : ZZ k n (pc + 1) lv (.int (iI (a + b)) :: st) L F) : ZZ k n pc lv (.int (iI b) :: .int (iI a) :: st) L F := by
  subst hZ
  intro p e s m args below meth c D κ hx H locs ls hP hD hS hl
  refine lv_iadd hx.1 hx.2.1 d ?_
  rw [iI_add]
  exact kk p e s m args below meth c D κ hx H locs ls hP hD hS hl
theorem z_isub (hZ : ZZ = Zj l y cc nL ret R L0 post xp) {a b : Int} (d : decode cc pc = .ok (.isub, 1)) (kk : ZZ k n (pc + 1) lv (.int (iI (a - b)) :: st) L F) : ZZ k n pc lv (.int (iI b) :: .int (iI a) :: st) L F := by
  subst hZ
  intro p e s m args below meth c D κ hx H locs ls hP hD hS hl
  refine lv_isub hx.1 hx.2.1 d ?_
  rw [iI_sub]
  exact kk p e s m args below meth c D κ hx H locs ls hP hD hS hl
theorem z_imul (hZ : ZZ = Zj l y cc nL ret R L0 post xp) {a b : Int} (d : decode cc pc = .ok (.imul, 1)) (kk : ZZ k n (pc + 1) lv (.int (iI (a * b)) :: st) L F) : ZZ k n pc lv (.int (iI b) :: .int (iI a) :: st) L F := by
  subst hZ
  intro p e s m args below meth c D κ hx H locs ls hP hD hS hl
  refine lv_imul hx.1 hx.2.1 d ?_
  rw [iI_mul]
  exact kk p e s m args below meth c D κ hx H locs ls hP hD hS hl
theorem z_ineg (hZ : ZZ = Zj l y cc nL ret R L0 post xp) {a : Int} (d : decode cc pc = .ok (.ineg, 1)) (kk : ZZ k n (pc + 1) lv (.int (iI (-a)) :: st) L F) : ZZ k n pc lv (.int (iI a) :: st) L F := by
  subst hZ
  intro p e s m args below meth c D κ hx H locs ls hP hD hS hl
  refine lv_ineg hx.1 hx.2.1 d ?_
  rw [iI_neg]
  exact kk p e s m args below meth c D κ hx H locs ls hP hD hS hl
theorem z_irem (hZ : ZZ = Zj l y cc nL ret R L0 post xp) {a b : Int} (d : decode cc pc = .ok (.irem, 1)) (h : 0 ≤ a ∧ a ≤ 2147483647 ∧ 0 < b ∧ b ≤ 2147483647) (kk : ZZ k n (pc + 1) lv (.int (iI (a % b)) :: st) L F) : ZZ k n pc lv (.int (iI b) :: .int (iI a) :: st) L F := by
  subst hZ
  intro p e s m args below meth c D κ hx H locs ls hP hD hS hl
  refine lv_irem hx.1 hx.2.1 d (fun q => by have := (iI_eq (b := 0) ⟨by omega, by omega⟩ ⟨by omega, by omega⟩).mp q; omega) ?_
  rw [iI_rem h.1 ⟨by omega, by omega⟩ h.2.2.1 ⟨by omega, by omega⟩]
  exact kk p e s m args below meth c D κ hx H locs ls hP hD hS hl
theorem z_iand (hZ : ZZ = Zj l y cc nL ret R L0 post xp) {a b : Int32} {r : Int32} (d : decode cc pc = .ok (.iand, 1)) (hr : a &&& b = r) (kk : ZZ k n (pc + 1) lv (.int r :: st) L F) : ZZ k n pc lv (.int b :: .int a :: st) L F := by
  subst hZ
  intro p e s m args below meth c D κ hx H locs ls hP hD hS hl
  refine lv_iand hx.1 hx.2.1 d ?_
  rw [hr]
  exact kk p e s m args below meth c D κ hx H locs ls hP hD hS hl
theorem z_ixor (hZ : ZZ = Zj l y cc nL ret R L0 post xp) {a b : Int32} {r : Int32} (d : decode cc pc = .ok (.ixor, 1)) (hr : a ^^^ b = r) (kk : ZZ k n (pc + 1) lv (.int r :: st) L F) : ZZ k n pc lv (.int b :: .int a :: st) L F := by
  subst hZ
  intro p e s m args below meth c D κ hx H locs ls hP hD hS hl
  refine lv_ixor hx.1 hx.2.1 d ?_
  rw [hr]
  exact kk p e s m args below meth c D κ hx H locs ls hP hD hS hl
theorem z_ishl (hZ : ZZ = Zj l y cc nL ret R L0 post xp) {a b : Int32} {r : Int32} (d : decode cc pc = .ok (.ishl, 1)) (hr : a <<< (b &&& 31) = r) (kk : ZZ k n (pc + 1) lv (.int r :: st) L F) : ZZ k n pc lv (.int b :: .int a :: st) L F := by
  subst hZ
  intro p e s m args below meth c D κ hx H locs ls hP hD hS hl
  refine lv_ishl hx.1 hx.2.1 d ?_
  rw [hr]
  exact kk p e s m args below meth c D κ hx H locs ls hP hD hS hl
theorem z_ishr (hZ : ZZ = Zj l y cc nL ret R L0 post xp) {a b : Int32} {r : Int32} (d : decode cc pc = .ok (.ishr, 1)) (hr : a >>> (b &&& 31) = r) (kk : ZZ k n (pc + 1) lv (.int r :: st) L F) : ZZ k n pc lv (.int b :: .int a :: st) L F := by
  subst hZ
  intro p e s m args below meth c D κ hx H locs ls hP hD hS hl
  refine lv_ishr hx.1 hx.2.1 d ?_
  rw [hr]
  exact kk p e s m args below meth c D κ hx H locs ls hP hD hS hl
theorem z_iushr (hZ : ZZ = Zj l y cc nL ret R L0 post xp) {a b : Int32} {r : Int32} (d : decode cc pc = .ok (.iushr, 1)) (hr : (a.toUInt32 >>> (b.toUInt32 &&& Int32.toUInt32 31)).toInt32 = r) (kk : ZZ k n (pc + 1) lv (.int r :: st) L F) : ZZ k n pc lv (.int b :: .int a :: st) L F := by
  subst hZ
  intro p e s m args below meth c D κ hx H locs ls hP hD hS hl
  refine lv_iushr hx.1 hx.2.1 d hr ?_
  exact kk p e s m args below meth c D κ hx H locs ls hP hD hS hl
theorem z_i2b (hZ : ZZ = Zj l y cc nL ret R L0 post xp) {a : Int32} {r : Int32} (d : decode cc pc = .ok (.i2b, 1)) (hr : a.toInt8.toInt32 = r) (kk : ZZ k n (pc + 1) lv (.int r :: st) L F) : ZZ k n pc lv (.int a :: st) L F := by
  subst hZ
  intro p e s m args below meth c D κ hx H locs ls hP hD hS hl
  refine lv_i2b hx.1 hx.2.1 d hr ?_
  exact kk p e s m args below meth c D κ hx H locs ls hP hD hS hl
theorem z_i2c (hZ : ZZ = Zj l y cc nL ret R L0 post xp) {a : Int32} {r : Int32} (d : decode cc pc = .ok (.i2c, 1)) (hr : (a.toUInt32 % 65536).toInt32 = r) (kk : ZZ k n (pc + 1) lv (.int r :: st) L F) : ZZ k n pc lv (.int a :: st) L F := by
  subst hZ
  intro p e s m args below meth c D κ hx H locs ls hP hD hS hl
  refine lv_i2c hx.1 hx.2.1 d hr ?_
  exact kk p e s m args below meth c D κ hx H locs ls hP hD hS hl
theorem z_ladd (hZ : ZZ = Zj l y cc nL ret R L0 post xp) {a b : Int} (d : decode cc pc = .ok (.ladd, 1)) (kk : ZZ k n (pc + 1) lv (.long (lL (a + b)) :: st) L F) : ZZ k n pc lv (.long (lL b) :: .long (lL a) :: st) L F := by
  subst hZ
  intro p e s m args below meth c D κ hx H locs ls hP hD hS hl
  refine lv_ladd hx.1 hx.2.1 d ?_
  rw [lL_add]
  exact kk p e s m args below meth c D κ hx H locs ls hP hD hS hl
theorem z_lsub (hZ : ZZ = Zj l y cc nL ret R L0 post xp) {a b : Int} (d : decode cc pc = .ok (.lsub, 1)) (kk : ZZ k n (pc + 1) lv (.long (lL (a - b)) :: st) L F) : ZZ k n pc lv (.long (lL b) :: .long (lL a) :: st) L F := by
  subst hZ
  intro p e s m args below meth c D κ hx H locs ls hP hD hS hl
  refine lv_lsub hx.1 hx.2.1 d ?_
  rw [lL_sub]
  exact kk p e s m args below meth c D κ hx H locs ls hP hD hS hl
theorem z_lmul (hZ : ZZ = Zj l y cc nL ret R L0 post xp) {a b : Int} (d : decode cc pc = .ok (.lmul, 1)) (kk : ZZ k n (pc + 1) lv (.long (lL (a * b)) :: st) L F) : ZZ k n pc lv (.long (lL b) :: .long (lL a) :: st) L F := by
  subst hZ
  intro p e s m args below meth c D κ hx H locs ls hP hD hS hl
  refine lv_lmul hx.1 hx.2.1 d ?_
  rw [lL_mul]
  exact kk p e s m args below meth c D κ hx H locs ls hP hD hS hl
theorem z_ldiv (hZ : ZZ = Zj l y cc nL ret R L0 post xp) {a b r : Int64} (d : decode cc pc = .ok (.ldiv, 1)) (h : ¬ b = 0) (hr : a / b = r) (kk : ZZ k n (pc + 1) lv (.long r :: st) L F) : ZZ k n pc lv (.long b :: .long a :: st) L F := by
  subst hZ
  intro p e s m args below meth c D κ hx H locs ls hP hD hS hl
  refine lv_ldiv hx.1 hx.2.1 d h ?_
  rw [hr]
  exact kk p e s m args below meth c D κ hx H locs ls hP hD hS hl
theorem z_lrem (hZ : ZZ = Zj l y cc nL ret R L0 post xp) {a b r : Int64} (d : decode cc pc = .ok (.lrem, 1)) (h : ¬ b = 0) (hr : a - a / b * b = r) (kk : ZZ k n (pc + 1) lv (.long r :: st) L F) : ZZ k n pc lv (.long b :: .long a :: st) L F := by
  subst hZ
  intro p e s m args below meth c D κ hx H locs ls hP hD hS hl
  refine lv_lrem hx.1 hx.2.1 d h ?_
  rw [hr]
  exact kk p e s m args below meth c D κ hx H locs ls hP hD hS hl
theorem z_lshl (hZ : ZZ = Zj l y cc nL ret R L0 post xp) {a r : Int64} {b : Int32} (d : decode cc pc = .ok (.lshl, 1)) (hr : a <<< (b.toInt64 &&& 63) = r) (kk : ZZ k n (pc + 1) lv (.long r :: st) L F) : ZZ k n pc lv (.int b :: .long a :: st) L F := by
  subst hZ
  intro p e s m args below meth c D κ hx H locs ls hP hD hS hl
  refine lv_lshl hx.1 hx.2.1 d hr ?_
  exact kk p e s m args below meth c D κ hx H locs ls hP hD hS hl
theorem z_i2l (hZ : ZZ = Zj l y cc nL ret R L0 post xp) {a : Int} (d : decode cc pc = .ok (.i2l, 1)) (h : -2147483648 ≤ a ∧ a ≤ 2147483647) (kk : ZZ k n (pc + 1) lv (.long (lL a) :: st) L F) : ZZ k n pc lv (.int (iI a) :: st) L F := by
  subst hZ
  intro p e s m args below meth c D κ hx H locs ls hP hD hS hl
  refine lv_i2l hx.1 hx.2.1 d (iI_L h) ?_
  exact kk p e s m args below meth c D κ hx H locs ls hP hD hS hl
theorem z_i2d (hZ : ZZ = Zj l y cc nL ret R L0 post xp) {a : Int32} (d : decode cc pc = .ok (.i2d, 1)) (kk : ZZ k n (pc + 1) lv (.double (FP.i2d a) :: st) L F) : ZZ k n pc lv (.int a :: st) L F := by
  subst hZ
  intro p e s m args below meth c D κ hx H locs ls hP hD hS hl
  refine lv_i2d hx.1 hx.2.1 d ?_
  exact kk p e s m args below meth c D κ hx H locs ls hP hD hS hl
theorem z_d2l (hZ : ZZ = Zj l y cc nL ret R L0 post xp) {a : UInt64} (d : decode cc pc = .ok (.d2l, 1)) (kk : ZZ k n (pc + 1) lv (.long (FP.d2l a) :: st) L F) : ZZ k n pc lv (.double a :: st) L F := by
  subst hZ
  intro p e s m args below meth c D κ hx H locs ls hP hD hS hl
  refine lv_d2l hx.1 hx.2.1 d ?_
  exact kk p e s m args below meth c D κ hx H locs ls hP hD hS hl
theorem z_l2d (hZ : ZZ = Zj l y cc nL ret R L0 post xp) {a : Int64} (d : decode cc pc = .ok (.l2d, 1)) (kk : ZZ k n (pc + 1) lv (.double (FP.l2d a) :: st) L F) : ZZ k n pc lv (.long a :: st) L F := by
  subst hZ
  intro p e s m args below meth c D κ hx H locs ls hP hD hS hl
  refine lv_l2d hx.1 hx.2.1 d ?_
  exact kk p e s m args below meth c D κ hx H locs ls hP hD hS hl
theorem z_ddiv (hZ : ZZ = Zj l y cc nL ret R L0 post xp) {a b : UInt64} (d : decode cc pc = .ok (.ddiv, 1)) (h : vf_n64 (FP.ddiv a b)) (kk : ZZ k n (pc + 1) lv (.double (FP.ddiv a b) :: st) L F) : ZZ k n pc lv (.double b :: .double a :: st) L F := by
  subst hZ
  intro p e s m args below meth c D κ hx H locs ls hP hD hS hl
  refine lv_ddiv hx.1 hx.2.1 d h ?_
  exact kk p e s m args below meth c D κ hx H locs ls hP hD hS hl
theorem z_dsub (hZ : ZZ = Zj l y cc nL ret R L0 post xp) {a b : UInt64} (d : decode cc pc = .ok (.dsub, 1)) (h : vf_n64 (FP.dsub a b)) (kk : ZZ k n (pc + 1) lv (.double (FP.dsub a b) :: st) L F) : ZZ k n pc lv (.double b :: .double a :: st) L F := by
  subst hZ
  intro p e s m args below meth c D κ hx H locs ls hP hD hS hl
  refine lv_dsub hx.1 hx.2.1 d h ?_
  exact kk p e s m args below meth c D κ hx H locs ls hP hD hS hl
theorem z_dmul (hZ : ZZ = Zj l y cc nL ret R L0 post xp) {a b : UInt64} (d : decode cc pc = .ok (.dmul, 1)) (h : vf_n64 (FP.dmul a b)) (kk : ZZ k n (pc + 1) lv (.double (FP.dmul a b) :: st) L F) : ZZ k n pc lv (.double b :: .double a :: st) L F := by
  subst hZ
  intro p e s m args below meth c D κ hx H locs ls hP hD hS hl
  refine lv_dmul hx.1 hx.2.1 d h ?_
  exact kk p e s m args below meth c D κ hx H locs ls hP hD hS hl
theorem z_lcmp (hZ : ZZ = Zj l y cc nL ret R L0 post xp) {a b : Int64} (d : decode cc pc = .ok (.lcmp, 1)) (kk : ZZ k n (pc + 1) lv (.int (lg_cmp a b) :: st) L F) : ZZ k n pc lv (.long b :: .long a :: st) L F := by
  subst hZ
  intro p e s m args below meth c D κ hx H locs ls hP hD hS hl
  refine W.lcmp hx.1 hx.2.1 d ?_
  exact kk p e s m args below meth c D κ hx H locs ls hP hD hS hl
theorem z_dcmp (hZ : ZZ = Zj l y cc nL ret R L0 post xp) {a b : UInt64} {op : CmpOp} (d : decode cc pc = .ok (.dcmp op, 1)) (kk : ZZ k n (pc + 1) lv (.int (Op.cmpValue (FP.dcmp a b) op) :: st) L F) : ZZ k n pc lv (.double b :: .double a :: st) L F := by
  subst hZ
  intro p e s m args below meth c D κ hx H locs ls hP hD hS hl
  refine lv_dcmp hx.1 hx.2.1 d ?_
  exact kk p e s m args below meth c D κ hx H locs ls hP hD hS hl
theorem z_icmp_eq (hZ : ZZ = Zj l y cc nL ret R L0 post xp) {a b : Int} {off : Int} {tgt : Nat} (d : decode cc pc = .ok (.if_icmp .eq off, 3)) (ht : (pc : Int) + off = (tgt : Int)) (hr : -2147483648 ≤ a ∧ a ≤ 2147483647 ∧ -2147483648 ≤ b ∧ b ≤ 2147483647) (kt : a = b → ZZ k n tgt lv st L F) (kf : ¬ a = b → ZZ k n (pc + 3) lv st L F) : ZZ k n pc lv (.int (iI b) :: .int (iI a) :: st) L F := by
  subst hZ
  intro p e s m args below meth c D κ hx H locs ls hP hD hS hl
  exact lv_icmp_eq hx.1 hx.2.1 d ht (fun h => kt ((iI_eq ⟨hr.1, hr.2.1⟩ hr.2.2).mp h) p e s m args below meth c D κ hx H locs ls hP hD hS hl) (fun h => kf (fun q => h ((iI_eq ⟨hr.1, hr.2.1⟩ hr.2.2).mpr q)) p e s m args below meth c D κ hx H locs ls hP hD hS hl)
theorem z_if_eq (hZ : ZZ = Zj l y cc nL ret R L0 post xp) {a : Int} {off : Int} {tgt : Nat} (d : decode cc pc = .ok (.ifCond .eq off, 3)) (ht : (pc : Int) + off = (tgt : Int)) (hr : -2147483648 ≤ a ∧ a ≤ 2147483647) (kt : a = 0 → ZZ k n tgt lv st L F) (kf : ¬ a = 0 → ZZ k n (pc + 3) lv st L F) : ZZ k n pc lv (.int (iI a) :: st) L F := by
  subst hZ
  intro p e s m args below meth c D κ hx H locs ls hP hD hS hl
  exact lv_if_eq hx.1 hx.2.1 d ht (fun h => kt ((iI_eq (b := 0) ⟨hr.1, hr.2⟩ ⟨by omega, by omega⟩).mp h) p e s m args below meth c D κ hx H locs ls hP hD hS hl) (fun h => kf (fun q => h ((iI_eq (b := 0) ⟨hr.1, hr.2⟩ ⟨by omega, by omega⟩).mpr q)) p e s m args below meth c D κ hx H locs ls hP hD hS hl)
theorem z_icmp_ne (hZ : ZZ = Zj l y cc nL ret R L0 post xp) {a b : Int} {off : Int} {tgt : Nat} (d : decode cc pc = .ok (.if_icmp .ne off, 3)) (ht : (pc : Int) + off = (tgt : Int)) (hr : -2147483648 ≤ a ∧ a ≤ 2147483647 ∧ -2147483648 ≤ b ∧ b ≤ 2147483647) (kt : ¬ a = b → ZZ k n tgt lv st L F) (kf : a = b → ZZ k n (pc + 3) lv st L F) : ZZ k n pc lv (.int (iI b) :: .int (iI a) :: st) L F := by
  subst hZ
  intro p e s m args below meth c D κ hx H locs ls hP hD hS hl
  exact lv_icmp_ne hx.1 hx.2.1 d ht (fun h => kt (fun q => h ((iI_eq ⟨hr.1, hr.2.1⟩ hr.2.2).mpr q)) p e s m args below meth c D κ hx H locs ls hP hD hS hl) (fun h => kf ((iI_eq ⟨hr.1, hr.2.1⟩ hr.2.2).mp h) p e s m args below meth c D κ hx H locs ls hP hD hS hl)
theorem z_if_ne (hZ : ZZ = Zj l y cc nL ret R L0 post xp) {a : Int} {off : Int} {tgt : Nat} (d : decode cc pc = .ok (.ifCond .ne off, 3)) (ht : (pc : Int) + off = (tgt : Int)) (hr : -2147483648 ≤ a ∧ a ≤ 2147483647) (kt : ¬ a = 0 → ZZ k n tgt lv st L F) (kf : a = 0 → ZZ k n (pc + 3) lv st L F) : ZZ k n pc lv (.int (iI a) :: st) L F := by
  subst hZ
  intro p e s m args below meth c D κ hx H locs ls hP hD hS hl
  exact lv_if_ne hx.1 hx.2.1 d ht (fun h => kt (fun q => h ((iI_eq (b := 0) ⟨hr.1, hr.2⟩ ⟨by omega, by omega⟩).mpr q)) p e s m args below meth c D κ hx H locs ls hP hD hS hl) (fun h => kf ((iI_eq (b := 0) ⟨hr.1, hr.2⟩ ⟨by omega, by omega⟩).mp h) p e s m args below meth c D κ hx H locs ls hP hD hS hl)
theorem z_icmp_lt (hZ : ZZ = Zj l y cc nL ret R L0 post xp) {a b : Int} {off : Int} {tgt : Nat} (d : decode cc pc = .ok (.if_icmp .lt off, 3)) (ht : (pc : Int) + off = (tgt : Int)) (hr : -2147483648 ≤ a ∧ a ≤ 2147483647 ∧ -2147483648 ≤ b ∧ b ≤ 2147483647) (kt : a < b → ZZ k n tgt lv st L F) (kf : b ≤ a → ZZ k n (pc + 3) lv st L F) : ZZ k n pc lv (.int (iI b) :: .int (iI a) :: st) L F := by
  subst hZ
  intro p e s m args below meth c D κ hx H locs ls hP hD hS hl
  exact lv_icmp_lt hx.1 hx.2.1 d ht (fun h => kt ((iI_lt ⟨hr.1, hr.2.1⟩ hr.2.2).mp h) p e s m args below meth c D κ hx H locs ls hP hD hS hl) (fun h => kf (by have := mt (iI_lt ⟨hr.1, hr.2.1⟩ hr.2.2).mpr h; omega) p e s m args below meth c D κ hx H locs ls hP hD hS hl)
theorem z_if_lt (hZ : ZZ = Zj l y cc nL ret R L0 post xp) {a : Int} {off : Int} {tgt : Nat} (d : decode cc pc = .ok (.ifCond .lt off, 3)) (ht : (pc : Int) + off = (tgt : Int)) (hr : -2147483648 ≤ a ∧ a ≤ 2147483647) (kt : a < 0 → ZZ k n tgt lv st L F) (kf : 0 ≤ a → ZZ k n (pc + 3) lv st L F) : ZZ k n pc lv (.int (iI a) :: st) L F := by
  subst hZ
  intro p e s m args below meth c D κ hx H locs ls hP hD hS hl
  exact lv_if_lt hx.1 hx.2.1 d ht (fun h => kt ((iI_lt (b := 0) ⟨hr.1, hr.2⟩ ⟨by omega, by omega⟩).mp h) p e s m args below meth c D κ hx H locs ls hP hD hS hl) (fun h => kf (by have := mt (iI_lt (b := 0) ⟨hr.1, hr.2⟩ ⟨by omega, by omega⟩).mpr h; omega) p e s m args below meth c D κ hx H locs ls hP hD hS hl)
theorem z_icmp_ge (hZ : ZZ = Zj l y cc nL ret R L0 post xp) {a b : Int} {off : Int} {tgt : Nat} (d : decode cc pc = .ok (.if_icmp .ge off, 3)) (ht : (pc : Int) + off = (tgt : Int)) (hr : -2147483648 ≤ a ∧ a ≤ 2147483647 ∧ -2147483648 ≤ b ∧ b ≤ 2147483647) (kt : b ≤ a → ZZ k n tgt lv st L F) (kf : a < b → ZZ k n (pc + 3) lv st L F) : ZZ k n pc lv (.int (iI b) :: .int (iI a) :: st) L F := by
  subst hZ
  intro p e s m args below meth c D κ hx H locs ls hP hD hS hl
  exact lv_icmp_ge hx.1 hx.2.1 d ht (fun h => kt ((iI_le hr.2.2 ⟨hr.1, hr.2.1⟩).mp h) p e s m args below meth c D κ hx H locs ls hP hD hS hl) (fun h => kf (by have := mt (iI_le hr.2.2 ⟨hr.1, hr.2.1⟩).mpr h; omega) p e s m args below meth c D κ hx H locs ls hP hD hS hl)
theorem z_if_ge (hZ : ZZ = Zj l y cc nL ret R L0 post xp) {a : Int} {off : Int} {tgt : Nat} (d : decode cc pc = .ok (.ifCond .ge off, 3)) (ht : (pc : Int) + off = (tgt : Int)) (hr : -2147483648 ≤ a ∧ a ≤ 2147483647) (kt : 0 ≤ a → ZZ k n tgt lv st L F) (kf : a < 0 → ZZ k n (pc + 3) lv st L F) : ZZ k n pc lv (.int (iI a) :: st) L F := by
  subst hZ
  intro p e s m args below meth c D κ hx H locs ls hP hD hS hl
  exact lv_if_ge hx.1 hx.2.1 d ht (fun h => kt ((iI_le (a := 0) ⟨by omega, by omega⟩ ⟨hr.1, hr.2⟩).mp h) p e s m args below meth c D κ hx H locs ls hP hD hS hl) (fun h => kf (by have := mt (iI_le (a := 0) ⟨by omega, by omega⟩ ⟨hr.1, hr.2⟩).mpr h; omega) p e s m args below meth c D κ hx H locs ls hP hD hS hl)
theorem z_icmp_gt (hZ : ZZ = Zj l y cc nL ret R L0 post xp) {a b : Int} {off : Int} {tgt : Nat} (d : decode cc pc = .ok (.if_icmp .gt off, 3)) (ht : (pc : Int) + off = (tgt : Int)) (hr : -2147483648 ≤ a ∧ a ≤ 2147483647 ∧ -2147483648 ≤ b ∧ b ≤ 2147483647) (kt : b < a → ZZ k n tgt lv st L F) (kf : a ≤ b → ZZ k n (pc + 3) lv st L F) : ZZ k n pc lv (.int (iI b) :: .int (iI a) :: st) L F := by
  subst hZ
  intro p e s m args below meth c D κ hx H locs ls hP hD hS hl
  exact lv_icmp_gt hx.1 hx.2.1 d ht (fun h => kt ((iI_lt hr.2.2 ⟨hr.1, hr.2.1⟩).mp h) p e s m args below meth c D κ hx H locs ls hP hD hS hl) (fun h => kf (by have := mt (iI_lt hr.2.2 ⟨hr.1, hr.2.1⟩).mpr h; omega) p e s m args below meth c D κ hx H locs ls hP hD hS hl)
theorem z_if_gt (hZ : ZZ = Zj l y cc nL ret R L0 post xp) {a : Int} {off : Int} {tgt : Nat} (d : decode cc pc = .ok (.ifCond .gt off, 3)) (ht : (pc : Int) + off = (tgt : Int)) (hr : -2147483648 ≤ a ∧ a ≤ 2147483647) (kt : 0 < a → ZZ k n tgt lv st L F) (kf : a ≤ 0 → ZZ k n (pc + 3) lv st L F) : ZZ k n pc lv (.int (iI a) :: st) L F := by
  subst hZ
  intro p e s m args below meth c D κ hx H locs ls hP hD hS hl
  exact lv_if_gt hx.1 hx.2.1 d ht (fun h => kt ((iI_lt (a := 0) ⟨by omega, by omega⟩ ⟨hr.1, hr.2⟩).mp h) p e s m args below meth c D κ hx H locs ls hP hD hS hl) (fun h => kf (by have := mt (iI_lt (a := 0) ⟨by omega, by omega⟩ ⟨hr.1, hr.2⟩).mpr h; omega) p e s m args below meth c D κ hx H locs ls hP hD hS hl)
theorem z_icmp_le (hZ : ZZ = Zj l y cc nL ret R L0 post xp) {a b : Int} {off : Int} {tgt : Nat} (d : decode cc pc = .ok (.if_icmp .le off, 3)) (ht : (pc : Int) + off = (tgt : Int)) (hr : -2147483648 ≤ a ∧ a ≤ 2147483647 ∧ -2147483648 ≤ b ∧ b ≤ 2147483647) (kt : a ≤ b → ZZ k n tgt lv st L F) (kf : b < a → ZZ k n (pc + 3) lv st L F) : ZZ k n pc lv (.int (iI b) :: .int (iI a) :: st) L F := by
  subst hZ
  intro p e s m args below meth c D κ hx H locs ls hP hD hS hl
  exact lv_icmp_le hx.1 hx.2.1 d ht (fun h => kt ((iI_le ⟨hr.1, hr.2.1⟩ hr.2.2).mp h) p e s m args below meth c D κ hx H locs ls hP hD hS hl) (fun h => kf (by have := mt (iI_le ⟨hr.1, hr.2.1⟩ hr.2.2).mpr h; omega) p e s m args below meth c D κ hx H locs ls hP hD hS hl)
theorem z_if_le (hZ : ZZ = Zj l y cc nL ret R L0 post xp) {a : Int} {off : Int} {tgt : Nat} (d : decode cc pc = .ok (.ifCond .le off, 3)) (ht : (pc : Int) + off = (tgt : Int)) (hr : -2147483648 ≤ a ∧ a ≤ 2147483647) (kt : a ≤ 0 → ZZ k n tgt lv st L F) (kf : 0 < a → ZZ k n (pc + 3) lv st L F) : ZZ k n pc lv (.int (iI a) :: st) L F := by
  subst hZ
  intro p e s m args below meth c D κ hx H locs ls hP hD hS hl
  exact lv_if_le hx.1 hx.2.1 d ht (fun h => kt ((iI_le (b := 0) ⟨hr.1, hr.2⟩ ⟨by omega, by omega⟩).mp h) p e s m args below meth c D κ hx H locs ls hP hD hS hl) (fun h => kf (by have := mt (iI_le (b := 0) ⟨hr.1, hr.2⟩ ⟨by omega, by omega⟩).mpr h; omega) p e s m args below meth c D κ hx H locs ls hP hD hS hl)
theorem z_if_eq_raw (hZ : ZZ = Zj l y cc nL ret R L0 post xp) {a : Int32} {off : Int} {tgt : Nat} (d : decode cc pc = .ok (.ifCond .eq off, 3)) (ht : (pc : Int) + off = (tgt : Int)) (kt : a = 0 → ZZ k n tgt lv st L F) (kf : ¬ a = 0 → ZZ k n (pc + 3) lv st L F) : ZZ k n pc lv (.int a :: st) L F := by
  subst hZ
  intro p e s m args below meth c D κ hx H locs ls hP hD hS hl
  exact lv_if_eq hx.1 hx.2.1 d ht (fun h => kt (h) p e s m args below meth c D κ hx H locs ls hP hD hS hl) (fun h => kf (h) p e s m args below meth c D κ hx H locs ls hP hD hS hl)
theorem z_if_ne_raw (hZ : ZZ = Zj l y cc nL ret R L0 post xp) {a : Int32} {off : Int} {tgt : Nat} (d : decode cc pc = .ok (.ifCond .ne off, 3)) (ht : (pc : Int) + off = (tgt : Int)) (kt : ¬ a = 0 → ZZ k n tgt lv st L F) (kf : a = 0 → ZZ k n (pc + 3) lv st L F) : ZZ k n pc lv (.int a :: st) L F := by
  subst hZ
  intro p e s m args below meth c D κ hx H locs ls hP hD hS hl
  exact lv_if_ne hx.1 hx.2.1 d ht (fun h => kt (h) p e s m args below meth c D κ hx H locs ls hP hD hS hl) (fun h => kf (h) p e s m args below meth c D κ hx H locs ls hP hD hS hl)
theorem z_if_lt_raw (hZ : ZZ = Zj l y cc nL ret R L0 post xp) {a : Int32} {off : Int} {tgt : Nat} (d : decode cc pc = .ok (.ifCond .lt off, 3)) (ht : (pc : Int) + off = (tgt : Int)) (kt : a < 0 → ZZ k n tgt lv st L F) (kf : ¬ a < 0 → ZZ k n (pc + 3) lv st L F) : ZZ k n pc lv (.int a :: st) L F := by
  subst hZ
  intro p e s m args below meth c D κ hx H locs ls hP hD hS hl
  exact lv_if_lt hx.1 hx.2.1 d ht (fun h => kt (h) p e s m args below meth c D κ hx H locs ls hP hD hS hl) (fun h => kf (h) p e s m args below meth c D κ hx H locs ls hP hD hS hl)
theorem z_if_ge_raw (hZ : ZZ = Zj l y cc nL ret R L0 post xp) {a : Int32} {off : Int} {tgt : Nat} (d : decode cc pc = .ok (.ifCond .ge off, 3)) (ht : (pc : Int) + off = (tgt : Int)) (kt : 0 ≤ a → ZZ k n tgt lv st L F) (kf : ¬ 0 ≤ a → ZZ k n (pc + 3) lv st L F) : ZZ k n pc lv (.int a :: st) L F := by
  subst hZ
  intro p e s m args below meth c D κ hx H locs ls hP hD hS hl
  exact lv_if_ge hx.1 hx.2.1 d ht (fun h => kt (h) p e s m args below meth c D κ hx H locs ls hP hD hS hl) (fun h => kf (h) p e s m args below meth c D κ hx H locs ls hP hD hS hl)
theorem z_icmp_ne_raw (hZ : ZZ = Zj l y cc nL ret R L0 post xp) {a b : Int32} {off : Int} {tgt : Nat} (d : decode cc pc = .ok (.if_icmp .ne off, 3)) (ht : (pc : Int) + off = (tgt : Int)) (kt : ¬ a = b → ZZ k n tgt lv st L F) (kf : a = b → ZZ k n (pc + 3) lv st L F) : ZZ k n pc lv (.int b :: .int a :: st) L F := by
  subst hZ
  intro p e s m args below meth c D κ hx H locs ls hP hD hS hl
  exact lv_icmp_ne hx.1 hx.2.1 d ht (fun h => kt (h) p e s m args below meth c D κ hx H locs ls hP hD hS hl) (fun h => kf (h) p e s m args below meth c D κ hx H locs ls hP hD hS hl)
theorem z_icmp_eq_raw (hZ : ZZ = Zj l y cc nL ret R L0 post xp) {a b : Int32} {off : Int} {tgt : Nat} (d : decode cc pc = .ok (.if_icmp .eq off, 3)) (ht : (pc : Int) + off = (tgt : Int)) (kt : a = b → ZZ k n tgt lv st L F) (kf : ¬ a = b → ZZ k n (pc + 3) lv st L F) : ZZ k n pc lv (.int b :: .int a :: st) L F := by
  subst hZ
  intro p e s m args below meth c D κ hx H locs ls hP hD hS hl
  exact lv_icmp_eq hx.1 hx.2.1 d ht (fun h => kt (h) p e s m args below meth c D κ hx H locs ls hP hD hS hl) (fun h => kf (h) p e s m args below meth c D κ hx H locs ls hP hD hS hl)
theorem z_if_eq_b (hZ : ZZ = Zj l y cc nL ret R L0 post xp) {P : Prop} [Decidable P] {off : Int} {tgt : Nat} (d : decode cc pc = .ok (.ifCond .eq off, 3)) (ht : (pc : Int) + off = (tgt : Int)) (kt : ¬ P → ZZ k n tgt lv st L F) (kf : P → ZZ k n (pc + 3) lv st L F) : ZZ k n pc lv (.int (iI (b2 P)) :: st) L F := by
  subst hZ
  intro p e s m args below meth c D κ hx H locs ls hP hD hS hl
  exact lv_if_eq hx.1 hx.2.1 d ht (fun h => kt (by have h := (iI_eq (a := b2 P) (b := 0) ⟨by rcases b2_in P with q | q <;> omega, by rcases b2_in P with q | q <;> omega⟩ ⟨by omega, by omega⟩).mp h; intro q; rw [b2_t q] at h; cases h) p e s m args below meth c D κ hx H locs ls hP hD hS hl) (fun h => kf (Decidable.byContradiction fun q => h ((iI_eq (a := b2 P) (b := 0) ⟨by rcases b2_in P with q | q <;> omega, by rcases b2_in P with q | q <;> omega⟩ ⟨by omega, by omega⟩).mpr (b2_f q))) p e s m args below meth c D κ hx H locs ls hP hD hS hl)
theorem z_if_ne_b (hZ : ZZ = Zj l y cc nL ret R L0 post xp) {P : Prop} [Decidable P] {off : Int} {tgt : Nat} (d : decode cc pc = .ok (.ifCond .ne off, 3)) (ht : (pc : Int) + off = (tgt : Int)) (kt : P → ZZ k n tgt lv st L F) (kf : ¬ P → ZZ k n (pc + 3) lv st L F) : ZZ k n pc lv (.int (iI (b2 P)) :: st) L F := by
  subst hZ
  intro p e s m args below meth c D κ hx H locs ls hP hD hS hl
  exact lv_if_ne hx.1 hx.2.1 d ht (fun h => kt (Decidable.byContradiction fun q => h ((iI_eq (a := b2 P) (b := 0) ⟨by rcases b2_in P with q | q <;> omega, by rcases b2_in P with q | q <;> omega⟩ ⟨by omega, by omega⟩).mpr (b2_f q))) p e s m args below meth c D κ hx H locs ls hP hD hS hl) (fun h => kf (by have h := (iI_eq (a := b2 P) (b := 0) ⟨by rcases b2_in P with q | q <;> omega, by rcases b2_in P with q | q <;> omega⟩ ⟨by omega, by omega⟩).mp h; intro q; rw [b2_t q] at h; cases h) p e s m args below meth c D κ hx H locs ls hP hD hS hl)
theorem z_goto (hZ : ZZ = Zj l y cc nL ret R L0 post xp) {off : Int} {tgt : Nat} (d : decode cc pc = .ok (.goto off, 3)) (ht : (pc : Int) + off = (tgt : Int)) (kk : ZZ k n tgt lv st L F) : ZZ k n pc lv st L F := by
  subst hZ
  intro p e s m args below meth c D κ hx H locs ls hP hD hS hl
  exact lv_goto hx.1 hx.2.1 d ht (kk p e s m args below meth c D κ hx H locs ls hP hD hS hl)
theorem z_tIn (hZ : ZZ = Zj l y cc nL ret R L0 post xp) {dflt lo hi off a : Int} {offs : Array Int} {len tgt : Nat} (d : decode cc pc = .ok (.tableswitch dflt lo hi offs, len)) (hr : -2147483648 ≤ a ∧ a ≤ 2147483647 ∧ lo ≤ a ∧ a ≤ hi) (ho : offs[(a - lo).toNat]? = some off) (ht : (pc : Int) + off = (tgt : Int)) (kk : ZZ k n tgt lv st L F) : ZZ k n pc lv (.int (iI a) :: st) L F := by
  subst hZ
  intro p e s m args below meth c D κ hx H locs ls hP hD hS hl
  exact lv_tableIn hx.1 hx.2.1 d (by rw [iI_toInt ⟨hr.1, hr.2.1⟩]; omega) (by rw [iI_toInt ⟨hr.1, hr.2.1⟩]; omega) (by rw [iI_toInt ⟨hr.1, hr.2.1⟩]; exact ho) ht (kk p e s m args below meth c D κ hx H locs ls hP hD hS hl)
theorem z_tOut (hZ : ZZ = Zj l y cc nL ret R L0 post xp) {dflt lo hi a : Int} {offs : Array Int} {len tgt : Nat} (d : decode cc pc = .ok (.tableswitch dflt lo hi offs, len)) (hr : -2147483648 ≤ a ∧ a ≤ 2147483647) (h : a < lo ∨ hi < a) (ht : (pc : Int) + dflt = (tgt : Int)) (kk : ZZ k n tgt lv st L F) : ZZ k n pc lv (.int (iI a) :: st) L F := by
  subst hZ
  intro p e s m args below meth c D κ hx H locs ls hP hD hS hl
  exact lv_tableOut hx.1 hx.2.1 d (by rw [iI_toInt hr]; exact h) ht (kk p e s m args below meth c D κ hx H locs ls hP hD hS hl)
theorem z_lsw (hZ : ZZ = Zj l y cc nL ret R L0 post xp) {dflt off a : Int} {ps : Array (Int × Int)} {len tgt : Nat} (d : decode cc pc = .ok (.lookupswitch dflt ps, len)) (hr : -2147483648 ≤ a ∧ a ≤ 2147483647) (hp : (ps.toList.zip (ps.toList.drop 1)).all (fun (a, next) => a.1 < next.1) = true) (ho : Op.lookupswitch.offset ps.toList dflt a = off) (ht : (pc : Int) + off = (tgt : Int)) (kk : ZZ k n tgt lv st L F) : ZZ k n pc lv (.int (iI a) :: st) L F := by
  subst hZ
  intro p e s m args below meth c D κ hx H locs ls hP hD hS hl
  exact lv_lookup hx.1 hx.2.1 d hp (by rw [iI_toInt hr]; exact ho) ht (kk p e s m args below meth c D κ hx H locs ls hP hD hS hl)
end ZR
end
section
/-! WORDS of the tables, by their places. -/
theorem cl_L_8 : Cond.classLink RL 8 RX7 ∈ wsG := wg (tw1 23 rfl) rfl
theorem it_X7 : Cond.instantiable RX7 5 ∈ wsG := wg (tw1 24 rfl) rfl
theorem ml_L_106 : Cond.methodLink RL 106 yX7_init ∈ wsG := wg (tw1 25 rfl) rfl
theorem ml_X7_1 : Cond.methodLink RX7 1 ⟨"java/lang/Object", "<init>", "()V"⟩ ∈ wsG := wg (tw1 28 rfl) rfl
theorem cl_X7_7 : Cond.classLink RX7 7 RX5 ∈ wsG := wg (tw1 31 rfl) rfl
theorem it_X5 : Cond.instantiable RX5 4 ∈ wsG := wg (tw1 32 rfl) rfl
theorem ml_X5_3 : Cond.methodLink RX5 3 ⟨"java/lang/Object", "<init>", "()V"⟩ ∈ wsG := wg (tw1 36 rfl) rfl
theorem cl_X5_9 : Cond.classLink RX5 9 RX4 ∈ wsG := wg (tw1 37 rfl) rfl
theorem it_X4 : Cond.instantiable RX4 3 ∈ wsG := wg (tw1 38 rfl) rfl
theorem ml_X4_3 : Cond.methodLink RX4 3 ⟨"java/lang/Object", "<init>", "()V"⟩ ∈ wsG := wg (tw1 42 rfl) rfl
theorem cl_X4_9 : Cond.classLink RX4 9 RX6 ∈ wsG := wg (tw1 43 rfl) rfl
theorem it_X6 : Cond.instantiable RX6 2 ∈ wsG := wg (tw1 44 rfl) rfl
theorem ml_X4_11 : Cond.methodLink RX4 11 yX6_init ∈ wsG := wg (tw1 45 rfl) rfl
theorem ml_X6_3 : Cond.methodLink RX6 3 ⟨"java/lang/Object", "<init>", "()V"⟩ ∈ wsG := wg (tw1 48 rfl) rfl
theorem fl_X6_9 : Cond.fieldLink RX6 9 "DragonRing$Text" "codes" "[I" ∈ wsG := wg (tw1 49 rfl) rfl
theorem fl_X6_15 : Cond.fieldLink RX6 15 "DragonRing$Text" "count" "I" ∈ wsG := wg (tw1 50 rfl) rfl
theorem ac_int : Cond.arrayClass .int ∈ wsG := wg (tw1 56 rfl) rfl
theorem fl_X4_14 : Cond.fieldLink RX4 14 "DragonRing$Scroll" "text" "LDragonRing$Text;" ∈ wsG := wg (tw1 57 rfl) rfl
theorem fl_X5_111 : Cond.fieldLink RX5 111 "DragonRing$Scroll" "text" "LDragonRing$Text;" ∈ wsG := wg (tw1 58 rfl) rfl
theorem fl_X7_72 : Cond.fieldLink RX7 72 "DragonRing$Scroll" "text" "LDragonRing$Text;" ∈ wsG := wg (tw1 59 rfl) rfl
theorem fl_X4_28 : Cond.fieldLink RX4 28 "DragonRing$Scroll" "point" "I" ∈ wsG := wg (tw1 60 rfl) rfl
theorem fl_X5_49 : Cond.fieldLink RX5 49 "DragonRing$Scroll" "point" "I" ∈ wsG := wg (tw1 61 rfl) rfl
theorem fl_X7_205 : Cond.fieldLink RX7 205 "DragonRing$Scroll" "point" "I" ∈ wsG := wg (tw1 62 rfl) rfl
theorem fl_X4_20 : Cond.fieldLink RX4 20 "DragonRing$Scroll" "mark" "I" ∈ wsG := wg (tw1 63 rfl) rfl
theorem fl_X5_173 : Cond.fieldLink RX5 173 "DragonRing$Scroll" "mark" "I" ∈ wsG := wg (tw1 64 rfl) rfl
theorem fl_X7_209 : Cond.fieldLink RX7 209 "DragonRing$Scroll" "mark" "I" ∈ wsG := wg (tw1 65 rfl) rfl
theorem cl_X5_18 : Cond.classLink RX5 18 RX3 ∈ wsG := wg (tw1 73 rfl) rfl
theorem it_X3 : Cond.instantiable RX3 5 ∈ wsG := wg (tw1 74 rfl) rfl
theorem ml_X5_20 : Cond.methodLink RX5 20 yX3_init ∈ wsG := wg (tw1 75 rfl) rfl
theorem ml_X3_3 : Cond.methodLink RX3 3 ⟨"java/lang/Object", "<init>", "()V"⟩ ∈ wsG := wg (tw1 78 rfl) rfl
theorem cl_X3_9 : Cond.classLink RX3 9 RX6 ∈ wsG := wg (tw1 79 rfl) rfl
theorem ml_X3_17 : Cond.methodLink RX3 17 yX6_init ∈ wsG := wg (tw1 81 rfl) rfl
theorem fl_X3_11 : Cond.fieldLink RX3 11 "DragonRing$Ring" "rows" "[LDragonRing$Text;" ∈ wsG := wg (tw1 82 rfl) rfl
theorem fl_X3_20 : Cond.fieldLink RX3 20 "DragonRing$Ring" "noHoard" "LDragonRing$Text;" ∈ wsG := wg (tw1 83 rfl) rfl
theorem fl_X3_31 : Cond.fieldLink RX3 31 "DragonRing$Ring" "count" "I" ∈ wsG := wg (tw1 84 rfl) rfl
theorem fl_X5_214 : Cond.fieldLink RX5 214 "DragonRing$Ring" "count" "I" ∈ wsG := wg (tw1 85 rfl) rfl
theorem fl_X7_240 : Cond.fieldLink RX7 240 "DragonRing$Ring" "count" "I" ∈ wsG := wg (tw1 86 rfl) rfl
theorem fl_X3_24 : Cond.fieldLink RX3 24 "DragonRing$Ring" "caves" "I" ∈ wsG := wg (tw1 87 rfl) rfl
theorem fl_X5_232 : Cond.fieldLink RX5 232 "DragonRing$Ring" "caves" "I" ∈ wsG := wg (tw1 88 rfl) rfl
theorem fl_X7_244 : Cond.fieldLink RX7 244 "DragonRing$Ring" "caves" "I" ∈ wsG := wg (tw1 89 rfl) rfl
theorem fl_X3_28 : Cond.fieldLink RX3 28 "DragonRing$Ring" "next" "I" ∈ wsG := wg (tw1 90 rfl) rfl
theorem fl_X5_207 : Cond.fieldLink RX5 207 "DragonRing$Ring" "next" "I" ∈ wsG := wg (tw1 91 rfl) rfl
theorem fl_X7_254 : Cond.fieldLink RX7 254 "DragonRing$Ring" "next" "I" ∈ wsG := wg (tw1 92 rfl) rfl
theorem cl_X5_25 : Cond.classLink RX5 25 RX0 ∈ wsG := wg (tw1 104 rfl) rfl
theorem it_X0 : Cond.instantiable RX0 6 ∈ wsG := wg (tw1 105 rfl) rfl
theorem ml_X0_1 : Cond.methodLink RX0 1 ⟨"java/lang/Object", "<init>", "()V"⟩ ∈ wsG := wg (tw1 109 rfl) rfl
theorem fl_X0_7 : Cond.fieldLink RX0 7 "DragonRing$Accounts" "written" "I" ∈ wsG := wg (tw1 110 rfl) rfl
theorem fl_X5_123 : Cond.fieldLink RX5 123 "DragonRing$Accounts" "written" "I" ∈ wsG := wg (tw1 111 rfl) rfl
theorem fl_X7_278 : Cond.fieldLink RX7 278 "DragonRing$Accounts" "written" "I" ∈ wsG := wg (tw1 112 rfl) rfl
theorem fl_X0_13 : Cond.fieldLink RX0 13 "DragonRing$Accounts" "rubbed" "I" ∈ wsG := wg (tw1 113 rfl) rfl
theorem fl_X5_136 : Cond.fieldLink RX5 136 "DragonRing$Accounts" "rubbed" "I" ∈ wsG := wg (tw1 114 rfl) rfl
theorem fl_X7_281 : Cond.fieldLink RX7 281 "DragonRing$Accounts" "rubbed" "I" ∈ wsG := wg (tw1 115 rfl) rfl
theorem fl_X0_16 : Cond.fieldLink RX0 16 "DragonRing$Accounts" "killed" "I" ∈ wsG := wg (tw1 116 rfl) rfl
theorem fl_X5_201 : Cond.fieldLink RX5 201 "DragonRing$Accounts" "killed" "I" ∈ wsG := wg (tw1 117 rfl) rfl
theorem fl_X7_270 : Cond.fieldLink RX7 270 "DragonRing$Accounts" "killed" "I" ∈ wsG := wg (tw1 118 rfl) rfl
theorem fl_X0_19 : Cond.fieldLink RX0 19 "DragonRing$Accounts" "yanked" "I" ∈ wsG := wg (tw1 119 rfl) rfl
theorem fl_X5_223 : Cond.fieldLink RX5 223 "DragonRing$Accounts" "yanked" "I" ∈ wsG := wg (tw1 120 rfl) rfl
theorem fl_X7_275 : Cond.fieldLink RX7 275 "DragonRing$Accounts" "yanked" "I" ∈ wsG := wg (tw1 121 rfl) rfl
theorem fl_X0_22 : Cond.fieldLink RX0 22 "DragonRing$Accounts" "takenOut" "I" ∈ wsG := wg (tw1 122 rfl) rfl
theorem fl_X5_229 : Cond.fieldLink RX5 229 "DragonRing$Accounts" "takenOut" "I" ∈ wsG := wg (tw1 123 rfl) rfl
theorem fl_X0_25 : Cond.fieldLink RX0 25 "DragonRing$Accounts" "lost" "I" ∈ wsG := wg (tw1 124 rfl) rfl
theorem fl_X5_194 : Cond.fieldLink RX5 194 "DragonRing$Accounts" "lost" "I" ∈ wsG := wg (tw1 125 rfl) rfl
theorem fl_X7_284 : Cond.fieldLink RX7 284 "DragonRing$Accounts" "lost" "I" ∈ wsG := wg (tw1 126 rfl) rfl
theorem fl_X5_12 : Cond.fieldLink RX5 12 "DragonRing$State" "scroll" "LDragonRing$Scroll;" ∈ wsG := wg (tw1 140 rfl) rfl
theorem fl_X7_68 : Cond.fieldLink RX7 68 "DragonRing$State" "scroll" "LDragonRing$Scroll;" ∈ wsG := wg (tw1 141 rfl) rfl
theorem fl_X5_21 : Cond.fieldLink RX5 21 "DragonRing$State" "ring" "LDragonRing$Ring;" ∈ wsG := wg (tw1 142 rfl) rfl
theorem fl_X7_236 : Cond.fieldLink RX7 236 "DragonRing$State" "ring" "LDragonRing$Ring;" ∈ wsG := wg (tw1 143 rfl) rfl
theorem fl_X5_28 : Cond.fieldLink RX5 28 "DragonRing$State" "accounts" "LDragonRing$Accounts;" ∈ wsG := wg (tw1 144 rfl) rfl
theorem fl_X7_266 : Cond.fieldLink RX7 266 "DragonRing$State" "accounts" "LDragonRing$Accounts;" ∈ wsG := wg (tw1 145 rfl) rfl
theorem fl_X5_32 : Cond.fieldLink RX5 32 "DragonRing$State" "kind" "I" ∈ wsG := wg (tw1 146 rfl) rfl
theorem fl_X7_257 : Cond.fieldLink RX7 257 "DragonRing$State" "kind" "I" ∈ wsG := wg (tw1 147 rfl) rfl
theorem cl_X7_16 : Cond.classLink RX7 16 RX2 ∈ wsG := wg (tw1 157 rfl) rfl
theorem it_X2 : Cond.instantiable RX2 3 ∈ wsG := wg (tw1 158 rfl) rfl
theorem ml_X7_18 : Cond.methodLink RX7 18 yX2_init ∈ wsG := wg (tw1 159 rfl) rfl
theorem ml_X2_3 : Cond.methodLink RX2 3 ⟨"java/lang/Object", "<init>", "()V"⟩ ∈ wsG := wg (tw1 162 rfl) rfl
theorem cl_X2_11 : Cond.classLink RX2 11 RX5 ∈ wsG := wg (tw1 163 rfl) rfl
theorem fl_X2_13 : Cond.fieldLink RX2 13 "DragonRing$History" "rows" "[LDragonRing$State;" ∈ wsG := wg (tw1 166 rfl) rfl
theorem fl_X2_36 : Cond.fieldLink RX2 36 "DragonRing$History" "first" "I" ∈ wsG := wg (tw1 167 rfl) rfl
theorem fl_X2_18 : Cond.fieldLink RX2 18 "DragonRing$History" "saved" "I" ∈ wsG := wg (tw1 168 rfl) rfl
theorem cl_X7_31 : Cond.classLink RX7 31 RX6 ∈ wsG := wg (tw1 176 rfl) rfl
theorem ml_X7_33 : Cond.methodLink RX7 33 yX6_init ∈ wsG := wg (tw1 177 rfl) rfl
theorem fl_X7_10 : Cond.fieldLink RX7 10 "DragonRing" "now" "LDragonRing$State;" ∈ wsG := wg (tw1 178 rfl) rfl
theorem fl_X7_19 : Cond.fieldLink RX7 19 "DragonRing" "history" "LDragonRing$History;" ∈ wsG := wg (tw1 179 rfl) rfl
theorem fl_X7_23 : Cond.fieldLink RX7 23 "DragonRing" "slots" "[LDragonRing$State;" ∈ wsG := wg (tw1 180 rfl) rfl
theorem fl_X7_27 : Cond.fieldLink RX7 27 "DragonRing" "isKept" "[Z" ∈ wsG := wg (tw1 181 rfl) rfl
theorem fl_X7_36 : Cond.fieldLink RX7 36 "DragonRing" "buffer" "LDragonRing$Text;" ∈ wsG := wg (tw1 182 rfl) rfl
theorem ac_boolean : Cond.arrayClass .boolean ∈ wsG := wg (tw1 194 rfl) rfl
theorem ml_L_126 : Cond.methodLink RL 126 yX7_greaten ∈ wsG := wg (tw1 195 rfl) rfl
theorem ml_X7_47 : Cond.methodLink RX7 47 yX2_prepare ∈ wsG := wg (tw1 199 rfl) rfl
theorem ml_X2_28 : Cond.methodLink RX2 28 yX2_prepared ∈ wsG := wg (tw1 203 rfl) rfl
theorem ml_X2_39 : Cond.methodLink RX2 39 yX2_row ∈ wsG := wg (tw1 207 rfl) rfl
theorem ml_X2_22 : Cond.methodLink RX2 22 yJ9_floorMod_7cf53 ∈ wsG := wg (tw1 211 rfl) rfl
theorem ml_X2_32 : Cond.methodLink RX2 32 yX5_copyFrom ∈ wsG := wg (tw1 214 rfl) rfl
theorem ml_X5_36 : Cond.methodLink RX5 36 yX4_copyFrom ∈ wsG := wg (tw1 218 rfl) rfl
theorem ml_X4_24 : Cond.methodLink RX4 24 yX6_copyFrom ∈ wsG := wg (tw1 222 rfl) rfl
theorem ml_X6_19 : Cond.methodLink RX6 19 yJ9_min_7cf53 ∈ wsG := wg (tw1 226 rfl) rfl
theorem ml_X6_25 : Cond.methodLink RX6 25 ⟨RJ10, "arraycopy", "(Ljava/lang/Object;ILjava/lang/Object;II)V"⟩ ∈ wsG := wg (tw1 229 rfl) rfl
theorem ml_X5_40 : Cond.methodLink RX5 40 yX3_copyFrom ∈ wsG := wg (tw1 232 rfl) rfl
theorem ml_X3_34 : Cond.methodLink RX3 34 yX6_copyFrom ∈ wsG := wg (tw1 236 rfl) rfl
theorem ml_X5_43 : Cond.methodLink RX5 43 yX0_copyFrom ∈ wsG := wg (tw1 237 rfl) rfl
theorem ml_X7_65 : Cond.methodLink RX7 65 yX5_makeGreat ∈ wsG := wg (tw2 1 rfl) rfl
theorem ml_X5_142 : Cond.methodLink RX5 142 yX4_wordStop ∈ wsG := wg (tw2 5 rfl) rfl
theorem ml_X4_38 : Cond.methodLink RX4 38 yX6_count ∈ wsG := wg (tw2 9 rfl) rfl
theorem ml_X4_66 : Cond.methodLink RX4 66 yX4_isWordAt ∈ wsG := wg (tw2 13 rfl) rfl
theorem ml_X4_59 : Cond.methodLink RX4 59 yX6_code ∈ wsG := wg (tw2 17 rfl) rfl
theorem ml_X4_62 : Cond.methodLink RX4 62 yX4_isSmallAt ∈ wsG := wg (tw2 21 rfl) rfl
theorem ml_X5_145 : Cond.methodLink RX5 145 yX4_isSmallAt ∈ wsG := wg (tw2 25 rfl) rfl
theorem ml_X5_129 : Cond.methodLink RX5 129 yX6_code ∈ wsG := wg (tw2 26 rfl) rfl
theorem ml_X5_139 : Cond.methodLink RX5 139 yX6_change ∈ wsG := wg (tw2 27 rfl) rfl
theorem ml_X7_55 : Cond.methodLink RX7 55 yX7_settled ∈ wsG := wg (tw2 31 rfl) rfl
theorem ml_X7_212 : Cond.methodLink RX7 212 yX7_possible ∈ wsG := wg (tw2 35 rfl) rfl
theorem cl_X7_148 : Cond.classLink RX7 148 "java/lang/IllegalStateException" ∈ wsG := wg (tw2 38 rfl) rfl
theorem ml_X7_152 : Cond.methodLink RX7 152 ⟨"java/lang/IllegalStateException", "<init>", "(Ljava/lang/String;)V"⟩ ∈ wsG := wg (tw2 80 rfl) rfl
theorem ac_byte : Cond.arrayClass .byte ∈ wsG := wg (tw2 105 rfl) rfl
theorem ml_X7_187 : Cond.methodLink RX7 187 yX2_save ∈ wsG := wg (tw2 106 rfl) rfl
theorem ml_L_133 : Cond.methodLink RL 133 yX7_wordOn ∈ wsG := wg (tw2 110 rfl) rfl
theorem ml_X7_85 : Cond.methodLink RX7 85 yX5_goWordOn ∈ wsG := wg (tw2 114 rfl) rfl
theorem ml_X5_154 : Cond.methodLink RX5 154 yX5_goAsFarAs ∈ wsG := wg (tw2 118 rfl) rfl
theorem ml_X5_52 : Cond.methodLink RX5 52 yX5_goPlace ∈ wsG := wg (tw2 122 rfl) rfl
theorem ml_X5_126 : Cond.methodLink RX5 126 yX6_count ∈ wsG := wg (tw2 126 rfl) rfl
theorem ml_X5_149 : Cond.methodLink RX5 149 yJ9_abs_0f7a4 ∈ wsG := wg (tw2 127 rfl) rfl
theorem ml_L_137 : Cond.methodLink RL 137 yX7_wordBack ∈ wsG := wg (tw2 130 rfl) rfl
theorem ml_X7_88 : Cond.methodLink RX7 88 yX5_goWordBack ∈ wsG := wg (tw2 134 rfl) rfl
theorem ml_X5_157 : Cond.methodLink RX5 157 yX4_wordStart ∈ wsG := wg (tw2 138 rfl) rfl
theorem ml_L_141 : Cond.methodLink RL 141 yX7_lineBegin ∈ wsG := wg (tw2 142 rfl) rfl
theorem ml_X7_91 : Cond.methodLink RX7 91 yX5_goLineStart ∈ wsG := wg (tw2 146 rfl) rfl
theorem ml_X5_160 : Cond.methodLink RX5 160 yX4_lineStart ∈ wsG := wg (tw2 150 rfl) rfl
theorem ml_X4_69 : Cond.methodLink RX4 69 yX4_isEndAt ∈ wsG := wg (tw2 154 rfl) rfl
theorem ml_L_145 : Cond.methodLink RL 145 yX7_lineEnd ∈ wsG := wg (tw2 158 rfl) rfl
theorem ml_X7_94 : Cond.methodLink RX7 94 yX5_goLineStop ∈ wsG := wg (tw2 162 rfl) rfl
theorem ml_X5_163 : Cond.methodLink RX5 163 yX4_lineStop ∈ wsG := wg (tw2 166 rfl) rfl
theorem ml_L_152 : Cond.methodLink RL 152 yX7_mark ∈ wsG := wg (tw2 170 rfl) rfl
theorem ml_X7_102 : Cond.methodLink RX7 102 yX5_setMark ∈ wsG := wg (tw2 174 rfl) rfl
theorem ml_L_192 : Cond.methodLink RL 192 yX7_clearBuffer ∈ wsG := wg (tw2 178 rfl) rfl
theorem ml_X7_77 : Cond.methodLink RX7 77 yX6_count ∈ wsG := wg (tw2 182 rfl) rfl
theorem ml_X7_157 : Cond.methodLink RX7 157 yX6_empty ∈ wsG := wg (tw2 183 rfl) rfl
theorem ml_L_196 : Cond.methodLink RL 196 yX7_firstError ∈ wsG := wg (tw2 187 rfl) rfl
theorem ml_X7_160 : Cond.methodLink RX7 160 yX6_code ∈ wsG := wg (tw2 191 rfl) rfl
theorem ml_X7_163 : Cond.methodLink RX7 163 yX7_stageBehind ∈ wsG := wg (tw2 192 rfl) rfl
theorem ml_X7_316 : Cond.methodLink RX7 316 yJ0_indexOf_0f7a4 ∈ wsG := wg (tw2 196 rfl) rfl
theorem ml_J0_633 : Cond.methodLink RJ0 633 yJ0_indexOf_7cf53 ∈ wsG := wg (tw2 200 rfl) rfl
theorem ml_J0_492 : Cond.methodLink RJ0 492 yJ0_isLatin1_aae02 ∈ wsG := wg (tw2 204 rfl) rfl
theorem fl_J0_38 : Cond.fieldLink RJ0 38 "java/lang/String" "COMPACT_STRINGS" "Z" ∈ wsG := wg (tw2 208 rfl) rfl
theorem ml_J0_505 : Cond.methodLink RJ0 505 yJ0_length_8abf5 ∈ wsG := wg (tw2 210 rfl) rfl
theorem ml_J0_335 : Cond.methodLink RJ0 335 yJ0_coder_7d493 ∈ wsG := wg (tw2 214 rfl) rfl
theorem ml_J0_637 : Cond.methodLink RJ0 637 yJ1_indexOf_4cfef ∈ wsG := wg (tw2 218 rfl) rfl
theorem ml_J1_88 : Cond.methodLink RJ1 88 yJ1_canEncode_9a6ad ∈ wsG := wg (tw2 221 rfl) rfl
theorem ml_J1_92 : Cond.methodLink RJ1 92 yJ9_max_7cf53 ∈ wsG := wg (tw2 224 rfl) rfl
theorem ml_J1_38 : Cond.methodLink RJ1 38 yJ9_min_7cf53 ∈ wsG := wg (tw2 227 rfl) rfl
theorem ml_J1_95 : Cond.methodLink RJ1 95 yJ1_indexOfChar_4cfef ∈ wsG := wg (tw2 228 rfl) rfl
theorem ml_J0_640 : Cond.methodLink RJ0 640 yJ2_indexOf_4cfef ∈ wsG := wg (tw2 231 rfl) rfl
theorem ml_J2_224 : Cond.methodLink RJ2 224 yJ9_max_7cf53 ∈ wsG := wg (tw2 234 rfl) rfl
theorem ml_J2_183 : Cond.methodLink RJ2 183 yJ9_min_7cf53 ∈ wsG := wg (tw2 235 rfl) rfl
theorem ml_J2_228 : Cond.methodLink RJ2 228 yJ2_indexOfChar_4cfef ∈ wsG := wg (tw2 237 rfl) rfl
theorem ml_J2_96 : Cond.methodLink RJ2 96 yJ2_checkBoundsBeginEnd_d044e ∈ wsG := wg (tw3 0 rfl) rfl
theorem ml_J2_48 : Cond.methodLink RJ2 48 yJ2_length_9d52b ∈ wsG := wg (tw3 3 rfl) rfl
theorem ml_J2_241 : Cond.methodLink RJ2 241 yJ0_checkBoundsBeginEnd_23922 ∈ wsG := wg (tw3 6 rfl) rfl
theorem fl_J0_1053 : Cond.fieldLink RJ0 1053 "jdk/internal/util/Preconditions" "SIOOBE_FORMATTER" "Ljava/util/function/BiFunction;" ∈ wsG := wg (tw3 9 rfl) rfl
theorem ml_J0_1062 : Cond.methodLink RJ0 1062 yJ3_checkFromToIndex_8c36e ∈ wsG := wg (tw3 11 rfl) rfl
theorem ml_J2_244 : Cond.methodLink RJ2 244 yJ2_indexOfCharUnsafe_4cfef ∈ wsG := wg (tw3 14 rfl) rfl
theorem ml_J2_71 : Cond.methodLink RJ2 71 yJ2_getChar_3b067 ∈ wsG := wg (tw3 17 rfl) rfl
theorem fl_J2_44 : Cond.fieldLink RJ2 44 "java/lang/StringUTF16" "$assertionsDisabled" "Z" ∈ wsG := wg (tw3 20 rfl) rfl
theorem fl_J2_59 : Cond.fieldLink RJ2 59 "java/lang/StringUTF16" "HI_BYTE_SHIFT" "I" ∈ wsG := wg (tw3 22 rfl) rfl
theorem fl_J2_63 : Cond.fieldLink RJ2 63 "java/lang/StringUTF16" "LO_BYTE_SHIFT" "I" ∈ wsG := wg (tw3 24 rfl) rfl
theorem ml_J2_232 : Cond.methodLink RJ2 232 yJ2_indexOfSupplementary_4cfef ∈ wsG := wg (tw3 26 rfl) rfl
theorem ml_J2_164 : Cond.methodLink RJ2 164 yJ11_isValidCodePoint_9a6ad ∈ wsG := wg (tw3 29 rfl) rfl
theorem ml_J2_157 : Cond.methodLink RJ2 157 yJ11_highSurrogate_5068e ∈ wsG := wg (tw3 32 rfl) rfl
theorem ml_J2_161 : Cond.methodLink RJ2 161 yJ11_lowSurrogate_5068e ∈ wsG := wg (tw3 36 rfl) rfl
theorem ml_X7_321 : Cond.methodLink RX7 321 yX7_isNumber ∈ wsG := wg (tw3 40 rfl) rfl
theorem ml_L_214 : Cond.methodLink RL 214 yX7_savedStates ∈ wsG := wg (tw3 43 rfl) rfl
theorem ml_X7_193 : Cond.methodLink RX7 193 yX2_count ∈ wsG := wg (tw3 47 rfl) rfl
theorem ml_L_218 : Cond.methodLink RL 218 yX7_length ∈ wsG := wg (tw3 51 rfl) rfl
theorem ml_L_225 : Cond.methodLink RL 225 yX7_point ∈ wsG := wg (tw3 55 rfl) rfl
theorem ml_L_235 : Cond.methodLink RL 235 yX7_linesByEnds ∈ wsG := wg (tw3 59 rfl) rfl
theorem ml_X7_218 : Cond.methodLink RX7 218 yX4_endsAhead ∈ wsG := wg (tw3 63 rfl) rfl
theorem ml_L_239 : Cond.methodLink RL 239 yX7_linesByGoing ∈ wsG := wg (tw3 67 rfl) rfl
theorem ml_X7_221 : Cond.methodLink RX7 221 yX4_linesGone ∈ wsG := wg (tw3 71 rfl) rfl
theorem ml_X4_75 : Cond.methodLink RX4 75 yX4_lineStop ∈ wsG := wg (tw3 75 rfl) rfl
theorem ml_L_243 : Cond.methodLink RL 243 yX7_line ∈ wsG := wg (tw3 76 rfl) rfl
theorem ml_L_247 : Cond.methodLink RL 247 yX7_column ∈ wsG := wg (tw3 80 rfl) rfl
theorem ml_X7_224 : Cond.methodLink RX7 224 yX4_lineStart ∈ wsG := wg (tw3 84 rfl) rfl
theorem ml_L_251 : Cond.methodLink RL 251 yX7_longestLine ∈ wsG := wg (tw3 85 rfl) rfl
theorem ml_X7_227 : Cond.methodLink RX7 227 yX4_longest ∈ wsG := wg (tw3 89 rfl) rfl
theorem ml_X4_82 : Cond.methodLink RX4 82 yJ9_max_7cf53 ∈ wsG := wg (tw3 93 rfl) rfl
theorem ml_L_255 : Cond.methodLink RL 255 yX7_wordsByBegins ∈ wsG := wg (tw3 94 rfl) rfl
theorem ml_X7_230 : Cond.methodLink RX7 230 yX4_wordsBegun ∈ wsG := wg (tw3 98 rfl) rfl
theorem ml_L_259 : Cond.methodLink RL 259 yX7_wordsByGoing ∈ wsG := wg (tw3 102 rfl) rfl
theorem ml_X7_233 : Cond.methodLink RX7 233 yX4_wordsGone ∈ wsG := wg (tw3 106 rfl) rfl
theorem ml_X4_86 : Cond.methodLink RX4 86 yX4_wordStop ∈ wsG := wg (tw3 110 rfl) rfl
theorem ml_L_263 : Cond.methodLink RL 263 yX7_hoards ∈ wsG := wg (tw3 111 rfl) rfl
theorem ml_L_267 : Cond.methodLink RL 267 yX7_caves ∈ wsG := wg (tw3 115 rfl) rfl
theorem ml_L_281 : Cond.methodLink RL 281 yX7_isGrowing ∈ wsG := wg (tw3 119 rfl) rfl
theorem ml_L_286 : Cond.methodLink RL 286 yX7_canTurnYank ∈ wsG := wg (tw3 123 rfl) rfl
theorem ml_L_293 : Cond.methodLink RL 293 yX7_weight ∈ wsG := wg (tw3 127 rfl) rfl
theorem ml_X7_260 : Cond.methodLink RX7 260 yX3_allCodes ∈ wsG := wg (tw3 131 rfl) rfl
theorem ml_X3_38 : Cond.methodLink RX3 38 yX3_hoard ∈ wsG := wg (tw3 135 rfl) rfl
theorem ml_X3_42 : Cond.methodLink RX3 42 yX6_count ∈ wsG := wg (tw3 139 rfl) rfl
theorem ml_L_300 : Cond.methodLink RL 300 yX7_killed ∈ wsG := wg (tw3 140 rfl) rfl
theorem ml_L_304 : Cond.methodLink RL 304 yX7_yanked ∈ wsG := wg (tw3 144 rfl) rfl
theorem ml_L_308 : Cond.methodLink RL 308 yX7_written ∈ wsG := wg (tw3 148 rfl) rfl
theorem ml_L_312 : Cond.methodLink RL 312 yX7_lostHoards ∈ wsG := wg (tw3 152 rfl) rfl
theorem ml_L_316 : Cond.methodLink RL 316 yX7_lengthByAccount ∈ wsG := wg (tw3 156 rfl) rfl
theorem ml_X7_287 : Cond.methodLink RX7 287 yX0_balance ∈ wsG := wg (tw3 160 rfl) rfl
theorem ml_L_320 : Cond.methodLink RL 320 yX7_meanHoard ∈ wsG := wg (tw3 164 rfl) rfl
theorem ml_L_325 : Cond.methodLink RL 325 yX7_digest ∈ wsG := wg (tw3 168 rfl) rfl
theorem cl_X7_290 : Cond.classLink RX7 290 RX1 ∈ wsG := wg (tw3 172 rfl) rfl
theorem it_X1 : Cond.instantiable RX1 1 ∈ wsG := wg (tw3 173 rfl) rfl
theorem ml_X1_3 : Cond.methodLink RX1 3 ⟨"java/lang/Object", "<init>", "()V"⟩ ∈ wsG := wg (tw3 177 rfl) rfl
theorem kl_X1_9 : Cond.constantLong RX1 9 (4457 : Int64) ∈ wsG := wg (tw3 178 rfl) rfl
theorem fl_X1_11 : Cond.fieldLink RX1 11 "DragonRing$Hash" "value" "J" ∈ wsG := wg (tw3 179 rfl) rfl
theorem fl_X7_303 : Cond.fieldLink RX7 303 "DragonRing$Hash" "value" "J" ∈ wsG := wg (tw3 180 rfl) rfl
theorem ml_X7_293 : Cond.methodLink RX7 293 yX7_hashScroll ∈ wsG := wg (tw3 184 rfl) rfl
theorem ml_X7_328 : Cond.methodLink RX7 328 yX1_addText ∈ wsG := wg (tw3 188 rfl) rfl
theorem ml_X1_19 : Cond.methodLink RX1 19 yX6_count ∈ wsG := wg (tw3 192 rfl) rfl
theorem ml_X1_25 : Cond.methodLink RX1 25 yX1_add ∈ wsG := wg (tw3 193 rfl) rfl
theorem kl_X1_17 : Cond.constantLong RX1 17 (31 : Int64) ∈ wsG := wg (tw3 197 rfl) rfl
theorem ml_X1_29 : Cond.methodLink RX1 29 yX6_code ∈ wsG := wg (tw3 198 rfl) rfl
theorem ml_X7_332 : Cond.methodLink RX7 332 yX1_add ∈ wsG := wg (tw3 199 rfl) rfl
theorem ml_X7_215 : Cond.methodLink RX7 215 yX4_fromMark ∈ wsG := wg (tw3 200 rfl) rfl
theorem ml_X4_53 : Cond.methodLink RX4 53 yJ9_abs_0f7a4 ∈ wsG := wg (tw3 204 rfl) rfl
theorem ml_X7_336 : Cond.methodLink RX7 336 yX7_linesByEnds ∈ wsG := wg (tw3 205 rfl) rfl
theorem ml_X7_339 : Cond.methodLink RX7 339 yX7_linesByGoing ∈ wsG := wg (tw3 206 rfl) rfl
theorem ml_X7_342 : Cond.methodLink RX7 342 yX7_line ∈ wsG := wg (tw3 207 rfl) rfl
theorem ml_X7_345 : Cond.methodLink RX7 345 yX7_column ∈ wsG := wg (tw3 208 rfl) rfl
theorem ml_X7_348 : Cond.methodLink RX7 348 yX7_longestLine ∈ wsG := wg (tw3 209 rfl) rfl
theorem ml_X7_351 : Cond.methodLink RX7 351 yX7_wordsByBegins ∈ wsG := wg (tw3 210 rfl) rfl
theorem ml_X7_354 : Cond.methodLink RX7 354 yX7_wordsByGoing ∈ wsG := wg (tw3 211 rfl) rfl
theorem ml_X7_297 : Cond.methodLink RX7 297 yX7_hashRing ∈ wsG := wg (tw3 212 rfl) rfl
theorem ml_X7_250 : Cond.methodLink RX7 250 yX3_hoard ∈ wsG := wg (tw3 216 rfl) rfl
theorem ml_X7_357 : Cond.methodLink RX7 357 yX7_isGrowing ∈ wsG := wg (tw3 217 rfl) rfl
theorem ml_X7_360 : Cond.methodLink RX7 360 yX7_canTurnYank ∈ wsG := wg (tw3 218 rfl) rfl
theorem ml_X7_263 : Cond.methodLink RX7 263 yX3_longestAt ∈ wsG := wg (tw3 219 rfl) rfl
theorem ml_X7_300 : Cond.methodLink RX7 300 yX7_hashRest ∈ wsG := wg (tw3 223 rfl) rfl
theorem ml_X7_363 : Cond.methodLink RX7 363 yX7_killed ∈ wsG := wg (tw3 227 rfl) rfl
theorem ml_X7_365 : Cond.methodLink RX7 365 yX7_yanked ∈ wsG := wg (tw3 228 rfl) rfl
theorem ml_X7_367 : Cond.methodLink RX7 367 yX7_written ∈ wsG := wg (tw3 229 rfl) rfl
theorem ml_X7_369 : Cond.methodLink RX7 369 yX7_lostHoards ∈ wsG := wg (tw3 230 rfl) rfl
theorem ml_X7_372 : Cond.methodLink RX7 372 yX7_lengthByAccount ∈ wsG := wg (tw3 231 rfl) rfl
theorem ml_X7_375 : Cond.methodLink RX7 375 yX7_savedStates ∈ wsG := wg (tw3 232 rfl) rfl
theorem ml_X7_378 : Cond.methodLink RX7 378 yX7_meanHoard ∈ wsG := wg (tw3 233 rfl) rfl
theorem ml_X7_382 : Cond.methodLink RX7 382 yX7_bitsOf ∈ wsG := wg (tw3 234 rfl) rfl
theorem kl_X7_386 : Cond.constantLong RX7 386 (1023 : Int64) ∈ wsG := wg (tw3 237 rfl) rfl
theorem kd_X7_388 : Cond.constantDouble RX7 388 (4611686018427387904 : UInt64) ∈ wsG := wg (tw3 238 rfl) rfl
theorem kd_X7_390 : Cond.constantDouble RX7 390 (4841369599423283200 : UInt64) ∈ wsG := wg (tw3 239 rfl) rfl
theorem ml_L_110 : Cond.methodLink RL 110 yL_write ∈ wsG := wg (tw4 0 rfl) rfl
theorem cw_L_write : Cond.codeWith yL_write cL_write 4 (some .int) [(0, 9, 12, 13), (0, 9, 15, 15)] ∈ wsG := wg (tw4 2 rfl) rfl
theorem cl_L_13 : Cond.classLink RL 13 "java/lang/IllegalArgumentException" ∈ wsG := wg (tw4 3 rfl) rfl
theorem cl_L_15 : Cond.classLink RL 15 "java/lang/IllegalStateException" ∈ wsG := wg (tw4 4 rfl) rfl
theorem ml_L_7 : Cond.methodLink RL 7 yX7_write ∈ wsG := wg (tw4 5 rfl) rfl
theorem cl_X7_40 : Cond.classLink RX7 40 "java/lang/IllegalArgumentException" ∈ wsG := wg (tw4 9 rfl) rfl
theorem ml_X7_44 : Cond.methodLink RX7 44 ⟨"java/lang/IllegalArgumentException", "<init>", "(Ljava/lang/String;)V"⟩ ∈ wsG := wg (tw4 19 rfl) rfl
theorem ml_X7_51 : Cond.methodLink RX7 51 yX5_writeCode ∈ wsG := wg (tw4 25 rfl) rfl
theorem ml_X5_115 : Cond.methodLink RX5 115 yX6_room ∈ wsG := wg (tw4 29 rfl) rfl
theorem ml_X5_120 : Cond.methodLink RX5 120 yX4_writeCode ∈ wsG := wg (tw4 33 rfl) rfl
theorem ml_X4_31 : Cond.methodLink RX4 31 yX6_insertCode ∈ wsG := wg (tw4 37 rfl) rfl
theorem ml_X6_31 : Cond.methodLink RX6 31 yX6_room ∈ wsG := wg (tw4 41 rfl) rfl
theorem ml_X4_35 : Cond.methodLink RX4 35 yX4_makeWay ∈ wsG := wg (tw4 42 rfl) rfl
theorem ml_L_119 : Cond.methodLink RL 119 yL_rub ∈ wsG := wg (tw4 46 rfl) rfl
theorem cw_L_rub : Cond.codeWith yL_rub cL_rub 3 (some .int) [(0, 8, 11, 15)] ∈ wsG := wg (tw4 48 rfl) rfl
theorem ml_L_17 : Cond.methodLink RL 17 yX7_rub ∈ wsG := wg (tw4 49 rfl) rfl
theorem ml_X7_58 : Cond.methodLink RX7 58 yX5_rubOut ∈ wsG := wg (tw4 53 rfl) rfl
theorem ml_X5_132 : Cond.methodLink RX5 132 yX4_takeOut ∈ wsG := wg (tw4 57 rfl) rfl
theorem ml_X4_46 : Cond.methodLink RX4 46 yX6_takeOut ∈ wsG := wg (tw4 61 rfl) rfl
theorem ml_X4_49 : Cond.methodLink RX4 49 yX4_placeThen ∈ wsG := wg (tw4 65 rfl) rfl
theorem ml_L_123 : Cond.methodLink RL 123 yL_swap ∈ wsG := wg (tw4 68 rfl) rfl
theorem cw_L_swap : Cond.codeWith yL_swap cL_swap 3 (some .int) [(0, 8, 11, 15)] ∈ wsG := wg (tw4 70 rfl) rfl
theorem ml_L_21 : Cond.methodLink RL 21 yX7_swap ∈ wsG := wg (tw4 71 rfl) rfl
theorem ml_X7_62 : Cond.methodLink RX7 62 yX5_swapBoth ∈ wsG := wg (tw4 75 rfl) rfl
theorem ml_L_130 : Cond.methodLink RL 130 yL_goTo ∈ wsG := wg (tw4 79 rfl) rfl
theorem cw_L_goTo : Cond.codeWith yL_goTo cL_goTo 4 (some .int) [(0, 9, 12, 13)] ∈ wsG := wg (tw4 81 rfl) rfl
theorem ml_L_24 : Cond.methodLink RL 24 yX7_goTo ∈ wsG := wg (tw4 82 rfl) rfl
theorem ml_X7_82 : Cond.methodLink RX7 82 yX5_goPlace ∈ wsG := wg (tw4 87 rfl) rfl
theorem ml_L_149 : Cond.methodLink RL 149 yL_goLines ∈ wsG := wg (tw4 88 rfl) rfl
theorem cw_L_goLines : Cond.codeWith yL_goLines cL_goLines 4 (some .int) [(0, 9, 12, 13), (0, 9, 15, 15)] ∈ wsG := wg (tw4 90 rfl) rfl
theorem ml_L_27 : Cond.methodLink RL 27 yX7_goLines ∈ wsG := wg (tw4 91 rfl) rfl
theorem ml_X7_99 : Cond.methodLink RX7 99 yX5_goUpOrDown ∈ wsG := wg (tw4 96 rfl) rfl
theorem ml_X5_166 : Cond.methodLink RX5 166 yX4_lineStartOver ∈ wsG := wg (tw4 100 rfl) rfl
theorem ml_X4_72 : Cond.methodLink RX4 72 yX4_lineStart ∈ wsG := wg (tw4 104 rfl) rfl
theorem ml_X5_170 : Cond.methodLink RX5 170 yJ9_min_7cf53 ∈ wsG := wg (tw4 105 rfl) rfl
theorem ml_L_156 : Cond.methodLink RL 156 yL_exchange ∈ wsG := wg (tw4 106 rfl) rfl
theorem cw_L_exchange : Cond.codeWith yL_exchange cL_exchange 3 (some .int) [(0, 8, 11, 15)] ∈ wsG := wg (tw4 108 rfl) rfl
theorem ml_L_30 : Cond.methodLink RL 30 yX7_exchange ∈ wsG := wg (tw4 109 rfl) rfl
theorem ml_X7_105 : Cond.methodLink RX7 105 yX5_exchangeBoth ∈ wsG := wg (tw4 113 rfl) rfl
theorem ml_L_159 : Cond.methodLink RL 159 yL_find ∈ wsG := wg (tw4 117 rfl) rfl
theorem cw_L_find : Cond.codeWith yL_find cL_find 3 (some .int) [(0, 8, 11, 13), (0, 8, 14, 15)] ∈ wsG := wg (tw4 119 rfl) rfl
theorem ml_L_33 : Cond.methodLink RL 33 yX7_find ∈ wsG := wg (tw4 120 rfl) rfl
theorem ml_X7_110 : Cond.methodLink RX7 110 yX5_goToText ∈ wsG := wg (tw4 125 rfl) rfl
theorem ml_X5_176 : Cond.methodLink RX5 176 yX4_placeOf ∈ wsG := wg (tw4 129 rfl) rfl
theorem ml_X4_78 : Cond.methodLink RX4 78 yX6_standsAt ∈ wsG := wg (tw4 133 rfl) rfl
theorem ml_X6_35 : Cond.methodLink RX6 35 yX6_code ∈ wsG := wg (tw4 137 rfl) rfl
theorem ml_L_162 : Cond.methodLink RL 162 yL_killWord ∈ wsG := wg (tw4 138 rfl) rfl
theorem cw_L_killWord : Cond.codeWith yL_killWord cL_killWord 3 (some .int) [(0, 8, 11, 15)] ∈ wsG := wg (tw4 140 rfl) rfl
theorem ml_L_36 : Cond.methodLink RL 36 yX7_killWord ∈ wsG := wg (tw4 141 rfl) rfl
theorem ml_X7_114 : Cond.methodLink RX7 114 yX5_killWordOn ∈ wsG := wg (tw4 145 rfl) rfl
theorem ml_X5_180 : Cond.methodLink RX5 180 yX5_kill ∈ wsG := wg (tw4 149 rfl) rfl
theorem ml_X5_190 : Cond.methodLink RX5 190 yX3_grow ∈ wsG := wg (tw4 153 rfl) rfl
theorem ml_X3_57 : Cond.methodLink RX3 57 yX6_insertPart ∈ wsG := wg (tw4 157 rfl) rfl
theorem ml_X5_197 : Cond.methodLink RX5 197 yX3_add ∈ wsG := wg (tw4 161 rfl) rfl
theorem ml_X3_45 : Cond.methodLink RX3 45 yJ9_min_7cf53 ∈ wsG := wg (tw4 165 rfl) rfl
theorem ml_X3_51 : Cond.methodLink RX3 51 yJ9_max_7cf53 ∈ wsG := wg (tw4 166 rfl) rfl
theorem ml_X3_54 : Cond.methodLink RX3 54 yX6_empty ∈ wsG := wg (tw4 167 rfl) rfl
theorem ml_L_165 : Cond.methodLink RL 165 yL_killBack ∈ wsG := wg (tw4 168 rfl) rfl
theorem cw_L_killBack : Cond.codeWith yL_killBack cL_killBack 3 (some .int) [(0, 8, 11, 15)] ∈ wsG := wg (tw4 170 rfl) rfl
theorem ml_L_39 : Cond.methodLink RL 39 yX7_killBack ∈ wsG := wg (tw4 171 rfl) rfl
theorem ml_X7_117 : Cond.methodLink RX7 117 yX5_killWordBack ∈ wsG := wg (tw4 175 rfl) rfl
theorem ml_L_168 : Cond.methodLink RL 168 yL_killLine ∈ wsG := wg (tw4 179 rfl) rfl
theorem cw_L_killLine : Cond.codeWith yL_killLine cL_killLine 3 (some .int) [(0, 8, 11, 15)] ∈ wsG := wg (tw4 181 rfl) rfl
theorem ml_L_42 : Cond.methodLink RL 42 yX7_killLine ∈ wsG := wg (tw4 182 rfl) rfl
theorem ml_X7_120 : Cond.methodLink RX7 120 yX5_killLineOn ∈ wsG := wg (tw4 186 rfl) rfl
theorem ml_X5_184 : Cond.methodLink RX5 184 yX4_isEndAt ∈ wsG := wg (tw4 190 rfl) rfl
theorem ml_L_171 : Cond.methodLink RL 171 yL_killBetween ∈ wsG := wg (tw4 191 rfl) rfl
theorem cw_L_killBetween : Cond.codeWith yL_killBetween cL_killBetween 3 (some .int) [(0, 8, 11, 15)] ∈ wsG := wg (tw4 193 rfl) rfl
theorem ml_L_45 : Cond.methodLink RL 45 yX7_killBetween ∈ wsG := wg (tw4 194 rfl) rfl
theorem ml_X7_123 : Cond.methodLink RX7 123 yX5_killToMark ∈ wsG := wg (tw4 198 rfl) rfl
theorem ml_X5_187 : Cond.methodLink RX5 187 yJ9_max_7cf53 ∈ wsG := wg (tw4 202 rfl) rfl
theorem ml_L_174 : Cond.methodLink RL 174 yL_copyBetween ∈ wsG := wg (tw4 203 rfl) rfl
theorem cw_L_copyBetween : Cond.codeWith yL_copyBetween cL_copyBetween 3 (some .int) [(0, 8, 11, 15)] ∈ wsG := wg (tw4 205 rfl) rfl
theorem ml_L_48 : Cond.methodLink RL 48 yX7_copyBetween ∈ wsG := wg (tw4 206 rfl) rfl
theorem ml_X7_126 : Cond.methodLink RX7 126 yX5_copyToMark ∈ wsG := wg (tw4 210 rfl) rfl
theorem ml_X5_204 : Cond.methodLink RX5 204 yX4_fromMark ∈ wsG := wg (tw4 214 rfl) rfl
theorem ml_L_177 : Cond.methodLink RL 177 yL_yank ∈ wsG := wg (tw4 215 rfl) rfl
theorem cw_L_yank : Cond.codeWith yL_yank cL_yank 3 (some .int) [(0, 8, 11, 15)] ∈ wsG := wg (tw4 217 rfl) rfl
theorem ml_L_51 : Cond.methodLink RL 51 yX7_yank ∈ wsG := wg (tw4 218 rfl) rfl
theorem ml_X7_129 : Cond.methodLink RX7 129 yX5_yankNext ∈ wsG := wg (tw4 222 rfl) rfl
theorem ml_X5_210 : Cond.methodLink RX5 210 yX3_hoard ∈ wsG := wg (tw4 226 rfl) rfl
theorem ml_X5_216 : Cond.methodLink RX5 216 yX5_writeHoard ∈ wsG := wg (tw4 227 rfl) rfl
theorem ml_X5_219 : Cond.methodLink RX5 219 yX4_writeText ∈ wsG := wg (tw4 231 rfl) rfl
theorem ml_X4_42 : Cond.methodLink RX4 42 yX6_insertPart ∈ wsG := wg (tw4 235 rfl) rfl
theorem ml_L_180 : Cond.methodLink RL 180 yL_yankOther ∈ wsG := wg (tw4 236 rfl) rfl
theorem cw_L_yankOther : Cond.codeWith yL_yankOther cL_yankOther 3 (some .int) [(0, 8, 11, 15)] ∈ wsG := wg (tw4 238 rfl) rfl
theorem ml_L_54 : Cond.methodLink RL 54 yX7_yankOther ∈ wsG := wg (tw4 239 rfl) rfl
theorem ml_X7_132 : Cond.methodLink RX7 132 yX5_yankOlder ∈ wsG := wg (tw5 3 rfl) rfl
theorem ml_X5_226 : Cond.methodLink RX5 226 yX3_nextIfTurned ∈ wsG := wg (tw5 7 rfl) rfl
theorem ml_X3_61 : Cond.methodLink RX3 61 yJ9_floorMod_7cf53 ∈ wsG := wg (tw5 11 rfl) rfl
theorem ml_L_183 : Cond.methodLink RL 183 yL_turn ∈ wsG := wg (tw5 12 rfl) rfl
theorem cw_L_turn : Cond.codeWith yL_turn cL_turn 4 (some .int) [(0, 9, 12, 13), (0, 9, 15, 15)] ∈ wsG := wg (tw5 14 rfl) rfl
theorem ml_L_57 : Cond.methodLink RL 57 yX7_turn ∈ wsG := wg (tw5 15 rfl) rfl
theorem ml_X7_137 : Cond.methodLink RX7 137 yX5_turnRing ∈ wsG := wg (tw5 20 rfl) rfl
theorem ml_L_186 : Cond.methodLink RL 186 yL_changeCaves ∈ wsG := wg (tw5 24 rfl) rfl
theorem cw_L_changeCaves : Cond.codeWith yL_changeCaves cL_changeCaves 4 (some .int) [(0, 9, 12, 13)] ∈ wsG := wg (tw5 26 rfl) rfl
theorem ml_L_60 : Cond.methodLink RL 60 yX7_changeCaves ∈ wsG := wg (tw5 27 rfl) rfl
theorem ml_X7_142 : Cond.methodLink RX7 142 yX5_setCaves ∈ wsG := wg (tw5 32 rfl) rfl
theorem ml_X5_235 : Cond.methodLink RX5 235 yX3_changeTo ∈ wsG := wg (tw5 36 rfl) rfl
theorem ml_L_189 : Cond.methodLink RL 189 yL_append ∈ wsG := wg (tw5 40 rfl) rfl
theorem cw_L_append : Cond.codeWith yL_append cL_append 4 (some .int) [(0, 9, 12, 13), (0, 9, 15, 15)] ∈ wsG := wg (tw5 42 rfl) rfl
theorem ml_L_63 : Cond.methodLink RL 63 yX7_append ∈ wsG := wg (tw5 43 rfl) rfl
theorem ml_X7_145 : Cond.methodLink RX7 145 yX6_room ∈ wsG := wg (tw5 47 rfl) rfl
theorem ml_X7_153 : Cond.methodLink RX7 153 yX6_insertCode ∈ wsG := wg (tw5 49 rfl) rfl
theorem ml_L_200 : Cond.methodLink RL 200 yL_perform ∈ wsG := wg (tw5 50 rfl) rfl
theorem cw_L_perform : Cond.codeWith yL_perform cL_perform 3 (some .int) [(0, 8, 11, 13), (0, 8, 14, 15)] ∈ wsG := wg (tw5 52 rfl) rfl
theorem ml_L_66 : Cond.methodLink RL 66 yX7_perform ∈ wsG := wg (tw5 53 rfl) rfl
theorem ml_X7_167 : Cond.methodLink RX7 167 yX7_tellsDeeds ∈ wsG := wg (tw5 57 rfl) rfl
theorem ml_X7_173 : Cond.methodLink RX7 173 yX7_deedsDone ∈ wsG := wg (tw5 62 rfl) rfl
theorem ml_X7_325 : Cond.methodLink RX7 325 yX5_doDeed ∈ wsG := wg (tw5 66 rfl) rfl
theorem ml_X5_56 : Cond.methodLink RX5 56 yX5_goWordOn ∈ wsG := wg (tw5 70 rfl) rfl
theorem ml_X5_60 : Cond.methodLink RX5 60 yX5_goWordBack ∈ wsG := wg (tw5 71 rfl) rfl
theorem ml_X5_63 : Cond.methodLink RX5 63 yX5_goLineStart ∈ wsG := wg (tw5 72 rfl) rfl
theorem ml_X5_66 : Cond.methodLink RX5 66 yX5_goLineStop ∈ wsG := wg (tw5 73 rfl) rfl
theorem ml_X5_69 : Cond.methodLink RX5 69 yX5_setMark ∈ wsG := wg (tw5 74 rfl) rfl
theorem ml_X5_72 : Cond.methodLink RX5 72 yX5_exchangeBoth ∈ wsG := wg (tw5 75 rfl) rfl
theorem ml_X5_75 : Cond.methodLink RX5 75 yX5_killWordOn ∈ wsG := wg (tw5 76 rfl) rfl
theorem ml_X5_78 : Cond.methodLink RX5 78 yX5_killWordBack ∈ wsG := wg (tw5 77 rfl) rfl
theorem ml_X5_81 : Cond.methodLink RX5 81 yX5_killLineOn ∈ wsG := wg (tw5 78 rfl) rfl
theorem ml_X5_84 : Cond.methodLink RX5 84 yX5_killToMark ∈ wsG := wg (tw5 79 rfl) rfl
theorem ml_X5_87 : Cond.methodLink RX5 87 yX5_copyToMark ∈ wsG := wg (tw5 80 rfl) rfl
theorem ml_X5_90 : Cond.methodLink RX5 90 yX5_yankNext ∈ wsG := wg (tw5 81 rfl) rfl
theorem ml_X5_93 : Cond.methodLink RX5 93 yX5_yankOlder ∈ wsG := wg (tw5 82 rfl) rfl
theorem ml_X5_96 : Cond.methodLink RX5 96 yX5_turnRing ∈ wsG := wg (tw5 83 rfl) rfl
theorem ml_X5_99 : Cond.methodLink RX5 99 yX5_rubOut ∈ wsG := wg (tw5 84 rfl) rfl
theorem ml_X5_102 : Cond.methodLink RX5 102 yX5_swapBoth ∈ wsG := wg (tw5 85 rfl) rfl
theorem ml_X5_105 : Cond.methodLink RX5 105 yX5_makeGreat ∈ wsG := wg (tw5 86 rfl) rfl
theorem ml_X5_108 : Cond.methodLink RX5 108 yX5_writeCode ∈ wsG := wg (tw5 87 rfl) rfl
theorem ml_X7_176 : Cond.methodLink RX7 176 yX2_prepared ∈ wsG := wg (tw5 88 rfl) rfl
theorem ml_X7_180 : Cond.methodLink RX7 180 yX5_copyFrom ∈ wsG := wg (tw5 89 rfl) rfl
theorem ml_L_203 : Cond.methodLink RL 203 yL_keep ∈ wsG := wg (tw5 90 rfl) rfl
theorem cw_L_keep : Cond.codeWith yL_keep cL_keep 3 (some .int) [(0, 5, 8, 13)] ∈ wsG := wg (tw5 92 rfl) rfl
theorem ml_L_69 : Cond.methodLink RL 69 yX7_keep ∈ wsG := wg (tw5 93 rfl) rfl
theorem ml_L_207 : Cond.methodLink RL 207 yL_goBack ∈ wsG := wg (tw5 98 rfl) rfl
theorem cw_L_goBack : Cond.codeWith yL_goBack cL_goBack 3 (some .int) [(0, 5, 8, 13), (0, 5, 11, 15)] ∈ wsG := wg (tw5 100 rfl) rfl
theorem ml_L_73 : Cond.methodLink RL 73 yX7_goBack ∈ wsG := wg (tw5 101 rfl) rfl
theorem ml_X7_190 : Cond.methodLink RX7 190 yX5_comeBackTo ∈ wsG := wg (tw5 106 rfl) rfl
theorem ml_X5_46 : Cond.methodLink RX5 46 yX5_copyFrom ∈ wsG := wg (tw5 110 rfl) rfl
theorem ml_L_210 : Cond.methodLink RL 210 yL_undo ∈ wsG := wg (tw5 111 rfl) rfl
theorem cw_L_undo : Cond.codeWith yL_undo cL_undo 2 (some .int) [(0, 4, 7, 15)] ∈ wsG := wg (tw5 113 rfl) rfl
theorem ml_L_76 : Cond.methodLink RL 76 yX7_undo ∈ wsG := wg (tw5 114 rfl) rfl
theorem ml_X7_196 : Cond.methodLink RX7 196 yX2_latest ∈ wsG := wg (tw5 119 rfl) rfl
theorem ml_X7_199 : Cond.methodLink RX7 199 yX2_drop ∈ wsG := wg (tw5 123 rfl) rfl
theorem ml_L_222 : Cond.methodLink RL 222 yL_codeAt ∈ wsG := wg (tw5 127 rfl) rfl
theorem cw_L_codeAt : Cond.codeWith yL_codeAt cL_codeAt 4 (some .int) [(0, 9, 12, 82)] ∈ wsG := wg (tw5 129 rfl) rfl
theorem cl_L_82 : Cond.classLink RL 82 "java/lang/IndexOutOfBoundsException" ∈ wsG := wg (tw5 130 rfl) rfl
theorem ml_L_79 : Cond.methodLink RL 79 yX7_codeAt ∈ wsG := wg (tw5 131 rfl) rfl
theorem ml_X7_202 : Cond.methodLink RX7 202 yX7_existing ∈ wsG := wg (tw5 135 rfl) rfl
theorem cl_X7_309 : Cond.classLink RX7 309 "java/lang/IndexOutOfBoundsException" ∈ wsG := wg (tw5 138 rfl) rfl
theorem ml_X7_313 : Cond.methodLink RX7 313 ⟨"java/lang/IndexOutOfBoundsException", "<init>", "(Ljava/lang/String;)V"⟩ ∈ wsG := wg (tw5 148 rfl) rfl
theorem ml_L_229 : Cond.methodLink RL 229 yL_markAt ∈ wsG := wg (tw5 154 rfl) rfl
theorem cw_L_markAt : Cond.codeWith yL_markAt cL_markAt 3 (some .int) [(0, 8, 11, 15)] ∈ wsG := wg (tw5 156 rfl) rfl
theorem ml_L_84 : Cond.methodLink RL 84 yX7_markAt ∈ wsG := wg (tw5 157 rfl) rfl
theorem ml_L_232 : Cond.methodLink RL 232 yL_between ∈ wsG := wg (tw5 161 rfl) rfl
theorem cw_L_between : Cond.codeWith yL_between cL_between 3 (some .int) [(0, 8, 11, 15)] ∈ wsG := wg (tw5 163 rfl) rfl
theorem ml_L_87 : Cond.methodLink RL 87 yX7_between ∈ wsG := wg (tw5 164 rfl) rfl
theorem ml_L_271 : Cond.methodLink RL 271 yL_lengthOf ∈ wsG := wg (tw5 168 rfl) rfl
theorem cw_L_lengthOf : Cond.codeWith yL_lengthOf cL_lengthOf 4 (some .int) [(0, 9, 12, 82)] ∈ wsG := wg (tw5 170 rfl) rfl
theorem ml_L_90 : Cond.methodLink RL 90 yX7_lengthOf ∈ wsG := wg (tw5 171 rfl) rfl
theorem ml_X7_247 : Cond.methodLink RX7 247 yX3_countAt ∈ wsG := wg (tw5 175 rfl) rfl
theorem ml_L_274 : Cond.methodLink RL 274 yL_codeIn ∈ wsG := wg (tw5 179 rfl) rfl
theorem cw_L_codeIn : Cond.codeWith yL_codeIn cL_codeIn 5 (some .int) [(0, 10, 13, 82)] ∈ wsG := wg (tw5 181 rfl) rfl
theorem ml_L_93 : Cond.methodLink RL 93 yX7_codeIn ∈ wsG := wg (tw5 182 rfl) rfl
theorem ml_L_278 : Cond.methodLink RL 278 yL_nextHoard ∈ wsG := wg (tw5 186 rfl) rfl
theorem cw_L_nextHoard : Cond.codeWith yL_nextHoard cL_nextHoard 3 (some .int) [(0, 8, 11, 15)] ∈ wsG := wg (tw5 188 rfl) rfl
theorem ml_L_97 : Cond.methodLink RL 97 yX7_nextHoard ∈ wsG := wg (tw5 189 rfl) rfl
theorem ml_L_290 : Cond.methodLink RL 290 yL_lengthIfYanked ∈ wsG := wg (tw5 193 rfl) rfl
theorem cw_L_lengthIfYanked : Cond.codeWith yL_lengthIfYanked cL_lengthIfYanked 4 (some .int) [(0, 9, 12, 82)] ∈ wsG := wg (tw5 195 rfl) rfl
theorem ml_L_100 : Cond.methodLink RL 100 yX7_lengthIfYanked ∈ wsG := wg (tw5 196 rfl) rfl
theorem ml_L_297 : Cond.methodLink RL 297 yL_heaviest ∈ wsG := wg (tw5 200 rfl) rfl
theorem cw_L_heaviest : Cond.codeWith yL_heaviest cL_heaviest 3 (some .int) [(0, 8, 11, 15)] ∈ wsG := wg (tw5 202 rfl) rfl
theorem ml_L_103 : Cond.methodLink RL 103 yX7_heaviest ∈ wsG := wg (tw5 203 rfl) rfl
theorem cl_L_107 : Cond.classLink RL 107 RX8 ∈ wsG := wg (tw5 207 rfl) rfl
theorem it_X8 : Cond.instantiable RX8 10 ∈ wsG := wg (tw5 208 rfl) rfl
theorem ml_L_109 : Cond.methodLink RL 109 yX8_init ∈ wsG := wg (tw5 209 rfl) rfl
theorem ml_X8_1 : Cond.methodLink RX8 1 ⟨"java/lang/Object", "<init>", "()V"⟩ ∈ wsG := wg (tw5 212 rfl) rfl
theorem fl_X8_7 : Cond.fieldLink RX8 7 "DragonRingModel" "s" "[I" ∈ wsG := wg (tw5 213 rfl) rfl
theorem fl_X8_25 : Cond.fieldLink RX8 25 "DragonRingModel" "states" "I" ∈ wsG := wg (tw5 214 rfl) rfl
theorem fl_X8_13 : Cond.fieldLink RX8 13 "DragonRingModel" "isKept" "[Z" ∈ wsG := wg (tw5 215 rfl) rfl
theorem fl_X8_21 : Cond.fieldLink RX8 21 "DragonRingModel" "thrown" "I" ∈ wsG := wg (tw5 216 rfl) rfl
theorem fl_X8_67 : Cond.fieldLink RX8 67 "DragonRingModel" "kind" "I" ∈ wsG := wg (tw5 217 rfl) rfl
theorem fl_X8_17 : Cond.fieldLink RX8 17 "DragonRingModel" "text" "[C" ∈ wsG := wg (tw5 218 rfl) rfl
theorem fl_X8_159 : Cond.fieldLink RX8 159 "DragonRingModel" "typed" "I" ∈ wsG := wg (tw5 219 rfl) rfl
theorem fl_X8_165 : Cond.fieldLink RX8 165 "DragonRingModel" "at" "I" ∈ wsG := wg (tw5 220 rfl) rfl
theorem fl_X8_168 : Cond.fieldLink RX8 168 "DragonRingModel" "times" "I" ∈ wsG := wg (tw5 221 rfl) rfl
theorem fl_X8_174 : Cond.fieldLink RX8 174 "DragonRingModel" "sign" "I" ∈ wsG := wg (tw5 222 rfl) rfl
theorem ac_char : Cond.arrayClass .char ∈ wsG := wg (tw6 4 rfl) rfl
theorem ml_L_116 : Cond.methodLink RL 116 yX8_thrown ∈ wsG := wg (tw6 5 rfl) rfl
theorem ml_L_115 : Cond.methodLink RL 115 yX8_write ∈ wsG := wg (tw6 9 rfl) rfl
theorem ml_X8_32 : Cond.methodLink RX8 32 yX8_in ∈ wsG := wg (tw6 13 rfl) rfl
theorem ml_X8_146 : Cond.methodLink RX8 146 yX8_goes ∈ wsG := wg (tw6 16 rfl) rfl
theorem ml_X8_150 : Cond.methodLink RX8 150 yX8_saves ∈ wsG := wg (tw6 20 rfl) rfl
theorem ml_X8_28 : Cond.methodLink RX8 28 yX8_copies ∈ wsG := wg (tw6 24 rfl) rfl
theorem ml_X8_134 : Cond.methodLink RX8 134 yX8_writes ∈ wsG := wg (tw6 28 rfl) rfl
theorem ml_X8_51 : Cond.methodLink RX8 51 yX8_parts ∈ wsG := wg (tw6 32 rfl) rfl
theorem ml_X8_36 : Cond.methodLink RX8 36 yX8_code ∈ wsG := wg (tw6 36 rfl) rfl
theorem ml_L_122 : Cond.methodLink RL 122 yX8_rub ∈ wsG := wg (tw6 40 rfl) rfl
theorem ml_X8_153 : Cond.methodLink RX8 153 yX8_acts ∈ wsG := wg (tw6 44 rfl) rfl
theorem ml_X8_137 : Cond.methodLink RX8 137 yX8_does ∈ wsG := wg (tw6 48 rfl) rfl
theorem ml_X8_94 : Cond.methodLink RX8 94 yX8_goesTo ∈ wsG := wg (tw6 52 rfl) rfl
theorem ml_X8_58 : Cond.methodLink RX8 58 yX8_behindWord ∈ wsG := wg (tw6 56 rfl) rfl
theorem ml_X8_44 : Cond.methodLink RX8 44 yX8_isWord ∈ wsG := wg (tw6 60 rfl) rfl
theorem ml_X8_40 : Cond.methodLink RX8 40 yX8_isLetter ∈ wsG := wg (tw6 64 rfl) rfl
theorem ml_X8_81 : Cond.methodLink RX8 81 yX8_aheadOfWord ∈ wsG := wg (tw6 67 rfl) rfl
theorem ml_X8_61 : Cond.methodLink RX8 61 yX8_beginOf ∈ wsG := wg (tw6 71 rfl) rfl
theorem ml_X8_64 : Cond.methodLink RX8 64 yX8_endOf ∈ wsG := wg (tw6 75 rfl) rfl
theorem ml_X8_97 : Cond.methodLink RX8 97 yX8_marks ∈ wsG := wg (tw6 79 rfl) rfl
theorem ml_X8_100 : Cond.methodLink RX8 100 yX8_exchanges ∈ wsG := wg (tw6 83 rfl) rfl
theorem ml_X8_103 : Cond.methodLink RX8 103 yX8_killsWord ∈ wsG := wg (tw6 87 rfl) rfl
theorem ml_X8_77 : Cond.methodLink RX8 77 yX8_kills ∈ wsG := wg (tw6 91 rfl) rfl
theorem ml_X8_70 : Cond.methodLink RX8 70 yX8_grows ∈ wsG := wg (tw6 95 rfl) rfl
theorem ml_X8_74 : Cond.methodLink RX8 74 yX8_collects ∈ wsG := wg (tw6 99 rfl) rfl
theorem ml_X8_55 : Cond.methodLink RX8 55 yX8_takesOut ∈ wsG := wg (tw6 103 rfl) rfl
theorem ml_X8_47 : Cond.methodLink RX8 47 yX8_moved ∈ wsG := wg (tw6 107 rfl) rfl
theorem ml_X8_106 : Cond.methodLink RX8 106 yX8_killsBack ∈ wsG := wg (tw6 110 rfl) rfl
theorem ml_X8_109 : Cond.methodLink RX8 109 yX8_killsLine ∈ wsG := wg (tw6 114 rfl) rfl
theorem ml_X8_112 : Cond.methodLink RX8 112 yX8_killsBetween ∈ wsG := wg (tw6 118 rfl) rfl
theorem ml_X8_115 : Cond.methodLink RX8 115 yX8_doesMore ∈ wsG := wg (tw6 122 rfl) rfl
theorem ml_X8_119 : Cond.methodLink RX8 119 yX8_copiesBetween ∈ wsG := wg (tw6 126 rfl) rfl
theorem ml_X8_84 : Cond.methodLink RX8 84 yX8_apart ∈ wsG := wg (tw6 130 rfl) rfl
theorem ml_X8_91 : Cond.methodLink RX8 91 yX8_yanks ∈ wsG := wg (tw6 134 rfl) rfl
theorem ml_X8_122 : Cond.methodLink RX8 122 yX8_yanksOther ∈ wsG := wg (tw6 138 rfl) rfl
theorem ml_X8_88 : Cond.methodLink RX8 88 yX8_turns ∈ wsG := wg (tw6 142 rfl) rfl
theorem ml_X8_125 : Cond.methodLink RX8 125 yX8_rubs ∈ wsG := wg (tw6 146 rfl) rfl
theorem ml_X8_128 : Cond.methodLink RX8 128 yX8_swaps ∈ wsG := wg (tw6 150 rfl) rfl
theorem ml_X8_131 : Cond.methodLink RX8 131 yX8_greatens ∈ wsG := wg (tw6 154 rfl) rfl
theorem ml_X8_140 : Cond.methodLink RX8 140 yX8_remembers ∈ wsG := wg (tw6 158 rfl) rfl
theorem ml_X8_143 : Cond.methodLink RX8 143 yX8_kindOf ∈ wsG := wg (tw6 162 rfl) rfl
theorem ml_L_125 : Cond.methodLink RL 125 yX8_swap ∈ wsG := wg (tw6 165 rfl) rfl
theorem ml_L_129 : Cond.methodLink RL 129 yX8_greaten ∈ wsG := wg (tw6 169 rfl) rfl
theorem ml_L_132 : Cond.methodLink RL 132 yX8_goTo ∈ wsG := wg (tw6 173 rfl) rfl
theorem ml_L_136 : Cond.methodLink RL 136 yX8_wordOn ∈ wsG := wg (tw6 177 rfl) rfl
theorem ml_L_140 : Cond.methodLink RL 140 yX8_wordBack ∈ wsG := wg (tw6 181 rfl) rfl
theorem ml_L_144 : Cond.methodLink RL 144 yX8_lineBegin ∈ wsG := wg (tw6 185 rfl) rfl
theorem ml_L_148 : Cond.methodLink RL 148 yX8_lineEnd ∈ wsG := wg (tw6 189 rfl) rfl
theorem ml_L_151 : Cond.methodLink RL 151 yX8_goLines ∈ wsG := wg (tw6 193 rfl) rfl
theorem ml_X8_156 : Cond.methodLink RX8 156 yX8_lineAt ∈ wsG := wg (tw6 197 rfl) rfl
theorem ml_L_155 : Cond.methodLink RL 155 yX8_mark ∈ wsG := wg (tw6 201 rfl) rfl
theorem ml_L_158 : Cond.methodLink RL 158 yX8_exchange ∈ wsG := wg (tw6 205 rfl) rfl
theorem ml_L_161 : Cond.methodLink RL 161 yX8_find ∈ wsG := wg (tw6 209 rfl) rfl
theorem ml_X8_162 : Cond.methodLink RX8 162 yX8_isFoundAt ∈ wsG := wg (tw6 213 rfl) rfl
theorem ml_L_164 : Cond.methodLink RL 164 yX8_killWord ∈ wsG := wg (tw6 217 rfl) rfl
theorem ml_L_167 : Cond.methodLink RL 167 yX8_killBack ∈ wsG := wg (tw6 221 rfl) rfl
theorem ml_L_170 : Cond.methodLink RL 170 yX8_killLine ∈ wsG := wg (tw6 225 rfl) rfl
theorem ml_L_173 : Cond.methodLink RL 173 yX8_killBetween ∈ wsG := wg (tw6 229 rfl) rfl
theorem ml_L_176 : Cond.methodLink RL 176 yX8_copyBetween ∈ wsG := wg (tw6 233 rfl) rfl
theorem ml_L_179 : Cond.methodLink RL 179 yX8_yank ∈ wsG := wg (tw6 237 rfl) rfl
theorem ml_L_182 : Cond.methodLink RL 182 yX8_yankOther ∈ wsG := wg (tw7 1 rfl) rfl
theorem ml_L_185 : Cond.methodLink RL 185 yX8_turn ∈ wsG := wg (tw7 5 rfl) rfl
theorem ml_L_188 : Cond.methodLink RL 188 yX8_changeCaves ∈ wsG := wg (tw7 9 rfl) rfl
theorem ml_L_191 : Cond.methodLink RL 191 yX8_append ∈ wsG := wg (tw7 13 rfl) rfl
theorem ml_L_195 : Cond.methodLink RL 195 yX8_clearBuffer ∈ wsG := wg (tw7 17 rfl) rfl
theorem ml_L_199 : Cond.methodLink RL 199 yX8_firstError ∈ wsG := wg (tw7 21 rfl) rfl
theorem ml_X8_180 : Cond.methodLink RX8 180 yX8_tells ∈ wsG := wg (tw7 25 rfl) rfl
theorem ml_X8_177 : Cond.methodLink RX8 177 yX8_part ∈ wsG := wg (tw7 29 rfl) rfl
theorem ml_X8_171 : Cond.methodLink RX8 171 yX8_isSign ∈ wsG := wg (tw7 33 rfl) rfl
theorem ml_L_202 : Cond.methodLink RL 202 yX8_perform ∈ wsG := wg (tw7 36 rfl) rfl
theorem ml_X8_184 : Cond.methodLink RX8 184 yX8_doesAll ∈ wsG := wg (tw7 40 rfl) rfl
theorem ml_L_206 : Cond.methodLink RL 206 yX8_keep ∈ wsG := wg (tw7 44 rfl) rfl
theorem ml_L_209 : Cond.methodLink RL 209 yX8_goBack ∈ wsG := wg (tw7 48 rfl) rfl
theorem ml_L_213 : Cond.methodLink RL 213 yX8_undo ∈ wsG := wg (tw7 52 rfl) rfl
theorem ml_L_217 : Cond.methodLink RL 217 yX8_savedStates ∈ wsG := wg (tw7 56 rfl) rfl
theorem ml_L_221 : Cond.methodLink RL 221 yX8_length ∈ wsG := wg (tw7 60 rfl) rfl
theorem ml_X8_187 : Cond.methodLink RX8 187 yX8_plain ∈ wsG := wg (tw7 64 rfl) rfl
theorem ml_L_224 : Cond.methodLink RL 224 yX8_codeAt ∈ wsG := wg (tw7 68 rfl) rfl
theorem ml_L_228 : Cond.methodLink RL 228 yX8_point ∈ wsG := wg (tw7 72 rfl) rfl
theorem ml_L_231 : Cond.methodLink RL 231 yX8_markAt ∈ wsG := wg (tw7 76 rfl) rfl
theorem ml_L_234 : Cond.methodLink RL 234 yX8_between ∈ wsG := wg (tw7 80 rfl) rfl
theorem ml_L_238 : Cond.methodLink RL 238 yX8_linesByEnds ∈ wsG := wg (tw7 84 rfl) rfl
theorem ml_X8_190 : Cond.methodLink RX8 190 yX8_endsUntil ∈ wsG := wg (tw7 88 rfl) rfl
theorem ml_L_242 : Cond.methodLink RL 242 yX8_linesByGoing ∈ wsG := wg (tw7 92 rfl) rfl
theorem ml_L_246 : Cond.methodLink RL 246 yX8_line ∈ wsG := wg (tw7 96 rfl) rfl
theorem ml_L_250 : Cond.methodLink RL 250 yX8_column ∈ wsG := wg (tw7 100 rfl) rfl
theorem ml_L_254 : Cond.methodLink RL 254 yX8_longestLine ∈ wsG := wg (tw7 104 rfl) rfl
theorem ml_X8_193 : Cond.methodLink RX8 193 yX8_longest ∈ wsG := wg (tw7 108 rfl) rfl
theorem ml_L_258 : Cond.methodLink RL 258 yX8_wordsByBegins ∈ wsG := wg (tw7 112 rfl) rfl
theorem ml_X8_196 : Cond.methodLink RX8 196 yX8_words ∈ wsG := wg (tw7 116 rfl) rfl
theorem ml_L_262 : Cond.methodLink RL 262 yX8_wordsByGoing ∈ wsG := wg (tw7 120 rfl) rfl
theorem ml_L_266 : Cond.methodLink RL 266 yX8_hoards ∈ wsG := wg (tw7 124 rfl) rfl
theorem ml_L_270 : Cond.methodLink RL 270 yX8_caves ∈ wsG := wg (tw7 128 rfl) rfl
theorem ml_L_273 : Cond.methodLink RL 273 yX8_lengthOf ∈ wsG := wg (tw7 132 rfl) rfl
theorem ml_X8_199 : Cond.methodLink RX8 199 yX8_isHoard ∈ wsG := wg (tw7 136 rfl) rfl
theorem ml_L_277 : Cond.methodLink RL 277 yX8_codeIn ∈ wsG := wg (tw7 140 rfl) rfl
theorem ml_L_280 : Cond.methodLink RL 280 yX8_nextHoard ∈ wsG := wg (tw7 144 rfl) rfl
theorem ml_L_285 : Cond.methodLink RL 285 yX8_isGrowing ∈ wsG := wg (tw7 148 rfl) rfl
theorem ml_L_289 : Cond.methodLink RL 289 yX8_canTurnYank ∈ wsG := wg (tw7 152 rfl) rfl
theorem ml_L_292 : Cond.methodLink RL 292 yX8_lengthIfYanked ∈ wsG := wg (tw7 156 rfl) rfl
theorem ml_L_296 : Cond.methodLink RL 296 yX8_weight ∈ wsG := wg (tw7 160 rfl) rfl
theorem ml_X8_202 : Cond.methodLink RX8 202 yX8_sum ∈ wsG := wg (tw7 164 rfl) rfl
theorem ml_L_299 : Cond.methodLink RL 299 yX8_heaviest ∈ wsG := wg (tw7 168 rfl) rfl
theorem ml_X8_205 : Cond.methodLink RX8 205 yX8_heavy ∈ wsG := wg (tw7 172 rfl) rfl
theorem ml_L_303 : Cond.methodLink RL 303 yX8_killed ∈ wsG := wg (tw7 176 rfl) rfl
theorem ml_L_307 : Cond.methodLink RL 307 yX8_yanked ∈ wsG := wg (tw7 180 rfl) rfl
theorem ml_L_311 : Cond.methodLink RL 311 yX8_written ∈ wsG := wg (tw7 184 rfl) rfl
theorem ml_L_315 : Cond.methodLink RL 315 yX8_lostHoards ∈ wsG := wg (tw7 188 rfl) rfl
theorem ml_L_319 : Cond.methodLink RL 319 yX8_lengthByAccount ∈ wsG := wg (tw7 192 rfl) rfl
theorem ml_L_324 : Cond.methodLink RL 324 yX8_meanHoard ∈ wsG := wg (tw7 196 rfl) rfl
theorem ml_L_329 : Cond.methodLink RL 329 yX8_digest ∈ wsG := wg (tw7 200 rfl) rfl
theorem ml_X8_218 : Cond.methodLink RX8 218 yX8_hashOfScroll ∈ wsG := wg (tw7 204 rfl) rfl
theorem kl_X8_214 : Cond.constantLong RX8 214 (4457 : Int64) ∈ wsG := wg (tw7 208 rfl) rfl
theorem kl_X8_216 : Cond.constantLong RX8 216 (31 : Int64) ∈ wsG := wg (tw7 209 rfl) rfl
theorem ml_X8_222 : Cond.methodLink RX8 222 yX8_bits ∈ wsG := wg (tw7 210 rfl) rfl
theorem kl_X8_208 : Cond.constantLong RX8 208 (4503599627370496 : Int64) ∈ wsG := wg (tw7 213 rfl) rfl
theorem kl_X8_210 : Cond.constantLong RX8 210 (2 : Int64) ∈ wsG := wg (tw7 214 rfl) rfl
theorem kl_X8_212 : Cond.constantLong RX8 212 (9007199254740992 : Int64) ∈ wsG := wg (tw7 215 rfl) rfl
theorem ac_long : Cond.arrayClass .long ∈ wsG := wg (tw7 216 rfl) rfl
theorem fl_J0_15 : Cond.fieldLink RJ0 15 "java/lang/String" "coder" "B" ∈ wsG := wg (tw7 218 rfl) rfl
theorem fl_J0_9 : Cond.fieldLink RJ0 9 "java/lang/String" "value" "[B" ∈ wsG := wg (tw7 219 rfl) rfl
theorem in_L : Cond.initialized RL ∈ wsG := wg (tw1 0 rfl) rfl
theorem in_X7 : Cond.initialized RX7 ∈ wsG := wg (tw1 1 rfl) rfl
theorem in_X5 : Cond.initialized RX5 ∈ wsG := wg (tw1 2 rfl) rfl
theorem in_X4 : Cond.initialized RX4 ∈ wsG := wg (tw1 3 rfl) rfl
theorem in_X6 : Cond.initialized RX6 ∈ wsG := wg (tw1 4 rfl) rfl
theorem in_X3 : Cond.initialized RX3 ∈ wsG := wg (tw1 5 rfl) rfl
theorem in_X0 : Cond.initialized RX0 ∈ wsG := wg (tw1 6 rfl) rfl
theorem in_X2 : Cond.initialized RX2 ∈ wsG := wg (tw1 7 rfl) rfl
theorem in_X8 : Cond.initialized RX8 ∈ wsG := wg (tw1 8 rfl) rfl
theorem in_J9 : Cond.initialized RJ9 ∈ wsG := wg (tw1 13 rfl) rfl
theorem in_J10 : Cond.initialized RJ10 ∈ wsG := wg (tw1 14 rfl) rfl
theorem in_J0 : Cond.initialized RJ0 ∈ wsG := wg (tw1 16 rfl) rfl
theorem in_J1 : Cond.initialized RJ1 ∈ wsG := wg (tw1 17 rfl) rfl
theorem in_J2 : Cond.initialized RJ2 ∈ wsG := wg (tw1 18 rfl) rfl
theorem in_J3 : Cond.initialized RJ3 ∈ wsG := wg (tw1 19 rfl) rfl
theorem in_J11 : Cond.initialized RJ11 ∈ wsG := wg (tw1 20 rfl) rfl
theorem in_X1 : Cond.initialized RX1 ∈ wsG := wg (tw1 22 rfl) rfl
theorem se_X2_row : Cond.selects RX2 yX2_row yX2_row ∈ wsG := wg (tw0 (q := (yX2_row, 3)) (List.mem_of_getElem? (i := 0) rfl) rfl) rfl
theorem se_X7_settled : Cond.selects RX7 yX7_settled yX7_settled ∈ wsG := wg (tw0 (q := (yX7_settled, 5)) (List.mem_of_getElem? (i := 1) rfl) rfl) rfl
theorem se_X5_goAsFarAs : Cond.selects RX5 yX5_goAsFarAs yX5_goAsFarAs ∈ wsG := wg (tw0 (q := (yX5_goAsFarAs, 4)) (List.mem_of_getElem? (i := 3) rfl) rfl) rfl
theorem se_X7_hashScroll : Cond.selects RX7 yX7_hashScroll yX7_hashScroll ∈ wsG := wg (tw0 (q := (yX7_hashScroll, 5)) (List.mem_of_getElem? (i := 4) rfl) rfl) rfl
theorem se_X7_hashRing : Cond.selects RX7 yX7_hashRing yX7_hashRing ∈ wsG := wg (tw0 (q := (yX7_hashRing, 5)) (List.mem_of_getElem? (i := 5) rfl) rfl) rfl
theorem se_X7_hashRest : Cond.selects RX7 yX7_hashRest yX7_hashRest ∈ wsG := wg (tw0 (q := (yX7_hashRest, 5)) (List.mem_of_getElem? (i := 6) rfl) rfl) rfl
theorem se_X4_makeWay : Cond.selects RX4 yX4_makeWay yX4_makeWay ∈ wsG := wg (tw0 (q := (yX4_makeWay, 3)) (List.mem_of_getElem? (i := 7) rfl) rfl) rfl
theorem se_X5_kill : Cond.selects RX5 yX5_kill yX5_kill ∈ wsG := wg (tw0 (q := (yX5_kill, 4)) (List.mem_of_getElem? (i := 8) rfl) rfl) rfl
theorem se_X5_writeHoard : Cond.selects RX5 yX5_writeHoard yX5_writeHoard ∈ wsG := wg (tw0 (q := (yX5_writeHoard, 4)) (List.mem_of_getElem? (i := 9) rfl) rfl) rfl
theorem se_X7_tellsDeeds : Cond.selects RX7 yX7_tellsDeeds yX7_tellsDeeds ∈ wsG := wg (tw0 (q := (yX7_tellsDeeds, 5)) (List.mem_of_getElem? (i := 10) rfl) rfl) rfl
theorem se_X7_deedsDone : Cond.selects RX7 yX7_deedsDone yX7_deedsDone ∈ wsG := wg (tw0 (q := (yX7_deedsDone, 5)) (List.mem_of_getElem? (i := 11) rfl) rfl) rfl
theorem se_X8_goes : Cond.selects RX8 yX8_goes yX8_goes ∈ wsG := wg (tw0 (q := (yX8_goes, 10)) (List.mem_of_getElem? (i := 12) rfl) rfl) rfl
theorem se_X8_saves : Cond.selects RX8 yX8_saves yX8_saves ∈ wsG := wg (tw0 (q := (yX8_saves, 10)) (List.mem_of_getElem? (i := 13) rfl) rfl) rfl
theorem se_X8_copies : Cond.selects RX8 yX8_copies yX8_copies ∈ wsG := wg (tw0 (q := (yX8_copies, 10)) (List.mem_of_getElem? (i := 14) rfl) rfl) rfl
theorem se_X8_writes : Cond.selects RX8 yX8_writes yX8_writes ∈ wsG := wg (tw0 (q := (yX8_writes, 10)) (List.mem_of_getElem? (i := 15) rfl) rfl) rfl
theorem se_X8_parts : Cond.selects RX8 yX8_parts yX8_parts ∈ wsG := wg (tw0 (q := (yX8_parts, 10)) (List.mem_of_getElem? (i := 16) rfl) rfl) rfl
theorem se_X8_code : Cond.selects RX8 yX8_code yX8_code ∈ wsG := wg (tw0 (q := (yX8_code, 10)) (List.mem_of_getElem? (i := 17) rfl) rfl) rfl
theorem se_X8_acts : Cond.selects RX8 yX8_acts yX8_acts ∈ wsG := wg (tw0 (q := (yX8_acts, 10)) (List.mem_of_getElem? (i := 18) rfl) rfl) rfl
theorem se_X8_does : Cond.selects RX8 yX8_does yX8_does ∈ wsG := wg (tw0 (q := (yX8_does, 10)) (List.mem_of_getElem? (i := 19) rfl) rfl) rfl
theorem se_X8_goesTo : Cond.selects RX8 yX8_goesTo yX8_goesTo ∈ wsG := wg (tw0 (q := (yX8_goesTo, 10)) (List.mem_of_getElem? (i := 20) rfl) rfl) rfl
theorem se_X8_behindWord : Cond.selects RX8 yX8_behindWord yX8_behindWord ∈ wsG := wg (tw0 (q := (yX8_behindWord, 10)) (List.mem_of_getElem? (i := 21) rfl) rfl) rfl
theorem se_X8_isWord : Cond.selects RX8 yX8_isWord yX8_isWord ∈ wsG := wg (tw0 (q := (yX8_isWord, 10)) (List.mem_of_getElem? (i := 22) rfl) rfl) rfl
theorem se_X8_aheadOfWord : Cond.selects RX8 yX8_aheadOfWord yX8_aheadOfWord ∈ wsG := wg (tw0 (q := (yX8_aheadOfWord, 10)) (List.mem_of_getElem? (i := 23) rfl) rfl) rfl
theorem se_X8_beginOf : Cond.selects RX8 yX8_beginOf yX8_beginOf ∈ wsG := wg (tw0 (q := (yX8_beginOf, 10)) (List.mem_of_getElem? (i := 24) rfl) rfl) rfl
theorem se_X8_endOf : Cond.selects RX8 yX8_endOf yX8_endOf ∈ wsG := wg (tw0 (q := (yX8_endOf, 10)) (List.mem_of_getElem? (i := 25) rfl) rfl) rfl
theorem se_X8_marks : Cond.selects RX8 yX8_marks yX8_marks ∈ wsG := wg (tw0 (q := (yX8_marks, 10)) (List.mem_of_getElem? (i := 26) rfl) rfl) rfl
theorem se_X8_exchanges : Cond.selects RX8 yX8_exchanges yX8_exchanges ∈ wsG := wg (tw0 (q := (yX8_exchanges, 10)) (List.mem_of_getElem? (i := 27) rfl) rfl) rfl
theorem se_X8_killsWord : Cond.selects RX8 yX8_killsWord yX8_killsWord ∈ wsG := wg (tw0 (q := (yX8_killsWord, 10)) (List.mem_of_getElem? (i := 28) rfl) rfl) rfl
theorem se_X8_kills : Cond.selects RX8 yX8_kills yX8_kills ∈ wsG := wg (tw0 (q := (yX8_kills, 10)) (List.mem_of_getElem? (i := 29) rfl) rfl) rfl
theorem se_X8_grows : Cond.selects RX8 yX8_grows yX8_grows ∈ wsG := wg (tw0 (q := (yX8_grows, 10)) (List.mem_of_getElem? (i := 30) rfl) rfl) rfl
theorem se_X8_collects : Cond.selects RX8 yX8_collects yX8_collects ∈ wsG := wg (tw0 (q := (yX8_collects, 10)) (List.mem_of_getElem? (i := 31) rfl) rfl) rfl
theorem se_X8_takesOut : Cond.selects RX8 yX8_takesOut yX8_takesOut ∈ wsG := wg (tw0 (q := (yX8_takesOut, 10)) (List.mem_of_getElem? (i := 32) rfl) rfl) rfl
theorem se_X8_killsBack : Cond.selects RX8 yX8_killsBack yX8_killsBack ∈ wsG := wg (tw0 (q := (yX8_killsBack, 10)) (List.mem_of_getElem? (i := 33) rfl) rfl) rfl
theorem se_X8_killsLine : Cond.selects RX8 yX8_killsLine yX8_killsLine ∈ wsG := wg (tw0 (q := (yX8_killsLine, 10)) (List.mem_of_getElem? (i := 34) rfl) rfl) rfl
theorem se_X8_killsBetween : Cond.selects RX8 yX8_killsBetween yX8_killsBetween ∈ wsG := wg (tw0 (q := (yX8_killsBetween, 10)) (List.mem_of_getElem? (i := 35) rfl) rfl) rfl
theorem se_X8_doesMore : Cond.selects RX8 yX8_doesMore yX8_doesMore ∈ wsG := wg (tw0 (q := (yX8_doesMore, 10)) (List.mem_of_getElem? (i := 36) rfl) rfl) rfl
theorem se_X8_copiesBetween : Cond.selects RX8 yX8_copiesBetween yX8_copiesBetween ∈ wsG := wg (tw0 (q := (yX8_copiesBetween, 10)) (List.mem_of_getElem? (i := 37) rfl) rfl) rfl
theorem se_X8_apart : Cond.selects RX8 yX8_apart yX8_apart ∈ wsG := wg (tw0 (q := (yX8_apart, 10)) (List.mem_of_getElem? (i := 38) rfl) rfl) rfl
theorem se_X8_yanks : Cond.selects RX8 yX8_yanks yX8_yanks ∈ wsG := wg (tw0 (q := (yX8_yanks, 10)) (List.mem_of_getElem? (i := 39) rfl) rfl) rfl
theorem se_X8_yanksOther : Cond.selects RX8 yX8_yanksOther yX8_yanksOther ∈ wsG := wg (tw0 (q := (yX8_yanksOther, 10)) (List.mem_of_getElem? (i := 40) rfl) rfl) rfl
theorem se_X8_turns : Cond.selects RX8 yX8_turns yX8_turns ∈ wsG := wg (tw0 (q := (yX8_turns, 10)) (List.mem_of_getElem? (i := 41) rfl) rfl) rfl
theorem se_X8_rubs : Cond.selects RX8 yX8_rubs yX8_rubs ∈ wsG := wg (tw0 (q := (yX8_rubs, 10)) (List.mem_of_getElem? (i := 42) rfl) rfl) rfl
theorem se_X8_swaps : Cond.selects RX8 yX8_swaps yX8_swaps ∈ wsG := wg (tw0 (q := (yX8_swaps, 10)) (List.mem_of_getElem? (i := 43) rfl) rfl) rfl
theorem se_X8_greatens : Cond.selects RX8 yX8_greatens yX8_greatens ∈ wsG := wg (tw0 (q := (yX8_greatens, 10)) (List.mem_of_getElem? (i := 44) rfl) rfl) rfl
theorem se_X8_remembers : Cond.selects RX8 yX8_remembers yX8_remembers ∈ wsG := wg (tw0 (q := (yX8_remembers, 10)) (List.mem_of_getElem? (i := 45) rfl) rfl) rfl
theorem se_X8_lineAt : Cond.selects RX8 yX8_lineAt yX8_lineAt ∈ wsG := wg (tw0 (q := (yX8_lineAt, 10)) (List.mem_of_getElem? (i := 46) rfl) rfl) rfl
theorem se_X8_isFoundAt : Cond.selects RX8 yX8_isFoundAt yX8_isFoundAt ∈ wsG := wg (tw0 (q := (yX8_isFoundAt, 10)) (List.mem_of_getElem? (i := 47) rfl) rfl) rfl
theorem se_X8_tells : Cond.selects RX8 yX8_tells yX8_tells ∈ wsG := wg (tw0 (q := (yX8_tells, 10)) (List.mem_of_getElem? (i := 48) rfl) rfl) rfl
theorem se_X8_part : Cond.selects RX8 yX8_part yX8_part ∈ wsG := wg (tw0 (q := (yX8_part, 10)) (List.mem_of_getElem? (i := 49) rfl) rfl) rfl
theorem se_X8_doesAll : Cond.selects RX8 yX8_doesAll yX8_doesAll ∈ wsG := wg (tw0 (q := (yX8_doesAll, 10)) (List.mem_of_getElem? (i := 50) rfl) rfl) rfl
theorem se_X8_plain : Cond.selects RX8 yX8_plain yX8_plain ∈ wsG := wg (tw0 (q := (yX8_plain, 10)) (List.mem_of_getElem? (i := 51) rfl) rfl) rfl
theorem se_X8_endsUntil : Cond.selects RX8 yX8_endsUntil yX8_endsUntil ∈ wsG := wg (tw0 (q := (yX8_endsUntil, 10)) (List.mem_of_getElem? (i := 52) rfl) rfl) rfl
theorem se_X8_longest : Cond.selects RX8 yX8_longest yX8_longest ∈ wsG := wg (tw0 (q := (yX8_longest, 10)) (List.mem_of_getElem? (i := 53) rfl) rfl) rfl
theorem se_X8_words : Cond.selects RX8 yX8_words yX8_words ∈ wsG := wg (tw0 (q := (yX8_words, 10)) (List.mem_of_getElem? (i := 54) rfl) rfl) rfl
theorem se_X8_isHoard : Cond.selects RX8 yX8_isHoard yX8_isHoard ∈ wsG := wg (tw0 (q := (yX8_isHoard, 10)) (List.mem_of_getElem? (i := 55) rfl) rfl) rfl
theorem se_X8_sum : Cond.selects RX8 yX8_sum yX8_sum ∈ wsG := wg (tw0 (q := (yX8_sum, 10)) (List.mem_of_getElem? (i := 56) rfl) rfl) rfl
theorem se_X8_heavy : Cond.selects RX8 yX8_heavy yX8_heavy ∈ wsG := wg (tw0 (q := (yX8_heavy, 10)) (List.mem_of_getElem? (i := 57) rfl) rfl) rfl
theorem se_X8_hashOfScroll : Cond.selects RX8 yX8_hashOfScroll yX8_hashOfScroll ∈ wsG := wg (tw0 (q := (yX8_hashOfScroll, 10)) (List.mem_of_getElem? (i := 58) rfl) rfl) rfl
theorem cd_X7_init : Cond.code yX7_init cX7_init 2 none ∈ wsG := wg (tw1 27 rfl) rfl
theorem im_X7_init : Cond.instanceMethod yX7_init ∈ wsG := wg (tw1 26 rfl) rfl
theorem wy_X7_init : wyI yX7_init 0 := ⟨⟨in_X7, ⟨by decide, by decide⟩, by decide +kernel⟩, rfl, im_X7_init⟩
theorem cd_X5_init : Cond.code yX5_init cX5_init 1 none ∈ wsG := wg (tw1 35 rfl) rfl
theorem im_X5_init : Cond.instanceMethod yX5_init ∈ wsG := wg (tw1 34 rfl) rfl
theorem wy_X5_init : wyI yX5_init 0 := ⟨⟨in_X5, ⟨by decide, by decide⟩, by decide +kernel⟩, rfl, im_X5_init⟩
theorem cd_X4_init : Cond.code yX4_init cX4_init 1 none ∈ wsG := wg (tw1 41 rfl) rfl
theorem im_X4_init : Cond.instanceMethod yX4_init ∈ wsG := wg (tw1 40 rfl) rfl
theorem wy_X4_init : wyI yX4_init 0 := ⟨⟨in_X4, ⟨by decide, by decide⟩, by decide +kernel⟩, rfl, im_X4_init⟩
theorem cd_X6_init : Cond.code yX6_init cX6_init 2 none ∈ wsG := wg (tw1 47 rfl) rfl
theorem im_X6_init : Cond.instanceMethod yX6_init ∈ wsG := wg (tw1 46 rfl) rfl
theorem wy_X6_init : wyI yX6_init 1 := ⟨⟨in_X6, ⟨by decide, by decide⟩, by decide +kernel⟩, rfl, im_X6_init⟩
theorem cd_X3_init : Cond.code yX3_init cX3_init 2 none ∈ wsG := wg (tw1 77 rfl) rfl
theorem im_X3_init : Cond.instanceMethod yX3_init ∈ wsG := wg (tw1 76 rfl) rfl
theorem wy_X3_init : wyI yX3_init 0 := ⟨⟨in_X3, ⟨by decide, by decide⟩, by decide +kernel⟩, rfl, im_X3_init⟩
theorem cd_X0_init : Cond.code yX0_init cX0_init 1 none ∈ wsG := wg (tw1 108 rfl) rfl
theorem im_X0_init : Cond.instanceMethod yX0_init ∈ wsG := wg (tw1 107 rfl) rfl
theorem wy_X0_init : wyI yX0_init 0 := ⟨⟨in_X0, ⟨by decide, by decide⟩, by decide +kernel⟩, rfl, im_X0_init⟩
theorem cd_X2_init : Cond.code yX2_init cX2_init 2 none ∈ wsG := wg (tw1 161 rfl) rfl
theorem im_X2_init : Cond.instanceMethod yX2_init ∈ wsG := wg (tw1 160 rfl) rfl
theorem wy_X2_init : wyI yX2_init 0 := ⟨⟨in_X2, ⟨by decide, by decide⟩, by decide +kernel⟩, rfl, im_X2_init⟩
theorem cd_X7_greaten : Cond.code yX7_greaten cX7_greaten 1 (some .int) ∈ wsG := wg (tw1 198 rfl) rfl
theorem im_X7_greaten : Cond.instanceMethod yX7_greaten ∈ wsG := wg (tw1 196 rfl) rfl
theorem se_X7_greaten : Cond.selects RX7 yX7_greaten yX7_greaten ∈ wsG := wg (tw1 197 rfl) rfl
theorem wy_X7_greaten : wyV yX7_greaten 0 := ⟨⟨in_X7, ⟨by decide, by decide⟩, by decide +kernel⟩, im_X7_greaten, se_X7_greaten⟩
theorem cd_X2_prepare : Cond.code yX2_prepare cX2_prepare 2 none ∈ wsG := wg (tw1 202 rfl) rfl
theorem im_X2_prepare : Cond.instanceMethod yX2_prepare ∈ wsG := wg (tw1 200 rfl) rfl
theorem se_X2_prepare : Cond.selects RX2 yX2_prepare yX2_prepare ∈ wsG := wg (tw1 201 rfl) rfl
theorem wy_X2_prepare : wyV yX2_prepare 1 := ⟨⟨in_X2, ⟨by decide, by decide⟩, by decide +kernel⟩, im_X2_prepare, se_X2_prepare⟩
theorem cd_X2_prepared : Cond.code yX2_prepared cX2_prepared 1 (some (.object "DragonRing$State")) ∈ wsG := wg (tw1 206 rfl) rfl
theorem im_X2_prepared : Cond.instanceMethod yX2_prepared ∈ wsG := wg (tw1 204 rfl) rfl
theorem se_X2_prepared : Cond.selects RX2 yX2_prepared yX2_prepared ∈ wsG := wg (tw1 205 rfl) rfl
theorem wy_X2_prepared : wyV yX2_prepared 0 := ⟨⟨in_X2, ⟨by decide, by decide⟩, by decide +kernel⟩, im_X2_prepared, se_X2_prepared⟩
theorem cd_X2_row : Cond.code yX2_row cX2_row 2 (some (.object "DragonRing$State")) ∈ wsG := wg (tw1 210 rfl) rfl
theorem im_X2_row : Cond.instanceMethod yX2_row ∈ wsG := wg (tw1 209 rfl) rfl
theorem wy_X2_row : wyV yX2_row 1 := ⟨⟨in_X2, ⟨by decide, by decide⟩, by decide +kernel⟩, im_X2_row, se_X2_row⟩
theorem cd_J9_floorMod_7cf53 : Cond.code yJ9_floorMod_7cf53 cJ9_floorMod_7cf53 3 (some .int) ∈ wsG := wg (tw1 213 rfl) rfl
theorem st_J9_floorMod_7cf53 : Cond.static yJ9_floorMod_7cf53 ∈ wsG := wg (tw1 212 rfl) rfl
theorem wy_J9_floorMod_7cf53 : wyS yJ9_floorMod_7cf53 2 := ⟨⟨in_J9, ⟨by decide, by decide⟩, by decide +kernel⟩, st_J9_floorMod_7cf53⟩
theorem cd_X5_copyFrom : Cond.code yX5_copyFrom cX5_copyFrom 2 none ∈ wsG := wg (tw1 217 rfl) rfl
theorem im_X5_copyFrom : Cond.instanceMethod yX5_copyFrom ∈ wsG := wg (tw1 215 rfl) rfl
theorem se_X5_copyFrom : Cond.selects RX5 yX5_copyFrom yX5_copyFrom ∈ wsG := wg (tw1 216 rfl) rfl
theorem wy_X5_copyFrom : wyV yX5_copyFrom 1 := ⟨⟨in_X5, ⟨by decide, by decide⟩, by decide +kernel⟩, im_X5_copyFrom, se_X5_copyFrom⟩
theorem cd_X4_copyFrom : Cond.code yX4_copyFrom cX4_copyFrom 2 none ∈ wsG := wg (tw1 221 rfl) rfl
theorem im_X4_copyFrom : Cond.instanceMethod yX4_copyFrom ∈ wsG := wg (tw1 219 rfl) rfl
theorem se_X4_copyFrom : Cond.selects RX4 yX4_copyFrom yX4_copyFrom ∈ wsG := wg (tw1 220 rfl) rfl
theorem wy_X4_copyFrom : wyV yX4_copyFrom 1 := ⟨⟨in_X4, ⟨by decide, by decide⟩, by decide +kernel⟩, im_X4_copyFrom, se_X4_copyFrom⟩
theorem cd_X6_copyFrom : Cond.code yX6_copyFrom cX6_copyFrom 2 none ∈ wsG := wg (tw1 225 rfl) rfl
theorem im_X6_copyFrom : Cond.instanceMethod yX6_copyFrom ∈ wsG := wg (tw1 223 rfl) rfl
theorem se_X6_copyFrom : Cond.selects RX6 yX6_copyFrom yX6_copyFrom ∈ wsG := wg (tw1 224 rfl) rfl
theorem wy_X6_copyFrom : wyV yX6_copyFrom 1 := ⟨⟨in_X6, ⟨by decide, by decide⟩, by decide +kernel⟩, im_X6_copyFrom, se_X6_copyFrom⟩
theorem cd_J9_min_7cf53 : Cond.code yJ9_min_7cf53 cJ9_min_7cf53 2 (some .int) ∈ wsG := wg (tw1 228 rfl) rfl
theorem st_J9_min_7cf53 : Cond.static yJ9_min_7cf53 ∈ wsG := wg (tw1 227 rfl) rfl
theorem wy_J9_min_7cf53 : wyS yJ9_min_7cf53 2 := ⟨⟨in_J9, ⟨by decide, by decide⟩, by decide +kernel⟩, st_J9_min_7cf53⟩
theorem cd_X3_copyFrom : Cond.code yX3_copyFrom cX3_copyFrom 3 none ∈ wsG := wg (tw1 235 rfl) rfl
theorem im_X3_copyFrom : Cond.instanceMethod yX3_copyFrom ∈ wsG := wg (tw1 233 rfl) rfl
theorem se_X3_copyFrom : Cond.selects RX3 yX3_copyFrom yX3_copyFrom ∈ wsG := wg (tw1 234 rfl) rfl
theorem wy_X3_copyFrom : wyV yX3_copyFrom 1 := ⟨⟨in_X3, ⟨by decide, by decide⟩, by decide +kernel⟩, im_X3_copyFrom, se_X3_copyFrom⟩
theorem cd_X0_copyFrom : Cond.code yX0_copyFrom cX0_copyFrom 2 none ∈ wsG := wg (tw2 0 rfl) rfl
theorem im_X0_copyFrom : Cond.instanceMethod yX0_copyFrom ∈ wsG := wg (tw1 238 rfl) rfl
theorem se_X0_copyFrom : Cond.selects RX0 yX0_copyFrom yX0_copyFrom ∈ wsG := wg (tw1 239 rfl) rfl
theorem wy_X0_copyFrom : wyV yX0_copyFrom 1 := ⟨⟨in_X0, ⟨by decide, by decide⟩, by decide +kernel⟩, im_X0_copyFrom, se_X0_copyFrom⟩
theorem cd_X5_makeGreat : Cond.code yX5_makeGreat cX5_makeGreat 4 (some .int) ∈ wsG := wg (tw2 4 rfl) rfl
theorem im_X5_makeGreat : Cond.instanceMethod yX5_makeGreat ∈ wsG := wg (tw2 2 rfl) rfl
theorem se_X5_makeGreat : Cond.selects RX5 yX5_makeGreat yX5_makeGreat ∈ wsG := wg (tw2 3 rfl) rfl
theorem wy_X5_makeGreat : wyV yX5_makeGreat 0 := ⟨⟨in_X5, ⟨by decide, by decide⟩, by decide +kernel⟩, im_X5_makeGreat, se_X5_makeGreat⟩
theorem cd_X4_wordStop : Cond.code yX4_wordStop cX4_wordStop 3 (some .int) ∈ wsG := wg (tw2 8 rfl) rfl
theorem im_X4_wordStop : Cond.instanceMethod yX4_wordStop ∈ wsG := wg (tw2 6 rfl) rfl
theorem se_X4_wordStop : Cond.selects RX4 yX4_wordStop yX4_wordStop ∈ wsG := wg (tw2 7 rfl) rfl
theorem wy_X4_wordStop : wyV yX4_wordStop 1 := ⟨⟨in_X4, ⟨by decide, by decide⟩, by decide +kernel⟩, im_X4_wordStop, se_X4_wordStop⟩
theorem cd_X6_count : Cond.code yX6_count cX6_count 1 (some .int) ∈ wsG := wg (tw2 12 rfl) rfl
theorem im_X6_count : Cond.instanceMethod yX6_count ∈ wsG := wg (tw2 10 rfl) rfl
theorem se_X6_count : Cond.selects RX6 yX6_count yX6_count ∈ wsG := wg (tw2 11 rfl) rfl
theorem wy_X6_count : wyV yX6_count 0 := ⟨⟨in_X6, ⟨by decide, by decide⟩, by decide +kernel⟩, im_X6_count, se_X6_count⟩
theorem cd_X4_isWordAt : Cond.code yX4_isWordAt cX4_isWordAt 3 (some .boolean) ∈ wsG := wg (tw2 16 rfl) rfl
theorem im_X4_isWordAt : Cond.instanceMethod yX4_isWordAt ∈ wsG := wg (tw2 14 rfl) rfl
theorem se_X4_isWordAt : Cond.selects RX4 yX4_isWordAt yX4_isWordAt ∈ wsG := wg (tw2 15 rfl) rfl
theorem wy_X4_isWordAt : wyV yX4_isWordAt 1 := ⟨⟨in_X4, ⟨by decide, by decide⟩, by decide +kernel⟩, im_X4_isWordAt, se_X4_isWordAt⟩
theorem cd_X6_code : Cond.code yX6_code cX6_code 2 (some .int) ∈ wsG := wg (tw2 20 rfl) rfl
theorem im_X6_code : Cond.instanceMethod yX6_code ∈ wsG := wg (tw2 18 rfl) rfl
theorem se_X6_code : Cond.selects RX6 yX6_code yX6_code ∈ wsG := wg (tw2 19 rfl) rfl
theorem wy_X6_code : wyV yX6_code 1 := ⟨⟨in_X6, ⟨by decide, by decide⟩, by decide +kernel⟩, im_X6_code, se_X6_code⟩
theorem cd_X4_isSmallAt : Cond.code yX4_isSmallAt cX4_isSmallAt 3 (some .boolean) ∈ wsG := wg (tw2 24 rfl) rfl
theorem im_X4_isSmallAt : Cond.instanceMethod yX4_isSmallAt ∈ wsG := wg (tw2 22 rfl) rfl
theorem se_X4_isSmallAt : Cond.selects RX4 yX4_isSmallAt yX4_isSmallAt ∈ wsG := wg (tw2 23 rfl) rfl
theorem wy_X4_isSmallAt : wyV yX4_isSmallAt 1 := ⟨⟨in_X4, ⟨by decide, by decide⟩, by decide +kernel⟩, im_X4_isSmallAt, se_X4_isSmallAt⟩
theorem cd_X6_change : Cond.code yX6_change cX6_change 3 none ∈ wsG := wg (tw2 30 rfl) rfl
theorem im_X6_change : Cond.instanceMethod yX6_change ∈ wsG := wg (tw2 28 rfl) rfl
theorem se_X6_change : Cond.selects RX6 yX6_change yX6_change ∈ wsG := wg (tw2 29 rfl) rfl
theorem wy_X6_change : wyV yX6_change 2 := ⟨⟨in_X6, ⟨by decide, by decide⟩, by decide +kernel⟩, im_X6_change, se_X6_change⟩
theorem cd_X7_settled : Cond.code yX7_settled cX7_settled 2 (some .int) ∈ wsG := wg (tw2 34 rfl) rfl
theorem im_X7_settled : Cond.instanceMethod yX7_settled ∈ wsG := wg (tw2 33 rfl) rfl
theorem wy_X7_settled : wyV yX7_settled 1 := ⟨⟨in_X7, ⟨by decide, by decide⟩, by decide +kernel⟩, im_X7_settled, se_X7_settled⟩
theorem cd_X7_possible : Cond.code yX7_possible cX7_possible 1 (some .int) ∈ wsG := wg (tw2 37 rfl) rfl
theorem st_X7_possible : Cond.static yX7_possible ∈ wsG := wg (tw2 36 rfl) rfl
theorem wy_X7_possible : wyS yX7_possible 1 := ⟨⟨in_X7, ⟨by decide, by decide⟩, by decide +kernel⟩, st_X7_possible⟩
theorem cd_X2_save : Cond.code yX2_save cX2_save 1 none ∈ wsG := wg (tw2 109 rfl) rfl
theorem im_X2_save : Cond.instanceMethod yX2_save ∈ wsG := wg (tw2 107 rfl) rfl
theorem se_X2_save : Cond.selects RX2 yX2_save yX2_save ∈ wsG := wg (tw2 108 rfl) rfl
theorem wy_X2_save : wyV yX2_save 0 := ⟨⟨in_X2, ⟨by decide, by decide⟩, by decide +kernel⟩, im_X2_save, se_X2_save⟩
theorem cd_X7_wordOn : Cond.code yX7_wordOn cX7_wordOn 1 (some .int) ∈ wsG := wg (tw2 113 rfl) rfl
theorem im_X7_wordOn : Cond.instanceMethod yX7_wordOn ∈ wsG := wg (tw2 111 rfl) rfl
theorem se_X7_wordOn : Cond.selects RX7 yX7_wordOn yX7_wordOn ∈ wsG := wg (tw2 112 rfl) rfl
theorem wy_X7_wordOn : wyV yX7_wordOn 0 := ⟨⟨in_X7, ⟨by decide, by decide⟩, by decide +kernel⟩, im_X7_wordOn, se_X7_wordOn⟩
theorem cd_X5_goWordOn : Cond.code yX5_goWordOn cX5_goWordOn 1 (some .int) ∈ wsG := wg (tw2 117 rfl) rfl
theorem im_X5_goWordOn : Cond.instanceMethod yX5_goWordOn ∈ wsG := wg (tw2 115 rfl) rfl
theorem se_X5_goWordOn : Cond.selects RX5 yX5_goWordOn yX5_goWordOn ∈ wsG := wg (tw2 116 rfl) rfl
theorem wy_X5_goWordOn : wyV yX5_goWordOn 0 := ⟨⟨in_X5, ⟨by decide, by decide⟩, by decide +kernel⟩, im_X5_goWordOn, se_X5_goWordOn⟩
theorem cd_X5_goAsFarAs : Cond.code yX5_goAsFarAs cX5_goAsFarAs 2 (some .int) ∈ wsG := wg (tw2 121 rfl) rfl
theorem im_X5_goAsFarAs : Cond.instanceMethod yX5_goAsFarAs ∈ wsG := wg (tw2 120 rfl) rfl
theorem wy_X5_goAsFarAs : wyV yX5_goAsFarAs 1 := ⟨⟨in_X5, ⟨by decide, by decide⟩, by decide +kernel⟩, im_X5_goAsFarAs, se_X5_goAsFarAs⟩
theorem cd_X5_goPlace : Cond.code yX5_goPlace cX5_goPlace 3 (some .int) ∈ wsG := wg (tw2 125 rfl) rfl
theorem im_X5_goPlace : Cond.instanceMethod yX5_goPlace ∈ wsG := wg (tw2 123 rfl) rfl
theorem se_X5_goPlace : Cond.selects RX5 yX5_goPlace yX5_goPlace ∈ wsG := wg (tw2 124 rfl) rfl
theorem wy_X5_goPlace : wyV yX5_goPlace 1 := ⟨⟨in_X5, ⟨by decide, by decide⟩, by decide +kernel⟩, im_X5_goPlace, se_X5_goPlace⟩
theorem cd_J9_abs_0f7a4 : Cond.code yJ9_abs_0f7a4 cJ9_abs_0f7a4 1 (some .int) ∈ wsG := wg (tw2 129 rfl) rfl
theorem st_J9_abs_0f7a4 : Cond.static yJ9_abs_0f7a4 ∈ wsG := wg (tw2 128 rfl) rfl
theorem wy_J9_abs_0f7a4 : wyS yJ9_abs_0f7a4 1 := ⟨⟨in_J9, ⟨by decide, by decide⟩, by decide +kernel⟩, st_J9_abs_0f7a4⟩
theorem cd_X7_wordBack : Cond.code yX7_wordBack cX7_wordBack 1 (some .int) ∈ wsG := wg (tw2 133 rfl) rfl
theorem im_X7_wordBack : Cond.instanceMethod yX7_wordBack ∈ wsG := wg (tw2 131 rfl) rfl
theorem se_X7_wordBack : Cond.selects RX7 yX7_wordBack yX7_wordBack ∈ wsG := wg (tw2 132 rfl) rfl
theorem wy_X7_wordBack : wyV yX7_wordBack 0 := ⟨⟨in_X7, ⟨by decide, by decide⟩, by decide +kernel⟩, im_X7_wordBack, se_X7_wordBack⟩
theorem cd_X5_goWordBack : Cond.code yX5_goWordBack cX5_goWordBack 1 (some .int) ∈ wsG := wg (tw2 137 rfl) rfl
theorem im_X5_goWordBack : Cond.instanceMethod yX5_goWordBack ∈ wsG := wg (tw2 135 rfl) rfl
theorem se_X5_goWordBack : Cond.selects RX5 yX5_goWordBack yX5_goWordBack ∈ wsG := wg (tw2 136 rfl) rfl
theorem wy_X5_goWordBack : wyV yX5_goWordBack 0 := ⟨⟨in_X5, ⟨by decide, by decide⟩, by decide +kernel⟩, im_X5_goWordBack, se_X5_goWordBack⟩
theorem cd_X4_wordStart : Cond.code yX4_wordStart cX4_wordStart 3 (some .int) ∈ wsG := wg (tw2 141 rfl) rfl
theorem im_X4_wordStart : Cond.instanceMethod yX4_wordStart ∈ wsG := wg (tw2 139 rfl) rfl
theorem se_X4_wordStart : Cond.selects RX4 yX4_wordStart yX4_wordStart ∈ wsG := wg (tw2 140 rfl) rfl
theorem wy_X4_wordStart : wyV yX4_wordStart 1 := ⟨⟨in_X4, ⟨by decide, by decide⟩, by decide +kernel⟩, im_X4_wordStart, se_X4_wordStart⟩
theorem cd_X7_lineBegin : Cond.code yX7_lineBegin cX7_lineBegin 1 (some .int) ∈ wsG := wg (tw2 145 rfl) rfl
theorem im_X7_lineBegin : Cond.instanceMethod yX7_lineBegin ∈ wsG := wg (tw2 143 rfl) rfl
theorem se_X7_lineBegin : Cond.selects RX7 yX7_lineBegin yX7_lineBegin ∈ wsG := wg (tw2 144 rfl) rfl
theorem wy_X7_lineBegin : wyV yX7_lineBegin 0 := ⟨⟨in_X7, ⟨by decide, by decide⟩, by decide +kernel⟩, im_X7_lineBegin, se_X7_lineBegin⟩
theorem cd_X5_goLineStart : Cond.code yX5_goLineStart cX5_goLineStart 1 (some .int) ∈ wsG := wg (tw2 149 rfl) rfl
theorem im_X5_goLineStart : Cond.instanceMethod yX5_goLineStart ∈ wsG := wg (tw2 147 rfl) rfl
theorem se_X5_goLineStart : Cond.selects RX5 yX5_goLineStart yX5_goLineStart ∈ wsG := wg (tw2 148 rfl) rfl
theorem wy_X5_goLineStart : wyV yX5_goLineStart 0 := ⟨⟨in_X5, ⟨by decide, by decide⟩, by decide +kernel⟩, im_X5_goLineStart, se_X5_goLineStart⟩
theorem cd_X4_lineStart : Cond.code yX4_lineStart cX4_lineStart 3 (some .int) ∈ wsG := wg (tw2 153 rfl) rfl
theorem im_X4_lineStart : Cond.instanceMethod yX4_lineStart ∈ wsG := wg (tw2 151 rfl) rfl
theorem se_X4_lineStart : Cond.selects RX4 yX4_lineStart yX4_lineStart ∈ wsG := wg (tw2 152 rfl) rfl
theorem wy_X4_lineStart : wyV yX4_lineStart 1 := ⟨⟨in_X4, ⟨by decide, by decide⟩, by decide +kernel⟩, im_X4_lineStart, se_X4_lineStart⟩
theorem cd_X4_isEndAt : Cond.code yX4_isEndAt cX4_isEndAt 2 (some .boolean) ∈ wsG := wg (tw2 157 rfl) rfl
theorem im_X4_isEndAt : Cond.instanceMethod yX4_isEndAt ∈ wsG := wg (tw2 155 rfl) rfl
theorem se_X4_isEndAt : Cond.selects RX4 yX4_isEndAt yX4_isEndAt ∈ wsG := wg (tw2 156 rfl) rfl
theorem wy_X4_isEndAt : wyV yX4_isEndAt 1 := ⟨⟨in_X4, ⟨by decide, by decide⟩, by decide +kernel⟩, im_X4_isEndAt, se_X4_isEndAt⟩
theorem cd_X7_lineEnd : Cond.code yX7_lineEnd cX7_lineEnd 1 (some .int) ∈ wsG := wg (tw2 161 rfl) rfl
theorem im_X7_lineEnd : Cond.instanceMethod yX7_lineEnd ∈ wsG := wg (tw2 159 rfl) rfl
theorem se_X7_lineEnd : Cond.selects RX7 yX7_lineEnd yX7_lineEnd ∈ wsG := wg (tw2 160 rfl) rfl
theorem wy_X7_lineEnd : wyV yX7_lineEnd 0 := ⟨⟨in_X7, ⟨by decide, by decide⟩, by decide +kernel⟩, im_X7_lineEnd, se_X7_lineEnd⟩
theorem cd_X5_goLineStop : Cond.code yX5_goLineStop cX5_goLineStop 1 (some .int) ∈ wsG := wg (tw2 165 rfl) rfl
theorem im_X5_goLineStop : Cond.instanceMethod yX5_goLineStop ∈ wsG := wg (tw2 163 rfl) rfl
theorem se_X5_goLineStop : Cond.selects RX5 yX5_goLineStop yX5_goLineStop ∈ wsG := wg (tw2 164 rfl) rfl
theorem wy_X5_goLineStop : wyV yX5_goLineStop 0 := ⟨⟨in_X5, ⟨by decide, by decide⟩, by decide +kernel⟩, im_X5_goLineStop, se_X5_goLineStop⟩
theorem cd_X4_lineStop : Cond.code yX4_lineStop cX4_lineStop 3 (some .int) ∈ wsG := wg (tw2 169 rfl) rfl
theorem im_X4_lineStop : Cond.instanceMethod yX4_lineStop ∈ wsG := wg (tw2 167 rfl) rfl
theorem se_X4_lineStop : Cond.selects RX4 yX4_lineStop yX4_lineStop ∈ wsG := wg (tw2 168 rfl) rfl
theorem wy_X4_lineStop : wyV yX4_lineStop 1 := ⟨⟨in_X4, ⟨by decide, by decide⟩, by decide +kernel⟩, im_X4_lineStop, se_X4_lineStop⟩
theorem cd_X7_mark : Cond.code yX7_mark cX7_mark 1 (some .int) ∈ wsG := wg (tw2 173 rfl) rfl
theorem im_X7_mark : Cond.instanceMethod yX7_mark ∈ wsG := wg (tw2 171 rfl) rfl
theorem se_X7_mark : Cond.selects RX7 yX7_mark yX7_mark ∈ wsG := wg (tw2 172 rfl) rfl
theorem wy_X7_mark : wyV yX7_mark 0 := ⟨⟨in_X7, ⟨by decide, by decide⟩, by decide +kernel⟩, im_X7_mark, se_X7_mark⟩
theorem cd_X5_setMark : Cond.code yX5_setMark cX5_setMark 1 (some .int) ∈ wsG := wg (tw2 177 rfl) rfl
theorem im_X5_setMark : Cond.instanceMethod yX5_setMark ∈ wsG := wg (tw2 175 rfl) rfl
theorem se_X5_setMark : Cond.selects RX5 yX5_setMark yX5_setMark ∈ wsG := wg (tw2 176 rfl) rfl
theorem wy_X5_setMark : wyV yX5_setMark 0 := ⟨⟨in_X5, ⟨by decide, by decide⟩, by decide +kernel⟩, im_X5_setMark, se_X5_setMark⟩
theorem cd_X7_clearBuffer : Cond.code yX7_clearBuffer cX7_clearBuffer 2 (some .int) ∈ wsG := wg (tw2 181 rfl) rfl
theorem im_X7_clearBuffer : Cond.instanceMethod yX7_clearBuffer ∈ wsG := wg (tw2 179 rfl) rfl
theorem se_X7_clearBuffer : Cond.selects RX7 yX7_clearBuffer yX7_clearBuffer ∈ wsG := wg (tw2 180 rfl) rfl
theorem wy_X7_clearBuffer : wyV yX7_clearBuffer 0 := ⟨⟨in_X7, ⟨by decide, by decide⟩, by decide +kernel⟩, im_X7_clearBuffer, se_X7_clearBuffer⟩
theorem cd_X6_empty : Cond.code yX6_empty cX6_empty 1 none ∈ wsG := wg (tw2 186 rfl) rfl
theorem im_X6_empty : Cond.instanceMethod yX6_empty ∈ wsG := wg (tw2 184 rfl) rfl
theorem se_X6_empty : Cond.selects RX6 yX6_empty yX6_empty ∈ wsG := wg (tw2 185 rfl) rfl
theorem wy_X6_empty : wyV yX6_empty 0 := ⟨⟨in_X6, ⟨by decide, by decide⟩, by decide +kernel⟩, im_X6_empty, se_X6_empty⟩
theorem cd_X7_firstError : Cond.code yX7_firstError cX7_firstError 3 (some .int) ∈ wsG := wg (tw2 190 rfl) rfl
theorem im_X7_firstError : Cond.instanceMethod yX7_firstError ∈ wsG := wg (tw2 188 rfl) rfl
theorem se_X7_firstError : Cond.selects RX7 yX7_firstError yX7_firstError ∈ wsG := wg (tw2 189 rfl) rfl
theorem wy_X7_firstError : wyV yX7_firstError 0 := ⟨⟨in_X7, ⟨by decide, by decide⟩, by decide +kernel⟩, im_X7_firstError, se_X7_firstError⟩
theorem cd_X7_stageBehind : Cond.code yX7_stageBehind cX7_stageBehind 2 (some .int) ∈ wsG := wg (tw2 194 rfl) rfl
theorem st_X7_stageBehind : Cond.static yX7_stageBehind ∈ wsG := wg (tw2 193 rfl) rfl
theorem wy_X7_stageBehind : wyS yX7_stageBehind 2 := ⟨⟨in_X7, ⟨by decide, by decide⟩, by decide +kernel⟩, st_X7_stageBehind⟩
theorem cd_J0_indexOf_0f7a4 : Cond.code yJ0_indexOf_0f7a4 cJ0_indexOf_0f7a4 2 (some .int) ∈ wsG := wg (tw2 199 rfl) rfl
theorem im_J0_indexOf_0f7a4 : Cond.instanceMethod yJ0_indexOf_0f7a4 ∈ wsG := wg (tw2 197 rfl) rfl
theorem se_J0_indexOf_0f7a4 : Cond.selects RJ0 yJ0_indexOf_0f7a4 yJ0_indexOf_0f7a4 ∈ wsG := wg (tw2 198 rfl) rfl
theorem wy_J0_indexOf_0f7a4 : wyV yJ0_indexOf_0f7a4 1 := ⟨⟨in_J0, ⟨by decide, by decide⟩, by decide +kernel⟩, im_J0_indexOf_0f7a4, se_J0_indexOf_0f7a4⟩
theorem cd_J0_indexOf_7cf53 : Cond.code yJ0_indexOf_7cf53 cJ0_indexOf_7cf53 3 (some .int) ∈ wsG := wg (tw2 203 rfl) rfl
theorem im_J0_indexOf_7cf53 : Cond.instanceMethod yJ0_indexOf_7cf53 ∈ wsG := wg (tw2 201 rfl) rfl
theorem se_J0_indexOf_7cf53 : Cond.selects RJ0 yJ0_indexOf_7cf53 yJ0_indexOf_7cf53 ∈ wsG := wg (tw2 202 rfl) rfl
theorem wy_J0_indexOf_7cf53 : wyV yJ0_indexOf_7cf53 2 := ⟨⟨in_J0, ⟨by decide, by decide⟩, by decide +kernel⟩, im_J0_indexOf_7cf53, se_J0_indexOf_7cf53⟩
theorem cd_J0_isLatin1_aae02 : Cond.code yJ0_isLatin1_aae02 cJ0_isLatin1_aae02 1 (some .boolean) ∈ wsG := wg (tw2 207 rfl) rfl
theorem im_J0_isLatin1_aae02 : Cond.instanceMethod yJ0_isLatin1_aae02 ∈ wsG := wg (tw2 205 rfl) rfl
theorem se_J0_isLatin1_aae02 : Cond.selects RJ0 yJ0_isLatin1_aae02 yJ0_isLatin1_aae02 ∈ wsG := wg (tw2 206 rfl) rfl
theorem wy_J0_isLatin1_aae02 : wyV yJ0_isLatin1_aae02 0 := ⟨⟨in_J0, ⟨by decide, by decide⟩, by decide +kernel⟩, im_J0_isLatin1_aae02, se_J0_isLatin1_aae02⟩
theorem cd_J0_length_8abf5 : Cond.code yJ0_length_8abf5 cJ0_length_8abf5 1 (some .int) ∈ wsG := wg (tw2 213 rfl) rfl
theorem im_J0_length_8abf5 : Cond.instanceMethod yJ0_length_8abf5 ∈ wsG := wg (tw2 211 rfl) rfl
theorem se_J0_length_8abf5 : Cond.selects RJ0 yJ0_length_8abf5 yJ0_length_8abf5 ∈ wsG := wg (tw2 212 rfl) rfl
theorem wy_J0_length_8abf5 : wyV yJ0_length_8abf5 0 := ⟨⟨in_J0, ⟨by decide, by decide⟩, by decide +kernel⟩, im_J0_length_8abf5, se_J0_length_8abf5⟩
theorem cd_J0_coder_7d493 : Cond.code yJ0_coder_7d493 cJ0_coder_7d493 1 (some .byte) ∈ wsG := wg (tw2 217 rfl) rfl
theorem im_J0_coder_7d493 : Cond.instanceMethod yJ0_coder_7d493 ∈ wsG := wg (tw2 215 rfl) rfl
theorem se_J0_coder_7d493 : Cond.selects RJ0 yJ0_coder_7d493 yJ0_coder_7d493 ∈ wsG := wg (tw2 216 rfl) rfl
theorem wy_J0_coder_7d493 : wyV yJ0_coder_7d493 0 := ⟨⟨in_J0, ⟨by decide, by decide⟩, by decide +kernel⟩, im_J0_coder_7d493, se_J0_coder_7d493⟩
theorem cd_J1_indexOf_4cfef : Cond.code yJ1_indexOf_4cfef cJ1_indexOf_4cfef 4 (some .int) ∈ wsG := wg (tw2 220 rfl) rfl
theorem st_J1_indexOf_4cfef : Cond.static yJ1_indexOf_4cfef ∈ wsG := wg (tw2 219 rfl) rfl
theorem wy_J1_indexOf_4cfef : wyS yJ1_indexOf_4cfef 4 := ⟨⟨in_J1, ⟨by decide, by decide⟩, by decide +kernel⟩, st_J1_indexOf_4cfef⟩
theorem cd_J1_canEncode_9a6ad : Cond.code yJ1_canEncode_9a6ad cJ1_canEncode_9a6ad 1 (some .boolean) ∈ wsG := wg (tw2 223 rfl) rfl
theorem st_J1_canEncode_9a6ad : Cond.static yJ1_canEncode_9a6ad ∈ wsG := wg (tw2 222 rfl) rfl
theorem wy_J1_canEncode_9a6ad : wyS yJ1_canEncode_9a6ad 1 := ⟨⟨in_J1, ⟨by decide, by decide⟩, by decide +kernel⟩, st_J1_canEncode_9a6ad⟩
theorem cd_J9_max_7cf53 : Cond.code yJ9_max_7cf53 cJ9_max_7cf53 2 (some .int) ∈ wsG := wg (tw2 226 rfl) rfl
theorem st_J9_max_7cf53 : Cond.static yJ9_max_7cf53 ∈ wsG := wg (tw2 225 rfl) rfl
theorem wy_J9_max_7cf53 : wyS yJ9_max_7cf53 2 := ⟨⟨in_J9, ⟨by decide, by decide⟩, by decide +kernel⟩, st_J9_max_7cf53⟩
theorem cd_J1_indexOfChar_4cfef : Cond.code yJ1_indexOfChar_4cfef cJ1_indexOfChar_4cfef 6 (some .int) ∈ wsG := wg (tw2 230 rfl) rfl
theorem st_J1_indexOfChar_4cfef : Cond.static yJ1_indexOfChar_4cfef ∈ wsG := wg (tw2 229 rfl) rfl
theorem wy_J1_indexOfChar_4cfef : wyS yJ1_indexOfChar_4cfef 4 := ⟨⟨in_J1, ⟨by decide, by decide⟩, by decide +kernel⟩, st_J1_indexOfChar_4cfef⟩
theorem cd_J2_indexOf_4cfef : Cond.code yJ2_indexOf_4cfef cJ2_indexOf_4cfef 4 (some .int) ∈ wsG := wg (tw2 233 rfl) rfl
theorem st_J2_indexOf_4cfef : Cond.static yJ2_indexOf_4cfef ∈ wsG := wg (tw2 232 rfl) rfl
theorem wy_J2_indexOf_4cfef : wyS yJ2_indexOf_4cfef 4 := ⟨⟨in_J2, ⟨by decide, by decide⟩, by decide +kernel⟩, st_J2_indexOf_4cfef⟩
theorem cd_J2_indexOfChar_4cfef : Cond.code yJ2_indexOfChar_4cfef cJ2_indexOfChar_4cfef 4 (some .int) ∈ wsG := wg (tw2 239 rfl) rfl
theorem st_J2_indexOfChar_4cfef : Cond.static yJ2_indexOfChar_4cfef ∈ wsG := wg (tw2 238 rfl) rfl
theorem wy_J2_indexOfChar_4cfef : wyS yJ2_indexOfChar_4cfef 4 := ⟨⟨in_J2, ⟨by decide, by decide⟩, by decide +kernel⟩, st_J2_indexOfChar_4cfef⟩
theorem cd_J2_checkBoundsBeginEnd_d044e : Cond.code yJ2_checkBoundsBeginEnd_d044e cJ2_checkBoundsBeginEnd_d044e 3 none ∈ wsG := wg (tw3 2 rfl) rfl
theorem st_J2_checkBoundsBeginEnd_d044e : Cond.static yJ2_checkBoundsBeginEnd_d044e ∈ wsG := wg (tw3 1 rfl) rfl
theorem wy_J2_checkBoundsBeginEnd_d044e : wyS yJ2_checkBoundsBeginEnd_d044e 3 := ⟨⟨in_J2, ⟨by decide, by decide⟩, by decide +kernel⟩, st_J2_checkBoundsBeginEnd_d044e⟩
theorem cd_J2_length_9d52b : Cond.code yJ2_length_9d52b cJ2_length_9d52b 1 (some .int) ∈ wsG := wg (tw3 5 rfl) rfl
theorem st_J2_length_9d52b : Cond.static yJ2_length_9d52b ∈ wsG := wg (tw3 4 rfl) rfl
theorem wy_J2_length_9d52b : wyS yJ2_length_9d52b 1 := ⟨⟨in_J2, ⟨by decide, by decide⟩, by decide +kernel⟩, st_J2_length_9d52b⟩
theorem cd_J0_checkBoundsBeginEnd_23922 : Cond.code yJ0_checkBoundsBeginEnd_23922 cJ0_checkBoundsBeginEnd_23922 3 none ∈ wsG := wg (tw3 8 rfl) rfl
theorem st_J0_checkBoundsBeginEnd_23922 : Cond.static yJ0_checkBoundsBeginEnd_23922 ∈ wsG := wg (tw3 7 rfl) rfl
theorem wy_J0_checkBoundsBeginEnd_23922 : wyS yJ0_checkBoundsBeginEnd_23922 3 := ⟨⟨in_J0, ⟨by decide, by decide⟩, by decide +kernel⟩, st_J0_checkBoundsBeginEnd_23922⟩
theorem cd_J3_checkFromToIndex_8c36e : Cond.code yJ3_checkFromToIndex_8c36e cJ3_checkFromToIndex_8c36e 4 (some .int) ∈ wsG := wg (tw3 13 rfl) rfl
theorem st_J3_checkFromToIndex_8c36e : Cond.static yJ3_checkFromToIndex_8c36e ∈ wsG := wg (tw3 12 rfl) rfl
theorem wy_J3_checkFromToIndex_8c36e : wyS yJ3_checkFromToIndex_8c36e 4 := ⟨⟨in_J3, ⟨by decide, by decide⟩, by decide +kernel⟩, st_J3_checkFromToIndex_8c36e⟩
theorem cd_J2_indexOfCharUnsafe_4cfef : Cond.code yJ2_indexOfCharUnsafe_4cfef cJ2_indexOfCharUnsafe_4cfef 5 (some .int) ∈ wsG := wg (tw3 16 rfl) rfl
theorem st_J2_indexOfCharUnsafe_4cfef : Cond.static yJ2_indexOfCharUnsafe_4cfef ∈ wsG := wg (tw3 15 rfl) rfl
theorem wy_J2_indexOfCharUnsafe_4cfef : wyS yJ2_indexOfCharUnsafe_4cfef 4 := ⟨⟨in_J2, ⟨by decide, by decide⟩, by decide +kernel⟩, st_J2_indexOfCharUnsafe_4cfef⟩
theorem cd_J2_getChar_3b067 : Cond.code yJ2_getChar_3b067 cJ2_getChar_3b067 2 (some .char) ∈ wsG := wg (tw3 19 rfl) rfl
theorem st_J2_getChar_3b067 : Cond.static yJ2_getChar_3b067 ∈ wsG := wg (tw3 18 rfl) rfl
theorem wy_J2_getChar_3b067 : wyS yJ2_getChar_3b067 2 := ⟨⟨in_J2, ⟨by decide, by decide⟩, by decide +kernel⟩, st_J2_getChar_3b067⟩
theorem cd_J2_indexOfSupplementary_4cfef : Cond.code yJ2_indexOfSupplementary_4cfef cJ2_indexOfSupplementary_4cfef 7 (some .int) ∈ wsG := wg (tw3 28 rfl) rfl
theorem st_J2_indexOfSupplementary_4cfef : Cond.static yJ2_indexOfSupplementary_4cfef ∈ wsG := wg (tw3 27 rfl) rfl
theorem wy_J2_indexOfSupplementary_4cfef : wyS yJ2_indexOfSupplementary_4cfef 4 := ⟨⟨in_J2, ⟨by decide, by decide⟩, by decide +kernel⟩, st_J2_indexOfSupplementary_4cfef⟩
theorem cd_J11_isValidCodePoint_9a6ad : Cond.code yJ11_isValidCodePoint_9a6ad cJ11_isValidCodePoint_9a6ad 2 (some .boolean) ∈ wsG := wg (tw3 31 rfl) rfl
theorem st_J11_isValidCodePoint_9a6ad : Cond.static yJ11_isValidCodePoint_9a6ad ∈ wsG := wg (tw3 30 rfl) rfl
theorem wy_J11_isValidCodePoint_9a6ad : wyS yJ11_isValidCodePoint_9a6ad 1 := ⟨⟨in_J11, ⟨by decide, by decide⟩, by decide +kernel⟩, st_J11_isValidCodePoint_9a6ad⟩
theorem cd_J11_highSurrogate_5068e : Cond.code yJ11_highSurrogate_5068e cJ11_highSurrogate_5068e 1 (some .char) ∈ wsG := wg (tw3 34 rfl) rfl
theorem st_J11_highSurrogate_5068e : Cond.static yJ11_highSurrogate_5068e ∈ wsG := wg (tw3 33 rfl) rfl
theorem wy_J11_highSurrogate_5068e : wyS yJ11_highSurrogate_5068e 1 := ⟨⟨in_J11, ⟨by decide, by decide⟩, by decide +kernel⟩, st_J11_highSurrogate_5068e⟩
theorem cd_J11_lowSurrogate_5068e : Cond.code yJ11_lowSurrogate_5068e cJ11_lowSurrogate_5068e 1 (some .char) ∈ wsG := wg (tw3 38 rfl) rfl
theorem st_J11_lowSurrogate_5068e : Cond.static yJ11_lowSurrogate_5068e ∈ wsG := wg (tw3 37 rfl) rfl
theorem wy_J11_lowSurrogate_5068e : wyS yJ11_lowSurrogate_5068e 1 := ⟨⟨in_J11, ⟨by decide, by decide⟩, by decide +kernel⟩, st_J11_lowSurrogate_5068e⟩
theorem cd_X7_isNumber : Cond.code yX7_isNumber cX7_isNumber 1 (some .boolean) ∈ wsG := wg (tw3 42 rfl) rfl
theorem st_X7_isNumber : Cond.static yX7_isNumber ∈ wsG := wg (tw3 41 rfl) rfl
theorem wy_X7_isNumber : wyS yX7_isNumber 1 := ⟨⟨in_X7, ⟨by decide, by decide⟩, by decide +kernel⟩, st_X7_isNumber⟩
theorem cd_X7_savedStates : Cond.code yX7_savedStates cX7_savedStates 1 (some .int) ∈ wsG := wg (tw3 46 rfl) rfl
theorem im_X7_savedStates : Cond.instanceMethod yX7_savedStates ∈ wsG := wg (tw3 44 rfl) rfl
theorem se_X7_savedStates : Cond.selects RX7 yX7_savedStates yX7_savedStates ∈ wsG := wg (tw3 45 rfl) rfl
theorem wy_X7_savedStates : wyV yX7_savedStates 0 := ⟨⟨in_X7, ⟨by decide, by decide⟩, by decide +kernel⟩, im_X7_savedStates, se_X7_savedStates⟩
theorem cd_X2_count : Cond.code yX2_count cX2_count 1 (some .int) ∈ wsG := wg (tw3 50 rfl) rfl
theorem im_X2_count : Cond.instanceMethod yX2_count ∈ wsG := wg (tw3 48 rfl) rfl
theorem se_X2_count : Cond.selects RX2 yX2_count yX2_count ∈ wsG := wg (tw3 49 rfl) rfl
theorem wy_X2_count : wyV yX2_count 0 := ⟨⟨in_X2, ⟨by decide, by decide⟩, by decide +kernel⟩, im_X2_count, se_X2_count⟩
theorem cd_X7_length : Cond.code yX7_length cX7_length 1 (some .int) ∈ wsG := wg (tw3 54 rfl) rfl
theorem im_X7_length : Cond.instanceMethod yX7_length ∈ wsG := wg (tw3 52 rfl) rfl
theorem se_X7_length : Cond.selects RX7 yX7_length yX7_length ∈ wsG := wg (tw3 53 rfl) rfl
theorem wy_X7_length : wyV yX7_length 0 := ⟨⟨in_X7, ⟨by decide, by decide⟩, by decide +kernel⟩, im_X7_length, se_X7_length⟩
theorem cd_X7_point : Cond.code yX7_point cX7_point 1 (some .int) ∈ wsG := wg (tw3 58 rfl) rfl
theorem im_X7_point : Cond.instanceMethod yX7_point ∈ wsG := wg (tw3 56 rfl) rfl
theorem se_X7_point : Cond.selects RX7 yX7_point yX7_point ∈ wsG := wg (tw3 57 rfl) rfl
theorem wy_X7_point : wyV yX7_point 0 := ⟨⟨in_X7, ⟨by decide, by decide⟩, by decide +kernel⟩, im_X7_point, se_X7_point⟩
theorem cd_X7_linesByEnds : Cond.code yX7_linesByEnds cX7_linesByEnds 1 (some .int) ∈ wsG := wg (tw3 62 rfl) rfl
theorem im_X7_linesByEnds : Cond.instanceMethod yX7_linesByEnds ∈ wsG := wg (tw3 60 rfl) rfl
theorem se_X7_linesByEnds : Cond.selects RX7 yX7_linesByEnds yX7_linesByEnds ∈ wsG := wg (tw3 61 rfl) rfl
theorem wy_X7_linesByEnds : wyV yX7_linesByEnds 0 := ⟨⟨in_X7, ⟨by decide, by decide⟩, by decide +kernel⟩, im_X7_linesByEnds, se_X7_linesByEnds⟩
theorem cd_X4_endsAhead : Cond.code yX4_endsAhead cX4_endsAhead 4 (some .int) ∈ wsG := wg (tw3 66 rfl) rfl
theorem im_X4_endsAhead : Cond.instanceMethod yX4_endsAhead ∈ wsG := wg (tw3 64 rfl) rfl
theorem se_X4_endsAhead : Cond.selects RX4 yX4_endsAhead yX4_endsAhead ∈ wsG := wg (tw3 65 rfl) rfl
theorem wy_X4_endsAhead : wyV yX4_endsAhead 1 := ⟨⟨in_X4, ⟨by decide, by decide⟩, by decide +kernel⟩, im_X4_endsAhead, se_X4_endsAhead⟩
theorem cd_X7_linesByGoing : Cond.code yX7_linesByGoing cX7_linesByGoing 1 (some .int) ∈ wsG := wg (tw3 70 rfl) rfl
theorem im_X7_linesByGoing : Cond.instanceMethod yX7_linesByGoing ∈ wsG := wg (tw3 68 rfl) rfl
theorem se_X7_linesByGoing : Cond.selects RX7 yX7_linesByGoing yX7_linesByGoing ∈ wsG := wg (tw3 69 rfl) rfl
theorem wy_X7_linesByGoing : wyV yX7_linesByGoing 0 := ⟨⟨in_X7, ⟨by decide, by decide⟩, by decide +kernel⟩, im_X7_linesByGoing, se_X7_linesByGoing⟩
theorem cd_X4_linesGone : Cond.code yX4_linesGone cX4_linesGone 4 (some .int) ∈ wsG := wg (tw3 74 rfl) rfl
theorem im_X4_linesGone : Cond.instanceMethod yX4_linesGone ∈ wsG := wg (tw3 72 rfl) rfl
theorem se_X4_linesGone : Cond.selects RX4 yX4_linesGone yX4_linesGone ∈ wsG := wg (tw3 73 rfl) rfl
theorem wy_X4_linesGone : wyV yX4_linesGone 0 := ⟨⟨in_X4, ⟨by decide, by decide⟩, by decide +kernel⟩, im_X4_linesGone, se_X4_linesGone⟩
theorem cd_X7_line : Cond.code yX7_line cX7_line 1 (some .int) ∈ wsG := wg (tw3 79 rfl) rfl
theorem im_X7_line : Cond.instanceMethod yX7_line ∈ wsG := wg (tw3 77 rfl) rfl
theorem se_X7_line : Cond.selects RX7 yX7_line yX7_line ∈ wsG := wg (tw3 78 rfl) rfl
theorem wy_X7_line : wyV yX7_line 0 := ⟨⟨in_X7, ⟨by decide, by decide⟩, by decide +kernel⟩, im_X7_line, se_X7_line⟩
theorem cd_X7_column : Cond.code yX7_column cX7_column 1 (some .int) ∈ wsG := wg (tw3 83 rfl) rfl
theorem im_X7_column : Cond.instanceMethod yX7_column ∈ wsG := wg (tw3 81 rfl) rfl
theorem se_X7_column : Cond.selects RX7 yX7_column yX7_column ∈ wsG := wg (tw3 82 rfl) rfl
theorem wy_X7_column : wyV yX7_column 0 := ⟨⟨in_X7, ⟨by decide, by decide⟩, by decide +kernel⟩, im_X7_column, se_X7_column⟩
theorem cd_X7_longestLine : Cond.code yX7_longestLine cX7_longestLine 1 (some .int) ∈ wsG := wg (tw3 88 rfl) rfl
theorem im_X7_longestLine : Cond.instanceMethod yX7_longestLine ∈ wsG := wg (tw3 86 rfl) rfl
theorem se_X7_longestLine : Cond.selects RX7 yX7_longestLine yX7_longestLine ∈ wsG := wg (tw3 87 rfl) rfl
theorem wy_X7_longestLine : wyV yX7_longestLine 0 := ⟨⟨in_X7, ⟨by decide, by decide⟩, by decide +kernel⟩, im_X7_longestLine, se_X7_longestLine⟩
theorem cd_X4_longest : Cond.code yX4_longest cX4_longest 5 (some .int) ∈ wsG := wg (tw3 92 rfl) rfl
theorem im_X4_longest : Cond.instanceMethod yX4_longest ∈ wsG := wg (tw3 90 rfl) rfl
theorem se_X4_longest : Cond.selects RX4 yX4_longest yX4_longest ∈ wsG := wg (tw3 91 rfl) rfl
theorem wy_X4_longest : wyV yX4_longest 0 := ⟨⟨in_X4, ⟨by decide, by decide⟩, by decide +kernel⟩, im_X4_longest, se_X4_longest⟩
theorem cd_X7_wordsByBegins : Cond.code yX7_wordsByBegins cX7_wordsByBegins 1 (some .int) ∈ wsG := wg (tw3 97 rfl) rfl
theorem im_X7_wordsByBegins : Cond.instanceMethod yX7_wordsByBegins ∈ wsG := wg (tw3 95 rfl) rfl
theorem se_X7_wordsByBegins : Cond.selects RX7 yX7_wordsByBegins yX7_wordsByBegins ∈ wsG := wg (tw3 96 rfl) rfl
theorem wy_X7_wordsByBegins : wyV yX7_wordsByBegins 0 := ⟨⟨in_X7, ⟨by decide, by decide⟩, by decide +kernel⟩, im_X7_wordsByBegins, se_X7_wordsByBegins⟩
theorem cd_X4_wordsBegun : Cond.code yX4_wordsBegun cX4_wordsBegun 3 (some .int) ∈ wsG := wg (tw3 101 rfl) rfl
theorem im_X4_wordsBegun : Cond.instanceMethod yX4_wordsBegun ∈ wsG := wg (tw3 99 rfl) rfl
theorem se_X4_wordsBegun : Cond.selects RX4 yX4_wordsBegun yX4_wordsBegun ∈ wsG := wg (tw3 100 rfl) rfl
theorem wy_X4_wordsBegun : wyV yX4_wordsBegun 0 := ⟨⟨in_X4, ⟨by decide, by decide⟩, by decide +kernel⟩, im_X4_wordsBegun, se_X4_wordsBegun⟩
theorem cd_X7_wordsByGoing : Cond.code yX7_wordsByGoing cX7_wordsByGoing 1 (some .int) ∈ wsG := wg (tw3 105 rfl) rfl
theorem im_X7_wordsByGoing : Cond.instanceMethod yX7_wordsByGoing ∈ wsG := wg (tw3 103 rfl) rfl
theorem se_X7_wordsByGoing : Cond.selects RX7 yX7_wordsByGoing yX7_wordsByGoing ∈ wsG := wg (tw3 104 rfl) rfl
theorem wy_X7_wordsByGoing : wyV yX7_wordsByGoing 0 := ⟨⟨in_X7, ⟨by decide, by decide⟩, by decide +kernel⟩, im_X7_wordsByGoing, se_X7_wordsByGoing⟩
theorem cd_X4_wordsGone : Cond.code yX4_wordsGone cX4_wordsGone 4 (some .int) ∈ wsG := wg (tw3 109 rfl) rfl
theorem im_X4_wordsGone : Cond.instanceMethod yX4_wordsGone ∈ wsG := wg (tw3 107 rfl) rfl
theorem se_X4_wordsGone : Cond.selects RX4 yX4_wordsGone yX4_wordsGone ∈ wsG := wg (tw3 108 rfl) rfl
theorem wy_X4_wordsGone : wyV yX4_wordsGone 0 := ⟨⟨in_X4, ⟨by decide, by decide⟩, by decide +kernel⟩, im_X4_wordsGone, se_X4_wordsGone⟩
theorem cd_X7_hoards : Cond.code yX7_hoards cX7_hoards 1 (some .int) ∈ wsG := wg (tw3 114 rfl) rfl
theorem im_X7_hoards : Cond.instanceMethod yX7_hoards ∈ wsG := wg (tw3 112 rfl) rfl
theorem se_X7_hoards : Cond.selects RX7 yX7_hoards yX7_hoards ∈ wsG := wg (tw3 113 rfl) rfl
theorem wy_X7_hoards : wyV yX7_hoards 0 := ⟨⟨in_X7, ⟨by decide, by decide⟩, by decide +kernel⟩, im_X7_hoards, se_X7_hoards⟩
theorem cd_X7_caves : Cond.code yX7_caves cX7_caves 1 (some .int) ∈ wsG := wg (tw3 118 rfl) rfl
theorem im_X7_caves : Cond.instanceMethod yX7_caves ∈ wsG := wg (tw3 116 rfl) rfl
theorem se_X7_caves : Cond.selects RX7 yX7_caves yX7_caves ∈ wsG := wg (tw3 117 rfl) rfl
theorem wy_X7_caves : wyV yX7_caves 0 := ⟨⟨in_X7, ⟨by decide, by decide⟩, by decide +kernel⟩, im_X7_caves, se_X7_caves⟩
theorem cd_X7_isGrowing : Cond.code yX7_isGrowing cX7_isGrowing 1 (some .boolean) ∈ wsG := wg (tw3 122 rfl) rfl
theorem im_X7_isGrowing : Cond.instanceMethod yX7_isGrowing ∈ wsG := wg (tw3 120 rfl) rfl
theorem se_X7_isGrowing : Cond.selects RX7 yX7_isGrowing yX7_isGrowing ∈ wsG := wg (tw3 121 rfl) rfl
theorem wy_X7_isGrowing : wyV yX7_isGrowing 0 := ⟨⟨in_X7, ⟨by decide, by decide⟩, by decide +kernel⟩, im_X7_isGrowing, se_X7_isGrowing⟩
theorem cd_X7_canTurnYank : Cond.code yX7_canTurnYank cX7_canTurnYank 1 (some .boolean) ∈ wsG := wg (tw3 126 rfl) rfl
theorem im_X7_canTurnYank : Cond.instanceMethod yX7_canTurnYank ∈ wsG := wg (tw3 124 rfl) rfl
theorem se_X7_canTurnYank : Cond.selects RX7 yX7_canTurnYank yX7_canTurnYank ∈ wsG := wg (tw3 125 rfl) rfl
theorem wy_X7_canTurnYank : wyV yX7_canTurnYank 0 := ⟨⟨in_X7, ⟨by decide, by decide⟩, by decide +kernel⟩, im_X7_canTurnYank, se_X7_canTurnYank⟩
theorem cd_X7_weight : Cond.code yX7_weight cX7_weight 1 (some .int) ∈ wsG := wg (tw3 130 rfl) rfl
theorem im_X7_weight : Cond.instanceMethod yX7_weight ∈ wsG := wg (tw3 128 rfl) rfl
theorem se_X7_weight : Cond.selects RX7 yX7_weight yX7_weight ∈ wsG := wg (tw3 129 rfl) rfl
theorem wy_X7_weight : wyV yX7_weight 0 := ⟨⟨in_X7, ⟨by decide, by decide⟩, by decide +kernel⟩, im_X7_weight, se_X7_weight⟩
theorem cd_X3_allCodes : Cond.code yX3_allCodes cX3_allCodes 3 (some .int) ∈ wsG := wg (tw3 134 rfl) rfl
theorem im_X3_allCodes : Cond.instanceMethod yX3_allCodes ∈ wsG := wg (tw3 132 rfl) rfl
theorem se_X3_allCodes : Cond.selects RX3 yX3_allCodes yX3_allCodes ∈ wsG := wg (tw3 133 rfl) rfl
theorem wy_X3_allCodes : wyV yX3_allCodes 0 := ⟨⟨in_X3, ⟨by decide, by decide⟩, by decide +kernel⟩, im_X3_allCodes, se_X3_allCodes⟩
theorem cd_X3_hoard : Cond.code yX3_hoard cX3_hoard 2 (some (.object "DragonRing$Text")) ∈ wsG := wg (tw3 138 rfl) rfl
theorem im_X3_hoard : Cond.instanceMethod yX3_hoard ∈ wsG := wg (tw3 136 rfl) rfl
theorem se_X3_hoard : Cond.selects RX3 yX3_hoard yX3_hoard ∈ wsG := wg (tw3 137 rfl) rfl
theorem wy_X3_hoard : wyV yX3_hoard 1 := ⟨⟨in_X3, ⟨by decide, by decide⟩, by decide +kernel⟩, im_X3_hoard, se_X3_hoard⟩
theorem cd_X7_killed : Cond.code yX7_killed cX7_killed 1 (some .int) ∈ wsG := wg (tw3 143 rfl) rfl
theorem im_X7_killed : Cond.instanceMethod yX7_killed ∈ wsG := wg (tw3 141 rfl) rfl
theorem se_X7_killed : Cond.selects RX7 yX7_killed yX7_killed ∈ wsG := wg (tw3 142 rfl) rfl
theorem wy_X7_killed : wyV yX7_killed 0 := ⟨⟨in_X7, ⟨by decide, by decide⟩, by decide +kernel⟩, im_X7_killed, se_X7_killed⟩
theorem cd_X7_yanked : Cond.code yX7_yanked cX7_yanked 1 (some .int) ∈ wsG := wg (tw3 147 rfl) rfl
theorem im_X7_yanked : Cond.instanceMethod yX7_yanked ∈ wsG := wg (tw3 145 rfl) rfl
theorem se_X7_yanked : Cond.selects RX7 yX7_yanked yX7_yanked ∈ wsG := wg (tw3 146 rfl) rfl
theorem wy_X7_yanked : wyV yX7_yanked 0 := ⟨⟨in_X7, ⟨by decide, by decide⟩, by decide +kernel⟩, im_X7_yanked, se_X7_yanked⟩
theorem cd_X7_written : Cond.code yX7_written cX7_written 1 (some .int) ∈ wsG := wg (tw3 151 rfl) rfl
theorem im_X7_written : Cond.instanceMethod yX7_written ∈ wsG := wg (tw3 149 rfl) rfl
theorem se_X7_written : Cond.selects RX7 yX7_written yX7_written ∈ wsG := wg (tw3 150 rfl) rfl
theorem wy_X7_written : wyV yX7_written 0 := ⟨⟨in_X7, ⟨by decide, by decide⟩, by decide +kernel⟩, im_X7_written, se_X7_written⟩
theorem cd_X7_lostHoards : Cond.code yX7_lostHoards cX7_lostHoards 1 (some .int) ∈ wsG := wg (tw3 155 rfl) rfl
theorem im_X7_lostHoards : Cond.instanceMethod yX7_lostHoards ∈ wsG := wg (tw3 153 rfl) rfl
theorem se_X7_lostHoards : Cond.selects RX7 yX7_lostHoards yX7_lostHoards ∈ wsG := wg (tw3 154 rfl) rfl
theorem wy_X7_lostHoards : wyV yX7_lostHoards 0 := ⟨⟨in_X7, ⟨by decide, by decide⟩, by decide +kernel⟩, im_X7_lostHoards, se_X7_lostHoards⟩
theorem cd_X7_lengthByAccount : Cond.code yX7_lengthByAccount cX7_lengthByAccount 1 (some .int) ∈ wsG := wg (tw3 159 rfl) rfl
theorem im_X7_lengthByAccount : Cond.instanceMethod yX7_lengthByAccount ∈ wsG := wg (tw3 157 rfl) rfl
theorem se_X7_lengthByAccount : Cond.selects RX7 yX7_lengthByAccount yX7_lengthByAccount ∈ wsG := wg (tw3 158 rfl) rfl
theorem wy_X7_lengthByAccount : wyV yX7_lengthByAccount 0 := ⟨⟨in_X7, ⟨by decide, by decide⟩, by decide +kernel⟩, im_X7_lengthByAccount, se_X7_lengthByAccount⟩
theorem cd_X0_balance : Cond.code yX0_balance cX0_balance 1 (some .int) ∈ wsG := wg (tw3 163 rfl) rfl
theorem im_X0_balance : Cond.instanceMethod yX0_balance ∈ wsG := wg (tw3 161 rfl) rfl
theorem se_X0_balance : Cond.selects RX0 yX0_balance yX0_balance ∈ wsG := wg (tw3 162 rfl) rfl
theorem wy_X0_balance : wyV yX0_balance 0 := ⟨⟨in_X0, ⟨by decide, by decide⟩, by decide +kernel⟩, im_X0_balance, se_X0_balance⟩
theorem cd_X7_meanHoard : Cond.code yX7_meanHoard cX7_meanHoard 2 (some .double) ∈ wsG := wg (tw3 167 rfl) rfl
theorem im_X7_meanHoard : Cond.instanceMethod yX7_meanHoard ∈ wsG := wg (tw3 165 rfl) rfl
theorem se_X7_meanHoard : Cond.selects RX7 yX7_meanHoard yX7_meanHoard ∈ wsG := wg (tw3 166 rfl) rfl
theorem wy_X7_meanHoard : wyV yX7_meanHoard 0 := ⟨⟨in_X7, ⟨by decide, by decide⟩, by decide +kernel⟩, im_X7_meanHoard, se_X7_meanHoard⟩
theorem cd_X7_digest : Cond.code yX7_digest cX7_digest 2 (some .long) ∈ wsG := wg (tw3 171 rfl) rfl
theorem im_X7_digest : Cond.instanceMethod yX7_digest ∈ wsG := wg (tw3 169 rfl) rfl
theorem se_X7_digest : Cond.selects RX7 yX7_digest yX7_digest ∈ wsG := wg (tw3 170 rfl) rfl
theorem wy_X7_digest : wyV yX7_digest 0 := ⟨⟨in_X7, ⟨by decide, by decide⟩, by decide +kernel⟩, im_X7_digest, se_X7_digest⟩
theorem cd_X1_init : Cond.code yX1_init cX1_init 1 none ∈ wsG := wg (tw3 176 rfl) rfl
theorem im_X1_init : Cond.instanceMethod yX1_init ∈ wsG := wg (tw3 175 rfl) rfl
theorem wy_X1_init : wyI yX1_init 0 := ⟨⟨in_X1, ⟨by decide, by decide⟩, by decide +kernel⟩, rfl, im_X1_init⟩
theorem cd_X7_hashScroll : Cond.code yX7_hashScroll cX7_hashScroll 3 none ∈ wsG := wg (tw3 187 rfl) rfl
theorem im_X7_hashScroll : Cond.instanceMethod yX7_hashScroll ∈ wsG := wg (tw3 186 rfl) rfl
theorem wy_X7_hashScroll : wyV yX7_hashScroll 1 := ⟨⟨in_X7, ⟨by decide, by decide⟩, by decide +kernel⟩, im_X7_hashScroll, se_X7_hashScroll⟩
theorem cd_X1_addText : Cond.code yX1_addText cX1_addText 3 none ∈ wsG := wg (tw3 191 rfl) rfl
theorem im_X1_addText : Cond.instanceMethod yX1_addText ∈ wsG := wg (tw3 189 rfl) rfl
theorem se_X1_addText : Cond.selects RX1 yX1_addText yX1_addText ∈ wsG := wg (tw3 190 rfl) rfl
theorem wy_X1_addText : wyV yX1_addText 1 := ⟨⟨in_X1, ⟨by decide, by decide⟩, by decide +kernel⟩, im_X1_addText, se_X1_addText⟩
theorem cd_X1_add : Cond.code yX1_add cX1_add 3 none ∈ wsG := wg (tw3 196 rfl) rfl
theorem im_X1_add : Cond.instanceMethod yX1_add ∈ wsG := wg (tw3 194 rfl) rfl
theorem se_X1_add : Cond.selects RX1 yX1_add yX1_add ∈ wsG := wg (tw3 195 rfl) rfl
theorem wy_X1_add : wyV yX1_add 1 := ⟨⟨in_X1, ⟨by decide, by decide⟩, by decide +kernel⟩, im_X1_add, se_X1_add⟩
theorem cd_X4_fromMark : Cond.code yX4_fromMark cX4_fromMark 1 (some .int) ∈ wsG := wg (tw3 203 rfl) rfl
theorem im_X4_fromMark : Cond.instanceMethod yX4_fromMark ∈ wsG := wg (tw3 201 rfl) rfl
theorem se_X4_fromMark : Cond.selects RX4 yX4_fromMark yX4_fromMark ∈ wsG := wg (tw3 202 rfl) rfl
theorem wy_X4_fromMark : wyV yX4_fromMark 0 := ⟨⟨in_X4, ⟨by decide, by decide⟩, by decide +kernel⟩, im_X4_fromMark, se_X4_fromMark⟩
theorem cd_X7_hashRing : Cond.code yX7_hashRing cX7_hashRing 4 none ∈ wsG := wg (tw3 215 rfl) rfl
theorem im_X7_hashRing : Cond.instanceMethod yX7_hashRing ∈ wsG := wg (tw3 214 rfl) rfl
theorem wy_X7_hashRing : wyV yX7_hashRing 1 := ⟨⟨in_X7, ⟨by decide, by decide⟩, by decide +kernel⟩, im_X7_hashRing, se_X7_hashRing⟩
theorem cd_X3_longestAt : Cond.code yX3_longestAt cX3_longestAt 3 (some .int) ∈ wsG := wg (tw3 222 rfl) rfl
theorem im_X3_longestAt : Cond.instanceMethod yX3_longestAt ∈ wsG := wg (tw3 220 rfl) rfl
theorem se_X3_longestAt : Cond.selects RX3 yX3_longestAt yX3_longestAt ∈ wsG := wg (tw3 221 rfl) rfl
theorem wy_X3_longestAt : wyV yX3_longestAt 0 := ⟨⟨in_X3, ⟨by decide, by decide⟩, by decide +kernel⟩, im_X3_longestAt, se_X3_longestAt⟩
theorem cd_X7_hashRest : Cond.code yX7_hashRest cX7_hashRest 3 none ∈ wsG := wg (tw3 226 rfl) rfl
theorem im_X7_hashRest : Cond.instanceMethod yX7_hashRest ∈ wsG := wg (tw3 225 rfl) rfl
theorem wy_X7_hashRest : wyV yX7_hashRest 1 := ⟨⟨in_X7, ⟨by decide, by decide⟩, by decide +kernel⟩, im_X7_hashRest, se_X7_hashRest⟩
theorem cd_X7_bitsOf : Cond.code yX7_bitsOf cX7_bitsOf 7 (some .long) ∈ wsG := wg (tw3 236 rfl) rfl
theorem st_X7_bitsOf : Cond.static yX7_bitsOf ∈ wsG := wg (tw3 235 rfl) rfl
theorem wy_X7_bitsOf : wyS yX7_bitsOf 1 := ⟨⟨in_X7, ⟨by decide, by decide⟩, by decide +kernel⟩, st_X7_bitsOf⟩
theorem st_L_write : Cond.static yL_write ∈ wsG := wg (tw4 1 rfl) rfl
theorem wy_L_write : wyS yL_write 3 := ⟨⟨in_L, ⟨by decide, by decide⟩, by decide +kernel⟩, st_L_write⟩
theorem cd_X7_write : Cond.code yX7_write cX7_write 2 (some .int) ∈ wsG := wg (tw4 8 rfl) rfl
theorem im_X7_write : Cond.instanceMethod yX7_write ∈ wsG := wg (tw4 6 rfl) rfl
theorem se_X7_write : Cond.selects RX7 yX7_write yX7_write ∈ wsG := wg (tw4 7 rfl) rfl
theorem wy_X7_write : wyV yX7_write 1 := ⟨⟨in_X7, ⟨by decide, by decide⟩, by decide +kernel⟩, im_X7_write, se_X7_write⟩
theorem cd_X5_writeCode : Cond.code yX5_writeCode cX5_writeCode 2 (some .int) ∈ wsG := wg (tw4 28 rfl) rfl
theorem im_X5_writeCode : Cond.instanceMethod yX5_writeCode ∈ wsG := wg (tw4 26 rfl) rfl
theorem se_X5_writeCode : Cond.selects RX5 yX5_writeCode yX5_writeCode ∈ wsG := wg (tw4 27 rfl) rfl
theorem wy_X5_writeCode : wyV yX5_writeCode 1 := ⟨⟨in_X5, ⟨by decide, by decide⟩, by decide +kernel⟩, im_X5_writeCode, se_X5_writeCode⟩
theorem cd_X6_room : Cond.code yX6_room cX6_room 1 (some .int) ∈ wsG := wg (tw4 32 rfl) rfl
theorem im_X6_room : Cond.instanceMethod yX6_room ∈ wsG := wg (tw4 30 rfl) rfl
theorem se_X6_room : Cond.selects RX6 yX6_room yX6_room ∈ wsG := wg (tw4 31 rfl) rfl
theorem wy_X6_room : wyV yX6_room 0 := ⟨⟨in_X6, ⟨by decide, by decide⟩, by decide +kernel⟩, im_X6_room, se_X6_room⟩
theorem cd_X4_writeCode : Cond.code yX4_writeCode cX4_writeCode 2 none ∈ wsG := wg (tw4 36 rfl) rfl
theorem im_X4_writeCode : Cond.instanceMethod yX4_writeCode ∈ wsG := wg (tw4 34 rfl) rfl
theorem se_X4_writeCode : Cond.selects RX4 yX4_writeCode yX4_writeCode ∈ wsG := wg (tw4 35 rfl) rfl
theorem wy_X4_writeCode : wyV yX4_writeCode 1 := ⟨⟨in_X4, ⟨by decide, by decide⟩, by decide +kernel⟩, im_X4_writeCode, se_X4_writeCode⟩
theorem cd_X6_insertCode : Cond.code yX6_insertCode cX6_insertCode 3 none ∈ wsG := wg (tw4 40 rfl) rfl
theorem im_X6_insertCode : Cond.instanceMethod yX6_insertCode ∈ wsG := wg (tw4 38 rfl) rfl
theorem se_X6_insertCode : Cond.selects RX6 yX6_insertCode yX6_insertCode ∈ wsG := wg (tw4 39 rfl) rfl
theorem wy_X6_insertCode : wyV yX6_insertCode 2 := ⟨⟨in_X6, ⟨by decide, by decide⟩, by decide +kernel⟩, im_X6_insertCode, se_X6_insertCode⟩
theorem cd_X4_makeWay : Cond.code yX4_makeWay cX4_makeWay 2 none ∈ wsG := wg (tw4 45 rfl) rfl
theorem im_X4_makeWay : Cond.instanceMethod yX4_makeWay ∈ wsG := wg (tw4 44 rfl) rfl
theorem wy_X4_makeWay : wyV yX4_makeWay 1 := ⟨⟨in_X4, ⟨by decide, by decide⟩, by decide +kernel⟩, im_X4_makeWay, se_X4_makeWay⟩
theorem st_L_rub : Cond.static yL_rub ∈ wsG := wg (tw4 47 rfl) rfl
theorem wy_L_rub : wyS yL_rub 2 := ⟨⟨in_L, ⟨by decide, by decide⟩, by decide +kernel⟩, st_L_rub⟩
theorem cd_X7_rub : Cond.code yX7_rub cX7_rub 1 (some .int) ∈ wsG := wg (tw4 52 rfl) rfl
theorem im_X7_rub : Cond.instanceMethod yX7_rub ∈ wsG := wg (tw4 50 rfl) rfl
theorem se_X7_rub : Cond.selects RX7 yX7_rub yX7_rub ∈ wsG := wg (tw4 51 rfl) rfl
theorem wy_X7_rub : wyV yX7_rub 0 := ⟨⟨in_X7, ⟨by decide, by decide⟩, by decide +kernel⟩, im_X7_rub, se_X7_rub⟩
theorem cd_X5_rubOut : Cond.code yX5_rubOut cX5_rubOut 2 (some .int) ∈ wsG := wg (tw4 56 rfl) rfl
theorem im_X5_rubOut : Cond.instanceMethod yX5_rubOut ∈ wsG := wg (tw4 54 rfl) rfl
theorem se_X5_rubOut : Cond.selects RX5 yX5_rubOut yX5_rubOut ∈ wsG := wg (tw4 55 rfl) rfl
theorem wy_X5_rubOut : wyV yX5_rubOut 0 := ⟨⟨in_X5, ⟨by decide, by decide⟩, by decide +kernel⟩, im_X5_rubOut, se_X5_rubOut⟩
theorem cd_X4_takeOut : Cond.code yX4_takeOut cX4_takeOut 3 none ∈ wsG := wg (tw4 60 rfl) rfl
theorem im_X4_takeOut : Cond.instanceMethod yX4_takeOut ∈ wsG := wg (tw4 58 rfl) rfl
theorem se_X4_takeOut : Cond.selects RX4 yX4_takeOut yX4_takeOut ∈ wsG := wg (tw4 59 rfl) rfl
theorem wy_X4_takeOut : wyV yX4_takeOut 2 := ⟨⟨in_X4, ⟨by decide, by decide⟩, by decide +kernel⟩, im_X4_takeOut, se_X4_takeOut⟩
theorem cd_X6_takeOut : Cond.code yX6_takeOut cX6_takeOut 3 none ∈ wsG := wg (tw4 64 rfl) rfl
theorem im_X6_takeOut : Cond.instanceMethod yX6_takeOut ∈ wsG := wg (tw4 62 rfl) rfl
theorem se_X6_takeOut : Cond.selects RX6 yX6_takeOut yX6_takeOut ∈ wsG := wg (tw4 63 rfl) rfl
theorem wy_X6_takeOut : wyV yX6_takeOut 2 := ⟨⟨in_X6, ⟨by decide, by decide⟩, by decide +kernel⟩, im_X6_takeOut, se_X6_takeOut⟩
theorem cd_X4_placeThen : Cond.code yX4_placeThen cX4_placeThen 3 (some .int) ∈ wsG := wg (tw4 67 rfl) rfl
theorem st_X4_placeThen : Cond.static yX4_placeThen ∈ wsG := wg (tw4 66 rfl) rfl
theorem wy_X4_placeThen : wyS yX4_placeThen 3 := ⟨⟨in_X4, ⟨by decide, by decide⟩, by decide +kernel⟩, st_X4_placeThen⟩
theorem st_L_swap : Cond.static yL_swap ∈ wsG := wg (tw4 69 rfl) rfl
theorem wy_L_swap : wyS yL_swap 2 := ⟨⟨in_L, ⟨by decide, by decide⟩, by decide +kernel⟩, st_L_swap⟩
theorem cd_X7_swap : Cond.code yX7_swap cX7_swap 1 (some .int) ∈ wsG := wg (tw4 74 rfl) rfl
theorem im_X7_swap : Cond.instanceMethod yX7_swap ∈ wsG := wg (tw4 72 rfl) rfl
theorem se_X7_swap : Cond.selects RX7 yX7_swap yX7_swap ∈ wsG := wg (tw4 73 rfl) rfl
theorem wy_X7_swap : wyV yX7_swap 0 := ⟨⟨in_X7, ⟨by decide, by decide⟩, by decide +kernel⟩, im_X7_swap, se_X7_swap⟩
theorem cd_X5_swapBoth : Cond.code yX5_swapBoth cX5_swapBoth 3 (some .int) ∈ wsG := wg (tw4 78 rfl) rfl
theorem im_X5_swapBoth : Cond.instanceMethod yX5_swapBoth ∈ wsG := wg (tw4 76 rfl) rfl
theorem se_X5_swapBoth : Cond.selects RX5 yX5_swapBoth yX5_swapBoth ∈ wsG := wg (tw4 77 rfl) rfl
theorem wy_X5_swapBoth : wyV yX5_swapBoth 0 := ⟨⟨in_X5, ⟨by decide, by decide⟩, by decide +kernel⟩, im_X5_swapBoth, se_X5_swapBoth⟩
theorem st_L_goTo : Cond.static yL_goTo ∈ wsG := wg (tw4 80 rfl) rfl
theorem wy_L_goTo : wyS yL_goTo 3 := ⟨⟨in_L, ⟨by decide, by decide⟩, by decide +kernel⟩, st_L_goTo⟩
theorem cd_X7_goTo : Cond.code yX7_goTo cX7_goTo 2 (some .int) ∈ wsG := wg (tw4 85 rfl) rfl
theorem im_X7_goTo : Cond.instanceMethod yX7_goTo ∈ wsG := wg (tw4 83 rfl) rfl
theorem se_X7_goTo : Cond.selects RX7 yX7_goTo yX7_goTo ∈ wsG := wg (tw4 84 rfl) rfl
theorem wy_X7_goTo : wyV yX7_goTo 1 := ⟨⟨in_X7, ⟨by decide, by decide⟩, by decide +kernel⟩, im_X7_goTo, se_X7_goTo⟩
theorem st_L_goLines : Cond.static yL_goLines ∈ wsG := wg (tw4 89 rfl) rfl
theorem wy_L_goLines : wyS yL_goLines 3 := ⟨⟨in_L, ⟨by decide, by decide⟩, by decide +kernel⟩, st_L_goLines⟩
theorem cd_X7_goLines : Cond.code yX7_goLines cX7_goLines 2 (some .int) ∈ wsG := wg (tw4 94 rfl) rfl
theorem im_X7_goLines : Cond.instanceMethod yX7_goLines ∈ wsG := wg (tw4 92 rfl) rfl
theorem se_X7_goLines : Cond.selects RX7 yX7_goLines yX7_goLines ∈ wsG := wg (tw4 93 rfl) rfl
theorem wy_X7_goLines : wyV yX7_goLines 1 := ⟨⟨in_X7, ⟨by decide, by decide⟩, by decide +kernel⟩, im_X7_goLines, se_X7_goLines⟩
theorem cd_X5_goUpOrDown : Cond.code yX5_goUpOrDown cX5_goUpOrDown 4 (some .int) ∈ wsG := wg (tw4 99 rfl) rfl
theorem im_X5_goUpOrDown : Cond.instanceMethod yX5_goUpOrDown ∈ wsG := wg (tw4 97 rfl) rfl
theorem se_X5_goUpOrDown : Cond.selects RX5 yX5_goUpOrDown yX5_goUpOrDown ∈ wsG := wg (tw4 98 rfl) rfl
theorem wy_X5_goUpOrDown : wyV yX5_goUpOrDown 1 := ⟨⟨in_X5, ⟨by decide, by decide⟩, by decide +kernel⟩, im_X5_goUpOrDown, se_X5_goUpOrDown⟩
theorem cd_X4_lineStartOver : Cond.code yX4_lineStartOver cX4_lineStartOver 5 (some .int) ∈ wsG := wg (tw4 103 rfl) rfl
theorem im_X4_lineStartOver : Cond.instanceMethod yX4_lineStartOver ∈ wsG := wg (tw4 101 rfl) rfl
theorem se_X4_lineStartOver : Cond.selects RX4 yX4_lineStartOver yX4_lineStartOver ∈ wsG := wg (tw4 102 rfl) rfl
theorem wy_X4_lineStartOver : wyV yX4_lineStartOver 2 := ⟨⟨in_X4, ⟨by decide, by decide⟩, by decide +kernel⟩, im_X4_lineStartOver, se_X4_lineStartOver⟩
theorem st_L_exchange : Cond.static yL_exchange ∈ wsG := wg (tw4 107 rfl) rfl
theorem wy_L_exchange : wyS yL_exchange 2 := ⟨⟨in_L, ⟨by decide, by decide⟩, by decide +kernel⟩, st_L_exchange⟩
theorem cd_X7_exchange : Cond.code yX7_exchange cX7_exchange 1 (some .int) ∈ wsG := wg (tw4 112 rfl) rfl
theorem im_X7_exchange : Cond.instanceMethod yX7_exchange ∈ wsG := wg (tw4 110 rfl) rfl
theorem se_X7_exchange : Cond.selects RX7 yX7_exchange yX7_exchange ∈ wsG := wg (tw4 111 rfl) rfl
theorem wy_X7_exchange : wyV yX7_exchange 0 := ⟨⟨in_X7, ⟨by decide, by decide⟩, by decide +kernel⟩, im_X7_exchange, se_X7_exchange⟩
theorem cd_X5_exchangeBoth : Cond.code yX5_exchangeBoth cX5_exchangeBoth 2 (some .int) ∈ wsG := wg (tw4 116 rfl) rfl
theorem im_X5_exchangeBoth : Cond.instanceMethod yX5_exchangeBoth ∈ wsG := wg (tw4 114 rfl) rfl
theorem se_X5_exchangeBoth : Cond.selects RX5 yX5_exchangeBoth yX5_exchangeBoth ∈ wsG := wg (tw4 115 rfl) rfl
theorem wy_X5_exchangeBoth : wyV yX5_exchangeBoth 0 := ⟨⟨in_X5, ⟨by decide, by decide⟩, by decide +kernel⟩, im_X5_exchangeBoth, se_X5_exchangeBoth⟩
theorem st_L_find : Cond.static yL_find ∈ wsG := wg (tw4 118 rfl) rfl
theorem wy_L_find : wyS yL_find 2 := ⟨⟨in_L, ⟨by decide, by decide⟩, by decide +kernel⟩, st_L_find⟩
theorem cd_X7_find : Cond.code yX7_find cX7_find 1 (some .int) ∈ wsG := wg (tw4 123 rfl) rfl
theorem im_X7_find : Cond.instanceMethod yX7_find ∈ wsG := wg (tw4 121 rfl) rfl
theorem se_X7_find : Cond.selects RX7 yX7_find yX7_find ∈ wsG := wg (tw4 122 rfl) rfl
theorem wy_X7_find : wyV yX7_find 0 := ⟨⟨in_X7, ⟨by decide, by decide⟩, by decide +kernel⟩, im_X7_find, se_X7_find⟩
theorem cd_X5_goToText : Cond.code yX5_goToText cX5_goToText 3 (some .int) ∈ wsG := wg (tw4 128 rfl) rfl
theorem im_X5_goToText : Cond.instanceMethod yX5_goToText ∈ wsG := wg (tw4 126 rfl) rfl
theorem se_X5_goToText : Cond.selects RX5 yX5_goToText yX5_goToText ∈ wsG := wg (tw4 127 rfl) rfl
theorem wy_X5_goToText : wyV yX5_goToText 1 := ⟨⟨in_X5, ⟨by decide, by decide⟩, by decide +kernel⟩, im_X5_goToText, se_X5_goToText⟩
theorem cd_X4_placeOf : Cond.code yX4_placeOf cX4_placeOf 3 (some .int) ∈ wsG := wg (tw4 132 rfl) rfl
theorem im_X4_placeOf : Cond.instanceMethod yX4_placeOf ∈ wsG := wg (tw4 130 rfl) rfl
theorem se_X4_placeOf : Cond.selects RX4 yX4_placeOf yX4_placeOf ∈ wsG := wg (tw4 131 rfl) rfl
theorem wy_X4_placeOf : wyV yX4_placeOf 1 := ⟨⟨in_X4, ⟨by decide, by decide⟩, by decide +kernel⟩, im_X4_placeOf, se_X4_placeOf⟩
theorem cd_X6_standsAt : Cond.code yX6_standsAt cX6_standsAt 4 (some .boolean) ∈ wsG := wg (tw4 136 rfl) rfl
theorem im_X6_standsAt : Cond.instanceMethod yX6_standsAt ∈ wsG := wg (tw4 134 rfl) rfl
theorem se_X6_standsAt : Cond.selects RX6 yX6_standsAt yX6_standsAt ∈ wsG := wg (tw4 135 rfl) rfl
theorem wy_X6_standsAt : wyV yX6_standsAt 2 := ⟨⟨in_X6, ⟨by decide, by decide⟩, by decide +kernel⟩, im_X6_standsAt, se_X6_standsAt⟩
theorem st_L_killWord : Cond.static yL_killWord ∈ wsG := wg (tw4 139 rfl) rfl
theorem wy_L_killWord : wyS yL_killWord 2 := ⟨⟨in_L, ⟨by decide, by decide⟩, by decide +kernel⟩, st_L_killWord⟩
theorem cd_X7_killWord : Cond.code yX7_killWord cX7_killWord 1 (some .int) ∈ wsG := wg (tw4 144 rfl) rfl
theorem im_X7_killWord : Cond.instanceMethod yX7_killWord ∈ wsG := wg (tw4 142 rfl) rfl
theorem se_X7_killWord : Cond.selects RX7 yX7_killWord yX7_killWord ∈ wsG := wg (tw4 143 rfl) rfl
theorem wy_X7_killWord : wyV yX7_killWord 0 := ⟨⟨in_X7, ⟨by decide, by decide⟩, by decide +kernel⟩, im_X7_killWord, se_X7_killWord⟩
theorem cd_X5_killWordOn : Cond.code yX5_killWordOn cX5_killWordOn 1 (some .int) ∈ wsG := wg (tw4 148 rfl) rfl
theorem im_X5_killWordOn : Cond.instanceMethod yX5_killWordOn ∈ wsG := wg (tw4 146 rfl) rfl
theorem se_X5_killWordOn : Cond.selects RX5 yX5_killWordOn yX5_killWordOn ∈ wsG := wg (tw4 147 rfl) rfl
theorem wy_X5_killWordOn : wyV yX5_killWordOn 0 := ⟨⟨in_X5, ⟨by decide, by decide⟩, by decide +kernel⟩, im_X5_killWordOn, se_X5_killWordOn⟩
theorem cd_X5_kill : Cond.code yX5_kill cX5_kill 4 (some .int) ∈ wsG := wg (tw4 152 rfl) rfl
theorem im_X5_kill : Cond.instanceMethod yX5_kill ∈ wsG := wg (tw4 151 rfl) rfl
theorem wy_X5_kill : wyV yX5_kill 3 := ⟨⟨in_X5, ⟨by decide, by decide⟩, by decide +kernel⟩, im_X5_kill, se_X5_kill⟩
theorem cd_X3_grow : Cond.code yX3_grow cX3_grow 6 none ∈ wsG := wg (tw4 156 rfl) rfl
theorem im_X3_grow : Cond.instanceMethod yX3_grow ∈ wsG := wg (tw4 154 rfl) rfl
theorem se_X3_grow : Cond.selects RX3 yX3_grow yX3_grow ∈ wsG := wg (tw4 155 rfl) rfl
theorem wy_X3_grow : wyV yX3_grow 4 := ⟨⟨in_X3, ⟨by decide, by decide⟩, by decide +kernel⟩, im_X3_grow, se_X3_grow⟩
theorem cd_X6_insertPart : Cond.code yX6_insertPart cX6_insertPart 6 none ∈ wsG := wg (tw4 160 rfl) rfl
theorem im_X6_insertPart : Cond.instanceMethod yX6_insertPart ∈ wsG := wg (tw4 158 rfl) rfl
theorem se_X6_insertPart : Cond.selects RX6 yX6_insertPart yX6_insertPart ∈ wsG := wg (tw4 159 rfl) rfl
theorem wy_X6_insertPart : wyV yX6_insertPart 4 := ⟨⟨in_X6, ⟨by decide, by decide⟩, by decide +kernel⟩, im_X6_insertPart, se_X6_insertPart⟩
theorem cd_X3_add : Cond.code yX3_add cX3_add 8 (some .int) ∈ wsG := wg (tw4 164 rfl) rfl
theorem im_X3_add : Cond.instanceMethod yX3_add ∈ wsG := wg (tw4 162 rfl) rfl
theorem se_X3_add : Cond.selects RX3 yX3_add yX3_add ∈ wsG := wg (tw4 163 rfl) rfl
theorem wy_X3_add : wyV yX3_add 3 := ⟨⟨in_X3, ⟨by decide, by decide⟩, by decide +kernel⟩, im_X3_add, se_X3_add⟩
theorem st_L_killBack : Cond.static yL_killBack ∈ wsG := wg (tw4 169 rfl) rfl
theorem wy_L_killBack : wyS yL_killBack 2 := ⟨⟨in_L, ⟨by decide, by decide⟩, by decide +kernel⟩, st_L_killBack⟩
theorem cd_X7_killBack : Cond.code yX7_killBack cX7_killBack 1 (some .int) ∈ wsG := wg (tw4 174 rfl) rfl
theorem im_X7_killBack : Cond.instanceMethod yX7_killBack ∈ wsG := wg (tw4 172 rfl) rfl
theorem se_X7_killBack : Cond.selects RX7 yX7_killBack yX7_killBack ∈ wsG := wg (tw4 173 rfl) rfl
theorem wy_X7_killBack : wyV yX7_killBack 0 := ⟨⟨in_X7, ⟨by decide, by decide⟩, by decide +kernel⟩, im_X7_killBack, se_X7_killBack⟩
theorem cd_X5_killWordBack : Cond.code yX5_killWordBack cX5_killWordBack 1 (some .int) ∈ wsG := wg (tw4 178 rfl) rfl
theorem im_X5_killWordBack : Cond.instanceMethod yX5_killWordBack ∈ wsG := wg (tw4 176 rfl) rfl
theorem se_X5_killWordBack : Cond.selects RX5 yX5_killWordBack yX5_killWordBack ∈ wsG := wg (tw4 177 rfl) rfl
theorem wy_X5_killWordBack : wyV yX5_killWordBack 0 := ⟨⟨in_X5, ⟨by decide, by decide⟩, by decide +kernel⟩, im_X5_killWordBack, se_X5_killWordBack⟩
theorem st_L_killLine : Cond.static yL_killLine ∈ wsG := wg (tw4 180 rfl) rfl
theorem wy_L_killLine : wyS yL_killLine 2 := ⟨⟨in_L, ⟨by decide, by decide⟩, by decide +kernel⟩, st_L_killLine⟩
theorem cd_X7_killLine : Cond.code yX7_killLine cX7_killLine 1 (some .int) ∈ wsG := wg (tw4 185 rfl) rfl
theorem im_X7_killLine : Cond.instanceMethod yX7_killLine ∈ wsG := wg (tw4 183 rfl) rfl
theorem se_X7_killLine : Cond.selects RX7 yX7_killLine yX7_killLine ∈ wsG := wg (tw4 184 rfl) rfl
theorem wy_X7_killLine : wyV yX7_killLine 0 := ⟨⟨in_X7, ⟨by decide, by decide⟩, by decide +kernel⟩, im_X7_killLine, se_X7_killLine⟩
theorem cd_X5_killLineOn : Cond.code yX5_killLineOn cX5_killLineOn 3 (some .int) ∈ wsG := wg (tw4 189 rfl) rfl
theorem im_X5_killLineOn : Cond.instanceMethod yX5_killLineOn ∈ wsG := wg (tw4 187 rfl) rfl
theorem se_X5_killLineOn : Cond.selects RX5 yX5_killLineOn yX5_killLineOn ∈ wsG := wg (tw4 188 rfl) rfl
theorem wy_X5_killLineOn : wyV yX5_killLineOn 0 := ⟨⟨in_X5, ⟨by decide, by decide⟩, by decide +kernel⟩, im_X5_killLineOn, se_X5_killLineOn⟩
theorem st_L_killBetween : Cond.static yL_killBetween ∈ wsG := wg (tw4 192 rfl) rfl
theorem wy_L_killBetween : wyS yL_killBetween 2 := ⟨⟨in_L, ⟨by decide, by decide⟩, by decide +kernel⟩, st_L_killBetween⟩
theorem cd_X7_killBetween : Cond.code yX7_killBetween cX7_killBetween 1 (some .int) ∈ wsG := wg (tw4 197 rfl) rfl
theorem im_X7_killBetween : Cond.instanceMethod yX7_killBetween ∈ wsG := wg (tw4 195 rfl) rfl
theorem se_X7_killBetween : Cond.selects RX7 yX7_killBetween yX7_killBetween ∈ wsG := wg (tw4 196 rfl) rfl
theorem wy_X7_killBetween : wyV yX7_killBetween 0 := ⟨⟨in_X7, ⟨by decide, by decide⟩, by decide +kernel⟩, im_X7_killBetween, se_X7_killBetween⟩
theorem cd_X5_killToMark : Cond.code yX5_killToMark cX5_killToMark 3 (some .int) ∈ wsG := wg (tw4 201 rfl) rfl
theorem im_X5_killToMark : Cond.instanceMethod yX5_killToMark ∈ wsG := wg (tw4 199 rfl) rfl
theorem se_X5_killToMark : Cond.selects RX5 yX5_killToMark yX5_killToMark ∈ wsG := wg (tw4 200 rfl) rfl
theorem wy_X5_killToMark : wyV yX5_killToMark 0 := ⟨⟨in_X5, ⟨by decide, by decide⟩, by decide +kernel⟩, im_X5_killToMark, se_X5_killToMark⟩
theorem st_L_copyBetween : Cond.static yL_copyBetween ∈ wsG := wg (tw4 204 rfl) rfl
theorem wy_L_copyBetween : wyS yL_copyBetween 2 := ⟨⟨in_L, ⟨by decide, by decide⟩, by decide +kernel⟩, st_L_copyBetween⟩
theorem cd_X7_copyBetween : Cond.code yX7_copyBetween cX7_copyBetween 1 (some .int) ∈ wsG := wg (tw4 209 rfl) rfl
theorem im_X7_copyBetween : Cond.instanceMethod yX7_copyBetween ∈ wsG := wg (tw4 207 rfl) rfl
theorem se_X7_copyBetween : Cond.selects RX7 yX7_copyBetween yX7_copyBetween ∈ wsG := wg (tw4 208 rfl) rfl
theorem wy_X7_copyBetween : wyV yX7_copyBetween 0 := ⟨⟨in_X7, ⟨by decide, by decide⟩, by decide +kernel⟩, im_X7_copyBetween, se_X7_copyBetween⟩
theorem cd_X5_copyToMark : Cond.code yX5_copyToMark cX5_copyToMark 3 (some .int) ∈ wsG := wg (tw4 213 rfl) rfl
theorem im_X5_copyToMark : Cond.instanceMethod yX5_copyToMark ∈ wsG := wg (tw4 211 rfl) rfl
theorem se_X5_copyToMark : Cond.selects RX5 yX5_copyToMark yX5_copyToMark ∈ wsG := wg (tw4 212 rfl) rfl
theorem wy_X5_copyToMark : wyV yX5_copyToMark 0 := ⟨⟨in_X5, ⟨by decide, by decide⟩, by decide +kernel⟩, im_X5_copyToMark, se_X5_copyToMark⟩
theorem st_L_yank : Cond.static yL_yank ∈ wsG := wg (tw4 216 rfl) rfl
theorem wy_L_yank : wyS yL_yank 2 := ⟨⟨in_L, ⟨by decide, by decide⟩, by decide +kernel⟩, st_L_yank⟩
theorem cd_X7_yank : Cond.code yX7_yank cX7_yank 1 (some .int) ∈ wsG := wg (tw4 221 rfl) rfl
theorem im_X7_yank : Cond.instanceMethod yX7_yank ∈ wsG := wg (tw4 219 rfl) rfl
theorem se_X7_yank : Cond.selects RX7 yX7_yank yX7_yank ∈ wsG := wg (tw4 220 rfl) rfl
theorem wy_X7_yank : wyV yX7_yank 0 := ⟨⟨in_X7, ⟨by decide, by decide⟩, by decide +kernel⟩, im_X7_yank, se_X7_yank⟩
theorem cd_X5_yankNext : Cond.code yX5_yankNext cX5_yankNext 2 (some .int) ∈ wsG := wg (tw4 225 rfl) rfl
theorem im_X5_yankNext : Cond.instanceMethod yX5_yankNext ∈ wsG := wg (tw4 223 rfl) rfl
theorem se_X5_yankNext : Cond.selects RX5 yX5_yankNext yX5_yankNext ∈ wsG := wg (tw4 224 rfl) rfl
theorem wy_X5_yankNext : wyV yX5_yankNext 0 := ⟨⟨in_X5, ⟨by decide, by decide⟩, by decide +kernel⟩, im_X5_yankNext, se_X5_yankNext⟩
theorem cd_X5_writeHoard : Cond.code yX5_writeHoard cX5_writeHoard 2 (some .int) ∈ wsG := wg (tw4 230 rfl) rfl
theorem im_X5_writeHoard : Cond.instanceMethod yX5_writeHoard ∈ wsG := wg (tw4 229 rfl) rfl
theorem wy_X5_writeHoard : wyV yX5_writeHoard 1 := ⟨⟨in_X5, ⟨by decide, by decide⟩, by decide +kernel⟩, im_X5_writeHoard, se_X5_writeHoard⟩
theorem cd_X4_writeText : Cond.code yX4_writeText cX4_writeText 2 none ∈ wsG := wg (tw4 234 rfl) rfl
theorem im_X4_writeText : Cond.instanceMethod yX4_writeText ∈ wsG := wg (tw4 232 rfl) rfl
theorem se_X4_writeText : Cond.selects RX4 yX4_writeText yX4_writeText ∈ wsG := wg (tw4 233 rfl) rfl
theorem wy_X4_writeText : wyV yX4_writeText 1 := ⟨⟨in_X4, ⟨by decide, by decide⟩, by decide +kernel⟩, im_X4_writeText, se_X4_writeText⟩
theorem st_L_yankOther : Cond.static yL_yankOther ∈ wsG := wg (tw4 237 rfl) rfl
theorem wy_L_yankOther : wyS yL_yankOther 2 := ⟨⟨in_L, ⟨by decide, by decide⟩, by decide +kernel⟩, st_L_yankOther⟩
theorem cd_X7_yankOther : Cond.code yX7_yankOther cX7_yankOther 1 (some .int) ∈ wsG := wg (tw5 2 rfl) rfl
theorem im_X7_yankOther : Cond.instanceMethod yX7_yankOther ∈ wsG := wg (tw5 0 rfl) rfl
theorem se_X7_yankOther : Cond.selects RX7 yX7_yankOther yX7_yankOther ∈ wsG := wg (tw5 1 rfl) rfl
theorem wy_X7_yankOther : wyV yX7_yankOther 0 := ⟨⟨in_X7, ⟨by decide, by decide⟩, by decide +kernel⟩, im_X7_yankOther, se_X7_yankOther⟩
theorem cd_X5_yankOlder : Cond.code yX5_yankOlder cX5_yankOlder 3 (some .int) ∈ wsG := wg (tw5 6 rfl) rfl
theorem im_X5_yankOlder : Cond.instanceMethod yX5_yankOlder ∈ wsG := wg (tw5 4 rfl) rfl
theorem se_X5_yankOlder : Cond.selects RX5 yX5_yankOlder yX5_yankOlder ∈ wsG := wg (tw5 5 rfl) rfl
theorem wy_X5_yankOlder : wyV yX5_yankOlder 0 := ⟨⟨in_X5, ⟨by decide, by decide⟩, by decide +kernel⟩, im_X5_yankOlder, se_X5_yankOlder⟩
theorem cd_X3_nextIfTurned : Cond.code yX3_nextIfTurned cX3_nextIfTurned 2 (some .int) ∈ wsG := wg (tw5 10 rfl) rfl
theorem im_X3_nextIfTurned : Cond.instanceMethod yX3_nextIfTurned ∈ wsG := wg (tw5 8 rfl) rfl
theorem se_X3_nextIfTurned : Cond.selects RX3 yX3_nextIfTurned yX3_nextIfTurned ∈ wsG := wg (tw5 9 rfl) rfl
theorem wy_X3_nextIfTurned : wyV yX3_nextIfTurned 1 := ⟨⟨in_X3, ⟨by decide, by decide⟩, by decide +kernel⟩, im_X3_nextIfTurned, se_X3_nextIfTurned⟩
theorem st_L_turn : Cond.static yL_turn ∈ wsG := wg (tw5 13 rfl) rfl
theorem wy_L_turn : wyS yL_turn 3 := ⟨⟨in_L, ⟨by decide, by decide⟩, by decide +kernel⟩, st_L_turn⟩
theorem cd_X7_turn : Cond.code yX7_turn cX7_turn 2 (some .int) ∈ wsG := wg (tw5 18 rfl) rfl
theorem im_X7_turn : Cond.instanceMethod yX7_turn ∈ wsG := wg (tw5 16 rfl) rfl
theorem se_X7_turn : Cond.selects RX7 yX7_turn yX7_turn ∈ wsG := wg (tw5 17 rfl) rfl
theorem wy_X7_turn : wyV yX7_turn 1 := ⟨⟨in_X7, ⟨by decide, by decide⟩, by decide +kernel⟩, im_X7_turn, se_X7_turn⟩
theorem cd_X5_turnRing : Cond.code yX5_turnRing cX5_turnRing 3 (some .int) ∈ wsG := wg (tw5 23 rfl) rfl
theorem im_X5_turnRing : Cond.instanceMethod yX5_turnRing ∈ wsG := wg (tw5 21 rfl) rfl
theorem se_X5_turnRing : Cond.selects RX5 yX5_turnRing yX5_turnRing ∈ wsG := wg (tw5 22 rfl) rfl
theorem wy_X5_turnRing : wyV yX5_turnRing 1 := ⟨⟨in_X5, ⟨by decide, by decide⟩, by decide +kernel⟩, im_X5_turnRing, se_X5_turnRing⟩
theorem st_L_changeCaves : Cond.static yL_changeCaves ∈ wsG := wg (tw5 25 rfl) rfl
theorem wy_L_changeCaves : wyS yL_changeCaves 3 := ⟨⟨in_L, ⟨by decide, by decide⟩, by decide +kernel⟩, st_L_changeCaves⟩
theorem cd_X7_changeCaves : Cond.code yX7_changeCaves cX7_changeCaves 2 (some .int) ∈ wsG := wg (tw5 30 rfl) rfl
theorem im_X7_changeCaves : Cond.instanceMethod yX7_changeCaves ∈ wsG := wg (tw5 28 rfl) rfl
theorem se_X7_changeCaves : Cond.selects RX7 yX7_changeCaves yX7_changeCaves ∈ wsG := wg (tw5 29 rfl) rfl
theorem wy_X7_changeCaves : wyV yX7_changeCaves 1 := ⟨⟨in_X7, ⟨by decide, by decide⟩, by decide +kernel⟩, im_X7_changeCaves, se_X7_changeCaves⟩
theorem cd_X5_setCaves : Cond.code yX5_setCaves cX5_setCaves 3 (some .int) ∈ wsG := wg (tw5 35 rfl) rfl
theorem im_X5_setCaves : Cond.instanceMethod yX5_setCaves ∈ wsG := wg (tw5 33 rfl) rfl
theorem se_X5_setCaves : Cond.selects RX5 yX5_setCaves yX5_setCaves ∈ wsG := wg (tw5 34 rfl) rfl
theorem wy_X5_setCaves : wyV yX5_setCaves 1 := ⟨⟨in_X5, ⟨by decide, by decide⟩, by decide +kernel⟩, im_X5_setCaves, se_X5_setCaves⟩
theorem cd_X3_changeTo : Cond.code yX3_changeTo cX3_changeTo 3 (some .int) ∈ wsG := wg (tw5 39 rfl) rfl
theorem im_X3_changeTo : Cond.instanceMethod yX3_changeTo ∈ wsG := wg (tw5 37 rfl) rfl
theorem se_X3_changeTo : Cond.selects RX3 yX3_changeTo yX3_changeTo ∈ wsG := wg (tw5 38 rfl) rfl
theorem wy_X3_changeTo : wyV yX3_changeTo 1 := ⟨⟨in_X3, ⟨by decide, by decide⟩, by decide +kernel⟩, im_X3_changeTo, se_X3_changeTo⟩
theorem st_L_append : Cond.static yL_append ∈ wsG := wg (tw5 41 rfl) rfl
theorem wy_L_append : wyS yL_append 3 := ⟨⟨in_L, ⟨by decide, by decide⟩, by decide +kernel⟩, st_L_append⟩
theorem cd_X7_append : Cond.code yX7_append cX7_append 2 (some .int) ∈ wsG := wg (tw5 46 rfl) rfl
theorem im_X7_append : Cond.instanceMethod yX7_append ∈ wsG := wg (tw5 44 rfl) rfl
theorem se_X7_append : Cond.selects RX7 yX7_append yX7_append ∈ wsG := wg (tw5 45 rfl) rfl
theorem wy_X7_append : wyV yX7_append 1 := ⟨⟨in_X7, ⟨by decide, by decide⟩, by decide +kernel⟩, im_X7_append, se_X7_append⟩
theorem st_L_perform : Cond.static yL_perform ∈ wsG := wg (tw5 51 rfl) rfl
theorem wy_L_perform : wyS yL_perform 2 := ⟨⟨in_L, ⟨by decide, by decide⟩, by decide +kernel⟩, st_L_perform⟩
theorem cd_X7_perform : Cond.code yX7_perform cX7_perform 2 (some .int) ∈ wsG := wg (tw5 56 rfl) rfl
theorem im_X7_perform : Cond.instanceMethod yX7_perform ∈ wsG := wg (tw5 54 rfl) rfl
theorem se_X7_perform : Cond.selects RX7 yX7_perform yX7_perform ∈ wsG := wg (tw5 55 rfl) rfl
theorem wy_X7_perform : wyV yX7_perform 0 := ⟨⟨in_X7, ⟨by decide, by decide⟩, by decide +kernel⟩, im_X7_perform, se_X7_perform⟩
theorem cd_X7_tellsDeeds : Cond.code yX7_tellsDeeds cX7_tellsDeeds 3 (some .boolean) ∈ wsG := wg (tw5 60 rfl) rfl
theorem im_X7_tellsDeeds : Cond.instanceMethod yX7_tellsDeeds ∈ wsG := wg (tw5 59 rfl) rfl
theorem wy_X7_tellsDeeds : wyV yX7_tellsDeeds 0 := ⟨⟨in_X7, ⟨by decide, by decide⟩, by decide +kernel⟩, im_X7_tellsDeeds, se_X7_tellsDeeds⟩
theorem cd_X7_deedsDone : Cond.code yX7_deedsDone cX7_deedsDone 6 (some .int) ∈ wsG := wg (tw5 65 rfl) rfl
theorem im_X7_deedsDone : Cond.instanceMethod yX7_deedsDone ∈ wsG := wg (tw5 64 rfl) rfl
theorem wy_X7_deedsDone : wyV yX7_deedsDone 0 := ⟨⟨in_X7, ⟨by decide, by decide⟩, by decide +kernel⟩, im_X7_deedsDone, se_X7_deedsDone⟩
theorem cd_X5_doDeed : Cond.code yX5_doDeed cX5_doDeed 3 (some .int) ∈ wsG := wg (tw5 69 rfl) rfl
theorem im_X5_doDeed : Cond.instanceMethod yX5_doDeed ∈ wsG := wg (tw5 67 rfl) rfl
theorem se_X5_doDeed : Cond.selects RX5 yX5_doDeed yX5_doDeed ∈ wsG := wg (tw5 68 rfl) rfl
theorem wy_X5_doDeed : wyV yX5_doDeed 2 := ⟨⟨in_X5, ⟨by decide, by decide⟩, by decide +kernel⟩, im_X5_doDeed, se_X5_doDeed⟩
theorem st_L_keep : Cond.static yL_keep ∈ wsG := wg (tw5 91 rfl) rfl
theorem wy_L_keep : wyS yL_keep 2 := ⟨⟨in_L, ⟨by decide, by decide⟩, by decide +kernel⟩, st_L_keep⟩
theorem cd_X7_keep : Cond.code yX7_keep cX7_keep 2 none ∈ wsG := wg (tw5 96 rfl) rfl
theorem im_X7_keep : Cond.instanceMethod yX7_keep ∈ wsG := wg (tw5 94 rfl) rfl
theorem se_X7_keep : Cond.selects RX7 yX7_keep yX7_keep ∈ wsG := wg (tw5 95 rfl) rfl
theorem wy_X7_keep : wyV yX7_keep 1 := ⟨⟨in_X7, ⟨by decide, by decide⟩, by decide +kernel⟩, im_X7_keep, se_X7_keep⟩
theorem st_L_goBack : Cond.static yL_goBack ∈ wsG := wg (tw5 99 rfl) rfl
theorem wy_L_goBack : wyS yL_goBack 2 := ⟨⟨in_L, ⟨by decide, by decide⟩, by decide +kernel⟩, st_L_goBack⟩
theorem cd_X7_goBack : Cond.code yX7_goBack cX7_goBack 2 none ∈ wsG := wg (tw5 104 rfl) rfl
theorem im_X7_goBack : Cond.instanceMethod yX7_goBack ∈ wsG := wg (tw5 102 rfl) rfl
theorem se_X7_goBack : Cond.selects RX7 yX7_goBack yX7_goBack ∈ wsG := wg (tw5 103 rfl) rfl
theorem wy_X7_goBack : wyV yX7_goBack 1 := ⟨⟨in_X7, ⟨by decide, by decide⟩, by decide +kernel⟩, im_X7_goBack, se_X7_goBack⟩
theorem cd_X5_comeBackTo : Cond.code yX5_comeBackTo cX5_comeBackTo 2 none ∈ wsG := wg (tw5 109 rfl) rfl
theorem im_X5_comeBackTo : Cond.instanceMethod yX5_comeBackTo ∈ wsG := wg (tw5 107 rfl) rfl
theorem se_X5_comeBackTo : Cond.selects RX5 yX5_comeBackTo yX5_comeBackTo ∈ wsG := wg (tw5 108 rfl) rfl
theorem wy_X5_comeBackTo : wyV yX5_comeBackTo 1 := ⟨⟨in_X5, ⟨by decide, by decide⟩, by decide +kernel⟩, im_X5_comeBackTo, se_X5_comeBackTo⟩
theorem st_L_undo : Cond.static yL_undo ∈ wsG := wg (tw5 112 rfl) rfl
theorem wy_L_undo : wyS yL_undo 1 := ⟨⟨in_L, ⟨by decide, by decide⟩, by decide +kernel⟩, st_L_undo⟩
theorem cd_X7_undo : Cond.code yX7_undo cX7_undo 1 none ∈ wsG := wg (tw5 117 rfl) rfl
theorem im_X7_undo : Cond.instanceMethod yX7_undo ∈ wsG := wg (tw5 115 rfl) rfl
theorem se_X7_undo : Cond.selects RX7 yX7_undo yX7_undo ∈ wsG := wg (tw5 116 rfl) rfl
theorem wy_X7_undo : wyV yX7_undo 0 := ⟨⟨in_X7, ⟨by decide, by decide⟩, by decide +kernel⟩, im_X7_undo, se_X7_undo⟩
theorem cd_X2_latest : Cond.code yX2_latest cX2_latest 1 (some (.object "DragonRing$State")) ∈ wsG := wg (tw5 122 rfl) rfl
theorem im_X2_latest : Cond.instanceMethod yX2_latest ∈ wsG := wg (tw5 120 rfl) rfl
theorem se_X2_latest : Cond.selects RX2 yX2_latest yX2_latest ∈ wsG := wg (tw5 121 rfl) rfl
theorem wy_X2_latest : wyV yX2_latest 0 := ⟨⟨in_X2, ⟨by decide, by decide⟩, by decide +kernel⟩, im_X2_latest, se_X2_latest⟩
theorem cd_X2_drop : Cond.code yX2_drop cX2_drop 1 none ∈ wsG := wg (tw5 126 rfl) rfl
theorem im_X2_drop : Cond.instanceMethod yX2_drop ∈ wsG := wg (tw5 124 rfl) rfl
theorem se_X2_drop : Cond.selects RX2 yX2_drop yX2_drop ∈ wsG := wg (tw5 125 rfl) rfl
theorem wy_X2_drop : wyV yX2_drop 0 := ⟨⟨in_X2, ⟨by decide, by decide⟩, by decide +kernel⟩, im_X2_drop, se_X2_drop⟩
theorem st_L_codeAt : Cond.static yL_codeAt ∈ wsG := wg (tw5 128 rfl) rfl
theorem wy_L_codeAt : wyS yL_codeAt 3 := ⟨⟨in_L, ⟨by decide, by decide⟩, by decide +kernel⟩, st_L_codeAt⟩
theorem cd_X7_codeAt : Cond.code yX7_codeAt cX7_codeAt 2 (some .int) ∈ wsG := wg (tw5 134 rfl) rfl
theorem im_X7_codeAt : Cond.instanceMethod yX7_codeAt ∈ wsG := wg (tw5 132 rfl) rfl
theorem se_X7_codeAt : Cond.selects RX7 yX7_codeAt yX7_codeAt ∈ wsG := wg (tw5 133 rfl) rfl
theorem wy_X7_codeAt : wyV yX7_codeAt 1 := ⟨⟨in_X7, ⟨by decide, by decide⟩, by decide +kernel⟩, im_X7_codeAt, se_X7_codeAt⟩
theorem cd_X7_existing : Cond.code yX7_existing cX7_existing 1 (some .int) ∈ wsG := wg (tw5 137 rfl) rfl
theorem st_X7_existing : Cond.static yX7_existing ∈ wsG := wg (tw5 136 rfl) rfl
theorem wy_X7_existing : wyS yX7_existing 1 := ⟨⟨in_X7, ⟨by decide, by decide⟩, by decide +kernel⟩, st_X7_existing⟩
theorem st_L_markAt : Cond.static yL_markAt ∈ wsG := wg (tw5 155 rfl) rfl
theorem wy_L_markAt : wyS yL_markAt 2 := ⟨⟨in_L, ⟨by decide, by decide⟩, by decide +kernel⟩, st_L_markAt⟩
theorem cd_X7_markAt : Cond.code yX7_markAt cX7_markAt 1 (some .int) ∈ wsG := wg (tw5 160 rfl) rfl
theorem im_X7_markAt : Cond.instanceMethod yX7_markAt ∈ wsG := wg (tw5 158 rfl) rfl
theorem se_X7_markAt : Cond.selects RX7 yX7_markAt yX7_markAt ∈ wsG := wg (tw5 159 rfl) rfl
theorem wy_X7_markAt : wyV yX7_markAt 0 := ⟨⟨in_X7, ⟨by decide, by decide⟩, by decide +kernel⟩, im_X7_markAt, se_X7_markAt⟩
theorem st_L_between : Cond.static yL_between ∈ wsG := wg (tw5 162 rfl) rfl
theorem wy_L_between : wyS yL_between 2 := ⟨⟨in_L, ⟨by decide, by decide⟩, by decide +kernel⟩, st_L_between⟩
theorem cd_X7_between : Cond.code yX7_between cX7_between 1 (some .int) ∈ wsG := wg (tw5 167 rfl) rfl
theorem im_X7_between : Cond.instanceMethod yX7_between ∈ wsG := wg (tw5 165 rfl) rfl
theorem se_X7_between : Cond.selects RX7 yX7_between yX7_between ∈ wsG := wg (tw5 166 rfl) rfl
theorem wy_X7_between : wyV yX7_between 0 := ⟨⟨in_X7, ⟨by decide, by decide⟩, by decide +kernel⟩, im_X7_between, se_X7_between⟩
theorem st_L_lengthOf : Cond.static yL_lengthOf ∈ wsG := wg (tw5 169 rfl) rfl
theorem wy_L_lengthOf : wyS yL_lengthOf 3 := ⟨⟨in_L, ⟨by decide, by decide⟩, by decide +kernel⟩, st_L_lengthOf⟩
theorem cd_X7_lengthOf : Cond.code yX7_lengthOf cX7_lengthOf 2 (some .int) ∈ wsG := wg (tw5 174 rfl) rfl
theorem im_X7_lengthOf : Cond.instanceMethod yX7_lengthOf ∈ wsG := wg (tw5 172 rfl) rfl
theorem se_X7_lengthOf : Cond.selects RX7 yX7_lengthOf yX7_lengthOf ∈ wsG := wg (tw5 173 rfl) rfl
theorem wy_X7_lengthOf : wyV yX7_lengthOf 1 := ⟨⟨in_X7, ⟨by decide, by decide⟩, by decide +kernel⟩, im_X7_lengthOf, se_X7_lengthOf⟩
theorem cd_X3_countAt : Cond.code yX3_countAt cX3_countAt 2 (some .int) ∈ wsG := wg (tw5 178 rfl) rfl
theorem im_X3_countAt : Cond.instanceMethod yX3_countAt ∈ wsG := wg (tw5 176 rfl) rfl
theorem se_X3_countAt : Cond.selects RX3 yX3_countAt yX3_countAt ∈ wsG := wg (tw5 177 rfl) rfl
theorem wy_X3_countAt : wyV yX3_countAt 1 := ⟨⟨in_X3, ⟨by decide, by decide⟩, by decide +kernel⟩, im_X3_countAt, se_X3_countAt⟩
theorem st_L_codeIn : Cond.static yL_codeIn ∈ wsG := wg (tw5 180 rfl) rfl
theorem wy_L_codeIn : wyS yL_codeIn 4 := ⟨⟨in_L, ⟨by decide, by decide⟩, by decide +kernel⟩, st_L_codeIn⟩
theorem cd_X7_codeIn : Cond.code yX7_codeIn cX7_codeIn 3 (some .int) ∈ wsG := wg (tw5 185 rfl) rfl
theorem im_X7_codeIn : Cond.instanceMethod yX7_codeIn ∈ wsG := wg (tw5 183 rfl) rfl
theorem se_X7_codeIn : Cond.selects RX7 yX7_codeIn yX7_codeIn ∈ wsG := wg (tw5 184 rfl) rfl
theorem wy_X7_codeIn : wyV yX7_codeIn 2 := ⟨⟨in_X7, ⟨by decide, by decide⟩, by decide +kernel⟩, im_X7_codeIn, se_X7_codeIn⟩
theorem st_L_nextHoard : Cond.static yL_nextHoard ∈ wsG := wg (tw5 187 rfl) rfl
theorem wy_L_nextHoard : wyS yL_nextHoard 2 := ⟨⟨in_L, ⟨by decide, by decide⟩, by decide +kernel⟩, st_L_nextHoard⟩
theorem cd_X7_nextHoard : Cond.code yX7_nextHoard cX7_nextHoard 1 (some .int) ∈ wsG := wg (tw5 192 rfl) rfl
theorem im_X7_nextHoard : Cond.instanceMethod yX7_nextHoard ∈ wsG := wg (tw5 190 rfl) rfl
theorem se_X7_nextHoard : Cond.selects RX7 yX7_nextHoard yX7_nextHoard ∈ wsG := wg (tw5 191 rfl) rfl
theorem wy_X7_nextHoard : wyV yX7_nextHoard 0 := ⟨⟨in_X7, ⟨by decide, by decide⟩, by decide +kernel⟩, im_X7_nextHoard, se_X7_nextHoard⟩
theorem st_L_lengthIfYanked : Cond.static yL_lengthIfYanked ∈ wsG := wg (tw5 194 rfl) rfl
theorem wy_L_lengthIfYanked : wyS yL_lengthIfYanked 3 := ⟨⟨in_L, ⟨by decide, by decide⟩, by decide +kernel⟩, st_L_lengthIfYanked⟩
theorem cd_X7_lengthIfYanked : Cond.code yX7_lengthIfYanked cX7_lengthIfYanked 2 (some .int) ∈ wsG := wg (tw5 199 rfl) rfl
theorem im_X7_lengthIfYanked : Cond.instanceMethod yX7_lengthIfYanked ∈ wsG := wg (tw5 197 rfl) rfl
theorem se_X7_lengthIfYanked : Cond.selects RX7 yX7_lengthIfYanked yX7_lengthIfYanked ∈ wsG := wg (tw5 198 rfl) rfl
theorem wy_X7_lengthIfYanked : wyV yX7_lengthIfYanked 1 := ⟨⟨in_X7, ⟨by decide, by decide⟩, by decide +kernel⟩, im_X7_lengthIfYanked, se_X7_lengthIfYanked⟩
theorem st_L_heaviest : Cond.static yL_heaviest ∈ wsG := wg (tw5 201 rfl) rfl
theorem wy_L_heaviest : wyS yL_heaviest 2 := ⟨⟨in_L, ⟨by decide, by decide⟩, by decide +kernel⟩, st_L_heaviest⟩
theorem cd_X7_heaviest : Cond.code yX7_heaviest cX7_heaviest 1 (some .int) ∈ wsG := wg (tw5 206 rfl) rfl
theorem im_X7_heaviest : Cond.instanceMethod yX7_heaviest ∈ wsG := wg (tw5 204 rfl) rfl
theorem se_X7_heaviest : Cond.selects RX7 yX7_heaviest yX7_heaviest ∈ wsG := wg (tw5 205 rfl) rfl
theorem wy_X7_heaviest : wyV yX7_heaviest 0 := ⟨⟨in_X7, ⟨by decide, by decide⟩, by decide +kernel⟩, im_X7_heaviest, se_X7_heaviest⟩
theorem cd_X8_init : Cond.code yX8_init cX8_init 1 none ∈ wsG := wg (tw5 211 rfl) rfl
theorem im_X8_init : Cond.instanceMethod yX8_init ∈ wsG := wg (tw5 210 rfl) rfl
theorem wy_X8_init : wyI yX8_init 0 := ⟨⟨in_X8, ⟨by decide, by decide⟩, by decide +kernel⟩, rfl, im_X8_init⟩
theorem cd_X8_thrown : Cond.code yX8_thrown cX8_thrown 1 (some .int) ∈ wsG := wg (tw6 8 rfl) rfl
theorem im_X8_thrown : Cond.instanceMethod yX8_thrown ∈ wsG := wg (tw6 6 rfl) rfl
theorem se_X8_thrown : Cond.selects RX8 yX8_thrown yX8_thrown ∈ wsG := wg (tw6 7 rfl) rfl
theorem wy_X8_thrown : wyV yX8_thrown 0 := ⟨⟨in_X8, ⟨by decide, by decide⟩, by decide +kernel⟩, im_X8_thrown, se_X8_thrown⟩
theorem cd_X8_write : Cond.code yX8_write cX8_write 3 (some .int) ∈ wsG := wg (tw6 12 rfl) rfl
theorem im_X8_write : Cond.instanceMethod yX8_write ∈ wsG := wg (tw6 10 rfl) rfl
theorem se_X8_write : Cond.selects RX8 yX8_write yX8_write ∈ wsG := wg (tw6 11 rfl) rfl
theorem wy_X8_write : wyV yX8_write 1 := ⟨⟨in_X8, ⟨by decide, by decide⟩, by decide +kernel⟩, im_X8_write, se_X8_write⟩
theorem cd_X8_in : Cond.code yX8_in cX8_in 3 (some .boolean) ∈ wsG := wg (tw6 15 rfl) rfl
theorem st_X8_in : Cond.static yX8_in ∈ wsG := wg (tw6 14 rfl) rfl
theorem wy_X8_in : wyS yX8_in 3 := ⟨⟨in_X8, ⟨by decide, by decide⟩, by decide +kernel⟩, st_X8_in⟩
theorem cd_X8_goes : Cond.code yX8_goes cX8_goes 4 (some .boolean) ∈ wsG := wg (tw6 19 rfl) rfl
theorem im_X8_goes : Cond.instanceMethod yX8_goes ∈ wsG := wg (tw6 18 rfl) rfl
theorem wy_X8_goes : wyV yX8_goes 3 := ⟨⟨in_X8, ⟨by decide, by decide⟩, by decide +kernel⟩, im_X8_goes, se_X8_goes⟩
theorem cd_X8_saves : Cond.code yX8_saves cX8_saves 2 none ∈ wsG := wg (tw6 23 rfl) rfl
theorem im_X8_saves : Cond.instanceMethod yX8_saves ∈ wsG := wg (tw6 22 rfl) rfl
theorem wy_X8_saves : wyV yX8_saves 0 := ⟨⟨in_X8, ⟨by decide, by decide⟩, by decide +kernel⟩, im_X8_saves, se_X8_saves⟩
theorem cd_X8_copies : Cond.code yX8_copies cX8_copies 4 none ∈ wsG := wg (tw6 27 rfl) rfl
theorem im_X8_copies : Cond.instanceMethod yX8_copies ∈ wsG := wg (tw6 26 rfl) rfl
theorem wy_X8_copies : wyV yX8_copies 2 := ⟨⟨in_X8, ⟨by decide, by decide⟩, by decide +kernel⟩, im_X8_copies, se_X8_copies⟩
theorem cd_X8_writes : Cond.code yX8_writes cX8_writes 2 (some .int) ∈ wsG := wg (tw6 31 rfl) rfl
theorem im_X8_writes : Cond.instanceMethod yX8_writes ∈ wsG := wg (tw6 30 rfl) rfl
theorem wy_X8_writes : wyV yX8_writes 1 := ⟨⟨in_X8, ⟨by decide, by decide⟩, by decide +kernel⟩, im_X8_writes, se_X8_writes⟩
theorem cd_X8_parts : Cond.code yX8_parts cX8_parts 3 none ∈ wsG := wg (tw6 35 rfl) rfl
theorem im_X8_parts : Cond.instanceMethod yX8_parts ∈ wsG := wg (tw6 34 rfl) rfl
theorem wy_X8_parts : wyV yX8_parts 1 := ⟨⟨in_X8, ⟨by decide, by decide⟩, by decide +kernel⟩, im_X8_parts, se_X8_parts⟩
theorem cd_X8_code : Cond.code yX8_code cX8_code 2 (some .int) ∈ wsG := wg (tw6 39 rfl) rfl
theorem im_X8_code : Cond.instanceMethod yX8_code ∈ wsG := wg (tw6 38 rfl) rfl
theorem wy_X8_code : wyV yX8_code 1 := ⟨⟨in_X8, ⟨by decide, by decide⟩, by decide +kernel⟩, im_X8_code, se_X8_code⟩
theorem cd_X8_rub : Cond.code yX8_rub cX8_rub 1 (some .int) ∈ wsG := wg (tw6 43 rfl) rfl
theorem im_X8_rub : Cond.instanceMethod yX8_rub ∈ wsG := wg (tw6 41 rfl) rfl
theorem se_X8_rub : Cond.selects RX8 yX8_rub yX8_rub ∈ wsG := wg (tw6 42 rfl) rfl
theorem wy_X8_rub : wyV yX8_rub 0 := ⟨⟨in_X8, ⟨by decide, by decide⟩, by decide +kernel⟩, im_X8_rub, se_X8_rub⟩
theorem cd_X8_acts : Cond.code yX8_acts cX8_acts 3 (some .int) ∈ wsG := wg (tw6 47 rfl) rfl
theorem im_X8_acts : Cond.instanceMethod yX8_acts ∈ wsG := wg (tw6 46 rfl) rfl
theorem wy_X8_acts : wyV yX8_acts 1 := ⟨⟨in_X8, ⟨by decide, by decide⟩, by decide +kernel⟩, im_X8_acts, se_X8_acts⟩
theorem cd_X8_does : Cond.code yX8_does cX8_does 3 (some .int) ∈ wsG := wg (tw6 51 rfl) rfl
theorem im_X8_does : Cond.instanceMethod yX8_does ∈ wsG := wg (tw6 50 rfl) rfl
theorem wy_X8_does : wyV yX8_does 2 := ⟨⟨in_X8, ⟨by decide, by decide⟩, by decide +kernel⟩, im_X8_does, se_X8_does⟩
theorem cd_X8_goesTo : Cond.code yX8_goesTo cX8_goesTo 3 (some .int) ∈ wsG := wg (tw6 55 rfl) rfl
theorem im_X8_goesTo : Cond.instanceMethod yX8_goesTo ∈ wsG := wg (tw6 54 rfl) rfl
theorem wy_X8_goesTo : wyV yX8_goesTo 1 := ⟨⟨in_X8, ⟨by decide, by decide⟩, by decide +kernel⟩, im_X8_goesTo, se_X8_goesTo⟩
theorem cd_X8_behindWord : Cond.code yX8_behindWord cX8_behindWord 3 (some .int) ∈ wsG := wg (tw6 59 rfl) rfl
theorem im_X8_behindWord : Cond.instanceMethod yX8_behindWord ∈ wsG := wg (tw6 58 rfl) rfl
theorem wy_X8_behindWord : wyV yX8_behindWord 1 := ⟨⟨in_X8, ⟨by decide, by decide⟩, by decide +kernel⟩, im_X8_behindWord, se_X8_behindWord⟩
theorem cd_X8_isWord : Cond.code yX8_isWord cX8_isWord 2 (some .boolean) ∈ wsG := wg (tw6 63 rfl) rfl
theorem im_X8_isWord : Cond.instanceMethod yX8_isWord ∈ wsG := wg (tw6 62 rfl) rfl
theorem wy_X8_isWord : wyV yX8_isWord 1 := ⟨⟨in_X8, ⟨by decide, by decide⟩, by decide +kernel⟩, im_X8_isWord, se_X8_isWord⟩
theorem cd_X8_isLetter : Cond.code yX8_isLetter cX8_isLetter 1 (some .boolean) ∈ wsG := wg (tw6 66 rfl) rfl
theorem st_X8_isLetter : Cond.static yX8_isLetter ∈ wsG := wg (tw6 65 rfl) rfl
theorem wy_X8_isLetter : wyS yX8_isLetter 1 := ⟨⟨in_X8, ⟨by decide, by decide⟩, by decide +kernel⟩, st_X8_isLetter⟩
theorem cd_X8_aheadOfWord : Cond.code yX8_aheadOfWord cX8_aheadOfWord 3 (some .int) ∈ wsG := wg (tw6 70 rfl) rfl
theorem im_X8_aheadOfWord : Cond.instanceMethod yX8_aheadOfWord ∈ wsG := wg (tw6 69 rfl) rfl
theorem wy_X8_aheadOfWord : wyV yX8_aheadOfWord 1 := ⟨⟨in_X8, ⟨by decide, by decide⟩, by decide +kernel⟩, im_X8_aheadOfWord, se_X8_aheadOfWord⟩
theorem cd_X8_beginOf : Cond.code yX8_beginOf cX8_beginOf 3 (some .int) ∈ wsG := wg (tw6 74 rfl) rfl
theorem im_X8_beginOf : Cond.instanceMethod yX8_beginOf ∈ wsG := wg (tw6 73 rfl) rfl
theorem wy_X8_beginOf : wyV yX8_beginOf 1 := ⟨⟨in_X8, ⟨by decide, by decide⟩, by decide +kernel⟩, im_X8_beginOf, se_X8_beginOf⟩
theorem cd_X8_endOf : Cond.code yX8_endOf cX8_endOf 3 (some .int) ∈ wsG := wg (tw6 78 rfl) rfl
theorem im_X8_endOf : Cond.instanceMethod yX8_endOf ∈ wsG := wg (tw6 77 rfl) rfl
theorem wy_X8_endOf : wyV yX8_endOf 1 := ⟨⟨in_X8, ⟨by decide, by decide⟩, by decide +kernel⟩, im_X8_endOf, se_X8_endOf⟩
theorem cd_X8_marks : Cond.code yX8_marks cX8_marks 1 (some .int) ∈ wsG := wg (tw6 82 rfl) rfl
theorem im_X8_marks : Cond.instanceMethod yX8_marks ∈ wsG := wg (tw6 81 rfl) rfl
theorem wy_X8_marks : wyV yX8_marks 0 := ⟨⟨in_X8, ⟨by decide, by decide⟩, by decide +kernel⟩, im_X8_marks, se_X8_marks⟩
theorem cd_X8_exchanges : Cond.code yX8_exchanges cX8_exchanges 2 (some .int) ∈ wsG := wg (tw6 86 rfl) rfl
theorem im_X8_exchanges : Cond.instanceMethod yX8_exchanges ∈ wsG := wg (tw6 85 rfl) rfl
theorem wy_X8_exchanges : wyV yX8_exchanges 0 := ⟨⟨in_X8, ⟨by decide, by decide⟩, by decide +kernel⟩, im_X8_exchanges, se_X8_exchanges⟩
theorem cd_X8_killsWord : Cond.code yX8_killsWord cX8_killsWord 1 (some .int) ∈ wsG := wg (tw6 90 rfl) rfl
theorem im_X8_killsWord : Cond.instanceMethod yX8_killsWord ∈ wsG := wg (tw6 89 rfl) rfl
theorem wy_X8_killsWord : wyV yX8_killsWord 0 := ⟨⟨in_X8, ⟨by decide, by decide⟩, by decide +kernel⟩, im_X8_killsWord, se_X8_killsWord⟩
theorem cd_X8_kills : Cond.code yX8_kills cX8_kills 4 (some .int) ∈ wsG := wg (tw6 94 rfl) rfl
theorem im_X8_kills : Cond.instanceMethod yX8_kills ∈ wsG := wg (tw6 93 rfl) rfl
theorem wy_X8_kills : wyV yX8_kills 3 := ⟨⟨in_X8, ⟨by decide, by decide⟩, by decide +kernel⟩, im_X8_kills, se_X8_kills⟩
theorem cd_X8_grows : Cond.code yX8_grows cX8_grows 6 none ∈ wsG := wg (tw6 98 rfl) rfl
theorem im_X8_grows : Cond.instanceMethod yX8_grows ∈ wsG := wg (tw6 97 rfl) rfl
theorem wy_X8_grows : wyV yX8_grows 3 := ⟨⟨in_X8, ⟨by decide, by decide⟩, by decide +kernel⟩, im_X8_grows, se_X8_grows⟩
theorem cd_X8_collects : Cond.code yX8_collects cX8_collects 6 none ∈ wsG := wg (tw6 102 rfl) rfl
theorem im_X8_collects : Cond.instanceMethod yX8_collects ∈ wsG := wg (tw6 101 rfl) rfl
theorem wy_X8_collects : wyV yX8_collects 2 := ⟨⟨in_X8, ⟨by decide, by decide⟩, by decide +kernel⟩, im_X8_collects, se_X8_collects⟩
theorem cd_X8_takesOut : Cond.code yX8_takesOut cX8_takesOut 4 none ∈ wsG := wg (tw6 106 rfl) rfl
theorem im_X8_takesOut : Cond.instanceMethod yX8_takesOut ∈ wsG := wg (tw6 105 rfl) rfl
theorem wy_X8_takesOut : wyV yX8_takesOut 2 := ⟨⟨in_X8, ⟨by decide, by decide⟩, by decide +kernel⟩, im_X8_takesOut, se_X8_takesOut⟩
theorem cd_X8_moved : Cond.code yX8_moved cX8_moved 3 (some .int) ∈ wsG := wg (tw6 109 rfl) rfl
theorem st_X8_moved : Cond.static yX8_moved ∈ wsG := wg (tw6 108 rfl) rfl
theorem wy_X8_moved : wyS yX8_moved 3 := ⟨⟨in_X8, ⟨by decide, by decide⟩, by decide +kernel⟩, st_X8_moved⟩
theorem cd_X8_killsBack : Cond.code yX8_killsBack cX8_killsBack 1 (some .int) ∈ wsG := wg (tw6 113 rfl) rfl
theorem im_X8_killsBack : Cond.instanceMethod yX8_killsBack ∈ wsG := wg (tw6 112 rfl) rfl
theorem wy_X8_killsBack : wyV yX8_killsBack 0 := ⟨⟨in_X8, ⟨by decide, by decide⟩, by decide +kernel⟩, im_X8_killsBack, se_X8_killsBack⟩
theorem cd_X8_killsLine : Cond.code yX8_killsLine cX8_killsLine 2 (some .int) ∈ wsG := wg (tw6 117 rfl) rfl
theorem im_X8_killsLine : Cond.instanceMethod yX8_killsLine ∈ wsG := wg (tw6 116 rfl) rfl
theorem wy_X8_killsLine : wyV yX8_killsLine 0 := ⟨⟨in_X8, ⟨by decide, by decide⟩, by decide +kernel⟩, im_X8_killsLine, se_X8_killsLine⟩
theorem cd_X8_killsBetween : Cond.code yX8_killsBetween cX8_killsBetween 2 (some .int) ∈ wsG := wg (tw6 121 rfl) rfl
theorem im_X8_killsBetween : Cond.instanceMethod yX8_killsBetween ∈ wsG := wg (tw6 120 rfl) rfl
theorem wy_X8_killsBetween : wyV yX8_killsBetween 0 := ⟨⟨in_X8, ⟨by decide, by decide⟩, by decide +kernel⟩, im_X8_killsBetween, se_X8_killsBetween⟩
theorem cd_X8_doesMore : Cond.code yX8_doesMore cX8_doesMore 3 (some .int) ∈ wsG := wg (tw6 125 rfl) rfl
theorem im_X8_doesMore : Cond.instanceMethod yX8_doesMore ∈ wsG := wg (tw6 124 rfl) rfl
theorem wy_X8_doesMore : wyV yX8_doesMore 2 := ⟨⟨in_X8, ⟨by decide, by decide⟩, by decide +kernel⟩, im_X8_doesMore, se_X8_doesMore⟩
theorem cd_X8_copiesBetween : Cond.code yX8_copiesBetween cX8_copiesBetween 2 (some .int) ∈ wsG := wg (tw6 129 rfl) rfl
theorem im_X8_copiesBetween : Cond.instanceMethod yX8_copiesBetween ∈ wsG := wg (tw6 128 rfl) rfl
theorem wy_X8_copiesBetween : wyV yX8_copiesBetween 0 := ⟨⟨in_X8, ⟨by decide, by decide⟩, by decide +kernel⟩, im_X8_copiesBetween, se_X8_copiesBetween⟩
theorem cd_X8_apart : Cond.code yX8_apart cX8_apart 1 (some .int) ∈ wsG := wg (tw6 133 rfl) rfl
theorem im_X8_apart : Cond.instanceMethod yX8_apart ∈ wsG := wg (tw6 132 rfl) rfl
theorem wy_X8_apart : wyV yX8_apart 0 := ⟨⟨in_X8, ⟨by decide, by decide⟩, by decide +kernel⟩, im_X8_apart, se_X8_apart⟩
theorem cd_X8_yanks : Cond.code yX8_yanks cX8_yanks 3 (some .int) ∈ wsG := wg (tw6 137 rfl) rfl
theorem im_X8_yanks : Cond.instanceMethod yX8_yanks ∈ wsG := wg (tw6 136 rfl) rfl
theorem wy_X8_yanks : wyV yX8_yanks 0 := ⟨⟨in_X8, ⟨by decide, by decide⟩, by decide +kernel⟩, im_X8_yanks, se_X8_yanks⟩
theorem cd_X8_yanksOther : Cond.code yX8_yanksOther cX8_yanksOther 2 (some .int) ∈ wsG := wg (tw6 141 rfl) rfl
theorem im_X8_yanksOther : Cond.instanceMethod yX8_yanksOther ∈ wsG := wg (tw6 140 rfl) rfl
theorem wy_X8_yanksOther : wyV yX8_yanksOther 0 := ⟨⟨in_X8, ⟨by decide, by decide⟩, by decide +kernel⟩, im_X8_yanksOther, se_X8_yanksOther⟩
theorem cd_X8_turns : Cond.code yX8_turns cX8_turns 2 (some .int) ∈ wsG := wg (tw6 145 rfl) rfl
theorem im_X8_turns : Cond.instanceMethod yX8_turns ∈ wsG := wg (tw6 144 rfl) rfl
theorem wy_X8_turns : wyV yX8_turns 1 := ⟨⟨in_X8, ⟨by decide, by decide⟩, by decide +kernel⟩, im_X8_turns, se_X8_turns⟩
theorem cd_X8_rubs : Cond.code yX8_rubs cX8_rubs 2 (some .int) ∈ wsG := wg (tw6 149 rfl) rfl
theorem im_X8_rubs : Cond.instanceMethod yX8_rubs ∈ wsG := wg (tw6 148 rfl) rfl
theorem wy_X8_rubs : wyV yX8_rubs 0 := ⟨⟨in_X8, ⟨by decide, by decide⟩, by decide +kernel⟩, im_X8_rubs, se_X8_rubs⟩
theorem cd_X8_swaps : Cond.code yX8_swaps cX8_swaps 3 (some .int) ∈ wsG := wg (tw6 153 rfl) rfl
theorem im_X8_swaps : Cond.instanceMethod yX8_swaps ∈ wsG := wg (tw6 152 rfl) rfl
theorem wy_X8_swaps : wyV yX8_swaps 0 := ⟨⟨in_X8, ⟨by decide, by decide⟩, by decide +kernel⟩, im_X8_swaps, se_X8_swaps⟩
theorem cd_X8_greatens : Cond.code yX8_greatens cX8_greatens 4 (some .int) ∈ wsG := wg (tw6 157 rfl) rfl
theorem im_X8_greatens : Cond.instanceMethod yX8_greatens ∈ wsG := wg (tw6 156 rfl) rfl
theorem wy_X8_greatens : wyV yX8_greatens 0 := ⟨⟨in_X8, ⟨by decide, by decide⟩, by decide +kernel⟩, im_X8_greatens, se_X8_greatens⟩
theorem cd_X8_remembers : Cond.code yX8_remembers cX8_remembers 2 none ∈ wsG := wg (tw6 161 rfl) rfl
theorem im_X8_remembers : Cond.instanceMethod yX8_remembers ∈ wsG := wg (tw6 160 rfl) rfl
theorem wy_X8_remembers : wyV yX8_remembers 0 := ⟨⟨in_X8, ⟨by decide, by decide⟩, by decide +kernel⟩, im_X8_remembers, se_X8_remembers⟩
theorem cd_X8_kindOf : Cond.code yX8_kindOf cX8_kindOf 1 (some .int) ∈ wsG := wg (tw6 164 rfl) rfl
theorem st_X8_kindOf : Cond.static yX8_kindOf ∈ wsG := wg (tw6 163 rfl) rfl
theorem wy_X8_kindOf : wyS yX8_kindOf 1 := ⟨⟨in_X8, ⟨by decide, by decide⟩, by decide +kernel⟩, st_X8_kindOf⟩
theorem cd_X8_swap : Cond.code yX8_swap cX8_swap 1 (some .int) ∈ wsG := wg (tw6 168 rfl) rfl
theorem im_X8_swap : Cond.instanceMethod yX8_swap ∈ wsG := wg (tw6 166 rfl) rfl
theorem se_X8_swap : Cond.selects RX8 yX8_swap yX8_swap ∈ wsG := wg (tw6 167 rfl) rfl
theorem wy_X8_swap : wyV yX8_swap 0 := ⟨⟨in_X8, ⟨by decide, by decide⟩, by decide +kernel⟩, im_X8_swap, se_X8_swap⟩
theorem cd_X8_greaten : Cond.code yX8_greaten cX8_greaten 1 (some .int) ∈ wsG := wg (tw6 172 rfl) rfl
theorem im_X8_greaten : Cond.instanceMethod yX8_greaten ∈ wsG := wg (tw6 170 rfl) rfl
theorem se_X8_greaten : Cond.selects RX8 yX8_greaten yX8_greaten ∈ wsG := wg (tw6 171 rfl) rfl
theorem wy_X8_greaten : wyV yX8_greaten 0 := ⟨⟨in_X8, ⟨by decide, by decide⟩, by decide +kernel⟩, im_X8_greaten, se_X8_greaten⟩
theorem cd_X8_goTo : Cond.code yX8_goTo cX8_goTo 3 (some .int) ∈ wsG := wg (tw6 176 rfl) rfl
theorem im_X8_goTo : Cond.instanceMethod yX8_goTo ∈ wsG := wg (tw6 174 rfl) rfl
theorem se_X8_goTo : Cond.selects RX8 yX8_goTo yX8_goTo ∈ wsG := wg (tw6 175 rfl) rfl
theorem wy_X8_goTo : wyV yX8_goTo 1 := ⟨⟨in_X8, ⟨by decide, by decide⟩, by decide +kernel⟩, im_X8_goTo, se_X8_goTo⟩
theorem cd_X8_wordOn : Cond.code yX8_wordOn cX8_wordOn 1 (some .int) ∈ wsG := wg (tw6 180 rfl) rfl
theorem im_X8_wordOn : Cond.instanceMethod yX8_wordOn ∈ wsG := wg (tw6 178 rfl) rfl
theorem se_X8_wordOn : Cond.selects RX8 yX8_wordOn yX8_wordOn ∈ wsG := wg (tw6 179 rfl) rfl
theorem wy_X8_wordOn : wyV yX8_wordOn 0 := ⟨⟨in_X8, ⟨by decide, by decide⟩, by decide +kernel⟩, im_X8_wordOn, se_X8_wordOn⟩
theorem cd_X8_wordBack : Cond.code yX8_wordBack cX8_wordBack 1 (some .int) ∈ wsG := wg (tw6 184 rfl) rfl
theorem im_X8_wordBack : Cond.instanceMethod yX8_wordBack ∈ wsG := wg (tw6 182 rfl) rfl
theorem se_X8_wordBack : Cond.selects RX8 yX8_wordBack yX8_wordBack ∈ wsG := wg (tw6 183 rfl) rfl
theorem wy_X8_wordBack : wyV yX8_wordBack 0 := ⟨⟨in_X8, ⟨by decide, by decide⟩, by decide +kernel⟩, im_X8_wordBack, se_X8_wordBack⟩
theorem cd_X8_lineBegin : Cond.code yX8_lineBegin cX8_lineBegin 1 (some .int) ∈ wsG := wg (tw6 188 rfl) rfl
theorem im_X8_lineBegin : Cond.instanceMethod yX8_lineBegin ∈ wsG := wg (tw6 186 rfl) rfl
theorem se_X8_lineBegin : Cond.selects RX8 yX8_lineBegin yX8_lineBegin ∈ wsG := wg (tw6 187 rfl) rfl
theorem wy_X8_lineBegin : wyV yX8_lineBegin 0 := ⟨⟨in_X8, ⟨by decide, by decide⟩, by decide +kernel⟩, im_X8_lineBegin, se_X8_lineBegin⟩
theorem cd_X8_lineEnd : Cond.code yX8_lineEnd cX8_lineEnd 1 (some .int) ∈ wsG := wg (tw6 192 rfl) rfl
theorem im_X8_lineEnd : Cond.instanceMethod yX8_lineEnd ∈ wsG := wg (tw6 190 rfl) rfl
theorem se_X8_lineEnd : Cond.selects RX8 yX8_lineEnd yX8_lineEnd ∈ wsG := wg (tw6 191 rfl) rfl
theorem wy_X8_lineEnd : wyV yX8_lineEnd 0 := ⟨⟨in_X8, ⟨by decide, by decide⟩, by decide +kernel⟩, im_X8_lineEnd, se_X8_lineEnd⟩
theorem cd_X8_goLines : Cond.code yX8_goLines cX8_goLines 4 (some .int) ∈ wsG := wg (tw6 196 rfl) rfl
theorem im_X8_goLines : Cond.instanceMethod yX8_goLines ∈ wsG := wg (tw6 194 rfl) rfl
theorem se_X8_goLines : Cond.selects RX8 yX8_goLines yX8_goLines ∈ wsG := wg (tw6 195 rfl) rfl
theorem wy_X8_goLines : wyV yX8_goLines 1 := ⟨⟨in_X8, ⟨by decide, by decide⟩, by decide +kernel⟩, im_X8_goLines, se_X8_goLines⟩
theorem cd_X8_lineAt : Cond.code yX8_lineAt cX8_lineAt 6 (some .int) ∈ wsG := wg (tw6 200 rfl) rfl
theorem im_X8_lineAt : Cond.instanceMethod yX8_lineAt ∈ wsG := wg (tw6 199 rfl) rfl
theorem wy_X8_lineAt : wyV yX8_lineAt 1 := ⟨⟨in_X8, ⟨by decide, by decide⟩, by decide +kernel⟩, im_X8_lineAt, se_X8_lineAt⟩
theorem cd_X8_mark : Cond.code yX8_mark cX8_mark 1 (some .int) ∈ wsG := wg (tw6 204 rfl) rfl
theorem im_X8_mark : Cond.instanceMethod yX8_mark ∈ wsG := wg (tw6 202 rfl) rfl
theorem se_X8_mark : Cond.selects RX8 yX8_mark yX8_mark ∈ wsG := wg (tw6 203 rfl) rfl
theorem wy_X8_mark : wyV yX8_mark 0 := ⟨⟨in_X8, ⟨by decide, by decide⟩, by decide +kernel⟩, im_X8_mark, se_X8_mark⟩
theorem cd_X8_exchange : Cond.code yX8_exchange cX8_exchange 1 (some .int) ∈ wsG := wg (tw6 208 rfl) rfl
theorem im_X8_exchange : Cond.instanceMethod yX8_exchange ∈ wsG := wg (tw6 206 rfl) rfl
theorem se_X8_exchange : Cond.selects RX8 yX8_exchange yX8_exchange ∈ wsG := wg (tw6 207 rfl) rfl
theorem wy_X8_exchange : wyV yX8_exchange 0 := ⟨⟨in_X8, ⟨by decide, by decide⟩, by decide +kernel⟩, im_X8_exchange, se_X8_exchange⟩
theorem cd_X8_find : Cond.code yX8_find cX8_find 2 (some .int) ∈ wsG := wg (tw6 212 rfl) rfl
theorem im_X8_find : Cond.instanceMethod yX8_find ∈ wsG := wg (tw6 210 rfl) rfl
theorem se_X8_find : Cond.selects RX8 yX8_find yX8_find ∈ wsG := wg (tw6 211 rfl) rfl
theorem wy_X8_find : wyV yX8_find 0 := ⟨⟨in_X8, ⟨by decide, by decide⟩, by decide +kernel⟩, im_X8_find, se_X8_find⟩
theorem cd_X8_isFoundAt : Cond.code yX8_isFoundAt cX8_isFoundAt 4 (some .boolean) ∈ wsG := wg (tw6 216 rfl) rfl
theorem im_X8_isFoundAt : Cond.instanceMethod yX8_isFoundAt ∈ wsG := wg (tw6 215 rfl) rfl
theorem wy_X8_isFoundAt : wyV yX8_isFoundAt 1 := ⟨⟨in_X8, ⟨by decide, by decide⟩, by decide +kernel⟩, im_X8_isFoundAt, se_X8_isFoundAt⟩
theorem cd_X8_killWord : Cond.code yX8_killWord cX8_killWord 1 (some .int) ∈ wsG := wg (tw6 220 rfl) rfl
theorem im_X8_killWord : Cond.instanceMethod yX8_killWord ∈ wsG := wg (tw6 218 rfl) rfl
theorem se_X8_killWord : Cond.selects RX8 yX8_killWord yX8_killWord ∈ wsG := wg (tw6 219 rfl) rfl
theorem wy_X8_killWord : wyV yX8_killWord 0 := ⟨⟨in_X8, ⟨by decide, by decide⟩, by decide +kernel⟩, im_X8_killWord, se_X8_killWord⟩
theorem cd_X8_killBack : Cond.code yX8_killBack cX8_killBack 1 (some .int) ∈ wsG := wg (tw6 224 rfl) rfl
theorem im_X8_killBack : Cond.instanceMethod yX8_killBack ∈ wsG := wg (tw6 222 rfl) rfl
theorem se_X8_killBack : Cond.selects RX8 yX8_killBack yX8_killBack ∈ wsG := wg (tw6 223 rfl) rfl
theorem wy_X8_killBack : wyV yX8_killBack 0 := ⟨⟨in_X8, ⟨by decide, by decide⟩, by decide +kernel⟩, im_X8_killBack, se_X8_killBack⟩
theorem cd_X8_killLine : Cond.code yX8_killLine cX8_killLine 1 (some .int) ∈ wsG := wg (tw6 228 rfl) rfl
theorem im_X8_killLine : Cond.instanceMethod yX8_killLine ∈ wsG := wg (tw6 226 rfl) rfl
theorem se_X8_killLine : Cond.selects RX8 yX8_killLine yX8_killLine ∈ wsG := wg (tw6 227 rfl) rfl
theorem wy_X8_killLine : wyV yX8_killLine 0 := ⟨⟨in_X8, ⟨by decide, by decide⟩, by decide +kernel⟩, im_X8_killLine, se_X8_killLine⟩
theorem cd_X8_killBetween : Cond.code yX8_killBetween cX8_killBetween 1 (some .int) ∈ wsG := wg (tw6 232 rfl) rfl
theorem im_X8_killBetween : Cond.instanceMethod yX8_killBetween ∈ wsG := wg (tw6 230 rfl) rfl
theorem se_X8_killBetween : Cond.selects RX8 yX8_killBetween yX8_killBetween ∈ wsG := wg (tw6 231 rfl) rfl
theorem wy_X8_killBetween : wyV yX8_killBetween 0 := ⟨⟨in_X8, ⟨by decide, by decide⟩, by decide +kernel⟩, im_X8_killBetween, se_X8_killBetween⟩
theorem cd_X8_copyBetween : Cond.code yX8_copyBetween cX8_copyBetween 1 (some .int) ∈ wsG := wg (tw6 236 rfl) rfl
theorem im_X8_copyBetween : Cond.instanceMethod yX8_copyBetween ∈ wsG := wg (tw6 234 rfl) rfl
theorem se_X8_copyBetween : Cond.selects RX8 yX8_copyBetween yX8_copyBetween ∈ wsG := wg (tw6 235 rfl) rfl
theorem wy_X8_copyBetween : wyV yX8_copyBetween 0 := ⟨⟨in_X8, ⟨by decide, by decide⟩, by decide +kernel⟩, im_X8_copyBetween, se_X8_copyBetween⟩
theorem cd_X8_yank : Cond.code yX8_yank cX8_yank 1 (some .int) ∈ wsG := wg (tw7 0 rfl) rfl
theorem im_X8_yank : Cond.instanceMethod yX8_yank ∈ wsG := wg (tw6 238 rfl) rfl
theorem se_X8_yank : Cond.selects RX8 yX8_yank yX8_yank ∈ wsG := wg (tw6 239 rfl) rfl
theorem wy_X8_yank : wyV yX8_yank 0 := ⟨⟨in_X8, ⟨by decide, by decide⟩, by decide +kernel⟩, im_X8_yank, se_X8_yank⟩
theorem cd_X8_yankOther : Cond.code yX8_yankOther cX8_yankOther 1 (some .int) ∈ wsG := wg (tw7 4 rfl) rfl
theorem im_X8_yankOther : Cond.instanceMethod yX8_yankOther ∈ wsG := wg (tw7 2 rfl) rfl
theorem se_X8_yankOther : Cond.selects RX8 yX8_yankOther yX8_yankOther ∈ wsG := wg (tw7 3 rfl) rfl
theorem wy_X8_yankOther : wyV yX8_yankOther 0 := ⟨⟨in_X8, ⟨by decide, by decide⟩, by decide +kernel⟩, im_X8_yankOther, se_X8_yankOther⟩
theorem cd_X8_turn : Cond.code yX8_turn cX8_turn 3 (some .int) ∈ wsG := wg (tw7 8 rfl) rfl
theorem im_X8_turn : Cond.instanceMethod yX8_turn ∈ wsG := wg (tw7 6 rfl) rfl
theorem se_X8_turn : Cond.selects RX8 yX8_turn yX8_turn ∈ wsG := wg (tw7 7 rfl) rfl
theorem wy_X8_turn : wyV yX8_turn 1 := ⟨⟨in_X8, ⟨by decide, by decide⟩, by decide +kernel⟩, im_X8_turn, se_X8_turn⟩
theorem cd_X8_changeCaves : Cond.code yX8_changeCaves cX8_changeCaves 3 (some .int) ∈ wsG := wg (tw7 12 rfl) rfl
theorem im_X8_changeCaves : Cond.instanceMethod yX8_changeCaves ∈ wsG := wg (tw7 10 rfl) rfl
theorem se_X8_changeCaves : Cond.selects RX8 yX8_changeCaves yX8_changeCaves ∈ wsG := wg (tw7 11 rfl) rfl
theorem wy_X8_changeCaves : wyV yX8_changeCaves 1 := ⟨⟨in_X8, ⟨by decide, by decide⟩, by decide +kernel⟩, im_X8_changeCaves, se_X8_changeCaves⟩
theorem cd_X8_append : Cond.code yX8_append cX8_append 2 (some .int) ∈ wsG := wg (tw7 16 rfl) rfl
theorem im_X8_append : Cond.instanceMethod yX8_append ∈ wsG := wg (tw7 14 rfl) rfl
theorem se_X8_append : Cond.selects RX8 yX8_append yX8_append ∈ wsG := wg (tw7 15 rfl) rfl
theorem wy_X8_append : wyV yX8_append 1 := ⟨⟨in_X8, ⟨by decide, by decide⟩, by decide +kernel⟩, im_X8_append, se_X8_append⟩
theorem cd_X8_clearBuffer : Cond.code yX8_clearBuffer cX8_clearBuffer 2 (some .int) ∈ wsG := wg (tw7 20 rfl) rfl
theorem im_X8_clearBuffer : Cond.instanceMethod yX8_clearBuffer ∈ wsG := wg (tw7 18 rfl) rfl
theorem se_X8_clearBuffer : Cond.selects RX8 yX8_clearBuffer yX8_clearBuffer ∈ wsG := wg (tw7 19 rfl) rfl
theorem wy_X8_clearBuffer : wyV yX8_clearBuffer 0 := ⟨⟨in_X8, ⟨by decide, by decide⟩, by decide +kernel⟩, im_X8_clearBuffer, se_X8_clearBuffer⟩
theorem cd_X8_firstError : Cond.code yX8_firstError cX8_firstError 1 (some .int) ∈ wsG := wg (tw7 24 rfl) rfl
theorem im_X8_firstError : Cond.instanceMethod yX8_firstError ∈ wsG := wg (tw7 22 rfl) rfl
theorem se_X8_firstError : Cond.selects RX8 yX8_firstError yX8_firstError ∈ wsG := wg (tw7 23 rfl) rfl
theorem wy_X8_firstError : wyV yX8_firstError 0 := ⟨⟨in_X8, ⟨by decide, by decide⟩, by decide +kernel⟩, im_X8_firstError, se_X8_firstError⟩
theorem cd_X8_tells : Cond.code yX8_tells cX8_tells 2 (some .boolean) ∈ wsG := wg (tw7 28 rfl) rfl
theorem im_X8_tells : Cond.instanceMethod yX8_tells ∈ wsG := wg (tw7 27 rfl) rfl
theorem wy_X8_tells : wyV yX8_tells 0 := ⟨⟨in_X8, ⟨by decide, by decide⟩, by decide +kernel⟩, im_X8_tells, se_X8_tells⟩
theorem cd_X8_part : Cond.code yX8_part cX8_part 3 (some .int) ∈ wsG := wg (tw7 32 rfl) rfl
theorem im_X8_part : Cond.instanceMethod yX8_part ∈ wsG := wg (tw7 31 rfl) rfl
theorem wy_X8_part : wyV yX8_part 0 := ⟨⟨in_X8, ⟨by decide, by decide⟩, by decide +kernel⟩, im_X8_part, se_X8_part⟩
theorem cd_X8_isSign : Cond.code yX8_isSign cX8_isSign 1 (some .boolean) ∈ wsG := wg (tw7 35 rfl) rfl
theorem st_X8_isSign : Cond.static yX8_isSign ∈ wsG := wg (tw7 34 rfl) rfl
theorem wy_X8_isSign : wyS yX8_isSign 1 := ⟨⟨in_X8, ⟨by decide, by decide⟩, by decide +kernel⟩, st_X8_isSign⟩
theorem cd_X8_perform : Cond.code yX8_perform cX8_perform 4 (some .int) ∈ wsG := wg (tw7 39 rfl) rfl
theorem im_X8_perform : Cond.instanceMethod yX8_perform ∈ wsG := wg (tw7 37 rfl) rfl
theorem se_X8_perform : Cond.selects RX8 yX8_perform yX8_perform ∈ wsG := wg (tw7 38 rfl) rfl
theorem wy_X8_perform : wyV yX8_perform 0 := ⟨⟨in_X8, ⟨by decide, by decide⟩, by decide +kernel⟩, im_X8_perform, se_X8_perform⟩
theorem cd_X8_doesAll : Cond.code yX8_doesAll cX8_doesAll 5 (some .int) ∈ wsG := wg (tw7 43 rfl) rfl
theorem im_X8_doesAll : Cond.instanceMethod yX8_doesAll ∈ wsG := wg (tw7 42 rfl) rfl
theorem wy_X8_doesAll : wyV yX8_doesAll 0 := ⟨⟨in_X8, ⟨by decide, by decide⟩, by decide +kernel⟩, im_X8_doesAll, se_X8_doesAll⟩
theorem cd_X8_keep : Cond.code yX8_keep cX8_keep 2 none ∈ wsG := wg (tw7 47 rfl) rfl
theorem im_X8_keep : Cond.instanceMethod yX8_keep ∈ wsG := wg (tw7 45 rfl) rfl
theorem se_X8_keep : Cond.selects RX8 yX8_keep yX8_keep ∈ wsG := wg (tw7 46 rfl) rfl
theorem wy_X8_keep : wyV yX8_keep 1 := ⟨⟨in_X8, ⟨by decide, by decide⟩, by decide +kernel⟩, im_X8_keep, se_X8_keep⟩
theorem cd_X8_goBack : Cond.code yX8_goBack cX8_goBack 3 none ∈ wsG := wg (tw7 51 rfl) rfl
theorem im_X8_goBack : Cond.instanceMethod yX8_goBack ∈ wsG := wg (tw7 49 rfl) rfl
theorem se_X8_goBack : Cond.selects RX8 yX8_goBack yX8_goBack ∈ wsG := wg (tw7 50 rfl) rfl
theorem wy_X8_goBack : wyV yX8_goBack 1 := ⟨⟨in_X8, ⟨by decide, by decide⟩, by decide +kernel⟩, im_X8_goBack, se_X8_goBack⟩
theorem cd_X8_undo : Cond.code yX8_undo cX8_undo 1 none ∈ wsG := wg (tw7 55 rfl) rfl
theorem im_X8_undo : Cond.instanceMethod yX8_undo ∈ wsG := wg (tw7 53 rfl) rfl
theorem se_X8_undo : Cond.selects RX8 yX8_undo yX8_undo ∈ wsG := wg (tw7 54 rfl) rfl
theorem wy_X8_undo : wyV yX8_undo 0 := ⟨⟨in_X8, ⟨by decide, by decide⟩, by decide +kernel⟩, im_X8_undo, se_X8_undo⟩
theorem cd_X8_savedStates : Cond.code yX8_savedStates cX8_savedStates 1 (some .int) ∈ wsG := wg (tw7 59 rfl) rfl
theorem im_X8_savedStates : Cond.instanceMethod yX8_savedStates ∈ wsG := wg (tw7 57 rfl) rfl
theorem se_X8_savedStates : Cond.selects RX8 yX8_savedStates yX8_savedStates ∈ wsG := wg (tw7 58 rfl) rfl
theorem wy_X8_savedStates : wyV yX8_savedStates 0 := ⟨⟨in_X8, ⟨by decide, by decide⟩, by decide +kernel⟩, im_X8_savedStates, se_X8_savedStates⟩
theorem cd_X8_length : Cond.code yX8_length cX8_length 1 (some .int) ∈ wsG := wg (tw7 63 rfl) rfl
theorem im_X8_length : Cond.instanceMethod yX8_length ∈ wsG := wg (tw7 61 rfl) rfl
theorem se_X8_length : Cond.selects RX8 yX8_length yX8_length ∈ wsG := wg (tw7 62 rfl) rfl
theorem wy_X8_length : wyV yX8_length 0 := ⟨⟨in_X8, ⟨by decide, by decide⟩, by decide +kernel⟩, im_X8_length, se_X8_length⟩
theorem cd_X8_plain : Cond.code yX8_plain cX8_plain 2 (some .int) ∈ wsG := wg (tw7 67 rfl) rfl
theorem im_X8_plain : Cond.instanceMethod yX8_plain ∈ wsG := wg (tw7 66 rfl) rfl
theorem wy_X8_plain : wyV yX8_plain 1 := ⟨⟨in_X8, ⟨by decide, by decide⟩, by decide +kernel⟩, im_X8_plain, se_X8_plain⟩
theorem cd_X8_codeAt : Cond.code yX8_codeAt cX8_codeAt 2 (some .int) ∈ wsG := wg (tw7 71 rfl) rfl
theorem im_X8_codeAt : Cond.instanceMethod yX8_codeAt ∈ wsG := wg (tw7 69 rfl) rfl
theorem se_X8_codeAt : Cond.selects RX8 yX8_codeAt yX8_codeAt ∈ wsG := wg (tw7 70 rfl) rfl
theorem wy_X8_codeAt : wyV yX8_codeAt 1 := ⟨⟨in_X8, ⟨by decide, by decide⟩, by decide +kernel⟩, im_X8_codeAt, se_X8_codeAt⟩
theorem cd_X8_point : Cond.code yX8_point cX8_point 1 (some .int) ∈ wsG := wg (tw7 75 rfl) rfl
theorem im_X8_point : Cond.instanceMethod yX8_point ∈ wsG := wg (tw7 73 rfl) rfl
theorem se_X8_point : Cond.selects RX8 yX8_point yX8_point ∈ wsG := wg (tw7 74 rfl) rfl
theorem wy_X8_point : wyV yX8_point 0 := ⟨⟨in_X8, ⟨by decide, by decide⟩, by decide +kernel⟩, im_X8_point, se_X8_point⟩
theorem cd_X8_markAt : Cond.code yX8_markAt cX8_markAt 1 (some .int) ∈ wsG := wg (tw7 79 rfl) rfl
theorem im_X8_markAt : Cond.instanceMethod yX8_markAt ∈ wsG := wg (tw7 77 rfl) rfl
theorem se_X8_markAt : Cond.selects RX8 yX8_markAt yX8_markAt ∈ wsG := wg (tw7 78 rfl) rfl
theorem wy_X8_markAt : wyV yX8_markAt 0 := ⟨⟨in_X8, ⟨by decide, by decide⟩, by decide +kernel⟩, im_X8_markAt, se_X8_markAt⟩
theorem cd_X8_between : Cond.code yX8_between cX8_between 1 (some .int) ∈ wsG := wg (tw7 83 rfl) rfl
theorem im_X8_between : Cond.instanceMethod yX8_between ∈ wsG := wg (tw7 81 rfl) rfl
theorem se_X8_between : Cond.selects RX8 yX8_between yX8_between ∈ wsG := wg (tw7 82 rfl) rfl
theorem wy_X8_between : wyV yX8_between 0 := ⟨⟨in_X8, ⟨by decide, by decide⟩, by decide +kernel⟩, im_X8_between, se_X8_between⟩
theorem cd_X8_linesByEnds : Cond.code yX8_linesByEnds cX8_linesByEnds 1 (some .int) ∈ wsG := wg (tw7 87 rfl) rfl
theorem im_X8_linesByEnds : Cond.instanceMethod yX8_linesByEnds ∈ wsG := wg (tw7 85 rfl) rfl
theorem se_X8_linesByEnds : Cond.selects RX8 yX8_linesByEnds yX8_linesByEnds ∈ wsG := wg (tw7 86 rfl) rfl
theorem wy_X8_linesByEnds : wyV yX8_linesByEnds 0 := ⟨⟨in_X8, ⟨by decide, by decide⟩, by decide +kernel⟩, im_X8_linesByEnds, se_X8_linesByEnds⟩
theorem cd_X8_endsUntil : Cond.code yX8_endsUntil cX8_endsUntil 4 (some .int) ∈ wsG := wg (tw7 91 rfl) rfl
theorem im_X8_endsUntil : Cond.instanceMethod yX8_endsUntil ∈ wsG := wg (tw7 90 rfl) rfl
theorem wy_X8_endsUntil : wyV yX8_endsUntil 1 := ⟨⟨in_X8, ⟨by decide, by decide⟩, by decide +kernel⟩, im_X8_endsUntil, se_X8_endsUntil⟩
theorem cd_X8_linesByGoing : Cond.code yX8_linesByGoing cX8_linesByGoing 1 (some .int) ∈ wsG := wg (tw7 95 rfl) rfl
theorem im_X8_linesByGoing : Cond.instanceMethod yX8_linesByGoing ∈ wsG := wg (tw7 93 rfl) rfl
theorem se_X8_linesByGoing : Cond.selects RX8 yX8_linesByGoing yX8_linesByGoing ∈ wsG := wg (tw7 94 rfl) rfl
theorem wy_X8_linesByGoing : wyV yX8_linesByGoing 0 := ⟨⟨in_X8, ⟨by decide, by decide⟩, by decide +kernel⟩, im_X8_linesByGoing, se_X8_linesByGoing⟩
theorem cd_X8_line : Cond.code yX8_line cX8_line 1 (some .int) ∈ wsG := wg (tw7 99 rfl) rfl
theorem im_X8_line : Cond.instanceMethod yX8_line ∈ wsG := wg (tw7 97 rfl) rfl
theorem se_X8_line : Cond.selects RX8 yX8_line yX8_line ∈ wsG := wg (tw7 98 rfl) rfl
theorem wy_X8_line : wyV yX8_line 0 := ⟨⟨in_X8, ⟨by decide, by decide⟩, by decide +kernel⟩, im_X8_line, se_X8_line⟩
theorem cd_X8_column : Cond.code yX8_column cX8_column 1 (some .int) ∈ wsG := wg (tw7 103 rfl) rfl
theorem im_X8_column : Cond.instanceMethod yX8_column ∈ wsG := wg (tw7 101 rfl) rfl
theorem se_X8_column : Cond.selects RX8 yX8_column yX8_column ∈ wsG := wg (tw7 102 rfl) rfl
theorem wy_X8_column : wyV yX8_column 0 := ⟨⟨in_X8, ⟨by decide, by decide⟩, by decide +kernel⟩, im_X8_column, se_X8_column⟩
theorem cd_X8_longestLine : Cond.code yX8_longestLine cX8_longestLine 1 (some .int) ∈ wsG := wg (tw7 107 rfl) rfl
theorem im_X8_longestLine : Cond.instanceMethod yX8_longestLine ∈ wsG := wg (tw7 105 rfl) rfl
theorem se_X8_longestLine : Cond.selects RX8 yX8_longestLine yX8_longestLine ∈ wsG := wg (tw7 106 rfl) rfl
theorem wy_X8_longestLine : wyV yX8_longestLine 0 := ⟨⟨in_X8, ⟨by decide, by decide⟩, by decide +kernel⟩, im_X8_longestLine, se_X8_longestLine⟩
theorem cd_X8_longest : Cond.code yX8_longest cX8_longest 4 (some .int) ∈ wsG := wg (tw7 111 rfl) rfl
theorem im_X8_longest : Cond.instanceMethod yX8_longest ∈ wsG := wg (tw7 110 rfl) rfl
theorem wy_X8_longest : wyV yX8_longest 0 := ⟨⟨in_X8, ⟨by decide, by decide⟩, by decide +kernel⟩, im_X8_longest, se_X8_longest⟩
theorem cd_X8_wordsByBegins : Cond.code yX8_wordsByBegins cX8_wordsByBegins 1 (some .int) ∈ wsG := wg (tw7 115 rfl) rfl
theorem im_X8_wordsByBegins : Cond.instanceMethod yX8_wordsByBegins ∈ wsG := wg (tw7 113 rfl) rfl
theorem se_X8_wordsByBegins : Cond.selects RX8 yX8_wordsByBegins yX8_wordsByBegins ∈ wsG := wg (tw7 114 rfl) rfl
theorem wy_X8_wordsByBegins : wyV yX8_wordsByBegins 0 := ⟨⟨in_X8, ⟨by decide, by decide⟩, by decide +kernel⟩, im_X8_wordsByBegins, se_X8_wordsByBegins⟩
theorem cd_X8_words : Cond.code yX8_words cX8_words 3 (some .int) ∈ wsG := wg (tw7 119 rfl) rfl
theorem im_X8_words : Cond.instanceMethod yX8_words ∈ wsG := wg (tw7 118 rfl) rfl
theorem wy_X8_words : wyV yX8_words 0 := ⟨⟨in_X8, ⟨by decide, by decide⟩, by decide +kernel⟩, im_X8_words, se_X8_words⟩
theorem cd_X8_wordsByGoing : Cond.code yX8_wordsByGoing cX8_wordsByGoing 1 (some .int) ∈ wsG := wg (tw7 123 rfl) rfl
theorem im_X8_wordsByGoing : Cond.instanceMethod yX8_wordsByGoing ∈ wsG := wg (tw7 121 rfl) rfl
theorem se_X8_wordsByGoing : Cond.selects RX8 yX8_wordsByGoing yX8_wordsByGoing ∈ wsG := wg (tw7 122 rfl) rfl
theorem wy_X8_wordsByGoing : wyV yX8_wordsByGoing 0 := ⟨⟨in_X8, ⟨by decide, by decide⟩, by decide +kernel⟩, im_X8_wordsByGoing, se_X8_wordsByGoing⟩
theorem cd_X8_hoards : Cond.code yX8_hoards cX8_hoards 1 (some .int) ∈ wsG := wg (tw7 127 rfl) rfl
theorem im_X8_hoards : Cond.instanceMethod yX8_hoards ∈ wsG := wg (tw7 125 rfl) rfl
theorem se_X8_hoards : Cond.selects RX8 yX8_hoards yX8_hoards ∈ wsG := wg (tw7 126 rfl) rfl
theorem wy_X8_hoards : wyV yX8_hoards 0 := ⟨⟨in_X8, ⟨by decide, by decide⟩, by decide +kernel⟩, im_X8_hoards, se_X8_hoards⟩
theorem cd_X8_caves : Cond.code yX8_caves cX8_caves 1 (some .int) ∈ wsG := wg (tw7 131 rfl) rfl
theorem im_X8_caves : Cond.instanceMethod yX8_caves ∈ wsG := wg (tw7 129 rfl) rfl
theorem se_X8_caves : Cond.selects RX8 yX8_caves yX8_caves ∈ wsG := wg (tw7 130 rfl) rfl
theorem wy_X8_caves : wyV yX8_caves 0 := ⟨⟨in_X8, ⟨by decide, by decide⟩, by decide +kernel⟩, im_X8_caves, se_X8_caves⟩
theorem cd_X8_lengthOf : Cond.code yX8_lengthOf cX8_lengthOf 2 (some .int) ∈ wsG := wg (tw7 135 rfl) rfl
theorem im_X8_lengthOf : Cond.instanceMethod yX8_lengthOf ∈ wsG := wg (tw7 133 rfl) rfl
theorem se_X8_lengthOf : Cond.selects RX8 yX8_lengthOf yX8_lengthOf ∈ wsG := wg (tw7 134 rfl) rfl
theorem wy_X8_lengthOf : wyV yX8_lengthOf 1 := ⟨⟨in_X8, ⟨by decide, by decide⟩, by decide +kernel⟩, im_X8_lengthOf, se_X8_lengthOf⟩
theorem cd_X8_isHoard : Cond.code yX8_isHoard cX8_isHoard 2 (some .boolean) ∈ wsG := wg (tw7 139 rfl) rfl
theorem im_X8_isHoard : Cond.instanceMethod yX8_isHoard ∈ wsG := wg (tw7 138 rfl) rfl
theorem wy_X8_isHoard : wyV yX8_isHoard 1 := ⟨⟨in_X8, ⟨by decide, by decide⟩, by decide +kernel⟩, im_X8_isHoard, se_X8_isHoard⟩
theorem cd_X8_codeIn : Cond.code yX8_codeIn cX8_codeIn 4 (some .int) ∈ wsG := wg (tw7 143 rfl) rfl
theorem im_X8_codeIn : Cond.instanceMethod yX8_codeIn ∈ wsG := wg (tw7 141 rfl) rfl
theorem se_X8_codeIn : Cond.selects RX8 yX8_codeIn yX8_codeIn ∈ wsG := wg (tw7 142 rfl) rfl
theorem wy_X8_codeIn : wyV yX8_codeIn 2 := ⟨⟨in_X8, ⟨by decide, by decide⟩, by decide +kernel⟩, im_X8_codeIn, se_X8_codeIn⟩
theorem cd_X8_nextHoard : Cond.code yX8_nextHoard cX8_nextHoard 1 (some .int) ∈ wsG := wg (tw7 147 rfl) rfl
theorem im_X8_nextHoard : Cond.instanceMethod yX8_nextHoard ∈ wsG := wg (tw7 145 rfl) rfl
theorem se_X8_nextHoard : Cond.selects RX8 yX8_nextHoard yX8_nextHoard ∈ wsG := wg (tw7 146 rfl) rfl
theorem wy_X8_nextHoard : wyV yX8_nextHoard 0 := ⟨⟨in_X8, ⟨by decide, by decide⟩, by decide +kernel⟩, im_X8_nextHoard, se_X8_nextHoard⟩
theorem cd_X8_isGrowing : Cond.code yX8_isGrowing cX8_isGrowing 1 (some .boolean) ∈ wsG := wg (tw7 151 rfl) rfl
theorem im_X8_isGrowing : Cond.instanceMethod yX8_isGrowing ∈ wsG := wg (tw7 149 rfl) rfl
theorem se_X8_isGrowing : Cond.selects RX8 yX8_isGrowing yX8_isGrowing ∈ wsG := wg (tw7 150 rfl) rfl
theorem wy_X8_isGrowing : wyV yX8_isGrowing 0 := ⟨⟨in_X8, ⟨by decide, by decide⟩, by decide +kernel⟩, im_X8_isGrowing, se_X8_isGrowing⟩
theorem cd_X8_canTurnYank : Cond.code yX8_canTurnYank cX8_canTurnYank 1 (some .boolean) ∈ wsG := wg (tw7 155 rfl) rfl
theorem im_X8_canTurnYank : Cond.instanceMethod yX8_canTurnYank ∈ wsG := wg (tw7 153 rfl) rfl
theorem se_X8_canTurnYank : Cond.selects RX8 yX8_canTurnYank yX8_canTurnYank ∈ wsG := wg (tw7 154 rfl) rfl
theorem wy_X8_canTurnYank : wyV yX8_canTurnYank 0 := ⟨⟨in_X8, ⟨by decide, by decide⟩, by decide +kernel⟩, im_X8_canTurnYank, se_X8_canTurnYank⟩
theorem cd_X8_lengthIfYanked : Cond.code yX8_lengthIfYanked cX8_lengthIfYanked 2 (some .int) ∈ wsG := wg (tw7 159 rfl) rfl
theorem im_X8_lengthIfYanked : Cond.instanceMethod yX8_lengthIfYanked ∈ wsG := wg (tw7 157 rfl) rfl
theorem se_X8_lengthIfYanked : Cond.selects RX8 yX8_lengthIfYanked yX8_lengthIfYanked ∈ wsG := wg (tw7 158 rfl) rfl
theorem wy_X8_lengthIfYanked : wyV yX8_lengthIfYanked 1 := ⟨⟨in_X8, ⟨by decide, by decide⟩, by decide +kernel⟩, im_X8_lengthIfYanked, se_X8_lengthIfYanked⟩
theorem cd_X8_weight : Cond.code yX8_weight cX8_weight 1 (some .int) ∈ wsG := wg (tw7 163 rfl) rfl
theorem im_X8_weight : Cond.instanceMethod yX8_weight ∈ wsG := wg (tw7 161 rfl) rfl
theorem se_X8_weight : Cond.selects RX8 yX8_weight yX8_weight ∈ wsG := wg (tw7 162 rfl) rfl
theorem wy_X8_weight : wyV yX8_weight 0 := ⟨⟨in_X8, ⟨by decide, by decide⟩, by decide +kernel⟩, im_X8_weight, se_X8_weight⟩
theorem cd_X8_sum : Cond.code yX8_sum cX8_sum 3 (some .int) ∈ wsG := wg (tw7 167 rfl) rfl
theorem im_X8_sum : Cond.instanceMethod yX8_sum ∈ wsG := wg (tw7 166 rfl) rfl
theorem wy_X8_sum : wyV yX8_sum 0 := ⟨⟨in_X8, ⟨by decide, by decide⟩, by decide +kernel⟩, im_X8_sum, se_X8_sum⟩
theorem cd_X8_heaviest : Cond.code yX8_heaviest cX8_heaviest 1 (some .int) ∈ wsG := wg (tw7 171 rfl) rfl
theorem im_X8_heaviest : Cond.instanceMethod yX8_heaviest ∈ wsG := wg (tw7 169 rfl) rfl
theorem se_X8_heaviest : Cond.selects RX8 yX8_heaviest yX8_heaviest ∈ wsG := wg (tw7 170 rfl) rfl
theorem wy_X8_heaviest : wyV yX8_heaviest 0 := ⟨⟨in_X8, ⟨by decide, by decide⟩, by decide +kernel⟩, im_X8_heaviest, se_X8_heaviest⟩
theorem cd_X8_heavy : Cond.code yX8_heavy cX8_heavy 3 (some .int) ∈ wsG := wg (tw7 175 rfl) rfl
theorem im_X8_heavy : Cond.instanceMethod yX8_heavy ∈ wsG := wg (tw7 174 rfl) rfl
theorem wy_X8_heavy : wyV yX8_heavy 0 := ⟨⟨in_X8, ⟨by decide, by decide⟩, by decide +kernel⟩, im_X8_heavy, se_X8_heavy⟩
theorem cd_X8_killed : Cond.code yX8_killed cX8_killed 1 (some .int) ∈ wsG := wg (tw7 179 rfl) rfl
theorem im_X8_killed : Cond.instanceMethod yX8_killed ∈ wsG := wg (tw7 177 rfl) rfl
theorem se_X8_killed : Cond.selects RX8 yX8_killed yX8_killed ∈ wsG := wg (tw7 178 rfl) rfl
theorem wy_X8_killed : wyV yX8_killed 0 := ⟨⟨in_X8, ⟨by decide, by decide⟩, by decide +kernel⟩, im_X8_killed, se_X8_killed⟩
theorem cd_X8_yanked : Cond.code yX8_yanked cX8_yanked 1 (some .int) ∈ wsG := wg (tw7 183 rfl) rfl
theorem im_X8_yanked : Cond.instanceMethod yX8_yanked ∈ wsG := wg (tw7 181 rfl) rfl
theorem se_X8_yanked : Cond.selects RX8 yX8_yanked yX8_yanked ∈ wsG := wg (tw7 182 rfl) rfl
theorem wy_X8_yanked : wyV yX8_yanked 0 := ⟨⟨in_X8, ⟨by decide, by decide⟩, by decide +kernel⟩, im_X8_yanked, se_X8_yanked⟩
theorem cd_X8_written : Cond.code yX8_written cX8_written 1 (some .int) ∈ wsG := wg (tw7 187 rfl) rfl
theorem im_X8_written : Cond.instanceMethod yX8_written ∈ wsG := wg (tw7 185 rfl) rfl
theorem se_X8_written : Cond.selects RX8 yX8_written yX8_written ∈ wsG := wg (tw7 186 rfl) rfl
theorem wy_X8_written : wyV yX8_written 0 := ⟨⟨in_X8, ⟨by decide, by decide⟩, by decide +kernel⟩, im_X8_written, se_X8_written⟩
theorem cd_X8_lostHoards : Cond.code yX8_lostHoards cX8_lostHoards 1 (some .int) ∈ wsG := wg (tw7 191 rfl) rfl
theorem im_X8_lostHoards : Cond.instanceMethod yX8_lostHoards ∈ wsG := wg (tw7 189 rfl) rfl
theorem se_X8_lostHoards : Cond.selects RX8 yX8_lostHoards yX8_lostHoards ∈ wsG := wg (tw7 190 rfl) rfl
theorem wy_X8_lostHoards : wyV yX8_lostHoards 0 := ⟨⟨in_X8, ⟨by decide, by decide⟩, by decide +kernel⟩, im_X8_lostHoards, se_X8_lostHoards⟩
theorem cd_X8_lengthByAccount : Cond.code yX8_lengthByAccount cX8_lengthByAccount 1 (some .int) ∈ wsG := wg (tw7 195 rfl) rfl
theorem im_X8_lengthByAccount : Cond.instanceMethod yX8_lengthByAccount ∈ wsG := wg (tw7 193 rfl) rfl
theorem se_X8_lengthByAccount : Cond.selects RX8 yX8_lengthByAccount yX8_lengthByAccount ∈ wsG := wg (tw7 194 rfl) rfl
theorem wy_X8_lengthByAccount : wyV yX8_lengthByAccount 0 := ⟨⟨in_X8, ⟨by decide, by decide⟩, by decide +kernel⟩, im_X8_lengthByAccount, se_X8_lengthByAccount⟩
theorem cd_X8_meanHoard : Cond.code yX8_meanHoard cX8_meanHoard 1 (some .double) ∈ wsG := wg (tw7 199 rfl) rfl
theorem im_X8_meanHoard : Cond.instanceMethod yX8_meanHoard ∈ wsG := wg (tw7 197 rfl) rfl
theorem se_X8_meanHoard : Cond.selects RX8 yX8_meanHoard yX8_meanHoard ∈ wsG := wg (tw7 198 rfl) rfl
theorem wy_X8_meanHoard : wyV yX8_meanHoard 0 := ⟨⟨in_X8, ⟨by decide, by decide⟩, by decide +kernel⟩, im_X8_meanHoard, se_X8_meanHoard⟩
theorem cd_X8_digest : Cond.code yX8_digest cX8_digest 5 (some .long) ∈ wsG := wg (tw7 203 rfl) rfl
theorem im_X8_digest : Cond.instanceMethod yX8_digest ∈ wsG := wg (tw7 201 rfl) rfl
theorem se_X8_digest : Cond.selects RX8 yX8_digest yX8_digest ∈ wsG := wg (tw7 202 rfl) rfl
theorem wy_X8_digest : wyV yX8_digest 0 := ⟨⟨in_X8, ⟨by decide, by decide⟩, by decide +kernel⟩, im_X8_digest, se_X8_digest⟩
theorem cd_X8_hashOfScroll : Cond.code yX8_hashOfScroll cX8_hashOfScroll 4 (some .long) ∈ wsG := wg (tw7 207 rfl) rfl
theorem im_X8_hashOfScroll : Cond.instanceMethod yX8_hashOfScroll ∈ wsG := wg (tw7 206 rfl) rfl
theorem wy_X8_hashOfScroll : wyV yX8_hashOfScroll 0 := ⟨⟨in_X8, ⟨by decide, by decide⟩, by decide +kernel⟩, im_X8_hashOfScroll, se_X8_hashOfScroll⟩
theorem cd_X8_bits : Cond.code yX8_bits cX8_bits 9 (some .long) ∈ wsG := wg (tw7 212 rfl) rfl
theorem st_X8_bits : Cond.static yX8_bits ∈ wsG := wg (tw7 211 rfl) rfl
theorem wy_X8_bits : wyS yX8_bits 2 := ⟨⟨in_X8, ⟨by decide, by decide⟩, by decide +kernel⟩, st_X8_bits⟩
theorem w_acN : Cond.native arraycopyName ∈ wsG := wg (tw1 231 rfl) rfl
theorem w_acS : Cond.static arraycopyName ∈ wsG := wg (tw1 230 rfl) rfl
theorem w_minS : Cond.static Lib.Math.min.name ∈ wsG := wg (tw1 227 rfl) rfl
theorem w_minC : Cond.code Lib.Math.min.name Lib.Math.min.code 2 (some .int) ∈ wsG := wg (tw1 228 rfl) rfl
theorem w_absS : Cond.static Lib.Math.abs.name ∈ wsG := wg (tw2 128 rfl) rfl
theorem w_absC : Cond.code Lib.Math.abs.name Lib.Math.abs.code 1 (some .int) ∈ wsG := wg (tw2 129 rfl) rfl
theorem w_maxS : Cond.static Lib.Math.max.name ∈ wsG := wg (tw2 225 rfl) rfl
theorem w_maxC : Cond.code Lib.Math.max.name Lib.Math.max.code 2 (some .int) ∈ wsG := wg (tw2 226 rfl) rfl
theorem w_maIn : Cond.initialized "java/lang/Math" ∈ wsG := wg (tw1 13 rfl) rfl
end
section
/-! THE LAYER, 4: fields, arrays, new objects. -/
theorem inw0 : ∀ w ∈ u_ws RX0 TX0 6, w ∈ wsG := by
  have h : ∀ w ∈ u_ws RX0 TX0 6, w ∈ lw_tbl ∧ goodWord w = true := by decide +kernel
  exact fun w hw => wg (h w hw).1 (h w hw).2
theorem inw1 : ∀ w ∈ u_ws RX1 TX1 1, w ∈ wsG := by
  have h : ∀ w ∈ u_ws RX1 TX1 1, w ∈ lw_tbl ∧ goodWord w = true := by decide +kernel
  exact fun w hw => wg (h w hw).1 (h w hw).2
theorem inw2 : ∀ w ∈ u_ws RX2 TX2 3, w ∈ wsG := by
  have h : ∀ w ∈ u_ws RX2 TX2 3, w ∈ lw_tbl ∧ goodWord w = true := by decide +kernel
  exact fun w hw => wg (h w hw).1 (h w hw).2
theorem inw3 : ∀ w ∈ u_ws RX3 TX3 5, w ∈ wsG := by
  have h : ∀ w ∈ u_ws RX3 TX3 5, w ∈ lw_tbl ∧ goodWord w = true := by decide +kernel
  exact fun w hw => wg (h w hw).1 (h w hw).2
theorem inw4 : ∀ w ∈ u_ws RX4 TX4 3, w ∈ wsG := by
  have h : ∀ w ∈ u_ws RX4 TX4 3, w ∈ lw_tbl ∧ goodWord w = true := by decide +kernel
  exact fun w hw => wg (h w hw).1 (h w hw).2
theorem inw5 : ∀ w ∈ u_ws RX5 TX5 4, w ∈ wsG := by
  have h : ∀ w ∈ u_ws RX5 TX5 4, w ∈ lw_tbl ∧ goodWord w = true := by decide +kernel
  exact fun w hw => wg (h w hw).1 (h w hw).2
theorem inw6 : ∀ w ∈ u_ws RX6 TX6 2, w ∈ wsG := by
  have h : ∀ w ∈ u_ws RX6 TX6 2, w ∈ lw_tbl ∧ goodWord w = true := by decide +kernel
  exact fun w hw => wg (h w hw).1 (h w hw).2
theorem inw7 : ∀ w ∈ u_ws RX7 TX7 5, w ∈ wsG := by
  have h : ∀ w ∈ u_ws RX7 TX7 5, w ∈ lw_tbl ∧ goodWord w = true := by decide +kernel
  exact fun w hw => wg (h w hw).1 (h w hw).2
theorem inw8 : ∀ w ∈ u_ws RX8 TX8 10, w ∈ wsG := by
  have h : ∀ w ∈ u_ws RX8 TX8 10, w ∈ lw_tbl ∧ goodWord w = true := by decide +kernel
  exact fun w hw => wg (h w hw).1 (h w hw).2
section ZH
variable {ZZ : ZT} {l : Launch} {y : MethodName} {cc : ByteArray} {nL : Nat} {ret : Option FieldType} {R : Room} {L0 : List Nat} {post : Option Value → List Nat → (Nat → PE) → Prop} {xp : String → List Nat → (Nat → PE) → Prop}
variable {k n pc : Nat} {lv : List (Option Value)} {st : List Value} {L : List Nat} {F : Nat → PE}
theorem z_gf_X0_written (hZ : ZZ = Zj l y cc nL ret R L0 post xp) {a ix : Nat} {v0 v1 v2 v3 v4 v5 : Value} (d : decode cc pc = .ok (.getfield ix, 3)) (hw : Cond.fieldLink y.cls ix "DragonRing$Accounts" "written" "I" ∈ wsG) (ha : a ∈ L) (hF : F a = eO 0 [v0, v1, v2, v3, v4, v5]) (kk : ZZ k n (pc + 3) lv (v0 :: st) L F) : ZZ k n pc lv (.ref a :: st) L F := by
  subst hZ
  intro p e s m args below meth c D κ hx H locs ls hP hD hS hl
  obtain ⟨q0, hq0⟩ := pw_get (κ := κ) ha hF
  exact va_get hx.1 hx.2.1 (C := RX0) (T := TX0) (N := 6) (ci := 0) (ref := "DragonRing$Accounts") hx.2.2.2.2.1 inw0 hx.2.2.2.1 hx.2.2.2.2.2.1.1 hP q0 hq0 rfl 0 (by decide) (hx.2.2.2.2.1 _ hw) (fun _ h => h) rfl d (kk p e s m args below meth c D κ hx H locs ls hP hD hS hl)
theorem z_pf_X0_written (hZ : ZZ = Zj l y cc nL ret R L0 post xp) {a ix : Nat} {v0 v1 v2 v3 v4 v5 : Value} {x : Int32} (d : decode cc pc = .ok (.putfield ix, 3)) (hw : Cond.fieldLink y.cls ix "DragonRing$Accounts" "written" "I" ∈ wsG) (ha : a ∈ L) (hF : F a = eO 0 [v0, v1, v2, v3, v4, v5]) (kk : ∀ F1 : Nat → PE, F1 a = eO 0 [.int x, v1, v2, v3, v4, v5] → (∀ b : Nat, b ≠ a → F1 b = F b) → ZZ k n (pc + 3) lv st L F1) : ZZ k n pc lv (.int x :: .ref a :: st) L F := by
  subst hZ
  intro p e s m args below meth c D κ hx H locs ls hP hD hS hl
  obtain ⟨q0, hq0⟩ := pw_get (κ := κ) ha hF
  refine va_put (v := .int x) (ty := .int) hx.1 hx.2.1 (C := RX0) (T := TX0) (N := 6) (ci := 0) (ref := "DragonRing$Accounts") hx.2.2.2.2.1 inw0 tyX0 tyX0_ok nmX0 hx.2.2.2.1 hx.2.2.2.2.2.1.1 hP hD hS q0 hq0 rfl 0 (by decide) (hx.2.2.2.2.1 _ hw) (fun _ h => h) rfl (by decide +kernel) rfl rfl (Nat.le_of_ble_eq_true rfl) d (fun H1 locs1 hP1 hD1 hS1 => ?_)
  refine kk (va_up F a (eO 0 [.int x, v1, v2, v3, v4, v5])) (va_up_self _ _ _) (fun b hb => va_up_ne _ _ hb) p e s m args below meth c D κ hx H1 locs1 ls ?_ ?_ hS1 hl
  · rw [← pw_set (e := eO 0 [.int x, v1, v2, v3, v4, v5]) hD ha hF hq0]; exact hP1
  · rw [← pw_set (e := eO 0 [.int x, v1, v2, v3, v4, v5]) hD ha hF hq0]; exact hD1
theorem z_gf_X0_rubbed (hZ : ZZ = Zj l y cc nL ret R L0 post xp) {a ix : Nat} {v0 v1 v2 v3 v4 v5 : Value} (d : decode cc pc = .ok (.getfield ix, 3)) (hw : Cond.fieldLink y.cls ix "DragonRing$Accounts" "rubbed" "I" ∈ wsG) (ha : a ∈ L) (hF : F a = eO 0 [v0, v1, v2, v3, v4, v5]) (kk : ZZ k n (pc + 3) lv (v1 :: st) L F) : ZZ k n pc lv (.ref a :: st) L F := by
  subst hZ
  intro p e s m args below meth c D κ hx H locs ls hP hD hS hl
  obtain ⟨q0, hq0⟩ := pw_get (κ := κ) ha hF
  exact va_get hx.1 hx.2.1 (C := RX0) (T := TX0) (N := 6) (ci := 0) (ref := "DragonRing$Accounts") hx.2.2.2.2.1 inw0 hx.2.2.2.1 hx.2.2.2.2.2.1.1 hP q0 hq0 rfl 1 (by decide) (hx.2.2.2.2.1 _ hw) (fun _ h => h) rfl d (kk p e s m args below meth c D κ hx H locs ls hP hD hS hl)
theorem z_pf_X0_rubbed (hZ : ZZ = Zj l y cc nL ret R L0 post xp) {a ix : Nat} {v0 v1 v2 v3 v4 v5 : Value} {x : Int32} (d : decode cc pc = .ok (.putfield ix, 3)) (hw : Cond.fieldLink y.cls ix "DragonRing$Accounts" "rubbed" "I" ∈ wsG) (ha : a ∈ L) (hF : F a = eO 0 [v0, v1, v2, v3, v4, v5]) (kk : ∀ F1 : Nat → PE, F1 a = eO 0 [v0, .int x, v2, v3, v4, v5] → (∀ b : Nat, b ≠ a → F1 b = F b) → ZZ k n (pc + 3) lv st L F1) : ZZ k n pc lv (.int x :: .ref a :: st) L F := by
  subst hZ
  intro p e s m args below meth c D κ hx H locs ls hP hD hS hl
  obtain ⟨q0, hq0⟩ := pw_get (κ := κ) ha hF
  refine va_put (v := .int x) (ty := .int) hx.1 hx.2.1 (C := RX0) (T := TX0) (N := 6) (ci := 0) (ref := "DragonRing$Accounts") hx.2.2.2.2.1 inw0 tyX0 tyX0_ok nmX0 hx.2.2.2.1 hx.2.2.2.2.2.1.1 hP hD hS q0 hq0 rfl 1 (by decide) (hx.2.2.2.2.1 _ hw) (fun _ h => h) rfl (by decide +kernel) rfl rfl (Nat.le_of_ble_eq_true rfl) d (fun H1 locs1 hP1 hD1 hS1 => ?_)
  refine kk (va_up F a (eO 0 [v0, .int x, v2, v3, v4, v5])) (va_up_self _ _ _) (fun b hb => va_up_ne _ _ hb) p e s m args below meth c D κ hx H1 locs1 ls ?_ ?_ hS1 hl
  · rw [← pw_set (e := eO 0 [v0, .int x, v2, v3, v4, v5]) hD ha hF hq0]; exact hP1
  · rw [← pw_set (e := eO 0 [v0, .int x, v2, v3, v4, v5]) hD ha hF hq0]; exact hD1
theorem z_gf_X0_killed (hZ : ZZ = Zj l y cc nL ret R L0 post xp) {a ix : Nat} {v0 v1 v2 v3 v4 v5 : Value} (d : decode cc pc = .ok (.getfield ix, 3)) (hw : Cond.fieldLink y.cls ix "DragonRing$Accounts" "killed" "I" ∈ wsG) (ha : a ∈ L) (hF : F a = eO 0 [v0, v1, v2, v3, v4, v5]) (kk : ZZ k n (pc + 3) lv (v2 :: st) L F) : ZZ k n pc lv (.ref a :: st) L F := by
  subst hZ
  intro p e s m args below meth c D κ hx H locs ls hP hD hS hl
  obtain ⟨q0, hq0⟩ := pw_get (κ := κ) ha hF
  exact va_get hx.1 hx.2.1 (C := RX0) (T := TX0) (N := 6) (ci := 0) (ref := "DragonRing$Accounts") hx.2.2.2.2.1 inw0 hx.2.2.2.1 hx.2.2.2.2.2.1.1 hP q0 hq0 rfl 2 (by decide) (hx.2.2.2.2.1 _ hw) (fun _ h => h) rfl d (kk p e s m args below meth c D κ hx H locs ls hP hD hS hl)
theorem z_pf_X0_killed (hZ : ZZ = Zj l y cc nL ret R L0 post xp) {a ix : Nat} {v0 v1 v2 v3 v4 v5 : Value} {x : Int32} (d : decode cc pc = .ok (.putfield ix, 3)) (hw : Cond.fieldLink y.cls ix "DragonRing$Accounts" "killed" "I" ∈ wsG) (ha : a ∈ L) (hF : F a = eO 0 [v0, v1, v2, v3, v4, v5]) (kk : ∀ F1 : Nat → PE, F1 a = eO 0 [v0, v1, .int x, v3, v4, v5] → (∀ b : Nat, b ≠ a → F1 b = F b) → ZZ k n (pc + 3) lv st L F1) : ZZ k n pc lv (.int x :: .ref a :: st) L F := by
  subst hZ
  intro p e s m args below meth c D κ hx H locs ls hP hD hS hl
  obtain ⟨q0, hq0⟩ := pw_get (κ := κ) ha hF
  refine va_put (v := .int x) (ty := .int) hx.1 hx.2.1 (C := RX0) (T := TX0) (N := 6) (ci := 0) (ref := "DragonRing$Accounts") hx.2.2.2.2.1 inw0 tyX0 tyX0_ok nmX0 hx.2.2.2.1 hx.2.2.2.2.2.1.1 hP hD hS q0 hq0 rfl 2 (by decide) (hx.2.2.2.2.1 _ hw) (fun _ h => h) rfl (by decide +kernel) rfl rfl (Nat.le_of_ble_eq_true rfl) d (fun H1 locs1 hP1 hD1 hS1 => ?_)
  refine kk (va_up F a (eO 0 [v0, v1, .int x, v3, v4, v5])) (va_up_self _ _ _) (fun b hb => va_up_ne _ _ hb) p e s m args below meth c D κ hx H1 locs1 ls ?_ ?_ hS1 hl
  · rw [← pw_set (e := eO 0 [v0, v1, .int x, v3, v4, v5]) hD ha hF hq0]; exact hP1
  · rw [← pw_set (e := eO 0 [v0, v1, .int x, v3, v4, v5]) hD ha hF hq0]; exact hD1
theorem z_gf_X0_yanked (hZ : ZZ = Zj l y cc nL ret R L0 post xp) {a ix : Nat} {v0 v1 v2 v3 v4 v5 : Value} (d : decode cc pc = .ok (.getfield ix, 3)) (hw : Cond.fieldLink y.cls ix "DragonRing$Accounts" "yanked" "I" ∈ wsG) (ha : a ∈ L) (hF : F a = eO 0 [v0, v1, v2, v3, v4, v5]) (kk : ZZ k n (pc + 3) lv (v3 :: st) L F) : ZZ k n pc lv (.ref a :: st) L F := by
  subst hZ
  intro p e s m args below meth c D κ hx H locs ls hP hD hS hl
  obtain ⟨q0, hq0⟩ := pw_get (κ := κ) ha hF
  exact va_get hx.1 hx.2.1 (C := RX0) (T := TX0) (N := 6) (ci := 0) (ref := "DragonRing$Accounts") hx.2.2.2.2.1 inw0 hx.2.2.2.1 hx.2.2.2.2.2.1.1 hP q0 hq0 rfl 3 (by decide) (hx.2.2.2.2.1 _ hw) (fun _ h => h) rfl d (kk p e s m args below meth c D κ hx H locs ls hP hD hS hl)
theorem z_pf_X0_yanked (hZ : ZZ = Zj l y cc nL ret R L0 post xp) {a ix : Nat} {v0 v1 v2 v3 v4 v5 : Value} {x : Int32} (d : decode cc pc = .ok (.putfield ix, 3)) (hw : Cond.fieldLink y.cls ix "DragonRing$Accounts" "yanked" "I" ∈ wsG) (ha : a ∈ L) (hF : F a = eO 0 [v0, v1, v2, v3, v4, v5]) (kk : ∀ F1 : Nat → PE, F1 a = eO 0 [v0, v1, v2, .int x, v4, v5] → (∀ b : Nat, b ≠ a → F1 b = F b) → ZZ k n (pc + 3) lv st L F1) : ZZ k n pc lv (.int x :: .ref a :: st) L F := by
  subst hZ
  intro p e s m args below meth c D κ hx H locs ls hP hD hS hl
  obtain ⟨q0, hq0⟩ := pw_get (κ := κ) ha hF
  refine va_put (v := .int x) (ty := .int) hx.1 hx.2.1 (C := RX0) (T := TX0) (N := 6) (ci := 0) (ref := "DragonRing$Accounts") hx.2.2.2.2.1 inw0 tyX0 tyX0_ok nmX0 hx.2.2.2.1 hx.2.2.2.2.2.1.1 hP hD hS q0 hq0 rfl 3 (by decide) (hx.2.2.2.2.1 _ hw) (fun _ h => h) rfl (by decide +kernel) rfl rfl (Nat.le_of_ble_eq_true rfl) d (fun H1 locs1 hP1 hD1 hS1 => ?_)
  refine kk (va_up F a (eO 0 [v0, v1, v2, .int x, v4, v5])) (va_up_self _ _ _) (fun b hb => va_up_ne _ _ hb) p e s m args below meth c D κ hx H1 locs1 ls ?_ ?_ hS1 hl
  · rw [← pw_set (e := eO 0 [v0, v1, v2, .int x, v4, v5]) hD ha hF hq0]; exact hP1
  · rw [← pw_set (e := eO 0 [v0, v1, v2, .int x, v4, v5]) hD ha hF hq0]; exact hD1
theorem z_gf_X0_takenOut (hZ : ZZ = Zj l y cc nL ret R L0 post xp) {a ix : Nat} {v0 v1 v2 v3 v4 v5 : Value} (d : decode cc pc = .ok (.getfield ix, 3)) (hw : Cond.fieldLink y.cls ix "DragonRing$Accounts" "takenOut" "I" ∈ wsG) (ha : a ∈ L) (hF : F a = eO 0 [v0, v1, v2, v3, v4, v5]) (kk : ZZ k n (pc + 3) lv (v4 :: st) L F) : ZZ k n pc lv (.ref a :: st) L F := by
  subst hZ
  intro p e s m args below meth c D κ hx H locs ls hP hD hS hl
  obtain ⟨q0, hq0⟩ := pw_get (κ := κ) ha hF
  exact va_get hx.1 hx.2.1 (C := RX0) (T := TX0) (N := 6) (ci := 0) (ref := "DragonRing$Accounts") hx.2.2.2.2.1 inw0 hx.2.2.2.1 hx.2.2.2.2.2.1.1 hP q0 hq0 rfl 4 (by decide) (hx.2.2.2.2.1 _ hw) (fun _ h => h) rfl d (kk p e s m args below meth c D κ hx H locs ls hP hD hS hl)
theorem z_pf_X0_takenOut (hZ : ZZ = Zj l y cc nL ret R L0 post xp) {a ix : Nat} {v0 v1 v2 v3 v4 v5 : Value} {x : Int32} (d : decode cc pc = .ok (.putfield ix, 3)) (hw : Cond.fieldLink y.cls ix "DragonRing$Accounts" "takenOut" "I" ∈ wsG) (ha : a ∈ L) (hF : F a = eO 0 [v0, v1, v2, v3, v4, v5]) (kk : ∀ F1 : Nat → PE, F1 a = eO 0 [v0, v1, v2, v3, .int x, v5] → (∀ b : Nat, b ≠ a → F1 b = F b) → ZZ k n (pc + 3) lv st L F1) : ZZ k n pc lv (.int x :: .ref a :: st) L F := by
  subst hZ
  intro p e s m args below meth c D κ hx H locs ls hP hD hS hl
  obtain ⟨q0, hq0⟩ := pw_get (κ := κ) ha hF
  refine va_put (v := .int x) (ty := .int) hx.1 hx.2.1 (C := RX0) (T := TX0) (N := 6) (ci := 0) (ref := "DragonRing$Accounts") hx.2.2.2.2.1 inw0 tyX0 tyX0_ok nmX0 hx.2.2.2.1 hx.2.2.2.2.2.1.1 hP hD hS q0 hq0 rfl 4 (by decide) (hx.2.2.2.2.1 _ hw) (fun _ h => h) rfl (by decide +kernel) rfl rfl (Nat.le_of_ble_eq_true rfl) d (fun H1 locs1 hP1 hD1 hS1 => ?_)
  refine kk (va_up F a (eO 0 [v0, v1, v2, v3, .int x, v5])) (va_up_self _ _ _) (fun b hb => va_up_ne _ _ hb) p e s m args below meth c D κ hx H1 locs1 ls ?_ ?_ hS1 hl
  · rw [← pw_set (e := eO 0 [v0, v1, v2, v3, .int x, v5]) hD ha hF hq0]; exact hP1
  · rw [← pw_set (e := eO 0 [v0, v1, v2, v3, .int x, v5]) hD ha hF hq0]; exact hD1
theorem z_gf_X0_lost (hZ : ZZ = Zj l y cc nL ret R L0 post xp) {a ix : Nat} {v0 v1 v2 v3 v4 v5 : Value} (d : decode cc pc = .ok (.getfield ix, 3)) (hw : Cond.fieldLink y.cls ix "DragonRing$Accounts" "lost" "I" ∈ wsG) (ha : a ∈ L) (hF : F a = eO 0 [v0, v1, v2, v3, v4, v5]) (kk : ZZ k n (pc + 3) lv (v5 :: st) L F) : ZZ k n pc lv (.ref a :: st) L F := by
  subst hZ
  intro p e s m args below meth c D κ hx H locs ls hP hD hS hl
  obtain ⟨q0, hq0⟩ := pw_get (κ := κ) ha hF
  exact va_get hx.1 hx.2.1 (C := RX0) (T := TX0) (N := 6) (ci := 0) (ref := "DragonRing$Accounts") hx.2.2.2.2.1 inw0 hx.2.2.2.1 hx.2.2.2.2.2.1.1 hP q0 hq0 rfl 5 (by decide) (hx.2.2.2.2.1 _ hw) (fun _ h => h) rfl d (kk p e s m args below meth c D κ hx H locs ls hP hD hS hl)
theorem z_pf_X0_lost (hZ : ZZ = Zj l y cc nL ret R L0 post xp) {a ix : Nat} {v0 v1 v2 v3 v4 v5 : Value} {x : Int32} (d : decode cc pc = .ok (.putfield ix, 3)) (hw : Cond.fieldLink y.cls ix "DragonRing$Accounts" "lost" "I" ∈ wsG) (ha : a ∈ L) (hF : F a = eO 0 [v0, v1, v2, v3, v4, v5]) (kk : ∀ F1 : Nat → PE, F1 a = eO 0 [v0, v1, v2, v3, v4, .int x] → (∀ b : Nat, b ≠ a → F1 b = F b) → ZZ k n (pc + 3) lv st L F1) : ZZ k n pc lv (.int x :: .ref a :: st) L F := by
  subst hZ
  intro p e s m args below meth c D κ hx H locs ls hP hD hS hl
  obtain ⟨q0, hq0⟩ := pw_get (κ := κ) ha hF
  refine va_put (v := .int x) (ty := .int) hx.1 hx.2.1 (C := RX0) (T := TX0) (N := 6) (ci := 0) (ref := "DragonRing$Accounts") hx.2.2.2.2.1 inw0 tyX0 tyX0_ok nmX0 hx.2.2.2.1 hx.2.2.2.2.2.1.1 hP hD hS q0 hq0 rfl 5 (by decide) (hx.2.2.2.2.1 _ hw) (fun _ h => h) rfl (by decide +kernel) rfl rfl (Nat.le_of_ble_eq_true rfl) d (fun H1 locs1 hP1 hD1 hS1 => ?_)
  refine kk (va_up F a (eO 0 [v0, v1, v2, v3, v4, .int x])) (va_up_self _ _ _) (fun b hb => va_up_ne _ _ hb) p e s m args below meth c D κ hx H1 locs1 ls ?_ ?_ hS1 hl
  · rw [← pw_set (e := eO 0 [v0, v1, v2, v3, v4, .int x]) hD ha hF hq0]; exact hP1
  · rw [← pw_set (e := eO 0 [v0, v1, v2, v3, v4, .int x]) hD ha hF hq0]; exact hD1
theorem z_gf_X1_value (hZ : ZZ = Zj l y cc nL ret R L0 post xp) {a ix : Nat} {v0 : Value} (d : decode cc pc = .ok (.getfield ix, 3)) (hw : Cond.fieldLink y.cls ix "DragonRing$Hash" "value" "J" ∈ wsG) (ha : a ∈ L) (hF : F a = eO 1 [v0]) (kk : ZZ k n (pc + 3) lv (v0 :: st) L F) : ZZ k n pc lv (.ref a :: st) L F := by
  subst hZ
  intro p e s m args below meth c D κ hx H locs ls hP hD hS hl
  obtain ⟨q0, hq0⟩ := pw_get (κ := κ) ha hF
  exact va_get hx.1 hx.2.1 (C := RX1) (T := TX1) (N := 1) (ci := 1) (ref := "DragonRing$Hash") hx.2.2.2.2.1 inw1 hx.2.2.2.1 hx.2.2.2.2.2.1.1 hP q0 hq0 rfl 0 (by decide) (hx.2.2.2.2.1 _ hw) (fun _ h => h) rfl d (kk p e s m args below meth c D κ hx H locs ls hP hD hS hl)
theorem z_pf_X1_value (hZ : ZZ = Zj l y cc nL ret R L0 post xp) {a ix : Nat} {v0 : Value} {x : Int64} (d : decode cc pc = .ok (.putfield ix, 3)) (hw : Cond.fieldLink y.cls ix "DragonRing$Hash" "value" "J" ∈ wsG) (ha : a ∈ L) (hF : F a = eO 1 [v0]) (kk : ∀ F1 : Nat → PE, F1 a = eO 1 [.long x] → (∀ b : Nat, b ≠ a → F1 b = F b) → ZZ k n (pc + 3) lv st L F1) : ZZ k n pc lv (.long x :: .ref a :: st) L F := by
  subst hZ
  intro p e s m args below meth c D κ hx H locs ls hP hD hS hl
  obtain ⟨q0, hq0⟩ := pw_get (κ := κ) ha hF
  refine va_put (v := .long x) (ty := .long) hx.1 hx.2.1 (C := RX1) (T := TX1) (N := 1) (ci := 1) (ref := "DragonRing$Hash") hx.2.2.2.2.1 inw1 tyX1 tyX1_ok nmX1 hx.2.2.2.1 hx.2.2.2.2.2.1.1 hP hD hS q0 hq0 rfl 0 (by decide) (hx.2.2.2.2.1 _ hw) (fun _ h => h) rfl (by decide +kernel) rfl rfl (Nat.le_of_ble_eq_true rfl) d (fun H1 locs1 hP1 hD1 hS1 => ?_)
  refine kk (va_up F a (eO 1 [.long x])) (va_up_self _ _ _) (fun b hb => va_up_ne _ _ hb) p e s m args below meth c D κ hx H1 locs1 ls ?_ ?_ hS1 hl
  · rw [← pw_set (e := eO 1 [.long x]) hD ha hF hq0]; exact hP1
  · rw [← pw_set (e := eO 1 [.long x]) hD ha hF hq0]; exact hD1
theorem z_gf_X2_rows (hZ : ZZ = Zj l y cc nL ret R L0 post xp) {a ix : Nat} {v0 v1 v2 : Value} (d : decode cc pc = .ok (.getfield ix, 3)) (hw : Cond.fieldLink y.cls ix "DragonRing$History" "rows" "[LDragonRing$State;" ∈ wsG) (ha : a ∈ L) (hF : F a = eO 2 [v0, v1, v2]) (kk : ZZ k n (pc + 3) lv (v0 :: st) L F) : ZZ k n pc lv (.ref a :: st) L F := by
  subst hZ
  intro p e s m args below meth c D κ hx H locs ls hP hD hS hl
  obtain ⟨q0, hq0⟩ := pw_get (κ := κ) ha hF
  exact va_get hx.1 hx.2.1 (C := RX2) (T := TX2) (N := 3) (ci := 2) (ref := "DragonRing$History") hx.2.2.2.2.1 inw2 hx.2.2.2.1 hx.2.2.2.2.2.1.1 hP q0 hq0 rfl 0 (by decide) (hx.2.2.2.2.1 _ hw) (fun _ h => h) rfl d (kk p e s m args below meth c D κ hx H locs ls hP hD hS hl)
theorem z_pf_X2_rows (hZ : ZZ = Zj l y cc nL ret R L0 post xp) {a ix : Nat} {v0 v1 v2 : Value} {x : Nat} (d : decode cc pc = .ok (.putfield ix, 3)) (hw : Cond.fieldLink y.cls ix "DragonRing$History" "rows" "[LDragonRing$State;" ∈ wsG) (hyc : y.cls = RX2) (hyn : y.name = "<init>") (ha : a ∈ L) (hF : F a = eO 2 [v0, v1, v2]) (kk : ∀ F1 : Nat → PE, F1 a = eO 2 [.ref x, v1, v2] → (∀ b : Nat, b ≠ a → F1 b = F b) → ZZ k n (pc + 3) lv st L F1) : ZZ k n pc lv (.ref x :: .ref a :: st) L F := by
  subst hZ
  intro p e s m args below meth c D κ hx H locs ls hP hD hS hl
  obtain ⟨q0, hq0⟩ := pw_get (κ := κ) ha hF
  refine va_putF (v := .ref x) (ty := .array (.object "DragonRing$State")) hx.1 hx.2.1 (C := RX2) (T := TX2) (N := 3) (ci := 2) (ref := "DragonRing$History") hx.2.2.2.2.1 inw2 tyX2 tyX2_ok nmX2 hx.2.2.2.1 hx.2.2.2.2.2.1.1 hP hD hS q0 hq0 rfl 0 (by decide) (hx.2.2.2.2.1 _ hw) (fun _ h => h) rfl (hx.2.2.2.2.2.2.2.2.2.trans hyn) hyc.symm (by decide +kernel) rfl rfl (Nat.le_of_ble_eq_true rfl) d (fun H1 locs1 hP1 hD1 hS1 => ?_)
  refine kk (va_up F a (eO 2 [.ref x, v1, v2])) (va_up_self _ _ _) (fun b hb => va_up_ne _ _ hb) p e s m args below meth c D κ hx H1 locs1 ls ?_ ?_ hS1 hl
  · rw [← pw_set (e := eO 2 [.ref x, v1, v2]) hD ha hF hq0]; exact hP1
  · rw [← pw_set (e := eO 2 [.ref x, v1, v2]) hD ha hF hq0]; exact hD1
theorem z_gf_X2_first (hZ : ZZ = Zj l y cc nL ret R L0 post xp) {a ix : Nat} {v0 v1 v2 : Value} (d : decode cc pc = .ok (.getfield ix, 3)) (hw : Cond.fieldLink y.cls ix "DragonRing$History" "first" "I" ∈ wsG) (ha : a ∈ L) (hF : F a = eO 2 [v0, v1, v2]) (kk : ZZ k n (pc + 3) lv (v1 :: st) L F) : ZZ k n pc lv (.ref a :: st) L F := by
  subst hZ
  intro p e s m args below meth c D κ hx H locs ls hP hD hS hl
  obtain ⟨q0, hq0⟩ := pw_get (κ := κ) ha hF
  exact va_get hx.1 hx.2.1 (C := RX2) (T := TX2) (N := 3) (ci := 2) (ref := "DragonRing$History") hx.2.2.2.2.1 inw2 hx.2.2.2.1 hx.2.2.2.2.2.1.1 hP q0 hq0 rfl 1 (by decide) (hx.2.2.2.2.1 _ hw) (fun _ h => h) rfl d (kk p e s m args below meth c D κ hx H locs ls hP hD hS hl)
theorem z_pf_X2_first (hZ : ZZ = Zj l y cc nL ret R L0 post xp) {a ix : Nat} {v0 v1 v2 : Value} {x : Int32} (d : decode cc pc = .ok (.putfield ix, 3)) (hw : Cond.fieldLink y.cls ix "DragonRing$History" "first" "I" ∈ wsG) (ha : a ∈ L) (hF : F a = eO 2 [v0, v1, v2]) (kk : ∀ F1 : Nat → PE, F1 a = eO 2 [v0, .int x, v2] → (∀ b : Nat, b ≠ a → F1 b = F b) → ZZ k n (pc + 3) lv st L F1) : ZZ k n pc lv (.int x :: .ref a :: st) L F := by
  subst hZ
  intro p e s m args below meth c D κ hx H locs ls hP hD hS hl
  obtain ⟨q0, hq0⟩ := pw_get (κ := κ) ha hF
  refine va_put (v := .int x) (ty := .int) hx.1 hx.2.1 (C := RX2) (T := TX2) (N := 3) (ci := 2) (ref := "DragonRing$History") hx.2.2.2.2.1 inw2 tyX2 tyX2_ok nmX2 hx.2.2.2.1 hx.2.2.2.2.2.1.1 hP hD hS q0 hq0 rfl 1 (by decide) (hx.2.2.2.2.1 _ hw) (fun _ h => h) rfl (by decide +kernel) rfl rfl (Nat.le_of_ble_eq_true rfl) d (fun H1 locs1 hP1 hD1 hS1 => ?_)
  refine kk (va_up F a (eO 2 [v0, .int x, v2])) (va_up_self _ _ _) (fun b hb => va_up_ne _ _ hb) p e s m args below meth c D κ hx H1 locs1 ls ?_ ?_ hS1 hl
  · rw [← pw_set (e := eO 2 [v0, .int x, v2]) hD ha hF hq0]; exact hP1
  · rw [← pw_set (e := eO 2 [v0, .int x, v2]) hD ha hF hq0]; exact hD1
theorem z_gf_X2_saved (hZ : ZZ = Zj l y cc nL ret R L0 post xp) {a ix : Nat} {v0 v1 v2 : Value} (d : decode cc pc = .ok (.getfield ix, 3)) (hw : Cond.fieldLink y.cls ix "DragonRing$History" "saved" "I" ∈ wsG) (ha : a ∈ L) (hF : F a = eO 2 [v0, v1, v2]) (kk : ZZ k n (pc + 3) lv (v2 :: st) L F) : ZZ k n pc lv (.ref a :: st) L F := by
  subst hZ
  intro p e s m args below meth c D κ hx H locs ls hP hD hS hl
  obtain ⟨q0, hq0⟩ := pw_get (κ := κ) ha hF
  exact va_get hx.1 hx.2.1 (C := RX2) (T := TX2) (N := 3) (ci := 2) (ref := "DragonRing$History") hx.2.2.2.2.1 inw2 hx.2.2.2.1 hx.2.2.2.2.2.1.1 hP q0 hq0 rfl 2 (by decide) (hx.2.2.2.2.1 _ hw) (fun _ h => h) rfl d (kk p e s m args below meth c D κ hx H locs ls hP hD hS hl)
theorem z_pf_X2_saved (hZ : ZZ = Zj l y cc nL ret R L0 post xp) {a ix : Nat} {v0 v1 v2 : Value} {x : Int32} (d : decode cc pc = .ok (.putfield ix, 3)) (hw : Cond.fieldLink y.cls ix "DragonRing$History" "saved" "I" ∈ wsG) (ha : a ∈ L) (hF : F a = eO 2 [v0, v1, v2]) (kk : ∀ F1 : Nat → PE, F1 a = eO 2 [v0, v1, .int x] → (∀ b : Nat, b ≠ a → F1 b = F b) → ZZ k n (pc + 3) lv st L F1) : ZZ k n pc lv (.int x :: .ref a :: st) L F := by
  subst hZ
  intro p e s m args below meth c D κ hx H locs ls hP hD hS hl
  obtain ⟨q0, hq0⟩ := pw_get (κ := κ) ha hF
  refine va_put (v := .int x) (ty := .int) hx.1 hx.2.1 (C := RX2) (T := TX2) (N := 3) (ci := 2) (ref := "DragonRing$History") hx.2.2.2.2.1 inw2 tyX2 tyX2_ok nmX2 hx.2.2.2.1 hx.2.2.2.2.2.1.1 hP hD hS q0 hq0 rfl 2 (by decide) (hx.2.2.2.2.1 _ hw) (fun _ h => h) rfl (by decide +kernel) rfl rfl (Nat.le_of_ble_eq_true rfl) d (fun H1 locs1 hP1 hD1 hS1 => ?_)
  refine kk (va_up F a (eO 2 [v0, v1, .int x])) (va_up_self _ _ _) (fun b hb => va_up_ne _ _ hb) p e s m args below meth c D κ hx H1 locs1 ls ?_ ?_ hS1 hl
  · rw [← pw_set (e := eO 2 [v0, v1, .int x]) hD ha hF hq0]; exact hP1
  · rw [← pw_set (e := eO 2 [v0, v1, .int x]) hD ha hF hq0]; exact hD1
theorem z_gf_X3_rows (hZ : ZZ = Zj l y cc nL ret R L0 post xp) {a ix : Nat} {v0 v1 v2 v3 v4 : Value} (d : decode cc pc = .ok (.getfield ix, 3)) (hw : Cond.fieldLink y.cls ix "DragonRing$Ring" "rows" "[LDragonRing$Text;" ∈ wsG) (ha : a ∈ L) (hF : F a = eO 3 [v0, v1, v2, v3, v4]) (kk : ZZ k n (pc + 3) lv (v0 :: st) L F) : ZZ k n pc lv (.ref a :: st) L F := by
  subst hZ
  intro p e s m args below meth c D κ hx H locs ls hP hD hS hl
  obtain ⟨q0, hq0⟩ := pw_get (κ := κ) ha hF
  exact va_get hx.1 hx.2.1 (C := RX3) (T := TX3) (N := 5) (ci := 3) (ref := "DragonRing$Ring") hx.2.2.2.2.1 inw3 hx.2.2.2.1 hx.2.2.2.2.2.1.1 hP q0 hq0 rfl 0 (by decide) (hx.2.2.2.2.1 _ hw) (fun _ h => h) rfl d (kk p e s m args below meth c D κ hx H locs ls hP hD hS hl)
theorem z_pf_X3_rows (hZ : ZZ = Zj l y cc nL ret R L0 post xp) {a ix : Nat} {v0 v1 v2 v3 v4 : Value} {x : Nat} (d : decode cc pc = .ok (.putfield ix, 3)) (hw : Cond.fieldLink y.cls ix "DragonRing$Ring" "rows" "[LDragonRing$Text;" ∈ wsG) (hyc : y.cls = RX3) (hyn : y.name = "<init>") (ha : a ∈ L) (hF : F a = eO 3 [v0, v1, v2, v3, v4]) (kk : ∀ F1 : Nat → PE, F1 a = eO 3 [.ref x, v1, v2, v3, v4] → (∀ b : Nat, b ≠ a → F1 b = F b) → ZZ k n (pc + 3) lv st L F1) : ZZ k n pc lv (.ref x :: .ref a :: st) L F := by
  subst hZ
  intro p e s m args below meth c D κ hx H locs ls hP hD hS hl
  obtain ⟨q0, hq0⟩ := pw_get (κ := κ) ha hF
  refine va_putF (v := .ref x) (ty := .array (.object "DragonRing$Text")) hx.1 hx.2.1 (C := RX3) (T := TX3) (N := 5) (ci := 3) (ref := "DragonRing$Ring") hx.2.2.2.2.1 inw3 tyX3 tyX3_ok nmX3 hx.2.2.2.1 hx.2.2.2.2.2.1.1 hP hD hS q0 hq0 rfl 0 (by decide) (hx.2.2.2.2.1 _ hw) (fun _ h => h) rfl (hx.2.2.2.2.2.2.2.2.2.trans hyn) hyc.symm (by decide +kernel) rfl rfl (Nat.le_of_ble_eq_true rfl) d (fun H1 locs1 hP1 hD1 hS1 => ?_)
  refine kk (va_up F a (eO 3 [.ref x, v1, v2, v3, v4])) (va_up_self _ _ _) (fun b hb => va_up_ne _ _ hb) p e s m args below meth c D κ hx H1 locs1 ls ?_ ?_ hS1 hl
  · rw [← pw_set (e := eO 3 [.ref x, v1, v2, v3, v4]) hD ha hF hq0]; exact hP1
  · rw [← pw_set (e := eO 3 [.ref x, v1, v2, v3, v4]) hD ha hF hq0]; exact hD1
theorem z_gf_X3_noHoard (hZ : ZZ = Zj l y cc nL ret R L0 post xp) {a ix : Nat} {v0 v1 v2 v3 v4 : Value} (d : decode cc pc = .ok (.getfield ix, 3)) (hw : Cond.fieldLink y.cls ix "DragonRing$Ring" "noHoard" "LDragonRing$Text;" ∈ wsG) (ha : a ∈ L) (hF : F a = eO 3 [v0, v1, v2, v3, v4]) (kk : ZZ k n (pc + 3) lv (v1 :: st) L F) : ZZ k n pc lv (.ref a :: st) L F := by
  subst hZ
  intro p e s m args below meth c D κ hx H locs ls hP hD hS hl
  obtain ⟨q0, hq0⟩ := pw_get (κ := κ) ha hF
  exact va_get hx.1 hx.2.1 (C := RX3) (T := TX3) (N := 5) (ci := 3) (ref := "DragonRing$Ring") hx.2.2.2.2.1 inw3 hx.2.2.2.1 hx.2.2.2.2.2.1.1 hP q0 hq0 rfl 1 (by decide) (hx.2.2.2.2.1 _ hw) (fun _ h => h) rfl d (kk p e s m args below meth c D κ hx H locs ls hP hD hS hl)
theorem z_pf_X3_noHoard (hZ : ZZ = Zj l y cc nL ret R L0 post xp) {a ix : Nat} {v0 v1 v2 v3 v4 : Value} {x : Nat} (d : decode cc pc = .ok (.putfield ix, 3)) (hw : Cond.fieldLink y.cls ix "DragonRing$Ring" "noHoard" "LDragonRing$Text;" ∈ wsG) (hyc : y.cls = RX3) (hyn : y.name = "<init>") (ha : a ∈ L) (hF : F a = eO 3 [v0, v1, v2, v3, v4]) (kk : ∀ F1 : Nat → PE, F1 a = eO 3 [v0, .ref x, v2, v3, v4] → (∀ b : Nat, b ≠ a → F1 b = F b) → ZZ k n (pc + 3) lv st L F1) : ZZ k n pc lv (.ref x :: .ref a :: st) L F := by
  subst hZ
  intro p e s m args below meth c D κ hx H locs ls hP hD hS hl
  obtain ⟨q0, hq0⟩ := pw_get (κ := κ) ha hF
  refine va_putF (v := .ref x) (ty := .object "DragonRing$Text") hx.1 hx.2.1 (C := RX3) (T := TX3) (N := 5) (ci := 3) (ref := "DragonRing$Ring") hx.2.2.2.2.1 inw3 tyX3 tyX3_ok nmX3 hx.2.2.2.1 hx.2.2.2.2.2.1.1 hP hD hS q0 hq0 rfl 1 (by decide) (hx.2.2.2.2.1 _ hw) (fun _ h => h) rfl (hx.2.2.2.2.2.2.2.2.2.trans hyn) hyc.symm (by decide +kernel) rfl rfl (Nat.le_of_ble_eq_true rfl) d (fun H1 locs1 hP1 hD1 hS1 => ?_)
  refine kk (va_up F a (eO 3 [v0, .ref x, v2, v3, v4])) (va_up_self _ _ _) (fun b hb => va_up_ne _ _ hb) p e s m args below meth c D κ hx H1 locs1 ls ?_ ?_ hS1 hl
  · rw [← pw_set (e := eO 3 [v0, .ref x, v2, v3, v4]) hD ha hF hq0]; exact hP1
  · rw [← pw_set (e := eO 3 [v0, .ref x, v2, v3, v4]) hD ha hF hq0]; exact hD1
theorem z_gf_X3_count (hZ : ZZ = Zj l y cc nL ret R L0 post xp) {a ix : Nat} {v0 v1 v2 v3 v4 : Value} (d : decode cc pc = .ok (.getfield ix, 3)) (hw : Cond.fieldLink y.cls ix "DragonRing$Ring" "count" "I" ∈ wsG) (ha : a ∈ L) (hF : F a = eO 3 [v0, v1, v2, v3, v4]) (kk : ZZ k n (pc + 3) lv (v2 :: st) L F) : ZZ k n pc lv (.ref a :: st) L F := by
  subst hZ
  intro p e s m args below meth c D κ hx H locs ls hP hD hS hl
  obtain ⟨q0, hq0⟩ := pw_get (κ := κ) ha hF
  exact va_get hx.1 hx.2.1 (C := RX3) (T := TX3) (N := 5) (ci := 3) (ref := "DragonRing$Ring") hx.2.2.2.2.1 inw3 hx.2.2.2.1 hx.2.2.2.2.2.1.1 hP q0 hq0 rfl 2 (by decide) (hx.2.2.2.2.1 _ hw) (fun _ h => h) rfl d (kk p e s m args below meth c D κ hx H locs ls hP hD hS hl)
theorem z_pf_X3_count (hZ : ZZ = Zj l y cc nL ret R L0 post xp) {a ix : Nat} {v0 v1 v2 v3 v4 : Value} {x : Int32} (d : decode cc pc = .ok (.putfield ix, 3)) (hw : Cond.fieldLink y.cls ix "DragonRing$Ring" "count" "I" ∈ wsG) (ha : a ∈ L) (hF : F a = eO 3 [v0, v1, v2, v3, v4]) (kk : ∀ F1 : Nat → PE, F1 a = eO 3 [v0, v1, .int x, v3, v4] → (∀ b : Nat, b ≠ a → F1 b = F b) → ZZ k n (pc + 3) lv st L F1) : ZZ k n pc lv (.int x :: .ref a :: st) L F := by
  subst hZ
  intro p e s m args below meth c D κ hx H locs ls hP hD hS hl
  obtain ⟨q0, hq0⟩ := pw_get (κ := κ) ha hF
  refine va_put (v := .int x) (ty := .int) hx.1 hx.2.1 (C := RX3) (T := TX3) (N := 5) (ci := 3) (ref := "DragonRing$Ring") hx.2.2.2.2.1 inw3 tyX3 tyX3_ok nmX3 hx.2.2.2.1 hx.2.2.2.2.2.1.1 hP hD hS q0 hq0 rfl 2 (by decide) (hx.2.2.2.2.1 _ hw) (fun _ h => h) rfl (by decide +kernel) rfl rfl (Nat.le_of_ble_eq_true rfl) d (fun H1 locs1 hP1 hD1 hS1 => ?_)
  refine kk (va_up F a (eO 3 [v0, v1, .int x, v3, v4])) (va_up_self _ _ _) (fun b hb => va_up_ne _ _ hb) p e s m args below meth c D κ hx H1 locs1 ls ?_ ?_ hS1 hl
  · rw [← pw_set (e := eO 3 [v0, v1, .int x, v3, v4]) hD ha hF hq0]; exact hP1
  · rw [← pw_set (e := eO 3 [v0, v1, .int x, v3, v4]) hD ha hF hq0]; exact hD1
theorem z_gf_X3_caves (hZ : ZZ = Zj l y cc nL ret R L0 post xp) {a ix : Nat} {v0 v1 v2 v3 v4 : Value} (d : decode cc pc = .ok (.getfield ix, 3)) (hw : Cond.fieldLink y.cls ix "DragonRing$Ring" "caves" "I" ∈ wsG) (ha : a ∈ L) (hF : F a = eO 3 [v0, v1, v2, v3, v4]) (kk : ZZ k n (pc + 3) lv (v3 :: st) L F) : ZZ k n pc lv (.ref a :: st) L F := by
  subst hZ
  intro p e s m args below meth c D κ hx H locs ls hP hD hS hl
  obtain ⟨q0, hq0⟩ := pw_get (κ := κ) ha hF
  exact va_get hx.1 hx.2.1 (C := RX3) (T := TX3) (N := 5) (ci := 3) (ref := "DragonRing$Ring") hx.2.2.2.2.1 inw3 hx.2.2.2.1 hx.2.2.2.2.2.1.1 hP q0 hq0 rfl 3 (by decide) (hx.2.2.2.2.1 _ hw) (fun _ h => h) rfl d (kk p e s m args below meth c D κ hx H locs ls hP hD hS hl)
theorem z_pf_X3_caves (hZ : ZZ = Zj l y cc nL ret R L0 post xp) {a ix : Nat} {v0 v1 v2 v3 v4 : Value} {x : Int32} (d : decode cc pc = .ok (.putfield ix, 3)) (hw : Cond.fieldLink y.cls ix "DragonRing$Ring" "caves" "I" ∈ wsG) (ha : a ∈ L) (hF : F a = eO 3 [v0, v1, v2, v3, v4]) (kk : ∀ F1 : Nat → PE, F1 a = eO 3 [v0, v1, v2, .int x, v4] → (∀ b : Nat, b ≠ a → F1 b = F b) → ZZ k n (pc + 3) lv st L F1) : ZZ k n pc lv (.int x :: .ref a :: st) L F := by
  subst hZ
  intro p e s m args below meth c D κ hx H locs ls hP hD hS hl
  obtain ⟨q0, hq0⟩ := pw_get (κ := κ) ha hF
  refine va_put (v := .int x) (ty := .int) hx.1 hx.2.1 (C := RX3) (T := TX3) (N := 5) (ci := 3) (ref := "DragonRing$Ring") hx.2.2.2.2.1 inw3 tyX3 tyX3_ok nmX3 hx.2.2.2.1 hx.2.2.2.2.2.1.1 hP hD hS q0 hq0 rfl 3 (by decide) (hx.2.2.2.2.1 _ hw) (fun _ h => h) rfl (by decide +kernel) rfl rfl (Nat.le_of_ble_eq_true rfl) d (fun H1 locs1 hP1 hD1 hS1 => ?_)
  refine kk (va_up F a (eO 3 [v0, v1, v2, .int x, v4])) (va_up_self _ _ _) (fun b hb => va_up_ne _ _ hb) p e s m args below meth c D κ hx H1 locs1 ls ?_ ?_ hS1 hl
  · rw [← pw_set (e := eO 3 [v0, v1, v2, .int x, v4]) hD ha hF hq0]; exact hP1
  · rw [← pw_set (e := eO 3 [v0, v1, v2, .int x, v4]) hD ha hF hq0]; exact hD1
theorem z_gf_X3_next (hZ : ZZ = Zj l y cc nL ret R L0 post xp) {a ix : Nat} {v0 v1 v2 v3 v4 : Value} (d : decode cc pc = .ok (.getfield ix, 3)) (hw : Cond.fieldLink y.cls ix "DragonRing$Ring" "next" "I" ∈ wsG) (ha : a ∈ L) (hF : F a = eO 3 [v0, v1, v2, v3, v4]) (kk : ZZ k n (pc + 3) lv (v4 :: st) L F) : ZZ k n pc lv (.ref a :: st) L F := by
  subst hZ
  intro p e s m args below meth c D κ hx H locs ls hP hD hS hl
  obtain ⟨q0, hq0⟩ := pw_get (κ := κ) ha hF
  exact va_get hx.1 hx.2.1 (C := RX3) (T := TX3) (N := 5) (ci := 3) (ref := "DragonRing$Ring") hx.2.2.2.2.1 inw3 hx.2.2.2.1 hx.2.2.2.2.2.1.1 hP q0 hq0 rfl 4 (by decide) (hx.2.2.2.2.1 _ hw) (fun _ h => h) rfl d (kk p e s m args below meth c D κ hx H locs ls hP hD hS hl)
theorem z_pf_X3_next (hZ : ZZ = Zj l y cc nL ret R L0 post xp) {a ix : Nat} {v0 v1 v2 v3 v4 : Value} {x : Int32} (d : decode cc pc = .ok (.putfield ix, 3)) (hw : Cond.fieldLink y.cls ix "DragonRing$Ring" "next" "I" ∈ wsG) (ha : a ∈ L) (hF : F a = eO 3 [v0, v1, v2, v3, v4]) (kk : ∀ F1 : Nat → PE, F1 a = eO 3 [v0, v1, v2, v3, .int x] → (∀ b : Nat, b ≠ a → F1 b = F b) → ZZ k n (pc + 3) lv st L F1) : ZZ k n pc lv (.int x :: .ref a :: st) L F := by
  subst hZ
  intro p e s m args below meth c D κ hx H locs ls hP hD hS hl
  obtain ⟨q0, hq0⟩ := pw_get (κ := κ) ha hF
  refine va_put (v := .int x) (ty := .int) hx.1 hx.2.1 (C := RX3) (T := TX3) (N := 5) (ci := 3) (ref := "DragonRing$Ring") hx.2.2.2.2.1 inw3 tyX3 tyX3_ok nmX3 hx.2.2.2.1 hx.2.2.2.2.2.1.1 hP hD hS q0 hq0 rfl 4 (by decide) (hx.2.2.2.2.1 _ hw) (fun _ h => h) rfl (by decide +kernel) rfl rfl (Nat.le_of_ble_eq_true rfl) d (fun H1 locs1 hP1 hD1 hS1 => ?_)
  refine kk (va_up F a (eO 3 [v0, v1, v2, v3, .int x])) (va_up_self _ _ _) (fun b hb => va_up_ne _ _ hb) p e s m args below meth c D κ hx H1 locs1 ls ?_ ?_ hS1 hl
  · rw [← pw_set (e := eO 3 [v0, v1, v2, v3, .int x]) hD ha hF hq0]; exact hP1
  · rw [← pw_set (e := eO 3 [v0, v1, v2, v3, .int x]) hD ha hF hq0]; exact hD1
theorem z_gf_X4_text (hZ : ZZ = Zj l y cc nL ret R L0 post xp) {a ix : Nat} {v0 v1 v2 : Value} (d : decode cc pc = .ok (.getfield ix, 3)) (hw : Cond.fieldLink y.cls ix "DragonRing$Scroll" "text" "LDragonRing$Text;" ∈ wsG) (ha : a ∈ L) (hF : F a = eO 4 [v0, v1, v2]) (kk : ZZ k n (pc + 3) lv (v0 :: st) L F) : ZZ k n pc lv (.ref a :: st) L F := by
  subst hZ
  intro p e s m args below meth c D κ hx H locs ls hP hD hS hl
  obtain ⟨q0, hq0⟩ := pw_get (κ := κ) ha hF
  exact va_get hx.1 hx.2.1 (C := RX4) (T := TX4) (N := 3) (ci := 4) (ref := "DragonRing$Scroll") hx.2.2.2.2.1 inw4 hx.2.2.2.1 hx.2.2.2.2.2.1.1 hP q0 hq0 rfl 0 (by decide) (hx.2.2.2.2.1 _ hw) (fun _ h => h) rfl d (kk p e s m args below meth c D κ hx H locs ls hP hD hS hl)
theorem z_pf_X4_text (hZ : ZZ = Zj l y cc nL ret R L0 post xp) {a ix : Nat} {v0 v1 v2 : Value} {x : Nat} (d : decode cc pc = .ok (.putfield ix, 3)) (hw : Cond.fieldLink y.cls ix "DragonRing$Scroll" "text" "LDragonRing$Text;" ∈ wsG) (hyc : y.cls = RX4) (hyn : y.name = "<init>") (ha : a ∈ L) (hF : F a = eO 4 [v0, v1, v2]) (kk : ∀ F1 : Nat → PE, F1 a = eO 4 [.ref x, v1, v2] → (∀ b : Nat, b ≠ a → F1 b = F b) → ZZ k n (pc + 3) lv st L F1) : ZZ k n pc lv (.ref x :: .ref a :: st) L F := by
  subst hZ
  intro p e s m args below meth c D κ hx H locs ls hP hD hS hl
  obtain ⟨q0, hq0⟩ := pw_get (κ := κ) ha hF
  refine va_putF (v := .ref x) (ty := .object "DragonRing$Text") hx.1 hx.2.1 (C := RX4) (T := TX4) (N := 3) (ci := 4) (ref := "DragonRing$Scroll") hx.2.2.2.2.1 inw4 tyX4 tyX4_ok nmX4 hx.2.2.2.1 hx.2.2.2.2.2.1.1 hP hD hS q0 hq0 rfl 0 (by decide) (hx.2.2.2.2.1 _ hw) (fun _ h => h) rfl (hx.2.2.2.2.2.2.2.2.2.trans hyn) hyc.symm (by decide +kernel) rfl rfl (Nat.le_of_ble_eq_true rfl) d (fun H1 locs1 hP1 hD1 hS1 => ?_)
  refine kk (va_up F a (eO 4 [.ref x, v1, v2])) (va_up_self _ _ _) (fun b hb => va_up_ne _ _ hb) p e s m args below meth c D κ hx H1 locs1 ls ?_ ?_ hS1 hl
  · rw [← pw_set (e := eO 4 [.ref x, v1, v2]) hD ha hF hq0]; exact hP1
  · rw [← pw_set (e := eO 4 [.ref x, v1, v2]) hD ha hF hq0]; exact hD1
theorem z_gf_X4_point (hZ : ZZ = Zj l y cc nL ret R L0 post xp) {a ix : Nat} {v0 v1 v2 : Value} (d : decode cc pc = .ok (.getfield ix, 3)) (hw : Cond.fieldLink y.cls ix "DragonRing$Scroll" "point" "I" ∈ wsG) (ha : a ∈ L) (hF : F a = eO 4 [v0, v1, v2]) (kk : ZZ k n (pc + 3) lv (v1 :: st) L F) : ZZ k n pc lv (.ref a :: st) L F := by
  subst hZ
  intro p e s m args below meth c D κ hx H locs ls hP hD hS hl
  obtain ⟨q0, hq0⟩ := pw_get (κ := κ) ha hF
  exact va_get hx.1 hx.2.1 (C := RX4) (T := TX4) (N := 3) (ci := 4) (ref := "DragonRing$Scroll") hx.2.2.2.2.1 inw4 hx.2.2.2.1 hx.2.2.2.2.2.1.1 hP q0 hq0 rfl 1 (by decide) (hx.2.2.2.2.1 _ hw) (fun _ h => h) rfl d (kk p e s m args below meth c D κ hx H locs ls hP hD hS hl)
theorem z_pf_X4_point (hZ : ZZ = Zj l y cc nL ret R L0 post xp) {a ix : Nat} {v0 v1 v2 : Value} {x : Int32} (d : decode cc pc = .ok (.putfield ix, 3)) (hw : Cond.fieldLink y.cls ix "DragonRing$Scroll" "point" "I" ∈ wsG) (ha : a ∈ L) (hF : F a = eO 4 [v0, v1, v2]) (kk : ∀ F1 : Nat → PE, F1 a = eO 4 [v0, .int x, v2] → (∀ b : Nat, b ≠ a → F1 b = F b) → ZZ k n (pc + 3) lv st L F1) : ZZ k n pc lv (.int x :: .ref a :: st) L F := by
  subst hZ
  intro p e s m args below meth c D κ hx H locs ls hP hD hS hl
  obtain ⟨q0, hq0⟩ := pw_get (κ := κ) ha hF
  refine va_put (v := .int x) (ty := .int) hx.1 hx.2.1 (C := RX4) (T := TX4) (N := 3) (ci := 4) (ref := "DragonRing$Scroll") hx.2.2.2.2.1 inw4 tyX4 tyX4_ok nmX4 hx.2.2.2.1 hx.2.2.2.2.2.1.1 hP hD hS q0 hq0 rfl 1 (by decide) (hx.2.2.2.2.1 _ hw) (fun _ h => h) rfl (by decide +kernel) rfl rfl (Nat.le_of_ble_eq_true rfl) d (fun H1 locs1 hP1 hD1 hS1 => ?_)
  refine kk (va_up F a (eO 4 [v0, .int x, v2])) (va_up_self _ _ _) (fun b hb => va_up_ne _ _ hb) p e s m args below meth c D κ hx H1 locs1 ls ?_ ?_ hS1 hl
  · rw [← pw_set (e := eO 4 [v0, .int x, v2]) hD ha hF hq0]; exact hP1
  · rw [← pw_set (e := eO 4 [v0, .int x, v2]) hD ha hF hq0]; exact hD1
theorem z_gf_X4_mark (hZ : ZZ = Zj l y cc nL ret R L0 post xp) {a ix : Nat} {v0 v1 v2 : Value} (d : decode cc pc = .ok (.getfield ix, 3)) (hw : Cond.fieldLink y.cls ix "DragonRing$Scroll" "mark" "I" ∈ wsG) (ha : a ∈ L) (hF : F a = eO 4 [v0, v1, v2]) (kk : ZZ k n (pc + 3) lv (v2 :: st) L F) : ZZ k n pc lv (.ref a :: st) L F := by
  subst hZ
  intro p e s m args below meth c D κ hx H locs ls hP hD hS hl
  obtain ⟨q0, hq0⟩ := pw_get (κ := κ) ha hF
  exact va_get hx.1 hx.2.1 (C := RX4) (T := TX4) (N := 3) (ci := 4) (ref := "DragonRing$Scroll") hx.2.2.2.2.1 inw4 hx.2.2.2.1 hx.2.2.2.2.2.1.1 hP q0 hq0 rfl 2 (by decide) (hx.2.2.2.2.1 _ hw) (fun _ h => h) rfl d (kk p e s m args below meth c D κ hx H locs ls hP hD hS hl)
theorem z_pf_X4_mark (hZ : ZZ = Zj l y cc nL ret R L0 post xp) {a ix : Nat} {v0 v1 v2 : Value} {x : Int32} (d : decode cc pc = .ok (.putfield ix, 3)) (hw : Cond.fieldLink y.cls ix "DragonRing$Scroll" "mark" "I" ∈ wsG) (ha : a ∈ L) (hF : F a = eO 4 [v0, v1, v2]) (kk : ∀ F1 : Nat → PE, F1 a = eO 4 [v0, v1, .int x] → (∀ b : Nat, b ≠ a → F1 b = F b) → ZZ k n (pc + 3) lv st L F1) : ZZ k n pc lv (.int x :: .ref a :: st) L F := by
  subst hZ
  intro p e s m args below meth c D κ hx H locs ls hP hD hS hl
  obtain ⟨q0, hq0⟩ := pw_get (κ := κ) ha hF
  refine va_put (v := .int x) (ty := .int) hx.1 hx.2.1 (C := RX4) (T := TX4) (N := 3) (ci := 4) (ref := "DragonRing$Scroll") hx.2.2.2.2.1 inw4 tyX4 tyX4_ok nmX4 hx.2.2.2.1 hx.2.2.2.2.2.1.1 hP hD hS q0 hq0 rfl 2 (by decide) (hx.2.2.2.2.1 _ hw) (fun _ h => h) rfl (by decide +kernel) rfl rfl (Nat.le_of_ble_eq_true rfl) d (fun H1 locs1 hP1 hD1 hS1 => ?_)
  refine kk (va_up F a (eO 4 [v0, v1, .int x])) (va_up_self _ _ _) (fun b hb => va_up_ne _ _ hb) p e s m args below meth c D κ hx H1 locs1 ls ?_ ?_ hS1 hl
  · rw [← pw_set (e := eO 4 [v0, v1, .int x]) hD ha hF hq0]; exact hP1
  · rw [← pw_set (e := eO 4 [v0, v1, .int x]) hD ha hF hq0]; exact hD1
theorem z_gf_X5_scroll (hZ : ZZ = Zj l y cc nL ret R L0 post xp) {a ix : Nat} {v0 v1 v2 v3 : Value} (d : decode cc pc = .ok (.getfield ix, 3)) (hw : Cond.fieldLink y.cls ix "DragonRing$State" "scroll" "LDragonRing$Scroll;" ∈ wsG) (ha : a ∈ L) (hF : F a = eO 5 [v0, v1, v2, v3]) (kk : ZZ k n (pc + 3) lv (v0 :: st) L F) : ZZ k n pc lv (.ref a :: st) L F := by
  subst hZ
  intro p e s m args below meth c D κ hx H locs ls hP hD hS hl
  obtain ⟨q0, hq0⟩ := pw_get (κ := κ) ha hF
  exact va_get hx.1 hx.2.1 (C := RX5) (T := TX5) (N := 4) (ci := 5) (ref := "DragonRing$State") hx.2.2.2.2.1 inw5 hx.2.2.2.1 hx.2.2.2.2.2.1.1 hP q0 hq0 rfl 0 (by decide) (hx.2.2.2.2.1 _ hw) (fun _ h => h) rfl d (kk p e s m args below meth c D κ hx H locs ls hP hD hS hl)
theorem z_pf_X5_scroll (hZ : ZZ = Zj l y cc nL ret R L0 post xp) {a ix : Nat} {v0 v1 v2 v3 : Value} {x : Nat} (d : decode cc pc = .ok (.putfield ix, 3)) (hw : Cond.fieldLink y.cls ix "DragonRing$State" "scroll" "LDragonRing$Scroll;" ∈ wsG) (hyc : y.cls = RX5) (hyn : y.name = "<init>") (ha : a ∈ L) (hF : F a = eO 5 [v0, v1, v2, v3]) (kk : ∀ F1 : Nat → PE, F1 a = eO 5 [.ref x, v1, v2, v3] → (∀ b : Nat, b ≠ a → F1 b = F b) → ZZ k n (pc + 3) lv st L F1) : ZZ k n pc lv (.ref x :: .ref a :: st) L F := by
  subst hZ
  intro p e s m args below meth c D κ hx H locs ls hP hD hS hl
  obtain ⟨q0, hq0⟩ := pw_get (κ := κ) ha hF
  refine va_putF (v := .ref x) (ty := .object "DragonRing$Scroll") hx.1 hx.2.1 (C := RX5) (T := TX5) (N := 4) (ci := 5) (ref := "DragonRing$State") hx.2.2.2.2.1 inw5 tyX5 tyX5_ok nmX5 hx.2.2.2.1 hx.2.2.2.2.2.1.1 hP hD hS q0 hq0 rfl 0 (by decide) (hx.2.2.2.2.1 _ hw) (fun _ h => h) rfl (hx.2.2.2.2.2.2.2.2.2.trans hyn) hyc.symm (by decide +kernel) rfl rfl (Nat.le_of_ble_eq_true rfl) d (fun H1 locs1 hP1 hD1 hS1 => ?_)
  refine kk (va_up F a (eO 5 [.ref x, v1, v2, v3])) (va_up_self _ _ _) (fun b hb => va_up_ne _ _ hb) p e s m args below meth c D κ hx H1 locs1 ls ?_ ?_ hS1 hl
  · rw [← pw_set (e := eO 5 [.ref x, v1, v2, v3]) hD ha hF hq0]; exact hP1
  · rw [← pw_set (e := eO 5 [.ref x, v1, v2, v3]) hD ha hF hq0]; exact hD1
theorem z_gf_X5_ring (hZ : ZZ = Zj l y cc nL ret R L0 post xp) {a ix : Nat} {v0 v1 v2 v3 : Value} (d : decode cc pc = .ok (.getfield ix, 3)) (hw : Cond.fieldLink y.cls ix "DragonRing$State" "ring" "LDragonRing$Ring;" ∈ wsG) (ha : a ∈ L) (hF : F a = eO 5 [v0, v1, v2, v3]) (kk : ZZ k n (pc + 3) lv (v1 :: st) L F) : ZZ k n pc lv (.ref a :: st) L F := by
  subst hZ
  intro p e s m args below meth c D κ hx H locs ls hP hD hS hl
  obtain ⟨q0, hq0⟩ := pw_get (κ := κ) ha hF
  exact va_get hx.1 hx.2.1 (C := RX5) (T := TX5) (N := 4) (ci := 5) (ref := "DragonRing$State") hx.2.2.2.2.1 inw5 hx.2.2.2.1 hx.2.2.2.2.2.1.1 hP q0 hq0 rfl 1 (by decide) (hx.2.2.2.2.1 _ hw) (fun _ h => h) rfl d (kk p e s m args below meth c D κ hx H locs ls hP hD hS hl)
theorem z_pf_X5_ring (hZ : ZZ = Zj l y cc nL ret R L0 post xp) {a ix : Nat} {v0 v1 v2 v3 : Value} {x : Nat} (d : decode cc pc = .ok (.putfield ix, 3)) (hw : Cond.fieldLink y.cls ix "DragonRing$State" "ring" "LDragonRing$Ring;" ∈ wsG) (hyc : y.cls = RX5) (hyn : y.name = "<init>") (ha : a ∈ L) (hF : F a = eO 5 [v0, v1, v2, v3]) (kk : ∀ F1 : Nat → PE, F1 a = eO 5 [v0, .ref x, v2, v3] → (∀ b : Nat, b ≠ a → F1 b = F b) → ZZ k n (pc + 3) lv st L F1) : ZZ k n pc lv (.ref x :: .ref a :: st) L F := by
  subst hZ
  intro p e s m args below meth c D κ hx H locs ls hP hD hS hl
  obtain ⟨q0, hq0⟩ := pw_get (κ := κ) ha hF
  refine va_putF (v := .ref x) (ty := .object "DragonRing$Ring") hx.1 hx.2.1 (C := RX5) (T := TX5) (N := 4) (ci := 5) (ref := "DragonRing$State") hx.2.2.2.2.1 inw5 tyX5 tyX5_ok nmX5 hx.2.2.2.1 hx.2.2.2.2.2.1.1 hP hD hS q0 hq0 rfl 1 (by decide) (hx.2.2.2.2.1 _ hw) (fun _ h => h) rfl (hx.2.2.2.2.2.2.2.2.2.trans hyn) hyc.symm (by decide +kernel) rfl rfl (Nat.le_of_ble_eq_true rfl) d (fun H1 locs1 hP1 hD1 hS1 => ?_)
  refine kk (va_up F a (eO 5 [v0, .ref x, v2, v3])) (va_up_self _ _ _) (fun b hb => va_up_ne _ _ hb) p e s m args below meth c D κ hx H1 locs1 ls ?_ ?_ hS1 hl
  · rw [← pw_set (e := eO 5 [v0, .ref x, v2, v3]) hD ha hF hq0]; exact hP1
  · rw [← pw_set (e := eO 5 [v0, .ref x, v2, v3]) hD ha hF hq0]; exact hD1
theorem z_gf_X5_accounts (hZ : ZZ = Zj l y cc nL ret R L0 post xp) {a ix : Nat} {v0 v1 v2 v3 : Value} (d : decode cc pc = .ok (.getfield ix, 3)) (hw : Cond.fieldLink y.cls ix "DragonRing$State" "accounts" "LDragonRing$Accounts;" ∈ wsG) (ha : a ∈ L) (hF : F a = eO 5 [v0, v1, v2, v3]) (kk : ZZ k n (pc + 3) lv (v2 :: st) L F) : ZZ k n pc lv (.ref a :: st) L F := by
  subst hZ
  intro p e s m args below meth c D κ hx H locs ls hP hD hS hl
  obtain ⟨q0, hq0⟩ := pw_get (κ := κ) ha hF
  exact va_get hx.1 hx.2.1 (C := RX5) (T := TX5) (N := 4) (ci := 5) (ref := "DragonRing$State") hx.2.2.2.2.1 inw5 hx.2.2.2.1 hx.2.2.2.2.2.1.1 hP q0 hq0 rfl 2 (by decide) (hx.2.2.2.2.1 _ hw) (fun _ h => h) rfl d (kk p e s m args below meth c D κ hx H locs ls hP hD hS hl)
theorem z_pf_X5_accounts (hZ : ZZ = Zj l y cc nL ret R L0 post xp) {a ix : Nat} {v0 v1 v2 v3 : Value} {x : Nat} (d : decode cc pc = .ok (.putfield ix, 3)) (hw : Cond.fieldLink y.cls ix "DragonRing$State" "accounts" "LDragonRing$Accounts;" ∈ wsG) (hyc : y.cls = RX5) (hyn : y.name = "<init>") (ha : a ∈ L) (hF : F a = eO 5 [v0, v1, v2, v3]) (kk : ∀ F1 : Nat → PE, F1 a = eO 5 [v0, v1, .ref x, v3] → (∀ b : Nat, b ≠ a → F1 b = F b) → ZZ k n (pc + 3) lv st L F1) : ZZ k n pc lv (.ref x :: .ref a :: st) L F := by
  subst hZ
  intro p e s m args below meth c D κ hx H locs ls hP hD hS hl
  obtain ⟨q0, hq0⟩ := pw_get (κ := κ) ha hF
  refine va_putF (v := .ref x) (ty := .object "DragonRing$Accounts") hx.1 hx.2.1 (C := RX5) (T := TX5) (N := 4) (ci := 5) (ref := "DragonRing$State") hx.2.2.2.2.1 inw5 tyX5 tyX5_ok nmX5 hx.2.2.2.1 hx.2.2.2.2.2.1.1 hP hD hS q0 hq0 rfl 2 (by decide) (hx.2.2.2.2.1 _ hw) (fun _ h => h) rfl (hx.2.2.2.2.2.2.2.2.2.trans hyn) hyc.symm (by decide +kernel) rfl rfl (Nat.le_of_ble_eq_true rfl) d (fun H1 locs1 hP1 hD1 hS1 => ?_)
  refine kk (va_up F a (eO 5 [v0, v1, .ref x, v3])) (va_up_self _ _ _) (fun b hb => va_up_ne _ _ hb) p e s m args below meth c D κ hx H1 locs1 ls ?_ ?_ hS1 hl
  · rw [← pw_set (e := eO 5 [v0, v1, .ref x, v3]) hD ha hF hq0]; exact hP1
  · rw [← pw_set (e := eO 5 [v0, v1, .ref x, v3]) hD ha hF hq0]; exact hD1
theorem z_gf_X5_kind (hZ : ZZ = Zj l y cc nL ret R L0 post xp) {a ix : Nat} {v0 v1 v2 v3 : Value} (d : decode cc pc = .ok (.getfield ix, 3)) (hw : Cond.fieldLink y.cls ix "DragonRing$State" "kind" "I" ∈ wsG) (ha : a ∈ L) (hF : F a = eO 5 [v0, v1, v2, v3]) (kk : ZZ k n (pc + 3) lv (v3 :: st) L F) : ZZ k n pc lv (.ref a :: st) L F := by
  subst hZ
  intro p e s m args below meth c D κ hx H locs ls hP hD hS hl
  obtain ⟨q0, hq0⟩ := pw_get (κ := κ) ha hF
  exact va_get hx.1 hx.2.1 (C := RX5) (T := TX5) (N := 4) (ci := 5) (ref := "DragonRing$State") hx.2.2.2.2.1 inw5 hx.2.2.2.1 hx.2.2.2.2.2.1.1 hP q0 hq0 rfl 3 (by decide) (hx.2.2.2.2.1 _ hw) (fun _ h => h) rfl d (kk p e s m args below meth c D κ hx H locs ls hP hD hS hl)
theorem z_pf_X5_kind (hZ : ZZ = Zj l y cc nL ret R L0 post xp) {a ix : Nat} {v0 v1 v2 v3 : Value} {x : Int32} (d : decode cc pc = .ok (.putfield ix, 3)) (hw : Cond.fieldLink y.cls ix "DragonRing$State" "kind" "I" ∈ wsG) (ha : a ∈ L) (hF : F a = eO 5 [v0, v1, v2, v3]) (kk : ∀ F1 : Nat → PE, F1 a = eO 5 [v0, v1, v2, .int x] → (∀ b : Nat, b ≠ a → F1 b = F b) → ZZ k n (pc + 3) lv st L F1) : ZZ k n pc lv (.int x :: .ref a :: st) L F := by
  subst hZ
  intro p e s m args below meth c D κ hx H locs ls hP hD hS hl
  obtain ⟨q0, hq0⟩ := pw_get (κ := κ) ha hF
  refine va_put (v := .int x) (ty := .int) hx.1 hx.2.1 (C := RX5) (T := TX5) (N := 4) (ci := 5) (ref := "DragonRing$State") hx.2.2.2.2.1 inw5 tyX5 tyX5_ok nmX5 hx.2.2.2.1 hx.2.2.2.2.2.1.1 hP hD hS q0 hq0 rfl 3 (by decide) (hx.2.2.2.2.1 _ hw) (fun _ h => h) rfl (by decide +kernel) rfl rfl (Nat.le_of_ble_eq_true rfl) d (fun H1 locs1 hP1 hD1 hS1 => ?_)
  refine kk (va_up F a (eO 5 [v0, v1, v2, .int x])) (va_up_self _ _ _) (fun b hb => va_up_ne _ _ hb) p e s m args below meth c D κ hx H1 locs1 ls ?_ ?_ hS1 hl
  · rw [← pw_set (e := eO 5 [v0, v1, v2, .int x]) hD ha hF hq0]; exact hP1
  · rw [← pw_set (e := eO 5 [v0, v1, v2, .int x]) hD ha hF hq0]; exact hD1
theorem z_gf_X6_codes (hZ : ZZ = Zj l y cc nL ret R L0 post xp) {a ix : Nat} {v0 v1 : Value} (d : decode cc pc = .ok (.getfield ix, 3)) (hw : Cond.fieldLink y.cls ix "DragonRing$Text" "codes" "[I" ∈ wsG) (ha : a ∈ L) (hF : F a = eO 6 [v0, v1]) (kk : ZZ k n (pc + 3) lv (v0 :: st) L F) : ZZ k n pc lv (.ref a :: st) L F := by
  subst hZ
  intro p e s m args below meth c D κ hx H locs ls hP hD hS hl
  obtain ⟨q0, hq0⟩ := pw_get (κ := κ) ha hF
  exact va_get hx.1 hx.2.1 (C := RX6) (T := TX6) (N := 2) (ci := 6) (ref := "DragonRing$Text") hx.2.2.2.2.1 inw6 hx.2.2.2.1 hx.2.2.2.2.2.1.1 hP q0 hq0 rfl 0 (by decide) (hx.2.2.2.2.1 _ hw) (fun _ h => h) rfl d (kk p e s m args below meth c D κ hx H locs ls hP hD hS hl)
theorem z_pf_X6_codes (hZ : ZZ = Zj l y cc nL ret R L0 post xp) {a ix : Nat} {v0 v1 : Value} {x : Nat} (d : decode cc pc = .ok (.putfield ix, 3)) (hw : Cond.fieldLink y.cls ix "DragonRing$Text" "codes" "[I" ∈ wsG) (hyc : y.cls = RX6) (hyn : y.name = "<init>") (ha : a ∈ L) (hF : F a = eO 6 [v0, v1]) (kk : ∀ F1 : Nat → PE, F1 a = eO 6 [.ref x, v1] → (∀ b : Nat, b ≠ a → F1 b = F b) → ZZ k n (pc + 3) lv st L F1) : ZZ k n pc lv (.ref x :: .ref a :: st) L F := by
  subst hZ
  intro p e s m args below meth c D κ hx H locs ls hP hD hS hl
  obtain ⟨q0, hq0⟩ := pw_get (κ := κ) ha hF
  refine va_putF (v := .ref x) (ty := .array .int) hx.1 hx.2.1 (C := RX6) (T := TX6) (N := 2) (ci := 6) (ref := "DragonRing$Text") hx.2.2.2.2.1 inw6 tyX6 tyX6_ok nmX6 hx.2.2.2.1 hx.2.2.2.2.2.1.1 hP hD hS q0 hq0 rfl 0 (by decide) (hx.2.2.2.2.1 _ hw) (fun _ h => h) rfl (hx.2.2.2.2.2.2.2.2.2.trans hyn) hyc.symm (by decide +kernel) rfl rfl (Nat.le_of_ble_eq_true rfl) d (fun H1 locs1 hP1 hD1 hS1 => ?_)
  refine kk (va_up F a (eO 6 [.ref x, v1])) (va_up_self _ _ _) (fun b hb => va_up_ne _ _ hb) p e s m args below meth c D κ hx H1 locs1 ls ?_ ?_ hS1 hl
  · rw [← pw_set (e := eO 6 [.ref x, v1]) hD ha hF hq0]; exact hP1
  · rw [← pw_set (e := eO 6 [.ref x, v1]) hD ha hF hq0]; exact hD1
theorem z_gf_X6_count (hZ : ZZ = Zj l y cc nL ret R L0 post xp) {a ix : Nat} {v0 v1 : Value} (d : decode cc pc = .ok (.getfield ix, 3)) (hw : Cond.fieldLink y.cls ix "DragonRing$Text" "count" "I" ∈ wsG) (ha : a ∈ L) (hF : F a = eO 6 [v0, v1]) (kk : ZZ k n (pc + 3) lv (v1 :: st) L F) : ZZ k n pc lv (.ref a :: st) L F := by
  subst hZ
  intro p e s m args below meth c D κ hx H locs ls hP hD hS hl
  obtain ⟨q0, hq0⟩ := pw_get (κ := κ) ha hF
  exact va_get hx.1 hx.2.1 (C := RX6) (T := TX6) (N := 2) (ci := 6) (ref := "DragonRing$Text") hx.2.2.2.2.1 inw6 hx.2.2.2.1 hx.2.2.2.2.2.1.1 hP q0 hq0 rfl 1 (by decide) (hx.2.2.2.2.1 _ hw) (fun _ h => h) rfl d (kk p e s m args below meth c D κ hx H locs ls hP hD hS hl)
theorem z_pf_X6_count (hZ : ZZ = Zj l y cc nL ret R L0 post xp) {a ix : Nat} {v0 v1 : Value} {x : Int32} (d : decode cc pc = .ok (.putfield ix, 3)) (hw : Cond.fieldLink y.cls ix "DragonRing$Text" "count" "I" ∈ wsG) (ha : a ∈ L) (hF : F a = eO 6 [v0, v1]) (kk : ∀ F1 : Nat → PE, F1 a = eO 6 [v0, .int x] → (∀ b : Nat, b ≠ a → F1 b = F b) → ZZ k n (pc + 3) lv st L F1) : ZZ k n pc lv (.int x :: .ref a :: st) L F := by
  subst hZ
  intro p e s m args below meth c D κ hx H locs ls hP hD hS hl
  obtain ⟨q0, hq0⟩ := pw_get (κ := κ) ha hF
  refine va_put (v := .int x) (ty := .int) hx.1 hx.2.1 (C := RX6) (T := TX6) (N := 2) (ci := 6) (ref := "DragonRing$Text") hx.2.2.2.2.1 inw6 tyX6 tyX6_ok nmX6 hx.2.2.2.1 hx.2.2.2.2.2.1.1 hP hD hS q0 hq0 rfl 1 (by decide) (hx.2.2.2.2.1 _ hw) (fun _ h => h) rfl (by decide +kernel) rfl rfl (Nat.le_of_ble_eq_true rfl) d (fun H1 locs1 hP1 hD1 hS1 => ?_)
  refine kk (va_up F a (eO 6 [v0, .int x])) (va_up_self _ _ _) (fun b hb => va_up_ne _ _ hb) p e s m args below meth c D κ hx H1 locs1 ls ?_ ?_ hS1 hl
  · rw [← pw_set (e := eO 6 [v0, .int x]) hD ha hF hq0]; exact hP1
  · rw [← pw_set (e := eO 6 [v0, .int x]) hD ha hF hq0]; exact hD1
theorem z_gf_X7_now (hZ : ZZ = Zj l y cc nL ret R L0 post xp) {a ix : Nat} {v0 v1 v2 v3 v4 : Value} (d : decode cc pc = .ok (.getfield ix, 3)) (hw : Cond.fieldLink y.cls ix "DragonRing" "now" "LDragonRing$State;" ∈ wsG) (ha : a ∈ L) (hF : F a = eO 7 [v0, v1, v2, v3, v4]) (kk : ZZ k n (pc + 3) lv (v0 :: st) L F) : ZZ k n pc lv (.ref a :: st) L F := by
  subst hZ
  intro p e s m args below meth c D κ hx H locs ls hP hD hS hl
  obtain ⟨q0, hq0⟩ := pw_get (κ := κ) ha hF
  exact va_get hx.1 hx.2.1 (C := RX7) (T := TX7) (N := 5) (ci := 7) (ref := "DragonRing") hx.2.2.2.2.1 inw7 hx.2.2.2.1 hx.2.2.2.2.2.1.1 hP q0 hq0 rfl 0 (by decide) (hx.2.2.2.2.1 _ hw) (fun _ h => h) rfl d (kk p e s m args below meth c D κ hx H locs ls hP hD hS hl)
theorem z_pf_X7_now (hZ : ZZ = Zj l y cc nL ret R L0 post xp) {a ix : Nat} {v0 v1 v2 v3 v4 : Value} {x : Nat} (d : decode cc pc = .ok (.putfield ix, 3)) (hw : Cond.fieldLink y.cls ix "DragonRing" "now" "LDragonRing$State;" ∈ wsG) (hyc : y.cls = RX7) (hyn : y.name = "<init>") (ha : a ∈ L) (hF : F a = eO 7 [v0, v1, v2, v3, v4]) (kk : ∀ F1 : Nat → PE, F1 a = eO 7 [.ref x, v1, v2, v3, v4] → (∀ b : Nat, b ≠ a → F1 b = F b) → ZZ k n (pc + 3) lv st L F1) : ZZ k n pc lv (.ref x :: .ref a :: st) L F := by
  subst hZ
  intro p e s m args below meth c D κ hx H locs ls hP hD hS hl
  obtain ⟨q0, hq0⟩ := pw_get (κ := κ) ha hF
  refine va_putF (v := .ref x) (ty := .object "DragonRing$State") hx.1 hx.2.1 (C := RX7) (T := TX7) (N := 5) (ci := 7) (ref := "DragonRing") hx.2.2.2.2.1 inw7 tyX7 tyX7_ok nmX7 hx.2.2.2.1 hx.2.2.2.2.2.1.1 hP hD hS q0 hq0 rfl 0 (by decide) (hx.2.2.2.2.1 _ hw) (fun _ h => h) rfl (hx.2.2.2.2.2.2.2.2.2.trans hyn) hyc.symm (by decide +kernel) rfl rfl (Nat.le_of_ble_eq_true rfl) d (fun H1 locs1 hP1 hD1 hS1 => ?_)
  refine kk (va_up F a (eO 7 [.ref x, v1, v2, v3, v4])) (va_up_self _ _ _) (fun b hb => va_up_ne _ _ hb) p e s m args below meth c D κ hx H1 locs1 ls ?_ ?_ hS1 hl
  · rw [← pw_set (e := eO 7 [.ref x, v1, v2, v3, v4]) hD ha hF hq0]; exact hP1
  · rw [← pw_set (e := eO 7 [.ref x, v1, v2, v3, v4]) hD ha hF hq0]; exact hD1
theorem z_gf_X7_history (hZ : ZZ = Zj l y cc nL ret R L0 post xp) {a ix : Nat} {v0 v1 v2 v3 v4 : Value} (d : decode cc pc = .ok (.getfield ix, 3)) (hw : Cond.fieldLink y.cls ix "DragonRing" "history" "LDragonRing$History;" ∈ wsG) (ha : a ∈ L) (hF : F a = eO 7 [v0, v1, v2, v3, v4]) (kk : ZZ k n (pc + 3) lv (v1 :: st) L F) : ZZ k n pc lv (.ref a :: st) L F := by
  subst hZ
  intro p e s m args below meth c D κ hx H locs ls hP hD hS hl
  obtain ⟨q0, hq0⟩ := pw_get (κ := κ) ha hF
  exact va_get hx.1 hx.2.1 (C := RX7) (T := TX7) (N := 5) (ci := 7) (ref := "DragonRing") hx.2.2.2.2.1 inw7 hx.2.2.2.1 hx.2.2.2.2.2.1.1 hP q0 hq0 rfl 1 (by decide) (hx.2.2.2.2.1 _ hw) (fun _ h => h) rfl d (kk p e s m args below meth c D κ hx H locs ls hP hD hS hl)
theorem z_pf_X7_history (hZ : ZZ = Zj l y cc nL ret R L0 post xp) {a ix : Nat} {v0 v1 v2 v3 v4 : Value} {x : Nat} (d : decode cc pc = .ok (.putfield ix, 3)) (hw : Cond.fieldLink y.cls ix "DragonRing" "history" "LDragonRing$History;" ∈ wsG) (hyc : y.cls = RX7) (hyn : y.name = "<init>") (ha : a ∈ L) (hF : F a = eO 7 [v0, v1, v2, v3, v4]) (kk : ∀ F1 : Nat → PE, F1 a = eO 7 [v0, .ref x, v2, v3, v4] → (∀ b : Nat, b ≠ a → F1 b = F b) → ZZ k n (pc + 3) lv st L F1) : ZZ k n pc lv (.ref x :: .ref a :: st) L F := by
  subst hZ
  intro p e s m args below meth c D κ hx H locs ls hP hD hS hl
  obtain ⟨q0, hq0⟩ := pw_get (κ := κ) ha hF
  refine va_putF (v := .ref x) (ty := .object "DragonRing$History") hx.1 hx.2.1 (C := RX7) (T := TX7) (N := 5) (ci := 7) (ref := "DragonRing") hx.2.2.2.2.1 inw7 tyX7 tyX7_ok nmX7 hx.2.2.2.1 hx.2.2.2.2.2.1.1 hP hD hS q0 hq0 rfl 1 (by decide) (hx.2.2.2.2.1 _ hw) (fun _ h => h) rfl (hx.2.2.2.2.2.2.2.2.2.trans hyn) hyc.symm (by decide +kernel) rfl rfl (Nat.le_of_ble_eq_true rfl) d (fun H1 locs1 hP1 hD1 hS1 => ?_)
  refine kk (va_up F a (eO 7 [v0, .ref x, v2, v3, v4])) (va_up_self _ _ _) (fun b hb => va_up_ne _ _ hb) p e s m args below meth c D κ hx H1 locs1 ls ?_ ?_ hS1 hl
  · rw [← pw_set (e := eO 7 [v0, .ref x, v2, v3, v4]) hD ha hF hq0]; exact hP1
  · rw [← pw_set (e := eO 7 [v0, .ref x, v2, v3, v4]) hD ha hF hq0]; exact hD1
theorem z_gf_X7_slots (hZ : ZZ = Zj l y cc nL ret R L0 post xp) {a ix : Nat} {v0 v1 v2 v3 v4 : Value} (d : decode cc pc = .ok (.getfield ix, 3)) (hw : Cond.fieldLink y.cls ix "DragonRing" "slots" "[LDragonRing$State;" ∈ wsG) (ha : a ∈ L) (hF : F a = eO 7 [v0, v1, v2, v3, v4]) (kk : ZZ k n (pc + 3) lv (v2 :: st) L F) : ZZ k n pc lv (.ref a :: st) L F := by
  subst hZ
  intro p e s m args below meth c D κ hx H locs ls hP hD hS hl
  obtain ⟨q0, hq0⟩ := pw_get (κ := κ) ha hF
  exact va_get hx.1 hx.2.1 (C := RX7) (T := TX7) (N := 5) (ci := 7) (ref := "DragonRing") hx.2.2.2.2.1 inw7 hx.2.2.2.1 hx.2.2.2.2.2.1.1 hP q0 hq0 rfl 2 (by decide) (hx.2.2.2.2.1 _ hw) (fun _ h => h) rfl d (kk p e s m args below meth c D κ hx H locs ls hP hD hS hl)
theorem z_pf_X7_slots (hZ : ZZ = Zj l y cc nL ret R L0 post xp) {a ix : Nat} {v0 v1 v2 v3 v4 : Value} {x : Nat} (d : decode cc pc = .ok (.putfield ix, 3)) (hw : Cond.fieldLink y.cls ix "DragonRing" "slots" "[LDragonRing$State;" ∈ wsG) (hyc : y.cls = RX7) (hyn : y.name = "<init>") (ha : a ∈ L) (hF : F a = eO 7 [v0, v1, v2, v3, v4]) (kk : ∀ F1 : Nat → PE, F1 a = eO 7 [v0, v1, .ref x, v3, v4] → (∀ b : Nat, b ≠ a → F1 b = F b) → ZZ k n (pc + 3) lv st L F1) : ZZ k n pc lv (.ref x :: .ref a :: st) L F := by
  subst hZ
  intro p e s m args below meth c D κ hx H locs ls hP hD hS hl
  obtain ⟨q0, hq0⟩ := pw_get (κ := κ) ha hF
  refine va_putF (v := .ref x) (ty := .array (.object "DragonRing$State")) hx.1 hx.2.1 (C := RX7) (T := TX7) (N := 5) (ci := 7) (ref := "DragonRing") hx.2.2.2.2.1 inw7 tyX7 tyX7_ok nmX7 hx.2.2.2.1 hx.2.2.2.2.2.1.1 hP hD hS q0 hq0 rfl 2 (by decide) (hx.2.2.2.2.1 _ hw) (fun _ h => h) rfl (hx.2.2.2.2.2.2.2.2.2.trans hyn) hyc.symm (by decide +kernel) rfl rfl (Nat.le_of_ble_eq_true rfl) d (fun H1 locs1 hP1 hD1 hS1 => ?_)
  refine kk (va_up F a (eO 7 [v0, v1, .ref x, v3, v4])) (va_up_self _ _ _) (fun b hb => va_up_ne _ _ hb) p e s m args below meth c D κ hx H1 locs1 ls ?_ ?_ hS1 hl
  · rw [← pw_set (e := eO 7 [v0, v1, .ref x, v3, v4]) hD ha hF hq0]; exact hP1
  · rw [← pw_set (e := eO 7 [v0, v1, .ref x, v3, v4]) hD ha hF hq0]; exact hD1
theorem z_gf_X7_isKept (hZ : ZZ = Zj l y cc nL ret R L0 post xp) {a ix : Nat} {v0 v1 v2 v3 v4 : Value} (d : decode cc pc = .ok (.getfield ix, 3)) (hw : Cond.fieldLink y.cls ix "DragonRing" "isKept" "[Z" ∈ wsG) (ha : a ∈ L) (hF : F a = eO 7 [v0, v1, v2, v3, v4]) (kk : ZZ k n (pc + 3) lv (v3 :: st) L F) : ZZ k n pc lv (.ref a :: st) L F := by
  subst hZ
  intro p e s m args below meth c D κ hx H locs ls hP hD hS hl
  obtain ⟨q0, hq0⟩ := pw_get (κ := κ) ha hF
  exact va_get hx.1 hx.2.1 (C := RX7) (T := TX7) (N := 5) (ci := 7) (ref := "DragonRing") hx.2.2.2.2.1 inw7 hx.2.2.2.1 hx.2.2.2.2.2.1.1 hP q0 hq0 rfl 3 (by decide) (hx.2.2.2.2.1 _ hw) (fun _ h => h) rfl d (kk p e s m args below meth c D κ hx H locs ls hP hD hS hl)
theorem z_pf_X7_isKept (hZ : ZZ = Zj l y cc nL ret R L0 post xp) {a ix : Nat} {v0 v1 v2 v3 v4 : Value} {x : Nat} (d : decode cc pc = .ok (.putfield ix, 3)) (hw : Cond.fieldLink y.cls ix "DragonRing" "isKept" "[Z" ∈ wsG) (hyc : y.cls = RX7) (hyn : y.name = "<init>") (ha : a ∈ L) (hF : F a = eO 7 [v0, v1, v2, v3, v4]) (kk : ∀ F1 : Nat → PE, F1 a = eO 7 [v0, v1, v2, .ref x, v4] → (∀ b : Nat, b ≠ a → F1 b = F b) → ZZ k n (pc + 3) lv st L F1) : ZZ k n pc lv (.ref x :: .ref a :: st) L F := by
  subst hZ
  intro p e s m args below meth c D κ hx H locs ls hP hD hS hl
  obtain ⟨q0, hq0⟩ := pw_get (κ := κ) ha hF
  refine va_putF (v := .ref x) (ty := .array .boolean) hx.1 hx.2.1 (C := RX7) (T := TX7) (N := 5) (ci := 7) (ref := "DragonRing") hx.2.2.2.2.1 inw7 tyX7 tyX7_ok nmX7 hx.2.2.2.1 hx.2.2.2.2.2.1.1 hP hD hS q0 hq0 rfl 3 (by decide) (hx.2.2.2.2.1 _ hw) (fun _ h => h) rfl (hx.2.2.2.2.2.2.2.2.2.trans hyn) hyc.symm (by decide +kernel) rfl rfl (Nat.le_of_ble_eq_true rfl) d (fun H1 locs1 hP1 hD1 hS1 => ?_)
  refine kk (va_up F a (eO 7 [v0, v1, v2, .ref x, v4])) (va_up_self _ _ _) (fun b hb => va_up_ne _ _ hb) p e s m args below meth c D κ hx H1 locs1 ls ?_ ?_ hS1 hl
  · rw [← pw_set (e := eO 7 [v0, v1, v2, .ref x, v4]) hD ha hF hq0]; exact hP1
  · rw [← pw_set (e := eO 7 [v0, v1, v2, .ref x, v4]) hD ha hF hq0]; exact hD1
theorem z_gf_X7_buffer (hZ : ZZ = Zj l y cc nL ret R L0 post xp) {a ix : Nat} {v0 v1 v2 v3 v4 : Value} (d : decode cc pc = .ok (.getfield ix, 3)) (hw : Cond.fieldLink y.cls ix "DragonRing" "buffer" "LDragonRing$Text;" ∈ wsG) (ha : a ∈ L) (hF : F a = eO 7 [v0, v1, v2, v3, v4]) (kk : ZZ k n (pc + 3) lv (v4 :: st) L F) : ZZ k n pc lv (.ref a :: st) L F := by
  subst hZ
  intro p e s m args below meth c D κ hx H locs ls hP hD hS hl
  obtain ⟨q0, hq0⟩ := pw_get (κ := κ) ha hF
  exact va_get hx.1 hx.2.1 (C := RX7) (T := TX7) (N := 5) (ci := 7) (ref := "DragonRing") hx.2.2.2.2.1 inw7 hx.2.2.2.1 hx.2.2.2.2.2.1.1 hP q0 hq0 rfl 4 (by decide) (hx.2.2.2.2.1 _ hw) (fun _ h => h) rfl d (kk p e s m args below meth c D κ hx H locs ls hP hD hS hl)
theorem z_pf_X7_buffer (hZ : ZZ = Zj l y cc nL ret R L0 post xp) {a ix : Nat} {v0 v1 v2 v3 v4 : Value} {x : Nat} (d : decode cc pc = .ok (.putfield ix, 3)) (hw : Cond.fieldLink y.cls ix "DragonRing" "buffer" "LDragonRing$Text;" ∈ wsG) (hyc : y.cls = RX7) (hyn : y.name = "<init>") (ha : a ∈ L) (hF : F a = eO 7 [v0, v1, v2, v3, v4]) (kk : ∀ F1 : Nat → PE, F1 a = eO 7 [v0, v1, v2, v3, .ref x] → (∀ b : Nat, b ≠ a → F1 b = F b) → ZZ k n (pc + 3) lv st L F1) : ZZ k n pc lv (.ref x :: .ref a :: st) L F := by
  subst hZ
  intro p e s m args below meth c D κ hx H locs ls hP hD hS hl
  obtain ⟨q0, hq0⟩ := pw_get (κ := κ) ha hF
  refine va_putF (v := .ref x) (ty := .object "DragonRing$Text") hx.1 hx.2.1 (C := RX7) (T := TX7) (N := 5) (ci := 7) (ref := "DragonRing") hx.2.2.2.2.1 inw7 tyX7 tyX7_ok nmX7 hx.2.2.2.1 hx.2.2.2.2.2.1.1 hP hD hS q0 hq0 rfl 4 (by decide) (hx.2.2.2.2.1 _ hw) (fun _ h => h) rfl (hx.2.2.2.2.2.2.2.2.2.trans hyn) hyc.symm (by decide +kernel) rfl rfl (Nat.le_of_ble_eq_true rfl) d (fun H1 locs1 hP1 hD1 hS1 => ?_)
  refine kk (va_up F a (eO 7 [v0, v1, v2, v3, .ref x])) (va_up_self _ _ _) (fun b hb => va_up_ne _ _ hb) p e s m args below meth c D κ hx H1 locs1 ls ?_ ?_ hS1 hl
  · rw [← pw_set (e := eO 7 [v0, v1, v2, v3, .ref x]) hD ha hF hq0]; exact hP1
  · rw [← pw_set (e := eO 7 [v0, v1, v2, v3, .ref x]) hD ha hF hq0]; exact hD1
theorem z_gf_X8_s (hZ : ZZ = Zj l y cc nL ret R L0 post xp) {a ix : Nat} {v0 v1 v2 v3 v4 v5 v6 v7 v8 v9 : Value} (d : decode cc pc = .ok (.getfield ix, 3)) (hw : Cond.fieldLink y.cls ix "DragonRingModel" "s" "[I" ∈ wsG) (ha : a ∈ L) (hF : F a = eO 8 [v0, v1, v2, v3, v4, v5, v6, v7, v8, v9]) (kk : ZZ k n (pc + 3) lv (v0 :: st) L F) : ZZ k n pc lv (.ref a :: st) L F := by
  subst hZ
  intro p e s m args below meth c D κ hx H locs ls hP hD hS hl
  obtain ⟨q0, hq0⟩ := pw_get (κ := κ) ha hF
  exact va_get hx.1 hx.2.1 (C := RX8) (T := TX8) (N := 10) (ci := 8) (ref := "DragonRingModel") hx.2.2.2.2.1 inw8 hx.2.2.2.1 hx.2.2.2.2.2.1.1 hP q0 hq0 rfl 0 (by decide) (hx.2.2.2.2.1 _ hw) (fun _ h => h) rfl d (kk p e s m args below meth c D κ hx H locs ls hP hD hS hl)
theorem z_pf_X8_s (hZ : ZZ = Zj l y cc nL ret R L0 post xp) {a ix : Nat} {v0 v1 v2 v3 v4 v5 v6 v7 v8 v9 : Value} {x : Nat} (d : decode cc pc = .ok (.putfield ix, 3)) (hw : Cond.fieldLink y.cls ix "DragonRingModel" "s" "[I" ∈ wsG) (hyc : y.cls = RX8) (hyn : y.name = "<init>") (ha : a ∈ L) (hF : F a = eO 8 [v0, v1, v2, v3, v4, v5, v6, v7, v8, v9]) (kk : ∀ F1 : Nat → PE, F1 a = eO 8 [.ref x, v1, v2, v3, v4, v5, v6, v7, v8, v9] → (∀ b : Nat, b ≠ a → F1 b = F b) → ZZ k n (pc + 3) lv st L F1) : ZZ k n pc lv (.ref x :: .ref a :: st) L F := by
  subst hZ
  intro p e s m args below meth c D κ hx H locs ls hP hD hS hl
  obtain ⟨q0, hq0⟩ := pw_get (κ := κ) ha hF
  refine va_putF (v := .ref x) (ty := .array .int) hx.1 hx.2.1 (C := RX8) (T := TX8) (N := 10) (ci := 8) (ref := "DragonRingModel") hx.2.2.2.2.1 inw8 tyX8 tyX8_ok nmX8 hx.2.2.2.1 hx.2.2.2.2.2.1.1 hP hD hS q0 hq0 rfl 0 (by decide) (hx.2.2.2.2.1 _ hw) (fun _ h => h) rfl (hx.2.2.2.2.2.2.2.2.2.trans hyn) hyc.symm (by decide +kernel) rfl rfl (Nat.le_of_ble_eq_true rfl) d (fun H1 locs1 hP1 hD1 hS1 => ?_)
  refine kk (va_up F a (eO 8 [.ref x, v1, v2, v3, v4, v5, v6, v7, v8, v9])) (va_up_self _ _ _) (fun b hb => va_up_ne _ _ hb) p e s m args below meth c D κ hx H1 locs1 ls ?_ ?_ hS1 hl
  · rw [← pw_set (e := eO 8 [.ref x, v1, v2, v3, v4, v5, v6, v7, v8, v9]) hD ha hF hq0]; exact hP1
  · rw [← pw_set (e := eO 8 [.ref x, v1, v2, v3, v4, v5, v6, v7, v8, v9]) hD ha hF hq0]; exact hD1
theorem z_gf_X8_states (hZ : ZZ = Zj l y cc nL ret R L0 post xp) {a ix : Nat} {v0 v1 v2 v3 v4 v5 v6 v7 v8 v9 : Value} (d : decode cc pc = .ok (.getfield ix, 3)) (hw : Cond.fieldLink y.cls ix "DragonRingModel" "states" "I" ∈ wsG) (ha : a ∈ L) (hF : F a = eO 8 [v0, v1, v2, v3, v4, v5, v6, v7, v8, v9]) (kk : ZZ k n (pc + 3) lv (v1 :: st) L F) : ZZ k n pc lv (.ref a :: st) L F := by
  subst hZ
  intro p e s m args below meth c D κ hx H locs ls hP hD hS hl
  obtain ⟨q0, hq0⟩ := pw_get (κ := κ) ha hF
  exact va_get hx.1 hx.2.1 (C := RX8) (T := TX8) (N := 10) (ci := 8) (ref := "DragonRingModel") hx.2.2.2.2.1 inw8 hx.2.2.2.1 hx.2.2.2.2.2.1.1 hP q0 hq0 rfl 1 (by decide) (hx.2.2.2.2.1 _ hw) (fun _ h => h) rfl d (kk p e s m args below meth c D κ hx H locs ls hP hD hS hl)
theorem z_pf_X8_states (hZ : ZZ = Zj l y cc nL ret R L0 post xp) {a ix : Nat} {v0 v1 v2 v3 v4 v5 v6 v7 v8 v9 : Value} {x : Int32} (d : decode cc pc = .ok (.putfield ix, 3)) (hw : Cond.fieldLink y.cls ix "DragonRingModel" "states" "I" ∈ wsG) (ha : a ∈ L) (hF : F a = eO 8 [v0, v1, v2, v3, v4, v5, v6, v7, v8, v9]) (kk : ∀ F1 : Nat → PE, F1 a = eO 8 [v0, .int x, v2, v3, v4, v5, v6, v7, v8, v9] → (∀ b : Nat, b ≠ a → F1 b = F b) → ZZ k n (pc + 3) lv st L F1) : ZZ k n pc lv (.int x :: .ref a :: st) L F := by
  subst hZ
  intro p e s m args below meth c D κ hx H locs ls hP hD hS hl
  obtain ⟨q0, hq0⟩ := pw_get (κ := κ) ha hF
  refine va_put (v := .int x) (ty := .int) hx.1 hx.2.1 (C := RX8) (T := TX8) (N := 10) (ci := 8) (ref := "DragonRingModel") hx.2.2.2.2.1 inw8 tyX8 tyX8_ok nmX8 hx.2.2.2.1 hx.2.2.2.2.2.1.1 hP hD hS q0 hq0 rfl 1 (by decide) (hx.2.2.2.2.1 _ hw) (fun _ h => h) rfl (by decide +kernel) rfl rfl (Nat.le_of_ble_eq_true rfl) d (fun H1 locs1 hP1 hD1 hS1 => ?_)
  refine kk (va_up F a (eO 8 [v0, .int x, v2, v3, v4, v5, v6, v7, v8, v9])) (va_up_self _ _ _) (fun b hb => va_up_ne _ _ hb) p e s m args below meth c D κ hx H1 locs1 ls ?_ ?_ hS1 hl
  · rw [← pw_set (e := eO 8 [v0, .int x, v2, v3, v4, v5, v6, v7, v8, v9]) hD ha hF hq0]; exact hP1
  · rw [← pw_set (e := eO 8 [v0, .int x, v2, v3, v4, v5, v6, v7, v8, v9]) hD ha hF hq0]; exact hD1
theorem z_gf_X8_isKept (hZ : ZZ = Zj l y cc nL ret R L0 post xp) {a ix : Nat} {v0 v1 v2 v3 v4 v5 v6 v7 v8 v9 : Value} (d : decode cc pc = .ok (.getfield ix, 3)) (hw : Cond.fieldLink y.cls ix "DragonRingModel" "isKept" "[Z" ∈ wsG) (ha : a ∈ L) (hF : F a = eO 8 [v0, v1, v2, v3, v4, v5, v6, v7, v8, v9]) (kk : ZZ k n (pc + 3) lv (v2 :: st) L F) : ZZ k n pc lv (.ref a :: st) L F := by
  subst hZ
  intro p e s m args below meth c D κ hx H locs ls hP hD hS hl
  obtain ⟨q0, hq0⟩ := pw_get (κ := κ) ha hF
  exact va_get hx.1 hx.2.1 (C := RX8) (T := TX8) (N := 10) (ci := 8) (ref := "DragonRingModel") hx.2.2.2.2.1 inw8 hx.2.2.2.1 hx.2.2.2.2.2.1.1 hP q0 hq0 rfl 2 (by decide) (hx.2.2.2.2.1 _ hw) (fun _ h => h) rfl d (kk p e s m args below meth c D κ hx H locs ls hP hD hS hl)
theorem z_pf_X8_isKept (hZ : ZZ = Zj l y cc nL ret R L0 post xp) {a ix : Nat} {v0 v1 v2 v3 v4 v5 v6 v7 v8 v9 : Value} {x : Nat} (d : decode cc pc = .ok (.putfield ix, 3)) (hw : Cond.fieldLink y.cls ix "DragonRingModel" "isKept" "[Z" ∈ wsG) (hyc : y.cls = RX8) (hyn : y.name = "<init>") (ha : a ∈ L) (hF : F a = eO 8 [v0, v1, v2, v3, v4, v5, v6, v7, v8, v9]) (kk : ∀ F1 : Nat → PE, F1 a = eO 8 [v0, v1, .ref x, v3, v4, v5, v6, v7, v8, v9] → (∀ b : Nat, b ≠ a → F1 b = F b) → ZZ k n (pc + 3) lv st L F1) : ZZ k n pc lv (.ref x :: .ref a :: st) L F := by
  subst hZ
  intro p e s m args below meth c D κ hx H locs ls hP hD hS hl
  obtain ⟨q0, hq0⟩ := pw_get (κ := κ) ha hF
  refine va_putF (v := .ref x) (ty := .array .boolean) hx.1 hx.2.1 (C := RX8) (T := TX8) (N := 10) (ci := 8) (ref := "DragonRingModel") hx.2.2.2.2.1 inw8 tyX8 tyX8_ok nmX8 hx.2.2.2.1 hx.2.2.2.2.2.1.1 hP hD hS q0 hq0 rfl 2 (by decide) (hx.2.2.2.2.1 _ hw) (fun _ h => h) rfl (hx.2.2.2.2.2.2.2.2.2.trans hyn) hyc.symm (by decide +kernel) rfl rfl (Nat.le_of_ble_eq_true rfl) d (fun H1 locs1 hP1 hD1 hS1 => ?_)
  refine kk (va_up F a (eO 8 [v0, v1, .ref x, v3, v4, v5, v6, v7, v8, v9])) (va_up_self _ _ _) (fun b hb => va_up_ne _ _ hb) p e s m args below meth c D κ hx H1 locs1 ls ?_ ?_ hS1 hl
  · rw [← pw_set (e := eO 8 [v0, v1, .ref x, v3, v4, v5, v6, v7, v8, v9]) hD ha hF hq0]; exact hP1
  · rw [← pw_set (e := eO 8 [v0, v1, .ref x, v3, v4, v5, v6, v7, v8, v9]) hD ha hF hq0]; exact hD1
theorem z_gf_X8_thrown (hZ : ZZ = Zj l y cc nL ret R L0 post xp) {a ix : Nat} {v0 v1 v2 v3 v4 v5 v6 v7 v8 v9 : Value} (d : decode cc pc = .ok (.getfield ix, 3)) (hw : Cond.fieldLink y.cls ix "DragonRingModel" "thrown" "I" ∈ wsG) (ha : a ∈ L) (hF : F a = eO 8 [v0, v1, v2, v3, v4, v5, v6, v7, v8, v9]) (kk : ZZ k n (pc + 3) lv (v3 :: st) L F) : ZZ k n pc lv (.ref a :: st) L F := by
  subst hZ
  intro p e s m args below meth c D κ hx H locs ls hP hD hS hl
  obtain ⟨q0, hq0⟩ := pw_get (κ := κ) ha hF
  exact va_get hx.1 hx.2.1 (C := RX8) (T := TX8) (N := 10) (ci := 8) (ref := "DragonRingModel") hx.2.2.2.2.1 inw8 hx.2.2.2.1 hx.2.2.2.2.2.1.1 hP q0 hq0 rfl 3 (by decide) (hx.2.2.2.2.1 _ hw) (fun _ h => h) rfl d (kk p e s m args below meth c D κ hx H locs ls hP hD hS hl)
theorem z_pf_X8_thrown (hZ : ZZ = Zj l y cc nL ret R L0 post xp) {a ix : Nat} {v0 v1 v2 v3 v4 v5 v6 v7 v8 v9 : Value} {x : Int32} (d : decode cc pc = .ok (.putfield ix, 3)) (hw : Cond.fieldLink y.cls ix "DragonRingModel" "thrown" "I" ∈ wsG) (ha : a ∈ L) (hF : F a = eO 8 [v0, v1, v2, v3, v4, v5, v6, v7, v8, v9]) (kk : ∀ F1 : Nat → PE, F1 a = eO 8 [v0, v1, v2, .int x, v4, v5, v6, v7, v8, v9] → (∀ b : Nat, b ≠ a → F1 b = F b) → ZZ k n (pc + 3) lv st L F1) : ZZ k n pc lv (.int x :: .ref a :: st) L F := by
  subst hZ
  intro p e s m args below meth c D κ hx H locs ls hP hD hS hl
  obtain ⟨q0, hq0⟩ := pw_get (κ := κ) ha hF
  refine va_put (v := .int x) (ty := .int) hx.1 hx.2.1 (C := RX8) (T := TX8) (N := 10) (ci := 8) (ref := "DragonRingModel") hx.2.2.2.2.1 inw8 tyX8 tyX8_ok nmX8 hx.2.2.2.1 hx.2.2.2.2.2.1.1 hP hD hS q0 hq0 rfl 3 (by decide) (hx.2.2.2.2.1 _ hw) (fun _ h => h) rfl (by decide +kernel) rfl rfl (Nat.le_of_ble_eq_true rfl) d (fun H1 locs1 hP1 hD1 hS1 => ?_)
  refine kk (va_up F a (eO 8 [v0, v1, v2, .int x, v4, v5, v6, v7, v8, v9])) (va_up_self _ _ _) (fun b hb => va_up_ne _ _ hb) p e s m args below meth c D κ hx H1 locs1 ls ?_ ?_ hS1 hl
  · rw [← pw_set (e := eO 8 [v0, v1, v2, .int x, v4, v5, v6, v7, v8, v9]) hD ha hF hq0]; exact hP1
  · rw [← pw_set (e := eO 8 [v0, v1, v2, .int x, v4, v5, v6, v7, v8, v9]) hD ha hF hq0]; exact hD1
theorem z_gf_X8_kind (hZ : ZZ = Zj l y cc nL ret R L0 post xp) {a ix : Nat} {v0 v1 v2 v3 v4 v5 v6 v7 v8 v9 : Value} (d : decode cc pc = .ok (.getfield ix, 3)) (hw : Cond.fieldLink y.cls ix "DragonRingModel" "kind" "I" ∈ wsG) (ha : a ∈ L) (hF : F a = eO 8 [v0, v1, v2, v3, v4, v5, v6, v7, v8, v9]) (kk : ZZ k n (pc + 3) lv (v4 :: st) L F) : ZZ k n pc lv (.ref a :: st) L F := by
  subst hZ
  intro p e s m args below meth c D κ hx H locs ls hP hD hS hl
  obtain ⟨q0, hq0⟩ := pw_get (κ := κ) ha hF
  exact va_get hx.1 hx.2.1 (C := RX8) (T := TX8) (N := 10) (ci := 8) (ref := "DragonRingModel") hx.2.2.2.2.1 inw8 hx.2.2.2.1 hx.2.2.2.2.2.1.1 hP q0 hq0 rfl 4 (by decide) (hx.2.2.2.2.1 _ hw) (fun _ h => h) rfl d (kk p e s m args below meth c D κ hx H locs ls hP hD hS hl)
theorem z_pf_X8_kind (hZ : ZZ = Zj l y cc nL ret R L0 post xp) {a ix : Nat} {v0 v1 v2 v3 v4 v5 v6 v7 v8 v9 : Value} {x : Int32} (d : decode cc pc = .ok (.putfield ix, 3)) (hw : Cond.fieldLink y.cls ix "DragonRingModel" "kind" "I" ∈ wsG) (ha : a ∈ L) (hF : F a = eO 8 [v0, v1, v2, v3, v4, v5, v6, v7, v8, v9]) (kk : ∀ F1 : Nat → PE, F1 a = eO 8 [v0, v1, v2, v3, .int x, v5, v6, v7, v8, v9] → (∀ b : Nat, b ≠ a → F1 b = F b) → ZZ k n (pc + 3) lv st L F1) : ZZ k n pc lv (.int x :: .ref a :: st) L F := by
  subst hZ
  intro p e s m args below meth c D κ hx H locs ls hP hD hS hl
  obtain ⟨q0, hq0⟩ := pw_get (κ := κ) ha hF
  refine va_put (v := .int x) (ty := .int) hx.1 hx.2.1 (C := RX8) (T := TX8) (N := 10) (ci := 8) (ref := "DragonRingModel") hx.2.2.2.2.1 inw8 tyX8 tyX8_ok nmX8 hx.2.2.2.1 hx.2.2.2.2.2.1.1 hP hD hS q0 hq0 rfl 4 (by decide) (hx.2.2.2.2.1 _ hw) (fun _ h => h) rfl (by decide +kernel) rfl rfl (Nat.le_of_ble_eq_true rfl) d (fun H1 locs1 hP1 hD1 hS1 => ?_)
  refine kk (va_up F a (eO 8 [v0, v1, v2, v3, .int x, v5, v6, v7, v8, v9])) (va_up_self _ _ _) (fun b hb => va_up_ne _ _ hb) p e s m args below meth c D κ hx H1 locs1 ls ?_ ?_ hS1 hl
  · rw [← pw_set (e := eO 8 [v0, v1, v2, v3, .int x, v5, v6, v7, v8, v9]) hD ha hF hq0]; exact hP1
  · rw [← pw_set (e := eO 8 [v0, v1, v2, v3, .int x, v5, v6, v7, v8, v9]) hD ha hF hq0]; exact hD1
theorem z_gf_X8_text (hZ : ZZ = Zj l y cc nL ret R L0 post xp) {a ix : Nat} {v0 v1 v2 v3 v4 v5 v6 v7 v8 v9 : Value} (d : decode cc pc = .ok (.getfield ix, 3)) (hw : Cond.fieldLink y.cls ix "DragonRingModel" "text" "[C" ∈ wsG) (ha : a ∈ L) (hF : F a = eO 8 [v0, v1, v2, v3, v4, v5, v6, v7, v8, v9]) (kk : ZZ k n (pc + 3) lv (v5 :: st) L F) : ZZ k n pc lv (.ref a :: st) L F := by
  subst hZ
  intro p e s m args below meth c D κ hx H locs ls hP hD hS hl
  obtain ⟨q0, hq0⟩ := pw_get (κ := κ) ha hF
  exact va_get hx.1 hx.2.1 (C := RX8) (T := TX8) (N := 10) (ci := 8) (ref := "DragonRingModel") hx.2.2.2.2.1 inw8 hx.2.2.2.1 hx.2.2.2.2.2.1.1 hP q0 hq0 rfl 5 (by decide) (hx.2.2.2.2.1 _ hw) (fun _ h => h) rfl d (kk p e s m args below meth c D κ hx H locs ls hP hD hS hl)
theorem z_pf_X8_text (hZ : ZZ = Zj l y cc nL ret R L0 post xp) {a ix : Nat} {v0 v1 v2 v3 v4 v5 v6 v7 v8 v9 : Value} {x : Nat} (d : decode cc pc = .ok (.putfield ix, 3)) (hw : Cond.fieldLink y.cls ix "DragonRingModel" "text" "[C" ∈ wsG) (hyc : y.cls = RX8) (hyn : y.name = "<init>") (ha : a ∈ L) (hF : F a = eO 8 [v0, v1, v2, v3, v4, v5, v6, v7, v8, v9]) (kk : ∀ F1 : Nat → PE, F1 a = eO 8 [v0, v1, v2, v3, v4, .ref x, v6, v7, v8, v9] → (∀ b : Nat, b ≠ a → F1 b = F b) → ZZ k n (pc + 3) lv st L F1) : ZZ k n pc lv (.ref x :: .ref a :: st) L F := by
  subst hZ
  intro p e s m args below meth c D κ hx H locs ls hP hD hS hl
  obtain ⟨q0, hq0⟩ := pw_get (κ := κ) ha hF
  refine va_putF (v := .ref x) (ty := .array .char) hx.1 hx.2.1 (C := RX8) (T := TX8) (N := 10) (ci := 8) (ref := "DragonRingModel") hx.2.2.2.2.1 inw8 tyX8 tyX8_ok nmX8 hx.2.2.2.1 hx.2.2.2.2.2.1.1 hP hD hS q0 hq0 rfl 5 (by decide) (hx.2.2.2.2.1 _ hw) (fun _ h => h) rfl (hx.2.2.2.2.2.2.2.2.2.trans hyn) hyc.symm (by decide +kernel) rfl rfl (Nat.le_of_ble_eq_true rfl) d (fun H1 locs1 hP1 hD1 hS1 => ?_)
  refine kk (va_up F a (eO 8 [v0, v1, v2, v3, v4, .ref x, v6, v7, v8, v9])) (va_up_self _ _ _) (fun b hb => va_up_ne _ _ hb) p e s m args below meth c D κ hx H1 locs1 ls ?_ ?_ hS1 hl
  · rw [← pw_set (e := eO 8 [v0, v1, v2, v3, v4, .ref x, v6, v7, v8, v9]) hD ha hF hq0]; exact hP1
  · rw [← pw_set (e := eO 8 [v0, v1, v2, v3, v4, .ref x, v6, v7, v8, v9]) hD ha hF hq0]; exact hD1
theorem z_gf_X8_typed (hZ : ZZ = Zj l y cc nL ret R L0 post xp) {a ix : Nat} {v0 v1 v2 v3 v4 v5 v6 v7 v8 v9 : Value} (d : decode cc pc = .ok (.getfield ix, 3)) (hw : Cond.fieldLink y.cls ix "DragonRingModel" "typed" "I" ∈ wsG) (ha : a ∈ L) (hF : F a = eO 8 [v0, v1, v2, v3, v4, v5, v6, v7, v8, v9]) (kk : ZZ k n (pc + 3) lv (v6 :: st) L F) : ZZ k n pc lv (.ref a :: st) L F := by
  subst hZ
  intro p e s m args below meth c D κ hx H locs ls hP hD hS hl
  obtain ⟨q0, hq0⟩ := pw_get (κ := κ) ha hF
  exact va_get hx.1 hx.2.1 (C := RX8) (T := TX8) (N := 10) (ci := 8) (ref := "DragonRingModel") hx.2.2.2.2.1 inw8 hx.2.2.2.1 hx.2.2.2.2.2.1.1 hP q0 hq0 rfl 6 (by decide) (hx.2.2.2.2.1 _ hw) (fun _ h => h) rfl d (kk p e s m args below meth c D κ hx H locs ls hP hD hS hl)
theorem z_pf_X8_typed (hZ : ZZ = Zj l y cc nL ret R L0 post xp) {a ix : Nat} {v0 v1 v2 v3 v4 v5 v6 v7 v8 v9 : Value} {x : Int32} (d : decode cc pc = .ok (.putfield ix, 3)) (hw : Cond.fieldLink y.cls ix "DragonRingModel" "typed" "I" ∈ wsG) (ha : a ∈ L) (hF : F a = eO 8 [v0, v1, v2, v3, v4, v5, v6, v7, v8, v9]) (kk : ∀ F1 : Nat → PE, F1 a = eO 8 [v0, v1, v2, v3, v4, v5, .int x, v7, v8, v9] → (∀ b : Nat, b ≠ a → F1 b = F b) → ZZ k n (pc + 3) lv st L F1) : ZZ k n pc lv (.int x :: .ref a :: st) L F := by
  subst hZ
  intro p e s m args below meth c D κ hx H locs ls hP hD hS hl
  obtain ⟨q0, hq0⟩ := pw_get (κ := κ) ha hF
  refine va_put (v := .int x) (ty := .int) hx.1 hx.2.1 (C := RX8) (T := TX8) (N := 10) (ci := 8) (ref := "DragonRingModel") hx.2.2.2.2.1 inw8 tyX8 tyX8_ok nmX8 hx.2.2.2.1 hx.2.2.2.2.2.1.1 hP hD hS q0 hq0 rfl 6 (by decide) (hx.2.2.2.2.1 _ hw) (fun _ h => h) rfl (by decide +kernel) rfl rfl (Nat.le_of_ble_eq_true rfl) d (fun H1 locs1 hP1 hD1 hS1 => ?_)
  refine kk (va_up F a (eO 8 [v0, v1, v2, v3, v4, v5, .int x, v7, v8, v9])) (va_up_self _ _ _) (fun b hb => va_up_ne _ _ hb) p e s m args below meth c D κ hx H1 locs1 ls ?_ ?_ hS1 hl
  · rw [← pw_set (e := eO 8 [v0, v1, v2, v3, v4, v5, .int x, v7, v8, v9]) hD ha hF hq0]; exact hP1
  · rw [← pw_set (e := eO 8 [v0, v1, v2, v3, v4, v5, .int x, v7, v8, v9]) hD ha hF hq0]; exact hD1
theorem z_gf_X8_at (hZ : ZZ = Zj l y cc nL ret R L0 post xp) {a ix : Nat} {v0 v1 v2 v3 v4 v5 v6 v7 v8 v9 : Value} (d : decode cc pc = .ok (.getfield ix, 3)) (hw : Cond.fieldLink y.cls ix "DragonRingModel" "at" "I" ∈ wsG) (ha : a ∈ L) (hF : F a = eO 8 [v0, v1, v2, v3, v4, v5, v6, v7, v8, v9]) (kk : ZZ k n (pc + 3) lv (v7 :: st) L F) : ZZ k n pc lv (.ref a :: st) L F := by
  subst hZ
  intro p e s m args below meth c D κ hx H locs ls hP hD hS hl
  obtain ⟨q0, hq0⟩ := pw_get (κ := κ) ha hF
  exact va_get hx.1 hx.2.1 (C := RX8) (T := TX8) (N := 10) (ci := 8) (ref := "DragonRingModel") hx.2.2.2.2.1 inw8 hx.2.2.2.1 hx.2.2.2.2.2.1.1 hP q0 hq0 rfl 7 (by decide) (hx.2.2.2.2.1 _ hw) (fun _ h => h) rfl d (kk p e s m args below meth c D κ hx H locs ls hP hD hS hl)
theorem z_pf_X8_at (hZ : ZZ = Zj l y cc nL ret R L0 post xp) {a ix : Nat} {v0 v1 v2 v3 v4 v5 v6 v7 v8 v9 : Value} {x : Int32} (d : decode cc pc = .ok (.putfield ix, 3)) (hw : Cond.fieldLink y.cls ix "DragonRingModel" "at" "I" ∈ wsG) (ha : a ∈ L) (hF : F a = eO 8 [v0, v1, v2, v3, v4, v5, v6, v7, v8, v9]) (kk : ∀ F1 : Nat → PE, F1 a = eO 8 [v0, v1, v2, v3, v4, v5, v6, .int x, v8, v9] → (∀ b : Nat, b ≠ a → F1 b = F b) → ZZ k n (pc + 3) lv st L F1) : ZZ k n pc lv (.int x :: .ref a :: st) L F := by
  subst hZ
  intro p e s m args below meth c D κ hx H locs ls hP hD hS hl
  obtain ⟨q0, hq0⟩ := pw_get (κ := κ) ha hF
  refine va_put (v := .int x) (ty := .int) hx.1 hx.2.1 (C := RX8) (T := TX8) (N := 10) (ci := 8) (ref := "DragonRingModel") hx.2.2.2.2.1 inw8 tyX8 tyX8_ok nmX8 hx.2.2.2.1 hx.2.2.2.2.2.1.1 hP hD hS q0 hq0 rfl 7 (by decide) (hx.2.2.2.2.1 _ hw) (fun _ h => h) rfl (by decide +kernel) rfl rfl (Nat.le_of_ble_eq_true rfl) d (fun H1 locs1 hP1 hD1 hS1 => ?_)
  refine kk (va_up F a (eO 8 [v0, v1, v2, v3, v4, v5, v6, .int x, v8, v9])) (va_up_self _ _ _) (fun b hb => va_up_ne _ _ hb) p e s m args below meth c D κ hx H1 locs1 ls ?_ ?_ hS1 hl
  · rw [← pw_set (e := eO 8 [v0, v1, v2, v3, v4, v5, v6, .int x, v8, v9]) hD ha hF hq0]; exact hP1
  · rw [← pw_set (e := eO 8 [v0, v1, v2, v3, v4, v5, v6, .int x, v8, v9]) hD ha hF hq0]; exact hD1
theorem z_gf_X8_times (hZ : ZZ = Zj l y cc nL ret R L0 post xp) {a ix : Nat} {v0 v1 v2 v3 v4 v5 v6 v7 v8 v9 : Value} (d : decode cc pc = .ok (.getfield ix, 3)) (hw : Cond.fieldLink y.cls ix "DragonRingModel" "times" "I" ∈ wsG) (ha : a ∈ L) (hF : F a = eO 8 [v0, v1, v2, v3, v4, v5, v6, v7, v8, v9]) (kk : ZZ k n (pc + 3) lv (v8 :: st) L F) : ZZ k n pc lv (.ref a :: st) L F := by
  subst hZ
  intro p e s m args below meth c D κ hx H locs ls hP hD hS hl
  obtain ⟨q0, hq0⟩ := pw_get (κ := κ) ha hF
  exact va_get hx.1 hx.2.1 (C := RX8) (T := TX8) (N := 10) (ci := 8) (ref := "DragonRingModel") hx.2.2.2.2.1 inw8 hx.2.2.2.1 hx.2.2.2.2.2.1.1 hP q0 hq0 rfl 8 (by decide) (hx.2.2.2.2.1 _ hw) (fun _ h => h) rfl d (kk p e s m args below meth c D κ hx H locs ls hP hD hS hl)
theorem z_pf_X8_times (hZ : ZZ = Zj l y cc nL ret R L0 post xp) {a ix : Nat} {v0 v1 v2 v3 v4 v5 v6 v7 v8 v9 : Value} {x : Int32} (d : decode cc pc = .ok (.putfield ix, 3)) (hw : Cond.fieldLink y.cls ix "DragonRingModel" "times" "I" ∈ wsG) (ha : a ∈ L) (hF : F a = eO 8 [v0, v1, v2, v3, v4, v5, v6, v7, v8, v9]) (kk : ∀ F1 : Nat → PE, F1 a = eO 8 [v0, v1, v2, v3, v4, v5, v6, v7, .int x, v9] → (∀ b : Nat, b ≠ a → F1 b = F b) → ZZ k n (pc + 3) lv st L F1) : ZZ k n pc lv (.int x :: .ref a :: st) L F := by
  subst hZ
  intro p e s m args below meth c D κ hx H locs ls hP hD hS hl
  obtain ⟨q0, hq0⟩ := pw_get (κ := κ) ha hF
  refine va_put (v := .int x) (ty := .int) hx.1 hx.2.1 (C := RX8) (T := TX8) (N := 10) (ci := 8) (ref := "DragonRingModel") hx.2.2.2.2.1 inw8 tyX8 tyX8_ok nmX8 hx.2.2.2.1 hx.2.2.2.2.2.1.1 hP hD hS q0 hq0 rfl 8 (by decide) (hx.2.2.2.2.1 _ hw) (fun _ h => h) rfl (by decide +kernel) rfl rfl (Nat.le_of_ble_eq_true rfl) d (fun H1 locs1 hP1 hD1 hS1 => ?_)
  refine kk (va_up F a (eO 8 [v0, v1, v2, v3, v4, v5, v6, v7, .int x, v9])) (va_up_self _ _ _) (fun b hb => va_up_ne _ _ hb) p e s m args below meth c D κ hx H1 locs1 ls ?_ ?_ hS1 hl
  · rw [← pw_set (e := eO 8 [v0, v1, v2, v3, v4, v5, v6, v7, .int x, v9]) hD ha hF hq0]; exact hP1
  · rw [← pw_set (e := eO 8 [v0, v1, v2, v3, v4, v5, v6, v7, .int x, v9]) hD ha hF hq0]; exact hD1
theorem z_gf_X8_sign (hZ : ZZ = Zj l y cc nL ret R L0 post xp) {a ix : Nat} {v0 v1 v2 v3 v4 v5 v6 v7 v8 v9 : Value} (d : decode cc pc = .ok (.getfield ix, 3)) (hw : Cond.fieldLink y.cls ix "DragonRingModel" "sign" "I" ∈ wsG) (ha : a ∈ L) (hF : F a = eO 8 [v0, v1, v2, v3, v4, v5, v6, v7, v8, v9]) (kk : ZZ k n (pc + 3) lv (v9 :: st) L F) : ZZ k n pc lv (.ref a :: st) L F := by
  subst hZ
  intro p e s m args below meth c D κ hx H locs ls hP hD hS hl
  obtain ⟨q0, hq0⟩ := pw_get (κ := κ) ha hF
  exact va_get hx.1 hx.2.1 (C := RX8) (T := TX8) (N := 10) (ci := 8) (ref := "DragonRingModel") hx.2.2.2.2.1 inw8 hx.2.2.2.1 hx.2.2.2.2.2.1.1 hP q0 hq0 rfl 9 (by decide) (hx.2.2.2.2.1 _ hw) (fun _ h => h) rfl d (kk p e s m args below meth c D κ hx H locs ls hP hD hS hl)
theorem z_pf_X8_sign (hZ : ZZ = Zj l y cc nL ret R L0 post xp) {a ix : Nat} {v0 v1 v2 v3 v4 v5 v6 v7 v8 v9 : Value} {x : Int32} (d : decode cc pc = .ok (.putfield ix, 3)) (hw : Cond.fieldLink y.cls ix "DragonRingModel" "sign" "I" ∈ wsG) (ha : a ∈ L) (hF : F a = eO 8 [v0, v1, v2, v3, v4, v5, v6, v7, v8, v9]) (kk : ∀ F1 : Nat → PE, F1 a = eO 8 [v0, v1, v2, v3, v4, v5, v6, v7, v8, .int x] → (∀ b : Nat, b ≠ a → F1 b = F b) → ZZ k n (pc + 3) lv st L F1) : ZZ k n pc lv (.int x :: .ref a :: st) L F := by
  subst hZ
  intro p e s m args below meth c D κ hx H locs ls hP hD hS hl
  obtain ⟨q0, hq0⟩ := pw_get (κ := κ) ha hF
  refine va_put (v := .int x) (ty := .int) hx.1 hx.2.1 (C := RX8) (T := TX8) (N := 10) (ci := 8) (ref := "DragonRingModel") hx.2.2.2.2.1 inw8 tyX8 tyX8_ok nmX8 hx.2.2.2.1 hx.2.2.2.2.2.1.1 hP hD hS q0 hq0 rfl 9 (by decide) (hx.2.2.2.2.1 _ hw) (fun _ h => h) rfl (by decide +kernel) rfl rfl (Nat.le_of_ble_eq_true rfl) d (fun H1 locs1 hP1 hD1 hS1 => ?_)
  refine kk (va_up F a (eO 8 [v0, v1, v2, v3, v4, v5, v6, v7, v8, .int x])) (va_up_self _ _ _) (fun b hb => va_up_ne _ _ hb) p e s m args below meth c D κ hx H1 locs1 ls ?_ ?_ hS1 hl
  · rw [← pw_set (e := eO 8 [v0, v1, v2, v3, v4, v5, v6, v7, v8, .int x]) hD ha hF hq0]; exact hP1
  · rw [← pw_set (e := eO 8 [v0, v1, v2, v3, v4, v5, v6, v7, v8, .int x]) hD ha hF hq0]; exact hD1
theorem z_iaload (hZ : ZZ = Zj l y cc nL ret R L0 post xp) {a N : Nat} {g : Int → Int} {i : Int} (d : decode cc pc = .ok (.iaload, 1)) (ha : a ∈ L) (hF : F a = eI 0 N g) (hi : 0 ≤ i ∧ i < N ∧ i ≤ 2147483647) (kk : ZZ k n (pc + 1) lv (.int (iI (g i)) :: st) L F) : ZZ k n pc lv (.int (iI i) :: .ref a :: st) L F := by
  subst hZ
  intro p e s m args below meth c D κ hx H locs ls hP hD hS hl
  obtain ⟨q0, hq0⟩ := pw_get (κ := κ) ha hF
  have hk := kk p e s m args below meth c D κ hx H locs ls hP hD hS hl
  refine va_iald hx.1 hx.2.1 hx.2.2.2.2.2.1.1 hP q0 0 hq0 rfl (iI_in ⟨by omega, by omega⟩ hi.1 hi.2.1) d ?_
  rw [iI_clamp ⟨by omega, by omega⟩ hi.1]
  exact hk
theorem z_iastore (hZ : ZZ = Zj l y cc nL ret R L0 post xp) {a N : Nat} {g : Int → Int} {i x : Int} (d : decode cc pc = .ok (.iastore, 1)) (ha : a ∈ L) (hF : F a = eI 0 N g) (hi : 0 ≤ i ∧ i < N ∧ i ≤ 2147483647) (kk : ∀ F1 : Nat → PE, F1 a = eI 0 N (wu g i x) → (∀ b : Nat, b ≠ a → F1 b = F b) → ZZ k n (pc + 1) lv st L F1) : ZZ k n pc lv (.int (iI x) :: .int (iI i) :: .ref a :: st) L F := by
  subst hZ
  intro p e s m args below meth c D κ hx H locs ls hP hD hS hl
  obtain ⟨q0, hq0⟩ := pw_get (κ := κ) ha hF
  have hup : ∀ z : Int32, z = iI x → (upd (fun j : Nat => iI (g (j : Int))) (iI i).toNatClampNeg z) = fun j : Nat => iI (wu g i x (j : Int)) := by
    intro z hz; subst hz; funext j
    have e := iI_clamp (z := i) ⟨by omega, by omega⟩ hi.1
    unfold upd wu
    by_cases h : j = (iI i).toNatClampNeg
    · subst h; rw [if_pos rfl, if_pos e]
    · rw [if_neg h, if_neg (fun q => h (by omega))]
  refine va_iast hx.1 hx.2.1 hx.2.2.2.2.2.1.1 hP hD hS q0 0 hq0 rfl (iI_in ⟨by omega, by omega⟩ hi.1 hi.2.1) d (fun H1 locs1 hP1 hD1 hS1 => ?_)
  rw [hup _ rfl] at hP1 hD1
  refine kk (va_up F a (eI 0 N (wu g i x))) (va_up_self _ _ _) (fun b hb => va_up_ne _ _ hb) p e s m args below meth c D κ hx H1 locs1 ls ?_ ?_ hS1 hl
  · rw [← pw_set (e := eI 0 N (wu g i x)) hD ha hF hq0]; exact hP1
  · rw [← pw_set (e := eI 0 N (wu g i x)) hD ha hF hq0]; exact hD1
theorem z_baload (hZ : ZZ = Zj l y cc nL ret R L0 post xp) {a N : Nat} {g : Int → Int} {i : Int} (d : decode cc pc = .ok (.baload, 1)) (ha : a ∈ L) (hF : F a = eI 1 N g) (hi : 0 ≤ i ∧ i < N ∧ i ≤ 2147483647) (kk : ZZ k n (pc + 1) lv (.int (iI (g i)) :: st) L F) : ZZ k n pc lv (.int (iI i) :: .ref a :: st) L F := by
  subst hZ
  intro p e s m args below meth c D κ hx H locs ls hP hD hS hl
  obtain ⟨q0, hq0⟩ := pw_get (κ := κ) ha hF
  have hk := kk p e s m args below meth c D κ hx H locs ls hP hD hS hl
  refine va_zald hx.1 hx.2.1 hx.2.2.2.2.2.1.1 hP q0 1 hq0 rfl (iI_in ⟨by omega, by omega⟩ hi.1 hi.2.1) d ?_
  rw [iI_clamp ⟨by omega, by omega⟩ hi.1]
  exact hk
theorem z_bastore (hZ : ZZ = Zj l y cc nL ret R L0 post xp) {a N : Nat} {g : Int → Int} {i x : Int} (d : decode cc pc = .ok (.bastore, 1)) (ha : a ∈ L) (hF : F a = eI 1 N g) (hi : 0 ≤ i ∧ i < N ∧ i ≤ 2147483647) (hb : x = 0 ∨ x = 1) (kk : ∀ F1 : Nat → PE, F1 a = eI 1 N (wu g i x) → (∀ b : Nat, b ≠ a → F1 b = F b) → ZZ k n (pc + 1) lv st L F1) : ZZ k n pc lv (.int (iI x) :: .int (iI i) :: .ref a :: st) L F := by
  subst hZ
  intro p e s m args below meth c D κ hx H locs ls hP hD hS hl
  obtain ⟨q0, hq0⟩ := pw_get (κ := κ) ha hF
  have hnar : vp_nar .boolean (iI x) = iI x := by
    rcases hb with rfl | rfl <;> decide
  have hup : ∀ z : Int32, z = iI x → (upd (fun j : Nat => iI (g (j : Int))) (iI i).toNatClampNeg z) = fun j : Nat => iI (wu g i x (j : Int)) := by
    intro z hz; subst hz; funext j
    have e := iI_clamp (z := i) ⟨by omega, by omega⟩ hi.1
    unfold upd wu
    by_cases h : j = (iI i).toNatClampNeg
    · subst h; rw [if_pos rfl, if_pos e]
    · rw [if_neg h, if_neg (fun q => h (by omega))]
  refine va_zast hx.1 hx.2.1 hx.2.2.2.2.2.1.1 hP hD hS q0 1 hq0 rfl (iI_in ⟨by omega, by omega⟩ hi.1 hi.2.1) d (fun H1 locs1 hP1 hD1 hS1 => ?_)
  rw [hup _ hnar] at hP1 hD1
  refine kk (va_up F a (eI 1 N (wu g i x))) (va_up_self _ _ _) (fun b hb => va_up_ne _ _ hb) p e s m args below meth c D κ hx H1 locs1 ls ?_ ?_ hS1 hl
  · rw [← pw_set (e := eI 1 N (wu g i x)) hD ha hF hq0]; exact hP1
  · rw [← pw_set (e := eI 1 N (wu g i x)) hD ha hF hq0]; exact hD1
theorem z_caload (hZ : ZZ = Zj l y cc nL ret R L0 post xp) {a N : Nat} {g : Int → Int} {i : Int} (d : decode cc pc = .ok (.caload, 1)) (ha : a ∈ L) (hF : F a = eI 2 N g) (hi : 0 ≤ i ∧ i < N ∧ i ≤ 2147483647) (kk : ZZ k n (pc + 1) lv (.int (iI (g i)) :: st) L F) : ZZ k n pc lv (.int (iI i) :: .ref a :: st) L F := by
  subst hZ
  intro p e s m args below meth c D κ hx H locs ls hP hD hS hl
  obtain ⟨q0, hq0⟩ := pw_get (κ := κ) ha hF
  have hk := kk p e s m args below meth c D κ hx H locs ls hP hD hS hl
  refine va_cald hx.1 hx.2.1 hx.2.2.2.2.2.1.1 hP q0 2 hq0 rfl (iI_in ⟨by omega, by omega⟩ hi.1 hi.2.1) d ?_
  rw [iI_clamp ⟨by omega, by omega⟩ hi.1]
  exact hk
theorem z_castore (hZ : ZZ = Zj l y cc nL ret R L0 post xp) {a N : Nat} {g : Int → Int} {i x : Int} (d : decode cc pc = .ok (.castore, 1)) (ha : a ∈ L) (hF : F a = eI 2 N g) (hi : 0 ≤ i ∧ i < N ∧ i ≤ 2147483647) (hb : 0 ≤ x ∧ x < 65536) (kk : ∀ F1 : Nat → PE, F1 a = eI 2 N (wu g i x) → (∀ b : Nat, b ≠ a → F1 b = F b) → ZZ k n (pc + 1) lv st L F1) : ZZ k n pc lv (.int (iI x) :: .int (iI i) :: .ref a :: st) L F := by
  subst hZ
  intro p e s m args below meth c D κ hx H locs ls hP hD hS hl
  obtain ⟨q0, hq0⟩ := pw_get (κ := κ) ha hF
  have hnar : vp_nar .char (iI x) = iI x := by
    have := pk_charN (q := x.toNat) (by omega)
    rw [iI_nI, Int.toNat_of_nonneg hb.1] at this
    unfold vp_nar
    rw [this.1]
  have hup : ∀ z : Int32, z = iI x → (upd (fun j : Nat => iI (g (j : Int))) (iI i).toNatClampNeg z) = fun j : Nat => iI (wu g i x (j : Int)) := by
    intro z hz; subst hz; funext j
    have e := iI_clamp (z := i) ⟨by omega, by omega⟩ hi.1
    unfold upd wu
    by_cases h : j = (iI i).toNatClampNeg
    · subst h; rw [if_pos rfl, if_pos e]
    · rw [if_neg h, if_neg (fun q => h (by omega))]
  refine va_cast hx.1 hx.2.1 hx.2.2.2.2.2.1.1 hP hD hS q0 2 hq0 rfl (iI_in ⟨by omega, by omega⟩ hi.1 hi.2.1) d (fun H1 locs1 hP1 hD1 hS1 => ?_)
  rw [hup _ hnar] at hP1 hD1
  refine kk (va_up F a (eI 2 N (wu g i x))) (va_up_self _ _ _) (fun b hb => va_up_ne _ _ hb) p e s m args below meth c D κ hx H1 locs1 ls ?_ ?_ hS1 hl
  · rw [← pw_set (e := eI 2 N (wu g i x)) hD ha hF hq0]; exact hP1
  · rw [← pw_set (e := eI 2 N (wu g i x)) hD ha hF hq0]; exact hD1
theorem z_laload (hZ : ZZ = Zj l y cc nL ret R L0 post xp) {a N : Nat} {g : Int → Int} {i : Int} (d : decode cc pc = .ok (.laload, 1)) (ha : a ∈ L) (hF : F a = eL N g) (hi : 0 ≤ i ∧ i < N ∧ i ≤ 2147483647) (kk : ZZ k n (pc + 1) lv (.long (lL (g i)) :: st) L F) : ZZ k n pc lv (.int (iI i) :: .ref a :: st) L F := by
  subst hZ
  intro p e s m args below meth c D κ hx H locs ls hP hD hS hl
  obtain ⟨q0, hq0⟩ := pw_get (κ := κ) ha hF
  have hk := kk p e s m args below meth c D κ hx H locs ls hP hD hS hl
  refine va_lald hx.1 hx.2.1 hx.2.2.2.2.2.1.1 hP q0 5 hq0 rfl (iI_in ⟨by omega, by omega⟩ hi.1 hi.2.1) d ?_
  rw [iI_clamp ⟨by omega, by omega⟩ hi.1]
  exact hk
theorem z_lastore (hZ : ZZ = Zj l y cc nL ret R L0 post xp) {a N : Nat} {g : Int → Int} {i x : Int} (d : decode cc pc = .ok (.lastore, 1)) (ha : a ∈ L) (hF : F a = eL N g) (hi : 0 ≤ i ∧ i < N ∧ i ≤ 2147483647) (kk : ∀ F1 : Nat → PE, F1 a = eL N (wu g i x) → (∀ b : Nat, b ≠ a → F1 b = F b) → ZZ k n (pc + 1) lv st L F1) : ZZ k n pc lv (.long (lL x) :: .int (iI i) :: .ref a :: st) L F := by
  subst hZ
  intro p e s m args below meth c D κ hx H locs ls hP hD hS hl
  obtain ⟨q0, hq0⟩ := pw_get (κ := κ) ha hF
  have hup : (vp_updL (fun j : Nat => lL (g (j : Int))) (iI i).toNatClampNeg (lL x)) = fun j : Nat => lL (wu g i x (j : Int)) := by
    funext j
    have e := iI_clamp (z := i) ⟨by omega, by omega⟩ hi.1
    unfold vp_updL wu
    by_cases h : j = (iI i).toNatClampNeg
    · subst h; rw [if_pos rfl, if_pos e]
    · rw [if_neg h, if_neg (fun q => h (by omega))]
  refine va_last hx.1 hx.2.1 hx.2.2.2.2.2.1.1 hP hD hS q0 5 hq0 rfl (iI_in ⟨by omega, by omega⟩ hi.1 hi.2.1) d (fun H1 locs1 hP1 hD1 hS1 => ?_)
  rw [hup] at hP1 hD1
  refine kk (va_up F a (eL N (wu g i x))) (va_up_self _ _ _) (fun b hb => va_up_ne _ _ hb) p e s m args below meth c D κ hx H1 locs1 ls ?_ ?_ hS1 hl
  · rw [← pw_set (e := eL N (wu g i x)) hD ha hF hq0]; exact hP1
  · rw [← pw_set (e := eL N (wu g i x)) hD ha hF hq0]; exact hD1
theorem z_aaload_State (hZ : ZZ = Zj l y cc nL ret R L0 post xp) {a N q : Nat} {r : Int → Option Nat} {i : Int} (d : decode cc pc = .ok (.aaload, 1)) (ha : a ∈ L) (hF : F a = eQ 3 N r) (hi : 0 ≤ i ∧ i < N ∧ i ≤ 2147483647) (hq : r i = some q) (kk : ZZ k n (pc + 1) lv (.ref q :: st) L F) : ZZ k n pc lv (.int (iI i) :: .ref a :: st) L F := by
  subst hZ
  intro p e s m args below meth c D κ hx H locs ls hP hD hS hl
  obtain ⟨q0, hq0⟩ := pw_get (κ := κ) ha hF
  have hk := kk p e s m args below meth c D κ hx H locs ls hP hD hS hl
  refine va_aldq hx.1 hx.2.1 hx.2.2.2.2.2.1.1 hP q0 3 hq0 rfl (iI_in ⟨by omega, by omega⟩ hi.1 hi.2.1) d ?_
  rw [iI_clamp ⟨by omega, by omega⟩ hi.1, hq]
  exact hk
theorem z_aastore_State (hZ : ZZ = Zj l y cc nL ret R L0 post xp) {a N v : Nat} {r : Int → Option Nat} {i : Int} {vs : List Value} (d : decode cc pc = .ok (.aastore, 1)) (ha : a ∈ L) (hF : F a = eQ 3 N r) (hi : 0 ≤ i ∧ i < N ∧ i ≤ 2147483647) (hv : v ∈ L) (hFv : F v = eO 5 vs) (kk : ∀ F1 : Nat → PE, F1 a = eQ 3 N (wu r i (some v)) → (∀ b : Nat, b ≠ a → F1 b = F b) → ZZ k n (pc + 1) lv st L F1) : ZZ k n pc lv (.ref v :: .int (iI i) :: .ref a :: st) L F := by
  subst hZ
  intro p e s m args below meth c D κ hx H locs ls hP hD hS hl
  obtain ⟨q0, hq0⟩ := pw_get (κ := κ) ha hF
  obtain ⟨q1, hq1⟩ := pw_get (κ := κ) hv hFv
  have hup : (va_up (fun j : Nat => r (j : Int)) (iI i).toNatClampNeg (some v)) = fun j : Nat => wu r i (some v) (j : Int) := by
    funext j
    have e := iI_clamp (z := i) ⟨by omega, by omega⟩ hi.1
    unfold va_up wu
    by_cases h : j = (iI i).toNatClampNeg
    · subst h; rw [if_pos rfl, if_pos e]
    · rw [if_neg h, if_neg (fun q => h (by omega))]
  refine va_astq hx.1 hx.2.1 hx.2.2.2.2.2.1.1 hP hD hS q0 3 q1 5 hq0 rfl hq1 rfl (iI_in ⟨by omega, by omega⟩ hi.1 hi.2.1) d (fun H1 locs1 hP1 hD1 hS1 => ?_)
  rw [hup] at hP1 hD1
  refine kk (va_up F a (eQ 3 N (wu r i (some v)))) (va_up_self _ _ _) (fun b hb => va_up_ne _ _ hb) p e s m args below meth c D κ hx H1 locs1 ls ?_ ?_ hS1 hl
  · rw [← pw_set (e := eQ 3 N (wu r i (some v))) hD ha hF hq0]; exact hP1
  · rw [← pw_set (e := eQ 3 N (wu r i (some v))) hD ha hF hq0]; exact hD1
theorem z_aaload_Text (hZ : ZZ = Zj l y cc nL ret R L0 post xp) {a N q : Nat} {r : Int → Option Nat} {i : Int} (d : decode cc pc = .ok (.aaload, 1)) (ha : a ∈ L) (hF : F a = eQ 4 N r) (hi : 0 ≤ i ∧ i < N ∧ i ≤ 2147483647) (hq : r i = some q) (kk : ZZ k n (pc + 1) lv (.ref q :: st) L F) : ZZ k n pc lv (.int (iI i) :: .ref a :: st) L F := by
  subst hZ
  intro p e s m args below meth c D κ hx H locs ls hP hD hS hl
  obtain ⟨q0, hq0⟩ := pw_get (κ := κ) ha hF
  have hk := kk p e s m args below meth c D κ hx H locs ls hP hD hS hl
  refine va_aldq hx.1 hx.2.1 hx.2.2.2.2.2.1.1 hP q0 4 hq0 rfl (iI_in ⟨by omega, by omega⟩ hi.1 hi.2.1) d ?_
  rw [iI_clamp ⟨by omega, by omega⟩ hi.1, hq]
  exact hk
theorem z_aastore_Text (hZ : ZZ = Zj l y cc nL ret R L0 post xp) {a N v : Nat} {r : Int → Option Nat} {i : Int} {vs : List Value} (d : decode cc pc = .ok (.aastore, 1)) (ha : a ∈ L) (hF : F a = eQ 4 N r) (hi : 0 ≤ i ∧ i < N ∧ i ≤ 2147483647) (hv : v ∈ L) (hFv : F v = eO 6 vs) (kk : ∀ F1 : Nat → PE, F1 a = eQ 4 N (wu r i (some v)) → (∀ b : Nat, b ≠ a → F1 b = F b) → ZZ k n (pc + 1) lv st L F1) : ZZ k n pc lv (.ref v :: .int (iI i) :: .ref a :: st) L F := by
  subst hZ
  intro p e s m args below meth c D κ hx H locs ls hP hD hS hl
  obtain ⟨q0, hq0⟩ := pw_get (κ := κ) ha hF
  obtain ⟨q1, hq1⟩ := pw_get (κ := κ) hv hFv
  have hup : (va_up (fun j : Nat => r (j : Int)) (iI i).toNatClampNeg (some v)) = fun j : Nat => wu r i (some v) (j : Int) := by
    funext j
    have e := iI_clamp (z := i) ⟨by omega, by omega⟩ hi.1
    unfold va_up wu
    by_cases h : j = (iI i).toNatClampNeg
    · subst h; rw [if_pos rfl, if_pos e]
    · rw [if_neg h, if_neg (fun q => h (by omega))]
  refine va_astq hx.1 hx.2.1 hx.2.2.2.2.2.1.1 hP hD hS q0 4 q1 6 hq0 rfl hq1 rfl (iI_in ⟨by omega, by omega⟩ hi.1 hi.2.1) d (fun H1 locs1 hP1 hD1 hS1 => ?_)
  rw [hup] at hP1 hD1
  refine kk (va_up F a (eQ 4 N (wu r i (some v)))) (va_up_self _ _ _) (fun b hb => va_up_ne _ _ hb) p e s m args below meth c D κ hx H1 locs1 ls ?_ ?_ hS1 hl
  · rw [← pw_set (e := eQ 4 N (wu r i (some v))) hD ha hF hq0]; exact hP1
  · rw [← pw_set (e := eQ 4 N (wu r i (some v))) hD ha hF hq0]; exact hD1
theorem z_alen0 (hZ : ZZ = Zj l y cc nL ret R L0 post xp) {a N : Nat} {g : Int → Int} (d : decode cc pc = .ok (.arraylength, 1)) (ha : a ∈ L) (hF : F a = eI 0 N g) (kk : ZZ k n (pc + 1) lv (.int (iI N) :: st) L F) : ZZ k n pc lv (.ref a :: st) L F := by
  subst hZ
  intro p e s m args below meth c D κ hx H locs ls hP hD hS hl
  obtain ⟨q0, hq0⟩ := pw_get (κ := κ) ha hF
  exact va_alen hx.1 hx.2.1 hx.2.2.2.2.2.1.1 hP q0 0 hq0 rfl (iI_nI N) d (kk p e s m args below meth c D κ hx H locs ls hP hD hS hl)
theorem z_alen1 (hZ : ZZ = Zj l y cc nL ret R L0 post xp) {a N : Nat} {g : Int → Int} (d : decode cc pc = .ok (.arraylength, 1)) (ha : a ∈ L) (hF : F a = eI 1 N g) (kk : ZZ k n (pc + 1) lv (.int (iI N) :: st) L F) : ZZ k n pc lv (.ref a :: st) L F := by
  subst hZ
  intro p e s m args below meth c D κ hx H locs ls hP hD hS hl
  obtain ⟨q0, hq0⟩ := pw_get (κ := κ) ha hF
  exact va_alen hx.1 hx.2.1 hx.2.2.2.2.2.1.1 hP q0 1 hq0 rfl (iI_nI N) d (kk p e s m args below meth c D κ hx H locs ls hP hD hS hl)
theorem z_alen2 (hZ : ZZ = Zj l y cc nL ret R L0 post xp) {a N : Nat} {g : Int → Int} (d : decode cc pc = .ok (.arraylength, 1)) (ha : a ∈ L) (hF : F a = eI 2 N g) (kk : ZZ k n (pc + 1) lv (.int (iI N) :: st) L F) : ZZ k n pc lv (.ref a :: st) L F := by
  subst hZ
  intro p e s m args below meth c D κ hx H locs ls hP hD hS hl
  obtain ⟨q0, hq0⟩ := pw_get (κ := κ) ha hF
  exact va_alen hx.1 hx.2.1 hx.2.2.2.2.2.1.1 hP q0 2 hq0 rfl (iI_nI N) d (kk p e s m args below meth c D κ hx H locs ls hP hD hS hl)
theorem z_copyi (hZ : ZZ = Zj l y cc nL ret R L0 post xp) {a0 a1 n0 n1 ix : Nat} {f g : Int → Int} {sp dp q : Int} (d : decode cc pc = .ok (.invokestatic ix, 3)) (hw : Cond.methodLink y.cls ix arraycopyName ∈ wsG) (ha0 : a0 ∈ L) (hF0 : F a0 = eI 0 n0 f) (ha1 : a1 ∈ L) (hF1 : F a1 = eI 0 n1 g)
    (hn0 : n0 ≤ 100000) (hn1 : n1 ≤ 100000) (h : 0 ≤ sp ∧ 0 ≤ dp ∧ 0 ≤ q ∧ sp + q ≤ n0 ∧ dp + q ≤ n1) (hR : 1 ≤ R.frames) (hR2 : 60 ≤ R.locals) (hst : (st.map fun v => v.category).sum ≤ 8)
    (kk : ∀ F1 : Nat → PE, F1 a1 = eI 0 n1 (zcp f g sp dp q) → (∀ b : Nat, b ≠ a1 → F1 b = F b) → ZZ k n (pc + 3) lv st L F1) : ZZ k n pc lv (.int (iI q) :: .int (iI dp) :: .ref a1 :: .int (iI sp) :: .ref a0 :: st) L F := by
  subst hZ
  intro p e s m args below meth c D κ hx H locs ls hP hD hS hl
  obtain ⟨q0, hq0⟩ := pw_get (κ := κ) ha0 hF0
  obtain ⟨q1, hq1⟩ := pw_get (κ := κ) ha1 hF1
  have e1 := iI_clamp (z := sp) ⟨by omega, by omega⟩ h.1
  have e2 := iI_clamp (z := dp) ⟨by omega, by omega⟩ h.2.1
  have e3 := iI_clamp (z := q) ⟨by omega, by omega⟩ h.2.2.1
  have nn : ∀ z : Int, 0 ≤ z → z ≤ 2147483647 → ¬ iI z < 0 := fun z h0 h1 hh => by
    have := (iI_lt (a := z) (b := 0) ⟨by omega, by omega⟩ ⟨by omega, by omega⟩).mp hh
    omega
  have hup : (va_cpy (fun j : Nat => iI (f (j : Int))) (fun j : Nat => iI (g (j : Int))) (iI sp).toNatClampNeg (iI dp).toNatClampNeg (iI q).toNatClampNeg) = fun j : Nat => iI (zcp f g sp dp q (j : Int)) := by
    funext j
    unfold va_cpy zcp
    by_cases hj : dp ≤ (j : Int) ∧ (j : Int) < dp + q
    · rw [if_pos (by omega), if_pos hj]
      have e4 : (((iI sp).toNatClampNeg + (j - (iI dp).toNatClampNeg) : Nat) : Int) = sp + ((j : Int) - dp) := by omega
      exact congrArg (fun z => iI (f z)) e4
    · rw [if_neg (by omega), if_neg hj]
  refine va_copyi hx.1 hx.2.1 (hx.2.2.1.trans hl.1.symm) hx.2.2.2.1 (hx.2.2.2.2.1 _ hw) (hx.2.2.2.2.1 _ w_acN) (hx.2.2.2.2.1 _ w_acS) (hx.2.2.2.2.1 _ in_J10) hx.2.2.2.2.2.1.1 hP hD hS q0 q1 0 0 hq0 hq1 rfl rfl rfl (nn sp h.1 (by omega)) (nn dp h.2.1 (by omega)) (nn q h.2.2.1 (by omega)) (by omega) (by omega) (fun _ _ => rfl) hR ?_ d (fun H1 locs1 hP1 hD1 hS1 => ?_)
  · have : nativeFrameWords "java/lang/System" "arraycopy" 5 + 11 ≤ 52 := by decide +kernel
    omega
  rw [hup] at hP1 hD1
  refine kk (va_up F a1 (eI 0 n1 (zcp f g sp dp q))) (va_up_self _ _ _) (fun b hb => va_up_ne _ _ hb) p e s m args below meth c D κ hx H1 locs1 ls ?_ ?_ hS1 hl
  · rw [← pw_set (e := eI 0 n1 (zcp f g sp dp q)) hD ha1 hF1 hq1]; exact hP1
  · rw [← pw_set (e := eI 0 n1 (zcp f g sp dp q)) hD ha1 hF1 hq1]; exact hD1
theorem z_min (hZ : ZZ = Zj l y cc nL ret R L0 post xp) {ix : Nat} {a b : Int} (d : decode cc pc = .ok (.invokestatic ix, 3)) (hw : Cond.methodLink y.cls ix Lib.Math.min.name ∈ wsG) (hr : -2147483648 ≤ a ∧ a ≤ 2147483647 ∧ -2147483648 ≤ b ∧ b ≤ 2147483647) (hR : 1 ≤ R.frames) (hR2 : 60 ≤ R.locals) (hst : (st.map fun v => v.category).sum ≤ 8) (hRc : k ≤ R.cells ∧ n ≤ R.slots) (kk : ZZ k n (pc + 3) lv (.int (iI (if b < a then b else a)) :: st) L F) : ZZ k n pc lv (.int (iI b) :: .int (iI a) :: st) L F := by
  subst hZ
  intro p e s m args below meth c D κ hx H locs ls hP hD hS hl
  have hk := kk p e s m args below meth c D κ hx H locs ls hP hD hS hl
  refine va_mmin hx.1 hx.2.1 (hx.2.2.1.trans hl.1.symm) hx.2.2.2.1 (hx.2.2.2.2.1 _ hw) (hx.2.2.2.2.1 _ w_minS) (hx.2.2.2.2.1 _ w_maIn) (hx.2.2.2.2.1 _ w_minC) hR (by omega) hRc.1 hRc.2 d ?_
  have e : (if iI b < iI a then iI b else iI a) = iI (if b < a then b else a) := by
    by_cases h : b < a
    · rw [if_pos h, if_pos ((iI_lt hr.2.2 ⟨hr.1, hr.2.1⟩).mpr h)]
    · rw [if_neg h, if_neg (fun q => h ((iI_lt hr.2.2 ⟨hr.1, hr.2.1⟩).mp q))]
  rw [e]; exact hk
theorem z_max (hZ : ZZ = Zj l y cc nL ret R L0 post xp) {ix : Nat} {a b : Int} (d : decode cc pc = .ok (.invokestatic ix, 3)) (hw : Cond.methodLink y.cls ix Lib.Math.max.name ∈ wsG) (hr : -2147483648 ≤ a ∧ a ≤ 2147483647 ∧ -2147483648 ≤ b ∧ b ≤ 2147483647) (hR : 1 ≤ R.frames) (hR2 : 60 ≤ R.locals) (hst : (st.map fun v => v.category).sum ≤ 8) (hRc : k ≤ R.cells ∧ n ≤ R.slots) (kk : ZZ k n (pc + 3) lv (.int (iI (if a < b then b else a)) :: st) L F) : ZZ k n pc lv (.int (iI b) :: .int (iI a) :: st) L F := by
  subst hZ
  intro p e s m args below meth c D κ hx H locs ls hP hD hS hl
  have hk := kk p e s m args below meth c D κ hx H locs ls hP hD hS hl
  refine va_mmax hx.1 hx.2.1 (hx.2.2.1.trans hl.1.symm) hx.2.2.2.1 (hx.2.2.2.2.1 _ hw) (hx.2.2.2.2.1 _ w_maxS) (hx.2.2.2.2.1 _ w_maIn) (hx.2.2.2.2.1 _ w_maxC) hR (by omega) hRc.1 hRc.2 d ?_
  have e : (if iI a < iI b then iI b else iI a) = iI (if a < b then b else a) := by
    by_cases h : a < b
    · rw [if_pos h, if_pos ((iI_lt ⟨hr.1, hr.2.1⟩ hr.2.2).mpr h)]
    · rw [if_neg h, if_neg (fun q => h ((iI_lt ⟨hr.1, hr.2.1⟩ hr.2.2).mp q))]
  rw [e]; exact hk
theorem z_abs (hZ : ZZ = Zj l y cc nL ret R L0 post xp) {ix : Nat} {a : Int} (d : decode cc pc = .ok (.invokestatic ix, 3)) (hw : Cond.methodLink y.cls ix Lib.Math.abs.name ∈ wsG) (hr : -2147483648 ≤ a ∧ a ≤ 2147483647) (hR : 1 ≤ R.frames) (hR2 : 60 ≤ R.locals) (hst : (st.map fun v => v.category).sum ≤ 8) (hRc : k ≤ R.cells ∧ n ≤ R.slots) (kk : ZZ k n (pc + 3) lv (.int (iI (if 0 ≤ a then a else 0 - a)) :: st) L F) : ZZ k n pc lv (.int (iI a) :: st) L F := by
  subst hZ
  intro p e s m args below meth c D κ hx H locs ls hP hD hS hl
  have hk := kk p e s m args below meth c D κ hx H locs ls hP hD hS hl
  refine va_mabs hx.1 hx.2.1 (hx.2.2.1.trans hl.1.symm) hx.2.2.2.1 (hx.2.2.2.2.1 _ hw) (hx.2.2.2.2.1 _ w_absS) (hx.2.2.2.2.1 _ w_maIn) (hx.2.2.2.2.1 _ w_absC) hR (by omega) hRc.1 hRc.2 d ?_
  have e : (if 0 ≤ iI a then iI a else 0 - iI a) = iI (if 0 ≤ a then a else 0 - a) := by
    by_cases h : 0 ≤ a
    · rw [if_pos h]
      exact if_pos ((iI_le (a := 0) ⟨by omega, by omega⟩ hr).mpr h)
    · rw [if_neg h]
      exact (if_neg (fun q => h ((iI_le (a := 0) ⟨by omega, by omega⟩ hr).mp q))).trans (iI_sub 0 a)
  rw [e]; exact hk
end ZH
end
section
/-! THE LAYER, 5: new objects, constructors called, throws. -/
theorem w_oiI : Cond.instanceMethod Lib.objectInit ∈ wsG := wg (tw1 29 rfl) rfl
theorem w_oiC : Cond.code Lib.objectInit ⟨#[0xb1]⟩ 1 none ∈ wsG := wg (tw1 30 rfl) rfl
section ZM
variable {ZZ : ZT} {l : Launch} {y : MethodName} {cc : ByteArray} {nL : Nat} {ret : Option FieldType} {R : Room} {L0 : List Nat} {post : Option Value → List Nat → (Nat → PE) → Prop} {xp : String → List Nat → (Nat → PE) → Prop}
variable {k n pc : Nat} {lv : List (Option Value)} {st : List Value} {L : List Nat} {F : Nat → PE}
theorem z_irem_g (hZ : ZZ = Zj l y cc nL ret R L0 post xp) {a b r : Int} (d : decode cc pc = .ok (.irem, 1)) (h : 0 < b ∧ b ≤ 2147483647) (hr : iI a - iI a / iI b * iI b = iI r) (kk : ZZ k n (pc + 1) lv (.int (iI r) :: st) L F) : ZZ k n pc lv (.int (iI b) :: .int (iI a) :: st) L F := by
  subst hZ
  intro p e s m args below meth c D κ hx H locs ls hP hD hS hl
  refine lv_irem hx.1 hx.2.1 d (fun q => by have := (iI_eq (b := 0) ⟨by omega, by omega⟩ ⟨by omega, by omega⟩).mp q; omega) ?_
  rw [hr]
  exact kk p e s m args below meth c D κ hx H locs ls hP hD hS hl
theorem z_objInit (hZ : ZZ = Zj l y cc nL ret R L0 post xp) {ix a : Nat} (d : decode cc pc = .ok (.invokespecial ix, 3)) (hw : Cond.methodLink y.cls ix Lib.objectInit ∈ wsG) (hR : 1 ≤ R.frames) (hR2 : 60 ≤ R.locals) (hst : (st.map fun v => v.category).sum ≤ 8) (kk : ZZ k n (pc + 3) lv st L F) : ZZ k n pc lv (.ref a :: st) L F := by
  subst hZ
  intro p e s m args below meth c D κ hx H locs ls hP hD hS hl
  refine W.objInit hx.1 hx.2.1 hx.2.2.2.1 (hx.2.2.2.2.1 _ hw) (hx.2.2.2.2.1 _ w_oiI) (hx.2.2.2.2.1 _ w_oiC) rfl (by rw [hx.2.2.1]; exact hl.1) rfl d hR ?_ ?_
  · have := lv_room (m := m) (pc := pc) (ls := ls) (rest := .ref a :: st) hst
    omega
  · exact W.eq (g2 := F0 m (pc + 3) ls st) rfl (kk p e s m args below meth c D κ hx H locs ls hP hD hS hl)
/-- what came last isn't in the pool -/
theorem pw_new {κ : Nat → ClassId} {A : Nat → Prop} {q : Nat} {e : va_E} (h : va_D A (pw κ L F ++ [(q, e)])) : q ∉ L := by
  intro hq
  obtain ⟨i, hi⟩ := pw_get (κ := κ) (F := F) hq rfl
  have hl := (List.getElem?_eq_some_iff.mp hi).1
  have e2 := h.1 i (pw κ L F).length (q, pT κ (F q)) (q, e) ((List.getElem?_append_left hl).trans hi) (by rw [List.getElem?_append_right (Nat.le_refl _), Nat.sub_self]; rfl) rfl
  omega
theorem pw_push {κ : Nat → ClassId} {q : Nat} {e : PE} (hq : q ∉ L) : pw κ L F ++ [(q, pT κ e)] = pw κ (L ++ [q]) (va_up F q e) := by
  refine (va_pl_push (f := fun a => pT κ (F a)) hq).trans (va_pl_congr fun b => ?_)
  unfold va_up
  split <;> rfl
theorem z_newG (hZ : ZZ = Zj l y cc nL ret R L0 post xp) {C : String} {T : u_T} {N ci ix : Nat} {fs : List Value} {tyc : Nat → FieldType} (d : decode cc pc = .ok (.new ix, 3)) (hin : ∀ w ∈ u_ws C T N, w ∈ wsG) (hty : ∀ k, k < N → parseFieldDescriptor (T k).2.2.1 = some (tyc k)) (hcl : Cond.classLink y.cls ix C ∈ wsG) (hit : Cond.instantiable C N ∈ wsG) (hini : Cond.initialized C ∈ wsG)
    (hc : vwCl[ci]? = some (C, T, N)) (hfs : ∀ j, j < N → defaultValue (tyc j) = vp_V fs j) (hRc : k + 1 ≤ R.cells ∧ n + N ≤ R.slots)
    (kk : ∀ (q : Nat) (F1 : Nat → PE), q ∉ L → F1 q = eO ci fs → (∀ b : Nat, b ≠ q → F1 b = F b) → ZZ (k + 1) (n + N) (pc + 3) lv (.ref q :: st) (L ++ [q]) F1) : ZZ k n pc lv st L F := by
  subst hZ
  intro p e s m args below meth c D κ hx H locs ls hP hD hS hl
  refine va_new hx.1 hx.2.1 (C := C) (T := T) (N := N) (ci := ci) (fs := fs) hx.2.2.2.2.1 hin tyc hty hx.2.2.2.1 (hx.2.2.2.2.1 _ hcl) (hx.2.2.2.2.1 _ hit) (hx.2.2.2.2.1 _ hini) hx.2.2.2.2.2.1.1 hP hD hS (fun q h => Or.inr h) hc hfs hRc.1 hRc.2 d (fun q H1 hP1 hD1 hS1 => ?_)
  have hq : q ∉ L := pw_new hD1
  refine kk q (va_up F q (eO ci fs)) hq (va_up_self _ _ _) (fun b hb => va_up_ne _ _ hb) p e s m args below meth c D κ hx H1 locs ls ?_ ?_ hS1 hl
  · rw [← pw_push hq]; exact hP1
  · rw [← pw_push hq]; exact hD1
theorem iI0 : iI 0 = 0 := rfl
theorem z_newarrI (hZ : ZZ = Zj l y cc nL ret R L0 post xp) {t N : Nat} {at1 : ArrayType} (d : decode cc pc = .ok (.newarray at1, 2)) (ht : (t = 0 ∧ at1 = .int) ∨ (t = 1 ∧ at1 = .boolean) ∨ (t = 2 ∧ at1 = .char)) (hac : Cond.arrayClass (newarray.typeOf at1) ∈ wsG) (hN : N ≤ 100000) (hRc : k + 1 ≤ R.cells ∧ n + N ≤ R.slots)
    (kk : ∀ (q : Nat) (F1 : Nat → PE), q ∉ L → F1 q = eI t N (fun _ => 0) → (∀ b : Nat, b ≠ q → F1 b = F b) → ZZ (k + 1) (n + N) (pc + 2) lv (.ref q :: st) (L ++ [q]) F1) : ZZ k n pc lv (.int (iI N) :: st) L F := by
  subst hZ
  intro p e s m args below meth c D κ hx H locs ls hP hD hS hl
  have e1 := iI_clamp (z := N) ⟨by omega, by omega⟩ (by omega)
  have nn : ¬ iI N < 0 := fun hh => by
    have := (iI_lt (a := N) (b := 0) ⟨by omega, by omega⟩ ⟨by omega, by omega⟩).mp hh
    omega
  refine va_newa hx.1 hx.2.1 (hx.2.2.2.2.1 _ hac) rfl hx.2.2.2.2.2.1.1 hP hD hS (fun q h => Or.inr h) (a0 := (N, .inl (fun _ => 0))) (N' := N) (fun cA => by rcases ht with ⟨-, rfl⟩ | ⟨-, rfl⟩ | ⟨-, rfl⟩ <;> rfl) nn (by omega) (by rcases ht with ⟨-, rfl⟩ | ⟨-, rfl⟩ | ⟨-, rfl⟩ <;> simp [newarray.typeOf, componentBytes] <;> omega) hRc.1 hRc.2 d (fun q cA H1 hK1 hP1 hD1 hS1 => ?_)
  have hq : q ∉ L := pw_new hD1
  have hcA : cA = κ t := by
    have h1 := (hK1.2 6 _ rfl).2
    rcases ht with ⟨rfl, rfl⟩ | ⟨rfl, rfl⟩ | ⟨rfl, rfl⟩
    · exact Option.some.inj (h1.symm.trans (hx.2.2.2.2.2.1.1.2 0 _ rfl).2)
    · exact Option.some.inj (h1.symm.trans (hx.2.2.2.2.2.1.1.2 1 _ rfl).2)
    · exact Option.some.inj (h1.symm.trans (hx.2.2.2.2.2.1.1.2 2 _ rfl).2)
  subst hcA
  refine kk q (va_up F q (eI t N (fun _ => 0))) hq (va_up_self _ _ _) (fun b hb => va_up_ne _ _ hb) p e s m args below meth c D κ hx H1 locs ls ?_ ?_ hS1 hl
  · rw [← pw_push hq]; exact hP1
  · rw [← pw_push hq]; exact hD1
theorem z_newarrL (hZ : ZZ = Zj l y cc nL ret R L0 post xp) {N : Nat} (d : decode cc pc = .ok (.newarray .long, 2)) (hac : Cond.arrayClass .long ∈ wsG) (hN : N ≤ 100000) (hRc : k + 1 ≤ R.cells ∧ n + N ≤ R.slots)
    (kk : ∀ (q : Nat) (F1 : Nat → PE), q ∉ L → F1 q = eL N (fun _ => 0) → (∀ b : Nat, b ≠ q → F1 b = F b) → ZZ (k + 1) (n + N) (pc + 2) lv (.ref q :: st) (L ++ [q]) F1) : ZZ k n pc lv (.int (iI N) :: st) L F := by
  subst hZ
  intro p e s m args below meth c D κ hx H locs ls hP hD hS hl
  have e1 := iI_clamp (z := N) ⟨by omega, by omega⟩ (by omega)
  have nn : ¬ iI N < 0 := fun hh => by
    have := (iI_lt (a := N) (b := 0) ⟨by omega, by omega⟩ ⟨by omega, by omega⟩).mp hh
    omega
  refine va_newa (atype := .long) hx.1 hx.2.1 (hx.2.2.2.2.1 _ hac) rfl hx.2.2.2.2.2.1.1 hP hD hS (fun q h => Or.inr h) (a0 := (N, .inr (.inl (fun _ => 0)))) (N' := N) (fun cA => rfl) nn (by omega) (by simp [newarray.typeOf, componentBytes]; omega) hRc.1 hRc.2 d (fun q cA H1 hK1 hP1 hD1 hS1 => ?_)
  have hq : q ∉ L := pw_new hD1
  have hcA : cA = κ 5 := Option.some.inj (((hK1.2 6 _ rfl).2).symm.trans (hx.2.2.2.2.2.1.1.2 5 _ rfl).2)
  subst hcA
  refine kk q (va_up F q (eL N (fun _ => 0))) hq (va_up_self _ _ _) (fun b hb => va_up_ne _ _ hb) p e s m args below meth c D κ hx H1 locs ls ?_ ?_ hS1 hl
  · rw [← pw_push hq]; exact hP1
  · rw [← pw_push hq]; exact hD1
theorem z_newarrQ (hZ : ZZ = Zj l y cc nL ret R L0 post xp) {t N ix : Nat} {C : String} (d : decode cc pc = .ok (.anewarray ix, 3)) (ht : (t = 3 ∧ C = RX5) ∨ (t = 4 ∧ C = RX6)) (hcl : Cond.classLink y.cls ix C ∈ wsG) (hN : N ≤ 1000) (hRc : k + 1 ≤ R.cells ∧ n + N ≤ R.slots)
    (kk : ∀ (q : Nat) (F1 : Nat → PE), q ∉ L → F1 q = eQ t N (fun _ => none) → (∀ b : Nat, b ≠ q → F1 b = F b) → ZZ (k + 1) (n + N) (pc + 3) lv (.ref q :: st) (L ++ [q]) F1) : ZZ k n pc lv (.int (iI N) :: st) L F := by
  subst hZ
  intro p e s m args below meth c D κ hx H locs ls hP hD hS hl
  have e1 := iI_clamp (z := N) ⟨by omega, by omega⟩ (by omega)
  have nn : ¬ iI N < 0 := fun hh => by
    have := (iI_lt (a := N) (b := 0) ⟨by omega, by omega⟩ ⟨by omega, by omega⟩).mp hh
    omega
  have hN6 := hx.2.2.2.2.2.1.2.2.2.2.2.2.1
  refine va_newq hx.1 hx.2.1 (C := C) hx.2.2.2.1 (hx.2.2.2.2.1 _ hcl) (by rcases ht with ⟨-, rfl⟩ | ⟨-, rfl⟩; exact hN6.1; exact hN6.2) hx.2.2.2.2.2.1.1 hP hD hS (fun q h => Or.inr h) (N' := N) nn (by omega) (by omega) hRc.1 hRc.2 d (fun q cA H1 hK1 hP1 hD1 hS1 => ?_)
  have hq : q ∉ L := pw_new hD1
  have hcA : cA = κ t := by
    rcases ht with ⟨rfl, rfl⟩ | ⟨rfl, rfl⟩
    · obtain ⟨-, -, -, -, -, h1⟩ := (hK1.2 6 _ rfl).2
      obtain ⟨-, -, -, -, -, h2⟩ := (hx.2.2.2.2.2.1.1.2 3 _ rfl).2
      exact Option.some.inj (h1.symm.trans h2)
    · obtain ⟨-, -, -, -, -, h1⟩ := (hK1.2 6 _ rfl).2
      obtain ⟨-, -, -, -, -, h2⟩ := (hx.2.2.2.2.2.1.1.2 4 _ rfl).2
      exact Option.some.inj (h1.symm.trans h2)
  subst hcA
  refine kk q (va_up F q (eQ t N (fun _ => none))) hq (va_up_self _ _ _) (fun b hb => va_up_ne _ _ hb) p e s m args below meth c D κ hx H1 locs ls ?_ ?_ hS1 hl
  · rw [← pw_push hq]; exact hP1
  · rw [← pw_push hq]; exact hD1
/-- constructors called -/
theorem z_cI (hZ : ZZ = Zj l y cc nL ret R L0 post xp) {y1 : MethodName} {cc1 : ByteArray} {nL1 idx b : Nat} {R1 : Room} {As rest st0 : List Value} {post1 : Option Value → List Nat → (Nat → PE) → Prop} {xp1 : String → List Nat → (Nat → PE) → Prop}
    (hst : st0 = As.reverse ++ .ref b :: rest) (d : decode cc pc = .ok (.invokespecial idx, 3)) (hl : Cond.methodLink y.cls idx y1 ∈ wsG) (hw : wyI y1 As.length) (hM : PM l y1 cc1 nL1 none R1 L (.ref b :: As) F post1 xp1)
    (hR : R1.frames + 1 ≤ R.frames ∧ 8 + (nL1 + 11) + R1.locals ≤ R.locals) (hRc : k + R1.cells ≤ R.cells ∧ n + R1.slots ≤ R.slots) (hrest : (rest.map fun v => v.category).sum ≤ 8)
    (kx : ∀ (E : String) (L' : List Nat) (F' : Nat → PE), xp1 E L' F' → xp E L' F')
    (kk : ∀ (v : Option Value) (L' : List Nat) (F' : Nat → PE), post1 v L' F' → ZZ (k + R1.cells) (n + R1.slots) (pc + 3) lv (v.toList ++ rest) L' F') : ZZ k n pc lv st0 L F := by
  subst hZ
  intro p e s m args below meth c D κ hx H locs ls hP hD hS hl
  subst hst
  refine z_back (R1 := R1) hx hS hD hl (vx_runI (As := As) (b := b) ⟨hx.1, hx.2.1, hx.2.2.1, hx.2.2.2.1, hx.2.2.2.2.1⟩ (hM.2 D κ H.size) ⟨z_callB hx.2.2.2.2.1 hM.1 hw.1 ‹_› hR, hw.2.1, hx.2.2.2.2.1 _ hw.2.2⟩
    ⟨z_blind, fun U hU hW => ⟨rfl, z_pc hx.2.2.2.2.2.1 hS hP hD hU hW⟩⟩ rfl rfl hl.1 rfl (lv_room hrest) d hRc) (fun E L' F' h => ⟨kx E L' F' h, hRc⟩) kk
theorem z_cIN (hZ : ZZ = Zj l y cc nL ret R L0 post xp) {y1 : MethodName} {cc1 : ByteArray} {nL1 idx b : Nat} {R1 : Room} {As rest st0 : List Value} {post1 : Option Value → List Nat → (Nat → PE) → Prop} {xp1 : String → List Nat → (Nat → PE) → Prop} {host : String}
    (hst : st0 = As.reverse ++ .ref b :: rest) (d : decode cc pc = .ok (.invokespecial idx, 3)) (hl : (y.cls, idx, y1, host) ∈ nstW) (hw : wyI y1 As.length) (hM : PM l y1 cc1 nL1 none R1 L (.ref b :: As) F post1 xp1)
    (hR : R1.frames + 1 ≤ R.frames ∧ 8 + (nL1 + 11) + R1.locals ≤ R.locals) (hRc : k + R1.cells ≤ R.cells ∧ n + R1.slots ≤ R.slots) (hrest : (rest.map fun v => v.category).sum ≤ 8)
    (kx : ∀ (E : String) (L' : List Nat) (F' : Nat → PE), xp1 E L' F' → xp E L' F')
    (kk : ∀ (v : Option Value) (L' : List Nat) (F' : Nat → PE), post1 v L' F' → ZZ (k + R1.cells) (n + R1.slots) (pc + 3) lv (v.toList ++ rest) L' F') : ZZ k n pc lv st0 L F := by
  subst hZ
  intro p e s m args below meth c D κ hx H locs ls hP hD hS hl9
  subst hst
  have hnw : va_Nw (.methodLinkNest y.cls idx y1 host) s := hx.2.2.2.2.2.1.2.2.2.2.2.1 _ hl
  refine z_back (R1 := R1) hx hS hD hl9 (vx_runIN (As := As) (b := b) ⟨hx.1, hx.2.1, hx.2.2.1, hx.2.2.2.1, hx.2.2.2.2.1⟩ (hM.2 D κ H.size) ⟨va_cnB As.length hx.2.2.2.2.1 (wsG_GI hM.1) rfl rfl rfl hnw (hx.2.2.2.2.1 _ hw.1.1) ⟨hw.1.2.1.1, hw.1.2.1.2, hw.1.2.2⟩ hR, hw.2.1, hx.2.2.2.2.1 _ hw.2.2⟩
    ⟨z_blind, fun U hU hW => ⟨rfl, z_pc hx.2.2.2.2.2.1 hS hP hD hU hW⟩⟩ rfl rfl hl9.1 rfl (lv_room hrest) d hRc) (fun E L' F' h => ⟨kx E L' F' h, hRc⟩) kk
/-- throws -/
theorem xt_in {s : State} {args : Array Value} {B : List Cond} (hB : B = xtS ∨ B = xtA ∨ B = xtB) (hts : ∀ w ∈ wsG, w.before args s = true) (hN : pN s) (hin : ∀ w ∈ B.filter goodWord, w ∈ wsG) : ∀ w ∈ B, w.before args s = true := by
  intro w hw
  by_cases g : goodWord w = true
  · exact hts _ (hin w (List.mem_filter.mpr ⟨hw, g⟩))
  · have hm : w ∈ xtL := List.mem_filter.mpr ⟨by rcases hB with rfl | rfl | rfl <;> simp only [List.mem_append] <;> simp only [hw, true_or, or_true], by simp only [g, Bool.not_eq_true', Bool.not_eq_true] at g ⊢⟩
    exact (hN.2.2 w hm).use (isCD_on (xtL_cd w hm))
theorem xtS_in : ∀ w ∈ xtS.filter goodWord, w ∈ wsG := by
  have h : ∀ w ∈ xtS.filter goodWord, w ∈ lw_tbl := by decide +kernel
  exact fun w hw => wg (h w hw) (List.mem_filter.mp hw).2
theorem xtA_in : ∀ w ∈ xtA.filter goodWord, w ∈ wsG := by
  have h : ∀ w ∈ xtA.filter goodWord, w ∈ lw_tbl := by decide +kernel
  exact fun w hw => wg (h w hw) (List.mem_filter.mp hw).2
theorem xtB_in : ∀ w ∈ xtB.filter goodWord, w ∈ wsG := by
  have h : ∀ w ∈ xtB.filter goodWord, w ∈ lw_tbl := by decide +kernel
  exact fun w hw => wg (h w hw) (List.mem_filter.mp hw).2
theorem xtS_ot : ∀ w ∈ Cond.classLink RX7 148 "java/lang/IllegalStateException" :: Cond.initialized "java/lang/IllegalStateException" :: xtS, vx_ot w = true := by decide +kernel
theorem xtA_ot : ∀ w ∈ Cond.classLink RX7 40 "java/lang/IllegalArgumentException" :: Cond.initialized "java/lang/IllegalArgumentException" :: xtA, vx_ot w = true := by decide +kernel
theorem xtB_ot : ∀ w ∈ Cond.classLink RX7 309 "java/lang/IndexOutOfBoundsException" :: Cond.initialized "java/lang/IndexOutOfBoundsException" :: xtB, vx_ot w = true := by decide +kernel
theorem z_throw (hZ : ZZ = Zj l y cc nL ret R L0 post xp) (hf : l.flags = flags0) (hy : y.cls = RX7) {E text : String} {ik is ic : Nat} (hE : (E = "java/lang/IllegalStateException" ∧ ic = 152 ∧ ik = 148) ∨ (E = "java/lang/IllegalArgumentException" ∧ ic = 44 ∧ ik = 40))
    (d0 : decode cc pc = .ok (.new ik, 3)) (d3 : decode cc (pc + 3) = .ok (.dup, 1)) (d4 : decode cc (pc + 4) = .ok (.ldc is, 2)) (d6 : decode cc (pc + 6) = .ok (.invokespecial ic, 3)) (d9 : decode cc (pc + 9) = .ok (.athrow, 1)) (hk : Cond.classLink RX7 ik E ∈ wsG) (hini : Cond.initialized E ∈ wsG) (hs : (is, text) ∈ strs)
    (hRf : 5 < R.frames) (hRl : 100 ≤ R.locals) (hst : (st.map fun v => v.category).sum ≤ 8) (hRc : k + 1 ≤ R.cells ∧ n + 6 ≤ R.slots) (hx9 : xp E L F) : ZZ k n pc lv st L F := by
  subst hZ
  intro p e s m args below meth c D κ hx H locs ls hP hD hS hl
  obtain ⟨sa, hsa⟩ := hx.2.2.2.2.2.1.2.1 _ hs
  have hst9 : l.stackTraces = false := by unfold Launch.stackTraces; rw [hf]; rfl
  have key : ∀ B, B = vx_atS RX7 ic E ["java/lang/RuntimeException", "java/lang/Exception"] → (B = xtS ∨ B = xtA ∨ B = xtB) → (∀ w ∈ B.filter goodWord, w ∈ wsG) → (∀ w ∈ Cond.classLink RX7 ik E :: Cond.initialized E :: B, vx_ot w = true) → Bundle.fit E = true → W p l e R s m args below meth c H locs k n (vx_MQ below (pQ D κ (pA L0 s.heap.size) post) (pX D κ (pA L0 s.heap.size) xp) args s R.cells R.slots (pA L0 s.heap.size)) (F0 m pc ls st) := by
    intro B hB hB2 hB3 hB4 hfit
    refine vx_throwS (own := RX7) (cls := E) (text := text) (names := ["java/lang/RuntimeException", "java/lang/Exception"]) (ik := ik) (is := is) (ic := ic) (sa := sa) (A := pA L0 s.heap.size) hx.1 hx.2.1 hst9 (by rw [← hy]; exact hx.2.2.2.1) hfit (by decide +kernel) (hx.2.2.2.2.1 _ hk) (hx.2.2.2.2.1 _ hini) hsa (by rw [← hB]; exact xt_in hB2 hx.2.2.2.2.1 hx.2.2.2.2.2.1.2.2.2.2.2 hB3) (by rw [← hB]; exact hB4) hx.2.2.2.2.2.1.2.2.1 hx.2.2.2.2.2.1.2.2.2.1 hS (by rw [hx.2.2.1]; exact hl.1) d0 d3 d4 d6 d9 (fun x hx5 => (hx.2.2.2.2.2.2.2.2.1 x hx5).elim) (by show 2 + 3 < R.frames; omega) (by show _ + (13 * 3 + 43) ≤ R.locals; omega) hRc.1 hRc.2 hx.2.2.2.2.2.2.2.1 (fun t hal hsz hq => ?_) hS.2.2 hRc.1 hRc.2
    refine ⟨L, F, hx9, hP.kept (fun i q hi => hq _ (hP i q hi).lt), hD, Nat.le_trans hS.1 hsz, fun q h1 h2 => ?_⟩
    rw [hq q (Nat.lt_of_lt_of_le h1 hS.1)]
    exact hS.2.1 q h1 h2
  rcases hE with ⟨rfl, rfl, rfl⟩ | ⟨rfl, rfl, rfl⟩
  · exact key xtS rfl (Or.inl rfl) xtS_in xtS_ot (by decide +kernel)
  · exact key xtA rfl (Or.inr (Or.inl rfl)) xtA_in xtA_ot (by decide +kernel)
theorem z_throwW (hZ : ZZ = Zj l y cc nL ret R L0 post xp) (hf : l.flags = flags0) (hy : y.cls = RX7) {E text : String} {ik is ic : Nat} (hE : (E = "java/lang/IllegalStateException" ∧ ic = 152 ∧ ik = 148) ∨ (E = "java/lang/IndexOutOfBoundsException" ∧ ic = 313 ∧ ik = 309))
    (d0 : decode cc pc = .ok (.new ik, 3)) (d3 : decode cc (pc + 3) = .ok (.dup, 1)) (d4 : decode cc (pc + 4) = .ok (.ldc_w is, 3)) (d7 : decode cc (pc + 7) = .ok (.invokespecial ic, 3)) (d10 : decode cc (pc + 10) = .ok (.athrow, 1)) (hk : Cond.classLink RX7 ik E ∈ wsG) (hini : Cond.initialized E ∈ wsG) (hs : (is, text) ∈ strs)
    (hRf : 5 < R.frames) (hRl : 100 ≤ R.locals) (hst : (st.map fun v => v.category).sum ≤ 8) (hRc : k + 1 ≤ R.cells ∧ n + 6 ≤ R.slots) (hx9 : xp E L F) : ZZ k n pc lv st L F := by
  subst hZ
  intro p e s m args below meth c D κ hx H locs ls hP hD hS hl
  obtain ⟨sa, hsa⟩ := hx.2.2.2.2.2.1.2.1 _ hs
  have hst9 : l.stackTraces = false := by unfold Launch.stackTraces; rw [hf]; rfl
  have key : ∀ B, B = vx_atS RX7 ic E ["java/lang/RuntimeException", "java/lang/Exception"] → (B = xtS ∨ B = xtA ∨ B = xtB) → (∀ w ∈ B.filter goodWord, w ∈ wsG) → (∀ w ∈ Cond.classLink RX7 ik E :: Cond.initialized E :: B, vx_ot w = true) → Bundle.fit E = true → W p l e R s m args below meth c H locs k n (vx_MQ below (pQ D κ (pA L0 s.heap.size) post) (pX D κ (pA L0 s.heap.size) xp) args s R.cells R.slots (pA L0 s.heap.size)) (F0 m pc ls st) := by
    intro B hB hB2 hB3 hB4 hfit
    refine vx_throwSW (own := RX7) (cls := E) (text := text) (names := ["java/lang/RuntimeException", "java/lang/Exception"]) (ik := ik) (is := is) (ic := ic) (sa := sa) (A := pA L0 s.heap.size) hx.1 hx.2.1 hst9 (by rw [← hy]; exact hx.2.2.2.1) hfit (by decide +kernel) (hx.2.2.2.2.1 _ hk) (hx.2.2.2.2.1 _ hini) hsa (by rw [← hB]; exact xt_in hB2 hx.2.2.2.2.1 hx.2.2.2.2.2.1.2.2.2.2.2 hB3) (by rw [← hB]; exact hB4) hx.2.2.2.2.2.1.2.2.1 hx.2.2.2.2.2.1.2.2.2.1 hS (by rw [hx.2.2.1]; exact hl.1) d0 d3 d4 d7 d10 (fun x hx5 => (hx.2.2.2.2.2.2.2.2.1 x hx5).elim) (by show 2 + 3 < R.frames; omega) (by show _ + (13 * 3 + 43) ≤ R.locals; omega) hRc.1 hRc.2 hx.2.2.2.2.2.2.2.1 (fun t hal hsz hq => ?_) hS.2.2 hRc.1 hRc.2
    refine ⟨L, F, hx9, hP.kept (fun i q hi => hq _ (hP i q hi).lt), hD, Nat.le_trans hS.1 hsz, fun q h1 h2 => ?_⟩
    rw [hq q (Nat.lt_of_lt_of_le h1 hS.1)]
    exact hS.2.1 q h1 h2
  rcases hE with ⟨rfl, rfl, rfl⟩ | ⟨rfl, rfl, rfl⟩
  · exact key xtS rfl (Or.inl rfl) xtS_in xtS_ot (by decide +kernel)
  · exact key xtB rfl (Or.inr (Or.inr rfl)) xtB_in xtB_ot (by decide +kernel)
end ZM
end
