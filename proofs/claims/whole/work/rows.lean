section
-- ===== PART A: goes FIRST, ahead of the names: the tables' words, and 'selects' of the private methods out of them =====
/-- a private method of a class that the tables say can be made, by its rows of tables_1 -/
def lw_okq (q : MethodName × Nat) : Prop := (q.1.cls ≠ "java/lang/invoke/MethodHandle" ∧ q.1.cls ≠ "java/lang/invoke/VarHandle") ∧ Cond.instantiable q.1.cls q.2 ∈ tables_1 ∧ Cond.privateMethod q.1 ∈ tables_1 ∧ Cond.instanceMethod q.1 ∈ tables_1
theorem lw_p0 : lw_okq (⟨"DragonRing$History", "row", "(I)LDragonRing$State;"⟩, 3) := ⟨⟨by decide +kernel, by decide +kernel⟩, List.mem_of_getElem? (i := 158) (by decide +kernel), List.mem_of_getElem? (i := 208) (by decide +kernel), List.mem_of_getElem? (i := 209) (by decide +kernel)⟩
theorem lw_p1 : lw_okq (⟨"DragonRing", "settled", "(I)I"⟩, 5) := ⟨⟨by decide +kernel, by decide +kernel⟩, List.mem_of_getElem? (i := 24) (by decide +kernel), List.mem_of_getElem? (i := 272) (by decide +kernel), List.mem_of_getElem? (i := 273) (by decide +kernel)⟩
theorem lw_p2 : lw_okq (⟨"java/lang/Throwable", "fillInStackTrace", "(I)Ljava/lang/Throwable;"⟩, 6) := ⟨⟨by decide +kernel, by decide +kernel⟩, List.mem_of_getElem? (i := 317) (by decide +kernel), List.mem_of_getElem? (i := 315) (by decide +kernel), List.mem_of_getElem? (i := 316) (by decide +kernel)⟩
theorem lw_p3 : lw_okq (⟨"DragonRing$State", "goAsFarAs", "(I)I"⟩, 4) := ⟨⟨by decide +kernel, by decide +kernel⟩, List.mem_of_getElem? (i := 32) (by decide +kernel), List.mem_of_getElem? (i := 359) (by decide +kernel), List.mem_of_getElem? (i := 360) (by decide +kernel)⟩
theorem lw_p4 : lw_okq (⟨"DragonRing", "hashScroll", "(LDragonRing$Hash;)V"⟩, 5) := ⟨⟨by decide +kernel, by decide +kernel⟩, List.mem_of_getElem? (i := 24) (by decide +kernel), List.mem_of_getElem? (i := 665) (by decide +kernel), List.mem_of_getElem? (i := 666) (by decide +kernel)⟩
theorem lw_p5 : lw_okq (⟨"DragonRing", "hashRing", "(LDragonRing$Hash;)V"⟩, 5) := ⟨⟨by decide +kernel, by decide +kernel⟩, List.mem_of_getElem? (i := 24) (by decide +kernel), List.mem_of_getElem? (i := 693) (by decide +kernel), List.mem_of_getElem? (i := 694) (by decide +kernel)⟩
theorem lw_p6 : lw_okq (⟨"DragonRing", "hashRest", "(LDragonRing$Hash;)V"⟩, 5) := ⟨⟨by decide +kernel, by decide +kernel⟩, List.mem_of_getElem? (i := 24) (by decide +kernel), List.mem_of_getElem? (i := 704) (by decide +kernel), List.mem_of_getElem? (i := 705) (by decide +kernel)⟩
theorem lw_p7 : lw_okq (⟨"DragonRing$Scroll", "makeWay", "(I)V"⟩, 3) := ⟨⟨by decide +kernel, by decide +kernel⟩, List.mem_of_getElem? (i := 38) (by decide +kernel), List.mem_of_getElem? (i := 763) (by decide +kernel), List.mem_of_getElem? (i := 764) (by decide +kernel)⟩
theorem lw_p8 : lw_okq (⟨"DragonRing$State", "kill", "(IIZ)I"⟩, 4) := ⟨⟨by decide +kernel, by decide +kernel⟩, List.mem_of_getElem? (i := 32) (by decide +kernel), List.mem_of_getElem? (i := 870) (by decide +kernel), List.mem_of_getElem? (i := 871) (by decide +kernel)⟩
theorem lw_p9 : lw_okq (⟨"DragonRing$State", "writeHoard", "(LDragonRing$Text;)I"⟩, 4) := ⟨⟨by decide +kernel, by decide +kernel⟩, List.mem_of_getElem? (i := 32) (by decide +kernel), List.mem_of_getElem? (i := 948) (by decide +kernel), List.mem_of_getElem? (i := 949) (by decide +kernel)⟩
theorem lw_p10 : lw_okq (⟨"DragonRing", "tellsDeeds", "()Z"⟩, 5) := ⟨⟨by decide +kernel, by decide +kernel⟩, List.mem_of_getElem? (i := 24) (by decide +kernel), List.mem_of_getElem? (i := 1018) (by decide +kernel), List.mem_of_getElem? (i := 1019) (by decide +kernel)⟩
theorem lw_p11 : lw_okq (⟨"DragonRing", "deedsDone", "()I"⟩, 5) := ⟨⟨by decide +kernel, by decide +kernel⟩, List.mem_of_getElem? (i := 24) (by decide +kernel), List.mem_of_getElem? (i := 1023) (by decide +kernel), List.mem_of_getElem? (i := 1024) (by decide +kernel)⟩
theorem lw_p12 : lw_okq (⟨"DragonRingModel", "goes", "(ZZZ)Z"⟩, 10) := ⟨⟨by decide +kernel, by decide +kernel⟩, List.mem_of_getElem? (i := 1168) (by decide +kernel), List.mem_of_getElem? (i := 1217) (by decide +kernel), List.mem_of_getElem? (i := 1218) (by decide +kernel)⟩
theorem lw_p13 : lw_okq (⟨"DragonRingModel", "saves", "()V"⟩, 10) := ⟨⟨by decide +kernel, by decide +kernel⟩, List.mem_of_getElem? (i := 1168) (by decide +kernel), List.mem_of_getElem? (i := 1221) (by decide +kernel), List.mem_of_getElem? (i := 1222) (by decide +kernel)⟩
theorem lw_p14 : lw_okq (⟨"DragonRingModel", "copies", "(II)V"⟩, 10) := ⟨⟨by decide +kernel, by decide +kernel⟩, List.mem_of_getElem? (i := 1168) (by decide +kernel), List.mem_of_getElem? (i := 1225) (by decide +kernel), List.mem_of_getElem? (i := 1226) (by decide +kernel)⟩
theorem lw_p15 : lw_okq (⟨"DragonRingModel", "writes", "(I)I"⟩, 10) := ⟨⟨by decide +kernel, by decide +kernel⟩, List.mem_of_getElem? (i := 1168) (by decide +kernel), List.mem_of_getElem? (i := 1229) (by decide +kernel), List.mem_of_getElem? (i := 1230) (by decide +kernel)⟩
def lw_privs_1 : List (MethodName × Nat) := [(⟨"DragonRing$History", "row", "(I)LDragonRing$State;"⟩, 3), (⟨"DragonRing", "settled", "(I)I"⟩, 5), (⟨"java/lang/Throwable", "fillInStackTrace", "(I)Ljava/lang/Throwable;"⟩, 6), (⟨"DragonRing$State", "goAsFarAs", "(I)I"⟩, 4), (⟨"DragonRing", "hashScroll", "(LDragonRing$Hash;)V"⟩, 5), (⟨"DragonRing", "hashRing", "(LDragonRing$Hash;)V"⟩, 5), (⟨"DragonRing", "hashRest", "(LDragonRing$Hash;)V"⟩, 5), (⟨"DragonRing$Scroll", "makeWay", "(I)V"⟩, 3), (⟨"DragonRing$State", "kill", "(IIZ)I"⟩, 4), (⟨"DragonRing$State", "writeHoard", "(LDragonRing$Text;)I"⟩, 4), (⟨"DragonRing", "tellsDeeds", "()Z"⟩, 5), (⟨"DragonRing", "deedsDone", "()I"⟩, 5), (⟨"DragonRingModel", "goes", "(ZZZ)Z"⟩, 10), (⟨"DragonRingModel", "saves", "()V"⟩, 10), (⟨"DragonRingModel", "copies", "(II)V"⟩, 10), (⟨"DragonRingModel", "writes", "(I)I"⟩, 10)]
theorem lw_r1 : ∀ q ∈ lw_privs_1, lw_okq q := List.forall_mem_cons.mpr ⟨lw_p0, List.forall_mem_cons.mpr ⟨lw_p1, List.forall_mem_cons.mpr ⟨lw_p2, List.forall_mem_cons.mpr ⟨lw_p3, List.forall_mem_cons.mpr ⟨lw_p4, List.forall_mem_cons.mpr ⟨lw_p5, List.forall_mem_cons.mpr ⟨lw_p6, List.forall_mem_cons.mpr ⟨lw_p7, List.forall_mem_cons.mpr ⟨lw_p8, List.forall_mem_cons.mpr ⟨lw_p9, List.forall_mem_cons.mpr ⟨lw_p10, List.forall_mem_cons.mpr ⟨lw_p11, List.forall_mem_cons.mpr ⟨lw_p12, List.forall_mem_cons.mpr ⟨lw_p13, List.forall_mem_cons.mpr ⟨lw_p14, List.forall_mem_cons.mpr ⟨lw_p15, fun _ h => absurd h List.not_mem_nil⟩⟩⟩⟩⟩⟩⟩⟩⟩⟩⟩⟩⟩⟩⟩⟩
theorem lw_p16 : lw_okq (⟨"DragonRingModel", "parts", "(I)V"⟩, 10) := ⟨⟨by decide +kernel, by decide +kernel⟩, List.mem_of_getElem? (i := 1168) (by decide +kernel), List.mem_of_getElem? (i := 1233) (by decide +kernel), List.mem_of_getElem? (i := 1234) (by decide +kernel)⟩
theorem lw_p17 : lw_okq (⟨"DragonRingModel", "code", "(I)I"⟩, 10) := ⟨⟨by decide +kernel, by decide +kernel⟩, List.mem_of_getElem? (i := 1168) (by decide +kernel), List.mem_of_getElem? (i := 1237) (by decide +kernel), List.mem_of_getElem? (i := 1238) (by decide +kernel)⟩
theorem lw_p18 : lw_okq (⟨"DragonRingModel", "acts", "(I)I"⟩, 10) := ⟨⟨by decide +kernel, by decide +kernel⟩, List.mem_of_getElem? (i := 1168) (by decide +kernel), List.mem_of_getElem? (i := 1245) (by decide +kernel), List.mem_of_getElem? (i := 1246) (by decide +kernel)⟩
theorem lw_p19 : lw_okq (⟨"DragonRingModel", "does", "(II)I"⟩, 10) := ⟨⟨by decide +kernel, by decide +kernel⟩, List.mem_of_getElem? (i := 1168) (by decide +kernel), List.mem_of_getElem? (i := 1249) (by decide +kernel), List.mem_of_getElem? (i := 1250) (by decide +kernel)⟩
theorem lw_p20 : lw_okq (⟨"DragonRingModel", "goesTo", "(I)I"⟩, 10) := ⟨⟨by decide +kernel, by decide +kernel⟩, List.mem_of_getElem? (i := 1168) (by decide +kernel), List.mem_of_getElem? (i := 1253) (by decide +kernel), List.mem_of_getElem? (i := 1254) (by decide +kernel)⟩
theorem lw_p21 : lw_okq (⟨"DragonRingModel", "behindWord", "(I)I"⟩, 10) := ⟨⟨by decide +kernel, by decide +kernel⟩, List.mem_of_getElem? (i := 1168) (by decide +kernel), List.mem_of_getElem? (i := 1257) (by decide +kernel), List.mem_of_getElem? (i := 1258) (by decide +kernel)⟩
theorem lw_p22 : lw_okq (⟨"DragonRingModel", "isWord", "(I)Z"⟩, 10) := ⟨⟨by decide +kernel, by decide +kernel⟩, List.mem_of_getElem? (i := 1168) (by decide +kernel), List.mem_of_getElem? (i := 1261) (by decide +kernel), List.mem_of_getElem? (i := 1262) (by decide +kernel)⟩
theorem lw_p23 : lw_okq (⟨"DragonRingModel", "aheadOfWord", "(I)I"⟩, 10) := ⟨⟨by decide +kernel, by decide +kernel⟩, List.mem_of_getElem? (i := 1168) (by decide +kernel), List.mem_of_getElem? (i := 1268) (by decide +kernel), List.mem_of_getElem? (i := 1269) (by decide +kernel)⟩
theorem lw_p24 : lw_okq (⟨"DragonRingModel", "beginOf", "(I)I"⟩, 10) := ⟨⟨by decide +kernel, by decide +kernel⟩, List.mem_of_getElem? (i := 1168) (by decide +kernel), List.mem_of_getElem? (i := 1272) (by decide +kernel), List.mem_of_getElem? (i := 1273) (by decide +kernel)⟩
theorem lw_p25 : lw_okq (⟨"DragonRingModel", "endOf", "(I)I"⟩, 10) := ⟨⟨by decide +kernel, by decide +kernel⟩, List.mem_of_getElem? (i := 1168) (by decide +kernel), List.mem_of_getElem? (i := 1276) (by decide +kernel), List.mem_of_getElem? (i := 1277) (by decide +kernel)⟩
theorem lw_p26 : lw_okq (⟨"DragonRingModel", "marks", "()I"⟩, 10) := ⟨⟨by decide +kernel, by decide +kernel⟩, List.mem_of_getElem? (i := 1168) (by decide +kernel), List.mem_of_getElem? (i := 1280) (by decide +kernel), List.mem_of_getElem? (i := 1281) (by decide +kernel)⟩
theorem lw_p27 : lw_okq (⟨"DragonRingModel", "exchanges", "()I"⟩, 10) := ⟨⟨by decide +kernel, by decide +kernel⟩, List.mem_of_getElem? (i := 1168) (by decide +kernel), List.mem_of_getElem? (i := 1284) (by decide +kernel), List.mem_of_getElem? (i := 1285) (by decide +kernel)⟩
theorem lw_p28 : lw_okq (⟨"DragonRingModel", "killsWord", "()I"⟩, 10) := ⟨⟨by decide +kernel, by decide +kernel⟩, List.mem_of_getElem? (i := 1168) (by decide +kernel), List.mem_of_getElem? (i := 1288) (by decide +kernel), List.mem_of_getElem? (i := 1289) (by decide +kernel)⟩
theorem lw_p29 : lw_okq (⟨"DragonRingModel", "kills", "(IIZ)I"⟩, 10) := ⟨⟨by decide +kernel, by decide +kernel⟩, List.mem_of_getElem? (i := 1168) (by decide +kernel), List.mem_of_getElem? (i := 1292) (by decide +kernel), List.mem_of_getElem? (i := 1293) (by decide +kernel)⟩
theorem lw_p30 : lw_okq (⟨"DragonRingModel", "grows", "(IIZ)V"⟩, 10) := ⟨⟨by decide +kernel, by decide +kernel⟩, List.mem_of_getElem? (i := 1168) (by decide +kernel), List.mem_of_getElem? (i := 1296) (by decide +kernel), List.mem_of_getElem? (i := 1297) (by decide +kernel)⟩
theorem lw_p31 : lw_okq (⟨"DragonRingModel", "collects", "(II)V"⟩, 10) := ⟨⟨by decide +kernel, by decide +kernel⟩, List.mem_of_getElem? (i := 1168) (by decide +kernel), List.mem_of_getElem? (i := 1300) (by decide +kernel), List.mem_of_getElem? (i := 1301) (by decide +kernel)⟩
def lw_privs_2 : List (MethodName × Nat) := [(⟨"DragonRingModel", "parts", "(I)V"⟩, 10), (⟨"DragonRingModel", "code", "(I)I"⟩, 10), (⟨"DragonRingModel", "acts", "(I)I"⟩, 10), (⟨"DragonRingModel", "does", "(II)I"⟩, 10), (⟨"DragonRingModel", "goesTo", "(I)I"⟩, 10), (⟨"DragonRingModel", "behindWord", "(I)I"⟩, 10), (⟨"DragonRingModel", "isWord", "(I)Z"⟩, 10), (⟨"DragonRingModel", "aheadOfWord", "(I)I"⟩, 10), (⟨"DragonRingModel", "beginOf", "(I)I"⟩, 10), (⟨"DragonRingModel", "endOf", "(I)I"⟩, 10), (⟨"DragonRingModel", "marks", "()I"⟩, 10), (⟨"DragonRingModel", "exchanges", "()I"⟩, 10), (⟨"DragonRingModel", "killsWord", "()I"⟩, 10), (⟨"DragonRingModel", "kills", "(IIZ)I"⟩, 10), (⟨"DragonRingModel", "grows", "(IIZ)V"⟩, 10), (⟨"DragonRingModel", "collects", "(II)V"⟩, 10)]
theorem lw_r2 : ∀ q ∈ lw_privs_2, lw_okq q := List.forall_mem_cons.mpr ⟨lw_p16, List.forall_mem_cons.mpr ⟨lw_p17, List.forall_mem_cons.mpr ⟨lw_p18, List.forall_mem_cons.mpr ⟨lw_p19, List.forall_mem_cons.mpr ⟨lw_p20, List.forall_mem_cons.mpr ⟨lw_p21, List.forall_mem_cons.mpr ⟨lw_p22, List.forall_mem_cons.mpr ⟨lw_p23, List.forall_mem_cons.mpr ⟨lw_p24, List.forall_mem_cons.mpr ⟨lw_p25, List.forall_mem_cons.mpr ⟨lw_p26, List.forall_mem_cons.mpr ⟨lw_p27, List.forall_mem_cons.mpr ⟨lw_p28, List.forall_mem_cons.mpr ⟨lw_p29, List.forall_mem_cons.mpr ⟨lw_p30, List.forall_mem_cons.mpr ⟨lw_p31, fun _ h => absurd h List.not_mem_nil⟩⟩⟩⟩⟩⟩⟩⟩⟩⟩⟩⟩⟩⟩⟩⟩
theorem lw_p32 : lw_okq (⟨"DragonRingModel", "takesOut", "(II)V"⟩, 10) := ⟨⟨by decide +kernel, by decide +kernel⟩, List.mem_of_getElem? (i := 1168) (by decide +kernel), List.mem_of_getElem? (i := 1304) (by decide +kernel), List.mem_of_getElem? (i := 1305) (by decide +kernel)⟩
theorem lw_p33 : lw_okq (⟨"DragonRingModel", "killsBack", "()I"⟩, 10) := ⟨⟨by decide +kernel, by decide +kernel⟩, List.mem_of_getElem? (i := 1168) (by decide +kernel), List.mem_of_getElem? (i := 1311) (by decide +kernel), List.mem_of_getElem? (i := 1312) (by decide +kernel)⟩
theorem lw_p34 : lw_okq (⟨"DragonRingModel", "killsLine", "()I"⟩, 10) := ⟨⟨by decide +kernel, by decide +kernel⟩, List.mem_of_getElem? (i := 1168) (by decide +kernel), List.mem_of_getElem? (i := 1315) (by decide +kernel), List.mem_of_getElem? (i := 1316) (by decide +kernel)⟩
theorem lw_p35 : lw_okq (⟨"DragonRingModel", "killsBetween", "()I"⟩, 10) := ⟨⟨by decide +kernel, by decide +kernel⟩, List.mem_of_getElem? (i := 1168) (by decide +kernel), List.mem_of_getElem? (i := 1319) (by decide +kernel), List.mem_of_getElem? (i := 1320) (by decide +kernel)⟩
theorem lw_p36 : lw_okq (⟨"DragonRingModel", "doesMore", "(II)I"⟩, 10) := ⟨⟨by decide +kernel, by decide +kernel⟩, List.mem_of_getElem? (i := 1168) (by decide +kernel), List.mem_of_getElem? (i := 1323) (by decide +kernel), List.mem_of_getElem? (i := 1324) (by decide +kernel)⟩
theorem lw_p37 : lw_okq (⟨"DragonRingModel", "copiesBetween", "()I"⟩, 10) := ⟨⟨by decide +kernel, by decide +kernel⟩, List.mem_of_getElem? (i := 1168) (by decide +kernel), List.mem_of_getElem? (i := 1327) (by decide +kernel), List.mem_of_getElem? (i := 1328) (by decide +kernel)⟩
theorem lw_p38 : lw_okq (⟨"DragonRingModel", "apart", "()I"⟩, 10) := ⟨⟨by decide +kernel, by decide +kernel⟩, List.mem_of_getElem? (i := 1168) (by decide +kernel), List.mem_of_getElem? (i := 1331) (by decide +kernel), List.mem_of_getElem? (i := 1332) (by decide +kernel)⟩
theorem lw_p39 : lw_okq (⟨"DragonRingModel", "yanks", "()I"⟩, 10) := ⟨⟨by decide +kernel, by decide +kernel⟩, List.mem_of_getElem? (i := 1168) (by decide +kernel), List.mem_of_getElem? (i := 1335) (by decide +kernel), List.mem_of_getElem? (i := 1336) (by decide +kernel)⟩
theorem lw_p40 : lw_okq (⟨"DragonRingModel", "yanksOther", "()I"⟩, 10) := ⟨⟨by decide +kernel, by decide +kernel⟩, List.mem_of_getElem? (i := 1168) (by decide +kernel), List.mem_of_getElem? (i := 1339) (by decide +kernel), List.mem_of_getElem? (i := 1340) (by decide +kernel)⟩
theorem lw_p41 : lw_okq (⟨"DragonRingModel", "turns", "(I)I"⟩, 10) := ⟨⟨by decide +kernel, by decide +kernel⟩, List.mem_of_getElem? (i := 1168) (by decide +kernel), List.mem_of_getElem? (i := 1343) (by decide +kernel), List.mem_of_getElem? (i := 1344) (by decide +kernel)⟩
theorem lw_p42 : lw_okq (⟨"DragonRingModel", "rubs", "()I"⟩, 10) := ⟨⟨by decide +kernel, by decide +kernel⟩, List.mem_of_getElem? (i := 1168) (by decide +kernel), List.mem_of_getElem? (i := 1347) (by decide +kernel), List.mem_of_getElem? (i := 1348) (by decide +kernel)⟩
theorem lw_p43 : lw_okq (⟨"DragonRingModel", "swaps", "()I"⟩, 10) := ⟨⟨by decide +kernel, by decide +kernel⟩, List.mem_of_getElem? (i := 1168) (by decide +kernel), List.mem_of_getElem? (i := 1351) (by decide +kernel), List.mem_of_getElem? (i := 1352) (by decide +kernel)⟩
theorem lw_p44 : lw_okq (⟨"DragonRingModel", "greatens", "()I"⟩, 10) := ⟨⟨by decide +kernel, by decide +kernel⟩, List.mem_of_getElem? (i := 1168) (by decide +kernel), List.mem_of_getElem? (i := 1355) (by decide +kernel), List.mem_of_getElem? (i := 1356) (by decide +kernel)⟩
theorem lw_p45 : lw_okq (⟨"DragonRingModel", "remembers", "()V"⟩, 10) := ⟨⟨by decide +kernel, by decide +kernel⟩, List.mem_of_getElem? (i := 1168) (by decide +kernel), List.mem_of_getElem? (i := 1359) (by decide +kernel), List.mem_of_getElem? (i := 1360) (by decide +kernel)⟩
theorem lw_p46 : lw_okq (⟨"DragonRingModel", "lineAt", "(I)I"⟩, 10) := ⟨⟨by decide +kernel, by decide +kernel⟩, List.mem_of_getElem? (i := 1168) (by decide +kernel), List.mem_of_getElem? (i := 1398) (by decide +kernel), List.mem_of_getElem? (i := 1399) (by decide +kernel)⟩
theorem lw_p47 : lw_okq (⟨"DragonRingModel", "isFoundAt", "(I)Z"⟩, 10) := ⟨⟨by decide +kernel, by decide +kernel⟩, List.mem_of_getElem? (i := 1168) (by decide +kernel), List.mem_of_getElem? (i := 1414) (by decide +kernel), List.mem_of_getElem? (i := 1415) (by decide +kernel)⟩
def lw_privs_3 : List (MethodName × Nat) := [(⟨"DragonRingModel", "takesOut", "(II)V"⟩, 10), (⟨"DragonRingModel", "killsBack", "()I"⟩, 10), (⟨"DragonRingModel", "killsLine", "()I"⟩, 10), (⟨"DragonRingModel", "killsBetween", "()I"⟩, 10), (⟨"DragonRingModel", "doesMore", "(II)I"⟩, 10), (⟨"DragonRingModel", "copiesBetween", "()I"⟩, 10), (⟨"DragonRingModel", "apart", "()I"⟩, 10), (⟨"DragonRingModel", "yanks", "()I"⟩, 10), (⟨"DragonRingModel", "yanksOther", "()I"⟩, 10), (⟨"DragonRingModel", "turns", "(I)I"⟩, 10), (⟨"DragonRingModel", "rubs", "()I"⟩, 10), (⟨"DragonRingModel", "swaps", "()I"⟩, 10), (⟨"DragonRingModel", "greatens", "()I"⟩, 10), (⟨"DragonRingModel", "remembers", "()V"⟩, 10), (⟨"DragonRingModel", "lineAt", "(I)I"⟩, 10), (⟨"DragonRingModel", "isFoundAt", "(I)Z"⟩, 10)]
theorem lw_r3 : ∀ q ∈ lw_privs_3, lw_okq q := List.forall_mem_cons.mpr ⟨lw_p32, List.forall_mem_cons.mpr ⟨lw_p33, List.forall_mem_cons.mpr ⟨lw_p34, List.forall_mem_cons.mpr ⟨lw_p35, List.forall_mem_cons.mpr ⟨lw_p36, List.forall_mem_cons.mpr ⟨lw_p37, List.forall_mem_cons.mpr ⟨lw_p38, List.forall_mem_cons.mpr ⟨lw_p39, List.forall_mem_cons.mpr ⟨lw_p40, List.forall_mem_cons.mpr ⟨lw_p41, List.forall_mem_cons.mpr ⟨lw_p42, List.forall_mem_cons.mpr ⟨lw_p43, List.forall_mem_cons.mpr ⟨lw_p44, List.forall_mem_cons.mpr ⟨lw_p45, List.forall_mem_cons.mpr ⟨lw_p46, List.forall_mem_cons.mpr ⟨lw_p47, fun _ h => absurd h List.not_mem_nil⟩⟩⟩⟩⟩⟩⟩⟩⟩⟩⟩⟩⟩⟩⟩⟩
theorem lw_p48 : lw_okq (⟨"DragonRingModel", "tells", "()Z"⟩, 10) := ⟨⟨by decide +kernel, by decide +kernel⟩, List.mem_of_getElem? (i := 1168) (by decide +kernel), List.mem_of_getElem? (i := 1466) (by decide +kernel), List.mem_of_getElem? (i := 1467) (by decide +kernel)⟩
theorem lw_p49 : lw_okq (⟨"DragonRingModel", "part", "()I"⟩, 10) := ⟨⟨by decide +kernel, by decide +kernel⟩, List.mem_of_getElem? (i := 1168) (by decide +kernel), List.mem_of_getElem? (i := 1470) (by decide +kernel), List.mem_of_getElem? (i := 1471) (by decide +kernel)⟩
theorem lw_p50 : lw_okq (⟨"DragonRingModel", "doesAll", "()I"⟩, 10) := ⟨⟨by decide +kernel, by decide +kernel⟩, List.mem_of_getElem? (i := 1168) (by decide +kernel), List.mem_of_getElem? (i := 1481) (by decide +kernel), List.mem_of_getElem? (i := 1482) (by decide +kernel)⟩
theorem lw_p51 : lw_okq (⟨"DragonRingModel", "plain", "(I)I"⟩, 10) := ⟨⟨by decide +kernel, by decide +kernel⟩, List.mem_of_getElem? (i := 1168) (by decide +kernel), List.mem_of_getElem? (i := 1505) (by decide +kernel), List.mem_of_getElem? (i := 1506) (by decide +kernel)⟩
theorem lw_p52 : lw_okq (⟨"DragonRingModel", "endsUntil", "(I)I"⟩, 10) := ⟨⟨by decide +kernel, by decide +kernel⟩, List.mem_of_getElem? (i := 1168) (by decide +kernel), List.mem_of_getElem? (i := 1529) (by decide +kernel), List.mem_of_getElem? (i := 1530) (by decide +kernel)⟩
theorem lw_p53 : lw_okq (⟨"DragonRingModel", "longest", "()I"⟩, 10) := ⟨⟨by decide +kernel, by decide +kernel⟩, List.mem_of_getElem? (i := 1168) (by decide +kernel), List.mem_of_getElem? (i := 1549) (by decide +kernel), List.mem_of_getElem? (i := 1550) (by decide +kernel)⟩
theorem lw_p54 : lw_okq (⟨"DragonRingModel", "words", "()I"⟩, 10) := ⟨⟨by decide +kernel, by decide +kernel⟩, List.mem_of_getElem? (i := 1168) (by decide +kernel), List.mem_of_getElem? (i := 1557) (by decide +kernel), List.mem_of_getElem? (i := 1558) (by decide +kernel)⟩
theorem lw_p55 : lw_okq (⟨"DragonRingModel", "isHoard", "(I)Z"⟩, 10) := ⟨⟨by decide +kernel, by decide +kernel⟩, List.mem_of_getElem? (i := 1168) (by decide +kernel), List.mem_of_getElem? (i := 1577) (by decide +kernel), List.mem_of_getElem? (i := 1578) (by decide +kernel)⟩
theorem lw_p56 : lw_okq (⟨"DragonRingModel", "sum", "()I"⟩, 10) := ⟨⟨by decide +kernel, by decide +kernel⟩, List.mem_of_getElem? (i := 1168) (by decide +kernel), List.mem_of_getElem? (i := 1605) (by decide +kernel), List.mem_of_getElem? (i := 1606) (by decide +kernel)⟩
theorem lw_p57 : lw_okq (⟨"DragonRingModel", "heavy", "()I"⟩, 10) := ⟨⟨by decide +kernel, by decide +kernel⟩, List.mem_of_getElem? (i := 1168) (by decide +kernel), List.mem_of_getElem? (i := 1613) (by decide +kernel), List.mem_of_getElem? (i := 1614) (by decide +kernel)⟩
theorem lw_p58 : lw_okq (⟨"DragonRingModel", "hashOfScroll", "()J"⟩, 10) := ⟨⟨by decide +kernel, by decide +kernel⟩, List.mem_of_getElem? (i := 1168) (by decide +kernel), List.mem_of_getElem? (i := 1645) (by decide +kernel), List.mem_of_getElem? (i := 1646) (by decide +kernel)⟩
def lw_privs_4 : List (MethodName × Nat) := [(⟨"DragonRingModel", "tells", "()Z"⟩, 10), (⟨"DragonRingModel", "part", "()I"⟩, 10), (⟨"DragonRingModel", "doesAll", "()I"⟩, 10), (⟨"DragonRingModel", "plain", "(I)I"⟩, 10), (⟨"DragonRingModel", "endsUntil", "(I)I"⟩, 10), (⟨"DragonRingModel", "longest", "()I"⟩, 10), (⟨"DragonRingModel", "words", "()I"⟩, 10), (⟨"DragonRingModel", "isHoard", "(I)Z"⟩, 10), (⟨"DragonRingModel", "sum", "()I"⟩, 10), (⟨"DragonRingModel", "heavy", "()I"⟩, 10), (⟨"DragonRingModel", "hashOfScroll", "()J"⟩, 10)]
theorem lw_r4 : ∀ q ∈ lw_privs_4, lw_okq q := List.forall_mem_cons.mpr ⟨lw_p48, List.forall_mem_cons.mpr ⟨lw_p49, List.forall_mem_cons.mpr ⟨lw_p50, List.forall_mem_cons.mpr ⟨lw_p51, List.forall_mem_cons.mpr ⟨lw_p52, List.forall_mem_cons.mpr ⟨lw_p53, List.forall_mem_cons.mpr ⟨lw_p54, List.forall_mem_cons.mpr ⟨lw_p55, List.forall_mem_cons.mpr ⟨lw_p56, List.forall_mem_cons.mpr ⟨lw_p57, List.forall_mem_cons.mpr ⟨lw_p58, fun _ h => absurd h List.not_mem_nil⟩⟩⟩⟩⟩⟩⟩⟩⟩⟩⟩
def lw_privs : List (MethodName × Nat) := lw_privs_1 ++ (lw_privs_2 ++ (lw_privs_3 ++ (lw_privs_4)))
def lw_tbl : List Cond := k2_sels lw_privs ++ tables_1
theorem lw_privs_ok : ∀ q ∈ lw_privs, lw_okq q := by
  show ∀ q ∈ lw_privs_1 ++ (lw_privs_2 ++ (lw_privs_3 ++ (lw_privs_4))), lw_okq q
  exact List.forall_mem_append.mpr ⟨lw_r1, List.forall_mem_append.mpr ⟨lw_r2, List.forall_mem_append.mpr ⟨lw_r3, lw_r4⟩⟩⟩
/-- the streams that the claim lets the run draw from -/
abbrev lw_cs : List Choice := [Jvm.Choice.named "NaN.bits"]
theorem lw_bits : nanBits ∈ lw_cs := by first | decide | exact List.mem_cons_self | simp [lw_cs, nanBits]
-- ===== end of PART A
/-! ===== BEGIN words of one list among another's, by their places ===== -/
theorem goodIn_r {big : List Cond} (ws : List Cond) (ps : List Nat) (hp : ws = ps.filterMap (fun i => big[i]?)) (h : ws.all goodWord = true) : GoodIn big ws := by
  intro w hw
  have h1 := List.all_eq_true.mp h w hw
  rw [hp] at hw
  obtain ⟨i, -, hi⟩ := List.mem_filterMap.mp hw
  have hm : w ∈ big := by first | exact List.mem_of_getElem? hi | exact List.getElem?_mem hi
  exact ⟨hm, good_of_word h1⟩
theorem goodIn_app {big a b : List Cond} (ha : GoodIn big a) (hb : GoodIn big b) : GoodIn big (a ++ b) := fun w h => (List.mem_append.mp h).elim (ha w) (hb w)
theorem goodIn_ca {big a b : List Cond} {c : Cond} (ha : GoodIn big (c :: a)) (hb : GoodIn big b) : GoodIn big (c :: (a ++ b)) := fun w h => (List.mem_cons.mp h).elim (fun e => ha w (List.mem_cons.mpr (Or.inl e))) (fun h => (List.mem_append.mp h).elim (fun h => ha w (List.mem_cons.mpr (Or.inr h))) (hb w))
theorem goodIn_sub {big ws : List Cond} (hm : ∀ w ∈ ws, w ∈ big) (h : ws.all goodWord = true) : GoodIn big ws := fun w hw => ⟨hm w hw, good_of_word (List.all_eq_true.mp h w hw)⟩
/-! ===== END ===== -/

/-! ===== BEGIN exceptions that leave a method, and their catching by the caller (launches without stack traces) ===== -/
section VXA
/-! The laws vx_back, vx_callV, vx_callS, vx_callSW, vx_throw0, vx_throwS follow proofs of the library, with one case more: JvmDerived/Free/Laws.lean (Back.of_free), Shelf42/LK1.lean (callV, callS), Shelf/KitTraced.lean (throwNew0V, throwNewS). -/
/-- where a method has thrown q: the class by its name, the cell, what was written, the world -/
def vx_T (XC : String → State → State → Prop) (st : State) (q : Addr) (t : State) (mc ms : Nat) (free : Addr → Prop) : Prop :=
  ∃ (E : String) (ce : Cell) (L : List Loc), XC E st t ∧ t.heap[q]? = some ce ∧ ce.vm = .none ∧ st.vm.findClass E = some ce.cls ∧ st.WarmedH t.vm ∧ st.sameButNew ({ t with vm := st.vm } : State) L mc ms ∧ ∀ z ∈ L, free z.base
def vx_Q (Qc : Array Value → State → Outcome → State → Prop) (XC : String → State → State → Prop) (mc ms : Nat) (free : Addr → Prop) : Array Value → State → Outcome → State → Prop := fun a st o t =>
  (Qc a st o t ∧ ∃ L, FrameEnd st o t L mc ms ∧ ∀ q ∈ L, free q.base) ∨ ∃ q, o = .threw q ∧ vx_T XC st q t mc ms free
/-- a callee that returns or throws -/
def vx_Met (l : Launch) (y : MethodName) (ws : List Cond) (rm : Room) (Pc : Array Value → State → Prop) (Qc : Array Value → State → Outcome → State → Prop) (XC : String → State → State → Prop) (mc ms : Nat) (free : Addr → Prop) : Prop :=
  MetFree l y (headSpec ws rm) Pc (fun _ _ _ _ _ => True) (vx_Q Qc XC mc ms free)
def vx_Post (XC : String → State → State → Prop) (mc ms : Nat) (free : Addr → Prop) : Pt → Array Value → Addr → Pt → Prop := fun A a q B =>
  ∃ (g : JFrame) (mk : MethodId) (t : State) (L : List Loc) (E : String) (ce : Cell), B.U.heap = t.heap ∧ B.U.vm = t.vm ∧ XC E (A.U.calling g mk a) t ∧ t.heap[q]? = some ce ∧ ce.vm = .none ∧ A.U.vm.findClass E = some ce.cls ∧ B.locs = A.locs ++ L ∧ (∀ z ∈ L, free z.base) ∧ B.cells = A.cells + mc ∧ B.slots = A.slots + ms
def vx_Back (l : Launch) (R : Room) (p : Program) (e : Env) (below : List Frame) (s : State) (sargs : Array Value) (y : MethodName) (len W9 : Nat)
    (Pre : Pt → Array Value → Prop) (Post : Pt → Array Value → Option Value → Pt → Prop) (PostX : Pt → Array Value → Addr → Pt → Prop) : Prop :=
  ∀ (m : MethodId) (meth : Method) (c : Code) (A : Pt) (g : JFrame) (ig : Instr) (mk : MethodId) (a : Array Value),
    Stand p l e R s m sargs below meth c A.U A.locs A.cells A.slots → g.method = m → g.locals.size = c.maxLocals → decode c.code g.pc = .ok (ig, len) →
    2 * g.monitorRoom + (g.stack.map fun v => v.category).sum ≤ W9 → A.U.methodNamed? y = some mk → Pre A a →
    (∃ (v : Option Value) (B : Pt), Stand p l e R s m sargs below meth c B.U B.locs B.cells B.slots ∧ Post A a v B ∧
      Steps p.tables e below (doInvoke e (A.U.setTop g) [] mk a).1 (B.U.setTop { g with pc := g.pc + len, stack := v.toList ++ g.stack })) ∨
    (∃ (q : Addr) (B : Pt), Stand p l e R s m sargs below meth c B.U B.locs B.cells B.slots ∧ PostX A a q B ∧
      Steps p.tables e below (doInvoke e (A.U.setTop g) [] mk a).1 ((B.U.setTop g).pushFrame (.throwing q)))
section Payer
variable {l : Launch} {R : Room} {p : Program} {e : Env} {below : List Frame} {s : State} {sargs : Array Value} {y : MethodName} {len W9 : Nat}
theorem vx_back {ws : List Cond} {rm : Room} {Pc : Array Value → State → Prop} {Qc : Array Value → State → Outcome → State → Prop} {XC : String → State → State → Prop} {mc ms : Nat} {free : Addr → Prop} {bytes : ByteArray} {maxL : Nat} {ret : Option FieldType}
    (hM : vx_Met l y ws rm Pc Qc XC mc ms free) (hblind : FrameBlind Pc) (hrc : rm.cells = mc) (hrs : rm.slots = ms)
    (hframes : rm.frames + 1 ≤ R.frames) (hlocals : W9 + (maxL + 11) + rm.locals ≤ R.locals)
    (hws : ∀ w ∈ ws, ∀ a' U, s.WarmedH U.vm → w.before a' U = true) (hcode : Cond.code y bytes maxL ret ∈ ws) (hinit : ∀ a' U, s.WarmedH U.vm → (Cond.initialized y.cls).before a' U = true) :
    vx_Back l R p e below s sargs y len W9 (PreOf R mc ms Pc) (PostOf Qc mc ms free) (vx_Post XC mc ms free) := by
  intro m meth c A g ig mk a X hg hsize hdg hW hn hp
  have h1 : (headSpec ws rm).pre.before a A.U = true := atoms_intro fun w hw => hws w hw _ _ X.warmed
  have h2 : (Cond.code y bytes maxL ret).before a A.U = true := hws _ hcode _ _ X.warmed
  have h3 : (Cond.initialized y.cls).before a A.U = true := hinit _ _ X.warmed
  have h4 : A.cells + (headSpec ws rm).room.cells ≤ R.cells := by rw [show (headSpec ws rm).room.cells = mc from hrc]; exact hp.1
  have h5 : A.slots + (headSpec ws rm).room.slots ≤ R.slots := by rw [show (headSpec ws rm).room.slots = ms from hrs]; exact hp.2.1
  have hPc : Pc a (A.U.calling g mk a) := hblind _ _ _ _ hp.2.2
  obtain ⟨U, Ls, c0, s0⟩ := A
  dsimp only [Pt.U, Pt.locs, Pt.cells, Pt.slots] at h1 h2 h3 h4 h5 X hn hPc ⊢
  obtain ⟨methY, cY, hmY, hcY, -, hlY, -, -, -, -⟩ := Cond.code_spec hn h2
  obtain ⟨kY, hkY, -⟩ := className_of_methodNamed hn
  have hinitY : kY.init = .initialized := Cond.initialized_spec (findClass_of_methodNamed hn) hkY h3
  have h : At U g.method c below := by rw [hg]; exact X.here
  have hlocals9 : W9 + (maxL + 11) + (headSpec ws rm).room.locals ≤ R.locals := hlocals
  have happ : (headSpec ws rm).appliesLoose y e.platform (U.calling g mk a) = true :=
    Spec.appliesLoose_calling (g := g) h hdg hn hkY hinitY
      (X.room_calling (g := g) (R' := (headSpec ws rm).room) hsize hmY hcY hframes (by rw [hlY]; omega) h4 h5) h1
  obtain ⟨mid, hmid⟩ := h.above
  have hfr : (U.setTop g).frames = (.java g :: mid) ++ below := by rw [State.frames_setTop' g h.top, hmid]; rfl
  obtain ⟨o, s₂, hsteps, -, hend, hq⟩ := Steps.callFree hM p X.admits X.cas X.clock (acts := []) hfr happ hPc trivial
  have hq' : vx_Q Qc XC mc ms free a (U.calling g mk a) o s₂ := hq
  rw [State.frames_setTop' g h.top] at hend
  obtain ⟨g₀, hg0⟩ := Option.isSome_iff_exists.mp h.top
  obtain ⟨r, hr⟩ := State.topJava?_eq_some.mp hg0
  have hr' : (({ U with heap := s₂.heap, slotsUsed := s₂.slotsUsed } : State).setVm s₂.vm).frames = .java g₀ :: r := hr
  rcases hq' with ⟨hqc, L, hfe, hL⟩ | ⟨q, rfl, E, ce, L, hx, hce, hcv, hcl, hW₂, hsm, hL⟩
  · obtain ⟨⟨v, rfl⟩, hW₂, e2, q2, q3, q4, q5, q6⟩ := id hfe
    have e3 : s₂ = ({ (U.calling g mk a).setFrames s₂.frames with heap := s₂.heap, slotsUsed := s₂.slotsUsed } : State).setVm s₂.vm := by
      have : s₂ = ({ s₂ with vm := (U.calling g mk a).vm } : State).setVm s₂.vm := rfl
      rw [e2] at this
      exact this
    obtain ⟨c₂, i₂, len₂, hc₂, hd₂, hf₂⟩ := hend
    have hW' : U.WarmedH s₂.vm := hW₂
    have hcc : c₂ = c := by
      have h1 : s₂.code? g.method = U.code? g.method := by
        rw [State.code?_eq, State.code?_eq, hW'.alike.method?]
      exact Option.some.inj (hc₂.symm.trans (h1.trans h.code))
    subst hcc
    have hlen : len₂ = len := by rw [hdg] at hd₂; cases hd₂; rfl
    subst hlen
    have hs₂ : s₂ = (({ U with heap := s₂.heap, slotsUsed := s₂.slotsUsed } : State).setVm s₂.vm).setTop { g with pc := g.pc + len₂, stack := v.toList ++ g.stack } := by
      refine e3.trans ?_
      rw [hf₂, State.calling_eq h.top, State.setFrames_setFrames, State.setTop_of_frames _ hr', hr]
      rfl
    have hsame : U.sameButNew ({ U with heap := s₂.heap, slotsUsed := s₂.slotsUsed } : State) L mc ms := by
      refine ⟨?_, q2, q3, q4, q5, q6⟩
      obtain ⟨t, ht, -⟩ := State.frames_cons hr
      show ({ U with heap := s₂.heap, slotsUsed := s₂.slotsUsed } : State) = { U.setFrames U.frames with heap := s₂.heap, slotsUsed := s₂.slotsUsed }
      rw [State.setFrames_self ht]
    subst hg
    refine Or.inl ⟨v, ⟨(({ U with heap := s₂.heap, slotsUsed := s₂.slotsUsed } : State).setVm s₂.vm), Ls ++ L, c0 + mc, s0 + ms⟩,
      ⟨X.admits, X.cas, X.clock, X.frames, X.room, X.hears, X.method, X.code, (X.here.setHeapUsed s₂.heap s₂.slotsUsed).setVm hW'.alike, X.tail, State.WarmedH.trans X.warmed hW', X.limits, X.bytes, X.same.trans (hsame.setVm s.vm)⟩,
      ⟨g, mk, s₂, L, rfl, rfl, hqc, rfl, hL, rfl, rfl⟩, ?_⟩
    show Steps p.tables e below _ ((({ U with heap := s₂.heap, slotsUsed := s₂.slotsUsed } : State).setVm s₂.vm).setTop { g with pc := g.pc + len₂, stack := v.toList ++ g.stack })
    rw [← hs₂]
    exact hsteps
  · obtain ⟨e2, q2, q3, q4, q5, q6⟩ := id hsm
    have e3 : s₂ = ({ (U.calling g mk a).setFrames s₂.frames with heap := s₂.heap, slotsUsed := s₂.slotsUsed } : State).setVm s₂.vm := by
      have : s₂ = ({ s₂ with vm := (U.calling g mk a).vm } : State).setVm s₂.vm := rfl
      rw [e2] at this
      exact this
    have hf₂ : s₂.frames = .throwing q :: .java g :: U.frames.tail := hend
    have hW' : U.WarmedH s₂.vm := hW₂
    have hs₂ : s₂ = ((({ U with heap := s₂.heap, slotsUsed := s₂.slotsUsed } : State).setVm s₂.vm).setTop g).pushFrame (.throwing q) := by
      refine e3.trans ?_
      rw [hf₂, State.calling_eq h.top, State.setFrames_setFrames, State.pushFrame, State.frames_setTop _ hr', State.setTop_of_frames _ hr', State.setFrames_setFrames, hr]
      rfl
    have hsame : U.sameButNew ({ U with heap := s₂.heap, slotsUsed := s₂.slotsUsed } : State) L mc ms := by
      refine ⟨?_, q2, q3, q4, q5, q6⟩
      obtain ⟨t, ht, -⟩ := State.frames_cons hr
      show ({ U with heap := s₂.heap, slotsUsed := s₂.slotsUsed } : State) = { U.setFrames U.frames with heap := s₂.heap, slotsUsed := s₂.slotsUsed }
      rw [State.setFrames_self ht]
    subst hg
    refine Or.inr ⟨q, ⟨(({ U with heap := s₂.heap, slotsUsed := s₂.slotsUsed } : State).setVm s₂.vm), Ls ++ L, c0 + mc, s0 + ms⟩,
      ⟨X.admits, X.cas, X.clock, X.frames, X.room, X.hears, X.method, X.code, (X.here.setHeapUsed s₂.heap s₂.slotsUsed).setVm hW'.alike, X.tail, State.WarmedH.trans X.warmed hW', X.limits, X.bytes, X.same.trans (hsame.setVm s.vm)⟩,
      ⟨g, mk, s₂, L, E, ce, rfl, rfl, hx, hce, hcv, hcl, rfl, hL, rfl, rfl⟩, ?_⟩
    show Steps p.tables e below _ (((({ U with heap := s₂.heap, slotsUsed := s₂.slotsUsed } : State).setVm s₂.vm).setTop g).pushFrame (.throwing q))
    rw [← hs₂]
    exact hsteps
end Payer
section Calls
variable {p : Program} {l : Launch} {e : Env} {R : Room} {s : State} {m : MethodId} {args : Array Value} {below : List Frame} {meth : Method} {c : Code} {T : State} {locs : List Loc} {cells slots : Nat}
theorem vx_callV (X : Stand p l e R s m args below meth c T locs cells slots) (hexec : p.tables.exec = Jvm.exec) {own C : String} {index : Nat} {y : MethodName} {bytes : ByteArray} {maxL : Nat} {ret : Option FieldType}
    (hown : s.vm.findClass own = some m.cls) (hlink : (Cond.methodLink own index y).before args s = true) (hinst : (Cond.instanceMethod y).before args s = true) (hsel : (Cond.selects C y y).before args s = true)
    (hcode : (Cond.code y bytes maxL ret).before args s = true) (hy : y.cls ≠ "java/lang/invoke/MethodHandle" ∧ y.cls ≠ "java/lang/invoke/VarHandle")
    {W9 : Nat} {Pre : Pt → Array Value → Prop} {Post : Pt → Array Value → Option Value → Pt → Prop} {PostX : Pt → Array Value → Addr → Pt → Prop} (hK : vx_Back l R p e below s args y 3 W9 Pre Post PostX)
    {b : Addr} {cellB : Cell} (hcell : T.heap[b]? = some cellB) (hobj : cellB.vm.isStatics = false) (hcls : s.vm.findClass C = some cellB.cls)
    {g : JFrame} (hg : g.method = m) (hsize : g.locals.size = c.maxLocals) {argsL rest : List Value} (hlen : ∀ sig, parseMethodDescriptor y.desc = some sig → argsL.length = sig.parameters.length)
    (hstack : g.stack = argsL.reverse ++ .ref b :: rest) (hW : 2 * g.monitorRoom + (rest.map fun v => v.category).sum ≤ W9) (hdg : decode c.code g.pc = .ok (.invokevirtual index, 3))
    (hpre : ∀ vm₁, s.WarmedH vm₁ → Pre ⟨T.setVm vm₁, locs, cells, slots⟩ (Value.ref b :: argsL).toArray) :
    (∃ (v : Option Value) (vm₁ : Vm) (B : Pt), s.WarmedH vm₁ ∧ Stand p l e R s m args below meth c B.U B.locs B.cells B.slots ∧ Post ⟨T.setVm vm₁, locs, cells, slots⟩ (Value.ref b :: argsL).toArray v B ∧
      ∀ target, Steps p.tables e below (B.U.setTop { g with pc := g.pc + 3, stack := v.toList ++ rest }) target → Steps p.tables e below (T.setTop g) target) ∨
    (∃ (q : Addr) (vm₁ : Vm) (B : Pt), s.WarmedH vm₁ ∧ Stand p l e R s m args below meth c B.U B.locs B.cells B.slots ∧ PostX ⟨T.setVm vm₁, locs, cells, slots⟩ (Value.ref b :: argsL).toArray q B ∧
      Steps p.tables e below (T.setTop g) ((B.U.setTop { g with stack := rest }).pushFrame (.throwing q))) := by
  obtain ⟨mk, methM, hnamed, hmethM, hstM, habM⟩ := Cond.instanceMethod_spec hinst
  obtain ⟨methM', cM, hmethM', -, -, -, -, -, -, hsigM⟩ := Cond.code_spec hnamed hcode
  cases hmethM.symm.trans hmethM'
  obtain ⟨c2, r2, m2, q1, q2, q3, q4, kP, hkP, hkPi⟩ := Cond.selects_spec hsel
  cases hcls.symm.trans q1
  cases (State.methodFound?_of_named hnamed hy).symm.trans q2
  cases hnamed.symm.trans q3
  have hselP : selectMethod e.platform s.vm cellB.cls mk = .method mk := by rw [Launch.admits_selectMethod X.admits]; exact q4
  obtain ⟨vm₁, X₁, hstep₁⟩ := X.invokevirtual hexec hown hlink hnamed hmethM hstM hkP hkPi hy (a := b) (cell := cellB) hcell
    (fun z h => by rw [h] at hobj; cases hobj) hselP hmethM habM hkP hkPi (g := g) hg (argsL := argsL) (rest := rest) (hlen _ hsigM) hstack hdg
  rcases hK m meth c ⟨T.setVm vm₁, locs, cells, slots⟩ { g with stack := rest } (.invokevirtual index) mk (Value.ref b :: argsL).toArray X₁ hg hsize hdg hW (X₁.named hnamed) (hpre vm₁ X₁.warmed) with ⟨v, B, X', hpost, hsteps⟩ | ⟨q, B, X', hpost, hsteps⟩
  · exact Or.inl ⟨v, vm₁, B, X₁.warmed, X', hpost, fun target h => hstep₁ _ fun acts => by rw [doInvoke_state]; exact hsteps.trans h⟩
  · exact Or.inr ⟨q, vm₁, B, X₁.warmed, X', hpost, hstep₁ _ fun acts => by rw [doInvoke_state]; exact hsteps⟩
theorem vx_callS (X : Stand p l e R s m args below meth c T locs cells slots) (hexec : p.tables.exec = Jvm.exec) {own : String} {index : Nat} {y : MethodName} {bytes : ByteArray} {maxL : Nat} {ret : Option FieldType}
    (hown : s.vm.findClass own = some m.cls) (hlink : (Cond.methodLink own index y).before args s = true) (hstat : (Cond.static y).before args s = true) (hinit : (Cond.initialized y.cls).before args s = true)
    (hcode : (Cond.code y bytes maxL ret).before args s = true) (hy : y.cls ≠ "java/lang/invoke/MethodHandle" ∧ y.cls ≠ "java/lang/invoke/VarHandle")
    {W9 : Nat} {Pre : Pt → Array Value → Prop} {Post : Pt → Array Value → Option Value → Pt → Prop} {PostX : Pt → Array Value → Addr → Pt → Prop} (hK : vx_Back l R p e below s args y 3 W9 Pre Post PostX)
    {g : JFrame} (hg : g.method = m) (hsize : g.locals.size = c.maxLocals) {argsL rest : List Value} (hlen : ∀ sig, parseMethodDescriptor y.desc = some sig → argsL.length = sig.parameters.length)
    (hstack : g.stack = argsL.reverse ++ rest) (hW : 2 * g.monitorRoom + (rest.map fun v => v.category).sum ≤ W9) (hdg : decode c.code g.pc = .ok (.invokestatic index, 3))
    (hpre : ∀ vm₁, s.WarmedH vm₁ → Pre ⟨T.setVm vm₁, locs, cells, slots⟩ argsL.toArray) :
    (∃ (v : Option Value) (vm₁ : Vm) (B : Pt), s.WarmedH vm₁ ∧ Stand p l e R s m args below meth c B.U B.locs B.cells B.slots ∧ Post ⟨T.setVm vm₁, locs, cells, slots⟩ argsL.toArray v B ∧
      ∀ target, Steps p.tables e below (B.U.setTop { g with pc := g.pc + 3, stack := v.toList ++ rest }) target → Steps p.tables e below (T.setTop g) target) ∨
    (∃ (q : Addr) (vm₁ : Vm) (B : Pt), s.WarmedH vm₁ ∧ Stand p l e R s m args below meth c B.U B.locs B.cells B.slots ∧ PostX ⟨T.setVm vm₁, locs, cells, slots⟩ argsL.toArray q B ∧
      Steps p.tables e below (T.setTop g) ((B.U.setTop { g with stack := rest }).pushFrame (.throwing q))) := by
  obtain ⟨mk, hnamed⟩ := Cond.code_named hcode
  obtain ⟨methM, cM, hmethM, -, -, -, -, -, -, hsigM⟩ := Cond.code_spec hnamed hcode
  have hstatic : methM.isStatic = true := Cond.static_spec hnamed hmethM hstat
  obtain ⟨kP, hkP, -⟩ := className_of_methodNamed hnamed
  have hinitP : kP.init = .initialized := Cond.initialized_spec (findClass_of_methodNamed hnamed) hkP hinit
  obtain ⟨vm₁, X₁, hstep₁⟩ := X.invokestatic hexec hown hlink hnamed hmethM hstatic hkP hinitP hy (g := g) hg (argsL := argsL) (rest := rest) (hlen _ hsigM) hstack hdg
  rcases hK m meth c ⟨T.setVm vm₁, locs, cells, slots⟩ { g with stack := rest } (.invokestatic index) mk argsL.toArray X₁ hg hsize hdg hW (X₁.named hnamed) (hpre vm₁ X₁.warmed) with ⟨v, B, X', hpost, hsteps⟩ | ⟨q, B, X', hpost, hsteps⟩
  · exact Or.inl ⟨v, vm₁, B, X₁.warmed, X', hpost, fun target h => hstep₁ _ fun acts => by rw [doInvoke_state]; exact hsteps.trans h⟩
  · exact Or.inr ⟨q, vm₁, B, X₁.warmed, X', hpost, hstep₁ _ fun acts => by rw [doInvoke_state]; exact hsteps⟩
end Calls
theorem vx_cls {s : State} {T : State} {vm₁ : Vm} {E : String} {k : ClassId} (hW : s.WarmedH vm₁) (h : (T.setVm vm₁).vm.findClass E = some k) : s.vm.findClass E = some k := by
  have h1 : vm₁.findClass E = some k := h
  rw [hW.alike.findClass] at h1
  exact h1
/-- the method's frame g, with q thrown over it -/
def vx_W (p : Program) (l : Launch) (e : Env) (R : Room) (s : State) (m : MethodId) (args : Array Value) (below : List Frame) (meth : Method) (c : Code) (H : Heap) (locs : List Loc) (cells slots : Nat) (Q : State → Prop) (g : JFrame) (q : Addr) : Prop :=
  ∀ T : State, T.heap = H → Stand p l e R s m args below meth c T locs cells slots → ∃ t, Steps p.tables e below ((T.setTop g).pushFrame (.throwing q)) t ∧ Q t
def vx_Run (p : Program) (l : Launch) (e : Env) (R : Room) (s : State) (m : MethodId) (args : Array Value) (below : List Frame) (meth : Method) (c : Code) (H : Heap) (locs : List Loc) (cells slots mc ms : Nat) (g : JFrame) (rest : List Value) (Qa : State → Outcome → State → Prop) (XC : String → State → State → Prop) (free : Addr → Prop) : Prop :=
  ∀ T : State, T.heap = H → Stand p l e R s m args below meth c T locs cells slots →
    (∃ (v : Option Value) (st₀ t T' : State) (L : List Loc), st₀.heap = H ∧ Stand p l e R s m args below meth c T' (locs ++ L) (cells + mc) (slots + ms) ∧ (∀ q ∈ L, free q.base) ∧ T'.heap = t.heap ∧ T'.vm = t.vm ∧ Qa st₀ (.returned v) t ∧
      Goes p e below T g T' { g with pc := g.pc + 3, stack := v.toList ++ rest }) ∨
    (∃ (q : Addr) (st₀ t T' : State) (L : List Loc) (E : String) (ce : Cell), st₀.heap = H ∧ Stand p l e R s m args below meth c T' (locs ++ L) (cells + mc) (slots + ms) ∧ (∀ z ∈ L, free z.base) ∧ T'.heap = t.heap ∧ T'.vm = t.vm ∧ XC E st₀ t ∧ t.heap[q]? = some ce ∧ ce.vm = .none ∧ s.vm.findClass E = some ce.cls ∧
      Steps p.tables e below (T.setTop g) ((T'.setTop { g with stack := rest }).pushFrame (.throwing q)))
def vx_X {S : Type} (px : S → Prop) (B : String → S → State → Prop) (A : Nat → Prop) : String → State → State → Prop := fun E st t => ∃ u : S, px u ∧ B E u t ∧ va_F A st t
section Runs
variable {p : Program} {l : Launch} {e : Env} {R : Room} {s : State} {m : MethodId} {args : Array Value} {below : List Frame} {meth : Method} {c : Code} {H : Heap} {locs : List Loc} {cells slots : Nat}
variable {y : MethodName} {bytes cc : ByteArray} {maxL nL mc ms n index : Nat} {ret : Option FieldType} {ws : List Cond} {rm : Room} {Pc : Array Value → State → Prop} {Qc : Array Value → State → Outcome → State → Prop} {XC : String → State → State → Prop} {free : Addr → Prop} {Ts : List Cond} {own C : String} {b : Addr} {As rest : List Value} {g : JFrame}
theorem vx_callBack (cb : CallB R s args own index y bytes maxL ret ws rm mc ms n) (hM : vx_Met l y ws rm Pc Qc XC mc ms free) (hbl : FrameBlind Pc) : vx_Back l R p e below s args y 3 8 (PreOf R mc ms Pc) (PostOf Qc mc ms free) (vx_Post XC mc ms free) := by
  obtain ⟨hrc, hrs, hfr, hlo, hws, hcw, -, hini, -⟩ := cb
  exact vx_back (bytes := bytes) (maxL := maxL) (ret := ret) hM hbl hrc hrs hfr hlo hws hcw (fun a' U hW => word_at hW (Or.inl (by first | rfl | simp [Cond.onTables, Cond.keeps, Cond.steady])) hini)
theorem vx_runV (S : CallFix p m c cc nL s args Ts own) (hM : vx_Met l y ws rm Pc Qc XC mc ms free) (cw : CallW R s args own C index y bytes maxL ret ws rm mc ms n) (hp : PreV s H C b Pc As)
    (hg : g.method = m) (hn : As.length = n) (hsize : g.locals.size = nL) (hstack : g.stack = As.reverse ++ .ref b :: rest) (hW : 2 * g.monitorRoom + (rest.map fun v => v.category).sum ≤ 8) (hdg : decode cc g.pc = .ok (.invokevirtual index, 3)) (hf : cells + mc ≤ R.cells ∧ slots + ms ≤ R.slots) :
    vx_Run p l e R s m args below meth c H locs cells slots mc ms g rest (Qc (Value.ref b :: As).toArray) XC free := by
  have hK : vx_Back l R p e below s args y 3 8 (PreOf R mc ms Pc) (PostOf Qc mc ms free) (vx_Post XC mc ms free) := vx_callBack cw.1 hM hp.1
  obtain ⟨⟨-, -, -, -, -, -, hcode, -, hy, hlen, hl⟩, hin, hse⟩ := cw
  obtain ⟨hx, hb, hml, ho, -⟩ := S
  obtain ⟨-, ⟨cellB, hcB, hoB, hclB⟩, hPc⟩ := hp
  intro T hT X
  rcases vx_callV X hx (C := C) (bytes := bytes) (maxL := maxL) (ret := ret) ho hl hin hse hcode hy hK (by rw [hT]; exact hcB) hoB hclB hg (hsize.trans hml.symm) (argsL := As) (rest := rest) (fun sig h => hn.trans (hlen sig h)) hstack hW (by rw [hb]; exact hdg)
    (fun vm₁ hW₁ => ⟨hf.1, hf.2, hPc (T.setVm vm₁) hT hW₁⟩) with ⟨v, vm₁, ⟨U', l2, c2, s2⟩, hW₁, X', ⟨g', mk, t, L, e1, e2, hq, h1, hL, h2, h3⟩, st⟩ | ⟨q, vm₁, ⟨U', l2, c2, s2⟩, hW₁, X', ⟨g', mk, t, L, E, ce, e1, e2, hq, hce, hcv, hcl, h1, hL, h2, h3⟩, st⟩
  · dsimp only [Pt.U, Pt.locs, Pt.cells, Pt.slots] at X' e1 e2 h1 h2 h3 st
    subst h1; subst h2; subst h3
    exact Or.inl ⟨v, (T.setVm vm₁).calling g' mk (Value.ref b :: As).toArray, t, U', L, hT, X', hL, e1, e2, hq, st⟩
  · dsimp only [Pt.U, Pt.locs, Pt.cells, Pt.slots] at X' e1 e2 h1 h2 h3 st hcl
    subst h1; subst h2; subst h3
    exact Or.inr ⟨q, (T.setVm vm₁).calling g' mk (Value.ref b :: As).toArray, t, U', L, E, ce, hT, X', hL, e1, e2, hq, hce, hcv, vx_cls hW₁ hcl, st⟩
theorem vx_runS (S : CallFix p m c cc nL s args Ts own) (hM : vx_Met l y ws rm Pc Qc XC mc ms free) (cw : CallB R s args own index y bytes maxL ret ws rm mc ms n ∧ (Cond.static y).before args s = true) (hp : PreS s H Pc As)
    (hg : g.method = m) (hn : As.length = n) (hsize : g.locals.size = nL) (hstack : g.stack = As.reverse ++ rest) (hW : 2 * g.monitorRoom + (rest.map fun v => v.category).sum ≤ 8) (hdg : decode cc g.pc = .ok (.invokestatic index, 3)) (hf : cells + mc ≤ R.cells ∧ slots + ms ≤ R.slots) :
    vx_Run p l e R s m args below meth c H locs cells slots mc ms g rest (Qc As.toArray) XC free := by
  have hK : vx_Back l R p e below s args y 3 8 (PreOf R mc ms Pc) (PostOf Qc mc ms free) (vx_Post XC mc ms free) := vx_callBack cw.1 hM hp.1
  obtain ⟨⟨-, -, -, -, -, -, hcode, hini, hy, hlen, hl⟩, hstt⟩ := cw
  obtain ⟨hx, hb, hml, ho, -⟩ := S
  intro T hT X
  rcases vx_callS X hx (bytes := bytes) (maxL := maxL) (ret := ret) ho hl hstt hini hcode hy hK hg (hsize.trans hml.symm) (argsL := As) (rest := rest) (fun sig h => hn.trans (hlen sig h)) hstack hW (by rw [hb]; exact hdg)
    (fun vm₁ hW₁ => ⟨hf.1, hf.2, hp.2 (T.setVm vm₁) hT hW₁⟩) with ⟨v, vm₁, ⟨U', l2, c2, s2⟩, hW₁, X', ⟨g', mk, t, L, e1, e2, hq, h1, hL, h2, h3⟩, st⟩ | ⟨q, vm₁, ⟨U', l2, c2, s2⟩, hW₁, X', ⟨g', mk, t, L, E, ce, e1, e2, hq, hce, hcv, hcl, h1, hL, h2, h3⟩, st⟩
  · dsimp only [Pt.U, Pt.locs, Pt.cells, Pt.slots] at X' e1 e2 h1 h2 h3 st
    subst h1; subst h2; subst h3
    exact Or.inl ⟨v, (T.setVm vm₁).calling g' mk As.toArray, t, U', L, hT, X', hL, e1, e2, hq, st⟩
  · dsimp only [Pt.U, Pt.locs, Pt.cells, Pt.slots] at X' e1 e2 h1 h2 h3 st hcl
    subst h1; subst h2; subst h3
    exact Or.inr ⟨q, (T.setVm vm₁).calling g' mk As.toArray, t, U', L, E, ce, hT, X', hL, e1, e2, hq, hce, hcv, vx_cls hW₁ hcl, st⟩
end Runs
section Rows
variable {p : Program} {l : Launch} {e : Env} {R : Room} {s : State} {m : MethodId} {args : Array Value} {below : List Frame} {meth : Method} {c : Code} {H : Heap} {locs : List Loc} {cells slots : Nat} {Q : State → Prop}
variable {mc ms : Nat} {free : Addr → Prop} {A0 A1 : Nat → Prop} {H0 : Heap} {a : Array Value} {pc : Nat} {ls : Array Slot} {st0 rest : List Value}
theorem vx_keep {st₀ t T' : State} {L : List Loc} (h0 : st₀.heap = H) (e1 : T'.heap = t.heap) (hS : va_S A0 H0 H locs) (hA : ∀ q, q < H.size → A1 q → A0 q) (hf : ∀ q, free q → A0 q) (hL : ∀ q ∈ L, free q.base) (hF : va_F A1 st₀ t) :
    H.size ≤ T'.heap.size ∧ (∀ q : Nat, q < H.size → ¬ A1 q → T'.heap[q]? = H[q]?) ∧ va_S A0 H0 T'.heap (locs ++ L) := by
  obtain ⟨hz, hk⟩ := hF
  rw [h0] at hz hk
  exact ⟨by rw [e1]; exact hz, fun q h1 h2 => by rw [e1]; exact hk q h1 h2,
    ⟨Nat.le_trans hS.1 (by rw [e1]; exact hz), fun q h1 h2 => by rw [e1, hk q (Nat.lt_of_lt_of_le h1 hS.1) (fun z => h2 (hA q (Nat.lt_of_lt_of_le h1 hS.1) z))]; exact hS.2.1 q h1 h2, fun q hq => by
      rcases List.mem_append.mp hq with h | h
      · exact hS.2.2 q h
      · exact hf _ (hL q h)⟩⟩
theorem vx_calli {S SX : Type} {post : Int32 → S → Prop} {px : SX → Prop} {B : S → State → Prop} {BX : String → SX → State → Prop} {AX : Nat → Prop} (hr : vx_Run p l e R s m args below meth c H locs cells slots mc ms (F0 m pc ls st0) rest (va_Qi post B A1 a) (vx_X px BX AX) free) (hS : va_S A0 H0 H locs) (hA : ∀ q, q < H.size → A1 q → A0 q) (hf : ∀ q, free q → A0 q) (hAX : ∀ q, q < H.size → AX q → A0 q)
    (kx : ∀ (E : String) (ce : Cell) (q9 : Addr) (u : SX) (t : State) (H1 : Heap) (locs1 : List Loc), t.heap = H1 → s.vm.Alike t.vm → px u → BX E u t → H.size ≤ H1.size → (∀ q : Nat, q < H.size → ¬ AX q → H1[q]? = H[q]?) → va_S A0 H0 H1 locs1 → H1[q9]? = some ce → ce.vm = .none → s.vm.findClass E = some ce.cls → vx_W p l e R s m args below meth c H1 locs1 (cells + mc) (slots + ms) Q (F0 m pc ls rest) q9)
    (kk : ∀ (r : Int32) (u : S) (t : State) (H1 : Heap) (locs1 : List Loc), t.heap = H1 → s.vm.Alike t.vm → post r u → B u t → H.size ≤ H1.size → (∀ q : Nat, q < H.size → ¬ A1 q → H1[q]? = H[q]?) → va_S A0 H0 H1 locs1 → W p l e R s m args below meth c H1 locs1 (cells + mc) (slots + ms) Q (F0 m (pc + 3) ls (.int r :: rest))) : W p l e R s m args below meth c H locs cells slots Q (F0 m pc ls st0) := by
  intro T hT X
  rcases hr T hT X with ⟨v, st₀, t, T', L, h0, X', hL, e1, e2, ⟨⟨r, u, hv, hp, hb⟩, hF⟩, st⟩ | ⟨q, st₀, t, T', L, E, ce, h0, X', hL, e1, e2, ⟨u, hp, hb, hF⟩, hce, hcv, hcl, st⟩
  · cases hv
    obtain ⟨k1, k2, k3⟩ := vx_keep h0 e1 hS hA hf hL hF
    obtain ⟨t2, a1, b1⟩ := kk r u t T'.heap (locs ++ L) e1.symm (by rw [← e2]; exact X'.warmed.alike) hp hb k1 k2 k3 T' rfl X'
    exact ⟨t2, st t2 a1, b1⟩
  · obtain ⟨k1, k2, k3⟩ := vx_keep h0 e1 hS hAX hf hL hF
    obtain ⟨t2, a1, b1⟩ := kx E ce q u t T'.heap (locs ++ L) e1.symm (by rw [← e2]; exact X'.warmed.alike) hp hb k1 k2 k3 (by rw [e1]; exact hce) hcv hcl T' rfl X'
    exact ⟨t2, st.trans a1, b1⟩
theorem vx_calll {S SX : Type} {post : Int64 → S → Prop} {px : SX → Prop} {B : S → State → Prop} {BX : String → SX → State → Prop} {AX : Nat → Prop} (hr : vx_Run p l e R s m args below meth c H locs cells slots mc ms (F0 m pc ls st0) rest (va_Ql post B A1 a) (vx_X px BX AX) free) (hS : va_S A0 H0 H locs) (hA : ∀ q, q < H.size → A1 q → A0 q) (hf : ∀ q, free q → A0 q) (hAX : ∀ q, q < H.size → AX q → A0 q)
    (kx : ∀ (E : String) (ce : Cell) (q9 : Addr) (u : SX) (t : State) (H1 : Heap) (locs1 : List Loc), t.heap = H1 → s.vm.Alike t.vm → px u → BX E u t → H.size ≤ H1.size → (∀ q : Nat, q < H.size → ¬ AX q → H1[q]? = H[q]?) → va_S A0 H0 H1 locs1 → H1[q9]? = some ce → ce.vm = .none → s.vm.findClass E = some ce.cls → vx_W p l e R s m args below meth c H1 locs1 (cells + mc) (slots + ms) Q (F0 m pc ls rest) q9)
    (kk : ∀ (r : Int64) (u : S) (t : State) (H1 : Heap) (locs1 : List Loc), t.heap = H1 → s.vm.Alike t.vm → post r u → B u t → H.size ≤ H1.size → (∀ q : Nat, q < H.size → ¬ A1 q → H1[q]? = H[q]?) → va_S A0 H0 H1 locs1 → W p l e R s m args below meth c H1 locs1 (cells + mc) (slots + ms) Q (F0 m (pc + 3) ls (.long r :: rest))) : W p l e R s m args below meth c H locs cells slots Q (F0 m pc ls st0) := by
  intro T hT X
  rcases hr T hT X with ⟨v, st₀, t, T', L, h0, X', hL, e1, e2, ⟨⟨r, u, hv, hp, hb⟩, hF⟩, st⟩ | ⟨q, st₀, t, T', L, E, ce, h0, X', hL, e1, e2, ⟨u, hp, hb, hF⟩, hce, hcv, hcl, st⟩
  · cases hv
    obtain ⟨k1, k2, k3⟩ := vx_keep h0 e1 hS hA hf hL hF
    obtain ⟨t2, a1, b1⟩ := kk r u t T'.heap (locs ++ L) e1.symm (by rw [← e2]; exact X'.warmed.alike) hp hb k1 k2 k3 T' rfl X'
    exact ⟨t2, st t2 a1, b1⟩
  · obtain ⟨k1, k2, k3⟩ := vx_keep h0 e1 hS hAX hf hL hF
    obtain ⟨t2, a1, b1⟩ := kx E ce q u t T'.heap (locs ++ L) e1.symm (by rw [← e2]; exact X'.warmed.alike) hp hb k1 k2 k3 (by rw [e1]; exact hce) hcv hcl T' rfl X'
    exact ⟨t2, st.trans a1, b1⟩
theorem vx_callf {S SX : Type} {post : UInt32 → S → Prop} {px : SX → Prop} {B : S → State → Prop} {BX : String → SX → State → Prop} {AX : Nat → Prop} (hr : vx_Run p l e R s m args below meth c H locs cells slots mc ms (F0 m pc ls st0) rest (va_Qf post B A1 a) (vx_X px BX AX) free) (hS : va_S A0 H0 H locs) (hA : ∀ q, q < H.size → A1 q → A0 q) (hf : ∀ q, free q → A0 q) (hAX : ∀ q, q < H.size → AX q → A0 q)
    (kx : ∀ (E : String) (ce : Cell) (q9 : Addr) (u : SX) (t : State) (H1 : Heap) (locs1 : List Loc), t.heap = H1 → s.vm.Alike t.vm → px u → BX E u t → H.size ≤ H1.size → (∀ q : Nat, q < H.size → ¬ AX q → H1[q]? = H[q]?) → va_S A0 H0 H1 locs1 → H1[q9]? = some ce → ce.vm = .none → s.vm.findClass E = some ce.cls → vx_W p l e R s m args below meth c H1 locs1 (cells + mc) (slots + ms) Q (F0 m pc ls rest) q9)
    (kk : ∀ (r : UInt32) (u : S) (t : State) (H1 : Heap) (locs1 : List Loc), t.heap = H1 → s.vm.Alike t.vm → post r u → B u t → H.size ≤ H1.size → (∀ q : Nat, q < H.size → ¬ A1 q → H1[q]? = H[q]?) → va_S A0 H0 H1 locs1 → W p l e R s m args below meth c H1 locs1 (cells + mc) (slots + ms) Q (F0 m (pc + 3) ls (.float r :: rest))) : W p l e R s m args below meth c H locs cells slots Q (F0 m pc ls st0) := by
  intro T hT X
  rcases hr T hT X with ⟨v, st₀, t, T', L, h0, X', hL, e1, e2, ⟨⟨r, u, hv, hp, hb⟩, hF⟩, st⟩ | ⟨q, st₀, t, T', L, E, ce, h0, X', hL, e1, e2, ⟨u, hp, hb, hF⟩, hce, hcv, hcl, st⟩
  · cases hv
    obtain ⟨k1, k2, k3⟩ := vx_keep h0 e1 hS hA hf hL hF
    obtain ⟨t2, a1, b1⟩ := kk r u t T'.heap (locs ++ L) e1.symm (by rw [← e2]; exact X'.warmed.alike) hp hb k1 k2 k3 T' rfl X'
    exact ⟨t2, st t2 a1, b1⟩
  · obtain ⟨k1, k2, k3⟩ := vx_keep h0 e1 hS hAX hf hL hF
    obtain ⟨t2, a1, b1⟩ := kx E ce q u t T'.heap (locs ++ L) e1.symm (by rw [← e2]; exact X'.warmed.alike) hp hb k1 k2 k3 (by rw [e1]; exact hce) hcv hcl T' rfl X'
    exact ⟨t2, st.trans a1, b1⟩
theorem vx_calld {S SX : Type} {post : UInt64 → S → Prop} {px : SX → Prop} {B : S → State → Prop} {BX : String → SX → State → Prop} {AX : Nat → Prop} (hr : vx_Run p l e R s m args below meth c H locs cells slots mc ms (F0 m pc ls st0) rest (va_Qd post B A1 a) (vx_X px BX AX) free) (hS : va_S A0 H0 H locs) (hA : ∀ q, q < H.size → A1 q → A0 q) (hf : ∀ q, free q → A0 q) (hAX : ∀ q, q < H.size → AX q → A0 q)
    (kx : ∀ (E : String) (ce : Cell) (q9 : Addr) (u : SX) (t : State) (H1 : Heap) (locs1 : List Loc), t.heap = H1 → s.vm.Alike t.vm → px u → BX E u t → H.size ≤ H1.size → (∀ q : Nat, q < H.size → ¬ AX q → H1[q]? = H[q]?) → va_S A0 H0 H1 locs1 → H1[q9]? = some ce → ce.vm = .none → s.vm.findClass E = some ce.cls → vx_W p l e R s m args below meth c H1 locs1 (cells + mc) (slots + ms) Q (F0 m pc ls rest) q9)
    (kk : ∀ (r : UInt64) (u : S) (t : State) (H1 : Heap) (locs1 : List Loc), t.heap = H1 → s.vm.Alike t.vm → post r u → B u t → H.size ≤ H1.size → (∀ q : Nat, q < H.size → ¬ A1 q → H1[q]? = H[q]?) → va_S A0 H0 H1 locs1 → W p l e R s m args below meth c H1 locs1 (cells + mc) (slots + ms) Q (F0 m (pc + 3) ls (.double r :: rest))) : W p l e R s m args below meth c H locs cells slots Q (F0 m pc ls st0) := by
  intro T hT X
  rcases hr T hT X with ⟨v, st₀, t, T', L, h0, X', hL, e1, e2, ⟨⟨r, u, hv, hp, hb⟩, hF⟩, st⟩ | ⟨q, st₀, t, T', L, E, ce, h0, X', hL, e1, e2, ⟨u, hp, hb, hF⟩, hce, hcv, hcl, st⟩
  · cases hv
    obtain ⟨k1, k2, k3⟩ := vx_keep h0 e1 hS hA hf hL hF
    obtain ⟨t2, a1, b1⟩ := kk r u t T'.heap (locs ++ L) e1.symm (by rw [← e2]; exact X'.warmed.alike) hp hb k1 k2 k3 T' rfl X'
    exact ⟨t2, st t2 a1, b1⟩
  · obtain ⟨k1, k2, k3⟩ := vx_keep h0 e1 hS hAX hf hL hF
    obtain ⟨t2, a1, b1⟩ := kx E ce q u t T'.heap (locs ++ L) e1.symm (by rw [← e2]; exact X'.warmed.alike) hp hb k1 k2 k3 (by rw [e1]; exact hce) hcv hcl T' rfl X'
    exact ⟨t2, st.trans a1, b1⟩
theorem vx_callv {S SX : Type} {post : S → Prop} {px : SX → Prop} {B : S → State → Prop} {BX : String → SX → State → Prop} {AX : Nat → Prop} (hr : vx_Run p l e R s m args below meth c H locs cells slots mc ms (F0 m pc ls st0) rest (va_Qv post B A1 a) (vx_X px BX AX) free) (hS : va_S A0 H0 H locs) (hA : ∀ q, q < H.size → A1 q → A0 q) (hf : ∀ q, free q → A0 q) (hAX : ∀ q, q < H.size → AX q → A0 q)
    (kx : ∀ (E : String) (ce : Cell) (q9 : Addr) (u : SX) (t : State) (H1 : Heap) (locs1 : List Loc), t.heap = H1 → s.vm.Alike t.vm → px u → BX E u t → H.size ≤ H1.size → (∀ q : Nat, q < H.size → ¬ AX q → H1[q]? = H[q]?) → va_S A0 H0 H1 locs1 → H1[q9]? = some ce → ce.vm = .none → s.vm.findClass E = some ce.cls → vx_W p l e R s m args below meth c H1 locs1 (cells + mc) (slots + ms) Q (F0 m pc ls rest) q9)
    (kk : ∀ (u : S) (t : State) (H1 : Heap) (locs1 : List Loc), t.heap = H1 → s.vm.Alike t.vm → post u → B u t → H.size ≤ H1.size → (∀ q : Nat, q < H.size → ¬ A1 q → H1[q]? = H[q]?) → va_S A0 H0 H1 locs1 → W p l e R s m args below meth c H1 locs1 (cells + mc) (slots + ms) Q (F0 m (pc + 3) ls (rest))) : W p l e R s m args below meth c H locs cells slots Q (F0 m pc ls st0) := by
  intro T hT X
  rcases hr T hT X with ⟨v, st₀, t, T', L, h0, X', hL, e1, e2, ⟨⟨u, hv, hp, hb⟩, hF⟩, st⟩ | ⟨q, st₀, t, T', L, E, ce, h0, X', hL, e1, e2, ⟨u, hp, hb, hF⟩, hce, hcv, hcl, st⟩
  · cases hv
    obtain ⟨k1, k2, k3⟩ := vx_keep h0 e1 hS hA hf hL hF
    obtain ⟨t2, a1, b1⟩ := kk u t T'.heap (locs ++ L) e1.symm (by rw [← e2]; exact X'.warmed.alike) hp hb k1 k2 k3 T' rfl X'
    exact ⟨t2, st t2 a1, b1⟩
  · obtain ⟨k1, k2, k3⟩ := vx_keep h0 e1 hS hAX hf hL hF
    obtain ⟨t2, a1, b1⟩ := kx E ce q u t T'.heap (locs ++ L) e1.symm (by rw [← e2]; exact X'.warmed.alike) hp hb k1 k2 k3 (by rw [e1]; exact hce) hcv hcl T' rfl X'
    exact ⟨t2, st.trans a1, b1⟩
/-- caught by the row x of this method's table; the rows ahead don't take it -/
theorem vx_catch {own name : String} {E : String} {ce : Cell} {q : Addr} (hown : s.vm.findClass own = some m.cls) (pre : List ExceptionTableEntry) (x : ExceptionTableEntry) (suf : List ExceptionTableEntry) (hsplit : c.exceptionTable.toList = pre ++ x :: suf)
    (hpass : ∀ z ∈ pre, covers z pc = false ∨ (z.catchType ≠ 0 ∧ ∃ nm : String, (Cond.classLink own z.catchType nm).before args s = true ∧ va_Nc E nm s)) (hx : covers x pc = true) (h0 : x.catchType ≠ 0)
    (hlink : (Cond.classLink own x.catchType name).before args s = true) (hcast : (Cond.castable E name).before args s = true) (hcell : H[q]? = some ce) (hv : ce.vm = .none) (hcl : s.vm.findClass E = some ce.cls)
    (kk : W p l e R s m args below meth c H locs cells slots Q (F0 m x.handlerPc ls [.ref q])) : vx_W p l e R s m args below meth c H locs cells slots Q (F0 m pc ls rest) q := by
  intro T hT X
  have hpl : e.platform.magicAccessors = ({} : Platform).magicAccessors := by rw [X.admits.platform]
  obtain ⟨c3, c4, hc3, hc4, hasg⟩ := Cond.castable_spec hcast
  cases Option.some.inj (hc3.symm.trans hcl)
  obtain ⟨c5, hc5, hcl5⟩ := Cond.classLink_spec hown hlink e.platform hpl
  cases Option.some.inj (hc4.symm.trans hc5)
  obtain ⟨vm', X', st⟩ := X.thenCaughtThrough q (g := F0 m pc ls rest) rfl (Steps.refl _) (by rw [hT]; exact hcell) (by rw [hv]; rfl) (by obtain ⟨k9, h9, -⟩ := Vm.findClass_spec hcl; exact ⟨k9, h9⟩) pre x suf hsplit
    (fun z hz => by
      rcases hpass z hz with h | ⟨hz0, nm, hl1, hn1⟩
      · exact Or.inl h
      · obtain ⟨c6, hc6, hcl6⟩ := Cond.classLink_spec hown hl1 e.platform hpl
        obtain ⟨a8, b8, h1, h2, h3⟩ := hn1
        cases Option.some.inj (h1.symm.trans hcl)
        cases Option.some.inj (h2.symm.trans hc6)
        exact Or.inr ⟨hz0, _, hcl6, h3⟩) hx (Or.inr ⟨h0, c4, hcl5, hasg⟩)
  obtain ⟨t, a1, b1⟩ := kk (T.setVm vm') hT X'
  exact ⟨t, st.trans a1, b1⟩
end Rows
section Ends
variable {p : Program} {l : Launch} {e : Env} {R : Room} {s : State} {m : MethodId} {args : Array Value} {below : List Frame} {meth : Method} {c : Code} {H : Heap} {locs : List Loc} {cells slots : Nat} {Q : State → Prop}
variable {mc ms : Nat} {free : Addr → Prop} {A0 A1 : Nat → Prop} {H0 : Heap} {a : Array Value} {ls : Array Slot} {st0 rest : List Value}
variable {Qc : Array Value → State → Outcome → State → Prop} {XC : String → State → State → Prop}
/-- what a body that may throw owes at its end -/
def vx_MQ (below : List Frame) (Qc : Array Value → State → Outcome → State → Prop) (XC : String → State → State → Prop) (a : Array Value) (s : State) (mc ms : Nat) (free : Addr → Prop) : State → Prop := fun t =>
  ∃ o, t.status = .running ∧ Ended t below o ∧ vx_Q Qc XC mc ms free a s o t
theorem vx_ret {g : JFrame} {mc ms : Nat} (k : W p l e R s m args below meth c H locs cells slots (MQ below Qc args s mc ms free) g) : W p l e R s m args below meth c H locs cells slots (vx_MQ below Qc XC args s mc ms free) g := by
  intro T hT X
  obtain ⟨t, a1, o, b1, b2, b3, b4⟩ := k T hT X
  exact ⟨t, a1, o, b1, b2, Or.inl ⟨b3, b4⟩⟩
/-- not caught here: it goes on to the caller -/
theorem vx_widen {g : JFrame} {q : Addr} {k n : Nat} (h1 : cells ≤ k) (h2 : slots ≤ n) (kk : vx_W p l e R s m args below meth c H locs k n Q g q) : vx_W p l e R s m args below meth c H locs cells slots Q g q := fun T hT X => kk T hT (stand_widen X h1 h2)
theorem vx_out {pc : Nat} {E : String} {ce : Cell} {q : Addr} {mc ms : Nat} (hout : ∀ x ∈ c.exceptionTable.toList, covers x pc = false) (hlocks : meth.locks = false) (hcell : H[q]? = some ce) (hv : ce.vm = .none) (hcl : s.vm.findClass E = some ce.cls)
    (hx : ∀ t : State, t.heap = H → s.vm.Alike t.vm → XC E s t) (hf : ∀ z ∈ locs, free z.base) (hc : cells ≤ mc) (hs : slots ≤ ms) :
    vx_W p l e R s m args below meth c H locs cells slots (vx_MQ below Qc XC args s mc ms free) (F0 m pc ls rest) q := by
  intro T hT X
  obtain ⟨st1, hrun, hend, hW, hsm⟩ := X.leaveThrown q (g := F0 m pc ls rest) rfl rfl rfl hout hlocks
  have hcell9 : (T.setFrames (.throwing q :: below)).heap[q]? = some ce := by
    show T.heap[q]? = some ce
    rw [hT]; exact hcell
  exact ⟨_, st1, .threw q, hrun, hend, Or.inr ⟨q, rfl, E, ce, locs, hx _ hT hW.alike, hcell9, hv, hcl, hW, hsm.mono hc hs, hf⟩⟩
theorem vx_frame {U : State} {k n : Nat} (h : s.sameButNew ({ U with vm := s.vm } : State) locs k n) : s.heap.size ≤ U.heap.size ∧ ∀ q : Nat, q < s.heap.size → (∀ z ∈ locs, z.base ≠ q) → U.heap[q]? = s.heap[q]? := by
  obtain ⟨-, h2, -, -, -, h6⟩ := h
  refine ⟨h2, fun q hq hz => ?_⟩
  obtain ⟨c9, e1, e2, e3, e4⟩ := h6 q _ (Array.getElem?_eq_getElem hq)
  have hs : c9.slots = (s.heap[q]).slots := Array.ext_getElem? fun i => e4 i fun hm => hz _ hm rfl
  have h9 : c9 = s.heap[q] := by
    rw [hs] at e2
    exact e2
  have e5 : U.heap[q]? = some c9 := e1
  rw [e5, h9, Array.getElem?_eq_getElem hq]
/-- the words of a throw but the four that speak of the heap -/
def vx_no (w : Cond) : Bool := decide (w ≠ .isRef (.static Bundle.tN "UNASSIGNED_STACK" Bundle.steD)) && decide (w ≠ .isRef (.static Bundle.tN "SUPPRESSED_SENTINEL" Bundle.listD)) && decide (w ≠ .laysStatic Bundle.tN "UNASSIGNED_STACK" Bundle.steD) && decide (w ≠ .laysStatic Bundle.tN "SUPPRESSED_SENTINEL" Bundle.listD)
def vx_at0 (own : String) (ic : Nat) (X : String) (names : List String) : List Cond := (Bundle.ownAtoms0 own ic X names).filter vx_no
def vx_atS (own : String) (ic : Nat) (X : String) (names : List String) : List Cond := (Bundle.ownAtoms own ic X names).filter vx_no
/-- a word that the tables alone decide, or a good one -/
def vx_ot (w : Cond) : Bool := w.onTables || goodWord w
theorem vx_ot_at {args a' : Array Value} {s U : State} {w : Cond} (hW : s.WarmedH U.vm) (hvm : s.vm = U.vm) (hg : vx_ot w = true) (h : w.before args s = true) : w.before a' U = true := by
  simp only [vx_ot, Bool.or_eq_true] at hg
  rcases hg with hg | hg
  · exact va_tabs hg hvm h
  · exact word_at hW (good_of_word hg) h
/-- a list's words: the good ones out of the method's own list, the others by premises of their own -/
theorem vx_hat {args : Array Value} {s : State} {L B : List Cond} (h1 : ∀ w ∈ L.filter goodWord, w.before args s = true) (h2 : ∀ w ∈ L.filter (fun w => !goodWord w), w ∈ B) (h3 : ∀ w ∈ B, w.before args s = true) : ∀ w ∈ L, w.before args s = true := by
  intro w hw
  by_cases g : goodWord w = true
  · exact h1 w (List.mem_filter.mpr ⟨hw, g⟩)
  · refine h3 w (h2 w (List.mem_filter.mpr ⟨hw, ?_⟩))
    show (!goodWord w) = true
    cases hgw : goodWord w
    · rfl
    · exact absurd hgw g
theorem vx_c {args : Array Value} {s : State} {w : Cond} {B : List Cond} (h : w.before args s = true) (t : ∀ w ∈ B, w.before args s = true) : ∀ w' ∈ w :: B, w'.before args s = true := fun w' h' => (List.mem_cons.mp h').elim (fun e => by rw [e]; exact h) (t w')
theorem vx_n {args : Array Value} {s : State} : ∀ w ∈ ([] : List Cond), w.before args s = true := fun _ h => nomatch h
theorem vx_own {args : Array Value} {s : State} {L : List Cond} (h1 : ∀ w ∈ L.filter vx_no, w.before args s = true)
    (hU : (Cond.isRef (.static Bundle.tN "UNASSIGNED_STACK" Bundle.steD)).before args s = true) (hN : (Cond.isRef (.static Bundle.tN "SUPPRESSED_SENTINEL" Bundle.listD)).before args s = true)
    (lU : (Cond.laysStatic Bundle.tN "UNASSIGNED_STACK" Bundle.steD).before args s = true) (lN : (Cond.laysStatic Bundle.tN "SUPPRESSED_SENTINEL" Bundle.listD).before args s = true) : ∀ w ∈ L, w.before args s = true := by
  intro w hw
  by_cases e1 : w = .isRef (.static Bundle.tN "UNASSIGNED_STACK" Bundle.steD)
  · rw [e1]; exact hU
  · by_cases e2 : w = .isRef (.static Bundle.tN "SUPPRESSED_SENTINEL" Bundle.listD)
    · rw [e2]; exact hN
    · by_cases e3 : w = .laysStatic Bundle.tN "UNASSIGNED_STACK" Bundle.steD
      · rw [e3]; exact lU
      · by_cases e4 : w = .laysStatic Bundle.tN "SUPPRESSED_SENTINEL" Bundle.listD
        · rw [e4]; exact lN
        · exact h1 w (List.mem_filter.mpr ⟨hw, by unfold vx_no; rw [decide_eq_true e1, decide_eq_true e2, decide_eq_true e3, decide_eq_true e4]; rfl⟩)
/-- where a static field lies, its class's statics cell in H -/
def vx_L (C n d : String) (A : Nat → Prop) (U : State) (H : Heap) : Prop := ∃ (c : ClassId) (k : Class) (i : Nat) (f : Field) (a : Nat) (cell : Cell), U.vm.findClass C = some c ∧ U.fieldFound? C n d = some (c, k, i, f) ∧ f.isStatic = true ∧ k.statics = some a ∧ H[a]? = some cell ∧ cell.vm.isStatics = true ∧ cell.cls = c ∧ f.slot < cell.slots.size ∧ k.staticTypes[f.slot]? = some f.type ∧ ¬ A a
theorem vx_L.moved {C n d : String} {A : Nat → Prop} {u U : State} {H : Heap} (hvm : u.vm.Alike U.vm) (h : vx_L C n d A u H) : vx_L C n d A U H := by
  obtain ⟨c, k, i, f, a, cell, h1, h2, h3, h4, h5, h6, h7, h8, h9, h10⟩ := h
  obtain ⟨k', hi', he⟩ := State.fieldFound?_setVm hvm h2
  exact ⟨c, k', i, f, a, cell, by rw [hvm.findClass]; exact h1, hi', h3, by rw [he]; exact h4, h5, h6, h7, h8, by rw [he]; exact h9, h10⟩
theorem vx_L.kept {C n d : String} {A : Nat → Prop} {U : State} {H H1 : Heap} (h : vx_L C n d A U H) (hq : ∀ a : Nat, a < H.size → ¬ A a → H1[a]? = H[a]?) : vx_L C n d A U H1 := by
  obtain ⟨c, k, i, f, a, cell, h1, h2, h3, h4, h5, h6, h7, h8, h9, h10⟩ := h
  exact ⟨c, k, i, f, a, cell, h1, h2, h3, h4, by rw [hq a (Array.getElem?_eq_some_iff.mp h5).1 h10]; exact h5, h6, h7, h8, h9, h10⟩
theorem vx_L.narrow {C n d : String} {A B : Nat → Prop} {U : State} {H : Heap} (h : vx_L C n d A U H) (hAB : ∀ q, B q → A q) : vx_L C n d B U H := by
  obtain ⟨c, k, i, f, a, cell, h1, h2, h3, h4, h5, h6, h7, h8, h9, h10⟩ := h
  exact ⟨c, k, i, f, a, cell, h1, h2, h3, h4, h5, h6, h7, h8, h9, fun z => h10 (hAB _ z)⟩
theorem vx_L.word {C n d : String} {A : Nat → Prop} {s : State} {args : Array Value} (h : vx_L C n d A s s.heap) : (Cond.laysStatic C n d).before args s = true := by
  obtain ⟨c, k, i, f, a, cell, h1, h2, h3, h4, h5, h6, h7, h8, h9, -⟩ := h
  show (Cond.laysStatic C n d).holds args s none s [] = true
  exact Cond.laysStatic_of h1 h2 h3 h4 h5 h6 h7 h8 h9
/-- .. and what it holds: null or some reference -/
def vx_Zq (C n d : String) (A : Nat → Prop) (U : State) (H : Heap) : Prop := va_Zq C n d A U H ∧ vx_L C n d A U H
theorem vx_Zq.moved {C n d : String} {A : Nat → Prop} {u U : State} {H : Heap} (hvm : u.vm.Alike U.vm) (h : vx_Zq C n d A u H) : vx_Zq C n d A U H := ⟨va_Zq.moved hvm h.1, vx_L.moved hvm h.2⟩
theorem vx_Zq.kept {C n d : String} {A : Nat → Prop} {U : State} {H H1 : Heap} (h : vx_Zq C n d A U H) (hq : ∀ a : Nat, a < H.size → ¬ A a → H1[a]? = H[a]?) : vx_Zq C n d A U H1 := ⟨va_Zq.kept h.1 hq, vx_L.kept h.2 hq⟩
theorem vx_Zq.narrow {C n d : String} {A B : Nat → Prop} {U : State} {H : Heap} (h : vx_Zq C n d A U H) (hAB : ∀ q, B q → A q) : vx_Zq C n d B U H := ⟨va_Zq.narrow h.1 hAB, vx_L.narrow h.2 hAB⟩
theorem vx_Zqof {args : Array Value} {s : State} {C n d : String} {A : Nat → Prop} (hl : (Cond.laysStatic C n d).before args s = true) (hini : (Cond.initialized C).before args s = true) (h : (Cond.isRef (.static C n d)).before args s = true) (hA : ∀ a : Nat, a < s.heap.size → ¬ A a) : vx_Zq C n d A s s.heap := by
  refine ⟨va_Zqof hl hini h hA, ?_⟩
  obtain ⟨c, k, i, f, a, cell, h1, h2, h3, h4, h5, h6, h7, h8, h9⟩ := Cond.laysStatic_spec hl
  exact ⟨c, k, i, f, a, cell, h1, h2, h3, h4, h5, h6, h7, h8, h9, hA a (Array.getElem?_eq_some_iff.mp h5).1⟩
theorem vx_isRef {C n d : String} {v : Value} {A : Nat → Prop} {s : State} {args : Array Value} (h : va_Z C n d v A s s.heap) (hv : v.isRef = true) : (Cond.isRef (.static C n d)).before args s = true := by
  obtain ⟨cf, kf, fi, f, a, cell, h1, h2, h3, h4, h5, h6, h7, -⟩ := h
  have he : (Term.static C n d).eval args s none [] s = some v := by
    simp [Term.eval, State.fieldNamed?, h1, h2, h4, h5, h6, h7]
  simp only [Cond.before, Cond.holds, Cond.value, he]
  cases v <;> simp_all [Value.isRef]
theorem vx_isRefq {C n d : String} {A : Nat → Prop} {s : State} {args : Array Value} (h : va_Zq C n d A s s.heap) : (Cond.isRef (.static C n d)).before args s = true := by
  rcases h with h | ⟨t, h⟩
  · exact vx_isRef h rfl
  · exact vx_isRef h rfl
/-- the same frame, seen from here: as if the method were called anew in this heap -/
theorem vx_rebase {T : State} (X : Stand p l e R s m args below meth c T locs cells slots) {R' : Room} (hf : R'.frames ≤ R.frames) (hl : R'.locals ≤ R.locals) (hc : cells + R'.cells ≤ R.cells) (hs : slots + R'.slots ≤ R.slots) :
    Stand p l e R' ((T.setVm s.vm).setFrames (.invoking m args :: below)) m args below meth c T [] 0 0 := by
  have htop : (T.setVm s.vm).topJava?.isSome := X.here.top
  have hF : ((T.setVm s.vm).setFrames (.invoking m args :: below)).frames = .invoking m args :: below := State.frames_setFrames _ (State.cur_lt_of_top htop)
  obtain ⟨g₀, hg0⟩ := Option.isSome_iff_exists.mp htop
  obtain ⟨r, hr⟩ := State.topJava?_eq_some.mp hg0
  have hl9 : e.platform.stackLimits (T.setVm s.vm).me = e.platform.stackLimits s.me := X.limits
  have hb9 : (T.setVm s.vm).me.stackBytes = s.me.stackBytes := X.bytes
  refine ⟨X.admits, X.cas, X.clock, hF, ?_, X.hears, X.method, X.code, X.here, X.tail, X.warmed, ?_, ?_, ?_⟩
  · have h := X.room
    have hU : ((T.setVm s.vm).setFrames (.invoking m args :: below)).localsInUse = s.localsInUse := by
      rw [State.localsInUse_invoking hF (meth := meth) (c := c) X.method X.code, State.localsInUse_invoking X.frames X.method X.code]
    simp only [State.hasRoom, Bool.and_eq_true, decide_eq_true_eq] at h ⊢
    obtain ⟨⟨⟨⟨h1, h2, h3, h4, h5, h6⟩, h7⟩, h8⟩, h9⟩ := h
    rw [X.frames, List.length_cons] at h2 h3
    have q1 := X.heapSize
    have q2 := X.used
    simp only [hF, hU, List.length_cons, State.stackLimits_setFrames, State.stackBytes_setFrames, hl9, hb9]
    refine ⟨⟨⟨⟨by omega, by omega, by omega, by omega, by omega, h6⟩, ?_⟩, ?_⟩, X.book⟩
    · show T.heap.size + R'.cells ≤ e.platform.maxCells
      omega
    · show T.slotsUsed + R'.slots ≤ e.platform.maxSlots
      omega
  · rw [State.stackLimits_setFrames]; rfl
  · rw [State.stackBytes_setFrames]; rfl
  · refine ⟨?_, Nat.le_refl _, Nat.le_refl _, ?_, ?_, fun a c9 h9 => ⟨c9, h9, rfl, rfl, fun _ _ => rfl⟩⟩
    · obtain ⟨t, ht, -⟩ := State.frames_cons hr
      show T.setVm s.vm = { ((T.setVm s.vm).setFrames (.invoking m args :: below)).setFrames (T.setVm s.vm).frames with heap := T.heap, slotsUsed := T.slotsUsed }
      rw [State.setFrames_setFrames, State.setFrames_self ht]
      rfl
    · show T.slotsUsed = T.slotsUsed + ((T.heap.toList.drop T.heap.size).map (·.slots.size)).sum
      rw [List.drop_eq_nil_of_le (Nat.le_of_eq Array.length_toList)]
      rfl
    · show ((T.heap.toList.drop T.heap.size).map (·.slots.size)).sum ≤ 0
      rw [List.drop_eq_nil_of_le (Nat.le_of_eq Array.length_toList)]
      exact Nat.le_refl _
/-- 'throw new E()': new; dup; invokespecial; athrow -/
theorem vx_throw0 {cc : ByteArray} {pc : Nat} (hexec : p.tables.exec = Jvm.exec) (hb : c.code = cc) (hl : l.stackTraces = false) {own cls : String} {names : List String} {ik ic mc ms : Nat} {A : Nat → Prop}
    (hown : s.vm.findClass own = some m.cls) (hcls : Bundle.fit cls = true) (hnames : ∀ n ∈ names, Bundle.fit n = true)
    (hk : (Cond.classLink own ik cls).before args s = true) (hini : (Cond.initialized cls).before args s = true) (hat : ∀ w ∈ vx_at0 own ic cls names, w.before args s = true)
    (hgood : ∀ w ∈ Cond.classLink own ik cls :: Cond.initialized cls :: vx_at0 own ic cls names, vx_ot w = true)
    (hU : vx_Zq Bundle.tN "UNASSIGNED_STACK" Bundle.steD A s s.heap) (hN : vx_Zq Bundle.tN "SUPPRESSED_SENTINEL" Bundle.listD A s s.heap) (hS : va_S A s.heap H locs) (hsize : ls.size = c.maxLocals)
    (d0 : decode cc pc = .ok (.new ik, 3)) (d3 : decode cc (pc + 3) = .ok (.dup, 1)) (d4 : decode cc (pc + 4) = .ok (.invokespecial ic, 3)) (d7 : decode cc (pc + 7) = .ok (.athrow, 1))
    (hout : ∀ x ∈ c.exceptionTable.toList, covers x (pc + 7) = false)
    (hRframes : names.length + 3 < R.frames) (hRlocals : (rest.map fun v => v.category).sum + (13 * (names.length + 1) + 42) ≤ R.locals) (hRcells : cells + 1 ≤ R.cells) (hRslots : slots + 6 ≤ R.slots) (hlocks : meth.locks = false)
    (hx : ∀ t : State, s.vm.Alike t.vm → H.size ≤ t.heap.size → (∀ q : Nat, q < H.size → t.heap[q]? = H[q]?) → XC cls s t)
    (hf : ∀ z ∈ locs, free z.base) (hc : cells + 1 ≤ mc) (hs : slots + 6 ≤ ms) :
    W p l e R s m args below meth c H locs cells slots (vx_MQ below Qc XC args s mc ms free) (F0 m pc ls rest) := by
  intro T hT X
  have htr : e.platform.stackTraces = false := (show e.platform.stackTraces = l.stackTraces by rw [X.admits.platform]).trans hl
  have Y := vx_rebase X (R' := { frames := R.frames, locals := R.locals, cells := 1, slots := 6 }) (Nat.le_refl _) (Nat.le_refl _) hRcells hRslots
  obtain ⟨s', hA⟩ : ∃ z, z = (T.setVm s.vm).setFrames (.invoking m args :: below) := ⟨_, rfl⟩
  rw [← hA] at Y
  have hvm : s'.vm = s.vm := by rw [hA]; rfl
  have hhp : s'.heap = H := by rw [hA]; exact hT
  have hW0 : s.WarmedH s'.vm := by rw [hvm]; exact State.WarmedH.refl s
  have hat' : ∀ w ∈ vx_at0 own ic cls names, w.before args s' = true := fun w hw => vx_ot_at hW0 hvm.symm (hgood w (List.mem_cons_of_mem _ (List.mem_cons_of_mem _ hw))) (hat w hw)
  have hk' : (Cond.classLink own ik cls).before args s' = true := vx_ot_at hW0 hvm.symm (hgood _ List.mem_cons_self) hk
  have hini' : (Cond.initialized cls).before args s' = true := vx_ot_at hW0 hvm.symm (hgood _ (List.mem_cons_of_mem _ List.mem_cons_self)) hini
  have hU' : vx_Zq Bundle.tN "UNASSIGNED_STACK" Bundle.steD A s' s'.heap := by rw [hhp]; exact vx_Zq.moved hW0.alike (hU.kept hS.2.1)
  have hN' : vx_Zq Bundle.tN "SUPPRESSED_SENTINEL" Bundle.listD A s' s'.heap := by rw [hhp]; exact vx_Zq.moved hW0.alike (hN.kept hS.2.1)
  have h : ∀ w ∈ Bundle.ownAtoms0 own ic cls names, w.before args s' = true := vx_own hat' (vx_isRefq hU'.1) (vx_isRefq hN'.1) hU'.2.word hN'.2.word
  have hown' : s'.vm.findClass own = some m.cls := by rw [hvm]; exact hown
  have hins : (Cond.instantiable cls 6).before args s' = true := h _ (by simp [Bundle.ownAtoms0])
  obtain ⟨vm₁, cX, kX, hfX, hkX, -, -, X₁, st1⟩ := Y.newCold hexec (own := own) (C := cls) (index := ik) (n := 6) hown' hk' hins hini'
    (g := F0 m pc ls rest) rfl (by rw [hb]; exact d0) (Nat.le_refl _) (Nat.le_refl _)
  generalize hT1 : (T.setVm vm₁).pushCell { cls := cX, slots := kX.instanceTypes.map defaultValue, vm := .none } = T1 at X₁ st1
  have hcat : (Value.ref T.heap.size).category = 1 := rfl
  have hcellA : T1.heap[T.heap.size]? = some (freshCell cX kX) := by rw [← hT1]; exact State.heap_pushCell_size _ _
  have d3' : decode c.code (pc + 3) = .ok (.dup, 1) := by rw [hb]; exact d3
  obtain ⟨U, hsteps, hrun, hend, hW, hsame, ce, hce, hO⟩ := X₁.ctorThrow0 hexec htr (own := own) (cls := cls) (names := names) (ic := ic) hown' hcls hnames h (fun x hx => nomatch hx) hfX hkX hcellA (by rw [hhp, hT]; exact Nat.le_refl _)
    (g := { method := m, pc := pc + 4, locals := ls, stack := .ref T.heap.size :: .ref T.heap.size :: rest, locked := none }) rfl hsize rfl rfl (rest := rest) rfl
    (by rw [hb]; exact d4) (by rw [hb]; exact d7) hout hRframes (by simp only [List.map_cons, List.sum_cons, hcat]; omega) hlocks
  obtain ⟨f1, f2⟩ := vx_frame hsame
  rw [hhp] at f1 f2
  have hWs : s.WarmedH U.vm := State.WarmedH.trans hW0 hW
  have hcl : s.vm.findClass cls = some ce.cls := by
    have h9 := hO.cls
    rw [hvm] at h9
    exact h9
  have hall : s.sameButNew ({ U with vm := s.vm } : State) locs mc ms := by
    subst hA
    obtain ⟨e1, e2⟩ := hsame
    rw [State.setFrames_setFrames] at e1
    have h2 : (T.setVm s.vm).sameButNew ({ U with vm := s.vm } : State) [] (0 + 1) (0 + 6) := ⟨e1, e2⟩
    have h3 := X.same.trans h2
    rw [List.append_nil] at h3
    exact h3.mono hc hs
  refine ⟨U, ?_, .threw T.heap.size, hrun, hend, Or.inr ⟨T.heap.size, rfl, cls, ce, locs, hx U hWs.alike f1 (fun q hq => f2 q hq (fun z hz => nomatch hz)), hce, hO.vm, hcl, hWs, hall, hf⟩⟩
  refine st1 _ ?_
  show Steps p.tables e below (T1.setTop { method := m, pc := pc + 3, locals := ls, stack := .ref T.heap.size :: rest, locked := none }) _
  jvm_step X₁.here [X₁.here.top, hexec, d3', Value.category]
  exact hsteps
/-- 'throw new E("text")': new; dup; ldc; invokespecial; athrow -/
theorem vx_throwS {cc : ByteArray} {pc : Nat} (hexec : p.tables.exec = Jvm.exec) (hb : c.code = cc) (hl : l.stackTraces = false) {own cls text : String} {names : List String} {ik is ic mc ms sa : Nat} {A : Nat → Prop}
    (hown : s.vm.findClass own = some m.cls) (hcls : Bundle.fit cls = true) (hnames : ∀ n ∈ names, Bundle.fit n = true)
    (hk : (Cond.classLink own ik cls).before args s = true) (hini : (Cond.initialized cls).before args s = true) (hstr : vk_R own is text sa s) (hat : ∀ w ∈ vx_atS own ic cls names, w.before args s = true)
    (hgood : ∀ w ∈ Cond.classLink own ik cls :: Cond.initialized cls :: vx_atS own ic cls names, vx_ot w = true)
    (hU : vx_Zq Bundle.tN "UNASSIGNED_STACK" Bundle.steD A s s.heap) (hN : vx_Zq Bundle.tN "SUPPRESSED_SENTINEL" Bundle.listD A s s.heap) (hS : va_S A s.heap H locs) (hsize : ls.size = c.maxLocals)
    (d0 : decode cc pc = .ok (.new ik, 3)) (d3 : decode cc (pc + 3) = .ok (.dup, 1)) (d4 : decode cc (pc + 4) = .ok (.ldc is, 2)) (d6 : decode cc (pc + 6) = .ok (.invokespecial ic, 3)) (d9 : decode cc (pc + 9) = .ok (.athrow, 1))
    (hout : ∀ x ∈ c.exceptionTable.toList, covers x (pc + 9) = false)
    (hRframes : names.length + 3 < R.frames) (hRlocals : (rest.map fun v => v.category).sum + (13 * (names.length + 1) + 43) ≤ R.locals) (hRcells : cells + 1 ≤ R.cells) (hRslots : slots + 6 ≤ R.slots) (hlocks : meth.locks = false)
    (hx : ∀ t : State, s.vm.Alike t.vm → H.size ≤ t.heap.size → (∀ q : Nat, q < H.size → t.heap[q]? = H[q]?) → XC cls s t)
    (hf : ∀ z ∈ locs, free z.base) (hc : cells + 1 ≤ mc) (hs : slots + 6 ≤ ms) :
    W p l e R s m args below meth c H locs cells slots (vx_MQ below Qc XC args s mc ms free) (F0 m pc ls rest) := by
  intro T hT X
  have htr : e.platform.stackTraces = false := (show e.platform.stackTraces = l.stackTraces by rw [X.admits.platform]).trans hl
  have Y := vx_rebase X (R' := { frames := R.frames, locals := R.locals, cells := 1, slots := 6 }) (Nat.le_refl _) (Nat.le_refl _) hRcells hRslots
  obtain ⟨s', hA⟩ : ∃ z, z = (T.setVm s.vm).setFrames (.invoking m args :: below) := ⟨_, rfl⟩
  rw [← hA] at Y
  have hvm : s'.vm = s.vm := by rw [hA]; rfl
  have hhp : s'.heap = H := by rw [hA]; exact hT
  have hW0 : s.WarmedH s'.vm := by rw [hvm]; exact State.WarmedH.refl s
  have hat' : ∀ w ∈ vx_atS own ic cls names, w.before args s' = true := fun w hw => vx_ot_at hW0 hvm.symm (hgood w (List.mem_cons_of_mem _ (List.mem_cons_of_mem _ hw))) (hat w hw)
  have hk' : (Cond.classLink own ik cls).before args s' = true := vx_ot_at hW0 hvm.symm (hgood _ List.mem_cons_self) hk
  have hini' : (Cond.initialized cls).before args s' = true := vx_ot_at hW0 hvm.symm (hgood _ (List.mem_cons_of_mem _ List.mem_cons_self)) hini
  have hU' : vx_Zq Bundle.tN "UNASSIGNED_STACK" Bundle.steD A s' s'.heap := by rw [hhp]; exact vx_Zq.moved hW0.alike (hU.kept hS.2.1)
  have hN' : vx_Zq Bundle.tN "SUPPRESSED_SENTINEL" Bundle.listD A s' s'.heap := by rw [hhp]; exact vx_Zq.moved hW0.alike (hN.kept hS.2.1)
  have h : ∀ w ∈ Bundle.ownAtoms own ic cls names, w.before args s' = true := vx_own hat' (vx_isRefq hU'.1) (vx_isRefq hN'.1) hU'.2.word hN'.2.word
  have hown' : s'.vm.findClass own = some m.cls := by rw [hvm]; exact hown
  have hins : (Cond.instantiable cls 6).before args s' = true := h _ (by simp [Bundle.ownAtoms])
  obtain ⟨vm₁, cX, kX, hfX, hkX, -, -, X₁, st1⟩ := Y.newCold hexec (own := own) (C := cls) (index := ik) (n := 6) hown' hk' hins hini'
    (g := F0 m pc ls rest) rfl (by rw [hb]; exact d0) (Nat.le_refl _) (Nat.le_refl _)
  generalize hT1 : (T.setVm vm₁).pushCell { cls := cX, slots := kX.instanceTypes.map defaultValue, vm := .none } = T1 at X₁ st1
  have hcat : (Value.ref T.heap.size).category = 1 := rfl
  have hcellA : T1.heap[T.heap.size]? = some (freshCell cX kX) := by rw [← hT1]; exact State.heap_pushCell_size _ _
  have d3' : decode c.code (pc + 3) = .ok (.dup, 1) := by rw [hb]; exact d3
  have d4' : decode c.code (pc + 4) = .ok (.ldc is, 2) := by rw [hb]; exact d4
  have hstr' : vk_R own is text sa s' := vk_R.warm hW0 hstr
  obtain ⟨U, hsteps, hrun, hend, hW, hsame, ce, hce, hO⟩ := X₁.ctorThrowS hexec htr (own := own) (cls := cls) (names := names) (ic := ic) hown' hcls hnames h (fun x hx => nomatch hx) hfX hkX hcellA (by rw [hhp, hT]; exact Nat.le_refl _) (msg := .ref sa) rfl
    (g := { method := m, pc := pc + 6, locals := ls, stack := .ref sa :: .ref T.heap.size :: .ref T.heap.size :: rest, locked := none }) rfl hsize rfl rfl (rest := rest) rfl
    (by rw [hb]; exact d6) (by rw [hb]; exact d9) hout hRframes (by simp only [List.map_cons, List.sum_cons, hcat]; omega) hlocks
  obtain ⟨f1, f2⟩ := vx_frame hsame
  rw [hhp] at f1 f2
  have hWs : s.WarmedH U.vm := State.WarmedH.trans hW0 hW
  have hcl : s.vm.findClass cls = some ce.cls := by
    have h9 := hO.cls
    rw [hvm] at h9
    exact h9
  have hall : s.sameButNew ({ U with vm := s.vm } : State) locs mc ms := by
    subst hA
    obtain ⟨e1, e2⟩ := hsame
    rw [State.setFrames_setFrames] at e1
    have h2 : (T.setVm s.vm).sameButNew ({ U with vm := s.vm } : State) [] (0 + 1) (0 + 6) := ⟨e1, e2⟩
    have h3 := X.same.trans h2
    rw [List.append_nil] at h3
    exact h3.mono hc hs
  refine ⟨U, ?_, .threw T.heap.size, hrun, hend, Or.inr ⟨T.heap.size, rfl, cls, ce, locs, hx U hWs.alike f1 (fun q hq => f2 q hq (fun z hz => nomatch hz)), hce, hO.vm, hcl, hWs, hall, hf⟩⟩
  refine st1 _ ?_
  show Steps p.tables e below (T1.setTop { method := m, pc := pc + 3, locals := ls, stack := .ref T.heap.size :: rest, locked := none }) _
  jvm_step X₁.here [X₁.here.top, hexec, d3', Value.category]
  exact X₁.ldcString hexec (own := own) (text := text) (index := is) (a := sa) hown' hstr'.1 hstr'.2
    (g := { method := m, pc := pc + 4, locals := ls, stack := .ref T.heap.size :: .ref T.heap.size :: rest, locked := none }) rfl d4' _ hsteps
/-- 'throw new E("text")', the text by a wide index -/
theorem vx_throwSW {cc : ByteArray} {pc : Nat} (hexec : p.tables.exec = Jvm.exec) (hb : c.code = cc) (hl : l.stackTraces = false) {own cls text : String} {names : List String} {ik is ic mc ms sa : Nat} {A : Nat → Prop}
    (hown : s.vm.findClass own = some m.cls) (hcls : Bundle.fit cls = true) (hnames : ∀ n ∈ names, Bundle.fit n = true)
    (hk : (Cond.classLink own ik cls).before args s = true) (hini : (Cond.initialized cls).before args s = true) (hstr : vk_R own is text sa s) (hat : ∀ w ∈ vx_atS own ic cls names, w.before args s = true)
    (hgood : ∀ w ∈ Cond.classLink own ik cls :: Cond.initialized cls :: vx_atS own ic cls names, vx_ot w = true)
    (hU : vx_Zq Bundle.tN "UNASSIGNED_STACK" Bundle.steD A s s.heap) (hN : vx_Zq Bundle.tN "SUPPRESSED_SENTINEL" Bundle.listD A s s.heap) (hS : va_S A s.heap H locs) (hsize : ls.size = c.maxLocals)
    (d0 : decode cc pc = .ok (.new ik, 3)) (d3 : decode cc (pc + 3) = .ok (.dup, 1)) (d4 : decode cc (pc + 4) = .ok (.ldc_w is, 3)) (d7 : decode cc (pc + 7) = .ok (.invokespecial ic, 3)) (d10 : decode cc (pc + 10) = .ok (.athrow, 1))
    (hout : ∀ x ∈ c.exceptionTable.toList, covers x (pc + 10) = false)
    (hRframes : names.length + 3 < R.frames) (hRlocals : (rest.map fun v => v.category).sum + (13 * (names.length + 1) + 43) ≤ R.locals) (hRcells : cells + 1 ≤ R.cells) (hRslots : slots + 6 ≤ R.slots) (hlocks : meth.locks = false)
    (hx : ∀ t : State, s.vm.Alike t.vm → H.size ≤ t.heap.size → (∀ q : Nat, q < H.size → t.heap[q]? = H[q]?) → XC cls s t)
    (hf : ∀ z ∈ locs, free z.base) (hc : cells + 1 ≤ mc) (hs : slots + 6 ≤ ms) :
    W p l e R s m args below meth c H locs cells slots (vx_MQ below Qc XC args s mc ms free) (F0 m pc ls rest) := by
  intro T hT X
  have htr : e.platform.stackTraces = false := (show e.platform.stackTraces = l.stackTraces by rw [X.admits.platform]).trans hl
  have Y := vx_rebase X (R' := { frames := R.frames, locals := R.locals, cells := 1, slots := 6 }) (Nat.le_refl _) (Nat.le_refl _) hRcells hRslots
  obtain ⟨s', hA⟩ : ∃ z, z = (T.setVm s.vm).setFrames (.invoking m args :: below) := ⟨_, rfl⟩
  rw [← hA] at Y
  have hvm : s'.vm = s.vm := by rw [hA]; rfl
  have hhp : s'.heap = H := by rw [hA]; exact hT
  have hW0 : s.WarmedH s'.vm := by rw [hvm]; exact State.WarmedH.refl s
  have hat' : ∀ w ∈ vx_atS own ic cls names, w.before args s' = true := fun w hw => vx_ot_at hW0 hvm.symm (hgood w (List.mem_cons_of_mem _ (List.mem_cons_of_mem _ hw))) (hat w hw)
  have hk' : (Cond.classLink own ik cls).before args s' = true := vx_ot_at hW0 hvm.symm (hgood _ List.mem_cons_self) hk
  have hini' : (Cond.initialized cls).before args s' = true := vx_ot_at hW0 hvm.symm (hgood _ (List.mem_cons_of_mem _ List.mem_cons_self)) hini
  have hU' : vx_Zq Bundle.tN "UNASSIGNED_STACK" Bundle.steD A s' s'.heap := by rw [hhp]; exact vx_Zq.moved hW0.alike (hU.kept hS.2.1)
  have hN' : vx_Zq Bundle.tN "SUPPRESSED_SENTINEL" Bundle.listD A s' s'.heap := by rw [hhp]; exact vx_Zq.moved hW0.alike (hN.kept hS.2.1)
  have h : ∀ w ∈ Bundle.ownAtoms own ic cls names, w.before args s' = true := vx_own hat' (vx_isRefq hU'.1) (vx_isRefq hN'.1) hU'.2.word hN'.2.word
  have hown' : s'.vm.findClass own = some m.cls := by rw [hvm]; exact hown
  have hins : (Cond.instantiable cls 6).before args s' = true := h _ (by simp [Bundle.ownAtoms])
  obtain ⟨vm₁, cX, kX, hfX, hkX, -, -, X₁, st1⟩ := Y.newCold hexec (own := own) (C := cls) (index := ik) (n := 6) hown' hk' hins hini'
    (g := F0 m pc ls rest) rfl (by rw [hb]; exact d0) (Nat.le_refl _) (Nat.le_refl _)
  generalize hT1 : (T.setVm vm₁).pushCell { cls := cX, slots := kX.instanceTypes.map defaultValue, vm := .none } = T1 at X₁ st1
  have hcat : (Value.ref T.heap.size).category = 1 := rfl
  have hcellA : T1.heap[T.heap.size]? = some (freshCell cX kX) := by rw [← hT1]; exact State.heap_pushCell_size _ _
  have d3' : decode c.code (pc + 3) = .ok (.dup, 1) := by rw [hb]; exact d3
  have d4' : decode c.code (pc + 4) = .ok (.ldc_w is, 3) := by rw [hb]; exact d4
  have hstr' : vk_R own is text sa s' := vk_R.warm hW0 hstr
  obtain ⟨U, hsteps, hrun, hend, hW, hsame, ce, hce, hO⟩ := X₁.ctorThrowS hexec htr (own := own) (cls := cls) (names := names) (ic := ic) hown' hcls hnames h (fun x hx => nomatch hx) hfX hkX hcellA (by rw [hhp, hT]; exact Nat.le_refl _) (msg := .ref sa) rfl
    (g := { method := m, pc := pc + 7, locals := ls, stack := .ref sa :: .ref T.heap.size :: .ref T.heap.size :: rest, locked := none }) rfl hsize rfl rfl (rest := rest) rfl
    (by rw [hb]; exact d7) (by rw [hb]; exact d10) hout hRframes (by simp only [List.map_cons, List.sum_cons, hcat]; omega) hlocks
  obtain ⟨f1, f2⟩ := vx_frame hsame
  rw [hhp] at f1 f2
  have hWs : s.WarmedH U.vm := State.WarmedH.trans hW0 hW
  have hcl : s.vm.findClass cls = some ce.cls := by
    have h9 := hO.cls
    rw [hvm] at h9
    exact h9
  have hall : s.sameButNew ({ U with vm := s.vm } : State) locs mc ms := by
    subst hA
    obtain ⟨e1, e2⟩ := hsame
    rw [State.setFrames_setFrames] at e1
    have h2 : (T.setVm s.vm).sameButNew ({ U with vm := s.vm } : State) [] (0 + 1) (0 + 6) := ⟨e1, e2⟩
    have h3 := X.same.trans h2
    rw [List.append_nil] at h3
    exact h3.mono hc hs
  refine ⟨U, ?_, .threw T.heap.size, hrun, hend, Or.inr ⟨T.heap.size, rfl, cls, ce, locs, hx U hWs.alike f1 (fun q hq => f2 q hq (fun z hz => nomatch hz)), hce, hO.vm, hcl, hWs, hall, hf⟩⟩
  refine st1 _ ?_
  show Steps p.tables e below (T1.setTop { method := m, pc := pc + 3, locals := ls, stack := .ref T.heap.size :: rest, locked := none }) _
  jvm_step X₁.here [X₁.here.top, hexec, d3', Value.category]
  exact X₁.ldcStringW hexec (own := own) (text := text) (index := is) (a := sa) hown' hstr'.1 hstr'.2
    (g := { method := m, pc := pc + 4, locals := ls, stack := .ref T.heap.size :: .ref T.heap.size :: rest, locked := none }) rfl d4' _ hsteps
end Ends
section Bodies
variable {l : Launch}
theorem vx_ofW {y : MethodName} {ws ws' : List Cond} {rm : Room} {Pc : Array Value → State → Prop} {Qc : Array Value → State → Outcome → State → Prop} {XC : String → State → State → Prop} {mc ms : Nat} {free : Addr → Prop} {cc : ByteArray} {maxL : Nat} {ret : Option FieldType}
    (hy : plainName y.cls = true) (hw : ws = Cond.code y cc maxL ret :: ws')
    (body : ∀ p e s m args below meth c s₁, BodyLoose p l y (headSpec ws rm) cc maxL ret e s m args below meth c s₁ → c.maxLocals = maxL → (∀ x ∈ c.exceptionTable.toList, False) → Pc args s →
      W p l e (headSpec ws rm).room s m args below meth c s.heap [] 0 0 (vx_MQ below Qc XC args s mc ms free) (entryFrame m args maxL)) : vx_Met l y ws rm Pc Qc XC mc ms free := by
  refine MetFree.of_bodyS (code := cc) (maxLocals := maxL) (ret := ret) hy ?_ ?_
  · intro args s m h hn
    obtain ⟨meth, c, h1, h2, h3, h4, h5, h6, -, -⟩ := Cond.code_spec hn (atoms_spec (ws := ws) h _ (by rw [hw]; exact List.mem_cons_self))
    exact ⟨meth, c, h1, h2, h3, h4, h5, h6⟩
  · intro p e s m args below meth c s₁ B hml hP _
    have hh0 : s₁.heap = s.heap := by rw [B.state]; rfl
    have ht : ∀ x ∈ c.exceptionTable.toList, False := by
      obtain ⟨meth9, c9, h1, h2, -, -, -, -, h7, -⟩ := Cond.code_spec B.named (atoms_spec (ws := ws) B.pre _ (by rw [hw]; exact List.mem_cons_self))
      cases Option.some.inj (h1.symm.trans B.method)
      cases Option.some.inj (h2.symm.trans (Stand.of_body B).code)
      intro x hx
      rw [Array.isEmpty_iff.mp h7] at hx
      cases hx
    obtain ⟨t, a1, o, b1, b2, b3⟩ := body p e s m args below meth c s₁ B hml ht hP s₁ hh0 (Stand.of_body B)
    exact ⟨t, o, a1, b1, b2, b3⟩
/-- the table of a body with handlers -/
theorem vx_table {p : Program} {x y : MethodName} {S : Spec} {cc bytes : ByteArray} {maxL maxL' : Nat} {ret ret' : Option FieldType} {e : Env} {s s₁ : State} {m : MethodId} {args : Array Value} {below : List Frame} {meth : Method} {c : Code} {hh : List (Nat × Nat × Nat × Nat)}
    (B : BodyLoose p l y S cc maxL ret e s m args below meth c s₁) (h : (Cond.codeWith y bytes maxL' ret' hh).before args s = true) : c.exceptionTable.toList = tableOf hh := by
  obtain ⟨m9, meth9, c9, hn9, h1, h2, -, -, h6, -⟩ := Cond.codeWith_spec h
  cases Option.some.inj (hn9.symm.trans B.named)
  cases Option.some.inj (h1.symm.trans B.method)
  cases Option.some.inj (h2.symm.trans (Stand.of_body B).code)
  rw [← h6, table_eq]
end Bodies
end VXA
/-! ===== END ===== -/
/-! ===== BEGIN a static call of a method with an exception table ===== -/
section VXS
variable {p : Program} {l : Launch} {e : Env} {R : Room} {s : State} {m : MethodId} {args : Array Value} {below : List Frame} {meth : Method} {c : Code} {T : State} {H : Heap} {locs : List Loc} {cells slots : Nat}
abbrev vx_CSW (R : Room) (s : State) (args : Array Value) (own : String) (index : Nat) (y : MethodName) (bytes : ByteArray) (maxL : Nat) (ret : Option FieldType) (hh : List (Nat × Nat × Nat × Nat)) (ws : List Cond) (rm : Room) (mc ms n : Nat) : Prop :=
  (rm.cells = mc ∧ rm.slots = ms ∧ rm.frames + 1 ≤ R.frames ∧ 8 + (maxL + 11) + rm.locals ≤ R.locals ∧ (∀ w ∈ ws, ∀ (a' : Array Value) (U : State), s.WarmedH U.vm → w.before a' U = true) ∧ Cond.codeWith y bytes maxL ret hh ∈ ws) ∧
  (Cond.codeWith y bytes maxL ret hh).before args s = true ∧ (Cond.initialized y.cls).before args s = true ∧ (y.cls ≠ "java/lang/invoke/MethodHandle" ∧ y.cls ≠ "java/lang/invoke/VarHandle") ∧
  (∀ sig, parseMethodDescriptor y.desc = some sig → n = sig.parameters.length) ∧ (Cond.methodLink own index y).before args s = true ∧ (Cond.static y).before args s = true
theorem vx_cwSW {own : String} {index maxL mc ms : Nat} {y : MethodName} {bytes : ByteArray} {ret : Option FieldType} {hh : List (Nat × Nat × Nat × Nat)} {Ts ws ws' : List Cond} {rm : Room} (n : Nat) (ht : ∀ w ∈ Ts, w.before args s = true) (hT : GoodIn Ts (va_wsS own index y ws)) (hw : ws = Cond.codeWith y bytes maxL ret hh :: ws') (hrc : rm.cells = mc) (hrs : rm.slots = ms)
    (hd : y.cls ≠ "java/lang/invoke/MethodHandle" ∧ y.cls ≠ "java/lang/invoke/VarHandle" ∧ (parseMethodDescriptor y.desc).map (fun d => d.parameters.length) = some n) (hR : rm.frames + 1 ≤ R.frames ∧ 8 + (maxL + 11) + rm.locals ≤ R.locals) :
    vx_CSW R s args own index y bytes maxL ret hh ws rm mc ms n := by
  have ok : ∀ w ∈ va_wsS own index y ws, w.before args s = true := fun w h => ht w (hT w h).1
  have hG : GoodIn Ts ws := fun w h => hT w (by unfold va_wsS; exact List.mem_append_right _ h)
  have hc : Cond.codeWith y bytes maxL ret hh ∈ ws := by rw [hw]; exact List.mem_cons_self
  refine ⟨⟨hrc, hrs, hR.1, hR.2, pay_in ht hG, hc⟩, ht _ (hG _ hc).1, ok _ (by simp [va_wsS]), ⟨hd.1, hd.2.1⟩, fun sig h => ?_, ok _ (by simp [va_wsS]), ok _ (by simp [va_wsS])⟩
  have h2 := hd.2.2
  rw [h] at h2
  exact (Option.some.inj h2).symm
theorem vx_callSW (X : Stand p l e R s m args below meth c T locs cells slots) (hexec : p.tables.exec = Jvm.exec) {own : String} {index : Nat} {y : MethodName} {bytes : ByteArray} {maxL : Nat} {ret : Option FieldType} {hh : List (Nat × Nat × Nat × Nat)}
    (hown : s.vm.findClass own = some m.cls) (hlink : (Cond.methodLink own index y).before args s = true) (hstat : (Cond.static y).before args s = true) (hinit : (Cond.initialized y.cls).before args s = true)
    (hcode : (Cond.codeWith y bytes maxL ret hh).before args s = true) (hy : y.cls ≠ "java/lang/invoke/MethodHandle" ∧ y.cls ≠ "java/lang/invoke/VarHandle")
    {W9 : Nat} {Pre : Pt → Array Value → Prop} {Post : Pt → Array Value → Option Value → Pt → Prop} (hK : Back l R p e below s args y 3 W9 Pre Post)
    {g : JFrame} (hg : g.method = m) (hsize : g.locals.size = c.maxLocals) {argsL rest : List Value} (hlen : ∀ sig, parseMethodDescriptor y.desc = some sig → argsL.length = sig.parameters.length)
    (hstack : g.stack = argsL.reverse ++ rest) (hW : 2 * g.monitorRoom + (rest.map fun v => v.category).sum ≤ W9) (hdg : decode c.code g.pc = .ok (.invokestatic index, 3))
    (hpre : ∀ vm₁, s.WarmedH vm₁ → Pre ⟨T.setVm vm₁, locs, cells, slots⟩ argsL.toArray) :
    ∃ (v : Option Value) (vm₁ : Vm) (B : Pt), s.WarmedH vm₁ ∧ Stand p l e R s m args below meth c B.U B.locs B.cells B.slots ∧ Post ⟨T.setVm vm₁, locs, cells, slots⟩ argsL.toArray v B ∧
      ∀ target, Steps p.tables e below (B.U.setTop { g with pc := g.pc + 3, stack := v.toList ++ rest }) target → Steps p.tables e below (T.setTop g) target := by
  obtain ⟨mk, methM, cM, hnamed, hmethM, -, -, -, -, -, -, hsigM⟩ := Cond.codeWith_spec hcode
  have hstatic : methM.isStatic = true := Cond.static_spec hnamed hmethM hstat
  obtain ⟨kP, hkP, -⟩ := className_of_methodNamed hnamed
  have hinitP : kP.init = .initialized := Cond.initialized_spec (findClass_of_methodNamed hnamed) hkP hinit
  obtain ⟨vm₁, X₁, hstep₁⟩ := X.invokestatic hexec hown hlink hnamed hmethM hstatic hkP hinitP hy (g := g) hg (argsL := argsL) (rest := rest) (hlen _ hsigM) hstack hdg
  obtain ⟨v, B, X', hpost, hsteps⟩ := hK m meth c ⟨T.setVm vm₁, locs, cells, slots⟩ { g with stack := rest } (.invokestatic index) mk argsL.toArray X₁ hg hsize hdg hW (X₁.named hnamed) (hpre vm₁ X₁.warmed)
  exact ⟨v, vm₁, B, X₁.warmed, X', hpost, fun target h => hstep₁ _ fun acts => by rw [doInvoke_state]; exact hsteps.trans h⟩
theorem vx_runSW {y : MethodName} {bytes cc : ByteArray} {maxL nL mc ms n index : Nat} {ret : Option FieldType} {hh : List (Nat × Nat × Nat × Nat)} {ws : List Cond} {rm : Room} {Pc : Array Value → State → Prop} {Qc : Array Value → State → Outcome → State → Prop} {free : Addr → Prop} {Ts : List Cond} {own : String} {As rest : List Value} {g : JFrame}
    (S : CallFix p m c cc nL s args Ts own) (hM : Met l y ws rm Pc Qc mc ms free) (cw : vx_CSW R s args own index y bytes maxL ret hh ws rm mc ms n) (hp : PreS s H Pc As)
    (hg : g.method = m) (hn : As.length = n) (hsize : g.locals.size = nL) (hstack : g.stack = As.reverse ++ rest) (hW : 2 * g.monitorRoom + (rest.map fun v => v.category).sum ≤ 8) (hdg : decode cc g.pc = .ok (.invokestatic index, 3)) (hf : cells + mc ≤ R.cells ∧ slots + ms ≤ R.slots) :
    va_Run p l e R s m args below meth c H locs cells slots mc ms g rest (Qc As.toArray) (free) := by
  obtain ⟨⟨hrc, hrs, hfr, hlo, hws, hcw⟩, hcode, hini, hy, hlen, hl, hstt⟩ := cw
  have hK : Back l R p e below s args y 3 8 (PreOf R mc ms Pc) (PostOf Qc mc ms free) := va_backW (hh := hh) (bytes := bytes) (maxL := maxL) (ret := ret) hM hp.1 hrc hrs hfr hlo hws hcw (fun a' U hW => word_at hW (Or.inl (by first | rfl | simp [Cond.onTables, Cond.keeps, Cond.steady])) hini)
  obtain ⟨hx, hb, hml, ho, -⟩ := S
  intro T hT X
  obtain ⟨v, vm₁, ⟨U', l2, c2, s2⟩, hW₁, X', ⟨g', mk, t, L, e1, e2, hq, h1, hL, h2, h3⟩, st⟩ := vx_callSW X hx (hh := hh) (bytes := bytes) (maxL := maxL) (ret := ret) ho hl hstt hini hcode hy hK hg (hsize.trans hml.symm) (argsL := As) (rest := rest) (fun sig h => hn.trans (hlen sig h)) hstack hW (by rw [hb]; exact hdg)
    (fun vm₁ hW₁ => ⟨hf.1, hf.2, hp.2 (T.setVm vm₁) hT hW₁⟩)
  dsimp only [Pt.U, Pt.locs, Pt.cells, Pt.slots] at X' e1 e2 h1 h2 h3 st
  subst h1; subst h2; subst h3
  exact ⟨v, (T.setVm vm₁).calling g' mk As.toArray, t, U', L, hT, X', hL, e1, e2, hq, st⟩
/-- not caught here, past rows that name other classes: it goes on to the caller -/
theorem vx_outP {p : Program} {l : Launch} {e : Env} {R : Room} {s : State} {m : MethodId} {args : Array Value} {below : List Frame} {meth : Method} {c : Code} {H : Heap} {locs : List Loc} {cells slots : Nat} {free : Addr → Prop} {ls : Array Slot} {rest : List Value} {Qc : Array Value → State → Outcome → State → Prop} {XC : String → State → State → Prop}
    {pc : Nat} {own E : String} {ce : Cell} {q : Addr} {mc ms : Nat} (hown : s.vm.findClass own = some m.cls) (hlocks : meth.locks = false)
    (hpass : ∀ z ∈ c.exceptionTable.toList, covers z pc = false ∨ (z.catchType ≠ 0 ∧ ∃ nm : String, (Cond.classLink own z.catchType nm).before args s = true ∧ va_Nc E nm s)) (hcell : H[q]? = some ce) (hv : ce.vm = .none) (hcl : s.vm.findClass E = some ce.cls)
    (hx : ∀ t : State, t.heap = H → s.vm.Alike t.vm → XC E s t) (hf : ∀ z ∈ locs, free z.base) (hc : cells ≤ mc) (hs : slots ≤ ms) :
    vx_W p l e R s m args below meth c H locs cells slots (vx_MQ below Qc XC args s mc ms free) (F0 m pc ls rest) q := by
  intro T hT X
  have hpl : e.platform.magicAccessors = ({} : Platform).magicAccessors := by rw [X.admits.platform]
  obtain ⟨vm', hW', X', st⟩ := X.outThrough hlocks q (g := F0 m pc ls rest) rfl rfl rfl (cell := ce) (by rw [hT]; exact hcell) (by rw [hv]; rfl)
    (by obtain ⟨k9, h9, -⟩ := Vm.findClass_spec hcl; exact ⟨k9, h9⟩) (fun z hz => by
      rcases hpass z hz with h | ⟨hz0, nm, hl1, hn1⟩
      · exact Or.inl h
      · obtain ⟨c6, hc6, hcl6⟩ := Cond.classLink_spec hown hl1 e.platform hpl
        obtain ⟨a8, b8, h1, h2, h3⟩ := hn1
        cases Option.some.inj (h1.symm.trans hcl)
        cases Option.some.inj (h2.symm.trans hc6)
        exact Or.inr ⟨hz0, _, hcl6, h3⟩)
  obtain ⟨g₀, hfr⟩ := X'.frames_eq
  have hcell9 : ((T.setVm vm').setFrames (.throwing q :: below)).heap[q]? = some ce := by
    show T.heap[q]? = some ce
    rw [hT]; exact hcell
  have hend : Ended ((T.setVm vm').setFrames (.throwing q :: below)) below (.threw q) := State.frames_setFrames _ (State.cur_lt_of_frames hfr)
  refine ⟨(T.setVm vm').setFrames (.throwing q :: below), ?_, .threw q, X'.here.running, hend, Or.inr ⟨q, rfl, E, ce, locs, hx _ hT (X'.ends _).1.alike, hcell9, hv, hcl, (X'.ends _).1, (X'.ends _).2.mono hc hs, hf⟩⟩
  rw [X.pushThrowing_eq]
  exact st
/-- a thing of a world lies in the heap -/
theorem vx_lt {D : va_G} {cl : List vw_C} {ws : va_W} {H1 : Heap} (h : va_P D cl ws H1) {k : Nat} {q : Nat × va_E} (hk : ws[k]? = some q) : q.1 < H1.size := (h k q hk).lt
end VXS
/-! ===== END ===== -/
/-! ===== BEGIN methods with a table of their own: called by a name, returning or throwing ===== -/
section VXH
/-! vx_backW, vx_callVX, vx_callSX, vx_callVW, vx_runVW, vx_runVX, vx_runSX, vx_ofWH follow the same proofs as their sisters above (Free/Laws.lean, Shelf42/LK1.lean); vx_outP calls Shelf42/NT130.lean (outThrough). -/
section
variable {l : Launch} {R : Room} {p : Program} {e : Env} {below : List Frame} {s : State} {sargs : Array Value} {y : MethodName} {len W9 : Nat}
theorem vx_backW {ws : List Cond} {rm : Room} {Pc : Array Value → State → Prop} {Qc : Array Value → State → Outcome → State → Prop} {XC : String → State → State → Prop} {mc ms : Nat} {free : Addr → Prop} {bytes : ByteArray} {maxL : Nat} {ret : Option FieldType} {hh : List (Nat × Nat × Nat × Nat)}
    (hM : vx_Met l y ws rm Pc Qc XC mc ms free) (hblind : FrameBlind Pc) (hrc : rm.cells = mc) (hrs : rm.slots = ms)
    (hframes : rm.frames + 1 ≤ R.frames) (hlocals : W9 + (maxL + 11) + rm.locals ≤ R.locals)
    (hws : ∀ w ∈ ws, ∀ a' U, s.WarmedH U.vm → w.before a' U = true) (hcode : Cond.codeWith y bytes maxL ret hh ∈ ws) (hinit : ∀ a' U, s.WarmedH U.vm → (Cond.initialized y.cls).before a' U = true) :
    vx_Back l R p e below s sargs y len W9 (PreOf R mc ms Pc) (PostOf Qc mc ms free) (vx_Post XC mc ms free) := by
  intro m meth c A g ig mk a X hg hsize hdg hW hn hp
  have h1 : (headSpec ws rm).pre.before a A.U = true := atoms_intro fun w hw => hws w hw _ _ X.warmed
  have h2 : (Cond.codeWith y bytes maxL ret hh).before a A.U = true := hws _ hcode _ _ X.warmed
  have h3 : (Cond.initialized y.cls).before a A.U = true := hinit _ _ X.warmed
  have h4 : A.cells + (headSpec ws rm).room.cells ≤ R.cells := by rw [show (headSpec ws rm).room.cells = mc from hrc]; exact hp.1
  have h5 : A.slots + (headSpec ws rm).room.slots ≤ R.slots := by rw [show (headSpec ws rm).room.slots = ms from hrs]; exact hp.2.1
  have hPc : Pc a (A.U.calling g mk a) := hblind _ _ _ _ hp.2.2
  obtain ⟨U, Ls, c0, s0⟩ := A
  dsimp only [Pt.U, Pt.locs, Pt.cells, Pt.slots] at h1 h2 h3 h4 h5 X hn hPc ⊢
  obtain ⟨m9, methY, cY, hn9, hmY, hcY, -, hlY, -⟩ := Cond.codeWith_spec h2
  cases Option.some.inj (hn9.symm.trans hn)
  obtain ⟨kY, hkY, -⟩ := className_of_methodNamed hn
  have hinitY : kY.init = .initialized := Cond.initialized_spec (findClass_of_methodNamed hn) hkY h3
  have h : At U g.method c below := by rw [hg]; exact X.here
  have hlocals9 : W9 + (maxL + 11) + (headSpec ws rm).room.locals ≤ R.locals := hlocals
  have happ : (headSpec ws rm).appliesLoose y e.platform (U.calling g mk a) = true :=
    Spec.appliesLoose_calling (g := g) h hdg hn hkY hinitY
      (X.room_calling (g := g) (R' := (headSpec ws rm).room) hsize hmY hcY hframes (by rw [hlY]; omega) h4 h5) h1
  obtain ⟨mid, hmid⟩ := h.above
  have hfr : (U.setTop g).frames = (.java g :: mid) ++ below := by rw [State.frames_setTop' g h.top, hmid]; rfl
  obtain ⟨o, s₂, hsteps, -, hend, hq⟩ := Steps.callFree hM p X.admits X.cas X.clock (acts := []) hfr happ hPc trivial
  have hq' : vx_Q Qc XC mc ms free a (U.calling g mk a) o s₂ := hq
  rw [State.frames_setTop' g h.top] at hend
  obtain ⟨g₀, hg0⟩ := Option.isSome_iff_exists.mp h.top
  obtain ⟨r, hr⟩ := State.topJava?_eq_some.mp hg0
  have hr' : (({ U with heap := s₂.heap, slotsUsed := s₂.slotsUsed } : State).setVm s₂.vm).frames = .java g₀ :: r := hr
  rcases hq' with ⟨hqc, L, hfe, hL⟩ | ⟨q, rfl, E, ce, L, hx, hce, hcv, hcl, hW₂, hsm, hL⟩
  · obtain ⟨⟨v, rfl⟩, hW₂, e2, q2, q3, q4, q5, q6⟩ := id hfe
    have e3 : s₂ = ({ (U.calling g mk a).setFrames s₂.frames with heap := s₂.heap, slotsUsed := s₂.slotsUsed } : State).setVm s₂.vm := by
      have : s₂ = ({ s₂ with vm := (U.calling g mk a).vm } : State).setVm s₂.vm := rfl
      rw [e2] at this
      exact this
    obtain ⟨c₂, i₂, len₂, hc₂, hd₂, hf₂⟩ := hend
    have hW' : U.WarmedH s₂.vm := hW₂
    have hcc : c₂ = c := by
      have h1 : s₂.code? g.method = U.code? g.method := by
        rw [State.code?_eq, State.code?_eq, hW'.alike.method?]
      exact Option.some.inj (hc₂.symm.trans (h1.trans h.code))
    subst hcc
    have hlen : len₂ = len := by rw [hdg] at hd₂; cases hd₂; rfl
    subst hlen
    have hs₂ : s₂ = (({ U with heap := s₂.heap, slotsUsed := s₂.slotsUsed } : State).setVm s₂.vm).setTop { g with pc := g.pc + len₂, stack := v.toList ++ g.stack } := by
      refine e3.trans ?_
      rw [hf₂, State.calling_eq h.top, State.setFrames_setFrames, State.setTop_of_frames _ hr', hr]
      rfl
    have hsame : U.sameButNew ({ U with heap := s₂.heap, slotsUsed := s₂.slotsUsed } : State) L mc ms := by
      refine ⟨?_, q2, q3, q4, q5, q6⟩
      obtain ⟨t, ht, -⟩ := State.frames_cons hr
      show ({ U with heap := s₂.heap, slotsUsed := s₂.slotsUsed } : State) = { U.setFrames U.frames with heap := s₂.heap, slotsUsed := s₂.slotsUsed }
      rw [State.setFrames_self ht]
    subst hg
    refine Or.inl ⟨v, ⟨(({ U with heap := s₂.heap, slotsUsed := s₂.slotsUsed } : State).setVm s₂.vm), Ls ++ L, c0 + mc, s0 + ms⟩,
      ⟨X.admits, X.cas, X.clock, X.frames, X.room, X.hears, X.method, X.code, (X.here.setHeapUsed s₂.heap s₂.slotsUsed).setVm hW'.alike, X.tail, State.WarmedH.trans X.warmed hW', X.limits, X.bytes, X.same.trans (hsame.setVm s.vm)⟩,
      ⟨g, mk, s₂, L, rfl, rfl, hqc, rfl, hL, rfl, rfl⟩, ?_⟩
    show Steps p.tables e below _ ((({ U with heap := s₂.heap, slotsUsed := s₂.slotsUsed } : State).setVm s₂.vm).setTop { g with pc := g.pc + len₂, stack := v.toList ++ g.stack })
    rw [← hs₂]
    exact hsteps
  · obtain ⟨e2, q2, q3, q4, q5, q6⟩ := id hsm
    have e3 : s₂ = ({ (U.calling g mk a).setFrames s₂.frames with heap := s₂.heap, slotsUsed := s₂.slotsUsed } : State).setVm s₂.vm := by
      have : s₂ = ({ s₂ with vm := (U.calling g mk a).vm } : State).setVm s₂.vm := rfl
      rw [e2] at this
      exact this
    have hf₂ : s₂.frames = .throwing q :: .java g :: U.frames.tail := hend
    have hW' : U.WarmedH s₂.vm := hW₂
    have hs₂ : s₂ = ((({ U with heap := s₂.heap, slotsUsed := s₂.slotsUsed } : State).setVm s₂.vm).setTop g).pushFrame (.throwing q) := by
      refine e3.trans ?_
      rw [hf₂, State.calling_eq h.top, State.setFrames_setFrames, State.pushFrame, State.frames_setTop _ hr', State.setTop_of_frames _ hr', State.setFrames_setFrames, hr]
      rfl
    have hsame : U.sameButNew ({ U with heap := s₂.heap, slotsUsed := s₂.slotsUsed } : State) L mc ms := by
      refine ⟨?_, q2, q3, q4, q5, q6⟩
      obtain ⟨t, ht, -⟩ := State.frames_cons hr
      show ({ U with heap := s₂.heap, slotsUsed := s₂.slotsUsed } : State) = { U.setFrames U.frames with heap := s₂.heap, slotsUsed := s₂.slotsUsed }
      rw [State.setFrames_self ht]
    subst hg
    refine Or.inr ⟨q, ⟨(({ U with heap := s₂.heap, slotsUsed := s₂.slotsUsed } : State).setVm s₂.vm), Ls ++ L, c0 + mc, s0 + ms⟩,
      ⟨X.admits, X.cas, X.clock, X.frames, X.room, X.hears, X.method, X.code, (X.here.setHeapUsed s₂.heap s₂.slotsUsed).setVm hW'.alike, X.tail, State.WarmedH.trans X.warmed hW', X.limits, X.bytes, X.same.trans (hsame.setVm s.vm)⟩,
      ⟨g, mk, s₂, L, E, ce, rfl, rfl, hx, hce, hcv, hcl, rfl, hL, rfl, rfl⟩, ?_⟩
    show Steps p.tables e below _ (((({ U with heap := s₂.heap, slotsUsed := s₂.slotsUsed } : State).setVm s₂.vm).setTop g).pushFrame (.throwing q))
    rw [← hs₂]
    exact hsteps
end
variable {p : Program} {l : Launch} {e : Env} {R : Room} {s : State} {m : MethodId} {args : Array Value} {below : List Frame} {meth : Method} {c : Code} {T : State} {H : Heap} {locs : List Loc} {cells slots : Nat}
theorem vx_callVX (X : Stand p l e R s m args below meth c T locs cells slots) (hexec : p.tables.exec = Jvm.exec) {own C : String} {index : Nat} {y : MethodName} {bytes : ByteArray} {maxL : Nat} {ret : Option FieldType} {hh : List (Nat × Nat × Nat × Nat)}
    (hown : s.vm.findClass own = some m.cls) (hlink : (Cond.methodLink own index y).before args s = true) (hinst : (Cond.instanceMethod y).before args s = true) (hsel : (Cond.selects C y y).before args s = true)
    (hcode : (Cond.codeWith y bytes maxL ret hh).before args s = true) (hy : y.cls ≠ "java/lang/invoke/MethodHandle" ∧ y.cls ≠ "java/lang/invoke/VarHandle")
    {W9 : Nat} {Pre : Pt → Array Value → Prop} {Post : Pt → Array Value → Option Value → Pt → Prop} {PostX : Pt → Array Value → Addr → Pt → Prop} (hK : vx_Back l R p e below s args y 3 W9 Pre Post PostX)
    {b : Addr} {cellB : Cell} (hcell : T.heap[b]? = some cellB) (hobj : cellB.vm.isStatics = false) (hcls : s.vm.findClass C = some cellB.cls)
    {g : JFrame} (hg : g.method = m) (hsize : g.locals.size = c.maxLocals) {argsL rest : List Value} (hlen : ∀ sig, parseMethodDescriptor y.desc = some sig → argsL.length = sig.parameters.length)
    (hstack : g.stack = argsL.reverse ++ .ref b :: rest) (hW : 2 * g.monitorRoom + (rest.map fun v => v.category).sum ≤ W9) (hdg : decode c.code g.pc = .ok (.invokevirtual index, 3))
    (hpre : ∀ vm₁, s.WarmedH vm₁ → Pre ⟨T.setVm vm₁, locs, cells, slots⟩ (Value.ref b :: argsL).toArray) :
    (∃ (v : Option Value) (vm₁ : Vm) (B : Pt), s.WarmedH vm₁ ∧ Stand p l e R s m args below meth c B.U B.locs B.cells B.slots ∧ Post ⟨T.setVm vm₁, locs, cells, slots⟩ (Value.ref b :: argsL).toArray v B ∧
      ∀ target, Steps p.tables e below (B.U.setTop { g with pc := g.pc + 3, stack := v.toList ++ rest }) target → Steps p.tables e below (T.setTop g) target) ∨
    (∃ (q : Addr) (vm₁ : Vm) (B : Pt), s.WarmedH vm₁ ∧ Stand p l e R s m args below meth c B.U B.locs B.cells B.slots ∧ PostX ⟨T.setVm vm₁, locs, cells, slots⟩ (Value.ref b :: argsL).toArray q B ∧
      Steps p.tables e below (T.setTop g) ((B.U.setTop { g with stack := rest }).pushFrame (.throwing q))) := by
  obtain ⟨mk, methM, hnamed, hmethM, hstM, habM⟩ := Cond.instanceMethod_spec hinst
  obtain ⟨m8, methM', cM, hn8, hmethM', -, -, -, -, -, -, hsigM⟩ := Cond.codeWith_spec hcode
  cases Option.some.inj (hn8.symm.trans hnamed)
  cases hmethM.symm.trans hmethM'
  obtain ⟨c2, r2, m2, q1, q2, q3, q4, kP, hkP, hkPi⟩ := Cond.selects_spec hsel
  cases hcls.symm.trans q1
  cases (State.methodFound?_of_named hnamed hy).symm.trans q2
  cases hnamed.symm.trans q3
  have hselP : selectMethod e.platform s.vm cellB.cls mk = .method mk := by rw [Launch.admits_selectMethod X.admits]; exact q4
  obtain ⟨vm₁, X₁, hstep₁⟩ := X.invokevirtual hexec hown hlink hnamed hmethM hstM hkP hkPi hy (a := b) (cell := cellB) hcell
    (fun z h => by rw [h] at hobj; cases hobj) hselP hmethM habM hkP hkPi (g := g) hg (argsL := argsL) (rest := rest) (hlen _ hsigM) hstack hdg
  rcases hK m meth c ⟨T.setVm vm₁, locs, cells, slots⟩ { g with stack := rest } (.invokevirtual index) mk (Value.ref b :: argsL).toArray X₁ hg hsize hdg hW (X₁.named hnamed) (hpre vm₁ X₁.warmed) with ⟨v, B, X', hpost, hsteps⟩ | ⟨q, B, X', hpost, hsteps⟩
  · exact Or.inl ⟨v, vm₁, B, X₁.warmed, X', hpost, fun target h => hstep₁ _ fun acts => by rw [doInvoke_state]; exact hsteps.trans h⟩
  · exact Or.inr ⟨q, vm₁, B, X₁.warmed, X', hpost, hstep₁ _ fun acts => by rw [doInvoke_state]; exact hsteps⟩
theorem vx_callSX (X : Stand p l e R s m args below meth c T locs cells slots) (hexec : p.tables.exec = Jvm.exec) {own : String} {index : Nat} {y : MethodName} {bytes : ByteArray} {maxL : Nat} {ret : Option FieldType} {hh : List (Nat × Nat × Nat × Nat)}
    (hown : s.vm.findClass own = some m.cls) (hlink : (Cond.methodLink own index y).before args s = true) (hstat : (Cond.static y).before args s = true) (hinit : (Cond.initialized y.cls).before args s = true)
    (hcode : (Cond.codeWith y bytes maxL ret hh).before args s = true) (hy : y.cls ≠ "java/lang/invoke/MethodHandle" ∧ y.cls ≠ "java/lang/invoke/VarHandle")
    {W9 : Nat} {Pre : Pt → Array Value → Prop} {Post : Pt → Array Value → Option Value → Pt → Prop} {PostX : Pt → Array Value → Addr → Pt → Prop} (hK : vx_Back l R p e below s args y 3 W9 Pre Post PostX)
    {g : JFrame} (hg : g.method = m) (hsize : g.locals.size = c.maxLocals) {argsL rest : List Value} (hlen : ∀ sig, parseMethodDescriptor y.desc = some sig → argsL.length = sig.parameters.length)
    (hstack : g.stack = argsL.reverse ++ rest) (hW : 2 * g.monitorRoom + (rest.map fun v => v.category).sum ≤ W9) (hdg : decode c.code g.pc = .ok (.invokestatic index, 3))
    (hpre : ∀ vm₁, s.WarmedH vm₁ → Pre ⟨T.setVm vm₁, locs, cells, slots⟩ argsL.toArray) :
    (∃ (v : Option Value) (vm₁ : Vm) (B : Pt), s.WarmedH vm₁ ∧ Stand p l e R s m args below meth c B.U B.locs B.cells B.slots ∧ Post ⟨T.setVm vm₁, locs, cells, slots⟩ argsL.toArray v B ∧
      ∀ target, Steps p.tables e below (B.U.setTop { g with pc := g.pc + 3, stack := v.toList ++ rest }) target → Steps p.tables e below (T.setTop g) target) ∨
    (∃ (q : Addr) (vm₁ : Vm) (B : Pt), s.WarmedH vm₁ ∧ Stand p l e R s m args below meth c B.U B.locs B.cells B.slots ∧ PostX ⟨T.setVm vm₁, locs, cells, slots⟩ argsL.toArray q B ∧
      Steps p.tables e below (T.setTop g) ((B.U.setTop { g with stack := rest }).pushFrame (.throwing q))) := by
  obtain ⟨mk, methM, cM, hnamed, hmethM, -, -, -, -, -, -, hsigM⟩ := Cond.codeWith_spec hcode
  have hstatic : methM.isStatic = true := Cond.static_spec hnamed hmethM hstat
  obtain ⟨kP, hkP, -⟩ := className_of_methodNamed hnamed
  have hinitP : kP.init = .initialized := Cond.initialized_spec (findClass_of_methodNamed hnamed) hkP hinit
  obtain ⟨vm₁, X₁, hstep₁⟩ := X.invokestatic hexec hown hlink hnamed hmethM hstatic hkP hinitP hy (g := g) hg (argsL := argsL) (rest := rest) (hlen _ hsigM) hstack hdg
  rcases hK m meth c ⟨T.setVm vm₁, locs, cells, slots⟩ { g with stack := rest } (.invokestatic index) mk argsL.toArray X₁ hg hsize hdg hW (X₁.named hnamed) (hpre vm₁ X₁.warmed) with ⟨v, B, X', hpost, hsteps⟩ | ⟨q, B, X', hpost, hsteps⟩
  · exact Or.inl ⟨v, vm₁, B, X₁.warmed, X', hpost, fun target h => hstep₁ _ fun acts => by rw [doInvoke_state]; exact hsteps.trans h⟩
  · exact Or.inr ⟨q, vm₁, B, X₁.warmed, X', hpost, hstep₁ _ fun acts => by rw [doInvoke_state]; exact hsteps⟩
theorem vx_callVW (X : Stand p l e R s m args below meth c T locs cells slots) (hexec : p.tables.exec = Jvm.exec) {own C : String} {index : Nat} {y : MethodName} {bytes : ByteArray} {maxL : Nat} {ret : Option FieldType} {hh : List (Nat × Nat × Nat × Nat)}
    (hown : s.vm.findClass own = some m.cls) (hlink : (Cond.methodLink own index y).before args s = true) (hinst : (Cond.instanceMethod y).before args s = true) (hsel : (Cond.selects C y y).before args s = true)
    (hcode : (Cond.codeWith y bytes maxL ret hh).before args s = true) (hy : y.cls ≠ "java/lang/invoke/MethodHandle" ∧ y.cls ≠ "java/lang/invoke/VarHandle")
    {W9 : Nat} {Pre : Pt → Array Value → Prop} {Post : Pt → Array Value → Option Value → Pt → Prop} (hK : Back l R p e below s args y 3 W9 Pre Post)
    {b : Addr} {cellB : Cell} (hcell : T.heap[b]? = some cellB) (hobj : cellB.vm.isStatics = false) (hcls : s.vm.findClass C = some cellB.cls)
    {g : JFrame} (hg : g.method = m) (hsize : g.locals.size = c.maxLocals) {argsL rest : List Value} (hlen : ∀ sig, parseMethodDescriptor y.desc = some sig → argsL.length = sig.parameters.length)
    (hstack : g.stack = argsL.reverse ++ .ref b :: rest) (hW : 2 * g.monitorRoom + (rest.map fun v => v.category).sum ≤ W9) (hdg : decode c.code g.pc = .ok (.invokevirtual index, 3))
    (hpre : ∀ vm₁, s.WarmedH vm₁ → Pre ⟨T.setVm vm₁, locs, cells, slots⟩ (Value.ref b :: argsL).toArray) :
    ∃ (v : Option Value) (vm₁ : Vm) (B : Pt), s.WarmedH vm₁ ∧ Stand p l e R s m args below meth c B.U B.locs B.cells B.slots ∧ Post ⟨T.setVm vm₁, locs, cells, slots⟩ (Value.ref b :: argsL).toArray v B ∧
      ∀ target, Steps p.tables e below (B.U.setTop { g with pc := g.pc + 3, stack := v.toList ++ rest }) target → Steps p.tables e below (T.setTop g) target := by
  obtain ⟨mk, methM, hnamed, hmethM, hstM, habM⟩ := Cond.instanceMethod_spec hinst
  obtain ⟨m8, methM', cM, hn8, hmethM', -, -, -, -, -, -, hsigM⟩ := Cond.codeWith_spec hcode
  cases Option.some.inj (hn8.symm.trans hnamed)
  cases hmethM.symm.trans hmethM'
  obtain ⟨c2, r2, m2, q1, q2, q3, q4, kP, hkP, hkPi⟩ := Cond.selects_spec hsel
  cases hcls.symm.trans q1
  cases (State.methodFound?_of_named hnamed hy).symm.trans q2
  cases hnamed.symm.trans q3
  have hselP : selectMethod e.platform s.vm cellB.cls mk = .method mk := by rw [Launch.admits_selectMethod X.admits]; exact q4
  obtain ⟨vm₁, X₁, hstep₁⟩ := X.invokevirtual hexec hown hlink hnamed hmethM hstM hkP hkPi hy (a := b) (cell := cellB) hcell
    (fun z h => by rw [h] at hobj; cases hobj) hselP hmethM habM hkP hkPi (g := g) hg (argsL := argsL) (rest := rest) (hlen _ hsigM) hstack hdg
  obtain ⟨v, B, X', hpost, hsteps⟩ := hK m meth c ⟨T.setVm vm₁, locs, cells, slots⟩ { g with stack := rest } (.invokevirtual index) mk (Value.ref b :: argsL).toArray X₁ hg hsize hdg hW (X₁.named hnamed) (hpre vm₁ X₁.warmed)
  exact ⟨v, vm₁, B, X₁.warmed, X', hpost, fun target h => hstep₁ _ fun acts => by rw [doInvoke_state]; exact hsteps.trans h⟩
abbrev vx_CVW (R : Room) (s : State) (args : Array Value) (own C : String) (index : Nat) (y : MethodName) (bytes : ByteArray) (maxL : Nat) (ret : Option FieldType) (hh : List (Nat × Nat × Nat × Nat)) (ws : List Cond) (rm : Room) (mc ms n : Nat) : Prop :=
  (rm.cells = mc ∧ rm.slots = ms ∧ rm.frames + 1 ≤ R.frames ∧ 8 + (maxL + 11) + rm.locals ≤ R.locals ∧ (∀ w ∈ ws, ∀ (a' : Array Value) (U : State), s.WarmedH U.vm → w.before a' U = true) ∧ Cond.codeWith y bytes maxL ret hh ∈ ws) ∧
  (Cond.codeWith y bytes maxL ret hh).before args s = true ∧ (Cond.initialized y.cls).before args s = true ∧ (y.cls ≠ "java/lang/invoke/MethodHandle" ∧ y.cls ≠ "java/lang/invoke/VarHandle") ∧
  (∀ sig, parseMethodDescriptor y.desc = some sig → n = sig.parameters.length) ∧ (Cond.methodLink own index y).before args s = true ∧ (Cond.instanceMethod y).before args s = true ∧ (Cond.selects C y y).before args s = true
theorem vx_cwVW {own C : String} {index maxL mc ms : Nat} {y : MethodName} {bytes : ByteArray} {ret : Option FieldType} {hh : List (Nat × Nat × Nat × Nat)} {Ts ws ws' : List Cond} {rm : Room} (n : Nat) (ht : ∀ w ∈ Ts, w.before args s = true) (hT : GoodIn Ts (wsV own index C y ws)) (hw : ws = Cond.codeWith y bytes maxL ret hh :: ws') (hrc : rm.cells = mc) (hrs : rm.slots = ms)
    (hd : y.cls = C ∧ y.cls ≠ "java/lang/invoke/MethodHandle" ∧ y.cls ≠ "java/lang/invoke/VarHandle" ∧ (parseMethodDescriptor y.desc).map (fun d => d.parameters.length) = some n) (hR : rm.frames + 1 ≤ R.frames ∧ 8 + (maxL + 11) + rm.locals ≤ R.locals) :
    vx_CVW R s args own C index y bytes maxL ret hh ws rm mc ms n := by
  obtain ⟨hC, hd⟩ := hd
  subst hC
  have ok : ∀ w ∈ wsV own index y.cls y ws, w.before args s = true := fun w h => ht w (hT w h).1
  have hG : GoodIn Ts ws := fun w h => hT w (by unfold wsV; exact List.mem_append_right _ h)
  have hc : Cond.codeWith y bytes maxL ret hh ∈ ws := by rw [hw]; exact List.mem_cons_self
  refine ⟨⟨hrc, hrs, hR.1, hR.2, pay_in ht hG, hc⟩, ht _ (hG _ hc).1, ok _ (by simp [wsV]), ⟨hd.1, hd.2.1⟩, fun sig h => ?_, ok _ (by simp [wsV]), ok _ (by simp [wsV]), ok _ (by simp [wsV])⟩
  have h2 := hd.2.2
  rw [h] at h2
  exact (Option.some.inj h2).symm
theorem vx_runVW {y : MethodName} {bytes cc : ByteArray} {maxL nL mc ms n index : Nat} {ret : Option FieldType} {hh : List (Nat × Nat × Nat × Nat)} {ws : List Cond} {rm : Room} {Pc : Array Value → State → Prop} {Qc : Array Value → State → Outcome → State → Prop} {free : Addr → Prop} {Ts : List Cond} {own C : String} {b : Addr} {As rest : List Value} {g : JFrame}
    (S : CallFix p m c cc nL s args Ts own) (hM : Met l y ws rm Pc Qc mc ms free) (cw : vx_CVW R s args own C index y bytes maxL ret hh ws rm mc ms n) (hp : PreV s H C b Pc As)
    (hg : g.method = m) (hn : As.length = n) (hsize : g.locals.size = nL) (hstack : g.stack = As.reverse ++ .ref b :: rest) (hW : 2 * g.monitorRoom + (rest.map fun v => v.category).sum ≤ 8) (hdg : decode cc g.pc = .ok (.invokevirtual index, 3)) (hf : cells + mc ≤ R.cells ∧ slots + ms ≤ R.slots) :
    va_Run p l e R s m args below meth c H locs cells slots mc ms g rest (Qc (Value.ref b :: As).toArray) free := by
  obtain ⟨⟨hrc, hrs, hfr, hlo, hws, hcw⟩, hcode, hini, hy, hlen, hl, hin, hse⟩ := cw
  have hK : Back l R p e below s args y 3 8 (PreOf R mc ms Pc) (PostOf Qc mc ms free) := va_backW (hh := hh) (bytes := bytes) (maxL := maxL) (ret := ret) hM hp.1 hrc hrs hfr hlo hws hcw (fun a' U hW => word_at hW (Or.inl (by first | rfl | simp [Cond.onTables, Cond.keeps, Cond.steady])) hini)
  obtain ⟨hx, hb, hml, ho, -⟩ := S
  obtain ⟨-, ⟨cellB, hcB, hoB, hclB⟩, hPc⟩ := hp
  intro T hT X
  obtain ⟨v, vm₁, ⟨U', l2, c2, s2⟩, hW₁, X', ⟨g', mk, t, L, e1, e2, hq, h1, hL, h2, h3⟩, st⟩ := vx_callVW X hx (C := C) (hh := hh) (bytes := bytes) (maxL := maxL) (ret := ret) ho hl hin hse hcode hy hK (by rw [hT]; exact hcB) hoB hclB hg (hsize.trans hml.symm) (argsL := As) (rest := rest) (fun sig h => hn.trans (hlen sig h)) hstack hW (by rw [hb]; exact hdg)
    (fun vm₁ hW₁ => ⟨hf.1, hf.2, hPc (T.setVm vm₁) hT hW₁⟩)
  dsimp only [Pt.U, Pt.locs, Pt.cells, Pt.slots] at X' e1 e2 h1 h2 h3 st
  subst h1; subst h2; subst h3
  exact ⟨v, (T.setVm vm₁).calling g' mk (Value.ref b :: As).toArray, t, U', L, hT, X', hL, e1, e2, hq, st⟩
section
variable {y : MethodName} {bytes cc : ByteArray} {maxL nL mc ms n index : Nat} {ret : Option FieldType} {ws : List Cond} {rm : Room} {Pc : Array Value → State → Prop} {Qc : Array Value → State → Outcome → State → Prop} {XC : String → State → State → Prop} {free : Addr → Prop} {Ts : List Cond} {own C : String} {b : Addr} {As rest : List Value} {g : JFrame}
theorem vx_runVX {hh : List (Nat × Nat × Nat × Nat)} (S : CallFix p m c cc nL s args Ts own) (hM : vx_Met l y ws rm Pc Qc XC mc ms free) (cw : vx_CVW R s args own C index y bytes maxL ret hh ws rm mc ms n) (hp : PreV s H C b Pc As)
    (hg : g.method = m) (hn : As.length = n) (hsize : g.locals.size = nL) (hstack : g.stack = As.reverse ++ .ref b :: rest) (hW : 2 * g.monitorRoom + (rest.map fun v => v.category).sum ≤ 8) (hdg : decode cc g.pc = .ok (.invokevirtual index, 3)) (hf : cells + mc ≤ R.cells ∧ slots + ms ≤ R.slots) :
    vx_Run p l e R s m args below meth c H locs cells slots mc ms g rest (Qc (Value.ref b :: As).toArray) XC free := by
  obtain ⟨⟨hrc, hrs, hfr, hlo, hws, hcw⟩, hcode, hini, hy, hlen, hl, hin, hse⟩ := cw
  have hK : vx_Back l R p e below s args y 3 8 (PreOf R mc ms Pc) (PostOf Qc mc ms free) (vx_Post XC mc ms free) := vx_backW (hh := hh) (bytes := bytes) (maxL := maxL) (ret := ret) hM hp.1 hrc hrs hfr hlo hws hcw (fun a' U hW => word_at hW (Or.inl (by first | rfl | simp [Cond.onTables, Cond.keeps, Cond.steady])) hini)
  obtain ⟨hx, hb, hml, ho, -⟩ := S
  obtain ⟨-, ⟨cellB, hcB, hoB, hclB⟩, hPc⟩ := hp
  intro T hT X
  rcases vx_callVX X hx (C := C) (hh := hh) (bytes := bytes) (maxL := maxL) (ret := ret) ho hl hin hse hcode hy hK (by rw [hT]; exact hcB) hoB hclB hg (hsize.trans hml.symm) (argsL := As) (rest := rest) (fun sig h => hn.trans (hlen sig h)) hstack hW (by rw [hb]; exact hdg)
    (fun vm₁ hW₁ => ⟨hf.1, hf.2, hPc (T.setVm vm₁) hT hW₁⟩) with ⟨v, vm₁, ⟨U', l2, c2, s2⟩, hW₁, X', ⟨g', mk, t, L, e1, e2, hq, h1, hL, h2, h3⟩, st⟩ | ⟨q, vm₁, ⟨U', l2, c2, s2⟩, hW₁, X', ⟨g', mk, t, L, E, ce, e1, e2, hq, hce, hcv, hcl, h1, hL, h2, h3⟩, st⟩
  · dsimp only [Pt.U, Pt.locs, Pt.cells, Pt.slots] at X' e1 e2 h1 h2 h3 st
    subst h1; subst h2; subst h3
    exact Or.inl ⟨v, (T.setVm vm₁).calling g' mk (Value.ref b :: As).toArray, t, U', L, hT, X', hL, e1, e2, hq, st⟩
  · dsimp only [Pt.U, Pt.locs, Pt.cells, Pt.slots] at X' e1 e2 h1 h2 h3 st hcl
    subst h1; subst h2; subst h3
    exact Or.inr ⟨q, (T.setVm vm₁).calling g' mk (Value.ref b :: As).toArray, t, U', L, E, ce, hT, X', hL, e1, e2, hq, hce, hcv, vx_cls hW₁ hcl, st⟩
theorem vx_runSX {hh : List (Nat × Nat × Nat × Nat)} (S : CallFix p m c cc nL s args Ts own) (hM : vx_Met l y ws rm Pc Qc XC mc ms free) (cw : vx_CSW R s args own index y bytes maxL ret hh ws rm mc ms n) (hp : PreS s H Pc As)
    (hg : g.method = m) (hn : As.length = n) (hsize : g.locals.size = nL) (hstack : g.stack = As.reverse ++ rest) (hW : 2 * g.monitorRoom + (rest.map fun v => v.category).sum ≤ 8) (hdg : decode cc g.pc = .ok (.invokestatic index, 3)) (hf : cells + mc ≤ R.cells ∧ slots + ms ≤ R.slots) :
    vx_Run p l e R s m args below meth c H locs cells slots mc ms g rest (Qc As.toArray) XC free := by
  obtain ⟨⟨hrc, hrs, hfr, hlo, hws, hcw⟩, hcode, hini, hy, hlen, hl, hstt⟩ := cw
  have hK : vx_Back l R p e below s args y 3 8 (PreOf R mc ms Pc) (PostOf Qc mc ms free) (vx_Post XC mc ms free) := vx_backW (hh := hh) (bytes := bytes) (maxL := maxL) (ret := ret) hM hp.1 hrc hrs hfr hlo hws hcw (fun a' U hW => word_at hW (Or.inl (by first | rfl | simp [Cond.onTables, Cond.keeps, Cond.steady])) hini)
  obtain ⟨hx, hb, hml, ho, -⟩ := S
  intro T hT X
  rcases vx_callSX X hx (hh := hh) (bytes := bytes) (maxL := maxL) (ret := ret) ho hl hstt hini hcode hy hK hg (hsize.trans hml.symm) (argsL := As) (rest := rest) (fun sig h => hn.trans (hlen sig h)) hstack hW (by rw [hb]; exact hdg)
    (fun vm₁ hW₁ => ⟨hf.1, hf.2, hp.2 (T.setVm vm₁) hT hW₁⟩) with ⟨v, vm₁, ⟨U', l2, c2, s2⟩, hW₁, X', ⟨g', mk, t, L, e1, e2, hq, h1, hL, h2, h3⟩, st⟩ | ⟨q, vm₁, ⟨U', l2, c2, s2⟩, hW₁, X', ⟨g', mk, t, L, E, ce, e1, e2, hq, hce, hcv, hcl, h1, hL, h2, h3⟩, st⟩
  · dsimp only [Pt.U, Pt.locs, Pt.cells, Pt.slots] at X' e1 e2 h1 h2 h3 st
    subst h1; subst h2; subst h3
    exact Or.inl ⟨v, (T.setVm vm₁).calling g' mk As.toArray, t, U', L, hT, X', hL, e1, e2, hq, st⟩
  · dsimp only [Pt.U, Pt.locs, Pt.cells, Pt.slots] at X' e1 e2 h1 h2 h3 st hcl
    subst h1; subst h2; subst h3
    exact Or.inr ⟨q, (T.setVm vm₁).calling g' mk As.toArray, t, U', L, E, ce, hT, X', hL, e1, e2, hq, hce, hcv, vx_cls hW₁ hcl, st⟩
end
end VXH
theorem vx_ofWH {l : Launch} {y : MethodName} {ws ws' : List Cond} {rm : Room} {Pc : Array Value → State → Prop} {Qc : Array Value → State → Outcome → State → Prop} {XC : String → State → State → Prop} {mc ms : Nat} {free : Addr → Prop} {cc : ByteArray} {maxL : Nat} {ret : Option FieldType} {hh : List (Nat × Nat × Nat × Nat)}
    (hy : plainName y.cls = true) (hw : ws = Cond.codeWith y cc maxL ret hh :: ws')
    (body : ∀ p e s m args below meth c s₁, BodyLoose p l y (headSpec ws rm) cc maxL ret e s m args below meth c s₁ → c.maxLocals = maxL → Pc args s →
      W p l e (headSpec ws rm).room s m args below meth c s.heap [] 0 0 (vx_MQ below Qc XC args s mc ms free) (entryFrame m args maxL)) : vx_Met l y ws rm Pc Qc XC mc ms free := by
  refine MetFree.of_bodyS (code := cc) (maxLocals := maxL) (ret := ret) hy ?_ ?_
  · intro args s m h hn
    obtain ⟨m9, meth, c, hn9, h1, h2, h3, h4, -, h5, h6, -⟩ := Cond.codeWith_spec (atoms_spec (ws := ws) h _ (by rw [hw]; exact List.mem_cons_self))
    cases hn.symm.trans hn9
    exact ⟨meth, c, h1, h2, h3, h4, h5, h6⟩
  · intro p e s m args below meth c s₁ B hml hP _
    have hh0 : s₁.heap = s.heap := by rw [B.state]; rfl
    obtain ⟨t, a1, o, b1, b2, b3⟩ := body p e s m args below meth c s₁ B hml hP s₁ hh0 (Stand.of_body B)
    exact ⟨t, o, a1, b1, b2, b3⟩
/-! ===== END ===== -/
end
section
def RX0 : String := "DragonRing$Accounts"
def TX0 : u_T := fun k => match k with
  | 0 => ("DragonRing$Accounts", "written", "I", false)
  | 1 => ("DragonRing$Accounts", "rubbed", "I", false)
  | 2 => ("DragonRing$Accounts", "killed", "I", false)
  | 3 => ("DragonRing$Accounts", "yanked", "I", false)
  | 4 => ("DragonRing$Accounts", "takenOut", "I", false)
  | _ => ("DragonRing$Accounts", "lost", "I", false)
def tyX0 : Nat → FieldType := fun k => match k with
  | 0 => .int
  | 1 => .int
  | 2 => .int
  | 3 => .int
  | 4 => .int
  | _ => .int
abbrev wsX00 : List Cond := u_ws RX0 TX0 6
theorem nmX0 : ∀ a, a < 6 → ∀ b, b < 6 → a ≠ b → (TX0 a).2.1 ≠ (TX0 b).2.1 := by decide +kernel
theorem tyX0_ok : ∀ k, k < 6 → parseFieldDescriptor (TX0 k).2.2.1 = some (tyX0 k) := by decide +kernel
abbrev cX0_init : ByteArray := prog_2_method_1_code
def yX0_init : MethodName := ⟨RX0, "<init>", "()V"⟩
abbrev cX0_copyFrom : ByteArray := prog_2_method_2_code
def yX0_copyFrom : MethodName := ⟨RX0, "copyFrom", "(LDragonRing$Accounts;)V"⟩
abbrev cX0_balance : ByteArray := prog_2_method_3_code
def yX0_balance : MethodName := ⟨RX0, "balance", "()I"⟩
def RX1 : String := "DragonRing$Hash"
def TX1 : u_T := fun k => match k with
  | _ => ("DragonRing$Hash", "value", "J", false)
def tyX1 : Nat → FieldType := fun k => match k with
  | _ => .long
abbrev wsX10 : List Cond := u_ws RX1 TX1 1
theorem nmX1 : ∀ a, a < 1 → ∀ b, b < 1 → a ≠ b → (TX1 a).2.1 ≠ (TX1 b).2.1 := by decide +kernel
theorem tyX1_ok : ∀ k, k < 1 → parseFieldDescriptor (TX1 k).2.2.1 = some (tyX1 k) := by decide +kernel
abbrev cX1_init : ByteArray := prog_3_method_1_code
def yX1_init : MethodName := ⟨RX1, "<init>", "()V"⟩
abbrev cX1_add : ByteArray := prog_3_method_2_code
def yX1_add : MethodName := ⟨RX1, "add", "(J)V"⟩
abbrev cX1_addText : ByteArray := prog_3_method_3_code
def yX1_addText : MethodName := ⟨RX1, "addText", "(LDragonRing$Text;)V"⟩
def RX2 : String := "DragonRing$History"
def TX2 : u_T := fun k => match k with
  | 0 => ("DragonRing$History", "rows", "[LDragonRing$State;", true)
  | 1 => ("DragonRing$History", "first", "I", false)
  | _ => ("DragonRing$History", "saved", "I", false)
def tyX2 : Nat → FieldType := fun k => match k with
  | 0 => .array (.object "DragonRing$State")
  | 1 => .int
  | _ => .int
abbrev wsX20 : List Cond := u_ws RX2 TX2 3
theorem nmX2 : ∀ a, a < 3 → ∀ b, b < 3 → a ≠ b → (TX2 a).2.1 ≠ (TX2 b).2.1 := by decide +kernel
theorem tyX2_ok : ∀ k, k < 3 → parseFieldDescriptor (TX2 k).2.2.1 = some (tyX2 k) := by decide +kernel
abbrev cX2_init : ByteArray := prog_4_method_1_code
def yX2_init : MethodName := ⟨RX2, "<init>", "()V"⟩
abbrev cX2_count : ByteArray := prog_4_method_2_code
def yX2_count : MethodName := ⟨RX2, "count", "()I"⟩
abbrev cX2_row : ByteArray := prog_4_method_3_code
def yX2_row : MethodName := ⟨RX2, "row", "(I)LDragonRing$State;"⟩
abbrev cX2_prepare : ByteArray := prog_4_method_4_code
def yX2_prepare : MethodName := ⟨RX2, "prepare", "(LDragonRing$State;)V"⟩
abbrev cX2_prepared : ByteArray := prog_4_method_5_code
def yX2_prepared : MethodName := ⟨RX2, "prepared", "()LDragonRing$State;"⟩
abbrev cX2_save : ByteArray := prog_4_method_6_code
def yX2_save : MethodName := ⟨RX2, "save", "()V"⟩
abbrev cX2_latest : ByteArray := prog_4_method_7_code
def yX2_latest : MethodName := ⟨RX2, "latest", "()LDragonRing$State;"⟩
abbrev cX2_drop : ByteArray := prog_4_method_8_code
def yX2_drop : MethodName := ⟨RX2, "drop", "()V"⟩
def RX3 : String := "DragonRing$Ring"
def TX3 : u_T := fun k => match k with
  | 0 => ("DragonRing$Ring", "rows", "[LDragonRing$Text;", true)
  | 1 => ("DragonRing$Ring", "noHoard", "LDragonRing$Text;", true)
  | 2 => ("DragonRing$Ring", "count", "I", false)
  | 3 => ("DragonRing$Ring", "caves", "I", false)
  | _ => ("DragonRing$Ring", "next", "I", false)
def tyX3 : Nat → FieldType := fun k => match k with
  | 0 => .array (.object "DragonRing$Text")
  | 1 => .object "DragonRing$Text"
  | 2 => .int
  | 3 => .int
  | _ => .int
abbrev wsX30 : List Cond := u_ws RX3 TX3 5
theorem nmX3 : ∀ a, a < 5 → ∀ b, b < 5 → a ≠ b → (TX3 a).2.1 ≠ (TX3 b).2.1 := by decide +kernel
theorem tyX3_ok : ∀ k, k < 5 → parseFieldDescriptor (TX3 k).2.2.1 = some (tyX3 k) := by decide +kernel
abbrev cX3_init : ByteArray := prog_5_method_1_code
def yX3_init : MethodName := ⟨RX3, "<init>", "()V"⟩
abbrev cX3_copyFrom : ByteArray := prog_5_method_2_code
def yX3_copyFrom : MethodName := ⟨RX3, "copyFrom", "(LDragonRing$Ring;)V"⟩
abbrev cX3_hoard : ByteArray := prog_5_method_3_code
def yX3_hoard : MethodName := ⟨RX3, "hoard", "(I)LDragonRing$Text;"⟩
abbrev cX3_countAt : ByteArray := prog_5_method_4_code
def yX3_countAt : MethodName := ⟨RX3, "countAt", "(I)I"⟩
abbrev cX3_add : ByteArray := prog_5_method_5_code
def yX3_add : MethodName := ⟨RX3, "add", "(LDragonRing$Text;II)I"⟩
abbrev cX3_grow : ByteArray := prog_5_method_6_code
def yX3_grow : MethodName := ⟨RX3, "grow", "(LDragonRing$Text;IIZ)V"⟩
abbrev cX3_nextIfTurned : ByteArray := prog_5_method_7_code
def yX3_nextIfTurned : MethodName := ⟨RX3, "nextIfTurned", "(I)I"⟩
abbrev cX3_changeTo : ByteArray := prog_5_method_8_code
def yX3_changeTo : MethodName := ⟨RX3, "changeTo", "(I)I"⟩
abbrev cX3_allCodes : ByteArray := prog_5_method_9_code
def yX3_allCodes : MethodName := ⟨RX3, "allCodes", "()I"⟩
abbrev cX3_longestAt : ByteArray := prog_5_method_10_code
def yX3_longestAt : MethodName := ⟨RX3, "longestAt", "()I"⟩
def RX4 : String := "DragonRing$Scroll"
def TX4 : u_T := fun k => match k with
  | 0 => ("DragonRing$Scroll", "text", "LDragonRing$Text;", true)
  | 1 => ("DragonRing$Scroll", "point", "I", false)
  | _ => ("DragonRing$Scroll", "mark", "I", false)
def tyX4 : Nat → FieldType := fun k => match k with
  | 0 => .object "DragonRing$Text"
  | 1 => .int
  | _ => .int
abbrev wsX40 : List Cond := u_ws RX4 TX4 3
theorem nmX4 : ∀ a, a < 3 → ∀ b, b < 3 → a ≠ b → (TX4 a).2.1 ≠ (TX4 b).2.1 := by decide +kernel
theorem tyX4_ok : ∀ k, k < 3 → parseFieldDescriptor (TX4 k).2.2.1 = some (tyX4 k) := by decide +kernel
abbrev cX4_init : ByteArray := prog_6_method_1_code
def yX4_init : MethodName := ⟨RX4, "<init>", "()V"⟩
abbrev cX4_copyFrom : ByteArray := prog_6_method_2_code
def yX4_copyFrom : MethodName := ⟨RX4, "copyFrom", "(LDragonRing$Scroll;)V"⟩
abbrev cX4_writeCode : ByteArray := prog_6_method_3_code
def yX4_writeCode : MethodName := ⟨RX4, "writeCode", "(I)V"⟩
abbrev cX4_writeText : ByteArray := prog_6_method_4_code
def yX4_writeText : MethodName := ⟨RX4, "writeText", "(LDragonRing$Text;)V"⟩
abbrev cX4_makeWay : ByteArray := prog_6_method_5_code
def yX4_makeWay : MethodName := ⟨RX4, "makeWay", "(I)V"⟩
abbrev cX4_takeOut : ByteArray := prog_6_method_6_code
def yX4_takeOut : MethodName := ⟨RX4, "takeOut", "(II)V"⟩
abbrev cX4_placeThen : ByteArray := prog_6_method_7_code
def yX4_placeThen : MethodName := ⟨RX4, "placeThen", "(III)I"⟩
abbrev cX4_fromMark : ByteArray := prog_6_method_8_code
def yX4_fromMark : MethodName := ⟨RX4, "fromMark", "()I"⟩
abbrev cX4_isWordAt : ByteArray := prog_6_method_9_code
def yX4_isWordAt : MethodName := ⟨RX4, "isWordAt", "(I)Z"⟩
abbrev cX4_isSmallAt : ByteArray := prog_6_method_10_code
def yX4_isSmallAt : MethodName := ⟨RX4, "isSmallAt", "(I)Z"⟩
abbrev cX4_isEndAt : ByteArray := prog_6_method_11_code
def yX4_isEndAt : MethodName := ⟨RX4, "isEndAt", "(I)Z"⟩
abbrev cX4_wordStop : ByteArray := prog_6_method_12_code
def yX4_wordStop : MethodName := ⟨RX4, "wordStop", "(I)I"⟩
abbrev cX4_wordStart : ByteArray := prog_6_method_13_code
def yX4_wordStart : MethodName := ⟨RX4, "wordStart", "(I)I"⟩
abbrev cX4_lineStart : ByteArray := prog_6_method_14_code
def yX4_lineStart : MethodName := ⟨RX4, "lineStart", "(I)I"⟩
abbrev cX4_lineStop : ByteArray := prog_6_method_15_code
def yX4_lineStop : MethodName := ⟨RX4, "lineStop", "(I)I"⟩
abbrev cX4_lineStartOver : ByteArray := prog_6_method_16_code
def yX4_lineStartOver : MethodName := ⟨RX4, "lineStartOver", "(II)I"⟩
abbrev cX4_placeOf : ByteArray := prog_6_method_17_code
def yX4_placeOf : MethodName := ⟨RX4, "placeOf", "(LDragonRing$Text;)I"⟩
abbrev cX4_endsAhead : ByteArray := prog_6_method_18_code
def yX4_endsAhead : MethodName := ⟨RX4, "endsAhead", "(I)I"⟩
abbrev cX4_linesGone : ByteArray := prog_6_method_19_code
def yX4_linesGone : MethodName := ⟨RX4, "linesGone", "()I"⟩
abbrev cX4_longest : ByteArray := prog_6_method_20_code
def yX4_longest : MethodName := ⟨RX4, "longest", "()I"⟩
abbrev cX4_wordsBegun : ByteArray := prog_6_method_21_code
def yX4_wordsBegun : MethodName := ⟨RX4, "wordsBegun", "()I"⟩
abbrev cX4_wordsGone : ByteArray := prog_6_method_22_code
def yX4_wordsGone : MethodName := ⟨RX4, "wordsGone", "()I"⟩
def RX5 : String := "DragonRing$State"
def TX5 : u_T := fun k => match k with
  | 0 => ("DragonRing$State", "scroll", "LDragonRing$Scroll;", true)
  | 1 => ("DragonRing$State", "ring", "LDragonRing$Ring;", true)
  | 2 => ("DragonRing$State", "accounts", "LDragonRing$Accounts;", true)
  | _ => ("DragonRing$State", "kind", "I", false)
def tyX5 : Nat → FieldType := fun k => match k with
  | 0 => .object "DragonRing$Scroll"
  | 1 => .object "DragonRing$Ring"
  | 2 => .object "DragonRing$Accounts"
  | _ => .int
abbrev wsX50 : List Cond := u_ws RX5 TX5 4
theorem nmX5 : ∀ a, a < 4 → ∀ b, b < 4 → a ≠ b → (TX5 a).2.1 ≠ (TX5 b).2.1 := by decide +kernel
theorem tyX5_ok : ∀ k, k < 4 → parseFieldDescriptor (TX5 k).2.2.1 = some (tyX5 k) := by decide +kernel
abbrev cX5_init : ByteArray := prog_7_method_1_code
def yX5_init : MethodName := ⟨RX5, "<init>", "()V"⟩
abbrev cX5_copyFrom : ByteArray := prog_7_method_2_code
def yX5_copyFrom : MethodName := ⟨RX5, "copyFrom", "(LDragonRing$State;)V"⟩
abbrev cX5_comeBackTo : ByteArray := prog_7_method_3_code
def yX5_comeBackTo : MethodName := ⟨RX5, "comeBackTo", "(LDragonRing$State;)V"⟩
abbrev cX5_doDeed : ByteArray := prog_7_method_4_code
def yX5_doDeed : MethodName := ⟨RX5, "doDeed", "(II)I"⟩
abbrev cX5_writeCode : ByteArray := prog_7_method_5_code
def yX5_writeCode : MethodName := ⟨RX5, "writeCode", "(I)I"⟩
abbrev cX5_rubOut : ByteArray := prog_7_method_6_code
def yX5_rubOut : MethodName := ⟨RX5, "rubOut", "()I"⟩
abbrev cX5_swapBoth : ByteArray := prog_7_method_7_code
def yX5_swapBoth : MethodName := ⟨RX5, "swapBoth", "()I"⟩
abbrev cX5_makeGreat : ByteArray := prog_7_method_8_code
def yX5_makeGreat : MethodName := ⟨RX5, "makeGreat", "()I"⟩
abbrev cX5_goPlace : ByteArray := prog_7_method_9_code
def yX5_goPlace : MethodName := ⟨RX5, "goPlace", "(I)I"⟩
abbrev cX5_goAsFarAs : ByteArray := prog_7_method_10_code
def yX5_goAsFarAs : MethodName := ⟨RX5, "goAsFarAs", "(I)I"⟩
abbrev cX5_goWordOn : ByteArray := prog_7_method_11_code
def yX5_goWordOn : MethodName := ⟨RX5, "goWordOn", "()I"⟩
abbrev cX5_goWordBack : ByteArray := prog_7_method_12_code
def yX5_goWordBack : MethodName := ⟨RX5, "goWordBack", "()I"⟩
abbrev cX5_goLineStart : ByteArray := prog_7_method_13_code
def yX5_goLineStart : MethodName := ⟨RX5, "goLineStart", "()I"⟩
abbrev cX5_goLineStop : ByteArray := prog_7_method_14_code
def yX5_goLineStop : MethodName := ⟨RX5, "goLineStop", "()I"⟩
abbrev cX5_goUpOrDown : ByteArray := prog_7_method_15_code
def yX5_goUpOrDown : MethodName := ⟨RX5, "goUpOrDown", "(I)I"⟩
abbrev cX5_setMark : ByteArray := prog_7_method_16_code
def yX5_setMark : MethodName := ⟨RX5, "setMark", "()I"⟩
abbrev cX5_exchangeBoth : ByteArray := prog_7_method_17_code
def yX5_exchangeBoth : MethodName := ⟨RX5, "exchangeBoth", "()I"⟩
abbrev cX5_goToText : ByteArray := prog_7_method_18_code
def yX5_goToText : MethodName := ⟨RX5, "goToText", "(LDragonRing$Text;)I"⟩
abbrev cX5_killWordOn : ByteArray := prog_7_method_19_code
def yX5_killWordOn : MethodName := ⟨RX5, "killWordOn", "()I"⟩
abbrev cX5_killWordBack : ByteArray := prog_7_method_20_code
def yX5_killWordBack : MethodName := ⟨RX5, "killWordBack", "()I"⟩
abbrev cX5_killLineOn : ByteArray := prog_7_method_21_code
def yX5_killLineOn : MethodName := ⟨RX5, "killLineOn", "()I"⟩
abbrev cX5_killToMark : ByteArray := prog_7_method_22_code
def yX5_killToMark : MethodName := ⟨RX5, "killToMark", "()I"⟩
abbrev cX5_kill : ByteArray := prog_7_method_23_code
def yX5_kill : MethodName := ⟨RX5, "kill", "(IIZ)I"⟩
abbrev cX5_copyToMark : ByteArray := prog_7_method_24_code
def yX5_copyToMark : MethodName := ⟨RX5, "copyToMark", "()I"⟩
abbrev cX5_yankNext : ByteArray := prog_7_method_25_code
def yX5_yankNext : MethodName := ⟨RX5, "yankNext", "()I"⟩
abbrev cX5_writeHoard : ByteArray := prog_7_method_26_code
def yX5_writeHoard : MethodName := ⟨RX5, "writeHoard", "(LDragonRing$Text;)I"⟩
abbrev cX5_yankOlder : ByteArray := prog_7_method_27_code
def yX5_yankOlder : MethodName := ⟨RX5, "yankOlder", "()I"⟩
abbrev cX5_turnRing : ByteArray := prog_7_method_28_code
def yX5_turnRing : MethodName := ⟨RX5, "turnRing", "(I)I"⟩
abbrev cX5_setCaves : ByteArray := prog_7_method_29_code
def yX5_setCaves : MethodName := ⟨RX5, "setCaves", "(I)I"⟩
def RX6 : String := "DragonRing$Text"
def TX6 : u_T := fun k => match k with
  | 0 => ("DragonRing$Text", "codes", "[I", true)
  | _ => ("DragonRing$Text", "count", "I", false)
def tyX6 : Nat → FieldType := fun k => match k with
  | 0 => .array .int
  | _ => .int
abbrev wsX60 : List Cond := u_ws RX6 TX6 2
theorem nmX6 : ∀ a, a < 2 → ∀ b, b < 2 → a ≠ b → (TX6 a).2.1 ≠ (TX6 b).2.1 := by decide +kernel
theorem tyX6_ok : ∀ k, k < 2 → parseFieldDescriptor (TX6 k).2.2.1 = some (tyX6 k) := by decide +kernel
abbrev cX6_init : ByteArray := prog_8_method_1_code
def yX6_init : MethodName := ⟨RX6, "<init>", "(I)V"⟩
abbrev cX6_count : ByteArray := prog_8_method_2_code
def yX6_count : MethodName := ⟨RX6, "count", "()I"⟩
abbrev cX6_room : ByteArray := prog_8_method_3_code
def yX6_room : MethodName := ⟨RX6, "room", "()I"⟩
abbrev cX6_code : ByteArray := prog_8_method_4_code
def yX6_code : MethodName := ⟨RX6, "code", "(I)I"⟩
abbrev cX6_change : ByteArray := prog_8_method_5_code
def yX6_change : MethodName := ⟨RX6, "change", "(II)V"⟩
abbrev cX6_empty : ByteArray := prog_8_method_6_code
def yX6_empty : MethodName := ⟨RX6, "empty", "()V"⟩
abbrev cX6_copyFrom : ByteArray := prog_8_method_7_code
def yX6_copyFrom : MethodName := ⟨RX6, "copyFrom", "(LDragonRing$Text;)V"⟩
abbrev cX6_insertCode : ByteArray := prog_8_method_8_code
def yX6_insertCode : MethodName := ⟨RX6, "insertCode", "(II)V"⟩
abbrev cX6_insertPart : ByteArray := prog_8_method_9_code
def yX6_insertPart : MethodName := ⟨RX6, "insertPart", "(ILDragonRing$Text;II)V"⟩
abbrev cX6_takeOut : ByteArray := prog_8_method_10_code
def yX6_takeOut : MethodName := ⟨RX6, "takeOut", "(II)V"⟩
abbrev cX6_standsAt : ByteArray := prog_8_method_11_code
def yX6_standsAt : MethodName := ⟨RX6, "standsAt", "(ILDragonRing$Text;)Z"⟩
def RX7 : String := "DragonRing"
def TX7 : u_T := fun k => match k with
  | 0 => ("DragonRing", "now", "LDragonRing$State;", true)
  | 1 => ("DragonRing", "history", "LDragonRing$History;", true)
  | 2 => ("DragonRing", "slots", "[LDragonRing$State;", true)
  | 3 => ("DragonRing", "isKept", "[Z", true)
  | _ => ("DragonRing", "buffer", "LDragonRing$Text;", true)
def tyX7 : Nat → FieldType := fun k => match k with
  | 0 => .object "DragonRing$State"
  | 1 => .object "DragonRing$History"
  | 2 => .array (.object "DragonRing$State")
  | 3 => .array .boolean
  | _ => .object "DragonRing$Text"
abbrev wsX70 : List Cond := u_ws RX7 TX7 5
theorem nmX7 : ∀ a, a < 5 → ∀ b, b < 5 → a ≠ b → (TX7 a).2.1 ≠ (TX7 b).2.1 := by decide +kernel
theorem tyX7_ok : ∀ k, k < 5 → parseFieldDescriptor (TX7 k).2.2.1 = some (tyX7 k) := by decide +kernel
abbrev cX7_init : ByteArray := prog_1_method_1_code
def yX7_init : MethodName := ⟨RX7, "<init>", "()V"⟩
abbrev cX7_write : ByteArray := prog_1_method_2_code
def yX7_write : MethodName := ⟨RX7, "write", "(I)I"⟩
abbrev cX7_rub : ByteArray := prog_1_method_3_code
def yX7_rub : MethodName := ⟨RX7, "rub", "()I"⟩
abbrev cX7_swap : ByteArray := prog_1_method_4_code
def yX7_swap : MethodName := ⟨RX7, "swap", "()I"⟩
abbrev cX7_greaten : ByteArray := prog_1_method_5_code
def yX7_greaten : MethodName := ⟨RX7, "greaten", "()I"⟩
abbrev cX7_goTo : ByteArray := prog_1_method_6_code
def yX7_goTo : MethodName := ⟨RX7, "goTo", "(I)I"⟩
abbrev cX7_wordOn : ByteArray := prog_1_method_7_code
def yX7_wordOn : MethodName := ⟨RX7, "wordOn", "()I"⟩
abbrev cX7_wordBack : ByteArray := prog_1_method_8_code
def yX7_wordBack : MethodName := ⟨RX7, "wordBack", "()I"⟩
abbrev cX7_lineBegin : ByteArray := prog_1_method_9_code
def yX7_lineBegin : MethodName := ⟨RX7, "lineBegin", "()I"⟩
abbrev cX7_lineEnd : ByteArray := prog_1_method_10_code
def yX7_lineEnd : MethodName := ⟨RX7, "lineEnd", "()I"⟩
abbrev cX7_goLines : ByteArray := prog_1_method_11_code
def yX7_goLines : MethodName := ⟨RX7, "goLines", "(I)I"⟩
abbrev cX7_mark : ByteArray := prog_1_method_12_code
def yX7_mark : MethodName := ⟨RX7, "mark", "()I"⟩
abbrev cX7_exchange : ByteArray := prog_1_method_13_code
def yX7_exchange : MethodName := ⟨RX7, "exchange", "()I"⟩
abbrev cX7_find : ByteArray := prog_1_method_14_code
def yX7_find : MethodName := ⟨RX7, "find", "()I"⟩
abbrev cX7_killWord : ByteArray := prog_1_method_15_code
def yX7_killWord : MethodName := ⟨RX7, "killWord", "()I"⟩
abbrev cX7_killBack : ByteArray := prog_1_method_16_code
def yX7_killBack : MethodName := ⟨RX7, "killBack", "()I"⟩
abbrev cX7_killLine : ByteArray := prog_1_method_17_code
def yX7_killLine : MethodName := ⟨RX7, "killLine", "()I"⟩
abbrev cX7_killBetween : ByteArray := prog_1_method_18_code
def yX7_killBetween : MethodName := ⟨RX7, "killBetween", "()I"⟩
abbrev cX7_copyBetween : ByteArray := prog_1_method_19_code
def yX7_copyBetween : MethodName := ⟨RX7, "copyBetween", "()I"⟩
abbrev cX7_yank : ByteArray := prog_1_method_20_code
def yX7_yank : MethodName := ⟨RX7, "yank", "()I"⟩
abbrev cX7_yankOther : ByteArray := prog_1_method_21_code
def yX7_yankOther : MethodName := ⟨RX7, "yankOther", "()I"⟩
abbrev cX7_turn : ByteArray := prog_1_method_22_code
def yX7_turn : MethodName := ⟨RX7, "turn", "(I)I"⟩
abbrev cX7_changeCaves : ByteArray := prog_1_method_23_code
def yX7_changeCaves : MethodName := ⟨RX7, "changeCaves", "(I)I"⟩
abbrev cX7_append : ByteArray := prog_1_method_24_code
def yX7_append : MethodName := ⟨RX7, "append", "(I)I"⟩
abbrev cX7_clearBuffer : ByteArray := prog_1_method_25_code
def yX7_clearBuffer : MethodName := ⟨RX7, "clearBuffer", "()I"⟩
abbrev cX7_firstError : ByteArray := prog_1_method_26_code
def yX7_firstError : MethodName := ⟨RX7, "firstError", "()I"⟩
abbrev cX7_perform : ByteArray := prog_1_method_27_code
def yX7_perform : MethodName := ⟨RX7, "perform", "()I"⟩
abbrev cX7_keep : ByteArray := prog_1_method_28_code
def yX7_keep : MethodName := ⟨RX7, "keep", "(I)V"⟩
abbrev cX7_goBack : ByteArray := prog_1_method_29_code
def yX7_goBack : MethodName := ⟨RX7, "goBack", "(I)V"⟩
abbrev cX7_undo : ByteArray := prog_1_method_30_code
def yX7_undo : MethodName := ⟨RX7, "undo", "()V"⟩
abbrev cX7_savedStates : ByteArray := prog_1_method_31_code
def yX7_savedStates : MethodName := ⟨RX7, "savedStates", "()I"⟩
abbrev cX7_length : ByteArray := prog_1_method_32_code
def yX7_length : MethodName := ⟨RX7, "length", "()I"⟩
abbrev cX7_codeAt : ByteArray := prog_1_method_33_code
def yX7_codeAt : MethodName := ⟨RX7, "codeAt", "(I)I"⟩
abbrev cX7_point : ByteArray := prog_1_method_34_code
def yX7_point : MethodName := ⟨RX7, "point", "()I"⟩
abbrev cX7_markAt : ByteArray := prog_1_method_35_code
def yX7_markAt : MethodName := ⟨RX7, "markAt", "()I"⟩
abbrev cX7_between : ByteArray := prog_1_method_36_code
def yX7_between : MethodName := ⟨RX7, "between", "()I"⟩
abbrev cX7_linesByEnds : ByteArray := prog_1_method_37_code
def yX7_linesByEnds : MethodName := ⟨RX7, "linesByEnds", "()I"⟩
abbrev cX7_linesByGoing : ByteArray := prog_1_method_38_code
def yX7_linesByGoing : MethodName := ⟨RX7, "linesByGoing", "()I"⟩
abbrev cX7_line : ByteArray := prog_1_method_39_code
def yX7_line : MethodName := ⟨RX7, "line", "()I"⟩
abbrev cX7_column : ByteArray := prog_1_method_40_code
def yX7_column : MethodName := ⟨RX7, "column", "()I"⟩
abbrev cX7_longestLine : ByteArray := prog_1_method_41_code
def yX7_longestLine : MethodName := ⟨RX7, "longestLine", "()I"⟩
abbrev cX7_wordsByBegins : ByteArray := prog_1_method_42_code
def yX7_wordsByBegins : MethodName := ⟨RX7, "wordsByBegins", "()I"⟩
abbrev cX7_wordsByGoing : ByteArray := prog_1_method_43_code
def yX7_wordsByGoing : MethodName := ⟨RX7, "wordsByGoing", "()I"⟩
abbrev cX7_hoards : ByteArray := prog_1_method_44_code
def yX7_hoards : MethodName := ⟨RX7, "hoards", "()I"⟩
abbrev cX7_caves : ByteArray := prog_1_method_45_code
def yX7_caves : MethodName := ⟨RX7, "caves", "()I"⟩
abbrev cX7_lengthOf : ByteArray := prog_1_method_46_code
def yX7_lengthOf : MethodName := ⟨RX7, "lengthOf", "(I)I"⟩
abbrev cX7_codeIn : ByteArray := prog_1_method_47_code
def yX7_codeIn : MethodName := ⟨RX7, "codeIn", "(II)I"⟩
abbrev cX7_nextHoard : ByteArray := prog_1_method_48_code
def yX7_nextHoard : MethodName := ⟨RX7, "nextHoard", "()I"⟩
abbrev cX7_isGrowing : ByteArray := prog_1_method_49_code
def yX7_isGrowing : MethodName := ⟨RX7, "isGrowing", "()Z"⟩
abbrev cX7_canTurnYank : ByteArray := prog_1_method_50_code
def yX7_canTurnYank : MethodName := ⟨RX7, "canTurnYank", "()Z"⟩
abbrev cX7_lengthIfYanked : ByteArray := prog_1_method_51_code
def yX7_lengthIfYanked : MethodName := ⟨RX7, "lengthIfYanked", "(I)I"⟩
abbrev cX7_weight : ByteArray := prog_1_method_52_code
def yX7_weight : MethodName := ⟨RX7, "weight", "()I"⟩
abbrev cX7_heaviest : ByteArray := prog_1_method_53_code
def yX7_heaviest : MethodName := ⟨RX7, "heaviest", "()I"⟩
abbrev cX7_killed : ByteArray := prog_1_method_54_code
def yX7_killed : MethodName := ⟨RX7, "killed", "()I"⟩
abbrev cX7_yanked : ByteArray := prog_1_method_55_code
def yX7_yanked : MethodName := ⟨RX7, "yanked", "()I"⟩
abbrev cX7_written : ByteArray := prog_1_method_56_code
def yX7_written : MethodName := ⟨RX7, "written", "()I"⟩
abbrev cX7_lostHoards : ByteArray := prog_1_method_57_code
def yX7_lostHoards : MethodName := ⟨RX7, "lostHoards", "()I"⟩
abbrev cX7_lengthByAccount : ByteArray := prog_1_method_58_code
def yX7_lengthByAccount : MethodName := ⟨RX7, "lengthByAccount", "()I"⟩
abbrev cX7_meanHoard : ByteArray := prog_1_method_59_code
def yX7_meanHoard : MethodName := ⟨RX7, "meanHoard", "()D"⟩
abbrev cX7_digest : ByteArray := prog_1_method_60_code
def yX7_digest : MethodName := ⟨RX7, "digest", "()J"⟩
abbrev cX7_settled : ByteArray := prog_1_method_61_code
def yX7_settled : MethodName := ⟨RX7, "settled", "(I)I"⟩
abbrev cX7_possible : ByteArray := prog_1_method_62_code
def yX7_possible : MethodName := ⟨RX7, "possible", "(I)I"⟩
abbrev cX7_existing : ByteArray := prog_1_method_63_code
def yX7_existing : MethodName := ⟨RX7, "existing", "(I)I"⟩
abbrev cX7_stageBehind : ByteArray := prog_1_method_64_code
def yX7_stageBehind : MethodName := ⟨RX7, "stageBehind", "(II)I"⟩
abbrev cX7_isNumber : ByteArray := prog_1_method_65_code
def yX7_isNumber : MethodName := ⟨RX7, "isNumber", "(I)Z"⟩
abbrev cX7_tellsDeeds : ByteArray := prog_1_method_66_code
def yX7_tellsDeeds : MethodName := ⟨RX7, "tellsDeeds", "()Z"⟩
abbrev cX7_deedsDone : ByteArray := prog_1_method_67_code
def yX7_deedsDone : MethodName := ⟨RX7, "deedsDone", "()I"⟩
abbrev cX7_hashScroll : ByteArray := prog_1_method_68_code
def yX7_hashScroll : MethodName := ⟨RX7, "hashScroll", "(LDragonRing$Hash;)V"⟩
abbrev cX7_hashRing : ByteArray := prog_1_method_69_code
def yX7_hashRing : MethodName := ⟨RX7, "hashRing", "(LDragonRing$Hash;)V"⟩
abbrev cX7_hashRest : ByteArray := prog_1_method_70_code
def yX7_hashRest : MethodName := ⟨RX7, "hashRest", "(LDragonRing$Hash;)V"⟩
abbrev cX7_bitsOf : ByteArray := prog_1_method_71_code
def yX7_bitsOf : MethodName := ⟨RX7, "bitsOf", "(D)J"⟩
def RX8 : String := "DragonRingModel"
def TX8 : u_T := fun k => match k with
  | 0 => ("DragonRingModel", "s", "[I", true)
  | 1 => ("DragonRingModel", "states", "I", false)
  | 2 => ("DragonRingModel", "isKept", "[Z", true)
  | 3 => ("DragonRingModel", "thrown", "I", false)
  | 4 => ("DragonRingModel", "kind", "I", false)
  | 5 => ("DragonRingModel", "text", "[C", true)
  | 6 => ("DragonRingModel", "typed", "I", false)
  | 7 => ("DragonRingModel", "at", "I", false)
  | 8 => ("DragonRingModel", "times", "I", false)
  | _ => ("DragonRingModel", "sign", "I", false)
def tyX8 : Nat → FieldType := fun k => match k with
  | 0 => .array .int
  | 1 => .int
  | 2 => .array .boolean
  | 3 => .int
  | 4 => .int
  | 5 => .array .char
  | 6 => .int
  | 7 => .int
  | 8 => .int
  | _ => .int
abbrev wsX80 : List Cond := u_ws RX8 TX8 10
theorem nmX8 : ∀ a, a < 10 → ∀ b, b < 10 → a ≠ b → (TX8 a).2.1 ≠ (TX8 b).2.1 := by decide +kernel
theorem tyX8_ok : ∀ k, k < 10 → parseFieldDescriptor (TX8 k).2.2.1 = some (tyX8 k) := by decide +kernel
abbrev cX8_init : ByteArray := prog_10_method_1_code
def yX8_init : MethodName := ⟨RX8, "<init>", "()V"⟩
abbrev cX8_thrown : ByteArray := prog_10_method_2_code
def yX8_thrown : MethodName := ⟨RX8, "thrown", "()I"⟩
abbrev cX8_in : ByteArray := prog_10_method_3_code
def yX8_in : MethodName := ⟨RX8, "in", "(III)Z"⟩
abbrev cX8_goes : ByteArray := prog_10_method_4_code
def yX8_goes : MethodName := ⟨RX8, "goes", "(ZZZ)Z"⟩
abbrev cX8_copies : ByteArray := prog_10_method_5_code
def yX8_copies : MethodName := ⟨RX8, "copies", "(II)V"⟩
abbrev cX8_saves : ByteArray := prog_10_method_6_code
def yX8_saves : MethodName := ⟨RX8, "saves", "()V"⟩
abbrev cX8_code : ByteArray := prog_10_method_7_code
def yX8_code : MethodName := ⟨RX8, "code", "(I)I"⟩
abbrev cX8_isLetter : ByteArray := prog_10_method_8_code
def yX8_isLetter : MethodName := ⟨RX8, "isLetter", "(I)Z"⟩
abbrev cX8_isWord : ByteArray := prog_10_method_9_code
def yX8_isWord : MethodName := ⟨RX8, "isWord", "(I)Z"⟩
abbrev cX8_behindWord : ByteArray := prog_10_method_10_code
def yX8_behindWord : MethodName := ⟨RX8, "behindWord", "(I)I"⟩
abbrev cX8_aheadOfWord : ByteArray := prog_10_method_11_code
def yX8_aheadOfWord : MethodName := ⟨RX8, "aheadOfWord", "(I)I"⟩
abbrev cX8_beginOf : ByteArray := prog_10_method_12_code
def yX8_beginOf : MethodName := ⟨RX8, "beginOf", "(I)I"⟩
abbrev cX8_endOf : ByteArray := prog_10_method_13_code
def yX8_endOf : MethodName := ⟨RX8, "endOf", "(I)I"⟩
abbrev cX8_moved : ByteArray := prog_10_method_14_code
def yX8_moved : MethodName := ⟨RX8, "moved", "(III)I"⟩
abbrev cX8_takesOut : ByteArray := prog_10_method_15_code
def yX8_takesOut : MethodName := ⟨RX8, "takesOut", "(II)V"⟩
abbrev cX8_parts : ByteArray := prog_10_method_16_code
def yX8_parts : MethodName := ⟨RX8, "parts", "(I)V"⟩
abbrev cX8_writes : ByteArray := prog_10_method_17_code
def yX8_writes : MethodName := ⟨RX8, "writes", "(I)I"⟩
abbrev cX8_rubs : ByteArray := prog_10_method_18_code
def yX8_rubs : MethodName := ⟨RX8, "rubs", "()I"⟩
abbrev cX8_swaps : ByteArray := prog_10_method_19_code
def yX8_swaps : MethodName := ⟨RX8, "swaps", "()I"⟩
abbrev cX8_greatens : ByteArray := prog_10_method_20_code
def yX8_greatens : MethodName := ⟨RX8, "greatens", "()I"⟩
abbrev cX8_goesTo : ByteArray := prog_10_method_21_code
def yX8_goesTo : MethodName := ⟨RX8, "goesTo", "(I)I"⟩
abbrev cX8_lineAt : ByteArray := prog_10_method_22_code
def yX8_lineAt : MethodName := ⟨RX8, "lineAt", "(I)I"⟩
abbrev cX8_marks : ByteArray := prog_10_method_23_code
def yX8_marks : MethodName := ⟨RX8, "marks", "()I"⟩
abbrev cX8_exchanges : ByteArray := prog_10_method_24_code
def yX8_exchanges : MethodName := ⟨RX8, "exchanges", "()I"⟩
abbrev cX8_collects : ByteArray := prog_10_method_25_code
def yX8_collects : MethodName := ⟨RX8, "collects", "(II)V"⟩
abbrev cX8_grows : ByteArray := prog_10_method_26_code
def yX8_grows : MethodName := ⟨RX8, "grows", "(IIZ)V"⟩
abbrev cX8_kills : ByteArray := prog_10_method_27_code
def yX8_kills : MethodName := ⟨RX8, "kills", "(IIZ)I"⟩
abbrev cX8_killsWord : ByteArray := prog_10_method_28_code
def yX8_killsWord : MethodName := ⟨RX8, "killsWord", "()I"⟩
abbrev cX8_killsBack : ByteArray := prog_10_method_29_code
def yX8_killsBack : MethodName := ⟨RX8, "killsBack", "()I"⟩
abbrev cX8_killsLine : ByteArray := prog_10_method_30_code
def yX8_killsLine : MethodName := ⟨RX8, "killsLine", "()I"⟩
abbrev cX8_killsBetween : ByteArray := prog_10_method_31_code
def yX8_killsBetween : MethodName := ⟨RX8, "killsBetween", "()I"⟩
abbrev cX8_apart : ByteArray := prog_10_method_32_code
def yX8_apart : MethodName := ⟨RX8, "apart", "()I"⟩
abbrev cX8_copiesBetween : ByteArray := prog_10_method_33_code
def yX8_copiesBetween : MethodName := ⟨RX8, "copiesBetween", "()I"⟩
abbrev cX8_yanks : ByteArray := prog_10_method_34_code
def yX8_yanks : MethodName := ⟨RX8, "yanks", "()I"⟩
abbrev cX8_turns : ByteArray := prog_10_method_35_code
def yX8_turns : MethodName := ⟨RX8, "turns", "(I)I"⟩
abbrev cX8_yanksOther : ByteArray := prog_10_method_36_code
def yX8_yanksOther : MethodName := ⟨RX8, "yanksOther", "()I"⟩
abbrev cX8_does : ByteArray := prog_10_method_37_code
def yX8_does : MethodName := ⟨RX8, "does", "(II)I"⟩
abbrev cX8_doesMore : ByteArray := prog_10_method_38_code
def yX8_doesMore : MethodName := ⟨RX8, "doesMore", "(II)I"⟩
abbrev cX8_kindOf : ByteArray := prog_10_method_39_code
def yX8_kindOf : MethodName := ⟨RX8, "kindOf", "(I)I"⟩
abbrev cX8_acts : ByteArray := prog_10_method_40_code
def yX8_acts : MethodName := ⟨RX8, "acts", "(I)I"⟩
abbrev cX8_remembers : ByteArray := prog_10_method_41_code
def yX8_remembers : MethodName := ⟨RX8, "remembers", "()V"⟩
abbrev cX8_write : ByteArray := prog_10_method_42_code
def yX8_write : MethodName := ⟨RX8, "write", "(I)I"⟩
abbrev cX8_rub : ByteArray := prog_10_method_43_code
def yX8_rub : MethodName := ⟨RX8, "rub", "()I"⟩
abbrev cX8_swap : ByteArray := prog_10_method_44_code
def yX8_swap : MethodName := ⟨RX8, "swap", "()I"⟩
abbrev cX8_greaten : ByteArray := prog_10_method_45_code
def yX8_greaten : MethodName := ⟨RX8, "greaten", "()I"⟩
abbrev cX8_goTo : ByteArray := prog_10_method_46_code
def yX8_goTo : MethodName := ⟨RX8, "goTo", "(I)I"⟩
abbrev cX8_wordOn : ByteArray := prog_10_method_47_code
def yX8_wordOn : MethodName := ⟨RX8, "wordOn", "()I"⟩
abbrev cX8_wordBack : ByteArray := prog_10_method_48_code
def yX8_wordBack : MethodName := ⟨RX8, "wordBack", "()I"⟩
abbrev cX8_lineBegin : ByteArray := prog_10_method_49_code
def yX8_lineBegin : MethodName := ⟨RX8, "lineBegin", "()I"⟩
abbrev cX8_lineEnd : ByteArray := prog_10_method_50_code
def yX8_lineEnd : MethodName := ⟨RX8, "lineEnd", "()I"⟩
abbrev cX8_goLines : ByteArray := prog_10_method_51_code
def yX8_goLines : MethodName := ⟨RX8, "goLines", "(I)I"⟩
abbrev cX8_mark : ByteArray := prog_10_method_52_code
def yX8_mark : MethodName := ⟨RX8, "mark", "()I"⟩
abbrev cX8_exchange : ByteArray := prog_10_method_53_code
def yX8_exchange : MethodName := ⟨RX8, "exchange", "()I"⟩
abbrev cX8_isFoundAt : ByteArray := prog_10_method_54_code
def yX8_isFoundAt : MethodName := ⟨RX8, "isFoundAt", "(I)Z"⟩
abbrev cX8_find : ByteArray := prog_10_method_55_code
def yX8_find : MethodName := ⟨RX8, "find", "()I"⟩
abbrev cX8_killWord : ByteArray := prog_10_method_56_code
def yX8_killWord : MethodName := ⟨RX8, "killWord", "()I"⟩
abbrev cX8_killBack : ByteArray := prog_10_method_57_code
def yX8_killBack : MethodName := ⟨RX8, "killBack", "()I"⟩
abbrev cX8_killLine : ByteArray := prog_10_method_58_code
def yX8_killLine : MethodName := ⟨RX8, "killLine", "()I"⟩
abbrev cX8_killBetween : ByteArray := prog_10_method_59_code
def yX8_killBetween : MethodName := ⟨RX8, "killBetween", "()I"⟩
abbrev cX8_copyBetween : ByteArray := prog_10_method_60_code
def yX8_copyBetween : MethodName := ⟨RX8, "copyBetween", "()I"⟩
abbrev cX8_yank : ByteArray := prog_10_method_61_code
def yX8_yank : MethodName := ⟨RX8, "yank", "()I"⟩
abbrev cX8_yankOther : ByteArray := prog_10_method_62_code
def yX8_yankOther : MethodName := ⟨RX8, "yankOther", "()I"⟩
abbrev cX8_turn : ByteArray := prog_10_method_63_code
def yX8_turn : MethodName := ⟨RX8, "turn", "(I)I"⟩
abbrev cX8_changeCaves : ByteArray := prog_10_method_64_code
def yX8_changeCaves : MethodName := ⟨RX8, "changeCaves", "(I)I"⟩
abbrev cX8_append : ByteArray := prog_10_method_65_code
def yX8_append : MethodName := ⟨RX8, "append", "(I)I"⟩
abbrev cX8_clearBuffer : ByteArray := prog_10_method_66_code
def yX8_clearBuffer : MethodName := ⟨RX8, "clearBuffer", "()I"⟩
abbrev cX8_isSign : ByteArray := prog_10_method_67_code
def yX8_isSign : MethodName := ⟨RX8, "isSign", "(I)Z"⟩
abbrev cX8_part : ByteArray := prog_10_method_68_code
def yX8_part : MethodName := ⟨RX8, "part", "()I"⟩
abbrev cX8_tells : ByteArray := prog_10_method_69_code
def yX8_tells : MethodName := ⟨RX8, "tells", "()Z"⟩
abbrev cX8_firstError : ByteArray := prog_10_method_70_code
def yX8_firstError : MethodName := ⟨RX8, "firstError", "()I"⟩
abbrev cX8_doesAll : ByteArray := prog_10_method_71_code
def yX8_doesAll : MethodName := ⟨RX8, "doesAll", "()I"⟩
abbrev cX8_perform : ByteArray := prog_10_method_72_code
def yX8_perform : MethodName := ⟨RX8, "perform", "()I"⟩
abbrev cX8_keep : ByteArray := prog_10_method_73_code
def yX8_keep : MethodName := ⟨RX8, "keep", "(I)V"⟩
abbrev cX8_goBack : ByteArray := prog_10_method_74_code
def yX8_goBack : MethodName := ⟨RX8, "goBack", "(I)V"⟩
abbrev cX8_undo : ByteArray := prog_10_method_75_code
def yX8_undo : MethodName := ⟨RX8, "undo", "()V"⟩
abbrev cX8_savedStates : ByteArray := prog_10_method_76_code
def yX8_savedStates : MethodName := ⟨RX8, "savedStates", "()I"⟩
abbrev cX8_plain : ByteArray := prog_10_method_77_code
def yX8_plain : MethodName := ⟨RX8, "plain", "(I)I"⟩
abbrev cX8_length : ByteArray := prog_10_method_78_code
def yX8_length : MethodName := ⟨RX8, "length", "()I"⟩
abbrev cX8_codeAt : ByteArray := prog_10_method_79_code
def yX8_codeAt : MethodName := ⟨RX8, "codeAt", "(I)I"⟩
abbrev cX8_point : ByteArray := prog_10_method_80_code
def yX8_point : MethodName := ⟨RX8, "point", "()I"⟩
abbrev cX8_markAt : ByteArray := prog_10_method_81_code
def yX8_markAt : MethodName := ⟨RX8, "markAt", "()I"⟩
abbrev cX8_between : ByteArray := prog_10_method_82_code
def yX8_between : MethodName := ⟨RX8, "between", "()I"⟩
abbrev cX8_endsUntil : ByteArray := prog_10_method_83_code
def yX8_endsUntil : MethodName := ⟨RX8, "endsUntil", "(I)I"⟩
abbrev cX8_linesByEnds : ByteArray := prog_10_method_84_code
def yX8_linesByEnds : MethodName := ⟨RX8, "linesByEnds", "()I"⟩
abbrev cX8_linesByGoing : ByteArray := prog_10_method_85_code
def yX8_linesByGoing : MethodName := ⟨RX8, "linesByGoing", "()I"⟩
abbrev cX8_line : ByteArray := prog_10_method_86_code
def yX8_line : MethodName := ⟨RX8, "line", "()I"⟩
abbrev cX8_column : ByteArray := prog_10_method_87_code
def yX8_column : MethodName := ⟨RX8, "column", "()I"⟩
abbrev cX8_longest : ByteArray := prog_10_method_88_code
def yX8_longest : MethodName := ⟨RX8, "longest", "()I"⟩
abbrev cX8_longestLine : ByteArray := prog_10_method_89_code
def yX8_longestLine : MethodName := ⟨RX8, "longestLine", "()I"⟩
abbrev cX8_words : ByteArray := prog_10_method_90_code
def yX8_words : MethodName := ⟨RX8, "words", "()I"⟩
abbrev cX8_wordsByBegins : ByteArray := prog_10_method_91_code
def yX8_wordsByBegins : MethodName := ⟨RX8, "wordsByBegins", "()I"⟩
abbrev cX8_wordsByGoing : ByteArray := prog_10_method_92_code
def yX8_wordsByGoing : MethodName := ⟨RX8, "wordsByGoing", "()I"⟩
abbrev cX8_hoards : ByteArray := prog_10_method_93_code
def yX8_hoards : MethodName := ⟨RX8, "hoards", "()I"⟩
abbrev cX8_caves : ByteArray := prog_10_method_94_code
def yX8_caves : MethodName := ⟨RX8, "caves", "()I"⟩
abbrev cX8_isHoard : ByteArray := prog_10_method_95_code
def yX8_isHoard : MethodName := ⟨RX8, "isHoard", "(I)Z"⟩
abbrev cX8_lengthOf : ByteArray := prog_10_method_96_code
def yX8_lengthOf : MethodName := ⟨RX8, "lengthOf", "(I)I"⟩
abbrev cX8_codeIn : ByteArray := prog_10_method_97_code
def yX8_codeIn : MethodName := ⟨RX8, "codeIn", "(II)I"⟩
abbrev cX8_nextHoard : ByteArray := prog_10_method_98_code
def yX8_nextHoard : MethodName := ⟨RX8, "nextHoard", "()I"⟩
abbrev cX8_isGrowing : ByteArray := prog_10_method_99_code
def yX8_isGrowing : MethodName := ⟨RX8, "isGrowing", "()Z"⟩
abbrev cX8_canTurnYank : ByteArray := prog_10_method_100_code
def yX8_canTurnYank : MethodName := ⟨RX8, "canTurnYank", "()Z"⟩
abbrev cX8_lengthIfYanked : ByteArray := prog_10_method_101_code
def yX8_lengthIfYanked : MethodName := ⟨RX8, "lengthIfYanked", "(I)I"⟩
abbrev cX8_sum : ByteArray := prog_10_method_102_code
def yX8_sum : MethodName := ⟨RX8, "sum", "()I"⟩
abbrev cX8_weight : ByteArray := prog_10_method_103_code
def yX8_weight : MethodName := ⟨RX8, "weight", "()I"⟩
abbrev cX8_heavy : ByteArray := prog_10_method_104_code
def yX8_heavy : MethodName := ⟨RX8, "heavy", "()I"⟩
abbrev cX8_heaviest : ByteArray := prog_10_method_105_code
def yX8_heaviest : MethodName := ⟨RX8, "heaviest", "()I"⟩
abbrev cX8_killed : ByteArray := prog_10_method_106_code
def yX8_killed : MethodName := ⟨RX8, "killed", "()I"⟩
abbrev cX8_yanked : ByteArray := prog_10_method_107_code
def yX8_yanked : MethodName := ⟨RX8, "yanked", "()I"⟩
abbrev cX8_written : ByteArray := prog_10_method_108_code
def yX8_written : MethodName := ⟨RX8, "written", "()I"⟩
abbrev cX8_lostHoards : ByteArray := prog_10_method_109_code
def yX8_lostHoards : MethodName := ⟨RX8, "lostHoards", "()I"⟩
abbrev cX8_lengthByAccount : ByteArray := prog_10_method_110_code
def yX8_lengthByAccount : MethodName := ⟨RX8, "lengthByAccount", "()I"⟩
abbrev cX8_meanHoard : ByteArray := prog_10_method_111_code
def yX8_meanHoard : MethodName := ⟨RX8, "meanHoard", "()D"⟩
abbrev cX8_bits : ByteArray := prog_10_method_112_code
def yX8_bits : MethodName := ⟨RX8, "bits", "(II)J"⟩
abbrev cX8_hashOfScroll : ByteArray := prog_10_method_113_code
def yX8_hashOfScroll : MethodName := ⟨RX8, "hashOfScroll", "()J"⟩
abbrev cX8_digest : ByteArray := prog_10_method_114_code
def yX8_digest : MethodName := ⟨RX8, "digest", "()J"⟩
def RJ11 : String := "java/lang/Character"
def TJ11 : u_T := fun k => match k with
  | _ => ("", "", "", false)
def tyJ11 : Nat → FieldType := fun k => match k with
  | _ => .int
abbrev wsJ110 : List Cond := u_ws RJ11 TJ11 0
theorem nmJ11 : ∀ a, a < 0 → ∀ b, b < 0 → a ≠ b → (TJ11 a).2.1 ≠ (TJ11 b).2.1 := by decide +kernel
theorem tyJ11_ok : ∀ k, k < 0 → parseFieldDescriptor (TJ11 k).2.2.1 = some (tyJ11 k) := by decide +kernel
abbrev cJ11_isValidCodePoint_9a6ad : ByteArray := prog_11_method_11_code
def yJ11_isValidCodePoint_9a6ad : MethodName := ⟨RJ11, "isValidCodePoint", "(I)Z"⟩
abbrev cJ11_highSurrogate_5068e : ByteArray := prog_11_method_28_code
def yJ11_highSurrogate_5068e : MethodName := ⟨RJ11, "highSurrogate", "(I)C"⟩
abbrev cJ11_lowSurrogate_5068e : ByteArray := prog_11_method_29_code
def yJ11_lowSurrogate_5068e : MethodName := ⟨RJ11, "lowSurrogate", "(I)C"⟩
def RJ9 : String := "java/lang/Math"
def TJ9 : u_T := fun k => match k with
  | _ => ("", "", "", false)
def tyJ9 : Nat → FieldType := fun k => match k with
  | _ => .int
abbrev wsJ90 : List Cond := u_ws RJ9 TJ9 0
theorem nmJ9 : ∀ a, a < 0 → ∀ b, b < 0 → a ≠ b → (TJ9 a).2.1 ≠ (TJ9 b).2.1 := by decide +kernel
theorem tyJ9_ok : ∀ k, k < 0 → parseFieldDescriptor (TJ9 k).2.2.1 = some (tyJ9 k) := by decide +kernel
abbrev cJ9_floorMod_7cf53 : ByteArray := prog_16_method_50_code
def yJ9_floorMod_7cf53 : MethodName := ⟨RJ9, "floorMod", "(II)I"⟩
abbrev cJ9_abs_0f7a4 : ByteArray := prog_16_method_59_code
def yJ9_abs_0f7a4 : MethodName := ⟨RJ9, "abs", "(I)I"⟩
abbrev cJ9_max_7cf53 : ByteArray := prog_16_method_65_code
def yJ9_max_7cf53 : MethodName := ⟨RJ9, "max", "(II)I"⟩
abbrev cJ9_min_7cf53 : ByteArray := prog_16_method_69_code
def yJ9_min_7cf53 : MethodName := ⟨RJ9, "min", "(II)I"⟩
def RJ0 : String := "java/lang/String"
def TJ0 : u_T := fun k => match k with
  | _ => ("", "", "", false)
def tyJ0 : Nat → FieldType := fun k => match k with
  | _ => .int
abbrev wsJ00 : List Cond := u_ws RJ0 TJ0 0
theorem nmJ0 : ∀ a, a < 0 → ∀ b, b < 0 → a ≠ b → (TJ0 a).2.1 ≠ (TJ0 b).2.1 := by decide +kernel
theorem tyJ0_ok : ∀ k, k < 0 → parseFieldDescriptor (TJ0 k).2.2.1 = some (tyJ0 k) := by decide +kernel
abbrev cJ0_length_8abf5 : ByteArray := prog_18_method_54_code
def yJ0_length_8abf5 : MethodName := ⟨RJ0, "length", "()I"⟩
abbrev cJ0_indexOf_0f7a4 : ByteArray := prog_18_method_79_code
def yJ0_indexOf_0f7a4 : MethodName := ⟨RJ0, "indexOf", "(I)I"⟩
abbrev cJ0_indexOf_7cf53 : ByteArray := prog_18_method_80_code
def yJ0_indexOf_7cf53 : MethodName := ⟨RJ0, "indexOf", "(II)I"⟩
abbrev cJ0_coder_7d493 : ByteArray := prog_18_method_152_code
def yJ0_coder_7d493 : MethodName := ⟨RJ0, "coder", "()B"⟩
abbrev cJ0_isLatin1_aae02 : ByteArray := prog_18_method_154_code
def yJ0_isLatin1_aae02 : MethodName := ⟨RJ0, "isLatin1", "()Z"⟩
abbrev cJ0_checkBoundsBeginEnd_23922 : ByteArray := prog_18_method_158_code
def yJ0_checkBoundsBeginEnd_23922 : MethodName := ⟨RJ0, "checkBoundsBeginEnd", "(III)V"⟩
def RJ1 : String := "java/lang/StringLatin1"
def TJ1 : u_T := fun k => match k with
  | _ => ("", "", "", false)
def tyJ1 : Nat → FieldType := fun k => match k with
  | _ => .int
abbrev wsJ10 : List Cond := u_ws RJ1 TJ1 0
theorem nmJ1 : ∀ a, a < 0 → ∀ b, b < 0 → a ≠ b → (TJ1 a).2.1 ≠ (TJ1 b).2.1 := by decide +kernel
theorem tyJ1_ok : ∀ k, k < 0 → parseFieldDescriptor (TJ1 k).2.2.1 = some (tyJ1 k) := by decide +kernel
abbrev cJ1_canEncode_9a6ad : ByteArray := prog_19_method_4_code
def yJ1_canEncode_9a6ad : MethodName := ⟨RJ1, "canEncode", "(I)Z"⟩
abbrev cJ1_indexOf_4cfef : ByteArray := prog_19_method_22_code
def yJ1_indexOf_4cfef : MethodName := ⟨RJ1, "indexOf", "([BIII)I"⟩
abbrev cJ1_indexOfChar_4cfef : ByteArray := prog_19_method_23_code
def yJ1_indexOfChar_4cfef : MethodName := ⟨RJ1, "indexOfChar", "([BIII)I"⟩
def RJ2 : String := "java/lang/StringUTF16"
def TJ2 : u_T := fun k => match k with
  | _ => ("", "", "", false)
def tyJ2 : Nat → FieldType := fun k => match k with
  | _ => .int
abbrev wsJ20 : List Cond := u_ws RJ2 TJ2 0
theorem nmJ2 : ∀ a, a < 0 → ∀ b, b < 0 → a ≠ b → (TJ2 a).2.1 ≠ (TJ2 b).2.1 := by decide +kernel
theorem tyJ2_ok : ∀ k, k < 0 → parseFieldDescriptor (TJ2 k).2.2.1 = some (tyJ2 k) := by decide +kernel
abbrev cJ2_getChar_3b067 : ByteArray := prog_20_method_5_code
def yJ2_getChar_3b067 : MethodName := ⟨RJ2, "getChar", "([BI)C"⟩
abbrev cJ2_length_9d52b : ByteArray := prog_20_method_6_code
def yJ2_length_9d52b : MethodName := ⟨RJ2, "length", "([B)I"⟩
abbrev cJ2_indexOf_4cfef : ByteArray := prog_20_method_40_code
def yJ2_indexOf_4cfef : MethodName := ⟨RJ2, "indexOf", "([BIII)I"⟩
abbrev cJ2_indexOfChar_4cfef : ByteArray := prog_20_method_47_code
def yJ2_indexOfChar_4cfef : MethodName := ⟨RJ2, "indexOfChar", "([BIII)I"⟩
abbrev cJ2_indexOfCharUnsafe_4cfef : ByteArray := prog_20_method_48_code
def yJ2_indexOfCharUnsafe_4cfef : MethodName := ⟨RJ2, "indexOfCharUnsafe", "([BIII)I"⟩
abbrev cJ2_indexOfSupplementary_4cfef : ByteArray := prog_20_method_49_code
def yJ2_indexOfSupplementary_4cfef : MethodName := ⟨RJ2, "indexOfSupplementary", "([BIII)I"⟩
abbrev cJ2_checkBoundsBeginEnd_d044e : ByteArray := prog_20_method_93_code
def yJ2_checkBoundsBeginEnd_d044e : MethodName := ⟨RJ2, "checkBoundsBeginEnd", "(II[B)V"⟩
def RJ10 : String := "java/lang/System"
def TJ10 : u_T := fun k => match k with
  | _ => ("", "", "", false)
def tyJ10 : Nat → FieldType := fun k => match k with
  | _ => .int
abbrev wsJ100 : List Cond := u_ws RJ10 TJ10 0
theorem nmJ10 : ∀ a, a < 0 → ∀ b, b < 0 → a ≠ b → (TJ10 a).2.1 ≠ (TJ10 b).2.1 := by decide +kernel
theorem tyJ10_ok : ∀ k, k < 0 → parseFieldDescriptor (TJ10 k).2.2.1 = some (tyJ10 k) := by decide +kernel
def RJ3 : String := "jdk/internal/util/Preconditions"
def TJ3 : u_T := fun k => match k with
  | _ => ("", "", "", false)
def tyJ3 : Nat → FieldType := fun k => match k with
  | _ => .int
abbrev wsJ30 : List Cond := u_ws RJ3 TJ3 0
theorem nmJ3 : ∀ a, a < 0 → ∀ b, b < 0 → a ≠ b → (TJ3 a).2.1 ≠ (TJ3 b).2.1 := by decide +kernel
theorem tyJ3_ok : ∀ k, k < 0 → parseFieldDescriptor (TJ3 k).2.2.1 = some (tyJ3 k) := by decide +kernel
abbrev cJ3_checkFromToIndex_8c36e : ByteArray := prog_23_method_12_code
def yJ3_checkFromToIndex_8c36e : MethodName := ⟨RJ3, "checkFromToIndex", "(IIILjava/util/function/BiFunction;)I"⟩
def RL : String := "DragonRingLaw"
abbrev cL_write : ByteArray := method_3_code
def yL_write : MethodName := ⟨RL, "write", "(LDragonRing;I[J)I"⟩
abbrev cL_rub : ByteArray := method_4_code
def yL_rub : MethodName := ⟨RL, "rub", "(LDragonRing;[J)I"⟩
abbrev cL_swap : ByteArray := method_5_code
def yL_swap : MethodName := ⟨RL, "swap", "(LDragonRing;[J)I"⟩
abbrev cL_goTo : ByteArray := method_6_code
def yL_goTo : MethodName := ⟨RL, "goTo", "(LDragonRing;I[J)I"⟩
abbrev cL_goLines : ByteArray := method_7_code
def yL_goLines : MethodName := ⟨RL, "goLines", "(LDragonRing;I[J)I"⟩
abbrev cL_exchange : ByteArray := method_8_code
def yL_exchange : MethodName := ⟨RL, "exchange", "(LDragonRing;[J)I"⟩
abbrev cL_find : ByteArray := method_9_code
def yL_find : MethodName := ⟨RL, "find", "(LDragonRing;[J)I"⟩
abbrev cL_killWord : ByteArray := method_10_code
def yL_killWord : MethodName := ⟨RL, "killWord", "(LDragonRing;[J)I"⟩
abbrev cL_killBack : ByteArray := method_11_code
def yL_killBack : MethodName := ⟨RL, "killBack", "(LDragonRing;[J)I"⟩
abbrev cL_killLine : ByteArray := method_12_code
def yL_killLine : MethodName := ⟨RL, "killLine", "(LDragonRing;[J)I"⟩
abbrev cL_killBetween : ByteArray := method_13_code
def yL_killBetween : MethodName := ⟨RL, "killBetween", "(LDragonRing;[J)I"⟩
abbrev cL_copyBetween : ByteArray := method_14_code
def yL_copyBetween : MethodName := ⟨RL, "copyBetween", "(LDragonRing;[J)I"⟩
abbrev cL_yank : ByteArray := method_15_code
def yL_yank : MethodName := ⟨RL, "yank", "(LDragonRing;[J)I"⟩
abbrev cL_yankOther : ByteArray := method_16_code
def yL_yankOther : MethodName := ⟨RL, "yankOther", "(LDragonRing;[J)I"⟩
abbrev cL_turn : ByteArray := method_17_code
def yL_turn : MethodName := ⟨RL, "turn", "(LDragonRing;I[J)I"⟩
abbrev cL_changeCaves : ByteArray := method_18_code
def yL_changeCaves : MethodName := ⟨RL, "changeCaves", "(LDragonRing;I[J)I"⟩
abbrev cL_append : ByteArray := method_19_code
def yL_append : MethodName := ⟨RL, "append", "(LDragonRing;I[J)I"⟩
abbrev cL_perform : ByteArray := method_20_code
def yL_perform : MethodName := ⟨RL, "perform", "(LDragonRing;[J)I"⟩
abbrev cL_keep : ByteArray := method_21_code
def yL_keep : MethodName := ⟨RL, "keep", "(LDragonRing;I)I"⟩
abbrev cL_goBack : ByteArray := method_22_code
def yL_goBack : MethodName := ⟨RL, "goBack", "(LDragonRing;I)I"⟩
abbrev cL_undo : ByteArray := method_23_code
def yL_undo : MethodName := ⟨RL, "undo", "(LDragonRing;)I"⟩
abbrev cL_codeAt : ByteArray := method_24_code
def yL_codeAt : MethodName := ⟨RL, "codeAt", "(LDragonRing;I[J)I"⟩
abbrev cL_markAt : ByteArray := method_25_code
def yL_markAt : MethodName := ⟨RL, "markAt", "(LDragonRing;[J)I"⟩
abbrev cL_between : ByteArray := method_26_code
def yL_between : MethodName := ⟨RL, "between", "(LDragonRing;[J)I"⟩
abbrev cL_lengthOf : ByteArray := method_27_code
def yL_lengthOf : MethodName := ⟨RL, "lengthOf", "(LDragonRing;I[J)I"⟩
abbrev cL_codeIn : ByteArray := method_28_code
def yL_codeIn : MethodName := ⟨RL, "codeIn", "(LDragonRing;II[J)I"⟩
abbrev cL_nextHoard : ByteArray := method_29_code
def yL_nextHoard : MethodName := ⟨RL, "nextHoard", "(LDragonRing;[J)I"⟩
abbrev cL_lengthIfYanked : ByteArray := method_30_code
def yL_lengthIfYanked : MethodName := ⟨RL, "lengthIfYanked", "(LDragonRing;I[J)I"⟩
abbrev cL_heaviest : ByteArray := method_31_code
def yL_heaviest : MethodName := ⟨RL, "heaviest", "(LDragonRing;[J)I"⟩
abbrev cL_law : ByteArray := code
def yL_law : MethodName := ⟨RL, "law", "([I)Z"⟩
abbrev vwCl : List vw_C := [(RX0, TX0, 6), (RX1, TX1, 1), (RX2, TX2, 3), (RX3, TX3, 5), (RX4, TX4, 3), (RX5, TX5, 4), (RX6, TX6, 2), (RX7, TX7, 5), (RX8, TX8, 10)]
end
section
theorem dX0_init_0 : decode cX0_init 0 = .ok (.aload_n 0, 1) := by decide +kernel
theorem dX0_init_1 : decode cX0_init 1 = .ok (.invokespecial 1, 3) := by decide +kernel
theorem dX0_init_4 : decode cX0_init 4 = .ok (.return_, 1) := by decide +kernel
theorem dX0_copyFrom_0 : decode cX0_copyFrom 0 = .ok (.aload_n 0, 1) := by decide +kernel
theorem dX0_copyFrom_1 : decode cX0_copyFrom 1 = .ok (.aload_n 1, 1) := by decide +kernel
theorem dX0_copyFrom_2 : decode cX0_copyFrom 2 = .ok (.getfield 7, 3) := by decide +kernel
theorem dX0_copyFrom_5 : decode cX0_copyFrom 5 = .ok (.putfield 7, 3) := by decide +kernel
theorem dX0_copyFrom_8 : decode cX0_copyFrom 8 = .ok (.aload_n 0, 1) := by decide +kernel
theorem dX0_copyFrom_9 : decode cX0_copyFrom 9 = .ok (.aload_n 1, 1) := by decide +kernel
theorem dX0_copyFrom_10 : decode cX0_copyFrom 10 = .ok (.getfield 13, 3) := by decide +kernel
theorem dX0_copyFrom_13 : decode cX0_copyFrom 13 = .ok (.putfield 13, 3) := by decide +kernel
theorem dX0_copyFrom_16 : decode cX0_copyFrom 16 = .ok (.aload_n 0, 1) := by decide +kernel
theorem dX0_copyFrom_17 : decode cX0_copyFrom 17 = .ok (.aload_n 1, 1) := by decide +kernel
theorem dX0_copyFrom_18 : decode cX0_copyFrom 18 = .ok (.getfield 16, 3) := by decide +kernel
theorem dX0_copyFrom_21 : decode cX0_copyFrom 21 = .ok (.putfield 16, 3) := by decide +kernel
theorem dX0_copyFrom_24 : decode cX0_copyFrom 24 = .ok (.aload_n 0, 1) := by decide +kernel
theorem dX0_copyFrom_25 : decode cX0_copyFrom 25 = .ok (.aload_n 1, 1) := by decide +kernel
theorem dX0_copyFrom_26 : decode cX0_copyFrom 26 = .ok (.getfield 19, 3) := by decide +kernel
theorem dX0_copyFrom_29 : decode cX0_copyFrom 29 = .ok (.putfield 19, 3) := by decide +kernel
theorem dX0_copyFrom_32 : decode cX0_copyFrom 32 = .ok (.aload_n 0, 1) := by decide +kernel
theorem dX0_copyFrom_33 : decode cX0_copyFrom 33 = .ok (.aload_n 1, 1) := by decide +kernel
theorem dX0_copyFrom_34 : decode cX0_copyFrom 34 = .ok (.getfield 22, 3) := by decide +kernel
theorem dX0_copyFrom_37 : decode cX0_copyFrom 37 = .ok (.putfield 22, 3) := by decide +kernel
theorem dX0_copyFrom_40 : decode cX0_copyFrom 40 = .ok (.aload_n 0, 1) := by decide +kernel
theorem dX0_copyFrom_41 : decode cX0_copyFrom 41 = .ok (.aload_n 1, 1) := by decide +kernel
theorem dX0_copyFrom_42 : decode cX0_copyFrom 42 = .ok (.getfield 25, 3) := by decide +kernel
theorem dX0_copyFrom_45 : decode cX0_copyFrom 45 = .ok (.putfield 25, 3) := by decide +kernel
theorem dX0_copyFrom_48 : decode cX0_copyFrom 48 = .ok (.return_, 1) := by decide +kernel
theorem dX0_balance_0 : decode cX0_balance 0 = .ok (.aload_n 0, 1) := by decide +kernel
theorem dX0_balance_1 : decode cX0_balance 1 = .ok (.getfield 7, 3) := by decide +kernel
theorem dX0_balance_4 : decode cX0_balance 4 = .ok (.aload_n 0, 1) := by decide +kernel
theorem dX0_balance_5 : decode cX0_balance 5 = .ok (.getfield 19, 3) := by decide +kernel
theorem dX0_balance_8 : decode cX0_balance 8 = .ok (.iadd, 1) := by decide +kernel
theorem dX0_balance_9 : decode cX0_balance 9 = .ok (.aload_n 0, 1) := by decide +kernel
theorem dX0_balance_10 : decode cX0_balance 10 = .ok (.getfield 16, 3) := by decide +kernel
theorem dX0_balance_13 : decode cX0_balance 13 = .ok (.isub, 1) := by decide +kernel
theorem dX0_balance_14 : decode cX0_balance 14 = .ok (.aload_n 0, 1) := by decide +kernel
theorem dX0_balance_15 : decode cX0_balance 15 = .ok (.getfield 13, 3) := by decide +kernel
theorem dX0_balance_18 : decode cX0_balance 18 = .ok (.isub, 1) := by decide +kernel
theorem dX0_balance_19 : decode cX0_balance 19 = .ok (.aload_n 0, 1) := by decide +kernel
theorem dX0_balance_20 : decode cX0_balance 20 = .ok (.getfield 22, 3) := by decide +kernel
theorem dX0_balance_23 : decode cX0_balance 23 = .ok (.isub, 1) := by decide +kernel
theorem dX0_balance_24 : decode cX0_balance 24 = .ok (.ireturn, 1) := by decide +kernel
theorem dX1_init_0 : decode cX1_init 0 = .ok (.aload_n 0, 1) := by decide +kernel
theorem dX1_init_1 : decode cX1_init 1 = .ok (.invokespecial 3, 3) := by decide +kernel
theorem dX1_init_4 : decode cX1_init 4 = .ok (.aload_n 0, 1) := by decide +kernel
theorem dX1_init_5 : decode cX1_init 5 = .ok (.ldc2_w 9, 3) := by decide +kernel
theorem dX1_init_8 : decode cX1_init 8 = .ok (.putfield 11, 3) := by decide +kernel
theorem dX1_init_11 : decode cX1_init 11 = .ok (.return_, 1) := by decide +kernel
theorem dX1_add_0 : decode cX1_add 0 = .ok (.aload_n 0, 1) := by decide +kernel
theorem dX1_add_1 : decode cX1_add 1 = .ok (.ldc2_w 17, 3) := by decide +kernel
theorem dX1_add_4 : decode cX1_add 4 = .ok (.aload_n 0, 1) := by decide +kernel
theorem dX1_add_5 : decode cX1_add 5 = .ok (.getfield 11, 3) := by decide +kernel
theorem dX1_add_8 : decode cX1_add 8 = .ok (.lmul, 1) := by decide +kernel
theorem dX1_add_9 : decode cX1_add 9 = .ok (.lload_n 1, 1) := by decide +kernel
theorem dX1_add_10 : decode cX1_add 10 = .ok (.ladd, 1) := by decide +kernel
theorem dX1_add_11 : decode cX1_add 11 = .ok (.putfield 11, 3) := by decide +kernel
theorem dX1_add_14 : decode cX1_add 14 = .ok (.return_, 1) := by decide +kernel
theorem dX1_addText_0 : decode cX1_addText 0 = .ok (.aload_n 0, 1) := by decide +kernel
theorem dX1_addText_1 : decode cX1_addText 1 = .ok (.aload_n 1, 1) := by decide +kernel
theorem dX1_addText_2 : decode cX1_addText 2 = .ok (.invokevirtual 19, 3) := by decide +kernel
theorem dX1_addText_5 : decode cX1_addText 5 = .ok (.i2l, 1) := by decide +kernel
theorem dX1_addText_6 : decode cX1_addText 6 = .ok (.invokevirtual 25, 3) := by decide +kernel
theorem dX1_addText_9 : decode cX1_addText 9 = .ok (.iconst 0, 1) := by decide +kernel
theorem dX1_addText_10 : decode cX1_addText 10 = .ok (.istore_n 2, 1) := by decide +kernel
theorem dX1_addText_11 : decode cX1_addText 11 = .ok (.iload_n 2, 1) := by decide +kernel
theorem dX1_addText_12 : decode cX1_addText 12 = .ok (.aload_n 1, 1) := by decide +kernel
theorem dX1_addText_13 : decode cX1_addText 13 = .ok (.invokevirtual 19, 3) := by decide +kernel
theorem dX1_addText_16 : decode cX1_addText 16 = .ok (.if_icmp .ge 19, 3) := by decide +kernel
theorem dX1_addText_19 : decode cX1_addText 19 = .ok (.aload_n 0, 1) := by decide +kernel
theorem dX1_addText_20 : decode cX1_addText 20 = .ok (.aload_n 1, 1) := by decide +kernel
theorem dX1_addText_21 : decode cX1_addText 21 = .ok (.iload_n 2, 1) := by decide +kernel
theorem dX1_addText_22 : decode cX1_addText 22 = .ok (.invokevirtual 29, 3) := by decide +kernel
theorem dX1_addText_25 : decode cX1_addText 25 = .ok (.i2l, 1) := by decide +kernel
theorem dX1_addText_26 : decode cX1_addText 26 = .ok (.invokevirtual 25, 3) := by decide +kernel
theorem dX1_addText_29 : decode cX1_addText 29 = .ok (.iinc 2 1, 3) := by decide +kernel
theorem dX1_addText_32 : decode cX1_addText 32 = .ok (.goto (-21), 3) := by decide +kernel
theorem dX1_addText_35 : decode cX1_addText 35 = .ok (.return_, 1) := by decide +kernel
theorem dX2_init_0 : decode cX2_init 0 = .ok (.aload_n 0, 1) := by decide +kernel
theorem dX2_init_1 : decode cX2_init 1 = .ok (.invokespecial 3, 3) := by decide +kernel
theorem dX2_init_4 : decode cX2_init 4 = .ok (.aload_n 0, 1) := by decide +kernel
theorem dX2_init_5 : decode cX2_init 5 = .ok (.bipush 7, 2) := by decide +kernel
theorem dX2_init_7 : decode cX2_init 7 = .ok (.anewarray 11, 3) := by decide +kernel
theorem dX2_init_10 : decode cX2_init 10 = .ok (.putfield 13, 3) := by decide +kernel
theorem dX2_init_13 : decode cX2_init 13 = .ok (.iconst 0, 1) := by decide +kernel
theorem dX2_init_14 : decode cX2_init 14 = .ok (.istore_n 1, 1) := by decide +kernel
theorem dX2_init_15 : decode cX2_init 15 = .ok (.iload_n 1, 1) := by decide +kernel
theorem dX2_init_16 : decode cX2_init 16 = .ok (.bipush 7, 2) := by decide +kernel
theorem dX2_init_18 : decode cX2_init 18 = .ok (.if_icmp .ge 22, 3) := by decide +kernel
theorem dX2_init_21 : decode cX2_init 21 = .ok (.aload_n 0, 1) := by decide +kernel
theorem dX2_init_22 : decode cX2_init 22 = .ok (.getfield 13, 3) := by decide +kernel
theorem dX2_init_25 : decode cX2_init 25 = .ok (.iload_n 1, 1) := by decide +kernel
theorem dX2_init_26 : decode cX2_init 26 = .ok (.new 11, 3) := by decide +kernel
theorem dX2_init_29 : decode cX2_init 29 = .ok (.dup, 1) := by decide +kernel
theorem dX2_init_30 : decode cX2_init 30 = .ok (.invokespecial 17, 3) := by decide +kernel
theorem dX2_init_33 : decode cX2_init 33 = .ok (.aastore, 1) := by decide +kernel
theorem dX2_init_34 : decode cX2_init 34 = .ok (.iinc 1 1, 3) := by decide +kernel
theorem dX2_init_37 : decode cX2_init 37 = .ok (.goto (-22), 3) := by decide +kernel
theorem dX2_init_40 : decode cX2_init 40 = .ok (.return_, 1) := by decide +kernel
theorem dX2_count_0 : decode cX2_count 0 = .ok (.aload_n 0, 1) := by decide +kernel
theorem dX2_count_1 : decode cX2_count 1 = .ok (.getfield 18, 3) := by decide +kernel
theorem dX2_count_4 : decode cX2_count 4 = .ok (.ireturn, 1) := by decide +kernel
theorem dX2_row_0 : decode cX2_row 0 = .ok (.aload_n 0, 1) := by decide +kernel
theorem dX2_row_1 : decode cX2_row 1 = .ok (.getfield 13, 3) := by decide +kernel
theorem dX2_row_4 : decode cX2_row 4 = .ok (.iload_n 1, 1) := by decide +kernel
theorem dX2_row_5 : decode cX2_row 5 = .ok (.bipush 7, 2) := by decide +kernel
theorem dX2_row_7 : decode cX2_row 7 = .ok (.invokestatic 22, 3) := by decide +kernel
theorem dX2_row_10 : decode cX2_row 10 = .ok (.aaload, 1) := by decide +kernel
theorem dX2_row_11 : decode cX2_row 11 = .ok (.areturn, 1) := by decide +kernel
theorem dX2_prepare_0 : decode cX2_prepare 0 = .ok (.aload_n 0, 1) := by decide +kernel
theorem dX2_prepare_1 : decode cX2_prepare 1 = .ok (.invokevirtual 28, 3) := by decide +kernel
theorem dX2_prepare_4 : decode cX2_prepare 4 = .ok (.aload_n 1, 1) := by decide +kernel
theorem dX2_prepare_5 : decode cX2_prepare 5 = .ok (.invokevirtual 32, 3) := by decide +kernel
theorem dX2_prepare_8 : decode cX2_prepare 8 = .ok (.return_, 1) := by decide +kernel
theorem dX2_prepared_0 : decode cX2_prepared 0 = .ok (.aload_n 0, 1) := by decide +kernel
theorem dX2_prepared_1 : decode cX2_prepared 1 = .ok (.aload_n 0, 1) := by decide +kernel
theorem dX2_prepared_2 : decode cX2_prepared 2 = .ok (.getfield 36, 3) := by decide +kernel
theorem dX2_prepared_5 : decode cX2_prepared 5 = .ok (.aload_n 0, 1) := by decide +kernel
theorem dX2_prepared_6 : decode cX2_prepared 6 = .ok (.getfield 18, 3) := by decide +kernel
theorem dX2_prepared_9 : decode cX2_prepared 9 = .ok (.iadd, 1) := by decide +kernel
theorem dX2_prepared_10 : decode cX2_prepared 10 = .ok (.invokevirtual 39, 3) := by decide +kernel
theorem dX2_prepared_13 : decode cX2_prepared 13 = .ok (.areturn, 1) := by decide +kernel
theorem dX2_save_0 : decode cX2_save 0 = .ok (.aload_n 0, 1) := by decide +kernel
theorem dX2_save_1 : decode cX2_save 1 = .ok (.getfield 18, 3) := by decide +kernel
theorem dX2_save_4 : decode cX2_save 4 = .ok (.bipush 6, 2) := by decide +kernel
theorem dX2_save_6 : decode cX2_save 6 = .ok (.if_icmp .ge 16, 3) := by decide +kernel
theorem dX2_save_9 : decode cX2_save 9 = .ok (.aload_n 0, 1) := by decide +kernel
theorem dX2_save_10 : decode cX2_save 10 = .ok (.dup, 1) := by decide +kernel
theorem dX2_save_11 : decode cX2_save 11 = .ok (.getfield 18, 3) := by decide +kernel
theorem dX2_save_14 : decode cX2_save 14 = .ok (.iconst 1, 1) := by decide +kernel
theorem dX2_save_15 : decode cX2_save 15 = .ok (.iadd, 1) := by decide +kernel
theorem dX2_save_16 : decode cX2_save 16 = .ok (.putfield 18, 3) := by decide +kernel
theorem dX2_save_19 : decode cX2_save 19 = .ok (.goto 18, 3) := by decide +kernel
theorem dX2_save_22 : decode cX2_save 22 = .ok (.aload_n 0, 1) := by decide +kernel
theorem dX2_save_23 : decode cX2_save 23 = .ok (.aload_n 0, 1) := by decide +kernel
theorem dX2_save_24 : decode cX2_save 24 = .ok (.getfield 36, 3) := by decide +kernel
theorem dX2_save_27 : decode cX2_save 27 = .ok (.iconst 1, 1) := by decide +kernel
theorem dX2_save_28 : decode cX2_save 28 = .ok (.iadd, 1) := by decide +kernel
theorem dX2_save_29 : decode cX2_save 29 = .ok (.bipush 7, 2) := by decide +kernel
theorem dX2_save_31 : decode cX2_save 31 = .ok (.invokestatic 22, 3) := by decide +kernel
theorem dX2_save_34 : decode cX2_save 34 = .ok (.putfield 36, 3) := by decide +kernel
theorem dX2_save_37 : decode cX2_save 37 = .ok (.return_, 1) := by decide +kernel
theorem dX2_latest_0 : decode cX2_latest 0 = .ok (.aload_n 0, 1) := by decide +kernel
theorem dX2_latest_1 : decode cX2_latest 1 = .ok (.aload_n 0, 1) := by decide +kernel
theorem dX2_latest_2 : decode cX2_latest 2 = .ok (.getfield 36, 3) := by decide +kernel
theorem dX2_latest_5 : decode cX2_latest 5 = .ok (.aload_n 0, 1) := by decide +kernel
theorem dX2_latest_6 : decode cX2_latest 6 = .ok (.getfield 18, 3) := by decide +kernel
theorem dX2_latest_9 : decode cX2_latest 9 = .ok (.iadd, 1) := by decide +kernel
theorem dX2_latest_10 : decode cX2_latest 10 = .ok (.iconst 1, 1) := by decide +kernel
theorem dX2_latest_11 : decode cX2_latest 11 = .ok (.isub, 1) := by decide +kernel
theorem dX2_latest_12 : decode cX2_latest 12 = .ok (.invokevirtual 39, 3) := by decide +kernel
theorem dX2_latest_15 : decode cX2_latest 15 = .ok (.areturn, 1) := by decide +kernel
theorem dX2_drop_0 : decode cX2_drop 0 = .ok (.aload_n 0, 1) := by decide +kernel
theorem dX2_drop_1 : decode cX2_drop 1 = .ok (.getfield 18, 3) := by decide +kernel
theorem dX2_drop_4 : decode cX2_drop 4 = .ok (.ifCond .le 13, 3) := by decide +kernel
theorem dX2_drop_7 : decode cX2_drop 7 = .ok (.aload_n 0, 1) := by decide +kernel
theorem dX2_drop_8 : decode cX2_drop 8 = .ok (.dup, 1) := by decide +kernel
theorem dX2_drop_9 : decode cX2_drop 9 = .ok (.getfield 18, 3) := by decide +kernel
theorem dX2_drop_12 : decode cX2_drop 12 = .ok (.iconst 1, 1) := by decide +kernel
theorem dX2_drop_13 : decode cX2_drop 13 = .ok (.isub, 1) := by decide +kernel
theorem dX2_drop_14 : decode cX2_drop 14 = .ok (.putfield 18, 3) := by decide +kernel
theorem dX2_drop_17 : decode cX2_drop 17 = .ok (.return_, 1) := by decide +kernel
theorem dX3_init_0 : decode cX3_init 0 = .ok (.aload_n 0, 1) := by decide +kernel
theorem dX3_init_1 : decode cX3_init 1 = .ok (.invokespecial 3, 3) := by decide +kernel
theorem dX3_init_4 : decode cX3_init 4 = .ok (.aload_n 0, 1) := by decide +kernel
theorem dX3_init_5 : decode cX3_init 5 = .ok (.bipush 8, 2) := by decide +kernel
theorem dX3_init_7 : decode cX3_init 7 = .ok (.anewarray 9, 3) := by decide +kernel
theorem dX3_init_10 : decode cX3_init 10 = .ok (.putfield 11, 3) := by decide +kernel
theorem dX3_init_13 : decode cX3_init 13 = .ok (.aload_n 0, 1) := by decide +kernel
theorem dX3_init_14 : decode cX3_init 14 = .ok (.new 9, 3) := by decide +kernel
theorem dX3_init_17 : decode cX3_init 17 = .ok (.dup, 1) := by decide +kernel
theorem dX3_init_18 : decode cX3_init 18 = .ok (.iconst 0, 1) := by decide +kernel
theorem dX3_init_19 : decode cX3_init 19 = .ok (.invokespecial 17, 3) := by decide +kernel
theorem dX3_init_22 : decode cX3_init 22 = .ok (.putfield 20, 3) := by decide +kernel
theorem dX3_init_25 : decode cX3_init 25 = .ok (.aload_n 0, 1) := by decide +kernel
theorem dX3_init_26 : decode cX3_init 26 = .ok (.iconst 5, 1) := by decide +kernel
theorem dX3_init_27 : decode cX3_init 27 = .ok (.putfield 24, 3) := by decide +kernel
theorem dX3_init_30 : decode cX3_init 30 = .ok (.aload_n 0, 1) := by decide +kernel
theorem dX3_init_31 : decode cX3_init 31 = .ok (.iconst (-1), 1) := by decide +kernel
theorem dX3_init_32 : decode cX3_init 32 = .ok (.putfield 28, 3) := by decide +kernel
theorem dX3_init_35 : decode cX3_init 35 = .ok (.iconst 0, 1) := by decide +kernel
theorem dX3_init_36 : decode cX3_init 36 = .ok (.istore_n 1, 1) := by decide +kernel
theorem dX3_init_37 : decode cX3_init 37 = .ok (.iload_n 1, 1) := by decide +kernel
theorem dX3_init_38 : decode cX3_init 38 = .ok (.bipush 8, 2) := by decide +kernel
theorem dX3_init_40 : decode cX3_init 40 = .ok (.if_icmp .ge 25, 3) := by decide +kernel
theorem dX3_init_43 : decode cX3_init 43 = .ok (.aload_n 0, 1) := by decide +kernel
theorem dX3_init_44 : decode cX3_init 44 = .ok (.getfield 11, 3) := by decide +kernel
theorem dX3_init_47 : decode cX3_init 47 = .ok (.iload_n 1, 1) := by decide +kernel
theorem dX3_init_48 : decode cX3_init 48 = .ok (.new 9, 3) := by decide +kernel
theorem dX3_init_51 : decode cX3_init 51 = .ok (.dup, 1) := by decide +kernel
theorem dX3_init_52 : decode cX3_init 52 = .ok (.sipush 200, 3) := by decide +kernel
theorem dX3_init_55 : decode cX3_init 55 = .ok (.invokespecial 17, 3) := by decide +kernel
theorem dX3_init_58 : decode cX3_init 58 = .ok (.aastore, 1) := by decide +kernel
theorem dX3_init_59 : decode cX3_init 59 = .ok (.iinc 1 1, 3) := by decide +kernel
theorem dX3_init_62 : decode cX3_init 62 = .ok (.goto (-25), 3) := by decide +kernel
theorem dX3_init_65 : decode cX3_init 65 = .ok (.return_, 1) := by decide +kernel
theorem dX3_copyFrom_0 : decode cX3_copyFrom 0 = .ok (.aload_n 0, 1) := by decide +kernel
theorem dX3_copyFrom_1 : decode cX3_copyFrom 1 = .ok (.aload_n 1, 1) := by decide +kernel
theorem dX3_copyFrom_2 : decode cX3_copyFrom 2 = .ok (.getfield 31, 3) := by decide +kernel
theorem dX3_copyFrom_5 : decode cX3_copyFrom 5 = .ok (.putfield 31, 3) := by decide +kernel
theorem dX3_copyFrom_8 : decode cX3_copyFrom 8 = .ok (.aload_n 0, 1) := by decide +kernel
theorem dX3_copyFrom_9 : decode cX3_copyFrom 9 = .ok (.aload_n 1, 1) := by decide +kernel
theorem dX3_copyFrom_10 : decode cX3_copyFrom 10 = .ok (.getfield 24, 3) := by decide +kernel
theorem dX3_copyFrom_13 : decode cX3_copyFrom 13 = .ok (.putfield 24, 3) := by decide +kernel
theorem dX3_copyFrom_16 : decode cX3_copyFrom 16 = .ok (.aload_n 0, 1) := by decide +kernel
theorem dX3_copyFrom_17 : decode cX3_copyFrom 17 = .ok (.aload_n 1, 1) := by decide +kernel
theorem dX3_copyFrom_18 : decode cX3_copyFrom 18 = .ok (.getfield 28, 3) := by decide +kernel
theorem dX3_copyFrom_21 : decode cX3_copyFrom 21 = .ok (.putfield 28, 3) := by decide +kernel
theorem dX3_copyFrom_24 : decode cX3_copyFrom 24 = .ok (.iconst 0, 1) := by decide +kernel
theorem dX3_copyFrom_25 : decode cX3_copyFrom 25 = .ok (.istore_n 2, 1) := by decide +kernel
theorem dX3_copyFrom_26 : decode cX3_copyFrom 26 = .ok (.iload_n 2, 1) := by decide +kernel
theorem dX3_copyFrom_27 : decode cX3_copyFrom 27 = .ok (.aload_n 0, 1) := by decide +kernel
theorem dX3_copyFrom_28 : decode cX3_copyFrom 28 = .ok (.getfield 31, 3) := by decide +kernel
theorem dX3_copyFrom_31 : decode cX3_copyFrom 31 = .ok (.if_icmp .ge 30, 3) := by decide +kernel
theorem dX3_copyFrom_34 : decode cX3_copyFrom 34 = .ok (.iload_n 2, 1) := by decide +kernel
theorem dX3_copyFrom_35 : decode cX3_copyFrom 35 = .ok (.bipush 8, 2) := by decide +kernel
theorem dX3_copyFrom_37 : decode cX3_copyFrom 37 = .ok (.if_icmp .ge 24, 3) := by decide +kernel
theorem dX3_copyFrom_40 : decode cX3_copyFrom 40 = .ok (.aload_n 0, 1) := by decide +kernel
theorem dX3_copyFrom_41 : decode cX3_copyFrom 41 = .ok (.getfield 11, 3) := by decide +kernel
theorem dX3_copyFrom_44 : decode cX3_copyFrom 44 = .ok (.iload_n 2, 1) := by decide +kernel
theorem dX3_copyFrom_45 : decode cX3_copyFrom 45 = .ok (.aaload, 1) := by decide +kernel
theorem dX3_copyFrom_46 : decode cX3_copyFrom 46 = .ok (.aload_n 1, 1) := by decide +kernel
theorem dX3_copyFrom_47 : decode cX3_copyFrom 47 = .ok (.getfield 11, 3) := by decide +kernel
theorem dX3_copyFrom_50 : decode cX3_copyFrom 50 = .ok (.iload_n 2, 1) := by decide +kernel
theorem dX3_copyFrom_51 : decode cX3_copyFrom 51 = .ok (.aaload, 1) := by decide +kernel
theorem dX3_copyFrom_52 : decode cX3_copyFrom 52 = .ok (.invokevirtual 34, 3) := by decide +kernel
theorem dX3_copyFrom_55 : decode cX3_copyFrom 55 = .ok (.iinc 2 1, 3) := by decide +kernel
theorem dX3_copyFrom_58 : decode cX3_copyFrom 58 = .ok (.goto (-32), 3) := by decide +kernel
theorem dX3_copyFrom_61 : decode cX3_copyFrom 61 = .ok (.return_, 1) := by decide +kernel
theorem dX3_hoard_0 : decode cX3_hoard 0 = .ok (.iload_n 1, 1) := by decide +kernel
theorem dX3_hoard_1 : decode cX3_hoard 1 = .ok (.ifCond .lt 26, 3) := by decide +kernel
theorem dX3_hoard_4 : decode cX3_hoard 4 = .ok (.iload_n 1, 1) := by decide +kernel
theorem dX3_hoard_5 : decode cX3_hoard 5 = .ok (.aload_n 0, 1) := by decide +kernel
theorem dX3_hoard_6 : decode cX3_hoard 6 = .ok (.getfield 31, 3) := by decide +kernel
theorem dX3_hoard_9 : decode cX3_hoard 9 = .ok (.if_icmp .ge 18, 3) := by decide +kernel
theorem dX3_hoard_12 : decode cX3_hoard 12 = .ok (.iload_n 1, 1) := by decide +kernel
theorem dX3_hoard_13 : decode cX3_hoard 13 = .ok (.bipush 8, 2) := by decide +kernel
theorem dX3_hoard_15 : decode cX3_hoard 15 = .ok (.if_icmp .ge 12, 3) := by decide +kernel
theorem dX3_hoard_18 : decode cX3_hoard 18 = .ok (.aload_n 0, 1) := by decide +kernel
theorem dX3_hoard_19 : decode cX3_hoard 19 = .ok (.getfield 11, 3) := by decide +kernel
theorem dX3_hoard_22 : decode cX3_hoard 22 = .ok (.iload_n 1, 1) := by decide +kernel
theorem dX3_hoard_23 : decode cX3_hoard 23 = .ok (.aaload, 1) := by decide +kernel
theorem dX3_hoard_24 : decode cX3_hoard 24 = .ok (.goto 7, 3) := by decide +kernel
theorem dX3_hoard_27 : decode cX3_hoard 27 = .ok (.aload_n 0, 1) := by decide +kernel
theorem dX3_hoard_28 : decode cX3_hoard 28 = .ok (.getfield 20, 3) := by decide +kernel
theorem dX3_hoard_31 : decode cX3_hoard 31 = .ok (.areturn, 1) := by decide +kernel
theorem dX3_countAt_0 : decode cX3_countAt 0 = .ok (.iload_n 1, 1) := by decide +kernel
theorem dX3_countAt_1 : decode cX3_countAt 1 = .ok (.ifCond .lt 22, 3) := by decide +kernel
theorem dX3_countAt_4 : decode cX3_countAt 4 = .ok (.iload_n 1, 1) := by decide +kernel
theorem dX3_countAt_5 : decode cX3_countAt 5 = .ok (.aload_n 0, 1) := by decide +kernel
theorem dX3_countAt_6 : decode cX3_countAt 6 = .ok (.getfield 31, 3) := by decide +kernel
theorem dX3_countAt_9 : decode cX3_countAt 9 = .ok (.if_icmp .ge 14, 3) := by decide +kernel
theorem dX3_countAt_12 : decode cX3_countAt 12 = .ok (.aload_n 0, 1) := by decide +kernel
theorem dX3_countAt_13 : decode cX3_countAt 13 = .ok (.iload_n 1, 1) := by decide +kernel
theorem dX3_countAt_14 : decode cX3_countAt 14 = .ok (.invokevirtual 38, 3) := by decide +kernel
theorem dX3_countAt_17 : decode cX3_countAt 17 = .ok (.invokevirtual 42, 3) := by decide +kernel
theorem dX3_countAt_20 : decode cX3_countAt 20 = .ok (.goto 4, 3) := by decide +kernel
theorem dX3_countAt_23 : decode cX3_countAt 23 = .ok (.iconst (-1), 1) := by decide +kernel
theorem dX3_countAt_24 : decode cX3_countAt 24 = .ok (.ireturn, 1) := by decide +kernel
theorem dX3_add_0 : decode cX3_add 0 = .ok (.aload_n 0, 1) := by decide +kernel
theorem dX3_add_1 : decode cX3_add 1 = .ok (.getfield 31, 3) := by decide +kernel
theorem dX3_add_4 : decode cX3_add 4 = .ok (.aload_n 0, 1) := by decide +kernel
theorem dX3_add_5 : decode cX3_add 5 = .ok (.getfield 24, 3) := by decide +kernel
theorem dX3_add_8 : decode cX3_add 8 = .ok (.if_icmp .lt 7, 3) := by decide +kernel
theorem dX3_add_11 : decode cX3_add 11 = .ok (.iconst 1, 1) := by decide +kernel
theorem dX3_add_12 : decode cX3_add 12 = .ok (.goto 4, 3) := by decide +kernel
theorem dX3_add_15 : decode cX3_add 15 = .ok (.iconst 0, 1) := by decide +kernel
theorem dX3_add_16 : decode cX3_add 16 = .ok (.istore 4, 2) := by decide +kernel
theorem dX3_add_18 : decode cX3_add 18 = .ok (.aload_n 0, 1) := by decide +kernel
theorem dX3_add_19 : decode cX3_add 19 = .ok (.aload_n 0, 1) := by decide +kernel
theorem dX3_add_20 : decode cX3_add 20 = .ok (.getfield 31, 3) := by decide +kernel
theorem dX3_add_23 : decode cX3_add 23 = .ok (.iconst 1, 1) := by decide +kernel
theorem dX3_add_24 : decode cX3_add 24 = .ok (.iadd, 1) := by decide +kernel
theorem dX3_add_25 : decode cX3_add 25 = .ok (.iload 4, 2) := by decide +kernel
theorem dX3_add_27 : decode cX3_add 27 = .ok (.isub, 1) := by decide +kernel
theorem dX3_add_28 : decode cX3_add 28 = .ok (.putfield 31, 3) := by decide +kernel
theorem dX3_add_31 : decode cX3_add 31 = .ok (.iconst 0, 1) := by decide +kernel
theorem dX3_add_32 : decode cX3_add 32 = .ok (.aload_n 0, 1) := by decide +kernel
theorem dX3_add_33 : decode cX3_add 33 = .ok (.getfield 31, 3) := by decide +kernel
theorem dX3_add_36 : decode cX3_add 36 = .ok (.bipush 8, 2) := by decide +kernel
theorem dX3_add_38 : decode cX3_add 38 = .ok (.invokestatic 45, 3) := by decide +kernel
theorem dX3_add_41 : decode cX3_add 41 = .ok (.iconst 1, 1) := by decide +kernel
theorem dX3_add_42 : decode cX3_add 42 = .ok (.isub, 1) := by decide +kernel
theorem dX3_add_43 : decode cX3_add 43 = .ok (.invokestatic 51, 3) := by decide +kernel
theorem dX3_add_46 : decode cX3_add 46 = .ok (.istore 5, 2) := by decide +kernel
theorem dX3_add_48 : decode cX3_add 48 = .ok (.aload_n 0, 1) := by decide +kernel
theorem dX3_add_49 : decode cX3_add 49 = .ok (.getfield 11, 3) := by decide +kernel
theorem dX3_add_52 : decode cX3_add 52 = .ok (.iload 5, 2) := by decide +kernel
theorem dX3_add_54 : decode cX3_add 54 = .ok (.aaload, 1) := by decide +kernel
theorem dX3_add_55 : decode cX3_add 55 = .ok (.astore 6, 2) := by decide +kernel
theorem dX3_add_57 : decode cX3_add 57 = .ok (.iload 5, 2) := by decide +kernel
theorem dX3_add_59 : decode cX3_add 59 = .ok (.istore 7, 2) := by decide +kernel
theorem dX3_add_61 : decode cX3_add 61 = .ok (.iload 7, 2) := by decide +kernel
theorem dX3_add_63 : decode cX3_add 63 = .ok (.ifCond .le 25, 3) := by decide +kernel
theorem dX3_add_66 : decode cX3_add 66 = .ok (.aload_n 0, 1) := by decide +kernel
theorem dX3_add_67 : decode cX3_add 67 = .ok (.getfield 11, 3) := by decide +kernel
theorem dX3_add_70 : decode cX3_add 70 = .ok (.iload 7, 2) := by decide +kernel
theorem dX3_add_72 : decode cX3_add 72 = .ok (.aload_n 0, 1) := by decide +kernel
theorem dX3_add_73 : decode cX3_add 73 = .ok (.getfield 11, 3) := by decide +kernel
theorem dX3_add_76 : decode cX3_add 76 = .ok (.iload 7, 2) := by decide +kernel
theorem dX3_add_78 : decode cX3_add 78 = .ok (.iconst 1, 1) := by decide +kernel
theorem dX3_add_79 : decode cX3_add 79 = .ok (.isub, 1) := by decide +kernel
theorem dX3_add_80 : decode cX3_add 80 = .ok (.aaload, 1) := by decide +kernel
theorem dX3_add_81 : decode cX3_add 81 = .ok (.aastore, 1) := by decide +kernel
theorem dX3_add_82 : decode cX3_add 82 = .ok (.iinc 7 (-1), 3) := by decide +kernel
theorem dX3_add_85 : decode cX3_add 85 = .ok (.goto (-24), 3) := by decide +kernel
theorem dX3_add_88 : decode cX3_add 88 = .ok (.aload_n 0, 1) := by decide +kernel
theorem dX3_add_89 : decode cX3_add 89 = .ok (.getfield 11, 3) := by decide +kernel
theorem dX3_add_92 : decode cX3_add 92 = .ok (.iconst 0, 1) := by decide +kernel
theorem dX3_add_93 : decode cX3_add 93 = .ok (.aload 6, 2) := by decide +kernel
theorem dX3_add_95 : decode cX3_add 95 = .ok (.aastore, 1) := by decide +kernel
theorem dX3_add_96 : decode cX3_add 96 = .ok (.aload 6, 2) := by decide +kernel
theorem dX3_add_98 : decode cX3_add 98 = .ok (.invokevirtual 54, 3) := by decide +kernel
theorem dX3_add_101 : decode cX3_add 101 = .ok (.aload 6, 2) := by decide +kernel
theorem dX3_add_103 : decode cX3_add 103 = .ok (.iconst 0, 1) := by decide +kernel
theorem dX3_add_104 : decode cX3_add 104 = .ok (.aload_n 1, 1) := by decide +kernel
theorem dX3_add_105 : decode cX3_add 105 = .ok (.iload_n 2, 1) := by decide +kernel
theorem dX3_add_106 : decode cX3_add 106 = .ok (.iload_n 3, 1) := by decide +kernel
theorem dX3_add_107 : decode cX3_add 107 = .ok (.invokevirtual 57, 3) := by decide +kernel
theorem dX3_add_110 : decode cX3_add 110 = .ok (.aload_n 0, 1) := by decide +kernel
theorem dX3_add_111 : decode cX3_add 111 = .ok (.iconst 0, 1) := by decide +kernel
theorem dX3_add_112 : decode cX3_add 112 = .ok (.putfield 28, 3) := by decide +kernel
theorem dX3_add_115 : decode cX3_add 115 = .ok (.iload 4, 2) := by decide +kernel
theorem dX3_add_117 : decode cX3_add 117 = .ok (.ireturn, 1) := by decide +kernel
theorem dX3_grow_0 : decode cX3_grow 0 = .ok (.aload_n 0, 1) := by decide +kernel
theorem dX3_grow_1 : decode cX3_grow 1 = .ok (.iconst 0, 1) := by decide +kernel
theorem dX3_grow_2 : decode cX3_grow 2 = .ok (.invokevirtual 38, 3) := by decide +kernel
theorem dX3_grow_5 : decode cX3_grow 5 = .ok (.astore 5, 2) := by decide +kernel
theorem dX3_grow_7 : decode cX3_grow 7 = .ok (.aload 5, 2) := by decide +kernel
theorem dX3_grow_9 : decode cX3_grow 9 = .ok (.iload 4, 2) := by decide +kernel
theorem dX3_grow_11 : decode cX3_grow 11 = .ok (.ifCond .eq 7, 3) := by decide +kernel
theorem dX3_grow_14 : decode cX3_grow 14 = .ok (.iconst 0, 1) := by decide +kernel
theorem dX3_grow_15 : decode cX3_grow 15 = .ok (.goto 8, 3) := by decide +kernel
theorem dX3_grow_18 : decode cX3_grow 18 = .ok (.aload 5, 2) := by decide +kernel
theorem dX3_grow_20 : decode cX3_grow 20 = .ok (.invokevirtual 42, 3) := by decide +kernel
theorem dX3_grow_23 : decode cX3_grow 23 = .ok (.aload_n 1, 1) := by decide +kernel
theorem dX3_grow_24 : decode cX3_grow 24 = .ok (.iload_n 2, 1) := by decide +kernel
theorem dX3_grow_25 : decode cX3_grow 25 = .ok (.iload_n 3, 1) := by decide +kernel
theorem dX3_grow_26 : decode cX3_grow 26 = .ok (.invokevirtual 57, 3) := by decide +kernel
theorem dX3_grow_29 : decode cX3_grow 29 = .ok (.aload_n 0, 1) := by decide +kernel
theorem dX3_grow_30 : decode cX3_grow 30 = .ok (.iconst 0, 1) := by decide +kernel
theorem dX3_grow_31 : decode cX3_grow 31 = .ok (.putfield 28, 3) := by decide +kernel
theorem dX3_grow_34 : decode cX3_grow 34 = .ok (.return_, 1) := by decide +kernel
theorem dX3_nextIfTurned_0 : decode cX3_nextIfTurned 0 = .ok (.aload_n 0, 1) := by decide +kernel
theorem dX3_nextIfTurned_1 : decode cX3_nextIfTurned 1 = .ok (.getfield 31, 3) := by decide +kernel
theorem dX3_nextIfTurned_4 : decode cX3_nextIfTurned 4 = .ok (.ifCond .le 19, 3) := by decide +kernel
theorem dX3_nextIfTurned_7 : decode cX3_nextIfTurned 7 = .ok (.aload_n 0, 1) := by decide +kernel
theorem dX3_nextIfTurned_8 : decode cX3_nextIfTurned 8 = .ok (.getfield 28, 3) := by decide +kernel
theorem dX3_nextIfTurned_11 : decode cX3_nextIfTurned 11 = .ok (.iload_n 1, 1) := by decide +kernel
theorem dX3_nextIfTurned_12 : decode cX3_nextIfTurned 12 = .ok (.iadd, 1) := by decide +kernel
theorem dX3_nextIfTurned_13 : decode cX3_nextIfTurned 13 = .ok (.aload_n 0, 1) := by decide +kernel
theorem dX3_nextIfTurned_14 : decode cX3_nextIfTurned 14 = .ok (.getfield 31, 3) := by decide +kernel
theorem dX3_nextIfTurned_17 : decode cX3_nextIfTurned 17 = .ok (.invokestatic 61, 3) := by decide +kernel
theorem dX3_nextIfTurned_20 : decode cX3_nextIfTurned 20 = .ok (.goto 4, 3) := by decide +kernel
theorem dX3_nextIfTurned_23 : decode cX3_nextIfTurned 23 = .ok (.iconst (-1), 1) := by decide +kernel
theorem dX3_nextIfTurned_24 : decode cX3_nextIfTurned 24 = .ok (.ireturn, 1) := by decide +kernel
theorem dX3_changeTo_0 : decode cX3_changeTo 0 = .ok (.iconst 0, 1) := by decide +kernel
theorem dX3_changeTo_1 : decode cX3_changeTo 1 = .ok (.aload_n 0, 1) := by decide +kernel
theorem dX3_changeTo_2 : decode cX3_changeTo 2 = .ok (.getfield 31, 3) := by decide +kernel
theorem dX3_changeTo_5 : decode cX3_changeTo 5 = .ok (.iload_n 1, 1) := by decide +kernel
theorem dX3_changeTo_6 : decode cX3_changeTo 6 = .ok (.isub, 1) := by decide +kernel
theorem dX3_changeTo_7 : decode cX3_changeTo 7 = .ok (.invokestatic 51, 3) := by decide +kernel
theorem dX3_changeTo_10 : decode cX3_changeTo 10 = .ok (.istore_n 2, 1) := by decide +kernel
theorem dX3_changeTo_11 : decode cX3_changeTo 11 = .ok (.aload_n 0, 1) := by decide +kernel
theorem dX3_changeTo_12 : decode cX3_changeTo 12 = .ok (.iload_n 1, 1) := by decide +kernel
theorem dX3_changeTo_13 : decode cX3_changeTo 13 = .ok (.putfield 24, 3) := by decide +kernel
theorem dX3_changeTo_16 : decode cX3_changeTo 16 = .ok (.aload_n 0, 1) := by decide +kernel
theorem dX3_changeTo_17 : decode cX3_changeTo 17 = .ok (.dup, 1) := by decide +kernel
theorem dX3_changeTo_18 : decode cX3_changeTo 18 = .ok (.getfield 31, 3) := by decide +kernel
theorem dX3_changeTo_21 : decode cX3_changeTo 21 = .ok (.iload_n 2, 1) := by decide +kernel
theorem dX3_changeTo_22 : decode cX3_changeTo 22 = .ok (.isub, 1) := by decide +kernel
theorem dX3_changeTo_23 : decode cX3_changeTo 23 = .ok (.putfield 31, 3) := by decide +kernel
theorem dX3_changeTo_26 : decode cX3_changeTo 26 = .ok (.aload_n 0, 1) := by decide +kernel
theorem dX3_changeTo_27 : decode cX3_changeTo 27 = .ok (.getfield 28, 3) := by decide +kernel
theorem dX3_changeTo_30 : decode cX3_changeTo 30 = .ok (.aload_n 0, 1) := by decide +kernel
theorem dX3_changeTo_31 : decode cX3_changeTo 31 = .ok (.getfield 31, 3) := by decide +kernel
theorem dX3_changeTo_34 : decode cX3_changeTo 34 = .ok (.if_icmp .lt 8, 3) := by decide +kernel
theorem dX3_changeTo_37 : decode cX3_changeTo 37 = .ok (.aload_n 0, 1) := by decide +kernel
theorem dX3_changeTo_38 : decode cX3_changeTo 38 = .ok (.iconst 0, 1) := by decide +kernel
theorem dX3_changeTo_39 : decode cX3_changeTo 39 = .ok (.putfield 28, 3) := by decide +kernel
theorem dX3_changeTo_42 : decode cX3_changeTo 42 = .ok (.iload_n 2, 1) := by decide +kernel
theorem dX3_changeTo_43 : decode cX3_changeTo 43 = .ok (.ireturn, 1) := by decide +kernel
theorem dX3_allCodes_0 : decode cX3_allCodes 0 = .ok (.iconst 0, 1) := by decide +kernel
theorem dX3_allCodes_1 : decode cX3_allCodes 1 = .ok (.istore_n 1, 1) := by decide +kernel
theorem dX3_allCodes_2 : decode cX3_allCodes 2 = .ok (.iconst 0, 1) := by decide +kernel
theorem dX3_allCodes_3 : decode cX3_allCodes 3 = .ok (.istore_n 2, 1) := by decide +kernel
theorem dX3_allCodes_4 : decode cX3_allCodes 4 = .ok (.iload_n 2, 1) := by decide +kernel
theorem dX3_allCodes_5 : decode cX3_allCodes 5 = .ok (.aload_n 0, 1) := by decide +kernel
theorem dX3_allCodes_6 : decode cX3_allCodes 6 = .ok (.getfield 31, 3) := by decide +kernel
theorem dX3_allCodes_9 : decode cX3_allCodes 9 = .ok (.if_icmp .ge 20, 3) := by decide +kernel
theorem dX3_allCodes_12 : decode cX3_allCodes 12 = .ok (.iload_n 1, 1) := by decide +kernel
theorem dX3_allCodes_13 : decode cX3_allCodes 13 = .ok (.aload_n 0, 1) := by decide +kernel
theorem dX3_allCodes_14 : decode cX3_allCodes 14 = .ok (.iload_n 2, 1) := by decide +kernel
theorem dX3_allCodes_15 : decode cX3_allCodes 15 = .ok (.invokevirtual 38, 3) := by decide +kernel
theorem dX3_allCodes_18 : decode cX3_allCodes 18 = .ok (.invokevirtual 42, 3) := by decide +kernel
theorem dX3_allCodes_21 : decode cX3_allCodes 21 = .ok (.iadd, 1) := by decide +kernel
theorem dX3_allCodes_22 : decode cX3_allCodes 22 = .ok (.istore_n 1, 1) := by decide +kernel
theorem dX3_allCodes_23 : decode cX3_allCodes 23 = .ok (.iinc 2 1, 3) := by decide +kernel
theorem dX3_allCodes_26 : decode cX3_allCodes 26 = .ok (.goto (-22), 3) := by decide +kernel
theorem dX3_allCodes_29 : decode cX3_allCodes 29 = .ok (.iload_n 1, 1) := by decide +kernel
theorem dX3_allCodes_30 : decode cX3_allCodes 30 = .ok (.ireturn, 1) := by decide +kernel
theorem dX3_longestAt_0 : decode cX3_longestAt 0 = .ok (.iconst (-1), 1) := by decide +kernel
theorem dX3_longestAt_1 : decode cX3_longestAt 1 = .ok (.istore_n 1, 1) := by decide +kernel
theorem dX3_longestAt_2 : decode cX3_longestAt 2 = .ok (.iconst 0, 1) := by decide +kernel
theorem dX3_longestAt_3 : decode cX3_longestAt 3 = .ok (.istore_n 2, 1) := by decide +kernel
theorem dX3_longestAt_4 : decode cX3_longestAt 4 = .ok (.iload_n 2, 1) := by decide +kernel
theorem dX3_longestAt_5 : decode cX3_longestAt 5 = .ok (.aload_n 0, 1) := by decide +kernel
theorem dX3_longestAt_6 : decode cX3_longestAt 6 = .ok (.getfield 31, 3) := by decide +kernel
theorem dX3_longestAt_9 : decode cX3_longestAt 9 = .ok (.if_icmp .ge 35, 3) := by decide +kernel
theorem dX3_longestAt_12 : decode cX3_longestAt 12 = .ok (.iload_n 1, 1) := by decide +kernel
theorem dX3_longestAt_13 : decode cX3_longestAt 13 = .ok (.iconst (-1), 1) := by decide +kernel
theorem dX3_longestAt_14 : decode cX3_longestAt 14 = .ok (.if_icmp .eq 22, 3) := by decide +kernel
theorem dX3_longestAt_17 : decode cX3_longestAt 17 = .ok (.aload_n 0, 1) := by decide +kernel
theorem dX3_longestAt_18 : decode cX3_longestAt 18 = .ok (.iload_n 2, 1) := by decide +kernel
theorem dX3_longestAt_19 : decode cX3_longestAt 19 = .ok (.invokevirtual 38, 3) := by decide +kernel
theorem dX3_longestAt_22 : decode cX3_longestAt 22 = .ok (.invokevirtual 42, 3) := by decide +kernel
theorem dX3_longestAt_25 : decode cX3_longestAt 25 = .ok (.aload_n 0, 1) := by decide +kernel
theorem dX3_longestAt_26 : decode cX3_longestAt 26 = .ok (.iload_n 1, 1) := by decide +kernel
theorem dX3_longestAt_27 : decode cX3_longestAt 27 = .ok (.invokevirtual 38, 3) := by decide +kernel
theorem dX3_longestAt_30 : decode cX3_longestAt 30 = .ok (.invokevirtual 42, 3) := by decide +kernel
theorem dX3_longestAt_33 : decode cX3_longestAt 33 = .ok (.if_icmp .le 5, 3) := by decide +kernel
theorem dX3_longestAt_36 : decode cX3_longestAt 36 = .ok (.iload_n 2, 1) := by decide +kernel
theorem dX3_longestAt_37 : decode cX3_longestAt 37 = .ok (.istore_n 1, 1) := by decide +kernel
theorem dX3_longestAt_38 : decode cX3_longestAt 38 = .ok (.iinc 2 1, 3) := by decide +kernel
theorem dX3_longestAt_41 : decode cX3_longestAt 41 = .ok (.goto (-37), 3) := by decide +kernel
theorem dX3_longestAt_44 : decode cX3_longestAt 44 = .ok (.iload_n 1, 1) := by decide +kernel
theorem dX3_longestAt_45 : decode cX3_longestAt 45 = .ok (.ireturn, 1) := by decide +kernel
theorem dX4_init_0 : decode cX4_init 0 = .ok (.aload_n 0, 1) := by decide +kernel
theorem dX4_init_1 : decode cX4_init 1 = .ok (.invokespecial 3, 3) := by decide +kernel
theorem dX4_init_4 : decode cX4_init 4 = .ok (.aload_n 0, 1) := by decide +kernel
theorem dX4_init_5 : decode cX4_init 5 = .ok (.new 9, 3) := by decide +kernel
theorem dX4_init_8 : decode cX4_init 8 = .ok (.dup, 1) := by decide +kernel
theorem dX4_init_9 : decode cX4_init 9 = .ok (.sipush 200, 3) := by decide +kernel
theorem dX4_init_12 : decode cX4_init 12 = .ok (.invokespecial 11, 3) := by decide +kernel
theorem dX4_init_15 : decode cX4_init 15 = .ok (.putfield 14, 3) := by decide +kernel
theorem dX4_init_18 : decode cX4_init 18 = .ok (.aload_n 0, 1) := by decide +kernel
theorem dX4_init_19 : decode cX4_init 19 = .ok (.iconst (-1), 1) := by decide +kernel
theorem dX4_init_20 : decode cX4_init 20 = .ok (.putfield 20, 3) := by decide +kernel
theorem dX4_init_23 : decode cX4_init 23 = .ok (.return_, 1) := by decide +kernel
theorem dX4_copyFrom_0 : decode cX4_copyFrom 0 = .ok (.aload_n 0, 1) := by decide +kernel
theorem dX4_copyFrom_1 : decode cX4_copyFrom 1 = .ok (.getfield 14, 3) := by decide +kernel
theorem dX4_copyFrom_4 : decode cX4_copyFrom 4 = .ok (.aload_n 1, 1) := by decide +kernel
theorem dX4_copyFrom_5 : decode cX4_copyFrom 5 = .ok (.getfield 14, 3) := by decide +kernel
theorem dX4_copyFrom_8 : decode cX4_copyFrom 8 = .ok (.invokevirtual 24, 3) := by decide +kernel
theorem dX4_copyFrom_11 : decode cX4_copyFrom 11 = .ok (.aload_n 0, 1) := by decide +kernel
theorem dX4_copyFrom_12 : decode cX4_copyFrom 12 = .ok (.aload_n 1, 1) := by decide +kernel
theorem dX4_copyFrom_13 : decode cX4_copyFrom 13 = .ok (.getfield 28, 3) := by decide +kernel
theorem dX4_copyFrom_16 : decode cX4_copyFrom 16 = .ok (.putfield 28, 3) := by decide +kernel
theorem dX4_copyFrom_19 : decode cX4_copyFrom 19 = .ok (.aload_n 0, 1) := by decide +kernel
theorem dX4_copyFrom_20 : decode cX4_copyFrom 20 = .ok (.aload_n 1, 1) := by decide +kernel
theorem dX4_copyFrom_21 : decode cX4_copyFrom 21 = .ok (.getfield 20, 3) := by decide +kernel
theorem dX4_copyFrom_24 : decode cX4_copyFrom 24 = .ok (.putfield 20, 3) := by decide +kernel
theorem dX4_copyFrom_27 : decode cX4_copyFrom 27 = .ok (.return_, 1) := by decide +kernel
theorem dX4_writeCode_0 : decode cX4_writeCode 0 = .ok (.aload_n 0, 1) := by decide +kernel
theorem dX4_writeCode_1 : decode cX4_writeCode 1 = .ok (.getfield 14, 3) := by decide +kernel
theorem dX4_writeCode_4 : decode cX4_writeCode 4 = .ok (.aload_n 0, 1) := by decide +kernel
theorem dX4_writeCode_5 : decode cX4_writeCode 5 = .ok (.getfield 28, 3) := by decide +kernel
theorem dX4_writeCode_8 : decode cX4_writeCode 8 = .ok (.iload_n 1, 1) := by decide +kernel
theorem dX4_writeCode_9 : decode cX4_writeCode 9 = .ok (.invokevirtual 31, 3) := by decide +kernel
theorem dX4_writeCode_12 : decode cX4_writeCode 12 = .ok (.aload_n 0, 1) := by decide +kernel
theorem dX4_writeCode_13 : decode cX4_writeCode 13 = .ok (.iconst 1, 1) := by decide +kernel
theorem dX4_writeCode_14 : decode cX4_writeCode 14 = .ok (.invokevirtual 35, 3) := by decide +kernel
theorem dX4_writeCode_17 : decode cX4_writeCode 17 = .ok (.return_, 1) := by decide +kernel
theorem dX4_writeText_0 : decode cX4_writeText 0 = .ok (.aload_n 0, 1) := by decide +kernel
theorem dX4_writeText_1 : decode cX4_writeText 1 = .ok (.getfield 14, 3) := by decide +kernel
theorem dX4_writeText_4 : decode cX4_writeText 4 = .ok (.aload_n 0, 1) := by decide +kernel
theorem dX4_writeText_5 : decode cX4_writeText 5 = .ok (.getfield 28, 3) := by decide +kernel
theorem dX4_writeText_8 : decode cX4_writeText 8 = .ok (.aload_n 1, 1) := by decide +kernel
theorem dX4_writeText_9 : decode cX4_writeText 9 = .ok (.iconst 0, 1) := by decide +kernel
theorem dX4_writeText_10 : decode cX4_writeText 10 = .ok (.aload_n 1, 1) := by decide +kernel
theorem dX4_writeText_11 : decode cX4_writeText 11 = .ok (.invokevirtual 38, 3) := by decide +kernel
theorem dX4_writeText_14 : decode cX4_writeText 14 = .ok (.invokevirtual 42, 3) := by decide +kernel
theorem dX4_writeText_17 : decode cX4_writeText 17 = .ok (.aload_n 0, 1) := by decide +kernel
theorem dX4_writeText_18 : decode cX4_writeText 18 = .ok (.aload_n 1, 1) := by decide +kernel
theorem dX4_writeText_19 : decode cX4_writeText 19 = .ok (.invokevirtual 38, 3) := by decide +kernel
theorem dX4_writeText_22 : decode cX4_writeText 22 = .ok (.invokevirtual 35, 3) := by decide +kernel
theorem dX4_writeText_25 : decode cX4_writeText 25 = .ok (.return_, 1) := by decide +kernel
theorem dX4_makeWay_0 : decode cX4_makeWay 0 = .ok (.aload_n 0, 1) := by decide +kernel
theorem dX4_makeWay_1 : decode cX4_makeWay 1 = .ok (.getfield 20, 3) := by decide +kernel
theorem dX4_makeWay_4 : decode cX4_makeWay 4 = .ok (.aload_n 0, 1) := by decide +kernel
theorem dX4_makeWay_5 : decode cX4_makeWay 5 = .ok (.getfield 28, 3) := by decide +kernel
theorem dX4_makeWay_8 : decode cX4_makeWay 8 = .ok (.if_icmp .le 13, 3) := by decide +kernel
theorem dX4_makeWay_11 : decode cX4_makeWay 11 = .ok (.aload_n 0, 1) := by decide +kernel
theorem dX4_makeWay_12 : decode cX4_makeWay 12 = .ok (.dup, 1) := by decide +kernel
theorem dX4_makeWay_13 : decode cX4_makeWay 13 = .ok (.getfield 20, 3) := by decide +kernel
theorem dX4_makeWay_16 : decode cX4_makeWay 16 = .ok (.iload_n 1, 1) := by decide +kernel
theorem dX4_makeWay_17 : decode cX4_makeWay 17 = .ok (.iadd, 1) := by decide +kernel
theorem dX4_makeWay_18 : decode cX4_makeWay 18 = .ok (.putfield 20, 3) := by decide +kernel
theorem dX4_makeWay_21 : decode cX4_makeWay 21 = .ok (.aload_n 0, 1) := by decide +kernel
theorem dX4_makeWay_22 : decode cX4_makeWay 22 = .ok (.dup, 1) := by decide +kernel
theorem dX4_makeWay_23 : decode cX4_makeWay 23 = .ok (.getfield 28, 3) := by decide +kernel
theorem dX4_makeWay_26 : decode cX4_makeWay 26 = .ok (.iload_n 1, 1) := by decide +kernel
theorem dX4_makeWay_27 : decode cX4_makeWay 27 = .ok (.iadd, 1) := by decide +kernel
theorem dX4_makeWay_28 : decode cX4_makeWay 28 = .ok (.putfield 28, 3) := by decide +kernel
theorem dX4_makeWay_31 : decode cX4_makeWay 31 = .ok (.return_, 1) := by decide +kernel
theorem dX4_takeOut_0 : decode cX4_takeOut 0 = .ok (.aload_n 0, 1) := by decide +kernel
theorem dX4_takeOut_1 : decode cX4_takeOut 1 = .ok (.getfield 14, 3) := by decide +kernel
theorem dX4_takeOut_4 : decode cX4_takeOut 4 = .ok (.iload_n 1, 1) := by decide +kernel
theorem dX4_takeOut_5 : decode cX4_takeOut 5 = .ok (.iload_n 2, 1) := by decide +kernel
theorem dX4_takeOut_6 : decode cX4_takeOut 6 = .ok (.invokevirtual 46, 3) := by decide +kernel
theorem dX4_takeOut_9 : decode cX4_takeOut 9 = .ok (.aload_n 0, 1) := by decide +kernel
theorem dX4_takeOut_10 : decode cX4_takeOut 10 = .ok (.aload_n 0, 1) := by decide +kernel
theorem dX4_takeOut_11 : decode cX4_takeOut 11 = .ok (.getfield 28, 3) := by decide +kernel
theorem dX4_takeOut_14 : decode cX4_takeOut 14 = .ok (.iload_n 1, 1) := by decide +kernel
theorem dX4_takeOut_15 : decode cX4_takeOut 15 = .ok (.iload_n 2, 1) := by decide +kernel
theorem dX4_takeOut_16 : decode cX4_takeOut 16 = .ok (.invokestatic 49, 3) := by decide +kernel
theorem dX4_takeOut_19 : decode cX4_takeOut 19 = .ok (.putfield 28, 3) := by decide +kernel
theorem dX4_takeOut_22 : decode cX4_takeOut 22 = .ok (.aload_n 0, 1) := by decide +kernel
theorem dX4_takeOut_23 : decode cX4_takeOut 23 = .ok (.aload_n 0, 1) := by decide +kernel
theorem dX4_takeOut_24 : decode cX4_takeOut 24 = .ok (.getfield 20, 3) := by decide +kernel
theorem dX4_takeOut_27 : decode cX4_takeOut 27 = .ok (.iload_n 1, 1) := by decide +kernel
theorem dX4_takeOut_28 : decode cX4_takeOut 28 = .ok (.iload_n 2, 1) := by decide +kernel
theorem dX4_takeOut_29 : decode cX4_takeOut 29 = .ok (.invokestatic 49, 3) := by decide +kernel
theorem dX4_takeOut_32 : decode cX4_takeOut 32 = .ok (.putfield 20, 3) := by decide +kernel
theorem dX4_takeOut_35 : decode cX4_takeOut 35 = .ok (.return_, 1) := by decide +kernel
theorem dX4_placeThen_0 : decode cX4_placeThen 0 = .ok (.iload_n 0, 1) := by decide +kernel
theorem dX4_placeThen_1 : decode cX4_placeThen 1 = .ok (.iload_n 2, 1) := by decide +kernel
theorem dX4_placeThen_2 : decode cX4_placeThen 2 = .ok (.if_icmp .lt 9, 3) := by decide +kernel
theorem dX4_placeThen_5 : decode cX4_placeThen 5 = .ok (.iload_n 0, 1) := by decide +kernel
theorem dX4_placeThen_6 : decode cX4_placeThen 6 = .ok (.iload_n 2, 1) := by decide +kernel
theorem dX4_placeThen_7 : decode cX4_placeThen 7 = .ok (.iload_n 1, 1) := by decide +kernel
theorem dX4_placeThen_8 : decode cX4_placeThen 8 = .ok (.isub, 1) := by decide +kernel
theorem dX4_placeThen_9 : decode cX4_placeThen 9 = .ok (.isub, 1) := by decide +kernel
theorem dX4_placeThen_10 : decode cX4_placeThen 10 = .ok (.ireturn, 1) := by decide +kernel
theorem dX4_placeThen_11 : decode cX4_placeThen 11 = .ok (.iload_n 0, 1) := by decide +kernel
theorem dX4_placeThen_12 : decode cX4_placeThen 12 = .ok (.iload_n 1, 1) := by decide +kernel
theorem dX4_placeThen_13 : decode cX4_placeThen 13 = .ok (.if_icmp .le 7, 3) := by decide +kernel
theorem dX4_placeThen_16 : decode cX4_placeThen 16 = .ok (.iload_n 1, 1) := by decide +kernel
theorem dX4_placeThen_17 : decode cX4_placeThen 17 = .ok (.goto 4, 3) := by decide +kernel
theorem dX4_placeThen_20 : decode cX4_placeThen 20 = .ok (.iload_n 0, 1) := by decide +kernel
theorem dX4_placeThen_21 : decode cX4_placeThen 21 = .ok (.ireturn, 1) := by decide +kernel
theorem dX4_fromMark_0 : decode cX4_fromMark 0 = .ok (.aload_n 0, 1) := by decide +kernel
theorem dX4_fromMark_1 : decode cX4_fromMark 1 = .ok (.getfield 20, 3) := by decide +kernel
theorem dX4_fromMark_4 : decode cX4_fromMark 4 = .ok (.iconst (-1), 1) := by decide +kernel
theorem dX4_fromMark_5 : decode cX4_fromMark 5 = .ok (.if_icmp .ne 7, 3) := by decide +kernel
theorem dX4_fromMark_8 : decode cX4_fromMark 8 = .ok (.iconst (-1), 1) := by decide +kernel
theorem dX4_fromMark_9 : decode cX4_fromMark 9 = .ok (.goto 15, 3) := by decide +kernel
theorem dX4_fromMark_12 : decode cX4_fromMark 12 = .ok (.aload_n 0, 1) := by decide +kernel
theorem dX4_fromMark_13 : decode cX4_fromMark 13 = .ok (.getfield 20, 3) := by decide +kernel
theorem dX4_fromMark_16 : decode cX4_fromMark 16 = .ok (.aload_n 0, 1) := by decide +kernel
theorem dX4_fromMark_17 : decode cX4_fromMark 17 = .ok (.getfield 28, 3) := by decide +kernel
theorem dX4_fromMark_20 : decode cX4_fromMark 20 = .ok (.isub, 1) := by decide +kernel
theorem dX4_fromMark_21 : decode cX4_fromMark 21 = .ok (.invokestatic 53, 3) := by decide +kernel
theorem dX4_fromMark_24 : decode cX4_fromMark 24 = .ok (.ireturn, 1) := by decide +kernel
theorem dX4_isWordAt_0 : decode cX4_isWordAt 0 = .ok (.aload_n 0, 1) := by decide +kernel
theorem dX4_isWordAt_1 : decode cX4_isWordAt 1 = .ok (.getfield 14, 3) := by decide +kernel
theorem dX4_isWordAt_4 : decode cX4_isWordAt 4 = .ok (.iload_n 1, 1) := by decide +kernel
theorem dX4_isWordAt_5 : decode cX4_isWordAt 5 = .ok (.invokevirtual 59, 3) := by decide +kernel
theorem dX4_isWordAt_8 : decode cX4_isWordAt 8 = .ok (.istore_n 2, 1) := by decide +kernel
theorem dX4_isWordAt_9 : decode cX4_isWordAt 9 = .ok (.iload_n 2, 1) := by decide +kernel
theorem dX4_isWordAt_10 : decode cX4_isWordAt 10 = .ok (.bipush 48, 2) := by decide +kernel
theorem dX4_isWordAt_12 : decode cX4_isWordAt 12 = .ok (.if_icmp .lt 9, 3) := by decide +kernel
theorem dX4_isWordAt_15 : decode cX4_isWordAt 15 = .ok (.iload_n 2, 1) := by decide +kernel
theorem dX4_isWordAt_16 : decode cX4_isWordAt 16 = .ok (.bipush 57, 2) := by decide +kernel
theorem dX4_isWordAt_18 : decode cX4_isWordAt 18 = .ok (.if_icmp .le 23, 3) := by decide +kernel
theorem dX4_isWordAt_21 : decode cX4_isWordAt 21 = .ok (.iload_n 2, 1) := by decide +kernel
theorem dX4_isWordAt_22 : decode cX4_isWordAt 22 = .ok (.bipush 65, 2) := by decide +kernel
theorem dX4_isWordAt_24 : decode cX4_isWordAt 24 = .ok (.if_icmp .lt 9, 3) := by decide +kernel
theorem dX4_isWordAt_27 : decode cX4_isWordAt 27 = .ok (.iload_n 2, 1) := by decide +kernel
theorem dX4_isWordAt_28 : decode cX4_isWordAt 28 = .ok (.bipush 90, 2) := by decide +kernel
theorem dX4_isWordAt_30 : decode cX4_isWordAt 30 = .ok (.if_icmp .le 11, 3) := by decide +kernel
theorem dX4_isWordAt_33 : decode cX4_isWordAt 33 = .ok (.aload_n 0, 1) := by decide +kernel
theorem dX4_isWordAt_34 : decode cX4_isWordAt 34 = .ok (.iload_n 1, 1) := by decide +kernel
theorem dX4_isWordAt_35 : decode cX4_isWordAt 35 = .ok (.invokevirtual 62, 3) := by decide +kernel
theorem dX4_isWordAt_38 : decode cX4_isWordAt 38 = .ok (.ifCond .eq 7, 3) := by decide +kernel
theorem dX4_isWordAt_41 : decode cX4_isWordAt 41 = .ok (.iconst 1, 1) := by decide +kernel
theorem dX4_isWordAt_42 : decode cX4_isWordAt 42 = .ok (.goto 4, 3) := by decide +kernel
theorem dX4_isWordAt_45 : decode cX4_isWordAt 45 = .ok (.iconst 0, 1) := by decide +kernel
theorem dX4_isWordAt_46 : decode cX4_isWordAt 46 = .ok (.ireturn, 1) := by decide +kernel
theorem dX4_isSmallAt_0 : decode cX4_isSmallAt 0 = .ok (.aload_n 0, 1) := by decide +kernel
theorem dX4_isSmallAt_1 : decode cX4_isSmallAt 1 = .ok (.getfield 14, 3) := by decide +kernel
theorem dX4_isSmallAt_4 : decode cX4_isSmallAt 4 = .ok (.iload_n 1, 1) := by decide +kernel
theorem dX4_isSmallAt_5 : decode cX4_isSmallAt 5 = .ok (.invokevirtual 59, 3) := by decide +kernel
theorem dX4_isSmallAt_8 : decode cX4_isSmallAt 8 = .ok (.istore_n 2, 1) := by decide +kernel
theorem dX4_isSmallAt_9 : decode cX4_isSmallAt 9 = .ok (.iload_n 2, 1) := by decide +kernel
theorem dX4_isSmallAt_10 : decode cX4_isSmallAt 10 = .ok (.bipush 97, 2) := by decide +kernel
theorem dX4_isSmallAt_12 : decode cX4_isSmallAt 12 = .ok (.if_icmp .lt 13, 3) := by decide +kernel
theorem dX4_isSmallAt_15 : decode cX4_isSmallAt 15 = .ok (.iload_n 2, 1) := by decide +kernel
theorem dX4_isSmallAt_16 : decode cX4_isSmallAt 16 = .ok (.bipush 122, 2) := by decide +kernel
theorem dX4_isSmallAt_18 : decode cX4_isSmallAt 18 = .ok (.if_icmp .gt 7, 3) := by decide +kernel
theorem dX4_isSmallAt_21 : decode cX4_isSmallAt 21 = .ok (.iconst 1, 1) := by decide +kernel
theorem dX4_isSmallAt_22 : decode cX4_isSmallAt 22 = .ok (.goto 4, 3) := by decide +kernel
theorem dX4_isSmallAt_25 : decode cX4_isSmallAt 25 = .ok (.iconst 0, 1) := by decide +kernel
theorem dX4_isSmallAt_26 : decode cX4_isSmallAt 26 = .ok (.ireturn, 1) := by decide +kernel
theorem dX4_isEndAt_0 : decode cX4_isEndAt 0 = .ok (.aload_n 0, 1) := by decide +kernel
theorem dX4_isEndAt_1 : decode cX4_isEndAt 1 = .ok (.getfield 14, 3) := by decide +kernel
theorem dX4_isEndAt_4 : decode cX4_isEndAt 4 = .ok (.iload_n 1, 1) := by decide +kernel
theorem dX4_isEndAt_5 : decode cX4_isEndAt 5 = .ok (.invokevirtual 59, 3) := by decide +kernel
theorem dX4_isEndAt_8 : decode cX4_isEndAt 8 = .ok (.bipush 10, 2) := by decide +kernel
theorem dX4_isEndAt_10 : decode cX4_isEndAt 10 = .ok (.if_icmp .ne 7, 3) := by decide +kernel
theorem dX4_isEndAt_13 : decode cX4_isEndAt 13 = .ok (.iconst 1, 1) := by decide +kernel
theorem dX4_isEndAt_14 : decode cX4_isEndAt 14 = .ok (.goto 4, 3) := by decide +kernel
theorem dX4_isEndAt_17 : decode cX4_isEndAt 17 = .ok (.iconst 0, 1) := by decide +kernel
theorem dX4_isEndAt_18 : decode cX4_isEndAt 18 = .ok (.ireturn, 1) := by decide +kernel
theorem dX4_wordStop_0 : decode cX4_wordStop 0 = .ok (.iload_n 1, 1) := by decide +kernel
theorem dX4_wordStop_1 : decode cX4_wordStop 1 = .ok (.istore_n 2, 1) := by decide +kernel
theorem dX4_wordStop_2 : decode cX4_wordStop 2 = .ok (.iload_n 2, 1) := by decide +kernel
theorem dX4_wordStop_3 : decode cX4_wordStop 3 = .ok (.aload_n 0, 1) := by decide +kernel
theorem dX4_wordStop_4 : decode cX4_wordStop 4 = .ok (.getfield 14, 3) := by decide +kernel
theorem dX4_wordStop_7 : decode cX4_wordStop 7 = .ok (.invokevirtual 38, 3) := by decide +kernel
theorem dX4_wordStop_10 : decode cX4_wordStop 10 = .ok (.if_icmp .ge 17, 3) := by decide +kernel
theorem dX4_wordStop_13 : decode cX4_wordStop 13 = .ok (.aload_n 0, 1) := by decide +kernel
theorem dX4_wordStop_14 : decode cX4_wordStop 14 = .ok (.iload_n 2, 1) := by decide +kernel
theorem dX4_wordStop_15 : decode cX4_wordStop 15 = .ok (.invokevirtual 66, 3) := by decide +kernel
theorem dX4_wordStop_18 : decode cX4_wordStop 18 = .ok (.ifCond .ne 9, 3) := by decide +kernel
theorem dX4_wordStop_21 : decode cX4_wordStop 21 = .ok (.iinc 2 1, 3) := by decide +kernel
theorem dX4_wordStop_24 : decode cX4_wordStop 24 = .ok (.goto (-22), 3) := by decide +kernel
theorem dX4_wordStop_27 : decode cX4_wordStop 27 = .ok (.iload_n 2, 1) := by decide +kernel
theorem dX4_wordStop_28 : decode cX4_wordStop 28 = .ok (.aload_n 0, 1) := by decide +kernel
theorem dX4_wordStop_29 : decode cX4_wordStop 29 = .ok (.getfield 14, 3) := by decide +kernel
theorem dX4_wordStop_32 : decode cX4_wordStop 32 = .ok (.invokevirtual 38, 3) := by decide +kernel
theorem dX4_wordStop_35 : decode cX4_wordStop 35 = .ok (.if_icmp .ge 17, 3) := by decide +kernel
theorem dX4_wordStop_38 : decode cX4_wordStop 38 = .ok (.aload_n 0, 1) := by decide +kernel
theorem dX4_wordStop_39 : decode cX4_wordStop 39 = .ok (.iload_n 2, 1) := by decide +kernel
theorem dX4_wordStop_40 : decode cX4_wordStop 40 = .ok (.invokevirtual 66, 3) := by decide +kernel
theorem dX4_wordStop_43 : decode cX4_wordStop 43 = .ok (.ifCond .eq 9, 3) := by decide +kernel
theorem dX4_wordStop_46 : decode cX4_wordStop 46 = .ok (.iinc 2 1, 3) := by decide +kernel
theorem dX4_wordStop_49 : decode cX4_wordStop 49 = .ok (.goto (-22), 3) := by decide +kernel
theorem dX4_wordStop_52 : decode cX4_wordStop 52 = .ok (.iload_n 2, 1) := by decide +kernel
theorem dX4_wordStop_53 : decode cX4_wordStop 53 = .ok (.ireturn, 1) := by decide +kernel
theorem dX4_wordStart_0 : decode cX4_wordStart 0 = .ok (.iload_n 1, 1) := by decide +kernel
theorem dX4_wordStart_1 : decode cX4_wordStart 1 = .ok (.istore_n 2, 1) := by decide +kernel
theorem dX4_wordStart_2 : decode cX4_wordStart 2 = .ok (.iload_n 2, 1) := by decide +kernel
theorem dX4_wordStart_3 : decode cX4_wordStart 3 = .ok (.ifCond .le 19, 3) := by decide +kernel
theorem dX4_wordStart_6 : decode cX4_wordStart 6 = .ok (.aload_n 0, 1) := by decide +kernel
theorem dX4_wordStart_7 : decode cX4_wordStart 7 = .ok (.iload_n 2, 1) := by decide +kernel
theorem dX4_wordStart_8 : decode cX4_wordStart 8 = .ok (.iconst 1, 1) := by decide +kernel
theorem dX4_wordStart_9 : decode cX4_wordStart 9 = .ok (.isub, 1) := by decide +kernel
theorem dX4_wordStart_10 : decode cX4_wordStart 10 = .ok (.invokevirtual 66, 3) := by decide +kernel
theorem dX4_wordStart_13 : decode cX4_wordStart 13 = .ok (.ifCond .ne 9, 3) := by decide +kernel
theorem dX4_wordStart_16 : decode cX4_wordStart 16 = .ok (.iinc 2 (-1), 3) := by decide +kernel
theorem dX4_wordStart_19 : decode cX4_wordStart 19 = .ok (.goto (-17), 3) := by decide +kernel
theorem dX4_wordStart_22 : decode cX4_wordStart 22 = .ok (.iload_n 2, 1) := by decide +kernel
theorem dX4_wordStart_23 : decode cX4_wordStart 23 = .ok (.ifCond .le 19, 3) := by decide +kernel
theorem dX4_wordStart_26 : decode cX4_wordStart 26 = .ok (.aload_n 0, 1) := by decide +kernel
theorem dX4_wordStart_27 : decode cX4_wordStart 27 = .ok (.iload_n 2, 1) := by decide +kernel
theorem dX4_wordStart_28 : decode cX4_wordStart 28 = .ok (.iconst 1, 1) := by decide +kernel
theorem dX4_wordStart_29 : decode cX4_wordStart 29 = .ok (.isub, 1) := by decide +kernel
theorem dX4_wordStart_30 : decode cX4_wordStart 30 = .ok (.invokevirtual 66, 3) := by decide +kernel
theorem dX4_wordStart_33 : decode cX4_wordStart 33 = .ok (.ifCond .eq 9, 3) := by decide +kernel
theorem dX4_wordStart_36 : decode cX4_wordStart 36 = .ok (.iinc 2 (-1), 3) := by decide +kernel
theorem dX4_wordStart_39 : decode cX4_wordStart 39 = .ok (.goto (-17), 3) := by decide +kernel
theorem dX4_wordStart_42 : decode cX4_wordStart 42 = .ok (.iload_n 2, 1) := by decide +kernel
theorem dX4_wordStart_43 : decode cX4_wordStart 43 = .ok (.ireturn, 1) := by decide +kernel
theorem dX4_lineStart_0 : decode cX4_lineStart 0 = .ok (.iload_n 1, 1) := by decide +kernel
theorem dX4_lineStart_1 : decode cX4_lineStart 1 = .ok (.istore_n 2, 1) := by decide +kernel
theorem dX4_lineStart_2 : decode cX4_lineStart 2 = .ok (.iload_n 2, 1) := by decide +kernel
theorem dX4_lineStart_3 : decode cX4_lineStart 3 = .ok (.ifCond .le 19, 3) := by decide +kernel
theorem dX4_lineStart_6 : decode cX4_lineStart 6 = .ok (.aload_n 0, 1) := by decide +kernel
theorem dX4_lineStart_7 : decode cX4_lineStart 7 = .ok (.iload_n 2, 1) := by decide +kernel
theorem dX4_lineStart_8 : decode cX4_lineStart 8 = .ok (.iconst 1, 1) := by decide +kernel
theorem dX4_lineStart_9 : decode cX4_lineStart 9 = .ok (.isub, 1) := by decide +kernel
theorem dX4_lineStart_10 : decode cX4_lineStart 10 = .ok (.invokevirtual 69, 3) := by decide +kernel
theorem dX4_lineStart_13 : decode cX4_lineStart 13 = .ok (.ifCond .ne 9, 3) := by decide +kernel
theorem dX4_lineStart_16 : decode cX4_lineStart 16 = .ok (.iinc 2 (-1), 3) := by decide +kernel
theorem dX4_lineStart_19 : decode cX4_lineStart 19 = .ok (.goto (-17), 3) := by decide +kernel
theorem dX4_lineStart_22 : decode cX4_lineStart 22 = .ok (.iload_n 2, 1) := by decide +kernel
theorem dX4_lineStart_23 : decode cX4_lineStart 23 = .ok (.ireturn, 1) := by decide +kernel
theorem dX4_lineStop_0 : decode cX4_lineStop 0 = .ok (.iload_n 1, 1) := by decide +kernel
theorem dX4_lineStop_1 : decode cX4_lineStop 1 = .ok (.istore_n 2, 1) := by decide +kernel
theorem dX4_lineStop_2 : decode cX4_lineStop 2 = .ok (.iload_n 2, 1) := by decide +kernel
theorem dX4_lineStop_3 : decode cX4_lineStop 3 = .ok (.aload_n 0, 1) := by decide +kernel
theorem dX4_lineStop_4 : decode cX4_lineStop 4 = .ok (.getfield 14, 3) := by decide +kernel
theorem dX4_lineStop_7 : decode cX4_lineStop 7 = .ok (.invokevirtual 38, 3) := by decide +kernel
theorem dX4_lineStop_10 : decode cX4_lineStop 10 = .ok (.if_icmp .ge 17, 3) := by decide +kernel
theorem dX4_lineStop_13 : decode cX4_lineStop 13 = .ok (.aload_n 0, 1) := by decide +kernel
theorem dX4_lineStop_14 : decode cX4_lineStop 14 = .ok (.iload_n 2, 1) := by decide +kernel
theorem dX4_lineStop_15 : decode cX4_lineStop 15 = .ok (.invokevirtual 69, 3) := by decide +kernel
theorem dX4_lineStop_18 : decode cX4_lineStop 18 = .ok (.ifCond .ne 9, 3) := by decide +kernel
theorem dX4_lineStop_21 : decode cX4_lineStop 21 = .ok (.iinc 2 1, 3) := by decide +kernel
theorem dX4_lineStop_24 : decode cX4_lineStop 24 = .ok (.goto (-22), 3) := by decide +kernel
theorem dX4_lineStop_27 : decode cX4_lineStop 27 = .ok (.iload_n 2, 1) := by decide +kernel
theorem dX4_lineStop_28 : decode cX4_lineStop 28 = .ok (.ireturn, 1) := by decide +kernel
theorem dX4_lineStartOver_0 : decode cX4_lineStartOver 0 = .ok (.aload_n 0, 1) := by decide +kernel
theorem dX4_lineStartOver_1 : decode cX4_lineStartOver 1 = .ok (.iload_n 1, 1) := by decide +kernel
theorem dX4_lineStartOver_2 : decode cX4_lineStartOver 2 = .ok (.invokevirtual 72, 3) := by decide +kernel
theorem dX4_lineStartOver_5 : decode cX4_lineStartOver 5 = .ok (.istore_n 3, 1) := by decide +kernel
theorem dX4_lineStartOver_6 : decode cX4_lineStartOver 6 = .ok (.iconst 0, 1) := by decide +kernel
theorem dX4_lineStartOver_7 : decode cX4_lineStartOver 7 = .ok (.istore 4, 2) := by decide +kernel
theorem dX4_lineStartOver_9 : decode cX4_lineStartOver 9 = .ok (.iload 4, 2) := by decide +kernel
theorem dX4_lineStartOver_11 : decode cX4_lineStartOver 11 = .ok (.iload_n 2, 1) := by decide +kernel
theorem dX4_lineStartOver_12 : decode cX4_lineStartOver 12 = .ok (.if_icmp .ge 30, 3) := by decide +kernel
theorem dX4_lineStartOver_15 : decode cX4_lineStartOver 15 = .ok (.aload_n 0, 1) := by decide +kernel
theorem dX4_lineStartOver_16 : decode cX4_lineStartOver 16 = .ok (.iload_n 3, 1) := by decide +kernel
theorem dX4_lineStartOver_17 : decode cX4_lineStartOver 17 = .ok (.invokevirtual 75, 3) := by decide +kernel
theorem dX4_lineStartOver_20 : decode cX4_lineStartOver 20 = .ok (.iconst 1, 1) := by decide +kernel
theorem dX4_lineStartOver_21 : decode cX4_lineStartOver 21 = .ok (.iadd, 1) := by decide +kernel
theorem dX4_lineStartOver_22 : decode cX4_lineStartOver 22 = .ok (.istore_n 3, 1) := by decide +kernel
theorem dX4_lineStartOver_23 : decode cX4_lineStartOver 23 = .ok (.iload_n 3, 1) := by decide +kernel
theorem dX4_lineStartOver_24 : decode cX4_lineStartOver 24 = .ok (.aload_n 0, 1) := by decide +kernel
theorem dX4_lineStartOver_25 : decode cX4_lineStartOver 25 = .ok (.getfield 14, 3) := by decide +kernel
theorem dX4_lineStartOver_28 : decode cX4_lineStartOver 28 = .ok (.invokevirtual 38, 3) := by decide +kernel
theorem dX4_lineStartOver_31 : decode cX4_lineStartOver 31 = .ok (.if_icmp .le 5, 3) := by decide +kernel
theorem dX4_lineStartOver_34 : decode cX4_lineStartOver 34 = .ok (.iconst (-1), 1) := by decide +kernel
theorem dX4_lineStartOver_35 : decode cX4_lineStartOver 35 = .ok (.ireturn, 1) := by decide +kernel
theorem dX4_lineStartOver_36 : decode cX4_lineStartOver 36 = .ok (.iinc 4 1, 3) := by decide +kernel
theorem dX4_lineStartOver_39 : decode cX4_lineStartOver 39 = .ok (.goto (-30), 3) := by decide +kernel
theorem dX4_lineStartOver_42 : decode cX4_lineStartOver 42 = .ok (.iconst 0, 1) := by decide +kernel
theorem dX4_lineStartOver_43 : decode cX4_lineStartOver 43 = .ok (.istore 4, 2) := by decide +kernel
theorem dX4_lineStartOver_45 : decode cX4_lineStartOver 45 = .ok (.iload 4, 2) := by decide +kernel
theorem dX4_lineStartOver_47 : decode cX4_lineStartOver 47 = .ok (.iload_n 2, 1) := by decide +kernel
theorem dX4_lineStartOver_48 : decode cX4_lineStartOver 48 = .ok (.if_icmp .le 24, 3) := by decide +kernel
theorem dX4_lineStartOver_51 : decode cX4_lineStartOver 51 = .ok (.iload_n 3, 1) := by decide +kernel
theorem dX4_lineStartOver_52 : decode cX4_lineStartOver 52 = .ok (.iconst 1, 1) := by decide +kernel
theorem dX4_lineStartOver_53 : decode cX4_lineStartOver 53 = .ok (.if_icmp .ge 5, 3) := by decide +kernel
theorem dX4_lineStartOver_56 : decode cX4_lineStartOver 56 = .ok (.iconst (-1), 1) := by decide +kernel
theorem dX4_lineStartOver_57 : decode cX4_lineStartOver 57 = .ok (.ireturn, 1) := by decide +kernel
theorem dX4_lineStartOver_58 : decode cX4_lineStartOver 58 = .ok (.aload_n 0, 1) := by decide +kernel
theorem dX4_lineStartOver_59 : decode cX4_lineStartOver 59 = .ok (.iload_n 3, 1) := by decide +kernel
theorem dX4_lineStartOver_60 : decode cX4_lineStartOver 60 = .ok (.iconst 1, 1) := by decide +kernel
theorem dX4_lineStartOver_61 : decode cX4_lineStartOver 61 = .ok (.isub, 1) := by decide +kernel
theorem dX4_lineStartOver_62 : decode cX4_lineStartOver 62 = .ok (.invokevirtual 72, 3) := by decide +kernel
theorem dX4_lineStartOver_65 : decode cX4_lineStartOver 65 = .ok (.istore_n 3, 1) := by decide +kernel
theorem dX4_lineStartOver_66 : decode cX4_lineStartOver 66 = .ok (.iinc 4 (-1), 3) := by decide +kernel
theorem dX4_lineStartOver_69 : decode cX4_lineStartOver 69 = .ok (.goto (-24), 3) := by decide +kernel
theorem dX4_lineStartOver_72 : decode cX4_lineStartOver 72 = .ok (.iload_n 3, 1) := by decide +kernel
theorem dX4_lineStartOver_73 : decode cX4_lineStartOver 73 = .ok (.ireturn, 1) := by decide +kernel
theorem dX4_placeOf_0 : decode cX4_placeOf 0 = .ok (.aload_n 0, 1) := by decide +kernel
theorem dX4_placeOf_1 : decode cX4_placeOf 1 = .ok (.getfield 28, 3) := by decide +kernel
theorem dX4_placeOf_4 : decode cX4_placeOf 4 = .ok (.istore_n 2, 1) := by decide +kernel
theorem dX4_placeOf_5 : decode cX4_placeOf 5 = .ok (.iload_n 2, 1) := by decide +kernel
theorem dX4_placeOf_6 : decode cX4_placeOf 6 = .ok (.aload_n 0, 1) := by decide +kernel
theorem dX4_placeOf_7 : decode cX4_placeOf 7 = .ok (.getfield 14, 3) := by decide +kernel
theorem dX4_placeOf_10 : decode cX4_placeOf 10 = .ok (.invokevirtual 38, 3) := by decide +kernel
theorem dX4_placeOf_13 : decode cX4_placeOf 13 = .ok (.if_icmp .ge 23, 3) := by decide +kernel
theorem dX4_placeOf_16 : decode cX4_placeOf 16 = .ok (.aload_n 0, 1) := by decide +kernel
theorem dX4_placeOf_17 : decode cX4_placeOf 17 = .ok (.getfield 14, 3) := by decide +kernel
theorem dX4_placeOf_20 : decode cX4_placeOf 20 = .ok (.iload_n 2, 1) := by decide +kernel
theorem dX4_placeOf_21 : decode cX4_placeOf 21 = .ok (.aload_n 1, 1) := by decide +kernel
theorem dX4_placeOf_22 : decode cX4_placeOf 22 = .ok (.invokevirtual 78, 3) := by decide +kernel
theorem dX4_placeOf_25 : decode cX4_placeOf 25 = .ok (.ifCond .eq 5, 3) := by decide +kernel
theorem dX4_placeOf_28 : decode cX4_placeOf 28 = .ok (.iload_n 2, 1) := by decide +kernel
theorem dX4_placeOf_29 : decode cX4_placeOf 29 = .ok (.ireturn, 1) := by decide +kernel
theorem dX4_placeOf_30 : decode cX4_placeOf 30 = .ok (.iinc 2 1, 3) := by decide +kernel
theorem dX4_placeOf_33 : decode cX4_placeOf 33 = .ok (.goto (-28), 3) := by decide +kernel
theorem dX4_placeOf_36 : decode cX4_placeOf 36 = .ok (.iconst (-1), 1) := by decide +kernel
theorem dX4_placeOf_37 : decode cX4_placeOf 37 = .ok (.ireturn, 1) := by decide +kernel
theorem dX4_endsAhead_0 : decode cX4_endsAhead 0 = .ok (.iconst 0, 1) := by decide +kernel
theorem dX4_endsAhead_1 : decode cX4_endsAhead 1 = .ok (.istore_n 2, 1) := by decide +kernel
theorem dX4_endsAhead_2 : decode cX4_endsAhead 2 = .ok (.iconst 0, 1) := by decide +kernel
theorem dX4_endsAhead_3 : decode cX4_endsAhead 3 = .ok (.istore_n 3, 1) := by decide +kernel
theorem dX4_endsAhead_4 : decode cX4_endsAhead 4 = .ok (.iload_n 3, 1) := by decide +kernel
theorem dX4_endsAhead_5 : decode cX4_endsAhead 5 = .ok (.iload_n 1, 1) := by decide +kernel
theorem dX4_endsAhead_6 : decode cX4_endsAhead 6 = .ok (.if_icmp .ge 20, 3) := by decide +kernel
theorem dX4_endsAhead_9 : decode cX4_endsAhead 9 = .ok (.aload_n 0, 1) := by decide +kernel
theorem dX4_endsAhead_10 : decode cX4_endsAhead 10 = .ok (.iload_n 3, 1) := by decide +kernel
theorem dX4_endsAhead_11 : decode cX4_endsAhead 11 = .ok (.invokevirtual 69, 3) := by decide +kernel
theorem dX4_endsAhead_14 : decode cX4_endsAhead 14 = .ok (.ifCond .eq 6, 3) := by decide +kernel
theorem dX4_endsAhead_17 : decode cX4_endsAhead 17 = .ok (.iinc 2 1, 3) := by decide +kernel
theorem dX4_endsAhead_20 : decode cX4_endsAhead 20 = .ok (.iinc 3 1, 3) := by decide +kernel
theorem dX4_endsAhead_23 : decode cX4_endsAhead 23 = .ok (.goto (-19), 3) := by decide +kernel
theorem dX4_endsAhead_26 : decode cX4_endsAhead 26 = .ok (.iload_n 2, 1) := by decide +kernel
theorem dX4_endsAhead_27 : decode cX4_endsAhead 27 = .ok (.ireturn, 1) := by decide +kernel
theorem dX4_linesGone_0 : decode cX4_linesGone 0 = .ok (.iconst 1, 1) := by decide +kernel
theorem dX4_linesGone_1 : decode cX4_linesGone 1 = .ok (.istore_n 1, 1) := by decide +kernel
theorem dX4_linesGone_2 : decode cX4_linesGone 2 = .ok (.aload_n 0, 1) := by decide +kernel
theorem dX4_linesGone_3 : decode cX4_linesGone 3 = .ok (.iconst 0, 1) := by decide +kernel
theorem dX4_linesGone_4 : decode cX4_linesGone 4 = .ok (.invokevirtual 75, 3) := by decide +kernel
theorem dX4_linesGone_7 : decode cX4_linesGone 7 = .ok (.istore_n 2, 1) := by decide +kernel
theorem dX4_linesGone_8 : decode cX4_linesGone 8 = .ok (.iconst 0, 1) := by decide +kernel
theorem dX4_linesGone_9 : decode cX4_linesGone 9 = .ok (.istore_n 3, 1) := by decide +kernel
theorem dX4_linesGone_10 : decode cX4_linesGone 10 = .ok (.iload_n 3, 1) := by decide +kernel
theorem dX4_linesGone_11 : decode cX4_linesGone 11 = .ok (.aload_n 0, 1) := by decide +kernel
theorem dX4_linesGone_12 : decode cX4_linesGone 12 = .ok (.getfield 14, 3) := by decide +kernel
theorem dX4_linesGone_15 : decode cX4_linesGone 15 = .ok (.invokevirtual 38, 3) := by decide +kernel
theorem dX4_linesGone_18 : decode cX4_linesGone 18 = .ok (.if_icmp .ge 31, 3) := by decide +kernel
theorem dX4_linesGone_21 : decode cX4_linesGone 21 = .ok (.iload_n 2, 1) := by decide +kernel
theorem dX4_linesGone_22 : decode cX4_linesGone 22 = .ok (.aload_n 0, 1) := by decide +kernel
theorem dX4_linesGone_23 : decode cX4_linesGone 23 = .ok (.getfield 14, 3) := by decide +kernel
theorem dX4_linesGone_26 : decode cX4_linesGone 26 = .ok (.invokevirtual 38, 3) := by decide +kernel
theorem dX4_linesGone_29 : decode cX4_linesGone 29 = .ok (.if_icmp .ge 20, 3) := by decide +kernel
theorem dX4_linesGone_32 : decode cX4_linesGone 32 = .ok (.iinc 1 1, 3) := by decide +kernel
theorem dX4_linesGone_35 : decode cX4_linesGone 35 = .ok (.aload_n 0, 1) := by decide +kernel
theorem dX4_linesGone_36 : decode cX4_linesGone 36 = .ok (.iload_n 2, 1) := by decide +kernel
theorem dX4_linesGone_37 : decode cX4_linesGone 37 = .ok (.iconst 1, 1) := by decide +kernel
theorem dX4_linesGone_38 : decode cX4_linesGone 38 = .ok (.iadd, 1) := by decide +kernel
theorem dX4_linesGone_39 : decode cX4_linesGone 39 = .ok (.invokevirtual 75, 3) := by decide +kernel
theorem dX4_linesGone_42 : decode cX4_linesGone 42 = .ok (.istore_n 2, 1) := by decide +kernel
theorem dX4_linesGone_43 : decode cX4_linesGone 43 = .ok (.iinc 3 1, 3) := by decide +kernel
theorem dX4_linesGone_46 : decode cX4_linesGone 46 = .ok (.goto (-36), 3) := by decide +kernel
theorem dX4_linesGone_49 : decode cX4_linesGone 49 = .ok (.iload_n 1, 1) := by decide +kernel
theorem dX4_linesGone_50 : decode cX4_linesGone 50 = .ok (.ireturn, 1) := by decide +kernel
theorem dX4_longest_0 : decode cX4_longest 0 = .ok (.iconst 0, 1) := by decide +kernel
theorem dX4_longest_1 : decode cX4_longest 1 = .ok (.istore_n 1, 1) := by decide +kernel
theorem dX4_longest_2 : decode cX4_longest 2 = .ok (.iconst 0, 1) := by decide +kernel
theorem dX4_longest_3 : decode cX4_longest 3 = .ok (.istore_n 2, 1) := by decide +kernel
theorem dX4_longest_4 : decode cX4_longest 4 = .ok (.iconst 0, 1) := by decide +kernel
theorem dX4_longest_5 : decode cX4_longest 5 = .ok (.istore_n 3, 1) := by decide +kernel
theorem dX4_longest_6 : decode cX4_longest 6 = .ok (.iload_n 3, 1) := by decide +kernel
theorem dX4_longest_7 : decode cX4_longest 7 = .ok (.aload_n 0, 1) := by decide +kernel
theorem dX4_longest_8 : decode cX4_longest 8 = .ok (.getfield 14, 3) := by decide +kernel
theorem dX4_longest_11 : decode cX4_longest 11 = .ok (.invokevirtual 38, 3) := by decide +kernel
theorem dX4_longest_14 : decode cX4_longest 14 = .ok (.if_icmp .gt 41, 3) := by decide +kernel
theorem dX4_longest_17 : decode cX4_longest 17 = .ok (.iload_n 2, 1) := by decide +kernel
theorem dX4_longest_18 : decode cX4_longest 18 = .ok (.aload_n 0, 1) := by decide +kernel
theorem dX4_longest_19 : decode cX4_longest 19 = .ok (.getfield 14, 3) := by decide +kernel
theorem dX4_longest_22 : decode cX4_longest 22 = .ok (.invokevirtual 38, 3) := by decide +kernel
theorem dX4_longest_25 : decode cX4_longest 25 = .ok (.if_icmp .gt 30, 3) := by decide +kernel
theorem dX4_longest_28 : decode cX4_longest 28 = .ok (.aload_n 0, 1) := by decide +kernel
theorem dX4_longest_29 : decode cX4_longest 29 = .ok (.iload_n 2, 1) := by decide +kernel
theorem dX4_longest_30 : decode cX4_longest 30 = .ok (.invokevirtual 75, 3) := by decide +kernel
theorem dX4_longest_33 : decode cX4_longest 33 = .ok (.istore 4, 2) := by decide +kernel
theorem dX4_longest_35 : decode cX4_longest 35 = .ok (.iload_n 1, 1) := by decide +kernel
theorem dX4_longest_36 : decode cX4_longest 36 = .ok (.iload 4, 2) := by decide +kernel
theorem dX4_longest_38 : decode cX4_longest 38 = .ok (.iload_n 2, 1) := by decide +kernel
theorem dX4_longest_39 : decode cX4_longest 39 = .ok (.isub, 1) := by decide +kernel
theorem dX4_longest_40 : decode cX4_longest 40 = .ok (.invokestatic 82, 3) := by decide +kernel
theorem dX4_longest_43 : decode cX4_longest 43 = .ok (.istore_n 1, 1) := by decide +kernel
theorem dX4_longest_44 : decode cX4_longest 44 = .ok (.iload 4, 2) := by decide +kernel
theorem dX4_longest_46 : decode cX4_longest 46 = .ok (.iconst 1, 1) := by decide +kernel
theorem dX4_longest_47 : decode cX4_longest 47 = .ok (.iadd, 1) := by decide +kernel
theorem dX4_longest_48 : decode cX4_longest 48 = .ok (.istore_n 2, 1) := by decide +kernel
theorem dX4_longest_49 : decode cX4_longest 49 = .ok (.iinc 3 1, 3) := by decide +kernel
theorem dX4_longest_52 : decode cX4_longest 52 = .ok (.goto (-46), 3) := by decide +kernel
theorem dX4_longest_55 : decode cX4_longest 55 = .ok (.iload_n 1, 1) := by decide +kernel
theorem dX4_longest_56 : decode cX4_longest 56 = .ok (.ireturn, 1) := by decide +kernel
theorem dX4_wordsBegun_0 : decode cX4_wordsBegun 0 = .ok (.iconst 0, 1) := by decide +kernel
theorem dX4_wordsBegun_1 : decode cX4_wordsBegun 1 = .ok (.istore_n 1, 1) := by decide +kernel
theorem dX4_wordsBegun_2 : decode cX4_wordsBegun 2 = .ok (.iconst 0, 1) := by decide +kernel
theorem dX4_wordsBegun_3 : decode cX4_wordsBegun 3 = .ok (.istore_n 2, 1) := by decide +kernel
theorem dX4_wordsBegun_4 : decode cX4_wordsBegun 4 = .ok (.iload_n 2, 1) := by decide +kernel
theorem dX4_wordsBegun_5 : decode cX4_wordsBegun 5 = .ok (.aload_n 0, 1) := by decide +kernel
theorem dX4_wordsBegun_6 : decode cX4_wordsBegun 6 = .ok (.getfield 14, 3) := by decide +kernel
theorem dX4_wordsBegun_9 : decode cX4_wordsBegun 9 = .ok (.invokevirtual 38, 3) := by decide +kernel
theorem dX4_wordsBegun_12 : decode cX4_wordsBegun 12 = .ok (.if_icmp .ge 30, 3) := by decide +kernel
theorem dX4_wordsBegun_15 : decode cX4_wordsBegun 15 = .ok (.aload_n 0, 1) := by decide +kernel
theorem dX4_wordsBegun_16 : decode cX4_wordsBegun 16 = .ok (.iload_n 2, 1) := by decide +kernel
theorem dX4_wordsBegun_17 : decode cX4_wordsBegun 17 = .ok (.invokevirtual 66, 3) := by decide +kernel
theorem dX4_wordsBegun_20 : decode cX4_wordsBegun 20 = .ok (.ifCond .eq 16, 3) := by decide +kernel
theorem dX4_wordsBegun_23 : decode cX4_wordsBegun 23 = .ok (.aload_n 0, 1) := by decide +kernel
theorem dX4_wordsBegun_24 : decode cX4_wordsBegun 24 = .ok (.iload_n 2, 1) := by decide +kernel
theorem dX4_wordsBegun_25 : decode cX4_wordsBegun 25 = .ok (.iconst 1, 1) := by decide +kernel
theorem dX4_wordsBegun_26 : decode cX4_wordsBegun 26 = .ok (.isub, 1) := by decide +kernel
theorem dX4_wordsBegun_27 : decode cX4_wordsBegun 27 = .ok (.invokevirtual 66, 3) := by decide +kernel
theorem dX4_wordsBegun_30 : decode cX4_wordsBegun 30 = .ok (.ifCond .ne 6, 3) := by decide +kernel
theorem dX4_wordsBegun_33 : decode cX4_wordsBegun 33 = .ok (.iinc 1 1, 3) := by decide +kernel
theorem dX4_wordsBegun_36 : decode cX4_wordsBegun 36 = .ok (.iinc 2 1, 3) := by decide +kernel
theorem dX4_wordsBegun_39 : decode cX4_wordsBegun 39 = .ok (.goto (-35), 3) := by decide +kernel
theorem dX4_wordsBegun_42 : decode cX4_wordsBegun 42 = .ok (.iload_n 1, 1) := by decide +kernel
theorem dX4_wordsBegun_43 : decode cX4_wordsBegun 43 = .ok (.ireturn, 1) := by decide +kernel
theorem dX4_wordsGone_0 : decode cX4_wordsGone 0 = .ok (.iconst 0, 1) := by decide +kernel
theorem dX4_wordsGone_1 : decode cX4_wordsGone 1 = .ok (.istore_n 1, 1) := by decide +kernel
theorem dX4_wordsGone_2 : decode cX4_wordsGone 2 = .ok (.iconst 0, 1) := by decide +kernel
theorem dX4_wordsGone_3 : decode cX4_wordsGone 3 = .ok (.istore_n 2, 1) := by decide +kernel
theorem dX4_wordsGone_4 : decode cX4_wordsGone 4 = .ok (.iconst 0, 1) := by decide +kernel
theorem dX4_wordsGone_5 : decode cX4_wordsGone 5 = .ok (.istore_n 3, 1) := by decide +kernel
theorem dX4_wordsGone_6 : decode cX4_wordsGone 6 = .ok (.iload_n 3, 1) := by decide +kernel
theorem dX4_wordsGone_7 : decode cX4_wordsGone 7 = .ok (.aload_n 0, 1) := by decide +kernel
theorem dX4_wordsGone_8 : decode cX4_wordsGone 8 = .ok (.getfield 14, 3) := by decide +kernel
theorem dX4_wordsGone_11 : decode cX4_wordsGone 11 = .ok (.invokevirtual 38, 3) := by decide +kernel
theorem dX4_wordsGone_14 : decode cX4_wordsGone 14 = .ok (.if_icmp .ge 39, 3) := by decide +kernel
theorem dX4_wordsGone_17 : decode cX4_wordsGone 17 = .ok (.iload_n 2, 1) := by decide +kernel
theorem dX4_wordsGone_18 : decode cX4_wordsGone 18 = .ok (.aload_n 0, 1) := by decide +kernel
theorem dX4_wordsGone_19 : decode cX4_wordsGone 19 = .ok (.getfield 14, 3) := by decide +kernel
theorem dX4_wordsGone_22 : decode cX4_wordsGone 22 = .ok (.invokevirtual 38, 3) := by decide +kernel
theorem dX4_wordsGone_25 : decode cX4_wordsGone 25 = .ok (.if_icmp .ge 28, 3) := by decide +kernel
theorem dX4_wordsGone_28 : decode cX4_wordsGone 28 = .ok (.aload_n 0, 1) := by decide +kernel
theorem dX4_wordsGone_29 : decode cX4_wordsGone 29 = .ok (.iload_n 2, 1) := by decide +kernel
theorem dX4_wordsGone_30 : decode cX4_wordsGone 30 = .ok (.invokevirtual 86, 3) := by decide +kernel
theorem dX4_wordsGone_33 : decode cX4_wordsGone 33 = .ok (.istore_n 2, 1) := by decide +kernel
theorem dX4_wordsGone_34 : decode cX4_wordsGone 34 = .ok (.aload_n 0, 1) := by decide +kernel
theorem dX4_wordsGone_35 : decode cX4_wordsGone 35 = .ok (.iload_n 2, 1) := by decide +kernel
theorem dX4_wordsGone_36 : decode cX4_wordsGone 36 = .ok (.iconst 1, 1) := by decide +kernel
theorem dX4_wordsGone_37 : decode cX4_wordsGone 37 = .ok (.isub, 1) := by decide +kernel
theorem dX4_wordsGone_38 : decode cX4_wordsGone 38 = .ok (.invokevirtual 66, 3) := by decide +kernel
theorem dX4_wordsGone_41 : decode cX4_wordsGone 41 = .ok (.ifCond .eq 6, 3) := by decide +kernel
theorem dX4_wordsGone_44 : decode cX4_wordsGone 44 = .ok (.iinc 1 1, 3) := by decide +kernel
theorem dX4_wordsGone_47 : decode cX4_wordsGone 47 = .ok (.iinc 3 1, 3) := by decide +kernel
theorem dX4_wordsGone_50 : decode cX4_wordsGone 50 = .ok (.goto (-44), 3) := by decide +kernel
theorem dX4_wordsGone_53 : decode cX4_wordsGone 53 = .ok (.iload_n 1, 1) := by decide +kernel
theorem dX4_wordsGone_54 : decode cX4_wordsGone 54 = .ok (.ireturn, 1) := by decide +kernel
theorem dX5_init_0 : decode cX5_init 0 = .ok (.aload_n 0, 1) := by decide +kernel
theorem dX5_init_1 : decode cX5_init 1 = .ok (.invokespecial 3, 3) := by decide +kernel
theorem dX5_init_4 : decode cX5_init 4 = .ok (.aload_n 0, 1) := by decide +kernel
theorem dX5_init_5 : decode cX5_init 5 = .ok (.new 9, 3) := by decide +kernel
theorem dX5_init_8 : decode cX5_init 8 = .ok (.dup, 1) := by decide +kernel
theorem dX5_init_9 : decode cX5_init 9 = .ok (.invokespecial 11, 3) := by decide +kernel
theorem dX5_init_12 : decode cX5_init 12 = .ok (.putfield 12, 3) := by decide +kernel
theorem dX5_init_15 : decode cX5_init 15 = .ok (.aload_n 0, 1) := by decide +kernel
theorem dX5_init_16 : decode cX5_init 16 = .ok (.new 18, 3) := by decide +kernel
theorem dX5_init_19 : decode cX5_init 19 = .ok (.dup, 1) := by decide +kernel
theorem dX5_init_20 : decode cX5_init 20 = .ok (.invokespecial 20, 3) := by decide +kernel
theorem dX5_init_23 : decode cX5_init 23 = .ok (.putfield 21, 3) := by decide +kernel
theorem dX5_init_26 : decode cX5_init 26 = .ok (.aload_n 0, 1) := by decide +kernel
theorem dX5_init_27 : decode cX5_init 27 = .ok (.new 25, 3) := by decide +kernel
theorem dX5_init_30 : decode cX5_init 30 = .ok (.dup, 1) := by decide +kernel
theorem dX5_init_31 : decode cX5_init 31 = .ok (.invokespecial 27, 3) := by decide +kernel
theorem dX5_init_34 : decode cX5_init 34 = .ok (.putfield 28, 3) := by decide +kernel
theorem dX5_init_37 : decode cX5_init 37 = .ok (.aload_n 0, 1) := by decide +kernel
theorem dX5_init_38 : decode cX5_init 38 = .ok (.iconst 0, 1) := by decide +kernel
theorem dX5_init_39 : decode cX5_init 39 = .ok (.putfield 32, 3) := by decide +kernel
theorem dX5_init_42 : decode cX5_init 42 = .ok (.return_, 1) := by decide +kernel
theorem dX5_copyFrom_0 : decode cX5_copyFrom 0 = .ok (.aload_n 0, 1) := by decide +kernel
theorem dX5_copyFrom_1 : decode cX5_copyFrom 1 = .ok (.getfield 12, 3) := by decide +kernel
theorem dX5_copyFrom_4 : decode cX5_copyFrom 4 = .ok (.aload_n 1, 1) := by decide +kernel
theorem dX5_copyFrom_5 : decode cX5_copyFrom 5 = .ok (.getfield 12, 3) := by decide +kernel
theorem dX5_copyFrom_8 : decode cX5_copyFrom 8 = .ok (.invokevirtual 36, 3) := by decide +kernel
theorem dX5_copyFrom_11 : decode cX5_copyFrom 11 = .ok (.aload_n 0, 1) := by decide +kernel
theorem dX5_copyFrom_12 : decode cX5_copyFrom 12 = .ok (.getfield 21, 3) := by decide +kernel
theorem dX5_copyFrom_15 : decode cX5_copyFrom 15 = .ok (.aload_n 1, 1) := by decide +kernel
theorem dX5_copyFrom_16 : decode cX5_copyFrom 16 = .ok (.getfield 21, 3) := by decide +kernel
theorem dX5_copyFrom_19 : decode cX5_copyFrom 19 = .ok (.invokevirtual 40, 3) := by decide +kernel
theorem dX5_copyFrom_22 : decode cX5_copyFrom 22 = .ok (.aload_n 0, 1) := by decide +kernel
theorem dX5_copyFrom_23 : decode cX5_copyFrom 23 = .ok (.getfield 28, 3) := by decide +kernel
theorem dX5_copyFrom_26 : decode cX5_copyFrom 26 = .ok (.aload_n 1, 1) := by decide +kernel
theorem dX5_copyFrom_27 : decode cX5_copyFrom 27 = .ok (.getfield 28, 3) := by decide +kernel
theorem dX5_copyFrom_30 : decode cX5_copyFrom 30 = .ok (.invokevirtual 43, 3) := by decide +kernel
theorem dX5_copyFrom_33 : decode cX5_copyFrom 33 = .ok (.aload_n 0, 1) := by decide +kernel
theorem dX5_copyFrom_34 : decode cX5_copyFrom 34 = .ok (.aload_n 1, 1) := by decide +kernel
theorem dX5_copyFrom_35 : decode cX5_copyFrom 35 = .ok (.getfield 32, 3) := by decide +kernel
theorem dX5_copyFrom_38 : decode cX5_copyFrom 38 = .ok (.putfield 32, 3) := by decide +kernel
theorem dX5_copyFrom_41 : decode cX5_copyFrom 41 = .ok (.return_, 1) := by decide +kernel
theorem dX5_comeBackTo_0 : decode cX5_comeBackTo 0 = .ok (.aload_n 0, 1) := by decide +kernel
theorem dX5_comeBackTo_1 : decode cX5_comeBackTo 1 = .ok (.aload_n 1, 1) := by decide +kernel
theorem dX5_comeBackTo_2 : decode cX5_comeBackTo 2 = .ok (.invokevirtual 46, 3) := by decide +kernel
theorem dX5_comeBackTo_5 : decode cX5_comeBackTo 5 = .ok (.aload_n 0, 1) := by decide +kernel
theorem dX5_comeBackTo_6 : decode cX5_comeBackTo 6 = .ok (.iconst 0, 1) := by decide +kernel
theorem dX5_comeBackTo_7 : decode cX5_comeBackTo 7 = .ok (.putfield 32, 3) := by decide +kernel
theorem dX5_comeBackTo_10 : decode cX5_comeBackTo 10 = .ok (.return_, 1) := by decide +kernel
theorem dX5_doDeed_0 : decode cX5_doDeed 0 = .ok (.iload_n 1, 1) := by decide +kernel
theorem dX5_doDeed_1 : decode cX5_doDeed 1 = .ok (.tableswitch 481 39 121 #[475, 481, 481, 481, 481, 481, 481, 481, 481, 481, 481, 481, 481, 481, 481, 481, 481, 481, 481, 481, 481, 481, 481, 481, 481, 481, 481, 380, 481, 481, 481, 375, 481, 481, 481, 481, 481, 481, 481, 481, 481, 481, 481, 481, 481, 481, 481, 481, 410, 481, 481, 481, 481, 481, 481, 481, 468, 481, 385, 361, 425, 481, 390, 347, 456, 481, 481, 481, 415, 481, 395, 461, 481, 435, 481, 420, 451, 440, 446, 481, 405, 400, 430], 347) := by decide +kernel
theorem dX5_doDeed_348 : decode cX5_doDeed 348 = .ok (.aload_n 0, 1) := by decide +kernel
theorem dX5_doDeed_349 : decode cX5_doDeed 349 = .ok (.aload_n 0, 1) := by decide +kernel
theorem dX5_doDeed_350 : decode cX5_doDeed 350 = .ok (.getfield 12, 3) := by decide +kernel
theorem dX5_doDeed_353 : decode cX5_doDeed 353 = .ok (.getfield 49, 3) := by decide +kernel
theorem dX5_doDeed_356 : decode cX5_doDeed 356 = .ok (.iconst 1, 1) := by decide +kernel
theorem dX5_doDeed_357 : decode cX5_doDeed 357 = .ok (.iadd, 1) := by decide +kernel
theorem dX5_doDeed_358 : decode cX5_doDeed 358 = .ok (.invokevirtual 52, 3) := by decide +kernel
theorem dX5_doDeed_361 : decode cX5_doDeed 361 = .ok (.ireturn, 1) := by decide +kernel
theorem dX5_doDeed_362 : decode cX5_doDeed 362 = .ok (.aload_n 0, 1) := by decide +kernel
theorem dX5_doDeed_363 : decode cX5_doDeed 363 = .ok (.aload_n 0, 1) := by decide +kernel
theorem dX5_doDeed_364 : decode cX5_doDeed 364 = .ok (.getfield 12, 3) := by decide +kernel
theorem dX5_doDeed_367 : decode cX5_doDeed 367 = .ok (.getfield 49, 3) := by decide +kernel
theorem dX5_doDeed_370 : decode cX5_doDeed 370 = .ok (.iconst 1, 1) := by decide +kernel
theorem dX5_doDeed_371 : decode cX5_doDeed 371 = .ok (.isub, 1) := by decide +kernel
theorem dX5_doDeed_372 : decode cX5_doDeed 372 = .ok (.invokevirtual 52, 3) := by decide +kernel
theorem dX5_doDeed_375 : decode cX5_doDeed 375 = .ok (.ireturn, 1) := by decide +kernel
theorem dX5_doDeed_376 : decode cX5_doDeed 376 = .ok (.aload_n 0, 1) := by decide +kernel
theorem dX5_doDeed_377 : decode cX5_doDeed 377 = .ok (.invokevirtual 56, 3) := by decide +kernel
theorem dX5_doDeed_380 : decode cX5_doDeed 380 = .ok (.ireturn, 1) := by decide +kernel
theorem dX5_doDeed_381 : decode cX5_doDeed 381 = .ok (.aload_n 0, 1) := by decide +kernel
theorem dX5_doDeed_382 : decode cX5_doDeed 382 = .ok (.invokevirtual 60, 3) := by decide +kernel
theorem dX5_doDeed_385 : decode cX5_doDeed 385 = .ok (.ireturn, 1) := by decide +kernel
theorem dX5_doDeed_386 : decode cX5_doDeed 386 = .ok (.aload_n 0, 1) := by decide +kernel
theorem dX5_doDeed_387 : decode cX5_doDeed 387 = .ok (.invokevirtual 63, 3) := by decide +kernel
theorem dX5_doDeed_390 : decode cX5_doDeed 390 = .ok (.ireturn, 1) := by decide +kernel
theorem dX5_doDeed_391 : decode cX5_doDeed 391 = .ok (.aload_n 0, 1) := by decide +kernel
theorem dX5_doDeed_392 : decode cX5_doDeed 392 = .ok (.invokevirtual 66, 3) := by decide +kernel
theorem dX5_doDeed_395 : decode cX5_doDeed 395 = .ok (.ireturn, 1) := by decide +kernel
theorem dX5_doDeed_396 : decode cX5_doDeed 396 = .ok (.aload_n 0, 1) := by decide +kernel
theorem dX5_doDeed_397 : decode cX5_doDeed 397 = .ok (.invokevirtual 69, 3) := by decide +kernel
theorem dX5_doDeed_400 : decode cX5_doDeed 400 = .ok (.ireturn, 1) := by decide +kernel
theorem dX5_doDeed_401 : decode cX5_doDeed 401 = .ok (.aload_n 0, 1) := by decide +kernel
theorem dX5_doDeed_402 : decode cX5_doDeed 402 = .ok (.invokevirtual 72, 3) := by decide +kernel
theorem dX5_doDeed_405 : decode cX5_doDeed 405 = .ok (.ireturn, 1) := by decide +kernel
theorem dX5_doDeed_406 : decode cX5_doDeed 406 = .ok (.aload_n 0, 1) := by decide +kernel
theorem dX5_doDeed_407 : decode cX5_doDeed 407 = .ok (.invokevirtual 75, 3) := by decide +kernel
theorem dX5_doDeed_410 : decode cX5_doDeed 410 = .ok (.ireturn, 1) := by decide +kernel
theorem dX5_doDeed_411 : decode cX5_doDeed 411 = .ok (.aload_n 0, 1) := by decide +kernel
theorem dX5_doDeed_412 : decode cX5_doDeed 412 = .ok (.invokevirtual 78, 3) := by decide +kernel
theorem dX5_doDeed_415 : decode cX5_doDeed 415 = .ok (.ireturn, 1) := by decide +kernel
theorem dX5_doDeed_416 : decode cX5_doDeed 416 = .ok (.aload_n 0, 1) := by decide +kernel
theorem dX5_doDeed_417 : decode cX5_doDeed 417 = .ok (.invokevirtual 81, 3) := by decide +kernel
theorem dX5_doDeed_420 : decode cX5_doDeed 420 = .ok (.ireturn, 1) := by decide +kernel
theorem dX5_doDeed_421 : decode cX5_doDeed 421 = .ok (.aload_n 0, 1) := by decide +kernel
theorem dX5_doDeed_422 : decode cX5_doDeed 422 = .ok (.invokevirtual 84, 3) := by decide +kernel
theorem dX5_doDeed_425 : decode cX5_doDeed 425 = .ok (.ireturn, 1) := by decide +kernel
theorem dX5_doDeed_426 : decode cX5_doDeed 426 = .ok (.aload_n 0, 1) := by decide +kernel
theorem dX5_doDeed_427 : decode cX5_doDeed 427 = .ok (.invokevirtual 87, 3) := by decide +kernel
theorem dX5_doDeed_430 : decode cX5_doDeed 430 = .ok (.ireturn, 1) := by decide +kernel
theorem dX5_doDeed_431 : decode cX5_doDeed 431 = .ok (.aload_n 0, 1) := by decide +kernel
theorem dX5_doDeed_432 : decode cX5_doDeed 432 = .ok (.invokevirtual 90, 3) := by decide +kernel
theorem dX5_doDeed_435 : decode cX5_doDeed 435 = .ok (.ireturn, 1) := by decide +kernel
theorem dX5_doDeed_436 : decode cX5_doDeed 436 = .ok (.aload_n 0, 1) := by decide +kernel
theorem dX5_doDeed_437 : decode cX5_doDeed 437 = .ok (.invokevirtual 93, 3) := by decide +kernel
theorem dX5_doDeed_440 : decode cX5_doDeed 440 = .ok (.ireturn, 1) := by decide +kernel
theorem dX5_doDeed_441 : decode cX5_doDeed 441 = .ok (.aload_n 0, 1) := by decide +kernel
theorem dX5_doDeed_442 : decode cX5_doDeed 442 = .ok (.iconst 1, 1) := by decide +kernel
theorem dX5_doDeed_443 : decode cX5_doDeed 443 = .ok (.invokevirtual 96, 3) := by decide +kernel
theorem dX5_doDeed_446 : decode cX5_doDeed 446 = .ok (.ireturn, 1) := by decide +kernel
theorem dX5_doDeed_447 : decode cX5_doDeed 447 = .ok (.aload_n 0, 1) := by decide +kernel
theorem dX5_doDeed_448 : decode cX5_doDeed 448 = .ok (.invokevirtual 99, 3) := by decide +kernel
theorem dX5_doDeed_451 : decode cX5_doDeed 451 = .ok (.ireturn, 1) := by decide +kernel
theorem dX5_doDeed_452 : decode cX5_doDeed 452 = .ok (.aload_n 0, 1) := by decide +kernel
theorem dX5_doDeed_453 : decode cX5_doDeed 453 = .ok (.invokevirtual 102, 3) := by decide +kernel
theorem dX5_doDeed_456 : decode cX5_doDeed 456 = .ok (.ireturn, 1) := by decide +kernel
theorem dX5_doDeed_457 : decode cX5_doDeed 457 = .ok (.aload_n 0, 1) := by decide +kernel
theorem dX5_doDeed_458 : decode cX5_doDeed 458 = .ok (.invokevirtual 105, 3) := by decide +kernel
theorem dX5_doDeed_461 : decode cX5_doDeed 461 = .ok (.ireturn, 1) := by decide +kernel
theorem dX5_doDeed_462 : decode cX5_doDeed 462 = .ok (.aload_n 0, 1) := by decide +kernel
theorem dX5_doDeed_463 : decode cX5_doDeed 463 = .ok (.bipush 10, 2) := by decide +kernel
theorem dX5_doDeed_465 : decode cX5_doDeed 465 = .ok (.invokevirtual 108, 3) := by decide +kernel
theorem dX5_doDeed_468 : decode cX5_doDeed 468 = .ok (.ireturn, 1) := by decide +kernel
theorem dX5_doDeed_469 : decode cX5_doDeed 469 = .ok (.aload_n 0, 1) := by decide +kernel
theorem dX5_doDeed_470 : decode cX5_doDeed 470 = .ok (.bipush 32, 2) := by decide +kernel
theorem dX5_doDeed_472 : decode cX5_doDeed 472 = .ok (.invokevirtual 108, 3) := by decide +kernel
theorem dX5_doDeed_475 : decode cX5_doDeed 475 = .ok (.ireturn, 1) := by decide +kernel
theorem dX5_doDeed_476 : decode cX5_doDeed 476 = .ok (.aload_n 0, 1) := by decide +kernel
theorem dX5_doDeed_477 : decode cX5_doDeed 477 = .ok (.iload_n 2, 1) := by decide +kernel
theorem dX5_doDeed_478 : decode cX5_doDeed 478 = .ok (.invokevirtual 108, 3) := by decide +kernel
theorem dX5_doDeed_481 : decode cX5_doDeed 481 = .ok (.ireturn, 1) := by decide +kernel
theorem dX5_doDeed_482 : decode cX5_doDeed 482 = .ok (.iconst (-1), 1) := by decide +kernel
theorem dX5_doDeed_483 : decode cX5_doDeed 483 = .ok (.ireturn, 1) := by decide +kernel
theorem dX5_writeCode_0 : decode cX5_writeCode 0 = .ok (.aload_n 0, 1) := by decide +kernel
theorem dX5_writeCode_1 : decode cX5_writeCode 1 = .ok (.getfield 12, 3) := by decide +kernel
theorem dX5_writeCode_4 : decode cX5_writeCode 4 = .ok (.getfield 111, 3) := by decide +kernel
theorem dX5_writeCode_7 : decode cX5_writeCode 7 = .ok (.invokevirtual 115, 3) := by decide +kernel
theorem dX5_writeCode_10 : decode cX5_writeCode 10 = .ok (.iconst 1, 1) := by decide +kernel
theorem dX5_writeCode_11 : decode cX5_writeCode 11 = .ok (.if_icmp .ge 5, 3) := by decide +kernel
theorem dX5_writeCode_14 : decode cX5_writeCode 14 = .ok (.iconst (-1), 1) := by decide +kernel
theorem dX5_writeCode_15 : decode cX5_writeCode 15 = .ok (.ireturn, 1) := by decide +kernel
theorem dX5_writeCode_16 : decode cX5_writeCode 16 = .ok (.aload_n 0, 1) := by decide +kernel
theorem dX5_writeCode_17 : decode cX5_writeCode 17 = .ok (.getfield 12, 3) := by decide +kernel
theorem dX5_writeCode_20 : decode cX5_writeCode 20 = .ok (.iload_n 1, 1) := by decide +kernel
theorem dX5_writeCode_21 : decode cX5_writeCode 21 = .ok (.invokevirtual 120, 3) := by decide +kernel
theorem dX5_writeCode_24 : decode cX5_writeCode 24 = .ok (.aload_n 0, 1) := by decide +kernel
theorem dX5_writeCode_25 : decode cX5_writeCode 25 = .ok (.getfield 28, 3) := by decide +kernel
theorem dX5_writeCode_28 : decode cX5_writeCode 28 = .ok (.dup, 1) := by decide +kernel
theorem dX5_writeCode_29 : decode cX5_writeCode 29 = .ok (.getfield 123, 3) := by decide +kernel
theorem dX5_writeCode_32 : decode cX5_writeCode 32 = .ok (.iconst 1, 1) := by decide +kernel
theorem dX5_writeCode_33 : decode cX5_writeCode 33 = .ok (.iadd, 1) := by decide +kernel
theorem dX5_writeCode_34 : decode cX5_writeCode 34 = .ok (.putfield 123, 3) := by decide +kernel
theorem dX5_writeCode_37 : decode cX5_writeCode 37 = .ok (.aload_n 0, 1) := by decide +kernel
theorem dX5_writeCode_38 : decode cX5_writeCode 38 = .ok (.iconst 0, 1) := by decide +kernel
theorem dX5_writeCode_39 : decode cX5_writeCode 39 = .ok (.putfield 32, 3) := by decide +kernel
theorem dX5_writeCode_42 : decode cX5_writeCode 42 = .ok (.aload_n 0, 1) := by decide +kernel
theorem dX5_writeCode_43 : decode cX5_writeCode 43 = .ok (.getfield 12, 3) := by decide +kernel
theorem dX5_writeCode_46 : decode cX5_writeCode 46 = .ok (.getfield 111, 3) := by decide +kernel
theorem dX5_writeCode_49 : decode cX5_writeCode 49 = .ok (.invokevirtual 126, 3) := by decide +kernel
theorem dX5_writeCode_52 : decode cX5_writeCode 52 = .ok (.ireturn, 1) := by decide +kernel
theorem dX5_rubOut_0 : decode cX5_rubOut 0 = .ok (.aload_n 0, 1) := by decide +kernel
theorem dX5_rubOut_1 : decode cX5_rubOut 1 = .ok (.getfield 12, 3) := by decide +kernel
theorem dX5_rubOut_4 : decode cX5_rubOut 4 = .ok (.getfield 111, 3) := by decide +kernel
theorem dX5_rubOut_7 : decode cX5_rubOut 7 = .ok (.aload_n 0, 1) := by decide +kernel
theorem dX5_rubOut_8 : decode cX5_rubOut 8 = .ok (.getfield 12, 3) := by decide +kernel
theorem dX5_rubOut_11 : decode cX5_rubOut 11 = .ok (.getfield 49, 3) := by decide +kernel
theorem dX5_rubOut_14 : decode cX5_rubOut 14 = .ok (.iconst 1, 1) := by decide +kernel
theorem dX5_rubOut_15 : decode cX5_rubOut 15 = .ok (.isub, 1) := by decide +kernel
theorem dX5_rubOut_16 : decode cX5_rubOut 16 = .ok (.invokevirtual 129, 3) := by decide +kernel
theorem dX5_rubOut_19 : decode cX5_rubOut 19 = .ok (.istore_n 1, 1) := by decide +kernel
theorem dX5_rubOut_20 : decode cX5_rubOut 20 = .ok (.iload_n 1, 1) := by decide +kernel
theorem dX5_rubOut_21 : decode cX5_rubOut 21 = .ok (.iconst (-1), 1) := by decide +kernel
theorem dX5_rubOut_22 : decode cX5_rubOut 22 = .ok (.if_icmp .ne 5, 3) := by decide +kernel
theorem dX5_rubOut_25 : decode cX5_rubOut 25 = .ok (.iconst (-1), 1) := by decide +kernel
theorem dX5_rubOut_26 : decode cX5_rubOut 26 = .ok (.ireturn, 1) := by decide +kernel
theorem dX5_rubOut_27 : decode cX5_rubOut 27 = .ok (.aload_n 0, 1) := by decide +kernel
theorem dX5_rubOut_28 : decode cX5_rubOut 28 = .ok (.getfield 12, 3) := by decide +kernel
theorem dX5_rubOut_31 : decode cX5_rubOut 31 = .ok (.aload_n 0, 1) := by decide +kernel
theorem dX5_rubOut_32 : decode cX5_rubOut 32 = .ok (.getfield 12, 3) := by decide +kernel
theorem dX5_rubOut_35 : decode cX5_rubOut 35 = .ok (.getfield 49, 3) := by decide +kernel
theorem dX5_rubOut_38 : decode cX5_rubOut 38 = .ok (.iconst 1, 1) := by decide +kernel
theorem dX5_rubOut_39 : decode cX5_rubOut 39 = .ok (.isub, 1) := by decide +kernel
theorem dX5_rubOut_40 : decode cX5_rubOut 40 = .ok (.aload_n 0, 1) := by decide +kernel
theorem dX5_rubOut_41 : decode cX5_rubOut 41 = .ok (.getfield 12, 3) := by decide +kernel
theorem dX5_rubOut_44 : decode cX5_rubOut 44 = .ok (.getfield 49, 3) := by decide +kernel
theorem dX5_rubOut_47 : decode cX5_rubOut 47 = .ok (.invokevirtual 132, 3) := by decide +kernel
theorem dX5_rubOut_50 : decode cX5_rubOut 50 = .ok (.aload_n 0, 1) := by decide +kernel
theorem dX5_rubOut_51 : decode cX5_rubOut 51 = .ok (.getfield 28, 3) := by decide +kernel
theorem dX5_rubOut_54 : decode cX5_rubOut 54 = .ok (.dup, 1) := by decide +kernel
theorem dX5_rubOut_55 : decode cX5_rubOut 55 = .ok (.getfield 136, 3) := by decide +kernel
theorem dX5_rubOut_58 : decode cX5_rubOut 58 = .ok (.iconst 1, 1) := by decide +kernel
theorem dX5_rubOut_59 : decode cX5_rubOut 59 = .ok (.iadd, 1) := by decide +kernel
theorem dX5_rubOut_60 : decode cX5_rubOut 60 = .ok (.putfield 136, 3) := by decide +kernel
theorem dX5_rubOut_63 : decode cX5_rubOut 63 = .ok (.aload_n 0, 1) := by decide +kernel
theorem dX5_rubOut_64 : decode cX5_rubOut 64 = .ok (.iconst 0, 1) := by decide +kernel
theorem dX5_rubOut_65 : decode cX5_rubOut 65 = .ok (.putfield 32, 3) := by decide +kernel
theorem dX5_rubOut_68 : decode cX5_rubOut 68 = .ok (.iload_n 1, 1) := by decide +kernel
theorem dX5_rubOut_69 : decode cX5_rubOut 69 = .ok (.ireturn, 1) := by decide +kernel
theorem dX5_swapBoth_0 : decode cX5_swapBoth 0 = .ok (.aload_n 0, 1) := by decide +kernel
theorem dX5_swapBoth_1 : decode cX5_swapBoth 1 = .ok (.getfield 12, 3) := by decide +kernel
theorem dX5_swapBoth_4 : decode cX5_swapBoth 4 = .ok (.getfield 111, 3) := by decide +kernel
theorem dX5_swapBoth_7 : decode cX5_swapBoth 7 = .ok (.aload_n 0, 1) := by decide +kernel
theorem dX5_swapBoth_8 : decode cX5_swapBoth 8 = .ok (.getfield 12, 3) := by decide +kernel
theorem dX5_swapBoth_11 : decode cX5_swapBoth 11 = .ok (.getfield 49, 3) := by decide +kernel
theorem dX5_swapBoth_14 : decode cX5_swapBoth 14 = .ok (.iconst 1, 1) := by decide +kernel
theorem dX5_swapBoth_15 : decode cX5_swapBoth 15 = .ok (.isub, 1) := by decide +kernel
theorem dX5_swapBoth_16 : decode cX5_swapBoth 16 = .ok (.invokevirtual 129, 3) := by decide +kernel
theorem dX5_swapBoth_19 : decode cX5_swapBoth 19 = .ok (.istore_n 1, 1) := by decide +kernel
theorem dX5_swapBoth_20 : decode cX5_swapBoth 20 = .ok (.aload_n 0, 1) := by decide +kernel
theorem dX5_swapBoth_21 : decode cX5_swapBoth 21 = .ok (.getfield 12, 3) := by decide +kernel
theorem dX5_swapBoth_24 : decode cX5_swapBoth 24 = .ok (.getfield 111, 3) := by decide +kernel
theorem dX5_swapBoth_27 : decode cX5_swapBoth 27 = .ok (.aload_n 0, 1) := by decide +kernel
theorem dX5_swapBoth_28 : decode cX5_swapBoth 28 = .ok (.getfield 12, 3) := by decide +kernel
theorem dX5_swapBoth_31 : decode cX5_swapBoth 31 = .ok (.getfield 49, 3) := by decide +kernel
theorem dX5_swapBoth_34 : decode cX5_swapBoth 34 = .ok (.invokevirtual 129, 3) := by decide +kernel
theorem dX5_swapBoth_37 : decode cX5_swapBoth 37 = .ok (.istore_n 2, 1) := by decide +kernel
theorem dX5_swapBoth_38 : decode cX5_swapBoth 38 = .ok (.iload_n 1, 1) := by decide +kernel
theorem dX5_swapBoth_39 : decode cX5_swapBoth 39 = .ok (.iconst (-1), 1) := by decide +kernel
theorem dX5_swapBoth_40 : decode cX5_swapBoth 40 = .ok (.if_icmp .eq 8, 3) := by decide +kernel
theorem dX5_swapBoth_43 : decode cX5_swapBoth 43 = .ok (.iload_n 2, 1) := by decide +kernel
theorem dX5_swapBoth_44 : decode cX5_swapBoth 44 = .ok (.iconst (-1), 1) := by decide +kernel
theorem dX5_swapBoth_45 : decode cX5_swapBoth 45 = .ok (.if_icmp .ne 5, 3) := by decide +kernel
theorem dX5_swapBoth_48 : decode cX5_swapBoth 48 = .ok (.iconst (-1), 1) := by decide +kernel
theorem dX5_swapBoth_49 : decode cX5_swapBoth 49 = .ok (.ireturn, 1) := by decide +kernel
theorem dX5_swapBoth_50 : decode cX5_swapBoth 50 = .ok (.aload_n 0, 1) := by decide +kernel
theorem dX5_swapBoth_51 : decode cX5_swapBoth 51 = .ok (.getfield 12, 3) := by decide +kernel
theorem dX5_swapBoth_54 : decode cX5_swapBoth 54 = .ok (.getfield 111, 3) := by decide +kernel
theorem dX5_swapBoth_57 : decode cX5_swapBoth 57 = .ok (.aload_n 0, 1) := by decide +kernel
theorem dX5_swapBoth_58 : decode cX5_swapBoth 58 = .ok (.getfield 12, 3) := by decide +kernel
theorem dX5_swapBoth_61 : decode cX5_swapBoth 61 = .ok (.getfield 49, 3) := by decide +kernel
theorem dX5_swapBoth_64 : decode cX5_swapBoth 64 = .ok (.iconst 1, 1) := by decide +kernel
theorem dX5_swapBoth_65 : decode cX5_swapBoth 65 = .ok (.isub, 1) := by decide +kernel
theorem dX5_swapBoth_66 : decode cX5_swapBoth 66 = .ok (.iload_n 2, 1) := by decide +kernel
theorem dX5_swapBoth_67 : decode cX5_swapBoth 67 = .ok (.invokevirtual 139, 3) := by decide +kernel
theorem dX5_swapBoth_70 : decode cX5_swapBoth 70 = .ok (.aload_n 0, 1) := by decide +kernel
theorem dX5_swapBoth_71 : decode cX5_swapBoth 71 = .ok (.getfield 12, 3) := by decide +kernel
theorem dX5_swapBoth_74 : decode cX5_swapBoth 74 = .ok (.getfield 111, 3) := by decide +kernel
theorem dX5_swapBoth_77 : decode cX5_swapBoth 77 = .ok (.aload_n 0, 1) := by decide +kernel
theorem dX5_swapBoth_78 : decode cX5_swapBoth 78 = .ok (.getfield 12, 3) := by decide +kernel
theorem dX5_swapBoth_81 : decode cX5_swapBoth 81 = .ok (.getfield 49, 3) := by decide +kernel
theorem dX5_swapBoth_84 : decode cX5_swapBoth 84 = .ok (.iload_n 1, 1) := by decide +kernel
theorem dX5_swapBoth_85 : decode cX5_swapBoth 85 = .ok (.invokevirtual 139, 3) := by decide +kernel
theorem dX5_swapBoth_88 : decode cX5_swapBoth 88 = .ok (.aload_n 0, 1) := by decide +kernel
theorem dX5_swapBoth_89 : decode cX5_swapBoth 89 = .ok (.getfield 12, 3) := by decide +kernel
theorem dX5_swapBoth_92 : decode cX5_swapBoth 92 = .ok (.dup, 1) := by decide +kernel
theorem dX5_swapBoth_93 : decode cX5_swapBoth 93 = .ok (.getfield 49, 3) := by decide +kernel
theorem dX5_swapBoth_96 : decode cX5_swapBoth 96 = .ok (.iconst 1, 1) := by decide +kernel
theorem dX5_swapBoth_97 : decode cX5_swapBoth 97 = .ok (.iadd, 1) := by decide +kernel
theorem dX5_swapBoth_98 : decode cX5_swapBoth 98 = .ok (.putfield 49, 3) := by decide +kernel
theorem dX5_swapBoth_101 : decode cX5_swapBoth 101 = .ok (.aload_n 0, 1) := by decide +kernel
theorem dX5_swapBoth_102 : decode cX5_swapBoth 102 = .ok (.iconst 0, 1) := by decide +kernel
theorem dX5_swapBoth_103 : decode cX5_swapBoth 103 = .ok (.putfield 32, 3) := by decide +kernel
theorem dX5_swapBoth_106 : decode cX5_swapBoth 106 = .ok (.iload_n 1, 1) := by decide +kernel
theorem dX5_swapBoth_107 : decode cX5_swapBoth 107 = .ok (.ireturn, 1) := by decide +kernel
theorem dX5_makeGreat_0 : decode cX5_makeGreat 0 = .ok (.aload_n 0, 1) := by decide +kernel
theorem dX5_makeGreat_1 : decode cX5_makeGreat 1 = .ok (.getfield 12, 3) := by decide +kernel
theorem dX5_makeGreat_4 : decode cX5_makeGreat 4 = .ok (.aload_n 0, 1) := by decide +kernel
theorem dX5_makeGreat_5 : decode cX5_makeGreat 5 = .ok (.getfield 12, 3) := by decide +kernel
theorem dX5_makeGreat_8 : decode cX5_makeGreat 8 = .ok (.getfield 49, 3) := by decide +kernel
theorem dX5_makeGreat_11 : decode cX5_makeGreat 11 = .ok (.invokevirtual 142, 3) := by decide +kernel
theorem dX5_makeGreat_14 : decode cX5_makeGreat 14 = .ok (.istore_n 1, 1) := by decide +kernel
theorem dX5_makeGreat_15 : decode cX5_makeGreat 15 = .ok (.iconst 0, 1) := by decide +kernel
theorem dX5_makeGreat_16 : decode cX5_makeGreat 16 = .ok (.istore_n 2, 1) := by decide +kernel
theorem dX5_makeGreat_17 : decode cX5_makeGreat 17 = .ok (.aload_n 0, 1) := by decide +kernel
theorem dX5_makeGreat_18 : decode cX5_makeGreat 18 = .ok (.getfield 12, 3) := by decide +kernel
theorem dX5_makeGreat_21 : decode cX5_makeGreat 21 = .ok (.getfield 49, 3) := by decide +kernel
theorem dX5_makeGreat_24 : decode cX5_makeGreat 24 = .ok (.istore_n 3, 1) := by decide +kernel
theorem dX5_makeGreat_25 : decode cX5_makeGreat 25 = .ok (.iload_n 3, 1) := by decide +kernel
theorem dX5_makeGreat_26 : decode cX5_makeGreat 26 = .ok (.iload_n 1, 1) := by decide +kernel
theorem dX5_makeGreat_27 : decode cX5_makeGreat 27 = .ok (.if_icmp .ge 48, 3) := by decide +kernel
theorem dX5_makeGreat_30 : decode cX5_makeGreat 30 = .ok (.aload_n 0, 1) := by decide +kernel
theorem dX5_makeGreat_31 : decode cX5_makeGreat 31 = .ok (.getfield 12, 3) := by decide +kernel
theorem dX5_makeGreat_34 : decode cX5_makeGreat 34 = .ok (.iload_n 3, 1) := by decide +kernel
theorem dX5_makeGreat_35 : decode cX5_makeGreat 35 = .ok (.invokevirtual 145, 3) := by decide +kernel
theorem dX5_makeGreat_38 : decode cX5_makeGreat 38 = .ok (.ifCond .eq 31, 3) := by decide +kernel
theorem dX5_makeGreat_41 : decode cX5_makeGreat 41 = .ok (.aload_n 0, 1) := by decide +kernel
theorem dX5_makeGreat_42 : decode cX5_makeGreat 42 = .ok (.getfield 12, 3) := by decide +kernel
theorem dX5_makeGreat_45 : decode cX5_makeGreat 45 = .ok (.getfield 111, 3) := by decide +kernel
theorem dX5_makeGreat_48 : decode cX5_makeGreat 48 = .ok (.iload_n 3, 1) := by decide +kernel
theorem dX5_makeGreat_49 : decode cX5_makeGreat 49 = .ok (.aload_n 0, 1) := by decide +kernel
theorem dX5_makeGreat_50 : decode cX5_makeGreat 50 = .ok (.getfield 12, 3) := by decide +kernel
theorem dX5_makeGreat_53 : decode cX5_makeGreat 53 = .ok (.getfield 111, 3) := by decide +kernel
theorem dX5_makeGreat_56 : decode cX5_makeGreat 56 = .ok (.iload_n 3, 1) := by decide +kernel
theorem dX5_makeGreat_57 : decode cX5_makeGreat 57 = .ok (.invokevirtual 129, 3) := by decide +kernel
theorem dX5_makeGreat_60 : decode cX5_makeGreat 60 = .ok (.bipush (-32), 2) := by decide +kernel
theorem dX5_makeGreat_62 : decode cX5_makeGreat 62 = .ok (.iadd, 1) := by decide +kernel
theorem dX5_makeGreat_63 : decode cX5_makeGreat 63 = .ok (.invokevirtual 139, 3) := by decide +kernel
theorem dX5_makeGreat_66 : decode cX5_makeGreat 66 = .ok (.iinc 2 1, 3) := by decide +kernel
theorem dX5_makeGreat_69 : decode cX5_makeGreat 69 = .ok (.iinc 3 1, 3) := by decide +kernel
theorem dX5_makeGreat_72 : decode cX5_makeGreat 72 = .ok (.goto (-47), 3) := by decide +kernel
theorem dX5_makeGreat_75 : decode cX5_makeGreat 75 = .ok (.aload_n 0, 1) := by decide +kernel
theorem dX5_makeGreat_76 : decode cX5_makeGreat 76 = .ok (.getfield 12, 3) := by decide +kernel
theorem dX5_makeGreat_79 : decode cX5_makeGreat 79 = .ok (.iload_n 1, 1) := by decide +kernel
theorem dX5_makeGreat_80 : decode cX5_makeGreat 80 = .ok (.putfield 49, 3) := by decide +kernel
theorem dX5_makeGreat_83 : decode cX5_makeGreat 83 = .ok (.aload_n 0, 1) := by decide +kernel
theorem dX5_makeGreat_84 : decode cX5_makeGreat 84 = .ok (.iconst 0, 1) := by decide +kernel
theorem dX5_makeGreat_85 : decode cX5_makeGreat 85 = .ok (.putfield 32, 3) := by decide +kernel
theorem dX5_makeGreat_88 : decode cX5_makeGreat 88 = .ok (.iload_n 2, 1) := by decide +kernel
theorem dX5_makeGreat_89 : decode cX5_makeGreat 89 = .ok (.ireturn, 1) := by decide +kernel
theorem dX5_goPlace_0 : decode cX5_goPlace 0 = .ok (.iload_n 1, 1) := by decide +kernel
theorem dX5_goPlace_1 : decode cX5_goPlace 1 = .ok (.ifCond .lt 17, 3) := by decide +kernel
theorem dX5_goPlace_4 : decode cX5_goPlace 4 = .ok (.iload_n 1, 1) := by decide +kernel
theorem dX5_goPlace_5 : decode cX5_goPlace 5 = .ok (.aload_n 0, 1) := by decide +kernel
theorem dX5_goPlace_6 : decode cX5_goPlace 6 = .ok (.getfield 12, 3) := by decide +kernel
theorem dX5_goPlace_9 : decode cX5_goPlace 9 = .ok (.getfield 111, 3) := by decide +kernel
theorem dX5_goPlace_12 : decode cX5_goPlace 12 = .ok (.invokevirtual 126, 3) := by decide +kernel
theorem dX5_goPlace_15 : decode cX5_goPlace 15 = .ok (.if_icmp .le 5, 3) := by decide +kernel
theorem dX5_goPlace_18 : decode cX5_goPlace 18 = .ok (.iconst (-1), 1) := by decide +kernel
theorem dX5_goPlace_19 : decode cX5_goPlace 19 = .ok (.ireturn, 1) := by decide +kernel
theorem dX5_goPlace_20 : decode cX5_goPlace 20 = .ok (.aload_n 0, 1) := by decide +kernel
theorem dX5_goPlace_21 : decode cX5_goPlace 21 = .ok (.getfield 12, 3) := by decide +kernel
theorem dX5_goPlace_24 : decode cX5_goPlace 24 = .ok (.getfield 49, 3) := by decide +kernel
theorem dX5_goPlace_27 : decode cX5_goPlace 27 = .ok (.istore_n 2, 1) := by decide +kernel
theorem dX5_goPlace_28 : decode cX5_goPlace 28 = .ok (.aload_n 0, 1) := by decide +kernel
theorem dX5_goPlace_29 : decode cX5_goPlace 29 = .ok (.getfield 12, 3) := by decide +kernel
theorem dX5_goPlace_32 : decode cX5_goPlace 32 = .ok (.iload_n 1, 1) := by decide +kernel
theorem dX5_goPlace_33 : decode cX5_goPlace 33 = .ok (.putfield 49, 3) := by decide +kernel
theorem dX5_goPlace_36 : decode cX5_goPlace 36 = .ok (.aload_n 0, 1) := by decide +kernel
theorem dX5_goPlace_37 : decode cX5_goPlace 37 = .ok (.iconst 0, 1) := by decide +kernel
theorem dX5_goPlace_38 : decode cX5_goPlace 38 = .ok (.putfield 32, 3) := by decide +kernel
theorem dX5_goPlace_41 : decode cX5_goPlace 41 = .ok (.iload_n 2, 1) := by decide +kernel
theorem dX5_goPlace_42 : decode cX5_goPlace 42 = .ok (.ireturn, 1) := by decide +kernel
theorem dX5_goAsFarAs_0 : decode cX5_goAsFarAs 0 = .ok (.iload_n 1, 1) := by decide +kernel
theorem dX5_goAsFarAs_1 : decode cX5_goAsFarAs 1 = .ok (.aload_n 0, 1) := by decide +kernel
theorem dX5_goAsFarAs_2 : decode cX5_goAsFarAs 2 = .ok (.iload_n 1, 1) := by decide +kernel
theorem dX5_goAsFarAs_3 : decode cX5_goAsFarAs 3 = .ok (.invokevirtual 52, 3) := by decide +kernel
theorem dX5_goAsFarAs_6 : decode cX5_goAsFarAs 6 = .ok (.isub, 1) := by decide +kernel
theorem dX5_goAsFarAs_7 : decode cX5_goAsFarAs 7 = .ok (.invokestatic 149, 3) := by decide +kernel
theorem dX5_goAsFarAs_10 : decode cX5_goAsFarAs 10 = .ok (.ireturn, 1) := by decide +kernel
theorem dX5_goWordOn_0 : decode cX5_goWordOn 0 = .ok (.aload_n 0, 1) := by decide +kernel
theorem dX5_goWordOn_1 : decode cX5_goWordOn 1 = .ok (.aload_n 0, 1) := by decide +kernel
theorem dX5_goWordOn_2 : decode cX5_goWordOn 2 = .ok (.getfield 12, 3) := by decide +kernel
theorem dX5_goWordOn_5 : decode cX5_goWordOn 5 = .ok (.aload_n 0, 1) := by decide +kernel
theorem dX5_goWordOn_6 : decode cX5_goWordOn 6 = .ok (.getfield 12, 3) := by decide +kernel
theorem dX5_goWordOn_9 : decode cX5_goWordOn 9 = .ok (.getfield 49, 3) := by decide +kernel
theorem dX5_goWordOn_12 : decode cX5_goWordOn 12 = .ok (.invokevirtual 142, 3) := by decide +kernel
theorem dX5_goWordOn_15 : decode cX5_goWordOn 15 = .ok (.invokevirtual 154, 3) := by decide +kernel
theorem dX5_goWordOn_18 : decode cX5_goWordOn 18 = .ok (.ireturn, 1) := by decide +kernel
theorem dX5_goWordBack_0 : decode cX5_goWordBack 0 = .ok (.aload_n 0, 1) := by decide +kernel
theorem dX5_goWordBack_1 : decode cX5_goWordBack 1 = .ok (.aload_n 0, 1) := by decide +kernel
theorem dX5_goWordBack_2 : decode cX5_goWordBack 2 = .ok (.getfield 12, 3) := by decide +kernel
theorem dX5_goWordBack_5 : decode cX5_goWordBack 5 = .ok (.aload_n 0, 1) := by decide +kernel
theorem dX5_goWordBack_6 : decode cX5_goWordBack 6 = .ok (.getfield 12, 3) := by decide +kernel
theorem dX5_goWordBack_9 : decode cX5_goWordBack 9 = .ok (.getfield 49, 3) := by decide +kernel
theorem dX5_goWordBack_12 : decode cX5_goWordBack 12 = .ok (.invokevirtual 157, 3) := by decide +kernel
theorem dX5_goWordBack_15 : decode cX5_goWordBack 15 = .ok (.invokevirtual 154, 3) := by decide +kernel
theorem dX5_goWordBack_18 : decode cX5_goWordBack 18 = .ok (.ireturn, 1) := by decide +kernel
theorem dX5_goLineStart_0 : decode cX5_goLineStart 0 = .ok (.aload_n 0, 1) := by decide +kernel
theorem dX5_goLineStart_1 : decode cX5_goLineStart 1 = .ok (.aload_n 0, 1) := by decide +kernel
theorem dX5_goLineStart_2 : decode cX5_goLineStart 2 = .ok (.getfield 12, 3) := by decide +kernel
theorem dX5_goLineStart_5 : decode cX5_goLineStart 5 = .ok (.aload_n 0, 1) := by decide +kernel
theorem dX5_goLineStart_6 : decode cX5_goLineStart 6 = .ok (.getfield 12, 3) := by decide +kernel
theorem dX5_goLineStart_9 : decode cX5_goLineStart 9 = .ok (.getfield 49, 3) := by decide +kernel
theorem dX5_goLineStart_12 : decode cX5_goLineStart 12 = .ok (.invokevirtual 160, 3) := by decide +kernel
theorem dX5_goLineStart_15 : decode cX5_goLineStart 15 = .ok (.invokevirtual 154, 3) := by decide +kernel
theorem dX5_goLineStart_18 : decode cX5_goLineStart 18 = .ok (.ireturn, 1) := by decide +kernel
theorem dX5_goLineStop_0 : decode cX5_goLineStop 0 = .ok (.aload_n 0, 1) := by decide +kernel
theorem dX5_goLineStop_1 : decode cX5_goLineStop 1 = .ok (.aload_n 0, 1) := by decide +kernel
theorem dX5_goLineStop_2 : decode cX5_goLineStop 2 = .ok (.getfield 12, 3) := by decide +kernel
theorem dX5_goLineStop_5 : decode cX5_goLineStop 5 = .ok (.aload_n 0, 1) := by decide +kernel
theorem dX5_goLineStop_6 : decode cX5_goLineStop 6 = .ok (.getfield 12, 3) := by decide +kernel
theorem dX5_goLineStop_9 : decode cX5_goLineStop 9 = .ok (.getfield 49, 3) := by decide +kernel
theorem dX5_goLineStop_12 : decode cX5_goLineStop 12 = .ok (.invokevirtual 163, 3) := by decide +kernel
theorem dX5_goLineStop_15 : decode cX5_goLineStop 15 = .ok (.invokevirtual 154, 3) := by decide +kernel
theorem dX5_goLineStop_18 : decode cX5_goLineStop 18 = .ok (.ireturn, 1) := by decide +kernel
theorem dX5_goUpOrDown_0 : decode cX5_goUpOrDown 0 = .ok (.aload_n 0, 1) := by decide +kernel
theorem dX5_goUpOrDown_1 : decode cX5_goUpOrDown 1 = .ok (.getfield 12, 3) := by decide +kernel
theorem dX5_goUpOrDown_4 : decode cX5_goUpOrDown 4 = .ok (.aload_n 0, 1) := by decide +kernel
theorem dX5_goUpOrDown_5 : decode cX5_goUpOrDown 5 = .ok (.getfield 12, 3) := by decide +kernel
theorem dX5_goUpOrDown_8 : decode cX5_goUpOrDown 8 = .ok (.getfield 49, 3) := by decide +kernel
theorem dX5_goUpOrDown_11 : decode cX5_goUpOrDown 11 = .ok (.iload_n 1, 1) := by decide +kernel
theorem dX5_goUpOrDown_12 : decode cX5_goUpOrDown 12 = .ok (.invokevirtual 166, 3) := by decide +kernel
theorem dX5_goUpOrDown_15 : decode cX5_goUpOrDown 15 = .ok (.istore_n 2, 1) := by decide +kernel
theorem dX5_goUpOrDown_16 : decode cX5_goUpOrDown 16 = .ok (.iload_n 2, 1) := by decide +kernel
theorem dX5_goUpOrDown_17 : decode cX5_goUpOrDown 17 = .ok (.iconst (-1), 1) := by decide +kernel
theorem dX5_goUpOrDown_18 : decode cX5_goUpOrDown 18 = .ok (.if_icmp .ne 5, 3) := by decide +kernel
theorem dX5_goUpOrDown_21 : decode cX5_goUpOrDown 21 = .ok (.iconst (-1), 1) := by decide +kernel
theorem dX5_goUpOrDown_22 : decode cX5_goUpOrDown 22 = .ok (.ireturn, 1) := by decide +kernel
theorem dX5_goUpOrDown_23 : decode cX5_goUpOrDown 23 = .ok (.aload_n 0, 1) := by decide +kernel
theorem dX5_goUpOrDown_24 : decode cX5_goUpOrDown 24 = .ok (.getfield 12, 3) := by decide +kernel
theorem dX5_goUpOrDown_27 : decode cX5_goUpOrDown 27 = .ok (.getfield 49, 3) := by decide +kernel
theorem dX5_goUpOrDown_30 : decode cX5_goUpOrDown 30 = .ok (.aload_n 0, 1) := by decide +kernel
theorem dX5_goUpOrDown_31 : decode cX5_goUpOrDown 31 = .ok (.getfield 12, 3) := by decide +kernel
theorem dX5_goUpOrDown_34 : decode cX5_goUpOrDown 34 = .ok (.aload_n 0, 1) := by decide +kernel
theorem dX5_goUpOrDown_35 : decode cX5_goUpOrDown 35 = .ok (.getfield 12, 3) := by decide +kernel
theorem dX5_goUpOrDown_38 : decode cX5_goUpOrDown 38 = .ok (.getfield 49, 3) := by decide +kernel
theorem dX5_goUpOrDown_41 : decode cX5_goUpOrDown 41 = .ok (.invokevirtual 160, 3) := by decide +kernel
theorem dX5_goUpOrDown_44 : decode cX5_goUpOrDown 44 = .ok (.isub, 1) := by decide +kernel
theorem dX5_goUpOrDown_45 : decode cX5_goUpOrDown 45 = .ok (.istore_n 3, 1) := by decide +kernel
theorem dX5_goUpOrDown_46 : decode cX5_goUpOrDown 46 = .ok (.aload_n 0, 1) := by decide +kernel
theorem dX5_goUpOrDown_47 : decode cX5_goUpOrDown 47 = .ok (.iload_n 2, 1) := by decide +kernel
theorem dX5_goUpOrDown_48 : decode cX5_goUpOrDown 48 = .ok (.iload_n 3, 1) := by decide +kernel
theorem dX5_goUpOrDown_49 : decode cX5_goUpOrDown 49 = .ok (.iadd, 1) := by decide +kernel
theorem dX5_goUpOrDown_50 : decode cX5_goUpOrDown 50 = .ok (.aload_n 0, 1) := by decide +kernel
theorem dX5_goUpOrDown_51 : decode cX5_goUpOrDown 51 = .ok (.getfield 12, 3) := by decide +kernel
theorem dX5_goUpOrDown_54 : decode cX5_goUpOrDown 54 = .ok (.iload_n 2, 1) := by decide +kernel
theorem dX5_goUpOrDown_55 : decode cX5_goUpOrDown 55 = .ok (.invokevirtual 163, 3) := by decide +kernel
theorem dX5_goUpOrDown_58 : decode cX5_goUpOrDown 58 = .ok (.invokestatic 170, 3) := by decide +kernel
theorem dX5_goUpOrDown_61 : decode cX5_goUpOrDown 61 = .ok (.invokevirtual 52, 3) := by decide +kernel
theorem dX5_goUpOrDown_64 : decode cX5_goUpOrDown 64 = .ok (.pop, 1) := by decide +kernel
theorem dX5_goUpOrDown_65 : decode cX5_goUpOrDown 65 = .ok (.aload_n 0, 1) := by decide +kernel
theorem dX5_goUpOrDown_66 : decode cX5_goUpOrDown 66 = .ok (.getfield 12, 3) := by decide +kernel
theorem dX5_goUpOrDown_69 : decode cX5_goUpOrDown 69 = .ok (.getfield 49, 3) := by decide +kernel
theorem dX5_goUpOrDown_72 : decode cX5_goUpOrDown 72 = .ok (.ireturn, 1) := by decide +kernel
theorem dX5_setMark_0 : decode cX5_setMark 0 = .ok (.aload_n 0, 1) := by decide +kernel
theorem dX5_setMark_1 : decode cX5_setMark 1 = .ok (.getfield 12, 3) := by decide +kernel
theorem dX5_setMark_4 : decode cX5_setMark 4 = .ok (.aload_n 0, 1) := by decide +kernel
theorem dX5_setMark_5 : decode cX5_setMark 5 = .ok (.getfield 12, 3) := by decide +kernel
theorem dX5_setMark_8 : decode cX5_setMark 8 = .ok (.getfield 49, 3) := by decide +kernel
theorem dX5_setMark_11 : decode cX5_setMark 11 = .ok (.putfield 173, 3) := by decide +kernel
theorem dX5_setMark_14 : decode cX5_setMark 14 = .ok (.aload_n 0, 1) := by decide +kernel
theorem dX5_setMark_15 : decode cX5_setMark 15 = .ok (.iconst 0, 1) := by decide +kernel
theorem dX5_setMark_16 : decode cX5_setMark 16 = .ok (.putfield 32, 3) := by decide +kernel
theorem dX5_setMark_19 : decode cX5_setMark 19 = .ok (.aload_n 0, 1) := by decide +kernel
theorem dX5_setMark_20 : decode cX5_setMark 20 = .ok (.getfield 12, 3) := by decide +kernel
theorem dX5_setMark_23 : decode cX5_setMark 23 = .ok (.getfield 173, 3) := by decide +kernel
theorem dX5_setMark_26 : decode cX5_setMark 26 = .ok (.ireturn, 1) := by decide +kernel
theorem dX5_exchangeBoth_0 : decode cX5_exchangeBoth 0 = .ok (.aload_n 0, 1) := by decide +kernel
theorem dX5_exchangeBoth_1 : decode cX5_exchangeBoth 1 = .ok (.getfield 12, 3) := by decide +kernel
theorem dX5_exchangeBoth_4 : decode cX5_exchangeBoth 4 = .ok (.getfield 173, 3) := by decide +kernel
theorem dX5_exchangeBoth_7 : decode cX5_exchangeBoth 7 = .ok (.iconst (-1), 1) := by decide +kernel
theorem dX5_exchangeBoth_8 : decode cX5_exchangeBoth 8 = .ok (.if_icmp .ne 5, 3) := by decide +kernel
theorem dX5_exchangeBoth_11 : decode cX5_exchangeBoth 11 = .ok (.iconst (-1), 1) := by decide +kernel
theorem dX5_exchangeBoth_12 : decode cX5_exchangeBoth 12 = .ok (.ireturn, 1) := by decide +kernel
theorem dX5_exchangeBoth_13 : decode cX5_exchangeBoth 13 = .ok (.aload_n 0, 1) := by decide +kernel
theorem dX5_exchangeBoth_14 : decode cX5_exchangeBoth 14 = .ok (.getfield 12, 3) := by decide +kernel
theorem dX5_exchangeBoth_17 : decode cX5_exchangeBoth 17 = .ok (.getfield 173, 3) := by decide +kernel
theorem dX5_exchangeBoth_20 : decode cX5_exchangeBoth 20 = .ok (.istore_n 1, 1) := by decide +kernel
theorem dX5_exchangeBoth_21 : decode cX5_exchangeBoth 21 = .ok (.aload_n 0, 1) := by decide +kernel
theorem dX5_exchangeBoth_22 : decode cX5_exchangeBoth 22 = .ok (.getfield 12, 3) := by decide +kernel
theorem dX5_exchangeBoth_25 : decode cX5_exchangeBoth 25 = .ok (.aload_n 0, 1) := by decide +kernel
theorem dX5_exchangeBoth_26 : decode cX5_exchangeBoth 26 = .ok (.getfield 12, 3) := by decide +kernel
theorem dX5_exchangeBoth_29 : decode cX5_exchangeBoth 29 = .ok (.getfield 49, 3) := by decide +kernel
theorem dX5_exchangeBoth_32 : decode cX5_exchangeBoth 32 = .ok (.putfield 173, 3) := by decide +kernel
theorem dX5_exchangeBoth_35 : decode cX5_exchangeBoth 35 = .ok (.aload_n 0, 1) := by decide +kernel
theorem dX5_exchangeBoth_36 : decode cX5_exchangeBoth 36 = .ok (.getfield 12, 3) := by decide +kernel
theorem dX5_exchangeBoth_39 : decode cX5_exchangeBoth 39 = .ok (.iload_n 1, 1) := by decide +kernel
theorem dX5_exchangeBoth_40 : decode cX5_exchangeBoth 40 = .ok (.putfield 49, 3) := by decide +kernel
theorem dX5_exchangeBoth_43 : decode cX5_exchangeBoth 43 = .ok (.aload_n 0, 1) := by decide +kernel
theorem dX5_exchangeBoth_44 : decode cX5_exchangeBoth 44 = .ok (.iconst 0, 1) := by decide +kernel
theorem dX5_exchangeBoth_45 : decode cX5_exchangeBoth 45 = .ok (.putfield 32, 3) := by decide +kernel
theorem dX5_exchangeBoth_48 : decode cX5_exchangeBoth 48 = .ok (.iload_n 1, 1) := by decide +kernel
theorem dX5_exchangeBoth_49 : decode cX5_exchangeBoth 49 = .ok (.ireturn, 1) := by decide +kernel
theorem dX5_goToText_0 : decode cX5_goToText 0 = .ok (.aload_n 0, 1) := by decide +kernel
theorem dX5_goToText_1 : decode cX5_goToText 1 = .ok (.getfield 12, 3) := by decide +kernel
theorem dX5_goToText_4 : decode cX5_goToText 4 = .ok (.aload_n 1, 1) := by decide +kernel
theorem dX5_goToText_5 : decode cX5_goToText 5 = .ok (.invokevirtual 176, 3) := by decide +kernel
theorem dX5_goToText_8 : decode cX5_goToText 8 = .ok (.istore_n 2, 1) := by decide +kernel
theorem dX5_goToText_9 : decode cX5_goToText 9 = .ok (.iload_n 2, 1) := by decide +kernel
theorem dX5_goToText_10 : decode cX5_goToText 10 = .ok (.iconst (-1), 1) := by decide +kernel
theorem dX5_goToText_11 : decode cX5_goToText 11 = .ok (.if_icmp .ne 5, 3) := by decide +kernel
theorem dX5_goToText_14 : decode cX5_goToText 14 = .ok (.iconst (-1), 1) := by decide +kernel
theorem dX5_goToText_15 : decode cX5_goToText 15 = .ok (.ireturn, 1) := by decide +kernel
theorem dX5_goToText_16 : decode cX5_goToText 16 = .ok (.aload_n 0, 1) := by decide +kernel
theorem dX5_goToText_17 : decode cX5_goToText 17 = .ok (.iload_n 2, 1) := by decide +kernel
theorem dX5_goToText_18 : decode cX5_goToText 18 = .ok (.invokevirtual 52, 3) := by decide +kernel
theorem dX5_goToText_21 : decode cX5_goToText 21 = .ok (.pop, 1) := by decide +kernel
theorem dX5_goToText_22 : decode cX5_goToText 22 = .ok (.iload_n 2, 1) := by decide +kernel
theorem dX5_goToText_23 : decode cX5_goToText 23 = .ok (.ireturn, 1) := by decide +kernel
theorem dX5_killWordOn_0 : decode cX5_killWordOn 0 = .ok (.aload_n 0, 1) := by decide +kernel
theorem dX5_killWordOn_1 : decode cX5_killWordOn 1 = .ok (.aload_n 0, 1) := by decide +kernel
theorem dX5_killWordOn_2 : decode cX5_killWordOn 2 = .ok (.getfield 12, 3) := by decide +kernel
theorem dX5_killWordOn_5 : decode cX5_killWordOn 5 = .ok (.getfield 49, 3) := by decide +kernel
theorem dX5_killWordOn_8 : decode cX5_killWordOn 8 = .ok (.aload_n 0, 1) := by decide +kernel
theorem dX5_killWordOn_9 : decode cX5_killWordOn 9 = .ok (.getfield 12, 3) := by decide +kernel
theorem dX5_killWordOn_12 : decode cX5_killWordOn 12 = .ok (.aload_n 0, 1) := by decide +kernel
theorem dX5_killWordOn_13 : decode cX5_killWordOn 13 = .ok (.getfield 12, 3) := by decide +kernel
theorem dX5_killWordOn_16 : decode cX5_killWordOn 16 = .ok (.getfield 49, 3) := by decide +kernel
theorem dX5_killWordOn_19 : decode cX5_killWordOn 19 = .ok (.invokevirtual 142, 3) := by decide +kernel
theorem dX5_killWordOn_22 : decode cX5_killWordOn 22 = .ok (.iconst 0, 1) := by decide +kernel
theorem dX5_killWordOn_23 : decode cX5_killWordOn 23 = .ok (.invokevirtual 180, 3) := by decide +kernel
theorem dX5_killWordOn_26 : decode cX5_killWordOn 26 = .ok (.ireturn, 1) := by decide +kernel
theorem dX5_killWordBack_0 : decode cX5_killWordBack 0 = .ok (.aload_n 0, 1) := by decide +kernel
theorem dX5_killWordBack_1 : decode cX5_killWordBack 1 = .ok (.aload_n 0, 1) := by decide +kernel
theorem dX5_killWordBack_2 : decode cX5_killWordBack 2 = .ok (.getfield 12, 3) := by decide +kernel
theorem dX5_killWordBack_5 : decode cX5_killWordBack 5 = .ok (.aload_n 0, 1) := by decide +kernel
theorem dX5_killWordBack_6 : decode cX5_killWordBack 6 = .ok (.getfield 12, 3) := by decide +kernel
theorem dX5_killWordBack_9 : decode cX5_killWordBack 9 = .ok (.getfield 49, 3) := by decide +kernel
theorem dX5_killWordBack_12 : decode cX5_killWordBack 12 = .ok (.invokevirtual 157, 3) := by decide +kernel
theorem dX5_killWordBack_15 : decode cX5_killWordBack 15 = .ok (.aload_n 0, 1) := by decide +kernel
theorem dX5_killWordBack_16 : decode cX5_killWordBack 16 = .ok (.getfield 12, 3) := by decide +kernel
theorem dX5_killWordBack_19 : decode cX5_killWordBack 19 = .ok (.getfield 49, 3) := by decide +kernel
theorem dX5_killWordBack_22 : decode cX5_killWordBack 22 = .ok (.iconst 1, 1) := by decide +kernel
theorem dX5_killWordBack_23 : decode cX5_killWordBack 23 = .ok (.invokevirtual 180, 3) := by decide +kernel
theorem dX5_killWordBack_26 : decode cX5_killWordBack 26 = .ok (.ireturn, 1) := by decide +kernel
theorem dX5_killLineOn_0 : decode cX5_killLineOn 0 = .ok (.aload_n 0, 1) := by decide +kernel
theorem dX5_killLineOn_1 : decode cX5_killLineOn 1 = .ok (.getfield 12, 3) := by decide +kernel
theorem dX5_killLineOn_4 : decode cX5_killLineOn 4 = .ok (.aload_n 0, 1) := by decide +kernel
theorem dX5_killLineOn_5 : decode cX5_killLineOn 5 = .ok (.getfield 12, 3) := by decide +kernel
theorem dX5_killLineOn_8 : decode cX5_killLineOn 8 = .ok (.getfield 49, 3) := by decide +kernel
theorem dX5_killLineOn_11 : decode cX5_killLineOn 11 = .ok (.invokevirtual 163, 3) := by decide +kernel
theorem dX5_killLineOn_14 : decode cX5_killLineOn 14 = .ok (.istore_n 1, 1) := by decide +kernel
theorem dX5_killLineOn_15 : decode cX5_killLineOn 15 = .ok (.iload_n 1, 1) := by decide +kernel
theorem dX5_killLineOn_16 : decode cX5_killLineOn 16 = .ok (.aload_n 0, 1) := by decide +kernel
theorem dX5_killLineOn_17 : decode cX5_killLineOn 17 = .ok (.getfield 12, 3) := by decide +kernel
theorem dX5_killLineOn_20 : decode cX5_killLineOn 20 = .ok (.getfield 49, 3) := by decide +kernel
theorem dX5_killLineOn_23 : decode cX5_killLineOn 23 = .ok (.if_icmp .ne 18, 3) := by decide +kernel
theorem dX5_killLineOn_26 : decode cX5_killLineOn 26 = .ok (.aload_n 0, 1) := by decide +kernel
theorem dX5_killLineOn_27 : decode cX5_killLineOn 27 = .ok (.getfield 12, 3) := by decide +kernel
theorem dX5_killLineOn_30 : decode cX5_killLineOn 30 = .ok (.iload_n 1, 1) := by decide +kernel
theorem dX5_killLineOn_31 : decode cX5_killLineOn 31 = .ok (.invokevirtual 184, 3) := by decide +kernel
theorem dX5_killLineOn_34 : decode cX5_killLineOn 34 = .ok (.ifCond .eq 7, 3) := by decide +kernel
theorem dX5_killLineOn_37 : decode cX5_killLineOn 37 = .ok (.iconst 1, 1) := by decide +kernel
theorem dX5_killLineOn_38 : decode cX5_killLineOn 38 = .ok (.goto 4, 3) := by decide +kernel
theorem dX5_killLineOn_41 : decode cX5_killLineOn 41 = .ok (.iconst 0, 1) := by decide +kernel
theorem dX5_killLineOn_42 : decode cX5_killLineOn 42 = .ok (.istore_n 2, 1) := by decide +kernel
theorem dX5_killLineOn_43 : decode cX5_killLineOn 43 = .ok (.aload_n 0, 1) := by decide +kernel
theorem dX5_killLineOn_44 : decode cX5_killLineOn 44 = .ok (.aload_n 0, 1) := by decide +kernel
theorem dX5_killLineOn_45 : decode cX5_killLineOn 45 = .ok (.getfield 12, 3) := by decide +kernel
theorem dX5_killLineOn_48 : decode cX5_killLineOn 48 = .ok (.getfield 49, 3) := by decide +kernel
theorem dX5_killLineOn_51 : decode cX5_killLineOn 51 = .ok (.iload_n 2, 1) := by decide +kernel
theorem dX5_killLineOn_52 : decode cX5_killLineOn 52 = .ok (.ifCond .eq 9, 3) := by decide +kernel
theorem dX5_killLineOn_55 : decode cX5_killLineOn 55 = .ok (.iload_n 1, 1) := by decide +kernel
theorem dX5_killLineOn_56 : decode cX5_killLineOn 56 = .ok (.iconst 1, 1) := by decide +kernel
theorem dX5_killLineOn_57 : decode cX5_killLineOn 57 = .ok (.iadd, 1) := by decide +kernel
theorem dX5_killLineOn_58 : decode cX5_killLineOn 58 = .ok (.goto 4, 3) := by decide +kernel
theorem dX5_killLineOn_61 : decode cX5_killLineOn 61 = .ok (.iload_n 1, 1) := by decide +kernel
theorem dX5_killLineOn_62 : decode cX5_killLineOn 62 = .ok (.iconst 0, 1) := by decide +kernel
theorem dX5_killLineOn_63 : decode cX5_killLineOn 63 = .ok (.invokevirtual 180, 3) := by decide +kernel
theorem dX5_killLineOn_66 : decode cX5_killLineOn 66 = .ok (.ireturn, 1) := by decide +kernel
theorem dX5_killToMark_0 : decode cX5_killToMark 0 = .ok (.aload_n 0, 1) := by decide +kernel
theorem dX5_killToMark_1 : decode cX5_killToMark 1 = .ok (.getfield 12, 3) := by decide +kernel
theorem dX5_killToMark_4 : decode cX5_killToMark 4 = .ok (.getfield 173, 3) := by decide +kernel
theorem dX5_killToMark_7 : decode cX5_killToMark 7 = .ok (.iconst (-1), 1) := by decide +kernel
theorem dX5_killToMark_8 : decode cX5_killToMark 8 = .ok (.if_icmp .ne 5, 3) := by decide +kernel
theorem dX5_killToMark_11 : decode cX5_killToMark 11 = .ok (.iconst (-1), 1) := by decide +kernel
theorem dX5_killToMark_12 : decode cX5_killToMark 12 = .ok (.ireturn, 1) := by decide +kernel
theorem dX5_killToMark_13 : decode cX5_killToMark 13 = .ok (.aload_n 0, 1) := by decide +kernel
theorem dX5_killToMark_14 : decode cX5_killToMark 14 = .ok (.getfield 12, 3) := by decide +kernel
theorem dX5_killToMark_17 : decode cX5_killToMark 17 = .ok (.getfield 173, 3) := by decide +kernel
theorem dX5_killToMark_20 : decode cX5_killToMark 20 = .ok (.aload_n 0, 1) := by decide +kernel
theorem dX5_killToMark_21 : decode cX5_killToMark 21 = .ok (.getfield 12, 3) := by decide +kernel
theorem dX5_killToMark_24 : decode cX5_killToMark 24 = .ok (.getfield 49, 3) := by decide +kernel
theorem dX5_killToMark_27 : decode cX5_killToMark 27 = .ok (.invokestatic 170, 3) := by decide +kernel
theorem dX5_killToMark_30 : decode cX5_killToMark 30 = .ok (.istore_n 1, 1) := by decide +kernel
theorem dX5_killToMark_31 : decode cX5_killToMark 31 = .ok (.aload_n 0, 1) := by decide +kernel
theorem dX5_killToMark_32 : decode cX5_killToMark 32 = .ok (.getfield 12, 3) := by decide +kernel
theorem dX5_killToMark_35 : decode cX5_killToMark 35 = .ok (.getfield 173, 3) := by decide +kernel
theorem dX5_killToMark_38 : decode cX5_killToMark 38 = .ok (.aload_n 0, 1) := by decide +kernel
theorem dX5_killToMark_39 : decode cX5_killToMark 39 = .ok (.getfield 12, 3) := by decide +kernel
theorem dX5_killToMark_42 : decode cX5_killToMark 42 = .ok (.getfield 49, 3) := by decide +kernel
theorem dX5_killToMark_45 : decode cX5_killToMark 45 = .ok (.invokestatic 187, 3) := by decide +kernel
theorem dX5_killToMark_48 : decode cX5_killToMark 48 = .ok (.istore_n 2, 1) := by decide +kernel
theorem dX5_killToMark_49 : decode cX5_killToMark 49 = .ok (.aload_n 0, 1) := by decide +kernel
theorem dX5_killToMark_50 : decode cX5_killToMark 50 = .ok (.iload_n 1, 1) := by decide +kernel
theorem dX5_killToMark_51 : decode cX5_killToMark 51 = .ok (.iload_n 2, 1) := by decide +kernel
theorem dX5_killToMark_52 : decode cX5_killToMark 52 = .ok (.aload_n 0, 1) := by decide +kernel
theorem dX5_killToMark_53 : decode cX5_killToMark 53 = .ok (.getfield 12, 3) := by decide +kernel
theorem dX5_killToMark_56 : decode cX5_killToMark 56 = .ok (.getfield 173, 3) := by decide +kernel
theorem dX5_killToMark_59 : decode cX5_killToMark 59 = .ok (.aload_n 0, 1) := by decide +kernel
theorem dX5_killToMark_60 : decode cX5_killToMark 60 = .ok (.getfield 12, 3) := by decide +kernel
theorem dX5_killToMark_63 : decode cX5_killToMark 63 = .ok (.getfield 49, 3) := by decide +kernel
theorem dX5_killToMark_66 : decode cX5_killToMark 66 = .ok (.if_icmp .ge 7, 3) := by decide +kernel
theorem dX5_killToMark_69 : decode cX5_killToMark 69 = .ok (.iconst 1, 1) := by decide +kernel
theorem dX5_killToMark_70 : decode cX5_killToMark 70 = .ok (.goto 4, 3) := by decide +kernel
theorem dX5_killToMark_73 : decode cX5_killToMark 73 = .ok (.iconst 0, 1) := by decide +kernel
theorem dX5_killToMark_74 : decode cX5_killToMark 74 = .ok (.invokevirtual 180, 3) := by decide +kernel
theorem dX5_killToMark_77 : decode cX5_killToMark 77 = .ok (.ireturn, 1) := by decide +kernel
theorem dX5_kill_0 : decode cX5_kill 0 = .ok (.iload_n 1, 1) := by decide +kernel
theorem dX5_kill_1 : decode cX5_kill 1 = .ok (.iload_n 2, 1) := by decide +kernel
theorem dX5_kill_2 : decode cX5_kill 2 = .ok (.if_icmp .lt 5, 3) := by decide +kernel
theorem dX5_kill_5 : decode cX5_kill 5 = .ok (.iconst (-1), 1) := by decide +kernel
theorem dX5_kill_6 : decode cX5_kill 6 = .ok (.ireturn, 1) := by decide +kernel
theorem dX5_kill_7 : decode cX5_kill 7 = .ok (.aload_n 0, 1) := by decide +kernel
theorem dX5_kill_8 : decode cX5_kill 8 = .ok (.getfield 32, 3) := by decide +kernel
theorem dX5_kill_11 : decode cX5_kill 11 = .ok (.iconst 1, 1) := by decide +kernel
theorem dX5_kill_12 : decode cX5_kill 12 = .ok (.if_icmp .ne 23, 3) := by decide +kernel
theorem dX5_kill_15 : decode cX5_kill 15 = .ok (.aload_n 0, 1) := by decide +kernel
theorem dX5_kill_16 : decode cX5_kill 16 = .ok (.getfield 21, 3) := by decide +kernel
theorem dX5_kill_19 : decode cX5_kill 19 = .ok (.aload_n 0, 1) := by decide +kernel
theorem dX5_kill_20 : decode cX5_kill 20 = .ok (.getfield 12, 3) := by decide +kernel
theorem dX5_kill_23 : decode cX5_kill 23 = .ok (.getfield 111, 3) := by decide +kernel
theorem dX5_kill_26 : decode cX5_kill 26 = .ok (.iload_n 1, 1) := by decide +kernel
theorem dX5_kill_27 : decode cX5_kill 27 = .ok (.iload_n 2, 1) := by decide +kernel
theorem dX5_kill_28 : decode cX5_kill 28 = .ok (.iload_n 3, 1) := by decide +kernel
theorem dX5_kill_29 : decode cX5_kill 29 = .ok (.invokevirtual 190, 3) := by decide +kernel
theorem dX5_kill_32 : decode cX5_kill 32 = .ok (.goto 31, 3) := by decide +kernel
theorem dX5_kill_35 : decode cX5_kill 35 = .ok (.aload_n 0, 1) := by decide +kernel
theorem dX5_kill_36 : decode cX5_kill 36 = .ok (.getfield 28, 3) := by decide +kernel
theorem dX5_kill_39 : decode cX5_kill 39 = .ok (.dup, 1) := by decide +kernel
theorem dX5_kill_40 : decode cX5_kill 40 = .ok (.getfield 194, 3) := by decide +kernel
theorem dX5_kill_43 : decode cX5_kill 43 = .ok (.aload_n 0, 1) := by decide +kernel
theorem dX5_kill_44 : decode cX5_kill 44 = .ok (.getfield 21, 3) := by decide +kernel
theorem dX5_kill_47 : decode cX5_kill 47 = .ok (.aload_n 0, 1) := by decide +kernel
theorem dX5_kill_48 : decode cX5_kill 48 = .ok (.getfield 12, 3) := by decide +kernel
theorem dX5_kill_51 : decode cX5_kill 51 = .ok (.getfield 111, 3) := by decide +kernel
theorem dX5_kill_54 : decode cX5_kill 54 = .ok (.iload_n 1, 1) := by decide +kernel
theorem dX5_kill_55 : decode cX5_kill 55 = .ok (.iload_n 2, 1) := by decide +kernel
theorem dX5_kill_56 : decode cX5_kill 56 = .ok (.invokevirtual 197, 3) := by decide +kernel
theorem dX5_kill_59 : decode cX5_kill 59 = .ok (.iadd, 1) := by decide +kernel
theorem dX5_kill_60 : decode cX5_kill 60 = .ok (.putfield 194, 3) := by decide +kernel
theorem dX5_kill_63 : decode cX5_kill 63 = .ok (.aload_n 0, 1) := by decide +kernel
theorem dX5_kill_64 : decode cX5_kill 64 = .ok (.getfield 12, 3) := by decide +kernel
theorem dX5_kill_67 : decode cX5_kill 67 = .ok (.iload_n 1, 1) := by decide +kernel
theorem dX5_kill_68 : decode cX5_kill 68 = .ok (.iload_n 2, 1) := by decide +kernel
theorem dX5_kill_69 : decode cX5_kill 69 = .ok (.invokevirtual 132, 3) := by decide +kernel
theorem dX5_kill_72 : decode cX5_kill 72 = .ok (.aload_n 0, 1) := by decide +kernel
theorem dX5_kill_73 : decode cX5_kill 73 = .ok (.getfield 28, 3) := by decide +kernel
theorem dX5_kill_76 : decode cX5_kill 76 = .ok (.dup, 1) := by decide +kernel
theorem dX5_kill_77 : decode cX5_kill 77 = .ok (.getfield 201, 3) := by decide +kernel
theorem dX5_kill_80 : decode cX5_kill 80 = .ok (.iload_n 2, 1) := by decide +kernel
theorem dX5_kill_81 : decode cX5_kill 81 = .ok (.iload_n 1, 1) := by decide +kernel
theorem dX5_kill_82 : decode cX5_kill 82 = .ok (.isub, 1) := by decide +kernel
theorem dX5_kill_83 : decode cX5_kill 83 = .ok (.iadd, 1) := by decide +kernel
theorem dX5_kill_84 : decode cX5_kill 84 = .ok (.putfield 201, 3) := by decide +kernel
theorem dX5_kill_87 : decode cX5_kill 87 = .ok (.aload_n 0, 1) := by decide +kernel
theorem dX5_kill_88 : decode cX5_kill 88 = .ok (.iconst 1, 1) := by decide +kernel
theorem dX5_kill_89 : decode cX5_kill 89 = .ok (.putfield 32, 3) := by decide +kernel
theorem dX5_kill_92 : decode cX5_kill 92 = .ok (.iload_n 2, 1) := by decide +kernel
theorem dX5_kill_93 : decode cX5_kill 93 = .ok (.iload_n 1, 1) := by decide +kernel
theorem dX5_kill_94 : decode cX5_kill 94 = .ok (.isub, 1) := by decide +kernel
theorem dX5_kill_95 : decode cX5_kill 95 = .ok (.ireturn, 1) := by decide +kernel
theorem dX5_copyToMark_0 : decode cX5_copyToMark 0 = .ok (.aload_n 0, 1) := by decide +kernel
theorem dX5_copyToMark_1 : decode cX5_copyToMark 1 = .ok (.getfield 12, 3) := by decide +kernel
theorem dX5_copyToMark_4 : decode cX5_copyToMark 4 = .ok (.invokevirtual 204, 3) := by decide +kernel
theorem dX5_copyToMark_7 : decode cX5_copyToMark 7 = .ok (.istore_n 1, 1) := by decide +kernel
theorem dX5_copyToMark_8 : decode cX5_copyToMark 8 = .ok (.iload_n 1, 1) := by decide +kernel
theorem dX5_copyToMark_9 : decode cX5_copyToMark 9 = .ok (.iconst 1, 1) := by decide +kernel
theorem dX5_copyToMark_10 : decode cX5_copyToMark 10 = .ok (.if_icmp .ge 5, 3) := by decide +kernel
theorem dX5_copyToMark_13 : decode cX5_copyToMark 13 = .ok (.iconst (-1), 1) := by decide +kernel
theorem dX5_copyToMark_14 : decode cX5_copyToMark 14 = .ok (.ireturn, 1) := by decide +kernel
theorem dX5_copyToMark_15 : decode cX5_copyToMark 15 = .ok (.aload_n 0, 1) := by decide +kernel
theorem dX5_copyToMark_16 : decode cX5_copyToMark 16 = .ok (.getfield 12, 3) := by decide +kernel
theorem dX5_copyToMark_19 : decode cX5_copyToMark 19 = .ok (.getfield 173, 3) := by decide +kernel
theorem dX5_copyToMark_22 : decode cX5_copyToMark 22 = .ok (.aload_n 0, 1) := by decide +kernel
theorem dX5_copyToMark_23 : decode cX5_copyToMark 23 = .ok (.getfield 12, 3) := by decide +kernel
theorem dX5_copyToMark_26 : decode cX5_copyToMark 26 = .ok (.getfield 49, 3) := by decide +kernel
theorem dX5_copyToMark_29 : decode cX5_copyToMark 29 = .ok (.invokestatic 170, 3) := by decide +kernel
theorem dX5_copyToMark_32 : decode cX5_copyToMark 32 = .ok (.istore_n 2, 1) := by decide +kernel
theorem dX5_copyToMark_33 : decode cX5_copyToMark 33 = .ok (.aload_n 0, 1) := by decide +kernel
theorem dX5_copyToMark_34 : decode cX5_copyToMark 34 = .ok (.getfield 28, 3) := by decide +kernel
theorem dX5_copyToMark_37 : decode cX5_copyToMark 37 = .ok (.dup, 1) := by decide +kernel
theorem dX5_copyToMark_38 : decode cX5_copyToMark 38 = .ok (.getfield 194, 3) := by decide +kernel
theorem dX5_copyToMark_41 : decode cX5_copyToMark 41 = .ok (.aload_n 0, 1) := by decide +kernel
theorem dX5_copyToMark_42 : decode cX5_copyToMark 42 = .ok (.getfield 21, 3) := by decide +kernel
theorem dX5_copyToMark_45 : decode cX5_copyToMark 45 = .ok (.aload_n 0, 1) := by decide +kernel
theorem dX5_copyToMark_46 : decode cX5_copyToMark 46 = .ok (.getfield 12, 3) := by decide +kernel
theorem dX5_copyToMark_49 : decode cX5_copyToMark 49 = .ok (.getfield 111, 3) := by decide +kernel
theorem dX5_copyToMark_52 : decode cX5_copyToMark 52 = .ok (.iload_n 2, 1) := by decide +kernel
theorem dX5_copyToMark_53 : decode cX5_copyToMark 53 = .ok (.iload_n 2, 1) := by decide +kernel
theorem dX5_copyToMark_54 : decode cX5_copyToMark 54 = .ok (.iload_n 1, 1) := by decide +kernel
theorem dX5_copyToMark_55 : decode cX5_copyToMark 55 = .ok (.iadd, 1) := by decide +kernel
theorem dX5_copyToMark_56 : decode cX5_copyToMark 56 = .ok (.invokevirtual 197, 3) := by decide +kernel
theorem dX5_copyToMark_59 : decode cX5_copyToMark 59 = .ok (.iadd, 1) := by decide +kernel
theorem dX5_copyToMark_60 : decode cX5_copyToMark 60 = .ok (.putfield 194, 3) := by decide +kernel
theorem dX5_copyToMark_63 : decode cX5_copyToMark 63 = .ok (.aload_n 0, 1) := by decide +kernel
theorem dX5_copyToMark_64 : decode cX5_copyToMark 64 = .ok (.iconst 0, 1) := by decide +kernel
theorem dX5_copyToMark_65 : decode cX5_copyToMark 65 = .ok (.putfield 32, 3) := by decide +kernel
theorem dX5_copyToMark_68 : decode cX5_copyToMark 68 = .ok (.iload_n 1, 1) := by decide +kernel
theorem dX5_copyToMark_69 : decode cX5_copyToMark 69 = .ok (.ireturn, 1) := by decide +kernel
theorem dX5_yankNext_0 : decode cX5_yankNext 0 = .ok (.aload_n 0, 1) := by decide +kernel
theorem dX5_yankNext_1 : decode cX5_yankNext 1 = .ok (.getfield 21, 3) := by decide +kernel
theorem dX5_yankNext_4 : decode cX5_yankNext 4 = .ok (.aload_n 0, 1) := by decide +kernel
theorem dX5_yankNext_5 : decode cX5_yankNext 5 = .ok (.getfield 21, 3) := by decide +kernel
theorem dX5_yankNext_8 : decode cX5_yankNext 8 = .ok (.getfield 207, 3) := by decide +kernel
theorem dX5_yankNext_11 : decode cX5_yankNext 11 = .ok (.invokevirtual 210, 3) := by decide +kernel
theorem dX5_yankNext_14 : decode cX5_yankNext 14 = .ok (.astore_n 1, 1) := by decide +kernel
theorem dX5_yankNext_15 : decode cX5_yankNext 15 = .ok (.aload_n 0, 1) := by decide +kernel
theorem dX5_yankNext_16 : decode cX5_yankNext 16 = .ok (.getfield 21, 3) := by decide +kernel
theorem dX5_yankNext_19 : decode cX5_yankNext 19 = .ok (.getfield 214, 3) := by decide +kernel
theorem dX5_yankNext_22 : decode cX5_yankNext 22 = .ok (.iconst 1, 1) := by decide +kernel
theorem dX5_yankNext_23 : decode cX5_yankNext 23 = .ok (.if_icmp .lt 20, 3) := by decide +kernel
theorem dX5_yankNext_26 : decode cX5_yankNext 26 = .ok (.aload_n 1, 1) := by decide +kernel
theorem dX5_yankNext_27 : decode cX5_yankNext 27 = .ok (.invokevirtual 126, 3) := by decide +kernel
theorem dX5_yankNext_30 : decode cX5_yankNext 30 = .ok (.aload_n 0, 1) := by decide +kernel
theorem dX5_yankNext_31 : decode cX5_yankNext 31 = .ok (.getfield 12, 3) := by decide +kernel
theorem dX5_yankNext_34 : decode cX5_yankNext 34 = .ok (.getfield 111, 3) := by decide +kernel
theorem dX5_yankNext_37 : decode cX5_yankNext 37 = .ok (.invokevirtual 115, 3) := by decide +kernel
theorem dX5_yankNext_40 : decode cX5_yankNext 40 = .ok (.if_icmp .le 5, 3) := by decide +kernel
theorem dX5_yankNext_43 : decode cX5_yankNext 43 = .ok (.iconst (-1), 1) := by decide +kernel
theorem dX5_yankNext_44 : decode cX5_yankNext 44 = .ok (.ireturn, 1) := by decide +kernel
theorem dX5_yankNext_45 : decode cX5_yankNext 45 = .ok (.aload_n 0, 1) := by decide +kernel
theorem dX5_yankNext_46 : decode cX5_yankNext 46 = .ok (.aload_n 1, 1) := by decide +kernel
theorem dX5_yankNext_47 : decode cX5_yankNext 47 = .ok (.invokevirtual 216, 3) := by decide +kernel
theorem dX5_yankNext_50 : decode cX5_yankNext 50 = .ok (.ireturn, 1) := by decide +kernel
theorem dX5_writeHoard_0 : decode cX5_writeHoard 0 = .ok (.aload_n 0, 1) := by decide +kernel
theorem dX5_writeHoard_1 : decode cX5_writeHoard 1 = .ok (.getfield 12, 3) := by decide +kernel
theorem dX5_writeHoard_4 : decode cX5_writeHoard 4 = .ok (.aload_n 0, 1) := by decide +kernel
theorem dX5_writeHoard_5 : decode cX5_writeHoard 5 = .ok (.getfield 12, 3) := by decide +kernel
theorem dX5_writeHoard_8 : decode cX5_writeHoard 8 = .ok (.getfield 49, 3) := by decide +kernel
theorem dX5_writeHoard_11 : decode cX5_writeHoard 11 = .ok (.putfield 173, 3) := by decide +kernel
theorem dX5_writeHoard_14 : decode cX5_writeHoard 14 = .ok (.aload_n 0, 1) := by decide +kernel
theorem dX5_writeHoard_15 : decode cX5_writeHoard 15 = .ok (.getfield 12, 3) := by decide +kernel
theorem dX5_writeHoard_18 : decode cX5_writeHoard 18 = .ok (.aload_n 1, 1) := by decide +kernel
theorem dX5_writeHoard_19 : decode cX5_writeHoard 19 = .ok (.invokevirtual 219, 3) := by decide +kernel
theorem dX5_writeHoard_22 : decode cX5_writeHoard 22 = .ok (.aload_n 0, 1) := by decide +kernel
theorem dX5_writeHoard_23 : decode cX5_writeHoard 23 = .ok (.getfield 28, 3) := by decide +kernel
theorem dX5_writeHoard_26 : decode cX5_writeHoard 26 = .ok (.dup, 1) := by decide +kernel
theorem dX5_writeHoard_27 : decode cX5_writeHoard 27 = .ok (.getfield 223, 3) := by decide +kernel
theorem dX5_writeHoard_30 : decode cX5_writeHoard 30 = .ok (.aload_n 1, 1) := by decide +kernel
theorem dX5_writeHoard_31 : decode cX5_writeHoard 31 = .ok (.invokevirtual 126, 3) := by decide +kernel
theorem dX5_writeHoard_34 : decode cX5_writeHoard 34 = .ok (.iadd, 1) := by decide +kernel
theorem dX5_writeHoard_35 : decode cX5_writeHoard 35 = .ok (.putfield 223, 3) := by decide +kernel
theorem dX5_writeHoard_38 : decode cX5_writeHoard 38 = .ok (.aload_n 0, 1) := by decide +kernel
theorem dX5_writeHoard_39 : decode cX5_writeHoard 39 = .ok (.iconst 2, 1) := by decide +kernel
theorem dX5_writeHoard_40 : decode cX5_writeHoard 40 = .ok (.putfield 32, 3) := by decide +kernel
theorem dX5_writeHoard_43 : decode cX5_writeHoard 43 = .ok (.aload_n 1, 1) := by decide +kernel
theorem dX5_writeHoard_44 : decode cX5_writeHoard 44 = .ok (.invokevirtual 126, 3) := by decide +kernel
theorem dX5_writeHoard_47 : decode cX5_writeHoard 47 = .ok (.ireturn, 1) := by decide +kernel
theorem dX5_yankOlder_0 : decode cX5_yankOlder 0 = .ok (.aload_n 0, 1) := by decide +kernel
theorem dX5_yankOlder_1 : decode cX5_yankOlder 1 = .ok (.getfield 32, 3) := by decide +kernel
theorem dX5_yankOlder_4 : decode cX5_yankOlder 4 = .ok (.iconst 2, 1) := by decide +kernel
theorem dX5_yankOlder_5 : decode cX5_yankOlder 5 = .ok (.if_icmp .eq 5, 3) := by decide +kernel
theorem dX5_yankOlder_8 : decode cX5_yankOlder 8 = .ok (.iconst (-1), 1) := by decide +kernel
theorem dX5_yankOlder_9 : decode cX5_yankOlder 9 = .ok (.ireturn, 1) := by decide +kernel
theorem dX5_yankOlder_10 : decode cX5_yankOlder 10 = .ok (.aload_n 0, 1) := by decide +kernel
theorem dX5_yankOlder_11 : decode cX5_yankOlder 11 = .ok (.getfield 12, 3) := by decide +kernel
theorem dX5_yankOlder_14 : decode cX5_yankOlder 14 = .ok (.invokevirtual 204, 3) := by decide +kernel
theorem dX5_yankOlder_17 : decode cX5_yankOlder 17 = .ok (.istore_n 1, 1) := by decide +kernel
theorem dX5_yankOlder_18 : decode cX5_yankOlder 18 = .ok (.aload_n 0, 1) := by decide +kernel
theorem dX5_yankOlder_19 : decode cX5_yankOlder 19 = .ok (.getfield 21, 3) := by decide +kernel
theorem dX5_yankOlder_22 : decode cX5_yankOlder 22 = .ok (.iconst 1, 1) := by decide +kernel
theorem dX5_yankOlder_23 : decode cX5_yankOlder 23 = .ok (.invokevirtual 226, 3) := by decide +kernel
theorem dX5_yankOlder_26 : decode cX5_yankOlder 26 = .ok (.istore_n 2, 1) := by decide +kernel
theorem dX5_yankOlder_27 : decode cX5_yankOlder 27 = .ok (.aload_n 0, 1) := by decide +kernel
theorem dX5_yankOlder_28 : decode cX5_yankOlder 28 = .ok (.getfield 21, 3) := by decide +kernel
theorem dX5_yankOlder_31 : decode cX5_yankOlder 31 = .ok (.iload_n 2, 1) := by decide +kernel
theorem dX5_yankOlder_32 : decode cX5_yankOlder 32 = .ok (.invokevirtual 210, 3) := by decide +kernel
theorem dX5_yankOlder_35 : decode cX5_yankOlder 35 = .ok (.invokevirtual 126, 3) := by decide +kernel
theorem dX5_yankOlder_38 : decode cX5_yankOlder 38 = .ok (.aload_n 0, 1) := by decide +kernel
theorem dX5_yankOlder_39 : decode cX5_yankOlder 39 = .ok (.getfield 12, 3) := by decide +kernel
theorem dX5_yankOlder_42 : decode cX5_yankOlder 42 = .ok (.getfield 111, 3) := by decide +kernel
theorem dX5_yankOlder_45 : decode cX5_yankOlder 45 = .ok (.invokevirtual 115, 3) := by decide +kernel
theorem dX5_yankOlder_48 : decode cX5_yankOlder 48 = .ok (.iload_n 1, 1) := by decide +kernel
theorem dX5_yankOlder_49 : decode cX5_yankOlder 49 = .ok (.iadd, 1) := by decide +kernel
theorem dX5_yankOlder_50 : decode cX5_yankOlder 50 = .ok (.if_icmp .le 5, 3) := by decide +kernel
theorem dX5_yankOlder_53 : decode cX5_yankOlder 53 = .ok (.iconst (-1), 1) := by decide +kernel
theorem dX5_yankOlder_54 : decode cX5_yankOlder 54 = .ok (.ireturn, 1) := by decide +kernel
theorem dX5_yankOlder_55 : decode cX5_yankOlder 55 = .ok (.aload_n 0, 1) := by decide +kernel
theorem dX5_yankOlder_56 : decode cX5_yankOlder 56 = .ok (.getfield 12, 3) := by decide +kernel
theorem dX5_yankOlder_59 : decode cX5_yankOlder 59 = .ok (.aload_n 0, 1) := by decide +kernel
theorem dX5_yankOlder_60 : decode cX5_yankOlder 60 = .ok (.getfield 12, 3) := by decide +kernel
theorem dX5_yankOlder_63 : decode cX5_yankOlder 63 = .ok (.getfield 173, 3) := by decide +kernel
theorem dX5_yankOlder_66 : decode cX5_yankOlder 66 = .ok (.aload_n 0, 1) := by decide +kernel
theorem dX5_yankOlder_67 : decode cX5_yankOlder 67 = .ok (.getfield 12, 3) := by decide +kernel
theorem dX5_yankOlder_70 : decode cX5_yankOlder 70 = .ok (.getfield 49, 3) := by decide +kernel
theorem dX5_yankOlder_73 : decode cX5_yankOlder 73 = .ok (.invokevirtual 132, 3) := by decide +kernel
theorem dX5_yankOlder_76 : decode cX5_yankOlder 76 = .ok (.aload_n 0, 1) := by decide +kernel
theorem dX5_yankOlder_77 : decode cX5_yankOlder 77 = .ok (.getfield 28, 3) := by decide +kernel
theorem dX5_yankOlder_80 : decode cX5_yankOlder 80 = .ok (.dup, 1) := by decide +kernel
theorem dX5_yankOlder_81 : decode cX5_yankOlder 81 = .ok (.getfield 229, 3) := by decide +kernel
theorem dX5_yankOlder_84 : decode cX5_yankOlder 84 = .ok (.iload_n 1, 1) := by decide +kernel
theorem dX5_yankOlder_85 : decode cX5_yankOlder 85 = .ok (.iadd, 1) := by decide +kernel
theorem dX5_yankOlder_86 : decode cX5_yankOlder 86 = .ok (.putfield 229, 3) := by decide +kernel
theorem dX5_yankOlder_89 : decode cX5_yankOlder 89 = .ok (.aload_n 0, 1) := by decide +kernel
theorem dX5_yankOlder_90 : decode cX5_yankOlder 90 = .ok (.getfield 21, 3) := by decide +kernel
theorem dX5_yankOlder_93 : decode cX5_yankOlder 93 = .ok (.iload_n 2, 1) := by decide +kernel
theorem dX5_yankOlder_94 : decode cX5_yankOlder 94 = .ok (.putfield 207, 3) := by decide +kernel
theorem dX5_yankOlder_97 : decode cX5_yankOlder 97 = .ok (.aload_n 0, 1) := by decide +kernel
theorem dX5_yankOlder_98 : decode cX5_yankOlder 98 = .ok (.aload_n 0, 1) := by decide +kernel
theorem dX5_yankOlder_99 : decode cX5_yankOlder 99 = .ok (.getfield 21, 3) := by decide +kernel
theorem dX5_yankOlder_102 : decode cX5_yankOlder 102 = .ok (.iload_n 2, 1) := by decide +kernel
theorem dX5_yankOlder_103 : decode cX5_yankOlder 103 = .ok (.invokevirtual 210, 3) := by decide +kernel
theorem dX5_yankOlder_106 : decode cX5_yankOlder 106 = .ok (.invokevirtual 216, 3) := by decide +kernel
theorem dX5_yankOlder_109 : decode cX5_yankOlder 109 = .ok (.ireturn, 1) := by decide +kernel
theorem dX5_turnRing_0 : decode cX5_turnRing 0 = .ok (.aload_n 0, 1) := by decide +kernel
theorem dX5_turnRing_1 : decode cX5_turnRing 1 = .ok (.getfield 21, 3) := by decide +kernel
theorem dX5_turnRing_4 : decode cX5_turnRing 4 = .ok (.iload_n 1, 1) := by decide +kernel
theorem dX5_turnRing_5 : decode cX5_turnRing 5 = .ok (.invokevirtual 226, 3) := by decide +kernel
theorem dX5_turnRing_8 : decode cX5_turnRing 8 = .ok (.istore_n 2, 1) := by decide +kernel
theorem dX5_turnRing_9 : decode cX5_turnRing 9 = .ok (.iload_n 2, 1) := by decide +kernel
theorem dX5_turnRing_10 : decode cX5_turnRing 10 = .ok (.iconst (-1), 1) := by decide +kernel
theorem dX5_turnRing_11 : decode cX5_turnRing 11 = .ok (.if_icmp .ne 5, 3) := by decide +kernel
theorem dX5_turnRing_14 : decode cX5_turnRing 14 = .ok (.iconst (-1), 1) := by decide +kernel
theorem dX5_turnRing_15 : decode cX5_turnRing 15 = .ok (.ireturn, 1) := by decide +kernel
theorem dX5_turnRing_16 : decode cX5_turnRing 16 = .ok (.aload_n 0, 1) := by decide +kernel
theorem dX5_turnRing_17 : decode cX5_turnRing 17 = .ok (.getfield 21, 3) := by decide +kernel
theorem dX5_turnRing_20 : decode cX5_turnRing 20 = .ok (.iload_n 2, 1) := by decide +kernel
theorem dX5_turnRing_21 : decode cX5_turnRing 21 = .ok (.putfield 207, 3) := by decide +kernel
theorem dX5_turnRing_24 : decode cX5_turnRing 24 = .ok (.aload_n 0, 1) := by decide +kernel
theorem dX5_turnRing_25 : decode cX5_turnRing 25 = .ok (.iconst 0, 1) := by decide +kernel
theorem dX5_turnRing_26 : decode cX5_turnRing 26 = .ok (.putfield 32, 3) := by decide +kernel
theorem dX5_turnRing_29 : decode cX5_turnRing 29 = .ok (.iload_n 2, 1) := by decide +kernel
theorem dX5_turnRing_30 : decode cX5_turnRing 30 = .ok (.ireturn, 1) := by decide +kernel
theorem dX5_setCaves_0 : decode cX5_setCaves 0 = .ok (.aload_n 0, 1) := by decide +kernel
theorem dX5_setCaves_1 : decode cX5_setCaves 1 = .ok (.getfield 21, 3) := by decide +kernel
theorem dX5_setCaves_4 : decode cX5_setCaves 4 = .ok (.getfield 232, 3) := by decide +kernel
theorem dX5_setCaves_7 : decode cX5_setCaves 7 = .ok (.istore_n 2, 1) := by decide +kernel
theorem dX5_setCaves_8 : decode cX5_setCaves 8 = .ok (.aload_n 0, 1) := by decide +kernel
theorem dX5_setCaves_9 : decode cX5_setCaves 9 = .ok (.getfield 28, 3) := by decide +kernel
theorem dX5_setCaves_12 : decode cX5_setCaves 12 = .ok (.dup, 1) := by decide +kernel
theorem dX5_setCaves_13 : decode cX5_setCaves 13 = .ok (.getfield 194, 3) := by decide +kernel
theorem dX5_setCaves_16 : decode cX5_setCaves 16 = .ok (.aload_n 0, 1) := by decide +kernel
theorem dX5_setCaves_17 : decode cX5_setCaves 17 = .ok (.getfield 21, 3) := by decide +kernel
theorem dX5_setCaves_20 : decode cX5_setCaves 20 = .ok (.iload_n 1, 1) := by decide +kernel
theorem dX5_setCaves_21 : decode cX5_setCaves 21 = .ok (.invokevirtual 235, 3) := by decide +kernel
theorem dX5_setCaves_24 : decode cX5_setCaves 24 = .ok (.iadd, 1) := by decide +kernel
theorem dX5_setCaves_25 : decode cX5_setCaves 25 = .ok (.putfield 194, 3) := by decide +kernel
theorem dX5_setCaves_28 : decode cX5_setCaves 28 = .ok (.aload_n 0, 1) := by decide +kernel
theorem dX5_setCaves_29 : decode cX5_setCaves 29 = .ok (.iconst 0, 1) := by decide +kernel
theorem dX5_setCaves_30 : decode cX5_setCaves 30 = .ok (.putfield 32, 3) := by decide +kernel
theorem dX5_setCaves_33 : decode cX5_setCaves 33 = .ok (.iload_n 2, 1) := by decide +kernel
theorem dX5_setCaves_34 : decode cX5_setCaves 34 = .ok (.ireturn, 1) := by decide +kernel
theorem dX6_init_0 : decode cX6_init 0 = .ok (.aload_n 0, 1) := by decide +kernel
theorem dX6_init_1 : decode cX6_init 1 = .ok (.invokespecial 3, 3) := by decide +kernel
theorem dX6_init_4 : decode cX6_init 4 = .ok (.aload_n 0, 1) := by decide +kernel
theorem dX6_init_5 : decode cX6_init 5 = .ok (.iload_n 1, 1) := by decide +kernel
theorem dX6_init_6 : decode cX6_init 6 = .ok (.ifCond .ge 7, 3) := by decide +kernel
theorem dX6_init_9 : decode cX6_init 9 = .ok (.iconst 0, 1) := by decide +kernel
theorem dX6_init_10 : decode cX6_init 10 = .ok (.goto 4, 3) := by decide +kernel
theorem dX6_init_13 : decode cX6_init 13 = .ok (.iload_n 1, 1) := by decide +kernel
theorem dX6_init_14 : decode cX6_init 14 = .ok (.newarray .int, 2) := by decide +kernel
theorem dX6_init_16 : decode cX6_init 16 = .ok (.putfield 9, 3) := by decide +kernel
theorem dX6_init_19 : decode cX6_init 19 = .ok (.return_, 1) := by decide +kernel
theorem dX6_count_0 : decode cX6_count 0 = .ok (.aload_n 0, 1) := by decide +kernel
theorem dX6_count_1 : decode cX6_count 1 = .ok (.getfield 15, 3) := by decide +kernel
theorem dX6_count_4 : decode cX6_count 4 = .ok (.ireturn, 1) := by decide +kernel
theorem dX6_room_0 : decode cX6_room 0 = .ok (.aload_n 0, 1) := by decide +kernel
theorem dX6_room_1 : decode cX6_room 1 = .ok (.getfield 9, 3) := by decide +kernel
theorem dX6_room_4 : decode cX6_room 4 = .ok (.arraylength, 1) := by decide +kernel
theorem dX6_room_5 : decode cX6_room 5 = .ok (.aload_n 0, 1) := by decide +kernel
theorem dX6_room_6 : decode cX6_room 6 = .ok (.getfield 15, 3) := by decide +kernel
theorem dX6_room_9 : decode cX6_room 9 = .ok (.isub, 1) := by decide +kernel
theorem dX6_room_10 : decode cX6_room 10 = .ok (.ireturn, 1) := by decide +kernel
theorem dX6_code_0 : decode cX6_code 0 = .ok (.iload_n 1, 1) := by decide +kernel
theorem dX6_code_1 : decode cX6_code 1 = .ok (.ifCond .lt 29, 3) := by decide +kernel
theorem dX6_code_4 : decode cX6_code 4 = .ok (.iload_n 1, 1) := by decide +kernel
theorem dX6_code_5 : decode cX6_code 5 = .ok (.aload_n 0, 1) := by decide +kernel
theorem dX6_code_6 : decode cX6_code 6 = .ok (.getfield 15, 3) := by decide +kernel
theorem dX6_code_9 : decode cX6_code 9 = .ok (.if_icmp .ge 21, 3) := by decide +kernel
theorem dX6_code_12 : decode cX6_code 12 = .ok (.iload_n 1, 1) := by decide +kernel
theorem dX6_code_13 : decode cX6_code 13 = .ok (.aload_n 0, 1) := by decide +kernel
theorem dX6_code_14 : decode cX6_code 14 = .ok (.getfield 9, 3) := by decide +kernel
theorem dX6_code_17 : decode cX6_code 17 = .ok (.arraylength, 1) := by decide +kernel
theorem dX6_code_18 : decode cX6_code 18 = .ok (.if_icmp .ge 12, 3) := by decide +kernel
theorem dX6_code_21 : decode cX6_code 21 = .ok (.aload_n 0, 1) := by decide +kernel
theorem dX6_code_22 : decode cX6_code 22 = .ok (.getfield 9, 3) := by decide +kernel
theorem dX6_code_25 : decode cX6_code 25 = .ok (.iload_n 1, 1) := by decide +kernel
theorem dX6_code_26 : decode cX6_code 26 = .ok (.iaload, 1) := by decide +kernel
theorem dX6_code_27 : decode cX6_code 27 = .ok (.goto 4, 3) := by decide +kernel
theorem dX6_code_30 : decode cX6_code 30 = .ok (.iconst (-1), 1) := by decide +kernel
theorem dX6_code_31 : decode cX6_code 31 = .ok (.ireturn, 1) := by decide +kernel
theorem dX6_change_0 : decode cX6_change 0 = .ok (.iload_n 1, 1) := by decide +kernel
theorem dX6_change_1 : decode cX6_change 1 = .ok (.ifCond .lt 27, 3) := by decide +kernel
theorem dX6_change_4 : decode cX6_change 4 = .ok (.iload_n 1, 1) := by decide +kernel
theorem dX6_change_5 : decode cX6_change 5 = .ok (.aload_n 0, 1) := by decide +kernel
theorem dX6_change_6 : decode cX6_change 6 = .ok (.getfield 15, 3) := by decide +kernel
theorem dX6_change_9 : decode cX6_change 9 = .ok (.if_icmp .ge 19, 3) := by decide +kernel
theorem dX6_change_12 : decode cX6_change 12 = .ok (.iload_n 1, 1) := by decide +kernel
theorem dX6_change_13 : decode cX6_change 13 = .ok (.aload_n 0, 1) := by decide +kernel
theorem dX6_change_14 : decode cX6_change 14 = .ok (.getfield 9, 3) := by decide +kernel
theorem dX6_change_17 : decode cX6_change 17 = .ok (.arraylength, 1) := by decide +kernel
theorem dX6_change_18 : decode cX6_change 18 = .ok (.if_icmp .ge 10, 3) := by decide +kernel
theorem dX6_change_21 : decode cX6_change 21 = .ok (.aload_n 0, 1) := by decide +kernel
theorem dX6_change_22 : decode cX6_change 22 = .ok (.getfield 9, 3) := by decide +kernel
theorem dX6_change_25 : decode cX6_change 25 = .ok (.iload_n 1, 1) := by decide +kernel
theorem dX6_change_26 : decode cX6_change 26 = .ok (.iload_n 2, 1) := by decide +kernel
theorem dX6_change_27 : decode cX6_change 27 = .ok (.iastore, 1) := by decide +kernel
theorem dX6_change_28 : decode cX6_change 28 = .ok (.return_, 1) := by decide +kernel
theorem dX6_empty_0 : decode cX6_empty 0 = .ok (.aload_n 0, 1) := by decide +kernel
theorem dX6_empty_1 : decode cX6_empty 1 = .ok (.iconst 0, 1) := by decide +kernel
theorem dX6_empty_2 : decode cX6_empty 2 = .ok (.putfield 15, 3) := by decide +kernel
theorem dX6_empty_5 : decode cX6_empty 5 = .ok (.return_, 1) := by decide +kernel
theorem dX6_copyFrom_0 : decode cX6_copyFrom 0 = .ok (.aload_n 0, 1) := by decide +kernel
theorem dX6_copyFrom_1 : decode cX6_copyFrom 1 = .ok (.aload_n 1, 1) := by decide +kernel
theorem dX6_copyFrom_2 : decode cX6_copyFrom 2 = .ok (.getfield 15, 3) := by decide +kernel
theorem dX6_copyFrom_5 : decode cX6_copyFrom 5 = .ok (.aload_n 0, 1) := by decide +kernel
theorem dX6_copyFrom_6 : decode cX6_copyFrom 6 = .ok (.getfield 9, 3) := by decide +kernel
theorem dX6_copyFrom_9 : decode cX6_copyFrom 9 = .ok (.arraylength, 1) := by decide +kernel
theorem dX6_copyFrom_10 : decode cX6_copyFrom 10 = .ok (.invokestatic 19, 3) := by decide +kernel
theorem dX6_copyFrom_13 : decode cX6_copyFrom 13 = .ok (.putfield 15, 3) := by decide +kernel
theorem dX6_copyFrom_16 : decode cX6_copyFrom 16 = .ok (.aload_n 1, 1) := by decide +kernel
theorem dX6_copyFrom_17 : decode cX6_copyFrom 17 = .ok (.getfield 9, 3) := by decide +kernel
theorem dX6_copyFrom_20 : decode cX6_copyFrom 20 = .ok (.iconst 0, 1) := by decide +kernel
theorem dX6_copyFrom_21 : decode cX6_copyFrom 21 = .ok (.aload_n 0, 1) := by decide +kernel
theorem dX6_copyFrom_22 : decode cX6_copyFrom 22 = .ok (.getfield 9, 3) := by decide +kernel
theorem dX6_copyFrom_25 : decode cX6_copyFrom 25 = .ok (.iconst 0, 1) := by decide +kernel
theorem dX6_copyFrom_26 : decode cX6_copyFrom 26 = .ok (.aload_n 0, 1) := by decide +kernel
theorem dX6_copyFrom_27 : decode cX6_copyFrom 27 = .ok (.getfield 15, 3) := by decide +kernel
theorem dX6_copyFrom_30 : decode cX6_copyFrom 30 = .ok (.invokestatic 25, 3) := by decide +kernel
theorem dX6_copyFrom_33 : decode cX6_copyFrom 33 = .ok (.return_, 1) := by decide +kernel
theorem dX6_insertCode_0 : decode cX6_insertCode 0 = .ok (.iload_n 1, 1) := by decide +kernel
theorem dX6_insertCode_1 : decode cX6_insertCode 1 = .ok (.ifCond .lt 19, 3) := by decide +kernel
theorem dX6_insertCode_4 : decode cX6_insertCode 4 = .ok (.iload_n 1, 1) := by decide +kernel
theorem dX6_insertCode_5 : decode cX6_insertCode 5 = .ok (.aload_n 0, 1) := by decide +kernel
theorem dX6_insertCode_6 : decode cX6_insertCode 6 = .ok (.getfield 15, 3) := by decide +kernel
theorem dX6_insertCode_9 : decode cX6_insertCode 9 = .ok (.if_icmp .gt 11, 3) := by decide +kernel
theorem dX6_insertCode_12 : decode cX6_insertCode 12 = .ok (.aload_n 0, 1) := by decide +kernel
theorem dX6_insertCode_13 : decode cX6_insertCode 13 = .ok (.invokevirtual 31, 3) := by decide +kernel
theorem dX6_insertCode_16 : decode cX6_insertCode 16 = .ok (.iconst 1, 1) := by decide +kernel
theorem dX6_insertCode_17 : decode cX6_insertCode 17 = .ok (.if_icmp .ge 4, 3) := by decide +kernel
theorem dX6_insertCode_20 : decode cX6_insertCode 20 = .ok (.return_, 1) := by decide +kernel
theorem dX6_insertCode_21 : decode cX6_insertCode 21 = .ok (.aload_n 0, 1) := by decide +kernel
theorem dX6_insertCode_22 : decode cX6_insertCode 22 = .ok (.getfield 9, 3) := by decide +kernel
theorem dX6_insertCode_25 : decode cX6_insertCode 25 = .ok (.iload_n 1, 1) := by decide +kernel
theorem dX6_insertCode_26 : decode cX6_insertCode 26 = .ok (.aload_n 0, 1) := by decide +kernel
theorem dX6_insertCode_27 : decode cX6_insertCode 27 = .ok (.getfield 9, 3) := by decide +kernel
theorem dX6_insertCode_30 : decode cX6_insertCode 30 = .ok (.iload_n 1, 1) := by decide +kernel
theorem dX6_insertCode_31 : decode cX6_insertCode 31 = .ok (.iconst 1, 1) := by decide +kernel
theorem dX6_insertCode_32 : decode cX6_insertCode 32 = .ok (.iadd, 1) := by decide +kernel
theorem dX6_insertCode_33 : decode cX6_insertCode 33 = .ok (.aload_n 0, 1) := by decide +kernel
theorem dX6_insertCode_34 : decode cX6_insertCode 34 = .ok (.getfield 15, 3) := by decide +kernel
theorem dX6_insertCode_37 : decode cX6_insertCode 37 = .ok (.iload_n 1, 1) := by decide +kernel
theorem dX6_insertCode_38 : decode cX6_insertCode 38 = .ok (.isub, 1) := by decide +kernel
theorem dX6_insertCode_39 : decode cX6_insertCode 39 = .ok (.invokestatic 25, 3) := by decide +kernel
theorem dX6_insertCode_42 : decode cX6_insertCode 42 = .ok (.aload_n 0, 1) := by decide +kernel
theorem dX6_insertCode_43 : decode cX6_insertCode 43 = .ok (.dup, 1) := by decide +kernel
theorem dX6_insertCode_44 : decode cX6_insertCode 44 = .ok (.getfield 15, 3) := by decide +kernel
theorem dX6_insertCode_47 : decode cX6_insertCode 47 = .ok (.iconst 1, 1) := by decide +kernel
theorem dX6_insertCode_48 : decode cX6_insertCode 48 = .ok (.iadd, 1) := by decide +kernel
theorem dX6_insertCode_49 : decode cX6_insertCode 49 = .ok (.putfield 15, 3) := by decide +kernel
theorem dX6_insertCode_52 : decode cX6_insertCode 52 = .ok (.aload_n 0, 1) := by decide +kernel
theorem dX6_insertCode_53 : decode cX6_insertCode 53 = .ok (.getfield 9, 3) := by decide +kernel
theorem dX6_insertCode_56 : decode cX6_insertCode 56 = .ok (.iload_n 1, 1) := by decide +kernel
theorem dX6_insertCode_57 : decode cX6_insertCode 57 = .ok (.iload_n 2, 1) := by decide +kernel
theorem dX6_insertCode_58 : decode cX6_insertCode 58 = .ok (.iastore, 1) := by decide +kernel
theorem dX6_insertCode_59 : decode cX6_insertCode 59 = .ok (.return_, 1) := by decide +kernel
theorem dX6_insertPart_0 : decode cX6_insertPart 0 = .ok (.iload 4, 2) := by decide +kernel
theorem dX6_insertPart_2 : decode cX6_insertPart 2 = .ok (.iload_n 3, 1) := by decide +kernel
theorem dX6_insertPart_3 : decode cX6_insertPart 3 = .ok (.isub, 1) := by decide +kernel
theorem dX6_insertPart_4 : decode cX6_insertPart 4 = .ok (.istore 5, 2) := by decide +kernel
theorem dX6_insertPart_6 : decode cX6_insertPart 6 = .ok (.iload_n 3, 1) := by decide +kernel
theorem dX6_insertPart_7 : decode cX6_insertPart 7 = .ok (.ifCond .lt 38, 3) := by decide +kernel
theorem dX6_insertPart_10 : decode cX6_insertPart 10 = .ok (.iload 5, 2) := by decide +kernel
theorem dX6_insertPart_12 : decode cX6_insertPart 12 = .ok (.ifCond .lt 33, 3) := by decide +kernel
theorem dX6_insertPart_15 : decode cX6_insertPart 15 = .ok (.iload 4, 2) := by decide +kernel
theorem dX6_insertPart_17 : decode cX6_insertPart 17 = .ok (.aload_n 2, 1) := by decide +kernel
theorem dX6_insertPart_18 : decode cX6_insertPart 18 = .ok (.getfield 15, 3) := by decide +kernel
theorem dX6_insertPart_21 : decode cX6_insertPart 21 = .ok (.if_icmp .gt 24, 3) := by decide +kernel
theorem dX6_insertPart_24 : decode cX6_insertPart 24 = .ok (.iload_n 1, 1) := by decide +kernel
theorem dX6_insertPart_25 : decode cX6_insertPart 25 = .ok (.ifCond .lt 20, 3) := by decide +kernel
theorem dX6_insertPart_28 : decode cX6_insertPart 28 = .ok (.iload_n 1, 1) := by decide +kernel
theorem dX6_insertPart_29 : decode cX6_insertPart 29 = .ok (.aload_n 0, 1) := by decide +kernel
theorem dX6_insertPart_30 : decode cX6_insertPart 30 = .ok (.getfield 15, 3) := by decide +kernel
theorem dX6_insertPart_33 : decode cX6_insertPart 33 = .ok (.if_icmp .gt 12, 3) := by decide +kernel
theorem dX6_insertPart_36 : decode cX6_insertPart 36 = .ok (.iload 5, 2) := by decide +kernel
theorem dX6_insertPart_38 : decode cX6_insertPart 38 = .ok (.aload_n 0, 1) := by decide +kernel
theorem dX6_insertPart_39 : decode cX6_insertPart 39 = .ok (.invokevirtual 31, 3) := by decide +kernel
theorem dX6_insertPart_42 : decode cX6_insertPart 42 = .ok (.if_icmp .le 4, 3) := by decide +kernel
theorem dX6_insertPart_45 : decode cX6_insertPart 45 = .ok (.return_, 1) := by decide +kernel
theorem dX6_insertPart_46 : decode cX6_insertPart 46 = .ok (.aload_n 0, 1) := by decide +kernel
theorem dX6_insertPart_47 : decode cX6_insertPart 47 = .ok (.getfield 9, 3) := by decide +kernel
theorem dX6_insertPart_50 : decode cX6_insertPart 50 = .ok (.iload_n 1, 1) := by decide +kernel
theorem dX6_insertPart_51 : decode cX6_insertPart 51 = .ok (.aload_n 0, 1) := by decide +kernel
theorem dX6_insertPart_52 : decode cX6_insertPart 52 = .ok (.getfield 9, 3) := by decide +kernel
theorem dX6_insertPart_55 : decode cX6_insertPart 55 = .ok (.iload_n 1, 1) := by decide +kernel
theorem dX6_insertPart_56 : decode cX6_insertPart 56 = .ok (.iload 5, 2) := by decide +kernel
theorem dX6_insertPart_58 : decode cX6_insertPart 58 = .ok (.iadd, 1) := by decide +kernel
theorem dX6_insertPart_59 : decode cX6_insertPart 59 = .ok (.aload_n 0, 1) := by decide +kernel
theorem dX6_insertPart_60 : decode cX6_insertPart 60 = .ok (.getfield 15, 3) := by decide +kernel
theorem dX6_insertPart_63 : decode cX6_insertPart 63 = .ok (.iload_n 1, 1) := by decide +kernel
theorem dX6_insertPart_64 : decode cX6_insertPart 64 = .ok (.isub, 1) := by decide +kernel
theorem dX6_insertPart_65 : decode cX6_insertPart 65 = .ok (.invokestatic 25, 3) := by decide +kernel
theorem dX6_insertPart_68 : decode cX6_insertPart 68 = .ok (.aload_n 2, 1) := by decide +kernel
theorem dX6_insertPart_69 : decode cX6_insertPart 69 = .ok (.getfield 9, 3) := by decide +kernel
theorem dX6_insertPart_72 : decode cX6_insertPart 72 = .ok (.iload_n 3, 1) := by decide +kernel
theorem dX6_insertPart_73 : decode cX6_insertPart 73 = .ok (.aload_n 0, 1) := by decide +kernel
theorem dX6_insertPart_74 : decode cX6_insertPart 74 = .ok (.getfield 9, 3) := by decide +kernel
theorem dX6_insertPart_77 : decode cX6_insertPart 77 = .ok (.iload_n 1, 1) := by decide +kernel
theorem dX6_insertPart_78 : decode cX6_insertPart 78 = .ok (.iload 5, 2) := by decide +kernel
theorem dX6_insertPart_80 : decode cX6_insertPart 80 = .ok (.invokestatic 25, 3) := by decide +kernel
theorem dX6_insertPart_83 : decode cX6_insertPart 83 = .ok (.aload_n 0, 1) := by decide +kernel
theorem dX6_insertPart_84 : decode cX6_insertPart 84 = .ok (.dup, 1) := by decide +kernel
theorem dX6_insertPart_85 : decode cX6_insertPart 85 = .ok (.getfield 15, 3) := by decide +kernel
theorem dX6_insertPart_88 : decode cX6_insertPart 88 = .ok (.iload 5, 2) := by decide +kernel
theorem dX6_insertPart_90 : decode cX6_insertPart 90 = .ok (.iadd, 1) := by decide +kernel
theorem dX6_insertPart_91 : decode cX6_insertPart 91 = .ok (.putfield 15, 3) := by decide +kernel
theorem dX6_insertPart_94 : decode cX6_insertPart 94 = .ok (.return_, 1) := by decide +kernel
theorem dX6_takeOut_0 : decode cX6_takeOut 0 = .ok (.iload_n 1, 1) := by decide +kernel
theorem dX6_takeOut_1 : decode cX6_takeOut 1 = .ok (.ifCond .lt 16, 3) := by decide +kernel
theorem dX6_takeOut_4 : decode cX6_takeOut 4 = .ok (.iload_n 1, 1) := by decide +kernel
theorem dX6_takeOut_5 : decode cX6_takeOut 5 = .ok (.iload_n 2, 1) := by decide +kernel
theorem dX6_takeOut_6 : decode cX6_takeOut 6 = .ok (.if_icmp .gt 11, 3) := by decide +kernel
theorem dX6_takeOut_9 : decode cX6_takeOut 9 = .ok (.iload_n 2, 1) := by decide +kernel
theorem dX6_takeOut_10 : decode cX6_takeOut 10 = .ok (.aload_n 0, 1) := by decide +kernel
theorem dX6_takeOut_11 : decode cX6_takeOut 11 = .ok (.getfield 15, 3) := by decide +kernel
theorem dX6_takeOut_14 : decode cX6_takeOut 14 = .ok (.if_icmp .le 4, 3) := by decide +kernel
theorem dX6_takeOut_17 : decode cX6_takeOut 17 = .ok (.return_, 1) := by decide +kernel
theorem dX6_takeOut_18 : decode cX6_takeOut 18 = .ok (.aload_n 0, 1) := by decide +kernel
theorem dX6_takeOut_19 : decode cX6_takeOut 19 = .ok (.getfield 9, 3) := by decide +kernel
theorem dX6_takeOut_22 : decode cX6_takeOut 22 = .ok (.iload_n 2, 1) := by decide +kernel
theorem dX6_takeOut_23 : decode cX6_takeOut 23 = .ok (.aload_n 0, 1) := by decide +kernel
theorem dX6_takeOut_24 : decode cX6_takeOut 24 = .ok (.getfield 9, 3) := by decide +kernel
theorem dX6_takeOut_27 : decode cX6_takeOut 27 = .ok (.iload_n 1, 1) := by decide +kernel
theorem dX6_takeOut_28 : decode cX6_takeOut 28 = .ok (.aload_n 0, 1) := by decide +kernel
theorem dX6_takeOut_29 : decode cX6_takeOut 29 = .ok (.getfield 15, 3) := by decide +kernel
theorem dX6_takeOut_32 : decode cX6_takeOut 32 = .ok (.iload_n 2, 1) := by decide +kernel
theorem dX6_takeOut_33 : decode cX6_takeOut 33 = .ok (.isub, 1) := by decide +kernel
theorem dX6_takeOut_34 : decode cX6_takeOut 34 = .ok (.invokestatic 25, 3) := by decide +kernel
theorem dX6_takeOut_37 : decode cX6_takeOut 37 = .ok (.aload_n 0, 1) := by decide +kernel
theorem dX6_takeOut_38 : decode cX6_takeOut 38 = .ok (.dup, 1) := by decide +kernel
theorem dX6_takeOut_39 : decode cX6_takeOut 39 = .ok (.getfield 15, 3) := by decide +kernel
theorem dX6_takeOut_42 : decode cX6_takeOut 42 = .ok (.iload_n 2, 1) := by decide +kernel
theorem dX6_takeOut_43 : decode cX6_takeOut 43 = .ok (.iload_n 1, 1) := by decide +kernel
theorem dX6_takeOut_44 : decode cX6_takeOut 44 = .ok (.isub, 1) := by decide +kernel
theorem dX6_takeOut_45 : decode cX6_takeOut 45 = .ok (.isub, 1) := by decide +kernel
theorem dX6_takeOut_46 : decode cX6_takeOut 46 = .ok (.putfield 15, 3) := by decide +kernel
theorem dX6_takeOut_49 : decode cX6_takeOut 49 = .ok (.return_, 1) := by decide +kernel
theorem dX6_standsAt_0 : decode cX6_standsAt 0 = .ok (.iload_n 1, 1) := by decide +kernel
theorem dX6_standsAt_1 : decode cX6_standsAt 1 = .ok (.ifCond .lt 16, 3) := by decide +kernel
theorem dX6_standsAt_4 : decode cX6_standsAt 4 = .ok (.iload_n 1, 1) := by decide +kernel
theorem dX6_standsAt_5 : decode cX6_standsAt 5 = .ok (.aload_n 0, 1) := by decide +kernel
theorem dX6_standsAt_6 : decode cX6_standsAt 6 = .ok (.getfield 15, 3) := by decide +kernel
theorem dX6_standsAt_9 : decode cX6_standsAt 9 = .ok (.aload_n 2, 1) := by decide +kernel
theorem dX6_standsAt_10 : decode cX6_standsAt 10 = .ok (.getfield 15, 3) := by decide +kernel
theorem dX6_standsAt_13 : decode cX6_standsAt 13 = .ok (.isub, 1) := by decide +kernel
theorem dX6_standsAt_14 : decode cX6_standsAt 14 = .ok (.if_icmp .le 5, 3) := by decide +kernel
theorem dX6_standsAt_17 : decode cX6_standsAt 17 = .ok (.iconst 0, 1) := by decide +kernel
theorem dX6_standsAt_18 : decode cX6_standsAt 18 = .ok (.ireturn, 1) := by decide +kernel
theorem dX6_standsAt_19 : decode cX6_standsAt 19 = .ok (.iconst 0, 1) := by decide +kernel
theorem dX6_standsAt_20 : decode cX6_standsAt 20 = .ok (.istore_n 3, 1) := by decide +kernel
theorem dX6_standsAt_21 : decode cX6_standsAt 21 = .ok (.iload_n 3, 1) := by decide +kernel
theorem dX6_standsAt_22 : decode cX6_standsAt 22 = .ok (.aload_n 2, 1) := by decide +kernel
theorem dX6_standsAt_23 : decode cX6_standsAt 23 = .ok (.getfield 15, 3) := by decide +kernel
theorem dX6_standsAt_26 : decode cX6_standsAt 26 = .ok (.if_icmp .ge 26, 3) := by decide +kernel
theorem dX6_standsAt_29 : decode cX6_standsAt 29 = .ok (.aload_n 0, 1) := by decide +kernel
theorem dX6_standsAt_30 : decode cX6_standsAt 30 = .ok (.iload_n 1, 1) := by decide +kernel
theorem dX6_standsAt_31 : decode cX6_standsAt 31 = .ok (.iload_n 3, 1) := by decide +kernel
theorem dX6_standsAt_32 : decode cX6_standsAt 32 = .ok (.iadd, 1) := by decide +kernel
theorem dX6_standsAt_33 : decode cX6_standsAt 33 = .ok (.invokevirtual 35, 3) := by decide +kernel
theorem dX6_standsAt_36 : decode cX6_standsAt 36 = .ok (.aload_n 2, 1) := by decide +kernel
theorem dX6_standsAt_37 : decode cX6_standsAt 37 = .ok (.iload_n 3, 1) := by decide +kernel
theorem dX6_standsAt_38 : decode cX6_standsAt 38 = .ok (.invokevirtual 35, 3) := by decide +kernel
theorem dX6_standsAt_41 : decode cX6_standsAt 41 = .ok (.if_icmp .eq 5, 3) := by decide +kernel
theorem dX6_standsAt_44 : decode cX6_standsAt 44 = .ok (.iconst 0, 1) := by decide +kernel
theorem dX6_standsAt_45 : decode cX6_standsAt 45 = .ok (.ireturn, 1) := by decide +kernel
theorem dX6_standsAt_46 : decode cX6_standsAt 46 = .ok (.iinc 3 1, 3) := by decide +kernel
theorem dX6_standsAt_49 : decode cX6_standsAt 49 = .ok (.goto (-28), 3) := by decide +kernel
theorem dX6_standsAt_52 : decode cX6_standsAt 52 = .ok (.iconst 1, 1) := by decide +kernel
theorem dX6_standsAt_53 : decode cX6_standsAt 53 = .ok (.ireturn, 1) := by decide +kernel
theorem dX7_init_0 : decode cX7_init 0 = .ok (.aload_n 0, 1) := by decide +kernel
theorem dX7_init_1 : decode cX7_init 1 = .ok (.invokespecial 1, 3) := by decide +kernel
theorem dX7_init_4 : decode cX7_init 4 = .ok (.aload_n 0, 1) := by decide +kernel
theorem dX7_init_5 : decode cX7_init 5 = .ok (.new 7, 3) := by decide +kernel
theorem dX7_init_8 : decode cX7_init 8 = .ok (.dup, 1) := by decide +kernel
theorem dX7_init_9 : decode cX7_init 9 = .ok (.invokespecial 9, 3) := by decide +kernel
theorem dX7_init_12 : decode cX7_init 12 = .ok (.putfield 10, 3) := by decide +kernel
theorem dX7_init_15 : decode cX7_init 15 = .ok (.aload_n 0, 1) := by decide +kernel
theorem dX7_init_16 : decode cX7_init 16 = .ok (.new 16, 3) := by decide +kernel
theorem dX7_init_19 : decode cX7_init 19 = .ok (.dup, 1) := by decide +kernel
theorem dX7_init_20 : decode cX7_init 20 = .ok (.invokespecial 18, 3) := by decide +kernel
theorem dX7_init_23 : decode cX7_init 23 = .ok (.putfield 19, 3) := by decide +kernel
theorem dX7_init_26 : decode cX7_init 26 = .ok (.aload_n 0, 1) := by decide +kernel
theorem dX7_init_27 : decode cX7_init 27 = .ok (.iconst 2, 1) := by decide +kernel
theorem dX7_init_28 : decode cX7_init 28 = .ok (.anewarray 7, 3) := by decide +kernel
theorem dX7_init_31 : decode cX7_init 31 = .ok (.putfield 23, 3) := by decide +kernel
theorem dX7_init_34 : decode cX7_init 34 = .ok (.iconst 0, 1) := by decide +kernel
theorem dX7_init_35 : decode cX7_init 35 = .ok (.istore_n 1, 1) := by decide +kernel
theorem dX7_init_36 : decode cX7_init 36 = .ok (.iload_n 1, 1) := by decide +kernel
theorem dX7_init_37 : decode cX7_init 37 = .ok (.iconst 2, 1) := by decide +kernel
theorem dX7_init_38 : decode cX7_init 38 = .ok (.if_icmp .ge 22, 3) := by decide +kernel
theorem dX7_init_41 : decode cX7_init 41 = .ok (.aload_n 0, 1) := by decide +kernel
theorem dX7_init_42 : decode cX7_init 42 = .ok (.getfield 23, 3) := by decide +kernel
theorem dX7_init_45 : decode cX7_init 45 = .ok (.iload_n 1, 1) := by decide +kernel
theorem dX7_init_46 : decode cX7_init 46 = .ok (.new 7, 3) := by decide +kernel
theorem dX7_init_49 : decode cX7_init 49 = .ok (.dup, 1) := by decide +kernel
theorem dX7_init_50 : decode cX7_init 50 = .ok (.invokespecial 9, 3) := by decide +kernel
theorem dX7_init_53 : decode cX7_init 53 = .ok (.aastore, 1) := by decide +kernel
theorem dX7_init_54 : decode cX7_init 54 = .ok (.iinc 1 1, 3) := by decide +kernel
theorem dX7_init_57 : decode cX7_init 57 = .ok (.goto (-21), 3) := by decide +kernel
theorem dX7_init_60 : decode cX7_init 60 = .ok (.aload_n 0, 1) := by decide +kernel
theorem dX7_init_61 : decode cX7_init 61 = .ok (.iconst 2, 1) := by decide +kernel
theorem dX7_init_62 : decode cX7_init 62 = .ok (.newarray .boolean, 2) := by decide +kernel
theorem dX7_init_64 : decode cX7_init 64 = .ok (.putfield 27, 3) := by decide +kernel
theorem dX7_init_67 : decode cX7_init 67 = .ok (.aload_n 0, 1) := by decide +kernel
theorem dX7_init_68 : decode cX7_init 68 = .ok (.new 31, 3) := by decide +kernel
theorem dX7_init_71 : decode cX7_init 71 = .ok (.dup, 1) := by decide +kernel
theorem dX7_init_72 : decode cX7_init 72 = .ok (.bipush 60, 2) := by decide +kernel
theorem dX7_init_74 : decode cX7_init 74 = .ok (.invokespecial 33, 3) := by decide +kernel
theorem dX7_init_77 : decode cX7_init 77 = .ok (.putfield 36, 3) := by decide +kernel
theorem dX7_init_80 : decode cX7_init 80 = .ok (.return_, 1) := by decide +kernel
theorem dX7_write_0 : decode cX7_write 0 = .ok (.iload_n 1, 1) := by decide +kernel
theorem dX7_write_1 : decode cX7_write 1 = .ok (.bipush 10, 2) := by decide +kernel
theorem dX7_write_3 : decode cX7_write 3 = .ok (.if_icmp .eq 25, 3) := by decide +kernel
theorem dX7_write_6 : decode cX7_write 6 = .ok (.iload_n 1, 1) := by decide +kernel
theorem dX7_write_7 : decode cX7_write 7 = .ok (.bipush 32, 2) := by decide +kernel
theorem dX7_write_9 : decode cX7_write 9 = .ok (.if_icmp .lt 9, 3) := by decide +kernel
theorem dX7_write_12 : decode cX7_write 12 = .ok (.iload_n 1, 1) := by decide +kernel
theorem dX7_write_13 : decode cX7_write 13 = .ok (.bipush 126, 2) := by decide +kernel
theorem dX7_write_15 : decode cX7_write 15 = .ok (.if_icmp .le 13, 3) := by decide +kernel
theorem dX7_write_18 : decode cX7_write 18 = .ok (.new 40, 3) := by decide +kernel
theorem dX7_write_21 : decode cX7_write 21 = .ok (.dup, 1) := by decide +kernel
theorem dX7_write_22 : decode cX7_write 22 = .ok (.ldc 42, 2) := by decide +kernel
theorem dX7_write_24 : decode cX7_write 24 = .ok (.invokespecial 44, 3) := by decide +kernel
theorem dX7_write_27 : decode cX7_write 27 = .ok (.athrow, 1) := by decide +kernel
theorem dX7_write_28 : decode cX7_write 28 = .ok (.aload_n 0, 1) := by decide +kernel
theorem dX7_write_29 : decode cX7_write 29 = .ok (.getfield 19, 3) := by decide +kernel
theorem dX7_write_32 : decode cX7_write 32 = .ok (.aload_n 0, 1) := by decide +kernel
theorem dX7_write_33 : decode cX7_write 33 = .ok (.getfield 10, 3) := by decide +kernel
theorem dX7_write_36 : decode cX7_write 36 = .ok (.invokevirtual 47, 3) := by decide +kernel
theorem dX7_write_39 : decode cX7_write 39 = .ok (.aload_n 0, 1) := by decide +kernel
theorem dX7_write_40 : decode cX7_write 40 = .ok (.aload_n 0, 1) := by decide +kernel
theorem dX7_write_41 : decode cX7_write 41 = .ok (.getfield 10, 3) := by decide +kernel
theorem dX7_write_44 : decode cX7_write 44 = .ok (.iload_n 1, 1) := by decide +kernel
theorem dX7_write_45 : decode cX7_write 45 = .ok (.invokevirtual 51, 3) := by decide +kernel
theorem dX7_write_48 : decode cX7_write 48 = .ok (.invokevirtual 55, 3) := by decide +kernel
theorem dX7_write_51 : decode cX7_write 51 = .ok (.ireturn, 1) := by decide +kernel
theorem dX7_rub_0 : decode cX7_rub 0 = .ok (.aload_n 0, 1) := by decide +kernel
theorem dX7_rub_1 : decode cX7_rub 1 = .ok (.getfield 19, 3) := by decide +kernel
theorem dX7_rub_4 : decode cX7_rub 4 = .ok (.aload_n 0, 1) := by decide +kernel
theorem dX7_rub_5 : decode cX7_rub 5 = .ok (.getfield 10, 3) := by decide +kernel
theorem dX7_rub_8 : decode cX7_rub 8 = .ok (.invokevirtual 47, 3) := by decide +kernel
theorem dX7_rub_11 : decode cX7_rub 11 = .ok (.aload_n 0, 1) := by decide +kernel
theorem dX7_rub_12 : decode cX7_rub 12 = .ok (.aload_n 0, 1) := by decide +kernel
theorem dX7_rub_13 : decode cX7_rub 13 = .ok (.getfield 10, 3) := by decide +kernel
theorem dX7_rub_16 : decode cX7_rub 16 = .ok (.invokevirtual 58, 3) := by decide +kernel
theorem dX7_rub_19 : decode cX7_rub 19 = .ok (.invokevirtual 55, 3) := by decide +kernel
theorem dX7_rub_22 : decode cX7_rub 22 = .ok (.ireturn, 1) := by decide +kernel
theorem dX7_swap_0 : decode cX7_swap 0 = .ok (.aload_n 0, 1) := by decide +kernel
theorem dX7_swap_1 : decode cX7_swap 1 = .ok (.getfield 19, 3) := by decide +kernel
theorem dX7_swap_4 : decode cX7_swap 4 = .ok (.aload_n 0, 1) := by decide +kernel
theorem dX7_swap_5 : decode cX7_swap 5 = .ok (.getfield 10, 3) := by decide +kernel
theorem dX7_swap_8 : decode cX7_swap 8 = .ok (.invokevirtual 47, 3) := by decide +kernel
theorem dX7_swap_11 : decode cX7_swap 11 = .ok (.aload_n 0, 1) := by decide +kernel
theorem dX7_swap_12 : decode cX7_swap 12 = .ok (.aload_n 0, 1) := by decide +kernel
theorem dX7_swap_13 : decode cX7_swap 13 = .ok (.getfield 10, 3) := by decide +kernel
theorem dX7_swap_16 : decode cX7_swap 16 = .ok (.invokevirtual 62, 3) := by decide +kernel
theorem dX7_swap_19 : decode cX7_swap 19 = .ok (.invokevirtual 55, 3) := by decide +kernel
theorem dX7_swap_22 : decode cX7_swap 22 = .ok (.ireturn, 1) := by decide +kernel
theorem dX7_greaten_0 : decode cX7_greaten 0 = .ok (.aload_n 0, 1) := by decide +kernel
theorem dX7_greaten_1 : decode cX7_greaten 1 = .ok (.getfield 19, 3) := by decide +kernel
theorem dX7_greaten_4 : decode cX7_greaten 4 = .ok (.aload_n 0, 1) := by decide +kernel
theorem dX7_greaten_5 : decode cX7_greaten 5 = .ok (.getfield 10, 3) := by decide +kernel
theorem dX7_greaten_8 : decode cX7_greaten 8 = .ok (.invokevirtual 47, 3) := by decide +kernel
theorem dX7_greaten_11 : decode cX7_greaten 11 = .ok (.aload_n 0, 1) := by decide +kernel
theorem dX7_greaten_12 : decode cX7_greaten 12 = .ok (.aload_n 0, 1) := by decide +kernel
theorem dX7_greaten_13 : decode cX7_greaten 13 = .ok (.getfield 10, 3) := by decide +kernel
theorem dX7_greaten_16 : decode cX7_greaten 16 = .ok (.invokevirtual 65, 3) := by decide +kernel
theorem dX7_greaten_19 : decode cX7_greaten 19 = .ok (.invokevirtual 55, 3) := by decide +kernel
theorem dX7_greaten_22 : decode cX7_greaten 22 = .ok (.ireturn, 1) := by decide +kernel
theorem dX7_goTo_0 : decode cX7_goTo 0 = .ok (.iload_n 1, 1) := by decide +kernel
theorem dX7_goTo_1 : decode cX7_goTo 1 = .ok (.ifCond .lt 20, 3) := by decide +kernel
theorem dX7_goTo_4 : decode cX7_goTo 4 = .ok (.iload_n 1, 1) := by decide +kernel
theorem dX7_goTo_5 : decode cX7_goTo 5 = .ok (.aload_n 0, 1) := by decide +kernel
theorem dX7_goTo_6 : decode cX7_goTo 6 = .ok (.getfield 10, 3) := by decide +kernel
theorem dX7_goTo_9 : decode cX7_goTo 9 = .ok (.getfield 68, 3) := by decide +kernel
theorem dX7_goTo_12 : decode cX7_goTo 12 = .ok (.getfield 72, 3) := by decide +kernel
theorem dX7_goTo_15 : decode cX7_goTo 15 = .ok (.invokevirtual 77, 3) := by decide +kernel
theorem dX7_goTo_18 : decode cX7_goTo 18 = .ok (.if_icmp .le 13, 3) := by decide +kernel
theorem dX7_goTo_21 : decode cX7_goTo 21 = .ok (.new 40, 3) := by decide +kernel
theorem dX7_goTo_24 : decode cX7_goTo 24 = .ok (.dup, 1) := by decide +kernel
theorem dX7_goTo_25 : decode cX7_goTo 25 = .ok (.ldc 80, 2) := by decide +kernel
theorem dX7_goTo_27 : decode cX7_goTo 27 = .ok (.invokespecial 44, 3) := by decide +kernel
theorem dX7_goTo_30 : decode cX7_goTo 30 = .ok (.athrow, 1) := by decide +kernel
theorem dX7_goTo_31 : decode cX7_goTo 31 = .ok (.aload_n 0, 1) := by decide +kernel
theorem dX7_goTo_32 : decode cX7_goTo 32 = .ok (.getfield 19, 3) := by decide +kernel
theorem dX7_goTo_35 : decode cX7_goTo 35 = .ok (.aload_n 0, 1) := by decide +kernel
theorem dX7_goTo_36 : decode cX7_goTo 36 = .ok (.getfield 10, 3) := by decide +kernel
theorem dX7_goTo_39 : decode cX7_goTo 39 = .ok (.invokevirtual 47, 3) := by decide +kernel
theorem dX7_goTo_42 : decode cX7_goTo 42 = .ok (.aload_n 0, 1) := by decide +kernel
theorem dX7_goTo_43 : decode cX7_goTo 43 = .ok (.aload_n 0, 1) := by decide +kernel
theorem dX7_goTo_44 : decode cX7_goTo 44 = .ok (.getfield 10, 3) := by decide +kernel
theorem dX7_goTo_47 : decode cX7_goTo 47 = .ok (.iload_n 1, 1) := by decide +kernel
theorem dX7_goTo_48 : decode cX7_goTo 48 = .ok (.invokevirtual 82, 3) := by decide +kernel
theorem dX7_goTo_51 : decode cX7_goTo 51 = .ok (.invokevirtual 55, 3) := by decide +kernel
theorem dX7_goTo_54 : decode cX7_goTo 54 = .ok (.ireturn, 1) := by decide +kernel
theorem dX7_wordOn_0 : decode cX7_wordOn 0 = .ok (.aload_n 0, 1) := by decide +kernel
theorem dX7_wordOn_1 : decode cX7_wordOn 1 = .ok (.getfield 19, 3) := by decide +kernel
theorem dX7_wordOn_4 : decode cX7_wordOn 4 = .ok (.aload_n 0, 1) := by decide +kernel
theorem dX7_wordOn_5 : decode cX7_wordOn 5 = .ok (.getfield 10, 3) := by decide +kernel
theorem dX7_wordOn_8 : decode cX7_wordOn 8 = .ok (.invokevirtual 47, 3) := by decide +kernel
theorem dX7_wordOn_11 : decode cX7_wordOn 11 = .ok (.aload_n 0, 1) := by decide +kernel
theorem dX7_wordOn_12 : decode cX7_wordOn 12 = .ok (.aload_n 0, 1) := by decide +kernel
theorem dX7_wordOn_13 : decode cX7_wordOn 13 = .ok (.getfield 10, 3) := by decide +kernel
theorem dX7_wordOn_16 : decode cX7_wordOn 16 = .ok (.invokevirtual 85, 3) := by decide +kernel
theorem dX7_wordOn_19 : decode cX7_wordOn 19 = .ok (.invokevirtual 55, 3) := by decide +kernel
theorem dX7_wordOn_22 : decode cX7_wordOn 22 = .ok (.ireturn, 1) := by decide +kernel
theorem dX7_wordBack_0 : decode cX7_wordBack 0 = .ok (.aload_n 0, 1) := by decide +kernel
theorem dX7_wordBack_1 : decode cX7_wordBack 1 = .ok (.getfield 19, 3) := by decide +kernel
theorem dX7_wordBack_4 : decode cX7_wordBack 4 = .ok (.aload_n 0, 1) := by decide +kernel
theorem dX7_wordBack_5 : decode cX7_wordBack 5 = .ok (.getfield 10, 3) := by decide +kernel
theorem dX7_wordBack_8 : decode cX7_wordBack 8 = .ok (.invokevirtual 47, 3) := by decide +kernel
theorem dX7_wordBack_11 : decode cX7_wordBack 11 = .ok (.aload_n 0, 1) := by decide +kernel
theorem dX7_wordBack_12 : decode cX7_wordBack 12 = .ok (.aload_n 0, 1) := by decide +kernel
theorem dX7_wordBack_13 : decode cX7_wordBack 13 = .ok (.getfield 10, 3) := by decide +kernel
theorem dX7_wordBack_16 : decode cX7_wordBack 16 = .ok (.invokevirtual 88, 3) := by decide +kernel
theorem dX7_wordBack_19 : decode cX7_wordBack 19 = .ok (.invokevirtual 55, 3) := by decide +kernel
theorem dX7_wordBack_22 : decode cX7_wordBack 22 = .ok (.ireturn, 1) := by decide +kernel
theorem dX7_lineBegin_0 : decode cX7_lineBegin 0 = .ok (.aload_n 0, 1) := by decide +kernel
theorem dX7_lineBegin_1 : decode cX7_lineBegin 1 = .ok (.getfield 19, 3) := by decide +kernel
theorem dX7_lineBegin_4 : decode cX7_lineBegin 4 = .ok (.aload_n 0, 1) := by decide +kernel
theorem dX7_lineBegin_5 : decode cX7_lineBegin 5 = .ok (.getfield 10, 3) := by decide +kernel
theorem dX7_lineBegin_8 : decode cX7_lineBegin 8 = .ok (.invokevirtual 47, 3) := by decide +kernel
theorem dX7_lineBegin_11 : decode cX7_lineBegin 11 = .ok (.aload_n 0, 1) := by decide +kernel
theorem dX7_lineBegin_12 : decode cX7_lineBegin 12 = .ok (.aload_n 0, 1) := by decide +kernel
theorem dX7_lineBegin_13 : decode cX7_lineBegin 13 = .ok (.getfield 10, 3) := by decide +kernel
theorem dX7_lineBegin_16 : decode cX7_lineBegin 16 = .ok (.invokevirtual 91, 3) := by decide +kernel
theorem dX7_lineBegin_19 : decode cX7_lineBegin 19 = .ok (.invokevirtual 55, 3) := by decide +kernel
theorem dX7_lineBegin_22 : decode cX7_lineBegin 22 = .ok (.ireturn, 1) := by decide +kernel
theorem dX7_lineEnd_0 : decode cX7_lineEnd 0 = .ok (.aload_n 0, 1) := by decide +kernel
theorem dX7_lineEnd_1 : decode cX7_lineEnd 1 = .ok (.getfield 19, 3) := by decide +kernel
theorem dX7_lineEnd_4 : decode cX7_lineEnd 4 = .ok (.aload_n 0, 1) := by decide +kernel
theorem dX7_lineEnd_5 : decode cX7_lineEnd 5 = .ok (.getfield 10, 3) := by decide +kernel
theorem dX7_lineEnd_8 : decode cX7_lineEnd 8 = .ok (.invokevirtual 47, 3) := by decide +kernel
theorem dX7_lineEnd_11 : decode cX7_lineEnd 11 = .ok (.aload_n 0, 1) := by decide +kernel
theorem dX7_lineEnd_12 : decode cX7_lineEnd 12 = .ok (.aload_n 0, 1) := by decide +kernel
theorem dX7_lineEnd_13 : decode cX7_lineEnd 13 = .ok (.getfield 10, 3) := by decide +kernel
theorem dX7_lineEnd_16 : decode cX7_lineEnd 16 = .ok (.invokevirtual 94, 3) := by decide +kernel
theorem dX7_lineEnd_19 : decode cX7_lineEnd 19 = .ok (.invokevirtual 55, 3) := by decide +kernel
theorem dX7_lineEnd_22 : decode cX7_lineEnd 22 = .ok (.ireturn, 1) := by decide +kernel
theorem dX7_goLines_0 : decode cX7_goLines 0 = .ok (.iload_n 1, 1) := by decide +kernel
theorem dX7_goLines_1 : decode cX7_goLines 1 = .ok (.bipush (-50), 2) := by decide +kernel
theorem dX7_goLines_3 : decode cX7_goLines 3 = .ok (.if_icmp .lt 13, 3) := by decide +kernel
theorem dX7_goLines_6 : decode cX7_goLines 6 = .ok (.iload_n 1, 1) := by decide +kernel
theorem dX7_goLines_7 : decode cX7_goLines 7 = .ok (.bipush 50, 2) := by decide +kernel
theorem dX7_goLines_9 : decode cX7_goLines 9 = .ok (.if_icmp .gt 7, 3) := by decide +kernel
theorem dX7_goLines_12 : decode cX7_goLines 12 = .ok (.iload_n 1, 1) := by decide +kernel
theorem dX7_goLines_13 : decode cX7_goLines 13 = .ok (.ifCond .ne 13, 3) := by decide +kernel
theorem dX7_goLines_16 : decode cX7_goLines 16 = .ok (.new 40, 3) := by decide +kernel
theorem dX7_goLines_19 : decode cX7_goLines 19 = .ok (.dup, 1) := by decide +kernel
theorem dX7_goLines_20 : decode cX7_goLines 20 = .ok (.ldc 97, 2) := by decide +kernel
theorem dX7_goLines_22 : decode cX7_goLines 22 = .ok (.invokespecial 44, 3) := by decide +kernel
theorem dX7_goLines_25 : decode cX7_goLines 25 = .ok (.athrow, 1) := by decide +kernel
theorem dX7_goLines_26 : decode cX7_goLines 26 = .ok (.aload_n 0, 1) := by decide +kernel
theorem dX7_goLines_27 : decode cX7_goLines 27 = .ok (.getfield 19, 3) := by decide +kernel
theorem dX7_goLines_30 : decode cX7_goLines 30 = .ok (.aload_n 0, 1) := by decide +kernel
theorem dX7_goLines_31 : decode cX7_goLines 31 = .ok (.getfield 10, 3) := by decide +kernel
theorem dX7_goLines_34 : decode cX7_goLines 34 = .ok (.invokevirtual 47, 3) := by decide +kernel
theorem dX7_goLines_37 : decode cX7_goLines 37 = .ok (.aload_n 0, 1) := by decide +kernel
theorem dX7_goLines_38 : decode cX7_goLines 38 = .ok (.aload_n 0, 1) := by decide +kernel
theorem dX7_goLines_39 : decode cX7_goLines 39 = .ok (.getfield 10, 3) := by decide +kernel
theorem dX7_goLines_42 : decode cX7_goLines 42 = .ok (.iload_n 1, 1) := by decide +kernel
theorem dX7_goLines_43 : decode cX7_goLines 43 = .ok (.invokevirtual 99, 3) := by decide +kernel
theorem dX7_goLines_46 : decode cX7_goLines 46 = .ok (.invokevirtual 55, 3) := by decide +kernel
theorem dX7_goLines_49 : decode cX7_goLines 49 = .ok (.ireturn, 1) := by decide +kernel
theorem dX7_mark_0 : decode cX7_mark 0 = .ok (.aload_n 0, 1) := by decide +kernel
theorem dX7_mark_1 : decode cX7_mark 1 = .ok (.getfield 19, 3) := by decide +kernel
theorem dX7_mark_4 : decode cX7_mark 4 = .ok (.aload_n 0, 1) := by decide +kernel
theorem dX7_mark_5 : decode cX7_mark 5 = .ok (.getfield 10, 3) := by decide +kernel
theorem dX7_mark_8 : decode cX7_mark 8 = .ok (.invokevirtual 47, 3) := by decide +kernel
theorem dX7_mark_11 : decode cX7_mark 11 = .ok (.aload_n 0, 1) := by decide +kernel
theorem dX7_mark_12 : decode cX7_mark 12 = .ok (.aload_n 0, 1) := by decide +kernel
theorem dX7_mark_13 : decode cX7_mark 13 = .ok (.getfield 10, 3) := by decide +kernel
theorem dX7_mark_16 : decode cX7_mark 16 = .ok (.invokevirtual 102, 3) := by decide +kernel
theorem dX7_mark_19 : decode cX7_mark 19 = .ok (.invokevirtual 55, 3) := by decide +kernel
theorem dX7_mark_22 : decode cX7_mark 22 = .ok (.ireturn, 1) := by decide +kernel
theorem dX7_exchange_0 : decode cX7_exchange 0 = .ok (.aload_n 0, 1) := by decide +kernel
theorem dX7_exchange_1 : decode cX7_exchange 1 = .ok (.getfield 19, 3) := by decide +kernel
theorem dX7_exchange_4 : decode cX7_exchange 4 = .ok (.aload_n 0, 1) := by decide +kernel
theorem dX7_exchange_5 : decode cX7_exchange 5 = .ok (.getfield 10, 3) := by decide +kernel
theorem dX7_exchange_8 : decode cX7_exchange 8 = .ok (.invokevirtual 47, 3) := by decide +kernel
theorem dX7_exchange_11 : decode cX7_exchange 11 = .ok (.aload_n 0, 1) := by decide +kernel
theorem dX7_exchange_12 : decode cX7_exchange 12 = .ok (.aload_n 0, 1) := by decide +kernel
theorem dX7_exchange_13 : decode cX7_exchange 13 = .ok (.getfield 10, 3) := by decide +kernel
theorem dX7_exchange_16 : decode cX7_exchange 16 = .ok (.invokevirtual 105, 3) := by decide +kernel
theorem dX7_exchange_19 : decode cX7_exchange 19 = .ok (.invokevirtual 55, 3) := by decide +kernel
theorem dX7_exchange_22 : decode cX7_exchange 22 = .ok (.ireturn, 1) := by decide +kernel
theorem dX7_find_0 : decode cX7_find 0 = .ok (.aload_n 0, 1) := by decide +kernel
theorem dX7_find_1 : decode cX7_find 1 = .ok (.getfield 36, 3) := by decide +kernel
theorem dX7_find_4 : decode cX7_find 4 = .ok (.invokevirtual 77, 3) := by decide +kernel
theorem dX7_find_7 : decode cX7_find 7 = .ok (.ifCond .ne 13, 3) := by decide +kernel
theorem dX7_find_10 : decode cX7_find 10 = .ok (.new 40, 3) := by decide +kernel
theorem dX7_find_13 : decode cX7_find 13 = .ok (.dup, 1) := by decide +kernel
theorem dX7_find_14 : decode cX7_find 14 = .ok (.ldc 108, 2) := by decide +kernel
theorem dX7_find_16 : decode cX7_find 16 = .ok (.invokespecial 44, 3) := by decide +kernel
theorem dX7_find_19 : decode cX7_find 19 = .ok (.athrow, 1) := by decide +kernel
theorem dX7_find_20 : decode cX7_find 20 = .ok (.aload_n 0, 1) := by decide +kernel
theorem dX7_find_21 : decode cX7_find 21 = .ok (.getfield 19, 3) := by decide +kernel
theorem dX7_find_24 : decode cX7_find 24 = .ok (.aload_n 0, 1) := by decide +kernel
theorem dX7_find_25 : decode cX7_find 25 = .ok (.getfield 10, 3) := by decide +kernel
theorem dX7_find_28 : decode cX7_find 28 = .ok (.invokevirtual 47, 3) := by decide +kernel
theorem dX7_find_31 : decode cX7_find 31 = .ok (.aload_n 0, 1) := by decide +kernel
theorem dX7_find_32 : decode cX7_find 32 = .ok (.aload_n 0, 1) := by decide +kernel
theorem dX7_find_33 : decode cX7_find 33 = .ok (.getfield 10, 3) := by decide +kernel
theorem dX7_find_36 : decode cX7_find 36 = .ok (.aload_n 0, 1) := by decide +kernel
theorem dX7_find_37 : decode cX7_find 37 = .ok (.getfield 36, 3) := by decide +kernel
theorem dX7_find_40 : decode cX7_find 40 = .ok (.invokevirtual 110, 3) := by decide +kernel
theorem dX7_find_43 : decode cX7_find 43 = .ok (.invokevirtual 55, 3) := by decide +kernel
theorem dX7_find_46 : decode cX7_find 46 = .ok (.ireturn, 1) := by decide +kernel
theorem dX7_killWord_0 : decode cX7_killWord 0 = .ok (.aload_n 0, 1) := by decide +kernel
theorem dX7_killWord_1 : decode cX7_killWord 1 = .ok (.getfield 19, 3) := by decide +kernel
theorem dX7_killWord_4 : decode cX7_killWord 4 = .ok (.aload_n 0, 1) := by decide +kernel
theorem dX7_killWord_5 : decode cX7_killWord 5 = .ok (.getfield 10, 3) := by decide +kernel
theorem dX7_killWord_8 : decode cX7_killWord 8 = .ok (.invokevirtual 47, 3) := by decide +kernel
theorem dX7_killWord_11 : decode cX7_killWord 11 = .ok (.aload_n 0, 1) := by decide +kernel
theorem dX7_killWord_12 : decode cX7_killWord 12 = .ok (.aload_n 0, 1) := by decide +kernel
theorem dX7_killWord_13 : decode cX7_killWord 13 = .ok (.getfield 10, 3) := by decide +kernel
theorem dX7_killWord_16 : decode cX7_killWord 16 = .ok (.invokevirtual 114, 3) := by decide +kernel
theorem dX7_killWord_19 : decode cX7_killWord 19 = .ok (.invokevirtual 55, 3) := by decide +kernel
theorem dX7_killWord_22 : decode cX7_killWord 22 = .ok (.ireturn, 1) := by decide +kernel
theorem dX7_killBack_0 : decode cX7_killBack 0 = .ok (.aload_n 0, 1) := by decide +kernel
theorem dX7_killBack_1 : decode cX7_killBack 1 = .ok (.getfield 19, 3) := by decide +kernel
theorem dX7_killBack_4 : decode cX7_killBack 4 = .ok (.aload_n 0, 1) := by decide +kernel
theorem dX7_killBack_5 : decode cX7_killBack 5 = .ok (.getfield 10, 3) := by decide +kernel
theorem dX7_killBack_8 : decode cX7_killBack 8 = .ok (.invokevirtual 47, 3) := by decide +kernel
theorem dX7_killBack_11 : decode cX7_killBack 11 = .ok (.aload_n 0, 1) := by decide +kernel
theorem dX7_killBack_12 : decode cX7_killBack 12 = .ok (.aload_n 0, 1) := by decide +kernel
theorem dX7_killBack_13 : decode cX7_killBack 13 = .ok (.getfield 10, 3) := by decide +kernel
theorem dX7_killBack_16 : decode cX7_killBack 16 = .ok (.invokevirtual 117, 3) := by decide +kernel
theorem dX7_killBack_19 : decode cX7_killBack 19 = .ok (.invokevirtual 55, 3) := by decide +kernel
theorem dX7_killBack_22 : decode cX7_killBack 22 = .ok (.ireturn, 1) := by decide +kernel
theorem dX7_killLine_0 : decode cX7_killLine 0 = .ok (.aload_n 0, 1) := by decide +kernel
theorem dX7_killLine_1 : decode cX7_killLine 1 = .ok (.getfield 19, 3) := by decide +kernel
theorem dX7_killLine_4 : decode cX7_killLine 4 = .ok (.aload_n 0, 1) := by decide +kernel
theorem dX7_killLine_5 : decode cX7_killLine 5 = .ok (.getfield 10, 3) := by decide +kernel
theorem dX7_killLine_8 : decode cX7_killLine 8 = .ok (.invokevirtual 47, 3) := by decide +kernel
theorem dX7_killLine_11 : decode cX7_killLine 11 = .ok (.aload_n 0, 1) := by decide +kernel
theorem dX7_killLine_12 : decode cX7_killLine 12 = .ok (.aload_n 0, 1) := by decide +kernel
theorem dX7_killLine_13 : decode cX7_killLine 13 = .ok (.getfield 10, 3) := by decide +kernel
theorem dX7_killLine_16 : decode cX7_killLine 16 = .ok (.invokevirtual 120, 3) := by decide +kernel
theorem dX7_killLine_19 : decode cX7_killLine 19 = .ok (.invokevirtual 55, 3) := by decide +kernel
theorem dX7_killLine_22 : decode cX7_killLine 22 = .ok (.ireturn, 1) := by decide +kernel
theorem dX7_killBetween_0 : decode cX7_killBetween 0 = .ok (.aload_n 0, 1) := by decide +kernel
theorem dX7_killBetween_1 : decode cX7_killBetween 1 = .ok (.getfield 19, 3) := by decide +kernel
theorem dX7_killBetween_4 : decode cX7_killBetween 4 = .ok (.aload_n 0, 1) := by decide +kernel
theorem dX7_killBetween_5 : decode cX7_killBetween 5 = .ok (.getfield 10, 3) := by decide +kernel
theorem dX7_killBetween_8 : decode cX7_killBetween 8 = .ok (.invokevirtual 47, 3) := by decide +kernel
theorem dX7_killBetween_11 : decode cX7_killBetween 11 = .ok (.aload_n 0, 1) := by decide +kernel
theorem dX7_killBetween_12 : decode cX7_killBetween 12 = .ok (.aload_n 0, 1) := by decide +kernel
theorem dX7_killBetween_13 : decode cX7_killBetween 13 = .ok (.getfield 10, 3) := by decide +kernel
theorem dX7_killBetween_16 : decode cX7_killBetween 16 = .ok (.invokevirtual 123, 3) := by decide +kernel
theorem dX7_killBetween_19 : decode cX7_killBetween 19 = .ok (.invokevirtual 55, 3) := by decide +kernel
theorem dX7_killBetween_22 : decode cX7_killBetween 22 = .ok (.ireturn, 1) := by decide +kernel
theorem dX7_copyBetween_0 : decode cX7_copyBetween 0 = .ok (.aload_n 0, 1) := by decide +kernel
theorem dX7_copyBetween_1 : decode cX7_copyBetween 1 = .ok (.getfield 19, 3) := by decide +kernel
theorem dX7_copyBetween_4 : decode cX7_copyBetween 4 = .ok (.aload_n 0, 1) := by decide +kernel
theorem dX7_copyBetween_5 : decode cX7_copyBetween 5 = .ok (.getfield 10, 3) := by decide +kernel
theorem dX7_copyBetween_8 : decode cX7_copyBetween 8 = .ok (.invokevirtual 47, 3) := by decide +kernel
theorem dX7_copyBetween_11 : decode cX7_copyBetween 11 = .ok (.aload_n 0, 1) := by decide +kernel
theorem dX7_copyBetween_12 : decode cX7_copyBetween 12 = .ok (.aload_n 0, 1) := by decide +kernel
theorem dX7_copyBetween_13 : decode cX7_copyBetween 13 = .ok (.getfield 10, 3) := by decide +kernel
theorem dX7_copyBetween_16 : decode cX7_copyBetween 16 = .ok (.invokevirtual 126, 3) := by decide +kernel
theorem dX7_copyBetween_19 : decode cX7_copyBetween 19 = .ok (.invokevirtual 55, 3) := by decide +kernel
theorem dX7_copyBetween_22 : decode cX7_copyBetween 22 = .ok (.ireturn, 1) := by decide +kernel
theorem dX7_yank_0 : decode cX7_yank 0 = .ok (.aload_n 0, 1) := by decide +kernel
theorem dX7_yank_1 : decode cX7_yank 1 = .ok (.getfield 19, 3) := by decide +kernel
theorem dX7_yank_4 : decode cX7_yank 4 = .ok (.aload_n 0, 1) := by decide +kernel
theorem dX7_yank_5 : decode cX7_yank 5 = .ok (.getfield 10, 3) := by decide +kernel
theorem dX7_yank_8 : decode cX7_yank 8 = .ok (.invokevirtual 47, 3) := by decide +kernel
theorem dX7_yank_11 : decode cX7_yank 11 = .ok (.aload_n 0, 1) := by decide +kernel
theorem dX7_yank_12 : decode cX7_yank 12 = .ok (.aload_n 0, 1) := by decide +kernel
theorem dX7_yank_13 : decode cX7_yank 13 = .ok (.getfield 10, 3) := by decide +kernel
theorem dX7_yank_16 : decode cX7_yank 16 = .ok (.invokevirtual 129, 3) := by decide +kernel
theorem dX7_yank_19 : decode cX7_yank 19 = .ok (.invokevirtual 55, 3) := by decide +kernel
theorem dX7_yank_22 : decode cX7_yank 22 = .ok (.ireturn, 1) := by decide +kernel
theorem dX7_yankOther_0 : decode cX7_yankOther 0 = .ok (.aload_n 0, 1) := by decide +kernel
theorem dX7_yankOther_1 : decode cX7_yankOther 1 = .ok (.getfield 19, 3) := by decide +kernel
theorem dX7_yankOther_4 : decode cX7_yankOther 4 = .ok (.aload_n 0, 1) := by decide +kernel
theorem dX7_yankOther_5 : decode cX7_yankOther 5 = .ok (.getfield 10, 3) := by decide +kernel
theorem dX7_yankOther_8 : decode cX7_yankOther 8 = .ok (.invokevirtual 47, 3) := by decide +kernel
theorem dX7_yankOther_11 : decode cX7_yankOther 11 = .ok (.aload_n 0, 1) := by decide +kernel
theorem dX7_yankOther_12 : decode cX7_yankOther 12 = .ok (.aload_n 0, 1) := by decide +kernel
theorem dX7_yankOther_13 : decode cX7_yankOther 13 = .ok (.getfield 10, 3) := by decide +kernel
theorem dX7_yankOther_16 : decode cX7_yankOther 16 = .ok (.invokevirtual 132, 3) := by decide +kernel
theorem dX7_yankOther_19 : decode cX7_yankOther 19 = .ok (.invokevirtual 55, 3) := by decide +kernel
theorem dX7_yankOther_22 : decode cX7_yankOther 22 = .ok (.ireturn, 1) := by decide +kernel
theorem dX7_turn_0 : decode cX7_turn 0 = .ok (.iload_n 1, 1) := by decide +kernel
theorem dX7_turn_1 : decode cX7_turn 1 = .ok (.bipush (-20), 2) := by decide +kernel
theorem dX7_turn_3 : decode cX7_turn 3 = .ok (.if_icmp .lt 9, 3) := by decide +kernel
theorem dX7_turn_6 : decode cX7_turn 6 = .ok (.iload_n 1, 1) := by decide +kernel
theorem dX7_turn_7 : decode cX7_turn 7 = .ok (.bipush 20, 2) := by decide +kernel
theorem dX7_turn_9 : decode cX7_turn 9 = .ok (.if_icmp .le 13, 3) := by decide +kernel
theorem dX7_turn_12 : decode cX7_turn 12 = .ok (.new 40, 3) := by decide +kernel
theorem dX7_turn_15 : decode cX7_turn 15 = .ok (.dup, 1) := by decide +kernel
theorem dX7_turn_16 : decode cX7_turn 16 = .ok (.ldc 135, 2) := by decide +kernel
theorem dX7_turn_18 : decode cX7_turn 18 = .ok (.invokespecial 44, 3) := by decide +kernel
theorem dX7_turn_21 : decode cX7_turn 21 = .ok (.athrow, 1) := by decide +kernel
theorem dX7_turn_22 : decode cX7_turn 22 = .ok (.aload_n 0, 1) := by decide +kernel
theorem dX7_turn_23 : decode cX7_turn 23 = .ok (.getfield 19, 3) := by decide +kernel
theorem dX7_turn_26 : decode cX7_turn 26 = .ok (.aload_n 0, 1) := by decide +kernel
theorem dX7_turn_27 : decode cX7_turn 27 = .ok (.getfield 10, 3) := by decide +kernel
theorem dX7_turn_30 : decode cX7_turn 30 = .ok (.invokevirtual 47, 3) := by decide +kernel
theorem dX7_turn_33 : decode cX7_turn 33 = .ok (.aload_n 0, 1) := by decide +kernel
theorem dX7_turn_34 : decode cX7_turn 34 = .ok (.aload_n 0, 1) := by decide +kernel
theorem dX7_turn_35 : decode cX7_turn 35 = .ok (.getfield 10, 3) := by decide +kernel
theorem dX7_turn_38 : decode cX7_turn 38 = .ok (.iload_n 1, 1) := by decide +kernel
theorem dX7_turn_39 : decode cX7_turn 39 = .ok (.invokevirtual 137, 3) := by decide +kernel
theorem dX7_turn_42 : decode cX7_turn 42 = .ok (.invokevirtual 55, 3) := by decide +kernel
theorem dX7_turn_45 : decode cX7_turn 45 = .ok (.ireturn, 1) := by decide +kernel
theorem dX7_changeCaves_0 : decode cX7_changeCaves 0 = .ok (.iload_n 1, 1) := by decide +kernel
theorem dX7_changeCaves_1 : decode cX7_changeCaves 1 = .ok (.iconst 1, 1) := by decide +kernel
theorem dX7_changeCaves_2 : decode cX7_changeCaves 2 = .ok (.if_icmp .lt 9, 3) := by decide +kernel
theorem dX7_changeCaves_5 : decode cX7_changeCaves 5 = .ok (.iload_n 1, 1) := by decide +kernel
theorem dX7_changeCaves_6 : decode cX7_changeCaves 6 = .ok (.bipush 8, 2) := by decide +kernel
theorem dX7_changeCaves_8 : decode cX7_changeCaves 8 = .ok (.if_icmp .le 13, 3) := by decide +kernel
theorem dX7_changeCaves_11 : decode cX7_changeCaves 11 = .ok (.new 40, 3) := by decide +kernel
theorem dX7_changeCaves_14 : decode cX7_changeCaves 14 = .ok (.dup, 1) := by decide +kernel
theorem dX7_changeCaves_15 : decode cX7_changeCaves 15 = .ok (.ldc 140, 2) := by decide +kernel
theorem dX7_changeCaves_17 : decode cX7_changeCaves 17 = .ok (.invokespecial 44, 3) := by decide +kernel
theorem dX7_changeCaves_20 : decode cX7_changeCaves 20 = .ok (.athrow, 1) := by decide +kernel
theorem dX7_changeCaves_21 : decode cX7_changeCaves 21 = .ok (.aload_n 0, 1) := by decide +kernel
theorem dX7_changeCaves_22 : decode cX7_changeCaves 22 = .ok (.getfield 19, 3) := by decide +kernel
theorem dX7_changeCaves_25 : decode cX7_changeCaves 25 = .ok (.aload_n 0, 1) := by decide +kernel
theorem dX7_changeCaves_26 : decode cX7_changeCaves 26 = .ok (.getfield 10, 3) := by decide +kernel
theorem dX7_changeCaves_29 : decode cX7_changeCaves 29 = .ok (.invokevirtual 47, 3) := by decide +kernel
theorem dX7_changeCaves_32 : decode cX7_changeCaves 32 = .ok (.aload_n 0, 1) := by decide +kernel
theorem dX7_changeCaves_33 : decode cX7_changeCaves 33 = .ok (.aload_n 0, 1) := by decide +kernel
theorem dX7_changeCaves_34 : decode cX7_changeCaves 34 = .ok (.getfield 10, 3) := by decide +kernel
theorem dX7_changeCaves_37 : decode cX7_changeCaves 37 = .ok (.iload_n 1, 1) := by decide +kernel
theorem dX7_changeCaves_38 : decode cX7_changeCaves 38 = .ok (.invokevirtual 142, 3) := by decide +kernel
theorem dX7_changeCaves_41 : decode cX7_changeCaves 41 = .ok (.invokevirtual 55, 3) := by decide +kernel
theorem dX7_changeCaves_44 : decode cX7_changeCaves 44 = .ok (.ireturn, 1) := by decide +kernel
theorem dX7_append_0 : decode cX7_append 0 = .ok (.iload_n 1, 1) := by decide +kernel
theorem dX7_append_1 : decode cX7_append 1 = .ok (.bipush 32, 2) := by decide +kernel
theorem dX7_append_3 : decode cX7_append 3 = .ok (.if_icmp .le 9, 3) := by decide +kernel
theorem dX7_append_6 : decode cX7_append 6 = .ok (.iload_n 1, 1) := by decide +kernel
theorem dX7_append_7 : decode cX7_append 7 = .ok (.bipush 126, 2) := by decide +kernel
theorem dX7_append_9 : decode cX7_append 9 = .ok (.if_icmp .le 13, 3) := by decide +kernel
theorem dX7_append_12 : decode cX7_append 12 = .ok (.new 40, 3) := by decide +kernel
theorem dX7_append_15 : decode cX7_append 15 = .ok (.dup, 1) := by decide +kernel
theorem dX7_append_16 : decode cX7_append 16 = .ok (.ldc 42, 2) := by decide +kernel
theorem dX7_append_18 : decode cX7_append 18 = .ok (.invokespecial 44, 3) := by decide +kernel
theorem dX7_append_21 : decode cX7_append 21 = .ok (.athrow, 1) := by decide +kernel
theorem dX7_append_22 : decode cX7_append 22 = .ok (.aload_n 0, 1) := by decide +kernel
theorem dX7_append_23 : decode cX7_append 23 = .ok (.getfield 36, 3) := by decide +kernel
theorem dX7_append_26 : decode cX7_append 26 = .ok (.invokevirtual 145, 3) := by decide +kernel
theorem dX7_append_29 : decode cX7_append 29 = .ok (.ifCond .ne 13, 3) := by decide +kernel
theorem dX7_append_32 : decode cX7_append 32 = .ok (.new 148, 3) := by decide +kernel
theorem dX7_append_35 : decode cX7_append 35 = .ok (.dup, 1) := by decide +kernel
theorem dX7_append_36 : decode cX7_append 36 = .ok (.ldc 150, 2) := by decide +kernel
theorem dX7_append_38 : decode cX7_append 38 = .ok (.invokespecial 152, 3) := by decide +kernel
theorem dX7_append_41 : decode cX7_append 41 = .ok (.athrow, 1) := by decide +kernel
theorem dX7_append_42 : decode cX7_append 42 = .ok (.aload_n 0, 1) := by decide +kernel
theorem dX7_append_43 : decode cX7_append 43 = .ok (.getfield 36, 3) := by decide +kernel
theorem dX7_append_46 : decode cX7_append 46 = .ok (.aload_n 0, 1) := by decide +kernel
theorem dX7_append_47 : decode cX7_append 47 = .ok (.getfield 36, 3) := by decide +kernel
theorem dX7_append_50 : decode cX7_append 50 = .ok (.invokevirtual 77, 3) := by decide +kernel
theorem dX7_append_53 : decode cX7_append 53 = .ok (.iload_n 1, 1) := by decide +kernel
theorem dX7_append_54 : decode cX7_append 54 = .ok (.invokevirtual 153, 3) := by decide +kernel
theorem dX7_append_57 : decode cX7_append 57 = .ok (.aload_n 0, 1) := by decide +kernel
theorem dX7_append_58 : decode cX7_append 58 = .ok (.getfield 36, 3) := by decide +kernel
theorem dX7_append_61 : decode cX7_append 61 = .ok (.invokevirtual 77, 3) := by decide +kernel
theorem dX7_append_64 : decode cX7_append 64 = .ok (.ireturn, 1) := by decide +kernel
theorem dX7_clearBuffer_0 : decode cX7_clearBuffer 0 = .ok (.aload_n 0, 1) := by decide +kernel
theorem dX7_clearBuffer_1 : decode cX7_clearBuffer 1 = .ok (.getfield 36, 3) := by decide +kernel
theorem dX7_clearBuffer_4 : decode cX7_clearBuffer 4 = .ok (.invokevirtual 77, 3) := by decide +kernel
theorem dX7_clearBuffer_7 : decode cX7_clearBuffer 7 = .ok (.istore_n 1, 1) := by decide +kernel
theorem dX7_clearBuffer_8 : decode cX7_clearBuffer 8 = .ok (.aload_n 0, 1) := by decide +kernel
theorem dX7_clearBuffer_9 : decode cX7_clearBuffer 9 = .ok (.getfield 36, 3) := by decide +kernel
theorem dX7_clearBuffer_12 : decode cX7_clearBuffer 12 = .ok (.invokevirtual 157, 3) := by decide +kernel
theorem dX7_clearBuffer_15 : decode cX7_clearBuffer 15 = .ok (.iload_n 1, 1) := by decide +kernel
theorem dX7_clearBuffer_16 : decode cX7_clearBuffer 16 = .ok (.ireturn, 1) := by decide +kernel
theorem dX7_firstError_0 : decode cX7_firstError 0 = .ok (.iconst 0, 1) := by decide +kernel
theorem dX7_firstError_1 : decode cX7_firstError 1 = .ok (.istore_n 1, 1) := by decide +kernel
theorem dX7_firstError_2 : decode cX7_firstError 2 = .ok (.iconst 0, 1) := by decide +kernel
theorem dX7_firstError_3 : decode cX7_firstError 3 = .ok (.istore_n 2, 1) := by decide +kernel
theorem dX7_firstError_4 : decode cX7_firstError 4 = .ok (.iload_n 2, 1) := by decide +kernel
theorem dX7_firstError_5 : decode cX7_firstError 5 = .ok (.aload_n 0, 1) := by decide +kernel
theorem dX7_firstError_6 : decode cX7_firstError 6 = .ok (.getfield 36, 3) := by decide +kernel
theorem dX7_firstError_9 : decode cX7_firstError 9 = .ok (.invokevirtual 77, 3) := by decide +kernel
theorem dX7_firstError_12 : decode cX7_firstError 12 = .ok (.if_icmp .ge 29, 3) := by decide +kernel
theorem dX7_firstError_15 : decode cX7_firstError 15 = .ok (.iload_n 1, 1) := by decide +kernel
theorem dX7_firstError_16 : decode cX7_firstError 16 = .ok (.aload_n 0, 1) := by decide +kernel
theorem dX7_firstError_17 : decode cX7_firstError 17 = .ok (.getfield 36, 3) := by decide +kernel
theorem dX7_firstError_20 : decode cX7_firstError 20 = .ok (.iload_n 2, 1) := by decide +kernel
theorem dX7_firstError_21 : decode cX7_firstError 21 = .ok (.invokevirtual 160, 3) := by decide +kernel
theorem dX7_firstError_24 : decode cX7_firstError 24 = .ok (.invokestatic 163, 3) := by decide +kernel
theorem dX7_firstError_27 : decode cX7_firstError 27 = .ok (.istore_n 1, 1) := by decide +kernel
theorem dX7_firstError_28 : decode cX7_firstError 28 = .ok (.iload_n 1, 1) := by decide +kernel
theorem dX7_firstError_29 : decode cX7_firstError 29 = .ok (.iconst (-1), 1) := by decide +kernel
theorem dX7_firstError_30 : decode cX7_firstError 30 = .ok (.if_icmp .ne 5, 3) := by decide +kernel
theorem dX7_firstError_33 : decode cX7_firstError 33 = .ok (.iload_n 2, 1) := by decide +kernel
theorem dX7_firstError_34 : decode cX7_firstError 34 = .ok (.ireturn, 1) := by decide +kernel
theorem dX7_firstError_35 : decode cX7_firstError 35 = .ok (.iinc 2 1, 3) := by decide +kernel
theorem dX7_firstError_38 : decode cX7_firstError 38 = .ok (.goto (-34), 3) := by decide +kernel
theorem dX7_firstError_41 : decode cX7_firstError 41 = .ok (.aload_n 0, 1) := by decide +kernel
theorem dX7_firstError_42 : decode cX7_firstError 42 = .ok (.getfield 36, 3) := by decide +kernel
theorem dX7_firstError_45 : decode cX7_firstError 45 = .ok (.invokevirtual 77, 3) := by decide +kernel
theorem dX7_firstError_48 : decode cX7_firstError 48 = .ok (.ireturn, 1) := by decide +kernel
theorem dX7_perform_0 : decode cX7_perform 0 = .ok (.aload_n 0, 1) := by decide +kernel
theorem dX7_perform_1 : decode cX7_perform 1 = .ok (.invokevirtual 167, 3) := by decide +kernel
theorem dX7_perform_4 : decode cX7_perform 4 = .ok (.ifCond .ne 13, 3) := by decide +kernel
theorem dX7_perform_7 : decode cX7_perform 7 = .ok (.new 40, 3) := by decide +kernel
theorem dX7_perform_10 : decode cX7_perform 10 = .ok (.dup, 1) := by decide +kernel
theorem dX7_perform_11 : decode cX7_perform 11 = .ok (.ldc 171, 2) := by decide +kernel
theorem dX7_perform_13 : decode cX7_perform 13 = .ok (.invokespecial 44, 3) := by decide +kernel
theorem dX7_perform_16 : decode cX7_perform 16 = .ok (.athrow, 1) := by decide +kernel
theorem dX7_perform_17 : decode cX7_perform 17 = .ok (.aload_n 0, 1) := by decide +kernel
theorem dX7_perform_18 : decode cX7_perform 18 = .ok (.getfield 19, 3) := by decide +kernel
theorem dX7_perform_21 : decode cX7_perform 21 = .ok (.aload_n 0, 1) := by decide +kernel
theorem dX7_perform_22 : decode cX7_perform 22 = .ok (.getfield 10, 3) := by decide +kernel
theorem dX7_perform_25 : decode cX7_perform 25 = .ok (.invokevirtual 47, 3) := by decide +kernel
theorem dX7_perform_28 : decode cX7_perform 28 = .ok (.aload_n 0, 1) := by decide +kernel
theorem dX7_perform_29 : decode cX7_perform 29 = .ok (.invokevirtual 173, 3) := by decide +kernel
theorem dX7_perform_32 : decode cX7_perform 32 = .ok (.istore_n 1, 1) := by decide +kernel
theorem dX7_perform_33 : decode cX7_perform 33 = .ok (.iload_n 1, 1) := by decide +kernel
theorem dX7_perform_34 : decode cX7_perform 34 = .ok (.iconst (-1), 1) := by decide +kernel
theorem dX7_perform_35 : decode cX7_perform 35 = .ok (.if_icmp .ne 17, 3) := by decide +kernel
theorem dX7_perform_38 : decode cX7_perform 38 = .ok (.aload_n 0, 1) := by decide +kernel
theorem dX7_perform_39 : decode cX7_perform 39 = .ok (.getfield 10, 3) := by decide +kernel
theorem dX7_perform_42 : decode cX7_perform 42 = .ok (.aload_n 0, 1) := by decide +kernel
theorem dX7_perform_43 : decode cX7_perform 43 = .ok (.getfield 19, 3) := by decide +kernel
theorem dX7_perform_46 : decode cX7_perform 46 = .ok (.invokevirtual 176, 3) := by decide +kernel
theorem dX7_perform_49 : decode cX7_perform 49 = .ok (.invokevirtual 180, 3) := by decide +kernel
theorem dX7_perform_52 : decode cX7_perform 52 = .ok (.aload_n 0, 1) := by decide +kernel
theorem dX7_perform_53 : decode cX7_perform 53 = .ok (.iload_n 1, 1) := by decide +kernel
theorem dX7_perform_54 : decode cX7_perform 54 = .ok (.invokevirtual 55, 3) := by decide +kernel
theorem dX7_perform_57 : decode cX7_perform 57 = .ok (.pop, 1) := by decide +kernel
theorem dX7_perform_58 : decode cX7_perform 58 = .ok (.aload_n 0, 1) := by decide +kernel
theorem dX7_perform_59 : decode cX7_perform 59 = .ok (.getfield 36, 3) := by decide +kernel
theorem dX7_perform_62 : decode cX7_perform 62 = .ok (.invokevirtual 157, 3) := by decide +kernel
theorem dX7_perform_65 : decode cX7_perform 65 = .ok (.iload_n 1, 1) := by decide +kernel
theorem dX7_perform_66 : decode cX7_perform 66 = .ok (.ireturn, 1) := by decide +kernel
theorem dX7_keep_0 : decode cX7_keep 0 = .ok (.iload_n 1, 1) := by decide +kernel
theorem dX7_keep_1 : decode cX7_keep 1 = .ok (.ifCond .lt 8, 3) := by decide +kernel
theorem dX7_keep_4 : decode cX7_keep 4 = .ok (.iload_n 1, 1) := by decide +kernel
theorem dX7_keep_5 : decode cX7_keep 5 = .ok (.iconst 2, 1) := by decide +kernel
theorem dX7_keep_6 : decode cX7_keep 6 = .ok (.if_icmp .lt 13, 3) := by decide +kernel
theorem dX7_keep_9 : decode cX7_keep 9 = .ok (.new 40, 3) := by decide +kernel
theorem dX7_keep_12 : decode cX7_keep 12 = .ok (.dup, 1) := by decide +kernel
theorem dX7_keep_13 : decode cX7_keep 13 = .ok (.ldc 183, 2) := by decide +kernel
theorem dX7_keep_15 : decode cX7_keep 15 = .ok (.invokespecial 44, 3) := by decide +kernel
theorem dX7_keep_18 : decode cX7_keep 18 = .ok (.athrow, 1) := by decide +kernel
theorem dX7_keep_19 : decode cX7_keep 19 = .ok (.aload_n 0, 1) := by decide +kernel
theorem dX7_keep_20 : decode cX7_keep 20 = .ok (.getfield 23, 3) := by decide +kernel
theorem dX7_keep_23 : decode cX7_keep 23 = .ok (.iload_n 1, 1) := by decide +kernel
theorem dX7_keep_24 : decode cX7_keep 24 = .ok (.aaload, 1) := by decide +kernel
theorem dX7_keep_25 : decode cX7_keep 25 = .ok (.aload_n 0, 1) := by decide +kernel
theorem dX7_keep_26 : decode cX7_keep 26 = .ok (.getfield 10, 3) := by decide +kernel
theorem dX7_keep_29 : decode cX7_keep 29 = .ok (.invokevirtual 180, 3) := by decide +kernel
theorem dX7_keep_32 : decode cX7_keep 32 = .ok (.aload_n 0, 1) := by decide +kernel
theorem dX7_keep_33 : decode cX7_keep 33 = .ok (.getfield 27, 3) := by decide +kernel
theorem dX7_keep_36 : decode cX7_keep 36 = .ok (.iload_n 1, 1) := by decide +kernel
theorem dX7_keep_37 : decode cX7_keep 37 = .ok (.iconst 1, 1) := by decide +kernel
theorem dX7_keep_38 : decode cX7_keep 38 = .ok (.bastore, 1) := by decide +kernel
theorem dX7_keep_39 : decode cX7_keep 39 = .ok (.return_, 1) := by decide +kernel
theorem dX7_goBack_0 : decode cX7_goBack 0 = .ok (.iload_n 1, 1) := by decide +kernel
theorem dX7_goBack_1 : decode cX7_goBack 1 = .ok (.ifCond .lt 8, 3) := by decide +kernel
theorem dX7_goBack_4 : decode cX7_goBack 4 = .ok (.iload_n 1, 1) := by decide +kernel
theorem dX7_goBack_5 : decode cX7_goBack 5 = .ok (.iconst 2, 1) := by decide +kernel
theorem dX7_goBack_6 : decode cX7_goBack 6 = .ok (.if_icmp .lt 13, 3) := by decide +kernel
theorem dX7_goBack_9 : decode cX7_goBack 9 = .ok (.new 40, 3) := by decide +kernel
theorem dX7_goBack_12 : decode cX7_goBack 12 = .ok (.dup, 1) := by decide +kernel
theorem dX7_goBack_13 : decode cX7_goBack 13 = .ok (.ldc 183, 2) := by decide +kernel
theorem dX7_goBack_15 : decode cX7_goBack 15 = .ok (.invokespecial 44, 3) := by decide +kernel
theorem dX7_goBack_18 : decode cX7_goBack 18 = .ok (.athrow, 1) := by decide +kernel
theorem dX7_goBack_19 : decode cX7_goBack 19 = .ok (.aload_n 0, 1) := by decide +kernel
theorem dX7_goBack_20 : decode cX7_goBack 20 = .ok (.getfield 27, 3) := by decide +kernel
theorem dX7_goBack_23 : decode cX7_goBack 23 = .ok (.iload_n 1, 1) := by decide +kernel
theorem dX7_goBack_24 : decode cX7_goBack 24 = .ok (.baload, 1) := by decide +kernel
theorem dX7_goBack_25 : decode cX7_goBack 25 = .ok (.ifCond .ne 13, 3) := by decide +kernel
theorem dX7_goBack_28 : decode cX7_goBack 28 = .ok (.new 148, 3) := by decide +kernel
theorem dX7_goBack_31 : decode cX7_goBack 31 = .ok (.dup, 1) := by decide +kernel
theorem dX7_goBack_32 : decode cX7_goBack 32 = .ok (.ldc 185, 2) := by decide +kernel
theorem dX7_goBack_34 : decode cX7_goBack 34 = .ok (.invokespecial 152, 3) := by decide +kernel
theorem dX7_goBack_37 : decode cX7_goBack 37 = .ok (.athrow, 1) := by decide +kernel
theorem dX7_goBack_38 : decode cX7_goBack 38 = .ok (.aload_n 0, 1) := by decide +kernel
theorem dX7_goBack_39 : decode cX7_goBack 39 = .ok (.getfield 19, 3) := by decide +kernel
theorem dX7_goBack_42 : decode cX7_goBack 42 = .ok (.aload_n 0, 1) := by decide +kernel
theorem dX7_goBack_43 : decode cX7_goBack 43 = .ok (.getfield 10, 3) := by decide +kernel
theorem dX7_goBack_46 : decode cX7_goBack 46 = .ok (.invokevirtual 47, 3) := by decide +kernel
theorem dX7_goBack_49 : decode cX7_goBack 49 = .ok (.aload_n 0, 1) := by decide +kernel
theorem dX7_goBack_50 : decode cX7_goBack 50 = .ok (.getfield 19, 3) := by decide +kernel
theorem dX7_goBack_53 : decode cX7_goBack 53 = .ok (.invokevirtual 187, 3) := by decide +kernel
theorem dX7_goBack_56 : decode cX7_goBack 56 = .ok (.aload_n 0, 1) := by decide +kernel
theorem dX7_goBack_57 : decode cX7_goBack 57 = .ok (.getfield 10, 3) := by decide +kernel
theorem dX7_goBack_60 : decode cX7_goBack 60 = .ok (.aload_n 0, 1) := by decide +kernel
theorem dX7_goBack_61 : decode cX7_goBack 61 = .ok (.getfield 23, 3) := by decide +kernel
theorem dX7_goBack_64 : decode cX7_goBack 64 = .ok (.iload_n 1, 1) := by decide +kernel
theorem dX7_goBack_65 : decode cX7_goBack 65 = .ok (.aaload, 1) := by decide +kernel
theorem dX7_goBack_66 : decode cX7_goBack 66 = .ok (.invokevirtual 190, 3) := by decide +kernel
theorem dX7_goBack_69 : decode cX7_goBack 69 = .ok (.return_, 1) := by decide +kernel
theorem dX7_undo_0 : decode cX7_undo 0 = .ok (.aload_n 0, 1) := by decide +kernel
theorem dX7_undo_1 : decode cX7_undo 1 = .ok (.getfield 19, 3) := by decide +kernel
theorem dX7_undo_4 : decode cX7_undo 4 = .ok (.invokevirtual 193, 3) := by decide +kernel
theorem dX7_undo_7 : decode cX7_undo 7 = .ok (.ifCond .ne 13, 3) := by decide +kernel
theorem dX7_undo_10 : decode cX7_undo 10 = .ok (.new 148, 3) := by decide +kernel
theorem dX7_undo_13 : decode cX7_undo 13 = .ok (.dup, 1) := by decide +kernel
theorem dX7_undo_14 : decode cX7_undo 14 = .ok (.ldc 194, 2) := by decide +kernel
theorem dX7_undo_16 : decode cX7_undo 16 = .ok (.invokespecial 152, 3) := by decide +kernel
theorem dX7_undo_19 : decode cX7_undo 19 = .ok (.athrow, 1) := by decide +kernel
theorem dX7_undo_20 : decode cX7_undo 20 = .ok (.aload_n 0, 1) := by decide +kernel
theorem dX7_undo_21 : decode cX7_undo 21 = .ok (.getfield 10, 3) := by decide +kernel
theorem dX7_undo_24 : decode cX7_undo 24 = .ok (.aload_n 0, 1) := by decide +kernel
theorem dX7_undo_25 : decode cX7_undo 25 = .ok (.getfield 19, 3) := by decide +kernel
theorem dX7_undo_28 : decode cX7_undo 28 = .ok (.invokevirtual 196, 3) := by decide +kernel
theorem dX7_undo_31 : decode cX7_undo 31 = .ok (.invokevirtual 190, 3) := by decide +kernel
theorem dX7_undo_34 : decode cX7_undo 34 = .ok (.aload_n 0, 1) := by decide +kernel
theorem dX7_undo_35 : decode cX7_undo 35 = .ok (.getfield 19, 3) := by decide +kernel
theorem dX7_undo_38 : decode cX7_undo 38 = .ok (.invokevirtual 199, 3) := by decide +kernel
theorem dX7_undo_41 : decode cX7_undo 41 = .ok (.return_, 1) := by decide +kernel
theorem dX7_savedStates_0 : decode cX7_savedStates 0 = .ok (.aload_n 0, 1) := by decide +kernel
theorem dX7_savedStates_1 : decode cX7_savedStates 1 = .ok (.getfield 19, 3) := by decide +kernel
theorem dX7_savedStates_4 : decode cX7_savedStates 4 = .ok (.invokevirtual 193, 3) := by decide +kernel
theorem dX7_savedStates_7 : decode cX7_savedStates 7 = .ok (.ireturn, 1) := by decide +kernel
theorem dX7_length_0 : decode cX7_length 0 = .ok (.aload_n 0, 1) := by decide +kernel
theorem dX7_length_1 : decode cX7_length 1 = .ok (.getfield 10, 3) := by decide +kernel
theorem dX7_length_4 : decode cX7_length 4 = .ok (.getfield 68, 3) := by decide +kernel
theorem dX7_length_7 : decode cX7_length 7 = .ok (.getfield 72, 3) := by decide +kernel
theorem dX7_length_10 : decode cX7_length 10 = .ok (.invokevirtual 77, 3) := by decide +kernel
theorem dX7_length_13 : decode cX7_length 13 = .ok (.ireturn, 1) := by decide +kernel
theorem dX7_codeAt_0 : decode cX7_codeAt 0 = .ok (.aload_n 0, 1) := by decide +kernel
theorem dX7_codeAt_1 : decode cX7_codeAt 1 = .ok (.getfield 10, 3) := by decide +kernel
theorem dX7_codeAt_4 : decode cX7_codeAt 4 = .ok (.getfield 68, 3) := by decide +kernel
theorem dX7_codeAt_7 : decode cX7_codeAt 7 = .ok (.getfield 72, 3) := by decide +kernel
theorem dX7_codeAt_10 : decode cX7_codeAt 10 = .ok (.iload_n 1, 1) := by decide +kernel
theorem dX7_codeAt_11 : decode cX7_codeAt 11 = .ok (.invokevirtual 160, 3) := by decide +kernel
theorem dX7_codeAt_14 : decode cX7_codeAt 14 = .ok (.invokestatic 202, 3) := by decide +kernel
theorem dX7_codeAt_17 : decode cX7_codeAt 17 = .ok (.ireturn, 1) := by decide +kernel
theorem dX7_point_0 : decode cX7_point 0 = .ok (.aload_n 0, 1) := by decide +kernel
theorem dX7_point_1 : decode cX7_point 1 = .ok (.getfield 10, 3) := by decide +kernel
theorem dX7_point_4 : decode cX7_point 4 = .ok (.getfield 68, 3) := by decide +kernel
theorem dX7_point_7 : decode cX7_point 7 = .ok (.getfield 205, 3) := by decide +kernel
theorem dX7_point_10 : decode cX7_point 10 = .ok (.ireturn, 1) := by decide +kernel
theorem dX7_markAt_0 : decode cX7_markAt 0 = .ok (.aload_n 0, 1) := by decide +kernel
theorem dX7_markAt_1 : decode cX7_markAt 1 = .ok (.getfield 10, 3) := by decide +kernel
theorem dX7_markAt_4 : decode cX7_markAt 4 = .ok (.getfield 68, 3) := by decide +kernel
theorem dX7_markAt_7 : decode cX7_markAt 7 = .ok (.getfield 209, 3) := by decide +kernel
theorem dX7_markAt_10 : decode cX7_markAt 10 = .ok (.invokestatic 212, 3) := by decide +kernel
theorem dX7_markAt_13 : decode cX7_markAt 13 = .ok (.ireturn, 1) := by decide +kernel
theorem dX7_between_0 : decode cX7_between 0 = .ok (.aload_n 0, 1) := by decide +kernel
theorem dX7_between_1 : decode cX7_between 1 = .ok (.getfield 10, 3) := by decide +kernel
theorem dX7_between_4 : decode cX7_between 4 = .ok (.getfield 68, 3) := by decide +kernel
theorem dX7_between_7 : decode cX7_between 7 = .ok (.invokevirtual 215, 3) := by decide +kernel
theorem dX7_between_10 : decode cX7_between 10 = .ok (.invokestatic 212, 3) := by decide +kernel
theorem dX7_between_13 : decode cX7_between 13 = .ok (.ireturn, 1) := by decide +kernel
theorem dX7_linesByEnds_0 : decode cX7_linesByEnds 0 = .ok (.aload_n 0, 1) := by decide +kernel
theorem dX7_linesByEnds_1 : decode cX7_linesByEnds 1 = .ok (.getfield 10, 3) := by decide +kernel
theorem dX7_linesByEnds_4 : decode cX7_linesByEnds 4 = .ok (.getfield 68, 3) := by decide +kernel
theorem dX7_linesByEnds_7 : decode cX7_linesByEnds 7 = .ok (.aload_n 0, 1) := by decide +kernel
theorem dX7_linesByEnds_8 : decode cX7_linesByEnds 8 = .ok (.getfield 10, 3) := by decide +kernel
theorem dX7_linesByEnds_11 : decode cX7_linesByEnds 11 = .ok (.getfield 68, 3) := by decide +kernel
theorem dX7_linesByEnds_14 : decode cX7_linesByEnds 14 = .ok (.getfield 72, 3) := by decide +kernel
theorem dX7_linesByEnds_17 : decode cX7_linesByEnds 17 = .ok (.invokevirtual 77, 3) := by decide +kernel
theorem dX7_linesByEnds_20 : decode cX7_linesByEnds 20 = .ok (.invokevirtual 218, 3) := by decide +kernel
theorem dX7_linesByEnds_23 : decode cX7_linesByEnds 23 = .ok (.iconst 1, 1) := by decide +kernel
theorem dX7_linesByEnds_24 : decode cX7_linesByEnds 24 = .ok (.iadd, 1) := by decide +kernel
theorem dX7_linesByEnds_25 : decode cX7_linesByEnds 25 = .ok (.ireturn, 1) := by decide +kernel
theorem dX7_linesByGoing_0 : decode cX7_linesByGoing 0 = .ok (.aload_n 0, 1) := by decide +kernel
theorem dX7_linesByGoing_1 : decode cX7_linesByGoing 1 = .ok (.getfield 10, 3) := by decide +kernel
theorem dX7_linesByGoing_4 : decode cX7_linesByGoing 4 = .ok (.getfield 68, 3) := by decide +kernel
theorem dX7_linesByGoing_7 : decode cX7_linesByGoing 7 = .ok (.invokevirtual 221, 3) := by decide +kernel
theorem dX7_linesByGoing_10 : decode cX7_linesByGoing 10 = .ok (.ireturn, 1) := by decide +kernel
theorem dX7_line_0 : decode cX7_line 0 = .ok (.aload_n 0, 1) := by decide +kernel
theorem dX7_line_1 : decode cX7_line 1 = .ok (.getfield 10, 3) := by decide +kernel
theorem dX7_line_4 : decode cX7_line 4 = .ok (.getfield 68, 3) := by decide +kernel
theorem dX7_line_7 : decode cX7_line 7 = .ok (.aload_n 0, 1) := by decide +kernel
theorem dX7_line_8 : decode cX7_line 8 = .ok (.getfield 10, 3) := by decide +kernel
theorem dX7_line_11 : decode cX7_line 11 = .ok (.getfield 68, 3) := by decide +kernel
theorem dX7_line_14 : decode cX7_line 14 = .ok (.getfield 205, 3) := by decide +kernel
theorem dX7_line_17 : decode cX7_line 17 = .ok (.invokevirtual 218, 3) := by decide +kernel
theorem dX7_line_20 : decode cX7_line 20 = .ok (.ireturn, 1) := by decide +kernel
theorem dX7_column_0 : decode cX7_column 0 = .ok (.aload_n 0, 1) := by decide +kernel
theorem dX7_column_1 : decode cX7_column 1 = .ok (.getfield 10, 3) := by decide +kernel
theorem dX7_column_4 : decode cX7_column 4 = .ok (.getfield 68, 3) := by decide +kernel
theorem dX7_column_7 : decode cX7_column 7 = .ok (.getfield 205, 3) := by decide +kernel
theorem dX7_column_10 : decode cX7_column 10 = .ok (.aload_n 0, 1) := by decide +kernel
theorem dX7_column_11 : decode cX7_column 11 = .ok (.getfield 10, 3) := by decide +kernel
theorem dX7_column_14 : decode cX7_column 14 = .ok (.getfield 68, 3) := by decide +kernel
theorem dX7_column_17 : decode cX7_column 17 = .ok (.aload_n 0, 1) := by decide +kernel
theorem dX7_column_18 : decode cX7_column 18 = .ok (.getfield 10, 3) := by decide +kernel
theorem dX7_column_21 : decode cX7_column 21 = .ok (.getfield 68, 3) := by decide +kernel
theorem dX7_column_24 : decode cX7_column 24 = .ok (.getfield 205, 3) := by decide +kernel
theorem dX7_column_27 : decode cX7_column 27 = .ok (.invokevirtual 224, 3) := by decide +kernel
theorem dX7_column_30 : decode cX7_column 30 = .ok (.isub, 1) := by decide +kernel
theorem dX7_column_31 : decode cX7_column 31 = .ok (.ireturn, 1) := by decide +kernel
theorem dX7_longestLine_0 : decode cX7_longestLine 0 = .ok (.aload_n 0, 1) := by decide +kernel
theorem dX7_longestLine_1 : decode cX7_longestLine 1 = .ok (.getfield 10, 3) := by decide +kernel
theorem dX7_longestLine_4 : decode cX7_longestLine 4 = .ok (.getfield 68, 3) := by decide +kernel
theorem dX7_longestLine_7 : decode cX7_longestLine 7 = .ok (.invokevirtual 227, 3) := by decide +kernel
theorem dX7_longestLine_10 : decode cX7_longestLine 10 = .ok (.ireturn, 1) := by decide +kernel
theorem dX7_wordsByBegins_0 : decode cX7_wordsByBegins 0 = .ok (.aload_n 0, 1) := by decide +kernel
theorem dX7_wordsByBegins_1 : decode cX7_wordsByBegins 1 = .ok (.getfield 10, 3) := by decide +kernel
theorem dX7_wordsByBegins_4 : decode cX7_wordsByBegins 4 = .ok (.getfield 68, 3) := by decide +kernel
theorem dX7_wordsByBegins_7 : decode cX7_wordsByBegins 7 = .ok (.invokevirtual 230, 3) := by decide +kernel
theorem dX7_wordsByBegins_10 : decode cX7_wordsByBegins 10 = .ok (.ireturn, 1) := by decide +kernel
theorem dX7_wordsByGoing_0 : decode cX7_wordsByGoing 0 = .ok (.aload_n 0, 1) := by decide +kernel
theorem dX7_wordsByGoing_1 : decode cX7_wordsByGoing 1 = .ok (.getfield 10, 3) := by decide +kernel
theorem dX7_wordsByGoing_4 : decode cX7_wordsByGoing 4 = .ok (.getfield 68, 3) := by decide +kernel
theorem dX7_wordsByGoing_7 : decode cX7_wordsByGoing 7 = .ok (.invokevirtual 233, 3) := by decide +kernel
theorem dX7_wordsByGoing_10 : decode cX7_wordsByGoing 10 = .ok (.ireturn, 1) := by decide +kernel
theorem dX7_hoards_0 : decode cX7_hoards 0 = .ok (.aload_n 0, 1) := by decide +kernel
theorem dX7_hoards_1 : decode cX7_hoards 1 = .ok (.getfield 10, 3) := by decide +kernel
theorem dX7_hoards_4 : decode cX7_hoards 4 = .ok (.getfield 236, 3) := by decide +kernel
theorem dX7_hoards_7 : decode cX7_hoards 7 = .ok (.getfield 240, 3) := by decide +kernel
theorem dX7_hoards_10 : decode cX7_hoards 10 = .ok (.ireturn, 1) := by decide +kernel
theorem dX7_caves_0 : decode cX7_caves 0 = .ok (.aload_n 0, 1) := by decide +kernel
theorem dX7_caves_1 : decode cX7_caves 1 = .ok (.getfield 10, 3) := by decide +kernel
theorem dX7_caves_4 : decode cX7_caves 4 = .ok (.getfield 236, 3) := by decide +kernel
theorem dX7_caves_7 : decode cX7_caves 7 = .ok (.getfield 244, 3) := by decide +kernel
theorem dX7_caves_10 : decode cX7_caves 10 = .ok (.ireturn, 1) := by decide +kernel
theorem dX7_lengthOf_0 : decode cX7_lengthOf 0 = .ok (.aload_n 0, 1) := by decide +kernel
theorem dX7_lengthOf_1 : decode cX7_lengthOf 1 = .ok (.getfield 10, 3) := by decide +kernel
theorem dX7_lengthOf_4 : decode cX7_lengthOf 4 = .ok (.getfield 236, 3) := by decide +kernel
theorem dX7_lengthOf_7 : decode cX7_lengthOf 7 = .ok (.iload_n 1, 1) := by decide +kernel
theorem dX7_lengthOf_8 : decode cX7_lengthOf 8 = .ok (.invokevirtual 247, 3) := by decide +kernel
theorem dX7_lengthOf_11 : decode cX7_lengthOf 11 = .ok (.invokestatic 202, 3) := by decide +kernel
theorem dX7_lengthOf_14 : decode cX7_lengthOf 14 = .ok (.ireturn, 1) := by decide +kernel
theorem dX7_codeIn_0 : decode cX7_codeIn 0 = .ok (.aload_n 0, 1) := by decide +kernel
theorem dX7_codeIn_1 : decode cX7_codeIn 1 = .ok (.getfield 10, 3) := by decide +kernel
theorem dX7_codeIn_4 : decode cX7_codeIn 4 = .ok (.getfield 236, 3) := by decide +kernel
theorem dX7_codeIn_7 : decode cX7_codeIn 7 = .ok (.iload_n 1, 1) := by decide +kernel
theorem dX7_codeIn_8 : decode cX7_codeIn 8 = .ok (.invokevirtual 250, 3) := by decide +kernel
theorem dX7_codeIn_11 : decode cX7_codeIn 11 = .ok (.iload_n 2, 1) := by decide +kernel
theorem dX7_codeIn_12 : decode cX7_codeIn 12 = .ok (.invokevirtual 160, 3) := by decide +kernel
theorem dX7_codeIn_15 : decode cX7_codeIn 15 = .ok (.invokestatic 202, 3) := by decide +kernel
theorem dX7_codeIn_18 : decode cX7_codeIn 18 = .ok (.ireturn, 1) := by decide +kernel
theorem dX7_nextHoard_0 : decode cX7_nextHoard 0 = .ok (.aload_n 0, 1) := by decide +kernel
theorem dX7_nextHoard_1 : decode cX7_nextHoard 1 = .ok (.getfield 10, 3) := by decide +kernel
theorem dX7_nextHoard_4 : decode cX7_nextHoard 4 = .ok (.getfield 236, 3) := by decide +kernel
theorem dX7_nextHoard_7 : decode cX7_nextHoard 7 = .ok (.getfield 254, 3) := by decide +kernel
theorem dX7_nextHoard_10 : decode cX7_nextHoard 10 = .ok (.invokestatic 212, 3) := by decide +kernel
theorem dX7_nextHoard_13 : decode cX7_nextHoard 13 = .ok (.ireturn, 1) := by decide +kernel
theorem dX7_isGrowing_0 : decode cX7_isGrowing 0 = .ok (.aload_n 0, 1) := by decide +kernel
theorem dX7_isGrowing_1 : decode cX7_isGrowing 1 = .ok (.getfield 10, 3) := by decide +kernel
theorem dX7_isGrowing_4 : decode cX7_isGrowing 4 = .ok (.getfield 257, 3) := by decide +kernel
theorem dX7_isGrowing_7 : decode cX7_isGrowing 7 = .ok (.iconst 1, 1) := by decide +kernel
theorem dX7_isGrowing_8 : decode cX7_isGrowing 8 = .ok (.if_icmp .ne 7, 3) := by decide +kernel
theorem dX7_isGrowing_11 : decode cX7_isGrowing 11 = .ok (.iconst 1, 1) := by decide +kernel
theorem dX7_isGrowing_12 : decode cX7_isGrowing 12 = .ok (.goto 4, 3) := by decide +kernel
theorem dX7_isGrowing_15 : decode cX7_isGrowing 15 = .ok (.iconst 0, 1) := by decide +kernel
theorem dX7_isGrowing_16 : decode cX7_isGrowing 16 = .ok (.ireturn, 1) := by decide +kernel
theorem dX7_canTurnYank_0 : decode cX7_canTurnYank 0 = .ok (.aload_n 0, 1) := by decide +kernel
theorem dX7_canTurnYank_1 : decode cX7_canTurnYank 1 = .ok (.getfield 10, 3) := by decide +kernel
theorem dX7_canTurnYank_4 : decode cX7_canTurnYank 4 = .ok (.getfield 257, 3) := by decide +kernel
theorem dX7_canTurnYank_7 : decode cX7_canTurnYank 7 = .ok (.iconst 2, 1) := by decide +kernel
theorem dX7_canTurnYank_8 : decode cX7_canTurnYank 8 = .ok (.if_icmp .ne 7, 3) := by decide +kernel
theorem dX7_canTurnYank_11 : decode cX7_canTurnYank 11 = .ok (.iconst 1, 1) := by decide +kernel
theorem dX7_canTurnYank_12 : decode cX7_canTurnYank 12 = .ok (.goto 4, 3) := by decide +kernel
theorem dX7_canTurnYank_15 : decode cX7_canTurnYank 15 = .ok (.iconst 0, 1) := by decide +kernel
theorem dX7_canTurnYank_16 : decode cX7_canTurnYank 16 = .ok (.ireturn, 1) := by decide +kernel
theorem dX7_lengthIfYanked_0 : decode cX7_lengthIfYanked 0 = .ok (.aload_n 0, 1) := by decide +kernel
theorem dX7_lengthIfYanked_1 : decode cX7_lengthIfYanked 1 = .ok (.getfield 10, 3) := by decide +kernel
theorem dX7_lengthIfYanked_4 : decode cX7_lengthIfYanked 4 = .ok (.getfield 68, 3) := by decide +kernel
theorem dX7_lengthIfYanked_7 : decode cX7_lengthIfYanked 7 = .ok (.getfield 72, 3) := by decide +kernel
theorem dX7_lengthIfYanked_10 : decode cX7_lengthIfYanked 10 = .ok (.invokevirtual 77, 3) := by decide +kernel
theorem dX7_lengthIfYanked_13 : decode cX7_lengthIfYanked 13 = .ok (.aload_n 0, 1) := by decide +kernel
theorem dX7_lengthIfYanked_14 : decode cX7_lengthIfYanked 14 = .ok (.getfield 10, 3) := by decide +kernel
theorem dX7_lengthIfYanked_17 : decode cX7_lengthIfYanked 17 = .ok (.getfield 236, 3) := by decide +kernel
theorem dX7_lengthIfYanked_20 : decode cX7_lengthIfYanked 20 = .ok (.iload_n 1, 1) := by decide +kernel
theorem dX7_lengthIfYanked_21 : decode cX7_lengthIfYanked 21 = .ok (.invokevirtual 247, 3) := by decide +kernel
theorem dX7_lengthIfYanked_24 : decode cX7_lengthIfYanked 24 = .ok (.invokestatic 202, 3) := by decide +kernel
theorem dX7_lengthIfYanked_27 : decode cX7_lengthIfYanked 27 = .ok (.iadd, 1) := by decide +kernel
theorem dX7_lengthIfYanked_28 : decode cX7_lengthIfYanked 28 = .ok (.ireturn, 1) := by decide +kernel
theorem dX7_weight_0 : decode cX7_weight 0 = .ok (.aload_n 0, 1) := by decide +kernel
theorem dX7_weight_1 : decode cX7_weight 1 = .ok (.getfield 10, 3) := by decide +kernel
theorem dX7_weight_4 : decode cX7_weight 4 = .ok (.getfield 236, 3) := by decide +kernel
theorem dX7_weight_7 : decode cX7_weight 7 = .ok (.invokevirtual 260, 3) := by decide +kernel
theorem dX7_weight_10 : decode cX7_weight 10 = .ok (.ireturn, 1) := by decide +kernel
theorem dX7_heaviest_0 : decode cX7_heaviest 0 = .ok (.aload_n 0, 1) := by decide +kernel
theorem dX7_heaviest_1 : decode cX7_heaviest 1 = .ok (.getfield 10, 3) := by decide +kernel
theorem dX7_heaviest_4 : decode cX7_heaviest 4 = .ok (.getfield 236, 3) := by decide +kernel
theorem dX7_heaviest_7 : decode cX7_heaviest 7 = .ok (.invokevirtual 263, 3) := by decide +kernel
theorem dX7_heaviest_10 : decode cX7_heaviest 10 = .ok (.invokestatic 212, 3) := by decide +kernel
theorem dX7_heaviest_13 : decode cX7_heaviest 13 = .ok (.ireturn, 1) := by decide +kernel
theorem dX7_killed_0 : decode cX7_killed 0 = .ok (.aload_n 0, 1) := by decide +kernel
theorem dX7_killed_1 : decode cX7_killed 1 = .ok (.getfield 10, 3) := by decide +kernel
theorem dX7_killed_4 : decode cX7_killed 4 = .ok (.getfield 266, 3) := by decide +kernel
theorem dX7_killed_7 : decode cX7_killed 7 = .ok (.getfield 270, 3) := by decide +kernel
theorem dX7_killed_10 : decode cX7_killed 10 = .ok (.ireturn, 1) := by decide +kernel
theorem dX7_yanked_0 : decode cX7_yanked 0 = .ok (.aload_n 0, 1) := by decide +kernel
theorem dX7_yanked_1 : decode cX7_yanked 1 = .ok (.getfield 10, 3) := by decide +kernel
theorem dX7_yanked_4 : decode cX7_yanked 4 = .ok (.getfield 266, 3) := by decide +kernel
theorem dX7_yanked_7 : decode cX7_yanked 7 = .ok (.getfield 275, 3) := by decide +kernel
theorem dX7_yanked_10 : decode cX7_yanked 10 = .ok (.ireturn, 1) := by decide +kernel
theorem dX7_written_0 : decode cX7_written 0 = .ok (.aload_n 0, 1) := by decide +kernel
theorem dX7_written_1 : decode cX7_written 1 = .ok (.getfield 10, 3) := by decide +kernel
theorem dX7_written_4 : decode cX7_written 4 = .ok (.getfield 266, 3) := by decide +kernel
theorem dX7_written_7 : decode cX7_written 7 = .ok (.getfield 278, 3) := by decide +kernel
theorem dX7_written_10 : decode cX7_written 10 = .ok (.aload_n 0, 1) := by decide +kernel
theorem dX7_written_11 : decode cX7_written 11 = .ok (.getfield 10, 3) := by decide +kernel
theorem dX7_written_14 : decode cX7_written 14 = .ok (.getfield 266, 3) := by decide +kernel
theorem dX7_written_17 : decode cX7_written 17 = .ok (.getfield 281, 3) := by decide +kernel
theorem dX7_written_20 : decode cX7_written 20 = .ok (.iadd, 1) := by decide +kernel
theorem dX7_written_21 : decode cX7_written 21 = .ok (.ireturn, 1) := by decide +kernel
theorem dX7_lostHoards_0 : decode cX7_lostHoards 0 = .ok (.aload_n 0, 1) := by decide +kernel
theorem dX7_lostHoards_1 : decode cX7_lostHoards 1 = .ok (.getfield 10, 3) := by decide +kernel
theorem dX7_lostHoards_4 : decode cX7_lostHoards 4 = .ok (.getfield 266, 3) := by decide +kernel
theorem dX7_lostHoards_7 : decode cX7_lostHoards 7 = .ok (.getfield 284, 3) := by decide +kernel
theorem dX7_lostHoards_10 : decode cX7_lostHoards 10 = .ok (.ireturn, 1) := by decide +kernel
theorem dX7_lengthByAccount_0 : decode cX7_lengthByAccount 0 = .ok (.aload_n 0, 1) := by decide +kernel
theorem dX7_lengthByAccount_1 : decode cX7_lengthByAccount 1 = .ok (.getfield 10, 3) := by decide +kernel
theorem dX7_lengthByAccount_4 : decode cX7_lengthByAccount 4 = .ok (.getfield 266, 3) := by decide +kernel
theorem dX7_lengthByAccount_7 : decode cX7_lengthByAccount 7 = .ok (.invokevirtual 287, 3) := by decide +kernel
theorem dX7_lengthByAccount_10 : decode cX7_lengthByAccount 10 = .ok (.ireturn, 1) := by decide +kernel
theorem dX7_meanHoard_0 : decode cX7_meanHoard 0 = .ok (.aload_n 0, 1) := by decide +kernel
theorem dX7_meanHoard_1 : decode cX7_meanHoard 1 = .ok (.getfield 10, 3) := by decide +kernel
theorem dX7_meanHoard_4 : decode cX7_meanHoard 4 = .ok (.getfield 236, 3) := by decide +kernel
theorem dX7_meanHoard_7 : decode cX7_meanHoard 7 = .ok (.getfield 240, 3) := by decide +kernel
theorem dX7_meanHoard_10 : decode cX7_meanHoard 10 = .ok (.istore_n 1, 1) := by decide +kernel
theorem dX7_meanHoard_11 : decode cX7_meanHoard 11 = .ok (.iload_n 1, 1) := by decide +kernel
theorem dX7_meanHoard_12 : decode cX7_meanHoard 12 = .ok (.ifCond .le 20, 3) := by decide +kernel
theorem dX7_meanHoard_15 : decode cX7_meanHoard 15 = .ok (.aload_n 0, 1) := by decide +kernel
theorem dX7_meanHoard_16 : decode cX7_meanHoard 16 = .ok (.getfield 10, 3) := by decide +kernel
theorem dX7_meanHoard_19 : decode cX7_meanHoard 19 = .ok (.getfield 236, 3) := by decide +kernel
theorem dX7_meanHoard_22 : decode cX7_meanHoard 22 = .ok (.invokevirtual 260, 3) := by decide +kernel
theorem dX7_meanHoard_25 : decode cX7_meanHoard 25 = .ok (.i2d, 1) := by decide +kernel
theorem dX7_meanHoard_26 : decode cX7_meanHoard 26 = .ok (.iload_n 1, 1) := by decide +kernel
theorem dX7_meanHoard_27 : decode cX7_meanHoard 27 = .ok (.i2d, 1) := by decide +kernel
theorem dX7_meanHoard_28 : decode cX7_meanHoard 28 = .ok (.ddiv, 1) := by decide +kernel
theorem dX7_meanHoard_29 : decode cX7_meanHoard 29 = .ok (.goto 4, 3) := by decide +kernel
theorem dX7_meanHoard_32 : decode cX7_meanHoard 32 = .ok (.dconst 0, 1) := by decide +kernel
theorem dX7_meanHoard_33 : decode cX7_meanHoard 33 = .ok (.dreturn, 1) := by decide +kernel
theorem dX7_digest_0 : decode cX7_digest 0 = .ok (.new 290, 3) := by decide +kernel
theorem dX7_digest_3 : decode cX7_digest 3 = .ok (.dup, 1) := by decide +kernel
theorem dX7_digest_4 : decode cX7_digest 4 = .ok (.invokespecial 292, 3) := by decide +kernel
theorem dX7_digest_7 : decode cX7_digest 7 = .ok (.astore_n 1, 1) := by decide +kernel
theorem dX7_digest_8 : decode cX7_digest 8 = .ok (.aload_n 0, 1) := by decide +kernel
theorem dX7_digest_9 : decode cX7_digest 9 = .ok (.aload_n 1, 1) := by decide +kernel
theorem dX7_digest_10 : decode cX7_digest 10 = .ok (.invokevirtual 293, 3) := by decide +kernel
theorem dX7_digest_13 : decode cX7_digest 13 = .ok (.aload_n 0, 1) := by decide +kernel
theorem dX7_digest_14 : decode cX7_digest 14 = .ok (.aload_n 1, 1) := by decide +kernel
theorem dX7_digest_15 : decode cX7_digest 15 = .ok (.invokevirtual 297, 3) := by decide +kernel
theorem dX7_digest_18 : decode cX7_digest 18 = .ok (.aload_n 0, 1) := by decide +kernel
theorem dX7_digest_19 : decode cX7_digest 19 = .ok (.aload_n 1, 1) := by decide +kernel
theorem dX7_digest_20 : decode cX7_digest 20 = .ok (.invokevirtual 300, 3) := by decide +kernel
theorem dX7_digest_23 : decode cX7_digest 23 = .ok (.aload_n 1, 1) := by decide +kernel
theorem dX7_digest_24 : decode cX7_digest 24 = .ok (.getfield 303, 3) := by decide +kernel
theorem dX7_digest_27 : decode cX7_digest 27 = .ok (.lreturn, 1) := by decide +kernel
theorem dX7_settled_0 : decode cX7_settled 0 = .ok (.iload_n 1, 1) := by decide +kernel
theorem dX7_settled_1 : decode cX7_settled 1 = .ok (.invokestatic 212, 3) := by decide +kernel
theorem dX7_settled_4 : decode cX7_settled 4 = .ok (.pop, 1) := by decide +kernel
theorem dX7_settled_5 : decode cX7_settled 5 = .ok (.aload_n 0, 1) := by decide +kernel
theorem dX7_settled_6 : decode cX7_settled 6 = .ok (.getfield 19, 3) := by decide +kernel
theorem dX7_settled_9 : decode cX7_settled 9 = .ok (.invokevirtual 187, 3) := by decide +kernel
theorem dX7_settled_12 : decode cX7_settled 12 = .ok (.iload_n 1, 1) := by decide +kernel
theorem dX7_settled_13 : decode cX7_settled 13 = .ok (.ireturn, 1) := by decide +kernel
theorem dX7_possible_0 : decode cX7_possible 0 = .ok (.iload_n 0, 1) := by decide +kernel
theorem dX7_possible_1 : decode cX7_possible 1 = .ok (.iconst (-1), 1) := by decide +kernel
theorem dX7_possible_2 : decode cX7_possible 2 = .ok (.if_icmp .ne 14, 3) := by decide +kernel
theorem dX7_possible_5 : decode cX7_possible 5 = .ok (.new 148, 3) := by decide +kernel
theorem dX7_possible_8 : decode cX7_possible 8 = .ok (.dup, 1) := by decide +kernel
theorem dX7_possible_9 : decode cX7_possible 9 = .ok (.ldc_w 307, 3) := by decide +kernel
theorem dX7_possible_12 : decode cX7_possible 12 = .ok (.invokespecial 152, 3) := by decide +kernel
theorem dX7_possible_15 : decode cX7_possible 15 = .ok (.athrow, 1) := by decide +kernel
theorem dX7_possible_16 : decode cX7_possible 16 = .ok (.iload_n 0, 1) := by decide +kernel
theorem dX7_possible_17 : decode cX7_possible 17 = .ok (.ireturn, 1) := by decide +kernel
theorem dX7_existing_0 : decode cX7_existing 0 = .ok (.iload_n 0, 1) := by decide +kernel
theorem dX7_existing_1 : decode cX7_existing 1 = .ok (.iconst (-1), 1) := by decide +kernel
theorem dX7_existing_2 : decode cX7_existing 2 = .ok (.if_icmp .ne 14, 3) := by decide +kernel
theorem dX7_existing_5 : decode cX7_existing 5 = .ok (.new 309, 3) := by decide +kernel
theorem dX7_existing_8 : decode cX7_existing 8 = .ok (.dup, 1) := by decide +kernel
theorem dX7_existing_9 : decode cX7_existing 9 = .ok (.ldc_w 311, 3) := by decide +kernel
theorem dX7_existing_12 : decode cX7_existing 12 = .ok (.invokespecial 313, 3) := by decide +kernel
theorem dX7_existing_15 : decode cX7_existing 15 = .ok (.athrow, 1) := by decide +kernel
theorem dX7_existing_16 : decode cX7_existing 16 = .ok (.iload_n 0, 1) := by decide +kernel
theorem dX7_existing_17 : decode cX7_existing 17 = .ok (.ireturn, 1) := by decide +kernel
theorem dX7_stageBehind_0 : decode cX7_stageBehind 0 = .ok (.iload_n 0, 1) := by decide +kernel
theorem dX7_stageBehind_1 : decode cX7_stageBehind 1 = .ok (.iconst (-1), 1) := by decide +kernel
theorem dX7_stageBehind_2 : decode cX7_stageBehind 2 = .ok (.if_icmp .ne 5, 3) := by decide +kernel
theorem dX7_stageBehind_5 : decode cX7_stageBehind 5 = .ok (.iconst (-1), 1) := by decide +kernel
theorem dX7_stageBehind_6 : decode cX7_stageBehind 6 = .ok (.ireturn, 1) := by decide +kernel
theorem dX7_stageBehind_7 : decode cX7_stageBehind 7 = .ok (.iload_n 0, 1) := by decide +kernel
theorem dX7_stageBehind_8 : decode cX7_stageBehind 8 = .ok (.iconst 2, 1) := by decide +kernel
theorem dX7_stageBehind_9 : decode cX7_stageBehind 9 = .ok (.if_icmp .ne 5, 3) := by decide +kernel
theorem dX7_stageBehind_12 : decode cX7_stageBehind 12 = .ok (.iconst 0, 1) := by decide +kernel
theorem dX7_stageBehind_13 : decode cX7_stageBehind 13 = .ok (.ireturn, 1) := by decide +kernel
theorem dX7_stageBehind_14 : decode cX7_stageBehind 14 = .ok (.iload_n 1, 1) := by decide +kernel
theorem dX7_stageBehind_15 : decode cX7_stageBehind 15 = .ok (.bipush 39, 2) := by decide +kernel
theorem dX7_stageBehind_17 : decode cX7_stageBehind 17 = .ok (.if_icmp .ne 5, 3) := by decide +kernel
theorem dX7_stageBehind_20 : decode cX7_stageBehind 20 = .ok (.iconst 2, 1) := by decide +kernel
theorem dX7_stageBehind_21 : decode cX7_stageBehind 21 = .ok (.ireturn, 1) := by decide +kernel
theorem dX7_stageBehind_22 : decode cX7_stageBehind 22 = .ok (.ldc_w 314, 3) := by decide +kernel
theorem dX7_stageBehind_25 : decode cX7_stageBehind 25 = .ok (.iload_n 1, 1) := by decide +kernel
theorem dX7_stageBehind_26 : decode cX7_stageBehind 26 = .ok (.i2c, 1) := by decide +kernel
theorem dX7_stageBehind_27 : decode cX7_stageBehind 27 = .ok (.invokevirtual 316, 3) := by decide +kernel
theorem dX7_stageBehind_30 : decode cX7_stageBehind 30 = .ok (.ifCond .lt 5, 3) := by decide +kernel
theorem dX7_stageBehind_33 : decode cX7_stageBehind 33 = .ok (.iconst 0, 1) := by decide +kernel
theorem dX7_stageBehind_34 : decode cX7_stageBehind 34 = .ok (.ireturn, 1) := by decide +kernel
theorem dX7_stageBehind_35 : decode cX7_stageBehind 35 = .ok (.iload_n 0, 1) := by decide +kernel
theorem dX7_stageBehind_36 : decode cX7_stageBehind 36 = .ok (.ifCond .ne 14, 3) := by decide +kernel
theorem dX7_stageBehind_39 : decode cX7_stageBehind 39 = .ok (.iload_n 1, 1) := by decide +kernel
theorem dX7_stageBehind_40 : decode cX7_stageBehind 40 = .ok (.invokestatic 321, 3) := by decide +kernel
theorem dX7_stageBehind_43 : decode cX7_stageBehind 43 = .ok (.ifCond .eq 7, 3) := by decide +kernel
theorem dX7_stageBehind_46 : decode cX7_stageBehind 46 = .ok (.iconst 1, 1) := by decide +kernel
theorem dX7_stageBehind_47 : decode cX7_stageBehind 47 = .ok (.goto 4, 3) := by decide +kernel
theorem dX7_stageBehind_50 : decode cX7_stageBehind 50 = .ok (.iconst (-1), 1) := by decide +kernel
theorem dX7_stageBehind_51 : decode cX7_stageBehind 51 = .ok (.ireturn, 1) := by decide +kernel
theorem dX7_isNumber_0 : decode cX7_isNumber 0 = .ok (.iload_n 0, 1) := by decide +kernel
theorem dX7_isNumber_1 : decode cX7_isNumber 1 = .ok (.bipush 50, 2) := by decide +kernel
theorem dX7_isNumber_3 : decode cX7_isNumber 3 = .ok (.if_icmp .lt 13, 3) := by decide +kernel
theorem dX7_isNumber_6 : decode cX7_isNumber 6 = .ok (.iload_n 0, 1) := by decide +kernel
theorem dX7_isNumber_7 : decode cX7_isNumber 7 = .ok (.bipush 57, 2) := by decide +kernel
theorem dX7_isNumber_9 : decode cX7_isNumber 9 = .ok (.if_icmp .gt 7, 3) := by decide +kernel
theorem dX7_isNumber_12 : decode cX7_isNumber 12 = .ok (.iconst 1, 1) := by decide +kernel
theorem dX7_isNumber_13 : decode cX7_isNumber 13 = .ok (.goto 4, 3) := by decide +kernel
theorem dX7_isNumber_16 : decode cX7_isNumber 16 = .ok (.iconst 0, 1) := by decide +kernel
theorem dX7_isNumber_17 : decode cX7_isNumber 17 = .ok (.ireturn, 1) := by decide +kernel
theorem dX7_tellsDeeds_0 : decode cX7_tellsDeeds 0 = .ok (.iconst 0, 1) := by decide +kernel
theorem dX7_tellsDeeds_1 : decode cX7_tellsDeeds 1 = .ok (.istore_n 1, 1) := by decide +kernel
theorem dX7_tellsDeeds_2 : decode cX7_tellsDeeds 2 = .ok (.iconst 0, 1) := by decide +kernel
theorem dX7_tellsDeeds_3 : decode cX7_tellsDeeds 3 = .ok (.istore_n 2, 1) := by decide +kernel
theorem dX7_tellsDeeds_4 : decode cX7_tellsDeeds 4 = .ok (.iload_n 2, 1) := by decide +kernel
theorem dX7_tellsDeeds_5 : decode cX7_tellsDeeds 5 = .ok (.aload_n 0, 1) := by decide +kernel
theorem dX7_tellsDeeds_6 : decode cX7_tellsDeeds 6 = .ok (.getfield 36, 3) := by decide +kernel
theorem dX7_tellsDeeds_9 : decode cX7_tellsDeeds 9 = .ok (.invokevirtual 77, 3) := by decide +kernel
theorem dX7_tellsDeeds_12 : decode cX7_tellsDeeds 12 = .ok (.if_icmp .ge 22, 3) := by decide +kernel
theorem dX7_tellsDeeds_15 : decode cX7_tellsDeeds 15 = .ok (.iload_n 1, 1) := by decide +kernel
theorem dX7_tellsDeeds_16 : decode cX7_tellsDeeds 16 = .ok (.aload_n 0, 1) := by decide +kernel
theorem dX7_tellsDeeds_17 : decode cX7_tellsDeeds 17 = .ok (.getfield 36, 3) := by decide +kernel
theorem dX7_tellsDeeds_20 : decode cX7_tellsDeeds 20 = .ok (.iload_n 2, 1) := by decide +kernel
theorem dX7_tellsDeeds_21 : decode cX7_tellsDeeds 21 = .ok (.invokevirtual 160, 3) := by decide +kernel
theorem dX7_tellsDeeds_24 : decode cX7_tellsDeeds 24 = .ok (.invokestatic 163, 3) := by decide +kernel
theorem dX7_tellsDeeds_27 : decode cX7_tellsDeeds 27 = .ok (.istore_n 1, 1) := by decide +kernel
theorem dX7_tellsDeeds_28 : decode cX7_tellsDeeds 28 = .ok (.iinc 2 1, 3) := by decide +kernel
theorem dX7_tellsDeeds_31 : decode cX7_tellsDeeds 31 = .ok (.goto (-27), 3) := by decide +kernel
theorem dX7_tellsDeeds_34 : decode cX7_tellsDeeds 34 = .ok (.aload_n 0, 1) := by decide +kernel
theorem dX7_tellsDeeds_35 : decode cX7_tellsDeeds 35 = .ok (.getfield 36, 3) := by decide +kernel
theorem dX7_tellsDeeds_38 : decode cX7_tellsDeeds 38 = .ok (.invokevirtual 77, 3) := by decide +kernel
theorem dX7_tellsDeeds_41 : decode cX7_tellsDeeds 41 = .ok (.ifCond .le 11, 3) := by decide +kernel
theorem dX7_tellsDeeds_44 : decode cX7_tellsDeeds 44 = .ok (.iload_n 1, 1) := by decide +kernel
theorem dX7_tellsDeeds_45 : decode cX7_tellsDeeds 45 = .ok (.ifCond .ne 7, 3) := by decide +kernel
theorem dX7_tellsDeeds_48 : decode cX7_tellsDeeds 48 = .ok (.iconst 1, 1) := by decide +kernel
theorem dX7_tellsDeeds_49 : decode cX7_tellsDeeds 49 = .ok (.goto 4, 3) := by decide +kernel
theorem dX7_tellsDeeds_52 : decode cX7_tellsDeeds 52 = .ok (.iconst 0, 1) := by decide +kernel
theorem dX7_tellsDeeds_53 : decode cX7_tellsDeeds 53 = .ok (.ireturn, 1) := by decide +kernel
theorem dX7_deedsDone_0 : decode cX7_deedsDone 0 = .ok (.iconst 0, 1) := by decide +kernel
theorem dX7_deedsDone_1 : decode cX7_deedsDone 1 = .ok (.istore_n 1, 1) := by decide +kernel
theorem dX7_deedsDone_2 : decode cX7_deedsDone 2 = .ok (.iconst 1, 1) := by decide +kernel
theorem dX7_deedsDone_3 : decode cX7_deedsDone 3 = .ok (.istore_n 2, 1) := by decide +kernel
theorem dX7_deedsDone_4 : decode cX7_deedsDone 4 = .ok (.iconst 0, 1) := by decide +kernel
theorem dX7_deedsDone_5 : decode cX7_deedsDone 5 = .ok (.istore_n 3, 1) := by decide +kernel
theorem dX7_deedsDone_6 : decode cX7_deedsDone 6 = .ok (.iload_n 3, 1) := by decide +kernel
theorem dX7_deedsDone_7 : decode cX7_deedsDone 7 = .ok (.aload_n 0, 1) := by decide +kernel
theorem dX7_deedsDone_8 : decode cX7_deedsDone 8 = .ok (.getfield 36, 3) := by decide +kernel
theorem dX7_deedsDone_11 : decode cX7_deedsDone 11 = .ok (.invokevirtual 77, 3) := by decide +kernel
theorem dX7_deedsDone_14 : decode cX7_deedsDone 14 = .ok (.if_icmp .ge 90, 3) := by decide +kernel
theorem dX7_deedsDone_17 : decode cX7_deedsDone 17 = .ok (.aload_n 0, 1) := by decide +kernel
theorem dX7_deedsDone_18 : decode cX7_deedsDone 18 = .ok (.getfield 36, 3) := by decide +kernel
theorem dX7_deedsDone_21 : decode cX7_deedsDone 21 = .ok (.iload_n 3, 1) := by decide +kernel
theorem dX7_deedsDone_22 : decode cX7_deedsDone 22 = .ok (.invokevirtual 160, 3) := by decide +kernel
theorem dX7_deedsDone_25 : decode cX7_deedsDone 25 = .ok (.istore 4, 2) := by decide +kernel
theorem dX7_deedsDone_27 : decode cX7_deedsDone 27 = .ok (.iload 4, 2) := by decide +kernel
theorem dX7_deedsDone_29 : decode cX7_deedsDone 29 = .ok (.invokestatic 321, 3) := by decide +kernel
theorem dX7_deedsDone_32 : decode cX7_deedsDone 32 = .ok (.ifCond .eq 12, 3) := by decide +kernel
theorem dX7_deedsDone_35 : decode cX7_deedsDone 35 = .ok (.iload 4, 2) := by decide +kernel
theorem dX7_deedsDone_37 : decode cX7_deedsDone 37 = .ok (.bipush 48, 2) := by decide +kernel
theorem dX7_deedsDone_39 : decode cX7_deedsDone 39 = .ok (.isub, 1) := by decide +kernel
theorem dX7_deedsDone_40 : decode cX7_deedsDone 40 = .ok (.istore_n 2, 1) := by decide +kernel
theorem dX7_deedsDone_41 : decode cX7_deedsDone 41 = .ok (.goto 57, 3) := by decide +kernel
theorem dX7_deedsDone_44 : decode cX7_deedsDone 44 = .ok (.iload 4, 2) := by decide +kernel
theorem dX7_deedsDone_46 : decode cX7_deedsDone 46 = .ok (.bipush 39, 2) := by decide +kernel
theorem dX7_deedsDone_48 : decode cX7_deedsDone 48 = .ok (.if_icmp .ne 6, 3) := by decide +kernel
theorem dX7_deedsDone_51 : decode cX7_deedsDone 51 = .ok (.iinc 3 1, 3) := by decide +kernel
theorem dX7_deedsDone_54 : decode cX7_deedsDone 54 = .ok (.iconst 0, 1) := by decide +kernel
theorem dX7_deedsDone_55 : decode cX7_deedsDone 55 = .ok (.istore 5, 2) := by decide +kernel
theorem dX7_deedsDone_57 : decode cX7_deedsDone 57 = .ok (.iload 5, 2) := by decide +kernel
theorem dX7_deedsDone_59 : decode cX7_deedsDone 59 = .ok (.iload_n 2, 1) := by decide +kernel
theorem dX7_deedsDone_60 : decode cX7_deedsDone 60 = .ok (.if_icmp .ge 32, 3) := by decide +kernel
theorem dX7_deedsDone_63 : decode cX7_deedsDone 63 = .ok (.aload_n 0, 1) := by decide +kernel
theorem dX7_deedsDone_64 : decode cX7_deedsDone 64 = .ok (.getfield 10, 3) := by decide +kernel
theorem dX7_deedsDone_67 : decode cX7_deedsDone 67 = .ok (.iload 4, 2) := by decide +kernel
theorem dX7_deedsDone_69 : decode cX7_deedsDone 69 = .ok (.aload_n 0, 1) := by decide +kernel
theorem dX7_deedsDone_70 : decode cX7_deedsDone 70 = .ok (.getfield 36, 3) := by decide +kernel
theorem dX7_deedsDone_73 : decode cX7_deedsDone 73 = .ok (.iload_n 3, 1) := by decide +kernel
theorem dX7_deedsDone_74 : decode cX7_deedsDone 74 = .ok (.invokevirtual 160, 3) := by decide +kernel
theorem dX7_deedsDone_77 : decode cX7_deedsDone 77 = .ok (.invokevirtual 325, 3) := by decide +kernel
theorem dX7_deedsDone_80 : decode cX7_deedsDone 80 = .ok (.iconst (-1), 1) := by decide +kernel
theorem dX7_deedsDone_81 : decode cX7_deedsDone 81 = .ok (.if_icmp .ne 5, 3) := by decide +kernel
theorem dX7_deedsDone_84 : decode cX7_deedsDone 84 = .ok (.iconst (-1), 1) := by decide +kernel
theorem dX7_deedsDone_85 : decode cX7_deedsDone 85 = .ok (.ireturn, 1) := by decide +kernel
theorem dX7_deedsDone_86 : decode cX7_deedsDone 86 = .ok (.iinc 5 1, 3) := by decide +kernel
theorem dX7_deedsDone_89 : decode cX7_deedsDone 89 = .ok (.goto (-32), 3) := by decide +kernel
theorem dX7_deedsDone_92 : decode cX7_deedsDone 92 = .ok (.iload_n 1, 1) := by decide +kernel
theorem dX7_deedsDone_93 : decode cX7_deedsDone 93 = .ok (.iload_n 2, 1) := by decide +kernel
theorem dX7_deedsDone_94 : decode cX7_deedsDone 94 = .ok (.iadd, 1) := by decide +kernel
theorem dX7_deedsDone_95 : decode cX7_deedsDone 95 = .ok (.istore_n 1, 1) := by decide +kernel
theorem dX7_deedsDone_96 : decode cX7_deedsDone 96 = .ok (.iconst 1, 1) := by decide +kernel
theorem dX7_deedsDone_97 : decode cX7_deedsDone 97 = .ok (.istore_n 2, 1) := by decide +kernel
theorem dX7_deedsDone_98 : decode cX7_deedsDone 98 = .ok (.iinc 3 1, 3) := by decide +kernel
theorem dX7_deedsDone_101 : decode cX7_deedsDone 101 = .ok (.goto (-95), 3) := by decide +kernel
theorem dX7_deedsDone_104 : decode cX7_deedsDone 104 = .ok (.iload_n 1, 1) := by decide +kernel
theorem dX7_deedsDone_105 : decode cX7_deedsDone 105 = .ok (.ireturn, 1) := by decide +kernel
theorem dX7_hashScroll_0 : decode cX7_hashScroll 0 = .ok (.aload_n 0, 1) := by decide +kernel
theorem dX7_hashScroll_1 : decode cX7_hashScroll 1 = .ok (.getfield 10, 3) := by decide +kernel
theorem dX7_hashScroll_4 : decode cX7_hashScroll 4 = .ok (.getfield 68, 3) := by decide +kernel
theorem dX7_hashScroll_7 : decode cX7_hashScroll 7 = .ok (.astore_n 2, 1) := by decide +kernel
theorem dX7_hashScroll_8 : decode cX7_hashScroll 8 = .ok (.aload_n 1, 1) := by decide +kernel
theorem dX7_hashScroll_9 : decode cX7_hashScroll 9 = .ok (.aload_n 2, 1) := by decide +kernel
theorem dX7_hashScroll_10 : decode cX7_hashScroll 10 = .ok (.getfield 72, 3) := by decide +kernel
theorem dX7_hashScroll_13 : decode cX7_hashScroll 13 = .ok (.invokevirtual 328, 3) := by decide +kernel
theorem dX7_hashScroll_16 : decode cX7_hashScroll 16 = .ok (.aload_n 1, 1) := by decide +kernel
theorem dX7_hashScroll_17 : decode cX7_hashScroll 17 = .ok (.aload_n 2, 1) := by decide +kernel
theorem dX7_hashScroll_18 : decode cX7_hashScroll 18 = .ok (.getfield 205, 3) := by decide +kernel
theorem dX7_hashScroll_21 : decode cX7_hashScroll 21 = .ok (.i2l, 1) := by decide +kernel
theorem dX7_hashScroll_22 : decode cX7_hashScroll 22 = .ok (.invokevirtual 332, 3) := by decide +kernel
theorem dX7_hashScroll_25 : decode cX7_hashScroll 25 = .ok (.aload_n 1, 1) := by decide +kernel
theorem dX7_hashScroll_26 : decode cX7_hashScroll 26 = .ok (.aload_n 2, 1) := by decide +kernel
theorem dX7_hashScroll_27 : decode cX7_hashScroll 27 = .ok (.getfield 209, 3) := by decide +kernel
theorem dX7_hashScroll_30 : decode cX7_hashScroll 30 = .ok (.iconst 1, 1) := by decide +kernel
theorem dX7_hashScroll_31 : decode cX7_hashScroll 31 = .ok (.iadd, 1) := by decide +kernel
theorem dX7_hashScroll_32 : decode cX7_hashScroll 32 = .ok (.i2l, 1) := by decide +kernel
theorem dX7_hashScroll_33 : decode cX7_hashScroll 33 = .ok (.invokevirtual 332, 3) := by decide +kernel
theorem dX7_hashScroll_36 : decode cX7_hashScroll 36 = .ok (.aload_n 1, 1) := by decide +kernel
theorem dX7_hashScroll_37 : decode cX7_hashScroll 37 = .ok (.aload_n 2, 1) := by decide +kernel
theorem dX7_hashScroll_38 : decode cX7_hashScroll 38 = .ok (.invokevirtual 215, 3) := by decide +kernel
theorem dX7_hashScroll_41 : decode cX7_hashScroll 41 = .ok (.iconst 1, 1) := by decide +kernel
theorem dX7_hashScroll_42 : decode cX7_hashScroll 42 = .ok (.iadd, 1) := by decide +kernel
theorem dX7_hashScroll_43 : decode cX7_hashScroll 43 = .ok (.i2l, 1) := by decide +kernel
theorem dX7_hashScroll_44 : decode cX7_hashScroll 44 = .ok (.invokevirtual 332, 3) := by decide +kernel
theorem dX7_hashScroll_47 : decode cX7_hashScroll 47 = .ok (.aload_n 1, 1) := by decide +kernel
theorem dX7_hashScroll_48 : decode cX7_hashScroll 48 = .ok (.aload_n 0, 1) := by decide +kernel
theorem dX7_hashScroll_49 : decode cX7_hashScroll 49 = .ok (.invokevirtual 336, 3) := by decide +kernel
theorem dX7_hashScroll_52 : decode cX7_hashScroll 52 = .ok (.i2l, 1) := by decide +kernel
theorem dX7_hashScroll_53 : decode cX7_hashScroll 53 = .ok (.invokevirtual 332, 3) := by decide +kernel
theorem dX7_hashScroll_56 : decode cX7_hashScroll 56 = .ok (.aload_n 1, 1) := by decide +kernel
theorem dX7_hashScroll_57 : decode cX7_hashScroll 57 = .ok (.aload_n 0, 1) := by decide +kernel
theorem dX7_hashScroll_58 : decode cX7_hashScroll 58 = .ok (.invokevirtual 339, 3) := by decide +kernel
theorem dX7_hashScroll_61 : decode cX7_hashScroll 61 = .ok (.i2l, 1) := by decide +kernel
theorem dX7_hashScroll_62 : decode cX7_hashScroll 62 = .ok (.invokevirtual 332, 3) := by decide +kernel
theorem dX7_hashScroll_65 : decode cX7_hashScroll 65 = .ok (.aload_n 1, 1) := by decide +kernel
theorem dX7_hashScroll_66 : decode cX7_hashScroll 66 = .ok (.aload_n 0, 1) := by decide +kernel
theorem dX7_hashScroll_67 : decode cX7_hashScroll 67 = .ok (.invokevirtual 342, 3) := by decide +kernel
theorem dX7_hashScroll_70 : decode cX7_hashScroll 70 = .ok (.i2l, 1) := by decide +kernel
theorem dX7_hashScroll_71 : decode cX7_hashScroll 71 = .ok (.invokevirtual 332, 3) := by decide +kernel
theorem dX7_hashScroll_74 : decode cX7_hashScroll 74 = .ok (.aload_n 1, 1) := by decide +kernel
theorem dX7_hashScroll_75 : decode cX7_hashScroll 75 = .ok (.aload_n 0, 1) := by decide +kernel
theorem dX7_hashScroll_76 : decode cX7_hashScroll 76 = .ok (.invokevirtual 345, 3) := by decide +kernel
theorem dX7_hashScroll_79 : decode cX7_hashScroll 79 = .ok (.i2l, 1) := by decide +kernel
theorem dX7_hashScroll_80 : decode cX7_hashScroll 80 = .ok (.invokevirtual 332, 3) := by decide +kernel
theorem dX7_hashScroll_83 : decode cX7_hashScroll 83 = .ok (.aload_n 1, 1) := by decide +kernel
theorem dX7_hashScroll_84 : decode cX7_hashScroll 84 = .ok (.aload_n 0, 1) := by decide +kernel
theorem dX7_hashScroll_85 : decode cX7_hashScroll 85 = .ok (.invokevirtual 348, 3) := by decide +kernel
theorem dX7_hashScroll_88 : decode cX7_hashScroll 88 = .ok (.i2l, 1) := by decide +kernel
theorem dX7_hashScroll_89 : decode cX7_hashScroll 89 = .ok (.invokevirtual 332, 3) := by decide +kernel
theorem dX7_hashScroll_92 : decode cX7_hashScroll 92 = .ok (.aload_n 1, 1) := by decide +kernel
theorem dX7_hashScroll_93 : decode cX7_hashScroll 93 = .ok (.aload_n 0, 1) := by decide +kernel
theorem dX7_hashScroll_94 : decode cX7_hashScroll 94 = .ok (.invokevirtual 351, 3) := by decide +kernel
theorem dX7_hashScroll_97 : decode cX7_hashScroll 97 = .ok (.i2l, 1) := by decide +kernel
theorem dX7_hashScroll_98 : decode cX7_hashScroll 98 = .ok (.invokevirtual 332, 3) := by decide +kernel
theorem dX7_hashScroll_101 : decode cX7_hashScroll 101 = .ok (.aload_n 1, 1) := by decide +kernel
theorem dX7_hashScroll_102 : decode cX7_hashScroll 102 = .ok (.aload_n 0, 1) := by decide +kernel
theorem dX7_hashScroll_103 : decode cX7_hashScroll 103 = .ok (.invokevirtual 354, 3) := by decide +kernel
theorem dX7_hashScroll_106 : decode cX7_hashScroll 106 = .ok (.i2l, 1) := by decide +kernel
theorem dX7_hashScroll_107 : decode cX7_hashScroll 107 = .ok (.invokevirtual 332, 3) := by decide +kernel
theorem dX7_hashScroll_110 : decode cX7_hashScroll 110 = .ok (.return_, 1) := by decide +kernel
theorem dX7_hashRing_0 : decode cX7_hashRing 0 = .ok (.aload_n 0, 1) := by decide +kernel
theorem dX7_hashRing_1 : decode cX7_hashRing 1 = .ok (.getfield 10, 3) := by decide +kernel
theorem dX7_hashRing_4 : decode cX7_hashRing 4 = .ok (.getfield 236, 3) := by decide +kernel
theorem dX7_hashRing_7 : decode cX7_hashRing 7 = .ok (.astore_n 2, 1) := by decide +kernel
theorem dX7_hashRing_8 : decode cX7_hashRing 8 = .ok (.aload_n 1, 1) := by decide +kernel
theorem dX7_hashRing_9 : decode cX7_hashRing 9 = .ok (.aload_n 2, 1) := by decide +kernel
theorem dX7_hashRing_10 : decode cX7_hashRing 10 = .ok (.getfield 240, 3) := by decide +kernel
theorem dX7_hashRing_13 : decode cX7_hashRing 13 = .ok (.i2l, 1) := by decide +kernel
theorem dX7_hashRing_14 : decode cX7_hashRing 14 = .ok (.invokevirtual 332, 3) := by decide +kernel
theorem dX7_hashRing_17 : decode cX7_hashRing 17 = .ok (.aload_n 1, 1) := by decide +kernel
theorem dX7_hashRing_18 : decode cX7_hashRing 18 = .ok (.aload_n 2, 1) := by decide +kernel
theorem dX7_hashRing_19 : decode cX7_hashRing 19 = .ok (.getfield 244, 3) := by decide +kernel
theorem dX7_hashRing_22 : decode cX7_hashRing 22 = .ok (.i2l, 1) := by decide +kernel
theorem dX7_hashRing_23 : decode cX7_hashRing 23 = .ok (.invokevirtual 332, 3) := by decide +kernel
theorem dX7_hashRing_26 : decode cX7_hashRing 26 = .ok (.iconst 0, 1) := by decide +kernel
theorem dX7_hashRing_27 : decode cX7_hashRing 27 = .ok (.istore_n 3, 1) := by decide +kernel
theorem dX7_hashRing_28 : decode cX7_hashRing 28 = .ok (.iload_n 3, 1) := by decide +kernel
theorem dX7_hashRing_29 : decode cX7_hashRing 29 = .ok (.aload_n 2, 1) := by decide +kernel
theorem dX7_hashRing_30 : decode cX7_hashRing 30 = .ok (.getfield 240, 3) := by decide +kernel
theorem dX7_hashRing_33 : decode cX7_hashRing 33 = .ok (.if_icmp .ge 45, 3) := by decide +kernel
theorem dX7_hashRing_36 : decode cX7_hashRing 36 = .ok (.aload_n 1, 1) := by decide +kernel
theorem dX7_hashRing_37 : decode cX7_hashRing 37 = .ok (.aload_n 2, 1) := by decide +kernel
theorem dX7_hashRing_38 : decode cX7_hashRing 38 = .ok (.iload_n 3, 1) := by decide +kernel
theorem dX7_hashRing_39 : decode cX7_hashRing 39 = .ok (.invokevirtual 250, 3) := by decide +kernel
theorem dX7_hashRing_42 : decode cX7_hashRing 42 = .ok (.invokevirtual 328, 3) := by decide +kernel
theorem dX7_hashRing_45 : decode cX7_hashRing 45 = .ok (.aload_n 1, 1) := by decide +kernel
theorem dX7_hashRing_46 : decode cX7_hashRing 46 = .ok (.aload_n 0, 1) := by decide +kernel
theorem dX7_hashRing_47 : decode cX7_hashRing 47 = .ok (.getfield 10, 3) := by decide +kernel
theorem dX7_hashRing_50 : decode cX7_hashRing 50 = .ok (.getfield 68, 3) := by decide +kernel
theorem dX7_hashRing_53 : decode cX7_hashRing 53 = .ok (.getfield 72, 3) := by decide +kernel
theorem dX7_hashRing_56 : decode cX7_hashRing 56 = .ok (.invokevirtual 77, 3) := by decide +kernel
theorem dX7_hashRing_59 : decode cX7_hashRing 59 = .ok (.aload_n 2, 1) := by decide +kernel
theorem dX7_hashRing_60 : decode cX7_hashRing 60 = .ok (.iload_n 3, 1) := by decide +kernel
theorem dX7_hashRing_61 : decode cX7_hashRing 61 = .ok (.invokevirtual 250, 3) := by decide +kernel
theorem dX7_hashRing_64 : decode cX7_hashRing 64 = .ok (.invokevirtual 77, 3) := by decide +kernel
theorem dX7_hashRing_67 : decode cX7_hashRing 67 = .ok (.iadd, 1) := by decide +kernel
theorem dX7_hashRing_68 : decode cX7_hashRing 68 = .ok (.i2l, 1) := by decide +kernel
theorem dX7_hashRing_69 : decode cX7_hashRing 69 = .ok (.invokevirtual 332, 3) := by decide +kernel
theorem dX7_hashRing_72 : decode cX7_hashRing 72 = .ok (.iinc 3 1, 3) := by decide +kernel
theorem dX7_hashRing_75 : decode cX7_hashRing 75 = .ok (.goto (-47), 3) := by decide +kernel
theorem dX7_hashRing_78 : decode cX7_hashRing 78 = .ok (.aload_n 1, 1) := by decide +kernel
theorem dX7_hashRing_79 : decode cX7_hashRing 79 = .ok (.aload_n 2, 1) := by decide +kernel
theorem dX7_hashRing_80 : decode cX7_hashRing 80 = .ok (.getfield 254, 3) := by decide +kernel
theorem dX7_hashRing_83 : decode cX7_hashRing 83 = .ok (.iconst 1, 1) := by decide +kernel
theorem dX7_hashRing_84 : decode cX7_hashRing 84 = .ok (.iadd, 1) := by decide +kernel
theorem dX7_hashRing_85 : decode cX7_hashRing 85 = .ok (.i2l, 1) := by decide +kernel
theorem dX7_hashRing_86 : decode cX7_hashRing 86 = .ok (.invokevirtual 332, 3) := by decide +kernel
theorem dX7_hashRing_89 : decode cX7_hashRing 89 = .ok (.aload_n 1, 1) := by decide +kernel
theorem dX7_hashRing_90 : decode cX7_hashRing 90 = .ok (.aload_n 0, 1) := by decide +kernel
theorem dX7_hashRing_91 : decode cX7_hashRing 91 = .ok (.invokevirtual 357, 3) := by decide +kernel
theorem dX7_hashRing_94 : decode cX7_hashRing 94 = .ok (.ifCond .eq 7, 3) := by decide +kernel
theorem dX7_hashRing_97 : decode cX7_hashRing 97 = .ok (.lconst 1, 1) := by decide +kernel
theorem dX7_hashRing_98 : decode cX7_hashRing 98 = .ok (.goto 4, 3) := by decide +kernel
theorem dX7_hashRing_101 : decode cX7_hashRing 101 = .ok (.lconst 0, 1) := by decide +kernel
theorem dX7_hashRing_102 : decode cX7_hashRing 102 = .ok (.invokevirtual 332, 3) := by decide +kernel
theorem dX7_hashRing_105 : decode cX7_hashRing 105 = .ok (.aload_n 1, 1) := by decide +kernel
theorem dX7_hashRing_106 : decode cX7_hashRing 106 = .ok (.aload_n 0, 1) := by decide +kernel
theorem dX7_hashRing_107 : decode cX7_hashRing 107 = .ok (.invokevirtual 360, 3) := by decide +kernel
theorem dX7_hashRing_110 : decode cX7_hashRing 110 = .ok (.ifCond .eq 7, 3) := by decide +kernel
theorem dX7_hashRing_113 : decode cX7_hashRing 113 = .ok (.lconst 1, 1) := by decide +kernel
theorem dX7_hashRing_114 : decode cX7_hashRing 114 = .ok (.goto 4, 3) := by decide +kernel
theorem dX7_hashRing_117 : decode cX7_hashRing 117 = .ok (.lconst 0, 1) := by decide +kernel
theorem dX7_hashRing_118 : decode cX7_hashRing 118 = .ok (.invokevirtual 332, 3) := by decide +kernel
theorem dX7_hashRing_121 : decode cX7_hashRing 121 = .ok (.aload_n 1, 1) := by decide +kernel
theorem dX7_hashRing_122 : decode cX7_hashRing 122 = .ok (.aload_n 2, 1) := by decide +kernel
theorem dX7_hashRing_123 : decode cX7_hashRing 123 = .ok (.invokevirtual 260, 3) := by decide +kernel
theorem dX7_hashRing_126 : decode cX7_hashRing 126 = .ok (.i2l, 1) := by decide +kernel
theorem dX7_hashRing_127 : decode cX7_hashRing 127 = .ok (.invokevirtual 332, 3) := by decide +kernel
theorem dX7_hashRing_130 : decode cX7_hashRing 130 = .ok (.aload_n 1, 1) := by decide +kernel
theorem dX7_hashRing_131 : decode cX7_hashRing 131 = .ok (.aload_n 2, 1) := by decide +kernel
theorem dX7_hashRing_132 : decode cX7_hashRing 132 = .ok (.invokevirtual 263, 3) := by decide +kernel
theorem dX7_hashRing_135 : decode cX7_hashRing 135 = .ok (.iconst 1, 1) := by decide +kernel
theorem dX7_hashRing_136 : decode cX7_hashRing 136 = .ok (.iadd, 1) := by decide +kernel
theorem dX7_hashRing_137 : decode cX7_hashRing 137 = .ok (.i2l, 1) := by decide +kernel
theorem dX7_hashRing_138 : decode cX7_hashRing 138 = .ok (.invokevirtual 332, 3) := by decide +kernel
theorem dX7_hashRing_141 : decode cX7_hashRing 141 = .ok (.return_, 1) := by decide +kernel
theorem dX7_hashRest_0 : decode cX7_hashRest 0 = .ok (.aload_n 1, 1) := by decide +kernel
theorem dX7_hashRest_1 : decode cX7_hashRest 1 = .ok (.aload_n 0, 1) := by decide +kernel
theorem dX7_hashRest_2 : decode cX7_hashRest 2 = .ok (.invokevirtual 363, 3) := by decide +kernel
theorem dX7_hashRest_5 : decode cX7_hashRest 5 = .ok (.i2l, 1) := by decide +kernel
theorem dX7_hashRest_6 : decode cX7_hashRest 6 = .ok (.invokevirtual 332, 3) := by decide +kernel
theorem dX7_hashRest_9 : decode cX7_hashRest 9 = .ok (.aload_n 1, 1) := by decide +kernel
theorem dX7_hashRest_10 : decode cX7_hashRest 10 = .ok (.aload_n 0, 1) := by decide +kernel
theorem dX7_hashRest_11 : decode cX7_hashRest 11 = .ok (.invokevirtual 365, 3) := by decide +kernel
theorem dX7_hashRest_14 : decode cX7_hashRest 14 = .ok (.i2l, 1) := by decide +kernel
theorem dX7_hashRest_15 : decode cX7_hashRest 15 = .ok (.invokevirtual 332, 3) := by decide +kernel
theorem dX7_hashRest_18 : decode cX7_hashRest 18 = .ok (.aload_n 1, 1) := by decide +kernel
theorem dX7_hashRest_19 : decode cX7_hashRest 19 = .ok (.aload_n 0, 1) := by decide +kernel
theorem dX7_hashRest_20 : decode cX7_hashRest 20 = .ok (.invokevirtual 367, 3) := by decide +kernel
theorem dX7_hashRest_23 : decode cX7_hashRest 23 = .ok (.i2l, 1) := by decide +kernel
theorem dX7_hashRest_24 : decode cX7_hashRest 24 = .ok (.invokevirtual 332, 3) := by decide +kernel
theorem dX7_hashRest_27 : decode cX7_hashRest 27 = .ok (.aload_n 1, 1) := by decide +kernel
theorem dX7_hashRest_28 : decode cX7_hashRest 28 = .ok (.aload_n 0, 1) := by decide +kernel
theorem dX7_hashRest_29 : decode cX7_hashRest 29 = .ok (.invokevirtual 369, 3) := by decide +kernel
theorem dX7_hashRest_32 : decode cX7_hashRest 32 = .ok (.i2l, 1) := by decide +kernel
theorem dX7_hashRest_33 : decode cX7_hashRest 33 = .ok (.invokevirtual 332, 3) := by decide +kernel
theorem dX7_hashRest_36 : decode cX7_hashRest 36 = .ok (.aload_n 1, 1) := by decide +kernel
theorem dX7_hashRest_37 : decode cX7_hashRest 37 = .ok (.aload_n 0, 1) := by decide +kernel
theorem dX7_hashRest_38 : decode cX7_hashRest 38 = .ok (.invokevirtual 372, 3) := by decide +kernel
theorem dX7_hashRest_41 : decode cX7_hashRest 41 = .ok (.i2l, 1) := by decide +kernel
theorem dX7_hashRest_42 : decode cX7_hashRest 42 = .ok (.invokevirtual 332, 3) := by decide +kernel
theorem dX7_hashRest_45 : decode cX7_hashRest 45 = .ok (.aload_n 1, 1) := by decide +kernel
theorem dX7_hashRest_46 : decode cX7_hashRest 46 = .ok (.aload_n 0, 1) := by decide +kernel
theorem dX7_hashRest_47 : decode cX7_hashRest 47 = .ok (.invokevirtual 375, 3) := by decide +kernel
theorem dX7_hashRest_50 : decode cX7_hashRest 50 = .ok (.i2l, 1) := by decide +kernel
theorem dX7_hashRest_51 : decode cX7_hashRest 51 = .ok (.invokevirtual 332, 3) := by decide +kernel
theorem dX7_hashRest_54 : decode cX7_hashRest 54 = .ok (.aload_n 1, 1) := by decide +kernel
theorem dX7_hashRest_55 : decode cX7_hashRest 55 = .ok (.aload_n 0, 1) := by decide +kernel
theorem dX7_hashRest_56 : decode cX7_hashRest 56 = .ok (.invokevirtual 378, 3) := by decide +kernel
theorem dX7_hashRest_59 : decode cX7_hashRest 59 = .ok (.invokestatic 382, 3) := by decide +kernel
theorem dX7_hashRest_62 : decode cX7_hashRest 62 = .ok (.invokevirtual 332, 3) := by decide +kernel
theorem dX7_hashRest_65 : decode cX7_hashRest 65 = .ok (.iconst 0, 1) := by decide +kernel
theorem dX7_hashRest_66 : decode cX7_hashRest 66 = .ok (.istore_n 2, 1) := by decide +kernel
theorem dX7_hashRest_67 : decode cX7_hashRest 67 = .ok (.iload_n 2, 1) := by decide +kernel
theorem dX7_hashRest_68 : decode cX7_hashRest 68 = .ok (.iconst 2, 1) := by decide +kernel
theorem dX7_hashRest_69 : decode cX7_hashRest 69 = .ok (.if_icmp .ge 27, 3) := by decide +kernel
theorem dX7_hashRest_72 : decode cX7_hashRest 72 = .ok (.aload_n 1, 1) := by decide +kernel
theorem dX7_hashRest_73 : decode cX7_hashRest 73 = .ok (.aload_n 0, 1) := by decide +kernel
theorem dX7_hashRest_74 : decode cX7_hashRest 74 = .ok (.getfield 27, 3) := by decide +kernel
theorem dX7_hashRest_77 : decode cX7_hashRest 77 = .ok (.iload_n 2, 1) := by decide +kernel
theorem dX7_hashRest_78 : decode cX7_hashRest 78 = .ok (.baload, 1) := by decide +kernel
theorem dX7_hashRest_79 : decode cX7_hashRest 79 = .ok (.ifCond .eq 7, 3) := by decide +kernel
theorem dX7_hashRest_82 : decode cX7_hashRest 82 = .ok (.lconst 1, 1) := by decide +kernel
theorem dX7_hashRest_83 : decode cX7_hashRest 83 = .ok (.goto 4, 3) := by decide +kernel
theorem dX7_hashRest_86 : decode cX7_hashRest 86 = .ok (.lconst 0, 1) := by decide +kernel
theorem dX7_hashRest_87 : decode cX7_hashRest 87 = .ok (.invokevirtual 332, 3) := by decide +kernel
theorem dX7_hashRest_90 : decode cX7_hashRest 90 = .ok (.iinc 2 1, 3) := by decide +kernel
theorem dX7_hashRest_93 : decode cX7_hashRest 93 = .ok (.goto (-26), 3) := by decide +kernel
theorem dX7_hashRest_96 : decode cX7_hashRest 96 = .ok (.aload_n 1, 1) := by decide +kernel
theorem dX7_hashRest_97 : decode cX7_hashRest 97 = .ok (.aload_n 0, 1) := by decide +kernel
theorem dX7_hashRest_98 : decode cX7_hashRest 98 = .ok (.getfield 36, 3) := by decide +kernel
theorem dX7_hashRest_101 : decode cX7_hashRest 101 = .ok (.invokevirtual 328, 3) := by decide +kernel
theorem dX7_hashRest_104 : decode cX7_hashRest 104 = .ok (.return_, 1) := by decide +kernel
theorem dX7_bitsOf_0 : decode cX7_bitsOf 0 = .ok (.dload_n 0, 1) := by decide +kernel
theorem dX7_bitsOf_1 : decode cX7_bitsOf 1 = .ok (.dconst 1, 1) := by decide +kernel
theorem dX7_bitsOf_2 : decode cX7_bitsOf 2 = .ok (.dcmp .l, 1) := by decide +kernel
theorem dX7_bitsOf_3 : decode cX7_bitsOf 3 = .ok (.ifCond .ge 5, 3) := by decide +kernel
theorem dX7_bitsOf_6 : decode cX7_bitsOf 6 = .ok (.lconst 0, 1) := by decide +kernel
theorem dX7_bitsOf_7 : decode cX7_bitsOf 7 = .ok (.lreturn, 1) := by decide +kernel
theorem dX7_bitsOf_8 : decode cX7_bitsOf 8 = .ok (.dload_n 0, 1) := by decide +kernel
theorem dX7_bitsOf_9 : decode cX7_bitsOf 9 = .ok (.dstore_n 2, 1) := by decide +kernel
theorem dX7_bitsOf_10 : decode cX7_bitsOf 10 = .ok (.ldc2_w 386, 3) := by decide +kernel
theorem dX7_bitsOf_13 : decode cX7_bitsOf 13 = .ok (.lstore 4, 2) := by decide +kernel
theorem dX7_bitsOf_15 : decode cX7_bitsOf 15 = .ok (.iconst 0, 1) := by decide +kernel
theorem dX7_bitsOf_16 : decode cX7_bitsOf 16 = .ok (.istore 6, 2) := by decide +kernel
theorem dX7_bitsOf_18 : decode cX7_bitsOf 18 = .ok (.iload 6, 2) := by decide +kernel
theorem dX7_bitsOf_20 : decode cX7_bitsOf 20 = .ok (.sipush 1023, 3) := by decide +kernel
theorem dX7_bitsOf_23 : decode cX7_bitsOf 23 = .ok (.if_icmp .ge 29, 3) := by decide +kernel
theorem dX7_bitsOf_26 : decode cX7_bitsOf 26 = .ok (.dload_n 2, 1) := by decide +kernel
theorem dX7_bitsOf_27 : decode cX7_bitsOf 27 = .ok (.ldc2_w 388, 3) := by decide +kernel
theorem dX7_bitsOf_30 : decode cX7_bitsOf 30 = .ok (.dcmp .l, 1) := by decide +kernel
theorem dX7_bitsOf_31 : decode cX7_bitsOf 31 = .ok (.ifCond .lt 21, 3) := by decide +kernel
theorem dX7_bitsOf_34 : decode cX7_bitsOf 34 = .ok (.dload_n 2, 1) := by decide +kernel
theorem dX7_bitsOf_35 : decode cX7_bitsOf 35 = .ok (.ldc2_w 388, 3) := by decide +kernel
theorem dX7_bitsOf_38 : decode cX7_bitsOf 38 = .ok (.ddiv, 1) := by decide +kernel
theorem dX7_bitsOf_39 : decode cX7_bitsOf 39 = .ok (.dstore_n 2, 1) := by decide +kernel
theorem dX7_bitsOf_40 : decode cX7_bitsOf 40 = .ok (.lload 4, 2) := by decide +kernel
theorem dX7_bitsOf_42 : decode cX7_bitsOf 42 = .ok (.lconst 1, 1) := by decide +kernel
theorem dX7_bitsOf_43 : decode cX7_bitsOf 43 = .ok (.ladd, 1) := by decide +kernel
theorem dX7_bitsOf_44 : decode cX7_bitsOf 44 = .ok (.lstore 4, 2) := by decide +kernel
theorem dX7_bitsOf_46 : decode cX7_bitsOf 46 = .ok (.iinc 6 1, 3) := by decide +kernel
theorem dX7_bitsOf_49 : decode cX7_bitsOf 49 = .ok (.goto (-31), 3) := by decide +kernel
theorem dX7_bitsOf_52 : decode cX7_bitsOf 52 = .ok (.lload 4, 2) := by decide +kernel
theorem dX7_bitsOf_54 : decode cX7_bitsOf 54 = .ok (.bipush 52, 2) := by decide +kernel
theorem dX7_bitsOf_56 : decode cX7_bitsOf 56 = .ok (.lshl, 1) := by decide +kernel
theorem dX7_bitsOf_57 : decode cX7_bitsOf 57 = .ok (.dload_n 2, 1) := by decide +kernel
theorem dX7_bitsOf_58 : decode cX7_bitsOf 58 = .ok (.dconst 1, 1) := by decide +kernel
theorem dX7_bitsOf_59 : decode cX7_bitsOf 59 = .ok (.dsub, 1) := by decide +kernel
theorem dX7_bitsOf_60 : decode cX7_bitsOf 60 = .ok (.ldc2_w 390, 3) := by decide +kernel
theorem dX7_bitsOf_63 : decode cX7_bitsOf 63 = .ok (.dmul, 1) := by decide +kernel
theorem dX7_bitsOf_64 : decode cX7_bitsOf 64 = .ok (.d2l, 1) := by decide +kernel
theorem dX7_bitsOf_65 : decode cX7_bitsOf 65 = .ok (.ladd, 1) := by decide +kernel
theorem dX7_bitsOf_66 : decode cX7_bitsOf 66 = .ok (.lreturn, 1) := by decide +kernel
theorem dJ11_isValidCodePoint_9a6ad_0 : decode cJ11_isValidCodePoint_9a6ad 0 = .ok (.iload_n 0, 1) := by decide +kernel
theorem dJ11_isValidCodePoint_9a6ad_1 : decode cJ11_isValidCodePoint_9a6ad 1 = .ok (.bipush 16, 2) := by decide +kernel
theorem dJ11_isValidCodePoint_9a6ad_3 : decode cJ11_isValidCodePoint_9a6ad 3 = .ok (.iushr, 1) := by decide +kernel
theorem dJ11_isValidCodePoint_9a6ad_4 : decode cJ11_isValidCodePoint_9a6ad 4 = .ok (.istore_n 1, 1) := by decide +kernel
theorem dJ11_isValidCodePoint_9a6ad_5 : decode cJ11_isValidCodePoint_9a6ad 5 = .ok (.iload_n 1, 1) := by decide +kernel
theorem dJ11_isValidCodePoint_9a6ad_6 : decode cJ11_isValidCodePoint_9a6ad 6 = .ok (.bipush 17, 2) := by decide +kernel
theorem dJ11_isValidCodePoint_9a6ad_8 : decode cJ11_isValidCodePoint_9a6ad 8 = .ok (.if_icmp .ge 7, 3) := by decide +kernel
theorem dJ11_isValidCodePoint_9a6ad_11 : decode cJ11_isValidCodePoint_9a6ad 11 = .ok (.iconst 1, 1) := by decide +kernel
theorem dJ11_isValidCodePoint_9a6ad_12 : decode cJ11_isValidCodePoint_9a6ad 12 = .ok (.goto 4, 3) := by decide +kernel
theorem dJ11_isValidCodePoint_9a6ad_15 : decode cJ11_isValidCodePoint_9a6ad 15 = .ok (.iconst 0, 1) := by decide +kernel
theorem dJ11_isValidCodePoint_9a6ad_16 : decode cJ11_isValidCodePoint_9a6ad 16 = .ok (.ireturn, 1) := by decide +kernel
theorem dJ11_highSurrogate_5068e_0 : decode cJ11_highSurrogate_5068e 0 = .ok (.iload_n 0, 1) := by decide +kernel
theorem dJ11_highSurrogate_5068e_1 : decode cJ11_highSurrogate_5068e 1 = .ok (.bipush 10, 2) := by decide +kernel
theorem dJ11_highSurrogate_5068e_3 : decode cJ11_highSurrogate_5068e 3 = .ok (.iushr, 1) := by decide +kernel
theorem dJ11_highSurrogate_5068e_4 : decode cJ11_highSurrogate_5068e 4 = .ok (.ldc 110, 2) := by decide +kernel
theorem dJ11_highSurrogate_5068e_6 : decode cJ11_highSurrogate_5068e 6 = .ok (.iadd, 1) := by decide +kernel
theorem dJ11_highSurrogate_5068e_7 : decode cJ11_highSurrogate_5068e 7 = .ok (.i2c, 1) := by decide +kernel
theorem dJ11_highSurrogate_5068e_8 : decode cJ11_highSurrogate_5068e 8 = .ok (.ireturn, 1) := by decide +kernel
theorem dJ11_lowSurrogate_5068e_0 : decode cJ11_lowSurrogate_5068e 0 = .ok (.iload_n 0, 1) := by decide +kernel
theorem dJ11_lowSurrogate_5068e_1 : decode cJ11_lowSurrogate_5068e 1 = .ok (.sipush 1023, 3) := by decide +kernel
theorem dJ11_lowSurrogate_5068e_4 : decode cJ11_lowSurrogate_5068e 4 = .ok (.iand, 1) := by decide +kernel
theorem dJ11_lowSurrogate_5068e_5 : decode cJ11_lowSurrogate_5068e 5 = .ok (.ldc 76, 2) := by decide +kernel
theorem dJ11_lowSurrogate_5068e_7 : decode cJ11_lowSurrogate_5068e 7 = .ok (.iadd, 1) := by decide +kernel
theorem dJ11_lowSurrogate_5068e_8 : decode cJ11_lowSurrogate_5068e 8 = .ok (.i2c, 1) := by decide +kernel
theorem dJ11_lowSurrogate_5068e_9 : decode cJ11_lowSurrogate_5068e 9 = .ok (.ireturn, 1) := by decide +kernel
theorem dJ9_floorMod_7cf53_0 : decode cJ9_floorMod_7cf53 0 = .ok (.iload_n 0, 1) := by decide +kernel
theorem dJ9_floorMod_7cf53_1 : decode cJ9_floorMod_7cf53 1 = .ok (.iload_n 1, 1) := by decide +kernel
theorem dJ9_floorMod_7cf53_2 : decode cJ9_floorMod_7cf53 2 = .ok (.irem, 1) := by decide +kernel
theorem dJ9_floorMod_7cf53_3 : decode cJ9_floorMod_7cf53 3 = .ok (.istore_n 2, 1) := by decide +kernel
theorem dJ9_floorMod_7cf53_4 : decode cJ9_floorMod_7cf53 4 = .ok (.iload_n 0, 1) := by decide +kernel
theorem dJ9_floorMod_7cf53_5 : decode cJ9_floorMod_7cf53 5 = .ok (.iload_n 1, 1) := by decide +kernel
theorem dJ9_floorMod_7cf53_6 : decode cJ9_floorMod_7cf53 6 = .ok (.ixor, 1) := by decide +kernel
theorem dJ9_floorMod_7cf53_7 : decode cJ9_floorMod_7cf53 7 = .ok (.ifCond .ge 11, 3) := by decide +kernel
theorem dJ9_floorMod_7cf53_10 : decode cJ9_floorMod_7cf53 10 = .ok (.iload_n 2, 1) := by decide +kernel
theorem dJ9_floorMod_7cf53_11 : decode cJ9_floorMod_7cf53 11 = .ok (.ifCond .eq 7, 3) := by decide +kernel
theorem dJ9_floorMod_7cf53_14 : decode cJ9_floorMod_7cf53 14 = .ok (.iload_n 2, 1) := by decide +kernel
theorem dJ9_floorMod_7cf53_15 : decode cJ9_floorMod_7cf53 15 = .ok (.iload_n 1, 1) := by decide +kernel
theorem dJ9_floorMod_7cf53_16 : decode cJ9_floorMod_7cf53 16 = .ok (.iadd, 1) := by decide +kernel
theorem dJ9_floorMod_7cf53_17 : decode cJ9_floorMod_7cf53 17 = .ok (.ireturn, 1) := by decide +kernel
theorem dJ9_floorMod_7cf53_18 : decode cJ9_floorMod_7cf53 18 = .ok (.iload_n 2, 1) := by decide +kernel
theorem dJ9_floorMod_7cf53_19 : decode cJ9_floorMod_7cf53 19 = .ok (.ireturn, 1) := by decide +kernel
theorem dJ9_abs_0f7a4_0 : decode cJ9_abs_0f7a4 0 = .ok (.iload_n 0, 1) := by decide +kernel
theorem dJ9_abs_0f7a4_1 : decode cJ9_abs_0f7a4 1 = .ok (.ifCond .ge 8, 3) := by decide +kernel
theorem dJ9_abs_0f7a4_4 : decode cJ9_abs_0f7a4 4 = .ok (.iload_n 0, 1) := by decide +kernel
theorem dJ9_abs_0f7a4_5 : decode cJ9_abs_0f7a4 5 = .ok (.ineg, 1) := by decide +kernel
theorem dJ9_abs_0f7a4_6 : decode cJ9_abs_0f7a4 6 = .ok (.goto 4, 3) := by decide +kernel
theorem dJ9_abs_0f7a4_9 : decode cJ9_abs_0f7a4 9 = .ok (.iload_n 0, 1) := by decide +kernel
theorem dJ9_abs_0f7a4_10 : decode cJ9_abs_0f7a4 10 = .ok (.ireturn, 1) := by decide +kernel
theorem dJ9_max_7cf53_0 : decode cJ9_max_7cf53 0 = .ok (.iload_n 0, 1) := by decide +kernel
theorem dJ9_max_7cf53_1 : decode cJ9_max_7cf53 1 = .ok (.iload_n 1, 1) := by decide +kernel
theorem dJ9_max_7cf53_2 : decode cJ9_max_7cf53 2 = .ok (.if_icmp .lt 7, 3) := by decide +kernel
theorem dJ9_max_7cf53_5 : decode cJ9_max_7cf53 5 = .ok (.iload_n 0, 1) := by decide +kernel
theorem dJ9_max_7cf53_6 : decode cJ9_max_7cf53 6 = .ok (.goto 4, 3) := by decide +kernel
theorem dJ9_max_7cf53_9 : decode cJ9_max_7cf53 9 = .ok (.iload_n 1, 1) := by decide +kernel
theorem dJ9_max_7cf53_10 : decode cJ9_max_7cf53 10 = .ok (.ireturn, 1) := by decide +kernel
theorem dJ9_min_7cf53_0 : decode cJ9_min_7cf53 0 = .ok (.iload_n 0, 1) := by decide +kernel
theorem dJ9_min_7cf53_1 : decode cJ9_min_7cf53 1 = .ok (.iload_n 1, 1) := by decide +kernel
theorem dJ9_min_7cf53_2 : decode cJ9_min_7cf53 2 = .ok (.if_icmp .gt 7, 3) := by decide +kernel
theorem dJ9_min_7cf53_5 : decode cJ9_min_7cf53 5 = .ok (.iload_n 0, 1) := by decide +kernel
theorem dJ9_min_7cf53_6 : decode cJ9_min_7cf53 6 = .ok (.goto 4, 3) := by decide +kernel
theorem dJ9_min_7cf53_9 : decode cJ9_min_7cf53 9 = .ok (.iload_n 1, 1) := by decide +kernel
theorem dJ9_min_7cf53_10 : decode cJ9_min_7cf53 10 = .ok (.ireturn, 1) := by decide +kernel
theorem dJ0_length_8abf5_0 : decode cJ0_length_8abf5 0 = .ok (.aload_n 0, 1) := by decide +kernel
theorem dJ0_length_8abf5_1 : decode cJ0_length_8abf5 1 = .ok (.getfield 9, 3) := by decide +kernel
theorem dJ0_length_8abf5_4 : decode cJ0_length_8abf5 4 = .ok (.arraylength, 1) := by decide +kernel
theorem dJ0_length_8abf5_5 : decode cJ0_length_8abf5 5 = .ok (.aload_n 0, 1) := by decide +kernel
theorem dJ0_length_8abf5_6 : decode cJ0_length_8abf5 6 = .ok (.invokevirtual 335, 3) := by decide +kernel
theorem dJ0_length_8abf5_9 : decode cJ0_length_8abf5 9 = .ok (.ishr, 1) := by decide +kernel
theorem dJ0_length_8abf5_10 : decode cJ0_length_8abf5 10 = .ok (.ireturn, 1) := by decide +kernel
theorem dJ0_indexOf_0f7a4_0 : decode cJ0_indexOf_0f7a4 0 = .ok (.aload_n 0, 1) := by decide +kernel
theorem dJ0_indexOf_0f7a4_1 : decode cJ0_indexOf_0f7a4 1 = .ok (.iload_n 1, 1) := by decide +kernel
theorem dJ0_indexOf_0f7a4_2 : decode cJ0_indexOf_0f7a4 2 = .ok (.iconst 0, 1) := by decide +kernel
theorem dJ0_indexOf_0f7a4_3 : decode cJ0_indexOf_0f7a4 3 = .ok (.invokevirtual 633, 3) := by decide +kernel
theorem dJ0_indexOf_0f7a4_6 : decode cJ0_indexOf_0f7a4 6 = .ok (.ireturn, 1) := by decide +kernel
theorem dJ0_indexOf_7cf53_0 : decode cJ0_indexOf_7cf53 0 = .ok (.aload_n 0, 1) := by decide +kernel
theorem dJ0_indexOf_7cf53_1 : decode cJ0_indexOf_7cf53 1 = .ok (.invokevirtual 492, 3) := by decide +kernel
theorem dJ0_indexOf_7cf53_4 : decode cJ0_indexOf_7cf53 4 = .ok (.ifCond .eq 19, 3) := by decide +kernel
theorem dJ0_indexOf_7cf53_7 : decode cJ0_indexOf_7cf53 7 = .ok (.aload_n 0, 1) := by decide +kernel
theorem dJ0_indexOf_7cf53_8 : decode cJ0_indexOf_7cf53 8 = .ok (.getfield 9, 3) := by decide +kernel
theorem dJ0_indexOf_7cf53_11 : decode cJ0_indexOf_7cf53 11 = .ok (.iload_n 1, 1) := by decide +kernel
theorem dJ0_indexOf_7cf53_12 : decode cJ0_indexOf_7cf53 12 = .ok (.iload_n 2, 1) := by decide +kernel
theorem dJ0_indexOf_7cf53_13 : decode cJ0_indexOf_7cf53 13 = .ok (.aload_n 0, 1) := by decide +kernel
theorem dJ0_indexOf_7cf53_14 : decode cJ0_indexOf_7cf53 14 = .ok (.invokevirtual 505, 3) := by decide +kernel
theorem dJ0_indexOf_7cf53_17 : decode cJ0_indexOf_7cf53 17 = .ok (.invokestatic 637, 3) := by decide +kernel
theorem dJ0_indexOf_7cf53_20 : decode cJ0_indexOf_7cf53 20 = .ok (.goto 16, 3) := by decide +kernel
theorem dJ0_indexOf_7cf53_23 : decode cJ0_indexOf_7cf53 23 = .ok (.aload_n 0, 1) := by decide +kernel
theorem dJ0_indexOf_7cf53_24 : decode cJ0_indexOf_7cf53 24 = .ok (.getfield 9, 3) := by decide +kernel
theorem dJ0_indexOf_7cf53_27 : decode cJ0_indexOf_7cf53 27 = .ok (.iload_n 1, 1) := by decide +kernel
theorem dJ0_indexOf_7cf53_28 : decode cJ0_indexOf_7cf53 28 = .ok (.iload_n 2, 1) := by decide +kernel
theorem dJ0_indexOf_7cf53_29 : decode cJ0_indexOf_7cf53 29 = .ok (.aload_n 0, 1) := by decide +kernel
theorem dJ0_indexOf_7cf53_30 : decode cJ0_indexOf_7cf53 30 = .ok (.invokevirtual 505, 3) := by decide +kernel
theorem dJ0_indexOf_7cf53_33 : decode cJ0_indexOf_7cf53 33 = .ok (.invokestatic 640, 3) := by decide +kernel
theorem dJ0_indexOf_7cf53_36 : decode cJ0_indexOf_7cf53 36 = .ok (.ireturn, 1) := by decide +kernel
theorem dJ0_coder_7d493_0 : decode cJ0_coder_7d493 0 = .ok (.getstatic 38, 3) := by decide +kernel
theorem dJ0_coder_7d493_3 : decode cJ0_coder_7d493 3 = .ok (.ifCond .eq 10, 3) := by decide +kernel
theorem dJ0_coder_7d493_6 : decode cJ0_coder_7d493 6 = .ok (.aload_n 0, 1) := by decide +kernel
theorem dJ0_coder_7d493_7 : decode cJ0_coder_7d493 7 = .ok (.getfield 15, 3) := by decide +kernel
theorem dJ0_coder_7d493_10 : decode cJ0_coder_7d493 10 = .ok (.goto 4, 3) := by decide +kernel
theorem dJ0_coder_7d493_13 : decode cJ0_coder_7d493 13 = .ok (.iconst 1, 1) := by decide +kernel
theorem dJ0_coder_7d493_14 : decode cJ0_coder_7d493 14 = .ok (.ireturn, 1) := by decide +kernel
theorem dJ0_isLatin1_aae02_0 : decode cJ0_isLatin1_aae02 0 = .ok (.getstatic 38, 3) := by decide +kernel
theorem dJ0_isLatin1_aae02_3 : decode cJ0_isLatin1_aae02 3 = .ok (.ifCond .eq 14, 3) := by decide +kernel
theorem dJ0_isLatin1_aae02_6 : decode cJ0_isLatin1_aae02 6 = .ok (.aload_n 0, 1) := by decide +kernel
theorem dJ0_isLatin1_aae02_7 : decode cJ0_isLatin1_aae02 7 = .ok (.getfield 15, 3) := by decide +kernel
theorem dJ0_isLatin1_aae02_10 : decode cJ0_isLatin1_aae02 10 = .ok (.ifCond .ne 7, 3) := by decide +kernel
theorem dJ0_isLatin1_aae02_13 : decode cJ0_isLatin1_aae02 13 = .ok (.iconst 1, 1) := by decide +kernel
theorem dJ0_isLatin1_aae02_14 : decode cJ0_isLatin1_aae02 14 = .ok (.goto 4, 3) := by decide +kernel
theorem dJ0_isLatin1_aae02_17 : decode cJ0_isLatin1_aae02 17 = .ok (.iconst 0, 1) := by decide +kernel
theorem dJ0_isLatin1_aae02_18 : decode cJ0_isLatin1_aae02 18 = .ok (.ireturn, 1) := by decide +kernel
theorem dJ0_checkBoundsBeginEnd_23922_0 : decode cJ0_checkBoundsBeginEnd_23922 0 = .ok (.iload_n 0, 1) := by decide +kernel
theorem dJ0_checkBoundsBeginEnd_23922_1 : decode cJ0_checkBoundsBeginEnd_23922 1 = .ok (.iload_n 1, 1) := by decide +kernel
theorem dJ0_checkBoundsBeginEnd_23922_2 : decode cJ0_checkBoundsBeginEnd_23922 2 = .ok (.iload_n 2, 1) := by decide +kernel
theorem dJ0_checkBoundsBeginEnd_23922_3 : decode cJ0_checkBoundsBeginEnd_23922 3 = .ok (.getstatic 1053, 3) := by decide +kernel
theorem dJ0_checkBoundsBeginEnd_23922_6 : decode cJ0_checkBoundsBeginEnd_23922 6 = .ok (.invokestatic 1062, 3) := by decide +kernel
theorem dJ0_checkBoundsBeginEnd_23922_9 : decode cJ0_checkBoundsBeginEnd_23922 9 = .ok (.pop, 1) := by decide +kernel
theorem dJ0_checkBoundsBeginEnd_23922_10 : decode cJ0_checkBoundsBeginEnd_23922 10 = .ok (.return_, 1) := by decide +kernel
theorem dJ1_canEncode_9a6ad_0 : decode cJ1_canEncode_9a6ad 0 = .ok (.iload_n 0, 1) := by decide +kernel
theorem dJ1_canEncode_9a6ad_1 : decode cJ1_canEncode_9a6ad 1 = .ok (.ifCond .lt 14, 3) := by decide +kernel
theorem dJ1_canEncode_9a6ad_4 : decode cJ1_canEncode_9a6ad 4 = .ok (.iload_n 0, 1) := by decide +kernel
theorem dJ1_canEncode_9a6ad_5 : decode cJ1_canEncode_9a6ad 5 = .ok (.sipush 255, 3) := by decide +kernel
theorem dJ1_canEncode_9a6ad_8 : decode cJ1_canEncode_9a6ad 8 = .ok (.if_icmp .gt 7, 3) := by decide +kernel
theorem dJ1_canEncode_9a6ad_11 : decode cJ1_canEncode_9a6ad 11 = .ok (.iconst 1, 1) := by decide +kernel
theorem dJ1_canEncode_9a6ad_12 : decode cJ1_canEncode_9a6ad 12 = .ok (.goto 4, 3) := by decide +kernel
theorem dJ1_canEncode_9a6ad_15 : decode cJ1_canEncode_9a6ad 15 = .ok (.iconst 0, 1) := by decide +kernel
theorem dJ1_canEncode_9a6ad_16 : decode cJ1_canEncode_9a6ad 16 = .ok (.ireturn, 1) := by decide +kernel
theorem dJ1_indexOf_4cfef_0 : decode cJ1_indexOf_4cfef 0 = .ok (.iload_n 1, 1) := by decide +kernel
theorem dJ1_indexOf_4cfef_1 : decode cJ1_indexOf_4cfef 1 = .ok (.invokestatic 88, 3) := by decide +kernel
theorem dJ1_indexOf_4cfef_4 : decode cJ1_indexOf_4cfef 4 = .ok (.ifCond .ne 5, 3) := by decide +kernel
theorem dJ1_indexOf_4cfef_7 : decode cJ1_indexOf_4cfef 7 = .ok (.iconst (-1), 1) := by decide +kernel
theorem dJ1_indexOf_4cfef_8 : decode cJ1_indexOf_4cfef 8 = .ok (.ireturn, 1) := by decide +kernel
theorem dJ1_indexOf_4cfef_9 : decode cJ1_indexOf_4cfef 9 = .ok (.iload_n 2, 1) := by decide +kernel
theorem dJ1_indexOf_4cfef_10 : decode cJ1_indexOf_4cfef 10 = .ok (.iconst 0, 1) := by decide +kernel
theorem dJ1_indexOf_4cfef_11 : decode cJ1_indexOf_4cfef 11 = .ok (.invokestatic 92, 3) := by decide +kernel
theorem dJ1_indexOf_4cfef_14 : decode cJ1_indexOf_4cfef 14 = .ok (.istore_n 2, 1) := by decide +kernel
theorem dJ1_indexOf_4cfef_15 : decode cJ1_indexOf_4cfef 15 = .ok (.iload_n 3, 1) := by decide +kernel
theorem dJ1_indexOf_4cfef_16 : decode cJ1_indexOf_4cfef 16 = .ok (.aload_n 0, 1) := by decide +kernel
theorem dJ1_indexOf_4cfef_17 : decode cJ1_indexOf_4cfef 17 = .ok (.arraylength, 1) := by decide +kernel
theorem dJ1_indexOf_4cfef_18 : decode cJ1_indexOf_4cfef 18 = .ok (.invokestatic 38, 3) := by decide +kernel
theorem dJ1_indexOf_4cfef_21 : decode cJ1_indexOf_4cfef 21 = .ok (.istore_n 3, 1) := by decide +kernel
theorem dJ1_indexOf_4cfef_22 : decode cJ1_indexOf_4cfef 22 = .ok (.iload_n 2, 1) := by decide +kernel
theorem dJ1_indexOf_4cfef_23 : decode cJ1_indexOf_4cfef 23 = .ok (.iload_n 3, 1) := by decide +kernel
theorem dJ1_indexOf_4cfef_24 : decode cJ1_indexOf_4cfef 24 = .ok (.if_icmp .lt 5, 3) := by decide +kernel
theorem dJ1_indexOf_4cfef_27 : decode cJ1_indexOf_4cfef 27 = .ok (.iconst (-1), 1) := by decide +kernel
theorem dJ1_indexOf_4cfef_28 : decode cJ1_indexOf_4cfef 28 = .ok (.ireturn, 1) := by decide +kernel
theorem dJ1_indexOf_4cfef_29 : decode cJ1_indexOf_4cfef 29 = .ok (.aload_n 0, 1) := by decide +kernel
theorem dJ1_indexOf_4cfef_30 : decode cJ1_indexOf_4cfef 30 = .ok (.iload_n 1, 1) := by decide +kernel
theorem dJ1_indexOf_4cfef_31 : decode cJ1_indexOf_4cfef 31 = .ok (.iload_n 2, 1) := by decide +kernel
theorem dJ1_indexOf_4cfef_32 : decode cJ1_indexOf_4cfef 32 = .ok (.iload_n 3, 1) := by decide +kernel
theorem dJ1_indexOf_4cfef_33 : decode cJ1_indexOf_4cfef 33 = .ok (.invokestatic 95, 3) := by decide +kernel
theorem dJ1_indexOf_4cfef_36 : decode cJ1_indexOf_4cfef 36 = .ok (.ireturn, 1) := by decide +kernel
theorem dJ1_indexOfChar_4cfef_0 : decode cJ1_indexOfChar_4cfef 0 = .ok (.iload_n 1, 1) := by decide +kernel
theorem dJ1_indexOfChar_4cfef_1 : decode cJ1_indexOfChar_4cfef 1 = .ok (.i2b, 1) := by decide +kernel
theorem dJ1_indexOfChar_4cfef_2 : decode cJ1_indexOfChar_4cfef 2 = .ok (.istore 4, 2) := by decide +kernel
theorem dJ1_indexOfChar_4cfef_4 : decode cJ1_indexOfChar_4cfef 4 = .ok (.iload_n 2, 1) := by decide +kernel
theorem dJ1_indexOfChar_4cfef_5 : decode cJ1_indexOfChar_4cfef 5 = .ok (.istore 5, 2) := by decide +kernel
theorem dJ1_indexOfChar_4cfef_7 : decode cJ1_indexOfChar_4cfef 7 = .ok (.iload 5, 2) := by decide +kernel
theorem dJ1_indexOfChar_4cfef_9 : decode cJ1_indexOfChar_4cfef 9 = .ok (.iload_n 3, 1) := by decide +kernel
theorem dJ1_indexOfChar_4cfef_10 : decode cJ1_indexOfChar_4cfef 10 = .ok (.if_icmp .ge 21, 3) := by decide +kernel
theorem dJ1_indexOfChar_4cfef_13 : decode cJ1_indexOfChar_4cfef 13 = .ok (.aload_n 0, 1) := by decide +kernel
theorem dJ1_indexOfChar_4cfef_14 : decode cJ1_indexOfChar_4cfef 14 = .ok (.iload 5, 2) := by decide +kernel
theorem dJ1_indexOfChar_4cfef_16 : decode cJ1_indexOfChar_4cfef 16 = .ok (.baload, 1) := by decide +kernel
theorem dJ1_indexOfChar_4cfef_17 : decode cJ1_indexOfChar_4cfef 17 = .ok (.iload 4, 2) := by decide +kernel
theorem dJ1_indexOfChar_4cfef_19 : decode cJ1_indexOfChar_4cfef 19 = .ok (.if_icmp .ne 6, 3) := by decide +kernel
theorem dJ1_indexOfChar_4cfef_22 : decode cJ1_indexOfChar_4cfef 22 = .ok (.iload 5, 2) := by decide +kernel
theorem dJ1_indexOfChar_4cfef_24 : decode cJ1_indexOfChar_4cfef 24 = .ok (.ireturn, 1) := by decide +kernel
theorem dJ1_indexOfChar_4cfef_25 : decode cJ1_indexOfChar_4cfef 25 = .ok (.iinc 5 1, 3) := by decide +kernel
theorem dJ1_indexOfChar_4cfef_28 : decode cJ1_indexOfChar_4cfef 28 = .ok (.goto (-21), 3) := by decide +kernel
theorem dJ1_indexOfChar_4cfef_31 : decode cJ1_indexOfChar_4cfef 31 = .ok (.iconst (-1), 1) := by decide +kernel
theorem dJ1_indexOfChar_4cfef_32 : decode cJ1_indexOfChar_4cfef 32 = .ok (.ireturn, 1) := by decide +kernel
theorem dJ2_getChar_3b067_0 : decode cJ2_getChar_3b067 0 = .ok (.getstatic 44, 3) := by decide +kernel
theorem dJ2_getChar_3b067_3 : decode cJ2_getChar_3b067 3 = .ok (.ifCond .ne 25, 3) := by decide +kernel
theorem dJ2_getChar_3b067_6 : decode cJ2_getChar_3b067 6 = .ok (.iload_n 1, 1) := by decide +kernel
theorem dJ2_getChar_3b067_7 : decode cJ2_getChar_3b067 7 = .ok (.ifCond .lt 11, 3) := by decide +kernel
theorem dJ2_getChar_3b067_10 : decode cJ2_getChar_3b067 10 = .ok (.iload_n 1, 1) := by decide +kernel
theorem dJ2_getChar_3b067_11 : decode cJ2_getChar_3b067 11 = .ok (.aload_n 0, 1) := by decide +kernel
theorem dJ2_getChar_3b067_12 : decode cJ2_getChar_3b067 12 = .ok (.invokestatic 48, 3) := by decide +kernel
theorem dJ2_getChar_3b067_15 : decode cJ2_getChar_3b067 15 = .ok (.if_icmp .lt 13, 3) := by decide +kernel
theorem dJ2_getChar_3b067_18 : decode cJ2_getChar_3b067 18 = .ok (.new 52, 3) := by decide +kernel
theorem dJ2_getChar_3b067_21 : decode cJ2_getChar_3b067 21 = .ok (.dup, 1) := by decide +kernel
theorem dJ2_getChar_3b067_22 : decode cJ2_getChar_3b067 22 = .ok (.ldc 54, 2) := by decide +kernel
theorem dJ2_getChar_3b067_24 : decode cJ2_getChar_3b067 24 = .ok (.invokespecial 56, 3) := by decide +kernel
theorem dJ2_getChar_3b067_27 : decode cJ2_getChar_3b067 27 = .ok (.athrow, 1) := by decide +kernel
theorem dJ2_getChar_3b067_28 : decode cJ2_getChar_3b067 28 = .ok (.iload_n 1, 1) := by decide +kernel
theorem dJ2_getChar_3b067_29 : decode cJ2_getChar_3b067 29 = .ok (.iconst 1, 1) := by decide +kernel
theorem dJ2_getChar_3b067_30 : decode cJ2_getChar_3b067 30 = .ok (.ishl, 1) := by decide +kernel
theorem dJ2_getChar_3b067_31 : decode cJ2_getChar_3b067 31 = .ok (.istore_n 1, 1) := by decide +kernel
theorem dJ2_getChar_3b067_32 : decode cJ2_getChar_3b067 32 = .ok (.aload_n 0, 1) := by decide +kernel
theorem dJ2_getChar_3b067_33 : decode cJ2_getChar_3b067 33 = .ok (.iload_n 1, 1) := by decide +kernel
theorem dJ2_getChar_3b067_34 : decode cJ2_getChar_3b067 34 = .ok (.iinc 1 1, 3) := by decide +kernel
theorem dJ2_getChar_3b067_37 : decode cJ2_getChar_3b067 37 = .ok (.baload, 1) := by decide +kernel
theorem dJ2_getChar_3b067_38 : decode cJ2_getChar_3b067 38 = .ok (.sipush 255, 3) := by decide +kernel
theorem dJ2_getChar_3b067_41 : decode cJ2_getChar_3b067 41 = .ok (.iand, 1) := by decide +kernel
theorem dJ2_getChar_3b067_42 : decode cJ2_getChar_3b067 42 = .ok (.getstatic 59, 3) := by decide +kernel
theorem dJ2_getChar_3b067_45 : decode cJ2_getChar_3b067 45 = .ok (.ishl, 1) := by decide +kernel
theorem dJ2_getChar_3b067_46 : decode cJ2_getChar_3b067 46 = .ok (.aload_n 0, 1) := by decide +kernel
theorem dJ2_getChar_3b067_47 : decode cJ2_getChar_3b067 47 = .ok (.iload_n 1, 1) := by decide +kernel
theorem dJ2_getChar_3b067_48 : decode cJ2_getChar_3b067 48 = .ok (.baload, 1) := by decide +kernel
theorem dJ2_getChar_3b067_49 : decode cJ2_getChar_3b067 49 = .ok (.sipush 255, 3) := by decide +kernel
theorem dJ2_getChar_3b067_52 : decode cJ2_getChar_3b067 52 = .ok (.iand, 1) := by decide +kernel
theorem dJ2_getChar_3b067_53 : decode cJ2_getChar_3b067 53 = .ok (.getstatic 63, 3) := by decide +kernel
theorem dJ2_getChar_3b067_56 : decode cJ2_getChar_3b067 56 = .ok (.ishl, 1) := by decide +kernel
theorem dJ2_getChar_3b067_57 : decode cJ2_getChar_3b067 57 = .ok (.ior, 1) := by decide +kernel
theorem dJ2_getChar_3b067_58 : decode cJ2_getChar_3b067 58 = .ok (.i2c, 1) := by decide +kernel
theorem dJ2_getChar_3b067_59 : decode cJ2_getChar_3b067 59 = .ok (.ireturn, 1) := by decide +kernel
theorem dJ2_length_9d52b_0 : decode cJ2_length_9d52b 0 = .ok (.aload_n 0, 1) := by decide +kernel
theorem dJ2_length_9d52b_1 : decode cJ2_length_9d52b 1 = .ok (.arraylength, 1) := by decide +kernel
theorem dJ2_length_9d52b_2 : decode cJ2_length_9d52b 2 = .ok (.iconst 1, 1) := by decide +kernel
theorem dJ2_length_9d52b_3 : decode cJ2_length_9d52b 3 = .ok (.ishr, 1) := by decide +kernel
theorem dJ2_length_9d52b_4 : decode cJ2_length_9d52b 4 = .ok (.ireturn, 1) := by decide +kernel
theorem dJ2_indexOf_4cfef_0 : decode cJ2_indexOf_4cfef 0 = .ok (.iload_n 2, 1) := by decide +kernel
theorem dJ2_indexOf_4cfef_1 : decode cJ2_indexOf_4cfef 1 = .ok (.iconst 0, 1) := by decide +kernel
theorem dJ2_indexOf_4cfef_2 : decode cJ2_indexOf_4cfef 2 = .ok (.invokestatic 224, 3) := by decide +kernel
theorem dJ2_indexOf_4cfef_5 : decode cJ2_indexOf_4cfef 5 = .ok (.istore_n 2, 1) := by decide +kernel
theorem dJ2_indexOf_4cfef_6 : decode cJ2_indexOf_4cfef 6 = .ok (.iload_n 3, 1) := by decide +kernel
theorem dJ2_indexOf_4cfef_7 : decode cJ2_indexOf_4cfef 7 = .ok (.aload_n 0, 1) := by decide +kernel
theorem dJ2_indexOf_4cfef_8 : decode cJ2_indexOf_4cfef 8 = .ok (.arraylength, 1) := by decide +kernel
theorem dJ2_indexOf_4cfef_9 : decode cJ2_indexOf_4cfef 9 = .ok (.iconst 1, 1) := by decide +kernel
theorem dJ2_indexOf_4cfef_10 : decode cJ2_indexOf_4cfef 10 = .ok (.ishr, 1) := by decide +kernel
theorem dJ2_indexOf_4cfef_11 : decode cJ2_indexOf_4cfef 11 = .ok (.invokestatic 183, 3) := by decide +kernel
theorem dJ2_indexOf_4cfef_14 : decode cJ2_indexOf_4cfef 14 = .ok (.istore_n 3, 1) := by decide +kernel
theorem dJ2_indexOf_4cfef_15 : decode cJ2_indexOf_4cfef 15 = .ok (.iload_n 2, 1) := by decide +kernel
theorem dJ2_indexOf_4cfef_16 : decode cJ2_indexOf_4cfef 16 = .ok (.iload_n 3, 1) := by decide +kernel
theorem dJ2_indexOf_4cfef_17 : decode cJ2_indexOf_4cfef 17 = .ok (.if_icmp .lt 5, 3) := by decide +kernel
theorem dJ2_indexOf_4cfef_20 : decode cJ2_indexOf_4cfef 20 = .ok (.iconst (-1), 1) := by decide +kernel
theorem dJ2_indexOf_4cfef_21 : decode cJ2_indexOf_4cfef 21 = .ok (.ireturn, 1) := by decide +kernel
theorem dJ2_indexOf_4cfef_22 : decode cJ2_indexOf_4cfef 22 = .ok (.iload_n 1, 1) := by decide +kernel
theorem dJ2_indexOf_4cfef_23 : decode cJ2_indexOf_4cfef 23 = .ok (.ldc 227, 2) := by decide +kernel
theorem dJ2_indexOf_4cfef_25 : decode cJ2_indexOf_4cfef 25 = .ok (.if_icmp .ge 11, 3) := by decide +kernel
theorem dJ2_indexOf_4cfef_28 : decode cJ2_indexOf_4cfef 28 = .ok (.aload_n 0, 1) := by decide +kernel
theorem dJ2_indexOf_4cfef_29 : decode cJ2_indexOf_4cfef 29 = .ok (.iload_n 1, 1) := by decide +kernel
theorem dJ2_indexOf_4cfef_30 : decode cJ2_indexOf_4cfef 30 = .ok (.iload_n 2, 1) := by decide +kernel
theorem dJ2_indexOf_4cfef_31 : decode cJ2_indexOf_4cfef 31 = .ok (.iload_n 3, 1) := by decide +kernel
theorem dJ2_indexOf_4cfef_32 : decode cJ2_indexOf_4cfef 32 = .ok (.invokestatic 228, 3) := by decide +kernel
theorem dJ2_indexOf_4cfef_35 : decode cJ2_indexOf_4cfef 35 = .ok (.ireturn, 1) := by decide +kernel
theorem dJ2_indexOf_4cfef_36 : decode cJ2_indexOf_4cfef 36 = .ok (.aload_n 0, 1) := by decide +kernel
theorem dJ2_indexOf_4cfef_37 : decode cJ2_indexOf_4cfef 37 = .ok (.iload_n 1, 1) := by decide +kernel
theorem dJ2_indexOf_4cfef_38 : decode cJ2_indexOf_4cfef 38 = .ok (.iload_n 2, 1) := by decide +kernel
theorem dJ2_indexOf_4cfef_39 : decode cJ2_indexOf_4cfef 39 = .ok (.iload_n 3, 1) := by decide +kernel
theorem dJ2_indexOf_4cfef_40 : decode cJ2_indexOf_4cfef 40 = .ok (.invokestatic 232, 3) := by decide +kernel
theorem dJ2_indexOf_4cfef_43 : decode cJ2_indexOf_4cfef 43 = .ok (.ireturn, 1) := by decide +kernel
theorem dJ2_indexOfChar_4cfef_0 : decode cJ2_indexOfChar_4cfef 0 = .ok (.iload_n 2, 1) := by decide +kernel
theorem dJ2_indexOfChar_4cfef_1 : decode cJ2_indexOfChar_4cfef 1 = .ok (.iload_n 3, 1) := by decide +kernel
theorem dJ2_indexOfChar_4cfef_2 : decode cJ2_indexOfChar_4cfef 2 = .ok (.aload_n 0, 1) := by decide +kernel
theorem dJ2_indexOfChar_4cfef_3 : decode cJ2_indexOfChar_4cfef 3 = .ok (.invokestatic 96, 3) := by decide +kernel
theorem dJ2_indexOfChar_4cfef_6 : decode cJ2_indexOfChar_4cfef 6 = .ok (.aload_n 0, 1) := by decide +kernel
theorem dJ2_indexOfChar_4cfef_7 : decode cJ2_indexOfChar_4cfef 7 = .ok (.iload_n 1, 1) := by decide +kernel
theorem dJ2_indexOfChar_4cfef_8 : decode cJ2_indexOfChar_4cfef 8 = .ok (.iload_n 2, 1) := by decide +kernel
theorem dJ2_indexOfChar_4cfef_9 : decode cJ2_indexOfChar_4cfef 9 = .ok (.iload_n 3, 1) := by decide +kernel
theorem dJ2_indexOfChar_4cfef_10 : decode cJ2_indexOfChar_4cfef 10 = .ok (.invokestatic 244, 3) := by decide +kernel
theorem dJ2_indexOfChar_4cfef_13 : decode cJ2_indexOfChar_4cfef 13 = .ok (.ireturn, 1) := by decide +kernel
theorem dJ2_indexOfCharUnsafe_4cfef_0 : decode cJ2_indexOfCharUnsafe_4cfef 0 = .ok (.iload_n 2, 1) := by decide +kernel
theorem dJ2_indexOfCharUnsafe_4cfef_1 : decode cJ2_indexOfCharUnsafe_4cfef 1 = .ok (.istore 4, 2) := by decide +kernel
theorem dJ2_indexOfCharUnsafe_4cfef_3 : decode cJ2_indexOfCharUnsafe_4cfef 3 = .ok (.iload 4, 2) := by decide +kernel
theorem dJ2_indexOfCharUnsafe_4cfef_5 : decode cJ2_indexOfCharUnsafe_4cfef 5 = .ok (.iload_n 3, 1) := by decide +kernel
theorem dJ2_indexOfCharUnsafe_4cfef_6 : decode cJ2_indexOfCharUnsafe_4cfef 6 = .ok (.if_icmp .ge 22, 3) := by decide +kernel
theorem dJ2_indexOfCharUnsafe_4cfef_9 : decode cJ2_indexOfCharUnsafe_4cfef 9 = .ok (.aload_n 0, 1) := by decide +kernel
theorem dJ2_indexOfCharUnsafe_4cfef_10 : decode cJ2_indexOfCharUnsafe_4cfef 10 = .ok (.iload 4, 2) := by decide +kernel
theorem dJ2_indexOfCharUnsafe_4cfef_12 : decode cJ2_indexOfCharUnsafe_4cfef 12 = .ok (.invokestatic 71, 3) := by decide +kernel
theorem dJ2_indexOfCharUnsafe_4cfef_15 : decode cJ2_indexOfCharUnsafe_4cfef 15 = .ok (.iload_n 1, 1) := by decide +kernel
theorem dJ2_indexOfCharUnsafe_4cfef_16 : decode cJ2_indexOfCharUnsafe_4cfef 16 = .ok (.if_icmp .ne 6, 3) := by decide +kernel
theorem dJ2_indexOfCharUnsafe_4cfef_19 : decode cJ2_indexOfCharUnsafe_4cfef 19 = .ok (.iload 4, 2) := by decide +kernel
theorem dJ2_indexOfCharUnsafe_4cfef_21 : decode cJ2_indexOfCharUnsafe_4cfef 21 = .ok (.ireturn, 1) := by decide +kernel
theorem dJ2_indexOfCharUnsafe_4cfef_22 : decode cJ2_indexOfCharUnsafe_4cfef 22 = .ok (.iinc 4 1, 3) := by decide +kernel
theorem dJ2_indexOfCharUnsafe_4cfef_25 : decode cJ2_indexOfCharUnsafe_4cfef 25 = .ok (.goto (-22), 3) := by decide +kernel
theorem dJ2_indexOfCharUnsafe_4cfef_28 : decode cJ2_indexOfCharUnsafe_4cfef 28 = .ok (.iconst (-1), 1) := by decide +kernel
theorem dJ2_indexOfCharUnsafe_4cfef_29 : decode cJ2_indexOfCharUnsafe_4cfef 29 = .ok (.ireturn, 1) := by decide +kernel
theorem dJ2_indexOfSupplementary_4cfef_0 : decode cJ2_indexOfSupplementary_4cfef 0 = .ok (.iload_n 1, 1) := by decide +kernel
theorem dJ2_indexOfSupplementary_4cfef_1 : decode cJ2_indexOfSupplementary_4cfef 1 = .ok (.invokestatic 164, 3) := by decide +kernel
theorem dJ2_indexOfSupplementary_4cfef_4 : decode cJ2_indexOfSupplementary_4cfef 4 = .ok (.ifCond .eq 65, 3) := by decide +kernel
theorem dJ2_indexOfSupplementary_4cfef_7 : decode cJ2_indexOfSupplementary_4cfef 7 = .ok (.iload_n 1, 1) := by decide +kernel
theorem dJ2_indexOfSupplementary_4cfef_8 : decode cJ2_indexOfSupplementary_4cfef 8 = .ok (.invokestatic 157, 3) := by decide +kernel
theorem dJ2_indexOfSupplementary_4cfef_11 : decode cJ2_indexOfSupplementary_4cfef 11 = .ok (.istore 4, 2) := by decide +kernel
theorem dJ2_indexOfSupplementary_4cfef_13 : decode cJ2_indexOfSupplementary_4cfef 13 = .ok (.iload_n 1, 1) := by decide +kernel
theorem dJ2_indexOfSupplementary_4cfef_14 : decode cJ2_indexOfSupplementary_4cfef 14 = .ok (.invokestatic 161, 3) := by decide +kernel
theorem dJ2_indexOfSupplementary_4cfef_17 : decode cJ2_indexOfSupplementary_4cfef 17 = .ok (.istore 5, 2) := by decide +kernel
theorem dJ2_indexOfSupplementary_4cfef_19 : decode cJ2_indexOfSupplementary_4cfef 19 = .ok (.iload_n 2, 1) := by decide +kernel
theorem dJ2_indexOfSupplementary_4cfef_20 : decode cJ2_indexOfSupplementary_4cfef 20 = .ok (.iload_n 3, 1) := by decide +kernel
theorem dJ2_indexOfSupplementary_4cfef_21 : decode cJ2_indexOfSupplementary_4cfef 21 = .ok (.aload_n 0, 1) := by decide +kernel
theorem dJ2_indexOfSupplementary_4cfef_22 : decode cJ2_indexOfSupplementary_4cfef 22 = .ok (.invokestatic 96, 3) := by decide +kernel
theorem dJ2_indexOfSupplementary_4cfef_25 : decode cJ2_indexOfSupplementary_4cfef 25 = .ok (.iload_n 2, 1) := by decide +kernel
theorem dJ2_indexOfSupplementary_4cfef_26 : decode cJ2_indexOfSupplementary_4cfef 26 = .ok (.istore 6, 2) := by decide +kernel
theorem dJ2_indexOfSupplementary_4cfef_28 : decode cJ2_indexOfSupplementary_4cfef 28 = .ok (.iload 6, 2) := by decide +kernel
theorem dJ2_indexOfSupplementary_4cfef_30 : decode cJ2_indexOfSupplementary_4cfef 30 = .ok (.iload_n 3, 1) := by decide +kernel
theorem dJ2_indexOfSupplementary_4cfef_31 : decode cJ2_indexOfSupplementary_4cfef 31 = .ok (.iconst 1, 1) := by decide +kernel
theorem dJ2_indexOfSupplementary_4cfef_32 : decode cJ2_indexOfSupplementary_4cfef 32 = .ok (.isub, 1) := by decide +kernel
theorem dJ2_indexOfSupplementary_4cfef_33 : decode cJ2_indexOfSupplementary_4cfef 33 = .ok (.if_icmp .ge 36, 3) := by decide +kernel
theorem dJ2_indexOfSupplementary_4cfef_36 : decode cJ2_indexOfSupplementary_4cfef 36 = .ok (.aload_n 0, 1) := by decide +kernel
theorem dJ2_indexOfSupplementary_4cfef_37 : decode cJ2_indexOfSupplementary_4cfef 37 = .ok (.iload 6, 2) := by decide +kernel
theorem dJ2_indexOfSupplementary_4cfef_39 : decode cJ2_indexOfSupplementary_4cfef 39 = .ok (.invokestatic 71, 3) := by decide +kernel
theorem dJ2_indexOfSupplementary_4cfef_42 : decode cJ2_indexOfSupplementary_4cfef 42 = .ok (.iload 4, 2) := by decide +kernel
theorem dJ2_indexOfSupplementary_4cfef_44 : decode cJ2_indexOfSupplementary_4cfef 44 = .ok (.if_icmp .ne 19, 3) := by decide +kernel
theorem dJ2_indexOfSupplementary_4cfef_47 : decode cJ2_indexOfSupplementary_4cfef 47 = .ok (.aload_n 0, 1) := by decide +kernel
theorem dJ2_indexOfSupplementary_4cfef_48 : decode cJ2_indexOfSupplementary_4cfef 48 = .ok (.iload 6, 2) := by decide +kernel
theorem dJ2_indexOfSupplementary_4cfef_50 : decode cJ2_indexOfSupplementary_4cfef 50 = .ok (.iconst 1, 1) := by decide +kernel
theorem dJ2_indexOfSupplementary_4cfef_51 : decode cJ2_indexOfSupplementary_4cfef 51 = .ok (.iadd, 1) := by decide +kernel
theorem dJ2_indexOfSupplementary_4cfef_52 : decode cJ2_indexOfSupplementary_4cfef 52 = .ok (.invokestatic 71, 3) := by decide +kernel
theorem dJ2_indexOfSupplementary_4cfef_55 : decode cJ2_indexOfSupplementary_4cfef 55 = .ok (.iload 5, 2) := by decide +kernel
theorem dJ2_indexOfSupplementary_4cfef_57 : decode cJ2_indexOfSupplementary_4cfef 57 = .ok (.if_icmp .ne 6, 3) := by decide +kernel
theorem dJ2_indexOfSupplementary_4cfef_60 : decode cJ2_indexOfSupplementary_4cfef 60 = .ok (.iload 6, 2) := by decide +kernel
theorem dJ2_indexOfSupplementary_4cfef_62 : decode cJ2_indexOfSupplementary_4cfef 62 = .ok (.ireturn, 1) := by decide +kernel
theorem dJ2_indexOfSupplementary_4cfef_63 : decode cJ2_indexOfSupplementary_4cfef 63 = .ok (.iinc 6 1, 3) := by decide +kernel
theorem dJ2_indexOfSupplementary_4cfef_66 : decode cJ2_indexOfSupplementary_4cfef 66 = .ok (.goto (-38), 3) := by decide +kernel
theorem dJ2_indexOfSupplementary_4cfef_69 : decode cJ2_indexOfSupplementary_4cfef 69 = .ok (.iconst (-1), 1) := by decide +kernel
theorem dJ2_indexOfSupplementary_4cfef_70 : decode cJ2_indexOfSupplementary_4cfef 70 = .ok (.ireturn, 1) := by decide +kernel
theorem dJ2_checkBoundsBeginEnd_d044e_0 : decode cJ2_checkBoundsBeginEnd_d044e 0 = .ok (.iload_n 0, 1) := by decide +kernel
theorem dJ2_checkBoundsBeginEnd_d044e_1 : decode cJ2_checkBoundsBeginEnd_d044e 1 = .ok (.iload_n 1, 1) := by decide +kernel
theorem dJ2_checkBoundsBeginEnd_d044e_2 : decode cJ2_checkBoundsBeginEnd_d044e 2 = .ok (.aload_n 2, 1) := by decide +kernel
theorem dJ2_checkBoundsBeginEnd_d044e_3 : decode cJ2_checkBoundsBeginEnd_d044e 3 = .ok (.invokestatic 48, 3) := by decide +kernel
theorem dJ2_checkBoundsBeginEnd_d044e_6 : decode cJ2_checkBoundsBeginEnd_d044e 6 = .ok (.invokestatic 241, 3) := by decide +kernel
theorem dJ2_checkBoundsBeginEnd_d044e_9 : decode cJ2_checkBoundsBeginEnd_d044e 9 = .ok (.return_, 1) := by decide +kernel
theorem dJ3_checkFromToIndex_8c36e_0 : decode cJ3_checkFromToIndex_8c36e 0 = .ok (.iload_n 0, 1) := by decide +kernel
theorem dJ3_checkFromToIndex_8c36e_1 : decode cJ3_checkFromToIndex_8c36e 1 = .ok (.ifCond .lt 13, 3) := by decide +kernel
theorem dJ3_checkFromToIndex_8c36e_4 : decode cJ3_checkFromToIndex_8c36e 4 = .ok (.iload_n 0, 1) := by decide +kernel
theorem dJ3_checkFromToIndex_8c36e_5 : decode cJ3_checkFromToIndex_8c36e 5 = .ok (.iload_n 1, 1) := by decide +kernel
theorem dJ3_checkFromToIndex_8c36e_6 : decode cJ3_checkFromToIndex_8c36e 6 = .ok (.if_icmp .gt 8, 3) := by decide +kernel
theorem dJ3_checkFromToIndex_8c36e_9 : decode cJ3_checkFromToIndex_8c36e 9 = .ok (.iload_n 1, 1) := by decide +kernel
theorem dJ3_checkFromToIndex_8c36e_10 : decode cJ3_checkFromToIndex_8c36e 10 = .ok (.iload_n 2, 1) := by decide +kernel
theorem dJ3_checkFromToIndex_8c36e_11 : decode cJ3_checkFromToIndex_8c36e 11 = .ok (.if_icmp .le 11, 3) := by decide +kernel
theorem dJ3_checkFromToIndex_8c36e_14 : decode cJ3_checkFromToIndex_8c36e 14 = .ok (.aload_n 3, 1) := by decide +kernel
theorem dJ3_checkFromToIndex_8c36e_15 : decode cJ3_checkFromToIndex_8c36e 15 = .ok (.iload_n 0, 1) := by decide +kernel
theorem dJ3_checkFromToIndex_8c36e_16 : decode cJ3_checkFromToIndex_8c36e 16 = .ok (.iload_n 1, 1) := by decide +kernel
theorem dJ3_checkFromToIndex_8c36e_17 : decode cJ3_checkFromToIndex_8c36e 17 = .ok (.iload_n 2, 1) := by decide +kernel
theorem dJ3_checkFromToIndex_8c36e_18 : decode cJ3_checkFromToIndex_8c36e 18 = .ok (.invokestatic 99, 3) := by decide +kernel
theorem dJ3_checkFromToIndex_8c36e_21 : decode cJ3_checkFromToIndex_8c36e 21 = .ok (.athrow, 1) := by decide +kernel
theorem dJ3_checkFromToIndex_8c36e_22 : decode cJ3_checkFromToIndex_8c36e 22 = .ok (.iload_n 0, 1) := by decide +kernel
theorem dJ3_checkFromToIndex_8c36e_23 : decode cJ3_checkFromToIndex_8c36e 23 = .ok (.ireturn, 1) := by decide +kernel
end
section
theorem dX8_init_0 : decode cX8_init 0 = .ok (.aload_n 0, 1) := by decide +kernel
theorem dX8_init_1 : decode cX8_init 1 = .ok (.invokespecial 1, 3) := by decide +kernel
theorem dX8_init_4 : decode cX8_init 4 = .ok (.aload_n 0, 1) := by decide +kernel
theorem dX8_init_5 : decode cX8_init 5 = .ok (.sipush 18180, 3) := by decide +kernel
theorem dX8_init_8 : decode cX8_init 8 = .ok (.newarray .int, 2) := by decide +kernel
theorem dX8_init_10 : decode cX8_init 10 = .ok (.putfield 7, 3) := by decide +kernel
theorem dX8_init_13 : decode cX8_init 13 = .ok (.aload_n 0, 1) := by decide +kernel
theorem dX8_init_14 : decode cX8_init 14 = .ok (.iconst 2, 1) := by decide +kernel
theorem dX8_init_15 : decode cX8_init 15 = .ok (.newarray .boolean, 2) := by decide +kernel
theorem dX8_init_17 : decode cX8_init 17 = .ok (.putfield 13, 3) := by decide +kernel
theorem dX8_init_20 : decode cX8_init 20 = .ok (.aload_n 0, 1) := by decide +kernel
theorem dX8_init_21 : decode cX8_init 21 = .ok (.bipush 60, 2) := by decide +kernel
theorem dX8_init_23 : decode cX8_init 23 = .ok (.newarray .char, 2) := by decide +kernel
theorem dX8_init_25 : decode cX8_init 25 = .ok (.putfield 17, 3) := by decide +kernel
theorem dX8_init_28 : decode cX8_init 28 = .ok (.aload_n 0, 1) := by decide +kernel
theorem dX8_init_29 : decode cX8_init 29 = .ok (.getfield 7, 3) := by decide +kernel
theorem dX8_init_32 : decode cX8_init 32 = .ok (.iconst 2, 1) := by decide +kernel
theorem dX8_init_33 : decode cX8_init 33 = .ok (.iconst (-1), 1) := by decide +kernel
theorem dX8_init_34 : decode cX8_init 34 = .ok (.iastore, 1) := by decide +kernel
theorem dX8_init_35 : decode cX8_init 35 = .ok (.aload_n 0, 1) := by decide +kernel
theorem dX8_init_36 : decode cX8_init 36 = .ok (.getfield 7, 3) := by decide +kernel
theorem dX8_init_39 : decode cX8_init 39 = .ok (.iconst 5, 1) := by decide +kernel
theorem dX8_init_40 : decode cX8_init 40 = .ok (.iconst 5, 1) := by decide +kernel
theorem dX8_init_41 : decode cX8_init 41 = .ok (.iastore, 1) := by decide +kernel
theorem dX8_init_42 : decode cX8_init 42 = .ok (.return_, 1) := by decide +kernel
theorem dX8_thrown_0 : decode cX8_thrown 0 = .ok (.aload_n 0, 1) := by decide +kernel
theorem dX8_thrown_1 : decode cX8_thrown 1 = .ok (.getfield 21, 3) := by decide +kernel
theorem dX8_thrown_4 : decode cX8_thrown 4 = .ok (.ireturn, 1) := by decide +kernel
theorem dX8_in_0 : decode cX8_in 0 = .ok (.iload_n 0, 1) := by decide +kernel
theorem dX8_in_1 : decode cX8_in 1 = .ok (.iload_n 1, 1) := by decide +kernel
theorem dX8_in_2 : decode cX8_in 2 = .ok (.if_icmp .lt 12, 3) := by decide +kernel
theorem dX8_in_5 : decode cX8_in 5 = .ok (.iload_n 0, 1) := by decide +kernel
theorem dX8_in_6 : decode cX8_in 6 = .ok (.iload_n 2, 1) := by decide +kernel
theorem dX8_in_7 : decode cX8_in 7 = .ok (.if_icmp .gt 7, 3) := by decide +kernel
theorem dX8_in_10 : decode cX8_in 10 = .ok (.iconst 1, 1) := by decide +kernel
theorem dX8_in_11 : decode cX8_in 11 = .ok (.goto 4, 3) := by decide +kernel
theorem dX8_in_14 : decode cX8_in 14 = .ok (.iconst 0, 1) := by decide +kernel
theorem dX8_in_15 : decode cX8_in 15 = .ok (.ireturn, 1) := by decide +kernel
theorem dX8_goes_0 : decode cX8_goes 0 = .ok (.aload_n 0, 1) := by decide +kernel
theorem dX8_goes_1 : decode cX8_goes 1 = .ok (.iload_n 1, 1) := by decide +kernel
theorem dX8_goes_2 : decode cX8_goes 2 = .ok (.ifCond .ne 7, 3) := by decide +kernel
theorem dX8_goes_5 : decode cX8_goes 5 = .ok (.iconst 1, 1) := by decide +kernel
theorem dX8_goes_6 : decode cX8_goes 6 = .ok (.goto 20, 3) := by decide +kernel
theorem dX8_goes_9 : decode cX8_goes 9 = .ok (.iload_n 2, 1) := by decide +kernel
theorem dX8_goes_10 : decode cX8_goes 10 = .ok (.ifCond .ne 7, 3) := by decide +kernel
theorem dX8_goes_13 : decode cX8_goes 13 = .ok (.iconst 2, 1) := by decide +kernel
theorem dX8_goes_14 : decode cX8_goes 14 = .ok (.goto 12, 3) := by decide +kernel
theorem dX8_goes_17 : decode cX8_goes 17 = .ok (.iload_n 3, 1) := by decide +kernel
theorem dX8_goes_18 : decode cX8_goes 18 = .ok (.ifCond .ne 7, 3) := by decide +kernel
theorem dX8_goes_21 : decode cX8_goes 21 = .ok (.iconst 3, 1) := by decide +kernel
theorem dX8_goes_22 : decode cX8_goes 22 = .ok (.goto 4, 3) := by decide +kernel
theorem dX8_goes_25 : decode cX8_goes 25 = .ok (.iconst 0, 1) := by decide +kernel
theorem dX8_goes_26 : decode cX8_goes 26 = .ok (.putfield 21, 3) := by decide +kernel
theorem dX8_goes_29 : decode cX8_goes 29 = .ok (.aload_n 0, 1) := by decide +kernel
theorem dX8_goes_30 : decode cX8_goes 30 = .ok (.getfield 21, 3) := by decide +kernel
theorem dX8_goes_33 : decode cX8_goes 33 = .ok (.ifCond .ne 7, 3) := by decide +kernel
theorem dX8_goes_36 : decode cX8_goes 36 = .ok (.iconst 1, 1) := by decide +kernel
theorem dX8_goes_37 : decode cX8_goes 37 = .ok (.goto 4, 3) := by decide +kernel
theorem dX8_goes_40 : decode cX8_goes 40 = .ok (.iconst 0, 1) := by decide +kernel
theorem dX8_goes_41 : decode cX8_goes 41 = .ok (.ireturn, 1) := by decide +kernel
theorem dX8_copies_0 : decode cX8_copies 0 = .ok (.iconst 0, 1) := by decide +kernel
theorem dX8_copies_1 : decode cX8_copies 1 = .ok (.istore_n 3, 1) := by decide +kernel
theorem dX8_copies_2 : decode cX8_copies 2 = .ok (.iload_n 3, 1) := by decide +kernel
theorem dX8_copies_3 : decode cX8_copies 3 = .ok (.sipush 1818, 3) := by decide +kernel
theorem dX8_copies_6 : decode cX8_copies 6 = .ok (.if_icmp .ge 33, 3) := by decide +kernel
theorem dX8_copies_9 : decode cX8_copies 9 = .ok (.aload_n 0, 1) := by decide +kernel
theorem dX8_copies_10 : decode cX8_copies 10 = .ok (.getfield 7, 3) := by decide +kernel
theorem dX8_copies_13 : decode cX8_copies 13 = .ok (.sipush 1818, 3) := by decide +kernel
theorem dX8_copies_16 : decode cX8_copies 16 = .ok (.iload_n 2, 1) := by decide +kernel
theorem dX8_copies_17 : decode cX8_copies 17 = .ok (.imul, 1) := by decide +kernel
theorem dX8_copies_18 : decode cX8_copies 18 = .ok (.iload_n 3, 1) := by decide +kernel
theorem dX8_copies_19 : decode cX8_copies 19 = .ok (.iadd, 1) := by decide +kernel
theorem dX8_copies_20 : decode cX8_copies 20 = .ok (.aload_n 0, 1) := by decide +kernel
theorem dX8_copies_21 : decode cX8_copies 21 = .ok (.getfield 7, 3) := by decide +kernel
theorem dX8_copies_24 : decode cX8_copies 24 = .ok (.sipush 1818, 3) := by decide +kernel
theorem dX8_copies_27 : decode cX8_copies 27 = .ok (.iload_n 1, 1) := by decide +kernel
theorem dX8_copies_28 : decode cX8_copies 28 = .ok (.imul, 1) := by decide +kernel
theorem dX8_copies_29 : decode cX8_copies 29 = .ok (.iload_n 3, 1) := by decide +kernel
theorem dX8_copies_30 : decode cX8_copies 30 = .ok (.iadd, 1) := by decide +kernel
theorem dX8_copies_31 : decode cX8_copies 31 = .ok (.iaload, 1) := by decide +kernel
theorem dX8_copies_32 : decode cX8_copies 32 = .ok (.iastore, 1) := by decide +kernel
theorem dX8_copies_33 : decode cX8_copies 33 = .ok (.iinc 3 1, 3) := by decide +kernel
theorem dX8_copies_36 : decode cX8_copies 36 = .ok (.goto (-34), 3) := by decide +kernel
theorem dX8_copies_39 : decode cX8_copies 39 = .ok (.return_, 1) := by decide +kernel
theorem dX8_saves_0 : decode cX8_saves 0 = .ok (.aload_n 0, 1) := by decide +kernel
theorem dX8_saves_1 : decode cX8_saves 1 = .ok (.getfield 25, 3) := by decide +kernel
theorem dX8_saves_4 : decode cX8_saves 4 = .ok (.bipush 6, 2) := by decide +kernel
theorem dX8_saves_6 : decode cX8_saves 6 = .ok (.if_icmp .ne 35, 3) := by decide +kernel
theorem dX8_saves_9 : decode cX8_saves 9 = .ok (.iconst 1, 1) := by decide +kernel
theorem dX8_saves_10 : decode cX8_saves 10 = .ok (.istore_n 1, 1) := by decide +kernel
theorem dX8_saves_11 : decode cX8_saves 11 = .ok (.iload_n 1, 1) := by decide +kernel
theorem dX8_saves_12 : decode cX8_saves 12 = .ok (.bipush 6, 2) := by decide +kernel
theorem dX8_saves_14 : decode cX8_saves 14 = .ok (.if_icmp .ge 17, 3) := by decide +kernel
theorem dX8_saves_17 : decode cX8_saves 17 = .ok (.aload_n 0, 1) := by decide +kernel
theorem dX8_saves_18 : decode cX8_saves 18 = .ok (.iload_n 1, 1) := by decide +kernel
theorem dX8_saves_19 : decode cX8_saves 19 = .ok (.iconst 1, 1) := by decide +kernel
theorem dX8_saves_20 : decode cX8_saves 20 = .ok (.iadd, 1) := by decide +kernel
theorem dX8_saves_21 : decode cX8_saves 21 = .ok (.iload_n 1, 1) := by decide +kernel
theorem dX8_saves_22 : decode cX8_saves 22 = .ok (.invokevirtual 28, 3) := by decide +kernel
theorem dX8_saves_25 : decode cX8_saves 25 = .ok (.iinc 1 1, 3) := by decide +kernel
theorem dX8_saves_28 : decode cX8_saves 28 = .ok (.goto (-17), 3) := by decide +kernel
theorem dX8_saves_31 : decode cX8_saves 31 = .ok (.aload_n 0, 1) := by decide +kernel
theorem dX8_saves_32 : decode cX8_saves 32 = .ok (.dup, 1) := by decide +kernel
theorem dX8_saves_33 : decode cX8_saves 33 = .ok (.getfield 25, 3) := by decide +kernel
theorem dX8_saves_36 : decode cX8_saves 36 = .ok (.iconst 1, 1) := by decide +kernel
theorem dX8_saves_37 : decode cX8_saves 37 = .ok (.isub, 1) := by decide +kernel
theorem dX8_saves_38 : decode cX8_saves 38 = .ok (.putfield 25, 3) := by decide +kernel
theorem dX8_saves_41 : decode cX8_saves 41 = .ok (.aload_n 0, 1) := by decide +kernel
theorem dX8_saves_42 : decode cX8_saves 42 = .ok (.dup, 1) := by decide +kernel
theorem dX8_saves_43 : decode cX8_saves 43 = .ok (.getfield 25, 3) := by decide +kernel
theorem dX8_saves_46 : decode cX8_saves 46 = .ok (.iconst 1, 1) := by decide +kernel
theorem dX8_saves_47 : decode cX8_saves 47 = .ok (.iadd, 1) := by decide +kernel
theorem dX8_saves_48 : decode cX8_saves 48 = .ok (.putfield 25, 3) := by decide +kernel
theorem dX8_saves_51 : decode cX8_saves 51 = .ok (.aload_n 0, 1) := by decide +kernel
theorem dX8_saves_52 : decode cX8_saves 52 = .ok (.iconst 0, 1) := by decide +kernel
theorem dX8_saves_53 : decode cX8_saves 53 = .ok (.aload_n 0, 1) := by decide +kernel
theorem dX8_saves_54 : decode cX8_saves 54 = .ok (.getfield 25, 3) := by decide +kernel
theorem dX8_saves_57 : decode cX8_saves 57 = .ok (.invokevirtual 28, 3) := by decide +kernel
theorem dX8_saves_60 : decode cX8_saves 60 = .ok (.return_, 1) := by decide +kernel
theorem dX8_code_0 : decode cX8_code 0 = .ok (.aload_n 0, 1) := by decide +kernel
theorem dX8_code_1 : decode cX8_code 1 = .ok (.getfield 7, 3) := by decide +kernel
theorem dX8_code_4 : decode cX8_code 4 = .ok (.bipush 18, 2) := by decide +kernel
theorem dX8_code_6 : decode cX8_code 6 = .ok (.iload_n 1, 1) := by decide +kernel
theorem dX8_code_7 : decode cX8_code 7 = .ok (.iadd, 1) := by decide +kernel
theorem dX8_code_8 : decode cX8_code 8 = .ok (.iaload, 1) := by decide +kernel
theorem dX8_code_9 : decode cX8_code 9 = .ok (.ireturn, 1) := by decide +kernel
theorem dX8_isLetter_0 : decode cX8_isLetter 0 = .ok (.iload_n 0, 1) := by decide +kernel
theorem dX8_isLetter_1 : decode cX8_isLetter 1 = .ok (.bipush 97, 2) := by decide +kernel
theorem dX8_isLetter_3 : decode cX8_isLetter 3 = .ok (.bipush 122, 2) := by decide +kernel
theorem dX8_isLetter_5 : decode cX8_isLetter 5 = .ok (.invokestatic 32, 3) := by decide +kernel
theorem dX8_isLetter_8 : decode cX8_isLetter 8 = .ok (.ifCond .ne 25, 3) := by decide +kernel
theorem dX8_isLetter_11 : decode cX8_isLetter 11 = .ok (.iload_n 0, 1) := by decide +kernel
theorem dX8_isLetter_12 : decode cX8_isLetter 12 = .ok (.bipush 65, 2) := by decide +kernel
theorem dX8_isLetter_14 : decode cX8_isLetter 14 = .ok (.bipush 90, 2) := by decide +kernel
theorem dX8_isLetter_16 : decode cX8_isLetter 16 = .ok (.invokestatic 32, 3) := by decide +kernel
theorem dX8_isLetter_19 : decode cX8_isLetter 19 = .ok (.ifCond .ne 14, 3) := by decide +kernel
theorem dX8_isLetter_22 : decode cX8_isLetter 22 = .ok (.iload_n 0, 1) := by decide +kernel
theorem dX8_isLetter_23 : decode cX8_isLetter 23 = .ok (.bipush 48, 2) := by decide +kernel
theorem dX8_isLetter_25 : decode cX8_isLetter 25 = .ok (.bipush 57, 2) := by decide +kernel
theorem dX8_isLetter_27 : decode cX8_isLetter 27 = .ok (.invokestatic 32, 3) := by decide +kernel
theorem dX8_isLetter_30 : decode cX8_isLetter 30 = .ok (.ifCond .eq 7, 3) := by decide +kernel
theorem dX8_isLetter_33 : decode cX8_isLetter 33 = .ok (.iconst 1, 1) := by decide +kernel
theorem dX8_isLetter_34 : decode cX8_isLetter 34 = .ok (.goto 4, 3) := by decide +kernel
theorem dX8_isLetter_37 : decode cX8_isLetter 37 = .ok (.iconst 0, 1) := by decide +kernel
theorem dX8_isLetter_38 : decode cX8_isLetter 38 = .ok (.ireturn, 1) := by decide +kernel
theorem dX8_isWord_0 : decode cX8_isWord 0 = .ok (.iload_n 1, 1) := by decide +kernel
theorem dX8_isWord_1 : decode cX8_isWord 1 = .ok (.iconst 0, 1) := by decide +kernel
theorem dX8_isWord_2 : decode cX8_isWord 2 = .ok (.aload_n 0, 1) := by decide +kernel
theorem dX8_isWord_3 : decode cX8_isWord 3 = .ok (.getfield 7, 3) := by decide +kernel
theorem dX8_isWord_6 : decode cX8_isWord 6 = .ok (.iconst 0, 1) := by decide +kernel
theorem dX8_isWord_7 : decode cX8_isWord 7 = .ok (.iaload, 1) := by decide +kernel
theorem dX8_isWord_8 : decode cX8_isWord 8 = .ok (.iconst 1, 1) := by decide +kernel
theorem dX8_isWord_9 : decode cX8_isWord 9 = .ok (.isub, 1) := by decide +kernel
theorem dX8_isWord_10 : decode cX8_isWord 10 = .ok (.invokestatic 32, 3) := by decide +kernel
theorem dX8_isWord_13 : decode cX8_isWord 13 = .ok (.ifCond .eq 18, 3) := by decide +kernel
theorem dX8_isWord_16 : decode cX8_isWord 16 = .ok (.aload_n 0, 1) := by decide +kernel
theorem dX8_isWord_17 : decode cX8_isWord 17 = .ok (.iload_n 1, 1) := by decide +kernel
theorem dX8_isWord_18 : decode cX8_isWord 18 = .ok (.invokevirtual 36, 3) := by decide +kernel
theorem dX8_isWord_21 : decode cX8_isWord 21 = .ok (.invokestatic 40, 3) := by decide +kernel
theorem dX8_isWord_24 : decode cX8_isWord 24 = .ok (.ifCond .eq 7, 3) := by decide +kernel
theorem dX8_isWord_27 : decode cX8_isWord 27 = .ok (.iconst 1, 1) := by decide +kernel
theorem dX8_isWord_28 : decode cX8_isWord 28 = .ok (.goto 4, 3) := by decide +kernel
theorem dX8_isWord_31 : decode cX8_isWord 31 = .ok (.iconst 0, 1) := by decide +kernel
theorem dX8_isWord_32 : decode cX8_isWord 32 = .ok (.ireturn, 1) := by decide +kernel
theorem dX8_behindWord_0 : decode cX8_behindWord 0 = .ok (.iload_n 1, 1) := by decide +kernel
theorem dX8_behindWord_1 : decode cX8_behindWord 1 = .ok (.istore_n 2, 1) := by decide +kernel
theorem dX8_behindWord_2 : decode cX8_behindWord 2 = .ok (.iload_n 2, 1) := by decide +kernel
theorem dX8_behindWord_3 : decode cX8_behindWord 3 = .ok (.aload_n 0, 1) := by decide +kernel
theorem dX8_behindWord_4 : decode cX8_behindWord 4 = .ok (.getfield 7, 3) := by decide +kernel
theorem dX8_behindWord_7 : decode cX8_behindWord 7 = .ok (.iconst 0, 1) := by decide +kernel
theorem dX8_behindWord_8 : decode cX8_behindWord 8 = .ok (.iaload, 1) := by decide +kernel
theorem dX8_behindWord_9 : decode cX8_behindWord 9 = .ok (.if_icmp .ge 17, 3) := by decide +kernel
theorem dX8_behindWord_12 : decode cX8_behindWord 12 = .ok (.aload_n 0, 1) := by decide +kernel
theorem dX8_behindWord_13 : decode cX8_behindWord 13 = .ok (.iload_n 2, 1) := by decide +kernel
theorem dX8_behindWord_14 : decode cX8_behindWord 14 = .ok (.invokevirtual 44, 3) := by decide +kernel
theorem dX8_behindWord_17 : decode cX8_behindWord 17 = .ok (.ifCond .ne 9, 3) := by decide +kernel
theorem dX8_behindWord_20 : decode cX8_behindWord 20 = .ok (.iinc 2 1, 3) := by decide +kernel
theorem dX8_behindWord_23 : decode cX8_behindWord 23 = .ok (.goto (-21), 3) := by decide +kernel
theorem dX8_behindWord_26 : decode cX8_behindWord 26 = .ok (.aload_n 0, 1) := by decide +kernel
theorem dX8_behindWord_27 : decode cX8_behindWord 27 = .ok (.iload_n 2, 1) := by decide +kernel
theorem dX8_behindWord_28 : decode cX8_behindWord 28 = .ok (.invokevirtual 44, 3) := by decide +kernel
theorem dX8_behindWord_31 : decode cX8_behindWord 31 = .ok (.ifCond .eq 9, 3) := by decide +kernel
theorem dX8_behindWord_34 : decode cX8_behindWord 34 = .ok (.iinc 2 1, 3) := by decide +kernel
theorem dX8_behindWord_37 : decode cX8_behindWord 37 = .ok (.goto (-11), 3) := by decide +kernel
theorem dX8_behindWord_40 : decode cX8_behindWord 40 = .ok (.iload_n 2, 1) := by decide +kernel
theorem dX8_behindWord_41 : decode cX8_behindWord 41 = .ok (.ireturn, 1) := by decide +kernel
theorem dX8_aheadOfWord_0 : decode cX8_aheadOfWord 0 = .ok (.iload_n 1, 1) := by decide +kernel
theorem dX8_aheadOfWord_1 : decode cX8_aheadOfWord 1 = .ok (.istore_n 2, 1) := by decide +kernel
theorem dX8_aheadOfWord_2 : decode cX8_aheadOfWord 2 = .ok (.iload_n 2, 1) := by decide +kernel
theorem dX8_aheadOfWord_3 : decode cX8_aheadOfWord 3 = .ok (.ifCond .le 19, 3) := by decide +kernel
theorem dX8_aheadOfWord_6 : decode cX8_aheadOfWord 6 = .ok (.aload_n 0, 1) := by decide +kernel
theorem dX8_aheadOfWord_7 : decode cX8_aheadOfWord 7 = .ok (.iload_n 2, 1) := by decide +kernel
theorem dX8_aheadOfWord_8 : decode cX8_aheadOfWord 8 = .ok (.iconst 1, 1) := by decide +kernel
theorem dX8_aheadOfWord_9 : decode cX8_aheadOfWord 9 = .ok (.isub, 1) := by decide +kernel
theorem dX8_aheadOfWord_10 : decode cX8_aheadOfWord 10 = .ok (.invokevirtual 44, 3) := by decide +kernel
theorem dX8_aheadOfWord_13 : decode cX8_aheadOfWord 13 = .ok (.ifCond .ne 9, 3) := by decide +kernel
theorem dX8_aheadOfWord_16 : decode cX8_aheadOfWord 16 = .ok (.iinc 2 (-1), 3) := by decide +kernel
theorem dX8_aheadOfWord_19 : decode cX8_aheadOfWord 19 = .ok (.goto (-17), 3) := by decide +kernel
theorem dX8_aheadOfWord_22 : decode cX8_aheadOfWord 22 = .ok (.aload_n 0, 1) := by decide +kernel
theorem dX8_aheadOfWord_23 : decode cX8_aheadOfWord 23 = .ok (.iload_n 2, 1) := by decide +kernel
theorem dX8_aheadOfWord_24 : decode cX8_aheadOfWord 24 = .ok (.iconst 1, 1) := by decide +kernel
theorem dX8_aheadOfWord_25 : decode cX8_aheadOfWord 25 = .ok (.isub, 1) := by decide +kernel
theorem dX8_aheadOfWord_26 : decode cX8_aheadOfWord 26 = .ok (.invokevirtual 44, 3) := by decide +kernel
theorem dX8_aheadOfWord_29 : decode cX8_aheadOfWord 29 = .ok (.ifCond .eq 9, 3) := by decide +kernel
theorem dX8_aheadOfWord_32 : decode cX8_aheadOfWord 32 = .ok (.iinc 2 (-1), 3) := by decide +kernel
theorem dX8_aheadOfWord_35 : decode cX8_aheadOfWord 35 = .ok (.goto (-13), 3) := by decide +kernel
theorem dX8_aheadOfWord_38 : decode cX8_aheadOfWord 38 = .ok (.iload_n 2, 1) := by decide +kernel
theorem dX8_aheadOfWord_39 : decode cX8_aheadOfWord 39 = .ok (.ireturn, 1) := by decide +kernel
theorem dX8_beginOf_0 : decode cX8_beginOf 0 = .ok (.iload_n 1, 1) := by decide +kernel
theorem dX8_beginOf_1 : decode cX8_beginOf 1 = .ok (.istore_n 2, 1) := by decide +kernel
theorem dX8_beginOf_2 : decode cX8_beginOf 2 = .ok (.iload_n 2, 1) := by decide +kernel
theorem dX8_beginOf_3 : decode cX8_beginOf 3 = .ok (.ifCond .le 21, 3) := by decide +kernel
theorem dX8_beginOf_6 : decode cX8_beginOf 6 = .ok (.aload_n 0, 1) := by decide +kernel
theorem dX8_beginOf_7 : decode cX8_beginOf 7 = .ok (.iload_n 2, 1) := by decide +kernel
theorem dX8_beginOf_8 : decode cX8_beginOf 8 = .ok (.iconst 1, 1) := by decide +kernel
theorem dX8_beginOf_9 : decode cX8_beginOf 9 = .ok (.isub, 1) := by decide +kernel
theorem dX8_beginOf_10 : decode cX8_beginOf 10 = .ok (.invokevirtual 36, 3) := by decide +kernel
theorem dX8_beginOf_13 : decode cX8_beginOf 13 = .ok (.bipush 10, 2) := by decide +kernel
theorem dX8_beginOf_15 : decode cX8_beginOf 15 = .ok (.if_icmp .eq 9, 3) := by decide +kernel
theorem dX8_beginOf_18 : decode cX8_beginOf 18 = .ok (.iinc 2 (-1), 3) := by decide +kernel
theorem dX8_beginOf_21 : decode cX8_beginOf 21 = .ok (.goto (-19), 3) := by decide +kernel
theorem dX8_beginOf_24 : decode cX8_beginOf 24 = .ok (.iload_n 2, 1) := by decide +kernel
theorem dX8_beginOf_25 : decode cX8_beginOf 25 = .ok (.ireturn, 1) := by decide +kernel
theorem dX8_endOf_0 : decode cX8_endOf 0 = .ok (.iload_n 1, 1) := by decide +kernel
theorem dX8_endOf_1 : decode cX8_endOf 1 = .ok (.istore_n 2, 1) := by decide +kernel
theorem dX8_endOf_2 : decode cX8_endOf 2 = .ok (.iload_n 2, 1) := by decide +kernel
theorem dX8_endOf_3 : decode cX8_endOf 3 = .ok (.aload_n 0, 1) := by decide +kernel
theorem dX8_endOf_4 : decode cX8_endOf 4 = .ok (.getfield 7, 3) := by decide +kernel
theorem dX8_endOf_7 : decode cX8_endOf 7 = .ok (.iconst 0, 1) := by decide +kernel
theorem dX8_endOf_8 : decode cX8_endOf 8 = .ok (.iaload, 1) := by decide +kernel
theorem dX8_endOf_9 : decode cX8_endOf 9 = .ok (.if_icmp .ge 19, 3) := by decide +kernel
theorem dX8_endOf_12 : decode cX8_endOf 12 = .ok (.aload_n 0, 1) := by decide +kernel
theorem dX8_endOf_13 : decode cX8_endOf 13 = .ok (.iload_n 2, 1) := by decide +kernel
theorem dX8_endOf_14 : decode cX8_endOf 14 = .ok (.invokevirtual 36, 3) := by decide +kernel
theorem dX8_endOf_17 : decode cX8_endOf 17 = .ok (.bipush 10, 2) := by decide +kernel
theorem dX8_endOf_19 : decode cX8_endOf 19 = .ok (.if_icmp .eq 9, 3) := by decide +kernel
theorem dX8_endOf_22 : decode cX8_endOf 22 = .ok (.iinc 2 1, 3) := by decide +kernel
theorem dX8_endOf_25 : decode cX8_endOf 25 = .ok (.goto (-23), 3) := by decide +kernel
theorem dX8_endOf_28 : decode cX8_endOf 28 = .ok (.iload_n 2, 1) := by decide +kernel
theorem dX8_endOf_29 : decode cX8_endOf 29 = .ok (.ireturn, 1) := by decide +kernel
theorem dX8_moved_0 : decode cX8_moved 0 = .ok (.iload_n 0, 1) := by decide +kernel
theorem dX8_moved_1 : decode cX8_moved 1 = .ok (.iload_n 2, 1) := by decide +kernel
theorem dX8_moved_2 : decode cX8_moved 2 = .ok (.if_icmp .lt 11, 3) := by decide +kernel
theorem dX8_moved_5 : decode cX8_moved 5 = .ok (.iload_n 0, 1) := by decide +kernel
theorem dX8_moved_6 : decode cX8_moved 6 = .ok (.iload_n 2, 1) := by decide +kernel
theorem dX8_moved_7 : decode cX8_moved 7 = .ok (.iload_n 1, 1) := by decide +kernel
theorem dX8_moved_8 : decode cX8_moved 8 = .ok (.isub, 1) := by decide +kernel
theorem dX8_moved_9 : decode cX8_moved 9 = .ok (.isub, 1) := by decide +kernel
theorem dX8_moved_10 : decode cX8_moved 10 = .ok (.goto 13, 3) := by decide +kernel
theorem dX8_moved_13 : decode cX8_moved 13 = .ok (.iload_n 0, 1) := by decide +kernel
theorem dX8_moved_14 : decode cX8_moved 14 = .ok (.iload_n 1, 1) := by decide +kernel
theorem dX8_moved_15 : decode cX8_moved 15 = .ok (.if_icmp .le 7, 3) := by decide +kernel
theorem dX8_moved_18 : decode cX8_moved 18 = .ok (.iload_n 1, 1) := by decide +kernel
theorem dX8_moved_19 : decode cX8_moved 19 = .ok (.goto 4, 3) := by decide +kernel
theorem dX8_moved_22 : decode cX8_moved 22 = .ok (.iload_n 0, 1) := by decide +kernel
theorem dX8_moved_23 : decode cX8_moved 23 = .ok (.ireturn, 1) := by decide +kernel
theorem dX8_takesOut_0 : decode cX8_takesOut 0 = .ok (.iload_n 2, 1) := by decide +kernel
theorem dX8_takesOut_1 : decode cX8_takesOut 1 = .ok (.istore_n 3, 1) := by decide +kernel
theorem dX8_takesOut_2 : decode cX8_takesOut 2 = .ok (.iload_n 3, 1) := by decide +kernel
theorem dX8_takesOut_3 : decode cX8_takesOut 3 = .ok (.aload_n 0, 1) := by decide +kernel
theorem dX8_takesOut_4 : decode cX8_takesOut 4 = .ok (.getfield 7, 3) := by decide +kernel
theorem dX8_takesOut_7 : decode cX8_takesOut 7 = .ok (.iconst 0, 1) := by decide +kernel
theorem dX8_takesOut_8 : decode cX8_takesOut 8 = .ok (.iaload, 1) := by decide +kernel
theorem dX8_takesOut_9 : decode cX8_takesOut 9 = .ok (.if_icmp .ge 27, 3) := by decide +kernel
theorem dX8_takesOut_12 : decode cX8_takesOut 12 = .ok (.aload_n 0, 1) := by decide +kernel
theorem dX8_takesOut_13 : decode cX8_takesOut 13 = .ok (.getfield 7, 3) := by decide +kernel
theorem dX8_takesOut_16 : decode cX8_takesOut 16 = .ok (.bipush 18, 2) := by decide +kernel
theorem dX8_takesOut_18 : decode cX8_takesOut 18 = .ok (.iload_n 3, 1) := by decide +kernel
theorem dX8_takesOut_19 : decode cX8_takesOut 19 = .ok (.iadd, 1) := by decide +kernel
theorem dX8_takesOut_20 : decode cX8_takesOut 20 = .ok (.iload_n 2, 1) := by decide +kernel
theorem dX8_takesOut_21 : decode cX8_takesOut 21 = .ok (.iload_n 1, 1) := by decide +kernel
theorem dX8_takesOut_22 : decode cX8_takesOut 22 = .ok (.isub, 1) := by decide +kernel
theorem dX8_takesOut_23 : decode cX8_takesOut 23 = .ok (.isub, 1) := by decide +kernel
theorem dX8_takesOut_24 : decode cX8_takesOut 24 = .ok (.aload_n 0, 1) := by decide +kernel
theorem dX8_takesOut_25 : decode cX8_takesOut 25 = .ok (.iload_n 3, 1) := by decide +kernel
theorem dX8_takesOut_26 : decode cX8_takesOut 26 = .ok (.invokevirtual 36, 3) := by decide +kernel
theorem dX8_takesOut_29 : decode cX8_takesOut 29 = .ok (.iastore, 1) := by decide +kernel
theorem dX8_takesOut_30 : decode cX8_takesOut 30 = .ok (.iinc 3 1, 3) := by decide +kernel
theorem dX8_takesOut_33 : decode cX8_takesOut 33 = .ok (.goto (-31), 3) := by decide +kernel
theorem dX8_takesOut_36 : decode cX8_takesOut 36 = .ok (.aload_n 0, 1) := by decide +kernel
theorem dX8_takesOut_37 : decode cX8_takesOut 37 = .ok (.getfield 7, 3) := by decide +kernel
theorem dX8_takesOut_40 : decode cX8_takesOut 40 = .ok (.iconst 0, 1) := by decide +kernel
theorem dX8_takesOut_41 : decode cX8_takesOut 41 = .ok (.dup2, 1) := by decide +kernel
theorem dX8_takesOut_42 : decode cX8_takesOut 42 = .ok (.iaload, 1) := by decide +kernel
theorem dX8_takesOut_43 : decode cX8_takesOut 43 = .ok (.iload_n 2, 1) := by decide +kernel
theorem dX8_takesOut_44 : decode cX8_takesOut 44 = .ok (.iload_n 1, 1) := by decide +kernel
theorem dX8_takesOut_45 : decode cX8_takesOut 45 = .ok (.isub, 1) := by decide +kernel
theorem dX8_takesOut_46 : decode cX8_takesOut 46 = .ok (.isub, 1) := by decide +kernel
theorem dX8_takesOut_47 : decode cX8_takesOut 47 = .ok (.iastore, 1) := by decide +kernel
theorem dX8_takesOut_48 : decode cX8_takesOut 48 = .ok (.aload_n 0, 1) := by decide +kernel
theorem dX8_takesOut_49 : decode cX8_takesOut 49 = .ok (.getfield 7, 3) := by decide +kernel
theorem dX8_takesOut_52 : decode cX8_takesOut 52 = .ok (.iconst 1, 1) := by decide +kernel
theorem dX8_takesOut_53 : decode cX8_takesOut 53 = .ok (.aload_n 0, 1) := by decide +kernel
theorem dX8_takesOut_54 : decode cX8_takesOut 54 = .ok (.getfield 7, 3) := by decide +kernel
theorem dX8_takesOut_57 : decode cX8_takesOut 57 = .ok (.iconst 1, 1) := by decide +kernel
theorem dX8_takesOut_58 : decode cX8_takesOut 58 = .ok (.iaload, 1) := by decide +kernel
theorem dX8_takesOut_59 : decode cX8_takesOut 59 = .ok (.iload_n 1, 1) := by decide +kernel
theorem dX8_takesOut_60 : decode cX8_takesOut 60 = .ok (.iload_n 2, 1) := by decide +kernel
theorem dX8_takesOut_61 : decode cX8_takesOut 61 = .ok (.invokestatic 47, 3) := by decide +kernel
theorem dX8_takesOut_64 : decode cX8_takesOut 64 = .ok (.iastore, 1) := by decide +kernel
theorem dX8_takesOut_65 : decode cX8_takesOut 65 = .ok (.aload_n 0, 1) := by decide +kernel
theorem dX8_takesOut_66 : decode cX8_takesOut 66 = .ok (.getfield 7, 3) := by decide +kernel
theorem dX8_takesOut_69 : decode cX8_takesOut 69 = .ok (.iconst 2, 1) := by decide +kernel
theorem dX8_takesOut_70 : decode cX8_takesOut 70 = .ok (.aload_n 0, 1) := by decide +kernel
theorem dX8_takesOut_71 : decode cX8_takesOut 71 = .ok (.getfield 7, 3) := by decide +kernel
theorem dX8_takesOut_74 : decode cX8_takesOut 74 = .ok (.iconst 2, 1) := by decide +kernel
theorem dX8_takesOut_75 : decode cX8_takesOut 75 = .ok (.iaload, 1) := by decide +kernel
theorem dX8_takesOut_76 : decode cX8_takesOut 76 = .ok (.iload_n 1, 1) := by decide +kernel
theorem dX8_takesOut_77 : decode cX8_takesOut 77 = .ok (.iload_n 2, 1) := by decide +kernel
theorem dX8_takesOut_78 : decode cX8_takesOut 78 = .ok (.invokestatic 47, 3) := by decide +kernel
theorem dX8_takesOut_81 : decode cX8_takesOut 81 = .ok (.iastore, 1) := by decide +kernel
theorem dX8_takesOut_82 : decode cX8_takesOut 82 = .ok (.return_, 1) := by decide +kernel
theorem dX8_parts_0 : decode cX8_parts 0 = .ok (.aload_n 0, 1) := by decide +kernel
theorem dX8_parts_1 : decode cX8_parts 1 = .ok (.getfield 7, 3) := by decide +kernel
theorem dX8_parts_4 : decode cX8_parts 4 = .ok (.iconst 0, 1) := by decide +kernel
theorem dX8_parts_5 : decode cX8_parts 5 = .ok (.iaload, 1) := by decide +kernel
theorem dX8_parts_6 : decode cX8_parts 6 = .ok (.iconst 1, 1) := by decide +kernel
theorem dX8_parts_7 : decode cX8_parts 7 = .ok (.isub, 1) := by decide +kernel
theorem dX8_parts_8 : decode cX8_parts 8 = .ok (.istore_n 2, 1) := by decide +kernel
theorem dX8_parts_9 : decode cX8_parts 9 = .ok (.iload_n 2, 1) := by decide +kernel
theorem dX8_parts_10 : decode cX8_parts 10 = .ok (.aload_n 0, 1) := by decide +kernel
theorem dX8_parts_11 : decode cX8_parts 11 = .ok (.getfield 7, 3) := by decide +kernel
theorem dX8_parts_14 : decode cX8_parts 14 = .ok (.iconst 1, 1) := by decide +kernel
theorem dX8_parts_15 : decode cX8_parts 15 = .ok (.iaload, 1) := by decide +kernel
theorem dX8_parts_16 : decode cX8_parts 16 = .ok (.if_icmp .lt 25, 3) := by decide +kernel
theorem dX8_parts_19 : decode cX8_parts 19 = .ok (.aload_n 0, 1) := by decide +kernel
theorem dX8_parts_20 : decode cX8_parts 20 = .ok (.getfield 7, 3) := by decide +kernel
theorem dX8_parts_23 : decode cX8_parts 23 = .ok (.bipush 18, 2) := by decide +kernel
theorem dX8_parts_25 : decode cX8_parts 25 = .ok (.iload_n 2, 1) := by decide +kernel
theorem dX8_parts_26 : decode cX8_parts 26 = .ok (.iadd, 1) := by decide +kernel
theorem dX8_parts_27 : decode cX8_parts 27 = .ok (.iload_n 1, 1) := by decide +kernel
theorem dX8_parts_28 : decode cX8_parts 28 = .ok (.iadd, 1) := by decide +kernel
theorem dX8_parts_29 : decode cX8_parts 29 = .ok (.aload_n 0, 1) := by decide +kernel
theorem dX8_parts_30 : decode cX8_parts 30 = .ok (.iload_n 2, 1) := by decide +kernel
theorem dX8_parts_31 : decode cX8_parts 31 = .ok (.invokevirtual 36, 3) := by decide +kernel
theorem dX8_parts_34 : decode cX8_parts 34 = .ok (.iastore, 1) := by decide +kernel
theorem dX8_parts_35 : decode cX8_parts 35 = .ok (.iinc 2 (-1), 3) := by decide +kernel
theorem dX8_parts_38 : decode cX8_parts 38 = .ok (.goto (-29), 3) := by decide +kernel
theorem dX8_parts_41 : decode cX8_parts 41 = .ok (.aload_n 0, 1) := by decide +kernel
theorem dX8_parts_42 : decode cX8_parts 42 = .ok (.getfield 7, 3) := by decide +kernel
theorem dX8_parts_45 : decode cX8_parts 45 = .ok (.iconst 0, 1) := by decide +kernel
theorem dX8_parts_46 : decode cX8_parts 46 = .ok (.dup2, 1) := by decide +kernel
theorem dX8_parts_47 : decode cX8_parts 47 = .ok (.iaload, 1) := by decide +kernel
theorem dX8_parts_48 : decode cX8_parts 48 = .ok (.iload_n 1, 1) := by decide +kernel
theorem dX8_parts_49 : decode cX8_parts 49 = .ok (.iadd, 1) := by decide +kernel
theorem dX8_parts_50 : decode cX8_parts 50 = .ok (.iastore, 1) := by decide +kernel
theorem dX8_parts_51 : decode cX8_parts 51 = .ok (.aload_n 0, 1) := by decide +kernel
theorem dX8_parts_52 : decode cX8_parts 52 = .ok (.getfield 7, 3) := by decide +kernel
theorem dX8_parts_55 : decode cX8_parts 55 = .ok (.iconst 2, 1) := by decide +kernel
theorem dX8_parts_56 : decode cX8_parts 56 = .ok (.dup2, 1) := by decide +kernel
theorem dX8_parts_57 : decode cX8_parts 57 = .ok (.iaload, 1) := by decide +kernel
theorem dX8_parts_58 : decode cX8_parts 58 = .ok (.aload_n 0, 1) := by decide +kernel
theorem dX8_parts_59 : decode cX8_parts 59 = .ok (.getfield 7, 3) := by decide +kernel
theorem dX8_parts_62 : decode cX8_parts 62 = .ok (.iconst 2, 1) := by decide +kernel
theorem dX8_parts_63 : decode cX8_parts 63 = .ok (.iaload, 1) := by decide +kernel
theorem dX8_parts_64 : decode cX8_parts 64 = .ok (.aload_n 0, 1) := by decide +kernel
theorem dX8_parts_65 : decode cX8_parts 65 = .ok (.getfield 7, 3) := by decide +kernel
theorem dX8_parts_68 : decode cX8_parts 68 = .ok (.iconst 1, 1) := by decide +kernel
theorem dX8_parts_69 : decode cX8_parts 69 = .ok (.iaload, 1) := by decide +kernel
theorem dX8_parts_70 : decode cX8_parts 70 = .ok (.if_icmp .le 7, 3) := by decide +kernel
theorem dX8_parts_73 : decode cX8_parts 73 = .ok (.iload_n 1, 1) := by decide +kernel
theorem dX8_parts_74 : decode cX8_parts 74 = .ok (.goto 4, 3) := by decide +kernel
theorem dX8_parts_77 : decode cX8_parts 77 = .ok (.iconst 0, 1) := by decide +kernel
theorem dX8_parts_78 : decode cX8_parts 78 = .ok (.iadd, 1) := by decide +kernel
theorem dX8_parts_79 : decode cX8_parts 79 = .ok (.iastore, 1) := by decide +kernel
theorem dX8_parts_80 : decode cX8_parts 80 = .ok (.return_, 1) := by decide +kernel
theorem dX8_writes_0 : decode cX8_writes 0 = .ok (.aload_n 0, 1) := by decide +kernel
theorem dX8_writes_1 : decode cX8_writes 1 = .ok (.getfield 7, 3) := by decide +kernel
theorem dX8_writes_4 : decode cX8_writes 4 = .ok (.iconst 0, 1) := by decide +kernel
theorem dX8_writes_5 : decode cX8_writes 5 = .ok (.iaload, 1) := by decide +kernel
theorem dX8_writes_6 : decode cX8_writes 6 = .ok (.sipush 200, 3) := by decide +kernel
theorem dX8_writes_9 : decode cX8_writes 9 = .ok (.if_icmp .ne 5, 3) := by decide +kernel
theorem dX8_writes_12 : decode cX8_writes 12 = .ok (.iconst (-1), 1) := by decide +kernel
theorem dX8_writes_13 : decode cX8_writes 13 = .ok (.ireturn, 1) := by decide +kernel
theorem dX8_writes_14 : decode cX8_writes 14 = .ok (.aload_n 0, 1) := by decide +kernel
theorem dX8_writes_15 : decode cX8_writes 15 = .ok (.iconst 1, 1) := by decide +kernel
theorem dX8_writes_16 : decode cX8_writes 16 = .ok (.invokevirtual 51, 3) := by decide +kernel
theorem dX8_writes_19 : decode cX8_writes 19 = .ok (.aload_n 0, 1) := by decide +kernel
theorem dX8_writes_20 : decode cX8_writes 20 = .ok (.getfield 7, 3) := by decide +kernel
theorem dX8_writes_23 : decode cX8_writes 23 = .ok (.bipush 18, 2) := by decide +kernel
theorem dX8_writes_25 : decode cX8_writes 25 = .ok (.aload_n 0, 1) := by decide +kernel
theorem dX8_writes_26 : decode cX8_writes 26 = .ok (.getfield 7, 3) := by decide +kernel
theorem dX8_writes_29 : decode cX8_writes 29 = .ok (.iconst 1, 1) := by decide +kernel
theorem dX8_writes_30 : decode cX8_writes 30 = .ok (.iaload, 1) := by decide +kernel
theorem dX8_writes_31 : decode cX8_writes 31 = .ok (.iadd, 1) := by decide +kernel
theorem dX8_writes_32 : decode cX8_writes 32 = .ok (.iload_n 1, 1) := by decide +kernel
theorem dX8_writes_33 : decode cX8_writes 33 = .ok (.iastore, 1) := by decide +kernel
theorem dX8_writes_34 : decode cX8_writes 34 = .ok (.aload_n 0, 1) := by decide +kernel
theorem dX8_writes_35 : decode cX8_writes 35 = .ok (.getfield 7, 3) := by decide +kernel
theorem dX8_writes_38 : decode cX8_writes 38 = .ok (.iconst 1, 1) := by decide +kernel
theorem dX8_writes_39 : decode cX8_writes 39 = .ok (.dup2, 1) := by decide +kernel
theorem dX8_writes_40 : decode cX8_writes 40 = .ok (.iaload, 1) := by decide +kernel
theorem dX8_writes_41 : decode cX8_writes 41 = .ok (.iconst 1, 1) := by decide +kernel
theorem dX8_writes_42 : decode cX8_writes 42 = .ok (.iadd, 1) := by decide +kernel
theorem dX8_writes_43 : decode cX8_writes 43 = .ok (.iastore, 1) := by decide +kernel
theorem dX8_writes_44 : decode cX8_writes 44 = .ok (.aload_n 0, 1) := by decide +kernel
theorem dX8_writes_45 : decode cX8_writes 45 = .ok (.getfield 7, 3) := by decide +kernel
theorem dX8_writes_48 : decode cX8_writes 48 = .ok (.bipush 8, 2) := by decide +kernel
theorem dX8_writes_50 : decode cX8_writes 50 = .ok (.dup2, 1) := by decide +kernel
theorem dX8_writes_51 : decode cX8_writes 51 = .ok (.iaload, 1) := by decide +kernel
theorem dX8_writes_52 : decode cX8_writes 52 = .ok (.iconst 1, 1) := by decide +kernel
theorem dX8_writes_53 : decode cX8_writes 53 = .ok (.iadd, 1) := by decide +kernel
theorem dX8_writes_54 : decode cX8_writes 54 = .ok (.iastore, 1) := by decide +kernel
theorem dX8_writes_55 : decode cX8_writes 55 = .ok (.aload_n 0, 1) := by decide +kernel
theorem dX8_writes_56 : decode cX8_writes 56 = .ok (.getfield 7, 3) := by decide +kernel
theorem dX8_writes_59 : decode cX8_writes 59 = .ok (.iconst 0, 1) := by decide +kernel
theorem dX8_writes_60 : decode cX8_writes 60 = .ok (.iaload, 1) := by decide +kernel
theorem dX8_writes_61 : decode cX8_writes 61 = .ok (.ireturn, 1) := by decide +kernel
theorem dX8_rubs_0 : decode cX8_rubs 0 = .ok (.aload_n 0, 1) := by decide +kernel
theorem dX8_rubs_1 : decode cX8_rubs 1 = .ok (.getfield 7, 3) := by decide +kernel
theorem dX8_rubs_4 : decode cX8_rubs 4 = .ok (.iconst 1, 1) := by decide +kernel
theorem dX8_rubs_5 : decode cX8_rubs 5 = .ok (.iaload, 1) := by decide +kernel
theorem dX8_rubs_6 : decode cX8_rubs 6 = .ok (.ifCond .ne 5, 3) := by decide +kernel
theorem dX8_rubs_9 : decode cX8_rubs 9 = .ok (.iconst (-1), 1) := by decide +kernel
theorem dX8_rubs_10 : decode cX8_rubs 10 = .ok (.ireturn, 1) := by decide +kernel
theorem dX8_rubs_11 : decode cX8_rubs 11 = .ok (.aload_n 0, 1) := by decide +kernel
theorem dX8_rubs_12 : decode cX8_rubs 12 = .ok (.aload_n 0, 1) := by decide +kernel
theorem dX8_rubs_13 : decode cX8_rubs 13 = .ok (.getfield 7, 3) := by decide +kernel
theorem dX8_rubs_16 : decode cX8_rubs 16 = .ok (.iconst 1, 1) := by decide +kernel
theorem dX8_rubs_17 : decode cX8_rubs 17 = .ok (.iaload, 1) := by decide +kernel
theorem dX8_rubs_18 : decode cX8_rubs 18 = .ok (.iconst 1, 1) := by decide +kernel
theorem dX8_rubs_19 : decode cX8_rubs 19 = .ok (.isub, 1) := by decide +kernel
theorem dX8_rubs_20 : decode cX8_rubs 20 = .ok (.invokevirtual 36, 3) := by decide +kernel
theorem dX8_rubs_23 : decode cX8_rubs 23 = .ok (.istore_n 1, 1) := by decide +kernel
theorem dX8_rubs_24 : decode cX8_rubs 24 = .ok (.aload_n 0, 1) := by decide +kernel
theorem dX8_rubs_25 : decode cX8_rubs 25 = .ok (.aload_n 0, 1) := by decide +kernel
theorem dX8_rubs_26 : decode cX8_rubs 26 = .ok (.getfield 7, 3) := by decide +kernel
theorem dX8_rubs_29 : decode cX8_rubs 29 = .ok (.iconst 1, 1) := by decide +kernel
theorem dX8_rubs_30 : decode cX8_rubs 30 = .ok (.iaload, 1) := by decide +kernel
theorem dX8_rubs_31 : decode cX8_rubs 31 = .ok (.iconst 1, 1) := by decide +kernel
theorem dX8_rubs_32 : decode cX8_rubs 32 = .ok (.isub, 1) := by decide +kernel
theorem dX8_rubs_33 : decode cX8_rubs 33 = .ok (.aload_n 0, 1) := by decide +kernel
theorem dX8_rubs_34 : decode cX8_rubs 34 = .ok (.getfield 7, 3) := by decide +kernel
theorem dX8_rubs_37 : decode cX8_rubs 37 = .ok (.iconst 1, 1) := by decide +kernel
theorem dX8_rubs_38 : decode cX8_rubs 38 = .ok (.iaload, 1) := by decide +kernel
theorem dX8_rubs_39 : decode cX8_rubs 39 = .ok (.invokevirtual 55, 3) := by decide +kernel
theorem dX8_rubs_42 : decode cX8_rubs 42 = .ok (.aload_n 0, 1) := by decide +kernel
theorem dX8_rubs_43 : decode cX8_rubs 43 = .ok (.getfield 7, 3) := by decide +kernel
theorem dX8_rubs_46 : decode cX8_rubs 46 = .ok (.bipush 8, 2) := by decide +kernel
theorem dX8_rubs_48 : decode cX8_rubs 48 = .ok (.dup2, 1) := by decide +kernel
theorem dX8_rubs_49 : decode cX8_rubs 49 = .ok (.iaload, 1) := by decide +kernel
theorem dX8_rubs_50 : decode cX8_rubs 50 = .ok (.iconst 1, 1) := by decide +kernel
theorem dX8_rubs_51 : decode cX8_rubs 51 = .ok (.iadd, 1) := by decide +kernel
theorem dX8_rubs_52 : decode cX8_rubs 52 = .ok (.iastore, 1) := by decide +kernel
theorem dX8_rubs_53 : decode cX8_rubs 53 = .ok (.iload_n 1, 1) := by decide +kernel
theorem dX8_rubs_54 : decode cX8_rubs 54 = .ok (.ireturn, 1) := by decide +kernel
theorem dX8_swaps_0 : decode cX8_swaps 0 = .ok (.aload_n 0, 1) := by decide +kernel
theorem dX8_swaps_1 : decode cX8_swaps 1 = .ok (.getfield 7, 3) := by decide +kernel
theorem dX8_swaps_4 : decode cX8_swaps 4 = .ok (.iconst 1, 1) := by decide +kernel
theorem dX8_swaps_5 : decode cX8_swaps 5 = .ok (.iaload, 1) := by decide +kernel
theorem dX8_swaps_6 : decode cX8_swaps 6 = .ok (.ifCond .eq 18, 3) := by decide +kernel
theorem dX8_swaps_9 : decode cX8_swaps 9 = .ok (.aload_n 0, 1) := by decide +kernel
theorem dX8_swaps_10 : decode cX8_swaps 10 = .ok (.getfield 7, 3) := by decide +kernel
theorem dX8_swaps_13 : decode cX8_swaps 13 = .ok (.iconst 1, 1) := by decide +kernel
theorem dX8_swaps_14 : decode cX8_swaps 14 = .ok (.iaload, 1) := by decide +kernel
theorem dX8_swaps_15 : decode cX8_swaps 15 = .ok (.aload_n 0, 1) := by decide +kernel
theorem dX8_swaps_16 : decode cX8_swaps 16 = .ok (.getfield 7, 3) := by decide +kernel
theorem dX8_swaps_19 : decode cX8_swaps 19 = .ok (.iconst 0, 1) := by decide +kernel
theorem dX8_swaps_20 : decode cX8_swaps 20 = .ok (.iaload, 1) := by decide +kernel
theorem dX8_swaps_21 : decode cX8_swaps 21 = .ok (.if_icmp .ne 5, 3) := by decide +kernel
theorem dX8_swaps_24 : decode cX8_swaps 24 = .ok (.iconst (-1), 1) := by decide +kernel
theorem dX8_swaps_25 : decode cX8_swaps 25 = .ok (.ireturn, 1) := by decide +kernel
theorem dX8_swaps_26 : decode cX8_swaps 26 = .ok (.bipush 18, 2) := by decide +kernel
theorem dX8_swaps_28 : decode cX8_swaps 28 = .ok (.aload_n 0, 1) := by decide +kernel
theorem dX8_swaps_29 : decode cX8_swaps 29 = .ok (.getfield 7, 3) := by decide +kernel
theorem dX8_swaps_32 : decode cX8_swaps 32 = .ok (.iconst 1, 1) := by decide +kernel
theorem dX8_swaps_33 : decode cX8_swaps 33 = .ok (.iaload, 1) := by decide +kernel
theorem dX8_swaps_34 : decode cX8_swaps 34 = .ok (.iadd, 1) := by decide +kernel
theorem dX8_swaps_35 : decode cX8_swaps 35 = .ok (.istore_n 1, 1) := by decide +kernel
theorem dX8_swaps_36 : decode cX8_swaps 36 = .ok (.aload_n 0, 1) := by decide +kernel
theorem dX8_swaps_37 : decode cX8_swaps 37 = .ok (.getfield 7, 3) := by decide +kernel
theorem dX8_swaps_40 : decode cX8_swaps 40 = .ok (.iload_n 1, 1) := by decide +kernel
theorem dX8_swaps_41 : decode cX8_swaps 41 = .ok (.iconst 1, 1) := by decide +kernel
theorem dX8_swaps_42 : decode cX8_swaps 42 = .ok (.isub, 1) := by decide +kernel
theorem dX8_swaps_43 : decode cX8_swaps 43 = .ok (.iaload, 1) := by decide +kernel
theorem dX8_swaps_44 : decode cX8_swaps 44 = .ok (.istore_n 2, 1) := by decide +kernel
theorem dX8_swaps_45 : decode cX8_swaps 45 = .ok (.aload_n 0, 1) := by decide +kernel
theorem dX8_swaps_46 : decode cX8_swaps 46 = .ok (.getfield 7, 3) := by decide +kernel
theorem dX8_swaps_49 : decode cX8_swaps 49 = .ok (.iload_n 1, 1) := by decide +kernel
theorem dX8_swaps_50 : decode cX8_swaps 50 = .ok (.iconst 1, 1) := by decide +kernel
theorem dX8_swaps_51 : decode cX8_swaps 51 = .ok (.isub, 1) := by decide +kernel
theorem dX8_swaps_52 : decode cX8_swaps 52 = .ok (.aload_n 0, 1) := by decide +kernel
theorem dX8_swaps_53 : decode cX8_swaps 53 = .ok (.getfield 7, 3) := by decide +kernel
theorem dX8_swaps_56 : decode cX8_swaps 56 = .ok (.iload_n 1, 1) := by decide +kernel
theorem dX8_swaps_57 : decode cX8_swaps 57 = .ok (.iaload, 1) := by decide +kernel
theorem dX8_swaps_58 : decode cX8_swaps 58 = .ok (.iastore, 1) := by decide +kernel
theorem dX8_swaps_59 : decode cX8_swaps 59 = .ok (.aload_n 0, 1) := by decide +kernel
theorem dX8_swaps_60 : decode cX8_swaps 60 = .ok (.getfield 7, 3) := by decide +kernel
theorem dX8_swaps_63 : decode cX8_swaps 63 = .ok (.iload_n 1, 1) := by decide +kernel
theorem dX8_swaps_64 : decode cX8_swaps 64 = .ok (.iload_n 2, 1) := by decide +kernel
theorem dX8_swaps_65 : decode cX8_swaps 65 = .ok (.iastore, 1) := by decide +kernel
theorem dX8_swaps_66 : decode cX8_swaps 66 = .ok (.aload_n 0, 1) := by decide +kernel
theorem dX8_swaps_67 : decode cX8_swaps 67 = .ok (.getfield 7, 3) := by decide +kernel
theorem dX8_swaps_70 : decode cX8_swaps 70 = .ok (.iconst 1, 1) := by decide +kernel
theorem dX8_swaps_71 : decode cX8_swaps 71 = .ok (.dup2, 1) := by decide +kernel
theorem dX8_swaps_72 : decode cX8_swaps 72 = .ok (.iaload, 1) := by decide +kernel
theorem dX8_swaps_73 : decode cX8_swaps 73 = .ok (.iconst 1, 1) := by decide +kernel
theorem dX8_swaps_74 : decode cX8_swaps 74 = .ok (.iadd, 1) := by decide +kernel
theorem dX8_swaps_75 : decode cX8_swaps 75 = .ok (.iastore, 1) := by decide +kernel
theorem dX8_swaps_76 : decode cX8_swaps 76 = .ok (.iload_n 2, 1) := by decide +kernel
theorem dX8_swaps_77 : decode cX8_swaps 77 = .ok (.ireturn, 1) := by decide +kernel
theorem dX8_greatens_0 : decode cX8_greatens 0 = .ok (.aload_n 0, 1) := by decide +kernel
theorem dX8_greatens_1 : decode cX8_greatens 1 = .ok (.aload_n 0, 1) := by decide +kernel
theorem dX8_greatens_2 : decode cX8_greatens 2 = .ok (.getfield 7, 3) := by decide +kernel
theorem dX8_greatens_5 : decode cX8_greatens 5 = .ok (.iconst 1, 1) := by decide +kernel
theorem dX8_greatens_6 : decode cX8_greatens 6 = .ok (.iaload, 1) := by decide +kernel
theorem dX8_greatens_7 : decode cX8_greatens 7 = .ok (.invokevirtual 58, 3) := by decide +kernel
theorem dX8_greatens_10 : decode cX8_greatens 10 = .ok (.istore_n 1, 1) := by decide +kernel
theorem dX8_greatens_11 : decode cX8_greatens 11 = .ok (.iconst 0, 1) := by decide +kernel
theorem dX8_greatens_12 : decode cX8_greatens 12 = .ok (.istore_n 2, 1) := by decide +kernel
theorem dX8_greatens_13 : decode cX8_greatens 13 = .ok (.aload_n 0, 1) := by decide +kernel
theorem dX8_greatens_14 : decode cX8_greatens 14 = .ok (.getfield 7, 3) := by decide +kernel
theorem dX8_greatens_17 : decode cX8_greatens 17 = .ok (.iconst 1, 1) := by decide +kernel
theorem dX8_greatens_18 : decode cX8_greatens 18 = .ok (.iaload, 1) := by decide +kernel
theorem dX8_greatens_19 : decode cX8_greatens 19 = .ok (.istore_n 3, 1) := by decide +kernel
theorem dX8_greatens_20 : decode cX8_greatens 20 = .ok (.iload_n 3, 1) := by decide +kernel
theorem dX8_greatens_21 : decode cX8_greatens 21 = .ok (.iload_n 1, 1) := by decide +kernel
theorem dX8_greatens_22 : decode cX8_greatens 22 = .ok (.if_icmp .ge 41, 3) := by decide +kernel
theorem dX8_greatens_25 : decode cX8_greatens 25 = .ok (.aload_n 0, 1) := by decide +kernel
theorem dX8_greatens_26 : decode cX8_greatens 26 = .ok (.iload_n 3, 1) := by decide +kernel
theorem dX8_greatens_27 : decode cX8_greatens 27 = .ok (.invokevirtual 36, 3) := by decide +kernel
theorem dX8_greatens_30 : decode cX8_greatens 30 = .ok (.bipush 97, 2) := by decide +kernel
theorem dX8_greatens_32 : decode cX8_greatens 32 = .ok (.bipush 122, 2) := by decide +kernel
theorem dX8_greatens_34 : decode cX8_greatens 34 = .ok (.invokestatic 32, 3) := by decide +kernel
theorem dX8_greatens_37 : decode cX8_greatens 37 = .ok (.ifCond .eq 20, 3) := by decide +kernel
theorem dX8_greatens_40 : decode cX8_greatens 40 = .ok (.aload_n 0, 1) := by decide +kernel
theorem dX8_greatens_41 : decode cX8_greatens 41 = .ok (.getfield 7, 3) := by decide +kernel
theorem dX8_greatens_44 : decode cX8_greatens 44 = .ok (.bipush 18, 2) := by decide +kernel
theorem dX8_greatens_46 : decode cX8_greatens 46 = .ok (.iload_n 3, 1) := by decide +kernel
theorem dX8_greatens_47 : decode cX8_greatens 47 = .ok (.iadd, 1) := by decide +kernel
theorem dX8_greatens_48 : decode cX8_greatens 48 = .ok (.dup2, 1) := by decide +kernel
theorem dX8_greatens_49 : decode cX8_greatens 49 = .ok (.iaload, 1) := by decide +kernel
theorem dX8_greatens_50 : decode cX8_greatens 50 = .ok (.bipush 32, 2) := by decide +kernel
theorem dX8_greatens_52 : decode cX8_greatens 52 = .ok (.isub, 1) := by decide +kernel
theorem dX8_greatens_53 : decode cX8_greatens 53 = .ok (.iastore, 1) := by decide +kernel
theorem dX8_greatens_54 : decode cX8_greatens 54 = .ok (.iinc 2 1, 3) := by decide +kernel
theorem dX8_greatens_57 : decode cX8_greatens 57 = .ok (.iinc 3 1, 3) := by decide +kernel
theorem dX8_greatens_60 : decode cX8_greatens 60 = .ok (.goto (-40), 3) := by decide +kernel
theorem dX8_greatens_63 : decode cX8_greatens 63 = .ok (.aload_n 0, 1) := by decide +kernel
theorem dX8_greatens_64 : decode cX8_greatens 64 = .ok (.getfield 7, 3) := by decide +kernel
theorem dX8_greatens_67 : decode cX8_greatens 67 = .ok (.iconst 1, 1) := by decide +kernel
theorem dX8_greatens_68 : decode cX8_greatens 68 = .ok (.iload_n 1, 1) := by decide +kernel
theorem dX8_greatens_69 : decode cX8_greatens 69 = .ok (.iastore, 1) := by decide +kernel
theorem dX8_greatens_70 : decode cX8_greatens 70 = .ok (.iload_n 2, 1) := by decide +kernel
theorem dX8_greatens_71 : decode cX8_greatens 71 = .ok (.ireturn, 1) := by decide +kernel
theorem dX8_goesTo_0 : decode cX8_goesTo 0 = .ok (.iload_n 1, 1) := by decide +kernel
theorem dX8_goesTo_1 : decode cX8_goesTo 1 = .ok (.iconst 0, 1) := by decide +kernel
theorem dX8_goesTo_2 : decode cX8_goesTo 2 = .ok (.aload_n 0, 1) := by decide +kernel
theorem dX8_goesTo_3 : decode cX8_goesTo 3 = .ok (.getfield 7, 3) := by decide +kernel
theorem dX8_goesTo_6 : decode cX8_goesTo 6 = .ok (.iconst 0, 1) := by decide +kernel
theorem dX8_goesTo_7 : decode cX8_goesTo 7 = .ok (.iaload, 1) := by decide +kernel
theorem dX8_goesTo_8 : decode cX8_goesTo 8 = .ok (.invokestatic 32, 3) := by decide +kernel
theorem dX8_goesTo_11 : decode cX8_goesTo 11 = .ok (.ifCond .ne 5, 3) := by decide +kernel
theorem dX8_goesTo_14 : decode cX8_goesTo 14 = .ok (.iconst (-1), 1) := by decide +kernel
theorem dX8_goesTo_15 : decode cX8_goesTo 15 = .ok (.ireturn, 1) := by decide +kernel
theorem dX8_goesTo_16 : decode cX8_goesTo 16 = .ok (.iload_n 1, 1) := by decide +kernel
theorem dX8_goesTo_17 : decode cX8_goesTo 17 = .ok (.aload_n 0, 1) := by decide +kernel
theorem dX8_goesTo_18 : decode cX8_goesTo 18 = .ok (.getfield 7, 3) := by decide +kernel
theorem dX8_goesTo_21 : decode cX8_goesTo 21 = .ok (.iconst 1, 1) := by decide +kernel
theorem dX8_goesTo_22 : decode cX8_goesTo 22 = .ok (.iaload, 1) := by decide +kernel
theorem dX8_goesTo_23 : decode cX8_goesTo 23 = .ok (.if_icmp .le 14, 3) := by decide +kernel
theorem dX8_goesTo_26 : decode cX8_goesTo 26 = .ok (.iload_n 1, 1) := by decide +kernel
theorem dX8_goesTo_27 : decode cX8_goesTo 27 = .ok (.aload_n 0, 1) := by decide +kernel
theorem dX8_goesTo_28 : decode cX8_goesTo 28 = .ok (.getfield 7, 3) := by decide +kernel
theorem dX8_goesTo_31 : decode cX8_goesTo 31 = .ok (.iconst 1, 1) := by decide +kernel
theorem dX8_goesTo_32 : decode cX8_goesTo 32 = .ok (.iaload, 1) := by decide +kernel
theorem dX8_goesTo_33 : decode cX8_goesTo 33 = .ok (.isub, 1) := by decide +kernel
theorem dX8_goesTo_34 : decode cX8_goesTo 34 = .ok (.goto 11, 3) := by decide +kernel
theorem dX8_goesTo_37 : decode cX8_goesTo 37 = .ok (.aload_n 0, 1) := by decide +kernel
theorem dX8_goesTo_38 : decode cX8_goesTo 38 = .ok (.getfield 7, 3) := by decide +kernel
theorem dX8_goesTo_41 : decode cX8_goesTo 41 = .ok (.iconst 1, 1) := by decide +kernel
theorem dX8_goesTo_42 : decode cX8_goesTo 42 = .ok (.iaload, 1) := by decide +kernel
theorem dX8_goesTo_43 : decode cX8_goesTo 43 = .ok (.iload_n 1, 1) := by decide +kernel
theorem dX8_goesTo_44 : decode cX8_goesTo 44 = .ok (.isub, 1) := by decide +kernel
theorem dX8_goesTo_45 : decode cX8_goesTo 45 = .ok (.istore_n 2, 1) := by decide +kernel
theorem dX8_goesTo_46 : decode cX8_goesTo 46 = .ok (.aload_n 0, 1) := by decide +kernel
theorem dX8_goesTo_47 : decode cX8_goesTo 47 = .ok (.getfield 7, 3) := by decide +kernel
theorem dX8_goesTo_50 : decode cX8_goesTo 50 = .ok (.iconst 1, 1) := by decide +kernel
theorem dX8_goesTo_51 : decode cX8_goesTo 51 = .ok (.iload_n 1, 1) := by decide +kernel
theorem dX8_goesTo_52 : decode cX8_goesTo 52 = .ok (.iastore, 1) := by decide +kernel
theorem dX8_goesTo_53 : decode cX8_goesTo 53 = .ok (.iload_n 2, 1) := by decide +kernel
theorem dX8_goesTo_54 : decode cX8_goesTo 54 = .ok (.ireturn, 1) := by decide +kernel
theorem dX8_lineAt_0 : decode cX8_lineAt 0 = .ok (.aload_n 0, 1) := by decide +kernel
theorem dX8_lineAt_1 : decode cX8_lineAt 1 = .ok (.getfield 7, 3) := by decide +kernel
theorem dX8_lineAt_4 : decode cX8_lineAt 4 = .ok (.iconst 1, 1) := by decide +kernel
theorem dX8_lineAt_5 : decode cX8_lineAt 5 = .ok (.iaload, 1) := by decide +kernel
theorem dX8_lineAt_6 : decode cX8_lineAt 6 = .ok (.aload_n 0, 1) := by decide +kernel
theorem dX8_lineAt_7 : decode cX8_lineAt 7 = .ok (.aload_n 0, 1) := by decide +kernel
theorem dX8_lineAt_8 : decode cX8_lineAt 8 = .ok (.getfield 7, 3) := by decide +kernel
theorem dX8_lineAt_11 : decode cX8_lineAt 11 = .ok (.iconst 1, 1) := by decide +kernel
theorem dX8_lineAt_12 : decode cX8_lineAt 12 = .ok (.iaload, 1) := by decide +kernel
theorem dX8_lineAt_13 : decode cX8_lineAt 13 = .ok (.invokevirtual 61, 3) := by decide +kernel
theorem dX8_lineAt_16 : decode cX8_lineAt 16 = .ok (.isub, 1) := by decide +kernel
theorem dX8_lineAt_17 : decode cX8_lineAt 17 = .ok (.istore_n 2, 1) := by decide +kernel
theorem dX8_lineAt_18 : decode cX8_lineAt 18 = .ok (.aload_n 0, 1) := by decide +kernel
theorem dX8_lineAt_19 : decode cX8_lineAt 19 = .ok (.aload_n 0, 1) := by decide +kernel
theorem dX8_lineAt_20 : decode cX8_lineAt 20 = .ok (.getfield 7, 3) := by decide +kernel
theorem dX8_lineAt_23 : decode cX8_lineAt 23 = .ok (.iconst 1, 1) := by decide +kernel
theorem dX8_lineAt_24 : decode cX8_lineAt 24 = .ok (.iaload, 1) := by decide +kernel
theorem dX8_lineAt_25 : decode cX8_lineAt 25 = .ok (.invokevirtual 61, 3) := by decide +kernel
theorem dX8_lineAt_28 : decode cX8_lineAt 28 = .ok (.istore_n 3, 1) := by decide +kernel
theorem dX8_lineAt_29 : decode cX8_lineAt 29 = .ok (.iconst 1, 1) := by decide +kernel
theorem dX8_lineAt_30 : decode cX8_lineAt 30 = .ok (.istore 4, 2) := by decide +kernel
theorem dX8_lineAt_32 : decode cX8_lineAt 32 = .ok (.iconst 0, 1) := by decide +kernel
theorem dX8_lineAt_33 : decode cX8_lineAt 33 = .ok (.istore 5, 2) := by decide +kernel
theorem dX8_lineAt_35 : decode cX8_lineAt 35 = .ok (.iload 5, 2) := by decide +kernel
theorem dX8_lineAt_37 : decode cX8_lineAt 37 = .ok (.iload_n 1, 1) := by decide +kernel
theorem dX8_lineAt_38 : decode cX8_lineAt 38 = .ok (.if_icmp .ge 52, 3) := by decide +kernel
theorem dX8_lineAt_41 : decode cX8_lineAt 41 = .ok (.iload 4, 2) := by decide +kernel
theorem dX8_lineAt_43 : decode cX8_lineAt 43 = .ok (.ifCond .eq 47, 3) := by decide +kernel
theorem dX8_lineAt_46 : decode cX8_lineAt 46 = .ok (.aload_n 0, 1) := by decide +kernel
theorem dX8_lineAt_47 : decode cX8_lineAt 47 = .ok (.iload_n 3, 1) := by decide +kernel
theorem dX8_lineAt_48 : decode cX8_lineAt 48 = .ok (.invokevirtual 64, 3) := by decide +kernel
theorem dX8_lineAt_51 : decode cX8_lineAt 51 = .ok (.aload_n 0, 1) := by decide +kernel
theorem dX8_lineAt_52 : decode cX8_lineAt 52 = .ok (.getfield 7, 3) := by decide +kernel
theorem dX8_lineAt_55 : decode cX8_lineAt 55 = .ok (.iconst 0, 1) := by decide +kernel
theorem dX8_lineAt_56 : decode cX8_lineAt 56 = .ok (.iaload, 1) := by decide +kernel
theorem dX8_lineAt_57 : decode cX8_lineAt 57 = .ok (.if_icmp .ge 7, 3) := by decide +kernel
theorem dX8_lineAt_60 : decode cX8_lineAt 60 = .ok (.iconst 1, 1) := by decide +kernel
theorem dX8_lineAt_61 : decode cX8_lineAt 61 = .ok (.goto 4, 3) := by decide +kernel
theorem dX8_lineAt_64 : decode cX8_lineAt 64 = .ok (.iconst 0, 1) := by decide +kernel
theorem dX8_lineAt_65 : decode cX8_lineAt 65 = .ok (.istore 4, 2) := by decide +kernel
theorem dX8_lineAt_67 : decode cX8_lineAt 67 = .ok (.iload 4, 2) := by decide +kernel
theorem dX8_lineAt_69 : decode cX8_lineAt 69 = .ok (.ifCond .eq 13, 3) := by decide +kernel
theorem dX8_lineAt_72 : decode cX8_lineAt 72 = .ok (.aload_n 0, 1) := by decide +kernel
theorem dX8_lineAt_73 : decode cX8_lineAt 73 = .ok (.iload_n 3, 1) := by decide +kernel
theorem dX8_lineAt_74 : decode cX8_lineAt 74 = .ok (.invokevirtual 64, 3) := by decide +kernel
theorem dX8_lineAt_77 : decode cX8_lineAt 77 = .ok (.iconst 1, 1) := by decide +kernel
theorem dX8_lineAt_78 : decode cX8_lineAt 78 = .ok (.iadd, 1) := by decide +kernel
theorem dX8_lineAt_79 : decode cX8_lineAt 79 = .ok (.goto 4, 3) := by decide +kernel
theorem dX8_lineAt_82 : decode cX8_lineAt 82 = .ok (.iload_n 3, 1) := by decide +kernel
theorem dX8_lineAt_83 : decode cX8_lineAt 83 = .ok (.istore_n 3, 1) := by decide +kernel
theorem dX8_lineAt_84 : decode cX8_lineAt 84 = .ok (.iinc 5 1, 3) := by decide +kernel
theorem dX8_lineAt_87 : decode cX8_lineAt 87 = .ok (.goto (-52), 3) := by decide +kernel
theorem dX8_lineAt_90 : decode cX8_lineAt 90 = .ok (.iconst 0, 1) := by decide +kernel
theorem dX8_lineAt_91 : decode cX8_lineAt 91 = .ok (.istore 5, 2) := by decide +kernel
theorem dX8_lineAt_93 : decode cX8_lineAt 93 = .ok (.iload 5, 2) := by decide +kernel
theorem dX8_lineAt_95 : decode cX8_lineAt 95 = .ok (.iload_n 1, 1) := by decide +kernel
theorem dX8_lineAt_96 : decode cX8_lineAt 96 = .ok (.ineg, 1) := by decide +kernel
theorem dX8_lineAt_97 : decode cX8_lineAt 97 = .ok (.if_icmp .ge 42, 3) := by decide +kernel
theorem dX8_lineAt_100 : decode cX8_lineAt 100 = .ok (.iload 4, 2) := by decide +kernel
theorem dX8_lineAt_102 : decode cX8_lineAt 102 = .ok (.ifCond .eq 37, 3) := by decide +kernel
theorem dX8_lineAt_105 : decode cX8_lineAt 105 = .ok (.iload_n 3, 1) := by decide +kernel
theorem dX8_lineAt_106 : decode cX8_lineAt 106 = .ok (.ifCond .le 7, 3) := by decide +kernel
theorem dX8_lineAt_109 : decode cX8_lineAt 109 = .ok (.iconst 1, 1) := by decide +kernel
theorem dX8_lineAt_110 : decode cX8_lineAt 110 = .ok (.goto 4, 3) := by decide +kernel
theorem dX8_lineAt_113 : decode cX8_lineAt 113 = .ok (.iconst 0, 1) := by decide +kernel
theorem dX8_lineAt_114 : decode cX8_lineAt 114 = .ok (.istore 4, 2) := by decide +kernel
theorem dX8_lineAt_116 : decode cX8_lineAt 116 = .ok (.iload 4, 2) := by decide +kernel
theorem dX8_lineAt_118 : decode cX8_lineAt 118 = .ok (.ifCond .eq 13, 3) := by decide +kernel
theorem dX8_lineAt_121 : decode cX8_lineAt 121 = .ok (.aload_n 0, 1) := by decide +kernel
theorem dX8_lineAt_122 : decode cX8_lineAt 122 = .ok (.iload_n 3, 1) := by decide +kernel
theorem dX8_lineAt_123 : decode cX8_lineAt 123 = .ok (.iconst 1, 1) := by decide +kernel
theorem dX8_lineAt_124 : decode cX8_lineAt 124 = .ok (.isub, 1) := by decide +kernel
theorem dX8_lineAt_125 : decode cX8_lineAt 125 = .ok (.invokevirtual 61, 3) := by decide +kernel
theorem dX8_lineAt_128 : decode cX8_lineAt 128 = .ok (.goto 4, 3) := by decide +kernel
theorem dX8_lineAt_131 : decode cX8_lineAt 131 = .ok (.iload_n 3, 1) := by decide +kernel
theorem dX8_lineAt_132 : decode cX8_lineAt 132 = .ok (.istore_n 3, 1) := by decide +kernel
theorem dX8_lineAt_133 : decode cX8_lineAt 133 = .ok (.iinc 5 1, 3) := by decide +kernel
theorem dX8_lineAt_136 : decode cX8_lineAt 136 = .ok (.goto (-43), 3) := by decide +kernel
theorem dX8_lineAt_139 : decode cX8_lineAt 139 = .ok (.aload_n 0, 1) := by decide +kernel
theorem dX8_lineAt_140 : decode cX8_lineAt 140 = .ok (.iload_n 3, 1) := by decide +kernel
theorem dX8_lineAt_141 : decode cX8_lineAt 141 = .ok (.invokevirtual 64, 3) := by decide +kernel
theorem dX8_lineAt_144 : decode cX8_lineAt 144 = .ok (.iload_n 3, 1) := by decide +kernel
theorem dX8_lineAt_145 : decode cX8_lineAt 145 = .ok (.isub, 1) := by decide +kernel
theorem dX8_lineAt_146 : decode cX8_lineAt 146 = .ok (.istore 5, 2) := by decide +kernel
theorem dX8_lineAt_148 : decode cX8_lineAt 148 = .ok (.iload 4, 2) := by decide +kernel
theorem dX8_lineAt_150 : decode cX8_lineAt 150 = .ok (.ifCond .ne 7, 3) := by decide +kernel
theorem dX8_lineAt_153 : decode cX8_lineAt 153 = .ok (.iconst (-1), 1) := by decide +kernel
theorem dX8_lineAt_154 : decode cX8_lineAt 154 = .ok (.goto 17, 3) := by decide +kernel
theorem dX8_lineAt_157 : decode cX8_lineAt 157 = .ok (.iload_n 3, 1) := by decide +kernel
theorem dX8_lineAt_158 : decode cX8_lineAt 158 = .ok (.iload_n 2, 1) := by decide +kernel
theorem dX8_lineAt_159 : decode cX8_lineAt 159 = .ok (.iload 5, 2) := by decide +kernel
theorem dX8_lineAt_161 : decode cX8_lineAt 161 = .ok (.if_icmp .ge 7, 3) := by decide +kernel
theorem dX8_lineAt_164 : decode cX8_lineAt 164 = .ok (.iload_n 2, 1) := by decide +kernel
theorem dX8_lineAt_165 : decode cX8_lineAt 165 = .ok (.goto 5, 3) := by decide +kernel
theorem dX8_lineAt_168 : decode cX8_lineAt 168 = .ok (.iload 5, 2) := by decide +kernel
theorem dX8_lineAt_170 : decode cX8_lineAt 170 = .ok (.iadd, 1) := by decide +kernel
theorem dX8_lineAt_171 : decode cX8_lineAt 171 = .ok (.ireturn, 1) := by decide +kernel
theorem dX8_marks_0 : decode cX8_marks 0 = .ok (.aload_n 0, 1) := by decide +kernel
theorem dX8_marks_1 : decode cX8_marks 1 = .ok (.getfield 7, 3) := by decide +kernel
theorem dX8_marks_4 : decode cX8_marks 4 = .ok (.iconst 2, 1) := by decide +kernel
theorem dX8_marks_5 : decode cX8_marks 5 = .ok (.aload_n 0, 1) := by decide +kernel
theorem dX8_marks_6 : decode cX8_marks 6 = .ok (.getfield 7, 3) := by decide +kernel
theorem dX8_marks_9 : decode cX8_marks 9 = .ok (.iconst 1, 1) := by decide +kernel
theorem dX8_marks_10 : decode cX8_marks 10 = .ok (.iaload, 1) := by decide +kernel
theorem dX8_marks_11 : decode cX8_marks 11 = .ok (.iastore, 1) := by decide +kernel
theorem dX8_marks_12 : decode cX8_marks 12 = .ok (.aload_n 0, 1) := by decide +kernel
theorem dX8_marks_13 : decode cX8_marks 13 = .ok (.getfield 7, 3) := by decide +kernel
theorem dX8_marks_16 : decode cX8_marks 16 = .ok (.iconst 1, 1) := by decide +kernel
theorem dX8_marks_17 : decode cX8_marks 17 = .ok (.iaload, 1) := by decide +kernel
theorem dX8_marks_18 : decode cX8_marks 18 = .ok (.ireturn, 1) := by decide +kernel
theorem dX8_exchanges_0 : decode cX8_exchanges 0 = .ok (.aload_n 0, 1) := by decide +kernel
theorem dX8_exchanges_1 : decode cX8_exchanges 1 = .ok (.getfield 7, 3) := by decide +kernel
theorem dX8_exchanges_4 : decode cX8_exchanges 4 = .ok (.iconst 2, 1) := by decide +kernel
theorem dX8_exchanges_5 : decode cX8_exchanges 5 = .ok (.iaload, 1) := by decide +kernel
theorem dX8_exchanges_6 : decode cX8_exchanges 6 = .ok (.ifCond .ge 5, 3) := by decide +kernel
theorem dX8_exchanges_9 : decode cX8_exchanges 9 = .ok (.iconst (-1), 1) := by decide +kernel
theorem dX8_exchanges_10 : decode cX8_exchanges 10 = .ok (.ireturn, 1) := by decide +kernel
theorem dX8_exchanges_11 : decode cX8_exchanges 11 = .ok (.aload_n 0, 1) := by decide +kernel
theorem dX8_exchanges_12 : decode cX8_exchanges 12 = .ok (.getfield 7, 3) := by decide +kernel
theorem dX8_exchanges_15 : decode cX8_exchanges 15 = .ok (.iconst 2, 1) := by decide +kernel
theorem dX8_exchanges_16 : decode cX8_exchanges 16 = .ok (.iaload, 1) := by decide +kernel
theorem dX8_exchanges_17 : decode cX8_exchanges 17 = .ok (.istore_n 1, 1) := by decide +kernel
theorem dX8_exchanges_18 : decode cX8_exchanges 18 = .ok (.aload_n 0, 1) := by decide +kernel
theorem dX8_exchanges_19 : decode cX8_exchanges 19 = .ok (.getfield 7, 3) := by decide +kernel
theorem dX8_exchanges_22 : decode cX8_exchanges 22 = .ok (.iconst 2, 1) := by decide +kernel
theorem dX8_exchanges_23 : decode cX8_exchanges 23 = .ok (.aload_n 0, 1) := by decide +kernel
theorem dX8_exchanges_24 : decode cX8_exchanges 24 = .ok (.getfield 7, 3) := by decide +kernel
theorem dX8_exchanges_27 : decode cX8_exchanges 27 = .ok (.iconst 1, 1) := by decide +kernel
theorem dX8_exchanges_28 : decode cX8_exchanges 28 = .ok (.iaload, 1) := by decide +kernel
theorem dX8_exchanges_29 : decode cX8_exchanges 29 = .ok (.iastore, 1) := by decide +kernel
theorem dX8_exchanges_30 : decode cX8_exchanges 30 = .ok (.aload_n 0, 1) := by decide +kernel
theorem dX8_exchanges_31 : decode cX8_exchanges 31 = .ok (.getfield 7, 3) := by decide +kernel
theorem dX8_exchanges_34 : decode cX8_exchanges 34 = .ok (.iconst 1, 1) := by decide +kernel
theorem dX8_exchanges_35 : decode cX8_exchanges 35 = .ok (.iload_n 1, 1) := by decide +kernel
theorem dX8_exchanges_36 : decode cX8_exchanges 36 = .ok (.iastore, 1) := by decide +kernel
theorem dX8_exchanges_37 : decode cX8_exchanges 37 = .ok (.iload_n 1, 1) := by decide +kernel
theorem dX8_exchanges_38 : decode cX8_exchanges 38 = .ok (.ireturn, 1) := by decide +kernel
theorem dX8_collects_0 : decode cX8_collects 0 = .ok (.aload_n 0, 1) := by decide +kernel
theorem dX8_collects_1 : decode cX8_collects 1 = .ok (.getfield 7, 3) := by decide +kernel
theorem dX8_collects_4 : decode cX8_collects 4 = .ok (.iconst 3, 1) := by decide +kernel
theorem dX8_collects_5 : decode cX8_collects 5 = .ok (.iaload, 1) := by decide +kernel
theorem dX8_collects_6 : decode cX8_collects 6 = .ok (.aload_n 0, 1) := by decide +kernel
theorem dX8_collects_7 : decode cX8_collects 7 = .ok (.getfield 7, 3) := by decide +kernel
theorem dX8_collects_10 : decode cX8_collects 10 = .ok (.iconst 5, 1) := by decide +kernel
theorem dX8_collects_11 : decode cX8_collects 11 = .ok (.iaload, 1) := by decide +kernel
theorem dX8_collects_12 : decode cX8_collects 12 = .ok (.if_icmp .ne 7, 3) := by decide +kernel
theorem dX8_collects_15 : decode cX8_collects 15 = .ok (.iconst 1, 1) := by decide +kernel
theorem dX8_collects_16 : decode cX8_collects 16 = .ok (.goto 4, 3) := by decide +kernel
theorem dX8_collects_19 : decode cX8_collects 19 = .ok (.iconst 0, 1) := by decide +kernel
theorem dX8_collects_20 : decode cX8_collects 20 = .ok (.istore_n 3, 1) := by decide +kernel
theorem dX8_collects_21 : decode cX8_collects 21 = .ok (.aload_n 0, 1) := by decide +kernel
theorem dX8_collects_22 : decode cX8_collects 22 = .ok (.getfield 7, 3) := by decide +kernel
theorem dX8_collects_25 : decode cX8_collects 25 = .ok (.iconst 3, 1) := by decide +kernel
theorem dX8_collects_26 : decode cX8_collects 26 = .ok (.dup2, 1) := by decide +kernel
theorem dX8_collects_27 : decode cX8_collects 27 = .ok (.iaload, 1) := by decide +kernel
theorem dX8_collects_28 : decode cX8_collects 28 = .ok (.iload_n 3, 1) := by decide +kernel
theorem dX8_collects_29 : decode cX8_collects 29 = .ok (.ifCond .eq 7, 3) := by decide +kernel
theorem dX8_collects_32 : decode cX8_collects 32 = .ok (.iconst 0, 1) := by decide +kernel
theorem dX8_collects_33 : decode cX8_collects 33 = .ok (.goto 4, 3) := by decide +kernel
theorem dX8_collects_36 : decode cX8_collects 36 = .ok (.iconst 1, 1) := by decide +kernel
theorem dX8_collects_37 : decode cX8_collects 37 = .ok (.iadd, 1) := by decide +kernel
theorem dX8_collects_38 : decode cX8_collects 38 = .ok (.iastore, 1) := by decide +kernel
theorem dX8_collects_39 : decode cX8_collects 39 = .ok (.aload_n 0, 1) := by decide +kernel
theorem dX8_collects_40 : decode cX8_collects 40 = .ok (.getfield 7, 3) := by decide +kernel
theorem dX8_collects_43 : decode cX8_collects 43 = .ok (.bipush 9, 2) := by decide +kernel
theorem dX8_collects_45 : decode cX8_collects 45 = .ok (.dup2, 1) := by decide +kernel
theorem dX8_collects_46 : decode cX8_collects 46 = .ok (.iaload, 1) := by decide +kernel
theorem dX8_collects_47 : decode cX8_collects 47 = .ok (.iload_n 3, 1) := by decide +kernel
theorem dX8_collects_48 : decode cX8_collects 48 = .ok (.ifCond .eq 7, 3) := by decide +kernel
theorem dX8_collects_51 : decode cX8_collects 51 = .ok (.iconst 1, 1) := by decide +kernel
theorem dX8_collects_52 : decode cX8_collects 52 = .ok (.goto 4, 3) := by decide +kernel
theorem dX8_collects_55 : decode cX8_collects 55 = .ok (.iconst 0, 1) := by decide +kernel
theorem dX8_collects_56 : decode cX8_collects 56 = .ok (.iadd, 1) := by decide +kernel
theorem dX8_collects_57 : decode cX8_collects 57 = .ok (.iastore, 1) := by decide +kernel
theorem dX8_collects_58 : decode cX8_collects 58 = .ok (.aload_n 0, 1) := by decide +kernel
theorem dX8_collects_59 : decode cX8_collects 59 = .ok (.getfield 7, 3) := by decide +kernel
theorem dX8_collects_62 : decode cX8_collects 62 = .ok (.iconst 3, 1) := by decide +kernel
theorem dX8_collects_63 : decode cX8_collects 63 = .ok (.iaload, 1) := by decide +kernel
theorem dX8_collects_64 : decode cX8_collects 64 = .ok (.iconst 1, 1) := by decide +kernel
theorem dX8_collects_65 : decode cX8_collects 65 = .ok (.isub, 1) := by decide +kernel
theorem dX8_collects_66 : decode cX8_collects 66 = .ok (.istore 4, 2) := by decide +kernel
theorem dX8_collects_68 : decode cX8_collects 68 = .ok (.iload 4, 2) := by decide +kernel
theorem dX8_collects_70 : decode cX8_collects 70 = .ok (.ifCond .le 93, 3) := by decide +kernel
theorem dX8_collects_73 : decode cX8_collects 73 = .ok (.aload_n 0, 1) := by decide +kernel
theorem dX8_collects_74 : decode cX8_collects 74 = .ok (.getfield 7, 3) := by decide +kernel
theorem dX8_collects_77 : decode cX8_collects 77 = .ok (.bipush 10, 2) := by decide +kernel
theorem dX8_collects_79 : decode cX8_collects 79 = .ok (.iload 4, 2) := by decide +kernel
theorem dX8_collects_81 : decode cX8_collects 81 = .ok (.iadd, 1) := by decide +kernel
theorem dX8_collects_82 : decode cX8_collects 82 = .ok (.aload_n 0, 1) := by decide +kernel
theorem dX8_collects_83 : decode cX8_collects 83 = .ok (.getfield 7, 3) := by decide +kernel
theorem dX8_collects_86 : decode cX8_collects 86 = .ok (.bipush 10, 2) := by decide +kernel
theorem dX8_collects_88 : decode cX8_collects 88 = .ok (.iload 4, 2) := by decide +kernel
theorem dX8_collects_90 : decode cX8_collects 90 = .ok (.iadd, 1) := by decide +kernel
theorem dX8_collects_91 : decode cX8_collects 91 = .ok (.iconst 1, 1) := by decide +kernel
theorem dX8_collects_92 : decode cX8_collects 92 = .ok (.isub, 1) := by decide +kernel
theorem dX8_collects_93 : decode cX8_collects 93 = .ok (.iaload, 1) := by decide +kernel
theorem dX8_collects_94 : decode cX8_collects 94 = .ok (.iastore, 1) := by decide +kernel
theorem dX8_collects_95 : decode cX8_collects 95 = .ok (.iconst 0, 1) := by decide +kernel
theorem dX8_collects_96 : decode cX8_collects 96 = .ok (.istore 5, 2) := by decide +kernel
theorem dX8_collects_98 : decode cX8_collects 98 = .ok (.iload 5, 2) := by decide +kernel
theorem dX8_collects_100 : decode cX8_collects 100 = .ok (.aload_n 0, 1) := by decide +kernel
theorem dX8_collects_101 : decode cX8_collects 101 = .ok (.getfield 7, 3) := by decide +kernel
theorem dX8_collects_104 : decode cX8_collects 104 = .ok (.bipush 10, 2) := by decide +kernel
theorem dX8_collects_106 : decode cX8_collects 106 = .ok (.iload 4, 2) := by decide +kernel
theorem dX8_collects_108 : decode cX8_collects 108 = .ok (.iadd, 1) := by decide +kernel
theorem dX8_collects_109 : decode cX8_collects 109 = .ok (.iaload, 1) := by decide +kernel
theorem dX8_collects_110 : decode cX8_collects 110 = .ok (.if_icmp .ge 47, 3) := by decide +kernel
theorem dX8_collects_113 : decode cX8_collects 113 = .ok (.aload_n 0, 1) := by decide +kernel
theorem dX8_collects_114 : decode cX8_collects 114 = .ok (.getfield 7, 3) := by decide +kernel
theorem dX8_collects_117 : decode cX8_collects 117 = .ok (.sipush 218, 3) := by decide +kernel
theorem dX8_collects_120 : decode cX8_collects 120 = .ok (.sipush 200, 3) := by decide +kernel
theorem dX8_collects_123 : decode cX8_collects 123 = .ok (.iload 4, 2) := by decide +kernel
theorem dX8_collects_125 : decode cX8_collects 125 = .ok (.imul, 1) := by decide +kernel
theorem dX8_collects_126 : decode cX8_collects 126 = .ok (.iadd, 1) := by decide +kernel
theorem dX8_collects_127 : decode cX8_collects 127 = .ok (.iload 5, 2) := by decide +kernel
theorem dX8_collects_129 : decode cX8_collects 129 = .ok (.iadd, 1) := by decide +kernel
theorem dX8_collects_130 : decode cX8_collects 130 = .ok (.aload_n 0, 1) := by decide +kernel
theorem dX8_collects_131 : decode cX8_collects 131 = .ok (.getfield 7, 3) := by decide +kernel
theorem dX8_collects_134 : decode cX8_collects 134 = .ok (.sipush 218, 3) := by decide +kernel
theorem dX8_collects_137 : decode cX8_collects 137 = .ok (.sipush 200, 3) := by decide +kernel
theorem dX8_collects_140 : decode cX8_collects 140 = .ok (.iload 4, 2) := by decide +kernel
theorem dX8_collects_142 : decode cX8_collects 142 = .ok (.iconst 1, 1) := by decide +kernel
theorem dX8_collects_143 : decode cX8_collects 143 = .ok (.isub, 1) := by decide +kernel
theorem dX8_collects_144 : decode cX8_collects 144 = .ok (.imul, 1) := by decide +kernel
theorem dX8_collects_145 : decode cX8_collects 145 = .ok (.iadd, 1) := by decide +kernel
theorem dX8_collects_146 : decode cX8_collects 146 = .ok (.iload 5, 2) := by decide +kernel
theorem dX8_collects_148 : decode cX8_collects 148 = .ok (.iadd, 1) := by decide +kernel
theorem dX8_collects_149 : decode cX8_collects 149 = .ok (.iaload, 1) := by decide +kernel
theorem dX8_collects_150 : decode cX8_collects 150 = .ok (.iastore, 1) := by decide +kernel
theorem dX8_collects_151 : decode cX8_collects 151 = .ok (.iinc 5 1, 3) := by decide +kernel
theorem dX8_collects_154 : decode cX8_collects 154 = .ok (.goto (-56), 3) := by decide +kernel
theorem dX8_collects_157 : decode cX8_collects 157 = .ok (.iinc 4 (-1), 3) := by decide +kernel
theorem dX8_collects_160 : decode cX8_collects 160 = .ok (.goto (-92), 3) := by decide +kernel
theorem dX8_collects_163 : decode cX8_collects 163 = .ok (.aload_n 0, 1) := by decide +kernel
theorem dX8_collects_164 : decode cX8_collects 164 = .ok (.getfield 7, 3) := by decide +kernel
theorem dX8_collects_167 : decode cX8_collects 167 = .ok (.bipush 10, 2) := by decide +kernel
theorem dX8_collects_169 : decode cX8_collects 169 = .ok (.iload_n 2, 1) := by decide +kernel
theorem dX8_collects_170 : decode cX8_collects 170 = .ok (.iload_n 1, 1) := by decide +kernel
theorem dX8_collects_171 : decode cX8_collects 171 = .ok (.isub, 1) := by decide +kernel
theorem dX8_collects_172 : decode cX8_collects 172 = .ok (.iastore, 1) := by decide +kernel
theorem dX8_collects_173 : decode cX8_collects 173 = .ok (.iload_n 1, 1) := by decide +kernel
theorem dX8_collects_174 : decode cX8_collects 174 = .ok (.istore 4, 2) := by decide +kernel
theorem dX8_collects_176 : decode cX8_collects 176 = .ok (.iload 4, 2) := by decide +kernel
theorem dX8_collects_178 : decode cX8_collects 178 = .ok (.iload_n 2, 1) := by decide +kernel
theorem dX8_collects_179 : decode cX8_collects 179 = .ok (.if_icmp .ge 28, 3) := by decide +kernel
theorem dX8_collects_182 : decode cX8_collects 182 = .ok (.aload_n 0, 1) := by decide +kernel
theorem dX8_collects_183 : decode cX8_collects 183 = .ok (.getfield 7, 3) := by decide +kernel
theorem dX8_collects_186 : decode cX8_collects 186 = .ok (.sipush 218, 3) := by decide +kernel
theorem dX8_collects_189 : decode cX8_collects 189 = .ok (.iload 4, 2) := by decide +kernel
theorem dX8_collects_191 : decode cX8_collects 191 = .ok (.iadd, 1) := by decide +kernel
theorem dX8_collects_192 : decode cX8_collects 192 = .ok (.iload_n 1, 1) := by decide +kernel
theorem dX8_collects_193 : decode cX8_collects 193 = .ok (.isub, 1) := by decide +kernel
theorem dX8_collects_194 : decode cX8_collects 194 = .ok (.aload_n 0, 1) := by decide +kernel
theorem dX8_collects_195 : decode cX8_collects 195 = .ok (.iload 4, 2) := by decide +kernel
theorem dX8_collects_197 : decode cX8_collects 197 = .ok (.invokevirtual 36, 3) := by decide +kernel
theorem dX8_collects_200 : decode cX8_collects 200 = .ok (.iastore, 1) := by decide +kernel
theorem dX8_collects_201 : decode cX8_collects 201 = .ok (.iinc 4 1, 3) := by decide +kernel
theorem dX8_collects_204 : decode cX8_collects 204 = .ok (.goto (-28), 3) := by decide +kernel
theorem dX8_collects_207 : decode cX8_collects 207 = .ok (.aload_n 0, 1) := by decide +kernel
theorem dX8_collects_208 : decode cX8_collects 208 = .ok (.getfield 7, 3) := by decide +kernel
theorem dX8_collects_211 : decode cX8_collects 211 = .ok (.iconst 4, 1) := by decide +kernel
theorem dX8_collects_212 : decode cX8_collects 212 = .ok (.iconst 0, 1) := by decide +kernel
theorem dX8_collects_213 : decode cX8_collects 213 = .ok (.iastore, 1) := by decide +kernel
theorem dX8_collects_214 : decode cX8_collects 214 = .ok (.return_, 1) := by decide +kernel
theorem dX8_grows_0 : decode cX8_grows 0 = .ok (.iload_n 2, 1) := by decide +kernel
theorem dX8_grows_1 : decode cX8_grows 1 = .ok (.iload_n 1, 1) := by decide +kernel
theorem dX8_grows_2 : decode cX8_grows 2 = .ok (.isub, 1) := by decide +kernel
theorem dX8_grows_3 : decode cX8_grows 3 = .ok (.istore 4, 2) := by decide +kernel
theorem dX8_grows_5 : decode cX8_grows 5 = .ok (.aload_n 0, 1) := by decide +kernel
theorem dX8_grows_6 : decode cX8_grows 6 = .ok (.getfield 7, 3) := by decide +kernel
theorem dX8_grows_9 : decode cX8_grows 9 = .ok (.bipush 10, 2) := by decide +kernel
theorem dX8_grows_11 : decode cX8_grows 11 = .ok (.iaload, 1) := by decide +kernel
theorem dX8_grows_12 : decode cX8_grows 12 = .ok (.iconst 1, 1) := by decide +kernel
theorem dX8_grows_13 : decode cX8_grows 13 = .ok (.isub, 1) := by decide +kernel
theorem dX8_grows_14 : decode cX8_grows 14 = .ok (.istore 5, 2) := by decide +kernel
theorem dX8_grows_16 : decode cX8_grows 16 = .ok (.iload 5, 2) := by decide +kernel
theorem dX8_grows_18 : decode cX8_grows 18 = .ok (.ifCond .lt 38, 3) := by decide +kernel
theorem dX8_grows_21 : decode cX8_grows 21 = .ok (.iload_n 3, 1) := by decide +kernel
theorem dX8_grows_22 : decode cX8_grows 22 = .ok (.ifCond .eq 34, 3) := by decide +kernel
theorem dX8_grows_25 : decode cX8_grows 25 = .ok (.aload_n 0, 1) := by decide +kernel
theorem dX8_grows_26 : decode cX8_grows 26 = .ok (.getfield 7, 3) := by decide +kernel
theorem dX8_grows_29 : decode cX8_grows 29 = .ok (.sipush 218, 3) := by decide +kernel
theorem dX8_grows_32 : decode cX8_grows 32 = .ok (.iload 5, 2) := by decide +kernel
theorem dX8_grows_34 : decode cX8_grows 34 = .ok (.iadd, 1) := by decide +kernel
theorem dX8_grows_35 : decode cX8_grows 35 = .ok (.iload 4, 2) := by decide +kernel
theorem dX8_grows_37 : decode cX8_grows 37 = .ok (.iadd, 1) := by decide +kernel
theorem dX8_grows_38 : decode cX8_grows 38 = .ok (.aload_n 0, 1) := by decide +kernel
theorem dX8_grows_39 : decode cX8_grows 39 = .ok (.getfield 7, 3) := by decide +kernel
theorem dX8_grows_42 : decode cX8_grows 42 = .ok (.sipush 218, 3) := by decide +kernel
theorem dX8_grows_45 : decode cX8_grows 45 = .ok (.iload 5, 2) := by decide +kernel
theorem dX8_grows_47 : decode cX8_grows 47 = .ok (.iadd, 1) := by decide +kernel
theorem dX8_grows_48 : decode cX8_grows 48 = .ok (.iaload, 1) := by decide +kernel
theorem dX8_grows_49 : decode cX8_grows 49 = .ok (.iastore, 1) := by decide +kernel
theorem dX8_grows_50 : decode cX8_grows 50 = .ok (.iinc 5 (-1), 3) := by decide +kernel
theorem dX8_grows_53 : decode cX8_grows 53 = .ok (.goto (-37), 3) := by decide +kernel
theorem dX8_grows_56 : decode cX8_grows 56 = .ok (.iload_n 1, 1) := by decide +kernel
theorem dX8_grows_57 : decode cX8_grows 57 = .ok (.istore 5, 2) := by decide +kernel
theorem dX8_grows_59 : decode cX8_grows 59 = .ok (.iload 5, 2) := by decide +kernel
theorem dX8_grows_61 : decode cX8_grows 61 = .ok (.iload_n 2, 1) := by decide +kernel
theorem dX8_grows_62 : decode cX8_grows 62 = .ok (.if_icmp .ge 44, 3) := by decide +kernel
theorem dX8_grows_65 : decode cX8_grows 65 = .ok (.aload_n 0, 1) := by decide +kernel
theorem dX8_grows_66 : decode cX8_grows 66 = .ok (.getfield 7, 3) := by decide +kernel
theorem dX8_grows_69 : decode cX8_grows 69 = .ok (.sipush 218, 3) := by decide +kernel
theorem dX8_grows_72 : decode cX8_grows 72 = .ok (.iload_n 3, 1) := by decide +kernel
theorem dX8_grows_73 : decode cX8_grows 73 = .ok (.ifCond .eq 7, 3) := by decide +kernel
theorem dX8_grows_76 : decode cX8_grows 76 = .ok (.iconst 0, 1) := by decide +kernel
theorem dX8_grows_77 : decode cX8_grows 77 = .ok (.goto 10, 3) := by decide +kernel
theorem dX8_grows_80 : decode cX8_grows 80 = .ok (.aload_n 0, 1) := by decide +kernel
theorem dX8_grows_81 : decode cX8_grows 81 = .ok (.getfield 7, 3) := by decide +kernel
theorem dX8_grows_84 : decode cX8_grows 84 = .ok (.bipush 10, 2) := by decide +kernel
theorem dX8_grows_86 : decode cX8_grows 86 = .ok (.iaload, 1) := by decide +kernel
theorem dX8_grows_87 : decode cX8_grows 87 = .ok (.iadd, 1) := by decide +kernel
theorem dX8_grows_88 : decode cX8_grows 88 = .ok (.iload 5, 2) := by decide +kernel
theorem dX8_grows_90 : decode cX8_grows 90 = .ok (.iadd, 1) := by decide +kernel
theorem dX8_grows_91 : decode cX8_grows 91 = .ok (.iload_n 1, 1) := by decide +kernel
theorem dX8_grows_92 : decode cX8_grows 92 = .ok (.isub, 1) := by decide +kernel
theorem dX8_grows_93 : decode cX8_grows 93 = .ok (.aload_n 0, 1) := by decide +kernel
theorem dX8_grows_94 : decode cX8_grows 94 = .ok (.iload 5, 2) := by decide +kernel
theorem dX8_grows_96 : decode cX8_grows 96 = .ok (.invokevirtual 36, 3) := by decide +kernel
theorem dX8_grows_99 : decode cX8_grows 99 = .ok (.iastore, 1) := by decide +kernel
theorem dX8_grows_100 : decode cX8_grows 100 = .ok (.iinc 5 1, 3) := by decide +kernel
theorem dX8_grows_103 : decode cX8_grows 103 = .ok (.goto (-44), 3) := by decide +kernel
theorem dX8_grows_106 : decode cX8_grows 106 = .ok (.aload_n 0, 1) := by decide +kernel
theorem dX8_grows_107 : decode cX8_grows 107 = .ok (.getfield 7, 3) := by decide +kernel
theorem dX8_grows_110 : decode cX8_grows 110 = .ok (.bipush 10, 2) := by decide +kernel
theorem dX8_grows_112 : decode cX8_grows 112 = .ok (.dup2, 1) := by decide +kernel
theorem dX8_grows_113 : decode cX8_grows 113 = .ok (.iaload, 1) := by decide +kernel
theorem dX8_grows_114 : decode cX8_grows 114 = .ok (.iload 4, 2) := by decide +kernel
theorem dX8_grows_116 : decode cX8_grows 116 = .ok (.iadd, 1) := by decide +kernel
theorem dX8_grows_117 : decode cX8_grows 117 = .ok (.iastore, 1) := by decide +kernel
theorem dX8_grows_118 : decode cX8_grows 118 = .ok (.aload_n 0, 1) := by decide +kernel
theorem dX8_grows_119 : decode cX8_grows 119 = .ok (.getfield 7, 3) := by decide +kernel
theorem dX8_grows_122 : decode cX8_grows 122 = .ok (.iconst 4, 1) := by decide +kernel
theorem dX8_grows_123 : decode cX8_grows 123 = .ok (.iconst 0, 1) := by decide +kernel
theorem dX8_grows_124 : decode cX8_grows 124 = .ok (.iastore, 1) := by decide +kernel
theorem dX8_grows_125 : decode cX8_grows 125 = .ok (.return_, 1) := by decide +kernel
theorem dX8_kills_0 : decode cX8_kills 0 = .ok (.iload_n 1, 1) := by decide +kernel
theorem dX8_kills_1 : decode cX8_kills 1 = .ok (.iload_n 2, 1) := by decide +kernel
theorem dX8_kills_2 : decode cX8_kills 2 = .ok (.if_icmp .ne 5, 3) := by decide +kernel
theorem dX8_kills_5 : decode cX8_kills 5 = .ok (.iconst (-1), 1) := by decide +kernel
theorem dX8_kills_6 : decode cX8_kills 6 = .ok (.ireturn, 1) := by decide +kernel
theorem dX8_kills_7 : decode cX8_kills 7 = .ok (.aload_n 0, 1) := by decide +kernel
theorem dX8_kills_8 : decode cX8_kills 8 = .ok (.getfield 67, 3) := by decide +kernel
theorem dX8_kills_11 : decode cX8_kills 11 = .ok (.iconst 1, 1) := by decide +kernel
theorem dX8_kills_12 : decode cX8_kills 12 = .ok (.if_icmp .ne 13, 3) := by decide +kernel
theorem dX8_kills_15 : decode cX8_kills 15 = .ok (.aload_n 0, 1) := by decide +kernel
theorem dX8_kills_16 : decode cX8_kills 16 = .ok (.iload_n 1, 1) := by decide +kernel
theorem dX8_kills_17 : decode cX8_kills 17 = .ok (.iload_n 2, 1) := by decide +kernel
theorem dX8_kills_18 : decode cX8_kills 18 = .ok (.iload_n 3, 1) := by decide +kernel
theorem dX8_kills_19 : decode cX8_kills 19 = .ok (.invokevirtual 70, 3) := by decide +kernel
theorem dX8_kills_22 : decode cX8_kills 22 = .ok (.goto 9, 3) := by decide +kernel
theorem dX8_kills_25 : decode cX8_kills 25 = .ok (.aload_n 0, 1) := by decide +kernel
theorem dX8_kills_26 : decode cX8_kills 26 = .ok (.iload_n 1, 1) := by decide +kernel
theorem dX8_kills_27 : decode cX8_kills 27 = .ok (.iload_n 2, 1) := by decide +kernel
theorem dX8_kills_28 : decode cX8_kills 28 = .ok (.invokevirtual 74, 3) := by decide +kernel
theorem dX8_kills_31 : decode cX8_kills 31 = .ok (.aload_n 0, 1) := by decide +kernel
theorem dX8_kills_32 : decode cX8_kills 32 = .ok (.iload_n 1, 1) := by decide +kernel
theorem dX8_kills_33 : decode cX8_kills 33 = .ok (.iload_n 2, 1) := by decide +kernel
theorem dX8_kills_34 : decode cX8_kills 34 = .ok (.invokevirtual 55, 3) := by decide +kernel
theorem dX8_kills_37 : decode cX8_kills 37 = .ok (.aload_n 0, 1) := by decide +kernel
theorem dX8_kills_38 : decode cX8_kills 38 = .ok (.getfield 7, 3) := by decide +kernel
theorem dX8_kills_41 : decode cX8_kills 41 = .ok (.bipush 6, 2) := by decide +kernel
theorem dX8_kills_43 : decode cX8_kills 43 = .ok (.dup2, 1) := by decide +kernel
theorem dX8_kills_44 : decode cX8_kills 44 = .ok (.iaload, 1) := by decide +kernel
theorem dX8_kills_45 : decode cX8_kills 45 = .ok (.iload_n 2, 1) := by decide +kernel
theorem dX8_kills_46 : decode cX8_kills 46 = .ok (.iload_n 1, 1) := by decide +kernel
theorem dX8_kills_47 : decode cX8_kills 47 = .ok (.isub, 1) := by decide +kernel
theorem dX8_kills_48 : decode cX8_kills 48 = .ok (.iadd, 1) := by decide +kernel
theorem dX8_kills_49 : decode cX8_kills 49 = .ok (.iastore, 1) := by decide +kernel
theorem dX8_kills_50 : decode cX8_kills 50 = .ok (.iload_n 2, 1) := by decide +kernel
theorem dX8_kills_51 : decode cX8_kills 51 = .ok (.iload_n 1, 1) := by decide +kernel
theorem dX8_kills_52 : decode cX8_kills 52 = .ok (.isub, 1) := by decide +kernel
theorem dX8_kills_53 : decode cX8_kills 53 = .ok (.ireturn, 1) := by decide +kernel
theorem dX8_killsWord_0 : decode cX8_killsWord 0 = .ok (.aload_n 0, 1) := by decide +kernel
theorem dX8_killsWord_1 : decode cX8_killsWord 1 = .ok (.aload_n 0, 1) := by decide +kernel
theorem dX8_killsWord_2 : decode cX8_killsWord 2 = .ok (.getfield 7, 3) := by decide +kernel
theorem dX8_killsWord_5 : decode cX8_killsWord 5 = .ok (.iconst 1, 1) := by decide +kernel
theorem dX8_killsWord_6 : decode cX8_killsWord 6 = .ok (.iaload, 1) := by decide +kernel
theorem dX8_killsWord_7 : decode cX8_killsWord 7 = .ok (.aload_n 0, 1) := by decide +kernel
theorem dX8_killsWord_8 : decode cX8_killsWord 8 = .ok (.aload_n 0, 1) := by decide +kernel
theorem dX8_killsWord_9 : decode cX8_killsWord 9 = .ok (.getfield 7, 3) := by decide +kernel
theorem dX8_killsWord_12 : decode cX8_killsWord 12 = .ok (.iconst 1, 1) := by decide +kernel
theorem dX8_killsWord_13 : decode cX8_killsWord 13 = .ok (.iaload, 1) := by decide +kernel
theorem dX8_killsWord_14 : decode cX8_killsWord 14 = .ok (.invokevirtual 58, 3) := by decide +kernel
theorem dX8_killsWord_17 : decode cX8_killsWord 17 = .ok (.iconst 0, 1) := by decide +kernel
theorem dX8_killsWord_18 : decode cX8_killsWord 18 = .ok (.invokevirtual 77, 3) := by decide +kernel
theorem dX8_killsWord_21 : decode cX8_killsWord 21 = .ok (.ireturn, 1) := by decide +kernel
theorem dX8_killsBack_0 : decode cX8_killsBack 0 = .ok (.aload_n 0, 1) := by decide +kernel
theorem dX8_killsBack_1 : decode cX8_killsBack 1 = .ok (.aload_n 0, 1) := by decide +kernel
theorem dX8_killsBack_2 : decode cX8_killsBack 2 = .ok (.aload_n 0, 1) := by decide +kernel
theorem dX8_killsBack_3 : decode cX8_killsBack 3 = .ok (.getfield 7, 3) := by decide +kernel
theorem dX8_killsBack_6 : decode cX8_killsBack 6 = .ok (.iconst 1, 1) := by decide +kernel
theorem dX8_killsBack_7 : decode cX8_killsBack 7 = .ok (.iaload, 1) := by decide +kernel
theorem dX8_killsBack_8 : decode cX8_killsBack 8 = .ok (.invokevirtual 81, 3) := by decide +kernel
theorem dX8_killsBack_11 : decode cX8_killsBack 11 = .ok (.aload_n 0, 1) := by decide +kernel
theorem dX8_killsBack_12 : decode cX8_killsBack 12 = .ok (.getfield 7, 3) := by decide +kernel
theorem dX8_killsBack_15 : decode cX8_killsBack 15 = .ok (.iconst 1, 1) := by decide +kernel
theorem dX8_killsBack_16 : decode cX8_killsBack 16 = .ok (.iaload, 1) := by decide +kernel
theorem dX8_killsBack_17 : decode cX8_killsBack 17 = .ok (.iconst 1, 1) := by decide +kernel
theorem dX8_killsBack_18 : decode cX8_killsBack 18 = .ok (.invokevirtual 77, 3) := by decide +kernel
theorem dX8_killsBack_21 : decode cX8_killsBack 21 = .ok (.ireturn, 1) := by decide +kernel
theorem dX8_killsLine_0 : decode cX8_killsLine 0 = .ok (.aload_n 0, 1) := by decide +kernel
theorem dX8_killsLine_1 : decode cX8_killsLine 1 = .ok (.aload_n 0, 1) := by decide +kernel
theorem dX8_killsLine_2 : decode cX8_killsLine 2 = .ok (.getfield 7, 3) := by decide +kernel
theorem dX8_killsLine_5 : decode cX8_killsLine 5 = .ok (.iconst 1, 1) := by decide +kernel
theorem dX8_killsLine_6 : decode cX8_killsLine 6 = .ok (.iaload, 1) := by decide +kernel
theorem dX8_killsLine_7 : decode cX8_killsLine 7 = .ok (.invokevirtual 64, 3) := by decide +kernel
theorem dX8_killsLine_10 : decode cX8_killsLine 10 = .ok (.istore_n 1, 1) := by decide +kernel
theorem dX8_killsLine_11 : decode cX8_killsLine 11 = .ok (.aload_n 0, 1) := by decide +kernel
theorem dX8_killsLine_12 : decode cX8_killsLine 12 = .ok (.aload_n 0, 1) := by decide +kernel
theorem dX8_killsLine_13 : decode cX8_killsLine 13 = .ok (.getfield 7, 3) := by decide +kernel
theorem dX8_killsLine_16 : decode cX8_killsLine 16 = .ok (.iconst 1, 1) := by decide +kernel
theorem dX8_killsLine_17 : decode cX8_killsLine 17 = .ok (.iaload, 1) := by decide +kernel
theorem dX8_killsLine_18 : decode cX8_killsLine 18 = .ok (.iload_n 1, 1) := by decide +kernel
theorem dX8_killsLine_19 : decode cX8_killsLine 19 = .ok (.aload_n 0, 1) := by decide +kernel
theorem dX8_killsLine_20 : decode cX8_killsLine 20 = .ok (.getfield 7, 3) := by decide +kernel
theorem dX8_killsLine_23 : decode cX8_killsLine 23 = .ok (.iconst 1, 1) := by decide +kernel
theorem dX8_killsLine_24 : decode cX8_killsLine 24 = .ok (.iaload, 1) := by decide +kernel
theorem dX8_killsLine_25 : decode cX8_killsLine 25 = .ok (.if_icmp .gt 13, 3) := by decide +kernel
theorem dX8_killsLine_28 : decode cX8_killsLine 28 = .ok (.iload_n 1, 1) := by decide +kernel
theorem dX8_killsLine_29 : decode cX8_killsLine 29 = .ok (.aload_n 0, 1) := by decide +kernel
theorem dX8_killsLine_30 : decode cX8_killsLine 30 = .ok (.getfield 7, 3) := by decide +kernel
theorem dX8_killsLine_33 : decode cX8_killsLine 33 = .ok (.iconst 0, 1) := by decide +kernel
theorem dX8_killsLine_34 : decode cX8_killsLine 34 = .ok (.iaload, 1) := by decide +kernel
theorem dX8_killsLine_35 : decode cX8_killsLine 35 = .ok (.if_icmp .ne 7, 3) := by decide +kernel
theorem dX8_killsLine_38 : decode cX8_killsLine 38 = .ok (.iload_n 1, 1) := by decide +kernel
theorem dX8_killsLine_39 : decode cX8_killsLine 39 = .ok (.goto 6, 3) := by decide +kernel
theorem dX8_killsLine_42 : decode cX8_killsLine 42 = .ok (.iload_n 1, 1) := by decide +kernel
theorem dX8_killsLine_43 : decode cX8_killsLine 43 = .ok (.iconst 1, 1) := by decide +kernel
theorem dX8_killsLine_44 : decode cX8_killsLine 44 = .ok (.iadd, 1) := by decide +kernel
theorem dX8_killsLine_45 : decode cX8_killsLine 45 = .ok (.iconst 0, 1) := by decide +kernel
theorem dX8_killsLine_46 : decode cX8_killsLine 46 = .ok (.invokevirtual 77, 3) := by decide +kernel
theorem dX8_killsLine_49 : decode cX8_killsLine 49 = .ok (.ireturn, 1) := by decide +kernel
theorem dX8_killsBetween_0 : decode cX8_killsBetween 0 = .ok (.aload_n 0, 1) := by decide +kernel
theorem dX8_killsBetween_1 : decode cX8_killsBetween 1 = .ok (.getfield 7, 3) := by decide +kernel
theorem dX8_killsBetween_4 : decode cX8_killsBetween 4 = .ok (.iconst 2, 1) := by decide +kernel
theorem dX8_killsBetween_5 : decode cX8_killsBetween 5 = .ok (.iaload, 1) := by decide +kernel
theorem dX8_killsBetween_6 : decode cX8_killsBetween 6 = .ok (.aload_n 0, 1) := by decide +kernel
theorem dX8_killsBetween_7 : decode cX8_killsBetween 7 = .ok (.getfield 7, 3) := by decide +kernel
theorem dX8_killsBetween_10 : decode cX8_killsBetween 10 = .ok (.iconst 1, 1) := by decide +kernel
theorem dX8_killsBetween_11 : decode cX8_killsBetween 11 = .ok (.iaload, 1) := by decide +kernel
theorem dX8_killsBetween_12 : decode cX8_killsBetween 12 = .ok (.if_icmp .le 7, 3) := by decide +kernel
theorem dX8_killsBetween_15 : decode cX8_killsBetween 15 = .ok (.iconst 1, 1) := by decide +kernel
theorem dX8_killsBetween_16 : decode cX8_killsBetween 16 = .ok (.goto 4, 3) := by decide +kernel
theorem dX8_killsBetween_19 : decode cX8_killsBetween 19 = .ok (.iconst 0, 1) := by decide +kernel
theorem dX8_killsBetween_20 : decode cX8_killsBetween 20 = .ok (.istore_n 1, 1) := by decide +kernel
theorem dX8_killsBetween_21 : decode cX8_killsBetween 21 = .ok (.aload_n 0, 1) := by decide +kernel
theorem dX8_killsBetween_22 : decode cX8_killsBetween 22 = .ok (.getfield 7, 3) := by decide +kernel
theorem dX8_killsBetween_25 : decode cX8_killsBetween 25 = .ok (.iconst 2, 1) := by decide +kernel
theorem dX8_killsBetween_26 : decode cX8_killsBetween 26 = .ok (.iaload, 1) := by decide +kernel
theorem dX8_killsBetween_27 : decode cX8_killsBetween 27 = .ok (.ifCond .ge 7, 3) := by decide +kernel
theorem dX8_killsBetween_30 : decode cX8_killsBetween 30 = .ok (.iconst (-1), 1) := by decide +kernel
theorem dX8_killsBetween_31 : decode cX8_killsBetween 31 = .ok (.goto 54, 3) := by decide +kernel
theorem dX8_killsBetween_34 : decode cX8_killsBetween 34 = .ok (.aload_n 0, 1) := by decide +kernel
theorem dX8_killsBetween_35 : decode cX8_killsBetween 35 = .ok (.iload_n 1, 1) := by decide +kernel
theorem dX8_killsBetween_36 : decode cX8_killsBetween 36 = .ok (.ifCond .eq 12, 3) := by decide +kernel
theorem dX8_killsBetween_39 : decode cX8_killsBetween 39 = .ok (.aload_n 0, 1) := by decide +kernel
theorem dX8_killsBetween_40 : decode cX8_killsBetween 40 = .ok (.getfield 7, 3) := by decide +kernel
theorem dX8_killsBetween_43 : decode cX8_killsBetween 43 = .ok (.iconst 1, 1) := by decide +kernel
theorem dX8_killsBetween_44 : decode cX8_killsBetween 44 = .ok (.iaload, 1) := by decide +kernel
theorem dX8_killsBetween_45 : decode cX8_killsBetween 45 = .ok (.goto 9, 3) := by decide +kernel
theorem dX8_killsBetween_48 : decode cX8_killsBetween 48 = .ok (.aload_n 0, 1) := by decide +kernel
theorem dX8_killsBetween_49 : decode cX8_killsBetween 49 = .ok (.getfield 7, 3) := by decide +kernel
theorem dX8_killsBetween_52 : decode cX8_killsBetween 52 = .ok (.iconst 2, 1) := by decide +kernel
theorem dX8_killsBetween_53 : decode cX8_killsBetween 53 = .ok (.iaload, 1) := by decide +kernel
theorem dX8_killsBetween_54 : decode cX8_killsBetween 54 = .ok (.iload_n 1, 1) := by decide +kernel
theorem dX8_killsBetween_55 : decode cX8_killsBetween 55 = .ok (.ifCond .eq 12, 3) := by decide +kernel
theorem dX8_killsBetween_58 : decode cX8_killsBetween 58 = .ok (.aload_n 0, 1) := by decide +kernel
theorem dX8_killsBetween_59 : decode cX8_killsBetween 59 = .ok (.getfield 7, 3) := by decide +kernel
theorem dX8_killsBetween_62 : decode cX8_killsBetween 62 = .ok (.iconst 2, 1) := by decide +kernel
theorem dX8_killsBetween_63 : decode cX8_killsBetween 63 = .ok (.iaload, 1) := by decide +kernel
theorem dX8_killsBetween_64 : decode cX8_killsBetween 64 = .ok (.goto 9, 3) := by decide +kernel
theorem dX8_killsBetween_67 : decode cX8_killsBetween 67 = .ok (.aload_n 0, 1) := by decide +kernel
theorem dX8_killsBetween_68 : decode cX8_killsBetween 68 = .ok (.getfield 7, 3) := by decide +kernel
theorem dX8_killsBetween_71 : decode cX8_killsBetween 71 = .ok (.iconst 1, 1) := by decide +kernel
theorem dX8_killsBetween_72 : decode cX8_killsBetween 72 = .ok (.iaload, 1) := by decide +kernel
theorem dX8_killsBetween_73 : decode cX8_killsBetween 73 = .ok (.iload_n 1, 1) := by decide +kernel
theorem dX8_killsBetween_74 : decode cX8_killsBetween 74 = .ok (.ifCond .ne 7, 3) := by decide +kernel
theorem dX8_killsBetween_77 : decode cX8_killsBetween 77 = .ok (.iconst 1, 1) := by decide +kernel
theorem dX8_killsBetween_78 : decode cX8_killsBetween 78 = .ok (.goto 4, 3) := by decide +kernel
theorem dX8_killsBetween_81 : decode cX8_killsBetween 81 = .ok (.iconst 0, 1) := by decide +kernel
theorem dX8_killsBetween_82 : decode cX8_killsBetween 82 = .ok (.invokevirtual 77, 3) := by decide +kernel
theorem dX8_killsBetween_85 : decode cX8_killsBetween 85 = .ok (.ireturn, 1) := by decide +kernel
theorem dX8_apart_0 : decode cX8_apart 0 = .ok (.aload_n 0, 1) := by decide +kernel
theorem dX8_apart_1 : decode cX8_apart 1 = .ok (.getfield 7, 3) := by decide +kernel
theorem dX8_apart_4 : decode cX8_apart 4 = .ok (.iconst 2, 1) := by decide +kernel
theorem dX8_apart_5 : decode cX8_apart 5 = .ok (.iaload, 1) := by decide +kernel
theorem dX8_apart_6 : decode cX8_apart 6 = .ok (.aload_n 0, 1) := by decide +kernel
theorem dX8_apart_7 : decode cX8_apart 7 = .ok (.getfield 7, 3) := by decide +kernel
theorem dX8_apart_10 : decode cX8_apart 10 = .ok (.iconst 1, 1) := by decide +kernel
theorem dX8_apart_11 : decode cX8_apart 11 = .ok (.iaload, 1) := by decide +kernel
theorem dX8_apart_12 : decode cX8_apart 12 = .ok (.if_icmp .le 19, 3) := by decide +kernel
theorem dX8_apart_15 : decode cX8_apart 15 = .ok (.aload_n 0, 1) := by decide +kernel
theorem dX8_apart_16 : decode cX8_apart 16 = .ok (.getfield 7, 3) := by decide +kernel
theorem dX8_apart_19 : decode cX8_apart 19 = .ok (.iconst 2, 1) := by decide +kernel
theorem dX8_apart_20 : decode cX8_apart 20 = .ok (.iaload, 1) := by decide +kernel
theorem dX8_apart_21 : decode cX8_apart 21 = .ok (.aload_n 0, 1) := by decide +kernel
theorem dX8_apart_22 : decode cX8_apart 22 = .ok (.getfield 7, 3) := by decide +kernel
theorem dX8_apart_25 : decode cX8_apart 25 = .ok (.iconst 1, 1) := by decide +kernel
theorem dX8_apart_26 : decode cX8_apart 26 = .ok (.iaload, 1) := by decide +kernel
theorem dX8_apart_27 : decode cX8_apart 27 = .ok (.isub, 1) := by decide +kernel
theorem dX8_apart_28 : decode cX8_apart 28 = .ok (.goto 16, 3) := by decide +kernel
theorem dX8_apart_31 : decode cX8_apart 31 = .ok (.aload_n 0, 1) := by decide +kernel
theorem dX8_apart_32 : decode cX8_apart 32 = .ok (.getfield 7, 3) := by decide +kernel
theorem dX8_apart_35 : decode cX8_apart 35 = .ok (.iconst 1, 1) := by decide +kernel
theorem dX8_apart_36 : decode cX8_apart 36 = .ok (.iaload, 1) := by decide +kernel
theorem dX8_apart_37 : decode cX8_apart 37 = .ok (.aload_n 0, 1) := by decide +kernel
theorem dX8_apart_38 : decode cX8_apart 38 = .ok (.getfield 7, 3) := by decide +kernel
theorem dX8_apart_41 : decode cX8_apart 41 = .ok (.iconst 2, 1) := by decide +kernel
theorem dX8_apart_42 : decode cX8_apart 42 = .ok (.iaload, 1) := by decide +kernel
theorem dX8_apart_43 : decode cX8_apart 43 = .ok (.isub, 1) := by decide +kernel
theorem dX8_apart_44 : decode cX8_apart 44 = .ok (.ireturn, 1) := by decide +kernel
theorem dX8_copiesBetween_0 : decode cX8_copiesBetween 0 = .ok (.aload_n 0, 1) := by decide +kernel
theorem dX8_copiesBetween_1 : decode cX8_copiesBetween 1 = .ok (.getfield 7, 3) := by decide +kernel
theorem dX8_copiesBetween_4 : decode cX8_copiesBetween 4 = .ok (.iconst 2, 1) := by decide +kernel
theorem dX8_copiesBetween_5 : decode cX8_copiesBetween 5 = .ok (.iaload, 1) := by decide +kernel
theorem dX8_copiesBetween_6 : decode cX8_copiesBetween 6 = .ok (.ifCond .lt 18, 3) := by decide +kernel
theorem dX8_copiesBetween_9 : decode cX8_copiesBetween 9 = .ok (.aload_n 0, 1) := by decide +kernel
theorem dX8_copiesBetween_10 : decode cX8_copiesBetween 10 = .ok (.getfield 7, 3) := by decide +kernel
theorem dX8_copiesBetween_13 : decode cX8_copiesBetween 13 = .ok (.iconst 2, 1) := by decide +kernel
theorem dX8_copiesBetween_14 : decode cX8_copiesBetween 14 = .ok (.iaload, 1) := by decide +kernel
theorem dX8_copiesBetween_15 : decode cX8_copiesBetween 15 = .ok (.aload_n 0, 1) := by decide +kernel
theorem dX8_copiesBetween_16 : decode cX8_copiesBetween 16 = .ok (.getfield 7, 3) := by decide +kernel
theorem dX8_copiesBetween_19 : decode cX8_copiesBetween 19 = .ok (.iconst 1, 1) := by decide +kernel
theorem dX8_copiesBetween_20 : decode cX8_copiesBetween 20 = .ok (.iaload, 1) := by decide +kernel
theorem dX8_copiesBetween_21 : decode cX8_copiesBetween 21 = .ok (.if_icmp .ne 5, 3) := by decide +kernel
theorem dX8_copiesBetween_24 : decode cX8_copiesBetween 24 = .ok (.iconst (-1), 1) := by decide +kernel
theorem dX8_copiesBetween_25 : decode cX8_copiesBetween 25 = .ok (.ireturn, 1) := by decide +kernel
theorem dX8_copiesBetween_26 : decode cX8_copiesBetween 26 = .ok (.aload_n 0, 1) := by decide +kernel
theorem dX8_copiesBetween_27 : decode cX8_copiesBetween 27 = .ok (.getfield 7, 3) := by decide +kernel
theorem dX8_copiesBetween_30 : decode cX8_copiesBetween 30 = .ok (.iconst 2, 1) := by decide +kernel
theorem dX8_copiesBetween_31 : decode cX8_copiesBetween 31 = .ok (.iaload, 1) := by decide +kernel
theorem dX8_copiesBetween_32 : decode cX8_copiesBetween 32 = .ok (.aload_n 0, 1) := by decide +kernel
theorem dX8_copiesBetween_33 : decode cX8_copiesBetween 33 = .ok (.getfield 7, 3) := by decide +kernel
theorem dX8_copiesBetween_36 : decode cX8_copiesBetween 36 = .ok (.iconst 1, 1) := by decide +kernel
theorem dX8_copiesBetween_37 : decode cX8_copiesBetween 37 = .ok (.iaload, 1) := by decide +kernel
theorem dX8_copiesBetween_38 : decode cX8_copiesBetween 38 = .ok (.if_icmp .le 7, 3) := by decide +kernel
theorem dX8_copiesBetween_41 : decode cX8_copiesBetween 41 = .ok (.iconst 1, 1) := by decide +kernel
theorem dX8_copiesBetween_42 : decode cX8_copiesBetween 42 = .ok (.goto 4, 3) := by decide +kernel
theorem dX8_copiesBetween_45 : decode cX8_copiesBetween 45 = .ok (.iconst 0, 1) := by decide +kernel
theorem dX8_copiesBetween_46 : decode cX8_copiesBetween 46 = .ok (.istore_n 1, 1) := by decide +kernel
theorem dX8_copiesBetween_47 : decode cX8_copiesBetween 47 = .ok (.aload_n 0, 1) := by decide +kernel
theorem dX8_copiesBetween_48 : decode cX8_copiesBetween 48 = .ok (.iload_n 1, 1) := by decide +kernel
theorem dX8_copiesBetween_49 : decode cX8_copiesBetween 49 = .ok (.ifCond .eq 12, 3) := by decide +kernel
theorem dX8_copiesBetween_52 : decode cX8_copiesBetween 52 = .ok (.aload_n 0, 1) := by decide +kernel
theorem dX8_copiesBetween_53 : decode cX8_copiesBetween 53 = .ok (.getfield 7, 3) := by decide +kernel
theorem dX8_copiesBetween_56 : decode cX8_copiesBetween 56 = .ok (.iconst 1, 1) := by decide +kernel
theorem dX8_copiesBetween_57 : decode cX8_copiesBetween 57 = .ok (.iaload, 1) := by decide +kernel
theorem dX8_copiesBetween_58 : decode cX8_copiesBetween 58 = .ok (.goto 9, 3) := by decide +kernel
theorem dX8_copiesBetween_61 : decode cX8_copiesBetween 61 = .ok (.aload_n 0, 1) := by decide +kernel
theorem dX8_copiesBetween_62 : decode cX8_copiesBetween 62 = .ok (.getfield 7, 3) := by decide +kernel
theorem dX8_copiesBetween_65 : decode cX8_copiesBetween 65 = .ok (.iconst 2, 1) := by decide +kernel
theorem dX8_copiesBetween_66 : decode cX8_copiesBetween 66 = .ok (.iaload, 1) := by decide +kernel
theorem dX8_copiesBetween_67 : decode cX8_copiesBetween 67 = .ok (.iload_n 1, 1) := by decide +kernel
theorem dX8_copiesBetween_68 : decode cX8_copiesBetween 68 = .ok (.ifCond .eq 12, 3) := by decide +kernel
theorem dX8_copiesBetween_71 : decode cX8_copiesBetween 71 = .ok (.aload_n 0, 1) := by decide +kernel
theorem dX8_copiesBetween_72 : decode cX8_copiesBetween 72 = .ok (.getfield 7, 3) := by decide +kernel
theorem dX8_copiesBetween_75 : decode cX8_copiesBetween 75 = .ok (.iconst 2, 1) := by decide +kernel
theorem dX8_copiesBetween_76 : decode cX8_copiesBetween 76 = .ok (.iaload, 1) := by decide +kernel
theorem dX8_copiesBetween_77 : decode cX8_copiesBetween 77 = .ok (.goto 9, 3) := by decide +kernel
theorem dX8_copiesBetween_80 : decode cX8_copiesBetween 80 = .ok (.aload_n 0, 1) := by decide +kernel
theorem dX8_copiesBetween_81 : decode cX8_copiesBetween 81 = .ok (.getfield 7, 3) := by decide +kernel
theorem dX8_copiesBetween_84 : decode cX8_copiesBetween 84 = .ok (.iconst 1, 1) := by decide +kernel
theorem dX8_copiesBetween_85 : decode cX8_copiesBetween 85 = .ok (.iaload, 1) := by decide +kernel
theorem dX8_copiesBetween_86 : decode cX8_copiesBetween 86 = .ok (.invokevirtual 74, 3) := by decide +kernel
theorem dX8_copiesBetween_89 : decode cX8_copiesBetween 89 = .ok (.aload_n 0, 1) := by decide +kernel
theorem dX8_copiesBetween_90 : decode cX8_copiesBetween 90 = .ok (.invokevirtual 84, 3) := by decide +kernel
theorem dX8_copiesBetween_93 : decode cX8_copiesBetween 93 = .ok (.ireturn, 1) := by decide +kernel
theorem dX8_yanks_0 : decode cX8_yanks 0 = .ok (.aload_n 0, 1) := by decide +kernel
theorem dX8_yanks_1 : decode cX8_yanks 1 = .ok (.getfield 7, 3) := by decide +kernel
theorem dX8_yanks_4 : decode cX8_yanks 4 = .ok (.bipush 10, 2) := by decide +kernel
theorem dX8_yanks_6 : decode cX8_yanks 6 = .ok (.aload_n 0, 1) := by decide +kernel
theorem dX8_yanks_7 : decode cX8_yanks 7 = .ok (.getfield 7, 3) := by decide +kernel
theorem dX8_yanks_10 : decode cX8_yanks 10 = .ok (.iconst 4, 1) := by decide +kernel
theorem dX8_yanks_11 : decode cX8_yanks 11 = .ok (.iaload, 1) := by decide +kernel
theorem dX8_yanks_12 : decode cX8_yanks 12 = .ok (.iadd, 1) := by decide +kernel
theorem dX8_yanks_13 : decode cX8_yanks 13 = .ok (.iaload, 1) := by decide +kernel
theorem dX8_yanks_14 : decode cX8_yanks 14 = .ok (.istore_n 1, 1) := by decide +kernel
theorem dX8_yanks_15 : decode cX8_yanks 15 = .ok (.aload_n 0, 1) := by decide +kernel
theorem dX8_yanks_16 : decode cX8_yanks 16 = .ok (.getfield 7, 3) := by decide +kernel
theorem dX8_yanks_19 : decode cX8_yanks 19 = .ok (.iconst 3, 1) := by decide +kernel
theorem dX8_yanks_20 : decode cX8_yanks 20 = .ok (.iaload, 1) := by decide +kernel
theorem dX8_yanks_21 : decode cX8_yanks 21 = .ok (.ifCond .eq 17, 3) := by decide +kernel
theorem dX8_yanks_24 : decode cX8_yanks 24 = .ok (.aload_n 0, 1) := by decide +kernel
theorem dX8_yanks_25 : decode cX8_yanks 25 = .ok (.getfield 7, 3) := by decide +kernel
theorem dX8_yanks_28 : decode cX8_yanks 28 = .ok (.iconst 0, 1) := by decide +kernel
theorem dX8_yanks_29 : decode cX8_yanks 29 = .ok (.iaload, 1) := by decide +kernel
theorem dX8_yanks_30 : decode cX8_yanks 30 = .ok (.iload_n 1, 1) := by decide +kernel
theorem dX8_yanks_31 : decode cX8_yanks 31 = .ok (.iadd, 1) := by decide +kernel
theorem dX8_yanks_32 : decode cX8_yanks 32 = .ok (.sipush 200, 3) := by decide +kernel
theorem dX8_yanks_35 : decode cX8_yanks 35 = .ok (.if_icmp .le 5, 3) := by decide +kernel
theorem dX8_yanks_38 : decode cX8_yanks 38 = .ok (.iconst (-1), 1) := by decide +kernel
theorem dX8_yanks_39 : decode cX8_yanks 39 = .ok (.ireturn, 1) := by decide +kernel
theorem dX8_yanks_40 : decode cX8_yanks 40 = .ok (.aload_n 0, 1) := by decide +kernel
theorem dX8_yanks_41 : decode cX8_yanks 41 = .ok (.iload_n 1, 1) := by decide +kernel
theorem dX8_yanks_42 : decode cX8_yanks 42 = .ok (.invokevirtual 51, 3) := by decide +kernel
theorem dX8_yanks_45 : decode cX8_yanks 45 = .ok (.iconst 0, 1) := by decide +kernel
theorem dX8_yanks_46 : decode cX8_yanks 46 = .ok (.istore_n 2, 1) := by decide +kernel
theorem dX8_yanks_47 : decode cX8_yanks 47 = .ok (.iload_n 2, 1) := by decide +kernel
theorem dX8_yanks_48 : decode cX8_yanks 48 = .ok (.iload_n 1, 1) := by decide +kernel
theorem dX8_yanks_49 : decode cX8_yanks 49 = .ok (.if_icmp .ge 46, 3) := by decide +kernel
theorem dX8_yanks_52 : decode cX8_yanks 52 = .ok (.aload_n 0, 1) := by decide +kernel
theorem dX8_yanks_53 : decode cX8_yanks 53 = .ok (.getfield 7, 3) := by decide +kernel
theorem dX8_yanks_56 : decode cX8_yanks 56 = .ok (.bipush 18, 2) := by decide +kernel
theorem dX8_yanks_58 : decode cX8_yanks 58 = .ok (.aload_n 0, 1) := by decide +kernel
theorem dX8_yanks_59 : decode cX8_yanks 59 = .ok (.getfield 7, 3) := by decide +kernel
theorem dX8_yanks_62 : decode cX8_yanks 62 = .ok (.iconst 1, 1) := by decide +kernel
theorem dX8_yanks_63 : decode cX8_yanks 63 = .ok (.iaload, 1) := by decide +kernel
theorem dX8_yanks_64 : decode cX8_yanks 64 = .ok (.iadd, 1) := by decide +kernel
theorem dX8_yanks_65 : decode cX8_yanks 65 = .ok (.iload_n 2, 1) := by decide +kernel
theorem dX8_yanks_66 : decode cX8_yanks 66 = .ok (.iadd, 1) := by decide +kernel
theorem dX8_yanks_67 : decode cX8_yanks 67 = .ok (.aload_n 0, 1) := by decide +kernel
theorem dX8_yanks_68 : decode cX8_yanks 68 = .ok (.getfield 7, 3) := by decide +kernel
theorem dX8_yanks_71 : decode cX8_yanks 71 = .ok (.sipush 218, 3) := by decide +kernel
theorem dX8_yanks_74 : decode cX8_yanks 74 = .ok (.sipush 200, 3) := by decide +kernel
theorem dX8_yanks_77 : decode cX8_yanks 77 = .ok (.aload_n 0, 1) := by decide +kernel
theorem dX8_yanks_78 : decode cX8_yanks 78 = .ok (.getfield 7, 3) := by decide +kernel
theorem dX8_yanks_81 : decode cX8_yanks 81 = .ok (.iconst 4, 1) := by decide +kernel
theorem dX8_yanks_82 : decode cX8_yanks 82 = .ok (.iaload, 1) := by decide +kernel
theorem dX8_yanks_83 : decode cX8_yanks 83 = .ok (.imul, 1) := by decide +kernel
theorem dX8_yanks_84 : decode cX8_yanks 84 = .ok (.iadd, 1) := by decide +kernel
theorem dX8_yanks_85 : decode cX8_yanks 85 = .ok (.iload_n 2, 1) := by decide +kernel
theorem dX8_yanks_86 : decode cX8_yanks 86 = .ok (.iadd, 1) := by decide +kernel
theorem dX8_yanks_87 : decode cX8_yanks 87 = .ok (.iaload, 1) := by decide +kernel
theorem dX8_yanks_88 : decode cX8_yanks 88 = .ok (.iastore, 1) := by decide +kernel
theorem dX8_yanks_89 : decode cX8_yanks 89 = .ok (.iinc 2 1, 3) := by decide +kernel
theorem dX8_yanks_92 : decode cX8_yanks 92 = .ok (.goto (-45), 3) := by decide +kernel
theorem dX8_yanks_95 : decode cX8_yanks 95 = .ok (.aload_n 0, 1) := by decide +kernel
theorem dX8_yanks_96 : decode cX8_yanks 96 = .ok (.getfield 7, 3) := by decide +kernel
theorem dX8_yanks_99 : decode cX8_yanks 99 = .ok (.iconst 2, 1) := by decide +kernel
theorem dX8_yanks_100 : decode cX8_yanks 100 = .ok (.aload_n 0, 1) := by decide +kernel
theorem dX8_yanks_101 : decode cX8_yanks 101 = .ok (.getfield 7, 3) := by decide +kernel
theorem dX8_yanks_104 : decode cX8_yanks 104 = .ok (.iconst 1, 1) := by decide +kernel
theorem dX8_yanks_105 : decode cX8_yanks 105 = .ok (.iaload, 1) := by decide +kernel
theorem dX8_yanks_106 : decode cX8_yanks 106 = .ok (.iastore, 1) := by decide +kernel
theorem dX8_yanks_107 : decode cX8_yanks 107 = .ok (.aload_n 0, 1) := by decide +kernel
theorem dX8_yanks_108 : decode cX8_yanks 108 = .ok (.getfield 7, 3) := by decide +kernel
theorem dX8_yanks_111 : decode cX8_yanks 111 = .ok (.iconst 1, 1) := by decide +kernel
theorem dX8_yanks_112 : decode cX8_yanks 112 = .ok (.dup2, 1) := by decide +kernel
theorem dX8_yanks_113 : decode cX8_yanks 113 = .ok (.iaload, 1) := by decide +kernel
theorem dX8_yanks_114 : decode cX8_yanks 114 = .ok (.iload_n 1, 1) := by decide +kernel
theorem dX8_yanks_115 : decode cX8_yanks 115 = .ok (.iadd, 1) := by decide +kernel
theorem dX8_yanks_116 : decode cX8_yanks 116 = .ok (.iastore, 1) := by decide +kernel
theorem dX8_yanks_117 : decode cX8_yanks 117 = .ok (.aload_n 0, 1) := by decide +kernel
theorem dX8_yanks_118 : decode cX8_yanks 118 = .ok (.getfield 7, 3) := by decide +kernel
theorem dX8_yanks_121 : decode cX8_yanks 121 = .ok (.bipush 7, 2) := by decide +kernel
theorem dX8_yanks_123 : decode cX8_yanks 123 = .ok (.dup2, 1) := by decide +kernel
theorem dX8_yanks_124 : decode cX8_yanks 124 = .ok (.iaload, 1) := by decide +kernel
theorem dX8_yanks_125 : decode cX8_yanks 125 = .ok (.iload_n 1, 1) := by decide +kernel
theorem dX8_yanks_126 : decode cX8_yanks 126 = .ok (.iadd, 1) := by decide +kernel
theorem dX8_yanks_127 : decode cX8_yanks 127 = .ok (.iastore, 1) := by decide +kernel
theorem dX8_yanks_128 : decode cX8_yanks 128 = .ok (.iload_n 1, 1) := by decide +kernel
theorem dX8_yanks_129 : decode cX8_yanks 129 = .ok (.ireturn, 1) := by decide +kernel
theorem dX8_turns_0 : decode cX8_turns 0 = .ok (.aload_n 0, 1) := by decide +kernel
theorem dX8_turns_1 : decode cX8_turns 1 = .ok (.getfield 7, 3) := by decide +kernel
theorem dX8_turns_4 : decode cX8_turns 4 = .ok (.iconst 3, 1) := by decide +kernel
theorem dX8_turns_5 : decode cX8_turns 5 = .ok (.iaload, 1) := by decide +kernel
theorem dX8_turns_6 : decode cX8_turns 6 = .ok (.ifCond .ne 5, 3) := by decide +kernel
theorem dX8_turns_9 : decode cX8_turns 9 = .ok (.iconst (-1), 1) := by decide +kernel
theorem dX8_turns_10 : decode cX8_turns 10 = .ok (.ireturn, 1) := by decide +kernel
theorem dX8_turns_11 : decode cX8_turns 11 = .ok (.aload_n 0, 1) := by decide +kernel
theorem dX8_turns_12 : decode cX8_turns 12 = .ok (.getfield 7, 3) := by decide +kernel
theorem dX8_turns_15 : decode cX8_turns 15 = .ok (.iconst 4, 1) := by decide +kernel
theorem dX8_turns_16 : decode cX8_turns 16 = .ok (.aload_n 0, 1) := by decide +kernel
theorem dX8_turns_17 : decode cX8_turns 17 = .ok (.getfield 7, 3) := by decide +kernel
theorem dX8_turns_20 : decode cX8_turns 20 = .ok (.iconst 4, 1) := by decide +kernel
theorem dX8_turns_21 : decode cX8_turns 21 = .ok (.iaload, 1) := by decide +kernel
theorem dX8_turns_22 : decode cX8_turns 22 = .ok (.iload_n 1, 1) := by decide +kernel
theorem dX8_turns_23 : decode cX8_turns 23 = .ok (.iadd, 1) := by decide +kernel
theorem dX8_turns_24 : decode cX8_turns 24 = .ok (.bipush 40, 2) := by decide +kernel
theorem dX8_turns_26 : decode cX8_turns 26 = .ok (.aload_n 0, 1) := by decide +kernel
theorem dX8_turns_27 : decode cX8_turns 27 = .ok (.getfield 7, 3) := by decide +kernel
theorem dX8_turns_30 : decode cX8_turns 30 = .ok (.iconst 3, 1) := by decide +kernel
theorem dX8_turns_31 : decode cX8_turns 31 = .ok (.iaload, 1) := by decide +kernel
theorem dX8_turns_32 : decode cX8_turns 32 = .ok (.imul, 1) := by decide +kernel
theorem dX8_turns_33 : decode cX8_turns 33 = .ok (.iadd, 1) := by decide +kernel
theorem dX8_turns_34 : decode cX8_turns 34 = .ok (.aload_n 0, 1) := by decide +kernel
theorem dX8_turns_35 : decode cX8_turns 35 = .ok (.getfield 7, 3) := by decide +kernel
theorem dX8_turns_38 : decode cX8_turns 38 = .ok (.iconst 3, 1) := by decide +kernel
theorem dX8_turns_39 : decode cX8_turns 39 = .ok (.iaload, 1) := by decide +kernel
theorem dX8_turns_40 : decode cX8_turns 40 = .ok (.irem, 1) := by decide +kernel
theorem dX8_turns_41 : decode cX8_turns 41 = .ok (.iastore, 1) := by decide +kernel
theorem dX8_turns_42 : decode cX8_turns 42 = .ok (.aload_n 0, 1) := by decide +kernel
theorem dX8_turns_43 : decode cX8_turns 43 = .ok (.getfield 7, 3) := by decide +kernel
theorem dX8_turns_46 : decode cX8_turns 46 = .ok (.iconst 4, 1) := by decide +kernel
theorem dX8_turns_47 : decode cX8_turns 47 = .ok (.iaload, 1) := by decide +kernel
theorem dX8_turns_48 : decode cX8_turns 48 = .ok (.ireturn, 1) := by decide +kernel
theorem dX8_yanksOther_0 : decode cX8_yanksOther 0 = .ok (.aload_n 0, 1) := by decide +kernel
theorem dX8_yanksOther_1 : decode cX8_yanksOther 1 = .ok (.getfield 67, 3) := by decide +kernel
theorem dX8_yanksOther_4 : decode cX8_yanksOther 4 = .ok (.iconst 2, 1) := by decide +kernel
theorem dX8_yanksOther_5 : decode cX8_yanksOther 5 = .ok (.if_icmp .eq 5, 3) := by decide +kernel
theorem dX8_yanksOther_8 : decode cX8_yanksOther 8 = .ok (.iconst (-1), 1) := by decide +kernel
theorem dX8_yanksOther_9 : decode cX8_yanksOther 9 = .ok (.ireturn, 1) := by decide +kernel
theorem dX8_yanksOther_10 : decode cX8_yanksOther 10 = .ok (.aload_n 0, 1) := by decide +kernel
theorem dX8_yanksOther_11 : decode cX8_yanksOther 11 = .ok (.getfield 7, 3) := by decide +kernel
theorem dX8_yanksOther_14 : decode cX8_yanksOther 14 = .ok (.bipush 10, 2) := by decide +kernel
theorem dX8_yanksOther_16 : decode cX8_yanksOther 16 = .ok (.aload_n 0, 1) := by decide +kernel
theorem dX8_yanksOther_17 : decode cX8_yanksOther 17 = .ok (.getfield 7, 3) := by decide +kernel
theorem dX8_yanksOther_20 : decode cX8_yanksOther 20 = .ok (.iconst 4, 1) := by decide +kernel
theorem dX8_yanksOther_21 : decode cX8_yanksOther 21 = .ok (.iaload, 1) := by decide +kernel
theorem dX8_yanksOther_22 : decode cX8_yanksOther 22 = .ok (.iconst 1, 1) := by decide +kernel
theorem dX8_yanksOther_23 : decode cX8_yanksOther 23 = .ok (.iadd, 1) := by decide +kernel
theorem dX8_yanksOther_24 : decode cX8_yanksOther 24 = .ok (.aload_n 0, 1) := by decide +kernel
theorem dX8_yanksOther_25 : decode cX8_yanksOther 25 = .ok (.getfield 7, 3) := by decide +kernel
theorem dX8_yanksOther_28 : decode cX8_yanksOther 28 = .ok (.iconst 3, 1) := by decide +kernel
theorem dX8_yanksOther_29 : decode cX8_yanksOther 29 = .ok (.iaload, 1) := by decide +kernel
theorem dX8_yanksOther_30 : decode cX8_yanksOther 30 = .ok (.irem, 1) := by decide +kernel
theorem dX8_yanksOther_31 : decode cX8_yanksOther 31 = .ok (.iadd, 1) := by decide +kernel
theorem dX8_yanksOther_32 : decode cX8_yanksOther 32 = .ok (.iaload, 1) := by decide +kernel
theorem dX8_yanksOther_33 : decode cX8_yanksOther 33 = .ok (.istore_n 1, 1) := by decide +kernel
theorem dX8_yanksOther_34 : decode cX8_yanksOther 34 = .ok (.aload_n 0, 1) := by decide +kernel
theorem dX8_yanksOther_35 : decode cX8_yanksOther 35 = .ok (.getfield 7, 3) := by decide +kernel
theorem dX8_yanksOther_38 : decode cX8_yanksOther 38 = .ok (.iconst 0, 1) := by decide +kernel
theorem dX8_yanksOther_39 : decode cX8_yanksOther 39 = .ok (.iaload, 1) := by decide +kernel
theorem dX8_yanksOther_40 : decode cX8_yanksOther 40 = .ok (.aload_n 0, 1) := by decide +kernel
theorem dX8_yanksOther_41 : decode cX8_yanksOther 41 = .ok (.invokevirtual 84, 3) := by decide +kernel
theorem dX8_yanksOther_44 : decode cX8_yanksOther 44 = .ok (.isub, 1) := by decide +kernel
theorem dX8_yanksOther_45 : decode cX8_yanksOther 45 = .ok (.iload_n 1, 1) := by decide +kernel
theorem dX8_yanksOther_46 : decode cX8_yanksOther 46 = .ok (.iadd, 1) := by decide +kernel
theorem dX8_yanksOther_47 : decode cX8_yanksOther 47 = .ok (.sipush 200, 3) := by decide +kernel
theorem dX8_yanksOther_50 : decode cX8_yanksOther 50 = .ok (.if_icmp .le 5, 3) := by decide +kernel
theorem dX8_yanksOther_53 : decode cX8_yanksOther 53 = .ok (.iconst (-1), 1) := by decide +kernel
theorem dX8_yanksOther_54 : decode cX8_yanksOther 54 = .ok (.ireturn, 1) := by decide +kernel
theorem dX8_yanksOther_55 : decode cX8_yanksOther 55 = .ok (.aload_n 0, 1) := by decide +kernel
theorem dX8_yanksOther_56 : decode cX8_yanksOther 56 = .ok (.aload_n 0, 1) := by decide +kernel
theorem dX8_yanksOther_57 : decode cX8_yanksOther 57 = .ok (.getfield 7, 3) := by decide +kernel
theorem dX8_yanksOther_60 : decode cX8_yanksOther 60 = .ok (.iconst 2, 1) := by decide +kernel
theorem dX8_yanksOther_61 : decode cX8_yanksOther 61 = .ok (.iaload, 1) := by decide +kernel
theorem dX8_yanksOther_62 : decode cX8_yanksOther 62 = .ok (.aload_n 0, 1) := by decide +kernel
theorem dX8_yanksOther_63 : decode cX8_yanksOther 63 = .ok (.getfield 7, 3) := by decide +kernel
theorem dX8_yanksOther_66 : decode cX8_yanksOther 66 = .ok (.iconst 1, 1) := by decide +kernel
theorem dX8_yanksOther_67 : decode cX8_yanksOther 67 = .ok (.iaload, 1) := by decide +kernel
theorem dX8_yanksOther_68 : decode cX8_yanksOther 68 = .ok (.invokevirtual 55, 3) := by decide +kernel
theorem dX8_yanksOther_71 : decode cX8_yanksOther 71 = .ok (.aload_n 0, 1) := by decide +kernel
theorem dX8_yanksOther_72 : decode cX8_yanksOther 72 = .ok (.iconst 1, 1) := by decide +kernel
theorem dX8_yanksOther_73 : decode cX8_yanksOther 73 = .ok (.invokevirtual 88, 3) := by decide +kernel
theorem dX8_yanksOther_76 : decode cX8_yanksOther 76 = .ok (.pop, 1) := by decide +kernel
theorem dX8_yanksOther_77 : decode cX8_yanksOther 77 = .ok (.aload_n 0, 1) := by decide +kernel
theorem dX8_yanksOther_78 : decode cX8_yanksOther 78 = .ok (.invokevirtual 91, 3) := by decide +kernel
theorem dX8_yanksOther_81 : decode cX8_yanksOther 81 = .ok (.ireturn, 1) := by decide +kernel
theorem dX8_does_0 : decode cX8_does 0 = .ok (.iload_n 1, 1) := by decide +kernel
theorem dX8_does_1 : decode cX8_does 1 = .ok (.lookupswitch 223 #[(66, 148), (70, 133), (87, 208), (97, 163), (98, 120), (101, 178), (102, 107), (107, 213), (109, 193), (114, 218), (119, 203), (120, 198)], 107) := by decide +kernel
theorem dX8_does_108 : decode cX8_does 108 = .ok (.aload_n 0, 1) := by decide +kernel
theorem dX8_does_109 : decode cX8_does 109 = .ok (.aload_n 0, 1) := by decide +kernel
theorem dX8_does_110 : decode cX8_does 110 = .ok (.getfield 7, 3) := by decide +kernel
theorem dX8_does_113 : decode cX8_does 113 = .ok (.iconst 1, 1) := by decide +kernel
theorem dX8_does_114 : decode cX8_does 114 = .ok (.iaload, 1) := by decide +kernel
theorem dX8_does_115 : decode cX8_does 115 = .ok (.iconst 1, 1) := by decide +kernel
theorem dX8_does_116 : decode cX8_does 116 = .ok (.iadd, 1) := by decide +kernel
theorem dX8_does_117 : decode cX8_does 117 = .ok (.invokevirtual 94, 3) := by decide +kernel
theorem dX8_does_120 : decode cX8_does 120 = .ok (.ireturn, 1) := by decide +kernel
theorem dX8_does_121 : decode cX8_does 121 = .ok (.aload_n 0, 1) := by decide +kernel
theorem dX8_does_122 : decode cX8_does 122 = .ok (.aload_n 0, 1) := by decide +kernel
theorem dX8_does_123 : decode cX8_does 123 = .ok (.getfield 7, 3) := by decide +kernel
theorem dX8_does_126 : decode cX8_does 126 = .ok (.iconst 1, 1) := by decide +kernel
theorem dX8_does_127 : decode cX8_does 127 = .ok (.iaload, 1) := by decide +kernel
theorem dX8_does_128 : decode cX8_does 128 = .ok (.iconst 1, 1) := by decide +kernel
theorem dX8_does_129 : decode cX8_does 129 = .ok (.isub, 1) := by decide +kernel
theorem dX8_does_130 : decode cX8_does 130 = .ok (.invokevirtual 94, 3) := by decide +kernel
theorem dX8_does_133 : decode cX8_does 133 = .ok (.ireturn, 1) := by decide +kernel
theorem dX8_does_134 : decode cX8_does 134 = .ok (.aload_n 0, 1) := by decide +kernel
theorem dX8_does_135 : decode cX8_does 135 = .ok (.aload_n 0, 1) := by decide +kernel
theorem dX8_does_136 : decode cX8_does 136 = .ok (.aload_n 0, 1) := by decide +kernel
theorem dX8_does_137 : decode cX8_does 137 = .ok (.getfield 7, 3) := by decide +kernel
theorem dX8_does_140 : decode cX8_does 140 = .ok (.iconst 1, 1) := by decide +kernel
theorem dX8_does_141 : decode cX8_does 141 = .ok (.iaload, 1) := by decide +kernel
theorem dX8_does_142 : decode cX8_does 142 = .ok (.invokevirtual 58, 3) := by decide +kernel
theorem dX8_does_145 : decode cX8_does 145 = .ok (.invokevirtual 94, 3) := by decide +kernel
theorem dX8_does_148 : decode cX8_does 148 = .ok (.ireturn, 1) := by decide +kernel
theorem dX8_does_149 : decode cX8_does 149 = .ok (.aload_n 0, 1) := by decide +kernel
theorem dX8_does_150 : decode cX8_does 150 = .ok (.aload_n 0, 1) := by decide +kernel
theorem dX8_does_151 : decode cX8_does 151 = .ok (.aload_n 0, 1) := by decide +kernel
theorem dX8_does_152 : decode cX8_does 152 = .ok (.getfield 7, 3) := by decide +kernel
theorem dX8_does_155 : decode cX8_does 155 = .ok (.iconst 1, 1) := by decide +kernel
theorem dX8_does_156 : decode cX8_does 156 = .ok (.iaload, 1) := by decide +kernel
theorem dX8_does_157 : decode cX8_does 157 = .ok (.invokevirtual 81, 3) := by decide +kernel
theorem dX8_does_160 : decode cX8_does 160 = .ok (.invokevirtual 94, 3) := by decide +kernel
theorem dX8_does_163 : decode cX8_does 163 = .ok (.ireturn, 1) := by decide +kernel
theorem dX8_does_164 : decode cX8_does 164 = .ok (.aload_n 0, 1) := by decide +kernel
theorem dX8_does_165 : decode cX8_does 165 = .ok (.aload_n 0, 1) := by decide +kernel
theorem dX8_does_166 : decode cX8_does 166 = .ok (.aload_n 0, 1) := by decide +kernel
theorem dX8_does_167 : decode cX8_does 167 = .ok (.getfield 7, 3) := by decide +kernel
theorem dX8_does_170 : decode cX8_does 170 = .ok (.iconst 1, 1) := by decide +kernel
theorem dX8_does_171 : decode cX8_does 171 = .ok (.iaload, 1) := by decide +kernel
theorem dX8_does_172 : decode cX8_does 172 = .ok (.invokevirtual 61, 3) := by decide +kernel
theorem dX8_does_175 : decode cX8_does 175 = .ok (.invokevirtual 94, 3) := by decide +kernel
theorem dX8_does_178 : decode cX8_does 178 = .ok (.ireturn, 1) := by decide +kernel
theorem dX8_does_179 : decode cX8_does 179 = .ok (.aload_n 0, 1) := by decide +kernel
theorem dX8_does_180 : decode cX8_does 180 = .ok (.aload_n 0, 1) := by decide +kernel
theorem dX8_does_181 : decode cX8_does 181 = .ok (.aload_n 0, 1) := by decide +kernel
theorem dX8_does_182 : decode cX8_does 182 = .ok (.getfield 7, 3) := by decide +kernel
theorem dX8_does_185 : decode cX8_does 185 = .ok (.iconst 1, 1) := by decide +kernel
theorem dX8_does_186 : decode cX8_does 186 = .ok (.iaload, 1) := by decide +kernel
theorem dX8_does_187 : decode cX8_does 187 = .ok (.invokevirtual 64, 3) := by decide +kernel
theorem dX8_does_190 : decode cX8_does 190 = .ok (.invokevirtual 94, 3) := by decide +kernel
theorem dX8_does_193 : decode cX8_does 193 = .ok (.ireturn, 1) := by decide +kernel
theorem dX8_does_194 : decode cX8_does 194 = .ok (.aload_n 0, 1) := by decide +kernel
theorem dX8_does_195 : decode cX8_does 195 = .ok (.invokevirtual 97, 3) := by decide +kernel
theorem dX8_does_198 : decode cX8_does 198 = .ok (.ireturn, 1) := by decide +kernel
theorem dX8_does_199 : decode cX8_does 199 = .ok (.aload_n 0, 1) := by decide +kernel
theorem dX8_does_200 : decode cX8_does 200 = .ok (.invokevirtual 100, 3) := by decide +kernel
theorem dX8_does_203 : decode cX8_does 203 = .ok (.ireturn, 1) := by decide +kernel
theorem dX8_does_204 : decode cX8_does 204 = .ok (.aload_n 0, 1) := by decide +kernel
theorem dX8_does_205 : decode cX8_does 205 = .ok (.invokevirtual 103, 3) := by decide +kernel
theorem dX8_does_208 : decode cX8_does 208 = .ok (.ireturn, 1) := by decide +kernel
theorem dX8_does_209 : decode cX8_does 209 = .ok (.aload_n 0, 1) := by decide +kernel
theorem dX8_does_210 : decode cX8_does 210 = .ok (.invokevirtual 106, 3) := by decide +kernel
theorem dX8_does_213 : decode cX8_does 213 = .ok (.ireturn, 1) := by decide +kernel
theorem dX8_does_214 : decode cX8_does 214 = .ok (.aload_n 0, 1) := by decide +kernel
theorem dX8_does_215 : decode cX8_does 215 = .ok (.invokevirtual 109, 3) := by decide +kernel
theorem dX8_does_218 : decode cX8_does 218 = .ok (.ireturn, 1) := by decide +kernel
theorem dX8_does_219 : decode cX8_does 219 = .ok (.aload_n 0, 1) := by decide +kernel
theorem dX8_does_220 : decode cX8_does 220 = .ok (.invokevirtual 112, 3) := by decide +kernel
theorem dX8_does_223 : decode cX8_does 223 = .ok (.ireturn, 1) := by decide +kernel
theorem dX8_does_224 : decode cX8_does 224 = .ok (.aload_n 0, 1) := by decide +kernel
theorem dX8_does_225 : decode cX8_does 225 = .ok (.iload_n 1, 1) := by decide +kernel
theorem dX8_does_226 : decode cX8_does 226 = .ok (.iload_n 2, 1) := by decide +kernel
theorem dX8_does_227 : decode cX8_does 227 = .ok (.invokevirtual 115, 3) := by decide +kernel
theorem dX8_does_230 : decode cX8_does 230 = .ok (.ireturn, 1) := by decide +kernel
theorem dX8_doesMore_0 : decode cX8_doesMore 0 = .ok (.iload_n 1, 1) := by decide +kernel
theorem dX8_doesMore_1 : decode cX8_doesMore 1 = .ok (.tableswitch 173 95 121 #[166, 173, 173, 173, 123, 173, 173, 173, 154, 173, 173, 173, 173, 173, 173, 159, 173, 133, 173, 173, 149, 138, 144, 173, 173, 173, 128], 123) := by decide +kernel
theorem dX8_doesMore_124 : decode cX8_doesMore 124 = .ok (.aload_n 0, 1) := by decide +kernel
theorem dX8_doesMore_125 : decode cX8_doesMore 125 = .ok (.invokevirtual 119, 3) := by decide +kernel
theorem dX8_doesMore_128 : decode cX8_doesMore 128 = .ok (.ireturn, 1) := by decide +kernel
theorem dX8_doesMore_129 : decode cX8_doesMore 129 = .ok (.aload_n 0, 1) := by decide +kernel
theorem dX8_doesMore_130 : decode cX8_doesMore 130 = .ok (.invokevirtual 91, 3) := by decide +kernel
theorem dX8_doesMore_133 : decode cX8_doesMore 133 = .ok (.ireturn, 1) := by decide +kernel
theorem dX8_doesMore_134 : decode cX8_doesMore 134 = .ok (.aload_n 0, 1) := by decide +kernel
theorem dX8_doesMore_135 : decode cX8_doesMore 135 = .ok (.invokevirtual 122, 3) := by decide +kernel
theorem dX8_doesMore_138 : decode cX8_doesMore 138 = .ok (.ireturn, 1) := by decide +kernel
theorem dX8_doesMore_139 : decode cX8_doesMore 139 = .ok (.aload_n 0, 1) := by decide +kernel
theorem dX8_doesMore_140 : decode cX8_doesMore 140 = .ok (.iconst 1, 1) := by decide +kernel
theorem dX8_doesMore_141 : decode cX8_doesMore 141 = .ok (.invokevirtual 88, 3) := by decide +kernel
theorem dX8_doesMore_144 : decode cX8_doesMore 144 = .ok (.ireturn, 1) := by decide +kernel
theorem dX8_doesMore_145 : decode cX8_doesMore 145 = .ok (.aload_n 0, 1) := by decide +kernel
theorem dX8_doesMore_146 : decode cX8_doesMore 146 = .ok (.invokevirtual 125, 3) := by decide +kernel
theorem dX8_doesMore_149 : decode cX8_doesMore 149 = .ok (.ireturn, 1) := by decide +kernel
theorem dX8_doesMore_150 : decode cX8_doesMore 150 = .ok (.aload_n 0, 1) := by decide +kernel
theorem dX8_doesMore_151 : decode cX8_doesMore 151 = .ok (.invokevirtual 128, 3) := by decide +kernel
theorem dX8_doesMore_154 : decode cX8_doesMore 154 = .ok (.ireturn, 1) := by decide +kernel
theorem dX8_doesMore_155 : decode cX8_doesMore 155 = .ok (.aload_n 0, 1) := by decide +kernel
theorem dX8_doesMore_156 : decode cX8_doesMore 156 = .ok (.invokevirtual 131, 3) := by decide +kernel
theorem dX8_doesMore_159 : decode cX8_doesMore 159 = .ok (.ireturn, 1) := by decide +kernel
theorem dX8_doesMore_160 : decode cX8_doesMore 160 = .ok (.aload_n 0, 1) := by decide +kernel
theorem dX8_doesMore_161 : decode cX8_doesMore 161 = .ok (.bipush 10, 2) := by decide +kernel
theorem dX8_doesMore_163 : decode cX8_doesMore 163 = .ok (.invokevirtual 134, 3) := by decide +kernel
theorem dX8_doesMore_166 : decode cX8_doesMore 166 = .ok (.ireturn, 1) := by decide +kernel
theorem dX8_doesMore_167 : decode cX8_doesMore 167 = .ok (.aload_n 0, 1) := by decide +kernel
theorem dX8_doesMore_168 : decode cX8_doesMore 168 = .ok (.bipush 32, 2) := by decide +kernel
theorem dX8_doesMore_170 : decode cX8_doesMore 170 = .ok (.invokevirtual 134, 3) := by decide +kernel
theorem dX8_doesMore_173 : decode cX8_doesMore 173 = .ok (.ireturn, 1) := by decide +kernel
theorem dX8_doesMore_174 : decode cX8_doesMore 174 = .ok (.aload_n 0, 1) := by decide +kernel
theorem dX8_doesMore_175 : decode cX8_doesMore 175 = .ok (.iload_n 2, 1) := by decide +kernel
theorem dX8_doesMore_176 : decode cX8_doesMore 176 = .ok (.invokevirtual 134, 3) := by decide +kernel
theorem dX8_doesMore_179 : decode cX8_doesMore 179 = .ok (.ireturn, 1) := by decide +kernel
theorem dX8_kindOf_0 : decode cX8_kindOf 0 = .ok (.iload_n 0, 1) := by decide +kernel
theorem dX8_kindOf_1 : decode cX8_kindOf 1 = .ok (.bipush 119, 2) := by decide +kernel
theorem dX8_kindOf_3 : decode cX8_kindOf 3 = .ok (.if_icmp .eq 21, 3) := by decide +kernel
theorem dX8_kindOf_6 : decode cX8_kindOf 6 = .ok (.iload_n 0, 1) := by decide +kernel
theorem dX8_kindOf_7 : decode cX8_kindOf 7 = .ok (.bipush 87, 2) := by decide +kernel
theorem dX8_kindOf_9 : decode cX8_kindOf 9 = .ok (.if_icmp .eq 15, 3) := by decide +kernel
theorem dX8_kindOf_12 : decode cX8_kindOf 12 = .ok (.iload_n 0, 1) := by decide +kernel
theorem dX8_kindOf_13 : decode cX8_kindOf 13 = .ok (.bipush 107, 2) := by decide +kernel
theorem dX8_kindOf_15 : decode cX8_kindOf 15 = .ok (.if_icmp .eq 9, 3) := by decide +kernel
theorem dX8_kindOf_18 : decode cX8_kindOf 18 = .ok (.iload_n 0, 1) := by decide +kernel
theorem dX8_kindOf_19 : decode cX8_kindOf 19 = .ok (.bipush 114, 2) := by decide +kernel
theorem dX8_kindOf_21 : decode cX8_kindOf 21 = .ok (.if_icmp .ne 7, 3) := by decide +kernel
theorem dX8_kindOf_24 : decode cX8_kindOf 24 = .ok (.iconst 1, 1) := by decide +kernel
theorem dX8_kindOf_25 : decode cX8_kindOf 25 = .ok (.goto 20, 3) := by decide +kernel
theorem dX8_kindOf_28 : decode cX8_kindOf 28 = .ok (.iload_n 0, 1) := by decide +kernel
theorem dX8_kindOf_29 : decode cX8_kindOf 29 = .ok (.bipush 121, 2) := by decide +kernel
theorem dX8_kindOf_31 : decode cX8_kindOf 31 = .ok (.if_icmp .eq 9, 3) := by decide +kernel
theorem dX8_kindOf_34 : decode cX8_kindOf 34 = .ok (.iload_n 0, 1) := by decide +kernel
theorem dX8_kindOf_35 : decode cX8_kindOf 35 = .ok (.bipush 112, 2) := by decide +kernel
theorem dX8_kindOf_37 : decode cX8_kindOf 37 = .ok (.if_icmp .ne 7, 3) := by decide +kernel
theorem dX8_kindOf_40 : decode cX8_kindOf 40 = .ok (.iconst 2, 1) := by decide +kernel
theorem dX8_kindOf_41 : decode cX8_kindOf 41 = .ok (.goto 4, 3) := by decide +kernel
theorem dX8_kindOf_44 : decode cX8_kindOf 44 = .ok (.iconst 0, 1) := by decide +kernel
theorem dX8_kindOf_45 : decode cX8_kindOf 45 = .ok (.ireturn, 1) := by decide +kernel
theorem dX8_acts_0 : decode cX8_acts 0 = .ok (.aload_n 0, 1) := by decide +kernel
theorem dX8_acts_1 : decode cX8_acts 1 = .ok (.iconst 0, 1) := by decide +kernel
theorem dX8_acts_2 : decode cX8_acts 2 = .ok (.bipush 9, 2) := by decide +kernel
theorem dX8_acts_4 : decode cX8_acts 4 = .ok (.invokevirtual 28, 3) := by decide +kernel
theorem dX8_acts_7 : decode cX8_acts 7 = .ok (.aload_n 0, 1) := by decide +kernel
theorem dX8_acts_8 : decode cX8_acts 8 = .ok (.iload_n 1, 1) := by decide +kernel
theorem dX8_acts_9 : decode cX8_acts 9 = .ok (.iconst 0, 1) := by decide +kernel
theorem dX8_acts_10 : decode cX8_acts 10 = .ok (.invokevirtual 137, 3) := by decide +kernel
theorem dX8_acts_13 : decode cX8_acts 13 = .ok (.istore_n 2, 1) := by decide +kernel
theorem dX8_acts_14 : decode cX8_acts 14 = .ok (.iload_n 2, 1) := by decide +kernel
theorem dX8_acts_15 : decode cX8_acts 15 = .ok (.ifCond .ge 17, 3) := by decide +kernel
theorem dX8_acts_18 : decode cX8_acts 18 = .ok (.aload_n 0, 1) := by decide +kernel
theorem dX8_acts_19 : decode cX8_acts 19 = .ok (.bipush 9, 2) := by decide +kernel
theorem dX8_acts_21 : decode cX8_acts 21 = .ok (.iconst 0, 1) := by decide +kernel
theorem dX8_acts_22 : decode cX8_acts 22 = .ok (.invokevirtual 28, 3) := by decide +kernel
theorem dX8_acts_25 : decode cX8_acts 25 = .ok (.aload_n 0, 1) := by decide +kernel
theorem dX8_acts_26 : decode cX8_acts 26 = .ok (.iconst 1, 1) := by decide +kernel
theorem dX8_acts_27 : decode cX8_acts 27 = .ok (.putfield 21, 3) := by decide +kernel
theorem dX8_acts_30 : decode cX8_acts 30 = .ok (.iconst 0, 1) := by decide +kernel
theorem dX8_acts_31 : decode cX8_acts 31 = .ok (.ireturn, 1) := by decide +kernel
theorem dX8_acts_32 : decode cX8_acts 32 = .ok (.aload_n 0, 1) := by decide +kernel
theorem dX8_acts_33 : decode cX8_acts 33 = .ok (.invokevirtual 140, 3) := by decide +kernel
theorem dX8_acts_36 : decode cX8_acts 36 = .ok (.aload_n 0, 1) := by decide +kernel
theorem dX8_acts_37 : decode cX8_acts 37 = .ok (.iconst 0, 1) := by decide +kernel
theorem dX8_acts_38 : decode cX8_acts 38 = .ok (.putfield 21, 3) := by decide +kernel
theorem dX8_acts_41 : decode cX8_acts 41 = .ok (.aload_n 0, 1) := by decide +kernel
theorem dX8_acts_42 : decode cX8_acts 42 = .ok (.iload_n 1, 1) := by decide +kernel
theorem dX8_acts_43 : decode cX8_acts 43 = .ok (.invokestatic 143, 3) := by decide +kernel
theorem dX8_acts_46 : decode cX8_acts 46 = .ok (.putfield 67, 3) := by decide +kernel
theorem dX8_acts_49 : decode cX8_acts 49 = .ok (.iload_n 2, 1) := by decide +kernel
theorem dX8_acts_50 : decode cX8_acts 50 = .ok (.ireturn, 1) := by decide +kernel
theorem dX8_remembers_0 : decode cX8_remembers 0 = .ok (.aload_n 0, 1) := by decide +kernel
theorem dX8_remembers_1 : decode cX8_remembers 1 = .ok (.getfield 25, 3) := by decide +kernel
theorem dX8_remembers_4 : decode cX8_remembers 4 = .ok (.bipush 6, 2) := by decide +kernel
theorem dX8_remembers_6 : decode cX8_remembers 6 = .ok (.if_icmp .ne 35, 3) := by decide +kernel
theorem dX8_remembers_9 : decode cX8_remembers 9 = .ok (.iconst 1, 1) := by decide +kernel
theorem dX8_remembers_10 : decode cX8_remembers 10 = .ok (.istore_n 1, 1) := by decide +kernel
theorem dX8_remembers_11 : decode cX8_remembers 11 = .ok (.iload_n 1, 1) := by decide +kernel
theorem dX8_remembers_12 : decode cX8_remembers 12 = .ok (.bipush 6, 2) := by decide +kernel
theorem dX8_remembers_14 : decode cX8_remembers 14 = .ok (.if_icmp .ge 17, 3) := by decide +kernel
theorem dX8_remembers_17 : decode cX8_remembers 17 = .ok (.aload_n 0, 1) := by decide +kernel
theorem dX8_remembers_18 : decode cX8_remembers 18 = .ok (.iload_n 1, 1) := by decide +kernel
theorem dX8_remembers_19 : decode cX8_remembers 19 = .ok (.iconst 1, 1) := by decide +kernel
theorem dX8_remembers_20 : decode cX8_remembers 20 = .ok (.iadd, 1) := by decide +kernel
theorem dX8_remembers_21 : decode cX8_remembers 21 = .ok (.iload_n 1, 1) := by decide +kernel
theorem dX8_remembers_22 : decode cX8_remembers 22 = .ok (.invokevirtual 28, 3) := by decide +kernel
theorem dX8_remembers_25 : decode cX8_remembers 25 = .ok (.iinc 1 1, 3) := by decide +kernel
theorem dX8_remembers_28 : decode cX8_remembers 28 = .ok (.goto (-17), 3) := by decide +kernel
theorem dX8_remembers_31 : decode cX8_remembers 31 = .ok (.aload_n 0, 1) := by decide +kernel
theorem dX8_remembers_32 : decode cX8_remembers 32 = .ok (.dup, 1) := by decide +kernel
theorem dX8_remembers_33 : decode cX8_remembers 33 = .ok (.getfield 25, 3) := by decide +kernel
theorem dX8_remembers_36 : decode cX8_remembers 36 = .ok (.iconst 1, 1) := by decide +kernel
theorem dX8_remembers_37 : decode cX8_remembers 37 = .ok (.isub, 1) := by decide +kernel
theorem dX8_remembers_38 : decode cX8_remembers 38 = .ok (.putfield 25, 3) := by decide +kernel
theorem dX8_remembers_41 : decode cX8_remembers 41 = .ok (.aload_n 0, 1) := by decide +kernel
theorem dX8_remembers_42 : decode cX8_remembers 42 = .ok (.dup, 1) := by decide +kernel
theorem dX8_remembers_43 : decode cX8_remembers 43 = .ok (.getfield 25, 3) := by decide +kernel
theorem dX8_remembers_46 : decode cX8_remembers 46 = .ok (.iconst 1, 1) := by decide +kernel
theorem dX8_remembers_47 : decode cX8_remembers 47 = .ok (.iadd, 1) := by decide +kernel
theorem dX8_remembers_48 : decode cX8_remembers 48 = .ok (.putfield 25, 3) := by decide +kernel
theorem dX8_remembers_51 : decode cX8_remembers 51 = .ok (.aload_n 0, 1) := by decide +kernel
theorem dX8_remembers_52 : decode cX8_remembers 52 = .ok (.bipush 9, 2) := by decide +kernel
theorem dX8_remembers_54 : decode cX8_remembers 54 = .ok (.aload_n 0, 1) := by decide +kernel
theorem dX8_remembers_55 : decode cX8_remembers 55 = .ok (.getfield 25, 3) := by decide +kernel
theorem dX8_remembers_58 : decode cX8_remembers 58 = .ok (.invokevirtual 28, 3) := by decide +kernel
theorem dX8_remembers_61 : decode cX8_remembers 61 = .ok (.return_, 1) := by decide +kernel
theorem dX8_write_0 : decode cX8_write 0 = .ok (.iload_n 1, 1) := by decide +kernel
theorem dX8_write_1 : decode cX8_write 1 = .ok (.bipush 10, 2) := by decide +kernel
theorem dX8_write_3 : decode cX8_write 3 = .ok (.if_icmp .eq 14, 3) := by decide +kernel
theorem dX8_write_6 : decode cX8_write 6 = .ok (.iload_n 1, 1) := by decide +kernel
theorem dX8_write_7 : decode cX8_write 7 = .ok (.bipush 32, 2) := by decide +kernel
theorem dX8_write_9 : decode cX8_write 9 = .ok (.bipush 126, 2) := by decide +kernel
theorem dX8_write_11 : decode cX8_write 11 = .ok (.invokestatic 32, 3) := by decide +kernel
theorem dX8_write_14 : decode cX8_write 14 = .ok (.ifCond .eq 7, 3) := by decide +kernel
theorem dX8_write_17 : decode cX8_write 17 = .ok (.iconst 1, 1) := by decide +kernel
theorem dX8_write_18 : decode cX8_write 18 = .ok (.goto 4, 3) := by decide +kernel
theorem dX8_write_21 : decode cX8_write 21 = .ok (.iconst 0, 1) := by decide +kernel
theorem dX8_write_22 : decode cX8_write 22 = .ok (.istore_n 2, 1) := by decide +kernel
theorem dX8_write_23 : decode cX8_write 23 = .ok (.aload_n 0, 1) := by decide +kernel
theorem dX8_write_24 : decode cX8_write 24 = .ok (.iload_n 2, 1) := by decide +kernel
theorem dX8_write_25 : decode cX8_write 25 = .ok (.aload_n 0, 1) := by decide +kernel
theorem dX8_write_26 : decode cX8_write 26 = .ok (.getfield 7, 3) := by decide +kernel
theorem dX8_write_29 : decode cX8_write 29 = .ok (.iconst 0, 1) := by decide +kernel
theorem dX8_write_30 : decode cX8_write 30 = .ok (.iaload, 1) := by decide +kernel
theorem dX8_write_31 : decode cX8_write 31 = .ok (.sipush 200, 3) := by decide +kernel
theorem dX8_write_34 : decode cX8_write 34 = .ok (.if_icmp .ge 7, 3) := by decide +kernel
theorem dX8_write_37 : decode cX8_write 37 = .ok (.iconst 1, 1) := by decide +kernel
theorem dX8_write_38 : decode cX8_write 38 = .ok (.goto 4, 3) := by decide +kernel
theorem dX8_write_41 : decode cX8_write 41 = .ok (.iconst 0, 1) := by decide +kernel
theorem dX8_write_42 : decode cX8_write 42 = .ok (.iconst 1, 1) := by decide +kernel
theorem dX8_write_43 : decode cX8_write 43 = .ok (.invokevirtual 146, 3) := by decide +kernel
theorem dX8_write_46 : decode cX8_write 46 = .ok (.ifCond .ne 5, 3) := by decide +kernel
theorem dX8_write_49 : decode cX8_write 49 = .ok (.iconst 0, 1) := by decide +kernel
theorem dX8_write_50 : decode cX8_write 50 = .ok (.ireturn, 1) := by decide +kernel
theorem dX8_write_51 : decode cX8_write 51 = .ok (.aload_n 0, 1) := by decide +kernel
theorem dX8_write_52 : decode cX8_write 52 = .ok (.invokevirtual 150, 3) := by decide +kernel
theorem dX8_write_55 : decode cX8_write 55 = .ok (.aload_n 0, 1) := by decide +kernel
theorem dX8_write_56 : decode cX8_write 56 = .ok (.iconst 0, 1) := by decide +kernel
theorem dX8_write_57 : decode cX8_write 57 = .ok (.putfield 67, 3) := by decide +kernel
theorem dX8_write_60 : decode cX8_write 60 = .ok (.aload_n 0, 1) := by decide +kernel
theorem dX8_write_61 : decode cX8_write 61 = .ok (.iload_n 1, 1) := by decide +kernel
theorem dX8_write_62 : decode cX8_write 62 = .ok (.invokevirtual 134, 3) := by decide +kernel
theorem dX8_write_65 : decode cX8_write 65 = .ok (.ireturn, 1) := by decide +kernel
theorem dX8_rub_0 : decode cX8_rub 0 = .ok (.aload_n 0, 1) := by decide +kernel
theorem dX8_rub_1 : decode cX8_rub 1 = .ok (.bipush 117, 2) := by decide +kernel
theorem dX8_rub_3 : decode cX8_rub 3 = .ok (.invokevirtual 153, 3) := by decide +kernel
theorem dX8_rub_6 : decode cX8_rub 6 = .ok (.ireturn, 1) := by decide +kernel
theorem dX8_swap_0 : decode cX8_swap 0 = .ok (.aload_n 0, 1) := by decide +kernel
theorem dX8_swap_1 : decode cX8_swap 1 = .ok (.bipush 115, 2) := by decide +kernel
theorem dX8_swap_3 : decode cX8_swap 3 = .ok (.invokevirtual 153, 3) := by decide +kernel
theorem dX8_swap_6 : decode cX8_swap 6 = .ok (.ireturn, 1) := by decide +kernel
theorem dX8_greaten_0 : decode cX8_greaten 0 = .ok (.aload_n 0, 1) := by decide +kernel
theorem dX8_greaten_1 : decode cX8_greaten 1 = .ok (.bipush 103, 2) := by decide +kernel
theorem dX8_greaten_3 : decode cX8_greaten 3 = .ok (.invokevirtual 153, 3) := by decide +kernel
theorem dX8_greaten_6 : decode cX8_greaten 6 = .ok (.ireturn, 1) := by decide +kernel
theorem dX8_goTo_0 : decode cX8_goTo 0 = .ok (.aload_n 0, 1) := by decide +kernel
theorem dX8_goTo_1 : decode cX8_goTo 1 = .ok (.iload_n 1, 1) := by decide +kernel
theorem dX8_goTo_2 : decode cX8_goTo 2 = .ok (.iconst 0, 1) := by decide +kernel
theorem dX8_goTo_3 : decode cX8_goTo 3 = .ok (.aload_n 0, 1) := by decide +kernel
theorem dX8_goTo_4 : decode cX8_goTo 4 = .ok (.getfield 7, 3) := by decide +kernel
theorem dX8_goTo_7 : decode cX8_goTo 7 = .ok (.iconst 0, 1) := by decide +kernel
theorem dX8_goTo_8 : decode cX8_goTo 8 = .ok (.iaload, 1) := by decide +kernel
theorem dX8_goTo_9 : decode cX8_goTo 9 = .ok (.invokestatic 32, 3) := by decide +kernel
theorem dX8_goTo_12 : decode cX8_goTo 12 = .ok (.iconst 1, 1) := by decide +kernel
theorem dX8_goTo_13 : decode cX8_goTo 13 = .ok (.iconst 1, 1) := by decide +kernel
theorem dX8_goTo_14 : decode cX8_goTo 14 = .ok (.invokevirtual 146, 3) := by decide +kernel
theorem dX8_goTo_17 : decode cX8_goTo 17 = .ok (.ifCond .ne 5, 3) := by decide +kernel
theorem dX8_goTo_20 : decode cX8_goTo 20 = .ok (.iconst 0, 1) := by decide +kernel
theorem dX8_goTo_21 : decode cX8_goTo 21 = .ok (.ireturn, 1) := by decide +kernel
theorem dX8_goTo_22 : decode cX8_goTo 22 = .ok (.aload_n 0, 1) := by decide +kernel
theorem dX8_goTo_23 : decode cX8_goTo 23 = .ok (.invokevirtual 150, 3) := by decide +kernel
theorem dX8_goTo_26 : decode cX8_goTo 26 = .ok (.aload_n 0, 1) := by decide +kernel
theorem dX8_goTo_27 : decode cX8_goTo 27 = .ok (.iconst 0, 1) := by decide +kernel
theorem dX8_goTo_28 : decode cX8_goTo 28 = .ok (.putfield 67, 3) := by decide +kernel
theorem dX8_goTo_31 : decode cX8_goTo 31 = .ok (.aload_n 0, 1) := by decide +kernel
theorem dX8_goTo_32 : decode cX8_goTo 32 = .ok (.getfield 7, 3) := by decide +kernel
theorem dX8_goTo_35 : decode cX8_goTo 35 = .ok (.iconst 1, 1) := by decide +kernel
theorem dX8_goTo_36 : decode cX8_goTo 36 = .ok (.iaload, 1) := by decide +kernel
theorem dX8_goTo_37 : decode cX8_goTo 37 = .ok (.istore_n 2, 1) := by decide +kernel
theorem dX8_goTo_38 : decode cX8_goTo 38 = .ok (.aload_n 0, 1) := by decide +kernel
theorem dX8_goTo_39 : decode cX8_goTo 39 = .ok (.getfield 7, 3) := by decide +kernel
theorem dX8_goTo_42 : decode cX8_goTo 42 = .ok (.iconst 1, 1) := by decide +kernel
theorem dX8_goTo_43 : decode cX8_goTo 43 = .ok (.iload_n 1, 1) := by decide +kernel
theorem dX8_goTo_44 : decode cX8_goTo 44 = .ok (.iastore, 1) := by decide +kernel
theorem dX8_goTo_45 : decode cX8_goTo 45 = .ok (.iload_n 2, 1) := by decide +kernel
theorem dX8_goTo_46 : decode cX8_goTo 46 = .ok (.ireturn, 1) := by decide +kernel
theorem dX8_wordOn_0 : decode cX8_wordOn 0 = .ok (.aload_n 0, 1) := by decide +kernel
theorem dX8_wordOn_1 : decode cX8_wordOn 1 = .ok (.bipush 70, 2) := by decide +kernel
theorem dX8_wordOn_3 : decode cX8_wordOn 3 = .ok (.invokevirtual 153, 3) := by decide +kernel
theorem dX8_wordOn_6 : decode cX8_wordOn 6 = .ok (.ireturn, 1) := by decide +kernel
theorem dX8_wordBack_0 : decode cX8_wordBack 0 = .ok (.aload_n 0, 1) := by decide +kernel
theorem dX8_wordBack_1 : decode cX8_wordBack 1 = .ok (.bipush 66, 2) := by decide +kernel
theorem dX8_wordBack_3 : decode cX8_wordBack 3 = .ok (.invokevirtual 153, 3) := by decide +kernel
theorem dX8_wordBack_6 : decode cX8_wordBack 6 = .ok (.ireturn, 1) := by decide +kernel
theorem dX8_lineBegin_0 : decode cX8_lineBegin 0 = .ok (.aload_n 0, 1) := by decide +kernel
theorem dX8_lineBegin_1 : decode cX8_lineBegin 1 = .ok (.bipush 97, 2) := by decide +kernel
theorem dX8_lineBegin_3 : decode cX8_lineBegin 3 = .ok (.invokevirtual 153, 3) := by decide +kernel
theorem dX8_lineBegin_6 : decode cX8_lineBegin 6 = .ok (.ireturn, 1) := by decide +kernel
theorem dX8_lineEnd_0 : decode cX8_lineEnd 0 = .ok (.aload_n 0, 1) := by decide +kernel
theorem dX8_lineEnd_1 : decode cX8_lineEnd 1 = .ok (.bipush 101, 2) := by decide +kernel
theorem dX8_lineEnd_3 : decode cX8_lineEnd 3 = .ok (.invokevirtual 153, 3) := by decide +kernel
theorem dX8_lineEnd_6 : decode cX8_lineEnd 6 = .ok (.ireturn, 1) := by decide +kernel
theorem dX8_goLines_0 : decode cX8_goLines 0 = .ok (.iload_n 1, 1) := by decide +kernel
theorem dX8_goLines_1 : decode cX8_goLines 1 = .ok (.ifCond .eq 18, 3) := by decide +kernel
theorem dX8_goLines_4 : decode cX8_goLines 4 = .ok (.iload_n 1, 1) := by decide +kernel
theorem dX8_goLines_5 : decode cX8_goLines 5 = .ok (.bipush (-50), 2) := by decide +kernel
theorem dX8_goLines_7 : decode cX8_goLines 7 = .ok (.bipush 50, 2) := by decide +kernel
theorem dX8_goLines_9 : decode cX8_goLines 9 = .ok (.invokestatic 32, 3) := by decide +kernel
theorem dX8_goLines_12 : decode cX8_goLines 12 = .ok (.ifCond .eq 7, 3) := by decide +kernel
theorem dX8_goLines_15 : decode cX8_goLines 15 = .ok (.iconst 1, 1) := by decide +kernel
theorem dX8_goLines_16 : decode cX8_goLines 16 = .ok (.goto 4, 3) := by decide +kernel
theorem dX8_goLines_19 : decode cX8_goLines 19 = .ok (.iconst 0, 1) := by decide +kernel
theorem dX8_goLines_20 : decode cX8_goLines 20 = .ok (.istore_n 2, 1) := by decide +kernel
theorem dX8_goLines_21 : decode cX8_goLines 21 = .ok (.iload_n 2, 1) := by decide +kernel
theorem dX8_goLines_22 : decode cX8_goLines 22 = .ok (.ifCond .eq 11, 3) := by decide +kernel
theorem dX8_goLines_25 : decode cX8_goLines 25 = .ok (.aload_n 0, 1) := by decide +kernel
theorem dX8_goLines_26 : decode cX8_goLines 26 = .ok (.iload_n 1, 1) := by decide +kernel
theorem dX8_goLines_27 : decode cX8_goLines 27 = .ok (.invokevirtual 156, 3) := by decide +kernel
theorem dX8_goLines_30 : decode cX8_goLines 30 = .ok (.goto 4, 3) := by decide +kernel
theorem dX8_goLines_33 : decode cX8_goLines 33 = .ok (.iconst (-1), 1) := by decide +kernel
theorem dX8_goLines_34 : decode cX8_goLines 34 = .ok (.istore_n 3, 1) := by decide +kernel
theorem dX8_goLines_35 : decode cX8_goLines 35 = .ok (.aload_n 0, 1) := by decide +kernel
theorem dX8_goLines_36 : decode cX8_goLines 36 = .ok (.iload_n 2, 1) := by decide +kernel
theorem dX8_goLines_37 : decode cX8_goLines 37 = .ok (.iload_n 3, 1) := by decide +kernel
theorem dX8_goLines_38 : decode cX8_goLines 38 = .ok (.ifCond .lt 7, 3) := by decide +kernel
theorem dX8_goLines_41 : decode cX8_goLines 41 = .ok (.iconst 1, 1) := by decide +kernel
theorem dX8_goLines_42 : decode cX8_goLines 42 = .ok (.goto 4, 3) := by decide +kernel
theorem dX8_goLines_45 : decode cX8_goLines 45 = .ok (.iconst 0, 1) := by decide +kernel
theorem dX8_goLines_46 : decode cX8_goLines 46 = .ok (.iconst 1, 1) := by decide +kernel
theorem dX8_goLines_47 : decode cX8_goLines 47 = .ok (.invokevirtual 146, 3) := by decide +kernel
theorem dX8_goLines_50 : decode cX8_goLines 50 = .ok (.ifCond .ne 5, 3) := by decide +kernel
theorem dX8_goLines_53 : decode cX8_goLines 53 = .ok (.iconst 0, 1) := by decide +kernel
theorem dX8_goLines_54 : decode cX8_goLines 54 = .ok (.ireturn, 1) := by decide +kernel
theorem dX8_goLines_55 : decode cX8_goLines 55 = .ok (.aload_n 0, 1) := by decide +kernel
theorem dX8_goLines_56 : decode cX8_goLines 56 = .ok (.invokevirtual 150, 3) := by decide +kernel
theorem dX8_goLines_59 : decode cX8_goLines 59 = .ok (.aload_n 0, 1) := by decide +kernel
theorem dX8_goLines_60 : decode cX8_goLines 60 = .ok (.iconst 0, 1) := by decide +kernel
theorem dX8_goLines_61 : decode cX8_goLines 61 = .ok (.putfield 67, 3) := by decide +kernel
theorem dX8_goLines_64 : decode cX8_goLines 64 = .ok (.aload_n 0, 1) := by decide +kernel
theorem dX8_goLines_65 : decode cX8_goLines 65 = .ok (.getfield 7, 3) := by decide +kernel
theorem dX8_goLines_68 : decode cX8_goLines 68 = .ok (.iconst 1, 1) := by decide +kernel
theorem dX8_goLines_69 : decode cX8_goLines 69 = .ok (.iload_n 3, 1) := by decide +kernel
theorem dX8_goLines_70 : decode cX8_goLines 70 = .ok (.iastore, 1) := by decide +kernel
theorem dX8_goLines_71 : decode cX8_goLines 71 = .ok (.iload_n 3, 1) := by decide +kernel
theorem dX8_goLines_72 : decode cX8_goLines 72 = .ok (.ireturn, 1) := by decide +kernel
theorem dX8_mark_0 : decode cX8_mark 0 = .ok (.aload_n 0, 1) := by decide +kernel
theorem dX8_mark_1 : decode cX8_mark 1 = .ok (.bipush 109, 2) := by decide +kernel
theorem dX8_mark_3 : decode cX8_mark 3 = .ok (.invokevirtual 153, 3) := by decide +kernel
theorem dX8_mark_6 : decode cX8_mark 6 = .ok (.ireturn, 1) := by decide +kernel
theorem dX8_exchange_0 : decode cX8_exchange 0 = .ok (.aload_n 0, 1) := by decide +kernel
theorem dX8_exchange_1 : decode cX8_exchange 1 = .ok (.bipush 120, 2) := by decide +kernel
theorem dX8_exchange_3 : decode cX8_exchange 3 = .ok (.invokevirtual 153, 3) := by decide +kernel
theorem dX8_exchange_6 : decode cX8_exchange 6 = .ok (.ireturn, 1) := by decide +kernel
theorem dX8_isFoundAt_0 : decode cX8_isFoundAt 0 = .ok (.iload_n 1, 1) := by decide +kernel
theorem dX8_isFoundAt_1 : decode cX8_isFoundAt 1 = .ok (.aload_n 0, 1) := by decide +kernel
theorem dX8_isFoundAt_2 : decode cX8_isFoundAt 2 = .ok (.getfield 159, 3) := by decide +kernel
theorem dX8_isFoundAt_5 : decode cX8_isFoundAt 5 = .ok (.iadd, 1) := by decide +kernel
theorem dX8_isFoundAt_6 : decode cX8_isFoundAt 6 = .ok (.aload_n 0, 1) := by decide +kernel
theorem dX8_isFoundAt_7 : decode cX8_isFoundAt 7 = .ok (.getfield 7, 3) := by decide +kernel
theorem dX8_isFoundAt_10 : decode cX8_isFoundAt 10 = .ok (.iconst 0, 1) := by decide +kernel
theorem dX8_isFoundAt_11 : decode cX8_isFoundAt 11 = .ok (.iaload, 1) := by decide +kernel
theorem dX8_isFoundAt_12 : decode cX8_isFoundAt 12 = .ok (.if_icmp .gt 7, 3) := by decide +kernel
theorem dX8_isFoundAt_15 : decode cX8_isFoundAt 15 = .ok (.iconst 1, 1) := by decide +kernel
theorem dX8_isFoundAt_16 : decode cX8_isFoundAt 16 = .ok (.goto 4, 3) := by decide +kernel
theorem dX8_isFoundAt_19 : decode cX8_isFoundAt 19 = .ok (.iconst 0, 1) := by decide +kernel
theorem dX8_isFoundAt_20 : decode cX8_isFoundAt 20 = .ok (.istore_n 2, 1) := by decide +kernel
theorem dX8_isFoundAt_21 : decode cX8_isFoundAt 21 = .ok (.iconst 0, 1) := by decide +kernel
theorem dX8_isFoundAt_22 : decode cX8_isFoundAt 22 = .ok (.istore_n 3, 1) := by decide +kernel
theorem dX8_isFoundAt_23 : decode cX8_isFoundAt 23 = .ok (.iload_n 3, 1) := by decide +kernel
theorem dX8_isFoundAt_24 : decode cX8_isFoundAt 24 = .ok (.aload_n 0, 1) := by decide +kernel
theorem dX8_isFoundAt_25 : decode cX8_isFoundAt 25 = .ok (.getfield 159, 3) := by decide +kernel
theorem dX8_isFoundAt_28 : decode cX8_isFoundAt 28 = .ok (.if_icmp .ge 35, 3) := by decide +kernel
theorem dX8_isFoundAt_31 : decode cX8_isFoundAt 31 = .ok (.iload_n 2, 1) := by decide +kernel
theorem dX8_isFoundAt_32 : decode cX8_isFoundAt 32 = .ok (.ifCond .eq 31, 3) := by decide +kernel
theorem dX8_isFoundAt_35 : decode cX8_isFoundAt 35 = .ok (.aload_n 0, 1) := by decide +kernel
theorem dX8_isFoundAt_36 : decode cX8_isFoundAt 36 = .ok (.iload_n 1, 1) := by decide +kernel
theorem dX8_isFoundAt_37 : decode cX8_isFoundAt 37 = .ok (.iload_n 3, 1) := by decide +kernel
theorem dX8_isFoundAt_38 : decode cX8_isFoundAt 38 = .ok (.iadd, 1) := by decide +kernel
theorem dX8_isFoundAt_39 : decode cX8_isFoundAt 39 = .ok (.invokevirtual 36, 3) := by decide +kernel
theorem dX8_isFoundAt_42 : decode cX8_isFoundAt 42 = .ok (.aload_n 0, 1) := by decide +kernel
theorem dX8_isFoundAt_43 : decode cX8_isFoundAt 43 = .ok (.getfield 17, 3) := by decide +kernel
theorem dX8_isFoundAt_46 : decode cX8_isFoundAt 46 = .ok (.iload_n 3, 1) := by decide +kernel
theorem dX8_isFoundAt_47 : decode cX8_isFoundAt 47 = .ok (.caload, 1) := by decide +kernel
theorem dX8_isFoundAt_48 : decode cX8_isFoundAt 48 = .ok (.if_icmp .ne 7, 3) := by decide +kernel
theorem dX8_isFoundAt_51 : decode cX8_isFoundAt 51 = .ok (.iconst 1, 1) := by decide +kernel
theorem dX8_isFoundAt_52 : decode cX8_isFoundAt 52 = .ok (.goto 4, 3) := by decide +kernel
theorem dX8_isFoundAt_55 : decode cX8_isFoundAt 55 = .ok (.iconst 0, 1) := by decide +kernel
theorem dX8_isFoundAt_56 : decode cX8_isFoundAt 56 = .ok (.istore_n 2, 1) := by decide +kernel
theorem dX8_isFoundAt_57 : decode cX8_isFoundAt 57 = .ok (.iinc 3 1, 3) := by decide +kernel
theorem dX8_isFoundAt_60 : decode cX8_isFoundAt 60 = .ok (.goto (-37), 3) := by decide +kernel
theorem dX8_isFoundAt_63 : decode cX8_isFoundAt 63 = .ok (.iload_n 2, 1) := by decide +kernel
theorem dX8_isFoundAt_64 : decode cX8_isFoundAt 64 = .ok (.ireturn, 1) := by decide +kernel
theorem dX8_find_0 : decode cX8_find 0 = .ok (.aload_n 0, 1) := by decide +kernel
theorem dX8_find_1 : decode cX8_find 1 = .ok (.getfield 7, 3) := by decide +kernel
theorem dX8_find_4 : decode cX8_find 4 = .ok (.iconst 1, 1) := by decide +kernel
theorem dX8_find_5 : decode cX8_find 5 = .ok (.iaload, 1) := by decide +kernel
theorem dX8_find_6 : decode cX8_find 6 = .ok (.istore_n 1, 1) := by decide +kernel
theorem dX8_find_7 : decode cX8_find 7 = .ok (.iload_n 1, 1) := by decide +kernel
theorem dX8_find_8 : decode cX8_find 8 = .ok (.aload_n 0, 1) := by decide +kernel
theorem dX8_find_9 : decode cX8_find 9 = .ok (.getfield 7, 3) := by decide +kernel
theorem dX8_find_12 : decode cX8_find 12 = .ok (.iconst 0, 1) := by decide +kernel
theorem dX8_find_13 : decode cX8_find 13 = .ok (.iaload, 1) := by decide +kernel
theorem dX8_find_14 : decode cX8_find 14 = .ok (.if_icmp .gt 17, 3) := by decide +kernel
theorem dX8_find_17 : decode cX8_find 17 = .ok (.aload_n 0, 1) := by decide +kernel
theorem dX8_find_18 : decode cX8_find 18 = .ok (.iload_n 1, 1) := by decide +kernel
theorem dX8_find_19 : decode cX8_find 19 = .ok (.invokevirtual 162, 3) := by decide +kernel
theorem dX8_find_22 : decode cX8_find 22 = .ok (.ifCond .ne 9, 3) := by decide +kernel
theorem dX8_find_25 : decode cX8_find 25 = .ok (.iinc 1 1, 3) := by decide +kernel
theorem dX8_find_28 : decode cX8_find 28 = .ok (.goto (-21), 3) := by decide +kernel
theorem dX8_find_31 : decode cX8_find 31 = .ok (.aload_n 0, 1) := by decide +kernel
theorem dX8_find_32 : decode cX8_find 32 = .ok (.aload_n 0, 1) := by decide +kernel
theorem dX8_find_33 : decode cX8_find 33 = .ok (.getfield 159, 3) := by decide +kernel
theorem dX8_find_36 : decode cX8_find 36 = .ok (.ifCond .le 7, 3) := by decide +kernel
theorem dX8_find_39 : decode cX8_find 39 = .ok (.iconst 1, 1) := by decide +kernel
theorem dX8_find_40 : decode cX8_find 40 = .ok (.goto 4, 3) := by decide +kernel
theorem dX8_find_43 : decode cX8_find 43 = .ok (.iconst 0, 1) := by decide +kernel
theorem dX8_find_44 : decode cX8_find 44 = .ok (.iload_n 1, 1) := by decide +kernel
theorem dX8_find_45 : decode cX8_find 45 = .ok (.aload_n 0, 1) := by decide +kernel
theorem dX8_find_46 : decode cX8_find 46 = .ok (.getfield 7, 3) := by decide +kernel
theorem dX8_find_49 : decode cX8_find 49 = .ok (.iconst 0, 1) := by decide +kernel
theorem dX8_find_50 : decode cX8_find 50 = .ok (.iaload, 1) := by decide +kernel
theorem dX8_find_51 : decode cX8_find 51 = .ok (.if_icmp .gt 7, 3) := by decide +kernel
theorem dX8_find_54 : decode cX8_find 54 = .ok (.iconst 1, 1) := by decide +kernel
theorem dX8_find_55 : decode cX8_find 55 = .ok (.goto 4, 3) := by decide +kernel
theorem dX8_find_58 : decode cX8_find 58 = .ok (.iconst 0, 1) := by decide +kernel
theorem dX8_find_59 : decode cX8_find 59 = .ok (.iconst 1, 1) := by decide +kernel
theorem dX8_find_60 : decode cX8_find 60 = .ok (.invokevirtual 146, 3) := by decide +kernel
theorem dX8_find_63 : decode cX8_find 63 = .ok (.ifCond .ne 5, 3) := by decide +kernel
theorem dX8_find_66 : decode cX8_find 66 = .ok (.iconst 0, 1) := by decide +kernel
theorem dX8_find_67 : decode cX8_find 67 = .ok (.ireturn, 1) := by decide +kernel
theorem dX8_find_68 : decode cX8_find 68 = .ok (.aload_n 0, 1) := by decide +kernel
theorem dX8_find_69 : decode cX8_find 69 = .ok (.invokevirtual 150, 3) := by decide +kernel
theorem dX8_find_72 : decode cX8_find 72 = .ok (.aload_n 0, 1) := by decide +kernel
theorem dX8_find_73 : decode cX8_find 73 = .ok (.iconst 0, 1) := by decide +kernel
theorem dX8_find_74 : decode cX8_find 74 = .ok (.putfield 67, 3) := by decide +kernel
theorem dX8_find_77 : decode cX8_find 77 = .ok (.aload_n 0, 1) := by decide +kernel
theorem dX8_find_78 : decode cX8_find 78 = .ok (.getfield 7, 3) := by decide +kernel
theorem dX8_find_81 : decode cX8_find 81 = .ok (.iconst 1, 1) := by decide +kernel
theorem dX8_find_82 : decode cX8_find 82 = .ok (.iload_n 1, 1) := by decide +kernel
theorem dX8_find_83 : decode cX8_find 83 = .ok (.iastore, 1) := by decide +kernel
theorem dX8_find_84 : decode cX8_find 84 = .ok (.iload_n 1, 1) := by decide +kernel
theorem dX8_find_85 : decode cX8_find 85 = .ok (.ireturn, 1) := by decide +kernel
theorem dX8_killWord_0 : decode cX8_killWord 0 = .ok (.aload_n 0, 1) := by decide +kernel
theorem dX8_killWord_1 : decode cX8_killWord 1 = .ok (.bipush 119, 2) := by decide +kernel
theorem dX8_killWord_3 : decode cX8_killWord 3 = .ok (.invokevirtual 153, 3) := by decide +kernel
theorem dX8_killWord_6 : decode cX8_killWord 6 = .ok (.ireturn, 1) := by decide +kernel
theorem dX8_killBack_0 : decode cX8_killBack 0 = .ok (.aload_n 0, 1) := by decide +kernel
theorem dX8_killBack_1 : decode cX8_killBack 1 = .ok (.bipush 87, 2) := by decide +kernel
theorem dX8_killBack_3 : decode cX8_killBack 3 = .ok (.invokevirtual 153, 3) := by decide +kernel
theorem dX8_killBack_6 : decode cX8_killBack 6 = .ok (.ireturn, 1) := by decide +kernel
theorem dX8_killLine_0 : decode cX8_killLine 0 = .ok (.aload_n 0, 1) := by decide +kernel
theorem dX8_killLine_1 : decode cX8_killLine 1 = .ok (.bipush 107, 2) := by decide +kernel
theorem dX8_killLine_3 : decode cX8_killLine 3 = .ok (.invokevirtual 153, 3) := by decide +kernel
theorem dX8_killLine_6 : decode cX8_killLine 6 = .ok (.ireturn, 1) := by decide +kernel
theorem dX8_killBetween_0 : decode cX8_killBetween 0 = .ok (.aload_n 0, 1) := by decide +kernel
theorem dX8_killBetween_1 : decode cX8_killBetween 1 = .ok (.bipush 114, 2) := by decide +kernel
theorem dX8_killBetween_3 : decode cX8_killBetween 3 = .ok (.invokevirtual 153, 3) := by decide +kernel
theorem dX8_killBetween_6 : decode cX8_killBetween 6 = .ok (.ireturn, 1) := by decide +kernel
theorem dX8_copyBetween_0 : decode cX8_copyBetween 0 = .ok (.aload_n 0, 1) := by decide +kernel
theorem dX8_copyBetween_1 : decode cX8_copyBetween 1 = .ok (.bipush 99, 2) := by decide +kernel
theorem dX8_copyBetween_3 : decode cX8_copyBetween 3 = .ok (.invokevirtual 153, 3) := by decide +kernel
theorem dX8_copyBetween_6 : decode cX8_copyBetween 6 = .ok (.ireturn, 1) := by decide +kernel
theorem dX8_yank_0 : decode cX8_yank 0 = .ok (.aload_n 0, 1) := by decide +kernel
theorem dX8_yank_1 : decode cX8_yank 1 = .ok (.bipush 121, 2) := by decide +kernel
theorem dX8_yank_3 : decode cX8_yank 3 = .ok (.invokevirtual 153, 3) := by decide +kernel
theorem dX8_yank_6 : decode cX8_yank 6 = .ok (.ireturn, 1) := by decide +kernel
theorem dX8_yankOther_0 : decode cX8_yankOther 0 = .ok (.aload_n 0, 1) := by decide +kernel
theorem dX8_yankOther_1 : decode cX8_yankOther 1 = .ok (.bipush 112, 2) := by decide +kernel
theorem dX8_yankOther_3 : decode cX8_yankOther 3 = .ok (.invokevirtual 153, 3) := by decide +kernel
theorem dX8_yankOther_6 : decode cX8_yankOther 6 = .ok (.ireturn, 1) := by decide +kernel
theorem dX8_turn_0 : decode cX8_turn 0 = .ok (.iload_n 1, 1) := by decide +kernel
theorem dX8_turn_1 : decode cX8_turn 1 = .ok (.bipush (-20), 2) := by decide +kernel
theorem dX8_turn_3 : decode cX8_turn 3 = .ok (.bipush 20, 2) := by decide +kernel
theorem dX8_turn_5 : decode cX8_turn 5 = .ok (.invokestatic 32, 3) := by decide +kernel
theorem dX8_turn_8 : decode cX8_turn 8 = .ok (.istore_n 2, 1) := by decide +kernel
theorem dX8_turn_9 : decode cX8_turn 9 = .ok (.aload_n 0, 1) := by decide +kernel
theorem dX8_turn_10 : decode cX8_turn 10 = .ok (.iload_n 2, 1) := by decide +kernel
theorem dX8_turn_11 : decode cX8_turn 11 = .ok (.aload_n 0, 1) := by decide +kernel
theorem dX8_turn_12 : decode cX8_turn 12 = .ok (.getfield 7, 3) := by decide +kernel
theorem dX8_turn_15 : decode cX8_turn 15 = .ok (.iconst 3, 1) := by decide +kernel
theorem dX8_turn_16 : decode cX8_turn 16 = .ok (.iaload, 1) := by decide +kernel
theorem dX8_turn_17 : decode cX8_turn 17 = .ok (.ifCond .le 7, 3) := by decide +kernel
theorem dX8_turn_20 : decode cX8_turn 20 = .ok (.iconst 1, 1) := by decide +kernel
theorem dX8_turn_21 : decode cX8_turn 21 = .ok (.goto 4, 3) := by decide +kernel
theorem dX8_turn_24 : decode cX8_turn 24 = .ok (.iconst 0, 1) := by decide +kernel
theorem dX8_turn_25 : decode cX8_turn 25 = .ok (.iconst 1, 1) := by decide +kernel
theorem dX8_turn_26 : decode cX8_turn 26 = .ok (.invokevirtual 146, 3) := by decide +kernel
theorem dX8_turn_29 : decode cX8_turn 29 = .ok (.ifCond .ne 5, 3) := by decide +kernel
theorem dX8_turn_32 : decode cX8_turn 32 = .ok (.iconst 0, 1) := by decide +kernel
theorem dX8_turn_33 : decode cX8_turn 33 = .ok (.ireturn, 1) := by decide +kernel
theorem dX8_turn_34 : decode cX8_turn 34 = .ok (.aload_n 0, 1) := by decide +kernel
theorem dX8_turn_35 : decode cX8_turn 35 = .ok (.invokevirtual 150, 3) := by decide +kernel
theorem dX8_turn_38 : decode cX8_turn 38 = .ok (.aload_n 0, 1) := by decide +kernel
theorem dX8_turn_39 : decode cX8_turn 39 = .ok (.iconst 0, 1) := by decide +kernel
theorem dX8_turn_40 : decode cX8_turn 40 = .ok (.putfield 67, 3) := by decide +kernel
theorem dX8_turn_43 : decode cX8_turn 43 = .ok (.aload_n 0, 1) := by decide +kernel
theorem dX8_turn_44 : decode cX8_turn 44 = .ok (.iload_n 1, 1) := by decide +kernel
theorem dX8_turn_45 : decode cX8_turn 45 = .ok (.invokevirtual 88, 3) := by decide +kernel
theorem dX8_turn_48 : decode cX8_turn 48 = .ok (.ireturn, 1) := by decide +kernel
theorem dX8_changeCaves_0 : decode cX8_changeCaves 0 = .ok (.aload_n 0, 1) := by decide +kernel
theorem dX8_changeCaves_1 : decode cX8_changeCaves 1 = .ok (.iload_n 1, 1) := by decide +kernel
theorem dX8_changeCaves_2 : decode cX8_changeCaves 2 = .ok (.iconst 1, 1) := by decide +kernel
theorem dX8_changeCaves_3 : decode cX8_changeCaves 3 = .ok (.bipush 8, 2) := by decide +kernel
theorem dX8_changeCaves_5 : decode cX8_changeCaves 5 = .ok (.invokestatic 32, 3) := by decide +kernel
theorem dX8_changeCaves_8 : decode cX8_changeCaves 8 = .ok (.iconst 1, 1) := by decide +kernel
theorem dX8_changeCaves_9 : decode cX8_changeCaves 9 = .ok (.iconst 1, 1) := by decide +kernel
theorem dX8_changeCaves_10 : decode cX8_changeCaves 10 = .ok (.invokevirtual 146, 3) := by decide +kernel
theorem dX8_changeCaves_13 : decode cX8_changeCaves 13 = .ok (.ifCond .ne 5, 3) := by decide +kernel
theorem dX8_changeCaves_16 : decode cX8_changeCaves 16 = .ok (.iconst 0, 1) := by decide +kernel
theorem dX8_changeCaves_17 : decode cX8_changeCaves 17 = .ok (.ireturn, 1) := by decide +kernel
theorem dX8_changeCaves_18 : decode cX8_changeCaves 18 = .ok (.aload_n 0, 1) := by decide +kernel
theorem dX8_changeCaves_19 : decode cX8_changeCaves 19 = .ok (.invokevirtual 150, 3) := by decide +kernel
theorem dX8_changeCaves_22 : decode cX8_changeCaves 22 = .ok (.aload_n 0, 1) := by decide +kernel
theorem dX8_changeCaves_23 : decode cX8_changeCaves 23 = .ok (.iconst 0, 1) := by decide +kernel
theorem dX8_changeCaves_24 : decode cX8_changeCaves 24 = .ok (.putfield 67, 3) := by decide +kernel
theorem dX8_changeCaves_27 : decode cX8_changeCaves 27 = .ok (.aload_n 0, 1) := by decide +kernel
theorem dX8_changeCaves_28 : decode cX8_changeCaves 28 = .ok (.getfield 7, 3) := by decide +kernel
theorem dX8_changeCaves_31 : decode cX8_changeCaves 31 = .ok (.iconst 5, 1) := by decide +kernel
theorem dX8_changeCaves_32 : decode cX8_changeCaves 32 = .ok (.iaload, 1) := by decide +kernel
theorem dX8_changeCaves_33 : decode cX8_changeCaves 33 = .ok (.istore_n 2, 1) := by decide +kernel
theorem dX8_changeCaves_34 : decode cX8_changeCaves 34 = .ok (.aload_n 0, 1) := by decide +kernel
theorem dX8_changeCaves_35 : decode cX8_changeCaves 35 = .ok (.getfield 7, 3) := by decide +kernel
theorem dX8_changeCaves_38 : decode cX8_changeCaves 38 = .ok (.iconst 5, 1) := by decide +kernel
theorem dX8_changeCaves_39 : decode cX8_changeCaves 39 = .ok (.iload_n 1, 1) := by decide +kernel
theorem dX8_changeCaves_40 : decode cX8_changeCaves 40 = .ok (.iastore, 1) := by decide +kernel
theorem dX8_changeCaves_41 : decode cX8_changeCaves 41 = .ok (.aload_n 0, 1) := by decide +kernel
theorem dX8_changeCaves_42 : decode cX8_changeCaves 42 = .ok (.getfield 7, 3) := by decide +kernel
theorem dX8_changeCaves_45 : decode cX8_changeCaves 45 = .ok (.iconst 3, 1) := by decide +kernel
theorem dX8_changeCaves_46 : decode cX8_changeCaves 46 = .ok (.iaload, 1) := by decide +kernel
theorem dX8_changeCaves_47 : decode cX8_changeCaves 47 = .ok (.iload_n 1, 1) := by decide +kernel
theorem dX8_changeCaves_48 : decode cX8_changeCaves 48 = .ok (.if_icmp .le 54, 3) := by decide +kernel
theorem dX8_changeCaves_51 : decode cX8_changeCaves 51 = .ok (.aload_n 0, 1) := by decide +kernel
theorem dX8_changeCaves_52 : decode cX8_changeCaves 52 = .ok (.getfield 7, 3) := by decide +kernel
theorem dX8_changeCaves_55 : decode cX8_changeCaves 55 = .ok (.bipush 9, 2) := by decide +kernel
theorem dX8_changeCaves_57 : decode cX8_changeCaves 57 = .ok (.dup2, 1) := by decide +kernel
theorem dX8_changeCaves_58 : decode cX8_changeCaves 58 = .ok (.iaload, 1) := by decide +kernel
theorem dX8_changeCaves_59 : decode cX8_changeCaves 59 = .ok (.aload_n 0, 1) := by decide +kernel
theorem dX8_changeCaves_60 : decode cX8_changeCaves 60 = .ok (.getfield 7, 3) := by decide +kernel
theorem dX8_changeCaves_63 : decode cX8_changeCaves 63 = .ok (.iconst 3, 1) := by decide +kernel
theorem dX8_changeCaves_64 : decode cX8_changeCaves 64 = .ok (.iaload, 1) := by decide +kernel
theorem dX8_changeCaves_65 : decode cX8_changeCaves 65 = .ok (.iload_n 1, 1) := by decide +kernel
theorem dX8_changeCaves_66 : decode cX8_changeCaves 66 = .ok (.isub, 1) := by decide +kernel
theorem dX8_changeCaves_67 : decode cX8_changeCaves 67 = .ok (.iadd, 1) := by decide +kernel
theorem dX8_changeCaves_68 : decode cX8_changeCaves 68 = .ok (.iastore, 1) := by decide +kernel
theorem dX8_changeCaves_69 : decode cX8_changeCaves 69 = .ok (.aload_n 0, 1) := by decide +kernel
theorem dX8_changeCaves_70 : decode cX8_changeCaves 70 = .ok (.getfield 7, 3) := by decide +kernel
theorem dX8_changeCaves_73 : decode cX8_changeCaves 73 = .ok (.iconst 3, 1) := by decide +kernel
theorem dX8_changeCaves_74 : decode cX8_changeCaves 74 = .ok (.iload_n 1, 1) := by decide +kernel
theorem dX8_changeCaves_75 : decode cX8_changeCaves 75 = .ok (.iastore, 1) := by decide +kernel
theorem dX8_changeCaves_76 : decode cX8_changeCaves 76 = .ok (.aload_n 0, 1) := by decide +kernel
theorem dX8_changeCaves_77 : decode cX8_changeCaves 77 = .ok (.getfield 7, 3) := by decide +kernel
theorem dX8_changeCaves_80 : decode cX8_changeCaves 80 = .ok (.iconst 4, 1) := by decide +kernel
theorem dX8_changeCaves_81 : decode cX8_changeCaves 81 = .ok (.aload_n 0, 1) := by decide +kernel
theorem dX8_changeCaves_82 : decode cX8_changeCaves 82 = .ok (.getfield 7, 3) := by decide +kernel
theorem dX8_changeCaves_85 : decode cX8_changeCaves 85 = .ok (.iconst 4, 1) := by decide +kernel
theorem dX8_changeCaves_86 : decode cX8_changeCaves 86 = .ok (.iaload, 1) := by decide +kernel
theorem dX8_changeCaves_87 : decode cX8_changeCaves 87 = .ok (.iload_n 1, 1) := by decide +kernel
theorem dX8_changeCaves_88 : decode cX8_changeCaves 88 = .ok (.if_icmp .ge 12, 3) := by decide +kernel
theorem dX8_changeCaves_91 : decode cX8_changeCaves 91 = .ok (.aload_n 0, 1) := by decide +kernel
theorem dX8_changeCaves_92 : decode cX8_changeCaves 92 = .ok (.getfield 7, 3) := by decide +kernel
theorem dX8_changeCaves_95 : decode cX8_changeCaves 95 = .ok (.iconst 4, 1) := by decide +kernel
theorem dX8_changeCaves_96 : decode cX8_changeCaves 96 = .ok (.iaload, 1) := by decide +kernel
theorem dX8_changeCaves_97 : decode cX8_changeCaves 97 = .ok (.goto 4, 3) := by decide +kernel
theorem dX8_changeCaves_100 : decode cX8_changeCaves 100 = .ok (.iconst 0, 1) := by decide +kernel
theorem dX8_changeCaves_101 : decode cX8_changeCaves 101 = .ok (.iastore, 1) := by decide +kernel
theorem dX8_changeCaves_102 : decode cX8_changeCaves 102 = .ok (.iload_n 2, 1) := by decide +kernel
theorem dX8_changeCaves_103 : decode cX8_changeCaves 103 = .ok (.ireturn, 1) := by decide +kernel
theorem dX8_append_0 : decode cX8_append 0 = .ok (.aload_n 0, 1) := by decide +kernel
theorem dX8_append_1 : decode cX8_append 1 = .ok (.iload_n 1, 1) := by decide +kernel
theorem dX8_append_2 : decode cX8_append 2 = .ok (.bipush 33, 2) := by decide +kernel
theorem dX8_append_4 : decode cX8_append 4 = .ok (.bipush 126, 2) := by decide +kernel
theorem dX8_append_6 : decode cX8_append 6 = .ok (.invokestatic 32, 3) := by decide +kernel
theorem dX8_append_9 : decode cX8_append 9 = .ok (.aload_n 0, 1) := by decide +kernel
theorem dX8_append_10 : decode cX8_append 10 = .ok (.getfield 159, 3) := by decide +kernel
theorem dX8_append_13 : decode cX8_append 13 = .ok (.bipush 60, 2) := by decide +kernel
theorem dX8_append_15 : decode cX8_append 15 = .ok (.if_icmp .ge 7, 3) := by decide +kernel
theorem dX8_append_18 : decode cX8_append 18 = .ok (.iconst 1, 1) := by decide +kernel
theorem dX8_append_19 : decode cX8_append 19 = .ok (.goto 4, 3) := by decide +kernel
theorem dX8_append_22 : decode cX8_append 22 = .ok (.iconst 0, 1) := by decide +kernel
theorem dX8_append_23 : decode cX8_append 23 = .ok (.iconst 1, 1) := by decide +kernel
theorem dX8_append_24 : decode cX8_append 24 = .ok (.invokevirtual 146, 3) := by decide +kernel
theorem dX8_append_27 : decode cX8_append 27 = .ok (.ifCond .ne 5, 3) := by decide +kernel
theorem dX8_append_30 : decode cX8_append 30 = .ok (.iconst 0, 1) := by decide +kernel
theorem dX8_append_31 : decode cX8_append 31 = .ok (.ireturn, 1) := by decide +kernel
theorem dX8_append_32 : decode cX8_append 32 = .ok (.aload_n 0, 1) := by decide +kernel
theorem dX8_append_33 : decode cX8_append 33 = .ok (.getfield 17, 3) := by decide +kernel
theorem dX8_append_36 : decode cX8_append 36 = .ok (.aload_n 0, 1) := by decide +kernel
theorem dX8_append_37 : decode cX8_append 37 = .ok (.getfield 159, 3) := by decide +kernel
theorem dX8_append_40 : decode cX8_append 40 = .ok (.iload_n 1, 1) := by decide +kernel
theorem dX8_append_41 : decode cX8_append 41 = .ok (.i2c, 1) := by decide +kernel
theorem dX8_append_42 : decode cX8_append 42 = .ok (.castore, 1) := by decide +kernel
theorem dX8_append_43 : decode cX8_append 43 = .ok (.aload_n 0, 1) := by decide +kernel
theorem dX8_append_44 : decode cX8_append 44 = .ok (.dup, 1) := by decide +kernel
theorem dX8_append_45 : decode cX8_append 45 = .ok (.getfield 159, 3) := by decide +kernel
theorem dX8_append_48 : decode cX8_append 48 = .ok (.iconst 1, 1) := by decide +kernel
theorem dX8_append_49 : decode cX8_append 49 = .ok (.iadd, 1) := by decide +kernel
theorem dX8_append_50 : decode cX8_append 50 = .ok (.putfield 159, 3) := by decide +kernel
theorem dX8_append_53 : decode cX8_append 53 = .ok (.aload_n 0, 1) := by decide +kernel
theorem dX8_append_54 : decode cX8_append 54 = .ok (.getfield 159, 3) := by decide +kernel
theorem dX8_append_57 : decode cX8_append 57 = .ok (.ireturn, 1) := by decide +kernel
theorem dX8_clearBuffer_0 : decode cX8_clearBuffer 0 = .ok (.aload_n 0, 1) := by decide +kernel
theorem dX8_clearBuffer_1 : decode cX8_clearBuffer 1 = .ok (.iconst 0, 1) := by decide +kernel
theorem dX8_clearBuffer_2 : decode cX8_clearBuffer 2 = .ok (.putfield 21, 3) := by decide +kernel
theorem dX8_clearBuffer_5 : decode cX8_clearBuffer 5 = .ok (.aload_n 0, 1) := by decide +kernel
theorem dX8_clearBuffer_6 : decode cX8_clearBuffer 6 = .ok (.getfield 159, 3) := by decide +kernel
theorem dX8_clearBuffer_9 : decode cX8_clearBuffer 9 = .ok (.istore_n 1, 1) := by decide +kernel
theorem dX8_clearBuffer_10 : decode cX8_clearBuffer 10 = .ok (.aload_n 0, 1) := by decide +kernel
theorem dX8_clearBuffer_11 : decode cX8_clearBuffer 11 = .ok (.iconst 0, 1) := by decide +kernel
theorem dX8_clearBuffer_12 : decode cX8_clearBuffer 12 = .ok (.putfield 159, 3) := by decide +kernel
theorem dX8_clearBuffer_15 : decode cX8_clearBuffer 15 = .ok (.iload_n 1, 1) := by decide +kernel
theorem dX8_clearBuffer_16 : decode cX8_clearBuffer 16 = .ok (.ireturn, 1) := by decide +kernel
theorem dX8_isSign_0 : decode cX8_isSign 0 = .ok (.iload_n 0, 1) := by decide +kernel
theorem dX8_isSign_1 : decode cX8_isSign 1 = .ok (.bipush 97, 2) := by decide +kernel
theorem dX8_isSign_3 : decode cX8_isSign 3 = .ok (.bipush 99, 2) := by decide +kernel
theorem dX8_isSign_5 : decode cX8_isSign 5 = .ok (.invokestatic 32, 3) := by decide +kernel
theorem dX8_isSign_8 : decode cX8_isSign 8 = .ok (.ifCond .ne 83, 3) := by decide +kernel
theorem dX8_isSign_11 : decode cX8_isSign 11 = .ok (.iload_n 0, 1) := by decide +kernel
theorem dX8_isSign_12 : decode cX8_isSign 12 = .ok (.bipush 101, 2) := by decide +kernel
theorem dX8_isSign_14 : decode cX8_isSign 14 = .ok (.bipush 103, 2) := by decide +kernel
theorem dX8_isSign_16 : decode cX8_isSign 16 = .ok (.invokestatic 32, 3) := by decide +kernel
theorem dX8_isSign_19 : decode cX8_isSign 19 = .ok (.ifCond .ne 72, 3) := by decide +kernel
theorem dX8_isSign_22 : decode cX8_isSign 22 = .ok (.iload_n 0, 1) := by decide +kernel
theorem dX8_isSign_23 : decode cX8_isSign 23 = .ok (.bipush 107, 2) := by decide +kernel
theorem dX8_isSign_25 : decode cX8_isSign 25 = .ok (.if_icmp .eq 66, 3) := by decide +kernel
theorem dX8_isSign_28 : decode cX8_isSign 28 = .ok (.iload_n 0, 1) := by decide +kernel
theorem dX8_isSign_29 : decode cX8_isSign 29 = .ok (.bipush 109, 2) := by decide +kernel
theorem dX8_isSign_31 : decode cX8_isSign 31 = .ok (.bipush 110, 2) := by decide +kernel
theorem dX8_isSign_33 : decode cX8_isSign 33 = .ok (.invokestatic 32, 3) := by decide +kernel
theorem dX8_isSign_36 : decode cX8_isSign 36 = .ok (.ifCond .ne 55, 3) := by decide +kernel
theorem dX8_isSign_39 : decode cX8_isSign 39 = .ok (.iload_n 0, 1) := by decide +kernel
theorem dX8_isSign_40 : decode cX8_isSign 40 = .ok (.bipush 112, 2) := by decide +kernel
theorem dX8_isSign_42 : decode cX8_isSign 42 = .ok (.if_icmp .eq 49, 3) := by decide +kernel
theorem dX8_isSign_45 : decode cX8_isSign 45 = .ok (.iload_n 0, 1) := by decide +kernel
theorem dX8_isSign_46 : decode cX8_isSign 46 = .ok (.bipush 114, 2) := by decide +kernel
theorem dX8_isSign_48 : decode cX8_isSign 48 = .ok (.bipush 117, 2) := by decide +kernel
theorem dX8_isSign_50 : decode cX8_isSign 50 = .ok (.invokestatic 32, 3) := by decide +kernel
theorem dX8_isSign_53 : decode cX8_isSign 53 = .ok (.ifCond .ne 38, 3) := by decide +kernel
theorem dX8_isSign_56 : decode cX8_isSign 56 = .ok (.iload_n 0, 1) := by decide +kernel
theorem dX8_isSign_57 : decode cX8_isSign 57 = .ok (.bipush 119, 2) := by decide +kernel
theorem dX8_isSign_59 : decode cX8_isSign 59 = .ok (.bipush 121, 2) := by decide +kernel
theorem dX8_isSign_61 : decode cX8_isSign 61 = .ok (.invokestatic 32, 3) := by decide +kernel
theorem dX8_isSign_64 : decode cX8_isSign 64 = .ok (.ifCond .ne 27, 3) := by decide +kernel
theorem dX8_isSign_67 : decode cX8_isSign 67 = .ok (.iload_n 0, 1) := by decide +kernel
theorem dX8_isSign_68 : decode cX8_isSign 68 = .ok (.bipush 70, 2) := by decide +kernel
theorem dX8_isSign_70 : decode cX8_isSign 70 = .ok (.if_icmp .eq 21, 3) := by decide +kernel
theorem dX8_isSign_73 : decode cX8_isSign 73 = .ok (.iload_n 0, 1) := by decide +kernel
theorem dX8_isSign_74 : decode cX8_isSign 74 = .ok (.bipush 66, 2) := by decide +kernel
theorem dX8_isSign_76 : decode cX8_isSign 76 = .ok (.if_icmp .eq 15, 3) := by decide +kernel
theorem dX8_isSign_79 : decode cX8_isSign 79 = .ok (.iload_n 0, 1) := by decide +kernel
theorem dX8_isSign_80 : decode cX8_isSign 80 = .ok (.bipush 87, 2) := by decide +kernel
theorem dX8_isSign_82 : decode cX8_isSign 82 = .ok (.if_icmp .eq 9, 3) := by decide +kernel
theorem dX8_isSign_85 : decode cX8_isSign 85 = .ok (.iload_n 0, 1) := by decide +kernel
theorem dX8_isSign_86 : decode cX8_isSign 86 = .ok (.bipush 95, 2) := by decide +kernel
theorem dX8_isSign_88 : decode cX8_isSign 88 = .ok (.if_icmp .ne 7, 3) := by decide +kernel
theorem dX8_isSign_91 : decode cX8_isSign 91 = .ok (.iconst 1, 1) := by decide +kernel
theorem dX8_isSign_92 : decode cX8_isSign 92 = .ok (.goto 4, 3) := by decide +kernel
theorem dX8_isSign_95 : decode cX8_isSign 95 = .ok (.iconst 0, 1) := by decide +kernel
theorem dX8_isSign_96 : decode cX8_isSign 96 = .ok (.ireturn, 1) := by decide +kernel
theorem dX8_part_0 : decode cX8_part 0 = .ok (.aload_n 0, 1) := by decide +kernel
theorem dX8_part_1 : decode cX8_part 1 = .ok (.aload_n 0, 1) := by decide +kernel
theorem dX8_part_2 : decode cX8_part 2 = .ok (.getfield 165, 3) := by decide +kernel
theorem dX8_part_5 : decode cX8_part 5 = .ok (.aload_n 0, 1) := by decide +kernel
theorem dX8_part_6 : decode cX8_part 6 = .ok (.getfield 159, 3) := by decide +kernel
theorem dX8_part_9 : decode cX8_part 9 = .ok (.if_icmp .ge 37, 3) := by decide +kernel
theorem dX8_part_12 : decode cX8_part 12 = .ok (.aload_n 0, 1) := by decide +kernel
theorem dX8_part_13 : decode cX8_part 13 = .ok (.getfield 17, 3) := by decide +kernel
theorem dX8_part_16 : decode cX8_part 16 = .ok (.aload_n 0, 1) := by decide +kernel
theorem dX8_part_17 : decode cX8_part 17 = .ok (.getfield 165, 3) := by decide +kernel
theorem dX8_part_20 : decode cX8_part 20 = .ok (.caload, 1) := by decide +kernel
theorem dX8_part_21 : decode cX8_part 21 = .ok (.bipush 50, 2) := by decide +kernel
theorem dX8_part_23 : decode cX8_part 23 = .ok (.bipush 57, 2) := by decide +kernel
theorem dX8_part_25 : decode cX8_part 25 = .ok (.invokestatic 32, 3) := by decide +kernel
theorem dX8_part_28 : decode cX8_part 28 = .ok (.ifCond .eq 18, 3) := by decide +kernel
theorem dX8_part_31 : decode cX8_part 31 = .ok (.aload_n 0, 1) := by decide +kernel
theorem dX8_part_32 : decode cX8_part 32 = .ok (.getfield 17, 3) := by decide +kernel
theorem dX8_part_35 : decode cX8_part 35 = .ok (.aload_n 0, 1) := by decide +kernel
theorem dX8_part_36 : decode cX8_part 36 = .ok (.getfield 165, 3) := by decide +kernel
theorem dX8_part_39 : decode cX8_part 39 = .ok (.caload, 1) := by decide +kernel
theorem dX8_part_40 : decode cX8_part 40 = .ok (.bipush 48, 2) := by decide +kernel
theorem dX8_part_42 : decode cX8_part 42 = .ok (.isub, 1) := by decide +kernel
theorem dX8_part_43 : decode cX8_part 43 = .ok (.goto 4, 3) := by decide +kernel
theorem dX8_part_46 : decode cX8_part 46 = .ok (.iconst 1, 1) := by decide +kernel
theorem dX8_part_47 : decode cX8_part 47 = .ok (.putfield 168, 3) := by decide +kernel
theorem dX8_part_50 : decode cX8_part 50 = .ok (.aload_n 0, 1) := by decide +kernel
theorem dX8_part_51 : decode cX8_part 51 = .ok (.dup, 1) := by decide +kernel
theorem dX8_part_52 : decode cX8_part 52 = .ok (.getfield 165, 3) := by decide +kernel
theorem dX8_part_55 : decode cX8_part 55 = .ok (.aload_n 0, 1) := by decide +kernel
theorem dX8_part_56 : decode cX8_part 56 = .ok (.getfield 168, 3) := by decide +kernel
theorem dX8_part_59 : decode cX8_part 59 = .ok (.iconst 1, 1) := by decide +kernel
theorem dX8_part_60 : decode cX8_part 60 = .ok (.if_icmp .le 7, 3) := by decide +kernel
theorem dX8_part_63 : decode cX8_part 63 = .ok (.iconst 1, 1) := by decide +kernel
theorem dX8_part_64 : decode cX8_part 64 = .ok (.goto 4, 3) := by decide +kernel
theorem dX8_part_67 : decode cX8_part 67 = .ok (.iconst 0, 1) := by decide +kernel
theorem dX8_part_68 : decode cX8_part 68 = .ok (.iadd, 1) := by decide +kernel
theorem dX8_part_69 : decode cX8_part 69 = .ok (.putfield 165, 3) := by decide +kernel
theorem dX8_part_72 : decode cX8_part 72 = .ok (.aload_n 0, 1) := by decide +kernel
theorem dX8_part_73 : decode cX8_part 73 = .ok (.getfield 165, 3) := by decide +kernel
theorem dX8_part_76 : decode cX8_part 76 = .ok (.aload_n 0, 1) := by decide +kernel
theorem dX8_part_77 : decode cX8_part 77 = .ok (.getfield 159, 3) := by decide +kernel
theorem dX8_part_80 : decode cX8_part 80 = .ok (.if_icmp .ge 15, 3) := by decide +kernel
theorem dX8_part_83 : decode cX8_part 83 = .ok (.aload_n 0, 1) := by decide +kernel
theorem dX8_part_84 : decode cX8_part 84 = .ok (.getfield 17, 3) := by decide +kernel
theorem dX8_part_87 : decode cX8_part 87 = .ok (.aload_n 0, 1) := by decide +kernel
theorem dX8_part_88 : decode cX8_part 88 = .ok (.getfield 165, 3) := by decide +kernel
theorem dX8_part_91 : decode cX8_part 91 = .ok (.caload, 1) := by decide +kernel
theorem dX8_part_92 : decode cX8_part 92 = .ok (.goto 4, 3) := by decide +kernel
theorem dX8_part_95 : decode cX8_part 95 = .ok (.iconst (-1), 1) := by decide +kernel
theorem dX8_part_96 : decode cX8_part 96 = .ok (.istore_n 1, 1) := by decide +kernel
theorem dX8_part_97 : decode cX8_part 97 = .ok (.iload_n 1, 1) := by decide +kernel
theorem dX8_part_98 : decode cX8_part 98 = .ok (.bipush 39, 2) := by decide +kernel
theorem dX8_part_100 : decode cX8_part 100 = .ok (.if_icmp .ne 7, 3) := by decide +kernel
theorem dX8_part_103 : decode cX8_part 103 = .ok (.iconst 1, 1) := by decide +kernel
theorem dX8_part_104 : decode cX8_part 104 = .ok (.goto 4, 3) := by decide +kernel
theorem dX8_part_107 : decode cX8_part 107 = .ok (.iconst 0, 1) := by decide +kernel
theorem dX8_part_108 : decode cX8_part 108 = .ok (.istore_n 2, 1) := by decide +kernel
theorem dX8_part_109 : decode cX8_part 109 = .ok (.aload_n 0, 1) := by decide +kernel
theorem dX8_part_110 : decode cX8_part 110 = .ok (.dup, 1) := by decide +kernel
theorem dX8_part_111 : decode cX8_part 111 = .ok (.getfield 165, 3) := by decide +kernel
theorem dX8_part_114 : decode cX8_part 114 = .ok (.iload_n 2, 1) := by decide +kernel
theorem dX8_part_115 : decode cX8_part 115 = .ok (.ifCond .ne 10, 3) := by decide +kernel
theorem dX8_part_118 : decode cX8_part 118 = .ok (.iload_n 1, 1) := by decide +kernel
theorem dX8_part_119 : decode cX8_part 119 = .ok (.invokestatic 171, 3) := by decide +kernel
theorem dX8_part_122 : decode cX8_part 122 = .ok (.ifCond .eq 7, 3) := by decide +kernel
theorem dX8_part_125 : decode cX8_part 125 = .ok (.iconst 1, 1) := by decide +kernel
theorem dX8_part_126 : decode cX8_part 126 = .ok (.goto 4, 3) := by decide +kernel
theorem dX8_part_129 : decode cX8_part 129 = .ok (.iconst 0, 1) := by decide +kernel
theorem dX8_part_130 : decode cX8_part 130 = .ok (.iadd, 1) := by decide +kernel
theorem dX8_part_131 : decode cX8_part 131 = .ok (.putfield 165, 3) := by decide +kernel
theorem dX8_part_134 : decode cX8_part 134 = .ok (.aload_n 0, 1) := by decide +kernel
theorem dX8_part_135 : decode cX8_part 135 = .ok (.iload_n 2, 1) := by decide +kernel
theorem dX8_part_136 : decode cX8_part 136 = .ok (.ifCond .eq 26, 3) := by decide +kernel
theorem dX8_part_139 : decode cX8_part 139 = .ok (.aload_n 0, 1) := by decide +kernel
theorem dX8_part_140 : decode cX8_part 140 = .ok (.getfield 165, 3) := by decide +kernel
theorem dX8_part_143 : decode cX8_part 143 = .ok (.aload_n 0, 1) := by decide +kernel
theorem dX8_part_144 : decode cX8_part 144 = .ok (.getfield 159, 3) := by decide +kernel
theorem dX8_part_147 : decode cX8_part 147 = .ok (.if_icmp .ge 15, 3) := by decide +kernel
theorem dX8_part_150 : decode cX8_part 150 = .ok (.aload_n 0, 1) := by decide +kernel
theorem dX8_part_151 : decode cX8_part 151 = .ok (.getfield 17, 3) := by decide +kernel
theorem dX8_part_154 : decode cX8_part 154 = .ok (.aload_n 0, 1) := by decide +kernel
theorem dX8_part_155 : decode cX8_part 155 = .ok (.getfield 165, 3) := by decide +kernel
theorem dX8_part_158 : decode cX8_part 158 = .ok (.caload, 1) := by decide +kernel
theorem dX8_part_159 : decode cX8_part 159 = .ok (.goto 4, 3) := by decide +kernel
theorem dX8_part_162 : decode cX8_part 162 = .ok (.iconst (-1), 1) := by decide +kernel
theorem dX8_part_163 : decode cX8_part 163 = .ok (.putfield 174, 3) := by decide +kernel
theorem dX8_part_166 : decode cX8_part 166 = .ok (.aload_n 0, 1) := by decide +kernel
theorem dX8_part_167 : decode cX8_part 167 = .ok (.dup, 1) := by decide +kernel
theorem dX8_part_168 : decode cX8_part 168 = .ok (.getfield 165, 3) := by decide +kernel
theorem dX8_part_171 : decode cX8_part 171 = .ok (.aload_n 0, 1) := by decide +kernel
theorem dX8_part_172 : decode cX8_part 172 = .ok (.getfield 174, 3) := by decide +kernel
theorem dX8_part_175 : decode cX8_part 175 = .ok (.ifCond .lt 7, 3) := by decide +kernel
theorem dX8_part_178 : decode cX8_part 178 = .ok (.iconst 1, 1) := by decide +kernel
theorem dX8_part_179 : decode cX8_part 179 = .ok (.goto 4, 3) := by decide +kernel
theorem dX8_part_182 : decode cX8_part 182 = .ok (.iconst 0, 1) := by decide +kernel
theorem dX8_part_183 : decode cX8_part 183 = .ok (.iadd, 1) := by decide +kernel
theorem dX8_part_184 : decode cX8_part 184 = .ok (.putfield 165, 3) := by decide +kernel
theorem dX8_part_187 : decode cX8_part 187 = .ok (.iload_n 2, 1) := by decide +kernel
theorem dX8_part_188 : decode cX8_part 188 = .ok (.ifCond .eq 18, 3) := by decide +kernel
theorem dX8_part_191 : decode cX8_part 191 = .ok (.aload_n 0, 1) := by decide +kernel
theorem dX8_part_192 : decode cX8_part 192 = .ok (.getfield 174, 3) := by decide +kernel
theorem dX8_part_195 : decode cX8_part 195 = .ok (.ifCond .lt 7, 3) := by decide +kernel
theorem dX8_part_198 : decode cX8_part 198 = .ok (.iload_n 1, 1) := by decide +kernel
theorem dX8_part_199 : decode cX8_part 199 = .ok (.goto 19, 3) := by decide +kernel
theorem dX8_part_202 : decode cX8_part 202 = .ok (.iconst (-1), 1) := by decide +kernel
theorem dX8_part_203 : decode cX8_part 203 = .ok (.goto 15, 3) := by decide +kernel
theorem dX8_part_206 : decode cX8_part 206 = .ok (.iload_n 1, 1) := by decide +kernel
theorem dX8_part_207 : decode cX8_part 207 = .ok (.invokestatic 171, 3) := by decide +kernel
theorem dX8_part_210 : decode cX8_part 210 = .ok (.ifCond .eq 7, 3) := by decide +kernel
theorem dX8_part_213 : decode cX8_part 213 = .ok (.iload_n 1, 1) := by decide +kernel
theorem dX8_part_214 : decode cX8_part 214 = .ok (.goto 4, 3) := by decide +kernel
theorem dX8_part_217 : decode cX8_part 217 = .ok (.iconst (-1), 1) := by decide +kernel
theorem dX8_part_218 : decode cX8_part 218 = .ok (.ireturn, 1) := by decide +kernel
theorem dX8_tells_0 : decode cX8_tells 0 = .ok (.aload_n 0, 1) := by decide +kernel
theorem dX8_tells_1 : decode cX8_tells 1 = .ok (.iconst 0, 1) := by decide +kernel
theorem dX8_tells_2 : decode cX8_tells 2 = .ok (.putfield 165, 3) := by decide +kernel
theorem dX8_tells_5 : decode cX8_tells 5 = .ok (.aload_n 0, 1) := by decide +kernel
theorem dX8_tells_6 : decode cX8_tells 6 = .ok (.invokevirtual 177, 3) := by decide +kernel
theorem dX8_tells_9 : decode cX8_tells 9 = .ok (.ifCond .lt 7, 3) := by decide +kernel
theorem dX8_tells_12 : decode cX8_tells 12 = .ok (.iconst 1, 1) := by decide +kernel
theorem dX8_tells_13 : decode cX8_tells 13 = .ok (.goto 4, 3) := by decide +kernel
theorem dX8_tells_16 : decode cX8_tells 16 = .ok (.iconst 0, 1) := by decide +kernel
theorem dX8_tells_17 : decode cX8_tells 17 = .ok (.istore_n 1, 1) := by decide +kernel
theorem dX8_tells_18 : decode cX8_tells 18 = .ok (.iload_n 1, 1) := by decide +kernel
theorem dX8_tells_19 : decode cX8_tells 19 = .ok (.ifCond .eq 30, 3) := by decide +kernel
theorem dX8_tells_22 : decode cX8_tells 22 = .ok (.aload_n 0, 1) := by decide +kernel
theorem dX8_tells_23 : decode cX8_tells 23 = .ok (.getfield 165, 3) := by decide +kernel
theorem dX8_tells_26 : decode cX8_tells 26 = .ok (.aload_n 0, 1) := by decide +kernel
theorem dX8_tells_27 : decode cX8_tells 27 = .ok (.getfield 159, 3) := by decide +kernel
theorem dX8_tells_30 : decode cX8_tells 30 = .ok (.if_icmp .ge 19, 3) := by decide +kernel
theorem dX8_tells_33 : decode cX8_tells 33 = .ok (.aload_n 0, 1) := by decide +kernel
theorem dX8_tells_34 : decode cX8_tells 34 = .ok (.invokevirtual 177, 3) := by decide +kernel
theorem dX8_tells_37 : decode cX8_tells 37 = .ok (.ifCond .lt 7, 3) := by decide +kernel
theorem dX8_tells_40 : decode cX8_tells 40 = .ok (.iconst 1, 1) := by decide +kernel
theorem dX8_tells_41 : decode cX8_tells 41 = .ok (.goto 4, 3) := by decide +kernel
theorem dX8_tells_44 : decode cX8_tells 44 = .ok (.iconst 0, 1) := by decide +kernel
theorem dX8_tells_45 : decode cX8_tells 45 = .ok (.istore_n 1, 1) := by decide +kernel
theorem dX8_tells_46 : decode cX8_tells 46 = .ok (.goto (-28), 3) := by decide +kernel
theorem dX8_tells_49 : decode cX8_tells 49 = .ok (.iload_n 1, 1) := by decide +kernel
theorem dX8_tells_50 : decode cX8_tells 50 = .ok (.ireturn, 1) := by decide +kernel
theorem dX8_firstError_0 : decode cX8_firstError 0 = .ok (.aload_n 0, 1) := by decide +kernel
theorem dX8_firstError_1 : decode cX8_firstError 1 = .ok (.iconst 0, 1) := by decide +kernel
theorem dX8_firstError_2 : decode cX8_firstError 2 = .ok (.putfield 21, 3) := by decide +kernel
theorem dX8_firstError_5 : decode cX8_firstError 5 = .ok (.aload_n 0, 1) := by decide +kernel
theorem dX8_firstError_6 : decode cX8_firstError 6 = .ok (.invokevirtual 180, 3) := by decide +kernel
theorem dX8_firstError_9 : decode cX8_firstError 9 = .ok (.pop, 1) := by decide +kernel
theorem dX8_firstError_10 : decode cX8_firstError 10 = .ok (.aload_n 0, 1) := by decide +kernel
theorem dX8_firstError_11 : decode cX8_firstError 11 = .ok (.getfield 165, 3) := by decide +kernel
theorem dX8_firstError_14 : decode cX8_firstError 14 = .ok (.ireturn, 1) := by decide +kernel
theorem dX8_doesAll_0 : decode cX8_doesAll 0 = .ok (.iconst 0, 1) := by decide +kernel
theorem dX8_doesAll_1 : decode cX8_doesAll 1 = .ok (.istore_n 1, 1) := by decide +kernel
theorem dX8_doesAll_2 : decode cX8_doesAll 2 = .ok (.iconst 1, 1) := by decide +kernel
theorem dX8_doesAll_3 : decode cX8_doesAll 3 = .ok (.istore_n 2, 1) := by decide +kernel
theorem dX8_doesAll_4 : decode cX8_doesAll 4 = .ok (.aload_n 0, 1) := by decide +kernel
theorem dX8_doesAll_5 : decode cX8_doesAll 5 = .ok (.iconst 0, 1) := by decide +kernel
theorem dX8_doesAll_6 : decode cX8_doesAll 6 = .ok (.putfield 165, 3) := by decide +kernel
theorem dX8_doesAll_9 : decode cX8_doesAll 9 = .ok (.iload_n 2, 1) := by decide +kernel
theorem dX8_doesAll_10 : decode cX8_doesAll 10 = .ok (.ifCond .eq 73, 3) := by decide +kernel
theorem dX8_doesAll_13 : decode cX8_doesAll 13 = .ok (.aload_n 0, 1) := by decide +kernel
theorem dX8_doesAll_14 : decode cX8_doesAll 14 = .ok (.getfield 165, 3) := by decide +kernel
theorem dX8_doesAll_17 : decode cX8_doesAll 17 = .ok (.aload_n 0, 1) := by decide +kernel
theorem dX8_doesAll_18 : decode cX8_doesAll 18 = .ok (.getfield 159, 3) := by decide +kernel
theorem dX8_doesAll_21 : decode cX8_doesAll 21 = .ok (.if_icmp .ge 62, 3) := by decide +kernel
theorem dX8_doesAll_24 : decode cX8_doesAll 24 = .ok (.aload_n 0, 1) := by decide +kernel
theorem dX8_doesAll_25 : decode cX8_doesAll 25 = .ok (.invokevirtual 177, 3) := by decide +kernel
theorem dX8_doesAll_28 : decode cX8_doesAll 28 = .ok (.istore_n 3, 1) := by decide +kernel
theorem dX8_doesAll_29 : decode cX8_doesAll 29 = .ok (.iconst 0, 1) := by decide +kernel
theorem dX8_doesAll_30 : decode cX8_doesAll 30 = .ok (.istore 4, 2) := by decide +kernel
theorem dX8_doesAll_32 : decode cX8_doesAll 32 = .ok (.iload 4, 2) := by decide +kernel
theorem dX8_doesAll_34 : decode cX8_doesAll 34 = .ok (.aload_n 0, 1) := by decide +kernel
theorem dX8_doesAll_35 : decode cX8_doesAll 35 = .ok (.getfield 168, 3) := by decide +kernel
theorem dX8_doesAll_38 : decode cX8_doesAll 38 = .ok (.if_icmp .ge 42, 3) := by decide +kernel
theorem dX8_doesAll_41 : decode cX8_doesAll 41 = .ok (.iload_n 2, 1) := by decide +kernel
theorem dX8_doesAll_42 : decode cX8_doesAll 42 = .ok (.ifCond .eq 38, 3) := by decide +kernel
theorem dX8_doesAll_45 : decode cX8_doesAll 45 = .ok (.aload_n 0, 1) := by decide +kernel
theorem dX8_doesAll_46 : decode cX8_doesAll 46 = .ok (.iload_n 3, 1) := by decide +kernel
theorem dX8_doesAll_47 : decode cX8_doesAll 47 = .ok (.aload_n 0, 1) := by decide +kernel
theorem dX8_doesAll_48 : decode cX8_doesAll 48 = .ok (.getfield 174, 3) := by decide +kernel
theorem dX8_doesAll_51 : decode cX8_doesAll 51 = .ok (.invokevirtual 137, 3) := by decide +kernel
theorem dX8_doesAll_54 : decode cX8_doesAll 54 = .ok (.ifCond .lt 7, 3) := by decide +kernel
theorem dX8_doesAll_57 : decode cX8_doesAll 57 = .ok (.iconst 1, 1) := by decide +kernel
theorem dX8_doesAll_58 : decode cX8_doesAll 58 = .ok (.goto 4, 3) := by decide +kernel
theorem dX8_doesAll_61 : decode cX8_doesAll 61 = .ok (.iconst 0, 1) := by decide +kernel
theorem dX8_doesAll_62 : decode cX8_doesAll 62 = .ok (.istore_n 2, 1) := by decide +kernel
theorem dX8_doesAll_63 : decode cX8_doesAll 63 = .ok (.aload_n 0, 1) := by decide +kernel
theorem dX8_doesAll_64 : decode cX8_doesAll 64 = .ok (.iload_n 3, 1) := by decide +kernel
theorem dX8_doesAll_65 : decode cX8_doesAll 65 = .ok (.invokestatic 143, 3) := by decide +kernel
theorem dX8_doesAll_68 : decode cX8_doesAll 68 = .ok (.putfield 67, 3) := by decide +kernel
theorem dX8_doesAll_71 : decode cX8_doesAll 71 = .ok (.iinc 1 1, 3) := by decide +kernel
theorem dX8_doesAll_74 : decode cX8_doesAll 74 = .ok (.iinc 4 1, 3) := by decide +kernel
theorem dX8_doesAll_77 : decode cX8_doesAll 77 = .ok (.goto (-45), 3) := by decide +kernel
theorem dX8_doesAll_80 : decode cX8_doesAll 80 = .ok (.goto (-71), 3) := by decide +kernel
theorem dX8_doesAll_83 : decode cX8_doesAll 83 = .ok (.iload_n 2, 1) := by decide +kernel
theorem dX8_doesAll_84 : decode cX8_doesAll 84 = .ok (.ifCond .eq 7, 3) := by decide +kernel
theorem dX8_doesAll_87 : decode cX8_doesAll 87 = .ok (.iload_n 1, 1) := by decide +kernel
theorem dX8_doesAll_88 : decode cX8_doesAll 88 = .ok (.goto 4, 3) := by decide +kernel
theorem dX8_doesAll_91 : decode cX8_doesAll 91 = .ok (.iconst (-1), 1) := by decide +kernel
theorem dX8_doesAll_92 : decode cX8_doesAll 92 = .ok (.ireturn, 1) := by decide +kernel
theorem dX8_perform_0 : decode cX8_perform 0 = .ok (.aload_n 0, 1) := by decide +kernel
theorem dX8_perform_1 : decode cX8_perform 1 = .ok (.invokevirtual 180, 3) := by decide +kernel
theorem dX8_perform_4 : decode cX8_perform 4 = .ok (.istore_n 1, 1) := by decide +kernel
theorem dX8_perform_5 : decode cX8_perform 5 = .ok (.aload_n 0, 1) := by decide +kernel
theorem dX8_perform_6 : decode cX8_perform 6 = .ok (.getfield 67, 3) := by decide +kernel
theorem dX8_perform_9 : decode cX8_perform 9 = .ok (.istore_n 2, 1) := by decide +kernel
theorem dX8_perform_10 : decode cX8_perform 10 = .ok (.aload_n 0, 1) := by decide +kernel
theorem dX8_perform_11 : decode cX8_perform 11 = .ok (.iconst 0, 1) := by decide +kernel
theorem dX8_perform_12 : decode cX8_perform 12 = .ok (.bipush 9, 2) := by decide +kernel
theorem dX8_perform_14 : decode cX8_perform 14 = .ok (.invokevirtual 28, 3) := by decide +kernel
theorem dX8_perform_17 : decode cX8_perform 17 = .ok (.iload_n 1, 1) := by decide +kernel
theorem dX8_perform_18 : decode cX8_perform 18 = .ok (.ifCond .eq 10, 3) := by decide +kernel
theorem dX8_perform_21 : decode cX8_perform 21 = .ok (.aload_n 0, 1) := by decide +kernel
theorem dX8_perform_22 : decode cX8_perform 22 = .ok (.invokevirtual 184, 3) := by decide +kernel
theorem dX8_perform_25 : decode cX8_perform 25 = .ok (.goto 4, 3) := by decide +kernel
theorem dX8_perform_28 : decode cX8_perform 28 = .ok (.iconst (-1), 1) := by decide +kernel
theorem dX8_perform_29 : decode cX8_perform 29 = .ok (.istore_n 3, 1) := by decide +kernel
theorem dX8_perform_30 : decode cX8_perform 30 = .ok (.aload_n 0, 1) := by decide +kernel
theorem dX8_perform_31 : decode cX8_perform 31 = .ok (.iload_n 1, 1) := by decide +kernel
theorem dX8_perform_32 : decode cX8_perform 32 = .ok (.iload_n 3, 1) := by decide +kernel
theorem dX8_perform_33 : decode cX8_perform 33 = .ok (.ifCond .lt 7, 3) := by decide +kernel
theorem dX8_perform_36 : decode cX8_perform 36 = .ok (.iconst 1, 1) := by decide +kernel
theorem dX8_perform_37 : decode cX8_perform 37 = .ok (.goto 4, 3) := by decide +kernel
theorem dX8_perform_40 : decode cX8_perform 40 = .ok (.iconst 0, 1) := by decide +kernel
theorem dX8_perform_41 : decode cX8_perform 41 = .ok (.iconst 1, 1) := by decide +kernel
theorem dX8_perform_42 : decode cX8_perform 42 = .ok (.invokevirtual 146, 3) := by decide +kernel
theorem dX8_perform_45 : decode cX8_perform 45 = .ok (.ifCond .ne 17, 3) := by decide +kernel
theorem dX8_perform_48 : decode cX8_perform 48 = .ok (.aload_n 0, 1) := by decide +kernel
theorem dX8_perform_49 : decode cX8_perform 49 = .ok (.bipush 9, 2) := by decide +kernel
theorem dX8_perform_51 : decode cX8_perform 51 = .ok (.iconst 0, 1) := by decide +kernel
theorem dX8_perform_52 : decode cX8_perform 52 = .ok (.invokevirtual 28, 3) := by decide +kernel
theorem dX8_perform_55 : decode cX8_perform 55 = .ok (.aload_n 0, 1) := by decide +kernel
theorem dX8_perform_56 : decode cX8_perform 56 = .ok (.iload_n 2, 1) := by decide +kernel
theorem dX8_perform_57 : decode cX8_perform 57 = .ok (.putfield 67, 3) := by decide +kernel
theorem dX8_perform_60 : decode cX8_perform 60 = .ok (.iconst 0, 1) := by decide +kernel
theorem dX8_perform_61 : decode cX8_perform 61 = .ok (.ireturn, 1) := by decide +kernel
theorem dX8_perform_62 : decode cX8_perform 62 = .ok (.aload_n 0, 1) := by decide +kernel
theorem dX8_perform_63 : decode cX8_perform 63 = .ok (.invokevirtual 140, 3) := by decide +kernel
theorem dX8_perform_66 : decode cX8_perform 66 = .ok (.aload_n 0, 1) := by decide +kernel
theorem dX8_perform_67 : decode cX8_perform 67 = .ok (.iconst 0, 1) := by decide +kernel
theorem dX8_perform_68 : decode cX8_perform 68 = .ok (.putfield 159, 3) := by decide +kernel
theorem dX8_perform_71 : decode cX8_perform 71 = .ok (.iload_n 3, 1) := by decide +kernel
theorem dX8_perform_72 : decode cX8_perform 72 = .ok (.ireturn, 1) := by decide +kernel
theorem dX8_keep_0 : decode cX8_keep 0 = .ok (.aload_n 0, 1) := by decide +kernel
theorem dX8_keep_1 : decode cX8_keep 1 = .ok (.iload_n 1, 1) := by decide +kernel
theorem dX8_keep_2 : decode cX8_keep 2 = .ok (.iconst 0, 1) := by decide +kernel
theorem dX8_keep_3 : decode cX8_keep 3 = .ok (.iconst 1, 1) := by decide +kernel
theorem dX8_keep_4 : decode cX8_keep 4 = .ok (.invokestatic 32, 3) := by decide +kernel
theorem dX8_keep_7 : decode cX8_keep 7 = .ok (.iconst 1, 1) := by decide +kernel
theorem dX8_keep_8 : decode cX8_keep 8 = .ok (.iconst 1, 1) := by decide +kernel
theorem dX8_keep_9 : decode cX8_keep 9 = .ok (.invokevirtual 146, 3) := by decide +kernel
theorem dX8_keep_12 : decode cX8_keep 12 = .ok (.ifCond .eq 19, 3) := by decide +kernel
theorem dX8_keep_15 : decode cX8_keep 15 = .ok (.aload_n 0, 1) := by decide +kernel
theorem dX8_keep_16 : decode cX8_keep 16 = .ok (.iconst 0, 1) := by decide +kernel
theorem dX8_keep_17 : decode cX8_keep 17 = .ok (.bipush 7, 2) := by decide +kernel
theorem dX8_keep_19 : decode cX8_keep 19 = .ok (.iload_n 1, 1) := by decide +kernel
theorem dX8_keep_20 : decode cX8_keep 20 = .ok (.iadd, 1) := by decide +kernel
theorem dX8_keep_21 : decode cX8_keep 21 = .ok (.invokevirtual 28, 3) := by decide +kernel
theorem dX8_keep_24 : decode cX8_keep 24 = .ok (.aload_n 0, 1) := by decide +kernel
theorem dX8_keep_25 : decode cX8_keep 25 = .ok (.getfield 13, 3) := by decide +kernel
theorem dX8_keep_28 : decode cX8_keep 28 = .ok (.iload_n 1, 1) := by decide +kernel
theorem dX8_keep_29 : decode cX8_keep 29 = .ok (.iconst 1, 1) := by decide +kernel
theorem dX8_keep_30 : decode cX8_keep 30 = .ok (.bastore, 1) := by decide +kernel
theorem dX8_keep_31 : decode cX8_keep 31 = .ok (.return_, 1) := by decide +kernel
theorem dX8_goBack_0 : decode cX8_goBack 0 = .ok (.iload_n 1, 1) := by decide +kernel
theorem dX8_goBack_1 : decode cX8_goBack 1 = .ok (.iconst 0, 1) := by decide +kernel
theorem dX8_goBack_2 : decode cX8_goBack 2 = .ok (.iconst 1, 1) := by decide +kernel
theorem dX8_goBack_3 : decode cX8_goBack 3 = .ok (.invokestatic 32, 3) := by decide +kernel
theorem dX8_goBack_6 : decode cX8_goBack 6 = .ok (.istore_n 2, 1) := by decide +kernel
theorem dX8_goBack_7 : decode cX8_goBack 7 = .ok (.aload_n 0, 1) := by decide +kernel
theorem dX8_goBack_8 : decode cX8_goBack 8 = .ok (.iload_n 2, 1) := by decide +kernel
theorem dX8_goBack_9 : decode cX8_goBack 9 = .ok (.iload_n 2, 1) := by decide +kernel
theorem dX8_goBack_10 : decode cX8_goBack 10 = .ok (.ifCond .eq 16, 3) := by decide +kernel
theorem dX8_goBack_13 : decode cX8_goBack 13 = .ok (.aload_n 0, 1) := by decide +kernel
theorem dX8_goBack_14 : decode cX8_goBack 14 = .ok (.getfield 13, 3) := by decide +kernel
theorem dX8_goBack_17 : decode cX8_goBack 17 = .ok (.iload_n 1, 1) := by decide +kernel
theorem dX8_goBack_18 : decode cX8_goBack 18 = .ok (.baload, 1) := by decide +kernel
theorem dX8_goBack_19 : decode cX8_goBack 19 = .ok (.ifCond .eq 7, 3) := by decide +kernel
theorem dX8_goBack_22 : decode cX8_goBack 22 = .ok (.iconst 1, 1) := by decide +kernel
theorem dX8_goBack_23 : decode cX8_goBack 23 = .ok (.goto 4, 3) := by decide +kernel
theorem dX8_goBack_26 : decode cX8_goBack 26 = .ok (.iconst 0, 1) := by decide +kernel
theorem dX8_goBack_27 : decode cX8_goBack 27 = .ok (.iconst 1, 1) := by decide +kernel
theorem dX8_goBack_28 : decode cX8_goBack 28 = .ok (.invokevirtual 146, 3) := by decide +kernel
theorem dX8_goBack_31 : decode cX8_goBack 31 = .ok (.ifCond .eq 21, 3) := by decide +kernel
theorem dX8_goBack_34 : decode cX8_goBack 34 = .ok (.aload_n 0, 1) := by decide +kernel
theorem dX8_goBack_35 : decode cX8_goBack 35 = .ok (.invokevirtual 150, 3) := by decide +kernel
theorem dX8_goBack_38 : decode cX8_goBack 38 = .ok (.aload_n 0, 1) := by decide +kernel
theorem dX8_goBack_39 : decode cX8_goBack 39 = .ok (.bipush 7, 2) := by decide +kernel
theorem dX8_goBack_41 : decode cX8_goBack 41 = .ok (.iload_n 1, 1) := by decide +kernel
theorem dX8_goBack_42 : decode cX8_goBack 42 = .ok (.iadd, 1) := by decide +kernel
theorem dX8_goBack_43 : decode cX8_goBack 43 = .ok (.iconst 0, 1) := by decide +kernel
theorem dX8_goBack_44 : decode cX8_goBack 44 = .ok (.invokevirtual 28, 3) := by decide +kernel
theorem dX8_goBack_47 : decode cX8_goBack 47 = .ok (.aload_n 0, 1) := by decide +kernel
theorem dX8_goBack_48 : decode cX8_goBack 48 = .ok (.iconst 0, 1) := by decide +kernel
theorem dX8_goBack_49 : decode cX8_goBack 49 = .ok (.putfield 67, 3) := by decide +kernel
theorem dX8_goBack_52 : decode cX8_goBack 52 = .ok (.return_, 1) := by decide +kernel
theorem dX8_undo_0 : decode cX8_undo 0 = .ok (.aload_n 0, 1) := by decide +kernel
theorem dX8_undo_1 : decode cX8_undo 1 = .ok (.aload_n 0, 1) := by decide +kernel
theorem dX8_undo_2 : decode cX8_undo 2 = .ok (.getfield 25, 3) := by decide +kernel
theorem dX8_undo_5 : decode cX8_undo 5 = .ok (.ifCond .le 7, 3) := by decide +kernel
theorem dX8_undo_8 : decode cX8_undo 8 = .ok (.iconst 1, 1) := by decide +kernel
theorem dX8_undo_9 : decode cX8_undo 9 = .ok (.goto 4, 3) := by decide +kernel
theorem dX8_undo_12 : decode cX8_undo 12 = .ok (.iconst 0, 1) := by decide +kernel
theorem dX8_undo_13 : decode cX8_undo 13 = .ok (.iconst 1, 1) := by decide +kernel
theorem dX8_undo_14 : decode cX8_undo 14 = .ok (.iconst 1, 1) := by decide +kernel
theorem dX8_undo_15 : decode cX8_undo 15 = .ok (.invokevirtual 146, 3) := by decide +kernel
theorem dX8_undo_18 : decode cX8_undo 18 = .ok (.ifCond .eq 27, 3) := by decide +kernel
theorem dX8_undo_21 : decode cX8_undo 21 = .ok (.aload_n 0, 1) := by decide +kernel
theorem dX8_undo_22 : decode cX8_undo 22 = .ok (.aload_n 0, 1) := by decide +kernel
theorem dX8_undo_23 : decode cX8_undo 23 = .ok (.getfield 25, 3) := by decide +kernel
theorem dX8_undo_26 : decode cX8_undo 26 = .ok (.iconst 0, 1) := by decide +kernel
theorem dX8_undo_27 : decode cX8_undo 27 = .ok (.invokevirtual 28, 3) := by decide +kernel
theorem dX8_undo_30 : decode cX8_undo 30 = .ok (.aload_n 0, 1) := by decide +kernel
theorem dX8_undo_31 : decode cX8_undo 31 = .ok (.dup, 1) := by decide +kernel
theorem dX8_undo_32 : decode cX8_undo 32 = .ok (.getfield 25, 3) := by decide +kernel
theorem dX8_undo_35 : decode cX8_undo 35 = .ok (.iconst 1, 1) := by decide +kernel
theorem dX8_undo_36 : decode cX8_undo 36 = .ok (.isub, 1) := by decide +kernel
theorem dX8_undo_37 : decode cX8_undo 37 = .ok (.putfield 25, 3) := by decide +kernel
theorem dX8_undo_40 : decode cX8_undo 40 = .ok (.aload_n 0, 1) := by decide +kernel
theorem dX8_undo_41 : decode cX8_undo 41 = .ok (.iconst 0, 1) := by decide +kernel
theorem dX8_undo_42 : decode cX8_undo 42 = .ok (.putfield 67, 3) := by decide +kernel
theorem dX8_undo_45 : decode cX8_undo 45 = .ok (.return_, 1) := by decide +kernel
theorem dX8_savedStates_0 : decode cX8_savedStates 0 = .ok (.aload_n 0, 1) := by decide +kernel
theorem dX8_savedStates_1 : decode cX8_savedStates 1 = .ok (.iconst 0, 1) := by decide +kernel
theorem dX8_savedStates_2 : decode cX8_savedStates 2 = .ok (.putfield 21, 3) := by decide +kernel
theorem dX8_savedStates_5 : decode cX8_savedStates 5 = .ok (.aload_n 0, 1) := by decide +kernel
theorem dX8_savedStates_6 : decode cX8_savedStates 6 = .ok (.getfield 25, 3) := by decide +kernel
theorem dX8_savedStates_9 : decode cX8_savedStates 9 = .ok (.ireturn, 1) := by decide +kernel
theorem dX8_plain_0 : decode cX8_plain 0 = .ok (.aload_n 0, 1) := by decide +kernel
theorem dX8_plain_1 : decode cX8_plain 1 = .ok (.iconst 0, 1) := by decide +kernel
theorem dX8_plain_2 : decode cX8_plain 2 = .ok (.putfield 21, 3) := by decide +kernel
theorem dX8_plain_5 : decode cX8_plain 5 = .ok (.aload_n 0, 1) := by decide +kernel
theorem dX8_plain_6 : decode cX8_plain 6 = .ok (.getfield 7, 3) := by decide +kernel
theorem dX8_plain_9 : decode cX8_plain 9 = .ok (.iload_n 1, 1) := by decide +kernel
theorem dX8_plain_10 : decode cX8_plain 10 = .ok (.iaload, 1) := by decide +kernel
theorem dX8_plain_11 : decode cX8_plain 11 = .ok (.ireturn, 1) := by decide +kernel
theorem dX8_length_0 : decode cX8_length 0 = .ok (.aload_n 0, 1) := by decide +kernel
theorem dX8_length_1 : decode cX8_length 1 = .ok (.iconst 0, 1) := by decide +kernel
theorem dX8_length_2 : decode cX8_length 2 = .ok (.invokevirtual 187, 3) := by decide +kernel
theorem dX8_length_5 : decode cX8_length 5 = .ok (.ireturn, 1) := by decide +kernel
theorem dX8_codeAt_0 : decode cX8_codeAt 0 = .ok (.aload_n 0, 1) := by decide +kernel
theorem dX8_codeAt_1 : decode cX8_codeAt 1 = .ok (.iload_n 1, 1) := by decide +kernel
theorem dX8_codeAt_2 : decode cX8_codeAt 2 = .ok (.iconst 0, 1) := by decide +kernel
theorem dX8_codeAt_3 : decode cX8_codeAt 3 = .ok (.aload_n 0, 1) := by decide +kernel
theorem dX8_codeAt_4 : decode cX8_codeAt 4 = .ok (.getfield 7, 3) := by decide +kernel
theorem dX8_codeAt_7 : decode cX8_codeAt 7 = .ok (.iconst 0, 1) := by decide +kernel
theorem dX8_codeAt_8 : decode cX8_codeAt 8 = .ok (.iaload, 1) := by decide +kernel
theorem dX8_codeAt_9 : decode cX8_codeAt 9 = .ok (.iconst 1, 1) := by decide +kernel
theorem dX8_codeAt_10 : decode cX8_codeAt 10 = .ok (.isub, 1) := by decide +kernel
theorem dX8_codeAt_11 : decode cX8_codeAt 11 = .ok (.invokestatic 32, 3) := by decide +kernel
theorem dX8_codeAt_14 : decode cX8_codeAt 14 = .ok (.iconst 1, 1) := by decide +kernel
theorem dX8_codeAt_15 : decode cX8_codeAt 15 = .ok (.iconst 1, 1) := by decide +kernel
theorem dX8_codeAt_16 : decode cX8_codeAt 16 = .ok (.invokevirtual 146, 3) := by decide +kernel
theorem dX8_codeAt_19 : decode cX8_codeAt 19 = .ok (.ifCond .eq 11, 3) := by decide +kernel
theorem dX8_codeAt_22 : decode cX8_codeAt 22 = .ok (.aload_n 0, 1) := by decide +kernel
theorem dX8_codeAt_23 : decode cX8_codeAt 23 = .ok (.iload_n 1, 1) := by decide +kernel
theorem dX8_codeAt_24 : decode cX8_codeAt 24 = .ok (.invokevirtual 36, 3) := by decide +kernel
theorem dX8_codeAt_27 : decode cX8_codeAt 27 = .ok (.goto 4, 3) := by decide +kernel
theorem dX8_codeAt_30 : decode cX8_codeAt 30 = .ok (.iconst 0, 1) := by decide +kernel
theorem dX8_codeAt_31 : decode cX8_codeAt 31 = .ok (.ireturn, 1) := by decide +kernel
theorem dX8_point_0 : decode cX8_point 0 = .ok (.aload_n 0, 1) := by decide +kernel
theorem dX8_point_1 : decode cX8_point 1 = .ok (.iconst 1, 1) := by decide +kernel
theorem dX8_point_2 : decode cX8_point 2 = .ok (.invokevirtual 187, 3) := by decide +kernel
theorem dX8_point_5 : decode cX8_point 5 = .ok (.ireturn, 1) := by decide +kernel
theorem dX8_markAt_0 : decode cX8_markAt 0 = .ok (.aload_n 0, 1) := by decide +kernel
theorem dX8_markAt_1 : decode cX8_markAt 1 = .ok (.aload_n 0, 1) := by decide +kernel
theorem dX8_markAt_2 : decode cX8_markAt 2 = .ok (.getfield 7, 3) := by decide +kernel
theorem dX8_markAt_5 : decode cX8_markAt 5 = .ok (.iconst 2, 1) := by decide +kernel
theorem dX8_markAt_6 : decode cX8_markAt 6 = .ok (.iaload, 1) := by decide +kernel
theorem dX8_markAt_7 : decode cX8_markAt 7 = .ok (.ifCond .lt 7, 3) := by decide +kernel
theorem dX8_markAt_10 : decode cX8_markAt 10 = .ok (.iconst 1, 1) := by decide +kernel
theorem dX8_markAt_11 : decode cX8_markAt 11 = .ok (.goto 4, 3) := by decide +kernel
theorem dX8_markAt_14 : decode cX8_markAt 14 = .ok (.iconst 0, 1) := by decide +kernel
theorem dX8_markAt_15 : decode cX8_markAt 15 = .ok (.iconst 1, 1) := by decide +kernel
theorem dX8_markAt_16 : decode cX8_markAt 16 = .ok (.iconst 1, 1) := by decide +kernel
theorem dX8_markAt_17 : decode cX8_markAt 17 = .ok (.invokevirtual 146, 3) := by decide +kernel
theorem dX8_markAt_20 : decode cX8_markAt 20 = .ok (.ifCond .eq 12, 3) := by decide +kernel
theorem dX8_markAt_23 : decode cX8_markAt 23 = .ok (.aload_n 0, 1) := by decide +kernel
theorem dX8_markAt_24 : decode cX8_markAt 24 = .ok (.getfield 7, 3) := by decide +kernel
theorem dX8_markAt_27 : decode cX8_markAt 27 = .ok (.iconst 2, 1) := by decide +kernel
theorem dX8_markAt_28 : decode cX8_markAt 28 = .ok (.iaload, 1) := by decide +kernel
theorem dX8_markAt_29 : decode cX8_markAt 29 = .ok (.goto 4, 3) := by decide +kernel
theorem dX8_markAt_32 : decode cX8_markAt 32 = .ok (.iconst 0, 1) := by decide +kernel
theorem dX8_markAt_33 : decode cX8_markAt 33 = .ok (.ireturn, 1) := by decide +kernel
theorem dX8_between_0 : decode cX8_between 0 = .ok (.aload_n 0, 1) := by decide +kernel
theorem dX8_between_1 : decode cX8_between 1 = .ok (.aload_n 0, 1) := by decide +kernel
theorem dX8_between_2 : decode cX8_between 2 = .ok (.getfield 7, 3) := by decide +kernel
theorem dX8_between_5 : decode cX8_between 5 = .ok (.iconst 2, 1) := by decide +kernel
theorem dX8_between_6 : decode cX8_between 6 = .ok (.iaload, 1) := by decide +kernel
theorem dX8_between_7 : decode cX8_between 7 = .ok (.ifCond .lt 7, 3) := by decide +kernel
theorem dX8_between_10 : decode cX8_between 10 = .ok (.iconst 1, 1) := by decide +kernel
theorem dX8_between_11 : decode cX8_between 11 = .ok (.goto 4, 3) := by decide +kernel
theorem dX8_between_14 : decode cX8_between 14 = .ok (.iconst 0, 1) := by decide +kernel
theorem dX8_between_15 : decode cX8_between 15 = .ok (.iconst 1, 1) := by decide +kernel
theorem dX8_between_16 : decode cX8_between 16 = .ok (.iconst 1, 1) := by decide +kernel
theorem dX8_between_17 : decode cX8_between 17 = .ok (.invokevirtual 146, 3) := by decide +kernel
theorem dX8_between_20 : decode cX8_between 20 = .ok (.ifCond .eq 10, 3) := by decide +kernel
theorem dX8_between_23 : decode cX8_between 23 = .ok (.aload_n 0, 1) := by decide +kernel
theorem dX8_between_24 : decode cX8_between 24 = .ok (.invokevirtual 84, 3) := by decide +kernel
theorem dX8_between_27 : decode cX8_between 27 = .ok (.goto 4, 3) := by decide +kernel
theorem dX8_between_30 : decode cX8_between 30 = .ok (.iconst 0, 1) := by decide +kernel
theorem dX8_between_31 : decode cX8_between 31 = .ok (.ireturn, 1) := by decide +kernel
theorem dX8_endsUntil_0 : decode cX8_endsUntil 0 = .ok (.iconst 0, 1) := by decide +kernel
theorem dX8_endsUntil_1 : decode cX8_endsUntil 1 = .ok (.istore_n 2, 1) := by decide +kernel
theorem dX8_endsUntil_2 : decode cX8_endsUntil 2 = .ok (.iconst 0, 1) := by decide +kernel
theorem dX8_endsUntil_3 : decode cX8_endsUntil 3 = .ok (.istore_n 3, 1) := by decide +kernel
theorem dX8_endsUntil_4 : decode cX8_endsUntil 4 = .ok (.iload_n 3, 1) := by decide +kernel
theorem dX8_endsUntil_5 : decode cX8_endsUntil 5 = .ok (.iload_n 1, 1) := by decide +kernel
theorem dX8_endsUntil_6 : decode cX8_endsUntil 6 = .ok (.if_icmp .ge 27, 3) := by decide +kernel
theorem dX8_endsUntil_9 : decode cX8_endsUntil 9 = .ok (.iload_n 2, 1) := by decide +kernel
theorem dX8_endsUntil_10 : decode cX8_endsUntil 10 = .ok (.aload_n 0, 1) := by decide +kernel
theorem dX8_endsUntil_11 : decode cX8_endsUntil 11 = .ok (.iload_n 3, 1) := by decide +kernel
theorem dX8_endsUntil_12 : decode cX8_endsUntil 12 = .ok (.invokevirtual 36, 3) := by decide +kernel
theorem dX8_endsUntil_15 : decode cX8_endsUntil 15 = .ok (.bipush 10, 2) := by decide +kernel
theorem dX8_endsUntil_17 : decode cX8_endsUntil 17 = .ok (.if_icmp .ne 7, 3) := by decide +kernel
theorem dX8_endsUntil_20 : decode cX8_endsUntil 20 = .ok (.iconst 1, 1) := by decide +kernel
theorem dX8_endsUntil_21 : decode cX8_endsUntil 21 = .ok (.goto 4, 3) := by decide +kernel
theorem dX8_endsUntil_24 : decode cX8_endsUntil 24 = .ok (.iconst 0, 1) := by decide +kernel
theorem dX8_endsUntil_25 : decode cX8_endsUntil 25 = .ok (.iadd, 1) := by decide +kernel
theorem dX8_endsUntil_26 : decode cX8_endsUntil 26 = .ok (.istore_n 2, 1) := by decide +kernel
theorem dX8_endsUntil_27 : decode cX8_endsUntil 27 = .ok (.iinc 3 1, 3) := by decide +kernel
theorem dX8_endsUntil_30 : decode cX8_endsUntil 30 = .ok (.goto (-26), 3) := by decide +kernel
theorem dX8_endsUntil_33 : decode cX8_endsUntil 33 = .ok (.iload_n 2, 1) := by decide +kernel
theorem dX8_endsUntil_34 : decode cX8_endsUntil 34 = .ok (.ireturn, 1) := by decide +kernel
theorem dX8_linesByEnds_0 : decode cX8_linesByEnds 0 = .ok (.aload_n 0, 1) := by decide +kernel
theorem dX8_linesByEnds_1 : decode cX8_linesByEnds 1 = .ok (.iconst 0, 1) := by decide +kernel
theorem dX8_linesByEnds_2 : decode cX8_linesByEnds 2 = .ok (.putfield 21, 3) := by decide +kernel
theorem dX8_linesByEnds_5 : decode cX8_linesByEnds 5 = .ok (.aload_n 0, 1) := by decide +kernel
theorem dX8_linesByEnds_6 : decode cX8_linesByEnds 6 = .ok (.aload_n 0, 1) := by decide +kernel
theorem dX8_linesByEnds_7 : decode cX8_linesByEnds 7 = .ok (.getfield 7, 3) := by decide +kernel
theorem dX8_linesByEnds_10 : decode cX8_linesByEnds 10 = .ok (.iconst 0, 1) := by decide +kernel
theorem dX8_linesByEnds_11 : decode cX8_linesByEnds 11 = .ok (.iaload, 1) := by decide +kernel
theorem dX8_linesByEnds_12 : decode cX8_linesByEnds 12 = .ok (.invokevirtual 190, 3) := by decide +kernel
theorem dX8_linesByEnds_15 : decode cX8_linesByEnds 15 = .ok (.iconst 1, 1) := by decide +kernel
theorem dX8_linesByEnds_16 : decode cX8_linesByEnds 16 = .ok (.iadd, 1) := by decide +kernel
theorem dX8_linesByEnds_17 : decode cX8_linesByEnds 17 = .ok (.ireturn, 1) := by decide +kernel
theorem dX8_linesByGoing_0 : decode cX8_linesByGoing 0 = .ok (.aload_n 0, 1) := by decide +kernel
theorem dX8_linesByGoing_1 : decode cX8_linesByGoing 1 = .ok (.iconst 0, 1) := by decide +kernel
theorem dX8_linesByGoing_2 : decode cX8_linesByGoing 2 = .ok (.putfield 21, 3) := by decide +kernel
theorem dX8_linesByGoing_5 : decode cX8_linesByGoing 5 = .ok (.aload_n 0, 1) := by decide +kernel
theorem dX8_linesByGoing_6 : decode cX8_linesByGoing 6 = .ok (.aload_n 0, 1) := by decide +kernel
theorem dX8_linesByGoing_7 : decode cX8_linesByGoing 7 = .ok (.getfield 7, 3) := by decide +kernel
theorem dX8_linesByGoing_10 : decode cX8_linesByGoing 10 = .ok (.iconst 0, 1) := by decide +kernel
theorem dX8_linesByGoing_11 : decode cX8_linesByGoing 11 = .ok (.iaload, 1) := by decide +kernel
theorem dX8_linesByGoing_12 : decode cX8_linesByGoing 12 = .ok (.invokevirtual 190, 3) := by decide +kernel
theorem dX8_linesByGoing_15 : decode cX8_linesByGoing 15 = .ok (.iconst 1, 1) := by decide +kernel
theorem dX8_linesByGoing_16 : decode cX8_linesByGoing 16 = .ok (.iadd, 1) := by decide +kernel
theorem dX8_linesByGoing_17 : decode cX8_linesByGoing 17 = .ok (.ireturn, 1) := by decide +kernel
theorem dX8_line_0 : decode cX8_line 0 = .ok (.aload_n 0, 1) := by decide +kernel
theorem dX8_line_1 : decode cX8_line 1 = .ok (.iconst 0, 1) := by decide +kernel
theorem dX8_line_2 : decode cX8_line 2 = .ok (.putfield 21, 3) := by decide +kernel
theorem dX8_line_5 : decode cX8_line 5 = .ok (.aload_n 0, 1) := by decide +kernel
theorem dX8_line_6 : decode cX8_line 6 = .ok (.aload_n 0, 1) := by decide +kernel
theorem dX8_line_7 : decode cX8_line 7 = .ok (.getfield 7, 3) := by decide +kernel
theorem dX8_line_10 : decode cX8_line 10 = .ok (.iconst 1, 1) := by decide +kernel
theorem dX8_line_11 : decode cX8_line 11 = .ok (.iaload, 1) := by decide +kernel
theorem dX8_line_12 : decode cX8_line 12 = .ok (.invokevirtual 190, 3) := by decide +kernel
theorem dX8_line_15 : decode cX8_line 15 = .ok (.ireturn, 1) := by decide +kernel
theorem dX8_column_0 : decode cX8_column 0 = .ok (.aload_n 0, 1) := by decide +kernel
theorem dX8_column_1 : decode cX8_column 1 = .ok (.iconst 0, 1) := by decide +kernel
theorem dX8_column_2 : decode cX8_column 2 = .ok (.putfield 21, 3) := by decide +kernel
theorem dX8_column_5 : decode cX8_column 5 = .ok (.aload_n 0, 1) := by decide +kernel
theorem dX8_column_6 : decode cX8_column 6 = .ok (.getfield 7, 3) := by decide +kernel
theorem dX8_column_9 : decode cX8_column 9 = .ok (.iconst 1, 1) := by decide +kernel
theorem dX8_column_10 : decode cX8_column 10 = .ok (.iaload, 1) := by decide +kernel
theorem dX8_column_11 : decode cX8_column 11 = .ok (.aload_n 0, 1) := by decide +kernel
theorem dX8_column_12 : decode cX8_column 12 = .ok (.aload_n 0, 1) := by decide +kernel
theorem dX8_column_13 : decode cX8_column 13 = .ok (.getfield 7, 3) := by decide +kernel
theorem dX8_column_16 : decode cX8_column 16 = .ok (.iconst 1, 1) := by decide +kernel
theorem dX8_column_17 : decode cX8_column 17 = .ok (.iaload, 1) := by decide +kernel
theorem dX8_column_18 : decode cX8_column 18 = .ok (.invokevirtual 61, 3) := by decide +kernel
theorem dX8_column_21 : decode cX8_column 21 = .ok (.isub, 1) := by decide +kernel
theorem dX8_column_22 : decode cX8_column 22 = .ok (.ireturn, 1) := by decide +kernel
theorem dX8_longest_0 : decode cX8_longest 0 = .ok (.iconst 0, 1) := by decide +kernel
theorem dX8_longest_1 : decode cX8_longest 1 = .ok (.istore_n 1, 1) := by decide +kernel
theorem dX8_longest_2 : decode cX8_longest 2 = .ok (.iconst 0, 1) := by decide +kernel
theorem dX8_longest_3 : decode cX8_longest 3 = .ok (.istore_n 2, 1) := by decide +kernel
theorem dX8_longest_4 : decode cX8_longest 4 = .ok (.iload_n 2, 1) := by decide +kernel
theorem dX8_longest_5 : decode cX8_longest 5 = .ok (.aload_n 0, 1) := by decide +kernel
theorem dX8_longest_6 : decode cX8_longest 6 = .ok (.getfield 7, 3) := by decide +kernel
theorem dX8_longest_9 : decode cX8_longest 9 = .ok (.iconst 0, 1) := by decide +kernel
theorem dX8_longest_10 : decode cX8_longest 10 = .ok (.iaload, 1) := by decide +kernel
theorem dX8_longest_11 : decode cX8_longest 11 = .ok (.if_icmp .gt 32, 3) := by decide +kernel
theorem dX8_longest_14 : decode cX8_longest 14 = .ok (.aload_n 0, 1) := by decide +kernel
theorem dX8_longest_15 : decode cX8_longest 15 = .ok (.iload_n 2, 1) := by decide +kernel
theorem dX8_longest_16 : decode cX8_longest 16 = .ok (.invokevirtual 64, 3) := by decide +kernel
theorem dX8_longest_19 : decode cX8_longest 19 = .ok (.aload_n 0, 1) := by decide +kernel
theorem dX8_longest_20 : decode cX8_longest 20 = .ok (.iload_n 2, 1) := by decide +kernel
theorem dX8_longest_21 : decode cX8_longest 21 = .ok (.invokevirtual 61, 3) := by decide +kernel
theorem dX8_longest_24 : decode cX8_longest 24 = .ok (.isub, 1) := by decide +kernel
theorem dX8_longest_25 : decode cX8_longest 25 = .ok (.istore_n 3, 1) := by decide +kernel
theorem dX8_longest_26 : decode cX8_longest 26 = .ok (.iload_n 3, 1) := by decide +kernel
theorem dX8_longest_27 : decode cX8_longest 27 = .ok (.iload_n 1, 1) := by decide +kernel
theorem dX8_longest_28 : decode cX8_longest 28 = .ok (.if_icmp .le 7, 3) := by decide +kernel
theorem dX8_longest_31 : decode cX8_longest 31 = .ok (.iload_n 3, 1) := by decide +kernel
theorem dX8_longest_32 : decode cX8_longest 32 = .ok (.goto 4, 3) := by decide +kernel
theorem dX8_longest_35 : decode cX8_longest 35 = .ok (.iload_n 1, 1) := by decide +kernel
theorem dX8_longest_36 : decode cX8_longest 36 = .ok (.istore_n 1, 1) := by decide +kernel
theorem dX8_longest_37 : decode cX8_longest 37 = .ok (.iinc 2 1, 3) := by decide +kernel
theorem dX8_longest_40 : decode cX8_longest 40 = .ok (.goto (-36), 3) := by decide +kernel
theorem dX8_longest_43 : decode cX8_longest 43 = .ok (.iload_n 1, 1) := by decide +kernel
theorem dX8_longest_44 : decode cX8_longest 44 = .ok (.ireturn, 1) := by decide +kernel
theorem dX8_longestLine_0 : decode cX8_longestLine 0 = .ok (.aload_n 0, 1) := by decide +kernel
theorem dX8_longestLine_1 : decode cX8_longestLine 1 = .ok (.iconst 0, 1) := by decide +kernel
theorem dX8_longestLine_2 : decode cX8_longestLine 2 = .ok (.putfield 21, 3) := by decide +kernel
theorem dX8_longestLine_5 : decode cX8_longestLine 5 = .ok (.aload_n 0, 1) := by decide +kernel
theorem dX8_longestLine_6 : decode cX8_longestLine 6 = .ok (.invokevirtual 193, 3) := by decide +kernel
theorem dX8_longestLine_9 : decode cX8_longestLine 9 = .ok (.ireturn, 1) := by decide +kernel
theorem dX8_words_0 : decode cX8_words 0 = .ok (.iconst 0, 1) := by decide +kernel
theorem dX8_words_1 : decode cX8_words 1 = .ok (.istore_n 1, 1) := by decide +kernel
theorem dX8_words_2 : decode cX8_words 2 = .ok (.iconst 0, 1) := by decide +kernel
theorem dX8_words_3 : decode cX8_words 3 = .ok (.istore_n 2, 1) := by decide +kernel
theorem dX8_words_4 : decode cX8_words 4 = .ok (.iload_n 2, 1) := by decide +kernel
theorem dX8_words_5 : decode cX8_words 5 = .ok (.aload_n 0, 1) := by decide +kernel
theorem dX8_words_6 : decode cX8_words 6 = .ok (.getfield 7, 3) := by decide +kernel
theorem dX8_words_9 : decode cX8_words 9 = .ok (.iconst 0, 1) := by decide +kernel
theorem dX8_words_10 : decode cX8_words 10 = .ok (.iaload, 1) := by decide +kernel
theorem dX8_words_11 : decode cX8_words 11 = .ok (.if_icmp .ge 35, 3) := by decide +kernel
theorem dX8_words_14 : decode cX8_words 14 = .ok (.iload_n 1, 1) := by decide +kernel
theorem dX8_words_15 : decode cX8_words 15 = .ok (.aload_n 0, 1) := by decide +kernel
theorem dX8_words_16 : decode cX8_words 16 = .ok (.iload_n 2, 1) := by decide +kernel
theorem dX8_words_17 : decode cX8_words 17 = .ok (.invokevirtual 44, 3) := by decide +kernel
theorem dX8_words_20 : decode cX8_words 20 = .ok (.ifCond .eq 17, 3) := by decide +kernel
theorem dX8_words_23 : decode cX8_words 23 = .ok (.aload_n 0, 1) := by decide +kernel
theorem dX8_words_24 : decode cX8_words 24 = .ok (.iload_n 2, 1) := by decide +kernel
theorem dX8_words_25 : decode cX8_words 25 = .ok (.iconst 1, 1) := by decide +kernel
theorem dX8_words_26 : decode cX8_words 26 = .ok (.isub, 1) := by decide +kernel
theorem dX8_words_27 : decode cX8_words 27 = .ok (.invokevirtual 44, 3) := by decide +kernel
theorem dX8_words_30 : decode cX8_words 30 = .ok (.ifCond .ne 7, 3) := by decide +kernel
theorem dX8_words_33 : decode cX8_words 33 = .ok (.iconst 1, 1) := by decide +kernel
theorem dX8_words_34 : decode cX8_words 34 = .ok (.goto 4, 3) := by decide +kernel
theorem dX8_words_37 : decode cX8_words 37 = .ok (.iconst 0, 1) := by decide +kernel
theorem dX8_words_38 : decode cX8_words 38 = .ok (.iadd, 1) := by decide +kernel
theorem dX8_words_39 : decode cX8_words 39 = .ok (.istore_n 1, 1) := by decide +kernel
theorem dX8_words_40 : decode cX8_words 40 = .ok (.iinc 2 1, 3) := by decide +kernel
theorem dX8_words_43 : decode cX8_words 43 = .ok (.goto (-39), 3) := by decide +kernel
theorem dX8_words_46 : decode cX8_words 46 = .ok (.iload_n 1, 1) := by decide +kernel
theorem dX8_words_47 : decode cX8_words 47 = .ok (.ireturn, 1) := by decide +kernel
theorem dX8_wordsByBegins_0 : decode cX8_wordsByBegins 0 = .ok (.aload_n 0, 1) := by decide +kernel
theorem dX8_wordsByBegins_1 : decode cX8_wordsByBegins 1 = .ok (.iconst 0, 1) := by decide +kernel
theorem dX8_wordsByBegins_2 : decode cX8_wordsByBegins 2 = .ok (.putfield 21, 3) := by decide +kernel
theorem dX8_wordsByBegins_5 : decode cX8_wordsByBegins 5 = .ok (.aload_n 0, 1) := by decide +kernel
theorem dX8_wordsByBegins_6 : decode cX8_wordsByBegins 6 = .ok (.invokevirtual 196, 3) := by decide +kernel
theorem dX8_wordsByBegins_9 : decode cX8_wordsByBegins 9 = .ok (.ireturn, 1) := by decide +kernel
theorem dX8_wordsByGoing_0 : decode cX8_wordsByGoing 0 = .ok (.aload_n 0, 1) := by decide +kernel
theorem dX8_wordsByGoing_1 : decode cX8_wordsByGoing 1 = .ok (.iconst 0, 1) := by decide +kernel
theorem dX8_wordsByGoing_2 : decode cX8_wordsByGoing 2 = .ok (.putfield 21, 3) := by decide +kernel
theorem dX8_wordsByGoing_5 : decode cX8_wordsByGoing 5 = .ok (.aload_n 0, 1) := by decide +kernel
theorem dX8_wordsByGoing_6 : decode cX8_wordsByGoing 6 = .ok (.invokevirtual 196, 3) := by decide +kernel
theorem dX8_wordsByGoing_9 : decode cX8_wordsByGoing 9 = .ok (.ireturn, 1) := by decide +kernel
theorem dX8_hoards_0 : decode cX8_hoards 0 = .ok (.aload_n 0, 1) := by decide +kernel
theorem dX8_hoards_1 : decode cX8_hoards 1 = .ok (.iconst 3, 1) := by decide +kernel
theorem dX8_hoards_2 : decode cX8_hoards 2 = .ok (.invokevirtual 187, 3) := by decide +kernel
theorem dX8_hoards_5 : decode cX8_hoards 5 = .ok (.ireturn, 1) := by decide +kernel
theorem dX8_caves_0 : decode cX8_caves 0 = .ok (.aload_n 0, 1) := by decide +kernel
theorem dX8_caves_1 : decode cX8_caves 1 = .ok (.iconst 5, 1) := by decide +kernel
theorem dX8_caves_2 : decode cX8_caves 2 = .ok (.invokevirtual 187, 3) := by decide +kernel
theorem dX8_caves_5 : decode cX8_caves 5 = .ok (.ireturn, 1) := by decide +kernel
theorem dX8_isHoard_0 : decode cX8_isHoard 0 = .ok (.iload_n 1, 1) := by decide +kernel
theorem dX8_isHoard_1 : decode cX8_isHoard 1 = .ok (.iconst 0, 1) := by decide +kernel
theorem dX8_isHoard_2 : decode cX8_isHoard 2 = .ok (.aload_n 0, 1) := by decide +kernel
theorem dX8_isHoard_3 : decode cX8_isHoard 3 = .ok (.getfield 7, 3) := by decide +kernel
theorem dX8_isHoard_6 : decode cX8_isHoard 6 = .ok (.iconst 3, 1) := by decide +kernel
theorem dX8_isHoard_7 : decode cX8_isHoard 7 = .ok (.iaload, 1) := by decide +kernel
theorem dX8_isHoard_8 : decode cX8_isHoard 8 = .ok (.iconst 1, 1) := by decide +kernel
theorem dX8_isHoard_9 : decode cX8_isHoard 9 = .ok (.isub, 1) := by decide +kernel
theorem dX8_isHoard_10 : decode cX8_isHoard 10 = .ok (.invokestatic 32, 3) := by decide +kernel
theorem dX8_isHoard_13 : decode cX8_isHoard 13 = .ok (.ireturn, 1) := by decide +kernel
theorem dX8_lengthOf_0 : decode cX8_lengthOf 0 = .ok (.aload_n 0, 1) := by decide +kernel
theorem dX8_lengthOf_1 : decode cX8_lengthOf 1 = .ok (.aload_n 0, 1) := by decide +kernel
theorem dX8_lengthOf_2 : decode cX8_lengthOf 2 = .ok (.iload_n 1, 1) := by decide +kernel
theorem dX8_lengthOf_3 : decode cX8_lengthOf 3 = .ok (.invokevirtual 199, 3) := by decide +kernel
theorem dX8_lengthOf_6 : decode cX8_lengthOf 6 = .ok (.iconst 1, 1) := by decide +kernel
theorem dX8_lengthOf_7 : decode cX8_lengthOf 7 = .ok (.iconst 1, 1) := by decide +kernel
theorem dX8_lengthOf_8 : decode cX8_lengthOf 8 = .ok (.invokevirtual 146, 3) := by decide +kernel
theorem dX8_lengthOf_11 : decode cX8_lengthOf 11 = .ok (.ifCond .eq 15, 3) := by decide +kernel
theorem dX8_lengthOf_14 : decode cX8_lengthOf 14 = .ok (.aload_n 0, 1) := by decide +kernel
theorem dX8_lengthOf_15 : decode cX8_lengthOf 15 = .ok (.getfield 7, 3) := by decide +kernel
theorem dX8_lengthOf_18 : decode cX8_lengthOf 18 = .ok (.bipush 10, 2) := by decide +kernel
theorem dX8_lengthOf_20 : decode cX8_lengthOf 20 = .ok (.iload_n 1, 1) := by decide +kernel
theorem dX8_lengthOf_21 : decode cX8_lengthOf 21 = .ok (.iadd, 1) := by decide +kernel
theorem dX8_lengthOf_22 : decode cX8_lengthOf 22 = .ok (.iaload, 1) := by decide +kernel
theorem dX8_lengthOf_23 : decode cX8_lengthOf 23 = .ok (.goto 4, 3) := by decide +kernel
theorem dX8_lengthOf_26 : decode cX8_lengthOf 26 = .ok (.iconst 0, 1) := by decide +kernel
theorem dX8_lengthOf_27 : decode cX8_lengthOf 27 = .ok (.ireturn, 1) := by decide +kernel
theorem dX8_codeIn_0 : decode cX8_codeIn 0 = .ok (.aload_n 0, 1) := by decide +kernel
theorem dX8_codeIn_1 : decode cX8_codeIn 1 = .ok (.iload_n 1, 1) := by decide +kernel
theorem dX8_codeIn_2 : decode cX8_codeIn 2 = .ok (.invokevirtual 199, 3) := by decide +kernel
theorem dX8_codeIn_5 : decode cX8_codeIn 5 = .ok (.istore_n 3, 1) := by decide +kernel
theorem dX8_codeIn_6 : decode cX8_codeIn 6 = .ok (.aload_n 0, 1) := by decide +kernel
theorem dX8_codeIn_7 : decode cX8_codeIn 7 = .ok (.iload_n 3, 1) := by decide +kernel
theorem dX8_codeIn_8 : decode cX8_codeIn 8 = .ok (.ifCond .eq 34, 3) := by decide +kernel
theorem dX8_codeIn_11 : decode cX8_codeIn 11 = .ok (.iload_n 2, 1) := by decide +kernel
theorem dX8_codeIn_12 : decode cX8_codeIn 12 = .ok (.iconst 0, 1) := by decide +kernel
theorem dX8_codeIn_13 : decode cX8_codeIn 13 = .ok (.aload_n 0, 1) := by decide +kernel
theorem dX8_codeIn_14 : decode cX8_codeIn 14 = .ok (.getfield 7, 3) := by decide +kernel
theorem dX8_codeIn_17 : decode cX8_codeIn 17 = .ok (.bipush 10, 2) := by decide +kernel
theorem dX8_codeIn_19 : decode cX8_codeIn 19 = .ok (.iload_n 3, 1) := by decide +kernel
theorem dX8_codeIn_20 : decode cX8_codeIn 20 = .ok (.ifCond .eq 7, 3) := by decide +kernel
theorem dX8_codeIn_23 : decode cX8_codeIn 23 = .ok (.iload_n 1, 1) := by decide +kernel
theorem dX8_codeIn_24 : decode cX8_codeIn 24 = .ok (.goto 4, 3) := by decide +kernel
theorem dX8_codeIn_27 : decode cX8_codeIn 27 = .ok (.iconst 0, 1) := by decide +kernel
theorem dX8_codeIn_28 : decode cX8_codeIn 28 = .ok (.iadd, 1) := by decide +kernel
theorem dX8_codeIn_29 : decode cX8_codeIn 29 = .ok (.iaload, 1) := by decide +kernel
theorem dX8_codeIn_30 : decode cX8_codeIn 30 = .ok (.iconst 1, 1) := by decide +kernel
theorem dX8_codeIn_31 : decode cX8_codeIn 31 = .ok (.isub, 1) := by decide +kernel
theorem dX8_codeIn_32 : decode cX8_codeIn 32 = .ok (.invokestatic 32, 3) := by decide +kernel
theorem dX8_codeIn_35 : decode cX8_codeIn 35 = .ok (.ifCond .eq 7, 3) := by decide +kernel
theorem dX8_codeIn_38 : decode cX8_codeIn 38 = .ok (.iconst 1, 1) := by decide +kernel
theorem dX8_codeIn_39 : decode cX8_codeIn 39 = .ok (.goto 4, 3) := by decide +kernel
theorem dX8_codeIn_42 : decode cX8_codeIn 42 = .ok (.iconst 0, 1) := by decide +kernel
theorem dX8_codeIn_43 : decode cX8_codeIn 43 = .ok (.iconst 1, 1) := by decide +kernel
theorem dX8_codeIn_44 : decode cX8_codeIn 44 = .ok (.iconst 1, 1) := by decide +kernel
theorem dX8_codeIn_45 : decode cX8_codeIn 45 = .ok (.invokevirtual 146, 3) := by decide +kernel
theorem dX8_codeIn_48 : decode cX8_codeIn 48 = .ok (.ifCond .eq 22, 3) := by decide +kernel
theorem dX8_codeIn_51 : decode cX8_codeIn 51 = .ok (.aload_n 0, 1) := by decide +kernel
theorem dX8_codeIn_52 : decode cX8_codeIn 52 = .ok (.getfield 7, 3) := by decide +kernel
theorem dX8_codeIn_55 : decode cX8_codeIn 55 = .ok (.sipush 218, 3) := by decide +kernel
theorem dX8_codeIn_58 : decode cX8_codeIn 58 = .ok (.sipush 200, 3) := by decide +kernel
theorem dX8_codeIn_61 : decode cX8_codeIn 61 = .ok (.iload_n 1, 1) := by decide +kernel
theorem dX8_codeIn_62 : decode cX8_codeIn 62 = .ok (.imul, 1) := by decide +kernel
theorem dX8_codeIn_63 : decode cX8_codeIn 63 = .ok (.iadd, 1) := by decide +kernel
theorem dX8_codeIn_64 : decode cX8_codeIn 64 = .ok (.iload_n 2, 1) := by decide +kernel
theorem dX8_codeIn_65 : decode cX8_codeIn 65 = .ok (.iadd, 1) := by decide +kernel
theorem dX8_codeIn_66 : decode cX8_codeIn 66 = .ok (.iaload, 1) := by decide +kernel
theorem dX8_codeIn_67 : decode cX8_codeIn 67 = .ok (.goto 4, 3) := by decide +kernel
theorem dX8_codeIn_70 : decode cX8_codeIn 70 = .ok (.iconst 0, 1) := by decide +kernel
theorem dX8_codeIn_71 : decode cX8_codeIn 71 = .ok (.ireturn, 1) := by decide +kernel
theorem dX8_nextHoard_0 : decode cX8_nextHoard 0 = .ok (.aload_n 0, 1) := by decide +kernel
theorem dX8_nextHoard_1 : decode cX8_nextHoard 1 = .ok (.aload_n 0, 1) := by decide +kernel
theorem dX8_nextHoard_2 : decode cX8_nextHoard 2 = .ok (.getfield 7, 3) := by decide +kernel
theorem dX8_nextHoard_5 : decode cX8_nextHoard 5 = .ok (.iconst 3, 1) := by decide +kernel
theorem dX8_nextHoard_6 : decode cX8_nextHoard 6 = .ok (.iaload, 1) := by decide +kernel
theorem dX8_nextHoard_7 : decode cX8_nextHoard 7 = .ok (.ifCond .le 7, 3) := by decide +kernel
theorem dX8_nextHoard_10 : decode cX8_nextHoard 10 = .ok (.iconst 1, 1) := by decide +kernel
theorem dX8_nextHoard_11 : decode cX8_nextHoard 11 = .ok (.goto 4, 3) := by decide +kernel
theorem dX8_nextHoard_14 : decode cX8_nextHoard 14 = .ok (.iconst 0, 1) := by decide +kernel
theorem dX8_nextHoard_15 : decode cX8_nextHoard 15 = .ok (.iconst 1, 1) := by decide +kernel
theorem dX8_nextHoard_16 : decode cX8_nextHoard 16 = .ok (.iconst 1, 1) := by decide +kernel
theorem dX8_nextHoard_17 : decode cX8_nextHoard 17 = .ok (.invokevirtual 146, 3) := by decide +kernel
theorem dX8_nextHoard_20 : decode cX8_nextHoard 20 = .ok (.ifCond .eq 12, 3) := by decide +kernel
theorem dX8_nextHoard_23 : decode cX8_nextHoard 23 = .ok (.aload_n 0, 1) := by decide +kernel
theorem dX8_nextHoard_24 : decode cX8_nextHoard 24 = .ok (.getfield 7, 3) := by decide +kernel
theorem dX8_nextHoard_27 : decode cX8_nextHoard 27 = .ok (.iconst 4, 1) := by decide +kernel
theorem dX8_nextHoard_28 : decode cX8_nextHoard 28 = .ok (.iaload, 1) := by decide +kernel
theorem dX8_nextHoard_29 : decode cX8_nextHoard 29 = .ok (.goto 4, 3) := by decide +kernel
theorem dX8_nextHoard_32 : decode cX8_nextHoard 32 = .ok (.iconst 0, 1) := by decide +kernel
theorem dX8_nextHoard_33 : decode cX8_nextHoard 33 = .ok (.ireturn, 1) := by decide +kernel
theorem dX8_isGrowing_0 : decode cX8_isGrowing 0 = .ok (.aload_n 0, 1) := by decide +kernel
theorem dX8_isGrowing_1 : decode cX8_isGrowing 1 = .ok (.iconst 0, 1) := by decide +kernel
theorem dX8_isGrowing_2 : decode cX8_isGrowing 2 = .ok (.putfield 21, 3) := by decide +kernel
theorem dX8_isGrowing_5 : decode cX8_isGrowing 5 = .ok (.aload_n 0, 1) := by decide +kernel
theorem dX8_isGrowing_6 : decode cX8_isGrowing 6 = .ok (.getfield 67, 3) := by decide +kernel
theorem dX8_isGrowing_9 : decode cX8_isGrowing 9 = .ok (.iconst 1, 1) := by decide +kernel
theorem dX8_isGrowing_10 : decode cX8_isGrowing 10 = .ok (.if_icmp .ne 7, 3) := by decide +kernel
theorem dX8_isGrowing_13 : decode cX8_isGrowing 13 = .ok (.iconst 1, 1) := by decide +kernel
theorem dX8_isGrowing_14 : decode cX8_isGrowing 14 = .ok (.goto 4, 3) := by decide +kernel
theorem dX8_isGrowing_17 : decode cX8_isGrowing 17 = .ok (.iconst 0, 1) := by decide +kernel
theorem dX8_isGrowing_18 : decode cX8_isGrowing 18 = .ok (.ireturn, 1) := by decide +kernel
theorem dX8_canTurnYank_0 : decode cX8_canTurnYank 0 = .ok (.aload_n 0, 1) := by decide +kernel
theorem dX8_canTurnYank_1 : decode cX8_canTurnYank 1 = .ok (.iconst 0, 1) := by decide +kernel
theorem dX8_canTurnYank_2 : decode cX8_canTurnYank 2 = .ok (.putfield 21, 3) := by decide +kernel
theorem dX8_canTurnYank_5 : decode cX8_canTurnYank 5 = .ok (.aload_n 0, 1) := by decide +kernel
theorem dX8_canTurnYank_6 : decode cX8_canTurnYank 6 = .ok (.getfield 67, 3) := by decide +kernel
theorem dX8_canTurnYank_9 : decode cX8_canTurnYank 9 = .ok (.iconst 2, 1) := by decide +kernel
theorem dX8_canTurnYank_10 : decode cX8_canTurnYank 10 = .ok (.if_icmp .ne 7, 3) := by decide +kernel
theorem dX8_canTurnYank_13 : decode cX8_canTurnYank 13 = .ok (.iconst 1, 1) := by decide +kernel
theorem dX8_canTurnYank_14 : decode cX8_canTurnYank 14 = .ok (.goto 4, 3) := by decide +kernel
theorem dX8_canTurnYank_17 : decode cX8_canTurnYank 17 = .ok (.iconst 0, 1) := by decide +kernel
theorem dX8_canTurnYank_18 : decode cX8_canTurnYank 18 = .ok (.ireturn, 1) := by decide +kernel
theorem dX8_lengthIfYanked_0 : decode cX8_lengthIfYanked 0 = .ok (.aload_n 0, 1) := by decide +kernel
theorem dX8_lengthIfYanked_1 : decode cX8_lengthIfYanked 1 = .ok (.aload_n 0, 1) := by decide +kernel
theorem dX8_lengthIfYanked_2 : decode cX8_lengthIfYanked 2 = .ok (.iload_n 1, 1) := by decide +kernel
theorem dX8_lengthIfYanked_3 : decode cX8_lengthIfYanked 3 = .ok (.invokevirtual 199, 3) := by decide +kernel
theorem dX8_lengthIfYanked_6 : decode cX8_lengthIfYanked 6 = .ok (.iconst 1, 1) := by decide +kernel
theorem dX8_lengthIfYanked_7 : decode cX8_lengthIfYanked 7 = .ok (.iconst 1, 1) := by decide +kernel
theorem dX8_lengthIfYanked_8 : decode cX8_lengthIfYanked 8 = .ok (.invokevirtual 146, 3) := by decide +kernel
theorem dX8_lengthIfYanked_11 : decode cX8_lengthIfYanked 11 = .ok (.ifCond .eq 22, 3) := by decide +kernel
theorem dX8_lengthIfYanked_14 : decode cX8_lengthIfYanked 14 = .ok (.aload_n 0, 1) := by decide +kernel
theorem dX8_lengthIfYanked_15 : decode cX8_lengthIfYanked 15 = .ok (.getfield 7, 3) := by decide +kernel
theorem dX8_lengthIfYanked_18 : decode cX8_lengthIfYanked 18 = .ok (.iconst 0, 1) := by decide +kernel
theorem dX8_lengthIfYanked_19 : decode cX8_lengthIfYanked 19 = .ok (.iaload, 1) := by decide +kernel
theorem dX8_lengthIfYanked_20 : decode cX8_lengthIfYanked 20 = .ok (.aload_n 0, 1) := by decide +kernel
theorem dX8_lengthIfYanked_21 : decode cX8_lengthIfYanked 21 = .ok (.getfield 7, 3) := by decide +kernel
theorem dX8_lengthIfYanked_24 : decode cX8_lengthIfYanked 24 = .ok (.bipush 10, 2) := by decide +kernel
theorem dX8_lengthIfYanked_26 : decode cX8_lengthIfYanked 26 = .ok (.iload_n 1, 1) := by decide +kernel
theorem dX8_lengthIfYanked_27 : decode cX8_lengthIfYanked 27 = .ok (.iadd, 1) := by decide +kernel
theorem dX8_lengthIfYanked_28 : decode cX8_lengthIfYanked 28 = .ok (.iaload, 1) := by decide +kernel
theorem dX8_lengthIfYanked_29 : decode cX8_lengthIfYanked 29 = .ok (.iadd, 1) := by decide +kernel
theorem dX8_lengthIfYanked_30 : decode cX8_lengthIfYanked 30 = .ok (.goto 4, 3) := by decide +kernel
theorem dX8_lengthIfYanked_33 : decode cX8_lengthIfYanked 33 = .ok (.iconst 0, 1) := by decide +kernel
theorem dX8_lengthIfYanked_34 : decode cX8_lengthIfYanked 34 = .ok (.ireturn, 1) := by decide +kernel
theorem dX8_sum_0 : decode cX8_sum 0 = .ok (.iconst 0, 1) := by decide +kernel
theorem dX8_sum_1 : decode cX8_sum 1 = .ok (.istore_n 1, 1) := by decide +kernel
theorem dX8_sum_2 : decode cX8_sum 2 = .ok (.iconst 0, 1) := by decide +kernel
theorem dX8_sum_3 : decode cX8_sum 3 = .ok (.istore_n 2, 1) := by decide +kernel
theorem dX8_sum_4 : decode cX8_sum 4 = .ok (.iload_n 2, 1) := by decide +kernel
theorem dX8_sum_5 : decode cX8_sum 5 = .ok (.aload_n 0, 1) := by decide +kernel
theorem dX8_sum_6 : decode cX8_sum 6 = .ok (.getfield 7, 3) := by decide +kernel
theorem dX8_sum_9 : decode cX8_sum 9 = .ok (.iconst 3, 1) := by decide +kernel
theorem dX8_sum_10 : decode cX8_sum 10 = .ok (.iaload, 1) := by decide +kernel
theorem dX8_sum_11 : decode cX8_sum 11 = .ok (.if_icmp .ge 21, 3) := by decide +kernel
theorem dX8_sum_14 : decode cX8_sum 14 = .ok (.iload_n 1, 1) := by decide +kernel
theorem dX8_sum_15 : decode cX8_sum 15 = .ok (.aload_n 0, 1) := by decide +kernel
theorem dX8_sum_16 : decode cX8_sum 16 = .ok (.getfield 7, 3) := by decide +kernel
theorem dX8_sum_19 : decode cX8_sum 19 = .ok (.bipush 10, 2) := by decide +kernel
theorem dX8_sum_21 : decode cX8_sum 21 = .ok (.iload_n 2, 1) := by decide +kernel
theorem dX8_sum_22 : decode cX8_sum 22 = .ok (.iadd, 1) := by decide +kernel
theorem dX8_sum_23 : decode cX8_sum 23 = .ok (.iaload, 1) := by decide +kernel
theorem dX8_sum_24 : decode cX8_sum 24 = .ok (.iadd, 1) := by decide +kernel
theorem dX8_sum_25 : decode cX8_sum 25 = .ok (.istore_n 1, 1) := by decide +kernel
theorem dX8_sum_26 : decode cX8_sum 26 = .ok (.iinc 2 1, 3) := by decide +kernel
theorem dX8_sum_29 : decode cX8_sum 29 = .ok (.goto (-25), 3) := by decide +kernel
theorem dX8_sum_32 : decode cX8_sum 32 = .ok (.iload_n 1, 1) := by decide +kernel
theorem dX8_sum_33 : decode cX8_sum 33 = .ok (.ireturn, 1) := by decide +kernel
theorem dX8_weight_0 : decode cX8_weight 0 = .ok (.aload_n 0, 1) := by decide +kernel
theorem dX8_weight_1 : decode cX8_weight 1 = .ok (.iconst 0, 1) := by decide +kernel
theorem dX8_weight_2 : decode cX8_weight 2 = .ok (.putfield 21, 3) := by decide +kernel
theorem dX8_weight_5 : decode cX8_weight 5 = .ok (.aload_n 0, 1) := by decide +kernel
theorem dX8_weight_6 : decode cX8_weight 6 = .ok (.invokevirtual 202, 3) := by decide +kernel
theorem dX8_weight_9 : decode cX8_weight 9 = .ok (.ireturn, 1) := by decide +kernel
theorem dX8_heavy_0 : decode cX8_heavy 0 = .ok (.iconst 0, 1) := by decide +kernel
theorem dX8_heavy_1 : decode cX8_heavy 1 = .ok (.istore_n 1, 1) := by decide +kernel
theorem dX8_heavy_2 : decode cX8_heavy 2 = .ok (.iconst 1, 1) := by decide +kernel
theorem dX8_heavy_3 : decode cX8_heavy 3 = .ok (.istore_n 2, 1) := by decide +kernel
theorem dX8_heavy_4 : decode cX8_heavy 4 = .ok (.iload_n 2, 1) := by decide +kernel
theorem dX8_heavy_5 : decode cX8_heavy 5 = .ok (.aload_n 0, 1) := by decide +kernel
theorem dX8_heavy_6 : decode cX8_heavy 6 = .ok (.getfield 7, 3) := by decide +kernel
theorem dX8_heavy_9 : decode cX8_heavy 9 = .ok (.iconst 3, 1) := by decide +kernel
theorem dX8_heavy_10 : decode cX8_heavy 10 = .ok (.iaload, 1) := by decide +kernel
theorem dX8_heavy_11 : decode cX8_heavy 11 = .ok (.if_icmp .ge 36, 3) := by decide +kernel
theorem dX8_heavy_14 : decode cX8_heavy 14 = .ok (.aload_n 0, 1) := by decide +kernel
theorem dX8_heavy_15 : decode cX8_heavy 15 = .ok (.getfield 7, 3) := by decide +kernel
theorem dX8_heavy_18 : decode cX8_heavy 18 = .ok (.bipush 10, 2) := by decide +kernel
theorem dX8_heavy_20 : decode cX8_heavy 20 = .ok (.iload_n 2, 1) := by decide +kernel
theorem dX8_heavy_21 : decode cX8_heavy 21 = .ok (.iadd, 1) := by decide +kernel
theorem dX8_heavy_22 : decode cX8_heavy 22 = .ok (.iaload, 1) := by decide +kernel
theorem dX8_heavy_23 : decode cX8_heavy 23 = .ok (.aload_n 0, 1) := by decide +kernel
theorem dX8_heavy_24 : decode cX8_heavy 24 = .ok (.getfield 7, 3) := by decide +kernel
theorem dX8_heavy_27 : decode cX8_heavy 27 = .ok (.bipush 10, 2) := by decide +kernel
theorem dX8_heavy_29 : decode cX8_heavy 29 = .ok (.iload_n 1, 1) := by decide +kernel
theorem dX8_heavy_30 : decode cX8_heavy 30 = .ok (.iadd, 1) := by decide +kernel
theorem dX8_heavy_31 : decode cX8_heavy 31 = .ok (.iaload, 1) := by decide +kernel
theorem dX8_heavy_32 : decode cX8_heavy 32 = .ok (.if_icmp .le 7, 3) := by decide +kernel
theorem dX8_heavy_35 : decode cX8_heavy 35 = .ok (.iload_n 2, 1) := by decide +kernel
theorem dX8_heavy_36 : decode cX8_heavy 36 = .ok (.goto 4, 3) := by decide +kernel
theorem dX8_heavy_39 : decode cX8_heavy 39 = .ok (.iload_n 1, 1) := by decide +kernel
theorem dX8_heavy_40 : decode cX8_heavy 40 = .ok (.istore_n 1, 1) := by decide +kernel
theorem dX8_heavy_41 : decode cX8_heavy 41 = .ok (.iinc 2 1, 3) := by decide +kernel
theorem dX8_heavy_44 : decode cX8_heavy 44 = .ok (.goto (-40), 3) := by decide +kernel
theorem dX8_heavy_47 : decode cX8_heavy 47 = .ok (.iload_n 1, 1) := by decide +kernel
theorem dX8_heavy_48 : decode cX8_heavy 48 = .ok (.ireturn, 1) := by decide +kernel
theorem dX8_heaviest_0 : decode cX8_heaviest 0 = .ok (.aload_n 0, 1) := by decide +kernel
theorem dX8_heaviest_1 : decode cX8_heaviest 1 = .ok (.aload_n 0, 1) := by decide +kernel
theorem dX8_heaviest_2 : decode cX8_heaviest 2 = .ok (.getfield 7, 3) := by decide +kernel
theorem dX8_heaviest_5 : decode cX8_heaviest 5 = .ok (.iconst 3, 1) := by decide +kernel
theorem dX8_heaviest_6 : decode cX8_heaviest 6 = .ok (.iaload, 1) := by decide +kernel
theorem dX8_heaviest_7 : decode cX8_heaviest 7 = .ok (.ifCond .le 7, 3) := by decide +kernel
theorem dX8_heaviest_10 : decode cX8_heaviest 10 = .ok (.iconst 1, 1) := by decide +kernel
theorem dX8_heaviest_11 : decode cX8_heaviest 11 = .ok (.goto 4, 3) := by decide +kernel
theorem dX8_heaviest_14 : decode cX8_heaviest 14 = .ok (.iconst 0, 1) := by decide +kernel
theorem dX8_heaviest_15 : decode cX8_heaviest 15 = .ok (.iconst 1, 1) := by decide +kernel
theorem dX8_heaviest_16 : decode cX8_heaviest 16 = .ok (.iconst 1, 1) := by decide +kernel
theorem dX8_heaviest_17 : decode cX8_heaviest 17 = .ok (.invokevirtual 146, 3) := by decide +kernel
theorem dX8_heaviest_20 : decode cX8_heaviest 20 = .ok (.ifCond .eq 10, 3) := by decide +kernel
theorem dX8_heaviest_23 : decode cX8_heaviest 23 = .ok (.aload_n 0, 1) := by decide +kernel
theorem dX8_heaviest_24 : decode cX8_heaviest 24 = .ok (.invokevirtual 205, 3) := by decide +kernel
theorem dX8_heaviest_27 : decode cX8_heaviest 27 = .ok (.goto 4, 3) := by decide +kernel
theorem dX8_heaviest_30 : decode cX8_heaviest 30 = .ok (.iconst 0, 1) := by decide +kernel
theorem dX8_heaviest_31 : decode cX8_heaviest 31 = .ok (.ireturn, 1) := by decide +kernel
theorem dX8_killed_0 : decode cX8_killed 0 = .ok (.aload_n 0, 1) := by decide +kernel
theorem dX8_killed_1 : decode cX8_killed 1 = .ok (.bipush 6, 2) := by decide +kernel
theorem dX8_killed_3 : decode cX8_killed 3 = .ok (.invokevirtual 187, 3) := by decide +kernel
theorem dX8_killed_6 : decode cX8_killed 6 = .ok (.ireturn, 1) := by decide +kernel
theorem dX8_yanked_0 : decode cX8_yanked 0 = .ok (.aload_n 0, 1) := by decide +kernel
theorem dX8_yanked_1 : decode cX8_yanked 1 = .ok (.bipush 7, 2) := by decide +kernel
theorem dX8_yanked_3 : decode cX8_yanked 3 = .ok (.invokevirtual 187, 3) := by decide +kernel
theorem dX8_yanked_6 : decode cX8_yanked 6 = .ok (.ireturn, 1) := by decide +kernel
theorem dX8_written_0 : decode cX8_written 0 = .ok (.aload_n 0, 1) := by decide +kernel
theorem dX8_written_1 : decode cX8_written 1 = .ok (.bipush 8, 2) := by decide +kernel
theorem dX8_written_3 : decode cX8_written 3 = .ok (.invokevirtual 187, 3) := by decide +kernel
theorem dX8_written_6 : decode cX8_written 6 = .ok (.ireturn, 1) := by decide +kernel
theorem dX8_lostHoards_0 : decode cX8_lostHoards 0 = .ok (.aload_n 0, 1) := by decide +kernel
theorem dX8_lostHoards_1 : decode cX8_lostHoards 1 = .ok (.bipush 9, 2) := by decide +kernel
theorem dX8_lostHoards_3 : decode cX8_lostHoards 3 = .ok (.invokevirtual 187, 3) := by decide +kernel
theorem dX8_lostHoards_6 : decode cX8_lostHoards 6 = .ok (.ireturn, 1) := by decide +kernel
theorem dX8_lengthByAccount_0 : decode cX8_lengthByAccount 0 = .ok (.aload_n 0, 1) := by decide +kernel
theorem dX8_lengthByAccount_1 : decode cX8_lengthByAccount 1 = .ok (.iconst 0, 1) := by decide +kernel
theorem dX8_lengthByAccount_2 : decode cX8_lengthByAccount 2 = .ok (.invokevirtual 187, 3) := by decide +kernel
theorem dX8_lengthByAccount_5 : decode cX8_lengthByAccount 5 = .ok (.ireturn, 1) := by decide +kernel
theorem dX8_meanHoard_0 : decode cX8_meanHoard 0 = .ok (.aload_n 0, 1) := by decide +kernel
theorem dX8_meanHoard_1 : decode cX8_meanHoard 1 = .ok (.iconst 0, 1) := by decide +kernel
theorem dX8_meanHoard_2 : decode cX8_meanHoard 2 = .ok (.putfield 21, 3) := by decide +kernel
theorem dX8_meanHoard_5 : decode cX8_meanHoard 5 = .ok (.aload_n 0, 1) := by decide +kernel
theorem dX8_meanHoard_6 : decode cX8_meanHoard 6 = .ok (.getfield 7, 3) := by decide +kernel
theorem dX8_meanHoard_9 : decode cX8_meanHoard 9 = .ok (.iconst 3, 1) := by decide +kernel
theorem dX8_meanHoard_10 : decode cX8_meanHoard 10 = .ok (.iaload, 1) := by decide +kernel
theorem dX8_meanHoard_11 : decode cX8_meanHoard 11 = .ok (.ifCond .ne 7, 3) := by decide +kernel
theorem dX8_meanHoard_14 : decode cX8_meanHoard 14 = .ok (.dconst 0, 1) := by decide +kernel
theorem dX8_meanHoard_15 : decode cX8_meanHoard 15 = .ok (.goto 16, 3) := by decide +kernel
theorem dX8_meanHoard_18 : decode cX8_meanHoard 18 = .ok (.aload_n 0, 1) := by decide +kernel
theorem dX8_meanHoard_19 : decode cX8_meanHoard 19 = .ok (.invokevirtual 202, 3) := by decide +kernel
theorem dX8_meanHoard_22 : decode cX8_meanHoard 22 = .ok (.i2d, 1) := by decide +kernel
theorem dX8_meanHoard_23 : decode cX8_meanHoard 23 = .ok (.aload_n 0, 1) := by decide +kernel
theorem dX8_meanHoard_24 : decode cX8_meanHoard 24 = .ok (.getfield 7, 3) := by decide +kernel
theorem dX8_meanHoard_27 : decode cX8_meanHoard 27 = .ok (.iconst 3, 1) := by decide +kernel
theorem dX8_meanHoard_28 : decode cX8_meanHoard 28 = .ok (.iaload, 1) := by decide +kernel
theorem dX8_meanHoard_29 : decode cX8_meanHoard 29 = .ok (.i2d, 1) := by decide +kernel
theorem dX8_meanHoard_30 : decode cX8_meanHoard 30 = .ok (.ddiv, 1) := by decide +kernel
theorem dX8_meanHoard_31 : decode cX8_meanHoard 31 = .ok (.dreturn, 1) := by decide +kernel
theorem dX8_bits_0 : decode cX8_bits 0 = .ok (.iload_n 0, 1) := by decide +kernel
theorem dX8_bits_1 : decode cX8_bits 1 = .ok (.ifCond .ne 5, 3) := by decide +kernel
theorem dX8_bits_4 : decode cX8_bits 4 = .ok (.lconst 0, 1) := by decide +kernel
theorem dX8_bits_5 : decode cX8_bits 5 = .ok (.lreturn, 1) := by decide +kernel
theorem dX8_bits_6 : decode cX8_bits 6 = .ok (.iload_n 0, 1) := by decide +kernel
theorem dX8_bits_7 : decode cX8_bits 7 = .ok (.i2l, 1) := by decide +kernel
theorem dX8_bits_8 : decode cX8_bits 8 = .ok (.lstore_n 2, 1) := by decide +kernel
theorem dX8_bits_9 : decode cX8_bits 9 = .ok (.iconst 0, 1) := by decide +kernel
theorem dX8_bits_10 : decode cX8_bits 10 = .ok (.istore 4, 2) := by decide +kernel
theorem dX8_bits_12 : decode cX8_bits 12 = .ok (.lload_n 2, 1) := by decide +kernel
theorem dX8_bits_13 : decode cX8_bits 13 = .ok (.iload_n 1, 1) := by decide +kernel
theorem dX8_bits_14 : decode cX8_bits 14 = .ok (.i2l, 1) := by decide +kernel
theorem dX8_bits_15 : decode cX8_bits 15 = .ok (.ldiv, 1) := by decide +kernel
theorem dX8_bits_16 : decode cX8_bits 16 = .ok (.ldc2_w 208, 3) := by decide +kernel
theorem dX8_bits_19 : decode cX8_bits 19 = .ok (.lcmp, 1) := by decide +kernel
theorem dX8_bits_20 : decode cX8_bits 20 = .ok (.ifCond .ge 15, 3) := by decide +kernel
theorem dX8_bits_23 : decode cX8_bits 23 = .ok (.ldc2_w 210, 3) := by decide +kernel
theorem dX8_bits_26 : decode cX8_bits 26 = .ok (.lload_n 2, 1) := by decide +kernel
theorem dX8_bits_27 : decode cX8_bits 27 = .ok (.lmul, 1) := by decide +kernel
theorem dX8_bits_28 : decode cX8_bits 28 = .ok (.lstore_n 2, 1) := by decide +kernel
theorem dX8_bits_29 : decode cX8_bits 29 = .ok (.iinc 4 1, 3) := by decide +kernel
theorem dX8_bits_32 : decode cX8_bits 32 = .ok (.goto (-20), 3) := by decide +kernel
theorem dX8_bits_35 : decode cX8_bits 35 = .ok (.lload_n 2, 1) := by decide +kernel
theorem dX8_bits_36 : decode cX8_bits 36 = .ok (.iload_n 1, 1) := by decide +kernel
theorem dX8_bits_37 : decode cX8_bits 37 = .ok (.i2l, 1) := by decide +kernel
theorem dX8_bits_38 : decode cX8_bits 38 = .ok (.ldiv, 1) := by decide +kernel
theorem dX8_bits_39 : decode cX8_bits 39 = .ok (.lstore 5, 2) := by decide +kernel
theorem dX8_bits_41 : decode cX8_bits 41 = .ok (.lload_n 2, 1) := by decide +kernel
theorem dX8_bits_42 : decode cX8_bits 42 = .ok (.iload_n 1, 1) := by decide +kernel
theorem dX8_bits_43 : decode cX8_bits 43 = .ok (.i2l, 1) := by decide +kernel
theorem dX8_bits_44 : decode cX8_bits 44 = .ok (.lrem, 1) := by decide +kernel
theorem dX8_bits_45 : decode cX8_bits 45 = .ok (.ldc2_w 210, 3) := by decide +kernel
theorem dX8_bits_48 : decode cX8_bits 48 = .ok (.lmul, 1) := by decide +kernel
theorem dX8_bits_49 : decode cX8_bits 49 = .ok (.lstore 7, 2) := by decide +kernel
theorem dX8_bits_51 : decode cX8_bits 51 = .ok (.lload 5, 2) := by decide +kernel
theorem dX8_bits_53 : decode cX8_bits 53 = .ok (.lload 7, 2) := by decide +kernel
theorem dX8_bits_55 : decode cX8_bits 55 = .ok (.iload_n 1, 1) := by decide +kernel
theorem dX8_bits_56 : decode cX8_bits 56 = .ok (.i2l, 1) := by decide +kernel
theorem dX8_bits_57 : decode cX8_bits 57 = .ok (.lcmp, 1) := by decide +kernel
theorem dX8_bits_58 : decode cX8_bits 58 = .ok (.ifCond .gt 22, 3) := by decide +kernel
theorem dX8_bits_61 : decode cX8_bits 61 = .ok (.lload 7, 2) := by decide +kernel
theorem dX8_bits_63 : decode cX8_bits 63 = .ok (.iload_n 1, 1) := by decide +kernel
theorem dX8_bits_64 : decode cX8_bits 64 = .ok (.i2l, 1) := by decide +kernel
theorem dX8_bits_65 : decode cX8_bits 65 = .ok (.lcmp, 1) := by decide +kernel
theorem dX8_bits_66 : decode cX8_bits 66 = .ok (.ifCond .ne 18, 3) := by decide +kernel
theorem dX8_bits_69 : decode cX8_bits 69 = .ok (.lload 5, 2) := by decide +kernel
theorem dX8_bits_71 : decode cX8_bits 71 = .ok (.ldc2_w 210, 3) := by decide +kernel
theorem dX8_bits_74 : decode cX8_bits 74 = .ok (.lrem, 1) := by decide +kernel
theorem dX8_bits_75 : decode cX8_bits 75 = .ok (.lconst 1, 1) := by decide +kernel
theorem dX8_bits_76 : decode cX8_bits 76 = .ok (.lcmp, 1) := by decide +kernel
theorem dX8_bits_77 : decode cX8_bits 77 = .ok (.ifCond .ne 7, 3) := by decide +kernel
theorem dX8_bits_80 : decode cX8_bits 80 = .ok (.lconst 1, 1) := by decide +kernel
theorem dX8_bits_81 : decode cX8_bits 81 = .ok (.goto 4, 3) := by decide +kernel
theorem dX8_bits_84 : decode cX8_bits 84 = .ok (.lconst 0, 1) := by decide +kernel
theorem dX8_bits_85 : decode cX8_bits 85 = .ok (.ladd, 1) := by decide +kernel
theorem dX8_bits_86 : decode cX8_bits 86 = .ok (.lstore 5, 2) := by decide +kernel
theorem dX8_bits_88 : decode cX8_bits 88 = .ok (.lload 5, 2) := by decide +kernel
theorem dX8_bits_90 : decode cX8_bits 90 = .ok (.ldc2_w 212, 3) := by decide +kernel
theorem dX8_bits_93 : decode cX8_bits 93 = .ok (.lcmp, 1) := by decide +kernel
theorem dX8_bits_94 : decode cX8_bits 94 = .ok (.ifCond .ne 11, 3) := by decide +kernel
theorem dX8_bits_97 : decode cX8_bits 97 = .ok (.ldc2_w 208, 3) := by decide +kernel
theorem dX8_bits_100 : decode cX8_bits 100 = .ok (.lstore 5, 2) := by decide +kernel
theorem dX8_bits_102 : decode cX8_bits 102 = .ok (.iinc 4 (-1), 3) := by decide +kernel
theorem dX8_bits_105 : decode cX8_bits 105 = .ok (.sipush 1075, 3) := by decide +kernel
theorem dX8_bits_108 : decode cX8_bits 108 = .ok (.iload 4, 2) := by decide +kernel
theorem dX8_bits_110 : decode cX8_bits 110 = .ok (.isub, 1) := by decide +kernel
theorem dX8_bits_111 : decode cX8_bits 111 = .ok (.i2l, 1) := by decide +kernel
theorem dX8_bits_112 : decode cX8_bits 112 = .ok (.ldc2_w 208, 3) := by decide +kernel
theorem dX8_bits_115 : decode cX8_bits 115 = .ok (.lmul, 1) := by decide +kernel
theorem dX8_bits_116 : decode cX8_bits 116 = .ok (.lload 5, 2) := by decide +kernel
theorem dX8_bits_118 : decode cX8_bits 118 = .ok (.ldc2_w 208, 3) := by decide +kernel
theorem dX8_bits_121 : decode cX8_bits 121 = .ok (.lsub, 1) := by decide +kernel
theorem dX8_bits_122 : decode cX8_bits 122 = .ok (.ladd, 1) := by decide +kernel
theorem dX8_bits_123 : decode cX8_bits 123 = .ok (.lreturn, 1) := by decide +kernel
theorem dX8_hashOfScroll_0 : decode cX8_hashOfScroll 0 = .ok (.ldc2_w 214, 3) := by decide +kernel
theorem dX8_hashOfScroll_3 : decode cX8_hashOfScroll 3 = .ok (.lstore_n 1, 1) := by decide +kernel
theorem dX8_hashOfScroll_4 : decode cX8_hashOfScroll 4 = .ok (.ldc2_w 216, 3) := by decide +kernel
theorem dX8_hashOfScroll_7 : decode cX8_hashOfScroll 7 = .ok (.lload_n 1, 1) := by decide +kernel
theorem dX8_hashOfScroll_8 : decode cX8_hashOfScroll 8 = .ok (.lmul, 1) := by decide +kernel
theorem dX8_hashOfScroll_9 : decode cX8_hashOfScroll 9 = .ok (.aload_n 0, 1) := by decide +kernel
theorem dX8_hashOfScroll_10 : decode cX8_hashOfScroll 10 = .ok (.getfield 7, 3) := by decide +kernel
theorem dX8_hashOfScroll_13 : decode cX8_hashOfScroll 13 = .ok (.iconst 0, 1) := by decide +kernel
theorem dX8_hashOfScroll_14 : decode cX8_hashOfScroll 14 = .ok (.iaload, 1) := by decide +kernel
theorem dX8_hashOfScroll_15 : decode cX8_hashOfScroll 15 = .ok (.i2l, 1) := by decide +kernel
theorem dX8_hashOfScroll_16 : decode cX8_hashOfScroll 16 = .ok (.ladd, 1) := by decide +kernel
theorem dX8_hashOfScroll_17 : decode cX8_hashOfScroll 17 = .ok (.lstore_n 1, 1) := by decide +kernel
theorem dX8_hashOfScroll_18 : decode cX8_hashOfScroll 18 = .ok (.iconst 0, 1) := by decide +kernel
theorem dX8_hashOfScroll_19 : decode cX8_hashOfScroll 19 = .ok (.istore_n 3, 1) := by decide +kernel
theorem dX8_hashOfScroll_20 : decode cX8_hashOfScroll 20 = .ok (.iload_n 3, 1) := by decide +kernel
theorem dX8_hashOfScroll_21 : decode cX8_hashOfScroll 21 = .ok (.aload_n 0, 1) := by decide +kernel
theorem dX8_hashOfScroll_22 : decode cX8_hashOfScroll 22 = .ok (.getfield 7, 3) := by decide +kernel
theorem dX8_hashOfScroll_25 : decode cX8_hashOfScroll 25 = .ok (.iconst 0, 1) := by decide +kernel
theorem dX8_hashOfScroll_26 : decode cX8_hashOfScroll 26 = .ok (.iaload, 1) := by decide +kernel
theorem dX8_hashOfScroll_27 : decode cX8_hashOfScroll 27 = .ok (.if_icmp .ge 22, 3) := by decide +kernel
theorem dX8_hashOfScroll_30 : decode cX8_hashOfScroll 30 = .ok (.ldc2_w 216, 3) := by decide +kernel
theorem dX8_hashOfScroll_33 : decode cX8_hashOfScroll 33 = .ok (.lload_n 1, 1) := by decide +kernel
theorem dX8_hashOfScroll_34 : decode cX8_hashOfScroll 34 = .ok (.lmul, 1) := by decide +kernel
theorem dX8_hashOfScroll_35 : decode cX8_hashOfScroll 35 = .ok (.aload_n 0, 1) := by decide +kernel
theorem dX8_hashOfScroll_36 : decode cX8_hashOfScroll 36 = .ok (.iload_n 3, 1) := by decide +kernel
theorem dX8_hashOfScroll_37 : decode cX8_hashOfScroll 37 = .ok (.invokevirtual 36, 3) := by decide +kernel
theorem dX8_hashOfScroll_40 : decode cX8_hashOfScroll 40 = .ok (.i2l, 1) := by decide +kernel
theorem dX8_hashOfScroll_41 : decode cX8_hashOfScroll 41 = .ok (.ladd, 1) := by decide +kernel
theorem dX8_hashOfScroll_42 : decode cX8_hashOfScroll 42 = .ok (.lstore_n 1, 1) := by decide +kernel
theorem dX8_hashOfScroll_43 : decode cX8_hashOfScroll 43 = .ok (.iinc 3 1, 3) := by decide +kernel
theorem dX8_hashOfScroll_46 : decode cX8_hashOfScroll 46 = .ok (.goto (-26), 3) := by decide +kernel
theorem dX8_hashOfScroll_49 : decode cX8_hashOfScroll 49 = .ok (.ldc2_w 216, 3) := by decide +kernel
theorem dX8_hashOfScroll_52 : decode cX8_hashOfScroll 52 = .ok (.lload_n 1, 1) := by decide +kernel
theorem dX8_hashOfScroll_53 : decode cX8_hashOfScroll 53 = .ok (.lmul, 1) := by decide +kernel
theorem dX8_hashOfScroll_54 : decode cX8_hashOfScroll 54 = .ok (.aload_n 0, 1) := by decide +kernel
theorem dX8_hashOfScroll_55 : decode cX8_hashOfScroll 55 = .ok (.getfield 7, 3) := by decide +kernel
theorem dX8_hashOfScroll_58 : decode cX8_hashOfScroll 58 = .ok (.iconst 1, 1) := by decide +kernel
theorem dX8_hashOfScroll_59 : decode cX8_hashOfScroll 59 = .ok (.iaload, 1) := by decide +kernel
theorem dX8_hashOfScroll_60 : decode cX8_hashOfScroll 60 = .ok (.i2l, 1) := by decide +kernel
theorem dX8_hashOfScroll_61 : decode cX8_hashOfScroll 61 = .ok (.ladd, 1) := by decide +kernel
theorem dX8_hashOfScroll_62 : decode cX8_hashOfScroll 62 = .ok (.lstore_n 1, 1) := by decide +kernel
theorem dX8_hashOfScroll_63 : decode cX8_hashOfScroll 63 = .ok (.ldc2_w 216, 3) := by decide +kernel
theorem dX8_hashOfScroll_66 : decode cX8_hashOfScroll 66 = .ok (.lload_n 1, 1) := by decide +kernel
theorem dX8_hashOfScroll_67 : decode cX8_hashOfScroll 67 = .ok (.lmul, 1) := by decide +kernel
theorem dX8_hashOfScroll_68 : decode cX8_hashOfScroll 68 = .ok (.aload_n 0, 1) := by decide +kernel
theorem dX8_hashOfScroll_69 : decode cX8_hashOfScroll 69 = .ok (.getfield 7, 3) := by decide +kernel
theorem dX8_hashOfScroll_72 : decode cX8_hashOfScroll 72 = .ok (.iconst 2, 1) := by decide +kernel
theorem dX8_hashOfScroll_73 : decode cX8_hashOfScroll 73 = .ok (.iaload, 1) := by decide +kernel
theorem dX8_hashOfScroll_74 : decode cX8_hashOfScroll 74 = .ok (.i2l, 1) := by decide +kernel
theorem dX8_hashOfScroll_75 : decode cX8_hashOfScroll 75 = .ok (.ladd, 1) := by decide +kernel
theorem dX8_hashOfScroll_76 : decode cX8_hashOfScroll 76 = .ok (.lconst 1, 1) := by decide +kernel
theorem dX8_hashOfScroll_77 : decode cX8_hashOfScroll 77 = .ok (.ladd, 1) := by decide +kernel
theorem dX8_hashOfScroll_78 : decode cX8_hashOfScroll 78 = .ok (.lstore_n 1, 1) := by decide +kernel
theorem dX8_hashOfScroll_79 : decode cX8_hashOfScroll 79 = .ok (.ldc2_w 216, 3) := by decide +kernel
theorem dX8_hashOfScroll_82 : decode cX8_hashOfScroll 82 = .ok (.lload_n 1, 1) := by decide +kernel
theorem dX8_hashOfScroll_83 : decode cX8_hashOfScroll 83 = .ok (.lmul, 1) := by decide +kernel
theorem dX8_hashOfScroll_84 : decode cX8_hashOfScroll 84 = .ok (.aload_n 0, 1) := by decide +kernel
theorem dX8_hashOfScroll_85 : decode cX8_hashOfScroll 85 = .ok (.getfield 7, 3) := by decide +kernel
theorem dX8_hashOfScroll_88 : decode cX8_hashOfScroll 88 = .ok (.iconst 2, 1) := by decide +kernel
theorem dX8_hashOfScroll_89 : decode cX8_hashOfScroll 89 = .ok (.iaload, 1) := by decide +kernel
theorem dX8_hashOfScroll_90 : decode cX8_hashOfScroll 90 = .ok (.ifCond .ge 7, 3) := by decide +kernel
theorem dX8_hashOfScroll_93 : decode cX8_hashOfScroll 93 = .ok (.iconst 0, 1) := by decide +kernel
theorem dX8_hashOfScroll_94 : decode cX8_hashOfScroll 94 = .ok (.goto 9, 3) := by decide +kernel
theorem dX8_hashOfScroll_97 : decode cX8_hashOfScroll 97 = .ok (.aload_n 0, 1) := by decide +kernel
theorem dX8_hashOfScroll_98 : decode cX8_hashOfScroll 98 = .ok (.invokevirtual 84, 3) := by decide +kernel
theorem dX8_hashOfScroll_101 : decode cX8_hashOfScroll 101 = .ok (.iconst 1, 1) := by decide +kernel
theorem dX8_hashOfScroll_102 : decode cX8_hashOfScroll 102 = .ok (.iadd, 1) := by decide +kernel
theorem dX8_hashOfScroll_103 : decode cX8_hashOfScroll 103 = .ok (.i2l, 1) := by decide +kernel
theorem dX8_hashOfScroll_104 : decode cX8_hashOfScroll 104 = .ok (.ladd, 1) := by decide +kernel
theorem dX8_hashOfScroll_105 : decode cX8_hashOfScroll 105 = .ok (.lstore_n 1, 1) := by decide +kernel
theorem dX8_hashOfScroll_106 : decode cX8_hashOfScroll 106 = .ok (.ldc2_w 216, 3) := by decide +kernel
theorem dX8_hashOfScroll_109 : decode cX8_hashOfScroll 109 = .ok (.lload_n 1, 1) := by decide +kernel
theorem dX8_hashOfScroll_110 : decode cX8_hashOfScroll 110 = .ok (.lmul, 1) := by decide +kernel
theorem dX8_hashOfScroll_111 : decode cX8_hashOfScroll 111 = .ok (.aload_n 0, 1) := by decide +kernel
theorem dX8_hashOfScroll_112 : decode cX8_hashOfScroll 112 = .ok (.aload_n 0, 1) := by decide +kernel
theorem dX8_hashOfScroll_113 : decode cX8_hashOfScroll 113 = .ok (.getfield 7, 3) := by decide +kernel
theorem dX8_hashOfScroll_116 : decode cX8_hashOfScroll 116 = .ok (.iconst 0, 1) := by decide +kernel
theorem dX8_hashOfScroll_117 : decode cX8_hashOfScroll 117 = .ok (.iaload, 1) := by decide +kernel
theorem dX8_hashOfScroll_118 : decode cX8_hashOfScroll 118 = .ok (.invokevirtual 190, 3) := by decide +kernel
theorem dX8_hashOfScroll_121 : decode cX8_hashOfScroll 121 = .ok (.i2l, 1) := by decide +kernel
theorem dX8_hashOfScroll_122 : decode cX8_hashOfScroll 122 = .ok (.ladd, 1) := by decide +kernel
theorem dX8_hashOfScroll_123 : decode cX8_hashOfScroll 123 = .ok (.lconst 1, 1) := by decide +kernel
theorem dX8_hashOfScroll_124 : decode cX8_hashOfScroll 124 = .ok (.ladd, 1) := by decide +kernel
theorem dX8_hashOfScroll_125 : decode cX8_hashOfScroll 125 = .ok (.lstore_n 1, 1) := by decide +kernel
theorem dX8_hashOfScroll_126 : decode cX8_hashOfScroll 126 = .ok (.ldc2_w 216, 3) := by decide +kernel
theorem dX8_hashOfScroll_129 : decode cX8_hashOfScroll 129 = .ok (.lload_n 1, 1) := by decide +kernel
theorem dX8_hashOfScroll_130 : decode cX8_hashOfScroll 130 = .ok (.lmul, 1) := by decide +kernel
theorem dX8_hashOfScroll_131 : decode cX8_hashOfScroll 131 = .ok (.aload_n 0, 1) := by decide +kernel
theorem dX8_hashOfScroll_132 : decode cX8_hashOfScroll 132 = .ok (.aload_n 0, 1) := by decide +kernel
theorem dX8_hashOfScroll_133 : decode cX8_hashOfScroll 133 = .ok (.getfield 7, 3) := by decide +kernel
theorem dX8_hashOfScroll_136 : decode cX8_hashOfScroll 136 = .ok (.iconst 0, 1) := by decide +kernel
theorem dX8_hashOfScroll_137 : decode cX8_hashOfScroll 137 = .ok (.iaload, 1) := by decide +kernel
theorem dX8_hashOfScroll_138 : decode cX8_hashOfScroll 138 = .ok (.invokevirtual 190, 3) := by decide +kernel
theorem dX8_hashOfScroll_141 : decode cX8_hashOfScroll 141 = .ok (.i2l, 1) := by decide +kernel
theorem dX8_hashOfScroll_142 : decode cX8_hashOfScroll 142 = .ok (.ladd, 1) := by decide +kernel
theorem dX8_hashOfScroll_143 : decode cX8_hashOfScroll 143 = .ok (.lconst 1, 1) := by decide +kernel
theorem dX8_hashOfScroll_144 : decode cX8_hashOfScroll 144 = .ok (.ladd, 1) := by decide +kernel
theorem dX8_hashOfScroll_145 : decode cX8_hashOfScroll 145 = .ok (.lstore_n 1, 1) := by decide +kernel
theorem dX8_hashOfScroll_146 : decode cX8_hashOfScroll 146 = .ok (.ldc2_w 216, 3) := by decide +kernel
theorem dX8_hashOfScroll_149 : decode cX8_hashOfScroll 149 = .ok (.lload_n 1, 1) := by decide +kernel
theorem dX8_hashOfScroll_150 : decode cX8_hashOfScroll 150 = .ok (.lmul, 1) := by decide +kernel
theorem dX8_hashOfScroll_151 : decode cX8_hashOfScroll 151 = .ok (.aload_n 0, 1) := by decide +kernel
theorem dX8_hashOfScroll_152 : decode cX8_hashOfScroll 152 = .ok (.aload_n 0, 1) := by decide +kernel
theorem dX8_hashOfScroll_153 : decode cX8_hashOfScroll 153 = .ok (.getfield 7, 3) := by decide +kernel
theorem dX8_hashOfScroll_156 : decode cX8_hashOfScroll 156 = .ok (.iconst 1, 1) := by decide +kernel
theorem dX8_hashOfScroll_157 : decode cX8_hashOfScroll 157 = .ok (.iaload, 1) := by decide +kernel
theorem dX8_hashOfScroll_158 : decode cX8_hashOfScroll 158 = .ok (.invokevirtual 190, 3) := by decide +kernel
theorem dX8_hashOfScroll_161 : decode cX8_hashOfScroll 161 = .ok (.i2l, 1) := by decide +kernel
theorem dX8_hashOfScroll_162 : decode cX8_hashOfScroll 162 = .ok (.ladd, 1) := by decide +kernel
theorem dX8_hashOfScroll_163 : decode cX8_hashOfScroll 163 = .ok (.lstore_n 1, 1) := by decide +kernel
theorem dX8_hashOfScroll_164 : decode cX8_hashOfScroll 164 = .ok (.ldc2_w 216, 3) := by decide +kernel
theorem dX8_hashOfScroll_167 : decode cX8_hashOfScroll 167 = .ok (.lload_n 1, 1) := by decide +kernel
theorem dX8_hashOfScroll_168 : decode cX8_hashOfScroll 168 = .ok (.lmul, 1) := by decide +kernel
theorem dX8_hashOfScroll_169 : decode cX8_hashOfScroll 169 = .ok (.aload_n 0, 1) := by decide +kernel
theorem dX8_hashOfScroll_170 : decode cX8_hashOfScroll 170 = .ok (.getfield 7, 3) := by decide +kernel
theorem dX8_hashOfScroll_173 : decode cX8_hashOfScroll 173 = .ok (.iconst 1, 1) := by decide +kernel
theorem dX8_hashOfScroll_174 : decode cX8_hashOfScroll 174 = .ok (.iaload, 1) := by decide +kernel
theorem dX8_hashOfScroll_175 : decode cX8_hashOfScroll 175 = .ok (.i2l, 1) := by decide +kernel
theorem dX8_hashOfScroll_176 : decode cX8_hashOfScroll 176 = .ok (.ladd, 1) := by decide +kernel
theorem dX8_hashOfScroll_177 : decode cX8_hashOfScroll 177 = .ok (.aload_n 0, 1) := by decide +kernel
theorem dX8_hashOfScroll_178 : decode cX8_hashOfScroll 178 = .ok (.aload_n 0, 1) := by decide +kernel
theorem dX8_hashOfScroll_179 : decode cX8_hashOfScroll 179 = .ok (.getfield 7, 3) := by decide +kernel
theorem dX8_hashOfScroll_182 : decode cX8_hashOfScroll 182 = .ok (.iconst 1, 1) := by decide +kernel
theorem dX8_hashOfScroll_183 : decode cX8_hashOfScroll 183 = .ok (.iaload, 1) := by decide +kernel
theorem dX8_hashOfScroll_184 : decode cX8_hashOfScroll 184 = .ok (.invokevirtual 61, 3) := by decide +kernel
theorem dX8_hashOfScroll_187 : decode cX8_hashOfScroll 187 = .ok (.i2l, 1) := by decide +kernel
theorem dX8_hashOfScroll_188 : decode cX8_hashOfScroll 188 = .ok (.lsub, 1) := by decide +kernel
theorem dX8_hashOfScroll_189 : decode cX8_hashOfScroll 189 = .ok (.lstore_n 1, 1) := by decide +kernel
theorem dX8_hashOfScroll_190 : decode cX8_hashOfScroll 190 = .ok (.ldc2_w 216, 3) := by decide +kernel
theorem dX8_hashOfScroll_193 : decode cX8_hashOfScroll 193 = .ok (.lload_n 1, 1) := by decide +kernel
theorem dX8_hashOfScroll_194 : decode cX8_hashOfScroll 194 = .ok (.lmul, 1) := by decide +kernel
theorem dX8_hashOfScroll_195 : decode cX8_hashOfScroll 195 = .ok (.aload_n 0, 1) := by decide +kernel
theorem dX8_hashOfScroll_196 : decode cX8_hashOfScroll 196 = .ok (.invokevirtual 193, 3) := by decide +kernel
theorem dX8_hashOfScroll_199 : decode cX8_hashOfScroll 199 = .ok (.i2l, 1) := by decide +kernel
theorem dX8_hashOfScroll_200 : decode cX8_hashOfScroll 200 = .ok (.ladd, 1) := by decide +kernel
theorem dX8_hashOfScroll_201 : decode cX8_hashOfScroll 201 = .ok (.lstore_n 1, 1) := by decide +kernel
theorem dX8_hashOfScroll_202 : decode cX8_hashOfScroll 202 = .ok (.ldc2_w 216, 3) := by decide +kernel
theorem dX8_hashOfScroll_205 : decode cX8_hashOfScroll 205 = .ok (.lload_n 1, 1) := by decide +kernel
theorem dX8_hashOfScroll_206 : decode cX8_hashOfScroll 206 = .ok (.lmul, 1) := by decide +kernel
theorem dX8_hashOfScroll_207 : decode cX8_hashOfScroll 207 = .ok (.aload_n 0, 1) := by decide +kernel
theorem dX8_hashOfScroll_208 : decode cX8_hashOfScroll 208 = .ok (.invokevirtual 196, 3) := by decide +kernel
theorem dX8_hashOfScroll_211 : decode cX8_hashOfScroll 211 = .ok (.i2l, 1) := by decide +kernel
theorem dX8_hashOfScroll_212 : decode cX8_hashOfScroll 212 = .ok (.ladd, 1) := by decide +kernel
theorem dX8_hashOfScroll_213 : decode cX8_hashOfScroll 213 = .ok (.lstore_n 1, 1) := by decide +kernel
theorem dX8_hashOfScroll_214 : decode cX8_hashOfScroll 214 = .ok (.ldc2_w 216, 3) := by decide +kernel
theorem dX8_hashOfScroll_217 : decode cX8_hashOfScroll 217 = .ok (.lload_n 1, 1) := by decide +kernel
theorem dX8_hashOfScroll_218 : decode cX8_hashOfScroll 218 = .ok (.lmul, 1) := by decide +kernel
theorem dX8_hashOfScroll_219 : decode cX8_hashOfScroll 219 = .ok (.aload_n 0, 1) := by decide +kernel
theorem dX8_hashOfScroll_220 : decode cX8_hashOfScroll 220 = .ok (.invokevirtual 196, 3) := by decide +kernel
theorem dX8_hashOfScroll_223 : decode cX8_hashOfScroll 223 = .ok (.i2l, 1) := by decide +kernel
theorem dX8_hashOfScroll_224 : decode cX8_hashOfScroll 224 = .ok (.ladd, 1) := by decide +kernel
theorem dX8_hashOfScroll_225 : decode cX8_hashOfScroll 225 = .ok (.lstore_n 1, 1) := by decide +kernel
theorem dX8_hashOfScroll_226 : decode cX8_hashOfScroll 226 = .ok (.lload_n 1, 1) := by decide +kernel
theorem dX8_hashOfScroll_227 : decode cX8_hashOfScroll 227 = .ok (.lreturn, 1) := by decide +kernel
theorem dX8_digest_0 : decode cX8_digest 0 = .ok (.aload_n 0, 1) := by decide +kernel
theorem dX8_digest_1 : decode cX8_digest 1 = .ok (.invokevirtual 218, 3) := by decide +kernel
theorem dX8_digest_4 : decode cX8_digest 4 = .ok (.lstore_n 1, 1) := by decide +kernel
theorem dX8_digest_5 : decode cX8_digest 5 = .ok (.ldc2_w 216, 3) := by decide +kernel
theorem dX8_digest_8 : decode cX8_digest 8 = .ok (.lload_n 1, 1) := by decide +kernel
theorem dX8_digest_9 : decode cX8_digest 9 = .ok (.lmul, 1) := by decide +kernel
theorem dX8_digest_10 : decode cX8_digest 10 = .ok (.aload_n 0, 1) := by decide +kernel
theorem dX8_digest_11 : decode cX8_digest 11 = .ok (.getfield 7, 3) := by decide +kernel
theorem dX8_digest_14 : decode cX8_digest 14 = .ok (.iconst 3, 1) := by decide +kernel
theorem dX8_digest_15 : decode cX8_digest 15 = .ok (.iaload, 1) := by decide +kernel
theorem dX8_digest_16 : decode cX8_digest 16 = .ok (.i2l, 1) := by decide +kernel
theorem dX8_digest_17 : decode cX8_digest 17 = .ok (.ladd, 1) := by decide +kernel
theorem dX8_digest_18 : decode cX8_digest 18 = .ok (.lstore_n 1, 1) := by decide +kernel
theorem dX8_digest_19 : decode cX8_digest 19 = .ok (.ldc2_w 216, 3) := by decide +kernel
theorem dX8_digest_22 : decode cX8_digest 22 = .ok (.lload_n 1, 1) := by decide +kernel
theorem dX8_digest_23 : decode cX8_digest 23 = .ok (.lmul, 1) := by decide +kernel
theorem dX8_digest_24 : decode cX8_digest 24 = .ok (.aload_n 0, 1) := by decide +kernel
theorem dX8_digest_25 : decode cX8_digest 25 = .ok (.getfield 7, 3) := by decide +kernel
theorem dX8_digest_28 : decode cX8_digest 28 = .ok (.iconst 5, 1) := by decide +kernel
theorem dX8_digest_29 : decode cX8_digest 29 = .ok (.iaload, 1) := by decide +kernel
theorem dX8_digest_30 : decode cX8_digest 30 = .ok (.i2l, 1) := by decide +kernel
theorem dX8_digest_31 : decode cX8_digest 31 = .ok (.ladd, 1) := by decide +kernel
theorem dX8_digest_32 : decode cX8_digest 32 = .ok (.lstore_n 1, 1) := by decide +kernel
theorem dX8_digest_33 : decode cX8_digest 33 = .ok (.iconst 0, 1) := by decide +kernel
theorem dX8_digest_34 : decode cX8_digest 34 = .ok (.istore_n 3, 1) := by decide +kernel
theorem dX8_digest_35 : decode cX8_digest 35 = .ok (.iload_n 3, 1) := by decide +kernel
theorem dX8_digest_36 : decode cX8_digest 36 = .ok (.aload_n 0, 1) := by decide +kernel
theorem dX8_digest_37 : decode cX8_digest 37 = .ok (.getfield 7, 3) := by decide +kernel
theorem dX8_digest_40 : decode cX8_digest 40 = .ok (.iconst 3, 1) := by decide +kernel
theorem dX8_digest_41 : decode cX8_digest 41 = .ok (.iaload, 1) := by decide +kernel
theorem dX8_digest_42 : decode cX8_digest 42 = .ok (.if_icmp .ge 99, 3) := by decide +kernel
theorem dX8_digest_45 : decode cX8_digest 45 = .ok (.ldc2_w 216, 3) := by decide +kernel
theorem dX8_digest_48 : decode cX8_digest 48 = .ok (.lload_n 1, 1) := by decide +kernel
theorem dX8_digest_49 : decode cX8_digest 49 = .ok (.lmul, 1) := by decide +kernel
theorem dX8_digest_50 : decode cX8_digest 50 = .ok (.aload_n 0, 1) := by decide +kernel
theorem dX8_digest_51 : decode cX8_digest 51 = .ok (.getfield 7, 3) := by decide +kernel
theorem dX8_digest_54 : decode cX8_digest 54 = .ok (.bipush 10, 2) := by decide +kernel
theorem dX8_digest_56 : decode cX8_digest 56 = .ok (.iload_n 3, 1) := by decide +kernel
theorem dX8_digest_57 : decode cX8_digest 57 = .ok (.iadd, 1) := by decide +kernel
theorem dX8_digest_58 : decode cX8_digest 58 = .ok (.iaload, 1) := by decide +kernel
theorem dX8_digest_59 : decode cX8_digest 59 = .ok (.i2l, 1) := by decide +kernel
theorem dX8_digest_60 : decode cX8_digest 60 = .ok (.ladd, 1) := by decide +kernel
theorem dX8_digest_61 : decode cX8_digest 61 = .ok (.lstore_n 1, 1) := by decide +kernel
theorem dX8_digest_62 : decode cX8_digest 62 = .ok (.iconst 0, 1) := by decide +kernel
theorem dX8_digest_63 : decode cX8_digest 63 = .ok (.istore 4, 2) := by decide +kernel
theorem dX8_digest_65 : decode cX8_digest 65 = .ok (.iload 4, 2) := by decide +kernel
theorem dX8_digest_67 : decode cX8_digest 67 = .ok (.aload_n 0, 1) := by decide +kernel
theorem dX8_digest_68 : decode cX8_digest 68 = .ok (.getfield 7, 3) := by decide +kernel
theorem dX8_digest_71 : decode cX8_digest 71 = .ok (.bipush 10, 2) := by decide +kernel
theorem dX8_digest_73 : decode cX8_digest 73 = .ok (.iload_n 3, 1) := by decide +kernel
theorem dX8_digest_74 : decode cX8_digest 74 = .ok (.iadd, 1) := by decide +kernel
theorem dX8_digest_75 : decode cX8_digest 75 = .ok (.iaload, 1) := by decide +kernel
theorem dX8_digest_76 : decode cX8_digest 76 = .ok (.if_icmp .ge 34, 3) := by decide +kernel
theorem dX8_digest_79 : decode cX8_digest 79 = .ok (.ldc2_w 216, 3) := by decide +kernel
theorem dX8_digest_82 : decode cX8_digest 82 = .ok (.lload_n 1, 1) := by decide +kernel
theorem dX8_digest_83 : decode cX8_digest 83 = .ok (.lmul, 1) := by decide +kernel
theorem dX8_digest_84 : decode cX8_digest 84 = .ok (.aload_n 0, 1) := by decide +kernel
theorem dX8_digest_85 : decode cX8_digest 85 = .ok (.getfield 7, 3) := by decide +kernel
theorem dX8_digest_88 : decode cX8_digest 88 = .ok (.sipush 218, 3) := by decide +kernel
theorem dX8_digest_91 : decode cX8_digest 91 = .ok (.sipush 200, 3) := by decide +kernel
theorem dX8_digest_94 : decode cX8_digest 94 = .ok (.iload_n 3, 1) := by decide +kernel
theorem dX8_digest_95 : decode cX8_digest 95 = .ok (.imul, 1) := by decide +kernel
theorem dX8_digest_96 : decode cX8_digest 96 = .ok (.iadd, 1) := by decide +kernel
theorem dX8_digest_97 : decode cX8_digest 97 = .ok (.iload 4, 2) := by decide +kernel
theorem dX8_digest_99 : decode cX8_digest 99 = .ok (.iadd, 1) := by decide +kernel
theorem dX8_digest_100 : decode cX8_digest 100 = .ok (.iaload, 1) := by decide +kernel
theorem dX8_digest_101 : decode cX8_digest 101 = .ok (.i2l, 1) := by decide +kernel
theorem dX8_digest_102 : decode cX8_digest 102 = .ok (.ladd, 1) := by decide +kernel
theorem dX8_digest_103 : decode cX8_digest 103 = .ok (.lstore_n 1, 1) := by decide +kernel
theorem dX8_digest_104 : decode cX8_digest 104 = .ok (.iinc 4 1, 3) := by decide +kernel
theorem dX8_digest_107 : decode cX8_digest 107 = .ok (.goto (-42), 3) := by decide +kernel
theorem dX8_digest_110 : decode cX8_digest 110 = .ok (.ldc2_w 216, 3) := by decide +kernel
theorem dX8_digest_113 : decode cX8_digest 113 = .ok (.lload_n 1, 1) := by decide +kernel
theorem dX8_digest_114 : decode cX8_digest 114 = .ok (.lmul, 1) := by decide +kernel
theorem dX8_digest_115 : decode cX8_digest 115 = .ok (.aload_n 0, 1) := by decide +kernel
theorem dX8_digest_116 : decode cX8_digest 116 = .ok (.getfield 7, 3) := by decide +kernel
theorem dX8_digest_119 : decode cX8_digest 119 = .ok (.iconst 0, 1) := by decide +kernel
theorem dX8_digest_120 : decode cX8_digest 120 = .ok (.iaload, 1) := by decide +kernel
theorem dX8_digest_121 : decode cX8_digest 121 = .ok (.i2l, 1) := by decide +kernel
theorem dX8_digest_122 : decode cX8_digest 122 = .ok (.ladd, 1) := by decide +kernel
theorem dX8_digest_123 : decode cX8_digest 123 = .ok (.aload_n 0, 1) := by decide +kernel
theorem dX8_digest_124 : decode cX8_digest 124 = .ok (.getfield 7, 3) := by decide +kernel
theorem dX8_digest_127 : decode cX8_digest 127 = .ok (.bipush 10, 2) := by decide +kernel
theorem dX8_digest_129 : decode cX8_digest 129 = .ok (.iload_n 3, 1) := by decide +kernel
theorem dX8_digest_130 : decode cX8_digest 130 = .ok (.iadd, 1) := by decide +kernel
theorem dX8_digest_131 : decode cX8_digest 131 = .ok (.iaload, 1) := by decide +kernel
theorem dX8_digest_132 : decode cX8_digest 132 = .ok (.i2l, 1) := by decide +kernel
theorem dX8_digest_133 : decode cX8_digest 133 = .ok (.ladd, 1) := by decide +kernel
theorem dX8_digest_134 : decode cX8_digest 134 = .ok (.lstore_n 1, 1) := by decide +kernel
theorem dX8_digest_135 : decode cX8_digest 135 = .ok (.iinc 3 1, 3) := by decide +kernel
theorem dX8_digest_138 : decode cX8_digest 138 = .ok (.goto (-103), 3) := by decide +kernel
theorem dX8_digest_141 : decode cX8_digest 141 = .ok (.ldc2_w 216, 3) := by decide +kernel
theorem dX8_digest_144 : decode cX8_digest 144 = .ok (.lload_n 1, 1) := by decide +kernel
theorem dX8_digest_145 : decode cX8_digest 145 = .ok (.lmul, 1) := by decide +kernel
theorem dX8_digest_146 : decode cX8_digest 146 = .ok (.aload_n 0, 1) := by decide +kernel
theorem dX8_digest_147 : decode cX8_digest 147 = .ok (.getfield 7, 3) := by decide +kernel
theorem dX8_digest_150 : decode cX8_digest 150 = .ok (.iconst 3, 1) := by decide +kernel
theorem dX8_digest_151 : decode cX8_digest 151 = .ok (.iaload, 1) := by decide +kernel
theorem dX8_digest_152 : decode cX8_digest 152 = .ok (.ifCond .le 14, 3) := by decide +kernel
theorem dX8_digest_155 : decode cX8_digest 155 = .ok (.aload_n 0, 1) := by decide +kernel
theorem dX8_digest_156 : decode cX8_digest 156 = .ok (.getfield 7, 3) := by decide +kernel
theorem dX8_digest_159 : decode cX8_digest 159 = .ok (.iconst 4, 1) := by decide +kernel
theorem dX8_digest_160 : decode cX8_digest 160 = .ok (.iaload, 1) := by decide +kernel
theorem dX8_digest_161 : decode cX8_digest 161 = .ok (.iconst 1, 1) := by decide +kernel
theorem dX8_digest_162 : decode cX8_digest 162 = .ok (.iadd, 1) := by decide +kernel
theorem dX8_digest_163 : decode cX8_digest 163 = .ok (.goto 4, 3) := by decide +kernel
theorem dX8_digest_166 : decode cX8_digest 166 = .ok (.iconst 0, 1) := by decide +kernel
theorem dX8_digest_167 : decode cX8_digest 167 = .ok (.i2l, 1) := by decide +kernel
theorem dX8_digest_168 : decode cX8_digest 168 = .ok (.ladd, 1) := by decide +kernel
theorem dX8_digest_169 : decode cX8_digest 169 = .ok (.lstore_n 1, 1) := by decide +kernel
theorem dX8_digest_170 : decode cX8_digest 170 = .ok (.ldc2_w 216, 3) := by decide +kernel
theorem dX8_digest_173 : decode cX8_digest 173 = .ok (.lload_n 1, 1) := by decide +kernel
theorem dX8_digest_174 : decode cX8_digest 174 = .ok (.lmul, 1) := by decide +kernel
theorem dX8_digest_175 : decode cX8_digest 175 = .ok (.aload_n 0, 1) := by decide +kernel
theorem dX8_digest_176 : decode cX8_digest 176 = .ok (.getfield 67, 3) := by decide +kernel
theorem dX8_digest_179 : decode cX8_digest 179 = .ok (.iconst 1, 1) := by decide +kernel
theorem dX8_digest_180 : decode cX8_digest 180 = .ok (.if_icmp .ne 7, 3) := by decide +kernel
theorem dX8_digest_183 : decode cX8_digest 183 = .ok (.iconst 1, 1) := by decide +kernel
theorem dX8_digest_184 : decode cX8_digest 184 = .ok (.goto 4, 3) := by decide +kernel
theorem dX8_digest_187 : decode cX8_digest 187 = .ok (.iconst 0, 1) := by decide +kernel
theorem dX8_digest_188 : decode cX8_digest 188 = .ok (.i2l, 1) := by decide +kernel
theorem dX8_digest_189 : decode cX8_digest 189 = .ok (.ladd, 1) := by decide +kernel
theorem dX8_digest_190 : decode cX8_digest 190 = .ok (.lstore_n 1, 1) := by decide +kernel
theorem dX8_digest_191 : decode cX8_digest 191 = .ok (.ldc2_w 216, 3) := by decide +kernel
theorem dX8_digest_194 : decode cX8_digest 194 = .ok (.lload_n 1, 1) := by decide +kernel
theorem dX8_digest_195 : decode cX8_digest 195 = .ok (.lmul, 1) := by decide +kernel
theorem dX8_digest_196 : decode cX8_digest 196 = .ok (.aload_n 0, 1) := by decide +kernel
theorem dX8_digest_197 : decode cX8_digest 197 = .ok (.getfield 67, 3) := by decide +kernel
theorem dX8_digest_200 : decode cX8_digest 200 = .ok (.iconst 2, 1) := by decide +kernel
theorem dX8_digest_201 : decode cX8_digest 201 = .ok (.if_icmp .ne 7, 3) := by decide +kernel
theorem dX8_digest_204 : decode cX8_digest 204 = .ok (.iconst 1, 1) := by decide +kernel
theorem dX8_digest_205 : decode cX8_digest 205 = .ok (.goto 4, 3) := by decide +kernel
theorem dX8_digest_208 : decode cX8_digest 208 = .ok (.iconst 0, 1) := by decide +kernel
theorem dX8_digest_209 : decode cX8_digest 209 = .ok (.i2l, 1) := by decide +kernel
theorem dX8_digest_210 : decode cX8_digest 210 = .ok (.ladd, 1) := by decide +kernel
theorem dX8_digest_211 : decode cX8_digest 211 = .ok (.lstore_n 1, 1) := by decide +kernel
theorem dX8_digest_212 : decode cX8_digest 212 = .ok (.ldc2_w 216, 3) := by decide +kernel
theorem dX8_digest_215 : decode cX8_digest 215 = .ok (.lload_n 1, 1) := by decide +kernel
theorem dX8_digest_216 : decode cX8_digest 216 = .ok (.lmul, 1) := by decide +kernel
theorem dX8_digest_217 : decode cX8_digest 217 = .ok (.aload_n 0, 1) := by decide +kernel
theorem dX8_digest_218 : decode cX8_digest 218 = .ok (.invokevirtual 202, 3) := by decide +kernel
theorem dX8_digest_221 : decode cX8_digest 221 = .ok (.i2l, 1) := by decide +kernel
theorem dX8_digest_222 : decode cX8_digest 222 = .ok (.ladd, 1) := by decide +kernel
theorem dX8_digest_223 : decode cX8_digest 223 = .ok (.lstore_n 1, 1) := by decide +kernel
theorem dX8_digest_224 : decode cX8_digest 224 = .ok (.ldc2_w 216, 3) := by decide +kernel
theorem dX8_digest_227 : decode cX8_digest 227 = .ok (.lload_n 1, 1) := by decide +kernel
theorem dX8_digest_228 : decode cX8_digest 228 = .ok (.lmul, 1) := by decide +kernel
theorem dX8_digest_229 : decode cX8_digest 229 = .ok (.aload_n 0, 1) := by decide +kernel
theorem dX8_digest_230 : decode cX8_digest 230 = .ok (.getfield 7, 3) := by decide +kernel
theorem dX8_digest_233 : decode cX8_digest 233 = .ok (.iconst 3, 1) := by decide +kernel
theorem dX8_digest_234 : decode cX8_digest 234 = .ok (.iaload, 1) := by decide +kernel
theorem dX8_digest_235 : decode cX8_digest 235 = .ok (.ifCond .le 12, 3) := by decide +kernel
theorem dX8_digest_238 : decode cX8_digest 238 = .ok (.aload_n 0, 1) := by decide +kernel
theorem dX8_digest_239 : decode cX8_digest 239 = .ok (.invokevirtual 205, 3) := by decide +kernel
theorem dX8_digest_242 : decode cX8_digest 242 = .ok (.iconst 1, 1) := by decide +kernel
theorem dX8_digest_243 : decode cX8_digest 243 = .ok (.iadd, 1) := by decide +kernel
theorem dX8_digest_244 : decode cX8_digest 244 = .ok (.goto 4, 3) := by decide +kernel
theorem dX8_digest_247 : decode cX8_digest 247 = .ok (.iconst 0, 1) := by decide +kernel
theorem dX8_digest_248 : decode cX8_digest 248 = .ok (.i2l, 1) := by decide +kernel
theorem dX8_digest_249 : decode cX8_digest 249 = .ok (.ladd, 1) := by decide +kernel
theorem dX8_digest_250 : decode cX8_digest 250 = .ok (.lstore_n 1, 1) := by decide +kernel
theorem dX8_digest_251 : decode cX8_digest 251 = .ok (.ldc2_w 216, 3) := by decide +kernel
theorem dX8_digest_254 : decode cX8_digest 254 = .ok (.lload_n 1, 1) := by decide +kernel
theorem dX8_digest_255 : decode cX8_digest 255 = .ok (.lmul, 1) := by decide +kernel
theorem dX8_digest_256 : decode cX8_digest 256 = .ok (.aload_n 0, 1) := by decide +kernel
theorem dX8_digest_257 : decode cX8_digest 257 = .ok (.getfield 7, 3) := by decide +kernel
theorem dX8_digest_260 : decode cX8_digest 260 = .ok (.bipush 6, 2) := by decide +kernel
theorem dX8_digest_262 : decode cX8_digest 262 = .ok (.iaload, 1) := by decide +kernel
theorem dX8_digest_263 : decode cX8_digest 263 = .ok (.i2l, 1) := by decide +kernel
theorem dX8_digest_264 : decode cX8_digest 264 = .ok (.ladd, 1) := by decide +kernel
theorem dX8_digest_265 : decode cX8_digest 265 = .ok (.lstore_n 1, 1) := by decide +kernel
theorem dX8_digest_266 : decode cX8_digest 266 = .ok (.ldc2_w 216, 3) := by decide +kernel
theorem dX8_digest_269 : decode cX8_digest 269 = .ok (.lload_n 1, 1) := by decide +kernel
theorem dX8_digest_270 : decode cX8_digest 270 = .ok (.lmul, 1) := by decide +kernel
theorem dX8_digest_271 : decode cX8_digest 271 = .ok (.aload_n 0, 1) := by decide +kernel
theorem dX8_digest_272 : decode cX8_digest 272 = .ok (.getfield 7, 3) := by decide +kernel
theorem dX8_digest_275 : decode cX8_digest 275 = .ok (.bipush 7, 2) := by decide +kernel
theorem dX8_digest_277 : decode cX8_digest 277 = .ok (.iaload, 1) := by decide +kernel
theorem dX8_digest_278 : decode cX8_digest 278 = .ok (.i2l, 1) := by decide +kernel
theorem dX8_digest_279 : decode cX8_digest 279 = .ok (.ladd, 1) := by decide +kernel
theorem dX8_digest_280 : decode cX8_digest 280 = .ok (.lstore_n 1, 1) := by decide +kernel
theorem dX8_digest_281 : decode cX8_digest 281 = .ok (.ldc2_w 216, 3) := by decide +kernel
theorem dX8_digest_284 : decode cX8_digest 284 = .ok (.lload_n 1, 1) := by decide +kernel
theorem dX8_digest_285 : decode cX8_digest 285 = .ok (.lmul, 1) := by decide +kernel
theorem dX8_digest_286 : decode cX8_digest 286 = .ok (.aload_n 0, 1) := by decide +kernel
theorem dX8_digest_287 : decode cX8_digest 287 = .ok (.getfield 7, 3) := by decide +kernel
theorem dX8_digest_290 : decode cX8_digest 290 = .ok (.bipush 8, 2) := by decide +kernel
theorem dX8_digest_292 : decode cX8_digest 292 = .ok (.iaload, 1) := by decide +kernel
theorem dX8_digest_293 : decode cX8_digest 293 = .ok (.i2l, 1) := by decide +kernel
theorem dX8_digest_294 : decode cX8_digest 294 = .ok (.ladd, 1) := by decide +kernel
theorem dX8_digest_295 : decode cX8_digest 295 = .ok (.lstore_n 1, 1) := by decide +kernel
theorem dX8_digest_296 : decode cX8_digest 296 = .ok (.ldc2_w 216, 3) := by decide +kernel
theorem dX8_digest_299 : decode cX8_digest 299 = .ok (.lload_n 1, 1) := by decide +kernel
theorem dX8_digest_300 : decode cX8_digest 300 = .ok (.lmul, 1) := by decide +kernel
theorem dX8_digest_301 : decode cX8_digest 301 = .ok (.aload_n 0, 1) := by decide +kernel
theorem dX8_digest_302 : decode cX8_digest 302 = .ok (.getfield 7, 3) := by decide +kernel
theorem dX8_digest_305 : decode cX8_digest 305 = .ok (.bipush 9, 2) := by decide +kernel
theorem dX8_digest_307 : decode cX8_digest 307 = .ok (.iaload, 1) := by decide +kernel
theorem dX8_digest_308 : decode cX8_digest 308 = .ok (.i2l, 1) := by decide +kernel
theorem dX8_digest_309 : decode cX8_digest 309 = .ok (.ladd, 1) := by decide +kernel
theorem dX8_digest_310 : decode cX8_digest 310 = .ok (.lstore_n 1, 1) := by decide +kernel
theorem dX8_digest_311 : decode cX8_digest 311 = .ok (.ldc2_w 216, 3) := by decide +kernel
theorem dX8_digest_314 : decode cX8_digest 314 = .ok (.lload_n 1, 1) := by decide +kernel
theorem dX8_digest_315 : decode cX8_digest 315 = .ok (.lmul, 1) := by decide +kernel
theorem dX8_digest_316 : decode cX8_digest 316 = .ok (.aload_n 0, 1) := by decide +kernel
theorem dX8_digest_317 : decode cX8_digest 317 = .ok (.getfield 7, 3) := by decide +kernel
theorem dX8_digest_320 : decode cX8_digest 320 = .ok (.iconst 0, 1) := by decide +kernel
theorem dX8_digest_321 : decode cX8_digest 321 = .ok (.iaload, 1) := by decide +kernel
theorem dX8_digest_322 : decode cX8_digest 322 = .ok (.i2l, 1) := by decide +kernel
theorem dX8_digest_323 : decode cX8_digest 323 = .ok (.ladd, 1) := by decide +kernel
theorem dX8_digest_324 : decode cX8_digest 324 = .ok (.lstore_n 1, 1) := by decide +kernel
theorem dX8_digest_325 : decode cX8_digest 325 = .ok (.ldc2_w 216, 3) := by decide +kernel
theorem dX8_digest_328 : decode cX8_digest 328 = .ok (.lload_n 1, 1) := by decide +kernel
theorem dX8_digest_329 : decode cX8_digest 329 = .ok (.lmul, 1) := by decide +kernel
theorem dX8_digest_330 : decode cX8_digest 330 = .ok (.aload_n 0, 1) := by decide +kernel
theorem dX8_digest_331 : decode cX8_digest 331 = .ok (.getfield 25, 3) := by decide +kernel
theorem dX8_digest_334 : decode cX8_digest 334 = .ok (.i2l, 1) := by decide +kernel
theorem dX8_digest_335 : decode cX8_digest 335 = .ok (.ladd, 1) := by decide +kernel
theorem dX8_digest_336 : decode cX8_digest 336 = .ok (.lstore_n 1, 1) := by decide +kernel
theorem dX8_digest_337 : decode cX8_digest 337 = .ok (.ldc2_w 216, 3) := by decide +kernel
theorem dX8_digest_340 : decode cX8_digest 340 = .ok (.lload_n 1, 1) := by decide +kernel
theorem dX8_digest_341 : decode cX8_digest 341 = .ok (.lmul, 1) := by decide +kernel
theorem dX8_digest_342 : decode cX8_digest 342 = .ok (.aload_n 0, 1) := by decide +kernel
theorem dX8_digest_343 : decode cX8_digest 343 = .ok (.getfield 7, 3) := by decide +kernel
theorem dX8_digest_346 : decode cX8_digest 346 = .ok (.iconst 3, 1) := by decide +kernel
theorem dX8_digest_347 : decode cX8_digest 347 = .ok (.iaload, 1) := by decide +kernel
theorem dX8_digest_348 : decode cX8_digest 348 = .ok (.ifCond .ne 7, 3) := by decide +kernel
theorem dX8_digest_351 : decode cX8_digest 351 = .ok (.lconst 0, 1) := by decide +kernel
theorem dX8_digest_352 : decode cX8_digest 352 = .ok (.goto 16, 3) := by decide +kernel
theorem dX8_digest_355 : decode cX8_digest 355 = .ok (.aload_n 0, 1) := by decide +kernel
theorem dX8_digest_356 : decode cX8_digest 356 = .ok (.invokevirtual 202, 3) := by decide +kernel
theorem dX8_digest_359 : decode cX8_digest 359 = .ok (.aload_n 0, 1) := by decide +kernel
theorem dX8_digest_360 : decode cX8_digest 360 = .ok (.getfield 7, 3) := by decide +kernel
theorem dX8_digest_363 : decode cX8_digest 363 = .ok (.iconst 3, 1) := by decide +kernel
theorem dX8_digest_364 : decode cX8_digest 364 = .ok (.iaload, 1) := by decide +kernel
theorem dX8_digest_365 : decode cX8_digest 365 = .ok (.invokestatic 222, 3) := by decide +kernel
theorem dX8_digest_368 : decode cX8_digest 368 = .ok (.ladd, 1) := by decide +kernel
theorem dX8_digest_369 : decode cX8_digest 369 = .ok (.lstore_n 1, 1) := by decide +kernel
theorem dX8_digest_370 : decode cX8_digest 370 = .ok (.iconst 0, 1) := by decide +kernel
theorem dX8_digest_371 : decode cX8_digest 371 = .ok (.istore_n 3, 1) := by decide +kernel
theorem dX8_digest_372 : decode cX8_digest 372 = .ok (.iload_n 3, 1) := by decide +kernel
theorem dX8_digest_373 : decode cX8_digest 373 = .ok (.iconst 2, 1) := by decide +kernel
theorem dX8_digest_374 : decode cX8_digest 374 = .ok (.if_icmp .ge 31, 3) := by decide +kernel
theorem dX8_digest_377 : decode cX8_digest 377 = .ok (.ldc2_w 216, 3) := by decide +kernel
theorem dX8_digest_380 : decode cX8_digest 380 = .ok (.lload_n 1, 1) := by decide +kernel
theorem dX8_digest_381 : decode cX8_digest 381 = .ok (.lmul, 1) := by decide +kernel
theorem dX8_digest_382 : decode cX8_digest 382 = .ok (.aload_n 0, 1) := by decide +kernel
theorem dX8_digest_383 : decode cX8_digest 383 = .ok (.getfield 13, 3) := by decide +kernel
theorem dX8_digest_386 : decode cX8_digest 386 = .ok (.iload_n 3, 1) := by decide +kernel
theorem dX8_digest_387 : decode cX8_digest 387 = .ok (.baload, 1) := by decide +kernel
theorem dX8_digest_388 : decode cX8_digest 388 = .ok (.ifCond .eq 7, 3) := by decide +kernel
theorem dX8_digest_391 : decode cX8_digest 391 = .ok (.iconst 1, 1) := by decide +kernel
theorem dX8_digest_392 : decode cX8_digest 392 = .ok (.goto 4, 3) := by decide +kernel
theorem dX8_digest_395 : decode cX8_digest 395 = .ok (.iconst 0, 1) := by decide +kernel
theorem dX8_digest_396 : decode cX8_digest 396 = .ok (.i2l, 1) := by decide +kernel
theorem dX8_digest_397 : decode cX8_digest 397 = .ok (.ladd, 1) := by decide +kernel
theorem dX8_digest_398 : decode cX8_digest 398 = .ok (.lstore_n 1, 1) := by decide +kernel
theorem dX8_digest_399 : decode cX8_digest 399 = .ok (.iinc 3 1, 3) := by decide +kernel
theorem dX8_digest_402 : decode cX8_digest 402 = .ok (.goto (-30), 3) := by decide +kernel
theorem dX8_digest_405 : decode cX8_digest 405 = .ok (.ldc2_w 216, 3) := by decide +kernel
theorem dX8_digest_408 : decode cX8_digest 408 = .ok (.lload_n 1, 1) := by decide +kernel
theorem dX8_digest_409 : decode cX8_digest 409 = .ok (.lmul, 1) := by decide +kernel
theorem dX8_digest_410 : decode cX8_digest 410 = .ok (.aload_n 0, 1) := by decide +kernel
theorem dX8_digest_411 : decode cX8_digest 411 = .ok (.getfield 159, 3) := by decide +kernel
theorem dX8_digest_414 : decode cX8_digest 414 = .ok (.i2l, 1) := by decide +kernel
theorem dX8_digest_415 : decode cX8_digest 415 = .ok (.ladd, 1) := by decide +kernel
theorem dX8_digest_416 : decode cX8_digest 416 = .ok (.lstore_n 1, 1) := by decide +kernel
theorem dX8_digest_417 : decode cX8_digest 417 = .ok (.iconst 0, 1) := by decide +kernel
theorem dX8_digest_418 : decode cX8_digest 418 = .ok (.istore_n 3, 1) := by decide +kernel
theorem dX8_digest_419 : decode cX8_digest 419 = .ok (.iload_n 3, 1) := by decide +kernel
theorem dX8_digest_420 : decode cX8_digest 420 = .ok (.aload_n 0, 1) := by decide +kernel
theorem dX8_digest_421 : decode cX8_digest 421 = .ok (.getfield 159, 3) := by decide +kernel
theorem dX8_digest_424 : decode cX8_digest 424 = .ok (.if_icmp .ge 23, 3) := by decide +kernel
theorem dX8_digest_427 : decode cX8_digest 427 = .ok (.ldc2_w 216, 3) := by decide +kernel
theorem dX8_digest_430 : decode cX8_digest 430 = .ok (.lload_n 1, 1) := by decide +kernel
theorem dX8_digest_431 : decode cX8_digest 431 = .ok (.lmul, 1) := by decide +kernel
theorem dX8_digest_432 : decode cX8_digest 432 = .ok (.aload_n 0, 1) := by decide +kernel
theorem dX8_digest_433 : decode cX8_digest 433 = .ok (.getfield 17, 3) := by decide +kernel
theorem dX8_digest_436 : decode cX8_digest 436 = .ok (.iload_n 3, 1) := by decide +kernel
theorem dX8_digest_437 : decode cX8_digest 437 = .ok (.caload, 1) := by decide +kernel
theorem dX8_digest_438 : decode cX8_digest 438 = .ok (.i2l, 1) := by decide +kernel
theorem dX8_digest_439 : decode cX8_digest 439 = .ok (.ladd, 1) := by decide +kernel
theorem dX8_digest_440 : decode cX8_digest 440 = .ok (.lstore_n 1, 1) := by decide +kernel
theorem dX8_digest_441 : decode cX8_digest 441 = .ok (.iinc 3 1, 3) := by decide +kernel
theorem dX8_digest_444 : decode cX8_digest 444 = .ok (.goto (-25), 3) := by decide +kernel
theorem dX8_digest_447 : decode cX8_digest 447 = .ok (.aload_n 0, 1) := by decide +kernel
theorem dX8_digest_448 : decode cX8_digest 448 = .ok (.iconst 0, 1) := by decide +kernel
theorem dX8_digest_449 : decode cX8_digest 449 = .ok (.putfield 21, 3) := by decide +kernel
theorem dX8_digest_452 : decode cX8_digest 452 = .ok (.lload_n 1, 1) := by decide +kernel
theorem dX8_digest_453 : decode cX8_digest 453 = .ok (.lreturn, 1) := by decide +kernel
end
section
theorem dL_write_0 : decode cL_write 0 = .ok (.aload_n 2, 1) := by decide +kernel
theorem dL_write_1 : decode cL_write 1 = .ok (.iconst 0, 1) := by decide +kernel
theorem dL_write_2 : decode cL_write 2 = .ok (.aload_n 0, 1) := by decide +kernel
theorem dL_write_3 : decode cL_write 3 = .ok (.iload_n 1, 1) := by decide +kernel
theorem dL_write_4 : decode cL_write 4 = .ok (.invokevirtual 7, 3) := by decide +kernel
theorem dL_write_7 : decode cL_write 7 = .ok (.i2l, 1) := by decide +kernel
theorem dL_write_8 : decode cL_write 8 = .ok (.lastore, 1) := by decide +kernel
theorem dL_write_9 : decode cL_write 9 = .ok (.goto 9, 3) := by decide +kernel
theorem dL_write_12 : decode cL_write 12 = .ok (.astore_n 3, 1) := by decide +kernel
theorem dL_write_13 : decode cL_write 13 = .ok (.iconst 1, 1) := by decide +kernel
theorem dL_write_14 : decode cL_write 14 = .ok (.ireturn, 1) := by decide +kernel
theorem dL_write_15 : decode cL_write 15 = .ok (.astore_n 3, 1) := by decide +kernel
theorem dL_write_16 : decode cL_write 16 = .ok (.iconst 2, 1) := by decide +kernel
theorem dL_write_17 : decode cL_write 17 = .ok (.ireturn, 1) := by decide +kernel
theorem dL_write_18 : decode cL_write 18 = .ok (.iconst 0, 1) := by decide +kernel
theorem dL_write_19 : decode cL_write 19 = .ok (.ireturn, 1) := by decide +kernel
theorem dL_rub_0 : decode cL_rub 0 = .ok (.aload_n 1, 1) := by decide +kernel
theorem dL_rub_1 : decode cL_rub 1 = .ok (.iconst 0, 1) := by decide +kernel
theorem dL_rub_2 : decode cL_rub 2 = .ok (.aload_n 0, 1) := by decide +kernel
theorem dL_rub_3 : decode cL_rub 3 = .ok (.invokevirtual 17, 3) := by decide +kernel
theorem dL_rub_6 : decode cL_rub 6 = .ok (.i2l, 1) := by decide +kernel
theorem dL_rub_7 : decode cL_rub 7 = .ok (.lastore, 1) := by decide +kernel
theorem dL_rub_8 : decode cL_rub 8 = .ok (.goto 6, 3) := by decide +kernel
theorem dL_rub_11 : decode cL_rub 11 = .ok (.astore_n 2, 1) := by decide +kernel
theorem dL_rub_12 : decode cL_rub 12 = .ok (.iconst 1, 1) := by decide +kernel
theorem dL_rub_13 : decode cL_rub 13 = .ok (.ireturn, 1) := by decide +kernel
theorem dL_rub_14 : decode cL_rub 14 = .ok (.iconst 0, 1) := by decide +kernel
theorem dL_rub_15 : decode cL_rub 15 = .ok (.ireturn, 1) := by decide +kernel
theorem dL_swap_0 : decode cL_swap 0 = .ok (.aload_n 1, 1) := by decide +kernel
theorem dL_swap_1 : decode cL_swap 1 = .ok (.iconst 0, 1) := by decide +kernel
theorem dL_swap_2 : decode cL_swap 2 = .ok (.aload_n 0, 1) := by decide +kernel
theorem dL_swap_3 : decode cL_swap 3 = .ok (.invokevirtual 21, 3) := by decide +kernel
theorem dL_swap_6 : decode cL_swap 6 = .ok (.i2l, 1) := by decide +kernel
theorem dL_swap_7 : decode cL_swap 7 = .ok (.lastore, 1) := by decide +kernel
theorem dL_swap_8 : decode cL_swap 8 = .ok (.goto 6, 3) := by decide +kernel
theorem dL_swap_11 : decode cL_swap 11 = .ok (.astore_n 2, 1) := by decide +kernel
theorem dL_swap_12 : decode cL_swap 12 = .ok (.iconst 1, 1) := by decide +kernel
theorem dL_swap_13 : decode cL_swap 13 = .ok (.ireturn, 1) := by decide +kernel
theorem dL_swap_14 : decode cL_swap 14 = .ok (.iconst 0, 1) := by decide +kernel
theorem dL_swap_15 : decode cL_swap 15 = .ok (.ireturn, 1) := by decide +kernel
theorem dL_goTo_0 : decode cL_goTo 0 = .ok (.aload_n 2, 1) := by decide +kernel
theorem dL_goTo_1 : decode cL_goTo 1 = .ok (.iconst 0, 1) := by decide +kernel
theorem dL_goTo_2 : decode cL_goTo 2 = .ok (.aload_n 0, 1) := by decide +kernel
theorem dL_goTo_3 : decode cL_goTo 3 = .ok (.iload_n 1, 1) := by decide +kernel
theorem dL_goTo_4 : decode cL_goTo 4 = .ok (.invokevirtual 24, 3) := by decide +kernel
theorem dL_goTo_7 : decode cL_goTo 7 = .ok (.i2l, 1) := by decide +kernel
theorem dL_goTo_8 : decode cL_goTo 8 = .ok (.lastore, 1) := by decide +kernel
theorem dL_goTo_9 : decode cL_goTo 9 = .ok (.goto 6, 3) := by decide +kernel
theorem dL_goTo_12 : decode cL_goTo 12 = .ok (.astore_n 3, 1) := by decide +kernel
theorem dL_goTo_13 : decode cL_goTo 13 = .ok (.iconst 1, 1) := by decide +kernel
theorem dL_goTo_14 : decode cL_goTo 14 = .ok (.ireturn, 1) := by decide +kernel
theorem dL_goTo_15 : decode cL_goTo 15 = .ok (.iconst 0, 1) := by decide +kernel
theorem dL_goTo_16 : decode cL_goTo 16 = .ok (.ireturn, 1) := by decide +kernel
theorem dL_goLines_0 : decode cL_goLines 0 = .ok (.aload_n 2, 1) := by decide +kernel
theorem dL_goLines_1 : decode cL_goLines 1 = .ok (.iconst 0, 1) := by decide +kernel
theorem dL_goLines_2 : decode cL_goLines 2 = .ok (.aload_n 0, 1) := by decide +kernel
theorem dL_goLines_3 : decode cL_goLines 3 = .ok (.iload_n 1, 1) := by decide +kernel
theorem dL_goLines_4 : decode cL_goLines 4 = .ok (.invokevirtual 27, 3) := by decide +kernel
theorem dL_goLines_7 : decode cL_goLines 7 = .ok (.i2l, 1) := by decide +kernel
theorem dL_goLines_8 : decode cL_goLines 8 = .ok (.lastore, 1) := by decide +kernel
theorem dL_goLines_9 : decode cL_goLines 9 = .ok (.goto 9, 3) := by decide +kernel
theorem dL_goLines_12 : decode cL_goLines 12 = .ok (.astore_n 3, 1) := by decide +kernel
theorem dL_goLines_13 : decode cL_goLines 13 = .ok (.iconst 1, 1) := by decide +kernel
theorem dL_goLines_14 : decode cL_goLines 14 = .ok (.ireturn, 1) := by decide +kernel
theorem dL_goLines_15 : decode cL_goLines 15 = .ok (.astore_n 3, 1) := by decide +kernel
theorem dL_goLines_16 : decode cL_goLines 16 = .ok (.iconst 2, 1) := by decide +kernel
theorem dL_goLines_17 : decode cL_goLines 17 = .ok (.ireturn, 1) := by decide +kernel
theorem dL_goLines_18 : decode cL_goLines 18 = .ok (.iconst 0, 1) := by decide +kernel
theorem dL_goLines_19 : decode cL_goLines 19 = .ok (.ireturn, 1) := by decide +kernel
theorem dL_exchange_0 : decode cL_exchange 0 = .ok (.aload_n 1, 1) := by decide +kernel
theorem dL_exchange_1 : decode cL_exchange 1 = .ok (.iconst 0, 1) := by decide +kernel
theorem dL_exchange_2 : decode cL_exchange 2 = .ok (.aload_n 0, 1) := by decide +kernel
theorem dL_exchange_3 : decode cL_exchange 3 = .ok (.invokevirtual 30, 3) := by decide +kernel
theorem dL_exchange_6 : decode cL_exchange 6 = .ok (.i2l, 1) := by decide +kernel
theorem dL_exchange_7 : decode cL_exchange 7 = .ok (.lastore, 1) := by decide +kernel
theorem dL_exchange_8 : decode cL_exchange 8 = .ok (.goto 6, 3) := by decide +kernel
theorem dL_exchange_11 : decode cL_exchange 11 = .ok (.astore_n 2, 1) := by decide +kernel
theorem dL_exchange_12 : decode cL_exchange 12 = .ok (.iconst 1, 1) := by decide +kernel
theorem dL_exchange_13 : decode cL_exchange 13 = .ok (.ireturn, 1) := by decide +kernel
theorem dL_exchange_14 : decode cL_exchange 14 = .ok (.iconst 0, 1) := by decide +kernel
theorem dL_exchange_15 : decode cL_exchange 15 = .ok (.ireturn, 1) := by decide +kernel
theorem dL_find_0 : decode cL_find 0 = .ok (.aload_n 1, 1) := by decide +kernel
theorem dL_find_1 : decode cL_find 1 = .ok (.iconst 0, 1) := by decide +kernel
theorem dL_find_2 : decode cL_find 2 = .ok (.aload_n 0, 1) := by decide +kernel
theorem dL_find_3 : decode cL_find 3 = .ok (.invokevirtual 33, 3) := by decide +kernel
theorem dL_find_6 : decode cL_find 6 = .ok (.i2l, 1) := by decide +kernel
theorem dL_find_7 : decode cL_find 7 = .ok (.lastore, 1) := by decide +kernel
theorem dL_find_8 : decode cL_find 8 = .ok (.goto 9, 3) := by decide +kernel
theorem dL_find_11 : decode cL_find 11 = .ok (.astore_n 2, 1) := by decide +kernel
theorem dL_find_12 : decode cL_find 12 = .ok (.iconst 1, 1) := by decide +kernel
theorem dL_find_13 : decode cL_find 13 = .ok (.ireturn, 1) := by decide +kernel
theorem dL_find_14 : decode cL_find 14 = .ok (.astore_n 2, 1) := by decide +kernel
theorem dL_find_15 : decode cL_find 15 = .ok (.iconst 2, 1) := by decide +kernel
theorem dL_find_16 : decode cL_find 16 = .ok (.ireturn, 1) := by decide +kernel
theorem dL_find_17 : decode cL_find 17 = .ok (.iconst 0, 1) := by decide +kernel
theorem dL_find_18 : decode cL_find 18 = .ok (.ireturn, 1) := by decide +kernel
theorem dL_killWord_0 : decode cL_killWord 0 = .ok (.aload_n 1, 1) := by decide +kernel
theorem dL_killWord_1 : decode cL_killWord 1 = .ok (.iconst 0, 1) := by decide +kernel
theorem dL_killWord_2 : decode cL_killWord 2 = .ok (.aload_n 0, 1) := by decide +kernel
theorem dL_killWord_3 : decode cL_killWord 3 = .ok (.invokevirtual 36, 3) := by decide +kernel
theorem dL_killWord_6 : decode cL_killWord 6 = .ok (.i2l, 1) := by decide +kernel
theorem dL_killWord_7 : decode cL_killWord 7 = .ok (.lastore, 1) := by decide +kernel
theorem dL_killWord_8 : decode cL_killWord 8 = .ok (.goto 6, 3) := by decide +kernel
theorem dL_killWord_11 : decode cL_killWord 11 = .ok (.astore_n 2, 1) := by decide +kernel
theorem dL_killWord_12 : decode cL_killWord 12 = .ok (.iconst 1, 1) := by decide +kernel
theorem dL_killWord_13 : decode cL_killWord 13 = .ok (.ireturn, 1) := by decide +kernel
theorem dL_killWord_14 : decode cL_killWord 14 = .ok (.iconst 0, 1) := by decide +kernel
theorem dL_killWord_15 : decode cL_killWord 15 = .ok (.ireturn, 1) := by decide +kernel
theorem dL_killBack_0 : decode cL_killBack 0 = .ok (.aload_n 1, 1) := by decide +kernel
theorem dL_killBack_1 : decode cL_killBack 1 = .ok (.iconst 0, 1) := by decide +kernel
theorem dL_killBack_2 : decode cL_killBack 2 = .ok (.aload_n 0, 1) := by decide +kernel
theorem dL_killBack_3 : decode cL_killBack 3 = .ok (.invokevirtual 39, 3) := by decide +kernel
theorem dL_killBack_6 : decode cL_killBack 6 = .ok (.i2l, 1) := by decide +kernel
theorem dL_killBack_7 : decode cL_killBack 7 = .ok (.lastore, 1) := by decide +kernel
theorem dL_killBack_8 : decode cL_killBack 8 = .ok (.goto 6, 3) := by decide +kernel
theorem dL_killBack_11 : decode cL_killBack 11 = .ok (.astore_n 2, 1) := by decide +kernel
theorem dL_killBack_12 : decode cL_killBack 12 = .ok (.iconst 1, 1) := by decide +kernel
theorem dL_killBack_13 : decode cL_killBack 13 = .ok (.ireturn, 1) := by decide +kernel
theorem dL_killBack_14 : decode cL_killBack 14 = .ok (.iconst 0, 1) := by decide +kernel
theorem dL_killBack_15 : decode cL_killBack 15 = .ok (.ireturn, 1) := by decide +kernel
theorem dL_killLine_0 : decode cL_killLine 0 = .ok (.aload_n 1, 1) := by decide +kernel
theorem dL_killLine_1 : decode cL_killLine 1 = .ok (.iconst 0, 1) := by decide +kernel
theorem dL_killLine_2 : decode cL_killLine 2 = .ok (.aload_n 0, 1) := by decide +kernel
theorem dL_killLine_3 : decode cL_killLine 3 = .ok (.invokevirtual 42, 3) := by decide +kernel
theorem dL_killLine_6 : decode cL_killLine 6 = .ok (.i2l, 1) := by decide +kernel
theorem dL_killLine_7 : decode cL_killLine 7 = .ok (.lastore, 1) := by decide +kernel
theorem dL_killLine_8 : decode cL_killLine 8 = .ok (.goto 6, 3) := by decide +kernel
theorem dL_killLine_11 : decode cL_killLine 11 = .ok (.astore_n 2, 1) := by decide +kernel
theorem dL_killLine_12 : decode cL_killLine 12 = .ok (.iconst 1, 1) := by decide +kernel
theorem dL_killLine_13 : decode cL_killLine 13 = .ok (.ireturn, 1) := by decide +kernel
theorem dL_killLine_14 : decode cL_killLine 14 = .ok (.iconst 0, 1) := by decide +kernel
theorem dL_killLine_15 : decode cL_killLine 15 = .ok (.ireturn, 1) := by decide +kernel
theorem dL_killBetween_0 : decode cL_killBetween 0 = .ok (.aload_n 1, 1) := by decide +kernel
theorem dL_killBetween_1 : decode cL_killBetween 1 = .ok (.iconst 0, 1) := by decide +kernel
theorem dL_killBetween_2 : decode cL_killBetween 2 = .ok (.aload_n 0, 1) := by decide +kernel
theorem dL_killBetween_3 : decode cL_killBetween 3 = .ok (.invokevirtual 45, 3) := by decide +kernel
theorem dL_killBetween_6 : decode cL_killBetween 6 = .ok (.i2l, 1) := by decide +kernel
theorem dL_killBetween_7 : decode cL_killBetween 7 = .ok (.lastore, 1) := by decide +kernel
theorem dL_killBetween_8 : decode cL_killBetween 8 = .ok (.goto 6, 3) := by decide +kernel
theorem dL_killBetween_11 : decode cL_killBetween 11 = .ok (.astore_n 2, 1) := by decide +kernel
theorem dL_killBetween_12 : decode cL_killBetween 12 = .ok (.iconst 1, 1) := by decide +kernel
theorem dL_killBetween_13 : decode cL_killBetween 13 = .ok (.ireturn, 1) := by decide +kernel
theorem dL_killBetween_14 : decode cL_killBetween 14 = .ok (.iconst 0, 1) := by decide +kernel
theorem dL_killBetween_15 : decode cL_killBetween 15 = .ok (.ireturn, 1) := by decide +kernel
theorem dL_copyBetween_0 : decode cL_copyBetween 0 = .ok (.aload_n 1, 1) := by decide +kernel
theorem dL_copyBetween_1 : decode cL_copyBetween 1 = .ok (.iconst 0, 1) := by decide +kernel
theorem dL_copyBetween_2 : decode cL_copyBetween 2 = .ok (.aload_n 0, 1) := by decide +kernel
theorem dL_copyBetween_3 : decode cL_copyBetween 3 = .ok (.invokevirtual 48, 3) := by decide +kernel
theorem dL_copyBetween_6 : decode cL_copyBetween 6 = .ok (.i2l, 1) := by decide +kernel
theorem dL_copyBetween_7 : decode cL_copyBetween 7 = .ok (.lastore, 1) := by decide +kernel
theorem dL_copyBetween_8 : decode cL_copyBetween 8 = .ok (.goto 6, 3) := by decide +kernel
theorem dL_copyBetween_11 : decode cL_copyBetween 11 = .ok (.astore_n 2, 1) := by decide +kernel
theorem dL_copyBetween_12 : decode cL_copyBetween 12 = .ok (.iconst 1, 1) := by decide +kernel
theorem dL_copyBetween_13 : decode cL_copyBetween 13 = .ok (.ireturn, 1) := by decide +kernel
theorem dL_copyBetween_14 : decode cL_copyBetween 14 = .ok (.iconst 0, 1) := by decide +kernel
theorem dL_copyBetween_15 : decode cL_copyBetween 15 = .ok (.ireturn, 1) := by decide +kernel
theorem dL_yank_0 : decode cL_yank 0 = .ok (.aload_n 1, 1) := by decide +kernel
theorem dL_yank_1 : decode cL_yank 1 = .ok (.iconst 0, 1) := by decide +kernel
theorem dL_yank_2 : decode cL_yank 2 = .ok (.aload_n 0, 1) := by decide +kernel
theorem dL_yank_3 : decode cL_yank 3 = .ok (.invokevirtual 51, 3) := by decide +kernel
theorem dL_yank_6 : decode cL_yank 6 = .ok (.i2l, 1) := by decide +kernel
theorem dL_yank_7 : decode cL_yank 7 = .ok (.lastore, 1) := by decide +kernel
theorem dL_yank_8 : decode cL_yank 8 = .ok (.goto 6, 3) := by decide +kernel
theorem dL_yank_11 : decode cL_yank 11 = .ok (.astore_n 2, 1) := by decide +kernel
theorem dL_yank_12 : decode cL_yank 12 = .ok (.iconst 1, 1) := by decide +kernel
theorem dL_yank_13 : decode cL_yank 13 = .ok (.ireturn, 1) := by decide +kernel
theorem dL_yank_14 : decode cL_yank 14 = .ok (.iconst 0, 1) := by decide +kernel
theorem dL_yank_15 : decode cL_yank 15 = .ok (.ireturn, 1) := by decide +kernel
theorem dL_yankOther_0 : decode cL_yankOther 0 = .ok (.aload_n 1, 1) := by decide +kernel
theorem dL_yankOther_1 : decode cL_yankOther 1 = .ok (.iconst 0, 1) := by decide +kernel
theorem dL_yankOther_2 : decode cL_yankOther 2 = .ok (.aload_n 0, 1) := by decide +kernel
theorem dL_yankOther_3 : decode cL_yankOther 3 = .ok (.invokevirtual 54, 3) := by decide +kernel
theorem dL_yankOther_6 : decode cL_yankOther 6 = .ok (.i2l, 1) := by decide +kernel
theorem dL_yankOther_7 : decode cL_yankOther 7 = .ok (.lastore, 1) := by decide +kernel
theorem dL_yankOther_8 : decode cL_yankOther 8 = .ok (.goto 6, 3) := by decide +kernel
theorem dL_yankOther_11 : decode cL_yankOther 11 = .ok (.astore_n 2, 1) := by decide +kernel
theorem dL_yankOther_12 : decode cL_yankOther 12 = .ok (.iconst 1, 1) := by decide +kernel
theorem dL_yankOther_13 : decode cL_yankOther 13 = .ok (.ireturn, 1) := by decide +kernel
theorem dL_yankOther_14 : decode cL_yankOther 14 = .ok (.iconst 0, 1) := by decide +kernel
theorem dL_yankOther_15 : decode cL_yankOther 15 = .ok (.ireturn, 1) := by decide +kernel
theorem dL_turn_0 : decode cL_turn 0 = .ok (.aload_n 2, 1) := by decide +kernel
theorem dL_turn_1 : decode cL_turn 1 = .ok (.iconst 0, 1) := by decide +kernel
theorem dL_turn_2 : decode cL_turn 2 = .ok (.aload_n 0, 1) := by decide +kernel
theorem dL_turn_3 : decode cL_turn 3 = .ok (.iload_n 1, 1) := by decide +kernel
theorem dL_turn_4 : decode cL_turn 4 = .ok (.invokevirtual 57, 3) := by decide +kernel
theorem dL_turn_7 : decode cL_turn 7 = .ok (.i2l, 1) := by decide +kernel
theorem dL_turn_8 : decode cL_turn 8 = .ok (.lastore, 1) := by decide +kernel
theorem dL_turn_9 : decode cL_turn 9 = .ok (.goto 9, 3) := by decide +kernel
theorem dL_turn_12 : decode cL_turn 12 = .ok (.astore_n 3, 1) := by decide +kernel
theorem dL_turn_13 : decode cL_turn 13 = .ok (.iconst 1, 1) := by decide +kernel
theorem dL_turn_14 : decode cL_turn 14 = .ok (.ireturn, 1) := by decide +kernel
theorem dL_turn_15 : decode cL_turn 15 = .ok (.astore_n 3, 1) := by decide +kernel
theorem dL_turn_16 : decode cL_turn 16 = .ok (.iconst 2, 1) := by decide +kernel
theorem dL_turn_17 : decode cL_turn 17 = .ok (.ireturn, 1) := by decide +kernel
theorem dL_turn_18 : decode cL_turn 18 = .ok (.iconst 0, 1) := by decide +kernel
theorem dL_turn_19 : decode cL_turn 19 = .ok (.ireturn, 1) := by decide +kernel
theorem dL_changeCaves_0 : decode cL_changeCaves 0 = .ok (.aload_n 2, 1) := by decide +kernel
theorem dL_changeCaves_1 : decode cL_changeCaves 1 = .ok (.iconst 0, 1) := by decide +kernel
theorem dL_changeCaves_2 : decode cL_changeCaves 2 = .ok (.aload_n 0, 1) := by decide +kernel
theorem dL_changeCaves_3 : decode cL_changeCaves 3 = .ok (.iload_n 1, 1) := by decide +kernel
theorem dL_changeCaves_4 : decode cL_changeCaves 4 = .ok (.invokevirtual 60, 3) := by decide +kernel
theorem dL_changeCaves_7 : decode cL_changeCaves 7 = .ok (.i2l, 1) := by decide +kernel
theorem dL_changeCaves_8 : decode cL_changeCaves 8 = .ok (.lastore, 1) := by decide +kernel
theorem dL_changeCaves_9 : decode cL_changeCaves 9 = .ok (.goto 6, 3) := by decide +kernel
theorem dL_changeCaves_12 : decode cL_changeCaves 12 = .ok (.astore_n 3, 1) := by decide +kernel
theorem dL_changeCaves_13 : decode cL_changeCaves 13 = .ok (.iconst 1, 1) := by decide +kernel
theorem dL_changeCaves_14 : decode cL_changeCaves 14 = .ok (.ireturn, 1) := by decide +kernel
theorem dL_changeCaves_15 : decode cL_changeCaves 15 = .ok (.iconst 0, 1) := by decide +kernel
theorem dL_changeCaves_16 : decode cL_changeCaves 16 = .ok (.ireturn, 1) := by decide +kernel
theorem dL_append_0 : decode cL_append 0 = .ok (.aload_n 2, 1) := by decide +kernel
theorem dL_append_1 : decode cL_append 1 = .ok (.iconst 0, 1) := by decide +kernel
theorem dL_append_2 : decode cL_append 2 = .ok (.aload_n 0, 1) := by decide +kernel
theorem dL_append_3 : decode cL_append 3 = .ok (.iload_n 1, 1) := by decide +kernel
theorem dL_append_4 : decode cL_append 4 = .ok (.invokevirtual 63, 3) := by decide +kernel
theorem dL_append_7 : decode cL_append 7 = .ok (.i2l, 1) := by decide +kernel
theorem dL_append_8 : decode cL_append 8 = .ok (.lastore, 1) := by decide +kernel
theorem dL_append_9 : decode cL_append 9 = .ok (.goto 9, 3) := by decide +kernel
theorem dL_append_12 : decode cL_append 12 = .ok (.astore_n 3, 1) := by decide +kernel
theorem dL_append_13 : decode cL_append 13 = .ok (.iconst 1, 1) := by decide +kernel
theorem dL_append_14 : decode cL_append 14 = .ok (.ireturn, 1) := by decide +kernel
theorem dL_append_15 : decode cL_append 15 = .ok (.astore_n 3, 1) := by decide +kernel
theorem dL_append_16 : decode cL_append 16 = .ok (.iconst 2, 1) := by decide +kernel
theorem dL_append_17 : decode cL_append 17 = .ok (.ireturn, 1) := by decide +kernel
theorem dL_append_18 : decode cL_append 18 = .ok (.iconst 0, 1) := by decide +kernel
theorem dL_append_19 : decode cL_append 19 = .ok (.ireturn, 1) := by decide +kernel
theorem dL_perform_0 : decode cL_perform 0 = .ok (.aload_n 1, 1) := by decide +kernel
theorem dL_perform_1 : decode cL_perform 1 = .ok (.iconst 0, 1) := by decide +kernel
theorem dL_perform_2 : decode cL_perform 2 = .ok (.aload_n 0, 1) := by decide +kernel
theorem dL_perform_3 : decode cL_perform 3 = .ok (.invokevirtual 66, 3) := by decide +kernel
theorem dL_perform_6 : decode cL_perform 6 = .ok (.i2l, 1) := by decide +kernel
theorem dL_perform_7 : decode cL_perform 7 = .ok (.lastore, 1) := by decide +kernel
theorem dL_perform_8 : decode cL_perform 8 = .ok (.goto 9, 3) := by decide +kernel
theorem dL_perform_11 : decode cL_perform 11 = .ok (.astore_n 2, 1) := by decide +kernel
theorem dL_perform_12 : decode cL_perform 12 = .ok (.iconst 1, 1) := by decide +kernel
theorem dL_perform_13 : decode cL_perform 13 = .ok (.ireturn, 1) := by decide +kernel
theorem dL_perform_14 : decode cL_perform 14 = .ok (.astore_n 2, 1) := by decide +kernel
theorem dL_perform_15 : decode cL_perform 15 = .ok (.iconst 2, 1) := by decide +kernel
theorem dL_perform_16 : decode cL_perform 16 = .ok (.ireturn, 1) := by decide +kernel
theorem dL_perform_17 : decode cL_perform 17 = .ok (.iconst 0, 1) := by decide +kernel
theorem dL_perform_18 : decode cL_perform 18 = .ok (.ireturn, 1) := by decide +kernel
theorem dL_keep_0 : decode cL_keep 0 = .ok (.aload_n 0, 1) := by decide +kernel
theorem dL_keep_1 : decode cL_keep 1 = .ok (.iload_n 1, 1) := by decide +kernel
theorem dL_keep_2 : decode cL_keep 2 = .ok (.invokevirtual 69, 3) := by decide +kernel
theorem dL_keep_5 : decode cL_keep 5 = .ok (.goto 6, 3) := by decide +kernel
theorem dL_keep_8 : decode cL_keep 8 = .ok (.astore_n 2, 1) := by decide +kernel
theorem dL_keep_9 : decode cL_keep 9 = .ok (.iconst 1, 1) := by decide +kernel
theorem dL_keep_10 : decode cL_keep 10 = .ok (.ireturn, 1) := by decide +kernel
theorem dL_keep_11 : decode cL_keep 11 = .ok (.iconst 0, 1) := by decide +kernel
theorem dL_keep_12 : decode cL_keep 12 = .ok (.ireturn, 1) := by decide +kernel
theorem dL_goBack_0 : decode cL_goBack 0 = .ok (.aload_n 0, 1) := by decide +kernel
theorem dL_goBack_1 : decode cL_goBack 1 = .ok (.iload_n 1, 1) := by decide +kernel
theorem dL_goBack_2 : decode cL_goBack 2 = .ok (.invokevirtual 73, 3) := by decide +kernel
theorem dL_goBack_5 : decode cL_goBack 5 = .ok (.goto 9, 3) := by decide +kernel
theorem dL_goBack_8 : decode cL_goBack 8 = .ok (.astore_n 2, 1) := by decide +kernel
theorem dL_goBack_9 : decode cL_goBack 9 = .ok (.iconst 1, 1) := by decide +kernel
theorem dL_goBack_10 : decode cL_goBack 10 = .ok (.ireturn, 1) := by decide +kernel
theorem dL_goBack_11 : decode cL_goBack 11 = .ok (.astore_n 2, 1) := by decide +kernel
theorem dL_goBack_12 : decode cL_goBack 12 = .ok (.iconst 2, 1) := by decide +kernel
theorem dL_goBack_13 : decode cL_goBack 13 = .ok (.ireturn, 1) := by decide +kernel
theorem dL_goBack_14 : decode cL_goBack 14 = .ok (.iconst 0, 1) := by decide +kernel
theorem dL_goBack_15 : decode cL_goBack 15 = .ok (.ireturn, 1) := by decide +kernel
theorem dL_undo_0 : decode cL_undo 0 = .ok (.aload_n 0, 1) := by decide +kernel
theorem dL_undo_1 : decode cL_undo 1 = .ok (.invokevirtual 76, 3) := by decide +kernel
theorem dL_undo_4 : decode cL_undo 4 = .ok (.goto 6, 3) := by decide +kernel
theorem dL_undo_7 : decode cL_undo 7 = .ok (.astore_n 1, 1) := by decide +kernel
theorem dL_undo_8 : decode cL_undo 8 = .ok (.iconst 1, 1) := by decide +kernel
theorem dL_undo_9 : decode cL_undo 9 = .ok (.ireturn, 1) := by decide +kernel
theorem dL_undo_10 : decode cL_undo 10 = .ok (.iconst 0, 1) := by decide +kernel
theorem dL_undo_11 : decode cL_undo 11 = .ok (.ireturn, 1) := by decide +kernel
theorem dL_codeAt_0 : decode cL_codeAt 0 = .ok (.aload_n 2, 1) := by decide +kernel
theorem dL_codeAt_1 : decode cL_codeAt 1 = .ok (.iconst 0, 1) := by decide +kernel
theorem dL_codeAt_2 : decode cL_codeAt 2 = .ok (.aload_n 0, 1) := by decide +kernel
theorem dL_codeAt_3 : decode cL_codeAt 3 = .ok (.iload_n 1, 1) := by decide +kernel
theorem dL_codeAt_4 : decode cL_codeAt 4 = .ok (.invokevirtual 79, 3) := by decide +kernel
theorem dL_codeAt_7 : decode cL_codeAt 7 = .ok (.i2l, 1) := by decide +kernel
theorem dL_codeAt_8 : decode cL_codeAt 8 = .ok (.lastore, 1) := by decide +kernel
theorem dL_codeAt_9 : decode cL_codeAt 9 = .ok (.goto 6, 3) := by decide +kernel
theorem dL_codeAt_12 : decode cL_codeAt 12 = .ok (.astore_n 3, 1) := by decide +kernel
theorem dL_codeAt_13 : decode cL_codeAt 13 = .ok (.iconst 1, 1) := by decide +kernel
theorem dL_codeAt_14 : decode cL_codeAt 14 = .ok (.ireturn, 1) := by decide +kernel
theorem dL_codeAt_15 : decode cL_codeAt 15 = .ok (.iconst 0, 1) := by decide +kernel
theorem dL_codeAt_16 : decode cL_codeAt 16 = .ok (.ireturn, 1) := by decide +kernel
theorem dL_markAt_0 : decode cL_markAt 0 = .ok (.aload_n 1, 1) := by decide +kernel
theorem dL_markAt_1 : decode cL_markAt 1 = .ok (.iconst 0, 1) := by decide +kernel
theorem dL_markAt_2 : decode cL_markAt 2 = .ok (.aload_n 0, 1) := by decide +kernel
theorem dL_markAt_3 : decode cL_markAt 3 = .ok (.invokevirtual 84, 3) := by decide +kernel
theorem dL_markAt_6 : decode cL_markAt 6 = .ok (.i2l, 1) := by decide +kernel
theorem dL_markAt_7 : decode cL_markAt 7 = .ok (.lastore, 1) := by decide +kernel
theorem dL_markAt_8 : decode cL_markAt 8 = .ok (.goto 6, 3) := by decide +kernel
theorem dL_markAt_11 : decode cL_markAt 11 = .ok (.astore_n 2, 1) := by decide +kernel
theorem dL_markAt_12 : decode cL_markAt 12 = .ok (.iconst 1, 1) := by decide +kernel
theorem dL_markAt_13 : decode cL_markAt 13 = .ok (.ireturn, 1) := by decide +kernel
theorem dL_markAt_14 : decode cL_markAt 14 = .ok (.iconst 0, 1) := by decide +kernel
theorem dL_markAt_15 : decode cL_markAt 15 = .ok (.ireturn, 1) := by decide +kernel
theorem dL_between_0 : decode cL_between 0 = .ok (.aload_n 1, 1) := by decide +kernel
theorem dL_between_1 : decode cL_between 1 = .ok (.iconst 0, 1) := by decide +kernel
theorem dL_between_2 : decode cL_between 2 = .ok (.aload_n 0, 1) := by decide +kernel
theorem dL_between_3 : decode cL_between 3 = .ok (.invokevirtual 87, 3) := by decide +kernel
theorem dL_between_6 : decode cL_between 6 = .ok (.i2l, 1) := by decide +kernel
theorem dL_between_7 : decode cL_between 7 = .ok (.lastore, 1) := by decide +kernel
theorem dL_between_8 : decode cL_between 8 = .ok (.goto 6, 3) := by decide +kernel
theorem dL_between_11 : decode cL_between 11 = .ok (.astore_n 2, 1) := by decide +kernel
theorem dL_between_12 : decode cL_between 12 = .ok (.iconst 1, 1) := by decide +kernel
theorem dL_between_13 : decode cL_between 13 = .ok (.ireturn, 1) := by decide +kernel
theorem dL_between_14 : decode cL_between 14 = .ok (.iconst 0, 1) := by decide +kernel
theorem dL_between_15 : decode cL_between 15 = .ok (.ireturn, 1) := by decide +kernel
theorem dL_lengthOf_0 : decode cL_lengthOf 0 = .ok (.aload_n 2, 1) := by decide +kernel
theorem dL_lengthOf_1 : decode cL_lengthOf 1 = .ok (.iconst 0, 1) := by decide +kernel
theorem dL_lengthOf_2 : decode cL_lengthOf 2 = .ok (.aload_n 0, 1) := by decide +kernel
theorem dL_lengthOf_3 : decode cL_lengthOf 3 = .ok (.iload_n 1, 1) := by decide +kernel
theorem dL_lengthOf_4 : decode cL_lengthOf 4 = .ok (.invokevirtual 90, 3) := by decide +kernel
theorem dL_lengthOf_7 : decode cL_lengthOf 7 = .ok (.i2l, 1) := by decide +kernel
theorem dL_lengthOf_8 : decode cL_lengthOf 8 = .ok (.lastore, 1) := by decide +kernel
theorem dL_lengthOf_9 : decode cL_lengthOf 9 = .ok (.goto 6, 3) := by decide +kernel
theorem dL_lengthOf_12 : decode cL_lengthOf 12 = .ok (.astore_n 3, 1) := by decide +kernel
theorem dL_lengthOf_13 : decode cL_lengthOf 13 = .ok (.iconst 1, 1) := by decide +kernel
theorem dL_lengthOf_14 : decode cL_lengthOf 14 = .ok (.ireturn, 1) := by decide +kernel
theorem dL_lengthOf_15 : decode cL_lengthOf 15 = .ok (.iconst 0, 1) := by decide +kernel
theorem dL_lengthOf_16 : decode cL_lengthOf 16 = .ok (.ireturn, 1) := by decide +kernel
theorem dL_codeIn_0 : decode cL_codeIn 0 = .ok (.aload_n 3, 1) := by decide +kernel
theorem dL_codeIn_1 : decode cL_codeIn 1 = .ok (.iconst 0, 1) := by decide +kernel
theorem dL_codeIn_2 : decode cL_codeIn 2 = .ok (.aload_n 0, 1) := by decide +kernel
theorem dL_codeIn_3 : decode cL_codeIn 3 = .ok (.iload_n 1, 1) := by decide +kernel
theorem dL_codeIn_4 : decode cL_codeIn 4 = .ok (.iload_n 2, 1) := by decide +kernel
theorem dL_codeIn_5 : decode cL_codeIn 5 = .ok (.invokevirtual 93, 3) := by decide +kernel
theorem dL_codeIn_8 : decode cL_codeIn 8 = .ok (.i2l, 1) := by decide +kernel
theorem dL_codeIn_9 : decode cL_codeIn 9 = .ok (.lastore, 1) := by decide +kernel
theorem dL_codeIn_10 : decode cL_codeIn 10 = .ok (.goto 7, 3) := by decide +kernel
theorem dL_codeIn_13 : decode cL_codeIn 13 = .ok (.astore 4, 2) := by decide +kernel
theorem dL_codeIn_15 : decode cL_codeIn 15 = .ok (.iconst 1, 1) := by decide +kernel
theorem dL_codeIn_16 : decode cL_codeIn 16 = .ok (.ireturn, 1) := by decide +kernel
theorem dL_codeIn_17 : decode cL_codeIn 17 = .ok (.iconst 0, 1) := by decide +kernel
theorem dL_codeIn_18 : decode cL_codeIn 18 = .ok (.ireturn, 1) := by decide +kernel
theorem dL_nextHoard_0 : decode cL_nextHoard 0 = .ok (.aload_n 1, 1) := by decide +kernel
theorem dL_nextHoard_1 : decode cL_nextHoard 1 = .ok (.iconst 0, 1) := by decide +kernel
theorem dL_nextHoard_2 : decode cL_nextHoard 2 = .ok (.aload_n 0, 1) := by decide +kernel
theorem dL_nextHoard_3 : decode cL_nextHoard 3 = .ok (.invokevirtual 97, 3) := by decide +kernel
theorem dL_nextHoard_6 : decode cL_nextHoard 6 = .ok (.i2l, 1) := by decide +kernel
theorem dL_nextHoard_7 : decode cL_nextHoard 7 = .ok (.lastore, 1) := by decide +kernel
theorem dL_nextHoard_8 : decode cL_nextHoard 8 = .ok (.goto 6, 3) := by decide +kernel
theorem dL_nextHoard_11 : decode cL_nextHoard 11 = .ok (.astore_n 2, 1) := by decide +kernel
theorem dL_nextHoard_12 : decode cL_nextHoard 12 = .ok (.iconst 1, 1) := by decide +kernel
theorem dL_nextHoard_13 : decode cL_nextHoard 13 = .ok (.ireturn, 1) := by decide +kernel
theorem dL_nextHoard_14 : decode cL_nextHoard 14 = .ok (.iconst 0, 1) := by decide +kernel
theorem dL_nextHoard_15 : decode cL_nextHoard 15 = .ok (.ireturn, 1) := by decide +kernel
theorem dL_lengthIfYanked_0 : decode cL_lengthIfYanked 0 = .ok (.aload_n 2, 1) := by decide +kernel
theorem dL_lengthIfYanked_1 : decode cL_lengthIfYanked 1 = .ok (.iconst 0, 1) := by decide +kernel
theorem dL_lengthIfYanked_2 : decode cL_lengthIfYanked 2 = .ok (.aload_n 0, 1) := by decide +kernel
theorem dL_lengthIfYanked_3 : decode cL_lengthIfYanked 3 = .ok (.iload_n 1, 1) := by decide +kernel
theorem dL_lengthIfYanked_4 : decode cL_lengthIfYanked 4 = .ok (.invokevirtual 100, 3) := by decide +kernel
theorem dL_lengthIfYanked_7 : decode cL_lengthIfYanked 7 = .ok (.i2l, 1) := by decide +kernel
theorem dL_lengthIfYanked_8 : decode cL_lengthIfYanked 8 = .ok (.lastore, 1) := by decide +kernel
theorem dL_lengthIfYanked_9 : decode cL_lengthIfYanked 9 = .ok (.goto 6, 3) := by decide +kernel
theorem dL_lengthIfYanked_12 : decode cL_lengthIfYanked 12 = .ok (.astore_n 3, 1) := by decide +kernel
theorem dL_lengthIfYanked_13 : decode cL_lengthIfYanked 13 = .ok (.iconst 1, 1) := by decide +kernel
theorem dL_lengthIfYanked_14 : decode cL_lengthIfYanked 14 = .ok (.ireturn, 1) := by decide +kernel
theorem dL_lengthIfYanked_15 : decode cL_lengthIfYanked 15 = .ok (.iconst 0, 1) := by decide +kernel
theorem dL_lengthIfYanked_16 : decode cL_lengthIfYanked 16 = .ok (.ireturn, 1) := by decide +kernel
theorem dL_heaviest_0 : decode cL_heaviest 0 = .ok (.aload_n 1, 1) := by decide +kernel
theorem dL_heaviest_1 : decode cL_heaviest 1 = .ok (.iconst 0, 1) := by decide +kernel
theorem dL_heaviest_2 : decode cL_heaviest 2 = .ok (.aload_n 0, 1) := by decide +kernel
theorem dL_heaviest_3 : decode cL_heaviest 3 = .ok (.invokevirtual 103, 3) := by decide +kernel
theorem dL_heaviest_6 : decode cL_heaviest 6 = .ok (.i2l, 1) := by decide +kernel
theorem dL_heaviest_7 : decode cL_heaviest 7 = .ok (.lastore, 1) := by decide +kernel
theorem dL_heaviest_8 : decode cL_heaviest 8 = .ok (.goto 6, 3) := by decide +kernel
theorem dL_heaviest_11 : decode cL_heaviest 11 = .ok (.astore_n 2, 1) := by decide +kernel
theorem dL_heaviest_12 : decode cL_heaviest 12 = .ok (.iconst 1, 1) := by decide +kernel
theorem dL_heaviest_13 : decode cL_heaviest 13 = .ok (.ireturn, 1) := by decide +kernel
theorem dL_heaviest_14 : decode cL_heaviest 14 = .ok (.iconst 0, 1) := by decide +kernel
theorem dL_heaviest_15 : decode cL_heaviest 15 = .ok (.ireturn, 1) := by decide +kernel
theorem dL_law_0 : decode cL_law 0 = .ok (.new 8, 3) := by decide +kernel
theorem dL_law_3 : decode cL_law 3 = .ok (.dup, 1) := by decide +kernel
theorem dL_law_4 : decode cL_law 4 = .ok (.invokespecial 106, 3) := by decide +kernel
theorem dL_law_7 : decode cL_law 7 = .ok (.astore_n 1, 1) := by decide +kernel
theorem dL_law_8 : decode cL_law 8 = .ok (.new 107, 3) := by decide +kernel
theorem dL_law_11 : decode cL_law 11 = .ok (.dup, 1) := by decide +kernel
theorem dL_law_12 : decode cL_law 12 = .ok (.invokespecial 109, 3) := by decide +kernel
theorem dL_law_15 : decode cL_law 15 = .ok (.astore_n 2, 1) := by decide +kernel
theorem dL_law_16 : decode cL_law 16 = .ok (.iconst 1, 1) := by decide +kernel
theorem dL_law_17 : decode cL_law 17 = .ok (.newarray .long, 2) := by decide +kernel
theorem dL_law_19 : decode cL_law 19 = .ok (.astore_n 3, 1) := by decide +kernel
theorem dL_law_20 : decode cL_law 20 = .ok (.iconst 0, 1) := by decide +kernel
theorem dL_law_21 : decode cL_law 21 = .ok (.istore 4, 2) := by decide +kernel
theorem dL_law_23 : decode cL_law 23 = .ok (.iload 4, 2) := by decide +kernel
theorem dL_law_25 : decode cL_law 25 = .ok (.aload_n 0, 1) := by decide +kernel
theorem dL_law_26 : decode cL_law 26 = .ok (.arraylength, 1) := by decide +kernel
theorem dL_law_27 : decode cL_law 27 = .ok (.iconst 3, 1) := by decide +kernel
theorem dL_law_28 : decode cL_law 28 = .ok (.isub, 1) := by decide +kernel
theorem dL_law_29 : decode cL_law 29 = .ok (.if_icmp .gt 2056, 3) := by decide +kernel
theorem dL_law_32 : decode cL_law 32 = .ok (.aload_n 0, 1) := by decide +kernel
theorem dL_law_33 : decode cL_law 33 = .ok (.iload 4, 2) := by decide +kernel
theorem dL_law_35 : decode cL_law 35 = .ok (.iaload, 1) := by decide +kernel
theorem dL_law_36 : decode cL_law 36 = .ok (.bipush 63, 2) := by decide +kernel
theorem dL_law_38 : decode cL_law 38 = .ok (.iand, 1) := by decide +kernel
theorem dL_law_39 : decode cL_law 39 = .ok (.tableswitch 2040 0 58 #[249, 305, 349, 393, 406, 462, 475, 488, 501, 514, 570, 583, 627, 671, 715, 759, 803, 847, 891, 935, 979, 1035, 1091, 1147, 1160, 1173, 1217, 1253, 1289, 1313, 1326, 1339, 1395, 1408, 1452, 1496, 1509, 1522, 1535, 1548, 1561, 1574, 1587, 1600, 1613, 1669, 1737, 1781, 1794, 1807, 1863, 1876, 1920, 1933, 1946, 1959, 1972, 1985, 2026], 249) := by decide +kernel
theorem dL_law_288 : decode cL_law 288 = .ok (.aload_n 1, 1) := by decide +kernel
theorem dL_law_289 : decode cL_law 289 = .ok (.aload_n 0, 1) := by decide +kernel
theorem dL_law_290 : decode cL_law 290 = .ok (.iload 4, 2) := by decide +kernel
theorem dL_law_292 : decode cL_law 292 = .ok (.iconst 1, 1) := by decide +kernel
theorem dL_law_293 : decode cL_law 293 = .ok (.iadd, 1) := by decide +kernel
theorem dL_law_294 : decode cL_law 294 = .ok (.iaload, 1) := by decide +kernel
theorem dL_law_295 : decode cL_law 295 = .ok (.aload_n 3, 1) := by decide +kernel
theorem dL_law_296 : decode cL_law 296 = .ok (.invokestatic 110, 3) := by decide +kernel
theorem dL_law_299 : decode cL_law 299 = .ok (.istore 5, 2) := by decide +kernel
theorem dL_law_301 : decode cL_law 301 = .ok (.aload_n 2, 1) := by decide +kernel
theorem dL_law_302 : decode cL_law 302 = .ok (.aload_n 0, 1) := by decide +kernel
theorem dL_law_303 : decode cL_law 303 = .ok (.iload 4, 2) := by decide +kernel
theorem dL_law_305 : decode cL_law 305 = .ok (.iconst 1, 1) := by decide +kernel
theorem dL_law_306 : decode cL_law 306 = .ok (.iadd, 1) := by decide +kernel
theorem dL_law_307 : decode cL_law 307 = .ok (.iaload, 1) := by decide +kernel
theorem dL_law_308 : decode cL_law 308 = .ok (.invokevirtual 115, 3) := by decide +kernel
theorem dL_law_311 : decode cL_law 311 = .ok (.istore 6, 2) := by decide +kernel
theorem dL_law_313 : decode cL_law 313 = .ok (.aload_n 2, 1) := by decide +kernel
theorem dL_law_314 : decode cL_law 314 = .ok (.invokevirtual 116, 3) := by decide +kernel
theorem dL_law_317 : decode cL_law 317 = .ok (.iload 5, 2) := by decide +kernel
theorem dL_law_319 : decode cL_law 319 = .ok (.if_icmp .eq 5, 3) := by decide +kernel
theorem dL_law_322 : decode cL_law 322 = .ok (.iconst 0, 1) := by decide +kernel
theorem dL_law_323 : decode cL_law 323 = .ok (.ireturn, 1) := by decide +kernel
theorem dL_law_324 : decode cL_law 324 = .ok (.iload 5, 2) := by decide +kernel
theorem dL_law_326 : decode cL_law 326 = .ok (.ifCond .ne 15, 3) := by decide +kernel
theorem dL_law_329 : decode cL_law 329 = .ok (.aload_n 3, 1) := by decide +kernel
theorem dL_law_330 : decode cL_law 330 = .ok (.iconst 0, 1) := by decide +kernel
theorem dL_law_331 : decode cL_law 331 = .ok (.laload, 1) := by decide +kernel
theorem dL_law_332 : decode cL_law 332 = .ok (.iload 6, 2) := by decide +kernel
theorem dL_law_334 : decode cL_law 334 = .ok (.i2l, 1) := by decide +kernel
theorem dL_law_335 : decode cL_law 335 = .ok (.lcmp, 1) := by decide +kernel
theorem dL_law_336 : decode cL_law 336 = .ok (.ifCond .eq 5, 3) := by decide +kernel
theorem dL_law_339 : decode cL_law 339 = .ok (.iconst 0, 1) := by decide +kernel
theorem dL_law_340 : decode cL_law 340 = .ok (.ireturn, 1) := by decide +kernel
theorem dL_law_341 : decode cL_law 341 = .ok (.goto 1738, 3) := by decide +kernel
theorem dL_law_344 : decode cL_law 344 = .ok (.aload_n 1, 1) := by decide +kernel
theorem dL_law_345 : decode cL_law 345 = .ok (.aload_n 3, 1) := by decide +kernel
theorem dL_law_346 : decode cL_law 346 = .ok (.invokestatic 119, 3) := by decide +kernel
theorem dL_law_349 : decode cL_law 349 = .ok (.istore 5, 2) := by decide +kernel
theorem dL_law_351 : decode cL_law 351 = .ok (.aload_n 2, 1) := by decide +kernel
theorem dL_law_352 : decode cL_law 352 = .ok (.invokevirtual 122, 3) := by decide +kernel
theorem dL_law_355 : decode cL_law 355 = .ok (.istore 6, 2) := by decide +kernel
theorem dL_law_357 : decode cL_law 357 = .ok (.aload_n 2, 1) := by decide +kernel
theorem dL_law_358 : decode cL_law 358 = .ok (.invokevirtual 116, 3) := by decide +kernel
theorem dL_law_361 : decode cL_law 361 = .ok (.iload 5, 2) := by decide +kernel
theorem dL_law_363 : decode cL_law 363 = .ok (.if_icmp .eq 5, 3) := by decide +kernel
theorem dL_law_366 : decode cL_law 366 = .ok (.iconst 0, 1) := by decide +kernel
theorem dL_law_367 : decode cL_law 367 = .ok (.ireturn, 1) := by decide +kernel
theorem dL_law_368 : decode cL_law 368 = .ok (.iload 5, 2) := by decide +kernel
theorem dL_law_370 : decode cL_law 370 = .ok (.ifCond .ne 15, 3) := by decide +kernel
theorem dL_law_373 : decode cL_law 373 = .ok (.aload_n 3, 1) := by decide +kernel
theorem dL_law_374 : decode cL_law 374 = .ok (.iconst 0, 1) := by decide +kernel
theorem dL_law_375 : decode cL_law 375 = .ok (.laload, 1) := by decide +kernel
theorem dL_law_376 : decode cL_law 376 = .ok (.iload 6, 2) := by decide +kernel
theorem dL_law_378 : decode cL_law 378 = .ok (.i2l, 1) := by decide +kernel
theorem dL_law_379 : decode cL_law 379 = .ok (.lcmp, 1) := by decide +kernel
theorem dL_law_380 : decode cL_law 380 = .ok (.ifCond .eq 5, 3) := by decide +kernel
theorem dL_law_383 : decode cL_law 383 = .ok (.iconst 0, 1) := by decide +kernel
theorem dL_law_384 : decode cL_law 384 = .ok (.ireturn, 1) := by decide +kernel
theorem dL_law_385 : decode cL_law 385 = .ok (.goto 1694, 3) := by decide +kernel
theorem dL_law_388 : decode cL_law 388 = .ok (.aload_n 1, 1) := by decide +kernel
theorem dL_law_389 : decode cL_law 389 = .ok (.aload_n 3, 1) := by decide +kernel
theorem dL_law_390 : decode cL_law 390 = .ok (.invokestatic 123, 3) := by decide +kernel
theorem dL_law_393 : decode cL_law 393 = .ok (.istore 5, 2) := by decide +kernel
theorem dL_law_395 : decode cL_law 395 = .ok (.aload_n 2, 1) := by decide +kernel
theorem dL_law_396 : decode cL_law 396 = .ok (.invokevirtual 125, 3) := by decide +kernel
theorem dL_law_399 : decode cL_law 399 = .ok (.istore 6, 2) := by decide +kernel
theorem dL_law_401 : decode cL_law 401 = .ok (.aload_n 2, 1) := by decide +kernel
theorem dL_law_402 : decode cL_law 402 = .ok (.invokevirtual 116, 3) := by decide +kernel
theorem dL_law_405 : decode cL_law 405 = .ok (.iload 5, 2) := by decide +kernel
theorem dL_law_407 : decode cL_law 407 = .ok (.if_icmp .eq 5, 3) := by decide +kernel
theorem dL_law_410 : decode cL_law 410 = .ok (.iconst 0, 1) := by decide +kernel
theorem dL_law_411 : decode cL_law 411 = .ok (.ireturn, 1) := by decide +kernel
theorem dL_law_412 : decode cL_law 412 = .ok (.iload 5, 2) := by decide +kernel
theorem dL_law_414 : decode cL_law 414 = .ok (.ifCond .ne 15, 3) := by decide +kernel
theorem dL_law_417 : decode cL_law 417 = .ok (.aload_n 3, 1) := by decide +kernel
theorem dL_law_418 : decode cL_law 418 = .ok (.iconst 0, 1) := by decide +kernel
theorem dL_law_419 : decode cL_law 419 = .ok (.laload, 1) := by decide +kernel
theorem dL_law_420 : decode cL_law 420 = .ok (.iload 6, 2) := by decide +kernel
theorem dL_law_422 : decode cL_law 422 = .ok (.i2l, 1) := by decide +kernel
theorem dL_law_423 : decode cL_law 423 = .ok (.lcmp, 1) := by decide +kernel
theorem dL_law_424 : decode cL_law 424 = .ok (.ifCond .eq 5, 3) := by decide +kernel
theorem dL_law_427 : decode cL_law 427 = .ok (.iconst 0, 1) := by decide +kernel
theorem dL_law_428 : decode cL_law 428 = .ok (.ireturn, 1) := by decide +kernel
theorem dL_law_429 : decode cL_law 429 = .ok (.goto 1650, 3) := by decide +kernel
theorem dL_law_432 : decode cL_law 432 = .ok (.aload_n 1, 1) := by decide +kernel
theorem dL_law_433 : decode cL_law 433 = .ok (.invokevirtual 126, 3) := by decide +kernel
theorem dL_law_436 : decode cL_law 436 = .ok (.aload_n 2, 1) := by decide +kernel
theorem dL_law_437 : decode cL_law 437 = .ok (.invokevirtual 129, 3) := by decide +kernel
theorem dL_law_440 : decode cL_law 440 = .ok (.if_icmp .eq 1639, 3) := by decide +kernel
theorem dL_law_443 : decode cL_law 443 = .ok (.iconst 0, 1) := by decide +kernel
theorem dL_law_444 : decode cL_law 444 = .ok (.ireturn, 1) := by decide +kernel
theorem dL_law_445 : decode cL_law 445 = .ok (.aload_n 1, 1) := by decide +kernel
theorem dL_law_446 : decode cL_law 446 = .ok (.aload_n 0, 1) := by decide +kernel
theorem dL_law_447 : decode cL_law 447 = .ok (.iload 4, 2) := by decide +kernel
theorem dL_law_449 : decode cL_law 449 = .ok (.iconst 1, 1) := by decide +kernel
theorem dL_law_450 : decode cL_law 450 = .ok (.iadd, 1) := by decide +kernel
theorem dL_law_451 : decode cL_law 451 = .ok (.iaload, 1) := by decide +kernel
theorem dL_law_452 : decode cL_law 452 = .ok (.aload_n 3, 1) := by decide +kernel
theorem dL_law_453 : decode cL_law 453 = .ok (.invokestatic 130, 3) := by decide +kernel
theorem dL_law_456 : decode cL_law 456 = .ok (.istore 5, 2) := by decide +kernel
theorem dL_law_458 : decode cL_law 458 = .ok (.aload_n 2, 1) := by decide +kernel
theorem dL_law_459 : decode cL_law 459 = .ok (.aload_n 0, 1) := by decide +kernel
theorem dL_law_460 : decode cL_law 460 = .ok (.iload 4, 2) := by decide +kernel
theorem dL_law_462 : decode cL_law 462 = .ok (.iconst 1, 1) := by decide +kernel
theorem dL_law_463 : decode cL_law 463 = .ok (.iadd, 1) := by decide +kernel
theorem dL_law_464 : decode cL_law 464 = .ok (.iaload, 1) := by decide +kernel
theorem dL_law_465 : decode cL_law 465 = .ok (.invokevirtual 132, 3) := by decide +kernel
theorem dL_law_468 : decode cL_law 468 = .ok (.istore 6, 2) := by decide +kernel
theorem dL_law_470 : decode cL_law 470 = .ok (.aload_n 2, 1) := by decide +kernel
theorem dL_law_471 : decode cL_law 471 = .ok (.invokevirtual 116, 3) := by decide +kernel
theorem dL_law_474 : decode cL_law 474 = .ok (.iload 5, 2) := by decide +kernel
theorem dL_law_476 : decode cL_law 476 = .ok (.if_icmp .eq 5, 3) := by decide +kernel
theorem dL_law_479 : decode cL_law 479 = .ok (.iconst 0, 1) := by decide +kernel
theorem dL_law_480 : decode cL_law 480 = .ok (.ireturn, 1) := by decide +kernel
theorem dL_law_481 : decode cL_law 481 = .ok (.iload 5, 2) := by decide +kernel
theorem dL_law_483 : decode cL_law 483 = .ok (.ifCond .ne 15, 3) := by decide +kernel
theorem dL_law_486 : decode cL_law 486 = .ok (.aload_n 3, 1) := by decide +kernel
theorem dL_law_487 : decode cL_law 487 = .ok (.iconst 0, 1) := by decide +kernel
theorem dL_law_488 : decode cL_law 488 = .ok (.laload, 1) := by decide +kernel
theorem dL_law_489 : decode cL_law 489 = .ok (.iload 6, 2) := by decide +kernel
theorem dL_law_491 : decode cL_law 491 = .ok (.i2l, 1) := by decide +kernel
theorem dL_law_492 : decode cL_law 492 = .ok (.lcmp, 1) := by decide +kernel
theorem dL_law_493 : decode cL_law 493 = .ok (.ifCond .eq 5, 3) := by decide +kernel
theorem dL_law_496 : decode cL_law 496 = .ok (.iconst 0, 1) := by decide +kernel
theorem dL_law_497 : decode cL_law 497 = .ok (.ireturn, 1) := by decide +kernel
theorem dL_law_498 : decode cL_law 498 = .ok (.goto 1581, 3) := by decide +kernel
theorem dL_law_501 : decode cL_law 501 = .ok (.aload_n 1, 1) := by decide +kernel
theorem dL_law_502 : decode cL_law 502 = .ok (.invokevirtual 133, 3) := by decide +kernel
theorem dL_law_505 : decode cL_law 505 = .ok (.aload_n 2, 1) := by decide +kernel
theorem dL_law_506 : decode cL_law 506 = .ok (.invokevirtual 136, 3) := by decide +kernel
theorem dL_law_509 : decode cL_law 509 = .ok (.if_icmp .eq 1570, 3) := by decide +kernel
theorem dL_law_512 : decode cL_law 512 = .ok (.iconst 0, 1) := by decide +kernel
theorem dL_law_513 : decode cL_law 513 = .ok (.ireturn, 1) := by decide +kernel
theorem dL_law_514 : decode cL_law 514 = .ok (.aload_n 1, 1) := by decide +kernel
theorem dL_law_515 : decode cL_law 515 = .ok (.invokevirtual 137, 3) := by decide +kernel
theorem dL_law_518 : decode cL_law 518 = .ok (.aload_n 2, 1) := by decide +kernel
theorem dL_law_519 : decode cL_law 519 = .ok (.invokevirtual 140, 3) := by decide +kernel
theorem dL_law_522 : decode cL_law 522 = .ok (.if_icmp .eq 1557, 3) := by decide +kernel
theorem dL_law_525 : decode cL_law 525 = .ok (.iconst 0, 1) := by decide +kernel
theorem dL_law_526 : decode cL_law 526 = .ok (.ireturn, 1) := by decide +kernel
theorem dL_law_527 : decode cL_law 527 = .ok (.aload_n 1, 1) := by decide +kernel
theorem dL_law_528 : decode cL_law 528 = .ok (.invokevirtual 141, 3) := by decide +kernel
theorem dL_law_531 : decode cL_law 531 = .ok (.aload_n 2, 1) := by decide +kernel
theorem dL_law_532 : decode cL_law 532 = .ok (.invokevirtual 144, 3) := by decide +kernel
theorem dL_law_535 : decode cL_law 535 = .ok (.if_icmp .eq 1544, 3) := by decide +kernel
theorem dL_law_538 : decode cL_law 538 = .ok (.iconst 0, 1) := by decide +kernel
theorem dL_law_539 : decode cL_law 539 = .ok (.ireturn, 1) := by decide +kernel
theorem dL_law_540 : decode cL_law 540 = .ok (.aload_n 1, 1) := by decide +kernel
theorem dL_law_541 : decode cL_law 541 = .ok (.invokevirtual 145, 3) := by decide +kernel
theorem dL_law_544 : decode cL_law 544 = .ok (.aload_n 2, 1) := by decide +kernel
theorem dL_law_545 : decode cL_law 545 = .ok (.invokevirtual 148, 3) := by decide +kernel
theorem dL_law_548 : decode cL_law 548 = .ok (.if_icmp .eq 1531, 3) := by decide +kernel
theorem dL_law_551 : decode cL_law 551 = .ok (.iconst 0, 1) := by decide +kernel
theorem dL_law_552 : decode cL_law 552 = .ok (.ireturn, 1) := by decide +kernel
theorem dL_law_553 : decode cL_law 553 = .ok (.aload_n 1, 1) := by decide +kernel
theorem dL_law_554 : decode cL_law 554 = .ok (.aload_n 0, 1) := by decide +kernel
theorem dL_law_555 : decode cL_law 555 = .ok (.iload 4, 2) := by decide +kernel
theorem dL_law_557 : decode cL_law 557 = .ok (.iconst 1, 1) := by decide +kernel
theorem dL_law_558 : decode cL_law 558 = .ok (.iadd, 1) := by decide +kernel
theorem dL_law_559 : decode cL_law 559 = .ok (.iaload, 1) := by decide +kernel
theorem dL_law_560 : decode cL_law 560 = .ok (.aload_n 3, 1) := by decide +kernel
theorem dL_law_561 : decode cL_law 561 = .ok (.invokestatic 149, 3) := by decide +kernel
theorem dL_law_564 : decode cL_law 564 = .ok (.istore 5, 2) := by decide +kernel
theorem dL_law_566 : decode cL_law 566 = .ok (.aload_n 2, 1) := by decide +kernel
theorem dL_law_567 : decode cL_law 567 = .ok (.aload_n 0, 1) := by decide +kernel
theorem dL_law_568 : decode cL_law 568 = .ok (.iload 4, 2) := by decide +kernel
theorem dL_law_570 : decode cL_law 570 = .ok (.iconst 1, 1) := by decide +kernel
theorem dL_law_571 : decode cL_law 571 = .ok (.iadd, 1) := by decide +kernel
theorem dL_law_572 : decode cL_law 572 = .ok (.iaload, 1) := by decide +kernel
theorem dL_law_573 : decode cL_law 573 = .ok (.invokevirtual 151, 3) := by decide +kernel
theorem dL_law_576 : decode cL_law 576 = .ok (.istore 6, 2) := by decide +kernel
theorem dL_law_578 : decode cL_law 578 = .ok (.aload_n 2, 1) := by decide +kernel
theorem dL_law_579 : decode cL_law 579 = .ok (.invokevirtual 116, 3) := by decide +kernel
theorem dL_law_582 : decode cL_law 582 = .ok (.iload 5, 2) := by decide +kernel
theorem dL_law_584 : decode cL_law 584 = .ok (.if_icmp .eq 5, 3) := by decide +kernel
theorem dL_law_587 : decode cL_law 587 = .ok (.iconst 0, 1) := by decide +kernel
theorem dL_law_588 : decode cL_law 588 = .ok (.ireturn, 1) := by decide +kernel
theorem dL_law_589 : decode cL_law 589 = .ok (.iload 5, 2) := by decide +kernel
theorem dL_law_591 : decode cL_law 591 = .ok (.ifCond .ne 15, 3) := by decide +kernel
theorem dL_law_594 : decode cL_law 594 = .ok (.aload_n 3, 1) := by decide +kernel
theorem dL_law_595 : decode cL_law 595 = .ok (.iconst 0, 1) := by decide +kernel
theorem dL_law_596 : decode cL_law 596 = .ok (.laload, 1) := by decide +kernel
theorem dL_law_597 : decode cL_law 597 = .ok (.iload 6, 2) := by decide +kernel
theorem dL_law_599 : decode cL_law 599 = .ok (.i2l, 1) := by decide +kernel
theorem dL_law_600 : decode cL_law 600 = .ok (.lcmp, 1) := by decide +kernel
theorem dL_law_601 : decode cL_law 601 = .ok (.ifCond .eq 5, 3) := by decide +kernel
theorem dL_law_604 : decode cL_law 604 = .ok (.iconst 0, 1) := by decide +kernel
theorem dL_law_605 : decode cL_law 605 = .ok (.ireturn, 1) := by decide +kernel
theorem dL_law_606 : decode cL_law 606 = .ok (.goto 1473, 3) := by decide +kernel
theorem dL_law_609 : decode cL_law 609 = .ok (.aload_n 1, 1) := by decide +kernel
theorem dL_law_610 : decode cL_law 610 = .ok (.invokevirtual 152, 3) := by decide +kernel
theorem dL_law_613 : decode cL_law 613 = .ok (.aload_n 2, 1) := by decide +kernel
theorem dL_law_614 : decode cL_law 614 = .ok (.invokevirtual 155, 3) := by decide +kernel
theorem dL_law_617 : decode cL_law 617 = .ok (.if_icmp .eq 1462, 3) := by decide +kernel
theorem dL_law_620 : decode cL_law 620 = .ok (.iconst 0, 1) := by decide +kernel
theorem dL_law_621 : decode cL_law 621 = .ok (.ireturn, 1) := by decide +kernel
theorem dL_law_622 : decode cL_law 622 = .ok (.aload_n 1, 1) := by decide +kernel
theorem dL_law_623 : decode cL_law 623 = .ok (.aload_n 3, 1) := by decide +kernel
theorem dL_law_624 : decode cL_law 624 = .ok (.invokestatic 156, 3) := by decide +kernel
theorem dL_law_627 : decode cL_law 627 = .ok (.istore 5, 2) := by decide +kernel
theorem dL_law_629 : decode cL_law 629 = .ok (.aload_n 2, 1) := by decide +kernel
theorem dL_law_630 : decode cL_law 630 = .ok (.invokevirtual 158, 3) := by decide +kernel
theorem dL_law_633 : decode cL_law 633 = .ok (.istore 6, 2) := by decide +kernel
theorem dL_law_635 : decode cL_law 635 = .ok (.aload_n 2, 1) := by decide +kernel
theorem dL_law_636 : decode cL_law 636 = .ok (.invokevirtual 116, 3) := by decide +kernel
theorem dL_law_639 : decode cL_law 639 = .ok (.iload 5, 2) := by decide +kernel
theorem dL_law_641 : decode cL_law 641 = .ok (.if_icmp .eq 5, 3) := by decide +kernel
theorem dL_law_644 : decode cL_law 644 = .ok (.iconst 0, 1) := by decide +kernel
theorem dL_law_645 : decode cL_law 645 = .ok (.ireturn, 1) := by decide +kernel
theorem dL_law_646 : decode cL_law 646 = .ok (.iload 5, 2) := by decide +kernel
theorem dL_law_648 : decode cL_law 648 = .ok (.ifCond .ne 15, 3) := by decide +kernel
theorem dL_law_651 : decode cL_law 651 = .ok (.aload_n 3, 1) := by decide +kernel
theorem dL_law_652 : decode cL_law 652 = .ok (.iconst 0, 1) := by decide +kernel
theorem dL_law_653 : decode cL_law 653 = .ok (.laload, 1) := by decide +kernel
theorem dL_law_654 : decode cL_law 654 = .ok (.iload 6, 2) := by decide +kernel
theorem dL_law_656 : decode cL_law 656 = .ok (.i2l, 1) := by decide +kernel
theorem dL_law_657 : decode cL_law 657 = .ok (.lcmp, 1) := by decide +kernel
theorem dL_law_658 : decode cL_law 658 = .ok (.ifCond .eq 5, 3) := by decide +kernel
theorem dL_law_661 : decode cL_law 661 = .ok (.iconst 0, 1) := by decide +kernel
theorem dL_law_662 : decode cL_law 662 = .ok (.ireturn, 1) := by decide +kernel
theorem dL_law_663 : decode cL_law 663 = .ok (.goto 1416, 3) := by decide +kernel
theorem dL_law_666 : decode cL_law 666 = .ok (.aload_n 1, 1) := by decide +kernel
theorem dL_law_667 : decode cL_law 667 = .ok (.aload_n 3, 1) := by decide +kernel
theorem dL_law_668 : decode cL_law 668 = .ok (.invokestatic 159, 3) := by decide +kernel
theorem dL_law_671 : decode cL_law 671 = .ok (.istore 5, 2) := by decide +kernel
theorem dL_law_673 : decode cL_law 673 = .ok (.aload_n 2, 1) := by decide +kernel
theorem dL_law_674 : decode cL_law 674 = .ok (.invokevirtual 161, 3) := by decide +kernel
theorem dL_law_677 : decode cL_law 677 = .ok (.istore 6, 2) := by decide +kernel
theorem dL_law_679 : decode cL_law 679 = .ok (.aload_n 2, 1) := by decide +kernel
theorem dL_law_680 : decode cL_law 680 = .ok (.invokevirtual 116, 3) := by decide +kernel
theorem dL_law_683 : decode cL_law 683 = .ok (.iload 5, 2) := by decide +kernel
theorem dL_law_685 : decode cL_law 685 = .ok (.if_icmp .eq 5, 3) := by decide +kernel
theorem dL_law_688 : decode cL_law 688 = .ok (.iconst 0, 1) := by decide +kernel
theorem dL_law_689 : decode cL_law 689 = .ok (.ireturn, 1) := by decide +kernel
theorem dL_law_690 : decode cL_law 690 = .ok (.iload 5, 2) := by decide +kernel
theorem dL_law_692 : decode cL_law 692 = .ok (.ifCond .ne 15, 3) := by decide +kernel
theorem dL_law_695 : decode cL_law 695 = .ok (.aload_n 3, 1) := by decide +kernel
theorem dL_law_696 : decode cL_law 696 = .ok (.iconst 0, 1) := by decide +kernel
theorem dL_law_697 : decode cL_law 697 = .ok (.laload, 1) := by decide +kernel
theorem dL_law_698 : decode cL_law 698 = .ok (.iload 6, 2) := by decide +kernel
theorem dL_law_700 : decode cL_law 700 = .ok (.i2l, 1) := by decide +kernel
theorem dL_law_701 : decode cL_law 701 = .ok (.lcmp, 1) := by decide +kernel
theorem dL_law_702 : decode cL_law 702 = .ok (.ifCond .eq 5, 3) := by decide +kernel
theorem dL_law_705 : decode cL_law 705 = .ok (.iconst 0, 1) := by decide +kernel
theorem dL_law_706 : decode cL_law 706 = .ok (.ireturn, 1) := by decide +kernel
theorem dL_law_707 : decode cL_law 707 = .ok (.goto 1372, 3) := by decide +kernel
theorem dL_law_710 : decode cL_law 710 = .ok (.aload_n 1, 1) := by decide +kernel
theorem dL_law_711 : decode cL_law 711 = .ok (.aload_n 3, 1) := by decide +kernel
theorem dL_law_712 : decode cL_law 712 = .ok (.invokestatic 162, 3) := by decide +kernel
theorem dL_law_715 : decode cL_law 715 = .ok (.istore 5, 2) := by decide +kernel
theorem dL_law_717 : decode cL_law 717 = .ok (.aload_n 2, 1) := by decide +kernel
theorem dL_law_718 : decode cL_law 718 = .ok (.invokevirtual 164, 3) := by decide +kernel
theorem dL_law_721 : decode cL_law 721 = .ok (.istore 6, 2) := by decide +kernel
theorem dL_law_723 : decode cL_law 723 = .ok (.aload_n 2, 1) := by decide +kernel
theorem dL_law_724 : decode cL_law 724 = .ok (.invokevirtual 116, 3) := by decide +kernel
theorem dL_law_727 : decode cL_law 727 = .ok (.iload 5, 2) := by decide +kernel
theorem dL_law_729 : decode cL_law 729 = .ok (.if_icmp .eq 5, 3) := by decide +kernel
theorem dL_law_732 : decode cL_law 732 = .ok (.iconst 0, 1) := by decide +kernel
theorem dL_law_733 : decode cL_law 733 = .ok (.ireturn, 1) := by decide +kernel
theorem dL_law_734 : decode cL_law 734 = .ok (.iload 5, 2) := by decide +kernel
theorem dL_law_736 : decode cL_law 736 = .ok (.ifCond .ne 15, 3) := by decide +kernel
theorem dL_law_739 : decode cL_law 739 = .ok (.aload_n 3, 1) := by decide +kernel
theorem dL_law_740 : decode cL_law 740 = .ok (.iconst 0, 1) := by decide +kernel
theorem dL_law_741 : decode cL_law 741 = .ok (.laload, 1) := by decide +kernel
theorem dL_law_742 : decode cL_law 742 = .ok (.iload 6, 2) := by decide +kernel
theorem dL_law_744 : decode cL_law 744 = .ok (.i2l, 1) := by decide +kernel
theorem dL_law_745 : decode cL_law 745 = .ok (.lcmp, 1) := by decide +kernel
theorem dL_law_746 : decode cL_law 746 = .ok (.ifCond .eq 5, 3) := by decide +kernel
theorem dL_law_749 : decode cL_law 749 = .ok (.iconst 0, 1) := by decide +kernel
theorem dL_law_750 : decode cL_law 750 = .ok (.ireturn, 1) := by decide +kernel
theorem dL_law_751 : decode cL_law 751 = .ok (.goto 1328, 3) := by decide +kernel
theorem dL_law_754 : decode cL_law 754 = .ok (.aload_n 1, 1) := by decide +kernel
theorem dL_law_755 : decode cL_law 755 = .ok (.aload_n 3, 1) := by decide +kernel
theorem dL_law_756 : decode cL_law 756 = .ok (.invokestatic 165, 3) := by decide +kernel
theorem dL_law_759 : decode cL_law 759 = .ok (.istore 5, 2) := by decide +kernel
theorem dL_law_761 : decode cL_law 761 = .ok (.aload_n 2, 1) := by decide +kernel
theorem dL_law_762 : decode cL_law 762 = .ok (.invokevirtual 167, 3) := by decide +kernel
theorem dL_law_765 : decode cL_law 765 = .ok (.istore 6, 2) := by decide +kernel
theorem dL_law_767 : decode cL_law 767 = .ok (.aload_n 2, 1) := by decide +kernel
theorem dL_law_768 : decode cL_law 768 = .ok (.invokevirtual 116, 3) := by decide +kernel
theorem dL_law_771 : decode cL_law 771 = .ok (.iload 5, 2) := by decide +kernel
theorem dL_law_773 : decode cL_law 773 = .ok (.if_icmp .eq 5, 3) := by decide +kernel
theorem dL_law_776 : decode cL_law 776 = .ok (.iconst 0, 1) := by decide +kernel
theorem dL_law_777 : decode cL_law 777 = .ok (.ireturn, 1) := by decide +kernel
theorem dL_law_778 : decode cL_law 778 = .ok (.iload 5, 2) := by decide +kernel
theorem dL_law_780 : decode cL_law 780 = .ok (.ifCond .ne 15, 3) := by decide +kernel
theorem dL_law_783 : decode cL_law 783 = .ok (.aload_n 3, 1) := by decide +kernel
theorem dL_law_784 : decode cL_law 784 = .ok (.iconst 0, 1) := by decide +kernel
theorem dL_law_785 : decode cL_law 785 = .ok (.laload, 1) := by decide +kernel
theorem dL_law_786 : decode cL_law 786 = .ok (.iload 6, 2) := by decide +kernel
theorem dL_law_788 : decode cL_law 788 = .ok (.i2l, 1) := by decide +kernel
theorem dL_law_789 : decode cL_law 789 = .ok (.lcmp, 1) := by decide +kernel
theorem dL_law_790 : decode cL_law 790 = .ok (.ifCond .eq 5, 3) := by decide +kernel
theorem dL_law_793 : decode cL_law 793 = .ok (.iconst 0, 1) := by decide +kernel
theorem dL_law_794 : decode cL_law 794 = .ok (.ireturn, 1) := by decide +kernel
theorem dL_law_795 : decode cL_law 795 = .ok (.goto 1284, 3) := by decide +kernel
theorem dL_law_798 : decode cL_law 798 = .ok (.aload_n 1, 1) := by decide +kernel
theorem dL_law_799 : decode cL_law 799 = .ok (.aload_n 3, 1) := by decide +kernel
theorem dL_law_800 : decode cL_law 800 = .ok (.invokestatic 168, 3) := by decide +kernel
theorem dL_law_803 : decode cL_law 803 = .ok (.istore 5, 2) := by decide +kernel
theorem dL_law_805 : decode cL_law 805 = .ok (.aload_n 2, 1) := by decide +kernel
theorem dL_law_806 : decode cL_law 806 = .ok (.invokevirtual 170, 3) := by decide +kernel
theorem dL_law_809 : decode cL_law 809 = .ok (.istore 6, 2) := by decide +kernel
theorem dL_law_811 : decode cL_law 811 = .ok (.aload_n 2, 1) := by decide +kernel
theorem dL_law_812 : decode cL_law 812 = .ok (.invokevirtual 116, 3) := by decide +kernel
theorem dL_law_815 : decode cL_law 815 = .ok (.iload 5, 2) := by decide +kernel
theorem dL_law_817 : decode cL_law 817 = .ok (.if_icmp .eq 5, 3) := by decide +kernel
theorem dL_law_820 : decode cL_law 820 = .ok (.iconst 0, 1) := by decide +kernel
theorem dL_law_821 : decode cL_law 821 = .ok (.ireturn, 1) := by decide +kernel
theorem dL_law_822 : decode cL_law 822 = .ok (.iload 5, 2) := by decide +kernel
theorem dL_law_824 : decode cL_law 824 = .ok (.ifCond .ne 15, 3) := by decide +kernel
theorem dL_law_827 : decode cL_law 827 = .ok (.aload_n 3, 1) := by decide +kernel
theorem dL_law_828 : decode cL_law 828 = .ok (.iconst 0, 1) := by decide +kernel
theorem dL_law_829 : decode cL_law 829 = .ok (.laload, 1) := by decide +kernel
theorem dL_law_830 : decode cL_law 830 = .ok (.iload 6, 2) := by decide +kernel
theorem dL_law_832 : decode cL_law 832 = .ok (.i2l, 1) := by decide +kernel
theorem dL_law_833 : decode cL_law 833 = .ok (.lcmp, 1) := by decide +kernel
theorem dL_law_834 : decode cL_law 834 = .ok (.ifCond .eq 5, 3) := by decide +kernel
theorem dL_law_837 : decode cL_law 837 = .ok (.iconst 0, 1) := by decide +kernel
theorem dL_law_838 : decode cL_law 838 = .ok (.ireturn, 1) := by decide +kernel
theorem dL_law_839 : decode cL_law 839 = .ok (.goto 1240, 3) := by decide +kernel
theorem dL_law_842 : decode cL_law 842 = .ok (.aload_n 1, 1) := by decide +kernel
theorem dL_law_843 : decode cL_law 843 = .ok (.aload_n 3, 1) := by decide +kernel
theorem dL_law_844 : decode cL_law 844 = .ok (.invokestatic 171, 3) := by decide +kernel
theorem dL_law_847 : decode cL_law 847 = .ok (.istore 5, 2) := by decide +kernel
theorem dL_law_849 : decode cL_law 849 = .ok (.aload_n 2, 1) := by decide +kernel
theorem dL_law_850 : decode cL_law 850 = .ok (.invokevirtual 173, 3) := by decide +kernel
theorem dL_law_853 : decode cL_law 853 = .ok (.istore 6, 2) := by decide +kernel
theorem dL_law_855 : decode cL_law 855 = .ok (.aload_n 2, 1) := by decide +kernel
theorem dL_law_856 : decode cL_law 856 = .ok (.invokevirtual 116, 3) := by decide +kernel
theorem dL_law_859 : decode cL_law 859 = .ok (.iload 5, 2) := by decide +kernel
theorem dL_law_861 : decode cL_law 861 = .ok (.if_icmp .eq 5, 3) := by decide +kernel
theorem dL_law_864 : decode cL_law 864 = .ok (.iconst 0, 1) := by decide +kernel
theorem dL_law_865 : decode cL_law 865 = .ok (.ireturn, 1) := by decide +kernel
theorem dL_law_866 : decode cL_law 866 = .ok (.iload 5, 2) := by decide +kernel
theorem dL_law_868 : decode cL_law 868 = .ok (.ifCond .ne 15, 3) := by decide +kernel
theorem dL_law_871 : decode cL_law 871 = .ok (.aload_n 3, 1) := by decide +kernel
theorem dL_law_872 : decode cL_law 872 = .ok (.iconst 0, 1) := by decide +kernel
theorem dL_law_873 : decode cL_law 873 = .ok (.laload, 1) := by decide +kernel
theorem dL_law_874 : decode cL_law 874 = .ok (.iload 6, 2) := by decide +kernel
theorem dL_law_876 : decode cL_law 876 = .ok (.i2l, 1) := by decide +kernel
theorem dL_law_877 : decode cL_law 877 = .ok (.lcmp, 1) := by decide +kernel
theorem dL_law_878 : decode cL_law 878 = .ok (.ifCond .eq 5, 3) := by decide +kernel
theorem dL_law_881 : decode cL_law 881 = .ok (.iconst 0, 1) := by decide +kernel
theorem dL_law_882 : decode cL_law 882 = .ok (.ireturn, 1) := by decide +kernel
theorem dL_law_883 : decode cL_law 883 = .ok (.goto 1196, 3) := by decide +kernel
theorem dL_law_886 : decode cL_law 886 = .ok (.aload_n 1, 1) := by decide +kernel
theorem dL_law_887 : decode cL_law 887 = .ok (.aload_n 3, 1) := by decide +kernel
theorem dL_law_888 : decode cL_law 888 = .ok (.invokestatic 174, 3) := by decide +kernel
theorem dL_law_891 : decode cL_law 891 = .ok (.istore 5, 2) := by decide +kernel
theorem dL_law_893 : decode cL_law 893 = .ok (.aload_n 2, 1) := by decide +kernel
theorem dL_law_894 : decode cL_law 894 = .ok (.invokevirtual 176, 3) := by decide +kernel
theorem dL_law_897 : decode cL_law 897 = .ok (.istore 6, 2) := by decide +kernel
theorem dL_law_899 : decode cL_law 899 = .ok (.aload_n 2, 1) := by decide +kernel
theorem dL_law_900 : decode cL_law 900 = .ok (.invokevirtual 116, 3) := by decide +kernel
theorem dL_law_903 : decode cL_law 903 = .ok (.iload 5, 2) := by decide +kernel
theorem dL_law_905 : decode cL_law 905 = .ok (.if_icmp .eq 5, 3) := by decide +kernel
theorem dL_law_908 : decode cL_law 908 = .ok (.iconst 0, 1) := by decide +kernel
theorem dL_law_909 : decode cL_law 909 = .ok (.ireturn, 1) := by decide +kernel
theorem dL_law_910 : decode cL_law 910 = .ok (.iload 5, 2) := by decide +kernel
theorem dL_law_912 : decode cL_law 912 = .ok (.ifCond .ne 15, 3) := by decide +kernel
theorem dL_law_915 : decode cL_law 915 = .ok (.aload_n 3, 1) := by decide +kernel
theorem dL_law_916 : decode cL_law 916 = .ok (.iconst 0, 1) := by decide +kernel
theorem dL_law_917 : decode cL_law 917 = .ok (.laload, 1) := by decide +kernel
theorem dL_law_918 : decode cL_law 918 = .ok (.iload 6, 2) := by decide +kernel
theorem dL_law_920 : decode cL_law 920 = .ok (.i2l, 1) := by decide +kernel
theorem dL_law_921 : decode cL_law 921 = .ok (.lcmp, 1) := by decide +kernel
theorem dL_law_922 : decode cL_law 922 = .ok (.ifCond .eq 5, 3) := by decide +kernel
theorem dL_law_925 : decode cL_law 925 = .ok (.iconst 0, 1) := by decide +kernel
theorem dL_law_926 : decode cL_law 926 = .ok (.ireturn, 1) := by decide +kernel
theorem dL_law_927 : decode cL_law 927 = .ok (.goto 1152, 3) := by decide +kernel
theorem dL_law_930 : decode cL_law 930 = .ok (.aload_n 1, 1) := by decide +kernel
theorem dL_law_931 : decode cL_law 931 = .ok (.aload_n 3, 1) := by decide +kernel
theorem dL_law_932 : decode cL_law 932 = .ok (.invokestatic 177, 3) := by decide +kernel
theorem dL_law_935 : decode cL_law 935 = .ok (.istore 5, 2) := by decide +kernel
theorem dL_law_937 : decode cL_law 937 = .ok (.aload_n 2, 1) := by decide +kernel
theorem dL_law_938 : decode cL_law 938 = .ok (.invokevirtual 179, 3) := by decide +kernel
theorem dL_law_941 : decode cL_law 941 = .ok (.istore 6, 2) := by decide +kernel
theorem dL_law_943 : decode cL_law 943 = .ok (.aload_n 2, 1) := by decide +kernel
theorem dL_law_944 : decode cL_law 944 = .ok (.invokevirtual 116, 3) := by decide +kernel
theorem dL_law_947 : decode cL_law 947 = .ok (.iload 5, 2) := by decide +kernel
theorem dL_law_949 : decode cL_law 949 = .ok (.if_icmp .eq 5, 3) := by decide +kernel
theorem dL_law_952 : decode cL_law 952 = .ok (.iconst 0, 1) := by decide +kernel
theorem dL_law_953 : decode cL_law 953 = .ok (.ireturn, 1) := by decide +kernel
theorem dL_law_954 : decode cL_law 954 = .ok (.iload 5, 2) := by decide +kernel
theorem dL_law_956 : decode cL_law 956 = .ok (.ifCond .ne 15, 3) := by decide +kernel
theorem dL_law_959 : decode cL_law 959 = .ok (.aload_n 3, 1) := by decide +kernel
theorem dL_law_960 : decode cL_law 960 = .ok (.iconst 0, 1) := by decide +kernel
theorem dL_law_961 : decode cL_law 961 = .ok (.laload, 1) := by decide +kernel
theorem dL_law_962 : decode cL_law 962 = .ok (.iload 6, 2) := by decide +kernel
theorem dL_law_964 : decode cL_law 964 = .ok (.i2l, 1) := by decide +kernel
theorem dL_law_965 : decode cL_law 965 = .ok (.lcmp, 1) := by decide +kernel
theorem dL_law_966 : decode cL_law 966 = .ok (.ifCond .eq 5, 3) := by decide +kernel
theorem dL_law_969 : decode cL_law 969 = .ok (.iconst 0, 1) := by decide +kernel
theorem dL_law_970 : decode cL_law 970 = .ok (.ireturn, 1) := by decide +kernel
theorem dL_law_971 : decode cL_law 971 = .ok (.goto 1108, 3) := by decide +kernel
theorem dL_law_974 : decode cL_law 974 = .ok (.aload_n 1, 1) := by decide +kernel
theorem dL_law_975 : decode cL_law 975 = .ok (.aload_n 3, 1) := by decide +kernel
theorem dL_law_976 : decode cL_law 976 = .ok (.invokestatic 180, 3) := by decide +kernel
theorem dL_law_979 : decode cL_law 979 = .ok (.istore 5, 2) := by decide +kernel
theorem dL_law_981 : decode cL_law 981 = .ok (.aload_n 2, 1) := by decide +kernel
theorem dL_law_982 : decode cL_law 982 = .ok (.invokevirtual 182, 3) := by decide +kernel
theorem dL_law_985 : decode cL_law 985 = .ok (.istore 6, 2) := by decide +kernel
theorem dL_law_987 : decode cL_law 987 = .ok (.aload_n 2, 1) := by decide +kernel
theorem dL_law_988 : decode cL_law 988 = .ok (.invokevirtual 116, 3) := by decide +kernel
theorem dL_law_991 : decode cL_law 991 = .ok (.iload 5, 2) := by decide +kernel
theorem dL_law_993 : decode cL_law 993 = .ok (.if_icmp .eq 5, 3) := by decide +kernel
theorem dL_law_996 : decode cL_law 996 = .ok (.iconst 0, 1) := by decide +kernel
theorem dL_law_997 : decode cL_law 997 = .ok (.ireturn, 1) := by decide +kernel
theorem dL_law_998 : decode cL_law 998 = .ok (.iload 5, 2) := by decide +kernel
theorem dL_law_1000 : decode cL_law 1000 = .ok (.ifCond .ne 15, 3) := by decide +kernel
theorem dL_law_1003 : decode cL_law 1003 = .ok (.aload_n 3, 1) := by decide +kernel
theorem dL_law_1004 : decode cL_law 1004 = .ok (.iconst 0, 1) := by decide +kernel
theorem dL_law_1005 : decode cL_law 1005 = .ok (.laload, 1) := by decide +kernel
theorem dL_law_1006 : decode cL_law 1006 = .ok (.iload 6, 2) := by decide +kernel
theorem dL_law_1008 : decode cL_law 1008 = .ok (.i2l, 1) := by decide +kernel
theorem dL_law_1009 : decode cL_law 1009 = .ok (.lcmp, 1) := by decide +kernel
theorem dL_law_1010 : decode cL_law 1010 = .ok (.ifCond .eq 5, 3) := by decide +kernel
theorem dL_law_1013 : decode cL_law 1013 = .ok (.iconst 0, 1) := by decide +kernel
theorem dL_law_1014 : decode cL_law 1014 = .ok (.ireturn, 1) := by decide +kernel
theorem dL_law_1015 : decode cL_law 1015 = .ok (.goto 1064, 3) := by decide +kernel
theorem dL_law_1018 : decode cL_law 1018 = .ok (.aload_n 1, 1) := by decide +kernel
theorem dL_law_1019 : decode cL_law 1019 = .ok (.aload_n 0, 1) := by decide +kernel
theorem dL_law_1020 : decode cL_law 1020 = .ok (.iload 4, 2) := by decide +kernel
theorem dL_law_1022 : decode cL_law 1022 = .ok (.iconst 1, 1) := by decide +kernel
theorem dL_law_1023 : decode cL_law 1023 = .ok (.iadd, 1) := by decide +kernel
theorem dL_law_1024 : decode cL_law 1024 = .ok (.iaload, 1) := by decide +kernel
theorem dL_law_1025 : decode cL_law 1025 = .ok (.aload_n 3, 1) := by decide +kernel
theorem dL_law_1026 : decode cL_law 1026 = .ok (.invokestatic 183, 3) := by decide +kernel
theorem dL_law_1029 : decode cL_law 1029 = .ok (.istore 5, 2) := by decide +kernel
theorem dL_law_1031 : decode cL_law 1031 = .ok (.aload_n 2, 1) := by decide +kernel
theorem dL_law_1032 : decode cL_law 1032 = .ok (.aload_n 0, 1) := by decide +kernel
theorem dL_law_1033 : decode cL_law 1033 = .ok (.iload 4, 2) := by decide +kernel
theorem dL_law_1035 : decode cL_law 1035 = .ok (.iconst 1, 1) := by decide +kernel
theorem dL_law_1036 : decode cL_law 1036 = .ok (.iadd, 1) := by decide +kernel
theorem dL_law_1037 : decode cL_law 1037 = .ok (.iaload, 1) := by decide +kernel
theorem dL_law_1038 : decode cL_law 1038 = .ok (.invokevirtual 185, 3) := by decide +kernel
theorem dL_law_1041 : decode cL_law 1041 = .ok (.istore 6, 2) := by decide +kernel
theorem dL_law_1043 : decode cL_law 1043 = .ok (.aload_n 2, 1) := by decide +kernel
theorem dL_law_1044 : decode cL_law 1044 = .ok (.invokevirtual 116, 3) := by decide +kernel
theorem dL_law_1047 : decode cL_law 1047 = .ok (.iload 5, 2) := by decide +kernel
theorem dL_law_1049 : decode cL_law 1049 = .ok (.if_icmp .eq 5, 3) := by decide +kernel
theorem dL_law_1052 : decode cL_law 1052 = .ok (.iconst 0, 1) := by decide +kernel
theorem dL_law_1053 : decode cL_law 1053 = .ok (.ireturn, 1) := by decide +kernel
theorem dL_law_1054 : decode cL_law 1054 = .ok (.iload 5, 2) := by decide +kernel
theorem dL_law_1056 : decode cL_law 1056 = .ok (.ifCond .ne 15, 3) := by decide +kernel
theorem dL_law_1059 : decode cL_law 1059 = .ok (.aload_n 3, 1) := by decide +kernel
theorem dL_law_1060 : decode cL_law 1060 = .ok (.iconst 0, 1) := by decide +kernel
theorem dL_law_1061 : decode cL_law 1061 = .ok (.laload, 1) := by decide +kernel
theorem dL_law_1062 : decode cL_law 1062 = .ok (.iload 6, 2) := by decide +kernel
theorem dL_law_1064 : decode cL_law 1064 = .ok (.i2l, 1) := by decide +kernel
theorem dL_law_1065 : decode cL_law 1065 = .ok (.lcmp, 1) := by decide +kernel
theorem dL_law_1066 : decode cL_law 1066 = .ok (.ifCond .eq 5, 3) := by decide +kernel
theorem dL_law_1069 : decode cL_law 1069 = .ok (.iconst 0, 1) := by decide +kernel
theorem dL_law_1070 : decode cL_law 1070 = .ok (.ireturn, 1) := by decide +kernel
theorem dL_law_1071 : decode cL_law 1071 = .ok (.goto 1008, 3) := by decide +kernel
theorem dL_law_1074 : decode cL_law 1074 = .ok (.aload_n 1, 1) := by decide +kernel
theorem dL_law_1075 : decode cL_law 1075 = .ok (.aload_n 0, 1) := by decide +kernel
theorem dL_law_1076 : decode cL_law 1076 = .ok (.iload 4, 2) := by decide +kernel
theorem dL_law_1078 : decode cL_law 1078 = .ok (.iconst 1, 1) := by decide +kernel
theorem dL_law_1079 : decode cL_law 1079 = .ok (.iadd, 1) := by decide +kernel
theorem dL_law_1080 : decode cL_law 1080 = .ok (.iaload, 1) := by decide +kernel
theorem dL_law_1081 : decode cL_law 1081 = .ok (.aload_n 3, 1) := by decide +kernel
theorem dL_law_1082 : decode cL_law 1082 = .ok (.invokestatic 186, 3) := by decide +kernel
theorem dL_law_1085 : decode cL_law 1085 = .ok (.istore 5, 2) := by decide +kernel
theorem dL_law_1087 : decode cL_law 1087 = .ok (.aload_n 2, 1) := by decide +kernel
theorem dL_law_1088 : decode cL_law 1088 = .ok (.aload_n 0, 1) := by decide +kernel
theorem dL_law_1089 : decode cL_law 1089 = .ok (.iload 4, 2) := by decide +kernel
theorem dL_law_1091 : decode cL_law 1091 = .ok (.iconst 1, 1) := by decide +kernel
theorem dL_law_1092 : decode cL_law 1092 = .ok (.iadd, 1) := by decide +kernel
theorem dL_law_1093 : decode cL_law 1093 = .ok (.iaload, 1) := by decide +kernel
theorem dL_law_1094 : decode cL_law 1094 = .ok (.invokevirtual 188, 3) := by decide +kernel
theorem dL_law_1097 : decode cL_law 1097 = .ok (.istore 6, 2) := by decide +kernel
theorem dL_law_1099 : decode cL_law 1099 = .ok (.aload_n 2, 1) := by decide +kernel
theorem dL_law_1100 : decode cL_law 1100 = .ok (.invokevirtual 116, 3) := by decide +kernel
theorem dL_law_1103 : decode cL_law 1103 = .ok (.iload 5, 2) := by decide +kernel
theorem dL_law_1105 : decode cL_law 1105 = .ok (.if_icmp .eq 5, 3) := by decide +kernel
theorem dL_law_1108 : decode cL_law 1108 = .ok (.iconst 0, 1) := by decide +kernel
theorem dL_law_1109 : decode cL_law 1109 = .ok (.ireturn, 1) := by decide +kernel
theorem dL_law_1110 : decode cL_law 1110 = .ok (.iload 5, 2) := by decide +kernel
theorem dL_law_1112 : decode cL_law 1112 = .ok (.ifCond .ne 15, 3) := by decide +kernel
theorem dL_law_1115 : decode cL_law 1115 = .ok (.aload_n 3, 1) := by decide +kernel
theorem dL_law_1116 : decode cL_law 1116 = .ok (.iconst 0, 1) := by decide +kernel
theorem dL_law_1117 : decode cL_law 1117 = .ok (.laload, 1) := by decide +kernel
theorem dL_law_1118 : decode cL_law 1118 = .ok (.iload 6, 2) := by decide +kernel
theorem dL_law_1120 : decode cL_law 1120 = .ok (.i2l, 1) := by decide +kernel
theorem dL_law_1121 : decode cL_law 1121 = .ok (.lcmp, 1) := by decide +kernel
theorem dL_law_1122 : decode cL_law 1122 = .ok (.ifCond .eq 5, 3) := by decide +kernel
theorem dL_law_1125 : decode cL_law 1125 = .ok (.iconst 0, 1) := by decide +kernel
theorem dL_law_1126 : decode cL_law 1126 = .ok (.ireturn, 1) := by decide +kernel
theorem dL_law_1127 : decode cL_law 1127 = .ok (.goto 952, 3) := by decide +kernel
theorem dL_law_1130 : decode cL_law 1130 = .ok (.aload_n 1, 1) := by decide +kernel
theorem dL_law_1131 : decode cL_law 1131 = .ok (.aload_n 0, 1) := by decide +kernel
theorem dL_law_1132 : decode cL_law 1132 = .ok (.iload 4, 2) := by decide +kernel
theorem dL_law_1134 : decode cL_law 1134 = .ok (.iconst 1, 1) := by decide +kernel
theorem dL_law_1135 : decode cL_law 1135 = .ok (.iadd, 1) := by decide +kernel
theorem dL_law_1136 : decode cL_law 1136 = .ok (.iaload, 1) := by decide +kernel
theorem dL_law_1137 : decode cL_law 1137 = .ok (.aload_n 3, 1) := by decide +kernel
theorem dL_law_1138 : decode cL_law 1138 = .ok (.invokestatic 189, 3) := by decide +kernel
theorem dL_law_1141 : decode cL_law 1141 = .ok (.istore 5, 2) := by decide +kernel
theorem dL_law_1143 : decode cL_law 1143 = .ok (.aload_n 2, 1) := by decide +kernel
theorem dL_law_1144 : decode cL_law 1144 = .ok (.aload_n 0, 1) := by decide +kernel
theorem dL_law_1145 : decode cL_law 1145 = .ok (.iload 4, 2) := by decide +kernel
theorem dL_law_1147 : decode cL_law 1147 = .ok (.iconst 1, 1) := by decide +kernel
theorem dL_law_1148 : decode cL_law 1148 = .ok (.iadd, 1) := by decide +kernel
theorem dL_law_1149 : decode cL_law 1149 = .ok (.iaload, 1) := by decide +kernel
theorem dL_law_1150 : decode cL_law 1150 = .ok (.invokevirtual 191, 3) := by decide +kernel
theorem dL_law_1153 : decode cL_law 1153 = .ok (.istore 6, 2) := by decide +kernel
theorem dL_law_1155 : decode cL_law 1155 = .ok (.aload_n 2, 1) := by decide +kernel
theorem dL_law_1156 : decode cL_law 1156 = .ok (.invokevirtual 116, 3) := by decide +kernel
theorem dL_law_1159 : decode cL_law 1159 = .ok (.iload 5, 2) := by decide +kernel
theorem dL_law_1161 : decode cL_law 1161 = .ok (.if_icmp .eq 5, 3) := by decide +kernel
theorem dL_law_1164 : decode cL_law 1164 = .ok (.iconst 0, 1) := by decide +kernel
theorem dL_law_1165 : decode cL_law 1165 = .ok (.ireturn, 1) := by decide +kernel
theorem dL_law_1166 : decode cL_law 1166 = .ok (.iload 5, 2) := by decide +kernel
theorem dL_law_1168 : decode cL_law 1168 = .ok (.ifCond .ne 15, 3) := by decide +kernel
theorem dL_law_1171 : decode cL_law 1171 = .ok (.aload_n 3, 1) := by decide +kernel
theorem dL_law_1172 : decode cL_law 1172 = .ok (.iconst 0, 1) := by decide +kernel
theorem dL_law_1173 : decode cL_law 1173 = .ok (.laload, 1) := by decide +kernel
theorem dL_law_1174 : decode cL_law 1174 = .ok (.iload 6, 2) := by decide +kernel
theorem dL_law_1176 : decode cL_law 1176 = .ok (.i2l, 1) := by decide +kernel
theorem dL_law_1177 : decode cL_law 1177 = .ok (.lcmp, 1) := by decide +kernel
theorem dL_law_1178 : decode cL_law 1178 = .ok (.ifCond .eq 5, 3) := by decide +kernel
theorem dL_law_1181 : decode cL_law 1181 = .ok (.iconst 0, 1) := by decide +kernel
theorem dL_law_1182 : decode cL_law 1182 = .ok (.ireturn, 1) := by decide +kernel
theorem dL_law_1183 : decode cL_law 1183 = .ok (.goto 896, 3) := by decide +kernel
theorem dL_law_1186 : decode cL_law 1186 = .ok (.aload_n 1, 1) := by decide +kernel
theorem dL_law_1187 : decode cL_law 1187 = .ok (.invokevirtual 192, 3) := by decide +kernel
theorem dL_law_1190 : decode cL_law 1190 = .ok (.aload_n 2, 1) := by decide +kernel
theorem dL_law_1191 : decode cL_law 1191 = .ok (.invokevirtual 195, 3) := by decide +kernel
theorem dL_law_1194 : decode cL_law 1194 = .ok (.if_icmp .eq 885, 3) := by decide +kernel
theorem dL_law_1197 : decode cL_law 1197 = .ok (.iconst 0, 1) := by decide +kernel
theorem dL_law_1198 : decode cL_law 1198 = .ok (.ireturn, 1) := by decide +kernel
theorem dL_law_1199 : decode cL_law 1199 = .ok (.aload_n 1, 1) := by decide +kernel
theorem dL_law_1200 : decode cL_law 1200 = .ok (.invokevirtual 196, 3) := by decide +kernel
theorem dL_law_1203 : decode cL_law 1203 = .ok (.aload_n 2, 1) := by decide +kernel
theorem dL_law_1204 : decode cL_law 1204 = .ok (.invokevirtual 199, 3) := by decide +kernel
theorem dL_law_1207 : decode cL_law 1207 = .ok (.if_icmp .eq 872, 3) := by decide +kernel
theorem dL_law_1210 : decode cL_law 1210 = .ok (.iconst 0, 1) := by decide +kernel
theorem dL_law_1211 : decode cL_law 1211 = .ok (.ireturn, 1) := by decide +kernel
theorem dL_law_1212 : decode cL_law 1212 = .ok (.aload_n 1, 1) := by decide +kernel
theorem dL_law_1213 : decode cL_law 1213 = .ok (.aload_n 3, 1) := by decide +kernel
theorem dL_law_1214 : decode cL_law 1214 = .ok (.invokestatic 200, 3) := by decide +kernel
theorem dL_law_1217 : decode cL_law 1217 = .ok (.istore 5, 2) := by decide +kernel
theorem dL_law_1219 : decode cL_law 1219 = .ok (.aload_n 2, 1) := by decide +kernel
theorem dL_law_1220 : decode cL_law 1220 = .ok (.invokevirtual 202, 3) := by decide +kernel
theorem dL_law_1223 : decode cL_law 1223 = .ok (.istore 6, 2) := by decide +kernel
theorem dL_law_1225 : decode cL_law 1225 = .ok (.aload_n 2, 1) := by decide +kernel
theorem dL_law_1226 : decode cL_law 1226 = .ok (.invokevirtual 116, 3) := by decide +kernel
theorem dL_law_1229 : decode cL_law 1229 = .ok (.iload 5, 2) := by decide +kernel
theorem dL_law_1231 : decode cL_law 1231 = .ok (.if_icmp .eq 5, 3) := by decide +kernel
theorem dL_law_1234 : decode cL_law 1234 = .ok (.iconst 0, 1) := by decide +kernel
theorem dL_law_1235 : decode cL_law 1235 = .ok (.ireturn, 1) := by decide +kernel
theorem dL_law_1236 : decode cL_law 1236 = .ok (.iload 5, 2) := by decide +kernel
theorem dL_law_1238 : decode cL_law 1238 = .ok (.ifCond .ne 15, 3) := by decide +kernel
theorem dL_law_1241 : decode cL_law 1241 = .ok (.aload_n 3, 1) := by decide +kernel
theorem dL_law_1242 : decode cL_law 1242 = .ok (.iconst 0, 1) := by decide +kernel
theorem dL_law_1243 : decode cL_law 1243 = .ok (.laload, 1) := by decide +kernel
theorem dL_law_1244 : decode cL_law 1244 = .ok (.iload 6, 2) := by decide +kernel
theorem dL_law_1246 : decode cL_law 1246 = .ok (.i2l, 1) := by decide +kernel
theorem dL_law_1247 : decode cL_law 1247 = .ok (.lcmp, 1) := by decide +kernel
theorem dL_law_1248 : decode cL_law 1248 = .ok (.ifCond .eq 5, 3) := by decide +kernel
theorem dL_law_1251 : decode cL_law 1251 = .ok (.iconst 0, 1) := by decide +kernel
theorem dL_law_1252 : decode cL_law 1252 = .ok (.ireturn, 1) := by decide +kernel
theorem dL_law_1253 : decode cL_law 1253 = .ok (.goto 826, 3) := by decide +kernel
theorem dL_law_1256 : decode cL_law 1256 = .ok (.aload_n 1, 1) := by decide +kernel
theorem dL_law_1257 : decode cL_law 1257 = .ok (.aload_n 0, 1) := by decide +kernel
theorem dL_law_1258 : decode cL_law 1258 = .ok (.iload 4, 2) := by decide +kernel
theorem dL_law_1260 : decode cL_law 1260 = .ok (.iconst 1, 1) := by decide +kernel
theorem dL_law_1261 : decode cL_law 1261 = .ok (.iadd, 1) := by decide +kernel
theorem dL_law_1262 : decode cL_law 1262 = .ok (.iaload, 1) := by decide +kernel
theorem dL_law_1263 : decode cL_law 1263 = .ok (.invokestatic 203, 3) := by decide +kernel
theorem dL_law_1266 : decode cL_law 1266 = .ok (.istore 5, 2) := by decide +kernel
theorem dL_law_1268 : decode cL_law 1268 = .ok (.aload_n 2, 1) := by decide +kernel
theorem dL_law_1269 : decode cL_law 1269 = .ok (.aload_n 0, 1) := by decide +kernel
theorem dL_law_1270 : decode cL_law 1270 = .ok (.iload 4, 2) := by decide +kernel
theorem dL_law_1272 : decode cL_law 1272 = .ok (.iconst 1, 1) := by decide +kernel
theorem dL_law_1273 : decode cL_law 1273 = .ok (.iadd, 1) := by decide +kernel
theorem dL_law_1274 : decode cL_law 1274 = .ok (.iaload, 1) := by decide +kernel
theorem dL_law_1275 : decode cL_law 1275 = .ok (.invokevirtual 206, 3) := by decide +kernel
theorem dL_law_1278 : decode cL_law 1278 = .ok (.aload_n 2, 1) := by decide +kernel
theorem dL_law_1279 : decode cL_law 1279 = .ok (.invokevirtual 116, 3) := by decide +kernel
theorem dL_law_1282 : decode cL_law 1282 = .ok (.iload 5, 2) := by decide +kernel
theorem dL_law_1284 : decode cL_law 1284 = .ok (.if_icmp .eq 5, 3) := by decide +kernel
theorem dL_law_1287 : decode cL_law 1287 = .ok (.iconst 0, 1) := by decide +kernel
theorem dL_law_1288 : decode cL_law 1288 = .ok (.ireturn, 1) := by decide +kernel
theorem dL_law_1289 : decode cL_law 1289 = .ok (.goto 790, 3) := by decide +kernel
theorem dL_law_1292 : decode cL_law 1292 = .ok (.aload_n 1, 1) := by decide +kernel
theorem dL_law_1293 : decode cL_law 1293 = .ok (.aload_n 0, 1) := by decide +kernel
theorem dL_law_1294 : decode cL_law 1294 = .ok (.iload 4, 2) := by decide +kernel
theorem dL_law_1296 : decode cL_law 1296 = .ok (.iconst 1, 1) := by decide +kernel
theorem dL_law_1297 : decode cL_law 1297 = .ok (.iadd, 1) := by decide +kernel
theorem dL_law_1298 : decode cL_law 1298 = .ok (.iaload, 1) := by decide +kernel
theorem dL_law_1299 : decode cL_law 1299 = .ok (.invokestatic 207, 3) := by decide +kernel
theorem dL_law_1302 : decode cL_law 1302 = .ok (.istore 5, 2) := by decide +kernel
theorem dL_law_1304 : decode cL_law 1304 = .ok (.aload_n 2, 1) := by decide +kernel
theorem dL_law_1305 : decode cL_law 1305 = .ok (.aload_n 0, 1) := by decide +kernel
theorem dL_law_1306 : decode cL_law 1306 = .ok (.iload 4, 2) := by decide +kernel
theorem dL_law_1308 : decode cL_law 1308 = .ok (.iconst 1, 1) := by decide +kernel
theorem dL_law_1309 : decode cL_law 1309 = .ok (.iadd, 1) := by decide +kernel
theorem dL_law_1310 : decode cL_law 1310 = .ok (.iaload, 1) := by decide +kernel
theorem dL_law_1311 : decode cL_law 1311 = .ok (.invokevirtual 209, 3) := by decide +kernel
theorem dL_law_1314 : decode cL_law 1314 = .ok (.aload_n 2, 1) := by decide +kernel
theorem dL_law_1315 : decode cL_law 1315 = .ok (.invokevirtual 116, 3) := by decide +kernel
theorem dL_law_1318 : decode cL_law 1318 = .ok (.iload 5, 2) := by decide +kernel
theorem dL_law_1320 : decode cL_law 1320 = .ok (.if_icmp .eq 5, 3) := by decide +kernel
theorem dL_law_1323 : decode cL_law 1323 = .ok (.iconst 0, 1) := by decide +kernel
theorem dL_law_1324 : decode cL_law 1324 = .ok (.ireturn, 1) := by decide +kernel
theorem dL_law_1325 : decode cL_law 1325 = .ok (.goto 754, 3) := by decide +kernel
theorem dL_law_1328 : decode cL_law 1328 = .ok (.aload_n 1, 1) := by decide +kernel
theorem dL_law_1329 : decode cL_law 1329 = .ok (.invokestatic 210, 3) := by decide +kernel
theorem dL_law_1332 : decode cL_law 1332 = .ok (.istore 5, 2) := by decide +kernel
theorem dL_law_1334 : decode cL_law 1334 = .ok (.aload_n 2, 1) := by decide +kernel
theorem dL_law_1335 : decode cL_law 1335 = .ok (.invokevirtual 213, 3) := by decide +kernel
theorem dL_law_1338 : decode cL_law 1338 = .ok (.aload_n 2, 1) := by decide +kernel
theorem dL_law_1339 : decode cL_law 1339 = .ok (.invokevirtual 116, 3) := by decide +kernel
theorem dL_law_1342 : decode cL_law 1342 = .ok (.iload 5, 2) := by decide +kernel
theorem dL_law_1344 : decode cL_law 1344 = .ok (.if_icmp .eq 5, 3) := by decide +kernel
theorem dL_law_1347 : decode cL_law 1347 = .ok (.iconst 0, 1) := by decide +kernel
theorem dL_law_1348 : decode cL_law 1348 = .ok (.ireturn, 1) := by decide +kernel
theorem dL_law_1349 : decode cL_law 1349 = .ok (.goto 730, 3) := by decide +kernel
theorem dL_law_1352 : decode cL_law 1352 = .ok (.aload_n 1, 1) := by decide +kernel
theorem dL_law_1353 : decode cL_law 1353 = .ok (.invokevirtual 214, 3) := by decide +kernel
theorem dL_law_1356 : decode cL_law 1356 = .ok (.aload_n 2, 1) := by decide +kernel
theorem dL_law_1357 : decode cL_law 1357 = .ok (.invokevirtual 217, 3) := by decide +kernel
theorem dL_law_1360 : decode cL_law 1360 = .ok (.if_icmp .eq 719, 3) := by decide +kernel
theorem dL_law_1363 : decode cL_law 1363 = .ok (.iconst 0, 1) := by decide +kernel
theorem dL_law_1364 : decode cL_law 1364 = .ok (.ireturn, 1) := by decide +kernel
theorem dL_law_1365 : decode cL_law 1365 = .ok (.aload_n 1, 1) := by decide +kernel
theorem dL_law_1366 : decode cL_law 1366 = .ok (.invokevirtual 218, 3) := by decide +kernel
theorem dL_law_1369 : decode cL_law 1369 = .ok (.aload_n 2, 1) := by decide +kernel
theorem dL_law_1370 : decode cL_law 1370 = .ok (.invokevirtual 221, 3) := by decide +kernel
theorem dL_law_1373 : decode cL_law 1373 = .ok (.if_icmp .eq 706, 3) := by decide +kernel
theorem dL_law_1376 : decode cL_law 1376 = .ok (.iconst 0, 1) := by decide +kernel
theorem dL_law_1377 : decode cL_law 1377 = .ok (.ireturn, 1) := by decide +kernel
theorem dL_law_1378 : decode cL_law 1378 = .ok (.aload_n 1, 1) := by decide +kernel
theorem dL_law_1379 : decode cL_law 1379 = .ok (.aload_n 0, 1) := by decide +kernel
theorem dL_law_1380 : decode cL_law 1380 = .ok (.iload 4, 2) := by decide +kernel
theorem dL_law_1382 : decode cL_law 1382 = .ok (.iconst 1, 1) := by decide +kernel
theorem dL_law_1383 : decode cL_law 1383 = .ok (.iadd, 1) := by decide +kernel
theorem dL_law_1384 : decode cL_law 1384 = .ok (.iaload, 1) := by decide +kernel
theorem dL_law_1385 : decode cL_law 1385 = .ok (.aload_n 3, 1) := by decide +kernel
theorem dL_law_1386 : decode cL_law 1386 = .ok (.invokestatic 222, 3) := by decide +kernel
theorem dL_law_1389 : decode cL_law 1389 = .ok (.istore 5, 2) := by decide +kernel
theorem dL_law_1391 : decode cL_law 1391 = .ok (.aload_n 2, 1) := by decide +kernel
theorem dL_law_1392 : decode cL_law 1392 = .ok (.aload_n 0, 1) := by decide +kernel
theorem dL_law_1393 : decode cL_law 1393 = .ok (.iload 4, 2) := by decide +kernel
theorem dL_law_1395 : decode cL_law 1395 = .ok (.iconst 1, 1) := by decide +kernel
theorem dL_law_1396 : decode cL_law 1396 = .ok (.iadd, 1) := by decide +kernel
theorem dL_law_1397 : decode cL_law 1397 = .ok (.iaload, 1) := by decide +kernel
theorem dL_law_1398 : decode cL_law 1398 = .ok (.invokevirtual 224, 3) := by decide +kernel
theorem dL_law_1401 : decode cL_law 1401 = .ok (.istore 6, 2) := by decide +kernel
theorem dL_law_1403 : decode cL_law 1403 = .ok (.aload_n 2, 1) := by decide +kernel
theorem dL_law_1404 : decode cL_law 1404 = .ok (.invokevirtual 116, 3) := by decide +kernel
theorem dL_law_1407 : decode cL_law 1407 = .ok (.iload 5, 2) := by decide +kernel
theorem dL_law_1409 : decode cL_law 1409 = .ok (.if_icmp .eq 5, 3) := by decide +kernel
theorem dL_law_1412 : decode cL_law 1412 = .ok (.iconst 0, 1) := by decide +kernel
theorem dL_law_1413 : decode cL_law 1413 = .ok (.ireturn, 1) := by decide +kernel
theorem dL_law_1414 : decode cL_law 1414 = .ok (.iload 5, 2) := by decide +kernel
theorem dL_law_1416 : decode cL_law 1416 = .ok (.ifCond .ne 15, 3) := by decide +kernel
theorem dL_law_1419 : decode cL_law 1419 = .ok (.aload_n 3, 1) := by decide +kernel
theorem dL_law_1420 : decode cL_law 1420 = .ok (.iconst 0, 1) := by decide +kernel
theorem dL_law_1421 : decode cL_law 1421 = .ok (.laload, 1) := by decide +kernel
theorem dL_law_1422 : decode cL_law 1422 = .ok (.iload 6, 2) := by decide +kernel
theorem dL_law_1424 : decode cL_law 1424 = .ok (.i2l, 1) := by decide +kernel
theorem dL_law_1425 : decode cL_law 1425 = .ok (.lcmp, 1) := by decide +kernel
theorem dL_law_1426 : decode cL_law 1426 = .ok (.ifCond .eq 5, 3) := by decide +kernel
theorem dL_law_1429 : decode cL_law 1429 = .ok (.iconst 0, 1) := by decide +kernel
theorem dL_law_1430 : decode cL_law 1430 = .ok (.ireturn, 1) := by decide +kernel
theorem dL_law_1431 : decode cL_law 1431 = .ok (.goto 648, 3) := by decide +kernel
theorem dL_law_1434 : decode cL_law 1434 = .ok (.aload_n 1, 1) := by decide +kernel
theorem dL_law_1435 : decode cL_law 1435 = .ok (.invokevirtual 225, 3) := by decide +kernel
theorem dL_law_1438 : decode cL_law 1438 = .ok (.aload_n 2, 1) := by decide +kernel
theorem dL_law_1439 : decode cL_law 1439 = .ok (.invokevirtual 228, 3) := by decide +kernel
theorem dL_law_1442 : decode cL_law 1442 = .ok (.if_icmp .eq 637, 3) := by decide +kernel
theorem dL_law_1445 : decode cL_law 1445 = .ok (.iconst 0, 1) := by decide +kernel
theorem dL_law_1446 : decode cL_law 1446 = .ok (.ireturn, 1) := by decide +kernel
theorem dL_law_1447 : decode cL_law 1447 = .ok (.aload_n 1, 1) := by decide +kernel
theorem dL_law_1448 : decode cL_law 1448 = .ok (.aload_n 3, 1) := by decide +kernel
theorem dL_law_1449 : decode cL_law 1449 = .ok (.invokestatic 229, 3) := by decide +kernel
theorem dL_law_1452 : decode cL_law 1452 = .ok (.istore 5, 2) := by decide +kernel
theorem dL_law_1454 : decode cL_law 1454 = .ok (.aload_n 2, 1) := by decide +kernel
theorem dL_law_1455 : decode cL_law 1455 = .ok (.invokevirtual 231, 3) := by decide +kernel
theorem dL_law_1458 : decode cL_law 1458 = .ok (.istore 6, 2) := by decide +kernel
theorem dL_law_1460 : decode cL_law 1460 = .ok (.aload_n 2, 1) := by decide +kernel
theorem dL_law_1461 : decode cL_law 1461 = .ok (.invokevirtual 116, 3) := by decide +kernel
theorem dL_law_1464 : decode cL_law 1464 = .ok (.iload 5, 2) := by decide +kernel
theorem dL_law_1466 : decode cL_law 1466 = .ok (.if_icmp .eq 5, 3) := by decide +kernel
theorem dL_law_1469 : decode cL_law 1469 = .ok (.iconst 0, 1) := by decide +kernel
theorem dL_law_1470 : decode cL_law 1470 = .ok (.ireturn, 1) := by decide +kernel
theorem dL_law_1471 : decode cL_law 1471 = .ok (.iload 5, 2) := by decide +kernel
theorem dL_law_1473 : decode cL_law 1473 = .ok (.ifCond .ne 15, 3) := by decide +kernel
theorem dL_law_1476 : decode cL_law 1476 = .ok (.aload_n 3, 1) := by decide +kernel
theorem dL_law_1477 : decode cL_law 1477 = .ok (.iconst 0, 1) := by decide +kernel
theorem dL_law_1478 : decode cL_law 1478 = .ok (.laload, 1) := by decide +kernel
theorem dL_law_1479 : decode cL_law 1479 = .ok (.iload 6, 2) := by decide +kernel
theorem dL_law_1481 : decode cL_law 1481 = .ok (.i2l, 1) := by decide +kernel
theorem dL_law_1482 : decode cL_law 1482 = .ok (.lcmp, 1) := by decide +kernel
theorem dL_law_1483 : decode cL_law 1483 = .ok (.ifCond .eq 5, 3) := by decide +kernel
theorem dL_law_1486 : decode cL_law 1486 = .ok (.iconst 0, 1) := by decide +kernel
theorem dL_law_1487 : decode cL_law 1487 = .ok (.ireturn, 1) := by decide +kernel
theorem dL_law_1488 : decode cL_law 1488 = .ok (.goto 591, 3) := by decide +kernel
theorem dL_law_1491 : decode cL_law 1491 = .ok (.aload_n 1, 1) := by decide +kernel
theorem dL_law_1492 : decode cL_law 1492 = .ok (.aload_n 3, 1) := by decide +kernel
theorem dL_law_1493 : decode cL_law 1493 = .ok (.invokestatic 232, 3) := by decide +kernel
theorem dL_law_1496 : decode cL_law 1496 = .ok (.istore 5, 2) := by decide +kernel
theorem dL_law_1498 : decode cL_law 1498 = .ok (.aload_n 2, 1) := by decide +kernel
theorem dL_law_1499 : decode cL_law 1499 = .ok (.invokevirtual 234, 3) := by decide +kernel
theorem dL_law_1502 : decode cL_law 1502 = .ok (.istore 6, 2) := by decide +kernel
theorem dL_law_1504 : decode cL_law 1504 = .ok (.aload_n 2, 1) := by decide +kernel
theorem dL_law_1505 : decode cL_law 1505 = .ok (.invokevirtual 116, 3) := by decide +kernel
theorem dL_law_1508 : decode cL_law 1508 = .ok (.iload 5, 2) := by decide +kernel
theorem dL_law_1510 : decode cL_law 1510 = .ok (.if_icmp .eq 5, 3) := by decide +kernel
theorem dL_law_1513 : decode cL_law 1513 = .ok (.iconst 0, 1) := by decide +kernel
theorem dL_law_1514 : decode cL_law 1514 = .ok (.ireturn, 1) := by decide +kernel
theorem dL_law_1515 : decode cL_law 1515 = .ok (.iload 5, 2) := by decide +kernel
theorem dL_law_1517 : decode cL_law 1517 = .ok (.ifCond .ne 15, 3) := by decide +kernel
theorem dL_law_1520 : decode cL_law 1520 = .ok (.aload_n 3, 1) := by decide +kernel
theorem dL_law_1521 : decode cL_law 1521 = .ok (.iconst 0, 1) := by decide +kernel
theorem dL_law_1522 : decode cL_law 1522 = .ok (.laload, 1) := by decide +kernel
theorem dL_law_1523 : decode cL_law 1523 = .ok (.iload 6, 2) := by decide +kernel
theorem dL_law_1525 : decode cL_law 1525 = .ok (.i2l, 1) := by decide +kernel
theorem dL_law_1526 : decode cL_law 1526 = .ok (.lcmp, 1) := by decide +kernel
theorem dL_law_1527 : decode cL_law 1527 = .ok (.ifCond .eq 5, 3) := by decide +kernel
theorem dL_law_1530 : decode cL_law 1530 = .ok (.iconst 0, 1) := by decide +kernel
theorem dL_law_1531 : decode cL_law 1531 = .ok (.ireturn, 1) := by decide +kernel
theorem dL_law_1532 : decode cL_law 1532 = .ok (.goto 547, 3) := by decide +kernel
theorem dL_law_1535 : decode cL_law 1535 = .ok (.aload_n 1, 1) := by decide +kernel
theorem dL_law_1536 : decode cL_law 1536 = .ok (.invokevirtual 235, 3) := by decide +kernel
theorem dL_law_1539 : decode cL_law 1539 = .ok (.aload_n 2, 1) := by decide +kernel
theorem dL_law_1540 : decode cL_law 1540 = .ok (.invokevirtual 238, 3) := by decide +kernel
theorem dL_law_1543 : decode cL_law 1543 = .ok (.if_icmp .eq 536, 3) := by decide +kernel
theorem dL_law_1546 : decode cL_law 1546 = .ok (.iconst 0, 1) := by decide +kernel
theorem dL_law_1547 : decode cL_law 1547 = .ok (.ireturn, 1) := by decide +kernel
theorem dL_law_1548 : decode cL_law 1548 = .ok (.aload_n 1, 1) := by decide +kernel
theorem dL_law_1549 : decode cL_law 1549 = .ok (.invokevirtual 239, 3) := by decide +kernel
theorem dL_law_1552 : decode cL_law 1552 = .ok (.aload_n 2, 1) := by decide +kernel
theorem dL_law_1553 : decode cL_law 1553 = .ok (.invokevirtual 242, 3) := by decide +kernel
theorem dL_law_1556 : decode cL_law 1556 = .ok (.if_icmp .eq 523, 3) := by decide +kernel
theorem dL_law_1559 : decode cL_law 1559 = .ok (.iconst 0, 1) := by decide +kernel
theorem dL_law_1560 : decode cL_law 1560 = .ok (.ireturn, 1) := by decide +kernel
theorem dL_law_1561 : decode cL_law 1561 = .ok (.aload_n 1, 1) := by decide +kernel
theorem dL_law_1562 : decode cL_law 1562 = .ok (.invokevirtual 243, 3) := by decide +kernel
theorem dL_law_1565 : decode cL_law 1565 = .ok (.aload_n 2, 1) := by decide +kernel
theorem dL_law_1566 : decode cL_law 1566 = .ok (.invokevirtual 246, 3) := by decide +kernel
theorem dL_law_1569 : decode cL_law 1569 = .ok (.if_icmp .eq 510, 3) := by decide +kernel
theorem dL_law_1572 : decode cL_law 1572 = .ok (.iconst 0, 1) := by decide +kernel
theorem dL_law_1573 : decode cL_law 1573 = .ok (.ireturn, 1) := by decide +kernel
theorem dL_law_1574 : decode cL_law 1574 = .ok (.aload_n 1, 1) := by decide +kernel
theorem dL_law_1575 : decode cL_law 1575 = .ok (.invokevirtual 247, 3) := by decide +kernel
theorem dL_law_1578 : decode cL_law 1578 = .ok (.aload_n 2, 1) := by decide +kernel
theorem dL_law_1579 : decode cL_law 1579 = .ok (.invokevirtual 250, 3) := by decide +kernel
theorem dL_law_1582 : decode cL_law 1582 = .ok (.if_icmp .eq 497, 3) := by decide +kernel
theorem dL_law_1585 : decode cL_law 1585 = .ok (.iconst 0, 1) := by decide +kernel
theorem dL_law_1586 : decode cL_law 1586 = .ok (.ireturn, 1) := by decide +kernel
theorem dL_law_1587 : decode cL_law 1587 = .ok (.aload_n 1, 1) := by decide +kernel
theorem dL_law_1588 : decode cL_law 1588 = .ok (.invokevirtual 251, 3) := by decide +kernel
theorem dL_law_1591 : decode cL_law 1591 = .ok (.aload_n 2, 1) := by decide +kernel
theorem dL_law_1592 : decode cL_law 1592 = .ok (.invokevirtual 254, 3) := by decide +kernel
theorem dL_law_1595 : decode cL_law 1595 = .ok (.if_icmp .eq 484, 3) := by decide +kernel
theorem dL_law_1598 : decode cL_law 1598 = .ok (.iconst 0, 1) := by decide +kernel
theorem dL_law_1599 : decode cL_law 1599 = .ok (.ireturn, 1) := by decide +kernel
theorem dL_law_1600 : decode cL_law 1600 = .ok (.aload_n 1, 1) := by decide +kernel
theorem dL_law_1601 : decode cL_law 1601 = .ok (.invokevirtual 255, 3) := by decide +kernel
theorem dL_law_1604 : decode cL_law 1604 = .ok (.aload_n 2, 1) := by decide +kernel
theorem dL_law_1605 : decode cL_law 1605 = .ok (.invokevirtual 258, 3) := by decide +kernel
theorem dL_law_1608 : decode cL_law 1608 = .ok (.if_icmp .eq 471, 3) := by decide +kernel
theorem dL_law_1611 : decode cL_law 1611 = .ok (.iconst 0, 1) := by decide +kernel
theorem dL_law_1612 : decode cL_law 1612 = .ok (.ireturn, 1) := by decide +kernel
theorem dL_law_1613 : decode cL_law 1613 = .ok (.aload_n 1, 1) := by decide +kernel
theorem dL_law_1614 : decode cL_law 1614 = .ok (.invokevirtual 259, 3) := by decide +kernel
theorem dL_law_1617 : decode cL_law 1617 = .ok (.aload_n 2, 1) := by decide +kernel
theorem dL_law_1618 : decode cL_law 1618 = .ok (.invokevirtual 262, 3) := by decide +kernel
theorem dL_law_1621 : decode cL_law 1621 = .ok (.if_icmp .eq 458, 3) := by decide +kernel
theorem dL_law_1624 : decode cL_law 1624 = .ok (.iconst 0, 1) := by decide +kernel
theorem dL_law_1625 : decode cL_law 1625 = .ok (.ireturn, 1) := by decide +kernel
theorem dL_law_1626 : decode cL_law 1626 = .ok (.aload_n 1, 1) := by decide +kernel
theorem dL_law_1627 : decode cL_law 1627 = .ok (.invokevirtual 263, 3) := by decide +kernel
theorem dL_law_1630 : decode cL_law 1630 = .ok (.aload_n 2, 1) := by decide +kernel
theorem dL_law_1631 : decode cL_law 1631 = .ok (.invokevirtual 266, 3) := by decide +kernel
theorem dL_law_1634 : decode cL_law 1634 = .ok (.if_icmp .eq 445, 3) := by decide +kernel
theorem dL_law_1637 : decode cL_law 1637 = .ok (.iconst 0, 1) := by decide +kernel
theorem dL_law_1638 : decode cL_law 1638 = .ok (.ireturn, 1) := by decide +kernel
theorem dL_law_1639 : decode cL_law 1639 = .ok (.aload_n 1, 1) := by decide +kernel
theorem dL_law_1640 : decode cL_law 1640 = .ok (.invokevirtual 267, 3) := by decide +kernel
theorem dL_law_1643 : decode cL_law 1643 = .ok (.aload_n 2, 1) := by decide +kernel
theorem dL_law_1644 : decode cL_law 1644 = .ok (.invokevirtual 270, 3) := by decide +kernel
theorem dL_law_1647 : decode cL_law 1647 = .ok (.if_icmp .eq 432, 3) := by decide +kernel
theorem dL_law_1650 : decode cL_law 1650 = .ok (.iconst 0, 1) := by decide +kernel
theorem dL_law_1651 : decode cL_law 1651 = .ok (.ireturn, 1) := by decide +kernel
theorem dL_law_1652 : decode cL_law 1652 = .ok (.aload_n 1, 1) := by decide +kernel
theorem dL_law_1653 : decode cL_law 1653 = .ok (.aload_n 0, 1) := by decide +kernel
theorem dL_law_1654 : decode cL_law 1654 = .ok (.iload 4, 2) := by decide +kernel
theorem dL_law_1656 : decode cL_law 1656 = .ok (.iconst 1, 1) := by decide +kernel
theorem dL_law_1657 : decode cL_law 1657 = .ok (.iadd, 1) := by decide +kernel
theorem dL_law_1658 : decode cL_law 1658 = .ok (.iaload, 1) := by decide +kernel
theorem dL_law_1659 : decode cL_law 1659 = .ok (.aload_n 3, 1) := by decide +kernel
theorem dL_law_1660 : decode cL_law 1660 = .ok (.invokestatic 271, 3) := by decide +kernel
theorem dL_law_1663 : decode cL_law 1663 = .ok (.istore 5, 2) := by decide +kernel
theorem dL_law_1665 : decode cL_law 1665 = .ok (.aload_n 2, 1) := by decide +kernel
theorem dL_law_1666 : decode cL_law 1666 = .ok (.aload_n 0, 1) := by decide +kernel
theorem dL_law_1667 : decode cL_law 1667 = .ok (.iload 4, 2) := by decide +kernel
theorem dL_law_1669 : decode cL_law 1669 = .ok (.iconst 1, 1) := by decide +kernel
theorem dL_law_1670 : decode cL_law 1670 = .ok (.iadd, 1) := by decide +kernel
theorem dL_law_1671 : decode cL_law 1671 = .ok (.iaload, 1) := by decide +kernel
theorem dL_law_1672 : decode cL_law 1672 = .ok (.invokevirtual 273, 3) := by decide +kernel
theorem dL_law_1675 : decode cL_law 1675 = .ok (.istore 6, 2) := by decide +kernel
theorem dL_law_1677 : decode cL_law 1677 = .ok (.aload_n 2, 1) := by decide +kernel
theorem dL_law_1678 : decode cL_law 1678 = .ok (.invokevirtual 116, 3) := by decide +kernel
theorem dL_law_1681 : decode cL_law 1681 = .ok (.iload 5, 2) := by decide +kernel
theorem dL_law_1683 : decode cL_law 1683 = .ok (.if_icmp .eq 5, 3) := by decide +kernel
theorem dL_law_1686 : decode cL_law 1686 = .ok (.iconst 0, 1) := by decide +kernel
theorem dL_law_1687 : decode cL_law 1687 = .ok (.ireturn, 1) := by decide +kernel
theorem dL_law_1688 : decode cL_law 1688 = .ok (.iload 5, 2) := by decide +kernel
theorem dL_law_1690 : decode cL_law 1690 = .ok (.ifCond .ne 15, 3) := by decide +kernel
theorem dL_law_1693 : decode cL_law 1693 = .ok (.aload_n 3, 1) := by decide +kernel
theorem dL_law_1694 : decode cL_law 1694 = .ok (.iconst 0, 1) := by decide +kernel
theorem dL_law_1695 : decode cL_law 1695 = .ok (.laload, 1) := by decide +kernel
theorem dL_law_1696 : decode cL_law 1696 = .ok (.iload 6, 2) := by decide +kernel
theorem dL_law_1698 : decode cL_law 1698 = .ok (.i2l, 1) := by decide +kernel
theorem dL_law_1699 : decode cL_law 1699 = .ok (.lcmp, 1) := by decide +kernel
theorem dL_law_1700 : decode cL_law 1700 = .ok (.ifCond .eq 5, 3) := by decide +kernel
theorem dL_law_1703 : decode cL_law 1703 = .ok (.iconst 0, 1) := by decide +kernel
theorem dL_law_1704 : decode cL_law 1704 = .ok (.ireturn, 1) := by decide +kernel
theorem dL_law_1705 : decode cL_law 1705 = .ok (.goto 374, 3) := by decide +kernel
theorem dL_law_1708 : decode cL_law 1708 = .ok (.aload_n 1, 1) := by decide +kernel
theorem dL_law_1709 : decode cL_law 1709 = .ok (.aload_n 0, 1) := by decide +kernel
theorem dL_law_1710 : decode cL_law 1710 = .ok (.iload 4, 2) := by decide +kernel
theorem dL_law_1712 : decode cL_law 1712 = .ok (.iconst 1, 1) := by decide +kernel
theorem dL_law_1713 : decode cL_law 1713 = .ok (.iadd, 1) := by decide +kernel
theorem dL_law_1714 : decode cL_law 1714 = .ok (.iaload, 1) := by decide +kernel
theorem dL_law_1715 : decode cL_law 1715 = .ok (.aload_n 0, 1) := by decide +kernel
theorem dL_law_1716 : decode cL_law 1716 = .ok (.iload 4, 2) := by decide +kernel
theorem dL_law_1718 : decode cL_law 1718 = .ok (.iconst 2, 1) := by decide +kernel
theorem dL_law_1719 : decode cL_law 1719 = .ok (.iadd, 1) := by decide +kernel
theorem dL_law_1720 : decode cL_law 1720 = .ok (.iaload, 1) := by decide +kernel
theorem dL_law_1721 : decode cL_law 1721 = .ok (.aload_n 3, 1) := by decide +kernel
theorem dL_law_1722 : decode cL_law 1722 = .ok (.invokestatic 274, 3) := by decide +kernel
theorem dL_law_1725 : decode cL_law 1725 = .ok (.istore 5, 2) := by decide +kernel
theorem dL_law_1727 : decode cL_law 1727 = .ok (.aload_n 2, 1) := by decide +kernel
theorem dL_law_1728 : decode cL_law 1728 = .ok (.aload_n 0, 1) := by decide +kernel
theorem dL_law_1729 : decode cL_law 1729 = .ok (.iload 4, 2) := by decide +kernel
theorem dL_law_1731 : decode cL_law 1731 = .ok (.iconst 1, 1) := by decide +kernel
theorem dL_law_1732 : decode cL_law 1732 = .ok (.iadd, 1) := by decide +kernel
theorem dL_law_1733 : decode cL_law 1733 = .ok (.iaload, 1) := by decide +kernel
theorem dL_law_1734 : decode cL_law 1734 = .ok (.aload_n 0, 1) := by decide +kernel
theorem dL_law_1735 : decode cL_law 1735 = .ok (.iload 4, 2) := by decide +kernel
theorem dL_law_1737 : decode cL_law 1737 = .ok (.iconst 2, 1) := by decide +kernel
theorem dL_law_1738 : decode cL_law 1738 = .ok (.iadd, 1) := by decide +kernel
theorem dL_law_1739 : decode cL_law 1739 = .ok (.iaload, 1) := by decide +kernel
theorem dL_law_1740 : decode cL_law 1740 = .ok (.invokevirtual 277, 3) := by decide +kernel
theorem dL_law_1743 : decode cL_law 1743 = .ok (.istore 6, 2) := by decide +kernel
theorem dL_law_1745 : decode cL_law 1745 = .ok (.aload_n 2, 1) := by decide +kernel
theorem dL_law_1746 : decode cL_law 1746 = .ok (.invokevirtual 116, 3) := by decide +kernel
theorem dL_law_1749 : decode cL_law 1749 = .ok (.iload 5, 2) := by decide +kernel
theorem dL_law_1751 : decode cL_law 1751 = .ok (.if_icmp .eq 5, 3) := by decide +kernel
theorem dL_law_1754 : decode cL_law 1754 = .ok (.iconst 0, 1) := by decide +kernel
theorem dL_law_1755 : decode cL_law 1755 = .ok (.ireturn, 1) := by decide +kernel
theorem dL_law_1756 : decode cL_law 1756 = .ok (.iload 5, 2) := by decide +kernel
theorem dL_law_1758 : decode cL_law 1758 = .ok (.ifCond .ne 15, 3) := by decide +kernel
theorem dL_law_1761 : decode cL_law 1761 = .ok (.aload_n 3, 1) := by decide +kernel
theorem dL_law_1762 : decode cL_law 1762 = .ok (.iconst 0, 1) := by decide +kernel
theorem dL_law_1763 : decode cL_law 1763 = .ok (.laload, 1) := by decide +kernel
theorem dL_law_1764 : decode cL_law 1764 = .ok (.iload 6, 2) := by decide +kernel
theorem dL_law_1766 : decode cL_law 1766 = .ok (.i2l, 1) := by decide +kernel
theorem dL_law_1767 : decode cL_law 1767 = .ok (.lcmp, 1) := by decide +kernel
theorem dL_law_1768 : decode cL_law 1768 = .ok (.ifCond .eq 5, 3) := by decide +kernel
theorem dL_law_1771 : decode cL_law 1771 = .ok (.iconst 0, 1) := by decide +kernel
theorem dL_law_1772 : decode cL_law 1772 = .ok (.ireturn, 1) := by decide +kernel
theorem dL_law_1773 : decode cL_law 1773 = .ok (.goto 306, 3) := by decide +kernel
theorem dL_law_1776 : decode cL_law 1776 = .ok (.aload_n 1, 1) := by decide +kernel
theorem dL_law_1777 : decode cL_law 1777 = .ok (.aload_n 3, 1) := by decide +kernel
theorem dL_law_1778 : decode cL_law 1778 = .ok (.invokestatic 278, 3) := by decide +kernel
theorem dL_law_1781 : decode cL_law 1781 = .ok (.istore 5, 2) := by decide +kernel
theorem dL_law_1783 : decode cL_law 1783 = .ok (.aload_n 2, 1) := by decide +kernel
theorem dL_law_1784 : decode cL_law 1784 = .ok (.invokevirtual 280, 3) := by decide +kernel
theorem dL_law_1787 : decode cL_law 1787 = .ok (.istore 6, 2) := by decide +kernel
theorem dL_law_1789 : decode cL_law 1789 = .ok (.aload_n 2, 1) := by decide +kernel
theorem dL_law_1790 : decode cL_law 1790 = .ok (.invokevirtual 116, 3) := by decide +kernel
theorem dL_law_1793 : decode cL_law 1793 = .ok (.iload 5, 2) := by decide +kernel
theorem dL_law_1795 : decode cL_law 1795 = .ok (.if_icmp .eq 5, 3) := by decide +kernel
theorem dL_law_1798 : decode cL_law 1798 = .ok (.iconst 0, 1) := by decide +kernel
theorem dL_law_1799 : decode cL_law 1799 = .ok (.ireturn, 1) := by decide +kernel
theorem dL_law_1800 : decode cL_law 1800 = .ok (.iload 5, 2) := by decide +kernel
theorem dL_law_1802 : decode cL_law 1802 = .ok (.ifCond .ne 15, 3) := by decide +kernel
theorem dL_law_1805 : decode cL_law 1805 = .ok (.aload_n 3, 1) := by decide +kernel
theorem dL_law_1806 : decode cL_law 1806 = .ok (.iconst 0, 1) := by decide +kernel
theorem dL_law_1807 : decode cL_law 1807 = .ok (.laload, 1) := by decide +kernel
theorem dL_law_1808 : decode cL_law 1808 = .ok (.iload 6, 2) := by decide +kernel
theorem dL_law_1810 : decode cL_law 1810 = .ok (.i2l, 1) := by decide +kernel
theorem dL_law_1811 : decode cL_law 1811 = .ok (.lcmp, 1) := by decide +kernel
theorem dL_law_1812 : decode cL_law 1812 = .ok (.ifCond .eq 5, 3) := by decide +kernel
theorem dL_law_1815 : decode cL_law 1815 = .ok (.iconst 0, 1) := by decide +kernel
theorem dL_law_1816 : decode cL_law 1816 = .ok (.ireturn, 1) := by decide +kernel
theorem dL_law_1817 : decode cL_law 1817 = .ok (.goto 262, 3) := by decide +kernel
theorem dL_law_1820 : decode cL_law 1820 = .ok (.aload_n 1, 1) := by decide +kernel
theorem dL_law_1821 : decode cL_law 1821 = .ok (.invokevirtual 281, 3) := by decide +kernel
theorem dL_law_1824 : decode cL_law 1824 = .ok (.aload_n 2, 1) := by decide +kernel
theorem dL_law_1825 : decode cL_law 1825 = .ok (.invokevirtual 285, 3) := by decide +kernel
theorem dL_law_1828 : decode cL_law 1828 = .ok (.if_icmp .eq 251, 3) := by decide +kernel
theorem dL_law_1831 : decode cL_law 1831 = .ok (.iconst 0, 1) := by decide +kernel
theorem dL_law_1832 : decode cL_law 1832 = .ok (.ireturn, 1) := by decide +kernel
theorem dL_law_1833 : decode cL_law 1833 = .ok (.aload_n 1, 1) := by decide +kernel
theorem dL_law_1834 : decode cL_law 1834 = .ok (.invokevirtual 286, 3) := by decide +kernel
theorem dL_law_1837 : decode cL_law 1837 = .ok (.aload_n 2, 1) := by decide +kernel
theorem dL_law_1838 : decode cL_law 1838 = .ok (.invokevirtual 289, 3) := by decide +kernel
theorem dL_law_1841 : decode cL_law 1841 = .ok (.if_icmp .eq 238, 3) := by decide +kernel
theorem dL_law_1844 : decode cL_law 1844 = .ok (.iconst 0, 1) := by decide +kernel
theorem dL_law_1845 : decode cL_law 1845 = .ok (.ireturn, 1) := by decide +kernel
theorem dL_law_1846 : decode cL_law 1846 = .ok (.aload_n 1, 1) := by decide +kernel
theorem dL_law_1847 : decode cL_law 1847 = .ok (.aload_n 0, 1) := by decide +kernel
theorem dL_law_1848 : decode cL_law 1848 = .ok (.iload 4, 2) := by decide +kernel
theorem dL_law_1850 : decode cL_law 1850 = .ok (.iconst 1, 1) := by decide +kernel
theorem dL_law_1851 : decode cL_law 1851 = .ok (.iadd, 1) := by decide +kernel
theorem dL_law_1852 : decode cL_law 1852 = .ok (.iaload, 1) := by decide +kernel
theorem dL_law_1853 : decode cL_law 1853 = .ok (.aload_n 3, 1) := by decide +kernel
theorem dL_law_1854 : decode cL_law 1854 = .ok (.invokestatic 290, 3) := by decide +kernel
theorem dL_law_1857 : decode cL_law 1857 = .ok (.istore 5, 2) := by decide +kernel
theorem dL_law_1859 : decode cL_law 1859 = .ok (.aload_n 2, 1) := by decide +kernel
theorem dL_law_1860 : decode cL_law 1860 = .ok (.aload_n 0, 1) := by decide +kernel
theorem dL_law_1861 : decode cL_law 1861 = .ok (.iload 4, 2) := by decide +kernel
theorem dL_law_1863 : decode cL_law 1863 = .ok (.iconst 1, 1) := by decide +kernel
theorem dL_law_1864 : decode cL_law 1864 = .ok (.iadd, 1) := by decide +kernel
theorem dL_law_1865 : decode cL_law 1865 = .ok (.iaload, 1) := by decide +kernel
theorem dL_law_1866 : decode cL_law 1866 = .ok (.invokevirtual 292, 3) := by decide +kernel
theorem dL_law_1869 : decode cL_law 1869 = .ok (.istore 6, 2) := by decide +kernel
theorem dL_law_1871 : decode cL_law 1871 = .ok (.aload_n 2, 1) := by decide +kernel
theorem dL_law_1872 : decode cL_law 1872 = .ok (.invokevirtual 116, 3) := by decide +kernel
theorem dL_law_1875 : decode cL_law 1875 = .ok (.iload 5, 2) := by decide +kernel
theorem dL_law_1877 : decode cL_law 1877 = .ok (.if_icmp .eq 5, 3) := by decide +kernel
theorem dL_law_1880 : decode cL_law 1880 = .ok (.iconst 0, 1) := by decide +kernel
theorem dL_law_1881 : decode cL_law 1881 = .ok (.ireturn, 1) := by decide +kernel
theorem dL_law_1882 : decode cL_law 1882 = .ok (.iload 5, 2) := by decide +kernel
theorem dL_law_1884 : decode cL_law 1884 = .ok (.ifCond .ne 15, 3) := by decide +kernel
theorem dL_law_1887 : decode cL_law 1887 = .ok (.aload_n 3, 1) := by decide +kernel
theorem dL_law_1888 : decode cL_law 1888 = .ok (.iconst 0, 1) := by decide +kernel
theorem dL_law_1889 : decode cL_law 1889 = .ok (.laload, 1) := by decide +kernel
theorem dL_law_1890 : decode cL_law 1890 = .ok (.iload 6, 2) := by decide +kernel
theorem dL_law_1892 : decode cL_law 1892 = .ok (.i2l, 1) := by decide +kernel
theorem dL_law_1893 : decode cL_law 1893 = .ok (.lcmp, 1) := by decide +kernel
theorem dL_law_1894 : decode cL_law 1894 = .ok (.ifCond .eq 5, 3) := by decide +kernel
theorem dL_law_1897 : decode cL_law 1897 = .ok (.iconst 0, 1) := by decide +kernel
theorem dL_law_1898 : decode cL_law 1898 = .ok (.ireturn, 1) := by decide +kernel
theorem dL_law_1899 : decode cL_law 1899 = .ok (.goto 180, 3) := by decide +kernel
theorem dL_law_1902 : decode cL_law 1902 = .ok (.aload_n 1, 1) := by decide +kernel
theorem dL_law_1903 : decode cL_law 1903 = .ok (.invokevirtual 293, 3) := by decide +kernel
theorem dL_law_1906 : decode cL_law 1906 = .ok (.aload_n 2, 1) := by decide +kernel
theorem dL_law_1907 : decode cL_law 1907 = .ok (.invokevirtual 296, 3) := by decide +kernel
theorem dL_law_1910 : decode cL_law 1910 = .ok (.if_icmp .eq 169, 3) := by decide +kernel
theorem dL_law_1913 : decode cL_law 1913 = .ok (.iconst 0, 1) := by decide +kernel
theorem dL_law_1914 : decode cL_law 1914 = .ok (.ireturn, 1) := by decide +kernel
theorem dL_law_1915 : decode cL_law 1915 = .ok (.aload_n 1, 1) := by decide +kernel
theorem dL_law_1916 : decode cL_law 1916 = .ok (.aload_n 3, 1) := by decide +kernel
theorem dL_law_1917 : decode cL_law 1917 = .ok (.invokestatic 297, 3) := by decide +kernel
theorem dL_law_1920 : decode cL_law 1920 = .ok (.istore 5, 2) := by decide +kernel
theorem dL_law_1922 : decode cL_law 1922 = .ok (.aload_n 2, 1) := by decide +kernel
theorem dL_law_1923 : decode cL_law 1923 = .ok (.invokevirtual 299, 3) := by decide +kernel
theorem dL_law_1926 : decode cL_law 1926 = .ok (.istore 6, 2) := by decide +kernel
theorem dL_law_1928 : decode cL_law 1928 = .ok (.aload_n 2, 1) := by decide +kernel
theorem dL_law_1929 : decode cL_law 1929 = .ok (.invokevirtual 116, 3) := by decide +kernel
theorem dL_law_1932 : decode cL_law 1932 = .ok (.iload 5, 2) := by decide +kernel
theorem dL_law_1934 : decode cL_law 1934 = .ok (.if_icmp .eq 5, 3) := by decide +kernel
theorem dL_law_1937 : decode cL_law 1937 = .ok (.iconst 0, 1) := by decide +kernel
theorem dL_law_1938 : decode cL_law 1938 = .ok (.ireturn, 1) := by decide +kernel
theorem dL_law_1939 : decode cL_law 1939 = .ok (.iload 5, 2) := by decide +kernel
theorem dL_law_1941 : decode cL_law 1941 = .ok (.ifCond .ne 15, 3) := by decide +kernel
theorem dL_law_1944 : decode cL_law 1944 = .ok (.aload_n 3, 1) := by decide +kernel
theorem dL_law_1945 : decode cL_law 1945 = .ok (.iconst 0, 1) := by decide +kernel
theorem dL_law_1946 : decode cL_law 1946 = .ok (.laload, 1) := by decide +kernel
theorem dL_law_1947 : decode cL_law 1947 = .ok (.iload 6, 2) := by decide +kernel
theorem dL_law_1949 : decode cL_law 1949 = .ok (.i2l, 1) := by decide +kernel
theorem dL_law_1950 : decode cL_law 1950 = .ok (.lcmp, 1) := by decide +kernel
theorem dL_law_1951 : decode cL_law 1951 = .ok (.ifCond .eq 5, 3) := by decide +kernel
theorem dL_law_1954 : decode cL_law 1954 = .ok (.iconst 0, 1) := by decide +kernel
theorem dL_law_1955 : decode cL_law 1955 = .ok (.ireturn, 1) := by decide +kernel
theorem dL_law_1956 : decode cL_law 1956 = .ok (.goto 123, 3) := by decide +kernel
theorem dL_law_1959 : decode cL_law 1959 = .ok (.aload_n 1, 1) := by decide +kernel
theorem dL_law_1960 : decode cL_law 1960 = .ok (.invokevirtual 300, 3) := by decide +kernel
theorem dL_law_1963 : decode cL_law 1963 = .ok (.aload_n 2, 1) := by decide +kernel
theorem dL_law_1964 : decode cL_law 1964 = .ok (.invokevirtual 303, 3) := by decide +kernel
theorem dL_law_1967 : decode cL_law 1967 = .ok (.if_icmp .eq 112, 3) := by decide +kernel
theorem dL_law_1970 : decode cL_law 1970 = .ok (.iconst 0, 1) := by decide +kernel
theorem dL_law_1971 : decode cL_law 1971 = .ok (.ireturn, 1) := by decide +kernel
theorem dL_law_1972 : decode cL_law 1972 = .ok (.aload_n 1, 1) := by decide +kernel
theorem dL_law_1973 : decode cL_law 1973 = .ok (.invokevirtual 304, 3) := by decide +kernel
theorem dL_law_1976 : decode cL_law 1976 = .ok (.aload_n 2, 1) := by decide +kernel
theorem dL_law_1977 : decode cL_law 1977 = .ok (.invokevirtual 307, 3) := by decide +kernel
theorem dL_law_1980 : decode cL_law 1980 = .ok (.if_icmp .eq 99, 3) := by decide +kernel
theorem dL_law_1983 : decode cL_law 1983 = .ok (.iconst 0, 1) := by decide +kernel
theorem dL_law_1984 : decode cL_law 1984 = .ok (.ireturn, 1) := by decide +kernel
theorem dL_law_1985 : decode cL_law 1985 = .ok (.aload_n 1, 1) := by decide +kernel
theorem dL_law_1986 : decode cL_law 1986 = .ok (.invokevirtual 308, 3) := by decide +kernel
theorem dL_law_1989 : decode cL_law 1989 = .ok (.aload_n 2, 1) := by decide +kernel
theorem dL_law_1990 : decode cL_law 1990 = .ok (.invokevirtual 311, 3) := by decide +kernel
theorem dL_law_1993 : decode cL_law 1993 = .ok (.if_icmp .eq 86, 3) := by decide +kernel
theorem dL_law_1996 : decode cL_law 1996 = .ok (.iconst 0, 1) := by decide +kernel
theorem dL_law_1997 : decode cL_law 1997 = .ok (.ireturn, 1) := by decide +kernel
theorem dL_law_1998 : decode cL_law 1998 = .ok (.aload_n 1, 1) := by decide +kernel
theorem dL_law_1999 : decode cL_law 1999 = .ok (.invokevirtual 312, 3) := by decide +kernel
theorem dL_law_2002 : decode cL_law 2002 = .ok (.aload_n 2, 1) := by decide +kernel
theorem dL_law_2003 : decode cL_law 2003 = .ok (.invokevirtual 315, 3) := by decide +kernel
theorem dL_law_2006 : decode cL_law 2006 = .ok (.if_icmp .eq 73, 3) := by decide +kernel
theorem dL_law_2009 : decode cL_law 2009 = .ok (.iconst 0, 1) := by decide +kernel
theorem dL_law_2010 : decode cL_law 2010 = .ok (.ireturn, 1) := by decide +kernel
theorem dL_law_2011 : decode cL_law 2011 = .ok (.aload_n 1, 1) := by decide +kernel
theorem dL_law_2012 : decode cL_law 2012 = .ok (.invokevirtual 316, 3) := by decide +kernel
theorem dL_law_2015 : decode cL_law 2015 = .ok (.aload_n 2, 1) := by decide +kernel
theorem dL_law_2016 : decode cL_law 2016 = .ok (.invokevirtual 319, 3) := by decide +kernel
theorem dL_law_2019 : decode cL_law 2019 = .ok (.if_icmp .eq 60, 3) := by decide +kernel
theorem dL_law_2022 : decode cL_law 2022 = .ok (.iconst 0, 1) := by decide +kernel
theorem dL_law_2023 : decode cL_law 2023 = .ok (.ireturn, 1) := by decide +kernel
theorem dL_law_2024 : decode cL_law 2024 = .ok (.aload_n 1, 1) := by decide +kernel
theorem dL_law_2025 : decode cL_law 2025 = .ok (.invokevirtual 320, 3) := by decide +kernel
theorem dL_law_2028 : decode cL_law 2028 = .ok (.dstore 5, 2) := by decide +kernel
theorem dL_law_2030 : decode cL_law 2030 = .ok (.aload_n 2, 1) := by decide +kernel
theorem dL_law_2031 : decode cL_law 2031 = .ok (.invokevirtual 324, 3) := by decide +kernel
theorem dL_law_2034 : decode cL_law 2034 = .ok (.dstore 7, 2) := by decide +kernel
theorem dL_law_2036 : decode cL_law 2036 = .ok (.dload 5, 2) := by decide +kernel
theorem dL_law_2038 : decode cL_law 2038 = .ok (.dload 7, 2) := by decide +kernel
theorem dL_law_2040 : decode cL_law 2040 = .ok (.dcmp .l, 1) := by decide +kernel
theorem dL_law_2041 : decode cL_law 2041 = .ok (.ifCond .eq 21, 3) := by decide +kernel
theorem dL_law_2044 : decode cL_law 2044 = .ok (.dload 5, 2) := by decide +kernel
theorem dL_law_2046 : decode cL_law 2046 = .ok (.dload 5, 2) := by decide +kernel
theorem dL_law_2048 : decode cL_law 2048 = .ok (.dcmp .l, 1) := by decide +kernel
theorem dL_law_2049 : decode cL_law 2049 = .ok (.ifCond .eq 11, 3) := by decide +kernel
theorem dL_law_2052 : decode cL_law 2052 = .ok (.dload 7, 2) := by decide +kernel
theorem dL_law_2054 : decode cL_law 2054 = .ok (.dload 7, 2) := by decide +kernel
theorem dL_law_2056 : decode cL_law 2056 = .ok (.dcmp .l, 1) := by decide +kernel
theorem dL_law_2057 : decode cL_law 2057 = .ok (.ifCond .ne 5, 3) := by decide +kernel
theorem dL_law_2060 : decode cL_law 2060 = .ok (.iconst 0, 1) := by decide +kernel
theorem dL_law_2061 : decode cL_law 2061 = .ok (.ireturn, 1) := by decide +kernel
theorem dL_law_2062 : decode cL_law 2062 = .ok (.goto 17, 3) := by decide +kernel
theorem dL_law_2065 : decode cL_law 2065 = .ok (.aload_n 1, 1) := by decide +kernel
theorem dL_law_2066 : decode cL_law 2066 = .ok (.invokevirtual 325, 3) := by decide +kernel
theorem dL_law_2069 : decode cL_law 2069 = .ok (.aload_n 2, 1) := by decide +kernel
theorem dL_law_2070 : decode cL_law 2070 = .ok (.invokevirtual 329, 3) := by decide +kernel
theorem dL_law_2073 : decode cL_law 2073 = .ok (.lcmp, 1) := by decide +kernel
theorem dL_law_2074 : decode cL_law 2074 = .ok (.ifCond .eq 5, 3) := by decide +kernel
theorem dL_law_2077 : decode cL_law 2077 = .ok (.iconst 0, 1) := by decide +kernel
theorem dL_law_2078 : decode cL_law 2078 = .ok (.ireturn, 1) := by decide +kernel
theorem dL_law_2079 : decode cL_law 2079 = .ok (.iinc 4 3, 3) := by decide +kernel
theorem dL_law_2082 : decode cL_law 2082 = .ok (.goto (-2059), 3) := by decide +kernel
theorem dL_law_2085 : decode cL_law 2085 = .ok (.iconst 1, 1) := by decide +kernel
theorem dL_law_2086 : decode cL_law 2086 = .ok (.ireturn, 1) := by decide +kernel
end
