/-! THE LAW, call by call. -/
set_option maxRecDepth 100000 in
set_option maxHeartbeats 4000000 in
theorem lc_26 (l : Launch) (hfl : l.flags = flags0) {ZZ : ZT} {tbl : List ExceptionTableEntry} {nm ds : String} {Φ : State → Prop} {post : Option Value → List Nat → (Nat → PE) → Prop} {xp : String → List Nat → (Nat → PE) → Prop} (hZ : ZZ = Zq Φ tbl l ⟨"DragonRingLaw", nm, ds⟩ cL_law 9 (some .boolean) room_1 [] post xp) (hΦ : ∀ s, Φ s → va_Nc xS xA s) {b Ls : Nat} {sx : Int → Int} (hsx : ∀ s, Φ s → va_X b Ls (fun j => iI (sx (j : Int))) s s.heap ∧ b < s.heap.size) (hok : ∀ j, -2147483648 ≤ sx j ∧ sx j ≤ 2147483647) {LX : List Nat} {F : Nat → PE} {K : Nat → Nat} {m a q c o : Nat} {i : Int} {k n : Nat} {s5 s6 s7 s8 : Option Value} (hL : LSx LX m a q c o) (hI : LI LX F K m a q c o) (hi : 0 ≤ i ∧ i + 2 < Ls ∧ Ls ≤ 1536) (hk : k + 1 ≤ 601024 ∧ n + 6 ≤ 7293034)
    (cont : ∀ (k2 n2 : Nat) (F2 : Nat → PE) (t5 t6 t7 t8 : Option Value), k2 ≤ k + 1 → n2 ≤ n + 6 → LI LX F2 K m a q c o → ZZ k2 n2 2079 [some (.ref b), some (.ref (K 0)), some (.ref m), some (.ref o), some (.int (iI i)), t5, t6, t7, t8] [] (LX ++ [m, a, q, c, o]) F2) :
    ZZ k n 1256 [some (.ref b), some (.ref (K 0)), some (.ref m), some (.ref o), some (.int (iI i)), s5, s6, s7, s8] [] (LX ++ [m, a, q, c, o]) F := by
  obtain ⟨g, kd, sv, kp, nn, bf, th, pt, tm, sg, u, dgt, mot, hu⟩ := hI
  have fx := dr.fx dgt
  have rg := fx.1.1
  obtain ⟨hd9, oM, oA, oQ, oC⟩ := hL
  have hv := (dr.fx (dg.pre dgt)).1
  have y1 := hok (i + 1)
  have y2 := hok (i + 2)
  have oin : o ∈ [m, a, q, c, o] := by simp
  have hd5 : ∀ b, b ∈ LX → b ≠ o := fun b hb => (hd9 b hb).2.2.2.2
  have mM : m ∈ [m, a, q, c, o] := by simp
  have aM : a ∈ [m, a, q, c, o] := by simp
  have qM : q ∈ [m, a, q, c, o] := by simp
  have cM : c ∈ [m, a, q, c, o] := by simp
  refine zq_aload_n1 hZ dL_law_1256 ?_
  refine zq_aload_n0 hZ dL_law_1257 ?_
  refine zq_iload4 hZ dL_law_1258 ?_
  refine zq_iconst hZ dL_law_1260 ?_
  refine zq_iadd hZ dL_law_1261 ?_
  refine zq_sld hZ hsx rfl dL_law_1262 (by omega) ?_
  refine zq_cSh hZ hΦ (As := [_, _]) rfl dL_law_1263 ml_L_203 wy_L_keep (m_L_keep l (M := [m, a, q, c, o]) hfl (dgt) y1) ⟨Nat.le_of_ble_eq_true rfl, Nat.le_of_ble_eq_true rfl⟩ ⟨by show k + 1 ≤ 601024; omega, by show n + 6 ≤ 7293034; omega⟩ (Nat.le_of_ble_eq_true rfl) (fun v9 L9 F9 hp => ?_)
  obtain ⟨rfl, fM, hX⟩ := hp
  obtain ⟨kk, rfl, hY⟩ : ∃ kk, v9 = some (.int (iI kk)) ∧ ((kk = 0 ∧ (0 ≤ (sx (i + 1)) ∧ (sx (i + 1)) ≤ 1) ∧ dr LX F9 K g kd sv (sH g) (wu kp (sx (i + 1)) 1) (wu (sQ g) (sx (i + 1)) g) nn bf) ∨ (kk = 1 ∧ ¬ (0 ≤ (sx (i + 1)) ∧ (sx (i + 1)) ≤ 1) ∧ dr LX F9 K g kd sv (sH g) kp (sQ g) nn bf)) := by
    rcases hX with ⟨x1, x2, x3⟩ | ⟨x1, x2, x3⟩
    · exact ⟨0, x2, Or.inl ⟨rfl, x1, x3⟩⟩
    · exact ⟨1, x2, Or.inr ⟨rfl, x1, x3⟩⟩
  have mot9 := mo.mv (F1 := F9) mot (fM m mM) (fM a aM) (fM q qM) (fM c cM)
  refine zq_istore5 hZ dL_law_1266 (by decide) rfl ?_
  refine zq_aload_n2 hZ dL_law_1268 ?_
  refine zq_aload_n0 hZ dL_law_1269 ?_
  refine zq_iload4 hZ dL_law_1270 ?_
  refine zq_iconst hZ dL_law_1272 ?_
  refine zq_iadd hZ dL_law_1273 ?_
  refine zq_sld hZ hsx rfl dL_law_1274 (by omega) ?_
  refine zq_cV hZ (As := [_]) rfl dL_law_1275 ml_L_206 wy_X8_keep (m_X8_keep l mot9 fx.1 fx.2.1 y1) (List.mem_append_right _ mM) mot9.2.1 rfl ⟨Nat.le_of_ble_eq_true rfl, Nat.le_of_ble_eq_true rfl⟩ ⟨by show k + 1 + 0 ≤ 601024; omega, by show n + 6 + 0 ≤ 7293034; omega⟩ (Nat.le_of_ble_eq_true rfl) (fun _ _ _ h => h.elim) (fun v9 L2 F2 hp => ?_)
  obtain ⟨rfl, rfl, fr, hM⟩ := hp
  have fin : ∃ g2 kd2 sv2 kp2 n2 bf2 pt2 tm2 sg2, dg LX F2 K g2 kd2 sv2 kp2 n2 bf2 ∧ mo (LX ++ [m, a, q, c, o]) F2 m a q c g2 sv2 kk kd2 n2 pt2 tm2 sg2 kp2 bf2 ∧ (0 ≤ kk ∧ kk ≤ 2) := by
    have e2 : ∀ b, b ∈ LX → F2 b = F9 b := fun b hb => fr b (hd9 b hb).1 (hd9 b hb).2.1 (hd9 b hb).2.2.1 (hd9 b hb).2.2.2.1
    rcases hY with ⟨rfl, x1, x3⟩ | ⟨rfl, x1, x3⟩
    · rcases hM with ⟨z1, z3⟩ | ⟨z1, z3⟩
      · exact ⟨_, _, _, _, _, _, _, _, _, dg.keep fx.2.1 x1 (dr.mv x3 e2), z3, by omega⟩
      · exact absurd x1 z1
    · rcases hM with ⟨z1, z3⟩ | ⟨z1, z3⟩
      · exact absurd z1 x1
      · exact ⟨_, _, _, _, _, _, _, _, _, dr.mv x3 e2, z3, by omega⟩
  obtain ⟨g2, kd2, sv2, kp2, n2, bf2, pt2, tm2, sg2, dg2, mo2, hkk⟩ := fin
  have ho2 : F2 o = eL 1 u := (fr o oM oA oQ oC).trans ((fM o oin).trans hu)
  have fins : LI LX F2 K m a q c o := ⟨g2, kd2, sv2, kp2, n2, bf2, kk, pt2, tm2, sg2, u, dg2, mo2, ho2⟩
  refine zq_aload_n2 hZ dL_law_1278 ?_
  refine zq_cV hZ (As := []) rfl dL_law_1279 ml_L_116 wy_X8_thrown (m_X8_thrown l mo2) (List.mem_append_right _ mM) mo2.2.1 rfl ⟨Nat.le_of_ble_eq_true rfl, Nat.le_of_ble_eq_true rfl⟩ ⟨by show k + 1 + 0 + 0 ≤ 601024; omega, by show n + 6 + 0 + 0 ≤ 7293034; omega⟩ (Nat.le_of_ble_eq_true rfl) (fun _ _ _ h => h.elim) (fun v9 L3 F3 hp => ?_)
  obtain ⟨rfl, rfl, rfl⟩ := hp
  refine zq_iload5 hZ dL_law_1282 ?_
  refine zq_icmp_eq hZ (tgt := 1289) dL_law_1284 rfl (by omega) (fun _ => ?_) (fun hne => absurd rfl hne)
  exact zq_goto hZ (tgt := 2079) dL_law_1289 rfl (cont _ _ F2 _ _ _ _ (by show k + 1 + 0 + 0 ≤ k + 1; omega) (by show n + 6 + 0 + 0 ≤ n + 6; omega) fins)
set_option maxRecDepth 100000 in
set_option maxHeartbeats 4000000 in
theorem lc_27 (l : Launch) (hfl : l.flags = flags0) {ZZ : ZT} {tbl : List ExceptionTableEntry} {nm ds : String} {Φ : State → Prop} {post : Option Value → List Nat → (Nat → PE) → Prop} {xp : String → List Nat → (Nat → PE) → Prop} (hZ : ZZ = Zq Φ tbl l ⟨"DragonRingLaw", nm, ds⟩ cL_law 9 (some .boolean) room_1 [] post xp) (hΦ : ∀ s, Φ s → va_Nc xS xA s) {b Ls : Nat} {sx : Int → Int} (hsx : ∀ s, Φ s → va_X b Ls (fun j => iI (sx (j : Int))) s s.heap ∧ b < s.heap.size) (hok : ∀ j, -2147483648 ≤ sx j ∧ sx j ≤ 2147483647) {LX : List Nat} {F : Nat → PE} {K : Nat → Nat} {m a q c o : Nat} {i : Int} {k n : Nat} {s5 s6 s7 s8 : Option Value} (hL : LSx LX m a q c o) (hI : LI LX F K m a q c o) (hi : 0 ≤ i ∧ i + 2 < Ls ∧ Ls ≤ 1536) (hk : k + 1 ≤ 601024 ∧ n + 6 ≤ 7293034)
    (cont : ∀ (k2 n2 : Nat) (F2 : Nat → PE) (t5 t6 t7 t8 : Option Value), k2 ≤ k + 1 → n2 ≤ n + 6 → LI LX F2 K m a q c o → ZZ k2 n2 2079 [some (.ref b), some (.ref (K 0)), some (.ref m), some (.ref o), some (.int (iI i)), t5, t6, t7, t8] [] (LX ++ [m, a, q, c, o]) F2) :
    ZZ k n 1292 [some (.ref b), some (.ref (K 0)), some (.ref m), some (.ref o), some (.int (iI i)), s5, s6, s7, s8] [] (LX ++ [m, a, q, c, o]) F := by
  obtain ⟨g, kd, sv, kp, nn, bf, th, pt, tm, sg, u, dgt, mot, hu⟩ := hI
  have fx := dr.fx dgt
  have rg := fx.1.1
  obtain ⟨hd9, oM, oA, oQ, oC⟩ := hL
  have hv := (dr.fx (dg.pre dgt)).1
  have y1 := hok (i + 1)
  have y2 := hok (i + 2)
  have oin : o ∈ [m, a, q, c, o] := by simp
  have hd5 : ∀ b, b ∈ LX → b ≠ o := fun b hb => (hd9 b hb).2.2.2.2
  have mM : m ∈ [m, a, q, c, o] := by simp
  have aM : a ∈ [m, a, q, c, o] := by simp
  have qM : q ∈ [m, a, q, c, o] := by simp
  have cM : c ∈ [m, a, q, c, o] := by simp
  refine zq_aload_n1 hZ dL_law_1292 ?_
  refine zq_aload_n0 hZ dL_law_1293 ?_
  refine zq_iload4 hZ dL_law_1294 ?_
  refine zq_iconst hZ dL_law_1296 ?_
  refine zq_iadd hZ dL_law_1297 ?_
  refine zq_sld hZ hsx rfl dL_law_1298 (by omega) ?_
  refine zq_cSh hZ hΦ (As := [_, _]) rfl dL_law_1299 ml_L_207 wy_L_goBack (m_L_goBack l (M := [m, a, q, c, o]) hfl (dgt) y1) ⟨Nat.le_of_ble_eq_true rfl, Nat.le_of_ble_eq_true rfl⟩ ⟨by show k + 1 ≤ 601024; omega, by show n + 6 ≤ 7293034; omega⟩ (Nat.le_of_ble_eq_true rfl) (fun v9 L9 F9 hp => ?_)
  obtain ⟨rfl, fM, hX⟩ := hp
  obtain ⟨kk, rfl, hY⟩ : ∃ kk, v9 = some (.int (iI kk)) ∧ ((kk = 0 ∧ (0 ≤ (sx (i + 1)) ∧ (sx (i + 1)) ≤ 1) ∧ kp (sx (i + 1)) = 1 ∧ dr LX F9 K (sQ g (sx (i + 1))) 0 (hN sv) (hS sv (sH g) g) kp (sQ g) nn bf) ∨ (kk = 1 ∧ ¬ (0 ≤ (sx (i + 1)) ∧ (sx (i + 1)) ≤ 1) ∧ dr LX F9 K g kd sv (sH g) kp (sQ g) nn bf) ∨ (kk = 2 ∧ (0 ≤ (sx (i + 1)) ∧ (sx (i + 1)) ≤ 1) ∧ ¬ kp (sx (i + 1)) = 1 ∧ dr LX F9 K g kd sv (sH g) kp (sQ g) nn bf)) := by
    rcases hX with ⟨x1, x2, x3, x4⟩ | ⟨x1, x2, x3⟩ | ⟨x1, x2, x3, x4⟩
    · exact ⟨0, x3, Or.inl ⟨rfl, x1, x2, x4⟩⟩
    · exact ⟨1, x2, Or.inr (Or.inl ⟨rfl, x1, x3⟩)⟩
    · exact ⟨2, x3, Or.inr (Or.inr ⟨rfl, x1, x2, x4⟩)⟩
  have mot9 := mo.mv (F1 := F9) mot (fM m mM) (fM a aM) (fM q qM) (fM c cM)
  refine zq_istore5 hZ dL_law_1302 (by decide) rfl ?_
  refine zq_aload_n2 hZ dL_law_1304 ?_
  refine zq_aload_n0 hZ dL_law_1305 ?_
  refine zq_iload4 hZ dL_law_1306 ?_
  refine zq_iconst hZ dL_law_1308 ?_
  refine zq_iadd hZ dL_law_1309 ?_
  refine zq_sld hZ hsx rfl dL_law_1310 (by omega) ?_
  refine zq_cV hZ (As := [_]) rfl dL_law_1311 ml_L_209 wy_X8_goBack (m_X8_goBack l mot9 fx.1 fx.2.1 fx.2.2.2.2 y1) (List.mem_append_right _ mM) mot9.2.1 rfl ⟨Nat.le_of_ble_eq_true rfl, Nat.le_of_ble_eq_true rfl⟩ ⟨by show k + 1 + 0 ≤ 601024; omega, by show n + 6 + 0 ≤ 7293034; omega⟩ (Nat.le_of_ble_eq_true rfl) (fun _ _ _ h => h.elim) (fun v9 L2 F2 hp => ?_)
  obtain ⟨rfl, rfl, fr, hM⟩ := hp
  have fin : ∃ g2 kd2 sv2 kp2 n2 bf2 pt2 tm2 sg2, dg LX F2 K g2 kd2 sv2 kp2 n2 bf2 ∧ mo (LX ++ [m, a, q, c, o]) F2 m a q c g2 sv2 kk kd2 n2 pt2 tm2 sg2 kp2 bf2 ∧ (0 ≤ kk ∧ kk ≤ 2) := by
    have e2 : ∀ b, b ∈ LX → F2 b = F9 b := fun b hb => fr b (hd9 b hb).1 (hd9 b hb).2.1 (hd9 b hb).2.2.1 (hd9 b hb).2.2.2.1
    rcases hY with ⟨rfl, x1, x2, x3⟩ | ⟨rfl, x1, x3⟩ | ⟨rfl, x1, x2, x3⟩
    · rcases hM with ⟨z1, z2, h, z3, z4⟩ | ⟨z1, z3⟩ | ⟨z1, z2, z3⟩
      · exact ⟨_, _, _, _, _, _, _, _, _, dg.back fx.2.1 x1 (dr.mv x3 e2) z3, z4, by omega⟩
      · exact absurd x1 z1
      · exact absurd x2 z2
    · rcases hM with ⟨z1, z2, h, z3, z4⟩ | ⟨z1, z3⟩ | ⟨z1, z2, z3⟩
      · exact absurd z1 x1
      · exact ⟨_, _, _, _, _, _, _, _, _, dr.mv x3 e2, z3, by omega⟩
      · exact absurd z1 x1
    · rcases hM with ⟨z1, z2, h, z3, z4⟩ | ⟨z1, z3⟩ | ⟨z1, z2, z3⟩
      · exact absurd z2 x2
      · exact absurd x1 z1
      · exact ⟨_, _, _, _, _, _, _, _, _, dr.mv x3 e2, z3, by omega⟩
  obtain ⟨g2, kd2, sv2, kp2, n2, bf2, pt2, tm2, sg2, dg2, mo2, hkk⟩ := fin
  have ho2 : F2 o = eL 1 u := (fr o oM oA oQ oC).trans ((fM o oin).trans hu)
  have fins : LI LX F2 K m a q c o := ⟨g2, kd2, sv2, kp2, n2, bf2, kk, pt2, tm2, sg2, u, dg2, mo2, ho2⟩
  refine zq_aload_n2 hZ dL_law_1314 ?_
  refine zq_cV hZ (As := []) rfl dL_law_1315 ml_L_116 wy_X8_thrown (m_X8_thrown l mo2) (List.mem_append_right _ mM) mo2.2.1 rfl ⟨Nat.le_of_ble_eq_true rfl, Nat.le_of_ble_eq_true rfl⟩ ⟨by show k + 1 + 0 + 0 ≤ 601024; omega, by show n + 6 + 0 + 0 ≤ 7293034; omega⟩ (Nat.le_of_ble_eq_true rfl) (fun _ _ _ h => h.elim) (fun v9 L3 F3 hp => ?_)
  obtain ⟨rfl, rfl, rfl⟩ := hp
  refine zq_iload5 hZ dL_law_1318 ?_
  refine zq_icmp_eq hZ (tgt := 1325) dL_law_1320 rfl (by omega) (fun _ => ?_) (fun hne => absurd rfl hne)
  exact zq_goto hZ (tgt := 2079) dL_law_1325 rfl (cont _ _ F2 _ _ _ _ (by show k + 1 + 0 + 0 ≤ k + 1; omega) (by show n + 6 + 0 + 0 ≤ n + 6; omega) fins)
set_option maxRecDepth 100000 in
set_option maxHeartbeats 4000000 in
theorem lc_28 (l : Launch) (hfl : l.flags = flags0) {ZZ : ZT} {tbl : List ExceptionTableEntry} {nm ds : String} {Φ : State → Prop} {post : Option Value → List Nat → (Nat → PE) → Prop} {xp : String → List Nat → (Nat → PE) → Prop} (hZ : ZZ = Zq Φ tbl l ⟨"DragonRingLaw", nm, ds⟩ cL_law 9 (some .boolean) room_1 [] post xp) (hΦ : ∀ s, Φ s → va_Nc xS xA s) {b Ls : Nat} {sx : Int → Int} (hsx : ∀ s, Φ s → va_X b Ls (fun j => iI (sx (j : Int))) s s.heap ∧ b < s.heap.size) (hok : ∀ j, -2147483648 ≤ sx j ∧ sx j ≤ 2147483647) {LX : List Nat} {F : Nat → PE} {K : Nat → Nat} {m a q c o : Nat} {i : Int} {k n : Nat} {s5 s6 s7 s8 : Option Value} (hL : LSx LX m a q c o) (hI : LI LX F K m a q c o) (hi : 0 ≤ i ∧ i + 2 < Ls ∧ Ls ≤ 1536) (hk : k + 1 ≤ 601024 ∧ n + 6 ≤ 7293034)
    (cont : ∀ (k2 n2 : Nat) (F2 : Nat → PE) (t5 t6 t7 t8 : Option Value), k2 ≤ k + 1 → n2 ≤ n + 6 → LI LX F2 K m a q c o → ZZ k2 n2 2079 [some (.ref b), some (.ref (K 0)), some (.ref m), some (.ref o), some (.int (iI i)), t5, t6, t7, t8] [] (LX ++ [m, a, q, c, o]) F2) :
    ZZ k n 1328 [some (.ref b), some (.ref (K 0)), some (.ref m), some (.ref o), some (.int (iI i)), s5, s6, s7, s8] [] (LX ++ [m, a, q, c, o]) F := by
  obtain ⟨g, kd, sv, kp, nn, bf, th, pt, tm, sg, u, dgt, mot, hu⟩ := hI
  have fx := dr.fx dgt
  have rg := fx.1.1
  obtain ⟨hd9, oM, oA, oQ, oC⟩ := hL
  have hv := (dr.fx (dg.pre dgt)).1
  have y1 := hok (i + 1)
  have y2 := hok (i + 2)
  have oin : o ∈ [m, a, q, c, o] := by simp
  have hd5 : ∀ b, b ∈ LX → b ≠ o := fun b hb => (hd9 b hb).2.2.2.2
  have mM : m ∈ [m, a, q, c, o] := by simp
  have aM : a ∈ [m, a, q, c, o] := by simp
  have qM : q ∈ [m, a, q, c, o] := by simp
  have cM : c ∈ [m, a, q, c, o] := by simp
  refine zq_aload_n1 hZ dL_law_1328 ?_
  refine zq_cSh hZ hΦ (As := [_]) rfl dL_law_1329 ml_L_210 wy_L_undo (m_L_undo l (M := [m, a, q, c, o]) hfl (dgt)) ⟨Nat.le_of_ble_eq_true rfl, Nat.le_of_ble_eq_true rfl⟩ ⟨by show k + 1 ≤ 601024; omega, by show n + 6 ≤ 7293034; omega⟩ (Nat.le_of_ble_eq_true rfl) (fun v9 L9 F9 hp => ?_)
  obtain ⟨rfl, fM, hX⟩ := hp
  obtain ⟨kk, rfl, hY⟩ : ∃ kk, v9 = some (.int (iI kk)) ∧ ((kk = 0 ∧ 0 < sv ∧ dr LX F9 K (sH g sv) 0 (sv - 1) (sH g) kp (sQ g) nn bf) ∨ (kk = 1 ∧ ¬ 0 < sv ∧ dr LX F9 K g kd sv (sH g) kp (sQ g) nn bf)) := by
    rcases hX with ⟨x1, x2, x3⟩ | ⟨x1, x2, x3⟩
    · exact ⟨0, x2, Or.inl ⟨rfl, x1, x3⟩⟩
    · exact ⟨1, x2, Or.inr ⟨rfl, x1, x3⟩⟩
  have mot9 := mo.mv (F1 := F9) mot (fM m mM) (fM a aM) (fM q qM) (fM c cM)
  refine zq_istore5 hZ dL_law_1332 (by decide) rfl ?_
  refine zq_aload_n2 hZ dL_law_1334 ?_
  refine zq_cV hZ (As := []) rfl dL_law_1335 ml_L_213 wy_X8_undo (m_X8_undo l mot9 fx.1 fx.2.1) (List.mem_append_right _ mM) mot9.2.1 rfl ⟨Nat.le_of_ble_eq_true rfl, Nat.le_of_ble_eq_true rfl⟩ ⟨by show k + 1 + 0 ≤ 601024; omega, by show n + 6 + 0 ≤ 7293034; omega⟩ (Nat.le_of_ble_eq_true rfl) (fun _ _ _ h => h.elim) (fun v9 L2 F2 hp => ?_)
  obtain ⟨rfl, rfl, fr, hM⟩ := hp
  have fin : ∃ g2 kd2 sv2 kp2 n2 bf2 pt2 tm2 sg2, dg LX F2 K g2 kd2 sv2 kp2 n2 bf2 ∧ mo (LX ++ [m, a, q, c, o]) F2 m a q c g2 sv2 kk kd2 n2 pt2 tm2 sg2 kp2 bf2 ∧ (0 ≤ kk ∧ kk ≤ 2) := by
    have e2 : ∀ b, b ∈ LX → F2 b = F9 b := fun b hb => fr b (hd9 b hb).1 (hd9 b hb).2.1 (hd9 b hb).2.2.1 (hd9 b hb).2.2.2.1
    have fs := fx.2.1
    rcases hY with ⟨rfl, x1, x3⟩ | ⟨rfl, x1, x3⟩
    · rcases hM with ⟨z1, z3⟩ | ⟨z1, z3⟩
      · exact ⟨_, _, _, _, _, _, _, _, _, dg.undo (by omega) (dr.mv x3 e2), z3, by omega⟩
      · exact absurd x1 z1
    · rcases hM with ⟨z1, z3⟩ | ⟨z1, z3⟩
      · exact absurd z1 x1
      · exact ⟨_, _, _, _, _, _, _, _, _, dr.mv x3 e2, z3, by omega⟩
  obtain ⟨g2, kd2, sv2, kp2, n2, bf2, pt2, tm2, sg2, dg2, mo2, hkk⟩ := fin
  have ho2 : F2 o = eL 1 u := (fr o oM oA oQ oC).trans ((fM o oin).trans hu)
  have fins : LI LX F2 K m a q c o := ⟨g2, kd2, sv2, kp2, n2, bf2, kk, pt2, tm2, sg2, u, dg2, mo2, ho2⟩
  refine zq_aload_n2 hZ dL_law_1338 ?_
  refine zq_cV hZ (As := []) rfl dL_law_1339 ml_L_116 wy_X8_thrown (m_X8_thrown l mo2) (List.mem_append_right _ mM) mo2.2.1 rfl ⟨Nat.le_of_ble_eq_true rfl, Nat.le_of_ble_eq_true rfl⟩ ⟨by show k + 1 + 0 + 0 ≤ 601024; omega, by show n + 6 + 0 + 0 ≤ 7293034; omega⟩ (Nat.le_of_ble_eq_true rfl) (fun _ _ _ h => h.elim) (fun v9 L3 F3 hp => ?_)
  obtain ⟨rfl, rfl, rfl⟩ := hp
  refine zq_iload5 hZ dL_law_1342 ?_
  refine zq_icmp_eq hZ (tgt := 1349) dL_law_1344 rfl (by omega) (fun _ => ?_) (fun hne => absurd rfl hne)
  exact zq_goto hZ (tgt := 2079) dL_law_1349 rfl (cont _ _ F2 _ _ _ _ (by show k + 1 + 0 + 0 ≤ k + 1; omega) (by show n + 6 + 0 + 0 ≤ n + 6; omega) fins)
set_option maxRecDepth 100000 in
set_option maxHeartbeats 4000000 in
theorem lc_29 (l : Launch) (hfl : l.flags = flags0) {ZZ : ZT} {tbl : List ExceptionTableEntry} {nm ds : String} {Φ : State → Prop} {post : Option Value → List Nat → (Nat → PE) → Prop} {xp : String → List Nat → (Nat → PE) → Prop} (hZ : ZZ = Zq Φ tbl l ⟨"DragonRingLaw", nm, ds⟩ cL_law 9 (some .boolean) room_1 [] post xp) (hΦ : ∀ s, Φ s → va_Nc xS xA s) {b Ls : Nat} {sx : Int → Int} (hsx : ∀ s, Φ s → va_X b Ls (fun j => iI (sx (j : Int))) s s.heap ∧ b < s.heap.size) (hok : ∀ j, -2147483648 ≤ sx j ∧ sx j ≤ 2147483647) {LX : List Nat} {F : Nat → PE} {K : Nat → Nat} {m a q c o : Nat} {i : Int} {k n : Nat} {s5 s6 s7 s8 : Option Value} (hL : LSx LX m a q c o) (hI : LI LX F K m a q c o) (hi : 0 ≤ i ∧ i + 2 < Ls ∧ Ls ≤ 1536) (hk : k + 1 ≤ 601024 ∧ n + 6 ≤ 7293034)
    (cont : ∀ (k2 n2 : Nat) (F2 : Nat → PE) (t5 t6 t7 t8 : Option Value), k2 ≤ k + 1 → n2 ≤ n + 6 → LI LX F2 K m a q c o → ZZ k2 n2 2079 [some (.ref b), some (.ref (K 0)), some (.ref m), some (.ref o), some (.int (iI i)), t5, t6, t7, t8] [] (LX ++ [m, a, q, c, o]) F2) :
    ZZ k n 1352 [some (.ref b), some (.ref (K 0)), some (.ref m), some (.ref o), some (.int (iI i)), s5, s6, s7, s8] [] (LX ++ [m, a, q, c, o]) F := by
  obtain ⟨g, kd, sv, kp, nn, bf, th, pt, tm, sg, u, dgt, mot, hu⟩ := hI
  have fx := dr.fx dgt
  have rg := fx.1.1
  obtain ⟨hd9, oM, oA, oQ, oC⟩ := hL
  have hv := (dr.fx (dg.pre dgt)).1
  have y1 := hok (i + 1)
  have y2 := hok (i + 2)
  have oin : o ∈ [m, a, q, c, o] := by simp
  have hd5 : ∀ b, b ∈ LX → b ≠ o := fun b hb => (hd9 b hb).2.2.2.2
  have mM : m ∈ [m, a, q, c, o] := by simp
  have aM : a ∈ [m, a, q, c, o] := by simp
  have qM : q ∈ [m, a, q, c, o] := by simp
  have cM : c ∈ [m, a, q, c, o] := by simp
  refine zq_aload_n1 hZ dL_law_1352 ?_
  refine zq_cV hZ (As := []) rfl dL_law_1353 ml_L_214 wy_X7_savedStates (pm_fr [m, a, q, c, o] (m_X7_savedStates l dgt)) (List.mem_append_left _ (dr.L dgt 0 (by omega))) (dr.S dgt).2.1 rfl ⟨Nat.le_of_ble_eq_true rfl, Nat.le_of_ble_eq_true rfl⟩ ⟨by show k + 0 ≤ 601024; omega, by show n + 0 ≤ 7293034; omega⟩ (Nat.le_of_ble_eq_true rfl) (fun _ _ _ h => by obtain ⟨_, _, h, _⟩ := h; exact h.elim) (fun v9 L9 F9 hp => ?_)
  obtain ⟨L8, F8, hp, rfl, e1, fM⟩ := hp
  obtain ⟨rfl, rfl, rfl⟩ := hp
  have mot9 := mo.mv (F1 := F9) mot (fM m mM) (fM a aM) (fM q qM) (fM c cM)
  refine zq_aload_n2 hZ dL_law_1356 ?_
  refine zq_cV hZ (As := []) rfl dL_law_1357 ml_L_217 wy_X8_savedStates (m_X8_savedStates l mot9 fx.1) (List.mem_append_right _ mM) mot9.2.1 rfl ⟨Nat.le_of_ble_eq_true rfl, Nat.le_of_ble_eq_true rfl⟩ ⟨by show k + 0 + 0 ≤ 601024; omega, by show n + 0 + 0 ≤ 7293034; omega⟩ (Nat.le_of_ble_eq_true rfl) (fun _ _ _ h => h.elim) (fun v9 L2 F2 hp => ?_)
  obtain ⟨rfl, rfl, fr, mo2⟩ := hp
  have e2 : ∀ b, b ∈ LX → F2 b = F9 b := fun b hb => fr b (hd9 b hb).1 (hd9 b hb).2.1 (hd9 b hb).2.2.1 (hd9 b hb).2.2.2.1
  have dg2 : dg LX F2 K g kd sv kp nn bf := dr.mv dgt (fun b hb => (e2 b hb).trans (e1 b hb))
  have ho2 : F2 o = eL 1 u := (fr o oM oA oQ oC).trans ((fM o oin).trans hu)
  exact zq_icmp_eq hZ (tgt := 2079) dL_law_1360 rfl (by have := fx.2.1; omega) (fun _ => cont _ _ F2 _ _ _ _ (by show k + 0 + 0 ≤ k + 1; omega) (by show n + 0 + 0 ≤ n + 6; omega) ⟨_, _, _, _, _, _, _, _, _, _, u, dg2, mo2, ho2⟩) (fun hne => absurd rfl hne)
set_option maxRecDepth 100000 in
set_option maxHeartbeats 4000000 in
theorem lc_30 (l : Launch) (hfl : l.flags = flags0) {ZZ : ZT} {tbl : List ExceptionTableEntry} {nm ds : String} {Φ : State → Prop} {post : Option Value → List Nat → (Nat → PE) → Prop} {xp : String → List Nat → (Nat → PE) → Prop} (hZ : ZZ = Zq Φ tbl l ⟨"DragonRingLaw", nm, ds⟩ cL_law 9 (some .boolean) room_1 [] post xp) (hΦ : ∀ s, Φ s → va_Nc xS xA s) {b Ls : Nat} {sx : Int → Int} (hsx : ∀ s, Φ s → va_X b Ls (fun j => iI (sx (j : Int))) s s.heap ∧ b < s.heap.size) (hok : ∀ j, -2147483648 ≤ sx j ∧ sx j ≤ 2147483647) {LX : List Nat} {F : Nat → PE} {K : Nat → Nat} {m a q c o : Nat} {i : Int} {k n : Nat} {s5 s6 s7 s8 : Option Value} (hL : LSx LX m a q c o) (hI : LI LX F K m a q c o) (hi : 0 ≤ i ∧ i + 2 < Ls ∧ Ls ≤ 1536) (hk : k + 1 ≤ 601024 ∧ n + 6 ≤ 7293034)
    (cont : ∀ (k2 n2 : Nat) (F2 : Nat → PE) (t5 t6 t7 t8 : Option Value), k2 ≤ k + 1 → n2 ≤ n + 6 → LI LX F2 K m a q c o → ZZ k2 n2 2079 [some (.ref b), some (.ref (K 0)), some (.ref m), some (.ref o), some (.int (iI i)), t5, t6, t7, t8] [] (LX ++ [m, a, q, c, o]) F2) :
    ZZ k n 1365 [some (.ref b), some (.ref (K 0)), some (.ref m), some (.ref o), some (.int (iI i)), s5, s6, s7, s8] [] (LX ++ [m, a, q, c, o]) F := by
  obtain ⟨g, kd, sv, kp, nn, bf, th, pt, tm, sg, u, dgt, mot, hu⟩ := hI
  have fx := dr.fx dgt
  have rg := fx.1.1
  obtain ⟨hd9, oM, oA, oQ, oC⟩ := hL
  have hv := (dr.fx (dg.pre dgt)).1
  have y1 := hok (i + 1)
  have y2 := hok (i + 2)
  have oin : o ∈ [m, a, q, c, o] := by simp
  have hd5 : ∀ b, b ∈ LX → b ≠ o := fun b hb => (hd9 b hb).2.2.2.2
  have mM : m ∈ [m, a, q, c, o] := by simp
  have aM : a ∈ [m, a, q, c, o] := by simp
  have qM : q ∈ [m, a, q, c, o] := by simp
  have cM : c ∈ [m, a, q, c, o] := by simp
  refine zq_aload_n1 hZ dL_law_1365 ?_
  refine zq_cV hZ (As := []) rfl dL_law_1366 ml_L_218 wy_X7_length (pm_fr [m, a, q, c, o] (m_X7_length l dgt)) (List.mem_append_left _ (dr.L dgt 0 (by omega))) (dr.S dgt).2.1 rfl ⟨Nat.le_of_ble_eq_true rfl, Nat.le_of_ble_eq_true rfl⟩ ⟨by show k + 0 ≤ 601024; omega, by show n + 0 ≤ 7293034; omega⟩ (Nat.le_of_ble_eq_true rfl) (fun _ _ _ h => by obtain ⟨_, _, h, _⟩ := h; exact h.elim) (fun v9 L9 F9 hp => ?_)
  obtain ⟨L8, F8, hp, rfl, e1, fM⟩ := hp
  obtain ⟨rfl, rfl, rfl⟩ := hp
  have mot9 := mo.mv (F1 := F9) mot (fM m mM) (fM a aM) (fM q qM) (fM c cM)
  refine zq_aload_n2 hZ dL_law_1369 ?_
  refine zq_cV hZ (As := []) rfl dL_law_1370 ml_L_221 wy_X8_length (m_X8_length l mot9 fx.1) (List.mem_append_right _ mM) mot9.2.1 rfl ⟨Nat.le_of_ble_eq_true rfl, Nat.le_of_ble_eq_true rfl⟩ ⟨by show k + 0 + 0 ≤ 601024; omega, by show n + 0 + 0 ≤ 7293034; omega⟩ (Nat.le_of_ble_eq_true rfl) (fun _ _ _ h => h.elim) (fun v9 L2 F2 hp => ?_)
  obtain ⟨rfl, rfl, fr, mo2⟩ := hp
  have e2 : ∀ b, b ∈ LX → F2 b = F9 b := fun b hb => fr b (hd9 b hb).1 (hd9 b hb).2.1 (hd9 b hb).2.2.1 (hd9 b hb).2.2.2.1
  have dg2 : dg LX F2 K g kd sv kp nn bf := dr.mv dgt (fun b hb => (e2 b hb).trans (e1 b hb))
  have ho2 : F2 o = eL 1 u := (fr o oM oA oQ oC).trans ((fM o oin).trans hu)
  exact zq_icmp_eq hZ (tgt := 2079) dL_law_1373 rfl (by omega) (fun _ => cont _ _ F2 _ _ _ _ (by show k + 0 + 0 ≤ k + 1; omega) (by show n + 0 + 0 ≤ n + 6; omega) ⟨_, _, _, _, _, _, _, _, _, _, u, dg2, mo2, ho2⟩) (fun hne => absurd rfl hne)
set_option maxRecDepth 100000 in
set_option maxHeartbeats 4000000 in
theorem lc_31 (l : Launch) (hfl : l.flags = flags0) {ZZ : ZT} {tbl : List ExceptionTableEntry} {nm ds : String} {Φ : State → Prop} {post : Option Value → List Nat → (Nat → PE) → Prop} {xp : String → List Nat → (Nat → PE) → Prop} (hZ : ZZ = Zq Φ tbl l ⟨"DragonRingLaw", nm, ds⟩ cL_law 9 (some .boolean) room_1 [] post xp) (hΦ : ∀ s, Φ s → va_Nc xS xA s) {b Ls : Nat} {sx : Int → Int} (hsx : ∀ s, Φ s → va_X b Ls (fun j => iI (sx (j : Int))) s s.heap ∧ b < s.heap.size) (hok : ∀ j, -2147483648 ≤ sx j ∧ sx j ≤ 2147483647) {LX : List Nat} {F : Nat → PE} {K : Nat → Nat} {m a q c o : Nat} {i : Int} {k n : Nat} {s5 s6 s7 s8 : Option Value} (hL : LSx LX m a q c o) (hI : LI LX F K m a q c o) (hi : 0 ≤ i ∧ i + 2 < Ls ∧ Ls ≤ 1536) (hk : k + 1 ≤ 601024 ∧ n + 6 ≤ 7293034)
    (cont : ∀ (k2 n2 : Nat) (F2 : Nat → PE) (t5 t6 t7 t8 : Option Value), k2 ≤ k + 1 → n2 ≤ n + 6 → LI LX F2 K m a q c o → ZZ k2 n2 2079 [some (.ref b), some (.ref (K 0)), some (.ref m), some (.ref o), some (.int (iI i)), t5, t6, t7, t8] [] (LX ++ [m, a, q, c, o]) F2) :
    ZZ k n 1378 [some (.ref b), some (.ref (K 0)), some (.ref m), some (.ref o), some (.int (iI i)), s5, s6, s7, s8] [] (LX ++ [m, a, q, c, o]) F := by
  obtain ⟨g, kd, sv, kp, nn, bf, th, pt, tm, sg, u, dgt, mot, hu⟩ := hI
  have fx := dr.fx dgt
  have rg := fx.1.1
  obtain ⟨hd9, oM, oA, oQ, oC⟩ := hL
  have hv := (dr.fx (dg.pre dgt)).1
  have y1 := hok (i + 1)
  have y2 := hok (i + 2)
  have oin : o ∈ [m, a, q, c, o] := by simp
  have hd5 : ∀ b, b ∈ LX → b ≠ o := fun b hb => (hd9 b hb).2.2.2.2
  have mM : m ∈ [m, a, q, c, o] := by simp
  have aM : a ∈ [m, a, q, c, o] := by simp
  have qM : q ∈ [m, a, q, c, o] := by simp
  have cM : c ∈ [m, a, q, c, o] := by simp
  refine zq_aload_n1 hZ dL_law_1378 ?_
  refine zq_aload_n0 hZ dL_law_1379 ?_
  refine zq_iload4 hZ dL_law_1380 ?_
  refine zq_iconst hZ dL_law_1382 ?_
  refine zq_iadd hZ dL_law_1383 ?_
  refine zq_sld hZ hsx rfl dL_law_1384 (by omega) ?_
  refine zq_aload_n3 hZ dL_law_1385 ?_
  refine zq_cSh hZ hΦ (As := [_, _, _]) rfl dL_law_1386 ml_L_222 wy_L_codeAt (m_L_codeAt l (M := [m, a, q, c, o]) hfl (dgt) oin hd5 hu y1) ⟨Nat.le_of_ble_eq_true rfl, Nat.le_of_ble_eq_true rfl⟩ ⟨by show k + 1 ≤ 601024; omega, by show n + 6 ≤ 7293034; omega⟩ (Nat.le_of_ble_eq_true rfl) (fun v9 L9 F9 hp => ?_)
  obtain ⟨rfl, fM, u1, hu1, hX⟩ := hp
  obtain ⟨kk, rfl, hY⟩ : ∃ kk, v9 = some (.int (iI kk)) ∧ ((kk = 0 ∧ (0 ≤ (sx (i + 1)) ∧ (sx (i + 1)) < g 0) ∧ u1 0 = g (18 + (sx (i + 1))) ∧ dr LX F9 K g kd sv (sH g) kp (sQ g) nn bf) ∨ (kk = 1 ∧ ¬ ((0 ≤ (sx (i + 1)) ∧ (sx (i + 1)) < g 0)) ∧ dr LX F9 K g kd sv (sH g) kp (sQ g) nn bf)) := by
    rcases hX with ⟨x1, x2, x3, x4⟩ | ⟨x1, x2, x3⟩
    · exact ⟨0, x2, Or.inl ⟨rfl, x1, x3, x4⟩⟩
    · exact ⟨1, x2, Or.inr ⟨rfl, x1, x3⟩⟩
  have mot9 := mo.mv (F1 := F9) mot (fM m mM (Ne.symm oM)) (fM a aM (Ne.symm oA)) (fM q qM (Ne.symm oQ)) (fM c cM (Ne.symm oC))
  refine zq_istore5 hZ dL_law_1389 (by decide) rfl ?_
  refine zq_aload_n2 hZ dL_law_1391 ?_
  refine zq_aload_n0 hZ dL_law_1392 ?_
  refine zq_iload4 hZ dL_law_1393 ?_
  refine zq_iconst hZ dL_law_1395 ?_
  refine zq_iadd hZ dL_law_1396 ?_
  refine zq_sld hZ hsx rfl dL_law_1397 (by omega) ?_
  refine zq_cV hZ (As := [_]) rfl dL_law_1398 ml_L_224 wy_X8_codeAt (m_X8_codeAt l mot9 fx.1 y1) (List.mem_append_right _ mM) mot9.2.1 rfl ⟨Nat.le_of_ble_eq_true rfl, Nat.le_of_ble_eq_true rfl⟩ ⟨by show k + 1 + 0 ≤ 601024; omega, by show n + 6 + 0 ≤ 7293034; omega⟩ (Nat.le_of_ble_eq_true rfl) (fun _ _ _ h => h.elim) (fun v9 L2 F2 hp => ?_)
  obtain ⟨rfl, fr, hM⟩ := hp
  obtain ⟨bv, rfl, hN9⟩ : ∃ bv, v9 = some (.int (iI bv)) ∧ (((0 ≤ (sx (i + 1)) ∧ (sx (i + 1)) < g 0) ∧ bv = g (18 + (sx (i + 1))) ∧ mo (LX ++ [m, a, q, c, o]) F2 m a q c g sv 0 kd nn pt tm sg kp bf) ∨ (¬ ((0 ≤ (sx (i + 1)) ∧ (sx (i + 1)) < g 0)) ∧ bv = 0 ∧ mo (LX ++ [m, a, q, c, o]) F2 m a q c g sv 1 kd nn pt tm sg kp bf)) := by
    rcases hM with ⟨x1, x2, x3⟩ | ⟨x1, x2, x3⟩
    · exact ⟨_, x2, Or.inl ⟨x1, rfl, x3⟩⟩
    · exact ⟨0, x2, Or.inr ⟨x1, rfl, x3⟩⟩
  have fin : ∃ g2 kd2 sv2 kp2 n2 bf2 pt2 tm2 sg2, dg LX F2 K g2 kd2 sv2 kp2 n2 bf2 ∧ mo (LX ++ [m, a, q, c, o]) F2 m a q c g2 sv2 kk kd2 n2 pt2 tm2 sg2 kp2 bf2 ∧ (kk = 0 → u1 0 = bv) ∧ (0 ≤ kk ∧ kk ≤ 2) ∧ (-2147483648 ≤ bv ∧ bv ≤ 2147483647) := by
    have e2 : ∀ b, b ∈ LX → F2 b = F9 b := fun b hb => fr b (hd9 b hb).1 (hd9 b hb).2.1 (hd9 b hb).2.2.1 (hd9 b hb).2.2.2.1
    rcases hY with ⟨rfl, x1, x2, x3⟩ | ⟨rfl, x1, x3⟩
    · rcases hN9 with ⟨z1, rfl, z3⟩ | ⟨z1, rfl, z3⟩
      · exact ⟨_, _, _, _, _, _, _, _, _, dr.mv x3 e2, z3, fun _ => x2, by omega, by have w := fx.1.2.2.1 (sx (i + 1)) x1.1 x1.2; unfold fT at w; omega⟩
      · exact absurd x1 z1
    · rcases hN9 with ⟨z1, rfl, z3⟩ | ⟨z1, rfl, z3⟩
      · exact absurd z1 x1
      · exact ⟨_, _, _, _, _, _, _, _, _, dr.mv x3 e2, z3, fun w => absurd w (by decide), by omega, by omega⟩
  obtain ⟨g2, kd2, sv2, kp2, n2, bf2, pt2, tm2, sg2, dg2, mo2, hval, hkk, hbv⟩ := fin
  have ho2 : F2 o = eL 1 u1 := (fr o oM oA oQ oC).trans hu1
  have fins : LI LX F2 K m a q c o := ⟨g2, kd2, sv2, kp2, n2, bf2, kk, pt2, tm2, sg2, u1, dg2, mo2, ho2⟩
  refine zq_istore6 hZ dL_law_1401 (by decide) rfl ?_
  refine zq_aload_n2 hZ dL_law_1403 ?_
  refine zq_cV hZ (As := []) rfl dL_law_1404 ml_L_116 wy_X8_thrown (m_X8_thrown l mo2) (List.mem_append_right _ mM) mo2.2.1 rfl ⟨Nat.le_of_ble_eq_true rfl, Nat.le_of_ble_eq_true rfl⟩ ⟨by show k + 1 + 0 + 0 ≤ 601024; omega, by show n + 6 + 0 + 0 ≤ 7293034; omega⟩ (Nat.le_of_ble_eq_true rfl) (fun _ _ _ h => h.elim) (fun v9 L3 F3 hp => ?_)
  obtain ⟨rfl, rfl, rfl⟩ := hp
  refine zq_iload5 hZ dL_law_1407 ?_
  refine zq_icmp_eq hZ (tgt := 1414) dL_law_1409 rfl (by omega) (fun _ => ?_) (fun hne => absurd rfl hne)
  refine zq_iload5 hZ dL_law_1414 ?_
  have done : ∀ t5 t6 t7 t8, ZZ _ _ 1431 [some (.ref b), some (.ref (K 0)), some (.ref m), some (.ref o), some (.int (iI i)), t5, t6, t7, t8] [] (LX ++ [m, a, q, c, o]) F2 := fun t5 t6 t7 t8 => zq_goto hZ (tgt := 2079) dL_law_1431 rfl (cont (k + 1 + 0 + 0) (n + 6 + 0 + 0) F2 t5 t6 t7 t8 (by omega) (by omega) fins)
  refine zq_if_ne hZ (tgt := 1431) dL_law_1416 rfl (by omega) (fun _ => done _ _ _ _) (fun hk0 => ?_)
  refine zq_aload_n3 hZ dL_law_1419 ?_
  refine zq_iconst hZ dL_law_1420 ?_
  refine zq_laload hZ dL_law_1421 (List.mem_append_right _ oin) ho2 ⟨by omega, by omega, by omega⟩ ?_
  refine zq_iload6 hZ dL_law_1422 ?_
  refine zq_i2l hZ dL_law_1424 hbv ?_
  rw [hval hk0]
  refine zq_lcmp hZ dL_law_1425 ?_
  exact zq_if_eq_raw hZ (tgt := 1431) dL_law_1426 rfl (fun _ => done _ _ _ _) (fun hne => absurd ((lg_cmp_eq _ _).mpr rfl) hne)
set_option maxRecDepth 100000 in
set_option maxHeartbeats 4000000 in
theorem lc_32 (l : Launch) (hfl : l.flags = flags0) {ZZ : ZT} {tbl : List ExceptionTableEntry} {nm ds : String} {Φ : State → Prop} {post : Option Value → List Nat → (Nat → PE) → Prop} {xp : String → List Nat → (Nat → PE) → Prop} (hZ : ZZ = Zq Φ tbl l ⟨"DragonRingLaw", nm, ds⟩ cL_law 9 (some .boolean) room_1 [] post xp) (hΦ : ∀ s, Φ s → va_Nc xS xA s) {b Ls : Nat} {sx : Int → Int} (hsx : ∀ s, Φ s → va_X b Ls (fun j => iI (sx (j : Int))) s s.heap ∧ b < s.heap.size) (hok : ∀ j, -2147483648 ≤ sx j ∧ sx j ≤ 2147483647) {LX : List Nat} {F : Nat → PE} {K : Nat → Nat} {m a q c o : Nat} {i : Int} {k n : Nat} {s5 s6 s7 s8 : Option Value} (hL : LSx LX m a q c o) (hI : LI LX F K m a q c o) (hi : 0 ≤ i ∧ i + 2 < Ls ∧ Ls ≤ 1536) (hk : k + 1 ≤ 601024 ∧ n + 6 ≤ 7293034)
    (cont : ∀ (k2 n2 : Nat) (F2 : Nat → PE) (t5 t6 t7 t8 : Option Value), k2 ≤ k + 1 → n2 ≤ n + 6 → LI LX F2 K m a q c o → ZZ k2 n2 2079 [some (.ref b), some (.ref (K 0)), some (.ref m), some (.ref o), some (.int (iI i)), t5, t6, t7, t8] [] (LX ++ [m, a, q, c, o]) F2) :
    ZZ k n 1434 [some (.ref b), some (.ref (K 0)), some (.ref m), some (.ref o), some (.int (iI i)), s5, s6, s7, s8] [] (LX ++ [m, a, q, c, o]) F := by
  obtain ⟨g, kd, sv, kp, nn, bf, th, pt, tm, sg, u, dgt, mot, hu⟩ := hI
  have fx := dr.fx dgt
  have rg := fx.1.1
  obtain ⟨hd9, oM, oA, oQ, oC⟩ := hL
  have hv := (dr.fx (dg.pre dgt)).1
  have y1 := hok (i + 1)
  have y2 := hok (i + 2)
  have oin : o ∈ [m, a, q, c, o] := by simp
  have hd5 : ∀ b, b ∈ LX → b ≠ o := fun b hb => (hd9 b hb).2.2.2.2
  have mM : m ∈ [m, a, q, c, o] := by simp
  have aM : a ∈ [m, a, q, c, o] := by simp
  have qM : q ∈ [m, a, q, c, o] := by simp
  have cM : c ∈ [m, a, q, c, o] := by simp
  refine zq_aload_n1 hZ dL_law_1434 ?_
  refine zq_cV hZ (As := []) rfl dL_law_1435 ml_L_225 wy_X7_point (pm_fr [m, a, q, c, o] (m_X7_point l dgt)) (List.mem_append_left _ (dr.L dgt 0 (by omega))) (dr.S dgt).2.1 rfl ⟨Nat.le_of_ble_eq_true rfl, Nat.le_of_ble_eq_true rfl⟩ ⟨by show k + 0 ≤ 601024; omega, by show n + 0 ≤ 7293034; omega⟩ (Nat.le_of_ble_eq_true rfl) (fun _ _ _ h => by obtain ⟨_, _, h, _⟩ := h; exact h.elim) (fun v9 L9 F9 hp => ?_)
  obtain ⟨L8, F8, hp, rfl, e1, fM⟩ := hp
  obtain ⟨rfl, rfl, rfl⟩ := hp
  have mot9 := mo.mv (F1 := F9) mot (fM m mM) (fM a aM) (fM q qM) (fM c cM)
  refine zq_aload_n2 hZ dL_law_1438 ?_
  refine zq_cV hZ (As := []) rfl dL_law_1439 ml_L_228 wy_X8_point (m_X8_point l mot9 fx.1) (List.mem_append_right _ mM) mot9.2.1 rfl ⟨Nat.le_of_ble_eq_true rfl, Nat.le_of_ble_eq_true rfl⟩ ⟨by show k + 0 + 0 ≤ 601024; omega, by show n + 0 + 0 ≤ 7293034; omega⟩ (Nat.le_of_ble_eq_true rfl) (fun _ _ _ h => h.elim) (fun v9 L2 F2 hp => ?_)
  obtain ⟨rfl, rfl, fr, mo2⟩ := hp
  have e2 : ∀ b, b ∈ LX → F2 b = F9 b := fun b hb => fr b (hd9 b hb).1 (hd9 b hb).2.1 (hd9 b hb).2.2.1 (hd9 b hb).2.2.2.1
  have dg2 : dg LX F2 K g kd sv kp nn bf := dr.mv dgt (fun b hb => (e2 b hb).trans (e1 b hb))
  have ho2 : F2 o = eL 1 u := (fr o oM oA oQ oC).trans ((fM o oin).trans hu)
  exact zq_icmp_eq hZ (tgt := 2079) dL_law_1442 rfl (by omega) (fun _ => cont _ _ F2 _ _ _ _ (by show k + 0 + 0 ≤ k + 1; omega) (by show n + 0 + 0 ≤ n + 6; omega) ⟨_, _, _, _, _, _, _, _, _, _, u, dg2, mo2, ho2⟩) (fun hne => absurd rfl hne)
set_option maxRecDepth 100000 in
set_option maxHeartbeats 4000000 in
theorem lc_33 (l : Launch) (hfl : l.flags = flags0) {ZZ : ZT} {tbl : List ExceptionTableEntry} {nm ds : String} {Φ : State → Prop} {post : Option Value → List Nat → (Nat → PE) → Prop} {xp : String → List Nat → (Nat → PE) → Prop} (hZ : ZZ = Zq Φ tbl l ⟨"DragonRingLaw", nm, ds⟩ cL_law 9 (some .boolean) room_1 [] post xp) (hΦ : ∀ s, Φ s → va_Nc xS xA s) {b Ls : Nat} {sx : Int → Int} (hsx : ∀ s, Φ s → va_X b Ls (fun j => iI (sx (j : Int))) s s.heap ∧ b < s.heap.size) (hok : ∀ j, -2147483648 ≤ sx j ∧ sx j ≤ 2147483647) {LX : List Nat} {F : Nat → PE} {K : Nat → Nat} {m a q c o : Nat} {i : Int} {k n : Nat} {s5 s6 s7 s8 : Option Value} (hL : LSx LX m a q c o) (hI : LI LX F K m a q c o) (hi : 0 ≤ i ∧ i + 2 < Ls ∧ Ls ≤ 1536) (hk : k + 1 ≤ 601024 ∧ n + 6 ≤ 7293034)
    (cont : ∀ (k2 n2 : Nat) (F2 : Nat → PE) (t5 t6 t7 t8 : Option Value), k2 ≤ k + 1 → n2 ≤ n + 6 → LI LX F2 K m a q c o → ZZ k2 n2 2079 [some (.ref b), some (.ref (K 0)), some (.ref m), some (.ref o), some (.int (iI i)), t5, t6, t7, t8] [] (LX ++ [m, a, q, c, o]) F2) :
    ZZ k n 1447 [some (.ref b), some (.ref (K 0)), some (.ref m), some (.ref o), some (.int (iI i)), s5, s6, s7, s8] [] (LX ++ [m, a, q, c, o]) F := by
  obtain ⟨g, kd, sv, kp, nn, bf, th, pt, tm, sg, u, dgt, mot, hu⟩ := hI
  have fx := dr.fx dgt
  have rg := fx.1.1
  obtain ⟨hd9, oM, oA, oQ, oC⟩ := hL
  have hv := (dr.fx (dg.pre dgt)).1
  have y1 := hok (i + 1)
  have y2 := hok (i + 2)
  have oin : o ∈ [m, a, q, c, o] := by simp
  have hd5 : ∀ b, b ∈ LX → b ≠ o := fun b hb => (hd9 b hb).2.2.2.2
  have mM : m ∈ [m, a, q, c, o] := by simp
  have aM : a ∈ [m, a, q, c, o] := by simp
  have qM : q ∈ [m, a, q, c, o] := by simp
  have cM : c ∈ [m, a, q, c, o] := by simp
  refine zq_aload_n1 hZ dL_law_1447 ?_
  refine zq_aload_n3 hZ dL_law_1448 ?_
  refine zq_cSh hZ hΦ (As := [_, _]) rfl dL_law_1449 ml_L_229 wy_L_markAt (m_L_markAt l (M := [m, a, q, c, o]) hfl (dgt) oin hd5 hu) ⟨Nat.le_of_ble_eq_true rfl, Nat.le_of_ble_eq_true rfl⟩ ⟨by show k + 1 ≤ 601024; omega, by show n + 6 ≤ 7293034; omega⟩ (Nat.le_of_ble_eq_true rfl) (fun v9 L9 F9 hp => ?_)
  obtain ⟨rfl, fM, u1, hu1, hX⟩ := hp
  obtain ⟨kk, rfl, hY⟩ : ∃ kk, v9 = some (.int (iI kk)) ∧ ((kk = 0 ∧ g 2 ≠ -1 ∧ u1 0 = g 2 ∧ dr LX F9 K g kd sv (sH g) kp (sQ g) nn bf) ∨ (kk = 1 ∧ ¬ (g 2 ≠ -1) ∧ dr LX F9 K g kd sv (sH g) kp (sQ g) nn bf)) := by
    rcases hX with ⟨x1, x2, x3, x4⟩ | ⟨x1, x2, x3⟩
    · exact ⟨0, x2, Or.inl ⟨rfl, x1, x3, x4⟩⟩
    · exact ⟨1, x2, Or.inr ⟨rfl, x1, x3⟩⟩
  have mot9 := mo.mv (F1 := F9) mot (fM m mM (Ne.symm oM)) (fM a aM (Ne.symm oA)) (fM q qM (Ne.symm oQ)) (fM c cM (Ne.symm oC))
  refine zq_istore5 hZ dL_law_1452 (by decide) rfl ?_
  refine zq_aload_n2 hZ dL_law_1454 ?_
  refine zq_cV hZ (As := []) rfl dL_law_1455 ml_L_231 wy_X8_markAt (m_X8_markAt l mot9 fx.1) (List.mem_append_right _ mM) mot9.2.1 rfl ⟨Nat.le_of_ble_eq_true rfl, Nat.le_of_ble_eq_true rfl⟩ ⟨by show k + 1 + 0 ≤ 601024; omega, by show n + 6 + 0 ≤ 7293034; omega⟩ (Nat.le_of_ble_eq_true rfl) (fun _ _ _ h => h.elim) (fun v9 L2 F2 hp => ?_)
  obtain ⟨rfl, fr, hM⟩ := hp
  obtain ⟨bv, rfl, hN9⟩ : ∃ bv, v9 = some (.int (iI bv)) ∧ ((g 2 ≠ -1 ∧ bv = g 2 ∧ mo (LX ++ [m, a, q, c, o]) F2 m a q c g sv 0 kd nn pt tm sg kp bf) ∨ (¬ (g 2 ≠ -1) ∧ bv = 0 ∧ mo (LX ++ [m, a, q, c, o]) F2 m a q c g sv 1 kd nn pt tm sg kp bf)) := by
    rcases hM with ⟨x1, x2, x3⟩ | ⟨x1, x2, x3⟩
    · exact ⟨_, x2, Or.inl ⟨x1, rfl, x3⟩⟩
    · exact ⟨0, x2, Or.inr ⟨x1, rfl, x3⟩⟩
  have fin : ∃ g2 kd2 sv2 kp2 n2 bf2 pt2 tm2 sg2, dg LX F2 K g2 kd2 sv2 kp2 n2 bf2 ∧ mo (LX ++ [m, a, q, c, o]) F2 m a q c g2 sv2 kk kd2 n2 pt2 tm2 sg2 kp2 bf2 ∧ (kk = 0 → u1 0 = bv) ∧ (0 ≤ kk ∧ kk ≤ 2) ∧ (-2147483648 ≤ bv ∧ bv ≤ 2147483647) := by
    have e2 : ∀ b, b ∈ LX → F2 b = F9 b := fun b hb => fr b (hd9 b hb).1 (hd9 b hb).2.1 (hd9 b hb).2.2.1 (hd9 b hb).2.2.2.1
    rcases hY with ⟨rfl, x1, x2, x3⟩ | ⟨rfl, x1, x3⟩
    · rcases hN9 with ⟨z1, rfl, z3⟩ | ⟨z1, rfl, z3⟩
      · exact ⟨_, _, _, _, _, _, _, _, _, dr.mv x3 e2, z3, fun _ => x2, by omega, by omega⟩
      · exact absurd x1 z1
    · rcases hN9 with ⟨z1, rfl, z3⟩ | ⟨z1, rfl, z3⟩
      · exact absurd z1 x1
      · exact ⟨_, _, _, _, _, _, _, _, _, dr.mv x3 e2, z3, fun w => absurd w (by decide), by omega, by omega⟩
  obtain ⟨g2, kd2, sv2, kp2, n2, bf2, pt2, tm2, sg2, dg2, mo2, hval, hkk, hbv⟩ := fin
  have ho2 : F2 o = eL 1 u1 := (fr o oM oA oQ oC).trans hu1
  have fins : LI LX F2 K m a q c o := ⟨g2, kd2, sv2, kp2, n2, bf2, kk, pt2, tm2, sg2, u1, dg2, mo2, ho2⟩
  refine zq_istore6 hZ dL_law_1458 (by decide) rfl ?_
  refine zq_aload_n2 hZ dL_law_1460 ?_
  refine zq_cV hZ (As := []) rfl dL_law_1461 ml_L_116 wy_X8_thrown (m_X8_thrown l mo2) (List.mem_append_right _ mM) mo2.2.1 rfl ⟨Nat.le_of_ble_eq_true rfl, Nat.le_of_ble_eq_true rfl⟩ ⟨by show k + 1 + 0 + 0 ≤ 601024; omega, by show n + 6 + 0 + 0 ≤ 7293034; omega⟩ (Nat.le_of_ble_eq_true rfl) (fun _ _ _ h => h.elim) (fun v9 L3 F3 hp => ?_)
  obtain ⟨rfl, rfl, rfl⟩ := hp
  refine zq_iload5 hZ dL_law_1464 ?_
  refine zq_icmp_eq hZ (tgt := 1471) dL_law_1466 rfl (by omega) (fun _ => ?_) (fun hne => absurd rfl hne)
  refine zq_iload5 hZ dL_law_1471 ?_
  have done : ∀ t5 t6 t7 t8, ZZ _ _ 1488 [some (.ref b), some (.ref (K 0)), some (.ref m), some (.ref o), some (.int (iI i)), t5, t6, t7, t8] [] (LX ++ [m, a, q, c, o]) F2 := fun t5 t6 t7 t8 => zq_goto hZ (tgt := 2079) dL_law_1488 rfl (cont (k + 1 + 0 + 0) (n + 6 + 0 + 0) F2 t5 t6 t7 t8 (by omega) (by omega) fins)
  refine zq_if_ne hZ (tgt := 1488) dL_law_1473 rfl (by omega) (fun _ => done _ _ _ _) (fun hk0 => ?_)
  refine zq_aload_n3 hZ dL_law_1476 ?_
  refine zq_iconst hZ dL_law_1477 ?_
  refine zq_laload hZ dL_law_1478 (List.mem_append_right _ oin) ho2 ⟨by omega, by omega, by omega⟩ ?_
  refine zq_iload6 hZ dL_law_1479 ?_
  refine zq_i2l hZ dL_law_1481 hbv ?_
  rw [hval hk0]
  refine zq_lcmp hZ dL_law_1482 ?_
  exact zq_if_eq_raw hZ (tgt := 1488) dL_law_1483 rfl (fun _ => done _ _ _ _) (fun hne => absurd ((lg_cmp_eq _ _).mpr rfl) hne)
set_option maxRecDepth 100000 in
set_option maxHeartbeats 4000000 in
theorem lc_34 (l : Launch) (hfl : l.flags = flags0) {ZZ : ZT} {tbl : List ExceptionTableEntry} {nm ds : String} {Φ : State → Prop} {post : Option Value → List Nat → (Nat → PE) → Prop} {xp : String → List Nat → (Nat → PE) → Prop} (hZ : ZZ = Zq Φ tbl l ⟨"DragonRingLaw", nm, ds⟩ cL_law 9 (some .boolean) room_1 [] post xp) (hΦ : ∀ s, Φ s → va_Nc xS xA s) {b Ls : Nat} {sx : Int → Int} (hsx : ∀ s, Φ s → va_X b Ls (fun j => iI (sx (j : Int))) s s.heap ∧ b < s.heap.size) (hok : ∀ j, -2147483648 ≤ sx j ∧ sx j ≤ 2147483647) {LX : List Nat} {F : Nat → PE} {K : Nat → Nat} {m a q c o : Nat} {i : Int} {k n : Nat} {s5 s6 s7 s8 : Option Value} (hL : LSx LX m a q c o) (hI : LI LX F K m a q c o) (hi : 0 ≤ i ∧ i + 2 < Ls ∧ Ls ≤ 1536) (hk : k + 1 ≤ 601024 ∧ n + 6 ≤ 7293034)
    (cont : ∀ (k2 n2 : Nat) (F2 : Nat → PE) (t5 t6 t7 t8 : Option Value), k2 ≤ k + 1 → n2 ≤ n + 6 → LI LX F2 K m a q c o → ZZ k2 n2 2079 [some (.ref b), some (.ref (K 0)), some (.ref m), some (.ref o), some (.int (iI i)), t5, t6, t7, t8] [] (LX ++ [m, a, q, c, o]) F2) :
    ZZ k n 1491 [some (.ref b), some (.ref (K 0)), some (.ref m), some (.ref o), some (.int (iI i)), s5, s6, s7, s8] [] (LX ++ [m, a, q, c, o]) F := by
  obtain ⟨g, kd, sv, kp, nn, bf, th, pt, tm, sg, u, dgt, mot, hu⟩ := hI
  have fx := dr.fx dgt
  have rg := fx.1.1
  obtain ⟨hd9, oM, oA, oQ, oC⟩ := hL
  have hv := (dr.fx (dg.pre dgt)).1
  have y1 := hok (i + 1)
  have y2 := hok (i + 2)
  have oin : o ∈ [m, a, q, c, o] := by simp
  have hd5 : ∀ b, b ∈ LX → b ≠ o := fun b hb => (hd9 b hb).2.2.2.2
  have mM : m ∈ [m, a, q, c, o] := by simp
  have aM : a ∈ [m, a, q, c, o] := by simp
  have qM : q ∈ [m, a, q, c, o] := by simp
  have cM : c ∈ [m, a, q, c, o] := by simp
  refine zq_aload_n1 hZ dL_law_1491 ?_
  refine zq_aload_n3 hZ dL_law_1492 ?_
  refine zq_cSh hZ hΦ (As := [_, _]) rfl dL_law_1493 ml_L_232 wy_L_between (m_L_between l (M := [m, a, q, c, o]) hfl (dgt) oin hd5 hu) ⟨Nat.le_of_ble_eq_true rfl, Nat.le_of_ble_eq_true rfl⟩ ⟨by show k + 1 ≤ 601024; omega, by show n + 6 ≤ 7293034; omega⟩ (Nat.le_of_ble_eq_true rfl) (fun v9 L9 F9 hp => ?_)
  obtain ⟨rfl, fM, u1, hu1, hX⟩ := hp
  obtain ⟨kk, rfl, hY⟩ : ∃ kk, v9 = some (.int (iI kk)) ∧ ((kk = 0 ∧ g 2 ≠ -1 ∧ u1 0 = abI (g 2 - g 1) ∧ dr LX F9 K g kd sv (sH g) kp (sQ g) nn bf) ∨ (kk = 1 ∧ ¬ (g 2 ≠ -1) ∧ dr LX F9 K g kd sv (sH g) kp (sQ g) nn bf)) := by
    rcases hX with ⟨x1, x2, x3, x4⟩ | ⟨x1, x2, x3⟩
    · exact ⟨0, x2, Or.inl ⟨rfl, x1, x3, x4⟩⟩
    · exact ⟨1, x2, Or.inr ⟨rfl, x1, x3⟩⟩
  have mot9 := mo.mv (F1 := F9) mot (fM m mM (Ne.symm oM)) (fM a aM (Ne.symm oA)) (fM q qM (Ne.symm oQ)) (fM c cM (Ne.symm oC))
  refine zq_istore5 hZ dL_law_1496 (by decide) rfl ?_
  refine zq_aload_n2 hZ dL_law_1498 ?_
  refine zq_cV hZ (As := []) rfl dL_law_1499 ml_L_234 wy_X8_between (m_X8_between l mot9 fx.1) (List.mem_append_right _ mM) mot9.2.1 rfl ⟨Nat.le_of_ble_eq_true rfl, Nat.le_of_ble_eq_true rfl⟩ ⟨by show k + 1 + 0 ≤ 601024; omega, by show n + 6 + 0 ≤ 7293034; omega⟩ (Nat.le_of_ble_eq_true rfl) (fun _ _ _ h => h.elim) (fun v9 L2 F2 hp => ?_)
  obtain ⟨rfl, fr, hM⟩ := hp
  obtain ⟨bv, rfl, hN9⟩ : ∃ bv, v9 = some (.int (iI bv)) ∧ ((g 2 ≠ -1 ∧ bv = abI (g 2 - g 1) ∧ mo (LX ++ [m, a, q, c, o]) F2 m a q c g sv 0 kd nn pt tm sg kp bf) ∨ (¬ (g 2 ≠ -1) ∧ bv = 0 ∧ mo (LX ++ [m, a, q, c, o]) F2 m a q c g sv 1 kd nn pt tm sg kp bf)) := by
    rcases hM with ⟨x1, x2, x3⟩ | ⟨x1, x2, x3⟩
    · exact ⟨_, x2, Or.inl ⟨x1, rfl, x3⟩⟩
    · exact ⟨0, x2, Or.inr ⟨x1, rfl, x3⟩⟩
  have fin : ∃ g2 kd2 sv2 kp2 n2 bf2 pt2 tm2 sg2, dg LX F2 K g2 kd2 sv2 kp2 n2 bf2 ∧ mo (LX ++ [m, a, q, c, o]) F2 m a q c g2 sv2 kk kd2 n2 pt2 tm2 sg2 kp2 bf2 ∧ (kk = 0 → u1 0 = bv) ∧ (0 ≤ kk ∧ kk ≤ 2) ∧ (-2147483648 ≤ bv ∧ bv ≤ 2147483647) := by
    have e2 : ∀ b, b ∈ LX → F2 b = F9 b := fun b hb => fr b (hd9 b hb).1 (hd9 b hb).2.1 (hd9 b hb).2.2.1 (hd9 b hb).2.2.2.1
    rcases hY with ⟨rfl, x1, x2, x3⟩ | ⟨rfl, x1, x3⟩
    · rcases hN9 with ⟨z1, rfl, z3⟩ | ⟨z1, rfl, z3⟩
      · exact ⟨_, _, _, _, _, _, _, _, _, dr.mv x3 e2, z3, fun _ => x2, by omega, by have w := abI_rg (a := g 2) (b := g 1) (by omega); omega⟩
      · exact absurd x1 z1
    · rcases hN9 with ⟨z1, rfl, z3⟩ | ⟨z1, rfl, z3⟩
      · exact absurd z1 x1
      · exact ⟨_, _, _, _, _, _, _, _, _, dr.mv x3 e2, z3, fun w => absurd w (by decide), by omega, by omega⟩
  obtain ⟨g2, kd2, sv2, kp2, n2, bf2, pt2, tm2, sg2, dg2, mo2, hval, hkk, hbv⟩ := fin
  have ho2 : F2 o = eL 1 u1 := (fr o oM oA oQ oC).trans hu1
  have fins : LI LX F2 K m a q c o := ⟨g2, kd2, sv2, kp2, n2, bf2, kk, pt2, tm2, sg2, u1, dg2, mo2, ho2⟩
  refine zq_istore6 hZ dL_law_1502 (by decide) rfl ?_
  refine zq_aload_n2 hZ dL_law_1504 ?_
  refine zq_cV hZ (As := []) rfl dL_law_1505 ml_L_116 wy_X8_thrown (m_X8_thrown l mo2) (List.mem_append_right _ mM) mo2.2.1 rfl ⟨Nat.le_of_ble_eq_true rfl, Nat.le_of_ble_eq_true rfl⟩ ⟨by show k + 1 + 0 + 0 ≤ 601024; omega, by show n + 6 + 0 + 0 ≤ 7293034; omega⟩ (Nat.le_of_ble_eq_true rfl) (fun _ _ _ h => h.elim) (fun v9 L3 F3 hp => ?_)
  obtain ⟨rfl, rfl, rfl⟩ := hp
  refine zq_iload5 hZ dL_law_1508 ?_
  refine zq_icmp_eq hZ (tgt := 1515) dL_law_1510 rfl (by omega) (fun _ => ?_) (fun hne => absurd rfl hne)
  refine zq_iload5 hZ dL_law_1515 ?_
  have done : ∀ t5 t6 t7 t8, ZZ _ _ 1532 [some (.ref b), some (.ref (K 0)), some (.ref m), some (.ref o), some (.int (iI i)), t5, t6, t7, t8] [] (LX ++ [m, a, q, c, o]) F2 := fun t5 t6 t7 t8 => zq_goto hZ (tgt := 2079) dL_law_1532 rfl (cont (k + 1 + 0 + 0) (n + 6 + 0 + 0) F2 t5 t6 t7 t8 (by omega) (by omega) fins)
  refine zq_if_ne hZ (tgt := 1532) dL_law_1517 rfl (by omega) (fun _ => done _ _ _ _) (fun hk0 => ?_)
  refine zq_aload_n3 hZ dL_law_1520 ?_
  refine zq_iconst hZ dL_law_1521 ?_
  refine zq_laload hZ dL_law_1522 (List.mem_append_right _ oin) ho2 ⟨by omega, by omega, by omega⟩ ?_
  refine zq_iload6 hZ dL_law_1523 ?_
  refine zq_i2l hZ dL_law_1525 hbv ?_
  rw [hval hk0]
  refine zq_lcmp hZ dL_law_1526 ?_
  exact zq_if_eq_raw hZ (tgt := 1532) dL_law_1527 rfl (fun _ => done _ _ _ _) (fun hne => absurd ((lg_cmp_eq _ _).mpr rfl) hne)
set_option maxRecDepth 100000 in
set_option maxHeartbeats 4000000 in
theorem lc_35 (l : Launch) (hfl : l.flags = flags0) {ZZ : ZT} {tbl : List ExceptionTableEntry} {nm ds : String} {Φ : State → Prop} {post : Option Value → List Nat → (Nat → PE) → Prop} {xp : String → List Nat → (Nat → PE) → Prop} (hZ : ZZ = Zq Φ tbl l ⟨"DragonRingLaw", nm, ds⟩ cL_law 9 (some .boolean) room_1 [] post xp) (hΦ : ∀ s, Φ s → va_Nc xS xA s) {b Ls : Nat} {sx : Int → Int} (hsx : ∀ s, Φ s → va_X b Ls (fun j => iI (sx (j : Int))) s s.heap ∧ b < s.heap.size) (hok : ∀ j, -2147483648 ≤ sx j ∧ sx j ≤ 2147483647) {LX : List Nat} {F : Nat → PE} {K : Nat → Nat} {m a q c o : Nat} {i : Int} {k n : Nat} {s5 s6 s7 s8 : Option Value} (hL : LSx LX m a q c o) (hI : LI LX F K m a q c o) (hi : 0 ≤ i ∧ i + 2 < Ls ∧ Ls ≤ 1536) (hk : k + 1 ≤ 601024 ∧ n + 6 ≤ 7293034)
    (cont : ∀ (k2 n2 : Nat) (F2 : Nat → PE) (t5 t6 t7 t8 : Option Value), k2 ≤ k + 1 → n2 ≤ n + 6 → LI LX F2 K m a q c o → ZZ k2 n2 2079 [some (.ref b), some (.ref (K 0)), some (.ref m), some (.ref o), some (.int (iI i)), t5, t6, t7, t8] [] (LX ++ [m, a, q, c, o]) F2) :
    ZZ k n 1535 [some (.ref b), some (.ref (K 0)), some (.ref m), some (.ref o), some (.int (iI i)), s5, s6, s7, s8] [] (LX ++ [m, a, q, c, o]) F := by
  obtain ⟨g, kd, sv, kp, nn, bf, th, pt, tm, sg, u, dgt, mot, hu⟩ := hI
  have fx := dr.fx dgt
  have rg := fx.1.1
  obtain ⟨hd9, oM, oA, oQ, oC⟩ := hL
  have hv := (dr.fx (dg.pre dgt)).1
  have y1 := hok (i + 1)
  have y2 := hok (i + 2)
  have oin : o ∈ [m, a, q, c, o] := by simp
  have hd5 : ∀ b, b ∈ LX → b ≠ o := fun b hb => (hd9 b hb).2.2.2.2
  have mM : m ∈ [m, a, q, c, o] := by simp
  have aM : a ∈ [m, a, q, c, o] := by simp
  have qM : q ∈ [m, a, q, c, o] := by simp
  have cM : c ∈ [m, a, q, c, o] := by simp
  refine zq_aload_n1 hZ dL_law_1535 ?_
  refine zq_cV hZ (As := []) rfl dL_law_1536 ml_L_235 wy_X7_linesByEnds (pm_fr [m, a, q, c, o] (m_X7_linesByEnds l dgt)) (List.mem_append_left _ (dr.L dgt 0 (by omega))) (dr.S dgt).2.1 rfl ⟨Nat.le_of_ble_eq_true rfl, Nat.le_of_ble_eq_true rfl⟩ ⟨by show k + 0 ≤ 601024; omega, by show n + 0 ≤ 7293034; omega⟩ (Nat.le_of_ble_eq_true rfl) (fun _ _ _ h => by obtain ⟨_, _, h, _⟩ := h; exact h.elim) (fun v9 L9 F9 hp => ?_)
  obtain ⟨L8, F8, hp, rfl, e1, fM⟩ := hp
  obtain ⟨rfl, rfl, rfl⟩ := hp
  have mot9 := mo.mv (F1 := F9) mot (fM m mM) (fM a aM) (fM q qM) (fM c cM)
  refine zq_aload_n2 hZ dL_law_1539 ?_
  refine zq_cV hZ (As := []) rfl dL_law_1540 ml_L_238 wy_X8_linesByEnds (m_X8_linesByEnds l mot9 fx.1) (List.mem_append_right _ mM) mot9.2.1 rfl ⟨Nat.le_of_ble_eq_true rfl, Nat.le_of_ble_eq_true rfl⟩ ⟨by show k + 0 + 0 ≤ 601024; omega, by show n + 0 + 0 ≤ 7293034; omega⟩ (Nat.le_of_ble_eq_true rfl) (fun _ _ _ h => h.elim) (fun v9 L2 F2 hp => ?_)
  obtain ⟨rfl, rfl, fr, mo2⟩ := hp
  have e2 : ∀ b, b ∈ LX → F2 b = F9 b := fun b hb => fr b (hd9 b hb).1 (hd9 b hb).2.1 (hd9 b hb).2.2.1 (hd9 b hb).2.2.2.1
  have dg2 : dg LX F2 K g kd sv kp nn bf := dr.mv dgt (fun b hb => (e2 b hb).trans (e1 b hb))
  have ho2 : F2 o = eL 1 u := (fr o oM oA oQ oC).trans ((fM o oin).trans hu)
  exact zq_icmp_eq hZ (tgt := 2079) dL_law_1543 rfl (by have w := cn_rg (P := isE (g 0) (fT g)) (g 0).toNat; unfold lnA; omega) (fun _ => cont _ _ F2 _ _ _ _ (by show k + 0 + 0 ≤ k + 1; omega) (by show n + 0 + 0 ≤ n + 6; omega) ⟨_, _, _, _, _, _, _, _, _, _, u, dg2, mo2, ho2⟩) (fun hne => absurd rfl hne)
set_option maxRecDepth 100000 in
set_option maxHeartbeats 4000000 in
theorem lc_36 (l : Launch) (hfl : l.flags = flags0) {ZZ : ZT} {tbl : List ExceptionTableEntry} {nm ds : String} {Φ : State → Prop} {post : Option Value → List Nat → (Nat → PE) → Prop} {xp : String → List Nat → (Nat → PE) → Prop} (hZ : ZZ = Zq Φ tbl l ⟨"DragonRingLaw", nm, ds⟩ cL_law 9 (some .boolean) room_1 [] post xp) (hΦ : ∀ s, Φ s → va_Nc xS xA s) {b Ls : Nat} {sx : Int → Int} (hsx : ∀ s, Φ s → va_X b Ls (fun j => iI (sx (j : Int))) s s.heap ∧ b < s.heap.size) (hok : ∀ j, -2147483648 ≤ sx j ∧ sx j ≤ 2147483647) {LX : List Nat} {F : Nat → PE} {K : Nat → Nat} {m a q c o : Nat} {i : Int} {k n : Nat} {s5 s6 s7 s8 : Option Value} (hL : LSx LX m a q c o) (hI : LI LX F K m a q c o) (hi : 0 ≤ i ∧ i + 2 < Ls ∧ Ls ≤ 1536) (hk : k + 1 ≤ 601024 ∧ n + 6 ≤ 7293034)
    (cont : ∀ (k2 n2 : Nat) (F2 : Nat → PE) (t5 t6 t7 t8 : Option Value), k2 ≤ k + 1 → n2 ≤ n + 6 → LI LX F2 K m a q c o → ZZ k2 n2 2079 [some (.ref b), some (.ref (K 0)), some (.ref m), some (.ref o), some (.int (iI i)), t5, t6, t7, t8] [] (LX ++ [m, a, q, c, o]) F2) :
    ZZ k n 1548 [some (.ref b), some (.ref (K 0)), some (.ref m), some (.ref o), some (.int (iI i)), s5, s6, s7, s8] [] (LX ++ [m, a, q, c, o]) F := by
  obtain ⟨g, kd, sv, kp, nn, bf, th, pt, tm, sg, u, dgt, mot, hu⟩ := hI
  have fx := dr.fx dgt
  have rg := fx.1.1
  obtain ⟨hd9, oM, oA, oQ, oC⟩ := hL
  have hv := (dr.fx (dg.pre dgt)).1
  have y1 := hok (i + 1)
  have y2 := hok (i + 2)
  have oin : o ∈ [m, a, q, c, o] := by simp
  have hd5 : ∀ b, b ∈ LX → b ≠ o := fun b hb => (hd9 b hb).2.2.2.2
  have mM : m ∈ [m, a, q, c, o] := by simp
  have aM : a ∈ [m, a, q, c, o] := by simp
  have qM : q ∈ [m, a, q, c, o] := by simp
  have cM : c ∈ [m, a, q, c, o] := by simp
  refine zq_aload_n1 hZ dL_law_1548 ?_
  refine zq_cV hZ (As := []) rfl dL_law_1549 ml_L_239 wy_X7_linesByGoing (pm_fr [m, a, q, c, o] (m_X7_linesByGoing l dgt)) (List.mem_append_left _ (dr.L dgt 0 (by omega))) (dr.S dgt).2.1 rfl ⟨Nat.le_of_ble_eq_true rfl, Nat.le_of_ble_eq_true rfl⟩ ⟨by show k + 0 ≤ 601024; omega, by show n + 0 ≤ 7293034; omega⟩ (Nat.le_of_ble_eq_true rfl) (fun _ _ _ h => by obtain ⟨_, _, h, _⟩ := h; exact h.elim) (fun v9 L9 F9 hp => ?_)
  obtain ⟨L8, F8, hp, rfl, e1, fM⟩ := hp
  obtain ⟨rfl, rfl, rfl⟩ := hp
  have mot9 := mo.mv (F1 := F9) mot (fM m mM) (fM a aM) (fM q qM) (fM c cM)
  refine zq_aload_n2 hZ dL_law_1552 ?_
  refine zq_cV hZ (As := []) rfl dL_law_1553 ml_L_242 wy_X8_linesByGoing (m_X8_linesByGoing l mot9 fx.1) (List.mem_append_right _ mM) mot9.2.1 rfl ⟨Nat.le_of_ble_eq_true rfl, Nat.le_of_ble_eq_true rfl⟩ ⟨by show k + 0 + 0 ≤ 601024; omega, by show n + 0 + 0 ≤ 7293034; omega⟩ (Nat.le_of_ble_eq_true rfl) (fun _ _ _ h => h.elim) (fun v9 L2 F2 hp => ?_)
  obtain ⟨rfl, rfl, fr, mo2⟩ := hp
  have e2 : ∀ b, b ∈ LX → F2 b = F9 b := fun b hb => fr b (hd9 b hb).1 (hd9 b hb).2.1 (hd9 b hb).2.2.1 (hd9 b hb).2.2.2.1
  have dg2 : dg LX F2 K g kd sv kp nn bf := dr.mv dgt (fun b hb => (e2 b hb).trans (e1 b hb))
  have ho2 : F2 o = eL 1 u := (fr o oM oA oQ oC).trans ((fM o oin).trans hu)
  exact zq_icmp_eq hZ (tgt := 2079) dL_law_1556 rfl (by have w := cn_rg (P := isE (g 0) (fT g)) (g 0).toNat; unfold lnA; omega) (fun _ => cont _ _ F2 _ _ _ _ (by show k + 0 + 0 ≤ k + 1; omega) (by show n + 0 + 0 ≤ n + 6; omega) ⟨_, _, _, _, _, _, _, _, _, _, u, dg2, mo2, ho2⟩) (fun hne => absurd rfl hne)
set_option maxRecDepth 100000 in
set_option maxHeartbeats 4000000 in
theorem lc_37 (l : Launch) (hfl : l.flags = flags0) {ZZ : ZT} {tbl : List ExceptionTableEntry} {nm ds : String} {Φ : State → Prop} {post : Option Value → List Nat → (Nat → PE) → Prop} {xp : String → List Nat → (Nat → PE) → Prop} (hZ : ZZ = Zq Φ tbl l ⟨"DragonRingLaw", nm, ds⟩ cL_law 9 (some .boolean) room_1 [] post xp) (hΦ : ∀ s, Φ s → va_Nc xS xA s) {b Ls : Nat} {sx : Int → Int} (hsx : ∀ s, Φ s → va_X b Ls (fun j => iI (sx (j : Int))) s s.heap ∧ b < s.heap.size) (hok : ∀ j, -2147483648 ≤ sx j ∧ sx j ≤ 2147483647) {LX : List Nat} {F : Nat → PE} {K : Nat → Nat} {m a q c o : Nat} {i : Int} {k n : Nat} {s5 s6 s7 s8 : Option Value} (hL : LSx LX m a q c o) (hI : LI LX F K m a q c o) (hi : 0 ≤ i ∧ i + 2 < Ls ∧ Ls ≤ 1536) (hk : k + 1 ≤ 601024 ∧ n + 6 ≤ 7293034)
    (cont : ∀ (k2 n2 : Nat) (F2 : Nat → PE) (t5 t6 t7 t8 : Option Value), k2 ≤ k + 1 → n2 ≤ n + 6 → LI LX F2 K m a q c o → ZZ k2 n2 2079 [some (.ref b), some (.ref (K 0)), some (.ref m), some (.ref o), some (.int (iI i)), t5, t6, t7, t8] [] (LX ++ [m, a, q, c, o]) F2) :
    ZZ k n 1561 [some (.ref b), some (.ref (K 0)), some (.ref m), some (.ref o), some (.int (iI i)), s5, s6, s7, s8] [] (LX ++ [m, a, q, c, o]) F := by
  obtain ⟨g, kd, sv, kp, nn, bf, th, pt, tm, sg, u, dgt, mot, hu⟩ := hI
  have fx := dr.fx dgt
  have rg := fx.1.1
  obtain ⟨hd9, oM, oA, oQ, oC⟩ := hL
  have hv := (dr.fx (dg.pre dgt)).1
  have y1 := hok (i + 1)
  have y2 := hok (i + 2)
  have oin : o ∈ [m, a, q, c, o] := by simp
  have hd5 : ∀ b, b ∈ LX → b ≠ o := fun b hb => (hd9 b hb).2.2.2.2
  have mM : m ∈ [m, a, q, c, o] := by simp
  have aM : a ∈ [m, a, q, c, o] := by simp
  have qM : q ∈ [m, a, q, c, o] := by simp
  have cM : c ∈ [m, a, q, c, o] := by simp
  refine zq_aload_n1 hZ dL_law_1561 ?_
  refine zq_cV hZ (As := []) rfl dL_law_1562 ml_L_243 wy_X7_line (pm_fr [m, a, q, c, o] (m_X7_line l dgt)) (List.mem_append_left _ (dr.L dgt 0 (by omega))) (dr.S dgt).2.1 rfl ⟨Nat.le_of_ble_eq_true rfl, Nat.le_of_ble_eq_true rfl⟩ ⟨by show k + 0 ≤ 601024; omega, by show n + 0 ≤ 7293034; omega⟩ (Nat.le_of_ble_eq_true rfl) (fun _ _ _ h => by obtain ⟨_, _, h, _⟩ := h; exact h.elim) (fun v9 L9 F9 hp => ?_)
  obtain ⟨L8, F8, hp, rfl, e1, fM⟩ := hp
  obtain ⟨rfl, rfl, rfl⟩ := hp
  have mot9 := mo.mv (F1 := F9) mot (fM m mM) (fM a aM) (fM q qM) (fM c cM)
  refine zq_aload_n2 hZ dL_law_1565 ?_
  refine zq_cV hZ (As := []) rfl dL_law_1566 ml_L_246 wy_X8_line (m_X8_line l mot9 fx.1) (List.mem_append_right _ mM) mot9.2.1 rfl ⟨Nat.le_of_ble_eq_true rfl, Nat.le_of_ble_eq_true rfl⟩ ⟨by show k + 0 + 0 ≤ 601024; omega, by show n + 0 + 0 ≤ 7293034; omega⟩ (Nat.le_of_ble_eq_true rfl) (fun _ _ _ h => h.elim) (fun v9 L2 F2 hp => ?_)
  obtain ⟨rfl, rfl, fr, mo2⟩ := hp
  have e2 : ∀ b, b ∈ LX → F2 b = F9 b := fun b hb => fr b (hd9 b hb).1 (hd9 b hb).2.1 (hd9 b hb).2.2.1 (hd9 b hb).2.2.2.1
  have dg2 : dg LX F2 K g kd sv kp nn bf := dr.mv dgt (fun b hb => (e2 b hb).trans (e1 b hb))
  have ho2 : F2 o = eL 1 u := (fr o oM oA oQ oC).trans ((fM o oin).trans hu)
  exact zq_icmp_eq hZ (tgt := 2079) dL_law_1569 rfl (by have w := cn_rg (P := isE (g 0) (fT g)) (g 1).toNat; unfold liA; omega) (fun _ => cont _ _ F2 _ _ _ _ (by show k + 0 + 0 ≤ k + 1; omega) (by show n + 0 + 0 ≤ n + 6; omega) ⟨_, _, _, _, _, _, _, _, _, _, u, dg2, mo2, ho2⟩) (fun hne => absurd rfl hne)
set_option maxRecDepth 100000 in
set_option maxHeartbeats 4000000 in
theorem lc_38 (l : Launch) (hfl : l.flags = flags0) {ZZ : ZT} {tbl : List ExceptionTableEntry} {nm ds : String} {Φ : State → Prop} {post : Option Value → List Nat → (Nat → PE) → Prop} {xp : String → List Nat → (Nat → PE) → Prop} (hZ : ZZ = Zq Φ tbl l ⟨"DragonRingLaw", nm, ds⟩ cL_law 9 (some .boolean) room_1 [] post xp) (hΦ : ∀ s, Φ s → va_Nc xS xA s) {b Ls : Nat} {sx : Int → Int} (hsx : ∀ s, Φ s → va_X b Ls (fun j => iI (sx (j : Int))) s s.heap ∧ b < s.heap.size) (hok : ∀ j, -2147483648 ≤ sx j ∧ sx j ≤ 2147483647) {LX : List Nat} {F : Nat → PE} {K : Nat → Nat} {m a q c o : Nat} {i : Int} {k n : Nat} {s5 s6 s7 s8 : Option Value} (hL : LSx LX m a q c o) (hI : LI LX F K m a q c o) (hi : 0 ≤ i ∧ i + 2 < Ls ∧ Ls ≤ 1536) (hk : k + 1 ≤ 601024 ∧ n + 6 ≤ 7293034)
    (cont : ∀ (k2 n2 : Nat) (F2 : Nat → PE) (t5 t6 t7 t8 : Option Value), k2 ≤ k + 1 → n2 ≤ n + 6 → LI LX F2 K m a q c o → ZZ k2 n2 2079 [some (.ref b), some (.ref (K 0)), some (.ref m), some (.ref o), some (.int (iI i)), t5, t6, t7, t8] [] (LX ++ [m, a, q, c, o]) F2) :
    ZZ k n 1574 [some (.ref b), some (.ref (K 0)), some (.ref m), some (.ref o), some (.int (iI i)), s5, s6, s7, s8] [] (LX ++ [m, a, q, c, o]) F := by
  obtain ⟨g, kd, sv, kp, nn, bf, th, pt, tm, sg, u, dgt, mot, hu⟩ := hI
  have fx := dr.fx dgt
  have rg := fx.1.1
  obtain ⟨hd9, oM, oA, oQ, oC⟩ := hL
  have hv := (dr.fx (dg.pre dgt)).1
  have y1 := hok (i + 1)
  have y2 := hok (i + 2)
  have oin : o ∈ [m, a, q, c, o] := by simp
  have hd5 : ∀ b, b ∈ LX → b ≠ o := fun b hb => (hd9 b hb).2.2.2.2
  have mM : m ∈ [m, a, q, c, o] := by simp
  have aM : a ∈ [m, a, q, c, o] := by simp
  have qM : q ∈ [m, a, q, c, o] := by simp
  have cM : c ∈ [m, a, q, c, o] := by simp
  refine zq_aload_n1 hZ dL_law_1574 ?_
  refine zq_cV hZ (As := []) rfl dL_law_1575 ml_L_247 wy_X7_column (pm_fr [m, a, q, c, o] (m_X7_column l dgt)) (List.mem_append_left _ (dr.L dgt 0 (by omega))) (dr.S dgt).2.1 rfl ⟨Nat.le_of_ble_eq_true rfl, Nat.le_of_ble_eq_true rfl⟩ ⟨by show k + 0 ≤ 601024; omega, by show n + 0 ≤ 7293034; omega⟩ (Nat.le_of_ble_eq_true rfl) (fun _ _ _ h => by obtain ⟨_, _, h, _⟩ := h; exact h.elim) (fun v9 L9 F9 hp => ?_)
  obtain ⟨L8, F8, hp, rfl, e1, fM⟩ := hp
  obtain ⟨rfl, rfl, rfl⟩ := hp
  have mot9 := mo.mv (F1 := F9) mot (fM m mM) (fM a aM) (fM q qM) (fM c cM)
  refine zq_aload_n2 hZ dL_law_1578 ?_
  refine zq_cV hZ (As := []) rfl dL_law_1579 ml_L_250 wy_X8_column (m_X8_column l mot9 fx.1) (List.mem_append_right _ mM) mot9.2.1 rfl ⟨Nat.le_of_ble_eq_true rfl, Nat.le_of_ble_eq_true rfl⟩ ⟨by show k + 0 + 0 ≤ 601024; omega, by show n + 0 + 0 ≤ 7293034; omega⟩ (Nat.le_of_ble_eq_true rfl) (fun _ _ _ h => h.elim) (fun v9 L2 F2 hp => ?_)
  obtain ⟨rfl, rfl, fr, mo2⟩ := hp
  have e2 : ∀ b, b ∈ LX → F2 b = F9 b := fun b hb => fr b (hd9 b hb).1 (hd9 b hb).2.1 (hd9 b hb).2.2.1 (hd9 b hb).2.2.2.1
  have dg2 : dg LX F2 K g kd sv kp nn bf := dr.mv dgt (fun b hb => (e2 b hb).trans (e1 b hb))
  have ho2 : F2 o = eL 1 u := (fr o oM oA oQ oC).trans ((fM o oin).trans hu)
  exact zq_icmp_eq hZ (tgt := 2079) dL_law_1582 rfl (by have w := lB_rg (n := g 0) (f := fT g) (p := g 1) (by omega); omega) (fun _ => cont _ _ F2 _ _ _ _ (by show k + 0 + 0 ≤ k + 1; omega) (by show n + 0 + 0 ≤ n + 6; omega) ⟨_, _, _, _, _, _, _, _, _, _, u, dg2, mo2, ho2⟩) (fun hne => absurd rfl hne)
set_option maxRecDepth 100000 in
set_option maxHeartbeats 4000000 in
theorem lc_39 (l : Launch) (hfl : l.flags = flags0) {ZZ : ZT} {tbl : List ExceptionTableEntry} {nm ds : String} {Φ : State → Prop} {post : Option Value → List Nat → (Nat → PE) → Prop} {xp : String → List Nat → (Nat → PE) → Prop} (hZ : ZZ = Zq Φ tbl l ⟨"DragonRingLaw", nm, ds⟩ cL_law 9 (some .boolean) room_1 [] post xp) (hΦ : ∀ s, Φ s → va_Nc xS xA s) {b Ls : Nat} {sx : Int → Int} (hsx : ∀ s, Φ s → va_X b Ls (fun j => iI (sx (j : Int))) s s.heap ∧ b < s.heap.size) (hok : ∀ j, -2147483648 ≤ sx j ∧ sx j ≤ 2147483647) {LX : List Nat} {F : Nat → PE} {K : Nat → Nat} {m a q c o : Nat} {i : Int} {k n : Nat} {s5 s6 s7 s8 : Option Value} (hL : LSx LX m a q c o) (hI : LI LX F K m a q c o) (hi : 0 ≤ i ∧ i + 2 < Ls ∧ Ls ≤ 1536) (hk : k + 1 ≤ 601024 ∧ n + 6 ≤ 7293034)
    (cont : ∀ (k2 n2 : Nat) (F2 : Nat → PE) (t5 t6 t7 t8 : Option Value), k2 ≤ k + 1 → n2 ≤ n + 6 → LI LX F2 K m a q c o → ZZ k2 n2 2079 [some (.ref b), some (.ref (K 0)), some (.ref m), some (.ref o), some (.int (iI i)), t5, t6, t7, t8] [] (LX ++ [m, a, q, c, o]) F2) :
    ZZ k n 1587 [some (.ref b), some (.ref (K 0)), some (.ref m), some (.ref o), some (.int (iI i)), s5, s6, s7, s8] [] (LX ++ [m, a, q, c, o]) F := by
  obtain ⟨g, kd, sv, kp, nn, bf, th, pt, tm, sg, u, dgt, mot, hu⟩ := hI
  have fx := dr.fx dgt
  have rg := fx.1.1
  obtain ⟨hd9, oM, oA, oQ, oC⟩ := hL
  have hv := (dr.fx (dg.pre dgt)).1
  have y1 := hok (i + 1)
  have y2 := hok (i + 2)
  have oin : o ∈ [m, a, q, c, o] := by simp
  have hd5 : ∀ b, b ∈ LX → b ≠ o := fun b hb => (hd9 b hb).2.2.2.2
  have mM : m ∈ [m, a, q, c, o] := by simp
  have aM : a ∈ [m, a, q, c, o] := by simp
  have qM : q ∈ [m, a, q, c, o] := by simp
  have cM : c ∈ [m, a, q, c, o] := by simp
  refine zq_aload_n1 hZ dL_law_1587 ?_
  refine zq_cV hZ (As := []) rfl dL_law_1588 ml_L_251 wy_X7_longestLine (pm_fr [m, a, q, c, o] (m_X7_longestLine l dgt)) (List.mem_append_left _ (dr.L dgt 0 (by omega))) (dr.S dgt).2.1 rfl ⟨Nat.le_of_ble_eq_true rfl, Nat.le_of_ble_eq_true rfl⟩ ⟨by show k + 0 ≤ 601024; omega, by show n + 0 ≤ 7293034; omega⟩ (Nat.le_of_ble_eq_true rfl) (fun _ _ _ h => by obtain ⟨_, _, h, _⟩ := h; exact h.elim) (fun v9 L9 F9 hp => ?_)
  obtain ⟨L8, F8, hp, rfl, e1, fM⟩ := hp
  obtain ⟨rfl, rfl, rfl⟩ := hp
  have mot9 := mo.mv (F1 := F9) mot (fM m mM) (fM a aM) (fM q qM) (fM c cM)
  refine zq_aload_n2 hZ dL_law_1591 ?_
  refine zq_cV hZ (As := []) rfl dL_law_1592 ml_L_254 wy_X8_longestLine (m_X8_longestLine l mot9 fx.1) (List.mem_append_right _ mM) mot9.2.1 rfl ⟨Nat.le_of_ble_eq_true rfl, Nat.le_of_ble_eq_true rfl⟩ ⟨by show k + 0 + 0 ≤ 601024; omega, by show n + 0 + 0 ≤ 7293034; omega⟩ (Nat.le_of_ble_eq_true rfl) (fun _ _ _ h => h.elim) (fun v9 L2 F2 hp => ?_)
  obtain ⟨rfl, rfl, fr, mo2⟩ := hp
  have e2 : ∀ b, b ∈ LX → F2 b = F9 b := fun b hb => fr b (hd9 b hb).1 (hd9 b hb).2.1 (hd9 b hb).2.2.1 (hd9 b hb).2.2.2.1
  have dg2 : dg LX F2 K g kd sv kp nn bf := dr.mv dgt (fun b hb => (e2 b hb).trans (e1 b hb))
  have ho2 : F2 o = eL 1 u := (fr o oM oA oQ oC).trans ((fM o oin).trans hu)
  exact zq_icmp_eq hZ (tgt := 2079) dL_law_1595 rfl (by have w := mxL_rg (n := g 0) (f := fT g) (g 0 + 1).toNat (by omega); unfold loA; omega) (fun _ => cont _ _ F2 _ _ _ _ (by show k + 0 + 0 ≤ k + 1; omega) (by show n + 0 + 0 ≤ n + 6; omega) ⟨_, _, _, _, _, _, _, _, _, _, u, dg2, mo2, ho2⟩) (fun hne => absurd rfl hne)
set_option maxRecDepth 100000 in
set_option maxHeartbeats 4000000 in
theorem lc_40 (l : Launch) (hfl : l.flags = flags0) {ZZ : ZT} {tbl : List ExceptionTableEntry} {nm ds : String} {Φ : State → Prop} {post : Option Value → List Nat → (Nat → PE) → Prop} {xp : String → List Nat → (Nat → PE) → Prop} (hZ : ZZ = Zq Φ tbl l ⟨"DragonRingLaw", nm, ds⟩ cL_law 9 (some .boolean) room_1 [] post xp) (hΦ : ∀ s, Φ s → va_Nc xS xA s) {b Ls : Nat} {sx : Int → Int} (hsx : ∀ s, Φ s → va_X b Ls (fun j => iI (sx (j : Int))) s s.heap ∧ b < s.heap.size) (hok : ∀ j, -2147483648 ≤ sx j ∧ sx j ≤ 2147483647) {LX : List Nat} {F : Nat → PE} {K : Nat → Nat} {m a q c o : Nat} {i : Int} {k n : Nat} {s5 s6 s7 s8 : Option Value} (hL : LSx LX m a q c o) (hI : LI LX F K m a q c o) (hi : 0 ≤ i ∧ i + 2 < Ls ∧ Ls ≤ 1536) (hk : k + 1 ≤ 601024 ∧ n + 6 ≤ 7293034)
    (cont : ∀ (k2 n2 : Nat) (F2 : Nat → PE) (t5 t6 t7 t8 : Option Value), k2 ≤ k + 1 → n2 ≤ n + 6 → LI LX F2 K m a q c o → ZZ k2 n2 2079 [some (.ref b), some (.ref (K 0)), some (.ref m), some (.ref o), some (.int (iI i)), t5, t6, t7, t8] [] (LX ++ [m, a, q, c, o]) F2) :
    ZZ k n 1600 [some (.ref b), some (.ref (K 0)), some (.ref m), some (.ref o), some (.int (iI i)), s5, s6, s7, s8] [] (LX ++ [m, a, q, c, o]) F := by
  obtain ⟨g, kd, sv, kp, nn, bf, th, pt, tm, sg, u, dgt, mot, hu⟩ := hI
  have fx := dr.fx dgt
  have rg := fx.1.1
  obtain ⟨hd9, oM, oA, oQ, oC⟩ := hL
  have hv := (dr.fx (dg.pre dgt)).1
  have y1 := hok (i + 1)
  have y2 := hok (i + 2)
  have oin : o ∈ [m, a, q, c, o] := by simp
  have hd5 : ∀ b, b ∈ LX → b ≠ o := fun b hb => (hd9 b hb).2.2.2.2
  have mM : m ∈ [m, a, q, c, o] := by simp
  have aM : a ∈ [m, a, q, c, o] := by simp
  have qM : q ∈ [m, a, q, c, o] := by simp
  have cM : c ∈ [m, a, q, c, o] := by simp
  refine zq_aload_n1 hZ dL_law_1600 ?_
  refine zq_cV hZ (As := []) rfl dL_law_1601 ml_L_255 wy_X7_wordsByBegins (pm_fr [m, a, q, c, o] (m_X7_wordsByBegins l dgt)) (List.mem_append_left _ (dr.L dgt 0 (by omega))) (dr.S dgt).2.1 rfl ⟨Nat.le_of_ble_eq_true rfl, Nat.le_of_ble_eq_true rfl⟩ ⟨by show k + 0 ≤ 601024; omega, by show n + 0 ≤ 7293034; omega⟩ (Nat.le_of_ble_eq_true rfl) (fun _ _ _ h => by obtain ⟨_, _, h, _⟩ := h; exact h.elim) (fun v9 L9 F9 hp => ?_)
  obtain ⟨L8, F8, hp, rfl, e1, fM⟩ := hp
  obtain ⟨rfl, rfl, rfl⟩ := hp
  have mot9 := mo.mv (F1 := F9) mot (fM m mM) (fM a aM) (fM q qM) (fM c cM)
  refine zq_aload_n2 hZ dL_law_1604 ?_
  refine zq_cV hZ (As := []) rfl dL_law_1605 ml_L_258 wy_X8_wordsByBegins (m_X8_wordsByBegins l mot9 fx.1) (List.mem_append_right _ mM) mot9.2.1 rfl ⟨Nat.le_of_ble_eq_true rfl, Nat.le_of_ble_eq_true rfl⟩ ⟨by show k + 0 + 0 ≤ 601024; omega, by show n + 0 + 0 ≤ 7293034; omega⟩ (Nat.le_of_ble_eq_true rfl) (fun _ _ _ h => h.elim) (fun v9 L2 F2 hp => ?_)
  obtain ⟨rfl, rfl, fr, mo2⟩ := hp
  have e2 : ∀ b, b ∈ LX → F2 b = F9 b := fun b hb => fr b (hd9 b hb).1 (hd9 b hb).2.1 (hd9 b hb).2.2.1 (hd9 b hb).2.2.2.1
  have dg2 : dg LX F2 K g kd sv kp nn bf := dr.mv dgt (fun b hb => (e2 b hb).trans (e1 b hb))
  have ho2 : F2 o = eL 1 u := (fr o oM oA oQ oC).trans ((fM o oin).trans hu)
  exact zq_icmp_eq hZ (tgt := 2079) dL_law_1608 rfl (by have w := cn_rg (P := bgW (g 0) (fT g)) (g 0).toNat; unfold wdA; omega) (fun _ => cont _ _ F2 _ _ _ _ (by show k + 0 + 0 ≤ k + 1; omega) (by show n + 0 + 0 ≤ n + 6; omega) ⟨_, _, _, _, _, _, _, _, _, _, u, dg2, mo2, ho2⟩) (fun hne => absurd rfl hne)
set_option maxRecDepth 100000 in
set_option maxHeartbeats 4000000 in
theorem lc_41 (l : Launch) (hfl : l.flags = flags0) {ZZ : ZT} {tbl : List ExceptionTableEntry} {nm ds : String} {Φ : State → Prop} {post : Option Value → List Nat → (Nat → PE) → Prop} {xp : String → List Nat → (Nat → PE) → Prop} (hZ : ZZ = Zq Φ tbl l ⟨"DragonRingLaw", nm, ds⟩ cL_law 9 (some .boolean) room_1 [] post xp) (hΦ : ∀ s, Φ s → va_Nc xS xA s) {b Ls : Nat} {sx : Int → Int} (hsx : ∀ s, Φ s → va_X b Ls (fun j => iI (sx (j : Int))) s s.heap ∧ b < s.heap.size) (hok : ∀ j, -2147483648 ≤ sx j ∧ sx j ≤ 2147483647) {LX : List Nat} {F : Nat → PE} {K : Nat → Nat} {m a q c o : Nat} {i : Int} {k n : Nat} {s5 s6 s7 s8 : Option Value} (hL : LSx LX m a q c o) (hI : LI LX F K m a q c o) (hi : 0 ≤ i ∧ i + 2 < Ls ∧ Ls ≤ 1536) (hk : k + 1 ≤ 601024 ∧ n + 6 ≤ 7293034)
    (cont : ∀ (k2 n2 : Nat) (F2 : Nat → PE) (t5 t6 t7 t8 : Option Value), k2 ≤ k + 1 → n2 ≤ n + 6 → LI LX F2 K m a q c o → ZZ k2 n2 2079 [some (.ref b), some (.ref (K 0)), some (.ref m), some (.ref o), some (.int (iI i)), t5, t6, t7, t8] [] (LX ++ [m, a, q, c, o]) F2) :
    ZZ k n 1613 [some (.ref b), some (.ref (K 0)), some (.ref m), some (.ref o), some (.int (iI i)), s5, s6, s7, s8] [] (LX ++ [m, a, q, c, o]) F := by
  obtain ⟨g, kd, sv, kp, nn, bf, th, pt, tm, sg, u, dgt, mot, hu⟩ := hI
  have fx := dr.fx dgt
  have rg := fx.1.1
  obtain ⟨hd9, oM, oA, oQ, oC⟩ := hL
  have hv := (dr.fx (dg.pre dgt)).1
  have y1 := hok (i + 1)
  have y2 := hok (i + 2)
  have oin : o ∈ [m, a, q, c, o] := by simp
  have hd5 : ∀ b, b ∈ LX → b ≠ o := fun b hb => (hd9 b hb).2.2.2.2
  have mM : m ∈ [m, a, q, c, o] := by simp
  have aM : a ∈ [m, a, q, c, o] := by simp
  have qM : q ∈ [m, a, q, c, o] := by simp
  have cM : c ∈ [m, a, q, c, o] := by simp
  refine zq_aload_n1 hZ dL_law_1613 ?_
  refine zq_cV hZ (As := []) rfl dL_law_1614 ml_L_259 wy_X7_wordsByGoing (pm_fr [m, a, q, c, o] (m_X7_wordsByGoing l dgt)) (List.mem_append_left _ (dr.L dgt 0 (by omega))) (dr.S dgt).2.1 rfl ⟨Nat.le_of_ble_eq_true rfl, Nat.le_of_ble_eq_true rfl⟩ ⟨by show k + 0 ≤ 601024; omega, by show n + 0 ≤ 7293034; omega⟩ (Nat.le_of_ble_eq_true rfl) (fun _ _ _ h => by obtain ⟨_, _, h, _⟩ := h; exact h.elim) (fun v9 L9 F9 hp => ?_)
  obtain ⟨L8, F8, hp, rfl, e1, fM⟩ := hp
  obtain ⟨rfl, rfl, rfl⟩ := hp
  have mot9 := mo.mv (F1 := F9) mot (fM m mM) (fM a aM) (fM q qM) (fM c cM)
  refine zq_aload_n2 hZ dL_law_1617 ?_
  refine zq_cV hZ (As := []) rfl dL_law_1618 ml_L_262 wy_X8_wordsByGoing (m_X8_wordsByGoing l mot9 fx.1) (List.mem_append_right _ mM) mot9.2.1 rfl ⟨Nat.le_of_ble_eq_true rfl, Nat.le_of_ble_eq_true rfl⟩ ⟨by show k + 0 + 0 ≤ 601024; omega, by show n + 0 + 0 ≤ 7293034; omega⟩ (Nat.le_of_ble_eq_true rfl) (fun _ _ _ h => h.elim) (fun v9 L2 F2 hp => ?_)
  obtain ⟨rfl, rfl, fr, mo2⟩ := hp
  have e2 : ∀ b, b ∈ LX → F2 b = F9 b := fun b hb => fr b (hd9 b hb).1 (hd9 b hb).2.1 (hd9 b hb).2.2.1 (hd9 b hb).2.2.2.1
  have dg2 : dg LX F2 K g kd sv kp nn bf := dr.mv dgt (fun b hb => (e2 b hb).trans (e1 b hb))
  have ho2 : F2 o = eL 1 u := (fr o oM oA oQ oC).trans ((fM o oin).trans hu)
  exact zq_icmp_eq hZ (tgt := 2079) dL_law_1621 rfl (by have w := cn_rg (P := bgW (g 0) (fT g)) (g 0).toNat; unfold wdA; omega) (fun _ => cont _ _ F2 _ _ _ _ (by show k + 0 + 0 ≤ k + 1; omega) (by show n + 0 + 0 ≤ n + 6; omega) ⟨_, _, _, _, _, _, _, _, _, _, u, dg2, mo2, ho2⟩) (fun hne => absurd rfl hne)
set_option maxRecDepth 100000 in
set_option maxHeartbeats 4000000 in
theorem lc_42 (l : Launch) (hfl : l.flags = flags0) {ZZ : ZT} {tbl : List ExceptionTableEntry} {nm ds : String} {Φ : State → Prop} {post : Option Value → List Nat → (Nat → PE) → Prop} {xp : String → List Nat → (Nat → PE) → Prop} (hZ : ZZ = Zq Φ tbl l ⟨"DragonRingLaw", nm, ds⟩ cL_law 9 (some .boolean) room_1 [] post xp) (hΦ : ∀ s, Φ s → va_Nc xS xA s) {b Ls : Nat} {sx : Int → Int} (hsx : ∀ s, Φ s → va_X b Ls (fun j => iI (sx (j : Int))) s s.heap ∧ b < s.heap.size) (hok : ∀ j, -2147483648 ≤ sx j ∧ sx j ≤ 2147483647) {LX : List Nat} {F : Nat → PE} {K : Nat → Nat} {m a q c o : Nat} {i : Int} {k n : Nat} {s5 s6 s7 s8 : Option Value} (hL : LSx LX m a q c o) (hI : LI LX F K m a q c o) (hi : 0 ≤ i ∧ i + 2 < Ls ∧ Ls ≤ 1536) (hk : k + 1 ≤ 601024 ∧ n + 6 ≤ 7293034)
    (cont : ∀ (k2 n2 : Nat) (F2 : Nat → PE) (t5 t6 t7 t8 : Option Value), k2 ≤ k + 1 → n2 ≤ n + 6 → LI LX F2 K m a q c o → ZZ k2 n2 2079 [some (.ref b), some (.ref (K 0)), some (.ref m), some (.ref o), some (.int (iI i)), t5, t6, t7, t8] [] (LX ++ [m, a, q, c, o]) F2) :
    ZZ k n 1626 [some (.ref b), some (.ref (K 0)), some (.ref m), some (.ref o), some (.int (iI i)), s5, s6, s7, s8] [] (LX ++ [m, a, q, c, o]) F := by
  obtain ⟨g, kd, sv, kp, nn, bf, th, pt, tm, sg, u, dgt, mot, hu⟩ := hI
  have fx := dr.fx dgt
  have rg := fx.1.1
  obtain ⟨hd9, oM, oA, oQ, oC⟩ := hL
  have hv := (dr.fx (dg.pre dgt)).1
  have y1 := hok (i + 1)
  have y2 := hok (i + 2)
  have oin : o ∈ [m, a, q, c, o] := by simp
  have hd5 : ∀ b, b ∈ LX → b ≠ o := fun b hb => (hd9 b hb).2.2.2.2
  have mM : m ∈ [m, a, q, c, o] := by simp
  have aM : a ∈ [m, a, q, c, o] := by simp
  have qM : q ∈ [m, a, q, c, o] := by simp
  have cM : c ∈ [m, a, q, c, o] := by simp
  refine zq_aload_n1 hZ dL_law_1626 ?_
  refine zq_cV hZ (As := []) rfl dL_law_1627 ml_L_263 wy_X7_hoards (pm_fr [m, a, q, c, o] (m_X7_hoards l dgt)) (List.mem_append_left _ (dr.L dgt 0 (by omega))) (dr.S dgt).2.1 rfl ⟨Nat.le_of_ble_eq_true rfl, Nat.le_of_ble_eq_true rfl⟩ ⟨by show k + 0 ≤ 601024; omega, by show n + 0 ≤ 7293034; omega⟩ (Nat.le_of_ble_eq_true rfl) (fun _ _ _ h => by obtain ⟨_, _, h, _⟩ := h; exact h.elim) (fun v9 L9 F9 hp => ?_)
  obtain ⟨L8, F8, hp, rfl, e1, fM⟩ := hp
  obtain ⟨rfl, rfl, rfl⟩ := hp
  have mot9 := mo.mv (F1 := F9) mot (fM m mM) (fM a aM) (fM q qM) (fM c cM)
  refine zq_aload_n2 hZ dL_law_1630 ?_
  refine zq_cV hZ (As := []) rfl dL_law_1631 ml_L_266 wy_X8_hoards (m_X8_hoards l mot9 fx.1) (List.mem_append_right _ mM) mot9.2.1 rfl ⟨Nat.le_of_ble_eq_true rfl, Nat.le_of_ble_eq_true rfl⟩ ⟨by show k + 0 + 0 ≤ 601024; omega, by show n + 0 + 0 ≤ 7293034; omega⟩ (Nat.le_of_ble_eq_true rfl) (fun _ _ _ h => h.elim) (fun v9 L2 F2 hp => ?_)
  obtain ⟨rfl, rfl, fr, mo2⟩ := hp
  have e2 : ∀ b, b ∈ LX → F2 b = F9 b := fun b hb => fr b (hd9 b hb).1 (hd9 b hb).2.1 (hd9 b hb).2.2.1 (hd9 b hb).2.2.2.1
  have dg2 : dg LX F2 K g kd sv kp nn bf := dr.mv dgt (fun b hb => (e2 b hb).trans (e1 b hb))
  have ho2 : F2 o = eL 1 u := (fr o oM oA oQ oC).trans ((fM o oin).trans hu)
  exact zq_icmp_eq hZ (tgt := 2079) dL_law_1634 rfl (by omega) (fun _ => cont _ _ F2 _ _ _ _ (by show k + 0 + 0 ≤ k + 1; omega) (by show n + 0 + 0 ≤ n + 6; omega) ⟨_, _, _, _, _, _, _, _, _, _, u, dg2, mo2, ho2⟩) (fun hne => absurd rfl hne)
set_option maxRecDepth 100000 in
set_option maxHeartbeats 4000000 in
theorem lc_43 (l : Launch) (hfl : l.flags = flags0) {ZZ : ZT} {tbl : List ExceptionTableEntry} {nm ds : String} {Φ : State → Prop} {post : Option Value → List Nat → (Nat → PE) → Prop} {xp : String → List Nat → (Nat → PE) → Prop} (hZ : ZZ = Zq Φ tbl l ⟨"DragonRingLaw", nm, ds⟩ cL_law 9 (some .boolean) room_1 [] post xp) (hΦ : ∀ s, Φ s → va_Nc xS xA s) {b Ls : Nat} {sx : Int → Int} (hsx : ∀ s, Φ s → va_X b Ls (fun j => iI (sx (j : Int))) s s.heap ∧ b < s.heap.size) (hok : ∀ j, -2147483648 ≤ sx j ∧ sx j ≤ 2147483647) {LX : List Nat} {F : Nat → PE} {K : Nat → Nat} {m a q c o : Nat} {i : Int} {k n : Nat} {s5 s6 s7 s8 : Option Value} (hL : LSx LX m a q c o) (hI : LI LX F K m a q c o) (hi : 0 ≤ i ∧ i + 2 < Ls ∧ Ls ≤ 1536) (hk : k + 1 ≤ 601024 ∧ n + 6 ≤ 7293034)
    (cont : ∀ (k2 n2 : Nat) (F2 : Nat → PE) (t5 t6 t7 t8 : Option Value), k2 ≤ k + 1 → n2 ≤ n + 6 → LI LX F2 K m a q c o → ZZ k2 n2 2079 [some (.ref b), some (.ref (K 0)), some (.ref m), some (.ref o), some (.int (iI i)), t5, t6, t7, t8] [] (LX ++ [m, a, q, c, o]) F2) :
    ZZ k n 1639 [some (.ref b), some (.ref (K 0)), some (.ref m), some (.ref o), some (.int (iI i)), s5, s6, s7, s8] [] (LX ++ [m, a, q, c, o]) F := by
  obtain ⟨g, kd, sv, kp, nn, bf, th, pt, tm, sg, u, dgt, mot, hu⟩ := hI
  have fx := dr.fx dgt
  have rg := fx.1.1
  obtain ⟨hd9, oM, oA, oQ, oC⟩ := hL
  have hv := (dr.fx (dg.pre dgt)).1
  have y1 := hok (i + 1)
  have y2 := hok (i + 2)
  have oin : o ∈ [m, a, q, c, o] := by simp
  have hd5 : ∀ b, b ∈ LX → b ≠ o := fun b hb => (hd9 b hb).2.2.2.2
  have mM : m ∈ [m, a, q, c, o] := by simp
  have aM : a ∈ [m, a, q, c, o] := by simp
  have qM : q ∈ [m, a, q, c, o] := by simp
  have cM : c ∈ [m, a, q, c, o] := by simp
  refine zq_aload_n1 hZ dL_law_1639 ?_
  refine zq_cV hZ (As := []) rfl dL_law_1640 ml_L_267 wy_X7_caves (pm_fr [m, a, q, c, o] (m_X7_caves l dgt)) (List.mem_append_left _ (dr.L dgt 0 (by omega))) (dr.S dgt).2.1 rfl ⟨Nat.le_of_ble_eq_true rfl, Nat.le_of_ble_eq_true rfl⟩ ⟨by show k + 0 ≤ 601024; omega, by show n + 0 ≤ 7293034; omega⟩ (Nat.le_of_ble_eq_true rfl) (fun _ _ _ h => by obtain ⟨_, _, h, _⟩ := h; exact h.elim) (fun v9 L9 F9 hp => ?_)
  obtain ⟨L8, F8, hp, rfl, e1, fM⟩ := hp
  obtain ⟨rfl, rfl, rfl⟩ := hp
  have mot9 := mo.mv (F1 := F9) mot (fM m mM) (fM a aM) (fM q qM) (fM c cM)
  refine zq_aload_n2 hZ dL_law_1643 ?_
  refine zq_cV hZ (As := []) rfl dL_law_1644 ml_L_270 wy_X8_caves (m_X8_caves l mot9 fx.1) (List.mem_append_right _ mM) mot9.2.1 rfl ⟨Nat.le_of_ble_eq_true rfl, Nat.le_of_ble_eq_true rfl⟩ ⟨by show k + 0 + 0 ≤ 601024; omega, by show n + 0 + 0 ≤ 7293034; omega⟩ (Nat.le_of_ble_eq_true rfl) (fun _ _ _ h => h.elim) (fun v9 L2 F2 hp => ?_)
  obtain ⟨rfl, rfl, fr, mo2⟩ := hp
  have e2 : ∀ b, b ∈ LX → F2 b = F9 b := fun b hb => fr b (hd9 b hb).1 (hd9 b hb).2.1 (hd9 b hb).2.2.1 (hd9 b hb).2.2.2.1
  have dg2 : dg LX F2 K g kd sv kp nn bf := dr.mv dgt (fun b hb => (e2 b hb).trans (e1 b hb))
  have ho2 : F2 o = eL 1 u := (fr o oM oA oQ oC).trans ((fM o oin).trans hu)
  exact zq_icmp_eq hZ (tgt := 2079) dL_law_1647 rfl (by omega) (fun _ => cont _ _ F2 _ _ _ _ (by show k + 0 + 0 ≤ k + 1; omega) (by show n + 0 + 0 ≤ n + 6; omega) ⟨_, _, _, _, _, _, _, _, _, _, u, dg2, mo2, ho2⟩) (fun hne => absurd rfl hne)
set_option maxRecDepth 100000 in
set_option maxHeartbeats 4000000 in
theorem lc_44 (l : Launch) (hfl : l.flags = flags0) {ZZ : ZT} {tbl : List ExceptionTableEntry} {nm ds : String} {Φ : State → Prop} {post : Option Value → List Nat → (Nat → PE) → Prop} {xp : String → List Nat → (Nat → PE) → Prop} (hZ : ZZ = Zq Φ tbl l ⟨"DragonRingLaw", nm, ds⟩ cL_law 9 (some .boolean) room_1 [] post xp) (hΦ : ∀ s, Φ s → va_Nc xS xA s) {b Ls : Nat} {sx : Int → Int} (hsx : ∀ s, Φ s → va_X b Ls (fun j => iI (sx (j : Int))) s s.heap ∧ b < s.heap.size) (hok : ∀ j, -2147483648 ≤ sx j ∧ sx j ≤ 2147483647) {LX : List Nat} {F : Nat → PE} {K : Nat → Nat} {m a q c o : Nat} {i : Int} {k n : Nat} {s5 s6 s7 s8 : Option Value} (hL : LSx LX m a q c o) (hI : LI LX F K m a q c o) (hi : 0 ≤ i ∧ i + 2 < Ls ∧ Ls ≤ 1536) (hk : k + 1 ≤ 601024 ∧ n + 6 ≤ 7293034)
    (cont : ∀ (k2 n2 : Nat) (F2 : Nat → PE) (t5 t6 t7 t8 : Option Value), k2 ≤ k + 1 → n2 ≤ n + 6 → LI LX F2 K m a q c o → ZZ k2 n2 2079 [some (.ref b), some (.ref (K 0)), some (.ref m), some (.ref o), some (.int (iI i)), t5, t6, t7, t8] [] (LX ++ [m, a, q, c, o]) F2) :
    ZZ k n 1652 [some (.ref b), some (.ref (K 0)), some (.ref m), some (.ref o), some (.int (iI i)), s5, s6, s7, s8] [] (LX ++ [m, a, q, c, o]) F := by
  obtain ⟨g, kd, sv, kp, nn, bf, th, pt, tm, sg, u, dgt, mot, hu⟩ := hI
  have fx := dr.fx dgt
  have rg := fx.1.1
  obtain ⟨hd9, oM, oA, oQ, oC⟩ := hL
  have hv := (dr.fx (dg.pre dgt)).1
  have y1 := hok (i + 1)
  have y2 := hok (i + 2)
  have oin : o ∈ [m, a, q, c, o] := by simp
  have hd5 : ∀ b, b ∈ LX → b ≠ o := fun b hb => (hd9 b hb).2.2.2.2
  have mM : m ∈ [m, a, q, c, o] := by simp
  have aM : a ∈ [m, a, q, c, o] := by simp
  have qM : q ∈ [m, a, q, c, o] := by simp
  have cM : c ∈ [m, a, q, c, o] := by simp
  refine zq_aload_n1 hZ dL_law_1652 ?_
  refine zq_aload_n0 hZ dL_law_1653 ?_
  refine zq_iload4 hZ dL_law_1654 ?_
  refine zq_iconst hZ dL_law_1656 ?_
  refine zq_iadd hZ dL_law_1657 ?_
  refine zq_sld hZ hsx rfl dL_law_1658 (by omega) ?_
  refine zq_aload_n3 hZ dL_law_1659 ?_
  refine zq_cSh hZ hΦ (As := [_, _, _]) rfl dL_law_1660 ml_L_271 wy_L_lengthOf (m_L_lengthOf l (M := [m, a, q, c, o]) hfl (dgt) oin hd5 hu y1) ⟨Nat.le_of_ble_eq_true rfl, Nat.le_of_ble_eq_true rfl⟩ ⟨by show k + 1 ≤ 601024; omega, by show n + 6 ≤ 7293034; omega⟩ (Nat.le_of_ble_eq_true rfl) (fun v9 L9 F9 hp => ?_)
  obtain ⟨rfl, fM, u1, hu1, hX⟩ := hp
  obtain ⟨kk, rfl, hY⟩ : ∃ kk, v9 = some (.int (iI kk)) ∧ ((kk = 0 ∧ (0 ≤ (sx (i + 1)) ∧ (sx (i + 1)) < g 3) ∧ u1 0 = g (10 + (sx (i + 1))) ∧ dr LX F9 K g kd sv (sH g) kp (sQ g) nn bf) ∨ (kk = 1 ∧ ¬ ((0 ≤ (sx (i + 1)) ∧ (sx (i + 1)) < g 3)) ∧ dr LX F9 K g kd sv (sH g) kp (sQ g) nn bf)) := by
    rcases hX with ⟨x1, x2, x3, x4⟩ | ⟨x1, x2, x3⟩
    · exact ⟨0, x2, Or.inl ⟨rfl, x1, x3, x4⟩⟩
    · exact ⟨1, x2, Or.inr ⟨rfl, x1, x3⟩⟩
  have mot9 := mo.mv (F1 := F9) mot (fM m mM (Ne.symm oM)) (fM a aM (Ne.symm oA)) (fM q qM (Ne.symm oQ)) (fM c cM (Ne.symm oC))
  refine zq_istore5 hZ dL_law_1663 (by decide) rfl ?_
  refine zq_aload_n2 hZ dL_law_1665 ?_
  refine zq_aload_n0 hZ dL_law_1666 ?_
  refine zq_iload4 hZ dL_law_1667 ?_
  refine zq_iconst hZ dL_law_1669 ?_
  refine zq_iadd hZ dL_law_1670 ?_
  refine zq_sld hZ hsx rfl dL_law_1671 (by omega) ?_
  refine zq_cV hZ (As := [_]) rfl dL_law_1672 ml_L_273 wy_X8_lengthOf (m_X8_lengthOf l mot9 fx.1 y1) (List.mem_append_right _ mM) mot9.2.1 rfl ⟨Nat.le_of_ble_eq_true rfl, Nat.le_of_ble_eq_true rfl⟩ ⟨by show k + 1 + 0 ≤ 601024; omega, by show n + 6 + 0 ≤ 7293034; omega⟩ (Nat.le_of_ble_eq_true rfl) (fun _ _ _ h => h.elim) (fun v9 L2 F2 hp => ?_)
  obtain ⟨rfl, fr, hM⟩ := hp
  obtain ⟨bv, rfl, hN9⟩ : ∃ bv, v9 = some (.int (iI bv)) ∧ (((0 ≤ (sx (i + 1)) ∧ (sx (i + 1)) < g 3) ∧ bv = g (10 + (sx (i + 1))) ∧ mo (LX ++ [m, a, q, c, o]) F2 m a q c g sv 0 kd nn pt tm sg kp bf) ∨ (¬ ((0 ≤ (sx (i + 1)) ∧ (sx (i + 1)) < g 3)) ∧ bv = 0 ∧ mo (LX ++ [m, a, q, c, o]) F2 m a q c g sv 1 kd nn pt tm sg kp bf)) := by
    rcases hM with ⟨x1, x2, x3⟩ | ⟨x1, x2, x3⟩
    · exact ⟨_, x2, Or.inl ⟨x1, rfl, x3⟩⟩
    · exact ⟨0, x2, Or.inr ⟨x1, rfl, x3⟩⟩
  have fin : ∃ g2 kd2 sv2 kp2 n2 bf2 pt2 tm2 sg2, dg LX F2 K g2 kd2 sv2 kp2 n2 bf2 ∧ mo (LX ++ [m, a, q, c, o]) F2 m a q c g2 sv2 kk kd2 n2 pt2 tm2 sg2 kp2 bf2 ∧ (kk = 0 → u1 0 = bv) ∧ (0 ≤ kk ∧ kk ≤ 2) ∧ (-2147483648 ≤ bv ∧ bv ≤ 2147483647) := by
    have e2 : ∀ b, b ∈ LX → F2 b = F9 b := fun b hb => fr b (hd9 b hb).1 (hd9 b hb).2.1 (hd9 b hb).2.2.1 (hd9 b hb).2.2.2.1
    rcases hY with ⟨rfl, x1, x2, x3⟩ | ⟨rfl, x1, x3⟩
    · rcases hN9 with ⟨z1, rfl, z3⟩ | ⟨z1, rfl, z3⟩
      · exact ⟨_, _, _, _, _, _, _, _, _, dr.mv x3 e2, z3, fun _ => x2, by omega, by have w := fx.1.2.1.1 (sx (i + 1)) x1.1 x1.2; omega⟩
      · exact absurd x1 z1
    · rcases hN9 with ⟨z1, rfl, z3⟩ | ⟨z1, rfl, z3⟩
      · exact absurd z1 x1
      · exact ⟨_, _, _, _, _, _, _, _, _, dr.mv x3 e2, z3, fun w => absurd w (by decide), by omega, by omega⟩
  obtain ⟨g2, kd2, sv2, kp2, n2, bf2, pt2, tm2, sg2, dg2, mo2, hval, hkk, hbv⟩ := fin
  have ho2 : F2 o = eL 1 u1 := (fr o oM oA oQ oC).trans hu1
  have fins : LI LX F2 K m a q c o := ⟨g2, kd2, sv2, kp2, n2, bf2, kk, pt2, tm2, sg2, u1, dg2, mo2, ho2⟩
  refine zq_istore6 hZ dL_law_1675 (by decide) rfl ?_
  refine zq_aload_n2 hZ dL_law_1677 ?_
  refine zq_cV hZ (As := []) rfl dL_law_1678 ml_L_116 wy_X8_thrown (m_X8_thrown l mo2) (List.mem_append_right _ mM) mo2.2.1 rfl ⟨Nat.le_of_ble_eq_true rfl, Nat.le_of_ble_eq_true rfl⟩ ⟨by show k + 1 + 0 + 0 ≤ 601024; omega, by show n + 6 + 0 + 0 ≤ 7293034; omega⟩ (Nat.le_of_ble_eq_true rfl) (fun _ _ _ h => h.elim) (fun v9 L3 F3 hp => ?_)
  obtain ⟨rfl, rfl, rfl⟩ := hp
  refine zq_iload5 hZ dL_law_1681 ?_
  refine zq_icmp_eq hZ (tgt := 1688) dL_law_1683 rfl (by omega) (fun _ => ?_) (fun hne => absurd rfl hne)
  refine zq_iload5 hZ dL_law_1688 ?_
  have done : ∀ t5 t6 t7 t8, ZZ _ _ 1705 [some (.ref b), some (.ref (K 0)), some (.ref m), some (.ref o), some (.int (iI i)), t5, t6, t7, t8] [] (LX ++ [m, a, q, c, o]) F2 := fun t5 t6 t7 t8 => zq_goto hZ (tgt := 2079) dL_law_1705 rfl (cont (k + 1 + 0 + 0) (n + 6 + 0 + 0) F2 t5 t6 t7 t8 (by omega) (by omega) fins)
  refine zq_if_ne hZ (tgt := 1705) dL_law_1690 rfl (by omega) (fun _ => done _ _ _ _) (fun hk0 => ?_)
  refine zq_aload_n3 hZ dL_law_1693 ?_
  refine zq_iconst hZ dL_law_1694 ?_
  refine zq_laload hZ dL_law_1695 (List.mem_append_right _ oin) ho2 ⟨by omega, by omega, by omega⟩ ?_
  refine zq_iload6 hZ dL_law_1696 ?_
  refine zq_i2l hZ dL_law_1698 hbv ?_
  rw [hval hk0]
  refine zq_lcmp hZ dL_law_1699 ?_
  exact zq_if_eq_raw hZ (tgt := 1705) dL_law_1700 rfl (fun _ => done _ _ _ _) (fun hne => absurd ((lg_cmp_eq _ _).mpr rfl) hne)
set_option maxRecDepth 100000 in
set_option maxHeartbeats 4000000 in
theorem lc_45 (l : Launch) (hfl : l.flags = flags0) {ZZ : ZT} {tbl : List ExceptionTableEntry} {nm ds : String} {Φ : State → Prop} {post : Option Value → List Nat → (Nat → PE) → Prop} {xp : String → List Nat → (Nat → PE) → Prop} (hZ : ZZ = Zq Φ tbl l ⟨"DragonRingLaw", nm, ds⟩ cL_law 9 (some .boolean) room_1 [] post xp) (hΦ : ∀ s, Φ s → va_Nc xS xA s) {b Ls : Nat} {sx : Int → Int} (hsx : ∀ s, Φ s → va_X b Ls (fun j => iI (sx (j : Int))) s s.heap ∧ b < s.heap.size) (hok : ∀ j, -2147483648 ≤ sx j ∧ sx j ≤ 2147483647) {LX : List Nat} {F : Nat → PE} {K : Nat → Nat} {m a q c o : Nat} {i : Int} {k n : Nat} {s5 s6 s7 s8 : Option Value} (hL : LSx LX m a q c o) (hI : LI LX F K m a q c o) (hi : 0 ≤ i ∧ i + 2 < Ls ∧ Ls ≤ 1536) (hk : k + 1 ≤ 601024 ∧ n + 6 ≤ 7293034)
    (cont : ∀ (k2 n2 : Nat) (F2 : Nat → PE) (t5 t6 t7 t8 : Option Value), k2 ≤ k + 1 → n2 ≤ n + 6 → LI LX F2 K m a q c o → ZZ k2 n2 2079 [some (.ref b), some (.ref (K 0)), some (.ref m), some (.ref o), some (.int (iI i)), t5, t6, t7, t8] [] (LX ++ [m, a, q, c, o]) F2) :
    ZZ k n 1708 [some (.ref b), some (.ref (K 0)), some (.ref m), some (.ref o), some (.int (iI i)), s5, s6, s7, s8] [] (LX ++ [m, a, q, c, o]) F := by
  obtain ⟨g, kd, sv, kp, nn, bf, th, pt, tm, sg, u, dgt, mot, hu⟩ := hI
  have fx := dr.fx dgt
  have rg := fx.1.1
  obtain ⟨hd9, oM, oA, oQ, oC⟩ := hL
  have hv := (dr.fx (dg.pre dgt)).1
  have y1 := hok (i + 1)
  have y2 := hok (i + 2)
  have oin : o ∈ [m, a, q, c, o] := by simp
  have hd5 : ∀ b, b ∈ LX → b ≠ o := fun b hb => (hd9 b hb).2.2.2.2
  have mM : m ∈ [m, a, q, c, o] := by simp
  have aM : a ∈ [m, a, q, c, o] := by simp
  have qM : q ∈ [m, a, q, c, o] := by simp
  have cM : c ∈ [m, a, q, c, o] := by simp
  refine zq_aload_n1 hZ dL_law_1708 ?_
  refine zq_aload_n0 hZ dL_law_1709 ?_
  refine zq_iload4 hZ dL_law_1710 ?_
  refine zq_iconst hZ dL_law_1712 ?_
  refine zq_iadd hZ dL_law_1713 ?_
  refine zq_sld hZ hsx rfl dL_law_1714 (by omega) ?_
  refine zq_aload_n0 hZ dL_law_1715 ?_
  refine zq_iload4 hZ dL_law_1716 ?_
  refine zq_iconst hZ dL_law_1718 ?_
  refine zq_iadd hZ dL_law_1719 ?_
  refine zq_sld hZ hsx rfl dL_law_1720 (by omega) ?_
  refine zq_aload_n3 hZ dL_law_1721 ?_
  refine zq_cSh hZ hΦ (As := [_, _, _, _]) rfl dL_law_1722 ml_L_274 wy_L_codeIn (m_L_codeIn l (M := [m, a, q, c, o]) hfl (dgt) oin hd5 hu y1 y2) ⟨Nat.le_of_ble_eq_true rfl, Nat.le_of_ble_eq_true rfl⟩ ⟨by show k + 1 ≤ 601024; omega, by show n + 6 ≤ 7293034; omega⟩ (Nat.le_of_ble_eq_true rfl) (fun v9 L9 F9 hp => ?_)
  obtain ⟨rfl, fM, u1, hu1, hX⟩ := hp
  obtain ⟨kk, rfl, hY⟩ : ∃ kk, v9 = some (.int (iI kk)) ∧ ((kk = 0 ∧ (0 ≤ (sx (i + 1)) ∧ (sx (i + 1)) < g 3 ∧ 0 ≤ (sx (i + 2)) ∧ (sx (i + 2)) < g (10 + (sx (i + 1)))) ∧ u1 0 = g (218 + 200 * (sx (i + 1)) + (sx (i + 2))) ∧ dr LX F9 K g kd sv (sH g) kp (sQ g) nn bf) ∨ (kk = 1 ∧ ¬ ((0 ≤ (sx (i + 1)) ∧ (sx (i + 1)) < g 3 ∧ 0 ≤ (sx (i + 2)) ∧ (sx (i + 2)) < g (10 + (sx (i + 1))))) ∧ dr LX F9 K g kd sv (sH g) kp (sQ g) nn bf)) := by
    rcases hX with ⟨x1, x2, x3, x4⟩ | ⟨x1, x2, x3⟩
    · exact ⟨0, x2, Or.inl ⟨rfl, x1, x3, x4⟩⟩
    · exact ⟨1, x2, Or.inr ⟨rfl, x1, x3⟩⟩
  have mot9 := mo.mv (F1 := F9) mot (fM m mM (Ne.symm oM)) (fM a aM (Ne.symm oA)) (fM q qM (Ne.symm oQ)) (fM c cM (Ne.symm oC))
  refine zq_istore5 hZ dL_law_1725 (by decide) rfl ?_
  refine zq_aload_n2 hZ dL_law_1727 ?_
  refine zq_aload_n0 hZ dL_law_1728 ?_
  refine zq_iload4 hZ dL_law_1729 ?_
  refine zq_iconst hZ dL_law_1731 ?_
  refine zq_iadd hZ dL_law_1732 ?_
  refine zq_sld hZ hsx rfl dL_law_1733 (by omega) ?_
  refine zq_aload_n0 hZ dL_law_1734 ?_
  refine zq_iload4 hZ dL_law_1735 ?_
  refine zq_iconst hZ dL_law_1737 ?_
  refine zq_iadd hZ dL_law_1738 ?_
  refine zq_sld hZ hsx rfl dL_law_1739 (by omega) ?_
  refine zq_cV hZ (As := [_, _]) rfl dL_law_1740 ml_L_277 wy_X8_codeIn (m_X8_codeIn l mot9 fx.1 y1 y2) (List.mem_append_right _ mM) mot9.2.1 rfl ⟨Nat.le_of_ble_eq_true rfl, Nat.le_of_ble_eq_true rfl⟩ ⟨by show k + 1 + 0 ≤ 601024; omega, by show n + 6 + 0 ≤ 7293034; omega⟩ (Nat.le_of_ble_eq_true rfl) (fun _ _ _ h => h.elim) (fun v9 L2 F2 hp => ?_)
  obtain ⟨rfl, fr, hM⟩ := hp
  obtain ⟨bv, rfl, hN9⟩ : ∃ bv, v9 = some (.int (iI bv)) ∧ (((0 ≤ (sx (i + 1)) ∧ (sx (i + 1)) < g 3 ∧ 0 ≤ (sx (i + 2)) ∧ (sx (i + 2)) < g (10 + (sx (i + 1)))) ∧ bv = g (218 + 200 * (sx (i + 1)) + (sx (i + 2))) ∧ mo (LX ++ [m, a, q, c, o]) F2 m a q c g sv 0 kd nn pt tm sg kp bf) ∨ (¬ ((0 ≤ (sx (i + 1)) ∧ (sx (i + 1)) < g 3 ∧ 0 ≤ (sx (i + 2)) ∧ (sx (i + 2)) < g (10 + (sx (i + 1))))) ∧ bv = 0 ∧ mo (LX ++ [m, a, q, c, o]) F2 m a q c g sv 1 kd nn pt tm sg kp bf)) := by
    rcases hM with ⟨x1, x2, x3⟩ | ⟨x1, x2, x3⟩
    · exact ⟨_, x2, Or.inl ⟨x1, rfl, x3⟩⟩
    · exact ⟨0, x2, Or.inr ⟨x1, rfl, x3⟩⟩
  have fin : ∃ g2 kd2 sv2 kp2 n2 bf2 pt2 tm2 sg2, dg LX F2 K g2 kd2 sv2 kp2 n2 bf2 ∧ mo (LX ++ [m, a, q, c, o]) F2 m a q c g2 sv2 kk kd2 n2 pt2 tm2 sg2 kp2 bf2 ∧ (kk = 0 → u1 0 = bv) ∧ (0 ≤ kk ∧ kk ≤ 2) ∧ (-2147483648 ≤ bv ∧ bv ≤ 2147483647) := by
    have e2 : ∀ b, b ∈ LX → F2 b = F9 b := fun b hb => fr b (hd9 b hb).1 (hd9 b hb).2.1 (hd9 b hb).2.2.1 (hd9 b hb).2.2.2.1
    rcases hY with ⟨rfl, x1, x2, x3⟩ | ⟨rfl, x1, x3⟩
    · rcases hN9 with ⟨z1, rfl, z3⟩ | ⟨z1, rfl, z3⟩
      · exact ⟨_, _, _, _, _, _, _, _, _, dr.mv x3 e2, z3, fun _ => x2, by omega, by have w := fx.1.2.2.2 (sx (i + 1)) (sx (i + 2)) x1.1 x1.2.1 x1.2.2.1 x1.2.2.2; omega⟩
      · exact absurd x1 z1
    · rcases hN9 with ⟨z1, rfl, z3⟩ | ⟨z1, rfl, z3⟩
      · exact absurd z1 x1
      · exact ⟨_, _, _, _, _, _, _, _, _, dr.mv x3 e2, z3, fun w => absurd w (by decide), by omega, by omega⟩
  obtain ⟨g2, kd2, sv2, kp2, n2, bf2, pt2, tm2, sg2, dg2, mo2, hval, hkk, hbv⟩ := fin
  have ho2 : F2 o = eL 1 u1 := (fr o oM oA oQ oC).trans hu1
  have fins : LI LX F2 K m a q c o := ⟨g2, kd2, sv2, kp2, n2, bf2, kk, pt2, tm2, sg2, u1, dg2, mo2, ho2⟩
  refine zq_istore6 hZ dL_law_1743 (by decide) rfl ?_
  refine zq_aload_n2 hZ dL_law_1745 ?_
  refine zq_cV hZ (As := []) rfl dL_law_1746 ml_L_116 wy_X8_thrown (m_X8_thrown l mo2) (List.mem_append_right _ mM) mo2.2.1 rfl ⟨Nat.le_of_ble_eq_true rfl, Nat.le_of_ble_eq_true rfl⟩ ⟨by show k + 1 + 0 + 0 ≤ 601024; omega, by show n + 6 + 0 + 0 ≤ 7293034; omega⟩ (Nat.le_of_ble_eq_true rfl) (fun _ _ _ h => h.elim) (fun v9 L3 F3 hp => ?_)
  obtain ⟨rfl, rfl, rfl⟩ := hp
  refine zq_iload5 hZ dL_law_1749 ?_
  refine zq_icmp_eq hZ (tgt := 1756) dL_law_1751 rfl (by omega) (fun _ => ?_) (fun hne => absurd rfl hne)
  refine zq_iload5 hZ dL_law_1756 ?_
  have done : ∀ t5 t6 t7 t8, ZZ _ _ 1773 [some (.ref b), some (.ref (K 0)), some (.ref m), some (.ref o), some (.int (iI i)), t5, t6, t7, t8] [] (LX ++ [m, a, q, c, o]) F2 := fun t5 t6 t7 t8 => zq_goto hZ (tgt := 2079) dL_law_1773 rfl (cont (k + 1 + 0 + 0) (n + 6 + 0 + 0) F2 t5 t6 t7 t8 (by omega) (by omega) fins)
  refine zq_if_ne hZ (tgt := 1773) dL_law_1758 rfl (by omega) (fun _ => done _ _ _ _) (fun hk0 => ?_)
  refine zq_aload_n3 hZ dL_law_1761 ?_
  refine zq_iconst hZ dL_law_1762 ?_
  refine zq_laload hZ dL_law_1763 (List.mem_append_right _ oin) ho2 ⟨by omega, by omega, by omega⟩ ?_
  refine zq_iload6 hZ dL_law_1764 ?_
  refine zq_i2l hZ dL_law_1766 hbv ?_
  rw [hval hk0]
  refine zq_lcmp hZ dL_law_1767 ?_
  exact zq_if_eq_raw hZ (tgt := 1773) dL_law_1768 rfl (fun _ => done _ _ _ _) (fun hne => absurd ((lg_cmp_eq _ _).mpr rfl) hne)
set_option maxRecDepth 100000 in
set_option maxHeartbeats 4000000 in
theorem lc_46 (l : Launch) (hfl : l.flags = flags0) {ZZ : ZT} {tbl : List ExceptionTableEntry} {nm ds : String} {Φ : State → Prop} {post : Option Value → List Nat → (Nat → PE) → Prop} {xp : String → List Nat → (Nat → PE) → Prop} (hZ : ZZ = Zq Φ tbl l ⟨"DragonRingLaw", nm, ds⟩ cL_law 9 (some .boolean) room_1 [] post xp) (hΦ : ∀ s, Φ s → va_Nc xS xA s) {b Ls : Nat} {sx : Int → Int} (hsx : ∀ s, Φ s → va_X b Ls (fun j => iI (sx (j : Int))) s s.heap ∧ b < s.heap.size) (hok : ∀ j, -2147483648 ≤ sx j ∧ sx j ≤ 2147483647) {LX : List Nat} {F : Nat → PE} {K : Nat → Nat} {m a q c o : Nat} {i : Int} {k n : Nat} {s5 s6 s7 s8 : Option Value} (hL : LSx LX m a q c o) (hI : LI LX F K m a q c o) (hi : 0 ≤ i ∧ i + 2 < Ls ∧ Ls ≤ 1536) (hk : k + 1 ≤ 601024 ∧ n + 6 ≤ 7293034)
    (cont : ∀ (k2 n2 : Nat) (F2 : Nat → PE) (t5 t6 t7 t8 : Option Value), k2 ≤ k + 1 → n2 ≤ n + 6 → LI LX F2 K m a q c o → ZZ k2 n2 2079 [some (.ref b), some (.ref (K 0)), some (.ref m), some (.ref o), some (.int (iI i)), t5, t6, t7, t8] [] (LX ++ [m, a, q, c, o]) F2) :
    ZZ k n 1776 [some (.ref b), some (.ref (K 0)), some (.ref m), some (.ref o), some (.int (iI i)), s5, s6, s7, s8] [] (LX ++ [m, a, q, c, o]) F := by
  obtain ⟨g, kd, sv, kp, nn, bf, th, pt, tm, sg, u, dgt, mot, hu⟩ := hI
  have fx := dr.fx dgt
  have rg := fx.1.1
  obtain ⟨hd9, oM, oA, oQ, oC⟩ := hL
  have hv := (dr.fx (dg.pre dgt)).1
  have y1 := hok (i + 1)
  have y2 := hok (i + 2)
  have oin : o ∈ [m, a, q, c, o] := by simp
  have hd5 : ∀ b, b ∈ LX → b ≠ o := fun b hb => (hd9 b hb).2.2.2.2
  have mM : m ∈ [m, a, q, c, o] := by simp
  have aM : a ∈ [m, a, q, c, o] := by simp
  have qM : q ∈ [m, a, q, c, o] := by simp
  have cM : c ∈ [m, a, q, c, o] := by simp
  refine zq_aload_n1 hZ dL_law_1776 ?_
  refine zq_aload_n3 hZ dL_law_1777 ?_
  refine zq_cSh hZ hΦ (As := [_, _]) rfl dL_law_1778 ml_L_278 wy_L_nextHoard (m_L_nextHoard l (M := [m, a, q, c, o]) hfl (dgt) oin hd5 hu) ⟨Nat.le_of_ble_eq_true rfl, Nat.le_of_ble_eq_true rfl⟩ ⟨by show k + 1 ≤ 601024; omega, by show n + 6 ≤ 7293034; omega⟩ (Nat.le_of_ble_eq_true rfl) (fun v9 L9 F9 hp => ?_)
  obtain ⟨rfl, fM, u1, hu1, hX⟩ := hp
  obtain ⟨kk, rfl, hY⟩ : ∃ kk, v9 = some (.int (iI kk)) ∧ ((kk = 0 ∧ 0 < g 3 ∧ u1 0 = g 4 ∧ dr LX F9 K g kd sv (sH g) kp (sQ g) nn bf) ∨ (kk = 1 ∧ ¬ (0 < g 3) ∧ dr LX F9 K g kd sv (sH g) kp (sQ g) nn bf)) := by
    rcases hX with ⟨x1, x2, x3, x4⟩ | ⟨x1, x2, x3⟩
    · exact ⟨0, x2, Or.inl ⟨rfl, x1, x3, x4⟩⟩
    · exact ⟨1, x2, Or.inr ⟨rfl, x1, x3⟩⟩
  have mot9 := mo.mv (F1 := F9) mot (fM m mM (Ne.symm oM)) (fM a aM (Ne.symm oA)) (fM q qM (Ne.symm oQ)) (fM c cM (Ne.symm oC))
  refine zq_istore5 hZ dL_law_1781 (by decide) rfl ?_
  refine zq_aload_n2 hZ dL_law_1783 ?_
  refine zq_cV hZ (As := []) rfl dL_law_1784 ml_L_280 wy_X8_nextHoard (m_X8_nextHoard l mot9 fx.1) (List.mem_append_right _ mM) mot9.2.1 rfl ⟨Nat.le_of_ble_eq_true rfl, Nat.le_of_ble_eq_true rfl⟩ ⟨by show k + 1 + 0 ≤ 601024; omega, by show n + 6 + 0 ≤ 7293034; omega⟩ (Nat.le_of_ble_eq_true rfl) (fun _ _ _ h => h.elim) (fun v9 L2 F2 hp => ?_)
  obtain ⟨rfl, fr, hM⟩ := hp
  obtain ⟨bv, rfl, hN9⟩ : ∃ bv, v9 = some (.int (iI bv)) ∧ ((0 < g 3 ∧ bv = g 4 ∧ mo (LX ++ [m, a, q, c, o]) F2 m a q c g sv 0 kd nn pt tm sg kp bf) ∨ (¬ (0 < g 3) ∧ bv = 0 ∧ mo (LX ++ [m, a, q, c, o]) F2 m a q c g sv 1 kd nn pt tm sg kp bf)) := by
    rcases hM with ⟨x1, x2, x3⟩ | ⟨x1, x2, x3⟩
    · exact ⟨_, x2, Or.inl ⟨x1, rfl, x3⟩⟩
    · exact ⟨0, x2, Or.inr ⟨x1, rfl, x3⟩⟩
  have fin : ∃ g2 kd2 sv2 kp2 n2 bf2 pt2 tm2 sg2, dg LX F2 K g2 kd2 sv2 kp2 n2 bf2 ∧ mo (LX ++ [m, a, q, c, o]) F2 m a q c g2 sv2 kk kd2 n2 pt2 tm2 sg2 kp2 bf2 ∧ (kk = 0 → u1 0 = bv) ∧ (0 ≤ kk ∧ kk ≤ 2) ∧ (-2147483648 ≤ bv ∧ bv ≤ 2147483647) := by
    have e2 : ∀ b, b ∈ LX → F2 b = F9 b := fun b hb => fr b (hd9 b hb).1 (hd9 b hb).2.1 (hd9 b hb).2.2.1 (hd9 b hb).2.2.2.1
    rcases hY with ⟨rfl, x1, x2, x3⟩ | ⟨rfl, x1, x3⟩
    · rcases hN9 with ⟨z1, rfl, z3⟩ | ⟨z1, rfl, z3⟩
      · exact ⟨_, _, _, _, _, _, _, _, _, dr.mv x3 e2, z3, fun _ => x2, by omega, by have w := fx.1.2.1.2.2.1 x1; omega⟩
      · exact absurd x1 z1
    · rcases hN9 with ⟨z1, rfl, z3⟩ | ⟨z1, rfl, z3⟩
      · exact absurd z1 x1
      · exact ⟨_, _, _, _, _, _, _, _, _, dr.mv x3 e2, z3, fun w => absurd w (by decide), by omega, by omega⟩
  obtain ⟨g2, kd2, sv2, kp2, n2, bf2, pt2, tm2, sg2, dg2, mo2, hval, hkk, hbv⟩ := fin
  have ho2 : F2 o = eL 1 u1 := (fr o oM oA oQ oC).trans hu1
  have fins : LI LX F2 K m a q c o := ⟨g2, kd2, sv2, kp2, n2, bf2, kk, pt2, tm2, sg2, u1, dg2, mo2, ho2⟩
  refine zq_istore6 hZ dL_law_1787 (by decide) rfl ?_
  refine zq_aload_n2 hZ dL_law_1789 ?_
  refine zq_cV hZ (As := []) rfl dL_law_1790 ml_L_116 wy_X8_thrown (m_X8_thrown l mo2) (List.mem_append_right _ mM) mo2.2.1 rfl ⟨Nat.le_of_ble_eq_true rfl, Nat.le_of_ble_eq_true rfl⟩ ⟨by show k + 1 + 0 + 0 ≤ 601024; omega, by show n + 6 + 0 + 0 ≤ 7293034; omega⟩ (Nat.le_of_ble_eq_true rfl) (fun _ _ _ h => h.elim) (fun v9 L3 F3 hp => ?_)
  obtain ⟨rfl, rfl, rfl⟩ := hp
  refine zq_iload5 hZ dL_law_1793 ?_
  refine zq_icmp_eq hZ (tgt := 1800) dL_law_1795 rfl (by omega) (fun _ => ?_) (fun hne => absurd rfl hne)
  refine zq_iload5 hZ dL_law_1800 ?_
  have done : ∀ t5 t6 t7 t8, ZZ _ _ 1817 [some (.ref b), some (.ref (K 0)), some (.ref m), some (.ref o), some (.int (iI i)), t5, t6, t7, t8] [] (LX ++ [m, a, q, c, o]) F2 := fun t5 t6 t7 t8 => zq_goto hZ (tgt := 2079) dL_law_1817 rfl (cont (k + 1 + 0 + 0) (n + 6 + 0 + 0) F2 t5 t6 t7 t8 (by omega) (by omega) fins)
  refine zq_if_ne hZ (tgt := 1817) dL_law_1802 rfl (by omega) (fun _ => done _ _ _ _) (fun hk0 => ?_)
  refine zq_aload_n3 hZ dL_law_1805 ?_
  refine zq_iconst hZ dL_law_1806 ?_
  refine zq_laload hZ dL_law_1807 (List.mem_append_right _ oin) ho2 ⟨by omega, by omega, by omega⟩ ?_
  refine zq_iload6 hZ dL_law_1808 ?_
  refine zq_i2l hZ dL_law_1810 hbv ?_
  rw [hval hk0]
  refine zq_lcmp hZ dL_law_1811 ?_
  exact zq_if_eq_raw hZ (tgt := 1817) dL_law_1812 rfl (fun _ => done _ _ _ _) (fun hne => absurd ((lg_cmp_eq _ _).mpr rfl) hne)
set_option maxRecDepth 100000 in
set_option maxHeartbeats 4000000 in
theorem lc_47 (l : Launch) (hfl : l.flags = flags0) {ZZ : ZT} {tbl : List ExceptionTableEntry} {nm ds : String} {Φ : State → Prop} {post : Option Value → List Nat → (Nat → PE) → Prop} {xp : String → List Nat → (Nat → PE) → Prop} (hZ : ZZ = Zq Φ tbl l ⟨"DragonRingLaw", nm, ds⟩ cL_law 9 (some .boolean) room_1 [] post xp) (hΦ : ∀ s, Φ s → va_Nc xS xA s) {b Ls : Nat} {sx : Int → Int} (hsx : ∀ s, Φ s → va_X b Ls (fun j => iI (sx (j : Int))) s s.heap ∧ b < s.heap.size) (hok : ∀ j, -2147483648 ≤ sx j ∧ sx j ≤ 2147483647) {LX : List Nat} {F : Nat → PE} {K : Nat → Nat} {m a q c o : Nat} {i : Int} {k n : Nat} {s5 s6 s7 s8 : Option Value} (hL : LSx LX m a q c o) (hI : LI LX F K m a q c o) (hi : 0 ≤ i ∧ i + 2 < Ls ∧ Ls ≤ 1536) (hk : k + 1 ≤ 601024 ∧ n + 6 ≤ 7293034)
    (cont : ∀ (k2 n2 : Nat) (F2 : Nat → PE) (t5 t6 t7 t8 : Option Value), k2 ≤ k + 1 → n2 ≤ n + 6 → LI LX F2 K m a q c o → ZZ k2 n2 2079 [some (.ref b), some (.ref (K 0)), some (.ref m), some (.ref o), some (.int (iI i)), t5, t6, t7, t8] [] (LX ++ [m, a, q, c, o]) F2) :
    ZZ k n 1820 [some (.ref b), some (.ref (K 0)), some (.ref m), some (.ref o), some (.int (iI i)), s5, s6, s7, s8] [] (LX ++ [m, a, q, c, o]) F := by
  obtain ⟨g, kd, sv, kp, nn, bf, th, pt, tm, sg, u, dgt, mot, hu⟩ := hI
  have fx := dr.fx dgt
  have rg := fx.1.1
  obtain ⟨hd9, oM, oA, oQ, oC⟩ := hL
  have hv := (dr.fx (dg.pre dgt)).1
  have y1 := hok (i + 1)
  have y2 := hok (i + 2)
  have oin : o ∈ [m, a, q, c, o] := by simp
  have hd5 : ∀ b, b ∈ LX → b ≠ o := fun b hb => (hd9 b hb).2.2.2.2
  have mM : m ∈ [m, a, q, c, o] := by simp
  have aM : a ∈ [m, a, q, c, o] := by simp
  have qM : q ∈ [m, a, q, c, o] := by simp
  have cM : c ∈ [m, a, q, c, o] := by simp
  refine zq_aload_n1 hZ dL_law_1820 ?_
  refine zq_cV hZ (As := []) rfl dL_law_1821 ml_L_281 wy_X7_isGrowing (pm_fr [m, a, q, c, o] (m_X7_isGrowing l dgt)) (List.mem_append_left _ (dr.L dgt 0 (by omega))) (dr.S dgt).2.1 rfl ⟨Nat.le_of_ble_eq_true rfl, Nat.le_of_ble_eq_true rfl⟩ ⟨by show k + 0 ≤ 601024; omega, by show n + 0 ≤ 7293034; omega⟩ (Nat.le_of_ble_eq_true rfl) (fun _ _ _ h => by obtain ⟨_, _, h, _⟩ := h; exact h.elim) (fun v9 L9 F9 hp => ?_)
  obtain ⟨L8, F8, hp, rfl, e1, fM⟩ := hp
  obtain ⟨rfl, rfl, rfl⟩ := hp
  have mot9 := mo.mv (F1 := F9) mot (fM m mM) (fM a aM) (fM q qM) (fM c cM)
  refine zq_aload_n2 hZ dL_law_1824 ?_
  refine zq_cV hZ (As := []) rfl dL_law_1825 ml_L_285 wy_X8_isGrowing (m_X8_isGrowing l mot9 fx.1) (List.mem_append_right _ mM) mot9.2.1 rfl ⟨Nat.le_of_ble_eq_true rfl, Nat.le_of_ble_eq_true rfl⟩ ⟨by show k + 0 + 0 ≤ 601024; omega, by show n + 0 + 0 ≤ 7293034; omega⟩ (Nat.le_of_ble_eq_true rfl) (fun _ _ _ h => h.elim) (fun v9 L2 F2 hp => ?_)
  obtain ⟨rfl, rfl, fr, mo2⟩ := hp
  have e2 : ∀ b, b ∈ LX → F2 b = F9 b := fun b hb => fr b (hd9 b hb).1 (hd9 b hb).2.1 (hd9 b hb).2.2.1 (hd9 b hb).2.2.2.1
  have dg2 : dg LX F2 K g kd sv kp nn bf := dr.mv dgt (fun b hb => (e2 b hb).trans (e1 b hb))
  have ho2 : F2 o = eL 1 u := (fr o oM oA oQ oC).trans ((fM o oin).trans hu)
  exact zq_icmp_eq hZ (tgt := 2079) dL_law_1828 rfl (by split <;> omega) (fun _ => cont _ _ F2 _ _ _ _ (by show k + 0 + 0 ≤ k + 1; omega) (by show n + 0 + 0 ≤ n + 6; omega) ⟨_, _, _, _, _, _, _, _, _, _, u, dg2, mo2, ho2⟩) (fun hne => absurd rfl hne)
set_option maxRecDepth 100000 in
set_option maxHeartbeats 4000000 in
theorem lc_48 (l : Launch) (hfl : l.flags = flags0) {ZZ : ZT} {tbl : List ExceptionTableEntry} {nm ds : String} {Φ : State → Prop} {post : Option Value → List Nat → (Nat → PE) → Prop} {xp : String → List Nat → (Nat → PE) → Prop} (hZ : ZZ = Zq Φ tbl l ⟨"DragonRingLaw", nm, ds⟩ cL_law 9 (some .boolean) room_1 [] post xp) (hΦ : ∀ s, Φ s → va_Nc xS xA s) {b Ls : Nat} {sx : Int → Int} (hsx : ∀ s, Φ s → va_X b Ls (fun j => iI (sx (j : Int))) s s.heap ∧ b < s.heap.size) (hok : ∀ j, -2147483648 ≤ sx j ∧ sx j ≤ 2147483647) {LX : List Nat} {F : Nat → PE} {K : Nat → Nat} {m a q c o : Nat} {i : Int} {k n : Nat} {s5 s6 s7 s8 : Option Value} (hL : LSx LX m a q c o) (hI : LI LX F K m a q c o) (hi : 0 ≤ i ∧ i + 2 < Ls ∧ Ls ≤ 1536) (hk : k + 1 ≤ 601024 ∧ n + 6 ≤ 7293034)
    (cont : ∀ (k2 n2 : Nat) (F2 : Nat → PE) (t5 t6 t7 t8 : Option Value), k2 ≤ k + 1 → n2 ≤ n + 6 → LI LX F2 K m a q c o → ZZ k2 n2 2079 [some (.ref b), some (.ref (K 0)), some (.ref m), some (.ref o), some (.int (iI i)), t5, t6, t7, t8] [] (LX ++ [m, a, q, c, o]) F2) :
    ZZ k n 1833 [some (.ref b), some (.ref (K 0)), some (.ref m), some (.ref o), some (.int (iI i)), s5, s6, s7, s8] [] (LX ++ [m, a, q, c, o]) F := by
  obtain ⟨g, kd, sv, kp, nn, bf, th, pt, tm, sg, u, dgt, mot, hu⟩ := hI
  have fx := dr.fx dgt
  have rg := fx.1.1
  obtain ⟨hd9, oM, oA, oQ, oC⟩ := hL
  have hv := (dr.fx (dg.pre dgt)).1
  have y1 := hok (i + 1)
  have y2 := hok (i + 2)
  have oin : o ∈ [m, a, q, c, o] := by simp
  have hd5 : ∀ b, b ∈ LX → b ≠ o := fun b hb => (hd9 b hb).2.2.2.2
  have mM : m ∈ [m, a, q, c, o] := by simp
  have aM : a ∈ [m, a, q, c, o] := by simp
  have qM : q ∈ [m, a, q, c, o] := by simp
  have cM : c ∈ [m, a, q, c, o] := by simp
  refine zq_aload_n1 hZ dL_law_1833 ?_
  refine zq_cV hZ (As := []) rfl dL_law_1834 ml_L_286 wy_X7_canTurnYank (pm_fr [m, a, q, c, o] (m_X7_canTurnYank l dgt)) (List.mem_append_left _ (dr.L dgt 0 (by omega))) (dr.S dgt).2.1 rfl ⟨Nat.le_of_ble_eq_true rfl, Nat.le_of_ble_eq_true rfl⟩ ⟨by show k + 0 ≤ 601024; omega, by show n + 0 ≤ 7293034; omega⟩ (Nat.le_of_ble_eq_true rfl) (fun _ _ _ h => by obtain ⟨_, _, h, _⟩ := h; exact h.elim) (fun v9 L9 F9 hp => ?_)
  obtain ⟨L8, F8, hp, rfl, e1, fM⟩ := hp
  obtain ⟨rfl, rfl, rfl⟩ := hp
  have mot9 := mo.mv (F1 := F9) mot (fM m mM) (fM a aM) (fM q qM) (fM c cM)
  refine zq_aload_n2 hZ dL_law_1837 ?_
  refine zq_cV hZ (As := []) rfl dL_law_1838 ml_L_289 wy_X8_canTurnYank (m_X8_canTurnYank l mot9 fx.1) (List.mem_append_right _ mM) mot9.2.1 rfl ⟨Nat.le_of_ble_eq_true rfl, Nat.le_of_ble_eq_true rfl⟩ ⟨by show k + 0 + 0 ≤ 601024; omega, by show n + 0 + 0 ≤ 7293034; omega⟩ (Nat.le_of_ble_eq_true rfl) (fun _ _ _ h => h.elim) (fun v9 L2 F2 hp => ?_)
  obtain ⟨rfl, rfl, fr, mo2⟩ := hp
  have e2 : ∀ b, b ∈ LX → F2 b = F9 b := fun b hb => fr b (hd9 b hb).1 (hd9 b hb).2.1 (hd9 b hb).2.2.1 (hd9 b hb).2.2.2.1
  have dg2 : dg LX F2 K g kd sv kp nn bf := dr.mv dgt (fun b hb => (e2 b hb).trans (e1 b hb))
  have ho2 : F2 o = eL 1 u := (fr o oM oA oQ oC).trans ((fM o oin).trans hu)
  exact zq_icmp_eq hZ (tgt := 2079) dL_law_1841 rfl (by split <;> omega) (fun _ => cont _ _ F2 _ _ _ _ (by show k + 0 + 0 ≤ k + 1; omega) (by show n + 0 + 0 ≤ n + 6; omega) ⟨_, _, _, _, _, _, _, _, _, _, u, dg2, mo2, ho2⟩) (fun hne => absurd rfl hne)
set_option maxRecDepth 100000 in
set_option maxHeartbeats 4000000 in
theorem lc_49 (l : Launch) (hfl : l.flags = flags0) {ZZ : ZT} {tbl : List ExceptionTableEntry} {nm ds : String} {Φ : State → Prop} {post : Option Value → List Nat → (Nat → PE) → Prop} {xp : String → List Nat → (Nat → PE) → Prop} (hZ : ZZ = Zq Φ tbl l ⟨"DragonRingLaw", nm, ds⟩ cL_law 9 (some .boolean) room_1 [] post xp) (hΦ : ∀ s, Φ s → va_Nc xS xA s) {b Ls : Nat} {sx : Int → Int} (hsx : ∀ s, Φ s → va_X b Ls (fun j => iI (sx (j : Int))) s s.heap ∧ b < s.heap.size) (hok : ∀ j, -2147483648 ≤ sx j ∧ sx j ≤ 2147483647) {LX : List Nat} {F : Nat → PE} {K : Nat → Nat} {m a q c o : Nat} {i : Int} {k n : Nat} {s5 s6 s7 s8 : Option Value} (hL : LSx LX m a q c o) (hI : LI LX F K m a q c o) (hi : 0 ≤ i ∧ i + 2 < Ls ∧ Ls ≤ 1536) (hk : k + 1 ≤ 601024 ∧ n + 6 ≤ 7293034)
    (cont : ∀ (k2 n2 : Nat) (F2 : Nat → PE) (t5 t6 t7 t8 : Option Value), k2 ≤ k + 1 → n2 ≤ n + 6 → LI LX F2 K m a q c o → ZZ k2 n2 2079 [some (.ref b), some (.ref (K 0)), some (.ref m), some (.ref o), some (.int (iI i)), t5, t6, t7, t8] [] (LX ++ [m, a, q, c, o]) F2) :
    ZZ k n 1846 [some (.ref b), some (.ref (K 0)), some (.ref m), some (.ref o), some (.int (iI i)), s5, s6, s7, s8] [] (LX ++ [m, a, q, c, o]) F := by
  obtain ⟨g, kd, sv, kp, nn, bf, th, pt, tm, sg, u, dgt, mot, hu⟩ := hI
  have fx := dr.fx dgt
  have rg := fx.1.1
  obtain ⟨hd9, oM, oA, oQ, oC⟩ := hL
  have hv := (dr.fx (dg.pre dgt)).1
  have y1 := hok (i + 1)
  have y2 := hok (i + 2)
  have oin : o ∈ [m, a, q, c, o] := by simp
  have hd5 : ∀ b, b ∈ LX → b ≠ o := fun b hb => (hd9 b hb).2.2.2.2
  have mM : m ∈ [m, a, q, c, o] := by simp
  have aM : a ∈ [m, a, q, c, o] := by simp
  have qM : q ∈ [m, a, q, c, o] := by simp
  have cM : c ∈ [m, a, q, c, o] := by simp
  refine zq_aload_n1 hZ dL_law_1846 ?_
  refine zq_aload_n0 hZ dL_law_1847 ?_
  refine zq_iload4 hZ dL_law_1848 ?_
  refine zq_iconst hZ dL_law_1850 ?_
  refine zq_iadd hZ dL_law_1851 ?_
  refine zq_sld hZ hsx rfl dL_law_1852 (by omega) ?_
  refine zq_aload_n3 hZ dL_law_1853 ?_
  refine zq_cSh hZ hΦ (As := [_, _, _]) rfl dL_law_1854 ml_L_290 wy_L_lengthIfYanked (m_L_lengthIfYanked l (M := [m, a, q, c, o]) hfl (dgt) oin hd5 hu y1) ⟨Nat.le_of_ble_eq_true rfl, Nat.le_of_ble_eq_true rfl⟩ ⟨by show k + 1 ≤ 601024; omega, by show n + 6 ≤ 7293034; omega⟩ (Nat.le_of_ble_eq_true rfl) (fun v9 L9 F9 hp => ?_)
  obtain ⟨rfl, fM, u1, hu1, hX⟩ := hp
  obtain ⟨kk, rfl, hY⟩ : ∃ kk, v9 = some (.int (iI kk)) ∧ ((kk = 0 ∧ (0 ≤ (sx (i + 1)) ∧ (sx (i + 1)) < g 3) ∧ u1 0 = g 0 + g (10 + (sx (i + 1))) ∧ dr LX F9 K g kd sv (sH g) kp (sQ g) nn bf) ∨ (kk = 1 ∧ ¬ ((0 ≤ (sx (i + 1)) ∧ (sx (i + 1)) < g 3)) ∧ dr LX F9 K g kd sv (sH g) kp (sQ g) nn bf)) := by
    rcases hX with ⟨x1, x2, x3, x4⟩ | ⟨x1, x2, x3⟩
    · exact ⟨0, x2, Or.inl ⟨rfl, x1, x3, x4⟩⟩
    · exact ⟨1, x2, Or.inr ⟨rfl, x1, x3⟩⟩
  have mot9 := mo.mv (F1 := F9) mot (fM m mM (Ne.symm oM)) (fM a aM (Ne.symm oA)) (fM q qM (Ne.symm oQ)) (fM c cM (Ne.symm oC))
  refine zq_istore5 hZ dL_law_1857 (by decide) rfl ?_
  refine zq_aload_n2 hZ dL_law_1859 ?_
  refine zq_aload_n0 hZ dL_law_1860 ?_
  refine zq_iload4 hZ dL_law_1861 ?_
  refine zq_iconst hZ dL_law_1863 ?_
  refine zq_iadd hZ dL_law_1864 ?_
  refine zq_sld hZ hsx rfl dL_law_1865 (by omega) ?_
  refine zq_cV hZ (As := [_]) rfl dL_law_1866 ml_L_292 wy_X8_lengthIfYanked (m_X8_lengthIfYanked l mot9 fx.1 y1) (List.mem_append_right _ mM) mot9.2.1 rfl ⟨Nat.le_of_ble_eq_true rfl, Nat.le_of_ble_eq_true rfl⟩ ⟨by show k + 1 + 0 ≤ 601024; omega, by show n + 6 + 0 ≤ 7293034; omega⟩ (Nat.le_of_ble_eq_true rfl) (fun _ _ _ h => h.elim) (fun v9 L2 F2 hp => ?_)
  obtain ⟨rfl, fr, hM⟩ := hp
  obtain ⟨bv, rfl, hN9⟩ : ∃ bv, v9 = some (.int (iI bv)) ∧ (((0 ≤ (sx (i + 1)) ∧ (sx (i + 1)) < g 3) ∧ bv = g 0 + g (10 + (sx (i + 1))) ∧ mo (LX ++ [m, a, q, c, o]) F2 m a q c g sv 0 kd nn pt tm sg kp bf) ∨ (¬ ((0 ≤ (sx (i + 1)) ∧ (sx (i + 1)) < g 3)) ∧ bv = 0 ∧ mo (LX ++ [m, a, q, c, o]) F2 m a q c g sv 1 kd nn pt tm sg kp bf)) := by
    rcases hM with ⟨x1, x2, x3⟩ | ⟨x1, x2, x3⟩
    · exact ⟨_, x2, Or.inl ⟨x1, rfl, x3⟩⟩
    · exact ⟨0, x2, Or.inr ⟨x1, rfl, x3⟩⟩
  have fin : ∃ g2 kd2 sv2 kp2 n2 bf2 pt2 tm2 sg2, dg LX F2 K g2 kd2 sv2 kp2 n2 bf2 ∧ mo (LX ++ [m, a, q, c, o]) F2 m a q c g2 sv2 kk kd2 n2 pt2 tm2 sg2 kp2 bf2 ∧ (kk = 0 → u1 0 = bv) ∧ (0 ≤ kk ∧ kk ≤ 2) ∧ (-2147483648 ≤ bv ∧ bv ≤ 2147483647) := by
    have e2 : ∀ b, b ∈ LX → F2 b = F9 b := fun b hb => fr b (hd9 b hb).1 (hd9 b hb).2.1 (hd9 b hb).2.2.1 (hd9 b hb).2.2.2.1
    rcases hY with ⟨rfl, x1, x2, x3⟩ | ⟨rfl, x1, x3⟩
    · rcases hN9 with ⟨z1, rfl, z3⟩ | ⟨z1, rfl, z3⟩
      · exact ⟨_, _, _, _, _, _, _, _, _, dr.mv x3 e2, z3, fun _ => x2, by omega, by have w := fx.1.2.1.1 (sx (i + 1)) x1.1 x1.2; omega⟩
      · exact absurd x1 z1
    · rcases hN9 with ⟨z1, rfl, z3⟩ | ⟨z1, rfl, z3⟩
      · exact absurd z1 x1
      · exact ⟨_, _, _, _, _, _, _, _, _, dr.mv x3 e2, z3, fun w => absurd w (by decide), by omega, by omega⟩
  obtain ⟨g2, kd2, sv2, kp2, n2, bf2, pt2, tm2, sg2, dg2, mo2, hval, hkk, hbv⟩ := fin
  have ho2 : F2 o = eL 1 u1 := (fr o oM oA oQ oC).trans hu1
  have fins : LI LX F2 K m a q c o := ⟨g2, kd2, sv2, kp2, n2, bf2, kk, pt2, tm2, sg2, u1, dg2, mo2, ho2⟩
  refine zq_istore6 hZ dL_law_1869 (by decide) rfl ?_
  refine zq_aload_n2 hZ dL_law_1871 ?_
  refine zq_cV hZ (As := []) rfl dL_law_1872 ml_L_116 wy_X8_thrown (m_X8_thrown l mo2) (List.mem_append_right _ mM) mo2.2.1 rfl ⟨Nat.le_of_ble_eq_true rfl, Nat.le_of_ble_eq_true rfl⟩ ⟨by show k + 1 + 0 + 0 ≤ 601024; omega, by show n + 6 + 0 + 0 ≤ 7293034; omega⟩ (Nat.le_of_ble_eq_true rfl) (fun _ _ _ h => h.elim) (fun v9 L3 F3 hp => ?_)
  obtain ⟨rfl, rfl, rfl⟩ := hp
  refine zq_iload5 hZ dL_law_1875 ?_
  refine zq_icmp_eq hZ (tgt := 1882) dL_law_1877 rfl (by omega) (fun _ => ?_) (fun hne => absurd rfl hne)
  refine zq_iload5 hZ dL_law_1882 ?_
  have done : ∀ t5 t6 t7 t8, ZZ _ _ 1899 [some (.ref b), some (.ref (K 0)), some (.ref m), some (.ref o), some (.int (iI i)), t5, t6, t7, t8] [] (LX ++ [m, a, q, c, o]) F2 := fun t5 t6 t7 t8 => zq_goto hZ (tgt := 2079) dL_law_1899 rfl (cont (k + 1 + 0 + 0) (n + 6 + 0 + 0) F2 t5 t6 t7 t8 (by omega) (by omega) fins)
  refine zq_if_ne hZ (tgt := 1899) dL_law_1884 rfl (by omega) (fun _ => done _ _ _ _) (fun hk0 => ?_)
  refine zq_aload_n3 hZ dL_law_1887 ?_
  refine zq_iconst hZ dL_law_1888 ?_
  refine zq_laload hZ dL_law_1889 (List.mem_append_right _ oin) ho2 ⟨by omega, by omega, by omega⟩ ?_
  refine zq_iload6 hZ dL_law_1890 ?_
  refine zq_i2l hZ dL_law_1892 hbv ?_
  rw [hval hk0]
  refine zq_lcmp hZ dL_law_1893 ?_
  exact zq_if_eq_raw hZ (tgt := 1899) dL_law_1894 rfl (fun _ => done _ _ _ _) (fun hne => absurd ((lg_cmp_eq _ _).mpr rfl) hne)
set_option maxRecDepth 100000 in
set_option maxHeartbeats 4000000 in
theorem lc_50 (l : Launch) (hfl : l.flags = flags0) {ZZ : ZT} {tbl : List ExceptionTableEntry} {nm ds : String} {Φ : State → Prop} {post : Option Value → List Nat → (Nat → PE) → Prop} {xp : String → List Nat → (Nat → PE) → Prop} (hZ : ZZ = Zq Φ tbl l ⟨"DragonRingLaw", nm, ds⟩ cL_law 9 (some .boolean) room_1 [] post xp) (hΦ : ∀ s, Φ s → va_Nc xS xA s) {b Ls : Nat} {sx : Int → Int} (hsx : ∀ s, Φ s → va_X b Ls (fun j => iI (sx (j : Int))) s s.heap ∧ b < s.heap.size) (hok : ∀ j, -2147483648 ≤ sx j ∧ sx j ≤ 2147483647) {LX : List Nat} {F : Nat → PE} {K : Nat → Nat} {m a q c o : Nat} {i : Int} {k n : Nat} {s5 s6 s7 s8 : Option Value} (hL : LSx LX m a q c o) (hI : LI LX F K m a q c o) (hi : 0 ≤ i ∧ i + 2 < Ls ∧ Ls ≤ 1536) (hk : k + 1 ≤ 601024 ∧ n + 6 ≤ 7293034)
    (cont : ∀ (k2 n2 : Nat) (F2 : Nat → PE) (t5 t6 t7 t8 : Option Value), k2 ≤ k + 1 → n2 ≤ n + 6 → LI LX F2 K m a q c o → ZZ k2 n2 2079 [some (.ref b), some (.ref (K 0)), some (.ref m), some (.ref o), some (.int (iI i)), t5, t6, t7, t8] [] (LX ++ [m, a, q, c, o]) F2) :
    ZZ k n 1902 [some (.ref b), some (.ref (K 0)), some (.ref m), some (.ref o), some (.int (iI i)), s5, s6, s7, s8] [] (LX ++ [m, a, q, c, o]) F := by
  obtain ⟨g, kd, sv, kp, nn, bf, th, pt, tm, sg, u, dgt, mot, hu⟩ := hI
  have fx := dr.fx dgt
  have rg := fx.1.1
  obtain ⟨hd9, oM, oA, oQ, oC⟩ := hL
  have hv := (dr.fx (dg.pre dgt)).1
  have y1 := hok (i + 1)
  have y2 := hok (i + 2)
  have oin : o ∈ [m, a, q, c, o] := by simp
  have hd5 : ∀ b, b ∈ LX → b ≠ o := fun b hb => (hd9 b hb).2.2.2.2
  have mM : m ∈ [m, a, q, c, o] := by simp
  have aM : a ∈ [m, a, q, c, o] := by simp
  have qM : q ∈ [m, a, q, c, o] := by simp
  have cM : c ∈ [m, a, q, c, o] := by simp
  refine zq_aload_n1 hZ dL_law_1902 ?_
  refine zq_cV hZ (As := []) rfl dL_law_1903 ml_L_293 wy_X7_weight (pm_fr [m, a, q, c, o] (m_X7_weight l dgt)) (List.mem_append_left _ (dr.L dgt 0 (by omega))) (dr.S dgt).2.1 rfl ⟨Nat.le_of_ble_eq_true rfl, Nat.le_of_ble_eq_true rfl⟩ ⟨by show k + 0 ≤ 601024; omega, by show n + 0 ≤ 7293034; omega⟩ (Nat.le_of_ble_eq_true rfl) (fun _ _ _ h => by obtain ⟨_, _, h, _⟩ := h; exact h.elim) (fun v9 L9 F9 hp => ?_)
  obtain ⟨L8, F8, hp, rfl, e1, fM⟩ := hp
  obtain ⟨rfl, rfl, rfl⟩ := hp
  have mot9 := mo.mv (F1 := F9) mot (fM m mM) (fM a aM) (fM q qM) (fM c cM)
  refine zq_aload_n2 hZ dL_law_1906 ?_
  refine zq_cV hZ (As := []) rfl dL_law_1907 ml_L_296 wy_X8_weight (m_X8_weight l mot9 fx.1) (List.mem_append_right _ mM) mot9.2.1 rfl ⟨Nat.le_of_ble_eq_true rfl, Nat.le_of_ble_eq_true rfl⟩ ⟨by show k + 0 + 0 ≤ 601024; omega, by show n + 0 + 0 ≤ 7293034; omega⟩ (Nat.le_of_ble_eq_true rfl) (fun _ _ _ h => h.elim) (fun v9 L2 F2 hp => ?_)
  obtain ⟨rfl, rfl, fr, mo2⟩ := hp
  have e2 : ∀ b, b ∈ LX → F2 b = F9 b := fun b hb => fr b (hd9 b hb).1 (hd9 b hb).2.1 (hd9 b hb).2.2.1 (hd9 b hb).2.2.2.1
  have dg2 : dg LX F2 K g kd sv kp nn bf := dr.mv dgt (fun b hb => (e2 b hb).trans (e1 b hb))
  have ho2 : F2 o = eL 1 u := (fr o oM oA oQ oC).trans ((fM o oin).trans hu)
  exact zq_icmp_eq hZ (tgt := 2079) dL_law_1910 rfl (by have w := smH_rg (hl := fun i => g (10 + i)) (g 3).toNat (fun i i0 i1 => by have u := fx.1.2.1.1 i (by omega) (by omega); omega); unfold wgA; omega) (fun _ => cont _ _ F2 _ _ _ _ (by show k + 0 + 0 ≤ k + 1; omega) (by show n + 0 + 0 ≤ n + 6; omega) ⟨_, _, _, _, _, _, _, _, _, _, u, dg2, mo2, ho2⟩) (fun hne => absurd rfl hne)
set_option maxRecDepth 100000 in
set_option maxHeartbeats 4000000 in
theorem lc_51 (l : Launch) (hfl : l.flags = flags0) {ZZ : ZT} {tbl : List ExceptionTableEntry} {nm ds : String} {Φ : State → Prop} {post : Option Value → List Nat → (Nat → PE) → Prop} {xp : String → List Nat → (Nat → PE) → Prop} (hZ : ZZ = Zq Φ tbl l ⟨"DragonRingLaw", nm, ds⟩ cL_law 9 (some .boolean) room_1 [] post xp) (hΦ : ∀ s, Φ s → va_Nc xS xA s) {b Ls : Nat} {sx : Int → Int} (hsx : ∀ s, Φ s → va_X b Ls (fun j => iI (sx (j : Int))) s s.heap ∧ b < s.heap.size) (hok : ∀ j, -2147483648 ≤ sx j ∧ sx j ≤ 2147483647) {LX : List Nat} {F : Nat → PE} {K : Nat → Nat} {m a q c o : Nat} {i : Int} {k n : Nat} {s5 s6 s7 s8 : Option Value} (hL : LSx LX m a q c o) (hI : LI LX F K m a q c o) (hi : 0 ≤ i ∧ i + 2 < Ls ∧ Ls ≤ 1536) (hk : k + 1 ≤ 601024 ∧ n + 6 ≤ 7293034)
    (cont : ∀ (k2 n2 : Nat) (F2 : Nat → PE) (t5 t6 t7 t8 : Option Value), k2 ≤ k + 1 → n2 ≤ n + 6 → LI LX F2 K m a q c o → ZZ k2 n2 2079 [some (.ref b), some (.ref (K 0)), some (.ref m), some (.ref o), some (.int (iI i)), t5, t6, t7, t8] [] (LX ++ [m, a, q, c, o]) F2) :
    ZZ k n 1915 [some (.ref b), some (.ref (K 0)), some (.ref m), some (.ref o), some (.int (iI i)), s5, s6, s7, s8] [] (LX ++ [m, a, q, c, o]) F := by
  obtain ⟨g, kd, sv, kp, nn, bf, th, pt, tm, sg, u, dgt, mot, hu⟩ := hI
  have fx := dr.fx dgt
  have rg := fx.1.1
  obtain ⟨hd9, oM, oA, oQ, oC⟩ := hL
  have hv := (dr.fx (dg.pre dgt)).1
  have y1 := hok (i + 1)
  have y2 := hok (i + 2)
  have oin : o ∈ [m, a, q, c, o] := by simp
  have hd5 : ∀ b, b ∈ LX → b ≠ o := fun b hb => (hd9 b hb).2.2.2.2
  have mM : m ∈ [m, a, q, c, o] := by simp
  have aM : a ∈ [m, a, q, c, o] := by simp
  have qM : q ∈ [m, a, q, c, o] := by simp
  have cM : c ∈ [m, a, q, c, o] := by simp
  refine zq_aload_n1 hZ dL_law_1915 ?_
  refine zq_aload_n3 hZ dL_law_1916 ?_
  refine zq_cSh hZ hΦ (As := [_, _]) rfl dL_law_1917 ml_L_297 wy_L_heaviest (m_L_heaviest l (M := [m, a, q, c, o]) hfl (dgt) oin hd5 hu) ⟨Nat.le_of_ble_eq_true rfl, Nat.le_of_ble_eq_true rfl⟩ ⟨by show k + 1 ≤ 601024; omega, by show n + 6 ≤ 7293034; omega⟩ (Nat.le_of_ble_eq_true rfl) (fun v9 L9 F9 hp => ?_)
  obtain ⟨rfl, fM, u1, hu1, hX⟩ := hp
  obtain ⟨kk, rfl, hY⟩ : ∃ kk, v9 = some (.int (iI kk)) ∧ ((kk = 0 ∧ 0 < g 3 ∧ u1 0 = lgA g ∧ dr LX F9 K g kd sv (sH g) kp (sQ g) nn bf) ∨ (kk = 1 ∧ ¬ (0 < g 3) ∧ dr LX F9 K g kd sv (sH g) kp (sQ g) nn bf)) := by
    rcases hX with ⟨x1, x2, x3, x4⟩ | ⟨x1, x2, x3⟩
    · exact ⟨0, x2, Or.inl ⟨rfl, x1, x3, x4⟩⟩
    · exact ⟨1, x2, Or.inr ⟨rfl, x1, x3⟩⟩
  have mot9 := mo.mv (F1 := F9) mot (fM m mM (Ne.symm oM)) (fM a aM (Ne.symm oA)) (fM q qM (Ne.symm oQ)) (fM c cM (Ne.symm oC))
  refine zq_istore5 hZ dL_law_1920 (by decide) rfl ?_
  refine zq_aload_n2 hZ dL_law_1922 ?_
  refine zq_cV hZ (As := []) rfl dL_law_1923 ml_L_299 wy_X8_heaviest (m_X8_heaviest l mot9 fx.1) (List.mem_append_right _ mM) mot9.2.1 rfl ⟨Nat.le_of_ble_eq_true rfl, Nat.le_of_ble_eq_true rfl⟩ ⟨by show k + 1 + 0 ≤ 601024; omega, by show n + 6 + 0 ≤ 7293034; omega⟩ (Nat.le_of_ble_eq_true rfl) (fun _ _ _ h => h.elim) (fun v9 L2 F2 hp => ?_)
  obtain ⟨rfl, fr, hM⟩ := hp
  obtain ⟨bv, rfl, hN9⟩ : ∃ bv, v9 = some (.int (iI bv)) ∧ ((0 < g 3 ∧ bv = lgA g ∧ mo (LX ++ [m, a, q, c, o]) F2 m a q c g sv 0 kd nn pt tm sg kp bf) ∨ (¬ (0 < g 3) ∧ bv = 0 ∧ mo (LX ++ [m, a, q, c, o]) F2 m a q c g sv 1 kd nn pt tm sg kp bf)) := by
    rcases hM with ⟨x1, x2, x3⟩ | ⟨x1, x2, x3⟩
    · exact ⟨_, x2, Or.inl ⟨x1, rfl, x3⟩⟩
    · exact ⟨0, x2, Or.inr ⟨x1, rfl, x3⟩⟩
  have fin : ∃ g2 kd2 sv2 kp2 n2 bf2 pt2 tm2 sg2, dg LX F2 K g2 kd2 sv2 kp2 n2 bf2 ∧ mo (LX ++ [m, a, q, c, o]) F2 m a q c g2 sv2 kk kd2 n2 pt2 tm2 sg2 kp2 bf2 ∧ (kk = 0 → u1 0 = bv) ∧ (0 ≤ kk ∧ kk ≤ 2) ∧ (-2147483648 ≤ bv ∧ bv ≤ 2147483647) := by
    have e2 : ∀ b, b ∈ LX → F2 b = F9 b := fun b hb => fr b (hd9 b hb).1 (hd9 b hb).2.1 (hd9 b hb).2.2.1 (hd9 b hb).2.2.2.1
    rcases hY with ⟨rfl, x1, x2, x3⟩ | ⟨rfl, x1, x3⟩
    · rcases hN9 with ⟨z1, rfl, z3⟩ | ⟨z1, rfl, z3⟩
      · exact ⟨_, _, _, _, _, _, _, _, _, dr.mv x3 e2, z3, fun _ => x2, by omega, by have w := lgH_rg (hl := fun i => g (10 + i)) (g 3).toNat; unfold lgA; omega⟩
      · exact absurd x1 z1
    · rcases hN9 with ⟨z1, rfl, z3⟩ | ⟨z1, rfl, z3⟩
      · exact absurd z1 x1
      · exact ⟨_, _, _, _, _, _, _, _, _, dr.mv x3 e2, z3, fun w => absurd w (by decide), by omega, by omega⟩
  obtain ⟨g2, kd2, sv2, kp2, n2, bf2, pt2, tm2, sg2, dg2, mo2, hval, hkk, hbv⟩ := fin
  have ho2 : F2 o = eL 1 u1 := (fr o oM oA oQ oC).trans hu1
  have fins : LI LX F2 K m a q c o := ⟨g2, kd2, sv2, kp2, n2, bf2, kk, pt2, tm2, sg2, u1, dg2, mo2, ho2⟩
  refine zq_istore6 hZ dL_law_1926 (by decide) rfl ?_
  refine zq_aload_n2 hZ dL_law_1928 ?_
  refine zq_cV hZ (As := []) rfl dL_law_1929 ml_L_116 wy_X8_thrown (m_X8_thrown l mo2) (List.mem_append_right _ mM) mo2.2.1 rfl ⟨Nat.le_of_ble_eq_true rfl, Nat.le_of_ble_eq_true rfl⟩ ⟨by show k + 1 + 0 + 0 ≤ 601024; omega, by show n + 6 + 0 + 0 ≤ 7293034; omega⟩ (Nat.le_of_ble_eq_true rfl) (fun _ _ _ h => h.elim) (fun v9 L3 F3 hp => ?_)
  obtain ⟨rfl, rfl, rfl⟩ := hp
  refine zq_iload5 hZ dL_law_1932 ?_
  refine zq_icmp_eq hZ (tgt := 1939) dL_law_1934 rfl (by omega) (fun _ => ?_) (fun hne => absurd rfl hne)
  refine zq_iload5 hZ dL_law_1939 ?_
  have done : ∀ t5 t6 t7 t8, ZZ _ _ 1956 [some (.ref b), some (.ref (K 0)), some (.ref m), some (.ref o), some (.int (iI i)), t5, t6, t7, t8] [] (LX ++ [m, a, q, c, o]) F2 := fun t5 t6 t7 t8 => zq_goto hZ (tgt := 2079) dL_law_1956 rfl (cont (k + 1 + 0 + 0) (n + 6 + 0 + 0) F2 t5 t6 t7 t8 (by omega) (by omega) fins)
  refine zq_if_ne hZ (tgt := 1956) dL_law_1941 rfl (by omega) (fun _ => done _ _ _ _) (fun hk0 => ?_)
  refine zq_aload_n3 hZ dL_law_1944 ?_
  refine zq_iconst hZ dL_law_1945 ?_
  refine zq_laload hZ dL_law_1946 (List.mem_append_right _ oin) ho2 ⟨by omega, by omega, by omega⟩ ?_
  refine zq_iload6 hZ dL_law_1947 ?_
  refine zq_i2l hZ dL_law_1949 hbv ?_
  rw [hval hk0]
  refine zq_lcmp hZ dL_law_1950 ?_
  exact zq_if_eq_raw hZ (tgt := 1956) dL_law_1951 rfl (fun _ => done _ _ _ _) (fun hne => absurd ((lg_cmp_eq _ _).mpr rfl) hne)
set_option maxRecDepth 100000 in
set_option maxHeartbeats 4000000 in
theorem lc_52 (l : Launch) (hfl : l.flags = flags0) {ZZ : ZT} {tbl : List ExceptionTableEntry} {nm ds : String} {Φ : State → Prop} {post : Option Value → List Nat → (Nat → PE) → Prop} {xp : String → List Nat → (Nat → PE) → Prop} (hZ : ZZ = Zq Φ tbl l ⟨"DragonRingLaw", nm, ds⟩ cL_law 9 (some .boolean) room_1 [] post xp) (hΦ : ∀ s, Φ s → va_Nc xS xA s) {b Ls : Nat} {sx : Int → Int} (hsx : ∀ s, Φ s → va_X b Ls (fun j => iI (sx (j : Int))) s s.heap ∧ b < s.heap.size) (hok : ∀ j, -2147483648 ≤ sx j ∧ sx j ≤ 2147483647) {LX : List Nat} {F : Nat → PE} {K : Nat → Nat} {m a q c o : Nat} {i : Int} {k n : Nat} {s5 s6 s7 s8 : Option Value} (hL : LSx LX m a q c o) (hI : LI LX F K m a q c o) (hi : 0 ≤ i ∧ i + 2 < Ls ∧ Ls ≤ 1536) (hk : k + 1 ≤ 601024 ∧ n + 6 ≤ 7293034)
    (cont : ∀ (k2 n2 : Nat) (F2 : Nat → PE) (t5 t6 t7 t8 : Option Value), k2 ≤ k + 1 → n2 ≤ n + 6 → LI LX F2 K m a q c o → ZZ k2 n2 2079 [some (.ref b), some (.ref (K 0)), some (.ref m), some (.ref o), some (.int (iI i)), t5, t6, t7, t8] [] (LX ++ [m, a, q, c, o]) F2) :
    ZZ k n 1959 [some (.ref b), some (.ref (K 0)), some (.ref m), some (.ref o), some (.int (iI i)), s5, s6, s7, s8] [] (LX ++ [m, a, q, c, o]) F := by
  obtain ⟨g, kd, sv, kp, nn, bf, th, pt, tm, sg, u, dgt, mot, hu⟩ := hI
  have fx := dr.fx dgt
  have rg := fx.1.1
  obtain ⟨hd9, oM, oA, oQ, oC⟩ := hL
  have hv := (dr.fx (dg.pre dgt)).1
  have y1 := hok (i + 1)
  have y2 := hok (i + 2)
  have oin : o ∈ [m, a, q, c, o] := by simp
  have hd5 : ∀ b, b ∈ LX → b ≠ o := fun b hb => (hd9 b hb).2.2.2.2
  have mM : m ∈ [m, a, q, c, o] := by simp
  have aM : a ∈ [m, a, q, c, o] := by simp
  have qM : q ∈ [m, a, q, c, o] := by simp
  have cM : c ∈ [m, a, q, c, o] := by simp
  refine zq_aload_n1 hZ dL_law_1959 ?_
  refine zq_cV hZ (As := []) rfl dL_law_1960 ml_L_300 wy_X7_killed (pm_fr [m, a, q, c, o] (m_X7_killed l dgt)) (List.mem_append_left _ (dr.L dgt 0 (by omega))) (dr.S dgt).2.1 rfl ⟨Nat.le_of_ble_eq_true rfl, Nat.le_of_ble_eq_true rfl⟩ ⟨by show k + 0 ≤ 601024; omega, by show n + 0 ≤ 7293034; omega⟩ (Nat.le_of_ble_eq_true rfl) (fun _ _ _ h => by obtain ⟨_, _, h, _⟩ := h; exact h.elim) (fun v9 L9 F9 hp => ?_)
  obtain ⟨L8, F8, hp, rfl, e1, fM⟩ := hp
  obtain ⟨rfl, rfl, rfl⟩ := hp
  have mot9 := mo.mv (F1 := F9) mot (fM m mM) (fM a aM) (fM q qM) (fM c cM)
  refine zq_aload_n2 hZ dL_law_1963 ?_
  refine zq_cV hZ (As := []) rfl dL_law_1964 ml_L_303 wy_X8_killed (m_X8_killed l mot9 fx.1) (List.mem_append_right _ mM) mot9.2.1 rfl ⟨Nat.le_of_ble_eq_true rfl, Nat.le_of_ble_eq_true rfl⟩ ⟨by show k + 0 + 0 ≤ 601024; omega, by show n + 0 + 0 ≤ 7293034; omega⟩ (Nat.le_of_ble_eq_true rfl) (fun _ _ _ h => h.elim) (fun v9 L2 F2 hp => ?_)
  obtain ⟨rfl, rfl, fr, mo2⟩ := hp
  have e2 : ∀ b, b ∈ LX → F2 b = F9 b := fun b hb => fr b (hd9 b hb).1 (hd9 b hb).2.1 (hd9 b hb).2.2.1 (hd9 b hb).2.2.2.1
  have dg2 : dg LX F2 K g kd sv kp nn bf := dr.mv dgt (fun b hb => (e2 b hb).trans (e1 b hb))
  have ho2 : F2 o = eL 1 u := (fr o oM oA oQ oC).trans ((fM o oin).trans hu)
  exact zq_icmp_eq_raw hZ (tgt := 2079) dL_law_1967 rfl (fun _ => cont _ _ F2 _ _ _ _ (by show k + 0 + 0 ≤ k + 1; omega) (by show n + 0 + 0 ≤ n + 6; omega) ⟨_, _, _, _, _, _, _, _, _, _, u, dg2, mo2, ho2⟩) (fun hne => absurd rfl hne)
set_option maxRecDepth 100000 in
set_option maxHeartbeats 4000000 in
theorem lc_53 (l : Launch) (hfl : l.flags = flags0) {ZZ : ZT} {tbl : List ExceptionTableEntry} {nm ds : String} {Φ : State → Prop} {post : Option Value → List Nat → (Nat → PE) → Prop} {xp : String → List Nat → (Nat → PE) → Prop} (hZ : ZZ = Zq Φ tbl l ⟨"DragonRingLaw", nm, ds⟩ cL_law 9 (some .boolean) room_1 [] post xp) (hΦ : ∀ s, Φ s → va_Nc xS xA s) {b Ls : Nat} {sx : Int → Int} (hsx : ∀ s, Φ s → va_X b Ls (fun j => iI (sx (j : Int))) s s.heap ∧ b < s.heap.size) (hok : ∀ j, -2147483648 ≤ sx j ∧ sx j ≤ 2147483647) {LX : List Nat} {F : Nat → PE} {K : Nat → Nat} {m a q c o : Nat} {i : Int} {k n : Nat} {s5 s6 s7 s8 : Option Value} (hL : LSx LX m a q c o) (hI : LI LX F K m a q c o) (hi : 0 ≤ i ∧ i + 2 < Ls ∧ Ls ≤ 1536) (hk : k + 1 ≤ 601024 ∧ n + 6 ≤ 7293034)
    (cont : ∀ (k2 n2 : Nat) (F2 : Nat → PE) (t5 t6 t7 t8 : Option Value), k2 ≤ k + 1 → n2 ≤ n + 6 → LI LX F2 K m a q c o → ZZ k2 n2 2079 [some (.ref b), some (.ref (K 0)), some (.ref m), some (.ref o), some (.int (iI i)), t5, t6, t7, t8] [] (LX ++ [m, a, q, c, o]) F2) :
    ZZ k n 1972 [some (.ref b), some (.ref (K 0)), some (.ref m), some (.ref o), some (.int (iI i)), s5, s6, s7, s8] [] (LX ++ [m, a, q, c, o]) F := by
  obtain ⟨g, kd, sv, kp, nn, bf, th, pt, tm, sg, u, dgt, mot, hu⟩ := hI
  have fx := dr.fx dgt
  have rg := fx.1.1
  obtain ⟨hd9, oM, oA, oQ, oC⟩ := hL
  have hv := (dr.fx (dg.pre dgt)).1
  have y1 := hok (i + 1)
  have y2 := hok (i + 2)
  have oin : o ∈ [m, a, q, c, o] := by simp
  have hd5 : ∀ b, b ∈ LX → b ≠ o := fun b hb => (hd9 b hb).2.2.2.2
  have mM : m ∈ [m, a, q, c, o] := by simp
  have aM : a ∈ [m, a, q, c, o] := by simp
  have qM : q ∈ [m, a, q, c, o] := by simp
  have cM : c ∈ [m, a, q, c, o] := by simp
  refine zq_aload_n1 hZ dL_law_1972 ?_
  refine zq_cV hZ (As := []) rfl dL_law_1973 ml_L_304 wy_X7_yanked (pm_fr [m, a, q, c, o] (m_X7_yanked l dgt)) (List.mem_append_left _ (dr.L dgt 0 (by omega))) (dr.S dgt).2.1 rfl ⟨Nat.le_of_ble_eq_true rfl, Nat.le_of_ble_eq_true rfl⟩ ⟨by show k + 0 ≤ 601024; omega, by show n + 0 ≤ 7293034; omega⟩ (Nat.le_of_ble_eq_true rfl) (fun _ _ _ h => by obtain ⟨_, _, h, _⟩ := h; exact h.elim) (fun v9 L9 F9 hp => ?_)
  obtain ⟨L8, F8, hp, rfl, e1, fM⟩ := hp
  obtain ⟨rfl, rfl, rfl⟩ := hp
  have mot9 := mo.mv (F1 := F9) mot (fM m mM) (fM a aM) (fM q qM) (fM c cM)
  refine zq_aload_n2 hZ dL_law_1976 ?_
  refine zq_cV hZ (As := []) rfl dL_law_1977 ml_L_307 wy_X8_yanked (m_X8_yanked l mot9 fx.1) (List.mem_append_right _ mM) mot9.2.1 rfl ⟨Nat.le_of_ble_eq_true rfl, Nat.le_of_ble_eq_true rfl⟩ ⟨by show k + 0 + 0 ≤ 601024; omega, by show n + 0 + 0 ≤ 7293034; omega⟩ (Nat.le_of_ble_eq_true rfl) (fun _ _ _ h => h.elim) (fun v9 L2 F2 hp => ?_)
  obtain ⟨rfl, rfl, fr, mo2⟩ := hp
  have e2 : ∀ b, b ∈ LX → F2 b = F9 b := fun b hb => fr b (hd9 b hb).1 (hd9 b hb).2.1 (hd9 b hb).2.2.1 (hd9 b hb).2.2.2.1
  have dg2 : dg LX F2 K g kd sv kp nn bf := dr.mv dgt (fun b hb => (e2 b hb).trans (e1 b hb))
  have ho2 : F2 o = eL 1 u := (fr o oM oA oQ oC).trans ((fM o oin).trans hu)
  exact zq_icmp_eq_raw hZ (tgt := 2079) dL_law_1980 rfl (fun _ => cont _ _ F2 _ _ _ _ (by show k + 0 + 0 ≤ k + 1; omega) (by show n + 0 + 0 ≤ n + 6; omega) ⟨_, _, _, _, _, _, _, _, _, _, u, dg2, mo2, ho2⟩) (fun hne => absurd rfl hne)
set_option maxRecDepth 100000 in
set_option maxHeartbeats 4000000 in
theorem lc_54 (l : Launch) (hfl : l.flags = flags0) {ZZ : ZT} {tbl : List ExceptionTableEntry} {nm ds : String} {Φ : State → Prop} {post : Option Value → List Nat → (Nat → PE) → Prop} {xp : String → List Nat → (Nat → PE) → Prop} (hZ : ZZ = Zq Φ tbl l ⟨"DragonRingLaw", nm, ds⟩ cL_law 9 (some .boolean) room_1 [] post xp) (hΦ : ∀ s, Φ s → va_Nc xS xA s) {b Ls : Nat} {sx : Int → Int} (hsx : ∀ s, Φ s → va_X b Ls (fun j => iI (sx (j : Int))) s s.heap ∧ b < s.heap.size) (hok : ∀ j, -2147483648 ≤ sx j ∧ sx j ≤ 2147483647) {LX : List Nat} {F : Nat → PE} {K : Nat → Nat} {m a q c o : Nat} {i : Int} {k n : Nat} {s5 s6 s7 s8 : Option Value} (hL : LSx LX m a q c o) (hI : LI LX F K m a q c o) (hi : 0 ≤ i ∧ i + 2 < Ls ∧ Ls ≤ 1536) (hk : k + 1 ≤ 601024 ∧ n + 6 ≤ 7293034)
    (cont : ∀ (k2 n2 : Nat) (F2 : Nat → PE) (t5 t6 t7 t8 : Option Value), k2 ≤ k + 1 → n2 ≤ n + 6 → LI LX F2 K m a q c o → ZZ k2 n2 2079 [some (.ref b), some (.ref (K 0)), some (.ref m), some (.ref o), some (.int (iI i)), t5, t6, t7, t8] [] (LX ++ [m, a, q, c, o]) F2) :
    ZZ k n 1985 [some (.ref b), some (.ref (K 0)), some (.ref m), some (.ref o), some (.int (iI i)), s5, s6, s7, s8] [] (LX ++ [m, a, q, c, o]) F := by
  obtain ⟨g, kd, sv, kp, nn, bf, th, pt, tm, sg, u, dgt, mot, hu⟩ := hI
  have fx := dr.fx dgt
  have rg := fx.1.1
  obtain ⟨hd9, oM, oA, oQ, oC⟩ := hL
  have hv := (dr.fx (dg.pre dgt)).1
  have y1 := hok (i + 1)
  have y2 := hok (i + 2)
  have oin : o ∈ [m, a, q, c, o] := by simp
  have hd5 : ∀ b, b ∈ LX → b ≠ o := fun b hb => (hd9 b hb).2.2.2.2
  have mM : m ∈ [m, a, q, c, o] := by simp
  have aM : a ∈ [m, a, q, c, o] := by simp
  have qM : q ∈ [m, a, q, c, o] := by simp
  have cM : c ∈ [m, a, q, c, o] := by simp
  refine zq_aload_n1 hZ dL_law_1985 ?_
  refine zq_cV hZ (As := []) rfl dL_law_1986 ml_L_308 wy_X7_written (pm_fr [m, a, q, c, o] (m_X7_written l dgt)) (List.mem_append_left _ (dr.L dgt 0 (by omega))) (dr.S dgt).2.1 rfl ⟨Nat.le_of_ble_eq_true rfl, Nat.le_of_ble_eq_true rfl⟩ ⟨by show k + 0 ≤ 601024; omega, by show n + 0 ≤ 7293034; omega⟩ (Nat.le_of_ble_eq_true rfl) (fun _ _ _ h => by obtain ⟨_, _, h, _⟩ := h; exact h.elim) (fun v9 L9 F9 hp => ?_)
  obtain ⟨L8, F8, hp, rfl, e1, fM⟩ := hp
  obtain ⟨rfl, rfl, rfl⟩ := hp
  have mot9 := mo.mv (F1 := F9) mot (fM m mM) (fM a aM) (fM q qM) (fM c cM)
  refine zq_aload_n2 hZ dL_law_1989 ?_
  refine zq_cV hZ (As := []) rfl dL_law_1990 ml_L_311 wy_X8_written (m_X8_written l mot9 fx.1) (List.mem_append_right _ mM) mot9.2.1 rfl ⟨Nat.le_of_ble_eq_true rfl, Nat.le_of_ble_eq_true rfl⟩ ⟨by show k + 0 + 0 ≤ 601024; omega, by show n + 0 + 0 ≤ 7293034; omega⟩ (Nat.le_of_ble_eq_true rfl) (fun _ _ _ h => h.elim) (fun v9 L2 F2 hp => ?_)
  obtain ⟨rfl, rfl, fr, mo2⟩ := hp
  have e2 : ∀ b, b ∈ LX → F2 b = F9 b := fun b hb => fr b (hd9 b hb).1 (hd9 b hb).2.1 (hd9 b hb).2.2.1 (hd9 b hb).2.2.2.1
  have dg2 : dg LX F2 K g kd sv kp nn bf := dr.mv dgt (fun b hb => (e2 b hb).trans (e1 b hb))
  have ho2 : F2 o = eL 1 u := (fr o oM oA oQ oC).trans ((fM o oin).trans hu)
  exact zq_icmp_eq_raw hZ (tgt := 2079) dL_law_1993 rfl (fun _ => cont _ _ F2 _ _ _ _ (by show k + 0 + 0 ≤ k + 1; omega) (by show n + 0 + 0 ≤ n + 6; omega) ⟨_, _, _, _, _, _, _, _, _, _, u, dg2, mo2, ho2⟩) (fun hne => absurd rfl hne)
set_option maxRecDepth 100000 in
set_option maxHeartbeats 4000000 in
theorem lc_55 (l : Launch) (hfl : l.flags = flags0) {ZZ : ZT} {tbl : List ExceptionTableEntry} {nm ds : String} {Φ : State → Prop} {post : Option Value → List Nat → (Nat → PE) → Prop} {xp : String → List Nat → (Nat → PE) → Prop} (hZ : ZZ = Zq Φ tbl l ⟨"DragonRingLaw", nm, ds⟩ cL_law 9 (some .boolean) room_1 [] post xp) (hΦ : ∀ s, Φ s → va_Nc xS xA s) {b Ls : Nat} {sx : Int → Int} (hsx : ∀ s, Φ s → va_X b Ls (fun j => iI (sx (j : Int))) s s.heap ∧ b < s.heap.size) (hok : ∀ j, -2147483648 ≤ sx j ∧ sx j ≤ 2147483647) {LX : List Nat} {F : Nat → PE} {K : Nat → Nat} {m a q c o : Nat} {i : Int} {k n : Nat} {s5 s6 s7 s8 : Option Value} (hL : LSx LX m a q c o) (hI : LI LX F K m a q c o) (hi : 0 ≤ i ∧ i + 2 < Ls ∧ Ls ≤ 1536) (hk : k + 1 ≤ 601024 ∧ n + 6 ≤ 7293034)
    (cont : ∀ (k2 n2 : Nat) (F2 : Nat → PE) (t5 t6 t7 t8 : Option Value), k2 ≤ k + 1 → n2 ≤ n + 6 → LI LX F2 K m a q c o → ZZ k2 n2 2079 [some (.ref b), some (.ref (K 0)), some (.ref m), some (.ref o), some (.int (iI i)), t5, t6, t7, t8] [] (LX ++ [m, a, q, c, o]) F2) :
    ZZ k n 1998 [some (.ref b), some (.ref (K 0)), some (.ref m), some (.ref o), some (.int (iI i)), s5, s6, s7, s8] [] (LX ++ [m, a, q, c, o]) F := by
  obtain ⟨g, kd, sv, kp, nn, bf, th, pt, tm, sg, u, dgt, mot, hu⟩ := hI
  have fx := dr.fx dgt
  have rg := fx.1.1
  obtain ⟨hd9, oM, oA, oQ, oC⟩ := hL
  have hv := (dr.fx (dg.pre dgt)).1
  have y1 := hok (i + 1)
  have y2 := hok (i + 2)
  have oin : o ∈ [m, a, q, c, o] := by simp
  have hd5 : ∀ b, b ∈ LX → b ≠ o := fun b hb => (hd9 b hb).2.2.2.2
  have mM : m ∈ [m, a, q, c, o] := by simp
  have aM : a ∈ [m, a, q, c, o] := by simp
  have qM : q ∈ [m, a, q, c, o] := by simp
  have cM : c ∈ [m, a, q, c, o] := by simp
  refine zq_aload_n1 hZ dL_law_1998 ?_
  refine zq_cV hZ (As := []) rfl dL_law_1999 ml_L_312 wy_X7_lostHoards (pm_fr [m, a, q, c, o] (m_X7_lostHoards l dgt)) (List.mem_append_left _ (dr.L dgt 0 (by omega))) (dr.S dgt).2.1 rfl ⟨Nat.le_of_ble_eq_true rfl, Nat.le_of_ble_eq_true rfl⟩ ⟨by show k + 0 ≤ 601024; omega, by show n + 0 ≤ 7293034; omega⟩ (Nat.le_of_ble_eq_true rfl) (fun _ _ _ h => by obtain ⟨_, _, h, _⟩ := h; exact h.elim) (fun v9 L9 F9 hp => ?_)
  obtain ⟨L8, F8, hp, rfl, e1, fM⟩ := hp
  obtain ⟨rfl, rfl, rfl⟩ := hp
  have mot9 := mo.mv (F1 := F9) mot (fM m mM) (fM a aM) (fM q qM) (fM c cM)
  refine zq_aload_n2 hZ dL_law_2002 ?_
  refine zq_cV hZ (As := []) rfl dL_law_2003 ml_L_315 wy_X8_lostHoards (m_X8_lostHoards l mot9 fx.1) (List.mem_append_right _ mM) mot9.2.1 rfl ⟨Nat.le_of_ble_eq_true rfl, Nat.le_of_ble_eq_true rfl⟩ ⟨by show k + 0 + 0 ≤ 601024; omega, by show n + 0 + 0 ≤ 7293034; omega⟩ (Nat.le_of_ble_eq_true rfl) (fun _ _ _ h => h.elim) (fun v9 L2 F2 hp => ?_)
  obtain ⟨rfl, rfl, fr, mo2⟩ := hp
  have e2 : ∀ b, b ∈ LX → F2 b = F9 b := fun b hb => fr b (hd9 b hb).1 (hd9 b hb).2.1 (hd9 b hb).2.2.1 (hd9 b hb).2.2.2.1
  have dg2 : dg LX F2 K g kd sv kp nn bf := dr.mv dgt (fun b hb => (e2 b hb).trans (e1 b hb))
  have ho2 : F2 o = eL 1 u := (fr o oM oA oQ oC).trans ((fM o oin).trans hu)
  exact zq_icmp_eq_raw hZ (tgt := 2079) dL_law_2006 rfl (fun _ => cont _ _ F2 _ _ _ _ (by show k + 0 + 0 ≤ k + 1; omega) (by show n + 0 + 0 ≤ n + 6; omega) ⟨_, _, _, _, _, _, _, _, _, _, u, dg2, mo2, ho2⟩) (fun hne => absurd rfl hne)
set_option maxRecDepth 100000 in
set_option maxHeartbeats 4000000 in
theorem lc_56 (l : Launch) (hfl : l.flags = flags0) {ZZ : ZT} {tbl : List ExceptionTableEntry} {nm ds : String} {Φ : State → Prop} {post : Option Value → List Nat → (Nat → PE) → Prop} {xp : String → List Nat → (Nat → PE) → Prop} (hZ : ZZ = Zq Φ tbl l ⟨"DragonRingLaw", nm, ds⟩ cL_law 9 (some .boolean) room_1 [] post xp) (hΦ : ∀ s, Φ s → va_Nc xS xA s) {b Ls : Nat} {sx : Int → Int} (hsx : ∀ s, Φ s → va_X b Ls (fun j => iI (sx (j : Int))) s s.heap ∧ b < s.heap.size) (hok : ∀ j, -2147483648 ≤ sx j ∧ sx j ≤ 2147483647) {LX : List Nat} {F : Nat → PE} {K : Nat → Nat} {m a q c o : Nat} {i : Int} {k n : Nat} {s5 s6 s7 s8 : Option Value} (hL : LSx LX m a q c o) (hI : LI LX F K m a q c o) (hi : 0 ≤ i ∧ i + 2 < Ls ∧ Ls ≤ 1536) (hk : k + 1 ≤ 601024 ∧ n + 6 ≤ 7293034)
    (cont : ∀ (k2 n2 : Nat) (F2 : Nat → PE) (t5 t6 t7 t8 : Option Value), k2 ≤ k + 1 → n2 ≤ n + 6 → LI LX F2 K m a q c o → ZZ k2 n2 2079 [some (.ref b), some (.ref (K 0)), some (.ref m), some (.ref o), some (.int (iI i)), t5, t6, t7, t8] [] (LX ++ [m, a, q, c, o]) F2) :
    ZZ k n 2011 [some (.ref b), some (.ref (K 0)), some (.ref m), some (.ref o), some (.int (iI i)), s5, s6, s7, s8] [] (LX ++ [m, a, q, c, o]) F := by
  obtain ⟨g, kd, sv, kp, nn, bf, th, pt, tm, sg, u, dgt, mot, hu⟩ := hI
  have fx := dr.fx dgt
  have rg := fx.1.1
  obtain ⟨hd9, oM, oA, oQ, oC⟩ := hL
  have hv := (dr.fx (dg.pre dgt)).1
  have y1 := hok (i + 1)
  have y2 := hok (i + 2)
  have oin : o ∈ [m, a, q, c, o] := by simp
  have hd5 : ∀ b, b ∈ LX → b ≠ o := fun b hb => (hd9 b hb).2.2.2.2
  have mM : m ∈ [m, a, q, c, o] := by simp
  have aM : a ∈ [m, a, q, c, o] := by simp
  have qM : q ∈ [m, a, q, c, o] := by simp
  have cM : c ∈ [m, a, q, c, o] := by simp
  refine zq_aload_n1 hZ dL_law_2011 ?_
  refine zq_cV hZ (As := []) rfl dL_law_2012 ml_L_316 wy_X7_lengthByAccount (pm_fr [m, a, q, c, o] (m_X7_lengthByAccount l dgt)) (List.mem_append_left _ (dr.L dgt 0 (by omega))) (dr.S dgt).2.1 rfl ⟨Nat.le_of_ble_eq_true rfl, Nat.le_of_ble_eq_true rfl⟩ ⟨by show k + 0 ≤ 601024; omega, by show n + 0 ≤ 7293034; omega⟩ (Nat.le_of_ble_eq_true rfl) (fun _ _ _ h => by obtain ⟨_, _, h, _⟩ := h; exact h.elim) (fun v9 L9 F9 hp => ?_)
  obtain ⟨L8, F8, hp, rfl, e1, fM⟩ := hp
  obtain ⟨rfl, rfl, rfl⟩ := hp
  have mot9 := mo.mv (F1 := F9) mot (fM m mM) (fM a aM) (fM q qM) (fM c cM)
  refine zq_aload_n2 hZ dL_law_2015 ?_
  refine zq_cV hZ (As := []) rfl dL_law_2016 ml_L_319 wy_X8_lengthByAccount (m_X8_lengthByAccount l mot9 fx.1) (List.mem_append_right _ mM) mot9.2.1 rfl ⟨Nat.le_of_ble_eq_true rfl, Nat.le_of_ble_eq_true rfl⟩ ⟨by show k + 0 + 0 ≤ 601024; omega, by show n + 0 + 0 ≤ 7293034; omega⟩ (Nat.le_of_ble_eq_true rfl) (fun _ _ _ h => h.elim) (fun v9 L2 F2 hp => ?_)
  obtain ⟨rfl, rfl, fr, mo2⟩ := hp
  have e2 : ∀ b, b ∈ LX → F2 b = F9 b := fun b hb => fr b (hd9 b hb).1 (hd9 b hb).2.1 (hd9 b hb).2.2.1 (hd9 b hb).2.2.2.1
  have dg2 : dg LX F2 K g kd sv kp nn bf := dr.mv dgt (fun b hb => (e2 b hb).trans (e1 b hb))
  have ho2 : F2 o = eL 1 u := (fr o oM oA oQ oC).trans ((fM o oin).trans hu)
  exact zq_icmp_eq hZ (tgt := 2079) dL_law_2019 rfl (by omega) (fun _ => cont _ _ F2 _ _ _ _ (by show k + 0 + 0 ≤ k + 1; omega) (by show n + 0 + 0 ≤ n + 6; omega) ⟨_, _, _, _, _, _, _, _, _, _, u, dg2, mo2, ho2⟩) (fun hne => absurd rfl hne)
