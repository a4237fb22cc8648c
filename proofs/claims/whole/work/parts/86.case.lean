/-! THE LAW, call by call. -/
set_option maxRecDepth 100000 in
set_option maxHeartbeats 4000000 in
theorem lc_0 (l : Launch) (hfl : l.flags = flags0) {ZZ : ZT} {tbl : List ExceptionTableEntry} {nm ds : String} {Φ : State → Prop} {post : Option Value → List Nat → (Nat → PE) → Prop} {xp : String → List Nat → (Nat → PE) → Prop} (hZ : ZZ = Zq Φ tbl l ⟨"DragonRingLaw", nm, ds⟩ cL_law 9 (some .boolean) room_1 [] post xp) (hΦ : ∀ s, Φ s → va_Nc xS xA s) {b Ls : Nat} {sx : Int → Int} (hsx : ∀ s, Φ s → va_X b Ls (fun j => iI (sx (j : Int))) s s.heap ∧ b < s.heap.size) (hok : ∀ j, -2147483648 ≤ sx j ∧ sx j ≤ 2147483647) {LX : List Nat} {F : Nat → PE} {K : Nat → Nat} {m a q c o : Nat} {i : Int} {k n : Nat} {s5 s6 s7 s8 : Option Value} (hL : LSx LX m a q c o) (hI : LI LX F K m a q c o) (hi : 0 ≤ i ∧ i + 2 < Ls ∧ Ls ≤ 1536) (hk : k + 1 ≤ 601024 ∧ n + 6 ≤ 7293034)
    (cont : ∀ (k2 n2 : Nat) (F2 : Nat → PE) (t5 t6 t7 t8 : Option Value), k2 ≤ k + 1 → n2 ≤ n + 6 → LI LX F2 K m a q c o → ZZ k2 n2 2079 [some (.ref b), some (.ref (K 0)), some (.ref m), some (.ref o), some (.int (iI i)), t5, t6, t7, t8] [] (LX ++ [m, a, q, c, o]) F2) :
    ZZ k n 288 [some (.ref b), some (.ref (K 0)), some (.ref m), some (.ref o), some (.int (iI i)), s5, s6, s7, s8] [] (LX ++ [m, a, q, c, o]) F := by
  obtain ⟨g, kd, sv, kp, nn, bf, th, pt, tm, sg, u, dgt, mot, hu⟩ := hI
  have fx := dr.fx dgt
  have rg := fx.1.1
  obtain ⟨hd9, oM, oA, oQ, oC⟩ := hL
  have hv := (dr.fx (dg.pre dgt)).1
  have y1 := hok (i + 1)
  have y2 := hok (i + 2)
  have oin : o ∈ [m, a, q, c, o] := by simp
  have hd5 : ∀ b, b ∈ LX → b ≠ o := fun b hb => (hd9 b hb).2.2.2.2
  have mM : m ∈ [m, a, q, c, o] := by simp
  have aM : a ∈ [m, a, q, c, o] := by simp
  have qM : q ∈ [m, a, q, c, o] := by simp
  have cM : c ∈ [m, a, q, c, o] := by simp
  refine zq_aload_n1 hZ dL_law_288 ?_
  refine zq_aload_n0 hZ dL_law_289 ?_
  refine zq_iload4 hZ dL_law_290 ?_
  refine zq_iconst hZ dL_law_292 ?_
  refine zq_iadd hZ dL_law_293 ?_
  refine zq_sld hZ hsx rfl dL_law_294 (by omega) ?_
  refine zq_aload_n3 hZ dL_law_295 ?_
  refine zq_cSh hZ hΦ (As := [_, _, _]) rfl dL_law_296 ml_L_110 wy_L_write (m_L_write l (M := [m, a, q, c, o]) hfl (dgt) oin hd5 hu y1) ⟨Nat.le_of_ble_eq_true rfl, Nat.le_of_ble_eq_true rfl⟩ ⟨by show k + 1 ≤ 601024; omega, by show n + 6 ≤ 7293034; omega⟩ (Nat.le_of_ble_eq_true rfl) (fun v9 L9 F9 hp => ?_)
  obtain ⟨rfl, fM, u1, hu1, hX⟩ := hp
  obtain ⟨kk, rfl, hY⟩ : ∃ kk, v9 = some (.int (iI kk)) ∧ ((kk = 0 ∧ ((sx (i + 1)) = 10 ∨ 32 ≤ (sx (i + 1)) ∧ (sx (i + 1)) ≤ 126) ∧ g 0 < 200 ∧ u1 0 = g 0 + 1 ∧ dr LX F9 K (vWr (sx (i + 1)) g) 0 (hN sv) (hS sv (sH g) g) kp (sQ g) nn bf) ∨ (kk = 1 ∧ ¬ ((sx (i + 1)) = 10 ∨ 32 ≤ (sx (i + 1)) ∧ (sx (i + 1)) ≤ 126) ∧ dr LX F9 K g kd sv (sH g) kp (sQ g) nn bf) ∨ (kk = 2 ∧ ((sx (i + 1)) = 10 ∨ 32 ≤ (sx (i + 1)) ∧ (sx (i + 1)) ≤ 126) ∧ ¬ g 0 < 200 ∧ dr LX F9 K g kd sv (sH g) kp (sQ g) nn bf)) := by
    rcases hX with ⟨x1, x2, x3, x4, x5⟩ | ⟨x1, x2, x3⟩ | ⟨x1, x2, x3, x4⟩
    · exact ⟨0, x3, Or.inl ⟨rfl, x1, x2, x4, x5⟩⟩
    · exact ⟨1, x2, Or.inr (Or.inl ⟨rfl, x1, x3⟩)⟩
    · exact ⟨2, x3, Or.inr (Or.inr ⟨rfl, x1, x2, x4⟩)⟩
  have mot9 := mo.mv (F1 := F9) mot (fM m mM (Ne.symm oM)) (fM a aM (Ne.symm oA)) (fM q qM (Ne.symm oQ)) (fM c cM (Ne.symm oC))
  refine zq_istore5 hZ dL_law_299 (by decide) rfl ?_
  refine zq_aload_n2 hZ dL_law_301 ?_
  refine zq_aload_n0 hZ dL_law_302 ?_
  refine zq_iload4 hZ dL_law_303 ?_
  refine zq_iconst hZ dL_law_305 ?_
  refine zq_iadd hZ dL_law_306 ?_
  refine zq_sld hZ hsx rfl dL_law_307 (by omega) ?_
  refine zq_cV hZ (As := [_]) rfl dL_law_308 ml_L_115 wy_X8_write (m_X8_write l mot9 fx.1 fx.2.1 y1) (List.mem_append_right _ mM) mot9.2.1 rfl ⟨Nat.le_of_ble_eq_true rfl, Nat.le_of_ble_eq_true rfl⟩ ⟨by show k + 1 + 0 ≤ 601024; omega, by show n + 6 + 0 ≤ 7293034; omega⟩ (Nat.le_of_ble_eq_true rfl) (fun _ _ _ h => h.elim) (fun v9 L2 F2 hp => ?_)
  obtain ⟨rfl, fr, hM⟩ := hp
  obtain ⟨bv, rfl, hN9⟩ : ∃ bv, v9 = some (.int (iI bv)) ∧ ((((sx (i + 1)) = 10 ∨ 32 ≤ (sx (i + 1)) ∧ (sx (i + 1)) ≤ 126) ∧ g 0 < 200 ∧ bv = g 0 + 1 ∧ ∃ h, svP 0 sv g h ∧ mo (LX ++ [m, a, q, c, o]) F2 m a q c (vWr (sx (i + 1)) h) (hN sv) 0 0 nn pt tm sg kp bf) ∨ (¬ ((sx (i + 1)) = 10 ∨ 32 ≤ (sx (i + 1)) ∧ (sx (i + 1)) ≤ 126) ∧ bv = 0 ∧ mo (LX ++ [m, a, q, c, o]) F2 m a q c g sv 1 kd nn pt tm sg kp bf) ∨ (((sx (i + 1)) = 10 ∨ 32 ≤ (sx (i + 1)) ∧ (sx (i + 1)) ≤ 126) ∧ ¬ g 0 < 200 ∧ bv = 0 ∧ mo (LX ++ [m, a, q, c, o]) F2 m a q c g sv 2 kd nn pt tm sg kp bf)) := by
    rcases hM with ⟨x1, x2, x3, x4⟩ | ⟨x1, x2, x3⟩ | ⟨x1, x2, x3, x4⟩
    · exact ⟨_, x3, Or.inl ⟨x1, x2, rfl, x4⟩⟩
    · exact ⟨0, x2, Or.inr (Or.inl ⟨x1, rfl, x3⟩)⟩
    · exact ⟨0, x3, Or.inr (Or.inr ⟨x1, x2, rfl, x4⟩)⟩
  have fin : ∃ g2 kd2 sv2 kp2 n2 bf2 pt2 tm2 sg2, dg LX F2 K g2 kd2 sv2 kp2 n2 bf2 ∧ mo (LX ++ [m, a, q, c, o]) F2 m a q c g2 sv2 kk kd2 n2 pt2 tm2 sg2 kp2 bf2 ∧ (kk = 0 → u1 0 = bv) ∧ (0 ≤ kk ∧ kk ≤ 2) ∧ (-2147483648 ≤ bv ∧ bv ≤ 2147483647) := by
    have e2 : ∀ b, b ∈ LX → F2 b = F9 b := fun b hb => fr b (hd9 b hb).1 (hd9 b hb).2.1 (hd9 b hb).2.2.1 (hd9 b hb).2.2.2.1
    rcases hY with ⟨rfl, x1, x2, x3, x4⟩ | ⟨rfl, x1, x3⟩ | ⟨rfl, x1, x2, x3⟩
    · rcases hN9 with ⟨z1, z2, rfl, h, z3, z4⟩ | ⟨z1, rfl, z3⟩ | ⟨z1, z2, rfl, z3⟩
      · have ha : ag g h := fun w w0 w1 => (z3.1 w w0 w1).symm
        exact ⟨_, _, _, _, _, _, _, _, _, dg.sav fx.2.1 (dr.mv x4 e2) z3 (fun z hz => hi_wr (by have := ha 0 (by omega) (by omega); have := ha 1 (by omega) (by omega); omega) hz) (ag_wr ha (by omega)), z4, fun _ => x3, by omega, by omega⟩
      · exact absurd x1 z1
      · exact absurd x2 z2
    · rcases hN9 with ⟨z1, z2, rfl, h, z3, z4⟩ | ⟨z1, rfl, z3⟩ | ⟨z1, z2, rfl, z3⟩
      · exact absurd z1 x1
      · exact ⟨_, _, _, _, _, _, _, _, _, dr.mv x3 e2, z3, fun w => absurd w (by decide), by omega, by omega⟩
      · exact absurd z1 x1
    · rcases hN9 with ⟨z1, z2, rfl, h, z3, z4⟩ | ⟨z1, rfl, z3⟩ | ⟨z1, z2, rfl, z3⟩
      · exact absurd z2 x2
      · exact absurd x1 z1
      · exact ⟨_, _, _, _, _, _, _, _, _, dr.mv x3 e2, z3, fun w => absurd w (by decide), by omega, by omega⟩
  obtain ⟨g2, kd2, sv2, kp2, n2, bf2, pt2, tm2, sg2, dg2, mo2, hval, hkk, hbv⟩ := fin
  have ho2 : F2 o = eL 1 u1 := (fr o oM oA oQ oC).trans hu1
  have fins : LI LX F2 K m a q c o := ⟨g2, kd2, sv2, kp2, n2, bf2, kk, pt2, tm2, sg2, u1, dg2, mo2, ho2⟩
  refine zq_istore6 hZ dL_law_311 (by decide) rfl ?_
  refine zq_aload_n2 hZ dL_law_313 ?_
  refine zq_cV hZ (As := []) rfl dL_law_314 ml_L_116 wy_X8_thrown (m_X8_thrown l mo2) (List.mem_append_right _ mM) mo2.2.1 rfl ⟨Nat.le_of_ble_eq_true rfl, Nat.le_of_ble_eq_true rfl⟩ ⟨by show k + 1 + 0 + 0 ≤ 601024; omega, by show n + 6 + 0 + 0 ≤ 7293034; omega⟩ (Nat.le_of_ble_eq_true rfl) (fun _ _ _ h => h.elim) (fun v9 L3 F3 hp => ?_)
  obtain ⟨rfl, rfl, rfl⟩ := hp
  refine zq_iload5 hZ dL_law_317 ?_
  refine zq_icmp_eq hZ (tgt := 324) dL_law_319 rfl (by omega) (fun _ => ?_) (fun hne => absurd rfl hne)
  refine zq_iload5 hZ dL_law_324 ?_
  have done : ∀ t5 t6 t7 t8, ZZ _ _ 341 [some (.ref b), some (.ref (K 0)), some (.ref m), some (.ref o), some (.int (iI i)), t5, t6, t7, t8] [] (LX ++ [m, a, q, c, o]) F2 := fun t5 t6 t7 t8 => zq_goto hZ (tgt := 2079) dL_law_341 rfl (cont (k + 1 + 0 + 0) (n + 6 + 0 + 0) F2 t5 t6 t7 t8 (by omega) (by omega) fins)
  refine zq_if_ne hZ (tgt := 341) dL_law_326 rfl (by omega) (fun _ => done _ _ _ _) (fun hk0 => ?_)
  refine zq_aload_n3 hZ dL_law_329 ?_
  refine zq_iconst hZ dL_law_330 ?_
  refine zq_laload hZ dL_law_331 (List.mem_append_right _ oin) ho2 ⟨by omega, by omega, by omega⟩ ?_
  refine zq_iload6 hZ dL_law_332 ?_
  refine zq_i2l hZ dL_law_334 hbv ?_
  rw [hval hk0]
  refine zq_lcmp hZ dL_law_335 ?_
  exact zq_if_eq_raw hZ (tgt := 341) dL_law_336 rfl (fun _ => done _ _ _ _) (fun hne => absurd ((lg_cmp_eq _ _).mpr rfl) hne)
set_option maxRecDepth 100000 in
set_option maxHeartbeats 4000000 in
theorem lc_1 (l : Launch) (hfl : l.flags = flags0) {ZZ : ZT} {tbl : List ExceptionTableEntry} {nm ds : String} {Φ : State → Prop} {post : Option Value → List Nat → (Nat → PE) → Prop} {xp : String → List Nat → (Nat → PE) → Prop} (hZ : ZZ = Zq Φ tbl l ⟨"DragonRingLaw", nm, ds⟩ cL_law 9 (some .boolean) room_1 [] post xp) (hΦ : ∀ s, Φ s → va_Nc xS xA s) {b Ls : Nat} {sx : Int → Int} (hsx : ∀ s, Φ s → va_X b Ls (fun j => iI (sx (j : Int))) s s.heap ∧ b < s.heap.size) (hok : ∀ j, -2147483648 ≤ sx j ∧ sx j ≤ 2147483647) {LX : List Nat} {F : Nat → PE} {K : Nat → Nat} {m a q c o : Nat} {i : Int} {k n : Nat} {s5 s6 s7 s8 : Option Value} (hL : LSx LX m a q c o) (hI : LI LX F K m a q c o) (hi : 0 ≤ i ∧ i + 2 < Ls ∧ Ls ≤ 1536) (hk : k + 1 ≤ 601024 ∧ n + 6 ≤ 7293034)
    (cont : ∀ (k2 n2 : Nat) (F2 : Nat → PE) (t5 t6 t7 t8 : Option Value), k2 ≤ k + 1 → n2 ≤ n + 6 → LI LX F2 K m a q c o → ZZ k2 n2 2079 [some (.ref b), some (.ref (K 0)), some (.ref m), some (.ref o), some (.int (iI i)), t5, t6, t7, t8] [] (LX ++ [m, a, q, c, o]) F2) :
    ZZ k n 344 [some (.ref b), some (.ref (K 0)), some (.ref m), some (.ref o), some (.int (iI i)), s5, s6, s7, s8] [] (LX ++ [m, a, q, c, o]) F := by
  obtain ⟨g, kd, sv, kp, nn, bf, th, pt, tm, sg, u, dgt, mot, hu⟩ := hI
  have fx := dr.fx dgt
  have rg := fx.1.1
  obtain ⟨hd9, oM, oA, oQ, oC⟩ := hL
  have hv := (dr.fx (dg.pre dgt)).1
  have y1 := hok (i + 1)
  have y2 := hok (i + 2)
  have oin : o ∈ [m, a, q, c, o] := by simp
  have hd5 : ∀ b, b ∈ LX → b ≠ o := fun b hb => (hd9 b hb).2.2.2.2
  have mM : m ∈ [m, a, q, c, o] := by simp
  have aM : a ∈ [m, a, q, c, o] := by simp
  have qM : q ∈ [m, a, q, c, o] := by simp
  have cM : c ∈ [m, a, q, c, o] := by simp
  refine zq_aload_n1 hZ dL_law_344 ?_
  refine zq_aload_n3 hZ dL_law_345 ?_
  refine zq_cSh hZ hΦ (As := [_, _]) rfl dL_law_346 ml_L_119 wy_L_rub (m_L_rub l (M := [m, a, q, c, o]) hfl (dg.pre dgt) oin hd5 hu) ⟨Nat.le_of_ble_eq_true rfl, Nat.le_of_ble_eq_true rfl⟩ ⟨by show k + 1 ≤ 601024; omega, by show n + 6 ≤ 7293034; omega⟩ (Nat.le_of_ble_eq_true rfl) (fun v9 L9 F9 hp => ?_)
  obtain ⟨rfl, fM, u1, hu1, hX⟩ := hp
  obtain ⟨kk, rfl, hY⟩ : ∃ kk, v9 = some (.int (iI kk)) ∧ ((kk = 0 ∧ dOk 16 kd (cpy g 0 9) ∧ u1 0 = dAn 16 (cpy g 0 9) ∧ dr LX F9 K (dTo 16 0 kd (cpy g 0 9)) (dKn 16) (hN sv) (hS sv (sH g) (cpy g 0 9)) kp (sQ g) nn bf) ∨ (kk = 1 ∧ ¬ dOk 16 kd (cpy g 0 9) ∧ dr LX F9 K (cpy g 0 9) kd sv (sH g) kp (sQ g) nn bf)) := by
    rcases hX with ⟨x1, x2, x3, x4⟩ | ⟨x1, x2, x4⟩
    · exact ⟨0, x2, Or.inl ⟨rfl, x1, x3, x4⟩⟩
    · exact ⟨1, x2, Or.inr ⟨rfl, x1, x4⟩⟩
  have mot9 := mo.mv (F1 := F9) mot (fM m mM (Ne.symm oM)) (fM a aM (Ne.symm oA)) (fM q qM (Ne.symm oQ)) (fM c cM (Ne.symm oC))
  refine zq_istore5 hZ dL_law_349 (by decide) rfl ?_
  refine zq_aload_n2 hZ dL_law_351 ?_
  refine zq_cV hZ (As := []) rfl dL_law_352 ml_L_122 wy_X8_rub (m_X8_rub l mot9 hv fx.2.1) (List.mem_append_right _ mM) mot9.2.1 rfl ⟨Nat.le_of_ble_eq_true rfl, Nat.le_of_ble_eq_true rfl⟩ ⟨by show k + 1 + 0 ≤ 601024; omega, by show n + 6 + 0 ≤ 7293034; omega⟩ (Nat.le_of_ble_eq_true rfl) (fun _ _ _ h => h.elim) (fun v9 L2 F2 hp => ?_)
  obtain ⟨rfl, fr, hM⟩ := hp
  obtain ⟨bv, rfl, hN9⟩ : ∃ bv, v9 = some (.int (iI bv)) ∧ ((dOk 16 kd (cpy g 0 9) ∧ bv = dAn 16 (cpy g 0 9) ∧ ∃ h, svP 9 sv (dTo 16 0 kd (cpy g 0 9)) h ∧ mo (LX ++ [m, a, q, c, o]) F2 m a q c h (hN sv) 0 (dKn 16) nn pt tm sg kp bf) ∨ (¬ dOk 16 kd (cpy g 0 9) ∧ bv = 0 ∧ mo (LX ++ [m, a, q, c, o]) F2 m a q c (cpy (cpy g 0 9) 9 0) sv 1 kd nn pt tm sg kp bf)) := by
    rcases hM with ⟨x1, x2, x3⟩ | ⟨x1, x2, x3⟩
    · exact ⟨_, x2, Or.inl ⟨x1, rfl, x3⟩⟩
    · exact ⟨0, x2, Or.inr ⟨x1, rfl, x3⟩⟩
  have fin : ∃ g2 kd2 sv2 kp2 n2 bf2 pt2 tm2 sg2, dg LX F2 K g2 kd2 sv2 kp2 n2 bf2 ∧ mo (LX ++ [m, a, q, c, o]) F2 m a q c g2 sv2 kk kd2 n2 pt2 tm2 sg2 kp2 bf2 ∧ (kk = 0 → u1 0 = bv) ∧ (0 ≤ kk ∧ kk ≤ 2) ∧ (-2147483648 ≤ bv ∧ bv ≤ 2147483647) := by
    have e2 : ∀ b, b ∈ LX → F2 b = F9 b := fun b hb => fr b (hd9 b hb).1 (hd9 b hb).2.1 (hd9 b hb).2.2.1 (hd9 b hb).2.2.2.1
    rcases hY with ⟨rfl, x1, x2, x3⟩ | ⟨rfl, x1, x3⟩
    · rcases hN9 with ⟨z1, rfl, h, z2, z3⟩ | ⟨z1, rfl, z3⟩
      · have rr := dAn_rg (d := 16) hv (by decide) x1
        exact ⟨_, _, _, _, _, _, _, _, _, dg.rem fx.2.1 (dr.mv x3 e2) (fun z hz => dTo_hi hv (by decide) x1 hz) z2, z3, fun _ => x2, by omega, by omega⟩
      · exact absurd x1 z1
    · rcases hN9 with ⟨z1, rfl, h, z2, z3⟩ | ⟨z1, rfl, z3⟩
      · exact absurd z1 x1
      · exact ⟨_, _, _, _, _, _, _, _, _, dg.eq (dg.un (dr.mv x3 e2)) bk9, z3, fun w => absurd w (by decide), by omega, by omega⟩
  obtain ⟨g2, kd2, sv2, kp2, n2, bf2, pt2, tm2, sg2, dg2, mo2, hval, hkk, hbv⟩ := fin
  have ho2 : F2 o = eL 1 u1 := (fr o oM oA oQ oC).trans hu1
  have fins : LI LX F2 K m a q c o := ⟨g2, kd2, sv2, kp2, n2, bf2, kk, pt2, tm2, sg2, u1, dg2, mo2, ho2⟩
  refine zq_istore6 hZ dL_law_355 (by decide) rfl ?_
  refine zq_aload_n2 hZ dL_law_357 ?_
  refine zq_cV hZ (As := []) rfl dL_law_358 ml_L_116 wy_X8_thrown (m_X8_thrown l mo2) (List.mem_append_right _ mM) mo2.2.1 rfl ⟨Nat.le_of_ble_eq_true rfl, Nat.le_of_ble_eq_true rfl⟩ ⟨by show k + 1 + 0 + 0 ≤ 601024; omega, by show n + 6 + 0 + 0 ≤ 7293034; omega⟩ (Nat.le_of_ble_eq_true rfl) (fun _ _ _ h => h.elim) (fun v9 L3 F3 hp => ?_)
  obtain ⟨rfl, rfl, rfl⟩ := hp
  refine zq_iload5 hZ dL_law_361 ?_
  refine zq_icmp_eq hZ (tgt := 368) dL_law_363 rfl (by omega) (fun _ => ?_) (fun hne => absurd rfl hne)
  refine zq_iload5 hZ dL_law_368 ?_
  have done : ∀ t5 t6 t7 t8, ZZ _ _ 385 [some (.ref b), some (.ref (K 0)), some (.ref m), some (.ref o), some (.int (iI i)), t5, t6, t7, t8] [] (LX ++ [m, a, q, c, o]) F2 := fun t5 t6 t7 t8 => zq_goto hZ (tgt := 2079) dL_law_385 rfl (cont (k + 1 + 0 + 0) (n + 6 + 0 + 0) F2 t5 t6 t7 t8 (by omega) (by omega) fins)
  refine zq_if_ne hZ (tgt := 385) dL_law_370 rfl (by omega) (fun _ => done _ _ _ _) (fun hk0 => ?_)
  refine zq_aload_n3 hZ dL_law_373 ?_
  refine zq_iconst hZ dL_law_374 ?_
  refine zq_laload hZ dL_law_375 (List.mem_append_right _ oin) ho2 ⟨by omega, by omega, by omega⟩ ?_
  refine zq_iload6 hZ dL_law_376 ?_
  refine zq_i2l hZ dL_law_378 hbv ?_
  rw [hval hk0]
  refine zq_lcmp hZ dL_law_379 ?_
  exact zq_if_eq_raw hZ (tgt := 385) dL_law_380 rfl (fun _ => done _ _ _ _) (fun hne => absurd ((lg_cmp_eq _ _).mpr rfl) hne)
set_option maxRecDepth 100000 in
set_option maxHeartbeats 4000000 in
theorem lc_2 (l : Launch) (hfl : l.flags = flags0) {ZZ : ZT} {tbl : List ExceptionTableEntry} {nm ds : String} {Φ : State → Prop} {post : Option Value → List Nat → (Nat → PE) → Prop} {xp : String → List Nat → (Nat → PE) → Prop} (hZ : ZZ = Zq Φ tbl l ⟨"DragonRingLaw", nm, ds⟩ cL_law 9 (some .boolean) room_1 [] post xp) (hΦ : ∀ s, Φ s → va_Nc xS xA s) {b Ls : Nat} {sx : Int → Int} (hsx : ∀ s, Φ s → va_X b Ls (fun j => iI (sx (j : Int))) s s.heap ∧ b < s.heap.size) (hok : ∀ j, -2147483648 ≤ sx j ∧ sx j ≤ 2147483647) {LX : List Nat} {F : Nat → PE} {K : Nat → Nat} {m a q c o : Nat} {i : Int} {k n : Nat} {s5 s6 s7 s8 : Option Value} (hL : LSx LX m a q c o) (hI : LI LX F K m a q c o) (hi : 0 ≤ i ∧ i + 2 < Ls ∧ Ls ≤ 1536) (hk : k + 1 ≤ 601024 ∧ n + 6 ≤ 7293034)
    (cont : ∀ (k2 n2 : Nat) (F2 : Nat → PE) (t5 t6 t7 t8 : Option Value), k2 ≤ k + 1 → n2 ≤ n + 6 → LI LX F2 K m a q c o → ZZ k2 n2 2079 [some (.ref b), some (.ref (K 0)), some (.ref m), some (.ref o), some (.int (iI i)), t5, t6, t7, t8] [] (LX ++ [m, a, q, c, o]) F2) :
    ZZ k n 388 [some (.ref b), some (.ref (K 0)), some (.ref m), some (.ref o), some (.int (iI i)), s5, s6, s7, s8] [] (LX ++ [m, a, q, c, o]) F := by
  obtain ⟨g, kd, sv, kp, nn, bf, th, pt, tm, sg, u, dgt, mot, hu⟩ := hI
  have fx := dr.fx dgt
  have rg := fx.1.1
  obtain ⟨hd9, oM, oA, oQ, oC⟩ := hL
  have hv := (dr.fx (dg.pre dgt)).1
  have y1 := hok (i + 1)
  have y2 := hok (i + 2)
  have oin : o ∈ [m, a, q, c, o] := by simp
  have hd5 : ∀ b, b ∈ LX → b ≠ o := fun b hb => (hd9 b hb).2.2.2.2
  have mM : m ∈ [m, a, q, c, o] := by simp
  have aM : a ∈ [m, a, q, c, o] := by simp
  have qM : q ∈ [m, a, q, c, o] := by simp
  have cM : c ∈ [m, a, q, c, o] := by simp
  refine zq_aload_n1 hZ dL_law_388 ?_
  refine zq_aload_n3 hZ dL_law_389 ?_
  refine zq_cSh hZ hΦ (As := [_, _]) rfl dL_law_390 ml_L_123 wy_L_swap (m_L_swap l (M := [m, a, q, c, o]) hfl (dg.pre dgt) oin hd5 hu) ⟨Nat.le_of_ble_eq_true rfl, Nat.le_of_ble_eq_true rfl⟩ ⟨by show k + 1 ≤ 601024; omega, by show n + 6 ≤ 7293034; omega⟩ (Nat.le_of_ble_eq_true rfl) (fun v9 L9 F9 hp => ?_)
  obtain ⟨rfl, fM, u1, hu1, hX⟩ := hp
  obtain ⟨kk, rfl, hY⟩ : ∃ kk, v9 = some (.int (iI kk)) ∧ ((kk = 0 ∧ dOk 17 kd (cpy g 0 9) ∧ u1 0 = dAn 17 (cpy g 0 9) ∧ dr LX F9 K (dTo 17 0 kd (cpy g 0 9)) (dKn 17) (hN sv) (hS sv (sH g) (cpy g 0 9)) kp (sQ g) nn bf) ∨ (kk = 1 ∧ ¬ dOk 17 kd (cpy g 0 9) ∧ dr LX F9 K (cpy g 0 9) kd sv (sH g) kp (sQ g) nn bf)) := by
    rcases hX with ⟨x1, x2, x3, x4⟩ | ⟨x1, x2, x4⟩
    · exact ⟨0, x2, Or.inl ⟨rfl, x1, x3, x4⟩⟩
    · exact ⟨1, x2, Or.inr ⟨rfl, x1, x4⟩⟩
  have mot9 := mo.mv (F1 := F9) mot (fM m mM (Ne.symm oM)) (fM a aM (Ne.symm oA)) (fM q qM (Ne.symm oQ)) (fM c cM (Ne.symm oC))
  refine zq_istore5 hZ dL_law_393 (by decide) rfl ?_
  refine zq_aload_n2 hZ dL_law_395 ?_
  refine zq_cV hZ (As := []) rfl dL_law_396 ml_L_125 wy_X8_swap (m_X8_swap l mot9 hv fx.2.1) (List.mem_append_right _ mM) mot9.2.1 rfl ⟨Nat.le_of_ble_eq_true rfl, Nat.le_of_ble_eq_true rfl⟩ ⟨by show k + 1 + 0 ≤ 601024; omega, by show n + 6 + 0 ≤ 7293034; omega⟩ (Nat.le_of_ble_eq_true rfl) (fun _ _ _ h => h.elim) (fun v9 L2 F2 hp => ?_)
  obtain ⟨rfl, fr, hM⟩ := hp
  obtain ⟨bv, rfl, hN9⟩ : ∃ bv, v9 = some (.int (iI bv)) ∧ ((dOk 17 kd (cpy g 0 9) ∧ bv = dAn 17 (cpy g 0 9) ∧ ∃ h, svP 9 sv (dTo 17 0 kd (cpy g 0 9)) h ∧ mo (LX ++ [m, a, q, c, o]) F2 m a q c h (hN sv) 0 (dKn 17) nn pt tm sg kp bf) ∨ (¬ dOk 17 kd (cpy g 0 9) ∧ bv = 0 ∧ mo (LX ++ [m, a, q, c, o]) F2 m a q c (cpy (cpy g 0 9) 9 0) sv 1 kd nn pt tm sg kp bf)) := by
    rcases hM with ⟨x1, x2, x3⟩ | ⟨x1, x2, x3⟩
    · exact ⟨_, x2, Or.inl ⟨x1, rfl, x3⟩⟩
    · exact ⟨0, x2, Or.inr ⟨x1, rfl, x3⟩⟩
  have fin : ∃ g2 kd2 sv2 kp2 n2 bf2 pt2 tm2 sg2, dg LX F2 K g2 kd2 sv2 kp2 n2 bf2 ∧ mo (LX ++ [m, a, q, c, o]) F2 m a q c g2 sv2 kk kd2 n2 pt2 tm2 sg2 kp2 bf2 ∧ (kk = 0 → u1 0 = bv) ∧ (0 ≤ kk ∧ kk ≤ 2) ∧ (-2147483648 ≤ bv ∧ bv ≤ 2147483647) := by
    have e2 : ∀ b, b ∈ LX → F2 b = F9 b := fun b hb => fr b (hd9 b hb).1 (hd9 b hb).2.1 (hd9 b hb).2.2.1 (hd9 b hb).2.2.2.1
    rcases hY with ⟨rfl, x1, x2, x3⟩ | ⟨rfl, x1, x3⟩
    · rcases hN9 with ⟨z1, rfl, h, z2, z3⟩ | ⟨z1, rfl, z3⟩
      · have rr := dAn_rg (d := 17) hv (by decide) x1
        exact ⟨_, _, _, _, _, _, _, _, _, dg.rem fx.2.1 (dr.mv x3 e2) (fun z hz => dTo_hi hv (by decide) x1 hz) z2, z3, fun _ => x2, by omega, by omega⟩
      · exact absurd x1 z1
    · rcases hN9 with ⟨z1, rfl, h, z2, z3⟩ | ⟨z1, rfl, z3⟩
      · exact absurd z1 x1
      · exact ⟨_, _, _, _, _, _, _, _, _, dg.eq (dg.un (dr.mv x3 e2)) bk9, z3, fun w => absurd w (by decide), by omega, by omega⟩
  obtain ⟨g2, kd2, sv2, kp2, n2, bf2, pt2, tm2, sg2, dg2, mo2, hval, hkk, hbv⟩ := fin
  have ho2 : F2 o = eL 1 u1 := (fr o oM oA oQ oC).trans hu1
  have fins : LI LX F2 K m a q c o := ⟨g2, kd2, sv2, kp2, n2, bf2, kk, pt2, tm2, sg2, u1, dg2, mo2, ho2⟩
  refine zq_istore6 hZ dL_law_399 (by decide) rfl ?_
  refine zq_aload_n2 hZ dL_law_401 ?_
  refine zq_cV hZ (As := []) rfl dL_law_402 ml_L_116 wy_X8_thrown (m_X8_thrown l mo2) (List.mem_append_right _ mM) mo2.2.1 rfl ⟨Nat.le_of_ble_eq_true rfl, Nat.le_of_ble_eq_true rfl⟩ ⟨by show k + 1 + 0 + 0 ≤ 601024; omega, by show n + 6 + 0 + 0 ≤ 7293034; omega⟩ (Nat.le_of_ble_eq_true rfl) (fun _ _ _ h => h.elim) (fun v9 L3 F3 hp => ?_)
  obtain ⟨rfl, rfl, rfl⟩ := hp
  refine zq_iload5 hZ dL_law_405 ?_
  refine zq_icmp_eq hZ (tgt := 412) dL_law_407 rfl (by omega) (fun _ => ?_) (fun hne => absurd rfl hne)
  refine zq_iload5 hZ dL_law_412 ?_
  have done : ∀ t5 t6 t7 t8, ZZ _ _ 429 [some (.ref b), some (.ref (K 0)), some (.ref m), some (.ref o), some (.int (iI i)), t5, t6, t7, t8] [] (LX ++ [m, a, q, c, o]) F2 := fun t5 t6 t7 t8 => zq_goto hZ (tgt := 2079) dL_law_429 rfl (cont (k + 1 + 0 + 0) (n + 6 + 0 + 0) F2 t5 t6 t7 t8 (by omega) (by omega) fins)
  refine zq_if_ne hZ (tgt := 429) dL_law_414 rfl (by omega) (fun _ => done _ _ _ _) (fun hk0 => ?_)
  refine zq_aload_n3 hZ dL_law_417 ?_
  refine zq_iconst hZ dL_law_418 ?_
  refine zq_laload hZ dL_law_419 (List.mem_append_right _ oin) ho2 ⟨by omega, by omega, by omega⟩ ?_
  refine zq_iload6 hZ dL_law_420 ?_
  refine zq_i2l hZ dL_law_422 hbv ?_
  rw [hval hk0]
  refine zq_lcmp hZ dL_law_423 ?_
  exact zq_if_eq_raw hZ (tgt := 429) dL_law_424 rfl (fun _ => done _ _ _ _) (fun hne => absurd ((lg_cmp_eq _ _).mpr rfl) hne)
set_option maxRecDepth 100000 in
set_option maxHeartbeats 4000000 in
theorem lc_3 (l : Launch) (hfl : l.flags = flags0) {ZZ : ZT} {tbl : List ExceptionTableEntry} {nm ds : String} {Φ : State → Prop} {post : Option Value → List Nat → (Nat → PE) → Prop} {xp : String → List Nat → (Nat → PE) → Prop} (hZ : ZZ = Zq Φ tbl l ⟨"DragonRingLaw", nm, ds⟩ cL_law 9 (some .boolean) room_1 [] post xp) (hΦ : ∀ s, Φ s → va_Nc xS xA s) {b Ls : Nat} {sx : Int → Int} (hsx : ∀ s, Φ s → va_X b Ls (fun j => iI (sx (j : Int))) s s.heap ∧ b < s.heap.size) (hok : ∀ j, -2147483648 ≤ sx j ∧ sx j ≤ 2147483647) {LX : List Nat} {F : Nat → PE} {K : Nat → Nat} {m a q c o : Nat} {i : Int} {k n : Nat} {s5 s6 s7 s8 : Option Value} (hL : LSx LX m a q c o) (hI : LI LX F K m a q c o) (hi : 0 ≤ i ∧ i + 2 < Ls ∧ Ls ≤ 1536) (hk : k + 1 ≤ 601024 ∧ n + 6 ≤ 7293034)
    (cont : ∀ (k2 n2 : Nat) (F2 : Nat → PE) (t5 t6 t7 t8 : Option Value), k2 ≤ k + 1 → n2 ≤ n + 6 → LI LX F2 K m a q c o → ZZ k2 n2 2079 [some (.ref b), some (.ref (K 0)), some (.ref m), some (.ref o), some (.int (iI i)), t5, t6, t7, t8] [] (LX ++ [m, a, q, c, o]) F2) :
    ZZ k n 432 [some (.ref b), some (.ref (K 0)), some (.ref m), some (.ref o), some (.int (iI i)), s5, s6, s7, s8] [] (LX ++ [m, a, q, c, o]) F := by
  obtain ⟨g, kd, sv, kp, nn, bf, th, pt, tm, sg, u, dgt, mot, hu⟩ := hI
  have fx := dr.fx dgt
  have rg := fx.1.1
  obtain ⟨hd9, oM, oA, oQ, oC⟩ := hL
  have hv := (dr.fx (dg.pre dgt)).1
  have y1 := hok (i + 1)
  have y2 := hok (i + 2)
  have oin : o ∈ [m, a, q, c, o] := by simp
  have hd5 : ∀ b, b ∈ LX → b ≠ o := fun b hb => (hd9 b hb).2.2.2.2
  have mM : m ∈ [m, a, q, c, o] := by simp
  have aM : a ∈ [m, a, q, c, o] := by simp
  have qM : q ∈ [m, a, q, c, o] := by simp
  have cM : c ∈ [m, a, q, c, o] := by simp
  refine zq_aload_n1 hZ dL_law_432 ?_
  refine zq_cV hZ (As := []) rfl dL_law_433 ml_L_126 wy_X7_greaten (pm_fr [m, a, q, c, o] (m_X7_greaten l hfl (dg.pre dgt))) (List.mem_append_left _ (dr.L dgt 0 (by omega))) (dr.S dgt).2.1 rfl ⟨Nat.le_of_ble_eq_true rfl, Nat.le_of_ble_eq_true rfl⟩ ⟨by show k + 1 ≤ 601024; omega, by show n + 6 ≤ 7293034; omega⟩ (Nat.le_of_ble_eq_true rfl) (fun _ _ _ h => by obtain ⟨_, _, h, _⟩ := h; exact absurd True.intro h.2.1) (fun v9 L9 F9 hp => ?_)
  obtain ⟨L8, F8, hp, rfl, e1, fM⟩ := hp
  obtain ⟨x1, rfl, rfl, x3⟩ := hp
  have rr := dAn_rg (d := 18) hv (by decide) x1
  have mot9 := mo.mv (F1 := F9) mot (fM m mM) (fM a aM) (fM q qM) (fM c cM)
  refine zq_aload_n2 hZ dL_law_436 ?_
  refine zq_cV hZ (As := []) rfl dL_law_437 ml_L_129 wy_X8_greaten (m_X8_greaten l mot9 hv fx.2.1) (List.mem_append_right _ mM) mot9.2.1 rfl ⟨Nat.le_of_ble_eq_true rfl, Nat.le_of_ble_eq_true rfl⟩ ⟨by show k + 1 + 0 ≤ 601024; omega, by show n + 6 + 0 ≤ 7293034; omega⟩ (Nat.le_of_ble_eq_true rfl) (fun _ _ _ h => h.elim) (fun v9 L2 F2 hp => ?_)
  obtain ⟨rfl, fr, hM⟩ := hp
  obtain ⟨rfl, h, z2, mo2⟩ := (hM.resolve_right (fun w => w.1 x1)).2
  have e2 : ∀ b, b ∈ LX → F2 b = F9 b := fun b hb => fr b (hd9 b hb).1 (hd9 b hb).2.1 (hd9 b hb).2.2.1 (hd9 b hb).2.2.2.1
  have dg2 := dg.rem fx.2.1 (dr.mv x3 (fun b hb => (e2 b hb).trans (e1 b hb))) (fun z hz => dTo_hi hv (by decide) x1 hz) z2
  have ho2 : F2 o = eL 1 u := (fr o oM oA oQ oC).trans ((fM o oin).trans hu)
  exact zq_icmp_eq hZ (tgt := 2079) dL_law_440 rfl (by omega) (fun _ => cont _ _ F2 _ _ _ _ (by show k + 1 + 0 ≤ k + 1; omega) (by show n + 6 + 0 ≤ n + 6; omega) ⟨_, _, _, _, _, _, _, _, _, _, u, dg2, mo2, ho2⟩) (fun hne => absurd rfl hne)
set_option maxRecDepth 100000 in
set_option maxHeartbeats 4000000 in
theorem lc_4 (l : Launch) (hfl : l.flags = flags0) {ZZ : ZT} {tbl : List ExceptionTableEntry} {nm ds : String} {Φ : State → Prop} {post : Option Value → List Nat → (Nat → PE) → Prop} {xp : String → List Nat → (Nat → PE) → Prop} (hZ : ZZ = Zq Φ tbl l ⟨"DragonRingLaw", nm, ds⟩ cL_law 9 (some .boolean) room_1 [] post xp) (hΦ : ∀ s, Φ s → va_Nc xS xA s) {b Ls : Nat} {sx : Int → Int} (hsx : ∀ s, Φ s → va_X b Ls (fun j => iI (sx (j : Int))) s s.heap ∧ b < s.heap.size) (hok : ∀ j, -2147483648 ≤ sx j ∧ sx j ≤ 2147483647) {LX : List Nat} {F : Nat → PE} {K : Nat → Nat} {m a q c o : Nat} {i : Int} {k n : Nat} {s5 s6 s7 s8 : Option Value} (hL : LSx LX m a q c o) (hI : LI LX F K m a q c o) (hi : 0 ≤ i ∧ i + 2 < Ls ∧ Ls ≤ 1536) (hk : k + 1 ≤ 601024 ∧ n + 6 ≤ 7293034)
    (cont : ∀ (k2 n2 : Nat) (F2 : Nat → PE) (t5 t6 t7 t8 : Option Value), k2 ≤ k + 1 → n2 ≤ n + 6 → LI LX F2 K m a q c o → ZZ k2 n2 2079 [some (.ref b), some (.ref (K 0)), some (.ref m), some (.ref o), some (.int (iI i)), t5, t6, t7, t8] [] (LX ++ [m, a, q, c, o]) F2) :
    ZZ k n 445 [some (.ref b), some (.ref (K 0)), some (.ref m), some (.ref o), some (.int (iI i)), s5, s6, s7, s8] [] (LX ++ [m, a, q, c, o]) F := by
  obtain ⟨g, kd, sv, kp, nn, bf, th, pt, tm, sg, u, dgt, mot, hu⟩ := hI
  have fx := dr.fx dgt
  have rg := fx.1.1
  obtain ⟨hd9, oM, oA, oQ, oC⟩ := hL
  have hv := (dr.fx (dg.pre dgt)).1
  have y1 := hok (i + 1)
  have y2 := hok (i + 2)
  have oin : o ∈ [m, a, q, c, o] := by simp
  have hd5 : ∀ b, b ∈ LX → b ≠ o := fun b hb => (hd9 b hb).2.2.2.2
  have mM : m ∈ [m, a, q, c, o] := by simp
  have aM : a ∈ [m, a, q, c, o] := by simp
  have qM : q ∈ [m, a, q, c, o] := by simp
  have cM : c ∈ [m, a, q, c, o] := by simp
  refine zq_aload_n1 hZ dL_law_445 ?_
  refine zq_aload_n0 hZ dL_law_446 ?_
  refine zq_iload4 hZ dL_law_447 ?_
  refine zq_iconst hZ dL_law_449 ?_
  refine zq_iadd hZ dL_law_450 ?_
  refine zq_sld hZ hsx rfl dL_law_451 (by omega) ?_
  refine zq_aload_n3 hZ dL_law_452 ?_
  refine zq_cSh hZ hΦ (As := [_, _, _]) rfl dL_law_453 ml_L_130 wy_L_goTo (m_L_goTo l (M := [m, a, q, c, o]) hfl (dgt) oin hd5 hu y1) ⟨Nat.le_of_ble_eq_true rfl, Nat.le_of_ble_eq_true rfl⟩ ⟨by show k + 1 ≤ 601024; omega, by show n + 6 ≤ 7293034; omega⟩ (Nat.le_of_ble_eq_true rfl) (fun v9 L9 F9 hp => ?_)
  obtain ⟨rfl, fM, u1, hu1, hX⟩ := hp
  obtain ⟨kk, rfl, hY⟩ : ∃ kk, v9 = some (.int (iI kk)) ∧ ((kk = 0 ∧ (0 ≤ (sx (i + 1)) ∧ (sx (i + 1)) ≤ g 0) ∧ True ∧ u1 0 = g 1 ∧ dr LX F9 K (vGo (sx (i + 1)) g) 0 (hN sv) (hS sv (sH g) g) kp (sQ g) nn bf) ∨ (kk = 1 ∧ ¬ (0 ≤ (sx (i + 1)) ∧ (sx (i + 1)) ≤ g 0) ∧ dr LX F9 K g kd sv (sH g) kp (sQ g) nn bf) ∨ (kk = 2 ∧ (0 ≤ (sx (i + 1)) ∧ (sx (i + 1)) ≤ g 0) ∧ ¬ True ∧ dr LX F9 K g kd sv (sH g) kp (sQ g) nn bf)) := by
    rcases hX with ⟨x1, x2, x3, x4, x5⟩ | ⟨x1, x2, x3⟩ | ⟨x1, x2, x3, x4⟩
    · exact ⟨0, x3, Or.inl ⟨rfl, x1, x2, x4, x5⟩⟩
    · exact ⟨1, x2, Or.inr (Or.inl ⟨rfl, x1, x3⟩)⟩
    · exact ⟨2, x3, Or.inr (Or.inr ⟨rfl, x1, x2, x4⟩)⟩
  have mot9 := mo.mv (F1 := F9) mot (fM m mM (Ne.symm oM)) (fM a aM (Ne.symm oA)) (fM q qM (Ne.symm oQ)) (fM c cM (Ne.symm oC))
  refine zq_istore5 hZ dL_law_456 (by decide) rfl ?_
  refine zq_aload_n2 hZ dL_law_458 ?_
  refine zq_aload_n0 hZ dL_law_459 ?_
  refine zq_iload4 hZ dL_law_460 ?_
  refine zq_iconst hZ dL_law_462 ?_
  refine zq_iadd hZ dL_law_463 ?_
  refine zq_sld hZ hsx rfl dL_law_464 (by omega) ?_
  refine zq_cV hZ (As := [_]) rfl dL_law_465 ml_L_132 wy_X8_goTo (m_X8_goTo l mot9 fx.1 fx.2.1 y1) (List.mem_append_right _ mM) mot9.2.1 rfl ⟨Nat.le_of_ble_eq_true rfl, Nat.le_of_ble_eq_true rfl⟩ ⟨by show k + 1 + 0 ≤ 601024; omega, by show n + 6 + 0 ≤ 7293034; omega⟩ (Nat.le_of_ble_eq_true rfl) (fun _ _ _ h => h.elim) (fun v9 L2 F2 hp => ?_)
  obtain ⟨rfl, fr, hM⟩ := hp
  obtain ⟨bv, rfl, hN9⟩ : ∃ bv, v9 = some (.int (iI bv)) ∧ (((0 ≤ (sx (i + 1)) ∧ (sx (i + 1)) ≤ g 0) ∧ True ∧ bv = g 1 ∧ ∃ h, svP 0 sv g h ∧ mo (LX ++ [m, a, q, c, o]) F2 m a q c (vGo (sx (i + 1)) h) (hN sv) 0 0 nn pt tm sg kp bf) ∨ (¬ (0 ≤ (sx (i + 1)) ∧ (sx (i + 1)) ≤ g 0) ∧ bv = 0 ∧ mo (LX ++ [m, a, q, c, o]) F2 m a q c g sv 1 kd nn pt tm sg kp bf) ∨ ((0 ≤ (sx (i + 1)) ∧ (sx (i + 1)) ≤ g 0) ∧ ¬ True ∧ bv = 0 ∧ mo (LX ++ [m, a, q, c, o]) F2 m a q c g sv 2 kd nn pt tm sg kp bf)) := by
    rcases hM with ⟨x1, x2, x3, x4⟩ | ⟨x1, x2, x3⟩ | ⟨x1, x2, x3, x4⟩
    · exact ⟨_, x3, Or.inl ⟨x1, x2, rfl, x4⟩⟩
    · exact ⟨0, x2, Or.inr (Or.inl ⟨x1, rfl, x3⟩)⟩
    · exact ⟨0, x3, Or.inr (Or.inr ⟨x1, x2, rfl, x4⟩)⟩
  have fin : ∃ g2 kd2 sv2 kp2 n2 bf2 pt2 tm2 sg2, dg LX F2 K g2 kd2 sv2 kp2 n2 bf2 ∧ mo (LX ++ [m, a, q, c, o]) F2 m a q c g2 sv2 kk kd2 n2 pt2 tm2 sg2 kp2 bf2 ∧ (kk = 0 → u1 0 = bv) ∧ (0 ≤ kk ∧ kk ≤ 2) ∧ (-2147483648 ≤ bv ∧ bv ≤ 2147483647) := by
    have e2 : ∀ b, b ∈ LX → F2 b = F9 b := fun b hb => fr b (hd9 b hb).1 (hd9 b hb).2.1 (hd9 b hb).2.2.1 (hd9 b hb).2.2.2.1
    rcases hY with ⟨rfl, x1, x2, x3, x4⟩ | ⟨rfl, x1, x3⟩ | ⟨rfl, x1, x2, x3⟩
    · rcases hN9 with ⟨z1, z2, rfl, h, z3, z4⟩ | ⟨z1, rfl, z3⟩ | ⟨z1, z2, rfl, z3⟩
      · have ha : ag g h := fun w w0 w1 => (z3.1 w w0 w1).symm
        exact ⟨_, _, _, _, _, _, _, _, _, dg.sav fx.2.1 (dr.mv x4 e2) z3 (fun z hz => hi_go hz) (ag_go ha), z4, fun _ => x3, by omega, by omega⟩
      · exact absurd x1 z1
      · exact absurd x2 z2
    · rcases hN9 with ⟨z1, z2, rfl, h, z3, z4⟩ | ⟨z1, rfl, z3⟩ | ⟨z1, z2, rfl, z3⟩
      · exact absurd z1 x1
      · exact ⟨_, _, _, _, _, _, _, _, _, dr.mv x3 e2, z3, fun w => absurd w (by decide), by omega, by omega⟩
      · exact absurd z1 x1
    · rcases hN9 with ⟨z1, z2, rfl, h, z3, z4⟩ | ⟨z1, rfl, z3⟩ | ⟨z1, z2, rfl, z3⟩
      · exact absurd z2 x2
      · exact absurd x1 z1
      · exact ⟨_, _, _, _, _, _, _, _, _, dr.mv x3 e2, z3, fun w => absurd w (by decide), by omega, by omega⟩
  obtain ⟨g2, kd2, sv2, kp2, n2, bf2, pt2, tm2, sg2, dg2, mo2, hval, hkk, hbv⟩ := fin
  have ho2 : F2 o = eL 1 u1 := (fr o oM oA oQ oC).trans hu1
  have fins : LI LX F2 K m a q c o := ⟨g2, kd2, sv2, kp2, n2, bf2, kk, pt2, tm2, sg2, u1, dg2, mo2, ho2⟩
  refine zq_istore6 hZ dL_law_468 (by decide) rfl ?_
  refine zq_aload_n2 hZ dL_law_470 ?_
  refine zq_cV hZ (As := []) rfl dL_law_471 ml_L_116 wy_X8_thrown (m_X8_thrown l mo2) (List.mem_append_right _ mM) mo2.2.1 rfl ⟨Nat.le_of_ble_eq_true rfl, Nat.le_of_ble_eq_true rfl⟩ ⟨by show k + 1 + 0 + 0 ≤ 601024; omega, by show n + 6 + 0 + 0 ≤ 7293034; omega⟩ (Nat.le_of_ble_eq_true rfl) (fun _ _ _ h => h.elim) (fun v9 L3 F3 hp => ?_)
  obtain ⟨rfl, rfl, rfl⟩ := hp
  refine zq_iload5 hZ dL_law_474 ?_
  refine zq_icmp_eq hZ (tgt := 481) dL_law_476 rfl (by omega) (fun _ => ?_) (fun hne => absurd rfl hne)
  refine zq_iload5 hZ dL_law_481 ?_
  have done : ∀ t5 t6 t7 t8, ZZ _ _ 498 [some (.ref b), some (.ref (K 0)), some (.ref m), some (.ref o), some (.int (iI i)), t5, t6, t7, t8] [] (LX ++ [m, a, q, c, o]) F2 := fun t5 t6 t7 t8 => zq_goto hZ (tgt := 2079) dL_law_498 rfl (cont (k + 1 + 0 + 0) (n + 6 + 0 + 0) F2 t5 t6 t7 t8 (by omega) (by omega) fins)
  refine zq_if_ne hZ (tgt := 498) dL_law_483 rfl (by omega) (fun _ => done _ _ _ _) (fun hk0 => ?_)
  refine zq_aload_n3 hZ dL_law_486 ?_
  refine zq_iconst hZ dL_law_487 ?_
  refine zq_laload hZ dL_law_488 (List.mem_append_right _ oin) ho2 ⟨by omega, by omega, by omega⟩ ?_
  refine zq_iload6 hZ dL_law_489 ?_
  refine zq_i2l hZ dL_law_491 hbv ?_
  rw [hval hk0]
  refine zq_lcmp hZ dL_law_492 ?_
  exact zq_if_eq_raw hZ (tgt := 498) dL_law_493 rfl (fun _ => done _ _ _ _) (fun hne => absurd ((lg_cmp_eq _ _).mpr rfl) hne)
set_option maxRecDepth 100000 in
set_option maxHeartbeats 4000000 in
theorem lc_5 (l : Launch) (hfl : l.flags = flags0) {ZZ : ZT} {tbl : List ExceptionTableEntry} {nm ds : String} {Φ : State → Prop} {post : Option Value → List Nat → (Nat → PE) → Prop} {xp : String → List Nat → (Nat → PE) → Prop} (hZ : ZZ = Zq Φ tbl l ⟨"DragonRingLaw", nm, ds⟩ cL_law 9 (some .boolean) room_1 [] post xp) (hΦ : ∀ s, Φ s → va_Nc xS xA s) {b Ls : Nat} {sx : Int → Int} (hsx : ∀ s, Φ s → va_X b Ls (fun j => iI (sx (j : Int))) s s.heap ∧ b < s.heap.size) (hok : ∀ j, -2147483648 ≤ sx j ∧ sx j ≤ 2147483647) {LX : List Nat} {F : Nat → PE} {K : Nat → Nat} {m a q c o : Nat} {i : Int} {k n : Nat} {s5 s6 s7 s8 : Option Value} (hL : LSx LX m a q c o) (hI : LI LX F K m a q c o) (hi : 0 ≤ i ∧ i + 2 < Ls ∧ Ls ≤ 1536) (hk : k + 1 ≤ 601024 ∧ n + 6 ≤ 7293034)
    (cont : ∀ (k2 n2 : Nat) (F2 : Nat → PE) (t5 t6 t7 t8 : Option Value), k2 ≤ k + 1 → n2 ≤ n + 6 → LI LX F2 K m a q c o → ZZ k2 n2 2079 [some (.ref b), some (.ref (K 0)), some (.ref m), some (.ref o), some (.int (iI i)), t5, t6, t7, t8] [] (LX ++ [m, a, q, c, o]) F2) :
    ZZ k n 501 [some (.ref b), some (.ref (K 0)), some (.ref m), some (.ref o), some (.int (iI i)), s5, s6, s7, s8] [] (LX ++ [m, a, q, c, o]) F := by
  obtain ⟨g, kd, sv, kp, nn, bf, th, pt, tm, sg, u, dgt, mot, hu⟩ := hI
  have fx := dr.fx dgt
  have rg := fx.1.1
  obtain ⟨hd9, oM, oA, oQ, oC⟩ := hL
  have hv := (dr.fx (dg.pre dgt)).1
  have y1 := hok (i + 1)
  have y2 := hok (i + 2)
  have oin : o ∈ [m, a, q, c, o] := by simp
  have hd5 : ∀ b, b ∈ LX → b ≠ o := fun b hb => (hd9 b hb).2.2.2.2
  have mM : m ∈ [m, a, q, c, o] := by simp
  have aM : a ∈ [m, a, q, c, o] := by simp
  have qM : q ∈ [m, a, q, c, o] := by simp
  have cM : c ∈ [m, a, q, c, o] := by simp
  refine zq_aload_n1 hZ dL_law_501 ?_
  refine zq_cV hZ (As := []) rfl dL_law_502 ml_L_133 wy_X7_wordOn (pm_fr [m, a, q, c, o] (m_X7_wordOn l hfl (dg.pre dgt))) (List.mem_append_left _ (dr.L dgt 0 (by omega))) (dr.S dgt).2.1 rfl ⟨Nat.le_of_ble_eq_true rfl, Nat.le_of_ble_eq_true rfl⟩ ⟨by show k + 1 ≤ 601024; omega, by show n + 6 ≤ 7293034; omega⟩ (Nat.le_of_ble_eq_true rfl) (fun _ _ _ h => by obtain ⟨_, _, h, _⟩ := h; exact absurd True.intro h.2.1) (fun v9 L9 F9 hp => ?_)
  obtain ⟨L8, F8, hp, rfl, e1, fM⟩ := hp
  obtain ⟨x1, rfl, rfl, x3⟩ := hp
  have rr := dAn_rg (d := 2) hv (by decide) x1
  have mot9 := mo.mv (F1 := F9) mot (fM m mM) (fM a aM) (fM q qM) (fM c cM)
  refine zq_aload_n2 hZ dL_law_505 ?_
  refine zq_cV hZ (As := []) rfl dL_law_506 ml_L_136 wy_X8_wordOn (m_X8_wordOn l mot9 hv fx.2.1) (List.mem_append_right _ mM) mot9.2.1 rfl ⟨Nat.le_of_ble_eq_true rfl, Nat.le_of_ble_eq_true rfl⟩ ⟨by show k + 1 + 0 ≤ 601024; omega, by show n + 6 + 0 ≤ 7293034; omega⟩ (Nat.le_of_ble_eq_true rfl) (fun _ _ _ h => h.elim) (fun v9 L2 F2 hp => ?_)
  obtain ⟨rfl, fr, hM⟩ := hp
  obtain ⟨rfl, h, z2, mo2⟩ := (hM.resolve_right (fun w => w.1 x1)).2
  have e2 : ∀ b, b ∈ LX → F2 b = F9 b := fun b hb => fr b (hd9 b hb).1 (hd9 b hb).2.1 (hd9 b hb).2.2.1 (hd9 b hb).2.2.2.1
  have dg2 := dg.rem fx.2.1 (dr.mv x3 (fun b hb => (e2 b hb).trans (e1 b hb))) (fun z hz => dTo_hi hv (by decide) x1 hz) z2
  have ho2 : F2 o = eL 1 u := (fr o oM oA oQ oC).trans ((fM o oin).trans hu)
  exact zq_icmp_eq hZ (tgt := 2079) dL_law_509 rfl (by omega) (fun _ => cont _ _ F2 _ _ _ _ (by show k + 1 + 0 ≤ k + 1; omega) (by show n + 6 + 0 ≤ n + 6; omega) ⟨_, _, _, _, _, _, _, _, _, _, u, dg2, mo2, ho2⟩) (fun hne => absurd rfl hne)
set_option maxRecDepth 100000 in
set_option maxHeartbeats 4000000 in
theorem lc_6 (l : Launch) (hfl : l.flags = flags0) {ZZ : ZT} {tbl : List ExceptionTableEntry} {nm ds : String} {Φ : State → Prop} {post : Option Value → List Nat → (Nat → PE) → Prop} {xp : String → List Nat → (Nat → PE) → Prop} (hZ : ZZ = Zq Φ tbl l ⟨"DragonRingLaw", nm, ds⟩ cL_law 9 (some .boolean) room_1 [] post xp) (hΦ : ∀ s, Φ s → va_Nc xS xA s) {b Ls : Nat} {sx : Int → Int} (hsx : ∀ s, Φ s → va_X b Ls (fun j => iI (sx (j : Int))) s s.heap ∧ b < s.heap.size) (hok : ∀ j, -2147483648 ≤ sx j ∧ sx j ≤ 2147483647) {LX : List Nat} {F : Nat → PE} {K : Nat → Nat} {m a q c o : Nat} {i : Int} {k n : Nat} {s5 s6 s7 s8 : Option Value} (hL : LSx LX m a q c o) (hI : LI LX F K m a q c o) (hi : 0 ≤ i ∧ i + 2 < Ls ∧ Ls ≤ 1536) (hk : k + 1 ≤ 601024 ∧ n + 6 ≤ 7293034)
    (cont : ∀ (k2 n2 : Nat) (F2 : Nat → PE) (t5 t6 t7 t8 : Option Value), k2 ≤ k + 1 → n2 ≤ n + 6 → LI LX F2 K m a q c o → ZZ k2 n2 2079 [some (.ref b), some (.ref (K 0)), some (.ref m), some (.ref o), some (.int (iI i)), t5, t6, t7, t8] [] (LX ++ [m, a, q, c, o]) F2) :
    ZZ k n 514 [some (.ref b), some (.ref (K 0)), some (.ref m), some (.ref o), some (.int (iI i)), s5, s6, s7, s8] [] (LX ++ [m, a, q, c, o]) F := by
  obtain ⟨g, kd, sv, kp, nn, bf, th, pt, tm, sg, u, dgt, mot, hu⟩ := hI
  have fx := dr.fx dgt
  have rg := fx.1.1
  obtain ⟨hd9, oM, oA, oQ, oC⟩ := hL
  have hv := (dr.fx (dg.pre dgt)).1
  have y1 := hok (i + 1)
  have y2 := hok (i + 2)
  have oin : o ∈ [m, a, q, c, o] := by simp
  have hd5 : ∀ b, b ∈ LX → b ≠ o := fun b hb => (hd9 b hb).2.2.2.2
  have mM : m ∈ [m, a, q, c, o] := by simp
  have aM : a ∈ [m, a, q, c, o] := by simp
  have qM : q ∈ [m, a, q, c, o] := by simp
  have cM : c ∈ [m, a, q, c, o] := by simp
  refine zq_aload_n1 hZ dL_law_514 ?_
  refine zq_cV hZ (As := []) rfl dL_law_515 ml_L_137 wy_X7_wordBack (pm_fr [m, a, q, c, o] (m_X7_wordBack l hfl (dg.pre dgt))) (List.mem_append_left _ (dr.L dgt 0 (by omega))) (dr.S dgt).2.1 rfl ⟨Nat.le_of_ble_eq_true rfl, Nat.le_of_ble_eq_true rfl⟩ ⟨by show k + 1 ≤ 601024; omega, by show n + 6 ≤ 7293034; omega⟩ (Nat.le_of_ble_eq_true rfl) (fun _ _ _ h => by obtain ⟨_, _, h, _⟩ := h; exact absurd True.intro h.2.1) (fun v9 L9 F9 hp => ?_)
  obtain ⟨L8, F8, hp, rfl, e1, fM⟩ := hp
  obtain ⟨x1, rfl, rfl, x3⟩ := hp
  have rr := dAn_rg (d := 3) hv (by decide) x1
  have mot9 := mo.mv (F1 := F9) mot (fM m mM) (fM a aM) (fM q qM) (fM c cM)
  refine zq_aload_n2 hZ dL_law_518 ?_
  refine zq_cV hZ (As := []) rfl dL_law_519 ml_L_140 wy_X8_wordBack (m_X8_wordBack l mot9 hv fx.2.1) (List.mem_append_right _ mM) mot9.2.1 rfl ⟨Nat.le_of_ble_eq_true rfl, Nat.le_of_ble_eq_true rfl⟩ ⟨by show k + 1 + 0 ≤ 601024; omega, by show n + 6 + 0 ≤ 7293034; omega⟩ (Nat.le_of_ble_eq_true rfl) (fun _ _ _ h => h.elim) (fun v9 L2 F2 hp => ?_)
  obtain ⟨rfl, fr, hM⟩ := hp
  obtain ⟨rfl, h, z2, mo2⟩ := (hM.resolve_right (fun w => w.1 x1)).2
  have e2 : ∀ b, b ∈ LX → F2 b = F9 b := fun b hb => fr b (hd9 b hb).1 (hd9 b hb).2.1 (hd9 b hb).2.2.1 (hd9 b hb).2.2.2.1
  have dg2 := dg.rem fx.2.1 (dr.mv x3 (fun b hb => (e2 b hb).trans (e1 b hb))) (fun z hz => dTo_hi hv (by decide) x1 hz) z2
  have ho2 : F2 o = eL 1 u := (fr o oM oA oQ oC).trans ((fM o oin).trans hu)
  exact zq_icmp_eq hZ (tgt := 2079) dL_law_522 rfl (by omega) (fun _ => cont _ _ F2 _ _ _ _ (by show k + 1 + 0 ≤ k + 1; omega) (by show n + 6 + 0 ≤ n + 6; omega) ⟨_, _, _, _, _, _, _, _, _, _, u, dg2, mo2, ho2⟩) (fun hne => absurd rfl hne)
set_option maxRecDepth 100000 in
set_option maxHeartbeats 4000000 in
theorem lc_7 (l : Launch) (hfl : l.flags = flags0) {ZZ : ZT} {tbl : List ExceptionTableEntry} {nm ds : String} {Φ : State → Prop} {post : Option Value → List Nat → (Nat → PE) → Prop} {xp : String → List Nat → (Nat → PE) → Prop} (hZ : ZZ = Zq Φ tbl l ⟨"DragonRingLaw", nm, ds⟩ cL_law 9 (some .boolean) room_1 [] post xp) (hΦ : ∀ s, Φ s → va_Nc xS xA s) {b Ls : Nat} {sx : Int → Int} (hsx : ∀ s, Φ s → va_X b Ls (fun j => iI (sx (j : Int))) s s.heap ∧ b < s.heap.size) (hok : ∀ j, -2147483648 ≤ sx j ∧ sx j ≤ 2147483647) {LX : List Nat} {F : Nat → PE} {K : Nat → Nat} {m a q c o : Nat} {i : Int} {k n : Nat} {s5 s6 s7 s8 : Option Value} (hL : LSx LX m a q c o) (hI : LI LX F K m a q c o) (hi : 0 ≤ i ∧ i + 2 < Ls ∧ Ls ≤ 1536) (hk : k + 1 ≤ 601024 ∧ n + 6 ≤ 7293034)
    (cont : ∀ (k2 n2 : Nat) (F2 : Nat → PE) (t5 t6 t7 t8 : Option Value), k2 ≤ k + 1 → n2 ≤ n + 6 → LI LX F2 K m a q c o → ZZ k2 n2 2079 [some (.ref b), some (.ref (K 0)), some (.ref m), some (.ref o), some (.int (iI i)), t5, t6, t7, t8] [] (LX ++ [m, a, q, c, o]) F2) :
    ZZ k n 527 [some (.ref b), some (.ref (K 0)), some (.ref m), some (.ref o), some (.int (iI i)), s5, s6, s7, s8] [] (LX ++ [m, a, q, c, o]) F := by
  obtain ⟨g, kd, sv, kp, nn, bf, th, pt, tm, sg, u, dgt, mot, hu⟩ := hI
  have fx := dr.fx dgt
  have rg := fx.1.1
  obtain ⟨hd9, oM, oA, oQ, oC⟩ := hL
  have hv := (dr.fx (dg.pre dgt)).1
  have y1 := hok (i + 1)
  have y2 := hok (i + 2)
  have oin : o ∈ [m, a, q, c, o] := by simp
  have hd5 : ∀ b, b ∈ LX → b ≠ o := fun b hb => (hd9 b hb).2.2.2.2
  have mM : m ∈ [m, a, q, c, o] := by simp
  have aM : a ∈ [m, a, q, c, o] := by simp
  have qM : q ∈ [m, a, q, c, o] := by simp
  have cM : c ∈ [m, a, q, c, o] := by simp
  refine zq_aload_n1 hZ dL_law_527 ?_
  refine zq_cV hZ (As := []) rfl dL_law_528 ml_L_141 wy_X7_lineBegin (pm_fr [m, a, q, c, o] (m_X7_lineBegin l hfl (dg.pre dgt))) (List.mem_append_left _ (dr.L dgt 0 (by omega))) (dr.S dgt).2.1 rfl ⟨Nat.le_of_ble_eq_true rfl, Nat.le_of_ble_eq_true rfl⟩ ⟨by show k + 1 ≤ 601024; omega, by show n + 6 ≤ 7293034; omega⟩ (Nat.le_of_ble_eq_true rfl) (fun _ _ _ h => by obtain ⟨_, _, h, _⟩ := h; exact absurd True.intro h.2.1) (fun v9 L9 F9 hp => ?_)
  obtain ⟨L8, F8, hp, rfl, e1, fM⟩ := hp
  obtain ⟨x1, rfl, rfl, x3⟩ := hp
  have rr := dAn_rg (d := 4) hv (by decide) x1
  have mot9 := mo.mv (F1 := F9) mot (fM m mM) (fM a aM) (fM q qM) (fM c cM)
  refine zq_aload_n2 hZ dL_law_531 ?_
  refine zq_cV hZ (As := []) rfl dL_law_532 ml_L_144 wy_X8_lineBegin (m_X8_lineBegin l mot9 hv fx.2.1) (List.mem_append_right _ mM) mot9.2.1 rfl ⟨Nat.le_of_ble_eq_true rfl, Nat.le_of_ble_eq_true rfl⟩ ⟨by show k + 1 + 0 ≤ 601024; omega, by show n + 6 + 0 ≤ 7293034; omega⟩ (Nat.le_of_ble_eq_true rfl) (fun _ _ _ h => h.elim) (fun v9 L2 F2 hp => ?_)
  obtain ⟨rfl, fr, hM⟩ := hp
  obtain ⟨rfl, h, z2, mo2⟩ := (hM.resolve_right (fun w => w.1 x1)).2
  have e2 : ∀ b, b ∈ LX → F2 b = F9 b := fun b hb => fr b (hd9 b hb).1 (hd9 b hb).2.1 (hd9 b hb).2.2.1 (hd9 b hb).2.2.2.1
  have dg2 := dg.rem fx.2.1 (dr.mv x3 (fun b hb => (e2 b hb).trans (e1 b hb))) (fun z hz => dTo_hi hv (by decide) x1 hz) z2
  have ho2 : F2 o = eL 1 u := (fr o oM oA oQ oC).trans ((fM o oin).trans hu)
  exact zq_icmp_eq hZ (tgt := 2079) dL_law_535 rfl (by omega) (fun _ => cont _ _ F2 _ _ _ _ (by show k + 1 + 0 ≤ k + 1; omega) (by show n + 6 + 0 ≤ n + 6; omega) ⟨_, _, _, _, _, _, _, _, _, _, u, dg2, mo2, ho2⟩) (fun hne => absurd rfl hne)
set_option maxRecDepth 100000 in
set_option maxHeartbeats 4000000 in
theorem lc_8 (l : Launch) (hfl : l.flags = flags0) {ZZ : ZT} {tbl : List ExceptionTableEntry} {nm ds : String} {Φ : State → Prop} {post : Option Value → List Nat → (Nat → PE) → Prop} {xp : String → List Nat → (Nat → PE) → Prop} (hZ : ZZ = Zq Φ tbl l ⟨"DragonRingLaw", nm, ds⟩ cL_law 9 (some .boolean) room_1 [] post xp) (hΦ : ∀ s, Φ s → va_Nc xS xA s) {b Ls : Nat} {sx : Int → Int} (hsx : ∀ s, Φ s → va_X b Ls (fun j => iI (sx (j : Int))) s s.heap ∧ b < s.heap.size) (hok : ∀ j, -2147483648 ≤ sx j ∧ sx j ≤ 2147483647) {LX : List Nat} {F : Nat → PE} {K : Nat → Nat} {m a q c o : Nat} {i : Int} {k n : Nat} {s5 s6 s7 s8 : Option Value} (hL : LSx LX m a q c o) (hI : LI LX F K m a q c o) (hi : 0 ≤ i ∧ i + 2 < Ls ∧ Ls ≤ 1536) (hk : k + 1 ≤ 601024 ∧ n + 6 ≤ 7293034)
    (cont : ∀ (k2 n2 : Nat) (F2 : Nat → PE) (t5 t6 t7 t8 : Option Value), k2 ≤ k + 1 → n2 ≤ n + 6 → LI LX F2 K m a q c o → ZZ k2 n2 2079 [some (.ref b), some (.ref (K 0)), some (.ref m), some (.ref o), some (.int (iI i)), t5, t6, t7, t8] [] (LX ++ [m, a, q, c, o]) F2) :
    ZZ k n 540 [some (.ref b), some (.ref (K 0)), some (.ref m), some (.ref o), some (.int (iI i)), s5, s6, s7, s8] [] (LX ++ [m, a, q, c, o]) F := by
  obtain ⟨g, kd, sv, kp, nn, bf, th, pt, tm, sg, u, dgt, mot, hu⟩ := hI
  have fx := dr.fx dgt
  have rg := fx.1.1
  obtain ⟨hd9, oM, oA, oQ, oC⟩ := hL
  have hv := (dr.fx (dg.pre dgt)).1
  have y1 := hok (i + 1)
  have y2 := hok (i + 2)
  have oin : o ∈ [m, a, q, c, o] := by simp
  have hd5 : ∀ b, b ∈ LX → b ≠ o := fun b hb => (hd9 b hb).2.2.2.2
  have mM : m ∈ [m, a, q, c, o] := by simp
  have aM : a ∈ [m, a, q, c, o] := by simp
  have qM : q ∈ [m, a, q, c, o] := by simp
  have cM : c ∈ [m, a, q, c, o] := by simp
  refine zq_aload_n1 hZ dL_law_540 ?_
  refine zq_cV hZ (As := []) rfl dL_law_541 ml_L_145 wy_X7_lineEnd (pm_fr [m, a, q, c, o] (m_X7_lineEnd l hfl (dg.pre dgt))) (List.mem_append_left _ (dr.L dgt 0 (by omega))) (dr.S dgt).2.1 rfl ⟨Nat.le_of_ble_eq_true rfl, Nat.le_of_ble_eq_true rfl⟩ ⟨by show k + 1 ≤ 601024; omega, by show n + 6 ≤ 7293034; omega⟩ (Nat.le_of_ble_eq_true rfl) (fun _ _ _ h => by obtain ⟨_, _, h, _⟩ := h; exact absurd True.intro h.2.1) (fun v9 L9 F9 hp => ?_)
  obtain ⟨L8, F8, hp, rfl, e1, fM⟩ := hp
  obtain ⟨x1, rfl, rfl, x3⟩ := hp
  have rr := dAn_rg (d := 5) hv (by decide) x1
  have mot9 := mo.mv (F1 := F9) mot (fM m mM) (fM a aM) (fM q qM) (fM c cM)
  refine zq_aload_n2 hZ dL_law_544 ?_
  refine zq_cV hZ (As := []) rfl dL_law_545 ml_L_148 wy_X8_lineEnd (m_X8_lineEnd l mot9 hv fx.2.1) (List.mem_append_right _ mM) mot9.2.1 rfl ⟨Nat.le_of_ble_eq_true rfl, Nat.le_of_ble_eq_true rfl⟩ ⟨by show k + 1 + 0 ≤ 601024; omega, by show n + 6 + 0 ≤ 7293034; omega⟩ (Nat.le_of_ble_eq_true rfl) (fun _ _ _ h => h.elim) (fun v9 L2 F2 hp => ?_)
  obtain ⟨rfl, fr, hM⟩ := hp
  obtain ⟨rfl, h, z2, mo2⟩ := (hM.resolve_right (fun w => w.1 x1)).2
  have e2 : ∀ b, b ∈ LX → F2 b = F9 b := fun b hb => fr b (hd9 b hb).1 (hd9 b hb).2.1 (hd9 b hb).2.2.1 (hd9 b hb).2.2.2.1
  have dg2 := dg.rem fx.2.1 (dr.mv x3 (fun b hb => (e2 b hb).trans (e1 b hb))) (fun z hz => dTo_hi hv (by decide) x1 hz) z2
  have ho2 : F2 o = eL 1 u := (fr o oM oA oQ oC).trans ((fM o oin).trans hu)
  exact zq_icmp_eq hZ (tgt := 2079) dL_law_548 rfl (by omega) (fun _ => cont _ _ F2 _ _ _ _ (by show k + 1 + 0 ≤ k + 1; omega) (by show n + 6 + 0 ≤ n + 6; omega) ⟨_, _, _, _, _, _, _, _, _, _, u, dg2, mo2, ho2⟩) (fun hne => absurd rfl hne)
set_option maxRecDepth 100000 in
set_option maxHeartbeats 4000000 in
theorem lc_9 (l : Launch) (hfl : l.flags = flags0) {ZZ : ZT} {tbl : List ExceptionTableEntry} {nm ds : String} {Φ : State → Prop} {post : Option Value → List Nat → (Nat → PE) → Prop} {xp : String → List Nat → (Nat → PE) → Prop} (hZ : ZZ = Zq Φ tbl l ⟨"DragonRingLaw", nm, ds⟩ cL_law 9 (some .boolean) room_1 [] post xp) (hΦ : ∀ s, Φ s → va_Nc xS xA s) {b Ls : Nat} {sx : Int → Int} (hsx : ∀ s, Φ s → va_X b Ls (fun j => iI (sx (j : Int))) s s.heap ∧ b < s.heap.size) (hok : ∀ j, -2147483648 ≤ sx j ∧ sx j ≤ 2147483647) {LX : List Nat} {F : Nat → PE} {K : Nat → Nat} {m a q c o : Nat} {i : Int} {k n : Nat} {s5 s6 s7 s8 : Option Value} (hL : LSx LX m a q c o) (hI : LI LX F K m a q c o) (hi : 0 ≤ i ∧ i + 2 < Ls ∧ Ls ≤ 1536) (hk : k + 1 ≤ 601024 ∧ n + 6 ≤ 7293034)
    (cont : ∀ (k2 n2 : Nat) (F2 : Nat → PE) (t5 t6 t7 t8 : Option Value), k2 ≤ k + 1 → n2 ≤ n + 6 → LI LX F2 K m a q c o → ZZ k2 n2 2079 [some (.ref b), some (.ref (K 0)), some (.ref m), some (.ref o), some (.int (iI i)), t5, t6, t7, t8] [] (LX ++ [m, a, q, c, o]) F2) :
    ZZ k n 553 [some (.ref b), some (.ref (K 0)), some (.ref m), some (.ref o), some (.int (iI i)), s5, s6, s7, s8] [] (LX ++ [m, a, q, c, o]) F := by
  obtain ⟨g, kd, sv, kp, nn, bf, th, pt, tm, sg, u, dgt, mot, hu⟩ := hI
  have fx := dr.fx dgt
  have rg := fx.1.1
  obtain ⟨hd9, oM, oA, oQ, oC⟩ := hL
  have hv := (dr.fx (dg.pre dgt)).1
  have y1 := hok (i + 1)
  have y2 := hok (i + 2)
  have oin : o ∈ [m, a, q, c, o] := by simp
  have hd5 : ∀ b, b ∈ LX → b ≠ o := fun b hb => (hd9 b hb).2.2.2.2
  have mM : m ∈ [m, a, q, c, o] := by simp
  have aM : a ∈ [m, a, q, c, o] := by simp
  have qM : q ∈ [m, a, q, c, o] := by simp
  have cM : c ∈ [m, a, q, c, o] := by simp
  refine zq_aload_n1 hZ dL_law_553 ?_
  refine zq_aload_n0 hZ dL_law_554 ?_
  refine zq_iload4 hZ dL_law_555 ?_
  refine zq_iconst hZ dL_law_557 ?_
  refine zq_iadd hZ dL_law_558 ?_
  refine zq_sld hZ hsx rfl dL_law_559 (by omega) ?_
  refine zq_aload_n3 hZ dL_law_560 ?_
  refine zq_cSh hZ hΦ (As := [_, _, _]) rfl dL_law_561 ml_L_149 wy_L_goLines (m_L_goLines l (M := [m, a, q, c, o]) hfl (dgt) oin hd5 hu y1) ⟨Nat.le_of_ble_eq_true rfl, Nat.le_of_ble_eq_true rfl⟩ ⟨by show k + 1 ≤ 601024; omega, by show n + 6 ≤ 7293034; omega⟩ (Nat.le_of_ble_eq_true rfl) (fun v9 L9 F9 hp => ?_)
  obtain ⟨rfl, fM, u1, hu1, hX⟩ := hp
  obtain ⟨kk, rfl, hY⟩ : ∃ kk, v9 = some (.int (iI kk)) ∧ ((kk = 0 ∧ (-50 ≤ (sx (i + 1)) ∧ (sx (i + 1)) ≤ 50 ∧ (sx (i + 1)) ≠ 0) ∧ glA g (sx (i + 1)) ≠ -1 ∧ u1 0 = glA g (sx (i + 1)) ∧ dr LX F9 K (vGo (glA g (sx (i + 1))) g) 0 (hN sv) (hS sv (sH g) g) kp (sQ g) nn bf) ∨ (kk = 1 ∧ ¬ (-50 ≤ (sx (i + 1)) ∧ (sx (i + 1)) ≤ 50 ∧ (sx (i + 1)) ≠ 0) ∧ dr LX F9 K g kd sv (sH g) kp (sQ g) nn bf) ∨ (kk = 2 ∧ (-50 ≤ (sx (i + 1)) ∧ (sx (i + 1)) ≤ 50 ∧ (sx (i + 1)) ≠ 0) ∧ ¬ glA g (sx (i + 1)) ≠ -1 ∧ dr LX F9 K g kd sv (sH g) kp (sQ g) nn bf)) := by
    rcases hX with ⟨x1, x2, x3, x4, x5⟩ | ⟨x1, x2, x3⟩ | ⟨x1, x2, x3, x4⟩
    · exact ⟨0, x3, Or.inl ⟨rfl, x1, x2, x4, x5⟩⟩
    · exact ⟨1, x2, Or.inr (Or.inl ⟨rfl, x1, x3⟩)⟩
    · exact ⟨2, x3, Or.inr (Or.inr ⟨rfl, x1, x2, x4⟩)⟩
  have mot9 := mo.mv (F1 := F9) mot (fM m mM (Ne.symm oM)) (fM a aM (Ne.symm oA)) (fM q qM (Ne.symm oQ)) (fM c cM (Ne.symm oC))
  refine zq_istore5 hZ dL_law_564 (by decide) rfl ?_
  refine zq_aload_n2 hZ dL_law_566 ?_
  refine zq_aload_n0 hZ dL_law_567 ?_
  refine zq_iload4 hZ dL_law_568 ?_
  refine zq_iconst hZ dL_law_570 ?_
  refine zq_iadd hZ dL_law_571 ?_
  refine zq_sld hZ hsx rfl dL_law_572 (by omega) ?_
  refine zq_cV hZ (As := [_]) rfl dL_law_573 ml_L_151 wy_X8_goLines (m_X8_goLines l mot9 fx.1 fx.2.1 y1) (List.mem_append_right _ mM) mot9.2.1 rfl ⟨Nat.le_of_ble_eq_true rfl, Nat.le_of_ble_eq_true rfl⟩ ⟨by show k + 1 + 0 ≤ 601024; omega, by show n + 6 + 0 ≤ 7293034; omega⟩ (Nat.le_of_ble_eq_true rfl) (fun _ _ _ h => h.elim) (fun v9 L2 F2 hp => ?_)
  obtain ⟨rfl, fr, hM⟩ := hp
  obtain ⟨bv, rfl, hN9⟩ : ∃ bv, v9 = some (.int (iI bv)) ∧ (((-50 ≤ (sx (i + 1)) ∧ (sx (i + 1)) ≤ 50 ∧ (sx (i + 1)) ≠ 0) ∧ glA g (sx (i + 1)) ≠ -1 ∧ bv = glA g (sx (i + 1)) ∧ ∃ h, svP 0 sv g h ∧ mo (LX ++ [m, a, q, c, o]) F2 m a q c (vGo (glA g (sx (i + 1))) h) (hN sv) 0 0 nn pt tm sg kp bf) ∨ (¬ (-50 ≤ (sx (i + 1)) ∧ (sx (i + 1)) ≤ 50 ∧ (sx (i + 1)) ≠ 0) ∧ bv = 0 ∧ mo (LX ++ [m, a, q, c, o]) F2 m a q c g sv 1 kd nn pt tm sg kp bf) ∨ ((-50 ≤ (sx (i + 1)) ∧ (sx (i + 1)) ≤ 50 ∧ (sx (i + 1)) ≠ 0) ∧ ¬ glA g (sx (i + 1)) ≠ -1 ∧ bv = 0 ∧ mo (LX ++ [m, a, q, c, o]) F2 m a q c g sv 2 kd nn pt tm sg kp bf)) := by
    rcases hM with ⟨x1, x2, x3, x4⟩ | ⟨x1, x2, x3⟩ | ⟨x1, x2, x3, x4⟩
    · exact ⟨_, x3, Or.inl ⟨x1, x2, rfl, x4⟩⟩
    · exact ⟨0, x2, Or.inr (Or.inl ⟨x1, rfl, x3⟩)⟩
    · exact ⟨0, x3, Or.inr (Or.inr ⟨x1, x2, rfl, x4⟩)⟩
  have fin : ∃ g2 kd2 sv2 kp2 n2 bf2 pt2 tm2 sg2, dg LX F2 K g2 kd2 sv2 kp2 n2 bf2 ∧ mo (LX ++ [m, a, q, c, o]) F2 m a q c g2 sv2 kk kd2 n2 pt2 tm2 sg2 kp2 bf2 ∧ (kk = 0 → u1 0 = bv) ∧ (0 ≤ kk ∧ kk ≤ 2) ∧ (-2147483648 ≤ bv ∧ bv ≤ 2147483647) := by
    have e2 : ∀ b, b ∈ LX → F2 b = F9 b := fun b hb => fr b (hd9 b hb).1 (hd9 b hb).2.1 (hd9 b hb).2.2.1 (hd9 b hb).2.2.2.1
    rcases hY with ⟨rfl, x1, x2, x3, x4⟩ | ⟨rfl, x1, x3⟩ | ⟨rfl, x1, x2, x3⟩
    · rcases hN9 with ⟨z1, z2, rfl, h, z3, z4⟩ | ⟨z1, rfl, z3⟩ | ⟨z1, z2, rfl, z3⟩
      · have ha : ag g h := fun w w0 w1 => (z3.1 w w0 w1).symm
        exact ⟨_, _, _, _, _, _, _, _, _, dg.sav fx.2.1 (dr.mv x4 e2) z3 (fun z hz => hi_go hz) (ag_go ha), z4, fun _ => x3, by omega, by have := glA_rg (z := (sx (i + 1))) fx.1; omega⟩
      · exact absurd x1 z1
      · exact absurd x2 z2
    · rcases hN9 with ⟨z1, z2, rfl, h, z3, z4⟩ | ⟨z1, rfl, z3⟩ | ⟨z1, z2, rfl, z3⟩
      · exact absurd z1 x1
      · exact ⟨_, _, _, _, _, _, _, _, _, dr.mv x3 e2, z3, fun w => absurd w (by decide), by omega, by omega⟩
      · exact absurd z1 x1
    · rcases hN9 with ⟨z1, z2, rfl, h, z3, z4⟩ | ⟨z1, rfl, z3⟩ | ⟨z1, z2, rfl, z3⟩
      · exact absurd z2 x2
      · exact absurd x1 z1
      · exact ⟨_, _, _, _, _, _, _, _, _, dr.mv x3 e2, z3, fun w => absurd w (by decide), by omega, by omega⟩
  obtain ⟨g2, kd2, sv2, kp2, n2, bf2, pt2, tm2, sg2, dg2, mo2, hval, hkk, hbv⟩ := fin
  have ho2 : F2 o = eL 1 u1 := (fr o oM oA oQ oC).trans hu1
  have fins : LI LX F2 K m a q c o := ⟨g2, kd2, sv2, kp2, n2, bf2, kk, pt2, tm2, sg2, u1, dg2, mo2, ho2⟩
  refine zq_istore6 hZ dL_law_576 (by decide) rfl ?_
  refine zq_aload_n2 hZ dL_law_578 ?_
  refine zq_cV hZ (As := []) rfl dL_law_579 ml_L_116 wy_X8_thrown (m_X8_thrown l mo2) (List.mem_append_right _ mM) mo2.2.1 rfl ⟨Nat.le_of_ble_eq_true rfl, Nat.le_of_ble_eq_true rfl⟩ ⟨by show k + 1 + 0 + 0 ≤ 601024; omega, by show n + 6 + 0 + 0 ≤ 7293034; omega⟩ (Nat.le_of_ble_eq_true rfl) (fun _ _ _ h => h.elim) (fun v9 L3 F3 hp => ?_)
  obtain ⟨rfl, rfl, rfl⟩ := hp
  refine zq_iload5 hZ dL_law_582 ?_
  refine zq_icmp_eq hZ (tgt := 589) dL_law_584 rfl (by omega) (fun _ => ?_) (fun hne => absurd rfl hne)
  refine zq_iload5 hZ dL_law_589 ?_
  have done : ∀ t5 t6 t7 t8, ZZ _ _ 606 [some (.ref b), some (.ref (K 0)), some (.ref m), some (.ref o), some (.int (iI i)), t5, t6, t7, t8] [] (LX ++ [m, a, q, c, o]) F2 := fun t5 t6 t7 t8 => zq_goto hZ (tgt := 2079) dL_law_606 rfl (cont (k + 1 + 0 + 0) (n + 6 + 0 + 0) F2 t5 t6 t7 t8 (by omega) (by omega) fins)
  refine zq_if_ne hZ (tgt := 606) dL_law_591 rfl (by omega) (fun _ => done _ _ _ _) (fun hk0 => ?_)
  refine zq_aload_n3 hZ dL_law_594 ?_
  refine zq_iconst hZ dL_law_595 ?_
  refine zq_laload hZ dL_law_596 (List.mem_append_right _ oin) ho2 ⟨by omega, by omega, by omega⟩ ?_
  refine zq_iload6 hZ dL_law_597 ?_
  refine zq_i2l hZ dL_law_599 hbv ?_
  rw [hval hk0]
  refine zq_lcmp hZ dL_law_600 ?_
  exact zq_if_eq_raw hZ (tgt := 606) dL_law_601 rfl (fun _ => done _ _ _ _) (fun hne => absurd ((lg_cmp_eq _ _).mpr rfl) hne)
set_option maxRecDepth 100000 in
set_option maxHeartbeats 4000000 in
theorem lc_10 (l : Launch) (hfl : l.flags = flags0) {ZZ : ZT} {tbl : List ExceptionTableEntry} {nm ds : String} {Φ : State → Prop} {post : Option Value → List Nat → (Nat → PE) → Prop} {xp : String → List Nat → (Nat → PE) → Prop} (hZ : ZZ = Zq Φ tbl l ⟨"DragonRingLaw", nm, ds⟩ cL_law 9 (some .boolean) room_1 [] post xp) (hΦ : ∀ s, Φ s → va_Nc xS xA s) {b Ls : Nat} {sx : Int → Int} (hsx : ∀ s, Φ s → va_X b Ls (fun j => iI (sx (j : Int))) s s.heap ∧ b < s.heap.size) (hok : ∀ j, -2147483648 ≤ sx j ∧ sx j ≤ 2147483647) {LX : List Nat} {F : Nat → PE} {K : Nat → Nat} {m a q c o : Nat} {i : Int} {k n : Nat} {s5 s6 s7 s8 : Option Value} (hL : LSx LX m a q c o) (hI : LI LX F K m a q c o) (hi : 0 ≤ i ∧ i + 2 < Ls ∧ Ls ≤ 1536) (hk : k + 1 ≤ 601024 ∧ n + 6 ≤ 7293034)
    (cont : ∀ (k2 n2 : Nat) (F2 : Nat → PE) (t5 t6 t7 t8 : Option Value), k2 ≤ k + 1 → n2 ≤ n + 6 → LI LX F2 K m a q c o → ZZ k2 n2 2079 [some (.ref b), some (.ref (K 0)), some (.ref m), some (.ref o), some (.int (iI i)), t5, t6, t7, t8] [] (LX ++ [m, a, q, c, o]) F2) :
    ZZ k n 609 [some (.ref b), some (.ref (K 0)), some (.ref m), some (.ref o), some (.int (iI i)), s5, s6, s7, s8] [] (LX ++ [m, a, q, c, o]) F := by
  obtain ⟨g, kd, sv, kp, nn, bf, th, pt, tm, sg, u, dgt, mot, hu⟩ := hI
  have fx := dr.fx dgt
  have rg := fx.1.1
  obtain ⟨hd9, oM, oA, oQ, oC⟩ := hL
  have hv := (dr.fx (dg.pre dgt)).1
  have y1 := hok (i + 1)
  have y2 := hok (i + 2)
  have oin : o ∈ [m, a, q, c, o] := by simp
  have hd5 : ∀ b, b ∈ LX → b ≠ o := fun b hb => (hd9 b hb).2.2.2.2
  have mM : m ∈ [m, a, q, c, o] := by simp
  have aM : a ∈ [m, a, q, c, o] := by simp
  have qM : q ∈ [m, a, q, c, o] := by simp
  have cM : c ∈ [m, a, q, c, o] := by simp
  refine zq_aload_n1 hZ dL_law_609 ?_
  refine zq_cV hZ (As := []) rfl dL_law_610 ml_L_152 wy_X7_mark (pm_fr [m, a, q, c, o] (m_X7_mark l hfl (dg.pre dgt))) (List.mem_append_left _ (dr.L dgt 0 (by omega))) (dr.S dgt).2.1 rfl ⟨Nat.le_of_ble_eq_true rfl, Nat.le_of_ble_eq_true rfl⟩ ⟨by show k + 1 ≤ 601024; omega, by show n + 6 ≤ 7293034; omega⟩ (Nat.le_of_ble_eq_true rfl) (fun _ _ _ h => by obtain ⟨_, _, h, _⟩ := h; exact absurd True.intro h.2.1) (fun v9 L9 F9 hp => ?_)
  obtain ⟨L8, F8, hp, rfl, e1, fM⟩ := hp
  obtain ⟨x1, rfl, rfl, x3⟩ := hp
  have rr := dAn_rg (d := 6) hv (by decide) x1
  have mot9 := mo.mv (F1 := F9) mot (fM m mM) (fM a aM) (fM q qM) (fM c cM)
  refine zq_aload_n2 hZ dL_law_613 ?_
  refine zq_cV hZ (As := []) rfl dL_law_614 ml_L_155 wy_X8_mark (m_X8_mark l mot9 hv fx.2.1) (List.mem_append_right _ mM) mot9.2.1 rfl ⟨Nat.le_of_ble_eq_true rfl, Nat.le_of_ble_eq_true rfl⟩ ⟨by show k + 1 + 0 ≤ 601024; omega, by show n + 6 + 0 ≤ 7293034; omega⟩ (Nat.le_of_ble_eq_true rfl) (fun _ _ _ h => h.elim) (fun v9 L2 F2 hp => ?_)
  obtain ⟨rfl, fr, hM⟩ := hp
  obtain ⟨rfl, h, z2, mo2⟩ := (hM.resolve_right (fun w => w.1 x1)).2
  have e2 : ∀ b, b ∈ LX → F2 b = F9 b := fun b hb => fr b (hd9 b hb).1 (hd9 b hb).2.1 (hd9 b hb).2.2.1 (hd9 b hb).2.2.2.1
  have dg2 := dg.rem fx.2.1 (dr.mv x3 (fun b hb => (e2 b hb).trans (e1 b hb))) (fun z hz => dTo_hi hv (by decide) x1 hz) z2
  have ho2 : F2 o = eL 1 u := (fr o oM oA oQ oC).trans ((fM o oin).trans hu)
  exact zq_icmp_eq hZ (tgt := 2079) dL_law_617 rfl (by omega) (fun _ => cont _ _ F2 _ _ _ _ (by show k + 1 + 0 ≤ k + 1; omega) (by show n + 6 + 0 ≤ n + 6; omega) ⟨_, _, _, _, _, _, _, _, _, _, u, dg2, mo2, ho2⟩) (fun hne => absurd rfl hne)
set_option maxRecDepth 100000 in
set_option maxHeartbeats 4000000 in
theorem lc_11 (l : Launch) (hfl : l.flags = flags0) {ZZ : ZT} {tbl : List ExceptionTableEntry} {nm ds : String} {Φ : State → Prop} {post : Option Value → List Nat → (Nat → PE) → Prop} {xp : String → List Nat → (Nat → PE) → Prop} (hZ : ZZ = Zq Φ tbl l ⟨"DragonRingLaw", nm, ds⟩ cL_law 9 (some .boolean) room_1 [] post xp) (hΦ : ∀ s, Φ s → va_Nc xS xA s) {b Ls : Nat} {sx : Int → Int} (hsx : ∀ s, Φ s → va_X b Ls (fun j => iI (sx (j : Int))) s s.heap ∧ b < s.heap.size) (hok : ∀ j, -2147483648 ≤ sx j ∧ sx j ≤ 2147483647) {LX : List Nat} {F : Nat → PE} {K : Nat → Nat} {m a q c o : Nat} {i : Int} {k n : Nat} {s5 s6 s7 s8 : Option Value} (hL : LSx LX m a q c o) (hI : LI LX F K m a q c o) (hi : 0 ≤ i ∧ i + 2 < Ls ∧ Ls ≤ 1536) (hk : k + 1 ≤ 601024 ∧ n + 6 ≤ 7293034)
    (cont : ∀ (k2 n2 : Nat) (F2 : Nat → PE) (t5 t6 t7 t8 : Option Value), k2 ≤ k + 1 → n2 ≤ n + 6 → LI LX F2 K m a q c o → ZZ k2 n2 2079 [some (.ref b), some (.ref (K 0)), some (.ref m), some (.ref o), some (.int (iI i)), t5, t6, t7, t8] [] (LX ++ [m, a, q, c, o]) F2) :
    ZZ k n 622 [some (.ref b), some (.ref (K 0)), some (.ref m), some (.ref o), some (.int (iI i)), s5, s6, s7, s8] [] (LX ++ [m, a, q, c, o]) F := by
  obtain ⟨g, kd, sv, kp, nn, bf, th, pt, tm, sg, u, dgt, mot, hu⟩ := hI
  have fx := dr.fx dgt
  have rg := fx.1.1
  obtain ⟨hd9, oM, oA, oQ, oC⟩ := hL
  have hv := (dr.fx (dg.pre dgt)).1
  have y1 := hok (i + 1)
  have y2 := hok (i + 2)
  have oin : o ∈ [m, a, q, c, o] := by simp
  have hd5 : ∀ b, b ∈ LX → b ≠ o := fun b hb => (hd9 b hb).2.2.2.2
  have mM : m ∈ [m, a, q, c, o] := by simp
  have aM : a ∈ [m, a, q, c, o] := by simp
  have qM : q ∈ [m, a, q, c, o] := by simp
  have cM : c ∈ [m, a, q, c, o] := by simp
  refine zq_aload_n1 hZ dL_law_622 ?_
  refine zq_aload_n3 hZ dL_law_623 ?_
  refine zq_cSh hZ hΦ (As := [_, _]) rfl dL_law_624 ml_L_156 wy_L_exchange (m_L_exchange l (M := [m, a, q, c, o]) hfl (dg.pre dgt) oin hd5 hu) ⟨Nat.le_of_ble_eq_true rfl, Nat.le_of_ble_eq_true rfl⟩ ⟨by show k + 1 ≤ 601024; omega, by show n + 6 ≤ 7293034; omega⟩ (Nat.le_of_ble_eq_true rfl) (fun v9 L9 F9 hp => ?_)
  obtain ⟨rfl, fM, u1, hu1, hX⟩ := hp
  obtain ⟨kk, rfl, hY⟩ : ∃ kk, v9 = some (.int (iI kk)) ∧ ((kk = 0 ∧ dOk 7 kd (cpy g 0 9) ∧ u1 0 = dAn 7 (cpy g 0 9) ∧ dr LX F9 K (dTo 7 0 kd (cpy g 0 9)) (dKn 7) (hN sv) (hS sv (sH g) (cpy g 0 9)) kp (sQ g) nn bf) ∨ (kk = 1 ∧ ¬ dOk 7 kd (cpy g 0 9) ∧ dr LX F9 K (cpy g 0 9) kd sv (sH g) kp (sQ g) nn bf)) := by
    rcases hX with ⟨x1, x2, x3, x4⟩ | ⟨x1, x2, x4⟩
    · exact ⟨0, x2, Or.inl ⟨rfl, x1, x3, x4⟩⟩
    · exact ⟨1, x2, Or.inr ⟨rfl, x1, x4⟩⟩
  have mot9 := mo.mv (F1 := F9) mot (fM m mM (Ne.symm oM)) (fM a aM (Ne.symm oA)) (fM q qM (Ne.symm oQ)) (fM c cM (Ne.symm oC))
  refine zq_istore5 hZ dL_law_627 (by decide) rfl ?_
  refine zq_aload_n2 hZ dL_law_629 ?_
  refine zq_cV hZ (As := []) rfl dL_law_630 ml_L_158 wy_X8_exchange (m_X8_exchange l mot9 hv fx.2.1) (List.mem_append_right _ mM) mot9.2.1 rfl ⟨Nat.le_of_ble_eq_true rfl, Nat.le_of_ble_eq_true rfl⟩ ⟨by show k + 1 + 0 ≤ 601024; omega, by show n + 6 + 0 ≤ 7293034; omega⟩ (Nat.le_of_ble_eq_true rfl) (fun _ _ _ h => h.elim) (fun v9 L2 F2 hp => ?_)
  obtain ⟨rfl, fr, hM⟩ := hp
  obtain ⟨bv, rfl, hN9⟩ : ∃ bv, v9 = some (.int (iI bv)) ∧ ((dOk 7 kd (cpy g 0 9) ∧ bv = dAn 7 (cpy g 0 9) ∧ ∃ h, svP 9 sv (dTo 7 0 kd (cpy g 0 9)) h ∧ mo (LX ++ [m, a, q, c, o]) F2 m a q c h (hN sv) 0 (dKn 7) nn pt tm sg kp bf) ∨ (¬ dOk 7 kd (cpy g 0 9) ∧ bv = 0 ∧ mo (LX ++ [m, a, q, c, o]) F2 m a q c (cpy (cpy g 0 9) 9 0) sv 1 kd nn pt tm sg kp bf)) := by
    rcases hM with ⟨x1, x2, x3⟩ | ⟨x1, x2, x3⟩
    · exact ⟨_, x2, Or.inl ⟨x1, rfl, x3⟩⟩
    · exact ⟨0, x2, Or.inr ⟨x1, rfl, x3⟩⟩
  have fin : ∃ g2 kd2 sv2 kp2 n2 bf2 pt2 tm2 sg2, dg LX F2 K g2 kd2 sv2 kp2 n2 bf2 ∧ mo (LX ++ [m, a, q, c, o]) F2 m a q c g2 sv2 kk kd2 n2 pt2 tm2 sg2 kp2 bf2 ∧ (kk = 0 → u1 0 = bv) ∧ (0 ≤ kk ∧ kk ≤ 2) ∧ (-2147483648 ≤ bv ∧ bv ≤ 2147483647) := by
    have e2 : ∀ b, b ∈ LX → F2 b = F9 b := fun b hb => fr b (hd9 b hb).1 (hd9 b hb).2.1 (hd9 b hb).2.2.1 (hd9 b hb).2.2.2.1
    rcases hY with ⟨rfl, x1, x2, x3⟩ | ⟨rfl, x1, x3⟩
    · rcases hN9 with ⟨z1, rfl, h, z2, z3⟩ | ⟨z1, rfl, z3⟩
      · have rr := dAn_rg (d := 7) hv (by decide) x1
        exact ⟨_, _, _, _, _, _, _, _, _, dg.rem fx.2.1 (dr.mv x3 e2) (fun z hz => dTo_hi hv (by decide) x1 hz) z2, z3, fun _ => x2, by omega, by omega⟩
      · exact absurd x1 z1
    · rcases hN9 with ⟨z1, rfl, h, z2, z3⟩ | ⟨z1, rfl, z3⟩
      · exact absurd z1 x1
      · exact ⟨_, _, _, _, _, _, _, _, _, dg.eq (dg.un (dr.mv x3 e2)) bk9, z3, fun w => absurd w (by decide), by omega, by omega⟩
  obtain ⟨g2, kd2, sv2, kp2, n2, bf2, pt2, tm2, sg2, dg2, mo2, hval, hkk, hbv⟩ := fin
  have ho2 : F2 o = eL 1 u1 := (fr o oM oA oQ oC).trans hu1
  have fins : LI LX F2 K m a q c o := ⟨g2, kd2, sv2, kp2, n2, bf2, kk, pt2, tm2, sg2, u1, dg2, mo2, ho2⟩
  refine zq_istore6 hZ dL_law_633 (by decide) rfl ?_
  refine zq_aload_n2 hZ dL_law_635 ?_
  refine zq_cV hZ (As := []) rfl dL_law_636 ml_L_116 wy_X8_thrown (m_X8_thrown l mo2) (List.mem_append_right _ mM) mo2.2.1 rfl ⟨Nat.le_of_ble_eq_true rfl, Nat.le_of_ble_eq_true rfl⟩ ⟨by show k + 1 + 0 + 0 ≤ 601024; omega, by show n + 6 + 0 + 0 ≤ 7293034; omega⟩ (Nat.le_of_ble_eq_true rfl) (fun _ _ _ h => h.elim) (fun v9 L3 F3 hp => ?_)
  obtain ⟨rfl, rfl, rfl⟩ := hp
  refine zq_iload5 hZ dL_law_639 ?_
  refine zq_icmp_eq hZ (tgt := 646) dL_law_641 rfl (by omega) (fun _ => ?_) (fun hne => absurd rfl hne)
  refine zq_iload5 hZ dL_law_646 ?_
  have done : ∀ t5 t6 t7 t8, ZZ _ _ 663 [some (.ref b), some (.ref (K 0)), some (.ref m), some (.ref o), some (.int (iI i)), t5, t6, t7, t8] [] (LX ++ [m, a, q, c, o]) F2 := fun t5 t6 t7 t8 => zq_goto hZ (tgt := 2079) dL_law_663 rfl (cont (k + 1 + 0 + 0) (n + 6 + 0 + 0) F2 t5 t6 t7 t8 (by omega) (by omega) fins)
  refine zq_if_ne hZ (tgt := 663) dL_law_648 rfl (by omega) (fun _ => done _ _ _ _) (fun hk0 => ?_)
  refine zq_aload_n3 hZ dL_law_651 ?_
  refine zq_iconst hZ dL_law_652 ?_
  refine zq_laload hZ dL_law_653 (List.mem_append_right _ oin) ho2 ⟨by omega, by omega, by omega⟩ ?_
  refine zq_iload6 hZ dL_law_654 ?_
  refine zq_i2l hZ dL_law_656 hbv ?_
  rw [hval hk0]
  refine zq_lcmp hZ dL_law_657 ?_
  exact zq_if_eq_raw hZ (tgt := 663) dL_law_658 rfl (fun _ => done _ _ _ _) (fun hne => absurd ((lg_cmp_eq _ _).mpr rfl) hne)
set_option maxRecDepth 100000 in
set_option maxHeartbeats 4000000 in
theorem lc_12 (l : Launch) (hfl : l.flags = flags0) {ZZ : ZT} {tbl : List ExceptionTableEntry} {nm ds : String} {Φ : State → Prop} {post : Option Value → List Nat → (Nat → PE) → Prop} {xp : String → List Nat → (Nat → PE) → Prop} (hZ : ZZ = Zq Φ tbl l ⟨"DragonRingLaw", nm, ds⟩ cL_law 9 (some .boolean) room_1 [] post xp) (hΦ : ∀ s, Φ s → va_Nc xS xA s) {b Ls : Nat} {sx : Int → Int} (hsx : ∀ s, Φ s → va_X b Ls (fun j => iI (sx (j : Int))) s s.heap ∧ b < s.heap.size) (hok : ∀ j, -2147483648 ≤ sx j ∧ sx j ≤ 2147483647) {LX : List Nat} {F : Nat → PE} {K : Nat → Nat} {m a q c o : Nat} {i : Int} {k n : Nat} {s5 s6 s7 s8 : Option Value} (hL : LSx LX m a q c o) (hI : LI LX F K m a q c o) (hi : 0 ≤ i ∧ i + 2 < Ls ∧ Ls ≤ 1536) (hk : k + 1 ≤ 601024 ∧ n + 6 ≤ 7293034)
    (cont : ∀ (k2 n2 : Nat) (F2 : Nat → PE) (t5 t6 t7 t8 : Option Value), k2 ≤ k + 1 → n2 ≤ n + 6 → LI LX F2 K m a q c o → ZZ k2 n2 2079 [some (.ref b), some (.ref (K 0)), some (.ref m), some (.ref o), some (.int (iI i)), t5, t6, t7, t8] [] (LX ++ [m, a, q, c, o]) F2) :
    ZZ k n 666 [some (.ref b), some (.ref (K 0)), some (.ref m), some (.ref o), some (.int (iI i)), s5, s6, s7, s8] [] (LX ++ [m, a, q, c, o]) F := by
  obtain ⟨g, kd, sv, kp, nn, bf, th, pt, tm, sg, u, dgt, mot, hu⟩ := hI
  have fx := dr.fx dgt
  have rg := fx.1.1
  obtain ⟨hd9, oM, oA, oQ, oC⟩ := hL
  have hv := (dr.fx (dg.pre dgt)).1
  have y1 := hok (i + 1)
  have y2 := hok (i + 2)
  have oin : o ∈ [m, a, q, c, o] := by simp
  have hd5 : ∀ b, b ∈ LX → b ≠ o := fun b hb => (hd9 b hb).2.2.2.2
  have mM : m ∈ [m, a, q, c, o] := by simp
  have aM : a ∈ [m, a, q, c, o] := by simp
  have qM : q ∈ [m, a, q, c, o] := by simp
  have cM : c ∈ [m, a, q, c, o] := by simp
  refine zq_aload_n1 hZ dL_law_666 ?_
  refine zq_aload_n3 hZ dL_law_667 ?_
  refine zq_cSh hZ hΦ (As := [_, _]) rfl dL_law_668 ml_L_159 wy_L_find (m_L_find l (M := [m, a, q, c, o]) hfl (dgt) oin hd5 hu) ⟨Nat.le_of_ble_eq_true rfl, Nat.le_of_ble_eq_true rfl⟩ ⟨by show k + 1 ≤ 601024; omega, by show n + 6 ≤ 7293034; omega⟩ (Nat.le_of_ble_eq_true rfl) (fun v9 L9 F9 hp => ?_)
  obtain ⟨rfl, fM, u1, hu1, hX⟩ := hp
  obtain ⟨kk, rfl, hY⟩ : ∃ kk, v9 = some (.int (iI kk)) ∧ ((kk = 0 ∧ 0 < nn ∧ fdA (g 0) (fT g) nn bf (g 1) ≠ -1 ∧ u1 0 = fdA (g 0) (fT g) nn bf (g 1) ∧ dr LX F9 K (vGo (fdA (g 0) (fT g) nn bf (g 1)) g) 0 (hN sv) (hS sv (sH g) g) kp (sQ g) nn bf) ∨ (kk = 1 ∧ ¬ 0 < nn ∧ dr LX F9 K g kd sv (sH g) kp (sQ g) nn bf) ∨ (kk = 2 ∧ 0 < nn ∧ ¬ fdA (g 0) (fT g) nn bf (g 1) ≠ -1 ∧ dr LX F9 K g kd sv (sH g) kp (sQ g) nn bf)) := by
    rcases hX with ⟨x1, x2, x3, x4, x5⟩ | ⟨x1, x2, x3⟩ | ⟨x1, x2, x3, x4⟩
    · exact ⟨0, x3, Or.inl ⟨rfl, x1, x2, x4, x5⟩⟩
    · exact ⟨1, x2, Or.inr (Or.inl ⟨rfl, x1, x3⟩)⟩
    · exact ⟨2, x3, Or.inr (Or.inr ⟨rfl, x1, x2, x4⟩)⟩
  have mot9 := mo.mv (F1 := F9) mot (fM m mM (Ne.symm oM)) (fM a aM (Ne.symm oA)) (fM q qM (Ne.symm oQ)) (fM c cM (Ne.symm oC))
  refine zq_istore5 hZ dL_law_671 (by decide) rfl ?_
  refine zq_aload_n2 hZ dL_law_673 ?_
  refine zq_cV hZ (As := []) rfl dL_law_674 ml_L_161 wy_X8_find (m_X8_find l mot9 fx.1 fx.2.1 fx.2.2.1 fx.2.2.2.1) (List.mem_append_right _ mM) mot9.2.1 rfl ⟨Nat.le_of_ble_eq_true rfl, Nat.le_of_ble_eq_true rfl⟩ ⟨by show k + 1 + 0 ≤ 601024; omega, by show n + 6 + 0 ≤ 7293034; omega⟩ (Nat.le_of_ble_eq_true rfl) (fun _ _ _ h => h.elim) (fun v9 L2 F2 hp => ?_)
  obtain ⟨rfl, fr, hM⟩ := hp
  obtain ⟨bv, rfl, hN9⟩ : ∃ bv, v9 = some (.int (iI bv)) ∧ ((0 < nn ∧ fdA (g 0) (fT g) nn bf (g 1) ≠ -1 ∧ bv = fdA (g 0) (fT g) nn bf (g 1) ∧ ∃ h, svP 0 sv g h ∧ mo (LX ++ [m, a, q, c, o]) F2 m a q c (vGo (fdA (g 0) (fT g) nn bf (g 1)) h) (hN sv) 0 0 nn pt tm sg kp bf) ∨ (¬ 0 < nn ∧ bv = 0 ∧ mo (LX ++ [m, a, q, c, o]) F2 m a q c g sv 1 kd nn pt tm sg kp bf) ∨ (0 < nn ∧ ¬ fdA (g 0) (fT g) nn bf (g 1) ≠ -1 ∧ bv = 0 ∧ mo (LX ++ [m, a, q, c, o]) F2 m a q c g sv 2 kd nn pt tm sg kp bf)) := by
    rcases hM with ⟨x1, x2, x3, x4⟩ | ⟨x1, x2, x3⟩ | ⟨x1, x2, x3, x4⟩
    · exact ⟨_, x3, Or.inl ⟨x1, x2, rfl, x4⟩⟩
    · exact ⟨0, x2, Or.inr (Or.inl ⟨x1, rfl, x3⟩)⟩
    · exact ⟨0, x3, Or.inr (Or.inr ⟨x1, x2, rfl, x4⟩)⟩
  have fin : ∃ g2 kd2 sv2 kp2 n2 bf2 pt2 tm2 sg2, dg LX F2 K g2 kd2 sv2 kp2 n2 bf2 ∧ mo (LX ++ [m, a, q, c, o]) F2 m a q c g2 sv2 kk kd2 n2 pt2 tm2 sg2 kp2 bf2 ∧ (kk = 0 → u1 0 = bv) ∧ (0 ≤ kk ∧ kk ≤ 2) ∧ (-2147483648 ≤ bv ∧ bv ≤ 2147483647) := by
    have e2 : ∀ b, b ∈ LX → F2 b = F9 b := fun b hb => fr b (hd9 b hb).1 (hd9 b hb).2.1 (hd9 b hb).2.2.1 (hd9 b hb).2.2.2.1
    rcases hY with ⟨rfl, x1, x2, x3, x4⟩ | ⟨rfl, x1, x3⟩ | ⟨rfl, x1, x2, x3⟩
    · rcases hN9 with ⟨z1, z2, rfl, h, z3, z4⟩ | ⟨z1, rfl, z3⟩ | ⟨z1, z2, rfl, z3⟩
      · have ha : ag g h := fun w w0 w1 => (z3.1 w w0 w1).symm
        exact ⟨_, _, _, _, _, _, _, _, _, dg.sav fx.2.1 (dr.mv x4 e2) z3 (fun z hz => hi_go hz) (ag_go ha), z4, fun _ => x3, by omega, by have := fdA_rg (n := g 0) (p := g 1) (n1 := nn) (f := fT g) (f1 := bf) (by omega); omega⟩
      · exact absurd x1 z1
      · exact absurd x2 z2
    · rcases hN9 with ⟨z1, z2, rfl, h, z3, z4⟩ | ⟨z1, rfl, z3⟩ | ⟨z1, z2, rfl, z3⟩
      · exact absurd z1 x1
      · exact ⟨_, _, _, _, _, _, _, _, _, dr.mv x3 e2, z3, fun w => absurd w (by decide), by omega, by omega⟩
      · exact absurd z1 x1
    · rcases hN9 with ⟨z1, z2, rfl, h, z3, z4⟩ | ⟨z1, rfl, z3⟩ | ⟨z1, z2, rfl, z3⟩
      · exact absurd z2 x2
      · exact absurd x1 z1
      · exact ⟨_, _, _, _, _, _, _, _, _, dr.mv x3 e2, z3, fun w => absurd w (by decide), by omega, by omega⟩
  obtain ⟨g2, kd2, sv2, kp2, n2, bf2, pt2, tm2, sg2, dg2, mo2, hval, hkk, hbv⟩ := fin
  have ho2 : F2 o = eL 1 u1 := (fr o oM oA oQ oC).trans hu1
  have fins : LI LX F2 K m a q c o := ⟨g2, kd2, sv2, kp2, n2, bf2, kk, pt2, tm2, sg2, u1, dg2, mo2, ho2⟩
  refine zq_istore6 hZ dL_law_677 (by decide) rfl ?_
  refine zq_aload_n2 hZ dL_law_679 ?_
  refine zq_cV hZ (As := []) rfl dL_law_680 ml_L_116 wy_X8_thrown (m_X8_thrown l mo2) (List.mem_append_right _ mM) mo2.2.1 rfl ⟨Nat.le_of_ble_eq_true rfl, Nat.le_of_ble_eq_true rfl⟩ ⟨by show k + 1 + 0 + 0 ≤ 601024; omega, by show n + 6 + 0 + 0 ≤ 7293034; omega⟩ (Nat.le_of_ble_eq_true rfl) (fun _ _ _ h => h.elim) (fun v9 L3 F3 hp => ?_)
  obtain ⟨rfl, rfl, rfl⟩ := hp
  refine zq_iload5 hZ dL_law_683 ?_
  refine zq_icmp_eq hZ (tgt := 690) dL_law_685 rfl (by omega) (fun _ => ?_) (fun hne => absurd rfl hne)
  refine zq_iload5 hZ dL_law_690 ?_
  have done : ∀ t5 t6 t7 t8, ZZ _ _ 707 [some (.ref b), some (.ref (K 0)), some (.ref m), some (.ref o), some (.int (iI i)), t5, t6, t7, t8] [] (LX ++ [m, a, q, c, o]) F2 := fun t5 t6 t7 t8 => zq_goto hZ (tgt := 2079) dL_law_707 rfl (cont (k + 1 + 0 + 0) (n + 6 + 0 + 0) F2 t5 t6 t7 t8 (by omega) (by omega) fins)
  refine zq_if_ne hZ (tgt := 707) dL_law_692 rfl (by omega) (fun _ => done _ _ _ _) (fun hk0 => ?_)
  refine zq_aload_n3 hZ dL_law_695 ?_
  refine zq_iconst hZ dL_law_696 ?_
  refine zq_laload hZ dL_law_697 (List.mem_append_right _ oin) ho2 ⟨by omega, by omega, by omega⟩ ?_
  refine zq_iload6 hZ dL_law_698 ?_
  refine zq_i2l hZ dL_law_700 hbv ?_
  rw [hval hk0]
  refine zq_lcmp hZ dL_law_701 ?_
  exact zq_if_eq_raw hZ (tgt := 707) dL_law_702 rfl (fun _ => done _ _ _ _) (fun hne => absurd ((lg_cmp_eq _ _).mpr rfl) hne)
set_option maxRecDepth 100000 in
set_option maxHeartbeats 4000000 in
theorem lc_13 (l : Launch) (hfl : l.flags = flags0) {ZZ : ZT} {tbl : List ExceptionTableEntry} {nm ds : String} {Φ : State → Prop} {post : Option Value → List Nat → (Nat → PE) → Prop} {xp : String → List Nat → (Nat → PE) → Prop} (hZ : ZZ = Zq Φ tbl l ⟨"DragonRingLaw", nm, ds⟩ cL_law 9 (some .boolean) room_1 [] post xp) (hΦ : ∀ s, Φ s → va_Nc xS xA s) {b Ls : Nat} {sx : Int → Int} (hsx : ∀ s, Φ s → va_X b Ls (fun j => iI (sx (j : Int))) s s.heap ∧ b < s.heap.size) (hok : ∀ j, -2147483648 ≤ sx j ∧ sx j ≤ 2147483647) {LX : List Nat} {F : Nat → PE} {K : Nat → Nat} {m a q c o : Nat} {i : Int} {k n : Nat} {s5 s6 s7 s8 : Option Value} (hL : LSx LX m a q c o) (hI : LI LX F K m a q c o) (hi : 0 ≤ i ∧ i + 2 < Ls ∧ Ls ≤ 1536) (hk : k + 1 ≤ 601024 ∧ n + 6 ≤ 7293034)
    (cont : ∀ (k2 n2 : Nat) (F2 : Nat → PE) (t5 t6 t7 t8 : Option Value), k2 ≤ k + 1 → n2 ≤ n + 6 → LI LX F2 K m a q c o → ZZ k2 n2 2079 [some (.ref b), some (.ref (K 0)), some (.ref m), some (.ref o), some (.int (iI i)), t5, t6, t7, t8] [] (LX ++ [m, a, q, c, o]) F2) :
    ZZ k n 710 [some (.ref b), some (.ref (K 0)), some (.ref m), some (.ref o), some (.int (iI i)), s5, s6, s7, s8] [] (LX ++ [m, a, q, c, o]) F := by
  obtain ⟨g, kd, sv, kp, nn, bf, th, pt, tm, sg, u, dgt, mot, hu⟩ := hI
  have fx := dr.fx dgt
  have rg := fx.1.1
  obtain ⟨hd9, oM, oA, oQ, oC⟩ := hL
  have hv := (dr.fx (dg.pre dgt)).1
  have y1 := hok (i + 1)
  have y2 := hok (i + 2)
  have oin : o ∈ [m, a, q, c, o] := by simp
  have hd5 : ∀ b, b ∈ LX → b ≠ o := fun b hb => (hd9 b hb).2.2.2.2
  have mM : m ∈ [m, a, q, c, o] := by simp
  have aM : a ∈ [m, a, q, c, o] := by simp
  have qM : q ∈ [m, a, q, c, o] := by simp
  have cM : c ∈ [m, a, q, c, o] := by simp
  refine zq_aload_n1 hZ dL_law_710 ?_
  refine zq_aload_n3 hZ dL_law_711 ?_
  refine zq_cSh hZ hΦ (As := [_, _]) rfl dL_law_712 ml_L_162 wy_L_killWord (m_L_killWord l (M := [m, a, q, c, o]) hfl (dg.pre dgt) oin hd5 hu) ⟨Nat.le_of_ble_eq_true rfl, Nat.le_of_ble_eq_true rfl⟩ ⟨by show k + 1 ≤ 601024; omega, by show n + 6 ≤ 7293034; omega⟩ (Nat.le_of_ble_eq_true rfl) (fun v9 L9 F9 hp => ?_)
  obtain ⟨rfl, fM, u1, hu1, hX⟩ := hp
  obtain ⟨kk, rfl, hY⟩ : ∃ kk, v9 = some (.int (iI kk)) ∧ ((kk = 0 ∧ dOk 8 kd (cpy g 0 9) ∧ u1 0 = dAn 8 (cpy g 0 9) ∧ dr LX F9 K (dTo 8 0 kd (cpy g 0 9)) (dKn 8) (hN sv) (hS sv (sH g) (cpy g 0 9)) kp (sQ g) nn bf) ∨ (kk = 1 ∧ ¬ dOk 8 kd (cpy g 0 9) ∧ dr LX F9 K (cpy g 0 9) kd sv (sH g) kp (sQ g) nn bf)) := by
    rcases hX with ⟨x1, x2, x3, x4⟩ | ⟨x1, x2, x4⟩
    · exact ⟨0, x2, Or.inl ⟨rfl, x1, x3, x4⟩⟩
    · exact ⟨1, x2, Or.inr ⟨rfl, x1, x4⟩⟩
  have mot9 := mo.mv (F1 := F9) mot (fM m mM (Ne.symm oM)) (fM a aM (Ne.symm oA)) (fM q qM (Ne.symm oQ)) (fM c cM (Ne.symm oC))
  refine zq_istore5 hZ dL_law_715 (by decide) rfl ?_
  refine zq_aload_n2 hZ dL_law_717 ?_
  refine zq_cV hZ (As := []) rfl dL_law_718 ml_L_164 wy_X8_killWord (m_X8_killWord l mot9 hv fx.2.1) (List.mem_append_right _ mM) mot9.2.1 rfl ⟨Nat.le_of_ble_eq_true rfl, Nat.le_of_ble_eq_true rfl⟩ ⟨by show k + 1 + 0 ≤ 601024; omega, by show n + 6 + 0 ≤ 7293034; omega⟩ (Nat.le_of_ble_eq_true rfl) (fun _ _ _ h => h.elim) (fun v9 L2 F2 hp => ?_)
  obtain ⟨rfl, fr, hM⟩ := hp
  obtain ⟨bv, rfl, hN9⟩ : ∃ bv, v9 = some (.int (iI bv)) ∧ ((dOk 8 kd (cpy g 0 9) ∧ bv = dAn 8 (cpy g 0 9) ∧ ∃ h, svP 9 sv (dTo 8 0 kd (cpy g 0 9)) h ∧ mo (LX ++ [m, a, q, c, o]) F2 m a q c h (hN sv) 0 (dKn 8) nn pt tm sg kp bf) ∨ (¬ dOk 8 kd (cpy g 0 9) ∧ bv = 0 ∧ mo (LX ++ [m, a, q, c, o]) F2 m a q c (cpy (cpy g 0 9) 9 0) sv 1 kd nn pt tm sg kp bf)) := by
    rcases hM with ⟨x1, x2, x3⟩ | ⟨x1, x2, x3⟩
    · exact ⟨_, x2, Or.inl ⟨x1, rfl, x3⟩⟩
    · exact ⟨0, x2, Or.inr ⟨x1, rfl, x3⟩⟩
  have fin : ∃ g2 kd2 sv2 kp2 n2 bf2 pt2 tm2 sg2, dg LX F2 K g2 kd2 sv2 kp2 n2 bf2 ∧ mo (LX ++ [m, a, q, c, o]) F2 m a q c g2 sv2 kk kd2 n2 pt2 tm2 sg2 kp2 bf2 ∧ (kk = 0 → u1 0 = bv) ∧ (0 ≤ kk ∧ kk ≤ 2) ∧ (-2147483648 ≤ bv ∧ bv ≤ 2147483647) := by
    have e2 : ∀ b, b ∈ LX → F2 b = F9 b := fun b hb => fr b (hd9 b hb).1 (hd9 b hb).2.1 (hd9 b hb).2.2.1 (hd9 b hb).2.2.2.1
    rcases hY with ⟨rfl, x1, x2, x3⟩ | ⟨rfl, x1, x3⟩
    · rcases hN9 with ⟨z1, rfl, h, z2, z3⟩ | ⟨z1, rfl, z3⟩
      · have rr := dAn_rg (d := 8) hv (by decide) x1
        exact ⟨_, _, _, _, _, _, _, _, _, dg.rem fx.2.1 (dr.mv x3 e2) (fun z hz => dTo_hi hv (by decide) x1 hz) z2, z3, fun _ => x2, by omega, by omega⟩
      · exact absurd x1 z1
    · rcases hN9 with ⟨z1, rfl, h, z2, z3⟩ | ⟨z1, rfl, z3⟩
      · exact absurd z1 x1
      · exact ⟨_, _, _, _, _, _, _, _, _, dg.eq (dg.un (dr.mv x3 e2)) bk9, z3, fun w => absurd w (by decide), by omega, by omega⟩
  obtain ⟨g2, kd2, sv2, kp2, n2, bf2, pt2, tm2, sg2, dg2, mo2, hval, hkk, hbv⟩ := fin
  have ho2 : F2 o = eL 1 u1 := (fr o oM oA oQ oC).trans hu1
  have fins : LI LX F2 K m a q c o := ⟨g2, kd2, sv2, kp2, n2, bf2, kk, pt2, tm2, sg2, u1, dg2, mo2, ho2⟩
  refine zq_istore6 hZ dL_law_721 (by decide) rfl ?_
  refine zq_aload_n2 hZ dL_law_723 ?_
  refine zq_cV hZ (As := []) rfl dL_law_724 ml_L_116 wy_X8_thrown (m_X8_thrown l mo2) (List.mem_append_right _ mM) mo2.2.1 rfl ⟨Nat.le_of_ble_eq_true rfl, Nat.le_of_ble_eq_true rfl⟩ ⟨by show k + 1 + 0 + 0 ≤ 601024; omega, by show n + 6 + 0 + 0 ≤ 7293034; omega⟩ (Nat.le_of_ble_eq_true rfl) (fun _ _ _ h => h.elim) (fun v9 L3 F3 hp => ?_)
  obtain ⟨rfl, rfl, rfl⟩ := hp
  refine zq_iload5 hZ dL_law_727 ?_
  refine zq_icmp_eq hZ (tgt := 734) dL_law_729 rfl (by omega) (fun _ => ?_) (fun hne => absurd rfl hne)
  refine zq_iload5 hZ dL_law_734 ?_
  have done : ∀ t5 t6 t7 t8, ZZ _ _ 751 [some (.ref b), some (.ref (K 0)), some (.ref m), some (.ref o), some (.int (iI i)), t5, t6, t7, t8] [] (LX ++ [m, a, q, c, o]) F2 := fun t5 t6 t7 t8 => zq_goto hZ (tgt := 2079) dL_law_751 rfl (cont (k + 1 + 0 + 0) (n + 6 + 0 + 0) F2 t5 t6 t7 t8 (by omega) (by omega) fins)
  refine zq_if_ne hZ (tgt := 751) dL_law_736 rfl (by omega) (fun _ => done _ _ _ _) (fun hk0 => ?_)
  refine zq_aload_n3 hZ dL_law_739 ?_
  refine zq_iconst hZ dL_law_740 ?_
  refine zq_laload hZ dL_law_741 (List.mem_append_right _ oin) ho2 ⟨by omega, by omega, by omega⟩ ?_
  refine zq_iload6 hZ dL_law_742 ?_
  refine zq_i2l hZ dL_law_744 hbv ?_
  rw [hval hk0]
  refine zq_lcmp hZ dL_law_745 ?_
  exact zq_if_eq_raw hZ (tgt := 751) dL_law_746 rfl (fun _ => done _ _ _ _) (fun hne => absurd ((lg_cmp_eq _ _).mpr rfl) hne)
set_option maxRecDepth 100000 in
set_option maxHeartbeats 4000000 in
theorem lc_14 (l : Launch) (hfl : l.flags = flags0) {ZZ : ZT} {tbl : List ExceptionTableEntry} {nm ds : String} {Φ : State → Prop} {post : Option Value → List Nat → (Nat → PE) → Prop} {xp : String → List Nat → (Nat → PE) → Prop} (hZ : ZZ = Zq Φ tbl l ⟨"DragonRingLaw", nm, ds⟩ cL_law 9 (some .boolean) room_1 [] post xp) (hΦ : ∀ s, Φ s → va_Nc xS xA s) {b Ls : Nat} {sx : Int → Int} (hsx : ∀ s, Φ s → va_X b Ls (fun j => iI (sx (j : Int))) s s.heap ∧ b < s.heap.size) (hok : ∀ j, -2147483648 ≤ sx j ∧ sx j ≤ 2147483647) {LX : List Nat} {F : Nat → PE} {K : Nat → Nat} {m a q c o : Nat} {i : Int} {k n : Nat} {s5 s6 s7 s8 : Option Value} (hL : LSx LX m a q c o) (hI : LI LX F K m a q c o) (hi : 0 ≤ i ∧ i + 2 < Ls ∧ Ls ≤ 1536) (hk : k + 1 ≤ 601024 ∧ n + 6 ≤ 7293034)
    (cont : ∀ (k2 n2 : Nat) (F2 : Nat → PE) (t5 t6 t7 t8 : Option Value), k2 ≤ k + 1 → n2 ≤ n + 6 → LI LX F2 K m a q c o → ZZ k2 n2 2079 [some (.ref b), some (.ref (K 0)), some (.ref m), some (.ref o), some (.int (iI i)), t5, t6, t7, t8] [] (LX ++ [m, a, q, c, o]) F2) :
    ZZ k n 754 [some (.ref b), some (.ref (K 0)), some (.ref m), some (.ref o), some (.int (iI i)), s5, s6, s7, s8] [] (LX ++ [m, a, q, c, o]) F := by
  obtain ⟨g, kd, sv, kp, nn, bf, th, pt, tm, sg, u, dgt, mot, hu⟩ := hI
  have fx := dr.fx dgt
  have rg := fx.1.1
  obtain ⟨hd9, oM, oA, oQ, oC⟩ := hL
  have hv := (dr.fx (dg.pre dgt)).1
  have y1 := hok (i + 1)
  have y2 := hok (i + 2)
  have oin : o ∈ [m, a, q, c, o] := by simp
  have hd5 : ∀ b, b ∈ LX → b ≠ o := fun b hb => (hd9 b hb).2.2.2.2
  have mM : m ∈ [m, a, q, c, o] := by simp
  have aM : a ∈ [m, a, q, c, o] := by simp
  have qM : q ∈ [m, a, q, c, o] := by simp
  have cM : c ∈ [m, a, q, c, o] := by simp
  refine zq_aload_n1 hZ dL_law_754 ?_
  refine zq_aload_n3 hZ dL_law_755 ?_
  refine zq_cSh hZ hΦ (As := [_, _]) rfl dL_law_756 ml_L_165 wy_L_killBack (m_L_killBack l (M := [m, a, q, c, o]) hfl (dg.pre dgt) oin hd5 hu) ⟨Nat.le_of_ble_eq_true rfl, Nat.le_of_ble_eq_true rfl⟩ ⟨by show k + 1 ≤ 601024; omega, by show n + 6 ≤ 7293034; omega⟩ (Nat.le_of_ble_eq_true rfl) (fun v9 L9 F9 hp => ?_)
  obtain ⟨rfl, fM, u1, hu1, hX⟩ := hp
  obtain ⟨kk, rfl, hY⟩ : ∃ kk, v9 = some (.int (iI kk)) ∧ ((kk = 0 ∧ dOk 9 kd (cpy g 0 9) ∧ u1 0 = dAn 9 (cpy g 0 9) ∧ dr LX F9 K (dTo 9 0 kd (cpy g 0 9)) (dKn 9) (hN sv) (hS sv (sH g) (cpy g 0 9)) kp (sQ g) nn bf) ∨ (kk = 1 ∧ ¬ dOk 9 kd (cpy g 0 9) ∧ dr LX F9 K (cpy g 0 9) kd sv (sH g) kp (sQ g) nn bf)) := by
    rcases hX with ⟨x1, x2, x3, x4⟩ | ⟨x1, x2, x4⟩
    · exact ⟨0, x2, Or.inl ⟨rfl, x1, x3, x4⟩⟩
    · exact ⟨1, x2, Or.inr ⟨rfl, x1, x4⟩⟩
  have mot9 := mo.mv (F1 := F9) mot (fM m mM (Ne.symm oM)) (fM a aM (Ne.symm oA)) (fM q qM (Ne.symm oQ)) (fM c cM (Ne.symm oC))
  refine zq_istore5 hZ dL_law_759 (by decide) rfl ?_
  refine zq_aload_n2 hZ dL_law_761 ?_
  refine zq_cV hZ (As := []) rfl dL_law_762 ml_L_167 wy_X8_killBack (m_X8_killBack l mot9 hv fx.2.1) (List.mem_append_right _ mM) mot9.2.1 rfl ⟨Nat.le_of_ble_eq_true rfl, Nat.le_of_ble_eq_true rfl⟩ ⟨by show k + 1 + 0 ≤ 601024; omega, by show n + 6 + 0 ≤ 7293034; omega⟩ (Nat.le_of_ble_eq_true rfl) (fun _ _ _ h => h.elim) (fun v9 L2 F2 hp => ?_)
  obtain ⟨rfl, fr, hM⟩ := hp
  obtain ⟨bv, rfl, hN9⟩ : ∃ bv, v9 = some (.int (iI bv)) ∧ ((dOk 9 kd (cpy g 0 9) ∧ bv = dAn 9 (cpy g 0 9) ∧ ∃ h, svP 9 sv (dTo 9 0 kd (cpy g 0 9)) h ∧ mo (LX ++ [m, a, q, c, o]) F2 m a q c h (hN sv) 0 (dKn 9) nn pt tm sg kp bf) ∨ (¬ dOk 9 kd (cpy g 0 9) ∧ bv = 0 ∧ mo (LX ++ [m, a, q, c, o]) F2 m a q c (cpy (cpy g 0 9) 9 0) sv 1 kd nn pt tm sg kp bf)) := by
    rcases hM with ⟨x1, x2, x3⟩ | ⟨x1, x2, x3⟩
    · exact ⟨_, x2, Or.inl ⟨x1, rfl, x3⟩⟩
    · exact ⟨0, x2, Or.inr ⟨x1, rfl, x3⟩⟩
  have fin : ∃ g2 kd2 sv2 kp2 n2 bf2 pt2 tm2 sg2, dg LX F2 K g2 kd2 sv2 kp2 n2 bf2 ∧ mo (LX ++ [m, a, q, c, o]) F2 m a q c g2 sv2 kk kd2 n2 pt2 tm2 sg2 kp2 bf2 ∧ (kk = 0 → u1 0 = bv) ∧ (0 ≤ kk ∧ kk ≤ 2) ∧ (-2147483648 ≤ bv ∧ bv ≤ 2147483647) := by
    have e2 : ∀ b, b ∈ LX → F2 b = F9 b := fun b hb => fr b (hd9 b hb).1 (hd9 b hb).2.1 (hd9 b hb).2.2.1 (hd9 b hb).2.2.2.1
    rcases hY with ⟨rfl, x1, x2, x3⟩ | ⟨rfl, x1, x3⟩
    · rcases hN9 with ⟨z1, rfl, h, z2, z3⟩ | ⟨z1, rfl, z3⟩
      · have rr := dAn_rg (d := 9) hv (by decide) x1
        exact ⟨_, _, _, _, _, _, _, _, _, dg.rem fx.2.1 (dr.mv x3 e2) (fun z hz => dTo_hi hv (by decide) x1 hz) z2, z3, fun _ => x2, by omega, by omega⟩
      · exact absurd x1 z1
    · rcases hN9 with ⟨z1, rfl, h, z2, z3⟩ | ⟨z1, rfl, z3⟩
      · exact absurd z1 x1
      · exact ⟨_, _, _, _, _, _, _, _, _, dg.eq (dg.un (dr.mv x3 e2)) bk9, z3, fun w => absurd w (by decide), by omega, by omega⟩
  obtain ⟨g2, kd2, sv2, kp2, n2, bf2, pt2, tm2, sg2, dg2, mo2, hval, hkk, hbv⟩ := fin
  have ho2 : F2 o = eL 1 u1 := (fr o oM oA oQ oC).trans hu1
  have fins : LI LX F2 K m a q c o := ⟨g2, kd2, sv2, kp2, n2, bf2, kk, pt2, tm2, sg2, u1, dg2, mo2, ho2⟩
  refine zq_istore6 hZ dL_law_765 (by decide) rfl ?_
  refine zq_aload_n2 hZ dL_law_767 ?_
  refine zq_cV hZ (As := []) rfl dL_law_768 ml_L_116 wy_X8_thrown (m_X8_thrown l mo2) (List.mem_append_right _ mM) mo2.2.1 rfl ⟨Nat.le_of_ble_eq_true rfl, Nat.le_of_ble_eq_true rfl⟩ ⟨by show k + 1 + 0 + 0 ≤ 601024; omega, by show n + 6 + 0 + 0 ≤ 7293034; omega⟩ (Nat.le_of_ble_eq_true rfl) (fun _ _ _ h => h.elim) (fun v9 L3 F3 hp => ?_)
  obtain ⟨rfl, rfl, rfl⟩ := hp
  refine zq_iload5 hZ dL_law_771 ?_
  refine zq_icmp_eq hZ (tgt := 778) dL_law_773 rfl (by omega) (fun _ => ?_) (fun hne => absurd rfl hne)
  refine zq_iload5 hZ dL_law_778 ?_
  have done : ∀ t5 t6 t7 t8, ZZ _ _ 795 [some (.ref b), some (.ref (K 0)), some (.ref m), some (.ref o), some (.int (iI i)), t5, t6, t7, t8] [] (LX ++ [m, a, q, c, o]) F2 := fun t5 t6 t7 t8 => zq_goto hZ (tgt := 2079) dL_law_795 rfl (cont (k + 1 + 0 + 0) (n + 6 + 0 + 0) F2 t5 t6 t7 t8 (by omega) (by omega) fins)
  refine zq_if_ne hZ (tgt := 795) dL_law_780 rfl (by omega) (fun _ => done _ _ _ _) (fun hk0 => ?_)
  refine zq_aload_n3 hZ dL_law_783 ?_
  refine zq_iconst hZ dL_law_784 ?_
  refine zq_laload hZ dL_law_785 (List.mem_append_right _ oin) ho2 ⟨by omega, by omega, by omega⟩ ?_
  refine zq_iload6 hZ dL_law_786 ?_
  refine zq_i2l hZ dL_law_788 hbv ?_
  rw [hval hk0]
  refine zq_lcmp hZ dL_law_789 ?_
  exact zq_if_eq_raw hZ (tgt := 795) dL_law_790 rfl (fun _ => done _ _ _ _) (fun hne => absurd ((lg_cmp_eq _ _).mpr rfl) hne)
set_option maxRecDepth 100000 in
set_option maxHeartbeats 4000000 in
theorem lc_15 (l : Launch) (hfl : l.flags = flags0) {ZZ : ZT} {tbl : List ExceptionTableEntry} {nm ds : String} {Φ : State → Prop} {post : Option Value → List Nat → (Nat → PE) → Prop} {xp : String → List Nat → (Nat → PE) → Prop} (hZ : ZZ = Zq Φ tbl l ⟨"DragonRingLaw", nm, ds⟩ cL_law 9 (some .boolean) room_1 [] post xp) (hΦ : ∀ s, Φ s → va_Nc xS xA s) {b Ls : Nat} {sx : Int → Int} (hsx : ∀ s, Φ s → va_X b Ls (fun j => iI (sx (j : Int))) s s.heap ∧ b < s.heap.size) (hok : ∀ j, -2147483648 ≤ sx j ∧ sx j ≤ 2147483647) {LX : List Nat} {F : Nat → PE} {K : Nat → Nat} {m a q c o : Nat} {i : Int} {k n : Nat} {s5 s6 s7 s8 : Option Value} (hL : LSx LX m a q c o) (hI : LI LX F K m a q c o) (hi : 0 ≤ i ∧ i + 2 < Ls ∧ Ls ≤ 1536) (hk : k + 1 ≤ 601024 ∧ n + 6 ≤ 7293034)
    (cont : ∀ (k2 n2 : Nat) (F2 : Nat → PE) (t5 t6 t7 t8 : Option Value), k2 ≤ k + 1 → n2 ≤ n + 6 → LI LX F2 K m a q c o → ZZ k2 n2 2079 [some (.ref b), some (.ref (K 0)), some (.ref m), some (.ref o), some (.int (iI i)), t5, t6, t7, t8] [] (LX ++ [m, a, q, c, o]) F2) :
    ZZ k n 798 [some (.ref b), some (.ref (K 0)), some (.ref m), some (.ref o), some (.int (iI i)), s5, s6, s7, s8] [] (LX ++ [m, a, q, c, o]) F := by
  obtain ⟨g, kd, sv, kp, nn, bf, th, pt, tm, sg, u, dgt, mot, hu⟩ := hI
  have fx := dr.fx dgt
  have rg := fx.1.1
  obtain ⟨hd9, oM, oA, oQ, oC⟩ := hL
  have hv := (dr.fx (dg.pre dgt)).1
  have y1 := hok (i + 1)
  have y2 := hok (i + 2)
  have oin : o ∈ [m, a, q, c, o] := by simp
  have hd5 : ∀ b, b ∈ LX → b ≠ o := fun b hb => (hd9 b hb).2.2.2.2
  have mM : m ∈ [m, a, q, c, o] := by simp
  have aM : a ∈ [m, a, q, c, o] := by simp
  have qM : q ∈ [m, a, q, c, o] := by simp
  have cM : c ∈ [m, a, q, c, o] := by simp
  refine zq_aload_n1 hZ dL_law_798 ?_
  refine zq_aload_n3 hZ dL_law_799 ?_
  refine zq_cSh hZ hΦ (As := [_, _]) rfl dL_law_800 ml_L_168 wy_L_killLine (m_L_killLine l (M := [m, a, q, c, o]) hfl (dg.pre dgt) oin hd5 hu) ⟨Nat.le_of_ble_eq_true rfl, Nat.le_of_ble_eq_true rfl⟩ ⟨by show k + 1 ≤ 601024; omega, by show n + 6 ≤ 7293034; omega⟩ (Nat.le_of_ble_eq_true rfl) (fun v9 L9 F9 hp => ?_)
  obtain ⟨rfl, fM, u1, hu1, hX⟩ := hp
  obtain ⟨kk, rfl, hY⟩ : ∃ kk, v9 = some (.int (iI kk)) ∧ ((kk = 0 ∧ dOk 10 kd (cpy g 0 9) ∧ u1 0 = dAn 10 (cpy g 0 9) ∧ dr LX F9 K (dTo 10 0 kd (cpy g 0 9)) (dKn 10) (hN sv) (hS sv (sH g) (cpy g 0 9)) kp (sQ g) nn bf) ∨ (kk = 1 ∧ ¬ dOk 10 kd (cpy g 0 9) ∧ dr LX F9 K (cpy g 0 9) kd sv (sH g) kp (sQ g) nn bf)) := by
    rcases hX with ⟨x1, x2, x3, x4⟩ | ⟨x1, x2, x4⟩
    · exact ⟨0, x2, Or.inl ⟨rfl, x1, x3, x4⟩⟩
    · exact ⟨1, x2, Or.inr ⟨rfl, x1, x4⟩⟩
  have mot9 := mo.mv (F1 := F9) mot (fM m mM (Ne.symm oM)) (fM a aM (Ne.symm oA)) (fM q qM (Ne.symm oQ)) (fM c cM (Ne.symm oC))
  refine zq_istore5 hZ dL_law_803 (by decide) rfl ?_
  refine zq_aload_n2 hZ dL_law_805 ?_
  refine zq_cV hZ (As := []) rfl dL_law_806 ml_L_170 wy_X8_killLine (m_X8_killLine l mot9 hv fx.2.1) (List.mem_append_right _ mM) mot9.2.1 rfl ⟨Nat.le_of_ble_eq_true rfl, Nat.le_of_ble_eq_true rfl⟩ ⟨by show k + 1 + 0 ≤ 601024; omega, by show n + 6 + 0 ≤ 7293034; omega⟩ (Nat.le_of_ble_eq_true rfl) (fun _ _ _ h => h.elim) (fun v9 L2 F2 hp => ?_)
  obtain ⟨rfl, fr, hM⟩ := hp
  obtain ⟨bv, rfl, hN9⟩ : ∃ bv, v9 = some (.int (iI bv)) ∧ ((dOk 10 kd (cpy g 0 9) ∧ bv = dAn 10 (cpy g 0 9) ∧ ∃ h, svP 9 sv (dTo 10 0 kd (cpy g 0 9)) h ∧ mo (LX ++ [m, a, q, c, o]) F2 m a q c h (hN sv) 0 (dKn 10) nn pt tm sg kp bf) ∨ (¬ dOk 10 kd (cpy g 0 9) ∧ bv = 0 ∧ mo (LX ++ [m, a, q, c, o]) F2 m a q c (cpy (cpy g 0 9) 9 0) sv 1 kd nn pt tm sg kp bf)) := by
    rcases hM with ⟨x1, x2, x3⟩ | ⟨x1, x2, x3⟩
    · exact ⟨_, x2, Or.inl ⟨x1, rfl, x3⟩⟩
    · exact ⟨0, x2, Or.inr ⟨x1, rfl, x3⟩⟩
  have fin : ∃ g2 kd2 sv2 kp2 n2 bf2 pt2 tm2 sg2, dg LX F2 K g2 kd2 sv2 kp2 n2 bf2 ∧ mo (LX ++ [m, a, q, c, o]) F2 m a q c g2 sv2 kk kd2 n2 pt2 tm2 sg2 kp2 bf2 ∧ (kk = 0 → u1 0 = bv) ∧ (0 ≤ kk ∧ kk ≤ 2) ∧ (-2147483648 ≤ bv ∧ bv ≤ 2147483647) := by
    have e2 : ∀ b, b ∈ LX → F2 b = F9 b := fun b hb => fr b (hd9 b hb).1 (hd9 b hb).2.1 (hd9 b hb).2.2.1 (hd9 b hb).2.2.2.1
    rcases hY with ⟨rfl, x1, x2, x3⟩ | ⟨rfl, x1, x3⟩
    · rcases hN9 with ⟨z1, rfl, h, z2, z3⟩ | ⟨z1, rfl, z3⟩
      · have rr := dAn_rg (d := 10) hv (by decide) x1
        exact ⟨_, _, _, _, _, _, _, _, _, dg.rem fx.2.1 (dr.mv x3 e2) (fun z hz => dTo_hi hv (by decide) x1 hz) z2, z3, fun _ => x2, by omega, by omega⟩
      · exact absurd x1 z1
    · rcases hN9 with ⟨z1, rfl, h, z2, z3⟩ | ⟨z1, rfl, z3⟩
      · exact absurd z1 x1
      · exact ⟨_, _, _, _, _, _, _, _, _, dg.eq (dg.un (dr.mv x3 e2)) bk9, z3, fun w => absurd w (by decide), by omega, by omega⟩
  obtain ⟨g2, kd2, sv2, kp2, n2, bf2, pt2, tm2, sg2, dg2, mo2, hval, hkk, hbv⟩ := fin
  have ho2 : F2 o = eL 1 u1 := (fr o oM oA oQ oC).trans hu1
  have fins : LI LX F2 K m a q c o := ⟨g2, kd2, sv2, kp2, n2, bf2, kk, pt2, tm2, sg2, u1, dg2, mo2, ho2⟩
  refine zq_istore6 hZ dL_law_809 (by decide) rfl ?_
  refine zq_aload_n2 hZ dL_law_811 ?_
  refine zq_cV hZ (As := []) rfl dL_law_812 ml_L_116 wy_X8_thrown (m_X8_thrown l mo2) (List.mem_append_right _ mM) mo2.2.1 rfl ⟨Nat.le_of_ble_eq_true rfl, Nat.le_of_ble_eq_true rfl⟩ ⟨by show k + 1 + 0 + 0 ≤ 601024; omega, by show n + 6 + 0 + 0 ≤ 7293034; omega⟩ (Nat.le_of_ble_eq_true rfl) (fun _ _ _ h => h.elim) (fun v9 L3 F3 hp => ?_)
  obtain ⟨rfl, rfl, rfl⟩ := hp
  refine zq_iload5 hZ dL_law_815 ?_
  refine zq_icmp_eq hZ (tgt := 822) dL_law_817 rfl (by omega) (fun _ => ?_) (fun hne => absurd rfl hne)
  refine zq_iload5 hZ dL_law_822 ?_
  have done : ∀ t5 t6 t7 t8, ZZ _ _ 839 [some (.ref b), some (.ref (K 0)), some (.ref m), some (.ref o), some (.int (iI i)), t5, t6, t7, t8] [] (LX ++ [m, a, q, c, o]) F2 := fun t5 t6 t7 t8 => zq_goto hZ (tgt := 2079) dL_law_839 rfl (cont (k + 1 + 0 + 0) (n + 6 + 0 + 0) F2 t5 t6 t7 t8 (by omega) (by omega) fins)
  refine zq_if_ne hZ (tgt := 839) dL_law_824 rfl (by omega) (fun _ => done _ _ _ _) (fun hk0 => ?_)
  refine zq_aload_n3 hZ dL_law_827 ?_
  refine zq_iconst hZ dL_law_828 ?_
  refine zq_laload hZ dL_law_829 (List.mem_append_right _ oin) ho2 ⟨by omega, by omega, by omega⟩ ?_
  refine zq_iload6 hZ dL_law_830 ?_
  refine zq_i2l hZ dL_law_832 hbv ?_
  rw [hval hk0]
  refine zq_lcmp hZ dL_law_833 ?_
  exact zq_if_eq_raw hZ (tgt := 839) dL_law_834 rfl (fun _ => done _ _ _ _) (fun hne => absurd ((lg_cmp_eq _ _).mpr rfl) hne)
set_option maxRecDepth 100000 in
set_option maxHeartbeats 4000000 in
theorem lc_16 (l : Launch) (hfl : l.flags = flags0) {ZZ : ZT} {tbl : List ExceptionTableEntry} {nm ds : String} {Φ : State → Prop} {post : Option Value → List Nat → (Nat → PE) → Prop} {xp : String → List Nat → (Nat → PE) → Prop} (hZ : ZZ = Zq Φ tbl l ⟨"DragonRingLaw", nm, ds⟩ cL_law 9 (some .boolean) room_1 [] post xp) (hΦ : ∀ s, Φ s → va_Nc xS xA s) {b Ls : Nat} {sx : Int → Int} (hsx : ∀ s, Φ s → va_X b Ls (fun j => iI (sx (j : Int))) s s.heap ∧ b < s.heap.size) (hok : ∀ j, -2147483648 ≤ sx j ∧ sx j ≤ 2147483647) {LX : List Nat} {F : Nat → PE} {K : Nat → Nat} {m a q c o : Nat} {i : Int} {k n : Nat} {s5 s6 s7 s8 : Option Value} (hL : LSx LX m a q c o) (hI : LI LX F K m a q c o) (hi : 0 ≤ i ∧ i + 2 < Ls ∧ Ls ≤ 1536) (hk : k + 1 ≤ 601024 ∧ n + 6 ≤ 7293034)
    (cont : ∀ (k2 n2 : Nat) (F2 : Nat → PE) (t5 t6 t7 t8 : Option Value), k2 ≤ k + 1 → n2 ≤ n + 6 → LI LX F2 K m a q c o → ZZ k2 n2 2079 [some (.ref b), some (.ref (K 0)), some (.ref m), some (.ref o), some (.int (iI i)), t5, t6, t7, t8] [] (LX ++ [m, a, q, c, o]) F2) :
    ZZ k n 842 [some (.ref b), some (.ref (K 0)), some (.ref m), some (.ref o), some (.int (iI i)), s5, s6, s7, s8] [] (LX ++ [m, a, q, c, o]) F := by
  obtain ⟨g, kd, sv, kp, nn, bf, th, pt, tm, sg, u, dgt, mot, hu⟩ := hI
  have fx := dr.fx dgt
  have rg := fx.1.1
  obtain ⟨hd9, oM, oA, oQ, oC⟩ := hL
  have hv := (dr.fx (dg.pre dgt)).1
  have y1 := hok (i + 1)
  have y2 := hok (i + 2)
  have oin : o ∈ [m, a, q, c, o] := by simp
  have hd5 : ∀ b, b ∈ LX → b ≠ o := fun b hb => (hd9 b hb).2.2.2.2
  have mM : m ∈ [m, a, q, c, o] := by simp
  have aM : a ∈ [m, a, q, c, o] := by simp
  have qM : q ∈ [m, a, q, c, o] := by simp
  have cM : c ∈ [m, a, q, c, o] := by simp
  refine zq_aload_n1 hZ dL_law_842 ?_
  refine zq_aload_n3 hZ dL_law_843 ?_
  refine zq_cSh hZ hΦ (As := [_, _]) rfl dL_law_844 ml_L_171 wy_L_killBetween (m_L_killBetween l (M := [m, a, q, c, o]) hfl (dg.pre dgt) oin hd5 hu) ⟨Nat.le_of_ble_eq_true rfl, Nat.le_of_ble_eq_true rfl⟩ ⟨by show k + 1 ≤ 601024; omega, by show n + 6 ≤ 7293034; omega⟩ (Nat.le_of_ble_eq_true rfl) (fun v9 L9 F9 hp => ?_)
  obtain ⟨rfl, fM, u1, hu1, hX⟩ := hp
  obtain ⟨kk, rfl, hY⟩ : ∃ kk, v9 = some (.int (iI kk)) ∧ ((kk = 0 ∧ dOk 11 kd (cpy g 0 9) ∧ u1 0 = dAn 11 (cpy g 0 9) ∧ dr LX F9 K (dTo 11 0 kd (cpy g 0 9)) (dKn 11) (hN sv) (hS sv (sH g) (cpy g 0 9)) kp (sQ g) nn bf) ∨ (kk = 1 ∧ ¬ dOk 11 kd (cpy g 0 9) ∧ dr LX F9 K (cpy g 0 9) kd sv (sH g) kp (sQ g) nn bf)) := by
    rcases hX with ⟨x1, x2, x3, x4⟩ | ⟨x1, x2, x4⟩
    · exact ⟨0, x2, Or.inl ⟨rfl, x1, x3, x4⟩⟩
    · exact ⟨1, x2, Or.inr ⟨rfl, x1, x4⟩⟩
  have mot9 := mo.mv (F1 := F9) mot (fM m mM (Ne.symm oM)) (fM a aM (Ne.symm oA)) (fM q qM (Ne.symm oQ)) (fM c cM (Ne.symm oC))
  refine zq_istore5 hZ dL_law_847 (by decide) rfl ?_
  refine zq_aload_n2 hZ dL_law_849 ?_
  refine zq_cV hZ (As := []) rfl dL_law_850 ml_L_173 wy_X8_killBetween (m_X8_killBetween l mot9 hv fx.2.1) (List.mem_append_right _ mM) mot9.2.1 rfl ⟨Nat.le_of_ble_eq_true rfl, Nat.le_of_ble_eq_true rfl⟩ ⟨by show k + 1 + 0 ≤ 601024; omega, by show n + 6 + 0 ≤ 7293034; omega⟩ (Nat.le_of_ble_eq_true rfl) (fun _ _ _ h => h.elim) (fun v9 L2 F2 hp => ?_)
  obtain ⟨rfl, fr, hM⟩ := hp
  obtain ⟨bv, rfl, hN9⟩ : ∃ bv, v9 = some (.int (iI bv)) ∧ ((dOk 11 kd (cpy g 0 9) ∧ bv = dAn 11 (cpy g 0 9) ∧ ∃ h, svP 9 sv (dTo 11 0 kd (cpy g 0 9)) h ∧ mo (LX ++ [m, a, q, c, o]) F2 m a q c h (hN sv) 0 (dKn 11) nn pt tm sg kp bf) ∨ (¬ dOk 11 kd (cpy g 0 9) ∧ bv = 0 ∧ mo (LX ++ [m, a, q, c, o]) F2 m a q c (cpy (cpy g 0 9) 9 0) sv 1 kd nn pt tm sg kp bf)) := by
    rcases hM with ⟨x1, x2, x3⟩ | ⟨x1, x2, x3⟩
    · exact ⟨_, x2, Or.inl ⟨x1, rfl, x3⟩⟩
    · exact ⟨0, x2, Or.inr ⟨x1, rfl, x3⟩⟩
  have fin : ∃ g2 kd2 sv2 kp2 n2 bf2 pt2 tm2 sg2, dg LX F2 K g2 kd2 sv2 kp2 n2 bf2 ∧ mo (LX ++ [m, a, q, c, o]) F2 m a q c g2 sv2 kk kd2 n2 pt2 tm2 sg2 kp2 bf2 ∧ (kk = 0 → u1 0 = bv) ∧ (0 ≤ kk ∧ kk ≤ 2) ∧ (-2147483648 ≤ bv ∧ bv ≤ 2147483647) := by
    have e2 : ∀ b, b ∈ LX → F2 b = F9 b := fun b hb => fr b (hd9 b hb).1 (hd9 b hb).2.1 (hd9 b hb).2.2.1 (hd9 b hb).2.2.2.1
    rcases hY with ⟨rfl, x1, x2, x3⟩ | ⟨rfl, x1, x3⟩
    · rcases hN9 with ⟨z1, rfl, h, z2, z3⟩ | ⟨z1, rfl, z3⟩
      · have rr := dAn_rg (d := 11) hv (by decide) x1
        exact ⟨_, _, _, _, _, _, _, _, _, dg.rem fx.2.1 (dr.mv x3 e2) (fun z hz => dTo_hi hv (by decide) x1 hz) z2, z3, fun _ => x2, by omega, by omega⟩
      · exact absurd x1 z1
    · rcases hN9 with ⟨z1, rfl, h, z2, z3⟩ | ⟨z1, rfl, z3⟩
      · exact absurd z1 x1
      · exact ⟨_, _, _, _, _, _, _, _, _, dg.eq (dg.un (dr.mv x3 e2)) bk9, z3, fun w => absurd w (by decide), by omega, by omega⟩
  obtain ⟨g2, kd2, sv2, kp2, n2, bf2, pt2, tm2, sg2, dg2, mo2, hval, hkk, hbv⟩ := fin
  have ho2 : F2 o = eL 1 u1 := (fr o oM oA oQ oC).trans hu1
  have fins : LI LX F2 K m a q c o := ⟨g2, kd2, sv2, kp2, n2, bf2, kk, pt2, tm2, sg2, u1, dg2, mo2, ho2⟩
  refine zq_istore6 hZ dL_law_853 (by decide) rfl ?_
  refine zq_aload_n2 hZ dL_law_855 ?_
  refine zq_cV hZ (As := []) rfl dL_law_856 ml_L_116 wy_X8_thrown (m_X8_thrown l mo2) (List.mem_append_right _ mM) mo2.2.1 rfl ⟨Nat.le_of_ble_eq_true rfl, Nat.le_of_ble_eq_true rfl⟩ ⟨by show k + 1 + 0 + 0 ≤ 601024; omega, by show n + 6 + 0 + 0 ≤ 7293034; omega⟩ (Nat.le_of_ble_eq_true rfl) (fun _ _ _ h => h.elim) (fun v9 L3 F3 hp => ?_)
  obtain ⟨rfl, rfl, rfl⟩ := hp
  refine zq_iload5 hZ dL_law_859 ?_
  refine zq_icmp_eq hZ (tgt := 866) dL_law_861 rfl (by omega) (fun _ => ?_) (fun hne => absurd rfl hne)
  refine zq_iload5 hZ dL_law_866 ?_
  have done : ∀ t5 t6 t7 t8, ZZ _ _ 883 [some (.ref b), some (.ref (K 0)), some (.ref m), some (.ref o), some (.int (iI i)), t5, t6, t7, t8] [] (LX ++ [m, a, q, c, o]) F2 := fun t5 t6 t7 t8 => zq_goto hZ (tgt := 2079) dL_law_883 rfl (cont (k + 1 + 0 + 0) (n + 6 + 0 + 0) F2 t5 t6 t7 t8 (by omega) (by omega) fins)
  refine zq_if_ne hZ (tgt := 883) dL_law_868 rfl (by omega) (fun _ => done _ _ _ _) (fun hk0 => ?_)
  refine zq_aload_n3 hZ dL_law_871 ?_
  refine zq_iconst hZ dL_law_872 ?_
  refine zq_laload hZ dL_law_873 (List.mem_append_right _ oin) ho2 ⟨by omega, by omega, by omega⟩ ?_
  refine zq_iload6 hZ dL_law_874 ?_
  refine zq_i2l hZ dL_law_876 hbv ?_
  rw [hval hk0]
  refine zq_lcmp hZ dL_law_877 ?_
  exact zq_if_eq_raw hZ (tgt := 883) dL_law_878 rfl (fun _ => done _ _ _ _) (fun hne => absurd ((lg_cmp_eq _ _).mpr rfl) hne)
set_option maxRecDepth 100000 in
set_option maxHeartbeats 4000000 in
theorem lc_17 (l : Launch) (hfl : l.flags = flags0) {ZZ : ZT} {tbl : List ExceptionTableEntry} {nm ds : String} {Φ : State → Prop} {post : Option Value → List Nat → (Nat → PE) → Prop} {xp : String → List Nat → (Nat → PE) → Prop} (hZ : ZZ = Zq Φ tbl l ⟨"DragonRingLaw", nm, ds⟩ cL_law 9 (some .boolean) room_1 [] post xp) (hΦ : ∀ s, Φ s → va_Nc xS xA s) {b Ls : Nat} {sx : Int → Int} (hsx : ∀ s, Φ s → va_X b Ls (fun j => iI (sx (j : Int))) s s.heap ∧ b < s.heap.size) (hok : ∀ j, -2147483648 ≤ sx j ∧ sx j ≤ 2147483647) {LX : List Nat} {F : Nat → PE} {K : Nat → Nat} {m a q c o : Nat} {i : Int} {k n : Nat} {s5 s6 s7 s8 : Option Value} (hL : LSx LX m a q c o) (hI : LI LX F K m a q c o) (hi : 0 ≤ i ∧ i + 2 < Ls ∧ Ls ≤ 1536) (hk : k + 1 ≤ 601024 ∧ n + 6 ≤ 7293034)
    (cont : ∀ (k2 n2 : Nat) (F2 : Nat → PE) (t5 t6 t7 t8 : Option Value), k2 ≤ k + 1 → n2 ≤ n + 6 → LI LX F2 K m a q c o → ZZ k2 n2 2079 [some (.ref b), some (.ref (K 0)), some (.ref m), some (.ref o), some (.int (iI i)), t5, t6, t7, t8] [] (LX ++ [m, a, q, c, o]) F2) :
    ZZ k n 886 [some (.ref b), some (.ref (K 0)), some (.ref m), some (.ref o), some (.int (iI i)), s5, s6, s7, s8] [] (LX ++ [m, a, q, c, o]) F := by
  obtain ⟨g, kd, sv, kp, nn, bf, th, pt, tm, sg, u, dgt, mot, hu⟩ := hI
  have fx := dr.fx dgt
  have rg := fx.1.1
  obtain ⟨hd9, oM, oA, oQ, oC⟩ := hL
  have hv := (dr.fx (dg.pre dgt)).1
  have y1 := hok (i + 1)
  have y2 := hok (i + 2)
  have oin : o ∈ [m, a, q, c, o] := by simp
  have hd5 : ∀ b, b ∈ LX → b ≠ o := fun b hb => (hd9 b hb).2.2.2.2
  have mM : m ∈ [m, a, q, c, o] := by simp
  have aM : a ∈ [m, a, q, c, o] := by simp
  have qM : q ∈ [m, a, q, c, o] := by simp
  have cM : c ∈ [m, a, q, c, o] := by simp
  refine zq_aload_n1 hZ dL_law_886 ?_
  refine zq_aload_n3 hZ dL_law_887 ?_
  refine zq_cSh hZ hΦ (As := [_, _]) rfl dL_law_888 ml_L_174 wy_L_copyBetween (m_L_copyBetween l (M := [m, a, q, c, o]) hfl (dg.pre dgt) oin hd5 hu) ⟨Nat.le_of_ble_eq_true rfl, Nat.le_of_ble_eq_true rfl⟩ ⟨by show k + 1 ≤ 601024; omega, by show n + 6 ≤ 7293034; omega⟩ (Nat.le_of_ble_eq_true rfl) (fun v9 L9 F9 hp => ?_)
  obtain ⟨rfl, fM, u1, hu1, hX⟩ := hp
  obtain ⟨kk, rfl, hY⟩ : ∃ kk, v9 = some (.int (iI kk)) ∧ ((kk = 0 ∧ dOk 12 kd (cpy g 0 9) ∧ u1 0 = dAn 12 (cpy g 0 9) ∧ dr LX F9 K (dTo 12 0 kd (cpy g 0 9)) (dKn 12) (hN sv) (hS sv (sH g) (cpy g 0 9)) kp (sQ g) nn bf) ∨ (kk = 1 ∧ ¬ dOk 12 kd (cpy g 0 9) ∧ dr LX F9 K (cpy g 0 9) kd sv (sH g) kp (sQ g) nn bf)) := by
    rcases hX with ⟨x1, x2, x3, x4⟩ | ⟨x1, x2, x4⟩
    · exact ⟨0, x2, Or.inl ⟨rfl, x1, x3, x4⟩⟩
    · exact ⟨1, x2, Or.inr ⟨rfl, x1, x4⟩⟩
  have mot9 := mo.mv (F1 := F9) mot (fM m mM (Ne.symm oM)) (fM a aM (Ne.symm oA)) (fM q qM (Ne.symm oQ)) (fM c cM (Ne.symm oC))
  refine zq_istore5 hZ dL_law_891 (by decide) rfl ?_
  refine zq_aload_n2 hZ dL_law_893 ?_
  refine zq_cV hZ (As := []) rfl dL_law_894 ml_L_176 wy_X8_copyBetween (m_X8_copyBetween l mot9 hv fx.2.1) (List.mem_append_right _ mM) mot9.2.1 rfl ⟨Nat.le_of_ble_eq_true rfl, Nat.le_of_ble_eq_true rfl⟩ ⟨by show k + 1 + 0 ≤ 601024; omega, by show n + 6 + 0 ≤ 7293034; omega⟩ (Nat.le_of_ble_eq_true rfl) (fun _ _ _ h => h.elim) (fun v9 L2 F2 hp => ?_)
  obtain ⟨rfl, fr, hM⟩ := hp
  obtain ⟨bv, rfl, hN9⟩ : ∃ bv, v9 = some (.int (iI bv)) ∧ ((dOk 12 kd (cpy g 0 9) ∧ bv = dAn 12 (cpy g 0 9) ∧ ∃ h, svP 9 sv (dTo 12 0 kd (cpy g 0 9)) h ∧ mo (LX ++ [m, a, q, c, o]) F2 m a q c h (hN sv) 0 (dKn 12) nn pt tm sg kp bf) ∨ (¬ dOk 12 kd (cpy g 0 9) ∧ bv = 0 ∧ mo (LX ++ [m, a, q, c, o]) F2 m a q c (cpy (cpy g 0 9) 9 0) sv 1 kd nn pt tm sg kp bf)) := by
    rcases hM with ⟨x1, x2, x3⟩ | ⟨x1, x2, x3⟩
    · exact ⟨_, x2, Or.inl ⟨x1, rfl, x3⟩⟩
    · exact ⟨0, x2, Or.inr ⟨x1, rfl, x3⟩⟩
  have fin : ∃ g2 kd2 sv2 kp2 n2 bf2 pt2 tm2 sg2, dg LX F2 K g2 kd2 sv2 kp2 n2 bf2 ∧ mo (LX ++ [m, a, q, c, o]) F2 m a q c g2 sv2 kk kd2 n2 pt2 tm2 sg2 kp2 bf2 ∧ (kk = 0 → u1 0 = bv) ∧ (0 ≤ kk ∧ kk ≤ 2) ∧ (-2147483648 ≤ bv ∧ bv ≤ 2147483647) := by
    have e2 : ∀ b, b ∈ LX → F2 b = F9 b := fun b hb => fr b (hd9 b hb).1 (hd9 b hb).2.1 (hd9 b hb).2.2.1 (hd9 b hb).2.2.2.1
    rcases hY with ⟨rfl, x1, x2, x3⟩ | ⟨rfl, x1, x3⟩
    · rcases hN9 with ⟨z1, rfl, h, z2, z3⟩ | ⟨z1, rfl, z3⟩
      · have rr := dAn_rg (d := 12) hv (by decide) x1
        exact ⟨_, _, _, _, _, _, _, _, _, dg.rem fx.2.1 (dr.mv x3 e2) (fun z hz => dTo_hi hv (by decide) x1 hz) z2, z3, fun _ => x2, by omega, by omega⟩
      · exact absurd x1 z1
    · rcases hN9 with ⟨z1, rfl, h, z2, z3⟩ | ⟨z1, rfl, z3⟩
      · exact absurd z1 x1
      · exact ⟨_, _, _, _, _, _, _, _, _, dg.eq (dg.un (dr.mv x3 e2)) bk9, z3, fun w => absurd w (by decide), by omega, by omega⟩
  obtain ⟨g2, kd2, sv2, kp2, n2, bf2, pt2, tm2, sg2, dg2, mo2, hval, hkk, hbv⟩ := fin
  have ho2 : F2 o = eL 1 u1 := (fr o oM oA oQ oC).trans hu1
  have fins : LI LX F2 K m a q c o := ⟨g2, kd2, sv2, kp2, n2, bf2, kk, pt2, tm2, sg2, u1, dg2, mo2, ho2⟩
  refine zq_istore6 hZ dL_law_897 (by decide) rfl ?_
  refine zq_aload_n2 hZ dL_law_899 ?_
  refine zq_cV hZ (As := []) rfl dL_law_900 ml_L_116 wy_X8_thrown (m_X8_thrown l mo2) (List.mem_append_right _ mM) mo2.2.1 rfl ⟨Nat.le_of_ble_eq_true rfl, Nat.le_of_ble_eq_true rfl⟩ ⟨by show k + 1 + 0 + 0 ≤ 601024; omega, by show n + 6 + 0 + 0 ≤ 7293034; omega⟩ (Nat.le_of_ble_eq_true rfl) (fun _ _ _ h => h.elim) (fun v9 L3 F3 hp => ?_)
  obtain ⟨rfl, rfl, rfl⟩ := hp
  refine zq_iload5 hZ dL_law_903 ?_
  refine zq_icmp_eq hZ (tgt := 910) dL_law_905 rfl (by omega) (fun _ => ?_) (fun hne => absurd rfl hne)
  refine zq_iload5 hZ dL_law_910 ?_
  have done : ∀ t5 t6 t7 t8, ZZ _ _ 927 [some (.ref b), some (.ref (K 0)), some (.ref m), some (.ref o), some (.int (iI i)), t5, t6, t7, t8] [] (LX ++ [m, a, q, c, o]) F2 := fun t5 t6 t7 t8 => zq_goto hZ (tgt := 2079) dL_law_927 rfl (cont (k + 1 + 0 + 0) (n + 6 + 0 + 0) F2 t5 t6 t7 t8 (by omega) (by omega) fins)
  refine zq_if_ne hZ (tgt := 927) dL_law_912 rfl (by omega) (fun _ => done _ _ _ _) (fun hk0 => ?_)
  refine zq_aload_n3 hZ dL_law_915 ?_
  refine zq_iconst hZ dL_law_916 ?_
  refine zq_laload hZ dL_law_917 (List.mem_append_right _ oin) ho2 ⟨by omega, by omega, by omega⟩ ?_
  refine zq_iload6 hZ dL_law_918 ?_
  refine zq_i2l hZ dL_law_920 hbv ?_
  rw [hval hk0]
  refine zq_lcmp hZ dL_law_921 ?_
  exact zq_if_eq_raw hZ (tgt := 927) dL_law_922 rfl (fun _ => done _ _ _ _) (fun hne => absurd ((lg_cmp_eq _ _).mpr rfl) hne)
set_option maxRecDepth 100000 in
set_option maxHeartbeats 4000000 in
theorem lc_18 (l : Launch) (hfl : l.flags = flags0) {ZZ : ZT} {tbl : List ExceptionTableEntry} {nm ds : String} {Φ : State → Prop} {post : Option Value → List Nat → (Nat → PE) → Prop} {xp : String → List Nat → (Nat → PE) → Prop} (hZ : ZZ = Zq Φ tbl l ⟨"DragonRingLaw", nm, ds⟩ cL_law 9 (some .boolean) room_1 [] post xp) (hΦ : ∀ s, Φ s → va_Nc xS xA s) {b Ls : Nat} {sx : Int → Int} (hsx : ∀ s, Φ s → va_X b Ls (fun j => iI (sx (j : Int))) s s.heap ∧ b < s.heap.size) (hok : ∀ j, -2147483648 ≤ sx j ∧ sx j ≤ 2147483647) {LX : List Nat} {F : Nat → PE} {K : Nat → Nat} {m a q c o : Nat} {i : Int} {k n : Nat} {s5 s6 s7 s8 : Option Value} (hL : LSx LX m a q c o) (hI : LI LX F K m a q c o) (hi : 0 ≤ i ∧ i + 2 < Ls ∧ Ls ≤ 1536) (hk : k + 1 ≤ 601024 ∧ n + 6 ≤ 7293034)
    (cont : ∀ (k2 n2 : Nat) (F2 : Nat → PE) (t5 t6 t7 t8 : Option Value), k2 ≤ k + 1 → n2 ≤ n + 6 → LI LX F2 K m a q c o → ZZ k2 n2 2079 [some (.ref b), some (.ref (K 0)), some (.ref m), some (.ref o), some (.int (iI i)), t5, t6, t7, t8] [] (LX ++ [m, a, q, c, o]) F2) :
    ZZ k n 930 [some (.ref b), some (.ref (K 0)), some (.ref m), some (.ref o), some (.int (iI i)), s5, s6, s7, s8] [] (LX ++ [m, a, q, c, o]) F := by
  obtain ⟨g, kd, sv, kp, nn, bf, th, pt, tm, sg, u, dgt, mot, hu⟩ := hI
  have fx := dr.fx dgt
  have rg := fx.1.1
  obtain ⟨hd9, oM, oA, oQ, oC⟩ := hL
  have hv := (dr.fx (dg.pre dgt)).1
  have y1 := hok (i + 1)
  have y2 := hok (i + 2)
  have oin : o ∈ [m, a, q, c, o] := by simp
  have hd5 : ∀ b, b ∈ LX → b ≠ o := fun b hb => (hd9 b hb).2.2.2.2
  have mM : m ∈ [m, a, q, c, o] := by simp
  have aM : a ∈ [m, a, q, c, o] := by simp
  have qM : q ∈ [m, a, q, c, o] := by simp
  have cM : c ∈ [m, a, q, c, o] := by simp
  refine zq_aload_n1 hZ dL_law_930 ?_
  refine zq_aload_n3 hZ dL_law_931 ?_
  refine zq_cSh hZ hΦ (As := [_, _]) rfl dL_law_932 ml_L_177 wy_L_yank (m_L_yank l (M := [m, a, q, c, o]) hfl (dg.pre dgt) oin hd5 hu) ⟨Nat.le_of_ble_eq_true rfl, Nat.le_of_ble_eq_true rfl⟩ ⟨by show k + 1 ≤ 601024; omega, by show n + 6 ≤ 7293034; omega⟩ (Nat.le_of_ble_eq_true rfl) (fun v9 L9 F9 hp => ?_)
  obtain ⟨rfl, fM, u1, hu1, hX⟩ := hp
  obtain ⟨kk, rfl, hY⟩ : ∃ kk, v9 = some (.int (iI kk)) ∧ ((kk = 0 ∧ dOk 13 kd (cpy g 0 9) ∧ u1 0 = dAn 13 (cpy g 0 9) ∧ dr LX F9 K (dTo 13 0 kd (cpy g 0 9)) (dKn 13) (hN sv) (hS sv (sH g) (cpy g 0 9)) kp (sQ g) nn bf) ∨ (kk = 1 ∧ ¬ dOk 13 kd (cpy g 0 9) ∧ dr LX F9 K (cpy g 0 9) kd sv (sH g) kp (sQ g) nn bf)) := by
    rcases hX with ⟨x1, x2, x3, x4⟩ | ⟨x1, x2, x4⟩
    · exact ⟨0, x2, Or.inl ⟨rfl, x1, x3, x4⟩⟩
    · exact ⟨1, x2, Or.inr ⟨rfl, x1, x4⟩⟩
  have mot9 := mo.mv (F1 := F9) mot (fM m mM (Ne.symm oM)) (fM a aM (Ne.symm oA)) (fM q qM (Ne.symm oQ)) (fM c cM (Ne.symm oC))
  refine zq_istore5 hZ dL_law_935 (by decide) rfl ?_
  refine zq_aload_n2 hZ dL_law_937 ?_
  refine zq_cV hZ (As := []) rfl dL_law_938 ml_L_179 wy_X8_yank (m_X8_yank l mot9 hv fx.2.1) (List.mem_append_right _ mM) mot9.2.1 rfl ⟨Nat.le_of_ble_eq_true rfl, Nat.le_of_ble_eq_true rfl⟩ ⟨by show k + 1 + 0 ≤ 601024; omega, by show n + 6 + 0 ≤ 7293034; omega⟩ (Nat.le_of_ble_eq_true rfl) (fun _ _ _ h => h.elim) (fun v9 L2 F2 hp => ?_)
  obtain ⟨rfl, fr, hM⟩ := hp
  obtain ⟨bv, rfl, hN9⟩ : ∃ bv, v9 = some (.int (iI bv)) ∧ ((dOk 13 kd (cpy g 0 9) ∧ bv = dAn 13 (cpy g 0 9) ∧ ∃ h, svP 9 sv (dTo 13 0 kd (cpy g 0 9)) h ∧ mo (LX ++ [m, a, q, c, o]) F2 m a q c h (hN sv) 0 (dKn 13) nn pt tm sg kp bf) ∨ (¬ dOk 13 kd (cpy g 0 9) ∧ bv = 0 ∧ mo (LX ++ [m, a, q, c, o]) F2 m a q c (cpy (cpy g 0 9) 9 0) sv 1 kd nn pt tm sg kp bf)) := by
    rcases hM with ⟨x1, x2, x3⟩ | ⟨x1, x2, x3⟩
    · exact ⟨_, x2, Or.inl ⟨x1, rfl, x3⟩⟩
    · exact ⟨0, x2, Or.inr ⟨x1, rfl, x3⟩⟩
  have fin : ∃ g2 kd2 sv2 kp2 n2 bf2 pt2 tm2 sg2, dg LX F2 K g2 kd2 sv2 kp2 n2 bf2 ∧ mo (LX ++ [m, a, q, c, o]) F2 m a q c g2 sv2 kk kd2 n2 pt2 tm2 sg2 kp2 bf2 ∧ (kk = 0 → u1 0 = bv) ∧ (0 ≤ kk ∧ kk ≤ 2) ∧ (-2147483648 ≤ bv ∧ bv ≤ 2147483647) := by
    have e2 : ∀ b, b ∈ LX → F2 b = F9 b := fun b hb => fr b (hd9 b hb).1 (hd9 b hb).2.1 (hd9 b hb).2.2.1 (hd9 b hb).2.2.2.1
    rcases hY with ⟨rfl, x1, x2, x3⟩ | ⟨rfl, x1, x3⟩
    · rcases hN9 with ⟨z1, rfl, h, z2, z3⟩ | ⟨z1, rfl, z3⟩
      · have rr := dAn_rg (d := 13) hv (by decide) x1
        exact ⟨_, _, _, _, _, _, _, _, _, dg.rem fx.2.1 (dr.mv x3 e2) (fun z hz => dTo_hi hv (by decide) x1 hz) z2, z3, fun _ => x2, by omega, by omega⟩
      · exact absurd x1 z1
    · rcases hN9 with ⟨z1, rfl, h, z2, z3⟩ | ⟨z1, rfl, z3⟩
      · exact absurd z1 x1
      · exact ⟨_, _, _, _, _, _, _, _, _, dg.eq (dg.un (dr.mv x3 e2)) bk9, z3, fun w => absurd w (by decide), by omega, by omega⟩
  obtain ⟨g2, kd2, sv2, kp2, n2, bf2, pt2, tm2, sg2, dg2, mo2, hval, hkk, hbv⟩ := fin
  have ho2 : F2 o = eL 1 u1 := (fr o oM oA oQ oC).trans hu1
  have fins : LI LX F2 K m a q c o := ⟨g2, kd2, sv2, kp2, n2, bf2, kk, pt2, tm2, sg2, u1, dg2, mo2, ho2⟩
  refine zq_istore6 hZ dL_law_941 (by decide) rfl ?_
  refine zq_aload_n2 hZ dL_law_943 ?_
  refine zq_cV hZ (As := []) rfl dL_law_944 ml_L_116 wy_X8_thrown (m_X8_thrown l mo2) (List.mem_append_right _ mM) mo2.2.1 rfl ⟨Nat.le_of_ble_eq_true rfl, Nat.le_of_ble_eq_true rfl⟩ ⟨by show k + 1 + 0 + 0 ≤ 601024; omega, by show n + 6 + 0 + 0 ≤ 7293034; omega⟩ (Nat.le_of_ble_eq_true rfl) (fun _ _ _ h => h.elim) (fun v9 L3 F3 hp => ?_)
  obtain ⟨rfl, rfl, rfl⟩ := hp
  refine zq_iload5 hZ dL_law_947 ?_
  refine zq_icmp_eq hZ (tgt := 954) dL_law_949 rfl (by omega) (fun _ => ?_) (fun hne => absurd rfl hne)
  refine zq_iload5 hZ dL_law_954 ?_
  have done : ∀ t5 t6 t7 t8, ZZ _ _ 971 [some (.ref b), some (.ref (K 0)), some (.ref m), some (.ref o), some (.int (iI i)), t5, t6, t7, t8] [] (LX ++ [m, a, q, c, o]) F2 := fun t5 t6 t7 t8 => zq_goto hZ (tgt := 2079) dL_law_971 rfl (cont (k + 1 + 0 + 0) (n + 6 + 0 + 0) F2 t5 t6 t7 t8 (by omega) (by omega) fins)
  refine zq_if_ne hZ (tgt := 971) dL_law_956 rfl (by omega) (fun _ => done _ _ _ _) (fun hk0 => ?_)
  refine zq_aload_n3 hZ dL_law_959 ?_
  refine zq_iconst hZ dL_law_960 ?_
  refine zq_laload hZ dL_law_961 (List.mem_append_right _ oin) ho2 ⟨by omega, by omega, by omega⟩ ?_
  refine zq_iload6 hZ dL_law_962 ?_
  refine zq_i2l hZ dL_law_964 hbv ?_
  rw [hval hk0]
  refine zq_lcmp hZ dL_law_965 ?_
  exact zq_if_eq_raw hZ (tgt := 971) dL_law_966 rfl (fun _ => done _ _ _ _) (fun hne => absurd ((lg_cmp_eq _ _).mpr rfl) hne)
set_option maxRecDepth 100000 in
set_option maxHeartbeats 4000000 in
theorem lc_19 (l : Launch) (hfl : l.flags = flags0) {ZZ : ZT} {tbl : List ExceptionTableEntry} {nm ds : String} {Φ : State → Prop} {post : Option Value → List Nat → (Nat → PE) → Prop} {xp : String → List Nat → (Nat → PE) → Prop} (hZ : ZZ = Zq Φ tbl l ⟨"DragonRingLaw", nm, ds⟩ cL_law 9 (some .boolean) room_1 [] post xp) (hΦ : ∀ s, Φ s → va_Nc xS xA s) {b Ls : Nat} {sx : Int → Int} (hsx : ∀ s, Φ s → va_X b Ls (fun j => iI (sx (j : Int))) s s.heap ∧ b < s.heap.size) (hok : ∀ j, -2147483648 ≤ sx j ∧ sx j ≤ 2147483647) {LX : List Nat} {F : Nat → PE} {K : Nat → Nat} {m a q c o : Nat} {i : Int} {k n : Nat} {s5 s6 s7 s8 : Option Value} (hL : LSx LX m a q c o) (hI : LI LX F K m a q c o) (hi : 0 ≤ i ∧ i + 2 < Ls ∧ Ls ≤ 1536) (hk : k + 1 ≤ 601024 ∧ n + 6 ≤ 7293034)
    (cont : ∀ (k2 n2 : Nat) (F2 : Nat → PE) (t5 t6 t7 t8 : Option Value), k2 ≤ k + 1 → n2 ≤ n + 6 → LI LX F2 K m a q c o → ZZ k2 n2 2079 [some (.ref b), some (.ref (K 0)), some (.ref m), some (.ref o), some (.int (iI i)), t5, t6, t7, t8] [] (LX ++ [m, a, q, c, o]) F2) :
    ZZ k n 974 [some (.ref b), some (.ref (K 0)), some (.ref m), some (.ref o), some (.int (iI i)), s5, s6, s7, s8] [] (LX ++ [m, a, q, c, o]) F := by
  obtain ⟨g, kd, sv, kp, nn, bf, th, pt, tm, sg, u, dgt, mot, hu⟩ := hI
  have fx := dr.fx dgt
  have rg := fx.1.1
  obtain ⟨hd9, oM, oA, oQ, oC⟩ := hL
  have hv := (dr.fx (dg.pre dgt)).1
  have y1 := hok (i + 1)
  have y2 := hok (i + 2)
  have oin : o ∈ [m, a, q, c, o] := by simp
  have hd5 : ∀ b, b ∈ LX → b ≠ o := fun b hb => (hd9 b hb).2.2.2.2
  have mM : m ∈ [m, a, q, c, o] := by simp
  have aM : a ∈ [m, a, q, c, o] := by simp
  have qM : q ∈ [m, a, q, c, o] := by simp
  have cM : c ∈ [m, a, q, c, o] := by simp
  refine zq_aload_n1 hZ dL_law_974 ?_
  refine zq_aload_n3 hZ dL_law_975 ?_
  refine zq_cSh hZ hΦ (As := [_, _]) rfl dL_law_976 ml_L_180 wy_L_yankOther (m_L_yankOther l (M := [m, a, q, c, o]) hfl (dg.pre dgt) oin hd5 hu) ⟨Nat.le_of_ble_eq_true rfl, Nat.le_of_ble_eq_true rfl⟩ ⟨by show k + 1 ≤ 601024; omega, by show n + 6 ≤ 7293034; omega⟩ (Nat.le_of_ble_eq_true rfl) (fun v9 L9 F9 hp => ?_)
  obtain ⟨rfl, fM, u1, hu1, hX⟩ := hp
  obtain ⟨kk, rfl, hY⟩ : ∃ kk, v9 = some (.int (iI kk)) ∧ ((kk = 0 ∧ dOk 14 kd (cpy g 0 9) ∧ u1 0 = dAn 14 (cpy g 0 9) ∧ dr LX F9 K (dTo 14 0 kd (cpy g 0 9)) (dKn 14) (hN sv) (hS sv (sH g) (cpy g 0 9)) kp (sQ g) nn bf) ∨ (kk = 1 ∧ ¬ dOk 14 kd (cpy g 0 9) ∧ dr LX F9 K (cpy g 0 9) kd sv (sH g) kp (sQ g) nn bf)) := by
    rcases hX with ⟨x1, x2, x3, x4⟩ | ⟨x1, x2, x4⟩
    · exact ⟨0, x2, Or.inl ⟨rfl, x1, x3, x4⟩⟩
    · exact ⟨1, x2, Or.inr ⟨rfl, x1, x4⟩⟩
  have mot9 := mo.mv (F1 := F9) mot (fM m mM (Ne.symm oM)) (fM a aM (Ne.symm oA)) (fM q qM (Ne.symm oQ)) (fM c cM (Ne.symm oC))
  refine zq_istore5 hZ dL_law_979 (by decide) rfl ?_
  refine zq_aload_n2 hZ dL_law_981 ?_
  refine zq_cV hZ (As := []) rfl dL_law_982 ml_L_182 wy_X8_yankOther (m_X8_yankOther l mot9 hv fx.2.1) (List.mem_append_right _ mM) mot9.2.1 rfl ⟨Nat.le_of_ble_eq_true rfl, Nat.le_of_ble_eq_true rfl⟩ ⟨by show k + 1 + 0 ≤ 601024; omega, by show n + 6 + 0 ≤ 7293034; omega⟩ (Nat.le_of_ble_eq_true rfl) (fun _ _ _ h => h.elim) (fun v9 L2 F2 hp => ?_)
  obtain ⟨rfl, fr, hM⟩ := hp
  obtain ⟨bv, rfl, hN9⟩ : ∃ bv, v9 = some (.int (iI bv)) ∧ ((dOk 14 kd (cpy g 0 9) ∧ bv = dAn 14 (cpy g 0 9) ∧ ∃ h, svP 9 sv (dTo 14 0 kd (cpy g 0 9)) h ∧ mo (LX ++ [m, a, q, c, o]) F2 m a q c h (hN sv) 0 (dKn 14) nn pt tm sg kp bf) ∨ (¬ dOk 14 kd (cpy g 0 9) ∧ bv = 0 ∧ mo (LX ++ [m, a, q, c, o]) F2 m a q c (cpy (cpy g 0 9) 9 0) sv 1 kd nn pt tm sg kp bf)) := by
    rcases hM with ⟨x1, x2, x3⟩ | ⟨x1, x2, x3⟩
    · exact ⟨_, x2, Or.inl ⟨x1, rfl, x3⟩⟩
    · exact ⟨0, x2, Or.inr ⟨x1, rfl, x3⟩⟩
  have fin : ∃ g2 kd2 sv2 kp2 n2 bf2 pt2 tm2 sg2, dg LX F2 K g2 kd2 sv2 kp2 n2 bf2 ∧ mo (LX ++ [m, a, q, c, o]) F2 m a q c g2 sv2 kk kd2 n2 pt2 tm2 sg2 kp2 bf2 ∧ (kk = 0 → u1 0 = bv) ∧ (0 ≤ kk ∧ kk ≤ 2) ∧ (-2147483648 ≤ bv ∧ bv ≤ 2147483647) := by
    have e2 : ∀ b, b ∈ LX → F2 b = F9 b := fun b hb => fr b (hd9 b hb).1 (hd9 b hb).2.1 (hd9 b hb).2.2.1 (hd9 b hb).2.2.2.1
    rcases hY with ⟨rfl, x1, x2, x3⟩ | ⟨rfl, x1, x3⟩
    · rcases hN9 with ⟨z1, rfl, h, z2, z3⟩ | ⟨z1, rfl, z3⟩
      · have rr := dAn_rg (d := 14) hv (by decide) x1
        exact ⟨_, _, _, _, _, _, _, _, _, dg.rem fx.2.1 (dr.mv x3 e2) (fun z hz => dTo_hi hv (by decide) x1 hz) z2, z3, fun _ => x2, by omega, by omega⟩
      · exact absurd x1 z1
    · rcases hN9 with ⟨z1, rfl, h, z2, z3⟩ | ⟨z1, rfl, z3⟩
      · exact absurd z1 x1
      · exact ⟨_, _, _, _, _, _, _, _, _, dg.eq (dg.un (dr.mv x3 e2)) bk9, z3, fun w => absurd w (by decide), by omega, by omega⟩
  obtain ⟨g2, kd2, sv2, kp2, n2, bf2, pt2, tm2, sg2, dg2, mo2, hval, hkk, hbv⟩ := fin
  have ho2 : F2 o = eL 1 u1 := (fr o oM oA oQ oC).trans hu1
  have fins : LI LX F2 K m a q c o := ⟨g2, kd2, sv2, kp2, n2, bf2, kk, pt2, tm2, sg2, u1, dg2, mo2, ho2⟩
  refine zq_istore6 hZ dL_law_985 (by decide) rfl ?_
  refine zq_aload_n2 hZ dL_law_987 ?_
  refine zq_cV hZ (As := []) rfl dL_law_988 ml_L_116 wy_X8_thrown (m_X8_thrown l mo2) (List.mem_append_right _ mM) mo2.2.1 rfl ⟨Nat.le_of_ble_eq_true rfl, Nat.le_of_ble_eq_true rfl⟩ ⟨by show k + 1 + 0 + 0 ≤ 601024; omega, by show n + 6 + 0 + 0 ≤ 7293034; omega⟩ (Nat.le_of_ble_eq_true rfl) (fun _ _ _ h => h.elim) (fun v9 L3 F3 hp => ?_)
  obtain ⟨rfl, rfl, rfl⟩ := hp
  refine zq_iload5 hZ dL_law_991 ?_
  refine zq_icmp_eq hZ (tgt := 998) dL_law_993 rfl (by omega) (fun _ => ?_) (fun hne => absurd rfl hne)
  refine zq_iload5 hZ dL_law_998 ?_
  have done : ∀ t5 t6 t7 t8, ZZ _ _ 1015 [some (.ref b), some (.ref (K 0)), some (.ref m), some (.ref o), some (.int (iI i)), t5, t6, t7, t8] [] (LX ++ [m, a, q, c, o]) F2 := fun t5 t6 t7 t8 => zq_goto hZ (tgt := 2079) dL_law_1015 rfl (cont (k + 1 + 0 + 0) (n + 6 + 0 + 0) F2 t5 t6 t7 t8 (by omega) (by omega) fins)
  refine zq_if_ne hZ (tgt := 1015) dL_law_1000 rfl (by omega) (fun _ => done _ _ _ _) (fun hk0 => ?_)
  refine zq_aload_n3 hZ dL_law_1003 ?_
  refine zq_iconst hZ dL_law_1004 ?_
  refine zq_laload hZ dL_law_1005 (List.mem_append_right _ oin) ho2 ⟨by omega, by omega, by omega⟩ ?_
  refine zq_iload6 hZ dL_law_1006 ?_
  refine zq_i2l hZ dL_law_1008 hbv ?_
  rw [hval hk0]
  refine zq_lcmp hZ dL_law_1009 ?_
  exact zq_if_eq_raw hZ (tgt := 1015) dL_law_1010 rfl (fun _ => done _ _ _ _) (fun hne => absurd ((lg_cmp_eq _ _).mpr rfl) hne)
set_option maxRecDepth 100000 in
set_option maxHeartbeats 4000000 in
theorem lc_20 (l : Launch) (hfl : l.flags = flags0) {ZZ : ZT} {tbl : List ExceptionTableEntry} {nm ds : String} {Φ : State → Prop} {post : Option Value → List Nat → (Nat → PE) → Prop} {xp : String → List Nat → (Nat → PE) → Prop} (hZ : ZZ = Zq Φ tbl l ⟨"DragonRingLaw", nm, ds⟩ cL_law 9 (some .boolean) room_1 [] post xp) (hΦ : ∀ s, Φ s → va_Nc xS xA s) {b Ls : Nat} {sx : Int → Int} (hsx : ∀ s, Φ s → va_X b Ls (fun j => iI (sx (j : Int))) s s.heap ∧ b < s.heap.size) (hok : ∀ j, -2147483648 ≤ sx j ∧ sx j ≤ 2147483647) {LX : List Nat} {F : Nat → PE} {K : Nat → Nat} {m a q c o : Nat} {i : Int} {k n : Nat} {s5 s6 s7 s8 : Option Value} (hL : LSx LX m a q c o) (hI : LI LX F K m a q c o) (hi : 0 ≤ i ∧ i + 2 < Ls ∧ Ls ≤ 1536) (hk : k + 1 ≤ 601024 ∧ n + 6 ≤ 7293034)
    (cont : ∀ (k2 n2 : Nat) (F2 : Nat → PE) (t5 t6 t7 t8 : Option Value), k2 ≤ k + 1 → n2 ≤ n + 6 → LI LX F2 K m a q c o → ZZ k2 n2 2079 [some (.ref b), some (.ref (K 0)), some (.ref m), some (.ref o), some (.int (iI i)), t5, t6, t7, t8] [] (LX ++ [m, a, q, c, o]) F2) :
    ZZ k n 1018 [some (.ref b), some (.ref (K 0)), some (.ref m), some (.ref o), some (.int (iI i)), s5, s6, s7, s8] [] (LX ++ [m, a, q, c, o]) F := by
  obtain ⟨g, kd, sv, kp, nn, bf, th, pt, tm, sg, u, dgt, mot, hu⟩ := hI
  have fx := dr.fx dgt
  have rg := fx.1.1
  obtain ⟨hd9, oM, oA, oQ, oC⟩ := hL
  have hv := (dr.fx (dg.pre dgt)).1
  have y1 := hok (i + 1)
  have y2 := hok (i + 2)
  have oin : o ∈ [m, a, q, c, o] := by simp
  have hd5 : ∀ b, b ∈ LX → b ≠ o := fun b hb => (hd9 b hb).2.2.2.2
  have mM : m ∈ [m, a, q, c, o] := by simp
  have aM : a ∈ [m, a, q, c, o] := by simp
  have qM : q ∈ [m, a, q, c, o] := by simp
  have cM : c ∈ [m, a, q, c, o] := by simp
  refine zq_aload_n1 hZ dL_law_1018 ?_
  refine zq_aload_n0 hZ dL_law_1019 ?_
  refine zq_iload4 hZ dL_law_1020 ?_
  refine zq_iconst hZ dL_law_1022 ?_
  refine zq_iadd hZ dL_law_1023 ?_
  refine zq_sld hZ hsx rfl dL_law_1024 (by omega) ?_
  refine zq_aload_n3 hZ dL_law_1025 ?_
  refine zq_cSh hZ hΦ (As := [_, _, _]) rfl dL_law_1026 ml_L_183 wy_L_turn (m_L_turn l (M := [m, a, q, c, o]) hfl (dgt) oin hd5 hu y1) ⟨Nat.le_of_ble_eq_true rfl, Nat.le_of_ble_eq_true rfl⟩ ⟨by show k + 1 ≤ 601024; omega, by show n + 6 ≤ 7293034; omega⟩ (Nat.le_of_ble_eq_true rfl) (fun v9 L9 F9 hp => ?_)
  obtain ⟨rfl, fM, u1, hu1, hX⟩ := hp
  obtain ⟨kk, rfl, hY⟩ : ∃ kk, v9 = some (.int (iI kk)) ∧ ((kk = 0 ∧ (-20 ≤ (sx (i + 1)) ∧ (sx (i + 1)) ≤ 20) ∧ 0 < g 3 ∧ u1 0 = trA (sx (i + 1)) g ∧ dr LX F9 K (vTr (sx (i + 1)) g) 0 (hN sv) (hS sv (sH g) g) kp (sQ g) nn bf) ∨ (kk = 1 ∧ ¬ (-20 ≤ (sx (i + 1)) ∧ (sx (i + 1)) ≤ 20) ∧ dr LX F9 K g kd sv (sH g) kp (sQ g) nn bf) ∨ (kk = 2 ∧ (-20 ≤ (sx (i + 1)) ∧ (sx (i + 1)) ≤ 20) ∧ ¬ 0 < g 3 ∧ dr LX F9 K g kd sv (sH g) kp (sQ g) nn bf)) := by
    rcases hX with ⟨x1, x2, x3, x4, x5⟩ | ⟨x1, x2, x3⟩ | ⟨x1, x2, x3, x4⟩
    · exact ⟨0, x3, Or.inl ⟨rfl, x1, x2, x4, x5⟩⟩
    · exact ⟨1, x2, Or.inr (Or.inl ⟨rfl, x1, x3⟩)⟩
    · exact ⟨2, x3, Or.inr (Or.inr ⟨rfl, x1, x2, x4⟩)⟩
  have mot9 := mo.mv (F1 := F9) mot (fM m mM (Ne.symm oM)) (fM a aM (Ne.symm oA)) (fM q qM (Ne.symm oQ)) (fM c cM (Ne.symm oC))
  refine zq_istore5 hZ dL_law_1029 (by decide) rfl ?_
  refine zq_aload_n2 hZ dL_law_1031 ?_
  refine zq_aload_n0 hZ dL_law_1032 ?_
  refine zq_iload4 hZ dL_law_1033 ?_
  refine zq_iconst hZ dL_law_1035 ?_
  refine zq_iadd hZ dL_law_1036 ?_
  refine zq_sld hZ hsx rfl dL_law_1037 (by omega) ?_
  refine zq_cV hZ (As := [_]) rfl dL_law_1038 ml_L_185 wy_X8_turn (m_X8_turn l mot9 fx.1 fx.2.1 y1) (List.mem_append_right _ mM) mot9.2.1 rfl ⟨Nat.le_of_ble_eq_true rfl, Nat.le_of_ble_eq_true rfl⟩ ⟨by show k + 1 + 0 ≤ 601024; omega, by show n + 6 + 0 ≤ 7293034; omega⟩ (Nat.le_of_ble_eq_true rfl) (fun _ _ _ h => h.elim) (fun v9 L2 F2 hp => ?_)
  obtain ⟨rfl, fr, hM⟩ := hp
  obtain ⟨bv, rfl, hN9⟩ : ∃ bv, v9 = some (.int (iI bv)) ∧ (((-20 ≤ (sx (i + 1)) ∧ (sx (i + 1)) ≤ 20) ∧ 0 < g 3 ∧ bv = trA (sx (i + 1)) g ∧ ∃ h, svP 0 sv g h ∧ mo (LX ++ [m, a, q, c, o]) F2 m a q c (vTr (sx (i + 1)) h) (hN sv) 0 0 nn pt tm sg kp bf) ∨ (¬ (-20 ≤ (sx (i + 1)) ∧ (sx (i + 1)) ≤ 20) ∧ bv = 0 ∧ mo (LX ++ [m, a, q, c, o]) F2 m a q c g sv 1 kd nn pt tm sg kp bf) ∨ ((-20 ≤ (sx (i + 1)) ∧ (sx (i + 1)) ≤ 20) ∧ ¬ 0 < g 3 ∧ bv = 0 ∧ mo (LX ++ [m, a, q, c, o]) F2 m a q c g sv 2 kd nn pt tm sg kp bf)) := by
    rcases hM with ⟨x1, x2, x3, x4⟩ | ⟨x1, x2, x3⟩ | ⟨x1, x2, x3, x4⟩
    · exact ⟨_, x3, Or.inl ⟨x1, x2, rfl, x4⟩⟩
    · exact ⟨0, x2, Or.inr (Or.inl ⟨x1, rfl, x3⟩)⟩
    · exact ⟨0, x3, Or.inr (Or.inr ⟨x1, x2, rfl, x4⟩)⟩
  have fin : ∃ g2 kd2 sv2 kp2 n2 bf2 pt2 tm2 sg2, dg LX F2 K g2 kd2 sv2 kp2 n2 bf2 ∧ mo (LX ++ [m, a, q, c, o]) F2 m a q c g2 sv2 kk kd2 n2 pt2 tm2 sg2 kp2 bf2 ∧ (kk = 0 → u1 0 = bv) ∧ (0 ≤ kk ∧ kk ≤ 2) ∧ (-2147483648 ≤ bv ∧ bv ≤ 2147483647) := by
    have e2 : ∀ b, b ∈ LX → F2 b = F9 b := fun b hb => fr b (hd9 b hb).1 (hd9 b hb).2.1 (hd9 b hb).2.2.1 (hd9 b hb).2.2.2.1
    rcases hY with ⟨rfl, x1, x2, x3, x4⟩ | ⟨rfl, x1, x3⟩ | ⟨rfl, x1, x2, x3⟩
    · rcases hN9 with ⟨z1, z2, rfl, h, z3, z4⟩ | ⟨z1, rfl, z3⟩ | ⟨z1, z2, rfl, z3⟩
      · have ha : ag g h := fun w w0 w1 => (z3.1 w w0 w1).symm
        exact ⟨_, _, _, _, _, _, _, _, _, dg.sav fx.2.1 (dr.mv x4 e2) z3 (fun z hz => hi_tr hz) (ag_tr ha), z4, fun _ => x3, by omega, by have := trA_rg (z := (sx (i + 1))) (v := g) x2; omega⟩
      · exact absurd x1 z1
      · exact absurd x2 z2
    · rcases hN9 with ⟨z1, z2, rfl, h, z3, z4⟩ | ⟨z1, rfl, z3⟩ | ⟨z1, z2, rfl, z3⟩
      · exact absurd z1 x1
      · exact ⟨_, _, _, _, _, _, _, _, _, dr.mv x3 e2, z3, fun w => absurd w (by decide), by omega, by omega⟩
      · exact absurd z1 x1
    · rcases hN9 with ⟨z1, z2, rfl, h, z3, z4⟩ | ⟨z1, rfl, z3⟩ | ⟨z1, z2, rfl, z3⟩
      · exact absurd z2 x2
      · exact absurd x1 z1
      · exact ⟨_, _, _, _, _, _, _, _, _, dr.mv x3 e2, z3, fun w => absurd w (by decide), by omega, by omega⟩
  obtain ⟨g2, kd2, sv2, kp2, n2, bf2, pt2, tm2, sg2, dg2, mo2, hval, hkk, hbv⟩ := fin
  have ho2 : F2 o = eL 1 u1 := (fr o oM oA oQ oC).trans hu1
  have fins : LI LX F2 K m a q c o := ⟨g2, kd2, sv2, kp2, n2, bf2, kk, pt2, tm2, sg2, u1, dg2, mo2, ho2⟩
  refine zq_istore6 hZ dL_law_1041 (by decide) rfl ?_
  refine zq_aload_n2 hZ dL_law_1043 ?_
  refine zq_cV hZ (As := []) rfl dL_law_1044 ml_L_116 wy_X8_thrown (m_X8_thrown l mo2) (List.mem_append_right _ mM) mo2.2.1 rfl ⟨Nat.le_of_ble_eq_true rfl, Nat.le_of_ble_eq_true rfl⟩ ⟨by show k + 1 + 0 + 0 ≤ 601024; omega, by show n + 6 + 0 + 0 ≤ 7293034; omega⟩ (Nat.le_of_ble_eq_true rfl) (fun _ _ _ h => h.elim) (fun v9 L3 F3 hp => ?_)
  obtain ⟨rfl, rfl, rfl⟩ := hp
  refine zq_iload5 hZ dL_law_1047 ?_
  refine zq_icmp_eq hZ (tgt := 1054) dL_law_1049 rfl (by omega) (fun _ => ?_) (fun hne => absurd rfl hne)
  refine zq_iload5 hZ dL_law_1054 ?_
  have done : ∀ t5 t6 t7 t8, ZZ _ _ 1071 [some (.ref b), some (.ref (K 0)), some (.ref m), some (.ref o), some (.int (iI i)), t5, t6, t7, t8] [] (LX ++ [m, a, q, c, o]) F2 := fun t5 t6 t7 t8 => zq_goto hZ (tgt := 2079) dL_law_1071 rfl (cont (k + 1 + 0 + 0) (n + 6 + 0 + 0) F2 t5 t6 t7 t8 (by omega) (by omega) fins)
  refine zq_if_ne hZ (tgt := 1071) dL_law_1056 rfl (by omega) (fun _ => done _ _ _ _) (fun hk0 => ?_)
  refine zq_aload_n3 hZ dL_law_1059 ?_
  refine zq_iconst hZ dL_law_1060 ?_
  refine zq_laload hZ dL_law_1061 (List.mem_append_right _ oin) ho2 ⟨by omega, by omega, by omega⟩ ?_
  refine zq_iload6 hZ dL_law_1062 ?_
  refine zq_i2l hZ dL_law_1064 hbv ?_
  rw [hval hk0]
  refine zq_lcmp hZ dL_law_1065 ?_
  exact zq_if_eq_raw hZ (tgt := 1071) dL_law_1066 rfl (fun _ => done _ _ _ _) (fun hne => absurd ((lg_cmp_eq _ _).mpr rfl) hne)
set_option maxRecDepth 100000 in
set_option maxHeartbeats 4000000 in
theorem lc_21 (l : Launch) (hfl : l.flags = flags0) {ZZ : ZT} {tbl : List ExceptionTableEntry} {nm ds : String} {Φ : State → Prop} {post : Option Value → List Nat → (Nat → PE) → Prop} {xp : String → List Nat → (Nat → PE) → Prop} (hZ : ZZ = Zq Φ tbl l ⟨"DragonRingLaw", nm, ds⟩ cL_law 9 (some .boolean) room_1 [] post xp) (hΦ : ∀ s, Φ s → va_Nc xS xA s) {b Ls : Nat} {sx : Int → Int} (hsx : ∀ s, Φ s → va_X b Ls (fun j => iI (sx (j : Int))) s s.heap ∧ b < s.heap.size) (hok : ∀ j, -2147483648 ≤ sx j ∧ sx j ≤ 2147483647) {LX : List Nat} {F : Nat → PE} {K : Nat → Nat} {m a q c o : Nat} {i : Int} {k n : Nat} {s5 s6 s7 s8 : Option Value} (hL : LSx LX m a q c o) (hI : LI LX F K m a q c o) (hi : 0 ≤ i ∧ i + 2 < Ls ∧ Ls ≤ 1536) (hk : k + 1 ≤ 601024 ∧ n + 6 ≤ 7293034)
    (cont : ∀ (k2 n2 : Nat) (F2 : Nat → PE) (t5 t6 t7 t8 : Option Value), k2 ≤ k + 1 → n2 ≤ n + 6 → LI LX F2 K m a q c o → ZZ k2 n2 2079 [some (.ref b), some (.ref (K 0)), some (.ref m), some (.ref o), some (.int (iI i)), t5, t6, t7, t8] [] (LX ++ [m, a, q, c, o]) F2) :
    ZZ k n 1074 [some (.ref b), some (.ref (K 0)), some (.ref m), some (.ref o), some (.int (iI i)), s5, s6, s7, s8] [] (LX ++ [m, a, q, c, o]) F := by
  obtain ⟨g, kd, sv, kp, nn, bf, th, pt, tm, sg, u, dgt, mot, hu⟩ := hI
  have fx := dr.fx dgt
  have rg := fx.1.1
  obtain ⟨hd9, oM, oA, oQ, oC⟩ := hL
  have hv := (dr.fx (dg.pre dgt)).1
  have y1 := hok (i + 1)
  have y2 := hok (i + 2)
  have oin : o ∈ [m, a, q, c, o] := by simp
  have hd5 : ∀ b, b ∈ LX → b ≠ o := fun b hb => (hd9 b hb).2.2.2.2
  have mM : m ∈ [m, a, q, c, o] := by simp
  have aM : a ∈ [m, a, q, c, o] := by simp
  have qM : q ∈ [m, a, q, c, o] := by simp
  have cM : c ∈ [m, a, q, c, o] := by simp
  refine zq_aload_n1 hZ dL_law_1074 ?_
  refine zq_aload_n0 hZ dL_law_1075 ?_
  refine zq_iload4 hZ dL_law_1076 ?_
  refine zq_iconst hZ dL_law_1078 ?_
  refine zq_iadd hZ dL_law_1079 ?_
  refine zq_sld hZ hsx rfl dL_law_1080 (by omega) ?_
  refine zq_aload_n3 hZ dL_law_1081 ?_
  refine zq_cSh hZ hΦ (As := [_, _, _]) rfl dL_law_1082 ml_L_186 wy_L_changeCaves (m_L_changeCaves l (M := [m, a, q, c, o]) hfl (dgt) oin hd5 hu y1) ⟨Nat.le_of_ble_eq_true rfl, Nat.le_of_ble_eq_true rfl⟩ ⟨by show k + 1 ≤ 601024; omega, by show n + 6 ≤ 7293034; omega⟩ (Nat.le_of_ble_eq_true rfl) (fun v9 L9 F9 hp => ?_)
  obtain ⟨rfl, fM, u1, hu1, hX⟩ := hp
  obtain ⟨kk, rfl, hY⟩ : ∃ kk, v9 = some (.int (iI kk)) ∧ ((kk = 0 ∧ (1 ≤ (sx (i + 1)) ∧ (sx (i + 1)) ≤ 8) ∧ True ∧ u1 0 = g 5 ∧ dr LX F9 K (vCC (sx (i + 1)) g) 0 (hN sv) (hS sv (sH g) g) kp (sQ g) nn bf) ∨ (kk = 1 ∧ ¬ (1 ≤ (sx (i + 1)) ∧ (sx (i + 1)) ≤ 8) ∧ dr LX F9 K g kd sv (sH g) kp (sQ g) nn bf) ∨ (kk = 2 ∧ (1 ≤ (sx (i + 1)) ∧ (sx (i + 1)) ≤ 8) ∧ ¬ True ∧ dr LX F9 K g kd sv (sH g) kp (sQ g) nn bf)) := by
    rcases hX with ⟨x1, x2, x3, x4, x5⟩ | ⟨x1, x2, x3⟩ | ⟨x1, x2, x3, x4⟩
    · exact ⟨0, x3, Or.inl ⟨rfl, x1, x2, x4, x5⟩⟩
    · exact ⟨1, x2, Or.inr (Or.inl ⟨rfl, x1, x3⟩)⟩
    · exact ⟨2, x3, Or.inr (Or.inr ⟨rfl, x1, x2, x4⟩)⟩
  have mot9 := mo.mv (F1 := F9) mot (fM m mM (Ne.symm oM)) (fM a aM (Ne.symm oA)) (fM q qM (Ne.symm oQ)) (fM c cM (Ne.symm oC))
  refine zq_istore5 hZ dL_law_1085 (by decide) rfl ?_
  refine zq_aload_n2 hZ dL_law_1087 ?_
  refine zq_aload_n0 hZ dL_law_1088 ?_
  refine zq_iload4 hZ dL_law_1089 ?_
  refine zq_iconst hZ dL_law_1091 ?_
  refine zq_iadd hZ dL_law_1092 ?_
  refine zq_sld hZ hsx rfl dL_law_1093 (by omega) ?_
  refine zq_cV hZ (As := [_]) rfl dL_law_1094 ml_L_188 wy_X8_changeCaves (m_X8_changeCaves l mot9 fx.1 fx.2.1 y1) (List.mem_append_right _ mM) mot9.2.1 rfl ⟨Nat.le_of_ble_eq_true rfl, Nat.le_of_ble_eq_true rfl⟩ ⟨by show k + 1 + 0 ≤ 601024; omega, by show n + 6 + 0 ≤ 7293034; omega⟩ (Nat.le_of_ble_eq_true rfl) (fun _ _ _ h => h.elim) (fun v9 L2 F2 hp => ?_)
  obtain ⟨rfl, fr, hM⟩ := hp
  obtain ⟨bv, rfl, hN9⟩ : ∃ bv, v9 = some (.int (iI bv)) ∧ (((1 ≤ (sx (i + 1)) ∧ (sx (i + 1)) ≤ 8) ∧ True ∧ bv = g 5 ∧ ∃ h, svP 0 sv g h ∧ mo (LX ++ [m, a, q, c, o]) F2 m a q c (vCC (sx (i + 1)) h) (hN sv) 0 0 nn pt tm sg kp bf) ∨ (¬ (1 ≤ (sx (i + 1)) ∧ (sx (i + 1)) ≤ 8) ∧ bv = 0 ∧ mo (LX ++ [m, a, q, c, o]) F2 m a q c g sv 1 kd nn pt tm sg kp bf) ∨ ((1 ≤ (sx (i + 1)) ∧ (sx (i + 1)) ≤ 8) ∧ ¬ True ∧ bv = 0 ∧ mo (LX ++ [m, a, q, c, o]) F2 m a q c g sv 2 kd nn pt tm sg kp bf)) := by
    rcases hM with ⟨x1, x2, x3, x4⟩ | ⟨x1, x2, x3⟩ | ⟨x1, x2, x3, x4⟩
    · exact ⟨_, x3, Or.inl ⟨x1, x2, rfl, x4⟩⟩
    · exact ⟨0, x2, Or.inr (Or.inl ⟨x1, rfl, x3⟩)⟩
    · exact ⟨0, x3, Or.inr (Or.inr ⟨x1, x2, rfl, x4⟩)⟩
  have fin : ∃ g2 kd2 sv2 kp2 n2 bf2 pt2 tm2 sg2, dg LX F2 K g2 kd2 sv2 kp2 n2 bf2 ∧ mo (LX ++ [m, a, q, c, o]) F2 m a q c g2 sv2 kk kd2 n2 pt2 tm2 sg2 kp2 bf2 ∧ (kk = 0 → u1 0 = bv) ∧ (0 ≤ kk ∧ kk ≤ 2) ∧ (-2147483648 ≤ bv ∧ bv ≤ 2147483647) := by
    have e2 : ∀ b, b ∈ LX → F2 b = F9 b := fun b hb => fr b (hd9 b hb).1 (hd9 b hb).2.1 (hd9 b hb).2.2.1 (hd9 b hb).2.2.2.1
    rcases hY with ⟨rfl, x1, x2, x3, x4⟩ | ⟨rfl, x1, x3⟩ | ⟨rfl, x1, x2, x3⟩
    · rcases hN9 with ⟨z1, z2, rfl, h, z3, z4⟩ | ⟨z1, rfl, z3⟩ | ⟨z1, z2, rfl, z3⟩
      · have ha : ag g h := fun w w0 w1 => (z3.1 w w0 w1).symm
        exact ⟨_, _, _, _, _, _, _, _, _, dg.sav fx.2.1 (dr.mv x4 e2) z3 (fun z hz => hi_cc hz) (ag_cc ha), z4, fun _ => x3, by omega, by omega⟩
      · exact absurd x1 z1
      · exact absurd x2 z2
    · rcases hN9 with ⟨z1, z2, rfl, h, z3, z4⟩ | ⟨z1, rfl, z3⟩ | ⟨z1, z2, rfl, z3⟩
      · exact absurd z1 x1
      · exact ⟨_, _, _, _, _, _, _, _, _, dr.mv x3 e2, z3, fun w => absurd w (by decide), by omega, by omega⟩
      · exact absurd z1 x1
    · rcases hN9 with ⟨z1, z2, rfl, h, z3, z4⟩ | ⟨z1, rfl, z3⟩ | ⟨z1, z2, rfl, z3⟩
      · exact absurd z2 x2
      · exact absurd x1 z1
      · exact ⟨_, _, _, _, _, _, _, _, _, dr.mv x3 e2, z3, fun w => absurd w (by decide), by omega, by omega⟩
  obtain ⟨g2, kd2, sv2, kp2, n2, bf2, pt2, tm2, sg2, dg2, mo2, hval, hkk, hbv⟩ := fin
  have ho2 : F2 o = eL 1 u1 := (fr o oM oA oQ oC).trans hu1
  have fins : LI LX F2 K m a q c o := ⟨g2, kd2, sv2, kp2, n2, bf2, kk, pt2, tm2, sg2, u1, dg2, mo2, ho2⟩
  refine zq_istore6 hZ dL_law_1097 (by decide) rfl ?_
  refine zq_aload_n2 hZ dL_law_1099 ?_
  refine zq_cV hZ (As := []) rfl dL_law_1100 ml_L_116 wy_X8_thrown (m_X8_thrown l mo2) (List.mem_append_right _ mM) mo2.2.1 rfl ⟨Nat.le_of_ble_eq_true rfl, Nat.le_of_ble_eq_true rfl⟩ ⟨by show k + 1 + 0 + 0 ≤ 601024; omega, by show n + 6 + 0 + 0 ≤ 7293034; omega⟩ (Nat.le_of_ble_eq_true rfl) (fun _ _ _ h => h.elim) (fun v9 L3 F3 hp => ?_)
  obtain ⟨rfl, rfl, rfl⟩ := hp
  refine zq_iload5 hZ dL_law_1103 ?_
  refine zq_icmp_eq hZ (tgt := 1110) dL_law_1105 rfl (by omega) (fun _ => ?_) (fun hne => absurd rfl hne)
  refine zq_iload5 hZ dL_law_1110 ?_
  have done : ∀ t5 t6 t7 t8, ZZ _ _ 1127 [some (.ref b), some (.ref (K 0)), some (.ref m), some (.ref o), some (.int (iI i)), t5, t6, t7, t8] [] (LX ++ [m, a, q, c, o]) F2 := fun t5 t6 t7 t8 => zq_goto hZ (tgt := 2079) dL_law_1127 rfl (cont (k + 1 + 0 + 0) (n + 6 + 0 + 0) F2 t5 t6 t7 t8 (by omega) (by omega) fins)
  refine zq_if_ne hZ (tgt := 1127) dL_law_1112 rfl (by omega) (fun _ => done _ _ _ _) (fun hk0 => ?_)
  refine zq_aload_n3 hZ dL_law_1115 ?_
  refine zq_iconst hZ dL_law_1116 ?_
  refine zq_laload hZ dL_law_1117 (List.mem_append_right _ oin) ho2 ⟨by omega, by omega, by omega⟩ ?_
  refine zq_iload6 hZ dL_law_1118 ?_
  refine zq_i2l hZ dL_law_1120 hbv ?_
  rw [hval hk0]
  refine zq_lcmp hZ dL_law_1121 ?_
  exact zq_if_eq_raw hZ (tgt := 1127) dL_law_1122 rfl (fun _ => done _ _ _ _) (fun hne => absurd ((lg_cmp_eq _ _).mpr rfl) hne)
set_option maxRecDepth 100000 in
set_option maxHeartbeats 4000000 in
theorem lc_22 (l : Launch) (hfl : l.flags = flags0) {ZZ : ZT} {tbl : List ExceptionTableEntry} {nm ds : String} {Φ : State → Prop} {post : Option Value → List Nat → (Nat → PE) → Prop} {xp : String → List Nat → (Nat → PE) → Prop} (hZ : ZZ = Zq Φ tbl l ⟨"DragonRingLaw", nm, ds⟩ cL_law 9 (some .boolean) room_1 [] post xp) (hΦ : ∀ s, Φ s → va_Nc xS xA s) {b Ls : Nat} {sx : Int → Int} (hsx : ∀ s, Φ s → va_X b Ls (fun j => iI (sx (j : Int))) s s.heap ∧ b < s.heap.size) (hok : ∀ j, -2147483648 ≤ sx j ∧ sx j ≤ 2147483647) {LX : List Nat} {F : Nat → PE} {K : Nat → Nat} {m a q c o : Nat} {i : Int} {k n : Nat} {s5 s6 s7 s8 : Option Value} (hL : LSx LX m a q c o) (hI : LI LX F K m a q c o) (hi : 0 ≤ i ∧ i + 2 < Ls ∧ Ls ≤ 1536) (hk : k + 1 ≤ 601024 ∧ n + 6 ≤ 7293034)
    (cont : ∀ (k2 n2 : Nat) (F2 : Nat → PE) (t5 t6 t7 t8 : Option Value), k2 ≤ k + 1 → n2 ≤ n + 6 → LI LX F2 K m a q c o → ZZ k2 n2 2079 [some (.ref b), some (.ref (K 0)), some (.ref m), some (.ref o), some (.int (iI i)), t5, t6, t7, t8] [] (LX ++ [m, a, q, c, o]) F2) :
    ZZ k n 1130 [some (.ref b), some (.ref (K 0)), some (.ref m), some (.ref o), some (.int (iI i)), s5, s6, s7, s8] [] (LX ++ [m, a, q, c, o]) F := by
  obtain ⟨g, kd, sv, kp, nn, bf, th, pt, tm, sg, u, dgt, mot, hu⟩ := hI
  have fx := dr.fx dgt
  have rg := fx.1.1
  obtain ⟨hd9, oM, oA, oQ, oC⟩ := hL
  have hv := (dr.fx (dg.pre dgt)).1
  have y1 := hok (i + 1)
  have y2 := hok (i + 2)
  have oin : o ∈ [m, a, q, c, o] := by simp
  have hd5 : ∀ b, b ∈ LX → b ≠ o := fun b hb => (hd9 b hb).2.2.2.2
  have mM : m ∈ [m, a, q, c, o] := by simp
  have aM : a ∈ [m, a, q, c, o] := by simp
  have qM : q ∈ [m, a, q, c, o] := by simp
  have cM : c ∈ [m, a, q, c, o] := by simp
  refine zq_aload_n1 hZ dL_law_1130 ?_
  refine zq_aload_n0 hZ dL_law_1131 ?_
  refine zq_iload4 hZ dL_law_1132 ?_
  refine zq_iconst hZ dL_law_1134 ?_
  refine zq_iadd hZ dL_law_1135 ?_
  refine zq_sld hZ hsx rfl dL_law_1136 (by omega) ?_
  refine zq_aload_n3 hZ dL_law_1137 ?_
  refine zq_cSh hZ hΦ (As := [_, _, _]) rfl dL_law_1138 ml_L_189 wy_L_append (m_L_append l (M := [m, a, q, c, o]) hfl (dgt) oin hd5 hu y1) ⟨Nat.le_of_ble_eq_true rfl, Nat.le_of_ble_eq_true rfl⟩ ⟨by show k + 1 ≤ 601024; omega, by show n + 6 ≤ 7293034; omega⟩ (Nat.le_of_ble_eq_true rfl) (fun v9 L9 F9 hp => ?_)
  obtain ⟨rfl, fM, u1, hu1, hX⟩ := hp
  obtain ⟨kk, rfl, hY⟩ : ∃ kk, v9 = some (.int (iI kk)) ∧ ((kk = 0 ∧ (33 ≤ (sx (i + 1)) ∧ (sx (i + 1)) ≤ 126) ∧ nn < 60 ∧ u1 0 = nn + 1 ∧ dr LX F9 K g kd sv (sH g) kp (sQ g) (nn + 1) (wu bf nn (sx (i + 1)))) ∨ (kk = 1 ∧ ¬ (33 ≤ (sx (i + 1)) ∧ (sx (i + 1)) ≤ 126) ∧ dr LX F9 K g kd sv (sH g) kp (sQ g) nn bf) ∨ (kk = 2 ∧ (33 ≤ (sx (i + 1)) ∧ (sx (i + 1)) ≤ 126) ∧ ¬ nn < 60 ∧ dr LX F9 K g kd sv (sH g) kp (sQ g) nn bf)) := by
    rcases hX with ⟨x1, x2, x3, x4, x5⟩ | ⟨x1, x2, x3⟩ | ⟨x1, x2, x3, x4⟩
    · exact ⟨0, x3, Or.inl ⟨rfl, x1, x2, x4, x5⟩⟩
    · exact ⟨1, x2, Or.inr (Or.inl ⟨rfl, x1, x3⟩)⟩
    · exact ⟨2, x3, Or.inr (Or.inr ⟨rfl, x1, x2, x4⟩)⟩
  have mot9 := mo.mv (F1 := F9) mot (fM m mM (Ne.symm oM)) (fM a aM (Ne.symm oA)) (fM q qM (Ne.symm oQ)) (fM c cM (Ne.symm oC))
  refine zq_istore5 hZ dL_law_1141 (by decide) rfl ?_
  refine zq_aload_n2 hZ dL_law_1143 ?_
  refine zq_aload_n0 hZ dL_law_1144 ?_
  refine zq_iload4 hZ dL_law_1145 ?_
  refine zq_iconst hZ dL_law_1147 ?_
  refine zq_iadd hZ dL_law_1148 ?_
  refine zq_sld hZ hsx rfl dL_law_1149 (by omega) ?_
  refine zq_cV hZ (As := [_]) rfl dL_law_1150 ml_L_191 wy_X8_append (m_X8_append l mot9 fx.1 fx.2.1 fx.2.2.1 fx.2.2.2.1 y1) (List.mem_append_right _ mM) mot9.2.1 rfl ⟨Nat.le_of_ble_eq_true rfl, Nat.le_of_ble_eq_true rfl⟩ ⟨by show k + 1 + 0 ≤ 601024; omega, by show n + 6 + 0 ≤ 7293034; omega⟩ (Nat.le_of_ble_eq_true rfl) (fun _ _ _ h => h.elim) (fun v9 L2 F2 hp => ?_)
  obtain ⟨rfl, fr, hM⟩ := hp
  obtain ⟨bv, rfl, hN9⟩ : ∃ bv, v9 = some (.int (iI bv)) ∧ (((33 ≤ (sx (i + 1)) ∧ (sx (i + 1)) ≤ 126) ∧ nn < 60 ∧ bv = nn + 1 ∧ mo (LX ++ [m, a, q, c, o]) F2 m a q c g sv 0 kd (nn + 1) pt tm sg kp (wu bf nn (sx (i + 1)))) ∨ (¬ (33 ≤ (sx (i + 1)) ∧ (sx (i + 1)) ≤ 126) ∧ bv = 0 ∧ mo (LX ++ [m, a, q, c, o]) F2 m a q c g sv 1 kd nn pt tm sg kp bf) ∨ ((33 ≤ (sx (i + 1)) ∧ (sx (i + 1)) ≤ 126) ∧ ¬ nn < 60 ∧ bv = 0 ∧ mo (LX ++ [m, a, q, c, o]) F2 m a q c g sv 2 kd nn pt tm sg kp bf)) := by
    rcases hM with ⟨x1, x2, x3, x4⟩ | ⟨x1, x2, x3⟩ | ⟨x1, x2, x3, x4⟩
    · exact ⟨_, x3, Or.inl ⟨x1, x2, rfl, x4⟩⟩
    · exact ⟨0, x2, Or.inr (Or.inl ⟨x1, rfl, x3⟩)⟩
    · exact ⟨0, x3, Or.inr (Or.inr ⟨x1, x2, rfl, x4⟩)⟩
  have fin : ∃ g2 kd2 sv2 kp2 n2 bf2 pt2 tm2 sg2, dg LX F2 K g2 kd2 sv2 kp2 n2 bf2 ∧ mo (LX ++ [m, a, q, c, o]) F2 m a q c g2 sv2 kk kd2 n2 pt2 tm2 sg2 kp2 bf2 ∧ (kk = 0 → u1 0 = bv) ∧ (0 ≤ kk ∧ kk ≤ 2) ∧ (-2147483648 ≤ bv ∧ bv ≤ 2147483647) := by
    have e2 : ∀ b, b ∈ LX → F2 b = F9 b := fun b hb => fr b (hd9 b hb).1 (hd9 b hb).2.1 (hd9 b hb).2.2.1 (hd9 b hb).2.2.2.1
    have fn := fx.2.2.1
    rcases hY with ⟨rfl, x1, x2, x3, x4⟩ | ⟨rfl, x1, x3⟩ | ⟨rfl, x1, x2, x3⟩
    · rcases hN9 with ⟨z1, z2, rfl, z4⟩ | ⟨z1, rfl, z3⟩ | ⟨z1, z2, rfl, z3⟩
      · exact ⟨_, _, _, _, _, _, _, _, _, dr.mv x4 e2, z4, fun _ => x3, by omega, by omega⟩
      · exact absurd x1 z1
      · exact absurd x2 z2
    · rcases hN9 with ⟨z1, z2, rfl, z4⟩ | ⟨z1, rfl, z3⟩ | ⟨z1, z2, rfl, z3⟩
      · exact absurd z1 x1
      · exact ⟨_, _, _, _, _, _, _, _, _, dr.mv x3 e2, z3, fun w => absurd w (by decide), by omega, by omega⟩
      · exact absurd z1 x1
    · rcases hN9 with ⟨z1, z2, rfl, z4⟩ | ⟨z1, rfl, z3⟩ | ⟨z1, z2, rfl, z3⟩
      · exact absurd z2 x2
      · exact absurd x1 z1
      · exact ⟨_, _, _, _, _, _, _, _, _, dr.mv x3 e2, z3, fun w => absurd w (by decide), by omega, by omega⟩
  obtain ⟨g2, kd2, sv2, kp2, n2, bf2, pt2, tm2, sg2, dg2, mo2, hval, hkk, hbv⟩ := fin
  have ho2 : F2 o = eL 1 u1 := (fr o oM oA oQ oC).trans hu1
  have fins : LI LX F2 K m a q c o := ⟨g2, kd2, sv2, kp2, n2, bf2, kk, pt2, tm2, sg2, u1, dg2, mo2, ho2⟩
  refine zq_istore6 hZ dL_law_1153 (by decide) rfl ?_
  refine zq_aload_n2 hZ dL_law_1155 ?_
  refine zq_cV hZ (As := []) rfl dL_law_1156 ml_L_116 wy_X8_thrown (m_X8_thrown l mo2) (List.mem_append_right _ mM) mo2.2.1 rfl ⟨Nat.le_of_ble_eq_true rfl, Nat.le_of_ble_eq_true rfl⟩ ⟨by show k + 1 + 0 + 0 ≤ 601024; omega, by show n + 6 + 0 + 0 ≤ 7293034; omega⟩ (Nat.le_of_ble_eq_true rfl) (fun _ _ _ h => h.elim) (fun v9 L3 F3 hp => ?_)
  obtain ⟨rfl, rfl, rfl⟩ := hp
  refine zq_iload5 hZ dL_law_1159 ?_
  refine zq_icmp_eq hZ (tgt := 1166) dL_law_1161 rfl (by omega) (fun _ => ?_) (fun hne => absurd rfl hne)
  refine zq_iload5 hZ dL_law_1166 ?_
  have done : ∀ t5 t6 t7 t8, ZZ _ _ 1183 [some (.ref b), some (.ref (K 0)), some (.ref m), some (.ref o), some (.int (iI i)), t5, t6, t7, t8] [] (LX ++ [m, a, q, c, o]) F2 := fun t5 t6 t7 t8 => zq_goto hZ (tgt := 2079) dL_law_1183 rfl (cont (k + 1 + 0 + 0) (n + 6 + 0 + 0) F2 t5 t6 t7 t8 (by omega) (by omega) fins)
  refine zq_if_ne hZ (tgt := 1183) dL_law_1168 rfl (by omega) (fun _ => done _ _ _ _) (fun hk0 => ?_)
  refine zq_aload_n3 hZ dL_law_1171 ?_
  refine zq_iconst hZ dL_law_1172 ?_
  refine zq_laload hZ dL_law_1173 (List.mem_append_right _ oin) ho2 ⟨by omega, by omega, by omega⟩ ?_
  refine zq_iload6 hZ dL_law_1174 ?_
  refine zq_i2l hZ dL_law_1176 hbv ?_
  rw [hval hk0]
  refine zq_lcmp hZ dL_law_1177 ?_
  exact zq_if_eq_raw hZ (tgt := 1183) dL_law_1178 rfl (fun _ => done _ _ _ _) (fun hne => absurd ((lg_cmp_eq _ _).mpr rfl) hne)
set_option maxRecDepth 100000 in
set_option maxHeartbeats 4000000 in
theorem lc_23 (l : Launch) (hfl : l.flags = flags0) {ZZ : ZT} {tbl : List ExceptionTableEntry} {nm ds : String} {Φ : State → Prop} {post : Option Value → List Nat → (Nat → PE) → Prop} {xp : String → List Nat → (Nat → PE) → Prop} (hZ : ZZ = Zq Φ tbl l ⟨"DragonRingLaw", nm, ds⟩ cL_law 9 (some .boolean) room_1 [] post xp) (hΦ : ∀ s, Φ s → va_Nc xS xA s) {b Ls : Nat} {sx : Int → Int} (hsx : ∀ s, Φ s → va_X b Ls (fun j => iI (sx (j : Int))) s s.heap ∧ b < s.heap.size) (hok : ∀ j, -2147483648 ≤ sx j ∧ sx j ≤ 2147483647) {LX : List Nat} {F : Nat → PE} {K : Nat → Nat} {m a q c o : Nat} {i : Int} {k n : Nat} {s5 s6 s7 s8 : Option Value} (hL : LSx LX m a q c o) (hI : LI LX F K m a q c o) (hi : 0 ≤ i ∧ i + 2 < Ls ∧ Ls ≤ 1536) (hk : k + 1 ≤ 601024 ∧ n + 6 ≤ 7293034)
    (cont : ∀ (k2 n2 : Nat) (F2 : Nat → PE) (t5 t6 t7 t8 : Option Value), k2 ≤ k + 1 → n2 ≤ n + 6 → LI LX F2 K m a q c o → ZZ k2 n2 2079 [some (.ref b), some (.ref (K 0)), some (.ref m), some (.ref o), some (.int (iI i)), t5, t6, t7, t8] [] (LX ++ [m, a, q, c, o]) F2) :
    ZZ k n 1186 [some (.ref b), some (.ref (K 0)), some (.ref m), some (.ref o), some (.int (iI i)), s5, s6, s7, s8] [] (LX ++ [m, a, q, c, o]) F := by
  obtain ⟨g, kd, sv, kp, nn, bf, th, pt, tm, sg, u, dgt, mot, hu⟩ := hI
  have fx := dr.fx dgt
  have rg := fx.1.1
  obtain ⟨hd9, oM, oA, oQ, oC⟩ := hL
  have hv := (dr.fx (dg.pre dgt)).1
  have y1 := hok (i + 1)
  have y2 := hok (i + 2)
  have oin : o ∈ [m, a, q, c, o] := by simp
  have hd5 : ∀ b, b ∈ LX → b ≠ o := fun b hb => (hd9 b hb).2.2.2.2
  have mM : m ∈ [m, a, q, c, o] := by simp
  have aM : a ∈ [m, a, q, c, o] := by simp
  have qM : q ∈ [m, a, q, c, o] := by simp
  have cM : c ∈ [m, a, q, c, o] := by simp
  refine zq_aload_n1 hZ dL_law_1186 ?_
  refine zq_cV hZ (As := []) rfl dL_law_1187 ml_L_192 wy_X7_clearBuffer (pm_fr [m, a, q, c, o] (m_X7_clearBuffer l dgt)) (List.mem_append_left _ (dr.L dgt 0 (by omega))) (dr.S dgt).2.1 rfl ⟨Nat.le_of_ble_eq_true rfl, Nat.le_of_ble_eq_true rfl⟩ ⟨by show k + 0 ≤ 601024; omega, by show n + 0 ≤ 7293034; omega⟩ (Nat.le_of_ble_eq_true rfl) (fun _ _ _ h => by obtain ⟨_, _, h, _⟩ := h; exact h.elim) (fun v9 L9 F9 hp => ?_)
  obtain ⟨L8, F8, hp, rfl, e1, fM⟩ := hp
  obtain ⟨rfl, rfl, x3⟩ := hp
  have fn := fx.2.2.1
  have mot9 := mo.mv (F1 := F9) mot (fM m mM) (fM a aM) (fM q qM) (fM c cM)
  refine zq_aload_n2 hZ dL_law_1190 ?_
  refine zq_cV hZ (As := []) rfl dL_law_1191 ml_L_195 wy_X8_clearBuffer (m_X8_clearBuffer l mot9 fx.1 fx.2.1) (List.mem_append_right _ mM) mot9.2.1 rfl ⟨Nat.le_of_ble_eq_true rfl, Nat.le_of_ble_eq_true rfl⟩ ⟨by show k + 0 + 0 ≤ 601024; omega, by show n + 0 + 0 ≤ 7293034; omega⟩ (Nat.le_of_ble_eq_true rfl) (fun _ _ _ h => h.elim) (fun v9 L2 F2 hp => ?_)
  obtain ⟨rfl, rfl, fr, mo2⟩ := hp
  have e2 : ∀ b, b ∈ LX → F2 b = F9 b := fun b hb => fr b (hd9 b hb).1 (hd9 b hb).2.1 (hd9 b hb).2.2.1 (hd9 b hb).2.2.2.1
  have dg2 : dg LX F2 K g kd sv kp 0 bf := dr.mv x3 (fun b hb => (e2 b hb).trans (e1 b hb))
  have ho2 : F2 o = eL 1 u := (fr o oM oA oQ oC).trans ((fM o oin).trans hu)
  exact zq_icmp_eq hZ (tgt := 2079) dL_law_1194 rfl (by omega) (fun _ => cont _ _ F2 _ _ _ _ (by show k + 0 + 0 ≤ k + 1; omega) (by show n + 0 + 0 ≤ n + 6; omega) ⟨_, _, _, _, _, _, _, _, _, _, u, dg2, mo2, ho2⟩) (fun hne => absurd rfl hne)
set_option maxRecDepth 100000 in
set_option maxHeartbeats 4000000 in
theorem lc_24 (l : Launch) (hfl : l.flags = flags0) {ZZ : ZT} {tbl : List ExceptionTableEntry} {nm ds : String} {Φ : State → Prop} {post : Option Value → List Nat → (Nat → PE) → Prop} {xp : String → List Nat → (Nat → PE) → Prop} (hZ : ZZ = Zq Φ tbl l ⟨"DragonRingLaw", nm, ds⟩ cL_law 9 (some .boolean) room_1 [] post xp) (hΦ : ∀ s, Φ s → va_Nc xS xA s) {b Ls : Nat} {sx : Int → Int} (hsx : ∀ s, Φ s → va_X b Ls (fun j => iI (sx (j : Int))) s s.heap ∧ b < s.heap.size) (hok : ∀ j, -2147483648 ≤ sx j ∧ sx j ≤ 2147483647) {LX : List Nat} {F : Nat → PE} {K : Nat → Nat} {m a q c o : Nat} {i : Int} {k n : Nat} {s5 s6 s7 s8 : Option Value} (hL : LSx LX m a q c o) (hI : LI LX F K m a q c o) (hi : 0 ≤ i ∧ i + 2 < Ls ∧ Ls ≤ 1536) (hk : k + 1 ≤ 601024 ∧ n + 6 ≤ 7293034)
    (cont : ∀ (k2 n2 : Nat) (F2 : Nat → PE) (t5 t6 t7 t8 : Option Value), k2 ≤ k + 1 → n2 ≤ n + 6 → LI LX F2 K m a q c o → ZZ k2 n2 2079 [some (.ref b), some (.ref (K 0)), some (.ref m), some (.ref o), some (.int (iI i)), t5, t6, t7, t8] [] (LX ++ [m, a, q, c, o]) F2) :
    ZZ k n 1199 [some (.ref b), some (.ref (K 0)), some (.ref m), some (.ref o), some (.int (iI i)), s5, s6, s7, s8] [] (LX ++ [m, a, q, c, o]) F := by
  obtain ⟨g, kd, sv, kp, nn, bf, th, pt, tm, sg, u, dgt, mot, hu⟩ := hI
  have fx := dr.fx dgt
  have rg := fx.1.1
  obtain ⟨hd9, oM, oA, oQ, oC⟩ := hL
  have hv := (dr.fx (dg.pre dgt)).1
  have y1 := hok (i + 1)
  have y2 := hok (i + 2)
  have oin : o ∈ [m, a, q, c, o] := by simp
  have hd5 : ∀ b, b ∈ LX → b ≠ o := fun b hb => (hd9 b hb).2.2.2.2
  have mM : m ∈ [m, a, q, c, o] := by simp
  have aM : a ∈ [m, a, q, c, o] := by simp
  have qM : q ∈ [m, a, q, c, o] := by simp
  have cM : c ∈ [m, a, q, c, o] := by simp
  refine zq_aload_n1 hZ dL_law_1199 ?_
  refine zq_cV hZ (As := []) rfl dL_law_1200 ml_L_196 wy_X7_firstError (pm_fr [m, a, q, c, o] (m_X7_firstError l dgt)) (List.mem_append_left _ (dr.L dgt 0 (by omega))) (dr.S dgt).2.1 rfl ⟨Nat.le_of_ble_eq_true rfl, Nat.le_of_ble_eq_true rfl⟩ ⟨by show k + 0 ≤ 601024; omega, by show n + 0 ≤ 7293034; omega⟩ (Nat.le_of_ble_eq_true rfl) (fun _ _ _ h => by obtain ⟨_, _, h, _⟩ := h; exact h.elim) (fun v9 L9 F9 hp => ?_)
  obtain ⟨L8, F8, hp, rfl, e1, fM⟩ := hp
  obtain ⟨⟨p, fp, rfl⟩, rfl, rfl⟩ := hp
  have fn := fx.2.2.1
  have mot9 := mo.mv (F1 := F9) mot (fM m mM) (fM a aM) (fM q qM) (fM c cM)
  refine zq_aload_n2 hZ dL_law_1203 ?_
  refine zq_cV hZ (As := []) rfl dL_law_1204 ml_L_199 wy_X8_firstError (m_X8_firstError l mot9 fx.2.2.1 fx.2.2.2.1) (List.mem_append_right _ mM) mot9.2.1 rfl ⟨Nat.le_of_ble_eq_true rfl, Nat.le_of_ble_eq_true rfl⟩ ⟨by show k + 0 + 0 ≤ 601024; omega, by show n + 0 + 0 ≤ 7293034; omega⟩ (Nat.le_of_ble_eq_true rfl) (fun _ _ _ h => h.elim) (fun v9 L2 F2 hp => ?_)
  obtain ⟨rfl, fr, p2, z2, w2, fp2, rfl, mo2⟩ := hp
  have heq : p = p2 := feP_one fp fp2
  have rp : 0 ≤ p ∧ p ≤ nn := ⟨fp.1, fp.2.1⟩
  have e2 : ∀ b, b ∈ LX → F2 b = F9 b := fun b hb => fr b (hd9 b hb).1 (hd9 b hb).2.1 (hd9 b hb).2.2.1 (hd9 b hb).2.2.2.1
  have dg2 : dg LX F2 K g kd sv kp nn bf := dr.mv dgt (fun b hb => (e2 b hb).trans (e1 b hb))
  have ho2 : F2 o = eL 1 u := (fr o oM oA oQ oC).trans ((fM o oin).trans hu)
  exact zq_icmp_eq hZ (tgt := 2079) dL_law_1207 rfl (by omega) (fun _ => cont _ _ F2 _ _ _ _ (by show k + 0 + 0 ≤ k + 1; omega) (by show n + 0 + 0 ≤ n + 6; omega) ⟨_, _, _, _, _, _, _, _, _, _, u, dg2, mo2, ho2⟩) (fun hne => absurd heq hne)
set_option maxRecDepth 100000 in
set_option maxHeartbeats 4000000 in
theorem lc_25 (l : Launch) (hfl : l.flags = flags0) {ZZ : ZT} {tbl : List ExceptionTableEntry} {nm ds : String} {Φ : State → Prop} {post : Option Value → List Nat → (Nat → PE) → Prop} {xp : String → List Nat → (Nat → PE) → Prop} (hZ : ZZ = Zq Φ tbl l ⟨"DragonRingLaw", nm, ds⟩ cL_law 9 (some .boolean) room_1 [] post xp) (hΦ : ∀ s, Φ s → va_Nc xS xA s) {b Ls : Nat} {sx : Int → Int} (hsx : ∀ s, Φ s → va_X b Ls (fun j => iI (sx (j : Int))) s s.heap ∧ b < s.heap.size) (hok : ∀ j, -2147483648 ≤ sx j ∧ sx j ≤ 2147483647) {LX : List Nat} {F : Nat → PE} {K : Nat → Nat} {m a q c o : Nat} {i : Int} {k n : Nat} {s5 s6 s7 s8 : Option Value} (hL : LSx LX m a q c o) (hI : LI LX F K m a q c o) (hi : 0 ≤ i ∧ i + 2 < Ls ∧ Ls ≤ 1536) (hk : k + 1 ≤ 601024 ∧ n + 6 ≤ 7293034)
    (cont : ∀ (k2 n2 : Nat) (F2 : Nat → PE) (t5 t6 t7 t8 : Option Value), k2 ≤ k + 1 → n2 ≤ n + 6 → LI LX F2 K m a q c o → ZZ k2 n2 2079 [some (.ref b), some (.ref (K 0)), some (.ref m), some (.ref o), some (.int (iI i)), t5, t6, t7, t8] [] (LX ++ [m, a, q, c, o]) F2) :
    ZZ k n 1212 [some (.ref b), some (.ref (K 0)), some (.ref m), some (.ref o), some (.int (iI i)), s5, s6, s7, s8] [] (LX ++ [m, a, q, c, o]) F := by
  obtain ⟨g, kd, sv, kp, nn, bf, th, pt, tm, sg, u, dgt, mot, hu⟩ := hI
  have fx := dr.fx dgt
  have rg := fx.1.1
  obtain ⟨hd9, oM, oA, oQ, oC⟩ := hL
  have hv := (dr.fx (dg.pre dgt)).1
  have y1 := hok (i + 1)
  have y2 := hok (i + 2)
  have oin : o ∈ [m, a, q, c, o] := by simp
  have hd5 : ∀ b, b ∈ LX → b ≠ o := fun b hb => (hd9 b hb).2.2.2.2
  have mM : m ∈ [m, a, q, c, o] := by simp
  have aM : a ∈ [m, a, q, c, o] := by simp
  have qM : q ∈ [m, a, q, c, o] := by simp
  have cM : c ∈ [m, a, q, c, o] := by simp
  refine zq_aload_n1 hZ dL_law_1212 ?_
  refine zq_aload_n3 hZ dL_law_1213 ?_
  refine zq_cSh hZ hΦ (As := [_, _]) rfl dL_law_1214 ml_L_200 wy_L_perform (m_L_perform l (M := [m, a, q, c, o]) hfl (dg.pre dgt) oin hd5 hu) ⟨Nat.le_of_ble_eq_true rfl, Nat.le_of_ble_eq_true rfl⟩ ⟨by show k + 1 ≤ 601024; omega, by show n + 6 ≤ 7293034; omega⟩ (Nat.le_of_ble_eq_true rfl) (fun v9 L9 F9 hp => ?_)
  obtain ⟨rfl, fM, u1, hu1, hX⟩ := hp
  obtain ⟨kk, rfl, hY⟩ : ∃ kk, v9 = some (.int (iI kk)) ∧ ((kk = 0 ∧ (0 < nn ∧ sgR bf nn.toNat = 0) ∧ ∃ v1 k1 cc, rnF bf nn nn.toNat 0 (cpy g 0 9) kd 0 = some (v1, k1, cc) ∧ u1 0 = cc ∧ dr LX F9 K v1 k1 (hN sv) (hS sv (sH g) (cpy g 0 9)) kp (sQ g) 0 bf) ∨ (kk = 1 ∧ ¬ (0 < nn ∧ sgR bf nn.toNat = 0) ∧ dr LX F9 K (cpy g 0 9) kd sv (sH g) kp (sQ g) nn bf) ∨ (kk = 2 ∧ (0 < nn ∧ sgR bf nn.toNat = 0) ∧ rnF bf nn nn.toNat 0 (cpy g 0 9) kd 0 = none ∧ dr LX F9 K (cpy g 0 9) kd sv (sH g) kp (sQ g) nn bf)) := by
    rcases hX with ⟨x1, v1, k1, cc, x2, x3, x4, x5⟩ | ⟨x1, x2, x3⟩ | ⟨x1, x2, x3, x4⟩
    · exact ⟨0, x3, Or.inl ⟨rfl, x1, v1, k1, cc, x2, x4, x5⟩⟩
    · exact ⟨1, x2, Or.inr (Or.inl ⟨rfl, x1, x3⟩)⟩
    · exact ⟨2, x3, Or.inr (Or.inr ⟨rfl, x1, x2, x4⟩)⟩
  have mot9 := mo.mv (F1 := F9) mot (fM m mM (Ne.symm oM)) (fM a aM (Ne.symm oA)) (fM q qM (Ne.symm oQ)) (fM c cM (Ne.symm oC))
  refine zq_istore5 hZ dL_law_1217 (by decide) rfl ?_
  refine zq_aload_n2 hZ dL_law_1219 ?_
  refine zq_cV hZ (As := []) rfl dL_law_1220 ml_L_202 wy_X8_perform (m_X8_perform l mot9 fx.2.2.1 fx.2.2.2.1 hv fx.2.1) (List.mem_append_right _ mM) mot9.2.1 rfl ⟨Nat.le_of_ble_eq_true rfl, Nat.le_of_ble_eq_true rfl⟩ ⟨by show k + 1 + 0 ≤ 601024; omega, by show n + 6 + 0 ≤ 7293034; omega⟩ (Nat.le_of_ble_eq_true rfl) (fun _ _ _ h => h.elim) (fun v9 L2 F2 hp => ?_)
  obtain ⟨rfl, fr, hM⟩ := hp
  obtain ⟨bv, rfl, hN9⟩ : ∃ bv, v9 = some (.int (iI bv)) ∧ (((0 < nn ∧ sgR bf nn.toNat = 0) ∧ ∃ v1 k1 cc h p z y, rnF bf nn nn.toNat 0 (cpy g 0 9) kd 0 = some (v1, k1, cc) ∧ bv = cc ∧ (∀ w, 1818 ≤ w → v1 w = (cpy g 0 9) w) ∧ svP 9 sv v1 h ∧ mo (LX ++ [m, a, q, c, o]) F2 m a q c h (hN sv) 0 k1 0 p z y kp bf) ∨ (¬ (0 < nn ∧ sgR bf nn.toNat = 0) ∧ bv = 0 ∧ ∃ h p z y, (∀ w, 0 ≤ w → w < 16362 → h w = g w) ∧ mo (LX ++ [m, a, q, c, o]) F2 m a q c h sv 1 kd nn p z y kp bf) ∨ ((0 < nn ∧ sgR bf nn.toNat = 0) ∧ rnF bf nn nn.toNat 0 (cpy g 0 9) kd 0 = none ∧ bv = 0 ∧ ∃ h p z y, (∀ w, 0 ≤ w → w < 16362 → h w = g w) ∧ mo (LX ++ [m, a, q, c, o]) F2 m a q c h sv 2 kd nn p z y kp bf)) := by
    rcases hM with ⟨x1, v1, k1, cc, h, p, z, y, x2, x3, x4, x5, x6⟩ | ⟨x1, x2, x3⟩ | ⟨x1, x2, x3, x4⟩
    · exact ⟨cc, x3, Or.inl ⟨x1, v1, k1, cc, h, p, z, y, x2, rfl, x4, x5, x6⟩⟩
    · exact ⟨0, x2, Or.inr (Or.inl ⟨x1, rfl, x3⟩)⟩
    · exact ⟨0, x3, Or.inr (Or.inr ⟨x1, x2, rfl, x4⟩)⟩
  have fin : ∃ g2 kd2 sv2 kp2 n2 bf2 pt2 tm2 sg2, dg LX F2 K g2 kd2 sv2 kp2 n2 bf2 ∧ mo (LX ++ [m, a, q, c, o]) F2 m a q c g2 sv2 kk kd2 n2 pt2 tm2 sg2 kp2 bf2 ∧ (kk = 0 → u1 0 = bv) ∧ (0 ≤ kk ∧ kk ≤ 2) ∧ (-2147483648 ≤ bv ∧ bv ≤ 2147483647) := by
    have e2 : ∀ b, b ∈ LX → F2 b = F9 b := fun b hb => fr b (hd9 b hb).1 (hd9 b hb).2.1 (hd9 b hb).2.2.1 (hd9 b hb).2.2.2.1
    have fn := fx.2.2.1
    rcases hY with ⟨rfl, x1, v1, k1, cc, x2, x3, x4⟩ | ⟨rfl, x1, x3⟩ | ⟨rfl, x1, x2, x3⟩
    · rcases hN9 with ⟨z1, w1, j1, dd, h, p, z, y, z2, rfl, z4, z5, z6⟩ | ⟨z1, rfl, z3⟩ | ⟨z1, z2, rfl, z3⟩
      · have ee := Option.some.inj (x2.symm.trans z2)
        cases ee
        have rr := rnF_rg _ _ _ _ _ _ _ _ z2
        exact ⟨_, _, _, _, _, _, _, _, _, dg.rem fx.2.1 (dr.mv x4 e2) z4 z5, z6, fun _ => x3, by omega, by omega⟩
      · exact absurd x1 z1
      · rw [z2] at x2; cases x2
    · rcases hN9 with ⟨z1, w1, j1, dd, h, p, z, y, z2, rfl, z4, z5, z6⟩ | ⟨z1, rfl, h, p, z, y, z3, z4⟩ | ⟨z1, z2, rfl, z3⟩
      · exact absurd z1 x1
      · exact ⟨_, _, _, _, _, _, _, _, _, dg.eq (dg.un (dr.mv x3 e2)) z3, z4, fun w => absurd w (by decide), by omega, by omega⟩
      · exact absurd z1 x1
    · rcases hN9 with ⟨z1, w1, j1, dd, h, p, z, y, z2, rfl, z4, z5, z6⟩ | ⟨z1, rfl, z3⟩ | ⟨z1, z2, rfl, h, p, z, y, z3, z4⟩
      · rw [x2] at z2; cases z2
      · exact absurd x1 z1
      · exact ⟨_, _, _, _, _, _, _, _, _, dg.eq (dg.un (dr.mv x3 e2)) z3, z4, fun w => absurd w (by decide), by omega, by omega⟩
  obtain ⟨g2, kd2, sv2, kp2, n2, bf2, pt2, tm2, sg2, dg2, mo2, hval, hkk, hbv⟩ := fin
  have ho2 : F2 o = eL 1 u1 := (fr o oM oA oQ oC).trans hu1
  have fins : LI LX F2 K m a q c o := ⟨g2, kd2, sv2, kp2, n2, bf2, kk, pt2, tm2, sg2, u1, dg2, mo2, ho2⟩
  refine zq_istore6 hZ dL_law_1223 (by decide) rfl ?_
  refine zq_aload_n2 hZ dL_law_1225 ?_
  refine zq_cV hZ (As := []) rfl dL_law_1226 ml_L_116 wy_X8_thrown (m_X8_thrown l mo2) (List.mem_append_right _ mM) mo2.2.1 rfl ⟨Nat.le_of_ble_eq_true rfl, Nat.le_of_ble_eq_true rfl⟩ ⟨by show k + 1 + 0 + 0 ≤ 601024; omega, by show n + 6 + 0 + 0 ≤ 7293034; omega⟩ (Nat.le_of_ble_eq_true rfl) (fun _ _ _ h => h.elim) (fun v9 L3 F3 hp => ?_)
  obtain ⟨rfl, rfl, rfl⟩ := hp
  refine zq_iload5 hZ dL_law_1229 ?_
  refine zq_icmp_eq hZ (tgt := 1236) dL_law_1231 rfl (by omega) (fun _ => ?_) (fun hne => absurd rfl hne)
  refine zq_iload5 hZ dL_law_1236 ?_
  have done : ∀ t5 t6 t7 t8, ZZ _ _ 1253 [some (.ref b), some (.ref (K 0)), some (.ref m), some (.ref o), some (.int (iI i)), t5, t6, t7, t8] [] (LX ++ [m, a, q, c, o]) F2 := fun t5 t6 t7 t8 => zq_goto hZ (tgt := 2079) dL_law_1253 rfl (cont (k + 1 + 0 + 0) (n + 6 + 0 + 0) F2 t5 t6 t7 t8 (by omega) (by omega) fins)
  refine zq_if_ne hZ (tgt := 1253) dL_law_1238 rfl (by omega) (fun _ => done _ _ _ _) (fun hk0 => ?_)
  refine zq_aload_n3 hZ dL_law_1241 ?_
  refine zq_iconst hZ dL_law_1242 ?_
  refine zq_laload hZ dL_law_1243 (List.mem_append_right _ oin) ho2 ⟨by omega, by omega, by omega⟩ ?_
  refine zq_iload6 hZ dL_law_1244 ?_
  refine zq_i2l hZ dL_law_1246 hbv ?_
  rw [hval hk0]
  refine zq_lcmp hZ dL_law_1247 ?_
  exact zq_if_eq_raw hZ (tgt := 1253) dL_law_1248 rfl (fun _ => done _ _ _ _) (fun hne => absurd ((lg_cmp_eq _ _).mpr rfl) hne)
