/-! THE LAW, the mean and the digest. -/
set_option maxRecDepth 100000 in
set_option maxHeartbeats 4000000 in
theorem lc_57 (l : Launch) (hfl : l.flags = flags0) {ZZ : ZT} {tbl : List ExceptionTableEntry} {nm ds : String} {Φ : State → Prop} {post : Option Value → List Nat → (Nat → PE) → Prop} {xp : String → List Nat → (Nat → PE) → Prop} (hZ : ZZ = Zq Φ tbl l ⟨"DragonRingLaw", nm, ds⟩ cL_law 9 (some .boolean) room_1 [] post xp) (hΦ : ∀ s, Φ s → va_Nc xS xA s) {b Ls : Nat} {sx : Int → Int} (hsx : ∀ s, Φ s → va_X b Ls (fun j => iI (sx (j : Int))) s s.heap ∧ b < s.heap.size) (hok : ∀ j, -2147483648 ≤ sx j ∧ sx j ≤ 2147483647) {LX : List Nat} {F : Nat → PE} {K : Nat → Nat} {m a q c o : Nat} {i : Int} {k n : Nat} {s5 s6 s7 s8 : Option Value} (hL : LSx LX m a q c o) (hI : LI LX F K m a q c o) (hi : 0 ≤ i ∧ i + 2 < Ls ∧ Ls ≤ 1536) (hk : k + 1 ≤ 601024 ∧ n + 6 ≤ 7293034)
    (cont : ∀ (k2 n2 : Nat) (F2 : Nat → PE) (t5 t6 t7 t8 : Option Value), k2 ≤ k + 1 → n2 ≤ n + 6 → LI LX F2 K m a q c o → ZZ k2 n2 2079 [some (.ref b), some (.ref (K 0)), some (.ref m), some (.ref o), some (.int (iI i)), t5, t6, t7, t8] [] (LX ++ [m, a, q, c, o]) F2) :
    ZZ k n 2024 [some (.ref b), some (.ref (K 0)), some (.ref m), some (.ref o), some (.int (iI i)), s5, s6, s7, s8] [] (LX ++ [m, a, q, c, o]) F := by
  obtain ⟨g, kd, sv, kp, nn, bf, th, pt, tm, sg, u, dgt, mot, hu⟩ := hI
  have fx := dr.fx dgt
  have rg := fx.1.1
  obtain ⟨hd9, oM, oA, oQ, oC⟩ := hL
  have hv := (dr.fx (dg.pre dgt)).1
  have y1 := hok (i + 1)
  have y2 := hok (i + 2)
  have oin : o ∈ [m, a, q, c, o] := by simp
  have hd5 : ∀ b, b ∈ LX → b ≠ o := fun b hb => (hd9 b hb).2.2.2.2
  have mM : m ∈ [m, a, q, c, o] := by simp
  have aM : a ∈ [m, a, q, c, o] := by simp
  have qM : q ∈ [m, a, q, c, o] := by simp
  have cM : c ∈ [m, a, q, c, o] := by simp
  refine zq_aload_n1 hZ dL_law_2024 ?_
  refine zq_cV hZ (As := []) rfl dL_law_2025 ml_L_320 wy_X7_meanHoard (pm_fr [m, a, q, c, o] (m_X7_meanHoard l dgt)) (List.mem_append_left _ (dr.L dgt 0 (by omega))) (dr.S dgt).2.1 rfl ⟨Nat.le_of_ble_eq_true rfl, Nat.le_of_ble_eq_true rfl⟩ ⟨by show k + 0 ≤ 601024; omega, by show n + 0 ≤ 7293034; omega⟩ (Nat.le_of_ble_eq_true rfl) (fun _ _ _ h => by obtain ⟨_, _, h, _⟩ := h; exact h.elim) (fun v9 L9 F9 hp => ?_)
  obtain ⟨L8, F8, hp, rfl, e1, fM⟩ := hp
  obtain ⟨rfl, rfl, rfl⟩ := hp
  have mot9 := mo.mv (F1 := F9) mot (fM m mM) (fM a aM) (fM q qM) (fM c cM)
  refine zq_dstore5 hZ dL_law_2028 (by decide) rfl ?_
  refine zq_aload_n2 hZ dL_law_2030 ?_
  refine zq_cV hZ (As := []) rfl dL_law_2031 ml_L_324 wy_X8_meanHoard (m_X8_meanHoard l mot9 fx.1) (List.mem_append_right _ mM) mot9.2.1 rfl ⟨Nat.le_of_ble_eq_true rfl, Nat.le_of_ble_eq_true rfl⟩ ⟨by show k + 0 + 0 ≤ 601024; omega, by show n + 0 + 0 ≤ 7293034; omega⟩ (Nat.le_of_ble_eq_true rfl) (fun _ _ _ h => h.elim) (fun v9 L2 F2 hp => ?_)
  obtain ⟨rfl, rfl, fr, mo2⟩ := hp
  have e2 : ∀ b, b ∈ LX → F2 b = F9 b := fun b hb => fr b (hd9 b hb).1 (hd9 b hb).2.1 (hd9 b hb).2.2.1 (hd9 b hb).2.2.2.1
  have dg2 : dg LX F2 K g kd sv kp nn bf := dr.mv dgt (fun b hb => (e2 b hb).trans (e1 b hb))
  have ho2 : F2 o = eL 1 u := (fr o oM oA oQ oC).trans ((fM o oin).trans hu)
  refine zq_dstore7 hZ dL_law_2034 (by decide) rfl ?_
  have done : ∀ t5 t6 t7 t8, ZZ _ _ 2062 [some (.ref b), some (.ref (K 0)), some (.ref m), some (.ref o), some (.int (iI i)), t5, t6, t7, t8] [] (LX ++ [m, a, q, c, o]) F2 := fun t5 t6 t7 t8 => zq_goto hZ (tgt := 2079) dL_law_2062 rfl (cont (k + 0 + 0) (n + 0 + 0) F2 t5 t6 t7 t8 (by omega) (by omega) ⟨_, _, _, _, _, _, _, _, _, _, u, dg2, mo2, ho2⟩)
  refine zq_dload5 hZ dL_law_2036 ?_
  refine zq_dload7 hZ dL_law_2038 ?_
  refine zq_dcmp hZ dL_law_2040 ?_
  refine zq_if_eq_raw hZ (tgt := 2062) dL_law_2041 rfl (fun _ => done _ _ _ _) (fun hc1 => ?_)
  refine zq_dload5 hZ dL_law_2044 ?_
  refine zq_dload5 hZ dL_law_2046 ?_
  refine zq_dcmp hZ dL_law_2048 ?_
  refine zq_if_eq_raw hZ (tgt := 2060) dL_law_2049 rfl (fun hc2 => absurd hc2 hc1) (fun _ => ?_)
  refine zq_dload7 hZ dL_law_2052 ?_
  refine zq_dload7 hZ dL_law_2054 ?_
  refine zq_dcmp hZ dL_law_2056 ?_
  exact zq_if_ne_raw hZ (tgt := 2062) dL_law_2057 rfl (fun _ => done _ _ _ _) (fun hc2 => absurd hc2 hc1)
set_option maxRecDepth 100000 in
set_option maxHeartbeats 4000000 in
theorem lc_58 (l : Launch) (hfl : l.flags = flags0) {ZZ : ZT} {tbl : List ExceptionTableEntry} {nm ds : String} {Φ : State → Prop} {post : Option Value → List Nat → (Nat → PE) → Prop} {xp : String → List Nat → (Nat → PE) → Prop} (hZ : ZZ = Zq Φ tbl l ⟨"DragonRingLaw", nm, ds⟩ cL_law 9 (some .boolean) room_1 [] post xp) (hΦ : ∀ s, Φ s → va_Nc xS xA s) {b Ls : Nat} {sx : Int → Int} (hsx : ∀ s, Φ s → va_X b Ls (fun j => iI (sx (j : Int))) s s.heap ∧ b < s.heap.size) (hok : ∀ j, -2147483648 ≤ sx j ∧ sx j ≤ 2147483647) {LX : List Nat} {F : Nat → PE} {K : Nat → Nat} {m a q c o : Nat} {i : Int} {k n : Nat} {s5 s6 s7 s8 : Option Value} (hL : LSx LX m a q c o) (hI : LI LX F K m a q c o) (hi : 0 ≤ i ∧ i + 2 < Ls ∧ Ls ≤ 1536) (hk : k + 1 ≤ 601024 ∧ n + 6 ≤ 7293034)
    (cont : ∀ (k2 n2 : Nat) (F2 : Nat → PE) (t5 t6 t7 t8 : Option Value), k2 ≤ k + 1 → n2 ≤ n + 6 → LI LX F2 K m a q c o → ZZ k2 n2 2079 [some (.ref b), some (.ref (K 0)), some (.ref m), some (.ref o), some (.int (iI i)), t5, t6, t7, t8] [] (LX ++ [m, a, q, c, o]) F2) :
    ZZ k n 2065 [some (.ref b), some (.ref (K 0)), some (.ref m), some (.ref o), some (.int (iI i)), s5, s6, s7, s8] [] (LX ++ [m, a, q, c, o]) F := by
  obtain ⟨g, kd, sv, kp, nn, bf, th, pt, tm, sg, u, dgt, mot, hu⟩ := hI
  have fx := dr.fx dgt
  have rg := fx.1.1
  obtain ⟨hd9, oM, oA, oQ, oC⟩ := hL
  have hv := (dr.fx (dg.pre dgt)).1
  have y1 := hok (i + 1)
  have y2 := hok (i + 2)
  have oin : o ∈ [m, a, q, c, o] := by simp
  have hd5 : ∀ b, b ∈ LX → b ≠ o := fun b hb => (hd9 b hb).2.2.2.2
  have mM : m ∈ [m, a, q, c, o] := by simp
  have aM : a ∈ [m, a, q, c, o] := by simp
  have qM : q ∈ [m, a, q, c, o] := by simp
  have cM : c ∈ [m, a, q, c, o] := by simp
  refine zq_aload_n1 hZ dL_law_2065 ?_
  refine zq_cV hZ (As := []) rfl dL_law_2066 ml_L_325 wy_X7_digest (pm_fr [m, a, q, c, o] (m_X7_digest l dgt)) (List.mem_append_left _ (dr.L dgt 0 (by omega))) (dr.S dgt).2.1 rfl ⟨Nat.le_of_ble_eq_true rfl, Nat.le_of_ble_eq_true rfl⟩ ⟨by show k + 1 ≤ 601024; omega, by show n + 1 ≤ 7293034; omega⟩ (Nat.le_of_ble_eq_true rfl) (fun _ _ _ h => by obtain ⟨_, _, h, _⟩ := h; exact h.elim) (fun v9 L9 F9 hp => ?_)
  obtain ⟨L8, F8, hp, rfl, e1, fM⟩ := hp
  obtain ⟨rfl, rfl, e3⟩ := hp
  have mot9 := mo.mv (F1 := F9) mot (fM m mM) (fM a aM) (fM q qM) (fM c cM)
  have hS := dr.S dgt
  refine zq_aload_n2 hZ dL_law_2069 ?_
  refine zq_cV hZ (As := []) rfl dL_law_2070 ml_L_329 wy_X8_digest (m_X8_digest l mot9 fx.1 fx.2.1 fx.2.2.1 fx.2.2.2.1 hS.2.2.2.2.2.1 hS.2.2.2.2.2.2) (List.mem_append_right _ mM) mot9.2.1 rfl ⟨Nat.le_of_ble_eq_true rfl, Nat.le_of_ble_eq_true rfl⟩ ⟨by show k + 1 + 0 ≤ 601024; omega, by show n + 1 + 0 ≤ 7293034; omega⟩ (Nat.le_of_ble_eq_true rfl) (fun _ _ _ h => h.elim) (fun v9 L2 F2 hp => ?_)
  obtain ⟨rfl, rfl, fr, mo2⟩ := hp
  have e2 : ∀ b, b ∈ LX → F2 b = F9 b := fun b hb => fr b (hd9 b hb).1 (hd9 b hb).2.1 (hd9 b hb).2.2.1 (hd9 b hb).2.2.2.1
  have dg2 : dg LX F2 K g kd sv kp nn bf := dr.mv dgt (fun b hb => (e2 b hb).trans ((e1 b hb).trans (e3 b hb)))
  have ho2 : F2 o = eL 1 u := (fr o oM oA oQ oC).trans ((fM o oin).trans hu)
  refine zq_lcmp hZ dL_law_2073 ?_
  exact zq_if_eq_raw hZ (tgt := 2079) dL_law_2074 rfl (fun _ => cont _ _ F2 _ _ _ _ (by show k + 1 + 0 ≤ k + 1; omega) (by show n + 1 + 0 ≤ n + 6; omega) ⟨_, _, _, _, _, _, _, _, _, _, u, dg2, mo2, ho2⟩) (fun hne => absurd ((lg_cmp_eq _ _).mpr rfl) hne)
