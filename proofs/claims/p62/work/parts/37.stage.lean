/-! READING DEEDS: stages. -/
theorem z_strIdx {ZZ : ZT} {l : Launch} {y : MethodName} {cc : ByteArray} {nL : Nat} {ret : Option FieldType} {R : Room} {L0 : List Nat} {post : Option Value → List Nat → (Nat → PE) → Prop} {xp : String → List Nat → (Nat → PE) → Prop} {k n pc : Nat} {st : List Value} {L : List Nat} {F : Nat → PE}
    (hZ : ZZ = Zj l y cc nL ret R L0 post xp) (hy : y.cls = "DragonRing") {c : Int} {x0 : Option Value} {t : List (Option Value)} (hc : 0 ≤ c ∧ c ≤ 127) (d0 : decode cc pc = .ok (.ldc_w 314, 3)) (d3 : decode cc (pc + 3) = .ok (.iload_n 1, 1)) (d4 : decode cc (pc + 4) = .ok (.i2c, 1)) (d5 : decode cc (pc + 5) = .ok (.invokevirtual 316, 3))
    (hR : (rm 4 0 0).frames + 1 ≤ R.frames ∧ 8 + (2 + 11) + (rm 4 0 0).locals ≤ R.locals) (hRc : k + (rm 4 0 0).cells ≤ R.cells ∧ n + (rm 4 0 0).slots ≤ R.slots) (hrest : (st.map fun v => v.category).sum ≤ 8)
    (kk : ∀ r : Int, -1 ≤ r → r < 21 → (r = -1 ↔ ∀ j, 0 ≤ j → j < 21 → ltZ j ≠ c) → ZZ k n (pc + 8) (x0 :: some (.int (iI c)) :: t) (.int (iI r) :: st) L F) : ZZ k n pc (x0 :: some (.int (iI c)) :: t) st L F := by
  subst hZ
  intro p e s m args below meth cd D κ hx H locs ls hP hD hS hl
  obtain ⟨a0, b0, hSS, hVR⟩ := hx.2.2.2.2.2.1.2.2.2.2.1.s
  have hown : s.vm.findClass "DragonRing" = some m.cls := by rw [← hy]; exact hx.2.2.2.1
  have hlk : Cond.methodLink y.cls 316 yJ0_indexOf_0f7a4 ∈ wsG := by rw [hy]; exact ml_X7_316
  have hM := m_J0_indexOf_0f7a4 (a0 := a0) (b0 := b0) l (L := L) (F := F) hc
  have kz : W p l e R s m args below meth cd H locs k n (vx_MQ below (pQ D κ (pA L0 s.heap.size) post) (pX D κ (pA L0 s.heap.size) xp) args s R.cells R.slots (pA L0 s.heap.size)) (F0 m (pc + 5) ls (.int (iI c) :: .ref a0 :: st)) := by
    refine z_back (R1 := rm 4 0 0) (lv := x0 :: some (.int (iI c)) :: t) hx hS hD hl (vx_runV (As := [.int (iI c)]) (b := a0) (C := yJ0_indexOf_0f7a4.cls) ⟨hx.1, hx.2.1, hx.2.2.1, hx.2.2.2.1, hx.2.2.2.2.1⟩ (hM.2 D κ H.size) ⟨z_callB hx.2.2.2.2.1 hM.1 wy_J0_indexOf_0f7a4.1 hlk hR, hx.2.2.2.2.1 _ wy_J0_indexOf_0f7a4.2.1, hx.2.2.2.2.1 _ wy_J0_indexOf_0f7a4.2.2⟩
      ⟨zs_blind, vk_recv (i := 0) hSS.1 (by decide) hS, fun U hU hW => ⟨rfl, zs_pc hx.2.2.2.2.2.1 hSS hS hP hD hU hW⟩⟩ rfl rfl hl.1 rfl (lv_room hrest) d5 hRc) (fun E L' F' h => h.elim) (fun v L' F' h => ?_)
    obtain ⟨⟨r, rfl, r1, r2, r3⟩, rfl, rfl⟩ := h
    exact kk r r1 r2 r3
  have k4 : W p l e R s m args below meth cd H locs k n (vx_MQ below (pQ D κ (pA L0 s.heap.size) post) (pX D κ (pA L0 s.heap.size) xp) args s R.cells R.slots (pA L0 s.heap.size)) (F0 m (pc + 3) ls (.ref a0 :: st)) := lv_iload_n hx.1 hx.2.1 d3 rfl (hl.2.2 1 _ rfl) (lv_i2c hx.1 hx.2.1 d4 (iI_16 hc) kz)
  intro T hT X
  obtain ⟨t9, a1, b1⟩ := k4 T hT X
  exact ⟨t9, X.ldcStringW hx.1 hown (text := "fbFBaemxwWkrcyptusgn_") (a := a0) hVR.1 hVR.2 (g := F0 m pc ls st) rfl (by rw [hx.2.1]; exact d0) t9 a1, b1⟩
def ltL : List Int := [102, 98, 70, 66, 97, 101, 109, 120, 119, 87, 107, 114, 99, 121, 112, 116, 117, 115, 103, 110, 95]
def isLb (c : Int) : Bool := ltL.contains c
theorem isLb_no {c : Int} (h : 0 ≤ c ∧ c ≤ 127) : (∀ j, 0 ≤ j → j < 21 → ltZ j ≠ c) ↔ isLb c = false := by
  have z : ∀ k : Nat, k < 128 → ((∀ j : Nat, j < 21 → ltZ (j : Int) ≠ (k : Int)) ↔ isLb (k : Int) = false) := by decide +kernel
  have z := z c.toNat (by omega)
  rw [Int.toNat_of_nonneg h.1] at z
  rw [← z]
  exact ⟨fun q j hj => q j (by omega) (by omega), fun q j h0 h1 => by have := q j.toNat (by omega); rwa [Int.toNat_of_nonneg h0] at this⟩
def sgB (s c : Int) : Int := if s = -1 then -1 else if s = 2 then 0 else if c = 39 then 2 else if isLb c = true then 0 else if s = 0 ∧ 50 ≤ c ∧ c ≤ 57 then 1 else -1
theorem sgB_rg {s c : Int} : -1 ≤ sgB s c ∧ sgB s c ≤ 2 := by unfold sgB; (repeat' split) <;> omega
set_option maxRecDepth 100000 in
set_option maxHeartbeats 4000000 in
theorem m_X7_isNumber (l : Launch) {L : List Nat} {F : Nat → PE} {c : Int} (hc : -2147483648 ≤ c ∧ c ≤ 2147483647) : PM l yX7_isNumber cX7_isNumber 1 (some .boolean) (rm 1 0 0) L [.int (iI c)] F (fun v9 L1 F1 => v9 = some (.int (iI (b2 (50 ≤ c ∧ c ≤ 57)))) ∧ L = L1 ∧ F = F1) (fun _ _ _ => False) := by
  refine pm_of cd_X7_isNumber (by decide +kernel) (Nat.le_of_ble_eq_true rfl) (fun ZZ hZ => ?_)
  have hgo : ZZ 0 0 0 [some (.int (iI c))] [] L F := by
    refine z_iload_n0 hZ dX7_isNumber_0 ?_
    refine z_bipush hZ dX7_isNumber_1 rfl ?_
    refine z_icmp_lt hZ (tgt := 16) dX7_isNumber_3 rfl (by omega) (fun hc3 => ?_) (fun hc3 => ?_)
    · refine z_iconst hZ dX7_isNumber_16 ?_
      exact z_zret hZ rfl (Nat.le_of_ble_eq_true rfl) (Nat.le_of_ble_eq_true rfl) dX7_isNumber_17 (by omega) (by exact ⟨pv (by first | exact (b2_t (by omega)).symm | exact (b2_f (by omega)).symm), rfl, rfl⟩)
    · refine z_iload_n0 hZ dX7_isNumber_6 ?_
      refine z_bipush hZ dX7_isNumber_7 rfl ?_
      refine z_icmp_gt hZ (tgt := 16) dX7_isNumber_9 rfl (by omega) (fun hc9 => ?_) (fun hc9 => ?_)
      · refine z_iconst hZ dX7_isNumber_16 ?_
        exact z_zret hZ rfl (Nat.le_of_ble_eq_true rfl) (Nat.le_of_ble_eq_true rfl) dX7_isNumber_17 (by omega) (by exact ⟨pv (by first | exact (b2_t (by omega)).symm | exact (b2_f (by omega)).symm), rfl, rfl⟩)
      · refine z_iconst hZ dX7_isNumber_12 ?_
        refine z_goto hZ (tgt := 17) dX7_isNumber_13 rfl ?_
        exact z_zret hZ rfl (Nat.le_of_ble_eq_true rfl) (Nat.le_of_ble_eq_true rfl) dX7_isNumber_17 (by omega) (by exact ⟨pv (by first | exact (b2_t (by omega)).symm | exact (b2_f (by omega)).symm), rfl, rfl⟩)
  exact hgo
set_option maxRecDepth 100000 in
set_option maxHeartbeats 4000000 in
theorem m_X7_stageBehind (l : Launch) {L : List Nat} {F : Nat → PE} {s c : Int} (hs : -1 ≤ s ∧ s ≤ 2) (hc : 0 ≤ c ∧ c ≤ 127) : PM l yX7_stageBehind cX7_stageBehind 2 (some .int) (rm 6 0 0) L [.int (iI s), .int (iI c)] F (fun v9 L1 F1 => v9 = some (.int (iI (sgB s c))) ∧ L = L1 ∧ F = F1) (fun _ _ _ => False) := by
  refine pm_of cd_X7_stageBehind (by decide +kernel) (Nat.le_of_ble_eq_true rfl) (fun ZZ hZ => ?_)
  have hgo : ZZ 0 0 0 [some (.int (iI s)), some (.int (iI c))] [] L F := by
    have k30 : ∀ r : Int, -1 ≤ r → r < 21 → (r = -1 ↔ ∀ j, 0 ≤ j → j < 21 → ltZ j ≠ c) → ¬ s = -1 → ¬ s = 2 → ¬ c = 39 → ZZ 0 0 30 [some (.int (iI s)), some (.int (iI c))] [.int (iI r)] L F := by
      intro r r1 r2 r3 q1 q2 q3
      rw [isLb_no hc] at r3
      refine z_if_lt hZ (tgt := 35) dX7_stageBehind_30 rfl (by omega) (fun hc30 => ?_) (fun hc30 => ?_)
      · refine z_iload_n0 hZ dX7_stageBehind_35 ?_
        refine z_if_ne hZ (tgt := 50) dX7_stageBehind_36 rfl (by omega) (fun hc36 => ?_) (fun hc36 => ?_)
        · have e0 : isLb c = false := r3.mp (by omega)
          refine z_iconst hZ dX7_stageBehind_50 ?_
          exact z_iret hZ rfl (Nat.le_of_ble_eq_true rfl) (Nat.le_of_ble_eq_true rfl) dX7_stageBehind_51 (by exact ⟨pv (by unfold sgB; rw [if_neg q1, if_neg q2, if_neg q3, if_neg (by rw [r3.mp (by omega)]; decide)]; first | exact (if_neg (by omega)).symm | exact (if_pos (by omega)).symm), rfl, rfl⟩)
        · refine z_iload_n1 hZ dX7_stageBehind_39 ?_
          refine z_cS hZ (As := [_]) rfl dX7_stageBehind_40 ml_X7_321 wy_X7_isNumber (m_X7_isNumber l (by omega)) ⟨Nat.le_of_ble_eq_true rfl, Nat.le_of_ble_eq_true rfl⟩ ⟨Nat.le_of_ble_eq_true rfl, Nat.le_of_ble_eq_true rfl⟩ (Nat.le_of_ble_eq_true rfl) (fun _ _ _ h => h.elim) (fun v40 L40 G40 hp40 => ?_)
          obtain ⟨rfl, rfl, rfl⟩ := hp40
          refine z_if_eq_b hZ (tgt := 50) dX7_stageBehind_43 rfl (fun hc43 => ?_) (fun hc43 => ?_)
          · have e0 : isLb c = false := r3.mp (by omega)
            refine z_iconst hZ dX7_stageBehind_50 ?_
            exact z_iret hZ rfl (Nat.le_of_ble_eq_true rfl) (Nat.le_of_ble_eq_true rfl) dX7_stageBehind_51 (by exact ⟨pv (by unfold sgB; rw [if_neg q1, if_neg q2, if_neg q3, if_neg (by rw [r3.mp (by omega)]; decide)]; first | exact (if_neg (by omega)).symm | exact (if_pos (by omega)).symm), rfl, rfl⟩)
          · refine z_iconst hZ dX7_stageBehind_46 ?_
            refine z_goto hZ (tgt := 51) dX7_stageBehind_47 rfl ?_
            exact z_iret hZ rfl (Nat.le_of_ble_eq_true rfl) (Nat.le_of_ble_eq_true rfl) dX7_stageBehind_51 (by exact ⟨pv (by unfold sgB; rw [if_neg q1, if_neg q2, if_neg q3, if_neg (by rw [r3.mp (by omega)]; decide)]; first | exact (if_neg (by omega)).symm | exact (if_pos (by omega)).symm), rfl, rfl⟩)
      · refine z_iconst hZ dX7_stageBehind_33 ?_
        exact z_iret hZ rfl (Nat.le_of_ble_eq_true rfl) (Nat.le_of_ble_eq_true rfl) dX7_stageBehind_34 (by exact ⟨pv (by unfold sgB; rw [if_neg q1, if_neg q2, if_neg q3, if_pos (by cases h : isLb c; exact absurd (r3.mpr h) (by omega); rfl)]), rfl, rfl⟩)
    refine z_iload_n0 hZ dX7_stageBehind_0 ?_
    refine z_iconst hZ dX7_stageBehind_1 ?_
    refine z_icmp_ne hZ (tgt := 7) dX7_stageBehind_2 rfl (by omega) (fun hc2 => ?_) (fun hc2 => ?_)
    · refine z_iload_n0 hZ dX7_stageBehind_7 ?_
      refine z_iconst hZ dX7_stageBehind_8 ?_
      refine z_icmp_ne hZ (tgt := 14) dX7_stageBehind_9 rfl (by omega) (fun hc9 => ?_) (fun hc9 => ?_)
      · refine z_iload_n1 hZ dX7_stageBehind_14 ?_
        refine z_bipush hZ dX7_stageBehind_15 rfl ?_
        refine z_icmp_ne hZ (tgt := 22) dX7_stageBehind_17 rfl (by omega) (fun hc17 => ?_) (fun hc17 => ?_)
        · exact z_strIdx hZ rfl hc dX7_stageBehind_22 dX7_stageBehind_25 dX7_stageBehind_26 dX7_stageBehind_27 ⟨Nat.le_of_ble_eq_true rfl, Nat.le_of_ble_eq_true rfl⟩ ⟨Nat.le_of_ble_eq_true rfl, Nat.le_of_ble_eq_true rfl⟩ (Nat.le_of_ble_eq_true rfl) (fun r r1 r2 r3 => k30 r r1 r2 r3 (by omega) (by omega) (by omega))
        · refine z_iconst hZ dX7_stageBehind_20 ?_
          exact z_iret hZ rfl (Nat.le_of_ble_eq_true rfl) (Nat.le_of_ble_eq_true rfl) dX7_stageBehind_21 (by exact ⟨pv (by unfold sgB; rw [if_neg (by omega), if_neg (by omega), if_pos (by omega)]), rfl, rfl⟩)
      · refine z_iconst hZ dX7_stageBehind_12 ?_
        exact z_iret hZ rfl (Nat.le_of_ble_eq_true rfl) (Nat.le_of_ble_eq_true rfl) dX7_stageBehind_13 (by exact ⟨pv (by unfold sgB; rw [if_neg (by omega), if_pos (by omega)]), rfl, rfl⟩)
    · refine z_iconst hZ dX7_stageBehind_5 ?_
      exact z_iret hZ rfl (Nat.le_of_ble_eq_true rfl) (Nat.le_of_ble_eq_true rfl) dX7_stageBehind_6 (by exact ⟨pv (if_pos (by omega)).symm, rfl, rfl⟩)
  exact hgo

