/-! THE BITS OF A MEAN, 2; THE DIGEST. -/
theorem lL_tI (x : Int64) : x = lL x.toInt := by
  obtain ⟨z, h1, h2, rfl⟩ := lL_of x
  rw [lL_toInt h1 h2]
theorem lL_nat (n : Nat) : Int64.ofNat n = lL (n : Int) := by
  unfold lL
  exact (Int64.ofInt_eq_ofNat (n := n)).symm
theorem n64_v {r : UInt64} (h : n64 r = true) : vf_n64 r := by
  have z : r &&& 0x7fffffffffffffff ≤ 0x7ff0000000000000 := of_decide_eq_true h
  exact z
theorem dlt_t {r q : UInt64} (h : dlt r q = true) : Op.cmpValue (FP.dcmp r q) .l < 0 := of_decide_eq_true h
theorem dlt_f {r q : UInt64} (h : ¬ dlt r q = true) : ¬ Op.cmpValue (FP.dcmp r q) .l < 0 := fun z => h (decide_eq_true z)
theorem smH_lo {hl : Int → Int} : ∀ k : Nat, (∀ i : Nat, i < k → 1 ≤ hl (i : Int)) → (k : Int) ≤ smH hl k
  | 0, _ => Int.le_refl _
  | k + 1, h => by
    have z := smH_lo k (fun i hi => h i (by omega))
    have z2 := h k (by omega)
    show ((k + 1 : Nat) : Int) ≤ smH hl k + hl k
    omega
def btA (v : Int → Int) : Int := if 0 < v 3 then (mB (wgA v).toNat (v 3).toNat : Int) else 0
theorem wg_rg {v : Int → Int} {kd : Int} (hi : iv v kd) (h3 : 0 ≤ v 3 ∧ v 3 ≤ 8) : v 3 ≤ wgA v ∧ wgA v ≤ 200 * v 3 := by
  have z := smH_rg (hl := fun i => v (10 + i)) (v 3).toNat (fun i _ i1 => by have := hi.1 (i : Int) (by omega) (by omega); exact ⟨by omega, this.2⟩)
  have z2 := smH_lo (hl := fun i => v (10 + i)) (v 3).toNat (fun i i1 => (hi.1 (i : Int) (by omega) (by omega)).1)
  unfold wgA
  omega
theorem mn_ok {v : Int → Int} {kd : Int} (hi : iv v kd) (h3 : 0 < v 3 ∧ v 3 ≤ 8) : n64 (mnD v) = true ∧ ¬ dlt (mnD v) d1 = true ∧ bok 8 (mnD v) = true ∧ n64 (FP.dsub (bLp 8 (mnD v) 1023).1 d1) = true ∧ n64 (FP.dmul (FP.dsub (bLp 8 (mnD v) 1023).1 d1) d52) = true ∧ bO (mnD v) = lL (btA v) := by
  have wr := wg_rg hi (by omega)
  have z := chk_all (c := (v 3).toNat) (s := (wgA v).toNat) (by omega) (by omega)
  unfold chk at z
  rw [Int.toNat_of_nonneg (by omega), Int.toNat_of_nonneg (by omega)] at z
  have e : FP.ddiv (FP.i2d (iI (wgA v))) (FP.i2d (iI (v 3))) = mnD v := (if_pos h3.1).symm
  rw [e] at z
  simp only [Bool.and_eq_true, Bool.not_eq_true', decide_eq_true_eq] at z
  obtain ⟨⟨⟨⟨⟨z1, z2⟩, z3⟩, z4⟩, z5⟩, z6⟩ := z
  exact ⟨z1, by rw [z2]; decide, z3, z4, z5, by rw [z6, lL_nat]; unfold btA; rw [if_pos h3.1]⟩
set_option maxRecDepth 100000 in
set_option maxHeartbeats 4000000 in
theorem m_X7_meanHoard (l : Launch) {L : List Nat} {F : Nat → PE} {K : Nat → Nat} {v : Int → Int} {kd sv n : Int} {H Q : Int → Int → Int} {kp bf : Int → Int} (t : dr L F K v kd sv H kp Q n bf) : PM l yX7_meanHoard cX7_meanHoard 2 (some .double) (rm 4 0 0) L [.ref (K 0)] F (fun v9 L1 F1 => v9 = some (.double (mnD v)) ∧ L = L1 ∧ F = F1) (fun _ _ _ => False) := by
  refine pm_of cd_X7_meanHoard (by decide +kernel) (Nat.le_of_ble_eq_true rfl) (fun ZZ hZ => ?_)
  have hgo : ZZ 0 0 0 [some (.ref (K 0)), none] [] L F := by
    have lK := t.L
    have l0 := lK 0 (by omega)
    have l1 := lK 1 (by omega)
    have rg := t.S.1.rg
    obtain ⟨S0, h0, lS, -⟩ := t.S
    have o1 : F (K 1) = _ := S0.ob
    have m4 := lS 4 (by omega)
    obtain ⟨π, hlH, hf, w, r, tt, c1, hR, hh, hA, he, hO, hi⟩ := S0
    have hR4 := hR.1
    have ewg : smH hlH (v 3).toNat = wgA v := smH_cg _ (fun i i0 i1 => (hh i i0 (by omega)).1)
    by_cases q : 0 < v 3
    · have em : mnD v = FP.ddiv (FP.i2d (iI (wgA v))) (FP.i2d (iI (v 3))) := if_pos q
      have nn := n64_v (mn_ok hi ⟨q, by omega⟩).1
      rw [em] at nn
      refine z_aload_n0 hZ dX7_meanHoard_0 ?_
      refine z_gf_X7_now hZ dX7_meanHoard_1 fl_X7_10 (by assumption) (by assumption) ?_
      refine z_gf_X5_ring hZ dX7_meanHoard_4 fl_X7_236 (by assumption) (by assumption) ?_
      refine z_gf_X3_count hZ dX7_meanHoard_7 fl_X7_240 (by assumption) (by assumption) ?_
      refine z_istore_n1 hZ dX7_meanHoard_10 (by decide) rfl ?_
      refine z_iload_n1 hZ dX7_meanHoard_11 ?_
      refine z_if_le hZ (tgt := 32) dX7_meanHoard_12 rfl (by omega) (fun hc12 => ?_) (fun hc12 => ?_)
      · exfalso; omega
      · refine z_aload_n0 hZ dX7_meanHoard_15 ?_
        refine z_gf_X7_now hZ dX7_meanHoard_16 fl_X7_10 (by assumption) (by assumption) ?_
        refine z_gf_X5_ring hZ dX7_meanHoard_19 fl_X7_236 (by assumption) (by assumption) ?_
        refine z_cV hZ (As := []) rfl dX7_meanHoard_22 ml_X7_260 wy_X3_allCodes (m_X3_allCodes l lS hR) (by assumption) (by assumption) rfl ⟨Nat.le_of_ble_eq_true rfl, Nat.le_of_ble_eq_true rfl⟩ ⟨Nat.le_of_ble_eq_true rfl, Nat.le_of_ble_eq_true rfl⟩ (Nat.le_of_ble_eq_true rfl) (fun _ _ _ h => h.elim) (fun v22 L22 G22 hp22 => ?_)
        obtain ⟨rfl, rfl, rfl⟩ := hp22
        rw [ewg]
        refine z_i2d hZ dX7_meanHoard_25 ?_
        refine z_iload_n1 hZ dX7_meanHoard_26 ?_
        refine z_i2d hZ dX7_meanHoard_27 ?_
        refine z_ddiv hZ dX7_meanHoard_28 (by assumption) ?_
        refine z_goto hZ (tgt := 33) dX7_meanHoard_29 rfl ?_
        exact z_dret hZ rfl (Nat.le_of_ble_eq_true rfl) (Nat.le_of_ble_eq_true rfl) dX7_meanHoard_33 (by exact ⟨by rw [em], rfl, rfl⟩)
    · have em : mnD v = FP.dconst0 := if_neg q
      refine z_aload_n0 hZ dX7_meanHoard_0 ?_
      refine z_gf_X7_now hZ dX7_meanHoard_1 fl_X7_10 (by assumption) (by assumption) ?_
      refine z_gf_X5_ring hZ dX7_meanHoard_4 fl_X7_236 (by assumption) (by assumption) ?_
      refine z_gf_X3_count hZ dX7_meanHoard_7 fl_X7_240 (by assumption) (by assumption) ?_
      refine z_istore_n1 hZ dX7_meanHoard_10 (by decide) rfl ?_
      refine z_iload_n1 hZ dX7_meanHoard_11 ?_
      refine z_if_le hZ (tgt := 32) dX7_meanHoard_12 rfl (by omega) (fun hc12 => ?_) (fun hc12 => ?_)
      · refine z_dconst0 hZ dX7_meanHoard_32 ?_
        exact z_dret hZ rfl (Nat.le_of_ble_eq_true rfl) (Nat.le_of_ble_eq_true rfl) dX7_meanHoard_33 (by exact ⟨by rw [em], rfl, rfl⟩)
      · exfalso; omega
  exact hgo
set_option maxRecDepth 100000 in
set_option maxHeartbeats 4000000 in
theorem m_X7_bits0 (l : Launch) {L : List Nat} {F : Nat → PE} : PM l yX7_bitsOf cX7_bitsOf 7 (some .long) (rm 1 0 0) L [.double FP.dconst0] F (fun v9 L1 F1 => v9 = some (.long (lL 0)) ∧ L = L1 ∧ F = F1) (fun _ _ _ => False) := by
  refine pm_of cd_X7_bitsOf (by decide +kernel) (Nat.le_of_ble_eq_true rfl) (fun ZZ hZ => ?_)
  have hgo : ZZ 0 0 0 [some (.double FP.dconst0), none, none, none, none, none, none] [] L F := by
    refine z_dload_n0 hZ dX7_bitsOf_0 ?_
    refine z_dconst1 hZ dX7_bitsOf_1 ?_
    refine z_dcmp hZ dX7_bitsOf_2 ?_
    refine z_if_ge_raw hZ (tgt := 8) dX7_bitsOf_3 rfl (fun hc3 => ?_) (fun hc3 => ?_)
    · exact absurd hc3 (by decide +kernel)
    · refine z_lconst hZ (v := 0) dX7_bitsOf_6 rfl ?_
      exact z_lret hZ rfl (Nat.le_of_ble_eq_true rfl) (Nat.le_of_ble_eq_true rfl) dX7_bitsOf_7 (by exact ⟨rfl, rfl, rfl⟩)
  exact hgo
set_option maxRecDepth 100000 in
set_option maxHeartbeats 4000000 in
theorem m_X7_bitsOf (l : Launch) {L : List Nat} {F : Nat → PE} {m : UInt64} (g1 : ¬ dlt m d1 = true) (g2 : bok 8 m = true) (g3 : n64 (FP.dsub (bLp 8 m 1023).1 d1) = true) (g4 : n64 (FP.dmul (FP.dsub (bLp 8 m 1023).1 d1) d52) = true) : PM l yX7_bitsOf cX7_bitsOf 7 (some .long) (rm 1 0 0) L [.double m] F (fun v9 L1 F1 => v9 = some (.long (bO m)) ∧ L = L1 ∧ F = F1) (fun _ _ _ => False) := by
  refine pm_of cd_X7_bitsOf (by decide +kernel) (Nat.le_of_ble_eq_true rfl) (fun ZZ hZ => ?_)
  have hgo : ZZ 0 0 0 [some (.double m), none, none, none, none, none, none] [] L F := by
    have tail : ∀ (r : UInt64) (e : Nat) (i : Int), n64 (FP.dsub r d1) = true → n64 (FP.dmul (FP.dsub r d1) d52) = true → (Int64.ofNat e <<< 52) + FP.d2l (FP.dmul (FP.dsub r d1) d52) = bO m → ZZ 0 0 52 [some (.double m), none, some (.double r), none, some (.long (lL e)), none, some (.int (iI i))] [] L F := by
      intro r e i n1 n2 hfin
      have n1 := n64_v n1
      have n2 := n64_v n2
      refine z_lload4 hZ dX7_bitsOf_52 ?_
      refine z_bipush hZ dX7_bitsOf_54 rfl ?_
      refine z_lshl hZ dX7_bitsOf_56 (show _ = lL e <<< (52 : Int64) from by rw [show ((iI 52).toInt64 &&& 63 : Int64) = 52 from by decide +kernel]) ?_
      refine z_dload_n2 hZ dX7_bitsOf_57 ?_
      refine z_dconst1 hZ dX7_bitsOf_58 ?_
      refine z_dsub hZ dX7_bitsOf_59 (by assumption) ?_
      refine z_ldc2d hZ dX7_bitsOf_60 kd_X7_390 ?_
      refine z_dmul hZ dX7_bitsOf_63 (by assumption) ?_
      refine z_d2l hZ dX7_bitsOf_64 ?_
      obtain ⟨xa, hxa⟩ : ∃ x, lL (e : Int) <<< (52 : Int64) = lL x := ⟨_, lL_tI _⟩
      obtain ⟨xb, hxb⟩ : ∃ x, FP.d2l (FP.dmul (FP.dsub r d1) d52) = lL x := ⟨_, lL_tI _⟩
      rw [hxa]
      rw [show FP.d2l (FP.dmul (FP.dsub r FP.dconst1) 4841369599423283200) = lL xb from hxb]
      refine z_ladd hZ dX7_bitsOf_65 ?_
      exact z_lret hZ rfl (Nat.le_of_ble_eq_true rfl) (Nat.le_of_ble_eq_true rfl) dX7_bitsOf_66 (by exact ⟨by rw [← hfin, lL_nat, hxa, hxb, lL_add], rfl, rfl⟩)
    have loop : ∀ (k : Nat) (r : UInt64) (e : Nat) (i : Int), bok k r = true → 0 ≤ i → i + k ≤ 1000 → n64 (FP.dsub (bLp k r e).1 d1) = true → n64 (FP.dmul (FP.dsub (bLp k r e).1 d1) d52) = true → (Int64.ofNat (bLp k r e).2 <<< 52) + FP.d2l (FP.dmul (FP.dsub (bLp k r e).1 d1) d52) = bO m → ZZ 0 0 18 [some (.double m), none, some (.double r), none, some (.long (lL e)), none, some (.int (iI i))] [] L F := by
      intro k
      induction k with
      | zero =>
        intro r e i hb i0 i1 n1 n2 hfin
        refine z_iload6 hZ dX7_bitsOf_18 ?_
        refine z_sipush hZ dX7_bitsOf_20 rfl ?_
        refine z_icmp_ge hZ (tgt := 52) dX7_bitsOf_23 rfl (by omega) (fun hc23 => ?_) (fun hc23 => ?_)
        · exact tail r e i n1 n2 hfin
        · refine z_dload_n2 hZ dX7_bitsOf_26 ?_
          refine z_ldc2d hZ dX7_bitsOf_27 kd_X7_388 ?_
          refine z_dcmp hZ dX7_bitsOf_30 ?_
          refine z_if_lt_raw hZ (tgt := 52) dX7_bitsOf_31 rfl (fun hc31 => ?_) (fun hc31 => ?_)
          · exact tail r e i n1 n2 hfin
          · exact absurd (dlt_t hb) hc31
      | succ k ih =>
        intro r e i hb i0 i1 n1 n2 hfin
        by_cases q : dlt r d2 = true
        · have eb : bLp (k + 1) r e = (r, e) := if_pos q
          rw [eb] at n1 n2 hfin
          refine z_iload6 hZ dX7_bitsOf_18 ?_
          refine z_sipush hZ dX7_bitsOf_20 rfl ?_
          refine z_icmp_ge hZ (tgt := 52) dX7_bitsOf_23 rfl (by omega) (fun hc23 => ?_) (fun hc23 => ?_)
          · exfalso; omega
          · refine z_dload_n2 hZ dX7_bitsOf_26 ?_
            refine z_ldc2d hZ dX7_bitsOf_27 kd_X7_388 ?_
            refine z_dcmp hZ dX7_bitsOf_30 ?_
            refine z_if_lt_raw hZ (tgt := 52) dX7_bitsOf_31 rfl (fun hc31 => ?_) (fun hc31 => ?_)
            · exact tail r e i n1 n2 hfin
            · exact absurd (dlt_t q) hc31
        · have eb : bLp (k + 1) r e = bLp k (FP.ddiv r d2) (e + 1) := if_neg q
          rw [eb] at n1 n2 hfin
          have hb2 : (dlt r d2 || (n64 (FP.ddiv r d2) && bok k (FP.ddiv r d2))) = true := hb
          simp only [Bool.or_eq_true, Bool.and_eq_true] at hb2
          have hb3 := hb2.resolve_left q
          have nn := n64_v hb3.1
          refine z_iload6 hZ dX7_bitsOf_18 ?_
          refine z_sipush hZ dX7_bitsOf_20 rfl ?_
          refine z_icmp_ge hZ (tgt := 52) dX7_bitsOf_23 rfl (by omega) (fun hc23 => ?_) (fun hc23 => ?_)
          · exfalso; omega
          · refine z_dload_n2 hZ dX7_bitsOf_26 ?_
            refine z_ldc2d hZ dX7_bitsOf_27 kd_X7_388 ?_
            refine z_dcmp hZ dX7_bitsOf_30 ?_
            refine z_if_lt_raw hZ (tgt := 52) dX7_bitsOf_31 rfl (fun hc31 => ?_) (fun hc31 => ?_)
            · exact absurd hc31 (dlt_f q)
            · refine z_dload_n2 hZ dX7_bitsOf_34 ?_
              refine z_ldc2d hZ dX7_bitsOf_35 kd_X7_388 ?_
              refine z_ddiv hZ dX7_bitsOf_38 (by assumption) ?_
              refine z_dstore_n2 hZ dX7_bitsOf_39 (by decide) rfl ?_
              refine z_lload4 hZ dX7_bitsOf_40 ?_
              refine z_lconst hZ (v := 1) dX7_bitsOf_42 rfl ?_
              refine z_ladd hZ dX7_bitsOf_43 ?_
              refine z_lstore4 hZ dX7_bitsOf_44 (by decide) rfl ?_
              refine z_iinc6 hZ dX7_bitsOf_46 (by decide) rfl ?_
              refine z_goto hZ (tgt := 18) dX7_bitsOf_49 rfl ?_
              exact ih _ (e + 1) (i + 1) hb3.2 (by omega) (by omega) n1 n2 hfin
    refine z_dload_n0 hZ dX7_bitsOf_0 ?_
    refine z_dconst1 hZ dX7_bitsOf_1 ?_
    refine z_dcmp hZ dX7_bitsOf_2 ?_
    refine z_if_ge_raw hZ (tgt := 8) dX7_bitsOf_3 rfl (fun hc3 => ?_) (fun hc3 => ?_)
    · refine z_dload_n0 hZ dX7_bitsOf_8 ?_
      refine z_dstore_n2 hZ dX7_bitsOf_9 (by decide) rfl ?_
      refine z_ldc2 hZ dX7_bitsOf_10 kl_X7_386 ?_
      rw [show (1023 : Int64) = lL ((1023 : Nat) : Int) from rfl]
      refine z_lstore4 hZ dX7_bitsOf_13 (by decide) rfl ?_
      refine z_iconst hZ dX7_bitsOf_15 ?_
      refine z_istore6 hZ dX7_bitsOf_16 (by decide) rfl ?_
      exact loop 8 m 1023 0 g2 (by omega) (by omega) g3 g4 rfl
    · exact absurd (by assumption) (fun z => g1 (decide_eq_true (Int32.not_le.mp z)))
  exact hgo

