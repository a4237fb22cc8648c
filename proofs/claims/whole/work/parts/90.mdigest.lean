/-! THE MODEL, 12: bits, the digest. -/
theorem pvl {a b : Int} (h : a = b) : some (Value.long (lL a)) = some (Value.long (lL b)) := by rw [h]
theorem cmpL {a b : Int} (ha : -4611686018427387904 ≤ a ∧ a ≤ 4611686018427387904) (hb : -4611686018427387904 ≤ b ∧ b ≤ 4611686018427387904) : ∃ z, lg_cmp (lL a) (lL b) = iI z ∧ (-1 ≤ z ∧ z ≤ 1) ∧ (z < 0 ↔ a < b) ∧ (z = 0 ↔ a = b) := by
  have ea := lL_toInt (z := a) (by omega) (by omega)
  have eb := lL_toInt (z := b) (by omega) (by omega)
  rcases Int.lt_trichotomy a b with q | q | q
  · refine ⟨-1, ?_, by omega, by omega, by omega⟩
    unfold lg_cmp
    rw [if_neg (by rw [gt_iff_lt, Int64.lt_iff_toInt_lt]; omega), if_neg (by rw [← Int64.toInt_inj]; omega)]
    rfl
  · refine ⟨0, ?_, by omega, by omega, by omega⟩
    unfold lg_cmp
    rw [if_neg (by rw [gt_iff_lt, Int64.lt_iff_toInt_lt]; omega), if_pos (by rw [← Int64.toInt_inj]; omega)]
    rfl
  · refine ⟨1, ?_, by omega, by omega, by omega⟩
    unfold lg_cmp
    rw [if_pos (by rw [gt_iff_lt, Int64.lt_iff_toInt_lt]; omega)]
    rfl
theorem lL_ne {c : Nat} (h : 0 < c ∧ c ≤ 1000) : ¬ lL (c : Int) = 0 := fun e => by
  have z := congrArg Int64.toInt e
  rw [lL_toInt (by omega) (by omega), show (0 : Int64).toInt = 0 from rfl] at z
  omega
theorem lL_div {a b d : Nat} (hd : d = a / b) (ha : a ≤ 4611686018427387904) (hb : b ≤ 4611686018427387904) : lL (a : Int) / lL (b : Int) = lL (d : Int) := by
  have hda : d ≤ a := by rw [hd]; exact Nat.div_le_self a b
  apply Int64.toInt_inj.mp
  rw [Int64.toInt_div, lL_toInt (by omega) (by omega), lL_toInt (by omega) (by omega), lL_toInt (by omega) (by omega), Int.tdiv_eq_ediv_of_nonneg (by omega), ← Int.natCast_ediv, ← hd]
  apply Int.bmod_eq_of_le <;> omega
theorem lL_rem {a b m : Nat} (hm : m = a % b) (ha : a ≤ 4611686018427387904) (hb : b ≤ 4611686018427387904) : lL (a : Int) - lL (a : Int) / lL (b : Int) * lL (b : Int) = lL (m : Int) := by
  rw [lL_div rfl ha hb, lL_mul, lL_sub]
  congr 1
  have z := Nat.mod_add_div a b
  rw [Nat.mul_comm] at z
  rw [hm, ← Int.natCast_mul]
  omega
set_option maxRecDepth 100000 in
set_option maxHeartbeats 4000000 in
theorem m_X8_meanHoard (l : Launch) {L : List Nat} {F : Nat → PE} {x a q c : Nat} {g : Int → Int} {sv th kd n pt tm sg : Int} {kp bf : Int → Int} (o : mo L F x a q c g sv th kd n pt tm sg kp bf) (v : vf g kd) : PM l yX8_meanHoard cX8_meanHoard 1 (some .double) (rm 2 0 0) L [.ref x] F (fun v9 L1 F1 => v9 = some (.double (mnD g)) ∧ L = L1 ∧ fm x a q c F F1 ∧ mo L F1 x a q c g sv 0 kd n pt tm sg kp bf) (fun _ _ _ => False) := by
  refine pm_of cd_X8_meanHoard (by decide +kernel) (Nat.le_of_ble_eq_true rfl) (fun ZZ hZ => ?_)
  have hgo : ZZ 0 0 0 [some (.ref x)] [] L F := by
    obtain ⟨A, hF, hg, hQ, hC⟩ := id o
    obtain ⟨⟨hx, ha, hqL, hcL⟩, hxa, hxq, hxc, haq, hac, hqc⟩ := id A
    have t := ms.of hx ha hxa hF hg
    have fr : fm x a q c F F := fm.rf
    have r := v.1
    by_cases q3 : 0 < g 3
    · have em : mnD g = FP.ddiv (FP.i2d (iI (wgA g))) (FP.i2d (iI (g 3))) := if_pos q3
      have nn := n64_v (mn_ok v.2.1 ⟨q3, by omega⟩).1
      rw [em] at nn
      refine z_aload_n0 hZ dX8_meanHoard_0 ?_
      refine z_iconst hZ dX8_meanHoard_1 ?_
      refine z_pf_X8_thrown hZ dX8_meanHoard_2 fl_X8_21 (by assumption) (by assumption) (fun F2 hF2 hf2 => ?_)
      have hF := hF2
      have hg := (hf2 a (Ne.symm hxa)).trans hg
      have hQ := (hf2 q (Ne.symm hxq)).trans hQ
      have hC := (hf2 c (Ne.symm hxc)).trans hC
      have t := ms.of hx ha hxa hF hg
      have fr := fm.x fr hf2
      refine z_aload_n0 hZ dX8_meanHoard_5 ?_
      refine z_gf_X8_s hZ dX8_meanHoard_6 fl_X8_7 (by assumption) (by assumption) ?_
      refine z_iconst hZ dX8_meanHoard_9 ?_
      refine z_iald hZ dX8_meanHoard_10 (by assumption) (by assumption) (by omega) (by rfl) ?_
      refine z_if_ne hZ (tgt := 18) dX8_meanHoard_11 rfl (by omega) (fun hc11 => ?_) (fun hc11 => ?_)
      · refine z_aload_n0 hZ dX8_meanHoard_18 ?_
        refine z_cV hZ (As := []) rfl dX8_meanHoard_19 ml_X8_202 wy_X8_sum (m_X8_sum l t v) (by assumption) (by assumption) rfl ⟨Nat.le_of_ble_eq_true rfl, Nat.le_of_ble_eq_true rfl⟩ ⟨Nat.le_of_ble_eq_true rfl, Nat.le_of_ble_eq_true rfl⟩ (Nat.le_of_ble_eq_true rfl) (fun _ _ _ h => h.elim) (fun v19 L19 G19 hp19 => ?_)
        obtain ⟨rfl, rfl, rfl⟩ := hp19
        refine z_i2d hZ dX8_meanHoard_22 ?_
        refine z_aload_n0 hZ dX8_meanHoard_23 ?_
        refine z_gf_X8_s hZ dX8_meanHoard_24 fl_X8_7 (by assumption) (by assumption) ?_
        refine z_iconst hZ dX8_meanHoard_27 ?_
        refine z_iald hZ dX8_meanHoard_28 (by assumption) (by assumption) (by omega) (by rfl) ?_
        refine z_i2d hZ dX8_meanHoard_29 ?_
        refine z_ddiv hZ dX8_meanHoard_30 (by assumption) ?_
        exact z_dret hZ rfl (Nat.le_of_ble_eq_true rfl) (Nat.le_of_ble_eq_true rfl) dX8_meanHoard_31 (by exact ⟨by rw [em], rfl, fr, A, hF, hg, hQ, hC⟩)
      · exfalso; omega
    · have em : mnD g = FP.dconst0 := if_neg q3
      refine z_aload_n0 hZ dX8_meanHoard_0 ?_
      refine z_iconst hZ dX8_meanHoard_1 ?_
      refine z_pf_X8_thrown hZ dX8_meanHoard_2 fl_X8_21 (by assumption) (by assumption) (fun F2 hF2 hf2 => ?_)
      have hF := hF2
      have hg := (hf2 a (Ne.symm hxa)).trans hg
      have hQ := (hf2 q (Ne.symm hxq)).trans hQ
      have hC := (hf2 c (Ne.symm hxc)).trans hC
      have t := ms.of hx ha hxa hF hg
      have fr := fm.x fr hf2
      refine z_aload_n0 hZ dX8_meanHoard_5 ?_
      refine z_gf_X8_s hZ dX8_meanHoard_6 fl_X8_7 (by assumption) (by assumption) ?_
      refine z_iconst hZ dX8_meanHoard_9 ?_
      refine z_iald hZ dX8_meanHoard_10 (by assumption) (by assumption) (by omega) (by rfl) ?_
      refine z_if_ne hZ (tgt := 18) dX8_meanHoard_11 rfl (by omega) (fun hc11 => ?_) (fun hc11 => ?_)
      · exfalso; omega
      · refine z_dconst0 hZ dX8_meanHoard_14 ?_
        refine z_goto hZ (tgt := 31) dX8_meanHoard_15 rfl ?_
        exact z_dret hZ rfl (Nat.le_of_ble_eq_true rfl) (Nat.le_of_ble_eq_true rfl) dX8_meanHoard_31 (by exact ⟨by rw [em], rfl, fr, A, hF, hg, hQ, hC⟩)
  exact hgo
set_option maxRecDepth 100000 in
set_option maxHeartbeats 4000000 in
theorem m_X8_bits (l : Launch) {L : List Nat} {F : Nat → PE} {s c : Nat} (h : 1 ≤ c ∧ c ≤ 8 ∧ c ≤ s ∧ s ≤ 1600) : PM l yX8_bits cX8_bits 9 (some .long) (rm 1 0 0) L [.int (iI (s : Int)), .int (iI (c : Int))] F (fun v9 L1 F1 => v9 = some (.long (lL ((mB s c : Nat) : Int))) ∧ L = L1 ∧ F = F1) (fun _ _ _ => False) := by
  refine pm_of cd_X8_bits (by decide +kernel) (Nat.le_of_ble_eq_true rfl) (fun ZZ hZ => ?_)
  have hgo : ZZ 0 0 0 [some (.int (iI (s : Int))), some (.int (iI (c : Int))), none, none, none, none, none, none, none] [] L F := by
    have t105 : ∀ (hh f t r2 : Int), -100 ≤ hh → hh ≤ 100 → (1075 - hh) * 4503599627370496 + (f - 4503599627370496) = ((mB s c : Nat) : Int) → ZZ 0 0 105 [some (.int (iI (s : Int))), some (.int (iI (c : Int))), some (.long (lL t)), none, some (.int (iI hh)), some (.long (lL f)), none, some (.long (lL r2)), none] [] L F := by
      intro hh f t r2 h0 h1 hx
      refine z_sipush hZ dX8_bits_105 rfl ?_
      refine z_iload4 hZ dX8_bits_108 ?_
      refine z_isub hZ dX8_bits_110 ?_
      refine z_i2l hZ dX8_bits_111 (by omega) ?_
      refine z_ldc2 hZ dX8_bits_112 kl_X8_208 ?_
      rw [show (4503599627370496 : Int64) = lL 4503599627370496 from rfl]
      refine z_lmul hZ dX8_bits_115 ?_
      refine z_lload5 hZ dX8_bits_116 ?_
      refine z_ldc2 hZ dX8_bits_118 kl_X8_208 ?_
      rw [show (4503599627370496 : Int64) = lL 4503599627370496 from rfl]
      refine z_lsub hZ dX8_bits_121 ?_
      refine z_ladd hZ dX8_bits_122 ?_
      exact z_lret hZ rfl (Nat.le_of_ble_eq_true rfl) (Nat.le_of_ble_eq_true rfl) dX8_bits_123 (by exact ⟨pvl hx, rfl, rfl⟩)
    have t88 : ∀ (t hh : Nat) (f r2 : Int), mbL 60 c s 0 = (t, hh) → f = ((mbF c t : Nat) : Int) → 4503599627370496 ≤ f → f ≤ 144115188075855872 → 1 ≤ hh → hh ≤ 60 → ZZ 0 0 88 [some (.int (iI (s : Int))), some (.int (iI (c : Int))), some (.long (lL (t : Int))), none, some (.int (iI (hh : Int))), some (.long (lL f)), none, some (.long (lL r2)), none] [] L F := by
      intro t hh f r2 hmb hf f0 f1 h0 h1
      have em : mB s c = if mbF c t = 9007199254740992 then (1075 - (hh - 1)) * 4503599627370496 else (1075 - hh) * 4503599627370496 + (mbF c t - 4503599627370496) := by unfold mB; rw [hmb]
      refine z_lload5 hZ dX8_bits_88 ?_
      refine z_ldc2 hZ dX8_bits_90 kl_X8_212 ?_
      rw [show (9007199254740992 : Int64) = lL 9007199254740992 from rfl]
      refine z_lcmp hZ dX8_bits_93 ?_
      obtain ⟨z93, e93, p93, l93, q93⟩ := cmpL (a := f) (b := 9007199254740992) (by omega) (by omega)
      rw [e93]
      refine z_if_ne hZ (tgt := 105) dX8_bits_94 rfl (by omega) (fun hc94 => ?_) (fun hc94 => ?_)
      · exact t105 _ _ _ _ (by omega) (by omega) (by rw [em, if_neg (by omega)]; omega)
      · refine z_ldc2 hZ dX8_bits_97 kl_X8_208 ?_
        rw [show (4503599627370496 : Int64) = lL 4503599627370496 from rfl]
        refine z_lstore5 hZ dX8_bits_100 (by decide) rfl ?_
        refine z_iinc4 hZ dX8_bits_102 (by decide) rfl ?_
        exact t105 _ _ _ _ (by omega) (by omega) (by rw [em, if_pos (by omega)]; omega)
    have t35 : ∀ (t hh : Nat), mbL 60 c s 0 = (t, hh) → 4503599627370496 ≤ t / c → t < 72057594037927936 → (hh = 0 → t ≤ 1600) → hh ≤ 60 → ZZ 0 0 35 [some (.int (iI (s : Int))), some (.int (iI (c : Int))), some (.long (lL (t : Int))), none, some (.int (iI (hh : Int))), none, none, none, none] [] L F := by
      intro t hh hmb h52 ht h0 h1
      obtain ⟨d, hd⟩ : ∃ d, d = t / c := ⟨_, rfl⟩
      obtain ⟨m, hm⟩ : ∃ m, m = t % c := ⟨_, rfl⟩
      have hmc : m < c := by rw [hm]; exact Nat.mod_lt _ (by omega)
      have hdt : d ≤ t := by rw [hd]; exact Nat.div_le_self t c
      rw [← hd] at h52
      have eF : mbF c t = d + (if m * 2 > c ∨ (m * 2 = c ∧ d % 2 = 1) then 1 else 0) := by unfold mbF; rw [← hd, ← hm]
      have hF1 : (m * 2 > c ∨ (m * 2 = c ∧ d % 2 = 1)) → mbF c t = d + 1 := fun z => by rw [eF, if_pos z]
      have hF0 : ¬ (m * 2 > c ∨ (m * 2 = c ∧ d % 2 = 1)) → mbF c t = d := fun z => by rw [eF, if_neg z, Nat.add_zero]
      refine z_lload_n2 hZ dX8_bits_35 ?_
      refine z_iload_n1 hZ dX8_bits_36 ?_
      refine z_i2l hZ dX8_bits_37 (by omega) ?_
      refine z_ldiv hZ dX8_bits_38 (lL_ne (by omega)) (lL_div hd (by omega) (by omega)) ?_
      refine z_lstore5 hZ dX8_bits_39 (by decide) rfl ?_
      refine z_lload_n2 hZ dX8_bits_41 ?_
      refine z_iload_n1 hZ dX8_bits_42 ?_
      refine z_i2l hZ dX8_bits_43 (by omega) ?_
      refine z_lrem hZ dX8_bits_44 (lL_ne (by omega)) (lL_rem hm (by omega) (by omega)) ?_
      refine z_ldc2 hZ dX8_bits_45 kl_X8_210 ?_
      rw [show (2 : Int64) = lL 2 from rfl]
      refine z_lmul hZ dX8_bits_48 ?_
      refine z_lstore7 hZ dX8_bits_49 (by decide) rfl ?_
      refine z_lload5 hZ dX8_bits_51 ?_
      refine z_lload7 hZ dX8_bits_53 ?_
      refine z_iload_n1 hZ dX8_bits_55 ?_
      refine z_i2l hZ dX8_bits_56 (by omega) ?_
      refine z_lcmp hZ dX8_bits_57 ?_
      obtain ⟨z57, e57, p57, l57, q57⟩ := cmpL (a := (m : Int) * 2) (b := (c : Int)) (by omega) (by omega)
      rw [e57]
      refine z_if_gt hZ (tgt := 80) dX8_bits_58 rfl (by omega) (fun hc58 => ?_) (fun hc58 => ?_)
      · refine z_lconst hZ (v := 1) dX8_bits_80 rfl ?_
        refine z_goto hZ (tgt := 85) dX8_bits_81 rfl ?_
        refine z_ladd hZ dX8_bits_85 ?_
        refine z_lstore5 hZ dX8_bits_86 (by decide) rfl ?_
        first
          | exact t88 t hh _ _ hmb (by rw [hF1 (by omega)]; omega) (by omega) (by omega) (by omega) (by omega)
          | exact t88 t hh _ _ hmb (by rw [hF0 (by omega)]; omega) (by omega) (by omega) (by omega) (by omega)
      · refine z_lload7 hZ dX8_bits_61 ?_
        refine z_iload_n1 hZ dX8_bits_63 ?_
        refine z_i2l hZ dX8_bits_64 (by omega) ?_
        refine z_lcmp hZ dX8_bits_65 ?_
        obtain ⟨z65, e65, p65, l65, q65⟩ := cmpL (a := (m : Int) * 2) (b := (c : Int)) (by omega) (by omega)
        rw [e65]
        refine z_if_ne hZ (tgt := 84) dX8_bits_66 rfl (by omega) (fun hc66 => ?_) (fun hc66 => ?_)
        · refine z_lconst hZ (v := 0) dX8_bits_84 rfl ?_
          refine z_ladd hZ dX8_bits_85 ?_
          refine z_lstore5 hZ dX8_bits_86 (by decide) rfl ?_
          first
            | exact t88 t hh _ _ hmb (by rw [hF1 (by omega)]; omega) (by omega) (by omega) (by omega) (by omega)
            | exact t88 t hh _ _ hmb (by rw [hF0 (by omega)]; omega) (by omega) (by omega) (by omega) (by omega)
        · refine z_lload5 hZ dX8_bits_69 ?_
          refine z_ldc2 hZ dX8_bits_71 kl_X8_210 ?_
          rw [show (2 : Int64) = lL ((2 : Nat) : Int) from rfl]
          refine z_lrem hZ dX8_bits_74 (lL_ne (by omega)) (lL_rem (m := d % 2) rfl (by omega) (by omega)) ?_
          refine z_lconst hZ (v := 1) dX8_bits_75 rfl ?_
          refine z_lcmp hZ dX8_bits_76 ?_
          obtain ⟨z76, e76, p76, l76, q76⟩ := cmpL (a := ((d % 2 : Nat) : Int)) (b := 1) (by omega) (by omega)
          rw [e76]
          refine z_if_ne hZ (tgt := 84) dX8_bits_77 rfl (by omega) (fun hc77 => ?_) (fun hc77 => ?_)
          · refine z_lconst hZ (v := 0) dX8_bits_84 rfl ?_
            refine z_ladd hZ dX8_bits_85 ?_
            refine z_lstore5 hZ dX8_bits_86 (by decide) rfl ?_
            first
              | exact t88 t hh _ _ hmb (by rw [hF1 (by omega)]; omega) (by omega) (by omega) (by omega) (by omega)
              | exact t88 t hh _ _ hmb (by rw [hF0 (by omega)]; omega) (by omega) (by omega) (by omega) (by omega)
          · refine z_lconst hZ (v := 1) dX8_bits_80 rfl ?_
            refine z_goto hZ (tgt := 85) dX8_bits_81 rfl ?_
            refine z_ladd hZ dX8_bits_85 ?_
            refine z_lstore5 hZ dX8_bits_86 (by decide) rfl ?_
            first
              | exact t88 t hh _ _ hmb (by rw [hF1 (by omega)]; omega) (by omega) (by omega) (by omega) (by omega)
              | exact t88 t hh _ _ hmb (by rw [hF0 (by omega)]; omega) (by omega) (by omega) (by omega) (by omega)
    have loop : ∀ (k t hh p : Nat), mbL k c t hh = mbL 60 c s 0 → c * p ≤ t → p * 2 ^ k = 2 ^ 60 → t < 72057594037927936 → (hh = 0 → t ≤ 1600) → hh + k = 60 → ZZ 0 0 12 [some (.int (iI (s : Int))), some (.int (iI (c : Int))), some (.long (lL (t : Int))), none, some (.int (iI (hh : Int))), none, none, none, none] [] L F := by
      intro k
      induction k with
      | zero =>
        intro t hh p hmb hp h2 ht h0 h1
        exfalso
        have z : p ≤ c * p := Nat.le_mul_of_pos_left p (by omega)
        rw [Nat.pow_zero, Nat.mul_one] at h2
        omega
      | succ k ih =>
        intro t hh p hmb hp h2 ht h0 h1
        obtain ⟨d, hd⟩ : ∃ d, d = t / c := ⟨_, rfl⟩
        have hdt : d ≤ t := by rw [hd]; exact Nat.div_le_self t c
        have go : d < 4503599627370496 → mbL (k + 1) c t hh = mbL k c (2 * t) (hh + 1) := fun z => if_pos (by rw [← hd]; exact z)
        have st : ¬ d < 4503599627370496 → mbL (k + 1) c t hh = (t, hh) := fun z => if_neg (by rw [← hd]; exact z)
        have lt : d < 4503599627370496 → t < 4503599627370496 * 8 := fun z => by
          have y := (Nat.div_lt_iff_lt_mul (show 0 < c by omega)).mp (hd ▸ z : t / c < 4503599627370496)
          have w := Nat.mul_le_mul_left 4503599627370496 h.2.1
          omega
        have e3 : 2 * p * 2 ^ k = 2 ^ 60 := by rw [← h2, Nat.pow_succ]; rw [Nat.mul_comm 2 p, Nat.mul_assoc, Nat.mul_comm 2]
        have e4 : c * (2 * p) ≤ 2 * t := by rw [Nat.mul_left_comm]; omega
        refine z_lload_n2 hZ dX8_bits_12 ?_
        refine z_iload_n1 hZ dX8_bits_13 ?_
        refine z_i2l hZ dX8_bits_14 (by omega) ?_
        refine z_ldiv hZ dX8_bits_15 (lL_ne (by omega)) (lL_div hd (by omega) (by omega)) ?_
        refine z_ldc2 hZ dX8_bits_16 kl_X8_208 ?_
        rw [show (4503599627370496 : Int64) = lL 4503599627370496 from rfl]
        refine z_lcmp hZ dX8_bits_19 ?_
        obtain ⟨z19, e19, p19, l19, q19⟩ := cmpL (a := (d : Int)) (b := 4503599627370496) (by omega) (by omega)
        rw [e19]
        refine z_if_ge hZ (tgt := 35) dX8_bits_20 rfl (by omega) (fun hc20 => ?_) (fun hc20 => ?_)
        · exact t35 t hh (hmb.symm.trans (st (by omega))) (by rw [← hd]; omega) ht h0 (by omega)
        · refine z_ldc2 hZ dX8_bits_23 kl_X8_210 ?_
          rw [show (2 : Int64) = lL 2 from rfl]
          refine z_lload_n2 hZ dX8_bits_26 ?_
          refine z_lmul hZ dX8_bits_27 ?_
          refine z_lstore_n2 hZ dX8_bits_28 (by decide) rfl ?_
          refine z_iinc4 hZ dX8_bits_29 (by decide) rfl ?_
          refine z_goto hZ (tgt := 12) dX8_bits_32 rfl ?_
          have hl := lt (by omega)
          have z := ih (2 * t) (hh + 1) (2 * p) ((go (by omega)).symm.trans hmb) e4 e3 (by omega) (by omega) (by omega)
          rw [show ((2 * t : Nat) : Int) = 2 * (t : Int) by omega, show ((hh + 1 : Nat) : Int) = (hh : Int) + 1 by omega] at z
          exact z
    refine z_iload_n0 hZ dX8_bits_0 ?_
    refine z_if_ne hZ (tgt := 6) dX8_bits_1 rfl (by omega) (fun hc1 => ?_) (fun hc1 => ?_)
    · refine z_iload_n0 hZ dX8_bits_6 ?_
      refine z_i2l hZ dX8_bits_7 (by omega) ?_
      refine z_lstore_n2 hZ dX8_bits_8 (by decide) rfl ?_
      refine z_iconst hZ dX8_bits_9 ?_
      refine z_istore4 hZ dX8_bits_10 (by decide) rfl ?_
      exact loop 60 s 0 1 rfl (by omega) (by omega) (by omega) (fun _ => by omega) rfl
    · exfalso; omega
  exact hgo
set_option maxRecDepth 100000 in
set_option maxHeartbeats 4000000 in
theorem m_X8_hashOfScroll (l : Launch) {L : List Nat} {F : Nat → PE} {x a : Nat} {g : Int → Int} {kd : Int} (t : ms L F x a g kd) (v : vf g kd) : PM l yX8_hashOfScroll cX8_hashOfScroll 4 (some .long) (rm 5 0 0) L [.ref x] F (fun v9 L1 F1 => v9 = some (.long (lL (hSc 4457 g))) ∧ L = L1 ∧ F = F1) (fun _ _ _ => False) := by
  refine pm_of cd_X8_hashOfScroll (by decide +kernel) (Nat.le_of_ble_eq_true rfl) (fun ZZ hZ => ?_)
  have hgo : ZZ 0 0 0 [some (.ref x), none, none, none] [] L F := by
    have t1 := t
    obtain ⟨⟨hx, ha', hxa⟩, ⟨w1, w2, w3, w5, w6, w7, w8, w9, hF⟩, hg⟩ := t1
    have r := v.1
    have qr := qr_rg (v := g) (by omega)
    have a1 := cn_rg (P := isE (g 0) (fT g)) (g 0).toNat
    have a2 := cn_rg (P := isE (g 0) (fT g)) (g 1).toNat
    have a5 := lB_rg (n := g 0) (f := fT g) (p := g 1) (by omega)
    have ab : 0 ≤ abI (g 2 - g 1) ∧ abI (g 2 - g 1) ≤ 201 := by unfold abI; split <;> omega
    have f1 : g 2 < 0 → fmA (g 2) (g 1) = -1 := fun z => if_pos (by omega)
    have f2 : 0 ≤ g 2 → fmA (g 2) (g 1) = abI (g 2 - g 1) := fun z => if_neg (by omega)
    have tail : ∀ i : Int, ZZ 0 0 49 [some (.ref x), some (.long (lL (hT 4457 (g 0) (fT g)))), none, some (.int (iI i))] [] L F := by
      intro i
      obtain ⟨h, eh⟩ : ∃ h, h = hT 4457 (g 0) (fT g) := ⟨_, rfl⟩
      rw [← eh]
      refine z_ldc2 hZ dX8_hashOfScroll_49 kl_X8_216 ?_
      rw [show (31 : Int64) = lL 31 from rfl]
      refine z_lload_n1 hZ dX8_hashOfScroll_52 ?_
      refine z_lmul hZ dX8_hashOfScroll_53 ?_
      refine z_aload_n0 hZ dX8_hashOfScroll_54 ?_
      refine z_gf_X8_s hZ dX8_hashOfScroll_55 fl_X8_7 (by assumption) (by assumption) ?_
      refine z_iconst hZ dX8_hashOfScroll_58 ?_
      refine z_iald hZ dX8_hashOfScroll_59 (by assumption) (by assumption) (by omega) (by rfl) ?_
      refine z_i2l hZ dX8_hashOfScroll_60 (by omega) ?_
      refine z_ladd hZ dX8_hashOfScroll_61 ?_
      refine z_lstore_n1 hZ dX8_hashOfScroll_62 (by decide) rfl ?_
      refine z_ldc2 hZ dX8_hashOfScroll_63 kl_X8_216 ?_
      rw [show (31 : Int64) = lL 31 from rfl]
      refine z_lload_n1 hZ dX8_hashOfScroll_66 ?_
      refine z_lmul hZ dX8_hashOfScroll_67 ?_
      refine z_aload_n0 hZ dX8_hashOfScroll_68 ?_
      refine z_gf_X8_s hZ dX8_hashOfScroll_69 fl_X8_7 (by assumption) (by assumption) ?_
      refine z_iconst hZ dX8_hashOfScroll_72 ?_
      refine z_iald hZ dX8_hashOfScroll_73 (by assumption) (by assumption) (by omega) (by rfl) ?_
      refine z_i2l hZ dX8_hashOfScroll_74 (by omega) ?_
      refine z_ladd hZ dX8_hashOfScroll_75 ?_
      refine z_lconst hZ (v := 1) dX8_hashOfScroll_76 rfl ?_
      refine z_ladd hZ dX8_hashOfScroll_77 ?_
      refine z_lstore_n1 hZ dX8_hashOfScroll_78 (by decide) rfl ?_
      refine z_ldc2 hZ dX8_hashOfScroll_79 kl_X8_216 ?_
      rw [show (31 : Int64) = lL 31 from rfl]
      refine z_lload_n1 hZ dX8_hashOfScroll_82 ?_
      refine z_lmul hZ dX8_hashOfScroll_83 ?_
      refine z_aload_n0 hZ dX8_hashOfScroll_84 ?_
      refine z_gf_X8_s hZ dX8_hashOfScroll_85 fl_X8_7 (by assumption) (by assumption) ?_
      refine z_iconst hZ dX8_hashOfScroll_88 ?_
      refine z_iald hZ dX8_hashOfScroll_89 (by assumption) (by assumption) (by omega) (by rfl) ?_
      refine z_if_ge hZ (tgt := 97) dX8_hashOfScroll_90 rfl (by omega) (fun hc90 => ?_) (fun hc90 => ?_)
      · have fm := f2 (by omega)
        refine z_aload_n0 hZ dX8_hashOfScroll_97 ?_
        refine z_cV hZ (As := []) rfl dX8_hashOfScroll_98 ml_X8_84 wy_X8_apart (m_X8_apart l t (by omega)) (by assumption) (by assumption) rfl ⟨Nat.le_of_ble_eq_true rfl, Nat.le_of_ble_eq_true rfl⟩ ⟨Nat.le_of_ble_eq_true rfl, Nat.le_of_ble_eq_true rfl⟩ (Nat.le_of_ble_eq_true rfl) (fun _ _ _ h => h.elim) (fun v98 L98 G98 hp98 => ?_)
        obtain ⟨rfl, rfl, rfl⟩ := hp98
        refine z_iconst hZ dX8_hashOfScroll_101 ?_
        refine z_iadd hZ dX8_hashOfScroll_102 ?_
        refine z_i2l hZ dX8_hashOfScroll_103 (by omega) ?_
        refine z_ladd hZ dX8_hashOfScroll_104 ?_
        refine z_lstore_n1 hZ dX8_hashOfScroll_105 (by decide) rfl ?_
        refine z_ldc2 hZ dX8_hashOfScroll_106 kl_X8_216 ?_
        rw [show (31 : Int64) = lL 31 from rfl]
        refine z_lload_n1 hZ dX8_hashOfScroll_109 ?_
        refine z_lmul hZ dX8_hashOfScroll_110 ?_
        refine z_aload_n0 hZ dX8_hashOfScroll_111 ?_
        refine z_aload_n0 hZ dX8_hashOfScroll_112 ?_
        refine z_gf_X8_s hZ dX8_hashOfScroll_113 fl_X8_7 (by assumption) (by assumption) ?_
        refine z_iconst hZ dX8_hashOfScroll_116 ?_
        refine z_iald hZ dX8_hashOfScroll_117 (by assumption) (by assumption) (by omega) (by rfl) ?_
        refine z_cV hZ (As := [_]) rfl dX8_hashOfScroll_118 ml_X8_190 wy_X8_endsUntil (m_X8_endsUntil l t v (by omega)) (by assumption) (by assumption) rfl ⟨Nat.le_of_ble_eq_true rfl, Nat.le_of_ble_eq_true rfl⟩ ⟨Nat.le_of_ble_eq_true rfl, Nat.le_of_ble_eq_true rfl⟩ (Nat.le_of_ble_eq_true rfl) (fun _ _ _ h => h.elim) (fun v118 L118 G118 hp118 => ?_)
        obtain ⟨rfl, rfl, rfl⟩ := hp118
        refine z_i2l hZ dX8_hashOfScroll_121 (by omega) ?_
        refine z_ladd hZ dX8_hashOfScroll_122 ?_
        refine z_lconst hZ (v := 1) dX8_hashOfScroll_123 rfl ?_
        refine z_ladd hZ dX8_hashOfScroll_124 ?_
        refine z_lstore_n1 hZ dX8_hashOfScroll_125 (by decide) rfl ?_
        refine z_ldc2 hZ dX8_hashOfScroll_126 kl_X8_216 ?_
        rw [show (31 : Int64) = lL 31 from rfl]
        refine z_lload_n1 hZ dX8_hashOfScroll_129 ?_
        refine z_lmul hZ dX8_hashOfScroll_130 ?_
        refine z_aload_n0 hZ dX8_hashOfScroll_131 ?_
        refine z_aload_n0 hZ dX8_hashOfScroll_132 ?_
        refine z_gf_X8_s hZ dX8_hashOfScroll_133 fl_X8_7 (by assumption) (by assumption) ?_
        refine z_iconst hZ dX8_hashOfScroll_136 ?_
        refine z_iald hZ dX8_hashOfScroll_137 (by assumption) (by assumption) (by omega) (by rfl) ?_
        refine z_cV hZ (As := [_]) rfl dX8_hashOfScroll_138 ml_X8_190 wy_X8_endsUntil (m_X8_endsUntil l t v (by omega)) (by assumption) (by assumption) rfl ⟨Nat.le_of_ble_eq_true rfl, Nat.le_of_ble_eq_true rfl⟩ ⟨Nat.le_of_ble_eq_true rfl, Nat.le_of_ble_eq_true rfl⟩ (Nat.le_of_ble_eq_true rfl) (fun _ _ _ h => h.elim) (fun v138 L138 G138 hp138 => ?_)
        obtain ⟨rfl, rfl, rfl⟩ := hp138
        refine z_i2l hZ dX8_hashOfScroll_141 (by omega) ?_
        refine z_ladd hZ dX8_hashOfScroll_142 ?_
        refine z_lconst hZ (v := 1) dX8_hashOfScroll_143 rfl ?_
        refine z_ladd hZ dX8_hashOfScroll_144 ?_
        refine z_lstore_n1 hZ dX8_hashOfScroll_145 (by decide) rfl ?_
        refine z_ldc2 hZ dX8_hashOfScroll_146 kl_X8_216 ?_
        rw [show (31 : Int64) = lL 31 from rfl]
        refine z_lload_n1 hZ dX8_hashOfScroll_149 ?_
        refine z_lmul hZ dX8_hashOfScroll_150 ?_
        refine z_aload_n0 hZ dX8_hashOfScroll_151 ?_
        refine z_aload_n0 hZ dX8_hashOfScroll_152 ?_
        refine z_gf_X8_s hZ dX8_hashOfScroll_153 fl_X8_7 (by assumption) (by assumption) ?_
        refine z_iconst hZ dX8_hashOfScroll_156 ?_
        refine z_iald hZ dX8_hashOfScroll_157 (by assumption) (by assumption) (by omega) (by rfl) ?_
        refine z_cV hZ (As := [_]) rfl dX8_hashOfScroll_158 ml_X8_190 wy_X8_endsUntil (m_X8_endsUntil l t v (by omega)) (by assumption) (by assumption) rfl ⟨Nat.le_of_ble_eq_true rfl, Nat.le_of_ble_eq_true rfl⟩ ⟨Nat.le_of_ble_eq_true rfl, Nat.le_of_ble_eq_true rfl⟩ (Nat.le_of_ble_eq_true rfl) (fun _ _ _ h => h.elim) (fun v158 L158 G158 hp158 => ?_)
        obtain ⟨rfl, rfl, rfl⟩ := hp158
        refine z_i2l hZ dX8_hashOfScroll_161 (by omega) ?_
        refine z_ladd hZ dX8_hashOfScroll_162 ?_
        refine z_lstore_n1 hZ dX8_hashOfScroll_163 (by decide) rfl ?_
        refine z_ldc2 hZ dX8_hashOfScroll_164 kl_X8_216 ?_
        rw [show (31 : Int64) = lL 31 from rfl]
        refine z_lload_n1 hZ dX8_hashOfScroll_167 ?_
        refine z_lmul hZ dX8_hashOfScroll_168 ?_
        refine z_aload_n0 hZ dX8_hashOfScroll_169 ?_
        refine z_gf_X8_s hZ dX8_hashOfScroll_170 fl_X8_7 (by assumption) (by assumption) ?_
        refine z_iconst hZ dX8_hashOfScroll_173 ?_
        refine z_iald hZ dX8_hashOfScroll_174 (by assumption) (by assumption) (by omega) (by rfl) ?_
        refine z_i2l hZ dX8_hashOfScroll_175 (by omega) ?_
        refine z_ladd hZ dX8_hashOfScroll_176 ?_
        refine z_aload_n0 hZ dX8_hashOfScroll_177 ?_
        refine z_aload_n0 hZ dX8_hashOfScroll_178 ?_
        refine z_gf_X8_s hZ dX8_hashOfScroll_179 fl_X8_7 (by assumption) (by assumption) ?_
        refine z_iconst hZ dX8_hashOfScroll_182 ?_
        refine z_iald hZ dX8_hashOfScroll_183 (by assumption) (by assumption) (by omega) (by rfl) ?_
        refine z_cV hZ (As := [_]) rfl dX8_hashOfScroll_184 ml_X8_61 wy_X8_beginOf (m_X8_beginOf l t v (by omega)) (by assumption) (by assumption) rfl ⟨Nat.le_of_ble_eq_true rfl, Nat.le_of_ble_eq_true rfl⟩ ⟨Nat.le_of_ble_eq_true rfl, Nat.le_of_ble_eq_true rfl⟩ (Nat.le_of_ble_eq_true rfl) (fun _ _ _ h => h.elim) (fun v184 L184 G184 hp184 => ?_)
        obtain ⟨rfl, rfl, rfl⟩ := hp184
        refine z_i2l hZ dX8_hashOfScroll_187 (by omega) ?_
        refine z_lsub hZ dX8_hashOfScroll_188 ?_
        refine z_lstore_n1 hZ dX8_hashOfScroll_189 (by decide) rfl ?_
        refine z_ldc2 hZ dX8_hashOfScroll_190 kl_X8_216 ?_
        rw [show (31 : Int64) = lL 31 from rfl]
        refine z_lload_n1 hZ dX8_hashOfScroll_193 ?_
        refine z_lmul hZ dX8_hashOfScroll_194 ?_
        refine z_aload_n0 hZ dX8_hashOfScroll_195 ?_
        refine z_cV hZ (As := []) rfl dX8_hashOfScroll_196 ml_X8_193 wy_X8_longest (m_X8_longest l t v) (by assumption) (by assumption) rfl ⟨Nat.le_of_ble_eq_true rfl, Nat.le_of_ble_eq_true rfl⟩ ⟨Nat.le_of_ble_eq_true rfl, Nat.le_of_ble_eq_true rfl⟩ (Nat.le_of_ble_eq_true rfl) (fun _ _ _ h => h.elim) (fun v196 L196 G196 hp196 => ?_)
        obtain ⟨rfl, rfl, rfl⟩ := hp196
        refine z_i2l hZ dX8_hashOfScroll_199 (by omega) ?_
        refine z_ladd hZ dX8_hashOfScroll_200 ?_
        refine z_lstore_n1 hZ dX8_hashOfScroll_201 (by decide) rfl ?_
        refine z_ldc2 hZ dX8_hashOfScroll_202 kl_X8_216 ?_
        rw [show (31 : Int64) = lL 31 from rfl]
        refine z_lload_n1 hZ dX8_hashOfScroll_205 ?_
        refine z_lmul hZ dX8_hashOfScroll_206 ?_
        refine z_aload_n0 hZ dX8_hashOfScroll_207 ?_
        refine z_cV hZ (As := []) rfl dX8_hashOfScroll_208 ml_X8_196 wy_X8_words (m_X8_words l t v) (by assumption) (by assumption) rfl ⟨Nat.le_of_ble_eq_true rfl, Nat.le_of_ble_eq_true rfl⟩ ⟨Nat.le_of_ble_eq_true rfl, Nat.le_of_ble_eq_true rfl⟩ (Nat.le_of_ble_eq_true rfl) (fun _ _ _ h => h.elim) (fun v208 L208 G208 hp208 => ?_)
        obtain ⟨rfl, rfl, rfl⟩ := hp208
        refine z_i2l hZ dX8_hashOfScroll_211 (by omega) ?_
        refine z_ladd hZ dX8_hashOfScroll_212 ?_
        refine z_lstore_n1 hZ dX8_hashOfScroll_213 (by decide) rfl ?_
        refine z_ldc2 hZ dX8_hashOfScroll_214 kl_X8_216 ?_
        rw [show (31 : Int64) = lL 31 from rfl]
        refine z_lload_n1 hZ dX8_hashOfScroll_217 ?_
        refine z_lmul hZ dX8_hashOfScroll_218 ?_
        refine z_aload_n0 hZ dX8_hashOfScroll_219 ?_
        refine z_cV hZ (As := []) rfl dX8_hashOfScroll_220 ml_X8_196 wy_X8_words (m_X8_words l t v) (by assumption) (by assumption) rfl ⟨Nat.le_of_ble_eq_true rfl, Nat.le_of_ble_eq_true rfl⟩ ⟨Nat.le_of_ble_eq_true rfl, Nat.le_of_ble_eq_true rfl⟩ (Nat.le_of_ble_eq_true rfl) (fun _ _ _ h => h.elim) (fun v220 L220 G220 hp220 => ?_)
        obtain ⟨rfl, rfl, rfl⟩ := hp220
        refine z_i2l hZ dX8_hashOfScroll_223 (by omega) ?_
        refine z_ladd hZ dX8_hashOfScroll_224 ?_
        refine z_lstore_n1 hZ dX8_hashOfScroll_225 (by decide) rfl ?_
        refine z_lload_n1 hZ dX8_hashOfScroll_226 ?_
        exact z_lret hZ rfl (Nat.le_of_ble_eq_true rfl) (Nat.le_of_ble_eq_true rfl) dX8_hashOfScroll_227 (by
            refine ⟨pvl ?_, rfl, rfl⟩
            unfold hSc
            rw [← eh, fm]
            unfold ha lnA liA
            omega)
      · have fm := f1 (by omega)
        refine z_iconst hZ dX8_hashOfScroll_93 ?_
        refine z_goto hZ (tgt := 103) dX8_hashOfScroll_94 rfl ?_
        refine z_i2l hZ dX8_hashOfScroll_103 (by omega) ?_
        refine z_ladd hZ dX8_hashOfScroll_104 ?_
        refine z_lstore_n1 hZ dX8_hashOfScroll_105 (by decide) rfl ?_
        refine z_ldc2 hZ dX8_hashOfScroll_106 kl_X8_216 ?_
        rw [show (31 : Int64) = lL 31 from rfl]
        refine z_lload_n1 hZ dX8_hashOfScroll_109 ?_
        refine z_lmul hZ dX8_hashOfScroll_110 ?_
        refine z_aload_n0 hZ dX8_hashOfScroll_111 ?_
        refine z_aload_n0 hZ dX8_hashOfScroll_112 ?_
        refine z_gf_X8_s hZ dX8_hashOfScroll_113 fl_X8_7 (by assumption) (by assumption) ?_
        refine z_iconst hZ dX8_hashOfScroll_116 ?_
        refine z_iald hZ dX8_hashOfScroll_117 (by assumption) (by assumption) (by omega) (by rfl) ?_
        refine z_cV hZ (As := [_]) rfl dX8_hashOfScroll_118 ml_X8_190 wy_X8_endsUntil (m_X8_endsUntil l t v (by omega)) (by assumption) (by assumption) rfl ⟨Nat.le_of_ble_eq_true rfl, Nat.le_of_ble_eq_true rfl⟩ ⟨Nat.le_of_ble_eq_true rfl, Nat.le_of_ble_eq_true rfl⟩ (Nat.le_of_ble_eq_true rfl) (fun _ _ _ h => h.elim) (fun v118 L118 G118 hp118 => ?_)
        obtain ⟨rfl, rfl, rfl⟩ := hp118
        refine z_i2l hZ dX8_hashOfScroll_121 (by omega) ?_
        refine z_ladd hZ dX8_hashOfScroll_122 ?_
        refine z_lconst hZ (v := 1) dX8_hashOfScroll_123 rfl ?_
        refine z_ladd hZ dX8_hashOfScroll_124 ?_
        refine z_lstore_n1 hZ dX8_hashOfScroll_125 (by decide) rfl ?_
        refine z_ldc2 hZ dX8_hashOfScroll_126 kl_X8_216 ?_
        rw [show (31 : Int64) = lL 31 from rfl]
        refine z_lload_n1 hZ dX8_hashOfScroll_129 ?_
        refine z_lmul hZ dX8_hashOfScroll_130 ?_
        refine z_aload_n0 hZ dX8_hashOfScroll_131 ?_
        refine z_aload_n0 hZ dX8_hashOfScroll_132 ?_
        refine z_gf_X8_s hZ dX8_hashOfScroll_133 fl_X8_7 (by assumption) (by assumption) ?_
        refine z_iconst hZ dX8_hashOfScroll_136 ?_
        refine z_iald hZ dX8_hashOfScroll_137 (by assumption) (by assumption) (by omega) (by rfl) ?_
        refine z_cV hZ (As := [_]) rfl dX8_hashOfScroll_138 ml_X8_190 wy_X8_endsUntil (m_X8_endsUntil l t v (by omega)) (by assumption) (by assumption) rfl ⟨Nat.le_of_ble_eq_true rfl, Nat.le_of_ble_eq_true rfl⟩ ⟨Nat.le_of_ble_eq_true rfl, Nat.le_of_ble_eq_true rfl⟩ (Nat.le_of_ble_eq_true rfl) (fun _ _ _ h => h.elim) (fun v138 L138 G138 hp138 => ?_)
        obtain ⟨rfl, rfl, rfl⟩ := hp138
        refine z_i2l hZ dX8_hashOfScroll_141 (by omega) ?_
        refine z_ladd hZ dX8_hashOfScroll_142 ?_
        refine z_lconst hZ (v := 1) dX8_hashOfScroll_143 rfl ?_
        refine z_ladd hZ dX8_hashOfScroll_144 ?_
        refine z_lstore_n1 hZ dX8_hashOfScroll_145 (by decide) rfl ?_
        refine z_ldc2 hZ dX8_hashOfScroll_146 kl_X8_216 ?_
        rw [show (31 : Int64) = lL 31 from rfl]
        refine z_lload_n1 hZ dX8_hashOfScroll_149 ?_
        refine z_lmul hZ dX8_hashOfScroll_150 ?_
        refine z_aload_n0 hZ dX8_hashOfScroll_151 ?_
        refine z_aload_n0 hZ dX8_hashOfScroll_152 ?_
        refine z_gf_X8_s hZ dX8_hashOfScroll_153 fl_X8_7 (by assumption) (by assumption) ?_
        refine z_iconst hZ dX8_hashOfScroll_156 ?_
        refine z_iald hZ dX8_hashOfScroll_157 (by assumption) (by assumption) (by omega) (by rfl) ?_
        refine z_cV hZ (As := [_]) rfl dX8_hashOfScroll_158 ml_X8_190 wy_X8_endsUntil (m_X8_endsUntil l t v (by omega)) (by assumption) (by assumption) rfl ⟨Nat.le_of_ble_eq_true rfl, Nat.le_of_ble_eq_true rfl⟩ ⟨Nat.le_of_ble_eq_true rfl, Nat.le_of_ble_eq_true rfl⟩ (Nat.le_of_ble_eq_true rfl) (fun _ _ _ h => h.elim) (fun v158 L158 G158 hp158 => ?_)
        obtain ⟨rfl, rfl, rfl⟩ := hp158
        refine z_i2l hZ dX8_hashOfScroll_161 (by omega) ?_
        refine z_ladd hZ dX8_hashOfScroll_162 ?_
        refine z_lstore_n1 hZ dX8_hashOfScroll_163 (by decide) rfl ?_
        refine z_ldc2 hZ dX8_hashOfScroll_164 kl_X8_216 ?_
        rw [show (31 : Int64) = lL 31 from rfl]
        refine z_lload_n1 hZ dX8_hashOfScroll_167 ?_
        refine z_lmul hZ dX8_hashOfScroll_168 ?_
        refine z_aload_n0 hZ dX8_hashOfScroll_169 ?_
        refine z_gf_X8_s hZ dX8_hashOfScroll_170 fl_X8_7 (by assumption) (by assumption) ?_
        refine z_iconst hZ dX8_hashOfScroll_173 ?_
        refine z_iald hZ dX8_hashOfScroll_174 (by assumption) (by assumption) (by omega) (by rfl) ?_
        refine z_i2l hZ dX8_hashOfScroll_175 (by omega) ?_
        refine z_ladd hZ dX8_hashOfScroll_176 ?_
        refine z_aload_n0 hZ dX8_hashOfScroll_177 ?_
        refine z_aload_n0 hZ dX8_hashOfScroll_178 ?_
        refine z_gf_X8_s hZ dX8_hashOfScroll_179 fl_X8_7 (by assumption) (by assumption) ?_
        refine z_iconst hZ dX8_hashOfScroll_182 ?_
        refine z_iald hZ dX8_hashOfScroll_183 (by assumption) (by assumption) (by omega) (by rfl) ?_
        refine z_cV hZ (As := [_]) rfl dX8_hashOfScroll_184 ml_X8_61 wy_X8_beginOf (m_X8_beginOf l t v (by omega)) (by assumption) (by assumption) rfl ⟨Nat.le_of_ble_eq_true rfl, Nat.le_of_ble_eq_true rfl⟩ ⟨Nat.le_of_ble_eq_true rfl, Nat.le_of_ble_eq_true rfl⟩ (Nat.le_of_ble_eq_true rfl) (fun _ _ _ h => h.elim) (fun v184 L184 G184 hp184 => ?_)
        obtain ⟨rfl, rfl, rfl⟩ := hp184
        refine z_i2l hZ dX8_hashOfScroll_187 (by omega) ?_
        refine z_lsub hZ dX8_hashOfScroll_188 ?_
        refine z_lstore_n1 hZ dX8_hashOfScroll_189 (by decide) rfl ?_
        refine z_ldc2 hZ dX8_hashOfScroll_190 kl_X8_216 ?_
        rw [show (31 : Int64) = lL 31 from rfl]
        refine z_lload_n1 hZ dX8_hashOfScroll_193 ?_
        refine z_lmul hZ dX8_hashOfScroll_194 ?_
        refine z_aload_n0 hZ dX8_hashOfScroll_195 ?_
        refine z_cV hZ (As := []) rfl dX8_hashOfScroll_196 ml_X8_193 wy_X8_longest (m_X8_longest l t v) (by assumption) (by assumption) rfl ⟨Nat.le_of_ble_eq_true rfl, Nat.le_of_ble_eq_true rfl⟩ ⟨Nat.le_of_ble_eq_true rfl, Nat.le_of_ble_eq_true rfl⟩ (Nat.le_of_ble_eq_true rfl) (fun _ _ _ h => h.elim) (fun v196 L196 G196 hp196 => ?_)
        obtain ⟨rfl, rfl, rfl⟩ := hp196
        refine z_i2l hZ dX8_hashOfScroll_199 (by omega) ?_
        refine z_ladd hZ dX8_hashOfScroll_200 ?_
        refine z_lstore_n1 hZ dX8_hashOfScroll_201 (by decide) rfl ?_
        refine z_ldc2 hZ dX8_hashOfScroll_202 kl_X8_216 ?_
        rw [show (31 : Int64) = lL 31 from rfl]
        refine z_lload_n1 hZ dX8_hashOfScroll_205 ?_
        refine z_lmul hZ dX8_hashOfScroll_206 ?_
        refine z_aload_n0 hZ dX8_hashOfScroll_207 ?_
        refine z_cV hZ (As := []) rfl dX8_hashOfScroll_208 ml_X8_196 wy_X8_words (m_X8_words l t v) (by assumption) (by assumption) rfl ⟨Nat.le_of_ble_eq_true rfl, Nat.le_of_ble_eq_true rfl⟩ ⟨Nat.le_of_ble_eq_true rfl, Nat.le_of_ble_eq_true rfl⟩ (Nat.le_of_ble_eq_true rfl) (fun _ _ _ h => h.elim) (fun v208 L208 G208 hp208 => ?_)
        obtain ⟨rfl, rfl, rfl⟩ := hp208
        refine z_i2l hZ dX8_hashOfScroll_211 (by omega) ?_
        refine z_ladd hZ dX8_hashOfScroll_212 ?_
        refine z_lstore_n1 hZ dX8_hashOfScroll_213 (by decide) rfl ?_
        refine z_ldc2 hZ dX8_hashOfScroll_214 kl_X8_216 ?_
        rw [show (31 : Int64) = lL 31 from rfl]
        refine z_lload_n1 hZ dX8_hashOfScroll_217 ?_
        refine z_lmul hZ dX8_hashOfScroll_218 ?_
        refine z_aload_n0 hZ dX8_hashOfScroll_219 ?_
        refine z_cV hZ (As := []) rfl dX8_hashOfScroll_220 ml_X8_196 wy_X8_words (m_X8_words l t v) (by assumption) (by assumption) rfl ⟨Nat.le_of_ble_eq_true rfl, Nat.le_of_ble_eq_true rfl⟩ ⟨Nat.le_of_ble_eq_true rfl, Nat.le_of_ble_eq_true rfl⟩ (Nat.le_of_ble_eq_true rfl) (fun _ _ _ h => h.elim) (fun v220 L220 G220 hp220 => ?_)
        obtain ⟨rfl, rfl, rfl⟩ := hp220
        refine z_i2l hZ dX8_hashOfScroll_223 (by omega) ?_
        refine z_ladd hZ dX8_hashOfScroll_224 ?_
        refine z_lstore_n1 hZ dX8_hashOfScroll_225 (by decide) rfl ?_
        refine z_lload_n1 hZ dX8_hashOfScroll_226 ?_
        exact z_lret hZ rfl (Nat.le_of_ble_eq_true rfl) (Nat.le_of_ble_eq_true rfl) dX8_hashOfScroll_227 (by
            refine ⟨pvl ?_, rfl, rfl⟩
            unfold hSc
            rw [← eh, fm]
            unfold ha lnA liA
            omega)
    have loop : ∀ (m : Nat) (i : Int), (g 0 - i).toNat = m → 0 ≤ i → i ≤ g 0 → ZZ 0 0 20 [some (.ref x), some (.long (lL (hxT (ha 4457 (g 0)) (fT g) i.toNat))), none, some (.int (iI i))] [] L F := by
      intro m
      induction m with
      | zero =>
        intro i hm i0 i1
        have e : i = g 0 := by omega
        subst e
        refine z_iload_n3 hZ dX8_hashOfScroll_20 ?_
        refine z_aload_n0 hZ dX8_hashOfScroll_21 ?_
        refine z_gf_X8_s hZ dX8_hashOfScroll_22 fl_X8_7 (by assumption) (by assumption) ?_
        refine z_iconst hZ dX8_hashOfScroll_25 ?_
        refine z_iald hZ dX8_hashOfScroll_26 (by assumption) (by assumption) (by omega) (by rfl) ?_
        refine z_icmp_ge hZ (tgt := 49) dX8_hashOfScroll_27 rfl (by omega) (fun hc27 => ?_) (fun hc27 => ?_)
        · exact tail (g 0)
        · exfalso; omega
      | succ m ih =>
        intro i hm i0 i1
        have cr : 10 ≤ g (18 + i) ∧ g (18 + i) ≤ 126 := v.2.2.1 i i0 (by omega)
        refine z_iload_n3 hZ dX8_hashOfScroll_20 ?_
        refine z_aload_n0 hZ dX8_hashOfScroll_21 ?_
        refine z_gf_X8_s hZ dX8_hashOfScroll_22 fl_X8_7 (by assumption) (by assumption) ?_
        refine z_iconst hZ dX8_hashOfScroll_25 ?_
        refine z_iald hZ dX8_hashOfScroll_26 (by assumption) (by assumption) (by omega) (by rfl) ?_
        refine z_icmp_ge hZ (tgt := 49) dX8_hashOfScroll_27 rfl (by omega) (fun hc27 => ?_) (fun hc27 => ?_)
        · exfalso; omega
        · refine z_ldc2 hZ dX8_hashOfScroll_30 kl_X8_216 ?_
          rw [show (31 : Int64) = lL 31 from rfl]
          refine z_lload_n1 hZ dX8_hashOfScroll_33 ?_
          refine z_lmul hZ dX8_hashOfScroll_34 ?_
          refine z_aload_n0 hZ dX8_hashOfScroll_35 ?_
          refine z_iload_n3 hZ dX8_hashOfScroll_36 ?_
          refine z_cV hZ (As := [_]) rfl dX8_hashOfScroll_37 ml_X8_36 wy_X8_code (m_X8_code l t (by omega)) (by assumption) (by assumption) rfl ⟨Nat.le_of_ble_eq_true rfl, Nat.le_of_ble_eq_true rfl⟩ ⟨Nat.le_of_ble_eq_true rfl, Nat.le_of_ble_eq_true rfl⟩ (Nat.le_of_ble_eq_true rfl) (fun _ _ _ h => h.elim) (fun v37 L37 G37 hp37 => ?_)
          obtain ⟨rfl, rfl, rfl⟩ := hp37
          refine z_i2l hZ dX8_hashOfScroll_40 (by omega) ?_
          refine z_ladd hZ dX8_hashOfScroll_41 ?_
          refine z_lstore_n1 hZ dX8_hashOfScroll_42 (by decide) rfl ?_
          refine z_iinc3 hZ dX8_hashOfScroll_43 (by decide) rfl ?_
          refine z_goto hZ (tgt := 20) dX8_hashOfScroll_46 rfl ?_
          have z := ih (i + 1) (by omega) (by omega) (by omega)
          rw [hxT_s i0] at z
          exact z
    refine z_ldc2 hZ dX8_hashOfScroll_0 kl_X8_214 ?_
    rw [show (4457 : Int64) = lL 4457 from rfl]
    refine z_lstore_n1 hZ dX8_hashOfScroll_3 (by decide) rfl ?_
    refine z_ldc2 hZ dX8_hashOfScroll_4 kl_X8_216 ?_
    rw [show (31 : Int64) = lL 31 from rfl]
    refine z_lload_n1 hZ dX8_hashOfScroll_7 ?_
    refine z_lmul hZ dX8_hashOfScroll_8 ?_
    refine z_aload_n0 hZ dX8_hashOfScroll_9 ?_
    refine z_gf_X8_s hZ dX8_hashOfScroll_10 fl_X8_7 (by assumption) (by assumption) ?_
    refine z_iconst hZ dX8_hashOfScroll_13 ?_
    refine z_iald hZ dX8_hashOfScroll_14 (by assumption) (by assumption) (by omega) (by rfl) ?_
    refine z_i2l hZ dX8_hashOfScroll_15 (by omega) ?_
    refine z_ladd hZ dX8_hashOfScroll_16 ?_
    refine z_lstore_n1 hZ dX8_hashOfScroll_17 (by decide) rfl ?_
    refine z_iconst hZ dX8_hashOfScroll_18 ?_
    refine z_istore_n3 hZ dX8_hashOfScroll_19 (by decide) rfl ?_
    exact loop (g 0).toNat 0 (by omega) (by omega) (by omega)
  exact hgo

