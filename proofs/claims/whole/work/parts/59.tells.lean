/-! THE MODEL, 8: deeds told as a text. -/
theorem isLb_iff {c : Int} (h : -1 ≤ c ∧ c ≤ 127) : isLb c = true ↔ (97 ≤ c ∧ c ≤ 99) ∨ (101 ≤ c ∧ c ≤ 103) ∨ c = 107 ∨ (109 ≤ c ∧ c ≤ 110) ∨ c = 112 ∨ (114 ≤ c ∧ c ≤ 117) ∨ (119 ≤ c ∧ c ≤ 121) ∨ c = 70 ∨ c = 66 ∨ c = 87 ∨ c = 95 := by
  have z : ∀ k : Nat, k < 129 → isLb ((k : Int) - 1) = decide ((97 ≤ (k : Int) - 1 ∧ (k : Int) - 1 ≤ 99) ∨ (101 ≤ (k : Int) - 1 ∧ (k : Int) - 1 ≤ 103) ∨ (k : Int) - 1 = 107 ∨ (109 ≤ (k : Int) - 1 ∧ (k : Int) - 1 ≤ 110) ∨ (k : Int) - 1 = 112 ∨ (114 ≤ (k : Int) - 1 ∧ (k : Int) - 1 ≤ 117) ∨ (119 ≤ (k : Int) - 1 ∧ (k : Int) - 1 ≤ 121) ∨ (k : Int) - 1 = 70 ∨ (k : Int) - 1 = 66 ∨ (k : Int) - 1 = 87 ∨ (k : Int) - 1 = 95) := by decide +kernel
  have z2 := z (c + 1).toNat (by omega)
  rw [show (((c + 1).toNat : Nat) : Int) - 1 = c by omega] at z2
  rw [z2, decide_eq_true_iff]
set_option maxRecDepth 100000 in
set_option maxHeartbeats 4000000 in
theorem m_X8_isSign (l : Launch) {L : List Nat} {F : Nat → PE} {v : Int} (hv : -1 ≤ v ∧ v ≤ 127) : PM l yX8_isSign cX8_isSign 1 (some .boolean) (rm 2 0 0) L [.int (iI v)] F (fun v9 L1 F1 => v9 = some (.int (iI (b2 (isLb v = true)))) ∧ L = L1 ∧ F = F1) (fun _ _ _ => False) := by
  refine pm_of cd_X8_isSign (by decide +kernel) (Nat.le_of_ble_eq_true rfl) (fun ZZ hZ => ?_)
  have hgo : ZZ 0 0 0 [some (.int (iI v))] [] L F := by
    have is := isLb_iff hv
    refine z_iload_n0 hZ dX8_isSign_0 ?_
    refine z_bipush hZ dX8_isSign_1 rfl ?_
    refine z_bipush hZ dX8_isSign_3 rfl ?_
    refine z_cS hZ (As := [_, _, _]) rfl dX8_isSign_5 ml_X8_32 wy_X8_in (m_X8_in l (by omega) (by omega) (by omega)) ⟨Nat.le_of_ble_eq_true rfl, Nat.le_of_ble_eq_true rfl⟩ ⟨Nat.le_of_ble_eq_true rfl, Nat.le_of_ble_eq_true rfl⟩ (Nat.le_of_ble_eq_true rfl) (fun _ _ _ h => h.elim) (fun v5 L5 G5 hp5 => ?_)
    obtain ⟨rfl, rfl, rfl⟩ := hp5
    refine z_if_ne_b hZ (tgt := 91) dX8_isSign_8 rfl (fun hc8 => ?_) (fun hc8 => ?_)
    · refine z_iconst hZ dX8_isSign_91 ?_
      refine z_goto hZ (tgt := 96) dX8_isSign_92 rfl ?_
      exact z_zret hZ rfl (Nat.le_of_ble_eq_true rfl) (Nat.le_of_ble_eq_true rfl) dX8_isSign_96 (by omega) (by
            refine ⟨pv ?_, rfl, rfl⟩
            first
              | exact (b2_t (is.mpr (by omega))).symm
              | exact (b2_f (fun z => by have := is.mp z; omega)).symm)
    · refine z_iload_n0 hZ dX8_isSign_11 ?_
      refine z_bipush hZ dX8_isSign_12 rfl ?_
      refine z_bipush hZ dX8_isSign_14 rfl ?_
      refine z_cS hZ (As := [_, _, _]) rfl dX8_isSign_16 ml_X8_32 wy_X8_in (m_X8_in l (by omega) (by omega) (by omega)) ⟨Nat.le_of_ble_eq_true rfl, Nat.le_of_ble_eq_true rfl⟩ ⟨Nat.le_of_ble_eq_true rfl, Nat.le_of_ble_eq_true rfl⟩ (Nat.le_of_ble_eq_true rfl) (fun _ _ _ h => h.elim) (fun v16 L16 G16 hp16 => ?_)
      obtain ⟨rfl, rfl, rfl⟩ := hp16
      refine z_if_ne_b hZ (tgt := 91) dX8_isSign_19 rfl (fun hc19 => ?_) (fun hc19 => ?_)
      · refine z_iconst hZ dX8_isSign_91 ?_
        refine z_goto hZ (tgt := 96) dX8_isSign_92 rfl ?_
        exact z_zret hZ rfl (Nat.le_of_ble_eq_true rfl) (Nat.le_of_ble_eq_true rfl) dX8_isSign_96 (by omega) (by
            refine ⟨pv ?_, rfl, rfl⟩
            first
              | exact (b2_t (is.mpr (by omega))).symm
              | exact (b2_f (fun z => by have := is.mp z; omega)).symm)
      · refine z_iload_n0 hZ dX8_isSign_22 ?_
        refine z_bipush hZ dX8_isSign_23 rfl ?_
        refine z_icmp_eq hZ (tgt := 91) dX8_isSign_25 rfl (by omega) (fun hc25 => ?_) (fun hc25 => ?_)
        · refine z_iconst hZ dX8_isSign_91 ?_
          refine z_goto hZ (tgt := 96) dX8_isSign_92 rfl ?_
          exact z_zret hZ rfl (Nat.le_of_ble_eq_true rfl) (Nat.le_of_ble_eq_true rfl) dX8_isSign_96 (by omega) (by
            refine ⟨pv ?_, rfl, rfl⟩
            first
              | exact (b2_t (is.mpr (by omega))).symm
              | exact (b2_f (fun z => by have := is.mp z; omega)).symm)
        · refine z_iload_n0 hZ dX8_isSign_28 ?_
          refine z_bipush hZ dX8_isSign_29 rfl ?_
          refine z_bipush hZ dX8_isSign_31 rfl ?_
          refine z_cS hZ (As := [_, _, _]) rfl dX8_isSign_33 ml_X8_32 wy_X8_in (m_X8_in l (by omega) (by omega) (by omega)) ⟨Nat.le_of_ble_eq_true rfl, Nat.le_of_ble_eq_true rfl⟩ ⟨Nat.le_of_ble_eq_true rfl, Nat.le_of_ble_eq_true rfl⟩ (Nat.le_of_ble_eq_true rfl) (fun _ _ _ h => h.elim) (fun v33 L33 G33 hp33 => ?_)
          obtain ⟨rfl, rfl, rfl⟩ := hp33
          refine z_if_ne_b hZ (tgt := 91) dX8_isSign_36 rfl (fun hc36 => ?_) (fun hc36 => ?_)
          · refine z_iconst hZ dX8_isSign_91 ?_
            refine z_goto hZ (tgt := 96) dX8_isSign_92 rfl ?_
            exact z_zret hZ rfl (Nat.le_of_ble_eq_true rfl) (Nat.le_of_ble_eq_true rfl) dX8_isSign_96 (by omega) (by
            refine ⟨pv ?_, rfl, rfl⟩
            first
              | exact (b2_t (is.mpr (by omega))).symm
              | exact (b2_f (fun z => by have := is.mp z; omega)).symm)
          · refine z_iload_n0 hZ dX8_isSign_39 ?_
            refine z_bipush hZ dX8_isSign_40 rfl ?_
            refine z_icmp_eq hZ (tgt := 91) dX8_isSign_42 rfl (by omega) (fun hc42 => ?_) (fun hc42 => ?_)
            · refine z_iconst hZ dX8_isSign_91 ?_
              refine z_goto hZ (tgt := 96) dX8_isSign_92 rfl ?_
              exact z_zret hZ rfl (Nat.le_of_ble_eq_true rfl) (Nat.le_of_ble_eq_true rfl) dX8_isSign_96 (by omega) (by
            refine ⟨pv ?_, rfl, rfl⟩
            first
              | exact (b2_t (is.mpr (by omega))).symm
              | exact (b2_f (fun z => by have := is.mp z; omega)).symm)
            · refine z_iload_n0 hZ dX8_isSign_45 ?_
              refine z_bipush hZ dX8_isSign_46 rfl ?_
              refine z_bipush hZ dX8_isSign_48 rfl ?_
              refine z_cS hZ (As := [_, _, _]) rfl dX8_isSign_50 ml_X8_32 wy_X8_in (m_X8_in l (by omega) (by omega) (by omega)) ⟨Nat.le_of_ble_eq_true rfl, Nat.le_of_ble_eq_true rfl⟩ ⟨Nat.le_of_ble_eq_true rfl, Nat.le_of_ble_eq_true rfl⟩ (Nat.le_of_ble_eq_true rfl) (fun _ _ _ h => h.elim) (fun v50 L50 G50 hp50 => ?_)
              obtain ⟨rfl, rfl, rfl⟩ := hp50
              refine z_if_ne_b hZ (tgt := 91) dX8_isSign_53 rfl (fun hc53 => ?_) (fun hc53 => ?_)
              · refine z_iconst hZ dX8_isSign_91 ?_
                refine z_goto hZ (tgt := 96) dX8_isSign_92 rfl ?_
                exact z_zret hZ rfl (Nat.le_of_ble_eq_true rfl) (Nat.le_of_ble_eq_true rfl) dX8_isSign_96 (by omega) (by
            refine ⟨pv ?_, rfl, rfl⟩
            first
              | exact (b2_t (is.mpr (by omega))).symm
              | exact (b2_f (fun z => by have := is.mp z; omega)).symm)
              · refine z_iload_n0 hZ dX8_isSign_56 ?_
                refine z_bipush hZ dX8_isSign_57 rfl ?_
                refine z_bipush hZ dX8_isSign_59 rfl ?_
                refine z_cS hZ (As := [_, _, _]) rfl dX8_isSign_61 ml_X8_32 wy_X8_in (m_X8_in l (by omega) (by omega) (by omega)) ⟨Nat.le_of_ble_eq_true rfl, Nat.le_of_ble_eq_true rfl⟩ ⟨Nat.le_of_ble_eq_true rfl, Nat.le_of_ble_eq_true rfl⟩ (Nat.le_of_ble_eq_true rfl) (fun _ _ _ h => h.elim) (fun v61 L61 G61 hp61 => ?_)
                obtain ⟨rfl, rfl, rfl⟩ := hp61
                refine z_if_ne_b hZ (tgt := 91) dX8_isSign_64 rfl (fun hc64 => ?_) (fun hc64 => ?_)
                · refine z_iconst hZ dX8_isSign_91 ?_
                  refine z_goto hZ (tgt := 96) dX8_isSign_92 rfl ?_
                  exact z_zret hZ rfl (Nat.le_of_ble_eq_true rfl) (Nat.le_of_ble_eq_true rfl) dX8_isSign_96 (by omega) (by
            refine ⟨pv ?_, rfl, rfl⟩
            first
              | exact (b2_t (is.mpr (by omega))).symm
              | exact (b2_f (fun z => by have := is.mp z; omega)).symm)
                · refine z_iload_n0 hZ dX8_isSign_67 ?_
                  refine z_bipush hZ dX8_isSign_68 rfl ?_
                  refine z_icmp_eq hZ (tgt := 91) dX8_isSign_70 rfl (by omega) (fun hc70 => ?_) (fun hc70 => ?_)
                  · refine z_iconst hZ dX8_isSign_91 ?_
                    refine z_goto hZ (tgt := 96) dX8_isSign_92 rfl ?_
                    exact z_zret hZ rfl (Nat.le_of_ble_eq_true rfl) (Nat.le_of_ble_eq_true rfl) dX8_isSign_96 (by omega) (by
            refine ⟨pv ?_, rfl, rfl⟩
            first
              | exact (b2_t (is.mpr (by omega))).symm
              | exact (b2_f (fun z => by have := is.mp z; omega)).symm)
                  · refine z_iload_n0 hZ dX8_isSign_73 ?_
                    refine z_bipush hZ dX8_isSign_74 rfl ?_
                    refine z_icmp_eq hZ (tgt := 91) dX8_isSign_76 rfl (by omega) (fun hc76 => ?_) (fun hc76 => ?_)
                    · refine z_iconst hZ dX8_isSign_91 ?_
                      refine z_goto hZ (tgt := 96) dX8_isSign_92 rfl ?_
                      exact z_zret hZ rfl (Nat.le_of_ble_eq_true rfl) (Nat.le_of_ble_eq_true rfl) dX8_isSign_96 (by omega) (by
            refine ⟨pv ?_, rfl, rfl⟩
            first
              | exact (b2_t (is.mpr (by omega))).symm
              | exact (b2_f (fun z => by have := is.mp z; omega)).symm)
                    · refine z_iload_n0 hZ dX8_isSign_79 ?_
                      refine z_bipush hZ dX8_isSign_80 rfl ?_
                      refine z_icmp_eq hZ (tgt := 91) dX8_isSign_82 rfl (by omega) (fun hc82 => ?_) (fun hc82 => ?_)
                      · refine z_iconst hZ dX8_isSign_91 ?_
                        refine z_goto hZ (tgt := 96) dX8_isSign_92 rfl ?_
                        exact z_zret hZ rfl (Nat.le_of_ble_eq_true rfl) (Nat.le_of_ble_eq_true rfl) dX8_isSign_96 (by omega) (by
            refine ⟨pv ?_, rfl, rfl⟩
            first
              | exact (b2_t (is.mpr (by omega))).symm
              | exact (b2_f (fun z => by have := is.mp z; omega)).symm)
                      · refine z_iload_n0 hZ dX8_isSign_85 ?_
                        refine z_bipush hZ dX8_isSign_86 rfl ?_
                        refine z_icmp_ne hZ (tgt := 95) dX8_isSign_88 rfl (by omega) (fun hc88 => ?_) (fun hc88 => ?_)
                        · refine z_iconst hZ dX8_isSign_95 ?_
                          exact z_zret hZ rfl (Nat.le_of_ble_eq_true rfl) (Nat.le_of_ble_eq_true rfl) dX8_isSign_96 (by omega) (by
            refine ⟨pv ?_, rfl, rfl⟩
            first
              | exact (b2_t (is.mpr (by omega))).symm
              | exact (b2_f (fun z => by have := is.mp z; omega)).symm)
                        · refine z_iconst hZ dX8_isSign_91 ?_
                          refine z_goto hZ (tgt := 96) dX8_isSign_92 rfl ?_
                          exact z_zret hZ rfl (Nat.le_of_ble_eq_true rfl) (Nat.le_of_ble_eq_true rfl) dX8_isSign_96 (by omega) (by
            refine ⟨pv ?_, rfl, rfl⟩
            first
              | exact (b2_t (is.mpr (by omega))).symm
              | exact (b2_f (fun z => by have := is.mp z; omega)).symm)
  exact hgo
def mW (bf : Int → Int) (n a : Int) : Int := if pA1 bf n a < n then bf (pA1 bf n a) else -1
def mP2 (bf : Int → Int) (n a : Int) : Int := if mW bf n a = 39 ∨ isLb (mW bf n a) = true then pA1 bf n a + 1 else pA1 bf n a
def mSg (bf : Int → Int) (n a : Int) : Int := if mW bf n a = 39 ∧ mP2 bf n a < n then bf (mP2 bf n a) else -1
def mP3 (bf : Int → Int) (n a : Int) : Int := if 0 ≤ mSg bf n a then mP2 bf n a + 1 else mP2 bf n a
def mR (bf : Int → Int) (n a : Int) : Int := if mW bf n a = 39 then (if 0 ≤ mSg bf n a then mW bf n a else -1) else if isLb (mW bf n a) = true then mW bf n a else -1
theorem isLb_m : isLb (-1) = false := by decide +kernel
set_option maxRecDepth 100000 in
set_option maxHeartbeats 4000000 in
theorem m_X8_part (l : Launch) {L : List Nat} {F : Nat → PE} {x a q c : Nat} {g : Int → Int} {sv th kd n pt tm sg : Int} {kp bf : Int → Int} (o : mo L F x a q c g sv th kd n pt tm sg kp bf) (hn : 0 ≤ n ∧ n ≤ 60) (hb : ∀ k, 0 ≤ k → k < n → 10 ≤ bf k ∧ bf k ≤ 126) (hp : 0 ≤ pt ∧ pt ≤ n) : PM l yX8_part cX8_part 3 (some .int) (rm 3 0 0) L [.ref x] F (fun v9 L1 F1 => v9 = some (.int (iI (mR bf n pt))) ∧ L = L1 ∧ F1 x = eO 8 [.ref a, .int (iI sv), .ref q, .int (iI th), .int (iI kd), .ref c, .int (iI n), .int (iI (mP3 bf n pt)), .int (iI (pTm bf n pt)), .int (iI (mSg bf n pt))] ∧ ∀ b, b ≠ x → F1 b = F b) (fun _ _ _ => False) := by
  refine pm_of cd_X8_part (by decide +kernel) (Nat.le_of_ble_eq_true rfl) (fun ZZ hZ => ?_)
  have hgo : ZZ 0 0 0 [some (.ref x), none, none] [] L F := by
    obtain ⟨A, hF, hg, hQ, hC⟩ := id o
    obtain ⟨⟨hx, ha, hqL, hcL⟩, hxa, hxq, hxc, haq, hac, hqc⟩ := id A
    have rA : pt ≤ pA1 bf n pt ∧ pA1 bf n pt ≤ n ∧ pA1 bf n pt ≤ pt + 1 := by unfold pA1; split <;> omega
    have rW : -1 ≤ mW bf n pt ∧ mW bf n pt ≤ 126 := by
      unfold mW
      by_cases z : pA1 bf n pt < n
      · rw [if_pos z]; have := hb _ (by omega) z; omega
      · rw [if_neg z]; omega
    have rWn : pA1 bf n pt = n → mW bf n pt = -1 := fun e => if_neg (by omega)
    have rP2 : pA1 bf n pt ≤ mP2 bf n pt ∧ mP2 bf n pt ≤ n := by
      unfold mP2
      by_cases z : pA1 bf n pt = n
      · rw [rWn z, isLb_m, if_neg (by intro w; rcases w with w | w <;> cases w)]; omega
      · split <;> omega
    have rS : -1 ≤ mSg bf n pt ∧ mSg bf n pt ≤ 126 := by
      unfold mSg
      by_cases z : mW bf n pt = 39 ∧ mP2 bf n pt < n
      · rw [if_pos z]; have := hb _ (by omega) z.2; omega
      · rw [if_neg z]; omega
    have k187 : ∀ (G : Nat → PE) (s : Int), (s = 1 ∧ mW bf n pt = 39) ∨ (s = 0 ∧ ¬ mW bf n pt = 39) → G x = eO 8 [.ref a, .int (iI sv), .ref q, .int (iI th), .int (iI kd), .ref c, .int (iI n), .int (iI (mP3 bf n pt)), .int (iI (pTm bf n pt)), .int (iI (mSg bf n pt))] → (∀ b, b ≠ x → G b = F b) → ZZ 0 0 187 [some (.ref x), some (.int (iI (mW bf n pt))), some (.int (iI s))] [] L G := by
      intro G s hs hG hf
      refine z_iload_n2 hZ dX8_part_187 ?_
      refine z_if_eq hZ (tgt := 206) dX8_part_188 rfl (by omega) (fun hc188 => ?_) (fun hc188 => ?_)
      · refine z_iload_n1 hZ dX8_part_206 ?_
        refine z_cS hZ (As := [_]) rfl dX8_part_207 ml_X8_171 wy_X8_isSign (m_X8_isSign l (by omega)) ⟨Nat.le_of_ble_eq_true rfl, Nat.le_of_ble_eq_true rfl⟩ ⟨Nat.le_of_ble_eq_true rfl, Nat.le_of_ble_eq_true rfl⟩ (Nat.le_of_ble_eq_true rfl) (fun _ _ _ h => h.elim) (fun v207 L207 G207 hp207 => ?_)
        obtain ⟨rfl, rfl, rfl⟩ := hp207
        refine z_if_eq_b hZ (tgt := 217) dX8_part_210 rfl (fun hc210 => ?_) (fun hc210 => ?_)
        · refine z_iconst hZ dX8_part_217 ?_
          exact z_iret hZ rfl (Nat.le_of_ble_eq_true rfl) (Nat.le_of_ble_eq_true rfl) dX8_part_218 (by
            refine ⟨pv ?_, rfl, hG, hf⟩
            unfold mR
            first
              | (exfalso; omega)
              | rw [if_pos (by omega), if_pos (by omega)]
              | rw [if_pos (by omega), if_neg (by omega)]
              | rw [if_neg (by omega), if_pos (by assumption)]
              | rw [if_neg (by omega), if_neg (by assumption)])
        · refine z_iload_n1 hZ dX8_part_213 ?_
          refine z_goto hZ (tgt := 218) dX8_part_214 rfl ?_
          exact z_iret hZ rfl (Nat.le_of_ble_eq_true rfl) (Nat.le_of_ble_eq_true rfl) dX8_part_218 (by
            refine ⟨pv ?_, rfl, hG, hf⟩
            unfold mR
            first
              | (exfalso; omega)
              | rw [if_pos (by omega), if_pos (by omega)]
              | rw [if_pos (by omega), if_neg (by omega)]
              | rw [if_neg (by omega), if_pos (by assumption)]
              | rw [if_neg (by omega), if_neg (by assumption)])
      · refine z_aload_n0 hZ dX8_part_191 ?_
        refine z_gf_X8_sign hZ dX8_part_192 fl_X8_174 (by assumption) (by assumption) ?_
        refine z_if_lt hZ (tgt := 202) dX8_part_195 rfl (by omega) (fun hc195 => ?_) (fun hc195 => ?_)
        · refine z_iconst hZ dX8_part_202 ?_
          refine z_goto hZ (tgt := 218) dX8_part_203 rfl ?_
          exact z_iret hZ rfl (Nat.le_of_ble_eq_true rfl) (Nat.le_of_ble_eq_true rfl) dX8_part_218 (by
            refine ⟨pv ?_, rfl, hG, hf⟩
            unfold mR
            first
              | (exfalso; omega)
              | rw [if_pos (by omega), if_pos (by omega)]
              | rw [if_pos (by omega), if_neg (by omega)]
              | rw [if_neg (by omega), if_pos (by assumption)]
              | rw [if_neg (by omega), if_neg (by assumption)])
        · refine z_iload_n1 hZ dX8_part_198 ?_
          refine z_goto hZ (tgt := 218) dX8_part_199 rfl ?_
          exact z_iret hZ rfl (Nat.le_of_ble_eq_true rfl) (Nat.le_of_ble_eq_true rfl) dX8_part_218 (by
            refine ⟨pv ?_, rfl, hG, hf⟩
            unfold mR
            first
              | (exfalso; omega)
              | rw [if_pos (by omega), if_pos (by omega)]
              | rw [if_pos (by omega), if_neg (by omega)]
              | rw [if_neg (by omega), if_pos (by assumption)]
              | rw [if_neg (by omega), if_neg (by assumption)])
    have k163 : ∀ (G : Nat → PE) (s z : Int), (s = 1 ∧ mW bf n pt = 39) ∨ (s = 0 ∧ ¬ mW bf n pt = 39) → z = mSg bf n pt → G x = eO 8 [.ref a, .int (iI sv), .ref q, .int (iI th), .int (iI kd), .ref c, .int (iI n), .int (iI (mP2 bf n pt)), .int (iI (pTm bf n pt)), .int (iI sg)] → (∀ b, b ≠ x → G b = F b) → ZZ 0 0 163 [some (.ref x), some (.int (iI (mW bf n pt))), some (.int (iI s))] [.int (iI z), .ref x] L G := by
      intro G s z hs hz hG hf
      subst hz
      refine z_pf_X8_sign hZ dX8_part_163 fl_X8_174 (by assumption) (by assumption) (fun F163 hF163 hf163 => ?_)
      refine z_aload_n0 hZ dX8_part_166 ?_
      refine z_dup hZ dX8_part_167 rfl ?_
      refine z_gf_X8_at hZ dX8_part_168 fl_X8_165 (by assumption) (by assumption) ?_
      refine z_aload_n0 hZ dX8_part_171 ?_
      refine z_gf_X8_sign hZ dX8_part_172 fl_X8_174 (by assumption) (by assumption) ?_
      refine z_if_lt hZ (tgt := 182) dX8_part_175 rfl (by omega) (fun hc175 => ?_) (fun hc175 => ?_)
      · refine z_iconst hZ dX8_part_182 ?_
        refine z_iadd hZ dX8_part_183 ?_
        refine z_pf_X8_at hZ dX8_part_184 fl_X8_165 (by assumption) (by assumption) (fun F184 hF184 hf184 => ?_)
        refine k187 _ s hs (hF184.trans ?_) (fun b hb => (hf184 b hb).trans ((hf163 b hb).trans (hf b hb)))
        unfold mP3
        first
          | rw [if_pos (by omega)]
          | rw [if_neg (by omega), Int.add_zero]
      · refine z_iconst hZ dX8_part_178 ?_
        refine z_goto hZ (tgt := 183) dX8_part_179 rfl ?_
        refine z_iadd hZ dX8_part_183 ?_
        refine z_pf_X8_at hZ dX8_part_184 fl_X8_165 (by assumption) (by assumption) (fun F184 hF184 hf184 => ?_)
        refine k187 _ s hs (hF184.trans ?_) (fun b hb => (hf184 b hb).trans ((hf163 b hb).trans (hf b hb)))
        unfold mP3
        first
          | rw [if_pos (by omega)]
          | rw [if_neg (by omega), Int.add_zero]
    have k130 : ∀ (G : Nat → PE) (s z : Int), (s = 1 ∧ mW bf n pt = 39) ∨ (s = 0 ∧ ¬ mW bf n pt = 39) → pA1 bf n pt + z = mP2 bf n pt → G x = eO 8 [.ref a, .int (iI sv), .ref q, .int (iI th), .int (iI kd), .ref c, .int (iI n), .int (iI (pA1 bf n pt)), .int (iI (pTm bf n pt)), .int (iI sg)] → (∀ b, b ≠ x → G b = F b) → ZZ 0 0 130 [some (.ref x), some (.int (iI (mW bf n pt))), some (.int (iI s))] [.int (iI z), .int (iI (pA1 bf n pt)), .ref x] L G := by
      intro G s z hs hz hG hf
      refine z_iadd hZ dX8_part_130 ?_
      rw [hz]
      refine z_pf_X8_at hZ dX8_part_131 fl_X8_165 (by assumption) (by assumption) (fun F131 hF131 hf131 => ?_)
      have hC := (hf131 c (Ne.symm hxc)).trans ((hf c (Ne.symm hxc)).trans hC)
      refine z_aload_n0 hZ dX8_part_134 ?_
      refine z_iload_n2 hZ dX8_part_135 ?_
      refine z_if_eq hZ (tgt := 162) dX8_part_136 rfl (by omega) (fun hc136 => ?_) (fun hc136 => ?_)
      · refine z_iconst hZ dX8_part_162 ?_
        refine k163 _ s _ hs ?_ hF131 (fun b hb => (hf131 b hb).trans (hf b hb))
        unfold mSg
        first
          | rw [if_pos (by omega)]
          | rw [if_neg (by omega)]
      · refine z_aload_n0 hZ dX8_part_139 ?_
        refine z_gf_X8_at hZ dX8_part_140 fl_X8_165 (by assumption) (by assumption) ?_
        refine z_aload_n0 hZ dX8_part_143 ?_
        refine z_gf_X8_typed hZ dX8_part_144 fl_X8_159 (by assumption) (by assumption) ?_
        refine z_icmp_ge hZ (tgt := 162) dX8_part_147 rfl (by omega) (fun hc147 => ?_) (fun hc147 => ?_)
        · refine z_iconst hZ dX8_part_162 ?_
          refine k163 _ s _ hs ?_ hF131 (fun b hb => (hf131 b hb).trans (hf b hb))
          unfold mSg
          first
            | rw [if_pos (by omega)]
            | rw [if_neg (by omega)]
        · refine z_aload_n0 hZ dX8_part_150 ?_
          refine z_gf_X8_text hZ dX8_part_151 fl_X8_17 (by assumption) (by assumption) ?_
          refine z_aload_n0 hZ dX8_part_154 ?_
          refine z_gf_X8_at hZ dX8_part_155 fl_X8_165 (by assumption) (by assumption) ?_
          refine z_caload hZ dX8_part_158 (by assumption) (by assumption) (by omega) ?_
          refine z_goto hZ (tgt := 163) dX8_part_159 rfl ?_
          refine k163 _ s _ hs ?_ hF131 (fun b hb => (hf131 b hb).trans (hf b hb))
          unfold mSg
          first
            | rw [if_pos (by omega)]
            | rw [if_neg (by omega)]
    have k109 : ∀ (G : Nat → PE) (s : Int), (s = 1 ∧ mW bf n pt = 39) ∨ (s = 0 ∧ ¬ mW bf n pt = 39) → G x = eO 8 [.ref a, .int (iI sv), .ref q, .int (iI th), .int (iI kd), .ref c, .int (iI n), .int (iI (pA1 bf n pt)), .int (iI (pTm bf n pt)), .int (iI sg)] → (∀ b, b ≠ x → G b = F b) → ZZ 0 0 109 [some (.ref x), some (.int (iI (mW bf n pt))), some (.int (iI s))] [] L G := by
      intro G s hs hG hf
      refine z_aload_n0 hZ dX8_part_109 ?_
      refine z_dup hZ dX8_part_110 rfl ?_
      refine z_gf_X8_at hZ dX8_part_111 fl_X8_165 (by assumption) (by assumption) ?_
      refine z_iload_n2 hZ dX8_part_114 ?_
      refine z_if_ne hZ (tgt := 125) dX8_part_115 rfl (by omega) (fun hc115 => ?_) (fun hc115 => ?_)
      · refine z_iconst hZ dX8_part_125 ?_
        refine z_goto hZ (tgt := 130) dX8_part_126 rfl ?_
        refine k130 _ s _ hs ?_ hG hf
        unfold mP2
        first
          | rw [if_pos (Or.inl (by omega))]
          | rw [if_pos (Or.inr (by assumption))]
          | (rw [if_neg (fun w => by rcases w with w | w; exact absurd w (by omega); exact absurd w (by assumption))]; omega)
      · refine z_iload_n1 hZ dX8_part_118 ?_
        refine z_cS hZ (As := [_]) rfl dX8_part_119 ml_X8_171 wy_X8_isSign (m_X8_isSign l (by omega)) ⟨Nat.le_of_ble_eq_true rfl, Nat.le_of_ble_eq_true rfl⟩ ⟨Nat.le_of_ble_eq_true rfl, Nat.le_of_ble_eq_true rfl⟩ (Nat.le_of_ble_eq_true rfl) (fun _ _ _ h => h.elim) (fun v119 L119 G119 hp119 => ?_)
        obtain ⟨rfl, rfl, rfl⟩ := hp119
        refine z_if_eq_b hZ (tgt := 129) dX8_part_122 rfl (fun hc122 => ?_) (fun hc122 => ?_)
        · refine z_iconst hZ dX8_part_129 ?_
          refine k130 _ s _ hs ?_ hG hf
          unfold mP2
          first
            | rw [if_pos (Or.inl (by omega))]
            | rw [if_pos (Or.inr (by assumption))]
            | (rw [if_neg (fun w => by rcases w with w | w; exact absurd w (by omega); exact absurd w (by assumption))]; omega)
        · refine z_iconst hZ dX8_part_125 ?_
          refine z_goto hZ (tgt := 130) dX8_part_126 rfl ?_
          refine k130 _ s _ hs ?_ hG hf
          unfold mP2
          first
            | rw [if_pos (Or.inl (by omega))]
            | rw [if_pos (Or.inr (by assumption))]
            | (rw [if_neg (fun w => by rcases w with w | w; exact absurd w (by omega); exact absurd w (by assumption))]; omega)
    have k96 : ∀ (G : Nat → PE) (z : Int), z = mW bf n pt → G x = eO 8 [.ref a, .int (iI sv), .ref q, .int (iI th), .int (iI kd), .ref c, .int (iI n), .int (iI (pA1 bf n pt)), .int (iI (pTm bf n pt)), .int (iI sg)] → (∀ b, b ≠ x → G b = F b) → ZZ 0 0 96 [some (.ref x), none, none] [.int (iI z)] L G := by
      intro G z hz hG hf
      subst hz
      refine z_istore_n1 hZ dX8_part_96 (by decide) rfl ?_
      refine z_iload_n1 hZ dX8_part_97 ?_
      refine z_bipush hZ dX8_part_98 rfl ?_
      refine z_icmp_ne hZ (tgt := 107) dX8_part_100 rfl (by omega) (fun hc100 => ?_) (fun hc100 => ?_)
      · refine z_iconst hZ dX8_part_107 ?_
        refine z_istore_n2 hZ dX8_part_108 (by decide) rfl ?_
        exact k109 _ _ (by omega) hG hf
      · refine z_iconst hZ dX8_part_103 ?_
        refine z_goto hZ (tgt := 108) dX8_part_104 rfl ?_
        refine z_istore_n2 hZ dX8_part_108 (by decide) rfl ?_
        exact k109 _ _ (by omega) hG hf
    have k68 : ∀ (G : Nat → PE) (z : Int), pt + z = pA1 bf n pt → G x = eO 8 [.ref a, .int (iI sv), .ref q, .int (iI th), .int (iI kd), .ref c, .int (iI n), .int (iI pt), .int (iI (pTm bf n pt)), .int (iI sg)] → (∀ b, b ≠ x → G b = F b) → ZZ 0 0 68 [some (.ref x), none, none] [.int (iI z), .int (iI pt), .ref x] L G := by
      intro G z hz hG hf
      refine z_iadd hZ dX8_part_68 ?_
      rw [hz]
      refine z_pf_X8_at hZ dX8_part_69 fl_X8_165 (by assumption) (by assumption) (fun F69 hF69 hf69 => ?_)
      have hC := (hf69 c (Ne.symm hxc)).trans ((hf c (Ne.symm hxc)).trans hC)
      refine z_aload_n0 hZ dX8_part_72 ?_
      refine z_gf_X8_at hZ dX8_part_73 fl_X8_165 (by assumption) (by assumption) ?_
      refine z_aload_n0 hZ dX8_part_76 ?_
      refine z_gf_X8_typed hZ dX8_part_77 fl_X8_159 (by assumption) (by assumption) ?_
      refine z_icmp_ge hZ (tgt := 95) dX8_part_80 rfl (by omega) (fun hc80 => ?_) (fun hc80 => ?_)
      · refine z_iconst hZ dX8_part_95 ?_
        refine k96 _ _ ?_ hF69 (fun b hb => (hf69 b hb).trans (hf b hb))
        unfold mW
        first
          | rw [if_pos (by omega)]
          | rw [if_neg (by omega)]
      · refine z_aload_n0 hZ dX8_part_83 ?_
        refine z_gf_X8_text hZ dX8_part_84 fl_X8_17 (by assumption) (by assumption) ?_
        refine z_aload_n0 hZ dX8_part_87 ?_
        refine z_gf_X8_at hZ dX8_part_88 fl_X8_165 (by assumption) (by assumption) ?_
        refine z_caload hZ dX8_part_91 (by assumption) (by assumption) (by omega) ?_
        refine z_goto hZ (tgt := 96) dX8_part_92 rfl ?_
        refine k96 _ _ ?_ hF69 (fun b hb => (hf69 b hb).trans (hf b hb))
        unfold mW
        first
          | rw [if_pos (by omega)]
          | rw [if_neg (by omega)]
    have rT : (a = a → pTm bf n pt = 1 → pA1 bf n pt = pt) ∧ (1 < pTm bf n pt → pA1 bf n pt = pt + 1) ∧ 1 ≤ pTm bf n pt ∧ pTm bf n pt ≤ 9 := by
      unfold pTm pA1
      by_cases z : pt < n ∧ 50 ≤ bf pt ∧ bf pt ≤ 57
      · rw [if_pos z, if_pos z]; omega
      · rw [if_neg z, if_neg z]; omega
    have k47 : ∀ (z : Int), z = pTm bf n pt → ZZ 0 0 47 [some (.ref x), none, none] [.int (iI z), .ref x] L F := by
      intro z hz
      subst hz
      refine z_pf_X8_times hZ dX8_part_47 fl_X8_168 (by assumption) (by assumption) (fun F47 hF47 hf47 => ?_)
      refine z_aload_n0 hZ dX8_part_50 ?_
      refine z_dup hZ dX8_part_51 rfl ?_
      refine z_gf_X8_at hZ dX8_part_52 fl_X8_165 (by assumption) (by assumption) ?_
      refine z_aload_n0 hZ dX8_part_55 ?_
      refine z_gf_X8_times hZ dX8_part_56 fl_X8_168 (by assumption) (by assumption) ?_
      refine z_iconst hZ dX8_part_59 ?_
      refine z_icmp_le hZ (tgt := 67) dX8_part_60 rfl (by omega) (fun hc60 => ?_) (fun hc60 => ?_)
      · refine z_iconst hZ dX8_part_67 ?_
        refine k68 _ _ ?_ hF47 hf47
        first
          | (rw [rT.2.1 (by omega)])
          | (rw [rT.1 rfl (by omega)]; omega)
      · refine z_iconst hZ dX8_part_63 ?_
        refine z_goto hZ (tgt := 68) dX8_part_64 rfl ?_
        refine k68 _ _ ?_ hF47 hf47
        first
          | (rw [rT.2.1 (by omega)])
          | (rw [rT.1 rfl (by omega)]; omega)
    have hbp : pt < n → 10 ≤ bf pt ∧ bf pt ≤ 126 := fun z => hb pt hp.1 z
    refine z_aload_n0 hZ dX8_part_0 ?_
    refine z_aload_n0 hZ dX8_part_1 ?_
    refine z_gf_X8_at hZ dX8_part_2 fl_X8_165 (by assumption) (by assumption) ?_
    refine z_aload_n0 hZ dX8_part_5 ?_
    refine z_gf_X8_typed hZ dX8_part_6 fl_X8_159 (by assumption) (by assumption) ?_
    refine z_icmp_ge hZ (tgt := 46) dX8_part_9 rfl (by omega) (fun hc9 => ?_) (fun hc9 => ?_)
    · refine z_iconst hZ dX8_part_46 ?_
      refine k47 _ ?_
      unfold pTm
      first
        | rw [if_pos (by omega)]
        | rw [if_neg (by omega)]
    · refine z_aload_n0 hZ dX8_part_12 ?_
      refine z_gf_X8_text hZ dX8_part_13 fl_X8_17 (by assumption) (by assumption) ?_
      refine z_aload_n0 hZ dX8_part_16 ?_
      refine z_gf_X8_at hZ dX8_part_17 fl_X8_165 (by assumption) (by assumption) ?_
      refine z_caload hZ dX8_part_20 (by assumption) (by assumption) (by omega) ?_
      have hbp := hbp (by omega)
      refine z_bipush hZ dX8_part_21 rfl ?_
      refine z_bipush hZ dX8_part_23 rfl ?_
      refine z_cS hZ (As := [_, _, _]) rfl dX8_part_25 ml_X8_32 wy_X8_in (m_X8_in l (by omega) (by omega) (by omega)) ⟨Nat.le_of_ble_eq_true rfl, Nat.le_of_ble_eq_true rfl⟩ ⟨Nat.le_of_ble_eq_true rfl, Nat.le_of_ble_eq_true rfl⟩ (Nat.le_of_ble_eq_true rfl) (fun _ _ _ h => h.elim) (fun v25 L25 G25 hp25 => ?_)
      obtain ⟨rfl, rfl, rfl⟩ := hp25
      refine z_if_eq_b hZ (tgt := 46) dX8_part_28 rfl (fun hc28 => ?_) (fun hc28 => ?_)
      · refine z_iconst hZ dX8_part_46 ?_
        refine k47 _ ?_
        unfold pTm
        first
          | rw [if_pos (by omega)]
          | rw [if_neg (by omega)]
      · refine z_aload_n0 hZ dX8_part_31 ?_
        refine z_gf_X8_text hZ dX8_part_32 fl_X8_17 (by assumption) (by assumption) ?_
        refine z_aload_n0 hZ dX8_part_35 ?_
        refine z_gf_X8_at hZ dX8_part_36 fl_X8_165 (by assumption) (by assumption) ?_
        refine z_caload hZ dX8_part_39 (by assumption) (by assumption) (by omega) ?_
        refine z_bipush hZ dX8_part_40 rfl ?_
        refine z_isub hZ dX8_part_42 ?_
        refine z_goto hZ (tgt := 47) dX8_part_43 rfl ?_
        refine k47 _ ?_
        unfold pTm
        first
          | rw [if_pos (by omega)]
          | rw [if_neg (by omega)]
  exact hgo
theorem sgB_n {s c : Int} (h1 : s = 0 ∨ s = 1) (h2 : ¬ c = 39) (h3 : ¬ isLb c = true) (h4 : s = 0 → ¬ (50 ≤ c ∧ c ≤ 57)) : sgB s c = -1 := by
  unfold sgB
  rw [if_neg (by omega), if_neg (by omega), if_neg h2, if_neg h3, if_neg (fun z => h4 z.1 z.2)]
theorem sgB_q {s : Int} (h1 : s = 0 ∨ s = 1) : sgB s 39 = 2 := by
  unfold sgB
  rw [if_neg (by omega), if_neg (by omega), if_pos rfl]
theorem sgB_l {s c : Int} (h1 : s = 0 ∨ s = 1) (h2 : ¬ c = 39) (h3 : isLb c = true) : sgB s c = 0 := by
  unfold sgB
  rw [if_neg (by omega), if_neg (by omega), if_neg h2, if_pos h3]
theorem sgB_d {c : Int} (h : 50 ≤ c ∧ c ≤ 57) : sgB 0 c = 1 := by
  unfold sgB
  rw [if_neg (by omega), if_neg (by omega), if_neg (by omega), if_neg (by rw [isLb_nd (Or.inl h)]; decide), if_pos ⟨rfl, h⟩]
/-- one part, read from a place at which a part may begin -/
theorem part_m {bf : Int → Int} {n a : Int} (h0 : 0 ≤ a) (h1 : a < n) (hs : sgR bf a.toNat = 0) (hb : ∀ k, 0 ≤ k → k < n → 10 ≤ bf k ∧ bf k ≤ 126) :
    (0 ≤ mR bf n a ∧ a < mP3 bf n a ∧ mP3 bf n a ≤ n ∧ sgR bf (mP3 bf n a).toNat = 0 ∧ (∀ j, a ≤ j → j < mP3 bf n a → sgR bf (j + 1).toNat ≠ -1) ∧ mP3 bf n a = pE bf n a ∧ mR bf n a = bf (pA1 bf n a) ∧ (mR bf n a = 39 → mSg bf n a = pSg bf n a)) ∨
    (mR bf n a = -1 ∧ a ≤ mP3 bf n a ∧ mP3 bf n a ≤ n ∧ (∀ j, a ≤ j → j < mP3 bf n a → sgR bf (j + 1).toNat ≠ -1) ∧ (mP3 bf n a < n → sgR bf (mP3 bf n a + 1).toNat = -1) ∧ sgR bf n.toNat ≠ 0) := by
  have st : (sgR bf (pA1 bf n a).toNat = 0 ∧ pA1 bf n a = a ∧ ¬ (50 ≤ bf a ∧ bf a ≤ 57)) ∨ (sgR bf (pA1 bf n a).toNat = 1 ∧ pA1 bf n a = a + 1) := by
    unfold pA1
    by_cases z : a < n ∧ 50 ≤ bf a ∧ bf a ≤ 57
    · rw [if_pos z]
      refine Or.inr ⟨?_, rfl⟩
      rw [sgR_s h0, hs, sgB_d z.2]
    · rw [if_neg z]
      exact Or.inl ⟨hs, rfl, fun w => z ⟨h1, w⟩⟩
  obtain ⟨A1, hA1⟩ : ∃ A1, A1 = pA1 bf n a := ⟨_, rfl⟩
  rw [← hA1] at st ⊢
  have ar : a ≤ A1 ∧ A1 ≤ a + 1 ∧ A1 ≤ n := by omega
  have s1 : sgR bf A1.toNat = 0 ∨ sgR bf A1.toNat = 1 := by omega
  have hlo : ∀ j, a ≤ j → j < A1 → sgR bf (j + 1).toNat ≠ -1 := fun j j0 j1 => by rw [show j + 1 = A1 by omega]; omega
  have eE : pE bf n a = if bf A1 = 39 then A1 + 2 else A1 + 1 := by rw [hA1]; rfl
  have eG : pSg bf n a = if bf A1 = 39 then bf (A1 + 1) else bf A1 := by rw [hA1]; rfl
  by_cases qn : A1 = n
  · have eW : mW bf n a = -1 := by unfold mW; rw [← hA1, if_neg (by omega)]
    have e2 : mP2 bf n a = A1 := by unfold mP2; rw [eW, isLb_m, ← hA1, if_neg (by intro w; rcases w with w | w <;> cases w)]
    have eS : mSg bf n a = -1 := by unfold mSg; rw [eW, if_neg (fun z => absurd z.1 (by decide))]
    have e3 : mP3 bf n a = A1 := by unfold mP3; rw [eS, e2, if_neg (by decide)]
    have eR : mR bf n a = -1 := by unfold mR; rw [eW, isLb_m, if_neg (by decide), if_neg (by decide)]
    rw [e3, eR]
    refine Or.inr ⟨rfl, ar.1, ar.2.2, hlo, fun z => by omega, ?_⟩
    rw [← qn]; omega
  · have eW : mW bf n a = bf A1 := by unfold mW; rw [← hA1, if_pos (by omega)]
    have cA := hb A1 (by omega) (by omega)
    have sn := sgR_s (bf := bf) (i := A1) (by omega)
    by_cases w1 : bf A1 = 39
    · have e2 : mP2 bf n a = A1 + 1 := by unfold mP2; rw [eW, ← hA1, if_pos (Or.inl w1)]
      rw [w1, sgB_q s1] at sn
      by_cases w2 : A1 + 1 < n
      · have cB := hb (A1 + 1) (by omega) w2
        have eS : mSg bf n a = bf (A1 + 1) := by unfold mSg; rw [eW, e2, if_pos ⟨w1, w2⟩]
        have e3 : mP3 bf n a = A1 + 2 := by unfold mP3; rw [eS, e2, if_pos (by omega)]; omega
        have eR : mR bf n a = 39 := by unfold mR; rw [eW, eS, if_pos w1, if_pos (by omega), w1]
        have sn2 := sgR_s (bf := bf) (i := A1 + 1) (by omega)
        rw [sn, show sgB 2 (bf (A1 + 1)) = 0 from (if_neg (by decide)).trans (if_pos rfl), show A1 + 1 + 1 = A1 + 2 by omega] at sn2
        rw [e3, eR, eE, eG, eS, if_pos w1, if_pos w1]
        refine Or.inl ⟨by decide, by omega, by omega, sn2, fun j j0 j1 => ?_, rfl, w1.symm, fun _ => rfl⟩
        by_cases q1 : j < A1
        · exact hlo j j0 q1
        · by_cases q2 : j = A1
          · rw [q2, sn]; decide
          · rw [show j + 1 = A1 + 2 by omega, sn2]; decide
      · have eS : mSg bf n a = -1 := by unfold mSg; rw [e2, if_neg (fun z => w2 z.2)]
        have e3 : mP3 bf n a = A1 + 1 := by unfold mP3; rw [eS, e2, if_neg (by decide)]
        have eR : mR bf n a = -1 := by unfold mR; rw [eW, eS, if_pos w1, if_neg (by decide)]
        rw [e3, eR]
        refine Or.inr ⟨rfl, by omega, by omega, fun j j0 j1 => ?_, fun z => by omega, ?_⟩
        · by_cases q1 : j < A1
          · exact hlo j j0 q1
          · rw [show j = A1 by omega, sn]; decide
        · rw [show n = A1 + 1 by omega, sn]; decide
    · by_cases w3 : isLb (bf A1) = true
      · have e2 : mP2 bf n a = A1 + 1 := by unfold mP2; rw [eW, ← hA1, if_pos (Or.inr w3)]
        have eS : mSg bf n a = -1 := by unfold mSg; rw [eW, if_neg (fun z => w1 z.1)]
        have e3 : mP3 bf n a = A1 + 1 := by unfold mP3; rw [eS, e2, if_neg (by decide)]
        have eR : mR bf n a = bf A1 := by unfold mR; rw [eW, if_neg w1, if_pos w3]
        rw [sgB_l s1 w1 w3] at sn
        rw [e3, eR, eE, if_neg w1]
        refine Or.inl ⟨by omega, by omega, by omega, sn, fun j j0 j1 => ?_, rfl, rfl, fun z => absurd z w1⟩
        by_cases q1 : j < A1
        · exact hlo j j0 q1
        · rw [show j = A1 by omega, sn]; decide
      · have e2 : mP2 bf n a = A1 := by unfold mP2; rw [eW, ← hA1, if_neg (fun z => by rcases z with z | z; exact w1 z; exact w3 z)]
        have eS : mSg bf n a = -1 := by unfold mSg; rw [eW, if_neg (fun z => w1 z.1)]
        have e3 : mP3 bf n a = A1 := by unfold mP3; rw [eS, e2, if_neg (by decide)]
        have eR : mR bf n a = -1 := by unfold mR; rw [eW, if_neg w1, if_neg w3]
        rw [sgB_n s1 w1 w3 (fun z => by rcases st with q | q; rw [q.2.1]; exact q.2.2; omega)] at sn
        rw [e3, eR]
        refine Or.inr ⟨rfl, by omega, by omega, hlo, fun _ => sn, ?_⟩
        have z := sgR_bad sn (n.toNat - (A1 + 1).toNat)
        rw [show (A1 + 1).toNat + (n.toNat - (A1 + 1).toNat) = n.toNat by omega] at z
        rw [z]; decide
theorem part_0 {bf : Int → Int} : mR bf 0 0 = -1 ∧ mP3 bf 0 0 = 0 := by
  have e1 : pA1 bf 0 0 = 0 := if_neg (by omega)
  have eW : mW bf 0 0 = -1 := by unfold mW; rw [e1, if_neg (by omega)]
  have e2 : mP2 bf 0 0 = 0 := by unfold mP2; rw [eW, isLb_m, e1, if_neg (by intro w; rcases w with w | w <;> cases w)]
  have eS : mSg bf 0 0 = -1 := by unfold mSg; rw [eW, if_neg (fun z => absurd z.1 (by decide))]
  exact ⟨by unfold mR; rw [eW, isLb_m, if_neg (by decide), if_neg (by decide)], by unfold mP3; rw [eS, e2, if_neg (by decide)]⟩
theorem mP3_rg {bf : Int → Int} {n a : Int} (h0 : 0 ≤ a) (h1 : a ≤ n) (hs : a < n → sgR bf a.toNat = 0) (h2 : a = n → n = 0) (hb : ∀ k, 0 ≤ k → k < n → 10 ≤ bf k ∧ bf k ≤ 126) : 0 ≤ mP3 bf n a ∧ mP3 bf n a ≤ n := by
  by_cases q : a < n
  · rcases part_m h0 q (hs q) hb with z | z <;> omega
  · have e : a = n := by omega
    have e0 := h2 e
    subst e
    subst e0
    rw [part_0.2]; omega
set_option maxRecDepth 100000 in
set_option maxHeartbeats 4000000 in
theorem m_X8_tells (l : Launch) {L : List Nat} {F : Nat → PE} {x a q c : Nat} {g : Int → Int} {sv th kd n pt tm sg : Int} {kp bf : Int → Int} (o : mo L F x a q c g sv th kd n pt tm sg kp bf) (hn : 0 ≤ n ∧ n ≤ 60) (hb : ∀ k, 0 ≤ k → k < n → 10 ≤ bf k ∧ bf k ≤ 126) : PM l yX8_tells cX8_tells 2 (some .boolean) (rm 4 0 0) L [.ref x] F (fun v9 L1 F1 => v9 = some (.int (iI (b2 (0 < n ∧ sgR bf n.toNat = 0)))) ∧ L = L1 ∧ (∃ p z y, feP bf n p ∧ F1 x = eO 8 [.ref a, .int (iI sv), .ref q, .int (iI th), .int (iI kd), .ref c, .int (iI n), .int (iI p), .int (iI z), .int (iI y)]) ∧ ∀ b, b ≠ x → F1 b = F b) (fun _ _ _ => False) := by
  refine pm_of cd_X8_tells (by decide +kernel) (Nat.le_of_ble_eq_true rfl) (fun ZZ hZ => ?_)
  have hgo : ZZ 0 0 0 [some (.ref x), none] [] L F := by
    obtain ⟨A, hF, hg, hQ, hC⟩ := id o
    obtain ⟨⟨hx, ha, hqL, hcL⟩, hxa, hxq, hxc, haq, hac, hqc⟩ := id A
    have s18 : ∀ (G : Nat → PE) (p z y : Int), ¬ (0 < n ∧ sgR bf n.toNat = 0) → feP bf n p → G x = eO 8 [.ref a, .int (iI sv), .ref q, .int (iI th), .int (iI kd), .ref c, .int (iI n), .int (iI p), .int (iI z), .int (iI y)] → (∀ b, b ≠ x → G b = F b) → ZZ 0 0 18 [some (.ref x), some (.int (iI 0))] [] L G := by
      intro G p z y hno hp hG hf
      refine z_iload_n1 hZ dX8_tells_18 ?_
      refine z_if_eq hZ (tgt := 49) dX8_tells_19 rfl (by omega) (fun hc19 => ?_) (fun hc19 => ?_)
      · refine z_iload_n1 hZ dX8_tells_49 ?_
        exact z_zret hZ rfl (Nat.le_of_ble_eq_true rfl) (Nat.le_of_ble_eq_true rfl) dX8_tells_50 (by omega) (by exact ⟨pv (b2_f hno).symm, rfl, ⟨p, z, y, hp, hG⟩, hf⟩)
      · exfalso; omega
    have l18 : ∀ (m : Nat) (p z y : Int) (G : Nat → PE), (n - p).toNat ≤ m → 0 < n → 0 ≤ p → p ≤ n → sgR bf p.toNat = 0 → (∀ j, 0 ≤ j → j < p → sgR bf (j + 1).toNat ≠ -1) → G x = eO 8 [.ref a, .int (iI sv), .ref q, .int (iI th), .int (iI kd), .ref c, .int (iI n), .int (iI p), .int (iI z), .int (iI y)] → (∀ b, b ≠ x → G b = F b) → ZZ 0 0 18 [some (.ref x), some (.int (iI 1))] [] L G := by
      intro m
      induction m with
      | zero =>
        intro p z y G hm n0 p0 p1 hs hj hG hf
        have e : p = n := by omega
        subst e
        refine z_iload_n1 hZ dX8_tells_18 ?_
        refine z_if_eq hZ (tgt := 49) dX8_tells_19 rfl (by omega) (fun hc19 => ?_) (fun hc19 => ?_)
        · refine z_iload_n1 hZ dX8_tells_49 ?_
          exact z_zret hZ rfl (Nat.le_of_ble_eq_true rfl) (Nat.le_of_ble_eq_true rfl) dX8_tells_50 (by omega) (by exact ⟨pv (b2_t ⟨n0, hs⟩).symm, rfl, ⟨p, z, y, ⟨p0, p1, hj, fun w => by omega⟩, hG⟩, hf⟩)
        · refine z_aload_n0 hZ dX8_tells_22 ?_
          refine z_gf_X8_at hZ dX8_tells_23 fl_X8_165 (by assumption) (by assumption) ?_
          refine z_aload_n0 hZ dX8_tells_26 ?_
          refine z_gf_X8_typed hZ dX8_tells_27 fl_X8_159 (by assumption) (by assumption) ?_
          refine z_icmp_ge hZ (tgt := 49) dX8_tells_30 rfl (by omega) (fun hc30 => ?_) (fun hc30 => ?_)
          · refine z_iload_n1 hZ dX8_tells_49 ?_
            exact z_zret hZ rfl (Nat.le_of_ble_eq_true rfl) (Nat.le_of_ble_eq_true rfl) dX8_tells_50 (by omega) (by exact ⟨pv (b2_t ⟨n0, hs⟩).symm, rfl, ⟨p, z, y, ⟨p0, p1, hj, fun w => by omega⟩, hG⟩, hf⟩)
          · exfalso; omega
      | succ m ih =>
        intro p z y G hm n0 p0 p1 hs hj hG hf
        have o2 : mo L G x a q c g sv th kd n p z y kp bf := ⟨A, hG, (hf a (Ne.symm hxa)).trans hg, (hf q (Ne.symm hxq)).trans hQ, (hf c (Ne.symm hxc)).trans hC⟩
        have rR : p < n → -1 ≤ mR bf n p ∧ mR bf n p ≤ 126 := fun w => by rcases part_m p0 w hs hb with u | u; have := hb (pA1 bf n p) (by unfold pA1; split <;> omega) (by rcases Int.lt_or_le (pA1 bf n p) n with v | v; exact v; exfalso; have e : mW bf n p = -1 := if_neg (by omega); have e2 : mR bf n p = -1 := (by unfold mR; rw [e, isLb_m, if_neg (by decide), if_neg (by decide)]); omega); omega; omega
        refine z_iload_n1 hZ dX8_tells_18 ?_
        refine z_if_eq hZ (tgt := 49) dX8_tells_19 rfl (by omega) (fun hc19 => ?_) (fun hc19 => ?_)
        · refine z_iload_n1 hZ dX8_tells_49 ?_
          exact z_zret hZ rfl (Nat.le_of_ble_eq_true rfl) (Nat.le_of_ble_eq_true rfl) dX8_tells_50 (by omega) (by
            first
              | (exfalso; omega)
              | (have e : p = n := by omega
                 subst e
                 exact ⟨pv (b2_t ⟨n0, hs⟩).symm, rfl, ⟨p, z, y, ⟨p0, p1, hj, fun w => by omega⟩, hG⟩, hf⟩))
        · refine z_aload_n0 hZ dX8_tells_22 ?_
          refine z_gf_X8_at hZ dX8_tells_23 fl_X8_165 (by assumption) (by assumption) ?_
          refine z_aload_n0 hZ dX8_tells_26 ?_
          refine z_gf_X8_typed hZ dX8_tells_27 fl_X8_159 (by assumption) (by assumption) ?_
          refine z_icmp_ge hZ (tgt := 49) dX8_tells_30 rfl (by omega) (fun hc30 => ?_) (fun hc30 => ?_)
          · refine z_iload_n1 hZ dX8_tells_49 ?_
            exact z_zret hZ rfl (Nat.le_of_ble_eq_true rfl) (Nat.le_of_ble_eq_true rfl) dX8_tells_50 (by omega) (by
            first
              | (exfalso; omega)
              | (have e : p = n := by omega
                 subst e
                 exact ⟨pv (b2_t ⟨n0, hs⟩).symm, rfl, ⟨p, z, y, ⟨p0, p1, hj, fun w => by omega⟩, hG⟩, hf⟩))
          · refine z_aload_n0 hZ dX8_tells_33 ?_
            refine z_cV hZ (As := []) rfl dX8_tells_34 ml_X8_177 wy_X8_part (m_X8_part l o2 hn hb (by omega)) (by assumption) (by assumption) rfl ⟨Nat.le_of_ble_eq_true rfl, Nat.le_of_ble_eq_true rfl⟩ ⟨Nat.le_of_ble_eq_true rfl, Nat.le_of_ble_eq_true rfl⟩ (Nat.le_of_ble_eq_true rfl) (fun _ _ _ h => h.elim) (fun v34 L34 G34 hp34 => ?_)
            obtain ⟨rfl, rfl, hG, f34⟩ := hp34
            have rR := rR (by omega)
            have f34 : ∀ b, b ≠ x → G34 b = F b := fun b hb => (f34 b hb).trans (hf b hb)
            have pm := part_m p0 (by omega) hs hb
            refine z_if_lt hZ (tgt := 44) dX8_tells_37 rfl (by omega) (fun hc37 => ?_) (fun hc37 => ?_)
            · refine z_iconst hZ dX8_tells_44 ?_
              refine z_istore_n1 hZ dX8_tells_45 (by decide) rfl ?_
              refine z_goto hZ (tgt := 18) dX8_tells_46 rfl ?_
              first
                | (have pm := pm.resolve_left (by omega)
                   exact s18 _ _ _ _ (fun w => pm.2.2.2.2.2 w.2) ⟨by omega, pm.2.2.1, fun j j0 j1 => by rcases Int.lt_or_le j p with w | w; exact hj j j0 w; exact pm.2.2.2.1 j w j1, pm.2.2.2.2.1⟩ hG f34)
                | (have pm := pm.resolve_right (by omega)
                   exact ih _ _ _ _ (by omega) n0 (by omega) pm.2.2.1 pm.2.2.2.1 (fun j j0 j1 => by rcases Int.lt_or_le j p with w | w; exact hj j j0 w; exact pm.2.2.2.2.1 j w j1) hG f34)
            · refine z_iconst hZ dX8_tells_40 ?_
              refine z_goto hZ (tgt := 45) dX8_tells_41 rfl ?_
              refine z_istore_n1 hZ dX8_tells_45 (by decide) rfl ?_
              refine z_goto hZ (tgt := 18) dX8_tells_46 rfl ?_
              first
                | (have pm := pm.resolve_left (by omega)
                   exact s18 _ _ _ _ (fun w => pm.2.2.2.2.2 w.2) ⟨by omega, pm.2.2.1, fun j j0 j1 => by rcases Int.lt_or_le j p with w | w; exact hj j j0 w; exact pm.2.2.2.1 j w j1, pm.2.2.2.2.1⟩ hG f34)
                | (have pm := pm.resolve_right (by omega)
                   exact ih _ _ _ _ (by omega) n0 (by omega) pm.2.2.1 pm.2.2.2.1 (fun j j0 j1 => by rcases Int.lt_or_le j p with w | w; exact hj j j0 w; exact pm.2.2.2.2.1 j w j1) hG f34)
    have rR0 : -1 ≤ mR bf n 0 ∧ mR bf n 0 ≤ 126 := by
      unfold mR mW
      by_cases w : pA1 bf n 0 < n
      · have := hb (pA1 bf n 0) (by unfold pA1; split <;> omega) w
        rw [if_pos w]; (repeat' split) <;> omega
      · rw [if_neg w]; (repeat' split) <;> omega
    refine z_aload_n0 hZ dX8_tells_0 ?_
    refine z_iconst hZ dX8_tells_1 ?_
    refine z_pf_X8_at hZ dX8_tells_2 fl_X8_165 (by assumption) (by assumption) (fun F2 hF2 hf2 => ?_)
    have o2 : mo L F2 x a q c g sv th kd n 0 tm sg kp bf := ⟨A, hF2, (hf2 a (Ne.symm hxa)).trans hg, (hf2 q (Ne.symm hxq)).trans hQ, (hf2 c (Ne.symm hxc)).trans hC⟩
    refine z_aload_n0 hZ dX8_tells_5 ?_
    refine z_cV hZ (As := []) rfl dX8_tells_6 ml_X8_177 wy_X8_part (m_X8_part l o2 hn hb (by omega)) (by assumption) (by assumption) rfl ⟨Nat.le_of_ble_eq_true rfl, Nat.le_of_ble_eq_true rfl⟩ ⟨Nat.le_of_ble_eq_true rfl, Nat.le_of_ble_eq_true rfl⟩ (Nat.le_of_ble_eq_true rfl) (fun _ _ _ h => h.elim) (fun v6 L6 G6 hp6 => ?_)
    obtain ⟨rfl, rfl, hG, f6⟩ := hp6
    have f6 : ∀ b, b ≠ x → G6 b = F b := fun b hb => (f6 b hb).trans (hf2 b hb)
    refine z_if_lt hZ (tgt := 16) dX8_tells_9 rfl (by omega) (fun hc9 => ?_) (fun hc9 => ?_)
    · refine z_iconst hZ dX8_tells_16 ?_
      refine z_istore_n1 hZ dX8_tells_17 (by decide) rfl ?_
      by_cases n0 : 0 < n
      · have pm := part_m (Int.le_refl 0) n0 rfl hb
        first
          | (have pm := pm.resolve_left (by omega)
             exact s18 _ _ _ _ (fun w => pm.2.2.2.2.2 w.2) ⟨by omega, pm.2.2.1, pm.2.2.2.1, pm.2.2.2.2.1⟩ hG f6)
          | (have pm := pm.resolve_right (by omega)
             exact l18 _ _ _ _ _ (Nat.le_refl _) n0 (by omega) pm.2.2.1 pm.2.2.2.1 pm.2.2.2.2.1 hG f6)
      · have e0 : n = 0 := by omega
        subst e0
        have p0 := part_0 (bf := bf)
        first
          | (exfalso; omega)
          | exact s18 _ _ _ _ (fun w => n0 w.1) ⟨by omega, by omega, fun j j0 j1 => by omega, fun w => by omega⟩ hG f6
    · refine z_iconst hZ dX8_tells_12 ?_
      refine z_goto hZ (tgt := 17) dX8_tells_13 rfl ?_
      refine z_istore_n1 hZ dX8_tells_17 (by decide) rfl ?_
      by_cases n0 : 0 < n
      · have pm := part_m (Int.le_refl 0) n0 rfl hb
        first
          | (have pm := pm.resolve_left (by omega)
             exact s18 _ _ _ _ (fun w => pm.2.2.2.2.2 w.2) ⟨by omega, pm.2.2.1, pm.2.2.2.1, pm.2.2.2.2.1⟩ hG f6)
          | (have pm := pm.resolve_right (by omega)
             exact l18 _ _ _ _ _ (Nat.le_refl _) n0 (by omega) pm.2.2.1 pm.2.2.2.1 pm.2.2.2.2.1 hG f6)
      · have e0 : n = 0 := by omega
        subst e0
        have p0 := part_0 (bf := bf)
        first
          | (exfalso; omega)
          | exact s18 _ _ _ _ (fun w => n0 w.1) ⟨by omega, by omega, fun j j0 j1 => by omega, fun w => by omega⟩ hG f6
  exact hgo
set_option maxRecDepth 100000 in
set_option maxHeartbeats 4000000 in
theorem m_X8_firstError (l : Launch) {L : List Nat} {F : Nat → PE} {x a q c : Nat} {g : Int → Int} {sv th kd n pt tm sg : Int} {kp bf : Int → Int} (o : mo L F x a q c g sv th kd n pt tm sg kp bf) (hn : 0 ≤ n ∧ n ≤ 60) (hb : ∀ k, 0 ≤ k → k < n → 10 ≤ bf k ∧ bf k ≤ 126) : PM l yX8_firstError cX8_firstError 1 (some .int) (rm 5 0 0) L [.ref x] F (fun v9 L1 F1 => L = L1 ∧ fm x a q c F F1 ∧ ∃ p z y, feP bf n p ∧ v9 = some (.int (iI p)) ∧ mo L F1 x a q c g sv 0 kd n p z y kp bf) (fun _ _ _ => False) := by
  refine pm_of cd_X8_firstError (by decide +kernel) (Nat.le_of_ble_eq_true rfl) (fun ZZ hZ => ?_)
  have hgo : ZZ 0 0 0 [some (.ref x)] [] L F := by
    obtain ⟨A, hF, hg, hQ, hC⟩ := id o
    obtain ⟨⟨hx, ha, hqL, hcL⟩, hxa, hxq, hxc, haq, hac, hqc⟩ := id A
    refine z_aload_n0 hZ dX8_firstError_0 ?_
    refine z_iconst hZ dX8_firstError_1 ?_
    refine z_pf_X8_thrown hZ dX8_firstError_2 fl_X8_21 (by assumption) (by assumption) (fun F2 hF2 hf2 => ?_)
    have o2 : mo L F2 x a q c g sv 0 kd n pt tm sg kp bf := ⟨A, hF2, (hf2 a (Ne.symm hxa)).trans hg, (hf2 q (Ne.symm hxq)).trans hQ, (hf2 c (Ne.symm hxc)).trans hC⟩
    refine z_aload_n0 hZ dX8_firstError_5 ?_
    refine z_cV hZ (As := []) rfl dX8_firstError_6 ml_X8_180 wy_X8_tells (m_X8_tells l o2 hn hb) (by assumption) (by assumption) rfl ⟨Nat.le_of_ble_eq_true rfl, Nat.le_of_ble_eq_true rfl⟩ ⟨Nat.le_of_ble_eq_true rfl, Nat.le_of_ble_eq_true rfl⟩ (Nat.le_of_ble_eq_true rfl) (fun _ _ _ h => h.elim) (fun v6 L6 G6 hp6 => ?_)
    obtain ⟨rfl, rfl, ⟨p, z, y, fp, hF⟩, f6⟩ := hp6
    refine z_pop hZ dX8_firstError_9 rfl ?_
    refine z_aload_n0 hZ dX8_firstError_10 ?_
    refine z_gf_X8_at hZ dX8_firstError_11 fl_X8_165 (by assumption) (by assumption) ?_
    exact z_iret hZ rfl (Nat.le_of_ble_eq_true rfl) (Nat.le_of_ble_eq_true rfl) dX8_firstError_14 (by exact ⟨rfl, fm.x (fm.x fm.rf hf2) f6, p, z, y, fp, rfl, A, hF, (f6 a (Ne.symm hxa)).trans o2.2.2.1, (f6 q (Ne.symm hxq)).trans o2.2.2.2.1, (f6 c (Ne.symm hxc)).trans o2.2.2.2.2⟩)
  exact hgo

