/-! WHERE A LETTER STANDS IN THE LETTERS OF DEEDS. -/
set_option maxRecDepth 100000 in
set_option maxHeartbeats 4000000 in
theorem m_J1_canEncode_9a6ad {a0 b0 : Nat} (l : Launch) {L : List Nat} {F : Nat → PE} {c : Int} (hc : 0 ≤ c ∧ c ≤ 127) : PMs a0 b0 l yJ1_canEncode_9a6ad cJ1_canEncode_9a6ad 1 (some .boolean) (rm 1 0 0) L [.int (iI c)] F (fun v9 L1 F1 => v9 = some (.int (iI 1)) ∧ L = L1 ∧ F = F1) (fun _ _ _ => False) := by
  refine pms_of cd_J1_canEncode_9a6ad (by decide +kernel) (Nat.le_of_ble_eq_true rfl) (fun ZZ hZ => ?_)
  have hgo : ZZ 0 0 0 [some (.int (iI c))] [] L F := by
    refine zs_iload_n0 hZ dJ1_canEncode_9a6ad_0 ?_
    refine zs_if_lt hZ (tgt := 15) dJ1_canEncode_9a6ad_1 rfl (by omega) (fun hc1 => ?_) (fun hc1 => ?_)
    · exfalso; omega
    · refine zs_iload_n0 hZ dJ1_canEncode_9a6ad_4 ?_
      refine zs_sipush hZ dJ1_canEncode_9a6ad_5 rfl ?_
      refine zs_icmp_gt hZ (tgt := 15) dJ1_canEncode_9a6ad_8 rfl (by omega) (fun hc8 => ?_) (fun hc8 => ?_)
      · exfalso; omega
      · refine zs_iconst hZ dJ1_canEncode_9a6ad_11 ?_
        refine zs_goto hZ (tgt := 16) dJ1_canEncode_9a6ad_12 rfl ?_
        exact zs_zret hZ rfl (Nat.le_of_ble_eq_true rfl) (Nat.le_of_ble_eq_true rfl) dJ1_canEncode_9a6ad_16 (by omega) (by exact ⟨rfl, rfl, rfl⟩)
  exact hgo
set_option maxRecDepth 100000 in
set_option maxHeartbeats 4000000 in
theorem m_J0_coder_7d493 {a0 b0 : Nat} (l : Launch) {L : List Nat} {F : Nat → PE} : PMs a0 b0 l yJ0_coder_7d493 cJ0_coder_7d493 1 (some .byte) (rm 1 0 0) L [.ref a0] F (fun v9 L1 F1 => v9 = some (.int (iI 0)) ∧ L = L1 ∧ F = F1) (fun _ _ _ => False) := by
  refine pms_of cd_J0_coder_7d493 (by decide +kernel) (Nat.le_of_ble_eq_true rfl) (fun ZZ hZ => ?_)
  have hgo : ZZ 0 0 0 [some (.ref a0)] [] L F := by
    refine zs_gsCom hZ dJ0_coder_7d493_0 fl_J0_38 ?_
    refine zs_if_eq hZ (tgt := 13) dJ0_coder_7d493_3 rfl (by omega) (fun hc3 => ?_) (fun hc3 => ?_)
    · exfalso; omega
    · refine zs_aload_n0 hZ dJ0_coder_7d493_6 ?_
      refine zs_gfCod hZ dJ0_coder_7d493_7 fl_J0_15 ?_
      refine zs_goto hZ (tgt := 14) dJ0_coder_7d493_10 rfl ?_
      exact zs_bret hZ rfl (Nat.le_of_ble_eq_true rfl) (Nat.le_of_ble_eq_true rfl) dJ0_coder_7d493_14 (by exact ⟨rfl, rfl, rfl⟩)
  exact hgo
set_option maxRecDepth 100000 in
set_option maxHeartbeats 4000000 in
theorem m_J0_length_8abf5 {a0 b0 : Nat} (l : Launch) {L : List Nat} {F : Nat → PE} : PMs a0 b0 l yJ0_length_8abf5 cJ0_length_8abf5 1 (some .int) (rm 2 0 0) L [.ref a0] F (fun v9 L1 F1 => v9 = some (.int (iI 21)) ∧ L = L1 ∧ F = F1) (fun _ _ _ => False) := by
  refine pms_of cd_J0_length_8abf5 (by decide +kernel) (Nat.le_of_ble_eq_true rfl) (fun ZZ hZ => ?_)
  have hgo : ZZ 0 0 0 [some (.ref a0)] [] L F := by
    refine zs_aload_n0 hZ dJ0_length_8abf5_0 ?_
    refine zs_gfVal hZ dJ0_length_8abf5_1 fl_J0_9 ?_
    refine zs_alen hZ dJ0_length_8abf5_4 ?_
    refine zs_aload_n0 hZ dJ0_length_8abf5_5 ?_
    refine zs_cV hZ (As := []) rfl dJ0_length_8abf5_6 ml_J0_335 wy_J0_coder_7d493 (m_J0_coder_7d493 l)   rfl ⟨Nat.le_of_ble_eq_true rfl, Nat.le_of_ble_eq_true rfl⟩ ⟨Nat.le_of_ble_eq_true rfl, Nat.le_of_ble_eq_true rfl⟩ (Nat.le_of_ble_eq_true rfl) (fun _ _ _ h => h.elim) (fun v6 L6 G6 hp6 => ?_)
    obtain ⟨rfl, rfl, rfl⟩ := hp6
    refine zs_ishr hZ dJ0_length_8abf5_9 (show iI 21 >>> (iI 0 &&& 31) = iI 21 by decide) ?_
    exact zs_iret hZ rfl (Nat.le_of_ble_eq_true rfl) (Nat.le_of_ble_eq_true rfl) dJ0_length_8abf5_10 (by exact ⟨rfl, rfl, rfl⟩)
  exact hgo
set_option maxRecDepth 100000 in
set_option maxHeartbeats 4000000 in
theorem m_J0_isLatin1_aae02 {a0 b0 : Nat} (l : Launch) {L : List Nat} {F : Nat → PE} : PMs a0 b0 l yJ0_isLatin1_aae02 cJ0_isLatin1_aae02 1 (some .boolean) (rm 1 0 0) L [.ref a0] F (fun v9 L1 F1 => v9 = some (.int (iI 1)) ∧ L = L1 ∧ F = F1) (fun _ _ _ => False) := by
  refine pms_of cd_J0_isLatin1_aae02 (by decide +kernel) (Nat.le_of_ble_eq_true rfl) (fun ZZ hZ => ?_)
  have hgo : ZZ 0 0 0 [some (.ref a0)] [] L F := by
    refine zs_gsCom hZ dJ0_isLatin1_aae02_0 fl_J0_38 ?_
    refine zs_if_eq hZ (tgt := 17) dJ0_isLatin1_aae02_3 rfl (by omega) (fun hc3 => ?_) (fun hc3 => ?_)
    · exfalso; omega
    · refine zs_aload_n0 hZ dJ0_isLatin1_aae02_6 ?_
      refine zs_gfCod hZ dJ0_isLatin1_aae02_7 fl_J0_15 ?_
      refine zs_if_ne hZ (tgt := 17) dJ0_isLatin1_aae02_10 rfl (by omega) (fun hc10 => ?_) (fun hc10 => ?_)
      · exfalso; omega
      · refine zs_iconst hZ dJ0_isLatin1_aae02_13 ?_
        refine zs_goto hZ (tgt := 18) dJ0_isLatin1_aae02_14 rfl ?_
        exact zs_zret hZ rfl (Nat.le_of_ble_eq_true rfl) (Nat.le_of_ble_eq_true rfl) dJ0_isLatin1_aae02_18 (by omega) (by exact ⟨rfl, rfl, rfl⟩)
  exact hgo
set_option maxRecDepth 100000 in
set_option maxHeartbeats 4000000 in
theorem m_J1_indexOfChar_4cfef {a0 b0 : Nat} (l : Launch) {L : List Nat} {F : Nat → PE} {c : Int} (hc : 0 ≤ c ∧ c ≤ 127) : PMs a0 b0 l yJ1_indexOfChar_4cfef cJ1_indexOfChar_4cfef 6 (some .int) (rm 1 0 0) L [.ref b0, .int (iI c), .int (iI 0), .int (iI 21)] F (fun v9 L1 F1 => (∃ r, v9 = some (.int (iI r)) ∧ -1 ≤ r ∧ r < 21 ∧ (r = -1 ↔ ∀ j, 0 ≤ j → j < 21 → ltZ j ≠ c)) ∧ L = L1 ∧ F = F1) (fun _ _ _ => False) := by
  refine pms_of cd_J1_indexOfChar_4cfef (by decide +kernel) (Nat.le_of_ble_eq_true rfl) (fun ZZ hZ => ?_)
  have hgo : ZZ 0 0 0 [some (.ref b0), some (.int (iI c)), some (.int (iI 0)), some (.int (iI 21)), none, none] [] L F := by
    have loop : ∀ (m : Nat) (i : Int), (21 - i).toNat = m → 0 ≤ i → i ≤ 21 → (∀ j, 0 ≤ j → j < i → ltZ j ≠ c) → ZZ 0 0 7 [some (.ref b0), some (.int (iI c)), some (.int (iI 0)), some (.int (iI 21)), some (.int (iI c)), some (.int (iI i))] [] L F := by
      intro m
      induction m with
      | zero =>
        intro i hm h0 h1 h2
        refine zs_iload5 hZ dJ1_indexOfChar_4cfef_7 ?_
        refine zs_iload_n3 hZ dJ1_indexOfChar_4cfef_9 ?_
        refine zs_icmp_ge hZ (tgt := 31) dJ1_indexOfChar_4cfef_10 rfl (by omega) (fun hc10 => ?_) (fun hc10 => ?_)
        · refine zs_iconst hZ dJ1_indexOfChar_4cfef_31 ?_
          exact zs_iret hZ rfl (Nat.le_of_ble_eq_true rfl) (Nat.le_of_ble_eq_true rfl) dJ1_indexOfChar_4cfef_32 (by exact ⟨⟨-1, rfl, by omega, by omega, fun _ j j0 j1 => h2 j j0 (by omega), fun _ => rfl⟩, rfl, rfl⟩)
        · exfalso; omega
      | succ m ih =>
        intro i hm h0 h1 h2
        have rl := ltZ_rg (i := i)
        refine zs_iload5 hZ dJ1_indexOfChar_4cfef_7 ?_
        refine zs_iload_n3 hZ dJ1_indexOfChar_4cfef_9 ?_
        refine zs_icmp_ge hZ (tgt := 31) dJ1_indexOfChar_4cfef_10 rfl (by omega) (fun hc10 => ?_) (fun hc10 => ?_)
        · exfalso; omega
        · refine zs_aload_n0 hZ dJ1_indexOfChar_4cfef_13 ?_
          refine zs_iload5 hZ dJ1_indexOfChar_4cfef_14 ?_
          refine zs_bald hZ dJ1_indexOfChar_4cfef_16 (by omega) ?_
          refine zs_iload4 hZ dJ1_indexOfChar_4cfef_17 ?_
          refine zs_icmp_ne hZ (tgt := 25) dJ1_indexOfChar_4cfef_19 rfl (by omega) (fun hc19 => ?_) (fun hc19 => ?_)
          · refine zs_iinc5 hZ dJ1_indexOfChar_4cfef_25 (by decide) rfl ?_
            refine zs_goto hZ (tgt := 7) dJ1_indexOfChar_4cfef_28 rfl ?_
            exact ih (i + 1) (by omega) (by omega) (by omega) (fun j j0 j1 => by by_cases q : j = i; (rw [q]; omega); exact h2 j j0 (by omega))
          · refine zs_iload5 hZ dJ1_indexOfChar_4cfef_22 ?_
            exact zs_iret hZ rfl (Nat.le_of_ble_eq_true rfl) (Nat.le_of_ble_eq_true rfl) dJ1_indexOfChar_4cfef_24 (by exact ⟨⟨i, rfl, by omega, by omega, fun z => by omega, fun z => absurd (by omega) (z i (by omega) (by omega))⟩, rfl, rfl⟩)
    refine zs_iload_n1 hZ dJ1_indexOfChar_4cfef_0 ?_
    refine zs_i2b hZ dJ1_indexOfChar_4cfef_1 (iI_8 (by omega)) ?_
    refine zs_istore4 hZ dJ1_indexOfChar_4cfef_2 (by decide) rfl ?_
    refine zs_iload_n2 hZ dJ1_indexOfChar_4cfef_4 ?_
    refine zs_istore5 hZ dJ1_indexOfChar_4cfef_5 (by decide) rfl ?_
    exact loop 21 0 rfl (by omega) (by omega) (fun j j0 j1 => by omega)
  exact hgo
set_option maxRecDepth 100000 in
set_option maxHeartbeats 4000000 in
theorem m_J1_indexOf_4cfef {a0 b0 : Nat} (l : Launch) {L : List Nat} {F : Nat → PE} {c : Int} (hc : 0 ≤ c ∧ c ≤ 127) : PMs a0 b0 l yJ1_indexOf_4cfef cJ1_indexOf_4cfef 4 (some .int) (rm 2 0 0) L [.ref b0, .int (iI c), .int (iI 0), .int (iI 21)] F (fun v9 L1 F1 => (∃ r, v9 = some (.int (iI r)) ∧ -1 ≤ r ∧ r < 21 ∧ (r = -1 ↔ ∀ j, 0 ≤ j → j < 21 → ltZ j ≠ c)) ∧ L = L1 ∧ F = F1) (fun _ _ _ => False) := by
  refine pms_of cd_J1_indexOf_4cfef (by decide +kernel) (Nat.le_of_ble_eq_true rfl) (fun ZZ hZ => ?_)
  have hgo : ZZ 0 0 0 [some (.ref b0), some (.int (iI c)), some (.int (iI 0)), some (.int (iI 21))] [] L F := by
    refine zs_iload_n1 hZ dJ1_indexOf_4cfef_0 ?_
    refine zs_cS hZ (As := [_]) rfl dJ1_indexOf_4cfef_1 ml_J1_88 wy_J1_canEncode_9a6ad (m_J1_canEncode_9a6ad l hc) ⟨Nat.le_of_ble_eq_true rfl, Nat.le_of_ble_eq_true rfl⟩ ⟨Nat.le_of_ble_eq_true rfl, Nat.le_of_ble_eq_true rfl⟩ (Nat.le_of_ble_eq_true rfl) (fun _ _ _ h => h.elim) (fun v1 L1 G1 hp1 => ?_)
    obtain ⟨rfl, rfl, rfl⟩ := hp1
    refine zs_if_ne hZ (tgt := 9) dJ1_indexOf_4cfef_4 rfl (by omega) (fun hc4 => ?_) (fun hc4 => ?_)
    · refine zs_iload_n2 hZ dJ1_indexOf_4cfef_9 ?_
      refine zs_iconst hZ dJ1_indexOf_4cfef_10 ?_
      refine zs_max hZ dJ1_indexOf_4cfef_11 ml_J1_92 (by omega) (Nat.le_of_ble_eq_true rfl) (Nat.le_of_ble_eq_true rfl) (Nat.le_of_ble_eq_true rfl) ⟨Nat.le_of_ble_eq_true rfl, Nat.le_of_ble_eq_true rfl⟩ ?_
      refine zs_istore_n2 hZ dJ1_indexOf_4cfef_14 (by decide) rfl ?_
      rw [show (if (0 : Int) < 0 then (0 : Int) else 0) = 0 from rfl]
      refine zs_iload_n3 hZ dJ1_indexOf_4cfef_15 ?_
      refine zs_aload_n0 hZ dJ1_indexOf_4cfef_16 ?_
      refine zs_alen hZ dJ1_indexOf_4cfef_17 ?_
      refine zs_min hZ dJ1_indexOf_4cfef_18 ml_J1_38 (by omega) (Nat.le_of_ble_eq_true rfl) (Nat.le_of_ble_eq_true rfl) (Nat.le_of_ble_eq_true rfl) ⟨Nat.le_of_ble_eq_true rfl, Nat.le_of_ble_eq_true rfl⟩ ?_
      refine zs_istore_n3 hZ dJ1_indexOf_4cfef_21 (by decide) rfl ?_
      rw [show (if (21 : Int) < 21 then (21 : Int) else 21) = 21 from rfl]
      refine zs_iload_n2 hZ dJ1_indexOf_4cfef_22 ?_
      refine zs_iload_n3 hZ dJ1_indexOf_4cfef_23 ?_
      refine zs_icmp_lt hZ (tgt := 29) dJ1_indexOf_4cfef_24 rfl (by omega) (fun hc24 => ?_) (fun hc24 => ?_)
      · refine zs_aload_n0 hZ dJ1_indexOf_4cfef_29 ?_
        refine zs_iload_n1 hZ dJ1_indexOf_4cfef_30 ?_
        refine zs_iload_n2 hZ dJ1_indexOf_4cfef_31 ?_
        refine zs_iload_n3 hZ dJ1_indexOf_4cfef_32 ?_
        refine zs_cS hZ (As := [_, _, _, _]) rfl dJ1_indexOf_4cfef_33 ml_J1_95 wy_J1_indexOfChar_4cfef (m_J1_indexOfChar_4cfef l hc) ⟨Nat.le_of_ble_eq_true rfl, Nat.le_of_ble_eq_true rfl⟩ ⟨Nat.le_of_ble_eq_true rfl, Nat.le_of_ble_eq_true rfl⟩ (Nat.le_of_ble_eq_true rfl) (fun _ _ _ h => h.elim) (fun v33 L33 G33 hp33 => ?_)
        obtain ⟨⟨r, rfl, hr⟩, rfl, rfl⟩ := hp33
        exact zs_iret hZ rfl (Nat.le_of_ble_eq_true rfl) (Nat.le_of_ble_eq_true rfl) dJ1_indexOf_4cfef_36 (by exact ⟨⟨r, rfl, hr⟩, rfl, rfl⟩)
      · exfalso; omega
    · exfalso; omega
  exact hgo
set_option maxRecDepth 100000 in
set_option maxHeartbeats 4000000 in
theorem m_J0_indexOf_7cf53 {a0 b0 : Nat} (l : Launch) {L : List Nat} {F : Nat → PE} {c : Int} (hc : 0 ≤ c ∧ c ≤ 127) : PMs a0 b0 l yJ0_indexOf_7cf53 cJ0_indexOf_7cf53 3 (some .int) (rm 3 0 0) L [.ref a0, .int (iI c), .int (iI 0)] F (fun v9 L1 F1 => (∃ r, v9 = some (.int (iI r)) ∧ -1 ≤ r ∧ r < 21 ∧ (r = -1 ↔ ∀ j, 0 ≤ j → j < 21 → ltZ j ≠ c)) ∧ L = L1 ∧ F = F1) (fun _ _ _ => False) := by
  refine pms_of cd_J0_indexOf_7cf53 (by decide +kernel) (Nat.le_of_ble_eq_true rfl) (fun ZZ hZ => ?_)
  have hgo : ZZ 0 0 0 [some (.ref a0), some (.int (iI c)), some (.int (iI 0))] [] L F := by
    refine zs_aload_n0 hZ dJ0_indexOf_7cf53_0 ?_
    refine zs_cV hZ (As := []) rfl dJ0_indexOf_7cf53_1 ml_J0_492 wy_J0_isLatin1_aae02 (m_J0_isLatin1_aae02 l)   rfl ⟨Nat.le_of_ble_eq_true rfl, Nat.le_of_ble_eq_true rfl⟩ ⟨Nat.le_of_ble_eq_true rfl, Nat.le_of_ble_eq_true rfl⟩ (Nat.le_of_ble_eq_true rfl) (fun _ _ _ h => h.elim) (fun v1 L1 G1 hp1 => ?_)
    obtain ⟨rfl, rfl, rfl⟩ := hp1
    refine zs_if_eq hZ (tgt := 23) dJ0_indexOf_7cf53_4 rfl (by omega) (fun hc4 => ?_) (fun hc4 => ?_)
    · exfalso; omega
    · refine zs_aload_n0 hZ dJ0_indexOf_7cf53_7 ?_
      refine zs_gfVal hZ dJ0_indexOf_7cf53_8 fl_J0_9 ?_
      refine zs_iload_n1 hZ dJ0_indexOf_7cf53_11 ?_
      refine zs_iload_n2 hZ dJ0_indexOf_7cf53_12 ?_
      refine zs_aload_n0 hZ dJ0_indexOf_7cf53_13 ?_
      refine zs_cV hZ (As := []) rfl dJ0_indexOf_7cf53_14 ml_J0_505 wy_J0_length_8abf5 (m_J0_length_8abf5 l)   rfl ⟨Nat.le_of_ble_eq_true rfl, Nat.le_of_ble_eq_true rfl⟩ ⟨Nat.le_of_ble_eq_true rfl, Nat.le_of_ble_eq_true rfl⟩ (Nat.le_of_ble_eq_true rfl) (fun _ _ _ h => h.elim) (fun v14 L14 G14 hp14 => ?_)
      obtain ⟨rfl, rfl, rfl⟩ := hp14
      refine zs_cS hZ (As := [_, _, _, _]) rfl dJ0_indexOf_7cf53_17 ml_J0_637 wy_J1_indexOf_4cfef (m_J1_indexOf_4cfef l hc) ⟨Nat.le_of_ble_eq_true rfl, Nat.le_of_ble_eq_true rfl⟩ ⟨Nat.le_of_ble_eq_true rfl, Nat.le_of_ble_eq_true rfl⟩ (Nat.le_of_ble_eq_true rfl) (fun _ _ _ h => h.elim) (fun v17 L17 G17 hp17 => ?_)
      obtain ⟨⟨r, rfl, hr⟩, rfl, rfl⟩ := hp17
      refine zs_goto hZ (tgt := 36) dJ0_indexOf_7cf53_20 rfl ?_
      exact zs_iret hZ rfl (Nat.le_of_ble_eq_true rfl) (Nat.le_of_ble_eq_true rfl) dJ0_indexOf_7cf53_36 (by exact ⟨⟨r, rfl, hr⟩, rfl, rfl⟩)
  exact hgo
set_option maxRecDepth 100000 in
set_option maxHeartbeats 4000000 in
theorem m_J0_indexOf_0f7a4 {a0 b0 : Nat} (l : Launch) {L : List Nat} {F : Nat → PE} {c : Int} (hc : 0 ≤ c ∧ c ≤ 127) : PMs a0 b0 l yJ0_indexOf_0f7a4 cJ0_indexOf_0f7a4 2 (some .int) (rm 4 0 0) L [.ref a0, .int (iI c)] F (fun v9 L1 F1 => (∃ r, v9 = some (.int (iI r)) ∧ -1 ≤ r ∧ r < 21 ∧ (r = -1 ↔ ∀ j, 0 ≤ j → j < 21 → ltZ j ≠ c)) ∧ L = L1 ∧ F = F1) (fun _ _ _ => False) := by
  refine pms_of cd_J0_indexOf_0f7a4 (by decide +kernel) (Nat.le_of_ble_eq_true rfl) (fun ZZ hZ => ?_)
  have hgo : ZZ 0 0 0 [some (.ref a0), some (.int (iI c))] [] L F := by
    refine zs_aload_n0 hZ dJ0_indexOf_0f7a4_0 ?_
    refine zs_iload_n1 hZ dJ0_indexOf_0f7a4_1 ?_
    refine zs_iconst hZ dJ0_indexOf_0f7a4_2 ?_
    refine zs_cV hZ (As := [_, _]) rfl dJ0_indexOf_0f7a4_3 ml_J0_633 wy_J0_indexOf_7cf53 (m_J0_indexOf_7cf53 l hc)   rfl ⟨Nat.le_of_ble_eq_true rfl, Nat.le_of_ble_eq_true rfl⟩ ⟨Nat.le_of_ble_eq_true rfl, Nat.le_of_ble_eq_true rfl⟩ (Nat.le_of_ble_eq_true rfl) (fun _ _ _ h => h.elim) (fun v3 L3 G3 hp3 => ?_)
    obtain ⟨⟨r, rfl, hr⟩, rfl, rfl⟩ := hp3
    exact zs_iret hZ rfl (Nat.le_of_ble_eq_true rfl) (Nat.le_of_ble_eq_true rfl) dJ0_indexOf_0f7a4_6 (by exact ⟨⟨r, rfl, hr⟩, rfl, rfl⟩)
  exact hgo

