/-! THE BUFFER, SNAPSHOTS, UNDO. -/
theorem insA_app {bf : Int → Int} {n x k : Int} (h : k < n + 1) : insA bf n 1 (fun _ => x) k = wu bf n x k := by
  unfold insA wu
  by_cases c : k < n
  · rw [if_pos c, if_neg (by omega)]
  · rw [if_neg c, if_pos (by omega), if_pos (by omega)]
set_option maxRecDepth 100000 in
set_option maxHeartbeats 4000000 in
theorem m_X7_append (l : Launch) {L : List Nat} {F : Nat → PE} {K : Nat → Nat} {v : Int → Int} {kd sv n : Int} {H Q : Int → Int → Int} {kp bf : Int → Int} (hfl : l.flags = flags0) (t : dr L F K v kd sv H kp Q n bf) {x : Int} (hx : -2147483648 ≤ x ∧ x ≤ 2147483647) : PM l yX7_append cX7_append 2 (some .int) (rm 7 1 6) L [.ref (K 0), .int (iI x)] F (fun v9 L1 F1 => ((33 ≤ x ∧ x ≤ 126) ∧ n < 60) ∧ v9 = some (.int (iI (n + 1))) ∧ L = L1 ∧ dr L1 F1 K v kd sv H kp Q (n + 1) (wu bf n x)) (fun E L1 F1 => ((E = xA ∧ ¬ (33 ≤ x ∧ x ≤ 126)) ∨ (E = xS ∧ (33 ≤ x ∧ x ≤ 126) ∧ ¬ n < 60)) ∧ L = L1 ∧ F = F1) := by
  refine pm_of cd_X7_append (by decide +kernel) (Nat.le_of_ble_eq_true rfl) (fun ZZ hZ => ?_)
  have hgo : ZZ 0 0 0 [some (.ref (K 0)), some (.int (iI x))] [] L F := by
    obtain ⟨fi, W, D, hb, hl, hk⟩ := t
    have l0 := hb.1.1 0 (by omega)
    have h0 := hb.2.1
    have l1 := hb.1.1 1 (by omega)
    have l26 := hb.1.1 26 (by omega)
    have h26 := hb.2.2.1.1
    have ht := hb.2.2.2.2.2.2.1
    have l255 := ht.1.1
    have l256 := ht.1.2.1
    have h255 := ht.2.1
    have hn := ht.2.2.2.1
    refine z_iload_n1 hZ dX7_append_0 ?_
    refine z_bipush hZ dX7_append_1 rfl ?_
    refine z_icmp_le hZ (tgt := 12) dX7_append_3 rfl (by omega) (fun hc3 => ?_) (fun hc3 => ?_)
    · exact z_throw hZ hfl rfl (Or.inr ⟨rfl, rfl, rfl⟩) dX7_append_12 dX7_append_15 dX7_append_16 dX7_append_18 dX7_append_21 cl_X7_40 in_Ax st_42 (Nat.le_of_ble_eq_true rfl) (Nat.le_of_ble_eq_true rfl) (Nat.le_of_ble_eq_true rfl) ⟨Nat.le_of_ble_eq_true rfl, Nat.le_of_ble_eq_true rfl⟩ (by exact ⟨Or.inl ⟨rfl, by omega⟩, rfl, rfl⟩)
    · refine z_iload_n1 hZ dX7_append_6 ?_
      refine z_bipush hZ dX7_append_7 rfl ?_
      refine z_icmp_le hZ (tgt := 22) dX7_append_9 rfl (by omega) (fun hc9 => ?_) (fun hc9 => ?_)
      · refine z_aload_n0 hZ dX7_append_22 ?_
        refine z_gf_X7_buffer hZ dX7_append_23 fl_X7_36 (by assumption) (by assumption) ?_
        refine z_cV hZ (As := []) rfl dX7_append_26 ml_X7_145 wy_X6_room (m_X6_room l ht) (by assumption) (by assumption) rfl ⟨Nat.le_of_ble_eq_true rfl, Nat.le_of_ble_eq_true rfl⟩ ⟨Nat.le_of_ble_eq_true rfl, Nat.le_of_ble_eq_true rfl⟩ (Nat.le_of_ble_eq_true rfl) (fun _ _ _ h => h.elim) (fun v26 L26 G26 hp26 => ?_)
        obtain ⟨rfl, rfl, rfl⟩ := hp26
        refine z_if_ne hZ (tgt := 42) dX7_append_29 rfl (by omega) (fun hc29 => ?_) (fun hc29 => ?_)
        · refine z_aload_n0 hZ dX7_append_42 ?_
          refine z_gf_X7_buffer hZ dX7_append_43 fl_X7_36 (by assumption) (by assumption) ?_
          refine z_aload_n0 hZ dX7_append_46 ?_
          refine z_gf_X7_buffer hZ dX7_append_47 fl_X7_36 (by assumption) (by assumption) ?_
          refine z_cV hZ (As := []) rfl dX7_append_50 ml_X7_77 wy_X6_count (m_X6_count l ht) (by assumption) (by assumption) rfl ⟨Nat.le_of_ble_eq_true rfl, Nat.le_of_ble_eq_true rfl⟩ ⟨Nat.le_of_ble_eq_true rfl, Nat.le_of_ble_eq_true rfl⟩ (Nat.le_of_ble_eq_true rfl) (fun _ _ _ h => h.elim) (fun v50 L50 G50 hp50 => ?_)
          obtain ⟨rfl, rfl, rfl⟩ := hp50
          refine z_iload_n1 hZ dX7_append_53 ?_
          refine z_cV hZ (As := [_, _]) rfl dX7_append_54 ml_X7_153 wy_X6_insertCode (m_X6_insertCode l ht (by omega) (by omega)) (by assumption) (by assumption) rfl ⟨Nat.le_of_ble_eq_true rfl, Nat.le_of_ble_eq_true rfl⟩ ⟨Nat.le_of_ble_eq_true rfl, Nat.le_of_ble_eq_true rfl⟩ (Nat.le_of_ble_eq_true rfl) (fun _ _ _ h => h.elim) (fun v54 L54 G54 hp54 => ?_)
          obtain ⟨rfl, rfl, t54, f54⟩ := hp54
          have h0 := (f54 _ (hb.ne (by omega) (by omega) (by omega)) (hb.ne (by omega) (by omega) (by omega))).trans h0
          have h255 := t54.2.1
          refine z_aload_n0 hZ dX7_append_57 ?_
          refine z_gf_X7_buffer hZ dX7_append_58 fl_X7_36 (by assumption) (by assumption) ?_
          refine z_cV hZ (As := []) rfl dX7_append_61 ml_X7_77 wy_X6_count (m_X6_count l t54) (by assumption) (by assumption) rfl ⟨Nat.le_of_ble_eq_true rfl, Nat.le_of_ble_eq_true rfl⟩ ⟨Nat.le_of_ble_eq_true rfl, Nat.le_of_ble_eq_true rfl⟩ (Nat.le_of_ble_eq_true rfl) (fun _ _ _ h => h.elim) (fun v61 L61 G61 hp61 => ?_)
          obtain ⟨rfl, rfl, rfl⟩ := hp61
          exact z_iret hZ rfl (Nat.le_of_ble_eq_true rfl) (Nat.le_of_ble_eq_true rfl) dX7_append_64 (by exact ⟨⟨by omega, by omega⟩, rfl, rfl, fi, W, D, hb.bu (t54.cg (fun k _ k1 => insA_app k1)) f54, hl, hk⟩)
        · exact z_throw hZ hfl rfl (Or.inl ⟨rfl, rfl, rfl⟩) dX7_append_32 dX7_append_35 dX7_append_36 dX7_append_38 dX7_append_41 cl_X7_148 in_Sx st_150 (Nat.le_of_ble_eq_true rfl) (Nat.le_of_ble_eq_true rfl) (Nat.le_of_ble_eq_true rfl) ⟨Nat.le_of_ble_eq_true rfl, Nat.le_of_ble_eq_true rfl⟩ (by exact ⟨Or.inr ⟨rfl, by omega, by omega⟩, rfl, rfl⟩)
      · exact z_throw hZ hfl rfl (Or.inr ⟨rfl, rfl, rfl⟩) dX7_append_12 dX7_append_15 dX7_append_16 dX7_append_18 dX7_append_21 cl_X7_40 in_Ax st_42 (Nat.le_of_ble_eq_true rfl) (Nat.le_of_ble_eq_true rfl) (Nat.le_of_ble_eq_true rfl) ⟨Nat.le_of_ble_eq_true rfl, Nat.le_of_ble_eq_true rfl⟩ (by exact ⟨Or.inl ⟨rfl, by omega⟩, rfl, rfl⟩)
  exact hgo
set_option maxRecDepth 100000 in
set_option maxHeartbeats 4000000 in
theorem m_X7_clearBuffer (l : Launch) {L : List Nat} {F : Nat → PE} {K : Nat → Nat} {v : Int → Int} {kd sv n : Int} {H Q : Int → Int → Int} {kp bf : Int → Int} (t : dr L F K v kd sv H kp Q n bf) : PM l yX7_clearBuffer cX7_clearBuffer 2 (some .int) (rm 2 0 0) L [.ref (K 0)] F (fun v9 L1 F1 => v9 = some (.int (iI n)) ∧ L = L1 ∧ dr L1 F1 K v kd sv H kp Q 0 bf) (fun _ _ _ => False) := by
  refine pm_of cd_X7_clearBuffer (by decide +kernel) (Nat.le_of_ble_eq_true rfl) (fun ZZ hZ => ?_)
  have hgo : ZZ 0 0 0 [some (.ref (K 0)), none] [] L F := by
    obtain ⟨fi, W, D, hb, hl, hk⟩ := t
    have l0 := hb.1.1 0 (by omega)
    have h0 := hb.2.1
    have l1 := hb.1.1 1 (by omega)
    have l26 := hb.1.1 26 (by omega)
    have h26 := hb.2.2.1.1
    have ht := hb.2.2.2.2.2.2.1
    have l255 := ht.1.1
    have l256 := ht.1.2.1
    have h255 := ht.2.1
    have hn := ht.2.2.2.1
    refine z_aload_n0 hZ dX7_clearBuffer_0 ?_
    refine z_gf_X7_buffer hZ dX7_clearBuffer_1 fl_X7_36 (by assumption) (by assumption) ?_
    refine z_cV hZ (As := []) rfl dX7_clearBuffer_4 ml_X7_77 wy_X6_count (m_X6_count l ht) (by assumption) (by assumption) rfl ⟨Nat.le_of_ble_eq_true rfl, Nat.le_of_ble_eq_true rfl⟩ ⟨Nat.le_of_ble_eq_true rfl, Nat.le_of_ble_eq_true rfl⟩ (Nat.le_of_ble_eq_true rfl) (fun _ _ _ h => h.elim) (fun v4 L4 G4 hp4 => ?_)
    obtain ⟨rfl, rfl, rfl⟩ := hp4
    refine z_istore_n1 hZ dX7_clearBuffer_7 (by decide) rfl ?_
    refine z_aload_n0 hZ dX7_clearBuffer_8 ?_
    refine z_gf_X7_buffer hZ dX7_clearBuffer_9 fl_X7_36 (by assumption) (by assumption) ?_
    refine z_cV hZ (As := []) rfl dX7_clearBuffer_12 ml_X7_157 wy_X6_empty (m_X6_empty l ht) (by assumption) (by assumption) rfl ⟨Nat.le_of_ble_eq_true rfl, Nat.le_of_ble_eq_true rfl⟩ ⟨Nat.le_of_ble_eq_true rfl, Nat.le_of_ble_eq_true rfl⟩ (Nat.le_of_ble_eq_true rfl) (fun _ _ _ h => h.elim) (fun v12 L12 G12 hp12 => ?_)
    obtain ⟨rfl, rfl, t12, f12⟩ := hp12
    refine z_iload_n1 hZ dX7_clearBuffer_15 ?_
    exact z_iret hZ rfl (Nat.le_of_ble_eq_true rfl) (Nat.le_of_ble_eq_true rfl) dX7_clearBuffer_16 (by exact ⟨rfl, rfl, fi, W, D, hb.bu t12 f12, hl, hk⟩)
  exact hgo
set_option maxRecDepth 100000 in
set_option maxHeartbeats 4000000 in
theorem m_X7_keep (l : Launch) {L : List Nat} {F : Nat → PE} {K : Nat → Nat} {v : Int → Int} {kd sv n : Int} {H Q : Int → Int → Int} {kp bf : Int → Int} (hfl : l.flags = flags0) (t : dr L F K v kd sv H kp Q n bf) {x : Int} (hx : -2147483648 ≤ x ∧ x ≤ 2147483647) : PM l yX7_keep cX7_keep 2 none (rm 7 1 6) L [.ref (K 0), .int (iI x)] F (fun v9 L1 F1 => (0 ≤ x ∧ x ≤ 1) ∧ v9 = none ∧ L = L1 ∧ dr L1 F1 K v kd sv H (wu kp x 1) (wu Q x v) n bf) (fun E L1 F1 => (E = xA ∧ ¬ (0 ≤ x ∧ x ≤ 1)) ∧ L = L1 ∧ F = F1) := by
  refine pm_of cd_X7_keep (by decide +kernel) (Nat.le_of_ble_eq_true rfl) (fun ZZ hZ => ?_)
  have hgo : ZZ 0 0 0 [some (.ref (K 0)), some (.int (iI x))] [] L F := by
    obtain ⟨fi, W, D, hb, hl, hk⟩ := t
    have l0 := hb.1.1 0 (by omega)
    have h0 := hb.2.1
    have l1 := hb.1.1 1 (by omega)
    have l26 := hb.1.1 26 (by omega)
    have h26 := hb.2.2.1.1
    have ht := hb.2.2.2.2.2.2.1
    have l255 := ht.1.1
    have l256 := ht.1.2.1
    have h255 := ht.2.1
    have hn := ht.2.2.2.1
    have l203 := hb.1.1 203 (by omega)
    obtain ⟨r3, h203, hr3⟩ := hb.2.2.2.2.1
    have l254 := hb.1.1 254 (by omega)
    have h254 := hb.2.2.2.2.2.1.1
    have hkp := hb.2.2.2.2.2.1.2
    have S0 : stP L F (sK K 0) v kd := by have z := hb.2.2.2.2.2.2.2 0 (by omega); rw [hl.1, hk] at z; exact z
    have o0 : F (K 1) = _ := S0.ob
    refine z_iload_n1 hZ dX7_keep_0 ?_
    refine z_if_lt hZ (tgt := 9) dX7_keep_1 rfl (by omega) (fun hc1 => ?_) (fun hc1 => ?_)
    · exact z_throw hZ hfl rfl (Or.inr ⟨rfl, rfl, rfl⟩) dX7_keep_9 dX7_keep_12 dX7_keep_13 dX7_keep_15 dX7_keep_18 cl_X7_40 in_Ax st_183 (Nat.le_of_ble_eq_true rfl) (Nat.le_of_ble_eq_true rfl) (Nat.le_of_ble_eq_true rfl) ⟨Nat.le_of_ble_eq_true rfl, Nat.le_of_ble_eq_true rfl⟩ (by exact ⟨⟨rfl, by omega⟩, rfl, rfl⟩)
    · refine z_iload_n1 hZ dX7_keep_4 ?_
      refine z_iconst hZ dX7_keep_5 ?_
      refine z_icmp_lt hZ (tgt := 19) dX7_keep_6 rfl (by omega) (fun hc6 => ?_) (fun hc6 => ?_)
      · have q : r3 x = some (sK K (8 + x.toNat) 0) := by rw [show sK K (8 + x.toNat) 0 = K (204 + 25 * x.toNat) from congrArg K (by unfold sB; rw [if_neg (by omega), if_neg (by omega)]; omega), ← hr3 x.toNat (by omega), Int.toNat_of_nonneg (by omega)]
        refine z_aload_n0 hZ dX7_keep_19 ?_
        refine z_gf_X7_slots hZ dX7_keep_20 fl_X7_23 (by assumption) (by assumption) ?_
        refine z_iload_n1 hZ dX7_keep_23 ?_
        refine z_aaload_State hZ dX7_keep_24 (by assumption) (by assumption) (by omega) (by assumption) ?_
        refine z_aload_n0 hZ dX7_keep_25 ?_
        refine z_gf_X7_now hZ dX7_keep_26 fl_X7_10 (by assumption) (by assumption) ?_
        have hx9 : 8 + x.toNat < 10 := by omega
        have SX := hb.2.2.2.2.2.2.2 (8 + x.toNat) hx9
        have lX := hb.L hx9 0 (by omega)
        have oX := SX.ob
        refine z_cV hZ (As := [_]) rfl dX7_keep_29 ml_X7_180 wy_X5_copyFrom (m_X5_copyFrom l (sb := sK K 0) (hb.ij hx9) (hb.L hx9) (hb.L (by omega)) (hb.apt hx9 (by omega) (by omega)) SX S0) (by assumption) (by assumption) rfl ⟨Nat.le_of_ble_eq_true rfl, Nat.le_of_ble_eq_true rfl⟩ ⟨Nat.le_of_ble_eq_true rfl, Nat.le_of_ble_eq_true rfl⟩ (Nat.le_of_ble_eq_true rfl) (fun _ _ _ h => h.elim) (fun v29 L29 G29 hp29 => ?_)
        obtain ⟨rfl, rfl, t29, f29⟩ := hp29
        have b29 := hb.st hx9 t29 f29
        have h0 := b29.2.1
        have h254 := b29.2.2.2.2.2.1.1
        refine z_aload_n0 hZ dX7_keep_32 ?_
        refine z_gf_X7_isKept hZ dX7_keep_33 fl_X7_27 (by assumption) (by assumption) ?_
        refine z_iload_n1 hZ dX7_keep_36 ?_
        refine z_iconst hZ dX7_keep_37 ?_
        refine z_bastore hZ dX7_keep_38 (by assumption) (by assumption) (by omega) (by omega) (fun F38 hF38 hf38 => ?_)
        exact z_vret hZ rfl (Nat.le_of_ble_eq_true rfl) (Nat.le_of_ble_eq_true rfl) dX7_keep_39 (by
            refine ⟨by omega, rfl, rfl, fi, _, _, b29.kp hF38 ?_ hf38, ⟨?_, fun j j1 j2 => ?_, fun s s1 s2 => ?_⟩, ?_⟩
            · unfold wu; constructor <;> split <;> omega
            · rw [un_n (by omega)]; exact hl.1
            · rw [un_n (by have := ro_rg (i := fi + j - 1); omega)]; exact hl.2.1 j j1 j2
            · by_cases c : s = x
              · subst c; rw [un_s, wu_s]
              · rw [un_n (by omega), wu_n c]; rw [wu_n c] at s2; exact hl.2.2 s s1 s2
            · rw [un_n (by omega)]; exact hk)
      · exact z_throw hZ hfl rfl (Or.inr ⟨rfl, rfl, rfl⟩) dX7_keep_9 dX7_keep_12 dX7_keep_13 dX7_keep_15 dX7_keep_18 cl_X7_40 in_Ax st_183 (Nat.le_of_ble_eq_true rfl) (Nat.le_of_ble_eq_true rfl) (Nat.le_of_ble_eq_true rfl) ⟨Nat.le_of_ble_eq_true rfl, Nat.le_of_ble_eq_true rfl⟩ (by exact ⟨⟨rfl, by omega⟩, rfl, rfl⟩)
  exact hgo
set_option maxRecDepth 100000 in
set_option maxHeartbeats 4000000 in
theorem m_X7_goBack (l : Launch) {L : List Nat} {F : Nat → PE} {K : Nat → Nat} {v : Int → Int} {kd sv n : Int} {H Q : Int → Int → Int} {kp bf : Int → Int} (hfl : l.flags = flags0) (t : dr L F K v kd sv H kp Q n bf) {x : Int} (hx : -2147483648 ≤ x ∧ x ≤ 2147483647) : PM l yX7_goBack cX7_goBack 2 none (rm 7 1 6) L [.ref (K 0), .int (iI x)] F (fun v9 L1 F1 => ((0 ≤ x ∧ x ≤ 1) ∧ kp x = 1) ∧ v9 = none ∧ L = L1 ∧ dr L1 F1 K (Q x) 0 (hN sv) (hS sv H v) kp Q n bf) (fun E L1 F1 => ((E = xA ∧ ¬ (0 ≤ x ∧ x ≤ 1)) ∨ (E = xS ∧ (0 ≤ x ∧ x ≤ 1) ∧ ¬ kp x = 1)) ∧ L = L1 ∧ F = F1) := by
  refine pm_of cd_X7_goBack (by decide +kernel) (Nat.le_of_ble_eq_true rfl) (fun ZZ hZ => ?_)
  have hgo : ZZ 0 0 0 [some (.ref (K 0)), some (.int (iI x))] [] L F := by
    obtain ⟨fi, W, D, hb, hl, hk⟩ := t
    have l0 := hb.1.1 0 (by omega)
    have h0 := hb.2.1
    have l1 := hb.1.1 1 (by omega)
    have l26 := hb.1.1 26 (by omega)
    have h26 := hb.2.2.1.1
    have ht := hb.2.2.2.2.2.2.1
    have l255 := ht.1.1
    have l256 := ht.1.2.1
    have h255 := ht.2.1
    have hn := ht.2.2.2.1
    have l203 := hb.1.1 203 (by omega)
    obtain ⟨r3, h203, hr3⟩ := hb.2.2.2.2.1
    have l254 := hb.1.1 254 (by omega)
    have h254 := hb.2.2.2.2.2.1.1
    have hkp := hb.2.2.2.2.2.1.2
    have S0 : stP L F (sK K 0) v kd := by have z := hb.2.2.2.2.2.2.2 0 (by omega); rw [hl.1, hk] at z; exact z
    have o0 : F (K 1) = _ := S0.ob
    have hkx : 0 ≤ x → x < 2 → kp x = 0 ∨ kp x = 1 := fun a b => by rcases (show x = 0 ∨ x = 1 by omega) with c | c <;> subst c; exact hkp.1; exact hkp.2
    refine z_iload_n1 hZ dX7_goBack_0 ?_
    refine z_if_lt hZ (tgt := 9) dX7_goBack_1 rfl (by omega) (fun hc1 => ?_) (fun hc1 => ?_)
    · exact z_throw hZ hfl rfl (Or.inr ⟨rfl, rfl, rfl⟩) dX7_goBack_9 dX7_goBack_12 dX7_goBack_13 dX7_goBack_15 dX7_goBack_18 cl_X7_40 in_Ax st_183 (Nat.le_of_ble_eq_true rfl) (Nat.le_of_ble_eq_true rfl) (Nat.le_of_ble_eq_true rfl) ⟨Nat.le_of_ble_eq_true rfl, Nat.le_of_ble_eq_true rfl⟩ (by exact ⟨Or.inl ⟨rfl, by omega⟩, rfl, rfl⟩)
    · refine z_iload_n1 hZ dX7_goBack_4 ?_
      refine z_iconst hZ dX7_goBack_5 ?_
      refine z_icmp_lt hZ (tgt := 19) dX7_goBack_6 rfl (by omega) (fun hc6 => ?_) (fun hc6 => ?_)
      · refine z_aload_n0 hZ dX7_goBack_19 ?_
        refine z_gf_X7_isKept hZ dX7_goBack_20 fl_X7_27 (by assumption) (by assumption) ?_
        refine z_iload_n1 hZ dX7_goBack_23 ?_
        refine z_baload hZ dX7_goBack_24 (by assumption) (by assumption) (by omega) ?_
        have hkx2 := hkx (by omega) (by omega)
        refine z_if_ne hZ (tgt := 38) dX7_goBack_25 rfl (by omega) (fun hc25 => ?_) (fun hc25 => ?_)
        · refine z_aload_n0 hZ dX7_goBack_38 ?_
          refine z_gf_X7_history hZ dX7_goBack_39 fl_X7_19 (by assumption) (by assumption) ?_
          refine z_aload_n0 hZ dX7_goBack_42 ?_
          refine z_gf_X7_now hZ dX7_goBack_43 fl_X7_10 (by assumption) (by assumption) ?_
          refine z_cV hZ (As := [_]) rfl dX7_goBack_46 ml_X7_47 wy_X2_prepare (m_X2_prepare l hb) (by assumption) (by assumption) rfl ⟨Nat.le_of_ble_eq_true rfl, Nat.le_of_ble_eq_true rfl⟩ ⟨Nat.le_of_ble_eq_true rfl, Nat.le_of_ble_eq_true rfl⟩ (Nat.le_of_ble_eq_true rfl) (fun _ _ _ h => h.elim) (fun v46 L46 G46 hp46 => ?_)
          obtain ⟨rfl, rfl, b8⟩ := hp46
          have kk := hl.prep hb.2.2.1.2
          have h0 := b8.2.1
          have h26 := b8.2.2.1.1
          refine z_aload_n0 hZ dX7_goBack_49 ?_
          refine z_gf_X7_history hZ dX7_goBack_50 fl_X7_19 (by assumption) (by assumption) ?_
          refine z_cV hZ (As := []) rfl dX7_goBack_53 ml_X7_187 wy_X2_save (m_X2_save l b8) (by assumption) (by assumption) rfl ⟨Nat.le_of_ble_eq_true rfl, Nat.le_of_ble_eq_true rfl⟩ ⟨Nat.le_of_ble_eq_true rfl, Nat.le_of_ble_eq_true rfl⟩ (Nat.le_of_ble_eq_true rfl) (fun _ _ _ h => h.elim) (fun v53 L53 G53 hp53 => ?_)
          obtain ⟨rfl, rfl, b53⟩ := hp53
          have k53 := lk.save kk hb.2.2.1.2
          have h0 := b53.2.1
          obtain ⟨r4, h203, hr4⟩ := b53.2.2.2.2.1
          have q : r4 x = some (sK K (8 + x.toNat) 0) := by rw [show sK K (8 + x.toNat) 0 = K (204 + 25 * x.toNat) from congrArg K (by unfold sB; rw [if_neg (by omega), if_neg (by omega)]; omega), ← hr4 x.toNat (by omega), Int.toNat_of_nonneg (by omega)]
          have hx9 : 8 + x.toNat < 10 := by omega
          have S1 := b53.2.2.2.2.2.2.2 0 (by omega)
          have SX := b53.2.2.2.2.2.2.2 (8 + x.toNat) hx9
          have eX : un W (ro (fi + sv)) (W 0) (8 + x.toNat) = Q x := kk.1.2.2 x (by omega) (by omega)
          rw [eX] at SX
          have o1 : G53 (K 1) = _ := S1.ob
          refine z_aload_n0 hZ dX7_goBack_56 ?_
          refine z_gf_X7_now hZ dX7_goBack_57 fl_X7_10 (by assumption) (by assumption) ?_
          refine z_aload_n0 hZ dX7_goBack_60 ?_
          refine z_gf_X7_slots hZ dX7_goBack_61 fl_X7_23 (by assumption) (by assumption) ?_
          refine z_iload_n1 hZ dX7_goBack_64 ?_
          refine z_aaload_State hZ dX7_goBack_65 (by assumption) (by assumption) (by omega) (by assumption) ?_
          refine z_cV hZ (As := [_]) rfl dX7_goBack_66 ml_X7_190 wy_X5_comeBackTo (m_X5_comeBackTo l (sa := sK K 0) (b53.ij (by omega)) (b53.L (by omega)) (b53.L hx9) (b53.apt (by omega) hx9 (by omega)) S1 SX) (by assumption) (by assumption) rfl ⟨Nat.le_of_ble_eq_true rfl, Nat.le_of_ble_eq_true rfl⟩ ⟨Nat.le_of_ble_eq_true rfl, Nat.le_of_ble_eq_true rfl⟩ (Nat.le_of_ble_eq_true rfl) (fun _ _ _ h => h.elim) (fun v66 L66 G66 hp66 => ?_)
          obtain ⟨rfl, rfl, t66, f66⟩ := hp66
          exact z_vret hZ rfl (Nat.le_of_ble_eq_true rfl) (Nat.le_of_ble_eq_true rfl) dX7_goBack_69 (by exact ⟨⟨by omega, by omega⟩, rfl, rfl, _, _, _, b53.st (by omega) t66 f66, (lk.op ⟨k53, rfl⟩).1, un_s⟩)
        · exact z_throw hZ hfl rfl (Or.inl ⟨rfl, rfl, rfl⟩) dX7_goBack_28 dX7_goBack_31 dX7_goBack_32 dX7_goBack_34 dX7_goBack_37 cl_X7_148 in_Sx st_185 (Nat.le_of_ble_eq_true rfl) (Nat.le_of_ble_eq_true rfl) (Nat.le_of_ble_eq_true rfl) ⟨Nat.le_of_ble_eq_true rfl, Nat.le_of_ble_eq_true rfl⟩ (by exact ⟨Or.inr ⟨rfl, by omega, by omega⟩, rfl, rfl⟩)
      · exact z_throw hZ hfl rfl (Or.inr ⟨rfl, rfl, rfl⟩) dX7_goBack_9 dX7_goBack_12 dX7_goBack_13 dX7_goBack_15 dX7_goBack_18 cl_X7_40 in_Ax st_183 (Nat.le_of_ble_eq_true rfl) (Nat.le_of_ble_eq_true rfl) (Nat.le_of_ble_eq_true rfl) ⟨Nat.le_of_ble_eq_true rfl, Nat.le_of_ble_eq_true rfl⟩ (by exact ⟨Or.inl ⟨rfl, by omega⟩, rfl, rfl⟩)
  exact hgo
set_option maxRecDepth 100000 in
set_option maxHeartbeats 4000000 in
theorem m_X7_undo (l : Launch) {L : List Nat} {F : Nat → PE} {K : Nat → Nat} {v : Int → Int} {kd sv n : Int} {H Q : Int → Int → Int} {kp bf : Int → Int} (hfl : l.flags = flags0) (t : dr L F K v kd sv H kp Q n bf) : PM l yX7_undo cX7_undo 1 none (rm 7 1 6) L [.ref (K 0)] F (fun v9 L1 F1 => 0 < sv ∧ v9 = none ∧ L = L1 ∧ dr L1 F1 K (H sv) 0 (sv - 1) H kp Q n bf) (fun E L1 F1 => (E = xS ∧ ¬ 0 < sv) ∧ L = L1 ∧ F = F1) := by
  refine pm_of cd_X7_undo (by decide +kernel) (Nat.le_of_ble_eq_true rfl) (fun ZZ hZ => ?_)
  have hgo : ZZ 0 0 0 [some (.ref (K 0))] [] L F := by
    obtain ⟨fi, W, D, hb, hl, hk⟩ := t
    have l0 := hb.1.1 0 (by omega)
    have h0 := hb.2.1
    have l1 := hb.1.1 1 (by omega)
    have l26 := hb.1.1 26 (by omega)
    have h26 := hb.2.2.1.1
    have ht := hb.2.2.2.2.2.2.1
    have l255 := ht.1.1
    have l256 := ht.1.2.1
    have h255 := ht.2.1
    have hn := ht.2.2.2.1
    have l203 := hb.1.1 203 (by omega)
    obtain ⟨r3, h203, hr3⟩ := hb.2.2.2.2.1
    have l254 := hb.1.1 254 (by omega)
    have h254 := hb.2.2.2.2.2.1.1
    have hkp := hb.2.2.2.2.2.1.2
    have S0 : stP L F (sK K 0) v kd := by have z := hb.2.2.2.2.2.2.2 0 (by omega); rw [hl.1, hk] at z; exact z
    have o0 : F (K 1) = _ := S0.ob
    have hs := hb.2.2.1.2
    have rr := ro_rg (i := fi + sv - 1)
    refine z_aload_n0 hZ dX7_undo_0 ?_
    refine z_gf_X7_history hZ dX7_undo_1 fl_X7_19 (by assumption) (by assumption) ?_
    refine z_cV hZ (As := []) rfl dX7_undo_4 ml_X7_193 wy_X2_count (m_X2_count l hb) (by assumption) (by assumption) rfl ⟨Nat.le_of_ble_eq_true rfl, Nat.le_of_ble_eq_true rfl⟩ ⟨Nat.le_of_ble_eq_true rfl, Nat.le_of_ble_eq_true rfl⟩ (Nat.le_of_ble_eq_true rfl) (fun _ _ _ h => h.elim) (fun v4 L4 G4 hp4 => ?_)
    obtain ⟨rfl, rfl, rfl⟩ := hp4
    refine z_if_ne hZ (tgt := 20) dX7_undo_7 rfl (by omega) (fun hc7 => ?_) (fun hc7 => ?_)
    · refine z_aload_n0 hZ dX7_undo_20 ?_
      refine z_gf_X7_now hZ dX7_undo_21 fl_X7_10 (by assumption) (by assumption) ?_
      refine z_aload_n0 hZ dX7_undo_24 ?_
      refine z_gf_X7_history hZ dX7_undo_25 fl_X7_19 (by assumption) (by assumption) ?_
      refine z_cV hZ (As := []) rfl dX7_undo_28 ml_X7_196 wy_X2_latest (m_X2_latest l hb) (by assumption) (by assumption) rfl ⟨Nat.le_of_ble_eq_true rfl, Nat.le_of_ble_eq_true rfl⟩ ⟨Nat.le_of_ble_eq_true rfl, Nat.le_of_ble_eq_true rfl⟩ (Nat.le_of_ble_eq_true rfl) (fun _ _ _ h => h.elim) (fun v28 L28 G28 hp28 => ?_)
      obtain ⟨rfl, rfl, rfl⟩ := hp28
      have SX := hb.2.2.2.2.2.2.2 (ro (fi + sv - 1)) (by omega)
      rw [hl.2.1 sv (by omega) (by omega)] at SX
      refine z_cV hZ (As := [_]) rfl dX7_undo_31 ml_X7_190 wy_X5_comeBackTo (m_X5_comeBackTo l (sa := sK K 0) (hb.ij (by omega)) (hb.L (by omega)) (hb.L (by omega)) (hb.apt (by omega) (by omega) (by omega)) S0 SX) (by assumption) (by assumption) rfl ⟨Nat.le_of_ble_eq_true rfl, Nat.le_of_ble_eq_true rfl⟩ ⟨Nat.le_of_ble_eq_true rfl, Nat.le_of_ble_eq_true rfl⟩ (Nat.le_of_ble_eq_true rfl) (fun _ _ _ h => h.elim) (fun v31 L31 G31 hp31 => ?_)
      obtain ⟨rfl, rfl, t31, f31⟩ := hp31
      have b31 := hb.st (k := 0) (by omega) t31 f31
      have h0 := b31.2.1
      have h26 := b31.2.2.1.1
      refine z_aload_n0 hZ dX7_undo_34 ?_
      refine z_gf_X7_history hZ dX7_undo_35 fl_X7_19 (by assumption) (by assumption) ?_
      refine z_cV hZ (As := []) rfl dX7_undo_38 ml_X7_199 wy_X2_drop (m_X2_drop l b31 (by omega)) (by assumption) (by assumption) rfl ⟨Nat.le_of_ble_eq_true rfl, Nat.le_of_ble_eq_true rfl⟩ ⟨Nat.le_of_ble_eq_true rfl, Nat.le_of_ble_eq_true rfl⟩ (Nat.le_of_ble_eq_true rfl) (fun _ _ _ h => h.elim) (fun v38 L38 G38 hp38 => ?_)
      obtain ⟨rfl, rfl, b38⟩ := hp38
      exact z_vret hZ rfl (Nat.le_of_ble_eq_true rfl) (Nat.le_of_ble_eq_true rfl) dX7_undo_41 (by
            have z := (lk.op (w := H sv) ⟨hl, rfl⟩).1
            exact ⟨by omega, rfl, rfl, _, _, _, b38, ⟨z.1, fun j j1 j2 => z.2.1 j j1 (by omega), z.2.2⟩, un_s⟩)
    · exact z_throw hZ hfl rfl (Or.inl ⟨rfl, rfl, rfl⟩) dX7_undo_10 dX7_undo_13 dX7_undo_14 dX7_undo_16 dX7_undo_19 cl_X7_148 in_Sx st_194 (Nat.le_of_ble_eq_true rfl) (Nat.le_of_ble_eq_true rfl) (Nat.le_of_ble_eq_true rfl) ⟨Nat.le_of_ble_eq_true rfl, Nat.le_of_ble_eq_true rfl⟩ (by exact ⟨⟨rfl, by omega⟩, rfl, rfl⟩)
  exact hgo

