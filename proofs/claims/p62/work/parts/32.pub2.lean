/-! THE PUBLIC DEEDS, 2. -/
set_option maxRecDepth 100000 in
set_option maxHeartbeats 4000000 in
theorem m_X7_write (l : Launch) {L : List Nat} {F : Nat → PE} {K : Nat → Nat} {v : Int → Int} {kd sv n : Int} {H Q : Int → Int → Int} {kp bf : Int → Int} (hfl : l.flags = flags0) (t : dr L F K v kd sv H kp Q n bf) {x : Int} (hx : -2147483648 ≤ x ∧ x ≤ 2147483647) : PM l yX7_write cX7_write 2 (some .int) (rm 8 1 6) L [.ref (K 0), .int (iI x)] F (fun v9 L1 F1 => (x = 10 ∨ 32 ≤ x ∧ x ≤ 126) ∧ (v 0 < 200) ∧ v9 = some (.int (iI (v 0 + 1))) ∧ L = L1 ∧ dr L1 F1 K (vWr x v) 0 (hN sv) (hS sv H v) kp Q n bf) (fun E L1 F1 => ((E = xA ∧ ¬ (x = 10 ∨ 32 ≤ x ∧ x ≤ 126)) ∨ (E = xS ∧ (x = 10 ∨ 32 ≤ x ∧ x ≤ 126) ∧ ¬ (v 0 < 200))) ∧ L = L1 ∧ dr L1 F1 K v kd sv H kp Q n bf) := by
  refine pm_of cd_X7_write (by decide +kernel) (Nat.le_of_ble_eq_true rfl) (fun ZZ hZ => ?_)
  have hgo : ZZ 0 0 0 [some (.ref (K 0)), some (.int (iI x))] [] L F := by
    obtain ⟨fi, W, D, hb, hl, hk⟩ := t
    have l0 := hb.1.1 0 (by omega)
    have h0 := hb.2.1
    have l1 := hb.1.1 1 (by omega)
    have l26 := hb.1.1 26 (by omega)
    have h26 := hb.2.2.1.1
    have hv := hl.1
    have S0 : stP L F (sK K 0) v kd := by have z := hb.2.2.2.2.2.2.2 0 (by omega); rw [hv, hk] at z; exact z
    have rg := S0.rg
    have ht := hb.2.2.2.2.2.2.1
    have l255 := ht.1.1
    have l256 := ht.1.2.1
    have h255 := ht.2.1
    have hn := ht.2.2.2.1
    refine z_iload_n1 hZ dX7_write_0 ?_
    refine z_bipush hZ dX7_write_1 rfl ?_
    refine z_icmp_eq hZ (tgt := 28) dX7_write_3 rfl (by omega) (fun hc3 => ?_) (fun hc3 => ?_)
    · refine z_aload_n0 hZ dX7_write_28 ?_
      refine z_gf_X7_history hZ dX7_write_29 fl_X7_19 (by assumption) (by assumption) ?_
      refine z_aload_n0 hZ dX7_write_32 ?_
      refine z_gf_X7_now hZ dX7_write_33 fl_X7_10 (by assumption) (by assumption) ?_
      refine z_cV hZ (As := [_]) rfl dX7_write_36 ml_X7_47 wy_X2_prepare (m_X2_prepare l hb) (by assumption) (by assumption) rfl ⟨Nat.le_of_ble_eq_true rfl, Nat.le_of_ble_eq_true rfl⟩ ⟨Nat.le_of_ble_eq_true rfl, Nat.le_of_ble_eq_true rfl⟩ (Nat.le_of_ble_eq_true rfl) (fun _ _ _ h => h.elim) (fun v36 L36 G36 hp36 => ?_)
      obtain ⟨rfl, rfl, b8⟩ := hp36
      obtain ⟨k1, k2⟩ := hl.prep hb.2.2.1.2
      have S8 : stP L G36 (sK K 0) v kd := by have z := b8.2.2.2.2.2.2.2 0 (by omega); rw [k1.1, un_n (by have := ro_rg (i := fi + sv); omega), hk] at z; exact z
      have o8 : G36 (K 1) = _ := S8.ob
      have h0 := b8.2.1
      have J := b8.ij (k := 0) (by omega)
      have JL := b8.L (k := 0) (by omega)
      have hdk : un D (ro (fi + sv)) (D 0) 0 = kd := by rw [un_n (by have := ro_rg (i := fi + sv); omega)]; exact hk
      refine z_aload_n0 hZ dX7_write_39 ?_
      refine z_aload_n0 hZ dX7_write_40 ?_
      refine z_gf_X7_now hZ dX7_write_41 fl_X7_10 (by assumption) (by assumption) ?_
      refine z_iload_n1 hZ dX7_write_44 ?_
      refine z_cV hZ (As := [_]) rfl dX7_write_45 ml_X7_51 wy_X5_writeCode (m_X5_writeCode l J JL S8 (by omega)) (by assumption) (by assumption) rfl ⟨Nat.le_of_ble_eq_true rfl, Nat.le_of_ble_eq_true rfl⟩ ⟨Nat.le_of_ble_eq_true rfl, Nat.le_of_ble_eq_true rfl⟩ (Nat.le_of_ble_eq_true rfl) (fun _ _ _ h => h.elim) (fun v45 L45 G45 hp45 => ?_)
      obtain ⟨rfl, rfl, t16, f16⟩ := hp45
      have h0 : G45 (K 0) = _ := (b8.f0 (by omega) (by omega) (by omega) f16).trans h0
      have hcs : ((v 0 < 200) ∧ (if v 0 < 200 then v 0 + 1 else -1) = v 0 + 1 ∧ 0 ≤ v 0 + 1 ∧ v 0 + 1 ≤ 100000 ∧ stP L G45 (sK K 0) (vWr x v) 0) ∨ (¬ (v 0 < 200) ∧ (if v 0 < 200 then v 0 + 1 else -1) = -1 ∧ G45 = G36) := by
        by_cases q : v 0 < 200
        · rw [if_pos q] at t16 ⊢; exact Or.inl ⟨q, rfl, by omega, by omega, t16⟩
        · rw [if_neg q] at t16 ⊢; exact Or.inr ⟨q, rfl, t16⟩
      obtain ⟨a, hae⟩ : ∃ a, a = (if v 0 < 200 then v 0 + 1 else -1) := ⟨_, rfl⟩
      rw [← hae] at hcs ⊢
      have ha : -1 ≤ a ∧ a ≤ 1000000 := by rcases hcs with z | z <;> omega
      have hcs2 : a ≠ -1 → _ := fun hne => hcs.resolve_right (fun z => hne z.2.1)
      refine z_cV hZ (As := [_]) rfl dX7_write_48 ml_X7_55 wy_X7_settled (m_X7_settled l hfl ha (fun hne => b8.st (by omega) (hcs2 hne).2.2.2.2 f16)) (by assumption) (by assumption) rfl ⟨Nat.le_of_ble_eq_true rfl, Nat.le_of_ble_eq_true rfl⟩ ⟨Nat.le_of_ble_eq_true rfl, Nat.le_of_ble_eq_true rfl⟩ (Nat.le_of_ble_eq_true rfl) (fun _ _ _ h => by obtain ⟨rfl, he, rfl, rfl⟩ := h; have hn := hcs.resolve_left (fun z => by omega); exact ⟨Or.inr ⟨rfl, by omega, hn.1⟩, rfl, fi, _, _, (by rw [hn.2.2]; exact b8), k1, hdk⟩) (fun v48 L48 G48 hp48 => ?_)
      obtain ⟨rfl, hne, rfl, t19⟩ := hp48
      exact z_iret hZ rfl (Nat.le_of_ble_eq_true rfl) (Nat.le_of_ble_eq_true rfl) dX7_write_51 (by
            obtain ⟨z1, z2, z3⟩ := hcs2 hne
            exact ⟨by omega, z1, pv (z2), rfl, _, _, _, t19, lk.save (lk.op ⟨k1, k2⟩) hb.2.2.1.2, un_s⟩)
    · refine z_iload_n1 hZ dX7_write_6 ?_
      refine z_bipush hZ dX7_write_7 rfl ?_
      refine z_icmp_lt hZ (tgt := 18) dX7_write_9 rfl (by omega) (fun hc9 => ?_) (fun hc9 => ?_)
      · exact z_throw hZ hfl rfl (Or.inr ⟨rfl, rfl, rfl⟩) dX7_write_18 dX7_write_21 dX7_write_22 dX7_write_24 dX7_write_27 cl_X7_40 in_Ax st_42 (Nat.le_of_ble_eq_true rfl) (Nat.le_of_ble_eq_true rfl) (Nat.le_of_ble_eq_true rfl) ⟨Nat.le_of_ble_eq_true rfl, Nat.le_of_ble_eq_true rfl⟩ (by exact ⟨Or.inl ⟨rfl, by omega⟩, rfl, fi, W, D, hb, hl, hk⟩)
      · refine z_iload_n1 hZ dX7_write_12 ?_
        refine z_bipush hZ dX7_write_13 rfl ?_
        refine z_icmp_le hZ (tgt := 28) dX7_write_15 rfl (by omega) (fun hc15 => ?_) (fun hc15 => ?_)
        · refine z_aload_n0 hZ dX7_write_28 ?_
          refine z_gf_X7_history hZ dX7_write_29 fl_X7_19 (by assumption) (by assumption) ?_
          refine z_aload_n0 hZ dX7_write_32 ?_
          refine z_gf_X7_now hZ dX7_write_33 fl_X7_10 (by assumption) (by assumption) ?_
          refine z_cV hZ (As := [_]) rfl dX7_write_36 ml_X7_47 wy_X2_prepare (m_X2_prepare l hb) (by assumption) (by assumption) rfl ⟨Nat.le_of_ble_eq_true rfl, Nat.le_of_ble_eq_true rfl⟩ ⟨Nat.le_of_ble_eq_true rfl, Nat.le_of_ble_eq_true rfl⟩ (Nat.le_of_ble_eq_true rfl) (fun _ _ _ h => h.elim) (fun v36 L36 G36 hp36 => ?_)
          obtain ⟨rfl, rfl, b8⟩ := hp36
          obtain ⟨k1, k2⟩ := hl.prep hb.2.2.1.2
          have S8 : stP L G36 (sK K 0) v kd := by have z := b8.2.2.2.2.2.2.2 0 (by omega); rw [k1.1, un_n (by have := ro_rg (i := fi + sv); omega), hk] at z; exact z
          have o8 : G36 (K 1) = _ := S8.ob
          have h0 := b8.2.1
          have J := b8.ij (k := 0) (by omega)
          have JL := b8.L (k := 0) (by omega)
          have hdk : un D (ro (fi + sv)) (D 0) 0 = kd := by rw [un_n (by have := ro_rg (i := fi + sv); omega)]; exact hk
          refine z_aload_n0 hZ dX7_write_39 ?_
          refine z_aload_n0 hZ dX7_write_40 ?_
          refine z_gf_X7_now hZ dX7_write_41 fl_X7_10 (by assumption) (by assumption) ?_
          refine z_iload_n1 hZ dX7_write_44 ?_
          refine z_cV hZ (As := [_]) rfl dX7_write_45 ml_X7_51 wy_X5_writeCode (m_X5_writeCode l J JL S8 (by omega)) (by assumption) (by assumption) rfl ⟨Nat.le_of_ble_eq_true rfl, Nat.le_of_ble_eq_true rfl⟩ ⟨Nat.le_of_ble_eq_true rfl, Nat.le_of_ble_eq_true rfl⟩ (Nat.le_of_ble_eq_true rfl) (fun _ _ _ h => h.elim) (fun v45 L45 G45 hp45 => ?_)
          obtain ⟨rfl, rfl, t16, f16⟩ := hp45
          have h0 : G45 (K 0) = _ := (b8.f0 (by omega) (by omega) (by omega) f16).trans h0
          have hcs : ((v 0 < 200) ∧ (if v 0 < 200 then v 0 + 1 else -1) = v 0 + 1 ∧ 0 ≤ v 0 + 1 ∧ v 0 + 1 ≤ 100000 ∧ stP L G45 (sK K 0) (vWr x v) 0) ∨ (¬ (v 0 < 200) ∧ (if v 0 < 200 then v 0 + 1 else -1) = -1 ∧ G45 = G36) := by
            by_cases q : v 0 < 200
            · rw [if_pos q] at t16 ⊢; exact Or.inl ⟨q, rfl, by omega, by omega, t16⟩
            · rw [if_neg q] at t16 ⊢; exact Or.inr ⟨q, rfl, t16⟩
          obtain ⟨a, hae⟩ : ∃ a, a = (if v 0 < 200 then v 0 + 1 else -1) := ⟨_, rfl⟩
          rw [← hae] at hcs ⊢
          have ha : -1 ≤ a ∧ a ≤ 1000000 := by rcases hcs with z | z <;> omega
          have hcs2 : a ≠ -1 → _ := fun hne => hcs.resolve_right (fun z => hne z.2.1)
          refine z_cV hZ (As := [_]) rfl dX7_write_48 ml_X7_55 wy_X7_settled (m_X7_settled l hfl ha (fun hne => b8.st (by omega) (hcs2 hne).2.2.2.2 f16)) (by assumption) (by assumption) rfl ⟨Nat.le_of_ble_eq_true rfl, Nat.le_of_ble_eq_true rfl⟩ ⟨Nat.le_of_ble_eq_true rfl, Nat.le_of_ble_eq_true rfl⟩ (Nat.le_of_ble_eq_true rfl) (fun _ _ _ h => by obtain ⟨rfl, he, rfl, rfl⟩ := h; have hn := hcs.resolve_left (fun z => by omega); exact ⟨Or.inr ⟨rfl, by omega, hn.1⟩, rfl, fi, _, _, (by rw [hn.2.2]; exact b8), k1, hdk⟩) (fun v48 L48 G48 hp48 => ?_)
          obtain ⟨rfl, hne, rfl, t19⟩ := hp48
          exact z_iret hZ rfl (Nat.le_of_ble_eq_true rfl) (Nat.le_of_ble_eq_true rfl) dX7_write_51 (by
            obtain ⟨z1, z2, z3⟩ := hcs2 hne
            exact ⟨by omega, z1, pv (z2), rfl, _, _, _, t19, lk.save (lk.op ⟨k1, k2⟩) hb.2.2.1.2, un_s⟩)
        · exact z_throw hZ hfl rfl (Or.inr ⟨rfl, rfl, rfl⟩) dX7_write_18 dX7_write_21 dX7_write_22 dX7_write_24 dX7_write_27 cl_X7_40 in_Ax st_42 (Nat.le_of_ble_eq_true rfl) (Nat.le_of_ble_eq_true rfl) (Nat.le_of_ble_eq_true rfl) ⟨Nat.le_of_ble_eq_true rfl, Nat.le_of_ble_eq_true rfl⟩ (by exact ⟨Or.inl ⟨rfl, by omega⟩, rfl, fi, W, D, hb, hl, hk⟩)
  exact hgo
set_option maxRecDepth 100000 in
set_option maxHeartbeats 4000000 in
theorem m_X7_goTo (l : Launch) {L : List Nat} {F : Nat → PE} {K : Nat → Nat} {v : Int → Int} {kd sv n : Int} {H Q : Int → Int → Int} {kp bf : Int → Int} (hfl : l.flags = flags0) (t : dr L F K v kd sv H kp Q n bf) {x : Int} (hx : -2147483648 ≤ x ∧ x ≤ 2147483647) : PM l yX7_goTo cX7_goTo 2 (some .int) (rm 8 1 6) L [.ref (K 0), .int (iI x)] F (fun v9 L1 F1 => (0 ≤ x ∧ x ≤ v 0) ∧ (True) ∧ v9 = some (.int (iI (v 1))) ∧ L = L1 ∧ dr L1 F1 K (vGo x v) 0 (hN sv) (hS sv H v) kp Q n bf) (fun E L1 F1 => ((E = xA ∧ ¬ (0 ≤ x ∧ x ≤ v 0)) ∨ (E = xS ∧ (0 ≤ x ∧ x ≤ v 0) ∧ ¬ (True))) ∧ L = L1 ∧ dr L1 F1 K v kd sv H kp Q n bf) := by
  refine pm_of cd_X7_goTo (by decide +kernel) (Nat.le_of_ble_eq_true rfl) (fun ZZ hZ => ?_)
  have hgo : ZZ 0 0 0 [some (.ref (K 0)), some (.int (iI x))] [] L F := by
    obtain ⟨fi, W, D, hb, hl, hk⟩ := t
    have l0 := hb.1.1 0 (by omega)
    have h0 := hb.2.1
    have l1 := hb.1.1 1 (by omega)
    have l26 := hb.1.1 26 (by omega)
    have h26 := hb.2.2.1.1
    have hv := hl.1
    have S0 : stP L F (sK K 0) v kd := by have z := hb.2.2.2.2.2.2.2 0 (by omega); rw [hv, hk] at z; exact z
    have rg := S0.rg
    have ht := hb.2.2.2.2.2.2.1
    have l255 := ht.1.1
    have l256 := ht.1.2.1
    have h255 := ht.2.1
    have hn := ht.2.2.2.1
    have o0 : F (K 1) = _ := S0.ob
    have c1 := S0.sc
    have c1o := c1.2.1
    have lS := hb.L (k := 0) (by omega)
    have m1 := lS 1 (by omega)
    have m2 := lS 2 (by omega)
    have c2 := c1.2.2.1.2.1
    refine z_iload_n1 hZ dX7_goTo_0 ?_
    refine z_if_lt hZ (tgt := 21) dX7_goTo_1 rfl (by omega) (fun hc1 => ?_) (fun hc1 => ?_)
    · exact z_throw hZ hfl rfl (Or.inr ⟨rfl, rfl, rfl⟩) dX7_goTo_21 dX7_goTo_24 dX7_goTo_25 dX7_goTo_27 dX7_goTo_30 cl_X7_40 in_Ax st_80 (Nat.le_of_ble_eq_true rfl) (Nat.le_of_ble_eq_true rfl) (Nat.le_of_ble_eq_true rfl) ⟨Nat.le_of_ble_eq_true rfl, Nat.le_of_ble_eq_true rfl⟩ (by exact ⟨Or.inl ⟨rfl, by omega⟩, rfl, fi, W, D, hb, hl, hk⟩)
    · refine z_iload_n1 hZ dX7_goTo_4 ?_
      refine z_aload_n0 hZ dX7_goTo_5 ?_
      refine z_gf_X7_now hZ dX7_goTo_6 fl_X7_10 (by assumption) (by assumption) ?_
      refine z_gf_X5_scroll hZ dX7_goTo_9 fl_X7_68 (by assumption) (by assumption) ?_
      refine z_gf_X4_text hZ dX7_goTo_12 fl_X7_72 (by assumption) (by assumption) ?_
      refine z_cV hZ (As := []) rfl dX7_goTo_15 ml_X7_77 wy_X6_count (m_X6_count l c1.2.2.1) (by assumption) (by assumption) rfl ⟨Nat.le_of_ble_eq_true rfl, Nat.le_of_ble_eq_true rfl⟩ ⟨Nat.le_of_ble_eq_true rfl, Nat.le_of_ble_eq_true rfl⟩ (Nat.le_of_ble_eq_true rfl) (fun _ _ _ h => h.elim) (fun v15 L15 G15 hp15 => ?_)
      obtain ⟨rfl, rfl, rfl⟩ := hp15
      refine z_icmp_le hZ (tgt := 31) dX7_goTo_18 rfl (by omega) (fun hc18 => ?_) (fun hc18 => ?_)
      · refine z_aload_n0 hZ dX7_goTo_31 ?_
        refine z_gf_X7_history hZ dX7_goTo_32 fl_X7_19 (by assumption) (by assumption) ?_
        refine z_aload_n0 hZ dX7_goTo_35 ?_
        refine z_gf_X7_now hZ dX7_goTo_36 fl_X7_10 (by assumption) (by assumption) ?_
        refine z_cV hZ (As := [_]) rfl dX7_goTo_39 ml_X7_47 wy_X2_prepare (m_X2_prepare l hb) (by assumption) (by assumption) rfl ⟨Nat.le_of_ble_eq_true rfl, Nat.le_of_ble_eq_true rfl⟩ ⟨Nat.le_of_ble_eq_true rfl, Nat.le_of_ble_eq_true rfl⟩ (Nat.le_of_ble_eq_true rfl) (fun _ _ _ h => h.elim) (fun v39 L39 G39 hp39 => ?_)
        obtain ⟨rfl, rfl, b8⟩ := hp39
        obtain ⟨k1, k2⟩ := hl.prep hb.2.2.1.2
        have S8 : stP L G39 (sK K 0) v kd := by have z := b8.2.2.2.2.2.2.2 0 (by omega); rw [k1.1, un_n (by have := ro_rg (i := fi + sv); omega), hk] at z; exact z
        have o8 : G39 (K 1) = _ := S8.ob
        have h0 := b8.2.1
        have J := b8.ij (k := 0) (by omega)
        have JL := b8.L (k := 0) (by omega)
        have hdk : un D (ro (fi + sv)) (D 0) 0 = kd := by rw [un_n (by have := ro_rg (i := fi + sv); omega)]; exact hk
        refine z_aload_n0 hZ dX7_goTo_42 ?_
        refine z_aload_n0 hZ dX7_goTo_43 ?_
        refine z_gf_X7_now hZ dX7_goTo_44 fl_X7_10 (by assumption) (by assumption) ?_
        refine z_iload_n1 hZ dX7_goTo_47 ?_
        refine z_cV hZ (As := [_]) rfl dX7_goTo_48 ml_X7_82 wy_X5_goPlace (m_X5_goPlace l J JL S8 (by omega)) (by assumption) (by assumption) rfl ⟨Nat.le_of_ble_eq_true rfl, Nat.le_of_ble_eq_true rfl⟩ ⟨Nat.le_of_ble_eq_true rfl, Nat.le_of_ble_eq_true rfl⟩ (Nat.le_of_ble_eq_true rfl) (fun _ _ _ h => h.elim) (fun v48 L48 G48 hp48 => ?_)
        obtain ⟨rfl, rfl, t16, f16⟩ := hp48
        have h0 : G48 (K 0) = _ := (b8.f0 (by omega) (by omega) (by omega) f16).trans h0
        have hcs : ((0 ≤ x ∧ x ≤ v 0) ∧ (if 0 ≤ x ∧ x ≤ v 0 then v 1 else -1) = v 1 ∧ 0 ≤ v 1 ∧ v 1 ≤ 100000 ∧ stP L G48 (sK K 0) (vGo x v) 0) ∨ (¬ (0 ≤ x ∧ x ≤ v 0) ∧ (if 0 ≤ x ∧ x ≤ v 0 then v 1 else -1) = -1 ∧ G48 = G39) := by
          by_cases q : 0 ≤ x ∧ x ≤ v 0
          · rw [if_pos q] at t16 ⊢; exact Or.inl ⟨q, rfl, by omega, by omega, t16⟩
          · rw [if_neg q] at t16 ⊢; exact Or.inr ⟨q, rfl, t16⟩
        obtain ⟨a, hae⟩ : ∃ a, a = (if 0 ≤ x ∧ x ≤ v 0 then v 1 else -1) := ⟨_, rfl⟩
        rw [← hae] at hcs ⊢
        have ha : -1 ≤ a ∧ a ≤ 1000000 := by rcases hcs with z | z <;> omega
        have hcs2 : a ≠ -1 → _ := fun hne => hcs.resolve_right (fun z => hne z.2.1)
        refine z_cV hZ (As := [_]) rfl dX7_goTo_51 ml_X7_55 wy_X7_settled (m_X7_settled l hfl ha (fun hne => b8.st (by omega) (hcs2 hne).2.2.2.2 f16)) (by assumption) (by assumption) rfl ⟨Nat.le_of_ble_eq_true rfl, Nat.le_of_ble_eq_true rfl⟩ ⟨Nat.le_of_ble_eq_true rfl, Nat.le_of_ble_eq_true rfl⟩ (Nat.le_of_ble_eq_true rfl) (fun _ _ _ h => by obtain ⟨rfl, he, rfl, rfl⟩ := h; have hn := hcs.resolve_left (fun z => by omega); exact ⟨by exfalso; omega, rfl, fi, _, _, (by rw [hn.2.2]; exact b8), k1, hdk⟩) (fun v51 L51 G51 hp51 => ?_)
        obtain ⟨rfl, hne, rfl, t19⟩ := hp51
        exact z_iret hZ rfl (Nat.le_of_ble_eq_true rfl) (Nat.le_of_ble_eq_true rfl) dX7_goTo_54 (by
            obtain ⟨z1, z2, z3⟩ := hcs2 hne
            exact ⟨by omega, True.intro, pv (z2), rfl, _, _, _, t19, lk.save (lk.op ⟨k1, k2⟩) hb.2.2.1.2, un_s⟩)
      · exact z_throw hZ hfl rfl (Or.inr ⟨rfl, rfl, rfl⟩) dX7_goTo_21 dX7_goTo_24 dX7_goTo_25 dX7_goTo_27 dX7_goTo_30 cl_X7_40 in_Ax st_80 (Nat.le_of_ble_eq_true rfl) (Nat.le_of_ble_eq_true rfl) (Nat.le_of_ble_eq_true rfl) ⟨Nat.le_of_ble_eq_true rfl, Nat.le_of_ble_eq_true rfl⟩ (by exact ⟨Or.inl ⟨rfl, by omega⟩, rfl, fi, W, D, hb, hl, hk⟩)
  exact hgo
set_option maxRecDepth 100000 in
set_option maxHeartbeats 4000000 in
theorem m_X7_goLines (l : Launch) {L : List Nat} {F : Nat → PE} {K : Nat → Nat} {v : Int → Int} {kd sv n : Int} {H Q : Int → Int → Int} {kp bf : Int → Int} (hfl : l.flags = flags0) (t : dr L F K v kd sv H kp Q n bf) {x : Int} (hx : -2147483648 ≤ x ∧ x ≤ 2147483647) : PM l yX7_goLines cX7_goLines 2 (some .int) (rm 8 1 6) L [.ref (K 0), .int (iI x)] F (fun v9 L1 F1 => (-50 ≤ x ∧ x ≤ 50 ∧ x ≠ 0) ∧ (glA v x ≠ -1) ∧ v9 = some (.int (iI (glA v x))) ∧ L = L1 ∧ dr L1 F1 K (vGo (glA v x) v) 0 (hN sv) (hS sv H v) kp Q n bf) (fun E L1 F1 => ((E = xA ∧ ¬ (-50 ≤ x ∧ x ≤ 50 ∧ x ≠ 0)) ∨ (E = xS ∧ (-50 ≤ x ∧ x ≤ 50 ∧ x ≠ 0) ∧ ¬ (glA v x ≠ -1))) ∧ L = L1 ∧ dr L1 F1 K v kd sv H kp Q n bf) := by
  refine pm_of cd_X7_goLines (by decide +kernel) (Nat.le_of_ble_eq_true rfl) (fun ZZ hZ => ?_)
  have hgo : ZZ 0 0 0 [some (.ref (K 0)), some (.int (iI x))] [] L F := by
    obtain ⟨fi, W, D, hb, hl, hk⟩ := t
    have l0 := hb.1.1 0 (by omega)
    have h0 := hb.2.1
    have l1 := hb.1.1 1 (by omega)
    have l26 := hb.1.1 26 (by omega)
    have h26 := hb.2.2.1.1
    have hv := hl.1
    have S0 : stP L F (sK K 0) v kd := by have z := hb.2.2.2.2.2.2.2 0 (by omega); rw [hv, hk] at z; exact z
    have rg := S0.rg
    have ht := hb.2.2.2.2.2.2.1
    have l255 := ht.1.1
    have l256 := ht.1.2.1
    have h255 := ht.2.1
    have hn := ht.2.2.2.1
    have rgl : -1 ≤ glA v x ∧ glA v x ≤ v 0 := by
      have z := lsO_rg (n := v 0) (f := fT v) (p := v 1) (z := x) (by omega) (by omega)
      unfold glA
      by_cases q : lsO (v 0) (fT v) (v 1) x = -1
      · rw [if_pos q]; omega
      · rw [if_neg q]; have z2 := lE_rg (n := v 0) (f := fT v) (p := lsO (v 0) (fT v) (v 1) x) (by omega); have z3 := lB_rg (n := v 0) (f := fT v) (p := v 1) (by omega); split <;> omega
    refine z_iload_n1 hZ dX7_goLines_0 ?_
    refine z_bipush hZ dX7_goLines_1 rfl ?_
    refine z_icmp_lt hZ (tgt := 16) dX7_goLines_3 rfl (by omega) (fun hc3 => ?_) (fun hc3 => ?_)
    · exact z_throw hZ hfl rfl (Or.inr ⟨rfl, rfl, rfl⟩) dX7_goLines_16 dX7_goLines_19 dX7_goLines_20 dX7_goLines_22 dX7_goLines_25 cl_X7_40 in_Ax st_97 (Nat.le_of_ble_eq_true rfl) (Nat.le_of_ble_eq_true rfl) (Nat.le_of_ble_eq_true rfl) ⟨Nat.le_of_ble_eq_true rfl, Nat.le_of_ble_eq_true rfl⟩ (by exact ⟨Or.inl ⟨rfl, by omega⟩, rfl, fi, W, D, hb, hl, hk⟩)
    · refine z_iload_n1 hZ dX7_goLines_6 ?_
      refine z_bipush hZ dX7_goLines_7 rfl ?_
      refine z_icmp_gt hZ (tgt := 16) dX7_goLines_9 rfl (by omega) (fun hc9 => ?_) (fun hc9 => ?_)
      · exact z_throw hZ hfl rfl (Or.inr ⟨rfl, rfl, rfl⟩) dX7_goLines_16 dX7_goLines_19 dX7_goLines_20 dX7_goLines_22 dX7_goLines_25 cl_X7_40 in_Ax st_97 (Nat.le_of_ble_eq_true rfl) (Nat.le_of_ble_eq_true rfl) (Nat.le_of_ble_eq_true rfl) ⟨Nat.le_of_ble_eq_true rfl, Nat.le_of_ble_eq_true rfl⟩ (by exact ⟨Or.inl ⟨rfl, by omega⟩, rfl, fi, W, D, hb, hl, hk⟩)
      · refine z_iload_n1 hZ dX7_goLines_12 ?_
        refine z_if_ne hZ (tgt := 26) dX7_goLines_13 rfl (by omega) (fun hc13 => ?_) (fun hc13 => ?_)
        · refine z_aload_n0 hZ dX7_goLines_26 ?_
          refine z_gf_X7_history hZ dX7_goLines_27 fl_X7_19 (by assumption) (by assumption) ?_
          refine z_aload_n0 hZ dX7_goLines_30 ?_
          refine z_gf_X7_now hZ dX7_goLines_31 fl_X7_10 (by assumption) (by assumption) ?_
          refine z_cV hZ (As := [_]) rfl dX7_goLines_34 ml_X7_47 wy_X2_prepare (m_X2_prepare l hb) (by assumption) (by assumption) rfl ⟨Nat.le_of_ble_eq_true rfl, Nat.le_of_ble_eq_true rfl⟩ ⟨Nat.le_of_ble_eq_true rfl, Nat.le_of_ble_eq_true rfl⟩ (Nat.le_of_ble_eq_true rfl) (fun _ _ _ h => h.elim) (fun v34 L34 G34 hp34 => ?_)
          obtain ⟨rfl, rfl, b8⟩ := hp34
          obtain ⟨k1, k2⟩ := hl.prep hb.2.2.1.2
          have S8 : stP L G34 (sK K 0) v kd := by have z := b8.2.2.2.2.2.2.2 0 (by omega); rw [k1.1, un_n (by have := ro_rg (i := fi + sv); omega), hk] at z; exact z
          have o8 : G34 (K 1) = _ := S8.ob
          have h0 := b8.2.1
          have J := b8.ij (k := 0) (by omega)
          have JL := b8.L (k := 0) (by omega)
          have hdk : un D (ro (fi + sv)) (D 0) 0 = kd := by rw [un_n (by have := ro_rg (i := fi + sv); omega)]; exact hk
          refine z_aload_n0 hZ dX7_goLines_37 ?_
          refine z_aload_n0 hZ dX7_goLines_38 ?_
          refine z_gf_X7_now hZ dX7_goLines_39 fl_X7_10 (by assumption) (by assumption) ?_
          refine z_iload_n1 hZ dX7_goLines_42 ?_
          refine z_cV hZ (As := [_]) rfl dX7_goLines_43 ml_X7_99 wy_X5_goUpOrDown (m_X5_goUpOrDown l J JL S8 (by omega)) (by assumption) (by assumption) rfl ⟨Nat.le_of_ble_eq_true rfl, Nat.le_of_ble_eq_true rfl⟩ ⟨Nat.le_of_ble_eq_true rfl, Nat.le_of_ble_eq_true rfl⟩ (Nat.le_of_ble_eq_true rfl) (fun _ _ _ h => h.elim) (fun v43 L43 G43 hp43 => ?_)
          obtain ⟨rfl, rfl, t16, f16⟩ := hp43
          have h0 : G43 (K 0) = _ := (b8.f0 (by omega) (by omega) (by omega) f16).trans h0
          have hcs : ((glA v x ≠ -1) ∧ glA v x = glA v x ∧ 0 ≤ glA v x ∧ glA v x ≤ 100000 ∧ stP L G43 (sK K 0) (vGo (glA v x) v) 0) ∨ (¬ (glA v x ≠ -1) ∧ glA v x = -1 ∧ G43 = G34) := by
            by_cases q : glA v x = -1
            · rw [if_pos q] at t16; exact Or.inr ⟨fun z => z q, q, t16⟩
            · rw [if_neg q] at t16; exact Or.inl ⟨q, rfl, by omega, by omega, t16⟩
          obtain ⟨a, hae⟩ : ∃ a, a = glA v x := ⟨_, rfl⟩
          rw [← hae]
          have ha : -1 ≤ a ∧ a ≤ 1000000 := by omega
          have hcs2 : a ≠ -1 → _ := fun hne => hcs.resolve_right (fun z => hne (hae.trans z.2.1))
          refine z_cV hZ (As := [_]) rfl dX7_goLines_46 ml_X7_55 wy_X7_settled (m_X7_settled l hfl ha (fun hne => b8.st (by omega) (hcs2 hne).2.2.2.2 f16)) (by assumption) (by assumption) rfl ⟨Nat.le_of_ble_eq_true rfl, Nat.le_of_ble_eq_true rfl⟩ ⟨Nat.le_of_ble_eq_true rfl, Nat.le_of_ble_eq_true rfl⟩ (Nat.le_of_ble_eq_true rfl) (fun _ _ _ h => by obtain ⟨rfl, he, rfl, rfl⟩ := h; have hn := hcs.resolve_left (fun z => by omega); exact ⟨Or.inr ⟨rfl, by omega, hn.1⟩, rfl, fi, _, _, (by rw [hn.2.2]; exact b8), k1, hdk⟩) (fun v46 L46 G46 hp46 => ?_)
          obtain ⟨rfl, hne, rfl, t19⟩ := hp46
          exact z_iret hZ rfl (Nat.le_of_ble_eq_true rfl) (Nat.le_of_ble_eq_true rfl) dX7_goLines_49 (by
            obtain ⟨z1, z2, z3⟩ := hcs2 hne
            exact ⟨by omega, z1, pv (hae), rfl, _, _, _, t19, lk.save (lk.op ⟨k1, k2⟩) hb.2.2.1.2, un_s⟩)
        · exact z_throw hZ hfl rfl (Or.inr ⟨rfl, rfl, rfl⟩) dX7_goLines_16 dX7_goLines_19 dX7_goLines_20 dX7_goLines_22 dX7_goLines_25 cl_X7_40 in_Ax st_97 (Nat.le_of_ble_eq_true rfl) (Nat.le_of_ble_eq_true rfl) (Nat.le_of_ble_eq_true rfl) ⟨Nat.le_of_ble_eq_true rfl, Nat.le_of_ble_eq_true rfl⟩ (by exact ⟨Or.inl ⟨rfl, by omega⟩, rfl, fi, W, D, hb, hl, hk⟩)
  exact hgo
set_option maxRecDepth 100000 in
set_option maxHeartbeats 4000000 in
theorem m_X7_turn (l : Launch) {L : List Nat} {F : Nat → PE} {K : Nat → Nat} {v : Int → Int} {kd sv n : Int} {H Q : Int → Int → Int} {kp bf : Int → Int} (hfl : l.flags = flags0) (t : dr L F K v kd sv H kp Q n bf) {x : Int} (hx : -2147483648 ≤ x ∧ x ≤ 2147483647) : PM l yX7_turn cX7_turn 2 (some .int) (rm 8 1 6) L [.ref (K 0), .int (iI x)] F (fun v9 L1 F1 => (-20 ≤ x ∧ x ≤ 20) ∧ (0 < v 3) ∧ v9 = some (.int (iI (trA x v))) ∧ L = L1 ∧ dr L1 F1 K (vTr x v) 0 (hN sv) (hS sv H v) kp Q n bf) (fun E L1 F1 => ((E = xA ∧ ¬ (-20 ≤ x ∧ x ≤ 20)) ∨ (E = xS ∧ (-20 ≤ x ∧ x ≤ 20) ∧ ¬ (0 < v 3))) ∧ L = L1 ∧ dr L1 F1 K v kd sv H kp Q n bf) := by
  refine pm_of cd_X7_turn (by decide +kernel) (Nat.le_of_ble_eq_true rfl) (fun ZZ hZ => ?_)
  have hgo : ZZ 0 0 0 [some (.ref (K 0)), some (.int (iI x))] [] L F := by
    obtain ⟨fi, W, D, hb, hl, hk⟩ := t
    have l0 := hb.1.1 0 (by omega)
    have h0 := hb.2.1
    have l1 := hb.1.1 1 (by omega)
    have l26 := hb.1.1 26 (by omega)
    have h26 := hb.2.2.1.1
    have hv := hl.1
    have S0 : stP L F (sK K 0) v kd := by have z := hb.2.2.2.2.2.2.2 0 (by omega); rw [hv, hk] at z; exact z
    have rg := S0.rg
    have ht := hb.2.2.2.2.2.2.1
    have l255 := ht.1.1
    have l256 := ht.1.2.1
    have h255 := ht.2.1
    have hn := ht.2.2.2.1
    have rtr : 0 < v 3 → 0 ≤ trA x v ∧ trA x v < v 3 := trA_rg
    refine z_iload_n1 hZ dX7_turn_0 ?_
    refine z_bipush hZ dX7_turn_1 rfl ?_
    refine z_icmp_lt hZ (tgt := 12) dX7_turn_3 rfl (by omega) (fun hc3 => ?_) (fun hc3 => ?_)
    · exact z_throw hZ hfl rfl (Or.inr ⟨rfl, rfl, rfl⟩) dX7_turn_12 dX7_turn_15 dX7_turn_16 dX7_turn_18 dX7_turn_21 cl_X7_40 in_Ax st_135 (Nat.le_of_ble_eq_true rfl) (Nat.le_of_ble_eq_true rfl) (Nat.le_of_ble_eq_true rfl) ⟨Nat.le_of_ble_eq_true rfl, Nat.le_of_ble_eq_true rfl⟩ (by exact ⟨Or.inl ⟨rfl, by omega⟩, rfl, fi, W, D, hb, hl, hk⟩)
    · refine z_iload_n1 hZ dX7_turn_6 ?_
      refine z_bipush hZ dX7_turn_7 rfl ?_
      refine z_icmp_le hZ (tgt := 22) dX7_turn_9 rfl (by omega) (fun hc9 => ?_) (fun hc9 => ?_)
      · refine z_aload_n0 hZ dX7_turn_22 ?_
        refine z_gf_X7_history hZ dX7_turn_23 fl_X7_19 (by assumption) (by assumption) ?_
        refine z_aload_n0 hZ dX7_turn_26 ?_
        refine z_gf_X7_now hZ dX7_turn_27 fl_X7_10 (by assumption) (by assumption) ?_
        refine z_cV hZ (As := [_]) rfl dX7_turn_30 ml_X7_47 wy_X2_prepare (m_X2_prepare l hb) (by assumption) (by assumption) rfl ⟨Nat.le_of_ble_eq_true rfl, Nat.le_of_ble_eq_true rfl⟩ ⟨Nat.le_of_ble_eq_true rfl, Nat.le_of_ble_eq_true rfl⟩ (Nat.le_of_ble_eq_true rfl) (fun _ _ _ h => h.elim) (fun v30 L30 G30 hp30 => ?_)
        obtain ⟨rfl, rfl, b8⟩ := hp30
        obtain ⟨k1, k2⟩ := hl.prep hb.2.2.1.2
        have S8 : stP L G30 (sK K 0) v kd := by have z := b8.2.2.2.2.2.2.2 0 (by omega); rw [k1.1, un_n (by have := ro_rg (i := fi + sv); omega), hk] at z; exact z
        have o8 : G30 (K 1) = _ := S8.ob
        have h0 := b8.2.1
        have J := b8.ij (k := 0) (by omega)
        have JL := b8.L (k := 0) (by omega)
        have hdk : un D (ro (fi + sv)) (D 0) 0 = kd := by rw [un_n (by have := ro_rg (i := fi + sv); omega)]; exact hk
        refine z_aload_n0 hZ dX7_turn_33 ?_
        refine z_aload_n0 hZ dX7_turn_34 ?_
        refine z_gf_X7_now hZ dX7_turn_35 fl_X7_10 (by assumption) (by assumption) ?_
        refine z_iload_n1 hZ dX7_turn_38 ?_
        refine z_cV hZ (As := [_]) rfl dX7_turn_39 ml_X7_137 wy_X5_turnRing (m_X5_turnRing l J JL S8 (by omega)) (by assumption) (by assumption) rfl ⟨Nat.le_of_ble_eq_true rfl, Nat.le_of_ble_eq_true rfl⟩ ⟨Nat.le_of_ble_eq_true rfl, Nat.le_of_ble_eq_true rfl⟩ (Nat.le_of_ble_eq_true rfl) (fun _ _ _ h => h.elim) (fun v39 L39 G39 hp39 => ?_)
        obtain ⟨rfl, rfl, t16, f16⟩ := hp39
        have h0 : G39 (K 0) = _ := (b8.f0 (by omega) (by omega) (by omega) f16).trans h0
        have hcs : ((0 < v 3) ∧ (if 0 < v 3 then trA x v else -1) = trA x v ∧ 0 ≤ trA x v ∧ trA x v ≤ 100000 ∧ stP L G39 (sK K 0) (vTr x v) 0) ∨ (¬ (0 < v 3) ∧ (if 0 < v 3 then trA x v else -1) = -1 ∧ G39 = G30) := by
          by_cases q : 0 < v 3
          · rw [if_pos q] at t16 ⊢; exact Or.inl ⟨q, rfl, by omega, by omega, t16⟩
          · rw [if_neg q] at t16 ⊢; exact Or.inr ⟨q, rfl, t16⟩
        obtain ⟨a, hae⟩ : ∃ a, a = (if 0 < v 3 then trA x v else -1) := ⟨_, rfl⟩
        rw [← hae] at hcs ⊢
        have ha : -1 ≤ a ∧ a ≤ 1000000 := by rcases hcs with z | z <;> omega
        have hcs2 : a ≠ -1 → _ := fun hne => hcs.resolve_right (fun z => hne z.2.1)
        refine z_cV hZ (As := [_]) rfl dX7_turn_42 ml_X7_55 wy_X7_settled (m_X7_settled l hfl ha (fun hne => b8.st (by omega) (hcs2 hne).2.2.2.2 f16)) (by assumption) (by assumption) rfl ⟨Nat.le_of_ble_eq_true rfl, Nat.le_of_ble_eq_true rfl⟩ ⟨Nat.le_of_ble_eq_true rfl, Nat.le_of_ble_eq_true rfl⟩ (Nat.le_of_ble_eq_true rfl) (fun _ _ _ h => by obtain ⟨rfl, he, rfl, rfl⟩ := h; have hn := hcs.resolve_left (fun z => by omega); exact ⟨Or.inr ⟨rfl, by omega, hn.1⟩, rfl, fi, _, _, (by rw [hn.2.2]; exact b8), k1, hdk⟩) (fun v42 L42 G42 hp42 => ?_)
        obtain ⟨rfl, hne, rfl, t19⟩ := hp42
        exact z_iret hZ rfl (Nat.le_of_ble_eq_true rfl) (Nat.le_of_ble_eq_true rfl) dX7_turn_45 (by
            obtain ⟨z1, z2, z3⟩ := hcs2 hne
            exact ⟨by omega, z1, pv (z2), rfl, _, _, _, t19, lk.save (lk.op ⟨k1, k2⟩) hb.2.2.1.2, un_s⟩)
      · exact z_throw hZ hfl rfl (Or.inr ⟨rfl, rfl, rfl⟩) dX7_turn_12 dX7_turn_15 dX7_turn_16 dX7_turn_18 dX7_turn_21 cl_X7_40 in_Ax st_135 (Nat.le_of_ble_eq_true rfl) (Nat.le_of_ble_eq_true rfl) (Nat.le_of_ble_eq_true rfl) ⟨Nat.le_of_ble_eq_true rfl, Nat.le_of_ble_eq_true rfl⟩ (by exact ⟨Or.inl ⟨rfl, by omega⟩, rfl, fi, W, D, hb, hl, hk⟩)
  exact hgo
set_option maxRecDepth 100000 in
set_option maxHeartbeats 4000000 in
theorem m_X7_changeCaves (l : Launch) {L : List Nat} {F : Nat → PE} {K : Nat → Nat} {v : Int → Int} {kd sv n : Int} {H Q : Int → Int → Int} {kp bf : Int → Int} (hfl : l.flags = flags0) (t : dr L F K v kd sv H kp Q n bf) {x : Int} (hx : -2147483648 ≤ x ∧ x ≤ 2147483647) : PM l yX7_changeCaves cX7_changeCaves 2 (some .int) (rm 8 1 6) L [.ref (K 0), .int (iI x)] F (fun v9 L1 F1 => (1 ≤ x ∧ x ≤ 8) ∧ (True) ∧ v9 = some (.int (iI (v 5))) ∧ L = L1 ∧ dr L1 F1 K (vCC x v) 0 (hN sv) (hS sv H v) kp Q n bf) (fun E L1 F1 => ((E = xA ∧ ¬ (1 ≤ x ∧ x ≤ 8)) ∨ (E = xS ∧ (1 ≤ x ∧ x ≤ 8) ∧ ¬ (True))) ∧ L = L1 ∧ dr L1 F1 K v kd sv H kp Q n bf) := by
  refine pm_of cd_X7_changeCaves (by decide +kernel) (Nat.le_of_ble_eq_true rfl) (fun ZZ hZ => ?_)
  have hgo : ZZ 0 0 0 [some (.ref (K 0)), some (.int (iI x))] [] L F := by
    obtain ⟨fi, W, D, hb, hl, hk⟩ := t
    have l0 := hb.1.1 0 (by omega)
    have h0 := hb.2.1
    have l1 := hb.1.1 1 (by omega)
    have l26 := hb.1.1 26 (by omega)
    have h26 := hb.2.2.1.1
    have hv := hl.1
    have S0 : stP L F (sK K 0) v kd := by have z := hb.2.2.2.2.2.2.2 0 (by omega); rw [hv, hk] at z; exact z
    have rg := S0.rg
    have ht := hb.2.2.2.2.2.2.1
    have l255 := ht.1.1
    have l256 := ht.1.2.1
    have h255 := ht.2.1
    have hn := ht.2.2.2.1
    refine z_iload_n1 hZ dX7_changeCaves_0 ?_
    refine z_iconst hZ dX7_changeCaves_1 ?_
    refine z_icmp_lt hZ (tgt := 11) dX7_changeCaves_2 rfl (by omega) (fun hc2 => ?_) (fun hc2 => ?_)
    · exact z_throw hZ hfl rfl (Or.inr ⟨rfl, rfl, rfl⟩) dX7_changeCaves_11 dX7_changeCaves_14 dX7_changeCaves_15 dX7_changeCaves_17 dX7_changeCaves_20 cl_X7_40 in_Ax st_140 (Nat.le_of_ble_eq_true rfl) (Nat.le_of_ble_eq_true rfl) (Nat.le_of_ble_eq_true rfl) ⟨Nat.le_of_ble_eq_true rfl, Nat.le_of_ble_eq_true rfl⟩ (by exact ⟨Or.inl ⟨rfl, by omega⟩, rfl, fi, W, D, hb, hl, hk⟩)
    · refine z_iload_n1 hZ dX7_changeCaves_5 ?_
      refine z_bipush hZ dX7_changeCaves_6 rfl ?_
      refine z_icmp_le hZ (tgt := 21) dX7_changeCaves_8 rfl (by omega) (fun hc8 => ?_) (fun hc8 => ?_)
      · refine z_aload_n0 hZ dX7_changeCaves_21 ?_
        refine z_gf_X7_history hZ dX7_changeCaves_22 fl_X7_19 (by assumption) (by assumption) ?_
        refine z_aload_n0 hZ dX7_changeCaves_25 ?_
        refine z_gf_X7_now hZ dX7_changeCaves_26 fl_X7_10 (by assumption) (by assumption) ?_
        refine z_cV hZ (As := [_]) rfl dX7_changeCaves_29 ml_X7_47 wy_X2_prepare (m_X2_prepare l hb) (by assumption) (by assumption) rfl ⟨Nat.le_of_ble_eq_true rfl, Nat.le_of_ble_eq_true rfl⟩ ⟨Nat.le_of_ble_eq_true rfl, Nat.le_of_ble_eq_true rfl⟩ (Nat.le_of_ble_eq_true rfl) (fun _ _ _ h => h.elim) (fun v29 L29 G29 hp29 => ?_)
        obtain ⟨rfl, rfl, b8⟩ := hp29
        obtain ⟨k1, k2⟩ := hl.prep hb.2.2.1.2
        have S8 : stP L G29 (sK K 0) v kd := by have z := b8.2.2.2.2.2.2.2 0 (by omega); rw [k1.1, un_n (by have := ro_rg (i := fi + sv); omega), hk] at z; exact z
        have o8 : G29 (K 1) = _ := S8.ob
        have h0 := b8.2.1
        have J := b8.ij (k := 0) (by omega)
        have JL := b8.L (k := 0) (by omega)
        have hdk : un D (ro (fi + sv)) (D 0) 0 = kd := by rw [un_n (by have := ro_rg (i := fi + sv); omega)]; exact hk
        refine z_aload_n0 hZ dX7_changeCaves_32 ?_
        refine z_aload_n0 hZ dX7_changeCaves_33 ?_
        refine z_gf_X7_now hZ dX7_changeCaves_34 fl_X7_10 (by assumption) (by assumption) ?_
        refine z_iload_n1 hZ dX7_changeCaves_37 ?_
        refine z_cV hZ (As := [_]) rfl dX7_changeCaves_38 ml_X7_142 wy_X5_setCaves (m_X5_setCaves l J JL S8 (by omega)) (by assumption) (by assumption) rfl ⟨Nat.le_of_ble_eq_true rfl, Nat.le_of_ble_eq_true rfl⟩ ⟨Nat.le_of_ble_eq_true rfl, Nat.le_of_ble_eq_true rfl⟩ (Nat.le_of_ble_eq_true rfl) (fun _ _ _ h => h.elim) (fun v38 L38 G38 hp38 => ?_)
        obtain ⟨rfl, rfl, t16, f16⟩ := hp38
        have h0 : G38 (K 0) = _ := (b8.f0 (by omega) (by omega) (by omega) f16).trans h0
        refine z_cV hZ (As := [_]) rfl dX7_changeCaves_41 ml_X7_55 wy_X7_settled (m_X7_settled l hfl (by omega) (fun _ => b8.st (by omega) t16 f16)) (by assumption) (by assumption) rfl ⟨Nat.le_of_ble_eq_true rfl, Nat.le_of_ble_eq_true rfl⟩ ⟨Nat.le_of_ble_eq_true rfl, Nat.le_of_ble_eq_true rfl⟩ (Nat.le_of_ble_eq_true rfl) (fun _ _ _ h => absurd h.2.1 (by omega)) (fun v41 L41 G41 hp41 => ?_)
        obtain ⟨rfl, hne, rfl, t19⟩ := hp41
        exact z_iret hZ rfl (Nat.le_of_ble_eq_true rfl) (Nat.le_of_ble_eq_true rfl) dX7_changeCaves_44 (by exact ⟨by omega, True.intro, rfl, rfl, _, _, _, t19, lk.save (lk.op ⟨k1, k2⟩) hb.2.2.1.2, un_s⟩)
      · exact z_throw hZ hfl rfl (Or.inr ⟨rfl, rfl, rfl⟩) dX7_changeCaves_11 dX7_changeCaves_14 dX7_changeCaves_15 dX7_changeCaves_17 dX7_changeCaves_20 cl_X7_40 in_Ax st_140 (Nat.le_of_ble_eq_true rfl) (Nat.le_of_ble_eq_true rfl) (Nat.le_of_ble_eq_true rfl) ⟨Nat.le_of_ble_eq_true rfl, Nat.le_of_ble_eq_true rfl⟩ (by exact ⟨Or.inl ⟨rfl, by omega⟩, rfl, fi, W, D, hb, hl, hk⟩)
  exact hgo

