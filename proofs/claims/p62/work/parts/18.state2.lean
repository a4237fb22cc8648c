/-! STATE: what is written, rubbed out, swapped, made great. -/
theorem sc.txt {L : List Nat} {F F1 : Nat → PE} {sa : Nat → Nat} {n p mk n1 : Int} {f g : Int → Int} (hj : ij sa) (t : sc L F (sa 1) (sa 2) (sa 3) n p mk f) (t1 : tx L F1 (sa 2) (sa 3) 200 n1 g) (h : ∀ b, b ≠ sa 2 → b ≠ sa 3 → F1 b = F b) (hr : p ≤ n1 ∧ mk ≤ n1) : sc L F1 (sa 1) (sa 2) (sa 3) n1 p mk g :=
  ⟨t.1, (h _ (hj.ne (by omega) (by omega) (by omega)) (hj.ne (by omega) (by omega) (by omega))).trans t.2.1, t1, ⟨t.2.2.2.1.1, hr.1⟩, t.2.2.2.2.1, hr.2⟩
theorem c23 {sa : Nat → Nat} {F F1 : Nat → PE} (h : ∀ b, b ≠ sa 2 → b ≠ sa 3 → F1 b = F b) : ∀ b, b ≠ sa 1 → b ≠ sa 2 → b ≠ sa 3 → F1 b = F b := fun b _ h2 h3 => h b h2 h3
set_option maxRecDepth 100000 in
set_option maxHeartbeats 4000000 in
theorem m_X5_writeCode (l : Launch) {L : List Nat} {F : Nat → PE} {sa : Nat → Nat} {v : Int → Int} {kd x : Int} (hj : ij sa) (hL : inL L sa) (t : stP L F sa v kd) (hx : 10 ≤ x ∧ x ≤ 126) : PM l yX5_writeCode cX5_writeCode 2 (some .int) (rm 4 0 0) L [.ref (sa 0), .int (iI x)] F (fun v9 L1 F1 => v9 = some (.int (iI (if v 0 < 200 then v 0 + 1 else -1))) ∧ L = L1 ∧ (if v 0 < 200 then stP L F1 sa (vWr x v) 0 else F1 = F) ∧ fS sa F F1) (fun _ _ _ => False) := by
  refine pm_of cd_X5_writeCode (by decide +kernel) (Nat.le_of_ble_eq_true rfl) (fun ZZ hZ => ?_)
  have hgo : ZZ 0 0 0 [some (.ref (sa 0)), some (.int (iI x))] [] L F := by
    obtain ⟨π, hl, hf, w, r, tt, hS, hR, hh, hA, he, hO, hi⟩ := t
    have l0 := hL 0 (by omega)
    have l1 := hL 1 (by omega)
    have l2 := hL 2 (by omega)
    have l8 := hL 8 (by omega)
    have hSc := hS.2.1
    have hT := hS.2.2.1.2.1
    have hn := hS.2.2.1.2.2.2.1
    have hp := hS.2.2.2
    have hm := hR.2.2.2.2.2.1
    refine z_aload_n0 hZ dX5_writeCode_0 ?_
    refine z_gf_X5_scroll hZ dX5_writeCode_1 fl_X5_12 (by assumption) (by assumption) ?_
    refine z_gf_X4_text hZ dX5_writeCode_4 fl_X5_111 (by assumption) (by assumption) ?_
    refine z_cV hZ (As := []) rfl dX5_writeCode_7 ml_X5_115 wy_X6_room (m_X6_room l hS.2.2.1) (by assumption) (by assumption) rfl ⟨Nat.le_of_ble_eq_true rfl, Nat.le_of_ble_eq_true rfl⟩ ⟨Nat.le_of_ble_eq_true rfl, Nat.le_of_ble_eq_true rfl⟩ (Nat.le_of_ble_eq_true rfl) (fun _ _ _ h => h.elim) (fun v7 L7 G7 hp7 => ?_)
    obtain ⟨rfl, rfl, rfl⟩ := hp7
    refine z_iconst hZ dX5_writeCode_10 ?_
    refine z_icmp_ge hZ (tgt := 16) dX5_writeCode_11 rfl (by omega) (fun hc11 => ?_) (fun hc11 => ?_)
    · refine z_aload_n0 hZ dX5_writeCode_16 ?_
      refine z_gf_X5_scroll hZ dX5_writeCode_17 fl_X5_12 (by assumption) (by assumption) ?_
      refine z_iload_n1 hZ dX5_writeCode_20 ?_
      refine z_cV hZ (As := [_]) rfl dX5_writeCode_21 ml_X5_120 wy_X4_writeCode (m_X4_writeCode l hS (by omega) hx) (by assumption) (by assumption) rfl ⟨Nat.le_of_ble_eq_true rfl, Nat.le_of_ble_eq_true rfl⟩ ⟨Nat.le_of_ble_eq_true rfl, Nat.le_of_ble_eq_true rfl⟩ (Nat.le_of_ble_eq_true rfl) (fun _ _ _ h => h.elim) (fun v21 L21 G21 hp21 => ?_)
      obtain ⟨rfl, rfl, s21, f21⟩ := hp21
      have hO := (f3 hj f21 (i := 0) (by omega) (by omega)).trans hO
      have hA := (f3 hj f21 (i := 8) (by omega) (by omega)).trans hA
      refine z_aload_n0 hZ dX5_writeCode_24 ?_
      refine z_gf_X5_accounts hZ dX5_writeCode_25 fl_X5_28 (by assumption) (by assumption) ?_
      refine z_dup hZ dX5_writeCode_28 rfl ?_
      refine z_gf_X0_written hZ dX5_writeCode_29 fl_X5_123 (by assumption) (by assumption) ?_
      refine z_iconst hZ dX5_writeCode_32 ?_
      refine z_iadd hZ dX5_writeCode_33 ?_
      refine z_pf_X0_written hZ dX5_writeCode_34 fl_X5_123 (by assumption) (by assumption) (fun F34 hF34 hf34 => ?_)
      have hO := (f1 hj (by omega) hf34 (i := 0) (by omega) (by omega)).trans hO
      refine z_aload_n0 hZ dX5_writeCode_37 ?_
      refine z_iconst hZ dX5_writeCode_38 ?_
      refine z_pf_X5_kind hZ dX5_writeCode_39 fl_X5_32 (by assumption) (by assumption) (fun F39 hF39 hf39 => ?_)
      have s39 := (s21.m1 hj (by omega) (by omega) hf34).m1 hj (by omega) (by omega) hf39
      have hSc := s39.2.1
      have hT := s39.2.2.1.2.1
      refine z_aload_n0 hZ dX5_writeCode_42 ?_
      refine z_gf_X5_scroll hZ dX5_writeCode_43 fl_X5_12 (by assumption) (by assumption) ?_
      refine z_gf_X4_text hZ dX5_writeCode_46 fl_X5_111 (by assumption) (by assumption) ?_
      refine z_cV hZ (As := []) rfl dX5_writeCode_49 ml_X5_126 wy_X6_count (m_X6_count l s39.2.2.1) (by assumption) (by assumption) rfl ⟨Nat.le_of_ble_eq_true rfl, Nat.le_of_ble_eq_true rfl⟩ ⟨Nat.le_of_ble_eq_true rfl, Nat.le_of_ble_eq_true rfl⟩ (Nat.le_of_ble_eq_true rfl) (fun _ _ _ h => h.elim) (fun v49 L49 G49 hp49 => ?_)
      obtain ⟨rfl, rfl, rfl⟩ := hp49
      exact z_iret hZ rfl (Nat.le_of_ble_eq_true rfl) (Nat.le_of_ble_eq_true rfl) dX5_writeCode_52 (by
            have e8 : vWr x v 8 = v 8 + 1 := (by unfold vWr vPar shR wu; (try dsimp only); (repeat (first | rw [if_pos (by omega)] | rw [if_neg (by omega)])); (first | done | rfl | (congr 1; omega) | (split <;> omega)))
            have ru : RU v (vWr x v) := fun y hy => (by unfold vWr vPar shR wu; (try dsimp only); (repeat (first | rw [if_pos (by omega)] | rw [if_neg (by omega)])); (first | done | rfl | (congr 1; omega) | (split <;> omega)))
            refine ⟨pv (if_pos (by omega)).symm, rfl, ?_, ((s3 f21).tr (s1 (by omega) hf34)).tr (s1 (by omega) hf39)⟩
            rw [if_pos (by omega)]
            exact stP.sw (w := w + 1) s39 (((hR.m3 hj f21).m1 hj (by omega) hf34).m1 hj (by omega) hf39) hh ((f1 hj (by omega) hf39 (by omega) (by omega)).trans hF34) hF39 ru (by unfold vWr vPar shR wu; (try dsimp only); (repeat (first | rw [if_pos (by omega)] | rw [if_neg (by omega)])); (first | done | rfl | (congr 1; omega) | (split <;> omega))) (by unfold vWr vPar shR wu; (try dsimp only); (repeat (first | rw [if_pos (by omega)] | rw [if_neg (by omega)])); (first | done | rfl | (congr 1; omega) | (split <;> omega))) (by unfold vWr vPar shR wu; (try dsimp only); (repeat (first | rw [if_pos (by omega)] | rw [if_neg (by omega)])); (first | done | rfl | (congr 1; omega) | (split <;> omega))) (fun k h0 h1 => by
              unfold insA fT
              by_cases q1 : k < v 1
              · exact (by unfold vWr vPar shR wu; (try dsimp only); (repeat (first | rw [if_pos (by omega)] | rw [if_neg (by omega)])); (first | done | rfl | (congr 1; omega) | (split <;> omega)))
              · by_cases q2 : k = v 1
                · subst q2; exact (by unfold vWr vPar shR wu; (try dsimp only); (repeat (first | rw [if_pos (by omega)] | rw [if_neg (by omega)])); (first | done | rfl | (congr 1; omega) | (split <;> omega)))
                · exact (by unfold vWr vPar shR wu; (try dsimp only); (repeat (first | rw [if_pos (by omega)] | rw [if_neg (by omega)])); (first | done | rfl | (congr 1; omega) | (split <;> omega)))) (by unfold vWr vPar shR wu; (try dsimp only); (repeat (first | rw [if_pos (by omega)] | rw [if_neg (by omega)])); (first | done | rfl | (congr 1; omega) | (split <;> omega))) (by unfold vWr vPar shR wu; (try dsimp only); (repeat (first | rw [if_pos (by omega)] | rw [if_neg (by omega)])); (first | done | rfl | (congr 1; omega) | (split <;> omega))) (by unfold vWr vPar shR wu; (try dsimp only); (repeat (first | rw [if_pos (by omega)] | rw [if_neg (by omega)])); (first | done | rfl | (congr 1; omega) | (split <;> omega))) ⟨by omega, by omega⟩ (hi.ru ru (by omega)))
    · refine z_iconst hZ dX5_writeCode_14 ?_
      exact z_iret hZ rfl (Nat.le_of_ble_eq_true rfl) (Nat.le_of_ble_eq_true rfl) dX5_writeCode_15 (by exact ⟨pv (if_neg (by omega)).symm, rfl, by rw [if_neg (by omega)], fS.rf⟩)
  exact hgo
set_option maxRecDepth 100000 in
set_option maxHeartbeats 4000000 in
theorem m_X5_rubOut (l : Launch) {L : List Nat} {F : Nat → PE} {sa : Nat → Nat} {v : Int → Int} {kd : Int} (hj : ij sa) (hL : inL L sa) (t : stP L F sa v kd) : PM l yX5_rubOut cX5_rubOut 2 (some .int) (rm 4 0 0) L [.ref (sa 0)] F (fun v9 L1 F1 => v9 = some (.int (iI (if 0 < v 1 then v (18 + (v 1 - 1)) else -1))) ∧ L = L1 ∧ (if 0 < v 1 then stP L F1 sa (vRub v) 0 ∧ 10 ≤ v (18 + (v 1 - 1)) ∧ v (18 + (v 1 - 1)) ≤ 126 else F1 = F) ∧ fS sa F F1) (fun _ _ _ => False) := by
  refine pm_of cd_X5_rubOut (by decide +kernel) (Nat.le_of_ble_eq_true rfl) (fun ZZ hZ => ?_)
  have hgo : ZZ 0 0 0 [some (.ref (sa 0)), none] [] L F := by
    obtain ⟨π, hl, hf, w, r, tt, hS, hR, hh, hA, he, hO, hi⟩ := t
    have l0 := hL 0 (by omega)
    have l1 := hL 1 (by omega)
    have l2 := hL 2 (by omega)
    have l8 := hL 8 (by omega)
    have hSc := hS.2.1
    have hT := hS.2.2.1.2.1
    have hn := hS.2.2.1.2.2.2.1
    have hp := hS.2.2.2
    have hm := hR.2.2.2.2.2.1
    have rg := cdA_rg hS.2.2.1 (v 1 - 1)
    have cpos : 0 < v 1 → cdA (v 0) (fT v) (v 1 - 1) = v (18 + (v 1 - 1)) := fun q => cdA_in (by omega)
    have cneg : ¬ 0 < v 1 → cdA (v 0) (fT v) (v 1 - 1) = -1 := fun q => cdA_out (by omega)
    have crg : 0 < v 1 → 10 ≤ v (18 + (v 1 - 1)) ∧ v (18 + (v 1 - 1)) ≤ 126 := fun q => hS.2.2.1.2.2.2.2 (v 1 - 1) (by omega) (by omega)
    refine z_aload_n0 hZ dX5_rubOut_0 ?_
    refine z_gf_X5_scroll hZ dX5_rubOut_1 fl_X5_12 (by assumption) (by assumption) ?_
    refine z_gf_X4_text hZ dX5_rubOut_4 fl_X5_111 (by assumption) (by assumption) ?_
    refine z_aload_n0 hZ dX5_rubOut_7 ?_
    refine z_gf_X5_scroll hZ dX5_rubOut_8 fl_X5_12 (by assumption) (by assumption) ?_
    refine z_gf_X4_point hZ dX5_rubOut_11 fl_X5_49 (by assumption) (by assumption) ?_
    refine z_iconst hZ dX5_rubOut_14 ?_
    refine z_isub hZ dX5_rubOut_15 ?_
    refine z_cV hZ (As := [_]) rfl dX5_rubOut_16 ml_X5_129 wy_X6_code (m_X6_code l hS.2.2.1 (by omega)) (by assumption) (by assumption) rfl ⟨Nat.le_of_ble_eq_true rfl, Nat.le_of_ble_eq_true rfl⟩ ⟨Nat.le_of_ble_eq_true rfl, Nat.le_of_ble_eq_true rfl⟩ (Nat.le_of_ble_eq_true rfl) (fun _ _ _ h => h.elim) (fun v16 L16 G16 hp16 => ?_)
    obtain ⟨rfl, rfl, rfl⟩ := hp16
    refine z_istore_n1 hZ dX5_rubOut_19 (by decide) rfl ?_
    refine z_iload_n1 hZ dX5_rubOut_20 ?_
    refine z_iconst hZ dX5_rubOut_21 ?_
    refine z_icmp_ne hZ (tgt := 27) dX5_rubOut_22 rfl (by omega) (fun hc22 => ?_) (fun hc22 => ?_)
    · have q : 0 < v 1 := Decidable.byContradiction fun q => hc22 (cneg q)
      refine z_aload_n0 hZ dX5_rubOut_27 ?_
      refine z_gf_X5_scroll hZ dX5_rubOut_28 fl_X5_12 (by assumption) (by assumption) ?_
      refine z_aload_n0 hZ dX5_rubOut_31 ?_
      refine z_gf_X5_scroll hZ dX5_rubOut_32 fl_X5_12 (by assumption) (by assumption) ?_
      refine z_gf_X4_point hZ dX5_rubOut_35 fl_X5_49 (by assumption) (by assumption) ?_
      refine z_iconst hZ dX5_rubOut_38 ?_
      refine z_isub hZ dX5_rubOut_39 ?_
      refine z_aload_n0 hZ dX5_rubOut_40 ?_
      refine z_gf_X5_scroll hZ dX5_rubOut_41 fl_X5_12 (by assumption) (by assumption) ?_
      refine z_gf_X4_point hZ dX5_rubOut_44 fl_X5_49 (by assumption) (by assumption) ?_
      refine z_cV hZ (As := [_, _]) rfl dX5_rubOut_47 ml_X5_132 wy_X4_takeOut (m_X4_takeOut l hS (by omega)) (by assumption) (by assumption) rfl ⟨Nat.le_of_ble_eq_true rfl, Nat.le_of_ble_eq_true rfl⟩ ⟨Nat.le_of_ble_eq_true rfl, Nat.le_of_ble_eq_true rfl⟩ (Nat.le_of_ble_eq_true rfl) (fun _ _ _ h => h.elim) (fun v47 L47 G47 hp47 => ?_)
      obtain ⟨rfl, rfl, s47, f47⟩ := hp47
      have hO := (f3 hj f47 (i := 0) (by omega) (by omega)).trans hO
      have hA := (f3 hj f47 (i := 8) (by omega) (by omega)).trans hA
      refine z_aload_n0 hZ dX5_rubOut_50 ?_
      refine z_gf_X5_accounts hZ dX5_rubOut_51 fl_X5_28 (by assumption) (by assumption) ?_
      refine z_dup hZ dX5_rubOut_54 rfl ?_
      refine z_gf_X0_rubbed hZ dX5_rubOut_55 fl_X5_136 (by assumption) (by assumption) ?_
      refine z_iconst hZ dX5_rubOut_58 ?_
      refine z_iadd hZ dX5_rubOut_59 ?_
      refine z_pf_X0_rubbed hZ dX5_rubOut_60 fl_X5_136 (by assumption) (by assumption) (fun F60 hF60 hf60 => ?_)
      have hO := (f1 hj (by omega) hf60 (i := 0) (by omega) (by omega)).trans hO
      refine z_aload_n0 hZ dX5_rubOut_63 ?_
      refine z_iconst hZ dX5_rubOut_64 ?_
      refine z_pf_X5_kind hZ dX5_rubOut_65 fl_X5_32 (by assumption) (by assumption) (fun F65 hF65 hf65 => ?_)
      refine z_iload_n1 hZ dX5_rubOut_68 ?_
      exact z_iret hZ rfl (Nat.le_of_ble_eq_true rfl) (Nat.le_of_ble_eq_true rfl) dX5_rubOut_69 (by
            have e8 : vRub v 8 = v 8 + 1 := (by unfold vRub vTk shL wu; (try dsimp only); (repeat (first | rw [if_pos (by omega)] | rw [if_neg (by omega)])); (first | done | rfl | (congr 1; omega) | (split <;> omega)))
            have ru : RU v (vRub v) := fun y hy => (by unfold vRub vTk shL wu; (try dsimp only); (repeat (first | rw [if_pos (by omega)] | rw [if_neg (by omega)])); (first | done | rfl | (congr 1; omega) | (split <;> omega)))
            refine ⟨pv (by rw [if_pos q, cpos q]), rfl, ?_, ((s3 f47).tr (s1 (by omega) hf60)).tr (s1 (by omega) hf65)⟩
            rw [if_pos q]
            refine ⟨stP.sw (r := r + 1) ((s47.m1 hj (by omega) (by omega) hf60).m1 hj (by omega) (by omega) hf65) (((hR.m3 hj f47).m1 hj (by omega) hf60).m1 hj (by omega) hf65) hh ((f1 hj (by omega) hf65 (by omega) (by omega)).trans hF60) hF65 ru (by unfold vRub vTk shL wu; (try dsimp only); (repeat (first | rw [if_pos (by omega)] | rw [if_neg (by omega)])); (first | done | rfl | (congr 1; omega) | (split <;> omega))) (by unfold vRub vTk shL wu; (try dsimp only); (repeat (first | rw [if_pos (by omega)] | rw [if_neg (by omega)])); (first | done | rfl | (congr 1; omega) | (split <;> omega))) (by unfold vRub vTk shL wu; (try dsimp only); (repeat (first | rw [if_pos (by omega)] | rw [if_neg (by omega)])); (first | done | rfl | (congr 1; omega) | (split <;> omega))) (fun k h0 h1 => by
              unfold delA fT
              by_cases q1 : k < v 1 - 1
              · exact (by unfold vRub vTk shL wu; (try dsimp only); (repeat (first | rw [if_pos (by omega)] | rw [if_neg (by omega)])); (first | done | rfl | (congr 1; omega) | (split <;> omega)))
              · exact (by unfold vRub vTk shL wu; (try dsimp only); (repeat (first | rw [if_pos (by omega)] | rw [if_neg (by omega)])); (first | done | rfl | (congr 1; omega) | (split <;> omega)))) (by unfold vRub vTk shL wu; (try dsimp only); (repeat (first | rw [if_pos (by omega)] | rw [if_neg (by omega)])); (first | done | rfl | (congr 1; omega) | (split <;> omega))) (by unfold vRub vTk shL wu; (try dsimp only); (repeat (first | rw [if_pos (by omega)] | rw [if_neg (by omega)])); (first | done | rfl | (congr 1; omega) | (split <;> omega))) (by unfold vRub vTk shL wu; (try dsimp only); (repeat (first | rw [if_pos (by omega)] | rw [if_neg (by omega)])); (first | done | rfl | (congr 1; omega) | (split <;> omega))) ⟨by omega, by omega⟩ (hi.ru ru (by omega)), crg q⟩)
    · refine z_iconst hZ dX5_rubOut_25 ?_
      exact z_iret hZ rfl (Nat.le_of_ble_eq_true rfl) (Nat.le_of_ble_eq_true rfl) dX5_rubOut_26 (by
            have q : ¬ 0 < v 1 := fun q => by have := cpos q; have := crg q; omega
            exact ⟨pv (if_neg q).symm, rfl, by rw [if_neg q], fS.rf⟩)
  exact hgo
set_option maxRecDepth 100000 in
set_option maxHeartbeats 4000000 in
theorem m_X5_swapBoth (l : Launch) {L : List Nat} {F : Nat → PE} {sa : Nat → Nat} {v : Int → Int} {kd : Int} (hj : ij sa) (hL : inL L sa) (t : stP L F sa v kd) : PM l yX5_swapBoth cX5_swapBoth 3 (some .int) (rm 3 0 0) L [.ref (sa 0)] F (fun v9 L1 F1 => v9 = some (.int (iI (if 0 < v 1 ∧ v 1 < v 0 then v (18 + v 1 - 1) else -1))) ∧ L = L1 ∧ (if 0 < v 1 ∧ v 1 < v 0 then stP L F1 sa (vSwp v) 0 ∧ 10 ≤ v (18 + v 1 - 1) ∧ v (18 + v 1 - 1) ≤ 126 else F1 = F) ∧ fS sa F F1) (fun _ _ _ => False) := by
  refine pm_of cd_X5_swapBoth (by decide +kernel) (Nat.le_of_ble_eq_true rfl) (fun ZZ hZ => ?_)
  have hgo : ZZ 0 0 0 [some (.ref (sa 0)), none, none] [] L F := by
    obtain ⟨π, hl, hf, w, r, tt, hS, hR, hh, hA, he, hO, hi⟩ := t
    have l0 := hL 0 (by omega)
    have l1 := hL 1 (by omega)
    have l2 := hL 2 (by omega)
    have l8 := hL 8 (by omega)
    have hSc := hS.2.1
    have hT := hS.2.2.1.2.1
    have hn := hS.2.2.1.2.2.2.1
    have hp := hS.2.2.2
    have hm := hR.2.2.2.2.2.1
    have rg := cdA_rg hS.2.2.1 (v 1 - 1)
    have rg2 := cdA_rg hS.2.2.1 (v 1)
    have cpos : 0 < v 1 → cdA (v 0) (fT v) (v 1 - 1) = v (18 + v 1 - 1) := fun q => (cdA_in (by omega)).trans (by unfold fT; congr 1; omega)
    have cneg : ¬ 0 < v 1 → cdA (v 0) (fT v) (v 1 - 1) = -1 := fun q => cdA_out (by omega)
    have crg : 0 < v 1 → 10 ≤ cdA (v 0) (fT v) (v 1 - 1) ∧ cdA (v 0) (fT v) (v 1 - 1) ≤ 126 := fun q => by rw [cdA_in (by omega)]; exact hS.2.2.1.2.2.2.2 (v 1 - 1) (by omega) (by omega)
    have dpos : v 1 < v 0 → cdA (v 0) (fT v) (v 1) = v (18 + v 1) := fun q => cdA_in (by omega)
    have dneg : ¬ v 1 < v 0 → cdA (v 0) (fT v) (v 1) = -1 := fun q => cdA_out (by omega)
    have drg : v 1 < v 0 → 10 ≤ cdA (v 0) (fT v) (v 1) ∧ cdA (v 0) (fT v) (v 1) ≤ 126 := fun q => by rw [cdA_in (by omega)]; exact hS.2.2.1.2.2.2.2 (v 1) (by omega) (by omega)
    refine z_aload_n0 hZ dX5_swapBoth_0 ?_
    refine z_gf_X5_scroll hZ dX5_swapBoth_1 fl_X5_12 (by assumption) (by assumption) ?_
    refine z_gf_X4_text hZ dX5_swapBoth_4 fl_X5_111 (by assumption) (by assumption) ?_
    refine z_aload_n0 hZ dX5_swapBoth_7 ?_
    refine z_gf_X5_scroll hZ dX5_swapBoth_8 fl_X5_12 (by assumption) (by assumption) ?_
    refine z_gf_X4_point hZ dX5_swapBoth_11 fl_X5_49 (by assumption) (by assumption) ?_
    refine z_iconst hZ dX5_swapBoth_14 ?_
    refine z_isub hZ dX5_swapBoth_15 ?_
    refine z_cV hZ (As := [_]) rfl dX5_swapBoth_16 ml_X5_129 wy_X6_code (m_X6_code l hS.2.2.1 (by omega)) (by assumption) (by assumption) rfl ⟨Nat.le_of_ble_eq_true rfl, Nat.le_of_ble_eq_true rfl⟩ ⟨Nat.le_of_ble_eq_true rfl, Nat.le_of_ble_eq_true rfl⟩ (Nat.le_of_ble_eq_true rfl) (fun _ _ _ h => h.elim) (fun v16 L16 G16 hp16 => ?_)
    obtain ⟨rfl, rfl, rfl⟩ := hp16
    refine z_istore_n1 hZ dX5_swapBoth_19 (by decide) rfl ?_
    refine z_aload_n0 hZ dX5_swapBoth_20 ?_
    refine z_gf_X5_scroll hZ dX5_swapBoth_21 fl_X5_12 (by assumption) (by assumption) ?_
    refine z_gf_X4_text hZ dX5_swapBoth_24 fl_X5_111 (by assumption) (by assumption) ?_
    refine z_aload_n0 hZ dX5_swapBoth_27 ?_
    refine z_gf_X5_scroll hZ dX5_swapBoth_28 fl_X5_12 (by assumption) (by assumption) ?_
    refine z_gf_X4_point hZ dX5_swapBoth_31 fl_X5_49 (by assumption) (by assumption) ?_
    refine z_cV hZ (As := [_]) rfl dX5_swapBoth_34 ml_X5_129 wy_X6_code (m_X6_code l hS.2.2.1 (by omega)) (by assumption) (by assumption) rfl ⟨Nat.le_of_ble_eq_true rfl, Nat.le_of_ble_eq_true rfl⟩ ⟨Nat.le_of_ble_eq_true rfl, Nat.le_of_ble_eq_true rfl⟩ (Nat.le_of_ble_eq_true rfl) (fun _ _ _ h => h.elim) (fun v34 L34 G34 hp34 => ?_)
    obtain ⟨rfl, rfl, rfl⟩ := hp34
    refine z_istore_n2 hZ dX5_swapBoth_37 (by decide) rfl ?_
    refine z_iload_n1 hZ dX5_swapBoth_38 ?_
    refine z_iconst hZ dX5_swapBoth_39 ?_
    refine z_icmp_eq hZ (tgt := 48) dX5_swapBoth_40 rfl (by omega) (fun hc40 => ?_) (fun hc40 => ?_)
    · refine z_iconst hZ dX5_swapBoth_48 ?_
      exact z_iret hZ rfl (Nat.le_of_ble_eq_true rfl) (Nat.le_of_ble_eq_true rfl) dX5_swapBoth_49 (by
            have q : ¬ (0 < v 1 ∧ v 1 < v 0) := fun q => by have := crg q.1; have := drg q.2; omega
            exact ⟨pv (if_neg q).symm, rfl, by rw [if_neg q], fS.rf⟩)
    · refine z_iload_n2 hZ dX5_swapBoth_43 ?_
      refine z_iconst hZ dX5_swapBoth_44 ?_
      refine z_icmp_ne hZ (tgt := 50) dX5_swapBoth_45 rfl (by omega) (fun hc45 => ?_) (fun hc45 => ?_)
      · have q : 0 < v 1 ∧ v 1 < v 0 := ⟨Decidable.byContradiction fun q => hc40 (cneg q), Decidable.byContradiction fun q => hc45 (dneg q)⟩
        have rc := crg q.1
        have rd := drg q.2
        refine z_aload_n0 hZ dX5_swapBoth_50 ?_
        refine z_gf_X5_scroll hZ dX5_swapBoth_51 fl_X5_12 (by assumption) (by assumption) ?_
        refine z_gf_X4_text hZ dX5_swapBoth_54 fl_X5_111 (by assumption) (by assumption) ?_
        refine z_aload_n0 hZ dX5_swapBoth_57 ?_
        refine z_gf_X5_scroll hZ dX5_swapBoth_58 fl_X5_12 (by assumption) (by assumption) ?_
        refine z_gf_X4_point hZ dX5_swapBoth_61 fl_X5_49 (by assumption) (by assumption) ?_
        refine z_iconst hZ dX5_swapBoth_64 ?_
        refine z_isub hZ dX5_swapBoth_65 ?_
        refine z_iload_n2 hZ dX5_swapBoth_66 ?_
        refine z_cV hZ (As := [_, _]) rfl dX5_swapBoth_67 ml_X5_139 wy_X6_change (m_X6_change l hS.2.2.1 (by omega) rd) (by assumption) (by assumption) rfl ⟨Nat.le_of_ble_eq_true rfl, Nat.le_of_ble_eq_true rfl⟩ ⟨Nat.le_of_ble_eq_true rfl, Nat.le_of_ble_eq_true rfl⟩ (Nat.le_of_ble_eq_true rfl) (fun _ _ _ h => h.elim) (fun v67 L67 G67 hp67 => ?_)
        obtain ⟨rfl, rfl, t67, f67⟩ := hp67
        have s67 := hS.txt hj t67 f67 (by omega)
        have hSc := s67.2.1
        have hT := s67.2.2.1.2.1
        have hO := (f3 hj (c23 f67) (i := 0) (by omega) (by omega)).trans hO
        refine z_aload_n0 hZ dX5_swapBoth_70 ?_
        refine z_gf_X5_scroll hZ dX5_swapBoth_71 fl_X5_12 (by assumption) (by assumption) ?_
        refine z_gf_X4_text hZ dX5_swapBoth_74 fl_X5_111 (by assumption) (by assumption) ?_
        refine z_aload_n0 hZ dX5_swapBoth_77 ?_
        refine z_gf_X5_scroll hZ dX5_swapBoth_78 fl_X5_12 (by assumption) (by assumption) ?_
        refine z_gf_X4_point hZ dX5_swapBoth_81 fl_X5_49 (by assumption) (by assumption) ?_
        refine z_iload_n1 hZ dX5_swapBoth_84 ?_
        refine z_cV hZ (As := [_, _]) rfl dX5_swapBoth_85 ml_X5_139 wy_X6_change (m_X6_change l s67.2.2.1 (by omega) rc) (by assumption) (by assumption) rfl ⟨Nat.le_of_ble_eq_true rfl, Nat.le_of_ble_eq_true rfl⟩ ⟨Nat.le_of_ble_eq_true rfl, Nat.le_of_ble_eq_true rfl⟩ (Nat.le_of_ble_eq_true rfl) (fun _ _ _ h => h.elim) (fun v85 L85 G85 hp85 => ?_)
        obtain ⟨rfl, rfl, t85, f85⟩ := hp85
        have s85 := s67.txt hj t85 f85 (by omega)
        have hSc := s85.2.1
        have hO := (f3 hj (c23 f85) (i := 0) (by omega) (by omega)).trans hO
        refine z_aload_n0 hZ dX5_swapBoth_88 ?_
        refine z_gf_X5_scroll hZ dX5_swapBoth_89 fl_X5_12 (by assumption) (by assumption) ?_
        refine z_dup hZ dX5_swapBoth_92 rfl ?_
        refine z_gf_X4_point hZ dX5_swapBoth_93 fl_X5_49 (by assumption) (by assumption) ?_
        refine z_iconst hZ dX5_swapBoth_96 ?_
        refine z_iadd hZ dX5_swapBoth_97 ?_
        refine z_pf_X4_point hZ dX5_swapBoth_98 fl_X5_49 (by assumption) (by assumption) (fun F98 hF98 hf98 => ?_)
        have hO := (f1 hj (by omega) hf98 (i := 0) (by omega) (by omega)).trans hO
        refine z_aload_n0 hZ dX5_swapBoth_101 ?_
        refine z_iconst hZ dX5_swapBoth_102 ?_
        refine z_pf_X5_kind hZ dX5_swapBoth_103 fl_X5_32 (by assumption) (by assumption) (fun F103 hF103 hf103 => ?_)
        refine z_iload_n1 hZ dX5_swapBoth_106 ?_
        exact z_iret hZ rfl (Nat.le_of_ble_eq_true rfl) (Nat.le_of_ble_eq_true rfl) dX5_swapBoth_107 (by
            have e8 : vSwp v 8 = v 8 := (by unfold vSwp wu; (try dsimp only); (repeat (first | rw [if_pos (by omega)] | rw [if_neg (by omega)])); (first | done | rfl | (congr 1; omega) | (split <;> omega)))
            have ru : RU v (vSwp v) := fun y hy => (by unfold vSwp wu; (try dsimp only); (repeat (first | rw [if_pos (by omega)] | rw [if_neg (by omega)])); (first | done | rfl | (congr 1; omega) | (split <;> omega)))
            refine ⟨pv (by rw [if_pos q, cpos q.1]), rfl, ?_, (((s3 (c23 f67)).tr (s3 (c23 f85))).tr (s1 (by omega) hf98)).tr (s1 (by omega) hf103)⟩
            rw [if_pos q]
            refine ⟨stP.sw ((s85.pt hj hF98 hf98 (by omega)).m1 hj (by omega) (by omega) hf103) ((((hR.m3 hj (c23 f67)).m3 hj (c23 f85)).m1 hj (by omega) hf98).m1 hj (by omega) hf103) hh ((f1 hj (by omega) hf103 (by omega) (by omega)).trans ((f1 hj (by omega) hf98 (by omega) (by omega)).trans ((f3 hj (c23 f85) (by omega) (by omega)).trans ((f3 hj (c23 f67) (by omega) (by omega)).trans hA)))) hF103 ru (by unfold vSwp wu; (try dsimp only); (repeat (first | rw [if_pos (by omega)] | rw [if_neg (by omega)])); (first | done | rfl | (congr 1; omega) | (split <;> omega))) (by unfold vSwp wu; (try dsimp only); (repeat (first | rw [if_pos (by omega)] | rw [if_neg (by omega)])); (first | done | rfl | (congr 1; omega) | (split <;> omega))) (by unfold vSwp wu; (try dsimp only); (repeat (first | rw [if_pos (by omega)] | rw [if_neg (by omega)])); (first | done | rfl | (congr 1; omega) | (split <;> omega))) (fun k h0 h1 => by
              rw [cpos q.1, dpos q.2]
              unfold fT
              by_cases q1 : k = v 1
              · subst q1; exact (by unfold vSwp wu; (try dsimp only); (repeat (first | rw [if_pos (by omega)] | rw [if_neg (by omega)])); (first | done | rfl | (congr 1; omega) | (split <;> omega)))
              · by_cases q2 : k = v 1 - 1
                · subst q2; exact (by unfold vSwp wu; (try dsimp only); (repeat (first | rw [if_pos (by omega)] | rw [if_neg (by omega)])); (first | done | rfl | (congr 1; omega) | (split <;> omega)))
                · exact (by unfold vSwp wu; (try dsimp only); (repeat (first | rw [if_pos (by omega)] | rw [if_neg (by omega)])); (first | done | rfl | (congr 1; omega) | (split <;> omega)))) (by unfold vSwp wu; (try dsimp only); (repeat (first | rw [if_pos (by omega)] | rw [if_neg (by omega)])); (first | done | rfl | (congr 1; omega) | (split <;> omega))) (by unfold vSwp wu; (try dsimp only); (repeat (first | rw [if_pos (by omega)] | rw [if_neg (by omega)])); (first | done | rfl | (congr 1; omega) | (split <;> omega))) (by unfold vSwp wu; (try dsimp only); (repeat (first | rw [if_pos (by omega)] | rw [if_neg (by omega)])); (first | done | rfl | (congr 1; omega) | (split <;> omega))) ⟨by omega, by omega⟩ (hi.ru ru (by omega)), by rw [← cpos q.1]; exact rc⟩)
      · refine z_iconst hZ dX5_swapBoth_48 ?_
        exact z_iret hZ rfl (Nat.le_of_ble_eq_true rfl) (Nat.le_of_ble_eq_true rfl) dX5_swapBoth_49 (by
            have q : ¬ (0 < v 1 ∧ v 1 < v 0) := fun q => by have := crg q.1; have := drg q.2; omega
            exact ⟨pv (if_neg q).symm, rfl, by rw [if_neg q], fS.rf⟩)
  exact hgo
set_option maxRecDepth 100000 in
set_option maxHeartbeats 4000000 in
theorem m_X5_makeGreat (l : Launch) {L : List Nat} {F : Nat → PE} {sa : Nat → Nat} {v : Int → Int} {kd : Int} (hj : ij sa) (hL : inL L sa) (t : stP L F sa v kd) : PM l yX5_makeGreat cX5_makeGreat 4 (some .int) (rm 5 0 0) L [.ref (sa 0)] F (fun v9 L1 F1 => v9 = some (.int (iI (grN v))) ∧ L = L1 ∧ stP L F1 sa (vGrt v) 0 ∧ fS sa F F1) (fun _ _ _ => False) := by
  refine pm_of cd_X5_makeGreat (by decide +kernel) (Nat.le_of_ble_eq_true rfl) (fun ZZ hZ => ?_)
  have hgo : ZZ 0 0 0 [some (.ref (sa 0)), none, none, none] [] L F := by
    obtain ⟨π, hl, hf, w, r, tt, hS, hR, hh, hA, he, hO, hi⟩ := t
    have l0 := hL 0 (by omega)
    have l1 := hL 1 (by omega)
    have l2 := hL 2 (by omega)
    have l8 := hL 8 (by omega)
    have hSc := hS.2.1
    have hn := hS.2.2.1.2.2.2.1
    have hp := hS.2.2.2
    have hm := hR.2.2.2.2.2.1
    obtain ⟨to, hto⟩ : ∃ to, to = wS (v 0) (fT v) (v 1) := ⟨_, rfl⟩
    have rt := wS_rg (n := v 0) (f := fT v) (p := v 1) (by omega)
    rw [← hto] at rt
    have k25 : ∀ (m : Nat) (G : Nat → PE) (j e : Int) (g : Int → Int), v 1 ≤ j → j ≤ to → sc L G (sa 1) (sa 2) (sa 3) (v 0) (v 1) (v 2) g → (∀ k, 0 ≤ k → k < v 0 → g k = if v 1 ≤ k ∧ k < j ∧ smC (fT v k) = true then fT v k - 32 else fT v k) → (∀ b, b ≠ sa 1 → b ≠ sa 2 → b ≠ sa 3 → G b = F b) → e = cn (fun k => smC (fT v k)) j.toNat - cn (fun k => smC (fT v k)) (v 1).toNat → (to - j).toNat < m → ZZ 0 0 25 [some (.ref (sa 0)), some (.int (iI to)), some (.int (iI e)), some (.int (iI j))] [] L G := by
      intro m
      induction m with
      | zero => intro G j e g _ _ _ _ _ _ hm; omega
      | succ m ih =>
        intro G j e g h0 h1 hs hg hfr he2 hm2
        have hO := (f3 hj hfr (i := 0) (by omega) (by omega)).trans hO
        have hSc := hs.2.1
        have hT := hs.2.2.1.2.1
        refine z_iload_n3 hZ dX5_makeGreat_25 ?_
        refine z_iload_n1 hZ dX5_makeGreat_26 ?_
        refine z_icmp_ge hZ (tgt := 75) dX5_makeGreat_27 rfl (by omega) (fun hc27 => ?_) (fun hc27 => ?_)
        · refine z_aload_n0 hZ dX5_makeGreat_75 ?_
          refine z_gf_X5_scroll hZ dX5_makeGreat_76 fl_X5_12 (by assumption) (by assumption) ?_
          refine z_iload_n1 hZ dX5_makeGreat_79 ?_
          refine z_pf_X4_point hZ dX5_makeGreat_80 fl_X5_49 (by assumption) (by assumption) (fun F80 hF80 hf80 => ?_)
          have hO := (f1 hj (by omega) hf80 (i := 0) (by omega) (by omega)).trans hO
          refine z_aload_n0 hZ dX5_makeGreat_83 ?_
          refine z_iconst hZ dX5_makeGreat_84 ?_
          refine z_pf_X5_kind hZ dX5_makeGreat_85 fl_X5_32 (by assumption) (by assumption) (fun F85 hF85 hf85 => ?_)
          refine z_iload_n2 hZ dX5_makeGreat_88 ?_
          exact z_iret hZ rfl (Nat.le_of_ble_eq_true rfl) (Nat.le_of_ble_eq_true rfl) dX5_makeGreat_89 (by
            have jt : j = to := by omega
            have e8 : vGrt v 8 = v 8 := by unfold vGrt vGrT wu; dsimp only; rw [if_neg (by omega), if_neg (by omega)]
            have ru : RU v (vGrt v) := fun y hy => by
              unfold vGrt vGrT wu
              dsimp only
              rw [← hto, if_neg (by omega), if_neg (by omega)]
            refine ⟨pv (by unfold grN; rw [← hto, ← jt]; exact he2), rfl, ?_, ((s3 hfr).tr (s1 (by omega) hf80)).tr (s1 (by omega) hf85)⟩
            exact stP.sw ((hs.pt hj hF80 hf80 (by omega)).m1 hj (by omega) (by omega) hf85) (((hR.m3 hj hfr).m1 hj (by omega) hf80).m1 hj (by omega) hf85) hh ((f1 hj (by omega) hf85 (by omega) (by omega)).trans ((f1 hj (by omega) hf80 (by omega) (by omega)).trans ((f3 hj hfr (by omega) (by omega)).trans hA))) hF85 ru (by unfold vGrt vGrT wu; dsimp only; rw [if_neg (by omega), if_neg (by omega)]) (by unfold vGrt wu; rw [if_pos rfl, ← hto]) (by unfold vGrt vGrT wu; dsimp only; rw [if_neg (by omega), if_neg (by omega)]) (fun k k0 k1 => by
              rw [hg k k0 k1, jt]
              unfold vGrt vGrT wu
              dsimp only
              rw [← hto, if_neg (by omega)]
              by_cases q2 : v 1 ≤ k ∧ k < to ∧ smC (fT v k) = true
              · rw [if_pos q2, if_pos ⟨by omega, by omega, q2.2.2⟩]; rfl
              · rw [if_neg q2, if_neg (fun z => q2 ⟨by omega, by omega, z.2.2⟩)]; rfl) (by unfold vGrt vGrT wu; dsimp only; rw [if_neg (by omega), if_neg (by omega)]) (by unfold vGrt vGrT wu; dsimp only; rw [if_neg (by omega), if_neg (by omega)]) (by unfold vGrt vGrT wu; dsimp only; rw [if_neg (by omega), if_neg (by omega)]) ⟨by omega, by omega⟩ (hi.ru ru (by omega)))
        · have gj : g j = fT v j := by rw [hg j (by omega) (by omega), if_neg (by omega)]
          have ej : cdA (v 0) g j = fT v j := by rw [cdA_in (by omega), gj]
          have es : isS (v 0) g j = smC (fT v j) := by unfold isS; rw [ej]
          refine z_aload_n0 hZ dX5_makeGreat_30 ?_
          refine z_gf_X5_scroll hZ dX5_makeGreat_31 fl_X5_12 (by assumption) (by assumption) ?_
          refine z_iload_n3 hZ dX5_makeGreat_34 ?_
          refine z_cV hZ (As := [_]) rfl dX5_makeGreat_35 ml_X5_145 wy_X4_isSmallAt (m_X4_isSmallAt l hs (by omega)) (by assumption) (by assumption) rfl ⟨Nat.le_of_ble_eq_true rfl, Nat.le_of_ble_eq_true rfl⟩ ⟨Nat.le_of_ble_eq_true rfl, Nat.le_of_ble_eq_true rfl⟩ (Nat.le_of_ble_eq_true rfl) (fun _ _ _ h => h.elim) (fun v35 L35 G35 hp35 => ?_)
          obtain ⟨rfl, rfl, rfl⟩ := hp35
          refine z_if_eq_b hZ (tgt := 69) dX5_makeGreat_38 rfl (fun hc38 => ?_) (fun hc38 => ?_)
          · rw [es] at hc38
            refine z_iinc3 hZ dX5_makeGreat_69 (by decide) rfl ?_
            refine z_goto hZ (tgt := 25) dX5_makeGreat_72 rfl ?_
            first
              | (refine ih _ _ _ _ (by omega) (by omega) (hs.txt hj t63 f63 (by omega)) (fun k k0 k1 => ?_) (fun b b1 b2 b3 => (f63 b b2 b3).trans (hfr b b1 b2 b3)) (by rw [he2, cn_t (P := fun k => smC (fT v k)) (by omega) hc38]; omega) (by omega)
                 unfold wu
                 by_cases q : k = j
                 · subst q; rw [if_pos rfl, if_pos ⟨by omega, by omega, hc38⟩]; rfl
                 · rw [if_neg q, hg k k0 k1]
                   by_cases q2 : v 1 ≤ k ∧ k < j ∧ smC (fT v k) = true
                   · rw [if_pos q2, if_pos ⟨q2.1, by omega, q2.2.2⟩]
                   · rw [if_neg q2, if_neg (fun z => q2 ⟨z.1, by omega, z.2.2⟩)])
              | (refine ih _ _ _ _ (by omega) (by omega) hs (fun k k0 k1 => ?_) hfr (by rw [he2, cn_f (P := fun k => smC (fT v k)) (by omega) hc38]) (by omega)
                 rw [hg k k0 k1]
                 by_cases q2 : v 1 ≤ k ∧ k < j ∧ smC (fT v k) = true
                 · rw [if_pos q2, if_pos ⟨q2.1, by omega, q2.2.2⟩]
                 · by_cases q : k = j
                   · subst q; rw [if_neg q2, if_neg (fun z => hc38 z.2.2)]
                   · rw [if_neg q2, if_neg (fun z => q2 ⟨z.1, by omega, z.2.2⟩)])
          · rw [es] at hc38
            have sm := smC_iff.mp hc38
            refine z_aload_n0 hZ dX5_makeGreat_41 ?_
            refine z_gf_X5_scroll hZ dX5_makeGreat_42 fl_X5_12 (by assumption) (by assumption) ?_
            refine z_gf_X4_text hZ dX5_makeGreat_45 fl_X5_111 (by assumption) (by assumption) ?_
            refine z_iload_n3 hZ dX5_makeGreat_48 ?_
            refine z_aload_n0 hZ dX5_makeGreat_49 ?_
            refine z_gf_X5_scroll hZ dX5_makeGreat_50 fl_X5_12 (by assumption) (by assumption) ?_
            refine z_gf_X4_text hZ dX5_makeGreat_53 fl_X5_111 (by assumption) (by assumption) ?_
            refine z_iload_n3 hZ dX5_makeGreat_56 ?_
            refine z_cV hZ (As := [_]) rfl dX5_makeGreat_57 ml_X5_129 wy_X6_code (m_X6_code l hs.2.2.1 (by omega)) (by assumption) (by assumption) rfl ⟨Nat.le_of_ble_eq_true rfl, Nat.le_of_ble_eq_true rfl⟩ ⟨Nat.le_of_ble_eq_true rfl, Nat.le_of_ble_eq_true rfl⟩ (Nat.le_of_ble_eq_true rfl) (fun _ _ _ h => h.elim) (fun v57 L57 G57 hp57 => ?_)
            obtain ⟨rfl, rfl, rfl⟩ := hp57
            refine z_bipush hZ dX5_makeGreat_60 rfl ?_
            refine z_iadd hZ dX5_makeGreat_62 ?_
            rw [ej]
            refine z_cV hZ (As := [_, _]) rfl dX5_makeGreat_63 ml_X5_139 wy_X6_change (m_X6_change l hs.2.2.1 (by omega) (by omega)) (by assumption) (by assumption) rfl ⟨Nat.le_of_ble_eq_true rfl, Nat.le_of_ble_eq_true rfl⟩ ⟨Nat.le_of_ble_eq_true rfl, Nat.le_of_ble_eq_true rfl⟩ (Nat.le_of_ble_eq_true rfl) (fun _ _ _ h => h.elim) (fun v63 L63 G63 hp63 => ?_)
            obtain ⟨rfl, rfl, t63, f63⟩ := hp63
            refine z_iinc2 hZ dX5_makeGreat_66 (by decide) rfl ?_
            refine z_iinc3 hZ dX5_makeGreat_69 (by decide) rfl ?_
            refine z_goto hZ (tgt := 25) dX5_makeGreat_72 rfl ?_
            first
              | (refine ih _ _ _ _ (by omega) (by omega) (hs.txt hj t63 f63 (by omega)) (fun k k0 k1 => ?_) (fun b b1 b2 b3 => (f63 b b2 b3).trans (hfr b b1 b2 b3)) (by rw [he2, cn_t (P := fun k => smC (fT v k)) (by omega) hc38]; omega) (by omega)
                 unfold wu
                 by_cases q : k = j
                 · subst q; rw [if_pos rfl, if_pos ⟨by omega, by omega, hc38⟩]; rfl
                 · rw [if_neg q, hg k k0 k1]
                   by_cases q2 : v 1 ≤ k ∧ k < j ∧ smC (fT v k) = true
                   · rw [if_pos q2, if_pos ⟨q2.1, by omega, q2.2.2⟩]
                   · rw [if_neg q2, if_neg (fun z => q2 ⟨z.1, by omega, z.2.2⟩)])
              | (refine ih _ _ _ _ (by omega) (by omega) hs (fun k k0 k1 => ?_) hfr (by rw [he2, cn_f (P := fun k => smC (fT v k)) (by omega) hc38]) (by omega)
                 rw [hg k k0 k1]
                 by_cases q2 : v 1 ≤ k ∧ k < j ∧ smC (fT v k) = true
                 · rw [if_pos q2, if_pos ⟨q2.1, by omega, q2.2.2⟩]
                 · by_cases q : k = j
                   · subst q; rw [if_neg q2, if_neg (fun z => hc38 z.2.2)]
                   · rw [if_neg q2, if_neg (fun z => q2 ⟨z.1, by omega, z.2.2⟩)])
    refine z_aload_n0 hZ dX5_makeGreat_0 ?_
    refine z_gf_X5_scroll hZ dX5_makeGreat_1 fl_X5_12 (by assumption) (by assumption) ?_
    refine z_aload_n0 hZ dX5_makeGreat_4 ?_
    refine z_gf_X5_scroll hZ dX5_makeGreat_5 fl_X5_12 (by assumption) (by assumption) ?_
    refine z_gf_X4_point hZ dX5_makeGreat_8 fl_X5_49 (by assumption) (by assumption) ?_
    refine z_cV hZ (As := [_]) rfl dX5_makeGreat_11 ml_X5_142 wy_X4_wordStop (m_X4_wordStop l hS (by omega)) (by assumption) (by assumption) rfl ⟨Nat.le_of_ble_eq_true rfl, Nat.le_of_ble_eq_true rfl⟩ ⟨Nat.le_of_ble_eq_true rfl, Nat.le_of_ble_eq_true rfl⟩ (Nat.le_of_ble_eq_true rfl) (fun _ _ _ h => h.elim) (fun v11 L11 G11 hp11 => ?_)
    obtain ⟨rfl, rfl, rfl⟩ := hp11
    rw [← hto]
    refine z_istore_n1 hZ dX5_makeGreat_14 (by decide) rfl ?_
    refine z_iconst hZ dX5_makeGreat_15 ?_
    refine z_istore_n2 hZ dX5_makeGreat_16 (by decide) rfl ?_
    refine z_aload_n0 hZ dX5_makeGreat_17 ?_
    refine z_gf_X5_scroll hZ dX5_makeGreat_18 fl_X5_12 (by assumption) (by assumption) ?_
    refine z_gf_X4_point hZ dX5_makeGreat_21 fl_X5_49 (by assumption) (by assumption) ?_
    refine z_istore_n3 hZ dX5_makeGreat_24 (by decide) rfl ?_
    exact k25 _ F (v 1) 0 (fT v) (Int.le_refl _) rt.1 hS (fun k _ _ => by rw [if_neg (by omega)]) (fun b _ _ _ => rfl) (by omega) (Nat.lt_succ_self _)
  exact hgo

