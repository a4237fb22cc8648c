/-! STATE: deeds on the scroll alone. -/
set_option maxRecDepth 100000 in
set_option maxHeartbeats 4000000 in
theorem m_X5_goPlace (l : Launch) {L : List Nat} {F : Nat → PE} {sa : Nat → Nat} {v : Int → Int} {kd q : Int} (hj : ij sa) (hL : inL L sa) (t : stP L F sa v kd) (hq : -2147483648 ≤ q ∧ q ≤ 2147483647) : PM l yX5_goPlace cX5_goPlace 3 (some .int) (rm 3 0 0) L [.ref (sa 0), .int (iI q)] F (fun v9 L1 F1 => v9 = some (.int (iI (if 0 ≤ q ∧ q ≤ v 0 then v 1 else -1))) ∧ L = L1 ∧ (if 0 ≤ q ∧ q ≤ v 0 then stP L F1 sa (vGo q v) 0 else F1 = F) ∧ fS sa F F1) (fun _ _ _ => False) := by
  refine pm_of cd_X5_goPlace (by decide +kernel) (Nat.le_of_ble_eq_true rfl) (fun ZZ hZ => ?_)
  have hgo : ZZ 0 0 0 [some (.ref (sa 0)), some (.int (iI q)), none] [] L F := by
    obtain ⟨π, hl, hf, w, r, tt, hS, hR, hh, hA, he, hO, hi⟩ := t
    have l0 := hL 0 (by omega)
    have l1 := hL 1 (by omega)
    have l2 := hL 2 (by omega)
    have hSc := hS.2.1
    have hT := hS.2.2.1.2.1
    have hn := hS.2.2.1.2.2.2.1
    have hm := hR.2.2.2.2.2.1
    have ru : RU v (vGo q v) := fun x hx => wu_n (by omega)
    refine z_iload_n1 hZ dX5_goPlace_0 ?_
    refine z_if_lt hZ (tgt := 18) dX5_goPlace_1 rfl (by omega) (fun hc1 => ?_) (fun hc1 => ?_)
    · refine z_iconst hZ dX5_goPlace_18 ?_
      exact z_iret hZ rfl (Nat.le_of_ble_eq_true rfl) (Nat.le_of_ble_eq_true rfl) dX5_goPlace_19 (by exact ⟨pv (if_neg (by omega)).symm, rfl, by rw [if_neg (by omega)], fS.rf⟩)
    · refine z_iload_n1 hZ dX5_goPlace_4 ?_
      refine z_aload_n0 hZ dX5_goPlace_5 ?_
      refine z_gf_X5_scroll hZ dX5_goPlace_6 fl_X5_12 (by assumption) (by assumption) ?_
      refine z_gf_X4_text hZ dX5_goPlace_9 fl_X5_111 (by assumption) (by assumption) ?_
      refine z_cV hZ (As := []) rfl dX5_goPlace_12 ml_X5_126 wy_X6_count (m_X6_count l hS.2.2.1) (by assumption) (by assumption) rfl ⟨Nat.le_of_ble_eq_true rfl, Nat.le_of_ble_eq_true rfl⟩ ⟨Nat.le_of_ble_eq_true rfl, Nat.le_of_ble_eq_true rfl⟩ (Nat.le_of_ble_eq_true rfl) (fun _ _ _ h => h.elim) (fun v12 L12 G12 hp12 => ?_)
      obtain ⟨rfl, rfl, rfl⟩ := hp12
      refine z_icmp_le hZ (tgt := 20) dX5_goPlace_15 rfl (by omega) (fun hc15 => ?_) (fun hc15 => ?_)
      · refine z_aload_n0 hZ dX5_goPlace_20 ?_
        refine z_gf_X5_scroll hZ dX5_goPlace_21 fl_X5_12 (by assumption) (by assumption) ?_
        refine z_gf_X4_point hZ dX5_goPlace_24 fl_X5_49 (by assumption) (by assumption) ?_
        refine z_istore_n2 hZ dX5_goPlace_27 (by decide) rfl ?_
        refine z_aload_n0 hZ dX5_goPlace_28 ?_
        refine z_gf_X5_scroll hZ dX5_goPlace_29 fl_X5_12 (by assumption) (by assumption) ?_
        refine z_iload_n1 hZ dX5_goPlace_32 ?_
        refine z_pf_X4_point hZ dX5_goPlace_33 fl_X5_49 (by assumption) (by assumption) (fun F33 hF33 hf33 => ?_)
        have hO := (f1 hj (by omega) hf33 (i := 0) (by omega) (by omega)).trans hO
        refine z_aload_n0 hZ dX5_goPlace_36 ?_
        refine z_iconst hZ dX5_goPlace_37 ?_
        refine z_pf_X5_kind hZ dX5_goPlace_38 fl_X5_32 (by assumption) (by assumption) (fun F38 hF38 hf38 => ?_)
        refine z_iload_n2 hZ dX5_goPlace_41 ?_
        exact z_iret hZ rfl (Nat.le_of_ble_eq_true rfl) (Nat.le_of_ble_eq_true rfl) dX5_goPlace_42 (by
            refine ⟨pv (if_pos (by omega)).symm, rfl, ?_, (s1 (by omega) hf33).tr (s1 (by omega) hf38)⟩
            rw [if_pos (by omega)]
            exact stP.sw ((hS.pt hj hF33 hf33 (by have := hS.2.2.2; omega)).m1 hj (by omega) (by omega) hf38) ((hR.m1 hj (by omega) hf33).m1 hj (by omega) hf38) hh ((f1 hj (by omega) hf38 (by omega) (by omega)).trans ((f1 hj (by omega) hf33 (by omega) (by omega)).trans hA)) hF38 ru (wu_n (by decide)) wu_s (wu_n (by decide)) (fun k _ _ => wu_n (by omega)) (wu_n (by decide)) (wu_n (by decide)) (wu_n (by decide)) ⟨he.1, he.2⟩ (hi.ru ru (by omega)))
      · refine z_iconst hZ dX5_goPlace_18 ?_
        exact z_iret hZ rfl (Nat.le_of_ble_eq_true rfl) (Nat.le_of_ble_eq_true rfl) dX5_goPlace_19 (by exact ⟨pv (if_neg (by omega)).symm, rfl, by rw [if_neg (by omega)], fS.rf⟩)
  exact hgo
set_option maxRecDepth 100000 in
set_option maxHeartbeats 4000000 in
theorem m_X5_goAsFarAs (l : Launch) {L : List Nat} {F : Nat → PE} {sa : Nat → Nat} {v : Int → Int} {kd q : Int} (hj : ij sa) (hL : inL L sa) (t : stP L F sa v kd) (hq : 0 ≤ q ∧ q ≤ v 0) : PM l yX5_goAsFarAs cX5_goAsFarAs 2 (some .int) (rm 4 0 0) L [.ref (sa 0), .int (iI q)] F (fun v9 L1 F1 => v9 = some (.int (iI (abI (q - v 1)))) ∧ L = L1 ∧ stP L F1 sa (vGo q v) 0 ∧ fS sa F F1) (fun _ _ _ => False) := by
  refine pm_of cd_X5_goAsFarAs (by decide +kernel) (Nat.le_of_ble_eq_true rfl) (fun ZZ hZ => ?_)
  have hgo : ZZ 0 0 0 [some (.ref (sa 0)), some (.int (iI q))] [] L F := by
    have t' := t
    obtain ⟨π, hl, hf, w, r, tt, hS, hR, hh, hA, he, hO, hi⟩ := t
    have l0 := hL 0 (by omega)
    have hn := hS.2.2.1.2.2.2.1
    have hp := hS.2.2.2.1
    refine z_iload_n1 hZ dX5_goAsFarAs_0 ?_
    refine z_aload_n0 hZ dX5_goAsFarAs_1 ?_
    refine z_iload_n1 hZ dX5_goAsFarAs_2 ?_
    refine z_cV hZ (As := [_]) rfl dX5_goAsFarAs_3 ml_X5_52 wy_X5_goPlace (m_X5_goPlace l hj hL t' (by omega)) (by assumption) (by assumption) rfl ⟨Nat.le_of_ble_eq_true rfl, Nat.le_of_ble_eq_true rfl⟩ ⟨Nat.le_of_ble_eq_true rfl, Nat.le_of_ble_eq_true rfl⟩ (Nat.le_of_ble_eq_true rfl) (fun _ _ _ h => h.elim) (fun v3 L3 G3 hp3 => ?_)
    obtain ⟨rfl, rfl, t3, f3⟩ := hp3
    rw [if_pos hq] at t3 ⊢
    refine z_isub hZ dX5_goAsFarAs_6 ?_
    refine z_abs hZ dX5_goAsFarAs_7 ml_X5_149 (by omega) (Nat.le_of_ble_eq_true rfl) (Nat.le_of_ble_eq_true rfl) (Nat.le_of_ble_eq_true rfl) ⟨Nat.le_of_ble_eq_true rfl, Nat.le_of_ble_eq_true rfl⟩ ?_
    exact z_iret hZ rfl (Nat.le_of_ble_eq_true rfl) (Nat.le_of_ble_eq_true rfl) dX5_goAsFarAs_10 (by exact ⟨rfl, rfl, t3, f3⟩)
  exact hgo
set_option maxRecDepth 100000 in
set_option maxHeartbeats 4000000 in
theorem m_X5_goWordOn (l : Launch) {L : List Nat} {F : Nat → PE} {sa : Nat → Nat} {v : Int → Int} {kd : Int} (hj : ij sa) (hL : inL L sa) (t : stP L F sa v kd) : PM l yX5_goWordOn cX5_goWordOn 1 (some .int) (rm 5 0 0) L [.ref (sa 0)] F (fun v9 L1 F1 => v9 = some (.int (iI (abI (wS (v 0) (fT v) (v 1) - v 1)))) ∧ L = L1 ∧ stP L F1 sa (vGo (wS (v 0) (fT v) (v 1)) v) 0 ∧ fS sa F F1) (fun _ _ _ => False) := by
  refine pm_of cd_X5_goWordOn (by decide +kernel) (Nat.le_of_ble_eq_true rfl) (fun ZZ hZ => ?_)
  have hgo : ZZ 0 0 0 [some (.ref (sa 0))] [] L F := by
    have t' := t
    obtain ⟨π, hl, hf, w, r, tt, hS, hR, hh, hA, he, hO, hi⟩ := t
    have l0 := hL 0 (by omega)
    have l1 := hL 1 (by omega)
    have hSc := hS.2.1
    have hp := hS.2.2.2.1
    have hg := wS_rg (n := v 0) (f := fT v) (p := v 1) (by omega)
    refine z_aload_n0 hZ dX5_goWordOn_0 ?_
    refine z_aload_n0 hZ dX5_goWordOn_1 ?_
    refine z_gf_X5_scroll hZ dX5_goWordOn_2 fl_X5_12 (by assumption) (by assumption) ?_
    refine z_aload_n0 hZ dX5_goWordOn_5 ?_
    refine z_gf_X5_scroll hZ dX5_goWordOn_6 fl_X5_12 (by assumption) (by assumption) ?_
    refine z_gf_X4_point hZ dX5_goWordOn_9 fl_X5_49 (by assumption) (by assumption) ?_
    refine z_cV hZ (As := [_]) rfl dX5_goWordOn_12 ml_X5_142 wy_X4_wordStop (m_X4_wordStop l hS (by omega)) (by assumption) (by assumption) rfl ⟨Nat.le_of_ble_eq_true rfl, Nat.le_of_ble_eq_true rfl⟩ ⟨Nat.le_of_ble_eq_true rfl, Nat.le_of_ble_eq_true rfl⟩ (Nat.le_of_ble_eq_true rfl) (fun _ _ _ h => h.elim) (fun v12 L12 G12 hp12 => ?_)
    obtain ⟨rfl, rfl, rfl⟩ := hp12
    refine z_cV hZ (As := [_]) rfl dX5_goWordOn_15 ml_X5_154 wy_X5_goAsFarAs (m_X5_goAsFarAs l hj hL t' (by omega)) (by assumption) (by assumption) rfl ⟨Nat.le_of_ble_eq_true rfl, Nat.le_of_ble_eq_true rfl⟩ ⟨Nat.le_of_ble_eq_true rfl, Nat.le_of_ble_eq_true rfl⟩ (Nat.le_of_ble_eq_true rfl) (fun _ _ _ h => h.elim) (fun v15 L15 G15 hp15 => ?_)
    obtain ⟨rfl, rfl, t15, f15⟩ := hp15
    exact z_iret hZ rfl (Nat.le_of_ble_eq_true rfl) (Nat.le_of_ble_eq_true rfl) dX5_goWordOn_18 (by exact ⟨rfl, rfl, t15, f15⟩)
  exact hgo
set_option maxRecDepth 100000 in
set_option maxHeartbeats 4000000 in
theorem m_X5_goWordBack (l : Launch) {L : List Nat} {F : Nat → PE} {sa : Nat → Nat} {v : Int → Int} {kd : Int} (hj : ij sa) (hL : inL L sa) (t : stP L F sa v kd) : PM l yX5_goWordBack cX5_goWordBack 1 (some .int) (rm 5 0 0) L [.ref (sa 0)] F (fun v9 L1 F1 => v9 = some (.int (iI (abI (wB (v 0) (fT v) (v 1) - v 1)))) ∧ L = L1 ∧ stP L F1 sa (vGo (wB (v 0) (fT v) (v 1)) v) 0 ∧ fS sa F F1) (fun _ _ _ => False) := by
  refine pm_of cd_X5_goWordBack (by decide +kernel) (Nat.le_of_ble_eq_true rfl) (fun ZZ hZ => ?_)
  have hgo : ZZ 0 0 0 [some (.ref (sa 0))] [] L F := by
    have t' := t
    obtain ⟨π, hl, hf, w, r, tt, hS, hR, hh, hA, he, hO, hi⟩ := t
    have l0 := hL 0 (by omega)
    have l1 := hL 1 (by omega)
    have hSc := hS.2.1
    have hp := hS.2.2.2.1
    have hg := wB_rg (n := v 0) (f := fT v) (p := v 1) (by omega)
    refine z_aload_n0 hZ dX5_goWordBack_0 ?_
    refine z_aload_n0 hZ dX5_goWordBack_1 ?_
    refine z_gf_X5_scroll hZ dX5_goWordBack_2 fl_X5_12 (by assumption) (by assumption) ?_
    refine z_aload_n0 hZ dX5_goWordBack_5 ?_
    refine z_gf_X5_scroll hZ dX5_goWordBack_6 fl_X5_12 (by assumption) (by assumption) ?_
    refine z_gf_X4_point hZ dX5_goWordBack_9 fl_X5_49 (by assumption) (by assumption) ?_
    refine z_cV hZ (As := [_]) rfl dX5_goWordBack_12 ml_X5_157 wy_X4_wordStart (m_X4_wordStart l hS (by omega)) (by assumption) (by assumption) rfl ⟨Nat.le_of_ble_eq_true rfl, Nat.le_of_ble_eq_true rfl⟩ ⟨Nat.le_of_ble_eq_true rfl, Nat.le_of_ble_eq_true rfl⟩ (Nat.le_of_ble_eq_true rfl) (fun _ _ _ h => h.elim) (fun v12 L12 G12 hp12 => ?_)
    obtain ⟨rfl, rfl, rfl⟩ := hp12
    refine z_cV hZ (As := [_]) rfl dX5_goWordBack_15 ml_X5_154 wy_X5_goAsFarAs (m_X5_goAsFarAs l hj hL t' (by omega)) (by assumption) (by assumption) rfl ⟨Nat.le_of_ble_eq_true rfl, Nat.le_of_ble_eq_true rfl⟩ ⟨Nat.le_of_ble_eq_true rfl, Nat.le_of_ble_eq_true rfl⟩ (Nat.le_of_ble_eq_true rfl) (fun _ _ _ h => h.elim) (fun v15 L15 G15 hp15 => ?_)
    obtain ⟨rfl, rfl, t15, f15⟩ := hp15
    exact z_iret hZ rfl (Nat.le_of_ble_eq_true rfl) (Nat.le_of_ble_eq_true rfl) dX5_goWordBack_18 (by exact ⟨rfl, rfl, t15, f15⟩)
  exact hgo
set_option maxRecDepth 100000 in
set_option maxHeartbeats 4000000 in
theorem m_X5_goLineStart (l : Launch) {L : List Nat} {F : Nat → PE} {sa : Nat → Nat} {v : Int → Int} {kd : Int} (hj : ij sa) (hL : inL L sa) (t : stP L F sa v kd) : PM l yX5_goLineStart cX5_goLineStart 1 (some .int) (rm 5 0 0) L [.ref (sa 0)] F (fun v9 L1 F1 => v9 = some (.int (iI (abI (lB (v 0) (fT v) (v 1) - v 1)))) ∧ L = L1 ∧ stP L F1 sa (vGo (lB (v 0) (fT v) (v 1)) v) 0 ∧ fS sa F F1) (fun _ _ _ => False) := by
  refine pm_of cd_X5_goLineStart (by decide +kernel) (Nat.le_of_ble_eq_true rfl) (fun ZZ hZ => ?_)
  have hgo : ZZ 0 0 0 [some (.ref (sa 0))] [] L F := by
    have t' := t
    obtain ⟨π, hl, hf, w, r, tt, hS, hR, hh, hA, he, hO, hi⟩ := t
    have l0 := hL 0 (by omega)
    have l1 := hL 1 (by omega)
    have hSc := hS.2.1
    have hp := hS.2.2.2.1
    have hg := lB_rg (n := v 0) (f := fT v) (p := v 1) (by omega)
    refine z_aload_n0 hZ dX5_goLineStart_0 ?_
    refine z_aload_n0 hZ dX5_goLineStart_1 ?_
    refine z_gf_X5_scroll hZ dX5_goLineStart_2 fl_X5_12 (by assumption) (by assumption) ?_
    refine z_aload_n0 hZ dX5_goLineStart_5 ?_
    refine z_gf_X5_scroll hZ dX5_goLineStart_6 fl_X5_12 (by assumption) (by assumption) ?_
    refine z_gf_X4_point hZ dX5_goLineStart_9 fl_X5_49 (by assumption) (by assumption) ?_
    refine z_cV hZ (As := [_]) rfl dX5_goLineStart_12 ml_X5_160 wy_X4_lineStart (m_X4_lineStart l hS (by omega)) (by assumption) (by assumption) rfl ⟨Nat.le_of_ble_eq_true rfl, Nat.le_of_ble_eq_true rfl⟩ ⟨Nat.le_of_ble_eq_true rfl, Nat.le_of_ble_eq_true rfl⟩ (Nat.le_of_ble_eq_true rfl) (fun _ _ _ h => h.elim) (fun v12 L12 G12 hp12 => ?_)
    obtain ⟨rfl, rfl, rfl⟩ := hp12
    refine z_cV hZ (As := [_]) rfl dX5_goLineStart_15 ml_X5_154 wy_X5_goAsFarAs (m_X5_goAsFarAs l hj hL t' (by omega)) (by assumption) (by assumption) rfl ⟨Nat.le_of_ble_eq_true rfl, Nat.le_of_ble_eq_true rfl⟩ ⟨Nat.le_of_ble_eq_true rfl, Nat.le_of_ble_eq_true rfl⟩ (Nat.le_of_ble_eq_true rfl) (fun _ _ _ h => h.elim) (fun v15 L15 G15 hp15 => ?_)
    obtain ⟨rfl, rfl, t15, f15⟩ := hp15
    exact z_iret hZ rfl (Nat.le_of_ble_eq_true rfl) (Nat.le_of_ble_eq_true rfl) dX5_goLineStart_18 (by exact ⟨rfl, rfl, t15, f15⟩)
  exact hgo
set_option maxRecDepth 100000 in
set_option maxHeartbeats 4000000 in
theorem m_X5_goLineStop (l : Launch) {L : List Nat} {F : Nat → PE} {sa : Nat → Nat} {v : Int → Int} {kd : Int} (hj : ij sa) (hL : inL L sa) (t : stP L F sa v kd) : PM l yX5_goLineStop cX5_goLineStop 1 (some .int) (rm 5 0 0) L [.ref (sa 0)] F (fun v9 L1 F1 => v9 = some (.int (iI (abI (lE (v 0) (fT v) (v 1) - v 1)))) ∧ L = L1 ∧ stP L F1 sa (vGo (lE (v 0) (fT v) (v 1)) v) 0 ∧ fS sa F F1) (fun _ _ _ => False) := by
  refine pm_of cd_X5_goLineStop (by decide +kernel) (Nat.le_of_ble_eq_true rfl) (fun ZZ hZ => ?_)
  have hgo : ZZ 0 0 0 [some (.ref (sa 0))] [] L F := by
    have t' := t
    obtain ⟨π, hl, hf, w, r, tt, hS, hR, hh, hA, he, hO, hi⟩ := t
    have l0 := hL 0 (by omega)
    have l1 := hL 1 (by omega)
    have hSc := hS.2.1
    have hp := hS.2.2.2.1
    have hg := lE_rg (n := v 0) (f := fT v) (p := v 1) (by omega)
    refine z_aload_n0 hZ dX5_goLineStop_0 ?_
    refine z_aload_n0 hZ dX5_goLineStop_1 ?_
    refine z_gf_X5_scroll hZ dX5_goLineStop_2 fl_X5_12 (by assumption) (by assumption) ?_
    refine z_aload_n0 hZ dX5_goLineStop_5 ?_
    refine z_gf_X5_scroll hZ dX5_goLineStop_6 fl_X5_12 (by assumption) (by assumption) ?_
    refine z_gf_X4_point hZ dX5_goLineStop_9 fl_X5_49 (by assumption) (by assumption) ?_
    refine z_cV hZ (As := [_]) rfl dX5_goLineStop_12 ml_X5_163 wy_X4_lineStop (m_X4_lineStop l hS (by omega)) (by assumption) (by assumption) rfl ⟨Nat.le_of_ble_eq_true rfl, Nat.le_of_ble_eq_true rfl⟩ ⟨Nat.le_of_ble_eq_true rfl, Nat.le_of_ble_eq_true rfl⟩ (Nat.le_of_ble_eq_true rfl) (fun _ _ _ h => h.elim) (fun v12 L12 G12 hp12 => ?_)
    obtain ⟨rfl, rfl, rfl⟩ := hp12
    refine z_cV hZ (As := [_]) rfl dX5_goLineStop_15 ml_X5_154 wy_X5_goAsFarAs (m_X5_goAsFarAs l hj hL t' (by omega)) (by assumption) (by assumption) rfl ⟨Nat.le_of_ble_eq_true rfl, Nat.le_of_ble_eq_true rfl⟩ ⟨Nat.le_of_ble_eq_true rfl, Nat.le_of_ble_eq_true rfl⟩ (Nat.le_of_ble_eq_true rfl) (fun _ _ _ h => h.elim) (fun v15 L15 G15 hp15 => ?_)
    obtain ⟨rfl, rfl, t15, f15⟩ := hp15
    exact z_iret hZ rfl (Nat.le_of_ble_eq_true rfl) (Nat.le_of_ble_eq_true rfl) dX5_goLineStop_18 (by exact ⟨rfl, rfl, t15, f15⟩)
  exact hgo
set_option maxRecDepth 100000 in
set_option maxHeartbeats 4000000 in
theorem m_X5_setMark (l : Launch) {L : List Nat} {F : Nat → PE} {sa : Nat → Nat} {v : Int → Int} {kd : Int} (hj : ij sa) (hL : inL L sa) (t : stP L F sa v kd) : PM l yX5_setMark cX5_setMark 1 (some .int) (rm 1 0 0) L [.ref (sa 0)] F (fun v9 L1 F1 => v9 = some (.int (iI (v 1))) ∧ L = L1 ∧ stP L F1 sa (vMk v) 0 ∧ fS sa F F1) (fun _ _ _ => False) := by
  refine pm_of cd_X5_setMark (by decide +kernel) (Nat.le_of_ble_eq_true rfl) (fun ZZ hZ => ?_)
  have hgo : ZZ 0 0 0 [some (.ref (sa 0))] [] L F := by
    obtain ⟨π, hl, hf, w, r, tt, hS, hR, hh, hA, he, hO, hi⟩ := t
    have l0 := hL 0 (by omega)
    have l1 := hL 1 (by omega)
    have hSc := hS.2.1
    have hp := hS.2.2.2.1
    have hm := hR.2.2.2.2.2.1
    have ru : RU v (vMk v) := fun x hx => wu_n (by omega)
    refine z_aload_n0 hZ dX5_setMark_0 ?_
    refine z_gf_X5_scroll hZ dX5_setMark_1 fl_X5_12 (by assumption) (by assumption) ?_
    refine z_aload_n0 hZ dX5_setMark_4 ?_
    refine z_gf_X5_scroll hZ dX5_setMark_5 fl_X5_12 (by assumption) (by assumption) ?_
    refine z_gf_X4_point hZ dX5_setMark_8 fl_X5_49 (by assumption) (by assumption) ?_
    refine z_pf_X4_mark hZ dX5_setMark_11 fl_X5_173 (by assumption) (by assumption) (fun F11 hF11 hf11 => ?_)
    have hO := (f1 hj (by omega) hf11 (i := 0) (by omega) (by omega)).trans hO
    refine z_aload_n0 hZ dX5_setMark_14 ?_
    refine z_iconst hZ dX5_setMark_15 ?_
    refine z_pf_X5_kind hZ dX5_setMark_16 fl_X5_32 (by assumption) (by assumption) (fun F16 hF16 hf16 => ?_)
    have hF11o := hF11
    have hF11 := (f1 hj (by omega) hf16 (i := 1) (by omega) (by omega)).trans hF11
    refine z_aload_n0 hZ dX5_setMark_19 ?_
    refine z_gf_X5_scroll hZ dX5_setMark_20 fl_X5_12 (by assumption) (by assumption) ?_
    refine z_gf_X4_mark hZ dX5_setMark_23 fl_X5_173 (by assumption) (by assumption) ?_
    exact z_iret hZ rfl (Nat.le_of_ble_eq_true rfl) (Nat.le_of_ble_eq_true rfl) dX5_setMark_26 (by
            refine ⟨rfl, rfl, ?_, (s1 (by omega) hf11).tr (s1 (by omega) hf16)⟩
            exact stP.sw ((hS.pt hj hF11o hf11 (by have := hS.2.2.2; omega)).m1 hj (by omega) (by omega) hf16) ((hR.m1 hj (by omega) hf11).m1 hj (by omega) hf16) hh ((f1 hj (by omega) hf16 (by omega) (by omega)).trans ((f1 hj (by omega) hf11 (by omega) (by omega)).trans hA)) hF16 ru (wu_n (by decide)) (wu_n (by decide)) wu_s (fun k _ _ => wu_n (by omega)) (wu_n (by decide)) (wu_n (by decide)) (wu_n (by decide)) ⟨he.1, he.2⟩ (hi.ru ru (by omega)))
  exact hgo
set_option maxRecDepth 100000 in
set_option maxHeartbeats 4000000 in
theorem m_X5_exchangeBoth (l : Launch) {L : List Nat} {F : Nat → PE} {sa : Nat → Nat} {v : Int → Int} {kd : Int} (hj : ij sa) (hL : inL L sa) (t : stP L F sa v kd) : PM l yX5_exchangeBoth cX5_exchangeBoth 2 (some .int) (rm 1 0 0) L [.ref (sa 0)] F (fun v9 L1 F1 => v9 = some (.int (iI (if v 2 = -1 then -1 else v 2))) ∧ L = L1 ∧ (if v 2 = -1 then F1 = F else stP L F1 sa (vEx v) 0) ∧ fS sa F F1) (fun _ _ _ => False) := by
  refine pm_of cd_X5_exchangeBoth (by decide +kernel) (Nat.le_of_ble_eq_true rfl) (fun ZZ hZ => ?_)
  have hgo : ZZ 0 0 0 [some (.ref (sa 0)), none] [] L F := by
    obtain ⟨π, hl, hf, w, r, tt, hS, hR, hh, hA, he, hO, hi⟩ := t
    have l0 := hL 0 (by omega)
    have l1 := hL 1 (by omega)
    have hSc := hS.2.1
    have hn := hS.2.2.1.2.2.2.1
    have hp := hS.2.2.2
    have hm := hR.2.2.2.2.2.1
    have ru : RU v (vEx v) := fun x hx => (wu_n (by omega)).trans (wu_n (by omega))
    refine z_aload_n0 hZ dX5_exchangeBoth_0 ?_
    refine z_gf_X5_scroll hZ dX5_exchangeBoth_1 fl_X5_12 (by assumption) (by assumption) ?_
    refine z_gf_X4_mark hZ dX5_exchangeBoth_4 fl_X5_173 (by assumption) (by assumption) ?_
    refine z_iconst hZ dX5_exchangeBoth_7 ?_
    refine z_icmp_ne hZ (tgt := 13) dX5_exchangeBoth_8 rfl (by omega) (fun hc8 => ?_) (fun hc8 => ?_)
    · refine z_aload_n0 hZ dX5_exchangeBoth_13 ?_
      refine z_gf_X5_scroll hZ dX5_exchangeBoth_14 fl_X5_12 (by assumption) (by assumption) ?_
      refine z_gf_X4_mark hZ dX5_exchangeBoth_17 fl_X5_173 (by assumption) (by assumption) ?_
      refine z_istore_n1 hZ dX5_exchangeBoth_20 (by decide) rfl ?_
      refine z_aload_n0 hZ dX5_exchangeBoth_21 ?_
      refine z_gf_X5_scroll hZ dX5_exchangeBoth_22 fl_X5_12 (by assumption) (by assumption) ?_
      refine z_aload_n0 hZ dX5_exchangeBoth_25 ?_
      refine z_gf_X5_scroll hZ dX5_exchangeBoth_26 fl_X5_12 (by assumption) (by assumption) ?_
      refine z_gf_X4_point hZ dX5_exchangeBoth_29 fl_X5_49 (by assumption) (by assumption) ?_
      refine z_pf_X4_mark hZ dX5_exchangeBoth_32 fl_X5_173 (by assumption) (by assumption) (fun F32 hF32 hf32 => ?_)
      have hO := (f1 hj (by omega) hf32 (i := 0) (by omega) (by omega)).trans hO
      refine z_aload_n0 hZ dX5_exchangeBoth_35 ?_
      refine z_gf_X5_scroll hZ dX5_exchangeBoth_36 fl_X5_12 (by assumption) (by assumption) ?_
      refine z_iload_n1 hZ dX5_exchangeBoth_39 ?_
      refine z_pf_X4_point hZ dX5_exchangeBoth_40 fl_X5_49 (by assumption) (by assumption) (fun F40 hF40 hf40 => ?_)
      have hO := (f1 hj (by omega) hf40 (i := 0) (by omega) (by omega)).trans hO
      refine z_aload_n0 hZ dX5_exchangeBoth_43 ?_
      refine z_iconst hZ dX5_exchangeBoth_44 ?_
      refine z_pf_X5_kind hZ dX5_exchangeBoth_45 fl_X5_32 (by assumption) (by assumption) (fun F45 hF45 hf45 => ?_)
      refine z_iload_n1 hZ dX5_exchangeBoth_48 ?_
      exact z_iret hZ rfl (Nat.le_of_ble_eq_true rfl) (Nat.le_of_ble_eq_true rfl) dX5_exchangeBoth_49 (by
            refine ⟨pv (if_neg hc8).symm, rfl, ?_, ((s1 (by omega) hf32).tr (s1 (by omega) hf40)).tr (s1 (by omega) hf45)⟩
            rw [if_neg hc8]
            exact stP.sw (((hS.pt hj hF32 hf32 (by omega)).pt hj hF40 hf40 (by omega)).m1 hj (by omega) (by omega) hf45) (((hR.m1 hj (by omega) hf32).m1 hj (by omega) hf40).m1 hj (by omega) hf45) hh ((f1 hj (by omega) hf45 (by omega) (by omega)).trans ((f1 hj (by omega) hf40 (by omega) (by omega)).trans ((f1 hj (by omega) hf32 (by omega) (by omega)).trans hA))) hF45 ru ((wu_n (by decide)).trans (wu_n (by decide))) wu_s ((wu_n (by decide)).trans wu_s) (fun k _ _ => (wu_n (by omega)).trans (wu_n (by omega))) ((wu_n (by decide)).trans (wu_n (by decide))) ((wu_n (by decide)).trans (wu_n (by decide))) ((wu_n (by decide)).trans (wu_n (by decide))) ⟨he.1, he.2⟩ (hi.ru ru (by omega)))
    · refine z_iconst hZ dX5_exchangeBoth_11 ?_
      exact z_iret hZ rfl (Nat.le_of_ble_eq_true rfl) (Nat.le_of_ble_eq_true rfl) dX5_exchangeBoth_12 (by exact ⟨pv (if_pos hc8).symm, rfl, by rw [if_pos hc8], fS.rf⟩)
  exact hgo
set_option maxRecDepth 100000 in
set_option maxHeartbeats 4000000 in
theorem m_X5_goUpOrDown (l : Launch) {L : List Nat} {F : Nat → PE} {sa : Nat → Nat} {v : Int → Int} {kd z : Int} (hj : ij sa) (hL : inL L sa) (t : stP L F sa v kd) (hz : -50 ≤ z ∧ z ≤ 50) : PM l yX5_goUpOrDown cX5_goUpOrDown 4 (some .int) (rm 6 0 0) L [.ref (sa 0), .int (iI z)] F (fun v9 L1 F1 => v9 = some (.int (iI (glA v z))) ∧ L = L1 ∧ (if glA v z = -1 then F1 = F else stP L F1 sa (vGo (glA v z) v) 0) ∧ fS sa F F1) (fun _ _ _ => False) := by
  refine pm_of cd_X5_goUpOrDown (by decide +kernel) (Nat.le_of_ble_eq_true rfl) (fun ZZ hZ => ?_)
  have hgo : ZZ 0 0 0 [some (.ref (sa 0)), some (.int (iI z)), none, none] [] L F := by
    have t' := t
    obtain ⟨π, hl, hf, w, r, tt, hS, hR, hh, hA, he, hO, hi⟩ := t
    have l0 := hL 0 (by omega)
    have l1 := hL 1 (by omega)
    have hSc := hS.2.1
    have hn := hS.2.2.1.2.2.2.1
    have hp := hS.2.2.2.1
    have rg := lsO_rg (n := v 0) (f := fT v) (p := v 1) (z := z) (by omega) (by omega)
    have rb := lB_rg (n := v 0) (f := fT v) (p := v 1) (by omega)
    have re := lE_rg (n := v 0) (f := fT v) (p := lsO (v 0) (fT v) (v 1) z) (by omega)
    refine z_aload_n0 hZ dX5_goUpOrDown_0 ?_
    refine z_gf_X5_scroll hZ dX5_goUpOrDown_1 fl_X5_12 (by assumption) (by assumption) ?_
    refine z_aload_n0 hZ dX5_goUpOrDown_4 ?_
    refine z_gf_X5_scroll hZ dX5_goUpOrDown_5 fl_X5_12 (by assumption) (by assumption) ?_
    refine z_gf_X4_point hZ dX5_goUpOrDown_8 fl_X5_49 (by assumption) (by assumption) ?_
    refine z_iload_n1 hZ dX5_goUpOrDown_11 ?_
    refine z_cV hZ (As := [_, _]) rfl dX5_goUpOrDown_12 ml_X5_166 wy_X4_lineStartOver (m_X4_lineStartOver l hS (by omega) hz) (by assumption) (by assumption) rfl ⟨Nat.le_of_ble_eq_true rfl, Nat.le_of_ble_eq_true rfl⟩ ⟨Nat.le_of_ble_eq_true rfl, Nat.le_of_ble_eq_true rfl⟩ (Nat.le_of_ble_eq_true rfl) (fun _ _ _ h => h.elim) (fun v12 L12 G12 hp12 => ?_)
    obtain ⟨rfl, rfl, rfl⟩ := hp12
    refine z_istore_n2 hZ dX5_goUpOrDown_15 (by decide) rfl ?_
    refine z_iload_n2 hZ dX5_goUpOrDown_16 ?_
    refine z_iconst hZ dX5_goUpOrDown_17 ?_
    refine z_icmp_ne hZ (tgt := 23) dX5_goUpOrDown_18 rfl (by omega) (fun hc18 => ?_) (fun hc18 => ?_)
    · refine z_aload_n0 hZ dX5_goUpOrDown_23 ?_
      refine z_gf_X5_scroll hZ dX5_goUpOrDown_24 fl_X5_12 (by assumption) (by assumption) ?_
      refine z_gf_X4_point hZ dX5_goUpOrDown_27 fl_X5_49 (by assumption) (by assumption) ?_
      refine z_aload_n0 hZ dX5_goUpOrDown_30 ?_
      refine z_gf_X5_scroll hZ dX5_goUpOrDown_31 fl_X5_12 (by assumption) (by assumption) ?_
      refine z_aload_n0 hZ dX5_goUpOrDown_34 ?_
      refine z_gf_X5_scroll hZ dX5_goUpOrDown_35 fl_X5_12 (by assumption) (by assumption) ?_
      refine z_gf_X4_point hZ dX5_goUpOrDown_38 fl_X5_49 (by assumption) (by assumption) ?_
      refine z_cV hZ (As := [_]) rfl dX5_goUpOrDown_41 ml_X5_160 wy_X4_lineStart (m_X4_lineStart l hS (by omega)) (by assumption) (by assumption) rfl ⟨Nat.le_of_ble_eq_true rfl, Nat.le_of_ble_eq_true rfl⟩ ⟨Nat.le_of_ble_eq_true rfl, Nat.le_of_ble_eq_true rfl⟩ (Nat.le_of_ble_eq_true rfl) (fun _ _ _ h => h.elim) (fun v41 L41 G41 hp41 => ?_)
      obtain ⟨rfl, rfl, rfl⟩ := hp41
      refine z_isub hZ dX5_goUpOrDown_44 ?_
      refine z_istore_n3 hZ dX5_goUpOrDown_45 (by decide) rfl ?_
      refine z_aload_n0 hZ dX5_goUpOrDown_46 ?_
      refine z_iload_n2 hZ dX5_goUpOrDown_47 ?_
      refine z_iload_n3 hZ dX5_goUpOrDown_48 ?_
      refine z_iadd hZ dX5_goUpOrDown_49 ?_
      refine z_aload_n0 hZ dX5_goUpOrDown_50 ?_
      refine z_gf_X5_scroll hZ dX5_goUpOrDown_51 fl_X5_12 (by assumption) (by assumption) ?_
      refine z_iload_n2 hZ dX5_goUpOrDown_54 ?_
      refine z_cV hZ (As := [_]) rfl dX5_goUpOrDown_55 ml_X5_163 wy_X4_lineStop (m_X4_lineStop l hS (by omega)) (by assumption) (by assumption) rfl ⟨Nat.le_of_ble_eq_true rfl, Nat.le_of_ble_eq_true rfl⟩ ⟨Nat.le_of_ble_eq_true rfl, Nat.le_of_ble_eq_true rfl⟩ (Nat.le_of_ble_eq_true rfl) (fun _ _ _ h => h.elim) (fun v55 L55 G55 hp55 => ?_)
      obtain ⟨rfl, rfl, rfl⟩ := hp55
      refine z_min hZ dX5_goUpOrDown_58 ml_X5_170 (by omega) (Nat.le_of_ble_eq_true rfl) (Nat.le_of_ble_eq_true rfl) (Nat.le_of_ble_eq_true rfl) ⟨Nat.le_of_ble_eq_true rfl, Nat.le_of_ble_eq_true rfl⟩ ?_
      have e : glA v z = _ := if_neg hc18
      rw [← e]
      have eg : 0 ≤ glA v z ∧ glA v z ≤ v 0 := by rw [e]; split <;> omega
      refine z_cV hZ (As := [_]) rfl dX5_goUpOrDown_61 ml_X5_52 wy_X5_goPlace (m_X5_goPlace l hj hL t' (by omega)) (by assumption) (by assumption) rfl ⟨Nat.le_of_ble_eq_true rfl, Nat.le_of_ble_eq_true rfl⟩ ⟨Nat.le_of_ble_eq_true rfl, Nat.le_of_ble_eq_true rfl⟩ (Nat.le_of_ble_eq_true rfl) (fun _ _ _ h => h.elim) (fun v61 L61 G61 hp61 => ?_)
      obtain ⟨rfl, rfl, t61, f61⟩ := hp61
      rw [if_pos (by omega)] at t61
      obtain ⟨π, hl, hf, w, r, tt, hS, hR, hh, hA, he, hO, hi⟩ := id t61
      have hSc := hS.2.1
      refine z_pop hZ dX5_goUpOrDown_64 rfl ?_
      refine z_aload_n0 hZ dX5_goUpOrDown_65 ?_
      refine z_gf_X5_scroll hZ dX5_goUpOrDown_66 fl_X5_12 (by assumption) (by assumption) ?_
      refine z_gf_X4_point hZ dX5_goUpOrDown_69 fl_X5_49 (by assumption) (by assumption) ?_
      exact z_iret hZ rfl (Nat.le_of_ble_eq_true rfl) (Nat.le_of_ble_eq_true rfl) dX5_goUpOrDown_72 (by exact ⟨pv wu_s, rfl, by rw [if_neg (by omega)]; exact t61, f61⟩)
    · refine z_iconst hZ dX5_goUpOrDown_21 ?_
      exact z_iret hZ rfl (Nat.le_of_ble_eq_true rfl) (Nat.le_of_ble_eq_true rfl) dX5_goUpOrDown_22 (by
            have e : glA v z = -1 := if_pos hc18
            exact ⟨pv e.symm, rfl, by rw [if_pos e], fS.rf⟩)
  exact hgo

