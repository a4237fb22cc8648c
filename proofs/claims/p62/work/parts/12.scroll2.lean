/-! SCROLL, 2: what is written, taken out; lines and words counted. -/
def mvA (x i j : Int) : Int := if j ≤ x then x - (j - i) else if i < x then i else x
def abI (x : Int) : Int := if 0 ≤ x then x else 0 - x
def fmA (mk p : Int) : Int := if mk = -1 then -1 else abI (mk - p)
set_option maxRecDepth 100000 in
set_option maxHeartbeats 4000000 in
theorem m_X4_placeThen (l : Launch) {L : List Nat} {F : Nat → PE} {x i j : Int} (hr : -1 ≤ x ∧ x ≤ 1000 ∧ 0 ≤ i ∧ i ≤ j ∧ j ≤ 1000) : PM l yX4_placeThen cX4_placeThen 3 (some .int) (rm 1 0 0) L [.int (iI x), .int (iI i), .int (iI j)] F (fun v9 L1 F1 => v9 = some (.int (iI (mvA x i j))) ∧ L = L1 ∧ F = F1) (fun _ _ _ => False) := by
  refine pm_of cd_X4_placeThen (by decide +kernel) (Nat.le_of_ble_eq_true rfl) (fun ZZ hZ => ?_)
  have hgo : ZZ 0 0 0 [some (.int (iI x)), some (.int (iI i)), some (.int (iI j))] [] L F := by
    refine z_iload_n0 hZ dX4_placeThen_0 ?_
    refine z_iload_n2 hZ dX4_placeThen_1 ?_
    refine z_icmp_lt hZ (tgt := 11) dX4_placeThen_2 rfl (by omega) (fun hc2 => ?_) (fun hc2 => ?_)
    · refine z_iload_n0 hZ dX4_placeThen_11 ?_
      refine z_iload_n1 hZ dX4_placeThen_12 ?_
      refine z_icmp_le hZ (tgt := 20) dX4_placeThen_13 rfl (by omega) (fun hc13 => ?_) (fun hc13 => ?_)
      · refine z_iload_n0 hZ dX4_placeThen_20 ?_
        exact z_iret hZ rfl (Nat.le_of_ble_eq_true rfl) (Nat.le_of_ble_eq_true rfl) dX4_placeThen_21 (by first | exact ⟨by unfold mvA; rw [if_neg (by omega), if_pos (by omega)], rfl, rfl⟩ | exact ⟨by unfold mvA; rw [if_neg (by omega), if_neg (by omega)], rfl, rfl⟩)
      · refine z_iload_n1 hZ dX4_placeThen_16 ?_
        refine z_goto hZ (tgt := 21) dX4_placeThen_17 rfl ?_
        exact z_iret hZ rfl (Nat.le_of_ble_eq_true rfl) (Nat.le_of_ble_eq_true rfl) dX4_placeThen_21 (by first | exact ⟨by unfold mvA; rw [if_neg (by omega), if_pos (by omega)], rfl, rfl⟩ | exact ⟨by unfold mvA; rw [if_neg (by omega), if_neg (by omega)], rfl, rfl⟩)
    · refine z_iload_n0 hZ dX4_placeThen_5 ?_
      refine z_iload_n2 hZ dX4_placeThen_6 ?_
      refine z_iload_n1 hZ dX4_placeThen_7 ?_
      refine z_isub hZ dX4_placeThen_8 ?_
      refine z_isub hZ dX4_placeThen_9 ?_
      exact z_iret hZ rfl (Nat.le_of_ble_eq_true rfl) (Nat.le_of_ble_eq_true rfl) dX4_placeThen_10 (by exact ⟨by unfold mvA; rw [if_pos (by omega)], rfl, rfl⟩)
  exact hgo
set_option maxRecDepth 100000 in
set_option maxHeartbeats 4000000 in
theorem m_X4_fromMark (l : Launch) {L : List Nat} {F : Nat → PE} {s h c : Nat} {n p mk : Int} {f : Int → Int} (t : sc L F s h c n p mk f) : PM l yX4_fromMark cX4_fromMark 1 (some .int) (rm 2 0 0) L [.ref s] F (fun v9 L1 F1 => v9 = some (.int (iI (fmA mk p))) ∧ L = L1 ∧ F = F1) (fun _ _ _ => False) := by
  refine pm_of cd_X4_fromMark (by decide +kernel) (Nat.le_of_ble_eq_true rfl) (fun ZZ hZ => ?_)
  have hgo : ZZ 0 0 0 [some (.ref s)] [] L F := by
    obtain ⟨⟨hs1, hs2, hs3⟩, hSc, hX, hp, hm⟩ := t
    have hn := hX.2.2.2.1
    refine z_aload_n0 hZ dX4_fromMark_0 ?_
    refine z_gf_X4_mark hZ dX4_fromMark_1 fl_X4_20 (by assumption) (by assumption) ?_
    refine z_iconst hZ dX4_fromMark_4 ?_
    refine z_icmp_ne hZ (tgt := 12) dX4_fromMark_5 rfl (by omega) (fun hc5 => ?_) (fun hc5 => ?_)
    · refine z_aload_n0 hZ dX4_fromMark_12 ?_
      refine z_gf_X4_mark hZ dX4_fromMark_13 fl_X4_20 (by assumption) (by assumption) ?_
      refine z_aload_n0 hZ dX4_fromMark_16 ?_
      refine z_gf_X4_point hZ dX4_fromMark_17 fl_X4_28 (by assumption) (by assumption) ?_
      refine z_isub hZ dX4_fromMark_20 ?_
      refine z_abs hZ dX4_fromMark_21 ml_X4_53 (by omega) (Nat.le_of_ble_eq_true rfl) (Nat.le_of_ble_eq_true rfl) (Nat.le_of_ble_eq_true rfl) ⟨Nat.le_of_ble_eq_true rfl, Nat.le_of_ble_eq_true rfl⟩ ?_
      exact z_iret hZ rfl (Nat.le_of_ble_eq_true rfl) (Nat.le_of_ble_eq_true rfl) dX4_fromMark_24 (by first | exact ⟨pv (if_pos hc5).symm, rfl, rfl⟩ | exact ⟨pv (if_neg hc5).symm, rfl, rfl⟩)
    · refine z_iconst hZ dX4_fromMark_8 ?_
      refine z_goto hZ (tgt := 24) dX4_fromMark_9 rfl ?_
      exact z_iret hZ rfl (Nat.le_of_ble_eq_true rfl) (Nat.le_of_ble_eq_true rfl) dX4_fromMark_24 (by first | exact ⟨pv (if_pos hc5).symm, rfl, rfl⟩ | exact ⟨pv (if_neg hc5).symm, rfl, rfl⟩)
  exact hgo
set_option maxRecDepth 100000 in
set_option maxHeartbeats 4000000 in
theorem m_X4_copyFrom (l : Launch) {L : List Nat} {F : Nat → PE} {s h c s1 h1 c1 : Nat} {n p mk n1 p1 mk1 : Int} {f f1 : Int → Int} (t : sc L F s h c n p mk f) (t1 : sc L F s1 h1 c1 n1 p1 mk1 f1) (hd : s ≠ s1 ∧ s ≠ h1 ∧ s ≠ c1 ∧ h ≠ s1 ∧ h ≠ h1 ∧ h ≠ c1 ∧ c ≠ s1 ∧ c ≠ h1 ∧ c ≠ c1) : PM l yX4_copyFrom cX4_copyFrom 2 none (rm 3 0 0) L [.ref s, .ref s1] F (fun v9 L1 F1 => v9 = none ∧ L = L1 ∧ sc L F1 s h c n1 p1 mk1 f1 ∧ ∀ b, b ≠ s → b ≠ h → b ≠ c → F1 b = F b) (fun _ _ _ => False) := by
  refine pm_of cd_X4_copyFrom (by decide +kernel) (Nat.le_of_ble_eq_true rfl) (fun ZZ hZ => ?_)
  have hgo : ZZ 0 0 0 [some (.ref s), some (.ref s1)] [] L F := by
    obtain ⟨⟨hs1, hs2, hs3⟩, hSc, hX, hp, hm⟩ := t
    obtain ⟨⟨gs1, gs2, gs3⟩, gSc, gX, gp, gm⟩ := t1
    obtain ⟨d1, d2, d3, d4, d5, d6, d7, d8, d9⟩ := hd
    have hh := hX.1.1
    have gh := gX.1.1
    have hn := hX.2.2.2.1
    have gn := gX.2.2.2.1
    have hT := hX.2.1
    refine z_aload_n0 hZ dX4_copyFrom_0 ?_
    refine z_gf_X4_text hZ dX4_copyFrom_1 fl_X4_14 (by assumption) (by assumption) ?_
    refine z_aload_n1 hZ dX4_copyFrom_4 ?_
    refine z_gf_X4_text hZ dX4_copyFrom_5 fl_X4_14 (by assumption) (by assumption) ?_
    refine z_cV hZ (As := [_]) rfl dX4_copyFrom_8 ml_X4_24 wy_X6_copyFrom (m_X6_copyFrom l hX gX ⟨d5, d6, d8, d9⟩ (by omega)) (by assumption) (by assumption) rfl ⟨Nat.le_of_ble_eq_true rfl, Nat.le_of_ble_eq_true rfl⟩ ⟨Nat.le_of_ble_eq_true rfl, Nat.le_of_ble_eq_true rfl⟩ (Nat.le_of_ble_eq_true rfl) (fun _ _ _ h => h.elim) (fun v8 L8 G8 hp8 => ?_)
    obtain ⟨rfl, rfl, hX8, hf8⟩ := hp8
    have hSc := (hf8 _ hs2 hs3).trans hSc
    have gSc := (hf8 _ (Ne.symm d4) (Ne.symm d7)).trans gSc
    refine z_aload_n0 hZ dX4_copyFrom_11 ?_
    refine z_aload_n1 hZ dX4_copyFrom_12 ?_
    refine z_gf_X4_point hZ dX4_copyFrom_13 fl_X4_28 (by assumption) (by assumption) ?_
    refine z_pf_X4_point hZ dX4_copyFrom_16 fl_X4_28 (by assumption) (by assumption) (fun F16 hF16 hf16 => ?_)
    have gSc := (hf16 _ (Ne.symm d1)).trans gSc
    refine z_aload_n0 hZ dX4_copyFrom_19 ?_
    refine z_aload_n1 hZ dX4_copyFrom_20 ?_
    refine z_gf_X4_mark hZ dX4_copyFrom_21 fl_X4_20 (by assumption) (by assumption) ?_
    refine z_pf_X4_mark hZ dX4_copyFrom_24 fl_X4_20 (by assumption) (by assumption) (fun F24 hF24 hf24 => ?_)
    exact z_vret hZ rfl (Nat.le_of_ble_eq_true rfl) (Nat.le_of_ble_eq_true rfl) dX4_copyFrom_27 (by
            refine ⟨rfl, rfl, ⟨⟨hs1, hs2, hs3⟩, hF24, hX8.mv ((hf24 _ (Ne.symm hs2)).trans (hf16 _ (Ne.symm hs2))) ((hf24 _ (Ne.symm hs3)).trans (hf16 _ (Ne.symm hs3))), gp, gm⟩, fun b h1 h2 h3 => ?_⟩
            exact ((hf24 b h1).trans (hf16 b h1)).trans (hf8 b h2 h3))
  exact hgo
set_option maxRecDepth 100000 in
set_option maxHeartbeats 4000000 in
theorem m_X4_makeWay (l : Launch) {L : List Nat} {F : Nat → PE} {s h : Nat} {p mk m : Int} (hs : s ∈ L) (hSc : F s = eO 4 [.ref h, .int (iI p), .int (iI mk)]) (hr : 0 ≤ p ∧ p ≤ 1000 ∧ -1 ≤ mk ∧ mk ≤ 1000 ∧ 0 ≤ m ∧ m ≤ 1000) : PM l yX4_makeWay cX4_makeWay 2 none (rm 1 0 0) L [.ref s, .int (iI m)] F (fun v9 L1 F1 => v9 = none ∧ L = L1 ∧ F1 s = eO 4 [.ref h, .int (iI (p + m)), .int (iI (if p < mk then mk + m else mk))] ∧ ∀ b, b ≠ s → F1 b = F b) (fun _ _ _ => False) := by
  refine pm_of cd_X4_makeWay (by decide +kernel) (Nat.le_of_ble_eq_true rfl) (fun ZZ hZ => ?_)
  have hgo : ZZ 0 0 0 [some (.ref s), some (.int (iI m))] [] L F := by
    refine z_aload_n0 hZ dX4_makeWay_0 ?_
    refine z_gf_X4_mark hZ dX4_makeWay_1 fl_X4_20 (by assumption) (by assumption) ?_
    refine z_aload_n0 hZ dX4_makeWay_4 ?_
    refine z_gf_X4_point hZ dX4_makeWay_5 fl_X4_28 (by assumption) (by assumption) ?_
    refine z_icmp_le hZ (tgt := 21) dX4_makeWay_8 rfl (by omega) (fun hc8 => ?_) (fun hc8 => ?_)
    · refine z_aload_n0 hZ dX4_makeWay_21 ?_
      refine z_dup hZ dX4_makeWay_22 rfl ?_
      refine z_gf_X4_point hZ dX4_makeWay_23 fl_X4_28 (by assumption) (by assumption) ?_
      refine z_iload_n1 hZ dX4_makeWay_26 ?_
      refine z_iadd hZ dX4_makeWay_27 ?_
      refine z_pf_X4_point hZ dX4_makeWay_28 fl_X4_28 (by assumption) (by assumption) (fun F28 hF28 hf28 => ?_)
      exact z_vret hZ rfl (Nat.le_of_ble_eq_true rfl) (Nat.le_of_ble_eq_true rfl) dX4_makeWay_31 (by first | exact ⟨rfl, rfl, by rw [if_neg (by omega)]; exact hF28, fun b h1 => hf28 b h1⟩ | exact ⟨rfl, rfl, by rw [if_pos (by omega)]; exact hF28, fun b h1 => (hf28 b h1).trans (hf18 b h1)⟩)
    · refine z_aload_n0 hZ dX4_makeWay_11 ?_
      refine z_dup hZ dX4_makeWay_12 rfl ?_
      refine z_gf_X4_mark hZ dX4_makeWay_13 fl_X4_20 (by assumption) (by assumption) ?_
      refine z_iload_n1 hZ dX4_makeWay_16 ?_
      refine z_iadd hZ dX4_makeWay_17 ?_
      refine z_pf_X4_mark hZ dX4_makeWay_18 fl_X4_20 (by assumption) (by assumption) (fun F18 hF18 hf18 => ?_)
      refine z_aload_n0 hZ dX4_makeWay_21 ?_
      refine z_dup hZ dX4_makeWay_22 rfl ?_
      refine z_gf_X4_point hZ dX4_makeWay_23 fl_X4_28 (by assumption) (by assumption) ?_
      refine z_iload_n1 hZ dX4_makeWay_26 ?_
      refine z_iadd hZ dX4_makeWay_27 ?_
      refine z_pf_X4_point hZ dX4_makeWay_28 fl_X4_28 (by assumption) (by assumption) (fun F28 hF28 hf28 => ?_)
      exact z_vret hZ rfl (Nat.le_of_ble_eq_true rfl) (Nat.le_of_ble_eq_true rfl) dX4_makeWay_31 (by first | exact ⟨rfl, rfl, by rw [if_neg (by omega)]; exact hF28, fun b h1 => hf28 b h1⟩ | exact ⟨rfl, rfl, by rw [if_pos (by omega)]; exact hF28, fun b h1 => (hf28 b h1).trans (hf18 b h1)⟩)
  exact hgo
set_option maxRecDepth 100000 in
set_option maxHeartbeats 4000000 in
theorem m_X4_writeCode (l : Launch) {L : List Nat} {F : Nat → PE} {s h c : Nat} {n p mk : Int} {f : Int → Int} {x : Int} (t : sc L F s h c n p mk f) (hn2 : n < 200) (hx : 10 ≤ x ∧ x ≤ 126) : PM l yX4_writeCode cX4_writeCode 2 none (rm 3 0 0) L [.ref s, .int (iI x)] F (fun v9 L1 F1 => v9 = none ∧ L = L1 ∧ sc L F1 s h c (n + 1) (p + 1) (if p < mk then mk + 1 else mk) (insA f p 1 (fun _ => x)) ∧ ∀ b, b ≠ s → b ≠ h → b ≠ c → F1 b = F b) (fun _ _ _ => False) := by
  refine pm_of cd_X4_writeCode (by decide +kernel) (Nat.le_of_ble_eq_true rfl) (fun ZZ hZ => ?_)
  have hgo : ZZ 0 0 0 [some (.ref s), some (.int (iI x))] [] L F := by
    obtain ⟨⟨hs1, hs2, hs3⟩, hSc, hX, hp, hm⟩ := t
    have hh := hX.1.1
    have hT := hX.2.1
    have hn := hX.2.2.2.1
    refine z_aload_n0 hZ dX4_writeCode_0 ?_
    refine z_gf_X4_text hZ dX4_writeCode_1 fl_X4_14 (by assumption) (by assumption) ?_
    refine z_aload_n0 hZ dX4_writeCode_4 ?_
    refine z_gf_X4_point hZ dX4_writeCode_5 fl_X4_28 (by assumption) (by assumption) ?_
    refine z_iload_n1 hZ dX4_writeCode_8 ?_
    refine z_cV hZ (As := [_, _]) rfl dX4_writeCode_9 ml_X4_31 wy_X6_insertCode (m_X6_insertCode l hX ⟨hp.1, hp.2, by omega⟩ hx) (by assumption) (by assumption) rfl ⟨Nat.le_of_ble_eq_true rfl, Nat.le_of_ble_eq_true rfl⟩ ⟨Nat.le_of_ble_eq_true rfl, Nat.le_of_ble_eq_true rfl⟩ (Nat.le_of_ble_eq_true rfl) (fun _ _ _ h => h.elim) (fun v9 L9 G9 hp9 => ?_)
    obtain ⟨rfl, rfl, hX9, hf9⟩ := hp9
    have hSc := (hf9 _ hs2 hs3).trans hSc
    refine z_aload_n0 hZ dX4_writeCode_12 ?_
    refine z_iconst hZ dX4_writeCode_13 ?_
    refine z_cV hZ (As := [_]) rfl dX4_writeCode_14 ml_X4_35 wy_X4_makeWay (m_X4_makeWay l hs1 hSc (by omega)) (by assumption) (by assumption) rfl ⟨Nat.le_of_ble_eq_true rfl, Nat.le_of_ble_eq_true rfl⟩ ⟨Nat.le_of_ble_eq_true rfl, Nat.le_of_ble_eq_true rfl⟩ (Nat.le_of_ble_eq_true rfl) (fun _ _ _ h => h.elim) (fun v14 L14 G14 hp14 => ?_)
    obtain ⟨rfl, rfl, hSc, hf14⟩ := hp14
    exact z_vret hZ rfl (Nat.le_of_ble_eq_true rfl) (Nat.le_of_ble_eq_true rfl) dX4_writeCode_17 (by refine ⟨rfl, rfl, ⟨⟨hs1, hs2, hs3⟩, hSc, hX9.mv (hf14 _ (Ne.symm hs2)) (hf14 _ (Ne.symm hs3)), by omega, by split <;> omega⟩, fun b h1 h2 h3 => (hf14 b h1).trans (hf9 b h2 h3)⟩)
  exact hgo
set_option maxRecDepth 100000 in
set_option maxHeartbeats 4000000 in
theorem m_X4_writeText (l : Launch) {L : List Nat} {F : Nat → PE} {s h c h1 c1 N1 : Nat} {n p mk n1 : Int} {f f1 : Int → Int} (t : sc L F s h c n p mk f) (t1 : tx L F h1 c1 N1 n1 f1) (hn2 : n + n1 ≤ 200) (hd : s ≠ h1 ∧ s ≠ c1 ∧ h ≠ h1 ∧ h ≠ c1 ∧ c ≠ h1 ∧ c ≠ c1) : PM l yX4_writeText cX4_writeText 2 none (rm 3 0 0) L [.ref s, .ref h1] F (fun v9 L1 F1 => v9 = none ∧ L = L1 ∧ sc L F1 s h c (n + n1) (p + n1) (if p < mk then mk + n1 else mk) (insA f p n1 f1) ∧ ∀ b, b ≠ s → b ≠ h → b ≠ c → F1 b = F b) (fun _ _ _ => False) := by
  refine pm_of cd_X4_writeText (by decide +kernel) (Nat.le_of_ble_eq_true rfl) (fun ZZ hZ => ?_)
  have hgo : ZZ 0 0 0 [some (.ref s), some (.ref h1)] [] L F := by
    obtain ⟨⟨hs1, hs2, hs3⟩, hSc, hX, hp, hm⟩ := t
    obtain ⟨d1, d2, d3, d4, d5, d6⟩ := hd
    have hh := hX.1.1
    have hT := hX.2.1
    have hn := hX.2.2.2.1
    have gh := t1.1.1
    have gT := t1.2.1
    have gn := t1.2.2.2.1
    refine z_aload_n0 hZ dX4_writeText_0 ?_
    refine z_gf_X4_text hZ dX4_writeText_1 fl_X4_14 (by assumption) (by assumption) ?_
    refine z_aload_n0 hZ dX4_writeText_4 ?_
    refine z_gf_X4_point hZ dX4_writeText_5 fl_X4_28 (by assumption) (by assumption) ?_
    refine z_aload_n1 hZ dX4_writeText_8 ?_
    refine z_iconst hZ dX4_writeText_9 ?_
    refine z_aload_n1 hZ dX4_writeText_10 ?_
    refine z_cV hZ (As := []) rfl dX4_writeText_11 ml_X4_38 wy_X6_count (m_X6_count l t1) (by assumption) (by assumption) rfl ⟨Nat.le_of_ble_eq_true rfl, Nat.le_of_ble_eq_true rfl⟩ ⟨Nat.le_of_ble_eq_true rfl, Nat.le_of_ble_eq_true rfl⟩ (Nat.le_of_ble_eq_true rfl) (fun _ _ _ h => h.elim) (fun v11 L11 G11 hp11 => ?_)
    obtain ⟨rfl, rfl, rfl⟩ := hp11
    refine z_cV hZ (As := [_, _, _, _]) rfl dX4_writeText_14 ml_X4_42 wy_X6_insertPart (m_X6_insertPart l hX t1 ⟨d3, d4, d5, d6⟩ (by omega)) (by assumption) (by assumption) rfl ⟨Nat.le_of_ble_eq_true rfl, Nat.le_of_ble_eq_true rfl⟩ ⟨Nat.le_of_ble_eq_true rfl, Nat.le_of_ble_eq_true rfl⟩ (Nat.le_of_ble_eq_true rfl) (fun _ _ _ h => h.elim) (fun v14 L14 G14 hp14 => ?_)
    obtain ⟨rfl, rfl, hX14, hf14⟩ := hp14
    rw [show n + (n1 - 0) = n + n1 by omega, show n1 - 0 = n1 by omega] at hX14
    have t1 := t1.mv (hf14 _ (Ne.symm d3) (Ne.symm d5)) (hf14 _ (Ne.symm d4) (Ne.symm d6))
    have gT := t1.2.1
    have hSc := (hf14 _ hs2 hs3).trans hSc
    refine z_aload_n0 hZ dX4_writeText_17 ?_
    refine z_aload_n1 hZ dX4_writeText_18 ?_
    refine z_cV hZ (As := []) rfl dX4_writeText_19 ml_X4_38 wy_X6_count (m_X6_count l t1) (by assumption) (by assumption) rfl ⟨Nat.le_of_ble_eq_true rfl, Nat.le_of_ble_eq_true rfl⟩ ⟨Nat.le_of_ble_eq_true rfl, Nat.le_of_ble_eq_true rfl⟩ (Nat.le_of_ble_eq_true rfl) (fun _ _ _ h => h.elim) (fun v19 L19 G19 hp19 => ?_)
    obtain ⟨rfl, rfl, rfl⟩ := hp19
    refine z_cV hZ (As := [_]) rfl dX4_writeText_22 ml_X4_35 wy_X4_makeWay (m_X4_makeWay l hs1 hSc (by omega)) (by assumption) (by assumption) rfl ⟨Nat.le_of_ble_eq_true rfl, Nat.le_of_ble_eq_true rfl⟩ ⟨Nat.le_of_ble_eq_true rfl, Nat.le_of_ble_eq_true rfl⟩ (Nat.le_of_ble_eq_true rfl) (fun _ _ _ h => h.elim) (fun v22 L22 G22 hp22 => ?_)
    obtain ⟨rfl, rfl, hSc, hf22⟩ := hp22
    exact z_vret hZ rfl (Nat.le_of_ble_eq_true rfl) (Nat.le_of_ble_eq_true rfl) dX4_writeText_25 (by
            refine ⟨rfl, rfl, ⟨⟨hs1, hs2, hs3⟩, hSc, (hX14.mv (hf22 _ (Ne.symm hs2)) (hf22 _ (Ne.symm hs3))).cg (fun k _ _ => ?_), by omega, by split <;> omega⟩, fun b h1 h2 h3 => (hf22 b h1).trans (hf14 b h2 h3)⟩
            unfold insA; split; rfl; split; · show f1 (0 + (k - p)) = f1 (k - p); congr 1; omega
            rfl)
  exact hgo
set_option maxRecDepth 100000 in
set_option maxHeartbeats 4000000 in
theorem m_X4_takeOut (l : Launch) {L : List Nat} {F : Nat → PE} {s h c : Nat} {n p mk : Int} {f : Int → Int} {i j : Int} (t : sc L F s h c n p mk f) (hi : 0 ≤ i ∧ i ≤ j ∧ j ≤ n) : PM l yX4_takeOut cX4_takeOut 3 none (rm 3 0 0) L [.ref s, .int (iI i), .int (iI j)] F (fun v9 L1 F1 => v9 = none ∧ L = L1 ∧ sc L F1 s h c (n - (j - i)) (mvA p i j) (mvA mk i j) (delA f i j) ∧ ∀ b, b ≠ s → b ≠ h → b ≠ c → F1 b = F b) (fun _ _ _ => False) := by
  refine pm_of cd_X4_takeOut (by decide +kernel) (Nat.le_of_ble_eq_true rfl) (fun ZZ hZ => ?_)
  have hgo : ZZ 0 0 0 [some (.ref s), some (.int (iI i)), some (.int (iI j))] [] L F := by
    obtain ⟨⟨hs1, hs2, hs3⟩, hSc, hX, hp, hm⟩ := t
    have hh := hX.1.1
    have hT := hX.2.1
    have hn := hX.2.2.2.1
    refine z_aload_n0 hZ dX4_takeOut_0 ?_
    refine z_gf_X4_text hZ dX4_takeOut_1 fl_X4_14 (by assumption) (by assumption) ?_
    refine z_iload_n1 hZ dX4_takeOut_4 ?_
    refine z_iload_n2 hZ dX4_takeOut_5 ?_
    refine z_cV hZ (As := [_, _]) rfl dX4_takeOut_6 ml_X4_46 wy_X6_takeOut (m_X6_takeOut l hX hi) (by assumption) (by assumption) rfl ⟨Nat.le_of_ble_eq_true rfl, Nat.le_of_ble_eq_true rfl⟩ ⟨Nat.le_of_ble_eq_true rfl, Nat.le_of_ble_eq_true rfl⟩ (Nat.le_of_ble_eq_true rfl) (fun _ _ _ h => h.elim) (fun v6 L6 G6 hp6 => ?_)
    obtain ⟨rfl, rfl, hX6, hf6⟩ := hp6
    have hSc := (hf6 _ hs2 hs3).trans hSc
    refine z_aload_n0 hZ dX4_takeOut_9 ?_
    refine z_aload_n0 hZ dX4_takeOut_10 ?_
    refine z_gf_X4_point hZ dX4_takeOut_11 fl_X4_28 (by assumption) (by assumption) ?_
    refine z_iload_n1 hZ dX4_takeOut_14 ?_
    refine z_iload_n2 hZ dX4_takeOut_15 ?_
    refine z_cS hZ (As := [_, _, _]) rfl dX4_takeOut_16 ml_X4_49 wy_X4_placeThen (m_X4_placeThen l (by omega)) ⟨Nat.le_of_ble_eq_true rfl, Nat.le_of_ble_eq_true rfl⟩ ⟨Nat.le_of_ble_eq_true rfl, Nat.le_of_ble_eq_true rfl⟩ (Nat.le_of_ble_eq_true rfl) (fun _ _ _ h => h.elim) (fun v16 L16 G16 hp16 => ?_)
    obtain ⟨rfl, rfl, rfl⟩ := hp16
    refine z_pf_X4_point hZ dX4_takeOut_19 fl_X4_28 (by assumption) (by assumption) (fun F19 hF19 hf19 => ?_)
    refine z_aload_n0 hZ dX4_takeOut_22 ?_
    refine z_aload_n0 hZ dX4_takeOut_23 ?_
    refine z_gf_X4_mark hZ dX4_takeOut_24 fl_X4_20 (by assumption) (by assumption) ?_
    refine z_iload_n1 hZ dX4_takeOut_27 ?_
    refine z_iload_n2 hZ dX4_takeOut_28 ?_
    refine z_cS hZ (As := [_, _, _]) rfl dX4_takeOut_29 ml_X4_49 wy_X4_placeThen (m_X4_placeThen l (by omega)) ⟨Nat.le_of_ble_eq_true rfl, Nat.le_of_ble_eq_true rfl⟩ ⟨Nat.le_of_ble_eq_true rfl, Nat.le_of_ble_eq_true rfl⟩ (Nat.le_of_ble_eq_true rfl) (fun _ _ _ h => h.elim) (fun v29 L29 G29 hp29 => ?_)
    obtain ⟨rfl, rfl, rfl⟩ := hp29
    refine z_pf_X4_mark hZ dX4_takeOut_32 fl_X4_20 (by assumption) (by assumption) (fun F32 hF32 hf32 => ?_)
    exact z_vret hZ rfl (Nat.le_of_ble_eq_true rfl) (Nat.le_of_ble_eq_true rfl) dX4_takeOut_35 (by
            refine ⟨rfl, rfl, ⟨⟨hs1, hs2, hs3⟩, hF32, hX6.mv ((hf32 _ (Ne.symm hs2)).trans (hf19 _ (Ne.symm hs2))) ((hf32 _ (Ne.symm hs3)).trans (hf19 _ (Ne.symm hs3))), ?_, ?_⟩, fun b h1 h2 h3 => ((hf32 b h1).trans (hf19 b h1)).trans (hf6 b h2 h3)⟩
            · unfold mvA; split; omega; split <;> omega
            · unfold mvA; split; omega; split <;> omega)
  exact hgo
/-- so many lines below, above -/
def dnL (n : Int) (f : Int → Int) : Nat → Int → Int
  | 0, a => a
  | k + 1, a => if lE n f a < n then dnL n f k (lE n f a + 1) else -1
def upL (n : Int) (f : Int → Int) : Nat → Int → Int
  | 0, a => a
  | k + 1, a => if 0 < a then upL n f k (lB n f (a - 1)) else -1
def lsO (n : Int) (f : Int → Int) (p z : Int) : Int := if 0 ≤ z then dnL n f z.toNat (lB n f p) else upL n f (-z).toNat (lB n f p)
theorem dnL_rg {n : Int} {f : Int → Int} : ∀ (k : Nat) (a : Int), 0 ≤ a → a ≤ n → -1 ≤ dnL n f k a ∧ dnL n f k a ≤ n := by
  intro k
  induction k with
  | zero => intro a h0 h1; unfold dnL; omega
  | succ k ih =>
    intro a h0 h1
    unfold dnL
    have := lE_rg (n := n) (f := f) (p := a) h1
    split
    · exact ih _ (by omega) (by omega)
    · omega
theorem upL_rg {n : Int} {f : Int → Int} : ∀ (k : Nat) (a : Int), 0 ≤ a → a ≤ n → -1 ≤ upL n f k a ∧ upL n f k a ≤ n := by
  intro k
  induction k with
  | zero => intro a h0 h1; unfold upL; omega
  | succ k ih =>
    intro a h0 h1
    unfold upL
    split
    · have := lB_rg (n := n) (f := f) (p := a - 1) (by omega)
      exact ih _ (by omega) (by omega)
    · omega
theorem lsO_rg {n : Int} {f : Int → Int} {p z : Int} (h0 : 0 ≤ p) (h1 : p ≤ n) : -1 ≤ lsO n f p z ∧ lsO n f p z ≤ n := by
  have := lB_rg (n := n) (f := f) h0
  unfold lsO
  split
  · exact dnL_rg _ _ (by omega) (by omega)
  · exact upL_rg _ _ (by omega) (by omega)
set_option maxRecDepth 100000 in
set_option maxHeartbeats 4000000 in
theorem m_X4_lineStartOver (l : Launch) {L : List Nat} {F : Nat → PE} {s h c : Nat} {n p mk : Int} {f : Int → Int} {i z : Int} (t : sc L F s h c n p mk f) (hi : 0 ≤ i ∧ i ≤ n) (hz : -50 ≤ z ∧ z ≤ 50) : PM l yX4_lineStartOver cX4_lineStartOver 5 (some .int) (rm 5 0 0) L [.ref s, .int (iI i), .int (iI z)] F (fun v9 L1 F1 => v9 = some (.int (iI (lsO n f i z))) ∧ L = L1 ∧ F = F1) (fun _ _ _ => False) := by
  refine pm_of cd_X4_lineStartOver (by decide +kernel) (Nat.le_of_ble_eq_true rfl) (fun ZZ hZ => ?_)
  have hgo : ZZ 0 0 0 [some (.ref s), some (.int (iI i)), some (.int (iI z)), none, none] [] L F := by
    have t' := t
    obtain ⟨⟨hs1, hs2, hs3⟩, hSc, hX, hp, hm⟩ := t
    have hh := hX.1.1
    have hT := hX.2.1
    have hn := hX.2.2.2.1
    have rg := lB_rg (n := n) (f := f) (p := i) hi.1
    have k45 : ∀ (m : Nat) (a q : Int), 0 ≤ a → a ≤ n → q ≤ 0 → -50 ≤ q → (q < z → lsO n f i z = a) → (z ≤ q → upL n f (q - z).toNat a = lsO n f i z) → (q - z + 51).toNat < m → ZZ 0 0 45 [some (.ref s), some (.int (iI i)), some (.int (iI z)), some (.int (iI a)), some (.int (iI q))] [] L F := by
      intro m
      induction m with
      | zero => intro a q _ _ _ _ _ _ hm; omega
      | succ m ih =>
        intro a q h0 h1 h2 h3 hA he hm
        refine z_iload4 hZ dX4_lineStartOver_45 ?_
        refine z_iload_n2 hZ dX4_lineStartOver_47 ?_
        refine z_icmp_le hZ (tgt := 72) dX4_lineStartOver_48 rfl (by omega) (fun hc48 => ?_) (fun hc48 => ?_)
        · refine z_iload_n3 hZ dX4_lineStartOver_72 ?_
          exact z_iret hZ rfl (Nat.le_of_ble_eq_true rfl) (Nat.le_of_ble_eq_true rfl) dX4_lineStartOver_73 (by
            by_cases q9 : q < z
            · exact ⟨by rw [hA q9], rfl, rfl⟩
            · have e := he (by omega)
              rw [show (q - z).toNat = 0 by omega] at e
              exact ⟨by rw [← e]; rfl, rfl, rfl⟩)
        · refine z_iload_n3 hZ dX4_lineStartOver_51 ?_
          refine z_iconst hZ dX4_lineStartOver_52 ?_
          refine z_icmp_ge hZ (tgt := 58) dX4_lineStartOver_53 rfl (by omega) (fun hc53 => ?_) (fun hc53 => ?_)
          · refine z_aload_n0 hZ dX4_lineStartOver_58 ?_
            refine z_iload_n3 hZ dX4_lineStartOver_59 ?_
            refine z_iconst hZ dX4_lineStartOver_60 ?_
            refine z_isub hZ dX4_lineStartOver_61 ?_
            refine z_cV hZ (As := [_]) rfl dX4_lineStartOver_62 ml_X4_72 wy_X4_lineStart (m_X4_lineStart l t' (by omega)) (by assumption) (by assumption) rfl ⟨Nat.le_of_ble_eq_true rfl, Nat.le_of_ble_eq_true rfl⟩ ⟨Nat.le_of_ble_eq_true rfl, Nat.le_of_ble_eq_true rfl⟩ (Nat.le_of_ble_eq_true rfl) (fun _ _ _ h => h.elim) (fun v62 L62 G62 hp62 => ?_)
            obtain ⟨rfl, rfl, rfl⟩ := hp62
            refine z_istore_n3 hZ dX4_lineStartOver_65 (by decide) rfl ?_
            refine z_iinc4 hZ dX4_lineStartOver_66 (by decide) rfl ?_
            refine z_goto hZ (tgt := 45) dX4_lineStartOver_69 rfl ?_
            have rl := lB_rg (n := n) (f := f) (p := a - 1) (by omega)
            have e := he (by omega)
            rw [show (q - z).toNat = (q + -1 - z).toNat + 1 by omega] at e
            unfold upL at e
            rw [if_pos (by omega)] at e
            exact ih _ _ (by omega) (by omega) (by omega) (by omega) (fun q9 => by omega) (fun _ => e) (by omega)
          · refine z_iconst hZ dX4_lineStartOver_56 ?_
            exact z_iret hZ rfl (Nat.le_of_ble_eq_true rfl) (Nat.le_of_ble_eq_true rfl) dX4_lineStartOver_57 (by
            have e := he (by omega)
            rw [show (q - z).toNat = (q + -1 - z).toNat + 1 by omega] at e
            unfold upL at e
            rw [if_neg (by omega)] at e
            exact ⟨by rw [← e], rfl, rfl⟩)
    have k9 : ∀ (m : Nat) (a q : Int), 0 ≤ a → a ≤ n → 0 ≤ q → q ≤ 50 → (z ≤ 0 → q = 0 ∧ a = lB n f i) → (0 ≤ z → q ≤ z ∧ dnL n f (z - q).toNat a = lsO n f i z) → (51 - q).toNat < m → ZZ 0 0 9 [some (.ref s), some (.int (iI i)), some (.int (iI z)), some (.int (iI a)), some (.int (iI q))] [] L F := by
      intro m
      induction m with
      | zero => intro a q _ _ _ _ _ _ hm; omega
      | succ m ih =>
        intro a q h0 h1 h2 h3 hA he hm
        have rl := lE_rg (n := n) (f := f) (p := a) h1
        refine z_iload4 hZ dX4_lineStartOver_9 ?_
        refine z_iload_n2 hZ dX4_lineStartOver_11 ?_
        refine z_icmp_ge hZ (tgt := 42) dX4_lineStartOver_12 rfl (by omega) (fun hc12 => ?_) (fun hc12 => ?_)
        · refine z_iconst hZ dX4_lineStartOver_42 ?_
          refine z_istore4 hZ dX4_lineStartOver_43 (by decide) rfl ?_
          refine k45 _ a 0 h0 h1 (by omega) (by omega) (fun q9 => ?_) (fun q9 => ?_) (Nat.lt_succ_self _)
          · have e := he (by omega)
            rw [show (z - q).toNat = 0 by omega] at e
            exact e.2.symm
          · have e := hA q9
            by_cases q8 : z = 0
            · have e2 := he (by omega)
              rw [show (z - q).toNat = 0 by omega] at e2
              rw [show ((0 : Int) - z).toNat = 0 by omega]
              exact e2.2
            · unfold lsO; rw [if_neg (by omega), e.2, show (0 - z) = -z by omega]
        · refine z_aload_n0 hZ dX4_lineStartOver_15 ?_
          refine z_iload_n3 hZ dX4_lineStartOver_16 ?_
          refine z_cV hZ (As := [_]) rfl dX4_lineStartOver_17 ml_X4_75 wy_X4_lineStop (m_X4_lineStop l t' (by omega)) (by assumption) (by assumption) rfl ⟨Nat.le_of_ble_eq_true rfl, Nat.le_of_ble_eq_true rfl⟩ ⟨Nat.le_of_ble_eq_true rfl, Nat.le_of_ble_eq_true rfl⟩ (Nat.le_of_ble_eq_true rfl) (fun _ _ _ h => h.elim) (fun v17 L17 G17 hp17 => ?_)
          obtain ⟨rfl, rfl, rfl⟩ := hp17
          refine z_iconst hZ dX4_lineStartOver_20 ?_
          refine z_iadd hZ dX4_lineStartOver_21 ?_
          refine z_istore_n3 hZ dX4_lineStartOver_22 (by decide) rfl ?_
          refine z_iload_n3 hZ dX4_lineStartOver_23 ?_
          refine z_aload_n0 hZ dX4_lineStartOver_24 ?_
          refine z_gf_X4_text hZ dX4_lineStartOver_25 fl_X4_14 (by assumption) (by assumption) ?_
          refine z_cV hZ (As := []) rfl dX4_lineStartOver_28 ml_X4_38 wy_X6_count (m_X6_count l hX) (by assumption) (by assumption) rfl ⟨Nat.le_of_ble_eq_true rfl, Nat.le_of_ble_eq_true rfl⟩ ⟨Nat.le_of_ble_eq_true rfl, Nat.le_of_ble_eq_true rfl⟩ (Nat.le_of_ble_eq_true rfl) (fun _ _ _ h => h.elim) (fun v28 L28 G28 hp28 => ?_)
          obtain ⟨rfl, rfl, rfl⟩ := hp28
          refine z_icmp_le hZ (tgt := 36) dX4_lineStartOver_31 rfl (by omega) (fun hc31 => ?_) (fun hc31 => ?_)
          · refine z_iinc4 hZ dX4_lineStartOver_36 (by decide) rfl ?_
            refine z_goto hZ (tgt := 9) dX4_lineStartOver_39 rfl ?_
            have e := he (by omega)
            rw [show (z - q).toNat = (z - (q + 1)).toNat + 1 by omega] at e
            unfold dnL at e
            rw [if_pos (by omega)] at e
            exact ih _ _ (by omega) (by omega) (by omega) (by omega) (fun q9 => by omega) (fun _ => ⟨by omega, e.2⟩) (by omega)
          · refine z_iconst hZ dX4_lineStartOver_34 ?_
            exact z_iret hZ rfl (Nat.le_of_ble_eq_true rfl) (Nat.le_of_ble_eq_true rfl) dX4_lineStartOver_35 (by
            have e := he (by omega)
            rw [show (z - q).toNat = (z - (q + 1)).toNat + 1 by omega] at e
            unfold dnL at e
            rw [if_neg (by omega)] at e
            exact ⟨by rw [← e.2], rfl, rfl⟩)
    refine z_aload_n0 hZ dX4_lineStartOver_0 ?_
    refine z_iload_n1 hZ dX4_lineStartOver_1 ?_
    refine z_cV hZ (As := [_]) rfl dX4_lineStartOver_2 ml_X4_72 wy_X4_lineStart (m_X4_lineStart l t' hi) (by assumption) (by assumption) rfl ⟨Nat.le_of_ble_eq_true rfl, Nat.le_of_ble_eq_true rfl⟩ ⟨Nat.le_of_ble_eq_true rfl, Nat.le_of_ble_eq_true rfl⟩ (Nat.le_of_ble_eq_true rfl) (fun _ _ _ h => h.elim) (fun v2 L2 G2 hp2 => ?_)
    obtain ⟨rfl, rfl, rfl⟩ := hp2
    refine z_istore_n3 hZ dX4_lineStartOver_5 (by decide) rfl ?_
    refine z_iconst hZ dX4_lineStartOver_6 ?_
    refine z_istore4 hZ dX4_lineStartOver_7 (by decide) rfl ?_
    refine k9 _ (lB n f i) 0 (by omega) (by omega) (by omega) (by omega) (fun _ => ⟨rfl, rfl⟩) (fun q9 => ⟨q9, ?_⟩) (Nat.lt_succ_self _)
    unfold lsO; rw [if_pos q9, show (z - 0) = z by omega]
  exact hgo

