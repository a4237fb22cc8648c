/-! THE MODEL, 2: its row of numbers is changed. -/
def cpK (g : Int → Int) (i j k : Int) : Int → Int := fun x => if 1818 * j ≤ x ∧ x < 1818 * j + k then g (x - 1818 * j + 1818 * i) else g x
def cpy (g : Int → Int) (i j : Int) : Int → Int := cpK g i j 1818
theorem cpK_0 {g : Int → Int} {i j : Int} : cpK g i j 0 = g := by funext y; unfold cpK; rw [if_neg (by omega)]
theorem cpK_s {g : Int → Int} {i j k : Int} (h : 0 ≤ k) : wu (cpK g i j k) (1818 * j + k) (g (1818 * i + k)) = cpK g i j (k + 1) := (by funext y; unfold cpK wu; (try dsimp only); (repeat' split) <;> first | rfl | (exfalso; omega) | (congr 1; omega) | omega)
def shK (g : Int → Int) (i j k : Int) : Int → Int := fun x => if 18 + i ≤ x ∧ x < 18 + k - (j - i) then g (x + (j - i)) else g x
theorem shK_0 {g : Int → Int} {i j : Int} : shK g i j j = g := by funext y; unfold shK; rw [if_neg (by omega)]
theorem shK_s {g : Int → Int} {i j k : Int} (h : i ≤ j ∧ j ≤ k) : wu (shK g i j k) (18 + k - (j - i)) (shK g i j k (18 + k)) = shK g i j (k + 1) := (by funext y; unfold shK wu; (try dsimp only); (repeat' split) <;> first | rfl | (exfalso; omega) | (congr 1; omega) | omega)
def shT (g : Int → Int) (m k : Int) : Int → Int := fun x => if 18 + k + 1 + m ≤ x ∧ x < 18 + g 0 + m then g (x - m) else g x
theorem shT_0 {g : Int → Int} {m : Int} : shT g m (g 0 - 1) = g := by funext y; unfold shT; rw [if_neg (by omega)]
theorem shT_s {g : Int → Int} {m k : Int} (h : 0 ≤ m ∧ k < g 0) : wu (shT g m k) (18 + k + m) (shT g m k (18 + k)) = shT g m (k + -1) := (by funext y; unfold shT wu; (try dsimp only); (repeat' split) <;> first | rfl | (exfalso; omega) | (congr 1; omega) | omega)
theorem shT_e {g : Int → Int} {m : Int} : shT g m (g 1 - 1) = shR g m := by
  funext y
  unfold shT shR
  rw [show 18 + (g 1 - 1) + 1 + m = 18 + g 1 + m by omega]
set_option maxRecDepth 100000 in
set_option maxHeartbeats 4000000 in
theorem m_X8_copies (l : Launch) {L : List Nat} {F : Nat → PE} {x a : Nat} {g : Int → Int} {kd i j : Int} (t : ms L F x a g kd) (hi : 0 ≤ i ∧ i ≤ 9 ∧ 0 ≤ j ∧ j ≤ 9 ∧ i ≠ j) : PM l yX8_copies cX8_copies 4 none (rm 1 0 0) L [.ref x, .int (iI i), .int (iI j)] F (fun v9 L1 F1 => v9 = none ∧ L = L1 ∧ F1 a = eI 0 18180 (cpy g i j) ∧ ∀ b, b ≠ a → F1 b = F b) (fun _ _ _ => False) := by
  refine pm_of cd_X8_copies (by decide +kernel) (Nat.le_of_ble_eq_true rfl) (fun ZZ hZ => ?_)
  have hgo : ZZ 0 0 0 [some (.ref x), some (.int (iI i)), some (.int (iI j)), none] [] L F := by
    have l1 : ∀ (m : Nat) (k : Int) (G : Nat → PE), (1818 - k).toNat = m → 0 ≤ k → k ≤ 1818 → ms L G x a (cpK g i j k) kd → fa a F G → ZZ 0 0 2 [some (.ref x), some (.int (iI i)), some (.int (iI j)), some (.int (iI k))] [] L G := by
      intro m
      induction m with
      | zero =>
        intro k G hm k0 k1 t fr
        refine z_iload_n3 hZ dX8_copies_2 ?_
        refine z_sipush hZ dX8_copies_3 rfl ?_
        refine z_icmp_ge hZ (tgt := 39) dX8_copies_6 rfl (by omega) (fun hc6 => ?_) (fun hc6 => ?_)
        · exact z_vret hZ rfl (Nat.le_of_ble_eq_true rfl) (Nat.le_of_ble_eq_true rfl) dX8_copies_39 (by
            refine ⟨rfl, rfl, ?_, fr⟩
            have e : k = 1818 := by omega
            subst e
            exact t.2.2)
        · exfalso; omega
      | succ m ih =>
        intro k G hm k0 k1 t fr
        obtain ⟨⟨hx, ha, hxa⟩, ⟨w1, w2, w3, w5, w6, w7, w8, w9, hF⟩, hg⟩ := id t
        refine z_iload_n3 hZ dX8_copies_2 ?_
        refine z_sipush hZ dX8_copies_3 rfl ?_
        refine z_icmp_ge hZ (tgt := 39) dX8_copies_6 rfl (by omega) (fun hc6 => ?_) (fun hc6 => ?_)
        · exfalso; omega
        · refine z_aload_n0 hZ dX8_copies_9 ?_
          refine z_gf_X8_s hZ dX8_copies_10 fl_X8_7 (by assumption) (by assumption) ?_
          refine z_sipush hZ dX8_copies_13 rfl ?_
          refine z_iload_n2 hZ dX8_copies_16 ?_
          refine z_imul hZ dX8_copies_17 ?_
          refine z_iload_n3 hZ dX8_copies_18 ?_
          refine z_iadd hZ dX8_copies_19 ?_
          refine z_aload_n0 hZ dX8_copies_20 ?_
          refine z_gf_X8_s hZ dX8_copies_21 fl_X8_7 (by assumption) (by assumption) ?_
          refine z_sipush hZ dX8_copies_24 rfl ?_
          refine z_iload_n1 hZ dX8_copies_27 ?_
          refine z_imul hZ dX8_copies_28 ?_
          refine z_iload_n3 hZ dX8_copies_29 ?_
          refine z_iadd hZ dX8_copies_30 ?_
          refine z_iald hZ dX8_copies_31 (by assumption) (by assumption) (by omega) (by exact if_neg (by omega)) ?_
          refine z_iastore hZ dX8_copies_32 (by assumption) (by assumption) (by omega) (fun F32 hF32 hf32 => ?_)
          have hF := (hf32 x hxa).trans hF
          have hg := hF32
          have t := t.mv hF32 hf32
          have fr := fa.tr fr hf32
          refine z_iinc3 hZ dX8_copies_33 (by decide) rfl ?_
          refine z_goto hZ (tgt := 2) dX8_copies_36 rfl ?_
          rw [cpK_s k0] at t
          exact ih (k + 1) _ (by omega) (by omega) (by omega) t fr
    refine z_iconst hZ dX8_copies_0 ?_
    refine z_istore_n3 hZ dX8_copies_1 (by decide) rfl ?_
    exact l1 _ 0 F rfl (by omega) (by omega) (by rw [cpK_0]; exact t) fa.rf
  exact hgo
set_option maxRecDepth 100000 in
set_option maxHeartbeats 4000000 in
theorem m_X8_takesOut (l : Launch) {L : List Nat} {F : Nat → PE} {x a : Nat} {g : Int → Int} {kd i j : Int} (t : ms L F x a g kd) (r : 0 ≤ g 0 ∧ g 0 ≤ 200 ∧ 0 ≤ g 1 ∧ g 1 ≤ g 0 ∧ -1 ≤ g 2 ∧ g 2 ≤ g 0) (hi : 0 ≤ i ∧ i ≤ j ∧ j ≤ g 0) : PM l yX8_takesOut cX8_takesOut 4 none (rm 2 0 0) L [.ref x, .int (iI i), .int (iI j)] F (fun v9 L1 F1 => v9 = none ∧ L = L1 ∧ F1 a = eI 0 18180 (vTk i j g) ∧ ∀ b, b ≠ a → F1 b = F b) (fun _ _ _ => False) := by
  refine pm_of cd_X8_takesOut (by decide +kernel) (Nat.le_of_ble_eq_true rfl) (fun ZZ hZ => ?_)
  have hgo : ZZ 0 0 0 [some (.ref x), some (.int (iI i)), some (.int (iI j)), none] [] L F := by
    have l1 : ∀ (m : Nat) (k : Int) (G : Nat → PE), (g 0 - k).toNat = m → j ≤ k → k ≤ g 0 → ms L G x a (shK g i j k) kd → fa a F G → ZZ 0 0 2 [some (.ref x), some (.int (iI i)), some (.int (iI j)), some (.int (iI k))] [] L G := by
      intro m
      induction m with
      | zero =>
        intro k G hm k0 k1 t fr
        obtain ⟨⟨hx, ha, hxa⟩, ⟨w1, w2, w3, w5, w6, w7, w8, w9, hF⟩, hg⟩ := id t
        refine z_iload_n3 hZ dX8_takesOut_2 ?_
        refine z_aload_n0 hZ dX8_takesOut_3 ?_
        refine z_gf_X8_s hZ dX8_takesOut_4 fl_X8_7 (by assumption) (by assumption) ?_
        refine z_iconst hZ dX8_takesOut_7 ?_
        refine z_iald hZ dX8_takesOut_8 (by assumption) (by assumption) (by omega) (by first | exact (wu_n (by omega)).trans (by first | exact (wu_n (by omega)).trans (by first | exact (wu_n (by omega)).trans (by first | exact (wu_n (by omega)).trans (by first | exact (wu_n (by omega)).trans (by first | exact (wu_n (by omega)).trans (by first | exact if_neg (by omega) | rfl) | exact wu_s | exact wu_e (by omega) | exact if_neg (by omega) | rfl) | exact wu_s | exact wu_e (by omega) | exact if_neg (by omega) | rfl) | exact wu_s | exact wu_e (by omega) | exact if_neg (by omega) | rfl) | exact wu_s | exact wu_e (by omega) | exact if_neg (by omega) | rfl) | exact wu_s | exact wu_e (by omega) | exact if_neg (by omega) | rfl) | exact wu_s | exact wu_e (by omega) | exact if_neg (by omega) | rfl) ?_
        refine z_icmp_ge hZ (tgt := 36) dX8_takesOut_9 rfl (by omega) (fun hc9 => ?_) (fun hc9 => ?_)
        · refine z_aload_n0 hZ dX8_takesOut_36 ?_
          refine z_gf_X8_s hZ dX8_takesOut_37 fl_X8_7 (by assumption) (by assumption) ?_
          refine z_iconst hZ dX8_takesOut_40 ?_
          refine z_dup2 hZ dX8_takesOut_41 rfl rfl ?_
          refine z_iald hZ dX8_takesOut_42 (by assumption) (by assumption) (by omega) (by first | exact (wu_n (by omega)).trans (by first | exact (wu_n (by omega)).trans (by first | exact (wu_n (by omega)).trans (by first | exact (wu_n (by omega)).trans (by first | exact (wu_n (by omega)).trans (by first | exact (wu_n (by omega)).trans (by first | exact if_neg (by omega) | rfl) | exact wu_s | exact wu_e (by omega) | exact if_neg (by omega) | rfl) | exact wu_s | exact wu_e (by omega) | exact if_neg (by omega) | rfl) | exact wu_s | exact wu_e (by omega) | exact if_neg (by omega) | rfl) | exact wu_s | exact wu_e (by omega) | exact if_neg (by omega) | rfl) | exact wu_s | exact wu_e (by omega) | exact if_neg (by omega) | rfl) | exact wu_s | exact wu_e (by omega) | exact if_neg (by omega) | rfl) ?_
          refine z_iload_n2 hZ dX8_takesOut_43 ?_
          refine z_iload_n1 hZ dX8_takesOut_44 ?_
          refine z_isub hZ dX8_takesOut_45 ?_
          refine z_isub hZ dX8_takesOut_46 ?_
          refine z_iastore hZ dX8_takesOut_47 (by assumption) (by assumption) (by omega) (fun F47 hF47 hf47 => ?_)
          have hF := (hf47 x hxa).trans hF
          have hg := hF47
          have t := t.mv hF47 hf47
          have fr := fa.tr fr hf47
          refine z_aload_n0 hZ dX8_takesOut_48 ?_
          refine z_gf_X8_s hZ dX8_takesOut_49 fl_X8_7 (by assumption) (by assumption) ?_
          refine z_iconst hZ dX8_takesOut_52 ?_
          refine z_aload_n0 hZ dX8_takesOut_53 ?_
          refine z_gf_X8_s hZ dX8_takesOut_54 fl_X8_7 (by assumption) (by assumption) ?_
          refine z_iconst hZ dX8_takesOut_57 ?_
          refine z_iald hZ dX8_takesOut_58 (by assumption) (by assumption) (by omega) (by first | exact (wu_n (by omega)).trans (by first | exact (wu_n (by omega)).trans (by first | exact (wu_n (by omega)).trans (by first | exact (wu_n (by omega)).trans (by first | exact (wu_n (by omega)).trans (by first | exact (wu_n (by omega)).trans (by first | exact if_neg (by omega) | rfl) | exact wu_s | exact wu_e (by omega) | exact if_neg (by omega) | rfl) | exact wu_s | exact wu_e (by omega) | exact if_neg (by omega) | rfl) | exact wu_s | exact wu_e (by omega) | exact if_neg (by omega) | rfl) | exact wu_s | exact wu_e (by omega) | exact if_neg (by omega) | rfl) | exact wu_s | exact wu_e (by omega) | exact if_neg (by omega) | rfl) | exact wu_s | exact wu_e (by omega) | exact if_neg (by omega) | rfl) ?_
          refine z_iload_n1 hZ dX8_takesOut_59 ?_
          refine z_iload_n2 hZ dX8_takesOut_60 ?_
          refine z_cS hZ (As := [_, _, _]) rfl dX8_takesOut_61 ml_X8_47 wy_X8_moved (m_X8_moved l (by omega)) ⟨Nat.le_of_ble_eq_true rfl, Nat.le_of_ble_eq_true rfl⟩ ⟨Nat.le_of_ble_eq_true rfl, Nat.le_of_ble_eq_true rfl⟩ (Nat.le_of_ble_eq_true rfl) (fun _ _ _ h => h.elim) (fun v61 L61 G61 hp61 => ?_)
          obtain ⟨rfl, rfl, rfl⟩ := hp61
          refine z_iastore hZ dX8_takesOut_64 (by assumption) (by assumption) (by omega) (fun F64 hF64 hf64 => ?_)
          have hF := (hf64 x hxa).trans hF
          have hg := hF64
          have t := t.mv hF64 hf64
          have fr := fa.tr fr hf64
          refine z_aload_n0 hZ dX8_takesOut_65 ?_
          refine z_gf_X8_s hZ dX8_takesOut_66 fl_X8_7 (by assumption) (by assumption) ?_
          refine z_iconst hZ dX8_takesOut_69 ?_
          refine z_aload_n0 hZ dX8_takesOut_70 ?_
          refine z_gf_X8_s hZ dX8_takesOut_71 fl_X8_7 (by assumption) (by assumption) ?_
          refine z_iconst hZ dX8_takesOut_74 ?_
          refine z_iald hZ dX8_takesOut_75 (by assumption) (by assumption) (by omega) (by first | exact (wu_n (by omega)).trans (by first | exact (wu_n (by omega)).trans (by first | exact (wu_n (by omega)).trans (by first | exact (wu_n (by omega)).trans (by first | exact (wu_n (by omega)).trans (by first | exact (wu_n (by omega)).trans (by first | exact if_neg (by omega) | rfl) | exact wu_s | exact wu_e (by omega) | exact if_neg (by omega) | rfl) | exact wu_s | exact wu_e (by omega) | exact if_neg (by omega) | rfl) | exact wu_s | exact wu_e (by omega) | exact if_neg (by omega) | rfl) | exact wu_s | exact wu_e (by omega) | exact if_neg (by omega) | rfl) | exact wu_s | exact wu_e (by omega) | exact if_neg (by omega) | rfl) | exact wu_s | exact wu_e (by omega) | exact if_neg (by omega) | rfl) ?_
          refine z_iload_n1 hZ dX8_takesOut_76 ?_
          refine z_iload_n2 hZ dX8_takesOut_77 ?_
          refine z_cS hZ (As := [_, _, _]) rfl dX8_takesOut_78 ml_X8_47 wy_X8_moved (m_X8_moved l (by omega)) ⟨Nat.le_of_ble_eq_true rfl, Nat.le_of_ble_eq_true rfl⟩ ⟨Nat.le_of_ble_eq_true rfl, Nat.le_of_ble_eq_true rfl⟩ (Nat.le_of_ble_eq_true rfl) (fun _ _ _ h => h.elim) (fun v78 L78 G78 hp78 => ?_)
          obtain ⟨rfl, rfl, rfl⟩ := hp78
          refine z_iastore hZ dX8_takesOut_81 (by assumption) (by assumption) (by omega) (fun F81 hF81 hf81 => ?_)
          have hF := (hf81 x hxa).trans hF
          have hg := hF81
          have t := t.mv hF81 hf81
          have fr := fa.tr fr hf81
          exact z_vret hZ rfl (Nat.le_of_ble_eq_true rfl) (Nat.le_of_ble_eq_true rfl) dX8_takesOut_82 (by
            refine ⟨rfl, rfl, ?_, fr⟩
            have e : k = g 0 := by omega
            subst e
            exact hg)
        · exfalso; omega
      | succ m ih =>
        intro k G hm k0 k1 t fr
        obtain ⟨⟨hx, ha, hxa⟩, ⟨w1, w2, w3, w5, w6, w7, w8, w9, hF⟩, hg⟩ := id t
        refine z_iload_n3 hZ dX8_takesOut_2 ?_
        refine z_aload_n0 hZ dX8_takesOut_3 ?_
        refine z_gf_X8_s hZ dX8_takesOut_4 fl_X8_7 (by assumption) (by assumption) ?_
        refine z_iconst hZ dX8_takesOut_7 ?_
        refine z_iald hZ dX8_takesOut_8 (by assumption) (by assumption) (by omega) (by first | exact (wu_n (by omega)).trans (by first | exact (wu_n (by omega)).trans (by first | exact (wu_n (by omega)).trans (by first | exact (wu_n (by omega)).trans (by first | exact (wu_n (by omega)).trans (by first | exact (wu_n (by omega)).trans (by first | exact if_neg (by omega) | rfl) | exact wu_s | exact wu_e (by omega) | exact if_neg (by omega) | rfl) | exact wu_s | exact wu_e (by omega) | exact if_neg (by omega) | rfl) | exact wu_s | exact wu_e (by omega) | exact if_neg (by omega) | rfl) | exact wu_s | exact wu_e (by omega) | exact if_neg (by omega) | rfl) | exact wu_s | exact wu_e (by omega) | exact if_neg (by omega) | rfl) | exact wu_s | exact wu_e (by omega) | exact if_neg (by omega) | rfl) ?_
        refine z_icmp_ge hZ (tgt := 36) dX8_takesOut_9 rfl (by omega) (fun hc9 => ?_) (fun hc9 => ?_)
        · exfalso; omega
        · refine z_aload_n0 hZ dX8_takesOut_12 ?_
          refine z_gf_X8_s hZ dX8_takesOut_13 fl_X8_7 (by assumption) (by assumption) ?_
          refine z_bipush hZ dX8_takesOut_16 rfl ?_
          refine z_iload_n3 hZ dX8_takesOut_18 ?_
          refine z_iadd hZ dX8_takesOut_19 ?_
          refine z_iload_n2 hZ dX8_takesOut_20 ?_
          refine z_iload_n1 hZ dX8_takesOut_21 ?_
          refine z_isub hZ dX8_takesOut_22 ?_
          refine z_isub hZ dX8_takesOut_23 ?_
          refine z_aload_n0 hZ dX8_takesOut_24 ?_
          refine z_iload_n3 hZ dX8_takesOut_25 ?_
          refine z_cV hZ (As := [_]) rfl dX8_takesOut_26 ml_X8_36 wy_X8_code (m_X8_code l t (by omega)) (by assumption) (by assumption) rfl ⟨Nat.le_of_ble_eq_true rfl, Nat.le_of_ble_eq_true rfl⟩ ⟨Nat.le_of_ble_eq_true rfl, Nat.le_of_ble_eq_true rfl⟩ (Nat.le_of_ble_eq_true rfl) (fun _ _ _ h => h.elim) (fun v26 L26 G26 hp26 => ?_)
          obtain ⟨rfl, rfl, rfl⟩ := hp26
          refine z_iastore hZ dX8_takesOut_29 (by assumption) (by assumption) (by omega) (fun F29 hF29 hf29 => ?_)
          have hF := (hf29 x hxa).trans hF
          have hg := hF29
          have t := t.mv hF29 hf29
          have fr := fa.tr fr hf29
          refine z_iinc3 hZ dX8_takesOut_30 (by decide) rfl ?_
          refine z_goto hZ (tgt := 2) dX8_takesOut_33 rfl ?_
          rw [shK_s (by omega)] at t
          exact ih (k + 1) _ (by omega) (by omega) (by omega) t fr
    refine z_iload_n2 hZ dX8_takesOut_0 ?_
    refine z_istore_n3 hZ dX8_takesOut_1 (by decide) rfl ?_
    exact l1 _ j F rfl (by omega) (by omega) (by rw [shK_0]; exact t) fa.rf
  exact hgo
set_option maxRecDepth 100000 in
set_option maxHeartbeats 4000000 in
theorem m_X8_parts (l : Launch) {L : List Nat} {F : Nat → PE} {x a : Nat} {g : Int → Int} {kd m : Int} (t : ms L F x a g kd) (r : 0 ≤ g 0 ∧ g 0 ≤ 200 ∧ 0 ≤ g 1 ∧ g 1 ≤ g 0 ∧ -1 ≤ g 2 ∧ g 2 ≤ g 0) (hm : 0 ≤ m ∧ m ≤ 200) : PM l yX8_parts cX8_parts 3 none (rm 2 0 0) L [.ref x, .int (iI m)] F (fun v9 L1 F1 => v9 = none ∧ L = L1 ∧ F1 a = eI 0 18180 (vPar m g) ∧ ∀ b, b ≠ a → F1 b = F b) (fun _ _ _ => False) := by
  refine pm_of cd_X8_parts (by decide +kernel) (Nat.le_of_ble_eq_true rfl) (fun ZZ hZ => ?_)
  have hgo : ZZ 0 0 0 [some (.ref x), some (.int (iI m)), none] [] L F := by
    have l1 : ∀ (w : Nat) (k : Int) (G : Nat → PE), (k - g 1 + 1).toNat = w → g 1 - 1 ≤ k → k < g 0 → ms L G x a (shT g m k) kd → fa a F G → ZZ 0 0 9 [some (.ref x), some (.int (iI m)), some (.int (iI k))] [] L G := by
      intro w
      induction w with
      | zero =>
        intro k G hw k0 k1 t fr
        have e : k = g 1 - 1 := by omega
        subst e
        rw [shT_e] at t
        obtain ⟨⟨hx, ha, hxa⟩, ⟨w1, w2, w3, w5, w6, w7, w8, w9, hF⟩, hg⟩ := id t
        refine z_iload_n2 hZ dX8_parts_9 ?_
        refine z_aload_n0 hZ dX8_parts_10 ?_
        refine z_gf_X8_s hZ dX8_parts_11 fl_X8_7 (by assumption) (by assumption) ?_
        refine z_iconst hZ dX8_parts_14 ?_
        refine z_iald hZ dX8_parts_15 (by assumption) (by assumption) (by omega) (by first | exact (wu_n (by omega)).trans (by first | exact (wu_n (by omega)).trans (by first | exact (wu_n (by omega)).trans (by first | exact (wu_n (by omega)).trans (by first | exact (wu_n (by omega)).trans (by first | exact (wu_n (by omega)).trans (by first | exact if_neg (by omega) | rfl) | exact wu_s | exact wu_e (by omega) | exact if_neg (by omega) | rfl) | exact wu_s | exact wu_e (by omega) | exact if_neg (by omega) | rfl) | exact wu_s | exact wu_e (by omega) | exact if_neg (by omega) | rfl) | exact wu_s | exact wu_e (by omega) | exact if_neg (by omega) | rfl) | exact wu_s | exact wu_e (by omega) | exact if_neg (by omega) | rfl) | exact wu_s | exact wu_e (by omega) | exact if_neg (by omega) | rfl) ?_
        refine z_icmp_lt hZ (tgt := 41) dX8_parts_16 rfl (by omega) (fun hc16 => ?_) (fun hc16 => ?_)
        · refine z_aload_n0 hZ dX8_parts_41 ?_
          refine z_gf_X8_s hZ dX8_parts_42 fl_X8_7 (by assumption) (by assumption) ?_
          refine z_iconst hZ dX8_parts_45 ?_
          refine z_dup2 hZ dX8_parts_46 rfl rfl ?_
          refine z_iald hZ dX8_parts_47 (by assumption) (by assumption) (by omega) (by first | exact (wu_n (by omega)).trans (by first | exact (wu_n (by omega)).trans (by first | exact (wu_n (by omega)).trans (by first | exact (wu_n (by omega)).trans (by first | exact (wu_n (by omega)).trans (by first | exact (wu_n (by omega)).trans (by first | exact if_neg (by omega) | rfl) | exact wu_s | exact wu_e (by omega) | exact if_neg (by omega) | rfl) | exact wu_s | exact wu_e (by omega) | exact if_neg (by omega) | rfl) | exact wu_s | exact wu_e (by omega) | exact if_neg (by omega) | rfl) | exact wu_s | exact wu_e (by omega) | exact if_neg (by omega) | rfl) | exact wu_s | exact wu_e (by omega) | exact if_neg (by omega) | rfl) | exact wu_s | exact wu_e (by omega) | exact if_neg (by omega) | rfl) ?_
          refine z_iload_n1 hZ dX8_parts_48 ?_
          refine z_iadd hZ dX8_parts_49 ?_
          refine z_iastore hZ dX8_parts_50 (by assumption) (by assumption) (by omega) (fun F50 hF50 hf50 => ?_)
          have hF := (hf50 x hxa).trans hF
          have hg := hF50
          have t := t.mv hF50 hf50
          have fr := fa.tr fr hf50
          refine z_aload_n0 hZ dX8_parts_51 ?_
          refine z_gf_X8_s hZ dX8_parts_52 fl_X8_7 (by assumption) (by assumption) ?_
          refine z_iconst hZ dX8_parts_55 ?_
          refine z_dup2 hZ dX8_parts_56 rfl rfl ?_
          refine z_iald hZ dX8_parts_57 (by assumption) (by assumption) (by omega) (by first | exact (wu_n (by omega)).trans (by first | exact (wu_n (by omega)).trans (by first | exact (wu_n (by omega)).trans (by first | exact (wu_n (by omega)).trans (by first | exact (wu_n (by omega)).trans (by first | exact (wu_n (by omega)).trans (by first | exact if_neg (by omega) | rfl) | exact wu_s | exact wu_e (by omega) | exact if_neg (by omega) | rfl) | exact wu_s | exact wu_e (by omega) | exact if_neg (by omega) | rfl) | exact wu_s | exact wu_e (by omega) | exact if_neg (by omega) | rfl) | exact wu_s | exact wu_e (by omega) | exact if_neg (by omega) | rfl) | exact wu_s | exact wu_e (by omega) | exact if_neg (by omega) | rfl) | exact wu_s | exact wu_e (by omega) | exact if_neg (by omega) | rfl) ?_
          refine z_aload_n0 hZ dX8_parts_58 ?_
          refine z_gf_X8_s hZ dX8_parts_59 fl_X8_7 (by assumption) (by assumption) ?_
          refine z_iconst hZ dX8_parts_62 ?_
          refine z_iald hZ dX8_parts_63 (by assumption) (by assumption) (by omega) (by first | exact (wu_n (by omega)).trans (by first | exact (wu_n (by omega)).trans (by first | exact (wu_n (by omega)).trans (by first | exact (wu_n (by omega)).trans (by first | exact (wu_n (by omega)).trans (by first | exact (wu_n (by omega)).trans (by first | exact if_neg (by omega) | rfl) | exact wu_s | exact wu_e (by omega) | exact if_neg (by omega) | rfl) | exact wu_s | exact wu_e (by omega) | exact if_neg (by omega) | rfl) | exact wu_s | exact wu_e (by omega) | exact if_neg (by omega) | rfl) | exact wu_s | exact wu_e (by omega) | exact if_neg (by omega) | rfl) | exact wu_s | exact wu_e (by omega) | exact if_neg (by omega) | rfl) | exact wu_s | exact wu_e (by omega) | exact if_neg (by omega) | rfl) ?_
          refine z_aload_n0 hZ dX8_parts_64 ?_
          refine z_gf_X8_s hZ dX8_parts_65 fl_X8_7 (by assumption) (by assumption) ?_
          refine z_iconst hZ dX8_parts_68 ?_
          refine z_iald hZ dX8_parts_69 (by assumption) (by assumption) (by omega) (by first | exact (wu_n (by omega)).trans (by first | exact (wu_n (by omega)).trans (by first | exact (wu_n (by omega)).trans (by first | exact (wu_n (by omega)).trans (by first | exact (wu_n (by omega)).trans (by first | exact (wu_n (by omega)).trans (by first | exact if_neg (by omega) | rfl) | exact wu_s | exact wu_e (by omega) | exact if_neg (by omega) | rfl) | exact wu_s | exact wu_e (by omega) | exact if_neg (by omega) | rfl) | exact wu_s | exact wu_e (by omega) | exact if_neg (by omega) | rfl) | exact wu_s | exact wu_e (by omega) | exact if_neg (by omega) | rfl) | exact wu_s | exact wu_e (by omega) | exact if_neg (by omega) | rfl) | exact wu_s | exact wu_e (by omega) | exact if_neg (by omega) | rfl) ?_
          refine z_icmp_le hZ (tgt := 77) dX8_parts_70 rfl (by omega) (fun hc70 => ?_) (fun hc70 => ?_)
          · refine z_iconst hZ dX8_parts_77 ?_
            refine z_iadd hZ dX8_parts_78 ?_
            refine z_iastore hZ dX8_parts_79 (by assumption) (by assumption) (by omega) (fun F79 hF79 hf79 => ?_)
            have hF := (hf79 x hxa).trans hF
            have hg := hF79
            have t := t.mv hF79 hf79
            have fr := fa.tr fr hf79
            exact z_vret hZ rfl (Nat.le_of_ble_eq_true rfl) (Nat.le_of_ble_eq_true rfl) dX8_parts_80 (by
            refine ⟨rfl, rfl, ?_, fr⟩
            first
              | exact hg.trans (by unfold vPar; rw [if_pos (by omega)])
              | exact hg.trans (by unfold vPar; rw [if_neg (by omega)]))
          · refine z_iload_n1 hZ dX8_parts_73 ?_
            refine z_goto hZ (tgt := 78) dX8_parts_74 rfl ?_
            refine z_iadd hZ dX8_parts_78 ?_
            refine z_iastore hZ dX8_parts_79 (by assumption) (by assumption) (by omega) (fun F79 hF79 hf79 => ?_)
            have hF := (hf79 x hxa).trans hF
            have hg := hF79
            have t := t.mv hF79 hf79
            have fr := fa.tr fr hf79
            exact z_vret hZ rfl (Nat.le_of_ble_eq_true rfl) (Nat.le_of_ble_eq_true rfl) dX8_parts_80 (by
            refine ⟨rfl, rfl, ?_, fr⟩
            first
              | exact hg.trans (by unfold vPar; rw [if_pos (by omega)])
              | exact hg.trans (by unfold vPar; rw [if_neg (by omega)]))
        · exfalso; omega
      | succ w ih =>
        intro k G hw k0 k1 t fr
        obtain ⟨⟨hx, ha, hxa⟩, ⟨w1, w2, w3, w5, w6, w7, w8, w9, hF⟩, hg⟩ := id t
        refine z_iload_n2 hZ dX8_parts_9 ?_
        refine z_aload_n0 hZ dX8_parts_10 ?_
        refine z_gf_X8_s hZ dX8_parts_11 fl_X8_7 (by assumption) (by assumption) ?_
        refine z_iconst hZ dX8_parts_14 ?_
        refine z_iald hZ dX8_parts_15 (by assumption) (by assumption) (by omega) (by first | exact (wu_n (by omega)).trans (by first | exact (wu_n (by omega)).trans (by first | exact (wu_n (by omega)).trans (by first | exact (wu_n (by omega)).trans (by first | exact (wu_n (by omega)).trans (by first | exact (wu_n (by omega)).trans (by first | exact if_neg (by omega) | rfl) | exact wu_s | exact wu_e (by omega) | exact if_neg (by omega) | rfl) | exact wu_s | exact wu_e (by omega) | exact if_neg (by omega) | rfl) | exact wu_s | exact wu_e (by omega) | exact if_neg (by omega) | rfl) | exact wu_s | exact wu_e (by omega) | exact if_neg (by omega) | rfl) | exact wu_s | exact wu_e (by omega) | exact if_neg (by omega) | rfl) | exact wu_s | exact wu_e (by omega) | exact if_neg (by omega) | rfl) ?_
        refine z_icmp_lt hZ (tgt := 41) dX8_parts_16 rfl (by omega) (fun hc16 => ?_) (fun hc16 => ?_)
        · exfalso; omega
        · refine z_aload_n0 hZ dX8_parts_19 ?_
          refine z_gf_X8_s hZ dX8_parts_20 fl_X8_7 (by assumption) (by assumption) ?_
          refine z_bipush hZ dX8_parts_23 rfl ?_
          refine z_iload_n2 hZ dX8_parts_25 ?_
          refine z_iadd hZ dX8_parts_26 ?_
          refine z_iload_n1 hZ dX8_parts_27 ?_
          refine z_iadd hZ dX8_parts_28 ?_
          refine z_aload_n0 hZ dX8_parts_29 ?_
          refine z_iload_n2 hZ dX8_parts_30 ?_
          refine z_cV hZ (As := [_]) rfl dX8_parts_31 ml_X8_36 wy_X8_code (m_X8_code l t (by omega)) (by assumption) (by assumption) rfl ⟨Nat.le_of_ble_eq_true rfl, Nat.le_of_ble_eq_true rfl⟩ ⟨Nat.le_of_ble_eq_true rfl, Nat.le_of_ble_eq_true rfl⟩ (Nat.le_of_ble_eq_true rfl) (fun _ _ _ h => h.elim) (fun v31 L31 G31 hp31 => ?_)
          obtain ⟨rfl, rfl, rfl⟩ := hp31
          refine z_iastore hZ dX8_parts_34 (by assumption) (by assumption) (by omega) (fun F34 hF34 hf34 => ?_)
          have hF := (hf34 x hxa).trans hF
          have hg := hF34
          have t := t.mv hF34 hf34
          have fr := fa.tr fr hf34
          refine z_iinc2 hZ dX8_parts_35 (by decide) rfl ?_
          refine z_goto hZ (tgt := 9) dX8_parts_38 rfl ?_
          rw [shT_s (by omega)] at t
          exact ih (k + -1) _ (by omega) (by omega) (by omega) t fr
    obtain ⟨⟨hx, ha, hxa⟩, ⟨w1, w2, w3, w5, w6, w7, w8, w9, hF⟩, hg⟩ := id t
    refine z_aload_n0 hZ dX8_parts_0 ?_
    refine z_gf_X8_s hZ dX8_parts_1 fl_X8_7 (by assumption) (by assumption) ?_
    refine z_iconst hZ dX8_parts_4 ?_
    refine z_iald hZ dX8_parts_5 (by assumption) (by assumption) (by omega) (by first | exact (wu_n (by omega)).trans (by first | exact (wu_n (by omega)).trans (by first | exact (wu_n (by omega)).trans (by first | exact (wu_n (by omega)).trans (by first | exact (wu_n (by omega)).trans (by first | exact (wu_n (by omega)).trans (by first | exact if_neg (by omega) | rfl) | exact wu_s | exact wu_e (by omega) | exact if_neg (by omega) | rfl) | exact wu_s | exact wu_e (by omega) | exact if_neg (by omega) | rfl) | exact wu_s | exact wu_e (by omega) | exact if_neg (by omega) | rfl) | exact wu_s | exact wu_e (by omega) | exact if_neg (by omega) | rfl) | exact wu_s | exact wu_e (by omega) | exact if_neg (by omega) | rfl) | exact wu_s | exact wu_e (by omega) | exact if_neg (by omega) | rfl) ?_
    refine z_iconst hZ dX8_parts_6 ?_
    refine z_isub hZ dX8_parts_7 ?_
    refine z_istore_n2 hZ dX8_parts_8 (by decide) rfl ?_
    exact l1 _ (g 0 - 1) F rfl (by omega) (by omega) (by rw [shT_0]; exact t) fa.rf
  exact hgo
set_option maxRecDepth 100000 in
set_option maxHeartbeats 4000000 in
theorem m_X8_writes (l : Launch) {L : List Nat} {F : Nat → PE} {x a : Nat} {g : Int → Int} {kd c : Int} (t : ms L F x a g kd) (r : 0 ≤ g 0 ∧ g 0 ≤ 200 ∧ 0 ≤ g 1 ∧ g 1 ≤ g 0 ∧ -1 ≤ g 2 ∧ g 2 ≤ g 0) : PM l yX8_writes cX8_writes 2 (some .int) (rm 3 0 0) L [.ref x, .int (iI c)] F (fun v9 L1 F1 => v9 = some (.int (iI (if g 0 < 200 then g 0 + 1 else -1))) ∧ L = L1 ∧ F1 a = eI 0 18180 (if g 0 < 200 then vWr c g else g) ∧ ∀ b, b ≠ a → F1 b = F b) (fun _ _ _ => False) := by
  refine pm_of cd_X8_writes (by decide +kernel) (Nat.le_of_ble_eq_true rfl) (fun ZZ hZ => ?_)
  have hgo : ZZ 0 0 0 [some (.ref x), some (.int (iI c))] [] L F := by
    obtain ⟨⟨hx, ha, hxa⟩, ⟨w1, w2, w3, w5, w6, w7, w8, w9, hF⟩, hg⟩ := id t
    have fr : fa a F F := fa.rf
    refine z_aload_n0 hZ dX8_writes_0 ?_
    refine z_gf_X8_s hZ dX8_writes_1 fl_X8_7 (by assumption) (by assumption) ?_
    refine z_iconst hZ dX8_writes_4 ?_
    refine z_iald hZ dX8_writes_5 (by assumption) (by assumption) (by omega) (by first | exact (wu_n (by omega)).trans (by first | exact (wu_n (by omega)).trans (by first | exact (wu_n (by omega)).trans (by first | exact (wu_n (by omega)).trans (by first | exact (wu_n (by omega)).trans (by first | exact (wu_n (by omega)).trans (by first | exact if_neg (by omega) | rfl) | exact wu_s | exact wu_e (by omega) | exact if_neg (by omega) | rfl) | exact wu_s | exact wu_e (by omega) | exact if_neg (by omega) | rfl) | exact wu_s | exact wu_e (by omega) | exact if_neg (by omega) | rfl) | exact wu_s | exact wu_e (by omega) | exact if_neg (by omega) | rfl) | exact wu_s | exact wu_e (by omega) | exact if_neg (by omega) | rfl) | exact wu_s | exact wu_e (by omega) | exact if_neg (by omega) | rfl) ?_
    refine z_sipush hZ dX8_writes_6 rfl ?_
    refine z_icmp_ne hZ (tgt := 14) dX8_writes_9 rfl (by omega) (fun hc9 => ?_) (fun hc9 => ?_)
    · refine z_aload_n0 hZ dX8_writes_14 ?_
      refine z_iconst hZ dX8_writes_15 ?_
      refine z_cV hZ (As := [_]) rfl dX8_writes_16 ml_X8_51 wy_X8_parts (m_X8_parts l t r (by omega)) (by assumption) (by assumption) rfl ⟨Nat.le_of_ble_eq_true rfl, Nat.le_of_ble_eq_true rfl⟩ ⟨Nat.le_of_ble_eq_true rfl, Nat.le_of_ble_eq_true rfl⟩ (Nat.le_of_ble_eq_true rfl) (fun _ _ _ h => h.elim) (fun v16 L16 G16 hp16 => ?_)
      obtain ⟨rfl, rfl, hg, f16⟩ := hp16
      have hF := (f16 x hxa).trans hF
      have t := t.mv hg f16
      have fr := fa.tr fr f16
      refine z_aload_n0 hZ dX8_writes_19 ?_
      refine z_gf_X8_s hZ dX8_writes_20 fl_X8_7 (by assumption) (by assumption) ?_
      refine z_bipush hZ dX8_writes_23 rfl ?_
      refine z_aload_n0 hZ dX8_writes_25 ?_
      refine z_gf_X8_s hZ dX8_writes_26 fl_X8_7 (by assumption) (by assumption) ?_
      refine z_iconst hZ dX8_writes_29 ?_
      refine z_iald hZ dX8_writes_30 (by assumption) (by assumption) (by omega) (by first | exact (wu_n (by omega)).trans (by first | exact (wu_n (by omega)).trans (by first | exact (wu_n (by omega)).trans (by first | exact (wu_n (by omega)).trans (by first | exact (wu_n (by omega)).trans (by first | exact (wu_n (by omega)).trans (by first | exact if_neg (by omega) | rfl) | exact wu_s | exact wu_e (by omega) | exact if_neg (by omega) | rfl) | exact wu_s | exact wu_e (by omega) | exact if_neg (by omega) | rfl) | exact wu_s | exact wu_e (by omega) | exact if_neg (by omega) | rfl) | exact wu_s | exact wu_e (by omega) | exact if_neg (by omega) | rfl) | exact wu_s | exact wu_e (by omega) | exact if_neg (by omega) | rfl) | exact wu_s | exact wu_e (by omega) | exact if_neg (by omega) | rfl) ?_
      refine z_iadd hZ dX8_writes_31 ?_
      refine z_iload_n1 hZ dX8_writes_32 ?_
      refine z_iastore hZ dX8_writes_33 (by assumption) (by assumption) (by omega) (fun F33 hF33 hf33 => ?_)
      have hF := (hf33 x hxa).trans hF
      have hg := hF33
      have t := t.mv hF33 hf33
      have fr := fa.tr fr hf33
      refine z_aload_n0 hZ dX8_writes_34 ?_
      refine z_gf_X8_s hZ dX8_writes_35 fl_X8_7 (by assumption) (by assumption) ?_
      refine z_iconst hZ dX8_writes_38 ?_
      refine z_dup2 hZ dX8_writes_39 rfl rfl ?_
      refine z_iald hZ dX8_writes_40 (by assumption) (by assumption) (by omega) (by first | exact (wu_n (by omega)).trans (by first | exact (wu_n (by omega)).trans (by first | exact (wu_n (by omega)).trans (by first | exact (wu_n (by omega)).trans (by first | exact (wu_n (by omega)).trans (by first | exact (wu_n (by omega)).trans (by first | exact if_neg (by omega) | rfl) | exact wu_s | exact wu_e (by omega) | exact if_neg (by omega) | rfl) | exact wu_s | exact wu_e (by omega) | exact if_neg (by omega) | rfl) | exact wu_s | exact wu_e (by omega) | exact if_neg (by omega) | rfl) | exact wu_s | exact wu_e (by omega) | exact if_neg (by omega) | rfl) | exact wu_s | exact wu_e (by omega) | exact if_neg (by omega) | rfl) | exact wu_s | exact wu_e (by omega) | exact if_neg (by omega) | rfl) ?_
      refine z_iconst hZ dX8_writes_41 ?_
      refine z_iadd hZ dX8_writes_42 ?_
      refine z_iastore hZ dX8_writes_43 (by assumption) (by assumption) (by omega) (fun F43 hF43 hf43 => ?_)
      have hF := (hf43 x hxa).trans hF
      have hg := hF43
      have t := t.mv hF43 hf43
      have fr := fa.tr fr hf43
      refine z_aload_n0 hZ dX8_writes_44 ?_
      refine z_gf_X8_s hZ dX8_writes_45 fl_X8_7 (by assumption) (by assumption) ?_
      refine z_bipush hZ dX8_writes_48 rfl ?_
      refine z_dup2 hZ dX8_writes_50 rfl rfl ?_
      refine z_iald hZ dX8_writes_51 (by assumption) (by assumption) (by omega) (by first | exact (wu_n (by omega)).trans (by first | exact (wu_n (by omega)).trans (by first | exact (wu_n (by omega)).trans (by first | exact (wu_n (by omega)).trans (by first | exact (wu_n (by omega)).trans (by first | exact (wu_n (by omega)).trans (by first | exact if_neg (by omega) | rfl) | exact wu_s | exact wu_e (by omega) | exact if_neg (by omega) | rfl) | exact wu_s | exact wu_e (by omega) | exact if_neg (by omega) | rfl) | exact wu_s | exact wu_e (by omega) | exact if_neg (by omega) | rfl) | exact wu_s | exact wu_e (by omega) | exact if_neg (by omega) | rfl) | exact wu_s | exact wu_e (by omega) | exact if_neg (by omega) | rfl) | exact wu_s | exact wu_e (by omega) | exact if_neg (by omega) | rfl) ?_
      refine z_iconst hZ dX8_writes_52 ?_
      refine z_iadd hZ dX8_writes_53 ?_
      refine z_iastore hZ dX8_writes_54 (by assumption) (by assumption) (by omega) (fun F54 hF54 hf54 => ?_)
      have hF := (hf54 x hxa).trans hF
      have hg := hF54
      have t := t.mv hF54 hf54
      have fr := fa.tr fr hf54
      refine z_aload_n0 hZ dX8_writes_55 ?_
      refine z_gf_X8_s hZ dX8_writes_56 fl_X8_7 (by assumption) (by assumption) ?_
      refine z_iconst hZ dX8_writes_59 ?_
      refine z_iald hZ dX8_writes_60 (by assumption) (by assumption) (by omega) (by first | exact (wu_n (by omega)).trans (by first | exact (wu_n (by omega)).trans (by first | exact (wu_n (by omega)).trans (by first | exact (wu_n (by omega)).trans (by first | exact (wu_n (by omega)).trans (by first | exact (wu_n (by omega)).trans (by first | exact if_neg (by omega) | rfl) | exact wu_s | exact wu_e (by omega) | exact if_neg (by omega) | rfl) | exact wu_s | exact wu_e (by omega) | exact if_neg (by omega) | rfl) | exact wu_s | exact wu_e (by omega) | exact if_neg (by omega) | rfl) | exact wu_s | exact wu_e (by omega) | exact if_neg (by omega) | rfl) | exact wu_s | exact wu_e (by omega) | exact if_neg (by omega) | rfl) | exact wu_s | exact wu_e (by omega) | exact if_neg (by omega) | rfl) ?_
      exact z_iret hZ rfl (Nat.le_of_ble_eq_true rfl) (Nat.le_of_ble_eq_true rfl) dX8_writes_61 (by exact ⟨pv (by rw [if_pos (by omega)]), rfl, by rw [if_pos (by omega)]; exact hg, fr⟩)
    · refine z_iconst hZ dX8_writes_12 ?_
      exact z_iret hZ rfl (Nat.le_of_ble_eq_true rfl) (Nat.le_of_ble_eq_true rfl) dX8_writes_13 (by exact ⟨pv (by rw [if_neg (by omega)]), rfl, by rw [if_neg (by omega)]; exact hg, fr⟩)
  exact hgo
set_option maxRecDepth 100000 in
set_option maxHeartbeats 4000000 in
theorem m_X8_rubs (l : Launch) {L : List Nat} {F : Nat → PE} {x a : Nat} {g : Int → Int} {kd : Int} (t : ms L F x a g kd) (r : 0 ≤ g 0 ∧ g 0 ≤ 200 ∧ 0 ≤ g 1 ∧ g 1 ≤ g 0 ∧ -1 ≤ g 2 ∧ g 2 ≤ g 0) : PM l yX8_rubs cX8_rubs 2 (some .int) (rm 3 0 0) L [.ref x] F (fun v9 L1 F1 => v9 = some (.int (iI (if 0 < g 1 then g (18 + (g 1 - 1)) else -1))) ∧ L = L1 ∧ F1 a = eI 0 18180 (if 0 < g 1 then vRub g else g) ∧ ∀ b, b ≠ a → F1 b = F b) (fun _ _ _ => False) := by
  refine pm_of cd_X8_rubs (by decide +kernel) (Nat.le_of_ble_eq_true rfl) (fun ZZ hZ => ?_)
  have hgo : ZZ 0 0 0 [some (.ref x), none] [] L F := by
    obtain ⟨⟨hx, ha, hxa⟩, ⟨w1, w2, w3, w5, w6, w7, w8, w9, hF⟩, hg⟩ := id t
    have fr : fa a F F := fa.rf
    refine z_aload_n0 hZ dX8_rubs_0 ?_
    refine z_gf_X8_s hZ dX8_rubs_1 fl_X8_7 (by assumption) (by assumption) ?_
    refine z_iconst hZ dX8_rubs_4 ?_
    refine z_iald hZ dX8_rubs_5 (by assumption) (by assumption) (by omega) (by first | exact (wu_n (by omega)).trans (by first | exact (wu_n (by omega)).trans (by first | exact (wu_n (by omega)).trans (by first | exact (wu_n (by omega)).trans (by first | exact (wu_n (by omega)).trans (by first | exact (wu_n (by omega)).trans (by first | exact if_neg (by omega) | rfl) | exact wu_s | exact wu_e (by omega) | exact if_neg (by omega) | rfl) | exact wu_s | exact wu_e (by omega) | exact if_neg (by omega) | rfl) | exact wu_s | exact wu_e (by omega) | exact if_neg (by omega) | rfl) | exact wu_s | exact wu_e (by omega) | exact if_neg (by omega) | rfl) | exact wu_s | exact wu_e (by omega) | exact if_neg (by omega) | rfl) | exact wu_s | exact wu_e (by omega) | exact if_neg (by omega) | rfl) ?_
    refine z_if_ne hZ (tgt := 11) dX8_rubs_6 rfl (by omega) (fun hc6 => ?_) (fun hc6 => ?_)
    · refine z_aload_n0 hZ dX8_rubs_11 ?_
      refine z_aload_n0 hZ dX8_rubs_12 ?_
      refine z_gf_X8_s hZ dX8_rubs_13 fl_X8_7 (by assumption) (by assumption) ?_
      refine z_iconst hZ dX8_rubs_16 ?_
      refine z_iald hZ dX8_rubs_17 (by assumption) (by assumption) (by omega) (by first | exact (wu_n (by omega)).trans (by first | exact (wu_n (by omega)).trans (by first | exact (wu_n (by omega)).trans (by first | exact (wu_n (by omega)).trans (by first | exact (wu_n (by omega)).trans (by first | exact (wu_n (by omega)).trans (by first | exact if_neg (by omega) | rfl) | exact wu_s | exact wu_e (by omega) | exact if_neg (by omega) | rfl) | exact wu_s | exact wu_e (by omega) | exact if_neg (by omega) | rfl) | exact wu_s | exact wu_e (by omega) | exact if_neg (by omega) | rfl) | exact wu_s | exact wu_e (by omega) | exact if_neg (by omega) | rfl) | exact wu_s | exact wu_e (by omega) | exact if_neg (by omega) | rfl) | exact wu_s | exact wu_e (by omega) | exact if_neg (by omega) | rfl) ?_
      refine z_iconst hZ dX8_rubs_18 ?_
      refine z_isub hZ dX8_rubs_19 ?_
      refine z_cV hZ (As := [_]) rfl dX8_rubs_20 ml_X8_36 wy_X8_code (m_X8_code l t (by omega)) (by assumption) (by assumption) rfl ⟨Nat.le_of_ble_eq_true rfl, Nat.le_of_ble_eq_true rfl⟩ ⟨Nat.le_of_ble_eq_true rfl, Nat.le_of_ble_eq_true rfl⟩ (Nat.le_of_ble_eq_true rfl) (fun _ _ _ h => h.elim) (fun v20 L20 G20 hp20 => ?_)
      obtain ⟨rfl, rfl, rfl⟩ := hp20
      refine z_istore_n1 hZ dX8_rubs_23 (by decide) rfl ?_
      refine z_aload_n0 hZ dX8_rubs_24 ?_
      refine z_aload_n0 hZ dX8_rubs_25 ?_
      refine z_gf_X8_s hZ dX8_rubs_26 fl_X8_7 (by assumption) (by assumption) ?_
      refine z_iconst hZ dX8_rubs_29 ?_
      refine z_iald hZ dX8_rubs_30 (by assumption) (by assumption) (by omega) (by first | exact (wu_n (by omega)).trans (by first | exact (wu_n (by omega)).trans (by first | exact (wu_n (by omega)).trans (by first | exact (wu_n (by omega)).trans (by first | exact (wu_n (by omega)).trans (by first | exact (wu_n (by omega)).trans (by first | exact if_neg (by omega) | rfl) | exact wu_s | exact wu_e (by omega) | exact if_neg (by omega) | rfl) | exact wu_s | exact wu_e (by omega) | exact if_neg (by omega) | rfl) | exact wu_s | exact wu_e (by omega) | exact if_neg (by omega) | rfl) | exact wu_s | exact wu_e (by omega) | exact if_neg (by omega) | rfl) | exact wu_s | exact wu_e (by omega) | exact if_neg (by omega) | rfl) | exact wu_s | exact wu_e (by omega) | exact if_neg (by omega) | rfl) ?_
      refine z_iconst hZ dX8_rubs_31 ?_
      refine z_isub hZ dX8_rubs_32 ?_
      refine z_aload_n0 hZ dX8_rubs_33 ?_
      refine z_gf_X8_s hZ dX8_rubs_34 fl_X8_7 (by assumption) (by assumption) ?_
      refine z_iconst hZ dX8_rubs_37 ?_
      refine z_iald hZ dX8_rubs_38 (by assumption) (by assumption) (by omega) (by first | exact (wu_n (by omega)).trans (by first | exact (wu_n (by omega)).trans (by first | exact (wu_n (by omega)).trans (by first | exact (wu_n (by omega)).trans (by first | exact (wu_n (by omega)).trans (by first | exact (wu_n (by omega)).trans (by first | exact if_neg (by omega) | rfl) | exact wu_s | exact wu_e (by omega) | exact if_neg (by omega) | rfl) | exact wu_s | exact wu_e (by omega) | exact if_neg (by omega) | rfl) | exact wu_s | exact wu_e (by omega) | exact if_neg (by omega) | rfl) | exact wu_s | exact wu_e (by omega) | exact if_neg (by omega) | rfl) | exact wu_s | exact wu_e (by omega) | exact if_neg (by omega) | rfl) | exact wu_s | exact wu_e (by omega) | exact if_neg (by omega) | rfl) ?_
      refine z_cV hZ (As := [_, _]) rfl dX8_rubs_39 ml_X8_55 wy_X8_takesOut (m_X8_takesOut l t r (by omega)) (by assumption) (by assumption) rfl ⟨Nat.le_of_ble_eq_true rfl, Nat.le_of_ble_eq_true rfl⟩ ⟨Nat.le_of_ble_eq_true rfl, Nat.le_of_ble_eq_true rfl⟩ (Nat.le_of_ble_eq_true rfl) (fun _ _ _ h => h.elim) (fun v39 L39 G39 hp39 => ?_)
      obtain ⟨rfl, rfl, hg, f39⟩ := hp39
      have hF := (f39 x hxa).trans hF
      have t := t.mv hg f39
      have fr := fa.tr fr f39
      refine z_aload_n0 hZ dX8_rubs_42 ?_
      refine z_gf_X8_s hZ dX8_rubs_43 fl_X8_7 (by assumption) (by assumption) ?_
      refine z_bipush hZ dX8_rubs_46 rfl ?_
      refine z_dup2 hZ dX8_rubs_48 rfl rfl ?_
      refine z_iald hZ dX8_rubs_49 (by assumption) (by assumption) (by omega) (by first | exact (wu_n (by omega)).trans (by first | exact (wu_n (by omega)).trans (by first | exact (wu_n (by omega)).trans (by first | exact (wu_n (by omega)).trans (by first | exact (wu_n (by omega)).trans (by first | exact (wu_n (by omega)).trans (by first | exact if_neg (by omega) | rfl) | exact wu_s | exact wu_e (by omega) | exact if_neg (by omega) | rfl) | exact wu_s | exact wu_e (by omega) | exact if_neg (by omega) | rfl) | exact wu_s | exact wu_e (by omega) | exact if_neg (by omega) | rfl) | exact wu_s | exact wu_e (by omega) | exact if_neg (by omega) | rfl) | exact wu_s | exact wu_e (by omega) | exact if_neg (by omega) | rfl) | exact wu_s | exact wu_e (by omega) | exact if_neg (by omega) | rfl) ?_
      refine z_iconst hZ dX8_rubs_50 ?_
      refine z_iadd hZ dX8_rubs_51 ?_
      refine z_iastore hZ dX8_rubs_52 (by assumption) (by assumption) (by omega) (fun F52 hF52 hf52 => ?_)
      have hF := (hf52 x hxa).trans hF
      have hg := hF52
      have t := t.mv hF52 hf52
      have fr := fa.tr fr hf52
      refine z_iload_n1 hZ dX8_rubs_53 ?_
      exact z_iret hZ rfl (Nat.le_of_ble_eq_true rfl) (Nat.le_of_ble_eq_true rfl) dX8_rubs_54 (by exact ⟨pv (by rw [if_pos (by omega)]), rfl, by rw [if_pos (by omega)]; exact hg, fr⟩)
    · refine z_iconst hZ dX8_rubs_9 ?_
      exact z_iret hZ rfl (Nat.le_of_ble_eq_true rfl) (Nat.le_of_ble_eq_true rfl) dX8_rubs_10 (by exact ⟨pv (by rw [if_neg (by omega)]), rfl, by rw [if_neg (by omega)]; exact hg, fr⟩)
  exact hgo
set_option maxRecDepth 100000 in
set_option maxHeartbeats 4000000 in
theorem m_X8_swaps (l : Launch) {L : List Nat} {F : Nat → PE} {x a : Nat} {g : Int → Int} {kd : Int} (t : ms L F x a g kd) (r : 0 ≤ g 0 ∧ g 0 ≤ 200 ∧ 0 ≤ g 1 ∧ g 1 ≤ g 0 ∧ -1 ≤ g 2 ∧ g 2 ≤ g 0) : PM l yX8_swaps cX8_swaps 3 (some .int) (rm 1 0 0) L [.ref x] F (fun v9 L1 F1 => v9 = some (.int (iI (if 0 < g 1 ∧ g 1 < g 0 then g (18 + g 1 - 1) else -1))) ∧ L = L1 ∧ F1 a = eI 0 18180 (if 0 < g 1 ∧ g 1 < g 0 then vSwp g else g) ∧ ∀ b, b ≠ a → F1 b = F b) (fun _ _ _ => False) := by
  refine pm_of cd_X8_swaps (by decide +kernel) (Nat.le_of_ble_eq_true rfl) (fun ZZ hZ => ?_)
  have hgo : ZZ 0 0 0 [some (.ref x), none, none] [] L F := by
    obtain ⟨⟨hx, ha, hxa⟩, ⟨w1, w2, w3, w5, w6, w7, w8, w9, hF⟩, hg⟩ := id t
    have fr : fa a F F := fa.rf
    refine z_aload_n0 hZ dX8_swaps_0 ?_
    refine z_gf_X8_s hZ dX8_swaps_1 fl_X8_7 (by assumption) (by assumption) ?_
    refine z_iconst hZ dX8_swaps_4 ?_
    refine z_iald hZ dX8_swaps_5 (by assumption) (by assumption) (by omega) (by first | exact (wu_n (by omega)).trans (by first | exact (wu_n (by omega)).trans (by first | exact (wu_n (by omega)).trans (by first | exact (wu_n (by omega)).trans (by first | exact (wu_n (by omega)).trans (by first | exact (wu_n (by omega)).trans (by first | exact if_neg (by omega) | rfl) | exact wu_s | exact wu_e (by omega) | exact if_neg (by omega) | rfl) | exact wu_s | exact wu_e (by omega) | exact if_neg (by omega) | rfl) | exact wu_s | exact wu_e (by omega) | exact if_neg (by omega) | rfl) | exact wu_s | exact wu_e (by omega) | exact if_neg (by omega) | rfl) | exact wu_s | exact wu_e (by omega) | exact if_neg (by omega) | rfl) | exact wu_s | exact wu_e (by omega) | exact if_neg (by omega) | rfl) ?_
    refine z_if_eq hZ (tgt := 24) dX8_swaps_6 rfl (by omega) (fun hc6 => ?_) (fun hc6 => ?_)
    · refine z_iconst hZ dX8_swaps_24 ?_
      exact z_iret hZ rfl (Nat.le_of_ble_eq_true rfl) (Nat.le_of_ble_eq_true rfl) dX8_swaps_25 (by exact ⟨pv (by rw [if_neg (by omega)]), rfl, by rw [if_neg (by omega)]; exact hg, fr⟩)
    · refine z_aload_n0 hZ dX8_swaps_9 ?_
      refine z_gf_X8_s hZ dX8_swaps_10 fl_X8_7 (by assumption) (by assumption) ?_
      refine z_iconst hZ dX8_swaps_13 ?_
      refine z_iald hZ dX8_swaps_14 (by assumption) (by assumption) (by omega) (by first | exact (wu_n (by omega)).trans (by first | exact (wu_n (by omega)).trans (by first | exact (wu_n (by omega)).trans (by first | exact (wu_n (by omega)).trans (by first | exact (wu_n (by omega)).trans (by first | exact (wu_n (by omega)).trans (by first | exact if_neg (by omega) | rfl) | exact wu_s | exact wu_e (by omega) | exact if_neg (by omega) | rfl) | exact wu_s | exact wu_e (by omega) | exact if_neg (by omega) | rfl) | exact wu_s | exact wu_e (by omega) | exact if_neg (by omega) | rfl) | exact wu_s | exact wu_e (by omega) | exact if_neg (by omega) | rfl) | exact wu_s | exact wu_e (by omega) | exact if_neg (by omega) | rfl) | exact wu_s | exact wu_e (by omega) | exact if_neg (by omega) | rfl) ?_
      refine z_aload_n0 hZ dX8_swaps_15 ?_
      refine z_gf_X8_s hZ dX8_swaps_16 fl_X8_7 (by assumption) (by assumption) ?_
      refine z_iconst hZ dX8_swaps_19 ?_
      refine z_iald hZ dX8_swaps_20 (by assumption) (by assumption) (by omega) (by first | exact (wu_n (by omega)).trans (by first | exact (wu_n (by omega)).trans (by first | exact (wu_n (by omega)).trans (by first | exact (wu_n (by omega)).trans (by first | exact (wu_n (by omega)).trans (by first | exact (wu_n (by omega)).trans (by first | exact if_neg (by omega) | rfl) | exact wu_s | exact wu_e (by omega) | exact if_neg (by omega) | rfl) | exact wu_s | exact wu_e (by omega) | exact if_neg (by omega) | rfl) | exact wu_s | exact wu_e (by omega) | exact if_neg (by omega) | rfl) | exact wu_s | exact wu_e (by omega) | exact if_neg (by omega) | rfl) | exact wu_s | exact wu_e (by omega) | exact if_neg (by omega) | rfl) | exact wu_s | exact wu_e (by omega) | exact if_neg (by omega) | rfl) ?_
      refine z_icmp_ne hZ (tgt := 26) dX8_swaps_21 rfl (by omega) (fun hc21 => ?_) (fun hc21 => ?_)
      · refine z_bipush hZ dX8_swaps_26 rfl ?_
        refine z_aload_n0 hZ dX8_swaps_28 ?_
        refine z_gf_X8_s hZ dX8_swaps_29 fl_X8_7 (by assumption) (by assumption) ?_
        refine z_iconst hZ dX8_swaps_32 ?_
        refine z_iald hZ dX8_swaps_33 (by assumption) (by assumption) (by omega) (by first | exact (wu_n (by omega)).trans (by first | exact (wu_n (by omega)).trans (by first | exact (wu_n (by omega)).trans (by first | exact (wu_n (by omega)).trans (by first | exact (wu_n (by omega)).trans (by first | exact (wu_n (by omega)).trans (by first | exact if_neg (by omega) | rfl) | exact wu_s | exact wu_e (by omega) | exact if_neg (by omega) | rfl) | exact wu_s | exact wu_e (by omega) | exact if_neg (by omega) | rfl) | exact wu_s | exact wu_e (by omega) | exact if_neg (by omega) | rfl) | exact wu_s | exact wu_e (by omega) | exact if_neg (by omega) | rfl) | exact wu_s | exact wu_e (by omega) | exact if_neg (by omega) | rfl) | exact wu_s | exact wu_e (by omega) | exact if_neg (by omega) | rfl) ?_
        refine z_iadd hZ dX8_swaps_34 ?_
        refine z_istore_n1 hZ dX8_swaps_35 (by decide) rfl ?_
        refine z_aload_n0 hZ dX8_swaps_36 ?_
        refine z_gf_X8_s hZ dX8_swaps_37 fl_X8_7 (by assumption) (by assumption) ?_
        refine z_iload_n1 hZ dX8_swaps_40 ?_
        refine z_iconst hZ dX8_swaps_41 ?_
        refine z_isub hZ dX8_swaps_42 ?_
        refine z_iald hZ dX8_swaps_43 (by assumption) (by assumption) (by omega) (by first | exact (wu_n (by omega)).trans (by first | exact (wu_n (by omega)).trans (by first | exact (wu_n (by omega)).trans (by first | exact (wu_n (by omega)).trans (by first | exact (wu_n (by omega)).trans (by first | exact (wu_n (by omega)).trans (by first | exact if_neg (by omega) | rfl) | exact wu_s | exact wu_e (by omega) | exact if_neg (by omega) | rfl) | exact wu_s | exact wu_e (by omega) | exact if_neg (by omega) | rfl) | exact wu_s | exact wu_e (by omega) | exact if_neg (by omega) | rfl) | exact wu_s | exact wu_e (by omega) | exact if_neg (by omega) | rfl) | exact wu_s | exact wu_e (by omega) | exact if_neg (by omega) | rfl) | exact wu_s | exact wu_e (by omega) | exact if_neg (by omega) | rfl) ?_
        refine z_istore_n2 hZ dX8_swaps_44 (by decide) rfl ?_
        refine z_aload_n0 hZ dX8_swaps_45 ?_
        refine z_gf_X8_s hZ dX8_swaps_46 fl_X8_7 (by assumption) (by assumption) ?_
        refine z_iload_n1 hZ dX8_swaps_49 ?_
        refine z_iconst hZ dX8_swaps_50 ?_
        refine z_isub hZ dX8_swaps_51 ?_
        refine z_aload_n0 hZ dX8_swaps_52 ?_
        refine z_gf_X8_s hZ dX8_swaps_53 fl_X8_7 (by assumption) (by assumption) ?_
        refine z_iload_n1 hZ dX8_swaps_56 ?_
        refine z_iald hZ dX8_swaps_57 (by assumption) (by assumption) (by omega) (by first | exact (wu_n (by omega)).trans (by first | exact (wu_n (by omega)).trans (by first | exact (wu_n (by omega)).trans (by first | exact (wu_n (by omega)).trans (by first | exact (wu_n (by omega)).trans (by first | exact (wu_n (by omega)).trans (by first | exact if_neg (by omega) | rfl) | exact wu_s | exact wu_e (by omega) | exact if_neg (by omega) | rfl) | exact wu_s | exact wu_e (by omega) | exact if_neg (by omega) | rfl) | exact wu_s | exact wu_e (by omega) | exact if_neg (by omega) | rfl) | exact wu_s | exact wu_e (by omega) | exact if_neg (by omega) | rfl) | exact wu_s | exact wu_e (by omega) | exact if_neg (by omega) | rfl) | exact wu_s | exact wu_e (by omega) | exact if_neg (by omega) | rfl) ?_
        refine z_iastore hZ dX8_swaps_58 (by assumption) (by assumption) (by omega) (fun F58 hF58 hf58 => ?_)
        have hF := (hf58 x hxa).trans hF
        have hg := hF58
        have t := t.mv hF58 hf58
        have fr := fa.tr fr hf58
        refine z_aload_n0 hZ dX8_swaps_59 ?_
        refine z_gf_X8_s hZ dX8_swaps_60 fl_X8_7 (by assumption) (by assumption) ?_
        refine z_iload_n1 hZ dX8_swaps_63 ?_
        refine z_iload_n2 hZ dX8_swaps_64 ?_
        refine z_iastore hZ dX8_swaps_65 (by assumption) (by assumption) (by omega) (fun F65 hF65 hf65 => ?_)
        have hF := (hf65 x hxa).trans hF
        have hg := hF65
        have t := t.mv hF65 hf65
        have fr := fa.tr fr hf65
        refine z_aload_n0 hZ dX8_swaps_66 ?_
        refine z_gf_X8_s hZ dX8_swaps_67 fl_X8_7 (by assumption) (by assumption) ?_
        refine z_iconst hZ dX8_swaps_70 ?_
        refine z_dup2 hZ dX8_swaps_71 rfl rfl ?_
        refine z_iald hZ dX8_swaps_72 (by assumption) (by assumption) (by omega) (by first | exact (wu_n (by omega)).trans (by first | exact (wu_n (by omega)).trans (by first | exact (wu_n (by omega)).trans (by first | exact (wu_n (by omega)).trans (by first | exact (wu_n (by omega)).trans (by first | exact (wu_n (by omega)).trans (by first | exact if_neg (by omega) | rfl) | exact wu_s | exact wu_e (by omega) | exact if_neg (by omega) | rfl) | exact wu_s | exact wu_e (by omega) | exact if_neg (by omega) | rfl) | exact wu_s | exact wu_e (by omega) | exact if_neg (by omega) | rfl) | exact wu_s | exact wu_e (by omega) | exact if_neg (by omega) | rfl) | exact wu_s | exact wu_e (by omega) | exact if_neg (by omega) | rfl) | exact wu_s | exact wu_e (by omega) | exact if_neg (by omega) | rfl) ?_
        refine z_iconst hZ dX8_swaps_73 ?_
        refine z_iadd hZ dX8_swaps_74 ?_
        refine z_iastore hZ dX8_swaps_75 (by assumption) (by assumption) (by omega) (fun F75 hF75 hf75 => ?_)
        have hF := (hf75 x hxa).trans hF
        have hg := hF75
        have t := t.mv hF75 hf75
        have fr := fa.tr fr hf75
        refine z_iload_n2 hZ dX8_swaps_76 ?_
        exact z_iret hZ rfl (Nat.le_of_ble_eq_true rfl) (Nat.le_of_ble_eq_true rfl) dX8_swaps_77 (by exact ⟨pv (by rw [if_pos (by omega)]), rfl, by rw [if_pos (by omega)]; exact hg, fr⟩)
      · refine z_iconst hZ dX8_swaps_24 ?_
        exact z_iret hZ rfl (Nat.le_of_ble_eq_true rfl) (Nat.le_of_ble_eq_true rfl) dX8_swaps_25 (by exact ⟨pv (by rw [if_neg (by omega)]), rfl, by rw [if_neg (by omega)]; exact hg, fr⟩)
  exact hgo
theorem vGrT_0 {g : Int → Int} : vGrT g (g 1) = g := by funext y; unfold vGrT; rw [if_neg (by omega)]
theorem vGrT_t {g : Int → Int} {k : Int} (h : g 1 ≤ k) (c : smC (g (18 + k)) = true) : wu (vGrT g k) (18 + k) (g (18 + k) - 32) = vGrT g (k + 1) := by
  funext y
  unfold wu vGrT
  by_cases q : y = 18 + k
  · subst q; rw [if_pos rfl, if_pos ⟨by omega, by omega, c⟩]
  · rw [if_neg q]
    by_cases q2 : 18 + g 1 ≤ y ∧ y < 18 + k ∧ smC (g y) = true
    · rw [if_pos q2, if_pos ⟨q2.1, by omega, q2.2.2⟩]
    · rw [if_neg q2, if_neg (fun z => q2 ⟨z.1, by omega, z.2.2⟩)]
theorem vGrT_f {g : Int → Int} {k : Int} (c : ¬ smC (g (18 + k)) = true) : vGrT g k = vGrT g (k + 1) := by
  funext y
  unfold vGrT
  by_cases q2 : 18 + g 1 ≤ y ∧ y < 18 + k ∧ smC (g y) = true
  · rw [if_pos q2, if_pos ⟨q2.1, by omega, q2.2.2⟩]
  · rw [if_neg q2, if_neg (fun z => by
      by_cases q3 : y = 18 + k
      · subst q3; exact c z.2.2
      · exact q2 ⟨z.1, by omega, z.2.2⟩)]
set_option maxRecDepth 100000 in
set_option maxHeartbeats 4000000 in
theorem m_X8_greatens (l : Launch) {L : List Nat} {F : Nat → PE} {x a : Nat} {g : Int → Int} {kd : Int} (t : ms L F x a g kd) (v : vf g kd) : PM l yX8_greatens cX8_greatens 4 (some .int) (rm 6 0 0) L [.ref x] F (fun v9 L1 F1 => v9 = some (.int (iI (grN g))) ∧ L = L1 ∧ F1 a = eI 0 18180 (vGrt g) ∧ ∀ b, b ≠ a → F1 b = F b) (fun _ _ _ => False) := by
  refine pm_of cd_X8_greatens (by decide +kernel) (Nat.le_of_ble_eq_true rfl) (fun ZZ hZ => ?_)
  have hgo : ZZ 0 0 0 [some (.ref x), none, none, none] [] L F := by
    obtain ⟨⟨hx, ha, hxa⟩, ⟨w1, w2, w3, w5, w6, w7, w8, w9, hF⟩, hg⟩ := id t
    have fr : fa a F F := fa.rf
    have r := v.1
    have rt := wS_rg (n := g 0) (f := fT g) (p := g 1) (by omega)
    have l1 : ∀ (m : Nat) (k : Int) (G : Nat → PE), (wS (g 0) (fT g) (g 1) - k).toNat = m → g 1 ≤ k → k ≤ wS (g 0) (fT g) (g 1) → ms L G x a (vGrT g k) kd → fa a F G → ZZ 0 0 20 [some (.ref x), some (.int (iI (wS (g 0) (fT g) (g 1)))), some (.int (iI (cn (fun k => smC (fT g k)) k.toNat - cn (fun k => smC (fT g k)) (g 1).toNat))), some (.int (iI k))] [] L G := by
      intro m
      induction m with
      | zero =>
        intro k G hm k0 k1 t fr
        obtain ⟨⟨hx, ha, hxa⟩, ⟨w1, w2, w3, w5, w6, w7, w8, w9, hF⟩, hg⟩ := id t
        have e : k = wS (g 0) (fT g) (g 1) := by omega
        rw [e] at hg t
        refine z_iload_n3 hZ dX8_greatens_20 ?_
        refine z_iload_n1 hZ dX8_greatens_21 ?_
        refine z_icmp_ge hZ (tgt := 63) dX8_greatens_22 rfl (by omega) (fun hc22 => ?_) (fun hc22 => ?_)
        · refine z_aload_n0 hZ dX8_greatens_63 ?_
          refine z_gf_X8_s hZ dX8_greatens_64 fl_X8_7 (by assumption) (by assumption) ?_
          refine z_iconst hZ dX8_greatens_67 ?_
          refine z_iload_n1 hZ dX8_greatens_68 ?_
          refine z_iastore hZ dX8_greatens_69 (by assumption) (by assumption) (by omega) (fun F69 hF69 hf69 => ?_)
          have hF := (hf69 x hxa).trans hF
          have hg := hF69
          have t := t.mv hF69 hf69
          have fr := fa.tr fr hf69
          refine z_iload_n2 hZ dX8_greatens_70 ?_
          exact z_iret hZ rfl (Nat.le_of_ble_eq_true rfl) (Nat.le_of_ble_eq_true rfl) dX8_greatens_71 (by exact ⟨pv (by rw [e]; rfl), rfl, hg, fr⟩)
        · exfalso; omega
      | succ m ih =>
        intro k G hm k0 k1 t fr
        obtain ⟨⟨hx, ha, hxa⟩, ⟨w1, w2, w3, w5, w6, w7, w8, w9, hF⟩, hg⟩ := id t
        have hc : 10 ≤ g (18 + k) ∧ g (18 + k) ≤ 126 := v.2.2.1 k (by omega) (by omega)
        have ek : vGrT g k (18 + k) = g (18 + k) := if_neg (by omega)
        have z := ih (k + 1)
        refine z_iload_n3 hZ dX8_greatens_20 ?_
        refine z_iload_n1 hZ dX8_greatens_21 ?_
        refine z_icmp_ge hZ (tgt := 63) dX8_greatens_22 rfl (by omega) (fun hc22 => ?_) (fun hc22 => ?_)
        · exfalso; omega
        · refine z_aload_n0 hZ dX8_greatens_25 ?_
          refine z_iload_n3 hZ dX8_greatens_26 ?_
          refine z_cV hZ (As := [_]) rfl dX8_greatens_27 ml_X8_36 wy_X8_code (m_X8_code l t (by omega)) (by assumption) (by assumption) rfl ⟨Nat.le_of_ble_eq_true rfl, Nat.le_of_ble_eq_true rfl⟩ ⟨Nat.le_of_ble_eq_true rfl, Nat.le_of_ble_eq_true rfl⟩ (Nat.le_of_ble_eq_true rfl) (fun _ _ _ h => h.elim) (fun v27 L27 G27 hp27 => ?_)
          obtain ⟨rfl, rfl, rfl⟩ := hp27
          rw [ek]
          refine z_bipush hZ dX8_greatens_30 rfl ?_
          refine z_bipush hZ dX8_greatens_32 rfl ?_
          refine z_cS hZ (As := [_, _, _]) rfl dX8_greatens_34 ml_X8_32 wy_X8_in (m_X8_in l (by omega) (by omega) (by omega)) ⟨Nat.le_of_ble_eq_true rfl, Nat.le_of_ble_eq_true rfl⟩ ⟨Nat.le_of_ble_eq_true rfl, Nat.le_of_ble_eq_true rfl⟩ (Nat.le_of_ble_eq_true rfl) (fun _ _ _ h => h.elim) (fun v34 L34 G34 hp34 => ?_)
          obtain ⟨rfl, rfl, rfl⟩ := hp34
          refine z_if_eq_b hZ (tgt := 57) dX8_greatens_37 rfl (fun hc37 => ?_) (fun hc37 => ?_)
          · refine z_iinc3 hZ dX8_greatens_57 (by decide) rfl ?_
            refine z_goto hZ (tgt := 20) dX8_greatens_60 rfl ?_
            first
              | (have c : smC (g (18 + k)) = true := smC_iff.mpr (by assumption)
                 rw [vGrT_t k0 c] at t
                 rw [cn_t (P := fun k => smC (fT g k)) (i := k) (by omega) c] at z
                 have z := z _ (by omega) (by omega) (by omega) t fr
                 rw [show ∀ p q : Int, p + 1 - q = p - q + 1 from fun p q => by omega] at z
                 exact z)
              | (have c : ¬ smC (g (18 + k)) = true := fun q => absurd (smC_iff.mp q) (by assumption)
                 rw [vGrT_f c] at t
                 rw [cn_f (P := fun k => smC (fT g k)) (i := k) (by omega) c] at z
                 exact z _ (by omega) (by omega) (by omega) t fr)
          · refine z_aload_n0 hZ dX8_greatens_40 ?_
            refine z_gf_X8_s hZ dX8_greatens_41 fl_X8_7 (by assumption) (by assumption) ?_
            refine z_bipush hZ dX8_greatens_44 rfl ?_
            refine z_iload_n3 hZ dX8_greatens_46 ?_
            refine z_iadd hZ dX8_greatens_47 ?_
            refine z_dup2 hZ dX8_greatens_48 rfl rfl ?_
            refine z_iald hZ dX8_greatens_49 (by assumption) (by assumption) (by omega) (by first | exact (wu_n (by omega)).trans (by first | exact (wu_n (by omega)).trans (by first | exact (wu_n (by omega)).trans (by first | exact (wu_n (by omega)).trans (by first | exact (wu_n (by omega)).trans (by first | exact (wu_n (by omega)).trans (by first | exact if_neg (by omega) | rfl) | exact wu_s | exact wu_e (by omega) | exact if_neg (by omega) | rfl) | exact wu_s | exact wu_e (by omega) | exact if_neg (by omega) | rfl) | exact wu_s | exact wu_e (by omega) | exact if_neg (by omega) | rfl) | exact wu_s | exact wu_e (by omega) | exact if_neg (by omega) | rfl) | exact wu_s | exact wu_e (by omega) | exact if_neg (by omega) | rfl) | exact wu_s | exact wu_e (by omega) | exact if_neg (by omega) | rfl) ?_
            refine z_bipush hZ dX8_greatens_50 rfl ?_
            refine z_isub hZ dX8_greatens_52 ?_
            refine z_iastore hZ dX8_greatens_53 (by assumption) (by assumption) (by omega) (fun F53 hF53 hf53 => ?_)
            have hF := (hf53 x hxa).trans hF
            have hg := hF53
            have t := t.mv hF53 hf53
            have fr := fa.tr fr hf53
            refine z_iinc2 hZ dX8_greatens_54 (by decide) rfl ?_
            refine z_iinc3 hZ dX8_greatens_57 (by decide) rfl ?_
            refine z_goto hZ (tgt := 20) dX8_greatens_60 rfl ?_
            first
              | (have c : smC (g (18 + k)) = true := smC_iff.mpr (by assumption)
                 rw [vGrT_t k0 c] at t
                 rw [cn_t (P := fun k => smC (fT g k)) (i := k) (by omega) c] at z
                 have z := z _ (by omega) (by omega) (by omega) t fr
                 rw [show ∀ p q : Int, p + 1 - q = p - q + 1 from fun p q => by omega] at z
                 exact z)
              | (have c : ¬ smC (g (18 + k)) = true := fun q => absurd (smC_iff.mp q) (by assumption)
                 rw [vGrT_f c] at t
                 rw [cn_f (P := fun k => smC (fT g k)) (i := k) (by omega) c] at z
                 exact z _ (by omega) (by omega) (by omega) t fr)
    refine z_aload_n0 hZ dX8_greatens_0 ?_
    refine z_aload_n0 hZ dX8_greatens_1 ?_
    refine z_gf_X8_s hZ dX8_greatens_2 fl_X8_7 (by assumption) (by assumption) ?_
    refine z_iconst hZ dX8_greatens_5 ?_
    refine z_iald hZ dX8_greatens_6 (by assumption) (by assumption) (by omega) (by first | exact (wu_n (by omega)).trans (by first | exact (wu_n (by omega)).trans (by first | exact (wu_n (by omega)).trans (by first | exact (wu_n (by omega)).trans (by first | exact (wu_n (by omega)).trans (by first | exact (wu_n (by omega)).trans (by first | exact if_neg (by omega) | rfl) | exact wu_s | exact wu_e (by omega) | exact if_neg (by omega) | rfl) | exact wu_s | exact wu_e (by omega) | exact if_neg (by omega) | rfl) | exact wu_s | exact wu_e (by omega) | exact if_neg (by omega) | rfl) | exact wu_s | exact wu_e (by omega) | exact if_neg (by omega) | rfl) | exact wu_s | exact wu_e (by omega) | exact if_neg (by omega) | rfl) | exact wu_s | exact wu_e (by omega) | exact if_neg (by omega) | rfl) ?_
    refine z_cV hZ (As := [_]) rfl dX8_greatens_7 ml_X8_58 wy_X8_behindWord (m_X8_behindWord l t v (by omega)) (by assumption) (by assumption) rfl ⟨Nat.le_of_ble_eq_true rfl, Nat.le_of_ble_eq_true rfl⟩ ⟨Nat.le_of_ble_eq_true rfl, Nat.le_of_ble_eq_true rfl⟩ (Nat.le_of_ble_eq_true rfl) (fun _ _ _ h => h.elim) (fun v7 L7 G7 hp7 => ?_)
    obtain ⟨rfl, rfl, rfl⟩ := hp7
    refine z_istore_n1 hZ dX8_greatens_10 (by decide) rfl ?_
    refine z_iconst hZ dX8_greatens_11 ?_
    refine z_istore_n2 hZ dX8_greatens_12 (by decide) rfl ?_
    refine z_aload_n0 hZ dX8_greatens_13 ?_
    refine z_gf_X8_s hZ dX8_greatens_14 fl_X8_7 (by assumption) (by assumption) ?_
    refine z_iconst hZ dX8_greatens_17 ?_
    refine z_iald hZ dX8_greatens_18 (by assumption) (by assumption) (by omega) (by first | exact (wu_n (by omega)).trans (by first | exact (wu_n (by omega)).trans (by first | exact (wu_n (by omega)).trans (by first | exact (wu_n (by omega)).trans (by first | exact (wu_n (by omega)).trans (by first | exact (wu_n (by omega)).trans (by first | exact if_neg (by omega) | rfl) | exact wu_s | exact wu_e (by omega) | exact if_neg (by omega) | rfl) | exact wu_s | exact wu_e (by omega) | exact if_neg (by omega) | rfl) | exact wu_s | exact wu_e (by omega) | exact if_neg (by omega) | rfl) | exact wu_s | exact wu_e (by omega) | exact if_neg (by omega) | rfl) | exact wu_s | exact wu_e (by omega) | exact if_neg (by omega) | rfl) | exact wu_s | exact wu_e (by omega) | exact if_neg (by omega) | rfl) ?_
    refine z_istore_n3 hZ dX8_greatens_19 (by decide) rfl ?_
    have z := l1 _ (g 1) F rfl (by omega) (by omega) (by rw [vGrT_0]; exact t) fa.rf
    rw [Int.sub_self] at z
    exact z
  exact hgo
set_option maxRecDepth 100000 in
set_option maxHeartbeats 4000000 in
theorem m_X8_goesTo (l : Launch) {L : List Nat} {F : Nat → PE} {x a : Nat} {g : Int → Int} {kd p : Int} (t : ms L F x a g kd) (r : 0 ≤ g 0 ∧ g 0 ≤ 200 ∧ 0 ≤ g 1 ∧ g 1 ≤ g 0 ∧ -1 ≤ g 2 ∧ g 2 ≤ g 0) (hp : -1 ≤ p ∧ p ≤ 1000) : PM l yX8_goesTo cX8_goesTo 3 (some .int) (rm 2 0 0) L [.ref x, .int (iI p)] F (fun v9 L1 F1 => v9 = some (.int (iI (if 0 ≤ p ∧ p ≤ g 0 then abI (p - g 1) else -1))) ∧ L = L1 ∧ F1 a = eI 0 18180 (if 0 ≤ p ∧ p ≤ g 0 then vGo p g else g) ∧ ∀ b, b ≠ a → F1 b = F b) (fun _ _ _ => False) := by
  refine pm_of cd_X8_goesTo (by decide +kernel) (Nat.le_of_ble_eq_true rfl) (fun ZZ hZ => ?_)
  have hgo : ZZ 0 0 0 [some (.ref x), some (.int (iI p)), none] [] L F := by
    obtain ⟨⟨hx, ha, hxa⟩, ⟨w1, w2, w3, w5, w6, w7, w8, w9, hF⟩, hg⟩ := id t
    have fr : fa a F F := fa.rf
    refine z_iload_n1 hZ dX8_goesTo_0 ?_
    refine z_iconst hZ dX8_goesTo_1 ?_
    refine z_aload_n0 hZ dX8_goesTo_2 ?_
    refine z_gf_X8_s hZ dX8_goesTo_3 fl_X8_7 (by assumption) (by assumption) ?_
    refine z_iconst hZ dX8_goesTo_6 ?_
    refine z_iald hZ dX8_goesTo_7 (by assumption) (by assumption) (by omega) (by first | exact (wu_n (by omega)).trans (by first | exact (wu_n (by omega)).trans (by first | exact (wu_n (by omega)).trans (by first | exact (wu_n (by omega)).trans (by first | exact (wu_n (by omega)).trans (by first | exact (wu_n (by omega)).trans (by first | exact if_neg (by omega) | rfl) | exact wu_s | exact wu_e (by omega) | exact if_neg (by omega) | rfl) | exact wu_s | exact wu_e (by omega) | exact if_neg (by omega) | rfl) | exact wu_s | exact wu_e (by omega) | exact if_neg (by omega) | rfl) | exact wu_s | exact wu_e (by omega) | exact if_neg (by omega) | rfl) | exact wu_s | exact wu_e (by omega) | exact if_neg (by omega) | rfl) | exact wu_s | exact wu_e (by omega) | exact if_neg (by omega) | rfl) ?_
    refine z_cS hZ (As := [_, _, _]) rfl dX8_goesTo_8 ml_X8_32 wy_X8_in (m_X8_in l (by omega) (by omega) (by omega)) ⟨Nat.le_of_ble_eq_true rfl, Nat.le_of_ble_eq_true rfl⟩ ⟨Nat.le_of_ble_eq_true rfl, Nat.le_of_ble_eq_true rfl⟩ (Nat.le_of_ble_eq_true rfl) (fun _ _ _ h => h.elim) (fun v8 L8 G8 hp8 => ?_)
    obtain ⟨rfl, rfl, rfl⟩ := hp8
    refine z_if_ne_b hZ (tgt := 16) dX8_goesTo_11 rfl (fun hc11 => ?_) (fun hc11 => ?_)
    · refine z_iload_n1 hZ dX8_goesTo_16 ?_
      refine z_aload_n0 hZ dX8_goesTo_17 ?_
      refine z_gf_X8_s hZ dX8_goesTo_18 fl_X8_7 (by assumption) (by assumption) ?_
      refine z_iconst hZ dX8_goesTo_21 ?_
      refine z_iald hZ dX8_goesTo_22 (by assumption) (by assumption) (by omega) (by first | exact (wu_n (by omega)).trans (by first | exact (wu_n (by omega)).trans (by first | exact (wu_n (by omega)).trans (by first | exact (wu_n (by omega)).trans (by first | exact (wu_n (by omega)).trans (by first | exact (wu_n (by omega)).trans (by first | exact if_neg (by omega) | rfl) | exact wu_s | exact wu_e (by omega) | exact if_neg (by omega) | rfl) | exact wu_s | exact wu_e (by omega) | exact if_neg (by omega) | rfl) | exact wu_s | exact wu_e (by omega) | exact if_neg (by omega) | rfl) | exact wu_s | exact wu_e (by omega) | exact if_neg (by omega) | rfl) | exact wu_s | exact wu_e (by omega) | exact if_neg (by omega) | rfl) | exact wu_s | exact wu_e (by omega) | exact if_neg (by omega) | rfl) ?_
      refine z_icmp_le hZ (tgt := 37) dX8_goesTo_23 rfl (by omega) (fun hc23 => ?_) (fun hc23 => ?_)
      · refine z_aload_n0 hZ dX8_goesTo_37 ?_
        refine z_gf_X8_s hZ dX8_goesTo_38 fl_X8_7 (by assumption) (by assumption) ?_
        refine z_iconst hZ dX8_goesTo_41 ?_
        refine z_iald hZ dX8_goesTo_42 (by assumption) (by assumption) (by omega) (by first | exact (wu_n (by omega)).trans (by first | exact (wu_n (by omega)).trans (by first | exact (wu_n (by omega)).trans (by first | exact (wu_n (by omega)).trans (by first | exact (wu_n (by omega)).trans (by first | exact (wu_n (by omega)).trans (by first | exact if_neg (by omega) | rfl) | exact wu_s | exact wu_e (by omega) | exact if_neg (by omega) | rfl) | exact wu_s | exact wu_e (by omega) | exact if_neg (by omega) | rfl) | exact wu_s | exact wu_e (by omega) | exact if_neg (by omega) | rfl) | exact wu_s | exact wu_e (by omega) | exact if_neg (by omega) | rfl) | exact wu_s | exact wu_e (by omega) | exact if_neg (by omega) | rfl) | exact wu_s | exact wu_e (by omega) | exact if_neg (by omega) | rfl) ?_
        refine z_iload_n1 hZ dX8_goesTo_43 ?_
        refine z_isub hZ dX8_goesTo_44 ?_
        refine z_istore_n2 hZ dX8_goesTo_45 (by decide) rfl ?_
        refine z_aload_n0 hZ dX8_goesTo_46 ?_
        refine z_gf_X8_s hZ dX8_goesTo_47 fl_X8_7 (by assumption) (by assumption) ?_
        refine z_iconst hZ dX8_goesTo_50 ?_
        refine z_iload_n1 hZ dX8_goesTo_51 ?_
        refine z_iastore hZ dX8_goesTo_52 (by assumption) (by assumption) (by omega) (fun F52 hF52 hf52 => ?_)
        have hF := (hf52 x hxa).trans hF
        have hg := hF52
        have t := t.mv hF52 hf52
        have fr := fa.tr fr hf52
        refine z_iload_n2 hZ dX8_goesTo_53 ?_
        exact z_iret hZ rfl (Nat.le_of_ble_eq_true rfl) (Nat.le_of_ble_eq_true rfl) dX8_goesTo_54 (by exact ⟨pv (by rw [if_pos (by omega)]; unfold abI; split <;> omega), rfl, by rw [if_pos (by omega)]; exact hg, fr⟩)
      · refine z_iload_n1 hZ dX8_goesTo_26 ?_
        refine z_aload_n0 hZ dX8_goesTo_27 ?_
        refine z_gf_X8_s hZ dX8_goesTo_28 fl_X8_7 (by assumption) (by assumption) ?_
        refine z_iconst hZ dX8_goesTo_31 ?_
        refine z_iald hZ dX8_goesTo_32 (by assumption) (by assumption) (by omega) (by first | exact (wu_n (by omega)).trans (by first | exact (wu_n (by omega)).trans (by first | exact (wu_n (by omega)).trans (by first | exact (wu_n (by omega)).trans (by first | exact (wu_n (by omega)).trans (by first | exact (wu_n (by omega)).trans (by first | exact if_neg (by omega) | rfl) | exact wu_s | exact wu_e (by omega) | exact if_neg (by omega) | rfl) | exact wu_s | exact wu_e (by omega) | exact if_neg (by omega) | rfl) | exact wu_s | exact wu_e (by omega) | exact if_neg (by omega) | rfl) | exact wu_s | exact wu_e (by omega) | exact if_neg (by omega) | rfl) | exact wu_s | exact wu_e (by omega) | exact if_neg (by omega) | rfl) | exact wu_s | exact wu_e (by omega) | exact if_neg (by omega) | rfl) ?_
        refine z_isub hZ dX8_goesTo_33 ?_
        refine z_goto hZ (tgt := 45) dX8_goesTo_34 rfl ?_
        refine z_istore_n2 hZ dX8_goesTo_45 (by decide) rfl ?_
        refine z_aload_n0 hZ dX8_goesTo_46 ?_
        refine z_gf_X8_s hZ dX8_goesTo_47 fl_X8_7 (by assumption) (by assumption) ?_
        refine z_iconst hZ dX8_goesTo_50 ?_
        refine z_iload_n1 hZ dX8_goesTo_51 ?_
        refine z_iastore hZ dX8_goesTo_52 (by assumption) (by assumption) (by omega) (fun F52 hF52 hf52 => ?_)
        have hF := (hf52 x hxa).trans hF
        have hg := hF52
        have t := t.mv hF52 hf52
        have fr := fa.tr fr hf52
        refine z_iload_n2 hZ dX8_goesTo_53 ?_
        exact z_iret hZ rfl (Nat.le_of_ble_eq_true rfl) (Nat.le_of_ble_eq_true rfl) dX8_goesTo_54 (by exact ⟨pv (by rw [if_pos (by omega)]; unfold abI; split <;> omega), rfl, by rw [if_pos (by omega)]; exact hg, fr⟩)
    · refine z_iconst hZ dX8_goesTo_14 ?_
      exact z_iret hZ rfl (Nat.le_of_ble_eq_true rfl) (Nat.le_of_ble_eq_true rfl) dX8_goesTo_15 (by exact ⟨pv (by rw [if_neg (by assumption)]), rfl, by rw [if_neg (by assumption)]; exact hg, fr⟩)
  exact hgo
set_option maxRecDepth 100000 in
set_option maxHeartbeats 4000000 in
theorem m_X8_marks (l : Launch) {L : List Nat} {F : Nat → PE} {x a : Nat} {g : Int → Int} {kd : Int} (t : ms L F x a g kd) : PM l yX8_marks cX8_marks 1 (some .int) (rm 1 0 0) L [.ref x] F (fun v9 L1 F1 => v9 = some (.int (iI (g 1))) ∧ L = L1 ∧ F1 a = eI 0 18180 (vMk g) ∧ ∀ b, b ≠ a → F1 b = F b) (fun _ _ _ => False) := by
  refine pm_of cd_X8_marks (by decide +kernel) (Nat.le_of_ble_eq_true rfl) (fun ZZ hZ => ?_)
  have hgo : ZZ 0 0 0 [some (.ref x)] [] L F := by
    obtain ⟨⟨hx, ha, hxa⟩, ⟨w1, w2, w3, w5, w6, w7, w8, w9, hF⟩, hg⟩ := id t
    have fr : fa a F F := fa.rf
    refine z_aload_n0 hZ dX8_marks_0 ?_
    refine z_gf_X8_s hZ dX8_marks_1 fl_X8_7 (by assumption) (by assumption) ?_
    refine z_iconst hZ dX8_marks_4 ?_
    refine z_aload_n0 hZ dX8_marks_5 ?_
    refine z_gf_X8_s hZ dX8_marks_6 fl_X8_7 (by assumption) (by assumption) ?_
    refine z_iconst hZ dX8_marks_9 ?_
    refine z_iald hZ dX8_marks_10 (by assumption) (by assumption) (by omega) (by first | exact (wu_n (by omega)).trans (by first | exact (wu_n (by omega)).trans (by first | exact (wu_n (by omega)).trans (by first | exact (wu_n (by omega)).trans (by first | exact (wu_n (by omega)).trans (by first | exact (wu_n (by omega)).trans (by first | exact if_neg (by omega) | rfl) | exact wu_s | exact wu_e (by omega) | exact if_neg (by omega) | rfl) | exact wu_s | exact wu_e (by omega) | exact if_neg (by omega) | rfl) | exact wu_s | exact wu_e (by omega) | exact if_neg (by omega) | rfl) | exact wu_s | exact wu_e (by omega) | exact if_neg (by omega) | rfl) | exact wu_s | exact wu_e (by omega) | exact if_neg (by omega) | rfl) | exact wu_s | exact wu_e (by omega) | exact if_neg (by omega) | rfl) ?_
    refine z_iastore hZ dX8_marks_11 (by assumption) (by assumption) (by omega) (fun F11 hF11 hf11 => ?_)
    have hF := (hf11 x hxa).trans hF
    have hg := hF11
    have t := t.mv hF11 hf11
    have fr := fa.tr fr hf11
    refine z_aload_n0 hZ dX8_marks_12 ?_
    refine z_gf_X8_s hZ dX8_marks_13 fl_X8_7 (by assumption) (by assumption) ?_
    refine z_iconst hZ dX8_marks_16 ?_
    refine z_iald hZ dX8_marks_17 (by assumption) (by assumption) (by omega) (by first | exact (wu_n (by omega)).trans (by first | exact (wu_n (by omega)).trans (by first | exact (wu_n (by omega)).trans (by first | exact (wu_n (by omega)).trans (by first | exact (wu_n (by omega)).trans (by first | exact (wu_n (by omega)).trans (by first | exact if_neg (by omega) | rfl) | exact wu_s | exact wu_e (by omega) | exact if_neg (by omega) | rfl) | exact wu_s | exact wu_e (by omega) | exact if_neg (by omega) | rfl) | exact wu_s | exact wu_e (by omega) | exact if_neg (by omega) | rfl) | exact wu_s | exact wu_e (by omega) | exact if_neg (by omega) | rfl) | exact wu_s | exact wu_e (by omega) | exact if_neg (by omega) | rfl) | exact wu_s | exact wu_e (by omega) | exact if_neg (by omega) | rfl) ?_
    exact z_iret hZ rfl (Nat.le_of_ble_eq_true rfl) (Nat.le_of_ble_eq_true rfl) dX8_marks_18 (by exact ⟨rfl, rfl, hg, fr⟩)
  exact hgo
set_option maxRecDepth 100000 in
set_option maxHeartbeats 4000000 in
theorem m_X8_exchanges (l : Launch) {L : List Nat} {F : Nat → PE} {x a : Nat} {g : Int → Int} {kd : Int} (t : ms L F x a g kd) (r : -1 ≤ g 2 ∧ g 2 ≤ 1000) : PM l yX8_exchanges cX8_exchanges 2 (some .int) (rm 1 0 0) L [.ref x] F (fun v9 L1 F1 => v9 = some (.int (iI (if g 2 ≠ -1 then g 2 else -1))) ∧ L = L1 ∧ F1 a = eI 0 18180 (if g 2 ≠ -1 then vEx g else g) ∧ ∀ b, b ≠ a → F1 b = F b) (fun _ _ _ => False) := by
  refine pm_of cd_X8_exchanges (by decide +kernel) (Nat.le_of_ble_eq_true rfl) (fun ZZ hZ => ?_)
  have hgo : ZZ 0 0 0 [some (.ref x), none] [] L F := by
    obtain ⟨⟨hx, ha, hxa⟩, ⟨w1, w2, w3, w5, w6, w7, w8, w9, hF⟩, hg⟩ := id t
    have fr : fa a F F := fa.rf
    refine z_aload_n0 hZ dX8_exchanges_0 ?_
    refine z_gf_X8_s hZ dX8_exchanges_1 fl_X8_7 (by assumption) (by assumption) ?_
    refine z_iconst hZ dX8_exchanges_4 ?_
    refine z_iald hZ dX8_exchanges_5 (by assumption) (by assumption) (by omega) (by first | exact (wu_n (by omega)).trans (by first | exact (wu_n (by omega)).trans (by first | exact (wu_n (by omega)).trans (by first | exact (wu_n (by omega)).trans (by first | exact (wu_n (by omega)).trans (by first | exact (wu_n (by omega)).trans (by first | exact if_neg (by omega) | rfl) | exact wu_s | exact wu_e (by omega) | exact if_neg (by omega) | rfl) | exact wu_s | exact wu_e (by omega) | exact if_neg (by omega) | rfl) | exact wu_s | exact wu_e (by omega) | exact if_neg (by omega) | rfl) | exact wu_s | exact wu_e (by omega) | exact if_neg (by omega) | rfl) | exact wu_s | exact wu_e (by omega) | exact if_neg (by omega) | rfl) | exact wu_s | exact wu_e (by omega) | exact if_neg (by omega) | rfl) ?_
    refine z_if_ge hZ (tgt := 11) dX8_exchanges_6 rfl (by omega) (fun hc6 => ?_) (fun hc6 => ?_)
    · refine z_aload_n0 hZ dX8_exchanges_11 ?_
      refine z_gf_X8_s hZ dX8_exchanges_12 fl_X8_7 (by assumption) (by assumption) ?_
      refine z_iconst hZ dX8_exchanges_15 ?_
      refine z_iald hZ dX8_exchanges_16 (by assumption) (by assumption) (by omega) (by first | exact (wu_n (by omega)).trans (by first | exact (wu_n (by omega)).trans (by first | exact (wu_n (by omega)).trans (by first | exact (wu_n (by omega)).trans (by first | exact (wu_n (by omega)).trans (by first | exact (wu_n (by omega)).trans (by first | exact if_neg (by omega) | rfl) | exact wu_s | exact wu_e (by omega) | exact if_neg (by omega) | rfl) | exact wu_s | exact wu_e (by omega) | exact if_neg (by omega) | rfl) | exact wu_s | exact wu_e (by omega) | exact if_neg (by omega) | rfl) | exact wu_s | exact wu_e (by omega) | exact if_neg (by omega) | rfl) | exact wu_s | exact wu_e (by omega) | exact if_neg (by omega) | rfl) | exact wu_s | exact wu_e (by omega) | exact if_neg (by omega) | rfl) ?_
      refine z_istore_n1 hZ dX8_exchanges_17 (by decide) rfl ?_
      refine z_aload_n0 hZ dX8_exchanges_18 ?_
      refine z_gf_X8_s hZ dX8_exchanges_19 fl_X8_7 (by assumption) (by assumption) ?_
      refine z_iconst hZ dX8_exchanges_22 ?_
      refine z_aload_n0 hZ dX8_exchanges_23 ?_
      refine z_gf_X8_s hZ dX8_exchanges_24 fl_X8_7 (by assumption) (by assumption) ?_
      refine z_iconst hZ dX8_exchanges_27 ?_
      refine z_iald hZ dX8_exchanges_28 (by assumption) (by assumption) (by omega) (by first | exact (wu_n (by omega)).trans (by first | exact (wu_n (by omega)).trans (by first | exact (wu_n (by omega)).trans (by first | exact (wu_n (by omega)).trans (by first | exact (wu_n (by omega)).trans (by first | exact (wu_n (by omega)).trans (by first | exact if_neg (by omega) | rfl) | exact wu_s | exact wu_e (by omega) | exact if_neg (by omega) | rfl) | exact wu_s | exact wu_e (by omega) | exact if_neg (by omega) | rfl) | exact wu_s | exact wu_e (by omega) | exact if_neg (by omega) | rfl) | exact wu_s | exact wu_e (by omega) | exact if_neg (by omega) | rfl) | exact wu_s | exact wu_e (by omega) | exact if_neg (by omega) | rfl) | exact wu_s | exact wu_e (by omega) | exact if_neg (by omega) | rfl) ?_
      refine z_iastore hZ dX8_exchanges_29 (by assumption) (by assumption) (by omega) (fun F29 hF29 hf29 => ?_)
      have hF := (hf29 x hxa).trans hF
      have hg := hF29
      have t := t.mv hF29 hf29
      have fr := fa.tr fr hf29
      refine z_aload_n0 hZ dX8_exchanges_30 ?_
      refine z_gf_X8_s hZ dX8_exchanges_31 fl_X8_7 (by assumption) (by assumption) ?_
      refine z_iconst hZ dX8_exchanges_34 ?_
      refine z_iload_n1 hZ dX8_exchanges_35 ?_
      refine z_iastore hZ dX8_exchanges_36 (by assumption) (by assumption) (by omega) (fun F36 hF36 hf36 => ?_)
      have hF := (hf36 x hxa).trans hF
      have hg := hF36
      have t := t.mv hF36 hf36
      have fr := fa.tr fr hf36
      refine z_iload_n1 hZ dX8_exchanges_37 ?_
      exact z_iret hZ rfl (Nat.le_of_ble_eq_true rfl) (Nat.le_of_ble_eq_true rfl) dX8_exchanges_38 (by exact ⟨pv (by rw [if_pos (by omega)]), rfl, by rw [if_pos (by omega)]; exact hg, fr⟩)
    · refine z_iconst hZ dX8_exchanges_9 ?_
      exact z_iret hZ rfl (Nat.le_of_ble_eq_true rfl) (Nat.le_of_ble_eq_true rfl) dX8_exchanges_10 (by exact ⟨pv (by rw [if_neg (by omega)]), rfl, by rw [if_neg (by omega)]; exact hg, fr⟩)
  exact hgo
set_option maxRecDepth 100000 in
set_option maxHeartbeats 4000000 in
theorem m_X8_lineAt (l : Launch) {L : List Nat} {F : Nat → PE} {x a : Nat} {g : Int → Int} {kd z : Int} (t : ms L F x a g kd) (v : vf g kd) (hz : -50 ≤ z ∧ z ≤ 50) : PM l yX8_lineAt cX8_lineAt 6 (some .int) (rm 3 0 0) L [.ref x, .int (iI z)] F (fun v9 L1 F1 => v9 = some (.int (iI (glA g z))) ∧ L = L1 ∧ F = F1) (fun _ _ _ => False) := by
  refine pm_of cd_X8_lineAt (by decide +kernel) (Nat.le_of_ble_eq_true rfl) (fun ZZ hZ => ?_)
  have hgo : ZZ 0 0 0 [some (.ref x), some (.int (iI z)), none, none, none, none] [] L F := by
    obtain ⟨⟨hx, ha, hxa⟩, ⟨w1, w2, w3, w5, w6, w7, w8, w9, hF⟩, hg⟩ := id t
    have fr : fa a F F := fa.rf
    have r := v.1
    have r0 := lB_rg (n := g 0) (f := fT g) (p := g 1) (by omega)
    obtain ⟨lb, hlb⟩ : ∃ lb, lb = lB (g 0) (fT g) (g 1) := ⟨_, rfl⟩
    obtain ⟨ls, hls⟩ : ∃ ls, ls = lsO (g 0) (fT g) (g 1) z := ⟨_, rfl⟩
    rw [← hlb] at r0
    have eg : glA g z = if ls = -1 then -1 else (if lE (g 0) (fT g) ls < ls + (g 1 - lb) then lE (g 0) (fT g) ls else ls + (g 1 - lb)) := by unfold glA; rw [← hls, ← hlb]
    have fin1 : ∀ (o : Option Value), 0 ≤ ls → ls ≤ g 0 → ZZ 0 0 139 [some (.ref x), some (.int (iI z)), some (.int (iI (g 1 - lb))), some (.int (iI ls)), some (.int (iI 1)), o] [] L F := by
      intro o h0 h1
      have re := lE_rg (n := g 0) (f := fT g) (p := ls) h1
      refine z_aload_n0 hZ dX8_lineAt_139 ?_
      refine z_iload_n3 hZ dX8_lineAt_140 ?_
      refine z_cV hZ (As := [_]) rfl dX8_lineAt_141 ml_X8_64 wy_X8_endOf (m_X8_endOf l t v (by omega)) (by assumption) (by assumption) rfl ⟨Nat.le_of_ble_eq_true rfl, Nat.le_of_ble_eq_true rfl⟩ ⟨Nat.le_of_ble_eq_true rfl, Nat.le_of_ble_eq_true rfl⟩ (Nat.le_of_ble_eq_true rfl) (fun _ _ _ h => h.elim) (fun v141 L141 G141 hp141 => ?_)
      obtain ⟨rfl, rfl, rfl⟩ := hp141
      refine z_iload_n3 hZ dX8_lineAt_144 ?_
      refine z_isub hZ dX8_lineAt_145 ?_
      refine z_istore5 hZ dX8_lineAt_146 (by decide) rfl ?_
      refine z_iload4 hZ dX8_lineAt_148 ?_
      refine z_if_ne hZ (tgt := 157) dX8_lineAt_150 rfl (by omega) (fun hc150 => ?_) (fun hc150 => ?_)
      · refine z_iload_n3 hZ dX8_lineAt_157 ?_
        refine z_iload_n2 hZ dX8_lineAt_158 ?_
        refine z_iload5 hZ dX8_lineAt_159 ?_
        refine z_icmp_ge hZ (tgt := 168) dX8_lineAt_161 rfl (by omega) (fun hc161 => ?_) (fun hc161 => ?_)
        · refine z_iload5 hZ dX8_lineAt_168 ?_
          refine z_iadd hZ dX8_lineAt_170 ?_
          exact z_iret hZ rfl (Nat.le_of_ble_eq_true rfl) (Nat.le_of_ble_eq_true rfl) dX8_lineAt_171 (by exact ⟨pv (by rw [eg, if_neg (by omega)]; split <;> omega), rfl, rfl⟩)
        · refine z_iload_n2 hZ dX8_lineAt_164 ?_
          refine z_goto hZ (tgt := 170) dX8_lineAt_165 rfl ?_
          refine z_iadd hZ dX8_lineAt_170 ?_
          exact z_iret hZ rfl (Nat.le_of_ble_eq_true rfl) (Nat.le_of_ble_eq_true rfl) dX8_lineAt_171 (by exact ⟨pv (by rw [eg, if_neg (by omega)]; split <;> omega), rfl, rfl⟩)
      · exfalso; omega
    have fin0 : ∀ (b : Int) (o : Option Value), 0 ≤ b → b ≤ g 0 → ls = -1 → ZZ 0 0 139 [some (.ref x), some (.int (iI z)), some (.int (iI (g 1 - lb))), some (.int (iI b)), some (.int (iI 0)), o] [] L F := by
      intro b o h0 h1 hl
      have re := lE_rg (n := g 0) (f := fT g) (p := b) h1
      refine z_aload_n0 hZ dX8_lineAt_139 ?_
      refine z_iload_n3 hZ dX8_lineAt_140 ?_
      refine z_cV hZ (As := [_]) rfl dX8_lineAt_141 ml_X8_64 wy_X8_endOf (m_X8_endOf l t v (by omega)) (by assumption) (by assumption) rfl ⟨Nat.le_of_ble_eq_true rfl, Nat.le_of_ble_eq_true rfl⟩ ⟨Nat.le_of_ble_eq_true rfl, Nat.le_of_ble_eq_true rfl⟩ (Nat.le_of_ble_eq_true rfl) (fun _ _ _ h => h.elim) (fun v141 L141 G141 hp141 => ?_)
      obtain ⟨rfl, rfl, rfl⟩ := hp141
      refine z_iload_n3 hZ dX8_lineAt_144 ?_
      refine z_isub hZ dX8_lineAt_145 ?_
      refine z_istore5 hZ dX8_lineAt_146 (by decide) rfl ?_
      refine z_iload4 hZ dX8_lineAt_148 ?_
      refine z_if_ne hZ (tgt := 157) dX8_lineAt_150 rfl (by omega) (fun hc150 => ?_) (fun hc150 => ?_)
      · exfalso; omega
      · refine z_iconst hZ dX8_lineAt_153 ?_
        refine z_goto hZ (tgt := 171) dX8_lineAt_154 rfl ?_
        exact z_iret hZ rfl (Nat.le_of_ble_eq_true rfl) (Nat.le_of_ble_eq_true rfl) dX8_lineAt_171 (by exact ⟨pv (by rw [eg, if_pos hl]), rfl, rfl⟩)
    have s93 : ∀ (b q : Int), 0 ≤ b → b ≤ g 0 → 0 ≤ q → q ≤ 100 → ls = -1 → ZZ 0 0 93 [some (.ref x), some (.int (iI z)), some (.int (iI (g 1 - lb))), some (.int (iI b)), some (.int (iI 0)), some (.int (iI q))] [] L F := by
      intro b q h0 h1 q0 q1 hl
      refine z_iload5 hZ dX8_lineAt_93 ?_
      refine z_iload_n1 hZ dX8_lineAt_95 ?_
      refine z_ineg hZ dX8_lineAt_96 ?_
      refine z_icmp_ge hZ (tgt := 139) dX8_lineAt_97 rfl (by omega) (fun hc97 => ?_) (fun hc97 => ?_)
      · exact fin0 _ _ h0 h1 hl
      · refine z_iload4 hZ dX8_lineAt_100 ?_
        refine z_if_eq hZ (tgt := 139) dX8_lineAt_102 rfl (by omega) (fun hc102 => ?_) (fun hc102 => ?_)
        · exact fin0 _ _ h0 h1 hl
        · exfalso; omega
    have l2 : ∀ (m : Nat) (b q : Int), (-z - q).toNat = m → 0 ≤ b → b ≤ g 0 → 0 ≤ q → q ≤ -z → upL (g 0) (fT g) (-z - q).toNat b = ls → ZZ 0 0 93 [some (.ref x), some (.int (iI z)), some (.int (iI (g 1 - lb))), some (.int (iI b)), some (.int (iI 1)), some (.int (iI q))] [] L F := by
      intro m
      induction m with
      | zero =>
        intro b q hm h0 h1 q0 q1 hu
        rw [hm] at hu
        have hu : b = ls := hu
        subst hu
        refine z_iload5 hZ dX8_lineAt_93 ?_
        refine z_iload_n1 hZ dX8_lineAt_95 ?_
        refine z_ineg hZ dX8_lineAt_96 ?_
        refine z_icmp_ge hZ (tgt := 139) dX8_lineAt_97 rfl (by omega) (fun hc97 => ?_) (fun hc97 => ?_)
        · exact fin1 _ h0 h1
        · exfalso; omega
      | succ m ih =>
        intro b q hm h0 h1 q0 q1 hu
        rw [hm] at hu
        have hu : (if 0 < b then upL (g 0) (fT g) m (lB (g 0) (fT g) (b - 1)) else -1) = ls := hu
        have rb : 0 < b → 0 ≤ lB (g 0) (fT g) (b - 1) ∧ lB (g 0) (fT g) (b - 1) ≤ b - 1 := fun q => lB_rg (by omega)
        refine z_iload5 hZ dX8_lineAt_93 ?_
        refine z_iload_n1 hZ dX8_lineAt_95 ?_
        refine z_ineg hZ dX8_lineAt_96 ?_
        refine z_icmp_ge hZ (tgt := 139) dX8_lineAt_97 rfl (by omega) (fun hc97 => ?_) (fun hc97 => ?_)
        · exfalso; omega
        · refine z_iload4 hZ dX8_lineAt_100 ?_
          refine z_if_eq hZ (tgt := 139) dX8_lineAt_102 rfl (by omega) (fun hc102 => ?_) (fun hc102 => ?_)
          · exfalso; omega
          · refine z_iload_n3 hZ dX8_lineAt_105 ?_
            refine z_if_le hZ (tgt := 113) dX8_lineAt_106 rfl (by omega) (fun hc106 => ?_) (fun hc106 => ?_)
            · refine z_iconst hZ dX8_lineAt_113 ?_
              refine z_istore4 hZ dX8_lineAt_114 (by decide) rfl ?_
              refine z_iload4 hZ dX8_lineAt_116 ?_
              refine z_if_eq hZ (tgt := 131) dX8_lineAt_118 rfl (by omega) (fun hc118 => ?_) (fun hc118 => ?_)
              · refine z_iload_n3 hZ dX8_lineAt_131 ?_
                refine z_istore_n3 hZ dX8_lineAt_132 (by decide) rfl ?_
                refine z_iinc5 hZ dX8_lineAt_133 (by decide) rfl ?_
                refine z_goto hZ (tgt := 93) dX8_lineAt_136 rfl ?_
                first
                  | (exfalso; omega)
                  | exact s93 b (q + 1) h0 h1 (by omega) (by omega) (by rw [← hu, if_neg (by omega)])
                  | exact ih _ (q + 1) (by omega) (rb (by omega)).1 (by have := rb (by omega); omega) (by omega) (by omega) (by rw [← hu, if_pos (by omega)]; congr 1; omega)
              · have rb2 := rb (by omega)
                refine z_aload_n0 hZ dX8_lineAt_121 ?_
                refine z_iload_n3 hZ dX8_lineAt_122 ?_
                refine z_iconst hZ dX8_lineAt_123 ?_
                refine z_isub hZ dX8_lineAt_124 ?_
                refine z_cV hZ (As := [_]) rfl dX8_lineAt_125 ml_X8_61 wy_X8_beginOf (m_X8_beginOf l t v (by omega)) (by assumption) (by assumption) rfl ⟨Nat.le_of_ble_eq_true rfl, Nat.le_of_ble_eq_true rfl⟩ ⟨Nat.le_of_ble_eq_true rfl, Nat.le_of_ble_eq_true rfl⟩ (Nat.le_of_ble_eq_true rfl) (fun _ _ _ h => h.elim) (fun v125 L125 G125 hp125 => ?_)
                obtain ⟨rfl, rfl, rfl⟩ := hp125
                refine z_goto hZ (tgt := 132) dX8_lineAt_128 rfl ?_
                refine z_istore_n3 hZ dX8_lineAt_132 (by decide) rfl ?_
                refine z_iinc5 hZ dX8_lineAt_133 (by decide) rfl ?_
                refine z_goto hZ (tgt := 93) dX8_lineAt_136 rfl ?_
                first
                  | (exfalso; omega)
                  | exact s93 b (q + 1) h0 h1 (by omega) (by omega) (by rw [← hu, if_neg (by omega)])
                  | exact ih _ (q + 1) (by omega) (rb (by omega)).1 (by have := rb (by omega); omega) (by omega) (by omega) (by rw [← hu, if_pos (by omega)]; congr 1; omega)
            · refine z_iconst hZ dX8_lineAt_109 ?_
              refine z_goto hZ (tgt := 114) dX8_lineAt_110 rfl ?_
              refine z_istore4 hZ dX8_lineAt_114 (by decide) rfl ?_
              refine z_iload4 hZ dX8_lineAt_116 ?_
              refine z_if_eq hZ (tgt := 131) dX8_lineAt_118 rfl (by omega) (fun hc118 => ?_) (fun hc118 => ?_)
              · refine z_iload_n3 hZ dX8_lineAt_131 ?_
                refine z_istore_n3 hZ dX8_lineAt_132 (by decide) rfl ?_
                refine z_iinc5 hZ dX8_lineAt_133 (by decide) rfl ?_
                refine z_goto hZ (tgt := 93) dX8_lineAt_136 rfl ?_
                first
                  | (exfalso; omega)
                  | exact s93 b (q + 1) h0 h1 (by omega) (by omega) (by rw [← hu, if_neg (by omega)])
                  | exact ih _ (q + 1) (by omega) (rb (by omega)).1 (by have := rb (by omega); omega) (by omega) (by omega) (by rw [← hu, if_pos (by omega)]; congr 1; omega)
              · have rb2 := rb (by omega)
                refine z_aload_n0 hZ dX8_lineAt_121 ?_
                refine z_iload_n3 hZ dX8_lineAt_122 ?_
                refine z_iconst hZ dX8_lineAt_123 ?_
                refine z_isub hZ dX8_lineAt_124 ?_
                refine z_cV hZ (As := [_]) rfl dX8_lineAt_125 ml_X8_61 wy_X8_beginOf (m_X8_beginOf l t v (by omega)) (by assumption) (by assumption) rfl ⟨Nat.le_of_ble_eq_true rfl, Nat.le_of_ble_eq_true rfl⟩ ⟨Nat.le_of_ble_eq_true rfl, Nat.le_of_ble_eq_true rfl⟩ (Nat.le_of_ble_eq_true rfl) (fun _ _ _ h => h.elim) (fun v125 L125 G125 hp125 => ?_)
                obtain ⟨rfl, rfl, rfl⟩ := hp125
                refine z_goto hZ (tgt := 132) dX8_lineAt_128 rfl ?_
                refine z_istore_n3 hZ dX8_lineAt_132 (by decide) rfl ?_
                refine z_iinc5 hZ dX8_lineAt_133 (by decide) rfl ?_
                refine z_goto hZ (tgt := 93) dX8_lineAt_136 rfl ?_
                first
                  | (exfalso; omega)
                  | exact s93 b (q + 1) h0 h1 (by omega) (by omega) (by rw [← hu, if_neg (by omega)])
                  | exact ih _ (q + 1) (by omega) (rb (by omega)).1 (by have := rb (by omega); omega) (by omega) (by omega) (by rw [← hu, if_pos (by omega)]; congr 1; omega)
    have s35 : ∀ (b q : Int), 0 ≤ b → b ≤ g 0 → 0 ≤ q → q ≤ 100 → ls = -1 → ZZ 0 0 35 [some (.ref x), some (.int (iI z)), some (.int (iI (g 1 - lb))), some (.int (iI b)), some (.int (iI 0)), some (.int (iI q))] [] L F := by
      intro b q h0 h1 q0 q1 hl
      refine z_iload5 hZ dX8_lineAt_35 ?_
      refine z_iload_n1 hZ dX8_lineAt_37 ?_
      refine z_icmp_ge hZ (tgt := 90) dX8_lineAt_38 rfl (by omega) (fun hc38 => ?_) (fun hc38 => ?_)
      · refine z_iconst hZ dX8_lineAt_90 ?_
        refine z_istore5 hZ dX8_lineAt_91 (by decide) rfl ?_
        exact s93 b 0 h0 h1 (by omega) (by omega) hl
      · refine z_iload4 hZ dX8_lineAt_41 ?_
        refine z_if_eq hZ (tgt := 90) dX8_lineAt_43 rfl (by omega) (fun hc43 => ?_) (fun hc43 => ?_)
        · refine z_iconst hZ dX8_lineAt_90 ?_
          refine z_istore5 hZ dX8_lineAt_91 (by decide) rfl ?_
          exact s93 b 0 h0 h1 (by omega) (by omega) hl
        · exfalso; omega
    have l1 : ∀ (m : Nat) (b q : Int), (z - q).toNat = m → 0 ≤ b → b ≤ g 0 → 0 ≤ q → (0 ≤ z → q ≤ z ∧ dnL (g 0) (fT g) (z - q).toNat b = ls) → (z < 0 → q = 0 ∧ b = lb) → ZZ 0 0 35 [some (.ref x), some (.int (iI z)), some (.int (iI (g 1 - lb))), some (.int (iI b)), some (.int (iI 1)), some (.int (iI q))] [] L F := by
      intro m
      induction m with
      | zero =>
        intro b q hm h0 h1 q0 hp hn
        by_cases hz0 : 0 ≤ z
        · have hp := hp hz0
          rw [hm] at hp
          have hu : b = ls := hp.2
          subst hu
          refine z_iload5 hZ dX8_lineAt_35 ?_
          refine z_iload_n1 hZ dX8_lineAt_37 ?_
          refine z_icmp_ge hZ (tgt := 90) dX8_lineAt_38 rfl (by omega) (fun hc38 => ?_) (fun hc38 => ?_)
          · refine z_iconst hZ dX8_lineAt_90 ?_
            refine z_istore5 hZ dX8_lineAt_91 (by decide) rfl ?_
            refine z_iload5 hZ dX8_lineAt_93 ?_
            refine z_iload_n1 hZ dX8_lineAt_95 ?_
            refine z_ineg hZ dX8_lineAt_96 ?_
            refine z_icmp_ge hZ (tgt := 139) dX8_lineAt_97 rfl (by omega) (fun hc97 => ?_) (fun hc97 => ?_)
            · exact fin1 _ h0 h1
            · exfalso; omega
          · exfalso; omega
        · have hn := hn (by omega)
          refine z_iload5 hZ dX8_lineAt_35 ?_
          refine z_iload_n1 hZ dX8_lineAt_37 ?_
          refine z_icmp_ge hZ (tgt := 90) dX8_lineAt_38 rfl (by omega) (fun hc38 => ?_) (fun hc38 => ?_)
          · refine z_iconst hZ dX8_lineAt_90 ?_
            refine z_istore5 hZ dX8_lineAt_91 (by decide) rfl ?_
            exact l2 _ b 0 rfl h0 h1 (by omega) (by omega) (by rw [hls, hn.2, hlb]; unfold lsO; rw [if_neg hz0]; congr 1; omega)
          · exfalso; omega
      | succ m ih =>
        intro b q hm h0 h1 q0 hp hn
        have hp := hp (by omega)
        rw [hm] at hp
        have hu : (if lE (g 0) (fT g) b < g 0 then dnL (g 0) (fT g) m (lE (g 0) (fT g) b + 1) else -1) = ls := hp.2
        have re := lE_rg (n := g 0) (f := fT g) (p := b) h1
        refine z_iload5 hZ dX8_lineAt_35 ?_
        refine z_iload_n1 hZ dX8_lineAt_37 ?_
        refine z_icmp_ge hZ (tgt := 90) dX8_lineAt_38 rfl (by omega) (fun hc38 => ?_) (fun hc38 => ?_)
        · exfalso; omega
        · refine z_iload4 hZ dX8_lineAt_41 ?_
          refine z_if_eq hZ (tgt := 90) dX8_lineAt_43 rfl (by omega) (fun hc43 => ?_) (fun hc43 => ?_)
          · exfalso; omega
          · refine z_aload_n0 hZ dX8_lineAt_46 ?_
            refine z_iload_n3 hZ dX8_lineAt_47 ?_
            refine z_cV hZ (As := [_]) rfl dX8_lineAt_48 ml_X8_64 wy_X8_endOf (m_X8_endOf l t v (by omega)) (by assumption) (by assumption) rfl ⟨Nat.le_of_ble_eq_true rfl, Nat.le_of_ble_eq_true rfl⟩ ⟨Nat.le_of_ble_eq_true rfl, Nat.le_of_ble_eq_true rfl⟩ (Nat.le_of_ble_eq_true rfl) (fun _ _ _ h => h.elim) (fun v48 L48 G48 hp48 => ?_)
            obtain ⟨rfl, rfl, rfl⟩ := hp48
            refine z_aload_n0 hZ dX8_lineAt_51 ?_
            refine z_gf_X8_s hZ dX8_lineAt_52 fl_X8_7 (by assumption) (by assumption) ?_
            refine z_iconst hZ dX8_lineAt_55 ?_
            refine z_iald hZ dX8_lineAt_56 (by assumption) (by assumption) (by omega) (by first | exact (wu_n (by omega)).trans (by first | exact (wu_n (by omega)).trans (by first | exact (wu_n (by omega)).trans (by first | exact (wu_n (by omega)).trans (by first | exact (wu_n (by omega)).trans (by first | exact (wu_n (by omega)).trans (by first | exact if_neg (by omega) | rfl) | exact wu_s | exact wu_e (by omega) | exact if_neg (by omega) | rfl) | exact wu_s | exact wu_e (by omega) | exact if_neg (by omega) | rfl) | exact wu_s | exact wu_e (by omega) | exact if_neg (by omega) | rfl) | exact wu_s | exact wu_e (by omega) | exact if_neg (by omega) | rfl) | exact wu_s | exact wu_e (by omega) | exact if_neg (by omega) | rfl) | exact wu_s | exact wu_e (by omega) | exact if_neg (by omega) | rfl) ?_
            refine z_icmp_ge hZ (tgt := 64) dX8_lineAt_57 rfl (by omega) (fun hc57 => ?_) (fun hc57 => ?_)
            · refine z_iconst hZ dX8_lineAt_64 ?_
              refine z_istore4 hZ dX8_lineAt_65 (by decide) rfl ?_
              refine z_iload4 hZ dX8_lineAt_67 ?_
              refine z_if_eq hZ (tgt := 82) dX8_lineAt_69 rfl (by omega) (fun hc69 => ?_) (fun hc69 => ?_)
              · refine z_iload_n3 hZ dX8_lineAt_82 ?_
                refine z_istore_n3 hZ dX8_lineAt_83 (by decide) rfl ?_
                refine z_iinc5 hZ dX8_lineAt_84 (by decide) rfl ?_
                refine z_goto hZ (tgt := 35) dX8_lineAt_87 rfl ?_
                first
                  | (exfalso; omega)
                  | exact s35 b (q + 1) h0 h1 (by omega) (by omega) (by rw [← hu, if_neg (by omega)])
                  | exact ih _ (q + 1) (by omega) (by omega) (by omega) (by omega) (fun _ => ⟨by omega, by rw [← hu, if_pos (by omega)]; congr 1; omega⟩) (fun _ => by omega)
              · refine z_aload_n0 hZ dX8_lineAt_72 ?_
                refine z_iload_n3 hZ dX8_lineAt_73 ?_
                refine z_cV hZ (As := [_]) rfl dX8_lineAt_74 ml_X8_64 wy_X8_endOf (m_X8_endOf l t v (by omega)) (by assumption) (by assumption) rfl ⟨Nat.le_of_ble_eq_true rfl, Nat.le_of_ble_eq_true rfl⟩ ⟨Nat.le_of_ble_eq_true rfl, Nat.le_of_ble_eq_true rfl⟩ (Nat.le_of_ble_eq_true rfl) (fun _ _ _ h => h.elim) (fun v74 L74 G74 hp74 => ?_)
                obtain ⟨rfl, rfl, rfl⟩ := hp74
                refine z_iconst hZ dX8_lineAt_77 ?_
                refine z_iadd hZ dX8_lineAt_78 ?_
                refine z_goto hZ (tgt := 83) dX8_lineAt_79 rfl ?_
                refine z_istore_n3 hZ dX8_lineAt_83 (by decide) rfl ?_
                refine z_iinc5 hZ dX8_lineAt_84 (by decide) rfl ?_
                refine z_goto hZ (tgt := 35) dX8_lineAt_87 rfl ?_
                first
                  | (exfalso; omega)
                  | exact s35 b (q + 1) h0 h1 (by omega) (by omega) (by rw [← hu, if_neg (by omega)])
                  | exact ih _ (q + 1) (by omega) (by omega) (by omega) (by omega) (fun _ => ⟨by omega, by rw [← hu, if_pos (by omega)]; congr 1; omega⟩) (fun _ => by omega)
            · refine z_iconst hZ dX8_lineAt_60 ?_
              refine z_goto hZ (tgt := 65) dX8_lineAt_61 rfl ?_
              refine z_istore4 hZ dX8_lineAt_65 (by decide) rfl ?_
              refine z_iload4 hZ dX8_lineAt_67 ?_
              refine z_if_eq hZ (tgt := 82) dX8_lineAt_69 rfl (by omega) (fun hc69 => ?_) (fun hc69 => ?_)
              · refine z_iload_n3 hZ dX8_lineAt_82 ?_
                refine z_istore_n3 hZ dX8_lineAt_83 (by decide) rfl ?_
                refine z_iinc5 hZ dX8_lineAt_84 (by decide) rfl ?_
                refine z_goto hZ (tgt := 35) dX8_lineAt_87 rfl ?_
                first
                  | (exfalso; omega)
                  | exact s35 b (q + 1) h0 h1 (by omega) (by omega) (by rw [← hu, if_neg (by omega)])
                  | exact ih _ (q + 1) (by omega) (by omega) (by omega) (by omega) (fun _ => ⟨by omega, by rw [← hu, if_pos (by omega)]; congr 1; omega⟩) (fun _ => by omega)
              · refine z_aload_n0 hZ dX8_lineAt_72 ?_
                refine z_iload_n3 hZ dX8_lineAt_73 ?_
                refine z_cV hZ (As := [_]) rfl dX8_lineAt_74 ml_X8_64 wy_X8_endOf (m_X8_endOf l t v (by omega)) (by assumption) (by assumption) rfl ⟨Nat.le_of_ble_eq_true rfl, Nat.le_of_ble_eq_true rfl⟩ ⟨Nat.le_of_ble_eq_true rfl, Nat.le_of_ble_eq_true rfl⟩ (Nat.le_of_ble_eq_true rfl) (fun _ _ _ h => h.elim) (fun v74 L74 G74 hp74 => ?_)
                obtain ⟨rfl, rfl, rfl⟩ := hp74
                refine z_iconst hZ dX8_lineAt_77 ?_
                refine z_iadd hZ dX8_lineAt_78 ?_
                refine z_goto hZ (tgt := 83) dX8_lineAt_79 rfl ?_
                refine z_istore_n3 hZ dX8_lineAt_83 (by decide) rfl ?_
                refine z_iinc5 hZ dX8_lineAt_84 (by decide) rfl ?_
                refine z_goto hZ (tgt := 35) dX8_lineAt_87 rfl ?_
                first
                  | (exfalso; omega)
                  | exact s35 b (q + 1) h0 h1 (by omega) (by omega) (by rw [← hu, if_neg (by omega)])
                  | exact ih _ (q + 1) (by omega) (by omega) (by omega) (by omega) (fun _ => ⟨by omega, by rw [← hu, if_pos (by omega)]; congr 1; omega⟩) (fun _ => by omega)
    refine z_aload_n0 hZ dX8_lineAt_0 ?_
    refine z_gf_X8_s hZ dX8_lineAt_1 fl_X8_7 (by assumption) (by assumption) ?_
    refine z_iconst hZ dX8_lineAt_4 ?_
    refine z_iald hZ dX8_lineAt_5 (by assumption) (by assumption) (by omega) (by first | exact (wu_n (by omega)).trans (by first | exact (wu_n (by omega)).trans (by first | exact (wu_n (by omega)).trans (by first | exact (wu_n (by omega)).trans (by first | exact (wu_n (by omega)).trans (by first | exact (wu_n (by omega)).trans (by first | exact if_neg (by omega) | rfl) | exact wu_s | exact wu_e (by omega) | exact if_neg (by omega) | rfl) | exact wu_s | exact wu_e (by omega) | exact if_neg (by omega) | rfl) | exact wu_s | exact wu_e (by omega) | exact if_neg (by omega) | rfl) | exact wu_s | exact wu_e (by omega) | exact if_neg (by omega) | rfl) | exact wu_s | exact wu_e (by omega) | exact if_neg (by omega) | rfl) | exact wu_s | exact wu_e (by omega) | exact if_neg (by omega) | rfl) ?_
    refine z_aload_n0 hZ dX8_lineAt_6 ?_
    refine z_aload_n0 hZ dX8_lineAt_7 ?_
    refine z_gf_X8_s hZ dX8_lineAt_8 fl_X8_7 (by assumption) (by assumption) ?_
    refine z_iconst hZ dX8_lineAt_11 ?_
    refine z_iald hZ dX8_lineAt_12 (by assumption) (by assumption) (by omega) (by first | exact (wu_n (by omega)).trans (by first | exact (wu_n (by omega)).trans (by first | exact (wu_n (by omega)).trans (by first | exact (wu_n (by omega)).trans (by first | exact (wu_n (by omega)).trans (by first | exact (wu_n (by omega)).trans (by first | exact if_neg (by omega) | rfl) | exact wu_s | exact wu_e (by omega) | exact if_neg (by omega) | rfl) | exact wu_s | exact wu_e (by omega) | exact if_neg (by omega) | rfl) | exact wu_s | exact wu_e (by omega) | exact if_neg (by omega) | rfl) | exact wu_s | exact wu_e (by omega) | exact if_neg (by omega) | rfl) | exact wu_s | exact wu_e (by omega) | exact if_neg (by omega) | rfl) | exact wu_s | exact wu_e (by omega) | exact if_neg (by omega) | rfl) ?_
    refine z_cV hZ (As := [_]) rfl dX8_lineAt_13 ml_X8_61 wy_X8_beginOf (m_X8_beginOf l t v (by omega)) (by assumption) (by assumption) rfl ⟨Nat.le_of_ble_eq_true rfl, Nat.le_of_ble_eq_true rfl⟩ ⟨Nat.le_of_ble_eq_true rfl, Nat.le_of_ble_eq_true rfl⟩ (Nat.le_of_ble_eq_true rfl) (fun _ _ _ h => h.elim) (fun v13 L13 G13 hp13 => ?_)
    obtain ⟨rfl, rfl, rfl⟩ := hp13
    rw [← hlb]
    refine z_isub hZ dX8_lineAt_16 ?_
    refine z_istore_n2 hZ dX8_lineAt_17 (by decide) rfl ?_
    refine z_aload_n0 hZ dX8_lineAt_18 ?_
    refine z_aload_n0 hZ dX8_lineAt_19 ?_
    refine z_gf_X8_s hZ dX8_lineAt_20 fl_X8_7 (by assumption) (by assumption) ?_
    refine z_iconst hZ dX8_lineAt_23 ?_
    refine z_iald hZ dX8_lineAt_24 (by assumption) (by assumption) (by omega) (by first | exact (wu_n (by omega)).trans (by first | exact (wu_n (by omega)).trans (by first | exact (wu_n (by omega)).trans (by first | exact (wu_n (by omega)).trans (by first | exact (wu_n (by omega)).trans (by first | exact (wu_n (by omega)).trans (by first | exact if_neg (by omega) | rfl) | exact wu_s | exact wu_e (by omega) | exact if_neg (by omega) | rfl) | exact wu_s | exact wu_e (by omega) | exact if_neg (by omega) | rfl) | exact wu_s | exact wu_e (by omega) | exact if_neg (by omega) | rfl) | exact wu_s | exact wu_e (by omega) | exact if_neg (by omega) | rfl) | exact wu_s | exact wu_e (by omega) | exact if_neg (by omega) | rfl) | exact wu_s | exact wu_e (by omega) | exact if_neg (by omega) | rfl) ?_
    refine z_cV hZ (As := [_]) rfl dX8_lineAt_25 ml_X8_61 wy_X8_beginOf (m_X8_beginOf l t v (by omega)) (by assumption) (by assumption) rfl ⟨Nat.le_of_ble_eq_true rfl, Nat.le_of_ble_eq_true rfl⟩ ⟨Nat.le_of_ble_eq_true rfl, Nat.le_of_ble_eq_true rfl⟩ (Nat.le_of_ble_eq_true rfl) (fun _ _ _ h => h.elim) (fun v25 L25 G25 hp25 => ?_)
    obtain ⟨rfl, rfl, rfl⟩ := hp25
    rw [← hlb]
    refine z_istore_n3 hZ dX8_lineAt_28 (by decide) rfl ?_
    refine z_iconst hZ dX8_lineAt_29 ?_
    refine z_istore4 hZ dX8_lineAt_30 (by decide) rfl ?_
    refine z_iconst hZ dX8_lineAt_32 ?_
    refine z_istore5 hZ dX8_lineAt_33 (by decide) rfl ?_
    exact l1 _ lb 0 rfl r0.1 (by omega) (by omega) (fun h => ⟨by omega, by rw [hls, hlb]; unfold lsO; rw [if_pos h]; congr 1; omega⟩) (fun _ => ⟨rfl, rfl⟩)
  exact hgo

