/-! THE MODEL, 4: yanking; deeds by their signs. -/
def ykK (g : Int → Int) (k : Int) : Int → Int := fun x => if 18 + g 1 ≤ x ∧ x < 18 + g 1 + k then g (218 + 200 * g 4 + (x - 18 - g 1)) else vPar (g (10 + g 4)) g x
theorem vPar_at {g : Int → Int} {m x : Int} (h : (x < 18 ∧ x ≠ 0 ∧ x ≠ 2) ∨ 18 + g 0 + m ≤ x) (h1 : 0 ≤ g 1 ∧ 0 ≤ m ∧ 0 ≤ g 0) : vPar m g x = g x := by
  unfold vPar
  rw [wu_n (by omega), wu_n (by omega)]
  exact if_neg (by omega)
theorem ykK_at {g : Int → Int} {k x : Int} (h : (x < 18 ∧ x ≠ 0 ∧ x ≠ 2) ∨ 218 ≤ x) (h1 : 0 ≤ g 1 ∧ g 1 ≤ g 0 ∧ 0 ≤ g (10 + g 4) ∧ g 0 + g (10 + g 4) ≤ 200 ∧ k ≤ g (10 + g 4)) : ykK g k x = g x := by
  unfold ykK
  rw [if_neg (by omega)]
  exact vPar_at (by omega) (by omega)
theorem ykK_0 {g : Int → Int} : ykK g 0 = vPar (g (10 + g 4)) g := by funext y; unfold ykK; rw [if_neg (by omega)]
theorem ykK_s {g : Int → Int} {k : Int} (h : 0 ≤ k) : wu (ykK g k) (18 + g 1 + k) (g (218 + 200 * g 4 + k)) = ykK g (k + 1) := by
  funext y
  unfold wu ykK
  by_cases q : y = 18 + g 1 + k
  · subst q
    rw [if_pos rfl, if_pos (by omega)]
    congr 1; omega
  · rw [if_neg q]
    by_cases q2 : 18 + g 1 ≤ y ∧ y < 18 + g 1 + k
    · rw [if_pos q2, if_pos (by omega)]
    · rw [if_neg q2, if_neg (by omega)]
theorem vTk_at {g : Int → Int} {i j x : Int} (h : x ≠ 0 ∧ x ≠ 1 ∧ x ≠ 2) (h2 : ¬ (18 + i ≤ x ∧ x < 18 + g 0 - (j - i))) : vTk i j g x = g x := by
  unfold vTk
  rw [wu_n (by omega), wu_n (by omega), wu_n (by omega)]
  exact if_neg h2
set_option maxRecDepth 100000 in
set_option maxHeartbeats 4000000 in
theorem m_X8_yanks (l : Launch) {L : List Nat} {F : Nat → PE} {x a : Nat} {g : Int → Int} {kd : Int} (t : ms L F x a g kd) (r : 0 ≤ g 0 ∧ g 0 ≤ 200 ∧ 0 ≤ g 1 ∧ g 1 ≤ g 0 ∧ -1 ≤ g 2 ∧ g 2 ≤ g 0) (h3 : 0 ≤ g 3 ∧ g 3 ≤ 8 ∧ 0 ≤ g 4 ∧ g 4 ≤ 7) (hl : 0 < g 3 → 1 ≤ g (10 + g 4) ∧ g (10 + g 4) ≤ 200) : PM l yX8_yanks cX8_yanks 3 (some .int) (rm 3 0 0) L [.ref x] F (fun v9 L1 F1 => v9 = some (.int (iI (if 0 < g 3 ∧ g 0 + nxL g ≤ 200 then nxL g else -1))) ∧ L = L1 ∧ F1 a = eI 0 18180 (if 0 < g 3 ∧ g 0 + nxL g ≤ 200 then vYk g else g) ∧ ∀ b, b ≠ a → F1 b = F b) (fun _ _ _ => False) := by
  refine pm_of cd_X8_yanks (by decide +kernel) (Nat.le_of_ble_eq_true rfl) (fun ZZ hZ => ?_)
  have hgo : ZZ 0 0 0 [some (.ref x), none, none] [] L F := by
    have en : g (10 + g 4) = nxL g := rfl
    have l1 : ∀ (m : Nat) (k : Int) (G : Nat → PE), (g (10 + g 4) - k).toNat = m → 0 ≤ k → k ≤ g (10 + g 4) → 0 < g 3 → g 0 + g (10 + g 4) ≤ 200 → ms L G x a (ykK g k) kd → fa a F G → ZZ 0 0 47 [some (.ref x), some (.int (iI (g (10 + g 4)))), some (.int (iI k))] [] L G := by
      intro m
      induction m with
      | zero =>
        intro k G hm k0 k1 p3 p0 t fr
        obtain ⟨⟨hx, ha, hxa⟩, ⟨w1, w2, w3, w5, w6, w7, w8, w9, hF⟩, hg⟩ := id t
        have hl := hl p3
        have e : k = g (10 + g 4) := by omega
        subst e
        refine z_iload_n2 hZ dX8_yanks_47 ?_
        refine z_iload_n1 hZ dX8_yanks_48 ?_
        refine z_icmp_ge hZ (tgt := 95) dX8_yanks_49 rfl (by omega) (fun hc49 => ?_) (fun hc49 => ?_)
        · refine z_aload_n0 hZ dX8_yanks_95 ?_
          refine z_gf_X8_s hZ dX8_yanks_96 fl_X8_7 (by assumption) (by assumption) ?_
          refine z_iconst hZ dX8_yanks_99 ?_
          refine z_aload_n0 hZ dX8_yanks_100 ?_
          refine z_gf_X8_s hZ dX8_yanks_101 fl_X8_7 (by assumption) (by assumption) ?_
          refine z_iconst hZ dX8_yanks_104 ?_
          refine z_iald hZ dX8_yanks_105 (by assumption) (by assumption) (by omega) (by exact ykK_at (by omega) (by omega)) ?_
          refine z_iastore hZ dX8_yanks_106 (by assumption) (by assumption) (by omega) (fun F106 hF106 hf106 => ?_)
          have hF := (hf106 x hxa).trans hF
          have hg := hF106
          have t := t.mv hF106 hf106
          have fr := fa.tr fr hf106
          refine z_aload_n0 hZ dX8_yanks_107 ?_
          refine z_gf_X8_s hZ dX8_yanks_108 fl_X8_7 (by assumption) (by assumption) ?_
          refine z_iconst hZ dX8_yanks_111 ?_
          refine z_dup2 hZ dX8_yanks_112 rfl rfl ?_
          refine z_iald hZ dX8_yanks_113 (by assumption) (by assumption) (by omega) (by exact (wu_n (by omega)).trans (ykK_at (by omega) (by omega))) ?_
          refine z_iload_n1 hZ dX8_yanks_114 ?_
          refine z_iadd hZ dX8_yanks_115 ?_
          refine z_iastore hZ dX8_yanks_116 (by assumption) (by assumption) (by omega) (fun F116 hF116 hf116 => ?_)
          have hF := (hf116 x hxa).trans hF
          have hg := hF116
          have t := t.mv hF116 hf116
          have fr := fa.tr fr hf116
          refine z_aload_n0 hZ dX8_yanks_117 ?_
          refine z_gf_X8_s hZ dX8_yanks_118 fl_X8_7 (by assumption) (by assumption) ?_
          refine z_bipush hZ dX8_yanks_121 rfl ?_
          refine z_dup2 hZ dX8_yanks_123 rfl rfl ?_
          refine z_iald hZ dX8_yanks_124 (by assumption) (by assumption) (by omega) (by exact (wu_n (by omega)).trans ((wu_n (by omega)).trans (ykK_at (by omega) (by omega)))) ?_
          refine z_iload_n1 hZ dX8_yanks_125 ?_
          refine z_iadd hZ dX8_yanks_126 ?_
          refine z_iastore hZ dX8_yanks_127 (by assumption) (by assumption) (by omega) (fun F127 hF127 hf127 => ?_)
          have hF := (hf127 x hxa).trans hF
          have hg := hF127
          have t := t.mv hF127 hf127
          have fr := fa.tr fr hf127
          refine z_iload_n1 hZ dX8_yanks_128 ?_
          exact z_iret hZ rfl (Nat.le_of_ble_eq_true rfl) (Nat.le_of_ble_eq_true rfl) dX8_yanks_129 (by
            have q : 0 < g 3 ∧ g 0 + nxL g ≤ 200 := ⟨p3, p0⟩
            rw [if_pos q, if_pos q]
            exact ⟨rfl, rfl, hg, fr⟩)
        · exfalso; omega
      | succ m ih =>
        intro k G hm k0 k1 p3 p0 t fr
        obtain ⟨⟨hx, ha, hxa⟩, ⟨w1, w2, w3, w5, w6, w7, w8, w9, hF⟩, hg⟩ := id t
        have hl := hl p3
        refine z_iload_n2 hZ dX8_yanks_47 ?_
        refine z_iload_n1 hZ dX8_yanks_48 ?_
        refine z_icmp_ge hZ (tgt := 95) dX8_yanks_49 rfl (by omega) (fun hc49 => ?_) (fun hc49 => ?_)
        · exfalso; omega
        · refine z_aload_n0 hZ dX8_yanks_52 ?_
          refine z_gf_X8_s hZ dX8_yanks_53 fl_X8_7 (by assumption) (by assumption) ?_
          refine z_bipush hZ dX8_yanks_56 rfl ?_
          refine z_aload_n0 hZ dX8_yanks_58 ?_
          refine z_gf_X8_s hZ dX8_yanks_59 fl_X8_7 (by assumption) (by assumption) ?_
          refine z_iconst hZ dX8_yanks_62 ?_
          refine z_iald hZ dX8_yanks_63 (by assumption) (by assumption) (by omega) (by exact ykK_at (by omega) (by omega)) ?_
          refine z_iadd hZ dX8_yanks_64 ?_
          refine z_iload_n2 hZ dX8_yanks_65 ?_
          refine z_iadd hZ dX8_yanks_66 ?_
          refine z_aload_n0 hZ dX8_yanks_67 ?_
          refine z_gf_X8_s hZ dX8_yanks_68 fl_X8_7 (by assumption) (by assumption) ?_
          refine z_sipush hZ dX8_yanks_71 rfl ?_
          refine z_sipush hZ dX8_yanks_74 rfl ?_
          refine z_aload_n0 hZ dX8_yanks_77 ?_
          refine z_gf_X8_s hZ dX8_yanks_78 fl_X8_7 (by assumption) (by assumption) ?_
          refine z_iconst hZ dX8_yanks_81 ?_
          refine z_iald hZ dX8_yanks_82 (by assumption) (by assumption) (by omega) (by exact ykK_at (by omega) (by omega)) ?_
          refine z_imul hZ dX8_yanks_83 ?_
          refine z_iadd hZ dX8_yanks_84 ?_
          refine z_iload_n2 hZ dX8_yanks_85 ?_
          refine z_iadd hZ dX8_yanks_86 ?_
          refine z_iald hZ dX8_yanks_87 (by assumption) (by assumption) (by omega) (by exact ykK_at (by omega) (by omega)) ?_
          refine z_iastore hZ dX8_yanks_88 (by assumption) (by assumption) (by omega) (fun F88 hF88 hf88 => ?_)
          have hF := (hf88 x hxa).trans hF
          have hg := hF88
          have t := t.mv hF88 hf88
          have fr := fa.tr fr hf88
          refine z_iinc2 hZ dX8_yanks_89 (by decide) rfl ?_
          refine z_goto hZ (tgt := 47) dX8_yanks_92 rfl ?_
          rw [ykK_s k0] at t
          exact ih (k + 1) _ (by omega) (by omega) (by omega) p3 p0 t fr
    obtain ⟨⟨hx, ha, hxa⟩, ⟨w1, w2, w3, w5, w6, w7, w8, w9, hF⟩, hg⟩ := id t
    have fr : fa a F F := fa.rf
    have hl3 := hl
    by_cases q3 : 0 < g 3
    · have hl := hl q3
      refine z_aload_n0 hZ dX8_yanks_0 ?_
      refine z_gf_X8_s hZ dX8_yanks_1 fl_X8_7 (by assumption) (by assumption) ?_
      refine z_bipush hZ dX8_yanks_4 rfl ?_
      refine z_aload_n0 hZ dX8_yanks_6 ?_
      refine z_gf_X8_s hZ dX8_yanks_7 fl_X8_7 (by assumption) (by assumption) ?_
      refine z_iconst hZ dX8_yanks_10 ?_
      refine z_iald hZ dX8_yanks_11 (by assumption) (by assumption) (by omega) (by first | exact (wu_n (by omega)).trans (by first | exact (wu_n (by omega)).trans (by first | exact (wu_n (by omega)).trans (by first | exact (wu_n (by omega)).trans (by first | exact (wu_n (by omega)).trans (by first | exact (wu_n (by omega)).trans (by first | exact if_neg (by omega) | rfl) | exact wu_s | exact wu_e (by omega) | exact if_neg (by omega) | rfl) | exact wu_s | exact wu_e (by omega) | exact if_neg (by omega) | rfl) | exact wu_s | exact wu_e (by omega) | exact if_neg (by omega) | rfl) | exact wu_s | exact wu_e (by omega) | exact if_neg (by omega) | rfl) | exact wu_s | exact wu_e (by omega) | exact if_neg (by omega) | rfl) | exact wu_s | exact wu_e (by omega) | exact if_neg (by omega) | rfl) ?_
      refine z_iadd hZ dX8_yanks_12 ?_
      refine z_iald hZ dX8_yanks_13 (by assumption) (by assumption) (by omega) (by first | exact (wu_n (by omega)).trans (by first | exact (wu_n (by omega)).trans (by first | exact (wu_n (by omega)).trans (by first | exact (wu_n (by omega)).trans (by first | exact (wu_n (by omega)).trans (by first | exact (wu_n (by omega)).trans (by first | exact if_neg (by omega) | rfl) | exact wu_s | exact wu_e (by omega) | exact if_neg (by omega) | rfl) | exact wu_s | exact wu_e (by omega) | exact if_neg (by omega) | rfl) | exact wu_s | exact wu_e (by omega) | exact if_neg (by omega) | rfl) | exact wu_s | exact wu_e (by omega) | exact if_neg (by omega) | rfl) | exact wu_s | exact wu_e (by omega) | exact if_neg (by omega) | rfl) | exact wu_s | exact wu_e (by omega) | exact if_neg (by omega) | rfl) ?_
      refine z_istore_n1 hZ dX8_yanks_14 (by decide) rfl ?_
      refine z_aload_n0 hZ dX8_yanks_15 ?_
      refine z_gf_X8_s hZ dX8_yanks_16 fl_X8_7 (by assumption) (by assumption) ?_
      refine z_iconst hZ dX8_yanks_19 ?_
      refine z_iald hZ dX8_yanks_20 (by assumption) (by assumption) (by omega) (by first | exact (wu_n (by omega)).trans (by first | exact (wu_n (by omega)).trans (by first | exact (wu_n (by omega)).trans (by first | exact (wu_n (by omega)).trans (by first | exact (wu_n (by omega)).trans (by first | exact (wu_n (by omega)).trans (by first | exact if_neg (by omega) | rfl) | exact wu_s | exact wu_e (by omega) | exact if_neg (by omega) | rfl) | exact wu_s | exact wu_e (by omega) | exact if_neg (by omega) | rfl) | exact wu_s | exact wu_e (by omega) | exact if_neg (by omega) | rfl) | exact wu_s | exact wu_e (by omega) | exact if_neg (by omega) | rfl) | exact wu_s | exact wu_e (by omega) | exact if_neg (by omega) | rfl) | exact wu_s | exact wu_e (by omega) | exact if_neg (by omega) | rfl) ?_
      refine z_if_eq hZ (tgt := 38) dX8_yanks_21 rfl (by omega) (fun hc21 => ?_) (fun hc21 => ?_)
      · exfalso; omega
      · refine z_aload_n0 hZ dX8_yanks_24 ?_
        refine z_gf_X8_s hZ dX8_yanks_25 fl_X8_7 (by assumption) (by assumption) ?_
        refine z_iconst hZ dX8_yanks_28 ?_
        refine z_iald hZ dX8_yanks_29 (by assumption) (by assumption) (by omega) (by first | exact (wu_n (by omega)).trans (by first | exact (wu_n (by omega)).trans (by first | exact (wu_n (by omega)).trans (by first | exact (wu_n (by omega)).trans (by first | exact (wu_n (by omega)).trans (by first | exact (wu_n (by omega)).trans (by first | exact if_neg (by omega) | rfl) | exact wu_s | exact wu_e (by omega) | exact if_neg (by omega) | rfl) | exact wu_s | exact wu_e (by omega) | exact if_neg (by omega) | rfl) | exact wu_s | exact wu_e (by omega) | exact if_neg (by omega) | rfl) | exact wu_s | exact wu_e (by omega) | exact if_neg (by omega) | rfl) | exact wu_s | exact wu_e (by omega) | exact if_neg (by omega) | rfl) | exact wu_s | exact wu_e (by omega) | exact if_neg (by omega) | rfl) ?_
        refine z_iload_n1 hZ dX8_yanks_30 ?_
        refine z_iadd hZ dX8_yanks_31 ?_
        refine z_sipush hZ dX8_yanks_32 rfl ?_
        refine z_icmp_le hZ (tgt := 40) dX8_yanks_35 rfl (by omega) (fun hc35 => ?_) (fun hc35 => ?_)
        · refine z_aload_n0 hZ dX8_yanks_40 ?_
          refine z_iload_n1 hZ dX8_yanks_41 ?_
          refine z_cV hZ (As := [_]) rfl dX8_yanks_42 ml_X8_51 wy_X8_parts (m_X8_parts l t r (by omega)) (by assumption) (by assumption) rfl ⟨Nat.le_of_ble_eq_true rfl, Nat.le_of_ble_eq_true rfl⟩ ⟨Nat.le_of_ble_eq_true rfl, Nat.le_of_ble_eq_true rfl⟩ (Nat.le_of_ble_eq_true rfl) (fun _ _ _ h => h.elim) (fun v42 L42 G42 hp42 => ?_)
          obtain ⟨rfl, rfl, hg, f42⟩ := hp42
          have hF := (f42 x hxa).trans hF
          have t := t.mv hg f42
          have fr := fa.tr fr f42
          refine z_iconst hZ dX8_yanks_45 ?_
          refine z_istore_n2 hZ dX8_yanks_46 (by decide) rfl ?_
          rw [← ykK_0] at t
          exact l1 _ 0 _ rfl (by omega) (by omega) (by omega) (by omega) t fr
        · refine z_iconst hZ dX8_yanks_38 ?_
          exact z_iret hZ rfl (Nat.le_of_ble_eq_true rfl) (Nat.le_of_ble_eq_true rfl) dX8_yanks_39 (by
            have q : ¬ (0 < g 3 ∧ g 0 + nxL g ≤ 200) := by omega
            rw [if_neg q, if_neg q]
            exact ⟨rfl, rfl, hg, fr⟩)
    · skip
      refine z_aload_n0 hZ dX8_yanks_0 ?_
      refine z_gf_X8_s hZ dX8_yanks_1 fl_X8_7 (by assumption) (by assumption) ?_
      refine z_bipush hZ dX8_yanks_4 rfl ?_
      refine z_aload_n0 hZ dX8_yanks_6 ?_
      refine z_gf_X8_s hZ dX8_yanks_7 fl_X8_7 (by assumption) (by assumption) ?_
      refine z_iconst hZ dX8_yanks_10 ?_
      refine z_iald hZ dX8_yanks_11 (by assumption) (by assumption) (by omega) (by first | exact (wu_n (by omega)).trans (by first | exact (wu_n (by omega)).trans (by first | exact (wu_n (by omega)).trans (by first | exact (wu_n (by omega)).trans (by first | exact (wu_n (by omega)).trans (by first | exact (wu_n (by omega)).trans (by first | exact if_neg (by omega) | rfl) | exact wu_s | exact wu_e (by omega) | exact if_neg (by omega) | rfl) | exact wu_s | exact wu_e (by omega) | exact if_neg (by omega) | rfl) | exact wu_s | exact wu_e (by omega) | exact if_neg (by omega) | rfl) | exact wu_s | exact wu_e (by omega) | exact if_neg (by omega) | rfl) | exact wu_s | exact wu_e (by omega) | exact if_neg (by omega) | rfl) | exact wu_s | exact wu_e (by omega) | exact if_neg (by omega) | rfl) ?_
      refine z_iadd hZ dX8_yanks_12 ?_
      refine z_iald hZ dX8_yanks_13 (by assumption) (by assumption) (by omega) (by first | exact (wu_n (by omega)).trans (by first | exact (wu_n (by omega)).trans (by first | exact (wu_n (by omega)).trans (by first | exact (wu_n (by omega)).trans (by first | exact (wu_n (by omega)).trans (by first | exact (wu_n (by omega)).trans (by first | exact if_neg (by omega) | rfl) | exact wu_s | exact wu_e (by omega) | exact if_neg (by omega) | rfl) | exact wu_s | exact wu_e (by omega) | exact if_neg (by omega) | rfl) | exact wu_s | exact wu_e (by omega) | exact if_neg (by omega) | rfl) | exact wu_s | exact wu_e (by omega) | exact if_neg (by omega) | rfl) | exact wu_s | exact wu_e (by omega) | exact if_neg (by omega) | rfl) | exact wu_s | exact wu_e (by omega) | exact if_neg (by omega) | rfl) ?_
      refine z_istore_n1 hZ dX8_yanks_14 (by decide) rfl ?_
      refine z_aload_n0 hZ dX8_yanks_15 ?_
      refine z_gf_X8_s hZ dX8_yanks_16 fl_X8_7 (by assumption) (by assumption) ?_
      refine z_iconst hZ dX8_yanks_19 ?_
      refine z_iald hZ dX8_yanks_20 (by assumption) (by assumption) (by omega) (by first | exact (wu_n (by omega)).trans (by first | exact (wu_n (by omega)).trans (by first | exact (wu_n (by omega)).trans (by first | exact (wu_n (by omega)).trans (by first | exact (wu_n (by omega)).trans (by first | exact (wu_n (by omega)).trans (by first | exact if_neg (by omega) | rfl) | exact wu_s | exact wu_e (by omega) | exact if_neg (by omega) | rfl) | exact wu_s | exact wu_e (by omega) | exact if_neg (by omega) | rfl) | exact wu_s | exact wu_e (by omega) | exact if_neg (by omega) | rfl) | exact wu_s | exact wu_e (by omega) | exact if_neg (by omega) | rfl) | exact wu_s | exact wu_e (by omega) | exact if_neg (by omega) | rfl) | exact wu_s | exact wu_e (by omega) | exact if_neg (by omega) | rfl) ?_
      refine z_if_eq hZ (tgt := 38) dX8_yanks_21 rfl (by omega) (fun hc21 => ?_) (fun hc21 => ?_)
      · refine z_iconst hZ dX8_yanks_38 ?_
        exact z_iret hZ rfl (Nat.le_of_ble_eq_true rfl) (Nat.le_of_ble_eq_true rfl) dX8_yanks_39 (by
            have q : ¬ (0 < g 3 ∧ g 0 + nxL g ≤ 200) := fun z => q3 z.1
            rw [if_neg q, if_neg q]
            exact ⟨rfl, rfl, hg, fr⟩)
      · exfalso; omega
  exact hgo
set_option maxRecDepth 100000 in
set_option maxHeartbeats 4000000 in
theorem m_X8_turns (l : Launch) {L : List Nat} {F : Nat → PE} {x a : Nat} {g : Int → Int} {kd z : Int} (t : ms L F x a g kd) (hz : -20 ≤ z ∧ z ≤ 20) (h3 : 0 ≤ g 3 ∧ g 3 ≤ 8 ∧ 0 ≤ g 4 ∧ g 4 ≤ 7) : PM l yX8_turns cX8_turns 2 (some .int) (rm 1 0 0) L [.ref x, .int (iI z)] F (fun v9 L1 F1 => v9 = some (.int (iI (if 0 < g 3 then trA z g else -1))) ∧ L = L1 ∧ F1 a = eI 0 18180 (if 0 < g 3 then vTr z g else g) ∧ ∀ b, b ≠ a → F1 b = F b) (fun _ _ _ => False) := by
  refine pm_of cd_X8_turns (by decide +kernel) (Nat.le_of_ble_eq_true rfl) (fun ZZ hZ => ?_)
  have hgo : ZZ 0 0 0 [some (.ref x), some (.int (iI z))] [] L F := by
    obtain ⟨⟨hx, ha, hxa⟩, ⟨w1, w2, w3, w5, w6, w7, w8, w9, hF⟩, hg⟩ := id t
    have fr : fa a F F := fa.rf
    refine z_aload_n0 hZ dX8_turns_0 ?_
    refine z_gf_X8_s hZ dX8_turns_1 fl_X8_7 (by assumption) (by assumption) ?_
    refine z_iconst hZ dX8_turns_4 ?_
    refine z_iald hZ dX8_turns_5 (by assumption) (by assumption) (by omega) (by rfl) ?_
    refine z_if_ne hZ (tgt := 11) dX8_turns_6 rfl (by omega) (fun hc6 => ?_) (fun hc6 => ?_)
    · refine z_aload_n0 hZ dX8_turns_11 ?_
      refine z_gf_X8_s hZ dX8_turns_12 fl_X8_7 (by assumption) (by assumption) ?_
      refine z_iconst hZ dX8_turns_15 ?_
      refine z_aload_n0 hZ dX8_turns_16 ?_
      refine z_gf_X8_s hZ dX8_turns_17 fl_X8_7 (by assumption) (by assumption) ?_
      refine z_iconst hZ dX8_turns_20 ?_
      refine z_iald hZ dX8_turns_21 (by assumption) (by assumption) (by omega) (by rfl) ?_
      refine z_iload_n1 hZ dX8_turns_22 ?_
      refine z_iadd hZ dX8_turns_23 ?_
      refine z_bipush hZ dX8_turns_24 rfl ?_
      refine z_aload_n0 hZ dX8_turns_26 ?_
      refine z_gf_X8_s hZ dX8_turns_27 fl_X8_7 (by assumption) (by assumption) ?_
      refine z_iconst hZ dX8_turns_30 ?_
      refine z_iald hZ dX8_turns_31 (by assumption) (by assumption) (by omega) (by rfl) ?_
      refine z_imul hZ dX8_turns_32 ?_
      refine z_iadd hZ dX8_turns_33 ?_
      refine z_aload_n0 hZ dX8_turns_34 ?_
      refine z_gf_X8_s hZ dX8_turns_35 fl_X8_7 (by assumption) (by assumption) ?_
      refine z_iconst hZ dX8_turns_38 ?_
      refine z_iald hZ dX8_turns_39 (by assumption) (by assumption) (by omega) (by rfl) ?_
      refine z_irem hZ dX8_turns_40 (by omega) ?_
      refine z_iastore hZ dX8_turns_41 (by assumption) (by assumption) (by omega) (fun F41 hF41 hf41 => ?_)
      have hF := (hf41 x hxa).trans hF
      have hg := hF41
      have t := t.mv hF41 hf41
      have fr := fa.tr fr hf41
      refine z_aload_n0 hZ dX8_turns_42 ?_
      refine z_gf_X8_s hZ dX8_turns_43 fl_X8_7 (by assumption) (by assumption) ?_
      refine z_iconst hZ dX8_turns_46 ?_
      refine z_iald hZ dX8_turns_47 (by assumption) (by assumption) (by omega) (by exact wu_s) ?_
      exact z_iret hZ rfl (Nat.le_of_ble_eq_true rfl) (Nat.le_of_ble_eq_true rfl) dX8_turns_48 (by
            rw [if_pos (by omega), if_pos (by omega)]
            exact ⟨rfl, rfl, hg, fr⟩)
    · refine z_iconst hZ dX8_turns_9 ?_
      exact z_iret hZ rfl (Nat.le_of_ble_eq_true rfl) (Nat.le_of_ble_eq_true rfl) dX8_turns_10 (by
            rw [if_neg (by omega), if_neg (by omega)]
            exact ⟨rfl, rfl, hg, fr⟩)
  exact hgo
set_option maxRecDepth 100000 in
set_option maxHeartbeats 4000000 in
theorem m_X8_yanksOther (l : Launch) {L : List Nat} {F : Nat → PE} {x a : Nat} {g : Int → Int} {kd : Int} (t : ms L F x a g kd) (v : vf g kd) : PM l yX8_yanksOther cX8_yanksOther 2 (some .int) (rm 4 0 0) L [.ref x] F (fun v9 L1 F1 => v9 = some (.int (iI (if kd = 2 ∧ g 0 - (g 1 - g 2) + oyL g ≤ 200 then oyL g else -1))) ∧ L = L1 ∧ F1 a = eI 0 18180 (if kd = 2 ∧ g 0 - (g 1 - g 2) + oyL g ≤ 200 then vYo g else g) ∧ ∀ b, b ≠ a → F1 b = F b) (fun _ _ _ => False) := by
  refine pm_of cd_X8_yanksOther (by decide +kernel) (Nat.le_of_ble_eq_true rfl) (fun ZZ hZ => ?_)
  have hgo : ZZ 0 0 0 [some (.ref x), none] [] L F := by
    obtain ⟨⟨hx, ha, hxa⟩, ⟨w1, w2, w3, w5, w6, w7, w8, w9, hF⟩, hg⟩ := id t
    have fr : fa a F F := fa.rf
    have r := v.1
    have rk := v.2.1.2.2.2.1
    by_cases k2 : kd = 2
    · have z2 := v.2.1.2.2.2.2.2 k2
      have z4 := v.2.1.2.2.1 (by omega)
      have rt := trA_rg (z := 1) (v := g) (by omega)
      have et : (g 4 + 1) % g 3 = trA 1 g := trA_eq.symm
      have eo : g (10 + trA 1 g) = oyL g := rfl
      have ho := v.2.1.1 (trA 1 g) rt.1 rt.2
      rw [eo] at ho
      have ea : abI (g 2 - g 1) = g 1 - g 2 := by unfold abI; split <;> omega
      obtain ⟨h, hh⟩ : ∃ h, h = vTk (g 2) (g 1) g := ⟨_, rfl⟩
      have h3 : h 3 = g 3 := by rw [hh]; exact vTk_at (by omega) (by omega)
      have h4 : h 4 = g 4 := by rw [hh]; exact vTk_at (by omega) (by omega)
      have hA : h (10 + trA 1 g) = g (10 + trA 1 g) := by rw [hh]; exact vTk_at (by omega) (by omega)
      have h0 : h 0 = g 0 - (g 1 - g 2) := by
        rw [hh]; unfold vTk
        exact (wu_n (by omega)).trans ((wu_n (by omega)).trans wu_s)
      have h1 : h 1 = g 2 := by
        rw [hh]; unfold vTk
        refine (wu_n (by omega)).trans (wu_s.trans ?_)
        unfold mvA
        rw [if_pos (by omega)]; omega
      have h2 : h 2 = g 2 := by
        rw [hh]; unfold vTk
        refine wu_s.trans ?_
        unfold mvA
        by_cases q : g 1 ≤ g 2
        · rw [if_pos q]; omega
        · rw [if_neg q, if_neg (by omega)]
      have etr : trA 1 h = trA 1 g := by unfold trA; rw [h3, h4]
      obtain ⟨w, hw⟩ : ∃ w, w = vTr 1 h := ⟨_, rfl⟩
      have w4 : w 4 = trA 1 g := by rw [hw]; exact wu_s.trans etr
      have wn : ∀ y, y ≠ 4 → w y = h y := fun y hy => by rw [hw]; exact wu_n hy
      have wN : nxL w = oyL g := by unfold nxL; rw [w4, wn _ (by omega), hA]; rfl
      have w0 := (wn 0 (by omega)).trans h0
      have w1 := (wn 1 (by omega)).trans h1
      have w2 := (wn 2 (by omega)).trans h2
      have w3 := (wn 3 (by omega)).trans h3
      have eY : vYo g = vYk w := by rw [hw, hh]; rfl
      refine z_aload_n0 hZ dX8_yanksOther_0 ?_
      refine z_gf_X8_kind hZ dX8_yanksOther_1 fl_X8_67 (by assumption) (by assumption) ?_
      refine z_iconst hZ dX8_yanksOther_4 ?_
      refine z_icmp_eq hZ (tgt := 10) dX8_yanksOther_5 rfl (by omega) (fun hc5 => ?_) (fun hc5 => ?_)
      · refine z_aload_n0 hZ dX8_yanksOther_10 ?_
        refine z_gf_X8_s hZ dX8_yanksOther_11 fl_X8_7 (by assumption) (by assumption) ?_
        refine z_bipush hZ dX8_yanksOther_14 rfl ?_
        refine z_aload_n0 hZ dX8_yanksOther_16 ?_
        refine z_gf_X8_s hZ dX8_yanksOther_17 fl_X8_7 (by assumption) (by assumption) ?_
        refine z_iconst hZ dX8_yanksOther_20 ?_
        refine z_iald hZ dX8_yanksOther_21 (by assumption) (by assumption) (by omega) (by rfl) ?_
        refine z_iconst hZ dX8_yanksOther_22 ?_
        refine z_iadd hZ dX8_yanksOther_23 ?_
        refine z_aload_n0 hZ dX8_yanksOther_24 ?_
        refine z_gf_X8_s hZ dX8_yanksOther_25 fl_X8_7 (by assumption) (by assumption) ?_
        refine z_iconst hZ dX8_yanksOther_28 ?_
        refine z_iald hZ dX8_yanksOther_29 (by assumption) (by assumption) (by omega) (by rfl) ?_
        refine z_irem hZ dX8_yanksOther_30 (by omega) ?_
        rw [et]
        refine z_iadd hZ dX8_yanksOther_31 ?_
        refine z_iald hZ dX8_yanksOther_32 (by assumption) (by assumption) (by omega) (by rfl) ?_
        rw [eo]
        refine z_istore_n1 hZ dX8_yanksOther_33 (by decide) rfl ?_
        refine z_aload_n0 hZ dX8_yanksOther_34 ?_
        refine z_gf_X8_s hZ dX8_yanksOther_35 fl_X8_7 (by assumption) (by assumption) ?_
        refine z_iconst hZ dX8_yanksOther_38 ?_
        refine z_iald hZ dX8_yanksOther_39 (by assumption) (by assumption) (by omega) (by rfl) ?_
        refine z_aload_n0 hZ dX8_yanksOther_40 ?_
        refine z_cV hZ (As := []) rfl dX8_yanksOther_41 ml_X8_84 wy_X8_apart (m_X8_apart l t (by omega)) (by assumption) (by assumption) rfl ⟨Nat.le_of_ble_eq_true rfl, Nat.le_of_ble_eq_true rfl⟩ ⟨Nat.le_of_ble_eq_true rfl, Nat.le_of_ble_eq_true rfl⟩ (Nat.le_of_ble_eq_true rfl) (fun _ _ _ h => h.elim) (fun v41 L41 G41 hp41 => ?_)
        obtain ⟨rfl, rfl, rfl⟩ := hp41
        rw [ea]
        refine z_isub hZ dX8_yanksOther_44 ?_
        refine z_iload_n1 hZ dX8_yanksOther_45 ?_
        refine z_iadd hZ dX8_yanksOther_46 ?_
        refine z_sipush hZ dX8_yanksOther_47 rfl ?_
        refine z_icmp_le hZ (tgt := 55) dX8_yanksOther_50 rfl (by omega) (fun hc50 => ?_) (fun hc50 => ?_)
        · refine z_aload_n0 hZ dX8_yanksOther_55 ?_
          refine z_aload_n0 hZ dX8_yanksOther_56 ?_
          refine z_gf_X8_s hZ dX8_yanksOther_57 fl_X8_7 (by assumption) (by assumption) ?_
          refine z_iconst hZ dX8_yanksOther_60 ?_
          refine z_iald hZ dX8_yanksOther_61 (by assumption) (by assumption) (by omega) (by rfl) ?_
          refine z_aload_n0 hZ dX8_yanksOther_62 ?_
          refine z_gf_X8_s hZ dX8_yanksOther_63 fl_X8_7 (by assumption) (by assumption) ?_
          refine z_iconst hZ dX8_yanksOther_66 ?_
          refine z_iald hZ dX8_yanksOther_67 (by assumption) (by assumption) (by omega) (by rfl) ?_
          refine z_cV hZ (As := [_, _]) rfl dX8_yanksOther_68 ml_X8_55 wy_X8_takesOut (m_X8_takesOut l t (by omega) (by omega)) (by assumption) (by assumption) rfl ⟨Nat.le_of_ble_eq_true rfl, Nat.le_of_ble_eq_true rfl⟩ ⟨Nat.le_of_ble_eq_true rfl, Nat.le_of_ble_eq_true rfl⟩ (Nat.le_of_ble_eq_true rfl) (fun _ _ _ h => h.elim) (fun v68 L68 G68 hp68 => ?_)
          obtain ⟨rfl, rfl, hg, f68⟩ := hp68
          have hF := (f68 x hxa).trans hF
          have t := t.mv hg f68
          have fr := fa.tr fr f68
          rw [← hh] at hg t
          refine z_aload_n0 hZ dX8_yanksOther_71 ?_
          refine z_iconst hZ dX8_yanksOther_72 ?_
          refine z_cV hZ (As := [_]) rfl dX8_yanksOther_73 ml_X8_88 wy_X8_turns (m_X8_turns l t (by omega) (by omega)) (by assumption) (by assumption) rfl ⟨Nat.le_of_ble_eq_true rfl, Nat.le_of_ble_eq_true rfl⟩ ⟨Nat.le_of_ble_eq_true rfl, Nat.le_of_ble_eq_true rfl⟩ (Nat.le_of_ble_eq_true rfl) (fun _ _ _ h => h.elim) (fun v73 L73 G73 hp73 => ?_)
          obtain ⟨rfl, rfl, hg, f73⟩ := hp73
          rw [if_pos (by omega), ← hw] at hg
          have hF := (f73 x hxa).trans hF
          have t := t.mv hg f73
          have fr := fa.tr fr f73
          refine z_pop hZ dX8_yanksOther_76 rfl ?_
          refine z_aload_n0 hZ dX8_yanksOther_77 ?_
          refine z_cV hZ (As := []) rfl dX8_yanksOther_78 ml_X8_91 wy_X8_yanks (m_X8_yanks l t (by omega) (by omega) (fun _ => by show 1 ≤ nxL w ∧ nxL w ≤ 200; omega)) (by assumption) (by assumption) rfl ⟨Nat.le_of_ble_eq_true rfl, Nat.le_of_ble_eq_true rfl⟩ ⟨Nat.le_of_ble_eq_true rfl, Nat.le_of_ble_eq_true rfl⟩ (Nat.le_of_ble_eq_true rfl) (fun _ _ _ h => h.elim) (fun v78 L78 G78 hp78 => ?_)
          obtain ⟨rfl, rfl, hg, f78⟩ := hp78
          have fr := fa.tr fr f78
          exact z_iret hZ rfl (Nat.le_of_ble_eq_true rfl) (Nat.le_of_ble_eq_true rfl) dX8_yanksOther_81 (by
            rw [if_pos (by omega)] at hg
            rw [if_pos (by omega), if_pos (by omega), if_pos (by omega), eY, wN]
            exact ⟨rfl, rfl, hg, fr⟩)
        · refine z_iconst hZ dX8_yanksOther_53 ?_
          exact z_iret hZ rfl (Nat.le_of_ble_eq_true rfl) (Nat.le_of_ble_eq_true rfl) dX8_yanksOther_54 (by
            rw [if_neg (by omega), if_neg (by omega)]
            exact ⟨rfl, rfl, hg, fr⟩)
      · exfalso; omega
    · skip
      refine z_aload_n0 hZ dX8_yanksOther_0 ?_
      refine z_gf_X8_kind hZ dX8_yanksOther_1 fl_X8_67 (by assumption) (by assumption) ?_
      refine z_iconst hZ dX8_yanksOther_4 ?_
      refine z_icmp_eq hZ (tgt := 10) dX8_yanksOther_5 rfl (by omega) (fun hc5 => ?_) (fun hc5 => ?_)
      · exfalso; omega
      · refine z_iconst hZ dX8_yanksOther_8 ?_
        exact z_iret hZ rfl (Nat.le_of_ble_eq_true rfl) (Nat.le_of_ble_eq_true rfl) dX8_yanksOther_9 (by
            rw [if_neg (fun z => k2 z.1), if_neg (fun z => k2 z.1)]
            exact ⟨rfl, rfl, hg, fr⟩)
  exact hgo
def kdC (c : Int) : Int := if c = 119 ∨ c = 87 ∨ c = 107 ∨ c = 114 then 1 else if c = 121 ∨ c = 112 then 2 else 0
theorem kdC_d : ∀ d : Nat, d < 22 → kdC (dI d) = dKn d := by decide
set_option maxRecDepth 100000 in
set_option maxHeartbeats 4000000 in
theorem m_X8_kindOf (l : Launch) {L : List Nat} {F : Nat → PE} {c : Int} (hc : -2147483648 ≤ c ∧ c ≤ 2147483647) : PM l yX8_kindOf cX8_kindOf 1 (some .int) (rm 1 0 0) L [.int (iI c)] F (fun v9 L1 F1 => v9 = some (.int (iI (kdC c))) ∧ L = L1 ∧ F = F1) (fun _ _ _ => False) := by
  refine pm_of cd_X8_kindOf (by decide +kernel) (Nat.le_of_ble_eq_true rfl) (fun ZZ hZ => ?_)
  have hgo : ZZ 0 0 0 [some (.int (iI c))] [] L F := by
    refine z_iload_n0 hZ dX8_kindOf_0 ?_
    refine z_bipush hZ dX8_kindOf_1 rfl ?_
    refine z_icmp_eq hZ (tgt := 24) dX8_kindOf_3 rfl (by omega) (fun hc3 => ?_) (fun hc3 => ?_)
    · refine z_iconst hZ dX8_kindOf_24 ?_
      refine z_goto hZ (tgt := 45) dX8_kindOf_25 rfl ?_
      exact z_iret hZ rfl (Nat.le_of_ble_eq_true rfl) (Nat.le_of_ble_eq_true rfl) dX8_kindOf_45 (by exact ⟨pv (by unfold kdC; (repeat' split) <;> omega), rfl, rfl⟩)
    · refine z_iload_n0 hZ dX8_kindOf_6 ?_
      refine z_bipush hZ dX8_kindOf_7 rfl ?_
      refine z_icmp_eq hZ (tgt := 24) dX8_kindOf_9 rfl (by omega) (fun hc9 => ?_) (fun hc9 => ?_)
      · refine z_iconst hZ dX8_kindOf_24 ?_
        refine z_goto hZ (tgt := 45) dX8_kindOf_25 rfl ?_
        exact z_iret hZ rfl (Nat.le_of_ble_eq_true rfl) (Nat.le_of_ble_eq_true rfl) dX8_kindOf_45 (by exact ⟨pv (by unfold kdC; (repeat' split) <;> omega), rfl, rfl⟩)
      · refine z_iload_n0 hZ dX8_kindOf_12 ?_
        refine z_bipush hZ dX8_kindOf_13 rfl ?_
        refine z_icmp_eq hZ (tgt := 24) dX8_kindOf_15 rfl (by omega) (fun hc15 => ?_) (fun hc15 => ?_)
        · refine z_iconst hZ dX8_kindOf_24 ?_
          refine z_goto hZ (tgt := 45) dX8_kindOf_25 rfl ?_
          exact z_iret hZ rfl (Nat.le_of_ble_eq_true rfl) (Nat.le_of_ble_eq_true rfl) dX8_kindOf_45 (by exact ⟨pv (by unfold kdC; (repeat' split) <;> omega), rfl, rfl⟩)
        · refine z_iload_n0 hZ dX8_kindOf_18 ?_
          refine z_bipush hZ dX8_kindOf_19 rfl ?_
          refine z_icmp_ne hZ (tgt := 28) dX8_kindOf_21 rfl (by omega) (fun hc21 => ?_) (fun hc21 => ?_)
          · refine z_iload_n0 hZ dX8_kindOf_28 ?_
            refine z_bipush hZ dX8_kindOf_29 rfl ?_
            refine z_icmp_eq hZ (tgt := 40) dX8_kindOf_31 rfl (by omega) (fun hc31 => ?_) (fun hc31 => ?_)
            · refine z_iconst hZ dX8_kindOf_40 ?_
              refine z_goto hZ (tgt := 45) dX8_kindOf_41 rfl ?_
              exact z_iret hZ rfl (Nat.le_of_ble_eq_true rfl) (Nat.le_of_ble_eq_true rfl) dX8_kindOf_45 (by exact ⟨pv (by unfold kdC; (repeat' split) <;> omega), rfl, rfl⟩)
            · refine z_iload_n0 hZ dX8_kindOf_34 ?_
              refine z_bipush hZ dX8_kindOf_35 rfl ?_
              refine z_icmp_ne hZ (tgt := 44) dX8_kindOf_37 rfl (by omega) (fun hc37 => ?_) (fun hc37 => ?_)
              · refine z_iconst hZ dX8_kindOf_44 ?_
                exact z_iret hZ rfl (Nat.le_of_ble_eq_true rfl) (Nat.le_of_ble_eq_true rfl) dX8_kindOf_45 (by exact ⟨pv (by unfold kdC; (repeat' split) <;> omega), rfl, rfl⟩)
              · refine z_iconst hZ dX8_kindOf_40 ?_
                refine z_goto hZ (tgt := 45) dX8_kindOf_41 rfl ?_
                exact z_iret hZ rfl (Nat.le_of_ble_eq_true rfl) (Nat.le_of_ble_eq_true rfl) dX8_kindOf_45 (by exact ⟨pv (by unfold kdC; (repeat' split) <;> omega), rfl, rfl⟩)
          · refine z_iconst hZ dX8_kindOf_24 ?_
            refine z_goto hZ (tgt := 45) dX8_kindOf_25 rfl ?_
            exact z_iret hZ rfl (Nat.le_of_ble_eq_true rfl) (Nat.le_of_ble_eq_true rfl) dX8_kindOf_45 (by exact ⟨pv (by unfold kdC; (repeat' split) <;> omega), rfl, rfl⟩)
  exact hgo
/-- what a deed by its sign does to the row of numbers, and answers -/
def dQ (d : Nat) (kd c : Int) (g : Int → Int) (v9 : Option Value) (A : PE) : Prop := (dOk d kd g ∧ (∃ r, v9 = some (.int (iI r)) ∧ 0 ≤ r ∧ r ≤ 1000 ∧ ((2 ≤ d ∧ d ≤ 18 ∧ d ≠ 15) → r = dAn d g)) ∧ A = eI 0 18180 (dTo d c kd g)) ∨ (¬ dOk d kd g ∧ v9 = some (.int (iI (-1))) ∧ A = eI 0 18180 g)
theorem dQ.mk {d : Nat} {kd c : Int} {g : Int → Int} {A : PE} {P : Prop} [Decidable P] {r : Int} {N : Int → Int} (hP : P ↔ dOk d kd g) (hr : P → 0 ≤ r ∧ r ≤ 1000 ∧ ((2 ≤ d ∧ d ≤ 18 ∧ d ≠ 15) → r = dAn d g)) (hN : N = dTo d c kd g) (e2 : A = eI 0 18180 (if P then N else g)) : dQ d kd c g (some (.int (iI (if P then r else -1)))) A := by
  by_cases q : P
  · rw [if_pos q] at e2 ⊢
    exact Or.inl ⟨hP.mp q, ⟨r, rfl, hr q⟩, by rw [e2, hN]⟩
  · rw [if_neg q] at e2 ⊢
    exact Or.inr ⟨fun z => q (hP.mpr z), rfl, e2⟩
theorem dQ.yes {d : Nat} {kd c : Int} {g : Int → Int} {A : PE} {r : Int} {N : Int → Int} (hP : dOk d kd g) (hr : 0 ≤ r ∧ r ≤ 1000 ∧ ((2 ≤ d ∧ d ≤ 18 ∧ d ≠ 15) → r = dAn d g)) (hN : N = dTo d c kd g) (e2 : A = eI 0 18180 N) : dQ d kd c g (some (.int (iI r))) A := Or.inl ⟨hP, ⟨r, rfl, hr⟩, by rw [e2, hN]⟩
theorem dQ.val {d : Nat} {kd c : Int} {g : Int → Int} {v9 : Option Value} {A : PE} (h : dQ d kd c g v9 A) : ∃ q, v9 = some (.int (iI q)) := by
  rcases h with ⟨_, ⟨q, e, _⟩, _⟩ | ⟨_, e, _⟩
  · exact ⟨q, e⟩
  · exact ⟨_, e⟩
set_option maxRecDepth 100000 in
set_option maxHeartbeats 4000000 in
theorem m_X8_doesMore (l : Launch) {L : List Nat} {F : Nat → PE} {x a : Nat} {g : Int → Int} {kd c : Int} {d : Nat} (t : ms L F x a g kd) (v : vf g kd) (hd : d < 22) (h12 : 12 ≤ d) : PM l yX8_doesMore cX8_doesMore 3 (some .int) (rm 7 0 0) L [.ref x, .int (iI (dI d)), .int (iI c)] F (fun v9 L1 F1 => L = L1 ∧ (∀ b, b ≠ a → F1 b = F b) ∧ dQ d kd c g v9 (F1 a)) (fun _ _ _ => False) := by
  refine pm_of cd_X8_doesMore (by decide +kernel) (Nat.le_of_ble_eq_true rfl) (fun ZZ hZ => ?_)
  have hgo : ZZ 0 0 0 [some (.ref x), some (.int (iI (dI d))), some (.int (iI c))] [] L F := by
    obtain ⟨⟨hx, ha, hxa⟩, ⟨w1, w2, w3, w5, w6, w7, w8, w9, hF⟩, hg⟩ := id t
    have fr : fa a F F := fa.rf
    have r := v.1
    have rN : 0 < g 3 → 1 ≤ nxL g ∧ nxL g ≤ 200 := fun q => by have z := v.2.1.2.2.1 q; exact v.2.1.1 (g 4) z.1 z.2
    have r4 : 0 ≤ g 4 ∧ g 4 ≤ 7 := by
      by_cases q : g 3 = 0
      · have z := v.2.1.2.1 q; omega
      · have z := v.2.1.2.2.1 (by omega); omega
    have rG := grN_rg (v := g) (by omega)
    have rT : 0 < g 3 → 0 ≤ trA 1 g ∧ trA 1 g < g 3 := fun q => trA_rg q
    have rO : kd = 2 → 1 ≤ oyL g ∧ oyL g ≤ 200 := fun q => by have z := v.2.1.2.2.2.2.2 q; have z2 := rT (by omega); exact v.2.1.1 (trA 1 g) z2.1 z2.2
    have rc : ∀ k, 0 ≤ k → k < g 0 → 10 ≤ g (18 + k) ∧ g (18 + k) ≤ 126 := v.2.2.1
    have rmn : 0 ≤ mxI (g 2) (g 1) - mnI (g 2) (g 1) ∧ mxI (g 2) (g 1) - mnI (g 2) (g 1) ≤ 201 := by unfold mxI mnI; split <;> split <;> omega
    match d, hd, h12 with
    | 12, _, _ =>
      rw [show dI 12 = 99 from rfl]
      refine z_iload_n1 hZ dX8_doesMore_0 ?_
      refine z_tIn hZ (tgt := 124) (off := 123) dX8_doesMore_1 (by omega) rfl rfl ?_
      refine z_aload_n0 hZ dX8_doesMore_124 ?_
      refine z_cV hZ (As := []) rfl dX8_doesMore_125 ml_X8_119 wy_X8_copiesBetween (m_X8_copiesBetween l t v) (by assumption) (by assumption) rfl ⟨Nat.le_of_ble_eq_true rfl, Nat.le_of_ble_eq_true rfl⟩ ⟨Nat.le_of_ble_eq_true rfl, Nat.le_of_ble_eq_true rfl⟩ (Nat.le_of_ble_eq_true rfl) (fun _ _ _ h => h.elim) (fun v125 L125 G125 hp125 => ?_)
      obtain ⟨rfl, rfl, hg, f9⟩ := hp125
      exact z_iret hZ rfl (Nat.le_of_ble_eq_true rfl) (Nat.le_of_ble_eq_true rfl) dX8_doesMore_128 (by exact ⟨rfl, f9, dQ.mk Iff.rfl (fun _ => ⟨by omega, by omega, fun _ => rfl⟩) rfl hg⟩)
    | 13, _, _ =>
      rw [show dI 13 = 121 from rfl]
      refine z_iload_n1 hZ dX8_doesMore_0 ?_
      refine z_tIn hZ (tgt := 129) (off := 128) dX8_doesMore_1 (by omega) rfl rfl ?_
      refine z_aload_n0 hZ dX8_doesMore_129 ?_
      refine z_cV hZ (As := []) rfl dX8_doesMore_130 ml_X8_91 wy_X8_yanks (m_X8_yanks l t (by omega) (by omega) rN) (by assumption) (by assumption) rfl ⟨Nat.le_of_ble_eq_true rfl, Nat.le_of_ble_eq_true rfl⟩ ⟨Nat.le_of_ble_eq_true rfl, Nat.le_of_ble_eq_true rfl⟩ (Nat.le_of_ble_eq_true rfl) (fun _ _ _ h => h.elim) (fun v130 L130 G130 hp130 => ?_)
      obtain ⟨rfl, rfl, hg, f9⟩ := hp130
      exact z_iret hZ rfl (Nat.le_of_ble_eq_true rfl) (Nat.le_of_ble_eq_true rfl) dX8_doesMore_133 (by exact ⟨rfl, f9, dQ.mk Iff.rfl (fun z => ⟨by have := rN z.1; omega, by have := rN z.1; omega, fun _ => rfl⟩) rfl hg⟩)
    | 14, _, _ =>
      rw [show dI 14 = 112 from rfl]
      refine z_iload_n1 hZ dX8_doesMore_0 ?_
      refine z_tIn hZ (tgt := 134) (off := 133) dX8_doesMore_1 (by omega) rfl rfl ?_
      refine z_aload_n0 hZ dX8_doesMore_134 ?_
      refine z_cV hZ (As := []) rfl dX8_doesMore_135 ml_X8_122 wy_X8_yanksOther (m_X8_yanksOther l t v) (by assumption) (by assumption) rfl ⟨Nat.le_of_ble_eq_true rfl, Nat.le_of_ble_eq_true rfl⟩ ⟨Nat.le_of_ble_eq_true rfl, Nat.le_of_ble_eq_true rfl⟩ (Nat.le_of_ble_eq_true rfl) (fun _ _ _ h => h.elim) (fun v135 L135 G135 hp135 => ?_)
      obtain ⟨rfl, rfl, hg, f9⟩ := hp135
      exact z_iret hZ rfl (Nat.le_of_ble_eq_true rfl) (Nat.le_of_ble_eq_true rfl) dX8_doesMore_138 (by exact ⟨rfl, f9, dQ.mk Iff.rfl (fun z => ⟨by have := rO z.1; omega, by have := rO z.1; omega, fun _ => rfl⟩) rfl hg⟩)
    | 15, _, _ =>
      rw [show dI 15 = 116 from rfl]
      refine z_iload_n1 hZ dX8_doesMore_0 ?_
      refine z_tIn hZ (tgt := 139) (off := 138) dX8_doesMore_1 (by omega) rfl rfl ?_
      refine z_aload_n0 hZ dX8_doesMore_139 ?_
      refine z_iconst hZ dX8_doesMore_140 ?_
      refine z_cV hZ (As := [_]) rfl dX8_doesMore_141 ml_X8_88 wy_X8_turns (m_X8_turns l t (by omega) (by omega)) (by assumption) (by assumption) rfl ⟨Nat.le_of_ble_eq_true rfl, Nat.le_of_ble_eq_true rfl⟩ ⟨Nat.le_of_ble_eq_true rfl, Nat.le_of_ble_eq_true rfl⟩ (Nat.le_of_ble_eq_true rfl) (fun _ _ _ h => h.elim) (fun v141 L141 G141 hp141 => ?_)
      obtain ⟨rfl, rfl, hg, f9⟩ := hp141
      exact z_iret hZ rfl (Nat.le_of_ble_eq_true rfl) (Nat.le_of_ble_eq_true rfl) dX8_doesMore_144 (by exact ⟨rfl, f9, dQ.mk Iff.rfl (fun z => ⟨by have := rT z; omega, by have := rT z; omega, fun w => absurd rfl w.2.2⟩) rfl hg⟩)
    | 16, _, _ =>
      rw [show dI 16 = 117 from rfl]
      refine z_iload_n1 hZ dX8_doesMore_0 ?_
      refine z_tIn hZ (tgt := 145) (off := 144) dX8_doesMore_1 (by omega) rfl rfl ?_
      refine z_aload_n0 hZ dX8_doesMore_145 ?_
      refine z_cV hZ (As := []) rfl dX8_doesMore_146 ml_X8_125 wy_X8_rubs (m_X8_rubs l t (by omega)) (by assumption) (by assumption) rfl ⟨Nat.le_of_ble_eq_true rfl, Nat.le_of_ble_eq_true rfl⟩ ⟨Nat.le_of_ble_eq_true rfl, Nat.le_of_ble_eq_true rfl⟩ (Nat.le_of_ble_eq_true rfl) (fun _ _ _ h => h.elim) (fun v146 L146 G146 hp146 => ?_)
      obtain ⟨rfl, rfl, hg, f9⟩ := hp146
      exact z_iret hZ rfl (Nat.le_of_ble_eq_true rfl) (Nat.le_of_ble_eq_true rfl) dX8_doesMore_149 (by exact ⟨rfl, f9, dQ.mk Iff.rfl (fun z => ⟨by have := rc (g 1 - 1) (by omega) (by omega); omega, by have := rc (g 1 - 1) (by omega) (by omega); omega, fun _ => rfl⟩) rfl hg⟩)
    | 17, _, _ =>
      rw [show dI 17 = 115 from rfl]
      refine z_iload_n1 hZ dX8_doesMore_0 ?_
      refine z_tIn hZ (tgt := 150) (off := 149) dX8_doesMore_1 (by omega) rfl rfl ?_
      refine z_aload_n0 hZ dX8_doesMore_150 ?_
      refine z_cV hZ (As := []) rfl dX8_doesMore_151 ml_X8_128 wy_X8_swaps (m_X8_swaps l t (by omega)) (by assumption) (by assumption) rfl ⟨Nat.le_of_ble_eq_true rfl, Nat.le_of_ble_eq_true rfl⟩ ⟨Nat.le_of_ble_eq_true rfl, Nat.le_of_ble_eq_true rfl⟩ (Nat.le_of_ble_eq_true rfl) (fun _ _ _ h => h.elim) (fun v151 L151 G151 hp151 => ?_)
      obtain ⟨rfl, rfl, hg, f9⟩ := hp151
      exact z_iret hZ rfl (Nat.le_of_ble_eq_true rfl) (Nat.le_of_ble_eq_true rfl) dX8_doesMore_154 (by exact ⟨rfl, f9, dQ.mk Iff.rfl (fun z => ⟨by have := rc (g 1 - 1) (by omega) (by omega); rw [show 18 + (g 1 - 1) = 18 + g 1 - 1 by omega] at this; omega, by have := rc (g 1 - 1) (by omega) (by omega); rw [show 18 + (g 1 - 1) = 18 + g 1 - 1 by omega] at this; omega, fun _ => rfl⟩) rfl hg⟩)
    | 18, _, _ =>
      rw [show dI 18 = 103 from rfl]
      refine z_iload_n1 hZ dX8_doesMore_0 ?_
      refine z_tIn hZ (tgt := 155) (off := 154) dX8_doesMore_1 (by omega) rfl rfl ?_
      refine z_aload_n0 hZ dX8_doesMore_155 ?_
      refine z_cV hZ (As := []) rfl dX8_doesMore_156 ml_X8_131 wy_X8_greatens (m_X8_greatens l t v) (by assumption) (by assumption) rfl ⟨Nat.le_of_ble_eq_true rfl, Nat.le_of_ble_eq_true rfl⟩ ⟨Nat.le_of_ble_eq_true rfl, Nat.le_of_ble_eq_true rfl⟩ (Nat.le_of_ble_eq_true rfl) (fun _ _ _ h => h.elim) (fun v156 L156 G156 hp156 => ?_)
      obtain ⟨rfl, rfl, hg, f9⟩ := hp156
      exact z_iret hZ rfl (Nat.le_of_ble_eq_true rfl) (Nat.le_of_ble_eq_true rfl) dX8_doesMore_159 (by exact ⟨rfl, f9, dQ.yes True.intro ⟨by omega, by omega, fun _ => rfl⟩ rfl hg⟩)
    | 19, _, _ =>
      rw [show dI 19 = 110 from rfl]
      refine z_iload_n1 hZ dX8_doesMore_0 ?_
      refine z_tIn hZ (tgt := 160) (off := 159) dX8_doesMore_1 (by omega) rfl rfl ?_
      refine z_aload_n0 hZ dX8_doesMore_160 ?_
      refine z_bipush hZ dX8_doesMore_161 rfl ?_
      refine z_cV hZ (As := [_]) rfl dX8_doesMore_163 ml_X8_134 wy_X8_writes (m_X8_writes l t (by omega)) (by assumption) (by assumption) rfl ⟨Nat.le_of_ble_eq_true rfl, Nat.le_of_ble_eq_true rfl⟩ ⟨Nat.le_of_ble_eq_true rfl, Nat.le_of_ble_eq_true rfl⟩ (Nat.le_of_ble_eq_true rfl) (fun _ _ _ h => h.elim) (fun v163 L163 G163 hp163 => ?_)
      obtain ⟨rfl, rfl, hg, f9⟩ := hp163
      exact z_iret hZ rfl (Nat.le_of_ble_eq_true rfl) (Nat.le_of_ble_eq_true rfl) dX8_doesMore_166 (by exact ⟨rfl, f9, dQ.mk Iff.rfl (fun z => ⟨by omega, by omega, fun w => absurd w.2.1 (by decide)⟩) rfl hg⟩)
    | 20, _, _ =>
      rw [show dI 20 = 95 from rfl]
      refine z_iload_n1 hZ dX8_doesMore_0 ?_
      refine z_tIn hZ (tgt := 167) (off := 166) dX8_doesMore_1 (by omega) rfl rfl ?_
      refine z_aload_n0 hZ dX8_doesMore_167 ?_
      refine z_bipush hZ dX8_doesMore_168 rfl ?_
      refine z_cV hZ (As := [_]) rfl dX8_doesMore_170 ml_X8_134 wy_X8_writes (m_X8_writes l t (by omega)) (by assumption) (by assumption) rfl ⟨Nat.le_of_ble_eq_true rfl, Nat.le_of_ble_eq_true rfl⟩ ⟨Nat.le_of_ble_eq_true rfl, Nat.le_of_ble_eq_true rfl⟩ (Nat.le_of_ble_eq_true rfl) (fun _ _ _ h => h.elim) (fun v170 L170 G170 hp170 => ?_)
      obtain ⟨rfl, rfl, hg, f9⟩ := hp170
      exact z_iret hZ rfl (Nat.le_of_ble_eq_true rfl) (Nat.le_of_ble_eq_true rfl) dX8_doesMore_173 (by exact ⟨rfl, f9, dQ.mk Iff.rfl (fun z => ⟨by omega, by omega, fun w => absurd w.2.1 (by decide)⟩) rfl hg⟩)
    | 21, _, _ =>
      rw [show dI 21 = 39 from rfl]
      refine z_iload_n1 hZ dX8_doesMore_0 ?_
      refine z_tOut hZ (tgt := 174) dX8_doesMore_1 (by omega) (by omega) rfl ?_
      refine z_aload_n0 hZ dX8_doesMore_174 ?_
      refine z_iload_n2 hZ dX8_doesMore_175 ?_
      refine z_cV hZ (As := [_]) rfl dX8_doesMore_176 ml_X8_134 wy_X8_writes (m_X8_writes l t (by omega)) (by assumption) (by assumption) rfl ⟨Nat.le_of_ble_eq_true rfl, Nat.le_of_ble_eq_true rfl⟩ ⟨Nat.le_of_ble_eq_true rfl, Nat.le_of_ble_eq_true rfl⟩ (Nat.le_of_ble_eq_true rfl) (fun _ _ _ h => h.elim) (fun v176 L176 G176 hp176 => ?_)
      obtain ⟨rfl, rfl, hg, f9⟩ := hp176
      exact z_iret hZ rfl (Nat.le_of_ble_eq_true rfl) (Nat.le_of_ble_eq_true rfl) dX8_doesMore_179 (by exact ⟨rfl, f9, dQ.mk Iff.rfl (fun z => ⟨by omega, by omega, fun w => absurd w.2.1 (by decide)⟩) rfl hg⟩)
    | _ + 22, h, _ => omega
    | 0, _, h => omega
    | 1, _, h => omega
    | 2, _, h => omega
    | 3, _, h => omega
    | 4, _, h => omega
    | 5, _, h => omega
    | 6, _, h => omega
    | 7, _, h => omega
    | 8, _, h => omega
    | 9, _, h => omega
    | 10, _, h => omega
    | 11, _, h => omega
  exact hgo
set_option maxRecDepth 100000 in
set_option maxHeartbeats 4000000 in
theorem m_X8_does (l : Launch) {L : List Nat} {F : Nat → PE} {x a : Nat} {g : Int → Int} {kd c : Int} {d : Nat} (t : ms L F x a g kd) (v : vf g kd) (hd : d < 22) : PM l yX8_does cX8_does 3 (some .int) (rm 8 0 0) L [.ref x, .int (iI (dI d)), .int (iI c)] F (fun v9 L1 F1 => L = L1 ∧ (∀ b, b ≠ a → F1 b = F b) ∧ dQ d kd c g v9 (F1 a)) (fun _ _ _ => False) := by
  refine pm_of cd_X8_does (by decide +kernel) (Nat.le_of_ble_eq_true rfl) (fun ZZ hZ => ?_)
  have hgo : ZZ 0 0 0 [some (.ref x), some (.int (iI (dI d))), some (.int (iI c))] [] L F := by
    obtain ⟨⟨hx, ha, hxa⟩, ⟨w1, w2, w3, w5, w6, w7, w8, w9, hF⟩, hg⟩ := id t
    have fr : fa a F F := fa.rf
    have r := v.1
    have rW := wS_rg (n := g 0) (f := fT g) (p := g 1) (by omega)
    have rB := wB_rg (n := g 0) (f := fT g) (p := g 1) (by omega)
    have rS := lB_rg (n := g 0) (f := fT g) (p := g 1) (by omega)
    have rE := lE_rg (n := g 0) (f := fT g) (p := g 1) (by omega)
    have rK : kLj g ≤ g 0 + 1 := by unfold kLj; split <;> omega
    have rmn : 0 ≤ mxI (g 2) (g 1) - mnI (g 2) (g 1) ∧ mxI (g 2) (g 1) - mnI (g 2) (g 1) ≤ 201 := by unfold mxI mnI; split <;> split <;> omega
    have rA : ∀ p, 0 ≤ p → p ≤ g 0 → 0 ≤ abI (p - g 1) ∧ abI (p - g 1) ≤ 1000 := fun p h0 h1 => by have := abI_rg (a := p) (b := g 1) (by omega); omega
    match d, hd with
    | 0, _ =>
      rw [show dI 0 = 102 from rfl]
      refine z_iload_n1 hZ dX8_does_0 ?_
      refine z_lsw hZ (tgt := 108) (off := 107) dX8_does_1 (by omega) (by decide +kernel) (by decide +kernel) rfl ?_
      refine z_aload_n0 hZ dX8_does_108 ?_
      refine z_aload_n0 hZ dX8_does_109 ?_
      refine z_gf_X8_s hZ dX8_does_110 fl_X8_7 (by assumption) (by assumption) ?_
      refine z_iconst hZ dX8_does_113 ?_
      refine z_iald hZ dX8_does_114 (by assumption) (by assumption) (by omega) (by first | exact (wu_n (by omega)).trans (by first | exact (wu_n (by omega)).trans (by first | exact (wu_n (by omega)).trans (by first | exact (wu_n (by omega)).trans (by first | exact (wu_n (by omega)).trans (by first | exact (wu_n (by omega)).trans (by first | exact if_neg (by omega) | rfl) | exact wu_s | exact wu_e (by omega) | exact if_neg (by omega) | rfl) | exact wu_s | exact wu_e (by omega) | exact if_neg (by omega) | rfl) | exact wu_s | exact wu_e (by omega) | exact if_neg (by omega) | rfl) | exact wu_s | exact wu_e (by omega) | exact if_neg (by omega) | rfl) | exact wu_s | exact wu_e (by omega) | exact if_neg (by omega) | rfl) | exact wu_s | exact wu_e (by omega) | exact if_neg (by omega) | rfl) ?_
      refine z_iconst hZ dX8_does_115 ?_
      refine z_iadd hZ dX8_does_116 ?_
      refine z_cV hZ (As := [_]) rfl dX8_does_117 ml_X8_94 wy_X8_goesTo (m_X8_goesTo l t (by omega) (by omega)) (by assumption) (by assumption) rfl ⟨Nat.le_of_ble_eq_true rfl, Nat.le_of_ble_eq_true rfl⟩ ⟨Nat.le_of_ble_eq_true rfl, Nat.le_of_ble_eq_true rfl⟩ (Nat.le_of_ble_eq_true rfl) (fun _ _ _ h => h.elim) (fun v117 L117 G117 hp117 => ?_)
      obtain ⟨rfl, rfl, hg, f9⟩ := hp117
      exact z_iret hZ rfl (Nat.le_of_ble_eq_true rfl) (Nat.le_of_ble_eq_true rfl) dX8_does_120 (by exact ⟨rfl, f9, dQ.mk Iff.rfl (fun z => ⟨(rA _ z.1 z.2).1, (rA _ z.1 z.2).2, fun w => absurd w.1 (by decide)⟩) rfl hg⟩)
    | 1, _ =>
      rw [show dI 1 = 98 from rfl]
      refine z_iload_n1 hZ dX8_does_0 ?_
      refine z_lsw hZ (tgt := 121) (off := 120) dX8_does_1 (by omega) (by decide +kernel) (by decide +kernel) rfl ?_
      refine z_aload_n0 hZ dX8_does_121 ?_
      refine z_aload_n0 hZ dX8_does_122 ?_
      refine z_gf_X8_s hZ dX8_does_123 fl_X8_7 (by assumption) (by assumption) ?_
      refine z_iconst hZ dX8_does_126 ?_
      refine z_iald hZ dX8_does_127 (by assumption) (by assumption) (by omega) (by first | exact (wu_n (by omega)).trans (by first | exact (wu_n (by omega)).trans (by first | exact (wu_n (by omega)).trans (by first | exact (wu_n (by omega)).trans (by first | exact (wu_n (by omega)).trans (by first | exact (wu_n (by omega)).trans (by first | exact if_neg (by omega) | rfl) | exact wu_s | exact wu_e (by omega) | exact if_neg (by omega) | rfl) | exact wu_s | exact wu_e (by omega) | exact if_neg (by omega) | rfl) | exact wu_s | exact wu_e (by omega) | exact if_neg (by omega) | rfl) | exact wu_s | exact wu_e (by omega) | exact if_neg (by omega) | rfl) | exact wu_s | exact wu_e (by omega) | exact if_neg (by omega) | rfl) | exact wu_s | exact wu_e (by omega) | exact if_neg (by omega) | rfl) ?_
      refine z_iconst hZ dX8_does_128 ?_
      refine z_isub hZ dX8_does_129 ?_
      refine z_cV hZ (As := [_]) rfl dX8_does_130 ml_X8_94 wy_X8_goesTo (m_X8_goesTo l t (by omega) (by omega)) (by assumption) (by assumption) rfl ⟨Nat.le_of_ble_eq_true rfl, Nat.le_of_ble_eq_true rfl⟩ ⟨Nat.le_of_ble_eq_true rfl, Nat.le_of_ble_eq_true rfl⟩ (Nat.le_of_ble_eq_true rfl) (fun _ _ _ h => h.elim) (fun v130 L130 G130 hp130 => ?_)
      obtain ⟨rfl, rfl, hg, f9⟩ := hp130
      exact z_iret hZ rfl (Nat.le_of_ble_eq_true rfl) (Nat.le_of_ble_eq_true rfl) dX8_does_133 (by exact ⟨rfl, f9, dQ.mk Iff.rfl (fun z => ⟨(rA _ z.1 z.2).1, (rA _ z.1 z.2).2, fun w => absurd w.1 (by decide)⟩) rfl hg⟩)
    | 2, _ =>
      rw [show dI 2 = 70 from rfl]
      refine z_iload_n1 hZ dX8_does_0 ?_
      refine z_lsw hZ (tgt := 134) (off := 133) dX8_does_1 (by omega) (by decide +kernel) (by decide +kernel) rfl ?_
      refine z_aload_n0 hZ dX8_does_134 ?_
      refine z_aload_n0 hZ dX8_does_135 ?_
      refine z_aload_n0 hZ dX8_does_136 ?_
      refine z_gf_X8_s hZ dX8_does_137 fl_X8_7 (by assumption) (by assumption) ?_
      refine z_iconst hZ dX8_does_140 ?_
      refine z_iald hZ dX8_does_141 (by assumption) (by assumption) (by omega) (by first | exact (wu_n (by omega)).trans (by first | exact (wu_n (by omega)).trans (by first | exact (wu_n (by omega)).trans (by first | exact (wu_n (by omega)).trans (by first | exact (wu_n (by omega)).trans (by first | exact (wu_n (by omega)).trans (by first | exact if_neg (by omega) | rfl) | exact wu_s | exact wu_e (by omega) | exact if_neg (by omega) | rfl) | exact wu_s | exact wu_e (by omega) | exact if_neg (by omega) | rfl) | exact wu_s | exact wu_e (by omega) | exact if_neg (by omega) | rfl) | exact wu_s | exact wu_e (by omega) | exact if_neg (by omega) | rfl) | exact wu_s | exact wu_e (by omega) | exact if_neg (by omega) | rfl) | exact wu_s | exact wu_e (by omega) | exact if_neg (by omega) | rfl) ?_
      refine z_cV hZ (As := [_]) rfl dX8_does_142 ml_X8_58 wy_X8_behindWord (m_X8_behindWord l t v (by omega)) (by assumption) (by assumption) rfl ⟨Nat.le_of_ble_eq_true rfl, Nat.le_of_ble_eq_true rfl⟩ ⟨Nat.le_of_ble_eq_true rfl, Nat.le_of_ble_eq_true rfl⟩ (Nat.le_of_ble_eq_true rfl) (fun _ _ _ h => h.elim) (fun v142 L142 G142 hp142 => ?_)
      obtain ⟨rfl, rfl, rfl⟩ := hp142
      refine z_cV hZ (As := [_]) rfl dX8_does_145 ml_X8_94 wy_X8_goesTo (m_X8_goesTo l t (by omega) (by omega)) (by assumption) (by assumption) rfl ⟨Nat.le_of_ble_eq_true rfl, Nat.le_of_ble_eq_true rfl⟩ ⟨Nat.le_of_ble_eq_true rfl, Nat.le_of_ble_eq_true rfl⟩ (Nat.le_of_ble_eq_true rfl) (fun _ _ _ h => h.elim) (fun v145 L145 G145 hp145 => ?_)
      obtain ⟨rfl, rfl, hg, f9⟩ := hp145
      exact z_iret hZ rfl (Nat.le_of_ble_eq_true rfl) (Nat.le_of_ble_eq_true rfl) dX8_does_148 (by exact ⟨rfl, f9, dQ.mk ⟨fun _ => True.intro, fun _ => ⟨by omega, by omega⟩⟩ (fun z => ⟨(rA _ z.1 z.2).1, (rA _ z.1 z.2).2, fun _ => rfl⟩) rfl hg⟩)
    | 3, _ =>
      rw [show dI 3 = 66 from rfl]
      refine z_iload_n1 hZ dX8_does_0 ?_
      refine z_lsw hZ (tgt := 149) (off := 148) dX8_does_1 (by omega) (by decide +kernel) (by decide +kernel) rfl ?_
      refine z_aload_n0 hZ dX8_does_149 ?_
      refine z_aload_n0 hZ dX8_does_150 ?_
      refine z_aload_n0 hZ dX8_does_151 ?_
      refine z_gf_X8_s hZ dX8_does_152 fl_X8_7 (by assumption) (by assumption) ?_
      refine z_iconst hZ dX8_does_155 ?_
      refine z_iald hZ dX8_does_156 (by assumption) (by assumption) (by omega) (by first | exact (wu_n (by omega)).trans (by first | exact (wu_n (by omega)).trans (by first | exact (wu_n (by omega)).trans (by first | exact (wu_n (by omega)).trans (by first | exact (wu_n (by omega)).trans (by first | exact (wu_n (by omega)).trans (by first | exact if_neg (by omega) | rfl) | exact wu_s | exact wu_e (by omega) | exact if_neg (by omega) | rfl) | exact wu_s | exact wu_e (by omega) | exact if_neg (by omega) | rfl) | exact wu_s | exact wu_e (by omega) | exact if_neg (by omega) | rfl) | exact wu_s | exact wu_e (by omega) | exact if_neg (by omega) | rfl) | exact wu_s | exact wu_e (by omega) | exact if_neg (by omega) | rfl) | exact wu_s | exact wu_e (by omega) | exact if_neg (by omega) | rfl) ?_
      refine z_cV hZ (As := [_]) rfl dX8_does_157 ml_X8_81 wy_X8_aheadOfWord (m_X8_aheadOfWord l t v (by omega)) (by assumption) (by assumption) rfl ⟨Nat.le_of_ble_eq_true rfl, Nat.le_of_ble_eq_true rfl⟩ ⟨Nat.le_of_ble_eq_true rfl, Nat.le_of_ble_eq_true rfl⟩ (Nat.le_of_ble_eq_true rfl) (fun _ _ _ h => h.elim) (fun v157 L157 G157 hp157 => ?_)
      obtain ⟨rfl, rfl, rfl⟩ := hp157
      refine z_cV hZ (As := [_]) rfl dX8_does_160 ml_X8_94 wy_X8_goesTo (m_X8_goesTo l t (by omega) (by omega)) (by assumption) (by assumption) rfl ⟨Nat.le_of_ble_eq_true rfl, Nat.le_of_ble_eq_true rfl⟩ ⟨Nat.le_of_ble_eq_true rfl, Nat.le_of_ble_eq_true rfl⟩ (Nat.le_of_ble_eq_true rfl) (fun _ _ _ h => h.elim) (fun v160 L160 G160 hp160 => ?_)
      obtain ⟨rfl, rfl, hg, f9⟩ := hp160
      exact z_iret hZ rfl (Nat.le_of_ble_eq_true rfl) (Nat.le_of_ble_eq_true rfl) dX8_does_163 (by exact ⟨rfl, f9, dQ.mk ⟨fun _ => True.intro, fun _ => ⟨by omega, by omega⟩⟩ (fun z => ⟨(rA _ z.1 z.2).1, (rA _ z.1 z.2).2, fun _ => rfl⟩) rfl hg⟩)
    | 4, _ =>
      rw [show dI 4 = 97 from rfl]
      refine z_iload_n1 hZ dX8_does_0 ?_
      refine z_lsw hZ (tgt := 164) (off := 163) dX8_does_1 (by omega) (by decide +kernel) (by decide +kernel) rfl ?_
      refine z_aload_n0 hZ dX8_does_164 ?_
      refine z_aload_n0 hZ dX8_does_165 ?_
      refine z_aload_n0 hZ dX8_does_166 ?_
      refine z_gf_X8_s hZ dX8_does_167 fl_X8_7 (by assumption) (by assumption) ?_
      refine z_iconst hZ dX8_does_170 ?_
      refine z_iald hZ dX8_does_171 (by assumption) (by assumption) (by omega) (by first | exact (wu_n (by omega)).trans (by first | exact (wu_n (by omega)).trans (by first | exact (wu_n (by omega)).trans (by first | exact (wu_n (by omega)).trans (by first | exact (wu_n (by omega)).trans (by first | exact (wu_n (by omega)).trans (by first | exact if_neg (by omega) | rfl) | exact wu_s | exact wu_e (by omega) | exact if_neg (by omega) | rfl) | exact wu_s | exact wu_e (by omega) | exact if_neg (by omega) | rfl) | exact wu_s | exact wu_e (by omega) | exact if_neg (by omega) | rfl) | exact wu_s | exact wu_e (by omega) | exact if_neg (by omega) | rfl) | exact wu_s | exact wu_e (by omega) | exact if_neg (by omega) | rfl) | exact wu_s | exact wu_e (by omega) | exact if_neg (by omega) | rfl) ?_
      refine z_cV hZ (As := [_]) rfl dX8_does_172 ml_X8_61 wy_X8_beginOf (m_X8_beginOf l t v (by omega)) (by assumption) (by assumption) rfl ⟨Nat.le_of_ble_eq_true rfl, Nat.le_of_ble_eq_true rfl⟩ ⟨Nat.le_of_ble_eq_true rfl, Nat.le_of_ble_eq_true rfl⟩ (Nat.le_of_ble_eq_true rfl) (fun _ _ _ h => h.elim) (fun v172 L172 G172 hp172 => ?_)
      obtain ⟨rfl, rfl, rfl⟩ := hp172
      refine z_cV hZ (As := [_]) rfl dX8_does_175 ml_X8_94 wy_X8_goesTo (m_X8_goesTo l t (by omega) (by omega)) (by assumption) (by assumption) rfl ⟨Nat.le_of_ble_eq_true rfl, Nat.le_of_ble_eq_true rfl⟩ ⟨Nat.le_of_ble_eq_true rfl, Nat.le_of_ble_eq_true rfl⟩ (Nat.le_of_ble_eq_true rfl) (fun _ _ _ h => h.elim) (fun v175 L175 G175 hp175 => ?_)
      obtain ⟨rfl, rfl, hg, f9⟩ := hp175
      exact z_iret hZ rfl (Nat.le_of_ble_eq_true rfl) (Nat.le_of_ble_eq_true rfl) dX8_does_178 (by exact ⟨rfl, f9, dQ.mk ⟨fun _ => True.intro, fun _ => ⟨by omega, by omega⟩⟩ (fun z => ⟨(rA _ z.1 z.2).1, (rA _ z.1 z.2).2, fun _ => rfl⟩) rfl hg⟩)
    | 5, _ =>
      rw [show dI 5 = 101 from rfl]
      refine z_iload_n1 hZ dX8_does_0 ?_
      refine z_lsw hZ (tgt := 179) (off := 178) dX8_does_1 (by omega) (by decide +kernel) (by decide +kernel) rfl ?_
      refine z_aload_n0 hZ dX8_does_179 ?_
      refine z_aload_n0 hZ dX8_does_180 ?_
      refine z_aload_n0 hZ dX8_does_181 ?_
      refine z_gf_X8_s hZ dX8_does_182 fl_X8_7 (by assumption) (by assumption) ?_
      refine z_iconst hZ dX8_does_185 ?_
      refine z_iald hZ dX8_does_186 (by assumption) (by assumption) (by omega) (by first | exact (wu_n (by omega)).trans (by first | exact (wu_n (by omega)).trans (by first | exact (wu_n (by omega)).trans (by first | exact (wu_n (by omega)).trans (by first | exact (wu_n (by omega)).trans (by first | exact (wu_n (by omega)).trans (by first | exact if_neg (by omega) | rfl) | exact wu_s | exact wu_e (by omega) | exact if_neg (by omega) | rfl) | exact wu_s | exact wu_e (by omega) | exact if_neg (by omega) | rfl) | exact wu_s | exact wu_e (by omega) | exact if_neg (by omega) | rfl) | exact wu_s | exact wu_e (by omega) | exact if_neg (by omega) | rfl) | exact wu_s | exact wu_e (by omega) | exact if_neg (by omega) | rfl) | exact wu_s | exact wu_e (by omega) | exact if_neg (by omega) | rfl) ?_
      refine z_cV hZ (As := [_]) rfl dX8_does_187 ml_X8_64 wy_X8_endOf (m_X8_endOf l t v (by omega)) (by assumption) (by assumption) rfl ⟨Nat.le_of_ble_eq_true rfl, Nat.le_of_ble_eq_true rfl⟩ ⟨Nat.le_of_ble_eq_true rfl, Nat.le_of_ble_eq_true rfl⟩ (Nat.le_of_ble_eq_true rfl) (fun _ _ _ h => h.elim) (fun v187 L187 G187 hp187 => ?_)
      obtain ⟨rfl, rfl, rfl⟩ := hp187
      refine z_cV hZ (As := [_]) rfl dX8_does_190 ml_X8_94 wy_X8_goesTo (m_X8_goesTo l t (by omega) (by omega)) (by assumption) (by assumption) rfl ⟨Nat.le_of_ble_eq_true rfl, Nat.le_of_ble_eq_true rfl⟩ ⟨Nat.le_of_ble_eq_true rfl, Nat.le_of_ble_eq_true rfl⟩ (Nat.le_of_ble_eq_true rfl) (fun _ _ _ h => h.elim) (fun v190 L190 G190 hp190 => ?_)
      obtain ⟨rfl, rfl, hg, f9⟩ := hp190
      exact z_iret hZ rfl (Nat.le_of_ble_eq_true rfl) (Nat.le_of_ble_eq_true rfl) dX8_does_193 (by exact ⟨rfl, f9, dQ.mk ⟨fun _ => True.intro, fun _ => ⟨by omega, by omega⟩⟩ (fun z => ⟨(rA _ z.1 z.2).1, (rA _ z.1 z.2).2, fun _ => rfl⟩) rfl hg⟩)
    | 6, _ =>
      rw [show dI 6 = 109 from rfl]
      refine z_iload_n1 hZ dX8_does_0 ?_
      refine z_lsw hZ (tgt := 194) (off := 193) dX8_does_1 (by omega) (by decide +kernel) (by decide +kernel) rfl ?_
      refine z_aload_n0 hZ dX8_does_194 ?_
      refine z_cV hZ (As := []) rfl dX8_does_195 ml_X8_97 wy_X8_marks (m_X8_marks l t) (by assumption) (by assumption) rfl ⟨Nat.le_of_ble_eq_true rfl, Nat.le_of_ble_eq_true rfl⟩ ⟨Nat.le_of_ble_eq_true rfl, Nat.le_of_ble_eq_true rfl⟩ (Nat.le_of_ble_eq_true rfl) (fun _ _ _ h => h.elim) (fun v195 L195 G195 hp195 => ?_)
      obtain ⟨rfl, rfl, hg, f9⟩ := hp195
      exact z_iret hZ rfl (Nat.le_of_ble_eq_true rfl) (Nat.le_of_ble_eq_true rfl) dX8_does_198 (by exact ⟨rfl, f9, dQ.yes True.intro ⟨by omega, by omega, fun _ => rfl⟩ rfl hg⟩)
    | 7, _ =>
      rw [show dI 7 = 120 from rfl]
      refine z_iload_n1 hZ dX8_does_0 ?_
      refine z_lsw hZ (tgt := 199) (off := 198) dX8_does_1 (by omega) (by decide +kernel) (by decide +kernel) rfl ?_
      refine z_aload_n0 hZ dX8_does_199 ?_
      refine z_cV hZ (As := []) rfl dX8_does_200 ml_X8_100 wy_X8_exchanges (m_X8_exchanges l t (by omega)) (by assumption) (by assumption) rfl ⟨Nat.le_of_ble_eq_true rfl, Nat.le_of_ble_eq_true rfl⟩ ⟨Nat.le_of_ble_eq_true rfl, Nat.le_of_ble_eq_true rfl⟩ (Nat.le_of_ble_eq_true rfl) (fun _ _ _ h => h.elim) (fun v200 L200 G200 hp200 => ?_)
      obtain ⟨rfl, rfl, hg, f9⟩ := hp200
      exact z_iret hZ rfl (Nat.le_of_ble_eq_true rfl) (Nat.le_of_ble_eq_true rfl) dX8_does_203 (by exact ⟨rfl, f9, dQ.mk Iff.rfl (fun z => ⟨by omega, by omega, fun _ => rfl⟩) rfl hg⟩)
    | 8, _ =>
      rw [show dI 8 = 119 from rfl]
      refine z_iload_n1 hZ dX8_does_0 ?_
      refine z_lsw hZ (tgt := 204) (off := 203) dX8_does_1 (by omega) (by decide +kernel) (by decide +kernel) rfl ?_
      refine z_aload_n0 hZ dX8_does_204 ?_
      refine z_cV hZ (As := []) rfl dX8_does_205 ml_X8_103 wy_X8_killsWord (m_X8_killsWord l t v) (by assumption) (by assumption) rfl ⟨Nat.le_of_ble_eq_true rfl, Nat.le_of_ble_eq_true rfl⟩ ⟨Nat.le_of_ble_eq_true rfl, Nat.le_of_ble_eq_true rfl⟩ (Nat.le_of_ble_eq_true rfl) (fun _ _ _ h => h.elim) (fun v205 L205 G205 hp205 => ?_)
      obtain ⟨rfl, rfl, hg, f9⟩ := hp205
      exact z_iret hZ rfl (Nat.le_of_ble_eq_true rfl) (Nat.le_of_ble_eq_true rfl) dX8_does_208 (by exact ⟨rfl, f9, dQ.mk Iff.rfl (fun z => ⟨by omega, by omega, fun _ => rfl⟩) rfl hg⟩)
    | 9, _ =>
      rw [show dI 9 = 87 from rfl]
      refine z_iload_n1 hZ dX8_does_0 ?_
      refine z_lsw hZ (tgt := 209) (off := 208) dX8_does_1 (by omega) (by decide +kernel) (by decide +kernel) rfl ?_
      refine z_aload_n0 hZ dX8_does_209 ?_
      refine z_cV hZ (As := []) rfl dX8_does_210 ml_X8_106 wy_X8_killsBack (m_X8_killsBack l t v) (by assumption) (by assumption) rfl ⟨Nat.le_of_ble_eq_true rfl, Nat.le_of_ble_eq_true rfl⟩ ⟨Nat.le_of_ble_eq_true rfl, Nat.le_of_ble_eq_true rfl⟩ (Nat.le_of_ble_eq_true rfl) (fun _ _ _ h => h.elim) (fun v210 L210 G210 hp210 => ?_)
      obtain ⟨rfl, rfl, hg, f9⟩ := hp210
      exact z_iret hZ rfl (Nat.le_of_ble_eq_true rfl) (Nat.le_of_ble_eq_true rfl) dX8_does_213 (by exact ⟨rfl, f9, dQ.mk Iff.rfl (fun z => ⟨by omega, by omega, fun _ => rfl⟩) rfl hg⟩)
    | 10, _ =>
      rw [show dI 10 = 107 from rfl]
      refine z_iload_n1 hZ dX8_does_0 ?_
      refine z_lsw hZ (tgt := 214) (off := 213) dX8_does_1 (by omega) (by decide +kernel) (by decide +kernel) rfl ?_
      refine z_aload_n0 hZ dX8_does_214 ?_
      refine z_cV hZ (As := []) rfl dX8_does_215 ml_X8_109 wy_X8_killsLine (m_X8_killsLine l t v) (by assumption) (by assumption) rfl ⟨Nat.le_of_ble_eq_true rfl, Nat.le_of_ble_eq_true rfl⟩ ⟨Nat.le_of_ble_eq_true rfl, Nat.le_of_ble_eq_true rfl⟩ (Nat.le_of_ble_eq_true rfl) (fun _ _ _ h => h.elim) (fun v215 L215 G215 hp215 => ?_)
      obtain ⟨rfl, rfl, hg, f9⟩ := hp215
      exact z_iret hZ rfl (Nat.le_of_ble_eq_true rfl) (Nat.le_of_ble_eq_true rfl) dX8_does_218 (by exact ⟨rfl, f9, dQ.mk Iff.rfl (fun z => ⟨by omega, by omega, fun _ => rfl⟩) rfl hg⟩)
    | 11, _ =>
      rw [show dI 11 = 114 from rfl]
      refine z_iload_n1 hZ dX8_does_0 ?_
      refine z_lsw hZ (tgt := 219) (off := 218) dX8_does_1 (by omega) (by decide +kernel) (by decide +kernel) rfl ?_
      refine z_aload_n0 hZ dX8_does_219 ?_
      refine z_cV hZ (As := []) rfl dX8_does_220 ml_X8_112 wy_X8_killsBetween (m_X8_killsBetween l t v) (by assumption) (by assumption) rfl ⟨Nat.le_of_ble_eq_true rfl, Nat.le_of_ble_eq_true rfl⟩ ⟨Nat.le_of_ble_eq_true rfl, Nat.le_of_ble_eq_true rfl⟩ (Nat.le_of_ble_eq_true rfl) (fun _ _ _ h => h.elim) (fun v220 L220 G220 hp220 => ?_)
      obtain ⟨rfl, rfl, hg, f9⟩ := hp220
      exact z_iret hZ rfl (Nat.le_of_ble_eq_true rfl) (Nat.le_of_ble_eq_true rfl) dX8_does_223 (by exact ⟨rfl, f9, dQ.mk Iff.rfl (fun z => ⟨by omega, by omega, fun _ => rfl⟩) rfl hg⟩)
    | 12, _ =>
      have z := m_X8_doesMore l (c := c) (d := 12) t v (by omega) (by omega)
      rw [show dI 12 = 99 from rfl] at z ⊢
      refine z_iload_n1 hZ dX8_does_0 ?_
      refine z_lsw hZ (tgt := 224) (off := 223) dX8_does_1 (by omega) (by decide +kernel) (by decide +kernel) rfl ?_
      refine z_aload_n0 hZ dX8_does_224 ?_
      refine z_iload_n1 hZ dX8_does_225 ?_
      refine z_iload_n2 hZ dX8_does_226 ?_
      refine z_cV hZ (As := [_, _]) rfl dX8_does_227 ml_X8_115 wy_X8_doesMore (z) (by assumption) (by assumption) rfl ⟨Nat.le_of_ble_eq_true rfl, Nat.le_of_ble_eq_true rfl⟩ ⟨Nat.le_of_ble_eq_true rfl, Nat.le_of_ble_eq_true rfl⟩ (Nat.le_of_ble_eq_true rfl) (fun _ _ _ h => h.elim) (fun v227 L227 G227 hp227 => ?_)
      obtain ⟨rfl, f9, h9⟩ := hp227
      obtain ⟨q, rfl⟩ := h9.val
      exact z_iret hZ rfl (Nat.le_of_ble_eq_true rfl) (Nat.le_of_ble_eq_true rfl) dX8_does_230 (by exact ⟨rfl, f9, h9⟩)
    | 13, _ =>
      have z := m_X8_doesMore l (c := c) (d := 13) t v (by omega) (by omega)
      rw [show dI 13 = 121 from rfl] at z ⊢
      refine z_iload_n1 hZ dX8_does_0 ?_
      refine z_lsw hZ (tgt := 224) (off := 223) dX8_does_1 (by omega) (by decide +kernel) (by decide +kernel) rfl ?_
      refine z_aload_n0 hZ dX8_does_224 ?_
      refine z_iload_n1 hZ dX8_does_225 ?_
      refine z_iload_n2 hZ dX8_does_226 ?_
      refine z_cV hZ (As := [_, _]) rfl dX8_does_227 ml_X8_115 wy_X8_doesMore (z) (by assumption) (by assumption) rfl ⟨Nat.le_of_ble_eq_true rfl, Nat.le_of_ble_eq_true rfl⟩ ⟨Nat.le_of_ble_eq_true rfl, Nat.le_of_ble_eq_true rfl⟩ (Nat.le_of_ble_eq_true rfl) (fun _ _ _ h => h.elim) (fun v227 L227 G227 hp227 => ?_)
      obtain ⟨rfl, f9, h9⟩ := hp227
      obtain ⟨q, rfl⟩ := h9.val
      exact z_iret hZ rfl (Nat.le_of_ble_eq_true rfl) (Nat.le_of_ble_eq_true rfl) dX8_does_230 (by exact ⟨rfl, f9, h9⟩)
    | 14, _ =>
      have z := m_X8_doesMore l (c := c) (d := 14) t v (by omega) (by omega)
      rw [show dI 14 = 112 from rfl] at z ⊢
      refine z_iload_n1 hZ dX8_does_0 ?_
      refine z_lsw hZ (tgt := 224) (off := 223) dX8_does_1 (by omega) (by decide +kernel) (by decide +kernel) rfl ?_
      refine z_aload_n0 hZ dX8_does_224 ?_
      refine z_iload_n1 hZ dX8_does_225 ?_
      refine z_iload_n2 hZ dX8_does_226 ?_
      refine z_cV hZ (As := [_, _]) rfl dX8_does_227 ml_X8_115 wy_X8_doesMore (z) (by assumption) (by assumption) rfl ⟨Nat.le_of_ble_eq_true rfl, Nat.le_of_ble_eq_true rfl⟩ ⟨Nat.le_of_ble_eq_true rfl, Nat.le_of_ble_eq_true rfl⟩ (Nat.le_of_ble_eq_true rfl) (fun _ _ _ h => h.elim) (fun v227 L227 G227 hp227 => ?_)
      obtain ⟨rfl, f9, h9⟩ := hp227
      obtain ⟨q, rfl⟩ := h9.val
      exact z_iret hZ rfl (Nat.le_of_ble_eq_true rfl) (Nat.le_of_ble_eq_true rfl) dX8_does_230 (by exact ⟨rfl, f9, h9⟩)
    | 15, _ =>
      have z := m_X8_doesMore l (c := c) (d := 15) t v (by omega) (by omega)
      rw [show dI 15 = 116 from rfl] at z ⊢
      refine z_iload_n1 hZ dX8_does_0 ?_
      refine z_lsw hZ (tgt := 224) (off := 223) dX8_does_1 (by omega) (by decide +kernel) (by decide +kernel) rfl ?_
      refine z_aload_n0 hZ dX8_does_224 ?_
      refine z_iload_n1 hZ dX8_does_225 ?_
      refine z_iload_n2 hZ dX8_does_226 ?_
      refine z_cV hZ (As := [_, _]) rfl dX8_does_227 ml_X8_115 wy_X8_doesMore (z) (by assumption) (by assumption) rfl ⟨Nat.le_of_ble_eq_true rfl, Nat.le_of_ble_eq_true rfl⟩ ⟨Nat.le_of_ble_eq_true rfl, Nat.le_of_ble_eq_true rfl⟩ (Nat.le_of_ble_eq_true rfl) (fun _ _ _ h => h.elim) (fun v227 L227 G227 hp227 => ?_)
      obtain ⟨rfl, f9, h9⟩ := hp227
      obtain ⟨q, rfl⟩ := h9.val
      exact z_iret hZ rfl (Nat.le_of_ble_eq_true rfl) (Nat.le_of_ble_eq_true rfl) dX8_does_230 (by exact ⟨rfl, f9, h9⟩)
    | 16, _ =>
      have z := m_X8_doesMore l (c := c) (d := 16) t v (by omega) (by omega)
      rw [show dI 16 = 117 from rfl] at z ⊢
      refine z_iload_n1 hZ dX8_does_0 ?_
      refine z_lsw hZ (tgt := 224) (off := 223) dX8_does_1 (by omega) (by decide +kernel) (by decide +kernel) rfl ?_
      refine z_aload_n0 hZ dX8_does_224 ?_
      refine z_iload_n1 hZ dX8_does_225 ?_
      refine z_iload_n2 hZ dX8_does_226 ?_
      refine z_cV hZ (As := [_, _]) rfl dX8_does_227 ml_X8_115 wy_X8_doesMore (z) (by assumption) (by assumption) rfl ⟨Nat.le_of_ble_eq_true rfl, Nat.le_of_ble_eq_true rfl⟩ ⟨Nat.le_of_ble_eq_true rfl, Nat.le_of_ble_eq_true rfl⟩ (Nat.le_of_ble_eq_true rfl) (fun _ _ _ h => h.elim) (fun v227 L227 G227 hp227 => ?_)
      obtain ⟨rfl, f9, h9⟩ := hp227
      obtain ⟨q, rfl⟩ := h9.val
      exact z_iret hZ rfl (Nat.le_of_ble_eq_true rfl) (Nat.le_of_ble_eq_true rfl) dX8_does_230 (by exact ⟨rfl, f9, h9⟩)
    | 17, _ =>
      have z := m_X8_doesMore l (c := c) (d := 17) t v (by omega) (by omega)
      rw [show dI 17 = 115 from rfl] at z ⊢
      refine z_iload_n1 hZ dX8_does_0 ?_
      refine z_lsw hZ (tgt := 224) (off := 223) dX8_does_1 (by omega) (by decide +kernel) (by decide +kernel) rfl ?_
      refine z_aload_n0 hZ dX8_does_224 ?_
      refine z_iload_n1 hZ dX8_does_225 ?_
      refine z_iload_n2 hZ dX8_does_226 ?_
      refine z_cV hZ (As := [_, _]) rfl dX8_does_227 ml_X8_115 wy_X8_doesMore (z) (by assumption) (by assumption) rfl ⟨Nat.le_of_ble_eq_true rfl, Nat.le_of_ble_eq_true rfl⟩ ⟨Nat.le_of_ble_eq_true rfl, Nat.le_of_ble_eq_true rfl⟩ (Nat.le_of_ble_eq_true rfl) (fun _ _ _ h => h.elim) (fun v227 L227 G227 hp227 => ?_)
      obtain ⟨rfl, f9, h9⟩ := hp227
      obtain ⟨q, rfl⟩ := h9.val
      exact z_iret hZ rfl (Nat.le_of_ble_eq_true rfl) (Nat.le_of_ble_eq_true rfl) dX8_does_230 (by exact ⟨rfl, f9, h9⟩)
    | 18, _ =>
      have z := m_X8_doesMore l (c := c) (d := 18) t v (by omega) (by omega)
      rw [show dI 18 = 103 from rfl] at z ⊢
      refine z_iload_n1 hZ dX8_does_0 ?_
      refine z_lsw hZ (tgt := 224) (off := 223) dX8_does_1 (by omega) (by decide +kernel) (by decide +kernel) rfl ?_
      refine z_aload_n0 hZ dX8_does_224 ?_
      refine z_iload_n1 hZ dX8_does_225 ?_
      refine z_iload_n2 hZ dX8_does_226 ?_
      refine z_cV hZ (As := [_, _]) rfl dX8_does_227 ml_X8_115 wy_X8_doesMore (z) (by assumption) (by assumption) rfl ⟨Nat.le_of_ble_eq_true rfl, Nat.le_of_ble_eq_true rfl⟩ ⟨Nat.le_of_ble_eq_true rfl, Nat.le_of_ble_eq_true rfl⟩ (Nat.le_of_ble_eq_true rfl) (fun _ _ _ h => h.elim) (fun v227 L227 G227 hp227 => ?_)
      obtain ⟨rfl, f9, h9⟩ := hp227
      obtain ⟨q, rfl⟩ := h9.val
      exact z_iret hZ rfl (Nat.le_of_ble_eq_true rfl) (Nat.le_of_ble_eq_true rfl) dX8_does_230 (by exact ⟨rfl, f9, h9⟩)
    | 19, _ =>
      have z := m_X8_doesMore l (c := c) (d := 19) t v (by omega) (by omega)
      rw [show dI 19 = 110 from rfl] at z ⊢
      refine z_iload_n1 hZ dX8_does_0 ?_
      refine z_lsw hZ (tgt := 224) (off := 223) dX8_does_1 (by omega) (by decide +kernel) (by decide +kernel) rfl ?_
      refine z_aload_n0 hZ dX8_does_224 ?_
      refine z_iload_n1 hZ dX8_does_225 ?_
      refine z_iload_n2 hZ dX8_does_226 ?_
      refine z_cV hZ (As := [_, _]) rfl dX8_does_227 ml_X8_115 wy_X8_doesMore (z) (by assumption) (by assumption) rfl ⟨Nat.le_of_ble_eq_true rfl, Nat.le_of_ble_eq_true rfl⟩ ⟨Nat.le_of_ble_eq_true rfl, Nat.le_of_ble_eq_true rfl⟩ (Nat.le_of_ble_eq_true rfl) (fun _ _ _ h => h.elim) (fun v227 L227 G227 hp227 => ?_)
      obtain ⟨rfl, f9, h9⟩ := hp227
      obtain ⟨q, rfl⟩ := h9.val
      exact z_iret hZ rfl (Nat.le_of_ble_eq_true rfl) (Nat.le_of_ble_eq_true rfl) dX8_does_230 (by exact ⟨rfl, f9, h9⟩)
    | 20, _ =>
      have z := m_X8_doesMore l (c := c) (d := 20) t v (by omega) (by omega)
      rw [show dI 20 = 95 from rfl] at z ⊢
      refine z_iload_n1 hZ dX8_does_0 ?_
      refine z_lsw hZ (tgt := 224) (off := 223) dX8_does_1 (by omega) (by decide +kernel) (by decide +kernel) rfl ?_
      refine z_aload_n0 hZ dX8_does_224 ?_
      refine z_iload_n1 hZ dX8_does_225 ?_
      refine z_iload_n2 hZ dX8_does_226 ?_
      refine z_cV hZ (As := [_, _]) rfl dX8_does_227 ml_X8_115 wy_X8_doesMore (z) (by assumption) (by assumption) rfl ⟨Nat.le_of_ble_eq_true rfl, Nat.le_of_ble_eq_true rfl⟩ ⟨Nat.le_of_ble_eq_true rfl, Nat.le_of_ble_eq_true rfl⟩ (Nat.le_of_ble_eq_true rfl) (fun _ _ _ h => h.elim) (fun v227 L227 G227 hp227 => ?_)
      obtain ⟨rfl, f9, h9⟩ := hp227
      obtain ⟨q, rfl⟩ := h9.val
      exact z_iret hZ rfl (Nat.le_of_ble_eq_true rfl) (Nat.le_of_ble_eq_true rfl) dX8_does_230 (by exact ⟨rfl, f9, h9⟩)
    | 21, _ =>
      have z := m_X8_doesMore l (c := c) (d := 21) t v (by omega) (by omega)
      rw [show dI 21 = 39 from rfl] at z ⊢
      refine z_iload_n1 hZ dX8_does_0 ?_
      refine z_lsw hZ (tgt := 224) (off := 223) dX8_does_1 (by omega) (by decide +kernel) (by decide +kernel) rfl ?_
      refine z_aload_n0 hZ dX8_does_224 ?_
      refine z_iload_n1 hZ dX8_does_225 ?_
      refine z_iload_n2 hZ dX8_does_226 ?_
      refine z_cV hZ (As := [_, _]) rfl dX8_does_227 ml_X8_115 wy_X8_doesMore (z) (by assumption) (by assumption) rfl ⟨Nat.le_of_ble_eq_true rfl, Nat.le_of_ble_eq_true rfl⟩ ⟨Nat.le_of_ble_eq_true rfl, Nat.le_of_ble_eq_true rfl⟩ (Nat.le_of_ble_eq_true rfl) (fun _ _ _ h => h.elim) (fun v227 L227 G227 hp227 => ?_)
      obtain ⟨rfl, f9, h9⟩ := hp227
      obtain ⟨q, rfl⟩ := h9.val
      exact z_iret hZ rfl (Nat.le_of_ble_eq_true rfl) (Nat.le_of_ble_eq_true rfl) dX8_does_230 (by exact ⟨rfl, f9, h9⟩)
    | _ + 22, h => omega
  exact hgo

