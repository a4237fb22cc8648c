/-! CONSTRUCTORS. -/
set_option maxRecDepth 100000 in
set_option maxHeartbeats 4000000 in
theorem m_X6_init200 (l : Launch) {L : List Nat} {F : Nat → PE} {s : Nat} {w : Int32} (hs : s ∈ L) (t : F s = eO 6 [.null, .int w]) : PM l yX6_init cX6_init 2 none (rm 2 1 200) L [.ref s, .int (iI 200)] F (fun v9 L1 F1 => v9 = none ∧ ∃ g, nw L L1 g 1 ∧ F1 s = eO 6 [.ref (g 0), .int w] ∧ F1 (g 0) = eI 0 200 (fun _ => 0) ∧ ∀ b, b ∈ L → b ≠ s → F1 b = F b) (fun _ _ _ => False) := by
  refine pm_of cd_X6_init (by decide +kernel) (Nat.le_of_ble_eq_true rfl) (fun ZZ hZ => ?_)
  have hgo : ZZ 0 0 0 [some (.ref s), some (.int (iI 200))] [] L F := by
    refine z_aload_n0 hZ dX6_init_0 ?_
    refine z_objInit hZ dX6_init_1 ml_X6_3 (Nat.le_of_ble_eq_true rfl) (Nat.le_of_ble_eq_true rfl) (Nat.le_of_ble_eq_true rfl) ?_
    refine z_aload_n0 hZ dX6_init_4 ?_
    refine z_iload_n1 hZ dX6_init_5 ?_
    refine z_if_ge hZ (tgt := 13) dX6_init_6 rfl (by omega) (fun hc6 => ?_) (fun hc6 => ?_)
    · refine z_iload_n1 hZ dX6_init_13 ?_
      refine z_newarrI hZ (N := 200) dX6_init_14 (Or.inl ⟨rfl, rfl⟩) ac_int (by decide) (⟨Nat.le_of_ble_eq_true rfl, Nat.le_of_ble_eq_true rfl⟩) (fun q14 F14 nq14 hF14 hf14 => ?_)
      have hs2 : s ∈ L ++ [q14] := in_sl hs
      have t2 : F14 s = eO 6 [.null, .int w] := (hf14 s (ne_in nq14 hs)).trans t
      refine z_pf_X6_codes hZ dX6_init_16 fl_X6_9 rfl rfl (by assumption) (by assumption) (fun F16 hF16 hf16 => ?_)
      exact z_vret hZ rfl (Nat.le_of_ble_eq_true rfl) (Nat.le_of_ble_eq_true rfl) dX6_init_19 (by
            refine ⟨rfl, gp (fun _ => 0) 0 q14, nw.zero.push nq14, ?_, ?_, fun b hb hn => (hf16 b hn).trans (hf14 b (ne_in nq14 hb))⟩
            · rw [gp_m]; exact hF16
            · rw [gp_m]; exact (hf16 _ (Ne.symm (ne_in nq14 hs))).trans hF14)
    · exfalso; omega
  exact hgo
set_option maxRecDepth 100000 in
set_option maxHeartbeats 4000000 in
theorem m_X6_init60 (l : Launch) {L : List Nat} {F : Nat → PE} {s : Nat} {w : Int32} (hs : s ∈ L) (t : F s = eO 6 [.null, .int w]) : PM l yX6_init cX6_init 2 none (rm 2 1 60) L [.ref s, .int (iI 60)] F (fun v9 L1 F1 => v9 = none ∧ ∃ g, nw L L1 g 1 ∧ F1 s = eO 6 [.ref (g 0), .int w] ∧ F1 (g 0) = eI 0 60 (fun _ => 0) ∧ ∀ b, b ∈ L → b ≠ s → F1 b = F b) (fun _ _ _ => False) := by
  refine pm_of cd_X6_init (by decide +kernel) (Nat.le_of_ble_eq_true rfl) (fun ZZ hZ => ?_)
  have hgo : ZZ 0 0 0 [some (.ref s), some (.int (iI 60))] [] L F := by
    refine z_aload_n0 hZ dX6_init_0 ?_
    refine z_objInit hZ dX6_init_1 ml_X6_3 (Nat.le_of_ble_eq_true rfl) (Nat.le_of_ble_eq_true rfl) (Nat.le_of_ble_eq_true rfl) ?_
    refine z_aload_n0 hZ dX6_init_4 ?_
    refine z_iload_n1 hZ dX6_init_5 ?_
    refine z_if_ge hZ (tgt := 13) dX6_init_6 rfl (by omega) (fun hc6 => ?_) (fun hc6 => ?_)
    · refine z_iload_n1 hZ dX6_init_13 ?_
      refine z_newarrI hZ (N := 60) dX6_init_14 (Or.inl ⟨rfl, rfl⟩) ac_int (by decide) (⟨Nat.le_of_ble_eq_true rfl, Nat.le_of_ble_eq_true rfl⟩) (fun q14 F14 nq14 hF14 hf14 => ?_)
      have hs2 : s ∈ L ++ [q14] := in_sl hs
      have t2 : F14 s = eO 6 [.null, .int w] := (hf14 s (ne_in nq14 hs)).trans t
      refine z_pf_X6_codes hZ dX6_init_16 fl_X6_9 rfl rfl (by assumption) (by assumption) (fun F16 hF16 hf16 => ?_)
      exact z_vret hZ rfl (Nat.le_of_ble_eq_true rfl) (Nat.le_of_ble_eq_true rfl) dX6_init_19 (by
            refine ⟨rfl, gp (fun _ => 0) 0 q14, nw.zero.push nq14, ?_, ?_, fun b hb hn => (hf16 b hn).trans (hf14 b (ne_in nq14 hb))⟩
            · rw [gp_m]; exact hF16
            · rw [gp_m]; exact (hf16 _ (Ne.symm (ne_in nq14 hs))).trans hF14)
    · exfalso; omega
  exact hgo
set_option maxRecDepth 100000 in
set_option maxHeartbeats 4000000 in
theorem m_X6_init0 (l : Launch) {L : List Nat} {F : Nat → PE} {s : Nat} {w : Int32} (hs : s ∈ L) (t : F s = eO 6 [.null, .int w]) : PM l yX6_init cX6_init 2 none (rm 2 1 0) L [.ref s, .int (iI 0)] F (fun v9 L1 F1 => v9 = none ∧ ∃ g, nw L L1 g 1 ∧ F1 s = eO 6 [.ref (g 0), .int w] ∧ F1 (g 0) = eI 0 0 (fun _ => 0) ∧ ∀ b, b ∈ L → b ≠ s → F1 b = F b) (fun _ _ _ => False) := by
  refine pm_of cd_X6_init (by decide +kernel) (Nat.le_of_ble_eq_true rfl) (fun ZZ hZ => ?_)
  have hgo : ZZ 0 0 0 [some (.ref s), some (.int (iI 0))] [] L F := by
    refine z_aload_n0 hZ dX6_init_0 ?_
    refine z_objInit hZ dX6_init_1 ml_X6_3 (Nat.le_of_ble_eq_true rfl) (Nat.le_of_ble_eq_true rfl) (Nat.le_of_ble_eq_true rfl) ?_
    refine z_aload_n0 hZ dX6_init_4 ?_
    refine z_iload_n1 hZ dX6_init_5 ?_
    refine z_if_ge hZ (tgt := 13) dX6_init_6 rfl (by omega) (fun hc6 => ?_) (fun hc6 => ?_)
    · refine z_iload_n1 hZ dX6_init_13 ?_
      refine z_newarrI hZ (N := 0) dX6_init_14 (Or.inl ⟨rfl, rfl⟩) ac_int (by decide) (⟨Nat.le_of_ble_eq_true rfl, Nat.le_of_ble_eq_true rfl⟩) (fun q14 F14 nq14 hF14 hf14 => ?_)
      have hs2 : s ∈ L ++ [q14] := in_sl hs
      have t2 : F14 s = eO 6 [.null, .int w] := (hf14 s (ne_in nq14 hs)).trans t
      refine z_pf_X6_codes hZ dX6_init_16 fl_X6_9 rfl rfl (by assumption) (by assumption) (fun F16 hF16 hf16 => ?_)
      exact z_vret hZ rfl (Nat.le_of_ble_eq_true rfl) (Nat.le_of_ble_eq_true rfl) dX6_init_19 (by
            refine ⟨rfl, gp (fun _ => 0) 0 q14, nw.zero.push nq14, ?_, ?_, fun b hb hn => (hf16 b hn).trans (hf14 b (ne_in nq14 hb))⟩
            · rw [gp_m]; exact hF16
            · rw [gp_m]; exact (hf16 _ (Ne.symm (ne_in nq14 hs))).trans hF14)
    · exfalso; omega
  exact hgo
set_option maxRecDepth 100000 in
set_option maxHeartbeats 4000000 in
theorem m_X0_init (l : Launch) {L : List Nat} {F : Nat → PE} {s : Nat} : PM l yX0_init cX0_init 1 none (rm 2 0 0) L [.ref s] F (fun v9 L1 F1 => v9 = none ∧ L = L1 ∧ F = F1) (fun _ _ _ => False) := by
  refine pm_of cd_X0_init (by decide +kernel) (Nat.le_of_ble_eq_true rfl) (fun ZZ hZ => ?_)
  have hgo : ZZ 0 0 0 [some (.ref s)] [] L F := by
    refine z_aload_n0 hZ dX0_init_0 ?_
    refine z_objInit hZ dX0_init_1 ml_X0_1 (Nat.le_of_ble_eq_true rfl) (Nat.le_of_ble_eq_true rfl) (Nat.le_of_ble_eq_true rfl) ?_
    exact z_vret hZ rfl (Nat.le_of_ble_eq_true rfl) (Nat.le_of_ble_eq_true rfl) dX0_init_4 (by exact ⟨rfl, rfl, rfl⟩)
  exact hgo
set_option maxRecDepth 100000 in
set_option maxHeartbeats 4000000 in
theorem m_X4_init (l : Launch) {L : List Nat} {F : Nat → PE} {s : Nat} {v0 v1 v2 : Value} (hs : s ∈ L) (t : F s = eO 4 [v0, v1, v2]) : PM l yX4_init cX4_init 1 none (rm 3 2 202) L [.ref s] F (fun v9 L1 F1 => v9 = none ∧ ∃ g, nw L L1 g 2 ∧ F1 s = eO 4 [.ref (g 0), v1, .int (iI (-1))] ∧ F1 (g 0) = eO 6 [.ref (g 1), .int (iI 0)] ∧ F1 (g 1) = eI 0 200 (fun _ => 0) ∧ ∀ b, b ∈ L → b ≠ s → F1 b = F b) (fun _ _ _ => False) := by
  refine pm_of cd_X4_init (by decide +kernel) (Nat.le_of_ble_eq_true rfl) (fun ZZ hZ => ?_)
  have hgo : ZZ 0 0 0 [some (.ref s)] [] L F := by
    refine z_aload_n0 hZ dX4_init_0 ?_
    refine z_objInit hZ dX4_init_1 ml_X4_3 (Nat.le_of_ble_eq_true rfl) (Nat.le_of_ble_eq_true rfl) (Nat.le_of_ble_eq_true rfl) ?_
    refine z_aload_n0 hZ dX4_init_4 ?_
    refine z_new_X6 hZ dX4_init_5 cl_X4_9 (⟨Nat.le_of_ble_eq_true rfl, Nat.le_of_ble_eq_true rfl⟩) (fun q5 F5 nq5 hF5 hf5 => ?_)
    have n5 := nw.zero (g := fun _ => 0).push nq5
    refine z_dup hZ dX4_init_8 rfl ?_
    refine z_sipush hZ dX4_init_9 rfl ?_
    refine z_cI hZ (As := [_]) rfl dX4_init_12 ml_X4_11 wy_X6_init (m_X6_init200 l in_sn hF5) ⟨Nat.le_of_ble_eq_true rfl, Nat.le_of_ble_eq_true rfl⟩ ⟨Nat.le_of_ble_eq_true rfl, Nat.le_of_ble_eq_true rfl⟩ (Nat.le_of_ble_eq_true rfl) (fun _ _ _ h => h.elim) (fun v12 L12 G12 hp12 => ?_)
    obtain ⟨rfl, g, hg, e1, e2, e3⟩ := hp12
    have hs2 : s ∈ L12 := hg.2.2 _ (in_sl hs)
    have t2 : G12 s = eO 4 [v0, v1, v2] := (e3 s (in_sl hs) (ne_in nq5 hs)).trans ((hf5 s (ne_in nq5 hs)).trans t)
    have hn := n5.cat hg
    refine z_pf_X4_text hZ dX4_init_15 fl_X4_14 rfl rfl (by assumption) (by assumption) (fun F15 hF15 hf15 => ?_)
    refine z_aload_n0 hZ dX4_init_18 ?_
    refine z_iconst hZ dX4_init_19 ?_
    refine z_pf_X4_mark hZ dX4_init_20 fl_X4_20 (by assumption) (by assumption) (fun F20 hF20 hf20 => ?_)
    exact z_vret hZ rfl (Nat.le_of_ble_eq_true rfl) (Nat.le_of_ble_eq_true rfl) dX4_init_23 (by
            have d1 := ne_in nq5 hs
            have d2 := hg.old (i := 0) (by omega) (in_sl hs)
            refine ⟨rfl, _, hn, ?_, ?_, ?_, fun b hb hb2 => (hf20 b hb2).trans ((hf15 b hb2).trans ((e3 b (in_sl hb) (ne_in nq5 hb)).trans (hf5 b (ne_in nq5 hb))))⟩
            · rw [gc_l (by omega), gp_m]; exact hF20
            · rw [gc_l (by omega), gp_m, show (1 : Nat) = 0 + 1 + 0 from rfl, gc_r]; exact (hf20 _ (Ne.symm d1)).trans ((hf15 _ (Ne.symm d1)).trans e1)
            · rw [show (1 : Nat) = 0 + 1 + 0 from rfl, gc_r]; exact (hf20 _ (Ne.symm d2)).trans ((hf15 _ (Ne.symm d2)).trans e2))
  exact hgo

