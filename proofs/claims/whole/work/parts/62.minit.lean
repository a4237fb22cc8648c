/-! THE MODEL, 11: its constructor. -/
def g00 : Int → Int := wu (wu (fun _ => 0) 2 (-1)) 5 5
theorem g00_vI : g00 = vI := by
  funext y
  unfold g00 vI wu
  by_cases h : y = 5
  · rw [if_pos h, if_neg (by omega), if_pos h]
  · rw [if_neg h, if_neg h]
set_option maxRecDepth 100000 in
set_option maxHeartbeats 4000000 in
theorem m_X8_init (l : Launch) {L : List Nat} {F : Nat → PE} {x : Nat} (hx : x ∈ L) (hF : F x = eO 8 [.null, .int (iI 0), .null, .int (iI 0), .int (iI 0), .null, .int (iI 0), .int (iI 0), .int (iI 0), .int (iI 0)]) : PM l yX8_init cX8_init 1 none (rm 1 3 18242) L [.ref x] F (fun v9 L1 F1 => v9 = none ∧ ∃ a q c, (a ∉ L ∧ q ∉ L ∧ c ∉ L) ∧ L1 = L ++ [a] ++ [q] ++ [c] ∧ mo L1 F1 x a q c g00 0 0 0 0 0 0 0 (fun _ => 0) (fun _ => 0) ∧ ∀ b, b ∈ L → b ≠ x → F1 b = F b) (fun _ _ _ => False) := by
  refine pm_of cd_X8_init (by decide +kernel) (Nat.le_of_ble_eq_true rfl) (fun ZZ hZ => ?_)
  have hgo : ZZ 0 0 0 [some (.ref x)] [] L F := by
    refine z_aload_n0 hZ dX8_init_0 ?_
    refine z_objInit hZ dX8_init_1 ml_X8_1 (Nat.le_of_ble_eq_true rfl) (Nat.le_of_ble_eq_true rfl) (Nat.le_of_ble_eq_true rfl) ?_
    refine z_aload_n0 hZ dX8_init_4 ?_
    refine z_sipush hZ dX8_init_5 rfl ?_
    refine z_newarrI hZ (N := 18180) dX8_init_8 (Or.inl ⟨rfl, rfl⟩) ac_int (by decide) (⟨Nat.le_of_ble_eq_true rfl, Nat.le_of_ble_eq_true rfl⟩) (fun q8 F8 nq8 hF8 hf8 => ?_)
    have x8 : x ∈ L ++ [q8] := in_sl hx
    have hF := (hf8 x (ne_in nq8 hx)).trans hF
    refine z_pf_X8_s hZ dX8_init_10 fl_X8_7 rfl rfl (by assumption) (by assumption) (fun F10 hF10 hf10 => ?_)
    have hxa : x ≠ q8 := ne_in nq8 hx
    have hF := hF10
    have hg := (hf10 q8 (Ne.symm hxa)).trans hF8
    refine z_aload_n0 hZ dX8_init_13 ?_
    refine z_iconst hZ dX8_init_14 ?_
    refine z_newarrI hZ (N := 2) dX8_init_15 (Or.inr (Or.inl ⟨rfl, rfl⟩)) ac_boolean (by decide) (⟨Nat.le_of_ble_eq_true rfl, Nat.le_of_ble_eq_true rfl⟩) (fun q15 F15 nq15 hF15 hf15 => ?_)
    have x15 : x ∈ L ++ [q8] ++ [q15] := in_sl x8
    have hxq : x ≠ q15 := ne_in nq15 x8
    have haq : q8 ≠ q15 := ne_in nq15 in_sn
    have hF := (hf15 x hxq).trans hF
    have hg := (hf15 q8 haq).trans hg
    refine z_pf_X8_isKept hZ dX8_init_17 fl_X8_13 rfl rfl (by assumption) (by assumption) (fun F17 hF17 hf17 => ?_)
    have hF := hF17
    have hg := (hf17 q8 (Ne.symm hxa)).trans hg
    have hQ := (hf17 q15 (Ne.symm hxq)).trans hF15
    refine z_aload_n0 hZ dX8_init_20 ?_
    refine z_bipush hZ dX8_init_21 rfl ?_
    refine z_newarrI hZ (N := 60) dX8_init_23 (Or.inr (Or.inr ⟨rfl, rfl⟩)) ac_char (by decide) (⟨Nat.le_of_ble_eq_true rfl, Nat.le_of_ble_eq_true rfl⟩) (fun q23 F23 nq23 hF23 hf23 => ?_)
    have x23 : x ∈ L ++ [q8] ++ [q15] ++ [q23] := in_sl x15
    have hxc : x ≠ q23 := ne_in nq23 x15
    have hac : q8 ≠ q23 := ne_in nq23 (in_sl in_sn)
    have hqc : q15 ≠ q23 := ne_in nq23 in_sn
    have hF := (hf23 x hxc).trans hF
    have hg := (hf23 q8 hac).trans hg
    have hQ := (hf23 q15 hqc).trans hQ
    refine z_pf_X8_text hZ dX8_init_25 fl_X8_17 rfl rfl (by assumption) (by assumption) (fun F25 hF25 hf25 => ?_)
    have hF := hF25
    have hg := (hf25 q8 (Ne.symm hxa)).trans hg
    have hQ := (hf25 q15 (Ne.symm hxq)).trans hQ
    have hC := (hf25 q23 (Ne.symm hxc)).trans hF23
    have ha : q8 ∈ L ++ [q8] ++ [q15] ++ [q23] := in_sl (in_sl in_sn)
    have t := ms.of x23 ha hxa hF hg
    have fr : fa q8 F25 F25 := fa.rf
    refine z_aload_n0 hZ dX8_init_28 ?_
    refine z_gf_X8_s hZ dX8_init_29 fl_X8_7 (by assumption) (by assumption) ?_
    refine z_iconst hZ dX8_init_32 ?_
    refine z_iconst hZ dX8_init_33 ?_
    refine z_iastore hZ dX8_init_34 (by assumption) (by assumption) (by omega) (fun F34 hF34 hf34 => ?_)
    have hF := (hf34 x hxa).trans hF
    have hg := hF34
    have t := t.mv hF34 hf34
    have fr := fa.tr fr hf34
    refine z_aload_n0 hZ dX8_init_35 ?_
    refine z_gf_X8_s hZ dX8_init_36 fl_X8_7 (by assumption) (by assumption) ?_
    refine z_iconst hZ dX8_init_39 ?_
    refine z_iconst hZ dX8_init_40 ?_
    refine z_iastore hZ dX8_init_41 (by assumption) (by assumption) (by omega) (fun F41 hF41 hf41 => ?_)
    have hF := (hf41 x hxa).trans hF
    have hg := hF41
    have t := t.mv hF41 hf41
    have fr := fa.tr fr hf41
    exact z_vret hZ rfl (Nat.le_of_ble_eq_true rfl) (Nat.le_of_ble_eq_true rfl) dX8_init_42 (by
            refine ⟨rfl, q8, q15, q23, ⟨nq8, fun w => nq15 (in_sl w), fun w => nq23 (in_sl (in_sl w))⟩, rfl, ⟨⟨⟨x23, ha, in_sl in_sn, in_sn⟩, hxa, hxq, hxc, haq, hac, hqc⟩, hF, hg, (fr q15 (Ne.symm haq)).trans hQ, (fr q23 (Ne.symm hac)).trans hC⟩, fun b hb hbx => ?_⟩
            have b8 := ne_in nq8 hb
            have b15 := ne_in nq15 (in_sl hb)
            have b23 := ne_in nq23 (in_sl (in_sl hb))
            exact (fr b b8).trans ((hf25 b hbx).trans ((hf23 b b23).trans ((hf17 b hbx).trans ((hf15 b b15).trans ((hf10 b hbx).trans (hf8 b b8)))))))
  exact hgo

