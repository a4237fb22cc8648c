/-! CONSTRUCTORS, 2: the ring, a state. -/
set_option maxRecDepth 100000 in
set_option maxHeartbeats 4000000 in
theorem m_X3_init (l : Launch) {L : List Nat} {F : Nat → PE} {s : Nat} {v0 v1 v2 v3 v4 : Value} (hs : s ∈ L) (t : F s = eO 3 [v0, v1, v2, v3, v4]) : PM l yX3_init cX3_init 2 none (rm 3 19 1626) L [.ref s] F (fun v9 L1 F1 => v9 = none ∧ ∃ g r, nw L L1 g 19 ∧ F1 s = eO 3 [.ref (g 0), .ref (g 1), v2, .int (iI 5), .int (iI (-1))] ∧ F1 (g 0) = eQ 4 8 r ∧ (∀ j : Nat, j < 8 → r (j : Int) = some (g (3 + 2 * j))) ∧ F1 (g 1) = eO 6 [.ref (g 2), .int (iI 0)] ∧ F1 (g 2) = eI 0 0 (fun _ => 0) ∧ (∀ j : Nat, j < 8 → F1 (g (3 + 2 * j)) = eO 6 [.ref (g (4 + 2 * j)), .int (iI 0)] ∧ F1 (g (4 + 2 * j)) = eI 0 200 (fun _ => 0)) ∧ ∀ b, b ∈ L → b ≠ s → F1 b = F b) (fun _ _ _ => False) := by
  refine pm_of cd_X3_init (by decide +kernel) (Nat.le_of_ble_eq_true rfl) (fun ZZ hZ => ?_)
  have hgo : ZZ 0 0 0 [some (.ref s), none] [] L F := by
    have loop : ∀ (m i : Nat) (L2 : List Nat) (F2 : Nat → PE) (g : Nat → Nat) (r : Int → Option Nat), 8 - i = m → i ≤ 8 → nw L L2 g (3 + 2 * i) → F2 s = eO 3 [.ref (g 0), .ref (g 1), v2, .int (iI 5), .int (iI (-1))] → F2 (g 0) = eQ 4 8 r → (∀ j : Nat, j < i → r (j : Int) = some (g (3 + 2 * j))) → F2 (g 1) = eO 6 [.ref (g 2), .int (iI 0)] → F2 (g 2) = eI 0 0 (fun _ => 0) → (∀ j : Nat, j < i → F2 (g (3 + 2 * j)) = eO 6 [.ref (g (4 + 2 * j)), .int (iI 0)] ∧ F2 (g (4 + 2 * j)) = eI 0 200 (fun _ => 0)) → (∀ b, b ∈ L → b ≠ s → F2 b = F b) → ZZ (3 + 2 * i) (10 + 202 * i) 37 [some (.ref s), some (.int (iI (i : Int)))] [] L2 F2 := by
      intro m
      induction m with
      | zero =>
        intro i L2 F2 g r hm hi hn h1 h2 h3 h4 h5 h6 h7
        have e8 : i = 8 := by omega
        subst e8
        refine z_iload_n1 hZ dX3_init_37 ?_
        refine z_bipush hZ dX3_init_38 rfl ?_
        refine z_icmp_ge hZ (tgt := 65) dX3_init_40 rfl (by omega) (fun hc40 => ?_) (fun hc40 => ?_)
        · exact z_vret hZ rfl (Nat.le_of_ble_eq_true rfl) (Nat.le_of_ble_eq_true rfl) dX3_init_65 (by exact ⟨rfl, g, r, hn, h1, h2, h3, h4, h5, h6, h7⟩)
        · exfalso; omega
      | succ m ih =>
        intro i L2 F2 g r hm hi hn h1 h2 h3 h4 h5 h6 h7
        have l1 : s ∈ L2 := hn.2.2 _ hs
        have l2 := (hn.1 0 (by omega)).2
        refine z_iload_n1 hZ dX3_init_37 ?_
        refine z_bipush hZ dX3_init_38 rfl ?_
        refine z_icmp_ge hZ (tgt := 65) dX3_init_40 rfl (by omega) (fun hc40 => ?_) (fun hc40 => ?_)
        · exfalso; omega
        · refine z_aload_n0 hZ dX3_init_43 ?_
          refine z_gf_X3_rows hZ dX3_init_44 fl_X3_11 (by assumption) (by assumption) ?_
          refine z_iload_n1 hZ dX3_init_47 ?_
          refine z_new_X6 hZ dX3_init_48 cl_X3_9 (⟨by show 3 + 2 * i + 1 ≤ 19; omega, by show 10 + 202 * i + 2 ≤ 1626; omega⟩) (fun q48 F48 nq48 hF48 hf48 => ?_)
          have n48 := hn.push nq48
          refine z_dup hZ dX3_init_51 rfl ?_
          refine z_sipush hZ dX3_init_52 rfl ?_
          refine z_cI hZ (As := [_]) rfl dX3_init_55 ml_X3_17 wy_X6_init (m_X6_init200 l in_sn hF48) ⟨Nat.le_of_ble_eq_true rfl, Nat.le_of_ble_eq_true rfl⟩ (⟨by show 3 + 2 * i + 1 + 1 ≤ 19; omega, by show 10 + 202 * i + 2 + 200 ≤ 1626; omega⟩) (Nat.le_of_ble_eq_true rfl) (fun _ _ _ h => h.elim) (fun v55 L55 G55 hp55 => ?_)
          obtain ⟨rfl, g2, hg, e1, e2, e3⟩ := hp55
          have hk : ∀ b, b ∈ L2 → G55 b = F2 b := fun b hb => (e3 b (in_sl hb) (ne_in nq48 hb)).trans (hf48 b (ne_in nq48 hb))
          have l3 : g 0 ∈ L55 := hg.2.2 _ (in_sl l2)
          have l4 : q48 ∈ L55 := hg.2.2 _ in_sn
          have f3 : G55 (g 0) = eQ 4 8 r := (hk _ l2).trans h2
          refine z_aastore_Text hZ dX3_init_58 (by assumption) (by assumption) (⟨by omega, by omega, by omega⟩) (by assumption) (by assumption) (fun F58 hF58 hf58 => ?_)
          refine z_iinc1 hZ dX3_init_59 (by decide) rfl ?_
          refine z_goto hZ (tgt := 37) dX3_init_62 rfl ?_
          have n55 := n48.cat hg
          have hk2 : ∀ b, b ∈ L2 → b ≠ g 0 → F58 b = F2 b := fun b hb hb2 => (hf58 b hb2).trans (hk b hb)
          have a1 : ∀ x, x < 3 + 2 * i → gc (gp g (3 + 2 * i) q48) (3 + 2 * i + 1) g2 x = g x := fun x hx => by rw [gc_l (by omega), gp_l hx]
          have a2 : gc (gp g (3 + 2 * i) q48) (3 + 2 * i + 1) g2 (3 + 2 * i) = q48 := by rw [gc_l (by omega), gp_m]
          have a3 : gc (gp g (3 + 2 * i) q48) (3 + 2 * i + 1) g2 (4 + 2 * i) = g2 0 := by rw [show 4 + 2 * i = 3 + 2 * i + 1 + 0 by omega, gc_r]
          have hz := ih (i + 1) _ F58 _ (wu r i (some q48)) (by omega) (by omega) n55 (by rw [a1 0 (by omega), a1 1 (by omega)]; exact (hk2 _ l1 (hn.old (by omega) hs)).trans h1) (by rw [a1 0 (by omega)]; exact hF58) ?_ (by rw [a1 1 (by omega), a1 2 (by omega)]; exact (hk2 _ (hn.1 1 (by omega)).2 (hn.ne (by omega) (by omega) (by omega))).trans h4) (by rw [a1 2 (by omega)]; exact (hk2 _ (hn.1 2 (by omega)).2 (hn.ne (by omega) (by omega) (by omega))).trans h5) ?_ (fun b hb hb2 => (hk2 b (hn.2.2 b hb) (hn.old (by omega) hb)).trans (h7 b hb hb2))
          · rw [show 3 + 2 * (i + 1) = 3 + 2 * i + 1 + 1 by omega, show 10 + 202 * (i + 1) = 10 + 202 * i + 2 + 200 by omega] at hz; exact hz
          · intro j hj
            by_cases c : j = i
            · subst c; rw [wu_s, a2]
            · rw [wu_n (by omega), a1 _ (by omega)]; exact h3 j (by omega)
          · intro j hj
            by_cases c : j = i
            · subst c; rw [a2, a3]
              exact ⟨(hf58 _ (Ne.symm (ne_in nq48 l2))).trans e1, (hf58 _ (Ne.symm (hg.old (by omega) (in_sl l2)))).trans e2⟩
            · rw [a1 _ (by omega), a1 _ (by omega)]
              exact ⟨(hk2 _ (hn.1 _ (by omega)).2 (hn.ne (by omega) (by omega) (by omega))).trans (h6 j (by omega)).1, (hk2 _ (hn.1 _ (by omega)).2 (hn.ne (by omega) (by omega) (by omega))).trans (h6 j (by omega)).2⟩
    refine z_aload_n0 hZ dX3_init_0 ?_
    refine z_objInit hZ dX3_init_1 ml_X3_3 (Nat.le_of_ble_eq_true rfl) (Nat.le_of_ble_eq_true rfl) (Nat.le_of_ble_eq_true rfl) ?_
    refine z_aload_n0 hZ dX3_init_4 ?_
    refine z_bipush hZ dX3_init_5 rfl ?_
    refine z_newarrQ hZ (N := 8) dX3_init_7 (Or.inr ⟨rfl, rfl⟩) cl_X3_9 (by decide) (⟨Nat.le_of_ble_eq_true rfl, Nat.le_of_ble_eq_true rfl⟩) (fun q7 F7 nq7 hF7 hf7 => ?_)
    have n7 := nw.zero (g := fun _ => 0).push nq7
    have ls7 : s ∈ L ++ [q7] := in_sl hs
    have ts7 := (hf7 s (ne_in nq7 hs)).trans t
    refine z_pf_X3_rows hZ dX3_init_10 fl_X3_11 rfl rfl (by assumption) (by assumption) (fun F10 hF10 hf10 => ?_)
    have ls10 := ls7
    refine z_aload_n0 hZ dX3_init_13 ?_
    refine z_new_X6 hZ dX3_init_14 cl_X3_9 (⟨Nat.le_of_ble_eq_true rfl, Nat.le_of_ble_eq_true rfl⟩) (fun q14 F14 nq14 hF14 hf14 => ?_)
    have n14 := n7.push nq14
    refine z_dup hZ dX3_init_17 rfl ?_
    refine z_iconst hZ dX3_init_18 ?_
    refine z_cI hZ (As := [_]) rfl dX3_init_19 ml_X3_17 wy_X6_init (m_X6_init0 l in_sn hF14) ⟨Nat.le_of_ble_eq_true rfl, Nat.le_of_ble_eq_true rfl⟩ ⟨Nat.le_of_ble_eq_true rfl, Nat.le_of_ble_eq_true rfl⟩ (Nat.le_of_ble_eq_true rfl) (fun _ _ _ h => h.elim) (fun v19 L19 G19 hp19 => ?_)
    obtain ⟨rfl, g2, hg, e1, e2, e3⟩ := hp19
    have ls19 : s ∈ L19 := hg.2.2 _ (in_sl ls7)
    have ts19 := (e3 s (in_sl ls7) (ne_in nq14 ls7)).trans ((hf14 s (ne_in nq14 ls7)).trans hF10)
    have n19 := n14.cat hg
    refine z_pf_X3_noHoard hZ dX3_init_22 fl_X3_20 rfl rfl (by assumption) (by assumption) (fun F22 hF22 hf22 => ?_)
    refine z_aload_n0 hZ dX3_init_25 ?_
    refine z_iconst hZ dX3_init_26 ?_
    refine z_pf_X3_caves hZ dX3_init_27 fl_X3_24 (by assumption) (by assumption) (fun F27 hF27 hf27 => ?_)
    refine z_aload_n0 hZ dX3_init_30 ?_
    refine z_iconst hZ dX3_init_31 ?_
    refine z_pf_X3_next hZ dX3_init_32 fl_X3_28 (by assumption) (by assumption) (fun F32 hF32 hf32 => ?_)
    refine z_iconst hZ dX3_init_35 ?_
    refine z_istore_n1 hZ dX3_init_36 (by decide) rfl ?_
    have b0 : gc (gp (gp (fun _ => 0) 0 q7) 1 q14) 2 g2 0 = q7 := by rw [gc_l (by omega), gp_l (by omega), gp_m]
    have b1 : gc (gp (gp (fun _ => 0) 0 q7) 1 q14) 2 g2 1 = q14 := by rw [gc_l (by omega), gp_m]
    have b2 : gc (gp (gp (fun _ => 0) 0 q7) 1 q14) 2 g2 2 = g2 0 := gc_r (m := 2) (i := 0)
    have i7 : q7 ∈ L ++ [q7] := in_sn
    have d1 := ne_in nq7 hs
    have d2 := ne_in nq14 ls7
    have d3 := hg.old (i := 0) (by omega) (in_sl ls7)
    have hk : ∀ b, b ≠ s → F32 b = G19 b := fun b hb => (hf32 b hb).trans ((hf27 b hb).trans (hf22 b hb))
    refine loop 8 0 _ F32 _ (fun _ => none) rfl (by omega) n19 (by rw [b0, b1]; exact hF32) (by rw [b0]; exact (hk _ (Ne.symm d1)).trans ((e3 _ (in_sl i7) (ne_in nq14 i7)).trans ((hf14 _ (ne_in nq14 i7)).trans ((hf10 _ (Ne.symm d1)).trans hF7)))) (fun j h => absurd h (Nat.not_lt_zero j)) (by rw [b1, b2]; exact (hk _ (Ne.symm d2)).trans e1) (by rw [b2]; exact (hk _ (Ne.symm d3)).trans e2) (fun j h => absurd h (Nat.not_lt_zero j)) (fun b hb hb2 => ?_)
    exact (hk b hb2).trans ((e3 b (in_sl (in_sl hb)) (ne_in nq14 (in_sl hb))).trans ((hf14 b (ne_in nq14 (in_sl hb))).trans ((hf10 b hb2).trans (hf7 b (ne_in nq7 hb)))))
  exact hgo

