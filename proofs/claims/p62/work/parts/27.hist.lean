/-! THE HISTORY, its constructor. -/
set_option maxRecDepth 100000 in
set_option maxHeartbeats 4000000 in
theorem m_X2_init (l : Launch) {L : List Nat} {F : Nat → PE} {s : Nat} {v0 v1 v2 : Value} (hs : s ∈ L) (t : F s = eO 2 [v0, v1, v2]) : PM l yX2_init cX2_init 2 none (rm 5 176 12929) L [.ref s] F (fun v9 L1 F1 => v9 = none ∧ ∃ g r, nw L L1 g 176 ∧ F1 s = eO 2 [.ref (g 0), v1, v2] ∧ F1 (g 0) = eQ 3 7 r ∧ (∀ j : Nat, j < 7 → r (j : Int) = some (g (1 + 25 * j))) ∧ (∀ j : Nat, j < 7 → stP L1 F1 (fun c => g (1 + 25 * j + c)) vI 0) ∧ ∀ b, b ∈ L → b ≠ s → F1 b = F b) (fun _ _ _ => False) := by
  refine pm_of cd_X2_init (by decide +kernel) (Nat.le_of_ble_eq_true rfl) (fun ZZ hZ => ?_)
  have hgo : ZZ 0 0 0 [some (.ref s), none] [] L F := by
    have loop : ∀ (m i : Nat) (L2 : List Nat) (F2 : Nat → PE) (g : Nat → Nat) (r : Int → Option Nat), 7 - i = m → i ≤ 7 → nw L L2 g (1 + 25 * i) → F2 s = eO 2 [.ref (g 0), v1, v2] → F2 (g 0) = eQ 3 7 r → (∀ j : Nat, j < i → r (j : Int) = some (g (1 + 25 * j))) → (∀ j : Nat, j < i → stP L2 F2 (fun c => g (1 + 25 * j + c)) vI 0) → (∀ b, b ∈ L → b ≠ s → F2 b = F b) → ZZ (1 + 25 * i) (7 + 1846 * i) 15 [some (.ref s), some (.int (iI (i : Int)))] [] L2 F2 := by
      intro m
      induction m with
      | zero =>
        intro i L2 F2 g r hm hi hn h1 h2 h3 h4 h5
        have e8 : i = 7 := by omega
        subst e8
        refine z_iload_n1 hZ dX2_init_15 ?_
        refine z_bipush hZ dX2_init_16 rfl ?_
        refine z_icmp_ge hZ (tgt := 40) dX2_init_18 rfl (by omega) (fun hc18 => ?_) (fun hc18 => ?_)
        · exact z_vret hZ rfl (Nat.le_of_ble_eq_true rfl) (Nat.le_of_ble_eq_true rfl) dX2_init_40 (by exact ⟨rfl, g, r, hn, h1, h2, h3, h4, h5⟩)
        · exfalso; omega
      | succ m ih =>
        intro i L2 F2 g r hm hi hn h1 h2 h3 h4 h5
        have l1 : s ∈ L2 := hn.2.2 _ hs
        have l2 := (hn.1 0 (by omega)).2
        refine z_iload_n1 hZ dX2_init_15 ?_
        refine z_bipush hZ dX2_init_16 rfl ?_
        refine z_icmp_ge hZ (tgt := 40) dX2_init_18 rfl (by omega) (fun hc18 => ?_) (fun hc18 => ?_)
        · exfalso; omega
        · refine z_aload_n0 hZ dX2_init_21 ?_
          refine z_gf_X2_rows hZ dX2_init_22 fl_X2_13 (by assumption) (by assumption) ?_
          refine z_iload_n1 hZ dX2_init_25 ?_
          refine z_new_X5 hZ dX2_init_26 cl_X2_11 (⟨by show 1 + 25 * i + 1 ≤ 176; omega, by show 7 + 1846 * i + 4 ≤ 12929; omega⟩) (fun q26 F26 nq26 hF26 hf26 => ?_)
          refine z_dup hZ dX2_init_29 rfl ?_
          refine z_cIN hZ (As := []) rfl dX2_init_30 ns_X2_17 wy_X5_init (m_X5_init l in_sn hF26) ⟨Nat.le_of_ble_eq_true rfl, Nat.le_of_ble_eq_true rfl⟩ (⟨by show 1 + 25 * i + 1 + 24 ≤ 176; omega, by show 7 + 1846 * i + 4 + 1842 ≤ 12929; omega⟩) (Nat.le_of_ble_eq_true rfl) (fun _ _ _ h => h.elim) (fun v30 L30 G30 hp30 => ?_)
          obtain ⟨rfl, sa, z0, z1, z2, z3⟩ := hp30
          have ns := nw_st nq26 z0 z1
          have hk : ∀ b, b ∈ L2 → G30 b = F2 b := fun b hb => (z3 b (in_sl hb) (ne_in nq26 hb)).trans (hf26 b (ne_in nq26 hb))
          have l3 : g 0 ∈ L30 := z1.2.2 _ (in_sl l2)
          have l4 : q26 ∈ L30 := z1.2.2 _ in_sn
          have f3 : G30 (g 0) = eQ 3 7 r := (hk _ l2).trans h2
          obtain ⟨w4, f4⟩ : ∃ w4, G30 q26 = eO 5 w4 := by obtain ⟨_, _, _, _, _, _, hO⟩ := z2; rw [← z0]; exact ⟨_, hO.2.2.2.2.2.1⟩
          refine z_aastore_State hZ dX2_init_33 (by assumption) (by assumption) (⟨by omega, by omega, by omega⟩) (by assumption) (by assumption) (fun F33 hF33 hf33 => ?_)
          refine z_iinc1 hZ dX2_init_34 (by decide) rfl ?_
          refine z_goto hZ (tgt := 15) dX2_init_37 rfl ?_
          have nn := hn.cat ns
          have hk2 : ∀ b, b ∈ L2 → b ≠ g 0 → F33 b = F2 b := fun b hb hb2 => (hf33 b hb2).trans (hk b hb)
          have a1 : ∀ x, x < 1 + 25 * i → gc g (1 + 25 * i) sa x = g x := fun x hx => gc_l hx
          have a2 : ∀ c, gc g (1 + 25 * i) sa (1 + 25 * i + c) = sa c := fun c => gc_r
          have hz := ih (i + 1) _ F33 _ (wu r i (some q26)) (by omega) (by omega) nn (by rw [a1 0 (by omega)]; exact (hk2 _ l1 (hn.old (by omega) hs)).trans h1) (by rw [a1 0 (by omega)]; exact hF33) ?_ ?_ (fun b hb hb2 => (hk2 b (hn.2.2 b hb) (hn.old (by omega) hb)).trans (h5 b hb hb2))
          · rw [show 1 + 25 * (i + 1) = 1 + 25 * i + 1 + 24 by omega, show 7 + 1846 * (i + 1) = 7 + 1846 * i + 4 + 1842 by omega] at hz; exact hz
          · intro j hj
            by_cases c : j = i
            · subst c; rw [wu_s]; exact congrArg some ((a2 0).trans z0).symm
            · rw [wu_n (by omega), a1 _ (by omega)]; exact h3 j (by omega)
          · intro j hj
            by_cases c : j = i
            · subst c
              exact (z2.mv (fun x hx => hf33 _ (Ne.symm (ns.old hx l2)))).sg (fun x hx => a2 x)
            · exact (((h4 j (by omega)).mv (fun x hx => hk2 _ (hn.1 _ (by omega)).2 (hn.ne (by omega) (by omega) (by omega)))).up ns.2.2).sg (fun x hx => a1 _ (by omega))
    refine z_aload_n0 hZ dX2_init_0 ?_
    refine z_objInit hZ dX2_init_1 ml_X2_3 (Nat.le_of_ble_eq_true rfl) (Nat.le_of_ble_eq_true rfl) (Nat.le_of_ble_eq_true rfl) ?_
    refine z_aload_n0 hZ dX2_init_4 ?_
    refine z_bipush hZ dX2_init_5 rfl ?_
    refine z_newarrQ hZ (N := 7) dX2_init_7 (Or.inl ⟨rfl, rfl⟩) cl_X2_11 (by decide) (⟨Nat.le_of_ble_eq_true rfl, Nat.le_of_ble_eq_true rfl⟩) (fun q7 F7 nq7 hF7 hf7 => ?_)
    have n7 := nw.zero (g := fun _ => 0).push nq7
    have ls7 : s ∈ L ++ [q7] := in_sl hs
    have ts7 := (hf7 s (ne_in nq7 hs)).trans t
    refine z_pf_X2_rows hZ dX2_init_10 fl_X2_13 rfl rfl (by assumption) (by assumption) (fun F10 hF10 hf10 => ?_)
    refine z_iconst hZ dX2_init_13 ?_
    refine z_istore_n1 hZ dX2_init_14 (by decide) rfl ?_
    have d1 := ne_in nq7 hs
    exact loop 7 0 _ F10 _ (fun _ => none) rfl (by omega) n7 (by rw [gp_m]; exact hF10) (by rw [gp_m]; exact (hf10 _ (Ne.symm d1)).trans hF7) (fun j h => absurd h (Nat.not_lt_zero j)) (fun j h => absurd h (Nat.not_lt_zero j)) (fun b hb hb2 => (hf10 b hb2).trans (hf7 b (ne_in nq7 hb)))
  exact hgo

