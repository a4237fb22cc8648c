/-! THE WHOLE OBJECT, its constructor. -/
set_option maxRecDepth 100000 in
set_option maxHeartbeats 4000000 in
theorem m_X7_init (l : Launch) {L : List Nat} {F : Nat → PE} {s : Nat} {v0 v1 v2 v3 v4 : Value} (hs : s ∈ L) (t : F s = eO 7 [v0, v1, v2, v3, v4]) : PM l yX7_init cX7_init 2 none (rm 6 256 18536) L [.ref s] F (fun v9 L1 F1 => v9 = none ∧ ∃ K : Nat → Nat, K 0 = s ∧ nw L L1 (fun i => K (i + 1)) 256 ∧ (∃ kp, kp = (fun _ : Int => (0 : Int)) ∧ db L1 F1 K 0 0 kp 0 (fun _ => 0) (fun _ => vI) (fun _ => 0)) ∧ ∀ b, b ∈ L → b ≠ s → F1 b = F b) (fun _ _ _ => False) := by
  refine pm_of cd_X7_init (by decide +kernel) (Nat.le_of_ble_eq_true rfl) (fun ZZ hZ => ?_)
  have hgo : ZZ 0 0 0 [some (.ref s), none] [] L F := by
    have loop : ∀ (m i : Nat) (L2 : List Nat) (F2 : Nat → PE) (g : Nat → Nat) (r r2 : Int → Option Nat), 2 - i = m → i ≤ 2 → nw L L2 g (203 + 25 * i) → F2 s = eO 7 [.ref (g 0), .ref (g 25), .ref (g 202), v3, v4] → F2 (g 25) = eO 2 [.ref (g 26), .int (iI 0), .int (iI 0)] → F2 (g 26) = eQ 3 7 r → (∀ j : Nat, j < 7 → r (j : Int) = some (g (27 + 25 * j))) → F2 (g 202) = eQ 3 2 r2 → (∀ j : Nat, j < i → r2 (j : Int) = some (g (203 + 25 * j))) → stP L2 F2 (fun c => g c) vI 0 → (∀ j : Nat, j < 7 → stP L2 F2 (fun c => g (27 + 25 * j + c)) vI 0) → (∀ j : Nat, j < i → stP L2 F2 (fun c => g (203 + 25 * j + c)) vI 0) → (∀ b, b ∈ L → b ≠ s → F2 b = F b) → ZZ (203 + 25 * i) (14780 + 1846 * i) 36 [some (.ref s), some (.int (iI (i : Int)))] [] L2 F2 := by
      intro m
      induction m with
      | zero =>
        intro i L2 F2 g r r2 hm hi hn h1 h2 h3 h4 h5 h6 h7 h8 h9 h10
        have e8 : i = 2 := by omega
        subst e8
        have l1 : s ∈ L2 := hn.2.2 _ hs
        refine z_iload_n1 hZ dX7_init_36 ?_
        refine z_iconst hZ dX7_init_37 ?_
        refine z_icmp_ge hZ (tgt := 60) dX7_init_38 rfl (by omega) (fun hc38 => ?_) (fun hc38 => ?_)
        · refine z_aload_n0 hZ dX7_init_60 ?_
          refine z_iconst hZ dX7_init_61 ?_
          refine z_newarrI hZ (N := 2) dX7_init_62 (Or.inr (Or.inl ⟨rfl, rfl⟩)) ac_boolean (by decide) (⟨Nat.le_of_ble_eq_true rfl, Nat.le_of_ble_eq_true rfl⟩) (fun q62 F62 nq62 hF62 hf62 => ?_)
          have n62 := hn.push nq62
          have l62 : s ∈ L2 ++ [q62] := in_sl l1
          have t62 := (hf62 s (ne_in nq62 l1)).trans h1
          refine z_pf_X7_isKept hZ dX7_init_64 fl_X7_27 rfl rfl (by assumption) (by assumption) (fun F64 hF64 hf64 => ?_)
          refine z_aload_n0 hZ dX7_init_67 ?_
          refine z_new_X6 hZ dX7_init_68 cl_X7_31 (⟨Nat.le_of_ble_eq_true rfl, Nat.le_of_ble_eq_true rfl⟩) (fun q68 F68 nq68 hF68 hf68 => ?_)
          have n68 := n62.push nq68
          refine z_dup hZ dX7_init_71 rfl ?_
          refine z_bipush hZ dX7_init_72 rfl ?_
          refine z_cI hZ (As := [_]) rfl dX7_init_74 ml_X7_33 wy_X6_init (m_X6_init60 l in_sn hF68) ⟨Nat.le_of_ble_eq_true rfl, Nat.le_of_ble_eq_true rfl⟩ ⟨Nat.le_of_ble_eq_true rfl, Nat.le_of_ble_eq_true rfl⟩ (Nat.le_of_ble_eq_true rfl) (fun _ _ _ h => h.elim) (fun v74 L74 G74 hp74 => ?_)
          obtain ⟨rfl, g2, hg, e1, e2, e3⟩ := hp74
          have n74 := n68.cat hg
          have l74 : s ∈ L74 := hg.2.2 _ (in_sl l62)
          have t74 := (e3 s (in_sl l62) (ne_in nq68 l62)).trans ((hf68 s (ne_in nq68 l62)).trans hF64)
          refine z_pf_X7_buffer hZ dX7_init_77 fl_X7_36 rfl rfl (by assumption) (by assumption) (fun F77 hF77 hf77 => ?_)
          exact z_vret hZ rfl (Nat.le_of_ble_eq_true rfl) (Nat.le_of_ble_eq_true rfl) dX7_init_80 (by
            have k2 : ∀ b, b ∈ L2 → b ≠ s → F77 b = F2 b := fun b hb hn2 => (hf77 b hn2).trans ((e3 b (in_sl (in_sl hb)) (ne_in nq68 (in_sl hb))).trans ((hf68 b (ne_in nq68 (in_sl hb))).trans ((hf64 b hn2).trans (hf62 b (ne_in nq62 hb)))))
            obtain ⟨G, hG⟩ : ∃ G, G = gc (gp (gp g (203 + 25 * 2) q62) (203 + 25 * 2 + 1) q68) (203 + 25 * 2 + 1 + 1) g2 := ⟨_, rfl⟩
            have a1 : ∀ x, x < 253 → G x = g x := fun x hx => by rw [hG, gc_l (by omega), gp_l (by omega), gp_l (by omega)]
            have a2 : G 253 = q62 := by rw [hG, gc_l (by omega), gp_l (by omega)]; exact gp_m
            have a3 : G 254 = q68 := by rw [hG, gc_l (by omega)]; exact gp_m
            have a4 : G 255 = g2 0 := by rw [hG]; exact gc_r (m := 203 + 25 * 2 + 1 + 1) (i := 0)
            rw [← hG] at n74
            have n74 : nw L L74 G 256 := n74
            have k3 : ∀ x, x < 253 → F77 (G x) = F2 (g x) := fun x hx => by rw [a1 x hx]; exact k2 _ (hn.1 x (by omega)).2 (Ne.symm (hn.old (by omega) hs))
            have u2 : ∀ b, b ∈ L2 → b ∈ L74 := fun b hb => hg.2.2 _ (in_sl (in_sl hb))
            have m62 : q62 ∈ L2 ++ [q62] := in_sn
            have d62 := ne_in nq62 l1
            have d68 := ne_in nq68 l62
            have dg := hg.old (i := 0) (by omega) (in_sl l62)
            have st : ∀ (a : Nat), a + 25 ≤ 253 → stP L2 F2 (fun c => g (a + c)) vI 0 → stP L74 F77 (fun c => G (a + c)) vI 0 := fun a ha h => ((h.mv (fun x hx => k2 _ (hn.1 _ (by omega)).2 (Ne.symm (hn.old (by omega) hs)))).up u2).sg (fun x hx => a1 _ (by omega))
            refine ⟨rfl, fun i => if i = 0 then s else G (i - 1), rfl, n74.cg (fun i hi => rfl), ⟨_, rfl, ⟨fun i hi => ?_, fun i j hi hj e => ?_⟩, ?_, ⟨?_, by omega, by omega, by omega, by omega⟩, ⟨r, ?_, fun j hj => ?_⟩, ⟨r2, ?_, fun j hj => ?_⟩, ⟨?_, Or.inl rfl, Or.inl rfl⟩, ?_, fun k hk => ?_⟩, fun b hb hb2 => (k2 b (hn.2.2 b hb) hb2).trans (h10 b hb hb2)⟩
            · by_cases c : i = 0
              · subst c; exact l74
              · simp only [if_neg c]; exact (n74.1 _ (by omega)).2
            · by_cases c : i = 0
              · by_cases c2 : j = 0
                · omega
                · simp only [if_neg c2, if_pos c] at e; exact absurd e (n74.old (by omega) hs)
              · by_cases c2 : j = 0
                · simp only [if_neg c, if_pos c2] at e; exact absurd e.symm (n74.old (by omega) hs)
                · simp only [if_neg c, if_neg c2] at e; have := n74.2.1 _ _ (by omega) (by omega) e; omega
            · show F77 s = eO 7 [.ref (G 0), .ref (G 25), .ref (G 202), .ref (G 253), .ref (G 254)]
              rw [a1 0 (by omega), a1 25 (by omega), a1 202 (by omega), a2, a3]; exact hF77
            · show F77 (G 25) = eO 2 [.ref (G 26), .int (iI 0), .int (iI 0)]
              rw [k3 25 (by omega), a1 26 (by omega)]; exact h2
            · show F77 (G 26) = _
              rw [k3 26 (by omega)]; exact h3
            · simp only [if_neg (show ¬ 28 + 25 * j = 0 by omega)]
              rw [show 28 + 25 * j - 1 = 27 + 25 * j by omega, a1 _ (by omega)]; exact h4 j hj
            · show F77 (G 202) = _
              rw [k3 202 (by omega)]; exact h5
            · simp only [if_neg (show ¬ 204 + 25 * j = 0 by omega)]
              rw [show 204 + 25 * j - 1 = 203 + 25 * j by omega, a1 _ (by omega)]; exact h6 j hj
            · show F77 (G 253) = _
              rw [a2]; exact (hf77 _ (Ne.symm d62)).trans ((e3 _ (in_sl m62) (ne_in nq68 m62)).trans ((hf68 _ (ne_in nq68 m62)).trans ((hf64 _ (Ne.symm d62)).trans hF62)))
            · show tx L74 F77 (G 254) (G 255) 60 0 (fun _ => 0)
              refine tx_new (n74.1 254 (by omega)).2 (n74.1 255 (by omega)).2 (n74.ne (by omega) (by omega) (by omega)) (by omega) ?_ ?_
              · rw [a3, a4]; exact (hf77 _ (Ne.symm d68)).trans e1
              · rw [a4]; exact (hf77 _ (Ne.symm dg)).trans e2
            · by_cases c0 : k = 0
              · subst c0
                exact (st 0 (by omega) (h7.sg (fun i _ => congrArg g (by omega)))).sg (fun x hx => by show (if 1 + x = 0 then s else G (1 + x - 1)) = _; rw [if_neg (by omega)]; congr 1; omega)
              · by_cases c8 : k < 8
                · exact (st (27 + 25 * (k - 1)) (by omega) (h8 (k - 1) (by omega))).sg (fun x hx => by show (if sB k + x = 0 then s else G (sB k + x - 1)) = _; unfold sB; rw [if_neg c0, if_pos c8, if_neg (by omega)]; congr 1; omega)
                · exact (st (203 + 25 * (k - 8)) (by omega) (h9 (k - 8) (by omega))).sg (fun x hx => by show (if sB k + x = 0 then s else G (sB k + x - 1)) = _; unfold sB; rw [if_neg c0, if_neg c8, if_neg (by omega)]; congr 1; omega))
        · exfalso; omega
      | succ m ih =>
        intro i L2 F2 g r r2 hm hi hn h1 h2 h3 h4 h5 h6 h7 h8 h9 h10
        have l1 : s ∈ L2 := hn.2.2 _ hs
        have l2 := (hn.1 202 (by omega)).2
        refine z_iload_n1 hZ dX7_init_36 ?_
        refine z_iconst hZ dX7_init_37 ?_
        refine z_icmp_ge hZ (tgt := 60) dX7_init_38 rfl (by omega) (fun hc38 => ?_) (fun hc38 => ?_)
        · exfalso; omega
        · refine z_aload_n0 hZ dX7_init_41 ?_
          refine z_gf_X7_slots hZ dX7_init_42 fl_X7_23 (by assumption) (by assumption) ?_
          refine z_iload_n1 hZ dX7_init_45 ?_
          refine z_new_X5 hZ dX7_init_46 cl_X7_7 (⟨by show 203 + 25 * i + 1 ≤ 256; omega, by show 14780 + 1846 * i + 4 ≤ 18536; omega⟩) (fun q46 F46 nq46 hF46 hf46 => ?_)
          refine z_dup hZ dX7_init_49 rfl ?_
          refine z_cIN hZ (As := []) rfl dX7_init_50 ns_X7_9 wy_X5_init (m_X5_init l in_sn hF46) ⟨Nat.le_of_ble_eq_true rfl, Nat.le_of_ble_eq_true rfl⟩ (⟨by show 203 + 25 * i + 1 + 24 ≤ 256; omega, by show 14780 + 1846 * i + 4 + 1842 ≤ 18536; omega⟩) (Nat.le_of_ble_eq_true rfl) (fun _ _ _ h => h.elim) (fun v50 L50 G50 hp50 => ?_)
          obtain ⟨rfl, sa, z0, z1, z2, z3⟩ := hp50
          have ns := nw_st nq46 z0 z1
          have hk : ∀ b, b ∈ L2 → G50 b = F2 b := fun b hb => (z3 b (in_sl hb) (ne_in nq46 hb)).trans (hf46 b (ne_in nq46 hb))
          have l3 : g 202 ∈ L50 := z1.2.2 _ (in_sl l2)
          have l4 : q46 ∈ L50 := z1.2.2 _ in_sn
          have f3 : G50 (g 202) = eQ 3 2 r2 := (hk _ l2).trans h5
          obtain ⟨w4, f4⟩ : ∃ w4, G50 q46 = eO 5 w4 := by obtain ⟨_, _, _, _, _, _, hO⟩ := z2; rw [← z0]; exact ⟨_, hO.2.2.2.2.2.1⟩
          refine z_aastore_State hZ dX7_init_53 (by assumption) (by assumption) (⟨by omega, by omega, by omega⟩) (by assumption) (by assumption) (fun F53 hF53 hf53 => ?_)
          refine z_iinc1 hZ dX7_init_54 (by decide) rfl ?_
          refine z_goto hZ (tgt := 36) dX7_init_57 rfl ?_
          have nn := hn.cat ns
          have hk2 : ∀ b, b ∈ L2 → b ≠ g 202 → F53 b = F2 b := fun b hb hb2 => (hf53 b hb2).trans (hk b hb)
          have a1 : ∀ x, x < 203 + 25 * i → gc g (203 + 25 * i) sa x = g x := fun x hx => gc_l hx
          have a2 : ∀ c, gc g (203 + 25 * i) sa (203 + 25 * i + c) = sa c := fun c => gc_r
          have hk3 : ∀ x, x < 203 + 25 * i → x ≠ 202 → F53 (g x) = F2 (g x) := fun x hx hx2 => hk2 _ (hn.1 x hx).2 (hn.ne hx (by omega) hx2)
          have st : ∀ (a : Nat), a + 25 ≤ 203 + 25 * i → (a + 25 ≤ 202 ∨ 203 ≤ a) → stP L2 F2 (fun c => g (a + c)) vI 0 → stP L50 F53 (fun c => gc g (203 + 25 * i) sa (a + c)) vI 0 := fun a ha ha2 h => ((h.mv (fun x hx => hk3 _ (by omega) (by omega))).up ns.2.2).sg (fun x hx => a1 _ (by omega))
          have hz := ih (i + 1) _ F53 _ r (wu r2 i (some q46)) (by omega) (by omega) nn (by rw [a1 0 (by omega), a1 25 (by omega), a1 202 (by omega)]; exact (hk2 _ l1 (hn.old (by omega) hs)).trans h1) (by rw [a1 25 (by omega), a1 26 (by omega)]; exact (hk3 25 (by omega) (by omega)).trans h2) (by rw [a1 26 (by omega)]; exact (hk3 26 (by omega) (by omega)).trans h3) (fun j hj => by rw [a1 _ (by omega)]; exact h4 j hj) (by rw [a1 202 (by omega)]; exact hF53) ?_ ((st 0 (by omega) (by omega) (h7.sg (fun i _ => congrArg g (by omega)))).sg (fun i _ => congrArg _ (by omega))) (fun j hj => st _ (by omega) (by omega) (h8 j hj)) ?_ (fun b hb hb2 => (hk2 b (hn.2.2 b hb) (hn.old (by omega) hb)).trans (h10 b hb hb2))
          · rw [show 203 + 25 * (i + 1) = 203 + 25 * i + 1 + 24 by omega, show 14780 + 1846 * (i + 1) = 14780 + 1846 * i + 4 + 1842 by omega] at hz; exact hz
          · intro j hj
            by_cases c : j = i
            · subst c; rw [wu_s]; exact congrArg some ((a2 0).trans z0).symm
            · rw [wu_n (by omega), a1 _ (by omega)]; exact h6 j (by omega)
          · intro j hj
            by_cases c : j = i
            · subst c
              exact (z2.mv (fun x hx => hf53 _ (Ne.symm (ns.old hx l2)))).sg (fun x hx => a2 x)
            · exact st _ (by omega) (by omega) (h9 j (by omega))
    refine z_aload_n0 hZ dX7_init_0 ?_
    refine z_objInit hZ dX7_init_1 ml_X7_1 (Nat.le_of_ble_eq_true rfl) (Nat.le_of_ble_eq_true rfl) (Nat.le_of_ble_eq_true rfl) ?_
    refine z_aload_n0 hZ dX7_init_4 ?_
    refine z_new_X5 hZ dX7_init_5 cl_X7_7 (⟨Nat.le_of_ble_eq_true rfl, Nat.le_of_ble_eq_true rfl⟩) (fun q5 F5 nq5 hF5 hf5 => ?_)
    refine z_dup hZ dX7_init_8 rfl ?_
    refine z_cIN hZ (As := []) rfl dX7_init_9 ns_X7_9 wy_X5_init (m_X5_init l in_sn hF5) ⟨Nat.le_of_ble_eq_true rfl, Nat.le_of_ble_eq_true rfl⟩ ⟨Nat.le_of_ble_eq_true rfl, Nat.le_of_ble_eq_true rfl⟩ (Nat.le_of_ble_eq_true rfl) (fun _ _ _ h => h.elim) (fun v9 L9 G9 hp9 => ?_)
    obtain ⟨rfl, sa, z0, z1, z2, z3⟩ := hp9
    have n9 := nw_st nq5 z0 z1
    have l9 : s ∈ L9 := z1.2.2 _ (in_sl hs)
    have t9 : G9 s = eO 7 [v0, v1, v2, v3, v4] := (z3 s (in_sl hs) (ne_in nq5 hs)).trans ((hf5 s (ne_in nq5 hs)).trans t)
    refine z_pf_X7_now hZ dX7_init_12 fl_X7_10 rfl rfl (by assumption) (by assumption) (fun F12 hF12 hf12 => ?_)
    refine z_aload_n0 hZ dX7_init_15 ?_
    refine z_new_X2 hZ dX7_init_16 cl_X7_16 (⟨Nat.le_of_ble_eq_true rfl, Nat.le_of_ble_eq_true rfl⟩) (fun q16 F16 nq16 hF16 hf16 => ?_)
    have n15 := n9.push nq16
    refine z_dup hZ dX7_init_19 rfl ?_
    refine z_cI hZ (As := []) rfl dX7_init_20 ml_X7_18 wy_X2_init (m_X2_init l in_sn hF16) ⟨Nat.le_of_ble_eq_true rfl, Nat.le_of_ble_eq_true rfl⟩ ⟨Nat.le_of_ble_eq_true rfl, Nat.le_of_ble_eq_true rfl⟩ (Nat.le_of_ble_eq_true rfl) (fun _ _ _ h => h.elim) (fun v20 L20 G20 hp20 => ?_)
    obtain ⟨rfl, g2, r, hg2, e1, e2, e3, e4, e5⟩ := hp20
    have n19 := n15.cat hg2
    have l19 : s ∈ L20 := hg2.2.2 _ (in_sl l9)
    have t19 : G20 s = eO 7 [.ref q5, v1, v2, v3, v4] := (e5 s (in_sl l9) (ne_in nq16 l9)).trans ((hf16 s (ne_in nq16 l9)).trans hF12)
    refine z_pf_X7_history hZ dX7_init_23 fl_X7_19 rfl rfl (by assumption) (by assumption) (fun F23 hF23 hf23 => ?_)
    refine z_aload_n0 hZ dX7_init_26 ?_
    refine z_iconst hZ dX7_init_27 ?_
    refine z_newarrQ hZ (N := 2) dX7_init_28 (Or.inl ⟨rfl, rfl⟩) cl_X7_7 (by decide) (⟨Nat.le_of_ble_eq_true rfl, Nat.le_of_ble_eq_true rfl⟩) (fun q28 F28 nq28 hF28 hf28 => ?_)
    have n28 := n19.push nq28
    have l28 : s ∈ L20 ++ [q28] := in_sl l19
    have t28 := (hf28 s (ne_in nq28 l19)).trans hF23
    refine z_pf_X7_slots hZ dX7_init_31 fl_X7_23 rfl rfl (by assumption) (by assumption) (fun F31 hF31 hf31 => ?_)
    refine z_iconst hZ dX7_init_34 ?_
    refine z_istore_n1 hZ dX7_init_35 (by decide) rfl ?_
    obtain ⟨G, hG⟩ : ∃ G, G = gp (gc (gp sa 25 q16) (25 + 1) g2) (25 + 1 + 176) q28 := ⟨_, rfl⟩
    have a0 : ∀ x, x < 25 → G x = sa x := fun x hx => by rw [hG, gp_l (by omega), gc_l (by omega), gp_l (by omega)]
    have a1 : G 25 = q16 := by rw [hG, gp_l (by omega), gc_l (by omega)]; exact gp_m
    have a2 : ∀ x, x < 176 → G (26 + x) = g2 x := fun x hx => by rw [hG, gp_l (by omega)]; exact gc_r (m := 25 + 1)
    have a3 : G 202 = q28 := by rw [hG]; exact gp_m (m := 202)
    rw [← hG] at n28
    have k2 : ∀ b, b ∈ L20 → b ≠ s → F31 b = G20 b := fun b hb hn => (hf31 b hn).trans ((hf28 b (ne_in nq28 hb)).trans (hf23 b hn))
    have k1 : ∀ b, b ∈ L9 → b ≠ s → F31 b = G9 b := fun b hb hn => (k2 b (hg2.2.2 b (in_sl hb)) hn).trans ((e5 b (in_sl hb) (ne_in nq16 hb)).trans ((hf16 b (ne_in nq16 hb)).trans (hf12 b hn)))
    have i15 := hg2.2.2 _ (in_sn (L := L9) (q := q16))
    have d15 := ne_in nq16 l9
    have d28 := ne_in nq28 l19
    have g26 := a2 0 (by omega)
    refine loop 2 0 _ F31 G r (fun _ => none) rfl (by omega) n28 (by rw [a0 0 (by omega), a1, a3, z0]; exact hF31) (by rw [a1, g26]; exact (k2 _ i15 (Ne.symm d15)).trans e1) (by rw [g26]; exact (k2 _ (hg2.1 0 (by omega)).2 (Ne.symm (hg2.old (by omega) (in_sl l9)))).trans e2) (fun j hj => by rw [show 27 + 25 * j = 26 + (1 + 25 * j) by omega, a2 _ (by omega)]; exact e3 j hj) (by rw [a3]; exact (hf31 _ (Ne.symm d28)).trans hF28) (fun j h => absurd h (Nat.not_lt_zero j)) ?_ (fun j hj => ?_) (fun j h => absurd h (Nat.not_lt_zero j)) (fun b hb hb2 => ?_)
    · exact ((z2.mv (fun x hx => k1 _ (n9.1 x hx).2 (Ne.symm (n9.old hx hs)))).up (fun b hb => in_sl (hg2.2.2 b (in_sl hb)))).sg a0
    · exact (((e4 j hj).mv (fun x hx => k2 _ (hg2.1 _ (by omega)).2 (Ne.symm (hg2.old (by omega) (in_sl l9))))).up (fun b hb => in_sl hb)).sg (fun x hx => by rw [show 27 + 25 * j + x = 26 + (1 + 25 * j + x) by omega, a2 _ (by omega)])
    · exact (k1 b (z1.2.2 b (in_sl hb)) hb2).trans ((z3 b (in_sl hb) (ne_in nq5 hb)).trans (hf5 b (ne_in nq5 hb)))
  exact hgo

