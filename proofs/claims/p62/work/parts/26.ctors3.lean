/-! CONSTRUCTORS, 3: a state, the history. -/
def vI : Int → Int := fun x => if x = 2 then -1 else if x = 5 then 5 else 0
theorem tx.up {L L1 : List Nat} {F : Nat → PE} {h c N : Nat} {n : Int} {f : Int → Int} (t : tx L F h c N n f) (u : ∀ b, b ∈ L → b ∈ L1) : tx L1 F h c N n f := ⟨⟨u _ t.1.1, u _ t.1.2.1, t.1.2.2⟩, t.2⟩
theorem sc.up {L L1 : List Nat} {F : Nat → PE} {s h c : Nat} {n p mk : Int} {f : Int → Int} (t : sc L F s h c n p mk f) (u : ∀ b, b ∈ L → b ∈ L1) : sc L1 F s h c n p mk f := ⟨⟨u _ t.1.1, t.1.2⟩, t.2.1, t.2.2.1.up u, t.2.2.2⟩
theorem rgQ.up {L L1 : List Nat} {F : Nat → PE} {sa : Nat → Nat} {π : Int → Nat} {m cv nx : Int} {hl : Int → Int} {hf : Int → Int → Int} (t : rgQ L F sa π m cv nx hl hf) (u : ∀ b, b ∈ L → b ∈ L1) : rgQ L1 F sa π m cv nx hl hf := ⟨t.1, t.2.1, t.2.2.1.up u, fun i h0 h1 => ⟨(t.2.2.2.1 i h0 h1).1, (t.2.2.2.1 i h0 h1).2.up u⟩, t.2.2.2.2⟩
theorem stP.up {L L1 : List Nat} {F : Nat → PE} {sa : Nat → Nat} {v : Int → Int} {kd : Int} (t : stP L F sa v kd) (u : ∀ b, b ∈ L → b ∈ L1) : stP L1 F sa v kd := by
  obtain ⟨π, hl, hf, w, r, tt, hS, hR, hh, hA, he, hO, hi⟩ := t
  exact ⟨π, hl, hf, w, r, tt, hS.up u, hR.up u, hh, hA, he, hO, hi⟩
theorem stP.sg {L : List Nat} {F : Nat → PE} {sa sb : Nat → Nat} {v : Int → Int} {kd : Int} (t : stP L F sa v kd) (e : ∀ i, i < 25 → sb i = sa i) : stP L F sb v kd := by
  obtain ⟨π, hl, hf, w, r, tt, hS, hR, hh, hA, he, hO, hi⟩ := t
  obtain ⟨r1, ⟨ρ, r2, r3⟩, r4, r5, r6⟩ := hR
  refine ⟨π, hl, hf, w, r, tt, ?_, ⟨?_, ⟨ρ, ?_, fun i i0 i1 => ?_⟩, ?_, fun i i0 i1 => ⟨(r5 i i0 i1).1, ?_⟩, r6⟩, hh, ?_, he, ?_, hi⟩
  · rw [e 1 (by omega), e 2 (by omega), e 3 (by omega)]; exact hS
  · rw [e 4 (by omega), e 5 (by omega), e 6 (by omega)]; exact r1
  · rw [e 5 (by omega)]; exact r2
  · rw [e _ (by have := (r5 i i0 i1).1; omega)]; exact r3 i i0 i1
  · rw [e 6 (by omega), e 7 (by omega)]; exact r4
  · rw [e _ (by have := (r5 i i0 i1).1; omega), e _ (by have := (r5 i i0 i1).1; omega)]; exact (r5 i i0 i1).2
  · rw [e 8 (by omega)]; exact hA
  · rw [e 0 (by omega), e 1 (by omega), e 4 (by omega), e 8 (by omega)]; exact hO
theorem tx_new {L : List Nat} {F : Nat → PE} {h c N : Nat} {f : Int → Int} (h1 : h ∈ L) (h2 : c ∈ L) (h3 : h ≠ c) (h4 : N ≤ 200) (h5 : F h = eO 6 [.ref c, .int (iI 0)]) (h6 : F c = eI 0 N (fun _ => 0)) : tx L F h c N 0 f :=
  ⟨⟨h1, h2, h3, h4⟩, h5, ⟨_, h6, fun k k0 k1 => by omega⟩, ⟨by omega, by omega⟩, fun k k0 k1 => by omega⟩
def ixS (i : Nat) : Nat := if i < 8 then i - 1 else if i = 8 then 23 else if i < 17 then 7 + 2 * (i - 9) else 8 + 2 * (i - 17)
theorem iv_I : iv vI 0 := ⟨fun i i0 i1 => by have : vI 3 = 0 := rfl; omega, fun _ => rfl, fun h => by have : vI 3 = 0 := rfl; omega, by omega, fun h => by omega, fun h => by omega⟩
theorem st_mk {L L1 : List Nat} {F1 : Nat → PE} {G : Nat → Nat} {s : Nat} {r : Int → Option Nat} (hs : s ∈ L) (n : nw L L1 G 24) (h0 : F1 s = eO 5 [.ref (G 0), .ref (G 3), .ref (G 23), .int (iI 0)]) (h1 : F1 (G 0) = eO 4 [.ref (G 1), .int (iI 0), .int (iI (-1))]) (h2 : F1 (G 1) = eO 6 [.ref (G 2), .int (iI 0)]) (h3 : F1 (G 2) = eI 0 200 (fun _ => 0))
    (h4 : F1 (G 3) = eO 3 [.ref (G 4), .ref (G 5), .int (iI 0), .int (iI 5), .int (iI (-1))]) (h5 : F1 (G 4) = eQ 4 8 r) (h5r : ∀ j : Nat, j < 8 → r (j : Int) = some (G (7 + 2 * j))) (h6 : F1 (G 5) = eO 6 [.ref (G 6), .int (iI 0)]) (h7 : F1 (G 6) = eI 0 0 (fun _ => 0))
    (h9 : ∀ j : Nat, j < 8 → F1 (G (7 + 2 * j)) = eO 6 [.ref (G (8 + 2 * j)), .int (iI 0)] ∧ F1 (G (8 + 2 * j)) = eI 0 200 (fun _ => 0)) (hA : F1 (G 23) = eO 0 [.int (iI 0), .int (iI 0), .int (iI 0), .int (iI 0), .int (iI 0), .int (iI 0)]) :
    ∃ sa : Nat → Nat, sa 0 = s ∧ nw L L1 (fun i => sa (i + 1)) 24 ∧ stP L1 F1 sa vI 0 := by
  have gi := fun i hi => (n.1 i hi).2
  have e9 : ∀ k : Nat, k < 8 → ixS (9 + k) = 7 + 2 * k := fun k hk => by unfold ixS; rw [if_neg (by omega), if_neg (by omega), if_pos (by omega)]; omega
  have e17 : ∀ k : Nat, k < 8 → ixS (17 + k) = 8 + 2 * k := fun k hk => by unfold ixS; rw [if_neg (by omega), if_neg (by omega), if_neg (by omega)]; omega
  have lt : ∀ i, i < 25 → 0 < i → ixS i < 24 := fun i hi h0 => by unfold ixS; (repeat' split) <;> omega
  have inj : ∀ i j, i < 25 → j < 25 → 0 < i → 0 < j → ixS i = ixS j → i = j := by
    intro i j hi hj h0 h1 e
    unfold ixS at e
    repeat' split at e
    all_goals omega
  refine ⟨fun i => if i = 0 then s else G (ixS i), rfl, ⟨fun i hi => ?_, fun i j hi hj e => ?_, n.2.2⟩, fun i => i.toNat, fun _ => 0, fun _ _ => 0, 0, 0, 0, ?_, ⟨?_, ⟨r, ?_, fun i i0 i1 => ?_⟩, ?_, fun i i0 i1 => ⟨by show i.toNat < 8; omega, ?_⟩, fun i j i0 i1 j0 j1 e => by have e2 : i.toNat = j.toNat := e; omega, ⟨by decide, by decide, by decide, by decide⟩, fun _ => rfl, fun h => absurd h (by decide)⟩, fun i i0 i1 => absurd i1 (by have : vI 3 = 0 := rfl; omega), hA, ⟨rfl, rfl⟩, h0, iv_I⟩
  · simp only [if_neg (Nat.succ_ne_zero i)]; exact n.1 _ (lt _ (by omega) (by omega))
  · simp only [if_neg (Nat.succ_ne_zero i), if_neg (Nat.succ_ne_zero j)] at e
    have := inj _ _ (by omega) (by omega) (by omega) (by omega) (n.2.1 _ _ (lt _ (by omega) (by omega)) (lt _ (by omega) (by omega)) e)
    omega
  · show sc L1 F1 (G 0) (G 1) (G 2) 0 0 (-1) (fT vI)
    exact ⟨⟨gi 0 (by omega), n.ne (by omega) (by omega) (by omega), n.ne (by omega) (by omega) (by omega)⟩, h1, tx_new (gi 1 (by omega)) (gi 2 (by omega)) (n.ne (by omega) (by omega) (by omega)) (by omega) h2 h3, ⟨by decide, by decide⟩, by decide, by decide⟩
  · exact h4
  · exact h5
  · obtain ⟨k, rfl⟩ := Int.eq_ofNat_of_zero_le i0
    show r (k : Int) = some (if 9 + (k : Int).toNat = 0 then s else G (ixS (9 + (k : Int).toNat)))
    rw [show (k : Int).toNat = k from rfl, if_neg (by omega), e9 k (by omega)]
    exact h5r k (by omega)
  · show tx L1 F1 (G 5) (G 6) 0 0 (fun _ => 0)
    exact tx_new (gi 5 (by omega)) (gi 6 (by omega)) (n.ne (by omega) (by omega) (by omega)) (by omega) h6 h7
  · obtain ⟨k, rfl⟩ := Int.eq_ofNat_of_zero_le i0
    show tx L1 F1 (if 9 + (k : Int).toNat = 0 then s else G (ixS (9 + (k : Int).toNat))) (if 17 + (k : Int).toNat = 0 then s else G (ixS (17 + (k : Int).toNat))) 200 0 (fun _ => 0)
    rw [show (k : Int).toNat = k from rfl, if_neg (by omega), if_neg (by omega), e9 k (by omega), e17 k (by omega)]
    exact tx_new (gi _ (by omega)) (gi _ (by omega)) (n.ne (by omega) (by omega) (by omega)) (by omega) (h9 k (by omega)).1 (h9 k (by omega)).2
theorem nw_st {L L1 : List Nat} {sa : Nat → Nat} {q : Nat} (hq : q ∉ L) (h0 : sa 0 = q) (hn : nw (L ++ [q]) L1 (fun i => sa (i + 1)) 24) : nw L L1 sa 25 :=
  ((nw.zero (g := fun _ => 0)).push hq |>.cat hn).cg (fun i hi => by
    by_cases c : i = 0
    · subst c; rw [gc_l (by omega), gp_m]; exact h0
    · unfold gc; rw [if_neg (by omega)]; exact congrArg sa (by omega))
set_option maxRecDepth 100000 in
set_option maxHeartbeats 4000000 in
theorem m_X5_init (l : Launch) {L : List Nat} {F : Nat → PE} {s : Nat} {v0 v1 v2 v3 : Value} (hs : s ∈ L) (t : F s = eO 5 [v0, v1, v2, v3]) : PM l yX5_init cX5_init 1 none (rm 4 24 1842) L [.ref s] F (fun v9 L1 F1 => v9 = none ∧ ∃ sa : Nat → Nat, sa 0 = s ∧ nw L L1 (fun i => sa (i + 1)) 24 ∧ stP L1 F1 sa vI 0 ∧ ∀ b, b ∈ L → b ≠ s → F1 b = F b) (fun _ _ _ => False) := by
  refine pm_of cd_X5_init (by decide +kernel) (Nat.le_of_ble_eq_true rfl) (fun ZZ hZ => ?_)
  have hgo : ZZ 0 0 0 [some (.ref s)] [] L F := by
    refine z_aload_n0 hZ dX5_init_0 ?_
    refine z_objInit hZ dX5_init_1 ml_X5_3 (Nat.le_of_ble_eq_true rfl) (Nat.le_of_ble_eq_true rfl) (Nat.le_of_ble_eq_true rfl) ?_
    refine z_aload_n0 hZ dX5_init_4 ?_
    refine z_new_X4 hZ dX5_init_5 cl_X5_9 (⟨Nat.le_of_ble_eq_true rfl, Nat.le_of_ble_eq_true rfl⟩) (fun q5 F5 nq5 hF5 hf5 => ?_)
    have n5 := nw.zero (g := fun _ => 0).push nq5
    refine z_dup hZ dX5_init_8 rfl ?_
    refine z_cIN hZ (As := []) rfl dX5_init_9 ns_X5_11 wy_X4_init (m_X4_init l in_sn hF5) ⟨Nat.le_of_ble_eq_true rfl, Nat.le_of_ble_eq_true rfl⟩ ⟨Nat.le_of_ble_eq_true rfl, Nat.le_of_ble_eq_true rfl⟩ (Nat.le_of_ble_eq_true rfl) (fun _ _ _ h => h.elim) (fun v9 L9 G9 hp9 => ?_)
    obtain ⟨rfl, g1, hg1, e1, e2, e3, e4⟩ := hp9
    have n9 := n5.cat hg1
    have l9 : s ∈ L9 := hg1.2.2 _ (in_sl hs)
    have t9 : G9 s = eO 5 [v0, v1, v2, v3] := (e4 s (in_sl hs) (ne_in nq5 hs)).trans ((hf5 s (ne_in nq5 hs)).trans t)
    refine z_pf_X5_scroll hZ dX5_init_12 fl_X5_12 rfl rfl (by assumption) (by assumption) (fun F12 hF12 hf12 => ?_)
    refine z_aload_n0 hZ dX5_init_15 ?_
    refine z_new_X3 hZ dX5_init_16 cl_X5_18 (⟨Nat.le_of_ble_eq_true rfl, Nat.le_of_ble_eq_true rfl⟩) (fun q16 F16 nq16 hF16 hf16 => ?_)
    have n16 := n9.push nq16
    refine z_dup hZ dX5_init_19 rfl ?_
    refine z_cI hZ (As := []) rfl dX5_init_20 ml_X5_20 wy_X3_init (m_X3_init l in_sn hF16) ⟨Nat.le_of_ble_eq_true rfl, Nat.le_of_ble_eq_true rfl⟩ ⟨Nat.le_of_ble_eq_true rfl, Nat.le_of_ble_eq_true rfl⟩ (Nat.le_of_ble_eq_true rfl) (fun _ _ _ h => h.elim) (fun v20 L20 G20 hp20 => ?_)
    obtain ⟨rfl, g2, r2, hg2, a1, a2, a3, a4, a5, a6, a7⟩ := hp20
    have n20 := n16.cat hg2
    have l20 : s ∈ L20 := hg2.2.2 _ (in_sl l9)
    have t20 : G20 s = eO 5 [.ref q5, v1, v2, v3] := (a7 s (in_sl l9) (ne_in nq16 l9)).trans ((hf16 s (ne_in nq16 l9)).trans hF12)
    refine z_pf_X5_ring hZ dX5_init_23 fl_X5_21 rfl rfl (by assumption) (by assumption) (fun F23 hF23 hf23 => ?_)
    refine z_aload_n0 hZ dX5_init_26 ?_
    refine z_new_X0 hZ dX5_init_27 cl_X5_25 (⟨Nat.le_of_ble_eq_true rfl, Nat.le_of_ble_eq_true rfl⟩) (fun q27 F27 nq27 hF27 hf27 => ?_)
    have n27 := n20.push nq27
    refine z_dup hZ dX5_init_30 rfl ?_
    refine z_cIN hZ (As := []) rfl dX5_init_31 ns_X5_27 wy_X0_init (m_X0_init l) ⟨Nat.le_of_ble_eq_true rfl, Nat.le_of_ble_eq_true rfl⟩ ⟨Nat.le_of_ble_eq_true rfl, Nat.le_of_ble_eq_true rfl⟩ (Nat.le_of_ble_eq_true rfl) (fun _ _ _ h => h.elim) (fun v31 L31 G31 hp31 => ?_)
    obtain ⟨rfl, rfl, rfl⟩ := hp31
    have l27 : s ∈ L20 ++ [q27] := in_sl l20
    have t27 : F27 s = eO 5 [.ref q5, .ref q16, v2, v3] := (hf27 s (ne_in nq27 l20)).trans hF23
    refine z_pf_X5_accounts hZ dX5_init_34 fl_X5_28 rfl rfl (by assumption) (by assumption) (fun F34 hF34 hf34 => ?_)
    refine z_aload_n0 hZ dX5_init_37 ?_
    refine z_iconst hZ dX5_init_38 ?_
    refine z_pf_X5_kind hZ dX5_init_39 fl_X5_32 (by assumption) (by assumption) (fun F39 hF39 hf39 => ?_)
    exact z_vret hZ rfl (Nat.le_of_ble_eq_true rfl) (Nat.le_of_ble_eq_true rfl) dX5_init_42 (by
            have k42 : ∀ b, b ∈ L20 → b ≠ s → F39 b = G20 b := fun b hb hn => (hf39 b hn).trans ((hf34 b hn).trans ((hf27 b (ne_in nq27 hb)).trans (hf23 b hn)))
            have k20 : ∀ b, b ∈ L9 → b ≠ s → F39 b = G9 b := fun b hb hn => (k42 b (hg2.2.2 b (in_sl hb)) hn).trans ((a7 b (in_sl hb) (ne_in nq16 hb)).trans ((hf16 b (ne_in nq16 hb)).trans (hf12 b hn)))
            have i5 := hg1.2.2 _ (in_sn (L := L) (q := q5))
            have i16 := hg2.2.2 _ (in_sn (L := L9) (q := q16))
            have b0 : gp (gc (gp (gc (gp (fun _ => 0) 0 q5) 1 g1) 3 q16) 4 g2) 23 q27 0 = q5 := by rw [gp_l (by omega), gc_l (by omega), gp_l (by omega), gc_l (by omega), gp_m]
            have b1 : gp (gc (gp (gc (gp (fun _ => 0) 0 q5) 1 g1) 3 q16) 4 g2) 23 q27 1 = g1 0 := by rw [gp_l (by omega), gc_l (by omega), gp_l (by omega)]; exact gc_r (m := 1) (i := 0)
            have b2 : gp (gc (gp (gc (gp (fun _ => 0) 0 q5) 1 g1) 3 q16) 4 g2) 23 q27 2 = g1 1 := by rw [gp_l (by omega), gc_l (by omega), gp_l (by omega)]; exact gc_r (m := 1) (i := 1)
            have b3 : gp (gc (gp (gc (gp (fun _ => 0) 0 q5) 1 g1) 3 q16) 4 g2) 23 q27 3 = q16 := by rw [gp_l (by omega), gc_l (by omega), gp_m]
            have b4 : ∀ i, i < 19 → gp (gc (gp (gc (gp (fun _ => 0) 0 q5) 1 g1) 3 q16) 4 g2) 23 q27 (4 + i) = g2 i := fun i hi => by rw [gp_l (by omega)]; exact gc_r
            have b5 : gp (gc (gp (gc (gp (fun _ => 0) 0 q5) 1 g1) 3 q16) 4 g2) 23 q27 23 = q27 := gp_m
            have p2 : ∀ i, i < 19 → F39 (g2 i) = G20 (g2 i) := fun i hi => k42 _ (hg2.1 i hi).2 (Ne.symm (hg2.old hi (in_sl l9)))
            have p1 : ∀ i, i < 2 → F39 (g1 i) = G9 (g1 i) := fun i hi => k20 _ (hg1.1 i hi).2 (Ne.symm (hg1.old hi (in_sl hs)))
            have d5 := ne_in nq5 hs
            have d16 := ne_in nq16 l9
            have d27 := ne_in nq27 l20
            have u4 := b4 0 (by omega)
            have u5 := b4 1 (by omega)
            have u6 := b4 2 (by omega)
            obtain ⟨sa, z0, z1, z2⟩ := st_mk (F1 := F39) (r := r2) hs n27 (by rw [b0, b3, b5]; exact hF39) (by rw [b0, b1]; exact (k20 _ i5 (Ne.symm d5)).trans e1) (by rw [b1, b2]; exact (p1 0 (by omega)).trans e2) (by rw [b2]; exact (p1 1 (by omega)).trans e3)
              (by rw [b3, u4, u5]; exact (k42 _ i16 (Ne.symm d16)).trans a1) (by rw [u4]; exact (p2 0 (by omega)).trans a2) (fun j hj => by rw [show 7 + 2 * j = 4 + (3 + 2 * j) by omega, b4 _ (by omega)]; exact a3 j hj) (by rw [u5, u6]; exact (p2 1 (by omega)).trans a4) (by rw [u6]; exact (p2 2 (by omega)).trans a5)
              (fun j hj => by rw [show 7 + 2 * j = 4 + (3 + 2 * j) by omega, show 8 + 2 * j = 4 + (4 + 2 * j) by omega, b4 _ (by omega), b4 _ (by omega)]; exact ⟨(p2 _ (by omega)).trans (a6 j hj).1, (p2 _ (by omega)).trans (a6 j hj).2⟩) (by rw [b5]; exact (hf39 _ (Ne.symm d27)).trans ((hf34 _ (Ne.symm d27)).trans hF27))
            exact ⟨rfl, sa, z0, z1, z2, fun b hb hn => (k20 b (hg1.2.2 b (in_sl hb)) hn).trans ((e4 b (in_sl hb) (ne_in nq5 hb)).trans (hf5 b (ne_in nq5 hb)))⟩)
  exact hgo

