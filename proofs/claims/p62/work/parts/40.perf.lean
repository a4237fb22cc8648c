/-! PERFORMING. -/
set_option maxRecDepth 100000 in
set_option maxHeartbeats 4000000 in
theorem m_X7_perform (l : Launch) {L : List Nat} {F : Nat → PE} {K : Nat → Nat} {v : Int → Int} {kd sv n : Int} {H Q : Int → Int → Int} {kp bf : Int → Int} (hfl : l.flags = flags0) (t : dr L F K v kd sv H kp Q n bf) : PM l yX7_perform cX7_perform 2 (some .int) (rm 9 1 6) L [.ref (K 0)] F (fun v9 L1 F1 => ((0 < n ∧ sgR bf n.toNat = 0) ∧ ∃ v1 k1 c, rnF bf n n.toNat 0 v kd 0 = some (v1, k1, c) ∧ v9 = some (.int (iI c)) ∧ L = L1 ∧ dr L1 F1 K v1 k1 (hN sv) (hS sv H v) kp Q 0 bf)) (fun E L1 F1 => ((E = xA ∧ ¬ (0 < n ∧ sgR bf n.toNat = 0)) ∨ (E = xS ∧ (0 < n ∧ sgR bf n.toNat = 0) ∧ rnF bf n n.toNat 0 v kd 0 = none)) ∧ L = L1 ∧ dr L1 F1 K v kd sv H kp Q n bf) := by
  refine pm_of cd_X7_perform (by decide +kernel) (Nat.le_of_ble_eq_true rfl) (fun ZZ hZ => ?_)
  have hgo : ZZ 0 0 0 [some (.ref (K 0)), none] [] L F := by
    obtain ⟨fi, W, D, hb, hl, hk⟩ := t
    have l0 := hb.1.1 0 (by omega)
    have h0 := hb.2.1
    have l1 := hb.1.1 1 (by omega)
    have l26 := hb.1.1 26 (by omega)
    have l255 := hb.1.1 255 (by omega)
    have h26 := hb.2.2.1.1
    have rr := ro_rg (i := fi + sv)
    have kk := hl.prep hb.2.2.1.2
    have k52a : ∀ (a : Int) (G : Nat → PE) (v1 : Int → Int) (k1 : Int), 0 ≤ a → a ≤ 1000 → rnF bf n n.toNat 0 v kd 0 = some (v1, k1, a) → (0 < n ∧ sgR bf n.toNat = 0) → db L G K fi sv kp n bf (un (un W (ro (fi + sv)) (W 0)) 0 v1) (un (un D (ro (fi + sv)) (D 0)) 0 k1) → ZZ 0 0 52 [some (.ref (K 0)), some (.int (iI a))] [] L G := by
      intro a G v1 k1 a0 a1 hr hT b
      have h0 := b.2.1
      refine z_aload_n0 hZ dX7_perform_52 ?_
      refine z_iload_n1 hZ dX7_perform_53 ?_
      refine z_cV hZ (As := [_]) rfl dX7_perform_54 ml_X7_55 wy_X7_settled (m_X7_settled l hfl (by omega) (fun _ => b)) (by assumption) (by assumption) rfl ⟨Nat.le_of_ble_eq_true rfl, Nat.le_of_ble_eq_true rfl⟩ ⟨Nat.le_of_ble_eq_true rfl, Nat.le_of_ble_eq_true rfl⟩ (Nat.le_of_ble_eq_true rfl) (fun _ _ _ h => absurd h.2.1 (by omega)) (fun v54 L54 G54 hp54 => ?_)
      obtain ⟨rfl, hne, rfl, t54⟩ := hp54
      have h0 := t54.2.1
      have ht := t54.2.2.2.2.2.2.1
      have h255 := ht.2.1
      refine z_pop hZ dX7_perform_57 rfl ?_
      refine z_aload_n0 hZ dX7_perform_58 ?_
      refine z_gf_X7_buffer hZ dX7_perform_59 fl_X7_36 (by assumption) (by assumption) ?_
      refine z_cV hZ (As := []) rfl dX7_perform_62 ml_X7_157 wy_X6_empty (m_X6_empty l ht) (by assumption) (by assumption) rfl ⟨Nat.le_of_ble_eq_true rfl, Nat.le_of_ble_eq_true rfl⟩ ⟨Nat.le_of_ble_eq_true rfl, Nat.le_of_ble_eq_true rfl⟩ (Nat.le_of_ble_eq_true rfl) (fun _ _ _ h => h.elim) (fun v62 L62 G62 hp62 => ?_)
      obtain ⟨rfl, rfl, t62, f62⟩ := hp62
      refine z_iload_n1 hZ dX7_perform_65 ?_
      exact z_iret hZ rfl (Nat.le_of_ble_eq_true rfl) (Nat.le_of_ble_eq_true rfl) dX7_perform_66 (by exact ⟨hT, v1, k1, a, hr, rfl, rfl, _, _, _, t54.bu t62 f62, lk.save (lk.op kk) hb.2.2.1.2, un_s⟩)
    have k52b : ∀ (G : Nat → PE), rnF bf n n.toNat 0 v kd 0 = none → (0 < n ∧ sgR bf n.toNat = 0) → db L G K fi sv kp n bf (un (un W (ro (fi + sv)) (W 0)) 0 v) (un (un D (ro (fi + sv)) (D 0)) 0 kd) → ZZ 0 0 52 [some (.ref (K 0)), some (.int (iI (-1)))] [] L G := by
      intro G hr hT b
      have h0 := b.2.1
      refine z_aload_n0 hZ dX7_perform_52 ?_
      refine z_iload_n1 hZ dX7_perform_53 ?_
      refine z_cV hZ (As := [_]) rfl dX7_perform_54 ml_X7_55 wy_X7_settled (m_X7_settled l hfl (by omega) (fun _ => b)) (by assumption) (by assumption) rfl ⟨Nat.le_of_ble_eq_true rfl, Nat.le_of_ble_eq_true rfl⟩ ⟨Nat.le_of_ble_eq_true rfl, Nat.le_of_ble_eq_true rfl⟩ (Nat.le_of_ble_eq_true rfl) (fun _ _ _ h => by obtain ⟨rfl, he, rfl, rfl⟩ := h; exact ⟨Or.inr ⟨rfl, hT, hr⟩, rfl, fi, _, _, b, (lk.op kk).1, un_s⟩) (fun v54 L54 G54 hp54 => ?_)
      obtain ⟨rfl, hne, rfl, t54⟩ := hp54
      exact absurd rfl hne
    refine z_aload_n0 hZ dX7_perform_0 ?_
    refine z_cV hZ (As := []) rfl dX7_perform_1 ml_X7_167 wy_X7_tellsDeeds (m_X7_tellsDeeds l hb) (by assumption) (by assumption) rfl ⟨Nat.le_of_ble_eq_true rfl, Nat.le_of_ble_eq_true rfl⟩ ⟨Nat.le_of_ble_eq_true rfl, Nat.le_of_ble_eq_true rfl⟩ (Nat.le_of_ble_eq_true rfl) (fun _ _ _ h => h.elim) (fun v1 L1 G1 hp1 => ?_)
    obtain ⟨rfl, rfl, rfl⟩ := hp1
    refine z_if_ne_b hZ (tgt := 17) dX7_perform_4 rfl (fun hc4 => ?_) (fun hc4 => ?_)
    · have hT : 0 < n ∧ sgR bf n.toNat = 0 := by assumption
      refine z_aload_n0 hZ dX7_perform_17 ?_
      refine z_gf_X7_history hZ dX7_perform_18 fl_X7_19 (by assumption) (by assumption) ?_
      refine z_aload_n0 hZ dX7_perform_21 ?_
      refine z_gf_X7_now hZ dX7_perform_22 fl_X7_10 (by assumption) (by assumption) ?_
      refine z_cV hZ (As := [_]) rfl dX7_perform_25 ml_X7_47 wy_X2_prepare (m_X2_prepare l hb) (by assumption) (by assumption) rfl ⟨Nat.le_of_ble_eq_true rfl, Nat.le_of_ble_eq_true rfl⟩ ⟨Nat.le_of_ble_eq_true rfl, Nat.le_of_ble_eq_true rfl⟩ (Nat.le_of_ble_eq_true rfl) (fun _ _ _ h => h.elim) (fun v25 L25 G25 hp25 => ?_)
      obtain ⟨rfl, rfl, b8⟩ := hp25
      have e0 : un W (ro (fi + sv)) (W 0) 0 = v := by rw [un_n (by omega)]; exact hl.1
      have e1 : un D (ro (fi + sv)) (D 0) 0 = kd := by rw [un_n (by omega)]; exact hk
      have e2 : un D (ro (fi + sv)) (D 0) (ro (fi + sv)) = kd := un_s.trans hk
      have h0 := b8.2.1
      refine z_aload_n0 hZ dX7_perform_28 ?_
      refine z_cV hZ (As := []) rfl dX7_perform_29 ml_X7_173 wy_X7_deedsDone (m_X7_deedsDone l b8 hT.1 hT.2) (by assumption) (by assumption) rfl ⟨Nat.le_of_ble_eq_true rfl, Nat.le_of_ble_eq_true rfl⟩ ⟨Nat.le_of_ble_eq_true rfl, Nat.le_of_ble_eq_true rfl⟩ (Nat.le_of_ble_eq_true rfl) (fun _ _ _ h => h.elim) (fun v29 L29 G29 hp29 => ?_)
      obtain ⟨rfl, t29⟩ := hp29
      rw [e0, e1] at t29
      obtain ⟨v1, k1, a, hva, ha1, ha2, b29, hcs⟩ : ∃ v1 k1 a, v29 = some (.int (iI a)) ∧ -1 ≤ a ∧ a ≤ 1000 ∧ db L G29 K fi sv kp n bf (un (un W (ro (fi + sv)) (W 0)) 0 v1) (un (un D (ro (fi + sv)) (D 0)) 0 k1) ∧ ((0 ≤ a ∧ rnF bf n n.toNat 0 v kd 0 = some (v1, k1, a)) ∨ (a = -1 ∧ rnF bf n n.toNat 0 v kd 0 = none)) := by
        rcases t29 with ⟨v1, k1, c, q1, q2, q3, q4, q5⟩ | ⟨q1, q2, v1, k1, q5⟩
        · exact ⟨v1, k1, c, q2, by omega, q4, q5, Or.inl ⟨q3, q1⟩⟩
        · exact ⟨v1, k1, -1, q2, by omega, by omega, q5, Or.inr ⟨rfl, q1⟩⟩
      subst hva
      have h0 := b29.2.1
      have h26 := b29.2.2.1.1
      refine z_istore_n1 hZ dX7_perform_32 (by decide) rfl ?_
      refine z_iload_n1 hZ dX7_perform_33 ?_
      refine z_iconst hZ dX7_perform_34 ?_
      refine z_icmp_ne hZ (tgt := 52) dX7_perform_35 rfl (by omega) (fun hc35 => ?_) (fun hc35 => ?_)
      · first
          | exact k52a a _ v1 k1 (by omega) ha2 (hcs.resolve_right (fun z => by omega)).2 hT b29
          | (have z := hcs.resolve_left (fun z => by omega); rw [z.1]; exact k52b _ z.2 hT b49)
      · have hS1 := b29.2.2.2.2.2.2.2 0 (by omega)
        have hSp := b29.2.2.2.2.2.2.2 (ro (fi + sv)) (by omega)
        rw [un_n (show ro (fi + sv) ≠ 0 by omega), un_n (show ro (fi + sv) ≠ 0 by omega), kk.2, e2] at hSp
        have o1 : G29 (K 1) = _ := hS1.ob
        refine z_aload_n0 hZ dX7_perform_38 ?_
        refine z_gf_X7_now hZ dX7_perform_39 fl_X7_10 (by assumption) (by assumption) ?_
        refine z_aload_n0 hZ dX7_perform_42 ?_
        refine z_gf_X7_history hZ dX7_perform_43 fl_X7_19 (by assumption) (by assumption) ?_
        refine z_cV hZ (As := []) rfl dX7_perform_46 ml_X7_176 wy_X2_prepared (m_X2_prepared l b29) (by assumption) (by assumption) rfl ⟨Nat.le_of_ble_eq_true rfl, Nat.le_of_ble_eq_true rfl⟩ ⟨Nat.le_of_ble_eq_true rfl, Nat.le_of_ble_eq_true rfl⟩ (Nat.le_of_ble_eq_true rfl) (fun _ _ _ h => h.elim) (fun v46 L46 G46 hp46 => ?_)
        obtain ⟨rfl, rfl, rfl⟩ := hp46
        refine z_cV hZ (As := [_]) rfl dX7_perform_49 ml_X7_180 wy_X5_copyFrom (m_X5_copyFrom l (sa := sK K 0) (b29.ij (by omega)) (b29.L (by omega)) (b29.L (by omega)) (b29.apt (by omega) (by omega) (by omega)) hS1 hSp) (by assumption) (by assumption) rfl ⟨Nat.le_of_ble_eq_true rfl, Nat.le_of_ble_eq_true rfl⟩ ⟨Nat.le_of_ble_eq_true rfl, Nat.le_of_ble_eq_true rfl⟩ (Nat.le_of_ble_eq_true rfl) (fun _ _ _ h => h.elim) (fun v49 L49 G49 hp49 => ?_)
        obtain ⟨rfl, rfl, t49, f49⟩ := hp49
        have b49 := b29.st (k := 0) (by omega) t49 f49
        rw [un_un, un_un] at b49
        have h0 := b49.2.1
        first
          | exact k52a a _ v1 k1 (by omega) ha2 (hcs.resolve_right (fun z => by omega)).2 hT b29
          | (have z := hcs.resolve_left (fun z => by omega); rw [z.1]; exact k52b _ z.2 hT b49)
    · exact z_throw hZ hfl rfl (Or.inr ⟨rfl, rfl, rfl⟩) dX7_perform_7 dX7_perform_10 dX7_perform_11 dX7_perform_13 dX7_perform_16 cl_X7_40 in_Ax st_171 (Nat.le_of_ble_eq_true rfl) (Nat.le_of_ble_eq_true rfl) (Nat.le_of_ble_eq_true rfl) ⟨Nat.le_of_ble_eq_true rfl, Nat.le_of_ble_eq_true rfl⟩ (by exact ⟨Or.inl ⟨rfl, by assumption⟩, rfl, fi, W, D, hb, hl, hk⟩)
  exact hgo

