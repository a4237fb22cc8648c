/-! THE MODEL, 7: finding, the buffer, snapshots, undo. -/
theorem bQ.no1 {A B : Prop} {r : Int} {N : (Int → Int) → Int → Int} {L : List Nat} {F F1 : Nat → PE} {x a q c : Nat} {g : Int → Int} {sv kd n pt tm sg p1 p2 : Int} {kp bf : Int → Int} (h : p1 = 0) (e1 : ¬ A) (fr : fm x a q c F F1) (hA : mA L x a q c)
    (hF : F1 x = eO 8 [.ref a, .int (iI sv), .ref q, .int (iI (goV p1 p2 1)), .int (iI kd), .ref c, .int (iI n), .int (iI pt), .int (iI tm), .int (iI sg)]) (hg : F1 a = eI 0 18180 g) (hQ : F1 q = eI 1 2 kp) (hC : F1 c = eI 2 60 bf) : bQ A B r N L F x a q c g sv kd n pt tm sg kp bf (some (.int (iI 0))) L F1 := by
  rw [show goV p1 p2 1 = 1 from if_pos h] at hF
  exact ⟨rfl, fr, Or.inr (Or.inl ⟨e1, rfl, hA, hF, hg, hQ, hC⟩)⟩
set_option maxRecDepth 100000 in
set_option maxHeartbeats 4000000 in
theorem m_X8_isFoundAt (l : Launch) {L : List Nat} {F : Nat → PE} {x a q c : Nat} {g : Int → Int} {sv th kd n pt tm sg : Int} {kp bf : Int → Int} (o : mo L F x a q c g sv th kd n pt tm sg kp bf) (v : vf g kd) (hs : 0 ≤ sv ∧ sv ≤ 6) (hn : 0 ≤ n ∧ n ≤ 60) (hb : ∀ k, 0 ≤ k → k < n → 10 ≤ bf k ∧ bf k ≤ 126) {p : Int} (hp : 0 ≤ p ∧ p ≤ g 0) : PM l yX8_isFoundAt cX8_isFoundAt 4 (some .boolean) (rm 2 0 0) L [.ref x, .int (iI p)] F (fun v9 L1 F1 => v9 = some (.int (iI (b2 (stA (g 0) (fT g) n bf p)))) ∧ L = L1 ∧ F = F1) (fun _ _ _ => False) := by
  refine pm_of cd_X8_isFoundAt (by decide +kernel) (Nat.le_of_ble_eq_true rfl) (fun ZZ hZ => ?_)
  have hgo : ZZ 0 0 0 [some (.ref x), some (.int (iI p)), none, none] [] L F := by
    obtain ⟨A, hF, hg, hQ, hC⟩ := id o
    obtain ⟨⟨hx, ha, hqL, hcL⟩, hxa, hxq, hxc, haq, hac, hqc⟩ := id A
    have t := ms.of hx ha hxa hF hg
    have fr : fm x a q c F F := fm.rf
    have r := v.1
    have s23 : ∀ k : Int, ¬ stA (g 0) (fT g) n bf p → 0 ≤ k → k ≤ 100 → ZZ 0 0 23 [some (.ref x), some (.int (iI p)), some (.int (iI 0)), some (.int (iI k))] [] L F := by
      intro k hno k0 k1
      refine z_iload_n3 hZ dX8_isFoundAt_23 ?_
      refine z_aload_n0 hZ dX8_isFoundAt_24 ?_
      refine z_gf_X8_typed hZ dX8_isFoundAt_25 fl_X8_159 (by assumption) (by assumption) ?_
      refine z_icmp_ge hZ (tgt := 63) dX8_isFoundAt_28 rfl (by omega) (fun hc28 => ?_) (fun hc28 => ?_)
      · refine z_iload_n2 hZ dX8_isFoundAt_63 ?_
        exact z_zret hZ rfl (Nat.le_of_ble_eq_true rfl) (Nat.le_of_ble_eq_true rfl) dX8_isFoundAt_64 (by omega) (by exact ⟨pv (b2_f hno).symm, rfl, rfl⟩)
      · refine z_iload_n2 hZ dX8_isFoundAt_31 ?_
        refine z_if_eq hZ (tgt := 63) dX8_isFoundAt_32 rfl (by omega) (fun hc32 => ?_) (fun hc32 => ?_)
        · refine z_iload_n2 hZ dX8_isFoundAt_63 ?_
          exact z_zret hZ rfl (Nat.le_of_ble_eq_true rfl) (Nat.le_of_ble_eq_true rfl) dX8_isFoundAt_64 (by omega) (by exact ⟨pv (b2_f hno).symm, rfl, rfl⟩)
        · exfalso; omega
    have l1 : ∀ (m : Nat) (k : Int), (n - k).toNat = m → 0 ≤ k → k ≤ n → p + n ≤ g 0 → eqA (fT g) bf p k.toNat = true → ZZ 0 0 23 [some (.ref x), some (.int (iI p)), some (.int (iI 1)), some (.int (iI k))] [] L F := by
      intro m
      induction m with
      | zero =>
        intro k hm k0 k1 hp2 he
        have e : k = n := by omega
        subst e
        refine z_iload_n3 hZ dX8_isFoundAt_23 ?_
        refine z_aload_n0 hZ dX8_isFoundAt_24 ?_
        refine z_gf_X8_typed hZ dX8_isFoundAt_25 fl_X8_159 (by assumption) (by assumption) ?_
        refine z_icmp_ge hZ (tgt := 63) dX8_isFoundAt_28 rfl (by omega) (fun hc28 => ?_) (fun hc28 => ?_)
        · refine z_iload_n2 hZ dX8_isFoundAt_63 ?_
          exact z_zret hZ rfl (Nat.le_of_ble_eq_true rfl) (Nat.le_of_ble_eq_true rfl) dX8_isFoundAt_64 (by omega) (by exact ⟨pv (b2_t ⟨hp.1, by omega, he⟩).symm, rfl, rfl⟩)
        · exfalso; omega
      | succ m ih =>
        intro k hm k0 k1 hp2 he
        have hc := v.2.2.1 (p + k) (by omega) (by omega)
        have hbk := hb k k0 (by omega)
        have ef : fT g (p + k) = g (18 + (p + k)) := rfl
        rw [ef] at hc
        refine z_iload_n3 hZ dX8_isFoundAt_23 ?_
        refine z_aload_n0 hZ dX8_isFoundAt_24 ?_
        refine z_gf_X8_typed hZ dX8_isFoundAt_25 fl_X8_159 (by assumption) (by assumption) ?_
        refine z_icmp_ge hZ (tgt := 63) dX8_isFoundAt_28 rfl (by omega) (fun hc28 => ?_) (fun hc28 => ?_)
        · exfalso; omega
        · refine z_iload_n2 hZ dX8_isFoundAt_31 ?_
          refine z_if_eq hZ (tgt := 63) dX8_isFoundAt_32 rfl (by omega) (fun hc32 => ?_) (fun hc32 => ?_)
          · exfalso; omega
          · refine z_aload_n0 hZ dX8_isFoundAt_35 ?_
            refine z_iload_n1 hZ dX8_isFoundAt_36 ?_
            refine z_iload_n3 hZ dX8_isFoundAt_37 ?_
            refine z_iadd hZ dX8_isFoundAt_38 ?_
            refine z_cV hZ (As := [_]) rfl dX8_isFoundAt_39 ml_X8_36 wy_X8_code (m_X8_code l t (by omega)) (by assumption) (by assumption) rfl ⟨Nat.le_of_ble_eq_true rfl, Nat.le_of_ble_eq_true rfl⟩ ⟨Nat.le_of_ble_eq_true rfl, Nat.le_of_ble_eq_true rfl⟩ (Nat.le_of_ble_eq_true rfl) (fun _ _ _ h => h.elim) (fun v39 L39 G39 hp39 => ?_)
            obtain ⟨rfl, rfl, rfl⟩ := hp39
            refine z_aload_n0 hZ dX8_isFoundAt_42 ?_
            refine z_gf_X8_text hZ dX8_isFoundAt_43 fl_X8_17 (by assumption) (by assumption) ?_
            refine z_iload_n3 hZ dX8_isFoundAt_46 ?_
            refine z_caload hZ dX8_isFoundAt_47 (by assumption) (by assumption) (by omega) ?_
            refine z_icmp_ne hZ (tgt := 55) dX8_isFoundAt_48 rfl (by omega) (fun hc48 => ?_) (fun hc48 => ?_)
            · refine z_iconst hZ dX8_isFoundAt_55 ?_
              refine z_istore_n2 hZ dX8_isFoundAt_56 (by decide) rfl ?_
              refine z_iinc3 hZ dX8_isFoundAt_57 (by decide) rfl ?_
              refine z_goto hZ (tgt := 23) dX8_isFoundAt_60 rfl ?_
              first
                | exact ih (k + 1) (by omega) (by omega) (by omega) hp2 (eqA_up k0 he (by assumption))
                | exact s23 (k + 1) (fun z => by have z3 := z.2.2; rw [eqA_no k0 (by assumption) _ (by omega)] at z3; cases z3) (by omega) (by omega)
            · refine z_iconst hZ dX8_isFoundAt_51 ?_
              refine z_goto hZ (tgt := 56) dX8_isFoundAt_52 rfl ?_
              refine z_istore_n2 hZ dX8_isFoundAt_56 (by decide) rfl ?_
              refine z_iinc3 hZ dX8_isFoundAt_57 (by decide) rfl ?_
              refine z_goto hZ (tgt := 23) dX8_isFoundAt_60 rfl ?_
              first
                | exact ih (k + 1) (by omega) (by omega) (by omega) hp2 (eqA_up k0 he (by assumption))
                | exact s23 (k + 1) (fun z => by have z3 := z.2.2; rw [eqA_no k0 (by assumption) _ (by omega)] at z3; cases z3) (by omega) (by omega)
    refine z_iload_n1 hZ dX8_isFoundAt_0 ?_
    refine z_aload_n0 hZ dX8_isFoundAt_1 ?_
    refine z_gf_X8_typed hZ dX8_isFoundAt_2 fl_X8_159 (by assumption) (by assumption) ?_
    refine z_iadd hZ dX8_isFoundAt_5 ?_
    refine z_aload_n0 hZ dX8_isFoundAt_6 ?_
    refine z_gf_X8_s hZ dX8_isFoundAt_7 fl_X8_7 (by assumption) (by assumption) ?_
    refine z_iconst hZ dX8_isFoundAt_10 ?_
    refine z_iald hZ dX8_isFoundAt_11 (by assumption) (by assumption) (by omega) (by rfl) ?_
    refine z_icmp_gt hZ (tgt := 19) dX8_isFoundAt_12 rfl (by omega) (fun hc12 => ?_) (fun hc12 => ?_)
    · refine z_iconst hZ dX8_isFoundAt_19 ?_
      refine z_istore_n2 hZ dX8_isFoundAt_20 (by decide) rfl ?_
      refine z_iconst hZ dX8_isFoundAt_21 ?_
      refine z_istore_n3 hZ dX8_isFoundAt_22 (by decide) rfl ?_
      first
        | exact l1 _ 0 rfl (by omega) hn.1 (by omega) rfl
        | exact s23 0 (fun z => by have := z.2.1; omega) (by omega) (by omega)
    · refine z_iconst hZ dX8_isFoundAt_15 ?_
      refine z_goto hZ (tgt := 20) dX8_isFoundAt_16 rfl ?_
      refine z_istore_n2 hZ dX8_isFoundAt_20 (by decide) rfl ?_
      refine z_iconst hZ dX8_isFoundAt_21 ?_
      refine z_istore_n3 hZ dX8_isFoundAt_22 (by decide) rfl ?_
      first
        | exact l1 _ 0 rfl (by omega) hn.1 (by omega) rfl
        | exact s23 0 (fun z => by have := z.2.1; omega) (by omega) (by omega)
  exact hgo
set_option maxRecDepth 100000 in
set_option maxHeartbeats 4000000 in
theorem m_X8_find (l : Launch) {L : List Nat} {F : Nat → PE} {x a q c : Nat} {g : Int → Int} {sv th kd n pt tm sg : Int} {kp bf : Int → Int} (o : mo L F x a q c g sv th kd n pt tm sg kp bf) (v : vf g kd) (hs : 0 ≤ sv ∧ sv ≤ 6) (hn : 0 ≤ n ∧ n ≤ 60) (hb : ∀ k, 0 ≤ k → k < n → 10 ≤ bf k ∧ bf k ≤ 126) : PM l yX8_find cX8_find 2 (some .int) (rm 4 0 0) L [.ref x] F (fun v9 L1 F1 => bQ (0 < n) (fdA (g 0) (fT g) n bf (g 1) ≠ -1) (fdA (g 0) (fT g) n bf (g 1)) (vGo (fdA (g 0) (fT g) n bf (g 1))) L F x a q c g sv kd n pt tm sg kp bf v9 L1 F1) (fun _ _ _ => False) := by
  refine pm_of cd_X8_find (by decide +kernel) (Nat.le_of_ble_eq_true rfl) (fun ZZ hZ => ?_)
  have hgo : ZZ 0 0 0 [some (.ref x), none] [] L F := by
    obtain ⟨A, hF, hg, hQ, hC⟩ := id o
    obtain ⟨⟨hx, ha, hqL, hcL⟩, hxa, hxq, hxc, haq, hac, hqc⟩ := id A
    have t := ms.of hx ha hxa hF hg
    have fr : fm x a q c F F := fm.rf
    have r := v.1
    have k31 : ∀ i : Int, g 1 ≤ i → i ≤ g 0 + 1 → (0 < n → (i ≤ g 0 ∧ fdA (g 0) (fT g) n bf (g 1) = i) ∨ (g 0 < i ∧ fdA (g 0) (fT g) n bf (g 1) = -1)) → ZZ 0 0 31 [some (.ref x), some (.int (iI i))] [] L F := by
      intro i i0 i1 hi
      refine z_aload_n0 hZ dX8_find_31 ?_
      refine z_aload_n0 hZ dX8_find_32 ?_
      refine z_gf_X8_typed hZ dX8_find_33 fl_X8_159 (by assumption) (by assumption) ?_
      refine z_if_le hZ (tgt := 43) dX8_find_36 rfl (by omega) (fun hc36 => ?_) (fun hc36 => ?_)
      · refine z_iconst hZ dX8_find_43 ?_
        refine z_iload_n1 hZ dX8_find_44 ?_
        refine z_aload_n0 hZ dX8_find_45 ?_
        refine z_gf_X8_s hZ dX8_find_46 fl_X8_7 (by assumption) (by assumption) ?_
        refine z_iconst hZ dX8_find_49 ?_
        refine z_iald hZ dX8_find_50 (by assumption) (by assumption) (by omega) (by first | exact (wu_n (by omega)).trans (by first | exact (wu_n (by omega)).trans (by first | exact (wu_n (by omega)).trans (by first | exact (wu_n (by omega)).trans (by first | exact (wu_n (by omega)).trans (by first | exact (wu_n (by omega)).trans (by first | exact if_neg (by omega) | rfl) | exact wu_s | exact wu_e (by omega) | exact if_neg (by omega) | rfl) | exact wu_s | exact wu_e (by omega) | exact if_neg (by omega) | rfl) | exact wu_s | exact wu_e (by omega) | exact if_neg (by omega) | rfl) | exact wu_s | exact wu_e (by omega) | exact if_neg (by omega) | rfl) | exact wu_s | exact wu_e (by omega) | exact if_neg (by omega) | rfl) | exact wu_s | exact wu_e (by omega) | exact if_neg (by omega) | rfl) ?_
        refine z_icmp_gt hZ (tgt := 58) dX8_find_51 rfl (by omega) (fun hc51 => ?_) (fun hc51 => ?_)
        · refine z_iconst hZ dX8_find_58 ?_
          refine z_iconst hZ dX8_find_59 ?_
          refine z_cV hZ (As := [_, _, _]) rfl dX8_find_60 ml_X8_146 wy_X8_goes (m_X8_goes l hx hF (by first | exact b2_in _ | omega) (by first | exact b2_in _ | omega) (by first | exact b2_in _ | omega)) (by assumption) (by assumption) rfl ⟨Nat.le_of_ble_eq_true rfl, Nat.le_of_ble_eq_true rfl⟩ ⟨Nat.le_of_ble_eq_true rfl, Nat.le_of_ble_eq_true rfl⟩ (Nat.le_of_ble_eq_true rfl) (fun _ _ _ h => h.elim) (fun v60 L60 G60 hp60 => ?_)
          obtain ⟨rfl, rfl, hF, f60⟩ := hp60
          have hF := hF
          have hg := (f60 a (Ne.symm hxa)).trans hg
          have hQ := (f60 q (Ne.symm hxq)).trans hQ
          have hC := (f60 c (Ne.symm hxc)).trans hC
          have t := ms.of hx ha hxa hF hg
          have fr := fm.x fr f60
          refine z_if_ne_b hZ (tgt := 68) dX8_find_63 rfl (fun hc63 => ?_) (fun hc63 => ?_)
          · have hz := goV_0.mp hc63
            refine z_aload_n0 hZ dX8_find_68 ?_
            refine z_cV hZ (As := []) rfl dX8_find_69 ml_X8_150 wy_X8_saves (m_X8_saves l hx ha hxa hF hg hs) (by assumption) (by assumption) rfl ⟨Nat.le_of_ble_eq_true rfl, Nat.le_of_ble_eq_true rfl⟩ ⟨Nat.le_of_ble_eq_true rfl, Nat.le_of_ble_eq_true rfl⟩ (Nat.le_of_ble_eq_true rfl) (fun _ _ _ h => h.elim) (fun v69 L69 G69 hp69 => ?_)
            obtain ⟨rfl, rfl, ⟨h, hsv, hg⟩, hF, f69⟩ := hp69
            have hQ := (f69 q (Ne.symm hxq) (Ne.symm haq)).trans hQ
            have hC := (f69 c (Ne.symm hxc) (Ne.symm hac)).trans hC
            have fr := fm.xa fr f69
            have t := ms.of hx ha hxa hF hg
            refine z_aload_n0 hZ dX8_find_72 ?_
            refine z_iconst hZ dX8_find_73 ?_
            refine z_pf_X8_kind hZ dX8_find_74 fl_X8_67 (by assumption) (by assumption) (fun F74 hF74 hf74 => ?_)
            have hF := hF74
            have hg := (hf74 a (Ne.symm hxa)).trans hg
            have hQ := (hf74 q (Ne.symm hxq)).trans hQ
            have hC := (hf74 c (Ne.symm hxc)).trans hC
            have t := ms.of hx ha hxa hF hg
            have fr := fm.x fr hf74
            refine z_aload_n0 hZ dX8_find_77 ?_
            refine z_gf_X8_s hZ dX8_find_78 fl_X8_7 (by assumption) (by assumption) ?_
            refine z_iconst hZ dX8_find_81 ?_
            refine z_iload_n1 hZ dX8_find_82 ?_
            refine z_iastore hZ dX8_find_83 (by assumption) (by assumption) (by omega) (fun F83 hF83 hf83 => ?_)
            have hF := (hf83 x hxa).trans hF
            have hg := hF83
            have hQ := (hf83 q (Ne.symm haq)).trans hQ
            have hC := (hf83 c (Ne.symm hac)).trans hC
            have t := ms.of hx ha hxa hF hg
            have fr := fm.a fr hf83
            refine z_iload_n1 hZ dX8_find_84 ?_
            exact z_iret hZ rfl (Nat.le_of_ble_eq_true rfl) (Nat.le_of_ble_eq_true rfl) dX8_find_85 (by
            first
              | (exfalso; omega)
              | (have hi := hi (by omega)
                 have ei : fdA (g 0) (fT g) n bf (g 1) = i := by omega
                 rw [ei]
                 exact bQ.yes hc63 (by omega) (by omega) hsv rfl fr A hF hg hQ hC))
          · have hz : ¬ _ := fun z => hc63 (goV_0.mpr z)
            refine z_iconst hZ dX8_find_66 ?_
            exact z_iret hZ rfl (Nat.le_of_ble_eq_true rfl) (Nat.le_of_ble_eq_true rfl) dX8_find_67 (by
            first
              | (exfalso; omega)
              | exact bQ.no1 (by omega) (by omega) fr A hF hg hQ hC
              | (have hi := hi (by omega); exact bQ.no hc63 (by omega) (by omega) fr A hF hg hQ hC))
        · refine z_iconst hZ dX8_find_54 ?_
          refine z_goto hZ (tgt := 59) dX8_find_55 rfl ?_
          refine z_iconst hZ dX8_find_59 ?_
          refine z_cV hZ (As := [_, _, _]) rfl dX8_find_60 ml_X8_146 wy_X8_goes (m_X8_goes l hx hF (by first | exact b2_in _ | omega) (by first | exact b2_in _ | omega) (by first | exact b2_in _ | omega)) (by assumption) (by assumption) rfl ⟨Nat.le_of_ble_eq_true rfl, Nat.le_of_ble_eq_true rfl⟩ ⟨Nat.le_of_ble_eq_true rfl, Nat.le_of_ble_eq_true rfl⟩ (Nat.le_of_ble_eq_true rfl) (fun _ _ _ h => h.elim) (fun v60 L60 G60 hp60 => ?_)
          obtain ⟨rfl, rfl, hF, f60⟩ := hp60
          have hF := hF
          have hg := (f60 a (Ne.symm hxa)).trans hg
          have hQ := (f60 q (Ne.symm hxq)).trans hQ
          have hC := (f60 c (Ne.symm hxc)).trans hC
          have t := ms.of hx ha hxa hF hg
          have fr := fm.x fr f60
          refine z_if_ne_b hZ (tgt := 68) dX8_find_63 rfl (fun hc63 => ?_) (fun hc63 => ?_)
          · have hz := goV_0.mp hc63
            refine z_aload_n0 hZ dX8_find_68 ?_
            refine z_cV hZ (As := []) rfl dX8_find_69 ml_X8_150 wy_X8_saves (m_X8_saves l hx ha hxa hF hg hs) (by assumption) (by assumption) rfl ⟨Nat.le_of_ble_eq_true rfl, Nat.le_of_ble_eq_true rfl⟩ ⟨Nat.le_of_ble_eq_true rfl, Nat.le_of_ble_eq_true rfl⟩ (Nat.le_of_ble_eq_true rfl) (fun _ _ _ h => h.elim) (fun v69 L69 G69 hp69 => ?_)
            obtain ⟨rfl, rfl, ⟨h, hsv, hg⟩, hF, f69⟩ := hp69
            have hQ := (f69 q (Ne.symm hxq) (Ne.symm haq)).trans hQ
            have hC := (f69 c (Ne.symm hxc) (Ne.symm hac)).trans hC
            have fr := fm.xa fr f69
            have t := ms.of hx ha hxa hF hg
            refine z_aload_n0 hZ dX8_find_72 ?_
            refine z_iconst hZ dX8_find_73 ?_
            refine z_pf_X8_kind hZ dX8_find_74 fl_X8_67 (by assumption) (by assumption) (fun F74 hF74 hf74 => ?_)
            have hF := hF74
            have hg := (hf74 a (Ne.symm hxa)).trans hg
            have hQ := (hf74 q (Ne.symm hxq)).trans hQ
            have hC := (hf74 c (Ne.symm hxc)).trans hC
            have t := ms.of hx ha hxa hF hg
            have fr := fm.x fr hf74
            refine z_aload_n0 hZ dX8_find_77 ?_
            refine z_gf_X8_s hZ dX8_find_78 fl_X8_7 (by assumption) (by assumption) ?_
            refine z_iconst hZ dX8_find_81 ?_
            refine z_iload_n1 hZ dX8_find_82 ?_
            refine z_iastore hZ dX8_find_83 (by assumption) (by assumption) (by omega) (fun F83 hF83 hf83 => ?_)
            have hF := (hf83 x hxa).trans hF
            have hg := hF83
            have hQ := (hf83 q (Ne.symm haq)).trans hQ
            have hC := (hf83 c (Ne.symm hac)).trans hC
            have t := ms.of hx ha hxa hF hg
            have fr := fm.a fr hf83
            refine z_iload_n1 hZ dX8_find_84 ?_
            exact z_iret hZ rfl (Nat.le_of_ble_eq_true rfl) (Nat.le_of_ble_eq_true rfl) dX8_find_85 (by
            first
              | (exfalso; omega)
              | (have hi := hi (by omega)
                 have ei : fdA (g 0) (fT g) n bf (g 1) = i := by omega
                 rw [ei]
                 exact bQ.yes hc63 (by omega) (by omega) hsv rfl fr A hF hg hQ hC))
          · have hz : ¬ _ := fun z => hc63 (goV_0.mpr z)
            refine z_iconst hZ dX8_find_66 ?_
            exact z_iret hZ rfl (Nat.le_of_ble_eq_true rfl) (Nat.le_of_ble_eq_true rfl) dX8_find_67 (by
            first
              | (exfalso; omega)
              | exact bQ.no1 (by omega) (by omega) fr A hF hg hQ hC
              | (have hi := hi (by omega); exact bQ.no hc63 (by omega) (by omega) fr A hF hg hQ hC))
      · refine z_iconst hZ dX8_find_39 ?_
        refine z_goto hZ (tgt := 44) dX8_find_40 rfl ?_
        refine z_iload_n1 hZ dX8_find_44 ?_
        refine z_aload_n0 hZ dX8_find_45 ?_
        refine z_gf_X8_s hZ dX8_find_46 fl_X8_7 (by assumption) (by assumption) ?_
        refine z_iconst hZ dX8_find_49 ?_
        refine z_iald hZ dX8_find_50 (by assumption) (by assumption) (by omega) (by first | exact (wu_n (by omega)).trans (by first | exact (wu_n (by omega)).trans (by first | exact (wu_n (by omega)).trans (by first | exact (wu_n (by omega)).trans (by first | exact (wu_n (by omega)).trans (by first | exact (wu_n (by omega)).trans (by first | exact if_neg (by omega) | rfl) | exact wu_s | exact wu_e (by omega) | exact if_neg (by omega) | rfl) | exact wu_s | exact wu_e (by omega) | exact if_neg (by omega) | rfl) | exact wu_s | exact wu_e (by omega) | exact if_neg (by omega) | rfl) | exact wu_s | exact wu_e (by omega) | exact if_neg (by omega) | rfl) | exact wu_s | exact wu_e (by omega) | exact if_neg (by omega) | rfl) | exact wu_s | exact wu_e (by omega) | exact if_neg (by omega) | rfl) ?_
        refine z_icmp_gt hZ (tgt := 58) dX8_find_51 rfl (by omega) (fun hc51 => ?_) (fun hc51 => ?_)
        · refine z_iconst hZ dX8_find_58 ?_
          refine z_iconst hZ dX8_find_59 ?_
          refine z_cV hZ (As := [_, _, _]) rfl dX8_find_60 ml_X8_146 wy_X8_goes (m_X8_goes l hx hF (by first | exact b2_in _ | omega) (by first | exact b2_in _ | omega) (by first | exact b2_in _ | omega)) (by assumption) (by assumption) rfl ⟨Nat.le_of_ble_eq_true rfl, Nat.le_of_ble_eq_true rfl⟩ ⟨Nat.le_of_ble_eq_true rfl, Nat.le_of_ble_eq_true rfl⟩ (Nat.le_of_ble_eq_true rfl) (fun _ _ _ h => h.elim) (fun v60 L60 G60 hp60 => ?_)
          obtain ⟨rfl, rfl, hF, f60⟩ := hp60
          have hF := hF
          have hg := (f60 a (Ne.symm hxa)).trans hg
          have hQ := (f60 q (Ne.symm hxq)).trans hQ
          have hC := (f60 c (Ne.symm hxc)).trans hC
          have t := ms.of hx ha hxa hF hg
          have fr := fm.x fr f60
          refine z_if_ne_b hZ (tgt := 68) dX8_find_63 rfl (fun hc63 => ?_) (fun hc63 => ?_)
          · have hz := goV_0.mp hc63
            refine z_aload_n0 hZ dX8_find_68 ?_
            refine z_cV hZ (As := []) rfl dX8_find_69 ml_X8_150 wy_X8_saves (m_X8_saves l hx ha hxa hF hg hs) (by assumption) (by assumption) rfl ⟨Nat.le_of_ble_eq_true rfl, Nat.le_of_ble_eq_true rfl⟩ ⟨Nat.le_of_ble_eq_true rfl, Nat.le_of_ble_eq_true rfl⟩ (Nat.le_of_ble_eq_true rfl) (fun _ _ _ h => h.elim) (fun v69 L69 G69 hp69 => ?_)
            obtain ⟨rfl, rfl, ⟨h, hsv, hg⟩, hF, f69⟩ := hp69
            have hQ := (f69 q (Ne.symm hxq) (Ne.symm haq)).trans hQ
            have hC := (f69 c (Ne.symm hxc) (Ne.symm hac)).trans hC
            have fr := fm.xa fr f69
            have t := ms.of hx ha hxa hF hg
            refine z_aload_n0 hZ dX8_find_72 ?_
            refine z_iconst hZ dX8_find_73 ?_
            refine z_pf_X8_kind hZ dX8_find_74 fl_X8_67 (by assumption) (by assumption) (fun F74 hF74 hf74 => ?_)
            have hF := hF74
            have hg := (hf74 a (Ne.symm hxa)).trans hg
            have hQ := (hf74 q (Ne.symm hxq)).trans hQ
            have hC := (hf74 c (Ne.symm hxc)).trans hC
            have t := ms.of hx ha hxa hF hg
            have fr := fm.x fr hf74
            refine z_aload_n0 hZ dX8_find_77 ?_
            refine z_gf_X8_s hZ dX8_find_78 fl_X8_7 (by assumption) (by assumption) ?_
            refine z_iconst hZ dX8_find_81 ?_
            refine z_iload_n1 hZ dX8_find_82 ?_
            refine z_iastore hZ dX8_find_83 (by assumption) (by assumption) (by omega) (fun F83 hF83 hf83 => ?_)
            have hF := (hf83 x hxa).trans hF
            have hg := hF83
            have hQ := (hf83 q (Ne.symm haq)).trans hQ
            have hC := (hf83 c (Ne.symm hac)).trans hC
            have t := ms.of hx ha hxa hF hg
            have fr := fm.a fr hf83
            refine z_iload_n1 hZ dX8_find_84 ?_
            exact z_iret hZ rfl (Nat.le_of_ble_eq_true rfl) (Nat.le_of_ble_eq_true rfl) dX8_find_85 (by
            first
              | (exfalso; omega)
              | (have hi := hi (by omega)
                 have ei : fdA (g 0) (fT g) n bf (g 1) = i := by omega
                 rw [ei]
                 exact bQ.yes hc63 (by omega) (by omega) hsv rfl fr A hF hg hQ hC))
          · have hz : ¬ _ := fun z => hc63 (goV_0.mpr z)
            refine z_iconst hZ dX8_find_66 ?_
            exact z_iret hZ rfl (Nat.le_of_ble_eq_true rfl) (Nat.le_of_ble_eq_true rfl) dX8_find_67 (by
            first
              | (exfalso; omega)
              | exact bQ.no1 (by omega) (by omega) fr A hF hg hQ hC
              | (have hi := hi (by omega); exact bQ.no hc63 (by omega) (by omega) fr A hF hg hQ hC))
        · refine z_iconst hZ dX8_find_54 ?_
          refine z_goto hZ (tgt := 59) dX8_find_55 rfl ?_
          refine z_iconst hZ dX8_find_59 ?_
          refine z_cV hZ (As := [_, _, _]) rfl dX8_find_60 ml_X8_146 wy_X8_goes (m_X8_goes l hx hF (by first | exact b2_in _ | omega) (by first | exact b2_in _ | omega) (by first | exact b2_in _ | omega)) (by assumption) (by assumption) rfl ⟨Nat.le_of_ble_eq_true rfl, Nat.le_of_ble_eq_true rfl⟩ ⟨Nat.le_of_ble_eq_true rfl, Nat.le_of_ble_eq_true rfl⟩ (Nat.le_of_ble_eq_true rfl) (fun _ _ _ h => h.elim) (fun v60 L60 G60 hp60 => ?_)
          obtain ⟨rfl, rfl, hF, f60⟩ := hp60
          have hF := hF
          have hg := (f60 a (Ne.symm hxa)).trans hg
          have hQ := (f60 q (Ne.symm hxq)).trans hQ
          have hC := (f60 c (Ne.symm hxc)).trans hC
          have t := ms.of hx ha hxa hF hg
          have fr := fm.x fr f60
          refine z_if_ne_b hZ (tgt := 68) dX8_find_63 rfl (fun hc63 => ?_) (fun hc63 => ?_)
          · have hz := goV_0.mp hc63
            refine z_aload_n0 hZ dX8_find_68 ?_
            refine z_cV hZ (As := []) rfl dX8_find_69 ml_X8_150 wy_X8_saves (m_X8_saves l hx ha hxa hF hg hs) (by assumption) (by assumption) rfl ⟨Nat.le_of_ble_eq_true rfl, Nat.le_of_ble_eq_true rfl⟩ ⟨Nat.le_of_ble_eq_true rfl, Nat.le_of_ble_eq_true rfl⟩ (Nat.le_of_ble_eq_true rfl) (fun _ _ _ h => h.elim) (fun v69 L69 G69 hp69 => ?_)
            obtain ⟨rfl, rfl, ⟨h, hsv, hg⟩, hF, f69⟩ := hp69
            have hQ := (f69 q (Ne.symm hxq) (Ne.symm haq)).trans hQ
            have hC := (f69 c (Ne.symm hxc) (Ne.symm hac)).trans hC
            have fr := fm.xa fr f69
            have t := ms.of hx ha hxa hF hg
            refine z_aload_n0 hZ dX8_find_72 ?_
            refine z_iconst hZ dX8_find_73 ?_
            refine z_pf_X8_kind hZ dX8_find_74 fl_X8_67 (by assumption) (by assumption) (fun F74 hF74 hf74 => ?_)
            have hF := hF74
            have hg := (hf74 a (Ne.symm hxa)).trans hg
            have hQ := (hf74 q (Ne.symm hxq)).trans hQ
            have hC := (hf74 c (Ne.symm hxc)).trans hC
            have t := ms.of hx ha hxa hF hg
            have fr := fm.x fr hf74
            refine z_aload_n0 hZ dX8_find_77 ?_
            refine z_gf_X8_s hZ dX8_find_78 fl_X8_7 (by assumption) (by assumption) ?_
            refine z_iconst hZ dX8_find_81 ?_
            refine z_iload_n1 hZ dX8_find_82 ?_
            refine z_iastore hZ dX8_find_83 (by assumption) (by assumption) (by omega) (fun F83 hF83 hf83 => ?_)
            have hF := (hf83 x hxa).trans hF
            have hg := hF83
            have hQ := (hf83 q (Ne.symm haq)).trans hQ
            have hC := (hf83 c (Ne.symm hac)).trans hC
            have t := ms.of hx ha hxa hF hg
            have fr := fm.a fr hf83
            refine z_iload_n1 hZ dX8_find_84 ?_
            exact z_iret hZ rfl (Nat.le_of_ble_eq_true rfl) (Nat.le_of_ble_eq_true rfl) dX8_find_85 (by
            first
              | (exfalso; omega)
              | (have hi := hi (by omega)
                 have ei : fdA (g 0) (fT g) n bf (g 1) = i := by omega
                 rw [ei]
                 exact bQ.yes hc63 (by omega) (by omega) hsv rfl fr A hF hg hQ hC))
          · have hz : ¬ _ := fun z => hc63 (goV_0.mpr z)
            refine z_iconst hZ dX8_find_66 ?_
            exact z_iret hZ rfl (Nat.le_of_ble_eq_true rfl) (Nat.le_of_ble_eq_true rfl) dX8_find_67 (by
            first
              | (exfalso; omega)
              | exact bQ.no1 (by omega) (by omega) fr A hF hg hQ hC
              | (have hi := hi (by omega); exact bQ.no hc63 (by omega) (by omega) fr A hF hg hQ hC))
    have l7 : ∀ (m : Nat) (i : Int), (g 0 + 1 - i).toNat = m → g 1 ≤ i → i ≤ g 0 + 1 → (0 < n → (i ≤ g 0 → up (fun a => !decide (stA (g 0) (fT g) n bf a)) (g 0) i = up (fun a => !decide (stA (g 0) (fT g) n bf a)) (g 0) (g 1)) ∧ (g 0 < i → fdA (g 0) (fT g) n bf (g 1) = -1)) → ZZ 0 0 7 [some (.ref x), some (.int (iI i))] [] L F := by
      intro m
      induction m with
      | zero =>
        intro i hm i0 i1 hi
        refine z_iload_n1 hZ dX8_find_7 ?_
        refine z_aload_n0 hZ dX8_find_8 ?_
        refine z_gf_X8_s hZ dX8_find_9 fl_X8_7 (by assumption) (by assumption) ?_
        refine z_iconst hZ dX8_find_12 ?_
        refine z_iald hZ dX8_find_13 (by assumption) (by assumption) (by omega) (by first | exact (wu_n (by omega)).trans (by first | exact (wu_n (by omega)).trans (by first | exact (wu_n (by omega)).trans (by first | exact (wu_n (by omega)).trans (by first | exact (wu_n (by omega)).trans (by first | exact (wu_n (by omega)).trans (by first | exact if_neg (by omega) | rfl) | exact wu_s | exact wu_e (by omega) | exact if_neg (by omega) | rfl) | exact wu_s | exact wu_e (by omega) | exact if_neg (by omega) | rfl) | exact wu_s | exact wu_e (by omega) | exact if_neg (by omega) | rfl) | exact wu_s | exact wu_e (by omega) | exact if_neg (by omega) | rfl) | exact wu_s | exact wu_e (by omega) | exact if_neg (by omega) | rfl) | exact wu_s | exact wu_e (by omega) | exact if_neg (by omega) | rfl) ?_
        refine z_icmp_gt hZ (tgt := 31) dX8_find_14 rfl (by omega) (fun hc14 => ?_) (fun hc14 => ?_)
        · exact k31 i i0 i1 (fun z => Or.inr ⟨by omega, (hi z).2 (by omega)⟩)
        · exfalso; omega
      | succ m ih =>
        intro i hm i0 i1 hi
        refine z_iload_n1 hZ dX8_find_7 ?_
        refine z_aload_n0 hZ dX8_find_8 ?_
        refine z_gf_X8_s hZ dX8_find_9 fl_X8_7 (by assumption) (by assumption) ?_
        refine z_iconst hZ dX8_find_12 ?_
        refine z_iald hZ dX8_find_13 (by assumption) (by assumption) (by omega) (by first | exact (wu_n (by omega)).trans (by first | exact (wu_n (by omega)).trans (by first | exact (wu_n (by omega)).trans (by first | exact (wu_n (by omega)).trans (by first | exact (wu_n (by omega)).trans (by first | exact (wu_n (by omega)).trans (by first | exact if_neg (by omega) | rfl) | exact wu_s | exact wu_e (by omega) | exact if_neg (by omega) | rfl) | exact wu_s | exact wu_e (by omega) | exact if_neg (by omega) | rfl) | exact wu_s | exact wu_e (by omega) | exact if_neg (by omega) | rfl) | exact wu_s | exact wu_e (by omega) | exact if_neg (by omega) | rfl) | exact wu_s | exact wu_e (by omega) | exact if_neg (by omega) | rfl) | exact wu_s | exact wu_e (by omega) | exact if_neg (by omega) | rfl) ?_
        refine z_icmp_gt hZ (tgt := 31) dX8_find_14 rfl (by omega) (fun hc14 => ?_) (fun hc14 => ?_)
        · first
            | (exfalso; omega)
            | (refine k31 i i0 i1 (fun z => Or.inl ⟨by omega, ?_⟩)
               have z1 := hc22.2.1
               have e1 := (hi z).1 (by omega)
               rw [up_no (P := fun a => !decide (stA (g 0) (fT g) n bf a)) (i := i) (fun w => by have w2 : (!decide (stA (g 0) (fT g) n bf i)) = true := w.2; rw [decide_eq_true hc22] at w2; cases w2)] at e1
               unfold fdA
               rw [← e1, if_pos (by omega)])
        · refine z_aload_n0 hZ dX8_find_17 ?_
          refine z_iload_n1 hZ dX8_find_18 ?_
          refine z_cV hZ (As := [_]) rfl dX8_find_19 ml_X8_162 wy_X8_isFoundAt (m_X8_isFoundAt l o v hs hn hb (by omega)) (by assumption) (by assumption) rfl ⟨Nat.le_of_ble_eq_true rfl, Nat.le_of_ble_eq_true rfl⟩ ⟨Nat.le_of_ble_eq_true rfl, Nat.le_of_ble_eq_true rfl⟩ (Nat.le_of_ble_eq_true rfl) (fun _ _ _ h => h.elim) (fun v19 L19 G19 hp19 => ?_)
          obtain ⟨rfl, rfl, rfl⟩ := hp19
          refine z_if_ne_b hZ (tgt := 31) dX8_find_22 rfl (fun hc22 => ?_) (fun hc22 => ?_)
          · first
              | (exfalso; omega)
              | (refine k31 i i0 i1 (fun z => Or.inl ⟨by omega, ?_⟩)
                 have z1 := hc22.2.1
                 have e1 := (hi z).1 (by omega)
                 rw [up_no (P := fun a => !decide (stA (g 0) (fT g) n bf a)) (i := i) (fun w => by have w2 : (!decide (stA (g 0) (fT g) n bf i)) = true := w.2; rw [decide_eq_true hc22] at w2; cases w2)] at e1
                 unfold fdA
                 rw [← e1, if_pos (by omega)])
          · refine z_iinc1 hZ dX8_find_25 (by decide) rfl ?_
            refine z_goto hZ (tgt := 7) dX8_find_28 rfl ?_
            refine ih (i + 1) (by omega) (by omega) (by omega) (fun z => ?_)
            have hp1 : (fun a => !decide (stA (g 0) (fT g) n bf a)) i = true := by show (!decide (stA (g 0) (fT g) n bf i)) = true; rw [decide_eq_false hc22]; rfl
            have e1 := (hi z).1 (by omega)
            refine ⟨fun w => ?_, fun w => ?_⟩
            · rw [← e1, up_go (i := i) (by omega) hp1]
            · rw [up_no (i := i) (by omega)] at e1
              unfold fdA
              rw [← e1, if_neg (by omega)]
    refine z_aload_n0 hZ dX8_find_0 ?_
    refine z_gf_X8_s hZ dX8_find_1 fl_X8_7 (by assumption) (by assumption) ?_
    refine z_iconst hZ dX8_find_4 ?_
    refine z_iald hZ dX8_find_5 (by assumption) (by assumption) (by omega) (by first | exact (wu_n (by omega)).trans (by first | exact (wu_n (by omega)).trans (by first | exact (wu_n (by omega)).trans (by first | exact (wu_n (by omega)).trans (by first | exact (wu_n (by omega)).trans (by first | exact (wu_n (by omega)).trans (by first | exact if_neg (by omega) | rfl) | exact wu_s | exact wu_e (by omega) | exact if_neg (by omega) | rfl) | exact wu_s | exact wu_e (by omega) | exact if_neg (by omega) | rfl) | exact wu_s | exact wu_e (by omega) | exact if_neg (by omega) | rfl) | exact wu_s | exact wu_e (by omega) | exact if_neg (by omega) | rfl) | exact wu_s | exact wu_e (by omega) | exact if_neg (by omega) | rfl) | exact wu_s | exact wu_e (by omega) | exact if_neg (by omega) | rfl) ?_
    refine z_istore_n1 hZ dX8_find_6 (by decide) rfl ?_
    exact l7 _ (g 1) rfl (by omega) (by omega) (fun _ => ⟨fun _ => rfl, fun w => by omega⟩)
  exact hgo
set_option maxRecDepth 100000 in
set_option maxHeartbeats 4000000 in
theorem m_X8_append (l : Launch) {L : List Nat} {F : Nat → PE} {x a q c : Nat} {g : Int → Int} {sv th kd n pt tm sg : Int} {kp bf : Int → Int} (o : mo L F x a q c g sv th kd n pt tm sg kp bf) (v : vf g kd) (hs : 0 ≤ sv ∧ sv ≤ 6) (hn : 0 ≤ n ∧ n ≤ 60) (hb : ∀ k, 0 ≤ k → k < n → 10 ≤ bf k ∧ bf k ≤ 126) {y : Int} (hy : -2147483648 ≤ y ∧ y ≤ 2147483647) : PM l yX8_append cX8_append 2 (some .int) (rm 2 0 0) L [.ref x, .int (iI y)] F (fun v9 L1 F1 => L = L1 ∧ fm x a q c F F1 ∧ (((33 ≤ y ∧ y ≤ 126) ∧ n < 60 ∧ v9 = some (.int (iI (n + 1))) ∧ mo L F1 x a q c g sv 0 kd (n + 1) pt tm sg kp (wu bf n y)) ∨ (¬ (33 ≤ y ∧ y ≤ 126) ∧ v9 = some (.int (iI 0)) ∧ mo L F1 x a q c g sv 1 kd n pt tm sg kp bf) ∨ ((33 ≤ y ∧ y ≤ 126) ∧ ¬ n < 60 ∧ v9 = some (.int (iI 0)) ∧ mo L F1 x a q c g sv 2 kd n pt tm sg kp bf))) (fun _ _ _ => False) := by
  refine pm_of cd_X8_append (by decide +kernel) (Nat.le_of_ble_eq_true rfl) (fun ZZ hZ => ?_)
  have hgo : ZZ 0 0 0 [some (.ref x), some (.int (iI y))] [] L F := by
    obtain ⟨A, hF, hg, hQ, hC⟩ := id o
    obtain ⟨⟨hx, ha, hqL, hcL⟩, hxa, hxq, hxc, haq, hac, hqc⟩ := id A
    have t := ms.of hx ha hxa hF hg
    have fr : fm x a q c F F := fm.rf
    have r := v.1
    have hqn := hb
    by_cases q1 : 33 ≤ y ∧ y ≤ 126
    · have eb : b2 (33 ≤ y ∧ y ≤ 126) = 1 := b2_t q1
      refine z_aload_n0 hZ dX8_append_0 ?_
      refine z_iload_n1 hZ dX8_append_1 ?_
      refine z_bipush hZ dX8_append_2 rfl ?_
      refine z_bipush hZ dX8_append_4 rfl ?_
      refine z_cS hZ (As := [_, _, _]) rfl dX8_append_6 ml_X8_32 wy_X8_in (m_X8_in l (by omega) (by omega) (by omega)) ⟨Nat.le_of_ble_eq_true rfl, Nat.le_of_ble_eq_true rfl⟩ ⟨Nat.le_of_ble_eq_true rfl, Nat.le_of_ble_eq_true rfl⟩ (Nat.le_of_ble_eq_true rfl) (fun _ _ _ h => h.elim) (fun v6 L6 G6 hp6 => ?_)
      obtain ⟨rfl, rfl, rfl⟩ := hp6
      rw [eb]
      refine z_aload_n0 hZ dX8_append_9 ?_
      refine z_gf_X8_typed hZ dX8_append_10 fl_X8_159 (by assumption) (by assumption) ?_
      refine z_bipush hZ dX8_append_13 rfl ?_
      refine z_icmp_ge hZ (tgt := 22) dX8_append_15 rfl (by omega) (fun hc15 => ?_) (fun hc15 => ?_)
      · refine z_iconst hZ dX8_append_22 ?_
        refine z_iconst hZ dX8_append_23 ?_
        refine z_cV hZ (As := [_, _, _]) rfl dX8_append_24 ml_X8_146 wy_X8_goes (m_X8_goes l hx hF (by first | exact b2_in _ | omega) (by first | exact b2_in _ | omega) (by first | exact b2_in _ | omega)) (by assumption) (by assumption) rfl ⟨Nat.le_of_ble_eq_true rfl, Nat.le_of_ble_eq_true rfl⟩ ⟨Nat.le_of_ble_eq_true rfl, Nat.le_of_ble_eq_true rfl⟩ (Nat.le_of_ble_eq_true rfl) (fun _ _ _ h => h.elim) (fun v24 L24 G24 hp24 => ?_)
        obtain ⟨rfl, rfl, hF, f24⟩ := hp24
        have hF := hF
        have hg := (f24 a (Ne.symm hxa)).trans hg
        have hQ := (f24 q (Ne.symm hxq)).trans hQ
        have hC := (f24 c (Ne.symm hxc)).trans hC
        have t := ms.of hx ha hxa hF hg
        have fr := fm.x fr f24
        refine z_if_ne_b hZ (tgt := 32) dX8_append_27 rfl (fun hc27 => ?_) (fun hc27 => ?_)
        · have hz := goV_0.mp hc27
          refine z_aload_n0 hZ dX8_append_32 ?_
          refine z_gf_X8_text hZ dX8_append_33 fl_X8_17 (by assumption) (by assumption) ?_
          refine z_aload_n0 hZ dX8_append_36 ?_
          refine z_gf_X8_typed hZ dX8_append_37 fl_X8_159 (by assumption) (by assumption) ?_
          refine z_iload_n1 hZ dX8_append_40 ?_
          refine z_i2c hZ dX8_append_41 (iI_16 (by omega)) ?_
          refine z_castore hZ dX8_append_42 (by assumption) (by assumption) (by omega) (by omega) (fun F42 hF42 hf42 => ?_)
          have hF := (hf42 x hxc).trans hF
          have hg := (hf42 a hac).trans hg
          have hQ := (hf42 q hqc).trans hQ
          have hC := hF42
          have fr := fm.c fr hf42
          refine z_aload_n0 hZ dX8_append_43 ?_
          refine z_dup hZ dX8_append_44 rfl ?_
          refine z_gf_X8_typed hZ dX8_append_45 fl_X8_159 (by assumption) (by assumption) ?_
          refine z_iconst hZ dX8_append_48 ?_
          refine z_iadd hZ dX8_append_49 ?_
          refine z_pf_X8_typed hZ dX8_append_50 fl_X8_159 (by assumption) (by assumption) (fun F50 hF50 hf50 => ?_)
          have hF := hF50
          have hg := (hf50 a (Ne.symm hxa)).trans hg
          have hQ := (hf50 q (Ne.symm hxq)).trans hQ
          have hC := (hf50 c (Ne.symm hxc)).trans hC
          have t := ms.of hx ha hxa hF hg
          have fr := fm.x fr hf50
          refine z_aload_n0 hZ dX8_append_53 ?_
          refine z_gf_X8_typed hZ dX8_append_54 fl_X8_159 (by assumption) (by assumption) ?_
          exact z_iret hZ rfl (Nat.le_of_ble_eq_true rfl) (Nat.le_of_ble_eq_true rfl) dX8_append_57 (by
            first
              | (exfalso; omega)
              | exact ⟨rfl, fr, Or.inl ⟨q1, by omega, rfl, A, hF, hg, hQ, hC⟩⟩)
        · have hz : ¬ _ := fun z => hc27 (goV_0.mpr z)
          refine z_iconst hZ dX8_append_30 ?_
          exact z_iret hZ rfl (Nat.le_of_ble_eq_true rfl) (Nat.le_of_ble_eq_true rfl) dX8_append_31 (by
            first
              | (exfalso; omega)
              | exact ⟨rfl, fr, Or.inr (Or.inr ⟨q1, by omega, rfl, A, hF, hg, hQ, hC⟩)⟩)
      · refine z_iconst hZ dX8_append_18 ?_
        refine z_goto hZ (tgt := 23) dX8_append_19 rfl ?_
        refine z_iconst hZ dX8_append_23 ?_
        refine z_cV hZ (As := [_, _, _]) rfl dX8_append_24 ml_X8_146 wy_X8_goes (m_X8_goes l hx hF (by first | exact b2_in _ | omega) (by first | exact b2_in _ | omega) (by first | exact b2_in _ | omega)) (by assumption) (by assumption) rfl ⟨Nat.le_of_ble_eq_true rfl, Nat.le_of_ble_eq_true rfl⟩ ⟨Nat.le_of_ble_eq_true rfl, Nat.le_of_ble_eq_true rfl⟩ (Nat.le_of_ble_eq_true rfl) (fun _ _ _ h => h.elim) (fun v24 L24 G24 hp24 => ?_)
        obtain ⟨rfl, rfl, hF, f24⟩ := hp24
        have hF := hF
        have hg := (f24 a (Ne.symm hxa)).trans hg
        have hQ := (f24 q (Ne.symm hxq)).trans hQ
        have hC := (f24 c (Ne.symm hxc)).trans hC
        have t := ms.of hx ha hxa hF hg
        have fr := fm.x fr f24
        refine z_if_ne_b hZ (tgt := 32) dX8_append_27 rfl (fun hc27 => ?_) (fun hc27 => ?_)
        · have hz := goV_0.mp hc27
          refine z_aload_n0 hZ dX8_append_32 ?_
          refine z_gf_X8_text hZ dX8_append_33 fl_X8_17 (by assumption) (by assumption) ?_
          refine z_aload_n0 hZ dX8_append_36 ?_
          refine z_gf_X8_typed hZ dX8_append_37 fl_X8_159 (by assumption) (by assumption) ?_
          refine z_iload_n1 hZ dX8_append_40 ?_
          refine z_i2c hZ dX8_append_41 (iI_16 (by omega)) ?_
          refine z_castore hZ dX8_append_42 (by assumption) (by assumption) (by omega) (by omega) (fun F42 hF42 hf42 => ?_)
          have hF := (hf42 x hxc).trans hF
          have hg := (hf42 a hac).trans hg
          have hQ := (hf42 q hqc).trans hQ
          have hC := hF42
          have fr := fm.c fr hf42
          refine z_aload_n0 hZ dX8_append_43 ?_
          refine z_dup hZ dX8_append_44 rfl ?_
          refine z_gf_X8_typed hZ dX8_append_45 fl_X8_159 (by assumption) (by assumption) ?_
          refine z_iconst hZ dX8_append_48 ?_
          refine z_iadd hZ dX8_append_49 ?_
          refine z_pf_X8_typed hZ dX8_append_50 fl_X8_159 (by assumption) (by assumption) (fun F50 hF50 hf50 => ?_)
          have hF := hF50
          have hg := (hf50 a (Ne.symm hxa)).trans hg
          have hQ := (hf50 q (Ne.symm hxq)).trans hQ
          have hC := (hf50 c (Ne.symm hxc)).trans hC
          have t := ms.of hx ha hxa hF hg
          have fr := fm.x fr hf50
          refine z_aload_n0 hZ dX8_append_53 ?_
          refine z_gf_X8_typed hZ dX8_append_54 fl_X8_159 (by assumption) (by assumption) ?_
          exact z_iret hZ rfl (Nat.le_of_ble_eq_true rfl) (Nat.le_of_ble_eq_true rfl) dX8_append_57 (by
            first
              | (exfalso; omega)
              | exact ⟨rfl, fr, Or.inl ⟨q1, by omega, rfl, A, hF, hg, hQ, hC⟩⟩)
        · have hz : ¬ _ := fun z => hc27 (goV_0.mpr z)
          refine z_iconst hZ dX8_append_30 ?_
          exact z_iret hZ rfl (Nat.le_of_ble_eq_true rfl) (Nat.le_of_ble_eq_true rfl) dX8_append_31 (by
            first
              | (exfalso; omega)
              | exact ⟨rfl, fr, Or.inr (Or.inr ⟨q1, by omega, rfl, A, hF, hg, hQ, hC⟩)⟩)
    · have eb : b2 (33 ≤ y ∧ y ≤ 126) = 0 := b2_f q1
      refine z_aload_n0 hZ dX8_append_0 ?_
      refine z_iload_n1 hZ dX8_append_1 ?_
      refine z_bipush hZ dX8_append_2 rfl ?_
      refine z_bipush hZ dX8_append_4 rfl ?_
      refine z_cS hZ (As := [_, _, _]) rfl dX8_append_6 ml_X8_32 wy_X8_in (m_X8_in l (by omega) (by omega) (by omega)) ⟨Nat.le_of_ble_eq_true rfl, Nat.le_of_ble_eq_true rfl⟩ ⟨Nat.le_of_ble_eq_true rfl, Nat.le_of_ble_eq_true rfl⟩ (Nat.le_of_ble_eq_true rfl) (fun _ _ _ h => h.elim) (fun v6 L6 G6 hp6 => ?_)
      obtain ⟨rfl, rfl, rfl⟩ := hp6
      rw [eb]
      refine z_aload_n0 hZ dX8_append_9 ?_
      refine z_gf_X8_typed hZ dX8_append_10 fl_X8_159 (by assumption) (by assumption) ?_
      refine z_bipush hZ dX8_append_13 rfl ?_
      refine z_icmp_ge hZ (tgt := 22) dX8_append_15 rfl (by omega) (fun hc15 => ?_) (fun hc15 => ?_)
      · refine z_iconst hZ dX8_append_22 ?_
        refine z_iconst hZ dX8_append_23 ?_
        refine z_cV hZ (As := [_, _, _]) rfl dX8_append_24 ml_X8_146 wy_X8_goes (m_X8_goes l hx hF (by first | exact b2_in _ | omega) (by first | exact b2_in _ | omega) (by first | exact b2_in _ | omega)) (by assumption) (by assumption) rfl ⟨Nat.le_of_ble_eq_true rfl, Nat.le_of_ble_eq_true rfl⟩ ⟨Nat.le_of_ble_eq_true rfl, Nat.le_of_ble_eq_true rfl⟩ (Nat.le_of_ble_eq_true rfl) (fun _ _ _ h => h.elim) (fun v24 L24 G24 hp24 => ?_)
        obtain ⟨rfl, rfl, hF, f24⟩ := hp24
        have hF := hF
        have hg := (f24 a (Ne.symm hxa)).trans hg
        have hQ := (f24 q (Ne.symm hxq)).trans hQ
        have hC := (f24 c (Ne.symm hxc)).trans hC
        have t := ms.of hx ha hxa hF hg
        have fr := fm.x fr f24
        refine z_if_ne_b hZ (tgt := 32) dX8_append_27 rfl (fun hc27 => ?_) (fun hc27 => ?_)
        · have hz := goV_0.mp hc27
          exfalso; omega
        · refine z_iconst hZ dX8_append_30 ?_
          exact z_iret hZ rfl (Nat.le_of_ble_eq_true rfl) (Nat.le_of_ble_eq_true rfl) dX8_append_31 (by exact ⟨rfl, fr, Or.inr (Or.inl ⟨q1, rfl, A, hF, hg, hQ, hC⟩)⟩)
      · refine z_iconst hZ dX8_append_18 ?_
        refine z_goto hZ (tgt := 23) dX8_append_19 rfl ?_
        refine z_iconst hZ dX8_append_23 ?_
        refine z_cV hZ (As := [_, _, _]) rfl dX8_append_24 ml_X8_146 wy_X8_goes (m_X8_goes l hx hF (by first | exact b2_in _ | omega) (by first | exact b2_in _ | omega) (by first | exact b2_in _ | omega)) (by assumption) (by assumption) rfl ⟨Nat.le_of_ble_eq_true rfl, Nat.le_of_ble_eq_true rfl⟩ ⟨Nat.le_of_ble_eq_true rfl, Nat.le_of_ble_eq_true rfl⟩ (Nat.le_of_ble_eq_true rfl) (fun _ _ _ h => h.elim) (fun v24 L24 G24 hp24 => ?_)
        obtain ⟨rfl, rfl, hF, f24⟩ := hp24
        have hF := hF
        have hg := (f24 a (Ne.symm hxa)).trans hg
        have hQ := (f24 q (Ne.symm hxq)).trans hQ
        have hC := (f24 c (Ne.symm hxc)).trans hC
        have t := ms.of hx ha hxa hF hg
        have fr := fm.x fr f24
        refine z_if_ne_b hZ (tgt := 32) dX8_append_27 rfl (fun hc27 => ?_) (fun hc27 => ?_)
        · have hz := goV_0.mp hc27
          exfalso; omega
        · refine z_iconst hZ dX8_append_30 ?_
          exact z_iret hZ rfl (Nat.le_of_ble_eq_true rfl) (Nat.le_of_ble_eq_true rfl) dX8_append_31 (by exact ⟨rfl, fr, Or.inr (Or.inl ⟨q1, rfl, A, hF, hg, hQ, hC⟩)⟩)
  exact hgo
set_option maxRecDepth 100000 in
set_option maxHeartbeats 4000000 in
theorem m_X8_clearBuffer (l : Launch) {L : List Nat} {F : Nat → PE} {x a q c : Nat} {g : Int → Int} {sv th kd n pt tm sg : Int} {kp bf : Int → Int} (o : mo L F x a q c g sv th kd n pt tm sg kp bf) (v : vf g kd) (hs : 0 ≤ sv ∧ sv ≤ 6) : PM l yX8_clearBuffer cX8_clearBuffer 2 (some .int) (rm 1 0 0) L [.ref x] F (fun v9 L1 F1 => v9 = some (.int (iI n)) ∧ L = L1 ∧ fm x a q c F F1 ∧ mo L F1 x a q c g sv 0 kd 0 pt tm sg kp bf) (fun _ _ _ => False) := by
  refine pm_of cd_X8_clearBuffer (by decide +kernel) (Nat.le_of_ble_eq_true rfl) (fun ZZ hZ => ?_)
  have hgo : ZZ 0 0 0 [some (.ref x), none] [] L F := by
    obtain ⟨A, hF, hg, hQ, hC⟩ := id o
    obtain ⟨⟨hx, ha, hqL, hcL⟩, hxa, hxq, hxc, haq, hac, hqc⟩ := id A
    have t := ms.of hx ha hxa hF hg
    have fr : fm x a q c F F := fm.rf
    have r := v.1
    refine z_aload_n0 hZ dX8_clearBuffer_0 ?_
    refine z_iconst hZ dX8_clearBuffer_1 ?_
    refine z_pf_X8_thrown hZ dX8_clearBuffer_2 fl_X8_21 (by assumption) (by assumption) (fun F2 hF2 hf2 => ?_)
    have hF := hF2
    have hg := (hf2 a (Ne.symm hxa)).trans hg
    have hQ := (hf2 q (Ne.symm hxq)).trans hQ
    have hC := (hf2 c (Ne.symm hxc)).trans hC
    have t := ms.of hx ha hxa hF hg
    have fr := fm.x fr hf2
    refine z_aload_n0 hZ dX8_clearBuffer_5 ?_
    refine z_gf_X8_typed hZ dX8_clearBuffer_6 fl_X8_159 (by assumption) (by assumption) ?_
    refine z_istore_n1 hZ dX8_clearBuffer_9 (by decide) rfl ?_
    refine z_aload_n0 hZ dX8_clearBuffer_10 ?_
    refine z_iconst hZ dX8_clearBuffer_11 ?_
    refine z_pf_X8_typed hZ dX8_clearBuffer_12 fl_X8_159 (by assumption) (by assumption) (fun F12 hF12 hf12 => ?_)
    have hF := hF12
    have hg := (hf12 a (Ne.symm hxa)).trans hg
    have hQ := (hf12 q (Ne.symm hxq)).trans hQ
    have hC := (hf12 c (Ne.symm hxc)).trans hC
    have t := ms.of hx ha hxa hF hg
    have fr := fm.x fr hf12
    refine z_iload_n1 hZ dX8_clearBuffer_15 ?_
    exact z_iret hZ rfl (Nat.le_of_ble_eq_true rfl) (Nat.le_of_ble_eq_true rfl) dX8_clearBuffer_16 (by exact ⟨rfl, rfl, fr, A, hF, hg, hQ, hC⟩)
  exact hgo
set_option maxRecDepth 100000 in
set_option maxHeartbeats 4000000 in
theorem m_X8_keep (l : Launch) {L : List Nat} {F : Nat → PE} {x a q c : Nat} {g : Int → Int} {sv th kd n pt tm sg : Int} {kp bf : Int → Int} (o : mo L F x a q c g sv th kd n pt tm sg kp bf) (v : vf g kd) (hs : 0 ≤ sv ∧ sv ≤ 6) {y : Int} (hy : -2147483648 ≤ y ∧ y ≤ 2147483647) : PM l yX8_keep cX8_keep 2 none (rm 2 0 0) L [.ref x, .int (iI y)] F (fun v9 L1 F1 => v9 = none ∧ L = L1 ∧ fm x a q c F F1 ∧ (((0 ≤ y ∧ y ≤ 1) ∧ mo L F1 x a q c (cpy g 0 (7 + y)) sv 0 kd n pt tm sg (wu kp y 1) bf) ∨ (¬ (0 ≤ y ∧ y ≤ 1) ∧ mo L F1 x a q c g sv 1 kd n pt tm sg kp bf))) (fun _ _ _ => False) := by
  refine pm_of cd_X8_keep (by decide +kernel) (Nat.le_of_ble_eq_true rfl) (fun ZZ hZ => ?_)
  have hgo : ZZ 0 0 0 [some (.ref x), some (.int (iI y))] [] L F := by
    obtain ⟨A, hF, hg, hQ, hC⟩ := id o
    obtain ⟨⟨hx, ha, hqL, hcL⟩, hxa, hxq, hxc, haq, hac, hqc⟩ := id A
    have t := ms.of hx ha hxa hF hg
    have fr : fm x a q c F F := fm.rf
    have r := v.1
    refine z_aload_n0 hZ dX8_keep_0 ?_
    refine z_iload_n1 hZ dX8_keep_1 ?_
    refine z_iconst hZ dX8_keep_2 ?_
    refine z_iconst hZ dX8_keep_3 ?_
    refine z_cS hZ (As := [_, _, _]) rfl dX8_keep_4 ml_X8_32 wy_X8_in (m_X8_in l (by omega) (by omega) (by omega)) ⟨Nat.le_of_ble_eq_true rfl, Nat.le_of_ble_eq_true rfl⟩ ⟨Nat.le_of_ble_eq_true rfl, Nat.le_of_ble_eq_true rfl⟩ (Nat.le_of_ble_eq_true rfl) (fun _ _ _ h => h.elim) (fun v4 L4 G4 hp4 => ?_)
    obtain ⟨rfl, rfl, rfl⟩ := hp4
    refine z_iconst hZ dX8_keep_7 ?_
    refine z_iconst hZ dX8_keep_8 ?_
    refine z_cV hZ (As := [_, _, _]) rfl dX8_keep_9 ml_X8_146 wy_X8_goes (m_X8_goes l hx hF (by first | exact b2_in _ | omega) (by first | exact b2_in _ | omega) (by first | exact b2_in _ | omega)) (by assumption) (by assumption) rfl ⟨Nat.le_of_ble_eq_true rfl, Nat.le_of_ble_eq_true rfl⟩ ⟨Nat.le_of_ble_eq_true rfl, Nat.le_of_ble_eq_true rfl⟩ (Nat.le_of_ble_eq_true rfl) (fun _ _ _ h => h.elim) (fun v9 L9 G9 hp9 => ?_)
    obtain ⟨rfl, rfl, hF, f9⟩ := hp9
    have hF := hF
    have hg := (f9 a (Ne.symm hxa)).trans hg
    have hQ := (f9 q (Ne.symm hxq)).trans hQ
    have hC := (f9 c (Ne.symm hxc)).trans hC
    have t := ms.of hx ha hxa hF hg
    have fr := fm.x fr f9
    refine z_if_eq_b hZ (tgt := 31) dX8_keep_12 rfl (fun hc12 => ?_) (fun hc12 => ?_)
    · have hz : ¬ (0 ≤ y ∧ y ≤ 1) := fun z => hc12 (goV_0.mpr ⟨b2_ne.mpr z, by decide, by decide⟩)
      exact z_vret hZ rfl (Nat.le_of_ble_eq_true rfl) (Nat.le_of_ble_eq_true rfl) dX8_keep_31 (by
            first
              | exact ⟨rfl, rfl, fr, Or.inl ⟨by omega, A, hF, hg, hQ, hC⟩⟩
              | (rw [b2_f hz] at hF; exact ⟨rfl, rfl, fr, Or.inr ⟨hz, A, hF, hg, hQ, hC⟩⟩))
    · have hz : 0 ≤ y ∧ y ≤ 1 := b2_ne.mp (goV_0.mp hc12).1
      rw [hc12] at hF
      refine z_aload_n0 hZ dX8_keep_15 ?_
      refine z_iconst hZ dX8_keep_16 ?_
      refine z_bipush hZ dX8_keep_17 rfl ?_
      refine z_iload_n1 hZ dX8_keep_19 ?_
      refine z_iadd hZ dX8_keep_20 ?_
      refine z_cV hZ (As := [_, _]) rfl dX8_keep_21 ml_X8_28 wy_X8_copies (m_X8_copies l t (by omega)) (by assumption) (by assumption) rfl ⟨Nat.le_of_ble_eq_true rfl, Nat.le_of_ble_eq_true rfl⟩ ⟨Nat.le_of_ble_eq_true rfl, Nat.le_of_ble_eq_true rfl⟩ (Nat.le_of_ble_eq_true rfl) (fun _ _ _ h => h.elim) (fun v21 L21 G21 hp21 => ?_)
      obtain ⟨rfl, rfl, hg, f21⟩ := hp21
      have hF := (f21 x hxa).trans hF
      have hg := hg
      have hQ := (f21 q (Ne.symm haq)).trans hQ
      have hC := (f21 c (Ne.symm hac)).trans hC
      have t := ms.of hx ha hxa hF hg
      have fr := fm.a fr f21
      refine z_aload_n0 hZ dX8_keep_24 ?_
      refine z_gf_X8_isKept hZ dX8_keep_25 fl_X8_13 (by assumption) (by assumption) ?_
      refine z_iload_n1 hZ dX8_keep_28 ?_
      refine z_iconst hZ dX8_keep_29 ?_
      refine z_bastore hZ dX8_keep_30 (by assumption) (by assumption) (by omega) (by omega) (fun F30 hF30 hf30 => ?_)
      have hF := (hf30 x hxq).trans hF
      have hg := (hf30 a haq).trans hg
      have hQ := hF30
      have hC := (hf30 c (Ne.symm hqc)).trans hC
      have fr := fm.q fr hf30
      exact z_vret hZ rfl (Nat.le_of_ble_eq_true rfl) (Nat.le_of_ble_eq_true rfl) dX8_keep_31 (by
            first
              | exact ⟨rfl, rfl, fr, Or.inl ⟨by omega, A, hF, hg, hQ, hC⟩⟩
              | (rw [b2_f hz] at hF; exact ⟨rfl, rfl, fr, Or.inr ⟨hz, A, hF, hg, hQ, hC⟩⟩))
  exact hgo
set_option maxRecDepth 100000 in
set_option maxHeartbeats 4000000 in
theorem m_X8_goBack (l : Launch) {L : List Nat} {F : Nat → PE} {x a q c : Nat} {g : Int → Int} {sv th kd n pt tm sg : Int} {kp bf : Int → Int} (o : mo L F x a q c g sv th kd n pt tm sg kp bf) (v : vf g kd) (hs : 0 ≤ sv ∧ sv ≤ 6) (hk : ∀ s, (s = 0 ∨ s = 1) → kp s = 0 ∨ kp s = 1) {y : Int} (hy : -2147483648 ≤ y ∧ y ≤ 2147483647) : PM l yX8_goBack cX8_goBack 3 none (rm 3 0 0) L [.ref x, .int (iI y)] F (fun v9 L1 F1 => v9 = none ∧ L = L1 ∧ fm x a q c F F1 ∧ (((0 ≤ y ∧ y ≤ 1) ∧ kp y = 1 ∧ ∃ h, svP 0 sv g h ∧ mo L F1 x a q c (cpy h (7 + y) 0) (hN sv) 0 0 n pt tm sg kp bf) ∨ (¬ (0 ≤ y ∧ y ≤ 1) ∧ mo L F1 x a q c g sv 1 kd n pt tm sg kp bf) ∨ ((0 ≤ y ∧ y ≤ 1) ∧ ¬ kp y = 1 ∧ mo L F1 x a q c g sv 2 kd n pt tm sg kp bf))) (fun _ _ _ => False) := by
  refine pm_of cd_X8_goBack (by decide +kernel) (Nat.le_of_ble_eq_true rfl) (fun ZZ hZ => ?_)
  have hgo : ZZ 0 0 0 [some (.ref x), some (.int (iI y)), none] [] L F := by
    obtain ⟨A, hF, hg, hQ, hC⟩ := id o
    obtain ⟨⟨hx, ha, hqL, hcL⟩, hxa, hxq, hxc, haq, hac, hqc⟩ := id A
    have t := ms.of hx ha hxa hF hg
    have fr : fm x a q c F F := fm.rf
    have r := v.1
    by_cases q1 : 0 ≤ y ∧ y ≤ 1
    · have eb : b2 (0 ≤ y ∧ y ≤ 1) = 1 := b2_t q1
      have hk := hk y (by omega)
      refine z_iload_n1 hZ dX8_goBack_0 ?_
      refine z_iconst hZ dX8_goBack_1 ?_
      refine z_iconst hZ dX8_goBack_2 ?_
      refine z_cS hZ (As := [_, _, _]) rfl dX8_goBack_3 ml_X8_32 wy_X8_in (m_X8_in l (by omega) (by omega) (by omega)) ⟨Nat.le_of_ble_eq_true rfl, Nat.le_of_ble_eq_true rfl⟩ ⟨Nat.le_of_ble_eq_true rfl, Nat.le_of_ble_eq_true rfl⟩ (Nat.le_of_ble_eq_true rfl) (fun _ _ _ h => h.elim) (fun v3 L3 G3 hp3 => ?_)
      obtain ⟨rfl, rfl, rfl⟩ := hp3
      rw [eb]
      refine z_istore_n2 hZ dX8_goBack_6 (by decide) rfl ?_
      refine z_aload_n0 hZ dX8_goBack_7 ?_
      refine z_iload_n2 hZ dX8_goBack_8 ?_
      refine z_iload_n2 hZ dX8_goBack_9 ?_
      refine z_if_eq hZ (tgt := 26) dX8_goBack_10 rfl (by omega) (fun hc10 => ?_) (fun hc10 => ?_)
      · refine z_iconst hZ dX8_goBack_26 ?_
        refine z_iconst hZ dX8_goBack_27 ?_
        refine z_cV hZ (As := [_, _, _]) rfl dX8_goBack_28 ml_X8_146 wy_X8_goes (m_X8_goes l hx hF (by first | exact b2_in _ | omega) (by first | exact b2_in _ | omega) (by first | exact b2_in _ | omega)) (by assumption) (by assumption) rfl ⟨Nat.le_of_ble_eq_true rfl, Nat.le_of_ble_eq_true rfl⟩ ⟨Nat.le_of_ble_eq_true rfl, Nat.le_of_ble_eq_true rfl⟩ (Nat.le_of_ble_eq_true rfl) (fun _ _ _ h => h.elim) (fun v28 L28 G28 hp28 => ?_)
        obtain ⟨rfl, rfl, hF, f28⟩ := hp28
        have hF := hF
        have hg := (f28 a (Ne.symm hxa)).trans hg
        have hQ := (f28 q (Ne.symm hxq)).trans hQ
        have hC := (f28 c (Ne.symm hxc)).trans hC
        have t := ms.of hx ha hxa hF hg
        have fr := fm.x fr f28
        refine z_if_eq_b hZ (tgt := 52) dX8_goBack_31 rfl (fun hc31 => ?_) (fun hc31 => ?_)
        · have hz : ¬ _ := fun z => hc31 (goV_0.mpr z)
          exact z_vret hZ rfl (Nat.le_of_ble_eq_true rfl) (Nat.le_of_ble_eq_true rfl) dX8_goBack_52 (by
            first
              | (exfalso; omega)
              | exact ⟨rfl, rfl, fr, Or.inl ⟨q1, by omega, h, hsv, A, hF, hg, hQ, hC⟩⟩
              | exact ⟨rfl, rfl, fr, Or.inr (Or.inr ⟨q1, by omega, A, hF, hg, hQ, hC⟩)⟩)
        · have hz := goV_0.mp hc31
          refine z_aload_n0 hZ dX8_goBack_34 ?_
          refine z_cV hZ (As := []) rfl dX8_goBack_35 ml_X8_150 wy_X8_saves (m_X8_saves l hx ha hxa hF hg hs) (by assumption) (by assumption) rfl ⟨Nat.le_of_ble_eq_true rfl, Nat.le_of_ble_eq_true rfl⟩ ⟨Nat.le_of_ble_eq_true rfl, Nat.le_of_ble_eq_true rfl⟩ (Nat.le_of_ble_eq_true rfl) (fun _ _ _ h => h.elim) (fun v35 L35 G35 hp35 => ?_)
          obtain ⟨rfl, rfl, ⟨h, hsv, hg⟩, hF, f35⟩ := hp35
          have hQ := (f35 q (Ne.symm hxq) (Ne.symm haq)).trans hQ
          have hC := (f35 c (Ne.symm hxc) (Ne.symm hac)).trans hC
          have fr := fm.xa fr f35
          have t := ms.of hx ha hxa hF hg
          refine z_aload_n0 hZ dX8_goBack_38 ?_
          refine z_bipush hZ dX8_goBack_39 rfl ?_
          refine z_iload_n1 hZ dX8_goBack_41 ?_
          refine z_iadd hZ dX8_goBack_42 ?_
          refine z_iconst hZ dX8_goBack_43 ?_
          refine z_cV hZ (As := [_, _]) rfl dX8_goBack_44 ml_X8_28 wy_X8_copies (m_X8_copies l t (by omega)) (by assumption) (by assumption) rfl ⟨Nat.le_of_ble_eq_true rfl, Nat.le_of_ble_eq_true rfl⟩ ⟨Nat.le_of_ble_eq_true rfl, Nat.le_of_ble_eq_true rfl⟩ (Nat.le_of_ble_eq_true rfl) (fun _ _ _ h => h.elim) (fun v44 L44 G44 hp44 => ?_)
          obtain ⟨rfl, rfl, hg, f44⟩ := hp44
          have hF := (f44 x hxa).trans hF
          have hg := hg
          have hQ := (f44 q (Ne.symm haq)).trans hQ
          have hC := (f44 c (Ne.symm hac)).trans hC
          have t := ms.of hx ha hxa hF hg
          have fr := fm.a fr f44
          refine z_aload_n0 hZ dX8_goBack_47 ?_
          refine z_iconst hZ dX8_goBack_48 ?_
          refine z_pf_X8_kind hZ dX8_goBack_49 fl_X8_67 (by assumption) (by assumption) (fun F49 hF49 hf49 => ?_)
          have hF := hF49
          have hg := (hf49 a (Ne.symm hxa)).trans hg
          have hQ := (hf49 q (Ne.symm hxq)).trans hQ
          have hC := (hf49 c (Ne.symm hxc)).trans hC
          have t := ms.of hx ha hxa hF hg
          have fr := fm.x fr hf49
          exact z_vret hZ rfl (Nat.le_of_ble_eq_true rfl) (Nat.le_of_ble_eq_true rfl) dX8_goBack_52 (by
            first
              | (exfalso; omega)
              | exact ⟨rfl, rfl, fr, Or.inl ⟨q1, by omega, h, hsv, A, hF, hg, hQ, hC⟩⟩
              | exact ⟨rfl, rfl, fr, Or.inr (Or.inr ⟨q1, by omega, A, hF, hg, hQ, hC⟩)⟩)
      · refine z_aload_n0 hZ dX8_goBack_13 ?_
        refine z_gf_X8_isKept hZ dX8_goBack_14 fl_X8_13 (by assumption) (by assumption) ?_
        refine z_iload_n1 hZ dX8_goBack_17 ?_
        refine z_baload hZ dX8_goBack_18 (by assumption) (by assumption) (by omega) ?_
        refine z_if_eq hZ (tgt := 26) dX8_goBack_19 rfl (by omega) (fun hc19 => ?_) (fun hc19 => ?_)
        · refine z_iconst hZ dX8_goBack_26 ?_
          refine z_iconst hZ dX8_goBack_27 ?_
          refine z_cV hZ (As := [_, _, _]) rfl dX8_goBack_28 ml_X8_146 wy_X8_goes (m_X8_goes l hx hF (by first | exact b2_in _ | omega) (by first | exact b2_in _ | omega) (by first | exact b2_in _ | omega)) (by assumption) (by assumption) rfl ⟨Nat.le_of_ble_eq_true rfl, Nat.le_of_ble_eq_true rfl⟩ ⟨Nat.le_of_ble_eq_true rfl, Nat.le_of_ble_eq_true rfl⟩ (Nat.le_of_ble_eq_true rfl) (fun _ _ _ h => h.elim) (fun v28 L28 G28 hp28 => ?_)
          obtain ⟨rfl, rfl, hF, f28⟩ := hp28
          have hF := hF
          have hg := (f28 a (Ne.symm hxa)).trans hg
          have hQ := (f28 q (Ne.symm hxq)).trans hQ
          have hC := (f28 c (Ne.symm hxc)).trans hC
          have t := ms.of hx ha hxa hF hg
          have fr := fm.x fr f28
          refine z_if_eq_b hZ (tgt := 52) dX8_goBack_31 rfl (fun hc31 => ?_) (fun hc31 => ?_)
          · have hz : ¬ _ := fun z => hc31 (goV_0.mpr z)
            exact z_vret hZ rfl (Nat.le_of_ble_eq_true rfl) (Nat.le_of_ble_eq_true rfl) dX8_goBack_52 (by
            first
              | (exfalso; omega)
              | exact ⟨rfl, rfl, fr, Or.inl ⟨q1, by omega, h, hsv, A, hF, hg, hQ, hC⟩⟩
              | exact ⟨rfl, rfl, fr, Or.inr (Or.inr ⟨q1, by omega, A, hF, hg, hQ, hC⟩)⟩)
          · have hz := goV_0.mp hc31
            refine z_aload_n0 hZ dX8_goBack_34 ?_
            refine z_cV hZ (As := []) rfl dX8_goBack_35 ml_X8_150 wy_X8_saves (m_X8_saves l hx ha hxa hF hg hs) (by assumption) (by assumption) rfl ⟨Nat.le_of_ble_eq_true rfl, Nat.le_of_ble_eq_true rfl⟩ ⟨Nat.le_of_ble_eq_true rfl, Nat.le_of_ble_eq_true rfl⟩ (Nat.le_of_ble_eq_true rfl) (fun _ _ _ h => h.elim) (fun v35 L35 G35 hp35 => ?_)
            obtain ⟨rfl, rfl, ⟨h, hsv, hg⟩, hF, f35⟩ := hp35
            have hQ := (f35 q (Ne.symm hxq) (Ne.symm haq)).trans hQ
            have hC := (f35 c (Ne.symm hxc) (Ne.symm hac)).trans hC
            have fr := fm.xa fr f35
            have t := ms.of hx ha hxa hF hg
            refine z_aload_n0 hZ dX8_goBack_38 ?_
            refine z_bipush hZ dX8_goBack_39 rfl ?_
            refine z_iload_n1 hZ dX8_goBack_41 ?_
            refine z_iadd hZ dX8_goBack_42 ?_
            refine z_iconst hZ dX8_goBack_43 ?_
            refine z_cV hZ (As := [_, _]) rfl dX8_goBack_44 ml_X8_28 wy_X8_copies (m_X8_copies l t (by omega)) (by assumption) (by assumption) rfl ⟨Nat.le_of_ble_eq_true rfl, Nat.le_of_ble_eq_true rfl⟩ ⟨Nat.le_of_ble_eq_true rfl, Nat.le_of_ble_eq_true rfl⟩ (Nat.le_of_ble_eq_true rfl) (fun _ _ _ h => h.elim) (fun v44 L44 G44 hp44 => ?_)
            obtain ⟨rfl, rfl, hg, f44⟩ := hp44
            have hF := (f44 x hxa).trans hF
            have hg := hg
            have hQ := (f44 q (Ne.symm haq)).trans hQ
            have hC := (f44 c (Ne.symm hac)).trans hC
            have t := ms.of hx ha hxa hF hg
            have fr := fm.a fr f44
            refine z_aload_n0 hZ dX8_goBack_47 ?_
            refine z_iconst hZ dX8_goBack_48 ?_
            refine z_pf_X8_kind hZ dX8_goBack_49 fl_X8_67 (by assumption) (by assumption) (fun F49 hF49 hf49 => ?_)
            have hF := hF49
            have hg := (hf49 a (Ne.symm hxa)).trans hg
            have hQ := (hf49 q (Ne.symm hxq)).trans hQ
            have hC := (hf49 c (Ne.symm hxc)).trans hC
            have t := ms.of hx ha hxa hF hg
            have fr := fm.x fr hf49
            exact z_vret hZ rfl (Nat.le_of_ble_eq_true rfl) (Nat.le_of_ble_eq_true rfl) dX8_goBack_52 (by
            first
              | (exfalso; omega)
              | exact ⟨rfl, rfl, fr, Or.inl ⟨q1, by omega, h, hsv, A, hF, hg, hQ, hC⟩⟩
              | exact ⟨rfl, rfl, fr, Or.inr (Or.inr ⟨q1, by omega, A, hF, hg, hQ, hC⟩)⟩)
        · refine z_iconst hZ dX8_goBack_22 ?_
          refine z_goto hZ (tgt := 27) dX8_goBack_23 rfl ?_
          refine z_iconst hZ dX8_goBack_27 ?_
          refine z_cV hZ (As := [_, _, _]) rfl dX8_goBack_28 ml_X8_146 wy_X8_goes (m_X8_goes l hx hF (by first | exact b2_in _ | omega) (by first | exact b2_in _ | omega) (by first | exact b2_in _ | omega)) (by assumption) (by assumption) rfl ⟨Nat.le_of_ble_eq_true rfl, Nat.le_of_ble_eq_true rfl⟩ ⟨Nat.le_of_ble_eq_true rfl, Nat.le_of_ble_eq_true rfl⟩ (Nat.le_of_ble_eq_true rfl) (fun _ _ _ h => h.elim) (fun v28 L28 G28 hp28 => ?_)
          obtain ⟨rfl, rfl, hF, f28⟩ := hp28
          have hF := hF
          have hg := (f28 a (Ne.symm hxa)).trans hg
          have hQ := (f28 q (Ne.symm hxq)).trans hQ
          have hC := (f28 c (Ne.symm hxc)).trans hC
          have t := ms.of hx ha hxa hF hg
          have fr := fm.x fr f28
          refine z_if_eq_b hZ (tgt := 52) dX8_goBack_31 rfl (fun hc31 => ?_) (fun hc31 => ?_)
          · have hz : ¬ _ := fun z => hc31 (goV_0.mpr z)
            exact z_vret hZ rfl (Nat.le_of_ble_eq_true rfl) (Nat.le_of_ble_eq_true rfl) dX8_goBack_52 (by
            first
              | (exfalso; omega)
              | exact ⟨rfl, rfl, fr, Or.inl ⟨q1, by omega, h, hsv, A, hF, hg, hQ, hC⟩⟩
              | exact ⟨rfl, rfl, fr, Or.inr (Or.inr ⟨q1, by omega, A, hF, hg, hQ, hC⟩)⟩)
          · have hz := goV_0.mp hc31
            refine z_aload_n0 hZ dX8_goBack_34 ?_
            refine z_cV hZ (As := []) rfl dX8_goBack_35 ml_X8_150 wy_X8_saves (m_X8_saves l hx ha hxa hF hg hs) (by assumption) (by assumption) rfl ⟨Nat.le_of_ble_eq_true rfl, Nat.le_of_ble_eq_true rfl⟩ ⟨Nat.le_of_ble_eq_true rfl, Nat.le_of_ble_eq_true rfl⟩ (Nat.le_of_ble_eq_true rfl) (fun _ _ _ h => h.elim) (fun v35 L35 G35 hp35 => ?_)
            obtain ⟨rfl, rfl, ⟨h, hsv, hg⟩, hF, f35⟩ := hp35
            have hQ := (f35 q (Ne.symm hxq) (Ne.symm haq)).trans hQ
            have hC := (f35 c (Ne.symm hxc) (Ne.symm hac)).trans hC
            have fr := fm.xa fr f35
            have t := ms.of hx ha hxa hF hg
            refine z_aload_n0 hZ dX8_goBack_38 ?_
            refine z_bipush hZ dX8_goBack_39 rfl ?_
            refine z_iload_n1 hZ dX8_goBack_41 ?_
            refine z_iadd hZ dX8_goBack_42 ?_
            refine z_iconst hZ dX8_goBack_43 ?_
            refine z_cV hZ (As := [_, _]) rfl dX8_goBack_44 ml_X8_28 wy_X8_copies (m_X8_copies l t (by omega)) (by assumption) (by assumption) rfl ⟨Nat.le_of_ble_eq_true rfl, Nat.le_of_ble_eq_true rfl⟩ ⟨Nat.le_of_ble_eq_true rfl, Nat.le_of_ble_eq_true rfl⟩ (Nat.le_of_ble_eq_true rfl) (fun _ _ _ h => h.elim) (fun v44 L44 G44 hp44 => ?_)
            obtain ⟨rfl, rfl, hg, f44⟩ := hp44
            have hF := (f44 x hxa).trans hF
            have hg := hg
            have hQ := (f44 q (Ne.symm haq)).trans hQ
            have hC := (f44 c (Ne.symm hac)).trans hC
            have t := ms.of hx ha hxa hF hg
            have fr := fm.a fr f44
            refine z_aload_n0 hZ dX8_goBack_47 ?_
            refine z_iconst hZ dX8_goBack_48 ?_
            refine z_pf_X8_kind hZ dX8_goBack_49 fl_X8_67 (by assumption) (by assumption) (fun F49 hF49 hf49 => ?_)
            have hF := hF49
            have hg := (hf49 a (Ne.symm hxa)).trans hg
            have hQ := (hf49 q (Ne.symm hxq)).trans hQ
            have hC := (hf49 c (Ne.symm hxc)).trans hC
            have t := ms.of hx ha hxa hF hg
            have fr := fm.x fr hf49
            exact z_vret hZ rfl (Nat.le_of_ble_eq_true rfl) (Nat.le_of_ble_eq_true rfl) dX8_goBack_52 (by
            first
              | (exfalso; omega)
              | exact ⟨rfl, rfl, fr, Or.inl ⟨q1, by omega, h, hsv, A, hF, hg, hQ, hC⟩⟩
              | exact ⟨rfl, rfl, fr, Or.inr (Or.inr ⟨q1, by omega, A, hF, hg, hQ, hC⟩)⟩)
    · have eb : b2 (0 ≤ y ∧ y ≤ 1) = 0 := b2_f q1
      refine z_iload_n1 hZ dX8_goBack_0 ?_
      refine z_iconst hZ dX8_goBack_1 ?_
      refine z_iconst hZ dX8_goBack_2 ?_
      refine z_cS hZ (As := [_, _, _]) rfl dX8_goBack_3 ml_X8_32 wy_X8_in (m_X8_in l (by omega) (by omega) (by omega)) ⟨Nat.le_of_ble_eq_true rfl, Nat.le_of_ble_eq_true rfl⟩ ⟨Nat.le_of_ble_eq_true rfl, Nat.le_of_ble_eq_true rfl⟩ (Nat.le_of_ble_eq_true rfl) (fun _ _ _ h => h.elim) (fun v3 L3 G3 hp3 => ?_)
      obtain ⟨rfl, rfl, rfl⟩ := hp3
      rw [eb]
      refine z_istore_n2 hZ dX8_goBack_6 (by decide) rfl ?_
      refine z_aload_n0 hZ dX8_goBack_7 ?_
      refine z_iload_n2 hZ dX8_goBack_8 ?_
      refine z_iload_n2 hZ dX8_goBack_9 ?_
      refine z_if_eq hZ (tgt := 26) dX8_goBack_10 rfl (by omega) (fun hc10 => ?_) (fun hc10 => ?_)
      · refine z_iconst hZ dX8_goBack_26 ?_
        refine z_iconst hZ dX8_goBack_27 ?_
        refine z_cV hZ (As := [_, _, _]) rfl dX8_goBack_28 ml_X8_146 wy_X8_goes (m_X8_goes l hx hF (by first | exact b2_in _ | omega) (by first | exact b2_in _ | omega) (by first | exact b2_in _ | omega)) (by assumption) (by assumption) rfl ⟨Nat.le_of_ble_eq_true rfl, Nat.le_of_ble_eq_true rfl⟩ ⟨Nat.le_of_ble_eq_true rfl, Nat.le_of_ble_eq_true rfl⟩ (Nat.le_of_ble_eq_true rfl) (fun _ _ _ h => h.elim) (fun v28 L28 G28 hp28 => ?_)
        obtain ⟨rfl, rfl, hF, f28⟩ := hp28
        have hF := hF
        have hg := (f28 a (Ne.symm hxa)).trans hg
        have hQ := (f28 q (Ne.symm hxq)).trans hQ
        have hC := (f28 c (Ne.symm hxc)).trans hC
        have t := ms.of hx ha hxa hF hg
        have fr := fm.x fr f28
        refine z_if_eq_b hZ (tgt := 52) dX8_goBack_31 rfl (fun hc31 => ?_) (fun hc31 => ?_)
        · exact z_vret hZ rfl (Nat.le_of_ble_eq_true rfl) (Nat.le_of_ble_eq_true rfl) dX8_goBack_52 (by exact ⟨rfl, rfl, fr, Or.inr (Or.inl ⟨q1, A, hF, hg, hQ, hC⟩)⟩)
        · have hz := goV_0.mp hc31
          exfalso; omega
      · exfalso; omega
  exact hgo
set_option maxRecDepth 100000 in
set_option maxHeartbeats 4000000 in
theorem m_X8_undo (l : Launch) {L : List Nat} {F : Nat → PE} {x a q c : Nat} {g : Int → Int} {sv th kd n pt tm sg : Int} {kp bf : Int → Int} (o : mo L F x a q c g sv th kd n pt tm sg kp bf) (v : vf g kd) (hs : 0 ≤ sv ∧ sv ≤ 6) : PM l yX8_undo cX8_undo 1 none (rm 2 0 0) L [.ref x] F (fun v9 L1 F1 => v9 = none ∧ L = L1 ∧ fm x a q c F F1 ∧ ((0 < sv ∧ mo L F1 x a q c (cpy g sv 0) (sv - 1) 0 0 n pt tm sg kp bf) ∨ (¬ 0 < sv ∧ mo L F1 x a q c g sv 1 kd n pt tm sg kp bf))) (fun _ _ _ => False) := by
  refine pm_of cd_X8_undo (by decide +kernel) (Nat.le_of_ble_eq_true rfl) (fun ZZ hZ => ?_)
  have hgo : ZZ 0 0 0 [some (.ref x)] [] L F := by
    obtain ⟨A, hF, hg, hQ, hC⟩ := id o
    obtain ⟨⟨hx, ha, hqL, hcL⟩, hxa, hxq, hxc, haq, hac, hqc⟩ := id A
    have t := ms.of hx ha hxa hF hg
    have fr : fm x a q c F F := fm.rf
    have r := v.1
    refine z_aload_n0 hZ dX8_undo_0 ?_
    refine z_aload_n0 hZ dX8_undo_1 ?_
    refine z_gf_X8_states hZ dX8_undo_2 fl_X8_25 (by assumption) (by assumption) ?_
    refine z_if_le hZ (tgt := 12) dX8_undo_5 rfl (by omega) (fun hc5 => ?_) (fun hc5 => ?_)
    · refine z_iconst hZ dX8_undo_12 ?_
      refine z_iconst hZ dX8_undo_13 ?_
      refine z_iconst hZ dX8_undo_14 ?_
      refine z_cV hZ (As := [_, _, _]) rfl dX8_undo_15 ml_X8_146 wy_X8_goes (m_X8_goes l hx hF (by first | exact b2_in _ | omega) (by first | exact b2_in _ | omega) (by first | exact b2_in _ | omega)) (by assumption) (by assumption) rfl ⟨Nat.le_of_ble_eq_true rfl, Nat.le_of_ble_eq_true rfl⟩ ⟨Nat.le_of_ble_eq_true rfl, Nat.le_of_ble_eq_true rfl⟩ (Nat.le_of_ble_eq_true rfl) (fun _ _ _ h => h.elim) (fun v15 L15 G15 hp15 => ?_)
      obtain ⟨rfl, rfl, hF, f15⟩ := hp15
      have hF := hF
      have hg := (f15 a (Ne.symm hxa)).trans hg
      have hQ := (f15 q (Ne.symm hxq)).trans hQ
      have hC := (f15 c (Ne.symm hxc)).trans hC
      have t := ms.of hx ha hxa hF hg
      have fr := fm.x fr f15
      refine z_if_eq_b hZ (tgt := 45) dX8_undo_18 rfl (fun hc18 => ?_) (fun hc18 => ?_)
      · have hz : ¬ _ := fun z => hc18 (goV_0.mpr z)
        exact z_vret hZ rfl (Nat.le_of_ble_eq_true rfl) (Nat.le_of_ble_eq_true rfl) dX8_undo_45 (by
            first
              | (exfalso; omega)
              | exact ⟨rfl, rfl, fr, Or.inl ⟨by omega, A, hF, hg, hQ, hC⟩⟩
              | exact ⟨rfl, rfl, fr, Or.inr ⟨by omega, A, hF, hg, hQ, hC⟩⟩)
      · have hz := goV_0.mp hc18
        have hz : 0 < sv := by omega
        refine z_aload_n0 hZ dX8_undo_21 ?_
        refine z_aload_n0 hZ dX8_undo_22 ?_
        refine z_gf_X8_states hZ dX8_undo_23 fl_X8_25 (by assumption) (by assumption) ?_
        refine z_iconst hZ dX8_undo_26 ?_
        refine z_cV hZ (As := [_, _]) rfl dX8_undo_27 ml_X8_28 wy_X8_copies (m_X8_copies l t (by omega)) (by assumption) (by assumption) rfl ⟨Nat.le_of_ble_eq_true rfl, Nat.le_of_ble_eq_true rfl⟩ ⟨Nat.le_of_ble_eq_true rfl, Nat.le_of_ble_eq_true rfl⟩ (Nat.le_of_ble_eq_true rfl) (fun _ _ _ h => h.elim) (fun v27 L27 G27 hp27 => ?_)
        obtain ⟨rfl, rfl, hg, f27⟩ := hp27
        have hF := (f27 x hxa).trans hF
        have hg := hg
        have hQ := (f27 q (Ne.symm haq)).trans hQ
        have hC := (f27 c (Ne.symm hac)).trans hC
        have t := ms.of hx ha hxa hF hg
        have fr := fm.a fr f27
        refine z_aload_n0 hZ dX8_undo_30 ?_
        refine z_dup hZ dX8_undo_31 rfl ?_
        refine z_gf_X8_states hZ dX8_undo_32 fl_X8_25 (by assumption) (by assumption) ?_
        refine z_iconst hZ dX8_undo_35 ?_
        refine z_isub hZ dX8_undo_36 ?_
        refine z_pf_X8_states hZ dX8_undo_37 fl_X8_25 (by assumption) (by assumption) (fun F37 hF37 hf37 => ?_)
        have hF := hF37
        have hg := (hf37 a (Ne.symm hxa)).trans hg
        have hQ := (hf37 q (Ne.symm hxq)).trans hQ
        have hC := (hf37 c (Ne.symm hxc)).trans hC
        have t := ms.of hx ha hxa hF hg
        have fr := fm.x fr hf37
        refine z_aload_n0 hZ dX8_undo_40 ?_
        refine z_iconst hZ dX8_undo_41 ?_
        refine z_pf_X8_kind hZ dX8_undo_42 fl_X8_67 (by assumption) (by assumption) (fun F42 hF42 hf42 => ?_)
        have hF := hF42
        have hg := (hf42 a (Ne.symm hxa)).trans hg
        have hQ := (hf42 q (Ne.symm hxq)).trans hQ
        have hC := (hf42 c (Ne.symm hxc)).trans hC
        have t := ms.of hx ha hxa hF hg
        have fr := fm.x fr hf42
        exact z_vret hZ rfl (Nat.le_of_ble_eq_true rfl) (Nat.le_of_ble_eq_true rfl) dX8_undo_45 (by
            first
              | (exfalso; omega)
              | exact ⟨rfl, rfl, fr, Or.inl ⟨by omega, A, hF, hg, hQ, hC⟩⟩
              | exact ⟨rfl, rfl, fr, Or.inr ⟨by omega, A, hF, hg, hQ, hC⟩⟩)
    · refine z_iconst hZ dX8_undo_8 ?_
      refine z_goto hZ (tgt := 13) dX8_undo_9 rfl ?_
      refine z_iconst hZ dX8_undo_13 ?_
      refine z_iconst hZ dX8_undo_14 ?_
      refine z_cV hZ (As := [_, _, _]) rfl dX8_undo_15 ml_X8_146 wy_X8_goes (m_X8_goes l hx hF (by first | exact b2_in _ | omega) (by first | exact b2_in _ | omega) (by first | exact b2_in _ | omega)) (by assumption) (by assumption) rfl ⟨Nat.le_of_ble_eq_true rfl, Nat.le_of_ble_eq_true rfl⟩ ⟨Nat.le_of_ble_eq_true rfl, Nat.le_of_ble_eq_true rfl⟩ (Nat.le_of_ble_eq_true rfl) (fun _ _ _ h => h.elim) (fun v15 L15 G15 hp15 => ?_)
      obtain ⟨rfl, rfl, hF, f15⟩ := hp15
      have hF := hF
      have hg := (f15 a (Ne.symm hxa)).trans hg
      have hQ := (f15 q (Ne.symm hxq)).trans hQ
      have hC := (f15 c (Ne.symm hxc)).trans hC
      have t := ms.of hx ha hxa hF hg
      have fr := fm.x fr f15
      refine z_if_eq_b hZ (tgt := 45) dX8_undo_18 rfl (fun hc18 => ?_) (fun hc18 => ?_)
      · have hz : ¬ _ := fun z => hc18 (goV_0.mpr z)
        exact z_vret hZ rfl (Nat.le_of_ble_eq_true rfl) (Nat.le_of_ble_eq_true rfl) dX8_undo_45 (by
            first
              | (exfalso; omega)
              | exact ⟨rfl, rfl, fr, Or.inl ⟨by omega, A, hF, hg, hQ, hC⟩⟩
              | exact ⟨rfl, rfl, fr, Or.inr ⟨by omega, A, hF, hg, hQ, hC⟩⟩)
      · have hz := goV_0.mp hc18
        have hz : 0 < sv := by omega
        refine z_aload_n0 hZ dX8_undo_21 ?_
        refine z_aload_n0 hZ dX8_undo_22 ?_
        refine z_gf_X8_states hZ dX8_undo_23 fl_X8_25 (by assumption) (by assumption) ?_
        refine z_iconst hZ dX8_undo_26 ?_
        refine z_cV hZ (As := [_, _]) rfl dX8_undo_27 ml_X8_28 wy_X8_copies (m_X8_copies l t (by omega)) (by assumption) (by assumption) rfl ⟨Nat.le_of_ble_eq_true rfl, Nat.le_of_ble_eq_true rfl⟩ ⟨Nat.le_of_ble_eq_true rfl, Nat.le_of_ble_eq_true rfl⟩ (Nat.le_of_ble_eq_true rfl) (fun _ _ _ h => h.elim) (fun v27 L27 G27 hp27 => ?_)
        obtain ⟨rfl, rfl, hg, f27⟩ := hp27
        have hF := (f27 x hxa).trans hF
        have hg := hg
        have hQ := (f27 q (Ne.symm haq)).trans hQ
        have hC := (f27 c (Ne.symm hac)).trans hC
        have t := ms.of hx ha hxa hF hg
        have fr := fm.a fr f27
        refine z_aload_n0 hZ dX8_undo_30 ?_
        refine z_dup hZ dX8_undo_31 rfl ?_
        refine z_gf_X8_states hZ dX8_undo_32 fl_X8_25 (by assumption) (by assumption) ?_
        refine z_iconst hZ dX8_undo_35 ?_
        refine z_isub hZ dX8_undo_36 ?_
        refine z_pf_X8_states hZ dX8_undo_37 fl_X8_25 (by assumption) (by assumption) (fun F37 hF37 hf37 => ?_)
        have hF := hF37
        have hg := (hf37 a (Ne.symm hxa)).trans hg
        have hQ := (hf37 q (Ne.symm hxq)).trans hQ
        have hC := (hf37 c (Ne.symm hxc)).trans hC
        have t := ms.of hx ha hxa hF hg
        have fr := fm.x fr hf37
        refine z_aload_n0 hZ dX8_undo_40 ?_
        refine z_iconst hZ dX8_undo_41 ?_
        refine z_pf_X8_kind hZ dX8_undo_42 fl_X8_67 (by assumption) (by assumption) (fun F42 hF42 hf42 => ?_)
        have hF := hF42
        have hg := (hf42 a (Ne.symm hxa)).trans hg
        have hQ := (hf42 q (Ne.symm hxq)).trans hQ
        have hC := (hf42 c (Ne.symm hxc)).trans hC
        have t := ms.of hx ha hxa hF hg
        have fr := fm.x fr hf42
        exact z_vret hZ rfl (Nat.le_of_ble_eq_true rfl) (Nat.le_of_ble_eq_true rfl) dX8_undo_45 (by
            first
              | (exfalso; omega)
              | exact ⟨rfl, rfl, fr, Or.inl ⟨by omega, A, hF, hg, hQ, hC⟩⟩
              | exact ⟨rfl, rfl, fr, Or.inr ⟨by omega, A, hF, hg, hQ, hC⟩⟩)
  exact hgo

