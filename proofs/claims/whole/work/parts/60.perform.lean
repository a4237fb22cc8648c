/-! THE MODEL, 9: deeds told as a text are done. -/
theorem coK_hi {g : Int → Int} {z p x : Int} (hz : 0 ≤ p ∧ z ≤ 7) (h : 1818 ≤ x) : coK g z p x = g x := by
  unfold coK
  rw [if_neg (by omega), if_neg (by omega)]
theorem vCol_hi {g : Int → Int} {i j x : Int} (r : 0 ≤ g 3 ∧ g 3 ≤ g 5 ∧ 1 ≤ g 5 ∧ g 5 ≤ 8) (hj : j - i ≤ 200) (h : 1818 ≤ x) : vCol i j g x = g x := by
  have z := fuA_z r
  unfold vCol
  rw [wu_n (by omega)]
  show (if 218 ≤ x ∧ x < 218 + (j - i) then _ else wu (vCol2 (vCol1 g) (g 3 - fuA g)) 10 (j - i) x) = _
  rw [if_neg (by omega), wu_n (by omega), ← coK_0, coK_hi (by omega) h]
  unfold vCol1
  rw [wu_n (by omega), wu_n (by omega)]
theorem vGrw_hi {g : Int → Int} {i j x : Int} {B : Prop} [Decidable B] (hj : 0 ≤ j - i ∧ j - i ≤ 200 ∧ 0 ≤ g 10 ∧ g 10 ≤ 200) (h : 1818 ≤ x) : vGrw i j B g x = g x := by
  have e : vGrw i j B g x = if 218 + (if B then 0 else g 10) ≤ x ∧ x < 218 + (if B then 0 else g 10) + (j - i) then g (18 + i + (x - 218 - (if B then 0 else g 10))) else if B ∧ 218 + (j - i) ≤ x ∧ x < 218 + (j - i) + g 10 then g (x - (j - i)) else g x := (wu_n (by omega)).trans (wu_n (by omega))
  rw [e, if_neg (by split <;> omega), if_neg (by omega)]
theorem dTo_hi {g : Int → Int} {kd c : Int} {d : Nat} (v : vf g kd) (hd : d < 22) (h : dOk d kd g) {z : Int} (hz : 1818 ≤ z) : dTo d c kd g z = g z := by
  have r := v.1
  have rW := wS_rg (n := g 0) (f := fT g) (p := g 1) (by omega)
  have rB := wB_rg (n := g 0) (f := fT g) (p := g 1) (by omega)
  have rE := lE_rg (n := g 0) (f := fT g) (p := g 1) (by omega)
  have rK : kLj g ≤ g 0 := by
    unfold kLj
    by_cases q : lE (g 0) (fT g) (g 1) = g 1 ∧ isE (g 0) (fT g) (g 1) = true
    · rw [if_pos q]
      have z := isE_iff.mp q.2
      by_cases q2 : g 1 < g 0
      · omega
      · rw [cdA_out (by omega)] at z; omega
    · rw [if_neg q]; omega
  have rm : mnI (g 2) (g 1) ≤ g 1 ∧ (g 2 ≠ -1 → 0 ≤ mnI (g 2) (g 1)) ∧ mxI (g 2) (g 1) ≤ g 0 := by unfold mxI mnI; split <;> split <;> omega
  have kl : ∀ (i j : Int) (B : Prop) [Decidable B], 0 ≤ i → i < j → j ≤ g 0 → vKl i j B kd g z = g z := by
    intro i j B _ i0 i1 i2
    unfold vKl
    rw [wu_n (by omega)]
    by_cases q : kd = 1
    · rw [if_pos q]
      have k1 := v.2.1.2.2.2.2.1 q
      have h0 := v.2.1.1 0 (by omega) (by omega)
      rw [show (10 : Int) + 0 = 10 by omega] at h0
      rw [vTk_at (by omega) (by rw [vGrw_at (x := 0) (by omega) (by omega)]; omega), vGrw_hi (by omega) hz]
    · rw [if_neg q, vTk_at (by omega) (by rw [vCol_at (x := 0) (by omega) (by omega)]; omega), vCol_hi (by omega) (by omega) hz]
  have wr : ∀ c, g 0 < 200 → vWr c g z = g z := fun c _ => (by unfold vWr vPar shR wu; (try dsimp only); (repeat (first | rw [if_pos (by omega)] | rw [if_neg (by omega)])); (first | done | rfl | (congr 1; omega) | (split <;> omega)))
  have yk : ∀ w : Int → Int, (0 ≤ w 0 ∧ w 0 ≤ 200 ∧ 0 ≤ w 1 ∧ w 1 ≤ w 0) → 0 ≤ nxL w → w 0 + nxL w ≤ 200 → vYk w z = w z := by
    intro w r2 n0 n1
    have e : vYk w z = if 18 + w 1 ≤ z ∧ z < 18 + w 1 + nxL w then w (218 + 200 * w 4 + (z - 18 - w 1)) else vPar (nxL w) w z := (wu_n (by omega)).trans ((wu_n (by omega)).trans (wu_n (by omega)))
    rw [e, if_neg (by omega)]
    exact vPar_at (by omega) (by omega)
  match d, hd, h with
  | 0, _, _ => exact wu_n (by omega)
  | 1, _, _ => exact wu_n (by omega)
  | 2, _, _ => exact wu_n (by omega)
  | 3, _, _ => exact wu_n (by omega)
  | 4, _, _ => exact wu_n (by omega)
  | 5, _, _ => exact wu_n (by omega)
  | 6, _, _ => exact wu_n (by omega)
  | 7, _, _ => exact (wu_n (by omega)).trans (wu_n (by omega))
  | 8, _, h => exact kl _ _ _ (by omega) h (by omega)
  | 9, _, h => exact kl _ _ _ (by omega) h (by omega)
  | 10, _, h => exact kl _ _ _ (by omega) h (by omega)
  | 11, _, h => exact kl _ _ _ (rm.2.1 h.1) h.2 (by omega)
  | 12, _, h =>
    have h0 := rm.2.1 h.1
    exact vCol_hi (by omega) (by omega) hz
  | 13, _, h =>
    have h1 : 0 < g 3 := h.1
    have h2 : g 0 + nxL g ≤ 200 := h.2
    have r4 := v.2.1.2.2.1 h1
    have rn : 1 ≤ nxL g ∧ nxL g ≤ 200 := v.2.1.1 (g 4) r4.1 r4.2
    exact yk g (by omega) (by omega) h2
  | 14, _, h =>
    have h1 : kd = 2 := h.1
    have h2 : g 0 - (g 1 - g 2) + oyL g ≤ 200 := h.2
    have z2 := v.2.1.2.2.2.2.2 h1
    have rt := trA_rg (z := 1) (v := g) (by omega)
    obtain ⟨w, hw⟩ : ∃ w, w = vTk (g 2) (g 1) g := ⟨_, rfl⟩
    have v1 : vf w 0 := vf_tk (z := 6) v (i := g 2) (j := g 1) (by omega) (fun x hx => by rw [hw]) (by omega)
    have h3 : w 3 = g 3 := by rw [hw]; exact vTk_at (by omega) (by omega)
    have h4 : w 4 = g 4 := by rw [hw]; exact vTk_at (by omega) (by omega)
    have hA : w (10 + trA 1 g) = g (10 + trA 1 g) := by rw [hw]; exact vTk_at (by omega) (by omega)
    have h0 : w 0 = g 0 - (g 1 - g 2) := by rw [hw]; exact vTk_0
    have hz1 : w z = g z := by rw [hw]; exact vTk_at (by omega) (by omega)
    have etr : trA 1 w = trA 1 g := by unfold trA; rw [h3, h4]
    have eN : nxL (vTr 1 w) = oyL g := by
      unfold nxL
      rw [show vTr 1 w 4 = trA 1 g from wu_s.trans etr, show vTr 1 w (10 + trA 1 g) = w (10 + trA 1 g) from wu_n (by omega), hA]
      rfl
    have ro : 1 ≤ oyL g ∧ oyL g ≤ 200 := v.2.1.1 (trA 1 g) rt.1 rt.2
    have e0 : vTr 1 w 0 = w 0 := wu_n (by omega)
    have e1 : vTr 1 w 1 = w 1 := wu_n (by omega)
    have rw1 := v1.1
    have y := yk (vTr 1 w) (by omega) (by omega) (by omega)
    have eY : dTo 14 c kd g = vYk (vTr 1 w) := by rw [hw]; rfl
    rw [eY, y]
    exact (wu_n (by omega)).trans hz1
  | 15, _, _ => exact wu_n (by omega)
  | 16, _, h =>
    have h : 0 < g 1 := h
    exact (wu_n (by omega)).trans (vTk_at (by omega) (by omega))
  | 17, _, h =>
    have h : 0 < g 1 ∧ g 1 < g 0 := h
    exact (wu_n (by omega)).trans ((wu_n (by omega)).trans (wu_n (by omega)))
  | 18, _, _ => exact (wu_n (by omega)).trans (if_neg (fun w => by have w2 := w.2.1; omega))
  | 19, _, h => exact wr _ h
  | 20, _, h => exact wr _ h
  | 21, _, h => exact wr _ h
  | _ + 22, h, _ => omega
theorem dTo_x {d : Nat} {c y kd : Int} {v : Int → Int} (h : d ≠ 21) : dTo d c kd v = dTo d y kd v := by
  match d, h with
  | 0, _ => rfl
  | 1, _ => rfl
  | 2, _ => rfl
  | 3, _ => rfl
  | 4, _ => rfl
  | 5, _ => rfl
  | 6, _ => rfl
  | 7, _ => rfl
  | 8, _ => rfl
  | 9, _ => rfl
  | 10, _ => rfl
  | 11, _ => rfl
  | 12, _ => rfl
  | 13, _ => rfl
  | 14, _ => rfl
  | 15, _ => rfl
  | 16, _ => rfl
  | 17, _ => rfl
  | 18, _ => rfl
  | 19, _ => rfl
  | 20, _ => rfl
  | 21, h => exact absurd rfl h
  | _ + 22, _ => rfl
theorem rpF_x {d : Nat} {c y : Int} (h : d ≠ 21) : ∀ (r : Nat) (v : Int → Int) (kd : Int), rpF d c r v kd = rpF d y r v kd := by
  intro r
  induction r with
  | zero => intro v kd; rfl
  | succ r ih =>
    intro v kd
    by_cases q : dOk d kd v
    · rw [rpF_t q, rpF_t q, dTo_x (y := y) h, ih]
    · rw [rpF_f q, rpF_f q]
theorem pE_eq {bf : Int → Int} {n a : Int} : pE bf n a = if bf (pA1 bf n a) = 39 then pA1 bf n a + 2 else pA1 bf n a + 1 := rfl
set_option maxRecDepth 100000 in
set_option maxHeartbeats 4000000 in
theorem m_X8_doesAll (l : Launch) {L : List Nat} {F : Nat → PE} {x a q c : Nat} {g : Int → Int} {sv th kd n pt tm sg : Int} {kp bf : Int → Int} (o : mo L F x a q c g sv th kd n pt tm sg kp bf) (hn : 0 ≤ n ∧ n ≤ 60) (hb : ∀ k, 0 ≤ k → k < n → 10 ≤ bf k ∧ bf k ≤ 126) (v : vf g kd) (hn0 : 0 < n) (hs : sgR bf n.toNat = 0) : PM l yX8_doesAll cX8_doesAll 5 (some .int) (rm 9 0 0) L [.ref x] F (fun v9 L1 F1 => L = L1 ∧ fm x a q c F F1 ∧ ∃ v1 k1 p z y, (∀ w, 1818 ≤ w → v1 w = g w) ∧ mo L F1 x a q c v1 sv th k1 n p z y kp bf ∧ ((∃ cc, rnF bf n n.toNat 0 g kd 0 = some (v1, k1, cc) ∧ v9 = some (.int (iI cc)) ∧ 0 ≤ cc ∧ cc ≤ 1000) ∨ (rnF bf n n.toNat 0 g kd 0 = none ∧ v9 = some (.int (iI (-1)))))) (fun _ _ _ => False) := by
  refine pm_of cd_X8_doesAll (by decide +kernel) (Nat.le_of_ble_eq_true rfl) (fun ZZ hZ => ?_)
  have hgo : ZZ 0 0 0 [some (.ref x), none, none, none, none] [] L F := by
    obtain ⟨A, hF, hg, hQ, hC⟩ := id o
    obtain ⟨⟨hx, ha, hqL, hcL⟩, hxa, hxq, hxc, haq, hac, hqc⟩ := id A
    have k9n : ∀ (G : Nat → PE) (v1 : Int → Int) (k1 p z y m : Int) (o3 o4 : Option Value), rnF bf n n.toNat 0 g kd 0 = none → (∀ w, 1818 ≤ w → v1 w = g w) → mo L G x a q c v1 sv th k1 n p z y kp bf → fm x a q c F G → ZZ 0 0 9 [some (.ref x), some (.int (iI m)), some (.int (iI 0)), o3, o4] [] L G := by
      intro G v1 k1 p z y m o3 o4 hno hw o9 fr
      refine z_iload_n2 hZ dX8_doesAll_9 ?_
      refine z_if_eq hZ (tgt := 83) dX8_doesAll_10 rfl (by omega) (fun hc10 => ?_) (fun hc10 => ?_)
      · refine z_iload_n2 hZ dX8_doesAll_83 ?_
        refine z_if_eq hZ (tgt := 91) dX8_doesAll_84 rfl (by omega) (fun hc84 => ?_) (fun hc84 => ?_)
        · refine z_iconst hZ dX8_doesAll_91 ?_
          exact z_iret hZ rfl (Nat.le_of_ble_eq_true rfl) (Nat.le_of_ble_eq_true rfl) dX8_doesAll_92 (by exact ⟨rfl, fr, v1, k1, p, z, y, hw, o9, Or.inr ⟨hno, rfl⟩⟩)
        · exfalso; omega
      · exfalso; omega
    have s32 : ∀ (G : Nat → PE) (v1 : Int → Int) (k1 p z y m k : Int) (o3 : Option Value), rnF bf n n.toNat 0 g kd 0 = none → (∀ w, 1818 ≤ w → v1 w = g w) → 0 ≤ k → k ≤ 100 → 1 ≤ z → z ≤ 9 → mo L G x a q c v1 sv th k1 n p z y kp bf → fm x a q c F G → ZZ 0 0 32 [some (.ref x), some (.int (iI m)), some (.int (iI 0)), o3, some (.int (iI k))] [] L G := by
      intro G v1 k1 p z y m k o3 hno hw h0 h1 z0 z1 o9 fr
      have hF := o9.2.1
      refine z_iload4 hZ dX8_doesAll_32 ?_
      refine z_aload_n0 hZ dX8_doesAll_34 ?_
      refine z_gf_X8_times hZ dX8_doesAll_35 fl_X8_168 (by assumption) (by assumption) ?_
      refine z_icmp_ge hZ (tgt := 80) dX8_doesAll_38 rfl (by omega) (fun hc38 => ?_) (fun hc38 => ?_)
      · refine z_goto hZ (tgt := 9) dX8_doesAll_80 rfl ?_
        exact k9n _ v1 k1 p z y _ _ _ hno hw o9 fr
      · refine z_iload_n2 hZ dX8_doesAll_41 ?_
        refine z_if_eq hZ (tgt := 80) dX8_doesAll_42 rfl (by omega) (fun hc42 => ?_) (fun hc42 => ?_)
        · refine z_goto hZ (tgt := 9) dX8_doesAll_80 rfl ?_
          exact k9n _ v1 k1 p z y _ _ _ hno hw o9 fr
        · exfalso; omega
    have inner : ∀ (d : Nat) (p tt y m : Int), d < 22 → 1 ≤ tt → tt ≤ 9 → -1 ≤ y → y ≤ 126 → (d = 21 → 10 ≤ y) → 0 ≤ m → m ≤ 900 →
        ∀ (r : Nat) (k : Int) (v1 : Int → Int) (k1 : Int) (G : Nat → PE), (tt - k).toNat = r → 0 ≤ k → k ≤ tt → vf v1 k1 → (∀ w, 1818 ≤ w → v1 w = g w) → mo L G x a q c v1 sv th k1 n p tt y kp bf → fm x a q c F G →
          (rpF d y r v1 k1 = none → rnF bf n n.toNat 0 g kd 0 = none) →
          (∀ (w : Int → Int) (k2 : Int) (G1 : Nat → PE), rpF d y r v1 k1 = some (w, k2) → vf w k2 → (∀ u, 1818 ≤ u → w u = g u) → mo L G1 x a q c w sv th k2 n p tt y kp bf → fm x a q c F G1 → ZZ 0 0 80 [some (.ref x), some (.int (iI (m + tt))), some (.int (iI 1)), some (.int (iI (dI d))), some (.int (iI tt))] [] L G1) →
          ZZ 0 0 32 [some (.ref x), some (.int (iI (m + k))), some (.int (iI 1)), some (.int (iI (dI d))), some (.int (iI k))] [] L G := by
      intro d p tt y m hd t1 t9 y0 y1 hy21 m0 m1 r
      have dr := dI_rg hd
      induction r with
      | zero =>
        intro k v1 k1 G hr k0 kt w1 hw o9 fr hno hyes
        have hF := o9.2.1
        have e : k = tt := by omega
        subst e
        refine z_iload4 hZ dX8_doesAll_32 ?_
        refine z_aload_n0 hZ dX8_doesAll_34 ?_
        refine z_gf_X8_times hZ dX8_doesAll_35 fl_X8_168 (by assumption) (by assumption) ?_
        refine z_icmp_ge hZ (tgt := 80) dX8_doesAll_38 rfl (by omega) (fun hc38 => ?_) (fun hc38 => ?_)
        · exact hyes v1 k1 G rfl w1 hw o9 fr
        · exfalso; omega
      | succ r ih =>
        intro k v1 k1 G hr k0 kt w1 hw o9 fr hno hyes
        obtain ⟨-, hF, hg, hQ, hC⟩ := id o9
        have t9' := ms.of hx ha hxa hF hg
        have k54n : ∀ (G1 : Nat → PE), ¬ dOk d k1 v1 → G1 a = eI 0 18180 v1 → (∀ b, b ≠ a → G1 b = G b) → ZZ 0 0 54 [some (.ref x), some (.int (iI (m + k))), some (.int (iI 1)), some (.int (iI (dI d))), some (.int (iI k))] [.int (iI (-1))] L G1 := by
          intro G1 no hg f
          have hF := (f x hxa).trans hF
          have hQ := (f q (Ne.symm haq)).trans hQ
          have hC := (f c (Ne.symm hac)).trans hC
          have fr := fm.a fr f
          refine z_if_lt hZ (tgt := 61) dX8_doesAll_54 rfl (by omega) (fun hc54 => ?_) (fun hc54 => ?_)
          · refine z_iconst hZ dX8_doesAll_61 ?_
            refine z_istore_n2 hZ dX8_doesAll_62 (by decide) rfl ?_
            refine z_aload_n0 hZ dX8_doesAll_63 ?_
            refine z_iload_n3 hZ dX8_doesAll_64 ?_
            refine z_cS hZ (As := [_]) rfl dX8_doesAll_65 ml_X8_143 wy_X8_kindOf (m_X8_kindOf l (by omega)) ⟨Nat.le_of_ble_eq_true rfl, Nat.le_of_ble_eq_true rfl⟩ ⟨Nat.le_of_ble_eq_true rfl, Nat.le_of_ble_eq_true rfl⟩ (Nat.le_of_ble_eq_true rfl) (fun _ _ _ h => h.elim) (fun v65 L65 G65 hp65 => ?_)
            obtain ⟨rfl, rfl, rfl⟩ := hp65
            rw [kdC_d d hd]
            refine z_pf_X8_kind hZ dX8_doesAll_68 fl_X8_67 (by assumption) (by assumption) (fun F68 hF68 hf68 => ?_)
            have hF := hF68
            have hg := (hf68 a (Ne.symm hxa)).trans hg
            have hQ := (hf68 q (Ne.symm hxq)).trans hQ
            have hC := (hf68 c (Ne.symm hxc)).trans hC
            have t := ms.of hx ha hxa hF hg
            have fr := fm.x fr hf68
            refine z_iinc1 hZ dX8_doesAll_71 (by decide) rfl ?_
            refine z_iinc4 hZ dX8_doesAll_74 (by decide) rfl ?_
            refine z_goto hZ (tgt := 32) dX8_doesAll_77 rfl ?_
            exact s32 _ v1 (dKn d) p tt y _ _ _ (hno (rpF_f no)) hw (by omega) (by omega) t1 t9 ⟨A, hF, hg, hQ, hC⟩ fr
          · exfalso; omega
        have k54y : ∀ (G1 : Nat → PE) (u : Int), dOk d k1 v1 → 0 ≤ u → u ≤ 1000 → G1 a = eI 0 18180 (dTo d y k1 v1) → (∀ b, b ≠ a → G1 b = G b) → ZZ 0 0 54 [some (.ref x), some (.int (iI (m + k))), some (.int (iI 1)), some (.int (iI (dI d))), some (.int (iI k))] [.int (iI u)] L G1 := by
          intro G1 u ok u0 u1 hg f
          have hF := (f x hxa).trans hF
          have hQ := (f q (Ne.symm haq)).trans hQ
          have hC := (f c (Ne.symm hac)).trans hC
          have fr := fm.a fr f
          rw [rpF_t ok] at hno hyes
          have w2 := vf_to (c := y) w1 hd (fun e => ⟨hy21 e, y1⟩) ok
          have hw2 : ∀ u, 1818 ≤ u → dTo d y k1 v1 u = g u := fun u hu => (dTo_hi w1 hd ok hu).trans (hw u hu)
          refine z_if_lt hZ (tgt := 61) dX8_doesAll_54 rfl (by omega) (fun hc54 => ?_) (fun hc54 => ?_)
          · exfalso; omega
          · refine z_iconst hZ dX8_doesAll_57 ?_
            refine z_goto hZ (tgt := 62) dX8_doesAll_58 rfl ?_
            refine z_istore_n2 hZ dX8_doesAll_62 (by decide) rfl ?_
            refine z_aload_n0 hZ dX8_doesAll_63 ?_
            refine z_iload_n3 hZ dX8_doesAll_64 ?_
            refine z_cS hZ (As := [_]) rfl dX8_doesAll_65 ml_X8_143 wy_X8_kindOf (m_X8_kindOf l (by omega)) ⟨Nat.le_of_ble_eq_true rfl, Nat.le_of_ble_eq_true rfl⟩ ⟨Nat.le_of_ble_eq_true rfl, Nat.le_of_ble_eq_true rfl⟩ (Nat.le_of_ble_eq_true rfl) (fun _ _ _ h => h.elim) (fun v65 L65 G65 hp65 => ?_)
            obtain ⟨rfl, rfl, rfl⟩ := hp65
            rw [kdC_d d hd]
            refine z_pf_X8_kind hZ dX8_doesAll_68 fl_X8_67 (by assumption) (by assumption) (fun F68 hF68 hf68 => ?_)
            have hF := hF68
            have hg := (hf68 a (Ne.symm hxa)).trans hg
            have hQ := (hf68 q (Ne.symm hxq)).trans hQ
            have hC := (hf68 c (Ne.symm hxc)).trans hC
            have t := ms.of hx ha hxa hF hg
            have fr := fm.x fr hf68
            refine z_iinc1 hZ dX8_doesAll_71 (by decide) rfl ?_
            refine z_iinc4 hZ dX8_doesAll_74 (by decide) rfl ?_
            refine z_goto hZ (tgt := 32) dX8_doesAll_77 rfl ?_
            have z := ih (k + 1) _ (dKn d) _ (by omega) (by omega) (by omega) w2 hw2 ⟨A, hF, hg, hQ, hC⟩ fr hno hyes
            rw [← Int.add_assoc] at z
            exact z
        refine z_iload4 hZ dX8_doesAll_32 ?_
        refine z_aload_n0 hZ dX8_doesAll_34 ?_
        refine z_gf_X8_times hZ dX8_doesAll_35 fl_X8_168 (by assumption) (by assumption) ?_
        refine z_icmp_ge hZ (tgt := 80) dX8_doesAll_38 rfl (by omega) (fun hc38 => ?_) (fun hc38 => ?_)
        · exfalso; omega
        · refine z_iload_n2 hZ dX8_doesAll_41 ?_
          refine z_if_eq hZ (tgt := 80) dX8_doesAll_42 rfl (by omega) (fun hc42 => ?_) (fun hc42 => ?_)
          · exfalso; omega
          · refine z_aload_n0 hZ dX8_doesAll_45 ?_
            refine z_iload_n3 hZ dX8_doesAll_46 ?_
            refine z_aload_n0 hZ dX8_doesAll_47 ?_
            refine z_gf_X8_sign hZ dX8_doesAll_48 fl_X8_174 (by assumption) (by assumption) ?_
            refine z_cV hZ (As := [_, _]) rfl dX8_doesAll_51 ml_X8_137 wy_X8_does (m_X8_does l t9' w1 hd) (by assumption) (by assumption) rfl ⟨Nat.le_of_ble_eq_true rfl, Nat.le_of_ble_eq_true rfl⟩ ⟨Nat.le_of_ble_eq_true rfl, Nat.le_of_ble_eq_true rfl⟩ (Nat.le_of_ble_eq_true rfl) (fun _ _ _ h => h.elim) (fun v51 L51 G51 hp51 => ?_)
            obtain ⟨rfl, f51, h51⟩ := hp51
            obtain ⟨u9, rfl⟩ := h51.val
            rcases h51 with ⟨ok, ⟨u, e, u0, u1, -⟩, hg⟩ | ⟨no, e, hg⟩
            · have z := k54y _ u ok u0 u1 hg f51
              rw [← Value.int.inj (Option.some.inj e)] at z
              exact z
            · have z := k54n _ no hg f51
              rw [← Value.int.inj (Option.some.inj e)] at z
              exact z
    have main : ∀ (m : Nat) (p cc : Int) (v1 : Int → Int) (k1 z y : Int) (G : Nat → PE) (o3 o4 : Option Value), (n - p).toNat ≤ m → 0 ≤ p → p ≤ n → sgR bf p.toNat = 0 → 0 ≤ cc → cc ≤ 9 * p → vf v1 k1 → (∀ w, 1818 ≤ w → v1 w = g w) → mo L G x a q c v1 sv th k1 n p z y kp bf → fm x a q c F G → rnF bf n m p v1 k1 cc = rnF bf n n.toNat 0 g kd 0 →
        ZZ 0 0 9 [some (.ref x), some (.int (iI cc)), some (.int (iI 1)), o3, o4] [] L G := by
      intro m
      have fin : ∀ (m : Nat) (p cc : Int) (v1 : Int → Int) (k1 z y : Int) (G : Nat → PE) (o3 o4 : Option Value), p = n → 0 ≤ cc → cc ≤ 9 * p → (∀ w, 1818 ≤ w → v1 w = g w) → mo L G x a q c v1 sv th k1 n p z y kp bf → fm x a q c F G → rnF bf n m p v1 k1 cc = rnF bf n n.toNat 0 g kd 0 → ZZ 0 0 9 [some (.ref x), some (.int (iI cc)), some (.int (iI 1)), o3, o4] [] L G := by
        intro m p cc v1 k1 z y G o3 o4 hp c0 c1 hw o9 fr hr
        subst hp
        have hF := o9.2.1
        have e : rnF bf p m p v1 k1 cc = some (v1, k1, cc) := by
          cases m with
          | zero => rfl
          | succ m => exact if_neg (by omega)
        refine z_iload_n2 hZ dX8_doesAll_9 ?_
        refine z_if_eq hZ (tgt := 83) dX8_doesAll_10 rfl (by omega) (fun hc10 => ?_) (fun hc10 => ?_)
        · refine z_iload_n2 hZ dX8_doesAll_83 ?_
          refine z_if_eq hZ (tgt := 91) dX8_doesAll_84 rfl (by omega) (fun hc84 => ?_) (fun hc84 => ?_)
          · exfalso; omega
          · refine z_iload_n1 hZ dX8_doesAll_87 ?_
            refine z_goto hZ (tgt := 92) dX8_doesAll_88 rfl ?_
            exact z_iret hZ rfl (Nat.le_of_ble_eq_true rfl) (Nat.le_of_ble_eq_true rfl) dX8_doesAll_92 (by exact ⟨rfl, fr, v1, k1, p, z, y, hw, o9, Or.inl ⟨cc, hr.symm.trans e, rfl, by omega, by omega⟩⟩)
        · refine z_aload_n0 hZ dX8_doesAll_13 ?_
          refine z_gf_X8_at hZ dX8_doesAll_14 fl_X8_165 (by assumption) (by assumption) ?_
          refine z_aload_n0 hZ dX8_doesAll_17 ?_
          refine z_gf_X8_typed hZ dX8_doesAll_18 fl_X8_159 (by assumption) (by assumption) ?_
          refine z_icmp_ge hZ (tgt := 83) dX8_doesAll_21 rfl (by omega) (fun hc21 => ?_) (fun hc21 => ?_)
          · refine z_iload_n2 hZ dX8_doesAll_83 ?_
            refine z_if_eq hZ (tgt := 91) dX8_doesAll_84 rfl (by omega) (fun hc84 => ?_) (fun hc84 => ?_)
            · exfalso; omega
            · refine z_iload_n1 hZ dX8_doesAll_87 ?_
              refine z_goto hZ (tgt := 92) dX8_doesAll_88 rfl ?_
              exact z_iret hZ rfl (Nat.le_of_ble_eq_true rfl) (Nat.le_of_ble_eq_true rfl) dX8_doesAll_92 (by exact ⟨rfl, fr, v1, k1, p, z, y, hw, o9, Or.inl ⟨cc, hr.symm.trans e, rfl, by omega, by omega⟩⟩)
          · exfalso; omega
      induction m with
      | zero =>
        intro p cc v1 k1 z y G o3 o4 hm p0 p1 hs1 c0 c1 w1 hw o9 fr hr
        exact fin 0 p cc v1 k1 z y G o3 o4 (by omega) c0 c1 hw o9 fr hr
      | succ m ih =>
        intro p cc v1 k1 z y G o3 o4 hm p0 p1 hs1 c0 c1 w1 hw o9 fr hr
        by_cases hlt : p < n
        · have pm := (part_m p0 hlt hs1 hb).resolve_right (fun w => w.2.2.2.2.2 hs)
          have wf := part_wf p0 hlt hs1 hs
          have hr2 : rnF bf n (m + 1) p v1 k1 cc = (rpF (lix (bf (pA1 bf n p))) (pSg bf n p) (pTm bf n p).toNat v1 k1).bind (fun w => rnF bf n m (pE bf n p) w.1 w.2 (cc + pTm bf n p)) := if_pos hlt
          have ca := hb (pA1 bf n p) (by omega) wf.1
          have tr : 1 ≤ pTm bf n p ∧ pTm bf n p ≤ 9 := by unfold pTm; split <;> omega
          have hdd : lix (bf (pA1 bf n p)) < 22 ∧ dI (lix (bf (pA1 bf n p))) = bf (pA1 bf n p) := by
            rcases wf.2.2 with q | q
            · have z := lix_l (by omega) q.1; exact ⟨by omega, z.2⟩
            · rw [q.1, lix_q]; exact ⟨by omega, rfl⟩
          have hnd := dI_nd hdd.1
          have hS : -1 ≤ mSg bf n p ∧ mSg bf n p ≤ 126 := by
            unfold mSg
            by_cases z : mW bf n p = 39 ∧ mP2 bf n p < n
            · rw [if_pos z]; have := hb (mP2 bf n p) (by unfold mP2; split <;> omega) z.2; omega
            · rw [if_neg z]; omega
          have hq : lix (bf (pA1 bf n p)) = 21 → mSg bf n p = pSg bf n p ∧ 10 ≤ mSg bf n p := fun e => by
            have e2 : bf (pA1 bf n p) = 39 := by rw [← hdd.2]; exact hnd.2.mpr e
            have e3 := pm.2.2.2.2.2.2.2 (by rw [pm.2.2.2.2.2.2.1]; exact e2)
            refine ⟨e3, ?_⟩
            rw [e3]
            have e4 : pSg bf n p = bf (pA1 bf n p + 1) := if_pos e2
            rw [e4]
            have w2 := wf.2.2.resolve_left (fun w => w.2.1 e2)
            exact (hb _ (by omega) w2.2.1).1
          have hxx : rpF (lix (bf (pA1 bf n p))) (pSg bf n p) (pTm bf n p).toNat v1 k1 = rpF (lix (bf (pA1 bf n p))) (mSg bf n p) (pTm bf n p).toNat v1 k1 := by
            by_cases e : lix (bf (pA1 bf n p)) = 21
            · rw [(hq e).1]
            · exact rpF_x e _ _ _
          rw [hxx] at hr2
          have e3 := pm.2.2.2.2.2.1
          obtain ⟨-, hF, hg, hQ, hC⟩ := id o9
          refine z_iload_n2 hZ dX8_doesAll_9 ?_
          refine z_if_eq hZ (tgt := 83) dX8_doesAll_10 rfl (by omega) (fun hc10 => ?_) (fun hc10 => ?_)
          · exfalso; omega
          · refine z_aload_n0 hZ dX8_doesAll_13 ?_
            refine z_gf_X8_at hZ dX8_doesAll_14 fl_X8_165 (by assumption) (by assumption) ?_
            refine z_aload_n0 hZ dX8_doesAll_17 ?_
            refine z_gf_X8_typed hZ dX8_doesAll_18 fl_X8_159 (by assumption) (by assumption) ?_
            refine z_icmp_ge hZ (tgt := 83) dX8_doesAll_21 rfl (by omega) (fun hc21 => ?_) (fun hc21 => ?_)
            · exfalso; omega
            · refine z_aload_n0 hZ dX8_doesAll_24 ?_
              refine z_cV hZ (As := []) rfl dX8_doesAll_25 ml_X8_177 wy_X8_part (m_X8_part l o9 hn hb (by omega)) (by assumption) (by assumption) rfl ⟨Nat.le_of_ble_eq_true rfl, Nat.le_of_ble_eq_true rfl⟩ ⟨Nat.le_of_ble_eq_true rfl, Nat.le_of_ble_eq_true rfl⟩ (Nat.le_of_ble_eq_true rfl) (fun _ _ _ h => h.elim) (fun v25 L25 G25 hp25 => ?_)
              obtain ⟨rfl, rfl, hF, f25⟩ := hp25
              have o25 : mo L G25 x a q c v1 sv th k1 n (mP3 bf n p) (pTm bf n p) (mSg bf n p) kp bf := ⟨A, hF, (f25 a (Ne.symm hxa)).trans hg, (f25 q (Ne.symm hxq)).trans hQ, (f25 c (Ne.symm hxc)).trans hC⟩
              refine z_istore_n3 hZ dX8_doesAll_28 (by decide) rfl ?_
              refine z_iconst hZ dX8_doesAll_29 ?_
              refine z_istore4 hZ dX8_doesAll_30 (by decide) rfl ?_
              have z := inner (lix (bf (pA1 bf n p))) (mP3 bf n p) (pTm bf n p) (mSg bf n p) cc hdd.1 tr.1 tr.2 hS.1 hS.2 (fun e => (hq e).2) c0 (by omega) (pTm bf n p).toNat 0 v1 k1 _ (by omega) (by omega) (by omega) w1 hw o25 (fm.x fr f25) (fun w => by rw [w] at hr2; exact hr.symm.trans hr2) (fun w k2 G1 hrp w3 hw3 o3' fr3 => by
                have hr3 := hr2
                rw [hrp] at hr3
                have zz := ih (mP3 bf n p) (cc + pTm bf n p) w k2 _ _ G1 (some (.int (iI (dI (lix (bf (pA1 bf n p))))))) (some (.int (iI (pTm bf n p)))) (by omega) (by omega) (by omega) pm.2.2.2.1 (by omega) (by omega) w3 hw3 o3' fr3 (by rw [e3]; exact hr3.symm.trans hr)
                exact z_goto hZ (tgt := 9) dX8_doesAll_80 rfl zz)
              rw [Int.add_zero, hdd.2] at z
              rw [pm.2.2.2.2.2.2.1]
              exact z
        · exact fin (m + 1) p cc v1 k1 z y G o3 o4 (by omega) c0 c1 hw o9 fr hr
    have t := ms.of hx ha hxa hF hg
    have fr : fm x a q c F F := fm.rf
    refine z_iconst hZ dX8_doesAll_0 ?_
    refine z_istore_n1 hZ dX8_doesAll_1 (by decide) rfl ?_
    refine z_iconst hZ dX8_doesAll_2 ?_
    refine z_istore_n2 hZ dX8_doesAll_3 (by decide) rfl ?_
    refine z_aload_n0 hZ dX8_doesAll_4 ?_
    refine z_iconst hZ dX8_doesAll_5 ?_
    refine z_pf_X8_at hZ dX8_doesAll_6 fl_X8_165 (by assumption) (by assumption) (fun F6 hF6 hf6 => ?_)
    have hF := hF6
    have hg := (hf6 a (Ne.symm hxa)).trans hg
    have hQ := (hf6 q (Ne.symm hxq)).trans hQ
    have hC := (hf6 c (Ne.symm hxc)).trans hC
    have t := ms.of hx ha hxa hF hg
    have fr := fm.x fr hf6
    exact main n.toNat 0 0 g kd tm sg _ none none (by omega) (by omega) (by omega) rfl (by omega) (by omega) v (fun _ _ => rfl) ⟨A, hF, hg, hQ, hC⟩ fr rfl
  exact hgo
set_option maxRecDepth 100000 in
set_option maxHeartbeats 4000000 in
theorem m_X8_perform (l : Launch) {L : List Nat} {F : Nat → PE} {x a q c : Nat} {g : Int → Int} {sv th kd n pt tm sg : Int} {kp bf : Int → Int} (o : mo L F x a q c g sv th kd n pt tm sg kp bf) (hn : 0 ≤ n ∧ n ≤ 60) (hb : ∀ k, 0 ≤ k → k < n → 10 ≤ bf k ∧ bf k ≤ 126) (v : vf (cpy g 0 9) kd) (hs : 0 ≤ sv ∧ sv ≤ 6) : PM l yX8_perform cX8_perform 4 (some .int) (rm 10 0 0) L [.ref x] F (fun v9 L1 F1 => L = L1 ∧ fm x a q c F F1 ∧ (((0 < n ∧ sgR bf n.toNat = 0) ∧ ∃ v1 k1 cc h p z y, rnF bf n n.toNat 0 (cpy g 0 9) kd 0 = some (v1, k1, cc) ∧ v9 = some (.int (iI cc)) ∧ (∀ w, 1818 ≤ w → v1 w = cpy g 0 9 w) ∧ svP 9 sv v1 h ∧ mo L F1 x a q c h (hN sv) 0 k1 0 p z y kp bf) ∨ (¬ (0 < n ∧ sgR bf n.toNat = 0) ∧ v9 = some (.int (iI 0)) ∧ ∃ h p z y, (∀ w, 0 ≤ w → w < 16362 → h w = g w) ∧ mo L F1 x a q c h sv 1 kd n p z y kp bf) ∨ ((0 < n ∧ sgR bf n.toNat = 0) ∧ rnF bf n n.toNat 0 (cpy g 0 9) kd 0 = none ∧ v9 = some (.int (iI 0)) ∧ ∃ h p z y, (∀ w, 0 ≤ w → w < 16362 → h w = g w) ∧ mo L F1 x a q c h sv 2 kd n p z y kp bf))) (fun _ _ _ => False) := by
  refine pm_of cd_X8_perform (by decide +kernel) (Nat.le_of_ble_eq_true rfl) (fun ZZ hZ => ?_)
  have hgo : ZZ 0 0 0 [some (.ref x), none, none, none] [] L F := by
    obtain ⟨A, hF, hg, hQ, hC⟩ := id o
    obtain ⟨⟨hx, ha, hqL, hcL⟩, hxa, hxq, hxc, haq, hac, hqc⟩ := id A
    have back : ∀ v1 : Int → Int, (∀ w, 1818 ≤ w → v1 w = cpy g 0 9 w) → ∀ w, 0 ≤ w → w < 16362 → cpy v1 9 0 w = g w := by
      intro v1 hv w w0 w1
      by_cases z : w < 1818
      · have e : cpy v1 9 0 w = v1 (w - 1818 * 0 + 1818 * 9) := if_pos (by omega)
        have e2 : cpy g 0 9 (w - 1818 * 0 + 1818 * 9) = g (w - 1818 * 0 + 1818 * 9 - 1818 * 9 + 1818 * 0) := if_pos (by omega)
        rw [e, hv _ (by omega), e2]
        congr 1; omega
      · have e : cpy v1 9 0 w = v1 w := if_neg (by omega)
        have e2 : cpy g 0 9 w = g w := if_neg (by omega)
        rw [e, hv _ (by omega), e2]
    have t := ms.of hx ha hxa hF hg
    have fr : fm x a q c F F := fm.rf
    by_cases ok : 0 < n ∧ sgR bf n.toNat = 0
    · have k29 : ∀ (G : Nat → PE) (r : Int) (v1 : Int → Int) (k1 p z y : Int), (∀ w, 1818 ≤ w → v1 w = cpy g 0 9 w) → mo L G x a q c v1 sv th k1 n p z y kp bf → ((rnF bf n n.toNat 0 (cpy g 0 9) kd 0 = some (v1, k1, r) ∧ 0 ≤ r ∧ r ≤ 1000) ∨ (rnF bf n n.toNat 0 (cpy g 0 9) kd 0 = none ∧ r = -1)) → fm x a q c F G → ZZ 0 0 29 [some (.ref x), some (.int (iI 1)), some (.int (iI kd)), none] [.int (iI r)] L G := by
        intro G r v1 k1 p z y hv o9 hr fr
        obtain ⟨-, hF, hg, hQ, hC⟩ := id o9
        have t := ms.of hx ha hxa hF hg
        refine z_istore_n3 hZ dX8_perform_29 (by decide) rfl ?_
        refine z_aload_n0 hZ dX8_perform_30 ?_
        refine z_iload_n1 hZ dX8_perform_31 ?_
        refine z_iload_n3 hZ dX8_perform_32 ?_
        refine z_if_lt hZ (tgt := 40) dX8_perform_33 rfl (by omega) (fun hc33 => ?_) (fun hc33 => ?_)
        · refine z_iconst hZ dX8_perform_40 ?_
          refine z_iconst hZ dX8_perform_41 ?_
          refine z_cV hZ (As := [_, _, _]) rfl dX8_perform_42 ml_X8_146 wy_X8_goes (m_X8_goes l hx hF (by first | exact b2_in _ | omega) (by first | exact b2_in _ | omega) (by first | exact b2_in _ | omega)) (by assumption) (by assumption) rfl ⟨Nat.le_of_ble_eq_true rfl, Nat.le_of_ble_eq_true rfl⟩ ⟨Nat.le_of_ble_eq_true rfl, Nat.le_of_ble_eq_true rfl⟩ (Nat.le_of_ble_eq_true rfl) (fun _ _ _ h => h.elim) (fun v42 L42 G42 hp42 => ?_)
          obtain ⟨rfl, rfl, hF, f42⟩ := hp42
          have hF := hF
          have hg := (f42 a (Ne.symm hxa)).trans hg
          have hQ := (f42 q (Ne.symm hxq)).trans hQ
          have hC := (f42 c (Ne.symm hxc)).trans hC
          have t := ms.of hx ha hxa hF hg
          have fr := fm.x fr f42
          refine z_if_ne_b hZ (tgt := 62) dX8_perform_45 rfl (fun hc45 => ?_) (fun hc45 => ?_)
          · have hz := goV_0.mp hc45
            refine z_aload_n0 hZ dX8_perform_62 ?_
            refine z_cV hZ (As := []) rfl dX8_perform_63 ml_X8_140 wy_X8_remembers (m_X8_remembers l hx ha hxa hF hg hs) (by assumption) (by assumption) rfl ⟨Nat.le_of_ble_eq_true rfl, Nat.le_of_ble_eq_true rfl⟩ ⟨Nat.le_of_ble_eq_true rfl, Nat.le_of_ble_eq_true rfl⟩ (Nat.le_of_ble_eq_true rfl) (fun _ _ _ h => h.elim) (fun v63 L63 G63 hp63 => ?_)
            obtain ⟨rfl, rfl, ⟨h, hsv, hg⟩, hF, f63⟩ := hp63
            have hQ := (f63 q (Ne.symm hxq) (Ne.symm haq)).trans hQ
            have hC := (f63 c (Ne.symm hxc) (Ne.symm hac)).trans hC
            have fr := fm.xa fr f63
            refine z_aload_n0 hZ dX8_perform_66 ?_
            refine z_iconst hZ dX8_perform_67 ?_
            refine z_pf_X8_typed hZ dX8_perform_68 fl_X8_159 (by assumption) (by assumption) (fun F68 hF68 hf68 => ?_)
            have hF := hF68
            have hg := (hf68 a (Ne.symm hxa)).trans hg
            have hQ := (hf68 q (Ne.symm hxq)).trans hQ
            have hC := (hf68 c (Ne.symm hxc)).trans hC
            have t := ms.of hx ha hxa hF hg
            have fr := fm.x fr hf68
            refine z_iload_n3 hZ dX8_perform_71 ?_
            exact z_iret hZ rfl (Nat.le_of_ble_eq_true rfl) (Nat.le_of_ble_eq_true rfl) dX8_perform_72 (by
            first
              | (exfalso; omega)
              | exact ⟨rfl, fr, Or.inl ⟨ok, v1, k1, r, h, _, _, _, (hr.resolve_right (fun w => by omega)).1, rfl, hv, hsv, A, hF, hg, hQ, hC⟩⟩)
          · have hz : ¬ _ := fun z => hc45 (goV_0.mpr z)
            refine z_aload_n0 hZ dX8_perform_48 ?_
            refine z_bipush hZ dX8_perform_49 rfl ?_
            refine z_iconst hZ dX8_perform_51 ?_
            refine z_cV hZ (As := [_, _]) rfl dX8_perform_52 ml_X8_28 wy_X8_copies (m_X8_copies l t (by omega)) (by assumption) (by assumption) rfl ⟨Nat.le_of_ble_eq_true rfl, Nat.le_of_ble_eq_true rfl⟩ ⟨Nat.le_of_ble_eq_true rfl, Nat.le_of_ble_eq_true rfl⟩ (Nat.le_of_ble_eq_true rfl) (fun _ _ _ h => h.elim) (fun v52 L52 G52 hp52 => ?_)
            obtain ⟨rfl, rfl, hg, f52⟩ := hp52
            have hF := (f52 x hxa).trans hF
            have hg := hg
            have hQ := (f52 q (Ne.symm haq)).trans hQ
            have hC := (f52 c (Ne.symm hac)).trans hC
            have t := ms.of hx ha hxa hF hg
            have fr := fm.a fr f52
            refine z_aload_n0 hZ dX8_perform_55 ?_
            refine z_iload_n2 hZ dX8_perform_56 ?_
            refine z_pf_X8_kind hZ dX8_perform_57 fl_X8_67 (by assumption) (by assumption) (fun F57 hF57 hf57 => ?_)
            have hF := hF57
            have hg := (hf57 a (Ne.symm hxa)).trans hg
            have hQ := (hf57 q (Ne.symm hxq)).trans hQ
            have hC := (hf57 c (Ne.symm hxc)).trans hC
            have t := ms.of hx ha hxa hF hg
            have fr := fm.x fr hf57
            have hbk := back v1 hv
            refine z_iconst hZ dX8_perform_60 ?_
            exact z_iret hZ rfl (Nat.le_of_ble_eq_true rfl) (Nat.le_of_ble_eq_true rfl) dX8_perform_61 (by
            first
              | (exfalso; omega)
              | exact ⟨rfl, fr, Or.inr (Or.inr ⟨ok, (hr.resolve_left (fun w => by omega)).1, rfl, _, _, _, _, hbk, A, hF, hg, hQ, hC⟩)⟩)
        · refine z_iconst hZ dX8_perform_36 ?_
          refine z_goto hZ (tgt := 41) dX8_perform_37 rfl ?_
          refine z_iconst hZ dX8_perform_41 ?_
          refine z_cV hZ (As := [_, _, _]) rfl dX8_perform_42 ml_X8_146 wy_X8_goes (m_X8_goes l hx hF (by first | exact b2_in _ | omega) (by first | exact b2_in _ | omega) (by first | exact b2_in _ | omega)) (by assumption) (by assumption) rfl ⟨Nat.le_of_ble_eq_true rfl, Nat.le_of_ble_eq_true rfl⟩ ⟨Nat.le_of_ble_eq_true rfl, Nat.le_of_ble_eq_true rfl⟩ (Nat.le_of_ble_eq_true rfl) (fun _ _ _ h => h.elim) (fun v42 L42 G42 hp42 => ?_)
          obtain ⟨rfl, rfl, hF, f42⟩ := hp42
          have hF := hF
          have hg := (f42 a (Ne.symm hxa)).trans hg
          have hQ := (f42 q (Ne.symm hxq)).trans hQ
          have hC := (f42 c (Ne.symm hxc)).trans hC
          have t := ms.of hx ha hxa hF hg
          have fr := fm.x fr f42
          refine z_if_ne_b hZ (tgt := 62) dX8_perform_45 rfl (fun hc45 => ?_) (fun hc45 => ?_)
          · have hz := goV_0.mp hc45
            refine z_aload_n0 hZ dX8_perform_62 ?_
            refine z_cV hZ (As := []) rfl dX8_perform_63 ml_X8_140 wy_X8_remembers (m_X8_remembers l hx ha hxa hF hg hs) (by assumption) (by assumption) rfl ⟨Nat.le_of_ble_eq_true rfl, Nat.le_of_ble_eq_true rfl⟩ ⟨Nat.le_of_ble_eq_true rfl, Nat.le_of_ble_eq_true rfl⟩ (Nat.le_of_ble_eq_true rfl) (fun _ _ _ h => h.elim) (fun v63 L63 G63 hp63 => ?_)
            obtain ⟨rfl, rfl, ⟨h, hsv, hg⟩, hF, f63⟩ := hp63
            have hQ := (f63 q (Ne.symm hxq) (Ne.symm haq)).trans hQ
            have hC := (f63 c (Ne.symm hxc) (Ne.symm hac)).trans hC
            have fr := fm.xa fr f63
            refine z_aload_n0 hZ dX8_perform_66 ?_
            refine z_iconst hZ dX8_perform_67 ?_
            refine z_pf_X8_typed hZ dX8_perform_68 fl_X8_159 (by assumption) (by assumption) (fun F68 hF68 hf68 => ?_)
            have hF := hF68
            have hg := (hf68 a (Ne.symm hxa)).trans hg
            have hQ := (hf68 q (Ne.symm hxq)).trans hQ
            have hC := (hf68 c (Ne.symm hxc)).trans hC
            have t := ms.of hx ha hxa hF hg
            have fr := fm.x fr hf68
            refine z_iload_n3 hZ dX8_perform_71 ?_
            exact z_iret hZ rfl (Nat.le_of_ble_eq_true rfl) (Nat.le_of_ble_eq_true rfl) dX8_perform_72 (by
            first
              | (exfalso; omega)
              | exact ⟨rfl, fr, Or.inl ⟨ok, v1, k1, r, h, _, _, _, (hr.resolve_right (fun w => by omega)).1, rfl, hv, hsv, A, hF, hg, hQ, hC⟩⟩)
          · have hz : ¬ _ := fun z => hc45 (goV_0.mpr z)
            refine z_aload_n0 hZ dX8_perform_48 ?_
            refine z_bipush hZ dX8_perform_49 rfl ?_
            refine z_iconst hZ dX8_perform_51 ?_
            refine z_cV hZ (As := [_, _]) rfl dX8_perform_52 ml_X8_28 wy_X8_copies (m_X8_copies l t (by omega)) (by assumption) (by assumption) rfl ⟨Nat.le_of_ble_eq_true rfl, Nat.le_of_ble_eq_true rfl⟩ ⟨Nat.le_of_ble_eq_true rfl, Nat.le_of_ble_eq_true rfl⟩ (Nat.le_of_ble_eq_true rfl) (fun _ _ _ h => h.elim) (fun v52 L52 G52 hp52 => ?_)
            obtain ⟨rfl, rfl, hg, f52⟩ := hp52
            have hF := (f52 x hxa).trans hF
            have hg := hg
            have hQ := (f52 q (Ne.symm haq)).trans hQ
            have hC := (f52 c (Ne.symm hac)).trans hC
            have t := ms.of hx ha hxa hF hg
            have fr := fm.a fr f52
            refine z_aload_n0 hZ dX8_perform_55 ?_
            refine z_iload_n2 hZ dX8_perform_56 ?_
            refine z_pf_X8_kind hZ dX8_perform_57 fl_X8_67 (by assumption) (by assumption) (fun F57 hF57 hf57 => ?_)
            have hF := hF57
            have hg := (hf57 a (Ne.symm hxa)).trans hg
            have hQ := (hf57 q (Ne.symm hxq)).trans hQ
            have hC := (hf57 c (Ne.symm hxc)).trans hC
            have t := ms.of hx ha hxa hF hg
            have fr := fm.x fr hf57
            have hbk := back v1 hv
            refine z_iconst hZ dX8_perform_60 ?_
            exact z_iret hZ rfl (Nat.le_of_ble_eq_true rfl) (Nat.le_of_ble_eq_true rfl) dX8_perform_61 (by
            first
              | (exfalso; omega)
              | exact ⟨rfl, fr, Or.inr (Or.inr ⟨ok, (hr.resolve_left (fun w => by omega)).1, rfl, _, _, _, _, hbk, A, hF, hg, hQ, hC⟩)⟩)
      have eb : b2 (0 < n ∧ sgR bf n.toNat = 0) = 1 := b2_t ok
      refine z_aload_n0 hZ dX8_perform_0 ?_
      refine z_cV hZ (As := []) rfl dX8_perform_1 ml_X8_180 wy_X8_tells (m_X8_tells l o hn hb) (by assumption) (by assumption) rfl ⟨Nat.le_of_ble_eq_true rfl, Nat.le_of_ble_eq_true rfl⟩ ⟨Nat.le_of_ble_eq_true rfl, Nat.le_of_ble_eq_true rfl⟩ (Nat.le_of_ble_eq_true rfl) (fun _ _ _ h => h.elim) (fun v1 L1 G1 hp1 => ?_)
      obtain ⟨rfl, rfl, ⟨p, z, y, fp, hF⟩, f1⟩ := hp1
      have hg := (f1 a (Ne.symm hxa)).trans hg
      have hQ := (f1 q (Ne.symm hxq)).trans hQ
      have hC := (f1 c (Ne.symm hxc)).trans hC
      have fr := fm.x fr f1
      have t := ms.of hx ha hxa hF hg
      rw [eb]
      refine z_istore_n1 hZ dX8_perform_4 (by decide) rfl ?_
      refine z_aload_n0 hZ dX8_perform_5 ?_
      refine z_gf_X8_kind hZ dX8_perform_6 fl_X8_67 (by assumption) (by assumption) ?_
      refine z_istore_n2 hZ dX8_perform_9 (by decide) rfl ?_
      refine z_aload_n0 hZ dX8_perform_10 ?_
      refine z_iconst hZ dX8_perform_11 ?_
      refine z_bipush hZ dX8_perform_12 rfl ?_
      refine z_cV hZ (As := [_, _]) rfl dX8_perform_14 ml_X8_28 wy_X8_copies (m_X8_copies l t (by omega)) (by assumption) (by assumption) rfl ⟨Nat.le_of_ble_eq_true rfl, Nat.le_of_ble_eq_true rfl⟩ ⟨Nat.le_of_ble_eq_true rfl, Nat.le_of_ble_eq_true rfl⟩ (Nat.le_of_ble_eq_true rfl) (fun _ _ _ h => h.elim) (fun v14 L14 G14 hp14 => ?_)
      obtain ⟨rfl, rfl, hg, f14⟩ := hp14
      have hF := (f14 x hxa).trans hF
      have hg := hg
      have hQ := (f14 q (Ne.symm haq)).trans hQ
      have hC := (f14 c (Ne.symm hac)).trans hC
      have t := ms.of hx ha hxa hF hg
      have fr := fm.a fr f14
      refine z_iload_n1 hZ dX8_perform_17 ?_
      refine z_if_eq hZ (tgt := 28) dX8_perform_18 rfl (by omega) (fun hc18 => ?_) (fun hc18 => ?_)
      · exfalso; omega
      · refine z_aload_n0 hZ dX8_perform_21 ?_
        refine z_cV hZ (As := []) rfl dX8_perform_22 ml_X8_184 wy_X8_doesAll (m_X8_doesAll l ⟨A, hF, hg, hQ, hC⟩ hn hb v ok.1 ok.2) (by assumption) (by assumption) rfl ⟨Nat.le_of_ble_eq_true rfl, Nat.le_of_ble_eq_true rfl⟩ ⟨Nat.le_of_ble_eq_true rfl, Nat.le_of_ble_eq_true rfl⟩ (Nat.le_of_ble_eq_true rfl) (fun _ _ _ h => h.elim) (fun v22 L22 G22 hp22 => ?_)
        obtain ⟨rfl, f22, v1, k1, p2, z2, y2, hv, o22, h22⟩ := hp22
        obtain ⟨r9, rfl, hh22⟩ : ∃ r9, v22 = some (.int (iI r9)) ∧ ((rnF bf n n.toNat 0 (cpy g 0 9) kd 0 = some (v1, k1, r9) ∧ 0 ≤ r9 ∧ r9 ≤ 1000) ∨ (rnF bf n n.toNat 0 (cpy g 0 9) kd 0 = none ∧ r9 = -1)) := by
          rcases h22 with ⟨cc, w1, w2, w3⟩ | ⟨w1, w2⟩
          · exact ⟨cc, w2, Or.inl ⟨w1, w3⟩⟩
          · exact ⟨-1, w2, Or.inr ⟨w1, rfl⟩⟩
        refine z_goto hZ (tgt := 29) dX8_perform_25 rfl ?_
        exact k29 _ r9 v1 k1 _ _ _ hv o22 hh22 (fm.tr fr f22)
    · have eb : b2 (0 < n ∧ sgR bf n.toNat = 0) = 0 := b2_f ok
      refine z_aload_n0 hZ dX8_perform_0 ?_
      refine z_cV hZ (As := []) rfl dX8_perform_1 ml_X8_180 wy_X8_tells (m_X8_tells l o hn hb) (by assumption) (by assumption) rfl ⟨Nat.le_of_ble_eq_true rfl, Nat.le_of_ble_eq_true rfl⟩ ⟨Nat.le_of_ble_eq_true rfl, Nat.le_of_ble_eq_true rfl⟩ (Nat.le_of_ble_eq_true rfl) (fun _ _ _ h => h.elim) (fun v1 L1 G1 hp1 => ?_)
      obtain ⟨rfl, rfl, ⟨p, z, y, fp, hF⟩, f1⟩ := hp1
      have hg := (f1 a (Ne.symm hxa)).trans hg
      have hQ := (f1 q (Ne.symm hxq)).trans hQ
      have hC := (f1 c (Ne.symm hxc)).trans hC
      have fr := fm.x fr f1
      have t := ms.of hx ha hxa hF hg
      rw [eb]
      refine z_istore_n1 hZ dX8_perform_4 (by decide) rfl ?_
      refine z_aload_n0 hZ dX8_perform_5 ?_
      refine z_gf_X8_kind hZ dX8_perform_6 fl_X8_67 (by assumption) (by assumption) ?_
      refine z_istore_n2 hZ dX8_perform_9 (by decide) rfl ?_
      refine z_aload_n0 hZ dX8_perform_10 ?_
      refine z_iconst hZ dX8_perform_11 ?_
      refine z_bipush hZ dX8_perform_12 rfl ?_
      refine z_cV hZ (As := [_, _]) rfl dX8_perform_14 ml_X8_28 wy_X8_copies (m_X8_copies l t (by omega)) (by assumption) (by assumption) rfl ⟨Nat.le_of_ble_eq_true rfl, Nat.le_of_ble_eq_true rfl⟩ ⟨Nat.le_of_ble_eq_true rfl, Nat.le_of_ble_eq_true rfl⟩ (Nat.le_of_ble_eq_true rfl) (fun _ _ _ h => h.elim) (fun v14 L14 G14 hp14 => ?_)
      obtain ⟨rfl, rfl, hg, f14⟩ := hp14
      have hF := (f14 x hxa).trans hF
      have hg := hg
      have hQ := (f14 q (Ne.symm haq)).trans hQ
      have hC := (f14 c (Ne.symm hac)).trans hC
      have t := ms.of hx ha hxa hF hg
      have fr := fm.a fr f14
      refine z_iload_n1 hZ dX8_perform_17 ?_
      refine z_if_eq hZ (tgt := 28) dX8_perform_18 rfl (by omega) (fun hc18 => ?_) (fun hc18 => ?_)
      · refine z_iconst hZ dX8_perform_28 ?_
        refine z_istore_n3 hZ dX8_perform_29 (by decide) rfl ?_
        refine z_aload_n0 hZ dX8_perform_30 ?_
        refine z_iload_n1 hZ dX8_perform_31 ?_
        refine z_iload_n3 hZ dX8_perform_32 ?_
        refine z_if_lt hZ (tgt := 40) dX8_perform_33 rfl (by omega) (fun hc33 => ?_) (fun hc33 => ?_)
        · refine z_iconst hZ dX8_perform_40 ?_
          refine z_iconst hZ dX8_perform_41 ?_
          refine z_cV hZ (As := [_, _, _]) rfl dX8_perform_42 ml_X8_146 wy_X8_goes (m_X8_goes l hx hF (by first | exact b2_in _ | omega) (by first | exact b2_in _ | omega) (by first | exact b2_in _ | omega)) (by assumption) (by assumption) rfl ⟨Nat.le_of_ble_eq_true rfl, Nat.le_of_ble_eq_true rfl⟩ ⟨Nat.le_of_ble_eq_true rfl, Nat.le_of_ble_eq_true rfl⟩ (Nat.le_of_ble_eq_true rfl) (fun _ _ _ h => h.elim) (fun v42 L42 G42 hp42 => ?_)
          obtain ⟨rfl, rfl, hF, f42⟩ := hp42
          have hF := hF
          have hg := (f42 a (Ne.symm hxa)).trans hg
          have hQ := (f42 q (Ne.symm hxq)).trans hQ
          have hC := (f42 c (Ne.symm hxc)).trans hC
          have t := ms.of hx ha hxa hF hg
          have fr := fm.x fr f42
          refine z_if_ne_b hZ (tgt := 62) dX8_perform_45 rfl (fun hc45 => ?_) (fun hc45 => ?_)
          · have hz := goV_0.mp hc45
            exfalso; omega
          · refine z_aload_n0 hZ dX8_perform_48 ?_
            refine z_bipush hZ dX8_perform_49 rfl ?_
            refine z_iconst hZ dX8_perform_51 ?_
            refine z_cV hZ (As := [_, _]) rfl dX8_perform_52 ml_X8_28 wy_X8_copies (m_X8_copies l t (by omega)) (by assumption) (by assumption) rfl ⟨Nat.le_of_ble_eq_true rfl, Nat.le_of_ble_eq_true rfl⟩ ⟨Nat.le_of_ble_eq_true rfl, Nat.le_of_ble_eq_true rfl⟩ (Nat.le_of_ble_eq_true rfl) (fun _ _ _ h => h.elim) (fun v52 L52 G52 hp52 => ?_)
            obtain ⟨rfl, rfl, hg, f52⟩ := hp52
            have hF := (f52 x hxa).trans hF
            have hg := hg
            have hQ := (f52 q (Ne.symm haq)).trans hQ
            have hC := (f52 c (Ne.symm hac)).trans hC
            have t := ms.of hx ha hxa hF hg
            have fr := fm.a fr f52
            refine z_aload_n0 hZ dX8_perform_55 ?_
            refine z_iload_n2 hZ dX8_perform_56 ?_
            refine z_pf_X8_kind hZ dX8_perform_57 fl_X8_67 (by assumption) (by assumption) (fun F57 hF57 hf57 => ?_)
            have hF := hF57
            have hg := (hf57 a (Ne.symm hxa)).trans hg
            have hQ := (hf57 q (Ne.symm hxq)).trans hQ
            have hC := (hf57 c (Ne.symm hxc)).trans hC
            have t := ms.of hx ha hxa hF hg
            have fr := fm.x fr hf57
            have hbk := back (cpy g 0 9) (fun _ _ => rfl)
            refine z_iconst hZ dX8_perform_60 ?_
            exact z_iret hZ rfl (Nat.le_of_ble_eq_true rfl) (Nat.le_of_ble_eq_true rfl) dX8_perform_61 (by exact ⟨rfl, fr, Or.inr (Or.inl ⟨ok, rfl, _, _, _, _, hbk, A, hF, hg, hQ, hC⟩)⟩)
        · exfalso; omega
      · exfalso; omega
  exact hgo

