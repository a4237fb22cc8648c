/-! STATE: copying to the ring, yanking, turning, caves, coming back. -/
theorem nxA_pos {v : Int → Int} (h : 0 < v 3) : nxA v = v 4 := if_neg (by omega)
theorem nxA_zero {v : Int → Int} (h : ¬ 0 < v 3) (h2 : 0 ≤ v 3) : nxA v = -1 := if_pos (by omega)
theorem trA_eq {z : Int} {v : Int → Int} : trA z v = (v 4 + z) % v 3 := by unfold trA; rw [Int.add_mul_emod_self_right]
theorem trA_rg {z : Int} {v : Int → Int} (h : 0 < v 3) : 0 ≤ trA z v ∧ trA z v < v 3 := ⟨Int.emod_nonneg _ (by omega), Int.emod_lt_of_pos _ h⟩
theorem stP.mv {L : List Nat} {F F1 : Nat → PE} {sa : Nat → Nat} {v : Int → Int} {kd : Int} (t : stP L F sa v kd) (h : ∀ i, i < 25 → F1 (sa i) = F (sa i)) : stP L F1 sa v kd := by
  obtain ⟨π, hl, hf, w, r, tt, hS, hR, hh, hA, he, hO, hi⟩ := t
  exact ⟨π, hl, hf, w, r, tt, hS.mv (h 1 (by omega)) (h 2 (by omega)) (h 3 (by omega)), hR.mv (fun i _ h2 _ => h i h2), hh, (h 8 (by omega)).trans hA, he, (h 0 (by omega)).trans hO, hi⟩
theorem stP.ap {L : List Nat} {F F1 : Nat → PE} {sa sb : Nat → Nat} {v : Int → Int} {kd : Int} (t : stP L F sb v kd) (ap : apt sa sb) (h : fS sa F F1) : stP L F1 sb v kd := t.mv (fun i hi => h _ (fun j hj => Ne.symm (ap j i hj hi)))
set_option maxRecDepth 100000 in
set_option maxHeartbeats 4000000 in
theorem m_X5_copyToMark (l : Launch) {L : List Nat} {F : Nat → PE} {sa : Nat → Nat} {v : Int → Int} {kd : Int} (hj : ij sa) (hL : inL L sa) (t : stP L F sa v kd) : PM l yX5_copyToMark cX5_copyToMark 3 (some .int) (rm 5 0 0) L [.ref (sa 0)] F (fun v9 L1 F1 => v9 = some (.int (iI (if v 2 ≠ -1 ∧ mnI (v 2) (v 1) < mxI (v 2) (v 1) then mxI (v 2) (v 1) - mnI (v 2) (v 1) else -1))) ∧ L = L1 ∧ (if v 2 ≠ -1 ∧ mnI (v 2) (v 1) < mxI (v 2) (v 1) then stP L F1 sa (vCol (mnI (v 2) (v 1)) (mxI (v 2) (v 1)) v) 0 else F1 = F) ∧ fS sa F F1) (fun _ _ _ => False) := by
  refine pm_of cd_X5_copyToMark (by decide +kernel) (Nat.le_of_ble_eq_true rfl) (fun ZZ hZ => ?_)
  have hgo : ZZ 0 0 0 [some (.ref (sa 0)), none, none] [] L F := by
    obtain ⟨π, hl, hf, w, r, tt, hS, hR, hh, hA, he, hO, hi⟩ := t
    have l0 := hL 0 (by omega)
    have l1 := hL 1 (by omega)
    have l4 := hL 4 (by omega)
    have l8 := hL 8 (by omega)
    have hSc := hS.2.1
    have hR4 := hR.1
    have hm := hR.2.2.2.2.2.1
    have hn := hS.2.2.1.2.2.2.1
    have hp := hS.2.2.2
    have hd : ∀ i, 4 ≤ i → i < 25 → i ≠ 8 → sa i ≠ sa 2 ∧ sa i ≠ sa 3 := fun i h1 h2 _ => ⟨hj.ne h2 (by omega) (by omega), hj.ne h2 (by omega) (by omega)⟩
    obtain ⟨a, ha⟩ : ∃ a, a = mnI (v 2) (v 1) := ⟨_, rfl⟩
    obtain ⟨b, hb⟩ : ∃ b, b = mxI (v 2) (v 1) := ⟨_, rfl⟩
    have ra : a ≤ v 2 ∧ a ≤ v 1 ∧ (a = v 2 ∨ a = v 1) := by rw [ha]; unfold mnI; split <;> omega
    have rb : v 2 ≤ b ∧ v 1 ≤ b ∧ (b = v 2 ∨ b = v 1) := by rw [hb]; unfold mxI; split <;> omega
    have rf : fmA (v 2) (v 1) = if v 2 = -1 then -1 else b - a := by
      unfold fmA abI
      by_cases q : v 2 = -1
      · rw [if_pos q, if_pos q]
      · rw [if_neg q, if_neg q]; split <;> omega
    refine z_aload_n0 hZ dX5_copyToMark_0 ?_
    refine z_gf_X5_scroll hZ dX5_copyToMark_1 fl_X5_12 (by assumption) (by assumption) ?_
    refine z_cV hZ (As := []) rfl dX5_copyToMark_4 ml_X5_204 wy_X4_fromMark (m_X4_fromMark l hS) (by assumption) (by assumption) rfl ⟨Nat.le_of_ble_eq_true rfl, Nat.le_of_ble_eq_true rfl⟩ ⟨Nat.le_of_ble_eq_true rfl, Nat.le_of_ble_eq_true rfl⟩ (Nat.le_of_ble_eq_true rfl) (fun _ _ _ h => h.elim) (fun v4 L4 G4 hp4 => ?_)
    obtain ⟨rfl, rfl, rfl⟩ := hp4
    refine z_istore_n1 hZ dX5_copyToMark_7 (by decide) rfl ?_
    rw [rf]
    refine z_iload_n1 hZ dX5_copyToMark_8 ?_
    refine z_iconst hZ dX5_copyToMark_9 ?_
    refine z_icmp_ge hZ (tgt := 15) dX5_copyToMark_10 rfl (by split <;> omega) (fun hc10 => ?_) (fun hc10 => ?_)
    · have q2 : v 2 ≠ -1 := fun z => by rw [if_pos z] at hc10; omega
      rw [if_neg q2] at hc10 ⊢
      refine z_aload_n0 hZ dX5_copyToMark_15 ?_
      refine z_gf_X5_scroll hZ dX5_copyToMark_16 fl_X5_12 (by assumption) (by assumption) ?_
      refine z_gf_X4_mark hZ dX5_copyToMark_19 fl_X5_173 (by assumption) (by assumption) ?_
      refine z_aload_n0 hZ dX5_copyToMark_22 ?_
      refine z_gf_X5_scroll hZ dX5_copyToMark_23 fl_X5_12 (by assumption) (by assumption) ?_
      refine z_gf_X4_point hZ dX5_copyToMark_26 fl_X5_49 (by assumption) (by assumption) ?_
      refine z_min hZ dX5_copyToMark_29 ml_X5_170 (by omega) (Nat.le_of_ble_eq_true rfl) (Nat.le_of_ble_eq_true rfl) (Nat.le_of_ble_eq_true rfl) ⟨Nat.le_of_ble_eq_true rfl, Nat.le_of_ble_eq_true rfl⟩ ?_
      rw [show (if v 1 < v 2 then v 1 else v 2) = a by rw [ha]; rfl]
      refine z_istore_n2 hZ dX5_copyToMark_32 (by decide) rfl ?_
      refine z_aload_n0 hZ dX5_copyToMark_33 ?_
      refine z_gf_X5_accounts hZ dX5_copyToMark_34 fl_X5_28 (by assumption) (by assumption) ?_
      refine z_dup hZ dX5_copyToMark_37 rfl ?_
      refine z_gf_X0_lost hZ dX5_copyToMark_38 fl_X5_194 (by assumption) (by assumption) ?_
      refine z_aload_n0 hZ dX5_copyToMark_41 ?_
      refine z_gf_X5_ring hZ dX5_copyToMark_42 fl_X5_21 (by assumption) (by assumption) ?_
      refine z_aload_n0 hZ dX5_copyToMark_45 ?_
      refine z_gf_X5_scroll hZ dX5_copyToMark_46 fl_X5_12 (by assumption) (by assumption) ?_
      refine z_gf_X4_text hZ dX5_copyToMark_49 fl_X5_111 (by assumption) (by assumption) ?_
      refine z_iload_n2 hZ dX5_copyToMark_52 ?_
      refine z_iload_n2 hZ dX5_copyToMark_53 ?_
      refine z_iload_n1 hZ dX5_copyToMark_54 ?_
      refine z_iadd hZ dX5_copyToMark_55 ?_
      rw [show a + (b - a) = b by omega]
      refine z_cV hZ (As := [_, _, _]) rfl dX5_copyToMark_56 ml_X5_197 wy_X3_add (m_X3_add l hj hL hR hS.2.2.1 hd (by omega)) (by assumption) (by assumption) rfl ⟨Nat.le_of_ble_eq_true rfl, Nat.le_of_ble_eq_true rfl⟩ ⟨Nat.le_of_ble_eq_true rfl, Nat.le_of_ble_eq_true rfl⟩ (Nat.le_of_ble_eq_true rfl) (fun _ _ _ h => h.elim) (fun v56 L56 G56 hp56 => ?_)
      obtain ⟨rfl, rfl, ⟨π1, r56⟩, f56⟩ := hp56
      rw [fuA_eq (by omega)] at r56 ⊢
      have fo := fuA_rg hm.2.1
      have hA := (f4i hj f56 8 (by omega)).trans hA
      have hO := (f4i hj f56 0 (by omega)).trans hO
      refine z_iadd hZ dX5_copyToMark_59 ?_
      refine z_pf_X0_lost hZ dX5_copyToMark_60 fl_X5_194 (by assumption) (by assumption) (fun F60 hF60 hf60 => ?_)
      have hO := (f1 hj (by omega) hf60 (i := 0) (by omega) (by omega)).trans hO
      refine z_aload_n0 hZ dX5_copyToMark_63 ?_
      refine z_iconst hZ dX5_copyToMark_64 ?_
      refine z_pf_X5_kind hZ dX5_copyToMark_65 fl_X5_32 (by assumption) (by assumption) (fun F65 hF65 hf65 => ?_)
      refine z_iload_n1 hZ dX5_copyToMark_68 ?_
      exact z_iret hZ rfl (Nat.le_of_ble_eq_true rfl) (Nat.le_of_ble_eq_true rfl) dX5_copyToMark_69 (by
            obtain ⟨g3, g4, g5, g9, g10, gx, gi, gh⟩ := vCol_r (i := a) (j := b) hi hm (by omega) hh
            rw [← ha, ← hb]
            refine ⟨pv (if_pos ⟨q2, by omega⟩).symm, rfl, ?_, ((s4 f56).tr (s1 (by omega) hf60)).tr (s1 (by omega) hf65)⟩
            rw [if_pos ⟨q2, by omega⟩]
            refine ⟨π1, _, _, w, r, tt, ?_, (by rw [g5]; unfold nxA; rw [g4, if_neg (by omega), g3]; exact (r56.m1 hj (by omega) hf60).m1 hj (by omega) hf65), gh, ?_, ?_, hF65, gi⟩
            · rw [gx 0 (by omega), gx 1 (by omega), gx 2 (by omega)]
              exact (((hS.m4 hj f56).m1 hj (by omega) (by omega) hf60).m1 hj (by omega) (by omega) hf65).cg (fun k k0 k1 => (gx (18 + k) (by omega)).symm)
            · rw [gx 6 (by omega), gx 7 (by omega), g9]; exact (f1 hj (by omega) hf65 (by omega) (by omega)).trans hF60
            · rw [gx 8 (by omega), gx 0 (by omega), gx 7 (by omega), gx 6 (by omega)]; exact he)
    · refine z_iconst hZ dX5_copyToMark_13 ?_
      exact z_iret hZ rfl (Nat.le_of_ble_eq_true rfl) (Nat.le_of_ble_eq_true rfl) dX5_copyToMark_14 (by
            have q : ¬ (v 2 ≠ -1 ∧ a < b) := fun z => by rw [if_neg z.1] at hc10; omega
            rw [← ha, ← hb]
            exact ⟨pv (if_neg q).symm, rfl, by rw [if_neg q], fS.rf⟩)
  exact hgo
set_option maxRecDepth 100000 in
set_option maxHeartbeats 4000000 in
theorem m_X5_writeHoard (l : Launch) {L : List Nat} {F : Nat → PE} {sa : Nat → Nat} {v : Int → Int} {kd w r tt : Int} {π : Int → Nat} {hl : Int → Int} {hf : Int → Int → Int} (hj : ij sa) (hL : inL L sa) (hS : sc L F (sa 1) (sa 2) (sa 3) (v 0) (v 1) (v 2) (fT v)) (hR : rgQ L F sa π (v 3) (v 5) (nxA v) hl hf) (hh : ∀ i, 0 ≤ i → i < v 3 → hl i = v (10 + i) ∧ ∀ k, 0 ≤ k → k < hl i → hf i k = v (218 + 200 * i + k)) (hA : F (sa 8) = eO 0 [.int (iI w), .int (iI r), .int (iI (v 6)), .int (iI (v 7)), .int (iI tt), .int (iI (v 9))]) (he : v 8 = w + r ∧ v 0 = w + v 7 - v 6 - r - tt) (hO : F (sa 0) = eO 5 [.ref (sa 1), .ref (sa 4), .ref (sa 8), .int (iI kd)]) (hi : iv v 0) (h3 : 0 < v 3) (hroom : v 0 + nxL v ≤ 200) : PM l yX5_writeHoard cX5_writeHoard 2 (some .int) (rm 5 0 0) L [.ref (sa 0), .ref (sa (9 + π (v 4)))] F (fun v9 L1 F1 => v9 = some (.int (iI (nxL v))) ∧ L = L1 ∧ stP L F1 sa (vYk v) 2 ∧ fS sa F F1) (fun _ _ _ => False) := by
  refine pm_of cd_X5_writeHoard (by decide +kernel) (Nat.le_of_ble_eq_true rfl) (fun ZZ hZ => ?_)
  have hgo : ZZ 0 0 0 [some (.ref (sa 0)), some (.ref (sa (9 + π (v 4))))] [] L F := by
    have l0 := hL 0 (by omega)
    have l1 := hL 1 (by omega)
    have l8 := hL 8 (by omega)
    have hSc := hS.2.1
    have hR4 := hR.1
    have hm := hR.2.2.2.2.2.1
    have hn := hS.2.2.1.2.2.2.1
    have hp := hS.2.2.2
    have h4 := hi.2.2.1 h3
    have hπ := (hR.2.2.2.1 (v 4) h4.1 (by omega)).1
    have hq := hh (v 4) h4.1 h4.2
    have hq1 := hi.1 (v 4) h4.1 h4.2
    have el : hl (v 4) = nxL v := hq.1
    have rn : 1 ≤ nxL v ∧ nxL v ≤ 200 := hq1
    have tH := hR.tx h4.1 h4.2
    have lH := hL (9 + π (v 4)) (by omega)
    have oH := tH.2.1
    refine z_aload_n0 hZ dX5_writeHoard_0 ?_
    refine z_gf_X5_scroll hZ dX5_writeHoard_1 fl_X5_12 (by assumption) (by assumption) ?_
    refine z_aload_n0 hZ dX5_writeHoard_4 ?_
    refine z_gf_X5_scroll hZ dX5_writeHoard_5 fl_X5_12 (by assumption) (by assumption) ?_
    refine z_gf_X4_point hZ dX5_writeHoard_8 fl_X5_49 (by assumption) (by assumption) ?_
    refine z_pf_X4_mark hZ dX5_writeHoard_11 fl_X5_173 (by assumption) (by assumption) (fun F11 hF11 hf11 => ?_)
    have hO := (f1 hj (by omega) hf11 (i := 0) (by omega) (by omega)).trans hO
    have s11 := hS.pt (mk1 := v 1) hj hF11 hf11 (by omega)
    have r11 := hR.m1 hj (by omega) hf11
    have tH := r11.tx h4.1 h4.2
    have oH := tH.2.1
    refine z_aload_n0 hZ dX5_writeHoard_14 ?_
    refine z_gf_X5_scroll hZ dX5_writeHoard_15 fl_X5_12 (by assumption) (by assumption) ?_
    refine z_aload_n1 hZ dX5_writeHoard_18 ?_
    refine z_cV hZ (As := [_]) rfl dX5_writeHoard_19 ml_X5_219 wy_X4_writeText (m_X4_writeText l s11 tH (by omega) ⟨hj.ne (by omega) (by omega) (by omega), hj.ne (by omega) (by omega) (by omega), hj.ne (by omega) (by omega) (by omega), hj.ne (by omega) (by omega) (by omega), hj.ne (by omega) (by omega) (by omega), hj.ne (by omega) (by omega) (by omega)⟩) (by assumption) (by assumption) rfl ⟨Nat.le_of_ble_eq_true rfl, Nat.le_of_ble_eq_true rfl⟩ ⟨Nat.le_of_ble_eq_true rfl, Nat.le_of_ble_eq_true rfl⟩ (Nat.le_of_ble_eq_true rfl) (fun _ _ _ h => h.elim) (fun v19 L19 G19 hp19 => ?_)
    obtain ⟨rfl, rfl, s19, f19⟩ := hp19
    have hO := (f3 hj f19 (i := 0) (by omega) (by omega)).trans hO
    have hA := (f3 hj f19 (i := 8) (by omega) (by omega)).trans ((f1 hj (by omega) hf11 (i := 8) (by omega) (by omega)).trans hA)
    have r19 := r11.m3 hj f19
    have tH := r19.tx h4.1 h4.2
    have oH := tH.2.1
    rw [el, if_neg (by omega)] at s19
    refine z_aload_n0 hZ dX5_writeHoard_22 ?_
    refine z_gf_X5_accounts hZ dX5_writeHoard_23 fl_X5_28 (by assumption) (by assumption) ?_
    refine z_dup hZ dX5_writeHoard_26 rfl ?_
    refine z_gf_X0_yanked hZ dX5_writeHoard_27 fl_X5_223 (by assumption) (by assumption) ?_
    refine z_aload_n1 hZ dX5_writeHoard_30 ?_
    refine z_cV hZ (As := []) rfl dX5_writeHoard_31 ml_X5_126 wy_X6_count (m_X6_count l tH) (by assumption) (by assumption) rfl ⟨Nat.le_of_ble_eq_true rfl, Nat.le_of_ble_eq_true rfl⟩ ⟨Nat.le_of_ble_eq_true rfl, Nat.le_of_ble_eq_true rfl⟩ (Nat.le_of_ble_eq_true rfl) (fun _ _ _ h => h.elim) (fun v31 L31 G31 hp31 => ?_)
    obtain ⟨rfl, rfl, rfl⟩ := hp31
    refine z_iadd hZ dX5_writeHoard_34 ?_
    rw [el]
    refine z_pf_X0_yanked hZ dX5_writeHoard_35 fl_X5_223 (by assumption) (by assumption) (fun F35 hF35 hf35 => ?_)
    have hO := (f1 hj (by omega) hf35 (i := 0) (by omega) (by omega)).trans hO
    refine z_aload_n0 hZ dX5_writeHoard_38 ?_
    refine z_iconst hZ dX5_writeHoard_39 ?_
    refine z_pf_X5_kind hZ dX5_writeHoard_40 fl_X5_32 (by assumption) (by assumption) (fun F40 hF40 hf40 => ?_)
    have r40 := (r19.m1 hj (by omega) hf35).m1 hj (by omega) hf40
    have tH := r40.tx h4.1 h4.2
    have oH := tH.2.1
    refine z_aload_n1 hZ dX5_writeHoard_43 ?_
    refine z_cV hZ (As := []) rfl dX5_writeHoard_44 ml_X5_126 wy_X6_count (m_X6_count l tH) (by assumption) (by assumption) rfl ⟨Nat.le_of_ble_eq_true rfl, Nat.le_of_ble_eq_true rfl⟩ ⟨Nat.le_of_ble_eq_true rfl, Nat.le_of_ble_eq_true rfl⟩ (Nat.le_of_ble_eq_true rfl) (fun _ _ _ h => h.elim) (fun v44 L44 G44 hp44 => ?_)
    obtain ⟨rfl, rfl, rfl⟩ := hp44
    exact z_iret hZ rfl (Nat.le_of_ble_eq_true rfl) (Nat.le_of_ble_eq_true rfl) dX5_writeHoard_47 (by
            have e8 : vYk v 8 = v 8 := (by unfold vYk vPar shR wu; (try dsimp only); (repeat (first | rw [if_pos (by omega)] | rw [if_neg (by omega)])); (first | done | rfl | (congr 1; omega) | (split <;> omega)))
            have ru : RU v (vYk v) := fun y hy => (by unfold vYk vPar shR wu; (try dsimp only); (repeat (first | rw [if_pos (by omega)] | rw [if_neg (by omega)])); (first | done | rfl | (congr 1; omega) | (split <;> omega)))
            have e1 : vYk v 1 = v 1 + nxL v := (by unfold vYk vPar shR wu; (try dsimp only); (repeat (first | rw [if_pos (by omega)] | rw [if_neg (by omega)])); (first | done | rfl | (congr 1; omega) | (split <;> omega)))
            have e2 : vYk v 2 = v 1 := (by unfold vYk vPar shR wu; (try dsimp only); (repeat (first | rw [if_pos (by omega)] | rw [if_neg (by omega)])); (first | done | rfl | (congr 1; omega) | (split <;> omega)))
            refine ⟨pv el, rfl, ?_, (((s1 (by omega) hf11).tr (s3 f19)).tr (s1 (by omega) hf35)).tr (s1 (by omega) hf40)⟩
            exact stP.sw (k7 := v 7 + nxL v) ((s19.m1 hj (by omega) (by omega) hf35).m1 hj (by omega) (by omega) hf40) r40 hh ((f1 hj (by omega) hf40 (by omega) (by omega)).trans hF35) hF40 ru (by unfold vYk vPar shR wu; (try dsimp only); (repeat (first | rw [if_pos (by omega)] | rw [if_neg (by omega)])); (first | done | rfl | (congr 1; omega) | (split <;> omega))) e1 e2 (fun k h0 h1 => by
              unfold insA fT
              by_cases q1 : k < v 1
              · exact (by unfold vYk vPar shR wu; (try dsimp only); (repeat (first | rw [if_pos (by omega)] | rw [if_neg (by omega)])); (first | done | rfl | (congr 1; omega) | (split <;> omega)))
              · by_cases q2 : k < v 1 + nxL v
                · rw [if_neg q1, if_pos q2, hq.2 _ (by omega) (by omega)]
                  unfold vYk
                  rw [wu_n (by omega), wu_n (by omega), wu_n (by omega), if_pos (by omega)]
                  congr 1
                  omega
                · exact (by unfold vYk vPar shR wu; (try dsimp only); (repeat (first | rw [if_pos (by omega)] | rw [if_neg (by omega)])); (first | done | rfl | (congr 1; omega) | (split <;> omega)))) (by unfold vYk vPar shR wu; (try dsimp only); (repeat (first | rw [if_pos (by omega)] | rw [if_neg (by omega)])); (first | done | rfl | (congr 1; omega) | (split <;> omega))) (by unfold vYk vPar shR wu; (try dsimp only); (repeat (first | rw [if_pos (by omega)] | rw [if_neg (by omega)])); (first | done | rfl | (congr 1; omega) | (split <;> omega))) (by unfold vYk vPar shR wu; (try dsimp only); (repeat (first | rw [if_pos (by omega)] | rw [if_neg (by omega)])); (first | done | rfl | (congr 1; omega) | (split <;> omega))) ⟨by omega, by omega⟩ (hi.ru2 ru (by omega) (by omega)))
  exact hgo
set_option maxRecDepth 100000 in
set_option maxHeartbeats 4000000 in
theorem m_X5_yankNext (l : Launch) {L : List Nat} {F : Nat → PE} {sa : Nat → Nat} {v : Int → Int} {kd : Int} (hj : ij sa) (hL : inL L sa) (t : stP L F sa v kd) : PM l yX5_yankNext cX5_yankNext 2 (some .int) (rm 6 0 0) L [.ref (sa 0)] F (fun v9 L1 F1 => v9 = some (.int (iI (if 0 < v 3 ∧ v 0 + nxL v ≤ 200 then nxL v else -1))) ∧ L = L1 ∧ (if 0 < v 3 ∧ v 0 + nxL v ≤ 200 then stP L F1 sa (vYk v) 2 ∧ 1 ≤ nxL v ∧ nxL v ≤ 200 else F1 = F) ∧ fS sa F F1) (fun _ _ _ => False) := by
  refine pm_of cd_X5_yankNext (by decide +kernel) (Nat.le_of_ble_eq_true rfl) (fun ZZ hZ => ?_)
  have hgo : ZZ 0 0 0 [some (.ref (sa 0)), none] [] L F := by
    obtain ⟨π, hl, hf, w, r, tt, hS, hR, hh, hA, he, hO, hi⟩ := t
    have l0 := hL 0 (by omega)
    have l1 := hL 1 (by omega)
    have l4 := hL 4 (by omega)
    have hSc := hS.2.1
    have hR4 := hR.1
    have hm := hR.2.2.2.2.2.1
    have hn := hS.2.2.1.2.2.2.1
    by_cases h3 : 0 < v 3
    · have h4 := hi.2.2.1 h3
      have hR' := hR
      rw [nxA_pos h3] at hR hR4
      have tH := hR.tx h4.1 h4.2
      have el : hl (v 4) = nxL v := (hh (v 4) h4.1 h4.2).1
      have rn : 1 ≤ nxL v ∧ nxL v ≤ 200 := hi.1 (v 4) h4.1 h4.2
      rw [el] at tH
      have hT := hS.2.2.1.2.1
      have l2 := hL 2 (by omega)
      have hπ := (hR.2.2.2.1 (v 4) h4.1 (by omega)).1
      have lH := hL (9 + π (v 4)) (by omega)
      have oH := tH.2.1
      refine z_aload_n0 hZ dX5_yankNext_0 ?_
      refine z_gf_X5_ring hZ dX5_yankNext_1 fl_X5_21 (by assumption) (by assumption) ?_
      refine z_aload_n0 hZ dX5_yankNext_4 ?_
      refine z_gf_X5_ring hZ dX5_yankNext_5 fl_X5_21 (by assumption) (by assumption) ?_
      refine z_gf_X3_next hZ dX5_yankNext_8 fl_X5_207 (by assumption) (by assumption) ?_
      refine z_cV hZ (As := [_]) rfl dX5_yankNext_11 ml_X5_210 wy_X3_hoard (m_X3_hoard l hL hR h4) (by assumption) (by assumption) rfl ⟨Nat.le_of_ble_eq_true rfl, Nat.le_of_ble_eq_true rfl⟩ ⟨Nat.le_of_ble_eq_true rfl, Nat.le_of_ble_eq_true rfl⟩ (Nat.le_of_ble_eq_true rfl) (fun _ _ _ h => h.elim) (fun v11 L11 G11 hp11 => ?_)
      obtain ⟨rfl, rfl, rfl⟩ := hp11
      refine z_astore_n1 hZ dX5_yankNext_14 (by decide) rfl ?_
      refine z_aload_n0 hZ dX5_yankNext_15 ?_
      refine z_gf_X5_ring hZ dX5_yankNext_16 fl_X5_21 (by assumption) (by assumption) ?_
      refine z_gf_X3_count hZ dX5_yankNext_19 fl_X5_214 (by assumption) (by assumption) ?_
      refine z_iconst hZ dX5_yankNext_22 ?_
      refine z_icmp_lt hZ (tgt := 43) dX5_yankNext_23 rfl (by omega) (fun hc23 => ?_) (fun hc23 => ?_)
      · refine z_iconst hZ dX5_yankNext_43 ?_
        exact z_iret hZ rfl (Nat.le_of_ble_eq_true rfl) (Nat.le_of_ble_eq_true rfl) dX5_yankNext_44 (by
            first
              | (exfalso; omega)
              | exact ⟨pv (if_neg (by omega)).symm, rfl, by rw [if_neg (by omega)], fS.rf⟩)
      · refine z_aload_n1 hZ dX5_yankNext_26 ?_
        refine z_cV hZ (As := []) rfl dX5_yankNext_27 ml_X5_126 wy_X6_count (m_X6_count l tH) (by assumption) (by assumption) rfl ⟨Nat.le_of_ble_eq_true rfl, Nat.le_of_ble_eq_true rfl⟩ ⟨Nat.le_of_ble_eq_true rfl, Nat.le_of_ble_eq_true rfl⟩ (Nat.le_of_ble_eq_true rfl) (fun _ _ _ h => h.elim) (fun v27 L27 G27 hp27 => ?_)
        obtain ⟨rfl, rfl, rfl⟩ := hp27
        refine z_aload_n0 hZ dX5_yankNext_30 ?_
        refine z_gf_X5_scroll hZ dX5_yankNext_31 fl_X5_12 (by assumption) (by assumption) ?_
        refine z_gf_X4_text hZ dX5_yankNext_34 fl_X5_111 (by assumption) (by assumption) ?_
        refine z_cV hZ (As := []) rfl dX5_yankNext_37 ml_X5_115 wy_X6_room (m_X6_room l hS.2.2.1) (by assumption) (by assumption) rfl ⟨Nat.le_of_ble_eq_true rfl, Nat.le_of_ble_eq_true rfl⟩ ⟨Nat.le_of_ble_eq_true rfl, Nat.le_of_ble_eq_true rfl⟩ (Nat.le_of_ble_eq_true rfl) (fun _ _ _ h => h.elim) (fun v37 L37 G37 hp37 => ?_)
        obtain ⟨rfl, rfl, rfl⟩ := hp37
        refine z_icmp_le hZ (tgt := 45) dX5_yankNext_40 rfl (by omega) (fun hc40 => ?_) (fun hc40 => ?_)
        · refine z_aload_n0 hZ dX5_yankNext_45 ?_
          refine z_aload_n1 hZ dX5_yankNext_46 ?_
          refine z_cV hZ (As := [_]) rfl dX5_yankNext_47 ml_X5_216 wy_X5_writeHoard (m_X5_writeHoard l hj hL hS hR' hh hA he hO hi.k0 h3 (by omega)) (by assumption) (by assumption) rfl ⟨Nat.le_of_ble_eq_true rfl, Nat.le_of_ble_eq_true rfl⟩ ⟨Nat.le_of_ble_eq_true rfl, Nat.le_of_ble_eq_true rfl⟩ (Nat.le_of_ble_eq_true rfl) (fun _ _ _ h => h.elim) (fun v47 L47 G47 hp47 => ?_)
          obtain ⟨rfl, rfl, t47, f47⟩ := hp47
          exact z_iret hZ rfl (Nat.le_of_ble_eq_true rfl) (Nat.le_of_ble_eq_true rfl) dX5_yankNext_50 (by exact ⟨pv (if_pos (by omega)).symm, rfl, by rw [if_pos (by omega)]; exact ⟨t47, rn⟩, f47⟩)
        · refine z_iconst hZ dX5_yankNext_43 ?_
          exact z_iret hZ rfl (Nat.le_of_ble_eq_true rfl) (Nat.le_of_ble_eq_true rfl) dX5_yankNext_44 (by
            first
              | (exfalso; omega)
              | exact ⟨pv (if_neg (by omega)).symm, rfl, by rw [if_neg (by omega)], fS.rf⟩)
    · rw [nxA_zero h3 (by omega)] at hR hR4
      refine z_aload_n0 hZ dX5_yankNext_0 ?_
      refine z_gf_X5_ring hZ dX5_yankNext_1 fl_X5_21 (by assumption) (by assumption) ?_
      refine z_aload_n0 hZ dX5_yankNext_4 ?_
      refine z_gf_X5_ring hZ dX5_yankNext_5 fl_X5_21 (by assumption) (by assumption) ?_
      refine z_gf_X3_next hZ dX5_yankNext_8 fl_X5_207 (by assumption) (by assumption) ?_
      refine z_cV hZ (As := [_]) rfl dX5_yankNext_11 ml_X5_210 wy_X3_hoard (m_X3_hoard_no l hL hR (by omega) (by omega)) (by assumption) (by assumption) rfl ⟨Nat.le_of_ble_eq_true rfl, Nat.le_of_ble_eq_true rfl⟩ ⟨Nat.le_of_ble_eq_true rfl, Nat.le_of_ble_eq_true rfl⟩ (Nat.le_of_ble_eq_true rfl) (fun _ _ _ h => h.elim) (fun v11 L11 G11 hp11 => ?_)
      obtain ⟨rfl, rfl, rfl⟩ := hp11
      refine z_astore_n1 hZ dX5_yankNext_14 (by decide) rfl ?_
      refine z_aload_n0 hZ dX5_yankNext_15 ?_
      refine z_gf_X5_ring hZ dX5_yankNext_16 fl_X5_21 (by assumption) (by assumption) ?_
      refine z_gf_X3_count hZ dX5_yankNext_19 fl_X5_214 (by assumption) (by assumption) ?_
      refine z_iconst hZ dX5_yankNext_22 ?_
      refine z_icmp_lt hZ (tgt := 43) dX5_yankNext_23 rfl (by omega) (fun hc23 => ?_) (fun hc23 => ?_)
      · refine z_iconst hZ dX5_yankNext_43 ?_
        exact z_iret hZ rfl (Nat.le_of_ble_eq_true rfl) (Nat.le_of_ble_eq_true rfl) dX5_yankNext_44 (by exact ⟨pv (if_neg (by omega)).symm, rfl, by rw [if_neg (by omega)], fS.rf⟩)
      · exfalso; omega
  exact hgo
set_option maxRecDepth 100000 in
set_option maxHeartbeats 4000000 in
theorem m_X5_turnRing (l : Launch) {L : List Nat} {F : Nat → PE} {sa : Nat → Nat} {v : Int → Int} {kd z : Int} (hj : ij sa) (hL : inL L sa) (t : stP L F sa v kd) (hz : -20 ≤ z ∧ z ≤ 20) : PM l yX5_turnRing cX5_turnRing 3 (some .int) (rm 4 0 0) L [.ref (sa 0), .int (iI z)] F (fun v9 L1 F1 => v9 = some (.int (iI (if 0 < v 3 then trA z v else -1))) ∧ L = L1 ∧ (if 0 < v 3 then stP L F1 sa (vTr z v) 0 else F1 = F) ∧ fS sa F F1) (fun _ _ _ => False) := by
  refine pm_of cd_X5_turnRing (by decide +kernel) (Nat.le_of_ble_eq_true rfl) (fun ZZ hZ => ?_)
  have hgo : ZZ 0 0 0 [some (.ref (sa 0)), some (.int (iI z)), none] [] L F := by
    obtain ⟨π, hl, hf, w, r, tt, hS, hR, hh, hA, he, hO, hi⟩ := t
    have l0 := hL 0 (by omega)
    have l4 := hL 4 (by omega)
    have hR4 := hR.1
    have hm := hR.2.2.2.2.2.1
    have eq1 : (if 0 < v 3 then (nxA v + z) % v 3 else -1) = (if 0 < v 3 then trA z v else -1) := by
      by_cases h3 : 0 < v 3
      · rw [if_pos h3, if_pos h3, nxA_pos h3, trA_eq]
      · rw [if_neg h3, if_neg h3]
    by_cases h3 : 0 < v 3
    · have rt := trA_rg (z := z) h3
      have g3 : vTr z v 3 = v 3 := wu_n (by decide)
      have g4 : vTr z v 4 = trA z v := wu_s
      have g5 : vTr z v 5 = v 5 := wu_n (by decide)
      have gx : ∀ x, x ≠ 4 → vTr z v x = v x := fun x hx => wu_n hx
      refine z_aload_n0 hZ dX5_turnRing_0 ?_
      refine z_gf_X5_ring hZ dX5_turnRing_1 fl_X5_21 (by assumption) (by assumption) ?_
      refine z_iload_n1 hZ dX5_turnRing_4 ?_
      refine z_cV hZ (As := [_]) rfl dX5_turnRing_5 ml_X5_226 wy_X3_nextIfTurned (m_X3_nextIfTurned l hL hR hz) (by assumption) (by assumption) rfl ⟨Nat.le_of_ble_eq_true rfl, Nat.le_of_ble_eq_true rfl⟩ ⟨Nat.le_of_ble_eq_true rfl, Nat.le_of_ble_eq_true rfl⟩ (Nat.le_of_ble_eq_true rfl) (fun _ _ _ h => h.elim) (fun v5 L5 G5 hp5 => ?_)
      obtain ⟨rfl, rfl, rfl⟩ := hp5
      rw [eq1, if_pos h3]
      refine z_istore_n2 hZ dX5_turnRing_8 (by decide) rfl ?_
      refine z_iload_n2 hZ dX5_turnRing_9 ?_
      refine z_iconst hZ dX5_turnRing_10 ?_
      refine z_icmp_ne hZ (tgt := 16) dX5_turnRing_11 rfl (by omega) (fun hc11 => ?_) (fun hc11 => ?_)
      · refine z_aload_n0 hZ dX5_turnRing_16 ?_
        refine z_gf_X5_ring hZ dX5_turnRing_17 fl_X5_21 (by assumption) (by assumption) ?_
        refine z_iload_n2 hZ dX5_turnRing_20 ?_
        refine z_pf_X3_next hZ dX5_turnRing_21 fl_X5_207 (by assumption) (by assumption) (fun F21 hF21 hf21 => ?_)
        have hO := (f1 hj (by omega) hf21 (i := 0) (by omega) (by omega)).trans hO
        refine z_aload_n0 hZ dX5_turnRing_24 ?_
        refine z_iconst hZ dX5_turnRing_25 ?_
        refine z_pf_X5_kind hZ dX5_turnRing_26 fl_X5_32 (by assumption) (by assumption) (fun F26 hF26 hf26 => ?_)
        refine z_iload_n2 hZ dX5_turnRing_29 ?_
        exact z_iret hZ rfl (Nat.le_of_ble_eq_true rfl) (Nat.le_of_ble_eq_true rfl) dX5_turnRing_30 (by
            rw [if_pos h3, if_pos h3]
            refine ⟨rfl, rfl, ?_, (s1 (by omega) hf21).tr (s1 (by omega) hf26)⟩
            refine ⟨π, hl, hf, w, r, tt, ?_, ?_, ?_, ?_, ?_, hF26, ?_⟩
            · rw [gx 0 (by omega), gx 1 (by omega), gx 2 (by omega)]
              exact ((hS.m1 hj (by omega) (by omega) hf21).m1 hj (by omega) (by omega) hf26).cg (fun k k0 k1 => (gx (18 + k) (by omega)).symm)
            · rw [g5]; unfold nxA; rw [g3, g4, if_neg (by omega)]; exact (hR.obj hj hF21 hf21 hm ⟨by omega, by omega⟩).m1 hj (by omega) hf26
            · intro i i0 i1
              rw [g3] at i1
              rw [gx _ (by omega)]
              exact ⟨(hh i i0 i1).1, fun k k0 k1 => by rw [gx _ (by omega)]; exact (hh i i0 i1).2 k k0 k1⟩
            · rw [gx 6 (by omega), gx 7 (by omega), gx 9 (by omega)]; exact (f1 hj (by omega) hf26 (by omega) (by omega)).trans ((f1 hj (by omega) hf21 (by omega) (by omega)).trans hA)
            · rw [gx 8 (by omega), gx 0 (by omega), gx 7 (by omega), gx 6 (by omega)]; exact he
            · refine ⟨fun i i0 i1 => ?_, by omega, by omega, by omega, by omega, by omega⟩
              rw [g3] at i1
              rw [gx _ (by omega)]
              exact hi.1 i i0 i1)
      · refine z_iconst hZ dX5_turnRing_14 ?_
        exact z_iret hZ rfl (Nat.le_of_ble_eq_true rfl) (Nat.le_of_ble_eq_true rfl) dX5_turnRing_15 (by exfalso; omega)
    · have e : (if 0 < v 3 then trA z v else -1) = -1 := if_neg h3
      refine z_aload_n0 hZ dX5_turnRing_0 ?_
      refine z_gf_X5_ring hZ dX5_turnRing_1 fl_X5_21 (by assumption) (by assumption) ?_
      refine z_iload_n1 hZ dX5_turnRing_4 ?_
      refine z_cV hZ (As := [_]) rfl dX5_turnRing_5 ml_X5_226 wy_X3_nextIfTurned (m_X3_nextIfTurned l hL hR hz) (by assumption) (by assumption) rfl ⟨Nat.le_of_ble_eq_true rfl, Nat.le_of_ble_eq_true rfl⟩ ⟨Nat.le_of_ble_eq_true rfl, Nat.le_of_ble_eq_true rfl⟩ (Nat.le_of_ble_eq_true rfl) (fun _ _ _ h => h.elim) (fun v5 L5 G5 hp5 => ?_)
      obtain ⟨rfl, rfl, rfl⟩ := hp5
      rw [eq1, e]
      refine z_istore_n2 hZ dX5_turnRing_8 (by decide) rfl ?_
      refine z_iload_n2 hZ dX5_turnRing_9 ?_
      refine z_iconst hZ dX5_turnRing_10 ?_
      refine z_icmp_ne hZ (tgt := 16) dX5_turnRing_11 rfl (by omega) (fun hc11 => ?_) (fun hc11 => ?_)
      · exfalso; omega
      · refine z_iconst hZ dX5_turnRing_14 ?_
        exact z_iret hZ rfl (Nat.le_of_ble_eq_true rfl) (Nat.le_of_ble_eq_true rfl) dX5_turnRing_15 (by
            rw [e, if_neg h3]
            exact ⟨rfl, rfl, rfl, fS.rf⟩)
  exact hgo

