/-! STATE: other hoards in place of what was yanked, caves, copies, deeds by their letters. -/
def oyL (v : Int → Int) : Int := v (10 + trA 1 v)
set_option maxRecDepth 100000 in
set_option maxHeartbeats 4000000 in
theorem m_X5_yankOlder (l : Launch) {L : List Nat} {F : Nat → PE} {sa : Nat → Nat} {v : Int → Int} {kd : Int} (hj : ij sa) (hL : inL L sa) (t : stP L F sa v kd) : PM l yX5_yankOlder cX5_yankOlder 3 (some .int) (rm 6 0 0) L [.ref (sa 0)] F (fun v9 L1 F1 => v9 = some (.int (iI (if kd = 2 ∧ v 0 - (v 1 - v 2) + oyL v ≤ 200 then oyL v else -1))) ∧ L = L1 ∧ (if kd = 2 ∧ v 0 - (v 1 - v 2) + oyL v ≤ 200 then stP L F1 sa (vYo v) 2 ∧ 1 ≤ oyL v ∧ oyL v ≤ 200 else F1 = F) ∧ fS sa F F1) (fun _ _ _ => False) := by
  refine pm_of cd_X5_yankOlder (by decide +kernel) (Nat.le_of_ble_eq_true rfl) (fun ZZ hZ => ?_)
  have hgo : ZZ 0 0 0 [some (.ref (sa 0)), none, none] [] L F := by
    obtain ⟨π, hl, hf, w, r, tt, hS, hR, hh, hA, he, hO, hi⟩ := t
    have l0 := hL 0 (by omega)
    have l1 := hL 1 (by omega)
    have l2 := hL 2 (by omega)
    have l4 := hL 4 (by omega)
    have l8 := hL 8 (by omega)
    have hSc := hS.2.1
    have hT := hS.2.2.1.2.1
    have hR4 := hR.1
    have hm := hR.2.2.2.2.2.1
    have hn := hS.2.2.1.2.2.2.1
    have hp := hS.2.2.2
    have hk := hi.2.2.2.1
    by_cases hkd : kd = 2
    · have h2 := hi.2.2.2.2.2 hkd
      have h3 : 0 < v 3 := by omega
      have h4 := hi.2.2.1 h3
      have rt := trA_rg (z := 1) h3
      have k3 : vTk (v 2) (v 1) v 3 = v 3 := (by unfold vTk shL wu; (try dsimp only); (repeat (first | rw [if_pos (by omega)] | rw [if_neg (by omega)])); (first | done | rfl | (congr 1; omega) | (split <;> omega)))
      have k4 : vTk (v 2) (v 1) v 4 = v 4 := (by unfold vTk shL wu; (try dsimp only); (repeat (first | rw [if_pos (by omega)] | rw [if_neg (by omega)])); (first | done | rfl | (congr 1; omega) | (split <;> omega)))
      have kt : trA 1 (vTk (v 2) (v 1) v) = trA 1 v := by unfold trA; rw [k3, k4]
      have g1 : mvA (v 1) (v 2) (v 1) = v 2 := by unfold mvA; repeat' split <;> omega
      have g2 : mvA (v 2) (v 2) (v 1) = v 2 := by unfold mvA; repeat' split <;> omega
      obtain ⟨V, hV⟩ : ∃ V, V = vTr 1 (vTk (v 2) (v 1) v) := ⟨_, rfl⟩
      have Vx : ∀ x, x = 3 ∨ (5 ≤ x ∧ x < 18) ∨ 218 ≤ x → V x = v x := fun x hx => by rw [hV]; exact (by unfold vTr vTk shL wu; (try dsimp only); (repeat (first | rw [if_pos (by omega)] | rw [if_neg (by omega)])); (first | done | rfl | (congr 1; omega) | (split <;> omega)))
      have V4 : V 4 = trA 1 v := by rw [hV]; unfold vTr; rw [wu_s, kt]
      have V0 : V 0 = v 0 - (v 1 - v 2) := by rw [hV]; exact (by unfold vTr vTk shL wu; (try dsimp only); (repeat (first | rw [if_pos (by omega)] | rw [if_neg (by omega)])); (first | done | rfl | (congr 1; omega) | (split <;> omega)))
      have V1 : V 1 = v 2 := by rw [hV]; unfold vTr vTk; rw [wu_n (by omega), wu_n (by omega), wu_s, g1]
      have V2 : V 2 = v 2 := by rw [hV]; unfold vTr vTk; rw [wu_n (by omega), wu_s, g2]
      have VL : nxL V = oyL v := by unfold nxL oyL; rw [V4]; exact Vx _ (by omega)
      have V3 := Vx 3 (by omega)
      have V5 := Vx 5 (by omega)
      have V6 := Vx 6 (by omega)
      have V7 := Vx 7 (by omega)
      have V8 := Vx 8 (by omega)
      have V9 := Vx 9 (by omega)
      have eq1 : (if 0 < v 3 then (nxA v + 1) % v 3 else -1) = V 4 := by rw [if_pos h3, nxA_pos h3, V4, trA_eq]
      have r4 : 0 ≤ V 4 ∧ V 4 < v 3 := by omega
      have hfm : fmA (v 2) (v 1) = v 1 - v 2 := by unfold fmA abI; rw [if_neg (by omega)]; split <;> omega
      have tH := hR.tx r4.1 r4.2
      have el : hl (V 4) = oyL v := by rw [(hh (V 4) r4.1 r4.2).1, V4]; rfl
      have rn : 1 ≤ oyL v ∧ oyL v ≤ 200 := by unfold oyL; exact hi.1 _ (by omega) (by omega)
      have hπ := (hR.2.2.2.1 (V 4) r4.1 (by omega)).1
      have lH := hL (9 + π (V 4)) (by omega)
      rw [el] at tH
      have oH := tH.2.1
      have h13 : iv V 0 := ⟨fun i i0 i1 => by rw [Vx _ (by omega)]; exact hi.1 i i0 (by omega), by omega, by omega, by omega, by omega, by omega⟩
      have hfT : ∀ k, 0 ≤ k → k < v 0 - (v 1 - v 2) → delA (fT v) (v 2) (v 1) k = fT V k := fun k k0 k1 => by
        unfold fT delA
        rw [hV]
        by_cases q1 : k < v 2
        · exact (by unfold vTr vTk shL wu; (try dsimp only); (repeat (first | rw [if_pos (by omega)] | rw [if_neg (by omega)])); (first | done | rfl | (congr 1; omega) | (split <;> omega)))
        · rw [if_neg q1]; exact (by unfold vTr vTk shL wu; (try dsimp only); (repeat (first | rw [if_pos (by omega)] | rw [if_neg (by omega)])); (first | done | rfl | (congr 1; omega) | (split <;> omega)))
      refine z_aload_n0 hZ dX5_yankOlder_0 ?_
      refine z_gf_X5_kind hZ dX5_yankOlder_1 fl_X5_32 (by assumption) (by assumption) ?_
      refine z_iconst hZ dX5_yankOlder_4 ?_
      refine z_icmp_eq hZ (tgt := 10) dX5_yankOlder_5 rfl (by omega) (fun hc5 => ?_) (fun hc5 => ?_)
      · refine z_aload_n0 hZ dX5_yankOlder_10 ?_
        refine z_gf_X5_scroll hZ dX5_yankOlder_11 fl_X5_12 (by assumption) (by assumption) ?_
        refine z_cV hZ (As := []) rfl dX5_yankOlder_14 ml_X5_204 wy_X4_fromMark (m_X4_fromMark l hS) (by assumption) (by assumption) rfl ⟨Nat.le_of_ble_eq_true rfl, Nat.le_of_ble_eq_true rfl⟩ ⟨Nat.le_of_ble_eq_true rfl, Nat.le_of_ble_eq_true rfl⟩ (Nat.le_of_ble_eq_true rfl) (fun _ _ _ h => h.elim) (fun v14 L14 G14 hp14 => ?_)
        obtain ⟨rfl, rfl, rfl⟩ := hp14
        refine z_istore_n1 hZ dX5_yankOlder_17 (by decide) rfl ?_
        rw [hfm]
        refine z_aload_n0 hZ dX5_yankOlder_18 ?_
        refine z_gf_X5_ring hZ dX5_yankOlder_19 fl_X5_21 (by assumption) (by assumption) ?_
        refine z_iconst hZ dX5_yankOlder_22 ?_
        refine z_cV hZ (As := [_]) rfl dX5_yankOlder_23 ml_X5_226 wy_X3_nextIfTurned (m_X3_nextIfTurned l hL hR (by omega)) (by assumption) (by assumption) rfl ⟨Nat.le_of_ble_eq_true rfl, Nat.le_of_ble_eq_true rfl⟩ ⟨Nat.le_of_ble_eq_true rfl, Nat.le_of_ble_eq_true rfl⟩ (Nat.le_of_ble_eq_true rfl) (fun _ _ _ h => h.elim) (fun v23 L23 G23 hp23 => ?_)
        obtain ⟨rfl, rfl, rfl⟩ := hp23
        rw [eq1]
        refine z_istore_n2 hZ dX5_yankOlder_26 (by decide) rfl ?_
        refine z_aload_n0 hZ dX5_yankOlder_27 ?_
        refine z_gf_X5_ring hZ dX5_yankOlder_28 fl_X5_21 (by assumption) (by assumption) ?_
        refine z_iload_n2 hZ dX5_yankOlder_31 ?_
        refine z_cV hZ (As := [_]) rfl dX5_yankOlder_32 ml_X5_210 wy_X3_hoard (m_X3_hoard l hL hR r4) (by assumption) (by assumption) rfl ⟨Nat.le_of_ble_eq_true rfl, Nat.le_of_ble_eq_true rfl⟩ ⟨Nat.le_of_ble_eq_true rfl, Nat.le_of_ble_eq_true rfl⟩ (Nat.le_of_ble_eq_true rfl) (fun _ _ _ h => h.elim) (fun v32 L32 G32 hp32 => ?_)
        obtain ⟨rfl, rfl, rfl⟩ := hp32
        refine z_cV hZ (As := []) rfl dX5_yankOlder_35 ml_X5_126 wy_X6_count (m_X6_count l tH) (by assumption) (by assumption) rfl ⟨Nat.le_of_ble_eq_true rfl, Nat.le_of_ble_eq_true rfl⟩ ⟨Nat.le_of_ble_eq_true rfl, Nat.le_of_ble_eq_true rfl⟩ (Nat.le_of_ble_eq_true rfl) (fun _ _ _ h => h.elim) (fun v35 L35 G35 hp35 => ?_)
        obtain ⟨rfl, rfl, rfl⟩ := hp35
        refine z_aload_n0 hZ dX5_yankOlder_38 ?_
        refine z_gf_X5_scroll hZ dX5_yankOlder_39 fl_X5_12 (by assumption) (by assumption) ?_
        refine z_gf_X4_text hZ dX5_yankOlder_42 fl_X5_111 (by assumption) (by assumption) ?_
        refine z_cV hZ (As := []) rfl dX5_yankOlder_45 ml_X5_115 wy_X6_room (m_X6_room l hS.2.2.1) (by assumption) (by assumption) rfl ⟨Nat.le_of_ble_eq_true rfl, Nat.le_of_ble_eq_true rfl⟩ ⟨Nat.le_of_ble_eq_true rfl, Nat.le_of_ble_eq_true rfl⟩ (Nat.le_of_ble_eq_true rfl) (fun _ _ _ h => h.elim) (fun v45 L45 G45 hp45 => ?_)
        obtain ⟨rfl, rfl, rfl⟩ := hp45
        refine z_iload_n1 hZ dX5_yankOlder_48 ?_
        refine z_iadd hZ dX5_yankOlder_49 ?_
        refine z_icmp_le hZ (tgt := 55) dX5_yankOlder_50 rfl (by omega) (fun hc50 => ?_) (fun hc50 => ?_)
        · refine z_aload_n0 hZ dX5_yankOlder_55 ?_
          refine z_gf_X5_scroll hZ dX5_yankOlder_56 fl_X5_12 (by assumption) (by assumption) ?_
          refine z_aload_n0 hZ dX5_yankOlder_59 ?_
          refine z_gf_X5_scroll hZ dX5_yankOlder_60 fl_X5_12 (by assumption) (by assumption) ?_
          refine z_gf_X4_mark hZ dX5_yankOlder_63 fl_X5_173 (by assumption) (by assumption) ?_
          refine z_aload_n0 hZ dX5_yankOlder_66 ?_
          refine z_gf_X5_scroll hZ dX5_yankOlder_67 fl_X5_12 (by assumption) (by assumption) ?_
          refine z_gf_X4_point hZ dX5_yankOlder_70 fl_X5_49 (by assumption) (by assumption) ?_
          refine z_cV hZ (As := [_, _]) rfl dX5_yankOlder_73 ml_X5_132 wy_X4_takeOut (m_X4_takeOut l hS (by omega)) (by assumption) (by assumption) rfl ⟨Nat.le_of_ble_eq_true rfl, Nat.le_of_ble_eq_true rfl⟩ ⟨Nat.le_of_ble_eq_true rfl, Nat.le_of_ble_eq_true rfl⟩ (Nat.le_of_ble_eq_true rfl) (fun _ _ _ h => h.elim) (fun v73 L73 G73 hp73 => ?_)
          obtain ⟨rfl, rfl, s73, f73⟩ := hp73
          have hO := (f3 hj f73 (i := 0) (by omega) (by omega)).trans hO
          have hA := (f3 hj f73 (i := 8) (by omega) (by omega)).trans hA
          have r73 := hR.m3 hj f73
          refine z_aload_n0 hZ dX5_yankOlder_76 ?_
          refine z_gf_X5_accounts hZ dX5_yankOlder_77 fl_X5_28 (by assumption) (by assumption) ?_
          refine z_dup hZ dX5_yankOlder_80 rfl ?_
          refine z_gf_X0_takenOut hZ dX5_yankOlder_81 fl_X5_229 (by assumption) (by assumption) ?_
          refine z_iload_n1 hZ dX5_yankOlder_84 ?_
          refine z_iadd hZ dX5_yankOlder_85 ?_
          refine z_pf_X0_takenOut hZ dX5_yankOlder_86 fl_X5_229 (by assumption) (by assumption) (fun F86 hF86 hf86 => ?_)
          have hO := (f1 hj (by omega) hf86 (i := 0) (by omega) (by omega)).trans hO
          have r86 := r73.m1 hj (by omega) hf86
          have s86 := s73.m1 hj (by omega) (by omega) hf86
          have hR4 := r86.1
          refine z_aload_n0 hZ dX5_yankOlder_89 ?_
          refine z_gf_X5_ring hZ dX5_yankOlder_90 fl_X5_21 (by assumption) (by assumption) ?_
          refine z_iload_n2 hZ dX5_yankOlder_93 ?_
          refine z_pf_X3_next hZ dX5_yankOlder_94 fl_X5_207 (by assumption) (by assumption) (fun F94 hF94 hf94 => ?_)
          have r94 := r86.obj hj hF94 hf94 hm ⟨by omega, by omega⟩
          have s94 := s86.m1 hj (by omega) (by omega) hf94
          have hO := (f1 hj (by omega) hf94 (i := 0) (by omega) (by omega)).trans hO
          have hA := (f1 hj (by omega) hf94 (i := 8) (by omega) (by omega)).trans hF86
          rw [g1, g2] at s94
          refine z_aload_n0 hZ dX5_yankOlder_97 ?_
          refine z_aload_n0 hZ dX5_yankOlder_98 ?_
          refine z_gf_X5_ring hZ dX5_yankOlder_99 fl_X5_21 (by assumption) (by assumption) ?_
          refine z_iload_n2 hZ dX5_yankOlder_102 ?_
          refine z_cV hZ (As := [_]) rfl dX5_yankOlder_103 ml_X5_210 wy_X3_hoard (m_X3_hoard l hL r94 r4) (by assumption) (by assumption) rfl ⟨Nat.le_of_ble_eq_true rfl, Nat.le_of_ble_eq_true rfl⟩ ⟨Nat.le_of_ble_eq_true rfl, Nat.le_of_ble_eq_true rfl⟩ (Nat.le_of_ble_eq_true rfl) (fun _ _ _ h => h.elim) (fun v103 L103 G103 hp103 => ?_)
          obtain ⟨rfl, rfl, rfl⟩ := hp103
          refine z_cV hZ (As := [_]) rfl dX5_yankOlder_106 ml_X5_216 wy_X5_writeHoard (m_X5_writeHoard l (v := V) (kd := kd) (w := w) (r := r) (tt := tt + (v 1 - v 2)) hj hL (by rw [V0, V1, V2]; exact s94.cg hfT) (by rw [V3, V5, nxA_pos (by omega)]; exact r94) (fun i i0 i1 => by rw [Vx _ (by omega)]; exact ⟨(hh i i0 (by omega)).1, fun k k0 k1 => by rw [Vx _ (by omega)]; exact (hh i i0 (by omega)).2 k k0 k1⟩) (by rw [V6, V7, V9]; exact hA) (by omega) hO h13 (by omega) (by omega)) (by assumption) (by assumption) rfl ⟨Nat.le_of_ble_eq_true rfl, Nat.le_of_ble_eq_true rfl⟩ ⟨Nat.le_of_ble_eq_true rfl, Nat.le_of_ble_eq_true rfl⟩ (Nat.le_of_ble_eq_true rfl) (fun _ _ _ h => h.elim) (fun v106 L106 G106 hp106 => ?_)
          obtain ⟨rfl, rfl, t106, f106⟩ := hp106
          exact z_iret hZ rfl (Nat.le_of_ble_eq_true rfl) (Nat.le_of_ble_eq_true rfl) dX5_yankOlder_109 (by
            refine ⟨pv (by rw [if_pos ⟨hkd, by omega⟩]; exact VL), rfl, ?_, (((s3 f73).tr (s1 (by omega) hf86)).tr (s1 (by omega) hf94)).tr f106⟩
            rw [if_pos ⟨hkd, by omega⟩]
            rw [hV] at t106
            exact ⟨t106, rn⟩)
        · refine z_iconst hZ dX5_yankOlder_53 ?_
          exact z_iret hZ rfl (Nat.le_of_ble_eq_true rfl) (Nat.le_of_ble_eq_true rfl) dX5_yankOlder_54 (by exact ⟨pv (if_neg (by omega)).symm, rfl, by rw [if_neg (by omega)], fS.rf⟩)
      · refine z_iconst hZ dX5_yankOlder_8 ?_
        exact z_iret hZ rfl (Nat.le_of_ble_eq_true rfl) (Nat.le_of_ble_eq_true rfl) dX5_yankOlder_9 (by exfalso; omega)
    · have q : ¬ (kd = 2 ∧ v 0 - (v 1 - v 2) + oyL v ≤ 200) := fun z => hkd z.1
      refine z_aload_n0 hZ dX5_yankOlder_0 ?_
      refine z_gf_X5_kind hZ dX5_yankOlder_1 fl_X5_32 (by assumption) (by assumption) ?_
      refine z_iconst hZ dX5_yankOlder_4 ?_
      refine z_icmp_eq hZ (tgt := 10) dX5_yankOlder_5 rfl (by omega) (fun hc5 => ?_) (fun hc5 => ?_)
      · exact absurd hc5 hkd
      · refine z_iconst hZ dX5_yankOlder_8 ?_
        exact z_iret hZ rfl (Nat.le_of_ble_eq_true rfl) (Nat.le_of_ble_eq_true rfl) dX5_yankOlder_9 (by exact ⟨pv (if_neg q).symm, rfl, by rw [if_neg q], fS.rf⟩)
  exact hgo
set_option maxRecDepth 100000 in
set_option maxHeartbeats 4000000 in
theorem m_X5_setCaves (l : Launch) {L : List Nat} {F : Nat → PE} {sa : Nat → Nat} {v : Int → Int} {kd z : Int} (hj : ij sa) (hL : inL L sa) (t : stP L F sa v kd) (hz : 1 ≤ z ∧ z ≤ 8) : PM l yX5_setCaves cX5_setCaves 3 (some .int) (rm 3 0 0) L [.ref (sa 0), .int (iI z)] F (fun v9 L1 F1 => v9 = some (.int (iI (v 5))) ∧ L = L1 ∧ stP L F1 sa (vCC z v) 0 ∧ fS sa F F1) (fun _ _ _ => False) := by
  refine pm_of cd_X5_setCaves (by decide +kernel) (Nat.le_of_ble_eq_true rfl) (fun ZZ hZ => ?_)
  have hgo : ZZ 0 0 0 [some (.ref (sa 0)), some (.int (iI z)), none] [] L F := by
    obtain ⟨π, hl, hf, w, r, tt, hS, hR, hh, hA, he, hO, hi⟩ := t
    have l0 := hL 0 (by omega)
    have l4 := hL 4 (by omega)
    have l8 := hL 8 (by omega)
    have hR4 := hR.1
    have hm := hR.2.2.2.2.2.1
    obtain ⟨lo, hlo⟩ : ∃ lo, lo = if 0 < v 3 - z then v 3 - z else 0 := ⟨_, rfl⟩
    have hx : (∀ x, x ≠ 3 → x ≠ 4 → x ≠ 5 → x ≠ 9 → vCC z v x = v x) ∧ vCC z v 3 = v 3 - lo ∧ vCC z v 5 = z ∧ vCC z v 9 = v 9 + lo ∧ (if v 3 - lo ≤ nxA v then 0 else nxA v) = nxA (vCC z v) ∧ ((vCC z v 3 = 0 → vCC z v 4 = 0) ∧ (0 < vCC z v 3 → 0 ≤ vCC z v 4 ∧ vCC z v 4 < vCC z v 3)) ∧ 0 ≤ lo ∧ lo ≤ v 3 ∧ v 3 - lo ≤ z := by
      have a1 := hi.2.1
      have a2 := hi.2.2.1
      by_cases q : z < v 3
      · have e : lo = v 3 - z := by rw [hlo, if_pos (by omega)]
        have hV : vCC z v = wu (wu (wu (wu v 5 z) 9 (v 9 + (v 3 - z))) 3 z) 4 (if v 4 < z then v 4 else 0) := if_pos q
        have c3 : vCC z v 3 = z := by rw [hV, wu_n (by omega), wu_s]
        have c4 : vCC z v 4 = if v 4 < z then v 4 else 0 := by rw [hV, wu_s]
        refine ⟨fun x h3 h4 h5 h9 => by rw [hV, wu_n h4, wu_n h3, wu_n h9, wu_n h5], by omega, by rw [hV, wu_n (by omega), wu_n (by omega), wu_n (by omega), wu_s], by rw [hV, wu_n (by omega), wu_n (by omega), wu_s, e], ?_, ⟨by omega, ?_⟩, by omega, by omega, by omega⟩
        · unfold nxA
          simp only [c3, c4, if_neg (show ¬ v 3 = 0 by omega), if_neg (show ¬ z = 0 by omega)]
          split <;> split <;> omega
        · rw [c3, c4]; split <;> omega
      · have e : lo = 0 := by rw [hlo, if_neg (by omega)]
        have hV : vCC z v = wu v 5 z := if_neg q
        have c3 : vCC z v 3 = v 3 := by rw [hV, wu_n (by omega)]
        have c4 : vCC z v 4 = v 4 := by rw [hV, wu_n (by omega)]
        refine ⟨fun x h3 h4 h5 h9 => by rw [hV, wu_n h5], by omega, by rw [hV, wu_s], by rw [hV, wu_n (by omega), e, Int.add_zero], ?_, ⟨by omega, by omega⟩, by omega, by omega, by omega⟩
        unfold nxA
        rw [c3, c4]
        by_cases q3 : v 3 = 0
        · simp only [if_pos q3]; rw [if_neg (by omega)]
        · simp only [if_neg q3]; rw [if_neg (by omega)]
    obtain ⟨gx, g3, g5, g9, gn, gi, hlr⟩ := hx
    refine z_aload_n0 hZ dX5_setCaves_0 ?_
    refine z_gf_X5_ring hZ dX5_setCaves_1 fl_X5_21 (by assumption) (by assumption) ?_
    refine z_gf_X3_caves hZ dX5_setCaves_4 fl_X5_232 (by assumption) (by assumption) ?_
    refine z_istore_n2 hZ dX5_setCaves_7 (by decide) rfl ?_
    refine z_aload_n0 hZ dX5_setCaves_8 ?_
    refine z_gf_X5_accounts hZ dX5_setCaves_9 fl_X5_28 (by assumption) (by assumption) ?_
    refine z_dup hZ dX5_setCaves_12 rfl ?_
    refine z_gf_X0_lost hZ dX5_setCaves_13 fl_X5_194 (by assumption) (by assumption) ?_
    refine z_aload_n0 hZ dX5_setCaves_16 ?_
    refine z_gf_X5_ring hZ dX5_setCaves_17 fl_X5_21 (by assumption) (by assumption) ?_
    refine z_iload_n1 hZ dX5_setCaves_20 ?_
    refine z_cV hZ (As := [_]) rfl dX5_setCaves_21 ml_X5_235 wy_X3_changeTo (m_X3_changeTo l hj hL hR hz) (by assumption) (by assumption) rfl ⟨Nat.le_of_ble_eq_true rfl, Nat.le_of_ble_eq_true rfl⟩ ⟨Nat.le_of_ble_eq_true rfl, Nat.le_of_ble_eq_true rfl⟩ (Nat.le_of_ble_eq_true rfl) (fun _ _ _ h => h.elim) (fun v21 L21 G21 hp21 => ?_)
    obtain ⟨rfl, rfl, r21, f21⟩ := hp21
    rw [← hlo] at r21 ⊢
    rw [gn, ← g3] at r21
    have hA := (f4i hj f21 8 (by omega)).trans hA
    have hO := (f4i hj f21 0 (by omega)).trans hO
    refine z_iadd hZ dX5_setCaves_24 ?_
    refine z_pf_X0_lost hZ dX5_setCaves_25 fl_X5_194 (by assumption) (by assumption) (fun F25 hF25 hf25 => ?_)
    have hO := (f1 hj (by omega) hf25 (i := 0) (by omega) (by omega)).trans hO
    refine z_aload_n0 hZ dX5_setCaves_28 ?_
    refine z_iconst hZ dX5_setCaves_29 ?_
    refine z_pf_X5_kind hZ dX5_setCaves_30 fl_X5_32 (by assumption) (by assumption) (fun F30 hF30 hf30 => ?_)
    refine z_iload_n2 hZ dX5_setCaves_33 ?_
    exact z_iret hZ rfl (Nat.le_of_ble_eq_true rfl) (Nat.le_of_ble_eq_true rfl) dX5_setCaves_34 (by
            refine ⟨rfl, rfl, ?_, ((s4 f21).tr (s1 (by omega) hf25)).tr (s1 (by omega) hf30)⟩
            refine ⟨π, hl, hf, w, r, tt, ?_, (by rw [g5]; exact (r21.m1 hj (by omega) hf25).m1 hj (by omega) hf30), ?_, ?_, ?_, hF30, ⟨?_, gi.1, gi.2, by omega, by omega, by omega⟩⟩
            · rw [gx 0 (by omega) (by omega) (by omega) (by omega), gx 1 (by omega) (by omega) (by omega) (by omega), gx 2 (by omega) (by omega) (by omega) (by omega)]
              exact (((hS.m4 hj f21).m1 hj (by omega) (by omega) hf25).m1 hj (by omega) (by omega) hf30).cg (fun k k0 k1 => (gx (18 + k) (by omega) (by omega) (by omega) (by omega)).symm)
            · intro i i0 i1
              rw [gx _ (by omega) (by omega) (by omega) (by omega)]
              exact ⟨(hh i i0 (by omega)).1, fun k k0 k1 => by rw [gx _ (by omega) (by omega) (by omega) (by omega)]; exact (hh i i0 (by omega)).2 k k0 k1⟩
            · rw [gx 6 (by omega) (by omega) (by omega) (by omega), gx 7 (by omega) (by omega) (by omega) (by omega), g9]; exact (f1 hj (by omega) hf30 (by omega) (by omega)).trans hF25
            · rw [gx 8 (by omega) (by omega) (by omega) (by omega), gx 0 (by omega) (by omega) (by omega) (by omega), gx 7 (by omega) (by omega) (by omega) (by omega), gx 6 (by omega) (by omega) (by omega) (by omega)]; exact he
            · intro i i0 i1
              rw [gx _ (by omega) (by omega) (by omega) (by omega)]
              exact hi.1 i i0 (by omega))
  exact hgo
set_option maxRecDepth 100000 in
set_option maxHeartbeats 4000000 in
theorem m_X5_copyFrom (l : Launch) {L : List Nat} {F : Nat → PE} {sa sb : Nat → Nat} {v vb : Int → Int} {kd kb : Int} (hj : ij sa) (hL : inL L sa) (hLb : inL L sb) (ap : apt sa sb) (t : stP L F sa v kd) (tb : stP L F sb vb kb) : PM l yX5_copyFrom cX5_copyFrom 2 none (rm 4 0 0) L [.ref (sa 0), .ref (sb 0)] F (fun v9 L1 F1 => v9 = none ∧ L = L1 ∧ stP L F1 sa vb kb ∧ fS sa F F1) (fun _ _ _ => False) := by
  refine pm_of cd_X5_copyFrom (by decide +kernel) (Nat.le_of_ble_eq_true rfl) (fun ZZ hZ => ?_)
  have hgo : ZZ 0 0 0 [some (.ref (sa 0)), some (.ref (sb 0))] [] L F := by
    obtain ⟨π, hl, hf, w, r, tt, hS, hR, hh, hA, he, hO, hi⟩ := t
    obtain ⟨πb, hlb, hfb, wb, rb, tb, hSb, hRb, hhb, hAb, heb, hOb, hib⟩ := tb
    have l0 := hL 0 (by omega)
    have l1 := hL 1 (by omega)
    have l4 := hL 4 (by omega)
    have l8 := hL 8 (by omega)
    have k0 := hLb 0 (by omega)
    have k1 := hLb 1 (by omega)
    have k4 := hLb 4 (by omega)
    have k8 := hLb 8 (by omega)
    have hSc := hS.2.1
    have hSd := hSb.2.1
    have hR4 := hR.1
    have hR5 := hRb.1
    have hk := hib.2.2.2.1
    have A : ∀ i j, i < 25 → j < 25 → sb j ≠ sa i := fun i j a b => Ne.symm (ap i j a b)
    refine z_aload_n0 hZ dX5_copyFrom_0 ?_
    refine z_gf_X5_scroll hZ dX5_copyFrom_1 fl_X5_12 (by assumption) (by assumption) ?_
    refine z_aload_n1 hZ dX5_copyFrom_4 ?_
    refine z_gf_X5_scroll hZ dX5_copyFrom_5 fl_X5_12 (by assumption) (by assumption) ?_
    refine z_cV hZ (As := [_]) rfl dX5_copyFrom_8 ml_X5_36 wy_X4_copyFrom (m_X4_copyFrom l hS hSb ⟨ap _ _ (by omega) (by omega), ap _ _ (by omega) (by omega), ap _ _ (by omega) (by omega), ap _ _ (by omega) (by omega), ap _ _ (by omega) (by omega), ap _ _ (by omega) (by omega), ap _ _ (by omega) (by omega), ap _ _ (by omega) (by omega), ap _ _ (by omega) (by omega)⟩) (by assumption) (by assumption) rfl ⟨Nat.le_of_ble_eq_true rfl, Nat.le_of_ble_eq_true rfl⟩ ⟨Nat.le_of_ble_eq_true rfl, Nat.le_of_ble_eq_true rfl⟩ (Nat.le_of_ble_eq_true rfl) (fun _ _ _ h => h.elim) (fun v8 L8 G8 hp8 => ?_)
    obtain ⟨rfl, rfl, s8, f8⟩ := hp8
    have hO := (f3 hj f8 (i := 0) (by omega) (by omega)).trans hO
    have hA := (f3 hj f8 (i := 8) (by omega) (by omega)).trans hA
    have b8 : ∀ i, i < 25 → G8 (sb i) = F (sb i) := fun i hi => f8 _ (A _ _ (by omega) hi) (A _ _ (by omega) hi) (A _ _ (by omega) hi)
    have hOb := (b8 0 (by omega)).trans hOb
    have hAb := (b8 8 (by omega)).trans hAb
    have hRb := hRb.mv (F1 := G8) (fun i _ h _ => b8 i h)
    have hR := hR.m3 hj f8
    have hR4 := hR.1
    have hR5 := hRb.1
    refine z_aload_n0 hZ dX5_copyFrom_11 ?_
    refine z_gf_X5_ring hZ dX5_copyFrom_12 fl_X5_21 (by assumption) (by assumption) ?_
    refine z_aload_n1 hZ dX5_copyFrom_15 ?_
    refine z_gf_X5_ring hZ dX5_copyFrom_16 fl_X5_21 (by assumption) (by assumption) ?_
    refine z_cV hZ (As := [_]) rfl dX5_copyFrom_19 ml_X5_40 wy_X3_copyFrom (m_X3_copyFrom l hj hL hLb ap hR hRb) (by assumption) (by assumption) rfl ⟨Nat.le_of_ble_eq_true rfl, Nat.le_of_ble_eq_true rfl⟩ ⟨Nat.le_of_ble_eq_true rfl, Nat.le_of_ble_eq_true rfl⟩ (Nat.le_of_ble_eq_true rfl) (fun _ _ _ h => h.elim) (fun v19 L19 G19 hp19 => ?_)
    obtain ⟨rfl, rfl, r19, f19⟩ := hp19
    have b19 : ∀ i, i < 25 → G19 (sb i) = G8 (sb i) := fun i hi => f19 _ (fun j _ h _ => A _ _ h hi)
    have hO := (f4i hj f19 0 (by omega)).trans hO
    have hA := (f4i hj f19 8 (by omega)).trans hA
    have hOb := (b19 0 (by omega)).trans hOb
    have hAb := (b19 8 (by omega)).trans hAb
    refine z_aload_n0 hZ dX5_copyFrom_22 ?_
    refine z_gf_X5_accounts hZ dX5_copyFrom_23 fl_X5_28 (by assumption) (by assumption) ?_
    refine z_aload_n1 hZ dX5_copyFrom_26 ?_
    refine z_gf_X5_accounts hZ dX5_copyFrom_27 fl_X5_28 (by assumption) (by assumption) ?_
    refine z_cV hZ (As := [_]) rfl dX5_copyFrom_30 ml_X5_43 wy_X0_copyFrom (m_X0_copyFrom l l8 k8 (A _ _ (by omega) (by omega)) hA hAb) (by assumption) (by assumption) rfl ⟨Nat.le_of_ble_eq_true rfl, Nat.le_of_ble_eq_true rfl⟩ ⟨Nat.le_of_ble_eq_true rfl, Nat.le_of_ble_eq_true rfl⟩ (Nat.le_of_ble_eq_true rfl) (fun _ _ _ h => h.elim) (fun v30 L30 G30 hp30 => ?_)
    obtain ⟨rfl, rfl, hA30, f30⟩ := hp30
    have hO := (f1 hj (by omega) f30 (i := 0) (by omega) (by omega)).trans hO
    have hOb := (f30 _ (A 8 0 (by omega) (by omega))).trans hOb
    refine z_aload_n0 hZ dX5_copyFrom_33 ?_
    refine z_aload_n1 hZ dX5_copyFrom_34 ?_
    refine z_gf_X5_kind hZ dX5_copyFrom_35 fl_X5_32 (by assumption) (by assumption) ?_
    refine z_pf_X5_kind hZ dX5_copyFrom_38 fl_X5_32 (by assumption) (by assumption) (fun F38 hF38 hf38 => ?_)
    exact z_vret hZ rfl (Nat.le_of_ble_eq_true rfl) (Nat.le_of_ble_eq_true rfl) dX5_copyFrom_41 (by
            refine ⟨rfl, rfl, ⟨π, _, _, wb, rb, tb, ((s8.m4 hj f19).m1 hj (by omega) (by omega) f30).m1 hj (by omega) (by omega) hf38, (r19.m1 hj (by omega) f30).m1 hj (by omega) hf38, fun i i0 i1 => ?_, (f1 hj (by omega) hf38 (by omega) (by omega)).trans hA30, heb, hF38, hib⟩, (((s3 f8).tr (s4 f19)).tr (s1 (by omega) f30)).tr (s1 (by omega) hf38)⟩
            simp only [if_pos i1]
            exact hhb i i0 i1)
  exact hgo
set_option maxRecDepth 100000 in
set_option maxHeartbeats 4000000 in
theorem m_X5_comeBackTo (l : Launch) {L : List Nat} {F : Nat → PE} {sa sb : Nat → Nat} {v vb : Int → Int} {kd kb : Int} (hj : ij sa) (hL : inL L sa) (hLb : inL L sb) (ap : apt sa sb) (t : stP L F sa v kd) (tb : stP L F sb vb kb) : PM l yX5_comeBackTo cX5_comeBackTo 2 none (rm 5 0 0) L [.ref (sa 0), .ref (sb 0)] F (fun v9 L1 F1 => v9 = none ∧ L = L1 ∧ stP L F1 sa vb 0 ∧ fS sa F F1) (fun _ _ _ => False) := by
  refine pm_of cd_X5_comeBackTo (by decide +kernel) (Nat.le_of_ble_eq_true rfl) (fun ZZ hZ => ?_)
  have hgo : ZZ 0 0 0 [some (.ref (sa 0)), some (.ref (sb 0))] [] L F := by
    have hO := t.choose_spec
    obtain ⟨_, _, _, _, _, hO⟩ := hO
    have hO := hO.2.2.2.2.2.1
    have l0 := hL 0 (by omega)
    refine z_aload_n0 hZ dX5_comeBackTo_0 ?_
    refine z_aload_n1 hZ dX5_comeBackTo_1 ?_
    refine z_cV hZ (As := [_]) rfl dX5_comeBackTo_2 ml_X5_46 wy_X5_copyFrom (m_X5_copyFrom l hj hL hLb ap t tb) (by assumption) (by assumption) rfl ⟨Nat.le_of_ble_eq_true rfl, Nat.le_of_ble_eq_true rfl⟩ ⟨Nat.le_of_ble_eq_true rfl, Nat.le_of_ble_eq_true rfl⟩ (Nat.le_of_ble_eq_true rfl) (fun _ _ _ h => h.elim) (fun v2 L2 G2 hp2 => ?_)
    obtain ⟨rfl, rfl, t2, f2⟩ := hp2
    obtain ⟨π, hl, hf, w, r, tt, hS, hR, hh, hA, he, hO, hi⟩ := t2
    refine z_aload_n0 hZ dX5_comeBackTo_5 ?_
    refine z_iconst hZ dX5_comeBackTo_6 ?_
    refine z_pf_X5_kind hZ dX5_comeBackTo_7 fl_X5_32 (by assumption) (by assumption) (fun F7 hF7 hf7 => ?_)
    exact z_vret hZ rfl (Nat.le_of_ble_eq_true rfl) (Nat.le_of_ble_eq_true rfl) dX5_comeBackTo_10 (by exact ⟨rfl, rfl, ⟨π, hl, hf, w, r, tt, hS.m1 hj (by omega) (by omega) hf7, hR.m1 hj (by omega) hf7, hh, (f1 hj (by omega) hf7 (by omega) (by omega)).trans hA, he, hF7, hi.k0⟩, f2.tr (s1 (by omega) hf7)⟩)
  exact hgo

