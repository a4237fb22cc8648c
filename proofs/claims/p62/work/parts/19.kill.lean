/-! STATE: killing. -/
theorem f4i {sa : Nat → Nat} {F F1 : Nat → PE} (hj : ij sa) (h : fR sa F F1) (i : Nat) (hi : i < 4 ∨ i = 8) : F1 (sa i) = F (sa i) := f4 hj h hi
theorem vKl_cg {i j kd : Int} {v : Int → Int} {A B : Prop} [Decidable A] [Decidable B] (h : A ↔ B) : vKl i j A kd v = vKl i j B kd v := by
  have e : A = B := propext h
  subst e
  congr
theorem fuA_rg {v : Int → Int} (h : v 3 ≤ v 5) : 0 ≤ fuA v ∧ fuA v ≤ 1 ∧ (fuA v = 1 → v 3 = v 5) ∧ (fuA v = 0 → v 3 < v 5) := by unfold fuA; split <;> omega
theorem fuA_eq {v : Int → Int} (h : v 3 ≤ v 5) : (if v 5 ≤ v 3 then (1 : Int) else 0) = fuA v := by unfold fuA; by_cases q : v 3 = v 5 <;> simp [q] <;> omega
set_option maxHeartbeats 1000000 in
theorem vCol_r {v : Int → Int} {kd i j : Int} {hl : Int → Int} {hf : Int → Int → Int} (hi : iv v kd) (hm : 0 ≤ v 3 ∧ v 3 ≤ v 5 ∧ 1 ≤ v 5 ∧ v 5 ≤ 8) (hr : 0 ≤ i ∧ i < j ∧ j ≤ v 0 ∧ v 0 ≤ 200) (hh : ∀ i, 0 ≤ i → i < v 3 → hl i = v (10 + i) ∧ ∀ k, 0 ≤ k → k < hl i → hf i k = v (218 + 200 * i + k)) :
    vCol i j v 3 = v 3 + 1 - fuA v ∧ vCol i j v 4 = 0 ∧ vCol i j v 5 = v 5 ∧ vCol i j v 9 = v 9 + fuA v ∧ vCol i j v 10 = j - i ∧ (∀ x, (0 ≤ x ∧ x ≤ 2) ∨ (6 ≤ x ∧ x ≤ 8) ∨ (18 ≤ x ∧ x < 218) → vCol i j v x = v x) ∧ iv (vCol i j v) 0 ∧
    (∀ k, 0 ≤ k → k < vCol i j v 3 → adH hl (v 3 - fuA v) (j - i) k = vCol i j v (10 + k) ∧ ∀ y, 0 ≤ y → y < adH hl (v 3 - fuA v) (j - i) k → adH hf (v 3 - fuA v) (fun k => fT v (i + k)) k y = vCol i j v (218 + 200 * k + y)) := by
  have fo := fuA_rg hm.2.1
  have g3 : vCol i j v 3 = v 3 + (1 - fuA v) := (by unfold vCol vCol2 vCol1 wu; (try dsimp only); (repeat (first | rw [if_pos (by omega)] | rw [if_neg (by omega)])); (first | done | rfl | (congr 1; omega) | (split <;> omega)))
  have g4 : vCol i j v 4 = 0 := (by unfold vCol vCol2 vCol1 wu; (try dsimp only); (repeat (first | rw [if_pos (by omega)] | rw [if_neg (by omega)])); (first | done | rfl | (congr 1; omega) | (split <;> omega)))
  have g5 : vCol i j v 5 = v 5 := (by unfold vCol vCol2 vCol1 wu; (try dsimp only); (repeat (first | rw [if_pos (by omega)] | rw [if_neg (by omega)])); (first | done | rfl | (congr 1; omega) | (split <;> omega)))
  have g9 : vCol i j v 9 = v 9 + fuA v := (by unfold vCol vCol2 vCol1 wu; (try dsimp only); (repeat (first | rw [if_pos (by omega)] | rw [if_neg (by omega)])); (first | done | rfl | (congr 1; omega) | (split <;> omega)))
  have g10 : vCol i j v 10 = j - i := (by unfold vCol vCol2 vCol1 wu; (try dsimp only); (repeat (first | rw [if_pos (by omega)] | rw [if_neg (by omega)])); (first | done | rfl | (congr 1; omega) | (split <;> omega)))
  have gi : ∀ x, 11 ≤ x → x ≤ 10 + (v 3 - fuA v) → vCol i j v x = v (x - 1) := fun x _ _ => (by unfold vCol vCol2 vCol1 wu; (try dsimp only); (repeat (first | rw [if_pos (by omega)] | rw [if_neg (by omega)])); (first | done | rfl | (congr 1; omega) | (split <;> omega)))
  refine ⟨by omega, g4, g5, g9, g10, fun x hx => (by unfold vCol vCol2 vCol1 wu; (try dsimp only); (repeat (first | rw [if_pos (by omega)] | rw [if_neg (by omega)])); (first | done | rfl | (congr 1; omega) | (split <;> omega))), ⟨?_, by omega, by omega, by omega, by omega, by omega⟩, ?_⟩
  · intro k k0 k1
    rw [g3] at k1
    by_cases q : k = 0
    · subst q; rw [show (10 : Int) + 0 = 10 from rfl, g10]; omega
    · rw [gi _ (by omega) (by omega), show (10 : Int) + k - 1 = 10 + (k - 1) by omega]; exact hi.1 (k - 1) (by omega) (by omega)
  · intro k k0 k1
    rw [g3] at k1
    unfold adH
    by_cases q : k = 0
    · subst q
      simp only [if_pos]
      refine ⟨by rw [show (10 : Int) + 0 = 10 from rfl, g10], fun y y0 y1 => ?_⟩
      unfold fT
      exact (by unfold vCol vCol2 vCol1 wu; (try dsimp only); (repeat (first | rw [if_pos (by omega)] | rw [if_neg (by omega)])); (first | done | rfl | (congr 1; omega) | (split <;> omega)))
    · simp only [if_neg q, if_pos (show k ≤ v 3 - fuA v by omega)]
      have hq := hh (k - 1) (by omega) (by omega)
      have hq1 := hi.1 (k - 1) (by omega) (by omega)
      rw [show (10 : Int) + (k - 1) = 9 + k by omega] at hq hq1
      refine ⟨by rw [gi _ (by omega) (by omega), hq.1]; congr 1; omega, fun y y0 y1 => ?_⟩
      rw [hq.1] at y1
      rw [hq.2 y y0 (by omega)]
      unfold vCol
      rw [wu_n (by omega), if_neg (by omega), wu_n (by omega)]
      unfold vCol2
      have c : (218 + 200 * k + y - 218) % 200 < vCol1 v (9 + (218 + 200 * k + y - 218) / 200) := by
        rw [show (218 + 200 * k + y - 218) % 200 = y by omega, show (218 + 200 * k + y - 218) / 200 = k by omega]
        unfold vCol1; rw [wu_n (by omega), wu_n (by omega)]; exact y1
      rw [if_neg (by omega), if_pos ⟨by omega, by omega, c⟩]
      unfold vCol1
      rw [wu_n (by omega), wu_n (by omega)]
      congr 1
      omega
set_option maxRecDepth 100000 in
set_option maxHeartbeats 4000000 in
theorem m_X5_kill (l : Launch) {L : List Nat} {F : Nat → PE} {sa : Nat → Nat} {v : Int → Int} {kd i j z : Int} {B : Prop} [Decidable B] (hj : ij sa) (hL : inL L sa) (t : stP L F sa v kd) (hr : 0 ≤ i ∧ i ≤ j ∧ j ≤ v 0) (hz : z = b2 B) : PM l yX5_kill cX5_kill 4 (some .int) (rm 5 0 0) L [.ref (sa 0), .int (iI i), .int (iI j), .int (iI z)] F (fun v9 L1 F1 => v9 = some (.int (iI (if i < j then j - i else -1))) ∧ L = L1 ∧ (if i < j then stP L F1 sa (vKl i j B kd v) 1 else F1 = F) ∧ fS sa F F1) (fun _ _ _ => False) := by
  refine pm_of cd_X5_kill (by decide +kernel) (Nat.le_of_ble_eq_true rfl) (fun ZZ hZ => ?_)
  have hgo : ZZ 0 0 0 [some (.ref (sa 0)), some (.int (iI i)), some (.int (iI j)), some (.int (iI z))] [] L F := by
    obtain ⟨π, hl, hf, w, r, tt, hS, hR, hh, hA, he, hO, hi⟩ := t
    subst hz
    have l0 := hL 0 (by omega)
    have l1 := hL 1 (by omega)
    have l2 := hL 2 (by omega)
    have l8 := hL 8 (by omega)
    have l4 := hL 4 (by omega)
    have hSc := hS.2.1
    have hT := hS.2.2.1.2.1
    have hn := hS.2.2.1.2.2.2.1
    have hp := hS.2.2.2
    have hm := hR.2.2.2.2.2.1
    have hk := hi.2.2.2.1
    have hR4 := hR.1
    have hd : ∀ i, 4 ≤ i → i < 25 → i ≠ 8 → sa i ≠ sa 2 ∧ sa i ≠ sa 3 := fun i h1 h2 _ => ⟨hj.ne h2 (by omega) (by omega), hj.ne h2 (by omega) (by omega)⟩
    have k63 : ∀ (G : Nat → PE) (v2 : Int → Int) (π1 : Int → Nat) (hl1 : Int → Int) (hf1 : Int → Int → Int), i < j → sc L G (sa 1) (sa 2) (sa 3) (v 0) (v 1) (v 2) (fT v) → rgQ L G sa π1 (v2 3) (v2 5) (nxA v2) hl1 hf1 → (∀ i, 0 ≤ i → i < v2 3 → hl1 i = v2 (10 + i) ∧ ∀ k, 0 ≤ k → k < hl1 i → hf1 i k = v2 (218 + 200 * i + k)) → G (sa 8) = eO 0 [.int (iI w), .int (iI r), .int (iI (v 6)), .int (iI (v 7)), .int (iI tt), .int (iI (v2 9))] → G (sa 0) = eO 5 [.ref (sa 1), .ref (sa 4), .ref (sa 8), .int (iI kd)] → (∀ x, (0 ≤ x ∧ x ≤ 2) ∨ (6 ≤ x ∧ x ≤ 8) ∨ (18 ≤ x ∧ x < 218) → v2 x = v x) → iv v2 0 → 1 ≤ v2 3 → v2 10 + (v 0 - (j - i)) ≤ 200 → fS sa F G → vKl i j B kd v = wu (vTk i j v2) 6 (v2 6 + (j - i)) → ZZ 0 0 63 [some (.ref (sa 0)), some (.int (iI i)), some (.int (iI j)), some (.int (iI (b2 B)))] [] L G := by
      intro G v2 π1 hl1 hf1 hij hS hR hh hA hO hv hi h3 h10 hfs hK
      have hSc := hS.2.1
      have v20 := hv 0 (by omega)
      have v21 := hv 1 (by omega)
      have v22 := hv 2 (by omega)
      have v26 := hv 6 (by omega)
      have v27 := hv 7 (by omega)
      have v28 := hv 8 (by omega)
      have h38 := hR.2.2.2.2.2.1
      refine z_aload_n0 hZ dX5_kill_63 ?_
      refine z_gf_X5_scroll hZ dX5_kill_64 fl_X5_12 (by assumption) (by assumption) ?_
      refine z_iload_n1 hZ dX5_kill_67 ?_
      refine z_iload_n2 hZ dX5_kill_68 ?_
      refine z_cV hZ (As := [_, _]) rfl dX5_kill_69 ml_X5_132 wy_X4_takeOut (m_X4_takeOut l hS hr) (by assumption) (by assumption) rfl ⟨Nat.le_of_ble_eq_true rfl, Nat.le_of_ble_eq_true rfl⟩ ⟨Nat.le_of_ble_eq_true rfl, Nat.le_of_ble_eq_true rfl⟩ (Nat.le_of_ble_eq_true rfl) (fun _ _ _ h => h.elim) (fun v69 L69 G69 hp69 => ?_)
      obtain ⟨rfl, rfl, s69, f69⟩ := hp69
      have hO := (f3 hj f69 (i := 0) (by omega) (by omega)).trans hO
      have hA := (f3 hj f69 (i := 8) (by omega) (by omega)).trans hA
      refine z_aload_n0 hZ dX5_kill_72 ?_
      refine z_gf_X5_accounts hZ dX5_kill_73 fl_X5_28 (by assumption) (by assumption) ?_
      refine z_dup hZ dX5_kill_76 rfl ?_
      refine z_gf_X0_killed hZ dX5_kill_77 fl_X5_201 (by assumption) (by assumption) ?_
      refine z_iload_n2 hZ dX5_kill_80 ?_
      refine z_iload_n1 hZ dX5_kill_81 ?_
      refine z_isub hZ dX5_kill_82 ?_
      refine z_iadd hZ dX5_kill_83 ?_
      refine z_pf_X0_killed hZ dX5_kill_84 fl_X5_201 (by assumption) (by assumption) (fun F84 hF84 hf84 => ?_)
      have hO := (f1 hj (by omega) hf84 (i := 0) (by omega) (by omega)).trans hO
      refine z_aload_n0 hZ dX5_kill_87 ?_
      refine z_iconst hZ dX5_kill_88 ?_
      refine z_pf_X5_kind hZ dX5_kill_89 fl_X5_32 (by assumption) (by assumption) (fun F89 hF89 hf89 => ?_)
      refine z_iload_n2 hZ dX5_kill_92 ?_
      refine z_iload_n1 hZ dX5_kill_93 ?_
      refine z_isub hZ dX5_kill_94 ?_
      exact z_iret hZ rfl (Nat.le_of_ble_eq_true rfl) (Nat.le_of_ble_eq_true rfl) dX5_kill_95 (by
            have e8 : vKl i j B kd v 8 = v 8 := by rw [hK]; exact Eq.trans (by unfold vTk shL wu; (try dsimp only); (repeat (first | rw [if_pos (by omega)] | rw [if_neg (by omega)])); (first | done | rfl | (congr 1; omega) | (split <;> omega))) v28
            have ru : RU v2 (vKl i j B kd v) := fun y hy => by rw [hK]; exact (by unfold vTk shL wu; (try dsimp only); (repeat (first | rw [if_pos (by omega)] | rw [if_neg (by omega)])); (first | done | rfl | (congr 1; omega) | (split <;> omega)))
            refine ⟨pv (if_pos hij).symm, rfl, ?_, ((hfs.tr (s3 f69)).tr (s1 (by omega) hf84)).tr (s1 (by omega) hf89)⟩
            rw [if_pos hij]
            refine stP.sw (k6 := v 6 + (j - i)) ((s69.m1 hj (by omega) (by omega) hf84).m1 hj (by omega) (by omega) hf89) (((hR.m3 hj f69).m1 hj (by omega) hf84).m1 hj (by omega) hf89) hh ((f1 hj (by omega) hf89 (by omega) (by omega)).trans hF84) hF89 ru ?_ ?_ ?_ (fun k h0 h1 => ?_) ?_ ?_ ?_ ⟨by omega, by omega⟩ ?_
            · rw [hK, ← v20]; exact (by unfold vTk shL wu; (try dsimp only); (repeat (first | rw [if_pos (by omega)] | rw [if_neg (by omega)])); (first | done | rfl | (congr 1; omega) | (split <;> omega)))
            · rw [hK, ← v21]; exact (by unfold vTk shL wu; (try dsimp only); (repeat (first | rw [if_pos (by omega)] | rw [if_neg (by omega)])); (first | done | rfl | (congr 1; omega) | (split <;> omega)))
            · rw [hK, ← v22]; exact (by unfold vTk shL wu; (try dsimp only); (repeat (first | rw [if_pos (by omega)] | rw [if_neg (by omega)])); (first | done | rfl | (congr 1; omega) | (split <;> omega)))
            · rw [hK]
              unfold delA fT
              by_cases q1 : k < i
              · rw [if_pos q1, ← hv (18 + k) (by omega)]; exact (by unfold vTk shL wu; (try dsimp only); (repeat (first | rw [if_pos (by omega)] | rw [if_neg (by omega)])); (first | done | rfl | (congr 1; omega) | (split <;> omega)))
              · rw [if_neg q1, ← hv (18 + (k + (j - i))) (by omega)]; exact (by unfold vTk shL wu; (try dsimp only); (repeat (first | rw [if_pos (by omega)] | rw [if_neg (by omega)])); (first | done | rfl | (congr 1; omega) | (split <;> omega)))
            · rw [hK, ← v26]; exact (by unfold vTk shL wu; (try dsimp only); (repeat (first | rw [if_pos (by omega)] | rw [if_neg (by omega)])); (first | done | rfl | (congr 1; omega) | (split <;> omega)))
            · rw [hK, ← v27]; exact (by unfold vTk shL wu; (try dsimp only); (repeat (first | rw [if_pos (by omega)] | rw [if_neg (by omega)])); (first | done | rfl | (congr 1; omega) | (split <;> omega)))
            · rw [hK]; exact (by unfold vTk shL wu; (try dsimp only); (repeat (first | rw [if_pos (by omega)] | rw [if_neg (by omega)])); (first | done | rfl | (congr 1; omega) | (split <;> omega)))
            · have z := hi.ru ru (by omega)
              have r10 := ru 10 (by omega)
              have r3 := ru 3 (by omega)
              have r0 : vKl i j B kd v 0 = v2 0 - (j - i) := by rw [hK]; exact (by unfold vTk shL wu; (try dsimp only); (repeat (first | rw [if_pos (by omega)] | rw [if_neg (by omega)])); (first | done | rfl | (congr 1; omega) | (split <;> omega)))
              exact ⟨z.1, z.2.1, z.2.2.1, by omega, fun _ => by omega, fun q => by omega⟩)
    refine z_iload_n1 hZ dX5_kill_0 ?_
    refine z_iload_n2 hZ dX5_kill_1 ?_
    refine z_icmp_lt hZ (tgt := 7) dX5_kill_2 rfl (by omega) (fun hc2 => ?_) (fun hc2 => ?_)
    · refine z_aload_n0 hZ dX5_kill_7 ?_
      refine z_gf_X5_kind hZ dX5_kill_8 fl_X5_32 (by assumption) (by assumption) ?_
      refine z_iconst hZ dX5_kill_11 ?_
      refine z_icmp_ne hZ (tgt := 35) dX5_kill_12 rfl (by omega) (fun hc12 => ?_) (fun hc12 => ?_)
      · refine z_aload_n0 hZ dX5_kill_35 ?_
        refine z_gf_X5_accounts hZ dX5_kill_36 fl_X5_28 (by assumption) (by assumption) ?_
        refine z_dup hZ dX5_kill_39 rfl ?_
        refine z_gf_X0_lost hZ dX5_kill_40 fl_X5_194 (by assumption) (by assumption) ?_
        refine z_aload_n0 hZ dX5_kill_43 ?_
        refine z_gf_X5_ring hZ dX5_kill_44 fl_X5_21 (by assumption) (by assumption) ?_
        refine z_aload_n0 hZ dX5_kill_47 ?_
        refine z_gf_X5_scroll hZ dX5_kill_48 fl_X5_12 (by assumption) (by assumption) ?_
        refine z_gf_X4_text hZ dX5_kill_51 fl_X5_111 (by assumption) (by assumption) ?_
        refine z_iload_n1 hZ dX5_kill_54 ?_
        refine z_iload_n2 hZ dX5_kill_55 ?_
        refine z_cV hZ (As := [_, _, _]) rfl dX5_kill_56 ml_X5_197 wy_X3_add (m_X3_add l hj hL hR hS.2.2.1 hd (by omega)) (by assumption) (by assumption) rfl ⟨Nat.le_of_ble_eq_true rfl, Nat.le_of_ble_eq_true rfl⟩ ⟨Nat.le_of_ble_eq_true rfl, Nat.le_of_ble_eq_true rfl⟩ (Nat.le_of_ble_eq_true rfl) (fun _ _ _ h => h.elim) (fun v56 L56 G56 hp56 => ?_)
        obtain ⟨rfl, rfl, ⟨π1, r56⟩, f56⟩ := hp56
        rw [fuA_eq (by omega)] at r56 ⊢
        have hA := (f4i hj f56 8 (by omega)).trans hA
        have hO := (f4i hj f56 0 (by omega)).trans hO
        refine z_iadd hZ dX5_kill_59 ?_
        refine z_pf_X0_lost hZ dX5_kill_60 fl_X5_194 (by assumption) (by assumption) (fun F60 hF60 hf60 => ?_)
        obtain ⟨g3, g4, g5, g9, g10, gx, gi, gh⟩ := vCol_r (i := i) (j := j) hi hm (by omega) hh
        have fo := fuA_rg hm.2.1
        have hO := (f1 hj (by omega) hf60 (i := 0) (by omega) (by omega)).trans hO
        exact k63 _ (vCol i j v) π1 _ _ (by omega) ((hS.m4 hj f56).m1 hj (by omega) (by omega) hf60) (by rw [g5]; unfold nxA; rw [g4, if_neg (by omega), g3]; exact r56.m1 hj (by omega) hf60) gh (by rw [g9]; exact hF60) hO gx gi (by omega) (by omega) ((s4 f56).tr (s1 (by omega) hf60)) (by unfold vKl; rw [if_neg hc12]; congr 1 <;> rw [gx 6 (by omega)])
        skip
      · refine z_aload_n0 hZ dX5_kill_15 ?_
        refine z_gf_X5_ring hZ dX5_kill_16 fl_X5_21 (by assumption) (by assumption) ?_
        refine z_aload_n0 hZ dX5_kill_19 ?_
        refine z_gf_X5_scroll hZ dX5_kill_20 fl_X5_12 (by assumption) (by assumption) ?_
        refine z_gf_X4_text hZ dX5_kill_23 fl_X5_111 (by assumption) (by assumption) ?_
        refine z_iload_n1 hZ dX5_kill_26 ?_
        refine z_iload_n2 hZ dX5_kill_27 ?_
        refine z_iload_n3 hZ dX5_kill_28 ?_
        refine z_cV hZ (As := [_, _, _, _]) rfl dX5_kill_29 ml_X5_190 wy_X3_grow (m_X3_grow l hj hL hR hS.2.2.1 hd (by have z := hi.2.2.2.2.1 hc12; have z1 := (hh 0 (by omega) (by omega)).1; have z2 : v (10 + 0) = v 10 := rfl; omega)) (by assumption) (by assumption) rfl ⟨Nat.le_of_ble_eq_true rfl, Nat.le_of_ble_eq_true rfl⟩ ⟨Nat.le_of_ble_eq_true rfl, Nat.le_of_ble_eq_true rfl⟩ (Nat.le_of_ble_eq_true rfl) (fun _ _ _ h => h.elim) (fun v29 L29 G29 hp29 => ?_)
        obtain ⟨rfl, rfl, r29, f29⟩ := hp29
        have z := hi.2.2.2.2.1 hc12
        have z1 := (hh 0 (by omega) (by omega)).1
        have z1b := hi.1 0 (by omega) (by omega)
        have z2 : v (10 + 0) = v 10 := rfl
        rw [z2] at z1 z1b
        have g3 : vGrw i j B v 3 = v 3 := (by unfold vGrw wu; (try dsimp only); (repeat (first | rw [if_pos (by omega)] | rw [if_neg (by omega)])); (first | done | rfl | (congr 1; omega) | (split <;> omega)))
        have g4 : vGrw i j B v 4 = 0 := (by unfold vGrw wu; (try dsimp only); (repeat (first | rw [if_pos (by omega)] | rw [if_neg (by omega)])); (first | done | rfl | (congr 1; omega) | (split <;> omega)))
        have g5 : vGrw i j B v 5 = v 5 := (by unfold vGrw wu; (try dsimp only); (repeat (first | rw [if_pos (by omega)] | rw [if_neg (by omega)])); (first | done | rfl | (congr 1; omega) | (split <;> omega)))
        have g9 : vGrw i j B v 9 = v 9 := (by unfold vGrw wu; (try dsimp only); (repeat (first | rw [if_pos (by omega)] | rw [if_neg (by omega)])); (first | done | rfl | (congr 1; omega) | (split <;> omega)))
        have g10 : vGrw i j B v 10 = v 10 + (j - i) := (by unfold vGrw wu; (try dsimp only); (repeat (first | rw [if_pos (by omega)] | rw [if_neg (by omega)])); (first | done | rfl | (congr 1; omega) | (split <;> omega)))
        have gi : ∀ x, 11 ≤ x → x < 18 → vGrw i j B v x = v x := fun x _ _ => by unfold vGrw wu; dsimp only; rw [if_neg (by omega), if_neg (by omega), if_neg (by split <;> omega), if_neg (by omega)]
        refine z_goto hZ (tgt := 63) dX5_kill_32 rfl ?_
        refine k63 _ (vGrw i j B v) π _ _ (by omega) (hS.m4 hj f29) (by rw [g3, g5]; unfold nxA; rw [g3, g4, if_neg (by omega)]; exact r29) ?_ ((f4i hj f29 8 (by omega)).trans (by rw [g9]; exact hA)) ((f4i hj f29 0 (by omega)).trans hO) (fun x hx => ?_) ⟨?_, by omega, by omega, by omega, by omega, by omega⟩ (by omega) (by omega) (s4 f29) (by unfold vKl; rw [if_pos hc12]; congr 1; exact congrArg (· + (j - i)) (Eq.symm (by unfold vGrw wu; (try dsimp only); (repeat (first | rw [if_pos (by omega)] | rw [if_neg (by omega)])); (first | done | rfl | (congr 1; omega) | (split <;> omega)))))
        · intro k k0 k1
          rw [g3] at k1
          by_cases q : k = 0
          · subst q
            refine ⟨?_, fun y y0 y1 => ?_⟩
            · rw [wu_s, show (10 : Int) + 0 = 10 from rfl, g10, z1]
            · rw [wu_s] at y1 ⊢
              rw [z1] at y1 ⊢
              have hq := (hh 0 (by omega) (by omega)).2
              rw [z1] at hq
              unfold vGrw insA fT
              rw [wu_n (by omega), wu_n (by omega)]
              by_cases b : B
              · simp only [if_pos b]
                rw [if_neg (by omega)]
                by_cases q1 : y < 0 + (j - i)
                · rw [if_pos q1, if_pos (by omega)]; congr 1; omega
                · rw [if_neg q1, if_neg (by omega), if_pos ⟨b, by omega, by omega⟩, hq _ (by omega) (by omega)]; congr 1; omega
              · simp only [if_neg b]
                by_cases q0 : y < v 10
                · rw [if_pos q0, if_neg (by omega), if_neg (fun c => b c.1), hq _ (by omega) (by omega)]
                · rw [if_neg q0, if_pos (by omega), if_pos (by omega)]; congr 1; omega
          · have hq := hh k k0 k1
            have hq1 := hi.1 k k0 k1
            refine ⟨by rw [wu_n q, gi _ (by omega) (by omega)]; exact hq.1, fun y y0 y1 => ?_⟩
            rw [wu_n q] at y1 ⊢
            rw [hq.2 y y0 y1]
            unfold vGrw wu
            dsimp only
            rw [if_neg (by omega), if_neg (by omega), if_neg (by split <;> omega), if_neg (by omega)]
        · unfold vGrw wu
          dsimp only
          rw [if_neg (by omega), if_neg (by omega), if_neg (by split <;> omega), if_neg (by omega)]
        · intro k k0 k1
          rw [g3] at k1
          by_cases q : k = 0
          · subst q; rw [show (10 : Int) + 0 = 10 from rfl, g10]; omega
          · rw [gi _ (by omega) (by omega)]; exact hi.1 k k0 k1
        skip
    · refine z_iconst hZ dX5_kill_5 ?_
      exact z_iret hZ rfl (Nat.le_of_ble_eq_true rfl) (Nat.le_of_ble_eq_true rfl) dX5_kill_6 (by exact ⟨pv (if_neg (by omega)).symm, rfl, by rw [if_neg (by omega)], fS.rf⟩)
  exact hgo
set_option maxRecDepth 100000 in
set_option maxHeartbeats 4000000 in
theorem m_X5_killWordOn (l : Launch) {L : List Nat} {F : Nat → PE} {sa : Nat → Nat} {v : Int → Int} {kd : Int} (hj : ij sa) (hL : inL L sa) (t : stP L F sa v kd) : PM l yX5_killWordOn cX5_killWordOn 1 (some .int) (rm 6 0 0) L [.ref (sa 0)] F (fun v9 L1 F1 => v9 = some (.int (iI (if v 1 < wS (v 0) (fT v) (v 1) then wS (v 0) (fT v) (v 1) - v 1 else -1))) ∧ L = L1 ∧ (if v 1 < wS (v 0) (fT v) (v 1) then stP L F1 sa (vKl (v 1) (wS (v 0) (fT v) (v 1)) False kd v) 1 else F1 = F) ∧ fS sa F F1) (fun _ _ _ => False) := by
  refine pm_of cd_X5_killWordOn (by decide +kernel) (Nat.le_of_ble_eq_true rfl) (fun ZZ hZ => ?_)
  have hgo : ZZ 0 0 0 [some (.ref (sa 0))] [] L F := by
    have t' := t
    obtain ⟨π, hl, hf, w, r, tt, hS, hR, hh, hA, he, hO, hi⟩ := t
    have l0 := hL 0 (by omega)
    have l1 := hL 1 (by omega)
    have hSc := hS.2.1
    have hp := hS.2.2.2.1
    have hg := wS_rg (n := v 0) (f := fT v) (p := v 1) (by omega)
    refine z_aload_n0 hZ dX5_killWordOn_0 ?_
    refine z_aload_n0 hZ dX5_killWordOn_1 ?_
    refine z_gf_X5_scroll hZ dX5_killWordOn_2 fl_X5_12 (by assumption) (by assumption) ?_
    refine z_gf_X4_point hZ dX5_killWordOn_5 fl_X5_49 (by assumption) (by assumption) ?_
    refine z_aload_n0 hZ dX5_killWordOn_8 ?_
    refine z_gf_X5_scroll hZ dX5_killWordOn_9 fl_X5_12 (by assumption) (by assumption) ?_
    refine z_aload_n0 hZ dX5_killWordOn_12 ?_
    refine z_gf_X5_scroll hZ dX5_killWordOn_13 fl_X5_12 (by assumption) (by assumption) ?_
    refine z_gf_X4_point hZ dX5_killWordOn_16 fl_X5_49 (by assumption) (by assumption) ?_
    refine z_cV hZ (As := [_]) rfl dX5_killWordOn_19 ml_X5_142 wy_X4_wordStop (m_X4_wordStop l hS (by omega)) (by assumption) (by assumption) rfl ⟨Nat.le_of_ble_eq_true rfl, Nat.le_of_ble_eq_true rfl⟩ ⟨Nat.le_of_ble_eq_true rfl, Nat.le_of_ble_eq_true rfl⟩ (Nat.le_of_ble_eq_true rfl) (fun _ _ _ h => h.elim) (fun v19 L19 G19 hp19 => ?_)
    obtain ⟨rfl, rfl, rfl⟩ := hp19
    refine z_iconst hZ dX5_killWordOn_22 ?_
    refine z_cV hZ (As := [_, _, _]) rfl dX5_killWordOn_23 ml_X5_180 wy_X5_kill (m_X5_kill l (B := False) hj hL t' (by omega) rfl) (by assumption) (by assumption) rfl ⟨Nat.le_of_ble_eq_true rfl, Nat.le_of_ble_eq_true rfl⟩ ⟨Nat.le_of_ble_eq_true rfl, Nat.le_of_ble_eq_true rfl⟩ (Nat.le_of_ble_eq_true rfl) (fun _ _ _ h => h.elim) (fun v23 L23 G23 hp23 => ?_)
    obtain ⟨rfl, rfl, t23, f23⟩ := hp23
    exact z_iret hZ rfl (Nat.le_of_ble_eq_true rfl) (Nat.le_of_ble_eq_true rfl) dX5_killWordOn_26 (by exact ⟨rfl, rfl, t23, f23⟩)
  exact hgo
set_option maxRecDepth 100000 in
set_option maxHeartbeats 4000000 in
theorem m_X5_killWordBack (l : Launch) {L : List Nat} {F : Nat → PE} {sa : Nat → Nat} {v : Int → Int} {kd : Int} (hj : ij sa) (hL : inL L sa) (t : stP L F sa v kd) : PM l yX5_killWordBack cX5_killWordBack 1 (some .int) (rm 6 0 0) L [.ref (sa 0)] F (fun v9 L1 F1 => v9 = some (.int (iI (if wB (v 0) (fT v) (v 1) < v 1 then v 1 - wB (v 0) (fT v) (v 1) else -1))) ∧ L = L1 ∧ (if wB (v 0) (fT v) (v 1) < v 1 then stP L F1 sa (vKl (wB (v 0) (fT v) (v 1)) (v 1) True kd v) 1 else F1 = F) ∧ fS sa F F1) (fun _ _ _ => False) := by
  refine pm_of cd_X5_killWordBack (by decide +kernel) (Nat.le_of_ble_eq_true rfl) (fun ZZ hZ => ?_)
  have hgo : ZZ 0 0 0 [some (.ref (sa 0))] [] L F := by
    have t' := t
    obtain ⟨π, hl, hf, w, r, tt, hS, hR, hh, hA, he, hO, hi⟩ := t
    have l0 := hL 0 (by omega)
    have l1 := hL 1 (by omega)
    have hSc := hS.2.1
    have hp := hS.2.2.2.1
    have hg := wB_rg (n := v 0) (f := fT v) (p := v 1) (by omega)
    refine z_aload_n0 hZ dX5_killWordBack_0 ?_
    refine z_aload_n0 hZ dX5_killWordBack_1 ?_
    refine z_gf_X5_scroll hZ dX5_killWordBack_2 fl_X5_12 (by assumption) (by assumption) ?_
    refine z_aload_n0 hZ dX5_killWordBack_5 ?_
    refine z_gf_X5_scroll hZ dX5_killWordBack_6 fl_X5_12 (by assumption) (by assumption) ?_
    refine z_gf_X4_point hZ dX5_killWordBack_9 fl_X5_49 (by assumption) (by assumption) ?_
    refine z_cV hZ (As := [_]) rfl dX5_killWordBack_12 ml_X5_157 wy_X4_wordStart (m_X4_wordStart l hS (by omega)) (by assumption) (by assumption) rfl ⟨Nat.le_of_ble_eq_true rfl, Nat.le_of_ble_eq_true rfl⟩ ⟨Nat.le_of_ble_eq_true rfl, Nat.le_of_ble_eq_true rfl⟩ (Nat.le_of_ble_eq_true rfl) (fun _ _ _ h => h.elim) (fun v12 L12 G12 hp12 => ?_)
    obtain ⟨rfl, rfl, rfl⟩ := hp12
    refine z_aload_n0 hZ dX5_killWordBack_15 ?_
    refine z_gf_X5_scroll hZ dX5_killWordBack_16 fl_X5_12 (by assumption) (by assumption) ?_
    refine z_gf_X4_point hZ dX5_killWordBack_19 fl_X5_49 (by assumption) (by assumption) ?_
    refine z_iconst hZ dX5_killWordBack_22 ?_
    refine z_cV hZ (As := [_, _, _]) rfl dX5_killWordBack_23 ml_X5_180 wy_X5_kill (m_X5_kill l (B := True) hj hL t' (by omega) rfl) (by assumption) (by assumption) rfl ⟨Nat.le_of_ble_eq_true rfl, Nat.le_of_ble_eq_true rfl⟩ ⟨Nat.le_of_ble_eq_true rfl, Nat.le_of_ble_eq_true rfl⟩ (Nat.le_of_ble_eq_true rfl) (fun _ _ _ h => h.elim) (fun v23 L23 G23 hp23 => ?_)
    obtain ⟨rfl, rfl, t23, f23⟩ := hp23
    exact z_iret hZ rfl (Nat.le_of_ble_eq_true rfl) (Nat.le_of_ble_eq_true rfl) dX5_killWordBack_26 (by exact ⟨rfl, rfl, t23, f23⟩)
  exact hgo
set_option maxRecDepth 100000 in
set_option maxHeartbeats 4000000 in
theorem m_X5_killLineOn (l : Launch) {L : List Nat} {F : Nat → PE} {sa : Nat → Nat} {v : Int → Int} {kd : Int} (hj : ij sa) (hL : inL L sa) (t : stP L F sa v kd) : PM l yX5_killLineOn cX5_killLineOn 3 (some .int) (rm 6 0 0) L [.ref (sa 0)] F (fun v9 L1 F1 => v9 = some (.int (iI (if v 1 < kLj v then kLj v - v 1 else -1))) ∧ L = L1 ∧ (if v 1 < kLj v then stP L F1 sa (vKl (v 1) (kLj v) False kd v) 1 else F1 = F) ∧ fS sa F F1) (fun _ _ _ => False) := by
  refine pm_of cd_X5_killLineOn (by decide +kernel) (Nat.le_of_ble_eq_true rfl) (fun ZZ hZ => ?_)
  have hgo : ZZ 0 0 0 [some (.ref (sa 0)), none, none] [] L F := by
    have t' := t
    obtain ⟨π, hl, hf, w, r, tt, hS, hR, hh, hA, he, hO, hi⟩ := t
    have l0 := hL 0 (by omega)
    have l1 := hL 1 (by omega)
    have hSc := hS.2.1
    have hn := hS.2.2.1.2.2.2.1
    have hp := hS.2.2.2.1
    have hg := lE_rg (n := v 0) (f := fT v) (p := v 1) (by omega)
    have hE : isE (v 0) (fT v) (lE (v 0) (fT v) (v 1)) = true → lE (v 0) (fT v) (v 1) < v 0 := fun q => by
      have := isE_iff.mp q
      by_cases z : lE (v 0) (fT v) (v 1) < v 0
      · exact z
      · rw [cdA_out (by omega)] at this; omega
    have kr : kLj v ≤ v 0 ∧ v 1 ≤ kLj v := by
      by_cases q : lE (v 0) (fT v) (v 1) = v 1 ∧ isE (v 0) (fT v) (v 1) = true
      · rw [show kLj v = v 1 + 1 from if_pos q]
        have := hE (by rw [q.1]; exact q.2)
        omega
      · rw [show kLj v = lE (v 0) (fT v) (v 1) from if_neg q]
        omega
    have k63 : ∀ (z q : Int), z = kLj v → ZZ 0 0 63 [some (.ref (sa 0)), some (.int (iI (lE (v 0) (fT v) (v 1)))), some (.int (iI q))] [.int (iI 0), .int (iI z), .int (iI (v 1)), .ref (sa 0)] L F := by
      intro z q hz
      subst hz
      refine z_cV hZ (As := [_, _, _]) rfl dX5_killLineOn_63 ml_X5_180 wy_X5_kill (m_X5_kill l (B := False) hj hL t' (by omega) rfl) (by assumption) (by assumption) rfl ⟨Nat.le_of_ble_eq_true rfl, Nat.le_of_ble_eq_true rfl⟩ ⟨Nat.le_of_ble_eq_true rfl, Nat.le_of_ble_eq_true rfl⟩ (Nat.le_of_ble_eq_true rfl) (fun _ _ _ h => h.elim) (fun v63 L63 G63 hp63 => ?_)
      obtain ⟨rfl, rfl, t63, f63⟩ := hp63
      exact z_iret hZ rfl (Nat.le_of_ble_eq_true rfl) (Nat.le_of_ble_eq_true rfl) dX5_killLineOn_66 (by exact ⟨rfl, rfl, t63, f63⟩)
    refine z_aload_n0 hZ dX5_killLineOn_0 ?_
    refine z_gf_X5_scroll hZ dX5_killLineOn_1 fl_X5_12 (by assumption) (by assumption) ?_
    refine z_aload_n0 hZ dX5_killLineOn_4 ?_
    refine z_gf_X5_scroll hZ dX5_killLineOn_5 fl_X5_12 (by assumption) (by assumption) ?_
    refine z_gf_X4_point hZ dX5_killLineOn_8 fl_X5_49 (by assumption) (by assumption) ?_
    refine z_cV hZ (As := [_]) rfl dX5_killLineOn_11 ml_X5_163 wy_X4_lineStop (m_X4_lineStop l hS (by omega)) (by assumption) (by assumption) rfl ⟨Nat.le_of_ble_eq_true rfl, Nat.le_of_ble_eq_true rfl⟩ ⟨Nat.le_of_ble_eq_true rfl, Nat.le_of_ble_eq_true rfl⟩ (Nat.le_of_ble_eq_true rfl) (fun _ _ _ h => h.elim) (fun v11 L11 G11 hp11 => ?_)
    obtain ⟨rfl, rfl, rfl⟩ := hp11
    refine z_istore_n1 hZ dX5_killLineOn_14 (by decide) rfl ?_
    refine z_iload_n1 hZ dX5_killLineOn_15 ?_
    refine z_aload_n0 hZ dX5_killLineOn_16 ?_
    refine z_gf_X5_scroll hZ dX5_killLineOn_17 fl_X5_12 (by assumption) (by assumption) ?_
    refine z_gf_X4_point hZ dX5_killLineOn_20 fl_X5_49 (by assumption) (by assumption) ?_
    refine z_icmp_ne hZ (tgt := 41) dX5_killLineOn_23 rfl (by omega) (fun hc23 => ?_) (fun hc23 => ?_)
    · have e : kLj v = lE (v 0) (fT v) (v 1) := if_neg (fun z => hc23 z.1)
      refine z_iconst hZ dX5_killLineOn_41 ?_
      refine z_istore_n2 hZ dX5_killLineOn_42 (by decide) rfl ?_
      refine z_aload_n0 hZ dX5_killLineOn_43 ?_
      refine z_aload_n0 hZ dX5_killLineOn_44 ?_
      refine z_gf_X5_scroll hZ dX5_killLineOn_45 fl_X5_12 (by assumption) (by assumption) ?_
      refine z_gf_X4_point hZ dX5_killLineOn_48 fl_X5_49 (by assumption) (by assumption) ?_
      refine z_iload_n2 hZ dX5_killLineOn_51 ?_
      refine z_if_eq hZ (tgt := 61) dX5_killLineOn_52 rfl (by omega) (fun hc52 => ?_) (fun hc52 => ?_)
      · refine z_iload_n1 hZ dX5_killLineOn_61 ?_
        refine z_iconst hZ dX5_killLineOn_62 ?_
        first
          | (exfalso; omega)
          | exact k63 _ _ (by omega)
      · refine z_iload_n1 hZ dX5_killLineOn_55 ?_
        refine z_iconst hZ dX5_killLineOn_56 ?_
        refine z_iadd hZ dX5_killLineOn_57 ?_
        refine z_goto hZ (tgt := 62) dX5_killLineOn_58 rfl ?_
        refine z_iconst hZ dX5_killLineOn_62 ?_
        first
          | (exfalso; omega)
          | exact k63 _ _ (by omega)
    · refine z_aload_n0 hZ dX5_killLineOn_26 ?_
      refine z_gf_X5_scroll hZ dX5_killLineOn_27 fl_X5_12 (by assumption) (by assumption) ?_
      refine z_iload_n1 hZ dX5_killLineOn_30 ?_
      refine z_cV hZ (As := [_]) rfl dX5_killLineOn_31 ml_X5_184 wy_X4_isEndAt (m_X4_isEndAt l hS (by omega)) (by assumption) (by assumption) rfl ⟨Nat.le_of_ble_eq_true rfl, Nat.le_of_ble_eq_true rfl⟩ ⟨Nat.le_of_ble_eq_true rfl, Nat.le_of_ble_eq_true rfl⟩ (Nat.le_of_ble_eq_true rfl) (fun _ _ _ h => h.elim) (fun v31 L31 G31 hp31 => ?_)
      obtain ⟨rfl, rfl, rfl⟩ := hp31
      refine z_if_eq_b hZ (tgt := 41) dX5_killLineOn_34 rfl (fun hc34 => ?_) (fun hc34 => ?_)
      · have e : kLj v = lE (v 0) (fT v) (v 1) := if_neg (fun z => hc34 (by rw [hc23]; exact z.2))
        refine z_iconst hZ dX5_killLineOn_41 ?_
        refine z_istore_n2 hZ dX5_killLineOn_42 (by decide) rfl ?_
        refine z_aload_n0 hZ dX5_killLineOn_43 ?_
        refine z_aload_n0 hZ dX5_killLineOn_44 ?_
        refine z_gf_X5_scroll hZ dX5_killLineOn_45 fl_X5_12 (by assumption) (by assumption) ?_
        refine z_gf_X4_point hZ dX5_killLineOn_48 fl_X5_49 (by assumption) (by assumption) ?_
        refine z_iload_n2 hZ dX5_killLineOn_51 ?_
        refine z_if_eq hZ (tgt := 61) dX5_killLineOn_52 rfl (by omega) (fun hc52 => ?_) (fun hc52 => ?_)
        · refine z_iload_n1 hZ dX5_killLineOn_61 ?_
          refine z_iconst hZ dX5_killLineOn_62 ?_
          first
            | (exfalso; omega)
            | exact k63 _ _ (by omega)
        · refine z_iload_n1 hZ dX5_killLineOn_55 ?_
          refine z_iconst hZ dX5_killLineOn_56 ?_
          refine z_iadd hZ dX5_killLineOn_57 ?_
          refine z_goto hZ (tgt := 62) dX5_killLineOn_58 rfl ?_
          refine z_iconst hZ dX5_killLineOn_62 ?_
          first
            | (exfalso; omega)
            | exact k63 _ _ (by omega)
      · have e : kLj v = lE (v 0) (fT v) (v 1) + 1 := (if_pos ⟨hc23, by rw [← hc23]; rw [hc23] at hc34; rw [hc23]; exact hc34⟩).trans (by omega)
        have e2 := hE hc34
        refine z_iconst hZ dX5_killLineOn_37 ?_
        refine z_goto hZ (tgt := 42) dX5_killLineOn_38 rfl ?_
        refine z_istore_n2 hZ dX5_killLineOn_42 (by decide) rfl ?_
        refine z_aload_n0 hZ dX5_killLineOn_43 ?_
        refine z_aload_n0 hZ dX5_killLineOn_44 ?_
        refine z_gf_X5_scroll hZ dX5_killLineOn_45 fl_X5_12 (by assumption) (by assumption) ?_
        refine z_gf_X4_point hZ dX5_killLineOn_48 fl_X5_49 (by assumption) (by assumption) ?_
        refine z_iload_n2 hZ dX5_killLineOn_51 ?_
        refine z_if_eq hZ (tgt := 61) dX5_killLineOn_52 rfl (by omega) (fun hc52 => ?_) (fun hc52 => ?_)
        · refine z_iload_n1 hZ dX5_killLineOn_61 ?_
          refine z_iconst hZ dX5_killLineOn_62 ?_
          first
            | (exfalso; omega)
            | exact k63 _ _ (by omega)
        · refine z_iload_n1 hZ dX5_killLineOn_55 ?_
          refine z_iconst hZ dX5_killLineOn_56 ?_
          refine z_iadd hZ dX5_killLineOn_57 ?_
          refine z_goto hZ (tgt := 62) dX5_killLineOn_58 rfl ?_
          refine z_iconst hZ dX5_killLineOn_62 ?_
          first
            | (exfalso; omega)
            | exact k63 _ _ (by omega)
  exact hgo
set_option maxRecDepth 100000 in
set_option maxHeartbeats 4000000 in
theorem m_X5_killToMark (l : Launch) {L : List Nat} {F : Nat → PE} {sa : Nat → Nat} {v : Int → Int} {kd : Int} (hj : ij sa) (hL : inL L sa) (t : stP L F sa v kd) : PM l yX5_killToMark cX5_killToMark 3 (some .int) (rm 6 0 0) L [.ref (sa 0)] F (fun v9 L1 F1 => v9 = some (.int (iI (if v 2 ≠ -1 ∧ mnI (v 2) (v 1) < mxI (v 2) (v 1) then mxI (v 2) (v 1) - mnI (v 2) (v 1) else -1))) ∧ L = L1 ∧ (if v 2 ≠ -1 ∧ mnI (v 2) (v 1) < mxI (v 2) (v 1) then stP L F1 sa (vKl (mnI (v 2) (v 1)) (mxI (v 2) (v 1)) (v 2 < v 1) kd v) 1 else F1 = F) ∧ fS sa F F1) (fun _ _ _ => False) := by
  refine pm_of cd_X5_killToMark (by decide +kernel) (Nat.le_of_ble_eq_true rfl) (fun ZZ hZ => ?_)
  have hgo : ZZ 0 0 0 [some (.ref (sa 0)), none, none] [] L F := by
    have t' := t
    obtain ⟨π, hl, hf, w, r, tt, hS, hR, hh, hA, he, hO, hi⟩ := t
    have l0 := hL 0 (by omega)
    have l1 := hL 1 (by omega)
    have hSc := hS.2.1
    have hn := hS.2.2.1.2.2.2.1
    have hp := hS.2.2.2
    obtain ⟨a, ha⟩ : ∃ a, a = mnI (v 2) (v 1) := ⟨_, rfl⟩
    obtain ⟨b, hb⟩ : ∃ b, b = mxI (v 2) (v 1) := ⟨_, rfl⟩
    have ra : a ≤ v 2 ∧ a ≤ v 1 ∧ (a = v 2 ∨ a = v 1) := by rw [ha]; unfold mnI; split <;> omega
    have rb : v 2 ≤ b ∧ v 1 ≤ b ∧ (b = v 2 ∨ b = v 1) := by rw [hb]; unfold mxI; split <;> omega
    refine z_aload_n0 hZ dX5_killToMark_0 ?_
    refine z_gf_X5_scroll hZ dX5_killToMark_1 fl_X5_12 (by assumption) (by assumption) ?_
    refine z_gf_X4_mark hZ dX5_killToMark_4 fl_X5_173 (by assumption) (by assumption) ?_
    refine z_iconst hZ dX5_killToMark_7 ?_
    refine z_icmp_ne hZ (tgt := 13) dX5_killToMark_8 rfl (by omega) (fun hc8 => ?_) (fun hc8 => ?_)
    · refine z_aload_n0 hZ dX5_killToMark_13 ?_
      refine z_gf_X5_scroll hZ dX5_killToMark_14 fl_X5_12 (by assumption) (by assumption) ?_
      refine z_gf_X4_mark hZ dX5_killToMark_17 fl_X5_173 (by assumption) (by assumption) ?_
      refine z_aload_n0 hZ dX5_killToMark_20 ?_
      refine z_gf_X5_scroll hZ dX5_killToMark_21 fl_X5_12 (by assumption) (by assumption) ?_
      refine z_gf_X4_point hZ dX5_killToMark_24 fl_X5_49 (by assumption) (by assumption) ?_
      refine z_min hZ dX5_killToMark_27 ml_X5_170 (by omega) (Nat.le_of_ble_eq_true rfl) (Nat.le_of_ble_eq_true rfl) (Nat.le_of_ble_eq_true rfl) ⟨Nat.le_of_ble_eq_true rfl, Nat.le_of_ble_eq_true rfl⟩ ?_
      rw [show (if v 1 < v 2 then v 1 else v 2) = a by rw [ha]; rfl]
      refine z_istore_n1 hZ dX5_killToMark_30 (by decide) rfl ?_
      refine z_aload_n0 hZ dX5_killToMark_31 ?_
      refine z_gf_X5_scroll hZ dX5_killToMark_32 fl_X5_12 (by assumption) (by assumption) ?_
      refine z_gf_X4_mark hZ dX5_killToMark_35 fl_X5_173 (by assumption) (by assumption) ?_
      refine z_aload_n0 hZ dX5_killToMark_38 ?_
      refine z_gf_X5_scroll hZ dX5_killToMark_39 fl_X5_12 (by assumption) (by assumption) ?_
      refine z_gf_X4_point hZ dX5_killToMark_42 fl_X5_49 (by assumption) (by assumption) ?_
      refine z_max hZ dX5_killToMark_45 ml_X5_187 (by omega) (Nat.le_of_ble_eq_true rfl) (Nat.le_of_ble_eq_true rfl) (Nat.le_of_ble_eq_true rfl) ⟨Nat.le_of_ble_eq_true rfl, Nat.le_of_ble_eq_true rfl⟩ ?_
      rw [show (if v 2 < v 1 then v 1 else v 2) = b by rw [hb]; rfl]
      refine z_istore_n2 hZ dX5_killToMark_48 (by decide) rfl ?_
      refine z_aload_n0 hZ dX5_killToMark_49 ?_
      refine z_iload_n1 hZ dX5_killToMark_50 ?_
      refine z_iload_n2 hZ dX5_killToMark_51 ?_
      refine z_aload_n0 hZ dX5_killToMark_52 ?_
      refine z_gf_X5_scroll hZ dX5_killToMark_53 fl_X5_12 (by assumption) (by assumption) ?_
      refine z_gf_X4_mark hZ dX5_killToMark_56 fl_X5_173 (by assumption) (by assumption) ?_
      refine z_aload_n0 hZ dX5_killToMark_59 ?_
      refine z_gf_X5_scroll hZ dX5_killToMark_60 fl_X5_12 (by assumption) (by assumption) ?_
      refine z_gf_X4_point hZ dX5_killToMark_63 fl_X5_49 (by assumption) (by assumption) ?_
      refine z_icmp_ge hZ (tgt := 73) dX5_killToMark_66 rfl (by omega) (fun hc66 => ?_) (fun hc66 => ?_)
      · refine z_iconst hZ dX5_killToMark_73 ?_
        refine z_cV hZ (As := [_, _, _]) rfl dX5_killToMark_74 ml_X5_180 wy_X5_kill (m_X5_kill l (B := v 2 < v 1) hj hL t' (by omega) (by first | exact (if_pos (by omega)).symm | exact (if_neg (by omega)).symm)) (by assumption) (by assumption) rfl ⟨Nat.le_of_ble_eq_true rfl, Nat.le_of_ble_eq_true rfl⟩ ⟨Nat.le_of_ble_eq_true rfl, Nat.le_of_ble_eq_true rfl⟩ (Nat.le_of_ble_eq_true rfl) (fun _ _ _ h => h.elim) (fun v74 L74 G74 hp74 => ?_)
        obtain ⟨rfl, rfl, t74, f74⟩ := hp74
        exact z_iret hZ rfl (Nat.le_of_ble_eq_true rfl) (Nat.le_of_ble_eq_true rfl) dX5_killToMark_77 (by
            rw [← ha, ← hb]
            refine ⟨pv ?_, rfl, ?_, f74⟩
            · by_cases q : a < b
              · rw [if_pos q, if_pos ⟨by omega, q⟩]
              · rw [if_neg q, if_neg (fun z => q z.2)]
            · by_cases q : a < b
              · rw [if_pos q] at t74; rw [if_pos ⟨by omega, q⟩]; exact t74
              · rw [if_neg q] at t74; rw [if_neg (fun z => q z.2)]; exact t74)
      · refine z_iconst hZ dX5_killToMark_69 ?_
        refine z_goto hZ (tgt := 74) dX5_killToMark_70 rfl ?_
        refine z_cV hZ (As := [_, _, _]) rfl dX5_killToMark_74 ml_X5_180 wy_X5_kill (m_X5_kill l (B := v 2 < v 1) hj hL t' (by omega) (by first | exact (if_pos (by omega)).symm | exact (if_neg (by omega)).symm)) (by assumption) (by assumption) rfl ⟨Nat.le_of_ble_eq_true rfl, Nat.le_of_ble_eq_true rfl⟩ ⟨Nat.le_of_ble_eq_true rfl, Nat.le_of_ble_eq_true rfl⟩ (Nat.le_of_ble_eq_true rfl) (fun _ _ _ h => h.elim) (fun v74 L74 G74 hp74 => ?_)
        obtain ⟨rfl, rfl, t74, f74⟩ := hp74
        exact z_iret hZ rfl (Nat.le_of_ble_eq_true rfl) (Nat.le_of_ble_eq_true rfl) dX5_killToMark_77 (by
            rw [← ha, ← hb]
            refine ⟨pv ?_, rfl, ?_, f74⟩
            · by_cases q : a < b
              · rw [if_pos q, if_pos ⟨by omega, q⟩]
              · rw [if_neg q, if_neg (fun z => q z.2)]
            · by_cases q : a < b
              · rw [if_pos q] at t74; rw [if_pos ⟨by omega, q⟩]; exact t74
              · rw [if_neg q] at t74; rw [if_neg (fun z => q z.2)]; exact t74)
    · refine z_iconst hZ dX5_killToMark_11 ?_
      exact z_iret hZ rfl (Nat.le_of_ble_eq_true rfl) (Nat.le_of_ble_eq_true rfl) dX5_killToMark_12 (by exact ⟨pv (if_neg (fun z => z.1 hc8)).symm, rfl, by rw [if_neg (fun z => z.1 hc8)], fS.rf⟩)
  exact hgo

