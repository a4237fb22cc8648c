/-! WHAT THE OBJECT TELLS AT A PLACE THAT IS THERE: no throw, no room for one. -/
set_option maxRecDepth 100000 in
set_option maxHeartbeats 4000000 in
theorem m_X7_existing0 (l : Launch) {L : List Nat} {F : Nat → PE} {a : Int} (ha : 0 ≤ a ∧ a ≤ 1000000) : PM l yX7_existing cX7_existing 1 (some .int) (rm 6 0 0) L [.int (iI a)] F (fun v9 L1 F1 => v9 = some (.int (iI a)) ∧ L = L1 ∧ F = F1) (fun _ _ _ => False) := by
  refine pm_of cd_X7_existing (by decide +kernel) (Nat.le_of_ble_eq_true rfl) (fun ZZ hZ => ?_)
  have hgo : ZZ 0 0 0 [some (.int (iI a))] [] L F := by
    refine z_iload_n0 hZ dX7_existing_0 ?_
    refine z_iconst hZ dX7_existing_1 ?_
    refine z_icmp_ne hZ (tgt := 16) dX7_existing_2 rfl (by omega) (fun hc2 => ?_) (fun hc2 => ?_)
    · refine z_iload_n0 hZ dX7_existing_16 ?_
      exact z_iret hZ rfl (Nat.le_of_ble_eq_true rfl) (Nat.le_of_ble_eq_true rfl) dX7_existing_17 (by exact ⟨rfl, rfl, rfl⟩)
    · exfalso; omega
  exact hgo
set_option maxRecDepth 100000 in
set_option maxHeartbeats 4000000 in
theorem m_X7_codeAt0 (l : Launch) {L : List Nat} {F : Nat → PE} {K : Nat → Nat} {v : Int → Int} {kd sv n : Int} {H Q : Int → Int → Int} {kp bf : Int → Int} (t : dr L F K v kd sv H kp Q n bf) {x : Int} (hx : 0 ≤ x ∧ x < v 0) : PM l yX7_codeAt cX7_codeAt 2 (some .int) (rm 7 0 0) L [.ref (K 0), .int (iI x)] F (fun v9 L1 F1 => v9 = some (.int (iI (v (18 + x)))) ∧ L = L1 ∧ F = F1) (fun _ _ _ => False) := by
  refine pm_of cd_X7_codeAt (by decide +kernel) (Nat.le_of_ble_eq_true rfl) (fun ZZ hZ => ?_)
  have hgo : ZZ 0 0 0 [some (.ref (K 0)), some (.int (iI x))] [] L F := by
    obtain ⟨fi, W, D, hb, hl, hk⟩ := t
    have l0 := hb.1.1 0 (by omega)
    have h0 := hb.2.1
    have l1 := hb.1.1 1 (by omega)
    have S0 : stP L F (sK K 0) v kd := by have z := hb.2.2.2.2.2.2.2 0 (by omega); rw [hl.1, hk] at z; exact z
    have rg := S0.rg
    have lS := hb.L (k := 0) (by omega)
    obtain ⟨π, hlH, hf, w, r, tt, c1, hR, hh, hA, he, hO, hi⟩ := S0
    have o0 : F (K 1) = _ := hO
    have c1o := c1.2.1
    have m1 := lS 1 (by omega)
    have m2 := lS 2 (by omega)
    have m4 := lS 4 (by omega)
    have c2 := c1.2.2.1.2.1
    have hR4 := hR.1
    have e : cdA (v 0) (fT v) x = v (18 + x) := cdA_in hx
    have b : 10 ≤ v (18 + x) ∧ v (18 + x) ≤ 126 := c1.2.2.1.2.2.2.2 x hx.1 hx.2
    refine z_aload_n0 hZ dX7_codeAt_0 ?_
    refine z_gf_X7_now hZ dX7_codeAt_1 fl_X7_10 (by assumption) (by assumption) ?_
    refine z_gf_X5_scroll hZ dX7_codeAt_4 fl_X7_68 (by assumption) (by assumption) ?_
    refine z_gf_X4_text hZ dX7_codeAt_7 fl_X7_72 (by assumption) (by assumption) ?_
    refine z_iload_n1 hZ dX7_codeAt_10 ?_
    refine z_cV hZ (As := [_]) rfl dX7_codeAt_11 ml_X7_160 wy_X6_code (m_X6_code l c1.2.2.1 (by omega)) (by assumption) (by assumption) rfl ⟨Nat.le_of_ble_eq_true rfl, Nat.le_of_ble_eq_true rfl⟩ ⟨Nat.le_of_ble_eq_true rfl, Nat.le_of_ble_eq_true rfl⟩ (Nat.le_of_ble_eq_true rfl) (fun _ _ _ h => h.elim) (fun v11 L11 G11 hp11 => ?_)
    obtain ⟨rfl, rfl, rfl⟩ := hp11
    rw [e]
    refine z_cS hZ (As := [_]) rfl dX7_codeAt_14 ml_X7_202 wy_X7_existing (m_X7_existing0 l (by omega)) ⟨Nat.le_of_ble_eq_true rfl, Nat.le_of_ble_eq_true rfl⟩ ⟨Nat.le_of_ble_eq_true rfl, Nat.le_of_ble_eq_true rfl⟩ (Nat.le_of_ble_eq_true rfl) (fun _ _ _ h => h.elim) (fun v9 L9 G9 hp9 => ?_)
    obtain ⟨rfl, rfl, rfl⟩ := hp9
    exact z_iret hZ rfl (Nat.le_of_ble_eq_true rfl) (Nat.le_of_ble_eq_true rfl) dX7_codeAt_17 (by exact ⟨rfl, rfl, rfl⟩)
  exact hgo
set_option maxRecDepth 100000 in
set_option maxHeartbeats 4000000 in
theorem m_X7_lengthOf0 (l : Launch) {L : List Nat} {F : Nat → PE} {K : Nat → Nat} {v : Int → Int} {kd sv n : Int} {H Q : Int → Int → Int} {kp bf : Int → Int} (t : dr L F K v kd sv H kp Q n bf) {x : Int} (hx : 0 ≤ x ∧ x < v 3) : PM l yX7_lengthOf cX7_lengthOf 2 (some .int) (rm 7 0 0) L [.ref (K 0), .int (iI x)] F (fun v9 L1 F1 => v9 = some (.int (iI (v (10 + x)))) ∧ L = L1 ∧ F = F1) (fun _ _ _ => False) := by
  refine pm_of cd_X7_lengthOf (by decide +kernel) (Nat.le_of_ble_eq_true rfl) (fun ZZ hZ => ?_)
  have hgo : ZZ 0 0 0 [some (.ref (K 0)), some (.int (iI x))] [] L F := by
    obtain ⟨fi, W, D, hb, hl, hk⟩ := t
    have l0 := hb.1.1 0 (by omega)
    have h0 := hb.2.1
    have l1 := hb.1.1 1 (by omega)
    have S0 : stP L F (sK K 0) v kd := by have z := hb.2.2.2.2.2.2.2 0 (by omega); rw [hl.1, hk] at z; exact z
    have rg := S0.rg
    have lS := hb.L (k := 0) (by omega)
    obtain ⟨π, hlH, hf, w, r, tt, c1, hR, hh, hA, he, hO, hi⟩ := S0
    have o0 : F (K 1) = _ := hO
    have c1o := c1.2.1
    have m1 := lS 1 (by omega)
    have m2 := lS 2 (by omega)
    have m4 := lS 4 (by omega)
    have c2 := c1.2.2.1.2.1
    have hR4 := hR.1
    have e : loH (v 3) hlH x = v (10 + x) := (if_pos hx).trans (hh x hx.1 hx.2).1
    have b := hi.1 x hx.1 hx.2
    refine z_aload_n0 hZ dX7_lengthOf_0 ?_
    refine z_gf_X7_now hZ dX7_lengthOf_1 fl_X7_10 (by assumption) (by assumption) ?_
    refine z_gf_X5_ring hZ dX7_lengthOf_4 fl_X7_236 (by assumption) (by assumption) ?_
    refine z_iload_n1 hZ dX7_lengthOf_7 ?_
    refine z_cV hZ (As := [_]) rfl dX7_lengthOf_8 ml_X7_247 wy_X3_countAt (m_X3_countAt l lS hR (by omega)) (by assumption) (by assumption) rfl ⟨Nat.le_of_ble_eq_true rfl, Nat.le_of_ble_eq_true rfl⟩ ⟨Nat.le_of_ble_eq_true rfl, Nat.le_of_ble_eq_true rfl⟩ (Nat.le_of_ble_eq_true rfl) (fun _ _ _ h => h.elim) (fun v8 L8 G8 hp8 => ?_)
    obtain ⟨rfl, rfl, rfl⟩ := hp8
    rw [e]
    refine z_cS hZ (As := [_]) rfl dX7_lengthOf_11 ml_X7_202 wy_X7_existing (m_X7_existing0 l (by omega)) ⟨Nat.le_of_ble_eq_true rfl, Nat.le_of_ble_eq_true rfl⟩ ⟨Nat.le_of_ble_eq_true rfl, Nat.le_of_ble_eq_true rfl⟩ (Nat.le_of_ble_eq_true rfl) (fun _ _ _ h => h.elim) (fun v9 L9 G9 hp9 => ?_)
    obtain ⟨rfl, rfl, rfl⟩ := hp9
    exact z_iret hZ rfl (Nat.le_of_ble_eq_true rfl) (Nat.le_of_ble_eq_true rfl) dX7_lengthOf_14 (by exact ⟨rfl, rfl, rfl⟩)
  exact hgo
set_option maxRecDepth 100000 in
set_option maxHeartbeats 4000000 in
theorem m_X7_codeIn0 (l : Launch) {L : List Nat} {F : Nat → PE} {K : Nat → Nat} {v : Int → Int} {kd sv n : Int} {H Q : Int → Int → Int} {kp bf : Int → Int} (t : dr L F K v kd sv H kp Q n bf) {x y : Int} (hx : (0 ≤ x ∧ x < v 3) ∧ 0 ≤ y ∧ y < v (10 + x)) : PM l yX7_codeIn cX7_codeIn 3 (some .int) (rm 7 0 0) L [.ref (K 0), .int (iI x), .int (iI y)] F (fun v9 L1 F1 => v9 = some (.int (iI (v (218 + 200 * x + y)))) ∧ L = L1 ∧ F = F1) (fun _ _ _ => False) := by
  refine pm_of cd_X7_codeIn (by decide +kernel) (Nat.le_of_ble_eq_true rfl) (fun ZZ hZ => ?_)
  have hgo : ZZ 0 0 0 [some (.ref (K 0)), some (.int (iI x)), some (.int (iI y))] [] L F := by
    obtain ⟨fi, W, D, hb, hl, hk⟩ := t
    have l0 := hb.1.1 0 (by omega)
    have h0 := hb.2.1
    have l1 := hb.1.1 1 (by omega)
    have S0 : stP L F (sK K 0) v kd := by have z := hb.2.2.2.2.2.2.2 0 (by omega); rw [hl.1, hk] at z; exact z
    have rg := S0.rg
    have lS := hb.L (k := 0) (by omega)
    obtain ⟨π, hlH, hf, w, r, tt, c1, hR, hh, hA, he, hO, hi⟩ := S0
    have o0 : F (K 1) = _ := hO
    have c1o := c1.2.1
    have m1 := lS 1 (by omega)
    have m2 := lS 2 (by omega)
    have m4 := lS 4 (by omega)
    have c2 := c1.2.2.1.2.1
    have hR4 := hR.1
    obtain ⟨q, hy⟩ := hx
    have tH := hR.tx q.1 q.2
    have b := hi.1 x q.1 q.2
    have hq := hh x q.1 q.2
    have lH := lS (9 + π x) (by have := (hR.2.2.2.1 x q.1 (by omega)).1; omega)
    have oH := tH.2.1
    have hy2 : 0 ≤ y ∧ y < hlH x := by omega
    have z := tH.2.2.2.2 y hy2.1 hy2.2
    have e2 := hq.2 y hy2.1 hy2.2
    have e : cdA (hlH x) (hf x) y = v (218 + 200 * x + y) := (cdA_in hy2).trans e2
    refine z_aload_n0 hZ dX7_codeIn_0 ?_
    refine z_gf_X7_now hZ dX7_codeIn_1 fl_X7_10 (by assumption) (by assumption) ?_
    refine z_gf_X5_ring hZ dX7_codeIn_4 fl_X7_236 (by assumption) (by assumption) ?_
    refine z_iload_n1 hZ dX7_codeIn_7 ?_
    refine z_cV hZ (As := [_]) rfl dX7_codeIn_8 ml_X7_250 wy_X3_hoard (m_X3_hoard l lS hR q) (by assumption) (by assumption) rfl ⟨Nat.le_of_ble_eq_true rfl, Nat.le_of_ble_eq_true rfl⟩ ⟨Nat.le_of_ble_eq_true rfl, Nat.le_of_ble_eq_true rfl⟩ (Nat.le_of_ble_eq_true rfl) (fun _ _ _ h => h.elim) (fun v8 L8 G8 hp8 => ?_)
    obtain ⟨rfl, rfl, rfl⟩ := hp8
    refine z_iload_n2 hZ dX7_codeIn_11 ?_
    refine z_cV hZ (As := [_]) rfl dX7_codeIn_12 ml_X7_160 wy_X6_code (m_X6_code l tH (by omega)) (by assumption) (by assumption) rfl ⟨Nat.le_of_ble_eq_true rfl, Nat.le_of_ble_eq_true rfl⟩ ⟨Nat.le_of_ble_eq_true rfl, Nat.le_of_ble_eq_true rfl⟩ (Nat.le_of_ble_eq_true rfl) (fun _ _ _ h => h.elim) (fun v12 L12 G12 hp12 => ?_)
    obtain ⟨rfl, rfl, rfl⟩ := hp12
    rw [e]
    refine z_cS hZ (As := [_]) rfl dX7_codeIn_15 ml_X7_202 wy_X7_existing (m_X7_existing0 l (by omega)) ⟨Nat.le_of_ble_eq_true rfl, Nat.le_of_ble_eq_true rfl⟩ ⟨Nat.le_of_ble_eq_true rfl, Nat.le_of_ble_eq_true rfl⟩ (Nat.le_of_ble_eq_true rfl) (fun _ _ _ h => h.elim) (fun v9 L9 G9 hp9 => ?_)
    obtain ⟨rfl, rfl, rfl⟩ := hp9
    exact z_iret hZ rfl (Nat.le_of_ble_eq_true rfl) (Nat.le_of_ble_eq_true rfl) dX7_codeIn_18 (by exact ⟨rfl, rfl, rfl⟩)
  exact hgo
