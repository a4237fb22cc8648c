/-! WHAT THE OBJECT TELLS. -/
theorem smH_cg {f g : Int → Int} : ∀ k : Nat, (∀ i : Int, 0 ≤ i → i < (k : Int) → f i = g i) → smH f k = smH g k := by
  intro k
  induction k with
  | zero => intro _; rfl
  | succ k ih =>
    intro h
    show smH f k + f k = smH g k + g k
    rw [ih (fun i h0 h1 => h i h0 (by omega)), h k (by omega) (by omega)]
theorem lgH_cg {f g : Int → Int} : ∀ k : Nat, (∀ i : Int, 0 ≤ i → i < (k : Int) → f i = g i) → lgH f k = lgH g k := by
  intro k
  induction k with
  | zero => intro _; rfl
  | succ k ih =>
    intro h
    have e := ih (fun i h0 h1 => h i h0 (by omega))
    have r := lgH_rg (hl := g) k
    show (if lgH f k = -1 ∨ f (lgH f k) < f k then (k : Int) else lgH f k) = (if lgH g k = -1 ∨ g (lgH g k) < g k then (k : Int) else lgH g k)
    rw [e, h k (by omega) (by omega)]
    by_cases c : lgH g k = -1
    · rw [if_pos (Or.inl c), if_pos (Or.inl c)]
    · rw [h (lgH g k) (by omega) (by omega)]
def wgA (v : Int → Int) : Int := smH (fun i => v (10 + i)) (v 3).toNat
def lgA (v : Int → Int) : Int := lgH (fun i => v (10 + i)) (v 3).toNat
def lnA (v : Int → Int) : Int := cn (isE (v 0) (fT v)) (v 0).toNat + 1
def liA (v : Int → Int) : Int := cn (isE (v 0) (fT v)) (v 1).toNat
def wdA (v : Int → Int) : Int := cn (bgW (v 0) (fT v)) (v 0).toNat
def loA (v : Int → Int) : Int := mxL (v 0) (fT v) (v 0 + 1).toNat
def mnD (v : Int → Int) : UInt64 := if 0 < v 3 then FP.ddiv (FP.i2d (iI (wgA v))) (FP.i2d (iI (v 3))) else FP.dconst0
set_option maxRecDepth 100000 in
set_option maxHeartbeats 4000000 in
theorem m_X7_savedStates (l : Launch) {L : List Nat} {F : Nat → PE} {K : Nat → Nat} {v : Int → Int} {kd sv n : Int} {H Q : Int → Int → Int} {kp bf : Int → Int} (t : dr L F K v kd sv H kp Q n bf) : PM l yX7_savedStates cX7_savedStates 1 (some .int) (rm 2 0 0) L [.ref (K 0)] F (fun v9 L1 F1 => v9 = some (.int (iI (sv))) ∧ L = L1 ∧ F = F1) (fun _ _ _ => False) := by
  refine pm_of cd_X7_savedStates (by decide +kernel) (Nat.le_of_ble_eq_true rfl) (fun ZZ hZ => ?_)
  have hgo : ZZ 0 0 0 [some (.ref (K 0))] [] L F := by
    obtain ⟨fi, W, D, hb, hl, hk⟩ := t
    have l0 := hb.1.1 0 (by omega)
    have h0 := hb.2.1
    have l1 := hb.1.1 1 (by omega)
    have l26 := hb.1.1 26 (by omega)
    have h26 := hb.2.2.1.1
    have S0 : stP L F (sK K 0) v kd := by have z := hb.2.2.2.2.2.2.2 0 (by omega); rw [hl.1, hk] at z; exact z
    have rg := S0.rg
    have lS := hb.L (k := 0) (by omega)
    obtain ⟨π, hlH, hf, w, r, tt, c1, hR, hh, hA, he, hO, hi⟩ := S0
    have o0 : F (K 1) = _ := hO
    have c1o := c1.2.1
    have m1 := lS 1 (by omega)
    have m2 := lS 2 (by omega)
    have m4 := lS 4 (by omega)
    have m8 := lS 8 (by omega)
    have c2 := c1.2.2.1.2.1
    have hR4 := hR.1
    refine z_aload_n0 hZ dX7_savedStates_0 ?_
    refine z_gf_X7_history hZ dX7_savedStates_1 fl_X7_19 (by assumption) (by assumption) ?_
    refine z_cV hZ (As := []) rfl dX7_savedStates_4 ml_X7_193 wy_X2_count (m_X2_count l hb) (by assumption) (by assumption) rfl ⟨Nat.le_of_ble_eq_true rfl, Nat.le_of_ble_eq_true rfl⟩ ⟨Nat.le_of_ble_eq_true rfl, Nat.le_of_ble_eq_true rfl⟩ (Nat.le_of_ble_eq_true rfl) (fun _ _ _ h => h.elim) (fun v4 L4 G4 hp4 => ?_)
    obtain ⟨rfl, rfl, rfl⟩ := hp4
    exact z_iret hZ rfl (Nat.le_of_ble_eq_true rfl) (Nat.le_of_ble_eq_true rfl) dX7_savedStates_7 (by exact ⟨rfl, rfl, rfl⟩)
  exact hgo
set_option maxRecDepth 100000 in
set_option maxHeartbeats 4000000 in
theorem m_X7_length (l : Launch) {L : List Nat} {F : Nat → PE} {K : Nat → Nat} {v : Int → Int} {kd sv n : Int} {H Q : Int → Int → Int} {kp bf : Int → Int} (t : dr L F K v kd sv H kp Q n bf) : PM l yX7_length cX7_length 1 (some .int) (rm 2 0 0) L [.ref (K 0)] F (fun v9 L1 F1 => v9 = some (.int (iI (v 0))) ∧ L = L1 ∧ F = F1) (fun _ _ _ => False) := by
  refine pm_of cd_X7_length (by decide +kernel) (Nat.le_of_ble_eq_true rfl) (fun ZZ hZ => ?_)
  have hgo : ZZ 0 0 0 [some (.ref (K 0))] [] L F := by
    obtain ⟨fi, W, D, hb, hl, hk⟩ := t
    have l0 := hb.1.1 0 (by omega)
    have h0 := hb.2.1
    have l1 := hb.1.1 1 (by omega)
    have l26 := hb.1.1 26 (by omega)
    have h26 := hb.2.2.1.1
    have S0 : stP L F (sK K 0) v kd := by have z := hb.2.2.2.2.2.2.2 0 (by omega); rw [hl.1, hk] at z; exact z
    have rg := S0.rg
    have lS := hb.L (k := 0) (by omega)
    obtain ⟨π, hlH, hf, w, r, tt, c1, hR, hh, hA, he, hO, hi⟩ := S0
    have o0 : F (K 1) = _ := hO
    have c1o := c1.2.1
    have m1 := lS 1 (by omega)
    have m2 := lS 2 (by omega)
    have m4 := lS 4 (by omega)
    have m8 := lS 8 (by omega)
    have c2 := c1.2.2.1.2.1
    have hR4 := hR.1
    refine z_aload_n0 hZ dX7_length_0 ?_
    refine z_gf_X7_now hZ dX7_length_1 fl_X7_10 (by assumption) (by assumption) ?_
    refine z_gf_X5_scroll hZ dX7_length_4 fl_X7_68 (by assumption) (by assumption) ?_
    refine z_gf_X4_text hZ dX7_length_7 fl_X7_72 (by assumption) (by assumption) ?_
    refine z_cV hZ (As := []) rfl dX7_length_10 ml_X7_77 wy_X6_count (m_X6_count l c1.2.2.1) (by assumption) (by assumption) rfl ⟨Nat.le_of_ble_eq_true rfl, Nat.le_of_ble_eq_true rfl⟩ ⟨Nat.le_of_ble_eq_true rfl, Nat.le_of_ble_eq_true rfl⟩ (Nat.le_of_ble_eq_true rfl) (fun _ _ _ h => h.elim) (fun v10 L10 G10 hp10 => ?_)
    obtain ⟨rfl, rfl, rfl⟩ := hp10
    exact z_iret hZ rfl (Nat.le_of_ble_eq_true rfl) (Nat.le_of_ble_eq_true rfl) dX7_length_13 (by exact ⟨rfl, rfl, rfl⟩)
  exact hgo
set_option maxRecDepth 100000 in
set_option maxHeartbeats 4000000 in
theorem m_X7_point (l : Launch) {L : List Nat} {F : Nat → PE} {K : Nat → Nat} {v : Int → Int} {kd sv n : Int} {H Q : Int → Int → Int} {kp bf : Int → Int} (t : dr L F K v kd sv H kp Q n bf) : PM l yX7_point cX7_point 1 (some .int) (rm 1 0 0) L [.ref (K 0)] F (fun v9 L1 F1 => v9 = some (.int (iI (v 1))) ∧ L = L1 ∧ F = F1) (fun _ _ _ => False) := by
  refine pm_of cd_X7_point (by decide +kernel) (Nat.le_of_ble_eq_true rfl) (fun ZZ hZ => ?_)
  have hgo : ZZ 0 0 0 [some (.ref (K 0))] [] L F := by
    obtain ⟨fi, W, D, hb, hl, hk⟩ := t
    have l0 := hb.1.1 0 (by omega)
    have h0 := hb.2.1
    have l1 := hb.1.1 1 (by omega)
    have l26 := hb.1.1 26 (by omega)
    have h26 := hb.2.2.1.1
    have S0 : stP L F (sK K 0) v kd := by have z := hb.2.2.2.2.2.2.2 0 (by omega); rw [hl.1, hk] at z; exact z
    have rg := S0.rg
    have lS := hb.L (k := 0) (by omega)
    obtain ⟨π, hlH, hf, w, r, tt, c1, hR, hh, hA, he, hO, hi⟩ := S0
    have o0 : F (K 1) = _ := hO
    have c1o := c1.2.1
    have m1 := lS 1 (by omega)
    have m2 := lS 2 (by omega)
    have m4 := lS 4 (by omega)
    have m8 := lS 8 (by omega)
    have c2 := c1.2.2.1.2.1
    have hR4 := hR.1
    refine z_aload_n0 hZ dX7_point_0 ?_
    refine z_gf_X7_now hZ dX7_point_1 fl_X7_10 (by assumption) (by assumption) ?_
    refine z_gf_X5_scroll hZ dX7_point_4 fl_X7_68 (by assumption) (by assumption) ?_
    refine z_gf_X4_point hZ dX7_point_7 fl_X7_205 (by assumption) (by assumption) ?_
    exact z_iret hZ rfl (Nat.le_of_ble_eq_true rfl) (Nat.le_of_ble_eq_true rfl) dX7_point_10 (by exact ⟨rfl, rfl, rfl⟩)
  exact hgo
set_option maxRecDepth 100000 in
set_option maxHeartbeats 4000000 in
theorem m_X7_linesByEnds (l : Launch) {L : List Nat} {F : Nat → PE} {K : Nat → Nat} {v : Int → Int} {kd sv n : Int} {H Q : Int → Int → Int} {kp bf : Int → Int} (t : dr L F K v kd sv H kp Q n bf) : PM l yX7_linesByEnds cX7_linesByEnds 1 (some .int) (rm 5 0 0) L [.ref (K 0)] F (fun v9 L1 F1 => v9 = some (.int (iI (lnA v))) ∧ L = L1 ∧ F = F1) (fun _ _ _ => False) := by
  refine pm_of cd_X7_linesByEnds (by decide +kernel) (Nat.le_of_ble_eq_true rfl) (fun ZZ hZ => ?_)
  have hgo : ZZ 0 0 0 [some (.ref (K 0))] [] L F := by
    obtain ⟨fi, W, D, hb, hl, hk⟩ := t
    have l0 := hb.1.1 0 (by omega)
    have h0 := hb.2.1
    have l1 := hb.1.1 1 (by omega)
    have l26 := hb.1.1 26 (by omega)
    have h26 := hb.2.2.1.1
    have S0 : stP L F (sK K 0) v kd := by have z := hb.2.2.2.2.2.2.2 0 (by omega); rw [hl.1, hk] at z; exact z
    have rg := S0.rg
    have lS := hb.L (k := 0) (by omega)
    obtain ⟨π, hlH, hf, w, r, tt, c1, hR, hh, hA, he, hO, hi⟩ := S0
    have o0 : F (K 1) = _ := hO
    have c1o := c1.2.1
    have m1 := lS 1 (by omega)
    have m2 := lS 2 (by omega)
    have m4 := lS 4 (by omega)
    have m8 := lS 8 (by omega)
    have c2 := c1.2.2.1.2.1
    have hR4 := hR.1
    refine z_aload_n0 hZ dX7_linesByEnds_0 ?_
    refine z_gf_X7_now hZ dX7_linesByEnds_1 fl_X7_10 (by assumption) (by assumption) ?_
    refine z_gf_X5_scroll hZ dX7_linesByEnds_4 fl_X7_68 (by assumption) (by assumption) ?_
    refine z_aload_n0 hZ dX7_linesByEnds_7 ?_
    refine z_gf_X7_now hZ dX7_linesByEnds_8 fl_X7_10 (by assumption) (by assumption) ?_
    refine z_gf_X5_scroll hZ dX7_linesByEnds_11 fl_X7_68 (by assumption) (by assumption) ?_
    refine z_gf_X4_text hZ dX7_linesByEnds_14 fl_X7_72 (by assumption) (by assumption) ?_
    refine z_cV hZ (As := []) rfl dX7_linesByEnds_17 ml_X7_77 wy_X6_count (m_X6_count l c1.2.2.1) (by assumption) (by assumption) rfl ⟨Nat.le_of_ble_eq_true rfl, Nat.le_of_ble_eq_true rfl⟩ ⟨Nat.le_of_ble_eq_true rfl, Nat.le_of_ble_eq_true rfl⟩ (Nat.le_of_ble_eq_true rfl) (fun _ _ _ h => h.elim) (fun v17 L17 G17 hp17 => ?_)
    obtain ⟨rfl, rfl, rfl⟩ := hp17
    refine z_cV hZ (As := [_]) rfl dX7_linesByEnds_20 ml_X7_218 wy_X4_endsAhead (m_X4_endsAhead l c1 (by omega)) (by assumption) (by assumption) rfl ⟨Nat.le_of_ble_eq_true rfl, Nat.le_of_ble_eq_true rfl⟩ ⟨Nat.le_of_ble_eq_true rfl, Nat.le_of_ble_eq_true rfl⟩ (Nat.le_of_ble_eq_true rfl) (fun _ _ _ h => h.elim) (fun v20 L20 G20 hp20 => ?_)
    obtain ⟨rfl, rfl, rfl⟩ := hp20
    refine z_iconst hZ dX7_linesByEnds_23 ?_
    refine z_iadd hZ dX7_linesByEnds_24 ?_
    exact z_iret hZ rfl (Nat.le_of_ble_eq_true rfl) (Nat.le_of_ble_eq_true rfl) dX7_linesByEnds_25 (by exact ⟨rfl, rfl, rfl⟩)
  exact hgo
set_option maxRecDepth 100000 in
set_option maxHeartbeats 4000000 in
theorem m_X7_linesByGoing (l : Launch) {L : List Nat} {F : Nat → PE} {K : Nat → Nat} {v : Int → Int} {kd sv n : Int} {H Q : Int → Int → Int} {kp bf : Int → Int} (t : dr L F K v kd sv H kp Q n bf) : PM l yX7_linesByGoing cX7_linesByGoing 1 (some .int) (rm 6 0 0) L [.ref (K 0)] F (fun v9 L1 F1 => v9 = some (.int (iI (lnA v))) ∧ L = L1 ∧ F = F1) (fun _ _ _ => False) := by
  refine pm_of cd_X7_linesByGoing (by decide +kernel) (Nat.le_of_ble_eq_true rfl) (fun ZZ hZ => ?_)
  have hgo : ZZ 0 0 0 [some (.ref (K 0))] [] L F := by
    obtain ⟨fi, W, D, hb, hl, hk⟩ := t
    have l0 := hb.1.1 0 (by omega)
    have h0 := hb.2.1
    have l1 := hb.1.1 1 (by omega)
    have l26 := hb.1.1 26 (by omega)
    have h26 := hb.2.2.1.1
    have S0 : stP L F (sK K 0) v kd := by have z := hb.2.2.2.2.2.2.2 0 (by omega); rw [hl.1, hk] at z; exact z
    have rg := S0.rg
    have lS := hb.L (k := 0) (by omega)
    obtain ⟨π, hlH, hf, w, r, tt, c1, hR, hh, hA, he, hO, hi⟩ := S0
    have o0 : F (K 1) = _ := hO
    have c1o := c1.2.1
    have m1 := lS 1 (by omega)
    have m2 := lS 2 (by omega)
    have m4 := lS 4 (by omega)
    have m8 := lS 8 (by omega)
    have c2 := c1.2.2.1.2.1
    have hR4 := hR.1
    refine z_aload_n0 hZ dX7_linesByGoing_0 ?_
    refine z_gf_X7_now hZ dX7_linesByGoing_1 fl_X7_10 (by assumption) (by assumption) ?_
    refine z_gf_X5_scroll hZ dX7_linesByGoing_4 fl_X7_68 (by assumption) (by assumption) ?_
    refine z_cV hZ (As := []) rfl dX7_linesByGoing_7 ml_X7_221 wy_X4_linesGone (m_X4_linesGone l c1) (by assumption) (by assumption) rfl ⟨Nat.le_of_ble_eq_true rfl, Nat.le_of_ble_eq_true rfl⟩ ⟨Nat.le_of_ble_eq_true rfl, Nat.le_of_ble_eq_true rfl⟩ (Nat.le_of_ble_eq_true rfl) (fun _ _ _ h => h.elim) (fun v7 L7 G7 hp7 => ?_)
    obtain ⟨rfl, rfl, rfl⟩ := hp7
    exact z_iret hZ rfl (Nat.le_of_ble_eq_true rfl) (Nat.le_of_ble_eq_true rfl) dX7_linesByGoing_10 (by exact ⟨rfl, rfl, rfl⟩)
  exact hgo
set_option maxRecDepth 100000 in
set_option maxHeartbeats 4000000 in
theorem m_X7_line (l : Launch) {L : List Nat} {F : Nat → PE} {K : Nat → Nat} {v : Int → Int} {kd sv n : Int} {H Q : Int → Int → Int} {kp bf : Int → Int} (t : dr L F K v kd sv H kp Q n bf) : PM l yX7_line cX7_line 1 (some .int) (rm 5 0 0) L [.ref (K 0)] F (fun v9 L1 F1 => v9 = some (.int (iI (liA v))) ∧ L = L1 ∧ F = F1) (fun _ _ _ => False) := by
  refine pm_of cd_X7_line (by decide +kernel) (Nat.le_of_ble_eq_true rfl) (fun ZZ hZ => ?_)
  have hgo : ZZ 0 0 0 [some (.ref (K 0))] [] L F := by
    obtain ⟨fi, W, D, hb, hl, hk⟩ := t
    have l0 := hb.1.1 0 (by omega)
    have h0 := hb.2.1
    have l1 := hb.1.1 1 (by omega)
    have l26 := hb.1.1 26 (by omega)
    have h26 := hb.2.2.1.1
    have S0 : stP L F (sK K 0) v kd := by have z := hb.2.2.2.2.2.2.2 0 (by omega); rw [hl.1, hk] at z; exact z
    have rg := S0.rg
    have lS := hb.L (k := 0) (by omega)
    obtain ⟨π, hlH, hf, w, r, tt, c1, hR, hh, hA, he, hO, hi⟩ := S0
    have o0 : F (K 1) = _ := hO
    have c1o := c1.2.1
    have m1 := lS 1 (by omega)
    have m2 := lS 2 (by omega)
    have m4 := lS 4 (by omega)
    have m8 := lS 8 (by omega)
    have c2 := c1.2.2.1.2.1
    have hR4 := hR.1
    refine z_aload_n0 hZ dX7_line_0 ?_
    refine z_gf_X7_now hZ dX7_line_1 fl_X7_10 (by assumption) (by assumption) ?_
    refine z_gf_X5_scroll hZ dX7_line_4 fl_X7_68 (by assumption) (by assumption) ?_
    refine z_aload_n0 hZ dX7_line_7 ?_
    refine z_gf_X7_now hZ dX7_line_8 fl_X7_10 (by assumption) (by assumption) ?_
    refine z_gf_X5_scroll hZ dX7_line_11 fl_X7_68 (by assumption) (by assumption) ?_
    refine z_gf_X4_point hZ dX7_line_14 fl_X7_205 (by assumption) (by assumption) ?_
    refine z_cV hZ (As := [_]) rfl dX7_line_17 ml_X7_218 wy_X4_endsAhead (m_X4_endsAhead l c1 (by omega)) (by assumption) (by assumption) rfl ⟨Nat.le_of_ble_eq_true rfl, Nat.le_of_ble_eq_true rfl⟩ ⟨Nat.le_of_ble_eq_true rfl, Nat.le_of_ble_eq_true rfl⟩ (Nat.le_of_ble_eq_true rfl) (fun _ _ _ h => h.elim) (fun v17 L17 G17 hp17 => ?_)
    obtain ⟨rfl, rfl, rfl⟩ := hp17
    exact z_iret hZ rfl (Nat.le_of_ble_eq_true rfl) (Nat.le_of_ble_eq_true rfl) dX7_line_20 (by exact ⟨rfl, rfl, rfl⟩)
  exact hgo
set_option maxRecDepth 100000 in
set_option maxHeartbeats 4000000 in
theorem m_X7_column (l : Launch) {L : List Nat} {F : Nat → PE} {K : Nat → Nat} {v : Int → Int} {kd sv n : Int} {H Q : Int → Int → Int} {kp bf : Int → Int} (t : dr L F K v kd sv H kp Q n bf) : PM l yX7_column cX7_column 1 (some .int) (rm 5 0 0) L [.ref (K 0)] F (fun v9 L1 F1 => v9 = some (.int (iI (v 1 - lB (v 0) (fT v) (v 1)))) ∧ L = L1 ∧ F = F1) (fun _ _ _ => False) := by
  refine pm_of cd_X7_column (by decide +kernel) (Nat.le_of_ble_eq_true rfl) (fun ZZ hZ => ?_)
  have hgo : ZZ 0 0 0 [some (.ref (K 0))] [] L F := by
    obtain ⟨fi, W, D, hb, hl, hk⟩ := t
    have l0 := hb.1.1 0 (by omega)
    have h0 := hb.2.1
    have l1 := hb.1.1 1 (by omega)
    have l26 := hb.1.1 26 (by omega)
    have h26 := hb.2.2.1.1
    have S0 : stP L F (sK K 0) v kd := by have z := hb.2.2.2.2.2.2.2 0 (by omega); rw [hl.1, hk] at z; exact z
    have rg := S0.rg
    have lS := hb.L (k := 0) (by omega)
    obtain ⟨π, hlH, hf, w, r, tt, c1, hR, hh, hA, he, hO, hi⟩ := S0
    have o0 : F (K 1) = _ := hO
    have c1o := c1.2.1
    have m1 := lS 1 (by omega)
    have m2 := lS 2 (by omega)
    have m4 := lS 4 (by omega)
    have m8 := lS 8 (by omega)
    have c2 := c1.2.2.1.2.1
    have hR4 := hR.1
    refine z_aload_n0 hZ dX7_column_0 ?_
    refine z_gf_X7_now hZ dX7_column_1 fl_X7_10 (by assumption) (by assumption) ?_
    refine z_gf_X5_scroll hZ dX7_column_4 fl_X7_68 (by assumption) (by assumption) ?_
    refine z_gf_X4_point hZ dX7_column_7 fl_X7_205 (by assumption) (by assumption) ?_
    refine z_aload_n0 hZ dX7_column_10 ?_
    refine z_gf_X7_now hZ dX7_column_11 fl_X7_10 (by assumption) (by assumption) ?_
    refine z_gf_X5_scroll hZ dX7_column_14 fl_X7_68 (by assumption) (by assumption) ?_
    refine z_aload_n0 hZ dX7_column_17 ?_
    refine z_gf_X7_now hZ dX7_column_18 fl_X7_10 (by assumption) (by assumption) ?_
    refine z_gf_X5_scroll hZ dX7_column_21 fl_X7_68 (by assumption) (by assumption) ?_
    refine z_gf_X4_point hZ dX7_column_24 fl_X7_205 (by assumption) (by assumption) ?_
    refine z_cV hZ (As := [_]) rfl dX7_column_27 ml_X7_224 wy_X4_lineStart (m_X4_lineStart l c1 (by omega)) (by assumption) (by assumption) rfl ⟨Nat.le_of_ble_eq_true rfl, Nat.le_of_ble_eq_true rfl⟩ ⟨Nat.le_of_ble_eq_true rfl, Nat.le_of_ble_eq_true rfl⟩ (Nat.le_of_ble_eq_true rfl) (fun _ _ _ h => h.elim) (fun v27 L27 G27 hp27 => ?_)
    obtain ⟨rfl, rfl, rfl⟩ := hp27
    refine z_isub hZ dX7_column_30 ?_
    exact z_iret hZ rfl (Nat.le_of_ble_eq_true rfl) (Nat.le_of_ble_eq_true rfl) dX7_column_31 (by exact ⟨rfl, rfl, rfl⟩)
  exact hgo
set_option maxRecDepth 100000 in
set_option maxHeartbeats 4000000 in
theorem m_X7_longestLine (l : Launch) {L : List Nat} {F : Nat → PE} {K : Nat → Nat} {v : Int → Int} {kd sv n : Int} {H Q : Int → Int → Int} {kp bf : Int → Int} (t : dr L F K v kd sv H kp Q n bf) : PM l yX7_longestLine cX7_longestLine 1 (some .int) (rm 6 0 0) L [.ref (K 0)] F (fun v9 L1 F1 => v9 = some (.int (iI (loA v))) ∧ L = L1 ∧ F = F1) (fun _ _ _ => False) := by
  refine pm_of cd_X7_longestLine (by decide +kernel) (Nat.le_of_ble_eq_true rfl) (fun ZZ hZ => ?_)
  have hgo : ZZ 0 0 0 [some (.ref (K 0))] [] L F := by
    obtain ⟨fi, W, D, hb, hl, hk⟩ := t
    have l0 := hb.1.1 0 (by omega)
    have h0 := hb.2.1
    have l1 := hb.1.1 1 (by omega)
    have l26 := hb.1.1 26 (by omega)
    have h26 := hb.2.2.1.1
    have S0 : stP L F (sK K 0) v kd := by have z := hb.2.2.2.2.2.2.2 0 (by omega); rw [hl.1, hk] at z; exact z
    have rg := S0.rg
    have lS := hb.L (k := 0) (by omega)
    obtain ⟨π, hlH, hf, w, r, tt, c1, hR, hh, hA, he, hO, hi⟩ := S0
    have o0 : F (K 1) = _ := hO
    have c1o := c1.2.1
    have m1 := lS 1 (by omega)
    have m2 := lS 2 (by omega)
    have m4 := lS 4 (by omega)
    have m8 := lS 8 (by omega)
    have c2 := c1.2.2.1.2.1
    have hR4 := hR.1
    refine z_aload_n0 hZ dX7_longestLine_0 ?_
    refine z_gf_X7_now hZ dX7_longestLine_1 fl_X7_10 (by assumption) (by assumption) ?_
    refine z_gf_X5_scroll hZ dX7_longestLine_4 fl_X7_68 (by assumption) (by assumption) ?_
    refine z_cV hZ (As := []) rfl dX7_longestLine_7 ml_X7_227 wy_X4_longest (m_X4_longest l c1) (by assumption) (by assumption) rfl ⟨Nat.le_of_ble_eq_true rfl, Nat.le_of_ble_eq_true rfl⟩ ⟨Nat.le_of_ble_eq_true rfl, Nat.le_of_ble_eq_true rfl⟩ (Nat.le_of_ble_eq_true rfl) (fun _ _ _ h => h.elim) (fun v7 L7 G7 hp7 => ?_)
    obtain ⟨rfl, rfl, rfl⟩ := hp7
    exact z_iret hZ rfl (Nat.le_of_ble_eq_true rfl) (Nat.le_of_ble_eq_true rfl) dX7_longestLine_10 (by exact ⟨rfl, rfl, rfl⟩)
  exact hgo
set_option maxRecDepth 100000 in
set_option maxHeartbeats 4000000 in
theorem m_X7_wordsByBegins (l : Launch) {L : List Nat} {F : Nat → PE} {K : Nat → Nat} {v : Int → Int} {kd sv n : Int} {H Q : Int → Int → Int} {kp bf : Int → Int} (t : dr L F K v kd sv H kp Q n bf) : PM l yX7_wordsByBegins cX7_wordsByBegins 1 (some .int) (rm 5 0 0) L [.ref (K 0)] F (fun v9 L1 F1 => v9 = some (.int (iI (wdA v))) ∧ L = L1 ∧ F = F1) (fun _ _ _ => False) := by
  refine pm_of cd_X7_wordsByBegins (by decide +kernel) (Nat.le_of_ble_eq_true rfl) (fun ZZ hZ => ?_)
  have hgo : ZZ 0 0 0 [some (.ref (K 0))] [] L F := by
    obtain ⟨fi, W, D, hb, hl, hk⟩ := t
    have l0 := hb.1.1 0 (by omega)
    have h0 := hb.2.1
    have l1 := hb.1.1 1 (by omega)
    have l26 := hb.1.1 26 (by omega)
    have h26 := hb.2.2.1.1
    have S0 : stP L F (sK K 0) v kd := by have z := hb.2.2.2.2.2.2.2 0 (by omega); rw [hl.1, hk] at z; exact z
    have rg := S0.rg
    have lS := hb.L (k := 0) (by omega)
    obtain ⟨π, hlH, hf, w, r, tt, c1, hR, hh, hA, he, hO, hi⟩ := S0
    have o0 : F (K 1) = _ := hO
    have c1o := c1.2.1
    have m1 := lS 1 (by omega)
    have m2 := lS 2 (by omega)
    have m4 := lS 4 (by omega)
    have m8 := lS 8 (by omega)
    have c2 := c1.2.2.1.2.1
    have hR4 := hR.1
    refine z_aload_n0 hZ dX7_wordsByBegins_0 ?_
    refine z_gf_X7_now hZ dX7_wordsByBegins_1 fl_X7_10 (by assumption) (by assumption) ?_
    refine z_gf_X5_scroll hZ dX7_wordsByBegins_4 fl_X7_68 (by assumption) (by assumption) ?_
    refine z_cV hZ (As := []) rfl dX7_wordsByBegins_7 ml_X7_230 wy_X4_wordsBegun (m_X4_wordsBegun l c1) (by assumption) (by assumption) rfl ⟨Nat.le_of_ble_eq_true rfl, Nat.le_of_ble_eq_true rfl⟩ ⟨Nat.le_of_ble_eq_true rfl, Nat.le_of_ble_eq_true rfl⟩ (Nat.le_of_ble_eq_true rfl) (fun _ _ _ h => h.elim) (fun v7 L7 G7 hp7 => ?_)
    obtain ⟨rfl, rfl, rfl⟩ := hp7
    exact z_iret hZ rfl (Nat.le_of_ble_eq_true rfl) (Nat.le_of_ble_eq_true rfl) dX7_wordsByBegins_10 (by exact ⟨rfl, rfl, rfl⟩)
  exact hgo
set_option maxRecDepth 100000 in
set_option maxHeartbeats 4000000 in
theorem m_X7_wordsByGoing (l : Launch) {L : List Nat} {F : Nat → PE} {K : Nat → Nat} {v : Int → Int} {kd sv n : Int} {H Q : Int → Int → Int} {kp bf : Int → Int} (t : dr L F K v kd sv H kp Q n bf) : PM l yX7_wordsByGoing cX7_wordsByGoing 1 (some .int) (rm 6 0 0) L [.ref (K 0)] F (fun v9 L1 F1 => v9 = some (.int (iI (wdA v))) ∧ L = L1 ∧ F = F1) (fun _ _ _ => False) := by
  refine pm_of cd_X7_wordsByGoing (by decide +kernel) (Nat.le_of_ble_eq_true rfl) (fun ZZ hZ => ?_)
  have hgo : ZZ 0 0 0 [some (.ref (K 0))] [] L F := by
    obtain ⟨fi, W, D, hb, hl, hk⟩ := t
    have l0 := hb.1.1 0 (by omega)
    have h0 := hb.2.1
    have l1 := hb.1.1 1 (by omega)
    have l26 := hb.1.1 26 (by omega)
    have h26 := hb.2.2.1.1
    have S0 : stP L F (sK K 0) v kd := by have z := hb.2.2.2.2.2.2.2 0 (by omega); rw [hl.1, hk] at z; exact z
    have rg := S0.rg
    have lS := hb.L (k := 0) (by omega)
    obtain ⟨π, hlH, hf, w, r, tt, c1, hR, hh, hA, he, hO, hi⟩ := S0
    have o0 : F (K 1) = _ := hO
    have c1o := c1.2.1
    have m1 := lS 1 (by omega)
    have m2 := lS 2 (by omega)
    have m4 := lS 4 (by omega)
    have m8 := lS 8 (by omega)
    have c2 := c1.2.2.1.2.1
    have hR4 := hR.1
    refine z_aload_n0 hZ dX7_wordsByGoing_0 ?_
    refine z_gf_X7_now hZ dX7_wordsByGoing_1 fl_X7_10 (by assumption) (by assumption) ?_
    refine z_gf_X5_scroll hZ dX7_wordsByGoing_4 fl_X7_68 (by assumption) (by assumption) ?_
    refine z_cV hZ (As := []) rfl dX7_wordsByGoing_7 ml_X7_233 wy_X4_wordsGone (m_X4_wordsGone l c1) (by assumption) (by assumption) rfl ⟨Nat.le_of_ble_eq_true rfl, Nat.le_of_ble_eq_true rfl⟩ ⟨Nat.le_of_ble_eq_true rfl, Nat.le_of_ble_eq_true rfl⟩ (Nat.le_of_ble_eq_true rfl) (fun _ _ _ h => h.elim) (fun v7 L7 G7 hp7 => ?_)
    obtain ⟨rfl, rfl, rfl⟩ := hp7
    exact z_iret hZ rfl (Nat.le_of_ble_eq_true rfl) (Nat.le_of_ble_eq_true rfl) dX7_wordsByGoing_10 (by exact ⟨rfl, rfl, rfl⟩)
  exact hgo
set_option maxRecDepth 100000 in
set_option maxHeartbeats 4000000 in
theorem m_X7_hoards (l : Launch) {L : List Nat} {F : Nat → PE} {K : Nat → Nat} {v : Int → Int} {kd sv n : Int} {H Q : Int → Int → Int} {kp bf : Int → Int} (t : dr L F K v kd sv H kp Q n bf) : PM l yX7_hoards cX7_hoards 1 (some .int) (rm 1 0 0) L [.ref (K 0)] F (fun v9 L1 F1 => v9 = some (.int (iI (v 3))) ∧ L = L1 ∧ F = F1) (fun _ _ _ => False) := by
  refine pm_of cd_X7_hoards (by decide +kernel) (Nat.le_of_ble_eq_true rfl) (fun ZZ hZ => ?_)
  have hgo : ZZ 0 0 0 [some (.ref (K 0))] [] L F := by
    obtain ⟨fi, W, D, hb, hl, hk⟩ := t
    have l0 := hb.1.1 0 (by omega)
    have h0 := hb.2.1
    have l1 := hb.1.1 1 (by omega)
    have l26 := hb.1.1 26 (by omega)
    have h26 := hb.2.2.1.1
    have S0 : stP L F (sK K 0) v kd := by have z := hb.2.2.2.2.2.2.2 0 (by omega); rw [hl.1, hk] at z; exact z
    have rg := S0.rg
    have lS := hb.L (k := 0) (by omega)
    obtain ⟨π, hlH, hf, w, r, tt, c1, hR, hh, hA, he, hO, hi⟩ := S0
    have o0 : F (K 1) = _ := hO
    have c1o := c1.2.1
    have m1 := lS 1 (by omega)
    have m2 := lS 2 (by omega)
    have m4 := lS 4 (by omega)
    have m8 := lS 8 (by omega)
    have c2 := c1.2.2.1.2.1
    have hR4 := hR.1
    refine z_aload_n0 hZ dX7_hoards_0 ?_
    refine z_gf_X7_now hZ dX7_hoards_1 fl_X7_10 (by assumption) (by assumption) ?_
    refine z_gf_X5_ring hZ dX7_hoards_4 fl_X7_236 (by assumption) (by assumption) ?_
    refine z_gf_X3_count hZ dX7_hoards_7 fl_X7_240 (by assumption) (by assumption) ?_
    exact z_iret hZ rfl (Nat.le_of_ble_eq_true rfl) (Nat.le_of_ble_eq_true rfl) dX7_hoards_10 (by exact ⟨rfl, rfl, rfl⟩)
  exact hgo
set_option maxRecDepth 100000 in
set_option maxHeartbeats 4000000 in
theorem m_X7_caves (l : Launch) {L : List Nat} {F : Nat → PE} {K : Nat → Nat} {v : Int → Int} {kd sv n : Int} {H Q : Int → Int → Int} {kp bf : Int → Int} (t : dr L F K v kd sv H kp Q n bf) : PM l yX7_caves cX7_caves 1 (some .int) (rm 1 0 0) L [.ref (K 0)] F (fun v9 L1 F1 => v9 = some (.int (iI (v 5))) ∧ L = L1 ∧ F = F1) (fun _ _ _ => False) := by
  refine pm_of cd_X7_caves (by decide +kernel) (Nat.le_of_ble_eq_true rfl) (fun ZZ hZ => ?_)
  have hgo : ZZ 0 0 0 [some (.ref (K 0))] [] L F := by
    obtain ⟨fi, W, D, hb, hl, hk⟩ := t
    have l0 := hb.1.1 0 (by omega)
    have h0 := hb.2.1
    have l1 := hb.1.1 1 (by omega)
    have l26 := hb.1.1 26 (by omega)
    have h26 := hb.2.2.1.1
    have S0 : stP L F (sK K 0) v kd := by have z := hb.2.2.2.2.2.2.2 0 (by omega); rw [hl.1, hk] at z; exact z
    have rg := S0.rg
    have lS := hb.L (k := 0) (by omega)
    obtain ⟨π, hlH, hf, w, r, tt, c1, hR, hh, hA, he, hO, hi⟩ := S0
    have o0 : F (K 1) = _ := hO
    have c1o := c1.2.1
    have m1 := lS 1 (by omega)
    have m2 := lS 2 (by omega)
    have m4 := lS 4 (by omega)
    have m8 := lS 8 (by omega)
    have c2 := c1.2.2.1.2.1
    have hR4 := hR.1
    refine z_aload_n0 hZ dX7_caves_0 ?_
    refine z_gf_X7_now hZ dX7_caves_1 fl_X7_10 (by assumption) (by assumption) ?_
    refine z_gf_X5_ring hZ dX7_caves_4 fl_X7_236 (by assumption) (by assumption) ?_
    refine z_gf_X3_caves hZ dX7_caves_7 fl_X7_244 (by assumption) (by assumption) ?_
    exact z_iret hZ rfl (Nat.le_of_ble_eq_true rfl) (Nat.le_of_ble_eq_true rfl) dX7_caves_10 (by exact ⟨rfl, rfl, rfl⟩)
  exact hgo
set_option maxRecDepth 100000 in
set_option maxHeartbeats 4000000 in
theorem m_X7_weight (l : Launch) {L : List Nat} {F : Nat → PE} {K : Nat → Nat} {v : Int → Int} {kd sv n : Int} {H Q : Int → Int → Int} {kp bf : Int → Int} (t : dr L F K v kd sv H kp Q n bf) : PM l yX7_weight cX7_weight 1 (some .int) (rm 3 0 0) L [.ref (K 0)] F (fun v9 L1 F1 => v9 = some (.int (iI (wgA v))) ∧ L = L1 ∧ F = F1) (fun _ _ _ => False) := by
  refine pm_of cd_X7_weight (by decide +kernel) (Nat.le_of_ble_eq_true rfl) (fun ZZ hZ => ?_)
  have hgo : ZZ 0 0 0 [some (.ref (K 0))] [] L F := by
    obtain ⟨fi, W, D, hb, hl, hk⟩ := t
    have l0 := hb.1.1 0 (by omega)
    have h0 := hb.2.1
    have l1 := hb.1.1 1 (by omega)
    have l26 := hb.1.1 26 (by omega)
    have h26 := hb.2.2.1.1
    have S0 : stP L F (sK K 0) v kd := by have z := hb.2.2.2.2.2.2.2 0 (by omega); rw [hl.1, hk] at z; exact z
    have rg := S0.rg
    have lS := hb.L (k := 0) (by omega)
    obtain ⟨π, hlH, hf, w, r, tt, c1, hR, hh, hA, he, hO, hi⟩ := S0
    have o0 : F (K 1) = _ := hO
    have c1o := c1.2.1
    have m1 := lS 1 (by omega)
    have m2 := lS 2 (by omega)
    have m4 := lS 4 (by omega)
    have m8 := lS 8 (by omega)
    have c2 := c1.2.2.1.2.1
    have hR4 := hR.1
    refine z_aload_n0 hZ dX7_weight_0 ?_
    refine z_gf_X7_now hZ dX7_weight_1 fl_X7_10 (by assumption) (by assumption) ?_
    refine z_gf_X5_ring hZ dX7_weight_4 fl_X7_236 (by assumption) (by assumption) ?_
    refine z_cV hZ (As := []) rfl dX7_weight_7 ml_X7_260 wy_X3_allCodes (m_X3_allCodes l lS hR) (by assumption) (by assumption) rfl ⟨Nat.le_of_ble_eq_true rfl, Nat.le_of_ble_eq_true rfl⟩ ⟨Nat.le_of_ble_eq_true rfl, Nat.le_of_ble_eq_true rfl⟩ (Nat.le_of_ble_eq_true rfl) (fun _ _ _ h => h.elim) (fun v7 L7 G7 hp7 => ?_)
    obtain ⟨rfl, rfl, rfl⟩ := hp7
    exact z_iret hZ rfl (Nat.le_of_ble_eq_true rfl) (Nat.le_of_ble_eq_true rfl) dX7_weight_10 (by exact ⟨pv (smH_cg _ (fun i i0 i1 => (hh i i0 (by omega)).1)), rfl, rfl⟩)
  exact hgo
set_option maxRecDepth 100000 in
set_option maxHeartbeats 4000000 in
theorem m_X7_killed (l : Launch) {L : List Nat} {F : Nat → PE} {K : Nat → Nat} {v : Int → Int} {kd sv n : Int} {H Q : Int → Int → Int} {kp bf : Int → Int} (t : dr L F K v kd sv H kp Q n bf) : PM l yX7_killed cX7_killed 1 (some .int) (rm 1 0 0) L [.ref (K 0)] F (fun v9 L1 F1 => v9 = some (.int (iI (v 6))) ∧ L = L1 ∧ F = F1) (fun _ _ _ => False) := by
  refine pm_of cd_X7_killed (by decide +kernel) (Nat.le_of_ble_eq_true rfl) (fun ZZ hZ => ?_)
  have hgo : ZZ 0 0 0 [some (.ref (K 0))] [] L F := by
    obtain ⟨fi, W, D, hb, hl, hk⟩ := t
    have l0 := hb.1.1 0 (by omega)
    have h0 := hb.2.1
    have l1 := hb.1.1 1 (by omega)
    have l26 := hb.1.1 26 (by omega)
    have h26 := hb.2.2.1.1
    have S0 : stP L F (sK K 0) v kd := by have z := hb.2.2.2.2.2.2.2 0 (by omega); rw [hl.1, hk] at z; exact z
    have rg := S0.rg
    have lS := hb.L (k := 0) (by omega)
    obtain ⟨π, hlH, hf, w, r, tt, c1, hR, hh, hA, he, hO, hi⟩ := S0
    have o0 : F (K 1) = _ := hO
    have c1o := c1.2.1
    have m1 := lS 1 (by omega)
    have m2 := lS 2 (by omega)
    have m4 := lS 4 (by omega)
    have m8 := lS 8 (by omega)
    have c2 := c1.2.2.1.2.1
    have hR4 := hR.1
    refine z_aload_n0 hZ dX7_killed_0 ?_
    refine z_gf_X7_now hZ dX7_killed_1 fl_X7_10 (by assumption) (by assumption) ?_
    refine z_gf_X5_accounts hZ dX7_killed_4 fl_X7_266 (by assumption) (by assumption) ?_
    refine z_gf_X0_killed hZ dX7_killed_7 fl_X7_270 (by assumption) (by assumption) ?_
    exact z_iret hZ rfl (Nat.le_of_ble_eq_true rfl) (Nat.le_of_ble_eq_true rfl) dX7_killed_10 (by exact ⟨rfl, rfl, rfl⟩)
  exact hgo
set_option maxRecDepth 100000 in
set_option maxHeartbeats 4000000 in
theorem m_X7_yanked (l : Launch) {L : List Nat} {F : Nat → PE} {K : Nat → Nat} {v : Int → Int} {kd sv n : Int} {H Q : Int → Int → Int} {kp bf : Int → Int} (t : dr L F K v kd sv H kp Q n bf) : PM l yX7_yanked cX7_yanked 1 (some .int) (rm 1 0 0) L [.ref (K 0)] F (fun v9 L1 F1 => v9 = some (.int (iI (v 7))) ∧ L = L1 ∧ F = F1) (fun _ _ _ => False) := by
  refine pm_of cd_X7_yanked (by decide +kernel) (Nat.le_of_ble_eq_true rfl) (fun ZZ hZ => ?_)
  have hgo : ZZ 0 0 0 [some (.ref (K 0))] [] L F := by
    obtain ⟨fi, W, D, hb, hl, hk⟩ := t
    have l0 := hb.1.1 0 (by omega)
    have h0 := hb.2.1
    have l1 := hb.1.1 1 (by omega)
    have l26 := hb.1.1 26 (by omega)
    have h26 := hb.2.2.1.1
    have S0 : stP L F (sK K 0) v kd := by have z := hb.2.2.2.2.2.2.2 0 (by omega); rw [hl.1, hk] at z; exact z
    have rg := S0.rg
    have lS := hb.L (k := 0) (by omega)
    obtain ⟨π, hlH, hf, w, r, tt, c1, hR, hh, hA, he, hO, hi⟩ := S0
    have o0 : F (K 1) = _ := hO
    have c1o := c1.2.1
    have m1 := lS 1 (by omega)
    have m2 := lS 2 (by omega)
    have m4 := lS 4 (by omega)
    have m8 := lS 8 (by omega)
    have c2 := c1.2.2.1.2.1
    have hR4 := hR.1
    refine z_aload_n0 hZ dX7_yanked_0 ?_
    refine z_gf_X7_now hZ dX7_yanked_1 fl_X7_10 (by assumption) (by assumption) ?_
    refine z_gf_X5_accounts hZ dX7_yanked_4 fl_X7_266 (by assumption) (by assumption) ?_
    refine z_gf_X0_yanked hZ dX7_yanked_7 fl_X7_275 (by assumption) (by assumption) ?_
    exact z_iret hZ rfl (Nat.le_of_ble_eq_true rfl) (Nat.le_of_ble_eq_true rfl) dX7_yanked_10 (by exact ⟨rfl, rfl, rfl⟩)
  exact hgo
set_option maxRecDepth 100000 in
set_option maxHeartbeats 4000000 in
theorem m_X7_written (l : Launch) {L : List Nat} {F : Nat → PE} {K : Nat → Nat} {v : Int → Int} {kd sv n : Int} {H Q : Int → Int → Int} {kp bf : Int → Int} (t : dr L F K v kd sv H kp Q n bf) : PM l yX7_written cX7_written 1 (some .int) (rm 1 0 0) L [.ref (K 0)] F (fun v9 L1 F1 => v9 = some (.int (iI (v 8))) ∧ L = L1 ∧ F = F1) (fun _ _ _ => False) := by
  refine pm_of cd_X7_written (by decide +kernel) (Nat.le_of_ble_eq_true rfl) (fun ZZ hZ => ?_)
  have hgo : ZZ 0 0 0 [some (.ref (K 0))] [] L F := by
    obtain ⟨fi, W, D, hb, hl, hk⟩ := t
    have l0 := hb.1.1 0 (by omega)
    have h0 := hb.2.1
    have l1 := hb.1.1 1 (by omega)
    have l26 := hb.1.1 26 (by omega)
    have h26 := hb.2.2.1.1
    have S0 : stP L F (sK K 0) v kd := by have z := hb.2.2.2.2.2.2.2 0 (by omega); rw [hl.1, hk] at z; exact z
    have rg := S0.rg
    have lS := hb.L (k := 0) (by omega)
    obtain ⟨π, hlH, hf, w, r, tt, c1, hR, hh, hA, he, hO, hi⟩ := S0
    have o0 : F (K 1) = _ := hO
    have c1o := c1.2.1
    have m1 := lS 1 (by omega)
    have m2 := lS 2 (by omega)
    have m4 := lS 4 (by omega)
    have m8 := lS 8 (by omega)
    have c2 := c1.2.2.1.2.1
    have hR4 := hR.1
    refine z_aload_n0 hZ dX7_written_0 ?_
    refine z_gf_X7_now hZ dX7_written_1 fl_X7_10 (by assumption) (by assumption) ?_
    refine z_gf_X5_accounts hZ dX7_written_4 fl_X7_266 (by assumption) (by assumption) ?_
    refine z_gf_X0_written hZ dX7_written_7 fl_X7_278 (by assumption) (by assumption) ?_
    refine z_aload_n0 hZ dX7_written_10 ?_
    refine z_gf_X7_now hZ dX7_written_11 fl_X7_10 (by assumption) (by assumption) ?_
    refine z_gf_X5_accounts hZ dX7_written_14 fl_X7_266 (by assumption) (by assumption) ?_
    refine z_gf_X0_rubbed hZ dX7_written_17 fl_X7_281 (by assumption) (by assumption) ?_
    refine z_iadd hZ dX7_written_20 ?_
    exact z_iret hZ rfl (Nat.le_of_ble_eq_true rfl) (Nat.le_of_ble_eq_true rfl) dX7_written_21 (by exact ⟨pv he.1.symm, rfl, rfl⟩)
  exact hgo
set_option maxRecDepth 100000 in
set_option maxHeartbeats 4000000 in
theorem m_X7_lostHoards (l : Launch) {L : List Nat} {F : Nat → PE} {K : Nat → Nat} {v : Int → Int} {kd sv n : Int} {H Q : Int → Int → Int} {kp bf : Int → Int} (t : dr L F K v kd sv H kp Q n bf) : PM l yX7_lostHoards cX7_lostHoards 1 (some .int) (rm 1 0 0) L [.ref (K 0)] F (fun v9 L1 F1 => v9 = some (.int (iI (v 9))) ∧ L = L1 ∧ F = F1) (fun _ _ _ => False) := by
  refine pm_of cd_X7_lostHoards (by decide +kernel) (Nat.le_of_ble_eq_true rfl) (fun ZZ hZ => ?_)
  have hgo : ZZ 0 0 0 [some (.ref (K 0))] [] L F := by
    obtain ⟨fi, W, D, hb, hl, hk⟩ := t
    have l0 := hb.1.1 0 (by omega)
    have h0 := hb.2.1
    have l1 := hb.1.1 1 (by omega)
    have l26 := hb.1.1 26 (by omega)
    have h26 := hb.2.2.1.1
    have S0 : stP L F (sK K 0) v kd := by have z := hb.2.2.2.2.2.2.2 0 (by omega); rw [hl.1, hk] at z; exact z
    have rg := S0.rg
    have lS := hb.L (k := 0) (by omega)
    obtain ⟨π, hlH, hf, w, r, tt, c1, hR, hh, hA, he, hO, hi⟩ := S0
    have o0 : F (K 1) = _ := hO
    have c1o := c1.2.1
    have m1 := lS 1 (by omega)
    have m2 := lS 2 (by omega)
    have m4 := lS 4 (by omega)
    have m8 := lS 8 (by omega)
    have c2 := c1.2.2.1.2.1
    have hR4 := hR.1
    refine z_aload_n0 hZ dX7_lostHoards_0 ?_
    refine z_gf_X7_now hZ dX7_lostHoards_1 fl_X7_10 (by assumption) (by assumption) ?_
    refine z_gf_X5_accounts hZ dX7_lostHoards_4 fl_X7_266 (by assumption) (by assumption) ?_
    refine z_gf_X0_lost hZ dX7_lostHoards_7 fl_X7_284 (by assumption) (by assumption) ?_
    exact z_iret hZ rfl (Nat.le_of_ble_eq_true rfl) (Nat.le_of_ble_eq_true rfl) dX7_lostHoards_10 (by exact ⟨rfl, rfl, rfl⟩)
  exact hgo
set_option maxRecDepth 100000 in
set_option maxHeartbeats 4000000 in
theorem m_X7_lengthByAccount (l : Launch) {L : List Nat} {F : Nat → PE} {K : Nat → Nat} {v : Int → Int} {kd sv n : Int} {H Q : Int → Int → Int} {kp bf : Int → Int} (t : dr L F K v kd sv H kp Q n bf) : PM l yX7_lengthByAccount cX7_lengthByAccount 1 (some .int) (rm 2 0 0) L [.ref (K 0)] F (fun v9 L1 F1 => v9 = some (.int (iI (v 0))) ∧ L = L1 ∧ F = F1) (fun _ _ _ => False) := by
  refine pm_of cd_X7_lengthByAccount (by decide +kernel) (Nat.le_of_ble_eq_true rfl) (fun ZZ hZ => ?_)
  have hgo : ZZ 0 0 0 [some (.ref (K 0))] [] L F := by
    obtain ⟨fi, W, D, hb, hl, hk⟩ := t
    have l0 := hb.1.1 0 (by omega)
    have h0 := hb.2.1
    have l1 := hb.1.1 1 (by omega)
    have l26 := hb.1.1 26 (by omega)
    have h26 := hb.2.2.1.1
    have S0 : stP L F (sK K 0) v kd := by have z := hb.2.2.2.2.2.2.2 0 (by omega); rw [hl.1, hk] at z; exact z
    have rg := S0.rg
    have lS := hb.L (k := 0) (by omega)
    obtain ⟨π, hlH, hf, w, r, tt, c1, hR, hh, hA, he, hO, hi⟩ := S0
    have o0 : F (K 1) = _ := hO
    have c1o := c1.2.1
    have m1 := lS 1 (by omega)
    have m2 := lS 2 (by omega)
    have m4 := lS 4 (by omega)
    have m8 := lS 8 (by omega)
    have c2 := c1.2.2.1.2.1
    have hR4 := hR.1
    refine z_aload_n0 hZ dX7_lengthByAccount_0 ?_
    refine z_gf_X7_now hZ dX7_lengthByAccount_1 fl_X7_10 (by assumption) (by assumption) ?_
    refine z_gf_X5_accounts hZ dX7_lengthByAccount_4 fl_X7_266 (by assumption) (by assumption) ?_
    refine z_cV hZ (As := []) rfl dX7_lengthByAccount_7 ml_X7_287 wy_X0_balance (m_X0_balance l m8 hA) (by assumption) (by assumption) rfl ⟨Nat.le_of_ble_eq_true rfl, Nat.le_of_ble_eq_true rfl⟩ ⟨Nat.le_of_ble_eq_true rfl, Nat.le_of_ble_eq_true rfl⟩ (Nat.le_of_ble_eq_true rfl) (fun _ _ _ h => h.elim) (fun v7 L7 G7 hp7 => ?_)
    obtain ⟨rfl, rfl, rfl⟩ := hp7
    exact z_iret hZ rfl (Nat.le_of_ble_eq_true rfl) (Nat.le_of_ble_eq_true rfl) dX7_lengthByAccount_10 (by exact ⟨pv (by omega), rfl, rfl⟩)
  exact hgo
set_option maxRecDepth 100000 in
set_option maxHeartbeats 4000000 in
theorem m_X7_codeAt (l : Launch) {L : List Nat} {F : Nat → PE} {K : Nat → Nat} {v : Int → Int} {kd sv n : Int} {H Q : Int → Int → Int} {kp bf : Int → Int} (hfl : l.flags = flags0) (t : dr L F K v kd sv H kp Q n bf) {x : Int} (hx : -2147483648 ≤ x ∧ x ≤ 2147483647) : PM l yX7_codeAt cX7_codeAt 2 (some .int) (rm 7 1 6) L [.ref (K 0), .int (iI x)] F (fun v9 L1 F1 => (0 ≤ x ∧ x < v 0) ∧ v9 = some (.int (iI (v (18 + x)))) ∧ L = L1 ∧ F = F1) (fun E L1 F1 => E = xB ∧ ¬ (0 ≤ x ∧ x < v 0) ∧ L = L1 ∧ F = F1) := by
  refine pm_of cd_X7_codeAt (by decide +kernel) (Nat.le_of_ble_eq_true rfl) (fun ZZ hZ => ?_)
  have hgo : ZZ 0 0 0 [some (.ref (K 0)), some (.int (iI x))] [] L F := by
    obtain ⟨fi, W, D, hb, hl, hk⟩ := t
    have l0 := hb.1.1 0 (by omega)
    have h0 := hb.2.1
    have l1 := hb.1.1 1 (by omega)
    have l26 := hb.1.1 26 (by omega)
    have h26 := hb.2.2.1.1
    have S0 : stP L F (sK K 0) v kd := by have z := hb.2.2.2.2.2.2.2 0 (by omega); rw [hl.1, hk] at z; exact z
    have rg := S0.rg
    have lS := hb.L (k := 0) (by omega)
    obtain ⟨π, hlH, hf, w, r, tt, c1, hR, hh, hA, he, hO, hi⟩ := S0
    have o0 : F (K 1) = _ := hO
    have c1o := c1.2.1
    have m1 := lS 1 (by omega)
    have m2 := lS 2 (by omega)
    have m4 := lS 4 (by omega)
    have m8 := lS 8 (by omega)
    have c2 := c1.2.2.1.2.1
    have hR4 := hR.1
    have hcs : (((0 ≤ x ∧ x < v 0)) ∧ cdA (v 0) (fT v) x = v (18 + x) ∧ 0 ≤ v (18 + x) ∧ v (18 + x) ≤ 100000) ∨ (¬ ((0 ≤ x ∧ x < v 0)) ∧ cdA (v 0) (fT v) x = -1) := by
      by_cases q : (0 ≤ x ∧ x < v 0)
      · exact Or.inl ⟨q, cdA_in q, by have := c1.2.2.1.2.2.2.2 x q.1 q.2; unfold fT at this; omega, by have := c1.2.2.1.2.2.2.2 x q.1 q.2; unfold fT at this; omega⟩
      · exact Or.inr ⟨q, if_neg q⟩
    refine z_aload_n0 hZ dX7_codeAt_0 ?_
    refine z_gf_X7_now hZ dX7_codeAt_1 fl_X7_10 (by assumption) (by assumption) ?_
    refine z_gf_X5_scroll hZ dX7_codeAt_4 fl_X7_68 (by assumption) (by assumption) ?_
    refine z_gf_X4_text hZ dX7_codeAt_7 fl_X7_72 (by assumption) (by assumption) ?_
    refine z_iload_n1 hZ dX7_codeAt_10 ?_
    refine z_cV hZ (As := [_]) rfl dX7_codeAt_11 ml_X7_160 wy_X6_code (m_X6_code l c1.2.2.1 (by omega)) (by assumption) (by assumption) rfl ⟨Nat.le_of_ble_eq_true rfl, Nat.le_of_ble_eq_true rfl⟩ ⟨Nat.le_of_ble_eq_true rfl, Nat.le_of_ble_eq_true rfl⟩ (Nat.le_of_ble_eq_true rfl) (fun _ _ _ h => h.elim) (fun v11 L11 G11 hp11 => ?_)
    obtain ⟨rfl, rfl, rfl⟩ := hp11
    obtain ⟨a, hae⟩ : ∃ a, a = cdA (v 0) (fT v) x := ⟨_, rfl⟩
    rw [← hae]
    have hcs : ((0 ≤ x ∧ x < v 0) ∧ a = v (18 + x) ∧ 0 ≤ v (18 + x) ∧ v (18 + x) ≤ 100000) ∨ (¬ ((0 ≤ x ∧ x < v 0)) ∧ a = -1) := by rw [hae]; exact hcs
    refine z_cS hZ (As := [_]) rfl dX7_codeAt_14 ml_X7_202 wy_X7_existing (m_X7_existing l (a := a) hfl (by omega)) ⟨Nat.le_of_ble_eq_true rfl, Nat.le_of_ble_eq_true rfl⟩ ⟨Nat.le_of_ble_eq_true rfl, Nat.le_of_ble_eq_true rfl⟩ (Nat.le_of_ble_eq_true rfl) (fun _ _ _ h => ⟨h.1, by omega, h.2.2⟩) (fun v14 L14 G14 hp14 => ?_)
    obtain ⟨rfl, hne, rfl, rfl⟩ := hp14
    exact z_iret hZ rfl (Nat.le_of_ble_eq_true rfl) (Nat.le_of_ble_eq_true rfl) dX7_codeAt_17 (by
            have z := hcs.resolve_right (fun z => hne z.2)
            exact ⟨z.1, pv (by omega), rfl, rfl⟩)
  exact hgo
set_option maxRecDepth 100000 in
set_option maxHeartbeats 4000000 in
theorem m_X7_markAt (l : Launch) {L : List Nat} {F : Nat → PE} {K : Nat → Nat} {v : Int → Int} {kd sv n : Int} {H Q : Int → Int → Int} {kp bf : Int → Int} (hfl : l.flags = flags0) (t : dr L F K v kd sv H kp Q n bf) : PM l yX7_markAt cX7_markAt 1 (some .int) (rm 7 1 6) L [.ref (K 0)] F (fun v9 L1 F1 => v 2 ≠ -1 ∧ v9 = some (.int (iI (v 2))) ∧ L = L1 ∧ F = F1) (fun E L1 F1 => E = xS ∧ ¬ (v 2 ≠ -1) ∧ L = L1 ∧ F = F1) := by
  refine pm_of cd_X7_markAt (by decide +kernel) (Nat.le_of_ble_eq_true rfl) (fun ZZ hZ => ?_)
  have hgo : ZZ 0 0 0 [some (.ref (K 0))] [] L F := by
    obtain ⟨fi, W, D, hb, hl, hk⟩ := t
    have l0 := hb.1.1 0 (by omega)
    have h0 := hb.2.1
    have l1 := hb.1.1 1 (by omega)
    have l26 := hb.1.1 26 (by omega)
    have h26 := hb.2.2.1.1
    have S0 : stP L F (sK K 0) v kd := by have z := hb.2.2.2.2.2.2.2 0 (by omega); rw [hl.1, hk] at z; exact z
    have rg := S0.rg
    have lS := hb.L (k := 0) (by omega)
    obtain ⟨π, hlH, hf, w, r, tt, c1, hR, hh, hA, he, hO, hi⟩ := S0
    have o0 : F (K 1) = _ := hO
    have c1o := c1.2.1
    have m1 := lS 1 (by omega)
    have m2 := lS 2 (by omega)
    have m4 := lS 4 (by omega)
    have m8 := lS 8 (by omega)
    have c2 := c1.2.2.1.2.1
    have hR4 := hR.1
    have hcs : ((v 2 ≠ -1) ∧ v 2 = v 2 ∧ 0 ≤ v 2 ∧ v 2 ≤ 100000) ∨ (¬ (v 2 ≠ -1) ∧ v 2 = -1) := by
      by_cases q : v 2 ≠ -1
      · exact Or.inl ⟨q, rfl, by omega, by omega⟩
      · exact Or.inr ⟨q, by omega⟩
    refine z_aload_n0 hZ dX7_markAt_0 ?_
    refine z_gf_X7_now hZ dX7_markAt_1 fl_X7_10 (by assumption) (by assumption) ?_
    refine z_gf_X5_scroll hZ dX7_markAt_4 fl_X7_68 (by assumption) (by assumption) ?_
    refine z_gf_X4_mark hZ dX7_markAt_7 fl_X7_209 (by assumption) (by assumption) ?_
    obtain ⟨a, hae⟩ : ∃ a, a = v 2 := ⟨_, rfl⟩
    rw [← hae]
    have hcs : (v 2 ≠ -1 ∧ a = v 2 ∧ 0 ≤ v 2 ∧ v 2 ≤ 100000) ∨ (¬ (v 2 ≠ -1) ∧ a = -1) := by rw [hae]; exact hcs
    refine z_cS hZ (As := [_]) rfl dX7_markAt_10 ml_X7_212 wy_X7_possible (m_X7_possible l (a := a) hfl (by omega)) ⟨Nat.le_of_ble_eq_true rfl, Nat.le_of_ble_eq_true rfl⟩ ⟨Nat.le_of_ble_eq_true rfl, Nat.le_of_ble_eq_true rfl⟩ (Nat.le_of_ble_eq_true rfl) (fun _ _ _ h => ⟨h.1, by omega, h.2.2⟩) (fun v10 L10 G10 hp10 => ?_)
    obtain ⟨rfl, hne, rfl, rfl⟩ := hp10
    exact z_iret hZ rfl (Nat.le_of_ble_eq_true rfl) (Nat.le_of_ble_eq_true rfl) dX7_markAt_13 (by
            have z := hcs.resolve_right (fun z => hne z.2)
            exact ⟨z.1, pv (by omega), rfl, rfl⟩)
  exact hgo
set_option maxRecDepth 100000 in
set_option maxHeartbeats 4000000 in
theorem m_X7_between (l : Launch) {L : List Nat} {F : Nat → PE} {K : Nat → Nat} {v : Int → Int} {kd sv n : Int} {H Q : Int → Int → Int} {kp bf : Int → Int} (hfl : l.flags = flags0) (t : dr L F K v kd sv H kp Q n bf) : PM l yX7_between cX7_between 1 (some .int) (rm 7 1 6) L [.ref (K 0)] F (fun v9 L1 F1 => v 2 ≠ -1 ∧ v9 = some (.int (iI (abI (v 2 - v 1)))) ∧ L = L1 ∧ F = F1) (fun E L1 F1 => E = xS ∧ ¬ (v 2 ≠ -1) ∧ L = L1 ∧ F = F1) := by
  refine pm_of cd_X7_between (by decide +kernel) (Nat.le_of_ble_eq_true rfl) (fun ZZ hZ => ?_)
  have hgo : ZZ 0 0 0 [some (.ref (K 0))] [] L F := by
    obtain ⟨fi, W, D, hb, hl, hk⟩ := t
    have l0 := hb.1.1 0 (by omega)
    have h0 := hb.2.1
    have l1 := hb.1.1 1 (by omega)
    have l26 := hb.1.1 26 (by omega)
    have h26 := hb.2.2.1.1
    have S0 : stP L F (sK K 0) v kd := by have z := hb.2.2.2.2.2.2.2 0 (by omega); rw [hl.1, hk] at z; exact z
    have rg := S0.rg
    have lS := hb.L (k := 0) (by omega)
    obtain ⟨π, hlH, hf, w, r, tt, c1, hR, hh, hA, he, hO, hi⟩ := S0
    have o0 : F (K 1) = _ := hO
    have c1o := c1.2.1
    have m1 := lS 1 (by omega)
    have m2 := lS 2 (by omega)
    have m4 := lS 4 (by omega)
    have m8 := lS 8 (by omega)
    have c2 := c1.2.2.1.2.1
    have hR4 := hR.1
    have hcs : ((v 2 ≠ -1) ∧ fmA (v 2) (v 1) = abI (v 2 - v 1) ∧ 0 ≤ abI (v 2 - v 1) ∧ abI (v 2 - v 1) ≤ 100000) ∨ (¬ (v 2 ≠ -1) ∧ fmA (v 2) (v 1) = -1) := by
      by_cases q : v 2 ≠ -1
      · exact Or.inl ⟨q, if_neg q, (abI_rg (by omega)).1, Int.le_trans (abI_rg (by omega)).2 (by decide)⟩
      · exact Or.inr ⟨q, if_pos (by omega)⟩
    refine z_aload_n0 hZ dX7_between_0 ?_
    refine z_gf_X7_now hZ dX7_between_1 fl_X7_10 (by assumption) (by assumption) ?_
    refine z_gf_X5_scroll hZ dX7_between_4 fl_X7_68 (by assumption) (by assumption) ?_
    refine z_cV hZ (As := []) rfl dX7_between_7 ml_X7_215 wy_X4_fromMark (m_X4_fromMark l c1) (by assumption) (by assumption) rfl ⟨Nat.le_of_ble_eq_true rfl, Nat.le_of_ble_eq_true rfl⟩ ⟨Nat.le_of_ble_eq_true rfl, Nat.le_of_ble_eq_true rfl⟩ (Nat.le_of_ble_eq_true rfl) (fun _ _ _ h => h.elim) (fun v7 L7 G7 hp7 => ?_)
    obtain ⟨rfl, rfl, rfl⟩ := hp7
    obtain ⟨a, hae⟩ : ∃ a, a = fmA (v 2) (v 1) := ⟨_, rfl⟩
    rw [← hae]
    have hcs : (v 2 ≠ -1 ∧ a = abI (v 2 - v 1) ∧ 0 ≤ abI (v 2 - v 1) ∧ abI (v 2 - v 1) ≤ 100000) ∨ (¬ (v 2 ≠ -1) ∧ a = -1) := by rw [hae]; exact hcs
    refine z_cS hZ (As := [_]) rfl dX7_between_10 ml_X7_212 wy_X7_possible (m_X7_possible l (a := a) hfl (by omega)) ⟨Nat.le_of_ble_eq_true rfl, Nat.le_of_ble_eq_true rfl⟩ ⟨Nat.le_of_ble_eq_true rfl, Nat.le_of_ble_eq_true rfl⟩ (Nat.le_of_ble_eq_true rfl) (fun _ _ _ h => ⟨h.1, by omega, h.2.2⟩) (fun v10 L10 G10 hp10 => ?_)
    obtain ⟨rfl, hne, rfl, rfl⟩ := hp10
    exact z_iret hZ rfl (Nat.le_of_ble_eq_true rfl) (Nat.le_of_ble_eq_true rfl) dX7_between_13 (by
            have z := hcs.resolve_right (fun z => hne z.2)
            exact ⟨z.1, pv (by omega), rfl, rfl⟩)
  exact hgo
set_option maxRecDepth 100000 in
set_option maxHeartbeats 4000000 in
theorem m_X7_lengthOf (l : Launch) {L : List Nat} {F : Nat → PE} {K : Nat → Nat} {v : Int → Int} {kd sv n : Int} {H Q : Int → Int → Int} {kp bf : Int → Int} (hfl : l.flags = flags0) (t : dr L F K v kd sv H kp Q n bf) {x : Int} (hx : -2147483648 ≤ x ∧ x ≤ 2147483647) : PM l yX7_lengthOf cX7_lengthOf 2 (some .int) (rm 7 1 6) L [.ref (K 0), .int (iI x)] F (fun v9 L1 F1 => (0 ≤ x ∧ x < v 3) ∧ v9 = some (.int (iI (v (10 + x)))) ∧ L = L1 ∧ F = F1) (fun E L1 F1 => E = xB ∧ ¬ (0 ≤ x ∧ x < v 3) ∧ L = L1 ∧ F = F1) := by
  refine pm_of cd_X7_lengthOf (by decide +kernel) (Nat.le_of_ble_eq_true rfl) (fun ZZ hZ => ?_)
  have hgo : ZZ 0 0 0 [some (.ref (K 0)), some (.int (iI x))] [] L F := by
    obtain ⟨fi, W, D, hb, hl, hk⟩ := t
    have l0 := hb.1.1 0 (by omega)
    have h0 := hb.2.1
    have l1 := hb.1.1 1 (by omega)
    have l26 := hb.1.1 26 (by omega)
    have h26 := hb.2.2.1.1
    have S0 : stP L F (sK K 0) v kd := by have z := hb.2.2.2.2.2.2.2 0 (by omega); rw [hl.1, hk] at z; exact z
    have rg := S0.rg
    have lS := hb.L (k := 0) (by omega)
    obtain ⟨π, hlH, hf, w, r, tt, c1, hR, hh, hA, he, hO, hi⟩ := S0
    have o0 : F (K 1) = _ := hO
    have c1o := c1.2.1
    have m1 := lS 1 (by omega)
    have m2 := lS 2 (by omega)
    have m4 := lS 4 (by omega)
    have m8 := lS 8 (by omega)
    have c2 := c1.2.2.1.2.1
    have hR4 := hR.1
    have hcs : (((0 ≤ x ∧ x < v 3)) ∧ loH (v 3) hlH x = v (10 + x) ∧ 0 ≤ v (10 + x) ∧ v (10 + x) ≤ 100000) ∨ (¬ ((0 ≤ x ∧ x < v 3)) ∧ loH (v 3) hlH x = -1) := by
      by_cases q : (0 ≤ x ∧ x < v 3)
      · exact Or.inl ⟨q, (if_pos q).trans (hh x q.1 q.2).1, by have := hi.1 x q.1 q.2; omega, by have := hi.1 x q.1 q.2; omega⟩
      · exact Or.inr ⟨q, if_neg q⟩
    refine z_aload_n0 hZ dX7_lengthOf_0 ?_
    refine z_gf_X7_now hZ dX7_lengthOf_1 fl_X7_10 (by assumption) (by assumption) ?_
    refine z_gf_X5_ring hZ dX7_lengthOf_4 fl_X7_236 (by assumption) (by assumption) ?_
    refine z_iload_n1 hZ dX7_lengthOf_7 ?_
    refine z_cV hZ (As := [_]) rfl dX7_lengthOf_8 ml_X7_247 wy_X3_countAt (m_X3_countAt l lS hR (by omega)) (by assumption) (by assumption) rfl ⟨Nat.le_of_ble_eq_true rfl, Nat.le_of_ble_eq_true rfl⟩ ⟨Nat.le_of_ble_eq_true rfl, Nat.le_of_ble_eq_true rfl⟩ (Nat.le_of_ble_eq_true rfl) (fun _ _ _ h => h.elim) (fun v8 L8 G8 hp8 => ?_)
    obtain ⟨rfl, rfl, rfl⟩ := hp8
    obtain ⟨a, hae⟩ : ∃ a, a = loH (v 3) hlH x := ⟨_, rfl⟩
    rw [← hae]
    have hcs : ((0 ≤ x ∧ x < v 3) ∧ a = v (10 + x) ∧ 0 ≤ v (10 + x) ∧ v (10 + x) ≤ 100000) ∨ (¬ ((0 ≤ x ∧ x < v 3)) ∧ a = -1) := by rw [hae]; exact hcs
    refine z_cS hZ (As := [_]) rfl dX7_lengthOf_11 ml_X7_202 wy_X7_existing (m_X7_existing l (a := a) hfl (by omega)) ⟨Nat.le_of_ble_eq_true rfl, Nat.le_of_ble_eq_true rfl⟩ ⟨Nat.le_of_ble_eq_true rfl, Nat.le_of_ble_eq_true rfl⟩ (Nat.le_of_ble_eq_true rfl) (fun _ _ _ h => ⟨h.1, by omega, h.2.2⟩) (fun v11 L11 G11 hp11 => ?_)
    obtain ⟨rfl, hne, rfl, rfl⟩ := hp11
    exact z_iret hZ rfl (Nat.le_of_ble_eq_true rfl) (Nat.le_of_ble_eq_true rfl) dX7_lengthOf_14 (by
            have z := hcs.resolve_right (fun z => hne z.2)
            exact ⟨z.1, pv (by omega), rfl, rfl⟩)
  exact hgo
set_option maxRecDepth 100000 in
set_option maxHeartbeats 4000000 in
theorem m_X7_nextHoard (l : Launch) {L : List Nat} {F : Nat → PE} {K : Nat → Nat} {v : Int → Int} {kd sv n : Int} {H Q : Int → Int → Int} {kp bf : Int → Int} (hfl : l.flags = flags0) (t : dr L F K v kd sv H kp Q n bf) : PM l yX7_nextHoard cX7_nextHoard 1 (some .int) (rm 7 1 6) L [.ref (K 0)] F (fun v9 L1 F1 => 0 < v 3 ∧ v9 = some (.int (iI (v 4))) ∧ L = L1 ∧ F = F1) (fun E L1 F1 => E = xS ∧ ¬ (0 < v 3) ∧ L = L1 ∧ F = F1) := by
  refine pm_of cd_X7_nextHoard (by decide +kernel) (Nat.le_of_ble_eq_true rfl) (fun ZZ hZ => ?_)
  have hgo : ZZ 0 0 0 [some (.ref (K 0))] [] L F := by
    obtain ⟨fi, W, D, hb, hl, hk⟩ := t
    have l0 := hb.1.1 0 (by omega)
    have h0 := hb.2.1
    have l1 := hb.1.1 1 (by omega)
    have l26 := hb.1.1 26 (by omega)
    have h26 := hb.2.2.1.1
    have S0 : stP L F (sK K 0) v kd := by have z := hb.2.2.2.2.2.2.2 0 (by omega); rw [hl.1, hk] at z; exact z
    have rg := S0.rg
    have lS := hb.L (k := 0) (by omega)
    obtain ⟨π, hlH, hf, w, r, tt, c1, hR, hh, hA, he, hO, hi⟩ := S0
    have o0 : F (K 1) = _ := hO
    have c1o := c1.2.1
    have m1 := lS 1 (by omega)
    have m2 := lS 2 (by omega)
    have m4 := lS 4 (by omega)
    have m8 := lS 8 (by omega)
    have c2 := c1.2.2.1.2.1
    have hR4 := hR.1
    have hcs : ((0 < v 3) ∧ nxA v = v 4 ∧ 0 ≤ v 4 ∧ v 4 ≤ 100000) ∨ (¬ (0 < v 3) ∧ nxA v = -1) := by
      by_cases q : 0 < v 3
      · exact Or.inl ⟨q, nxA_pos q, (hi.2.2.1 q).1, by have := hi.2.2.1 q; omega⟩
      · exact Or.inr ⟨q, nxA_zero q (by omega)⟩
    refine z_aload_n0 hZ dX7_nextHoard_0 ?_
    refine z_gf_X7_now hZ dX7_nextHoard_1 fl_X7_10 (by assumption) (by assumption) ?_
    refine z_gf_X5_ring hZ dX7_nextHoard_4 fl_X7_236 (by assumption) (by assumption) ?_
    refine z_gf_X3_next hZ dX7_nextHoard_7 fl_X7_254 (by assumption) (by assumption) ?_
    obtain ⟨a, hae⟩ : ∃ a, a = nxA v := ⟨_, rfl⟩
    rw [← hae]
    have hcs : (0 < v 3 ∧ a = v 4 ∧ 0 ≤ v 4 ∧ v 4 ≤ 100000) ∨ (¬ (0 < v 3) ∧ a = -1) := by rw [hae]; exact hcs
    refine z_cS hZ (As := [_]) rfl dX7_nextHoard_10 ml_X7_212 wy_X7_possible (m_X7_possible l (a := a) hfl (by omega)) ⟨Nat.le_of_ble_eq_true rfl, Nat.le_of_ble_eq_true rfl⟩ ⟨Nat.le_of_ble_eq_true rfl, Nat.le_of_ble_eq_true rfl⟩ (Nat.le_of_ble_eq_true rfl) (fun _ _ _ h => ⟨h.1, by omega, h.2.2⟩) (fun v10 L10 G10 hp10 => ?_)
    obtain ⟨rfl, hne, rfl, rfl⟩ := hp10
    exact z_iret hZ rfl (Nat.le_of_ble_eq_true rfl) (Nat.le_of_ble_eq_true rfl) dX7_nextHoard_13 (by
            have z := hcs.resolve_right (fun z => hne z.2)
            exact ⟨z.1, pv (by omega), rfl, rfl⟩)
  exact hgo
set_option maxRecDepth 100000 in
set_option maxHeartbeats 4000000 in
theorem m_X7_heaviest (l : Launch) {L : List Nat} {F : Nat → PE} {K : Nat → Nat} {v : Int → Int} {kd sv n : Int} {H Q : Int → Int → Int} {kp bf : Int → Int} (hfl : l.flags = flags0) (t : dr L F K v kd sv H kp Q n bf) : PM l yX7_heaviest cX7_heaviest 1 (some .int) (rm 7 1 6) L [.ref (K 0)] F (fun v9 L1 F1 => 0 < v 3 ∧ v9 = some (.int (iI (lgA v))) ∧ L = L1 ∧ F = F1) (fun E L1 F1 => E = xS ∧ ¬ (0 < v 3) ∧ L = L1 ∧ F = F1) := by
  refine pm_of cd_X7_heaviest (by decide +kernel) (Nat.le_of_ble_eq_true rfl) (fun ZZ hZ => ?_)
  have hgo : ZZ 0 0 0 [some (.ref (K 0))] [] L F := by
    obtain ⟨fi, W, D, hb, hl, hk⟩ := t
    have l0 := hb.1.1 0 (by omega)
    have h0 := hb.2.1
    have l1 := hb.1.1 1 (by omega)
    have l26 := hb.1.1 26 (by omega)
    have h26 := hb.2.2.1.1
    have S0 : stP L F (sK K 0) v kd := by have z := hb.2.2.2.2.2.2.2 0 (by omega); rw [hl.1, hk] at z; exact z
    have rg := S0.rg
    have lS := hb.L (k := 0) (by omega)
    obtain ⟨π, hlH, hf, w, r, tt, c1, hR, hh, hA, he, hO, hi⟩ := S0
    have o0 : F (K 1) = _ := hO
    have c1o := c1.2.1
    have m1 := lS 1 (by omega)
    have m2 := lS 2 (by omega)
    have m4 := lS 4 (by omega)
    have m8 := lS 8 (by omega)
    have c2 := c1.2.2.1.2.1
    have hR4 := hR.1
    have hcs : ((0 < v 3) ∧ lgH hlH (v 3).toNat = lgA v ∧ 0 ≤ lgA v ∧ lgA v ≤ 100000) ∨ (¬ (0 < v 3) ∧ lgH hlH (v 3).toNat = -1) := by
      by_cases q : 0 < v 3
      · have z := lgH_rg (hl := fun i => v (10 + i)) (v 3).toNat; exact Or.inl ⟨q, lgH_cg _ (fun i i0 i1 => (hh i i0 (by omega)).1), z.2.2 (by omega), by unfold lgA; omega⟩
      · exact Or.inr ⟨q, by rw [show (v 3).toNat = 0 by omega]; rfl⟩
    refine z_aload_n0 hZ dX7_heaviest_0 ?_
    refine z_gf_X7_now hZ dX7_heaviest_1 fl_X7_10 (by assumption) (by assumption) ?_
    refine z_gf_X5_ring hZ dX7_heaviest_4 fl_X7_236 (by assumption) (by assumption) ?_
    refine z_cV hZ (As := []) rfl dX7_heaviest_7 ml_X7_263 wy_X3_longestAt (m_X3_longestAt l lS hR) (by assumption) (by assumption) rfl ⟨Nat.le_of_ble_eq_true rfl, Nat.le_of_ble_eq_true rfl⟩ ⟨Nat.le_of_ble_eq_true rfl, Nat.le_of_ble_eq_true rfl⟩ (Nat.le_of_ble_eq_true rfl) (fun _ _ _ h => h.elim) (fun v7 L7 G7 hp7 => ?_)
    obtain ⟨rfl, rfl, rfl⟩ := hp7
    obtain ⟨a, hae⟩ : ∃ a, a = lgH hlH (v 3).toNat := ⟨_, rfl⟩
    rw [← hae]
    have hcs : (0 < v 3 ∧ a = lgA v ∧ 0 ≤ lgA v ∧ lgA v ≤ 100000) ∨ (¬ (0 < v 3) ∧ a = -1) := by rw [hae]; exact hcs
    refine z_cS hZ (As := [_]) rfl dX7_heaviest_10 ml_X7_212 wy_X7_possible (m_X7_possible l (a := a) hfl (by omega)) ⟨Nat.le_of_ble_eq_true rfl, Nat.le_of_ble_eq_true rfl⟩ ⟨Nat.le_of_ble_eq_true rfl, Nat.le_of_ble_eq_true rfl⟩ (Nat.le_of_ble_eq_true rfl) (fun _ _ _ h => ⟨h.1, by omega, h.2.2⟩) (fun v10 L10 G10 hp10 => ?_)
    obtain ⟨rfl, hne, rfl, rfl⟩ := hp10
    exact z_iret hZ rfl (Nat.le_of_ble_eq_true rfl) (Nat.le_of_ble_eq_true rfl) dX7_heaviest_13 (by
            have z := hcs.resolve_right (fun z => hne z.2)
            exact ⟨z.1, pv (by omega), rfl, rfl⟩)
  exact hgo
set_option maxRecDepth 100000 in
set_option maxHeartbeats 4000000 in
theorem m_X7_lengthIfYanked (l : Launch) {L : List Nat} {F : Nat → PE} {K : Nat → Nat} {v : Int → Int} {kd sv n : Int} {H Q : Int → Int → Int} {kp bf : Int → Int} (hfl : l.flags = flags0) (t : dr L F K v kd sv H kp Q n bf) {x : Int} (hx : -2147483648 ≤ x ∧ x ≤ 2147483647) : PM l yX7_lengthIfYanked cX7_lengthIfYanked 2 (some .int) (rm 7 1 6) L [.ref (K 0), .int (iI x)] F (fun v9 L1 F1 => (0 ≤ x ∧ x < v 3) ∧ v9 = some (.int (iI (v 0 + v (10 + x)))) ∧ L = L1 ∧ F = F1) (fun E L1 F1 => E = xB ∧ ¬ (0 ≤ x ∧ x < v 3) ∧ L = L1 ∧ F = F1) := by
  refine pm_of cd_X7_lengthIfYanked (by decide +kernel) (Nat.le_of_ble_eq_true rfl) (fun ZZ hZ => ?_)
  have hgo : ZZ 0 0 0 [some (.ref (K 0)), some (.int (iI x))] [] L F := by
    obtain ⟨fi, W, D, hb, hl, hk⟩ := t
    have l0 := hb.1.1 0 (by omega)
    have h0 := hb.2.1
    have l1 := hb.1.1 1 (by omega)
    have l26 := hb.1.1 26 (by omega)
    have h26 := hb.2.2.1.1
    have S0 : stP L F (sK K 0) v kd := by have z := hb.2.2.2.2.2.2.2 0 (by omega); rw [hl.1, hk] at z; exact z
    have rg := S0.rg
    have lS := hb.L (k := 0) (by omega)
    obtain ⟨π, hlH, hf, w, r, tt, c1, hR, hh, hA, he, hO, hi⟩ := S0
    have o0 : F (K 1) = _ := hO
    have c1o := c1.2.1
    have m1 := lS 1 (by omega)
    have m2 := lS 2 (by omega)
    have m4 := lS 4 (by omega)
    have m8 := lS 8 (by omega)
    have c2 := c1.2.2.1.2.1
    have hR4 := hR.1
    have hcs : (((0 ≤ x ∧ x < v 3)) ∧ loH (v 3) hlH x = v (10 + x) ∧ 0 ≤ v (10 + x) ∧ v (10 + x) ≤ 100000) ∨ (¬ ((0 ≤ x ∧ x < v 3)) ∧ loH (v 3) hlH x = -1) := by
      by_cases q : (0 ≤ x ∧ x < v 3)
      · exact Or.inl ⟨q, (if_pos q).trans (hh x q.1 q.2).1, by have := hi.1 x q.1 q.2; omega, by have := hi.1 x q.1 q.2; omega⟩
      · exact Or.inr ⟨q, if_neg q⟩
    refine z_aload_n0 hZ dX7_lengthIfYanked_0 ?_
    refine z_gf_X7_now hZ dX7_lengthIfYanked_1 fl_X7_10 (by assumption) (by assumption) ?_
    refine z_gf_X5_scroll hZ dX7_lengthIfYanked_4 fl_X7_68 (by assumption) (by assumption) ?_
    refine z_gf_X4_text hZ dX7_lengthIfYanked_7 fl_X7_72 (by assumption) (by assumption) ?_
    refine z_cV hZ (As := []) rfl dX7_lengthIfYanked_10 ml_X7_77 wy_X6_count (m_X6_count l c1.2.2.1) (by assumption) (by assumption) rfl ⟨Nat.le_of_ble_eq_true rfl, Nat.le_of_ble_eq_true rfl⟩ ⟨Nat.le_of_ble_eq_true rfl, Nat.le_of_ble_eq_true rfl⟩ (Nat.le_of_ble_eq_true rfl) (fun _ _ _ h => h.elim) (fun v10 L10 G10 hp10 => ?_)
    obtain ⟨rfl, rfl, rfl⟩ := hp10
    refine z_aload_n0 hZ dX7_lengthIfYanked_13 ?_
    refine z_gf_X7_now hZ dX7_lengthIfYanked_14 fl_X7_10 (by assumption) (by assumption) ?_
    refine z_gf_X5_ring hZ dX7_lengthIfYanked_17 fl_X7_236 (by assumption) (by assumption) ?_
    refine z_iload_n1 hZ dX7_lengthIfYanked_20 ?_
    refine z_cV hZ (As := [_]) rfl dX7_lengthIfYanked_21 ml_X7_247 wy_X3_countAt (m_X3_countAt l lS hR (by omega)) (by assumption) (by assumption) rfl ⟨Nat.le_of_ble_eq_true rfl, Nat.le_of_ble_eq_true rfl⟩ ⟨Nat.le_of_ble_eq_true rfl, Nat.le_of_ble_eq_true rfl⟩ (Nat.le_of_ble_eq_true rfl) (fun _ _ _ h => h.elim) (fun v21 L21 G21 hp21 => ?_)
    obtain ⟨rfl, rfl, rfl⟩ := hp21
    obtain ⟨a, hae⟩ : ∃ a, a = loH (v 3) hlH x := ⟨_, rfl⟩
    rw [← hae]
    have hcs : ((0 ≤ x ∧ x < v 3) ∧ a = v (10 + x) ∧ 0 ≤ v (10 + x) ∧ v (10 + x) ≤ 100000) ∨ (¬ ((0 ≤ x ∧ x < v 3)) ∧ a = -1) := by rw [hae]; exact hcs
    refine z_cS hZ (As := [_]) rfl dX7_lengthIfYanked_24 ml_X7_202 wy_X7_existing (m_X7_existing l (a := a) hfl (by omega)) ⟨Nat.le_of_ble_eq_true rfl, Nat.le_of_ble_eq_true rfl⟩ ⟨Nat.le_of_ble_eq_true rfl, Nat.le_of_ble_eq_true rfl⟩ (Nat.le_of_ble_eq_true rfl) (fun _ _ _ h => ⟨h.1, by omega, h.2.2⟩) (fun v24 L24 G24 hp24 => ?_)
    obtain ⟨rfl, hne, rfl, rfl⟩ := hp24
    refine z_iadd hZ dX7_lengthIfYanked_27 ?_
    exact z_iret hZ rfl (Nat.le_of_ble_eq_true rfl) (Nat.le_of_ble_eq_true rfl) dX7_lengthIfYanked_28 (by
            have z := hcs.resolve_right (fun z => hne z.2)
            exact ⟨z.1, pv (by omega), rfl, rfl⟩)
  exact hgo
set_option maxRecDepth 100000 in
set_option maxHeartbeats 4000000 in
theorem m_X7_isGrowing (l : Launch) {L : List Nat} {F : Nat → PE} {K : Nat → Nat} {v : Int → Int} {kd sv n : Int} {H Q : Int → Int → Int} {kp bf : Int → Int} (t : dr L F K v kd sv H kp Q n bf) : PM l yX7_isGrowing cX7_isGrowing 1 (some .boolean) (rm 1 0 0) L [.ref (K 0)] F (fun v9 L1 F1 => v9 = some (.int (iI (if kd = 1 then 1 else 0))) ∧ L = L1 ∧ F = F1) (fun _ _ _ => False) := by
  refine pm_of cd_X7_isGrowing (by decide +kernel) (Nat.le_of_ble_eq_true rfl) (fun ZZ hZ => ?_)
  have hgo : ZZ 0 0 0 [some (.ref (K 0))] [] L F := by
    obtain ⟨fi, W, D, hb, hl, hk⟩ := t
    have l0 := hb.1.1 0 (by omega)
    have h0 := hb.2.1
    have l1 := hb.1.1 1 (by omega)
    have l26 := hb.1.1 26 (by omega)
    have h26 := hb.2.2.1.1
    have S0 : stP L F (sK K 0) v kd := by have z := hb.2.2.2.2.2.2.2 0 (by omega); rw [hl.1, hk] at z; exact z
    have rg := S0.rg
    have lS := hb.L (k := 0) (by omega)
    obtain ⟨π, hlH, hf, w, r, tt, c1, hR, hh, hA, he, hO, hi⟩ := S0
    have o0 : F (K 1) = _ := hO
    have c1o := c1.2.1
    have m1 := lS 1 (by omega)
    have m2 := lS 2 (by omega)
    have m4 := lS 4 (by omega)
    have m8 := lS 8 (by omega)
    have c2 := c1.2.2.1.2.1
    have hR4 := hR.1
    have hk3 := hi.2.2.2.1
    refine z_aload_n0 hZ dX7_isGrowing_0 ?_
    refine z_gf_X7_now hZ dX7_isGrowing_1 fl_X7_10 (by assumption) (by assumption) ?_
    refine z_gf_X5_kind hZ dX7_isGrowing_4 fl_X7_257 (by assumption) (by assumption) ?_
    refine z_iconst hZ dX7_isGrowing_7 ?_
    refine z_icmp_ne hZ (tgt := 15) dX7_isGrowing_8 rfl (by omega) (fun hc8 => ?_) (fun hc8 => ?_)
    · refine z_iconst hZ dX7_isGrowing_15 ?_
      exact z_zret hZ rfl (Nat.le_of_ble_eq_true rfl) (Nat.le_of_ble_eq_true rfl) dX7_isGrowing_16 (by omega) (by exact ⟨pv (by first | exact (if_pos (by omega)).symm | exact (if_neg (by omega)).symm), rfl, rfl⟩)
    · refine z_iconst hZ dX7_isGrowing_11 ?_
      refine z_goto hZ (tgt := 16) dX7_isGrowing_12 rfl ?_
      exact z_zret hZ rfl (Nat.le_of_ble_eq_true rfl) (Nat.le_of_ble_eq_true rfl) dX7_isGrowing_16 (by omega) (by exact ⟨pv (by first | exact (if_pos (by omega)).symm | exact (if_neg (by omega)).symm), rfl, rfl⟩)
  exact hgo
set_option maxRecDepth 100000 in
set_option maxHeartbeats 4000000 in
theorem m_X7_canTurnYank (l : Launch) {L : List Nat} {F : Nat → PE} {K : Nat → Nat} {v : Int → Int} {kd sv n : Int} {H Q : Int → Int → Int} {kp bf : Int → Int} (t : dr L F K v kd sv H kp Q n bf) : PM l yX7_canTurnYank cX7_canTurnYank 1 (some .boolean) (rm 1 0 0) L [.ref (K 0)] F (fun v9 L1 F1 => v9 = some (.int (iI (if kd = 2 then 1 else 0))) ∧ L = L1 ∧ F = F1) (fun _ _ _ => False) := by
  refine pm_of cd_X7_canTurnYank (by decide +kernel) (Nat.le_of_ble_eq_true rfl) (fun ZZ hZ => ?_)
  have hgo : ZZ 0 0 0 [some (.ref (K 0))] [] L F := by
    obtain ⟨fi, W, D, hb, hl, hk⟩ := t
    have l0 := hb.1.1 0 (by omega)
    have h0 := hb.2.1
    have l1 := hb.1.1 1 (by omega)
    have l26 := hb.1.1 26 (by omega)
    have h26 := hb.2.2.1.1
    have S0 : stP L F (sK K 0) v kd := by have z := hb.2.2.2.2.2.2.2 0 (by omega); rw [hl.1, hk] at z; exact z
    have rg := S0.rg
    have lS := hb.L (k := 0) (by omega)
    obtain ⟨π, hlH, hf, w, r, tt, c1, hR, hh, hA, he, hO, hi⟩ := S0
    have o0 : F (K 1) = _ := hO
    have c1o := c1.2.1
    have m1 := lS 1 (by omega)
    have m2 := lS 2 (by omega)
    have m4 := lS 4 (by omega)
    have m8 := lS 8 (by omega)
    have c2 := c1.2.2.1.2.1
    have hR4 := hR.1
    have hk3 := hi.2.2.2.1
    refine z_aload_n0 hZ dX7_canTurnYank_0 ?_
    refine z_gf_X7_now hZ dX7_canTurnYank_1 fl_X7_10 (by assumption) (by assumption) ?_
    refine z_gf_X5_kind hZ dX7_canTurnYank_4 fl_X7_257 (by assumption) (by assumption) ?_
    refine z_iconst hZ dX7_canTurnYank_7 ?_
    refine z_icmp_ne hZ (tgt := 15) dX7_canTurnYank_8 rfl (by omega) (fun hc8 => ?_) (fun hc8 => ?_)
    · refine z_iconst hZ dX7_canTurnYank_15 ?_
      exact z_zret hZ rfl (Nat.le_of_ble_eq_true rfl) (Nat.le_of_ble_eq_true rfl) dX7_canTurnYank_16 (by omega) (by exact ⟨pv (by first | exact (if_pos (by omega)).symm | exact (if_neg (by omega)).symm), rfl, rfl⟩)
    · refine z_iconst hZ dX7_canTurnYank_11 ?_
      refine z_goto hZ (tgt := 16) dX7_canTurnYank_12 rfl ?_
      exact z_zret hZ rfl (Nat.le_of_ble_eq_true rfl) (Nat.le_of_ble_eq_true rfl) dX7_canTurnYank_16 (by omega) (by exact ⟨pv (by first | exact (if_pos (by omega)).symm | exact (if_neg (by omega)).symm), rfl, rfl⟩)
  exact hgo
set_option maxRecDepth 100000 in
set_option maxHeartbeats 4000000 in
theorem m_X7_codeIn (l : Launch) {L : List Nat} {F : Nat → PE} {K : Nat → Nat} {v : Int → Int} {kd sv n : Int} {H Q : Int → Int → Int} {kp bf : Int → Int} (hfl : l.flags = flags0) (t : dr L F K v kd sv H kp Q n bf) {x y : Int} (hx : -2147483648 ≤ x ∧ x ≤ 2147483647) (hy : -2147483648 ≤ y ∧ y ≤ 2147483647) : PM l yX7_codeIn cX7_codeIn 3 (some .int) (rm 7 1 6) L [.ref (K 0), .int (iI x), .int (iI y)] F (fun v9 L1 F1 => (0 ≤ x ∧ x < v 3 ∧ 0 ≤ y ∧ y < v (10 + x)) ∧ v9 = some (.int (iI (v (218 + 200 * x + y)))) ∧ L = L1 ∧ F = F1) (fun E L1 F1 => E = xB ∧ ¬ (0 ≤ x ∧ x < v 3 ∧ 0 ≤ y ∧ y < v (10 + x)) ∧ L = L1 ∧ F = F1) := by
  refine pm_of cd_X7_codeIn (by decide +kernel) (Nat.le_of_ble_eq_true rfl) (fun ZZ hZ => ?_)
  have hgo : ZZ 0 0 0 [some (.ref (K 0)), some (.int (iI x)), some (.int (iI y))] [] L F := by
    obtain ⟨fi, W, D, hb, hl, hk⟩ := t
    have l0 := hb.1.1 0 (by omega)
    have h0 := hb.2.1
    have l1 := hb.1.1 1 (by omega)
    have l26 := hb.1.1 26 (by omega)
    have h26 := hb.2.2.1.1
    have S0 : stP L F (sK K 0) v kd := by have z := hb.2.2.2.2.2.2.2 0 (by omega); rw [hl.1, hk] at z; exact z
    have rg := S0.rg
    have lS := hb.L (k := 0) (by omega)
    obtain ⟨π, hlH, hf, w, r, tt, c1, hR, hh, hA, he, hO, hi⟩ := S0
    have o0 : F (K 1) = _ := hO
    have c1o := c1.2.1
    have m1 := lS 1 (by omega)
    have m2 := lS 2 (by omega)
    have m4 := lS 4 (by omega)
    have m8 := lS 8 (by omega)
    have c2 := c1.2.2.1.2.1
    have hR4 := hR.1
    by_cases q : 0 ≤ x ∧ x < v 3
    · have tH := hR.tx q.1 q.2
      have hq := hh x q.1 q.2
      have lH := lS (9 + π x) (by have := (hR.2.2.2.1 x q.1 (by omega)).1; omega)
      have oH := tH.2.1
      have hcs : (0 ≤ y ∧ y < v (10 + x) ∧ cdA (hlH x) (hf x) y = v (218 + 200 * x + y) ∧ 10 ≤ v (218 + 200 * x + y) ∧ v (218 + 200 * x + y) ≤ 126) ∨ (¬ (0 ≤ y ∧ y < v (10 + x)) ∧ cdA (hlH x) (hf x) y = -1) := by
        by_cases q2 : 0 ≤ y ∧ y < hlH x
        · have z := tH.2.2.2.2 y q2.1 q2.2
          have e := hq.2 y q2.1 q2.2
          exact Or.inl ⟨q2.1, by omega, (cdA_in q2).trans e, by omega, by omega⟩
        · exact Or.inr ⟨by rw [← hq.1]; exact q2, if_neg q2⟩
      refine z_aload_n0 hZ dX7_codeIn_0 ?_
      refine z_gf_X7_now hZ dX7_codeIn_1 fl_X7_10 (by assumption) (by assumption) ?_
      refine z_gf_X5_ring hZ dX7_codeIn_4 fl_X7_236 (by assumption) (by assumption) ?_
      refine z_iload_n1 hZ dX7_codeIn_7 ?_
      refine z_cV hZ (As := [_]) rfl dX7_codeIn_8 ml_X7_250 wy_X3_hoard (m_X3_hoard l lS hR q) (by assumption) (by assumption) rfl ⟨Nat.le_of_ble_eq_true rfl, Nat.le_of_ble_eq_true rfl⟩ ⟨Nat.le_of_ble_eq_true rfl, Nat.le_of_ble_eq_true rfl⟩ (Nat.le_of_ble_eq_true rfl) (fun _ _ _ h => h.elim) (fun v8 L8 G8 hp8 => ?_)
      obtain ⟨rfl, rfl, rfl⟩ := hp8
      refine z_iload_n2 hZ dX7_codeIn_11 ?_
      refine z_cV hZ (As := [_]) rfl dX7_codeIn_12 ml_X7_160 wy_X6_code (m_X6_code l tH (by omega)) (by assumption) (by assumption) rfl ⟨Nat.le_of_ble_eq_true rfl, Nat.le_of_ble_eq_true rfl⟩ ⟨Nat.le_of_ble_eq_true rfl, Nat.le_of_ble_eq_true rfl⟩ (Nat.le_of_ble_eq_true rfl) (fun _ _ _ h => h.elim) (fun v12 L12 G12 hp12 => ?_)
      obtain ⟨rfl, rfl, rfl⟩ := hp12
      obtain ⟨a, hae⟩ : ∃ a, a = cdA (hlH x) (hf x) y := ⟨_, rfl⟩
      rw [← hae] at hcs ⊢
      refine z_cS hZ (As := [_]) rfl dX7_codeIn_15 ml_X7_202 wy_X7_existing (m_X7_existing l (a := a) hfl (by omega)) ⟨Nat.le_of_ble_eq_true rfl, Nat.le_of_ble_eq_true rfl⟩ ⟨Nat.le_of_ble_eq_true rfl, Nat.le_of_ble_eq_true rfl⟩ (Nat.le_of_ble_eq_true rfl) (fun _ _ _ h => ⟨h.1, by omega, h.2.2⟩) (fun v15 L15 G15 hp15 => ?_)
      obtain ⟨rfl, hne, rfl, rfl⟩ := hp15
      exact z_iret hZ rfl (Nat.le_of_ble_eq_true rfl) (Nat.le_of_ble_eq_true rfl) dX7_codeIn_18 (by exact ⟨by omega, pv (by omega), rfl, rfl⟩)
    · have tH := hR.2.2.1
      have lH := lS 6 (by omega)
      have oH := tH.2.1
      have e : cdA 0 (fun _ => 0) y = -1 := if_neg (by omega)
      refine z_aload_n0 hZ dX7_codeIn_0 ?_
      refine z_gf_X7_now hZ dX7_codeIn_1 fl_X7_10 (by assumption) (by assumption) ?_
      refine z_gf_X5_ring hZ dX7_codeIn_4 fl_X7_236 (by assumption) (by assumption) ?_
      refine z_iload_n1 hZ dX7_codeIn_7 ?_
      refine z_cV hZ (As := [_]) rfl dX7_codeIn_8 ml_X7_250 wy_X3_hoard (m_X3_hoard_no l lS hR q (by omega)) (by assumption) (by assumption) rfl ⟨Nat.le_of_ble_eq_true rfl, Nat.le_of_ble_eq_true rfl⟩ ⟨Nat.le_of_ble_eq_true rfl, Nat.le_of_ble_eq_true rfl⟩ (Nat.le_of_ble_eq_true rfl) (fun _ _ _ h => h.elim) (fun v8 L8 G8 hp8 => ?_)
      obtain ⟨rfl, rfl, rfl⟩ := hp8
      refine z_iload_n2 hZ dX7_codeIn_11 ?_
      refine z_cV hZ (As := [_]) rfl dX7_codeIn_12 ml_X7_160 wy_X6_code (m_X6_code l tH (by omega)) (by assumption) (by assumption) rfl ⟨Nat.le_of_ble_eq_true rfl, Nat.le_of_ble_eq_true rfl⟩ ⟨Nat.le_of_ble_eq_true rfl, Nat.le_of_ble_eq_true rfl⟩ (Nat.le_of_ble_eq_true rfl) (fun _ _ _ h => h.elim) (fun v12 L12 G12 hp12 => ?_)
      obtain ⟨rfl, rfl, rfl⟩ := hp12
      rw [e]
      refine z_cS hZ (As := [_]) rfl dX7_codeIn_15 ml_X7_202 wy_X7_existing (m_X7_existing l hfl (by omega)) ⟨Nat.le_of_ble_eq_true rfl, Nat.le_of_ble_eq_true rfl⟩ ⟨Nat.le_of_ble_eq_true rfl, Nat.le_of_ble_eq_true rfl⟩ (Nat.le_of_ble_eq_true rfl) (fun _ _ _ h => ⟨h.1, by omega, h.2.2⟩) (fun v15 L15 G15 hp15 => ?_)
      obtain ⟨rfl, hne, rfl, rfl⟩ := hp15
      exact z_iret hZ rfl (Nat.le_of_ble_eq_true rfl) (Nat.le_of_ble_eq_true rfl) dX7_codeIn_18 (by exact absurd rfl hne)
  exact hgo

