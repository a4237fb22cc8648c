/-! THE WHOLE OBJECT: K counts its cells: 0 itself; 1 .. 25 the state as it is; 26, 27 the history and its rows; 28 .. 202 seven states; 203 the slots; 204 .. 253 two states; 254 which are kept; 255, 256 the buffer. -/
def sB (k : Nat) : Nat := if k = 0 then 1 else if k < 8 then 3 + 25 * k else 4 + 25 * k
def sK (K : Nat → Nat) (k : Nat) : Nat → Nat := fun c => K (sB k + c)
def un {α : Type} (W : Nat → α) (k : Nat) (w : α) : Nat → α := fun j => if j = k then w else W j
theorem un_s {α : Type} {W : Nat → α} {k : Nat} {w : α} : un W k w k = w := if_pos rfl
theorem un_n {α : Type} {W : Nat → α} {k j : Nat} {w : α} (h : j ≠ k) : un W k w j = W j := if_neg h
def db (L : List Nat) (F : Nat → PE) (K : Nat → Nat) (fi sv : Int) (kp : Int → Int) (n : Int) (bf : Int → Int) (W : Nat → Int → Int) (D : Nat → Int) : Prop :=
  ((∀ i, i < 257 → K i ∈ L) ∧ (∀ i j, i < 257 → j < 257 → K i = K j → i = j)) ∧
  F (K 0) = eO 7 [.ref (K 1), .ref (K 26), .ref (K 203), .ref (K 254), .ref (K 255)] ∧
  (F (K 26) = eO 2 [.ref (K 27), .int (iI fi), .int (iI sv)] ∧ 0 ≤ fi ∧ fi < 7 ∧ 0 ≤ sv ∧ sv ≤ 6) ∧
  (∃ r, F (K 27) = eQ 3 7 r ∧ ∀ j : Nat, j < 7 → r (j : Int) = some (K (28 + 25 * j))) ∧
  (∃ r, F (K 203) = eQ 3 2 r ∧ ∀ j : Nat, j < 2 → r (j : Int) = some (K (204 + 25 * j))) ∧
  (F (K 254) = eI 1 2 kp ∧ (kp 0 = 0 ∨ kp 0 = 1) ∧ (kp 1 = 0 ∨ kp 1 = 1)) ∧
  tx L F (K 255) (K 256) 60 n bf ∧
  ∀ k, k < 10 → stP L F (sK K k) (W k) (D k)
theorem db.ne {L : List Nat} {F : Nat → PE} {K : Nat → Nat} {fi sv n : Int} {kp bf : Int → Int} {W : Nat → Int → Int} {D : Nat → Int} (t : db L F K fi sv kp n bf W D) {i j : Nat} (hi : i < 257) (hj : j < 257) (hn : i ≠ j) : K i ≠ K j := fun e => hn (t.1.2 i j hi hj e)
theorem db.ij {L : List Nat} {F : Nat → PE} {K : Nat → Nat} {fi sv n : Int} {kp bf : Int → Int} {W : Nat → Int → Int} {D : Nat → Int} (t : db L F K fi sv kp n bf W D) {k : Nat} (hk : k < 10) : ij (sK K k) := fun i j hi hj e => by
  have := t.1.2 _ _ (by unfold sB; (repeat' split) <;> omega) (by unfold sB; (repeat' split) <;> omega) e
  omega
theorem db.L {L : List Nat} {F : Nat → PE} {K : Nat → Nat} {fi sv n : Int} {kp bf : Int → Int} {W : Nat → Int → Int} {D : Nat → Int} (t : db L F K fi sv kp n bf W D) {k : Nat} (hk : k < 10) : inL L (sK K k) := fun i hi => t.1.1 _ (by unfold sB; (repeat' split) <;> omega)
theorem db.apt {L : List Nat} {F : Nat → PE} {K : Nat → Nat} {fi sv n : Int} {kp bf : Int → Int} {W : Nat → Int → Int} {D : Nat → Int} (t : db L F K fi sv kp n bf W D) {k k2 : Nat} (hk : k < 10) (hk2 : k2 < 10) (hn : k ≠ k2) : apt (sK K k) (sK K k2) := fun i j hi hj e => by
  have := t.1.2 _ _ (by unfold sB; (repeat' split) <;> omega) (by unfold sB; (repeat' split) <;> omega) e
  unfold sB at this
  (repeat' split at this) <;> omega
/-- a state that is changed -/
theorem db.st {L : List Nat} {F F1 : Nat → PE} {K : Nat → Nat} {fi sv n : Int} {kp bf : Int → Int} {W : Nat → Int → Int} {D : Nat → Int} {k : Nat} {w : Int → Int} {d : Int} (t : db L F K fi sv kp n bf W D) (hk : k < 10) (h : stP L F1 (sK K k) w d) (hf : fS (sK K k) F F1) : db L F1 K fi sv kp n bf (un W k w) (un D k d) := by
  have nk : ∀ i, i < 257 → (i < sB k ∨ sB k + 25 ≤ i) → F1 (K i) = F (K i) := fun i hi hn => hf _ (fun c hc e => by
    have := t.1.2 _ _ hi (by unfold sB; (repeat' split) <;> omega) e
    omega)
  obtain ⟨t1, t2, ⟨t3, t4⟩, ⟨r, t5, t6⟩, ⟨r2, t7, t8⟩, ⟨t9, t10⟩, t11, t12⟩ := t
  have lb : 1 ≤ sB k ∧ (k < 8 → sB k = 1 ∨ 28 ≤ sB k) ∧ (k = 0 → sB k = 1) ∧ (0 < k → 28 ≤ sB k) ∧ (k < 8 → sB k ≤ 178) ∧ (8 ≤ k → 204 ≤ sB k) ∧ sB k ≤ 229 := by unfold sB; (repeat' split) <;> omega
  refine ⟨t1, (nk 0 (by omega) (by omega)).trans t2, ⟨(nk 26 (by omega) (by omega)).trans t3, t4⟩, ⟨r, (nk 27 (by omega) (by omega)).trans t5, t6⟩, ⟨r2, (nk 203 (by omega) (by omega)).trans t7, t8⟩, ⟨(nk 254 (by omega) (by omega)).trans t9, t10⟩, t11.mv (nk 255 (by omega) (by omega)) (nk 256 (by omega) (by omega)), fun j hj => ?_⟩
  unfold un
  by_cases c : j = k
  · subst c; rw [if_pos rfl, if_pos rfl]; exact h
  · rw [if_neg c, if_neg c]
    refine (t12 j hj).mv (fun i hi => nk _ (by unfold sB; (repeat' split) <;> omega) ?_)
    unfold sB
    (repeat' split) <;> omega
theorem db.out {L : List Nat} {F F1 : Nat → PE} {K : Nat → Nat} {fi sv n : Int} {kp bf : Int → Int} {W : Nat → Int → Int} {D : Nat → Int} (t : db L F K fi sv kp n bf W D) {m : Nat} (hm : m = 0 ∨ m = 26 ∨ m = 27 ∨ m = 203 ∨ 254 ≤ m) (hm2 : m < 257) (hf : ∀ b, b ≠ K m → F1 b = F b) : ∀ k, k < 10 → stP L F1 (sK K k) (W k) (D k) := fun k hk => (t.2.2.2.2.2.2.2 k hk).mv (fun i hi => hf _ (t.ne (by unfold sB; (repeat' split) <;> omega) hm2 (by unfold sB; (repeat' split) <;> omega)))
/-- the history's numbers changed -/
theorem db.hi {L : List Nat} {F F1 : Nat → PE} {K : Nat → Nat} {fi sv fi1 sv1 n : Int} {kp bf : Int → Int} {W : Nat → Int → Int} {D : Nat → Int} (t : db L F K fi sv kp n bf W D) (h : F1 (K 26) = eO 2 [.ref (K 27), .int (iI fi1), .int (iI sv1)]) (hr : 0 ≤ fi1 ∧ fi1 < 7 ∧ 0 ≤ sv1 ∧ sv1 ≤ 6) (hf : ∀ b, b ≠ K 26 → F1 b = F b) : db L F1 K fi1 sv1 kp n bf W D := by
  have o := t.out (by omega) (by omega) hf
  have nk : ∀ i, i < 257 → i ≠ 26 → F1 (K i) = F (K i) := fun i hi hn => hf _ (t.ne hi (by omega) hn)
  obtain ⟨t1, t2, ⟨t3, t4⟩, ⟨r, t5, t6⟩, ⟨r2, t7, t8⟩, ⟨t9, t10⟩, t11, t12⟩ := t
  exact ⟨t1, (nk 0 (by omega) (by omega)).trans t2, ⟨h, hr⟩, ⟨r, (nk 27 (by omega) (by omega)).trans t5, t6⟩, ⟨r2, (nk 203 (by omega) (by omega)).trans t7, t8⟩, ⟨(nk 254 (by omega) (by omega)).trans t9, t10⟩, t11.mv (nk 255 (by omega) (by omega)) (nk 256 (by omega) (by omega)), o⟩
theorem db.kp {L : List Nat} {F F1 : Nat → PE} {K : Nat → Nat} {fi sv n : Int} {kp kp1 bf : Int → Int} {W : Nat → Int → Int} {D : Nat → Int} (t : db L F K fi sv kp n bf W D) (h : F1 (K 254) = eI 1 2 kp1) (hr : (kp1 0 = 0 ∨ kp1 0 = 1) ∧ (kp1 1 = 0 ∨ kp1 1 = 1)) (hf : ∀ b, b ≠ K 254 → F1 b = F b) : db L F1 K fi sv kp1 n bf W D := by
  have o := t.out (by omega) (by omega) hf
  have nk : ∀ i, i < 257 → i ≠ 254 → F1 (K i) = F (K i) := fun i hi hn => hf _ (t.ne hi (by omega) hn)
  obtain ⟨t1, t2, ⟨t3, t4⟩, ⟨r, t5, t6⟩, ⟨r2, t7, t8⟩, ⟨t9, t10⟩, t11, t12⟩ := t
  exact ⟨t1, (nk 0 (by omega) (by omega)).trans t2, ⟨(nk 26 (by omega) (by omega)).trans t3, t4⟩, ⟨r, (nk 27 (by omega) (by omega)).trans t5, t6⟩, ⟨r2, (nk 203 (by omega) (by omega)).trans t7, t8⟩, ⟨h, hr⟩, t11.mv (nk 255 (by omega) (by omega)) (nk 256 (by omega) (by omega)), o⟩
theorem db.bu {L : List Nat} {F F1 : Nat → PE} {K : Nat → Nat} {fi sv n n1 : Int} {kp bf bf1 : Int → Int} {W : Nat → Int → Int} {D : Nat → Int} (t : db L F K fi sv kp n bf W D) (h : tx L F1 (K 255) (K 256) 60 n1 bf1) (hf : ∀ b, b ≠ K 255 → b ≠ K 256 → F1 b = F b) : db L F1 K fi sv kp n1 bf1 W D := by
  have nk : ∀ i, i < 257 → i ≠ 255 → i ≠ 256 → F1 (K i) = F (K i) := fun i hi hn hn2 => hf _ (t.ne hi (by omega) hn) (t.ne hi (by omega) hn2)
  obtain ⟨t1, t2, ⟨t3, t4⟩, ⟨r, t5, t6⟩, ⟨r2, t7, t8⟩, ⟨t9, t10⟩, t11, t12⟩ := t
  exact ⟨t1, (nk 0 (by omega) (by omega) (by omega)).trans t2, ⟨(nk 26 (by omega) (by omega) (by omega)).trans t3, t4⟩, ⟨r, (nk 27 (by omega) (by omega) (by omega)).trans t5, t6⟩, ⟨r2, (nk 203 (by omega) (by omega) (by omega)).trans t7, t8⟩, ⟨(nk 254 (by omega) (by omega) (by omega)).trans t9, t10⟩, h, fun k hk => (t12 k hk).mv (fun i hi => nk _ (by unfold sB; (repeat' split) <;> omega) (by unfold sB; (repeat' split) <;> omega) (by unfold sB; (repeat' split) <;> omega))⟩
/-- which state is the row of a number -/
def ro (i : Int) : Nat := 1 + (i % 7).toNat
theorem ro_rg {i : Int} : 1 ≤ ro i ∧ ro i < 8 := by unfold ro; omega
theorem ro_c {K : Nat → Nat} {i : Int} : sK K (ro i) 0 = K (28 + 25 * (i % 7).toNat) := by
  show K (sB (ro i) + 0) = _
  congr 1
  unfold ro sB
  rw [if_neg (by omega), if_pos (by omega)]
  omega
set_option maxRecDepth 100000 in
set_option maxHeartbeats 4000000 in
theorem m_X2_count (l : Launch) {L : List Nat} {F : Nat → PE} {K : Nat → Nat} {fi sv n : Int} {kp bf : Int → Int} {W : Nat → Int → Int} {D : Nat → Int} (t : db L F K fi sv kp n bf W D) : PM l yX2_count cX2_count 1 (some .int) (rm 1 0 0) L [.ref (K 26)] F (fun v9 L1 F1 => v9 = some (.int (iI sv)) ∧ L = L1 ∧ F = F1) (fun _ _ _ => False) := by
  refine pm_of cd_X2_count (by decide +kernel) (Nat.le_of_ble_eq_true rfl) (fun ZZ hZ => ?_)
  have hgo : ZZ 0 0 0 [some (.ref (K 26))] [] L F := by
    have l26 := t.1.1 26 (by omega)
    have h26 := t.2.2.1.1
    refine z_aload_n0 hZ dX2_count_0 ?_
    refine z_gf_X2_saved hZ dX2_count_1 fl_X2_18 (by assumption) (by assumption) ?_
    exact z_iret hZ rfl (Nat.le_of_ble_eq_true rfl) (Nat.le_of_ble_eq_true rfl) dX2_count_4 (by exact ⟨rfl, rfl, rfl⟩)
  exact hgo
set_option maxRecDepth 100000 in
set_option maxHeartbeats 4000000 in
theorem m_X2_row (l : Launch) {L : List Nat} {F : Nat → PE} {K : Nat → Nat} {fi sv n i : Int} {kp bf : Int → Int} {W : Nat → Int → Int} {D : Nat → Int} (t : db L F K fi sv kp n bf W D) (hi : -30 ≤ i ∧ i ≤ 30) : PM l yX2_row cX2_row 2 (some (.object "DragonRing$State")) (rm 2 0 0) L [.ref (K 26), .int (iI i)] F (fun v9 L1 F1 => v9 = some (.ref (sK K (ro i) 0)) ∧ L = L1 ∧ F = F1) (fun _ _ _ => False) := by
  refine pm_of cd_X2_row (by decide +kernel) (Nat.le_of_ble_eq_true rfl) (fun ZZ hZ => ?_)
  have hgo : ZZ 0 0 0 [some (.ref (K 26)), some (.int (iI i))] [] L F := by
    have l26 := t.1.1 26 (by omega)
    have h26 := t.2.2.1.1
    have l27 := t.1.1 27 (by omega)
    obtain ⟨r, h27, hr⟩ := t.2.2.2.1
    have h7 : r (i % 7) = some (K (28 + 25 * (i % 7).toNat)) := by
      have := hr (i % 7).toNat (by omega)
      rwa [Int.toNat_of_nonneg (by omega)] at this
    refine z_aload_n0 hZ dX2_row_0 ?_
    refine z_gf_X2_rows hZ dX2_row_1 fl_X2_13 (by assumption) (by assumption) ?_
    refine z_iload_n1 hZ dX2_row_4 ?_
    refine z_bipush hZ dX2_row_5 rfl ?_
    refine z_cS hZ (As := [_, _]) rfl dX2_row_7 ml_X2_22 wy_J9_floorMod_7cf53 (m_J9_floorMod_7cf53 l (by omega)) ⟨Nat.le_of_ble_eq_true rfl, Nat.le_of_ble_eq_true rfl⟩ ⟨Nat.le_of_ble_eq_true rfl, Nat.le_of_ble_eq_true rfl⟩ (Nat.le_of_ble_eq_true rfl) (fun _ _ _ h => h.elim) (fun v7 L7 G7 hp7 => ?_)
    obtain ⟨rfl, rfl, rfl⟩ := hp7
    refine z_aaload_State hZ dX2_row_10 (by assumption) (by assumption) (by omega) (by assumption) ?_
    exact z_aret hZ rfl (Nat.le_of_ble_eq_true rfl) (Nat.le_of_ble_eq_true rfl) dX2_row_11 (by exact ⟨by rw [ro_c], rfl, rfl⟩)
  exact hgo
set_option maxRecDepth 100000 in
set_option maxHeartbeats 4000000 in
theorem m_X2_prepared (l : Launch) {L : List Nat} {F : Nat → PE} {K : Nat → Nat} {fi sv n : Int} {kp bf : Int → Int} {W : Nat → Int → Int} {D : Nat → Int} (t : db L F K fi sv kp n bf W D) : PM l yX2_prepared cX2_prepared 1 (some (.object "DragonRing$State")) (rm 3 0 0) L [.ref (K 26)] F (fun v9 L1 F1 => v9 = some (.ref (sK K (ro (fi + sv)) 0)) ∧ L = L1 ∧ F = F1) (fun _ _ _ => False) := by
  refine pm_of cd_X2_prepared (by decide +kernel) (Nat.le_of_ble_eq_true rfl) (fun ZZ hZ => ?_)
  have hgo : ZZ 0 0 0 [some (.ref (K 26))] [] L F := by
    have l26 := t.1.1 26 (by omega)
    have h26 := t.2.2.1.1
    have hb := t.2.2.1.2
    refine z_aload_n0 hZ dX2_prepared_0 ?_
    refine z_aload_n0 hZ dX2_prepared_1 ?_
    refine z_gf_X2_first hZ dX2_prepared_2 fl_X2_36 (by assumption) (by assumption) ?_
    refine z_aload_n0 hZ dX2_prepared_5 ?_
    refine z_gf_X2_saved hZ dX2_prepared_6 fl_X2_18 (by assumption) (by assumption) ?_
    refine z_iadd hZ dX2_prepared_9 ?_
    refine z_cV hZ (As := [_]) rfl dX2_prepared_10 ml_X2_39 wy_X2_row (m_X2_row l t (by omega)) (by assumption) (by assumption) rfl ⟨Nat.le_of_ble_eq_true rfl, Nat.le_of_ble_eq_true rfl⟩ ⟨Nat.le_of_ble_eq_true rfl, Nat.le_of_ble_eq_true rfl⟩ (Nat.le_of_ble_eq_true rfl) (fun _ _ _ h => h.elim) (fun v10 L10 G10 hp10 => ?_)
    obtain ⟨rfl, rfl, rfl⟩ := hp10
    exact z_aret hZ rfl (Nat.le_of_ble_eq_true rfl) (Nat.le_of_ble_eq_true rfl) dX2_prepared_13 (by exact ⟨rfl, rfl, rfl⟩)
  exact hgo
set_option maxRecDepth 100000 in
set_option maxHeartbeats 4000000 in
theorem m_X2_latest (l : Launch) {L : List Nat} {F : Nat → PE} {K : Nat → Nat} {fi sv n : Int} {kp bf : Int → Int} {W : Nat → Int → Int} {D : Nat → Int} (t : db L F K fi sv kp n bf W D) : PM l yX2_latest cX2_latest 1 (some (.object "DragonRing$State")) (rm 3 0 0) L [.ref (K 26)] F (fun v9 L1 F1 => v9 = some (.ref (sK K (ro (fi + sv - 1)) 0)) ∧ L = L1 ∧ F = F1) (fun _ _ _ => False) := by
  refine pm_of cd_X2_latest (by decide +kernel) (Nat.le_of_ble_eq_true rfl) (fun ZZ hZ => ?_)
  have hgo : ZZ 0 0 0 [some (.ref (K 26))] [] L F := by
    have l26 := t.1.1 26 (by omega)
    have h26 := t.2.2.1.1
    have hb := t.2.2.1.2
    refine z_aload_n0 hZ dX2_latest_0 ?_
    refine z_aload_n0 hZ dX2_latest_1 ?_
    refine z_gf_X2_first hZ dX2_latest_2 fl_X2_36 (by assumption) (by assumption) ?_
    refine z_aload_n0 hZ dX2_latest_5 ?_
    refine z_gf_X2_saved hZ dX2_latest_6 fl_X2_18 (by assumption) (by assumption) ?_
    refine z_iadd hZ dX2_latest_9 ?_
    refine z_iconst hZ dX2_latest_10 ?_
    refine z_isub hZ dX2_latest_11 ?_
    refine z_cV hZ (As := [_]) rfl dX2_latest_12 ml_X2_39 wy_X2_row (m_X2_row l t (by omega)) (by assumption) (by assumption) rfl ⟨Nat.le_of_ble_eq_true rfl, Nat.le_of_ble_eq_true rfl⟩ ⟨Nat.le_of_ble_eq_true rfl, Nat.le_of_ble_eq_true rfl⟩ (Nat.le_of_ble_eq_true rfl) (fun _ _ _ h => h.elim) (fun v12 L12 G12 hp12 => ?_)
    obtain ⟨rfl, rfl, rfl⟩ := hp12
    exact z_aret hZ rfl (Nat.le_of_ble_eq_true rfl) (Nat.le_of_ble_eq_true rfl) dX2_latest_15 (by exact ⟨rfl, rfl, rfl⟩)
  exact hgo
set_option maxRecDepth 100000 in
set_option maxHeartbeats 4000000 in
theorem m_X2_prepare (l : Launch) {L : List Nat} {F : Nat → PE} {K : Nat → Nat} {fi sv n : Int} {kp bf : Int → Int} {W : Nat → Int → Int} {D : Nat → Int} (t : db L F K fi sv kp n bf W D) : PM l yX2_prepare cX2_prepare 2 none (rm 5 0 0) L [.ref (K 26), .ref (K 1)] F (fun v9 L1 F1 => v9 = none ∧ L = L1 ∧ db L F1 K fi sv kp n bf (un W (ro (fi + sv)) (W 0)) (un D (ro (fi + sv)) (D 0))) (fun _ _ _ => False) := by
  refine pm_of cd_X2_prepare (by decide +kernel) (Nat.le_of_ble_eq_true rfl) (fun ZZ hZ => ?_)
  have hgo : ZZ 0 0 0 [some (.ref (K 26)), some (.ref (K 1))] [] L F := by
    have l26 := t.1.1 26 (by omega)
    have h26 := t.2.2.1.1
    have rr := ro_rg (i := fi + sv)
    have lS := t.L (k := ro (fi + sv)) (by omega) 0 (by omega)
    have hS := t.2.2.2.2.2.2.2 (ro (fi + sv)) (by omega)
    obtain ⟨w4, f4⟩ : ∃ w4, F (sK K (ro (fi + sv)) 0) = eO 5 w4 := by obtain ⟨_, _, _, _, _, _, hO⟩ := hS; exact ⟨_, hO.2.2.2.2.2.1⟩
    refine z_aload_n0 hZ dX2_prepare_0 ?_
    refine z_cV hZ (As := []) rfl dX2_prepare_1 ml_X2_28 wy_X2_prepared (m_X2_prepared l t) (by assumption) (by assumption) rfl ⟨Nat.le_of_ble_eq_true rfl, Nat.le_of_ble_eq_true rfl⟩ ⟨Nat.le_of_ble_eq_true rfl, Nat.le_of_ble_eq_true rfl⟩ (Nat.le_of_ble_eq_true rfl) (fun _ _ _ h => h.elim) (fun v1 L1 G1 hp1 => ?_)
    obtain ⟨rfl, rfl, rfl⟩ := hp1
    refine z_aload_n1 hZ dX2_prepare_4 ?_
    refine z_cV hZ (As := [_]) rfl dX2_prepare_5 ml_X2_32 wy_X5_copyFrom (m_X5_copyFrom l (sb := sK K 0) (t.ij (k := ro (fi + sv)) (by omega)) (t.L (by omega)) (t.L (by omega)) (t.apt (by omega) (by omega) (by omega)) hS (t.2.2.2.2.2.2.2 0 (by omega))) (by assumption) (by assumption) rfl ⟨Nat.le_of_ble_eq_true rfl, Nat.le_of_ble_eq_true rfl⟩ ⟨Nat.le_of_ble_eq_true rfl, Nat.le_of_ble_eq_true rfl⟩ (Nat.le_of_ble_eq_true rfl) (fun _ _ _ h => h.elim) (fun v5 L5 G5 hp5 => ?_)
    obtain ⟨rfl, rfl, t5, f5⟩ := hp5
    exact z_vret hZ rfl (Nat.le_of_ble_eq_true rfl) (Nat.le_of_ble_eq_true rfl) dX2_prepare_8 (by exact ⟨rfl, rfl, t.st (by omega) t5 f5⟩)
  exact hgo
set_option maxRecDepth 100000 in
set_option maxHeartbeats 4000000 in
theorem m_X2_save (l : Launch) {L : List Nat} {F : Nat → PE} {K : Nat → Nat} {fi sv n : Int} {kp bf : Int → Int} {W : Nat → Int → Int} {D : Nat → Int} (t : db L F K fi sv kp n bf W D) : PM l yX2_save cX2_save 1 none (rm 3 0 0) L [.ref (K 26)] F (fun v9 L1 F1 => v9 = none ∧ L = L1 ∧ db L F1 K (if sv < 6 then fi else (fi + 1) % 7) (if sv < 6 then sv + 1 else 6) kp n bf W D) (fun _ _ _ => False) := by
  refine pm_of cd_X2_save (by decide +kernel) (Nat.le_of_ble_eq_true rfl) (fun ZZ hZ => ?_)
  have hgo : ZZ 0 0 0 [some (.ref (K 26))] [] L F := by
    have l26 := t.1.1 26 (by omega)
    have h26 := t.2.2.1.1
    have hb := t.2.2.1.2
    by_cases q : sv < 6
    · rw [if_pos q, if_pos q] at hZ
      refine z_aload_n0 hZ dX2_save_0 ?_
      refine z_gf_X2_saved hZ dX2_save_1 fl_X2_18 (by assumption) (by assumption) ?_
      refine z_bipush hZ dX2_save_4 rfl ?_
      refine z_icmp_ge hZ (tgt := 22) dX2_save_6 rfl (by omega) (fun hc6 => ?_) (fun hc6 => ?_)
      · exfalso; omega
      · refine z_aload_n0 hZ dX2_save_9 ?_
        refine z_dup hZ dX2_save_10 rfl ?_
        refine z_gf_X2_saved hZ dX2_save_11 fl_X2_18 (by assumption) (by assumption) ?_
        refine z_iconst hZ dX2_save_14 ?_
        refine z_iadd hZ dX2_save_15 ?_
        refine z_pf_X2_saved hZ dX2_save_16 fl_X2_18 (by assumption) (by assumption) (fun F16 hF16 hf16 => ?_)
        refine z_goto hZ (tgt := 37) dX2_save_19 rfl ?_
        exact z_vret hZ rfl (Nat.le_of_ble_eq_true rfl) (Nat.le_of_ble_eq_true rfl) dX2_save_37 (by exact ⟨rfl, rfl, t.hi hF16 (by omega) hf16⟩)
    · have e6 : sv = 6 := by omega
      rw [if_neg q, if_neg q] at hZ
      refine z_aload_n0 hZ dX2_save_0 ?_
      refine z_gf_X2_saved hZ dX2_save_1 fl_X2_18 (by assumption) (by assumption) ?_
      refine z_bipush hZ dX2_save_4 rfl ?_
      refine z_icmp_ge hZ (tgt := 22) dX2_save_6 rfl (by omega) (fun hc6 => ?_) (fun hc6 => ?_)
      · refine z_aload_n0 hZ dX2_save_22 ?_
        refine z_aload_n0 hZ dX2_save_23 ?_
        refine z_gf_X2_first hZ dX2_save_24 fl_X2_36 (by assumption) (by assumption) ?_
        refine z_iconst hZ dX2_save_27 ?_
        refine z_iadd hZ dX2_save_28 ?_
        refine z_bipush hZ dX2_save_29 rfl ?_
        refine z_cS hZ (As := [_, _]) rfl dX2_save_31 ml_X2_22 wy_J9_floorMod_7cf53 (m_J9_floorMod_7cf53 l (by omega)) ⟨Nat.le_of_ble_eq_true rfl, Nat.le_of_ble_eq_true rfl⟩ ⟨Nat.le_of_ble_eq_true rfl, Nat.le_of_ble_eq_true rfl⟩ (Nat.le_of_ble_eq_true rfl) (fun _ _ _ h => h.elim) (fun v31 L31 G31 hp31 => ?_)
        obtain ⟨rfl, rfl, rfl⟩ := hp31
        refine z_pf_X2_first hZ dX2_save_34 fl_X2_36 (by assumption) (by assumption) (fun F34 hF34 hf34 => ?_)
        exact z_vret hZ rfl (Nat.le_of_ble_eq_true rfl) (Nat.le_of_ble_eq_true rfl) dX2_save_37 (by exact ⟨rfl, rfl, t.hi (by rw [hF34, e6]) (by omega) hf34⟩)
      · exfalso; omega
  exact hgo
set_option maxRecDepth 100000 in
set_option maxHeartbeats 4000000 in
theorem m_X2_drop (l : Launch) {L : List Nat} {F : Nat → PE} {K : Nat → Nat} {fi sv n : Int} {kp bf : Int → Int} {W : Nat → Int → Int} {D : Nat → Int} (t : db L F K fi sv kp n bf W D) (h1 : 1 ≤ sv) : PM l yX2_drop cX2_drop 1 none (rm 1 0 0) L [.ref (K 26)] F (fun v9 L1 F1 => v9 = none ∧ L = L1 ∧ db L F1 K fi (sv - 1) kp n bf W D) (fun _ _ _ => False) := by
  refine pm_of cd_X2_drop (by decide +kernel) (Nat.le_of_ble_eq_true rfl) (fun ZZ hZ => ?_)
  have hgo : ZZ 0 0 0 [some (.ref (K 26))] [] L F := by
    have l26 := t.1.1 26 (by omega)
    have h26 := t.2.2.1.1
    have hb := t.2.2.1.2
    refine z_aload_n0 hZ dX2_drop_0 ?_
    refine z_gf_X2_saved hZ dX2_drop_1 fl_X2_18 (by assumption) (by assumption) ?_
    refine z_if_le hZ (tgt := 17) dX2_drop_4 rfl (by omega) (fun hc4 => ?_) (fun hc4 => ?_)
    · exfalso; omega
      skip
    · refine z_aload_n0 hZ dX2_drop_7 ?_
      refine z_dup hZ dX2_drop_8 rfl ?_
      refine z_gf_X2_saved hZ dX2_drop_9 fl_X2_18 (by assumption) (by assumption) ?_
      refine z_iconst hZ dX2_drop_12 ?_
      refine z_isub hZ dX2_drop_13 ?_
      refine z_pf_X2_saved hZ dX2_drop_14 fl_X2_18 (by assumption) (by assumption) (fun F14 hF14 hf14 => ?_)
      exact z_vret hZ rfl (Nat.le_of_ble_eq_true rfl) (Nat.le_of_ble_eq_true rfl) dX2_drop_17 (by exact ⟨rfl, rfl, t.hi hF14 (by omega) hf14⟩)
  exact hgo

