/-! THE WHOLE OBJECT AS ITS PROMISES SEE IT: the state v of kind kd, sv saved states H 1 .. H sv, the oldest first, kept states Q where kp is 1, the buffer bf of n characters. -/
def hN (sv : Int) : Int := if sv < 6 then sv + 1 else 6
def hS (sv : Int) (H : Int → Int → Int) (v : Int → Int) : Int → Int → Int := fun j => if sv < 6 then (if j = sv + 1 then v else H j) else (if j = 6 then v else H (j + 1))
def lk (fi sv : Int) (kp : Int → Int) (W : Nat → Int → Int) (v : Int → Int) (H Q : Int → Int → Int) : Prop :=
  W 0 = v ∧ (∀ j, 1 ≤ j → j ≤ sv → W (ro (fi + j - 1)) = H j) ∧ ∀ s, (s = 0 ∨ s = 1) → kp s = 1 → W (8 + s.toNat) = Q s
def dr (L : List Nat) (F : Nat → PE) (K : Nat → Nat) (v : Int → Int) (kd sv : Int) (H : Int → Int → Int) (kp : Int → Int) (Q : Int → Int → Int) (n : Int) (bf : Int → Int) : Prop :=
  ∃ fi W D, db L F K fi sv kp n bf W D ∧ lk fi sv kp W v H Q ∧ D 0 = kd
theorem lk.prep {fi sv : Int} {kp : Int → Int} {W : Nat → Int → Int} {v : Int → Int} {H Q : Int → Int → Int} (h : lk fi sv kp W v H Q) (hr : 0 ≤ fi ∧ fi < 7 ∧ 0 ≤ sv ∧ sv ≤ 6) : lk fi sv kp (un W (ro (fi + sv)) (W 0)) v H Q ∧ un W (ro (fi + sv)) (W 0) (ro (fi + sv)) = v := by
  have r := ro_rg (i := fi + sv)
  refine ⟨⟨by rw [un_n (by omega)]; exact h.1, fun j j1 j2 => ?_, fun s s1 s2 => ?_⟩, by rw [un_s]; exact h.1⟩
  · rw [un_n (by unfold ro; omega)]; exact h.2.1 j j1 j2
  · rw [un_n (by omega)]; exact h.2.2 s s1 s2
theorem lk.op {fi sv : Int} {kp : Int → Int} {W : Nat → Int → Int} {v w u : Int → Int} {H Q : Int → Int → Int} (h : lk fi sv kp W v H Q ∧ W (ro (fi + sv)) = u) : lk fi sv kp (un W 0 w) w H Q ∧ un W 0 w (ro (fi + sv)) = u := by
  have r := ro_rg (i := fi + sv)
  refine ⟨⟨un_s, fun j j1 j2 => ?_, fun s s1 s2 => ?_⟩, by rw [un_n (by omega)]; exact h.2⟩
  · rw [un_n (by have := ro_rg (i := fi + j - 1); omega)]; exact h.1.2.1 j j1 j2
  · rw [un_n (by omega)]; exact h.1.2.2 s s1 s2
theorem lk.save {fi sv : Int} {kp : Int → Int} {W : Nat → Int → Int} {v u : Int → Int} {H Q : Int → Int → Int} (h : lk fi sv kp W v H Q ∧ W (ro (fi + sv)) = u) (hr : 0 ≤ fi ∧ fi < 7 ∧ 0 ≤ sv ∧ sv ≤ 6) : lk (if sv < 6 then fi else (fi + 1) % 7) (hN sv) kp W v (hS sv H u) Q := by
  refine ⟨h.1.1, fun j j1 j2 => ?_, h.1.2.2⟩
  unfold hN at j2
  unfold hS
  by_cases q : sv < 6
  · rw [if_pos q] at j2 ⊢
    rw [if_pos q]
    by_cases q2 : j = sv + 1
    · rw [if_pos q2, q2, show fi + (sv + 1) - 1 = fi + sv by omega]; exact h.2
    · rw [if_neg q2]; exact h.1.2.1 j j1 (by omega)
  · rw [if_neg q] at j2 ⊢
    rw [if_neg q]
    by_cases q2 : j = 6
    · rw [if_pos q2, ← h.2]; congr 1; unfold ro; omega
    · rw [if_neg q2, ← h.1.2.1 (j + 1) (by omega) (by omega)]; congr 1; unfold ro; omega
theorem stP.ob {L : List Nat} {F : Nat → PE} {sa : Nat → Nat} {v : Int → Int} {kd : Int} (t : stP L F sa v kd) : F (sa 0) = eO 5 [.ref (sa 1), .ref (sa 4), .ref (sa 8), .int (iI kd)] := by obtain ⟨_, _, _, _, _, _, hO⟩ := t; exact hO.2.2.2.2.2.1
theorem stP.sc {L : List Nat} {F : Nat → PE} {sa : Nat → Nat} {v : Int → Int} {kd : Int} (t : stP L F sa v kd) : sc L F (sa 1) (sa 2) (sa 3) (v 0) (v 1) (v 2) (fT v) := by obtain ⟨_, _, _, _, _, _, hO⟩ := t; exact hO.1
theorem stP.iv {L : List Nat} {F : Nat → PE} {sa : Nat → Nat} {v : Int → Int} {kd : Int} (t : stP L F sa v kd) : iv v kd := by obtain ⟨_, _, _, _, _, _, hO⟩ := t; exact hO.2.2.2.2.2.2
theorem stP.rg {L : List Nat} {F : Nat → PE} {sa : Nat → Nat} {v : Int → Int} {kd : Int} (t : stP L F sa v kd) : 0 ≤ v 0 ∧ v 0 ≤ 200 ∧ 0 ≤ v 1 ∧ v 1 ≤ v 0 ∧ -1 ≤ v 2 ∧ v 2 ≤ v 0 ∧ 0 ≤ v 3 ∧ v 3 ≤ v 5 ∧ 1 ≤ v 5 ∧ v 5 ≤ 8 := by
  have s := t.sc
  have h1 := s.2.2.1.2.2.2.1
  have h2 := s.2.2.2
  obtain ⟨_, _, _, _, _, _, _, hR, _⟩ := t
  have h3 := hR.2.2.2.2.2.1
  omega
/-- answers of deeds that are methods -/
def dAn (d : Nat) (v : Int → Int) : Int := match d with
  | 2 => abI (wS (v 0) (fT v) (v 1) - v 1)
  | 3 => abI (wB (v 0) (fT v) (v 1) - v 1)
  | 4 => abI (lB (v 0) (fT v) (v 1) - v 1)
  | 5 => abI (lE (v 0) (fT v) (v 1) - v 1)
  | 6 => v 1
  | 7 => v 2
  | 8 => wS (v 0) (fT v) (v 1) - v 1
  | 9 => v 1 - wB (v 0) (fT v) (v 1)
  | 10 => kLj v - v 1
  | 11 => mxI (v 2) (v 1) - mnI (v 2) (v 1)
  | 12 => mxI (v 2) (v 1) - mnI (v 2) (v 1)
  | 13 => nxL v
  | 14 => oyL v
  | 16 => v (18 + (v 1 - 1))
  | 17 => v (18 + v 1 - 1)
  | 18 => grN v
  | _ => 0
def xS : String := "java/lang/IllegalStateException"
def xA : String := "java/lang/IllegalArgumentException"
def xB : String := "java/lang/IndexOutOfBoundsException"
set_option maxRecDepth 100000 in
set_option maxHeartbeats 4000000 in
theorem m_X7_possible (l : Launch) {L : List Nat} {F : Nat → PE} {a : Int} (hfl : l.flags = flags0) (ha : -1 ≤ a ∧ a ≤ 1000000) : PM l yX7_possible cX7_possible 1 (some .int) (rm 6 1 6) L [.int (iI a)] F (fun v9 L1 F1 => v9 = some (.int (iI a)) ∧ a ≠ -1 ∧ L = L1 ∧ F = F1) (fun E L1 F1 => E = xS ∧ a = -1 ∧ L = L1 ∧ F = F1) := by
  refine pm_of cd_X7_possible (by decide +kernel) (Nat.le_of_ble_eq_true rfl) (fun ZZ hZ => ?_)
  have hgo : ZZ 0 0 0 [some (.int (iI a))] [] L F := by
    refine z_iload_n0 hZ dX7_possible_0 ?_
    refine z_iconst hZ dX7_possible_1 ?_
    refine z_icmp_ne hZ (tgt := 16) dX7_possible_2 rfl (by omega) (fun hc2 => ?_) (fun hc2 => ?_)
    · refine z_iload_n0 hZ dX7_possible_16 ?_
      exact z_iret hZ rfl (Nat.le_of_ble_eq_true rfl) (Nat.le_of_ble_eq_true rfl) dX7_possible_17 (by exact ⟨rfl, by omega, rfl, rfl⟩)
    · exact z_throwW hZ hfl rfl (Or.inl ⟨rfl, rfl, rfl⟩) dX7_possible_5 dX7_possible_8 dX7_possible_9 dX7_possible_12 dX7_possible_15 cl_X7_148 in_Sx st_307 (Nat.le_of_ble_eq_true rfl) (Nat.le_of_ble_eq_true rfl) (Nat.le_of_ble_eq_true rfl) ⟨Nat.le_of_ble_eq_true rfl, Nat.le_of_ble_eq_true rfl⟩ (by exact ⟨rfl, by omega, rfl, rfl⟩)
  exact hgo
set_option maxRecDepth 100000 in
set_option maxHeartbeats 4000000 in
theorem m_X7_existing (l : Launch) {L : List Nat} {F : Nat → PE} {a : Int} (hfl : l.flags = flags0) (ha : -1 ≤ a ∧ a ≤ 1000000) : PM l yX7_existing cX7_existing 1 (some .int) (rm 6 1 6) L [.int (iI a)] F (fun v9 L1 F1 => v9 = some (.int (iI a)) ∧ a ≠ -1 ∧ L = L1 ∧ F = F1) (fun E L1 F1 => E = xB ∧ a = -1 ∧ L = L1 ∧ F = F1) := by
  refine pm_of cd_X7_existing (by decide +kernel) (Nat.le_of_ble_eq_true rfl) (fun ZZ hZ => ?_)
  have hgo : ZZ 0 0 0 [some (.int (iI a))] [] L F := by
    refine z_iload_n0 hZ dX7_existing_0 ?_
    refine z_iconst hZ dX7_existing_1 ?_
    refine z_icmp_ne hZ (tgt := 16) dX7_existing_2 rfl (by omega) (fun hc2 => ?_) (fun hc2 => ?_)
    · refine z_iload_n0 hZ dX7_existing_16 ?_
      exact z_iret hZ rfl (Nat.le_of_ble_eq_true rfl) (Nat.le_of_ble_eq_true rfl) dX7_existing_17 (by exact ⟨rfl, by omega, rfl, rfl⟩)
    · exact z_throwW hZ hfl rfl (Or.inr ⟨rfl, rfl, rfl⟩) dX7_existing_5 dX7_existing_8 dX7_existing_9 dX7_existing_12 dX7_existing_15 cl_X7_309 in_Bx st_311 (Nat.le_of_ble_eq_true rfl) (Nat.le_of_ble_eq_true rfl) (Nat.le_of_ble_eq_true rfl) ⟨Nat.le_of_ble_eq_true rfl, Nat.le_of_ble_eq_true rfl⟩ (by exact ⟨rfl, by omega, rfl, rfl⟩)
  exact hgo
set_option maxRecDepth 100000 in
set_option maxHeartbeats 4000000 in
theorem m_X7_settled (l : Launch) {L : List Nat} {F : Nat → PE} {K : Nat → Nat} {fi sv n a : Int} {kp bf : Int → Int} {W : Nat → Int → Int} {D : Nat → Int} (hfl : l.flags = flags0) (ha : -1 ≤ a ∧ a ≤ 1000000) (t : a ≠ -1 → db L F K fi sv kp n bf W D) : PM l yX7_settled cX7_settled 2 (some .int) (rm 7 1 6) L [.ref (K 0), .int (iI a)] F (fun v9 L1 F1 => v9 = some (.int (iI a)) ∧ a ≠ -1 ∧ L = L1 ∧ db L F1 K (if sv < 6 then fi else (fi + 1) % 7) (hN sv) kp n bf W D) (fun E L1 F1 => E = xS ∧ a = -1 ∧ L = L1 ∧ F = F1) := by
  refine pm_of cd_X7_settled (by decide +kernel) (Nat.le_of_ble_eq_true rfl) (fun ZZ hZ => ?_)
  have hgo : ZZ 0 0 0 [some (.ref (K 0)), some (.int (iI a))] [] L F := by
    refine z_iload_n1 hZ dX7_settled_0 ?_
    refine z_cS hZ (As := [_]) rfl dX7_settled_1 ml_X7_212 wy_X7_possible (m_X7_possible l hfl ha) ⟨Nat.le_of_ble_eq_true rfl, Nat.le_of_ble_eq_true rfl⟩ ⟨Nat.le_of_ble_eq_true rfl, Nat.le_of_ble_eq_true rfl⟩ (Nat.le_of_ble_eq_true rfl) (fun _ _ _ h => h) (fun v1 L1 G1 hp1 => ?_)
    obtain ⟨rfl, hne, rfl, rfl⟩ := hp1
    have t := t hne
    have l0 := t.1.1 0 (by omega)
    have h0 := t.2.1
    have l26 := t.1.1 26 (by omega)
    have h26 := t.2.2.1.1
    refine z_pop hZ dX7_settled_4 rfl ?_
    refine z_aload_n0 hZ dX7_settled_5 ?_
    refine z_gf_X7_history hZ dX7_settled_6 fl_X7_19 (by assumption) (by assumption) ?_
    refine z_cV hZ (As := []) rfl dX7_settled_9 ml_X7_187 wy_X2_save (m_X2_save l t) (by assumption) (by assumption) rfl ⟨Nat.le_of_ble_eq_true rfl, Nat.le_of_ble_eq_true rfl⟩ ⟨Nat.le_of_ble_eq_true rfl, Nat.le_of_ble_eq_true rfl⟩ (Nat.le_of_ble_eq_true rfl) (fun _ _ _ h => h.elim) (fun v9 L9 G9 hp9 => ?_)
    obtain ⟨rfl, rfl, t9⟩ := hp9
    refine z_iload_n1 hZ dX7_settled_12 ?_
    exact z_iret hZ rfl (Nat.le_of_ble_eq_true rfl) (Nat.le_of_ble_eq_true rfl) dX7_settled_13 (by exact ⟨rfl, hne, rfl, t9⟩)
  exact hgo

