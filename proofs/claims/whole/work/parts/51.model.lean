/-! THE MODEL: what is read of its row of numbers. -/
theorem wu_e {α : Type} {f : Int → α} {k j : Int} {x : α} (h : j = k) : wu f k x j = x := if_pos h
section ZI
variable {ZZ : ZT} {l : Launch} {y : MethodName} {cc : ByteArray} {nL : Nat} {ret : Option FieldType} {R : Room} {L0 : List Nat} {post : Option Value → List Nat → (Nat → PE) → Prop} {xp : String → List Nat → (Nat → PE) → Prop}
variable {k n pc : Nat} {lv : List (Option Value)} {st : List Value} {L : List Nat} {F : Nat → PE}
theorem z_iald (hZ : ZZ = Zj l y cc nL ret R L0 post xp) {a N : Nat} {g : Int → Int} {i z : Int} (d : decode cc pc = .ok (.iaload, 1)) (ha : a ∈ L) (hF : F a = eI 0 N g) (hi : 0 ≤ i ∧ i < N ∧ i ≤ 2147483647) (e : g i = z) (kk : ZZ k n (pc + 1) lv (.int (iI z) :: st) L F) : ZZ k n pc lv (.int (iI i) :: .ref a :: st) L F := by
  subst e
  exact z_iaload hZ d ha hF hi kk
end ZI
def vf (g : Int → Int) (kd : Int) : Prop := (0 ≤ g 0 ∧ g 0 ≤ 200 ∧ 0 ≤ g 1 ∧ g 1 ≤ g 0 ∧ -1 ≤ g 2 ∧ g 2 ≤ g 0 ∧ 0 ≤ g 3 ∧ g 3 ≤ g 5 ∧ 1 ≤ g 5 ∧ g 5 ≤ 8) ∧ iv g kd ∧ (∀ k, 0 ≤ k → k < g 0 → 10 ≤ fT g k ∧ fT g k ≤ 126) ∧ ∀ i k, 0 ≤ i → i < g 3 → 0 ≤ k → k < g (10 + i) → 10 ≤ g (218 + 200 * i + k) ∧ g (218 + 200 * i + k) ≤ 126
/-- the object x of kind kd with its row of numbers at a -/
def ms (L : List Nat) (F : Nat → PE) (x a : Nat) (g : Int → Int) (kd : Int) : Prop := (x ∈ L ∧ a ∈ L ∧ x ≠ a) ∧ (∃ w1 w2 w3 w5 w6 w7 w8 w9, F x = eO 8 [.ref a, w1, w2, w3, .int (iI kd), w5, w6, w7, w8, w9]) ∧ F a = eI 0 18180 g
theorem ms.mv {L : List Nat} {F F1 : Nat → PE} {x a : Nat} {g g1 : Int → Int} {kd : Int} (t : ms L F x a g kd) (h : F1 a = eI 0 18180 g1) (hf : ∀ b, b ≠ a → F1 b = F b) : ms L F1 x a g1 kd := by
  obtain ⟨t1, ⟨w1, w2, w3, w5, w6, w7, w8, w9, t2⟩, t3⟩ := t
  exact ⟨t1, ⟨w1, w2, w3, w5, w6, w7, w8, w9, (hf x t1.2.2).trans t2⟩, h⟩
def fa (a : Nat) (F F1 : Nat → PE) : Prop := ∀ b, b ≠ a → F1 b = F b
theorem fa.rf {a : Nat} {F : Nat → PE} : fa a F F := fun _ _ => rfl
theorem fa.tr {a : Nat} {F F1 F2 : Nat → PE} (h : fa a F F1) (h2 : ∀ b, b ≠ a → F2 b = F1 b) : fa a F F2 := fun b hb => (h2 b hb).trans (h b hb)
set_option maxRecDepth 100000 in
set_option maxHeartbeats 4000000 in
theorem m_X8_in (l : Launch) {L : List Nat} {F : Nat → PE} {v a b : Int} (hv : -2147483648 ≤ v ∧ v ≤ 2147483647) (ha : -2147483648 ≤ a ∧ a ≤ 2147483647) (hb : -2147483648 ≤ b ∧ b ≤ 2147483647) : PM l yX8_in cX8_in 3 (some .boolean) (rm 1 0 0) L [.int (iI v), .int (iI a), .int (iI b)] F (fun v9 L1 F1 => v9 = some (.int (iI (b2 (a ≤ v ∧ v ≤ b)))) ∧ L = L1 ∧ F = F1) (fun _ _ _ => False) := by
  refine pm_of cd_X8_in (by decide +kernel) (Nat.le_of_ble_eq_true rfl) (fun ZZ hZ => ?_)
  have hgo : ZZ 0 0 0 [some (.int (iI v)), some (.int (iI a)), some (.int (iI b))] [] L F := by
    refine z_iload_n0 hZ dX8_in_0 ?_
    refine z_iload_n1 hZ dX8_in_1 ?_
    refine z_icmp_lt hZ (tgt := 14) dX8_in_2 rfl (by omega) (fun hc2 => ?_) (fun hc2 => ?_)
    · refine z_iconst hZ dX8_in_14 ?_
      exact z_zret hZ rfl (Nat.le_of_ble_eq_true rfl) (Nat.le_of_ble_eq_true rfl) dX8_in_15 (by omega) (by exact ⟨pv (by first | exact (b2_t (by omega)).symm | exact (b2_f (by omega)).symm), rfl, rfl⟩)
    · refine z_iload_n0 hZ dX8_in_5 ?_
      refine z_iload_n2 hZ dX8_in_6 ?_
      refine z_icmp_gt hZ (tgt := 14) dX8_in_7 rfl (by omega) (fun hc7 => ?_) (fun hc7 => ?_)
      · refine z_iconst hZ dX8_in_14 ?_
        exact z_zret hZ rfl (Nat.le_of_ble_eq_true rfl) (Nat.le_of_ble_eq_true rfl) dX8_in_15 (by omega) (by exact ⟨pv (by first | exact (b2_t (by omega)).symm | exact (b2_f (by omega)).symm), rfl, rfl⟩)
      · refine z_iconst hZ dX8_in_10 ?_
        refine z_goto hZ (tgt := 15) dX8_in_11 rfl ?_
        exact z_zret hZ rfl (Nat.le_of_ble_eq_true rfl) (Nat.le_of_ble_eq_true rfl) dX8_in_15 (by omega) (by exact ⟨pv (by first | exact (b2_t (by omega)).symm | exact (b2_f (by omega)).symm), rfl, rfl⟩)
  exact hgo
set_option maxRecDepth 100000 in
set_option maxHeartbeats 4000000 in
theorem m_X8_isLetter (l : Launch) {L : List Nat} {F : Nat → PE} {v : Int} (hv : -2147483648 ≤ v ∧ v ≤ 2147483647) : PM l yX8_isLetter cX8_isLetter 1 (some .boolean) (rm 2 0 0) L [.int (iI v)] F (fun v9 L1 F1 => v9 = some (.int (iI (b2 (wdC v = true)))) ∧ L = L1 ∧ F = F1) (fun _ _ _ => False) := by
  refine pm_of cd_X8_isLetter (by decide +kernel) (Nat.le_of_ble_eq_true rfl) (fun ZZ hZ => ?_)
  have hgo : ZZ 0 0 0 [some (.int (iI v))] [] L F := by
    refine z_iload_n0 hZ dX8_isLetter_0 ?_
    refine z_bipush hZ dX8_isLetter_1 rfl ?_
    refine z_bipush hZ dX8_isLetter_3 rfl ?_
    refine z_cS hZ (As := [_, _, _]) rfl dX8_isLetter_5 ml_X8_32 wy_X8_in (m_X8_in l hv (by omega) (by omega)) ⟨Nat.le_of_ble_eq_true rfl, Nat.le_of_ble_eq_true rfl⟩ ⟨Nat.le_of_ble_eq_true rfl, Nat.le_of_ble_eq_true rfl⟩ (Nat.le_of_ble_eq_true rfl) (fun _ _ _ h => h.elim) (fun v5 L5 G5 hp5 => ?_)
    obtain ⟨rfl, rfl, rfl⟩ := hp5
    refine z_if_ne_b hZ (tgt := 33) dX8_isLetter_8 rfl (fun hc8 => ?_) (fun hc8 => ?_)
    · refine z_iconst hZ dX8_isLetter_33 ?_
      refine z_goto hZ (tgt := 38) dX8_isLetter_34 rfl ?_
      exact z_zret hZ rfl (Nat.le_of_ble_eq_true rfl) (Nat.le_of_ble_eq_true rfl) dX8_isLetter_38 (by omega) (by exact ⟨pv (by first | exact (b2_t (wdC_iff.mpr (by omega))).symm | exact (b2_f (fun z => by have := wdC_iff.mp z; omega)).symm), rfl, rfl⟩)
    · refine z_iload_n0 hZ dX8_isLetter_11 ?_
      refine z_bipush hZ dX8_isLetter_12 rfl ?_
      refine z_bipush hZ dX8_isLetter_14 rfl ?_
      refine z_cS hZ (As := [_, _, _]) rfl dX8_isLetter_16 ml_X8_32 wy_X8_in (m_X8_in l hv (by omega) (by omega)) ⟨Nat.le_of_ble_eq_true rfl, Nat.le_of_ble_eq_true rfl⟩ ⟨Nat.le_of_ble_eq_true rfl, Nat.le_of_ble_eq_true rfl⟩ (Nat.le_of_ble_eq_true rfl) (fun _ _ _ h => h.elim) (fun v16 L16 G16 hp16 => ?_)
      obtain ⟨rfl, rfl, rfl⟩ := hp16
      refine z_if_ne_b hZ (tgt := 33) dX8_isLetter_19 rfl (fun hc19 => ?_) (fun hc19 => ?_)
      · refine z_iconst hZ dX8_isLetter_33 ?_
        refine z_goto hZ (tgt := 38) dX8_isLetter_34 rfl ?_
        exact z_zret hZ rfl (Nat.le_of_ble_eq_true rfl) (Nat.le_of_ble_eq_true rfl) dX8_isLetter_38 (by omega) (by exact ⟨pv (by first | exact (b2_t (wdC_iff.mpr (by omega))).symm | exact (b2_f (fun z => by have := wdC_iff.mp z; omega)).symm), rfl, rfl⟩)
      · refine z_iload_n0 hZ dX8_isLetter_22 ?_
        refine z_bipush hZ dX8_isLetter_23 rfl ?_
        refine z_bipush hZ dX8_isLetter_25 rfl ?_
        refine z_cS hZ (As := [_, _, _]) rfl dX8_isLetter_27 ml_X8_32 wy_X8_in (m_X8_in l hv (by omega) (by omega)) ⟨Nat.le_of_ble_eq_true rfl, Nat.le_of_ble_eq_true rfl⟩ ⟨Nat.le_of_ble_eq_true rfl, Nat.le_of_ble_eq_true rfl⟩ (Nat.le_of_ble_eq_true rfl) (fun _ _ _ h => h.elim) (fun v27 L27 G27 hp27 => ?_)
        obtain ⟨rfl, rfl, rfl⟩ := hp27
        refine z_if_eq_b hZ (tgt := 37) dX8_isLetter_30 rfl (fun hc30 => ?_) (fun hc30 => ?_)
        · refine z_iconst hZ dX8_isLetter_37 ?_
          exact z_zret hZ rfl (Nat.le_of_ble_eq_true rfl) (Nat.le_of_ble_eq_true rfl) dX8_isLetter_38 (by omega) (by exact ⟨pv (by first | exact (b2_t (wdC_iff.mpr (by omega))).symm | exact (b2_f (fun z => by have := wdC_iff.mp z; omega)).symm), rfl, rfl⟩)
        · refine z_iconst hZ dX8_isLetter_33 ?_
          refine z_goto hZ (tgt := 38) dX8_isLetter_34 rfl ?_
          exact z_zret hZ rfl (Nat.le_of_ble_eq_true rfl) (Nat.le_of_ble_eq_true rfl) dX8_isLetter_38 (by omega) (by exact ⟨pv (by first | exact (b2_t (wdC_iff.mpr (by omega))).symm | exact (b2_f (fun z => by have := wdC_iff.mp z; omega)).symm), rfl, rfl⟩)
  exact hgo
set_option maxRecDepth 100000 in
set_option maxHeartbeats 4000000 in
theorem m_X8_code (l : Launch) {L : List Nat} {F : Nat → PE} {x a : Nat} {g : Int → Int} {kd i : Int} (t : ms L F x a g kd) (hi : -18 ≤ i ∧ i < 18162) : PM l yX8_code cX8_code 2 (some .int) (rm 1 0 0) L [.ref x, .int (iI i)] F (fun v9 L1 F1 => v9 = some (.int (iI (g (18 + i)))) ∧ L = L1 ∧ F = F1) (fun _ _ _ => False) := by
  refine pm_of cd_X8_code (by decide +kernel) (Nat.le_of_ble_eq_true rfl) (fun ZZ hZ => ?_)
  have hgo : ZZ 0 0 0 [some (.ref x), some (.int (iI i))] [] L F := by
    obtain ⟨⟨hx, ha, hxa⟩, ⟨w1, w2, w3, w5, w6, w7, w8, w9, hF⟩, hg⟩ := t
    refine z_aload_n0 hZ dX8_code_0 ?_
    refine z_gf_X8_s hZ dX8_code_1 fl_X8_7 (by assumption) (by assumption) ?_
    refine z_bipush hZ dX8_code_4 rfl ?_
    refine z_iload_n1 hZ dX8_code_6 ?_
    refine z_iadd hZ dX8_code_7 ?_
    refine z_iald hZ dX8_code_8 (by assumption) (by assumption) (by omega) (by (repeat (refine (wu_n (by omega)).trans ?_)); first | exact wu_s | exact wu_e (by omega) | exact if_neg (by omega) | rfl) ?_
    exact z_iret hZ rfl (Nat.le_of_ble_eq_true rfl) (Nat.le_of_ble_eq_true rfl) dX8_code_9 (by exact ⟨rfl, rfl, rfl⟩)
  exact hgo
theorem isW_g {g : Int → Int} {n i : Int} (h : 0 ≤ i ∧ i < n) : isW n (fT g) i = wdC (g (18 + i)) := by
  unfold isW
  rw [cdA_in h]
  rfl
set_option maxRecDepth 100000 in
set_option maxHeartbeats 4000000 in
theorem m_X8_isWord (l : Launch) {L : List Nat} {F : Nat → PE} {x a : Nat} {g : Int → Int} {kd i : Int} (t : ms L F x a g kd) (v : vf g kd) (hi : -1 ≤ i ∧ i ≤ 1000) : PM l yX8_isWord cX8_isWord 2 (some .boolean) (rm 3 0 0) L [.ref x, .int (iI i)] F (fun v9 L1 F1 => v9 = some (.int (iI (b2 (isW (g 0) (fT g) i = true)))) ∧ L = L1 ∧ F = F1) (fun _ _ _ => False) := by
  refine pm_of cd_X8_isWord (by decide +kernel) (Nat.le_of_ble_eq_true rfl) (fun ZZ hZ => ?_)
  have hgo : ZZ 0 0 0 [some (.ref x), some (.int (iI i))] [] L F := by
    have t1 := t
    obtain ⟨⟨hx, ha, hxa⟩, ⟨w1, w2, w3, w5, w6, w7, w8, w9, hF⟩, hg⟩ := t
    have r := v.1
    have hc := v.2.2.1 i
    have wo := isW_out (n := g 0) (f := fT g) (i := i)
    have wi := isW_g (g := g) (n := g 0) (i := i)
    unfold fT at hc
    refine z_iload_n1 hZ dX8_isWord_0 ?_
    refine z_iconst hZ dX8_isWord_1 ?_
    refine z_aload_n0 hZ dX8_isWord_2 ?_
    refine z_gf_X8_s hZ dX8_isWord_3 fl_X8_7 (by assumption) (by assumption) ?_
    refine z_iconst hZ dX8_isWord_6 ?_
    refine z_iald hZ dX8_isWord_7 (by assumption) (by assumption) (by omega) (by (repeat (refine (wu_n (by omega)).trans ?_)); first | exact wu_s | exact wu_e (by omega) | exact if_neg (by omega) | rfl) ?_
    refine z_iconst hZ dX8_isWord_8 ?_
    refine z_isub hZ dX8_isWord_9 ?_
    refine z_cS hZ (As := [_, _, _]) rfl dX8_isWord_10 ml_X8_32 wy_X8_in (m_X8_in l (by omega) (by omega) (by omega)) ⟨Nat.le_of_ble_eq_true rfl, Nat.le_of_ble_eq_true rfl⟩ ⟨Nat.le_of_ble_eq_true rfl, Nat.le_of_ble_eq_true rfl⟩ (Nat.le_of_ble_eq_true rfl) (fun _ _ _ h => h.elim) (fun v10 L10 G10 hp10 => ?_)
    obtain ⟨rfl, rfl, rfl⟩ := hp10
    refine z_if_eq_b hZ (tgt := 31) dX8_isWord_13 rfl (fun hc13 => ?_) (fun hc13 => ?_)
    · refine z_iconst hZ dX8_isWord_31 ?_
      exact z_zret hZ rfl (Nat.le_of_ble_eq_true rfl) (Nat.le_of_ble_eq_true rfl) dX8_isWord_32 (by omega) (by
            refine ⟨pv ?_, rfl, rfl⟩
            first
              | exact (b2_t ((wi (by omega)).trans (by assumption))).symm
              | exact (b2_f (wo (by omega))).symm
              | exact (b2_f (fun z => absurd ((wi (by omega)).symm.trans z) (by assumption))).symm)
    · refine z_aload_n0 hZ dX8_isWord_16 ?_
      refine z_iload_n1 hZ dX8_isWord_17 ?_
      refine z_cV hZ (As := [_]) rfl dX8_isWord_18 ml_X8_36 wy_X8_code (m_X8_code l t1 (by omega)) (by assumption) (by assumption) rfl ⟨Nat.le_of_ble_eq_true rfl, Nat.le_of_ble_eq_true rfl⟩ ⟨Nat.le_of_ble_eq_true rfl, Nat.le_of_ble_eq_true rfl⟩ (Nat.le_of_ble_eq_true rfl) (fun _ _ _ h => h.elim) (fun v18 L18 G18 hp18 => ?_)
      obtain ⟨rfl, rfl, rfl⟩ := hp18
      refine z_cS hZ (As := [_]) rfl dX8_isWord_21 ml_X8_40 wy_X8_isLetter (m_X8_isLetter l (by have := hc (by omega) (by omega); omega)) ⟨Nat.le_of_ble_eq_true rfl, Nat.le_of_ble_eq_true rfl⟩ ⟨Nat.le_of_ble_eq_true rfl, Nat.le_of_ble_eq_true rfl⟩ (Nat.le_of_ble_eq_true rfl) (fun _ _ _ h => h.elim) (fun v21 L21 G21 hp21 => ?_)
      obtain ⟨rfl, rfl, rfl⟩ := hp21
      refine z_if_eq_b hZ (tgt := 31) dX8_isWord_24 rfl (fun hc24 => ?_) (fun hc24 => ?_)
      · refine z_iconst hZ dX8_isWord_31 ?_
        exact z_zret hZ rfl (Nat.le_of_ble_eq_true rfl) (Nat.le_of_ble_eq_true rfl) dX8_isWord_32 (by omega) (by
            refine ⟨pv ?_, rfl, rfl⟩
            first
              | exact (b2_t ((wi (by omega)).trans (by assumption))).symm
              | exact (b2_f (wo (by omega))).symm
              | exact (b2_f (fun z => absurd ((wi (by omega)).symm.trans z) (by assumption))).symm)
      · refine z_iconst hZ dX8_isWord_27 ?_
        refine z_goto hZ (tgt := 32) dX8_isWord_28 rfl ?_
        exact z_zret hZ rfl (Nat.le_of_ble_eq_true rfl) (Nat.le_of_ble_eq_true rfl) dX8_isWord_32 (by omega) (by
            refine ⟨pv ?_, rfl, rfl⟩
            first
              | exact (b2_t ((wi (by omega)).trans (by assumption))).symm
              | exact (b2_f (wo (by omega))).symm
              | exact (b2_f (fun z => absurd ((wi (by omega)).symm.trans z) (by assumption))).symm)
  exact hgo
set_option maxRecDepth 100000 in
set_option maxHeartbeats 4000000 in
theorem m_X8_behindWord (l : Launch) {L : List Nat} {F : Nat → PE} {x a : Nat} {g : Int → Int} {kd p : Int} (t : ms L F x a g kd) (v : vf g kd) (hi : 0 ≤ p ∧ p ≤ g 0) : PM l yX8_behindWord cX8_behindWord 3 (some .int) (rm 4 0 0) L [.ref x, .int (iI p)] F (fun v9 L1 F1 => v9 = some (.int (iI (wS (g 0) (fT g) p))) ∧ L = L1 ∧ F = F1) (fun _ _ _ => False) := by
  refine pm_of cd_X8_behindWord (by decide +kernel) (Nat.le_of_ble_eq_true rfl) (fun ZZ hZ => ?_)
  have hgo : ZZ 0 0 0 [some (.ref x), some (.int (iI p)), none] [] L F := by
    have t1 := t
    obtain ⟨⟨hx, ha, hxa⟩, ⟨w1, w2, w3, w5, w6, w7, w8, w9, hF⟩, hg⟩ := t
    have r := v.1
    have l2 : ∀ (m : Nat) (i : Int), (g 0 - i).toNat = m → 0 ≤ i → i ≤ g 0 → up (isW (g 0) (fT g)) (g 0) i = wS (g 0) (fT g) p → ZZ 0 0 26 [some (.ref x), some (.int (iI p)), some (.int (iI i))] [] L F := by
      intro m
      induction m with
      | zero =>
        intro i hm i0 i1 h
        have wo := isW_out (n := g 0) (f := fT g) (i := i) (by omega)
        refine z_aload_n0 hZ dX8_behindWord_26 ?_
        refine z_iload_n2 hZ dX8_behindWord_27 ?_
        refine z_cV hZ (As := [_]) rfl dX8_behindWord_28 ml_X8_44 wy_X8_isWord (m_X8_isWord l t1 v (by omega)) (by assumption) (by assumption) rfl ⟨Nat.le_of_ble_eq_true rfl, Nat.le_of_ble_eq_true rfl⟩ ⟨Nat.le_of_ble_eq_true rfl, Nat.le_of_ble_eq_true rfl⟩ (Nat.le_of_ble_eq_true rfl) (fun _ _ _ h => h.elim) (fun v28 L28 G28 hp28 => ?_)
        obtain ⟨rfl, rfl, rfl⟩ := hp28
        refine z_if_eq_b hZ (tgt := 40) dX8_behindWord_31 rfl (fun hc31 => ?_) (fun hc31 => ?_)
        · refine z_iload_n2 hZ dX8_behindWord_40 ?_
          exact z_iret hZ rfl (Nat.le_of_ble_eq_true rfl) (Nat.le_of_ble_eq_true rfl) dX8_behindWord_41 (by exact ⟨pv (by rw [← h, up_no (by omega)]), rfl, rfl⟩)
        · exact absurd (by assumption) wo
      | succ m ih =>
        intro i hm i0 i1 h
        refine z_aload_n0 hZ dX8_behindWord_26 ?_
        refine z_iload_n2 hZ dX8_behindWord_27 ?_
        refine z_cV hZ (As := [_]) rfl dX8_behindWord_28 ml_X8_44 wy_X8_isWord (m_X8_isWord l t1 v (by omega)) (by assumption) (by assumption) rfl ⟨Nat.le_of_ble_eq_true rfl, Nat.le_of_ble_eq_true rfl⟩ ⟨Nat.le_of_ble_eq_true rfl, Nat.le_of_ble_eq_true rfl⟩ (Nat.le_of_ble_eq_true rfl) (fun _ _ _ h => h.elim) (fun v28 L28 G28 hp28 => ?_)
        obtain ⟨rfl, rfl, rfl⟩ := hp28
        refine z_if_eq_b hZ (tgt := 40) dX8_behindWord_31 rfl (fun hc31 => ?_) (fun hc31 => ?_)
        · refine z_iload_n2 hZ dX8_behindWord_40 ?_
          exact z_iret hZ rfl (Nat.le_of_ble_eq_true rfl) (Nat.le_of_ble_eq_true rfl) dX8_behindWord_41 (by exact ⟨pv (by rw [← h, up_no (fun z => absurd z.2 (by assumption))]), rfl, rfl⟩)
        · refine z_iinc2 hZ dX8_behindWord_34 (by decide) rfl ?_
          refine z_goto hZ (tgt := 26) dX8_behindWord_37 rfl ?_
          exact ih (i + 1) (by omega) (by omega) (by omega) (by rw [← h, up_go (i := i) (by omega) (by assumption)])
    have l1 : ∀ (m : Nat) (i : Int), (g 0 - i).toNat = m → 0 ≤ i → i ≤ g 0 → up (fun i => !isW (g 0) (fT g) i) (g 0) i = up (fun i => !isW (g 0) (fT g) i) (g 0) p → ZZ 0 0 2 [some (.ref x), some (.int (iI p)), some (.int (iI i))] [] L F := by
      intro m
      induction m with
      | zero =>
        intro i hm i0 i1 h
        refine z_iload_n2 hZ dX8_behindWord_2 ?_
        refine z_aload_n0 hZ dX8_behindWord_3 ?_
        refine z_gf_X8_s hZ dX8_behindWord_4 fl_X8_7 (by assumption) (by assumption) ?_
        refine z_iconst hZ dX8_behindWord_7 ?_
        refine z_iald hZ dX8_behindWord_8 (by assumption) (by assumption) (by omega) (by (repeat (refine (wu_n (by omega)).trans ?_)); first | exact wu_s | exact wu_e (by omega) | exact if_neg (by omega) | rfl) ?_
        refine z_icmp_ge hZ (tgt := 26) dX8_behindWord_9 rfl (by omega) (fun hc9 => ?_) (fun hc9 => ?_)
        · exact l2 _ i rfl i0 i1 (by unfold wS; rw [← h, up_no (P := fun i => !isW (g 0) (fT g) i) (by omega)])
        · exfalso; omega
      | succ m ih =>
        intro i hm i0 i1 h
        refine z_iload_n2 hZ dX8_behindWord_2 ?_
        refine z_aload_n0 hZ dX8_behindWord_3 ?_
        refine z_gf_X8_s hZ dX8_behindWord_4 fl_X8_7 (by assumption) (by assumption) ?_
        refine z_iconst hZ dX8_behindWord_7 ?_
        refine z_iald hZ dX8_behindWord_8 (by assumption) (by assumption) (by omega) (by (repeat (refine (wu_n (by omega)).trans ?_)); first | exact wu_s | exact wu_e (by omega) | exact if_neg (by omega) | rfl) ?_
        refine z_icmp_ge hZ (tgt := 26) dX8_behindWord_9 rfl (by omega) (fun hc9 => ?_) (fun hc9 => ?_)
        · first
            | (exfalso; omega)
            | exact l2 _ i rfl i0 i1 (by unfold wS; rw [← h, up_no (P := fun i => !isW (g 0) (fT g) i) (fun z => nb_t.mp z.2 (by assumption))])
        · refine z_aload_n0 hZ dX8_behindWord_12 ?_
          refine z_iload_n2 hZ dX8_behindWord_13 ?_
          refine z_cV hZ (As := [_]) rfl dX8_behindWord_14 ml_X8_44 wy_X8_isWord (m_X8_isWord l t1 v (by omega)) (by assumption) (by assumption) rfl ⟨Nat.le_of_ble_eq_true rfl, Nat.le_of_ble_eq_true rfl⟩ ⟨Nat.le_of_ble_eq_true rfl, Nat.le_of_ble_eq_true rfl⟩ (Nat.le_of_ble_eq_true rfl) (fun _ _ _ h => h.elim) (fun v14 L14 G14 hp14 => ?_)
          obtain ⟨rfl, rfl, rfl⟩ := hp14
          refine z_if_ne_b hZ (tgt := 26) dX8_behindWord_17 rfl (fun hc17 => ?_) (fun hc17 => ?_)
          · first
              | (exfalso; omega)
              | exact l2 _ i rfl i0 i1 (by unfold wS; rw [← h, up_no (P := fun i => !isW (g 0) (fT g) i) (fun z => nb_t.mp z.2 (by assumption))])
          · refine z_iinc2 hZ dX8_behindWord_20 (by decide) rfl ?_
            refine z_goto hZ (tgt := 2) dX8_behindWord_23 rfl ?_
            exact ih (i + 1) (by omega) (by omega) (by omega) (by rw [← h, up_go (P := fun i => !isW (g 0) (fT g) i) (i := i) (by omega) (nb_t.mpr (by assumption))])
    refine z_iload_n1 hZ dX8_behindWord_0 ?_
    refine z_istore_n2 hZ dX8_behindWord_1 (by decide) rfl ?_
    exact l1 _ p rfl hi.1 hi.2 rfl
  exact hgo
set_option maxRecDepth 100000 in
set_option maxHeartbeats 4000000 in
theorem m_X8_aheadOfWord (l : Launch) {L : List Nat} {F : Nat → PE} {x a : Nat} {g : Int → Int} {kd p : Int} (t : ms L F x a g kd) (v : vf g kd) (hi : 0 ≤ p ∧ p ≤ g 0) : PM l yX8_aheadOfWord cX8_aheadOfWord 3 (some .int) (rm 4 0 0) L [.ref x, .int (iI p)] F (fun v9 L1 F1 => v9 = some (.int (iI (wB (g 0) (fT g) p))) ∧ L = L1 ∧ F = F1) (fun _ _ _ => False) := by
  refine pm_of cd_X8_aheadOfWord (by decide +kernel) (Nat.le_of_ble_eq_true rfl) (fun ZZ hZ => ?_)
  have hgo : ZZ 0 0 0 [some (.ref x), some (.int (iI p)), none] [] L F := by
    have t1 := t
    obtain ⟨⟨hx, ha, hxa⟩, ⟨w1, w2, w3, w5, w6, w7, w8, w9, hF⟩, hg⟩ := id t
    have r := v.1
    have l2 : ∀ (m : Nat) (i : Int), i.toNat = m → 0 ≤ i → i ≤ g 0 → dn (isW (g 0) (fT g)) i = wB (g 0) (fT g) p → ZZ 0 0 22 [some (.ref x), some (.int (iI p)), some (.int (iI i))] [] L F := by
      intro m
      induction m with
      | zero =>
        intro i hm i0 i1 h
        have wo := isW_out (n := g 0) (f := fT g) (i := i - 1) (by omega)
        refine z_aload_n0 hZ dX8_aheadOfWord_22 ?_
        refine z_iload_n2 hZ dX8_aheadOfWord_23 ?_
        refine z_iconst hZ dX8_aheadOfWord_24 ?_
        refine z_isub hZ dX8_aheadOfWord_25 ?_
        refine z_cV hZ (As := [_]) rfl dX8_aheadOfWord_26 ml_X8_44 wy_X8_isWord (m_X8_isWord l t1 v (by omega)) (by assumption) (by assumption) rfl ⟨Nat.le_of_ble_eq_true rfl, Nat.le_of_ble_eq_true rfl⟩ ⟨Nat.le_of_ble_eq_true rfl, Nat.le_of_ble_eq_true rfl⟩ (Nat.le_of_ble_eq_true rfl) (fun _ _ _ h => h.elim) (fun v26 L26 G26 hp26 => ?_)
        obtain ⟨rfl, rfl, rfl⟩ := hp26
        refine z_if_eq_b hZ (tgt := 38) dX8_aheadOfWord_29 rfl (fun hc29 => ?_) (fun hc29 => ?_)
        · refine z_iload_n2 hZ dX8_aheadOfWord_38 ?_
          exact z_iret hZ rfl (Nat.le_of_ble_eq_true rfl) (Nat.le_of_ble_eq_true rfl) dX8_aheadOfWord_39 (by exact ⟨pv (by rw [← h, dn_no (by omega)]), rfl, rfl⟩)
        · exact absurd (by assumption) wo
      | succ m ih =>
        intro i hm i0 i1 h
        refine z_aload_n0 hZ dX8_aheadOfWord_22 ?_
        refine z_iload_n2 hZ dX8_aheadOfWord_23 ?_
        refine z_iconst hZ dX8_aheadOfWord_24 ?_
        refine z_isub hZ dX8_aheadOfWord_25 ?_
        refine z_cV hZ (As := [_]) rfl dX8_aheadOfWord_26 ml_X8_44 wy_X8_isWord (m_X8_isWord l t1 v (by omega)) (by assumption) (by assumption) rfl ⟨Nat.le_of_ble_eq_true rfl, Nat.le_of_ble_eq_true rfl⟩ ⟨Nat.le_of_ble_eq_true rfl, Nat.le_of_ble_eq_true rfl⟩ (Nat.le_of_ble_eq_true rfl) (fun _ _ _ h => h.elim) (fun v26 L26 G26 hp26 => ?_)
        obtain ⟨rfl, rfl, rfl⟩ := hp26
        refine z_if_eq_b hZ (tgt := 38) dX8_aheadOfWord_29 rfl (fun hc29 => ?_) (fun hc29 => ?_)
        · refine z_iload_n2 hZ dX8_aheadOfWord_38 ?_
          exact z_iret hZ rfl (Nat.le_of_ble_eq_true rfl) (Nat.le_of_ble_eq_true rfl) dX8_aheadOfWord_39 (by exact ⟨pv (by rw [← h, dn_no (fun z => absurd z.2 (by assumption))]), rfl, rfl⟩)
        · refine z_iinc2 hZ dX8_aheadOfWord_32 (by decide) rfl ?_
          refine z_goto hZ (tgt := 22) dX8_aheadOfWord_35 rfl ?_
          exact ih (i + -1) (by omega) (by omega) (by omega) (by rw [← h, dn_go (i := i) (by omega) (by assumption), Int.sub_eq_add_neg])
    have l1 : ∀ (m : Nat) (i : Int), i.toNat = m → 0 ≤ i → i ≤ g 0 → dn (fun i => !isW (g 0) (fT g) i) i = dn (fun i => !isW (g 0) (fT g) i) p → ZZ 0 0 2 [some (.ref x), some (.int (iI p)), some (.int (iI i))] [] L F := by
      intro m
      induction m with
      | zero =>
        intro i hm i0 i1 h
        refine z_iload_n2 hZ dX8_aheadOfWord_2 ?_
        refine z_if_le hZ (tgt := 22) dX8_aheadOfWord_3 rfl (by omega) (fun hc3 => ?_) (fun hc3 => ?_)
        · exact l2 _ i rfl i0 i1 (by unfold wB; rw [← h, dn_no (P := fun i => !isW (g 0) (fT g) i) (by omega)])
        · exfalso; omega
      | succ m ih =>
        intro i hm i0 i1 h
        refine z_iload_n2 hZ dX8_aheadOfWord_2 ?_
        refine z_if_le hZ (tgt := 22) dX8_aheadOfWord_3 rfl (by omega) (fun hc3 => ?_) (fun hc3 => ?_)
        · first
            | (exfalso; omega)
            | exact l2 _ i rfl i0 i1 (by unfold wB; rw [← h, dn_no (P := fun i => !isW (g 0) (fT g) i) (fun z => nb_t.mp z.2 (by assumption))])
        · refine z_aload_n0 hZ dX8_aheadOfWord_6 ?_
          refine z_iload_n2 hZ dX8_aheadOfWord_7 ?_
          refine z_iconst hZ dX8_aheadOfWord_8 ?_
          refine z_isub hZ dX8_aheadOfWord_9 ?_
          refine z_cV hZ (As := [_]) rfl dX8_aheadOfWord_10 ml_X8_44 wy_X8_isWord (m_X8_isWord l t1 v (by omega)) (by assumption) (by assumption) rfl ⟨Nat.le_of_ble_eq_true rfl, Nat.le_of_ble_eq_true rfl⟩ ⟨Nat.le_of_ble_eq_true rfl, Nat.le_of_ble_eq_true rfl⟩ (Nat.le_of_ble_eq_true rfl) (fun _ _ _ h => h.elim) (fun v10 L10 G10 hp10 => ?_)
          obtain ⟨rfl, rfl, rfl⟩ := hp10
          refine z_if_ne_b hZ (tgt := 22) dX8_aheadOfWord_13 rfl (fun hc13 => ?_) (fun hc13 => ?_)
          · first
              | (exfalso; omega)
              | exact l2 _ i rfl i0 i1 (by unfold wB; rw [← h, dn_no (P := fun i => !isW (g 0) (fT g) i) (fun z => nb_t.mp z.2 (by assumption))])
          · refine z_iinc2 hZ dX8_aheadOfWord_16 (by decide) rfl ?_
            refine z_goto hZ (tgt := 2) dX8_aheadOfWord_19 rfl ?_
            exact ih (i + -1) (by omega) (by omega) (by omega) (by rw [← h, dn_go (P := fun i => !isW (g 0) (fT g) i) (i := i) (by omega) (nb_t.mpr (by assumption)), Int.sub_eq_add_neg])
    refine z_iload_n1 hZ dX8_aheadOfWord_0 ?_
    refine z_istore_n2 hZ dX8_aheadOfWord_1 (by decide) rfl ?_
    exact l1 _ p rfl hi.1 hi.2 rfl
  exact hgo
theorem isE_g {g : Int → Int} {n i : Int} (h : 0 ≤ i ∧ i < n) : isE n (fT g) i = true ↔ g (18 + i) = 10 := by
  rw [isE_iff, cdA_in h]
  exact Iff.rfl
set_option maxRecDepth 100000 in
set_option maxHeartbeats 4000000 in
theorem m_X8_beginOf (l : Launch) {L : List Nat} {F : Nat → PE} {x a : Nat} {g : Int → Int} {kd p : Int} (t : ms L F x a g kd) (v : vf g kd) (hi : 0 ≤ p ∧ p ≤ g 0) : PM l yX8_beginOf cX8_beginOf 3 (some .int) (rm 2 0 0) L [.ref x, .int (iI p)] F (fun v9 L1 F1 => v9 = some (.int (iI (lB (g 0) (fT g) p))) ∧ L = L1 ∧ F = F1) (fun _ _ _ => False) := by
  refine pm_of cd_X8_beginOf (by decide +kernel) (Nat.le_of_ble_eq_true rfl) (fun ZZ hZ => ?_)
  have hgo : ZZ 0 0 0 [some (.ref x), some (.int (iI p)), none] [] L F := by
    obtain ⟨⟨hx, ha, hxa⟩, ⟨w1, w2, w3, w5, w6, w7, w8, w9, hF⟩, hg⟩ := id t
    have r := v.1
    have l1 : ∀ (m : Nat) (i : Int), i.toNat = m → 0 ≤ i → i ≤ g 0 → lB (g 0) (fT g) i = lB (g 0) (fT g) p → ZZ 0 0 2 [some (.ref x), some (.int (iI p)), some (.int (iI i))] [] L F := by
      intro m
      induction m with
      | zero =>
        intro i hm i0 i1 h
        refine z_iload_n2 hZ dX8_beginOf_2 ?_
        refine z_if_le hZ (tgt := 24) dX8_beginOf_3 rfl (by omega) (fun hc3 => ?_) (fun hc3 => ?_)
        · refine z_iload_n2 hZ dX8_beginOf_24 ?_
          exact z_iret hZ rfl (Nat.le_of_ble_eq_true rfl) (Nat.le_of_ble_eq_true rfl) dX8_beginOf_25 (by exact ⟨pv (by rw [← h]; unfold lB; rw [dn_no (by omega)]), rfl, rfl⟩)
        · exfalso; omega
      | succ m ih =>
        intro i hm i0 i1 h
        have hc := v.2.2.1 (i - 1) (by omega) (by omega)
        have ie := isE_g (g := g) (n := g 0) (i := i - 1) (by omega)
        unfold fT at hc
        refine z_iload_n2 hZ dX8_beginOf_2 ?_
        refine z_if_le hZ (tgt := 24) dX8_beginOf_3 rfl (by omega) (fun hc3 => ?_) (fun hc3 => ?_)
        · refine z_iload_n2 hZ dX8_beginOf_24 ?_
          exact z_iret hZ rfl (Nat.le_of_ble_eq_true rfl) (Nat.le_of_ble_eq_true rfl) dX8_beginOf_25 (by
            first
              | (exfalso; omega)
              | exact ⟨pv (by rw [← h]; unfold lB; rw [dn_no (P := fun i => !isE (g 0) (fT g) i) (fun z => nb_t.mp z.2 (ie.mpr (by assumption)))]), rfl, rfl⟩)
        · refine z_aload_n0 hZ dX8_beginOf_6 ?_
          refine z_iload_n2 hZ dX8_beginOf_7 ?_
          refine z_iconst hZ dX8_beginOf_8 ?_
          refine z_isub hZ dX8_beginOf_9 ?_
          refine z_cV hZ (As := [_]) rfl dX8_beginOf_10 ml_X8_36 wy_X8_code (m_X8_code l t (by omega)) (by assumption) (by assumption) rfl ⟨Nat.le_of_ble_eq_true rfl, Nat.le_of_ble_eq_true rfl⟩ ⟨Nat.le_of_ble_eq_true rfl, Nat.le_of_ble_eq_true rfl⟩ (Nat.le_of_ble_eq_true rfl) (fun _ _ _ h => h.elim) (fun v10 L10 G10 hp10 => ?_)
          obtain ⟨rfl, rfl, rfl⟩ := hp10
          refine z_bipush hZ dX8_beginOf_13 rfl ?_
          refine z_icmp_eq hZ (tgt := 24) dX8_beginOf_15 rfl (by omega) (fun hc15 => ?_) (fun hc15 => ?_)
          · refine z_iload_n2 hZ dX8_beginOf_24 ?_
            exact z_iret hZ rfl (Nat.le_of_ble_eq_true rfl) (Nat.le_of_ble_eq_true rfl) dX8_beginOf_25 (by
            first
              | (exfalso; omega)
              | exact ⟨pv (by rw [← h]; unfold lB; rw [dn_no (P := fun i => !isE (g 0) (fT g) i) (fun z => nb_t.mp z.2 (ie.mpr (by assumption)))]), rfl, rfl⟩)
          · refine z_iinc2 hZ dX8_beginOf_18 (by decide) rfl ?_
            refine z_goto hZ (tgt := 2) dX8_beginOf_21 rfl ?_
            exact ih (i + -1) (by omega) (by omega) (by omega) (by rw [← h, ← Int.sub_eq_add_neg]; unfold lB; rw [dn_go (P := fun i => !isE (g 0) (fT g) i) (i := i) (by omega) (nb_t.mpr (fun z => absurd (ie.mp z) (by assumption)))])
    refine z_iload_n1 hZ dX8_beginOf_0 ?_
    refine z_istore_n2 hZ dX8_beginOf_1 (by decide) rfl ?_
    exact l1 _ p rfl hi.1 hi.2 rfl
  exact hgo
set_option maxRecDepth 100000 in
set_option maxHeartbeats 4000000 in
theorem m_X8_endOf (l : Launch) {L : List Nat} {F : Nat → PE} {x a : Nat} {g : Int → Int} {kd p : Int} (t : ms L F x a g kd) (v : vf g kd) (hi : 0 ≤ p ∧ p ≤ g 0) : PM l yX8_endOf cX8_endOf 3 (some .int) (rm 2 0 0) L [.ref x, .int (iI p)] F (fun v9 L1 F1 => v9 = some (.int (iI (lE (g 0) (fT g) p))) ∧ L = L1 ∧ F = F1) (fun _ _ _ => False) := by
  refine pm_of cd_X8_endOf (by decide +kernel) (Nat.le_of_ble_eq_true rfl) (fun ZZ hZ => ?_)
  have hgo : ZZ 0 0 0 [some (.ref x), some (.int (iI p)), none] [] L F := by
    have t1 := t
    obtain ⟨⟨hx, ha, hxa⟩, ⟨w1, w2, w3, w5, w6, w7, w8, w9, hF⟩, hg⟩ := t
    have r := v.1
    have l1 : ∀ (m : Nat) (i : Int), (g 0 - i).toNat = m → 0 ≤ i → i ≤ g 0 → lE (g 0) (fT g) i = lE (g 0) (fT g) p → ZZ 0 0 2 [some (.ref x), some (.int (iI p)), some (.int (iI i))] [] L F := by
      intro m
      induction m with
      | zero =>
        intro i hm i0 i1 h
        refine z_iload_n2 hZ dX8_endOf_2 ?_
        refine z_aload_n0 hZ dX8_endOf_3 ?_
        refine z_gf_X8_s hZ dX8_endOf_4 fl_X8_7 (by assumption) (by assumption) ?_
        refine z_iconst hZ dX8_endOf_7 ?_
        refine z_iald hZ dX8_endOf_8 (by assumption) (by assumption) (by omega) (by (repeat (refine (wu_n (by omega)).trans ?_)); first | exact wu_s | exact wu_e (by omega) | exact if_neg (by omega) | rfl) ?_
        refine z_icmp_ge hZ (tgt := 28) dX8_endOf_9 rfl (by omega) (fun hc9 => ?_) (fun hc9 => ?_)
        · refine z_iload_n2 hZ dX8_endOf_28 ?_
          exact z_iret hZ rfl (Nat.le_of_ble_eq_true rfl) (Nat.le_of_ble_eq_true rfl) dX8_endOf_29 (by exact ⟨pv (by rw [← h]; unfold lE; rw [up_no (by omega)]), rfl, rfl⟩)
        · exfalso; omega
      | succ m ih =>
        intro i hm i0 i1 h
        have hc := v.2.2.1 i (by omega) (by omega)
        have ie := isE_g (g := g) (n := g 0) (i := i) (by omega)
        unfold fT at hc
        refine z_iload_n2 hZ dX8_endOf_2 ?_
        refine z_aload_n0 hZ dX8_endOf_3 ?_
        refine z_gf_X8_s hZ dX8_endOf_4 fl_X8_7 (by assumption) (by assumption) ?_
        refine z_iconst hZ dX8_endOf_7 ?_
        refine z_iald hZ dX8_endOf_8 (by assumption) (by assumption) (by omega) (by (repeat (refine (wu_n (by omega)).trans ?_)); first | exact wu_s | exact wu_e (by omega) | exact if_neg (by omega) | rfl) ?_
        refine z_icmp_ge hZ (tgt := 28) dX8_endOf_9 rfl (by omega) (fun hc9 => ?_) (fun hc9 => ?_)
        · refine z_iload_n2 hZ dX8_endOf_28 ?_
          exact z_iret hZ rfl (Nat.le_of_ble_eq_true rfl) (Nat.le_of_ble_eq_true rfl) dX8_endOf_29 (by
            first
              | (exfalso; omega)
              | exact ⟨pv (by rw [← h]; unfold lE; rw [up_no (P := fun i => !isE (g 0) (fT g) i) (fun z => nb_t.mp z.2 (ie.mpr (by assumption)))]), rfl, rfl⟩)
        · refine z_aload_n0 hZ dX8_endOf_12 ?_
          refine z_iload_n2 hZ dX8_endOf_13 ?_
          refine z_cV hZ (As := [_]) rfl dX8_endOf_14 ml_X8_36 wy_X8_code (m_X8_code l t1 (by omega)) (by assumption) (by assumption) rfl ⟨Nat.le_of_ble_eq_true rfl, Nat.le_of_ble_eq_true rfl⟩ ⟨Nat.le_of_ble_eq_true rfl, Nat.le_of_ble_eq_true rfl⟩ (Nat.le_of_ble_eq_true rfl) (fun _ _ _ h => h.elim) (fun v14 L14 G14 hp14 => ?_)
          obtain ⟨rfl, rfl, rfl⟩ := hp14
          refine z_bipush hZ dX8_endOf_17 rfl ?_
          refine z_icmp_eq hZ (tgt := 28) dX8_endOf_19 rfl (by omega) (fun hc19 => ?_) (fun hc19 => ?_)
          · refine z_iload_n2 hZ dX8_endOf_28 ?_
            exact z_iret hZ rfl (Nat.le_of_ble_eq_true rfl) (Nat.le_of_ble_eq_true rfl) dX8_endOf_29 (by
            first
              | (exfalso; omega)
              | exact ⟨pv (by rw [← h]; unfold lE; rw [up_no (P := fun i => !isE (g 0) (fT g) i) (fun z => nb_t.mp z.2 (ie.mpr (by assumption)))]), rfl, rfl⟩)
          · refine z_iinc2 hZ dX8_endOf_22 (by decide) rfl ?_
            refine z_goto hZ (tgt := 2) dX8_endOf_25 rfl ?_
            exact ih (i + 1) (by omega) (by omega) (by omega) (by rw [← h]; unfold lE; rw [up_go (P := fun i => !isE (g 0) (fT g) i) (i := i) (by omega) (nb_t.mpr (fun z => absurd (ie.mp z) (by assumption)))])
    refine z_iload_n1 hZ dX8_endOf_0 ?_
    refine z_istore_n2 hZ dX8_endOf_1 (by decide) rfl ?_
    exact l1 _ p rfl hi.1 hi.2 rfl
  exact hgo
set_option maxRecDepth 100000 in
set_option maxHeartbeats 4000000 in
theorem m_X8_moved (l : Launch) {L : List Nat} {F : Nat → PE} {p i j : Int} (hr : -1 ≤ p ∧ p ≤ 1000 ∧ 0 ≤ i ∧ i ≤ j ∧ j ≤ 1000) : PM l yX8_moved cX8_moved 3 (some .int) (rm 1 0 0) L [.int (iI p), .int (iI i), .int (iI j)] F (fun v9 L1 F1 => v9 = some (.int (iI (mvA p i j))) ∧ L = L1 ∧ F = F1) (fun _ _ _ => False) := by
  refine pm_of cd_X8_moved (by decide +kernel) (Nat.le_of_ble_eq_true rfl) (fun ZZ hZ => ?_)
  have hgo : ZZ 0 0 0 [some (.int (iI p)), some (.int (iI i)), some (.int (iI j))] [] L F := by
    refine z_iload_n0 hZ dX8_moved_0 ?_
    refine z_iload_n2 hZ dX8_moved_1 ?_
    refine z_icmp_lt hZ (tgt := 13) dX8_moved_2 rfl (by omega) (fun hc2 => ?_) (fun hc2 => ?_)
    · refine z_iload_n0 hZ dX8_moved_13 ?_
      refine z_iload_n1 hZ dX8_moved_14 ?_
      refine z_icmp_le hZ (tgt := 22) dX8_moved_15 rfl (by omega) (fun hc15 => ?_) (fun hc15 => ?_)
      · refine z_iload_n0 hZ dX8_moved_22 ?_
        exact z_iret hZ rfl (Nat.le_of_ble_eq_true rfl) (Nat.le_of_ble_eq_true rfl) dX8_moved_23 (by exact ⟨pv (by unfold mvA; (repeat' split) <;> omega), rfl, rfl⟩)
      · refine z_iload_n1 hZ dX8_moved_18 ?_
        refine z_goto hZ (tgt := 23) dX8_moved_19 rfl ?_
        exact z_iret hZ rfl (Nat.le_of_ble_eq_true rfl) (Nat.le_of_ble_eq_true rfl) dX8_moved_23 (by exact ⟨pv (by unfold mvA; (repeat' split) <;> omega), rfl, rfl⟩)
    · refine z_iload_n0 hZ dX8_moved_5 ?_
      refine z_iload_n2 hZ dX8_moved_6 ?_
      refine z_iload_n1 hZ dX8_moved_7 ?_
      refine z_isub hZ dX8_moved_8 ?_
      refine z_isub hZ dX8_moved_9 ?_
      refine z_goto hZ (tgt := 23) dX8_moved_10 rfl ?_
      exact z_iret hZ rfl (Nat.le_of_ble_eq_true rfl) (Nat.le_of_ble_eq_true rfl) dX8_moved_23 (by exact ⟨pv (by unfold mvA; (repeat' split) <;> omega), rfl, rfl⟩)
  exact hgo
set_option maxRecDepth 100000 in
set_option maxHeartbeats 4000000 in
theorem m_X8_endsUntil (l : Launch) {L : List Nat} {F : Nat → PE} {x a : Nat} {g : Int → Int} {kd p : Int} (t : ms L F x a g kd) (v : vf g kd) (hi : 0 ≤ p ∧ p ≤ g 0) : PM l yX8_endsUntil cX8_endsUntil 4 (some .int) (rm 2 0 0) L [.ref x, .int (iI p)] F (fun v9 L1 F1 => v9 = some (.int (iI (cn (isE (g 0) (fT g)) p.toNat))) ∧ L = L1 ∧ F = F1) (fun _ _ _ => False) := by
  refine pm_of cd_X8_endsUntil (by decide +kernel) (Nat.le_of_ble_eq_true rfl) (fun ZZ hZ => ?_)
  have hgo : ZZ 0 0 0 [some (.ref x), some (.int (iI p)), none, none] [] L F := by
    obtain ⟨⟨hx, ha, hxa⟩, ⟨w1, w2, w3, w5, w6, w7, w8, w9, hF⟩, hg⟩ := id t
    have r := v.1
    have l1 : ∀ (m : Nat) (i : Int), (p - i).toNat = m → 0 ≤ i → i ≤ p → ZZ 0 0 4 [some (.ref x), some (.int (iI p)), some (.int (iI (cn (isE (g 0) (fT g)) i.toNat))), some (.int (iI i))] [] L F := by
      intro m
      induction m with
      | zero =>
        intro i hm i0 i1
        refine z_iload_n3 hZ dX8_endsUntil_4 ?_
        refine z_iload_n1 hZ dX8_endsUntil_5 ?_
        refine z_icmp_ge hZ (tgt := 33) dX8_endsUntil_6 rfl (by omega) (fun hc6 => ?_) (fun hc6 => ?_)
        · refine z_iload_n2 hZ dX8_endsUntil_33 ?_
          exact z_iret hZ rfl (Nat.le_of_ble_eq_true rfl) (Nat.le_of_ble_eq_true rfl) dX8_endsUntil_34 (by exact ⟨pv (by rw [show i = p by omega]), rfl, rfl⟩)
        · exfalso; omega
      | succ m ih =>
        intro i hm i0 i1
        have hc := v.2.2.1 i (by omega) (by omega)
        have ie := isE_g (g := g) (n := g 0) (i := i) (by omega)
        unfold fT at hc
        refine z_iload_n3 hZ dX8_endsUntil_4 ?_
        refine z_iload_n1 hZ dX8_endsUntil_5 ?_
        refine z_icmp_ge hZ (tgt := 33) dX8_endsUntil_6 rfl (by omega) (fun hc6 => ?_) (fun hc6 => ?_)
        · exfalso; omega
        · refine z_iload_n2 hZ dX8_endsUntil_9 ?_
          refine z_aload_n0 hZ dX8_endsUntil_10 ?_
          refine z_iload_n3 hZ dX8_endsUntil_11 ?_
          refine z_cV hZ (As := [_]) rfl dX8_endsUntil_12 ml_X8_36 wy_X8_code (m_X8_code l t (by omega)) (by assumption) (by assumption) rfl ⟨Nat.le_of_ble_eq_true rfl, Nat.le_of_ble_eq_true rfl⟩ ⟨Nat.le_of_ble_eq_true rfl, Nat.le_of_ble_eq_true rfl⟩ (Nat.le_of_ble_eq_true rfl) (fun _ _ _ h => h.elim) (fun v12 L12 G12 hp12 => ?_)
          obtain ⟨rfl, rfl, rfl⟩ := hp12
          refine z_bipush hZ dX8_endsUntil_15 rfl ?_
          refine z_icmp_ne hZ (tgt := 24) dX8_endsUntil_17 rfl (by omega) (fun hc17 => ?_) (fun hc17 => ?_)
          · refine z_iconst hZ dX8_endsUntil_24 ?_
            refine z_iadd hZ dX8_endsUntil_25 ?_
            refine z_istore_n2 hZ dX8_endsUntil_26 (by decide) rfl ?_
            refine z_iinc3 hZ dX8_endsUntil_27 (by decide) rfl ?_
            refine z_goto hZ (tgt := 4) dX8_endsUntil_30 rfl ?_
            first
              | (have z := ih (i + 1) (by omega) (by omega) (by omega); rw [cn_t i0 (ie.mpr (by assumption))] at z; exact z)
              | (have z := ih (i + 1) (by omega) (by omega) (by omega); rw [cn_f i0 (fun q => absurd (ie.mp q) (by assumption))] at z; rw [Int.add_zero]; exact z)
          · refine z_iconst hZ dX8_endsUntil_20 ?_
            refine z_goto hZ (tgt := 25) dX8_endsUntil_21 rfl ?_
            refine z_iadd hZ dX8_endsUntil_25 ?_
            refine z_istore_n2 hZ dX8_endsUntil_26 (by decide) rfl ?_
            refine z_iinc3 hZ dX8_endsUntil_27 (by decide) rfl ?_
            refine z_goto hZ (tgt := 4) dX8_endsUntil_30 rfl ?_
            first
              | (have z := ih (i + 1) (by omega) (by omega) (by omega); rw [cn_t i0 (ie.mpr (by assumption))] at z; exact z)
              | (have z := ih (i + 1) (by omega) (by omega) (by omega); rw [cn_f i0 (fun q => absurd (ie.mp q) (by assumption))] at z; rw [Int.add_zero]; exact z)
    refine z_iconst hZ dX8_endsUntil_0 ?_
    refine z_istore_n2 hZ dX8_endsUntil_1 (by decide) rfl ?_
    refine z_iconst hZ dX8_endsUntil_2 ?_
    refine z_istore_n3 hZ dX8_endsUntil_3 (by decide) rfl ?_
    exact l1 _ 0 rfl (by omega) hi.1
  exact hgo
set_option maxRecDepth 100000 in
set_option maxHeartbeats 4000000 in
theorem m_X8_longest (l : Launch) {L : List Nat} {F : Nat → PE} {x a : Nat} {g : Int → Int} {kd : Int} (t : ms L F x a g kd) (v : vf g kd) : PM l yX8_longest cX8_longest 4 (some .int) (rm 3 0 0) L [.ref x] F (fun v9 L1 F1 => v9 = some (.int (iI (loA g))) ∧ L = L1 ∧ F = F1) (fun _ _ _ => False) := by
  refine pm_of cd_X8_longest (by decide +kernel) (Nat.le_of_ble_eq_true rfl) (fun ZZ hZ => ?_)
  have hgo : ZZ 0 0 0 [some (.ref x), none, none, none] [] L F := by
    have t1 := t
    obtain ⟨⟨hx, ha, hxa⟩, ⟨w1, w2, w3, w5, w6, w7, w8, w9, hF⟩, hg⟩ := t1
    have r := v.1
    have l1 : ∀ (m : Nat) (i : Int) (o : Option Value), (g 0 + 1 - i).toNat = m → 0 ≤ i → i ≤ g 0 + 1 → ZZ 0 0 4 [some (.ref x), some (.int (iI (mxL (g 0) (fT g) i.toNat))), some (.int (iI i)), o] [] L F := by
      intro m
      induction m with
      | zero =>
        intro i o hm i0 i1
        refine z_iload_n2 hZ dX8_longest_4 ?_
        refine z_aload_n0 hZ dX8_longest_5 ?_
        refine z_gf_X8_s hZ dX8_longest_6 fl_X8_7 (by assumption) (by assumption) ?_
        refine z_iconst hZ dX8_longest_9 ?_
        refine z_iald hZ dX8_longest_10 (by assumption) (by assumption) (by omega) (by (repeat (refine (wu_n (by omega)).trans ?_)); first | exact wu_s | exact wu_e (by omega) | exact if_neg (by omega) | rfl) ?_
        refine z_icmp_gt hZ (tgt := 43) dX8_longest_11 rfl (by omega) (fun hc11 => ?_) (fun hc11 => ?_)
        · refine z_iload_n1 hZ dX8_longest_43 ?_
          exact z_iret hZ rfl (Nat.le_of_ble_eq_true rfl) (Nat.le_of_ble_eq_true rfl) dX8_longest_44 (by exact ⟨pv (by unfold loA; rw [show i = g 0 + 1 by omega]), rfl, rfl⟩)
        · exfalso; omega
      | succ m ih =>
        intro i o hm i0 i1
        have rb := lB_rg (n := g 0) (f := fT g) (p := i) i0
        have re := lE_rg (n := g 0) (f := fT g) (p := i) (by omega)
        have rm := mxL_rg (n := g 0) (f := fT g) i.toNat (by omega)
        have z := ih (i + 1)
        have e : mxL (g 0) (fT g) (i + 1).toNat = if mxL (g 0) (fT g) i.toNat < lE (g 0) (fT g) i - lB (g 0) (fT g) i then lE (g 0) (fT g) i - lB (g 0) (fT g) i else mxL (g 0) (fT g) i.toNat := by
          rw [show (i + 1).toNat = i.toNat + 1 by omega]
          show (if mxL (g 0) (fT g) i.toNat < lE (g 0) (fT g) ((i.toNat : Nat) : Int) - lB (g 0) (fT g) ((i.toNat : Nat) : Int) then lE (g 0) (fT g) ((i.toNat : Nat) : Int) - lB (g 0) (fT g) ((i.toNat : Nat) : Int) else mxL (g 0) (fT g) i.toNat) = _
          rw [show ((i.toNat : Nat) : Int) = i by omega]
        rw [e] at z
        refine z_iload_n2 hZ dX8_longest_4 ?_
        refine z_aload_n0 hZ dX8_longest_5 ?_
        refine z_gf_X8_s hZ dX8_longest_6 fl_X8_7 (by assumption) (by assumption) ?_
        refine z_iconst hZ dX8_longest_9 ?_
        refine z_iald hZ dX8_longest_10 (by assumption) (by assumption) (by omega) (by (repeat (refine (wu_n (by omega)).trans ?_)); first | exact wu_s | exact wu_e (by omega) | exact if_neg (by omega) | rfl) ?_
        refine z_icmp_gt hZ (tgt := 43) dX8_longest_11 rfl (by omega) (fun hc11 => ?_) (fun hc11 => ?_)
        · exfalso; omega
        · refine z_aload_n0 hZ dX8_longest_14 ?_
          refine z_iload_n2 hZ dX8_longest_15 ?_
          refine z_cV hZ (As := [_]) rfl dX8_longest_16 ml_X8_64 wy_X8_endOf (m_X8_endOf l t v (by omega)) (by assumption) (by assumption) rfl ⟨Nat.le_of_ble_eq_true rfl, Nat.le_of_ble_eq_true rfl⟩ ⟨Nat.le_of_ble_eq_true rfl, Nat.le_of_ble_eq_true rfl⟩ (Nat.le_of_ble_eq_true rfl) (fun _ _ _ h => h.elim) (fun v16 L16 G16 hp16 => ?_)
          obtain ⟨rfl, rfl, rfl⟩ := hp16
          refine z_aload_n0 hZ dX8_longest_19 ?_
          refine z_iload_n2 hZ dX8_longest_20 ?_
          refine z_cV hZ (As := [_]) rfl dX8_longest_21 ml_X8_61 wy_X8_beginOf (m_X8_beginOf l t v (by omega)) (by assumption) (by assumption) rfl ⟨Nat.le_of_ble_eq_true rfl, Nat.le_of_ble_eq_true rfl⟩ ⟨Nat.le_of_ble_eq_true rfl, Nat.le_of_ble_eq_true rfl⟩ (Nat.le_of_ble_eq_true rfl) (fun _ _ _ h => h.elim) (fun v21 L21 G21 hp21 => ?_)
          obtain ⟨rfl, rfl, rfl⟩ := hp21
          refine z_isub hZ dX8_longest_24 ?_
          refine z_istore_n3 hZ dX8_longest_25 (by decide) rfl ?_
          refine z_iload_n3 hZ dX8_longest_26 ?_
          refine z_iload_n1 hZ dX8_longest_27 ?_
          refine z_icmp_le hZ (tgt := 35) dX8_longest_28 rfl (by omega) (fun hc28 => ?_) (fun hc28 => ?_)
          · refine z_iload_n1 hZ dX8_longest_35 ?_
            refine z_istore_n1 hZ dX8_longest_36 (by decide) rfl ?_
            refine z_iinc2 hZ dX8_longest_37 (by decide) rfl ?_
            refine z_goto hZ (tgt := 4) dX8_longest_40 rfl ?_
            first
              | (rw [if_pos (by omega)] at z; exact z _ (by omega) (by omega) (by omega))
              | (rw [if_neg (by omega)] at z; exact z _ (by omega) (by omega) (by omega))
          · refine z_iload_n3 hZ dX8_longest_31 ?_
            refine z_goto hZ (tgt := 36) dX8_longest_32 rfl ?_
            refine z_istore_n1 hZ dX8_longest_36 (by decide) rfl ?_
            refine z_iinc2 hZ dX8_longest_37 (by decide) rfl ?_
            refine z_goto hZ (tgt := 4) dX8_longest_40 rfl ?_
            first
              | (rw [if_pos (by omega)] at z; exact z _ (by omega) (by omega) (by omega))
              | (rw [if_neg (by omega)] at z; exact z _ (by omega) (by omega) (by omega))
    refine z_iconst hZ dX8_longest_0 ?_
    refine z_istore_n1 hZ dX8_longest_1 (by decide) rfl ?_
    refine z_iconst hZ dX8_longest_2 ?_
    refine z_istore_n2 hZ dX8_longest_3 (by decide) rfl ?_
    exact l1 _ 0 _ rfl (by omega) (by omega)
  exact hgo
set_option maxRecDepth 100000 in
set_option maxHeartbeats 4000000 in
theorem m_X8_words (l : Launch) {L : List Nat} {F : Nat → PE} {x a : Nat} {g : Int → Int} {kd : Int} (t : ms L F x a g kd) (v : vf g kd) : PM l yX8_words cX8_words 3 (some .int) (rm 4 0 0) L [.ref x] F (fun v9 L1 F1 => v9 = some (.int (iI (wdA g))) ∧ L = L1 ∧ F = F1) (fun _ _ _ => False) := by
  refine pm_of cd_X8_words (by decide +kernel) (Nat.le_of_ble_eq_true rfl) (fun ZZ hZ => ?_)
  have hgo : ZZ 0 0 0 [some (.ref x), none, none] [] L F := by
    have t1 := t
    obtain ⟨⟨hx, ha, hxa⟩, ⟨w1, w2, w3, w5, w6, w7, w8, w9, hF⟩, hg⟩ := t1
    have r := v.1
    have l1 : ∀ (m : Nat) (i : Int), (g 0 - i).toNat = m → 0 ≤ i → i ≤ g 0 → ZZ 0 0 4 [some (.ref x), some (.int (iI (cn (bgW (g 0) (fT g)) i.toNat))), some (.int (iI i))] [] L F := by
      intro m
      induction m with
      | zero =>
        intro i hm i0 i1
        refine z_iload_n2 hZ dX8_words_4 ?_
        refine z_aload_n0 hZ dX8_words_5 ?_
        refine z_gf_X8_s hZ dX8_words_6 fl_X8_7 (by assumption) (by assumption) ?_
        refine z_iconst hZ dX8_words_9 ?_
        refine z_iald hZ dX8_words_10 (by assumption) (by assumption) (by omega) (by (repeat (refine (wu_n (by omega)).trans ?_)); first | exact wu_s | exact wu_e (by omega) | exact if_neg (by omega) | rfl) ?_
        refine z_icmp_ge hZ (tgt := 46) dX8_words_11 rfl (by omega) (fun hc11 => ?_) (fun hc11 => ?_)
        · refine z_iload_n1 hZ dX8_words_46 ?_
          exact z_iret hZ rfl (Nat.le_of_ble_eq_true rfl) (Nat.le_of_ble_eq_true rfl) dX8_words_47 (by exact ⟨pv (by unfold wdA; rw [show i = g 0 by omega]), rfl, rfl⟩)
        · exfalso; omega
      | succ m ih =>
        intro i hm i0 i1
        have ie := bgW_iff (n := g 0) (f := fT g) (i := i)
        have z := ih (i + 1) (by omega) (by omega) (by omega)
        refine z_iload_n2 hZ dX8_words_4 ?_
        refine z_aload_n0 hZ dX8_words_5 ?_
        refine z_gf_X8_s hZ dX8_words_6 fl_X8_7 (by assumption) (by assumption) ?_
        refine z_iconst hZ dX8_words_9 ?_
        refine z_iald hZ dX8_words_10 (by assumption) (by assumption) (by omega) (by (repeat (refine (wu_n (by omega)).trans ?_)); first | exact wu_s | exact wu_e (by omega) | exact if_neg (by omega) | rfl) ?_
        refine z_icmp_ge hZ (tgt := 46) dX8_words_11 rfl (by omega) (fun hc11 => ?_) (fun hc11 => ?_)
        · exfalso; omega
        · refine z_iload_n1 hZ dX8_words_14 ?_
          refine z_aload_n0 hZ dX8_words_15 ?_
          refine z_iload_n2 hZ dX8_words_16 ?_
          refine z_cV hZ (As := [_]) rfl dX8_words_17 ml_X8_44 wy_X8_isWord (m_X8_isWord l t v (by omega)) (by assumption) (by assumption) rfl ⟨Nat.le_of_ble_eq_true rfl, Nat.le_of_ble_eq_true rfl⟩ ⟨Nat.le_of_ble_eq_true rfl, Nat.le_of_ble_eq_true rfl⟩ (Nat.le_of_ble_eq_true rfl) (fun _ _ _ h => h.elim) (fun v17 L17 G17 hp17 => ?_)
          obtain ⟨rfl, rfl, rfl⟩ := hp17
          refine z_if_eq_b hZ (tgt := 37) dX8_words_20 rfl (fun hc20 => ?_) (fun hc20 => ?_)
          · refine z_iconst hZ dX8_words_37 ?_
            refine z_iadd hZ dX8_words_38 ?_
            refine z_istore_n1 hZ dX8_words_39 (by decide) rfl ?_
            refine z_iinc2 hZ dX8_words_40 (by decide) rfl ?_
            refine z_goto hZ (tgt := 4) dX8_words_43 rfl ?_
            first
              | (rw [cn_t i0 (ie.mpr ⟨by assumption, by assumption⟩)] at z; exact z)
              | (rw [cn_f i0 (fun q => absurd (ie.mp q).1 (by assumption))] at z; rw [Int.add_zero]; exact z)
              | (rw [cn_f i0 (fun q => absurd (by assumption) (ie.mp q).2)] at z; rw [Int.add_zero]; exact z)
          · refine z_aload_n0 hZ dX8_words_23 ?_
            refine z_iload_n2 hZ dX8_words_24 ?_
            refine z_iconst hZ dX8_words_25 ?_
            refine z_isub hZ dX8_words_26 ?_
            refine z_cV hZ (As := [_]) rfl dX8_words_27 ml_X8_44 wy_X8_isWord (m_X8_isWord l t v (by omega)) (by assumption) (by assumption) rfl ⟨Nat.le_of_ble_eq_true rfl, Nat.le_of_ble_eq_true rfl⟩ ⟨Nat.le_of_ble_eq_true rfl, Nat.le_of_ble_eq_true rfl⟩ (Nat.le_of_ble_eq_true rfl) (fun _ _ _ h => h.elim) (fun v27 L27 G27 hp27 => ?_)
            obtain ⟨rfl, rfl, rfl⟩ := hp27
            refine z_if_ne_b hZ (tgt := 37) dX8_words_30 rfl (fun hc30 => ?_) (fun hc30 => ?_)
            · refine z_iconst hZ dX8_words_37 ?_
              refine z_iadd hZ dX8_words_38 ?_
              refine z_istore_n1 hZ dX8_words_39 (by decide) rfl ?_
              refine z_iinc2 hZ dX8_words_40 (by decide) rfl ?_
              refine z_goto hZ (tgt := 4) dX8_words_43 rfl ?_
              first
                | (rw [cn_t i0 (ie.mpr ⟨by assumption, by assumption⟩)] at z; exact z)
                | (rw [cn_f i0 (fun q => absurd (ie.mp q).1 (by assumption))] at z; rw [Int.add_zero]; exact z)
                | (rw [cn_f i0 (fun q => absurd (by assumption) (ie.mp q).2)] at z; rw [Int.add_zero]; exact z)
            · refine z_iconst hZ dX8_words_33 ?_
              refine z_goto hZ (tgt := 38) dX8_words_34 rfl ?_
              refine z_iadd hZ dX8_words_38 ?_
              refine z_istore_n1 hZ dX8_words_39 (by decide) rfl ?_
              refine z_iinc2 hZ dX8_words_40 (by decide) rfl ?_
              refine z_goto hZ (tgt := 4) dX8_words_43 rfl ?_
              first
                | (rw [cn_t i0 (ie.mpr ⟨by assumption, by assumption⟩)] at z; exact z)
                | (rw [cn_f i0 (fun q => absurd (ie.mp q).1 (by assumption))] at z; rw [Int.add_zero]; exact z)
                | (rw [cn_f i0 (fun q => absurd (by assumption) (ie.mp q).2)] at z; rw [Int.add_zero]; exact z)
    refine z_iconst hZ dX8_words_0 ?_
    refine z_istore_n1 hZ dX8_words_1 (by decide) rfl ?_
    refine z_iconst hZ dX8_words_2 ?_
    refine z_istore_n2 hZ dX8_words_3 (by decide) rfl ?_
    exact l1 _ 0 rfl (by omega) (by omega)
  exact hgo
set_option maxRecDepth 100000 in
set_option maxHeartbeats 4000000 in
theorem m_X8_apart (l : Launch) {L : List Nat} {F : Nat → PE} {x a : Nat} {g : Int → Int} {kd : Int} (t : ms L F x a g kd) (r : 0 ≤ g 1 ∧ g 1 ≤ 1000 ∧ -1 ≤ g 2 ∧ g 2 ≤ 1000) : PM l yX8_apart cX8_apart 1 (some .int) (rm 1 0 0) L [.ref x] F (fun v9 L1 F1 => v9 = some (.int (iI (abI (g 2 - g 1)))) ∧ L = L1 ∧ F = F1) (fun _ _ _ => False) := by
  refine pm_of cd_X8_apart (by decide +kernel) (Nat.le_of_ble_eq_true rfl) (fun ZZ hZ => ?_)
  have hgo : ZZ 0 0 0 [some (.ref x)] [] L F := by
    obtain ⟨⟨hx, ha, hxa⟩, ⟨w1, w2, w3, w5, w6, w7, w8, w9, hF⟩, hg⟩ := t
    refine z_aload_n0 hZ dX8_apart_0 ?_
    refine z_gf_X8_s hZ dX8_apart_1 fl_X8_7 (by assumption) (by assumption) ?_
    refine z_iconst hZ dX8_apart_4 ?_
    refine z_iald hZ dX8_apart_5 (by assumption) (by assumption) (by omega) (by (repeat (refine (wu_n (by omega)).trans ?_)); first | exact wu_s | exact wu_e (by omega) | exact if_neg (by omega) | rfl) ?_
    refine z_aload_n0 hZ dX8_apart_6 ?_
    refine z_gf_X8_s hZ dX8_apart_7 fl_X8_7 (by assumption) (by assumption) ?_
    refine z_iconst hZ dX8_apart_10 ?_
    refine z_iald hZ dX8_apart_11 (by assumption) (by assumption) (by omega) (by (repeat (refine (wu_n (by omega)).trans ?_)); first | exact wu_s | exact wu_e (by omega) | exact if_neg (by omega) | rfl) ?_
    refine z_icmp_le hZ (tgt := 31) dX8_apart_12 rfl (by omega) (fun hc12 => ?_) (fun hc12 => ?_)
    · refine z_aload_n0 hZ dX8_apart_31 ?_
      refine z_gf_X8_s hZ dX8_apart_32 fl_X8_7 (by assumption) (by assumption) ?_
      refine z_iconst hZ dX8_apart_35 ?_
      refine z_iald hZ dX8_apart_36 (by assumption) (by assumption) (by omega) (by (repeat (refine (wu_n (by omega)).trans ?_)); first | exact wu_s | exact wu_e (by omega) | exact if_neg (by omega) | rfl) ?_
      refine z_aload_n0 hZ dX8_apart_37 ?_
      refine z_gf_X8_s hZ dX8_apart_38 fl_X8_7 (by assumption) (by assumption) ?_
      refine z_iconst hZ dX8_apart_41 ?_
      refine z_iald hZ dX8_apart_42 (by assumption) (by assumption) (by omega) (by (repeat (refine (wu_n (by omega)).trans ?_)); first | exact wu_s | exact wu_e (by omega) | exact if_neg (by omega) | rfl) ?_
      refine z_isub hZ dX8_apart_43 ?_
      exact z_iret hZ rfl (Nat.le_of_ble_eq_true rfl) (Nat.le_of_ble_eq_true rfl) dX8_apart_44 (by exact ⟨pv (by unfold abI; split <;> omega), rfl, rfl⟩)
    · refine z_aload_n0 hZ dX8_apart_15 ?_
      refine z_gf_X8_s hZ dX8_apart_16 fl_X8_7 (by assumption) (by assumption) ?_
      refine z_iconst hZ dX8_apart_19 ?_
      refine z_iald hZ dX8_apart_20 (by assumption) (by assumption) (by omega) (by (repeat (refine (wu_n (by omega)).trans ?_)); first | exact wu_s | exact wu_e (by omega) | exact if_neg (by omega) | rfl) ?_
      refine z_aload_n0 hZ dX8_apart_21 ?_
      refine z_gf_X8_s hZ dX8_apart_22 fl_X8_7 (by assumption) (by assumption) ?_
      refine z_iconst hZ dX8_apart_25 ?_
      refine z_iald hZ dX8_apart_26 (by assumption) (by assumption) (by omega) (by (repeat (refine (wu_n (by omega)).trans ?_)); first | exact wu_s | exact wu_e (by omega) | exact if_neg (by omega) | rfl) ?_
      refine z_isub hZ dX8_apart_27 ?_
      refine z_goto hZ (tgt := 44) dX8_apart_28 rfl ?_
      exact z_iret hZ rfl (Nat.le_of_ble_eq_true rfl) (Nat.le_of_ble_eq_true rfl) dX8_apart_44 (by exact ⟨pv (by unfold abI; split <;> omega), rfl, rfl⟩)
  exact hgo
set_option maxRecDepth 100000 in
set_option maxHeartbeats 4000000 in
theorem m_X8_sum (l : Launch) {L : List Nat} {F : Nat → PE} {x a : Nat} {g : Int → Int} {kd : Int} (t : ms L F x a g kd) (v : vf g kd) : PM l yX8_sum cX8_sum 3 (some .int) (rm 1 0 0) L [.ref x] F (fun v9 L1 F1 => v9 = some (.int (iI (wgA g))) ∧ L = L1 ∧ F = F1) (fun _ _ _ => False) := by
  refine pm_of cd_X8_sum (by decide +kernel) (Nat.le_of_ble_eq_true rfl) (fun ZZ hZ => ?_)
  have hgo : ZZ 0 0 0 [some (.ref x), none, none] [] L F := by
    have t1 := t
    obtain ⟨⟨hx, ha, hxa⟩, ⟨w1, w2, w3, w5, w6, w7, w8, w9, hF⟩, hg⟩ := t1
    have r := v.1
    have l1 : ∀ (m : Nat) (i : Int), (g 3 - i).toNat = m → 0 ≤ i → i ≤ g 3 → ZZ 0 0 4 [some (.ref x), some (.int (iI (smH (fun i => g (10 + i)) i.toNat))), some (.int (iI i))] [] L F := by
      intro m
      induction m with
      | zero =>
        intro i hm i0 i1
        refine z_iload_n2 hZ dX8_sum_4 ?_
        refine z_aload_n0 hZ dX8_sum_5 ?_
        refine z_gf_X8_s hZ dX8_sum_6 fl_X8_7 (by assumption) (by assumption) ?_
        refine z_iconst hZ dX8_sum_9 ?_
        refine z_iald hZ dX8_sum_10 (by assumption) (by assumption) (by omega) (by (repeat (refine (wu_n (by omega)).trans ?_)); first | exact wu_s | exact wu_e (by omega) | exact if_neg (by omega) | rfl) ?_
        refine z_icmp_ge hZ (tgt := 32) dX8_sum_11 rfl (by omega) (fun hc11 => ?_) (fun hc11 => ?_)
        · refine z_iload_n1 hZ dX8_sum_32 ?_
          exact z_iret hZ rfl (Nat.le_of_ble_eq_true rfl) (Nat.le_of_ble_eq_true rfl) dX8_sum_33 (by exact ⟨pv (by unfold wgA; rw [show i = g 3 by omega]), rfl, rfl⟩)
        · exfalso; omega
      | succ m ih =>
        intro i hm i0 i1
        have z := ih (i + 1) (by omega) (by omega) (by omega)
        have e : smH (fun i => g (10 + i)) (i + 1).toNat = smH (fun i => g (10 + i)) i.toNat + g (10 + i) := by
          rw [show (i + 1).toNat = i.toNat + 1 by omega]
          show smH (fun i => g (10 + i)) i.toNat + g (10 + ((i.toNat : Nat) : Int)) = _
          rw [show ((i.toNat : Nat) : Int) = i by omega]
        rw [e] at z
        refine z_iload_n2 hZ dX8_sum_4 ?_
        refine z_aload_n0 hZ dX8_sum_5 ?_
        refine z_gf_X8_s hZ dX8_sum_6 fl_X8_7 (by assumption) (by assumption) ?_
        refine z_iconst hZ dX8_sum_9 ?_
        refine z_iald hZ dX8_sum_10 (by assumption) (by assumption) (by omega) (by (repeat (refine (wu_n (by omega)).trans ?_)); first | exact wu_s | exact wu_e (by omega) | exact if_neg (by omega) | rfl) ?_
        refine z_icmp_ge hZ (tgt := 32) dX8_sum_11 rfl (by omega) (fun hc11 => ?_) (fun hc11 => ?_)
        · exfalso; omega
        · refine z_iload_n1 hZ dX8_sum_14 ?_
          refine z_aload_n0 hZ dX8_sum_15 ?_
          refine z_gf_X8_s hZ dX8_sum_16 fl_X8_7 (by assumption) (by assumption) ?_
          refine z_bipush hZ dX8_sum_19 rfl ?_
          refine z_iload_n2 hZ dX8_sum_21 ?_
          refine z_iadd hZ dX8_sum_22 ?_
          refine z_iald hZ dX8_sum_23 (by assumption) (by assumption) (by omega) (by (repeat (refine (wu_n (by omega)).trans ?_)); first | exact wu_s | exact wu_e (by omega) | exact if_neg (by omega) | rfl) ?_
          refine z_iadd hZ dX8_sum_24 ?_
          refine z_istore_n1 hZ dX8_sum_25 (by decide) rfl ?_
          refine z_iinc2 hZ dX8_sum_26 (by decide) rfl ?_
          refine z_goto hZ (tgt := 4) dX8_sum_29 rfl ?_
          exact z
    refine z_iconst hZ dX8_sum_0 ?_
    refine z_istore_n1 hZ dX8_sum_1 (by decide) rfl ?_
    refine z_iconst hZ dX8_sum_2 ?_
    refine z_istore_n2 hZ dX8_sum_3 (by decide) rfl ?_
    exact l1 _ 0 rfl (by omega) (by omega)
  exact hgo
set_option maxRecDepth 100000 in
set_option maxHeartbeats 4000000 in
theorem m_X8_heavy (l : Launch) {L : List Nat} {F : Nat → PE} {x a : Nat} {g : Int → Int} {kd : Int} (t : ms L F x a g kd) (v : vf g kd) (h3 : 0 < g 3) : PM l yX8_heavy cX8_heavy 3 (some .int) (rm 1 0 0) L [.ref x] F (fun v9 L1 F1 => v9 = some (.int (iI (lgA g))) ∧ L = L1 ∧ F = F1) (fun _ _ _ => False) := by
  refine pm_of cd_X8_heavy (by decide +kernel) (Nat.le_of_ble_eq_true rfl) (fun ZZ hZ => ?_)
  have hgo : ZZ 0 0 0 [some (.ref x), none, none] [] L F := by
    have t1 := t
    obtain ⟨⟨hx, ha, hxa⟩, ⟨w1, w2, w3, w5, w6, w7, w8, w9, hF⟩, hg⟩ := t1
    have r := v.1
    have vi := v.2.1.1
    have l1 : ∀ (m : Nat) (i : Int), (g 3 - i).toNat = m → 1 ≤ i → i ≤ g 3 → ZZ 0 0 4 [some (.ref x), some (.int (iI (lgH (fun i => g (10 + i)) i.toNat))), some (.int (iI i))] [] L F := by
      intro m
      induction m with
      | zero =>
        intro i hm i0 i1
        refine z_iload_n2 hZ dX8_heavy_4 ?_
        refine z_aload_n0 hZ dX8_heavy_5 ?_
        refine z_gf_X8_s hZ dX8_heavy_6 fl_X8_7 (by assumption) (by assumption) ?_
        refine z_iconst hZ dX8_heavy_9 ?_
        refine z_iald hZ dX8_heavy_10 (by assumption) (by assumption) (by omega) (by (repeat (refine (wu_n (by omega)).trans ?_)); first | exact wu_s | exact wu_e (by omega) | exact if_neg (by omega) | rfl) ?_
        refine z_icmp_ge hZ (tgt := 47) dX8_heavy_11 rfl (by omega) (fun hc11 => ?_) (fun hc11 => ?_)
        · refine z_iload_n1 hZ dX8_heavy_47 ?_
          exact z_iret hZ rfl (Nat.le_of_ble_eq_true rfl) (Nat.le_of_ble_eq_true rfl) dX8_heavy_48 (by exact ⟨pv (by unfold lgA; rw [show i = g 3 by omega]), rfl, rfl⟩)
        · exfalso; omega
      | succ m ih =>
        intro i hm i0 i1
        have z := ih (i + 1) (by omega) (by omega) (by omega)
        have rl := lgH_rg (hl := fun i => g (10 + i)) i.toNat
        have e : lgH (fun i => g (10 + i)) (i + 1).toNat = if g (10 + lgH (fun i => g (10 + i)) i.toNat) < g (10 + i) then i else lgH (fun i => g (10 + i)) i.toNat := by
          rw [show (i + 1).toNat = i.toNat + 1 by omega]
          show (if lgH (fun i => g (10 + i)) i.toNat = -1 ∨ g (10 + lgH (fun i => g (10 + i)) i.toNat) < g (10 + ((i.toNat : Nat) : Int)) then ((i.toNat : Nat) : Int) else lgH (fun i => g (10 + i)) i.toNat) = _
          rw [show ((i.toNat : Nat) : Int) = i by omega]
          by_cases q : g (10 + lgH (fun i => g (10 + i)) i.toNat) < g (10 + i)
          · rw [if_pos (Or.inr q), if_pos q]
          · rw [if_neg (by omega), if_neg q]
        rw [e] at z
        have v1 := vi i (by omega) (by omega)
        have v2 := vi (lgH (fun i => g (10 + i)) i.toNat) (by omega) (by omega)
        refine z_iload_n2 hZ dX8_heavy_4 ?_
        refine z_aload_n0 hZ dX8_heavy_5 ?_
        refine z_gf_X8_s hZ dX8_heavy_6 fl_X8_7 (by assumption) (by assumption) ?_
        refine z_iconst hZ dX8_heavy_9 ?_
        refine z_iald hZ dX8_heavy_10 (by assumption) (by assumption) (by omega) (by (repeat (refine (wu_n (by omega)).trans ?_)); first | exact wu_s | exact wu_e (by omega) | exact if_neg (by omega) | rfl) ?_
        refine z_icmp_ge hZ (tgt := 47) dX8_heavy_11 rfl (by omega) (fun hc11 => ?_) (fun hc11 => ?_)
        · exfalso; omega
        · refine z_aload_n0 hZ dX8_heavy_14 ?_
          refine z_gf_X8_s hZ dX8_heavy_15 fl_X8_7 (by assumption) (by assumption) ?_
          refine z_bipush hZ dX8_heavy_18 rfl ?_
          refine z_iload_n2 hZ dX8_heavy_20 ?_
          refine z_iadd hZ dX8_heavy_21 ?_
          refine z_iald hZ dX8_heavy_22 (by assumption) (by assumption) (by omega) (by (repeat (refine (wu_n (by omega)).trans ?_)); first | exact wu_s | exact wu_e (by omega) | exact if_neg (by omega) | rfl) ?_
          refine z_aload_n0 hZ dX8_heavy_23 ?_
          refine z_gf_X8_s hZ dX8_heavy_24 fl_X8_7 (by assumption) (by assumption) ?_
          refine z_bipush hZ dX8_heavy_27 rfl ?_
          refine z_iload_n1 hZ dX8_heavy_29 ?_
          refine z_iadd hZ dX8_heavy_30 ?_
          refine z_iald hZ dX8_heavy_31 (by assumption) (by assumption) (by omega) (by (repeat (refine (wu_n (by omega)).trans ?_)); first | exact wu_s | exact wu_e (by omega) | exact if_neg (by omega) | rfl) ?_
          refine z_icmp_le hZ (tgt := 39) dX8_heavy_32 rfl (by omega) (fun hc32 => ?_) (fun hc32 => ?_)
          · refine z_iload_n1 hZ dX8_heavy_39 ?_
            refine z_istore_n1 hZ dX8_heavy_40 (by decide) rfl ?_
            refine z_iinc2 hZ dX8_heavy_41 (by decide) rfl ?_
            refine z_goto hZ (tgt := 4) dX8_heavy_44 rfl ?_
            first
              | (rw [if_pos (by omega)] at z; exact z)
              | (rw [if_neg (by omega)] at z; exact z)
          · refine z_iload_n2 hZ dX8_heavy_35 ?_
            refine z_goto hZ (tgt := 40) dX8_heavy_36 rfl ?_
            refine z_istore_n1 hZ dX8_heavy_40 (by decide) rfl ?_
            refine z_iinc2 hZ dX8_heavy_41 (by decide) rfl ?_
            refine z_goto hZ (tgt := 4) dX8_heavy_44 rfl ?_
            first
              | (rw [if_pos (by omega)] at z; exact z)
              | (rw [if_neg (by omega)] at z; exact z)
    refine z_iconst hZ dX8_heavy_0 ?_
    refine z_istore_n1 hZ dX8_heavy_1 (by decide) rfl ?_
    refine z_iconst hZ dX8_heavy_2 ?_
    refine z_istore_n2 hZ dX8_heavy_3 (by decide) rfl ?_
    exact l1 _ 1 rfl (by omega) (by omega)
  exact hgo
set_option maxRecDepth 100000 in
set_option maxHeartbeats 4000000 in
theorem m_X8_isHoard (l : Launch) {L : List Nat} {F : Nat → PE} {x a : Nat} {g : Int → Int} {kd i : Int} (t : ms L F x a g kd) (v : vf g kd) (hi : -2147483648 ≤ i ∧ i ≤ 2147483647) : PM l yX8_isHoard cX8_isHoard 2 (some .boolean) (rm 2 0 0) L [.ref x, .int (iI i)] F (fun v9 L1 F1 => v9 = some (.int (iI (b2 (0 ≤ i ∧ i < g 3)))) ∧ L = L1 ∧ F = F1) (fun _ _ _ => False) := by
  refine pm_of cd_X8_isHoard (by decide +kernel) (Nat.le_of_ble_eq_true rfl) (fun ZZ hZ => ?_)
  have hgo : ZZ 0 0 0 [some (.ref x), some (.int (iI i))] [] L F := by
    obtain ⟨⟨hx, ha, hxa⟩, ⟨w1, w2, w3, w5, w6, w7, w8, w9, hF⟩, hg⟩ := t
    have r := v.1
    refine z_iload_n1 hZ dX8_isHoard_0 ?_
    refine z_iconst hZ dX8_isHoard_1 ?_
    refine z_aload_n0 hZ dX8_isHoard_2 ?_
    refine z_gf_X8_s hZ dX8_isHoard_3 fl_X8_7 (by assumption) (by assumption) ?_
    refine z_iconst hZ dX8_isHoard_6 ?_
    refine z_iald hZ dX8_isHoard_7 (by assumption) (by assumption) (by omega) (by (repeat (refine (wu_n (by omega)).trans ?_)); first | exact wu_s | exact wu_e (by omega) | exact if_neg (by omega) | rfl) ?_
    refine z_iconst hZ dX8_isHoard_8 ?_
    refine z_isub hZ dX8_isHoard_9 ?_
    refine z_cS hZ (As := [_, _, _]) rfl dX8_isHoard_10 ml_X8_32 wy_X8_in (m_X8_in l (by omega) (by omega) (by omega)) ⟨Nat.le_of_ble_eq_true rfl, Nat.le_of_ble_eq_true rfl⟩ ⟨Nat.le_of_ble_eq_true rfl, Nat.le_of_ble_eq_true rfl⟩ (Nat.le_of_ble_eq_true rfl) (fun _ _ _ h => h.elim) (fun v10 L10 G10 hp10 => ?_)
    obtain ⟨rfl, rfl, rfl⟩ := hp10
    exact z_zret hZ rfl (Nat.le_of_ble_eq_true rfl) (Nat.le_of_ble_eq_true rfl) dX8_isHoard_13 (b2_in _) (by exact ⟨pv (by unfold b2; split <;> split <;> first | rfl | (exfalso; omega)), rfl, rfl⟩)
  exact hgo

