/-! SCROLL, 3: found, counted. -/
def fdA (n : Int) (f : Int → Int) (n1 : Int) (f1 : Int → Int) (p : Int) : Int := if up (fun a => !decide (stA n f n1 f1 a)) n p < n then up (fun a => !decide (stA n f n1 f1 a)) n p else -1
def cn (P : Int → Bool) : Nat → Int
  | 0 => 0
  | k + 1 => cn P k + (if P (k : Int) = true then 1 else 0)
theorem cn_t {P : Int → Bool} {i : Int} (h : 0 ≤ i) (hp : P i = true) : cn P (i + 1).toNat = cn P i.toNat + 1 := by
  rw [show (i + 1).toNat = i.toNat + 1 by omega]
  show cn P i.toNat + (if P (i.toNat : Int) = true then 1 else 0) = _
  rw [Int.toNat_of_nonneg h, if_pos hp]
theorem cn_f {P : Int → Bool} {i : Int} (h : 0 ≤ i) (hp : ¬ P i = true) : cn P (i + 1).toNat = cn P i.toNat := by
  rw [show (i + 1).toNat = i.toNat + 1 by omega]
  show cn P i.toNat + (if P (i.toNat : Int) = true then 1 else 0) = _
  rw [Int.toNat_of_nonneg h, if_neg hp, Int.add_zero]
theorem cn_rg {P : Int → Bool} : ∀ k : Nat, 0 ≤ cn P k ∧ cn P k ≤ k := by
  intro k
  induction k with
  | zero => exact ⟨Int.le_refl _, Int.le_refl _⟩
  | succ k ih => unfold cn; split <;> omega
theorem cn_same {P : Int → Bool} : ∀ (m : Nat) (a b : Int), (b - a).toNat = m → 0 ≤ a → a ≤ b → (∀ k, a ≤ k → k < b → ¬ P k = true) → cn P b.toNat = cn P a.toNat := by
  intro m
  induction m with
  | zero => intro a b hm h0 h1 h; rw [show b = a by omega]
  | succ m ih =>
    intro a b hm h0 h1 h
    have := cn_f (P := P) (i := b - 1) (by omega) (h _ (by omega) (by omega))
    rw [show b - 1 + 1 = b by omega] at this
    rw [this]
    exact ih a (b - 1) (by omega) h0 (by omega) (fun k g1 g2 => h k g1 (by omega))
set_option maxRecDepth 100000 in
set_option maxHeartbeats 4000000 in
theorem m_X4_endsAhead (l : Launch) {L : List Nat} {F : Nat → PE} {s h c : Nat} {n p mk : Int} {f : Int → Int} {i : Int} (t : sc L F s h c n p mk f) (hi : 0 ≤ i ∧ i ≤ n) : PM l yX4_endsAhead cX4_endsAhead 4 (some .int) (rm 4 0 0) L [.ref s, .int (iI i)] F (fun v9 L1 F1 => v9 = some (.int (iI (cn (isE n f) i.toNat))) ∧ L = L1 ∧ F = F1) (fun _ _ _ => False) := by
  refine pm_of cd_X4_endsAhead (by decide +kernel) (Nat.le_of_ble_eq_true rfl) (fun ZZ hZ => ?_)
  have hgo : ZZ 0 0 0 [some (.ref s), some (.int (iI i)), none, none] [] L F := by
    have t' := t
    obtain ⟨⟨hs1, hs2, hs3⟩, hSc, hX, hp, hm⟩ := t
    have hn := hX.2.2.2.1
    have k4 : ∀ (m : Nat) (e j : Int), 0 ≤ j → j ≤ i → e = cn (isE n f) j.toNat → (i - j).toNat < m → ZZ 0 0 4 [some (.ref s), some (.int (iI i)), some (.int (iI e)), some (.int (iI j))] [] L F := by
      intro m
      induction m with
      | zero => intro e j _ _ _ hm; omega
      | succ m ih =>
        intro e j h0 h1 he hm
        refine z_iload_n3 hZ dX4_endsAhead_4 ?_
        refine z_iload_n1 hZ dX4_endsAhead_5 ?_
        refine z_icmp_ge hZ (tgt := 26) dX4_endsAhead_6 rfl (by omega) (fun hc6 => ?_) (fun hc6 => ?_)
        · refine z_iload_n2 hZ dX4_endsAhead_26 ?_
          exact z_iret hZ rfl (Nat.le_of_ble_eq_true rfl) (Nat.le_of_ble_eq_true rfl) dX4_endsAhead_27 (by exact ⟨by rw [he, show j = i by omega], rfl, rfl⟩)
        · refine z_aload_n0 hZ dX4_endsAhead_9 ?_
          refine z_iload_n3 hZ dX4_endsAhead_10 ?_
          refine z_cV hZ (As := [_]) rfl dX4_endsAhead_11 ml_X4_69 wy_X4_isEndAt (m_X4_isEndAt l t' (by omega)) (by assumption) (by assumption) rfl ⟨Nat.le_of_ble_eq_true rfl, Nat.le_of_ble_eq_true rfl⟩ ⟨Nat.le_of_ble_eq_true rfl, Nat.le_of_ble_eq_true rfl⟩ (Nat.le_of_ble_eq_true rfl) (fun _ _ _ h => h.elim) (fun v11 L11 G11 hp11 => ?_)
          obtain ⟨rfl, rfl, rfl⟩ := hp11
          refine z_if_eq_b hZ (tgt := 20) dX4_endsAhead_14 rfl (fun hc14 => ?_) (fun hc14 => ?_)
          · refine z_iinc3 hZ dX4_endsAhead_20 (by decide) rfl ?_
            refine z_goto hZ (tgt := 4) dX4_endsAhead_23 rfl ?_
            first | exact ih _ _ (by omega) (by omega) (by rw [he]; exact (cn_t h0 hc14).symm) (by omega) | exact ih _ _ (by omega) (by omega) (by rw [he]; exact (cn_f h0 hc14).symm) (by omega)
          · refine z_iinc2 hZ dX4_endsAhead_17 (by decide) rfl ?_
            refine z_iinc3 hZ dX4_endsAhead_20 (by decide) rfl ?_
            refine z_goto hZ (tgt := 4) dX4_endsAhead_23 rfl ?_
            first | exact ih _ _ (by omega) (by omega) (by rw [he]; exact (cn_t h0 hc14).symm) (by omega) | exact ih _ _ (by omega) (by omega) (by rw [he]; exact (cn_f h0 hc14).symm) (by omega)
    refine z_iconst hZ dX4_endsAhead_0 ?_
    refine z_istore_n2 hZ dX4_endsAhead_1 (by decide) rfl ?_
    refine z_iconst hZ dX4_endsAhead_2 ?_
    refine z_istore_n3 hZ dX4_endsAhead_3 (by decide) rfl ?_
    exact k4 _ 0 0 (by omega) hi.1 rfl (Nat.lt_succ_self _)
  exact hgo
set_option maxRecDepth 100000 in
set_option maxHeartbeats 4000000 in
theorem m_X4_linesGone (l : Launch) {L : List Nat} {F : Nat → PE} {s h c : Nat} {n p mk : Int} {f : Int → Int} (t : sc L F s h c n p mk f) : PM l yX4_linesGone cX4_linesGone 4 (some .int) (rm 5 0 0) L [.ref s] F (fun v9 L1 F1 => v9 = some (.int (iI (cn (isE n f) n.toNat + 1))) ∧ L = L1 ∧ F = F1) (fun _ _ _ => False) := by
  refine pm_of cd_X4_linesGone (by decide +kernel) (Nat.le_of_ble_eq_true rfl) (fun ZZ hZ => ?_)
  have hgo : ZZ 0 0 0 [some (.ref s), none, none, none] [] L F := by
    have t' := t
    obtain ⟨⟨hs1, hs2, hs3⟩, hSc, hX, hp, hm⟩ := t
    have hh := hX.1.1
    have hT := hX.2.1
    have hn := hX.2.2.2.1
    have k10 : ∀ (m : Nat) (e a j : Int), 0 ≤ j → j ≤ a → a ≤ n → e = 1 + cn (isE n f) a.toNat → (a < n → isE n f a = true) → (n - a).toNat < m → ZZ 0 0 10 [some (.ref s), some (.int (iI e)), some (.int (iI a)), some (.int (iI j))] [] L F := by
      intro m
      induction m with
      | zero => intro e a j _ _ _ _ _ hm; omega
      | succ m ih =>
        intro e a j h0 h1 h2 he ha hm
        refine z_iload_n3 hZ dX4_linesGone_10 ?_
        refine z_aload_n0 hZ dX4_linesGone_11 ?_
        refine z_gf_X4_text hZ dX4_linesGone_12 fl_X4_14 (by assumption) (by assumption) ?_
        refine z_cV hZ (As := []) rfl dX4_linesGone_15 ml_X4_38 wy_X6_count (m_X6_count l hX) (by assumption) (by assumption) rfl ⟨Nat.le_of_ble_eq_true rfl, Nat.le_of_ble_eq_true rfl⟩ ⟨Nat.le_of_ble_eq_true rfl, Nat.le_of_ble_eq_true rfl⟩ (Nat.le_of_ble_eq_true rfl) (fun _ _ _ h => h.elim) (fun v15 L15 G15 hp15 => ?_)
        obtain ⟨rfl, rfl, rfl⟩ := hp15
        refine z_icmp_ge hZ (tgt := 49) dX4_linesGone_18 rfl (by omega) (fun hc18 => ?_) (fun hc18 => ?_)
        · refine z_iload_n1 hZ dX4_linesGone_49 ?_
          exact z_iret hZ rfl (Nat.le_of_ble_eq_true rfl) (Nat.le_of_ble_eq_true rfl) dX4_linesGone_50 (by exact ⟨pv (by rw [he, show a = n by omega]; omega), rfl, rfl⟩)
        · refine z_iload_n2 hZ dX4_linesGone_21 ?_
          refine z_aload_n0 hZ dX4_linesGone_22 ?_
          refine z_gf_X4_text hZ dX4_linesGone_23 fl_X4_14 (by assumption) (by assumption) ?_
          refine z_cV hZ (As := []) rfl dX4_linesGone_26 ml_X4_38 wy_X6_count (m_X6_count l hX) (by assumption) (by assumption) rfl ⟨Nat.le_of_ble_eq_true rfl, Nat.le_of_ble_eq_true rfl⟩ ⟨Nat.le_of_ble_eq_true rfl, Nat.le_of_ble_eq_true rfl⟩ (Nat.le_of_ble_eq_true rfl) (fun _ _ _ h => h.elim) (fun v26 L26 G26 hp26 => ?_)
          obtain ⟨rfl, rfl, rfl⟩ := hp26
          refine z_icmp_ge hZ (tgt := 49) dX4_linesGone_29 rfl (by omega) (fun hc29 => ?_) (fun hc29 => ?_)
          · refine z_iload_n1 hZ dX4_linesGone_49 ?_
            exact z_iret hZ rfl (Nat.le_of_ble_eq_true rfl) (Nat.le_of_ble_eq_true rfl) dX4_linesGone_50 (by exact ⟨pv (by rw [he, show a = n by omega]; omega), rfl, rfl⟩)
          · refine z_iinc1 hZ dX4_linesGone_32 (by decide) rfl ?_
            refine z_aload_n0 hZ dX4_linesGone_35 ?_
            refine z_iload_n2 hZ dX4_linesGone_36 ?_
            refine z_iconst hZ dX4_linesGone_37 ?_
            refine z_iadd hZ dX4_linesGone_38 ?_
            refine z_cV hZ (As := [_]) rfl dX4_linesGone_39 ml_X4_75 wy_X4_lineStop (m_X4_lineStop l t' (by omega)) (by assumption) (by assumption) rfl ⟨Nat.le_of_ble_eq_true rfl, Nat.le_of_ble_eq_true rfl⟩ ⟨Nat.le_of_ble_eq_true rfl, Nat.le_of_ble_eq_true rfl⟩ (Nat.le_of_ble_eq_true rfl) (fun _ _ _ h => h.elim) (fun v39 L39 G39 hp39 => ?_)
            obtain ⟨rfl, rfl, rfl⟩ := hp39
            refine z_istore_n2 hZ dX4_linesGone_42 (by decide) rfl ?_
            refine z_iinc3 hZ dX4_linesGone_43 (by decide) rfl ?_
            refine z_goto hZ (tgt := 10) dX4_linesGone_46 rfl ?_
            have r1 := lE_rg (n := n) (f := f) (p := a + 1) (by omega)
            refine ih _ _ _ (by omega) (by omega) (by omega) ?_ (fun q => ?_) (by omega)
            · rw [he, cn_same _ (a + 1) (lE n f (a + 1)) rfl (by omega) (by omega) (fun k g1 g2 => nb_t.mp (up_in (P := fun i => !isE n f i) (by omega) g1 g2)), cn_t (by omega) (ha (by omega))]; omega
            · have := up_at (P := fun i => !isE n f i) (hi := n) (i := a + 1) (by omega) q
              cases hq : isE n f (lE n f (a + 1))
              · have e3 : (!isE n f (lE n f (a + 1))) = false := this
                rw [hq] at e3; cases e3
              · rfl
    have r0 := lE_rg (n := n) (f := f) (p := 0) hn.1
    refine z_iconst hZ dX4_linesGone_0 ?_
    refine z_istore_n1 hZ dX4_linesGone_1 (by decide) rfl ?_
    refine z_aload_n0 hZ dX4_linesGone_2 ?_
    refine z_iconst hZ dX4_linesGone_3 ?_
    refine z_cV hZ (As := [_]) rfl dX4_linesGone_4 ml_X4_75 wy_X4_lineStop (m_X4_lineStop l t' (by omega)) (by assumption) (by assumption) rfl ⟨Nat.le_of_ble_eq_true rfl, Nat.le_of_ble_eq_true rfl⟩ ⟨Nat.le_of_ble_eq_true rfl, Nat.le_of_ble_eq_true rfl⟩ (Nat.le_of_ble_eq_true rfl) (fun _ _ _ h => h.elim) (fun v4 L4 G4 hp4 => ?_)
    obtain ⟨rfl, rfl, rfl⟩ := hp4
    refine z_istore_n2 hZ dX4_linesGone_7 (by decide) rfl ?_
    refine z_iconst hZ dX4_linesGone_8 ?_
    refine z_istore_n3 hZ dX4_linesGone_9 (by decide) rfl ?_
    refine k10 _ _ _ _ (by omega) r0.1 r0.2 ?_ (fun q => ?_) (Nat.lt_succ_self _)
    · rw [cn_same _ 0 (lE n f 0) rfl (by omega) (by omega) (fun k g1 g2 => nb_t.mp (up_in (P := fun i => !isE n f i) (by omega) g1 g2))]; rfl
    · have := up_at (P := fun i => !isE n f i) (hi := n) (i := 0) (by omega) q
      cases hq : isE n f (lE n f 0)
      · have e3 : (!isE n f (lE n f 0)) = false := this
        rw [hq] at e3; cases e3
      · rfl
  exact hgo
/-- the longest line, over all places -/
def mxL (n : Int) (f : Int → Int) : Nat → Int
  | 0 => 0
  | k + 1 => if mxL n f k < lE n f k - lB n f k then lE n f k - lB n f k else mxL n f k
theorem mxL_rg {n : Int} {f : Int → Int} : ∀ k : Nat, (k : Int) ≤ n + 1 → 0 ≤ mxL n f k ∧ mxL n f k ≤ n + 1 := by
  intro k
  induction k with
  | zero => intro h; exact ⟨Int.le_refl _, by show (0 : Int) ≤ n + 1; omega⟩
  | succ k ih =>
    intro h
    have := ih (by omega)
    have r1 := lE_rg (n := n) (f := f) (p := k) (by omega)
    have r2 := lB_rg (n := n) (f := f) (p := k) (by omega)
    unfold mxL
    split <;> omega
theorem mxL_line {n : Int} {f : Int → Int} {a : Int} (h0 : 0 ≤ a) (h1 : a ≤ n) (hb : 0 < a → isE n f (a - 1) = true) : ∀ m : Nat, a + m ≤ lE n f a → mxL n f (a + m + 1).toNat = if mxL n f a.toNat < lE n f a - a then lE n f a - a else mxL n f a.toNat := by
  have own : ∀ k, a ≤ k → k ≤ lE n f a → lE n f k = lE n f a ∧ lB n f k = a := by
    intro k g1 g2
    have r1 := lE_rg (n := n) (f := f) (p := a) h1
    refine ⟨up_id g2 r1.2 (fun j j1 j2 => up_in (P := fun i => !isE n f i) h1 (by omega) j2) (fun q => up_at (P := fun i => !isE n f i) h1 q), dn_id h0 g1 (fun j j1 j2 => up_in (P := fun i => !isE n f i) h1 j1 (by show j < lE n f a; omega)) (fun q => ?_)⟩
    show (!isE n f (a - 1)) = false
    rw [hb q]; rfl
  intro m
  induction m with
  | zero =>
    intro h
    rw [show (a + ((0 : Nat) : Int) + 1).toNat = a.toNat + 1 by omega]
    obtain ⟨e1, e2⟩ := own a (Int.le_refl _) (by omega)
    show (if mxL n f a.toNat < lE n f (a.toNat : Int) - lB n f (a.toNat : Int) then _ else _) = _
    rw [Int.toNat_of_nonneg h0, e2]
  | succ m ih =>
    intro h
    have e := ih (by omega)
    rw [show (a + ((m + 1 : Nat) : Int) + 1).toNat = (a + m + 1).toNat + 1 by omega]
    obtain ⟨e1, e2⟩ := own (a + m + 1) (by omega) (by omega)
    show (if mxL n f (a + m + 1).toNat < lE n f (((a + m + 1).toNat : Nat) : Int) - lB n f (((a + m + 1).toNat : Nat) : Int) then lE n f (((a + m + 1).toNat : Nat) : Int) - lB n f (((a + m + 1).toNat : Nat) : Int) else mxL n f (a + m + 1).toNat) = _
    rw [show (((a + m + 1).toNat : Nat) : Int) = a + m + 1 by omega, e1, e2, e]
    split
    · rw [if_neg (by omega)]
    · rfl
set_option maxRecDepth 100000 in
set_option maxHeartbeats 4000000 in
theorem m_X4_longest (l : Launch) {L : List Nat} {F : Nat → PE} {s h c : Nat} {n p mk : Int} {f : Int → Int} (t : sc L F s h c n p mk f) : PM l yX4_longest cX4_longest 5 (some .int) (rm 5 0 0) L [.ref s] F (fun v9 L1 F1 => v9 = some (.int (iI (mxL n f (n + 1).toNat))) ∧ L = L1 ∧ F = F1) (fun _ _ _ => False) := by
  refine pm_of cd_X4_longest (by decide +kernel) (Nat.le_of_ble_eq_true rfl) (fun ZZ hZ => ?_)
  have hgo : ZZ 0 0 0 [some (.ref s), none, none, none, none] [] L F := by
    have t' := t
    obtain ⟨⟨hs1, hs2, hs3⟩, hSc, hX, hp, hm⟩ := t
    have hh := hX.1.1
    have hT := hX.2.1
    have hn := hX.2.2.2.1
    have k6 : ∀ (m : Nat) (e a j : Int) (o : Option Value), 0 ≤ j → j ≤ a → a ≤ n + 1 → e = mxL n f a.toNat → (0 < a → a ≤ n → isE n f (a - 1) = true) → (n + 1 - a).toNat < m → ZZ 0 0 6 [some (.ref s), some (.int (iI e)), some (.int (iI a)), some (.int (iI j)), o] [] L F := by
      intro m
      induction m with
      | zero => intro e a j o _ _ _ _ _ hm; omega
      | succ m ih =>
        intro e a j o h0 h1 h2 he ha hm
        have r2 := mxL_rg (n := n) (f := f) a.toNat (by omega)
        refine z_iload_n3 hZ dX4_longest_6 ?_
        refine z_aload_n0 hZ dX4_longest_7 ?_
        refine z_gf_X4_text hZ dX4_longest_8 fl_X4_14 (by assumption) (by assumption) ?_
        refine z_cV hZ (As := []) rfl dX4_longest_11 ml_X4_38 wy_X6_count (m_X6_count l hX) (by assumption) (by assumption) rfl ⟨Nat.le_of_ble_eq_true rfl, Nat.le_of_ble_eq_true rfl⟩ ⟨Nat.le_of_ble_eq_true rfl, Nat.le_of_ble_eq_true rfl⟩ (Nat.le_of_ble_eq_true rfl) (fun _ _ _ h => h.elim) (fun v11 L11 G11 hp11 => ?_)
        obtain ⟨rfl, rfl, rfl⟩ := hp11
        refine z_icmp_gt hZ (tgt := 55) dX4_longest_14 rfl (by omega) (fun hc14 => ?_) (fun hc14 => ?_)
        · refine z_iload_n1 hZ dX4_longest_55 ?_
          exact z_iret hZ rfl (Nat.le_of_ble_eq_true rfl) (Nat.le_of_ble_eq_true rfl) dX4_longest_56 (by exact ⟨pv (by rw [he, show a = n + 1 by omega]), rfl, rfl⟩)
        · refine z_iload_n2 hZ dX4_longest_17 ?_
          refine z_aload_n0 hZ dX4_longest_18 ?_
          refine z_gf_X4_text hZ dX4_longest_19 fl_X4_14 (by assumption) (by assumption) ?_
          refine z_cV hZ (As := []) rfl dX4_longest_22 ml_X4_38 wy_X6_count (m_X6_count l hX) (by assumption) (by assumption) rfl ⟨Nat.le_of_ble_eq_true rfl, Nat.le_of_ble_eq_true rfl⟩ ⟨Nat.le_of_ble_eq_true rfl, Nat.le_of_ble_eq_true rfl⟩ (Nat.le_of_ble_eq_true rfl) (fun _ _ _ h => h.elim) (fun v22 L22 G22 hp22 => ?_)
          obtain ⟨rfl, rfl, rfl⟩ := hp22
          refine z_icmp_gt hZ (tgt := 55) dX4_longest_25 rfl (by omega) (fun hc25 => ?_) (fun hc25 => ?_)
          · refine z_iload_n1 hZ dX4_longest_55 ?_
            exact z_iret hZ rfl (Nat.le_of_ble_eq_true rfl) (Nat.le_of_ble_eq_true rfl) dX4_longest_56 (by exact ⟨pv (by rw [he, show a = n + 1 by omega]), rfl, rfl⟩)
          · have r1 := lE_rg (n := n) (f := f) (p := a) (by omega)
            refine z_aload_n0 hZ dX4_longest_28 ?_
            refine z_iload_n2 hZ dX4_longest_29 ?_
            refine z_cV hZ (As := [_]) rfl dX4_longest_30 ml_X4_75 wy_X4_lineStop (m_X4_lineStop l t' (by omega)) (by assumption) (by assumption) rfl ⟨Nat.le_of_ble_eq_true rfl, Nat.le_of_ble_eq_true rfl⟩ ⟨Nat.le_of_ble_eq_true rfl, Nat.le_of_ble_eq_true rfl⟩ (Nat.le_of_ble_eq_true rfl) (fun _ _ _ h => h.elim) (fun v30 L30 G30 hp30 => ?_)
            obtain ⟨rfl, rfl, rfl⟩ := hp30
            refine z_istore4 hZ dX4_longest_33 (by decide) rfl ?_
            refine z_iload_n1 hZ dX4_longest_35 ?_
            refine z_iload4 hZ dX4_longest_36 ?_
            refine z_iload_n2 hZ dX4_longest_38 ?_
            refine z_isub hZ dX4_longest_39 ?_
            refine z_max hZ dX4_longest_40 ml_X4_82 (by omega) (Nat.le_of_ble_eq_true rfl) (Nat.le_of_ble_eq_true rfl) (Nat.le_of_ble_eq_true rfl) ⟨Nat.le_of_ble_eq_true rfl, Nat.le_of_ble_eq_true rfl⟩ ?_
            refine z_istore_n1 hZ dX4_longest_43 (by decide) rfl ?_
            refine z_iload4 hZ dX4_longest_44 ?_
            refine z_iconst hZ dX4_longest_46 ?_
            refine z_iadd hZ dX4_longest_47 ?_
            refine z_istore_n2 hZ dX4_longest_48 (by decide) rfl ?_
            refine z_iinc3 hZ dX4_longest_49 (by decide) rfl ?_
            refine z_goto hZ (tgt := 6) dX4_longest_52 rfl ?_
            refine ih _ _ _ _ (by omega) (by omega) (by omega) ?_ (fun q q2 => ?_) (by omega)
            · have e9 := mxL_line (by omega) (by omega) (fun q => ha q (by omega)) (lE n f a - a).toNat (by omega)
              rw [show a + (((lE n f a - a).toNat : Nat) : Int) + 1 = lE n f a + 1 by omega] at e9
              rw [e9, he]
            · have := up_at (P := fun i => !isE n f i) (hi := n) (i := a) (by omega) (by show lE n f a < n; omega)
              rw [show lE n f a + 1 - 1 = lE n f a by omega]
              cases hq : isE n f (lE n f a)
              · have e3 : (!isE n f (lE n f a)) = false := this
                rw [hq] at e3; cases e3
              · rfl
    refine z_iconst hZ dX4_longest_0 ?_
    refine z_istore_n1 hZ dX4_longest_1 (by decide) rfl ?_
    refine z_iconst hZ dX4_longest_2 ?_
    refine z_istore_n2 hZ dX4_longest_3 (by decide) rfl ?_
    refine z_iconst hZ dX4_longest_4 ?_
    refine z_istore_n3 hZ dX4_longest_5 (by decide) rfl ?_
    exact k6 _ 0 0 0 none (by omega) (by omega) (by omega) rfl (fun q => absurd q (by omega)) (Nat.lt_succ_self _)
  exact hgo
/-- where words begin -/
def bgW (n : Int) (f : Int → Int) (i : Int) : Bool := isW n f i && !isW n f (i - 1)
theorem bgW_iff {n : Int} {f : Int → Int} {i : Int} : bgW n f i = true ↔ isW n f i = true ∧ ¬ isW n f (i - 1) = true := by
  unfold bgW
  rw [Bool.and_eq_true, nb_t]
set_option maxRecDepth 100000 in
set_option maxHeartbeats 4000000 in
theorem m_X4_wordsBegun (l : Launch) {L : List Nat} {F : Nat → PE} {s h c : Nat} {n p mk : Int} {f : Int → Int} (t : sc L F s h c n p mk f) : PM l yX4_wordsBegun cX4_wordsBegun 3 (some .int) (rm 4 0 0) L [.ref s] F (fun v9 L1 F1 => v9 = some (.int (iI (cn (bgW n f) n.toNat))) ∧ L = L1 ∧ F = F1) (fun _ _ _ => False) := by
  refine pm_of cd_X4_wordsBegun (by decide +kernel) (Nat.le_of_ble_eq_true rfl) (fun ZZ hZ => ?_)
  have hgo : ZZ 0 0 0 [some (.ref s), none, none] [] L F := by
    have t' := t
    obtain ⟨⟨hs1, hs2, hs3⟩, hSc, hX, hp, hm⟩ := t
    have hh := hX.1.1
    have hT := hX.2.1
    have hn := hX.2.2.2.1
    have k4 : ∀ (m : Nat) (e j : Int), 0 ≤ j → j ≤ n → e = cn (bgW n f) j.toNat → (n - j).toNat < m → ZZ 0 0 4 [some (.ref s), some (.int (iI e)), some (.int (iI j))] [] L F := by
      intro m
      induction m with
      | zero => intro e j _ _ _ hm; omega
      | succ m ih =>
        intro e j h0 h1 he hm
        refine z_iload_n2 hZ dX4_wordsBegun_4 ?_
        refine z_aload_n0 hZ dX4_wordsBegun_5 ?_
        refine z_gf_X4_text hZ dX4_wordsBegun_6 fl_X4_14 (by assumption) (by assumption) ?_
        refine z_cV hZ (As := []) rfl dX4_wordsBegun_9 ml_X4_38 wy_X6_count (m_X6_count l hX) (by assumption) (by assumption) rfl ⟨Nat.le_of_ble_eq_true rfl, Nat.le_of_ble_eq_true rfl⟩ ⟨Nat.le_of_ble_eq_true rfl, Nat.le_of_ble_eq_true rfl⟩ (Nat.le_of_ble_eq_true rfl) (fun _ _ _ h => h.elim) (fun v9 L9 G9 hp9 => ?_)
        obtain ⟨rfl, rfl, rfl⟩ := hp9
        refine z_icmp_ge hZ (tgt := 42) dX4_wordsBegun_12 rfl (by omega) (fun hc12 => ?_) (fun hc12 => ?_)
        · refine z_iload_n1 hZ dX4_wordsBegun_42 ?_
          exact z_iret hZ rfl (Nat.le_of_ble_eq_true rfl) (Nat.le_of_ble_eq_true rfl) dX4_wordsBegun_43 (by exact ⟨pv (by rw [he, show j = n by omega]), rfl, rfl⟩)
        · refine z_aload_n0 hZ dX4_wordsBegun_15 ?_
          refine z_iload_n2 hZ dX4_wordsBegun_16 ?_
          refine z_cV hZ (As := [_]) rfl dX4_wordsBegun_17 ml_X4_66 wy_X4_isWordAt (m_X4_isWordAt l t' (by omega)) (by assumption) (by assumption) rfl ⟨Nat.le_of_ble_eq_true rfl, Nat.le_of_ble_eq_true rfl⟩ ⟨Nat.le_of_ble_eq_true rfl, Nat.le_of_ble_eq_true rfl⟩ (Nat.le_of_ble_eq_true rfl) (fun _ _ _ h => h.elim) (fun v17 L17 G17 hp17 => ?_)
          obtain ⟨rfl, rfl, rfl⟩ := hp17
          refine z_if_eq_b hZ (tgt := 36) dX4_wordsBegun_20 rfl (fun hc20 => ?_) (fun hc20 => ?_)
          · refine z_iinc2 hZ dX4_wordsBegun_36 (by decide) rfl ?_
            refine z_goto hZ (tgt := 4) dX4_wordsBegun_39 rfl ?_
            first | exact ih _ _ (by omega) (by omega) (by rw [he]; exact (cn_t h0 (bgW_iff.mpr ⟨hc20, hc30⟩)).symm) (by omega) | exact ih _ _ (by omega) (by omega) (by rw [he]; exact (cn_f h0 (fun q => (bgW_iff.mp q).2 hc30)).symm) (by omega) | exact ih _ _ (by omega) (by omega) (by rw [he]; exact (cn_f h0 (fun q => hc20 (bgW_iff.mp q).1)).symm) (by omega)
          · refine z_aload_n0 hZ dX4_wordsBegun_23 ?_
            refine z_iload_n2 hZ dX4_wordsBegun_24 ?_
            refine z_iconst hZ dX4_wordsBegun_25 ?_
            refine z_isub hZ dX4_wordsBegun_26 ?_
            refine z_cV hZ (As := [_]) rfl dX4_wordsBegun_27 ml_X4_66 wy_X4_isWordAt (m_X4_isWordAt l t' (by omega)) (by assumption) (by assumption) rfl ⟨Nat.le_of_ble_eq_true rfl, Nat.le_of_ble_eq_true rfl⟩ ⟨Nat.le_of_ble_eq_true rfl, Nat.le_of_ble_eq_true rfl⟩ (Nat.le_of_ble_eq_true rfl) (fun _ _ _ h => h.elim) (fun v27 L27 G27 hp27 => ?_)
            obtain ⟨rfl, rfl, rfl⟩ := hp27
            refine z_if_ne_b hZ (tgt := 36) dX4_wordsBegun_30 rfl (fun hc30 => ?_) (fun hc30 => ?_)
            · refine z_iinc2 hZ dX4_wordsBegun_36 (by decide) rfl ?_
              refine z_goto hZ (tgt := 4) dX4_wordsBegun_39 rfl ?_
              first | exact ih _ _ (by omega) (by omega) (by rw [he]; exact (cn_t h0 (bgW_iff.mpr ⟨hc20, hc30⟩)).symm) (by omega) | exact ih _ _ (by omega) (by omega) (by rw [he]; exact (cn_f h0 (fun q => (bgW_iff.mp q).2 hc30)).symm) (by omega) | exact ih _ _ (by omega) (by omega) (by rw [he]; exact (cn_f h0 (fun q => hc20 (bgW_iff.mp q).1)).symm) (by omega)
            · refine z_iinc1 hZ dX4_wordsBegun_33 (by decide) rfl ?_
              refine z_iinc2 hZ dX4_wordsBegun_36 (by decide) rfl ?_
              refine z_goto hZ (tgt := 4) dX4_wordsBegun_39 rfl ?_
              first | exact ih _ _ (by omega) (by omega) (by rw [he]; exact (cn_t h0 (bgW_iff.mpr ⟨hc20, hc30⟩)).symm) (by omega) | exact ih _ _ (by omega) (by omega) (by rw [he]; exact (cn_f h0 (fun q => (bgW_iff.mp q).2 hc30)).symm) (by omega) | exact ih _ _ (by omega) (by omega) (by rw [he]; exact (cn_f h0 (fun q => hc20 (bgW_iff.mp q).1)).symm) (by omega)
    refine z_iconst hZ dX4_wordsBegun_0 ?_
    refine z_istore_n1 hZ dX4_wordsBegun_1 (by decide) rfl ?_
    refine z_iconst hZ dX4_wordsBegun_2 ?_
    refine z_istore_n2 hZ dX4_wordsBegun_3 (by decide) rfl ?_
    exact k4 _ 0 0 (by omega) hn.1 rfl (Nat.lt_succ_self _)
  exact hgo
theorem isW_out {n : Int} {f : Int → Int} {i : Int} (h : ¬ (0 ≤ i ∧ i < n)) : ¬ isW n f i = true := by
  intro q
  have := isW_iff.mp q
  rw [cdA_out h] at this
  omega
theorem wg_step {n : Int} {f : Int → Int} {a : Int} (h0 : 0 ≤ a) (h1 : a < n) (ha : 0 < a → ¬ isW n f a = true) :
    a < wS n f a ∧ (wS n f a < n → ¬ isW n f (wS n f a) = true) ∧ cn (bgW n f) (wS n f a).toNat = cn (bgW n f) a.toNat + (if isW n f (wS n f a - 1) = true then 1 else 0) := by
  have r1 := up_rg (P := fun i => !isW n f i) (i := a) (hi := n) (by omega)
  obtain ⟨q, hq⟩ : ∃ q, q = up (fun i => !isW n f i) n a := ⟨_, rfl⟩
  rw [← hq] at r1
  have nw : ∀ k, a ≤ k → k < q → ¬ isW n f k = true := fun k g1 g2 => nb_t.mp (up_in (P := fun i => !isW n f i) (hi := n) (by omega) g1 (by rw [← hq]; exact g2))
  have e : wS n f a = up (isW n f) n q := by unfold wS; rw [hq]
  by_cases hn : q = n
  · have e2 : wS n f a = n := by rw [e, hn]; exact up_no (by omega)
    rw [e2]
    refine ⟨h1, fun z => by omega, ?_⟩
    rw [if_neg (nw (n - 1) (by omega) (by omega)), Int.add_zero]
    exact cn_same _ a n rfl h0 (by omega) (fun k g1 g2 z => nw k g1 (by omega) (bgW_iff.mp z).1)
  · have hqw : isW n f q = true := by
      have := up_at (P := fun i => !isW n f i) (hi := n) (i := a) (by omega) (by rw [← hq]; omega)
      rw [← hq] at this
      cases hz : isW n f q
      · have e3 : (!isW n f q) = false := this
        rw [hz] at e3; cases e3
      · rfl
    have r2 := up_rg (P := isW n f) (i := q) (hi := n) (by omega)
    have r3 : q < up (isW n f) n q := by
      rw [up_go (by omega) hqw]
      have := up_rg (P := isW n f) (i := q + 1) (hi := n) (by omega)
      omega
    rw [← e] at r2 r3
    have ww : ∀ k, q ≤ k → k < wS n f a → isW n f k = true := fun k g1 g2 => up_in (P := isW n f) (hi := n) (i := q) (by omega) g1 (by rw [← e]; exact g2)
    refine ⟨by omega, fun z y => ?_, ?_⟩
    · have := up_at (P := isW n f) (hi := n) (i := q) (by omega) (by rw [← e]; exact z)
      rw [← e, y] at this
      cases this
    · rw [if_pos (ww _ (by omega) (by omega))]
      have hbq : bgW n f q = true := bgW_iff.mpr ⟨hqw, fun z => by
        by_cases y : q = a
        · by_cases y2 : 0 < a
          · exact ha y2 (by rw [← y]; exact hqw)
          · exact isW_out (by omega) z
        · exact nw (q - 1) (by omega) (by omega) z⟩
      have c1 := cn_same (P := bgW n f) _ a q rfl h0 (by omega) (fun k g1 g2 z => nw k g1 g2 (bgW_iff.mp z).1)
      have c2 := cn_t (P := bgW n f) (i := q) (by omega) hbq
      have c3 := cn_same (P := bgW n f) _ (q + 1) (wS n f a) rfl (by omega) (by omega) (fun k g1 g2 z => (bgW_iff.mp z).2 (ww (k - 1) (by omega) (by omega)))
      rw [c3, c2, c1]
set_option maxRecDepth 100000 in
set_option maxHeartbeats 4000000 in
theorem m_X4_wordsGone (l : Launch) {L : List Nat} {F : Nat → PE} {s h c : Nat} {n p mk : Int} {f : Int → Int} (t : sc L F s h c n p mk f) : PM l yX4_wordsGone cX4_wordsGone 4 (some .int) (rm 5 0 0) L [.ref s] F (fun v9 L1 F1 => v9 = some (.int (iI (cn (bgW n f) n.toNat))) ∧ L = L1 ∧ F = F1) (fun _ _ _ => False) := by
  refine pm_of cd_X4_wordsGone (by decide +kernel) (Nat.le_of_ble_eq_true rfl) (fun ZZ hZ => ?_)
  have hgo : ZZ 0 0 0 [some (.ref s), none, none, none] [] L F := by
    have t' := t
    obtain ⟨⟨hs1, hs2, hs3⟩, hSc, hX, hp, hm⟩ := t
    have hh := hX.1.1
    have hT := hX.2.1
    have hn := hX.2.2.2.1
    have k6 : ∀ (m : Nat) (e a j : Int), 0 ≤ j → j ≤ a → a ≤ n → e = cn (bgW n f) a.toNat → (0 < a → a < n → ¬ isW n f a = true) → (n - a).toNat < m → ZZ 0 0 6 [some (.ref s), some (.int (iI e)), some (.int (iI a)), some (.int (iI j))] [] L F := by
      intro m
      induction m with
      | zero => intro e a j _ _ _ _ _ hm; omega
      | succ m ih =>
        intro e a j h0 h1 h2 he ha hm
        refine z_iload_n3 hZ dX4_wordsGone_6 ?_
        refine z_aload_n0 hZ dX4_wordsGone_7 ?_
        refine z_gf_X4_text hZ dX4_wordsGone_8 fl_X4_14 (by assumption) (by assumption) ?_
        refine z_cV hZ (As := []) rfl dX4_wordsGone_11 ml_X4_38 wy_X6_count (m_X6_count l hX) (by assumption) (by assumption) rfl ⟨Nat.le_of_ble_eq_true rfl, Nat.le_of_ble_eq_true rfl⟩ ⟨Nat.le_of_ble_eq_true rfl, Nat.le_of_ble_eq_true rfl⟩ (Nat.le_of_ble_eq_true rfl) (fun _ _ _ h => h.elim) (fun v11 L11 G11 hp11 => ?_)
        obtain ⟨rfl, rfl, rfl⟩ := hp11
        refine z_icmp_ge hZ (tgt := 53) dX4_wordsGone_14 rfl (by omega) (fun hc14 => ?_) (fun hc14 => ?_)
        · refine z_iload_n1 hZ dX4_wordsGone_53 ?_
          exact z_iret hZ rfl (Nat.le_of_ble_eq_true rfl) (Nat.le_of_ble_eq_true rfl) dX4_wordsGone_54 (by exact ⟨pv (by rw [he, show a = n by omega]), rfl, rfl⟩)
        · refine z_iload_n2 hZ dX4_wordsGone_17 ?_
          refine z_aload_n0 hZ dX4_wordsGone_18 ?_
          refine z_gf_X4_text hZ dX4_wordsGone_19 fl_X4_14 (by assumption) (by assumption) ?_
          refine z_cV hZ (As := []) rfl dX4_wordsGone_22 ml_X4_38 wy_X6_count (m_X6_count l hX) (by assumption) (by assumption) rfl ⟨Nat.le_of_ble_eq_true rfl, Nat.le_of_ble_eq_true rfl⟩ ⟨Nat.le_of_ble_eq_true rfl, Nat.le_of_ble_eq_true rfl⟩ (Nat.le_of_ble_eq_true rfl) (fun _ _ _ h => h.elim) (fun v22 L22 G22 hp22 => ?_)
          obtain ⟨rfl, rfl, rfl⟩ := hp22
          refine z_icmp_ge hZ (tgt := 53) dX4_wordsGone_25 rfl (by omega) (fun hc25 => ?_) (fun hc25 => ?_)
          · refine z_iload_n1 hZ dX4_wordsGone_53 ?_
            exact z_iret hZ rfl (Nat.le_of_ble_eq_true rfl) (Nat.le_of_ble_eq_true rfl) dX4_wordsGone_54 (by exact ⟨pv (by rw [he, show a = n by omega]), rfl, rfl⟩)
          · obtain ⟨g1, g2, g3⟩ := wg_step (n := n) (f := f) (a := a) (by omega) (by omega) (fun q => ha q (by omega))
            have g4 := wS_rg (n := n) (f := f) (p := a) (by omega)
            refine z_aload_n0 hZ dX4_wordsGone_28 ?_
            refine z_iload_n2 hZ dX4_wordsGone_29 ?_
            refine z_cV hZ (As := [_]) rfl dX4_wordsGone_30 ml_X4_86 wy_X4_wordStop (m_X4_wordStop l t' (by omega)) (by assumption) (by assumption) rfl ⟨Nat.le_of_ble_eq_true rfl, Nat.le_of_ble_eq_true rfl⟩ ⟨Nat.le_of_ble_eq_true rfl, Nat.le_of_ble_eq_true rfl⟩ (Nat.le_of_ble_eq_true rfl) (fun _ _ _ h => h.elim) (fun v30 L30 G30 hp30 => ?_)
            obtain ⟨rfl, rfl, rfl⟩ := hp30
            refine z_istore_n2 hZ dX4_wordsGone_33 (by decide) rfl ?_
            refine z_aload_n0 hZ dX4_wordsGone_34 ?_
            refine z_iload_n2 hZ dX4_wordsGone_35 ?_
            refine z_iconst hZ dX4_wordsGone_36 ?_
            refine z_isub hZ dX4_wordsGone_37 ?_
            refine z_cV hZ (As := [_]) rfl dX4_wordsGone_38 ml_X4_66 wy_X4_isWordAt (m_X4_isWordAt l t' (by omega)) (by assumption) (by assumption) rfl ⟨Nat.le_of_ble_eq_true rfl, Nat.le_of_ble_eq_true rfl⟩ ⟨Nat.le_of_ble_eq_true rfl, Nat.le_of_ble_eq_true rfl⟩ (Nat.le_of_ble_eq_true rfl) (fun _ _ _ h => h.elim) (fun v38 L38 G38 hp38 => ?_)
            obtain ⟨rfl, rfl, rfl⟩ := hp38
            refine z_if_eq_b hZ (tgt := 47) dX4_wordsGone_41 rfl (fun hc41 => ?_) (fun hc41 => ?_)
            · refine z_iinc3 hZ dX4_wordsGone_47 (by decide) rfl ?_
              refine z_goto hZ (tgt := 6) dX4_wordsGone_50 rfl ?_
              first | exact ih _ _ _ (by omega) (by omega) (by omega) (by rw [g3, if_pos hc41, he]) (fun _ q => g2 q) (by omega) | exact ih _ _ _ (by omega) (by omega) (by omega) (by rw [g3, if_neg hc41, he, Int.add_zero]) (fun _ q => g2 q) (by omega)
            · refine z_iinc1 hZ dX4_wordsGone_44 (by decide) rfl ?_
              refine z_iinc3 hZ dX4_wordsGone_47 (by decide) rfl ?_
              refine z_goto hZ (tgt := 6) dX4_wordsGone_50 rfl ?_
              first | exact ih _ _ _ (by omega) (by omega) (by omega) (by rw [g3, if_pos hc41, he]) (fun _ q => g2 q) (by omega) | exact ih _ _ _ (by omega) (by omega) (by omega) (by rw [g3, if_neg hc41, he, Int.add_zero]) (fun _ q => g2 q) (by omega)
    refine z_iconst hZ dX4_wordsGone_0 ?_
    refine z_istore_n1 hZ dX4_wordsGone_1 (by decide) rfl ?_
    refine z_iconst hZ dX4_wordsGone_2 ?_
    refine z_istore_n2 hZ dX4_wordsGone_3 (by decide) rfl ?_
    refine z_iconst hZ dX4_wordsGone_4 ?_
    refine z_istore_n3 hZ dX4_wordsGone_5 (by decide) rfl ?_
    exact k6 _ 0 0 0 (by omega) (by omega) hn.1 rfl (fun q => absurd q (by omega)) (Nat.lt_succ_self _)
  exact hgo

