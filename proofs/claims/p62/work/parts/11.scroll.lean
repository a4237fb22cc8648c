/-! SCROLL: words and lines told by going (up, dn); the cells of a scroll (sc); contracts of its methods. -/
def wdC (x : Int) : Bool := (decide (48 ≤ x) && decide (x ≤ 57)) || (decide (65 ≤ x) && decide (x ≤ 90)) || (decide (97 ≤ x) && decide (x ≤ 122))
def smC (x : Int) : Bool := decide (97 ≤ x) && decide (x ≤ 122)
theorem wdC_iff {x : Int} : wdC x = true ↔ (48 ≤ x ∧ x ≤ 57) ∨ (65 ≤ x ∧ x ≤ 90) ∨ (97 ≤ x ∧ x ≤ 122) := by
  simp only [wdC, Bool.or_eq_true, Bool.and_eq_true, decide_eq_true_eq, or_assoc]
theorem smC_iff {x : Int} : smC x = true ↔ 97 ≤ x ∧ x ≤ 122 := by
  simp only [smC, Bool.and_eq_true, decide_eq_true_eq]
def isW (n : Int) (f : Int → Int) (i : Int) : Bool := wdC (cdA n f i)
def isS (n : Int) (f : Int → Int) (i : Int) : Bool := smC (cdA n f i)
def isE (n : Int) (f : Int → Int) (i : Int) : Bool := decide (cdA n f i = 10)
theorem isW_iff {n : Int} {f : Int → Int} {i : Int} : isW n f i = true ↔ (48 ≤ cdA n f i ∧ cdA n f i ≤ 57) ∨ (65 ≤ cdA n f i ∧ cdA n f i ≤ 90) ∨ (97 ≤ cdA n f i ∧ cdA n f i ≤ 122) := wdC_iff
theorem isS_iff {n : Int} {f : Int → Int} {i : Int} : isS n f i = true ↔ 97 ≤ cdA n f i ∧ cdA n f i ≤ 122 := smC_iff
theorem isE_iff {n : Int} {f : Int → Int} {i : Int} : isE n f i = true ↔ cdA n f i = 10 := decide_eq_true_iff
theorem nb_t {b : Bool} : (!b) = true ↔ ¬ b = true := by cases b <;> decide
def upS (P : Int → Bool) (hi : Int) : Nat → Int → Int
  | 0, i => i
  | k + 1, i => if i < hi ∧ P i = true then upS P hi k (i + 1) else i
def up (P : Int → Bool) (hi i : Int) : Int := upS P hi (hi - i).toNat i
theorem up_go {P : Int → Bool} {hi i : Int} (h : i < hi) (hp : P i = true) : up P hi i = up P hi (i + 1) := by
  unfold up
  rw [show (hi - i).toNat = (hi - (i + 1)).toNat + 1 by omega]
  show (if i < hi ∧ P i = true then upS P hi (hi - (i + 1)).toNat (i + 1) else i) = _
  rw [if_pos ⟨h, hp⟩]
theorem up_no {P : Int → Bool} {hi i : Int} (h : ¬ (i < hi ∧ P i = true)) : up P hi i = i := by
  unfold up
  cases (hi - i).toNat with
  | zero => rfl
  | succ k => show (if i < hi ∧ P i = true then upS P hi k (i + 1) else i) = i; rw [if_neg h]
theorem up_le {P : Int → Bool} {hi : Int} : ∀ (m : Nat) (i : Int), (hi - i).toNat ≤ m → i ≤ hi → i ≤ up P hi i ∧ up P hi i ≤ hi ∧ (∀ k, i ≤ k → k < up P hi i → P k = true) ∧ (up P hi i < hi → P (up P hi i) = false) := by
  intro m
  induction m with
  | zero =>
    intro i h hl
    rw [up_no (by omega)]
    exact ⟨Int.le_refl _, hl, fun k h1 h2 => by omega, fun h2 => by omega⟩
  | succ m ih =>
    intro i h hl
    by_cases q : i < hi ∧ P i = true
    · rw [up_go q.1 q.2]
      obtain ⟨a, b, c, d⟩ := ih (i + 1) (by omega) (by omega)
      exact ⟨by omega, b, fun k h1 h2 => by
        by_cases e : k = i
        · rw [e]; exact q.2
        · exact c k (by omega) h2, d⟩
    · rw [up_no q]
      exact ⟨Int.le_refl _, hl, fun k h1 h2 => by omega, fun h2 => by
        cases hp : P i
        · rfl
        · exact absurd ⟨h2, hp⟩ q⟩
theorem up_rg {P : Int → Bool} {hi i : Int} (h : i ≤ hi) : i ≤ up P hi i ∧ up P hi i ≤ hi := ⟨(up_le _ i (Nat.le_refl _) h).1, (up_le _ i (Nat.le_refl _) h).2.1⟩
theorem up_in {P : Int → Bool} {hi i k : Int} (h : i ≤ hi) (h1 : i ≤ k) (h2 : k < up P hi i) : P k = true := (up_le _ i (Nat.le_refl _) h).2.2.1 k h1 h2
theorem up_at {P : Int → Bool} {hi i : Int} (h : i ≤ hi) (h2 : up P hi i < hi) : P (up P hi i) = false := (up_le _ i (Nat.le_refl _) h).2.2.2 h2
theorem up_id {P : Int → Bool} {hi i r : Int} (h : i ≤ r) (hr : r ≤ hi) (h1 : ∀ k, i ≤ k → k < r → P k = true) (h2 : r < hi → P r = false) : up P hi i = r := by
  have hl : i ≤ hi := by omega
  have a := up_rg (P := P) hl
  rcases Int.lt_trichotomy (up P hi i) r with q | q | q
  · have := up_at (P := P) hl (by omega)
    rw [h1 _ a.1 q] at this
    cases this
  · exact q
  · have := up_in (P := P) hl h q
    rw [h2 (by omega)] at this
    cases this
def dnS (P : Int → Bool) : Nat → Int → Int
  | 0, i => i
  | k + 1, i => if 0 < i ∧ P (i - 1) = true then dnS P k (i - 1) else i
def dn (P : Int → Bool) (i : Int) : Int := dnS P i.toNat i
theorem dn_go {P : Int → Bool} {i : Int} (h : 0 < i) (hp : P (i - 1) = true) : dn P i = dn P (i - 1) := by
  unfold dn
  rw [show i.toNat = (i - 1).toNat + 1 by omega]
  show (if 0 < i ∧ P (i - 1) = true then dnS P (i - 1).toNat (i - 1) else i) = _
  rw [if_pos ⟨h, hp⟩]
theorem dn_no {P : Int → Bool} {i : Int} (h : ¬ (0 < i ∧ P (i - 1) = true)) : dn P i = i := by
  unfold dn
  cases i.toNat with
  | zero => rfl
  | succ k => show (if 0 < i ∧ P (i - 1) = true then dnS P k (i - 1) else i) = i; rw [if_neg h]
theorem dn_le {P : Int → Bool} : ∀ (m : Nat) (i : Int), i.toNat ≤ m → 0 ≤ i → 0 ≤ dn P i ∧ dn P i ≤ i ∧ (∀ k, dn P i ≤ k → k < i → P k = true) ∧ (0 < dn P i → P (dn P i - 1) = false) := by
  intro m
  induction m with
  | zero =>
    intro i h hl
    rw [dn_no (by omega)]
    exact ⟨hl, Int.le_refl _, fun k h1 h2 => by omega, fun h2 => by omega⟩
  | succ m ih =>
    intro i h hl
    by_cases q : 0 < i ∧ P (i - 1) = true
    · rw [dn_go q.1 q.2]
      obtain ⟨a, b, c, d⟩ := ih (i - 1) (by omega) (by omega)
      exact ⟨a, by omega, fun k h1 h2 => by
        by_cases e : k = i - 1
        · rw [e]; exact q.2
        · exact c k h1 (by omega), d⟩
    · rw [dn_no q]
      exact ⟨hl, Int.le_refl _, fun k h1 h2 => by omega, fun h2 => by
        cases hp : P (i - 1)
        · rfl
        · exact absurd ⟨h2, hp⟩ q⟩
theorem dn_rg {P : Int → Bool} {i : Int} (h : 0 ≤ i) : 0 ≤ dn P i ∧ dn P i ≤ i := ⟨(dn_le _ i (Nat.le_refl _) h).1, (dn_le _ i (Nat.le_refl _) h).2.1⟩
theorem dn_in {P : Int → Bool} {i k : Int} (h : 0 ≤ i) (h1 : dn P i ≤ k) (h2 : k < i) : P k = true := (dn_le _ i (Nat.le_refl _) h).2.2.1 k h1 h2
theorem dn_at {P : Int → Bool} {i : Int} (h : 0 ≤ i) (h2 : 0 < dn P i) : P (dn P i - 1) = false := (dn_le _ i (Nat.le_refl _) h).2.2.2 h2
theorem dn_id {P : Int → Bool} {i r : Int} (h : 0 ≤ r) (hr : r ≤ i) (h1 : ∀ k, r ≤ k → k < i → P k = true) (h2 : 0 < r → P (r - 1) = false) : dn P i = r := by
  have hl : 0 ≤ i := by omega
  have a := dn_rg (P := P) hl
  rcases Int.lt_trichotomy (dn P i) r with q | q | q
  · have := dn_in (P := P) (k := r - 1) hl (by omega) (by omega)
    rw [h2 (by omega)] at this
    cases this
  · exact q
  · have := dn_at (P := P) hl (by omega)
    rw [h1 _ (by omega) (by omega)] at this
    cases this
/-- behind the word behind a place, ahead of the word ahead of it; the beginning and the end of the line -/
def wS (n : Int) (f : Int → Int) (p : Int) : Int := up (isW n f) n (up (fun i => !isW n f i) n p)
def wB (n : Int) (f : Int → Int) (p : Int) : Int := dn (isW n f) (dn (fun i => !isW n f i) p)
def lB (n : Int) (f : Int → Int) (p : Int) : Int := dn (fun i => !isE n f i) p
def lE (n : Int) (f : Int → Int) (p : Int) : Int := up (fun i => !isE n f i) n p
theorem wS_rg {n : Int} {f : Int → Int} {p : Int} (h : p ≤ n) : p ≤ wS n f p ∧ wS n f p ≤ n := by
  have a := up_rg (P := fun i => !isW n f i) h
  have b := up_rg (P := isW n f) a.2
  unfold wS
  omega
theorem wB_rg {n : Int} {f : Int → Int} {p : Int} (h : 0 ≤ p) : 0 ≤ wB n f p ∧ wB n f p ≤ p := by
  have a := dn_rg (P := fun i => !isW n f i) h
  have b := dn_rg (P := isW n f) a.1
  unfold wB
  omega
theorem lB_rg {n : Int} {f : Int → Int} {p : Int} (h : 0 ≤ p) : 0 ≤ lB n f p ∧ lB n f p ≤ p := dn_rg h
theorem lE_rg {n : Int} {f : Int → Int} {p : Int} (h : p ≤ n) : p ≤ lE n f p ∧ lE n f p ≤ n := up_rg h
/-- the cells of a scroll -/
def sc (L : List Nat) (F : Nat → PE) (s h c : Nat) (n p mk : Int) (f : Int → Int) : Prop :=
  (s ∈ L ∧ s ≠ h ∧ s ≠ c) ∧ F s = eO 4 [.ref h, .int (iI p), .int (iI mk)] ∧ tx L F h c 200 n f ∧ (0 ≤ p ∧ p ≤ n) ∧ -1 ≤ mk ∧ mk ≤ n
theorem sc.mv {L : List Nat} {F F1 : Nat → PE} {s h c : Nat} {n p mk : Int} {f : Int → Int} (t : sc L F s h c n p mk f) (h0 : F1 s = F s) (h1 : F1 h = F h) (h2 : F1 c = F c) : sc L F1 s h c n p mk f := ⟨t.1, h0.trans t.2.1, t.2.2.1.mv h1 h2, t.2.2.2⟩
theorem sc.cg {L : List Nat} {F : Nat → PE} {s h c : Nat} {n p mk : Int} {f f1 : Int → Int} (t : sc L F s h c n p mk f) (e : ∀ k, 0 ≤ k → k < n → f k = f1 k) : sc L F s h c n p mk f1 := ⟨t.1, t.2.1, t.2.2.1.cg e, t.2.2.2⟩
set_option maxRecDepth 100000 in
set_option maxHeartbeats 4000000 in
theorem m_X4_isSmallAt (l : Launch) {L : List Nat} {F : Nat → PE} {s h c : Nat} {n p mk : Int} {f : Int → Int} {i : Int} (t : sc L F s h c n p mk f) (hi : -2147483648 ≤ i ∧ i ≤ 2147483647) : PM l yX4_isSmallAt cX4_isSmallAt 3 (some .boolean) (rm 2 0 0) L [.ref s, .int (iI i)] F (fun v9 L1 F1 => v9 = some (.int (iI (b2 (isS n f i = true)))) ∧ L = L1 ∧ F = F1) (fun _ _ _ => False) := by
  refine pm_of cd_X4_isSmallAt (by decide +kernel) (Nat.le_of_ble_eq_true rfl) (fun ZZ hZ => ?_)
  have hgo : ZZ 0 0 0 [some (.ref s), some (.int (iI i)), none] [] L F := by
    obtain ⟨⟨hs1, hs2, hs3⟩, hSc, hX, hp, hm⟩ := t
    have hX' := hX
    obtain ⟨⟨hh, hc, hne, hN⟩, hT, ⟨g, hG, hg⟩, hn, hr⟩ := hX
    have rg := cdA_rg hX' i
    refine z_aload_n0 hZ dX4_isSmallAt_0 ?_
    refine z_gf_X4_text hZ dX4_isSmallAt_1 fl_X4_14 (by assumption) (by assumption) ?_
    refine z_iload_n1 hZ dX4_isSmallAt_4 ?_
    refine z_cV hZ (As := [_]) rfl dX4_isSmallAt_5 ml_X4_59 wy_X6_code (m_X6_code l hX' hi) (by assumption) (by assumption) rfl ⟨Nat.le_of_ble_eq_true rfl, Nat.le_of_ble_eq_true rfl⟩ ⟨Nat.le_of_ble_eq_true rfl, Nat.le_of_ble_eq_true rfl⟩ (Nat.le_of_ble_eq_true rfl) (fun _ _ _ h => h.elim) (fun v5 L5 G5 hp5 => ?_)
    obtain ⟨rfl, rfl, rfl⟩ := hp5
    refine z_istore_n2 hZ dX4_isSmallAt_8 (by decide) rfl ?_
    refine z_iload_n2 hZ dX4_isSmallAt_9 ?_
    refine z_bipush hZ dX4_isSmallAt_10 rfl ?_
    refine z_icmp_lt hZ (tgt := 25) dX4_isSmallAt_12 rfl (by omega) (fun hc12 => ?_) (fun hc12 => ?_)
    · refine z_iconst hZ dX4_isSmallAt_25 ?_
      exact z_zret hZ rfl (Nat.le_of_ble_eq_true rfl) (Nat.le_of_ble_eq_true rfl) dX4_isSmallAt_26 (by first | exact Or.inl rfl | exact Or.inr rfl) (by first | exact ⟨by rw [b2_t (isS_iff.mpr (by omega))], rfl, rfl⟩ | exact ⟨by rw [b2_f (fun q => by have := isS_iff.mp q; omega)], rfl, rfl⟩)
    · refine z_iload_n2 hZ dX4_isSmallAt_15 ?_
      refine z_bipush hZ dX4_isSmallAt_16 rfl ?_
      refine z_icmp_gt hZ (tgt := 25) dX4_isSmallAt_18 rfl (by omega) (fun hc18 => ?_) (fun hc18 => ?_)
      · refine z_iconst hZ dX4_isSmallAt_25 ?_
        exact z_zret hZ rfl (Nat.le_of_ble_eq_true rfl) (Nat.le_of_ble_eq_true rfl) dX4_isSmallAt_26 (by first | exact Or.inl rfl | exact Or.inr rfl) (by first | exact ⟨by rw [b2_t (isS_iff.mpr (by omega))], rfl, rfl⟩ | exact ⟨by rw [b2_f (fun q => by have := isS_iff.mp q; omega)], rfl, rfl⟩)
      · refine z_iconst hZ dX4_isSmallAt_21 ?_
        refine z_goto hZ (tgt := 26) dX4_isSmallAt_22 rfl ?_
        exact z_zret hZ rfl (Nat.le_of_ble_eq_true rfl) (Nat.le_of_ble_eq_true rfl) dX4_isSmallAt_26 (by first | exact Or.inl rfl | exact Or.inr rfl) (by first | exact ⟨by rw [b2_t (isS_iff.mpr (by omega))], rfl, rfl⟩ | exact ⟨by rw [b2_f (fun q => by have := isS_iff.mp q; omega)], rfl, rfl⟩)
  exact hgo
set_option maxRecDepth 100000 in
set_option maxHeartbeats 4000000 in
theorem m_X4_isEndAt (l : Launch) {L : List Nat} {F : Nat → PE} {s h c : Nat} {n p mk : Int} {f : Int → Int} {i : Int} (t : sc L F s h c n p mk f) (hi : -2147483648 ≤ i ∧ i ≤ 2147483647) : PM l yX4_isEndAt cX4_isEndAt 2 (some .boolean) (rm 2 0 0) L [.ref s, .int (iI i)] F (fun v9 L1 F1 => v9 = some (.int (iI (b2 (isE n f i = true)))) ∧ L = L1 ∧ F = F1) (fun _ _ _ => False) := by
  refine pm_of cd_X4_isEndAt (by decide +kernel) (Nat.le_of_ble_eq_true rfl) (fun ZZ hZ => ?_)
  have hgo : ZZ 0 0 0 [some (.ref s), some (.int (iI i))] [] L F := by
    obtain ⟨⟨hs1, hs2, hs3⟩, hSc, hX, hp, hm⟩ := t
    have hX' := hX
    obtain ⟨⟨hh, hc, hne, hN⟩, hT, ⟨g, hG, hg⟩, hn, hr⟩ := hX
    have rg := cdA_rg hX' i
    refine z_aload_n0 hZ dX4_isEndAt_0 ?_
    refine z_gf_X4_text hZ dX4_isEndAt_1 fl_X4_14 (by assumption) (by assumption) ?_
    refine z_iload_n1 hZ dX4_isEndAt_4 ?_
    refine z_cV hZ (As := [_]) rfl dX4_isEndAt_5 ml_X4_59 wy_X6_code (m_X6_code l hX' hi) (by assumption) (by assumption) rfl ⟨Nat.le_of_ble_eq_true rfl, Nat.le_of_ble_eq_true rfl⟩ ⟨Nat.le_of_ble_eq_true rfl, Nat.le_of_ble_eq_true rfl⟩ (Nat.le_of_ble_eq_true rfl) (fun _ _ _ h => h.elim) (fun v5 L5 G5 hp5 => ?_)
    obtain ⟨rfl, rfl, rfl⟩ := hp5
    refine z_bipush hZ dX4_isEndAt_8 rfl ?_
    refine z_icmp_ne hZ (tgt := 17) dX4_isEndAt_10 rfl (by omega) (fun hc10 => ?_) (fun hc10 => ?_)
    · refine z_iconst hZ dX4_isEndAt_17 ?_
      exact z_zret hZ rfl (Nat.le_of_ble_eq_true rfl) (Nat.le_of_ble_eq_true rfl) dX4_isEndAt_18 (by first | exact Or.inl rfl | exact Or.inr rfl) (by first | exact ⟨by rw [b2_t (isE_iff.mpr (by omega))], rfl, rfl⟩ | exact ⟨by rw [b2_f (fun q => by have := isE_iff.mp q; omega)], rfl, rfl⟩)
    · refine z_iconst hZ dX4_isEndAt_13 ?_
      refine z_goto hZ (tgt := 18) dX4_isEndAt_14 rfl ?_
      exact z_zret hZ rfl (Nat.le_of_ble_eq_true rfl) (Nat.le_of_ble_eq_true rfl) dX4_isEndAt_18 (by first | exact Or.inl rfl | exact Or.inr rfl) (by first | exact ⟨by rw [b2_t (isE_iff.mpr (by omega))], rfl, rfl⟩ | exact ⟨by rw [b2_f (fun q => by have := isE_iff.mp q; omega)], rfl, rfl⟩)
  exact hgo
set_option maxRecDepth 100000 in
set_option maxHeartbeats 4000000 in
theorem m_X4_isWordAt (l : Launch) {L : List Nat} {F : Nat → PE} {s h c : Nat} {n p mk : Int} {f : Int → Int} {i : Int} (t : sc L F s h c n p mk f) (hi : -2147483648 ≤ i ∧ i ≤ 2147483647) : PM l yX4_isWordAt cX4_isWordAt 3 (some .boolean) (rm 3 0 0) L [.ref s, .int (iI i)] F (fun v9 L1 F1 => v9 = some (.int (iI (b2 (isW n f i = true)))) ∧ L = L1 ∧ F = F1) (fun _ _ _ => False) := by
  refine pm_of cd_X4_isWordAt (by decide +kernel) (Nat.le_of_ble_eq_true rfl) (fun ZZ hZ => ?_)
  have hgo : ZZ 0 0 0 [some (.ref s), some (.int (iI i)), none] [] L F := by
    have t' := t
    obtain ⟨⟨hs1, hs2, hs3⟩, hSc, hX, hp, hm⟩ := t
    have hX' := hX
    obtain ⟨⟨hh, hc, hne, hN⟩, hT, ⟨g, hG, hg⟩, hn, hr⟩ := hX
    have rg := cdA_rg hX' i
    refine z_aload_n0 hZ dX4_isWordAt_0 ?_
    refine z_gf_X4_text hZ dX4_isWordAt_1 fl_X4_14 (by assumption) (by assumption) ?_
    refine z_iload_n1 hZ dX4_isWordAt_4 ?_
    refine z_cV hZ (As := [_]) rfl dX4_isWordAt_5 ml_X4_59 wy_X6_code (m_X6_code l hX' hi) (by assumption) (by assumption) rfl ⟨Nat.le_of_ble_eq_true rfl, Nat.le_of_ble_eq_true rfl⟩ ⟨Nat.le_of_ble_eq_true rfl, Nat.le_of_ble_eq_true rfl⟩ (Nat.le_of_ble_eq_true rfl) (fun _ _ _ h => h.elim) (fun v5 L5 G5 hp5 => ?_)
    obtain ⟨rfl, rfl, rfl⟩ := hp5
    refine z_istore_n2 hZ dX4_isWordAt_8 (by decide) rfl ?_
    refine z_iload_n2 hZ dX4_isWordAt_9 ?_
    refine z_bipush hZ dX4_isWordAt_10 rfl ?_
    refine z_icmp_lt hZ (tgt := 21) dX4_isWordAt_12 rfl (by omega) (fun hc12 => ?_) (fun hc12 => ?_)
    · refine z_iload_n2 hZ dX4_isWordAt_21 ?_
      refine z_bipush hZ dX4_isWordAt_22 rfl ?_
      refine z_icmp_lt hZ (tgt := 33) dX4_isWordAt_24 rfl (by omega) (fun hc24 => ?_) (fun hc24 => ?_)
      · refine z_aload_n0 hZ dX4_isWordAt_33 ?_
        refine z_iload_n1 hZ dX4_isWordAt_34 ?_
        refine z_cV hZ (As := [_]) rfl dX4_isWordAt_35 ml_X4_62 wy_X4_isSmallAt (m_X4_isSmallAt l t' hi) (by assumption) (by assumption) rfl ⟨Nat.le_of_ble_eq_true rfl, Nat.le_of_ble_eq_true rfl⟩ ⟨Nat.le_of_ble_eq_true rfl, Nat.le_of_ble_eq_true rfl⟩ (Nat.le_of_ble_eq_true rfl) (fun _ _ _ h => h.elim) (fun v35 L35 G35 hp35 => ?_)
        obtain ⟨rfl, rfl, rfl⟩ := hp35
        refine z_if_eq_b hZ (tgt := 45) dX4_isWordAt_38 rfl (fun hc38 => ?_) (fun hc38 => ?_)
        · have hc38 : ¬ (97 ≤ cdA n f i ∧ cdA n f i ≤ 122) := fun q => hc38 (isS_iff.mpr q)
          refine z_iconst hZ dX4_isWordAt_45 ?_
          exact z_zret hZ rfl (Nat.le_of_ble_eq_true rfl) (Nat.le_of_ble_eq_true rfl) dX4_isWordAt_46 (by first | exact Or.inl rfl | exact Or.inr rfl) (by first | (exfalso; omega) | exact ⟨by rw [b2_t (isW_iff.mpr (by omega))], rfl, rfl⟩ | exact ⟨by rw [b2_f (fun q => by have := isW_iff.mp q; omega)], rfl, rfl⟩)
        · have hc38 := isS_iff.mp hc38
          refine z_iconst hZ dX4_isWordAt_41 ?_
          refine z_goto hZ (tgt := 46) dX4_isWordAt_42 rfl ?_
          exact z_zret hZ rfl (Nat.le_of_ble_eq_true rfl) (Nat.le_of_ble_eq_true rfl) dX4_isWordAt_46 (by first | exact Or.inl rfl | exact Or.inr rfl) (by first | (exfalso; omega) | exact ⟨by rw [b2_t (isW_iff.mpr (by omega))], rfl, rfl⟩ | exact ⟨by rw [b2_f (fun q => by have := isW_iff.mp q; omega)], rfl, rfl⟩)
      · refine z_iload_n2 hZ dX4_isWordAt_27 ?_
        refine z_bipush hZ dX4_isWordAt_28 rfl ?_
        refine z_icmp_le hZ (tgt := 41) dX4_isWordAt_30 rfl (by omega) (fun hc30 => ?_) (fun hc30 => ?_)
        · refine z_iconst hZ dX4_isWordAt_41 ?_
          refine z_goto hZ (tgt := 46) dX4_isWordAt_42 rfl ?_
          exact z_zret hZ rfl (Nat.le_of_ble_eq_true rfl) (Nat.le_of_ble_eq_true rfl) dX4_isWordAt_46 (by first | exact Or.inl rfl | exact Or.inr rfl) (by first | (exfalso; omega) | exact ⟨by rw [b2_t (isW_iff.mpr (by omega))], rfl, rfl⟩ | exact ⟨by rw [b2_f (fun q => by have := isW_iff.mp q; omega)], rfl, rfl⟩)
        · refine z_aload_n0 hZ dX4_isWordAt_33 ?_
          refine z_iload_n1 hZ dX4_isWordAt_34 ?_
          refine z_cV hZ (As := [_]) rfl dX4_isWordAt_35 ml_X4_62 wy_X4_isSmallAt (m_X4_isSmallAt l t' hi) (by assumption) (by assumption) rfl ⟨Nat.le_of_ble_eq_true rfl, Nat.le_of_ble_eq_true rfl⟩ ⟨Nat.le_of_ble_eq_true rfl, Nat.le_of_ble_eq_true rfl⟩ (Nat.le_of_ble_eq_true rfl) (fun _ _ _ h => h.elim) (fun v35 L35 G35 hp35 => ?_)
          obtain ⟨rfl, rfl, rfl⟩ := hp35
          refine z_if_eq_b hZ (tgt := 45) dX4_isWordAt_38 rfl (fun hc38 => ?_) (fun hc38 => ?_)
          · have hc38 : ¬ (97 ≤ cdA n f i ∧ cdA n f i ≤ 122) := fun q => hc38 (isS_iff.mpr q)
            refine z_iconst hZ dX4_isWordAt_45 ?_
            exact z_zret hZ rfl (Nat.le_of_ble_eq_true rfl) (Nat.le_of_ble_eq_true rfl) dX4_isWordAt_46 (by first | exact Or.inl rfl | exact Or.inr rfl) (by first | (exfalso; omega) | exact ⟨by rw [b2_t (isW_iff.mpr (by omega))], rfl, rfl⟩ | exact ⟨by rw [b2_f (fun q => by have := isW_iff.mp q; omega)], rfl, rfl⟩)
          · have hc38 := isS_iff.mp hc38
            refine z_iconst hZ dX4_isWordAt_41 ?_
            refine z_goto hZ (tgt := 46) dX4_isWordAt_42 rfl ?_
            exact z_zret hZ rfl (Nat.le_of_ble_eq_true rfl) (Nat.le_of_ble_eq_true rfl) dX4_isWordAt_46 (by first | exact Or.inl rfl | exact Or.inr rfl) (by first | (exfalso; omega) | exact ⟨by rw [b2_t (isW_iff.mpr (by omega))], rfl, rfl⟩ | exact ⟨by rw [b2_f (fun q => by have := isW_iff.mp q; omega)], rfl, rfl⟩)
    · refine z_iload_n2 hZ dX4_isWordAt_15 ?_
      refine z_bipush hZ dX4_isWordAt_16 rfl ?_
      refine z_icmp_le hZ (tgt := 41) dX4_isWordAt_18 rfl (by omega) (fun hc18 => ?_) (fun hc18 => ?_)
      · refine z_iconst hZ dX4_isWordAt_41 ?_
        refine z_goto hZ (tgt := 46) dX4_isWordAt_42 rfl ?_
        exact z_zret hZ rfl (Nat.le_of_ble_eq_true rfl) (Nat.le_of_ble_eq_true rfl) dX4_isWordAt_46 (by first | exact Or.inl rfl | exact Or.inr rfl) (by first | (exfalso; omega) | exact ⟨by rw [b2_t (isW_iff.mpr (by omega))], rfl, rfl⟩ | exact ⟨by rw [b2_f (fun q => by have := isW_iff.mp q; omega)], rfl, rfl⟩)
      · refine z_iload_n2 hZ dX4_isWordAt_21 ?_
        refine z_bipush hZ dX4_isWordAt_22 rfl ?_
        refine z_icmp_lt hZ (tgt := 33) dX4_isWordAt_24 rfl (by omega) (fun hc24 => ?_) (fun hc24 => ?_)
        · refine z_aload_n0 hZ dX4_isWordAt_33 ?_
          refine z_iload_n1 hZ dX4_isWordAt_34 ?_
          refine z_cV hZ (As := [_]) rfl dX4_isWordAt_35 ml_X4_62 wy_X4_isSmallAt (m_X4_isSmallAt l t' hi) (by assumption) (by assumption) rfl ⟨Nat.le_of_ble_eq_true rfl, Nat.le_of_ble_eq_true rfl⟩ ⟨Nat.le_of_ble_eq_true rfl, Nat.le_of_ble_eq_true rfl⟩ (Nat.le_of_ble_eq_true rfl) (fun _ _ _ h => h.elim) (fun v35 L35 G35 hp35 => ?_)
          obtain ⟨rfl, rfl, rfl⟩ := hp35
          refine z_if_eq_b hZ (tgt := 45) dX4_isWordAt_38 rfl (fun hc38 => ?_) (fun hc38 => ?_)
          · have hc38 : ¬ (97 ≤ cdA n f i ∧ cdA n f i ≤ 122) := fun q => hc38 (isS_iff.mpr q)
            refine z_iconst hZ dX4_isWordAt_45 ?_
            exact z_zret hZ rfl (Nat.le_of_ble_eq_true rfl) (Nat.le_of_ble_eq_true rfl) dX4_isWordAt_46 (by first | exact Or.inl rfl | exact Or.inr rfl) (by first | (exfalso; omega) | exact ⟨by rw [b2_t (isW_iff.mpr (by omega))], rfl, rfl⟩ | exact ⟨by rw [b2_f (fun q => by have := isW_iff.mp q; omega)], rfl, rfl⟩)
          · have hc38 := isS_iff.mp hc38
            refine z_iconst hZ dX4_isWordAt_41 ?_
            refine z_goto hZ (tgt := 46) dX4_isWordAt_42 rfl ?_
            exact z_zret hZ rfl (Nat.le_of_ble_eq_true rfl) (Nat.le_of_ble_eq_true rfl) dX4_isWordAt_46 (by first | exact Or.inl rfl | exact Or.inr rfl) (by first | (exfalso; omega) | exact ⟨by rw [b2_t (isW_iff.mpr (by omega))], rfl, rfl⟩ | exact ⟨by rw [b2_f (fun q => by have := isW_iff.mp q; omega)], rfl, rfl⟩)
        · refine z_iload_n2 hZ dX4_isWordAt_27 ?_
          refine z_bipush hZ dX4_isWordAt_28 rfl ?_
          refine z_icmp_le hZ (tgt := 41) dX4_isWordAt_30 rfl (by omega) (fun hc30 => ?_) (fun hc30 => ?_)
          · refine z_iconst hZ dX4_isWordAt_41 ?_
            refine z_goto hZ (tgt := 46) dX4_isWordAt_42 rfl ?_
            exact z_zret hZ rfl (Nat.le_of_ble_eq_true rfl) (Nat.le_of_ble_eq_true rfl) dX4_isWordAt_46 (by first | exact Or.inl rfl | exact Or.inr rfl) (by first | (exfalso; omega) | exact ⟨by rw [b2_t (isW_iff.mpr (by omega))], rfl, rfl⟩ | exact ⟨by rw [b2_f (fun q => by have := isW_iff.mp q; omega)], rfl, rfl⟩)
          · refine z_aload_n0 hZ dX4_isWordAt_33 ?_
            refine z_iload_n1 hZ dX4_isWordAt_34 ?_
            refine z_cV hZ (As := [_]) rfl dX4_isWordAt_35 ml_X4_62 wy_X4_isSmallAt (m_X4_isSmallAt l t' hi) (by assumption) (by assumption) rfl ⟨Nat.le_of_ble_eq_true rfl, Nat.le_of_ble_eq_true rfl⟩ ⟨Nat.le_of_ble_eq_true rfl, Nat.le_of_ble_eq_true rfl⟩ (Nat.le_of_ble_eq_true rfl) (fun _ _ _ h => h.elim) (fun v35 L35 G35 hp35 => ?_)
            obtain ⟨rfl, rfl, rfl⟩ := hp35
            refine z_if_eq_b hZ (tgt := 45) dX4_isWordAt_38 rfl (fun hc38 => ?_) (fun hc38 => ?_)
            · have hc38 : ¬ (97 ≤ cdA n f i ∧ cdA n f i ≤ 122) := fun q => hc38 (isS_iff.mpr q)
              refine z_iconst hZ dX4_isWordAt_45 ?_
              exact z_zret hZ rfl (Nat.le_of_ble_eq_true rfl) (Nat.le_of_ble_eq_true rfl) dX4_isWordAt_46 (by first | exact Or.inl rfl | exact Or.inr rfl) (by first | (exfalso; omega) | exact ⟨by rw [b2_t (isW_iff.mpr (by omega))], rfl, rfl⟩ | exact ⟨by rw [b2_f (fun q => by have := isW_iff.mp q; omega)], rfl, rfl⟩)
            · have hc38 := isS_iff.mp hc38
              refine z_iconst hZ dX4_isWordAt_41 ?_
              refine z_goto hZ (tgt := 46) dX4_isWordAt_42 rfl ?_
              exact z_zret hZ rfl (Nat.le_of_ble_eq_true rfl) (Nat.le_of_ble_eq_true rfl) dX4_isWordAt_46 (by first | exact Or.inl rfl | exact Or.inr rfl) (by first | (exfalso; omega) | exact ⟨by rw [b2_t (isW_iff.mpr (by omega))], rfl, rfl⟩ | exact ⟨by rw [b2_f (fun q => by have := isW_iff.mp q; omega)], rfl, rfl⟩)
  exact hgo
set_option maxRecDepth 100000 in
set_option maxHeartbeats 4000000 in
theorem m_X4_wordStop (l : Launch) {L : List Nat} {F : Nat → PE} {s h c : Nat} {n p mk : Int} {f : Int → Int} {i : Int} (t : sc L F s h c n p mk f) (hi : 0 ≤ i ∧ i ≤ n) : PM l yX4_wordStop cX4_wordStop 3 (some .int) (rm 4 0 0) L [.ref s, .int (iI i)] F (fun v9 L1 F1 => v9 = some (.int (iI (wS n f i))) ∧ L = L1 ∧ F = F1) (fun _ _ _ => False) := by
  refine pm_of cd_X4_wordStop (by decide +kernel) (Nat.le_of_ble_eq_true rfl) (fun ZZ hZ => ?_)
  have hgo : ZZ 0 0 0 [some (.ref s), some (.int (iI i)), none] [] L F := by
    have t' := t
    obtain ⟨⟨hs1, hs2, hs3⟩, hSc, hX, hp, hm⟩ := t
    have hX' := hX
    obtain ⟨⟨hh, hc, hne, hN⟩, hT, ⟨g, hG, hg⟩, hn, hr⟩ := hX
    have k27 : ∀ (m : Nat) (j : Int), 0 ≤ j → j ≤ n → up (isW n f) n j = wS n f i → (n - j).toNat < m → ZZ 0 0 27 [some (.ref s), some (.int (iI i)), some (.int (iI j))] [] L F := by
      intro m
      induction m with
      | zero => intro j _ _ _ hm; omega
      | succ m ih =>
        intro j h0 h1 he hm
        refine z_iload_n2 hZ dX4_wordStop_27 ?_
        refine z_aload_n0 hZ dX4_wordStop_28 ?_
        refine z_gf_X4_text hZ dX4_wordStop_29 fl_X4_14 (by assumption) (by assumption) ?_
        refine z_cV hZ (As := []) rfl dX4_wordStop_32 ml_X4_38 wy_X6_count (m_X6_count l hX') (by assumption) (by assumption) rfl ⟨Nat.le_of_ble_eq_true rfl, Nat.le_of_ble_eq_true rfl⟩ ⟨Nat.le_of_ble_eq_true rfl, Nat.le_of_ble_eq_true rfl⟩ (Nat.le_of_ble_eq_true rfl) (fun _ _ _ h => h.elim) (fun v32 L32 G32 hp32 => ?_)
        obtain ⟨rfl, rfl, rfl⟩ := hp32
        refine z_icmp_ge hZ (tgt := 52) dX4_wordStop_35 rfl (by omega) (fun hc35 => ?_) (fun hc35 => ?_)
        · refine z_iload_n2 hZ dX4_wordStop_52 ?_
          exact z_iret hZ rfl (Nat.le_of_ble_eq_true rfl) (Nat.le_of_ble_eq_true rfl) dX4_wordStop_53 (by first | exact ⟨by rw [← he, up_no (fun q => hc43 q.2)], rfl, rfl⟩ | exact ⟨by rw [← he, up_no (by omega)], rfl, rfl⟩)
        · refine z_aload_n0 hZ dX4_wordStop_38 ?_
          refine z_iload_n2 hZ dX4_wordStop_39 ?_
          refine z_cV hZ (As := [_]) rfl dX4_wordStop_40 ml_X4_66 wy_X4_isWordAt (m_X4_isWordAt l t' (by omega)) (by assumption) (by assumption) rfl ⟨Nat.le_of_ble_eq_true rfl, Nat.le_of_ble_eq_true rfl⟩ ⟨Nat.le_of_ble_eq_true rfl, Nat.le_of_ble_eq_true rfl⟩ (Nat.le_of_ble_eq_true rfl) (fun _ _ _ h => h.elim) (fun v40 L40 G40 hp40 => ?_)
          obtain ⟨rfl, rfl, rfl⟩ := hp40
          refine z_if_eq_b hZ (tgt := 52) dX4_wordStop_43 rfl (fun hc43 => ?_) (fun hc43 => ?_)
          · refine z_iload_n2 hZ dX4_wordStop_52 ?_
            exact z_iret hZ rfl (Nat.le_of_ble_eq_true rfl) (Nat.le_of_ble_eq_true rfl) dX4_wordStop_53 (by first | exact ⟨by rw [← he, up_no (fun q => hc43 q.2)], rfl, rfl⟩ | exact ⟨by rw [← he, up_no (by omega)], rfl, rfl⟩)
          · refine z_iinc2 hZ dX4_wordStop_46 (by decide) rfl ?_
            refine z_goto hZ (tgt := 27) dX4_wordStop_49 rfl ?_
            exact ih _ (by omega) (by omega) ((up_go (by omega) hc43).symm.trans he) (by omega)
    have k2 : ∀ (m : Nat) (j : Int), 0 ≤ j → j ≤ n → up (isW n f) n (up (fun i => !isW n f i) n j) = wS n f i → (n - j).toNat < m → ZZ 0 0 2 [some (.ref s), some (.int (iI i)), some (.int (iI j))] [] L F := by
      intro m
      induction m with
      | zero => intro j _ _ _ hm; omega
      | succ m ih =>
        intro j h0 h1 he hm
        refine z_iload_n2 hZ dX4_wordStop_2 ?_
        refine z_aload_n0 hZ dX4_wordStop_3 ?_
        refine z_gf_X4_text hZ dX4_wordStop_4 fl_X4_14 (by assumption) (by assumption) ?_
        refine z_cV hZ (As := []) rfl dX4_wordStop_7 ml_X4_38 wy_X6_count (m_X6_count l hX') (by assumption) (by assumption) rfl ⟨Nat.le_of_ble_eq_true rfl, Nat.le_of_ble_eq_true rfl⟩ ⟨Nat.le_of_ble_eq_true rfl, Nat.le_of_ble_eq_true rfl⟩ (Nat.le_of_ble_eq_true rfl) (fun _ _ _ h => h.elim) (fun v7 L7 G7 hp7 => ?_)
        obtain ⟨rfl, rfl, rfl⟩ := hp7
        refine z_icmp_ge hZ (tgt := 27) dX4_wordStop_10 rfl (by omega) (fun hc10 => ?_) (fun hc10 => ?_)
        · first | exact k27 _ j h0 h1 (by rw [← he, up_no (P := fun i => !isW n f i) (i := j) (fun q => nb_t.mp q.2 hc18)]) (Nat.lt_succ_self _) | exact k27 _ j h0 h1 (by rw [← he, up_no (P := fun i => !isW n f i) (i := j) (by omega)]) (Nat.lt_succ_self _)
        · refine z_aload_n0 hZ dX4_wordStop_13 ?_
          refine z_iload_n2 hZ dX4_wordStop_14 ?_
          refine z_cV hZ (As := [_]) rfl dX4_wordStop_15 ml_X4_66 wy_X4_isWordAt (m_X4_isWordAt l t' (by omega)) (by assumption) (by assumption) rfl ⟨Nat.le_of_ble_eq_true rfl, Nat.le_of_ble_eq_true rfl⟩ ⟨Nat.le_of_ble_eq_true rfl, Nat.le_of_ble_eq_true rfl⟩ (Nat.le_of_ble_eq_true rfl) (fun _ _ _ h => h.elim) (fun v15 L15 G15 hp15 => ?_)
          obtain ⟨rfl, rfl, rfl⟩ := hp15
          refine z_if_ne_b hZ (tgt := 27) dX4_wordStop_18 rfl (fun hc18 => ?_) (fun hc18 => ?_)
          · first | exact k27 _ j h0 h1 (by rw [← he, up_no (P := fun i => !isW n f i) (i := j) (fun q => nb_t.mp q.2 hc18)]) (Nat.lt_succ_self _) | exact k27 _ j h0 h1 (by rw [← he, up_no (P := fun i => !isW n f i) (i := j) (by omega)]) (Nat.lt_succ_self _)
          · refine z_iinc2 hZ dX4_wordStop_21 (by decide) rfl ?_
            refine z_goto hZ (tgt := 2) dX4_wordStop_24 rfl ?_
            exact ih _ (by omega) (by omega) (by rw [← he, up_go (P := fun i => !isW n f i) (i := j) (by omega) (nb_t.mpr hc18)]) (by omega)
    refine z_iload_n1 hZ dX4_wordStop_0 ?_
    refine z_istore_n2 hZ dX4_wordStop_1 (by decide) rfl ?_
    exact k2 _ i hi.1 hi.2 rfl (Nat.lt_succ_self _)
  exact hgo
set_option maxRecDepth 100000 in
set_option maxHeartbeats 4000000 in
theorem m_X4_wordStart (l : Launch) {L : List Nat} {F : Nat → PE} {s h c : Nat} {n p mk : Int} {f : Int → Int} {i : Int} (t : sc L F s h c n p mk f) (hi : 0 ≤ i ∧ i ≤ n) : PM l yX4_wordStart cX4_wordStart 3 (some .int) (rm 4 0 0) L [.ref s, .int (iI i)] F (fun v9 L1 F1 => v9 = some (.int (iI (wB n f i))) ∧ L = L1 ∧ F = F1) (fun _ _ _ => False) := by
  refine pm_of cd_X4_wordStart (by decide +kernel) (Nat.le_of_ble_eq_true rfl) (fun ZZ hZ => ?_)
  have hgo : ZZ 0 0 0 [some (.ref s), some (.int (iI i)), none] [] L F := by
    have t' := t
    obtain ⟨⟨hs1, hs2, hs3⟩, hSc, hX, hp, hm⟩ := t
    have hX' := hX
    obtain ⟨⟨hh, hc, hne, hN⟩, hT, ⟨g, hG, hg⟩, hn, hr⟩ := hX
    have k22 : ∀ (m : Nat) (j : Int), 0 ≤ j → j ≤ n → dn (isW n f) j = wB n f i → j.toNat < m → ZZ 0 0 22 [some (.ref s), some (.int (iI i)), some (.int (iI j))] [] L F := by
      intro m
      induction m with
      | zero => intro j _ _ _ hm; omega
      | succ m ih =>
        intro j h0 h1 he hm
        refine z_iload_n2 hZ dX4_wordStart_22 ?_
        refine z_if_le hZ (tgt := 42) dX4_wordStart_23 rfl (by omega) (fun hc23 => ?_) (fun hc23 => ?_)
        · refine z_iload_n2 hZ dX4_wordStart_42 ?_
          exact z_iret hZ rfl (Nat.le_of_ble_eq_true rfl) (Nat.le_of_ble_eq_true rfl) dX4_wordStart_43 (by first | exact ⟨by rw [← he, dn_no (fun q => hc33 q.2)], rfl, rfl⟩ | exact ⟨by rw [← he, dn_no (by omega)], rfl, rfl⟩)
        · refine z_aload_n0 hZ dX4_wordStart_26 ?_
          refine z_iload_n2 hZ dX4_wordStart_27 ?_
          refine z_iconst hZ dX4_wordStart_28 ?_
          refine z_isub hZ dX4_wordStart_29 ?_
          refine z_cV hZ (As := [_]) rfl dX4_wordStart_30 ml_X4_66 wy_X4_isWordAt (m_X4_isWordAt l t' (by omega)) (by assumption) (by assumption) rfl ⟨Nat.le_of_ble_eq_true rfl, Nat.le_of_ble_eq_true rfl⟩ ⟨Nat.le_of_ble_eq_true rfl, Nat.le_of_ble_eq_true rfl⟩ (Nat.le_of_ble_eq_true rfl) (fun _ _ _ h => h.elim) (fun v30 L30 G30 hp30 => ?_)
          obtain ⟨rfl, rfl, rfl⟩ := hp30
          refine z_if_eq_b hZ (tgt := 42) dX4_wordStart_33 rfl (fun hc33 => ?_) (fun hc33 => ?_)
          · refine z_iload_n2 hZ dX4_wordStart_42 ?_
            exact z_iret hZ rfl (Nat.le_of_ble_eq_true rfl) (Nat.le_of_ble_eq_true rfl) dX4_wordStart_43 (by first | exact ⟨by rw [← he, dn_no (fun q => hc33 q.2)], rfl, rfl⟩ | exact ⟨by rw [← he, dn_no (by omega)], rfl, rfl⟩)
          · refine z_iinc2 hZ dX4_wordStart_36 (by decide) rfl ?_
            refine z_goto hZ (tgt := 22) dX4_wordStart_39 rfl ?_
            exact ih _ (by omega) (by omega) ((dn_go (by omega) hc33).symm.trans he) (by omega)
    have k2 : ∀ (m : Nat) (j : Int), 0 ≤ j → j ≤ n → dn (isW n f) (dn (fun i => !isW n f i) j) = wB n f i → j.toNat < m → ZZ 0 0 2 [some (.ref s), some (.int (iI i)), some (.int (iI j))] [] L F := by
      intro m
      induction m with
      | zero => intro j _ _ _ hm; omega
      | succ m ih =>
        intro j h0 h1 he hm
        refine z_iload_n2 hZ dX4_wordStart_2 ?_
        refine z_if_le hZ (tgt := 22) dX4_wordStart_3 rfl (by omega) (fun hc3 => ?_) (fun hc3 => ?_)
        · first | exact k22 _ j h0 h1 (by rw [← he, dn_no (P := fun i => !isW n f i) (i := j) (fun q => nb_t.mp q.2 hc13)]) (Nat.lt_succ_self _) | exact k22 _ j h0 h1 (by rw [← he, dn_no (P := fun i => !isW n f i) (i := j) (by omega)]) (Nat.lt_succ_self _)
        · refine z_aload_n0 hZ dX4_wordStart_6 ?_
          refine z_iload_n2 hZ dX4_wordStart_7 ?_
          refine z_iconst hZ dX4_wordStart_8 ?_
          refine z_isub hZ dX4_wordStart_9 ?_
          refine z_cV hZ (As := [_]) rfl dX4_wordStart_10 ml_X4_66 wy_X4_isWordAt (m_X4_isWordAt l t' (by omega)) (by assumption) (by assumption) rfl ⟨Nat.le_of_ble_eq_true rfl, Nat.le_of_ble_eq_true rfl⟩ ⟨Nat.le_of_ble_eq_true rfl, Nat.le_of_ble_eq_true rfl⟩ (Nat.le_of_ble_eq_true rfl) (fun _ _ _ h => h.elim) (fun v10 L10 G10 hp10 => ?_)
          obtain ⟨rfl, rfl, rfl⟩ := hp10
          refine z_if_ne_b hZ (tgt := 22) dX4_wordStart_13 rfl (fun hc13 => ?_) (fun hc13 => ?_)
          · first | exact k22 _ j h0 h1 (by rw [← he, dn_no (P := fun i => !isW n f i) (i := j) (fun q => nb_t.mp q.2 hc13)]) (Nat.lt_succ_self _) | exact k22 _ j h0 h1 (by rw [← he, dn_no (P := fun i => !isW n f i) (i := j) (by omega)]) (Nat.lt_succ_self _)
          · refine z_iinc2 hZ dX4_wordStart_16 (by decide) rfl ?_
            refine z_goto hZ (tgt := 2) dX4_wordStart_19 rfl ?_
            exact ih _ (by omega) (by omega) (by rw [← he, dn_go (P := fun i => !isW n f i) (i := j) (by omega) (nb_t.mpr hc13)]; rfl) (by omega)
    refine z_iload_n1 hZ dX4_wordStart_0 ?_
    refine z_istore_n2 hZ dX4_wordStart_1 (by decide) rfl ?_
    exact k2 _ i hi.1 hi.2 rfl (Nat.lt_succ_self _)
  exact hgo
set_option maxRecDepth 100000 in
set_option maxHeartbeats 4000000 in
theorem m_X4_lineStart (l : Launch) {L : List Nat} {F : Nat → PE} {s h c : Nat} {n p mk : Int} {f : Int → Int} {i : Int} (t : sc L F s h c n p mk f) (hi : 0 ≤ i ∧ i ≤ n) : PM l yX4_lineStart cX4_lineStart 3 (some .int) (rm 4 0 0) L [.ref s, .int (iI i)] F (fun v9 L1 F1 => v9 = some (.int (iI (lB n f i))) ∧ L = L1 ∧ F = F1) (fun _ _ _ => False) := by
  refine pm_of cd_X4_lineStart (by decide +kernel) (Nat.le_of_ble_eq_true rfl) (fun ZZ hZ => ?_)
  have hgo : ZZ 0 0 0 [some (.ref s), some (.int (iI i)), none] [] L F := by
    have t' := t
    obtain ⟨⟨hs1, hs2, hs3⟩, hSc, hX, hp, hm⟩ := t
    have hX' := hX
    obtain ⟨⟨hh, hc, hne, hN⟩, hT, ⟨g, hG, hg⟩, hn, hr⟩ := hX
    have k2 : ∀ (m : Nat) (j : Int), 0 ≤ j → j ≤ n → dn (fun i => !isE n f i) j = lB n f i → j.toNat < m → ZZ 0 0 2 [some (.ref s), some (.int (iI i)), some (.int (iI j))] [] L F := by
      intro m
      induction m with
      | zero => intro j _ _ _ hm; omega
      | succ m ih =>
        intro j h0 h1 he hm
        refine z_iload_n2 hZ dX4_lineStart_2 ?_
        refine z_if_le hZ (tgt := 22) dX4_lineStart_3 rfl (by omega) (fun hc3 => ?_) (fun hc3 => ?_)
        · refine z_iload_n2 hZ dX4_lineStart_22 ?_
          exact z_iret hZ rfl (Nat.le_of_ble_eq_true rfl) (Nat.le_of_ble_eq_true rfl) dX4_lineStart_23 (by first | exact ⟨by rw [← he, dn_no (P := fun i => !isE n f i) (fun q => nb_t.mp q.2 hc13)], rfl, rfl⟩ | exact ⟨by rw [← he, dn_no (by omega)], rfl, rfl⟩)
        · refine z_aload_n0 hZ dX4_lineStart_6 ?_
          refine z_iload_n2 hZ dX4_lineStart_7 ?_
          refine z_iconst hZ dX4_lineStart_8 ?_
          refine z_isub hZ dX4_lineStart_9 ?_
          refine z_cV hZ (As := [_]) rfl dX4_lineStart_10 ml_X4_69 wy_X4_isEndAt (m_X4_isEndAt l t' (by omega)) (by assumption) (by assumption) rfl ⟨Nat.le_of_ble_eq_true rfl, Nat.le_of_ble_eq_true rfl⟩ ⟨Nat.le_of_ble_eq_true rfl, Nat.le_of_ble_eq_true rfl⟩ (Nat.le_of_ble_eq_true rfl) (fun _ _ _ h => h.elim) (fun v10 L10 G10 hp10 => ?_)
          obtain ⟨rfl, rfl, rfl⟩ := hp10
          refine z_if_ne_b hZ (tgt := 22) dX4_lineStart_13 rfl (fun hc13 => ?_) (fun hc13 => ?_)
          · refine z_iload_n2 hZ dX4_lineStart_22 ?_
            exact z_iret hZ rfl (Nat.le_of_ble_eq_true rfl) (Nat.le_of_ble_eq_true rfl) dX4_lineStart_23 (by first | exact ⟨by rw [← he, dn_no (P := fun i => !isE n f i) (fun q => nb_t.mp q.2 hc13)], rfl, rfl⟩ | exact ⟨by rw [← he, dn_no (by omega)], rfl, rfl⟩)
          · refine z_iinc2 hZ dX4_lineStart_16 (by decide) rfl ?_
            refine z_goto hZ (tgt := 2) dX4_lineStart_19 rfl ?_
            exact ih _ (by omega) (by omega) ((dn_go (P := fun i => !isE n f i) (by omega) (nb_t.mpr hc13)).symm.trans he) (by omega)
    refine z_iload_n1 hZ dX4_lineStart_0 ?_
    refine z_istore_n2 hZ dX4_lineStart_1 (by decide) rfl ?_
    exact k2 _ i hi.1 hi.2 rfl (Nat.lt_succ_self _)
  exact hgo
set_option maxRecDepth 100000 in
set_option maxHeartbeats 4000000 in
theorem m_X4_lineStop (l : Launch) {L : List Nat} {F : Nat → PE} {s h c : Nat} {n p mk : Int} {f : Int → Int} {i : Int} (t : sc L F s h c n p mk f) (hi : 0 ≤ i ∧ i ≤ n) : PM l yX4_lineStop cX4_lineStop 3 (some .int) (rm 4 0 0) L [.ref s, .int (iI i)] F (fun v9 L1 F1 => v9 = some (.int (iI (lE n f i))) ∧ L = L1 ∧ F = F1) (fun _ _ _ => False) := by
  refine pm_of cd_X4_lineStop (by decide +kernel) (Nat.le_of_ble_eq_true rfl) (fun ZZ hZ => ?_)
  have hgo : ZZ 0 0 0 [some (.ref s), some (.int (iI i)), none] [] L F := by
    have t' := t
    obtain ⟨⟨hs1, hs2, hs3⟩, hSc, hX, hp, hm⟩ := t
    have hX' := hX
    obtain ⟨⟨hh, hc, hne, hN⟩, hT, ⟨g, hG, hg⟩, hn, hr⟩ := hX
    have k2 : ∀ (m : Nat) (j : Int), 0 ≤ j → j ≤ n → up (fun i => !isE n f i) n j = lE n f i → (n - j).toNat < m → ZZ 0 0 2 [some (.ref s), some (.int (iI i)), some (.int (iI j))] [] L F := by
      intro m
      induction m with
      | zero => intro j _ _ _ hm; omega
      | succ m ih =>
        intro j h0 h1 he hm
        refine z_iload_n2 hZ dX4_lineStop_2 ?_
        refine z_aload_n0 hZ dX4_lineStop_3 ?_
        refine z_gf_X4_text hZ dX4_lineStop_4 fl_X4_14 (by assumption) (by assumption) ?_
        refine z_cV hZ (As := []) rfl dX4_lineStop_7 ml_X4_38 wy_X6_count (m_X6_count l hX') (by assumption) (by assumption) rfl ⟨Nat.le_of_ble_eq_true rfl, Nat.le_of_ble_eq_true rfl⟩ ⟨Nat.le_of_ble_eq_true rfl, Nat.le_of_ble_eq_true rfl⟩ (Nat.le_of_ble_eq_true rfl) (fun _ _ _ h => h.elim) (fun v7 L7 G7 hp7 => ?_)
        obtain ⟨rfl, rfl, rfl⟩ := hp7
        refine z_icmp_ge hZ (tgt := 27) dX4_lineStop_10 rfl (by omega) (fun hc10 => ?_) (fun hc10 => ?_)
        · refine z_iload_n2 hZ dX4_lineStop_27 ?_
          exact z_iret hZ rfl (Nat.le_of_ble_eq_true rfl) (Nat.le_of_ble_eq_true rfl) dX4_lineStop_28 (by first | exact ⟨by rw [← he, up_no (P := fun i => !isE n f i) (fun q => nb_t.mp q.2 hc18)], rfl, rfl⟩ | exact ⟨by rw [← he, up_no (by omega)], rfl, rfl⟩)
        · refine z_aload_n0 hZ dX4_lineStop_13 ?_
          refine z_iload_n2 hZ dX4_lineStop_14 ?_
          refine z_cV hZ (As := [_]) rfl dX4_lineStop_15 ml_X4_69 wy_X4_isEndAt (m_X4_isEndAt l t' (by omega)) (by assumption) (by assumption) rfl ⟨Nat.le_of_ble_eq_true rfl, Nat.le_of_ble_eq_true rfl⟩ ⟨Nat.le_of_ble_eq_true rfl, Nat.le_of_ble_eq_true rfl⟩ (Nat.le_of_ble_eq_true rfl) (fun _ _ _ h => h.elim) (fun v15 L15 G15 hp15 => ?_)
          obtain ⟨rfl, rfl, rfl⟩ := hp15
          refine z_if_ne_b hZ (tgt := 27) dX4_lineStop_18 rfl (fun hc18 => ?_) (fun hc18 => ?_)
          · refine z_iload_n2 hZ dX4_lineStop_27 ?_
            exact z_iret hZ rfl (Nat.le_of_ble_eq_true rfl) (Nat.le_of_ble_eq_true rfl) dX4_lineStop_28 (by first | exact ⟨by rw [← he, up_no (P := fun i => !isE n f i) (fun q => nb_t.mp q.2 hc18)], rfl, rfl⟩ | exact ⟨by rw [← he, up_no (by omega)], rfl, rfl⟩)
          · refine z_iinc2 hZ dX4_lineStop_21 (by decide) rfl ?_
            refine z_goto hZ (tgt := 2) dX4_lineStop_24 rfl ?_
            exact ih _ (by omega) (by omega) ((up_go (P := fun i => !isE n f i) (by omega) (nb_t.mpr hc18)).symm.trans he) (by omega)
    refine z_iload_n1 hZ dX4_lineStop_0 ?_
    refine z_istore_n2 hZ dX4_lineStop_1 (by decide) rfl ?_
    exact k2 _ i hi.1 hi.2 rfl (Nat.lt_succ_self _)
  exact hgo

