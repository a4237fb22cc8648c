/-! RING: cells at sa 4 .. 7, 9 .. 24; contracts. -/
def ij (sa : Nat → Nat) : Prop := ∀ i j, i < 25 → j < 25 → sa i = sa j → i = j
theorem ij.ne {sa : Nat → Nat} (h : ij sa) {i j : Nat} (hi : i < 25) (hj : j < 25) (hn : i ≠ j) : sa i ≠ sa j := fun q => hn (h i j hi hj q)
def inL (L : List Nat) (sa : Nat → Nat) : Prop := ∀ i, i < 25 → sa i ∈ L
def apt (sa sb : Nat → Nat) : Prop := ∀ i j, i < 25 → j < 25 → sa i ≠ sb j
def rgQ (L : List Nat) (F : Nat → PE) (sa : Nat → Nat) (π : Int → Nat) (m cv nx : Int) (hl : Int → Int) (hf : Int → Int → Int) : Prop :=
  F (sa 4) = eO 3 [.ref (sa 5), .ref (sa 6), .int (iI m), .int (iI cv), .int (iI nx)] ∧
  (∃ ρ, F (sa 5) = eQ 4 8 ρ ∧ ∀ i, 0 ≤ i → i < 8 → ρ i = some (sa (9 + π i))) ∧
  tx L F (sa 6) (sa 7) 0 0 (fun _ => 0) ∧
  (∀ i, 0 ≤ i → i < 8 → π i < 8 ∧ tx L F (sa (9 + π i)) (sa (17 + π i)) 200 (hl i) (hf i)) ∧
  (∀ i j, 0 ≤ i → i < 8 → 0 ≤ j → j < 8 → π i = π j → i = j) ∧
  (0 ≤ m ∧ m ≤ cv ∧ 1 ≤ cv ∧ cv ≤ 8) ∧ (m = 0 → nx = -1) ∧ (0 < m → 0 ≤ nx ∧ nx < m)
def fR (sa : Nat → Nat) (F F1 : Nat → PE) : Prop := ∀ b, (∀ i, 4 ≤ i → i < 25 → i ≠ 8 → b ≠ sa i) → F1 b = F b
theorem rgQ.mv {L : List Nat} {F F1 : Nat → PE} {sa : Nat → Nat} {π : Int → Nat} {m cv nx : Int} {hl : Int → Int} {hf : Int → Int → Int} (t : rgQ L F sa π m cv nx hl hf) (h : ∀ i, 4 ≤ i → i < 25 → i ≠ 8 → F1 (sa i) = F (sa i)) : rgQ L F1 sa π m cv nx hl hf := by
  obtain ⟨a, ⟨ρ, b1, b2⟩, c, d, e⟩ := t
  exact ⟨(h 4 (by omega) (by omega) (by omega)).trans a, ⟨ρ, (h 5 (by omega) (by omega) (by omega)).trans b1, b2⟩, c.mv (h 6 (by omega) (by omega) (by omega)) (h 7 (by omega) (by omega) (by omega)), fun i h0 h1 => ⟨(d i h0 h1).1, (d i h0 h1).2.mv (h _ (by omega) (by have := (d i h0 h1).1; omega) (by omega)) (h _ (by omega) (by have := (d i h0 h1).1; omega) (by omega))⟩, e⟩
theorem rgQ.cg {L : List Nat} {F : Nat → PE} {sa : Nat → Nat} {π : Int → Nat} {m cv nx : Int} {hl hl1 : Int → Int} {hf hf1 : Int → Int → Int} (t : rgQ L F sa π m cv nx hl hf) (h : ∀ i, 0 ≤ i → i < 8 → hl i = hl1 i ∧ ∀ k, 0 ≤ k → k < hl i → hf i k = hf1 i k) : rgQ L F sa π m cv nx hl1 hf1 := by
  obtain ⟨a, b, c, d, e⟩ := t
  exact ⟨a, b, c, fun i h0 h1 => ⟨(d i h0 h1).1, by rw [← (h i h0 h1).1]; exact (d i h0 h1).2.cg (h i h0 h1).2⟩, e⟩
theorem rgQ.set {L : List Nat} {F F1 : Nat → PE} {sa : Nat → Nat} {π : Int → Nat} {m cv nx : Int} {hl : Int → Int} {hf : Int → Int → Int} {i0 n1 : Int} {f1 : Int → Int} (hj : ij sa) (t : rgQ L F sa π m cv nx hl hf) (h0 : 0 ≤ i0) (h1 : i0 < 8) (tn : tx L F1 (sa (9 + π i0)) (sa (17 + π i0)) 200 n1 f1) (h : ∀ b, b ≠ sa (9 + π i0) → b ≠ sa (17 + π i0) → F1 b = F b) : rgQ L F1 sa π m cv nx (wu hl i0 n1) (wu hf i0 f1) := by
  obtain ⟨a, ⟨ρ, b1, b2⟩, c, d, e, g⟩ := t
  have p0 := (d i0 h0 h1).1
  refine ⟨(h _ (hj.ne (by omega) (by omega) (by omega)) (hj.ne (by omega) (by omega) (by omega))).trans a, ⟨ρ, (h _ (hj.ne (by omega) (by omega) (by omega)) (hj.ne (by omega) (by omega) (by omega))).trans b1, b2⟩, c.mv (h _ (hj.ne (by omega) (by omega) (by omega)) (hj.ne (by omega) (by omega) (by omega))) (h _ (hj.ne (by omega) (by omega) (by omega)) (hj.ne (by omega) (by omega) (by omega))), fun i g0 g1 => ?_, e, g⟩
  have p1 := (d i g0 g1).1
  refine ⟨p1, ?_⟩
  unfold wu
  by_cases q : i = i0
  · rw [if_pos q, if_pos q, q]; exact tn
  · rw [if_neg q, if_neg q]
    have pn : π i ≠ π i0 := fun z => q (e i i0 g0 g1 h0 h1 z)
    exact (d i g0 g1).2.mv (h _ (hj.ne (by omega) (by omega) (by omega)) (hj.ne (by omega) (by omega) (by omega))) (h _ (hj.ne (by omega) (by omega) (by omega)) (hj.ne (by omega) (by omega) (by omega)))
theorem rgQ.obj {L : List Nat} {F F1 : Nat → PE} {sa : Nat → Nat} {π : Int → Nat} {m cv nx m1 cv1 nx1 : Int} {hl : Int → Int} {hf : Int → Int → Int} (hj : ij sa) (t : rgQ L F sa π m cv nx hl hf) (h4 : F1 (sa 4) = eO 3 [.ref (sa 5), .ref (sa 6), .int (iI m1), .int (iI cv1), .int (iI nx1)]) (h : ∀ b, b ≠ sa 4 → F1 b = F b) (hm : 0 ≤ m1 ∧ m1 ≤ cv1 ∧ 1 ≤ cv1 ∧ cv1 ≤ 8) (hn : (m1 = 0 → nx1 = -1) ∧ (0 < m1 → 0 ≤ nx1 ∧ nx1 < m1)) : rgQ L F1 sa π m1 cv1 nx1 hl hf := by
  obtain ⟨a, ⟨ρ, b1, b2⟩, c, d, e, g⟩ := t
  refine ⟨h4, ⟨ρ, (h _ (hj.ne (by omega) (by omega) (by omega))).trans b1, b2⟩, c.mv (h _ (hj.ne (by omega) (by omega) (by omega))) (h _ (hj.ne (by omega) (by omega) (by omega))), fun i g0 g1 => ?_, e, hm, hn⟩
  have p1 := (d i g0 g1).1
  exact ⟨p1, (d i g0 g1).2.mv (h _ (hj.ne (by omega) (by omega) (by omega))) (h _ (hj.ne (by omega) (by omega) (by omega)))⟩
theorem rgQ.tx {L : List Nat} {F : Nat → PE} {sa : Nat → Nat} {π : Int → Nat} {m cv nx : Int} {hl : Int → Int} {hf : Int → Int → Int} (t : rgQ L F sa π m cv nx hl hf) {i : Int} (h0 : 0 ≤ i) (h1 : i < m) : tx L F (sa (9 + π i)) (sa (17 + π i)) 200 (hl i) (hf i) := (t.2.2.2.1 i h0 (by have := t.2.2.2.2.2.1; omega)).2
def loH (m : Int) (hl : Int → Int) (i : Int) : Int := if 0 ≤ i ∧ i < m then hl i else -1
def smH (hl : Int → Int) : Nat → Int
  | 0 => 0
  | k + 1 => smH hl k + hl k
def lgH (hl : Int → Int) : Nat → Int
  | 0 => -1
  | k + 1 => if lgH hl k = -1 ∨ hl (lgH hl k) < hl k then k else lgH hl k
theorem smH_rg {hl : Int → Int} : ∀ k : Nat, (∀ i, 0 ≤ i → i < k → 0 ≤ hl i ∧ hl i ≤ 200) → 0 ≤ smH hl k ∧ smH hl k ≤ 200 * k := by
  intro k
  induction k with
  | zero => intro _; exact ⟨Int.le_refl _, Int.le_refl _⟩
  | succ k ih =>
    intro h
    have a := ih (fun i h0 h1 => h i h0 (by omega))
    have b := h k (by omega) (by omega)
    unfold smH
    omega
theorem lgH_rg {hl : Int → Int} : ∀ k : Nat, -1 ≤ lgH hl k ∧ lgH hl k < k ∧ (0 < k → 0 ≤ lgH hl k) := by
  intro k
  induction k with
  | zero => exact ⟨Int.le_refl _, by show (-1 : Int) < 0; omega, fun h => by omega⟩
  | succ k ih => unfold lgH; split <;> omega
set_option maxRecDepth 100000 in
set_option maxHeartbeats 4000000 in
theorem m_X3_hoard (l : Launch) {L : List Nat} {F : Nat → PE} {sa : Nat → Nat} {π : Int → Nat} {m cv nx : Int} {hl : Int → Int} {hf : Int → Int → Int} {i : Int} (hL : inL L sa) (t : rgQ L F sa π m cv nx hl hf) (hi : 0 ≤ i ∧ i < m) : PM l yX3_hoard cX3_hoard 2 (some (.object "DragonRing$Text")) (rm 1 0 0) L [.ref (sa 4), .int (iI i)] F (fun v9 L1 F1 => v9 = some (.ref (sa (9 + π i))) ∧ L = L1 ∧ F = F1) (fun _ _ _ => False) := by
  refine pm_of cd_X3_hoard (by decide +kernel) (Nat.le_of_ble_eq_true rfl) (fun ZZ hZ => ?_)
  have hgo : ZZ 0 0 0 [some (.ref (sa 4)), some (.int (iI i))] [] L F := by
    obtain ⟨hO, ⟨ρ, hR, hρ⟩, hT, hX, hinj, hm, hn⟩ := t
    have l4 := hL 4 (by omega)
    have l5 := hL 5 (by omega)
    have hq := hρ i (by omega) (by omega)
    refine z_iload_n1 hZ dX3_hoard_0 ?_
    refine z_if_lt hZ (tgt := 27) dX3_hoard_1 rfl (by omega) (fun hc1 => ?_) (fun hc1 => ?_)
    · exfalso; omega
    · refine z_iload_n1 hZ dX3_hoard_4 ?_
      refine z_aload_n0 hZ dX3_hoard_5 ?_
      refine z_gf_X3_count hZ dX3_hoard_6 fl_X3_31 (by assumption) (by assumption) ?_
      refine z_icmp_ge hZ (tgt := 27) dX3_hoard_9 rfl (by omega) (fun hc9 => ?_) (fun hc9 => ?_)
      · exfalso; omega
      · refine z_iload_n1 hZ dX3_hoard_12 ?_
        refine z_bipush hZ dX3_hoard_13 rfl ?_
        refine z_icmp_ge hZ (tgt := 27) dX3_hoard_15 rfl (by omega) (fun hc15 => ?_) (fun hc15 => ?_)
        · exfalso; omega
        · refine z_aload_n0 hZ dX3_hoard_18 ?_
          refine z_gf_X3_rows hZ dX3_hoard_19 fl_X3_11 (by assumption) (by assumption) ?_
          refine z_iload_n1 hZ dX3_hoard_22 ?_
          refine z_aaload_Text hZ dX3_hoard_23 (by assumption) (by assumption) (by omega) (by assumption) ?_
          refine z_goto hZ (tgt := 31) dX3_hoard_24 rfl ?_
          exact z_aret hZ rfl (Nat.le_of_ble_eq_true rfl) (Nat.le_of_ble_eq_true rfl) dX3_hoard_31 (by exact ⟨rfl, rfl, rfl⟩)
  exact hgo
set_option maxRecDepth 100000 in
set_option maxHeartbeats 4000000 in
theorem m_X3_hoard_no (l : Launch) {L : List Nat} {F : Nat → PE} {sa : Nat → Nat} {π : Int → Nat} {m cv nx : Int} {hl : Int → Int} {hf : Int → Int → Int} {i : Int} (hL : inL L sa) (t : rgQ L F sa π m cv nx hl hf) (hi : ¬ (0 ≤ i ∧ i < m)) (ho : -2147483648 ≤ i ∧ i ≤ 2147483647) : PM l yX3_hoard cX3_hoard 2 (some (.object "DragonRing$Text")) (rm 1 0 0) L [.ref (sa 4), .int (iI i)] F (fun v9 L1 F1 => v9 = some (.ref (sa 6)) ∧ L = L1 ∧ F = F1) (fun _ _ _ => False) := by
  refine pm_of cd_X3_hoard (by decide +kernel) (Nat.le_of_ble_eq_true rfl) (fun ZZ hZ => ?_)
  have hgo : ZZ 0 0 0 [some (.ref (sa 4)), some (.int (iI i))] [] L F := by
    obtain ⟨hO, ⟨ρ, hR, hρ⟩, hT, hX, hinj, hm, hn⟩ := t
    have l4 := hL 4 (by omega)
    have l5 := hL 5 (by omega)
    refine z_iload_n1 hZ dX3_hoard_0 ?_
    refine z_if_lt hZ (tgt := 27) dX3_hoard_1 rfl (by omega) (fun hc1 => ?_) (fun hc1 => ?_)
    · refine z_aload_n0 hZ dX3_hoard_27 ?_
      refine z_gf_X3_noHoard hZ dX3_hoard_28 fl_X3_20 (by assumption) (by assumption) ?_
      exact z_aret hZ rfl (Nat.le_of_ble_eq_true rfl) (Nat.le_of_ble_eq_true rfl) dX3_hoard_31 (by exact ⟨rfl, rfl, rfl⟩)
    · refine z_iload_n1 hZ dX3_hoard_4 ?_
      refine z_aload_n0 hZ dX3_hoard_5 ?_
      refine z_gf_X3_count hZ dX3_hoard_6 fl_X3_31 (by assumption) (by assumption) ?_
      refine z_icmp_ge hZ (tgt := 27) dX3_hoard_9 rfl (by omega) (fun hc9 => ?_) (fun hc9 => ?_)
      · refine z_aload_n0 hZ dX3_hoard_27 ?_
        refine z_gf_X3_noHoard hZ dX3_hoard_28 fl_X3_20 (by assumption) (by assumption) ?_
        exact z_aret hZ rfl (Nat.le_of_ble_eq_true rfl) (Nat.le_of_ble_eq_true rfl) dX3_hoard_31 (by exact ⟨rfl, rfl, rfl⟩)
      · exfalso; omega
  exact hgo
set_option maxRecDepth 100000 in
set_option maxHeartbeats 4000000 in
theorem m_X3_countAt (l : Launch) {L : List Nat} {F : Nat → PE} {sa : Nat → Nat} {π : Int → Nat} {m cv nx : Int} {hl : Int → Int} {hf : Int → Int → Int} {i : Int} (hL : inL L sa) (t : rgQ L F sa π m cv nx hl hf) (ho : -2147483648 ≤ i ∧ i ≤ 2147483647) : PM l yX3_countAt cX3_countAt 2 (some .int) (rm 2 0 0) L [.ref (sa 4), .int (iI i)] F (fun v9 L1 F1 => v9 = some (.int (iI (loH m hl i))) ∧ L = L1 ∧ F = F1) (fun _ _ _ => False) := by
  refine pm_of cd_X3_countAt (by decide +kernel) (Nat.le_of_ble_eq_true rfl) (fun ZZ hZ => ?_)
  have hgo : ZZ 0 0 0 [some (.ref (sa 4)), some (.int (iI i))] [] L F := by
    have t' := t
    obtain ⟨hO, ⟨ρ, hR, hρ⟩, hT, hX, hinj, hm, hn⟩ := t
    have l4 := hL 4 (by omega)
    refine z_iload_n1 hZ dX3_countAt_0 ?_
    refine z_if_lt hZ (tgt := 23) dX3_countAt_1 rfl (by omega) (fun hc1 => ?_) (fun hc1 => ?_)
    · refine z_iconst hZ dX3_countAt_23 ?_
      exact z_iret hZ rfl (Nat.le_of_ble_eq_true rfl) (Nat.le_of_ble_eq_true rfl) dX3_countAt_24 (by first | exact ⟨pv (if_pos ⟨by omega, by omega⟩).symm, rfl, rfl⟩ | exact ⟨pv (if_neg (fun q => by omega)).symm, rfl, rfl⟩)
    · refine z_iload_n1 hZ dX3_countAt_4 ?_
      refine z_aload_n0 hZ dX3_countAt_5 ?_
      refine z_gf_X3_count hZ dX3_countAt_6 fl_X3_31 (by assumption) (by assumption) ?_
      refine z_icmp_ge hZ (tgt := 23) dX3_countAt_9 rfl (by omega) (fun hc9 => ?_) (fun hc9 => ?_)
      · refine z_iconst hZ dX3_countAt_23 ?_
        exact z_iret hZ rfl (Nat.le_of_ble_eq_true rfl) (Nat.le_of_ble_eq_true rfl) dX3_countAt_24 (by first | exact ⟨pv (if_pos ⟨by omega, by omega⟩).symm, rfl, rfl⟩ | exact ⟨pv (if_neg (fun q => by omega)).symm, rfl, rfl⟩)
      · refine z_aload_n0 hZ dX3_countAt_12 ?_
        refine z_iload_n1 hZ dX3_countAt_13 ?_
        refine z_cV hZ (As := [_]) rfl dX3_countAt_14 ml_X3_38 wy_X3_hoard (m_X3_hoard l hL t' ⟨by omega, by omega⟩) (by assumption) (by assumption) rfl ⟨Nat.le_of_ble_eq_true rfl, Nat.le_of_ble_eq_true rfl⟩ ⟨Nat.le_of_ble_eq_true rfl, Nat.le_of_ble_eq_true rfl⟩ (Nat.le_of_ble_eq_true rfl) (fun _ _ _ h => h.elim) (fun v14 L14 G14 hp14 => ?_)
        obtain ⟨rfl, rfl, rfl⟩ := hp14
        have tt := t'.tx (i := i) (by omega) (by omega)
        refine z_cV hZ (As := []) rfl dX3_countAt_17 ml_X3_42 wy_X6_count (m_X6_count l tt) tt.1.1 tt.2.1 rfl ⟨Nat.le_of_ble_eq_true rfl, Nat.le_of_ble_eq_true rfl⟩ ⟨Nat.le_of_ble_eq_true rfl, Nat.le_of_ble_eq_true rfl⟩ (Nat.le_of_ble_eq_true rfl) (fun _ _ _ h => h.elim) (fun v17 L17 G17 hp17 => ?_)
        obtain ⟨rfl, rfl, rfl⟩ := hp17
        refine z_goto hZ (tgt := 24) dX3_countAt_20 rfl ?_
        exact z_iret hZ rfl (Nat.le_of_ble_eq_true rfl) (Nat.le_of_ble_eq_true rfl) dX3_countAt_24 (by first | exact ⟨pv (if_pos ⟨by omega, by omega⟩).symm, rfl, rfl⟩ | exact ⟨pv (if_neg (fun q => by omega)).symm, rfl, rfl⟩)
  exact hgo
set_option maxRecDepth 100000 in
set_option maxHeartbeats 4000000 in
theorem m_X3_allCodes (l : Launch) {L : List Nat} {F : Nat → PE} {sa : Nat → Nat} {π : Int → Nat} {m cv nx : Int} {hl : Int → Int} {hf : Int → Int → Int} (hL : inL L sa) (t : rgQ L F sa π m cv nx hl hf) : PM l yX3_allCodes cX3_allCodes 3 (some .int) (rm 2 0 0) L [.ref (sa 4)] F (fun v9 L1 F1 => v9 = some (.int (iI (smH hl m.toNat))) ∧ L = L1 ∧ F = F1) (fun _ _ _ => False) := by
  refine pm_of cd_X3_allCodes (by decide +kernel) (Nat.le_of_ble_eq_true rfl) (fun ZZ hZ => ?_)
  have hgo : ZZ 0 0 0 [some (.ref (sa 4)), none, none] [] L F := by
    have t' := t
    obtain ⟨hO, ⟨ρ, hR, hρ⟩, hT, hX, hinj, hm, hn⟩ := t
    have l4 := hL 4 (by omega)
    have k4 : ∀ (w : Nat) (e j : Int), 0 ≤ j → j ≤ m → e = smH hl j.toNat → (m - j).toNat < w → ZZ 0 0 4 [some (.ref (sa 4)), some (.int (iI e)), some (.int (iI j))] [] L F := by
      intro w
      induction w with
      | zero => intro e j _ _ _ hw; omega
      | succ w ih =>
        intro e j h0 h1 he hw
        refine z_iload_n2 hZ dX3_allCodes_4 ?_
        refine z_aload_n0 hZ dX3_allCodes_5 ?_
        refine z_gf_X3_count hZ dX3_allCodes_6 fl_X3_31 (by assumption) (by assumption) ?_
        refine z_icmp_ge hZ (tgt := 29) dX3_allCodes_9 rfl (by omega) (fun hc9 => ?_) (fun hc9 => ?_)
        · refine z_iload_n1 hZ dX3_allCodes_29 ?_
          exact z_iret hZ rfl (Nat.le_of_ble_eq_true rfl) (Nat.le_of_ble_eq_true rfl) dX3_allCodes_30 (by exact ⟨pv (by rw [he, show j = m by omega]), rfl, rfl⟩)
        · refine z_iload_n1 hZ dX3_allCodes_12 ?_
          refine z_aload_n0 hZ dX3_allCodes_13 ?_
          refine z_iload_n2 hZ dX3_allCodes_14 ?_
          refine z_cV hZ (As := [_]) rfl dX3_allCodes_15 ml_X3_38 wy_X3_hoard (m_X3_hoard l hL t' ⟨h0, by omega⟩) (by assumption) (by assumption) rfl ⟨Nat.le_of_ble_eq_true rfl, Nat.le_of_ble_eq_true rfl⟩ ⟨Nat.le_of_ble_eq_true rfl, Nat.le_of_ble_eq_true rfl⟩ (Nat.le_of_ble_eq_true rfl) (fun _ _ _ h => h.elim) (fun v15 L15 G15 hp15 => ?_)
          obtain ⟨rfl, rfl, rfl⟩ := hp15
          have tt := t'.tx (i := j) (by omega) (by omega)
          refine z_cV hZ (As := []) rfl dX3_allCodes_18 ml_X3_42 wy_X6_count (m_X6_count l tt) tt.1.1 tt.2.1 rfl ⟨Nat.le_of_ble_eq_true rfl, Nat.le_of_ble_eq_true rfl⟩ ⟨Nat.le_of_ble_eq_true rfl, Nat.le_of_ble_eq_true rfl⟩ (Nat.le_of_ble_eq_true rfl) (fun _ _ _ h => h.elim) (fun v18 L18 G18 hp18 => ?_)
          obtain ⟨rfl, rfl, rfl⟩ := hp18
          refine z_iadd hZ dX3_allCodes_21 ?_
          refine z_istore_n1 hZ dX3_allCodes_22 (by decide) rfl ?_
          refine z_iinc2 hZ dX3_allCodes_23 (by decide) rfl ?_
          refine z_goto hZ (tgt := 4) dX3_allCodes_26 rfl ?_
          exact ih _ _ (by omega) (by omega) (by rw [he, show (j + 1).toNat = j.toNat + 1 by omega]; show _ = smH hl j.toNat + hl (j.toNat : Int); rw [Int.toNat_of_nonneg h0]) (by omega)
    refine z_iconst hZ dX3_allCodes_0 ?_
    refine z_istore_n1 hZ dX3_allCodes_1 (by decide) rfl ?_
    refine z_iconst hZ dX3_allCodes_2 ?_
    refine z_istore_n2 hZ dX3_allCodes_3 (by decide) rfl ?_
    exact k4 _ 0 0 (by omega) hm.1 rfl (Nat.lt_succ_self _)
  exact hgo
set_option maxRecDepth 100000 in
set_option maxHeartbeats 4000000 in
theorem m_X3_longestAt (l : Launch) {L : List Nat} {F : Nat → PE} {sa : Nat → Nat} {π : Int → Nat} {m cv nx : Int} {hl : Int → Int} {hf : Int → Int → Int} (hL : inL L sa) (t : rgQ L F sa π m cv nx hl hf) : PM l yX3_longestAt cX3_longestAt 3 (some .int) (rm 2 0 0) L [.ref (sa 4)] F (fun v9 L1 F1 => v9 = some (.int (iI (lgH hl m.toNat))) ∧ L = L1 ∧ F = F1) (fun _ _ _ => False) := by
  refine pm_of cd_X3_longestAt (by decide +kernel) (Nat.le_of_ble_eq_true rfl) (fun ZZ hZ => ?_)
  have hgo : ZZ 0 0 0 [some (.ref (sa 4)), none, none] [] L F := by
    have t' := t
    obtain ⟨hO, ⟨ρ, hR, hρ⟩, hT, hX, hinj, hm, hn⟩ := t
    have l4 := hL 4 (by omega)
    have k4 : ∀ (w : Nat) (e j : Int), 0 ≤ j → j ≤ m → e = lgH hl j.toNat → (m - j).toNat < w → ZZ 0 0 4 [some (.ref (sa 4)), some (.int (iI e)), some (.int (iI j))] [] L F := by
      intro w
      induction w with
      | zero => intro e j _ _ _ hw; omega
      | succ w ih =>
        intro e j h0 h1 he hw
        have rg := lgH_rg (hl := hl) j.toNat
        have up : lgH hl (j + 1).toNat = if e = -1 ∨ hl e < hl j then j else e := by
          rw [he, show (j + 1).toNat = j.toNat + 1 by omega]
          show (if lgH hl j.toNat = -1 ∨ hl (lgH hl j.toNat) < hl (j.toNat : Int) then (j.toNat : Int) else lgH hl j.toNat) = _
          rw [Int.toNat_of_nonneg h0]
        refine z_iload_n2 hZ dX3_longestAt_4 ?_
        refine z_aload_n0 hZ dX3_longestAt_5 ?_
        refine z_gf_X3_count hZ dX3_longestAt_6 fl_X3_31 (by assumption) (by assumption) ?_
        refine z_icmp_ge hZ (tgt := 44) dX3_longestAt_9 rfl (by omega) (fun hc9 => ?_) (fun hc9 => ?_)
        · refine z_iload_n1 hZ dX3_longestAt_44 ?_
          exact z_iret hZ rfl (Nat.le_of_ble_eq_true rfl) (Nat.le_of_ble_eq_true rfl) dX3_longestAt_45 (by exact ⟨pv (by rw [he, show j = m by omega]), rfl, rfl⟩)
        · refine z_iload_n1 hZ dX3_longestAt_12 ?_
          refine z_iconst hZ dX3_longestAt_13 ?_
          refine z_icmp_eq hZ (tgt := 36) dX3_longestAt_14 rfl (by omega) (fun hc14 => ?_) (fun hc14 => ?_)
          · refine z_iload_n2 hZ dX3_longestAt_36 ?_
            refine z_istore_n1 hZ dX3_longestAt_37 (by decide) rfl ?_
            refine z_iinc2 hZ dX3_longestAt_38 (by decide) rfl ?_
            refine z_goto hZ (tgt := 4) dX3_longestAt_41 rfl ?_
            first | exact ih _ _ (by omega) (by omega) (by rw [up, if_pos (Or.inl (by omega))]) (by omega) | exact ih _ _ (by omega) (by omega) (by rw [up, if_pos (Or.inr (by omega))]) (by omega) | exact ih _ _ (by omega) (by omega) (by rw [up, if_neg (by omega)]) (by omega)
          · refine z_aload_n0 hZ dX3_longestAt_17 ?_
            refine z_iload_n2 hZ dX3_longestAt_18 ?_
            refine z_cV hZ (As := [_]) rfl dX3_longestAt_19 ml_X3_38 wy_X3_hoard (m_X3_hoard l hL t' ⟨h0, by omega⟩) (by assumption) (by assumption) rfl ⟨Nat.le_of_ble_eq_true rfl, Nat.le_of_ble_eq_true rfl⟩ ⟨Nat.le_of_ble_eq_true rfl, Nat.le_of_ble_eq_true rfl⟩ (Nat.le_of_ble_eq_true rfl) (fun _ _ _ h => h.elim) (fun v19 L19 G19 hp19 => ?_)
            obtain ⟨rfl, rfl, rfl⟩ := hp19
            have tt := t'.tx (i := j) (by omega) (by omega)
            refine z_cV hZ (As := []) rfl dX3_longestAt_22 ml_X3_42 wy_X6_count (m_X6_count l tt) tt.1.1 tt.2.1 rfl ⟨Nat.le_of_ble_eq_true rfl, Nat.le_of_ble_eq_true rfl⟩ ⟨Nat.le_of_ble_eq_true rfl, Nat.le_of_ble_eq_true rfl⟩ (Nat.le_of_ble_eq_true rfl) (fun _ _ _ h => h.elim) (fun v22 L22 G22 hp22 => ?_)
            obtain ⟨rfl, rfl, rfl⟩ := hp22
            refine z_aload_n0 hZ dX3_longestAt_25 ?_
            refine z_iload_n1 hZ dX3_longestAt_26 ?_
            refine z_cV hZ (As := [_]) rfl dX3_longestAt_27 ml_X3_38 wy_X3_hoard (m_X3_hoard l hL t' ⟨by omega, by omega⟩) (by assumption) (by assumption) rfl ⟨Nat.le_of_ble_eq_true rfl, Nat.le_of_ble_eq_true rfl⟩ ⟨Nat.le_of_ble_eq_true rfl, Nat.le_of_ble_eq_true rfl⟩ (Nat.le_of_ble_eq_true rfl) (fun _ _ _ h => h.elim) (fun v27 L27 G27 hp27 => ?_)
            obtain ⟨rfl, rfl, rfl⟩ := hp27
            have te := t'.tx (i := e) (by omega) (by omega)
            refine z_cV hZ (As := []) rfl dX3_longestAt_30 ml_X3_42 wy_X6_count (m_X6_count l te) te.1.1 te.2.1 rfl ⟨Nat.le_of_ble_eq_true rfl, Nat.le_of_ble_eq_true rfl⟩ ⟨Nat.le_of_ble_eq_true rfl, Nat.le_of_ble_eq_true rfl⟩ (Nat.le_of_ble_eq_true rfl) (fun _ _ _ h => h.elim) (fun v30 L30 G30 hp30 => ?_)
            obtain ⟨rfl, rfl, rfl⟩ := hp30
            have n1 := tt.2.2.2.1
            have n2 := te.2.2.2.1
            refine z_icmp_le hZ (tgt := 38) dX3_longestAt_33 rfl (by omega) (fun hc33 => ?_) (fun hc33 => ?_)
            · refine z_iinc2 hZ dX3_longestAt_38 (by decide) rfl ?_
              refine z_goto hZ (tgt := 4) dX3_longestAt_41 rfl ?_
              first | exact ih _ _ (by omega) (by omega) (by rw [up, if_pos (Or.inl (by omega))]) (by omega) | exact ih _ _ (by omega) (by omega) (by rw [up, if_pos (Or.inr (by omega))]) (by omega) | exact ih _ _ (by omega) (by omega) (by rw [up, if_neg (by omega)]) (by omega)
            · refine z_iload_n2 hZ dX3_longestAt_36 ?_
              refine z_istore_n1 hZ dX3_longestAt_37 (by decide) rfl ?_
              refine z_iinc2 hZ dX3_longestAt_38 (by decide) rfl ?_
              refine z_goto hZ (tgt := 4) dX3_longestAt_41 rfl ?_
              first | exact ih _ _ (by omega) (by omega) (by rw [up, if_pos (Or.inl (by omega))]) (by omega) | exact ih _ _ (by omega) (by omega) (by rw [up, if_pos (Or.inr (by omega))]) (by omega) | exact ih _ _ (by omega) (by omega) (by rw [up, if_neg (by omega)]) (by omega)
    refine z_iconst hZ dX3_longestAt_0 ?_
    refine z_istore_n1 hZ dX3_longestAt_1 (by decide) rfl ?_
    refine z_iconst hZ dX3_longestAt_2 ?_
    refine z_istore_n2 hZ dX3_longestAt_3 (by decide) rfl ?_
    exact k4 _ _ 0 (by omega) hm.1 rfl (Nat.lt_succ_self _)
  exact hgo
theorem fm_all : ∀ a : Nat, a < 61 → ∀ b : Nat, b < 8 → (iI ((a : Int) - 30) - iI ((a : Int) - 30) / iI ((b : Int) + 1) * iI ((b : Int) + 1) = iI (((a : Int) - 30).tmod ((b : Int) + 1))) ∧ (0 ≤ (iI ((a : Int) - 30) ^^^ iI ((b : Int) + 1)) ↔ 0 ≤ (a : Int) - 30) ∧ (if (a : Int) - 30 < 0 ∧ ¬ ((a : Int) - 30).tmod ((b : Int) + 1) = 0 then ((a : Int) - 30).tmod ((b : Int) + 1) + ((b : Int) + 1) else ((a : Int) - 30).tmod ((b : Int) + 1)) = ((a : Int) - 30) % ((b : Int) + 1) ∧ -8 < ((a : Int) - 30).tmod ((b : Int) + 1) ∧ ((a : Int) - 30).tmod ((b : Int) + 1) < 8 := by decide +kernel
theorem fm_at {a b : Int} (h : -30 ≤ a ∧ a ≤ 30 ∧ 1 ≤ b ∧ b ≤ 8) : (iI a - iI a / iI b * iI b = iI (a.tmod b)) ∧ (0 ≤ (iI a ^^^ iI b) ↔ 0 ≤ a) ∧ (if a < 0 ∧ ¬ a.tmod b = 0 then a.tmod b + b else a.tmod b) = a % b ∧ -8 < a.tmod b ∧ a.tmod b < 8 := by
  have := fm_all (a + 30).toNat (by omega) (b - 1).toNat (by omega)
  rw [Int.toNat_of_nonneg (by omega : 0 ≤ a + 30), Int.toNat_of_nonneg (by omega : 0 ≤ b - 1), show a + 30 - 30 = a by omega, show b - 1 + 1 = b by omega] at this
  exact this
set_option maxRecDepth 100000 in
set_option maxHeartbeats 4000000 in
theorem m_J9_floorMod_7cf53 (l : Launch) {L : List Nat} {F : Nat → PE} {a b : Int} (h : -30 ≤ a ∧ a ≤ 30 ∧ 1 ≤ b ∧ b ≤ 8) : PM l yJ9_floorMod_7cf53 cJ9_floorMod_7cf53 3 (some .int) (rm 1 0 0) L [.int (iI a), .int (iI b)] F (fun v9 L1 F1 => v9 = some (.int (iI (a % b))) ∧ L = L1 ∧ F = F1) (fun _ _ _ => False) := by
  refine pm_ofF cd_J9_floorMod_7cf53 (by decide +kernel) (Nat.le_of_ble_eq_true rfl) (fun ZZ hZ => ?_)
  have hgo : ZZ 0 0 0 [some (.int (iI a)), some (.int (iI b)), none] [] L F := by
    obtain ⟨f1, f2, f3, f4, f5⟩ := fm_at h
    refine z_iload_n0 hZ dJ9_floorMod_7cf53_0 ?_
    refine z_iload_n1 hZ dJ9_floorMod_7cf53_1 ?_
    refine z_irem_g hZ dJ9_floorMod_7cf53_2 (by omega) f1 ?_
    refine z_istore_n2 hZ dJ9_floorMod_7cf53_3 (by decide) rfl ?_
    refine z_iload_n0 hZ dJ9_floorMod_7cf53_4 ?_
    refine z_iload_n1 hZ dJ9_floorMod_7cf53_5 ?_
    refine z_ixor hZ dJ9_floorMod_7cf53_6 rfl ?_
    refine z_if_ge_raw hZ (tgt := 18) dJ9_floorMod_7cf53_7 rfl (fun hc7 => ?_) (fun hc7 => ?_)
    · refine z_iload_n2 hZ dJ9_floorMod_7cf53_18 ?_
      exact z_iret hZ rfl (Nat.le_of_ble_eq_true rfl) (Nat.le_of_ble_eq_true rfl) dJ9_floorMod_7cf53_19 (by first | exact ⟨pv (by rw [← f3, if_neg (fun q => by have := f2.mp hc7; omega)]), rfl, rfl⟩ | exact ⟨pv (by rw [← f3, if_neg (fun q => q.2 hc11)]), rfl, rfl⟩)
    · refine z_iload_n2 hZ dJ9_floorMod_7cf53_10 ?_
      refine z_if_eq hZ (tgt := 18) dJ9_floorMod_7cf53_11 rfl (by omega) (fun hc11 => ?_) (fun hc11 => ?_)
      · refine z_iload_n2 hZ dJ9_floorMod_7cf53_18 ?_
        exact z_iret hZ rfl (Nat.le_of_ble_eq_true rfl) (Nat.le_of_ble_eq_true rfl) dJ9_floorMod_7cf53_19 (by first | exact ⟨pv (by rw [← f3, if_neg (fun q => by have := f2.mp hc7; omega)]), rfl, rfl⟩ | exact ⟨pv (by rw [← f3, if_neg (fun q => q.2 hc11)]), rfl, rfl⟩)
      · refine z_iload_n2 hZ dJ9_floorMod_7cf53_14 ?_
        refine z_iload_n1 hZ dJ9_floorMod_7cf53_15 ?_
        refine z_iadd hZ dJ9_floorMod_7cf53_16 ?_
        exact z_iret hZ rfl (Nat.le_of_ble_eq_true rfl) (Nat.le_of_ble_eq_true rfl) dJ9_floorMod_7cf53_17 (by exact ⟨pv (by rw [← f3, if_pos ⟨by have := mt f2.mpr hc7; omega, hc11⟩]), rfl, rfl⟩)
  exact hgo
set_option maxRecDepth 100000 in
set_option maxHeartbeats 4000000 in
theorem m_X3_nextIfTurned (l : Launch) {L : List Nat} {F : Nat → PE} {sa : Nat → Nat} {π : Int → Nat} {m cv nx : Int} {hl : Int → Int} {hf : Int → Int → Int} {z : Int} (hL : inL L sa) (t : rgQ L F sa π m cv nx hl hf) (hz : -20 ≤ z ∧ z ≤ 20) : PM l yX3_nextIfTurned cX3_nextIfTurned 2 (some .int) (rm 2 0 0) L [.ref (sa 4), .int (iI z)] F (fun v9 L1 F1 => v9 = some (.int (iI (if 0 < m then (nx + z) % m else -1))) ∧ L = L1 ∧ F = F1) (fun _ _ _ => False) := by
  refine pm_of cd_X3_nextIfTurned (by decide +kernel) (Nat.le_of_ble_eq_true rfl) (fun ZZ hZ => ?_)
  have hgo : ZZ 0 0 0 [some (.ref (sa 4)), some (.int (iI z))] [] L F := by
    obtain ⟨hO, ⟨ρ, hR, hρ⟩, hT, hX, hinj, hm, hn⟩ := t
    have l4 := hL 4 (by omega)
    refine z_aload_n0 hZ dX3_nextIfTurned_0 ?_
    refine z_gf_X3_count hZ dX3_nextIfTurned_1 fl_X3_31 (by assumption) (by assumption) ?_
    refine z_if_le hZ (tgt := 23) dX3_nextIfTurned_4 rfl (by omega) (fun hc4 => ?_) (fun hc4 => ?_)
    · refine z_iconst hZ dX3_nextIfTurned_23 ?_
      exact z_iret hZ rfl (Nat.le_of_ble_eq_true rfl) (Nat.le_of_ble_eq_true rfl) dX3_nextIfTurned_24 (by first | exact ⟨pv (if_pos (by omega)).symm, rfl, rfl⟩ | exact ⟨pv (if_neg (by omega)).symm, rfl, rfl⟩)
    · refine z_aload_n0 hZ dX3_nextIfTurned_7 ?_
      refine z_gf_X3_next hZ dX3_nextIfTurned_8 fl_X3_28 (by assumption) (by assumption) ?_
      refine z_iload_n1 hZ dX3_nextIfTurned_11 ?_
      refine z_iadd hZ dX3_nextIfTurned_12 ?_
      refine z_aload_n0 hZ dX3_nextIfTurned_13 ?_
      refine z_gf_X3_count hZ dX3_nextIfTurned_14 fl_X3_31 (by assumption) (by assumption) ?_
      refine z_cS hZ (As := [_, _]) rfl dX3_nextIfTurned_17 ml_X3_61 wy_J9_floorMod_7cf53 (m_J9_floorMod_7cf53 l (by omega)) ⟨Nat.le_of_ble_eq_true rfl, Nat.le_of_ble_eq_true rfl⟩ ⟨Nat.le_of_ble_eq_true rfl, Nat.le_of_ble_eq_true rfl⟩ (Nat.le_of_ble_eq_true rfl) (fun _ _ _ h => h.elim) (fun v17 L17 G17 hp17 => ?_)
      obtain ⟨rfl, rfl, rfl⟩ := hp17
      refine z_goto hZ (tgt := 24) dX3_nextIfTurned_20 rfl ?_
      exact z_iret hZ rfl (Nat.le_of_ble_eq_true rfl) (Nat.le_of_ble_eq_true rfl) dX3_nextIfTurned_24 (by first | exact ⟨pv (if_pos (by omega)).symm, rfl, rfl⟩ | exact ⟨pv (if_neg (by omega)).symm, rfl, rfl⟩)
  exact hgo
set_option maxRecDepth 100000 in
set_option maxHeartbeats 4000000 in
theorem m_X3_changeTo (l : Launch) {L : List Nat} {F : Nat → PE} {sa : Nat → Nat} {π : Int → Nat} {m cv nx : Int} {hl : Int → Int} {hf : Int → Int → Int} {z : Int} (hj : ij sa) (hL : inL L sa) (t : rgQ L F sa π m cv nx hl hf) (hz : 1 ≤ z ∧ z ≤ 8) : PM l yX3_changeTo cX3_changeTo 3 (some .int) (rm 2 0 0) L [.ref (sa 4), .int (iI z)] F (fun v9 L1 F1 => v9 = some (.int (iI (if 0 < m - z then m - z else 0))) ∧ L = L1 ∧ rgQ L F1 sa π (m - (if 0 < m - z then m - z else 0)) z (if m - (if 0 < m - z then m - z else 0) ≤ nx then 0 else nx) hl hf ∧ fR sa F F1) (fun _ _ _ => False) := by
  refine pm_of cd_X3_changeTo (by decide +kernel) (Nat.le_of_ble_eq_true rfl) (fun ZZ hZ => ?_)
  have hgo : ZZ 0 0 0 [some (.ref (sa 4)), some (.int (iI z)), none] [] L F := by
    have t' := t
    obtain ⟨hO, ⟨ρ, hR, hρ⟩, hT, hX, hinj, hm, hn⟩ := t
    have l4 := hL 4 (by omega)
    obtain ⟨q, hq⟩ : ∃ q, q = (if 0 < m - z then m - z else 0) := ⟨_, rfl⟩
    have hq2 : 0 ≤ q ∧ q ≤ m ∧ m - q ≤ z ∧ (q = 0 ∨ q = m - z) := by rw [hq]; split <;> omega
    refine z_iconst hZ dX3_changeTo_0 ?_
    refine z_aload_n0 hZ dX3_changeTo_1 ?_
    refine z_gf_X3_count hZ dX3_changeTo_2 fl_X3_31 (by assumption) (by assumption) ?_
    refine z_iload_n1 hZ dX3_changeTo_5 ?_
    refine z_isub hZ dX3_changeTo_6 ?_
    refine z_max hZ dX3_changeTo_7 ml_X3_51 (by omega) (Nat.le_of_ble_eq_true rfl) (Nat.le_of_ble_eq_true rfl) (Nat.le_of_ble_eq_true rfl) ⟨Nat.le_of_ble_eq_true rfl, Nat.le_of_ble_eq_true rfl⟩ ?_
    rw [← hq]
    refine z_istore_n2 hZ dX3_changeTo_10 (by decide) rfl ?_
    refine z_aload_n0 hZ dX3_changeTo_11 ?_
    refine z_iload_n1 hZ dX3_changeTo_12 ?_
    refine z_pf_X3_caves hZ dX3_changeTo_13 fl_X3_24 (by assumption) (by assumption) (fun F13 hF13 hf13 => ?_)
    refine z_aload_n0 hZ dX3_changeTo_16 ?_
    refine z_dup hZ dX3_changeTo_17 rfl ?_
    refine z_gf_X3_count hZ dX3_changeTo_18 fl_X3_31 (by assumption) (by assumption) ?_
    refine z_iload_n2 hZ dX3_changeTo_21 ?_
    refine z_isub hZ dX3_changeTo_22 ?_
    refine z_pf_X3_count hZ dX3_changeTo_23 fl_X3_31 (by assumption) (by assumption) (fun F23 hF23 hf23 => ?_)
    refine z_aload_n0 hZ dX3_changeTo_26 ?_
    refine z_gf_X3_next hZ dX3_changeTo_27 fl_X3_28 (by assumption) (by assumption) ?_
    refine z_aload_n0 hZ dX3_changeTo_30 ?_
    refine z_gf_X3_count hZ dX3_changeTo_31 fl_X3_31 (by assumption) (by assumption) ?_
    refine z_icmp_lt hZ (tgt := 42) dX3_changeTo_34 rfl (by omega) (fun hc34 => ?_) (fun hc34 => ?_)
    · refine z_iload_n2 hZ dX3_changeTo_42 ?_
      exact z_iret hZ rfl (Nat.le_of_ble_eq_true rfl) (Nat.le_of_ble_eq_true rfl) dX3_changeTo_43 (by
            rw [← hq]
            first
              | (refine ⟨rfl, rfl, t'.obj hj ?_ (fun b hb => ((hf39 b hb).trans (hf23 b hb)).trans (hf13 b hb)) (by omega) (by split <;> omega), fun b hb => ((hf39 b (hb 4 (by omega) (by omega) (by omega))).trans (hf23 b (hb 4 (by omega) (by omega) (by omega)))).trans (hf13 b (hb 4 (by omega) (by omega) (by omega)))⟩; rw [if_pos (by omega)]; exact hF39)
              | (refine ⟨rfl, rfl, t'.obj hj ?_ (fun b hb => (hf23 b hb).trans (hf13 b hb)) (by omega) (by split <;> omega), fun b hb => (hf23 b (hb 4 (by omega) (by omega) (by omega))).trans (hf13 b (hb 4 (by omega) (by omega) (by omega)))⟩; rw [if_neg (by omega)]; exact hF23))
    · refine z_aload_n0 hZ dX3_changeTo_37 ?_
      refine z_iconst hZ dX3_changeTo_38 ?_
      refine z_pf_X3_next hZ dX3_changeTo_39 fl_X3_28 (by assumption) (by assumption) (fun F39 hF39 hf39 => ?_)
      refine z_iload_n2 hZ dX3_changeTo_42 ?_
      exact z_iret hZ rfl (Nat.le_of_ble_eq_true rfl) (Nat.le_of_ble_eq_true rfl) dX3_changeTo_43 (by
            rw [← hq]
            first
              | (refine ⟨rfl, rfl, t'.obj hj ?_ (fun b hb => ((hf39 b hb).trans (hf23 b hb)).trans (hf13 b hb)) (by omega) (by split <;> omega), fun b hb => ((hf39 b (hb 4 (by omega) (by omega) (by omega))).trans (hf23 b (hb 4 (by omega) (by omega) (by omega)))).trans (hf13 b (hb 4 (by omega) (by omega) (by omega)))⟩; rw [if_pos (by omega)]; exact hF39)
              | (refine ⟨rfl, rfl, t'.obj hj ?_ (fun b hb => (hf23 b hb).trans (hf13 b hb)) (by omega) (by split <;> omega), fun b hb => (hf23 b (hb 4 (by omega) (by omega) (by omega))).trans (hf13 b (hb 4 (by omega) (by omega) (by omega)))⟩; rw [if_neg (by omega)]; exact hF23))
  exact hgo

