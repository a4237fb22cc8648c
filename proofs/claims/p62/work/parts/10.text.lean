/-! TEXT: a row of codes in a room. tx: its cells; contracts of its methods. -/
abbrev rm (d c n : Nat) : Room := { frames := d, cells := c, slots := n, locals := 30 * d + 60 }
def tx (L : List Nat) (F : Nat → PE) (h c N : Nat) (n : Int) (f : Int → Int) : Prop :=
  (h ∈ L ∧ c ∈ L ∧ h ≠ c ∧ N ≤ 200) ∧ F h = eO 6 [.ref c, .int (iI n)] ∧ (∃ g, F c = eI 0 N g ∧ ∀ k, 0 ≤ k → k < n → g k = f k) ∧ (0 ≤ n ∧ n ≤ N) ∧ ∀ k, 0 ≤ k → k < n → 10 ≤ f k ∧ f k ≤ 126
theorem tx.mv {L : List Nat} {F F1 : Nat → PE} {h c N : Nat} {n : Int} {f : Int → Int} (t : tx L F h c N n f) (h1 : F1 h = F h) (h2 : F1 c = F c) : tx L F1 h c N n f := by
  obtain ⟨a, b, ⟨g, e1, e2⟩, d⟩ := t
  exact ⟨a, h1.trans b, ⟨g, h2.trans e1, e2⟩, d⟩
theorem tx.cg {L : List Nat} {F : Nat → PE} {h c N : Nat} {n : Int} {f f1 : Int → Int} (t : tx L F h c N n f) (e : ∀ k, 0 ≤ k → k < n → f k = f1 k) : tx L F h c N n f1 := by
  obtain ⟨a, b, ⟨g, e1, e2⟩, d, r⟩ := t
  exact ⟨a, b, ⟨g, e1, fun k h0 h1 => (e2 k h0 h1).trans (e k h0 h1)⟩, d, fun k h0 h1 => by rw [← e k h0 h1]; exact r k h0 h1⟩
theorem pv {a b : Int} (h : a = b) : some (Value.int (iI a)) = some (Value.int (iI b)) := by rw [h]
/-- the code at a place, or -1 -/
def cdA (n : Int) (f : Int → Int) (i : Int) : Int := if 0 ≤ i ∧ i < n then f i else -1
theorem cdA_in {n : Int} {f : Int → Int} {i : Int} (h : 0 ≤ i ∧ i < n) : cdA n f i = f i := if_pos h
theorem cdA_out {n : Int} {f : Int → Int} {i : Int} (h : ¬ (0 ≤ i ∧ i < n)) : cdA n f i = -1 := if_neg h
theorem cdA_rg {L : List Nat} {F : Nat → PE} {h c N : Nat} {n : Int} {f : Int → Int} (t : tx L F h c N n f) (i : Int) : -1 ≤ cdA n f i ∧ cdA n f i ≤ 126 := by
  unfold cdA
  split
  · rename_i h
    have := t.2.2.2.2 i h.1 h.2
    omega
  · omega
/-- what is put in at a place; what is taken out -/
def insA (f : Int → Int) (i m : Int) (g : Int → Int) : Int → Int := fun k => if k < i then f k else if k < i + m then g (k - i) else f (k - m)
def delA (f : Int → Int) (i j : Int) : Int → Int := fun k => if k < i then f k else f (k + (j - i))
def eqA (f g : Int → Int) (i : Int) : Nat → Bool
  | 0 => true
  | k + 1 => eqA f g i k && decide (f (i + k) = g k)
abbrev stA (n : Int) (f : Int → Int) (n1 : Int) (f1 : Int → Int) (i : Int) : Prop := 0 ≤ i ∧ i ≤ n - n1 ∧ eqA f f1 i n1.toNat = true
theorem eqA_no {f g : Int → Int} {i : Int} {j : Int} (hj : 0 ≤ j) (h : ¬ f (i + j) = g j) : ∀ n : Nat, j < n → eqA f g i n = false := by
  intro n
  induction n with
  | zero => intro h; omega
  | succ n ih =>
    intro hn
    unfold eqA
    by_cases e : j = n
    · subst e
      rw [decide_eq_false h, Bool.and_false]
    · rw [ih (by omega), Bool.false_and]
theorem eqA_up {f g : Int → Int} {i j : Int} (hj : 0 ≤ j) (h : eqA f g i j.toNat = true) (e : f (i + j) = g j) : eqA f g i (j + 1).toNat = true := by
  have : (j + 1).toNat = j.toNat + 1 := by omega
  rw [this]
  unfold eqA
  rw [h, Bool.true_and]
  have e2 : ((j.toNat : Nat) : Int) = j := by omega
  rw [e2]
  exact decide_eq_true e
set_option maxRecDepth 100000 in
set_option maxHeartbeats 4000000 in
theorem m_X6_count (l : Launch) {L : List Nat} {F : Nat → PE} {h c N : Nat} {n : Int} {f : Int → Int} (t : tx L F h c N n f) : PM l yX6_count cX6_count 1 (some .int) (rm 1 0 0) L [.ref h] F (fun v9 L1 F1 => v9 = some (.int (iI n)) ∧ L = L1 ∧ F = F1) (fun _ _ _ => False) := by
  refine pm_of cd_X6_count (by decide +kernel) (Nat.le_of_ble_eq_true rfl) (fun ZZ hZ => ?_)
  have hgo : ZZ 0 0 0 [some (.ref h)] [] L F := by
    obtain ⟨⟨hh, hc, hne, hN⟩, hT, ⟨g, hG, hg⟩, hn, hr⟩ := t
    refine z_aload_n0 hZ dX6_count_0 ?_
    refine z_gf_X6_count hZ dX6_count_1 fl_X6_15 (by assumption) (by assumption) ?_
    exact z_iret hZ rfl (Nat.le_of_ble_eq_true rfl) (Nat.le_of_ble_eq_true rfl) dX6_count_4 (by exact ⟨rfl, rfl, rfl⟩)
  exact hgo
set_option maxRecDepth 100000 in
set_option maxHeartbeats 4000000 in
theorem m_X6_room (l : Launch) {L : List Nat} {F : Nat → PE} {h c N : Nat} {n : Int} {f : Int → Int} (t : tx L F h c N n f) : PM l yX6_room cX6_room 1 (some .int) (rm 1 0 0) L [.ref h] F (fun v9 L1 F1 => v9 = some (.int (iI (N - n))) ∧ L = L1 ∧ F = F1) (fun _ _ _ => False) := by
  refine pm_of cd_X6_room (by decide +kernel) (Nat.le_of_ble_eq_true rfl) (fun ZZ hZ => ?_)
  have hgo : ZZ 0 0 0 [some (.ref h)] [] L F := by
    obtain ⟨⟨hh, hc, hne, hN⟩, hT, ⟨g, hG, hg⟩, hn, hr⟩ := t
    refine z_aload_n0 hZ dX6_room_0 ?_
    refine z_gf_X6_codes hZ dX6_room_1 fl_X6_9 (by assumption) (by assumption) ?_
    refine z_alen0 hZ dX6_room_4 (by assumption) (by assumption) ?_
    refine z_aload_n0 hZ dX6_room_5 ?_
    refine z_gf_X6_count hZ dX6_room_6 fl_X6_15 (by assumption) (by assumption) ?_
    refine z_isub hZ dX6_room_9 ?_
    exact z_iret hZ rfl (Nat.le_of_ble_eq_true rfl) (Nat.le_of_ble_eq_true rfl) dX6_room_10 (by exact ⟨rfl, rfl, rfl⟩)
  exact hgo
set_option maxRecDepth 100000 in
set_option maxHeartbeats 4000000 in
theorem m_X6_code (l : Launch) {L : List Nat} {F : Nat → PE} {h c N : Nat} {n : Int} {f : Int → Int} {i : Int} (t : tx L F h c N n f) (hi : -2147483648 ≤ i ∧ i ≤ 2147483647) : PM l yX6_code cX6_code 2 (some .int) (rm 1 0 0) L [.ref h, .int (iI i)] F (fun v9 L1 F1 => v9 = some (.int (iI (cdA n f i))) ∧ L = L1 ∧ F = F1) (fun _ _ _ => False) := by
  refine pm_of cd_X6_code (by decide +kernel) (Nat.le_of_ble_eq_true rfl) (fun ZZ hZ => ?_)
  have hgo : ZZ 0 0 0 [some (.ref h), some (.int (iI i))] [] L F := by
    obtain ⟨⟨hh, hc, hne, hN⟩, hT, ⟨g, hG, hg⟩, hn, hr⟩ := t
    refine z_iload_n1 hZ dX6_code_0 ?_
    refine z_if_lt hZ (tgt := 30) dX6_code_1 rfl (by omega) (fun hc1 => ?_) (fun hc1 => ?_)
    · refine z_iconst hZ dX6_code_30 ?_
      exact z_iret hZ rfl (Nat.le_of_ble_eq_true rfl) (Nat.le_of_ble_eq_true rfl) dX6_code_31 (by first | exact ⟨by rw [cdA_out (n := n) (f := f) (i := i) (by omega)], rfl, rfl⟩ | exact ⟨by rw [cdA_in (n := n) (f := f) (i := i) (by omega), hg i (by omega) (by omega)], rfl, rfl⟩)
    · refine z_iload_n1 hZ dX6_code_4 ?_
      refine z_aload_n0 hZ dX6_code_5 ?_
      refine z_gf_X6_count hZ dX6_code_6 fl_X6_15 (by assumption) (by assumption) ?_
      refine z_icmp_ge hZ (tgt := 30) dX6_code_9 rfl (by omega) (fun hc9 => ?_) (fun hc9 => ?_)
      · refine z_iconst hZ dX6_code_30 ?_
        exact z_iret hZ rfl (Nat.le_of_ble_eq_true rfl) (Nat.le_of_ble_eq_true rfl) dX6_code_31 (by first | exact ⟨by rw [cdA_out (n := n) (f := f) (i := i) (by omega)], rfl, rfl⟩ | exact ⟨by rw [cdA_in (n := n) (f := f) (i := i) (by omega), hg i (by omega) (by omega)], rfl, rfl⟩)
      · refine z_iload_n1 hZ dX6_code_12 ?_
        refine z_aload_n0 hZ dX6_code_13 ?_
        refine z_gf_X6_codes hZ dX6_code_14 fl_X6_9 (by assumption) (by assumption) ?_
        refine z_alen0 hZ dX6_code_17 (by assumption) (by assumption) ?_
        refine z_icmp_ge hZ (tgt := 30) dX6_code_18 rfl (by omega) (fun hc18 => ?_) (fun hc18 => ?_)
        · exfalso; omega
        · refine z_aload_n0 hZ dX6_code_21 ?_
          refine z_gf_X6_codes hZ dX6_code_22 fl_X6_9 (by assumption) (by assumption) ?_
          refine z_iload_n1 hZ dX6_code_25 ?_
          refine z_iaload hZ dX6_code_26 (by assumption) (by assumption) (by omega) ?_
          refine z_goto hZ (tgt := 31) dX6_code_27 rfl ?_
          exact z_iret hZ rfl (Nat.le_of_ble_eq_true rfl) (Nat.le_of_ble_eq_true rfl) dX6_code_31 (by first | exact ⟨by rw [cdA_out (n := n) (f := f) (i := i) (by omega)], rfl, rfl⟩ | exact ⟨by rw [cdA_in (n := n) (f := f) (i := i) (by omega), hg i (by omega) (by omega)], rfl, rfl⟩)
  exact hgo
set_option maxRecDepth 100000 in
set_option maxHeartbeats 4000000 in
theorem m_X6_change (l : Launch) {L : List Nat} {F : Nat → PE} {h c N : Nat} {n : Int} {f : Int → Int} {i x : Int} (t : tx L F h c N n f) (hi : 0 ≤ i ∧ i < n) (hx : 10 ≤ x ∧ x ≤ 126) : PM l yX6_change cX6_change 3 none (rm 1 0 0) L [.ref h, .int (iI i), .int (iI x)] F (fun v9 L1 F1 => v9 = none ∧ L = L1 ∧ tx L F1 h c N n (wu f i x) ∧ ∀ b, b ≠ h → b ≠ c → F1 b = F b) (fun _ _ _ => False) := by
  refine pm_of cd_X6_change (by decide +kernel) (Nat.le_of_ble_eq_true rfl) (fun ZZ hZ => ?_)
  have hgo : ZZ 0 0 0 [some (.ref h), some (.int (iI i)), some (.int (iI x))] [] L F := by
    obtain ⟨⟨hh, hc, hne, hN⟩, hT, ⟨g, hG, hg⟩, hn, hr⟩ := t
    refine z_iload_n1 hZ dX6_change_0 ?_
    refine z_if_lt hZ (tgt := 28) dX6_change_1 rfl (by omega) (fun hc1 => ?_) (fun hc1 => ?_)
    · exfalso; omega
    · refine z_iload_n1 hZ dX6_change_4 ?_
      refine z_aload_n0 hZ dX6_change_5 ?_
      refine z_gf_X6_count hZ dX6_change_6 fl_X6_15 (by assumption) (by assumption) ?_
      refine z_icmp_ge hZ (tgt := 28) dX6_change_9 rfl (by omega) (fun hc9 => ?_) (fun hc9 => ?_)
      · exfalso; omega
      · refine z_iload_n1 hZ dX6_change_12 ?_
        refine z_aload_n0 hZ dX6_change_13 ?_
        refine z_gf_X6_codes hZ dX6_change_14 fl_X6_9 (by assumption) (by assumption) ?_
        refine z_alen0 hZ dX6_change_17 (by assumption) (by assumption) ?_
        refine z_icmp_ge hZ (tgt := 28) dX6_change_18 rfl (by omega) (fun hc18 => ?_) (fun hc18 => ?_)
        · exfalso; omega
        · refine z_aload_n0 hZ dX6_change_21 ?_
          refine z_gf_X6_codes hZ dX6_change_22 fl_X6_9 (by assumption) (by assumption) ?_
          refine z_iload_n1 hZ dX6_change_25 ?_
          refine z_iload_n2 hZ dX6_change_26 ?_
          refine z_iastore hZ dX6_change_27 (by assumption) (by assumption) (by omega) (fun F27 hF27 hf27 => ?_)
          exact z_vret hZ rfl (Nat.le_of_ble_eq_true rfl) (Nat.le_of_ble_eq_true rfl) dX6_change_28 (by
            refine ⟨rfl, rfl, ⟨⟨hh, hc, hne, hN⟩, (hf27 h hne).trans hT, ⟨_, hF27, fun k h0 h1 => ?_⟩, hn, fun k h0 h1 => ?_⟩, fun b _ h2 => hf27 b h2⟩
            · unfold wu; split; rfl; exact hg k h0 h1
            · unfold wu; split; exact hx; exact hr k h0 h1)
  exact hgo
set_option maxRecDepth 100000 in
set_option maxHeartbeats 4000000 in
theorem m_X6_empty (l : Launch) {L : List Nat} {F : Nat → PE} {h c N : Nat} {n : Int} {f : Int → Int} (t : tx L F h c N n f) : PM l yX6_empty cX6_empty 1 none (rm 1 0 0) L [.ref h] F (fun v9 L1 F1 => v9 = none ∧ L = L1 ∧ tx L F1 h c N 0 f ∧ ∀ b, b ≠ h → b ≠ c → F1 b = F b) (fun _ _ _ => False) := by
  refine pm_of cd_X6_empty (by decide +kernel) (Nat.le_of_ble_eq_true rfl) (fun ZZ hZ => ?_)
  have hgo : ZZ 0 0 0 [some (.ref h)] [] L F := by
    obtain ⟨⟨hh, hc, hne, hN⟩, hT, ⟨g, hG, hg⟩, hn, hr⟩ := t
    refine z_aload_n0 hZ dX6_empty_0 ?_
    refine z_iconst hZ dX6_empty_1 ?_
    refine z_pf_X6_count hZ dX6_empty_2 fl_X6_15 (by assumption) (by assumption) (fun F2 hF2 hf2 => ?_)
    exact z_vret hZ rfl (Nat.le_of_ble_eq_true rfl) (Nat.le_of_ble_eq_true rfl) dX6_empty_5 (by exact ⟨rfl, rfl, ⟨⟨hh, hc, hne, hN⟩, hF2, ⟨g, (hf2 c (Ne.symm hne)).trans hG, fun k h0 h1 => by omega⟩, by omega, fun k h0 h1 => by omega⟩, fun b h1 _ => hf2 b h1⟩)
  exact hgo
set_option maxRecDepth 100000 in
set_option maxHeartbeats 4000000 in
theorem m_X6_copyFrom (l : Launch) {L : List Nat} {F : Nat → PE} {h c N h1 c1 N1 : Nat} {n n1 : Int} {f f1 : Int → Int} (t : tx L F h c N n f) (t1 : tx L F h1 c1 N1 n1 f1) (hd : h ≠ h1 ∧ h ≠ c1 ∧ c ≠ h1 ∧ c ≠ c1) (hfit : n1 ≤ N) : PM l yX6_copyFrom cX6_copyFrom 2 none (rm 2 0 0) L [.ref h, .ref h1] F (fun v9 L1 F1 => v9 = none ∧ L = L1 ∧ tx L F1 h c N n1 f1 ∧ ∀ b, b ≠ h → b ≠ c → F1 b = F b) (fun _ _ _ => False) := by
  refine pm_of cd_X6_copyFrom (by decide +kernel) (Nat.le_of_ble_eq_true rfl) (fun ZZ hZ => ?_)
  have hgo : ZZ 0 0 0 [some (.ref h), some (.ref h1)] [] L F := by
    obtain ⟨⟨hh, hc, hne, hN⟩, hT, ⟨g, hG, hg⟩, hn, hr⟩ := t
    obtain ⟨⟨hh1, hc1, hne1, hN1⟩, hT1, ⟨g1, hG1, hg1⟩, hn1, hr1⟩ := t1
    obtain ⟨d1, d2, d3, d4⟩ := hd
    refine z_aload_n0 hZ dX6_copyFrom_0 ?_
    refine z_aload_n1 hZ dX6_copyFrom_1 ?_
    refine z_gf_X6_count hZ dX6_copyFrom_2 fl_X6_15 (by assumption) (by assumption) ?_
    refine z_aload_n0 hZ dX6_copyFrom_5 ?_
    refine z_gf_X6_codes hZ dX6_copyFrom_6 fl_X6_9 (by assumption) (by assumption) ?_
    refine z_alen0 hZ dX6_copyFrom_9 (by assumption) (by assumption) ?_
    refine z_min hZ dX6_copyFrom_10 ml_X6_19 (by omega) (Nat.le_of_ble_eq_true rfl) (Nat.le_of_ble_eq_true rfl) (Nat.le_of_ble_eq_true rfl) ⟨Nat.le_of_ble_eq_true rfl, Nat.le_of_ble_eq_true rfl⟩ ?_
    rw [if_neg (show ¬ (N : Int) < n1 by omega)]
    refine z_pf_X6_count hZ dX6_copyFrom_13 fl_X6_15 (by assumption) (by assumption) (fun F13 hF13 hf13 => ?_)
    have hT1 := (hf13 _ (Ne.symm d1)).trans hT1
    have hG := (hf13 _ (Ne.symm hne)).trans hG
    have hG1 := (hf13 _ (Ne.symm d2)).trans hG1
    refine z_aload_n1 hZ dX6_copyFrom_16 ?_
    refine z_gf_X6_codes hZ dX6_copyFrom_17 fl_X6_9 (by assumption) (by assumption) ?_
    refine z_iconst hZ dX6_copyFrom_20 ?_
    refine z_aload_n0 hZ dX6_copyFrom_21 ?_
    refine z_gf_X6_codes hZ dX6_copyFrom_22 fl_X6_9 (by assumption) (by assumption) ?_
    refine z_iconst hZ dX6_copyFrom_25 ?_
    refine z_aload_n0 hZ dX6_copyFrom_26 ?_
    refine z_gf_X6_count hZ dX6_copyFrom_27 fl_X6_15 (by assumption) (by assumption) ?_
    refine z_copyi hZ dX6_copyFrom_30 ml_X6_25 (by assumption) (by assumption) (by assumption) (by assumption) (by omega) (by omega) (by omega) (Nat.le_of_ble_eq_true rfl) (Nat.le_of_ble_eq_true rfl) (Nat.le_of_ble_eq_true rfl) (fun F30 hF30 hf30 => ?_)
    exact z_vret hZ rfl (Nat.le_of_ble_eq_true rfl) (Nat.le_of_ble_eq_true rfl) dX6_copyFrom_33 (by
            refine ⟨rfl, rfl, ⟨⟨hh, hc, hne, hN⟩, (hf30 h hne).trans hF13, ⟨_, hF30, fun k h0 h1 => ?_⟩, by omega, hr1⟩, fun b h1 h2 => (hf30 b h2).trans (hf13 b h1)⟩
            unfold zcp; rw [if_pos (by omega), ← hg1 k h0 h1]; congr 1; omega)
  exact hgo
set_option maxRecDepth 100000 in
set_option maxHeartbeats 4000000 in
theorem m_X6_insertCode (l : Launch) {L : List Nat} {F : Nat → PE} {h c N : Nat} {n : Int} {f : Int → Int} {i x : Int} (t : tx L F h c N n f) (hi : 0 ≤ i ∧ i ≤ n ∧ n < N) (hx : 10 ≤ x ∧ x ≤ 126) : PM l yX6_insertCode cX6_insertCode 3 none (rm 2 0 0) L [.ref h, .int (iI i), .int (iI x)] F (fun v9 L1 F1 => v9 = none ∧ L = L1 ∧ tx L F1 h c N (n + 1) (insA f i 1 (fun _ => x)) ∧ ∀ b, b ≠ h → b ≠ c → F1 b = F b) (fun _ _ _ => False) := by
  refine pm_of cd_X6_insertCode (by decide +kernel) (Nat.le_of_ble_eq_true rfl) (fun ZZ hZ => ?_)
  have hgo : ZZ 0 0 0 [some (.ref h), some (.int (iI i)), some (.int (iI x))] [] L F := by
    have t' := t
    obtain ⟨⟨hh, hc, hne, hN⟩, hT, ⟨g, hG, hg⟩, hn, hr⟩ := t
    refine z_iload_n1 hZ dX6_insertCode_0 ?_
    refine z_if_lt hZ (tgt := 20) dX6_insertCode_1 rfl (by omega) (fun hc1 => ?_) (fun hc1 => ?_)
    · exfalso; omega
    · refine z_iload_n1 hZ dX6_insertCode_4 ?_
      refine z_aload_n0 hZ dX6_insertCode_5 ?_
      refine z_gf_X6_count hZ dX6_insertCode_6 fl_X6_15 (by assumption) (by assumption) ?_
      refine z_icmp_gt hZ (tgt := 20) dX6_insertCode_9 rfl (by omega) (fun hc9 => ?_) (fun hc9 => ?_)
      · exfalso; omega
      · refine z_aload_n0 hZ dX6_insertCode_12 ?_
        refine z_cV hZ (As := []) rfl dX6_insertCode_13 ml_X6_31 wy_X6_room (m_X6_room l t') (by assumption) (by assumption) rfl ⟨Nat.le_of_ble_eq_true rfl, Nat.le_of_ble_eq_true rfl⟩ ⟨Nat.le_of_ble_eq_true rfl, Nat.le_of_ble_eq_true rfl⟩ (Nat.le_of_ble_eq_true rfl) (fun _ _ _ h => h.elim) (fun v13 L13 G13 hp13 => ?_)
        obtain ⟨rfl, rfl, rfl⟩ := hp13
        refine z_iconst hZ dX6_insertCode_16 ?_
        refine z_icmp_ge hZ (tgt := 21) dX6_insertCode_17 rfl (by omega) (fun hc17 => ?_) (fun hc17 => ?_)
        · refine z_aload_n0 hZ dX6_insertCode_21 ?_
          refine z_gf_X6_codes hZ dX6_insertCode_22 fl_X6_9 (by assumption) (by assumption) ?_
          refine z_iload_n1 hZ dX6_insertCode_25 ?_
          refine z_aload_n0 hZ dX6_insertCode_26 ?_
          refine z_gf_X6_codes hZ dX6_insertCode_27 fl_X6_9 (by assumption) (by assumption) ?_
          refine z_iload_n1 hZ dX6_insertCode_30 ?_
          refine z_iconst hZ dX6_insertCode_31 ?_
          refine z_iadd hZ dX6_insertCode_32 ?_
          refine z_aload_n0 hZ dX6_insertCode_33 ?_
          refine z_gf_X6_count hZ dX6_insertCode_34 fl_X6_15 (by assumption) (by assumption) ?_
          refine z_iload_n1 hZ dX6_insertCode_37 ?_
          refine z_isub hZ dX6_insertCode_38 ?_
          refine z_copyi hZ dX6_insertCode_39 ml_X6_25 (by assumption) (by assumption) (by assumption) (by assumption) (by omega) (by omega) (by omega) (Nat.le_of_ble_eq_true rfl) (Nat.le_of_ble_eq_true rfl) (Nat.le_of_ble_eq_true rfl) (fun F39 hF39 hf39 => ?_)
          have hT := (hf39 _ hne).trans hT
          refine z_aload_n0 hZ dX6_insertCode_42 ?_
          refine z_dup hZ dX6_insertCode_43 rfl ?_
          refine z_gf_X6_count hZ dX6_insertCode_44 fl_X6_15 (by assumption) (by assumption) ?_
          refine z_iconst hZ dX6_insertCode_47 ?_
          refine z_iadd hZ dX6_insertCode_48 ?_
          refine z_pf_X6_count hZ dX6_insertCode_49 fl_X6_15 (by assumption) (by assumption) (fun F49 hF49 hf49 => ?_)
          have hG := (hf49 _ (Ne.symm hne)).trans hF39
          refine z_aload_n0 hZ dX6_insertCode_52 ?_
          refine z_gf_X6_codes hZ dX6_insertCode_53 fl_X6_9 (by assumption) (by assumption) ?_
          refine z_iload_n1 hZ dX6_insertCode_56 ?_
          refine z_iload_n2 hZ dX6_insertCode_57 ?_
          refine z_iastore hZ dX6_insertCode_58 (by assumption) (by assumption) (by omega) (fun F58 hF58 hf58 => ?_)
          exact z_vret hZ rfl (Nat.le_of_ble_eq_true rfl) (Nat.le_of_ble_eq_true rfl) dX6_insertCode_59 (by
            refine ⟨rfl, rfl, ⟨⟨hh, hc, hne, hN⟩, (hf58 h hne).trans hF49, ⟨_, hF58, fun k h0 h1 => ?_⟩, by omega, fun k h0 h1 => ?_⟩, fun b h1 h2 => ((hf58 b h2).trans (hf49 b h1)).trans (hf39 b h2)⟩
            · unfold wu zcp insA
              by_cases e1 : k < i
              · rw [if_neg (by omega), if_neg (by omega), if_pos e1]; exact hg k h0 (by omega)
              · by_cases e2 : k = i
                · rw [if_pos e2, if_neg e1, if_pos (by omega)]
                · rw [if_neg e2, if_pos (by omega), if_neg e1, if_neg (by omega), ← hg (k - 1) (by omega) (by omega)]; congr 1; omega
            · unfold insA
              split
              · exact hr k h0 (by omega)
              · split
                · exact hx
                · exact hr _ (by omega) (by omega))
        · exfalso; omega
  exact hgo
set_option maxRecDepth 100000 in
set_option maxHeartbeats 4000000 in
theorem m_X6_insertPart (l : Launch) {L : List Nat} {F : Nat → PE} {h c N h1 c1 N1 : Nat} {n n1 : Int} {f f1 : Int → Int} {i a b : Int} (t : tx L F h c N n f) (t1 : tx L F h1 c1 N1 n1 f1) (hd : h ≠ h1 ∧ h ≠ c1 ∧ c ≠ h1 ∧ c ≠ c1) (hi : 0 ≤ i ∧ i ≤ n ∧ 0 ≤ a ∧ a ≤ b ∧ b ≤ n1 ∧ b - a ≤ N - n) : PM l yX6_insertPart cX6_insertPart 6 none (rm 2 0 0) L [.ref h, .int (iI i), .ref h1, .int (iI a), .int (iI b)] F (fun v9 L1 F1 => v9 = none ∧ L = L1 ∧ tx L F1 h c N (n + (b - a)) (insA f i (b - a) (fun k => f1 (a + k))) ∧ ∀ b, b ≠ h → b ≠ c → F1 b = F b) (fun _ _ _ => False) := by
  refine pm_of cd_X6_insertPart (by decide +kernel) (Nat.le_of_ble_eq_true rfl) (fun ZZ hZ => ?_)
  have hgo : ZZ 0 0 0 [some (.ref h), some (.int (iI i)), some (.ref h1), some (.int (iI a)), some (.int (iI b)), none] [] L F := by
    have t' := t
    obtain ⟨⟨hh, hc, hne, hN⟩, hT, ⟨g, hG, hg⟩, hn, hr⟩ := t
    obtain ⟨⟨hh1, hc1, hne1, hN1⟩, hT1, ⟨g1, hG1, hg1⟩, hn1, hr1⟩ := t1
    obtain ⟨d1, d2, d3, d4⟩ := hd
    refine z_iload4 hZ dX6_insertPart_0 ?_
    refine z_iload_n3 hZ dX6_insertPart_2 ?_
    refine z_isub hZ dX6_insertPart_3 ?_
    refine z_istore5 hZ dX6_insertPart_4 (by decide) rfl ?_
    refine z_iload_n3 hZ dX6_insertPart_6 ?_
    refine z_if_lt hZ (tgt := 45) dX6_insertPart_7 rfl (by omega) (fun hc7 => ?_) (fun hc7 => ?_)
    · exfalso; omega
    · refine z_iload5 hZ dX6_insertPart_10 ?_
      refine z_if_lt hZ (tgt := 45) dX6_insertPart_12 rfl (by omega) (fun hc12 => ?_) (fun hc12 => ?_)
      · exfalso; omega
      · refine z_iload4 hZ dX6_insertPart_15 ?_
        refine z_aload_n2 hZ dX6_insertPart_17 ?_
        refine z_gf_X6_count hZ dX6_insertPart_18 fl_X6_15 (by assumption) (by assumption) ?_
        refine z_icmp_gt hZ (tgt := 45) dX6_insertPart_21 rfl (by omega) (fun hc21 => ?_) (fun hc21 => ?_)
        · exfalso; omega
        · refine z_iload_n1 hZ dX6_insertPart_24 ?_
          refine z_if_lt hZ (tgt := 45) dX6_insertPart_25 rfl (by omega) (fun hc25 => ?_) (fun hc25 => ?_)
          · exfalso; omega
          · refine z_iload_n1 hZ dX6_insertPart_28 ?_
            refine z_aload_n0 hZ dX6_insertPart_29 ?_
            refine z_gf_X6_count hZ dX6_insertPart_30 fl_X6_15 (by assumption) (by assumption) ?_
            refine z_icmp_gt hZ (tgt := 45) dX6_insertPart_33 rfl (by omega) (fun hc33 => ?_) (fun hc33 => ?_)
            · exfalso; omega
            · refine z_iload5 hZ dX6_insertPart_36 ?_
              refine z_aload_n0 hZ dX6_insertPart_38 ?_
              refine z_cV hZ (As := []) rfl dX6_insertPart_39 ml_X6_31 wy_X6_room (m_X6_room l t') (by assumption) (by assumption) rfl ⟨Nat.le_of_ble_eq_true rfl, Nat.le_of_ble_eq_true rfl⟩ ⟨Nat.le_of_ble_eq_true rfl, Nat.le_of_ble_eq_true rfl⟩ (Nat.le_of_ble_eq_true rfl) (fun _ _ _ h => h.elim) (fun v39 L39 G39 hp39 => ?_)
              obtain ⟨rfl, rfl, rfl⟩ := hp39
              refine z_icmp_le hZ (tgt := 46) dX6_insertPart_42 rfl (by omega) (fun hc42 => ?_) (fun hc42 => ?_)
              · refine z_aload_n0 hZ dX6_insertPart_46 ?_
                refine z_gf_X6_codes hZ dX6_insertPart_47 fl_X6_9 (by assumption) (by assumption) ?_
                refine z_iload_n1 hZ dX6_insertPart_50 ?_
                refine z_aload_n0 hZ dX6_insertPart_51 ?_
                refine z_gf_X6_codes hZ dX6_insertPart_52 fl_X6_9 (by assumption) (by assumption) ?_
                refine z_iload_n1 hZ dX6_insertPart_55 ?_
                refine z_iload5 hZ dX6_insertPart_56 ?_
                refine z_iadd hZ dX6_insertPart_58 ?_
                refine z_aload_n0 hZ dX6_insertPart_59 ?_
                refine z_gf_X6_count hZ dX6_insertPart_60 fl_X6_15 (by assumption) (by assumption) ?_
                refine z_iload_n1 hZ dX6_insertPart_63 ?_
                refine z_isub hZ dX6_insertPart_64 ?_
                refine z_copyi hZ dX6_insertPart_65 ml_X6_25 (by assumption) (by assumption) (by assumption) (by assumption) (by omega) (by omega) (by omega) (Nat.le_of_ble_eq_true rfl) (Nat.le_of_ble_eq_true rfl) (Nat.le_of_ble_eq_true rfl) (fun F65 hF65 hf65 => ?_)
                have hT := (hf65 _ hne).trans hT
                have hT1 := (hf65 _ (Ne.symm d3)).trans hT1
                have hG1 := (hf65 _ (Ne.symm d4)).trans hG1
                refine z_aload_n2 hZ dX6_insertPart_68 ?_
                refine z_gf_X6_codes hZ dX6_insertPart_69 fl_X6_9 (by assumption) (by assumption) ?_
                refine z_iload_n3 hZ dX6_insertPart_72 ?_
                refine z_aload_n0 hZ dX6_insertPart_73 ?_
                refine z_gf_X6_codes hZ dX6_insertPart_74 fl_X6_9 (by assumption) (by assumption) ?_
                refine z_iload_n1 hZ dX6_insertPart_77 ?_
                refine z_iload5 hZ dX6_insertPart_78 ?_
                refine z_copyi hZ dX6_insertPart_80 ml_X6_25 (by assumption) (by assumption) (by assumption) (by assumption) (by omega) (by omega) (by omega) (Nat.le_of_ble_eq_true rfl) (Nat.le_of_ble_eq_true rfl) (Nat.le_of_ble_eq_true rfl) (fun F80 hF80 hf80 => ?_)
                have hT := (hf80 _ hne).trans hT
                refine z_aload_n0 hZ dX6_insertPart_83 ?_
                refine z_dup hZ dX6_insertPart_84 rfl ?_
                refine z_gf_X6_count hZ dX6_insertPart_85 fl_X6_15 (by assumption) (by assumption) ?_
                refine z_iload5 hZ dX6_insertPart_88 ?_
                refine z_iadd hZ dX6_insertPart_90 ?_
                refine z_pf_X6_count hZ dX6_insertPart_91 fl_X6_15 (by assumption) (by assumption) (fun F91 hF91 hf91 => ?_)
                exact z_vret hZ rfl (Nat.le_of_ble_eq_true rfl) (Nat.le_of_ble_eq_true rfl) dX6_insertPart_94 (by
            refine ⟨rfl, rfl, ⟨⟨hh, hc, hne, hN⟩, hF91, ⟨_, (hf91 _ (Ne.symm hne)).trans hF80, fun k h0 h1 => ?_⟩, by omega, fun k h0 h1 => ?_⟩, fun b h1 h2 => ((hf91 b h1).trans (hf80 b h2)).trans (hf65 b h2)⟩
            · unfold zcp insA
              by_cases e1 : k < i
              · rw [if_neg (by omega), if_neg (by omega), if_pos e1]; exact hg k h0 (by omega)
              · by_cases e2 : k < i + (b - a)
                · rw [if_pos (by omega), if_neg e1, if_pos e2]; exact hg1 (a + (k - i)) (by omega) (by omega)
                · rw [if_neg (by omega), if_pos (by omega), if_neg e1, if_neg e2, ← hg (k - (b - a)) (by omega) (by omega)]; congr 1; omega
            · unfold insA
              split
              · exact hr k h0 (by omega)
              · split
                · exact hr1 _ (by omega) (by omega)
                · exact hr _ (by omega) (by omega))
              · exfalso; omega
  exact hgo
set_option maxRecDepth 100000 in
set_option maxHeartbeats 4000000 in
theorem m_X6_takeOut (l : Launch) {L : List Nat} {F : Nat → PE} {h c N : Nat} {n : Int} {f : Int → Int} {i j : Int} (t : tx L F h c N n f) (hi : 0 ≤ i ∧ i ≤ j ∧ j ≤ n) : PM l yX6_takeOut cX6_takeOut 3 none (rm 2 0 0) L [.ref h, .int (iI i), .int (iI j)] F (fun v9 L1 F1 => v9 = none ∧ L = L1 ∧ tx L F1 h c N (n - (j - i)) (delA f i j) ∧ ∀ b, b ≠ h → b ≠ c → F1 b = F b) (fun _ _ _ => False) := by
  refine pm_of cd_X6_takeOut (by decide +kernel) (Nat.le_of_ble_eq_true rfl) (fun ZZ hZ => ?_)
  have hgo : ZZ 0 0 0 [some (.ref h), some (.int (iI i)), some (.int (iI j))] [] L F := by
    obtain ⟨⟨hh, hc, hne, hN⟩, hT, ⟨g, hG, hg⟩, hn, hr⟩ := t
    refine z_iload_n1 hZ dX6_takeOut_0 ?_
    refine z_if_lt hZ (tgt := 17) dX6_takeOut_1 rfl (by omega) (fun hc1 => ?_) (fun hc1 => ?_)
    · exfalso; omega
    · refine z_iload_n1 hZ dX6_takeOut_4 ?_
      refine z_iload_n2 hZ dX6_takeOut_5 ?_
      refine z_icmp_gt hZ (tgt := 17) dX6_takeOut_6 rfl (by omega) (fun hc6 => ?_) (fun hc6 => ?_)
      · exfalso; omega
      · refine z_iload_n2 hZ dX6_takeOut_9 ?_
        refine z_aload_n0 hZ dX6_takeOut_10 ?_
        refine z_gf_X6_count hZ dX6_takeOut_11 fl_X6_15 (by assumption) (by assumption) ?_
        refine z_icmp_le hZ (tgt := 18) dX6_takeOut_14 rfl (by omega) (fun hc14 => ?_) (fun hc14 => ?_)
        · refine z_aload_n0 hZ dX6_takeOut_18 ?_
          refine z_gf_X6_codes hZ dX6_takeOut_19 fl_X6_9 (by assumption) (by assumption) ?_
          refine z_iload_n2 hZ dX6_takeOut_22 ?_
          refine z_aload_n0 hZ dX6_takeOut_23 ?_
          refine z_gf_X6_codes hZ dX6_takeOut_24 fl_X6_9 (by assumption) (by assumption) ?_
          refine z_iload_n1 hZ dX6_takeOut_27 ?_
          refine z_aload_n0 hZ dX6_takeOut_28 ?_
          refine z_gf_X6_count hZ dX6_takeOut_29 fl_X6_15 (by assumption) (by assumption) ?_
          refine z_iload_n2 hZ dX6_takeOut_32 ?_
          refine z_isub hZ dX6_takeOut_33 ?_
          refine z_copyi hZ dX6_takeOut_34 ml_X6_25 (by assumption) (by assumption) (by assumption) (by assumption) (by omega) (by omega) (by omega) (Nat.le_of_ble_eq_true rfl) (Nat.le_of_ble_eq_true rfl) (Nat.le_of_ble_eq_true rfl) (fun F34 hF34 hf34 => ?_)
          have hT := (hf34 _ hne).trans hT
          refine z_aload_n0 hZ dX6_takeOut_37 ?_
          refine z_dup hZ dX6_takeOut_38 rfl ?_
          refine z_gf_X6_count hZ dX6_takeOut_39 fl_X6_15 (by assumption) (by assumption) ?_
          refine z_iload_n2 hZ dX6_takeOut_42 ?_
          refine z_iload_n1 hZ dX6_takeOut_43 ?_
          refine z_isub hZ dX6_takeOut_44 ?_
          refine z_isub hZ dX6_takeOut_45 ?_
          refine z_pf_X6_count hZ dX6_takeOut_46 fl_X6_15 (by assumption) (by assumption) (fun F46 hF46 hf46 => ?_)
          exact z_vret hZ rfl (Nat.le_of_ble_eq_true rfl) (Nat.le_of_ble_eq_true rfl) dX6_takeOut_49 (by
            refine ⟨rfl, rfl, ⟨⟨hh, hc, hne, hN⟩, hF46, ⟨_, (hf46 _ (Ne.symm hne)).trans hF34, fun k h0 h1 => ?_⟩, by omega, fun k h0 h1 => ?_⟩, fun b h1 h2 => (hf46 b h1).trans (hf34 b h2)⟩
            · unfold zcp delA
              by_cases e1 : k < i
              · rw [if_neg (by omega), if_pos e1]; exact hg k h0 (by omega)
              · rw [if_pos (by omega), if_neg e1, ← hg (k + (j - i)) (by omega) (by omega)]; congr 1; omega
            · unfold delA
              split
              · exact hr k h0 (by omega)
              · exact hr _ (by omega) (by omega))
        · exfalso; omega
  exact hgo