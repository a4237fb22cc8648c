/-! THE MODEL, 5: the whole object; states saved; deeds by themselves. -/
theorem ms.of {L : List Nat} {F : Nat → PE} {x a : Nat} {g : Int → Int} {kd : Int} {u1 u2 u3 u5 u6 u7 u8 u9 : Value} (hx : x ∈ L) (ha : a ∈ L) (hxa : x ≠ a) (hF : F x = eO 8 [.ref a, u1, u2, u3, .int (iI kd), u5, u6, u7, u8, u9]) (hg : F a = eI 0 18180 g) : ms L F x a g kd := ⟨⟨hx, ha, hxa⟩, ⟨_, _, _, _, _, _, _, _, hF⟩, hg⟩
def mA (L : List Nat) (x a q c : Nat) : Prop := (x ∈ L ∧ a ∈ L ∧ q ∈ L ∧ c ∈ L) ∧ x ≠ a ∧ x ≠ q ∧ x ≠ c ∧ a ≠ q ∧ a ≠ c ∧ q ≠ c
def mo (L : List Nat) (F : Nat → PE) (x a q c : Nat) (g : Int → Int) (sv th kd n pt tm sg : Int) (kp bf : Int → Int) : Prop := mA L x a q c ∧ F x = eO 8 [.ref a, .int (iI sv), .ref q, .int (iI th), .int (iI kd), .ref c, .int (iI n), .int (iI pt), .int (iI tm), .int (iI sg)] ∧ F a = eI 0 18180 g ∧ F q = eI 1 2 kp ∧ F c = eI 2 60 bf
def fm (x a q c : Nat) (F F1 : Nat → PE) : Prop := ∀ b, b ≠ x → b ≠ a → b ≠ q → b ≠ c → F1 b = F b
theorem fm.rf {x a q c : Nat} {F : Nat → PE} : fm x a q c F F := fun _ _ _ _ _ => rfl
theorem fm.tr {x a q c : Nat} {F G G1 : Nat → PE} (h : fm x a q c F G) (f : fm x a q c G G1) : fm x a q c F G1 := fun b b1 b2 b3 b4 => (f b b1 b2 b3 b4).trans (h b b1 b2 b3 b4)
theorem fm.x {x a q c : Nat} {F G G1 : Nat → PE} (h : fm x a q c F G) (f : ∀ b, b ≠ x → G1 b = G b) : fm x a q c F G1 := fun b b1 b2 b3 b4 => (f b b1).trans (h b b1 b2 b3 b4)
theorem fm.a {x a q c : Nat} {F G G1 : Nat → PE} (h : fm x a q c F G) (f : ∀ b, b ≠ a → G1 b = G b) : fm x a q c F G1 := fun b b1 b2 b3 b4 => (f b b2).trans (h b b1 b2 b3 b4)
theorem fm.xa {x a q c : Nat} {F G G1 : Nat → PE} (h : fm x a q c F G) (f : ∀ b, b ≠ x → b ≠ a → G1 b = G b) : fm x a q c F G1 := fun b b1 b2 b3 b4 => (f b b1 b2).trans (h b b1 b2 b3 b4)
theorem fm.q {x a q c : Nat} {F G G1 : Nat → PE} (h : fm x a q c F G) (f : ∀ b, b ≠ q → G1 b = G b) : fm x a q c F G1 := fun b b1 b2 b3 b4 => (f b b3).trans (h b b1 b2 b3 b4)
theorem fm.c {x a q c : Nat} {F G G1 : Nat → PE} (h : fm x a q c F G) (f : ∀ b, b ≠ c → G1 b = G b) : fm x a q c F G1 := fun b b1 b2 b3 b4 => (f b b4).trans (h b b1 b2 b3 b4)
def goV (p1 p2 p3 : Int) : Int := if p1 = 0 then 1 else if p2 = 0 then 2 else if p3 = 0 then 3 else 0
theorem goV_0 {p1 p2 p3 : Int} : goV p1 p2 p3 = 0 ↔ p1 ≠ 0 ∧ p2 ≠ 0 ∧ p3 ≠ 0 := by
  unfold goV
  (repeat' split) <;> omega
set_option maxRecDepth 100000 in
set_option maxHeartbeats 4000000 in
theorem m_X8_goes (l : Launch) {L : List Nat} {F : Nat → PE} {x : Nat} {u0 u1 u2 u3 u4 u5 u6 u7 u8 u9 : Value} {p1 p2 p3 : Int} (hx : x ∈ L) (hF : F x = eO 8 [u0, u1, u2, u3, u4, u5, u6, u7, u8, u9]) (h1 : p1 = 0 ∨ p1 = 1) (h2 : p2 = 0 ∨ p2 = 1) (h3 : p3 = 0 ∨ p3 = 1) : PM l yX8_goes cX8_goes 4 (some .boolean) (rm 1 0 0) L [.ref x, .int (iI p1), .int (iI p2), .int (iI p3)] F (fun v9 L1 F1 => v9 = some (.int (iI (b2 (goV p1 p2 p3 = 0)))) ∧ L = L1 ∧ F1 x = eO 8 [u0, u1, u2, .int (iI (goV p1 p2 p3)), u4, u5, u6, u7, u8, u9] ∧ ∀ b, b ≠ x → F1 b = F b) (fun _ _ _ => False) := by
  refine pm_of cd_X8_goes (by decide +kernel) (Nat.le_of_ble_eq_true rfl) (fun ZZ hZ => ?_)
  have hgo : ZZ 0 0 0 [some (.ref x), some (.int (iI p1)), some (.int (iI p2)), some (.int (iI p3))] [] L F := by
    refine z_aload_n0 hZ dX8_goes_0 ?_
    refine z_iload_n1 hZ dX8_goes_1 ?_
    refine z_if_ne hZ (tgt := 9) dX8_goes_2 rfl (by omega) (fun hc2 => ?_) (fun hc2 => ?_)
    · refine z_iload_n2 hZ dX8_goes_9 ?_
      refine z_if_ne hZ (tgt := 17) dX8_goes_10 rfl (by omega) (fun hc10 => ?_) (fun hc10 => ?_)
      · refine z_iload_n3 hZ dX8_goes_17 ?_
        refine z_if_ne hZ (tgt := 25) dX8_goes_18 rfl (by omega) (fun hc18 => ?_) (fun hc18 => ?_)
        · have eg : goV p1 p2 p3 = 0 := (if_neg hc2).trans ((if_neg hc10).trans (if_neg hc18))
          refine z_iconst hZ dX8_goes_25 ?_
          refine z_pf_X8_thrown hZ dX8_goes_26 fl_X8_21 (by assumption) (by assumption) (fun F26 hF26 hf26 => ?_)
          refine z_aload_n0 hZ dX8_goes_29 ?_
          refine z_gf_X8_thrown hZ dX8_goes_30 fl_X8_21 (by assumption) (by assumption) ?_
          refine z_if_ne hZ (tgt := 40) dX8_goes_33 rfl (by omega) (fun hc33 => ?_) (fun hc33 => ?_)
          · refine z_iconst hZ dX8_goes_40 ?_
            exact z_zret hZ rfl (Nat.le_of_ble_eq_true rfl) (Nat.le_of_ble_eq_true rfl) dX8_goes_41 (by omega) (by
            rw [eg]
            first
              | (exfalso; omega)
              | exact ⟨rfl, rfl, hF26, hf26⟩)
          · refine z_iconst hZ dX8_goes_36 ?_
            refine z_goto hZ (tgt := 41) dX8_goes_37 rfl ?_
            exact z_zret hZ rfl (Nat.le_of_ble_eq_true rfl) (Nat.le_of_ble_eq_true rfl) dX8_goes_41 (by omega) (by
            rw [eg]
            first
              | (exfalso; omega)
              | exact ⟨rfl, rfl, hF26, hf26⟩)
        · have eg : goV p1 p2 p3 = 3 := (if_neg hc2).trans ((if_neg hc10).trans (if_pos hc18))
          refine z_iconst hZ dX8_goes_21 ?_
          refine z_goto hZ (tgt := 26) dX8_goes_22 rfl ?_
          refine z_pf_X8_thrown hZ dX8_goes_26 fl_X8_21 (by assumption) (by assumption) (fun F26 hF26 hf26 => ?_)
          refine z_aload_n0 hZ dX8_goes_29 ?_
          refine z_gf_X8_thrown hZ dX8_goes_30 fl_X8_21 (by assumption) (by assumption) ?_
          refine z_if_ne hZ (tgt := 40) dX8_goes_33 rfl (by omega) (fun hc33 => ?_) (fun hc33 => ?_)
          · refine z_iconst hZ dX8_goes_40 ?_
            exact z_zret hZ rfl (Nat.le_of_ble_eq_true rfl) (Nat.le_of_ble_eq_true rfl) dX8_goes_41 (by omega) (by
            rw [eg]
            first
              | (exfalso; omega)
              | exact ⟨rfl, rfl, hF26, hf26⟩)
          · refine z_iconst hZ dX8_goes_36 ?_
            refine z_goto hZ (tgt := 41) dX8_goes_37 rfl ?_
            exact z_zret hZ rfl (Nat.le_of_ble_eq_true rfl) (Nat.le_of_ble_eq_true rfl) dX8_goes_41 (by omega) (by
            rw [eg]
            first
              | (exfalso; omega)
              | exact ⟨rfl, rfl, hF26, hf26⟩)
      · have eg : goV p1 p2 p3 = 2 := (if_neg hc2).trans (if_pos hc10)
        refine z_iconst hZ dX8_goes_13 ?_
        refine z_goto hZ (tgt := 26) dX8_goes_14 rfl ?_
        refine z_pf_X8_thrown hZ dX8_goes_26 fl_X8_21 (by assumption) (by assumption) (fun F26 hF26 hf26 => ?_)
        refine z_aload_n0 hZ dX8_goes_29 ?_
        refine z_gf_X8_thrown hZ dX8_goes_30 fl_X8_21 (by assumption) (by assumption) ?_
        refine z_if_ne hZ (tgt := 40) dX8_goes_33 rfl (by omega) (fun hc33 => ?_) (fun hc33 => ?_)
        · refine z_iconst hZ dX8_goes_40 ?_
          exact z_zret hZ rfl (Nat.le_of_ble_eq_true rfl) (Nat.le_of_ble_eq_true rfl) dX8_goes_41 (by omega) (by
            rw [eg]
            first
              | (exfalso; omega)
              | exact ⟨rfl, rfl, hF26, hf26⟩)
        · refine z_iconst hZ dX8_goes_36 ?_
          refine z_goto hZ (tgt := 41) dX8_goes_37 rfl ?_
          exact z_zret hZ rfl (Nat.le_of_ble_eq_true rfl) (Nat.le_of_ble_eq_true rfl) dX8_goes_41 (by omega) (by
            rw [eg]
            first
              | (exfalso; omega)
              | exact ⟨rfl, rfl, hF26, hf26⟩)
    · have eg : goV p1 p2 p3 = 1 := if_pos hc2
      refine z_iconst hZ dX8_goes_5 ?_
      refine z_goto hZ (tgt := 26) dX8_goes_6 rfl ?_
      refine z_pf_X8_thrown hZ dX8_goes_26 fl_X8_21 (by assumption) (by assumption) (fun F26 hF26 hf26 => ?_)
      refine z_aload_n0 hZ dX8_goes_29 ?_
      refine z_gf_X8_thrown hZ dX8_goes_30 fl_X8_21 (by assumption) (by assumption) ?_
      refine z_if_ne hZ (tgt := 40) dX8_goes_33 rfl (by omega) (fun hc33 => ?_) (fun hc33 => ?_)
      · refine z_iconst hZ dX8_goes_40 ?_
        exact z_zret hZ rfl (Nat.le_of_ble_eq_true rfl) (Nat.le_of_ble_eq_true rfl) dX8_goes_41 (by omega) (by
            rw [eg]
            first
              | (exfalso; omega)
              | exact ⟨rfl, rfl, hF26, hf26⟩)
      · refine z_iconst hZ dX8_goes_36 ?_
        refine z_goto hZ (tgt := 41) dX8_goes_37 rfl ?_
        exact z_zret hZ rfl (Nat.le_of_ble_eq_true rfl) (Nat.le_of_ble_eq_true rfl) dX8_goes_41 (by omega) (by
            rw [eg]
            first
              | (exfalso; omega)
              | exact ⟨rfl, rfl, hF26, hf26⟩)
  exact hgo
def svK (g : Int → Int) (k : Int) : Int → Int := fun z => if 1818 ≤ z ∧ z < 1818 * k then g (z + 1818) else g z
theorem svK_1 {g : Int → Int} : svK g 1 = g := by funext y; unfold svK; rw [if_neg (by omega)]
theorem svK_s {g : Int → Int} {k : Int} (h : 1 ≤ k) : cpy (svK g k) (k + 1) k = svK g (k + 1) := by
  funext y
  unfold cpy cpK svK
  by_cases q : 1818 * k ≤ y ∧ y < 1818 * k + 1818
  · rw [if_pos q, if_neg (by omega), if_pos (by omega)]; congr 1; omega
  · rw [if_neg q]
    by_cases q2 : 1818 ≤ y ∧ y < 1818 * k
    · rw [if_pos q2, if_pos (by omega)]
    · rw [if_neg q2, if_neg (by omega)]
/-- the states that are saved, behind a saving of what stands at the slot w -/
def svP (w sv : Int) (g h : Int → Int) : Prop := (∀ y, 0 ≤ y → y < 1818 → h y = g y) ∧ (∀ j y, 1 ≤ j → j ≤ hN sv → 0 ≤ y → y < 1818 → h (1818 * j + y) = if j = hN sv then g (1818 * w + y) else if sv < 6 then g (1818 * j + y) else g (1818 * (j + 1) + y)) ∧ ∀ z, 12726 ≤ z → h z = g z
theorem svP_lo {w sv : Int} {g : Int → Int} (hw : w = 0 ∨ w = 9) (h : 0 ≤ sv ∧ sv < 6) : svP w sv g (cpy g w (sv + 1)) := by
  unfold svP hN
  rw [if_pos h.2]
  refine ⟨fun y y0 y1 => if_neg (by omega), fun j y j0 j1 y0 y1 => ?_, fun z hz => if_neg (by omega)⟩
  by_cases q : j = sv + 1
  · subst q
    rw [if_pos rfl]
    refine (if_pos (by omega)).trans ?_
    congr 1; omega
  · rw [if_neg q, if_pos h.2]
    exact if_neg (by omega)
theorem svP_hi {w : Int} {g : Int → Int} (hw : w = 0 ∨ w = 9) : svP w 6 g (cpy (svK g 6) w (6 - 1 + 1)) := by
  unfold svP hN
  rw [if_neg (by omega), show (6 : Int) - 1 + 1 = 6 by omega]
  refine ⟨fun y y0 y1 => (if_neg (by omega)).trans (if_neg (by omega)), fun j y j0 j1 y0 y1 => ?_, fun z hz => (if_neg (by omega)).trans (if_neg (by omega))⟩
  by_cases q : j = 6
  · subst q
    rw [if_pos rfl]
    refine (if_pos (by omega)).trans ((if_neg (by omega)).trans ?_)
    congr 1; omega
  · rw [if_neg q, if_neg (by omega)]
    refine (if_neg (by omega)).trans ((if_pos (by omega)).trans ?_)
    congr 1; omega
set_option maxRecDepth 100000 in
set_option maxHeartbeats 4000000 in
theorem m_X8_saves (l : Launch) {L : List Nat} {F : Nat → PE} {x a : Nat} {g : Int → Int} {kd sv : Int} {u2 u3 u5 u6 u7 u8 u9 : Value} (hx : x ∈ L) (ha : a ∈ L) (hxa : x ≠ a) (hF : F x = eO 8 [.ref a, .int (iI sv), u2, u3, .int (iI kd), u5, u6, u7, u8, u9]) (hg : F a = eI 0 18180 g) (hs : 0 ≤ sv ∧ sv ≤ 6) : PM l yX8_saves cX8_saves 2 none (rm 2 0 0) L [.ref x] F (fun v9 L1 F1 => v9 = none ∧ L = L1 ∧ (∃ h, svP 0 sv g h ∧ F1 a = eI 0 18180 h) ∧ F1 x = eO 8 [.ref a, .int (iI (hN sv)), u2, u3, .int (iI kd), u5, u6, u7, u8, u9] ∧ ∀ b, b ≠ x → b ≠ a → F1 b = F b) (fun _ _ _ => False) := by
  refine pm_of cd_X8_saves (by decide +kernel) (Nat.le_of_ble_eq_true rfl) (fun ZZ hZ => ?_)
  have hgo : ZZ 0 0 0 [some (.ref x), none] [] L F := by
    have k41 : ∀ (G : Nat → PE) (h : Int → Int) (s : Int) (o : Option Value), 0 ≤ s → s ≤ 5 → G x = eO 8 [.ref a, .int (iI s), u2, u3, .int (iI kd), u5, u6, u7, u8, u9] → G a = eI 0 18180 h → (∀ b, b ≠ x → b ≠ a → G b = F b) → s + 1 = hN sv → svP 0 sv g (cpy h 0 (s + 1)) → ZZ 0 0 41 [some (.ref x), o] [] L G := by
      intro G h s o s0 s1 hF hg f e hp
      refine z_aload_n0 hZ dX8_saves_41 ?_
      refine z_dup hZ dX8_saves_42 rfl ?_
      refine z_gf_X8_states hZ dX8_saves_43 fl_X8_25 (by assumption) (by assumption) ?_
      refine z_iconst hZ dX8_saves_46 ?_
      refine z_iadd hZ dX8_saves_47 ?_
      refine z_pf_X8_states hZ dX8_saves_48 fl_X8_25 (by assumption) (by assumption) (fun F48 hF48 hf48 => ?_)
      have hg := (hf48 a (Ne.symm hxa)).trans hg
      have hF := hF48
      have t := ms.of hx ha hxa hF hg
      refine z_aload_n0 hZ dX8_saves_51 ?_
      refine z_iconst hZ dX8_saves_52 ?_
      refine z_aload_n0 hZ dX8_saves_53 ?_
      refine z_gf_X8_states hZ dX8_saves_54 fl_X8_25 (by assumption) (by assumption) ?_
      refine z_cV hZ (As := [_, _]) rfl dX8_saves_57 ml_X8_28 wy_X8_copies (m_X8_copies l t (by omega)) (by assumption) (by assumption) rfl ⟨Nat.le_of_ble_eq_true rfl, Nat.le_of_ble_eq_true rfl⟩ ⟨Nat.le_of_ble_eq_true rfl, Nat.le_of_ble_eq_true rfl⟩ (Nat.le_of_ble_eq_true rfl) (fun _ _ _ h => h.elim) (fun v57 L57 G57 hp57 => ?_)
      obtain ⟨rfl, rfl, hg, f57⟩ := hp57
      exact z_vret hZ rfl (Nat.le_of_ble_eq_true rfl) (Nat.le_of_ble_eq_true rfl) dX8_saves_60 (by refine ⟨rfl, rfl, ⟨_, hp, hg⟩, ((f57 x hxa).trans hF).trans (by rw [e]), fun b b1 b2 => (f57 b b2).trans ((hf48 b b1).trans (f b b1 b2))⟩)
    have l1 : sv = 6 → ∀ (m : Nat) (k : Int) (G : Nat → PE), (6 - k).toNat = m → 1 ≤ k → k ≤ 6 → ms L G x a (svK g k) kd → fa a F G → ZZ 0 0 11 [some (.ref x), some (.int (iI k))] [] L G := by
      intro hsv m
      induction m with
      | zero =>
        intro k G hm k0 k1 t fr
        have e : k = 6 := by omega
        subst e
        subst hsv
        have hF := (fr x hxa).trans hF
        have hg := t.2.2
        refine z_iload_n1 hZ dX8_saves_11 ?_
        refine z_bipush hZ dX8_saves_12 rfl ?_
        refine z_icmp_ge hZ (tgt := 31) dX8_saves_14 rfl (by omega) (fun hc14 => ?_) (fun hc14 => ?_)
        · refine z_aload_n0 hZ dX8_saves_31 ?_
          refine z_dup hZ dX8_saves_32 rfl ?_
          refine z_gf_X8_states hZ dX8_saves_33 fl_X8_25 (by assumption) (by assumption) ?_
          refine z_iconst hZ dX8_saves_36 ?_
          refine z_isub hZ dX8_saves_37 ?_
          refine z_pf_X8_states hZ dX8_saves_38 fl_X8_25 (by assumption) (by assumption) (fun F38 hF38 hf38 => ?_)
          exact k41 _ _ (6 - 1) _ (by omega) (by omega) hF38 ((hf38 a (Ne.symm hxa)).trans hg) (fun b b1 b2 => (hf38 b b1).trans (fr b b2)) rfl (svP_hi (by omega))
        · exfalso; omega
      | succ m ih =>
        intro k G hm k0 k1 t fr
        have hF := (fr x hxa).trans hF
        refine z_iload_n1 hZ dX8_saves_11 ?_
        refine z_bipush hZ dX8_saves_12 rfl ?_
        refine z_icmp_ge hZ (tgt := 31) dX8_saves_14 rfl (by omega) (fun hc14 => ?_) (fun hc14 => ?_)
        · exfalso; omega
        · refine z_aload_n0 hZ dX8_saves_17 ?_
          refine z_iload_n1 hZ dX8_saves_18 ?_
          refine z_iconst hZ dX8_saves_19 ?_
          refine z_iadd hZ dX8_saves_20 ?_
          refine z_iload_n1 hZ dX8_saves_21 ?_
          refine z_cV hZ (As := [_, _]) rfl dX8_saves_22 ml_X8_28 wy_X8_copies (m_X8_copies l t (by omega)) (by assumption) (by assumption) rfl ⟨Nat.le_of_ble_eq_true rfl, Nat.le_of_ble_eq_true rfl⟩ ⟨Nat.le_of_ble_eq_true rfl, Nat.le_of_ble_eq_true rfl⟩ (Nat.le_of_ble_eq_true rfl) (fun _ _ _ h => h.elim) (fun v22 L22 G22 hp22 => ?_)
          obtain ⟨rfl, rfl, hg, f22⟩ := hp22
          have hF := (f22 x hxa).trans hF
          have t := t.mv hg f22
          have fr := fa.tr fr f22
          refine z_iinc1 hZ dX8_saves_25 (by decide) rfl ?_
          refine z_goto hZ (tgt := 11) dX8_saves_28 rfl ?_
          rw [svK_s k0] at t
          exact ih (k + 1) _ (by omega) (by omega) (by omega) t fr
    have t := ms.of hx ha hxa hF hg
    have fr : fa a F F := fa.rf
    refine z_aload_n0 hZ dX8_saves_0 ?_
    refine z_gf_X8_states hZ dX8_saves_1 fl_X8_25 (by assumption) (by assumption) ?_
    refine z_bipush hZ dX8_saves_4 rfl ?_
    refine z_icmp_ne hZ (tgt := 41) dX8_saves_6 rfl (by omega) (fun hc6 => ?_) (fun hc6 => ?_)
    · exact k41 _ g sv _ hs.1 (by omega) hF hg (fun _ _ _ => rfl) (if_pos (by omega)).symm (svP_lo (by omega) (by omega))
    · refine z_iconst hZ dX8_saves_9 ?_
      refine z_istore_n1 hZ dX8_saves_10 (by decide) rfl ?_
      exact l1 (by omega) _ 1 F rfl (by omega) (by omega) (by rw [svK_1]; exact t) fr
  exact hgo
set_option maxRecDepth 100000 in
set_option maxHeartbeats 4000000 in
theorem m_X8_remembers (l : Launch) {L : List Nat} {F : Nat → PE} {x a : Nat} {g : Int → Int} {kd sv : Int} {u2 u3 u5 u6 u7 u8 u9 : Value} (hx : x ∈ L) (ha : a ∈ L) (hxa : x ≠ a) (hF : F x = eO 8 [.ref a, .int (iI sv), u2, u3, .int (iI kd), u5, u6, u7, u8, u9]) (hg : F a = eI 0 18180 g) (hs : 0 ≤ sv ∧ sv ≤ 6) : PM l yX8_remembers cX8_remembers 2 none (rm 2 0 0) L [.ref x] F (fun v9 L1 F1 => v9 = none ∧ L = L1 ∧ (∃ h, svP 9 sv g h ∧ F1 a = eI 0 18180 h) ∧ F1 x = eO 8 [.ref a, .int (iI (hN sv)), u2, u3, .int (iI kd), u5, u6, u7, u8, u9] ∧ ∀ b, b ≠ x → b ≠ a → F1 b = F b) (fun _ _ _ => False) := by
  refine pm_of cd_X8_remembers (by decide +kernel) (Nat.le_of_ble_eq_true rfl) (fun ZZ hZ => ?_)
  have hgo : ZZ 0 0 0 [some (.ref x), none] [] L F := by
    have k41 : ∀ (G : Nat → PE) (h : Int → Int) (s : Int) (o : Option Value), 0 ≤ s → s ≤ 5 → G x = eO 8 [.ref a, .int (iI s), u2, u3, .int (iI kd), u5, u6, u7, u8, u9] → G a = eI 0 18180 h → (∀ b, b ≠ x → b ≠ a → G b = F b) → s + 1 = hN sv → svP 9 sv g (cpy h 9 (s + 1)) → ZZ 0 0 41 [some (.ref x), o] [] L G := by
      intro G h s o s0 s1 hF hg f e hp
      refine z_aload_n0 hZ dX8_remembers_41 ?_
      refine z_dup hZ dX8_remembers_42 rfl ?_
      refine z_gf_X8_states hZ dX8_remembers_43 fl_X8_25 (by assumption) (by assumption) ?_
      refine z_iconst hZ dX8_remembers_46 ?_
      refine z_iadd hZ dX8_remembers_47 ?_
      refine z_pf_X8_states hZ dX8_remembers_48 fl_X8_25 (by assumption) (by assumption) (fun F48 hF48 hf48 => ?_)
      have hg := (hf48 a (Ne.symm hxa)).trans hg
      have hF := hF48
      have t := ms.of hx ha hxa hF hg
      refine z_aload_n0 hZ dX8_remembers_51 ?_
      refine z_bipush hZ dX8_remembers_52 rfl ?_
      refine z_aload_n0 hZ dX8_remembers_54 ?_
      refine z_gf_X8_states hZ dX8_remembers_55 fl_X8_25 (by assumption) (by assumption) ?_
      refine z_cV hZ (As := [_, _]) rfl dX8_remembers_58 ml_X8_28 wy_X8_copies (m_X8_copies l t (by omega)) (by assumption) (by assumption) rfl ⟨Nat.le_of_ble_eq_true rfl, Nat.le_of_ble_eq_true rfl⟩ ⟨Nat.le_of_ble_eq_true rfl, Nat.le_of_ble_eq_true rfl⟩ (Nat.le_of_ble_eq_true rfl) (fun _ _ _ h => h.elim) (fun v58 L58 G58 hp58 => ?_)
      obtain ⟨rfl, rfl, hg, f57⟩ := hp58
      exact z_vret hZ rfl (Nat.le_of_ble_eq_true rfl) (Nat.le_of_ble_eq_true rfl) dX8_remembers_61 (by refine ⟨rfl, rfl, ⟨_, hp, hg⟩, ((f57 x hxa).trans hF).trans (by rw [e]), fun b b1 b2 => (f57 b b2).trans ((hf48 b b1).trans (f b b1 b2))⟩)
    have l1 : sv = 6 → ∀ (m : Nat) (k : Int) (G : Nat → PE), (6 - k).toNat = m → 1 ≤ k → k ≤ 6 → ms L G x a (svK g k) kd → fa a F G → ZZ 0 0 11 [some (.ref x), some (.int (iI k))] [] L G := by
      intro hsv m
      induction m with
      | zero =>
        intro k G hm k0 k1 t fr
        have e : k = 6 := by omega
        subst e
        subst hsv
        have hF := (fr x hxa).trans hF
        have hg := t.2.2
        refine z_iload_n1 hZ dX8_remembers_11 ?_
        refine z_bipush hZ dX8_remembers_12 rfl ?_
        refine z_icmp_ge hZ (tgt := 31) dX8_remembers_14 rfl (by omega) (fun hc14 => ?_) (fun hc14 => ?_)
        · refine z_aload_n0 hZ dX8_remembers_31 ?_
          refine z_dup hZ dX8_remembers_32 rfl ?_
          refine z_gf_X8_states hZ dX8_remembers_33 fl_X8_25 (by assumption) (by assumption) ?_
          refine z_iconst hZ dX8_remembers_36 ?_
          refine z_isub hZ dX8_remembers_37 ?_
          refine z_pf_X8_states hZ dX8_remembers_38 fl_X8_25 (by assumption) (by assumption) (fun F38 hF38 hf38 => ?_)
          exact k41 _ _ (6 - 1) _ (by omega) (by omega) hF38 ((hf38 a (Ne.symm hxa)).trans hg) (fun b b1 b2 => (hf38 b b1).trans (fr b b2)) rfl (svP_hi (by omega))
        · exfalso; omega
      | succ m ih =>
        intro k G hm k0 k1 t fr
        have hF := (fr x hxa).trans hF
        refine z_iload_n1 hZ dX8_remembers_11 ?_
        refine z_bipush hZ dX8_remembers_12 rfl ?_
        refine z_icmp_ge hZ (tgt := 31) dX8_remembers_14 rfl (by omega) (fun hc14 => ?_) (fun hc14 => ?_)
        · exfalso; omega
        · refine z_aload_n0 hZ dX8_remembers_17 ?_
          refine z_iload_n1 hZ dX8_remembers_18 ?_
          refine z_iconst hZ dX8_remembers_19 ?_
          refine z_iadd hZ dX8_remembers_20 ?_
          refine z_iload_n1 hZ dX8_remembers_21 ?_
          refine z_cV hZ (As := [_, _]) rfl dX8_remembers_22 ml_X8_28 wy_X8_copies (m_X8_copies l t (by omega)) (by assumption) (by assumption) rfl ⟨Nat.le_of_ble_eq_true rfl, Nat.le_of_ble_eq_true rfl⟩ ⟨Nat.le_of_ble_eq_true rfl, Nat.le_of_ble_eq_true rfl⟩ (Nat.le_of_ble_eq_true rfl) (fun _ _ _ h => h.elim) (fun v22 L22 G22 hp22 => ?_)
          obtain ⟨rfl, rfl, hg, f22⟩ := hp22
          have hF := (f22 x hxa).trans hF
          have t := t.mv hg f22
          have fr := fa.tr fr f22
          refine z_iinc1 hZ dX8_remembers_25 (by decide) rfl ?_
          refine z_goto hZ (tgt := 11) dX8_remembers_28 rfl ?_
          rw [svK_s k0] at t
          exact ih (k + 1) _ (by omega) (by omega) (by omega) t fr
    have t := ms.of hx ha hxa hF hg
    have fr : fa a F F := fa.rf
    refine z_aload_n0 hZ dX8_remembers_0 ?_
    refine z_gf_X8_states hZ dX8_remembers_1 fl_X8_25 (by assumption) (by assumption) ?_
    refine z_bipush hZ dX8_remembers_4 rfl ?_
    refine z_icmp_ne hZ (tgt := 41) dX8_remembers_6 rfl (by omega) (fun hc6 => ?_) (fun hc6 => ?_)
    · exact k41 _ g sv _ hs.1 (by omega) hF hg (fun _ _ _ => rfl) (if_pos (by omega)).symm (svP_lo (by omega) (by omega))
    · refine z_iconst hZ dX8_remembers_9 ?_
      refine z_istore_n1 hZ dX8_remembers_10 (by decide) rfl ?_
      exact l1 (by omega) _ 1 F rfl (by omega) (by omega) (by rw [svK_1]; exact t) fr
  exact hgo
set_option maxRecDepth 100000 in
set_option maxHeartbeats 4000000 in
theorem m_X8_acts (l : Launch) {L : List Nat} {F : Nat → PE} {x a q c : Nat} {g : Int → Int} {sv th kd n pt tm sg : Int} {kp bf : Int → Int} {d : Nat} (o : mo L F x a q c g sv th kd n pt tm sg kp bf) (v : vf (cpy g 0 9) kd) (hs : 0 ≤ sv ∧ sv ≤ 6) (hd : 2 ≤ d ∧ d ≤ 18 ∧ d ≠ 15) : PM l yX8_acts cX8_acts 3 (some .int) (rm 9 0 0) L [.ref x, .int (iI (dI d))] F (fun v9 L1 F1 => L = L1 ∧ fm x a q c F F1 ∧ ((dOk d kd (cpy g 0 9) ∧ v9 = some (.int (iI (dAn d (cpy g 0 9)))) ∧ ∃ h, svP 9 sv (dTo d 0 kd (cpy g 0 9)) h ∧ mo L F1 x a q c h (hN sv) 0 (dKn d) n pt tm sg kp bf) ∨ (¬ dOk d kd (cpy g 0 9) ∧ v9 = some (.int (iI 0)) ∧ mo L F1 x a q c (cpy (cpy g 0 9) 9 0) sv 1 kd n pt tm sg kp bf))) (fun _ _ _ => False) := by
  refine pm_of cd_X8_acts (by decide +kernel) (Nat.le_of_ble_eq_true rfl) (fun ZZ hZ => ?_)
  have hgo : ZZ 0 0 0 [some (.ref x), some (.int (iI (dI d))), none] [] L F := by
    obtain ⟨A, hF, hg, hQ, hC⟩ := o
    obtain ⟨⟨hx, ha, hqL, hcL⟩, hxa, hxq, hxc, haq, hac, hqc⟩ := id A
    have t := ms.of hx ha hxa hF hg
    have fr : fm x a q c F F := fm.rf
    have dr := dI_rg (d := d) (by omega)
    have k13n : ∀ (G : Nat → PE), ¬ dOk d kd (cpy g 0 9) → G a = eI 0 18180 (cpy g 0 9) → (∀ b, b ≠ a → G b = F b) → ZZ 0 0 13 [some (.ref x), some (.int (iI (dI d))), none] [.int (iI (-1))] L G := by
      intro G no hg f
      have hF := (f x hxa).trans hF
      have hQ := (f q (Ne.symm haq)).trans hQ
      have hC := (f c (Ne.symm hac)).trans hC
      have fr := fm.a fr f
      have t := ms.of hx ha hxa hF hg
      refine z_istore_n2 hZ dX8_acts_13 (by decide) rfl ?_
      refine z_iload_n2 hZ dX8_acts_14 ?_
      refine z_if_ge hZ (tgt := 32) dX8_acts_15 rfl (by omega) (fun hc15 => ?_) (fun hc15 => ?_)
      · exfalso; omega
      · refine z_aload_n0 hZ dX8_acts_18 ?_
        refine z_bipush hZ dX8_acts_19 rfl ?_
        refine z_iconst hZ dX8_acts_21 ?_
        refine z_cV hZ (As := [_, _]) rfl dX8_acts_22 ml_X8_28 wy_X8_copies (m_X8_copies l t (by omega)) (by assumption) (by assumption) rfl ⟨Nat.le_of_ble_eq_true rfl, Nat.le_of_ble_eq_true rfl⟩ ⟨Nat.le_of_ble_eq_true rfl, Nat.le_of_ble_eq_true rfl⟩ (Nat.le_of_ble_eq_true rfl) (fun _ _ _ h => h.elim) (fun v22 L22 G22 hp22 => ?_)
        obtain ⟨rfl, rfl, hg, f22⟩ := hp22
        have hF := (f22 x hxa).trans hF
        have hg := hg
        have hQ := (f22 q (Ne.symm haq)).trans hQ
        have hC := (f22 c (Ne.symm hac)).trans hC
        have t := ms.of hx ha hxa hF hg
        have fr := fm.a fr f22
        refine z_aload_n0 hZ dX8_acts_25 ?_
        refine z_iconst hZ dX8_acts_26 ?_
        refine z_pf_X8_thrown hZ dX8_acts_27 fl_X8_21 (by assumption) (by assumption) (fun F27 hF27 hf27 => ?_)
        have hF := hF27
        have hg := (hf27 a (Ne.symm hxa)).trans hg
        have hQ := (hf27 q (Ne.symm hxq)).trans hQ
        have hC := (hf27 c (Ne.symm hxc)).trans hC
        have t := ms.of hx ha hxa hF hg
        have fr := fm.x fr hf27
        refine z_iconst hZ dX8_acts_30 ?_
        exact z_iret hZ rfl (Nat.le_of_ble_eq_true rfl) (Nat.le_of_ble_eq_true rfl) dX8_acts_31 (by exact ⟨rfl, fr, Or.inr ⟨no, rfl, A, hF, hg, hQ, hC⟩⟩)
    have k13y : ∀ (G : Nat → PE) (r : Int), dOk d kd (cpy g 0 9) → 0 ≤ r → r ≤ 1000 → r = dAn d (cpy g 0 9) → G a = eI 0 18180 (dTo d 0 kd (cpy g 0 9)) → (∀ b, b ≠ a → G b = F b) → ZZ 0 0 13 [some (.ref x), some (.int (iI (dI d))), none] [.int (iI r)] L G := by
      intro G r ok r0 r1 rA hg f
      have hF := (f x hxa).trans hF
      have hQ := (f q (Ne.symm haq)).trans hQ
      have hC := (f c (Ne.symm hac)).trans hC
      have fr := fm.a fr f
      refine z_istore_n2 hZ dX8_acts_13 (by decide) rfl ?_
      refine z_iload_n2 hZ dX8_acts_14 ?_
      refine z_if_ge hZ (tgt := 32) dX8_acts_15 rfl (by omega) (fun hc15 => ?_) (fun hc15 => ?_)
      · refine z_aload_n0 hZ dX8_acts_32 ?_
        refine z_cV hZ (As := []) rfl dX8_acts_33 ml_X8_140 wy_X8_remembers (m_X8_remembers l hx ha hxa hF hg hs) (by assumption) (by assumption) rfl ⟨Nat.le_of_ble_eq_true rfl, Nat.le_of_ble_eq_true rfl⟩ ⟨Nat.le_of_ble_eq_true rfl, Nat.le_of_ble_eq_true rfl⟩ (Nat.le_of_ble_eq_true rfl) (fun _ _ _ h => h.elim) (fun v33 L33 G33 hp33 => ?_)
        obtain ⟨rfl, rfl, ⟨h, hsv, hg⟩, hF, f33⟩ := hp33
        have hQ := (f33 q (Ne.symm hxq) (Ne.symm haq)).trans hQ
        have hC := (f33 c (Ne.symm hxc) (Ne.symm hac)).trans hC
        have fr := fm.xa fr f33
        refine z_aload_n0 hZ dX8_acts_36 ?_
        refine z_iconst hZ dX8_acts_37 ?_
        refine z_pf_X8_thrown hZ dX8_acts_38 fl_X8_21 (by assumption) (by assumption) (fun F38 hF38 hf38 => ?_)
        have hF := hF38
        have hg := (hf38 a (Ne.symm hxa)).trans hg
        have hQ := (hf38 q (Ne.symm hxq)).trans hQ
        have hC := (hf38 c (Ne.symm hxc)).trans hC
        have t := ms.of hx ha hxa hF hg
        have fr := fm.x fr hf38
        refine z_aload_n0 hZ dX8_acts_41 ?_
        refine z_iload_n1 hZ dX8_acts_42 ?_
        refine z_cS hZ (As := [_]) rfl dX8_acts_43 ml_X8_143 wy_X8_kindOf (m_X8_kindOf l (by omega)) ⟨Nat.le_of_ble_eq_true rfl, Nat.le_of_ble_eq_true rfl⟩ ⟨Nat.le_of_ble_eq_true rfl, Nat.le_of_ble_eq_true rfl⟩ (Nat.le_of_ble_eq_true rfl) (fun _ _ _ h => h.elim) (fun v43 L43 G43 hp43 => ?_)
        obtain ⟨rfl, rfl, rfl⟩ := hp43
        rw [kdC_d d (by omega)]
        refine z_pf_X8_kind hZ dX8_acts_46 fl_X8_67 (by assumption) (by assumption) (fun F46 hF46 hf46 => ?_)
        have hF := hF46
        have hg := (hf46 a (Ne.symm hxa)).trans hg
        have hQ := (hf46 q (Ne.symm hxq)).trans hQ
        have hC := (hf46 c (Ne.symm hxc)).trans hC
        have t := ms.of hx ha hxa hF hg
        have fr := fm.x fr hf46
        refine z_iload_n2 hZ dX8_acts_49 ?_
        exact z_iret hZ rfl (Nat.le_of_ble_eq_true rfl) (Nat.le_of_ble_eq_true rfl) dX8_acts_50 (by exact ⟨rfl, fr, Or.inl ⟨ok, by rw [rA], h, hsv, A, hF, hg, hQ, hC⟩⟩)
      · exfalso; omega
    refine z_aload_n0 hZ dX8_acts_0 ?_
    refine z_iconst hZ dX8_acts_1 ?_
    refine z_bipush hZ dX8_acts_2 rfl ?_
    refine z_cV hZ (As := [_, _]) rfl dX8_acts_4 ml_X8_28 wy_X8_copies (m_X8_copies l t (by omega)) (by assumption) (by assumption) rfl ⟨Nat.le_of_ble_eq_true rfl, Nat.le_of_ble_eq_true rfl⟩ ⟨Nat.le_of_ble_eq_true rfl, Nat.le_of_ble_eq_true rfl⟩ (Nat.le_of_ble_eq_true rfl) (fun _ _ _ h => h.elim) (fun v4 L4 G4 hp4 => ?_)
    obtain ⟨rfl, rfl, hg, f4⟩ := hp4
    have hF := (f4 x hxa).trans hF
    have hg := hg
    have hQ := (f4 q (Ne.symm haq)).trans hQ
    have hC := (f4 c (Ne.symm hac)).trans hC
    have t := ms.of hx ha hxa hF hg
    have fr := fm.a fr f4
    refine z_aload_n0 hZ dX8_acts_7 ?_
    refine z_iload_n1 hZ dX8_acts_8 ?_
    refine z_iconst hZ dX8_acts_9 ?_
    refine z_cV hZ (As := [_, _]) rfl dX8_acts_10 ml_X8_137 wy_X8_does (m_X8_does l t v (by omega)) (by assumption) (by assumption) rfl ⟨Nat.le_of_ble_eq_true rfl, Nat.le_of_ble_eq_true rfl⟩ ⟨Nat.le_of_ble_eq_true rfl, Nat.le_of_ble_eq_true rfl⟩ (Nat.le_of_ble_eq_true rfl) (fun _ _ _ h => h.elim) (fun v10 L10 G10 hp10 => ?_)
    obtain ⟨rfl, f10, h10⟩ := hp10
    have f10 : ∀ b, b ≠ a → G10 b = F b := fun b hb => (f10 b hb).trans (f4 b hb)
    obtain ⟨w, rfl⟩ := h10.val
    rcases h10 with ⟨ok, ⟨r, e, r0, r1, rA⟩, hg⟩ | ⟨no, e, hg⟩
    · have z := k13y _ _ ok r0 r1 (rA hd) hg f10
      rw [← Value.int.inj (Option.some.inj e)] at z
      exact z
    · have z := k13n _ no hg f10
      rw [← Value.int.inj (Option.some.inj e)] at z
      exact z
  exact hgo

