/-! READING AND DOING THE BUFFER. -/
def sgR (bf : Int → Int) : Nat → Int
  | 0 => 0
  | k + 1 => sgB (sgR bf k) (bf (k : Int))
theorem sgR_rg {bf : Int → Int} : ∀ k : Nat, -1 ≤ sgR bf k ∧ sgR bf k ≤ 2
  | 0 => ⟨by show (-1 : Int) ≤ 0; omega, by show (0 : Int) ≤ 2; omega⟩
  | _ + 1 => sgB_rg
theorem sgR_s {bf : Int → Int} {i : Int} (h : 0 ≤ i) : sgR bf (i + 1).toNat = sgB (sgR bf i.toNat) (bf i) := by
  rw [show (i + 1).toNat = i.toNat + 1 by omega]
  show sgB (sgR bf i.toNat) (bf (i.toNat : Int)) = _
  rw [Int.toNat_of_nonneg h]
theorem sgR_bad {bf : Int → Int} {k : Nat} (h : sgR bf k = -1) : ∀ j : Nat, sgR bf (k + j) = -1
  | 0 => h
  | j + 1 => by show sgB (sgR bf (k + j)) _ = -1; rw [sgR_bad h j]; exact if_pos rfl
def feP (bf : Int → Int) (n i : Int) : Prop := 0 ≤ i ∧ i ≤ n ∧ (∀ j, 0 ≤ j → j < i → sgR bf (j + 1).toNat ≠ -1) ∧ (i < n → sgR bf (i + 1).toNat = -1)
theorem feP_one {bf : Int → Int} {n i j : Int} (h : feP bf n i) (h2 : feP bf n j) : i = j := by
  by_cases c : i < j
  · exact absurd (h.2.2.2 (by have := h2.2.1; omega)) (h2.2.2.1 i h.1 c)
  · by_cases c2 : j < i
    · exact absurd (h2.2.2.2 (by have := h.2.1; omega)) (h.2.2.1 j h2.1 c2)
    · omega
set_option maxRecDepth 100000 in
set_option maxHeartbeats 4000000 in
theorem m_X7_tellsDeeds (l : Launch) {L : List Nat} {F : Nat → PE} {K : Nat → Nat} {fi sv n : Int} {kp bf : Int → Int} {W : Nat → Int → Int} {D : Nat → Int} (hb : db L F K fi sv kp n bf W D) : PM l yX7_tellsDeeds cX7_tellsDeeds 3 (some .boolean) (rm 7 0 0) L [.ref (K 0)] F (fun v9 L1 F1 => v9 = some (.int (iI (b2 (0 < n ∧ sgR bf n.toNat = 0)))) ∧ L = L1 ∧ F = F1) (fun _ _ _ => False) := by
  refine pm_of cd_X7_tellsDeeds (by decide +kernel) (Nat.le_of_ble_eq_true rfl) (fun ZZ hZ => ?_)
  have hgo : ZZ 0 0 0 [some (.ref (K 0)), none, none] [] L F := by
    have l0 := hb.1.1 0 (by omega)
    have h0 := hb.2.1
    have ht := hb.2.2.2.2.2.2.1
    have l255 := ht.1.1
    have h255 := ht.2.1
    have hn := ht.2.2.2.1
    have hcr := ht.2.2.2.2
    have loop : ∀ (m : Nat) (i : Int), (n - i).toNat = m → 0 ≤ i → i ≤ n → ZZ 0 0 4 [some (.ref (K 0)), some (.int (iI (sgR bf i.toNat))), some (.int (iI i))] [] L F := by
      intro m
      induction m with
      | zero =>
        intro i hm h0 h1
        have e : i = n := by omega
        subst e
        have sr := sgR_rg (bf := bf) i.toNat
        refine z_iload_n2 hZ dX7_tellsDeeds_4 ?_
        refine z_aload_n0 hZ dX7_tellsDeeds_5 ?_
        refine z_gf_X7_buffer hZ dX7_tellsDeeds_6 fl_X7_36 (by assumption) (by assumption) ?_
        refine z_cV hZ (As := []) rfl dX7_tellsDeeds_9 ml_X7_77 wy_X6_count (m_X6_count l ht) (by assumption) (by assumption) rfl ⟨Nat.le_of_ble_eq_true rfl, Nat.le_of_ble_eq_true rfl⟩ ⟨Nat.le_of_ble_eq_true rfl, Nat.le_of_ble_eq_true rfl⟩ (Nat.le_of_ble_eq_true rfl) (fun _ _ _ h => h.elim) (fun v9 L9 G9 hp9 => ?_)
        obtain ⟨rfl, rfl, rfl⟩ := hp9
        refine z_icmp_ge hZ (tgt := 34) dX7_tellsDeeds_12 rfl (by omega) (fun hc12 => ?_) (fun hc12 => ?_)
        · refine z_aload_n0 hZ dX7_tellsDeeds_34 ?_
          refine z_gf_X7_buffer hZ dX7_tellsDeeds_35 fl_X7_36 (by assumption) (by assumption) ?_
          refine z_cV hZ (As := []) rfl dX7_tellsDeeds_38 ml_X7_77 wy_X6_count (m_X6_count l ht) (by assumption) (by assumption) rfl ⟨Nat.le_of_ble_eq_true rfl, Nat.le_of_ble_eq_true rfl⟩ ⟨Nat.le_of_ble_eq_true rfl, Nat.le_of_ble_eq_true rfl⟩ (Nat.le_of_ble_eq_true rfl) (fun _ _ _ h => h.elim) (fun v38 L38 G38 hp38 => ?_)
          obtain ⟨rfl, rfl, rfl⟩ := hp38
          refine z_if_le hZ (tgt := 52) dX7_tellsDeeds_41 rfl (by omega) (fun hc41 => ?_) (fun hc41 => ?_)
          · refine z_iconst hZ dX7_tellsDeeds_52 ?_
            exact z_zret hZ rfl (Nat.le_of_ble_eq_true rfl) (Nat.le_of_ble_eq_true rfl) dX7_tellsDeeds_53 (by omega) (by exact ⟨pv (by first | exact (b2_t (by omega)).symm | exact (b2_f (by omega)).symm), rfl, rfl⟩)
          · refine z_iload_n1 hZ dX7_tellsDeeds_44 ?_
            refine z_if_ne hZ (tgt := 52) dX7_tellsDeeds_45 rfl (by omega) (fun hc45 => ?_) (fun hc45 => ?_)
            · refine z_iconst hZ dX7_tellsDeeds_52 ?_
              exact z_zret hZ rfl (Nat.le_of_ble_eq_true rfl) (Nat.le_of_ble_eq_true rfl) dX7_tellsDeeds_53 (by omega) (by exact ⟨pv (by first | exact (b2_t (by omega)).symm | exact (b2_f (by omega)).symm), rfl, rfl⟩)
            · refine z_iconst hZ dX7_tellsDeeds_48 ?_
              refine z_goto hZ (tgt := 53) dX7_tellsDeeds_49 rfl ?_
              exact z_zret hZ rfl (Nat.le_of_ble_eq_true rfl) (Nat.le_of_ble_eq_true rfl) dX7_tellsDeeds_53 (by omega) (by exact ⟨pv (by first | exact (b2_t (by omega)).symm | exact (b2_f (by omega)).symm), rfl, rfl⟩)
        · exfalso; omega
      | succ m ih =>
        intro i hm h0 h1
        have sr := sgR_rg (bf := bf) i.toNat
        have cr := hcr i h0 (by omega)
        refine z_iload_n2 hZ dX7_tellsDeeds_4 ?_
        refine z_aload_n0 hZ dX7_tellsDeeds_5 ?_
        refine z_gf_X7_buffer hZ dX7_tellsDeeds_6 fl_X7_36 (by assumption) (by assumption) ?_
        refine z_cV hZ (As := []) rfl dX7_tellsDeeds_9 ml_X7_77 wy_X6_count (m_X6_count l ht) (by assumption) (by assumption) rfl ⟨Nat.le_of_ble_eq_true rfl, Nat.le_of_ble_eq_true rfl⟩ ⟨Nat.le_of_ble_eq_true rfl, Nat.le_of_ble_eq_true rfl⟩ (Nat.le_of_ble_eq_true rfl) (fun _ _ _ h => h.elim) (fun v9 L9 G9 hp9 => ?_)
        obtain ⟨rfl, rfl, rfl⟩ := hp9
        refine z_icmp_ge hZ (tgt := 34) dX7_tellsDeeds_12 rfl (by omega) (fun hc12 => ?_) (fun hc12 => ?_)
        · exfalso; omega
        · refine z_iload_n1 hZ dX7_tellsDeeds_15 ?_
          refine z_aload_n0 hZ dX7_tellsDeeds_16 ?_
          refine z_gf_X7_buffer hZ dX7_tellsDeeds_17 fl_X7_36 (by assumption) (by assumption) ?_
          refine z_iload_n2 hZ dX7_tellsDeeds_20 ?_
          refine z_cV hZ (As := [_]) rfl dX7_tellsDeeds_21 ml_X7_160 wy_X6_code (m_X6_code l ht (by omega)) (by assumption) (by assumption) rfl ⟨Nat.le_of_ble_eq_true rfl, Nat.le_of_ble_eq_true rfl⟩ ⟨Nat.le_of_ble_eq_true rfl, Nat.le_of_ble_eq_true rfl⟩ (Nat.le_of_ble_eq_true rfl) (fun _ _ _ h => h.elim) (fun v21 L21 G21 hp21 => ?_)
          obtain ⟨rfl, rfl, rfl⟩ := hp21
          rw [cdA_in (f := bf) (show 0 ≤ i ∧ i < n by omega)]
          refine z_cS hZ (As := [_, _]) rfl dX7_tellsDeeds_24 ml_X7_163 wy_X7_stageBehind (m_X7_stageBehind l sr (by omega)) ⟨Nat.le_of_ble_eq_true rfl, Nat.le_of_ble_eq_true rfl⟩ ⟨Nat.le_of_ble_eq_true rfl, Nat.le_of_ble_eq_true rfl⟩ (Nat.le_of_ble_eq_true rfl) (fun _ _ _ h => h.elim) (fun v24 L24 G24 hp24 => ?_)
          obtain ⟨rfl, rfl, rfl⟩ := hp24
          refine z_istore_n1 hZ dX7_tellsDeeds_27 (by decide) rfl ?_
          refine z_iinc2 hZ dX7_tellsDeeds_28 (by decide) rfl ?_
          refine z_goto hZ (tgt := 4) dX7_tellsDeeds_31 rfl ?_
          rw [← sgR_s h0]; exact ih (i + 1) (by omega) (by omega) (by omega)
    refine z_iconst hZ dX7_tellsDeeds_0 ?_
    refine z_istore_n1 hZ dX7_tellsDeeds_1 (by decide) rfl ?_
    refine z_iconst hZ dX7_tellsDeeds_2 ?_
    refine z_istore_n2 hZ dX7_tellsDeeds_3 (by decide) rfl ?_
    exact loop n.toNat 0 (by omega) (by omega) (by omega)
  exact hgo