/-! THE NUMBERS OF AN OBJECT. -/
def nuC (v : Int → Int) : Nat → Int → Int
  | 0, h => h
  | k + 1, h => 31 * nuC v k h + v (18 + (k : Int))
def nuI (v : Int → Int) (i : Int) : Nat → Int → Int
  | 0, h => h
  | j + 1, h => 31 * nuI v i j h + v (218 + 200 * i + (j : Int))
def nuH (v : Int → Int) : Nat → Int → Int
  | 0, h => h
  | k + 1, h => nuI v (k : Int) (v (10 + (k : Int))).toNat (nuH v k h)
def nu0 (v : Int → Int) : Int := 31 * 163 + v 0 + 7 * v 1 + 211 * mkQ v + v 5
def nuA (v : Int → Int) : Int := 31 * nuH v (v 3).toNat (nuC v (v 0).toNat (nu0 v)) + v 6 + 3 * v 7 + 5 * v 8 + 7 * v 9 + nxQ v
theorem nuC_s {v : Int → Int} {h j : Int} (q : 0 ≤ j) : nuC v (j + 1).toNat h = 31 * nuC v j.toNat h + v (18 + j) := by
  rw [show (j + 1).toNat = j.toNat + 1 by omega]
  show 31 * nuC v j.toNat h + v (18 + (j.toNat : Int)) = _
  rw [Int.toNat_of_nonneg q]
theorem nuI_s {v : Int → Int} {h i j : Int} (q : 0 ≤ j) : nuI v i (j + 1).toNat h = 31 * nuI v i j.toNat h + v (218 + 200 * i + j) := by
  rw [show (j + 1).toNat = j.toNat + 1 by omega]
  show 31 * nuI v i j.toNat h + v (218 + 200 * i + (j.toNat : Int)) = _
  rw [Int.toNat_of_nonneg q]
theorem nuH_s {v : Int → Int} {h i : Int} (q : 0 ≤ i) : nuH v (i + 1).toNat h = nuI v i (v (10 + i)).toNat (nuH v i.toNat h) := by
  rw [show (i + 1).toNat = i.toNat + 1 by omega]
  show nuI v (i.toNat : Int) (v (10 + (i.toNat : Int))).toNat (nuH v i.toNat h) = _
  rw [Int.toNat_of_nonneg q]
set_option maxRecDepth 100000 in
set_option maxHeartbeats 8000000 in
theorem m_L_numbers (l : Launch) {L : List Nat} {F : Nat → PE} {K : Nat → Nat} {v : Int → Int} {kd sv n : Int} {H Q : Int → Int → Int} {kp bf : Int → Int} (hfl : l.flags = flags0) (t : dr L F K v kd sv H kp Q n bf) : PMf (va_Nc xS xA) l yL_numbers cL_numbers 4 (some .int) (rm 9 2 12) L [.ref (K 0)] F (fun v9 L1 F1 => v9 = some (.int (iI (nuA v))) ∧ L = L1 ∧ F = F1) := by
  refine pmf_of cd_L_numbers (by decide +kernel) (Nat.le_of_ble_eq_true rfl) (fun ZZ hZ => ?_)
  have hgo : ZZ 0 0 0 [some (.ref (K 0)), none, none, none] [] L F := by
    have fx := dr.fx t
    have r := fx.1.1
    have hK0 := dr.L t 0 (by omega)
    have hF0 := (dr.S t).2.1
    have k128 : ∀ (h : Int) (x2 x3 : Option Value), h = nuH v (v 3).toNat (nuC v (v 0).toNat (nu0 v)) → ZZ 1 6 128 [some (.ref (K 0)), some (.int (iI h)), x2, x3] [] L F := by
      intro h x2 x3 he
      refine zq_bipush hZ dL_numbers_128 rfl ?_
      refine zq_iload_n1 hZ dL_numbers_130 ?_
      refine zq_imul hZ dL_numbers_131 ?_
      refine zq_aload_n0 hZ dL_numbers_132 ?_
      refine zq_cVr hZ (As := []) rfl dL_numbers_133 ml_L_195 wy_X7_killed (m_X7_killed l t) hK0 hF0 rfl ⟨Nat.le_of_ble_eq_true rfl, Nat.le_of_ble_eq_true rfl⟩ ⟨Nat.le_of_ble_eq_true rfl, Nat.le_of_ble_eq_true rfl⟩ (Nat.le_of_ble_eq_true rfl) (fun _ _ _ h => h.elim) (fun v133 L133 F133 hp133 => ?_)
      obtain ⟨rfl, rfl, rfl⟩ := hp133
      refine zq_iadd hZ dL_numbers_136 ?_
      refine zq_iconst hZ dL_numbers_137 ?_
      refine zq_aload_n0 hZ dL_numbers_138 ?_
      refine zq_cVr hZ (As := []) rfl dL_numbers_139 ml_L_198 wy_X7_yanked (m_X7_yanked l t) hK0 hF0 rfl ⟨Nat.le_of_ble_eq_true rfl, Nat.le_of_ble_eq_true rfl⟩ ⟨Nat.le_of_ble_eq_true rfl, Nat.le_of_ble_eq_true rfl⟩ (Nat.le_of_ble_eq_true rfl) (fun _ _ _ h => h.elim) (fun v139 L139 F139 hp139 => ?_)
      obtain ⟨rfl, rfl, rfl⟩ := hp139
      refine zq_imul hZ dL_numbers_142 ?_
      refine zq_iadd hZ dL_numbers_143 ?_
      refine zq_iconst hZ dL_numbers_144 ?_
      refine zq_aload_n0 hZ dL_numbers_145 ?_
      refine zq_cVr hZ (As := []) rfl dL_numbers_146 ml_L_201 wy_X7_written (m_X7_written l t) hK0 hF0 rfl ⟨Nat.le_of_ble_eq_true rfl, Nat.le_of_ble_eq_true rfl⟩ ⟨Nat.le_of_ble_eq_true rfl, Nat.le_of_ble_eq_true rfl⟩ (Nat.le_of_ble_eq_true rfl) (fun _ _ _ h => h.elim) (fun v146 L146 F146 hp146 => ?_)
      obtain ⟨rfl, rfl, rfl⟩ := hp146
      refine zq_imul hZ dL_numbers_149 ?_
      refine zq_iadd hZ dL_numbers_150 ?_
      refine zq_bipush hZ dL_numbers_151 rfl ?_
      refine zq_aload_n0 hZ dL_numbers_153 ?_
      refine zq_cVr hZ (As := []) rfl dL_numbers_154 ml_L_204 wy_X7_lostHoards (m_X7_lostHoards l t) hK0 hF0 rfl ⟨Nat.le_of_ble_eq_true rfl, Nat.le_of_ble_eq_true rfl⟩ ⟨Nat.le_of_ble_eq_true rfl, Nat.le_of_ble_eq_true rfl⟩ (Nat.le_of_ble_eq_true rfl) (fun _ _ _ h => h.elim) (fun v154 L154 F154 hp154 => ?_)
      obtain ⟨rfl, rfl, rfl⟩ := hp154
      refine zq_imul hZ dL_numbers_157 ?_
      refine zq_iadd hZ dL_numbers_158 ?_
      refine zq_aload_n0 hZ dL_numbers_159 ?_
      refine zq_cSr hZ (fun _ h => h) (As := [_]) rfl dL_numbers_160 ml_L_207 wy_L_next (m_L_next l hfl t) ⟨Nat.le_of_ble_eq_true rfl, Nat.le_of_ble_eq_true rfl⟩ ⟨Nat.le_of_ble_eq_true rfl, Nat.le_of_ble_eq_true rfl⟩ (Nat.le_of_ble_eq_true rfl) (fun v160 L160 F160 hp160 => ?_)
      obtain ⟨rfl, rfl, rfl⟩ := hp160
      refine zq_iadd hZ dL_numbers_163 ?_
      exact zq_iret hZ rfl (Nat.le_of_ble_eq_true rfl) (Nat.le_of_ble_eq_true rfl) dL_numbers_164 (by exact ⟨by rw [he]; rfl, rfl, rfl⟩)
    have k72 : ∀ (m : Nat) (i h : Int) (x3 : Option Value), 0 ≤ i → i ≤ v 3 → h = nuH v i.toNat (nuC v (v 0).toNat (nu0 v)) → (v 3 - i).toNat < m → c1 x3 = true → ZZ 1 6 72 [some (.ref (K 0)), some (.int (iI h)), some (.int (iI i)), x3] [] L F := by
      intro m
      induction m with
      | zero => intro i h x3 _ _ _ hm; omega
      | succ m ih =>
        intro i h x3 i0 i1 he hm hc3
        have k88 : i < v 3 → ∀ (m : Nat) (j h2 : Int), 0 ≤ j → j ≤ v (10 + i) → h2 = nuI v i j.toNat h → (v (10 + i) - j).toNat < m → ZZ 1 6 88 [some (.ref (K 0)), some (.int (iI h2)), some (.int (iI i)), some (.int (iI j))] [] L F := by
          intro i2
          have hb := fx.1.2.1.1 i i0 i2
          intro m
          induction m with
          | zero => intro j h2 _ _ _ hm; omega
          | succ m ih2 =>
            intro j h2 j0 j1 he2 hm2
            refine zq_iload_n3 hZ dL_numbers_88 ?_
            refine zq_aload_n0 hZ dL_numbers_89 ?_
            refine zq_iload_n2 hZ dL_numbers_90 ?_
            refine zq_cSr hZ (fun _ h => h) (As := [_, _]) rfl dL_numbers_91 ml_L_189 wy_L_hoard (m_L_hoard0 l hfl t (⟨by omega, by omega⟩)) ⟨Nat.le_of_ble_eq_true rfl, Nat.le_of_ble_eq_true rfl⟩ ⟨Nat.le_of_ble_eq_true rfl, Nat.le_of_ble_eq_true rfl⟩ (Nat.le_of_ble_eq_true rfl) (fun v91 L91 F91 hp91 => ?_)
            obtain ⟨rfl, rfl, rfl⟩ := hp91
            refine zq_icmp_ge hZ (tgt := 122) dL_numbers_94 rfl (by omega) (fun hc94 => ?_) (fun hc94 => ?_)
            · refine zq_iinc2 hZ dL_numbers_122 (by decide) rfl ?_
              refine zq_goto hZ (tgt := 72) dL_numbers_125 rfl ?_
              exact ih (i + 1) _ _ (by omega) (by omega) (by rw [nuH_s i0, ← he, he2, show j = v (10 + i) by omega]) (by omega) rfl
            · refine zq_iload_n3 hZ dL_numbers_97 ?_
              refine zq_sipush hZ dL_numbers_98 rfl ?_
              refine zq_icmp_ge hZ (tgt := 122) dL_numbers_101 rfl (by omega) (fun hc101 => ?_) (fun hc101 => ?_)
              · exfalso; omega
              · refine zq_bipush hZ dL_numbers_104 rfl ?_
                refine zq_iload_n1 hZ dL_numbers_106 ?_
                refine zq_imul hZ dL_numbers_107 ?_
                refine zq_aload_n0 hZ dL_numbers_108 ?_
                refine zq_iload_n2 hZ dL_numbers_109 ?_
                refine zq_iload_n3 hZ dL_numbers_110 ?_
                refine zq_cSr hZ (fun _ h => h) (As := [_, _, _]) rfl dL_numbers_111 ml_L_192 wy_L_codeIn (m_L_codeIn0 l hfl t (⟨by omega, by omega⟩)) ⟨Nat.le_of_ble_eq_true rfl, Nat.le_of_ble_eq_true rfl⟩ ⟨Nat.le_of_ble_eq_true rfl, Nat.le_of_ble_eq_true rfl⟩ (Nat.le_of_ble_eq_true rfl) (fun v111 L111 F111 hp111 => ?_)
                obtain ⟨rfl, rfl, rfl⟩ := hp111
                refine zq_iadd hZ dL_numbers_114 ?_
                refine zq_istore_n1 hZ dL_numbers_115 (by decide) rfl ?_
                refine zq_iinc3 hZ dL_numbers_116 (by decide) rfl ?_
                refine zq_goto hZ (tgt := 88) dL_numbers_119 rfl ?_
                exact ih2 (j + 1) _ (by omega) (by omega) (by rw [nuI_s j0, ← he2]) (by omega)
        refine zq_iload_n2 hZ dL_numbers_72 ?_
        refine zq_aload_n0 hZ dL_numbers_73 ?_
        refine zq_cVr hZ (As := []) rfl dL_numbers_74 ml_L_186 wy_X7_hoards (m_X7_hoards l t) hK0 hF0 rfl ⟨Nat.le_of_ble_eq_true rfl, Nat.le_of_ble_eq_true rfl⟩ ⟨Nat.le_of_ble_eq_true rfl, Nat.le_of_ble_eq_true rfl⟩ (Nat.le_of_ble_eq_true rfl) (fun _ _ _ h => h.elim) (fun v74 L74 F74 hp74 => ?_)
        obtain ⟨rfl, rfl, rfl⟩ := hp74
        refine zq_icmp_ge hZ (tgt := 128) dL_numbers_77 rfl (by omega) (fun hc77 => ?_) (fun hc77 => ?_)
        · exact k128 h _ _ (by rw [he, show i = v 3 by omega])
        · refine zq_iload_n2 hZ dL_numbers_80 ?_
          refine zq_bipush hZ dL_numbers_81 rfl ?_
          refine zq_icmp_ge hZ (tgt := 128) dL_numbers_83 rfl (by omega) (fun hc83 => ?_) (fun hc83 => ?_)
          · exfalso; omega
          · refine zq_iconst hZ dL_numbers_86 ?_
            refine zq_istore_n3 hZ dL_numbers_87 (by decide) rfl ?_
            have hb := fx.1.2.1.1 i i0 (by omega)
            exact k88 (by omega) _ 0 h (by omega) (by omega) rfl (Nat.lt_succ_self _)
    have k38 : ∀ (m : Nat) (j h : Int), 0 ≤ j → j ≤ v 0 → h = nuC v j.toNat (nu0 v) → (v 0 - j).toNat < m → ZZ 1 6 38 [some (.ref (K 0)), some (.int (iI h)), some (.int (iI j)), none] [] L F := by
      intro m
      induction m with
      | zero => intro j h _ _ _ hm; omega
      | succ m ih =>
        intro j h j0 j1 he hm
        refine zq_iload_n2 hZ dL_numbers_38 ?_
        refine zq_aload_n0 hZ dL_numbers_39 ?_
        refine zq_cVr hZ (As := []) rfl dL_numbers_40 ml_L_123 wy_X7_length (m_X7_length l t) hK0 hF0 rfl ⟨Nat.le_of_ble_eq_true rfl, Nat.le_of_ble_eq_true rfl⟩ ⟨Nat.le_of_ble_eq_true rfl, Nat.le_of_ble_eq_true rfl⟩ (Nat.le_of_ble_eq_true rfl) (fun _ _ _ h => h.elim) (fun v40 L40 F40 hp40 => ?_)
        obtain ⟨rfl, rfl, rfl⟩ := hp40
        refine zq_icmp_ge hZ (tgt := 70) dL_numbers_43 rfl (by omega) (fun hc43 => ?_) (fun hc43 => ?_)
        · refine zq_iconst hZ dL_numbers_70 ?_
          refine zq_istore_n2 hZ dL_numbers_71 (by decide) rfl ?_
          exact k72 _ 0 h _ (by omega) (by omega) (by rw [he, show j = v 0 by omega]; rfl) (Nat.lt_succ_self _) rfl
        · refine zq_iload_n2 hZ dL_numbers_46 ?_
          refine zq_sipush hZ dL_numbers_47 rfl ?_
          refine zq_icmp_ge hZ (tgt := 70) dL_numbers_50 rfl (by omega) (fun hc50 => ?_) (fun hc50 => ?_)
          · exfalso; omega
          · refine zq_bipush hZ dL_numbers_53 rfl ?_
            refine zq_iload_n1 hZ dL_numbers_55 ?_
            refine zq_imul hZ dL_numbers_56 ?_
            refine zq_aload_n0 hZ dL_numbers_57 ?_
            refine zq_iload_n2 hZ dL_numbers_58 ?_
            refine zq_cSr hZ (fun _ h => h) (As := [_, _]) rfl dL_numbers_59 ml_L_183 wy_L_code (m_L_code0 l hfl t (⟨by omega, by omega⟩)) ⟨Nat.le_of_ble_eq_true rfl, Nat.le_of_ble_eq_true rfl⟩ ⟨Nat.le_of_ble_eq_true rfl, Nat.le_of_ble_eq_true rfl⟩ (Nat.le_of_ble_eq_true rfl) (fun v59 L59 F59 hp59 => ?_)
            obtain ⟨rfl, rfl, rfl⟩ := hp59
            refine zq_iadd hZ dL_numbers_62 ?_
            refine zq_istore_n1 hZ dL_numbers_63 (by decide) rfl ?_
            refine zq_iinc2 hZ dL_numbers_64 (by decide) rfl ?_
            refine zq_goto hZ (tgt := 38) dL_numbers_67 rfl ?_
            exact ih (j + 1) _ (by omega) (by omega) (by rw [nuC_s j0, ← he]) (by omega)
    refine zq_sipush hZ dL_numbers_0 rfl ?_
    refine zq_istore_n1 hZ dL_numbers_3 (by decide) rfl ?_
    refine zq_bipush hZ dL_numbers_4 rfl ?_
    refine zq_iload_n1 hZ dL_numbers_6 ?_
    refine zq_imul hZ dL_numbers_7 ?_
    refine zq_aload_n0 hZ dL_numbers_8 ?_
    refine zq_cVr hZ (As := []) rfl dL_numbers_9 ml_L_123 wy_X7_length (m_X7_length l t) hK0 hF0 rfl ⟨Nat.le_of_ble_eq_true rfl, Nat.le_of_ble_eq_true rfl⟩ ⟨Nat.le_of_ble_eq_true rfl, Nat.le_of_ble_eq_true rfl⟩ (Nat.le_of_ble_eq_true rfl) (fun _ _ _ h => h.elim) (fun v9 L9 F9 hp9 => ?_)
    obtain ⟨rfl, rfl, rfl⟩ := hp9
    refine zq_iadd hZ dL_numbers_12 ?_
    refine zq_bipush hZ dL_numbers_13 rfl ?_
    refine zq_aload_n0 hZ dL_numbers_15 ?_
    refine zq_cVr hZ (As := []) rfl dL_numbers_16 ml_L_176 wy_X7_point (m_X7_point l t) hK0 hF0 rfl ⟨Nat.le_of_ble_eq_true rfl, Nat.le_of_ble_eq_true rfl⟩ ⟨Nat.le_of_ble_eq_true rfl, Nat.le_of_ble_eq_true rfl⟩ (Nat.le_of_ble_eq_true rfl) (fun _ _ _ h => h.elim) (fun v16 L16 F16 hp16 => ?_)
    obtain ⟨rfl, rfl, rfl⟩ := hp16
    refine zq_imul hZ dL_numbers_19 ?_
    refine zq_iadd hZ dL_numbers_20 ?_
    refine zq_sipush hZ dL_numbers_21 rfl ?_
    refine zq_aload_n0 hZ dL_numbers_24 ?_
    refine zq_cSr hZ (fun _ h => h) (As := [_]) rfl dL_numbers_25 ml_L_179 wy_L_markAt (m_L_markAt l hfl t) ⟨Nat.le_of_ble_eq_true rfl, Nat.le_of_ble_eq_true rfl⟩ ⟨Nat.le_of_ble_eq_true rfl, Nat.le_of_ble_eq_true rfl⟩ (Nat.le_of_ble_eq_true rfl) (fun v25 L25 F25 hp25 => ?_)
    obtain ⟨rfl, rfl, rfl⟩ := hp25
    refine zq_imul hZ dL_numbers_28 ?_
    refine zq_iadd hZ dL_numbers_29 ?_
    refine zq_aload_n0 hZ dL_numbers_30 ?_
    refine zq_cVr hZ (As := []) rfl dL_numbers_31 ml_L_181 wy_X7_caves (m_X7_caves l t) hK0 hF0 rfl ⟨Nat.le_of_ble_eq_true rfl, Nat.le_of_ble_eq_true rfl⟩ ⟨Nat.le_of_ble_eq_true rfl, Nat.le_of_ble_eq_true rfl⟩ (Nat.le_of_ble_eq_true rfl) (fun _ _ _ h => h.elim) (fun v31 L31 F31 hp31 => ?_)
    obtain ⟨rfl, rfl, rfl⟩ := hp31
    refine zq_iadd hZ dL_numbers_34 ?_
    refine zq_istore_n1 hZ dL_numbers_35 (by decide) rfl ?_
    refine zq_iconst hZ dL_numbers_36 ?_
    refine zq_istore_n2 hZ dL_numbers_37 (by decide) rfl ?_
    exact k38 _ 0 _ (by omega) (by omega) rfl (Nat.lt_succ_self _)
  exact hgo
