/-! THE MODEL, 3: hoards. -/
theorem fuA_z {g : Int → Int} (r : 0 ≤ g 3 ∧ g 3 ≤ g 5 ∧ 1 ≤ g 5 ∧ g 5 ≤ 8) : 0 ≤ g 3 - fuA g ∧ g 3 - fuA g ≤ 7 ∧ (fuA g = 0 ∨ fuA g = 1) := by unfold fuA; split <;> omega
/-- hoards moved down to the place p, of the hoards up to z -/
def coK (g : Int → Int) (z p : Int) : Int → Int := fun x =>
  if 10 + p < x ∧ x ≤ 10 + z then g (x - 1) else if 218 + 200 * (p + 1) ≤ x ∧ x < 218 + 200 * (z + 1) ∧ (x - 218) % 200 < g (9 + (x - 218) / 200) then g (x - 200) else g x
def ciK (g : Int → Int) (z p k : Int) : Int → Int := fun x => if x = 10 + p then g (9 + p) else if 218 + 200 * p ≤ x ∧ x < 218 + 200 * p + k then g (x - 200) else coK g z p x
theorem coK_z {g : Int → Int} {z : Int} : coK g z z = g := by
  funext y
  unfold coK
  rw [if_neg (by omega), if_neg (by omega)]
theorem coK_0 {g : Int → Int} {z : Int} : coK g z 0 = vCol2 g z := by
  funext y
  unfold coK vCol2
  rw [show (10 : Int) + 0 = 10 by omega, show (218 : Int) + 200 * (0 + 1) = 418 by omega, show 218 + 200 * (z + 1) = 418 + 200 * z by omega]
theorem ciK_0 {g : Int → Int} {z p : Int} : wu (coK g z p) (10 + p) (g (9 + p)) = ciK g z p 0 := by
  funext y
  unfold wu ciK
  by_cases q : y = 10 + p
  · rw [if_pos q, if_pos q]
  · rw [if_neg q, if_neg q, if_neg (by omega)]
theorem ciK_s {g : Int → Int} {z p k : Int} (h : 1 ≤ p ∧ 0 ≤ k) : wu (ciK g z p k) (218 + 200 * p + k) (g (218 + 200 * (p - 1) + k)) = ciK g z p (k + 1) := by
  funext y
  unfold wu ciK
  by_cases q : y = 218 + 200 * p + k
  · subst q
    rw [if_pos rfl, if_neg (by omega), if_pos (by omega)]
    congr 1; omega
  · rw [if_neg q]
    by_cases q1 : y = 10 + p
    · rw [if_pos q1, if_pos q1]
    · rw [if_neg q1, if_neg q1]
      by_cases q2 : 218 + 200 * p ≤ y ∧ y < 218 + 200 * p + k
      · rw [if_pos q2, if_pos (by omega)]
      · rw [if_neg q2, if_neg (by omega)]
theorem ciK_e {g : Int → Int} {z p : Int} (h : 1 ≤ p ∧ p ≤ z ∧ z ≤ 7) (hb : 0 ≤ g (9 + p) ∧ g (9 + p) ≤ 200) : ciK g z p (g (9 + p)) = coK g z (p - 1) := by
  funext y
  unfold ciK coK
  by_cases q : y = 10 + p
  · rw [if_pos q, if_pos (by omega), q]
    congr 1; omega
  · rw [if_neg q]
    by_cases q1 : 10 + p < y ∧ y ≤ 10 + z
    · rw [if_neg (by omega), if_pos q1, if_pos (by omega)]
    · rw [if_neg q1, if_neg (c := 10 + (p - 1) < y ∧ y ≤ 10 + z) (by omega)]
      by_cases q2 : 218 + 200 * p ≤ y ∧ y < 218 + 200 * (p + 1)
      · have e : (y - 218) / 200 = p := by omega
        rw [e]
        by_cases q3 : y < 218 + 200 * p + g (9 + p)
        · rw [if_pos ⟨q2.1, q3⟩, if_pos ⟨by omega, by omega, by omega⟩]
        · rw [if_neg (by omega), if_neg (by omega), if_neg (by omega)]
      · rw [if_neg (by omega)]
        by_cases q3 : 218 + 200 * (p + 1) ≤ y ∧ y < 218 + 200 * (z + 1) ∧ (y - 218) % 200 < g (9 + (y - 218) / 200)
        · rw [if_pos q3, if_pos ⟨by omega, q3.2⟩]
        · rw [if_neg q3, if_neg (fun w => q3 ⟨by omega, w.2⟩)]
def clD (g : Int → Int) (m : Int) : Int → Int := wu (vCol2 (vCol1 g) (g 3 - fuA g)) 10 m
theorem clD_at {g : Int → Int} {m x : Int} (r : 0 ≤ g 3 ∧ g 3 ≤ g 5 ∧ 1 ≤ g 5 ∧ g 5 ≤ 8) (h : (18 ≤ x ∧ x < 218) ∨ (0 ≤ x ∧ x < 3) ∨ (4 ≤ x ∧ x < 9)) : clD g m x = g x := by
  have z := fuA_z r
  unfold clD vCol2
  rw [wu_n (by omega)]
  show (if 10 < x ∧ x ≤ 10 + (g 3 - fuA g) then _ else if _ then _ else vCol1 g x) = _
  rw [if_neg (by omega), if_neg (by omega)]
  unfold vCol1
  rw [wu_n (by omega), wu_n (by omega)]
def ckK (g : Int → Int) (i m k : Int) : Int → Int := fun x => if 218 ≤ x ∧ x < 218 + (k - i) then g (18 + i + (x - 218)) else clD g m x
theorem ckK_0 {g : Int → Int} {i m : Int} : ckK g i m i = clD g m := by funext y; unfold ckK; rw [if_neg (by omega)]
theorem ckK_s {g : Int → Int} {i m k : Int} (h : 0 ≤ i ∧ i ≤ k) : wu (ckK g i m k) (218 + k - i) (g (18 + k)) = ckK g i m (k + 1) := (by funext y; unfold ckK wu; (try dsimp only); (repeat' split) <;> first | rfl | (exfalso; omega) | (congr 1; omega) | omega)
theorem vCol_at {g : Int → Int} {i j x : Int} (r : 0 ≤ g 3 ∧ g 3 ≤ g 5 ∧ 1 ≤ g 5 ∧ g 5 ≤ 8) (h : (18 ≤ x ∧ x < 218) ∨ (0 ≤ x ∧ x < 3) ∨ (5 ≤ x ∧ x < 9)) : vCol i j g x = g x := by
  unfold vCol
  rw [wu_n (by omega)]
  show (if 218 ≤ x ∧ x < 218 + (j - i) then _ else clD g (j - i) x) = _
  rw [if_neg (by omega), clD_at r (by omega)]
set_option maxRecDepth 100000 in
set_option maxHeartbeats 4000000 in
theorem m_X8_collects (l : Launch) {L : List Nat} {F : Nat → PE} {x a : Nat} {g : Int → Int} {kd i j : Int} (t : ms L F x a g kd) (r : 0 ≤ g 0 ∧ g 0 ≤ 200 ∧ 0 ≤ g 3 ∧ g 3 ≤ g 5 ∧ 1 ≤ g 5 ∧ g 5 ≤ 8) (hh : ∀ i, 0 ≤ i → i < g 3 → 1 ≤ g (10 + i) ∧ g (10 + i) ≤ 200) (hi : 0 ≤ i ∧ i ≤ j ∧ j ≤ g 0) : PM l yX8_collects cX8_collects 6 none (rm 2 0 0) L [.ref x, .int (iI i), .int (iI j)] F (fun v9 L1 F1 => v9 = none ∧ L = L1 ∧ F1 a = eI 0 18180 (vCol i j g) ∧ ∀ b, b ≠ a → F1 b = F b) (fun _ _ _ => False) := by
  refine pm_of cd_X8_collects (by decide +kernel) (Nat.le_of_ble_eq_true rfl) (fun ZZ hZ => ?_)
  have hgo : ZZ 0 0 0 [some (.ref x), some (.int (iI i)), some (.int (iI j)), none, none, none] [] L F := by
    have r8 : 0 ≤ g 3 ∧ g 3 ≤ g 5 ∧ 1 ≤ g 5 ∧ g 5 ≤ 8 := by omega
    have rz := fuA_z r8
    have cd : ∀ y, clD g (j - i) y = wu (vCol2 (vCol1 g) (g 3 - fuA g)) 10 (j - i) y := fun _ => rfl
    have l3 : ∀ (m : Nat) (k : Int) (G : Nat → PE) (o : Option Value), (j - k).toNat = m → i ≤ k → k ≤ j → ms L G x a (ckK g i (j - i) k) kd → fa a F G → ZZ 0 0 176 [some (.ref x), some (.int (iI i)), some (.int (iI j)), some (.int (iI (fuA g))), some (.int (iI k)), o] [] L G := by
      intro m
      induction m with
      | zero =>
        intro k G o hm k0 k1 t fr
        obtain ⟨⟨hx, ha, hxa⟩, ⟨w1, w2, w3, w5, w6, w7, w8, w9, hF⟩, hg⟩ := id t
        have e : k = j := by omega
        subst e
        refine z_iload4 hZ dX8_collects_176 ?_
        refine z_iload_n2 hZ dX8_collects_178 ?_
        refine z_icmp_ge hZ (tgt := 207) dX8_collects_179 rfl (by omega) (fun hc179 => ?_) (fun hc179 => ?_)
        · refine z_aload_n0 hZ dX8_collects_207 ?_
          refine z_gf_X8_s hZ dX8_collects_208 fl_X8_7 (by assumption) (by assumption) ?_
          refine z_iconst hZ dX8_collects_211 ?_
          refine z_iconst hZ dX8_collects_212 ?_
          refine z_iastore hZ dX8_collects_213 (by assumption) (by assumption) (by omega) (fun F213 hF213 hf213 => ?_)
          have hF := (hf213 x hxa).trans hF
          have hg := hF213
          have t := t.mv hF213 hf213
          have fr := fa.tr fr hf213
          exact z_vret hZ rfl (Nat.le_of_ble_eq_true rfl) (Nat.le_of_ble_eq_true rfl) dX8_collects_214 (by exact ⟨rfl, rfl, hg, fr⟩)
        · exfalso; omega
      | succ m ih =>
        intro k G o hm k0 k1 t fr
        obtain ⟨⟨hx, ha, hxa⟩, ⟨w1, w2, w3, w5, w6, w7, w8, w9, hF⟩, hg⟩ := id t
        have ek : ckK g i (j - i) k (18 + k) = g (18 + k) := (if_neg (by omega)).trans (clD_at r8 (by omega))
        refine z_iload4 hZ dX8_collects_176 ?_
        refine z_iload_n2 hZ dX8_collects_178 ?_
        refine z_icmp_ge hZ (tgt := 207) dX8_collects_179 rfl (by omega) (fun hc179 => ?_) (fun hc179 => ?_)
        · exfalso; omega
        · refine z_aload_n0 hZ dX8_collects_182 ?_
          refine z_gf_X8_s hZ dX8_collects_183 fl_X8_7 (by assumption) (by assumption) ?_
          refine z_sipush hZ dX8_collects_186 rfl ?_
          refine z_iload4 hZ dX8_collects_189 ?_
          refine z_iadd hZ dX8_collects_191 ?_
          refine z_iload_n1 hZ dX8_collects_192 ?_
          refine z_isub hZ dX8_collects_193 ?_
          refine z_aload_n0 hZ dX8_collects_194 ?_
          refine z_iload4 hZ dX8_collects_195 ?_
          refine z_cV hZ (As := [_]) rfl dX8_collects_197 ml_X8_36 wy_X8_code (m_X8_code l t (by omega)) (by assumption) (by assumption) rfl ⟨Nat.le_of_ble_eq_true rfl, Nat.le_of_ble_eq_true rfl⟩ ⟨Nat.le_of_ble_eq_true rfl, Nat.le_of_ble_eq_true rfl⟩ (Nat.le_of_ble_eq_true rfl) (fun _ _ _ h => h.elim) (fun v197 L197 G197 hp197 => ?_)
          obtain ⟨rfl, rfl, rfl⟩ := hp197
          rw [ek]
          refine z_iastore hZ dX8_collects_200 (by assumption) (by assumption) (by omega) (fun F200 hF200 hf200 => ?_)
          have hF := (hf200 x hxa).trans hF
          have hg := hF200
          have t := t.mv hF200 hf200
          have fr := fa.tr fr hf200
          refine z_iinc4 hZ dX8_collects_201 (by decide) rfl ?_
          refine z_goto hZ (tgt := 176) dX8_collects_204 rfl ?_
          rw [ckK_s (by omega)] at t
          exact ih (k + 1) _ _ (by omega) (by omega) (by omega) t fr
    have l2 : ∀ (m : Nat) (k p : Int) (G : Nat → PE), (g (9 + p) - k).toNat = m → 1 ≤ p → p ≤ g 3 - fuA g → 0 ≤ k → k ≤ g (9 + p) → 1 ≤ g (9 + p) → g (9 + p) ≤ 200 → ms L G x a (ciK (vCol1 g) (g 3 - fuA g) p k) kd → fa a F G →
        (∀ (G1 : Nat → PE) (o : Option Value), ms L G1 x a (coK (vCol1 g) (g 3 - fuA g) (p + -1)) kd → fa a F G1 → ZZ 0 0 68 [some (.ref x), some (.int (iI i)), some (.int (iI j)), some (.int (iI (fuA g))), some (.int (iI (p + -1))), o] [] L G1) →
        ZZ 0 0 98 [some (.ref x), some (.int (iI i)), some (.int (iI j)), some (.int (iI (fuA g))), some (.int (iI p)), some (.int (iI k))] [] L G := by
      intro m
      induction m with
      | zero =>
        intro k p G hm p0 p1 k0 k1 b0 b1 t fr out
        obtain ⟨⟨hx, ha, hxa⟩, ⟨w1, w2, w3, w5, w6, w7, w8, w9, hF⟩, hg⟩ := id t
        have e9 : vCol1 g (9 + p) = g (9 + p) := by unfold vCol1; rw [wu_n (by omega), wu_n (by omega)]
        refine z_iload5 hZ dX8_collects_98 ?_
        refine z_aload_n0 hZ dX8_collects_100 ?_
        refine z_gf_X8_s hZ dX8_collects_101 fl_X8_7 (by assumption) (by assumption) ?_
        refine z_bipush hZ dX8_collects_104 rfl ?_
        refine z_iload4 hZ dX8_collects_106 ?_
        refine z_iadd hZ dX8_collects_108 ?_
        refine z_iald hZ dX8_collects_109 (by assumption) (by assumption) (by omega) (by exact (if_pos rfl).trans e9) ?_
        refine z_icmp_ge hZ (tgt := 157) dX8_collects_110 rfl (by omega) (fun hc110 => ?_) (fun hc110 => ?_)
        · refine z_iinc4 hZ dX8_collects_157 (by decide) rfl ?_
          refine z_goto hZ (tgt := 68) dX8_collects_160 rfl ?_
          refine out _ _ ?_ fr
          have e : k = vCol1 g (9 + p) := by omega
          rw [e, ciK_e (by omega) (by omega)] at t
          exact t
        · exfalso; omega
      | succ m ih =>
        intro k p G hm p0 p1 k0 k1 b0 b1 t fr out
        obtain ⟨⟨hx, ha, hxa⟩, ⟨w1, w2, w3, w5, w6, w7, w8, w9, hF⟩, hg⟩ := id t
        have e9 : vCol1 g (9 + p) = g (9 + p) := by unfold vCol1; rw [wu_n (by omega), wu_n (by omega)]
        refine z_iload5 hZ dX8_collects_98 ?_
        refine z_aload_n0 hZ dX8_collects_100 ?_
        refine z_gf_X8_s hZ dX8_collects_101 fl_X8_7 (by assumption) (by assumption) ?_
        refine z_bipush hZ dX8_collects_104 rfl ?_
        refine z_iload4 hZ dX8_collects_106 ?_
        refine z_iadd hZ dX8_collects_108 ?_
        refine z_iald hZ dX8_collects_109 (by assumption) (by assumption) (by omega) (by exact (if_pos rfl).trans e9) ?_
        refine z_icmp_ge hZ (tgt := 157) dX8_collects_110 rfl (by omega) (fun hc110 => ?_) (fun hc110 => ?_)
        · exfalso; omega
        · refine z_aload_n0 hZ dX8_collects_113 ?_
          refine z_gf_X8_s hZ dX8_collects_114 fl_X8_7 (by assumption) (by assumption) ?_
          refine z_sipush hZ dX8_collects_117 rfl ?_
          refine z_sipush hZ dX8_collects_120 rfl ?_
          refine z_iload4 hZ dX8_collects_123 ?_
          refine z_imul hZ dX8_collects_125 ?_
          refine z_iadd hZ dX8_collects_126 ?_
          refine z_iload5 hZ dX8_collects_127 ?_
          refine z_iadd hZ dX8_collects_129 ?_
          refine z_aload_n0 hZ dX8_collects_130 ?_
          refine z_gf_X8_s hZ dX8_collects_131 fl_X8_7 (by assumption) (by assumption) ?_
          refine z_sipush hZ dX8_collects_134 rfl ?_
          refine z_sipush hZ dX8_collects_137 rfl ?_
          refine z_iload4 hZ dX8_collects_140 ?_
          refine z_iconst hZ dX8_collects_142 ?_
          refine z_isub hZ dX8_collects_143 ?_
          refine z_imul hZ dX8_collects_144 ?_
          refine z_iadd hZ dX8_collects_145 ?_
          refine z_iload5 hZ dX8_collects_146 ?_
          refine z_iadd hZ dX8_collects_148 ?_
          refine z_iald hZ dX8_collects_149 (by assumption) (by assumption) (by omega) (by exact (if_neg (by omega)).trans ((if_neg (by omega)).trans ((if_neg (by omega)).trans (if_neg (by omega))))) ?_
          refine z_iastore hZ dX8_collects_150 (by assumption) (by assumption) (by omega) (fun F150 hF150 hf150 => ?_)
          have hF := (hf150 x hxa).trans hF
          have hg := hF150
          have t := t.mv hF150 hf150
          have fr := fa.tr fr hf150
          refine z_iinc5 hZ dX8_collects_151 (by decide) rfl ?_
          refine z_goto hZ (tgt := 98) dX8_collects_154 rfl ?_
          rw [ciK_s (by omega)] at t
          exact ih (k + 1) p _ (by omega) p0 p1 (by omega) (by omega) b0 b1 t fr out
    have l1 : ∀ (m : Nat) (p : Int) (G : Nat → PE) (o : Option Value), p.toNat = m → 0 ≤ p → p ≤ g 3 - fuA g → ms L G x a (coK (vCol1 g) (g 3 - fuA g) p) kd → fa a F G → ZZ 0 0 68 [some (.ref x), some (.int (iI i)), some (.int (iI j)), some (.int (iI (fuA g))), some (.int (iI p)), o] [] L G := by
      intro m
      induction m with
      | zero =>
        intro p G o hm p0 p1 t fr
        have e : p = 0 := by omega
        subst e
        rw [coK_0] at t
        obtain ⟨⟨hx, ha, hxa⟩, ⟨w1, w2, w3, w5, w6, w7, w8, w9, hF⟩, hg⟩ := id t
        refine z_iload4 hZ dX8_collects_68 ?_
        refine z_if_le hZ (tgt := 163) dX8_collects_70 rfl (by omega) (fun hc70 => ?_) (fun hc70 => ?_)
        · refine z_aload_n0 hZ dX8_collects_163 ?_
          refine z_gf_X8_s hZ dX8_collects_164 fl_X8_7 (by assumption) (by assumption) ?_
          refine z_bipush hZ dX8_collects_167 rfl ?_
          refine z_iload_n2 hZ dX8_collects_169 ?_
          refine z_iload_n1 hZ dX8_collects_170 ?_
          refine z_isub hZ dX8_collects_171 ?_
          refine z_iastore hZ dX8_collects_172 (by assumption) (by assumption) (by omega) (fun F172 hF172 hf172 => ?_)
          have hF := (hf172 x hxa).trans hF
          have hg := hF172
          have t := t.mv hF172 hf172
          have fr := fa.tr fr hf172
          refine z_iload_n1 hZ dX8_collects_173 ?_
          refine z_istore4 hZ dX8_collects_174 (by decide) rfl ?_
          exact l3 _ i _ _ rfl (by omega) (by omega) (by rw [ckK_0]; exact t) fr
        · exfalso; omega
      | succ m ih =>
        intro p G o hm p0 p1 t fr
        obtain ⟨⟨hx, ha, hxa⟩, ⟨w1, w2, w3, w5, w6, w7, w8, w9, hF⟩, hg⟩ := id t
        have b9 := hh (p - 1) (by omega) (by omega)
        rw [show 10 + (p - 1) = 9 + p by omega] at b9
        have e9 : coK (vCol1 g) (g 3 - fuA g) p (10 + p - 1) = vCol1 g (9 + p) := by
          unfold coK
          rw [if_neg (by omega), if_neg (by omega)]
          congr 1; omega
        refine z_iload4 hZ dX8_collects_68 ?_
        refine z_if_le hZ (tgt := 163) dX8_collects_70 rfl (by omega) (fun hc70 => ?_) (fun hc70 => ?_)
        · exfalso; omega
        · refine z_aload_n0 hZ dX8_collects_73 ?_
          refine z_gf_X8_s hZ dX8_collects_74 fl_X8_7 (by assumption) (by assumption) ?_
          refine z_bipush hZ dX8_collects_77 rfl ?_
          refine z_iload4 hZ dX8_collects_79 ?_
          refine z_iadd hZ dX8_collects_81 ?_
          refine z_aload_n0 hZ dX8_collects_82 ?_
          refine z_gf_X8_s hZ dX8_collects_83 fl_X8_7 (by assumption) (by assumption) ?_
          refine z_bipush hZ dX8_collects_86 rfl ?_
          refine z_iload4 hZ dX8_collects_88 ?_
          refine z_iadd hZ dX8_collects_90 ?_
          refine z_iconst hZ dX8_collects_91 ?_
          refine z_isub hZ dX8_collects_92 ?_
          refine z_iald hZ dX8_collects_93 (by assumption) (by assumption) (by omega) (by exact e9) ?_
          refine z_iastore hZ dX8_collects_94 (by assumption) (by assumption) (by omega) (fun F94 hF94 hf94 => ?_)
          have hF := (hf94 x hxa).trans hF
          have hg := hF94
          have t := t.mv hF94 hf94
          have fr := fa.tr fr hf94
          refine z_iconst hZ dX8_collects_95 ?_
          refine z_istore5 hZ dX8_collects_96 (by decide) rfl ?_
          rw [ciK_0] at t
          exact l2 _ 0 p _ rfl (by omega) p1 (by omega) (by omega) b9.1 b9.2 t fr (fun G1 o t1 f1 => ih (p + -1) G1 o (by omega) (by omega) (by omega) t1 f1)
    have k58 : ∀ (G : Nat → PE), ms L G x a (vCol1 g) kd → fa a F G → ZZ 0 0 58 [some (.ref x), some (.int (iI i)), some (.int (iI j)), some (.int (iI (fuA g))), none, none] [] L G := by
      intro G t fr
      obtain ⟨⟨hx, ha, hxa⟩, ⟨w1, w2, w3, w5, w6, w7, w8, w9, hF⟩, hg⟩ := id t
      refine z_aload_n0 hZ dX8_collects_58 ?_
      refine z_gf_X8_s hZ dX8_collects_59 fl_X8_7 (by assumption) (by assumption) ?_
      refine z_iconst hZ dX8_collects_62 ?_
      refine z_iald hZ dX8_collects_63 (by assumption) (by assumption) (by omega) (by first | exact (wu_n (by omega)).trans (by first | exact (wu_n (by omega)).trans (by first | exact (wu_n (by omega)).trans (by first | exact (wu_n (by omega)).trans (by first | exact (wu_n (by omega)).trans (by first | exact (wu_n (by omega)).trans (by first | exact if_neg (by omega) | rfl) | exact wu_s | exact wu_e (by omega) | exact if_neg (by omega) | rfl) | exact wu_s | exact wu_e (by omega) | exact if_neg (by omega) | rfl) | exact wu_s | exact wu_e (by omega) | exact if_neg (by omega) | rfl) | exact wu_s | exact wu_e (by omega) | exact if_neg (by omega) | rfl) | exact wu_s | exact wu_e (by omega) | exact if_neg (by omega) | rfl) | exact wu_s | exact wu_e (by omega) | exact if_neg (by omega) | rfl) ?_
      refine z_iconst hZ dX8_collects_64 ?_
      refine z_isub hZ dX8_collects_65 ?_
      refine z_istore4 hZ dX8_collects_66 (by decide) rfl ?_
      rw [show g 3 + (1 - fuA g) - 1 = g 3 - fuA g by omega]
      exact l1 _ _ _ _ rfl (by omega) (by omega) (by rw [coK_z]; exact t) fr
    obtain ⟨⟨hx, ha, hxa⟩, ⟨w1, w2, w3, w5, w6, w7, w8, w9, hF⟩, hg⟩ := id t
    have fr : fa a F F := fa.rf
    refine z_aload_n0 hZ dX8_collects_0 ?_
    refine z_gf_X8_s hZ dX8_collects_1 fl_X8_7 (by assumption) (by assumption) ?_
    refine z_iconst hZ dX8_collects_4 ?_
    refine z_iald hZ dX8_collects_5 (by assumption) (by assumption) (by omega) (by first | exact (wu_n (by omega)).trans (by first | exact (wu_n (by omega)).trans (by first | exact (wu_n (by omega)).trans (by first | exact (wu_n (by omega)).trans (by first | exact (wu_n (by omega)).trans (by first | exact (wu_n (by omega)).trans (by first | exact if_neg (by omega) | rfl) | exact wu_s | exact wu_e (by omega) | exact if_neg (by omega) | rfl) | exact wu_s | exact wu_e (by omega) | exact if_neg (by omega) | rfl) | exact wu_s | exact wu_e (by omega) | exact if_neg (by omega) | rfl) | exact wu_s | exact wu_e (by omega) | exact if_neg (by omega) | rfl) | exact wu_s | exact wu_e (by omega) | exact if_neg (by omega) | rfl) | exact wu_s | exact wu_e (by omega) | exact if_neg (by omega) | rfl) ?_
    refine z_aload_n0 hZ dX8_collects_6 ?_
    refine z_gf_X8_s hZ dX8_collects_7 fl_X8_7 (by assumption) (by assumption) ?_
    refine z_iconst hZ dX8_collects_10 ?_
    refine z_iald hZ dX8_collects_11 (by assumption) (by assumption) (by omega) (by first | exact (wu_n (by omega)).trans (by first | exact (wu_n (by omega)).trans (by first | exact (wu_n (by omega)).trans (by first | exact (wu_n (by omega)).trans (by first | exact (wu_n (by omega)).trans (by first | exact (wu_n (by omega)).trans (by first | exact if_neg (by omega) | rfl) | exact wu_s | exact wu_e (by omega) | exact if_neg (by omega) | rfl) | exact wu_s | exact wu_e (by omega) | exact if_neg (by omega) | rfl) | exact wu_s | exact wu_e (by omega) | exact if_neg (by omega) | rfl) | exact wu_s | exact wu_e (by omega) | exact if_neg (by omega) | rfl) | exact wu_s | exact wu_e (by omega) | exact if_neg (by omega) | rfl) | exact wu_s | exact wu_e (by omega) | exact if_neg (by omega) | rfl) ?_
    refine z_icmp_ne hZ (tgt := 19) dX8_collects_12 rfl (by omega) (fun hc12 => ?_) (fun hc12 => ?_)
    · have ef : fuA g = 0 := if_neg (by omega)
      refine z_iconst hZ dX8_collects_19 ?_
      refine z_istore_n3 hZ dX8_collects_20 (by decide) rfl ?_
      refine z_aload_n0 hZ dX8_collects_21 ?_
      refine z_gf_X8_s hZ dX8_collects_22 fl_X8_7 (by assumption) (by assumption) ?_
      refine z_iconst hZ dX8_collects_25 ?_
      refine z_dup2 hZ dX8_collects_26 rfl rfl ?_
      refine z_iald hZ dX8_collects_27 (by assumption) (by assumption) (by omega) (by first | exact (wu_n (by omega)).trans (by first | exact (wu_n (by omega)).trans (by first | exact (wu_n (by omega)).trans (by first | exact (wu_n (by omega)).trans (by first | exact (wu_n (by omega)).trans (by first | exact (wu_n (by omega)).trans (by first | exact if_neg (by omega) | rfl) | exact wu_s | exact wu_e (by omega) | exact if_neg (by omega) | rfl) | exact wu_s | exact wu_e (by omega) | exact if_neg (by omega) | rfl) | exact wu_s | exact wu_e (by omega) | exact if_neg (by omega) | rfl) | exact wu_s | exact wu_e (by omega) | exact if_neg (by omega) | rfl) | exact wu_s | exact wu_e (by omega) | exact if_neg (by omega) | rfl) | exact wu_s | exact wu_e (by omega) | exact if_neg (by omega) | rfl) ?_
      refine z_iload_n3 hZ dX8_collects_28 ?_
      refine z_if_eq hZ (tgt := 36) dX8_collects_29 rfl (by omega) (fun hc29 => ?_) (fun hc29 => ?_)
      · refine z_iconst hZ dX8_collects_36 ?_
        refine z_iadd hZ dX8_collects_37 ?_
        refine z_iastore hZ dX8_collects_38 (by assumption) (by assumption) (by omega) (fun F38 hF38 hf38 => ?_)
        have hF := (hf38 x hxa).trans hF
        have hg := hF38
        have t := t.mv hF38 hf38
        have fr := fa.tr fr hf38
        refine z_aload_n0 hZ dX8_collects_39 ?_
        refine z_gf_X8_s hZ dX8_collects_40 fl_X8_7 (by assumption) (by assumption) ?_
        refine z_bipush hZ dX8_collects_43 rfl ?_
        refine z_dup2 hZ dX8_collects_45 rfl rfl ?_
        refine z_iald hZ dX8_collects_46 (by assumption) (by assumption) (by omega) (by first | exact (wu_n (by omega)).trans (by first | exact (wu_n (by omega)).trans (by first | exact (wu_n (by omega)).trans (by first | exact (wu_n (by omega)).trans (by first | exact (wu_n (by omega)).trans (by first | exact (wu_n (by omega)).trans (by first | exact if_neg (by omega) | rfl) | exact wu_s | exact wu_e (by omega) | exact if_neg (by omega) | rfl) | exact wu_s | exact wu_e (by omega) | exact if_neg (by omega) | rfl) | exact wu_s | exact wu_e (by omega) | exact if_neg (by omega) | rfl) | exact wu_s | exact wu_e (by omega) | exact if_neg (by omega) | rfl) | exact wu_s | exact wu_e (by omega) | exact if_neg (by omega) | rfl) | exact wu_s | exact wu_e (by omega) | exact if_neg (by omega) | rfl) ?_
        refine z_iload_n3 hZ dX8_collects_47 ?_
        refine z_if_eq hZ (tgt := 55) dX8_collects_48 rfl (by omega) (fun hc48 => ?_) (fun hc48 => ?_)
        · refine z_iconst hZ dX8_collects_55 ?_
          refine z_iadd hZ dX8_collects_56 ?_
          refine z_iastore hZ dX8_collects_57 (by assumption) (by assumption) (by omega) (fun F57 hF57 hf57 => ?_)
          have hF := (hf57 x hxa).trans hF
          have hg := hF57
          have t := t.mv hF57 hf57
          have fr := fa.tr fr hf57
          first
            | (exfalso; omega)
            | (have z := k58 _ (by rw [show vCol1 g = wu (wu g 3 (g 3 + 0)) 9 (g 9 + 1) from by unfold vCol1; rw [ef]; first | done | rfl]; exact t) fr; rw [ef] at z; exact z)
            | (have z := k58 _ (by rw [show vCol1 g = wu (wu g 3 (g 3 + 1)) 9 (g 9 + 0) from by unfold vCol1; rw [ef]; first | done | rfl]; exact t) fr; rw [ef] at z; exact z)
        · refine z_iconst hZ dX8_collects_51 ?_
          refine z_goto hZ (tgt := 56) dX8_collects_52 rfl ?_
          refine z_iadd hZ dX8_collects_56 ?_
          refine z_iastore hZ dX8_collects_57 (by assumption) (by assumption) (by omega) (fun F57 hF57 hf57 => ?_)
          have hF := (hf57 x hxa).trans hF
          have hg := hF57
          have t := t.mv hF57 hf57
          have fr := fa.tr fr hf57
          first
            | (exfalso; omega)
            | (have z := k58 _ (by rw [show vCol1 g = wu (wu g 3 (g 3 + 0)) 9 (g 9 + 1) from by unfold vCol1; rw [ef]; first | done | rfl]; exact t) fr; rw [ef] at z; exact z)
            | (have z := k58 _ (by rw [show vCol1 g = wu (wu g 3 (g 3 + 1)) 9 (g 9 + 0) from by unfold vCol1; rw [ef]; first | done | rfl]; exact t) fr; rw [ef] at z; exact z)
      · refine z_iconst hZ dX8_collects_32 ?_
        refine z_goto hZ (tgt := 37) dX8_collects_33 rfl ?_
        refine z_iadd hZ dX8_collects_37 ?_
        refine z_iastore hZ dX8_collects_38 (by assumption) (by assumption) (by omega) (fun F38 hF38 hf38 => ?_)
        have hF := (hf38 x hxa).trans hF
        have hg := hF38
        have t := t.mv hF38 hf38
        have fr := fa.tr fr hf38
        refine z_aload_n0 hZ dX8_collects_39 ?_
        refine z_gf_X8_s hZ dX8_collects_40 fl_X8_7 (by assumption) (by assumption) ?_
        refine z_bipush hZ dX8_collects_43 rfl ?_
        refine z_dup2 hZ dX8_collects_45 rfl rfl ?_
        refine z_iald hZ dX8_collects_46 (by assumption) (by assumption) (by omega) (by first | exact (wu_n (by omega)).trans (by first | exact (wu_n (by omega)).trans (by first | exact (wu_n (by omega)).trans (by first | exact (wu_n (by omega)).trans (by first | exact (wu_n (by omega)).trans (by first | exact (wu_n (by omega)).trans (by first | exact if_neg (by omega) | rfl) | exact wu_s | exact wu_e (by omega) | exact if_neg (by omega) | rfl) | exact wu_s | exact wu_e (by omega) | exact if_neg (by omega) | rfl) | exact wu_s | exact wu_e (by omega) | exact if_neg (by omega) | rfl) | exact wu_s | exact wu_e (by omega) | exact if_neg (by omega) | rfl) | exact wu_s | exact wu_e (by omega) | exact if_neg (by omega) | rfl) | exact wu_s | exact wu_e (by omega) | exact if_neg (by omega) | rfl) ?_
        refine z_iload_n3 hZ dX8_collects_47 ?_
        refine z_if_eq hZ (tgt := 55) dX8_collects_48 rfl (by omega) (fun hc48 => ?_) (fun hc48 => ?_)
        · refine z_iconst hZ dX8_collects_55 ?_
          refine z_iadd hZ dX8_collects_56 ?_
          refine z_iastore hZ dX8_collects_57 (by assumption) (by assumption) (by omega) (fun F57 hF57 hf57 => ?_)
          have hF := (hf57 x hxa).trans hF
          have hg := hF57
          have t := t.mv hF57 hf57
          have fr := fa.tr fr hf57
          first
            | (exfalso; omega)
            | (have z := k58 _ (by rw [show vCol1 g = wu (wu g 3 (g 3 + 0)) 9 (g 9 + 1) from by unfold vCol1; rw [ef]; first | done | rfl]; exact t) fr; rw [ef] at z; exact z)
            | (have z := k58 _ (by rw [show vCol1 g = wu (wu g 3 (g 3 + 1)) 9 (g 9 + 0) from by unfold vCol1; rw [ef]; first | done | rfl]; exact t) fr; rw [ef] at z; exact z)
        · refine z_iconst hZ dX8_collects_51 ?_
          refine z_goto hZ (tgt := 56) dX8_collects_52 rfl ?_
          refine z_iadd hZ dX8_collects_56 ?_
          refine z_iastore hZ dX8_collects_57 (by assumption) (by assumption) (by omega) (fun F57 hF57 hf57 => ?_)
          have hF := (hf57 x hxa).trans hF
          have hg := hF57
          have t := t.mv hF57 hf57
          have fr := fa.tr fr hf57
          first
            | (exfalso; omega)
            | (have z := k58 _ (by rw [show vCol1 g = wu (wu g 3 (g 3 + 0)) 9 (g 9 + 1) from by unfold vCol1; rw [ef]; first | done | rfl]; exact t) fr; rw [ef] at z; exact z)
            | (have z := k58 _ (by rw [show vCol1 g = wu (wu g 3 (g 3 + 1)) 9 (g 9 + 0) from by unfold vCol1; rw [ef]; first | done | rfl]; exact t) fr; rw [ef] at z; exact z)
    · have ef : fuA g = 1 := if_pos (by omega)
      refine z_iconst hZ dX8_collects_15 ?_
      refine z_goto hZ (tgt := 20) dX8_collects_16 rfl ?_
      refine z_istore_n3 hZ dX8_collects_20 (by decide) rfl ?_
      refine z_aload_n0 hZ dX8_collects_21 ?_
      refine z_gf_X8_s hZ dX8_collects_22 fl_X8_7 (by assumption) (by assumption) ?_
      refine z_iconst hZ dX8_collects_25 ?_
      refine z_dup2 hZ dX8_collects_26 rfl rfl ?_
      refine z_iald hZ dX8_collects_27 (by assumption) (by assumption) (by omega) (by first | exact (wu_n (by omega)).trans (by first | exact (wu_n (by omega)).trans (by first | exact (wu_n (by omega)).trans (by first | exact (wu_n (by omega)).trans (by first | exact (wu_n (by omega)).trans (by first | exact (wu_n (by omega)).trans (by first | exact if_neg (by omega) | rfl) | exact wu_s | exact wu_e (by omega) | exact if_neg (by omega) | rfl) | exact wu_s | exact wu_e (by omega) | exact if_neg (by omega) | rfl) | exact wu_s | exact wu_e (by omega) | exact if_neg (by omega) | rfl) | exact wu_s | exact wu_e (by omega) | exact if_neg (by omega) | rfl) | exact wu_s | exact wu_e (by omega) | exact if_neg (by omega) | rfl) | exact wu_s | exact wu_e (by omega) | exact if_neg (by omega) | rfl) ?_
      refine z_iload_n3 hZ dX8_collects_28 ?_
      refine z_if_eq hZ (tgt := 36) dX8_collects_29 rfl (by omega) (fun hc29 => ?_) (fun hc29 => ?_)
      · refine z_iconst hZ dX8_collects_36 ?_
        refine z_iadd hZ dX8_collects_37 ?_
        refine z_iastore hZ dX8_collects_38 (by assumption) (by assumption) (by omega) (fun F38 hF38 hf38 => ?_)
        have hF := (hf38 x hxa).trans hF
        have hg := hF38
        have t := t.mv hF38 hf38
        have fr := fa.tr fr hf38
        refine z_aload_n0 hZ dX8_collects_39 ?_
        refine z_gf_X8_s hZ dX8_collects_40 fl_X8_7 (by assumption) (by assumption) ?_
        refine z_bipush hZ dX8_collects_43 rfl ?_
        refine z_dup2 hZ dX8_collects_45 rfl rfl ?_
        refine z_iald hZ dX8_collects_46 (by assumption) (by assumption) (by omega) (by first | exact (wu_n (by omega)).trans (by first | exact (wu_n (by omega)).trans (by first | exact (wu_n (by omega)).trans (by first | exact (wu_n (by omega)).trans (by first | exact (wu_n (by omega)).trans (by first | exact (wu_n (by omega)).trans (by first | exact if_neg (by omega) | rfl) | exact wu_s | exact wu_e (by omega) | exact if_neg (by omega) | rfl) | exact wu_s | exact wu_e (by omega) | exact if_neg (by omega) | rfl) | exact wu_s | exact wu_e (by omega) | exact if_neg (by omega) | rfl) | exact wu_s | exact wu_e (by omega) | exact if_neg (by omega) | rfl) | exact wu_s | exact wu_e (by omega) | exact if_neg (by omega) | rfl) | exact wu_s | exact wu_e (by omega) | exact if_neg (by omega) | rfl) ?_
        refine z_iload_n3 hZ dX8_collects_47 ?_
        refine z_if_eq hZ (tgt := 55) dX8_collects_48 rfl (by omega) (fun hc48 => ?_) (fun hc48 => ?_)
        · refine z_iconst hZ dX8_collects_55 ?_
          refine z_iadd hZ dX8_collects_56 ?_
          refine z_iastore hZ dX8_collects_57 (by assumption) (by assumption) (by omega) (fun F57 hF57 hf57 => ?_)
          have hF := (hf57 x hxa).trans hF
          have hg := hF57
          have t := t.mv hF57 hf57
          have fr := fa.tr fr hf57
          first
            | (exfalso; omega)
            | (have z := k58 _ (by rw [show vCol1 g = wu (wu g 3 (g 3 + 0)) 9 (g 9 + 1) from by unfold vCol1; rw [ef]; first | done | rfl]; exact t) fr; rw [ef] at z; exact z)
            | (have z := k58 _ (by rw [show vCol1 g = wu (wu g 3 (g 3 + 1)) 9 (g 9 + 0) from by unfold vCol1; rw [ef]; first | done | rfl]; exact t) fr; rw [ef] at z; exact z)
        · refine z_iconst hZ dX8_collects_51 ?_
          refine z_goto hZ (tgt := 56) dX8_collects_52 rfl ?_
          refine z_iadd hZ dX8_collects_56 ?_
          refine z_iastore hZ dX8_collects_57 (by assumption) (by assumption) (by omega) (fun F57 hF57 hf57 => ?_)
          have hF := (hf57 x hxa).trans hF
          have hg := hF57
          have t := t.mv hF57 hf57
          have fr := fa.tr fr hf57
          first
            | (exfalso; omega)
            | (have z := k58 _ (by rw [show vCol1 g = wu (wu g 3 (g 3 + 0)) 9 (g 9 + 1) from by unfold vCol1; rw [ef]; first | done | rfl]; exact t) fr; rw [ef] at z; exact z)
            | (have z := k58 _ (by rw [show vCol1 g = wu (wu g 3 (g 3 + 1)) 9 (g 9 + 0) from by unfold vCol1; rw [ef]; first | done | rfl]; exact t) fr; rw [ef] at z; exact z)
      · refine z_iconst hZ dX8_collects_32 ?_
        refine z_goto hZ (tgt := 37) dX8_collects_33 rfl ?_
        refine z_iadd hZ dX8_collects_37 ?_
        refine z_iastore hZ dX8_collects_38 (by assumption) (by assumption) (by omega) (fun F38 hF38 hf38 => ?_)
        have hF := (hf38 x hxa).trans hF
        have hg := hF38
        have t := t.mv hF38 hf38
        have fr := fa.tr fr hf38
        refine z_aload_n0 hZ dX8_collects_39 ?_
        refine z_gf_X8_s hZ dX8_collects_40 fl_X8_7 (by assumption) (by assumption) ?_
        refine z_bipush hZ dX8_collects_43 rfl ?_
        refine z_dup2 hZ dX8_collects_45 rfl rfl ?_
        refine z_iald hZ dX8_collects_46 (by assumption) (by assumption) (by omega) (by first | exact (wu_n (by omega)).trans (by first | exact (wu_n (by omega)).trans (by first | exact (wu_n (by omega)).trans (by first | exact (wu_n (by omega)).trans (by first | exact (wu_n (by omega)).trans (by first | exact (wu_n (by omega)).trans (by first | exact if_neg (by omega) | rfl) | exact wu_s | exact wu_e (by omega) | exact if_neg (by omega) | rfl) | exact wu_s | exact wu_e (by omega) | exact if_neg (by omega) | rfl) | exact wu_s | exact wu_e (by omega) | exact if_neg (by omega) | rfl) | exact wu_s | exact wu_e (by omega) | exact if_neg (by omega) | rfl) | exact wu_s | exact wu_e (by omega) | exact if_neg (by omega) | rfl) | exact wu_s | exact wu_e (by omega) | exact if_neg (by omega) | rfl) ?_
        refine z_iload_n3 hZ dX8_collects_47 ?_
        refine z_if_eq hZ (tgt := 55) dX8_collects_48 rfl (by omega) (fun hc48 => ?_) (fun hc48 => ?_)
        · refine z_iconst hZ dX8_collects_55 ?_
          refine z_iadd hZ dX8_collects_56 ?_
          refine z_iastore hZ dX8_collects_57 (by assumption) (by assumption) (by omega) (fun F57 hF57 hf57 => ?_)
          have hF := (hf57 x hxa).trans hF
          have hg := hF57
          have t := t.mv hF57 hf57
          have fr := fa.tr fr hf57
          first
            | (exfalso; omega)
            | (have z := k58 _ (by rw [show vCol1 g = wu (wu g 3 (g 3 + 0)) 9 (g 9 + 1) from by unfold vCol1; rw [ef]; first | done | rfl]; exact t) fr; rw [ef] at z; exact z)
            | (have z := k58 _ (by rw [show vCol1 g = wu (wu g 3 (g 3 + 1)) 9 (g 9 + 0) from by unfold vCol1; rw [ef]; first | done | rfl]; exact t) fr; rw [ef] at z; exact z)
        · refine z_iconst hZ dX8_collects_51 ?_
          refine z_goto hZ (tgt := 56) dX8_collects_52 rfl ?_
          refine z_iadd hZ dX8_collects_56 ?_
          refine z_iastore hZ dX8_collects_57 (by assumption) (by assumption) (by omega) (fun F57 hF57 hf57 => ?_)
          have hF := (hf57 x hxa).trans hF
          have hg := hF57
          have t := t.mv hF57 hf57
          have fr := fa.tr fr hf57
          first
            | (exfalso; omega)
            | (have z := k58 _ (by rw [show vCol1 g = wu (wu g 3 (g 3 + 0)) 9 (g 9 + 1) from by unfold vCol1; rw [ef]; first | done | rfl]; exact t) fr; rw [ef] at z; exact z)
            | (have z := k58 _ (by rw [show vCol1 g = wu (wu g 3 (g 3 + 1)) 9 (g 9 + 0) from by unfold vCol1; rw [ef]; first | done | rfl]; exact t) fr; rw [ef] at z; exact z)
  exact hgo
/-- the latest hoard grows, ahead: its own characters moved, from the end down to behind k -/
def gaK (g : Int → Int) (m k : Int) : Int → Int := fun x => if 218 + m + (k + 1) ≤ x ∧ x < 218 + m + g 10 then g (x - m) else g x
theorem gaK_0 {g : Int → Int} {m : Int} : gaK g m (g 10 - 1) = g := by funext y; unfold gaK; rw [if_neg (by omega)]
theorem gaK_s {g : Int → Int} {m k : Int} (h : 0 ≤ m ∧ k < g 10) : wu (gaK g m k) (218 + k + m) (g (218 + k)) = gaK g m (k + -1) := (by funext y; unfold gaK wu; (try dsimp only); (repeat' split) <;> first | rfl | (exfalso; omega) | (congr 1; omega) | omega)
def gA1 (g : Int → Int) (m : Int) (B : Prop) [Decidable B] : Int → Int := fun x => if B ∧ 218 + m ≤ x ∧ x < 218 + m + g 10 then g (x - m) else g x
theorem gA1_t {g : Int → Int} {m : Int} {B : Prop} [Decidable B] (h : B) : gaK g m (-1) = gA1 g m B := by
  funext y
  unfold gaK gA1
  rw [show 218 + m + (-1 + 1) = 218 + m by omega]
  by_cases q : 218 + m ≤ y ∧ y < 218 + m + g 10
  · rw [if_pos q, if_pos ⟨h, q⟩]
  · rw [if_neg q, if_neg (fun z => q z.2)]
theorem gA1_f {g : Int → Int} {m : Int} {B : Prop} [Decidable B] (h : ¬ B) : gA1 g m B = g := by
  funext y
  unfold gA1
  rw [if_neg (fun z => h z.1)]
theorem gA1_lo {g : Int → Int} {m x : Int} {B : Prop} [Decidable B] (hm : 0 ≤ m) (h : x < 218) : gA1 g m B x = g x := if_neg (fun z => by have := z.2; omega)
/-- .. and characters of the scroll come, from i up to k, at 218 + o -/
def gkK (g : Int → Int) (i m o k : Int) (B : Prop) [Decidable B] : Int → Int := fun x => if 218 + o ≤ x ∧ x < 218 + o + (k - i) then g (18 + i + (x - 218 - o)) else gA1 g m B x
theorem gkK_0 {g : Int → Int} {i m o : Int} {B : Prop} [Decidable B] : gkK g i m o i B = gA1 g m B := by funext y; unfold gkK; rw [if_neg (by omega)]
theorem gkK_s {g : Int → Int} {i m o k : Int} {B : Prop} [Decidable B] (h : i ≤ k) : wu (gkK g i m o k B) (218 + o + k - i) (g (18 + k)) = gkK g i m o (k + 1) B := by
  funext y
  unfold wu gkK
  by_cases q : y = 218 + o + k - i
  · subst q
    rw [if_pos rfl, if_pos (by omega)]
    congr 1; omega
  · rw [if_neg q]
    by_cases q2 : 218 + o ≤ y ∧ y < 218 + o + (k - i)
    · rw [if_pos q2, if_pos (by omega)]
    · rw [if_neg q2, if_neg (by omega)]
theorem gkK_lo {g : Int → Int} {i m o k x : Int} {B : Prop} [Decidable B] (hm : 0 ≤ m ∧ 0 ≤ o) (h : x < 218) : gkK g i m o k B x = g x := (if_neg (by omega)).trans (gA1_lo hm.1 h)
def gO (g : Int → Int) (B : Prop) [Decidable B] : Int := if B then 0 else g 10
theorem vGrw_at {g : Int → Int} {i j x : Int} {B : Prop} [Decidable B] (hm : i ≤ j ∧ 0 ≤ g 10) (h : x < 218 ∧ x ≠ 10 ∧ x ≠ 4) : vGrw i j B g x = g x := by
  unfold vGrw
  rw [wu_n h.2.2, wu_n h.2.1]
  show (if 218 + (if B then 0 else g 10) ≤ x ∧ _ then _ else gA1 g (j - i) B x) = _
  rw [if_neg (by split <;> omega), gA1_lo (by omega) h.1]
set_option maxRecDepth 100000 in
set_option maxHeartbeats 4000000 in
theorem m_X8_grows (l : Launch) {L : List Nat} {F : Nat → PE} {x a : Nat} {g : Int → Int} {kd i j : Int} {B : Prop} [Decidable B] (t : ms L F x a g kd) (r : 0 ≤ g 0 ∧ g 0 ≤ 200 ∧ 0 ≤ g 10 ∧ g 10 ≤ 200) (hi : 0 ≤ i ∧ i ≤ j ∧ j ≤ g 0) : PM l yX8_grows cX8_grows 6 none (rm 2 0 0) L [.ref x, .int (iI i), .int (iI j), .int (iI (b2 B))] F (fun v9 L1 F1 => v9 = none ∧ L = L1 ∧ F1 a = eI 0 18180 (vGrw i j B g) ∧ ∀ b, b ≠ a → F1 b = F b) (fun _ _ _ => False) := by
  refine pm_of cd_X8_grows (by decide +kernel) (Nat.le_of_ble_eq_true rfl) (fun ZZ hZ => ?_)
  have hgo : ZZ 0 0 0 [some (.ref x), some (.int (iI i)), some (.int (iI j)), some (.int (iI (b2 B))), none, none] [] L F := by
    have ro : 0 ≤ gO g B ∧ gO g B ≤ 200 := by unfold gO; split <;> omega
    have l2 : ∀ (m : Nat) (k : Int) (G : Nat → PE), (j - k).toNat = m → i ≤ k → k ≤ j → ms L G x a (gkK g i (j - i) (gO g B) k B) kd → fa a F G → ZZ 0 0 59 [some (.ref x), some (.int (iI i)), some (.int (iI j)), some (.int (iI (b2 B))), some (.int (iI (j - i))), some (.int (iI k))] [] L G := by
      intro m
      induction m with
      | zero =>
        intro k G hm k0 k1 t fr
        obtain ⟨⟨hx, ha, hxa⟩, ⟨w1, w2, w3, w5, w6, w7, w8, w9, hF⟩, hg⟩ := id t
        have e : k = j := by omega
        subst e
        have e4 : gkK g i (k - i) (gO g B) k B 10 = g 10 := gkK_lo (by omega) (by omega)
        refine z_iload5 hZ dX8_grows_59 ?_
        refine z_iload_n2 hZ dX8_grows_61 ?_
        refine z_icmp_ge hZ (tgt := 106) dX8_grows_62 rfl (by omega) (fun hc62 => ?_) (fun hc62 => ?_)
        · refine z_aload_n0 hZ dX8_grows_106 ?_
          refine z_gf_X8_s hZ dX8_grows_107 fl_X8_7 (by assumption) (by assumption) ?_
          refine z_bipush hZ dX8_grows_110 rfl ?_
          refine z_dup2 hZ dX8_grows_112 rfl rfl ?_
          refine z_iald hZ dX8_grows_113 (by assumption) (by assumption) (by omega) (by exact e4) ?_
          refine z_iload4 hZ dX8_grows_114 ?_
          refine z_iadd hZ dX8_grows_116 ?_
          refine z_iastore hZ dX8_grows_117 (by assumption) (by assumption) (by omega) (fun F117 hF117 hf117 => ?_)
          have hF := (hf117 x hxa).trans hF
          have hg := hF117
          have t := t.mv hF117 hf117
          have fr := fa.tr fr hf117
          refine z_aload_n0 hZ dX8_grows_118 ?_
          refine z_gf_X8_s hZ dX8_grows_119 fl_X8_7 (by assumption) (by assumption) ?_
          refine z_iconst hZ dX8_grows_122 ?_
          refine z_iconst hZ dX8_grows_123 ?_
          refine z_iastore hZ dX8_grows_124 (by assumption) (by assumption) (by omega) (fun F124 hF124 hf124 => ?_)
          have hF := (hf124 x hxa).trans hF
          have hg := hF124
          have t := t.mv hF124 hf124
          have fr := fa.tr fr hf124
          exact z_vret hZ rfl (Nat.le_of_ble_eq_true rfl) (Nat.le_of_ble_eq_true rfl) dX8_grows_125 (by exact ⟨rfl, rfl, hg, fr⟩)
        · exfalso; omega
      | succ m ih =>
        intro k G hm k0 k1 t fr
        obtain ⟨⟨hx, ha, hxa⟩, ⟨w1, w2, w3, w5, w6, w7, w8, w9, hF⟩, hg⟩ := id t
        have ek : gkK g i (j - i) (gO g B) k B (18 + k) = g (18 + k) := gkK_lo (by omega) (by omega)
        have e4 : gkK g i (j - i) (gO g B) k B 10 = g 10 := gkK_lo (by omega) (by omega)
        by_cases hB : B
        · have eo : gO g B = 0 := if_pos hB
          rw [eo] at t ek hg e4
          have es := gkK_s (g := g) (i := i) (m := j - i) (o := 0) (k := k) (B := B) k0
          rw [eo] at ih
          rw [b2_t hB] at ih ⊢
          refine z_iload5 hZ dX8_grows_59 ?_
          refine z_iload_n2 hZ dX8_grows_61 ?_
          refine z_icmp_ge hZ (tgt := 106) dX8_grows_62 rfl (by omega) (fun hc62 => ?_) (fun hc62 => ?_)
          · exfalso; omega
          · refine z_aload_n0 hZ dX8_grows_65 ?_
            refine z_gf_X8_s hZ dX8_grows_66 fl_X8_7 (by assumption) (by assumption) ?_
            refine z_sipush hZ dX8_grows_69 rfl ?_
            refine z_iload_n3 hZ dX8_grows_72 ?_
            refine z_if_eq hZ (tgt := 80) dX8_grows_73 rfl (by omega) (fun hc73 => ?_) (fun hc73 => ?_)
            · exfalso; omega
            · refine z_iconst hZ dX8_grows_76 ?_
              refine z_goto hZ (tgt := 87) dX8_grows_77 rfl ?_
              refine z_iadd hZ dX8_grows_87 ?_
              refine z_iload5 hZ dX8_grows_88 ?_
              refine z_iadd hZ dX8_grows_90 ?_
              refine z_iload_n1 hZ dX8_grows_91 ?_
              refine z_isub hZ dX8_grows_92 ?_
              refine z_aload_n0 hZ dX8_grows_93 ?_
              refine z_iload5 hZ dX8_grows_94 ?_
              refine z_cV hZ (As := [_]) rfl dX8_grows_96 ml_X8_36 wy_X8_code (m_X8_code l t (by omega)) (by assumption) (by assumption) rfl ⟨Nat.le_of_ble_eq_true rfl, Nat.le_of_ble_eq_true rfl⟩ ⟨Nat.le_of_ble_eq_true rfl, Nat.le_of_ble_eq_true rfl⟩ (Nat.le_of_ble_eq_true rfl) (fun _ _ _ h => h.elim) (fun v96 L96 G96 hp96 => ?_)
              obtain ⟨rfl, rfl, rfl⟩ := hp96
              rw [ek]
              refine z_iastore hZ dX8_grows_99 (by assumption) (by assumption) (by omega) (fun F99 hF99 hf99 => ?_)
              have hF := (hf99 x hxa).trans hF
              have hg := hF99
              have t := t.mv hF99 hf99
              have fr := fa.tr fr hf99
              refine z_iinc5 hZ dX8_grows_100 (by decide) rfl ?_
              refine z_goto hZ (tgt := 59) dX8_grows_103 rfl ?_
              rw [es] at t
              exact ih (k + 1) _ (by omega) (by omega) (by omega) t fr
        · have eo : gO g B = g 10 := if_neg hB
          rw [eo] at t ek hg e4
          have es := gkK_s (g := g) (i := i) (m := j - i) (o := g 10) (k := k) (B := B) k0
          rw [eo] at ih
          rw [b2_f hB] at ih ⊢
          refine z_iload5 hZ dX8_grows_59 ?_
          refine z_iload_n2 hZ dX8_grows_61 ?_
          refine z_icmp_ge hZ (tgt := 106) dX8_grows_62 rfl (by omega) (fun hc62 => ?_) (fun hc62 => ?_)
          · exfalso; omega
          · refine z_aload_n0 hZ dX8_grows_65 ?_
            refine z_gf_X8_s hZ dX8_grows_66 fl_X8_7 (by assumption) (by assumption) ?_
            refine z_sipush hZ dX8_grows_69 rfl ?_
            refine z_iload_n3 hZ dX8_grows_72 ?_
            refine z_if_eq hZ (tgt := 80) dX8_grows_73 rfl (by omega) (fun hc73 => ?_) (fun hc73 => ?_)
            · refine z_aload_n0 hZ dX8_grows_80 ?_
              refine z_gf_X8_s hZ dX8_grows_81 fl_X8_7 (by assumption) (by assumption) ?_
              refine z_bipush hZ dX8_grows_84 rfl ?_
              refine z_iald hZ dX8_grows_86 (by assumption) (by assumption) (by omega) (by exact e4) ?_
              refine z_iadd hZ dX8_grows_87 ?_
              refine z_iload5 hZ dX8_grows_88 ?_
              refine z_iadd hZ dX8_grows_90 ?_
              refine z_iload_n1 hZ dX8_grows_91 ?_
              refine z_isub hZ dX8_grows_92 ?_
              refine z_aload_n0 hZ dX8_grows_93 ?_
              refine z_iload5 hZ dX8_grows_94 ?_
              refine z_cV hZ (As := [_]) rfl dX8_grows_96 ml_X8_36 wy_X8_code (m_X8_code l t (by omega)) (by assumption) (by assumption) rfl ⟨Nat.le_of_ble_eq_true rfl, Nat.le_of_ble_eq_true rfl⟩ ⟨Nat.le_of_ble_eq_true rfl, Nat.le_of_ble_eq_true rfl⟩ (Nat.le_of_ble_eq_true rfl) (fun _ _ _ h => h.elim) (fun v96 L96 G96 hp96 => ?_)
              obtain ⟨rfl, rfl, rfl⟩ := hp96
              rw [ek]
              refine z_iastore hZ dX8_grows_99 (by assumption) (by assumption) (by omega) (fun F99 hF99 hf99 => ?_)
              have hF := (hf99 x hxa).trans hF
              have hg := hF99
              have t := t.mv hF99 hf99
              have fr := fa.tr fr hf99
              refine z_iinc5 hZ dX8_grows_100 (by decide) rfl ?_
              refine z_goto hZ (tgt := 59) dX8_grows_103 rfl ?_
              rw [es] at t
              exact ih (k + 1) _ (by omega) (by omega) (by omega) t fr
            · exfalso; omega
    have l1 : B → ∀ (m : Nat) (k : Int) (G : Nat → PE), (k + 1).toNat = m → -1 ≤ k → k < g 10 → ms L G x a (gaK g (j - i) k) kd → fa a F G → ZZ 0 0 16 [some (.ref x), some (.int (iI i)), some (.int (iI j)), some (.int (iI (b2 B))), some (.int (iI (j - i))), some (.int (iI k))] [] L G := by
      intro hB m
      induction m with
      | zero =>
        intro k G hm k0 k1 t fr
        have e : k = -1 := by omega
        subst e
        rw [gA1_t hB] at t
        obtain ⟨⟨hx, ha, hxa⟩, ⟨w1, w2, w3, w5, w6, w7, w8, w9, hF⟩, hg⟩ := id t
        refine z_iload5 hZ dX8_grows_16 ?_
        refine z_if_lt hZ (tgt := 56) dX8_grows_18 rfl (by omega) (fun hc18 => ?_) (fun hc18 => ?_)
        · refine z_iload_n1 hZ dX8_grows_56 ?_
          refine z_istore5 hZ dX8_grows_57 (by decide) rfl ?_
          exact l2 _ i _ rfl (by omega) (by omega) (by rw [gkK_0]; exact t) fr
        · exfalso; omega
      | succ m ih =>
        intro k G hm k0 k1 t fr
        obtain ⟨⟨hx, ha, hxa⟩, ⟨w1, w2, w3, w5, w6, w7, w8, w9, hF⟩, hg⟩ := id t
        refine z_iload5 hZ dX8_grows_16 ?_
        refine z_if_lt hZ (tgt := 56) dX8_grows_18 rfl (by omega) (fun hc18 => ?_) (fun hc18 => ?_)
        · exfalso; omega
        · refine z_iload_n3 hZ dX8_grows_21 ?_
          refine z_if_eq_b hZ (tgt := 56) dX8_grows_22 rfl (fun hc22 => ?_) (fun hc22 => ?_)
          · exact absurd hB hc22
          · refine z_aload_n0 hZ dX8_grows_25 ?_
            refine z_gf_X8_s hZ dX8_grows_26 fl_X8_7 (by assumption) (by assumption) ?_
            refine z_sipush hZ dX8_grows_29 rfl ?_
            refine z_iload5 hZ dX8_grows_32 ?_
            refine z_iadd hZ dX8_grows_34 ?_
            refine z_iload4 hZ dX8_grows_35 ?_
            refine z_iadd hZ dX8_grows_37 ?_
            refine z_aload_n0 hZ dX8_grows_38 ?_
            refine z_gf_X8_s hZ dX8_grows_39 fl_X8_7 (by assumption) (by assumption) ?_
            refine z_sipush hZ dX8_grows_42 rfl ?_
            refine z_iload5 hZ dX8_grows_45 ?_
            refine z_iadd hZ dX8_grows_47 ?_
            refine z_iald hZ dX8_grows_48 (by assumption) (by assumption) (by omega) (by first | exact (wu_n (by omega)).trans (by first | exact (wu_n (by omega)).trans (by first | exact (wu_n (by omega)).trans (by first | exact (wu_n (by omega)).trans (by first | exact (wu_n (by omega)).trans (by first | exact (wu_n (by omega)).trans (by first | exact if_neg (by omega) | rfl) | exact wu_s | exact wu_e (by omega) | exact if_neg (by omega) | rfl) | exact wu_s | exact wu_e (by omega) | exact if_neg (by omega) | rfl) | exact wu_s | exact wu_e (by omega) | exact if_neg (by omega) | rfl) | exact wu_s | exact wu_e (by omega) | exact if_neg (by omega) | rfl) | exact wu_s | exact wu_e (by omega) | exact if_neg (by omega) | rfl) | exact wu_s | exact wu_e (by omega) | exact if_neg (by omega) | rfl) ?_
            refine z_iastore hZ dX8_grows_49 (by assumption) (by assumption) (by omega) (fun F49 hF49 hf49 => ?_)
            have hF := (hf49 x hxa).trans hF
            have hg := hF49
            have t := t.mv hF49 hf49
            have fr := fa.tr fr hf49
            refine z_iinc5 hZ dX8_grows_50 (by decide) rfl ?_
            refine z_goto hZ (tgt := 16) dX8_grows_53 rfl ?_
            rw [gaK_s (by omega)] at t
            exact ih (k + -1) _ (by omega) (by omega) (by omega) t fr
    obtain ⟨⟨hx, ha, hxa⟩, ⟨w1, w2, w3, w5, w6, w7, w8, w9, hF⟩, hg⟩ := id t
    have fr : fa a F F := fa.rf
    by_cases hB : B
    · have hB := hB
      refine z_iload_n2 hZ dX8_grows_0 ?_
      refine z_iload_n1 hZ dX8_grows_1 ?_
      refine z_isub hZ dX8_grows_2 ?_
      refine z_istore4 hZ dX8_grows_3 (by decide) rfl ?_
      refine z_aload_n0 hZ dX8_grows_5 ?_
      refine z_gf_X8_s hZ dX8_grows_6 fl_X8_7 (by assumption) (by assumption) ?_
      refine z_bipush hZ dX8_grows_9 rfl ?_
      refine z_iald hZ dX8_grows_11 (by assumption) (by assumption) (by omega) (by first | exact (wu_n (by omega)).trans (by first | exact (wu_n (by omega)).trans (by first | exact (wu_n (by omega)).trans (by first | exact (wu_n (by omega)).trans (by first | exact (wu_n (by omega)).trans (by first | exact (wu_n (by omega)).trans (by first | exact if_neg (by omega) | rfl) | exact wu_s | exact wu_e (by omega) | exact if_neg (by omega) | rfl) | exact wu_s | exact wu_e (by omega) | exact if_neg (by omega) | rfl) | exact wu_s | exact wu_e (by omega) | exact if_neg (by omega) | rfl) | exact wu_s | exact wu_e (by omega) | exact if_neg (by omega) | rfl) | exact wu_s | exact wu_e (by omega) | exact if_neg (by omega) | rfl) | exact wu_s | exact wu_e (by omega) | exact if_neg (by omega) | rfl) ?_
      refine z_iconst hZ dX8_grows_12 ?_
      refine z_isub hZ dX8_grows_13 ?_
      refine z_istore5 hZ dX8_grows_14 (by decide) rfl ?_
      exact l1 hB _ (g 10 - 1) F rfl (by omega) (by omega) (by rw [gaK_0]; exact t) fr
    · have t9 : ms L F x a (gkK g i (j - i) (gO g B) i B) kd := by rw [gkK_0, gA1_f hB]; exact t
      refine z_iload_n2 hZ dX8_grows_0 ?_
      refine z_iload_n1 hZ dX8_grows_1 ?_
      refine z_isub hZ dX8_grows_2 ?_
      refine z_istore4 hZ dX8_grows_3 (by decide) rfl ?_
      refine z_aload_n0 hZ dX8_grows_5 ?_
      refine z_gf_X8_s hZ dX8_grows_6 fl_X8_7 (by assumption) (by assumption) ?_
      refine z_bipush hZ dX8_grows_9 rfl ?_
      refine z_iald hZ dX8_grows_11 (by assumption) (by assumption) (by omega) (by first | exact (wu_n (by omega)).trans (by first | exact (wu_n (by omega)).trans (by first | exact (wu_n (by omega)).trans (by first | exact (wu_n (by omega)).trans (by first | exact (wu_n (by omega)).trans (by first | exact (wu_n (by omega)).trans (by first | exact if_neg (by omega) | rfl) | exact wu_s | exact wu_e (by omega) | exact if_neg (by omega) | rfl) | exact wu_s | exact wu_e (by omega) | exact if_neg (by omega) | rfl) | exact wu_s | exact wu_e (by omega) | exact if_neg (by omega) | rfl) | exact wu_s | exact wu_e (by omega) | exact if_neg (by omega) | rfl) | exact wu_s | exact wu_e (by omega) | exact if_neg (by omega) | rfl) | exact wu_s | exact wu_e (by omega) | exact if_neg (by omega) | rfl) ?_
      refine z_iconst hZ dX8_grows_12 ?_
      refine z_isub hZ dX8_grows_13 ?_
      refine z_istore5 hZ dX8_grows_14 (by decide) rfl ?_
      refine z_iload5 hZ dX8_grows_16 ?_
      refine z_if_lt hZ (tgt := 56) dX8_grows_18 rfl (by omega) (fun hc18 => ?_) (fun hc18 => ?_)
      · refine z_iload_n1 hZ dX8_grows_56 ?_
        refine z_istore5 hZ dX8_grows_57 (by decide) rfl ?_
        exact l2 _ i _ rfl (by omega) (by omega) t9 fr
      · refine z_iload_n3 hZ dX8_grows_21 ?_
        refine z_if_eq_b hZ (tgt := 56) dX8_grows_22 rfl (fun hc22 => ?_) (fun hc22 => ?_)
        · refine z_iload_n1 hZ dX8_grows_56 ?_
          refine z_istore5 hZ dX8_grows_57 (by decide) rfl ?_
          exact l2 _ i _ rfl (by omega) (by omega) t9 fr
        · exact absurd (by assumption) hB
  exact hgo
set_option maxRecDepth 100000 in
set_option maxHeartbeats 4000000 in
theorem m_X8_kills (l : Launch) {L : List Nat} {F : Nat → PE} {x a : Nat} {g : Int → Int} {kd i j : Int} {B : Prop} [Decidable B] (t : ms L F x a g kd) (v : vf g kd) (hi : 0 ≤ i ∧ i ≤ j ∧ j ≤ g 0) {z : Int} (hz : z = b2 B) : PM l yX8_kills cX8_kills 4 (some .int) (rm 3 0 0) L [.ref x, .int (iI i), .int (iI j), .int (iI z)] F (fun v9 L1 F1 => v9 = some (.int (iI (if i < j then j - i else -1))) ∧ L = L1 ∧ F1 a = eI 0 18180 (if i < j then vKl i j B kd g else g) ∧ ∀ b, b ≠ a → F1 b = F b) (fun _ _ _ => False) := by
  refine pm_of cd_X8_kills (by decide +kernel) (Nat.le_of_ble_eq_true rfl) (fun ZZ hZ => ?_)
  have hgo : ZZ 0 0 0 [some (.ref x), some (.int (iI i)), some (.int (iI j)), some (.int (iI z))] [] L F := by
    obtain ⟨⟨hx, ha, hxa⟩, ⟨w1, w2, w3, w5, w6, w7, w8, w9, hF⟩, hg⟩ := id t
    have fr : fa a F F := fa.rf
    subst hz
    have r := v.1
    have rk := v.2.1.2.2.2.1
    have hh := v.2.1.1
    have h10 : kd = 1 → 0 ≤ g 10 ∧ g 10 ≤ 200 := fun q => by have z := v.2.1.2.2.2.2.1 q; have z2 := hh 0 (by omega) (by omega); rw [show (10 : Int) + 0 = 10 by omega] at z2; omega
    have k31 : ∀ (G : Nat → PE) (h : Int → Int), i < j → h 0 = g 0 → h 1 = g 1 → h 2 = g 2 → h 6 = g 6 → h = (if kd = 1 then vGrw i j B g else vCol i j g) → ms L G x a h kd → fa a F G → ZZ 0 0 31 [some (.ref x), some (.int (iI i)), some (.int (iI j)), some (.int (iI (b2 B)))] [] L G := by
      intro G h hij e0 e1 e2 e6 eh t fr
      obtain ⟨⟨hx, ha, hxa⟩, ⟨w1, w2, w3, w5, w6, w7, w8, w9, hF⟩, hg⟩ := id t
      refine z_aload_n0 hZ dX8_kills_31 ?_
      refine z_iload_n1 hZ dX8_kills_32 ?_
      refine z_iload_n2 hZ dX8_kills_33 ?_
      refine z_cV hZ (As := [_, _]) rfl dX8_kills_34 ml_X8_55 wy_X8_takesOut (m_X8_takesOut l t (by omega) (by omega)) (by assumption) (by assumption) rfl ⟨Nat.le_of_ble_eq_true rfl, Nat.le_of_ble_eq_true rfl⟩ ⟨Nat.le_of_ble_eq_true rfl, Nat.le_of_ble_eq_true rfl⟩ (Nat.le_of_ble_eq_true rfl) (fun _ _ _ h => h.elim) (fun v34 L34 G34 hp34 => ?_)
      obtain ⟨rfl, rfl, hg, f34⟩ := hp34
      have hF := (f34 x hxa).trans hF
      have t := t.mv hg f34
      have fr := fa.tr fr f34
      refine z_aload_n0 hZ dX8_kills_37 ?_
      refine z_gf_X8_s hZ dX8_kills_38 fl_X8_7 (by assumption) (by assumption) ?_
      refine z_bipush hZ dX8_kills_41 rfl ?_
      refine z_dup2 hZ dX8_kills_43 rfl rfl ?_
      refine z_iald hZ dX8_kills_44 (by assumption) (by assumption) (by omega) (by exact (wu_n (by omega)).trans ((wu_n (by omega)).trans ((wu_n (by omega)).trans ((if_neg (by omega)).trans e6)))) ?_
      refine z_iload_n2 hZ dX8_kills_45 ?_
      refine z_iload_n1 hZ dX8_kills_46 ?_
      refine z_isub hZ dX8_kills_47 ?_
      refine z_iadd hZ dX8_kills_48 ?_
      refine z_iastore hZ dX8_kills_49 (by assumption) (by assumption) (by omega) (fun F49 hF49 hf49 => ?_)
      have hF := (hf49 x hxa).trans hF
      have hg := hF49
      have t := t.mv hF49 hf49
      have fr := fa.tr fr hf49
      refine z_iload_n2 hZ dX8_kills_50 ?_
      refine z_iload_n1 hZ dX8_kills_51 ?_
      refine z_isub hZ dX8_kills_52 ?_
      exact z_iret hZ rfl (Nat.le_of_ble_eq_true rfl) (Nat.le_of_ble_eq_true rfl) dX8_kills_53 (by
            refine ⟨pv (by rw [if_pos hij]), rfl, ?_, fr⟩
            rw [if_pos hij, hg]
            unfold vKl
            rw [eh])
    refine z_iload_n1 hZ dX8_kills_0 ?_
    refine z_iload_n2 hZ dX8_kills_1 ?_
    refine z_icmp_ne hZ (tgt := 7) dX8_kills_2 rfl (by omega) (fun hc2 => ?_) (fun hc2 => ?_)
    · refine z_aload_n0 hZ dX8_kills_7 ?_
      refine z_gf_X8_kind hZ dX8_kills_8 fl_X8_67 (by assumption) (by assumption) ?_
      refine z_iconst hZ dX8_kills_11 ?_
      refine z_icmp_ne hZ (tgt := 25) dX8_kills_12 rfl (by omega) (fun hc12 => ?_) (fun hc12 => ?_)
      · refine z_aload_n0 hZ dX8_kills_25 ?_
        refine z_iload_n1 hZ dX8_kills_26 ?_
        refine z_iload_n2 hZ dX8_kills_27 ?_
        refine z_cV hZ (As := [_, _]) rfl dX8_kills_28 ml_X8_74 wy_X8_collects (m_X8_collects l t (by omega) hh hi) (by assumption) (by assumption) rfl ⟨Nat.le_of_ble_eq_true rfl, Nat.le_of_ble_eq_true rfl⟩ ⟨Nat.le_of_ble_eq_true rfl, Nat.le_of_ble_eq_true rfl⟩ (Nat.le_of_ble_eq_true rfl) (fun _ _ _ h => h.elim) (fun v28 L28 G28 hp28 => ?_)
        obtain ⟨rfl, rfl, hg, f28⟩ := hp28
        have hF := (f28 x hxa).trans hF
        have t := t.mv hg f28
        have fr := fa.tr fr f28
        first
          | exact k31 _ _ (by omega) (vCol_at (by omega) (by omega)) (vCol_at (by omega) (by omega)) (vCol_at (by omega) (by omega)) (vCol_at (by omega) (by omega)) (by rw [if_neg (by omega)]) t fr
          | (have z10 := h10 (by omega); exact k31 _ _ (by omega) (vGrw_at (by omega) (by omega)) (vGrw_at (by omega) (by omega)) (vGrw_at (by omega) (by omega)) (vGrw_at (by omega) (by omega)) (by rw [if_pos (by omega)]) t fr)
      · refine z_aload_n0 hZ dX8_kills_15 ?_
        refine z_iload_n1 hZ dX8_kills_16 ?_
        refine z_iload_n2 hZ dX8_kills_17 ?_
        refine z_iload_n3 hZ dX8_kills_18 ?_
        refine z_cV hZ (As := [_, _, _]) rfl dX8_kills_19 ml_X8_70 wy_X8_grows (m_X8_grows l t (by have := h10 (by omega); omega) hi) (by assumption) (by assumption) rfl ⟨Nat.le_of_ble_eq_true rfl, Nat.le_of_ble_eq_true rfl⟩ ⟨Nat.le_of_ble_eq_true rfl, Nat.le_of_ble_eq_true rfl⟩ (Nat.le_of_ble_eq_true rfl) (fun _ _ _ h => h.elim) (fun v19 L19 G19 hp19 => ?_)
        obtain ⟨rfl, rfl, hg, f19⟩ := hp19
        have hF := (f19 x hxa).trans hF
        have t := t.mv hg f19
        have fr := fa.tr fr f19
        refine z_goto hZ (tgt := 31) dX8_kills_22 rfl ?_
        first
          | exact k31 _ _ (by omega) (vCol_at (by omega) (by omega)) (vCol_at (by omega) (by omega)) (vCol_at (by omega) (by omega)) (vCol_at (by omega) (by omega)) (by rw [if_neg (by omega)]) t fr
          | (have z10 := h10 (by omega); exact k31 _ _ (by omega) (vGrw_at (by omega) (by omega)) (vGrw_at (by omega) (by omega)) (vGrw_at (by omega) (by omega)) (vGrw_at (by omega) (by omega)) (by rw [if_pos (by omega)]) t fr)
    · refine z_iconst hZ dX8_kills_5 ?_
      exact z_iret hZ rfl (Nat.le_of_ble_eq_true rfl) (Nat.le_of_ble_eq_true rfl) dX8_kills_6 (by exact ⟨pv (by rw [if_neg (by omega)]), rfl, by rw [if_neg (by omega)]; exact hg, fr⟩)
  exact hgo
set_option maxRecDepth 100000 in
set_option maxHeartbeats 4000000 in
theorem m_X8_killsWord (l : Launch) {L : List Nat} {F : Nat → PE} {x a : Nat} {g : Int → Int} {kd : Int} (t : ms L F x a g kd) (v : vf g kd) : PM l yX8_killsWord cX8_killsWord 1 (some .int) (rm 5 0 0) L [.ref x] F (fun v9 L1 F1 => v9 = some (.int (iI (if g 1 < wS (g 0) (fT g) (g 1) then wS (g 0) (fT g) (g 1) - g 1 else -1))) ∧ L = L1 ∧ F1 a = eI 0 18180 (if g 1 < wS (g 0) (fT g) (g 1) then vKl (g 1) (wS (g 0) (fT g) (g 1)) False kd g else g) ∧ ∀ b, b ≠ a → F1 b = F b) (fun _ _ _ => False) := by
  refine pm_of cd_X8_killsWord (by decide +kernel) (Nat.le_of_ble_eq_true rfl) (fun ZZ hZ => ?_)
  have hgo : ZZ 0 0 0 [some (.ref x)] [] L F := by
    obtain ⟨⟨hx, ha, hxa⟩, ⟨w1, w2, w3, w5, w6, w7, w8, w9, hF⟩, hg⟩ := id t
    have fr : fa a F F := fa.rf
    have r := v.1
    have rt := wS_rg (n := g 0) (f := fT g) (p := g 1) (by omega)
    refine z_aload_n0 hZ dX8_killsWord_0 ?_
    refine z_aload_n0 hZ dX8_killsWord_1 ?_
    refine z_gf_X8_s hZ dX8_killsWord_2 fl_X8_7 (by assumption) (by assumption) ?_
    refine z_iconst hZ dX8_killsWord_5 ?_
    refine z_iald hZ dX8_killsWord_6 (by assumption) (by assumption) (by omega) (by first | exact (wu_n (by omega)).trans (by first | exact (wu_n (by omega)).trans (by first | exact (wu_n (by omega)).trans (by first | exact (wu_n (by omega)).trans (by first | exact (wu_n (by omega)).trans (by first | exact (wu_n (by omega)).trans (by first | exact if_neg (by omega) | rfl) | exact wu_s | exact wu_e (by omega) | exact if_neg (by omega) | rfl) | exact wu_s | exact wu_e (by omega) | exact if_neg (by omega) | rfl) | exact wu_s | exact wu_e (by omega) | exact if_neg (by omega) | rfl) | exact wu_s | exact wu_e (by omega) | exact if_neg (by omega) | rfl) | exact wu_s | exact wu_e (by omega) | exact if_neg (by omega) | rfl) | exact wu_s | exact wu_e (by omega) | exact if_neg (by omega) | rfl) ?_
    refine z_aload_n0 hZ dX8_killsWord_7 ?_
    refine z_aload_n0 hZ dX8_killsWord_8 ?_
    refine z_gf_X8_s hZ dX8_killsWord_9 fl_X8_7 (by assumption) (by assumption) ?_
    refine z_iconst hZ dX8_killsWord_12 ?_
    refine z_iald hZ dX8_killsWord_13 (by assumption) (by assumption) (by omega) (by first | exact (wu_n (by omega)).trans (by first | exact (wu_n (by omega)).trans (by first | exact (wu_n (by omega)).trans (by first | exact (wu_n (by omega)).trans (by first | exact (wu_n (by omega)).trans (by first | exact (wu_n (by omega)).trans (by first | exact if_neg (by omega) | rfl) | exact wu_s | exact wu_e (by omega) | exact if_neg (by omega) | rfl) | exact wu_s | exact wu_e (by omega) | exact if_neg (by omega) | rfl) | exact wu_s | exact wu_e (by omega) | exact if_neg (by omega) | rfl) | exact wu_s | exact wu_e (by omega) | exact if_neg (by omega) | rfl) | exact wu_s | exact wu_e (by omega) | exact if_neg (by omega) | rfl) | exact wu_s | exact wu_e (by omega) | exact if_neg (by omega) | rfl) ?_
    refine z_cV hZ (As := [_]) rfl dX8_killsWord_14 ml_X8_58 wy_X8_behindWord (m_X8_behindWord l t v (by omega)) (by assumption) (by assumption) rfl ⟨Nat.le_of_ble_eq_true rfl, Nat.le_of_ble_eq_true rfl⟩ ⟨Nat.le_of_ble_eq_true rfl, Nat.le_of_ble_eq_true rfl⟩ (Nat.le_of_ble_eq_true rfl) (fun _ _ _ h => h.elim) (fun v14 L14 G14 hp14 => ?_)
    obtain ⟨rfl, rfl, rfl⟩ := hp14
    refine z_iconst hZ dX8_killsWord_17 ?_
    refine z_cV hZ (As := [_, _, _]) rfl dX8_killsWord_18 ml_X8_77 wy_X8_kills (m_X8_kills l (B := False) t v (by omega) rfl) (by assumption) (by assumption) rfl ⟨Nat.le_of_ble_eq_true rfl, Nat.le_of_ble_eq_true rfl⟩ ⟨Nat.le_of_ble_eq_true rfl, Nat.le_of_ble_eq_true rfl⟩ (Nat.le_of_ble_eq_true rfl) (fun _ _ _ h => h.elim) (fun v18 L18 G18 hp18 => ?_)
    obtain ⟨rfl, rfl, hg, f17⟩ := hp18
    exact z_iret hZ rfl (Nat.le_of_ble_eq_true rfl) (Nat.le_of_ble_eq_true rfl) dX8_killsWord_21 (by exact ⟨rfl, rfl, hg, f17⟩)
  exact hgo
set_option maxRecDepth 100000 in
set_option maxHeartbeats 4000000 in
theorem m_X8_killsBack (l : Launch) {L : List Nat} {F : Nat → PE} {x a : Nat} {g : Int → Int} {kd : Int} (t : ms L F x a g kd) (v : vf g kd) : PM l yX8_killsBack cX8_killsBack 1 (some .int) (rm 5 0 0) L [.ref x] F (fun v9 L1 F1 => v9 = some (.int (iI (if wB (g 0) (fT g) (g 1) < g 1 then g 1 - wB (g 0) (fT g) (g 1) else -1))) ∧ L = L1 ∧ F1 a = eI 0 18180 (if wB (g 0) (fT g) (g 1) < g 1 then vKl (wB (g 0) (fT g) (g 1)) (g 1) True kd g else g) ∧ ∀ b, b ≠ a → F1 b = F b) (fun _ _ _ => False) := by
  refine pm_of cd_X8_killsBack (by decide +kernel) (Nat.le_of_ble_eq_true rfl) (fun ZZ hZ => ?_)
  have hgo : ZZ 0 0 0 [some (.ref x)] [] L F := by
    obtain ⟨⟨hx, ha, hxa⟩, ⟨w1, w2, w3, w5, w6, w7, w8, w9, hF⟩, hg⟩ := id t
    have fr : fa a F F := fa.rf
    have r := v.1
    have rt := wB_rg (n := g 0) (f := fT g) (p := g 1) (by omega)
    refine z_aload_n0 hZ dX8_killsBack_0 ?_
    refine z_aload_n0 hZ dX8_killsBack_1 ?_
    refine z_aload_n0 hZ dX8_killsBack_2 ?_
    refine z_gf_X8_s hZ dX8_killsBack_3 fl_X8_7 (by assumption) (by assumption) ?_
    refine z_iconst hZ dX8_killsBack_6 ?_
    refine z_iald hZ dX8_killsBack_7 (by assumption) (by assumption) (by omega) (by first | exact (wu_n (by omega)).trans (by first | exact (wu_n (by omega)).trans (by first | exact (wu_n (by omega)).trans (by first | exact (wu_n (by omega)).trans (by first | exact (wu_n (by omega)).trans (by first | exact (wu_n (by omega)).trans (by first | exact if_neg (by omega) | rfl) | exact wu_s | exact wu_e (by omega) | exact if_neg (by omega) | rfl) | exact wu_s | exact wu_e (by omega) | exact if_neg (by omega) | rfl) | exact wu_s | exact wu_e (by omega) | exact if_neg (by omega) | rfl) | exact wu_s | exact wu_e (by omega) | exact if_neg (by omega) | rfl) | exact wu_s | exact wu_e (by omega) | exact if_neg (by omega) | rfl) | exact wu_s | exact wu_e (by omega) | exact if_neg (by omega) | rfl) ?_
    refine z_cV hZ (As := [_]) rfl dX8_killsBack_8 ml_X8_81 wy_X8_aheadOfWord (m_X8_aheadOfWord l t v (by omega)) (by assumption) (by assumption) rfl ⟨Nat.le_of_ble_eq_true rfl, Nat.le_of_ble_eq_true rfl⟩ ⟨Nat.le_of_ble_eq_true rfl, Nat.le_of_ble_eq_true rfl⟩ (Nat.le_of_ble_eq_true rfl) (fun _ _ _ h => h.elim) (fun v8 L8 G8 hp8 => ?_)
    obtain ⟨rfl, rfl, rfl⟩ := hp8
    refine z_aload_n0 hZ dX8_killsBack_11 ?_
    refine z_gf_X8_s hZ dX8_killsBack_12 fl_X8_7 (by assumption) (by assumption) ?_
    refine z_iconst hZ dX8_killsBack_15 ?_
    refine z_iald hZ dX8_killsBack_16 (by assumption) (by assumption) (by omega) (by first | exact (wu_n (by omega)).trans (by first | exact (wu_n (by omega)).trans (by first | exact (wu_n (by omega)).trans (by first | exact (wu_n (by omega)).trans (by first | exact (wu_n (by omega)).trans (by first | exact (wu_n (by omega)).trans (by first | exact if_neg (by omega) | rfl) | exact wu_s | exact wu_e (by omega) | exact if_neg (by omega) | rfl) | exact wu_s | exact wu_e (by omega) | exact if_neg (by omega) | rfl) | exact wu_s | exact wu_e (by omega) | exact if_neg (by omega) | rfl) | exact wu_s | exact wu_e (by omega) | exact if_neg (by omega) | rfl) | exact wu_s | exact wu_e (by omega) | exact if_neg (by omega) | rfl) | exact wu_s | exact wu_e (by omega) | exact if_neg (by omega) | rfl) ?_
    refine z_iconst hZ dX8_killsBack_17 ?_
    refine z_cV hZ (As := [_, _, _]) rfl dX8_killsBack_18 ml_X8_77 wy_X8_kills (m_X8_kills l (B := True) t v (by omega) rfl) (by assumption) (by assumption) rfl ⟨Nat.le_of_ble_eq_true rfl, Nat.le_of_ble_eq_true rfl⟩ ⟨Nat.le_of_ble_eq_true rfl, Nat.le_of_ble_eq_true rfl⟩ (Nat.le_of_ble_eq_true rfl) (fun _ _ _ h => h.elim) (fun v18 L18 G18 hp18 => ?_)
    obtain ⟨rfl, rfl, hg, f17⟩ := hp18
    exact z_iret hZ rfl (Nat.le_of_ble_eq_true rfl) (Nat.le_of_ble_eq_true rfl) dX8_killsBack_21 (by exact ⟨rfl, rfl, hg, f17⟩)
  exact hgo
set_option maxRecDepth 100000 in
set_option maxHeartbeats 4000000 in
theorem m_X8_killsLine (l : Launch) {L : List Nat} {F : Nat → PE} {x a : Nat} {g : Int → Int} {kd : Int} (t : ms L F x a g kd) (v : vf g kd) : PM l yX8_killsLine cX8_killsLine 2 (some .int) (rm 5 0 0) L [.ref x] F (fun v9 L1 F1 => v9 = some (.int (iI (if g 1 < kLj g then kLj g - g 1 else -1))) ∧ L = L1 ∧ F1 a = eI 0 18180 (if g 1 < kLj g then vKl (g 1) (kLj g) False kd g else g) ∧ ∀ b, b ≠ a → F1 b = F b) (fun _ _ _ => False) := by
  refine pm_of cd_X8_killsLine (by decide +kernel) (Nat.le_of_ble_eq_true rfl) (fun ZZ hZ => ?_)
  have hgo : ZZ 0 0 0 [some (.ref x), none] [] L F := by
    obtain ⟨⟨hx, ha, hxa⟩, ⟨w1, w2, w3, w5, w6, w7, w8, w9, hF⟩, hg⟩ := id t
    have fr : fa a F F := fa.rf
    have r := v.1
    have rt := lE_rg (n := g 0) (f := fT g) (p := g 1) (by omega)
    have ua : lE (g 0) (fT g) (g 1) < g 0 → isE (g 0) (fT g) (lE (g 0) (fT g) (g 1)) = true := fun q => by
      have z : (!isE (g 0) (fT g) (lE (g 0) (fT g) (g 1))) = false := up_at (P := fun i => !isE (g 0) (fT g) i) (hi := g 0) (i := g 1) (by omega) q
      cases h : isE (g 0) (fT g) (lE (g 0) (fT g) (g 1))
      · rw [h] at z; cases z
      · rfl
    have uo : ¬ g 1 < g 0 → ¬ isE (g 0) (fT g) (g 1) = true := fun q z => by have z := isE_iff.mp z; rw [cdA_out (by omega)] at z; omega
    have k45 : ∀ (q : Int), q = kLj g → q ≤ g 0 → g 1 ≤ q → ZZ 0 0 45 [some (.ref x), some (.int (iI (lE (g 0) (fT g) (g 1))))] [.int (iI q), .int (iI (g 1)), .ref x] L F := by
      intro q hq h1 h2
      subst hq
      refine z_iconst hZ dX8_killsLine_45 ?_
      refine z_cV hZ (As := [_, _, _]) rfl dX8_killsLine_46 ml_X8_77 wy_X8_kills (m_X8_kills l (B := False) t v (by omega) rfl) (by assumption) (by assumption) rfl ⟨Nat.le_of_ble_eq_true rfl, Nat.le_of_ble_eq_true rfl⟩ ⟨Nat.le_of_ble_eq_true rfl, Nat.le_of_ble_eq_true rfl⟩ (Nat.le_of_ble_eq_true rfl) (fun _ _ _ h => h.elim) (fun v46 L46 G46 hp46 => ?_)
      obtain ⟨rfl, rfl, hg, f17⟩ := hp46
      exact z_iret hZ rfl (Nat.le_of_ble_eq_true rfl) (Nat.le_of_ble_eq_true rfl) dX8_killsLine_49 (by exact ⟨rfl, rfl, hg, f17⟩)
    refine z_aload_n0 hZ dX8_killsLine_0 ?_
    refine z_aload_n0 hZ dX8_killsLine_1 ?_
    refine z_gf_X8_s hZ dX8_killsLine_2 fl_X8_7 (by assumption) (by assumption) ?_
    refine z_iconst hZ dX8_killsLine_5 ?_
    refine z_iald hZ dX8_killsLine_6 (by assumption) (by assumption) (by omega) (by first | exact (wu_n (by omega)).trans (by first | exact (wu_n (by omega)).trans (by first | exact (wu_n (by omega)).trans (by first | exact (wu_n (by omega)).trans (by first | exact (wu_n (by omega)).trans (by first | exact (wu_n (by omega)).trans (by first | exact if_neg (by omega) | rfl) | exact wu_s | exact wu_e (by omega) | exact if_neg (by omega) | rfl) | exact wu_s | exact wu_e (by omega) | exact if_neg (by omega) | rfl) | exact wu_s | exact wu_e (by omega) | exact if_neg (by omega) | rfl) | exact wu_s | exact wu_e (by omega) | exact if_neg (by omega) | rfl) | exact wu_s | exact wu_e (by omega) | exact if_neg (by omega) | rfl) | exact wu_s | exact wu_e (by omega) | exact if_neg (by omega) | rfl) ?_
    refine z_cV hZ (As := [_]) rfl dX8_killsLine_7 ml_X8_64 wy_X8_endOf (m_X8_endOf l t v (by omega)) (by assumption) (by assumption) rfl ⟨Nat.le_of_ble_eq_true rfl, Nat.le_of_ble_eq_true rfl⟩ ⟨Nat.le_of_ble_eq_true rfl, Nat.le_of_ble_eq_true rfl⟩ (Nat.le_of_ble_eq_true rfl) (fun _ _ _ h => h.elim) (fun v7 L7 G7 hp7 => ?_)
    obtain ⟨rfl, rfl, rfl⟩ := hp7
    refine z_istore_n1 hZ dX8_killsLine_10 (by decide) rfl ?_
    refine z_aload_n0 hZ dX8_killsLine_11 ?_
    refine z_aload_n0 hZ dX8_killsLine_12 ?_
    refine z_gf_X8_s hZ dX8_killsLine_13 fl_X8_7 (by assumption) (by assumption) ?_
    refine z_iconst hZ dX8_killsLine_16 ?_
    refine z_iald hZ dX8_killsLine_17 (by assumption) (by assumption) (by omega) (by first | exact (wu_n (by omega)).trans (by first | exact (wu_n (by omega)).trans (by first | exact (wu_n (by omega)).trans (by first | exact (wu_n (by omega)).trans (by first | exact (wu_n (by omega)).trans (by first | exact (wu_n (by omega)).trans (by first | exact if_neg (by omega) | rfl) | exact wu_s | exact wu_e (by omega) | exact if_neg (by omega) | rfl) | exact wu_s | exact wu_e (by omega) | exact if_neg (by omega) | rfl) | exact wu_s | exact wu_e (by omega) | exact if_neg (by omega) | rfl) | exact wu_s | exact wu_e (by omega) | exact if_neg (by omega) | rfl) | exact wu_s | exact wu_e (by omega) | exact if_neg (by omega) | rfl) | exact wu_s | exact wu_e (by omega) | exact if_neg (by omega) | rfl) ?_
    refine z_iload_n1 hZ dX8_killsLine_18 ?_
    refine z_aload_n0 hZ dX8_killsLine_19 ?_
    refine z_gf_X8_s hZ dX8_killsLine_20 fl_X8_7 (by assumption) (by assumption) ?_
    refine z_iconst hZ dX8_killsLine_23 ?_
    refine z_iald hZ dX8_killsLine_24 (by assumption) (by assumption) (by omega) (by first | exact (wu_n (by omega)).trans (by first | exact (wu_n (by omega)).trans (by first | exact (wu_n (by omega)).trans (by first | exact (wu_n (by omega)).trans (by first | exact (wu_n (by omega)).trans (by first | exact (wu_n (by omega)).trans (by first | exact if_neg (by omega) | rfl) | exact wu_s | exact wu_e (by omega) | exact if_neg (by omega) | rfl) | exact wu_s | exact wu_e (by omega) | exact if_neg (by omega) | rfl) | exact wu_s | exact wu_e (by omega) | exact if_neg (by omega) | rfl) | exact wu_s | exact wu_e (by omega) | exact if_neg (by omega) | rfl) | exact wu_s | exact wu_e (by omega) | exact if_neg (by omega) | rfl) | exact wu_s | exact wu_e (by omega) | exact if_neg (by omega) | rfl) ?_
    refine z_icmp_gt hZ (tgt := 38) dX8_killsLine_25 rfl (by omega) (fun hc25 => ?_) (fun hc25 => ?_)
    · refine z_iload_n1 hZ dX8_killsLine_38 ?_
      refine z_goto hZ (tgt := 45) dX8_killsLine_39 rfl ?_
      first
        | (refine k45 _ ?_ (by omega) (by omega)
           unfold kLj
           rw [if_neg (fun z => by have := z.1; omega)])
        | (have qe : ¬ isE (g 0) (fT g) (g 1) = true := uo (by omega)
           refine k45 _ ?_ (by omega) (by omega)
           unfold kLj
           rw [if_neg (fun z => qe z.2)])
        | (have qq : lE (g 0) (fT g) (g 1) = g 1 := by omega
           have qe := ua (by omega)
           rw [qq] at qe
           refine k45 _ ?_ (by omega) (by omega)
           unfold kLj
           rw [if_pos ⟨qq, qe⟩, qq])
    · refine z_iload_n1 hZ dX8_killsLine_28 ?_
      refine z_aload_n0 hZ dX8_killsLine_29 ?_
      refine z_gf_X8_s hZ dX8_killsLine_30 fl_X8_7 (by assumption) (by assumption) ?_
      refine z_iconst hZ dX8_killsLine_33 ?_
      refine z_iald hZ dX8_killsLine_34 (by assumption) (by assumption) (by omega) (by first | exact (wu_n (by omega)).trans (by first | exact (wu_n (by omega)).trans (by first | exact (wu_n (by omega)).trans (by first | exact (wu_n (by omega)).trans (by first | exact (wu_n (by omega)).trans (by first | exact (wu_n (by omega)).trans (by first | exact if_neg (by omega) | rfl) | exact wu_s | exact wu_e (by omega) | exact if_neg (by omega) | rfl) | exact wu_s | exact wu_e (by omega) | exact if_neg (by omega) | rfl) | exact wu_s | exact wu_e (by omega) | exact if_neg (by omega) | rfl) | exact wu_s | exact wu_e (by omega) | exact if_neg (by omega) | rfl) | exact wu_s | exact wu_e (by omega) | exact if_neg (by omega) | rfl) | exact wu_s | exact wu_e (by omega) | exact if_neg (by omega) | rfl) ?_
      refine z_icmp_ne hZ (tgt := 42) dX8_killsLine_35 rfl (by omega) (fun hc35 => ?_) (fun hc35 => ?_)
      · refine z_iload_n1 hZ dX8_killsLine_42 ?_
        refine z_iconst hZ dX8_killsLine_43 ?_
        refine z_iadd hZ dX8_killsLine_44 ?_
        first
          | (refine k45 _ ?_ (by omega) (by omega)
             unfold kLj
             rw [if_neg (fun z => by have := z.1; omega)])
          | (have qe : ¬ isE (g 0) (fT g) (g 1) = true := uo (by omega)
             refine k45 _ ?_ (by omega) (by omega)
             unfold kLj
             rw [if_neg (fun z => qe z.2)])
          | (have qq : lE (g 0) (fT g) (g 1) = g 1 := by omega
             have qe := ua (by omega)
             rw [qq] at qe
             refine k45 _ ?_ (by omega) (by omega)
             unfold kLj
             rw [if_pos ⟨qq, qe⟩, qq])
      · refine z_iload_n1 hZ dX8_killsLine_38 ?_
        refine z_goto hZ (tgt := 45) dX8_killsLine_39 rfl ?_
        first
          | (refine k45 _ ?_ (by omega) (by omega)
             unfold kLj
             rw [if_neg (fun z => by have := z.1; omega)])
          | (have qe : ¬ isE (g 0) (fT g) (g 1) = true := uo (by omega)
             refine k45 _ ?_ (by omega) (by omega)
             unfold kLj
             rw [if_neg (fun z => qe z.2)])
          | (have qq : lE (g 0) (fT g) (g 1) = g 1 := by omega
             have qe := ua (by omega)
             rw [qq] at qe
             refine k45 _ ?_ (by omega) (by omega)
             unfold kLj
             rw [if_pos ⟨qq, qe⟩, qq])
  exact hgo
set_option maxRecDepth 100000 in
set_option maxHeartbeats 4000000 in
theorem m_X8_killsBetween (l : Launch) {L : List Nat} {F : Nat → PE} {x a : Nat} {g : Int → Int} {kd : Int} (t : ms L F x a g kd) (v : vf g kd) : PM l yX8_killsBetween cX8_killsBetween 2 (some .int) (rm 5 0 0) L [.ref x] F (fun v9 L1 F1 => v9 = some (.int (iI (if g 2 ≠ -1 ∧ mnI (g 2) (g 1) < mxI (g 2) (g 1) then mxI (g 2) (g 1) - mnI (g 2) (g 1) else -1))) ∧ L = L1 ∧ F1 a = eI 0 18180 (if g 2 ≠ -1 ∧ mnI (g 2) (g 1) < mxI (g 2) (g 1) then vKl (mnI (g 2) (g 1)) (mxI (g 2) (g 1)) (g 2 < g 1) kd g else g) ∧ ∀ b, b ≠ a → F1 b = F b) (fun _ _ _ => False) := by
  refine pm_of cd_X8_killsBetween (by decide +kernel) (Nat.le_of_ble_eq_true rfl) (fun ZZ hZ => ?_)
  have hgo : ZZ 0 0 0 [some (.ref x), none] [] L F := by
    obtain ⟨⟨hx, ha, hxa⟩, ⟨w1, w2, w3, w5, w6, w7, w8, w9, hF⟩, hg⟩ := id t
    have fr : fa a F F := fa.rf
    have r := v.1
    have em : g 1 < g 2 → mnI (g 2) (g 1) = g 1 ∧ mxI (g 2) (g 1) = g 2 := fun q => by unfold mnI mxI; rw [if_pos q, if_neg (by omega)]; exact ⟨rfl, rfl⟩
    have em2 : ¬ g 1 < g 2 → mnI (g 2) (g 1) = g 2 ∧ mxI (g 2) (g 1) = g 1 := fun q => by
      unfold mnI mxI
      rw [if_neg q]
      refine ⟨rfl, ?_⟩
      by_cases q2 : g 2 < g 1
      · rw [if_pos q2]
      · rw [if_neg q2]; omega
    have k82a : ∀ o, g 2 ≠ -1 → g 1 < g 2 → ZZ 0 0 82 [some (.ref x), o] [.int (iI 0), .int (iI (g 2)), .int (iI (g 1)), .ref x] L F := by
      intro o h1 h2
      refine z_cV hZ (As := [_, _, _]) rfl dX8_killsBetween_82 ml_X8_77 wy_X8_kills (m_X8_kills l (B := g 2 < g 1) t v (by omega) (b2_f (by omega)).symm) (by assumption) (by assumption) rfl ⟨Nat.le_of_ble_eq_true rfl, Nat.le_of_ble_eq_true rfl⟩ ⟨Nat.le_of_ble_eq_true rfl, Nat.le_of_ble_eq_true rfl⟩ (Nat.le_of_ble_eq_true rfl) (fun _ _ _ h => h.elim) (fun v82 L82 G82 hp82 => ?_)
      obtain ⟨rfl, rfl, hg, f17⟩ := hp82
      exact z_iret hZ rfl (Nat.le_of_ble_eq_true rfl) (Nat.le_of_ble_eq_true rfl) dX8_killsBetween_85 (by
            rw [(em h2).1, (em h2).2]
            rw [if_pos h2] at hg ⊢
            refine ⟨pv (by rw [if_pos ⟨h1, h2⟩]), rfl, ?_, f17⟩
            rw [if_pos ⟨h1, h2⟩]; exact hg)
    have k82b : ∀ o, g 2 ≠ -1 → ¬ g 1 < g 2 → ZZ 0 0 82 [some (.ref x), o] [.int (iI 1), .int (iI (g 1)), .int (iI (g 2)), .ref x] L F := by
      intro o h1 h2
      refine z_cV hZ (As := [_, _, _]) rfl dX8_killsBetween_82 ml_X8_77 wy_X8_kills (m_X8_kills l (B := True) t v (by omega) rfl) (by assumption) (by assumption) rfl ⟨Nat.le_of_ble_eq_true rfl, Nat.le_of_ble_eq_true rfl⟩ ⟨Nat.le_of_ble_eq_true rfl, Nat.le_of_ble_eq_true rfl⟩ (Nat.le_of_ble_eq_true rfl) (fun _ _ _ h => h.elim) (fun v82 L82 G82 hp82 => ?_)
      obtain ⟨rfl, rfl, hg, f17⟩ := hp82
      exact z_iret hZ rfl (Nat.le_of_ble_eq_true rfl) (Nat.le_of_ble_eq_true rfl) dX8_killsBetween_85 (by
            rw [(em2 h2).1, (em2 h2).2]
            by_cases q : g 2 < g 1
            · rw [if_pos q] at hg ⊢
              refine ⟨pv (by rw [if_pos ⟨h1, q⟩]), rfl, ?_, f17⟩
              rw [if_pos ⟨h1, q⟩, vKl_cg (A := g 2 < g 1) (B := True) ⟨fun _ => trivial, fun _ => q⟩]; exact hg
            · rw [if_neg q] at hg ⊢
              refine ⟨pv (by rw [if_neg (fun z => q z.2)]), rfl, ?_, f17⟩
              rw [if_neg (fun z => q z.2)]; exact hg)
    refine z_aload_n0 hZ dX8_killsBetween_0 ?_
    refine z_gf_X8_s hZ dX8_killsBetween_1 fl_X8_7 (by assumption) (by assumption) ?_
    refine z_iconst hZ dX8_killsBetween_4 ?_
    refine z_iald hZ dX8_killsBetween_5 (by assumption) (by assumption) (by omega) (by rfl) ?_
    refine z_aload_n0 hZ dX8_killsBetween_6 ?_
    refine z_gf_X8_s hZ dX8_killsBetween_7 fl_X8_7 (by assumption) (by assumption) ?_
    refine z_iconst hZ dX8_killsBetween_10 ?_
    refine z_iald hZ dX8_killsBetween_11 (by assumption) (by assumption) (by omega) (by rfl) ?_
    refine z_icmp_le hZ (tgt := 19) dX8_killsBetween_12 rfl (by omega) (fun hc12 => ?_) (fun hc12 => ?_)
    · refine z_iconst hZ dX8_killsBetween_19 ?_
      refine z_istore_n1 hZ dX8_killsBetween_20 (by decide) rfl ?_
      refine z_aload_n0 hZ dX8_killsBetween_21 ?_
      refine z_gf_X8_s hZ dX8_killsBetween_22 fl_X8_7 (by assumption) (by assumption) ?_
      refine z_iconst hZ dX8_killsBetween_25 ?_
      refine z_iald hZ dX8_killsBetween_26 (by assumption) (by assumption) (by omega) (by rfl) ?_
      refine z_if_ge hZ (tgt := 34) dX8_killsBetween_27 rfl (by omega) (fun hc27 => ?_) (fun hc27 => ?_)
      · refine z_aload_n0 hZ dX8_killsBetween_34 ?_
        refine z_iload_n1 hZ dX8_killsBetween_35 ?_
        refine z_if_eq hZ (tgt := 48) dX8_killsBetween_36 rfl (by omega) (fun hc36 => ?_) (fun hc36 => ?_)
        · refine z_aload_n0 hZ dX8_killsBetween_48 ?_
          refine z_gf_X8_s hZ dX8_killsBetween_49 fl_X8_7 (by assumption) (by assumption) ?_
          refine z_iconst hZ dX8_killsBetween_52 ?_
          refine z_iald hZ dX8_killsBetween_53 (by assumption) (by assumption) (by omega) (by rfl) ?_
          refine z_iload_n1 hZ dX8_killsBetween_54 ?_
          refine z_if_eq hZ (tgt := 67) dX8_killsBetween_55 rfl (by omega) (fun hc55 => ?_) (fun hc55 => ?_)
          · refine z_aload_n0 hZ dX8_killsBetween_67 ?_
            refine z_gf_X8_s hZ dX8_killsBetween_68 fl_X8_7 (by assumption) (by assumption) ?_
            refine z_iconst hZ dX8_killsBetween_71 ?_
            refine z_iald hZ dX8_killsBetween_72 (by assumption) (by assumption) (by omega) (by rfl) ?_
            refine z_iload_n1 hZ dX8_killsBetween_73 ?_
            refine z_if_ne hZ (tgt := 81) dX8_killsBetween_74 rfl (by omega) (fun hc74 => ?_) (fun hc74 => ?_)
            · refine z_iconst hZ dX8_killsBetween_81 ?_
              first
                | (exfalso; omega)
                | exact k82a _ (by omega) (by omega)
                | exact k82b _ (by omega) (by omega)
            · refine z_iconst hZ dX8_killsBetween_77 ?_
              refine z_goto hZ (tgt := 82) dX8_killsBetween_78 rfl ?_
              first
                | (exfalso; omega)
                | exact k82a _ (by omega) (by omega)
                | exact k82b _ (by omega) (by omega)
          · refine z_aload_n0 hZ dX8_killsBetween_58 ?_
            refine z_gf_X8_s hZ dX8_killsBetween_59 fl_X8_7 (by assumption) (by assumption) ?_
            refine z_iconst hZ dX8_killsBetween_62 ?_
            refine z_iald hZ dX8_killsBetween_63 (by assumption) (by assumption) (by omega) (by rfl) ?_
            refine z_goto hZ (tgt := 73) dX8_killsBetween_64 rfl ?_
            refine z_iload_n1 hZ dX8_killsBetween_73 ?_
            refine z_if_ne hZ (tgt := 81) dX8_killsBetween_74 rfl (by omega) (fun hc74 => ?_) (fun hc74 => ?_)
            · refine z_iconst hZ dX8_killsBetween_81 ?_
              first
                | (exfalso; omega)
                | exact k82a _ (by omega) (by omega)
                | exact k82b _ (by omega) (by omega)
            · refine z_iconst hZ dX8_killsBetween_77 ?_
              refine z_goto hZ (tgt := 82) dX8_killsBetween_78 rfl ?_
              first
                | (exfalso; omega)
                | exact k82a _ (by omega) (by omega)
                | exact k82b _ (by omega) (by omega)
        · refine z_aload_n0 hZ dX8_killsBetween_39 ?_
          refine z_gf_X8_s hZ dX8_killsBetween_40 fl_X8_7 (by assumption) (by assumption) ?_
          refine z_iconst hZ dX8_killsBetween_43 ?_
          refine z_iald hZ dX8_killsBetween_44 (by assumption) (by assumption) (by omega) (by rfl) ?_
          refine z_goto hZ (tgt := 54) dX8_killsBetween_45 rfl ?_
          refine z_iload_n1 hZ dX8_killsBetween_54 ?_
          refine z_if_eq hZ (tgt := 67) dX8_killsBetween_55 rfl (by omega) (fun hc55 => ?_) (fun hc55 => ?_)
          · refine z_aload_n0 hZ dX8_killsBetween_67 ?_
            refine z_gf_X8_s hZ dX8_killsBetween_68 fl_X8_7 (by assumption) (by assumption) ?_
            refine z_iconst hZ dX8_killsBetween_71 ?_
            refine z_iald hZ dX8_killsBetween_72 (by assumption) (by assumption) (by omega) (by rfl) ?_
            refine z_iload_n1 hZ dX8_killsBetween_73 ?_
            refine z_if_ne hZ (tgt := 81) dX8_killsBetween_74 rfl (by omega) (fun hc74 => ?_) (fun hc74 => ?_)
            · refine z_iconst hZ dX8_killsBetween_81 ?_
              first
                | (exfalso; omega)
                | exact k82a _ (by omega) (by omega)
                | exact k82b _ (by omega) (by omega)
            · refine z_iconst hZ dX8_killsBetween_77 ?_
              refine z_goto hZ (tgt := 82) dX8_killsBetween_78 rfl ?_
              first
                | (exfalso; omega)
                | exact k82a _ (by omega) (by omega)
                | exact k82b _ (by omega) (by omega)
          · refine z_aload_n0 hZ dX8_killsBetween_58 ?_
            refine z_gf_X8_s hZ dX8_killsBetween_59 fl_X8_7 (by assumption) (by assumption) ?_
            refine z_iconst hZ dX8_killsBetween_62 ?_
            refine z_iald hZ dX8_killsBetween_63 (by assumption) (by assumption) (by omega) (by rfl) ?_
            refine z_goto hZ (tgt := 73) dX8_killsBetween_64 rfl ?_
            refine z_iload_n1 hZ dX8_killsBetween_73 ?_
            refine z_if_ne hZ (tgt := 81) dX8_killsBetween_74 rfl (by omega) (fun hc74 => ?_) (fun hc74 => ?_)
            · refine z_iconst hZ dX8_killsBetween_81 ?_
              first
                | (exfalso; omega)
                | exact k82a _ (by omega) (by omega)
                | exact k82b _ (by omega) (by omega)
            · refine z_iconst hZ dX8_killsBetween_77 ?_
              refine z_goto hZ (tgt := 82) dX8_killsBetween_78 rfl ?_
              first
                | (exfalso; omega)
                | exact k82a _ (by omega) (by omega)
                | exact k82b _ (by omega) (by omega)
      · refine z_iconst hZ dX8_killsBetween_30 ?_
        refine z_goto hZ (tgt := 85) dX8_killsBetween_31 rfl ?_
        have e2 : ¬ (g 2 ≠ -1 ∧ mnI (g 2) (g 1) < mxI (g 2) (g 1)) := fun z => by have := z.1; omega
        refine z_iret hZ rfl (Nat.le_of_ble_eq_true rfl) (Nat.le_of_ble_eq_true rfl) dX8_killsBetween_85 ⟨pv (by rw [if_neg e2]), rfl, by rw [if_neg e2]; exact hg, fr⟩
    · refine z_iconst hZ dX8_killsBetween_15 ?_
      refine z_goto hZ (tgt := 20) dX8_killsBetween_16 rfl ?_
      refine z_istore_n1 hZ dX8_killsBetween_20 (by decide) rfl ?_
      refine z_aload_n0 hZ dX8_killsBetween_21 ?_
      refine z_gf_X8_s hZ dX8_killsBetween_22 fl_X8_7 (by assumption) (by assumption) ?_
      refine z_iconst hZ dX8_killsBetween_25 ?_
      refine z_iald hZ dX8_killsBetween_26 (by assumption) (by assumption) (by omega) (by rfl) ?_
      refine z_if_ge hZ (tgt := 34) dX8_killsBetween_27 rfl (by omega) (fun hc27 => ?_) (fun hc27 => ?_)
      · refine z_aload_n0 hZ dX8_killsBetween_34 ?_
        refine z_iload_n1 hZ dX8_killsBetween_35 ?_
        refine z_if_eq hZ (tgt := 48) dX8_killsBetween_36 rfl (by omega) (fun hc36 => ?_) (fun hc36 => ?_)
        · refine z_aload_n0 hZ dX8_killsBetween_48 ?_
          refine z_gf_X8_s hZ dX8_killsBetween_49 fl_X8_7 (by assumption) (by assumption) ?_
          refine z_iconst hZ dX8_killsBetween_52 ?_
          refine z_iald hZ dX8_killsBetween_53 (by assumption) (by assumption) (by omega) (by rfl) ?_
          refine z_iload_n1 hZ dX8_killsBetween_54 ?_
          refine z_if_eq hZ (tgt := 67) dX8_killsBetween_55 rfl (by omega) (fun hc55 => ?_) (fun hc55 => ?_)
          · refine z_aload_n0 hZ dX8_killsBetween_67 ?_
            refine z_gf_X8_s hZ dX8_killsBetween_68 fl_X8_7 (by assumption) (by assumption) ?_
            refine z_iconst hZ dX8_killsBetween_71 ?_
            refine z_iald hZ dX8_killsBetween_72 (by assumption) (by assumption) (by omega) (by rfl) ?_
            refine z_iload_n1 hZ dX8_killsBetween_73 ?_
            refine z_if_ne hZ (tgt := 81) dX8_killsBetween_74 rfl (by omega) (fun hc74 => ?_) (fun hc74 => ?_)
            · refine z_iconst hZ dX8_killsBetween_81 ?_
              first
                | (exfalso; omega)
                | exact k82a _ (by omega) (by omega)
                | exact k82b _ (by omega) (by omega)
            · refine z_iconst hZ dX8_killsBetween_77 ?_
              refine z_goto hZ (tgt := 82) dX8_killsBetween_78 rfl ?_
              first
                | (exfalso; omega)
                | exact k82a _ (by omega) (by omega)
                | exact k82b _ (by omega) (by omega)
          · refine z_aload_n0 hZ dX8_killsBetween_58 ?_
            refine z_gf_X8_s hZ dX8_killsBetween_59 fl_X8_7 (by assumption) (by assumption) ?_
            refine z_iconst hZ dX8_killsBetween_62 ?_
            refine z_iald hZ dX8_killsBetween_63 (by assumption) (by assumption) (by omega) (by rfl) ?_
            refine z_goto hZ (tgt := 73) dX8_killsBetween_64 rfl ?_
            refine z_iload_n1 hZ dX8_killsBetween_73 ?_
            refine z_if_ne hZ (tgt := 81) dX8_killsBetween_74 rfl (by omega) (fun hc74 => ?_) (fun hc74 => ?_)
            · refine z_iconst hZ dX8_killsBetween_81 ?_
              first
                | (exfalso; omega)
                | exact k82a _ (by omega) (by omega)
                | exact k82b _ (by omega) (by omega)
            · refine z_iconst hZ dX8_killsBetween_77 ?_
              refine z_goto hZ (tgt := 82) dX8_killsBetween_78 rfl ?_
              first
                | (exfalso; omega)
                | exact k82a _ (by omega) (by omega)
                | exact k82b _ (by omega) (by omega)
        · refine z_aload_n0 hZ dX8_killsBetween_39 ?_
          refine z_gf_X8_s hZ dX8_killsBetween_40 fl_X8_7 (by assumption) (by assumption) ?_
          refine z_iconst hZ dX8_killsBetween_43 ?_
          refine z_iald hZ dX8_killsBetween_44 (by assumption) (by assumption) (by omega) (by rfl) ?_
          refine z_goto hZ (tgt := 54) dX8_killsBetween_45 rfl ?_
          refine z_iload_n1 hZ dX8_killsBetween_54 ?_
          refine z_if_eq hZ (tgt := 67) dX8_killsBetween_55 rfl (by omega) (fun hc55 => ?_) (fun hc55 => ?_)
          · refine z_aload_n0 hZ dX8_killsBetween_67 ?_
            refine z_gf_X8_s hZ dX8_killsBetween_68 fl_X8_7 (by assumption) (by assumption) ?_
            refine z_iconst hZ dX8_killsBetween_71 ?_
            refine z_iald hZ dX8_killsBetween_72 (by assumption) (by assumption) (by omega) (by rfl) ?_
            refine z_iload_n1 hZ dX8_killsBetween_73 ?_
            refine z_if_ne hZ (tgt := 81) dX8_killsBetween_74 rfl (by omega) (fun hc74 => ?_) (fun hc74 => ?_)
            · refine z_iconst hZ dX8_killsBetween_81 ?_
              first
                | (exfalso; omega)
                | exact k82a _ (by omega) (by omega)
                | exact k82b _ (by omega) (by omega)
            · refine z_iconst hZ dX8_killsBetween_77 ?_
              refine z_goto hZ (tgt := 82) dX8_killsBetween_78 rfl ?_
              first
                | (exfalso; omega)
                | exact k82a _ (by omega) (by omega)
                | exact k82b _ (by omega) (by omega)
          · refine z_aload_n0 hZ dX8_killsBetween_58 ?_
            refine z_gf_X8_s hZ dX8_killsBetween_59 fl_X8_7 (by assumption) (by assumption) ?_
            refine z_iconst hZ dX8_killsBetween_62 ?_
            refine z_iald hZ dX8_killsBetween_63 (by assumption) (by assumption) (by omega) (by rfl) ?_
            refine z_goto hZ (tgt := 73) dX8_killsBetween_64 rfl ?_
            refine z_iload_n1 hZ dX8_killsBetween_73 ?_
            refine z_if_ne hZ (tgt := 81) dX8_killsBetween_74 rfl (by omega) (fun hc74 => ?_) (fun hc74 => ?_)
            · refine z_iconst hZ dX8_killsBetween_81 ?_
              first
                | (exfalso; omega)
                | exact k82a _ (by omega) (by omega)
                | exact k82b _ (by omega) (by omega)
            · refine z_iconst hZ dX8_killsBetween_77 ?_
              refine z_goto hZ (tgt := 82) dX8_killsBetween_78 rfl ?_
              first
                | (exfalso; omega)
                | exact k82a _ (by omega) (by omega)
                | exact k82b _ (by omega) (by omega)
      · refine z_iconst hZ dX8_killsBetween_30 ?_
        refine z_goto hZ (tgt := 85) dX8_killsBetween_31 rfl ?_
        have e2 : ¬ (g 2 ≠ -1 ∧ mnI (g 2) (g 1) < mxI (g 2) (g 1)) := fun z => by have := z.1; omega
        refine z_iret hZ rfl (Nat.le_of_ble_eq_true rfl) (Nat.le_of_ble_eq_true rfl) dX8_killsBetween_85 ⟨pv (by rw [if_neg e2]), rfl, by rw [if_neg e2]; exact hg, fr⟩
  exact hgo
set_option maxRecDepth 100000 in
set_option maxHeartbeats 4000000 in
theorem m_X8_copiesBetween (l : Launch) {L : List Nat} {F : Nat → PE} {x a : Nat} {g : Int → Int} {kd : Int} (t : ms L F x a g kd) (v : vf g kd) : PM l yX8_copiesBetween cX8_copiesBetween 2 (some .int) (rm 3 0 0) L [.ref x] F (fun v9 L1 F1 => v9 = some (.int (iI (if g 2 ≠ -1 ∧ mnI (g 2) (g 1) < mxI (g 2) (g 1) then mxI (g 2) (g 1) - mnI (g 2) (g 1) else -1))) ∧ L = L1 ∧ F1 a = eI 0 18180 (if g 2 ≠ -1 ∧ mnI (g 2) (g 1) < mxI (g 2) (g 1) then vCol (mnI (g 2) (g 1)) (mxI (g 2) (g 1)) g else g) ∧ ∀ b, b ≠ a → F1 b = F b) (fun _ _ _ => False) := by
  refine pm_of cd_X8_copiesBetween (by decide +kernel) (Nat.le_of_ble_eq_true rfl) (fun ZZ hZ => ?_)
  have hgo : ZZ 0 0 0 [some (.ref x), none] [] L F := by
    obtain ⟨⟨hx, ha, hxa⟩, ⟨w1, w2, w3, w5, w6, w7, w8, w9, hF⟩, hg⟩ := id t
    have fr : fa a F F := fa.rf
    have r := v.1
    have em : g 1 < g 2 → mnI (g 2) (g 1) = g 1 ∧ mxI (g 2) (g 1) = g 2 := fun q => by unfold mnI mxI; rw [if_pos q, if_neg (by omega)]; exact ⟨rfl, rfl⟩
    have em2 : ¬ g 1 < g 2 → mnI (g 2) (g 1) = g 2 ∧ mxI (g 2) (g 1) = g 1 := fun q => by
      unfold mnI mxI
      rw [if_neg q]
      refine ⟨rfl, ?_⟩
      by_cases q2 : g 2 < g 1
      · rw [if_pos q2]
      · rw [if_neg q2]; omega
    have c1 : ∀ i j, vCol i j g 1 = g 1 := fun i j => vCol_at (by omega) (by omega)
    have c2 : ∀ i j, vCol i j g 2 = g 2 := fun i j => vCol_at (by omega) (by omega)
    have k86a : ∀ o, g 2 ≠ -1 → g 1 < g 2 → ZZ 0 0 86 [some (.ref x), o] [.int (iI (g 2)), .int (iI (g 1)), .ref x] L F := by
      intro o h1 h2
      have k1 := c1 (g 1) (g 2)
      have k2 := c2 (g 1) (g 2)
      refine z_cV hZ (As := [_, _]) rfl dX8_copiesBetween_86 ml_X8_74 wy_X8_collects (m_X8_collects l t (by omega) v.2.1.1 (by omega)) (by assumption) (by assumption) rfl ⟨Nat.le_of_ble_eq_true rfl, Nat.le_of_ble_eq_true rfl⟩ ⟨Nat.le_of_ble_eq_true rfl, Nat.le_of_ble_eq_true rfl⟩ (Nat.le_of_ble_eq_true rfl) (fun _ _ _ h => h.elim) (fun v86 L86 G86 hp86 => ?_)
      obtain ⟨rfl, rfl, hg, f86⟩ := hp86
      have hF := (f86 x hxa).trans hF
      have t := t.mv hg f86
      have fr := fa.tr fr f86
      refine z_aload_n0 hZ dX8_copiesBetween_89 ?_
      refine z_cV hZ (As := []) rfl dX8_copiesBetween_90 ml_X8_84 wy_X8_apart (m_X8_apart l t (by omega)) (by assumption) (by assumption) rfl ⟨Nat.le_of_ble_eq_true rfl, Nat.le_of_ble_eq_true rfl⟩ ⟨Nat.le_of_ble_eq_true rfl, Nat.le_of_ble_eq_true rfl⟩ (Nat.le_of_ble_eq_true rfl) (fun _ _ _ h => h.elim) (fun v90 L90 G90 hp90 => ?_)
      obtain ⟨rfl, rfl, rfl⟩ := hp90
      exact z_iret hZ rfl (Nat.le_of_ble_eq_true rfl) (Nat.le_of_ble_eq_true rfl) dX8_copiesBetween_93 (by
            rw [(em h2).1, (em h2).2]
            rw [if_pos ⟨h1, h2⟩, if_pos ⟨h1, h2⟩]
            exact ⟨pv (by rw [k1, k2]; unfold abI; rw [if_pos (by omega)]), rfl, hg, fr⟩)
    have k86b : ∀ o, g 2 ≠ -1 → g 2 < g 1 → ZZ 0 0 86 [some (.ref x), o] [.int (iI (g 1)), .int (iI (g 2)), .ref x] L F := by
      intro o h1 h2
      have k1 := c1 (g 2) (g 1)
      have k2 := c2 (g 2) (g 1)
      refine z_cV hZ (As := [_, _]) rfl dX8_copiesBetween_86 ml_X8_74 wy_X8_collects (m_X8_collects l t (by omega) v.2.1.1 (by omega)) (by assumption) (by assumption) rfl ⟨Nat.le_of_ble_eq_true rfl, Nat.le_of_ble_eq_true rfl⟩ ⟨Nat.le_of_ble_eq_true rfl, Nat.le_of_ble_eq_true rfl⟩ (Nat.le_of_ble_eq_true rfl) (fun _ _ _ h => h.elim) (fun v86 L86 G86 hp86 => ?_)
      obtain ⟨rfl, rfl, hg, f86⟩ := hp86
      have hF := (f86 x hxa).trans hF
      have t := t.mv hg f86
      have fr := fa.tr fr f86
      refine z_aload_n0 hZ dX8_copiesBetween_89 ?_
      refine z_cV hZ (As := []) rfl dX8_copiesBetween_90 ml_X8_84 wy_X8_apart (m_X8_apart l t (by omega)) (by assumption) (by assumption) rfl ⟨Nat.le_of_ble_eq_true rfl, Nat.le_of_ble_eq_true rfl⟩ ⟨Nat.le_of_ble_eq_true rfl, Nat.le_of_ble_eq_true rfl⟩ (Nat.le_of_ble_eq_true rfl) (fun _ _ _ h => h.elim) (fun v90 L90 G90 hp90 => ?_)
      obtain ⟨rfl, rfl, rfl⟩ := hp90
      exact z_iret hZ rfl (Nat.le_of_ble_eq_true rfl) (Nat.le_of_ble_eq_true rfl) dX8_copiesBetween_93 (by
            rw [(em2 (by omega)).1, (em2 (by omega)).2]
            rw [if_pos ⟨h1, h2⟩, if_pos ⟨h1, h2⟩]
            exact ⟨pv (by rw [k1, k2]; unfold abI; rw [if_neg (by omega)]; omega), rfl, hg, fr⟩)
    refine z_aload_n0 hZ dX8_copiesBetween_0 ?_
    refine z_gf_X8_s hZ dX8_copiesBetween_1 fl_X8_7 (by assumption) (by assumption) ?_
    refine z_iconst hZ dX8_copiesBetween_4 ?_
    refine z_iald hZ dX8_copiesBetween_5 (by assumption) (by assumption) (by omega) (by rfl) ?_
    refine z_if_lt hZ (tgt := 24) dX8_copiesBetween_6 rfl (by omega) (fun hc6 => ?_) (fun hc6 => ?_)
    · refine z_iconst hZ dX8_copiesBetween_24 ?_
      exact z_iret hZ rfl (Nat.le_of_ble_eq_true rfl) (Nat.le_of_ble_eq_true rfl) dX8_copiesBetween_25 (by
            have e2 : ¬ (g 2 ≠ -1 ∧ mnI (g 2) (g 1) < mxI (g 2) (g 1)) := fun z => by have e := em2 (by omega); have z1 := z.1; have z2 := z.2; rw [e.1, e.2] at z2; omega
            exact ⟨pv (by rw [if_neg e2]), rfl, by rw [if_neg e2]; exact hg, fr⟩)
    · refine z_aload_n0 hZ dX8_copiesBetween_9 ?_
      refine z_gf_X8_s hZ dX8_copiesBetween_10 fl_X8_7 (by assumption) (by assumption) ?_
      refine z_iconst hZ dX8_copiesBetween_13 ?_
      refine z_iald hZ dX8_copiesBetween_14 (by assumption) (by assumption) (by omega) (by rfl) ?_
      refine z_aload_n0 hZ dX8_copiesBetween_15 ?_
      refine z_gf_X8_s hZ dX8_copiesBetween_16 fl_X8_7 (by assumption) (by assumption) ?_
      refine z_iconst hZ dX8_copiesBetween_19 ?_
      refine z_iald hZ dX8_copiesBetween_20 (by assumption) (by assumption) (by omega) (by rfl) ?_
      refine z_icmp_ne hZ (tgt := 26) dX8_copiesBetween_21 rfl (by omega) (fun hc21 => ?_) (fun hc21 => ?_)
      · refine z_aload_n0 hZ dX8_copiesBetween_26 ?_
        refine z_gf_X8_s hZ dX8_copiesBetween_27 fl_X8_7 (by assumption) (by assumption) ?_
        refine z_iconst hZ dX8_copiesBetween_30 ?_
        refine z_iald hZ dX8_copiesBetween_31 (by assumption) (by assumption) (by omega) (by rfl) ?_
        refine z_aload_n0 hZ dX8_copiesBetween_32 ?_
        refine z_gf_X8_s hZ dX8_copiesBetween_33 fl_X8_7 (by assumption) (by assumption) ?_
        refine z_iconst hZ dX8_copiesBetween_36 ?_
        refine z_iald hZ dX8_copiesBetween_37 (by assumption) (by assumption) (by omega) (by rfl) ?_
        refine z_icmp_le hZ (tgt := 45) dX8_copiesBetween_38 rfl (by omega) (fun hc38 => ?_) (fun hc38 => ?_)
        · refine z_iconst hZ dX8_copiesBetween_45 ?_
          refine z_istore_n1 hZ dX8_copiesBetween_46 (by decide) rfl ?_
          refine z_aload_n0 hZ dX8_copiesBetween_47 ?_
          refine z_iload_n1 hZ dX8_copiesBetween_48 ?_
          refine z_if_eq hZ (tgt := 61) dX8_copiesBetween_49 rfl (by omega) (fun hc49 => ?_) (fun hc49 => ?_)
          · refine z_aload_n0 hZ dX8_copiesBetween_61 ?_
            refine z_gf_X8_s hZ dX8_copiesBetween_62 fl_X8_7 (by assumption) (by assumption) ?_
            refine z_iconst hZ dX8_copiesBetween_65 ?_
            refine z_iald hZ dX8_copiesBetween_66 (by assumption) (by assumption) (by omega) (by rfl) ?_
            refine z_iload_n1 hZ dX8_copiesBetween_67 ?_
            refine z_if_eq hZ (tgt := 80) dX8_copiesBetween_68 rfl (by omega) (fun hc68 => ?_) (fun hc68 => ?_)
            · refine z_aload_n0 hZ dX8_copiesBetween_80 ?_
              refine z_gf_X8_s hZ dX8_copiesBetween_81 fl_X8_7 (by assumption) (by assumption) ?_
              refine z_iconst hZ dX8_copiesBetween_84 ?_
              refine z_iald hZ dX8_copiesBetween_85 (by assumption) (by assumption) (by omega) (by rfl) ?_
              first
                | (exfalso; omega)
                | exact k86a _ (by omega) (by omega)
                | exact k86b _ (by omega) (by omega)
            · refine z_aload_n0 hZ dX8_copiesBetween_71 ?_
              refine z_gf_X8_s hZ dX8_copiesBetween_72 fl_X8_7 (by assumption) (by assumption) ?_
              refine z_iconst hZ dX8_copiesBetween_75 ?_
              refine z_iald hZ dX8_copiesBetween_76 (by assumption) (by assumption) (by omega) (by rfl) ?_
              refine z_goto hZ (tgt := 86) dX8_copiesBetween_77 rfl ?_
              first
                | (exfalso; omega)
                | exact k86a _ (by omega) (by omega)
                | exact k86b _ (by omega) (by omega)
          · refine z_aload_n0 hZ dX8_copiesBetween_52 ?_
            refine z_gf_X8_s hZ dX8_copiesBetween_53 fl_X8_7 (by assumption) (by assumption) ?_
            refine z_iconst hZ dX8_copiesBetween_56 ?_
            refine z_iald hZ dX8_copiesBetween_57 (by assumption) (by assumption) (by omega) (by rfl) ?_
            refine z_goto hZ (tgt := 67) dX8_copiesBetween_58 rfl ?_
            refine z_iload_n1 hZ dX8_copiesBetween_67 ?_
            refine z_if_eq hZ (tgt := 80) dX8_copiesBetween_68 rfl (by omega) (fun hc68 => ?_) (fun hc68 => ?_)
            · refine z_aload_n0 hZ dX8_copiesBetween_80 ?_
              refine z_gf_X8_s hZ dX8_copiesBetween_81 fl_X8_7 (by assumption) (by assumption) ?_
              refine z_iconst hZ dX8_copiesBetween_84 ?_
              refine z_iald hZ dX8_copiesBetween_85 (by assumption) (by assumption) (by omega) (by rfl) ?_
              first
                | (exfalso; omega)
                | exact k86a _ (by omega) (by omega)
                | exact k86b _ (by omega) (by omega)
            · refine z_aload_n0 hZ dX8_copiesBetween_71 ?_
              refine z_gf_X8_s hZ dX8_copiesBetween_72 fl_X8_7 (by assumption) (by assumption) ?_
              refine z_iconst hZ dX8_copiesBetween_75 ?_
              refine z_iald hZ dX8_copiesBetween_76 (by assumption) (by assumption) (by omega) (by rfl) ?_
              refine z_goto hZ (tgt := 86) dX8_copiesBetween_77 rfl ?_
              first
                | (exfalso; omega)
                | exact k86a _ (by omega) (by omega)
                | exact k86b _ (by omega) (by omega)
        · refine z_iconst hZ dX8_copiesBetween_41 ?_
          refine z_goto hZ (tgt := 46) dX8_copiesBetween_42 rfl ?_
          refine z_istore_n1 hZ dX8_copiesBetween_46 (by decide) rfl ?_
          refine z_aload_n0 hZ dX8_copiesBetween_47 ?_
          refine z_iload_n1 hZ dX8_copiesBetween_48 ?_
          refine z_if_eq hZ (tgt := 61) dX8_copiesBetween_49 rfl (by omega) (fun hc49 => ?_) (fun hc49 => ?_)
          · refine z_aload_n0 hZ dX8_copiesBetween_61 ?_
            refine z_gf_X8_s hZ dX8_copiesBetween_62 fl_X8_7 (by assumption) (by assumption) ?_
            refine z_iconst hZ dX8_copiesBetween_65 ?_
            refine z_iald hZ dX8_copiesBetween_66 (by assumption) (by assumption) (by omega) (by rfl) ?_
            refine z_iload_n1 hZ dX8_copiesBetween_67 ?_
            refine z_if_eq hZ (tgt := 80) dX8_copiesBetween_68 rfl (by omega) (fun hc68 => ?_) (fun hc68 => ?_)
            · refine z_aload_n0 hZ dX8_copiesBetween_80 ?_
              refine z_gf_X8_s hZ dX8_copiesBetween_81 fl_X8_7 (by assumption) (by assumption) ?_
              refine z_iconst hZ dX8_copiesBetween_84 ?_
              refine z_iald hZ dX8_copiesBetween_85 (by assumption) (by assumption) (by omega) (by rfl) ?_
              first
                | (exfalso; omega)
                | exact k86a _ (by omega) (by omega)
                | exact k86b _ (by omega) (by omega)
            · refine z_aload_n0 hZ dX8_copiesBetween_71 ?_
              refine z_gf_X8_s hZ dX8_copiesBetween_72 fl_X8_7 (by assumption) (by assumption) ?_
              refine z_iconst hZ dX8_copiesBetween_75 ?_
              refine z_iald hZ dX8_copiesBetween_76 (by assumption) (by assumption) (by omega) (by rfl) ?_
              refine z_goto hZ (tgt := 86) dX8_copiesBetween_77 rfl ?_
              first
                | (exfalso; omega)
                | exact k86a _ (by omega) (by omega)
                | exact k86b _ (by omega) (by omega)
          · refine z_aload_n0 hZ dX8_copiesBetween_52 ?_
            refine z_gf_X8_s hZ dX8_copiesBetween_53 fl_X8_7 (by assumption) (by assumption) ?_
            refine z_iconst hZ dX8_copiesBetween_56 ?_
            refine z_iald hZ dX8_copiesBetween_57 (by assumption) (by assumption) (by omega) (by rfl) ?_
            refine z_goto hZ (tgt := 67) dX8_copiesBetween_58 rfl ?_
            refine z_iload_n1 hZ dX8_copiesBetween_67 ?_
            refine z_if_eq hZ (tgt := 80) dX8_copiesBetween_68 rfl (by omega) (fun hc68 => ?_) (fun hc68 => ?_)
            · refine z_aload_n0 hZ dX8_copiesBetween_80 ?_
              refine z_gf_X8_s hZ dX8_copiesBetween_81 fl_X8_7 (by assumption) (by assumption) ?_
              refine z_iconst hZ dX8_copiesBetween_84 ?_
              refine z_iald hZ dX8_copiesBetween_85 (by assumption) (by assumption) (by omega) (by rfl) ?_
              first
                | (exfalso; omega)
                | exact k86a _ (by omega) (by omega)
                | exact k86b _ (by omega) (by omega)
            · refine z_aload_n0 hZ dX8_copiesBetween_71 ?_
              refine z_gf_X8_s hZ dX8_copiesBetween_72 fl_X8_7 (by assumption) (by assumption) ?_
              refine z_iconst hZ dX8_copiesBetween_75 ?_
              refine z_iald hZ dX8_copiesBetween_76 (by assumption) (by assumption) (by omega) (by rfl) ?_
              refine z_goto hZ (tgt := 86) dX8_copiesBetween_77 rfl ?_
              first
                | (exfalso; omega)
                | exact k86a _ (by omega) (by omega)
                | exact k86b _ (by omega) (by omega)
      · refine z_iconst hZ dX8_copiesBetween_24 ?_
        exact z_iret hZ rfl (Nat.le_of_ble_eq_true rfl) (Nat.le_of_ble_eq_true rfl) dX8_copiesBetween_25 (by
            have e2 : ¬ (g 2 ≠ -1 ∧ mnI (g 2) (g 1) < mxI (g 2) (g 1)) := fun z => by have e := em2 (by omega); have z1 := z.1; have z2 := z.2; rw [e.1, e.2] at z2; omega
            exact ⟨pv (by rw [if_neg e2]), rfl, by rw [if_neg e2]; exact hg, fr⟩)
  exact hgo

