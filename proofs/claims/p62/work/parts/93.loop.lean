/-! THE LAW'S LOOP. -/
set_option maxRecDepth 100000 in
set_option maxHeartbeats 8000000 in
theorem lw_loop (l : Launch) (hfl : l.flags = flags0) {ZZ : ZT} {tbl : List ExceptionTableEntry} {nm ds : String} {Φ : State → Prop} {post : Option Value → List Nat → (Nat → PE) → Prop} {xp : String → List Nat → (Nat → PE) → Prop} (hZ : ZZ = Zq Φ tbl l ⟨"DragonRingLaw", nm, ds⟩ cL_law 13 (some .boolean) room_1 [] post xp) (hΦ : ∀ s, Φ s → va_Nc xS xA s) {b Ls : Nat} {sx : Int → Int} (hsx : ∀ s, Φ s → va_X b Ls (fun j => iI (sx (j : Int))) s s.heap ∧ b < s.heap.size) (hLs : Ls ≤ 260) (hpost : ∀ L F, post (some (.int (iI 1))) L F) {L : List Nat} {K : Nat → Nat} : ∀ (m : Nat) (i : Int) (a0 b0 : Nat) (F : Nat → PE) (x4 x5 x6 x7 x8 x9 x10 x11 x12 : Option Value) (v : Int → Int) (kd sv : Int) (H Q : Int → Int → Int) (kp bf : Int → Int),
    (60 - i).toNat < m → 0 ≤ i → i ≤ 60 → (a0 : Int) ≤ 2000 + 1000 * i → (b0 : Int) ≤ 30000 + 6000 * i → dr L F K v kd sv H kp Q 0 bf → jv v kd → ZZ a0 b0 52 [some (.ref b), some (.ref (K 0)), some (.int (iI 1)), some (.int (iI i)), x4, x5, x6, x7, x8, x9, x10, x11, x12] [] L F := by
  intro m
  induction m with
  | zero => intro i a0 b0 F x4 x5 x6 x7 x8 x9 x10 x11 x12 v kd sv H Q kp bf hm; omega
  | succ m ih =>
    intro i a0 b0 F x4 x5 x6 x7 x8 x9 x10 x11 x12 v kd sv H Q kp bf hm i0 i1 ha hb t hj
    have fx := dr.fx t
    have r := fx.1.1
    have hsv := fx.2.1
    have hK0 := dr.L t 0 (by omega)
    have hF0 := (dr.S t).2.1
    obtain ⟨gr, hgr⟩ : ∃ gr : Int, gr = if kd = 1 then 1 else 0 := ⟨_, rfl⟩
    have gg : (kd = 1 ∧ gr = 1) ∨ (kd ≠ 1 ∧ gr = 0) := by
      by_cases q : kd = 1
      · exact Or.inl ⟨q, by rw [hgr, if_pos q]⟩
      · exact Or.inr ⟨q, by rw [hgr, if_neg q]⟩
    have k412 : ∀ (a1 b1 : Nat) (F1 : Nat → PE) (y4 y5 y6 y7 y8 y9 y10 y11 y12 : Option Value) (v2 : Int → Int) (kd2 sv2 : Int) (H2 Q2 : Int → Int → Int) (kp2 bf2 : Int → Int), a1 ≤ a0 + 1000 → b1 ≤ b0 + 6000 → i < 60 → dr L F1 K v2 kd2 sv2 H2 kp2 Q2 0 bf2 → jv v2 kd2 → ZZ a1 b1 412 [some (.ref b), some (.ref (K 0)), some (.int (iI 1)), some (.int (iI i)), y4, y5, y6, y7, y8, y9, y10, y11, y12] [] L F1 := by
      intro a1 b1 F1 y4 y5 y6 y7 y8 y9 y10 y11 y12 v2 kd2 sv2 H2 Q2 kp2 bf2 h1 h2 i2 t2 hj2
      refine zq_iinc3 hZ dL_law_412 (by decide) rfl ?_
      refine zq_goto hZ (tgt := 52) dL_law_415 rfl ?_
      exact ih (i + 1) _ _ _ _ _ _ _ _ _ _ _ _ v2 kd2 sv2 H2 Q2 kp2 bf2 (by omega) (by omega) (by omega) (by omega) (by omega) t2 hj2
    have k87 : ∀ (y : Int) (a1 b1 : Nat), 0 ≤ y ∧ y ≤ 2147483647 → i < 60 → a1 ≤ a0 → b1 ≤ b0 → ZZ a1 b1 87 [some (.ref b), some (.ref (K 0)), some (.int (iI 1)), some (.int (iI i)), x4, x5, x6, x7, x8, x9, x10, x11, x12] [.int (iI y)] L F := by
      intro y a1 b1 hy i2 ha1 hb1
      refine zq_istore4 hZ dL_law_87 (by decide) rfl ?_
      refine zq_aload_n1 hZ dL_law_89 ?_
      refine zq_cNr hZ hΦ (As := [_]) rfl dL_law_90 ml_L_267 wy_L_numbers (m_L_numbers l hfl t) ⟨Nat.le_of_ble_eq_true rfl, Nat.le_of_ble_eq_true rfl⟩ (by omega) (Nat.le_of_ble_eq_true rfl) (fun v90 L90 F90 hp90 => ?_)
      obtain ⟨rfl, rfl, rfl⟩ := hp90
      refine zq_istore5 hZ dL_law_93 (by decide) rfl ?_
      refine zq_aload_n1 hZ dL_law_95 ?_
      refine zq_cVr hZ (As := []) rfl dL_law_96 ml_L_270 wy_X7_savedStates (m_X7_savedStates l t) hK0 hF0 rfl ⟨Nat.le_of_ble_eq_true rfl, Nat.le_of_ble_eq_true rfl⟩ (by omega) (Nat.le_of_ble_eq_true rfl) (fun _ _ _ h => h.elim) (fun v96 L96 F96 hp96 => ?_)
      obtain ⟨rfl, rfl, rfl⟩ := hp96
      refine zq_istore6 hZ dL_law_99 (by decide) rfl ?_
      refine zq_aload_n1 hZ dL_law_101 ?_
      refine zq_cVr hZ (As := []) rfl dL_law_102 ml_L_236 wy_X7_isGrowing (m_X7_isGrowing l t) hK0 hF0 rfl ⟨Nat.le_of_ble_eq_true rfl, Nat.le_of_ble_eq_true rfl⟩ (by omega) (Nat.le_of_ble_eq_true rfl) (fun _ _ _ h => h.elim) (fun v102 L102 F102 hp102 => ?_)
      obtain ⟨rfl, rfl, rfl⟩ := hp102
      rw [← hgr]
      refine zq_istore7 hZ dL_law_105 (by decide) rfl ?_
      refine zq_aload_n1 hZ dL_law_107 ?_
      refine zq_cVr hZ (As := []) rfl dL_law_108 ml_L_186 wy_X7_hoards (m_X7_hoards l t) hK0 hF0 rfl ⟨Nat.le_of_ble_eq_true rfl, Nat.le_of_ble_eq_true rfl⟩ (by omega) (Nat.le_of_ble_eq_true rfl) (fun _ _ _ h => h.elim) (fun v108 L108 F108 hp108 => ?_)
      obtain ⟨rfl, rfl, rfl⟩ := hp108
      refine zq_istore8 hZ dL_law_111 (by decide) rfl ?_
      refine zq_aload_n1 hZ dL_law_113 ?_
      refine zq_cVr hZ (As := []) rfl dL_law_114 ml_L_195 wy_X7_killed (m_X7_killed l t) hK0 hF0 rfl ⟨Nat.le_of_ble_eq_true rfl, Nat.le_of_ble_eq_true rfl⟩ (by omega) (Nat.le_of_ble_eq_true rfl) (fun _ _ _ h => h.elim) (fun v114 L114 F114 hp114 => ?_)
      obtain ⟨rfl, rfl, rfl⟩ := hp114
      refine zq_istore9 hZ dL_law_117 (by decide) rfl ?_
      refine zq_aload_n1 hZ dL_law_119 ?_
      refine zq_iload4 hZ dL_law_120 ?_
      refine zq_cNr hZ hΦ (As := [_, _]) rfl dL_law_122 ml_L_273 wy_L_acts (m_L_acts l hfl t hj hy) ⟨Nat.le_of_ble_eq_true rfl, Nat.le_of_ble_eq_true rfl⟩ (by omega) (Nat.le_of_ble_eq_true rfl) (fun v122 L122 F122 hp122 => ?_)
      obtain ⟨rfl, told, n1, bf1, rfl, trg, hp122⟩ := hp122
      rcases hp122 with ⟨neg, t1⟩ | ⟨nn, v1, k1, t1, hj1, hkr⟩
      · refine zq_istore10 hZ dL_law_125 (by decide) rfl ?_
        refine zq_aload_n1 hZ dL_law_127 ?_
        refine zq_cVr hZ (As := []) rfl dL_law_128 ml_L_276 wy_X7_clearBuffer (m_X7_clearBuffer l t1) (dr.L t1 0 (by omega)) (dr.S t1).2.1 rfl ⟨Nat.le_of_ble_eq_true rfl, Nat.le_of_ble_eq_true rfl⟩ (by omega) (Nat.le_of_ble_eq_true rfl) (fun _ _ _ h => h.elim) (fun v128 L128 F128 hp128 => ?_)
        obtain ⟨rfl, rfl, t2⟩ := hp128
        have hK2 := dr.L t2 0 (by omega)
        have hF2 := (dr.S t2).2.1
        refine zq_pop hZ dL_law_131 rfl ?_
        refine zq_iload10 hZ dL_law_132 ?_
        refine zq_if_ge hZ (tgt := 173) dL_law_134 rfl (by omega) (fun hc134 => ?_) (fun hc134 => ?_)
        · exfalso; omega
        · refine zq_aload_n1 hZ dL_law_137 ?_
          refine zq_cNr hZ hΦ (As := [_]) rfl dL_law_138 ml_L_267 wy_L_numbers (m_L_numbers l hfl t2) ⟨Nat.le_of_ble_eq_true rfl, Nat.le_of_ble_eq_true rfl⟩ (by omega) (Nat.le_of_ble_eq_true rfl) (fun v138 L138 F138 hp138 => ?_)
          obtain ⟨rfl, rfl, rfl⟩ := hp138
          refine zq_iload5 hZ dL_law_141 ?_
          refine zq_icmp_ne_raw hZ (tgt := 168) dL_law_143 rfl (fun hc143 => ?_) (fun hc143 => ?_)
          · exact absurd rfl hc143
          · refine zq_aload_n1 hZ dL_law_146 ?_
            refine zq_cVr hZ (As := []) rfl dL_law_147 ml_L_270 wy_X7_savedStates (m_X7_savedStates l t2) hK2 hF2 rfl ⟨Nat.le_of_ble_eq_true rfl, Nat.le_of_ble_eq_true rfl⟩ (by omega) (Nat.le_of_ble_eq_true rfl) (fun _ _ _ h => h.elim) (fun v147 L147 F147 hp147 => ?_)
            obtain ⟨rfl, rfl, rfl⟩ := hp147
            refine zq_iload6 hZ dL_law_150 ?_
            refine zq_icmp_ne_raw hZ (tgt := 168) dL_law_152 rfl (fun hc152 => ?_) (fun hc152 => ?_)
            · exact absurd rfl hc152
            · refine zq_aload_n1 hZ dL_law_155 ?_
              refine zq_cVr hZ (As := []) rfl dL_law_156 ml_L_236 wy_X7_isGrowing (m_X7_isGrowing l t2) hK2 hF2 rfl ⟨Nat.le_of_ble_eq_true rfl, Nat.le_of_ble_eq_true rfl⟩ (by omega) (Nat.le_of_ble_eq_true rfl) (fun _ _ _ h => h.elim) (fun v156 L156 F156 hp156 => ?_)
              obtain ⟨rfl, rfl, rfl⟩ := hp156
              rw [← hgr]
              refine zq_iload7 hZ dL_law_159 ?_
              refine zq_icmp_ne_raw hZ (tgt := 168) dL_law_161 rfl (fun hc161 => ?_) (fun hc161 => ?_)
              · exact absurd rfl hc161
              · refine zq_iconst hZ dL_law_164 ?_
                refine zq_goto hZ (tgt := 169) dL_law_165 rfl ?_
                refine zq_istore_n2 hZ dL_law_169 (by decide) rfl ?_
                refine zq_goto hZ (tgt := 412) dL_law_170 rfl ?_
                exact k412 _ _ _ _ _ _ _ _ _ _ _ _ v kd sv H Q kp bf1 (by omega) (by omega) i2 t2 hj
      · refine zq_istore10 hZ dL_law_125 (by decide) rfl ?_
        refine zq_aload_n1 hZ dL_law_127 ?_
        refine zq_cVr hZ (As := []) rfl dL_law_128 ml_L_276 wy_X7_clearBuffer (m_X7_clearBuffer l t1) (dr.L t1 0 (by omega)) (dr.S t1).2.1 rfl ⟨Nat.le_of_ble_eq_true rfl, Nat.le_of_ble_eq_true rfl⟩ (by omega) (Nat.le_of_ble_eq_true rfl) (fun _ _ _ h => h.elim) (fun v128 L128 F128 hp128 => ?_)
        obtain ⟨rfl, rfl, t2⟩ := hp128
        have hK2 := dr.L t2 0 (by omega)
        have hF2 := (dr.S t2).2.1
        refine zq_pop hZ dL_law_131 rfl ?_
        refine zq_iload10 hZ dL_law_132 ?_
        refine zq_if_ge hZ (tgt := 173) dL_law_134 rfl (by omega) (fun hc134 => ?_) (fun hc134 => ?_)
        · exact lw_done l hfl hZ hΦ fx.1 gg hy hsv (A := a1 + 812) (B := b1 + 4900) (by omega) (by omega) (fun a2 b2 F2 x11 x12 v2 kd2 sv2 H2 Q2 kp2 bf2 g1 g2 g3 g4 => k412 _ _ _ _ _ _ _ _ _ _ _ _ v2 kd2 sv2 H2 Q2 kp2 bf2 (by omega) (by omega) i2 g3 g4) t2 hj1 hkr (by omega) _ _ (by omega) (by omega) _ _
        · exfalso; omega
    have k418 : ZZ a0 b0 418 [some (.ref b), some (.ref (K 0)), some (.int (iI 1)), some (.int (iI i)), x4, x5, x6, x7, x8, x9, x10, x11, x12] [] L F := by
      refine zq_iload_n2 hZ dL_law_418 ?_
      refine zq_if_eq hZ (tgt := 433) dL_law_419 rfl (by omega) (fun hc419 => ?_) (fun hc419 => ?_)
      · exfalso; omega
      · refine zq_aload_n1 hZ dL_law_422 ?_
        refine zq_cNr hZ hΦ (As := [_]) rfl dL_law_423 ml_L_259 wy_L_hangs (m_L_hangs l hfl t hj) ⟨Nat.le_of_ble_eq_true rfl, Nat.le_of_ble_eq_true rfl⟩ (by omega) (Nat.le_of_ble_eq_true rfl) (fun v423 L423 F423 hp423 => ?_)
        obtain ⟨rfl, rfl, rfl⟩ := hp423
        refine zq_if_eq hZ (tgt := 433) dL_law_426 rfl (by omega) (fun hc426 => ?_) (fun hc426 => ?_)
        · exfalso; omega
        · refine zq_iconst hZ dL_law_429 ?_
          refine zq_goto hZ (tgt := 434) dL_law_430 rfl ?_
          exact zq_zret hZ rfl (by show _ ≤ 600172; omega) (by show _ ≤ 7300668; omega) dL_law_434 (by omega) (by exact hpost _ _)
    refine zq_iload_n3 hZ dL_law_52 ?_
    refine zq_bipush hZ dL_law_53 rfl ?_
    refine zq_icmp_ge hZ (tgt := 418) dL_law_55 rfl (by omega) (fun hc55 => ?_) (fun hc55 => ?_)
    · exact k418
    · refine zq_iload_n2 hZ dL_law_58 ?_
      refine zq_if_eq hZ (tgt := 418) dL_law_59 rfl (by omega) (fun hc59 => ?_) (fun hc59 => ?_)
      · exfalso; omega
      · refine zq_iload_n3 hZ dL_law_62 ?_
        refine zq_bipush hZ dL_law_63 rfl ?_
        refine zq_icmp_ge hZ (tgt := 82) dL_law_65 rfl (by omega) (fun hc65 => ?_) (fun hc65 => ?_)
        · refine zq_aload_n0 hZ dL_law_82 ?_
          refine zq_iload_n3 hZ dL_law_83 ?_
          refine zq_cSf hZ (Φ1 := cPh b Ls sx L) cPh.calling (cPh.of hsx) (As := [_, _]) rfl dL_law_84 ml_L_263 wy_L_cell (m_L_cell l hLs (by omega)) ⟨Nat.le_of_ble_eq_true rfl, Nat.le_of_ble_eq_true rfl⟩ (by show _ + 0 ≤ 600172 ∧ _ + 0 ≤ 7300668; omega) (Nat.le_of_ble_eq_true rfl) (fun v84 L84 F84 hp84 => ?_)
          obtain ⟨⟨y, rfl, y0, y1⟩, rfl, rfl⟩ := hp84
          exact k87 _ _ _ (by omega) (by omega) (by show _ + 0 ≤ a0; omega) (by show _ + 0 ≤ b0; omega)
        · refine zq_aload_n0 hZ dL_law_68 ?_
          refine zq_iload_n3 hZ dL_law_69 ?_
          refine zq_cSf hZ (Φ1 := cPh b Ls sx L) cPh.calling (cPh.of hsx) (As := [_, _]) rfl dL_law_70 ml_L_263 wy_L_cell (m_L_cell l hLs (by omega)) ⟨Nat.le_of_ble_eq_true rfl, Nat.le_of_ble_eq_true rfl⟩ (by show _ + 0 ≤ 600172 ∧ _ + 0 ≤ 7300668; omega) (Nat.le_of_ble_eq_true rfl) (fun v70 L70 F70 hp70 => ?_)
          obtain ⟨⟨y, rfl, y0, y1⟩, rfl, rfl⟩ := hp70
          refine zq_bipush hZ dL_law_73 rfl ?_
          refine zq_idiv hZ dL_law_75 (by omega) ?_
          refine zq_bipush hZ dL_law_76 rfl ?_
          refine zq_imul hZ dL_law_78 ?_
          refine zq_goto hZ (tgt := 87) dL_law_79 rfl ?_
          exact k87 _ _ _ (by omega) (by omega) (by show _ + 0 ≤ a0; omega) (by show _ + 0 ≤ b0; omega)
