/-! THE DIGEST. -/
theorem dr.up {L L1 : List Nat} {F : Nat → PE} {K : Nat → Nat} {v : Int → Int} {kd sv n : Int} {H Q : Int → Int → Int} {kp bf : Int → Int} (t : dr L F K v kd sv H kp Q n bf) (u : ∀ b, b ∈ L → b ∈ L1) : dr L1 F K v kd sv H kp Q n bf := by
  obtain ⟨fi, W, D, ⟨⟨h1, h2⟩, t2, t3, t4, t5, t6, t7, t8⟩, hl, hk⟩ := t
  exact ⟨fi, W, D, ⟨⟨fun i hi => u _ (h1 i hi), h2⟩, t2, t3, t4, t5, t6, t7.up u, fun k hk => (t8 k hk).up u⟩, hl, hk⟩
/-- a contract that forgets the cells that it made -/
theorem pm_fg {l : Launch} {y : MethodName} {cc : ByteArray} {nL : Nat} {ret : Option FieldType} {R : Room} {L : List Nat} {av : List Value} {F : Nat → PE} {post post2 : Option Value → List Nat → (Nat → PE) → Prop} (h : PM l y cc nL ret R L av F post (fun _ _ _ => False)) (hp : ∀ v L1 F1, post v L1 F1 → (∃ X, L1 = L ++ X) ∧ post2 v L F1) :
    PM l y cc nL ret R L av F post2 (fun _ _ _ => False) := by
  refine ⟨h.1, fun D κ sz => ?_⟩
  refine MetFree.mono (h.2 D κ sz) (fun _ _ z => z) (fun _ _ _ _ _ z => z) ?_
  rintro a s o t ⟨ha, hsz, hP, hD, hK⟩ hq
  rcases hq with ⟨⟨v, L2, F2, ho, hq, hP2, hD2, hF⟩, Ls, fe, hL⟩ | ⟨q, ho, E, ce, Ls, ⟨L2, F2, hq, hP2, hD2, hF⟩, h1, h2, h3, h4, h5, h6⟩
  · obtain ⟨⟨X, rfl⟩, z⟩ := hp _ _ _ hq
    exact Or.inl ⟨⟨v, L, F2, ho, z, pw_subP hP2, pw_subD hD2, hF⟩, Ls, fe, hL⟩
  · exact hq.elim
theorem m_X7_bitsV (l : Launch) {L : List Nat} {F : Nat → PE} {v : Int → Int} {kd : Int} (hi : iv v kd) (h3 : 0 ≤ v 3 ∧ v 3 ≤ 8) : PM l yX7_bitsOf cX7_bitsOf 7 (some .long) (rm 1 0 0) L [.double (mnD v)] F (fun v9 L1 F1 => v9 = some (.long (lL (btA v))) ∧ L = L1 ∧ F = F1) (fun _ _ _ => False) := by
  by_cases q : 0 < v 3
  · obtain ⟨z1, z2, z3, z4, z5, z6⟩ := mn_ok hi ⟨q, by omega⟩
    have z := m_X7_bitsOf l (L := L) (F := F) z2 z3 z4 z5
    rw [z6] at z
    exact z
  · have em : mnD v = FP.dconst0 := if_neg q
    have eb : btA v = 0 := if_neg q
    rw [em, eb]
    exact m_X7_bits0 l
def hNm (h : Int) (v : Int → Int) (sv : Int) : Int := ha (ha (ha (ha (ha (ha (ha h (sI (v 6))) (sI (v 7))) (sI (v 8))) (sI (v 9))) (v 0)) sv) (btA v)
def hRs (h : Int) (v : Int → Int) (sv : Int) (kp : Int → Int) (n : Int) (bf : Int → Int) : Int := hT (ha (ha (hNm h v sv) (kp 0)) (kp 1)) n bf
set_option maxRecDepth 100000 in
set_option maxHeartbeats 4000000 in
theorem m_X7_hashRest (l : Launch) {L : List Nat} {F : Nat → PE} {K : Nat → Nat} {v : Int → Int} {kd sv n : Int} {H Q : Int → Int → Int} {kp bf : Int → Int} {s : Nat} {h : Int} (hs : s ∈ L) (hK : ∀ i, i < 257 → K i ≠ s) (t : dr L F K v kd sv H kp Q n bf) (ts : F s = eO 1 [.long (lL h)]) : PM l yX7_hashRest cX7_hashRest 3 none (rm 6 0 0) L [.ref (K 0), .ref s] F (fun v9 L1 F1 => v9 = none ∧ L = L1 ∧ F1 s = eO 1 [.long (lL (hRs h v sv kp n bf))] ∧ ∀ b, b ≠ s → F1 b = F b) (fun _ _ _ => False) := by
  refine pm_of cd_X7_hashRest (by decide +kernel) (Nat.le_of_ble_eq_true rfl) (fun ZZ hZ => ?_)
  have hgo : ZZ 0 0 0 [some (.ref (K 0)), some (.ref s), none] [] L F := by
    have lK := t.L
    have l0 := lK 0 (by omega)
    have l4 := lK 254 (by omega)
    have l5 := lK 255 (by omega)
    have rg := t.S.1.rg
    have fx := t.fx
    have rs := fx.2.1
    have s6 := sI_rg (z := v 6)
    have s7 := sI_rg (z := v 7)
    have s8 := sI_rg (z := v 8)
    have s9 := sI_rg (z := v 9)
    obtain ⟨S0, h0, lS, hbuf, hkp, hkp0, hkp1⟩ := t.S
    have hiv : iv v kd := S0.iv
    have t96 : ∀ (G : Nat → PE) (x : Int), G s = eO 1 [.long (lL x)] → (∀ b, b ≠ s → G b = F b) → hT x n bf = hRs h v sv kp n bf → ZZ 0 0 96 [some (.ref (K 0)), some (.ref s), some (.int (iI 2))] [] L G := by
      intro G x ts hG hx
      have t := t.hs hK hG
      obtain ⟨S0, h0, lS, hbuf, hkp, -, -⟩ := t.S
      refine z_aload_n1 hZ dX7_hashRest_96 ?_
      refine z_aload_n0 hZ dX7_hashRest_97 ?_
      refine z_gf_X7_buffer hZ dX7_hashRest_98 fl_X7_36 (by assumption) (by assumption) ?_
      refine z_cV hZ (As := [_]) rfl dX7_hashRest_101 ml_X7_328 wy_X1_addText (m_X1_addText l hs ts hbuf ⟨hK _ (by omega), hK _ (by omega)⟩) (by assumption) (by assumption) rfl ⟨Nat.le_of_ble_eq_true rfl, Nat.le_of_ble_eq_true rfl⟩ ⟨Nat.le_of_ble_eq_true rfl, Nat.le_of_ble_eq_true rfl⟩ (Nat.le_of_ble_eq_true rfl) (fun _ _ _ h => h.elim) (fun v101 L101 G101 hp101 => ?_)
      obtain ⟨rfl, rfl, ts, f101⟩ := hp101
      exact z_vret hZ rfl (Nat.le_of_ble_eq_true rfl) (Nat.le_of_ble_eq_true rfl) dX7_hashRest_104 (by exact ⟨rfl, rfl, by rw [← hx]; exact ts, fun b hb => (f101 b hb).trans (hG b hb)⟩)
    have t67c : ∀ (G : Nat → PE) (x : Int), G s = eO 1 [.long (lL x)] → (∀ b, b ≠ s → G b = F b) → hT x n bf = hRs h v sv kp n bf → ZZ 0 0 67 [some (.ref (K 0)), some (.ref s), some (.int (iI 2))] [] L G := by
      intro G x ts hG hx
      refine z_iload_n2 hZ dX7_hashRest_67 ?_
      refine z_iconst hZ dX7_hashRest_68 ?_
      refine z_icmp_ge hZ (tgt := 96) dX7_hashRest_69 rfl (by omega) (fun hc69 => ?_) (fun hc69 => ?_)
      · exact t96 _ _ ts hG hx
      · exfalso; omega
    have t67b : ∀ (G : Nat → PE) (x : Int), G s = eO 1 [.long (lL x)] → (∀ b, b ≠ s → G b = F b) → hT (ha x (kp 1)) n bf = hRs h v sv kp n bf → ZZ 0 0 67 [some (.ref (K 0)), some (.ref s), some (.int (iI 1))] [] L G := by
      intro G x ts hG hx
      have t := t.hs hK hG
      obtain ⟨S0, h0, lS, hbuf, hkp, -, -⟩ := t.S
      refine z_iload_n2 hZ dX7_hashRest_67 ?_
      refine z_iconst hZ dX7_hashRest_68 ?_
      refine z_icmp_ge hZ (tgt := 96) dX7_hashRest_69 rfl (by omega) (fun hc69 => ?_) (fun hc69 => ?_)
      · exfalso; omega
      · refine z_aload_n1 hZ dX7_hashRest_72 ?_
        refine z_aload_n0 hZ dX7_hashRest_73 ?_
        refine z_gf_X7_isKept hZ dX7_hashRest_74 fl_X7_27 (by assumption) (by assumption) ?_
        refine z_iload_n2 hZ dX7_hashRest_77 ?_
        refine z_baload hZ dX7_hashRest_78 (by assumption) (by assumption) (by omega) ?_
        refine z_if_eq hZ (tgt := 86) dX7_hashRest_79 rfl (by omega) (fun hc79 => ?_) (fun hc79 => ?_)
        · have k9 : kp 1 = 0 := by omega
          refine z_lconst hZ (v := 0) dX7_hashRest_86 rfl ?_
          rw [show lL 0 = lL (kp 1) from by rw [k9]]
          refine z_cV hZ (As := [_]) rfl dX7_hashRest_87 ml_X7_332 wy_X1_add (m_X1_add l hs ts) (by assumption) (by assumption) rfl ⟨Nat.le_of_ble_eq_true rfl, Nat.le_of_ble_eq_true rfl⟩ ⟨Nat.le_of_ble_eq_true rfl, Nat.le_of_ble_eq_true rfl⟩ (Nat.le_of_ble_eq_true rfl) (fun _ _ _ h => h.elim) (fun v87 L87 G87 hp87 => ?_)
          obtain ⟨rfl, rfl, ts, f87⟩ := hp87
          refine z_iinc2 hZ dX7_hashRest_90 (by decide) rfl ?_
          refine z_goto hZ (tgt := 67) dX7_hashRest_93 rfl ?_
          exact t67c _ _ ts (fun b hb => (f87 b hb).trans (hG b hb)) hx
        · have k9 : kp 1 = 1 := by omega
          refine z_lconst hZ (v := 1) dX7_hashRest_82 rfl ?_
          rw [show lL 1 = lL (kp 1) from by rw [k9]]
          refine z_goto hZ (tgt := 87) dX7_hashRest_83 rfl ?_
          refine z_cV hZ (As := [_]) rfl dX7_hashRest_87 ml_X7_332 wy_X1_add (m_X1_add l hs ts) (by assumption) (by assumption) rfl ⟨Nat.le_of_ble_eq_true rfl, Nat.le_of_ble_eq_true rfl⟩ ⟨Nat.le_of_ble_eq_true rfl, Nat.le_of_ble_eq_true rfl⟩ (Nat.le_of_ble_eq_true rfl) (fun _ _ _ h => h.elim) (fun v87 L87 G87 hp87 => ?_)
          obtain ⟨rfl, rfl, ts, f87⟩ := hp87
          refine z_iinc2 hZ dX7_hashRest_90 (by decide) rfl ?_
          refine z_goto hZ (tgt := 67) dX7_hashRest_93 rfl ?_
          exact t67c _ _ ts (fun b hb => (f87 b hb).trans (hG b hb)) hx
    have t67a : ∀ (G : Nat → PE) (x : Int), G s = eO 1 [.long (lL x)] → (∀ b, b ≠ s → G b = F b) → hT (ha (ha x (kp 0)) (kp 1)) n bf = hRs h v sv kp n bf → ZZ 0 0 67 [some (.ref (K 0)), some (.ref s), some (.int (iI 0))] [] L G := by
      intro G x ts hG hx
      have t := t.hs hK hG
      obtain ⟨S0, h0, lS, hbuf, hkp, -, -⟩ := t.S
      refine z_iload_n2 hZ dX7_hashRest_67 ?_
      refine z_iconst hZ dX7_hashRest_68 ?_
      refine z_icmp_ge hZ (tgt := 96) dX7_hashRest_69 rfl (by omega) (fun hc69 => ?_) (fun hc69 => ?_)
      · exfalso; omega
      · refine z_aload_n1 hZ dX7_hashRest_72 ?_
        refine z_aload_n0 hZ dX7_hashRest_73 ?_
        refine z_gf_X7_isKept hZ dX7_hashRest_74 fl_X7_27 (by assumption) (by assumption) ?_
        refine z_iload_n2 hZ dX7_hashRest_77 ?_
        refine z_baload hZ dX7_hashRest_78 (by assumption) (by assumption) (by omega) ?_
        refine z_if_eq hZ (tgt := 86) dX7_hashRest_79 rfl (by omega) (fun hc79 => ?_) (fun hc79 => ?_)
        · have k9 : kp 0 = 0 := by omega
          refine z_lconst hZ (v := 0) dX7_hashRest_86 rfl ?_
          rw [show lL 0 = lL (kp 0) from by rw [k9]]
          refine z_cV hZ (As := [_]) rfl dX7_hashRest_87 ml_X7_332 wy_X1_add (m_X1_add l hs ts) (by assumption) (by assumption) rfl ⟨Nat.le_of_ble_eq_true rfl, Nat.le_of_ble_eq_true rfl⟩ ⟨Nat.le_of_ble_eq_true rfl, Nat.le_of_ble_eq_true rfl⟩ (Nat.le_of_ble_eq_true rfl) (fun _ _ _ h => h.elim) (fun v87 L87 G87 hp87 => ?_)
          obtain ⟨rfl, rfl, ts, f87⟩ := hp87
          refine z_iinc2 hZ dX7_hashRest_90 (by decide) rfl ?_
          refine z_goto hZ (tgt := 67) dX7_hashRest_93 rfl ?_
          exact t67b _ _ ts (fun b hb => (f87 b hb).trans (hG b hb)) hx
        · have k9 : kp 0 = 1 := by omega
          refine z_lconst hZ (v := 1) dX7_hashRest_82 rfl ?_
          rw [show lL 1 = lL (kp 0) from by rw [k9]]
          refine z_goto hZ (tgt := 87) dX7_hashRest_83 rfl ?_
          refine z_cV hZ (As := [_]) rfl dX7_hashRest_87 ml_X7_332 wy_X1_add (m_X1_add l hs ts) (by assumption) (by assumption) rfl ⟨Nat.le_of_ble_eq_true rfl, Nat.le_of_ble_eq_true rfl⟩ ⟨Nat.le_of_ble_eq_true rfl, Nat.le_of_ble_eq_true rfl⟩ (Nat.le_of_ble_eq_true rfl) (fun _ _ _ h => h.elim) (fun v87 L87 G87 hp87 => ?_)
          obtain ⟨rfl, rfl, ts, f87⟩ := hp87
          refine z_iinc2 hZ dX7_hashRest_90 (by decide) rfl ?_
          refine z_goto hZ (tgt := 67) dX7_hashRest_93 rfl ?_
          exact t67b _ _ ts (fun b hb => (f87 b hb).trans (hG b hb)) hx
    refine z_aload_n1 hZ dX7_hashRest_0 ?_
    refine z_aload_n0 hZ dX7_hashRest_1 ?_
    refine z_cV hZ (As := []) rfl dX7_hashRest_2 ml_X7_363 wy_X7_killed (m_X7_killed l t) (by assumption) (by assumption) rfl ⟨Nat.le_of_ble_eq_true rfl, Nat.le_of_ble_eq_true rfl⟩ ⟨Nat.le_of_ble_eq_true rfl, Nat.le_of_ble_eq_true rfl⟩ (Nat.le_of_ble_eq_true rfl) (fun _ _ _ h => h.elim) (fun v2 L2 G2 hp2 => ?_)
    obtain ⟨rfl, rfl, rfl⟩ := hp2
    rw [sI_iI (z := v 6)]
    refine z_i2l hZ dX7_hashRest_5 (by omega) ?_
    refine z_cV hZ (As := [_]) rfl dX7_hashRest_6 ml_X7_332 wy_X1_add (m_X1_add l hs ts) (by assumption) (by assumption) rfl ⟨Nat.le_of_ble_eq_true rfl, Nat.le_of_ble_eq_true rfl⟩ ⟨Nat.le_of_ble_eq_true rfl, Nat.le_of_ble_eq_true rfl⟩ (Nat.le_of_ble_eq_true rfl) (fun _ _ _ h => h.elim) (fun v6 L6 G6 hp6 => ?_)
    obtain ⟨rfl, rfl, ts, f6⟩ := hp6
    have t := t.hs hK f6
    obtain ⟨S0, h0, lS, hbuf, hkp, -, -⟩ := t.S
    refine z_aload_n1 hZ dX7_hashRest_9 ?_
    refine z_aload_n0 hZ dX7_hashRest_10 ?_
    refine z_cV hZ (As := []) rfl dX7_hashRest_11 ml_X7_365 wy_X7_yanked (m_X7_yanked l t) (by assumption) (by assumption) rfl ⟨Nat.le_of_ble_eq_true rfl, Nat.le_of_ble_eq_true rfl⟩ ⟨Nat.le_of_ble_eq_true rfl, Nat.le_of_ble_eq_true rfl⟩ (Nat.le_of_ble_eq_true rfl) (fun _ _ _ h => h.elim) (fun v11 L11 G11 hp11 => ?_)
    obtain ⟨rfl, rfl, rfl⟩ := hp11
    rw [sI_iI (z := v 7)]
    refine z_i2l hZ dX7_hashRest_14 (by omega) ?_
    refine z_cV hZ (As := [_]) rfl dX7_hashRest_15 ml_X7_332 wy_X1_add (m_X1_add l hs ts) (by assumption) (by assumption) rfl ⟨Nat.le_of_ble_eq_true rfl, Nat.le_of_ble_eq_true rfl⟩ ⟨Nat.le_of_ble_eq_true rfl, Nat.le_of_ble_eq_true rfl⟩ (Nat.le_of_ble_eq_true rfl) (fun _ _ _ h => h.elim) (fun v15 L15 G15 hp15 => ?_)
    obtain ⟨rfl, rfl, ts, f15⟩ := hp15
    have t := t.hs hK f15
    obtain ⟨S0, h0, lS, hbuf, hkp, -, -⟩ := t.S
    refine z_aload_n1 hZ dX7_hashRest_18 ?_
    refine z_aload_n0 hZ dX7_hashRest_19 ?_
    refine z_cV hZ (As := []) rfl dX7_hashRest_20 ml_X7_367 wy_X7_written (m_X7_written l t) (by assumption) (by assumption) rfl ⟨Nat.le_of_ble_eq_true rfl, Nat.le_of_ble_eq_true rfl⟩ ⟨Nat.le_of_ble_eq_true rfl, Nat.le_of_ble_eq_true rfl⟩ (Nat.le_of_ble_eq_true rfl) (fun _ _ _ h => h.elim) (fun v20 L20 G20 hp20 => ?_)
    obtain ⟨rfl, rfl, rfl⟩ := hp20
    rw [sI_iI (z := v 8)]
    refine z_i2l hZ dX7_hashRest_23 (by omega) ?_
    refine z_cV hZ (As := [_]) rfl dX7_hashRest_24 ml_X7_332 wy_X1_add (m_X1_add l hs ts) (by assumption) (by assumption) rfl ⟨Nat.le_of_ble_eq_true rfl, Nat.le_of_ble_eq_true rfl⟩ ⟨Nat.le_of_ble_eq_true rfl, Nat.le_of_ble_eq_true rfl⟩ (Nat.le_of_ble_eq_true rfl) (fun _ _ _ h => h.elim) (fun v24 L24 G24 hp24 => ?_)
    obtain ⟨rfl, rfl, ts, f24⟩ := hp24
    have t := t.hs hK f24
    obtain ⟨S0, h0, lS, hbuf, hkp, -, -⟩ := t.S
    refine z_aload_n1 hZ dX7_hashRest_27 ?_
    refine z_aload_n0 hZ dX7_hashRest_28 ?_
    refine z_cV hZ (As := []) rfl dX7_hashRest_29 ml_X7_369 wy_X7_lostHoards (m_X7_lostHoards l t) (by assumption) (by assumption) rfl ⟨Nat.le_of_ble_eq_true rfl, Nat.le_of_ble_eq_true rfl⟩ ⟨Nat.le_of_ble_eq_true rfl, Nat.le_of_ble_eq_true rfl⟩ (Nat.le_of_ble_eq_true rfl) (fun _ _ _ h => h.elim) (fun v29 L29 G29 hp29 => ?_)
    obtain ⟨rfl, rfl, rfl⟩ := hp29
    rw [sI_iI (z := v 9)]
    refine z_i2l hZ dX7_hashRest_32 (by omega) ?_
    refine z_cV hZ (As := [_]) rfl dX7_hashRest_33 ml_X7_332 wy_X1_add (m_X1_add l hs ts) (by assumption) (by assumption) rfl ⟨Nat.le_of_ble_eq_true rfl, Nat.le_of_ble_eq_true rfl⟩ ⟨Nat.le_of_ble_eq_true rfl, Nat.le_of_ble_eq_true rfl⟩ (Nat.le_of_ble_eq_true rfl) (fun _ _ _ h => h.elim) (fun v33 L33 G33 hp33 => ?_)
    obtain ⟨rfl, rfl, ts, f33⟩ := hp33
    have t := t.hs hK f33
    obtain ⟨S0, h0, lS, hbuf, hkp, -, -⟩ := t.S
    refine z_aload_n1 hZ dX7_hashRest_36 ?_
    refine z_aload_n0 hZ dX7_hashRest_37 ?_
    refine z_cV hZ (As := []) rfl dX7_hashRest_38 ml_X7_372 wy_X7_lengthByAccount (m_X7_lengthByAccount l t) (by assumption) (by assumption) rfl ⟨Nat.le_of_ble_eq_true rfl, Nat.le_of_ble_eq_true rfl⟩ ⟨Nat.le_of_ble_eq_true rfl, Nat.le_of_ble_eq_true rfl⟩ (Nat.le_of_ble_eq_true rfl) (fun _ _ _ h => h.elim) (fun v38 L38 G38 hp38 => ?_)
    obtain ⟨rfl, rfl, rfl⟩ := hp38
    refine z_i2l hZ dX7_hashRest_41 (by omega) ?_
    refine z_cV hZ (As := [_]) rfl dX7_hashRest_42 ml_X7_332 wy_X1_add (m_X1_add l hs ts) (by assumption) (by assumption) rfl ⟨Nat.le_of_ble_eq_true rfl, Nat.le_of_ble_eq_true rfl⟩ ⟨Nat.le_of_ble_eq_true rfl, Nat.le_of_ble_eq_true rfl⟩ (Nat.le_of_ble_eq_true rfl) (fun _ _ _ h => h.elim) (fun v42 L42 G42 hp42 => ?_)
    obtain ⟨rfl, rfl, ts, f42⟩ := hp42
    have t := t.hs hK f42
    obtain ⟨S0, h0, lS, hbuf, hkp, -, -⟩ := t.S
    refine z_aload_n1 hZ dX7_hashRest_45 ?_
    refine z_aload_n0 hZ dX7_hashRest_46 ?_
    refine z_cV hZ (As := []) rfl dX7_hashRest_47 ml_X7_375 wy_X7_savedStates (m_X7_savedStates l t) (by assumption) (by assumption) rfl ⟨Nat.le_of_ble_eq_true rfl, Nat.le_of_ble_eq_true rfl⟩ ⟨Nat.le_of_ble_eq_true rfl, Nat.le_of_ble_eq_true rfl⟩ (Nat.le_of_ble_eq_true rfl) (fun _ _ _ h => h.elim) (fun v47 L47 G47 hp47 => ?_)
    obtain ⟨rfl, rfl, rfl⟩ := hp47
    refine z_i2l hZ dX7_hashRest_50 (by omega) ?_
    refine z_cV hZ (As := [_]) rfl dX7_hashRest_51 ml_X7_332 wy_X1_add (m_X1_add l hs ts) (by assumption) (by assumption) rfl ⟨Nat.le_of_ble_eq_true rfl, Nat.le_of_ble_eq_true rfl⟩ ⟨Nat.le_of_ble_eq_true rfl, Nat.le_of_ble_eq_true rfl⟩ (Nat.le_of_ble_eq_true rfl) (fun _ _ _ h => h.elim) (fun v51 L51 G51 hp51 => ?_)
    obtain ⟨rfl, rfl, ts, f51⟩ := hp51
    have t := t.hs hK f51
    obtain ⟨S0, h0, lS, hbuf, hkp, -, -⟩ := t.S
    refine z_aload_n1 hZ dX7_hashRest_54 ?_
    refine z_aload_n0 hZ dX7_hashRest_55 ?_
    refine z_cV hZ (As := []) rfl dX7_hashRest_56 ml_X7_378 wy_X7_meanHoard (m_X7_meanHoard l t) (by assumption) (by assumption) rfl ⟨Nat.le_of_ble_eq_true rfl, Nat.le_of_ble_eq_true rfl⟩ ⟨Nat.le_of_ble_eq_true rfl, Nat.le_of_ble_eq_true rfl⟩ (Nat.le_of_ble_eq_true rfl) (fun _ _ _ h => h.elim) (fun v56 L56 G56 hp56 => ?_)
    obtain ⟨rfl, rfl, rfl⟩ := hp56
    refine z_cS hZ (As := [_]) rfl dX7_hashRest_59 ml_X7_382 wy_X7_bitsOf (m_X7_bitsV l hiv (by omega)) ⟨Nat.le_of_ble_eq_true rfl, Nat.le_of_ble_eq_true rfl⟩ ⟨Nat.le_of_ble_eq_true rfl, Nat.le_of_ble_eq_true rfl⟩ (Nat.le_of_ble_eq_true rfl) (fun _ _ _ h => h.elim) (fun v59 L59 G59 hp59 => ?_)
    obtain ⟨rfl, rfl, rfl⟩ := hp59
    refine z_cV hZ (As := [_]) rfl dX7_hashRest_62 ml_X7_332 wy_X1_add (m_X1_add l hs ts) (by assumption) (by assumption) rfl ⟨Nat.le_of_ble_eq_true rfl, Nat.le_of_ble_eq_true rfl⟩ ⟨Nat.le_of_ble_eq_true rfl, Nat.le_of_ble_eq_true rfl⟩ (Nat.le_of_ble_eq_true rfl) (fun _ _ _ h => h.elim) (fun v62 L62 G62 hp62 => ?_)
    obtain ⟨rfl, rfl, ts, f62⟩ := hp62
    have t := t.hs hK f62
    obtain ⟨S0, h0, lS, hbuf, hkp, -, -⟩ := t.S
    refine z_iconst hZ dX7_hashRest_65 ?_
    refine z_istore_n2 hZ dX7_hashRest_66 (by decide) rfl ?_
    exact t67a _ _ ts (fun b hb => (f62 b hb).trans ((f51 b hb).trans ((f42 b hb).trans ((f33 b hb).trans ((f24 b hb).trans ((f15 b hb).trans (f6 b hb))))))) rfl
  exact hgo
def dgA (v : Int → Int) (kd sv : Int) (kp : Int → Int) (n : Int) (bf : Int → Int) : Int := hRs (hRg (hSc 4457 v) v kd) v sv kp n bf
set_option maxRecDepth 100000 in
set_option maxHeartbeats 4000000 in
theorem m_X7_digest0 (l : Launch) {L : List Nat} {F : Nat → PE} {K : Nat → Nat} {v : Int → Int} {kd sv n : Int} {H Q : Int → Int → Int} {kp bf : Int → Int} (t : dr L F K v kd sv H kp Q n bf) : PM l yX7_digest cX7_digest 2 (some .long) (rm 8 1 1) L [.ref (K 0)] F (fun v9 L1 F1 => v9 = some (.long (lL (dgA v kd sv kp n bf))) ∧ (∃ X, L1 = L ++ X) ∧ ∀ b, b ∈ L → F1 b = F b) (fun _ _ _ => False) := by
  refine pm_of cd_X7_digest (by decide +kernel) (Nat.le_of_ble_eq_true rfl) (fun ZZ hZ => ?_)
  have hgo : ZZ 0 0 0 [some (.ref (K 0)), none] [] L F := by
    have lK := t.L
    have l0 := lK 0 (by omega)
    have h0 := t.S.2.1
    refine z_new_X1 hZ dX7_digest_0 cl_X7_290 (⟨Nat.le_of_ble_eq_true rfl, Nat.le_of_ble_eq_true rfl⟩) (fun q0 F0 nq0 hF0 hf0 => ?_)
    have lq := in_sn (L := L) (q := q0)
    have l0 := in_sl (q := q0) l0
    have hK : ∀ i, i < 257 → K i ≠ q0 := fun i hi e => nq0 (e ▸ lK i hi)
    have t := (t.mv (fun b hb => hf0 b (fun e => nq0 (e ▸ hb)))).up (fun b hb => in_sl (q := q0) hb)
    refine z_dup hZ dX7_digest_3 rfl ?_
    refine z_cIN hZ (As := []) rfl dX7_digest_4 ns_X7_292 wy_X1_init (m_X1_init l lq hF0) ⟨Nat.le_of_ble_eq_true rfl, Nat.le_of_ble_eq_true rfl⟩ ⟨Nat.le_of_ble_eq_true rfl, Nat.le_of_ble_eq_true rfl⟩ (Nat.le_of_ble_eq_true rfl) (fun _ _ _ h => h.elim) (fun v4 L4 G4 hp4 => ?_)
    obtain ⟨rfl, rfl, ts, f4⟩ := hp4
    have t := t.hs hK f4
    have h0 := t.S.2.1
    refine z_astore_n1 hZ dX7_digest_7 (by decide) rfl ?_
    refine z_aload_n0 hZ dX7_digest_8 ?_
    refine z_aload_n1 hZ dX7_digest_9 ?_
    refine z_cV hZ (As := [_]) rfl dX7_digest_10 ml_X7_293 wy_X7_hashScroll (m_X7_hashScroll l lq hK t ts) (by assumption) (by assumption) rfl ⟨Nat.le_of_ble_eq_true rfl, Nat.le_of_ble_eq_true rfl⟩ ⟨Nat.le_of_ble_eq_true rfl, Nat.le_of_ble_eq_true rfl⟩ (Nat.le_of_ble_eq_true rfl) (fun _ _ _ h => h.elim) (fun v10 L10 G10 hp10 => ?_)
    obtain ⟨rfl, rfl, ts, f10⟩ := hp10
    have t := t.hs hK f10
    have h0 := t.S.2.1
    refine z_aload_n0 hZ dX7_digest_13 ?_
    refine z_aload_n1 hZ dX7_digest_14 ?_
    refine z_cV hZ (As := [_]) rfl dX7_digest_15 ml_X7_297 wy_X7_hashRing (m_X7_hashRing l lq hK t ts) (by assumption) (by assumption) rfl ⟨Nat.le_of_ble_eq_true rfl, Nat.le_of_ble_eq_true rfl⟩ ⟨Nat.le_of_ble_eq_true rfl, Nat.le_of_ble_eq_true rfl⟩ (Nat.le_of_ble_eq_true rfl) (fun _ _ _ h => h.elim) (fun v15 L15 G15 hp15 => ?_)
    obtain ⟨rfl, rfl, ts, f15⟩ := hp15
    have t := t.hs hK f15
    have h0 := t.S.2.1
    refine z_aload_n0 hZ dX7_digest_18 ?_
    refine z_aload_n1 hZ dX7_digest_19 ?_
    refine z_cV hZ (As := [_]) rfl dX7_digest_20 ml_X7_300 wy_X7_hashRest (m_X7_hashRest l lq hK t ts) (by assumption) (by assumption) rfl ⟨Nat.le_of_ble_eq_true rfl, Nat.le_of_ble_eq_true rfl⟩ ⟨Nat.le_of_ble_eq_true rfl, Nat.le_of_ble_eq_true rfl⟩ (Nat.le_of_ble_eq_true rfl) (fun _ _ _ h => h.elim) (fun v20 L20 G20 hp20 => ?_)
    obtain ⟨rfl, rfl, ts, f20⟩ := hp20
    refine z_aload_n1 hZ dX7_digest_23 ?_
    refine z_gf_X1_value hZ dX7_digest_24 fl_X7_303 (by assumption) (by assumption) ?_
    exact z_lret hZ rfl (Nat.le_of_ble_eq_true rfl) (Nat.le_of_ble_eq_true rfl) dX7_digest_27 (by exact ⟨rfl, ⟨_, rfl⟩, fun b hb => by have e : b ≠ q0 := fun e => nq0 (e ▸ hb); exact (f20 b e).trans ((f15 b e).trans ((f10 b e).trans ((f4 b e).trans (hf0 b e))))⟩)
  exact hgo
theorem m_X7_digest (l : Launch) {L : List Nat} {F : Nat → PE} {K : Nat → Nat} {v : Int → Int} {kd sv n : Int} {H Q : Int → Int → Int} {kp bf : Int → Int} (t : dr L F K v kd sv H kp Q n bf) : PM l yX7_digest cX7_digest 2 (some .long) (rm 8 1 1) L [.ref (K 0)] F (fun v9 L1 F1 => v9 = some (.long (lL (dgA v kd sv kp n bf))) ∧ L = L1 ∧ ∀ b, b ∈ L → F1 b = F b) (fun _ _ _ => False) :=
  pm_fg (m_X7_digest0 l t) (fun _ _ _ h => ⟨h.2.1, h.1, rfl, h.2.2⟩)

