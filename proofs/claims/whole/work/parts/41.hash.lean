/-! HASHES. -/
def ha (h x : Int) : Int := 31 * h + x
def hxT (h : Int) (f : Int → Int) : Nat → Int
  | 0 => h
  | k + 1 => ha (hxT h f k) (f (k : Int))
def hT (h n : Int) (f : Int → Int) : Int := hxT (ha h n) f n.toNat
theorem hxT_s {h : Int} {f : Int → Int} {i : Int} (h0 : 0 ≤ i) : hxT h f (i + 1).toNat = ha (hxT h f i.toNat) (f i) := by
  rw [show (i + 1).toNat = i.toNat + 1 by omega]
  show ha (hxT h f i.toNat) (f (i.toNat : Int)) = _
  rw [Int.toNat_of_nonneg h0]
theorem hxT_cg {h : Int} {f g : Int → Int} : ∀ k : Nat, (∀ i : Int, 0 ≤ i → i < (k : Int) → f i = g i) → hxT h f k = hxT h g k
  | 0, _ => rfl
  | k + 1, e => by
    show ha (hxT h f k) (f (k : Int)) = ha (hxT h g k) (g (k : Int))
    rw [hxT_cg k (fun i h0 h1 => e i h0 (by omega)), e k (by omega) (by omega)]
/-- an int as it is told -/
def sI (z : Int) : Int := (iI z).toInt
theorem sI_rg {z : Int} : -2147483648 ≤ sI z ∧ sI z ≤ 2147483647 := by
  have h1 := Int32.le_toInt (iI z)
  have h2 := Int32.toInt_lt (iI z)
  unfold sI
  omega
theorem sI_iI {z : Int} : iI z = iI (sI z) := by
  unfold sI iI
  rw [Int32.ofInt_toInt]
theorem sI_of {z : Int} (h : -2147483648 ≤ z ∧ z ≤ 2147483647) : sI z = z := iI_toInt h
theorem db.mv {L : List Nat} {F F1 : Nat → PE} {K : Nat → Nat} {fi sv n : Int} {kp bf : Int → Int} {W : Nat → Int → Int} {D : Nat → Int} (t : db L F K fi sv kp n bf W D) (h : ∀ i, i < 257 → F1 (K i) = F (K i)) : db L F1 K fi sv kp n bf W D := by
  obtain ⟨t1, t2, ⟨t3, t4⟩, ⟨r, t5, t6⟩, ⟨r2, t7, t8⟩, ⟨t9, t10⟩, t11, t12⟩ := t
  exact ⟨t1, (h 0 (by omega)).trans t2, ⟨(h 26 (by omega)).trans t3, t4⟩, ⟨r, (h 27 (by omega)).trans t5, t6⟩, ⟨r2, (h 203 (by omega)).trans t7, t8⟩, ⟨(h 254 (by omega)).trans t9, t10⟩, t11.mv (h 255 (by omega)) (h 256 (by omega)), fun k hk => (t12 k hk).mv (fun i hi => h _ (by unfold sB; (repeat' split) <;> omega))⟩
theorem dr.hs {L : List Nat} {F F1 : Nat → PE} {K : Nat → Nat} {v : Int → Int} {kd sv n : Int} {H Q : Int → Int → Int} {kp bf : Int → Int} {s : Nat} (t : dr L F K v kd sv H kp Q n bf) (hs : ∀ i, i < 257 → K i ≠ s) (h : ∀ b, b ≠ s → F1 b = F b) : dr L F1 K v kd sv H kp Q n bf := by
  obtain ⟨fi, W, D, hb, hl, hk⟩ := t
  exact ⟨fi, W, D, hb.mv (fun i hi => h _ (hs i hi)), hl, hk⟩
theorem dr.L {L : List Nat} {F : Nat → PE} {K : Nat → Nat} {v : Int → Int} {kd sv n : Int} {H Q : Int → Int → Int} {kp bf : Int → Int} (t : dr L F K v kd sv H kp Q n bf) : ∀ i, i < 257 → K i ∈ L := by
  obtain ⟨fi, W, D, hb, hl, hk⟩ := t
  exact hb.1.1
theorem dr.S {L : List Nat} {F : Nat → PE} {K : Nat → Nat} {v : Int → Int} {kd sv n : Int} {H Q : Int → Int → Int} {kp bf : Int → Int} (t : dr L F K v kd sv H kp Q n bf) : stP L F (sK K 0) v kd ∧ F (K 0) = eO 7 [.ref (K 1), .ref (K 26), .ref (K 203), .ref (K 254), .ref (K 255)] ∧ inL L (sK K 0) ∧ tx L F (K 255) (K 256) 60 n bf ∧ F (K 254) = eI 1 2 kp ∧ (kp 0 = 0 ∨ kp 0 = 1) ∧ (kp 1 = 0 ∨ kp 1 = 1) := by
  obtain ⟨fi, W, D, hb, hl, hk⟩ := t
  have z := hb.2.2.2.2.2.2.2 0 (by omega)
  rw [hl.1, hk] at z
  exact ⟨z, hb.2.1, hb.L (by omega), hb.2.2.2.2.2.2.1, hb.2.2.2.2.2.1.1, hb.2.2.2.2.2.1.2⟩
theorem sK_ne {K : Nat → Nat} {s : Nat} (hs : ∀ i, i < 257 → K i ≠ s) {i : Nat} (hi : i < 25) : sK K 0 i ≠ s := hs _ (by unfold sB; rw [if_pos rfl]; omega)
set_option maxRecDepth 100000 in
set_option maxHeartbeats 4000000 in
theorem m_X1_init (l : Launch) {L : List Nat} {F : Nat → PE} {s : Nat} {v0 : Value} (hs : s ∈ L) (t : F s = eO 1 [v0]) : PM l yX1_init cX1_init 1 none (rm 2 0 0) L [.ref s] F (fun v9 L1 F1 => v9 = none ∧ L = L1 ∧ F1 s = eO 1 [.long (lL 4457)] ∧ ∀ b, b ≠ s → F1 b = F b) (fun _ _ _ => False) := by
  refine pm_of cd_X1_init (by decide +kernel) (Nat.le_of_ble_eq_true rfl) (fun ZZ hZ => ?_)
  have hgo : ZZ 0 0 0 [some (.ref s)] [] L F := by
    refine z_aload_n0 hZ dX1_init_0 ?_
    refine z_objInit hZ dX1_init_1 ml_X1_3 (Nat.le_of_ble_eq_true rfl) (Nat.le_of_ble_eq_true rfl) (Nat.le_of_ble_eq_true rfl) ?_
    refine z_aload_n0 hZ dX1_init_4 ?_
    refine z_ldc2 hZ dX1_init_5 kl_X1_9 ?_
    rw [show (4457 : Int64) = lL 4457 from rfl]
    refine z_pf_X1_value hZ dX1_init_8 fl_X1_11 (by assumption) (by assumption) (fun F8 hF8 hf8 => ?_)
    exact z_vret hZ rfl (Nat.le_of_ble_eq_true rfl) (Nat.le_of_ble_eq_true rfl) dX1_init_11 (by exact ⟨rfl, rfl, hF8, hf8⟩)
  exact hgo
set_option maxRecDepth 100000 in
set_option maxHeartbeats 4000000 in
theorem m_X1_add (l : Launch) {L : List Nat} {F : Nat → PE} {s : Nat} {h x : Int} (hs : s ∈ L) (t : F s = eO 1 [.long (lL h)]) : PM l yX1_add cX1_add 3 none (rm 1 0 0) L [.ref s, .long (lL x)] F (fun v9 L1 F1 => v9 = none ∧ L = L1 ∧ F1 s = eO 1 [.long (lL (ha h x))] ∧ ∀ b, b ≠ s → F1 b = F b) (fun _ _ _ => False) := by
  refine pm_of cd_X1_add (by decide +kernel) (Nat.le_of_ble_eq_true rfl) (fun ZZ hZ => ?_)
  have hgo : ZZ 0 0 0 [some (.ref s), some (.long (lL x)), none] [] L F := by
    refine z_aload_n0 hZ dX1_add_0 ?_
    refine z_ldc2 hZ dX1_add_1 kl_X1_17 ?_
    rw [show (31 : Int64) = lL 31 from rfl]
    refine z_aload_n0 hZ dX1_add_4 ?_
    refine z_gf_X1_value hZ dX1_add_5 fl_X1_11 (by assumption) (by assumption) ?_
    refine z_lmul hZ dX1_add_8 ?_
    refine z_lload_n1 hZ dX1_add_9 ?_
    refine z_ladd hZ dX1_add_10 ?_
    refine z_pf_X1_value hZ dX1_add_11 fl_X1_11 (by assumption) (by assumption) (fun F11 hF11 hf11 => ?_)
    exact z_vret hZ rfl (Nat.le_of_ble_eq_true rfl) (Nat.le_of_ble_eq_true rfl) dX1_add_14 (by exact ⟨rfl, rfl, hF11, hf11⟩)
  exact hgo
set_option maxRecDepth 100000 in
set_option maxHeartbeats 4000000 in
theorem m_X1_addText (l : Launch) {L : List Nat} {F : Nat → PE} {s h1 c1 N1 : Nat} {h n : Int} {f : Int → Int} (hs : s ∈ L) (t : F s = eO 1 [.long (lL h)]) (t1 : tx L F h1 c1 N1 n f) (hd : h1 ≠ s ∧ c1 ≠ s) : PM l yX1_addText cX1_addText 3 none (rm 2 0 0) L [.ref s, .ref h1] F (fun v9 L1 F1 => v9 = none ∧ L = L1 ∧ F1 s = eO 1 [.long (lL (hT h n f))] ∧ ∀ b, b ≠ s → F1 b = F b) (fun _ _ _ => False) := by
  refine pm_of cd_X1_addText (by decide +kernel) (Nat.le_of_ble_eq_true rfl) (fun ZZ hZ => ?_)
  have hgo : ZZ 0 0 0 [some (.ref s), some (.ref h1), none] [] L F := by
    have lh := t1.1.1
    have hn := t1.2.2.2.1
    have hN := t1.1.2.2.2
    have hcr := t1.2.2.2.2
    have loop : ∀ (m : Nat) (i : Int) (G : Nat → PE), (n - i).toNat = m → 0 ≤ i → i ≤ n → G s = eO 1 [.long (lL (hxT (ha h n) f i.toNat))] → (∀ b, b ≠ s → G b = F b) → ZZ 0 0 11 [some (.ref s), some (.ref h1), some (.int (iI i))] [] L G := by
      intro m
      induction m with
      | zero =>
        intro i G hm h0 h1' hg hf
        have e : i = n := by omega
        subst e
        have t2 := t1.mv (hf _ hd.1) (hf _ hd.2)
        have o2 := t2.2.1
        refine z_iload_n2 hZ dX1_addText_11 ?_
        refine z_aload_n1 hZ dX1_addText_12 ?_
        refine z_cV hZ (As := []) rfl dX1_addText_13 ml_X1_19 wy_X6_count (m_X6_count l t2) (by assumption) (by assumption) rfl ⟨Nat.le_of_ble_eq_true rfl, Nat.le_of_ble_eq_true rfl⟩ ⟨Nat.le_of_ble_eq_true rfl, Nat.le_of_ble_eq_true rfl⟩ (Nat.le_of_ble_eq_true rfl) (fun _ _ _ h => h.elim) (fun v13 L13 G13 hp13 => ?_)
        obtain ⟨rfl, rfl, rfl⟩ := hp13
        refine z_icmp_ge hZ (tgt := 35) dX1_addText_16 rfl (by omega) (fun hc16 => ?_) (fun hc16 => ?_)
        · exact z_vret hZ rfl (Nat.le_of_ble_eq_true rfl) (Nat.le_of_ble_eq_true rfl) dX1_addText_35 (by exact ⟨rfl, rfl, hg, hf⟩)
        · exfalso; omega
      | succ m ih =>
        intro i G hm h0 h1' hg hf
        have t2 := t1.mv (hf _ hd.1) (hf _ hd.2)
        have o2 := t2.2.1
        have cr := hcr i h0 (by omega)
        refine z_iload_n2 hZ dX1_addText_11 ?_
        refine z_aload_n1 hZ dX1_addText_12 ?_
        refine z_cV hZ (As := []) rfl dX1_addText_13 ml_X1_19 wy_X6_count (m_X6_count l t2) (by assumption) (by assumption) rfl ⟨Nat.le_of_ble_eq_true rfl, Nat.le_of_ble_eq_true rfl⟩ ⟨Nat.le_of_ble_eq_true rfl, Nat.le_of_ble_eq_true rfl⟩ (Nat.le_of_ble_eq_true rfl) (fun _ _ _ h => h.elim) (fun v13 L13 G13 hp13 => ?_)
        obtain ⟨rfl, rfl, rfl⟩ := hp13
        refine z_icmp_ge hZ (tgt := 35) dX1_addText_16 rfl (by omega) (fun hc16 => ?_) (fun hc16 => ?_)
        · exfalso; omega
        · refine z_aload_n0 hZ dX1_addText_19 ?_
          refine z_aload_n1 hZ dX1_addText_20 ?_
          refine z_iload_n2 hZ dX1_addText_21 ?_
          refine z_cV hZ (As := [_]) rfl dX1_addText_22 ml_X1_29 wy_X6_code (m_X6_code l t2 (by omega)) (by assumption) (by assumption) rfl ⟨Nat.le_of_ble_eq_true rfl, Nat.le_of_ble_eq_true rfl⟩ ⟨Nat.le_of_ble_eq_true rfl, Nat.le_of_ble_eq_true rfl⟩ (Nat.le_of_ble_eq_true rfl) (fun _ _ _ h => h.elim) (fun v22 L22 G22 hp22 => ?_)
          obtain ⟨rfl, rfl, rfl⟩ := hp22
          rw [cdA_in (f := f) (show 0 ≤ i ∧ i < n by omega)]
          refine z_i2l hZ dX1_addText_25 (by omega) ?_
          refine z_cV hZ (As := [_]) rfl dX1_addText_26 ml_X1_25 wy_X1_add (m_X1_add l hs hg) (by assumption) (by assumption) rfl ⟨Nat.le_of_ble_eq_true rfl, Nat.le_of_ble_eq_true rfl⟩ ⟨Nat.le_of_ble_eq_true rfl, Nat.le_of_ble_eq_true rfl⟩ (Nat.le_of_ble_eq_true rfl) (fun _ _ _ h => h.elim) (fun v26 L26 G26 hp26 => ?_)
          obtain ⟨rfl, rfl, e26, f26⟩ := hp26
          refine z_iinc2 hZ dX1_addText_29 (by decide) rfl ?_
          refine z_goto hZ (tgt := 11) dX1_addText_32 rfl ?_
          exact ih (i + 1) G26 (by omega) (by omega) (by omega) (by rw [hxT_s h0]; exact e26) (fun b hb => (f26 b hb).trans (hf b hb))
    have oh := t1.2.1
    refine z_aload_n0 hZ dX1_addText_0 ?_
    refine z_aload_n1 hZ dX1_addText_1 ?_
    refine z_cV hZ (As := []) rfl dX1_addText_2 ml_X1_19 wy_X6_count (m_X6_count l t1) (by assumption) (by assumption) rfl ⟨Nat.le_of_ble_eq_true rfl, Nat.le_of_ble_eq_true rfl⟩ ⟨Nat.le_of_ble_eq_true rfl, Nat.le_of_ble_eq_true rfl⟩ (Nat.le_of_ble_eq_true rfl) (fun _ _ _ h => h.elim) (fun v2 L2 G2 hp2 => ?_)
    obtain ⟨rfl, rfl, rfl⟩ := hp2
    refine z_i2l hZ dX1_addText_5 (by omega) ?_
    refine z_cV hZ (As := [_]) rfl dX1_addText_6 ml_X1_25 wy_X1_add (m_X1_add l hs t) (by assumption) (by assumption) rfl ⟨Nat.le_of_ble_eq_true rfl, Nat.le_of_ble_eq_true rfl⟩ ⟨Nat.le_of_ble_eq_true rfl, Nat.le_of_ble_eq_true rfl⟩ (Nat.le_of_ble_eq_true rfl) (fun _ _ _ h => h.elim) (fun v6 L6 G6 hp6 => ?_)
    obtain ⟨rfl, rfl, e6, f6⟩ := hp6
    refine z_iconst hZ dX1_addText_9 ?_
    refine z_istore_n2 hZ dX1_addText_10 (by decide) rfl ?_
    exact loop n.toNat 0 G6 (by omega) (by omega) (by omega) e6 f6
  exact hgo
def hSc (h : Int) (v : Int → Int) : Int := ha (ha (ha (ha (ha (ha (ha (ha (ha (ha (hT h (v 0) (fT v)) (v 1)) (v 2 + 1)) (fmA (v 2) (v 1) + 1)) (lnA v)) (lnA v)) (liA v)) (v 1 - lB (v 0) (fT v) (v 1))) (loA v)) (wdA v)) (wdA v)
theorem qr_rg {v : Int → Int} (h : 0 ≤ v 0 ∧ v 0 ≤ 200 ∧ 0 ≤ v 1 ∧ v 1 ≤ v 0 ∧ -1 ≤ v 2 ∧ v 2 ≤ v 0) : (1 ≤ lnA v ∧ lnA v ≤ 201) ∧ (0 ≤ liA v ∧ liA v ≤ 200) ∧ (0 ≤ loA v ∧ loA v ≤ 201) ∧ (0 ≤ wdA v ∧ wdA v ≤ 200) ∧ (-1 ≤ fmA (v 2) (v 1) ∧ fmA (v 2) (v 1) ≤ 200) ∧ (0 ≤ v 1 - lB (v 0) (fT v) (v 1) ∧ v 1 - lB (v 0) (fT v) (v 1) ≤ 200) := by
  have a1 := cn_rg (P := isE (v 0) (fT v)) (v 0).toNat
  have a2 := cn_rg (P := isE (v 0) (fT v)) (v 1).toNat
  have a3 := cn_rg (P := bgW (v 0) (fT v)) (v 0).toNat
  have a4 := mxL_rg (n := v 0) (f := fT v) (v 0 + 1).toNat (by omega)
  have a5 := lB_rg (n := v 0) (f := fT v) (p := v 1) (by omega)
  have a6 : -1 ≤ fmA (v 2) (v 1) ∧ fmA (v 2) (v 1) ≤ 200 := by unfold fmA abI; (repeat' split) <;> omega
  unfold lnA liA wdA loA
  omega
set_option maxRecDepth 100000 in
set_option maxHeartbeats 4000000 in
theorem m_X7_hashScroll (l : Launch) {L : List Nat} {F : Nat → PE} {K : Nat → Nat} {v : Int → Int} {kd sv n : Int} {H Q : Int → Int → Int} {kp bf : Int → Int} {s : Nat} {h : Int} (hs : s ∈ L) (hK : ∀ i, i < 257 → K i ≠ s) (t : dr L F K v kd sv H kp Q n bf) (ts : F s = eO 1 [.long (lL h)]) : PM l yX7_hashScroll cX7_hashScroll 3 none (rm 7 0 0) L [.ref (K 0), .ref s] F (fun v9 L1 F1 => v9 = none ∧ L = L1 ∧ F1 s = eO 1 [.long (lL (hSc h v))] ∧ ∀ b, b ≠ s → F1 b = F b) (fun _ _ _ => False) := by
  refine pm_of cd_X7_hashScroll (by decide +kernel) (Nat.le_of_ble_eq_true rfl) (fun ZZ hZ => ?_)
  have hgo : ZZ 0 0 0 [some (.ref (K 0)), some (.ref s), none] [] L F := by
    have lK := t.L
    have l0 := lK 0 (by omega)
    have l1 := lK 1 (by omega)
    have rg := t.S.1.rg
    have qr := qr_rg (v := v) (by omega)
    obtain ⟨S0, h0, lS, -⟩ := t.S
    have o1 : F (K 1) = _ := S0.ob
    have m1 := lS 1 (by omega)
    have m2 := lS 2 (by omega)
    have m4 := lS 4 (by omega)
    have m8 := lS 8 (by omega)
    have c1 := S0.sc
    have c1o := c1.2.1
    refine z_aload_n0 hZ dX7_hashScroll_0 ?_
    refine z_gf_X7_now hZ dX7_hashScroll_1 fl_X7_10 (by assumption) (by assumption) ?_
    refine z_gf_X5_scroll hZ dX7_hashScroll_4 fl_X7_68 (by assumption) (by assumption) ?_
    refine z_astore_n2 hZ dX7_hashScroll_7 (by decide) rfl ?_
    refine z_aload_n1 hZ dX7_hashScroll_8 ?_
    refine z_aload_n2 hZ dX7_hashScroll_9 ?_
    refine z_gf_X4_text hZ dX7_hashScroll_10 fl_X7_72 (by assumption) (by assumption) ?_
    refine z_cV hZ (As := [_]) rfl dX7_hashScroll_13 ml_X7_328 wy_X1_addText (m_X1_addText l hs ts c1.2.2.1 ⟨sK_ne hK (by omega), sK_ne hK (by omega)⟩) (by assumption) (by assumption) rfl ⟨Nat.le_of_ble_eq_true rfl, Nat.le_of_ble_eq_true rfl⟩ ⟨Nat.le_of_ble_eq_true rfl, Nat.le_of_ble_eq_true rfl⟩ (Nat.le_of_ble_eq_true rfl) (fun _ _ _ h => h.elim) (fun v13 L13 G13 hp13 => ?_)
    obtain ⟨rfl, rfl, ts, f13⟩ := hp13
    have t := t.hs hK f13
    obtain ⟨S0, h0, lS, -⟩ := t.S
    have o1 : G13 (K 1) = _ := S0.ob
    have c1 := S0.sc
    have c1o := c1.2.1
    refine z_aload_n1 hZ dX7_hashScroll_16 ?_
    refine z_aload_n2 hZ dX7_hashScroll_17 ?_
    refine z_gf_X4_point hZ dX7_hashScroll_18 fl_X7_205 (by assumption) (by assumption) ?_
    refine z_i2l hZ dX7_hashScroll_21 (by omega) ?_
    refine z_cV hZ (As := [_]) rfl dX7_hashScroll_22 ml_X7_332 wy_X1_add (m_X1_add l hs ts) (by assumption) (by assumption) rfl ⟨Nat.le_of_ble_eq_true rfl, Nat.le_of_ble_eq_true rfl⟩ ⟨Nat.le_of_ble_eq_true rfl, Nat.le_of_ble_eq_true rfl⟩ (Nat.le_of_ble_eq_true rfl) (fun _ _ _ h => h.elim) (fun v22 L22 G22 hp22 => ?_)
    obtain ⟨rfl, rfl, ts, f22⟩ := hp22
    have t := t.hs hK f22
    obtain ⟨S0, h0, lS, -⟩ := t.S
    have o1 : G22 (K 1) = _ := S0.ob
    have c1 := S0.sc
    have c1o := c1.2.1
    refine z_aload_n1 hZ dX7_hashScroll_25 ?_
    refine z_aload_n2 hZ dX7_hashScroll_26 ?_
    refine z_gf_X4_mark hZ dX7_hashScroll_27 fl_X7_209 (by assumption) (by assumption) ?_
    refine z_iconst hZ dX7_hashScroll_30 ?_
    refine z_iadd hZ dX7_hashScroll_31 ?_
    refine z_i2l hZ dX7_hashScroll_32 (by omega) ?_
    refine z_cV hZ (As := [_]) rfl dX7_hashScroll_33 ml_X7_332 wy_X1_add (m_X1_add l hs ts) (by assumption) (by assumption) rfl ⟨Nat.le_of_ble_eq_true rfl, Nat.le_of_ble_eq_true rfl⟩ ⟨Nat.le_of_ble_eq_true rfl, Nat.le_of_ble_eq_true rfl⟩ (Nat.le_of_ble_eq_true rfl) (fun _ _ _ h => h.elim) (fun v33 L33 G33 hp33 => ?_)
    obtain ⟨rfl, rfl, ts, f33⟩ := hp33
    have t := t.hs hK f33
    obtain ⟨S0, h0, lS, -⟩ := t.S
    have o1 : G33 (K 1) = _ := S0.ob
    have c1 := S0.sc
    have c1o := c1.2.1
    refine z_aload_n1 hZ dX7_hashScroll_36 ?_
    refine z_aload_n2 hZ dX7_hashScroll_37 ?_
    refine z_cV hZ (As := []) rfl dX7_hashScroll_38 ml_X7_215 wy_X4_fromMark (m_X4_fromMark l c1) (by assumption) (by assumption) rfl ⟨Nat.le_of_ble_eq_true rfl, Nat.le_of_ble_eq_true rfl⟩ ⟨Nat.le_of_ble_eq_true rfl, Nat.le_of_ble_eq_true rfl⟩ (Nat.le_of_ble_eq_true rfl) (fun _ _ _ h => h.elim) (fun v38 L38 G38 hp38 => ?_)
    obtain ⟨rfl, rfl, rfl⟩ := hp38
    refine z_iconst hZ dX7_hashScroll_41 ?_
    refine z_iadd hZ dX7_hashScroll_42 ?_
    refine z_i2l hZ dX7_hashScroll_43 (by omega) ?_
    refine z_cV hZ (As := [_]) rfl dX7_hashScroll_44 ml_X7_332 wy_X1_add (m_X1_add l hs ts) (by assumption) (by assumption) rfl ⟨Nat.le_of_ble_eq_true rfl, Nat.le_of_ble_eq_true rfl⟩ ⟨Nat.le_of_ble_eq_true rfl, Nat.le_of_ble_eq_true rfl⟩ (Nat.le_of_ble_eq_true rfl) (fun _ _ _ h => h.elim) (fun v44 L44 G44 hp44 => ?_)
    obtain ⟨rfl, rfl, ts, f44⟩ := hp44
    have t := t.hs hK f44
    obtain ⟨S0, h0, lS, -⟩ := t.S
    have o1 : G44 (K 1) = _ := S0.ob
    have c1 := S0.sc
    have c1o := c1.2.1
    refine z_aload_n1 hZ dX7_hashScroll_47 ?_
    refine z_aload_n0 hZ dX7_hashScroll_48 ?_
    refine z_cV hZ (As := []) rfl dX7_hashScroll_49 ml_X7_336 wy_X7_linesByEnds (m_X7_linesByEnds l t) (by assumption) (by assumption) rfl ⟨Nat.le_of_ble_eq_true rfl, Nat.le_of_ble_eq_true rfl⟩ ⟨Nat.le_of_ble_eq_true rfl, Nat.le_of_ble_eq_true rfl⟩ (Nat.le_of_ble_eq_true rfl) (fun _ _ _ h => h.elim) (fun v49 L49 G49 hp49 => ?_)
    obtain ⟨rfl, rfl, rfl⟩ := hp49
    refine z_i2l hZ dX7_hashScroll_52 (by omega) ?_
    refine z_cV hZ (As := [_]) rfl dX7_hashScroll_53 ml_X7_332 wy_X1_add (m_X1_add l hs ts) (by assumption) (by assumption) rfl ⟨Nat.le_of_ble_eq_true rfl, Nat.le_of_ble_eq_true rfl⟩ ⟨Nat.le_of_ble_eq_true rfl, Nat.le_of_ble_eq_true rfl⟩ (Nat.le_of_ble_eq_true rfl) (fun _ _ _ h => h.elim) (fun v53 L53 G53 hp53 => ?_)
    obtain ⟨rfl, rfl, ts, f53⟩ := hp53
    have t := t.hs hK f53
    obtain ⟨S0, h0, lS, -⟩ := t.S
    have o1 : G53 (K 1) = _ := S0.ob
    have c1 := S0.sc
    have c1o := c1.2.1
    refine z_aload_n1 hZ dX7_hashScroll_56 ?_
    refine z_aload_n0 hZ dX7_hashScroll_57 ?_
    refine z_cV hZ (As := []) rfl dX7_hashScroll_58 ml_X7_339 wy_X7_linesByGoing (m_X7_linesByGoing l t) (by assumption) (by assumption) rfl ⟨Nat.le_of_ble_eq_true rfl, Nat.le_of_ble_eq_true rfl⟩ ⟨Nat.le_of_ble_eq_true rfl, Nat.le_of_ble_eq_true rfl⟩ (Nat.le_of_ble_eq_true rfl) (fun _ _ _ h => h.elim) (fun v58 L58 G58 hp58 => ?_)
    obtain ⟨rfl, rfl, rfl⟩ := hp58
    refine z_i2l hZ dX7_hashScroll_61 (by omega) ?_
    refine z_cV hZ (As := [_]) rfl dX7_hashScroll_62 ml_X7_332 wy_X1_add (m_X1_add l hs ts) (by assumption) (by assumption) rfl ⟨Nat.le_of_ble_eq_true rfl, Nat.le_of_ble_eq_true rfl⟩ ⟨Nat.le_of_ble_eq_true rfl, Nat.le_of_ble_eq_true rfl⟩ (Nat.le_of_ble_eq_true rfl) (fun _ _ _ h => h.elim) (fun v62 L62 G62 hp62 => ?_)
    obtain ⟨rfl, rfl, ts, f62⟩ := hp62
    have t := t.hs hK f62
    obtain ⟨S0, h0, lS, -⟩ := t.S
    have o1 : G62 (K 1) = _ := S0.ob
    have c1 := S0.sc
    have c1o := c1.2.1
    refine z_aload_n1 hZ dX7_hashScroll_65 ?_
    refine z_aload_n0 hZ dX7_hashScroll_66 ?_
    refine z_cV hZ (As := []) rfl dX7_hashScroll_67 ml_X7_342 wy_X7_line (m_X7_line l t) (by assumption) (by assumption) rfl ⟨Nat.le_of_ble_eq_true rfl, Nat.le_of_ble_eq_true rfl⟩ ⟨Nat.le_of_ble_eq_true rfl, Nat.le_of_ble_eq_true rfl⟩ (Nat.le_of_ble_eq_true rfl) (fun _ _ _ h => h.elim) (fun v67 L67 G67 hp67 => ?_)
    obtain ⟨rfl, rfl, rfl⟩ := hp67
    refine z_i2l hZ dX7_hashScroll_70 (by omega) ?_
    refine z_cV hZ (As := [_]) rfl dX7_hashScroll_71 ml_X7_332 wy_X1_add (m_X1_add l hs ts) (by assumption) (by assumption) rfl ⟨Nat.le_of_ble_eq_true rfl, Nat.le_of_ble_eq_true rfl⟩ ⟨Nat.le_of_ble_eq_true rfl, Nat.le_of_ble_eq_true rfl⟩ (Nat.le_of_ble_eq_true rfl) (fun _ _ _ h => h.elim) (fun v71 L71 G71 hp71 => ?_)
    obtain ⟨rfl, rfl, ts, f71⟩ := hp71
    have t := t.hs hK f71
    obtain ⟨S0, h0, lS, -⟩ := t.S
    have o1 : G71 (K 1) = _ := S0.ob
    have c1 := S0.sc
    have c1o := c1.2.1
    refine z_aload_n1 hZ dX7_hashScroll_74 ?_
    refine z_aload_n0 hZ dX7_hashScroll_75 ?_
    refine z_cV hZ (As := []) rfl dX7_hashScroll_76 ml_X7_345 wy_X7_column (m_X7_column l t) (by assumption) (by assumption) rfl ⟨Nat.le_of_ble_eq_true rfl, Nat.le_of_ble_eq_true rfl⟩ ⟨Nat.le_of_ble_eq_true rfl, Nat.le_of_ble_eq_true rfl⟩ (Nat.le_of_ble_eq_true rfl) (fun _ _ _ h => h.elim) (fun v76 L76 G76 hp76 => ?_)
    obtain ⟨rfl, rfl, rfl⟩ := hp76
    refine z_i2l hZ dX7_hashScroll_79 (by omega) ?_
    refine z_cV hZ (As := [_]) rfl dX7_hashScroll_80 ml_X7_332 wy_X1_add (m_X1_add l hs ts) (by assumption) (by assumption) rfl ⟨Nat.le_of_ble_eq_true rfl, Nat.le_of_ble_eq_true rfl⟩ ⟨Nat.le_of_ble_eq_true rfl, Nat.le_of_ble_eq_true rfl⟩ (Nat.le_of_ble_eq_true rfl) (fun _ _ _ h => h.elim) (fun v80 L80 G80 hp80 => ?_)
    obtain ⟨rfl, rfl, ts, f80⟩ := hp80
    have t := t.hs hK f80
    obtain ⟨S0, h0, lS, -⟩ := t.S
    have o1 : G80 (K 1) = _ := S0.ob
    have c1 := S0.sc
    have c1o := c1.2.1
    refine z_aload_n1 hZ dX7_hashScroll_83 ?_
    refine z_aload_n0 hZ dX7_hashScroll_84 ?_
    refine z_cV hZ (As := []) rfl dX7_hashScroll_85 ml_X7_348 wy_X7_longestLine (m_X7_longestLine l t) (by assumption) (by assumption) rfl ⟨Nat.le_of_ble_eq_true rfl, Nat.le_of_ble_eq_true rfl⟩ ⟨Nat.le_of_ble_eq_true rfl, Nat.le_of_ble_eq_true rfl⟩ (Nat.le_of_ble_eq_true rfl) (fun _ _ _ h => h.elim) (fun v85 L85 G85 hp85 => ?_)
    obtain ⟨rfl, rfl, rfl⟩ := hp85
    refine z_i2l hZ dX7_hashScroll_88 (by omega) ?_
    refine z_cV hZ (As := [_]) rfl dX7_hashScroll_89 ml_X7_332 wy_X1_add (m_X1_add l hs ts) (by assumption) (by assumption) rfl ⟨Nat.le_of_ble_eq_true rfl, Nat.le_of_ble_eq_true rfl⟩ ⟨Nat.le_of_ble_eq_true rfl, Nat.le_of_ble_eq_true rfl⟩ (Nat.le_of_ble_eq_true rfl) (fun _ _ _ h => h.elim) (fun v89 L89 G89 hp89 => ?_)
    obtain ⟨rfl, rfl, ts, f89⟩ := hp89
    have t := t.hs hK f89
    obtain ⟨S0, h0, lS, -⟩ := t.S
    have o1 : G89 (K 1) = _ := S0.ob
    have c1 := S0.sc
    have c1o := c1.2.1
    refine z_aload_n1 hZ dX7_hashScroll_92 ?_
    refine z_aload_n0 hZ dX7_hashScroll_93 ?_
    refine z_cV hZ (As := []) rfl dX7_hashScroll_94 ml_X7_351 wy_X7_wordsByBegins (m_X7_wordsByBegins l t) (by assumption) (by assumption) rfl ⟨Nat.le_of_ble_eq_true rfl, Nat.le_of_ble_eq_true rfl⟩ ⟨Nat.le_of_ble_eq_true rfl, Nat.le_of_ble_eq_true rfl⟩ (Nat.le_of_ble_eq_true rfl) (fun _ _ _ h => h.elim) (fun v94 L94 G94 hp94 => ?_)
    obtain ⟨rfl, rfl, rfl⟩ := hp94
    refine z_i2l hZ dX7_hashScroll_97 (by omega) ?_
    refine z_cV hZ (As := [_]) rfl dX7_hashScroll_98 ml_X7_332 wy_X1_add (m_X1_add l hs ts) (by assumption) (by assumption) rfl ⟨Nat.le_of_ble_eq_true rfl, Nat.le_of_ble_eq_true rfl⟩ ⟨Nat.le_of_ble_eq_true rfl, Nat.le_of_ble_eq_true rfl⟩ (Nat.le_of_ble_eq_true rfl) (fun _ _ _ h => h.elim) (fun v98 L98 G98 hp98 => ?_)
    obtain ⟨rfl, rfl, ts, f98⟩ := hp98
    have t := t.hs hK f98
    obtain ⟨S0, h0, lS, -⟩ := t.S
    have o1 : G98 (K 1) = _ := S0.ob
    have c1 := S0.sc
    have c1o := c1.2.1
    refine z_aload_n1 hZ dX7_hashScroll_101 ?_
    refine z_aload_n0 hZ dX7_hashScroll_102 ?_
    refine z_cV hZ (As := []) rfl dX7_hashScroll_103 ml_X7_354 wy_X7_wordsByGoing (m_X7_wordsByGoing l t) (by assumption) (by assumption) rfl ⟨Nat.le_of_ble_eq_true rfl, Nat.le_of_ble_eq_true rfl⟩ ⟨Nat.le_of_ble_eq_true rfl, Nat.le_of_ble_eq_true rfl⟩ (Nat.le_of_ble_eq_true rfl) (fun _ _ _ h => h.elim) (fun v103 L103 G103 hp103 => ?_)
    obtain ⟨rfl, rfl, rfl⟩ := hp103
    refine z_i2l hZ dX7_hashScroll_106 (by omega) ?_
    refine z_cV hZ (As := [_]) rfl dX7_hashScroll_107 ml_X7_332 wy_X1_add (m_X1_add l hs ts) (by assumption) (by assumption) rfl ⟨Nat.le_of_ble_eq_true rfl, Nat.le_of_ble_eq_true rfl⟩ ⟨Nat.le_of_ble_eq_true rfl, Nat.le_of_ble_eq_true rfl⟩ (Nat.le_of_ble_eq_true rfl) (fun _ _ _ h => h.elim) (fun v107 L107 G107 hp107 => ?_)
    obtain ⟨rfl, rfl, ts, f107⟩ := hp107
    have t := t.hs hK f107
    obtain ⟨S0, h0, lS, -⟩ := t.S
    have o1 : G107 (K 1) = _ := S0.ob
    have c1 := S0.sc
    have c1o := c1.2.1
    exact z_vret hZ rfl (Nat.le_of_ble_eq_true rfl) (Nat.le_of_ble_eq_true rfl) dX7_hashScroll_110 (by exact ⟨rfl, rfl, ts, fun b hb => (f107 b hb).trans ((f98 b hb).trans ((f89 b hb).trans ((f80 b hb).trans ((f71 b hb).trans ((f62 b hb).trans ((f53 b hb).trans ((f44 b hb).trans ((f33 b hb).trans ((f22 b hb).trans (f13 b hb))))))))))⟩)
  exact hgo
def hRi (v : Int → Int) (h : Int) : Nat → Int
  | 0 => h
  | k + 1 => ha (hT (hRi v h k) (v (10 + (k : Int))) (fun j => v (218 + 200 * (k : Int) + j))) (v 0 + v (10 + (k : Int)))
theorem hRi_s {v : Int → Int} {h i : Int} (h0 : 0 ≤ i) : hRi v h (i + 1).toNat = ha (hT (hRi v h i.toNat) (v (10 + i)) (fun j => v (218 + 200 * i + j))) (v 0 + v (10 + i)) := by
  rw [show (i + 1).toNat = i.toNat + 1 by omega]
  show ha (hT (hRi v h i.toNat) (v (10 + (i.toNat : Int))) (fun j => v (218 + 200 * (i.toNat : Int) + j))) (v 0 + v (10 + (i.toNat : Int))) = _
  rw [Int.toNat_of_nonneg h0]
def hRg (h : Int) (v : Int → Int) (kd : Int) : Int := ha (ha (ha (ha (ha (hRi v (ha (ha h (v 3)) (v 5)) (v 3).toNat) (nxA v + 1)) (if kd = 1 then 1 else 0)) (if kd = 2 then 1 else 0)) (wgA v)) (lgA v + 1)
theorem hT_cg {h n : Int} {f g : Int → Int} (e : ∀ i : Int, 0 ≤ i → i < n → f i = g i) : hT h n f = hT h n g := hxT_cg _ (fun i h0 h1 => e i h0 (by omega))
set_option maxRecDepth 100000 in
set_option maxHeartbeats 4000000 in
theorem m_X7_hashRing (l : Launch) {L : List Nat} {F : Nat → PE} {K : Nat → Nat} {v : Int → Int} {kd sv n : Int} {H Q : Int → Int → Int} {kp bf : Int → Int} {s : Nat} {h : Int} (hs : s ∈ L) (hK : ∀ i, i < 257 → K i ≠ s) (t : dr L F K v kd sv H kp Q n bf) (ts : F s = eO 1 [.long (lL h)]) : PM l yX7_hashRing cX7_hashRing 4 none (rm 6 0 0) L [.ref (K 0), .ref s] F (fun v9 L1 F1 => v9 = none ∧ L = L1 ∧ F1 s = eO 1 [.long (lL (hRg h v kd))] ∧ ∀ b, b ≠ s → F1 b = F b) (fun _ _ _ => False) := by
  refine pm_of cd_X7_hashRing (by decide +kernel) (Nat.le_of_ble_eq_true rfl) (fun ZZ hZ => ?_)
  have hgo : ZZ 0 0 0 [some (.ref (K 0)), some (.ref s), none, none] [] L F := by
    have lK := t.L
    have l0 := lK 0 (by omega)
    have l1 := lK 1 (by omega)
    have rg := t.S.1.rg
    have qr := qr_rg (v := v) (by omega)
    obtain ⟨S0, h0, lS, -⟩ := t.S
    have o1 : F (K 1) = _ := S0.ob
    have m1 := lS 1 (by omega)
    have m2 := lS 2 (by omega)
    have m4 := lS 4 (by omega)
    have m8 := lS 8 (by omega)
    have tail : ∀ (G : Nat → PE), dr L G K v kd sv H kp Q n bf → (∀ b, b ≠ s → G b = F b) → G s = eO 1 [.long (lL (hRi v (ha (ha h (v 3)) (v 5)) (v 3).toNat))] → ∀ i : Int, ZZ 0 0 78 [some (.ref (K 0)), some (.ref s), some (.ref (sK K 0 4)), some (.int (iI i))] [] L G := by
      intro G t hG ts i
      obtain ⟨S0, h0, lS, -⟩ := t.S
      have o1 : G (K 1) = _ := S0.ob
      obtain ⟨π, hlH, hf, w, r, tt, c1, hR, hh, hA, he, hO, hi⟩ := S0
      have hR4 := hR.1
      have rnx : -1 ≤ nxA v ∧ nxA v ≤ 8 := by have a1 := hi.2.2.1; unfold nxA; split <;> omega
      have rwg : 0 ≤ wgA v ∧ wgA v ≤ 1600 := by have z := smH_rg (hl := fun i => v (10 + i)) (v 3).toNat (fun i _ i1 => by have := hi.1 (i : Int) (by omega) (by omega); exact ⟨by omega, this.2⟩); unfold wgA; omega
      have rlg : -1 ≤ lgA v ∧ lgA v ≤ 8 := by have z := lgH_rg (hl := fun i => v (10 + i)) (v 3).toNat; unfold lgA; omega
      have ewg : smH hlH (v 3).toNat = wgA v := smH_cg _ (fun i i0 i1 => (hh i i0 (by omega)).1)
      have elg : lgH hlH (v 3).toNat = lgA v := lgH_cg _ (fun i i0 i1 => (hh i i0 (by omega)).1)
      refine z_aload_n1 hZ dX7_hashRing_78 ?_
      refine z_aload_n2 hZ dX7_hashRing_79 ?_
      refine z_gf_X3_next hZ dX7_hashRing_80 fl_X7_254 (by assumption) (by assumption) ?_
      refine z_iconst hZ dX7_hashRing_83 ?_
      refine z_iadd hZ dX7_hashRing_84 ?_
      refine z_i2l hZ dX7_hashRing_85 (by omega) ?_
      refine z_cV hZ (As := [_]) rfl dX7_hashRing_86 ml_X7_332 wy_X1_add (m_X1_add l hs ts) (by assumption) (by assumption) rfl ⟨Nat.le_of_ble_eq_true rfl, Nat.le_of_ble_eq_true rfl⟩ ⟨Nat.le_of_ble_eq_true rfl, Nat.le_of_ble_eq_true rfl⟩ (Nat.le_of_ble_eq_true rfl) (fun _ _ _ h => h.elim) (fun v86 L86 G86 hp86 => ?_)
      obtain ⟨rfl, rfl, ts, f86⟩ := hp86
      have t := t.hs hK f86
      obtain ⟨S0, h0, lS, -⟩ := t.S
      have o1 : G86 (K 1) = _ := S0.ob
      refine z_aload_n1 hZ dX7_hashRing_89 ?_
      refine z_aload_n0 hZ dX7_hashRing_90 ?_
      refine z_cV hZ (As := []) rfl dX7_hashRing_91 ml_X7_357 wy_X7_isGrowing (m_X7_isGrowing l t) (by assumption) (by assumption) rfl ⟨Nat.le_of_ble_eq_true rfl, Nat.le_of_ble_eq_true rfl⟩ ⟨Nat.le_of_ble_eq_true rfl, Nat.le_of_ble_eq_true rfl⟩ (Nat.le_of_ble_eq_true rfl) (fun _ _ _ h => h.elim) (fun v91 L91 G91 hp91 => ?_)
      obtain ⟨rfl, rfl, rfl⟩ := hp91
      refine z_if_eq hZ (tgt := 101) dX7_hashRing_94 rfl (by split <;> omega) (fun hc94 => ?_) (fun hc94 => ?_)
      · have k1 : (if kd = 1 then (1 : Int) else 0) = 0 := by assumption
        refine z_lconst hZ (v := 0) dX7_hashRing_101 rfl ?_
        rw [← k1]
        refine z_cV hZ (As := [_]) rfl dX7_hashRing_102 ml_X7_332 wy_X1_add (m_X1_add l hs ts) (by assumption) (by assumption) rfl ⟨Nat.le_of_ble_eq_true rfl, Nat.le_of_ble_eq_true rfl⟩ ⟨Nat.le_of_ble_eq_true rfl, Nat.le_of_ble_eq_true rfl⟩ (Nat.le_of_ble_eq_true rfl) (fun _ _ _ h => h.elim) (fun v102 L102 G102 hp102 => ?_)
        obtain ⟨rfl, rfl, ts, f102⟩ := hp102
        have t := t.hs hK f102
        obtain ⟨S0, h0, lS, -⟩ := t.S
        have o1 : G102 (K 1) = _ := S0.ob
        refine z_aload_n1 hZ dX7_hashRing_105 ?_
        refine z_aload_n0 hZ dX7_hashRing_106 ?_
        refine z_cV hZ (As := []) rfl dX7_hashRing_107 ml_X7_360 wy_X7_canTurnYank (m_X7_canTurnYank l t) (by assumption) (by assumption) rfl ⟨Nat.le_of_ble_eq_true rfl, Nat.le_of_ble_eq_true rfl⟩ ⟨Nat.le_of_ble_eq_true rfl, Nat.le_of_ble_eq_true rfl⟩ (Nat.le_of_ble_eq_true rfl) (fun _ _ _ h => h.elim) (fun v107 L107 G107 hp107 => ?_)
        obtain ⟨rfl, rfl, rfl⟩ := hp107
        refine z_if_eq hZ (tgt := 117) dX7_hashRing_110 rfl (by split <;> omega) (fun hc110 => ?_) (fun hc110 => ?_)
        · have k2 : (if kd = 2 then (1 : Int) else 0) = 0 := by assumption
          refine z_lconst hZ (v := 0) dX7_hashRing_117 rfl ?_
          rw [← k2]
          refine z_cV hZ (As := [_]) rfl dX7_hashRing_118 ml_X7_332 wy_X1_add (m_X1_add l hs ts) (by assumption) (by assumption) rfl ⟨Nat.le_of_ble_eq_true rfl, Nat.le_of_ble_eq_true rfl⟩ ⟨Nat.le_of_ble_eq_true rfl, Nat.le_of_ble_eq_true rfl⟩ (Nat.le_of_ble_eq_true rfl) (fun _ _ _ h => h.elim) (fun v118 L118 G118 hp118 => ?_)
          obtain ⟨rfl, rfl, ts, f118⟩ := hp118
          have t := t.hs hK f118
          obtain ⟨S0, h0, lS, -⟩ := t.S
          have o1 : G118 (K 1) = _ := S0.ob
          obtain ⟨π, hlH, hf, w, r, tt, c1, hR, hh, hA, he, hO, hi⟩ := S0
          have hR4 := hR.1
          have ewg : smH hlH (v 3).toNat = wgA v := smH_cg _ (fun i i0 i1 => (hh i i0 (by omega)).1)
          have elg : lgH hlH (v 3).toNat = lgA v := lgH_cg _ (fun i i0 i1 => (hh i i0 (by omega)).1)
          refine z_aload_n1 hZ dX7_hashRing_121 ?_
          refine z_aload_n2 hZ dX7_hashRing_122 ?_
          refine z_cV hZ (As := []) rfl dX7_hashRing_123 ml_X7_260 wy_X3_allCodes (m_X3_allCodes l lS hR) (by assumption) (by assumption) rfl ⟨Nat.le_of_ble_eq_true rfl, Nat.le_of_ble_eq_true rfl⟩ ⟨Nat.le_of_ble_eq_true rfl, Nat.le_of_ble_eq_true rfl⟩ (Nat.le_of_ble_eq_true rfl) (fun _ _ _ h => h.elim) (fun v123 L123 G123 hp123 => ?_)
          obtain ⟨rfl, rfl, rfl⟩ := hp123
          rw [ewg]
          refine z_i2l hZ dX7_hashRing_126 (by omega) ?_
          refine z_cV hZ (As := [_]) rfl dX7_hashRing_127 ml_X7_332 wy_X1_add (m_X1_add l hs ts) (by assumption) (by assumption) rfl ⟨Nat.le_of_ble_eq_true rfl, Nat.le_of_ble_eq_true rfl⟩ ⟨Nat.le_of_ble_eq_true rfl, Nat.le_of_ble_eq_true rfl⟩ (Nat.le_of_ble_eq_true rfl) (fun _ _ _ h => h.elim) (fun v127 L127 G127 hp127 => ?_)
          obtain ⟨rfl, rfl, ts, f127⟩ := hp127
          have t := t.hs hK f127
          obtain ⟨S0, h0, lS, -⟩ := t.S
          have o1 : G127 (K 1) = _ := S0.ob
          obtain ⟨π, hlH, hf, w, r, tt, c1, hR, hh, hA, he, hO, hi⟩ := S0
          have hR4 := hR.1
          have ewg : smH hlH (v 3).toNat = wgA v := smH_cg _ (fun i i0 i1 => (hh i i0 (by omega)).1)
          have elg : lgH hlH (v 3).toNat = lgA v := lgH_cg _ (fun i i0 i1 => (hh i i0 (by omega)).1)
          refine z_aload_n1 hZ dX7_hashRing_130 ?_
          refine z_aload_n2 hZ dX7_hashRing_131 ?_
          refine z_cV hZ (As := []) rfl dX7_hashRing_132 ml_X7_263 wy_X3_longestAt (m_X3_longestAt l lS hR) (by assumption) (by assumption) rfl ⟨Nat.le_of_ble_eq_true rfl, Nat.le_of_ble_eq_true rfl⟩ ⟨Nat.le_of_ble_eq_true rfl, Nat.le_of_ble_eq_true rfl⟩ (Nat.le_of_ble_eq_true rfl) (fun _ _ _ h => h.elim) (fun v132 L132 G132 hp132 => ?_)
          obtain ⟨rfl, rfl, rfl⟩ := hp132
          rw [elg]
          refine z_iconst hZ dX7_hashRing_135 ?_
          refine z_iadd hZ dX7_hashRing_136 ?_
          refine z_i2l hZ dX7_hashRing_137 (by omega) ?_
          refine z_cV hZ (As := [_]) rfl dX7_hashRing_138 ml_X7_332 wy_X1_add (m_X1_add l hs ts) (by assumption) (by assumption) rfl ⟨Nat.le_of_ble_eq_true rfl, Nat.le_of_ble_eq_true rfl⟩ ⟨Nat.le_of_ble_eq_true rfl, Nat.le_of_ble_eq_true rfl⟩ (Nat.le_of_ble_eq_true rfl) (fun _ _ _ h => h.elim) (fun v138 L138 G138 hp138 => ?_)
          obtain ⟨rfl, rfl, ts, f138⟩ := hp138
          exact z_vret hZ rfl (Nat.le_of_ble_eq_true rfl) (Nat.le_of_ble_eq_true rfl) dX7_hashRing_141 (by exact ⟨rfl, rfl, ts, fun b hb => (f138 b hb).trans ((f127 b hb).trans ((f118 b hb).trans ((f102 b hb).trans ((f86 b hb).trans (hG b hb)))))⟩)
        · have k2 : (if kd = 2 then (1 : Int) else 0) = 1 := by (by_cases q : kd = 2; exact if_pos q; exact absurd (if_neg q) hc110)
          refine z_lconst hZ (v := 1) dX7_hashRing_113 rfl ?_
          refine z_goto hZ (tgt := 118) dX7_hashRing_114 rfl ?_
          rw [← k2]
          refine z_cV hZ (As := [_]) rfl dX7_hashRing_118 ml_X7_332 wy_X1_add (m_X1_add l hs ts) (by assumption) (by assumption) rfl ⟨Nat.le_of_ble_eq_true rfl, Nat.le_of_ble_eq_true rfl⟩ ⟨Nat.le_of_ble_eq_true rfl, Nat.le_of_ble_eq_true rfl⟩ (Nat.le_of_ble_eq_true rfl) (fun _ _ _ h => h.elim) (fun v118 L118 G118 hp118 => ?_)
          obtain ⟨rfl, rfl, ts, f118⟩ := hp118
          have t := t.hs hK f118
          obtain ⟨S0, h0, lS, -⟩ := t.S
          have o1 : G118 (K 1) = _ := S0.ob
          obtain ⟨π, hlH, hf, w, r, tt, c1, hR, hh, hA, he, hO, hi⟩ := S0
          have hR4 := hR.1
          have ewg : smH hlH (v 3).toNat = wgA v := smH_cg _ (fun i i0 i1 => (hh i i0 (by omega)).1)
          have elg : lgH hlH (v 3).toNat = lgA v := lgH_cg _ (fun i i0 i1 => (hh i i0 (by omega)).1)
          refine z_aload_n1 hZ dX7_hashRing_121 ?_
          refine z_aload_n2 hZ dX7_hashRing_122 ?_
          refine z_cV hZ (As := []) rfl dX7_hashRing_123 ml_X7_260 wy_X3_allCodes (m_X3_allCodes l lS hR) (by assumption) (by assumption) rfl ⟨Nat.le_of_ble_eq_true rfl, Nat.le_of_ble_eq_true rfl⟩ ⟨Nat.le_of_ble_eq_true rfl, Nat.le_of_ble_eq_true rfl⟩ (Nat.le_of_ble_eq_true rfl) (fun _ _ _ h => h.elim) (fun v123 L123 G123 hp123 => ?_)
          obtain ⟨rfl, rfl, rfl⟩ := hp123
          rw [ewg]
          refine z_i2l hZ dX7_hashRing_126 (by omega) ?_
          refine z_cV hZ (As := [_]) rfl dX7_hashRing_127 ml_X7_332 wy_X1_add (m_X1_add l hs ts) (by assumption) (by assumption) rfl ⟨Nat.le_of_ble_eq_true rfl, Nat.le_of_ble_eq_true rfl⟩ ⟨Nat.le_of_ble_eq_true rfl, Nat.le_of_ble_eq_true rfl⟩ (Nat.le_of_ble_eq_true rfl) (fun _ _ _ h => h.elim) (fun v127 L127 G127 hp127 => ?_)
          obtain ⟨rfl, rfl, ts, f127⟩ := hp127
          have t := t.hs hK f127
          obtain ⟨S0, h0, lS, -⟩ := t.S
          have o1 : G127 (K 1) = _ := S0.ob
          obtain ⟨π, hlH, hf, w, r, tt, c1, hR, hh, hA, he, hO, hi⟩ := S0
          have hR4 := hR.1
          have ewg : smH hlH (v 3).toNat = wgA v := smH_cg _ (fun i i0 i1 => (hh i i0 (by omega)).1)
          have elg : lgH hlH (v 3).toNat = lgA v := lgH_cg _ (fun i i0 i1 => (hh i i0 (by omega)).1)
          refine z_aload_n1 hZ dX7_hashRing_130 ?_
          refine z_aload_n2 hZ dX7_hashRing_131 ?_
          refine z_cV hZ (As := []) rfl dX7_hashRing_132 ml_X7_263 wy_X3_longestAt (m_X3_longestAt l lS hR) (by assumption) (by assumption) rfl ⟨Nat.le_of_ble_eq_true rfl, Nat.le_of_ble_eq_true rfl⟩ ⟨Nat.le_of_ble_eq_true rfl, Nat.le_of_ble_eq_true rfl⟩ (Nat.le_of_ble_eq_true rfl) (fun _ _ _ h => h.elim) (fun v132 L132 G132 hp132 => ?_)
          obtain ⟨rfl, rfl, rfl⟩ := hp132
          rw [elg]
          refine z_iconst hZ dX7_hashRing_135 ?_
          refine z_iadd hZ dX7_hashRing_136 ?_
          refine z_i2l hZ dX7_hashRing_137 (by omega) ?_
          refine z_cV hZ (As := [_]) rfl dX7_hashRing_138 ml_X7_332 wy_X1_add (m_X1_add l hs ts) (by assumption) (by assumption) rfl ⟨Nat.le_of_ble_eq_true rfl, Nat.le_of_ble_eq_true rfl⟩ ⟨Nat.le_of_ble_eq_true rfl, Nat.le_of_ble_eq_true rfl⟩ (Nat.le_of_ble_eq_true rfl) (fun _ _ _ h => h.elim) (fun v138 L138 G138 hp138 => ?_)
          obtain ⟨rfl, rfl, ts, f138⟩ := hp138
          exact z_vret hZ rfl (Nat.le_of_ble_eq_true rfl) (Nat.le_of_ble_eq_true rfl) dX7_hashRing_141 (by exact ⟨rfl, rfl, ts, fun b hb => (f138 b hb).trans ((f127 b hb).trans ((f118 b hb).trans ((f102 b hb).trans ((f86 b hb).trans (hG b hb)))))⟩)
      · have k1 : (if kd = 1 then (1 : Int) else 0) = 1 := by (by_cases q : kd = 1; exact if_pos q; exact absurd (if_neg q) hc94)
        refine z_lconst hZ (v := 1) dX7_hashRing_97 rfl ?_
        refine z_goto hZ (tgt := 102) dX7_hashRing_98 rfl ?_
        rw [← k1]
        refine z_cV hZ (As := [_]) rfl dX7_hashRing_102 ml_X7_332 wy_X1_add (m_X1_add l hs ts) (by assumption) (by assumption) rfl ⟨Nat.le_of_ble_eq_true rfl, Nat.le_of_ble_eq_true rfl⟩ ⟨Nat.le_of_ble_eq_true rfl, Nat.le_of_ble_eq_true rfl⟩ (Nat.le_of_ble_eq_true rfl) (fun _ _ _ h => h.elim) (fun v102 L102 G102 hp102 => ?_)
        obtain ⟨rfl, rfl, ts, f102⟩ := hp102
        have t := t.hs hK f102
        obtain ⟨S0, h0, lS, -⟩ := t.S
        have o1 : G102 (K 1) = _ := S0.ob
        refine z_aload_n1 hZ dX7_hashRing_105 ?_
        refine z_aload_n0 hZ dX7_hashRing_106 ?_
        refine z_cV hZ (As := []) rfl dX7_hashRing_107 ml_X7_360 wy_X7_canTurnYank (m_X7_canTurnYank l t) (by assumption) (by assumption) rfl ⟨Nat.le_of_ble_eq_true rfl, Nat.le_of_ble_eq_true rfl⟩ ⟨Nat.le_of_ble_eq_true rfl, Nat.le_of_ble_eq_true rfl⟩ (Nat.le_of_ble_eq_true rfl) (fun _ _ _ h => h.elim) (fun v107 L107 G107 hp107 => ?_)
        obtain ⟨rfl, rfl, rfl⟩ := hp107
        refine z_if_eq hZ (tgt := 117) dX7_hashRing_110 rfl (by split <;> omega) (fun hc110 => ?_) (fun hc110 => ?_)
        · have k2 : (if kd = 2 then (1 : Int) else 0) = 0 := by assumption
          refine z_lconst hZ (v := 0) dX7_hashRing_117 rfl ?_
          rw [← k2]
          refine z_cV hZ (As := [_]) rfl dX7_hashRing_118 ml_X7_332 wy_X1_add (m_X1_add l hs ts) (by assumption) (by assumption) rfl ⟨Nat.le_of_ble_eq_true rfl, Nat.le_of_ble_eq_true rfl⟩ ⟨Nat.le_of_ble_eq_true rfl, Nat.le_of_ble_eq_true rfl⟩ (Nat.le_of_ble_eq_true rfl) (fun _ _ _ h => h.elim) (fun v118 L118 G118 hp118 => ?_)
          obtain ⟨rfl, rfl, ts, f118⟩ := hp118
          have t := t.hs hK f118
          obtain ⟨S0, h0, lS, -⟩ := t.S
          have o1 : G118 (K 1) = _ := S0.ob
          obtain ⟨π, hlH, hf, w, r, tt, c1, hR, hh, hA, he, hO, hi⟩ := S0
          have hR4 := hR.1
          have ewg : smH hlH (v 3).toNat = wgA v := smH_cg _ (fun i i0 i1 => (hh i i0 (by omega)).1)
          have elg : lgH hlH (v 3).toNat = lgA v := lgH_cg _ (fun i i0 i1 => (hh i i0 (by omega)).1)
          refine z_aload_n1 hZ dX7_hashRing_121 ?_
          refine z_aload_n2 hZ dX7_hashRing_122 ?_
          refine z_cV hZ (As := []) rfl dX7_hashRing_123 ml_X7_260 wy_X3_allCodes (m_X3_allCodes l lS hR) (by assumption) (by assumption) rfl ⟨Nat.le_of_ble_eq_true rfl, Nat.le_of_ble_eq_true rfl⟩ ⟨Nat.le_of_ble_eq_true rfl, Nat.le_of_ble_eq_true rfl⟩ (Nat.le_of_ble_eq_true rfl) (fun _ _ _ h => h.elim) (fun v123 L123 G123 hp123 => ?_)
          obtain ⟨rfl, rfl, rfl⟩ := hp123
          rw [ewg]
          refine z_i2l hZ dX7_hashRing_126 (by omega) ?_
          refine z_cV hZ (As := [_]) rfl dX7_hashRing_127 ml_X7_332 wy_X1_add (m_X1_add l hs ts) (by assumption) (by assumption) rfl ⟨Nat.le_of_ble_eq_true rfl, Nat.le_of_ble_eq_true rfl⟩ ⟨Nat.le_of_ble_eq_true rfl, Nat.le_of_ble_eq_true rfl⟩ (Nat.le_of_ble_eq_true rfl) (fun _ _ _ h => h.elim) (fun v127 L127 G127 hp127 => ?_)
          obtain ⟨rfl, rfl, ts, f127⟩ := hp127
          have t := t.hs hK f127
          obtain ⟨S0, h0, lS, -⟩ := t.S
          have o1 : G127 (K 1) = _ := S0.ob
          obtain ⟨π, hlH, hf, w, r, tt, c1, hR, hh, hA, he, hO, hi⟩ := S0
          have hR4 := hR.1
          have ewg : smH hlH (v 3).toNat = wgA v := smH_cg _ (fun i i0 i1 => (hh i i0 (by omega)).1)
          have elg : lgH hlH (v 3).toNat = lgA v := lgH_cg _ (fun i i0 i1 => (hh i i0 (by omega)).1)
          refine z_aload_n1 hZ dX7_hashRing_130 ?_
          refine z_aload_n2 hZ dX7_hashRing_131 ?_
          refine z_cV hZ (As := []) rfl dX7_hashRing_132 ml_X7_263 wy_X3_longestAt (m_X3_longestAt l lS hR) (by assumption) (by assumption) rfl ⟨Nat.le_of_ble_eq_true rfl, Nat.le_of_ble_eq_true rfl⟩ ⟨Nat.le_of_ble_eq_true rfl, Nat.le_of_ble_eq_true rfl⟩ (Nat.le_of_ble_eq_true rfl) (fun _ _ _ h => h.elim) (fun v132 L132 G132 hp132 => ?_)
          obtain ⟨rfl, rfl, rfl⟩ := hp132
          rw [elg]
          refine z_iconst hZ dX7_hashRing_135 ?_
          refine z_iadd hZ dX7_hashRing_136 ?_
          refine z_i2l hZ dX7_hashRing_137 (by omega) ?_
          refine z_cV hZ (As := [_]) rfl dX7_hashRing_138 ml_X7_332 wy_X1_add (m_X1_add l hs ts) (by assumption) (by assumption) rfl ⟨Nat.le_of_ble_eq_true rfl, Nat.le_of_ble_eq_true rfl⟩ ⟨Nat.le_of_ble_eq_true rfl, Nat.le_of_ble_eq_true rfl⟩ (Nat.le_of_ble_eq_true rfl) (fun _ _ _ h => h.elim) (fun v138 L138 G138 hp138 => ?_)
          obtain ⟨rfl, rfl, ts, f138⟩ := hp138
          exact z_vret hZ rfl (Nat.le_of_ble_eq_true rfl) (Nat.le_of_ble_eq_true rfl) dX7_hashRing_141 (by exact ⟨rfl, rfl, ts, fun b hb => (f138 b hb).trans ((f127 b hb).trans ((f118 b hb).trans ((f102 b hb).trans ((f86 b hb).trans (hG b hb)))))⟩)
        · have k2 : (if kd = 2 then (1 : Int) else 0) = 1 := by (by_cases q : kd = 2; exact if_pos q; exact absurd (if_neg q) hc110)
          refine z_lconst hZ (v := 1) dX7_hashRing_113 rfl ?_
          refine z_goto hZ (tgt := 118) dX7_hashRing_114 rfl ?_
          rw [← k2]
          refine z_cV hZ (As := [_]) rfl dX7_hashRing_118 ml_X7_332 wy_X1_add (m_X1_add l hs ts) (by assumption) (by assumption) rfl ⟨Nat.le_of_ble_eq_true rfl, Nat.le_of_ble_eq_true rfl⟩ ⟨Nat.le_of_ble_eq_true rfl, Nat.le_of_ble_eq_true rfl⟩ (Nat.le_of_ble_eq_true rfl) (fun _ _ _ h => h.elim) (fun v118 L118 G118 hp118 => ?_)
          obtain ⟨rfl, rfl, ts, f118⟩ := hp118
          have t := t.hs hK f118
          obtain ⟨S0, h0, lS, -⟩ := t.S
          have o1 : G118 (K 1) = _ := S0.ob
          obtain ⟨π, hlH, hf, w, r, tt, c1, hR, hh, hA, he, hO, hi⟩ := S0
          have hR4 := hR.1
          have ewg : smH hlH (v 3).toNat = wgA v := smH_cg _ (fun i i0 i1 => (hh i i0 (by omega)).1)
          have elg : lgH hlH (v 3).toNat = lgA v := lgH_cg _ (fun i i0 i1 => (hh i i0 (by omega)).1)
          refine z_aload_n1 hZ dX7_hashRing_121 ?_
          refine z_aload_n2 hZ dX7_hashRing_122 ?_
          refine z_cV hZ (As := []) rfl dX7_hashRing_123 ml_X7_260 wy_X3_allCodes (m_X3_allCodes l lS hR) (by assumption) (by assumption) rfl ⟨Nat.le_of_ble_eq_true rfl, Nat.le_of_ble_eq_true rfl⟩ ⟨Nat.le_of_ble_eq_true rfl, Nat.le_of_ble_eq_true rfl⟩ (Nat.le_of_ble_eq_true rfl) (fun _ _ _ h => h.elim) (fun v123 L123 G123 hp123 => ?_)
          obtain ⟨rfl, rfl, rfl⟩ := hp123
          rw [ewg]
          refine z_i2l hZ dX7_hashRing_126 (by omega) ?_
          refine z_cV hZ (As := [_]) rfl dX7_hashRing_127 ml_X7_332 wy_X1_add (m_X1_add l hs ts) (by assumption) (by assumption) rfl ⟨Nat.le_of_ble_eq_true rfl, Nat.le_of_ble_eq_true rfl⟩ ⟨Nat.le_of_ble_eq_true rfl, Nat.le_of_ble_eq_true rfl⟩ (Nat.le_of_ble_eq_true rfl) (fun _ _ _ h => h.elim) (fun v127 L127 G127 hp127 => ?_)
          obtain ⟨rfl, rfl, ts, f127⟩ := hp127
          have t := t.hs hK f127
          obtain ⟨S0, h0, lS, -⟩ := t.S
          have o1 : G127 (K 1) = _ := S0.ob
          obtain ⟨π, hlH, hf, w, r, tt, c1, hR, hh, hA, he, hO, hi⟩ := S0
          have hR4 := hR.1
          have ewg : smH hlH (v 3).toNat = wgA v := smH_cg _ (fun i i0 i1 => (hh i i0 (by omega)).1)
          have elg : lgH hlH (v 3).toNat = lgA v := lgH_cg _ (fun i i0 i1 => (hh i i0 (by omega)).1)
          refine z_aload_n1 hZ dX7_hashRing_130 ?_
          refine z_aload_n2 hZ dX7_hashRing_131 ?_
          refine z_cV hZ (As := []) rfl dX7_hashRing_132 ml_X7_263 wy_X3_longestAt (m_X3_longestAt l lS hR) (by assumption) (by assumption) rfl ⟨Nat.le_of_ble_eq_true rfl, Nat.le_of_ble_eq_true rfl⟩ ⟨Nat.le_of_ble_eq_true rfl, Nat.le_of_ble_eq_true rfl⟩ (Nat.le_of_ble_eq_true rfl) (fun _ _ _ h => h.elim) (fun v132 L132 G132 hp132 => ?_)
          obtain ⟨rfl, rfl, rfl⟩ := hp132
          rw [elg]
          refine z_iconst hZ dX7_hashRing_135 ?_
          refine z_iadd hZ dX7_hashRing_136 ?_
          refine z_i2l hZ dX7_hashRing_137 (by omega) ?_
          refine z_cV hZ (As := [_]) rfl dX7_hashRing_138 ml_X7_332 wy_X1_add (m_X1_add l hs ts) (by assumption) (by assumption) rfl ⟨Nat.le_of_ble_eq_true rfl, Nat.le_of_ble_eq_true rfl⟩ ⟨Nat.le_of_ble_eq_true rfl, Nat.le_of_ble_eq_true rfl⟩ (Nat.le_of_ble_eq_true rfl) (fun _ _ _ h => h.elim) (fun v138 L138 G138 hp138 => ?_)
          obtain ⟨rfl, rfl, ts, f138⟩ := hp138
          exact z_vret hZ rfl (Nat.le_of_ble_eq_true rfl) (Nat.le_of_ble_eq_true rfl) dX7_hashRing_141 (by exact ⟨rfl, rfl, ts, fun b hb => (f138 b hb).trans ((f127 b hb).trans ((f118 b hb).trans ((f102 b hb).trans ((f86 b hb).trans (hG b hb)))))⟩)
    have loop : ∀ (m : Nat) (i : Int) (G : Nat → PE), (v 3 - i).toNat = m → 0 ≤ i → i ≤ v 3 → dr L G K v kd sv H kp Q n bf → (∀ b, b ≠ s → G b = F b) → G s = eO 1 [.long (lL (hRi v (ha (ha h (v 3)) (v 5)) i.toNat))] → ZZ 0 0 28 [some (.ref (K 0)), some (.ref s), some (.ref (sK K 0 4)), some (.int (iI i))] [] L G := by
      intro m
      induction m with
      | zero =>
        intro i G hm i0 i1 t hG ts
        obtain ⟨S0, h0, lS, -⟩ := t.S
        obtain ⟨π, hlH, hf, w, r, tt, c1, hR, hh, hA, he, hO, hi⟩ := S0
        have hR4 := hR.1
        have e : i = v 3 := by omega
        refine z_iload_n3 hZ dX7_hashRing_28 ?_
        refine z_aload_n2 hZ dX7_hashRing_29 ?_
        refine z_gf_X3_count hZ dX7_hashRing_30 fl_X7_240 (by assumption) (by assumption) ?_
        refine z_icmp_ge hZ (tgt := 78) dX7_hashRing_33 rfl (by omega) (fun hc33 => ?_) (fun hc33 => ?_)
        · rw [e] at ts; exact tail G t hG ts i
        · exfalso; omega
      | succ m ih =>
        intro i G hm i0 i1 t hG ts
        obtain ⟨S0, h0, lS, -⟩ := t.S
        obtain ⟨π, hlH, hf, w, r, tt, c1, hR, hh, hA, he, hO, hi⟩ := S0
        have hR4 := hR.1
        have i2 : i < v 3 := by omega
        have tH := hR.tx i0 i2
        have hπ := (hR.2.2.2.1 i i0 (by omega)).1
        have hq := hh i i0 i2
        have hqr := hi.1 i i0 i2
        refine z_iload_n3 hZ dX7_hashRing_28 ?_
        refine z_aload_n2 hZ dX7_hashRing_29 ?_
        refine z_gf_X3_count hZ dX7_hashRing_30 fl_X7_240 (by assumption) (by assumption) ?_
        refine z_icmp_ge hZ (tgt := 78) dX7_hashRing_33 rfl (by omega) (fun hc33 => ?_) (fun hc33 => ?_)
        · exfalso; omega
        · refine z_aload_n1 hZ dX7_hashRing_36 ?_
          refine z_aload_n2 hZ dX7_hashRing_37 ?_
          refine z_iload_n3 hZ dX7_hashRing_38 ?_
          refine z_cV hZ (As := [_]) rfl dX7_hashRing_39 ml_X7_250 wy_X3_hoard (m_X3_hoard l lS hR ⟨i0, i2⟩) (by assumption) (by assumption) rfl ⟨Nat.le_of_ble_eq_true rfl, Nat.le_of_ble_eq_true rfl⟩ ⟨Nat.le_of_ble_eq_true rfl, Nat.le_of_ble_eq_true rfl⟩ (Nat.le_of_ble_eq_true rfl) (fun _ _ _ h => h.elim) (fun v39 L39 G39 hp39 => ?_)
          obtain ⟨rfl, rfl, rfl⟩ := hp39
          refine z_cV hZ (As := [_]) rfl dX7_hashRing_42 ml_X7_328 wy_X1_addText (m_X1_addText l hs ts tH ⟨sK_ne hK (by omega), sK_ne hK (by omega)⟩) (by assumption) (by assumption) rfl ⟨Nat.le_of_ble_eq_true rfl, Nat.le_of_ble_eq_true rfl⟩ ⟨Nat.le_of_ble_eq_true rfl, Nat.le_of_ble_eq_true rfl⟩ (Nat.le_of_ble_eq_true rfl) (fun _ _ _ h => h.elim) (fun v42 L42 G42 hp42 => ?_)
          obtain ⟨rfl, rfl, ts, f42⟩ := hp42
          have t := t.hs hK f42
          obtain ⟨S0, h0, lS, -⟩ := t.S
          have o1 : G42 (K 1) = _ := S0.ob
          obtain ⟨π2, hlH2, hf2, w2, r2, tt2, c1, hR, hh, hA, he, hO, hi⟩ := S0
          have hR4 := hR.1
          have c1o := c1.2.1
          have c2 := c1.2.2.1.2.1
          have tH := hR.tx i0 i2
          have hπ := (hR.2.2.2.1 i i0 (by omega)).1
          have lH := lS (9 + π2 i) (by omega)
          have oH := tH.2.1
          have hq2 := hh i i0 i2
          refine z_aload_n1 hZ dX7_hashRing_45 ?_
          refine z_aload_n0 hZ dX7_hashRing_46 ?_
          refine z_gf_X7_now hZ dX7_hashRing_47 fl_X7_10 (by assumption) (by assumption) ?_
          refine z_gf_X5_scroll hZ dX7_hashRing_50 fl_X7_68 (by assumption) (by assumption) ?_
          refine z_gf_X4_text hZ dX7_hashRing_53 fl_X7_72 (by assumption) (by assumption) ?_
          refine z_cV hZ (As := []) rfl dX7_hashRing_56 ml_X7_77 wy_X6_count (m_X6_count l c1.2.2.1) (by assumption) (by assumption) rfl ⟨Nat.le_of_ble_eq_true rfl, Nat.le_of_ble_eq_true rfl⟩ ⟨Nat.le_of_ble_eq_true rfl, Nat.le_of_ble_eq_true rfl⟩ (Nat.le_of_ble_eq_true rfl) (fun _ _ _ h => h.elim) (fun v56 L56 G56 hp56 => ?_)
          obtain ⟨rfl, rfl, rfl⟩ := hp56
          refine z_aload_n2 hZ dX7_hashRing_59 ?_
          refine z_iload_n3 hZ dX7_hashRing_60 ?_
          refine z_cV hZ (As := [_]) rfl dX7_hashRing_61 ml_X7_250 wy_X3_hoard (m_X3_hoard l lS hR ⟨i0, i2⟩) (by assumption) (by assumption) rfl ⟨Nat.le_of_ble_eq_true rfl, Nat.le_of_ble_eq_true rfl⟩ ⟨Nat.le_of_ble_eq_true rfl, Nat.le_of_ble_eq_true rfl⟩ (Nat.le_of_ble_eq_true rfl) (fun _ _ _ h => h.elim) (fun v61 L61 G61 hp61 => ?_)
          obtain ⟨rfl, rfl, rfl⟩ := hp61
          refine z_cV hZ (As := []) rfl dX7_hashRing_64 ml_X7_77 wy_X6_count (m_X6_count l tH) (by assumption) (by assumption) rfl ⟨Nat.le_of_ble_eq_true rfl, Nat.le_of_ble_eq_true rfl⟩ ⟨Nat.le_of_ble_eq_true rfl, Nat.le_of_ble_eq_true rfl⟩ (Nat.le_of_ble_eq_true rfl) (fun _ _ _ h => h.elim) (fun v64 L64 G64 hp64 => ?_)
          obtain ⟨rfl, rfl, rfl⟩ := hp64
          rw [hq2.1]
          refine z_iadd hZ dX7_hashRing_67 ?_
          refine z_i2l hZ dX7_hashRing_68 (by omega) ?_
          refine z_cV hZ (As := [_]) rfl dX7_hashRing_69 ml_X7_332 wy_X1_add (m_X1_add l hs ts) (by assumption) (by assumption) rfl ⟨Nat.le_of_ble_eq_true rfl, Nat.le_of_ble_eq_true rfl⟩ ⟨Nat.le_of_ble_eq_true rfl, Nat.le_of_ble_eq_true rfl⟩ (Nat.le_of_ble_eq_true rfl) (fun _ _ _ h => h.elim) (fun v69 L69 G69 hp69 => ?_)
          obtain ⟨rfl, rfl, ts, f69⟩ := hp69
          refine z_iinc3 hZ dX7_hashRing_72 (by decide) rfl ?_
          refine z_goto hZ (tgt := 28) dX7_hashRing_75 rfl ?_
          exact ih (i + 1) G69 (by omega) (by omega) (by omega) (t.hs hK f69) (fun b hb => (f69 b hb).trans ((f42 b hb).trans (hG b hb))) (by rw [hT_cg hq.2, hq.1] at ts; rw [hRi_s i0]; exact ts)
    obtain ⟨π, hlH, hf, w, r, tt, c1, hR, hh, hA, he, hO, hi⟩ := S0
    have hR4 := hR.1
    refine z_aload_n0 hZ dX7_hashRing_0 ?_
    refine z_gf_X7_now hZ dX7_hashRing_1 fl_X7_10 (by assumption) (by assumption) ?_
    refine z_gf_X5_ring hZ dX7_hashRing_4 fl_X7_236 (by assumption) (by assumption) ?_
    refine z_astore_n2 hZ dX7_hashRing_7 (by decide) rfl ?_
    refine z_aload_n1 hZ dX7_hashRing_8 ?_
    refine z_aload_n2 hZ dX7_hashRing_9 ?_
    refine z_gf_X3_count hZ dX7_hashRing_10 fl_X7_240 (by assumption) (by assumption) ?_
    refine z_i2l hZ dX7_hashRing_13 (by omega) ?_
    refine z_cV hZ (As := [_]) rfl dX7_hashRing_14 ml_X7_332 wy_X1_add (m_X1_add l hs ts) (by assumption) (by assumption) rfl ⟨Nat.le_of_ble_eq_true rfl, Nat.le_of_ble_eq_true rfl⟩ ⟨Nat.le_of_ble_eq_true rfl, Nat.le_of_ble_eq_true rfl⟩ (Nat.le_of_ble_eq_true rfl) (fun _ _ _ h => h.elim) (fun v14 L14 G14 hp14 => ?_)
    obtain ⟨rfl, rfl, ts, f14⟩ := hp14
    have t := t.hs hK f14
    obtain ⟨S0, h0, lS, -⟩ := t.S
    have o1 : G14 (K 1) = _ := S0.ob
    obtain ⟨π, hlH, hf, w, r, tt, c1, hR, hh, hA, he, hO, hi⟩ := S0
    have hR4 := hR.1
    refine z_aload_n1 hZ dX7_hashRing_17 ?_
    refine z_aload_n2 hZ dX7_hashRing_18 ?_
    refine z_gf_X3_caves hZ dX7_hashRing_19 fl_X7_244 (by assumption) (by assumption) ?_
    refine z_i2l hZ dX7_hashRing_22 (by omega) ?_
    refine z_cV hZ (As := [_]) rfl dX7_hashRing_23 ml_X7_332 wy_X1_add (m_X1_add l hs ts) (by assumption) (by assumption) rfl ⟨Nat.le_of_ble_eq_true rfl, Nat.le_of_ble_eq_true rfl⟩ ⟨Nat.le_of_ble_eq_true rfl, Nat.le_of_ble_eq_true rfl⟩ (Nat.le_of_ble_eq_true rfl) (fun _ _ _ h => h.elim) (fun v23 L23 G23 hp23 => ?_)
    obtain ⟨rfl, rfl, ts, f23⟩ := hp23
    refine z_iconst hZ dX7_hashRing_26 ?_
    refine z_istore_n3 hZ dX7_hashRing_27 (by decide) rfl ?_
    exact loop (v 3).toNat 0 G23 (by omega) (by omega) (by omega) (t.hs hK f23) (fun b hb => (f23 b hb).trans (f14 b hb)) ts
  exact hgo

