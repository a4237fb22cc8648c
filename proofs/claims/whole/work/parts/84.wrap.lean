/-! THE LAW'S OWN METHODS: a call of the class, its exceptions caught. -/
theorem ca_S : Cond.castable xS xS ∈ xtL := by decide +kernel
theorem ca_A : Cond.castable xA xA ∈ xtL := by decide +kernel
theorem ca_B : Cond.castable xB xB ∈ xtL := by decide +kernel
theorem hOk1 {Φ : State → Prop} {a b h ct pc : Nat} {rest : List (Nat × Nat × Nat × Nat)} {own E : String} (hc : covers ⟨a, b, h, ct⟩ pc = true) (h0 : ct ≠ 0) (cl : Cond.classLink own ct E ∈ wsG) (cs : Cond.castable E E ∈ xtL) : hOk Φ (tableOf ((a, b, h, ct) :: rest)) own pc E h :=
  ⟨[], ⟨a, b, h, ct⟩, tableOf rest, E, rfl, fun z hz => absurd hz List.not_mem_nil, hc, h0, cl, cs, rfl⟩
theorem hOk2 {Φ : State → Prop} {a b h ct a1 b1 h1 ct1 pc : Nat} {rest : List (Nat × Nat × Nat × Nat)} {own E E1 : String} (h01 : ct1 ≠ 0) (cl1 : Cond.classLink own ct1 E1 ∈ wsG) (hn : ∀ s, Φ s → va_Nc E E1 s) (hc : covers ⟨a, b, h, ct⟩ pc = true) (h0 : ct ≠ 0) (cl : Cond.classLink own ct E ∈ wsG) (cs : Cond.castable E E ∈ xtL) : hOk Φ (tableOf ((a1, b1, h1, ct1) :: (a, b, h, ct) :: rest)) own pc E h :=
  ⟨[⟨a1, b1, h1, ct1⟩], ⟨a, b, h, ct⟩, tableOf rest, E, rfl, fun z hz => by
    rcases List.mem_singleton.mp hz with rfl
    exact Or.inr ⟨h01, E1, cl1, hn⟩, hc, h0, cl, cs, rfl⟩
theorem dAn_rg {v : Int → Int} {kd : Int} {d : Nat} (w : vf v kd) (hd : d < 22) (h : dOk d kd v) : 0 ≤ dAn d v ∧ dAn d v ≤ 1000 := by
  have r := w.1
  have rW := wS_rg (n := v 0) (f := fT v) (p := v 1) (by omega)
  have rB := wB_rg (n := v 0) (f := fT v) (p := v 1) (by omega)
  have rS := lB_rg (n := v 0) (f := fT v) (p := v 1) (by omega)
  have rE := lE_rg (n := v 0) (f := fT v) (p := v 1) (by omega)
  have rK : kLj v ≤ v 0 + 1 := by unfold kLj; split <;> omega
  have rG := grN_rg (v := v) (by omega)
  have rm : 0 ≤ mxI (v 2) (v 1) - mnI (v 2) (v 1) ∧ mxI (v 2) (v 1) - mnI (v 2) (v 1) ≤ 201 := by unfold mxI mnI; split <;> split <;> omega
  have rA : ∀ p, 0 ≤ p → p ≤ v 0 → 0 ≤ abI (p - v 1) ∧ abI (p - v 1) ≤ 1000 := fun p h0 h1 => by have := abI_rg (a := p) (b := v 1) (by omega); omega
  have rc : ∀ k, 0 ≤ k → k < v 0 → 10 ≤ v (18 + k) ∧ v (18 + k) ≤ 126 := w.2.2.1
  match d, hd, h with
  | 0, _, _ => show (0 : Int) ≤ 0 ∧ (0 : Int) ≤ 1000; omega
  | 1, _, _ => show (0 : Int) ≤ 0 ∧ (0 : Int) ≤ 1000; omega
  | 2, _, _ => exact rA _ (by omega) (by omega)
  | 3, _, _ => exact rA _ (by omega) (by omega)
  | 4, _, _ => exact rA _ (by omega) (by omega)
  | 5, _, _ => exact rA _ (by omega) (by omega)
  | 6, _, _ => show 0 ≤ v 1 ∧ v 1 ≤ 1000; omega
  | 7, _, h => have h : v 2 ≠ -1 := h; show 0 ≤ v 2 ∧ v 2 ≤ 1000; omega
  | 8, _, _ => show 0 ≤ wS (v 0) (fT v) (v 1) - v 1 ∧ wS (v 0) (fT v) (v 1) - v 1 ≤ 1000; omega
  | 9, _, _ => show 0 ≤ v 1 - wB (v 0) (fT v) (v 1) ∧ v 1 - wB (v 0) (fT v) (v 1) ≤ 1000; omega
  | 10, _, h => have h : v 1 < kLj v := h; show 0 ≤ kLj v - v 1 ∧ kLj v - v 1 ≤ 1000; omega
  | 11, _, _ => show 0 ≤ mxI (v 2) (v 1) - mnI (v 2) (v 1) ∧ mxI (v 2) (v 1) - mnI (v 2) (v 1) ≤ 1000; omega
  | 12, _, _ => show 0 ≤ mxI (v 2) (v 1) - mnI (v 2) (v 1) ∧ mxI (v 2) (v 1) - mnI (v 2) (v 1) ≤ 1000; omega
  | 13, _, h =>
    have h1 : 0 < v 3 := h.1
    have r4 := w.2.1.2.2.1 h1
    have rn : 1 ≤ nxL v ∧ nxL v ≤ 200 := w.2.1.1 (v 4) r4.1 r4.2
    show 0 ≤ nxL v ∧ nxL v ≤ 1000
    omega
  | 14, _, h =>
    have h1 : kd = 2 := h.1
    have z2 := w.2.1.2.2.2.2.2 h1
    have rt := trA_rg (z := 1) (v := v) (by omega)
    have ro : 1 ≤ oyL v ∧ oyL v ≤ 200 := w.2.1.1 (trA 1 v) rt.1 rt.2
    show 0 ≤ oyL v ∧ oyL v ≤ 1000
    omega
  | 15, _, _ => show (0 : Int) ≤ 0 ∧ (0 : Int) ≤ 1000; omega
  | 16, _, h =>
    have h : 0 < v 1 := h
    have c := rc (v 1 - 1) (by omega) (by omega)
    show 0 ≤ v (18 + (v 1 - 1)) ∧ v (18 + (v 1 - 1)) ≤ 1000
    omega
  | 17, _, h =>
    have h : 0 < v 1 ∧ v 1 < v 0 := h
    have c := rc (v 1 - 1) (by omega) (by omega)
    rw [show 18 + (v 1 - 1) = 18 + v 1 - 1 by omega] at c
    show 0 ≤ v (18 + v 1 - 1) ∧ v (18 + v 1 - 1) ≤ 1000
    omega
  | 18, _, _ => show 0 ≤ grN v ∧ grN v ≤ 1000; omega
  | 19, _, _ => show (0 : Int) ≤ 0 ∧ (0 : Int) ≤ 1000; omega
  | 20, _, _ => show (0 : Int) ≤ 0 ∧ (0 : Int) ≤ 1000; omega
  | 21, _, _ => show (0 : Int) ≤ 0 ∧ (0 : Int) ≤ 1000; omega
  | _ + 22, h, _ => omega
theorem fdA_rg {n p n1 : Int} {f f1 : Int → Int} (h : 0 ≤ p ∧ p ≤ n) : -1 ≤ fdA n f n1 f1 p ∧ fdA n f n1 f1 p ≤ n := by
  have z := up_rg (P := fun a => !decide (stA n f n1 f1 a)) h.2
  unfold fdA
  split <;> omega
theorem rnF_rg {bf : Int → Int} {n : Int} : ∀ (m : Nat) (a : Int) (v : Int → Int) (kd c : Int) (w : Int → Int) (k1 c1 : Int), rnF bf n m a v kd c = some (w, k1, c1) → c ≤ c1 ∧ c1 ≤ c + 9 * m := by
  intro m
  induction m with
  | zero =>
    intro a v kd c w k1 c1 h
    have h : some (v, kd, c) = some (w, k1, c1) := h
    have e := congrArg (fun z => z.2.2) (Option.some.inj h)
    have e : c = c1 := e
    omega
  | succ m ih =>
    intro a v kd c w k1 c1 h
    have h : (if a < n then (rpF (lix (bf (pA1 bf n a))) (pSg bf n a) (pTm bf n a).toNat v kd).bind (fun w => rnF bf n m (pE bf n a) w.1 w.2 (c + pTm bf n a)) else some (v, kd, c)) = some (w, k1, c1) := h
    by_cases q : a < n
    · rw [if_pos q] at h
      rcases hr : rpF (lix (bf (pA1 bf n a))) (pSg bf n a) (pTm bf n a).toNat v kd with _ | z
      · rw [hr] at h; cases h
      · rw [hr] at h
        have y := ih _ _ _ _ _ _ _ h
        have t : 1 ≤ pTm bf n a ∧ pTm bf n a ≤ 9 := by unfold pTm; split <;> omega
        omega
    · rw [if_neg q] at h
      have e := congrArg (fun z => z.2.2) (Option.some.inj h)
      have e : c = c1 := e
      omega
set_option maxRecDepth 100000 in
set_option maxHeartbeats 4000000 in
theorem m_L_rub (l : Launch) {LX M : List Nat} {F : Nat → PE} {K : Nat → Nat} {v : Int → Int} {kd sv n : Int} {H Q : Int → Int → Int} {kp bf : Int → Int} (hfl : l.flags = flags0) (t : dr LX F K v kd sv H kp Q n bf) {o : Nat} {u : Int → Int} (ho : o ∈ M) (hd : ∀ b, b ∈ LX → b ≠ o) (hu : F o = eL 1 u) : PMh l yL_rub cL_rub 3 (some .int) [(0, 8, 11, 15)] (rm 9 1 6) (LX ++ M) [.ref (K 0), .ref o] F (fun v9 L1 F1 => L1 = LX ++ M ∧ (∀ b, b ∈ M → b ≠ o → F1 b = F b) ∧ ∃ u1 : Int → Int, F1 o = eL 1 u1 ∧ ((dOk 16 kd v ∧ v9 = some (.int (iI 0)) ∧ u1 0 = dAn 16 v ∧ dr LX F1 K (dTo 16 0 kd v) (dKn 16) (hN sv) (hS sv H v) kp Q n bf) ∨ (¬ dOk 16 kd v ∧ v9 = some (.int (iI 1)) ∧ dr LX F1 K v kd sv H kp Q n bf))) := by
  refine pmh_of cw_L_rub (by decide +kernel) (Nat.le_of_ble_eq_true rfl) (fun ZZ hZ => ?_)
  have hgo : ZZ 0 0 0 [some (.ref (K 0)), some (.ref o), none] [] (LX ++ M) F := by
    have fx := dr.fx t
    have r := fx.1.1
    refine zq_aload_n1 hZ dL_rub_0 ?_
    refine zq_iconst hZ dL_rub_1 ?_
    refine zq_aload_n0 hZ dL_rub_2 ?_
    refine zq_cV hZ (As := []) rfl dL_rub_3 ml_L_17 wy_X7_rub (pm_fr M (m_X7_rub l hfl t)) (List.mem_append_left _ (dr.L t 0 (by omega))) (dr.S t).2.1 rfl ⟨Nat.le_of_ble_eq_true rfl, Nat.le_of_ble_eq_true rfl⟩ ⟨Nat.le_of_ble_eq_true rfl, Nat.le_of_ble_eq_true rfl⟩ (Nat.le_of_ble_eq_true rfl) (fun E L9 F9 hx => ?_) (fun v9 L9 F9 hp => ?_)
    · obtain ⟨L2, F2, hx, rfl, e1, e2⟩ := hx
      obtain ⟨rfl, no, rfl, t2⟩ := hx
      refine ⟨11, hOk1 rfl (by decide) cl_L_15 ca_S, fun q => ?_⟩
      refine zq_astore_n2 hZ dL_rub_11 (by decide) rfl ?_
      refine zq_iconst hZ dL_rub_12 ?_
      refine zq_iret hZ rfl (Nat.le_of_ble_eq_true rfl) (Nat.le_of_ble_eq_true rfl) dL_rub_13 ?_
      refine ⟨rfl, fun b hb _ => e2 b hb, u, (e2 o ho).trans hu, ?_⟩
      exact Or.inr ⟨no, rfl, dr.mv t2 e1⟩
    · obtain ⟨L2, F2, hp, rfl, e1, e2⟩ := hp
      obtain ⟨ok, rfl, rfl, t2⟩ := hp
      have rr := dAn_rg (d := 16) fx.1 (by decide) ok
      refine zq_i2l hZ dL_rub_6 (by omega) ?_
      refine zq_lastore hZ dL_rub_7 (List.mem_append_right _ ho) ((e2 o ho).trans hu) ⟨by omega, by omega, by omega⟩ (fun G hG hg => ?_)
      refine zq_goto hZ (tgt := 14) dL_rub_8 rfl ?_
      refine zq_iconst hZ dL_rub_14 ?_
      refine zq_iret hZ rfl (Nat.le_of_ble_eq_true rfl) (Nat.le_of_ble_eq_true rfl) dL_rub_15 ?_
      have e3 : ∀ b, b ∈ LX → G b = F2 b := fun b hb => (hg b (hd b hb)).trans (e1 b hb)
      refine ⟨rfl, fun b hb hbo => (hg b hbo).trans (e2 b hb), _, hG, ?_⟩
      exact Or.inl ⟨ok, rfl, wu_s, dr.mv t2 e3⟩
  exact hgo
set_option maxRecDepth 100000 in
set_option maxHeartbeats 4000000 in
theorem m_L_swap (l : Launch) {LX M : List Nat} {F : Nat → PE} {K : Nat → Nat} {v : Int → Int} {kd sv n : Int} {H Q : Int → Int → Int} {kp bf : Int → Int} (hfl : l.flags = flags0) (t : dr LX F K v kd sv H kp Q n bf) {o : Nat} {u : Int → Int} (ho : o ∈ M) (hd : ∀ b, b ∈ LX → b ≠ o) (hu : F o = eL 1 u) : PMh l yL_swap cL_swap 3 (some .int) [(0, 8, 11, 15)] (rm 9 1 6) (LX ++ M) [.ref (K 0), .ref o] F (fun v9 L1 F1 => L1 = LX ++ M ∧ (∀ b, b ∈ M → b ≠ o → F1 b = F b) ∧ ∃ u1 : Int → Int, F1 o = eL 1 u1 ∧ ((dOk 17 kd v ∧ v9 = some (.int (iI 0)) ∧ u1 0 = dAn 17 v ∧ dr LX F1 K (dTo 17 0 kd v) (dKn 17) (hN sv) (hS sv H v) kp Q n bf) ∨ (¬ dOk 17 kd v ∧ v9 = some (.int (iI 1)) ∧ dr LX F1 K v kd sv H kp Q n bf))) := by
  refine pmh_of cw_L_swap (by decide +kernel) (Nat.le_of_ble_eq_true rfl) (fun ZZ hZ => ?_)
  have hgo : ZZ 0 0 0 [some (.ref (K 0)), some (.ref o), none] [] (LX ++ M) F := by
    have fx := dr.fx t
    have r := fx.1.1
    refine zq_aload_n1 hZ dL_swap_0 ?_
    refine zq_iconst hZ dL_swap_1 ?_
    refine zq_aload_n0 hZ dL_swap_2 ?_
    refine zq_cV hZ (As := []) rfl dL_swap_3 ml_L_21 wy_X7_swap (pm_fr M (m_X7_swap l hfl t)) (List.mem_append_left _ (dr.L t 0 (by omega))) (dr.S t).2.1 rfl ⟨Nat.le_of_ble_eq_true rfl, Nat.le_of_ble_eq_true rfl⟩ ⟨Nat.le_of_ble_eq_true rfl, Nat.le_of_ble_eq_true rfl⟩ (Nat.le_of_ble_eq_true rfl) (fun E L9 F9 hx => ?_) (fun v9 L9 F9 hp => ?_)
    · obtain ⟨L2, F2, hx, rfl, e1, e2⟩ := hx
      obtain ⟨rfl, no, rfl, t2⟩ := hx
      refine ⟨11, hOk1 rfl (by decide) cl_L_15 ca_S, fun q => ?_⟩
      refine zq_astore_n2 hZ dL_swap_11 (by decide) rfl ?_
      refine zq_iconst hZ dL_swap_12 ?_
      refine zq_iret hZ rfl (Nat.le_of_ble_eq_true rfl) (Nat.le_of_ble_eq_true rfl) dL_swap_13 ?_
      refine ⟨rfl, fun b hb _ => e2 b hb, u, (e2 o ho).trans hu, ?_⟩
      exact Or.inr ⟨no, rfl, dr.mv t2 e1⟩
    · obtain ⟨L2, F2, hp, rfl, e1, e2⟩ := hp
      obtain ⟨ok, rfl, rfl, t2⟩ := hp
      have rr := dAn_rg (d := 17) fx.1 (by decide) ok
      refine zq_i2l hZ dL_swap_6 (by omega) ?_
      refine zq_lastore hZ dL_swap_7 (List.mem_append_right _ ho) ((e2 o ho).trans hu) ⟨by omega, by omega, by omega⟩ (fun G hG hg => ?_)
      refine zq_goto hZ (tgt := 14) dL_swap_8 rfl ?_
      refine zq_iconst hZ dL_swap_14 ?_
      refine zq_iret hZ rfl (Nat.le_of_ble_eq_true rfl) (Nat.le_of_ble_eq_true rfl) dL_swap_15 ?_
      have e3 : ∀ b, b ∈ LX → G b = F2 b := fun b hb => (hg b (hd b hb)).trans (e1 b hb)
      refine ⟨rfl, fun b hb hbo => (hg b hbo).trans (e2 b hb), _, hG, ?_⟩
      exact Or.inl ⟨ok, rfl, wu_s, dr.mv t2 e3⟩
  exact hgo
set_option maxRecDepth 100000 in
set_option maxHeartbeats 4000000 in
theorem m_L_exchange (l : Launch) {LX M : List Nat} {F : Nat → PE} {K : Nat → Nat} {v : Int → Int} {kd sv n : Int} {H Q : Int → Int → Int} {kp bf : Int → Int} (hfl : l.flags = flags0) (t : dr LX F K v kd sv H kp Q n bf) {o : Nat} {u : Int → Int} (ho : o ∈ M) (hd : ∀ b, b ∈ LX → b ≠ o) (hu : F o = eL 1 u) : PMh l yL_exchange cL_exchange 3 (some .int) [(0, 8, 11, 15)] (rm 9 1 6) (LX ++ M) [.ref (K 0), .ref o] F (fun v9 L1 F1 => L1 = LX ++ M ∧ (∀ b, b ∈ M → b ≠ o → F1 b = F b) ∧ ∃ u1 : Int → Int, F1 o = eL 1 u1 ∧ ((dOk 7 kd v ∧ v9 = some (.int (iI 0)) ∧ u1 0 = dAn 7 v ∧ dr LX F1 K (dTo 7 0 kd v) (dKn 7) (hN sv) (hS sv H v) kp Q n bf) ∨ (¬ dOk 7 kd v ∧ v9 = some (.int (iI 1)) ∧ dr LX F1 K v kd sv H kp Q n bf))) := by
  refine pmh_of cw_L_exchange (by decide +kernel) (Nat.le_of_ble_eq_true rfl) (fun ZZ hZ => ?_)
  have hgo : ZZ 0 0 0 [some (.ref (K 0)), some (.ref o), none] [] (LX ++ M) F := by
    have fx := dr.fx t
    have r := fx.1.1
    refine zq_aload_n1 hZ dL_exchange_0 ?_
    refine zq_iconst hZ dL_exchange_1 ?_
    refine zq_aload_n0 hZ dL_exchange_2 ?_
    refine zq_cV hZ (As := []) rfl dL_exchange_3 ml_L_30 wy_X7_exchange (pm_fr M (m_X7_exchange l hfl t)) (List.mem_append_left _ (dr.L t 0 (by omega))) (dr.S t).2.1 rfl ⟨Nat.le_of_ble_eq_true rfl, Nat.le_of_ble_eq_true rfl⟩ ⟨Nat.le_of_ble_eq_true rfl, Nat.le_of_ble_eq_true rfl⟩ (Nat.le_of_ble_eq_true rfl) (fun E L9 F9 hx => ?_) (fun v9 L9 F9 hp => ?_)
    · obtain ⟨L2, F2, hx, rfl, e1, e2⟩ := hx
      obtain ⟨rfl, no, rfl, t2⟩ := hx
      refine ⟨11, hOk1 rfl (by decide) cl_L_15 ca_S, fun q => ?_⟩
      refine zq_astore_n2 hZ dL_exchange_11 (by decide) rfl ?_
      refine zq_iconst hZ dL_exchange_12 ?_
      refine zq_iret hZ rfl (Nat.le_of_ble_eq_true rfl) (Nat.le_of_ble_eq_true rfl) dL_exchange_13 ?_
      refine ⟨rfl, fun b hb _ => e2 b hb, u, (e2 o ho).trans hu, ?_⟩
      exact Or.inr ⟨no, rfl, dr.mv t2 e1⟩
    · obtain ⟨L2, F2, hp, rfl, e1, e2⟩ := hp
      obtain ⟨ok, rfl, rfl, t2⟩ := hp
      have rr := dAn_rg (d := 7) fx.1 (by decide) ok
      refine zq_i2l hZ dL_exchange_6 (by omega) ?_
      refine zq_lastore hZ dL_exchange_7 (List.mem_append_right _ ho) ((e2 o ho).trans hu) ⟨by omega, by omega, by omega⟩ (fun G hG hg => ?_)
      refine zq_goto hZ (tgt := 14) dL_exchange_8 rfl ?_
      refine zq_iconst hZ dL_exchange_14 ?_
      refine zq_iret hZ rfl (Nat.le_of_ble_eq_true rfl) (Nat.le_of_ble_eq_true rfl) dL_exchange_15 ?_
      have e3 : ∀ b, b ∈ LX → G b = F2 b := fun b hb => (hg b (hd b hb)).trans (e1 b hb)
      refine ⟨rfl, fun b hb hbo => (hg b hbo).trans (e2 b hb), _, hG, ?_⟩
      exact Or.inl ⟨ok, rfl, wu_s, dr.mv t2 e3⟩
  exact hgo
set_option maxRecDepth 100000 in
set_option maxHeartbeats 4000000 in
theorem m_L_killWord (l : Launch) {LX M : List Nat} {F : Nat → PE} {K : Nat → Nat} {v : Int → Int} {kd sv n : Int} {H Q : Int → Int → Int} {kp bf : Int → Int} (hfl : l.flags = flags0) (t : dr LX F K v kd sv H kp Q n bf) {o : Nat} {u : Int → Int} (ho : o ∈ M) (hd : ∀ b, b ∈ LX → b ≠ o) (hu : F o = eL 1 u) : PMh l yL_killWord cL_killWord 3 (some .int) [(0, 8, 11, 15)] (rm 9 1 6) (LX ++ M) [.ref (K 0), .ref o] F (fun v9 L1 F1 => L1 = LX ++ M ∧ (∀ b, b ∈ M → b ≠ o → F1 b = F b) ∧ ∃ u1 : Int → Int, F1 o = eL 1 u1 ∧ ((dOk 8 kd v ∧ v9 = some (.int (iI 0)) ∧ u1 0 = dAn 8 v ∧ dr LX F1 K (dTo 8 0 kd v) (dKn 8) (hN sv) (hS sv H v) kp Q n bf) ∨ (¬ dOk 8 kd v ∧ v9 = some (.int (iI 1)) ∧ dr LX F1 K v kd sv H kp Q n bf))) := by
  refine pmh_of cw_L_killWord (by decide +kernel) (Nat.le_of_ble_eq_true rfl) (fun ZZ hZ => ?_)
  have hgo : ZZ 0 0 0 [some (.ref (K 0)), some (.ref o), none] [] (LX ++ M) F := by
    have fx := dr.fx t
    have r := fx.1.1
    refine zq_aload_n1 hZ dL_killWord_0 ?_
    refine zq_iconst hZ dL_killWord_1 ?_
    refine zq_aload_n0 hZ dL_killWord_2 ?_
    refine zq_cV hZ (As := []) rfl dL_killWord_3 ml_L_36 wy_X7_killWord (pm_fr M (m_X7_killWord l hfl t)) (List.mem_append_left _ (dr.L t 0 (by omega))) (dr.S t).2.1 rfl ⟨Nat.le_of_ble_eq_true rfl, Nat.le_of_ble_eq_true rfl⟩ ⟨Nat.le_of_ble_eq_true rfl, Nat.le_of_ble_eq_true rfl⟩ (Nat.le_of_ble_eq_true rfl) (fun E L9 F9 hx => ?_) (fun v9 L9 F9 hp => ?_)
    · obtain ⟨L2, F2, hx, rfl, e1, e2⟩ := hx
      obtain ⟨rfl, no, rfl, t2⟩ := hx
      refine ⟨11, hOk1 rfl (by decide) cl_L_15 ca_S, fun q => ?_⟩
      refine zq_astore_n2 hZ dL_killWord_11 (by decide) rfl ?_
      refine zq_iconst hZ dL_killWord_12 ?_
      refine zq_iret hZ rfl (Nat.le_of_ble_eq_true rfl) (Nat.le_of_ble_eq_true rfl) dL_killWord_13 ?_
      refine ⟨rfl, fun b hb _ => e2 b hb, u, (e2 o ho).trans hu, ?_⟩
      exact Or.inr ⟨no, rfl, dr.mv t2 e1⟩
    · obtain ⟨L2, F2, hp, rfl, e1, e2⟩ := hp
      obtain ⟨ok, rfl, rfl, t2⟩ := hp
      have rr := dAn_rg (d := 8) fx.1 (by decide) ok
      refine zq_i2l hZ dL_killWord_6 (by omega) ?_
      refine zq_lastore hZ dL_killWord_7 (List.mem_append_right _ ho) ((e2 o ho).trans hu) ⟨by omega, by omega, by omega⟩ (fun G hG hg => ?_)
      refine zq_goto hZ (tgt := 14) dL_killWord_8 rfl ?_
      refine zq_iconst hZ dL_killWord_14 ?_
      refine zq_iret hZ rfl (Nat.le_of_ble_eq_true rfl) (Nat.le_of_ble_eq_true rfl) dL_killWord_15 ?_
      have e3 : ∀ b, b ∈ LX → G b = F2 b := fun b hb => (hg b (hd b hb)).trans (e1 b hb)
      refine ⟨rfl, fun b hb hbo => (hg b hbo).trans (e2 b hb), _, hG, ?_⟩
      exact Or.inl ⟨ok, rfl, wu_s, dr.mv t2 e3⟩
  exact hgo
set_option maxRecDepth 100000 in
set_option maxHeartbeats 4000000 in
theorem m_L_killBack (l : Launch) {LX M : List Nat} {F : Nat → PE} {K : Nat → Nat} {v : Int → Int} {kd sv n : Int} {H Q : Int → Int → Int} {kp bf : Int → Int} (hfl : l.flags = flags0) (t : dr LX F K v kd sv H kp Q n bf) {o : Nat} {u : Int → Int} (ho : o ∈ M) (hd : ∀ b, b ∈ LX → b ≠ o) (hu : F o = eL 1 u) : PMh l yL_killBack cL_killBack 3 (some .int) [(0, 8, 11, 15)] (rm 9 1 6) (LX ++ M) [.ref (K 0), .ref o] F (fun v9 L1 F1 => L1 = LX ++ M ∧ (∀ b, b ∈ M → b ≠ o → F1 b = F b) ∧ ∃ u1 : Int → Int, F1 o = eL 1 u1 ∧ ((dOk 9 kd v ∧ v9 = some (.int (iI 0)) ∧ u1 0 = dAn 9 v ∧ dr LX F1 K (dTo 9 0 kd v) (dKn 9) (hN sv) (hS sv H v) kp Q n bf) ∨ (¬ dOk 9 kd v ∧ v9 = some (.int (iI 1)) ∧ dr LX F1 K v kd sv H kp Q n bf))) := by
  refine pmh_of cw_L_killBack (by decide +kernel) (Nat.le_of_ble_eq_true rfl) (fun ZZ hZ => ?_)
  have hgo : ZZ 0 0 0 [some (.ref (K 0)), some (.ref o), none] [] (LX ++ M) F := by
    have fx := dr.fx t
    have r := fx.1.1
    refine zq_aload_n1 hZ dL_killBack_0 ?_
    refine zq_iconst hZ dL_killBack_1 ?_
    refine zq_aload_n0 hZ dL_killBack_2 ?_
    refine zq_cV hZ (As := []) rfl dL_killBack_3 ml_L_39 wy_X7_killBack (pm_fr M (m_X7_killBack l hfl t)) (List.mem_append_left _ (dr.L t 0 (by omega))) (dr.S t).2.1 rfl ⟨Nat.le_of_ble_eq_true rfl, Nat.le_of_ble_eq_true rfl⟩ ⟨Nat.le_of_ble_eq_true rfl, Nat.le_of_ble_eq_true rfl⟩ (Nat.le_of_ble_eq_true rfl) (fun E L9 F9 hx => ?_) (fun v9 L9 F9 hp => ?_)
    · obtain ⟨L2, F2, hx, rfl, e1, e2⟩ := hx
      obtain ⟨rfl, no, rfl, t2⟩ := hx
      refine ⟨11, hOk1 rfl (by decide) cl_L_15 ca_S, fun q => ?_⟩
      refine zq_astore_n2 hZ dL_killBack_11 (by decide) rfl ?_
      refine zq_iconst hZ dL_killBack_12 ?_
      refine zq_iret hZ rfl (Nat.le_of_ble_eq_true rfl) (Nat.le_of_ble_eq_true rfl) dL_killBack_13 ?_
      refine ⟨rfl, fun b hb _ => e2 b hb, u, (e2 o ho).trans hu, ?_⟩
      exact Or.inr ⟨no, rfl, dr.mv t2 e1⟩
    · obtain ⟨L2, F2, hp, rfl, e1, e2⟩ := hp
      obtain ⟨ok, rfl, rfl, t2⟩ := hp
      have rr := dAn_rg (d := 9) fx.1 (by decide) ok
      refine zq_i2l hZ dL_killBack_6 (by omega) ?_
      refine zq_lastore hZ dL_killBack_7 (List.mem_append_right _ ho) ((e2 o ho).trans hu) ⟨by omega, by omega, by omega⟩ (fun G hG hg => ?_)
      refine zq_goto hZ (tgt := 14) dL_killBack_8 rfl ?_
      refine zq_iconst hZ dL_killBack_14 ?_
      refine zq_iret hZ rfl (Nat.le_of_ble_eq_true rfl) (Nat.le_of_ble_eq_true rfl) dL_killBack_15 ?_
      have e3 : ∀ b, b ∈ LX → G b = F2 b := fun b hb => (hg b (hd b hb)).trans (e1 b hb)
      refine ⟨rfl, fun b hb hbo => (hg b hbo).trans (e2 b hb), _, hG, ?_⟩
      exact Or.inl ⟨ok, rfl, wu_s, dr.mv t2 e3⟩
  exact hgo
set_option maxRecDepth 100000 in
set_option maxHeartbeats 4000000 in
theorem m_L_killLine (l : Launch) {LX M : List Nat} {F : Nat → PE} {K : Nat → Nat} {v : Int → Int} {kd sv n : Int} {H Q : Int → Int → Int} {kp bf : Int → Int} (hfl : l.flags = flags0) (t : dr LX F K v kd sv H kp Q n bf) {o : Nat} {u : Int → Int} (ho : o ∈ M) (hd : ∀ b, b ∈ LX → b ≠ o) (hu : F o = eL 1 u) : PMh l yL_killLine cL_killLine 3 (some .int) [(0, 8, 11, 15)] (rm 9 1 6) (LX ++ M) [.ref (K 0), .ref o] F (fun v9 L1 F1 => L1 = LX ++ M ∧ (∀ b, b ∈ M → b ≠ o → F1 b = F b) ∧ ∃ u1 : Int → Int, F1 o = eL 1 u1 ∧ ((dOk 10 kd v ∧ v9 = some (.int (iI 0)) ∧ u1 0 = dAn 10 v ∧ dr LX F1 K (dTo 10 0 kd v) (dKn 10) (hN sv) (hS sv H v) kp Q n bf) ∨ (¬ dOk 10 kd v ∧ v9 = some (.int (iI 1)) ∧ dr LX F1 K v kd sv H kp Q n bf))) := by
  refine pmh_of cw_L_killLine (by decide +kernel) (Nat.le_of_ble_eq_true rfl) (fun ZZ hZ => ?_)
  have hgo : ZZ 0 0 0 [some (.ref (K 0)), some (.ref o), none] [] (LX ++ M) F := by
    have fx := dr.fx t
    have r := fx.1.1
    refine zq_aload_n1 hZ dL_killLine_0 ?_
    refine zq_iconst hZ dL_killLine_1 ?_
    refine zq_aload_n0 hZ dL_killLine_2 ?_
    refine zq_cV hZ (As := []) rfl dL_killLine_3 ml_L_42 wy_X7_killLine (pm_fr M (m_X7_killLine l hfl t)) (List.mem_append_left _ (dr.L t 0 (by omega))) (dr.S t).2.1 rfl ⟨Nat.le_of_ble_eq_true rfl, Nat.le_of_ble_eq_true rfl⟩ ⟨Nat.le_of_ble_eq_true rfl, Nat.le_of_ble_eq_true rfl⟩ (Nat.le_of_ble_eq_true rfl) (fun E L9 F9 hx => ?_) (fun v9 L9 F9 hp => ?_)
    · obtain ⟨L2, F2, hx, rfl, e1, e2⟩ := hx
      obtain ⟨rfl, no, rfl, t2⟩ := hx
      refine ⟨11, hOk1 rfl (by decide) cl_L_15 ca_S, fun q => ?_⟩
      refine zq_astore_n2 hZ dL_killLine_11 (by decide) rfl ?_
      refine zq_iconst hZ dL_killLine_12 ?_
      refine zq_iret hZ rfl (Nat.le_of_ble_eq_true rfl) (Nat.le_of_ble_eq_true rfl) dL_killLine_13 ?_
      refine ⟨rfl, fun b hb _ => e2 b hb, u, (e2 o ho).trans hu, ?_⟩
      exact Or.inr ⟨no, rfl, dr.mv t2 e1⟩
    · obtain ⟨L2, F2, hp, rfl, e1, e2⟩ := hp
      obtain ⟨ok, rfl, rfl, t2⟩ := hp
      have rr := dAn_rg (d := 10) fx.1 (by decide) ok
      refine zq_i2l hZ dL_killLine_6 (by omega) ?_
      refine zq_lastore hZ dL_killLine_7 (List.mem_append_right _ ho) ((e2 o ho).trans hu) ⟨by omega, by omega, by omega⟩ (fun G hG hg => ?_)
      refine zq_goto hZ (tgt := 14) dL_killLine_8 rfl ?_
      refine zq_iconst hZ dL_killLine_14 ?_
      refine zq_iret hZ rfl (Nat.le_of_ble_eq_true rfl) (Nat.le_of_ble_eq_true rfl) dL_killLine_15 ?_
      have e3 : ∀ b, b ∈ LX → G b = F2 b := fun b hb => (hg b (hd b hb)).trans (e1 b hb)
      refine ⟨rfl, fun b hb hbo => (hg b hbo).trans (e2 b hb), _, hG, ?_⟩
      exact Or.inl ⟨ok, rfl, wu_s, dr.mv t2 e3⟩
  exact hgo
set_option maxRecDepth 100000 in
set_option maxHeartbeats 4000000 in
theorem m_L_killBetween (l : Launch) {LX M : List Nat} {F : Nat → PE} {K : Nat → Nat} {v : Int → Int} {kd sv n : Int} {H Q : Int → Int → Int} {kp bf : Int → Int} (hfl : l.flags = flags0) (t : dr LX F K v kd sv H kp Q n bf) {o : Nat} {u : Int → Int} (ho : o ∈ M) (hd : ∀ b, b ∈ LX → b ≠ o) (hu : F o = eL 1 u) : PMh l yL_killBetween cL_killBetween 3 (some .int) [(0, 8, 11, 15)] (rm 9 1 6) (LX ++ M) [.ref (K 0), .ref o] F (fun v9 L1 F1 => L1 = LX ++ M ∧ (∀ b, b ∈ M → b ≠ o → F1 b = F b) ∧ ∃ u1 : Int → Int, F1 o = eL 1 u1 ∧ ((dOk 11 kd v ∧ v9 = some (.int (iI 0)) ∧ u1 0 = dAn 11 v ∧ dr LX F1 K (dTo 11 0 kd v) (dKn 11) (hN sv) (hS sv H v) kp Q n bf) ∨ (¬ dOk 11 kd v ∧ v9 = some (.int (iI 1)) ∧ dr LX F1 K v kd sv H kp Q n bf))) := by
  refine pmh_of cw_L_killBetween (by decide +kernel) (Nat.le_of_ble_eq_true rfl) (fun ZZ hZ => ?_)
  have hgo : ZZ 0 0 0 [some (.ref (K 0)), some (.ref o), none] [] (LX ++ M) F := by
    have fx := dr.fx t
    have r := fx.1.1
    refine zq_aload_n1 hZ dL_killBetween_0 ?_
    refine zq_iconst hZ dL_killBetween_1 ?_
    refine zq_aload_n0 hZ dL_killBetween_2 ?_
    refine zq_cV hZ (As := []) rfl dL_killBetween_3 ml_L_45 wy_X7_killBetween (pm_fr M (m_X7_killBetween l hfl t)) (List.mem_append_left _ (dr.L t 0 (by omega))) (dr.S t).2.1 rfl ⟨Nat.le_of_ble_eq_true rfl, Nat.le_of_ble_eq_true rfl⟩ ⟨Nat.le_of_ble_eq_true rfl, Nat.le_of_ble_eq_true rfl⟩ (Nat.le_of_ble_eq_true rfl) (fun E L9 F9 hx => ?_) (fun v9 L9 F9 hp => ?_)
    · obtain ⟨L2, F2, hx, rfl, e1, e2⟩ := hx
      obtain ⟨rfl, no, rfl, t2⟩ := hx
      refine ⟨11, hOk1 rfl (by decide) cl_L_15 ca_S, fun q => ?_⟩
      refine zq_astore_n2 hZ dL_killBetween_11 (by decide) rfl ?_
      refine zq_iconst hZ dL_killBetween_12 ?_
      refine zq_iret hZ rfl (Nat.le_of_ble_eq_true rfl) (Nat.le_of_ble_eq_true rfl) dL_killBetween_13 ?_
      refine ⟨rfl, fun b hb _ => e2 b hb, u, (e2 o ho).trans hu, ?_⟩
      exact Or.inr ⟨no, rfl, dr.mv t2 e1⟩
    · obtain ⟨L2, F2, hp, rfl, e1, e2⟩ := hp
      obtain ⟨ok, rfl, rfl, t2⟩ := hp
      have rr := dAn_rg (d := 11) fx.1 (by decide) ok
      refine zq_i2l hZ dL_killBetween_6 (by omega) ?_
      refine zq_lastore hZ dL_killBetween_7 (List.mem_append_right _ ho) ((e2 o ho).trans hu) ⟨by omega, by omega, by omega⟩ (fun G hG hg => ?_)
      refine zq_goto hZ (tgt := 14) dL_killBetween_8 rfl ?_
      refine zq_iconst hZ dL_killBetween_14 ?_
      refine zq_iret hZ rfl (Nat.le_of_ble_eq_true rfl) (Nat.le_of_ble_eq_true rfl) dL_killBetween_15 ?_
      have e3 : ∀ b, b ∈ LX → G b = F2 b := fun b hb => (hg b (hd b hb)).trans (e1 b hb)
      refine ⟨rfl, fun b hb hbo => (hg b hbo).trans (e2 b hb), _, hG, ?_⟩
      exact Or.inl ⟨ok, rfl, wu_s, dr.mv t2 e3⟩
  exact hgo
set_option maxRecDepth 100000 in
set_option maxHeartbeats 4000000 in
theorem m_L_copyBetween (l : Launch) {LX M : List Nat} {F : Nat → PE} {K : Nat → Nat} {v : Int → Int} {kd sv n : Int} {H Q : Int → Int → Int} {kp bf : Int → Int} (hfl : l.flags = flags0) (t : dr LX F K v kd sv H kp Q n bf) {o : Nat} {u : Int → Int} (ho : o ∈ M) (hd : ∀ b, b ∈ LX → b ≠ o) (hu : F o = eL 1 u) : PMh l yL_copyBetween cL_copyBetween 3 (some .int) [(0, 8, 11, 15)] (rm 9 1 6) (LX ++ M) [.ref (K 0), .ref o] F (fun v9 L1 F1 => L1 = LX ++ M ∧ (∀ b, b ∈ M → b ≠ o → F1 b = F b) ∧ ∃ u1 : Int → Int, F1 o = eL 1 u1 ∧ ((dOk 12 kd v ∧ v9 = some (.int (iI 0)) ∧ u1 0 = dAn 12 v ∧ dr LX F1 K (dTo 12 0 kd v) (dKn 12) (hN sv) (hS sv H v) kp Q n bf) ∨ (¬ dOk 12 kd v ∧ v9 = some (.int (iI 1)) ∧ dr LX F1 K v kd sv H kp Q n bf))) := by
  refine pmh_of cw_L_copyBetween (by decide +kernel) (Nat.le_of_ble_eq_true rfl) (fun ZZ hZ => ?_)
  have hgo : ZZ 0 0 0 [some (.ref (K 0)), some (.ref o), none] [] (LX ++ M) F := by
    have fx := dr.fx t
    have r := fx.1.1
    refine zq_aload_n1 hZ dL_copyBetween_0 ?_
    refine zq_iconst hZ dL_copyBetween_1 ?_
    refine zq_aload_n0 hZ dL_copyBetween_2 ?_
    refine zq_cV hZ (As := []) rfl dL_copyBetween_3 ml_L_48 wy_X7_copyBetween (pm_fr M (m_X7_copyBetween l hfl t)) (List.mem_append_left _ (dr.L t 0 (by omega))) (dr.S t).2.1 rfl ⟨Nat.le_of_ble_eq_true rfl, Nat.le_of_ble_eq_true rfl⟩ ⟨Nat.le_of_ble_eq_true rfl, Nat.le_of_ble_eq_true rfl⟩ (Nat.le_of_ble_eq_true rfl) (fun E L9 F9 hx => ?_) (fun v9 L9 F9 hp => ?_)
    · obtain ⟨L2, F2, hx, rfl, e1, e2⟩ := hx
      obtain ⟨rfl, no, rfl, t2⟩ := hx
      refine ⟨11, hOk1 rfl (by decide) cl_L_15 ca_S, fun q => ?_⟩
      refine zq_astore_n2 hZ dL_copyBetween_11 (by decide) rfl ?_
      refine zq_iconst hZ dL_copyBetween_12 ?_
      refine zq_iret hZ rfl (Nat.le_of_ble_eq_true rfl) (Nat.le_of_ble_eq_true rfl) dL_copyBetween_13 ?_
      refine ⟨rfl, fun b hb _ => e2 b hb, u, (e2 o ho).trans hu, ?_⟩
      exact Or.inr ⟨no, rfl, dr.mv t2 e1⟩
    · obtain ⟨L2, F2, hp, rfl, e1, e2⟩ := hp
      obtain ⟨ok, rfl, rfl, t2⟩ := hp
      have rr := dAn_rg (d := 12) fx.1 (by decide) ok
      refine zq_i2l hZ dL_copyBetween_6 (by omega) ?_
      refine zq_lastore hZ dL_copyBetween_7 (List.mem_append_right _ ho) ((e2 o ho).trans hu) ⟨by omega, by omega, by omega⟩ (fun G hG hg => ?_)
      refine zq_goto hZ (tgt := 14) dL_copyBetween_8 rfl ?_
      refine zq_iconst hZ dL_copyBetween_14 ?_
      refine zq_iret hZ rfl (Nat.le_of_ble_eq_true rfl) (Nat.le_of_ble_eq_true rfl) dL_copyBetween_15 ?_
      have e3 : ∀ b, b ∈ LX → G b = F2 b := fun b hb => (hg b (hd b hb)).trans (e1 b hb)
      refine ⟨rfl, fun b hb hbo => (hg b hbo).trans (e2 b hb), _, hG, ?_⟩
      exact Or.inl ⟨ok, rfl, wu_s, dr.mv t2 e3⟩
  exact hgo
set_option maxRecDepth 100000 in
set_option maxHeartbeats 4000000 in
theorem m_L_yank (l : Launch) {LX M : List Nat} {F : Nat → PE} {K : Nat → Nat} {v : Int → Int} {kd sv n : Int} {H Q : Int → Int → Int} {kp bf : Int → Int} (hfl : l.flags = flags0) (t : dr LX F K v kd sv H kp Q n bf) {o : Nat} {u : Int → Int} (ho : o ∈ M) (hd : ∀ b, b ∈ LX → b ≠ o) (hu : F o = eL 1 u) : PMh l yL_yank cL_yank 3 (some .int) [(0, 8, 11, 15)] (rm 9 1 6) (LX ++ M) [.ref (K 0), .ref o] F (fun v9 L1 F1 => L1 = LX ++ M ∧ (∀ b, b ∈ M → b ≠ o → F1 b = F b) ∧ ∃ u1 : Int → Int, F1 o = eL 1 u1 ∧ ((dOk 13 kd v ∧ v9 = some (.int (iI 0)) ∧ u1 0 = dAn 13 v ∧ dr LX F1 K (dTo 13 0 kd v) (dKn 13) (hN sv) (hS sv H v) kp Q n bf) ∨ (¬ dOk 13 kd v ∧ v9 = some (.int (iI 1)) ∧ dr LX F1 K v kd sv H kp Q n bf))) := by
  refine pmh_of cw_L_yank (by decide +kernel) (Nat.le_of_ble_eq_true rfl) (fun ZZ hZ => ?_)
  have hgo : ZZ 0 0 0 [some (.ref (K 0)), some (.ref o), none] [] (LX ++ M) F := by
    have fx := dr.fx t
    have r := fx.1.1
    refine zq_aload_n1 hZ dL_yank_0 ?_
    refine zq_iconst hZ dL_yank_1 ?_
    refine zq_aload_n0 hZ dL_yank_2 ?_
    refine zq_cV hZ (As := []) rfl dL_yank_3 ml_L_51 wy_X7_yank (pm_fr M (m_X7_yank l hfl t)) (List.mem_append_left _ (dr.L t 0 (by omega))) (dr.S t).2.1 rfl ⟨Nat.le_of_ble_eq_true rfl, Nat.le_of_ble_eq_true rfl⟩ ⟨Nat.le_of_ble_eq_true rfl, Nat.le_of_ble_eq_true rfl⟩ (Nat.le_of_ble_eq_true rfl) (fun E L9 F9 hx => ?_) (fun v9 L9 F9 hp => ?_)
    · obtain ⟨L2, F2, hx, rfl, e1, e2⟩ := hx
      obtain ⟨rfl, no, rfl, t2⟩ := hx
      refine ⟨11, hOk1 rfl (by decide) cl_L_15 ca_S, fun q => ?_⟩
      refine zq_astore_n2 hZ dL_yank_11 (by decide) rfl ?_
      refine zq_iconst hZ dL_yank_12 ?_
      refine zq_iret hZ rfl (Nat.le_of_ble_eq_true rfl) (Nat.le_of_ble_eq_true rfl) dL_yank_13 ?_
      refine ⟨rfl, fun b hb _ => e2 b hb, u, (e2 o ho).trans hu, ?_⟩
      exact Or.inr ⟨no, rfl, dr.mv t2 e1⟩
    · obtain ⟨L2, F2, hp, rfl, e1, e2⟩ := hp
      obtain ⟨ok, rfl, rfl, t2⟩ := hp
      have rr := dAn_rg (d := 13) fx.1 (by decide) ok
      refine zq_i2l hZ dL_yank_6 (by omega) ?_
      refine zq_lastore hZ dL_yank_7 (List.mem_append_right _ ho) ((e2 o ho).trans hu) ⟨by omega, by omega, by omega⟩ (fun G hG hg => ?_)
      refine zq_goto hZ (tgt := 14) dL_yank_8 rfl ?_
      refine zq_iconst hZ dL_yank_14 ?_
      refine zq_iret hZ rfl (Nat.le_of_ble_eq_true rfl) (Nat.le_of_ble_eq_true rfl) dL_yank_15 ?_
      have e3 : ∀ b, b ∈ LX → G b = F2 b := fun b hb => (hg b (hd b hb)).trans (e1 b hb)
      refine ⟨rfl, fun b hb hbo => (hg b hbo).trans (e2 b hb), _, hG, ?_⟩
      exact Or.inl ⟨ok, rfl, wu_s, dr.mv t2 e3⟩
  exact hgo
set_option maxRecDepth 100000 in
set_option maxHeartbeats 4000000 in
theorem m_L_yankOther (l : Launch) {LX M : List Nat} {F : Nat → PE} {K : Nat → Nat} {v : Int → Int} {kd sv n : Int} {H Q : Int → Int → Int} {kp bf : Int → Int} (hfl : l.flags = flags0) (t : dr LX F K v kd sv H kp Q n bf) {o : Nat} {u : Int → Int} (ho : o ∈ M) (hd : ∀ b, b ∈ LX → b ≠ o) (hu : F o = eL 1 u) : PMh l yL_yankOther cL_yankOther 3 (some .int) [(0, 8, 11, 15)] (rm 9 1 6) (LX ++ M) [.ref (K 0), .ref o] F (fun v9 L1 F1 => L1 = LX ++ M ∧ (∀ b, b ∈ M → b ≠ o → F1 b = F b) ∧ ∃ u1 : Int → Int, F1 o = eL 1 u1 ∧ ((dOk 14 kd v ∧ v9 = some (.int (iI 0)) ∧ u1 0 = dAn 14 v ∧ dr LX F1 K (dTo 14 0 kd v) (dKn 14) (hN sv) (hS sv H v) kp Q n bf) ∨ (¬ dOk 14 kd v ∧ v9 = some (.int (iI 1)) ∧ dr LX F1 K v kd sv H kp Q n bf))) := by
  refine pmh_of cw_L_yankOther (by decide +kernel) (Nat.le_of_ble_eq_true rfl) (fun ZZ hZ => ?_)
  have hgo : ZZ 0 0 0 [some (.ref (K 0)), some (.ref o), none] [] (LX ++ M) F := by
    have fx := dr.fx t
    have r := fx.1.1
    refine zq_aload_n1 hZ dL_yankOther_0 ?_
    refine zq_iconst hZ dL_yankOther_1 ?_
    refine zq_aload_n0 hZ dL_yankOther_2 ?_
    refine zq_cV hZ (As := []) rfl dL_yankOther_3 ml_L_54 wy_X7_yankOther (pm_fr M (m_X7_yankOther l hfl t)) (List.mem_append_left _ (dr.L t 0 (by omega))) (dr.S t).2.1 rfl ⟨Nat.le_of_ble_eq_true rfl, Nat.le_of_ble_eq_true rfl⟩ ⟨Nat.le_of_ble_eq_true rfl, Nat.le_of_ble_eq_true rfl⟩ (Nat.le_of_ble_eq_true rfl) (fun E L9 F9 hx => ?_) (fun v9 L9 F9 hp => ?_)
    · obtain ⟨L2, F2, hx, rfl, e1, e2⟩ := hx
      obtain ⟨rfl, no, rfl, t2⟩ := hx
      refine ⟨11, hOk1 rfl (by decide) cl_L_15 ca_S, fun q => ?_⟩
      refine zq_astore_n2 hZ dL_yankOther_11 (by decide) rfl ?_
      refine zq_iconst hZ dL_yankOther_12 ?_
      refine zq_iret hZ rfl (Nat.le_of_ble_eq_true rfl) (Nat.le_of_ble_eq_true rfl) dL_yankOther_13 ?_
      refine ⟨rfl, fun b hb _ => e2 b hb, u, (e2 o ho).trans hu, ?_⟩
      exact Or.inr ⟨no, rfl, dr.mv t2 e1⟩
    · obtain ⟨L2, F2, hp, rfl, e1, e2⟩ := hp
      obtain ⟨ok, rfl, rfl, t2⟩ := hp
      have rr := dAn_rg (d := 14) fx.1 (by decide) ok
      refine zq_i2l hZ dL_yankOther_6 (by omega) ?_
      refine zq_lastore hZ dL_yankOther_7 (List.mem_append_right _ ho) ((e2 o ho).trans hu) ⟨by omega, by omega, by omega⟩ (fun G hG hg => ?_)
      refine zq_goto hZ (tgt := 14) dL_yankOther_8 rfl ?_
      refine zq_iconst hZ dL_yankOther_14 ?_
      refine zq_iret hZ rfl (Nat.le_of_ble_eq_true rfl) (Nat.le_of_ble_eq_true rfl) dL_yankOther_15 ?_
      have e3 : ∀ b, b ∈ LX → G b = F2 b := fun b hb => (hg b (hd b hb)).trans (e1 b hb)
      refine ⟨rfl, fun b hb hbo => (hg b hbo).trans (e2 b hb), _, hG, ?_⟩
      exact Or.inl ⟨ok, rfl, wu_s, dr.mv t2 e3⟩
  exact hgo
set_option maxRecDepth 100000 in
set_option maxHeartbeats 4000000 in
theorem m_L_write (l : Launch) {LX M : List Nat} {F : Nat → PE} {K : Nat → Nat} {v : Int → Int} {kd sv n : Int} {H Q : Int → Int → Int} {kp bf : Int → Int} (hfl : l.flags = flags0) (t : dr LX F K v kd sv H kp Q n bf) {o : Nat} {u : Int → Int} (ho : o ∈ M) (hd : ∀ b, b ∈ LX → b ≠ o) (hu : F o = eL 1 u) {y : Int} (hy : -2147483648 ≤ y ∧ y ≤ 2147483647) : PMh l yL_write cL_write 4 (some .int) [(0, 9, 12, 13), (0, 9, 15, 15)] (rm 9 1 6) (LX ++ M) [.ref (K 0), .int (iI y), .ref o] F (fun v9 L1 F1 => L1 = LX ++ M ∧ (∀ b, b ∈ M → b ≠ o → F1 b = F b) ∧ ∃ u1 : Int → Int, F1 o = eL 1 u1 ∧ (((y = 10 ∨ 32 ≤ y ∧ y ≤ 126) ∧ v 0 < 200 ∧ v9 = some (.int (iI 0)) ∧ u1 0 = v 0 + 1 ∧ dr LX F1 K (vWr y v) 0 (hN sv) (hS sv H v) kp Q n bf) ∨ (¬ (y = 10 ∨ 32 ≤ y ∧ y ≤ 126) ∧ v9 = some (.int (iI 1)) ∧ dr LX F1 K v kd sv H kp Q n bf) ∨ ((y = 10 ∨ 32 ≤ y ∧ y ≤ 126) ∧ ¬ v 0 < 200 ∧ v9 = some (.int (iI 2)) ∧ dr LX F1 K v kd sv H kp Q n bf))) := by
  refine pmh_of cw_L_write (by decide +kernel) (Nat.le_of_ble_eq_true rfl) (fun ZZ hZ => ?_)
  have hgo : ZZ 0 0 0 [some (.ref (K 0)), some (.int (iI y)), some (.ref o), none] [] (LX ++ M) F := by
    have fx := dr.fx t
    have r := fx.1.1
    refine zq_aload_n2 hZ dL_write_0 ?_
    refine zq_iconst hZ dL_write_1 ?_
    refine zq_aload_n0 hZ dL_write_2 ?_
    refine zq_iload_n1 hZ dL_write_3 ?_
    refine zq_cV hZ (As := [_]) rfl dL_write_4 ml_L_7 wy_X7_write (pm_fr M (m_X7_write l hfl t hy)) (List.mem_append_left _ (dr.L t 0 (by omega))) (dr.S t).2.1 rfl ⟨Nat.le_of_ble_eq_true rfl, Nat.le_of_ble_eq_true rfl⟩ ⟨Nat.le_of_ble_eq_true rfl, Nat.le_of_ble_eq_true rfl⟩ (Nat.le_of_ble_eq_true rfl) (fun E L9 F9 hx => ?_) (fun v9 L9 F9 hp => ?_)
    · obtain ⟨L2, F2, hx, rfl, e1, e2⟩ := hx
      obtain ⟨hx | hx, rfl, t2⟩ := hx
      · obtain ⟨rfl, no⟩ := hx
        refine ⟨12, hOk1 rfl (by decide) cl_L_13 ca_A, fun q => ?_⟩
        refine zq_astore_n3 hZ dL_write_12 (by decide) rfl ?_
        refine zq_iconst hZ dL_write_13 ?_
        refine zq_iret hZ rfl (Nat.le_of_ble_eq_true rfl) (Nat.le_of_ble_eq_true rfl) dL_write_14 ?_
        refine ⟨rfl, fun b hb _ => e2 b hb, u, (e2 o ho).trans hu, ?_⟩
        exact Or.inr (Or.inl ⟨no, rfl, dr.mv t2 e1⟩)
      · obtain ⟨rfl, yes, no⟩ := hx
        refine ⟨15, hOk2 (by decide) cl_L_13 (fun _ z => z) rfl (by decide) cl_L_15 ca_S, fun q => ?_⟩
        refine zq_astore_n3 hZ dL_write_15 (by decide) rfl ?_
        refine zq_iconst hZ dL_write_16 ?_
        refine zq_iret hZ rfl (Nat.le_of_ble_eq_true rfl) (Nat.le_of_ble_eq_true rfl) dL_write_17 ?_
        refine ⟨rfl, fun b hb _ => e2 b hb, u, (e2 o ho).trans hu, ?_⟩
        exact Or.inr (Or.inr ⟨yes, no, rfl, dr.mv t2 e1⟩)
    · obtain ⟨L2, F2, hp, rfl, e1, e2⟩ := hp
      obtain ⟨ok, ok2, rfl, rfl, t2⟩ := hp
      refine zq_i2l hZ dL_write_7 (by omega) ?_
      refine zq_lastore hZ dL_write_8 (List.mem_append_right _ ho) ((e2 o ho).trans hu) ⟨by omega, by omega, by omega⟩ (fun G hG hg => ?_)
      refine zq_goto hZ (tgt := 18) dL_write_9 rfl ?_
      refine zq_iconst hZ dL_write_18 ?_
      refine zq_iret hZ rfl (Nat.le_of_ble_eq_true rfl) (Nat.le_of_ble_eq_true rfl) dL_write_19 ?_
      have e3 : ∀ b, b ∈ LX → G b = F2 b := fun b hb => (hg b (hd b hb)).trans (e1 b hb)
      refine ⟨rfl, fun b hb hbo => (hg b hbo).trans (e2 b hb), _, hG, ?_⟩
      exact Or.inl ⟨ok, ok2, rfl, wu_s, dr.mv t2 e3⟩
  exact hgo
set_option maxRecDepth 100000 in
set_option maxHeartbeats 4000000 in
theorem m_L_goTo (l : Launch) {LX M : List Nat} {F : Nat → PE} {K : Nat → Nat} {v : Int → Int} {kd sv n : Int} {H Q : Int → Int → Int} {kp bf : Int → Int} (hfl : l.flags = flags0) (t : dr LX F K v kd sv H kp Q n bf) {o : Nat} {u : Int → Int} (ho : o ∈ M) (hd : ∀ b, b ∈ LX → b ≠ o) (hu : F o = eL 1 u) {y : Int} (hy : -2147483648 ≤ y ∧ y ≤ 2147483647) : PMh l yL_goTo cL_goTo 4 (some .int) [(0, 9, 12, 13)] (rm 9 1 6) (LX ++ M) [.ref (K 0), .int (iI y), .ref o] F (fun v9 L1 F1 => L1 = LX ++ M ∧ (∀ b, b ∈ M → b ≠ o → F1 b = F b) ∧ ∃ u1 : Int → Int, F1 o = eL 1 u1 ∧ (((0 ≤ y ∧ y ≤ v 0) ∧ True ∧ v9 = some (.int (iI 0)) ∧ u1 0 = v 1 ∧ dr LX F1 K (vGo y v) 0 (hN sv) (hS sv H v) kp Q n bf) ∨ (¬ (0 ≤ y ∧ y ≤ v 0) ∧ v9 = some (.int (iI 1)) ∧ dr LX F1 K v kd sv H kp Q n bf) ∨ ((0 ≤ y ∧ y ≤ v 0) ∧ ¬ True ∧ v9 = some (.int (iI 2)) ∧ dr LX F1 K v kd sv H kp Q n bf))) := by
  refine pmh_of cw_L_goTo (by decide +kernel) (Nat.le_of_ble_eq_true rfl) (fun ZZ hZ => ?_)
  have hgo : ZZ 0 0 0 [some (.ref (K 0)), some (.int (iI y)), some (.ref o), none] [] (LX ++ M) F := by
    have fx := dr.fx t
    have r := fx.1.1
    refine zq_aload_n2 hZ dL_goTo_0 ?_
    refine zq_iconst hZ dL_goTo_1 ?_
    refine zq_aload_n0 hZ dL_goTo_2 ?_
    refine zq_iload_n1 hZ dL_goTo_3 ?_
    refine zq_cV hZ (As := [_]) rfl dL_goTo_4 ml_L_24 wy_X7_goTo (pm_fr M (m_X7_goTo l hfl t hy)) (List.mem_append_left _ (dr.L t 0 (by omega))) (dr.S t).2.1 rfl ⟨Nat.le_of_ble_eq_true rfl, Nat.le_of_ble_eq_true rfl⟩ ⟨Nat.le_of_ble_eq_true rfl, Nat.le_of_ble_eq_true rfl⟩ (Nat.le_of_ble_eq_true rfl) (fun E L9 F9 hx => ?_) (fun v9 L9 F9 hp => ?_)
    · obtain ⟨L2, F2, hx, rfl, e1, e2⟩ := hx
      obtain ⟨hx | hx, rfl, t2⟩ := hx
      rotate_left
      · exact absurd True.intro hx.2.2
      obtain ⟨rfl, no⟩ := hx
      refine ⟨12, hOk1 rfl (by decide) cl_L_13 ca_A, fun q => ?_⟩
      refine zq_astore_n3 hZ dL_goTo_12 (by decide) rfl ?_
      refine zq_iconst hZ dL_goTo_13 ?_
      refine zq_iret hZ rfl (Nat.le_of_ble_eq_true rfl) (Nat.le_of_ble_eq_true rfl) dL_goTo_14 ?_
      refine ⟨rfl, fun b hb _ => e2 b hb, u, (e2 o ho).trans hu, ?_⟩
      exact Or.inr (Or.inl ⟨no, rfl, dr.mv t2 e1⟩)
    · obtain ⟨L2, F2, hp, rfl, e1, e2⟩ := hp
      obtain ⟨ok, ok2, rfl, rfl, t2⟩ := hp
      refine zq_i2l hZ dL_goTo_7 (by omega) ?_
      refine zq_lastore hZ dL_goTo_8 (List.mem_append_right _ ho) ((e2 o ho).trans hu) ⟨by omega, by omega, by omega⟩ (fun G hG hg => ?_)
      refine zq_goto hZ (tgt := 15) dL_goTo_9 rfl ?_
      refine zq_iconst hZ dL_goTo_15 ?_
      refine zq_iret hZ rfl (Nat.le_of_ble_eq_true rfl) (Nat.le_of_ble_eq_true rfl) dL_goTo_16 ?_
      have e3 : ∀ b, b ∈ LX → G b = F2 b := fun b hb => (hg b (hd b hb)).trans (e1 b hb)
      refine ⟨rfl, fun b hb hbo => (hg b hbo).trans (e2 b hb), _, hG, ?_⟩
      exact Or.inl ⟨ok, ok2, rfl, wu_s, dr.mv t2 e3⟩
  exact hgo
set_option maxRecDepth 100000 in
set_option maxHeartbeats 4000000 in
theorem m_L_goLines (l : Launch) {LX M : List Nat} {F : Nat → PE} {K : Nat → Nat} {v : Int → Int} {kd sv n : Int} {H Q : Int → Int → Int} {kp bf : Int → Int} (hfl : l.flags = flags0) (t : dr LX F K v kd sv H kp Q n bf) {o : Nat} {u : Int → Int} (ho : o ∈ M) (hd : ∀ b, b ∈ LX → b ≠ o) (hu : F o = eL 1 u) {y : Int} (hy : -2147483648 ≤ y ∧ y ≤ 2147483647) : PMh l yL_goLines cL_goLines 4 (some .int) [(0, 9, 12, 13), (0, 9, 15, 15)] (rm 9 1 6) (LX ++ M) [.ref (K 0), .int (iI y), .ref o] F (fun v9 L1 F1 => L1 = LX ++ M ∧ (∀ b, b ∈ M → b ≠ o → F1 b = F b) ∧ ∃ u1 : Int → Int, F1 o = eL 1 u1 ∧ (((-50 ≤ y ∧ y ≤ 50 ∧ y ≠ 0) ∧ glA v y ≠ -1 ∧ v9 = some (.int (iI 0)) ∧ u1 0 = glA v y ∧ dr LX F1 K (vGo (glA v y) v) 0 (hN sv) (hS sv H v) kp Q n bf) ∨ (¬ (-50 ≤ y ∧ y ≤ 50 ∧ y ≠ 0) ∧ v9 = some (.int (iI 1)) ∧ dr LX F1 K v kd sv H kp Q n bf) ∨ ((-50 ≤ y ∧ y ≤ 50 ∧ y ≠ 0) ∧ ¬ glA v y ≠ -1 ∧ v9 = some (.int (iI 2)) ∧ dr LX F1 K v kd sv H kp Q n bf))) := by
  refine pmh_of cw_L_goLines (by decide +kernel) (Nat.le_of_ble_eq_true rfl) (fun ZZ hZ => ?_)
  have hgo : ZZ 0 0 0 [some (.ref (K 0)), some (.int (iI y)), some (.ref o), none] [] (LX ++ M) F := by
    have fx := dr.fx t
    have r := fx.1.1
    refine zq_aload_n2 hZ dL_goLines_0 ?_
    refine zq_iconst hZ dL_goLines_1 ?_
    refine zq_aload_n0 hZ dL_goLines_2 ?_
    refine zq_iload_n1 hZ dL_goLines_3 ?_
    refine zq_cV hZ (As := [_]) rfl dL_goLines_4 ml_L_27 wy_X7_goLines (pm_fr M (m_X7_goLines l hfl t hy)) (List.mem_append_left _ (dr.L t 0 (by omega))) (dr.S t).2.1 rfl ⟨Nat.le_of_ble_eq_true rfl, Nat.le_of_ble_eq_true rfl⟩ ⟨Nat.le_of_ble_eq_true rfl, Nat.le_of_ble_eq_true rfl⟩ (Nat.le_of_ble_eq_true rfl) (fun E L9 F9 hx => ?_) (fun v9 L9 F9 hp => ?_)
    · obtain ⟨L2, F2, hx, rfl, e1, e2⟩ := hx
      obtain ⟨hx | hx, rfl, t2⟩ := hx
      · obtain ⟨rfl, no⟩ := hx
        refine ⟨12, hOk1 rfl (by decide) cl_L_13 ca_A, fun q => ?_⟩
        refine zq_astore_n3 hZ dL_goLines_12 (by decide) rfl ?_
        refine zq_iconst hZ dL_goLines_13 ?_
        refine zq_iret hZ rfl (Nat.le_of_ble_eq_true rfl) (Nat.le_of_ble_eq_true rfl) dL_goLines_14 ?_
        refine ⟨rfl, fun b hb _ => e2 b hb, u, (e2 o ho).trans hu, ?_⟩
        exact Or.inr (Or.inl ⟨no, rfl, dr.mv t2 e1⟩)
      · obtain ⟨rfl, yes, no⟩ := hx
        refine ⟨15, hOk2 (by decide) cl_L_13 (fun _ z => z) rfl (by decide) cl_L_15 ca_S, fun q => ?_⟩
        refine zq_astore_n3 hZ dL_goLines_15 (by decide) rfl ?_
        refine zq_iconst hZ dL_goLines_16 ?_
        refine zq_iret hZ rfl (Nat.le_of_ble_eq_true rfl) (Nat.le_of_ble_eq_true rfl) dL_goLines_17 ?_
        refine ⟨rfl, fun b hb _ => e2 b hb, u, (e2 o ho).trans hu, ?_⟩
        exact Or.inr (Or.inr ⟨yes, no, rfl, dr.mv t2 e1⟩)
    · obtain ⟨L2, F2, hp, rfl, e1, e2⟩ := hp
      obtain ⟨ok, ok2, rfl, rfl, t2⟩ := hp
      refine zq_i2l hZ dL_goLines_7 (by have := glA_rg (z := y) fx.1; omega) ?_
      refine zq_lastore hZ dL_goLines_8 (List.mem_append_right _ ho) ((e2 o ho).trans hu) ⟨by omega, by omega, by omega⟩ (fun G hG hg => ?_)
      refine zq_goto hZ (tgt := 18) dL_goLines_9 rfl ?_
      refine zq_iconst hZ dL_goLines_18 ?_
      refine zq_iret hZ rfl (Nat.le_of_ble_eq_true rfl) (Nat.le_of_ble_eq_true rfl) dL_goLines_19 ?_
      have e3 : ∀ b, b ∈ LX → G b = F2 b := fun b hb => (hg b (hd b hb)).trans (e1 b hb)
      refine ⟨rfl, fun b hb hbo => (hg b hbo).trans (e2 b hb), _, hG, ?_⟩
      exact Or.inl ⟨ok, ok2, rfl, wu_s, dr.mv t2 e3⟩
  exact hgo
set_option maxRecDepth 100000 in
set_option maxHeartbeats 4000000 in
theorem m_L_find (l : Launch) {LX M : List Nat} {F : Nat → PE} {K : Nat → Nat} {v : Int → Int} {kd sv n : Int} {H Q : Int → Int → Int} {kp bf : Int → Int} (hfl : l.flags = flags0) (t : dr LX F K v kd sv H kp Q n bf) {o : Nat} {u : Int → Int} (ho : o ∈ M) (hd : ∀ b, b ∈ LX → b ≠ o) (hu : F o = eL 1 u) : PMh l yL_find cL_find 3 (some .int) [(0, 8, 11, 13), (0, 8, 14, 15)] (rm 9 1 6) (LX ++ M) [.ref (K 0), .ref o] F (fun v9 L1 F1 => L1 = LX ++ M ∧ (∀ b, b ∈ M → b ≠ o → F1 b = F b) ∧ ∃ u1 : Int → Int, F1 o = eL 1 u1 ∧ ((0 < n ∧ fdA (v 0) (fT v) n bf (v 1) ≠ -1 ∧ v9 = some (.int (iI 0)) ∧ u1 0 = fdA (v 0) (fT v) n bf (v 1) ∧ dr LX F1 K (vGo (fdA (v 0) (fT v) n bf (v 1)) v) 0 (hN sv) (hS sv H v) kp Q n bf) ∨ (¬ 0 < n ∧ v9 = some (.int (iI 1)) ∧ dr LX F1 K v kd sv H kp Q n bf) ∨ (0 < n ∧ ¬ fdA (v 0) (fT v) n bf (v 1) ≠ -1 ∧ v9 = some (.int (iI 2)) ∧ dr LX F1 K v kd sv H kp Q n bf))) := by
  refine pmh_of cw_L_find (by decide +kernel) (Nat.le_of_ble_eq_true rfl) (fun ZZ hZ => ?_)
  have hgo : ZZ 0 0 0 [some (.ref (K 0)), some (.ref o), none] [] (LX ++ M) F := by
    have fx := dr.fx t
    have r := fx.1.1
    refine zq_aload_n1 hZ dL_find_0 ?_
    refine zq_iconst hZ dL_find_1 ?_
    refine zq_aload_n0 hZ dL_find_2 ?_
    refine zq_cV hZ (As := []) rfl dL_find_3 ml_L_33 wy_X7_find (pm_fr M (m_X7_find l hfl t)) (List.mem_append_left _ (dr.L t 0 (by omega))) (dr.S t).2.1 rfl ⟨Nat.le_of_ble_eq_true rfl, Nat.le_of_ble_eq_true rfl⟩ ⟨Nat.le_of_ble_eq_true rfl, Nat.le_of_ble_eq_true rfl⟩ (Nat.le_of_ble_eq_true rfl) (fun E L9 F9 hx => ?_) (fun v9 L9 F9 hp => ?_)
    · obtain ⟨L2, F2, hx, rfl, e1, e2⟩ := hx
      obtain ⟨hx | hx, rfl, t2⟩ := hx
      · obtain ⟨rfl, no⟩ := hx
        refine ⟨11, hOk1 rfl (by decide) cl_L_13 ca_A, fun q => ?_⟩
        refine zq_astore_n2 hZ dL_find_11 (by decide) rfl ?_
        refine zq_iconst hZ dL_find_12 ?_
        refine zq_iret hZ rfl (Nat.le_of_ble_eq_true rfl) (Nat.le_of_ble_eq_true rfl) dL_find_13 ?_
        refine ⟨rfl, fun b hb _ => e2 b hb, u, (e2 o ho).trans hu, ?_⟩
        exact Or.inr (Or.inl ⟨no, rfl, dr.mv t2 e1⟩)
      · obtain ⟨rfl, yes, no⟩ := hx
        refine ⟨14, hOk2 (by decide) cl_L_13 (fun _ z => z) rfl (by decide) cl_L_15 ca_S, fun q => ?_⟩
        refine zq_astore_n2 hZ dL_find_14 (by decide) rfl ?_
        refine zq_iconst hZ dL_find_15 ?_
        refine zq_iret hZ rfl (Nat.le_of_ble_eq_true rfl) (Nat.le_of_ble_eq_true rfl) dL_find_16 ?_
        refine ⟨rfl, fun b hb _ => e2 b hb, u, (e2 o ho).trans hu, ?_⟩
        exact Or.inr (Or.inr ⟨yes, no, rfl, dr.mv t2 e1⟩)
    · obtain ⟨L2, F2, hp, rfl, e1, e2⟩ := hp
      obtain ⟨ok, ok2, rfl, rfl, t2⟩ := hp
      refine zq_i2l hZ dL_find_6 (by have := fdA_rg (n := v 0) (p := v 1) (n1 := n) (f := fT v) (f1 := bf) (by omega); omega) ?_
      refine zq_lastore hZ dL_find_7 (List.mem_append_right _ ho) ((e2 o ho).trans hu) ⟨by omega, by omega, by omega⟩ (fun G hG hg => ?_)
      refine zq_goto hZ (tgt := 17) dL_find_8 rfl ?_
      refine zq_iconst hZ dL_find_17 ?_
      refine zq_iret hZ rfl (Nat.le_of_ble_eq_true rfl) (Nat.le_of_ble_eq_true rfl) dL_find_18 ?_
      have e3 : ∀ b, b ∈ LX → G b = F2 b := fun b hb => (hg b (hd b hb)).trans (e1 b hb)
      refine ⟨rfl, fun b hb hbo => (hg b hbo).trans (e2 b hb), _, hG, ?_⟩
      exact Or.inl ⟨ok, ok2, rfl, wu_s, dr.mv t2 e3⟩
  exact hgo
set_option maxRecDepth 100000 in
set_option maxHeartbeats 4000000 in
theorem m_L_turn (l : Launch) {LX M : List Nat} {F : Nat → PE} {K : Nat → Nat} {v : Int → Int} {kd sv n : Int} {H Q : Int → Int → Int} {kp bf : Int → Int} (hfl : l.flags = flags0) (t : dr LX F K v kd sv H kp Q n bf) {o : Nat} {u : Int → Int} (ho : o ∈ M) (hd : ∀ b, b ∈ LX → b ≠ o) (hu : F o = eL 1 u) {y : Int} (hy : -2147483648 ≤ y ∧ y ≤ 2147483647) : PMh l yL_turn cL_turn 4 (some .int) [(0, 9, 12, 13), (0, 9, 15, 15)] (rm 9 1 6) (LX ++ M) [.ref (K 0), .int (iI y), .ref o] F (fun v9 L1 F1 => L1 = LX ++ M ∧ (∀ b, b ∈ M → b ≠ o → F1 b = F b) ∧ ∃ u1 : Int → Int, F1 o = eL 1 u1 ∧ (((-20 ≤ y ∧ y ≤ 20) ∧ 0 < v 3 ∧ v9 = some (.int (iI 0)) ∧ u1 0 = trA y v ∧ dr LX F1 K (vTr y v) 0 (hN sv) (hS sv H v) kp Q n bf) ∨ (¬ (-20 ≤ y ∧ y ≤ 20) ∧ v9 = some (.int (iI 1)) ∧ dr LX F1 K v kd sv H kp Q n bf) ∨ ((-20 ≤ y ∧ y ≤ 20) ∧ ¬ 0 < v 3 ∧ v9 = some (.int (iI 2)) ∧ dr LX F1 K v kd sv H kp Q n bf))) := by
  refine pmh_of cw_L_turn (by decide +kernel) (Nat.le_of_ble_eq_true rfl) (fun ZZ hZ => ?_)
  have hgo : ZZ 0 0 0 [some (.ref (K 0)), some (.int (iI y)), some (.ref o), none] [] (LX ++ M) F := by
    have fx := dr.fx t
    have r := fx.1.1
    refine zq_aload_n2 hZ dL_turn_0 ?_
    refine zq_iconst hZ dL_turn_1 ?_
    refine zq_aload_n0 hZ dL_turn_2 ?_
    refine zq_iload_n1 hZ dL_turn_3 ?_
    refine zq_cV hZ (As := [_]) rfl dL_turn_4 ml_L_57 wy_X7_turn (pm_fr M (m_X7_turn l hfl t hy)) (List.mem_append_left _ (dr.L t 0 (by omega))) (dr.S t).2.1 rfl ⟨Nat.le_of_ble_eq_true rfl, Nat.le_of_ble_eq_true rfl⟩ ⟨Nat.le_of_ble_eq_true rfl, Nat.le_of_ble_eq_true rfl⟩ (Nat.le_of_ble_eq_true rfl) (fun E L9 F9 hx => ?_) (fun v9 L9 F9 hp => ?_)
    · obtain ⟨L2, F2, hx, rfl, e1, e2⟩ := hx
      obtain ⟨hx | hx, rfl, t2⟩ := hx
      · obtain ⟨rfl, no⟩ := hx
        refine ⟨12, hOk1 rfl (by decide) cl_L_13 ca_A, fun q => ?_⟩
        refine zq_astore_n3 hZ dL_turn_12 (by decide) rfl ?_
        refine zq_iconst hZ dL_turn_13 ?_
        refine zq_iret hZ rfl (Nat.le_of_ble_eq_true rfl) (Nat.le_of_ble_eq_true rfl) dL_turn_14 ?_
        refine ⟨rfl, fun b hb _ => e2 b hb, u, (e2 o ho).trans hu, ?_⟩
        exact Or.inr (Or.inl ⟨no, rfl, dr.mv t2 e1⟩)
      · obtain ⟨rfl, yes, no⟩ := hx
        refine ⟨15, hOk2 (by decide) cl_L_13 (fun _ z => z) rfl (by decide) cl_L_15 ca_S, fun q => ?_⟩
        refine zq_astore_n3 hZ dL_turn_15 (by decide) rfl ?_
        refine zq_iconst hZ dL_turn_16 ?_
        refine zq_iret hZ rfl (Nat.le_of_ble_eq_true rfl) (Nat.le_of_ble_eq_true rfl) dL_turn_17 ?_
        refine ⟨rfl, fun b hb _ => e2 b hb, u, (e2 o ho).trans hu, ?_⟩
        exact Or.inr (Or.inr ⟨yes, no, rfl, dr.mv t2 e1⟩)
    · obtain ⟨L2, F2, hp, rfl, e1, e2⟩ := hp
      obtain ⟨ok, ok2, rfl, rfl, t2⟩ := hp
      refine zq_i2l hZ dL_turn_7 (by have := trA_rg (z := y) (v := v) ok2; omega) ?_
      refine zq_lastore hZ dL_turn_8 (List.mem_append_right _ ho) ((e2 o ho).trans hu) ⟨by omega, by omega, by omega⟩ (fun G hG hg => ?_)
      refine zq_goto hZ (tgt := 18) dL_turn_9 rfl ?_
      refine zq_iconst hZ dL_turn_18 ?_
      refine zq_iret hZ rfl (Nat.le_of_ble_eq_true rfl) (Nat.le_of_ble_eq_true rfl) dL_turn_19 ?_
      have e3 : ∀ b, b ∈ LX → G b = F2 b := fun b hb => (hg b (hd b hb)).trans (e1 b hb)
      refine ⟨rfl, fun b hb hbo => (hg b hbo).trans (e2 b hb), _, hG, ?_⟩
      exact Or.inl ⟨ok, ok2, rfl, wu_s, dr.mv t2 e3⟩
  exact hgo
set_option maxRecDepth 100000 in
set_option maxHeartbeats 4000000 in
theorem m_L_changeCaves (l : Launch) {LX M : List Nat} {F : Nat → PE} {K : Nat → Nat} {v : Int → Int} {kd sv n : Int} {H Q : Int → Int → Int} {kp bf : Int → Int} (hfl : l.flags = flags0) (t : dr LX F K v kd sv H kp Q n bf) {o : Nat} {u : Int → Int} (ho : o ∈ M) (hd : ∀ b, b ∈ LX → b ≠ o) (hu : F o = eL 1 u) {y : Int} (hy : -2147483648 ≤ y ∧ y ≤ 2147483647) : PMh l yL_changeCaves cL_changeCaves 4 (some .int) [(0, 9, 12, 13)] (rm 9 1 6) (LX ++ M) [.ref (K 0), .int (iI y), .ref o] F (fun v9 L1 F1 => L1 = LX ++ M ∧ (∀ b, b ∈ M → b ≠ o → F1 b = F b) ∧ ∃ u1 : Int → Int, F1 o = eL 1 u1 ∧ (((1 ≤ y ∧ y ≤ 8) ∧ True ∧ v9 = some (.int (iI 0)) ∧ u1 0 = v 5 ∧ dr LX F1 K (vCC y v) 0 (hN sv) (hS sv H v) kp Q n bf) ∨ (¬ (1 ≤ y ∧ y ≤ 8) ∧ v9 = some (.int (iI 1)) ∧ dr LX F1 K v kd sv H kp Q n bf) ∨ ((1 ≤ y ∧ y ≤ 8) ∧ ¬ True ∧ v9 = some (.int (iI 2)) ∧ dr LX F1 K v kd sv H kp Q n bf))) := by
  refine pmh_of cw_L_changeCaves (by decide +kernel) (Nat.le_of_ble_eq_true rfl) (fun ZZ hZ => ?_)
  have hgo : ZZ 0 0 0 [some (.ref (K 0)), some (.int (iI y)), some (.ref o), none] [] (LX ++ M) F := by
    have fx := dr.fx t
    have r := fx.1.1
    refine zq_aload_n2 hZ dL_changeCaves_0 ?_
    refine zq_iconst hZ dL_changeCaves_1 ?_
    refine zq_aload_n0 hZ dL_changeCaves_2 ?_
    refine zq_iload_n1 hZ dL_changeCaves_3 ?_
    refine zq_cV hZ (As := [_]) rfl dL_changeCaves_4 ml_L_60 wy_X7_changeCaves (pm_fr M (m_X7_changeCaves l hfl t hy)) (List.mem_append_left _ (dr.L t 0 (by omega))) (dr.S t).2.1 rfl ⟨Nat.le_of_ble_eq_true rfl, Nat.le_of_ble_eq_true rfl⟩ ⟨Nat.le_of_ble_eq_true rfl, Nat.le_of_ble_eq_true rfl⟩ (Nat.le_of_ble_eq_true rfl) (fun E L9 F9 hx => ?_) (fun v9 L9 F9 hp => ?_)
    · obtain ⟨L2, F2, hx, rfl, e1, e2⟩ := hx
      obtain ⟨hx | hx, rfl, t2⟩ := hx
      rotate_left
      · exact absurd True.intro hx.2.2
      obtain ⟨rfl, no⟩ := hx
      refine ⟨12, hOk1 rfl (by decide) cl_L_13 ca_A, fun q => ?_⟩
      refine zq_astore_n3 hZ dL_changeCaves_12 (by decide) rfl ?_
      refine zq_iconst hZ dL_changeCaves_13 ?_
      refine zq_iret hZ rfl (Nat.le_of_ble_eq_true rfl) (Nat.le_of_ble_eq_true rfl) dL_changeCaves_14 ?_
      refine ⟨rfl, fun b hb _ => e2 b hb, u, (e2 o ho).trans hu, ?_⟩
      exact Or.inr (Or.inl ⟨no, rfl, dr.mv t2 e1⟩)
    · obtain ⟨L2, F2, hp, rfl, e1, e2⟩ := hp
      obtain ⟨ok, ok2, rfl, rfl, t2⟩ := hp
      refine zq_i2l hZ dL_changeCaves_7 (by omega) ?_
      refine zq_lastore hZ dL_changeCaves_8 (List.mem_append_right _ ho) ((e2 o ho).trans hu) ⟨by omega, by omega, by omega⟩ (fun G hG hg => ?_)
      refine zq_goto hZ (tgt := 15) dL_changeCaves_9 rfl ?_
      refine zq_iconst hZ dL_changeCaves_15 ?_
      refine zq_iret hZ rfl (Nat.le_of_ble_eq_true rfl) (Nat.le_of_ble_eq_true rfl) dL_changeCaves_16 ?_
      have e3 : ∀ b, b ∈ LX → G b = F2 b := fun b hb => (hg b (hd b hb)).trans (e1 b hb)
      refine ⟨rfl, fun b hb hbo => (hg b hbo).trans (e2 b hb), _, hG, ?_⟩
      exact Or.inl ⟨ok, ok2, rfl, wu_s, dr.mv t2 e3⟩
  exact hgo
set_option maxRecDepth 100000 in
set_option maxHeartbeats 4000000 in
theorem m_L_append (l : Launch) {LX M : List Nat} {F : Nat → PE} {K : Nat → Nat} {v : Int → Int} {kd sv n : Int} {H Q : Int → Int → Int} {kp bf : Int → Int} (hfl : l.flags = flags0) (t : dr LX F K v kd sv H kp Q n bf) {o : Nat} {u : Int → Int} (ho : o ∈ M) (hd : ∀ b, b ∈ LX → b ≠ o) (hu : F o = eL 1 u) {y : Int} (hy : -2147483648 ≤ y ∧ y ≤ 2147483647) : PMh l yL_append cL_append 4 (some .int) [(0, 9, 12, 13), (0, 9, 15, 15)] (rm 8 1 6) (LX ++ M) [.ref (K 0), .int (iI y), .ref o] F (fun v9 L1 F1 => L1 = LX ++ M ∧ (∀ b, b ∈ M → b ≠ o → F1 b = F b) ∧ ∃ u1 : Int → Int, F1 o = eL 1 u1 ∧ (((33 ≤ y ∧ y ≤ 126) ∧ n < 60 ∧ v9 = some (.int (iI 0)) ∧ u1 0 = n + 1 ∧ dr LX F1 K v kd sv H kp Q (n + 1) (wu bf n y)) ∨ (¬ (33 ≤ y ∧ y ≤ 126) ∧ v9 = some (.int (iI 1)) ∧ dr LX F1 K v kd sv H kp Q n bf) ∨ ((33 ≤ y ∧ y ≤ 126) ∧ ¬ n < 60 ∧ v9 = some (.int (iI 2)) ∧ dr LX F1 K v kd sv H kp Q n bf))) := by
  refine pmh_of cw_L_append (by decide +kernel) (Nat.le_of_ble_eq_true rfl) (fun ZZ hZ => ?_)
  have hgo : ZZ 0 0 0 [some (.ref (K 0)), some (.int (iI y)), some (.ref o), none] [] (LX ++ M) F := by
    have fx := dr.fx t
    have r := fx.1.1
    refine zq_aload_n2 hZ dL_append_0 ?_
    refine zq_iconst hZ dL_append_1 ?_
    refine zq_aload_n0 hZ dL_append_2 ?_
    refine zq_iload_n1 hZ dL_append_3 ?_
    refine zq_cV hZ (As := [_]) rfl dL_append_4 ml_L_63 wy_X7_append (pm_fr M (m_X7_append l hfl t hy)) (List.mem_append_left _ (dr.L t 0 (by omega))) (dr.S t).2.1 rfl ⟨Nat.le_of_ble_eq_true rfl, Nat.le_of_ble_eq_true rfl⟩ ⟨Nat.le_of_ble_eq_true rfl, Nat.le_of_ble_eq_true rfl⟩ (Nat.le_of_ble_eq_true rfl) (fun E L9 F9 hx => ?_) (fun v9 L9 F9 hp => ?_)
    · obtain ⟨L2, F2, hx, rfl, e1, e2⟩ := hx
      obtain ⟨hx | hx, rfl, rfl⟩ := hx
      · obtain ⟨rfl, no⟩ := hx
        refine ⟨12, hOk1 rfl (by decide) cl_L_13 ca_A, fun q => ?_⟩
        refine zq_astore_n3 hZ dL_append_12 (by decide) rfl ?_
        refine zq_iconst hZ dL_append_13 ?_
        refine zq_iret hZ rfl (Nat.le_of_ble_eq_true rfl) (Nat.le_of_ble_eq_true rfl) dL_append_14 ?_
        refine ⟨rfl, fun b hb _ => e2 b hb, u, (e2 o ho).trans hu, ?_⟩
        exact Or.inr (Or.inl ⟨no, rfl, dr.mv t e1⟩)
      · obtain ⟨rfl, yes, no⟩ := hx
        refine ⟨15, hOk2 (by decide) cl_L_13 (fun _ z => z) rfl (by decide) cl_L_15 ca_S, fun q => ?_⟩
        refine zq_astore_n3 hZ dL_append_15 (by decide) rfl ?_
        refine zq_iconst hZ dL_append_16 ?_
        refine zq_iret hZ rfl (Nat.le_of_ble_eq_true rfl) (Nat.le_of_ble_eq_true rfl) dL_append_17 ?_
        refine ⟨rfl, fun b hb _ => e2 b hb, u, (e2 o ho).trans hu, ?_⟩
        exact Or.inr (Or.inr ⟨yes, no, rfl, dr.mv t e1⟩)
    · obtain ⟨L2, F2, hp, rfl, e1, e2⟩ := hp
      obtain ⟨⟨ok, ok2⟩, rfl, rfl, t2⟩ := hp
      refine zq_i2l hZ dL_append_7 (by omega) ?_
      refine zq_lastore hZ dL_append_8 (List.mem_append_right _ ho) ((e2 o ho).trans hu) ⟨by omega, by omega, by omega⟩ (fun G hG hg => ?_)
      refine zq_goto hZ (tgt := 18) dL_append_9 rfl ?_
      refine zq_iconst hZ dL_append_18 ?_
      refine zq_iret hZ rfl (Nat.le_of_ble_eq_true rfl) (Nat.le_of_ble_eq_true rfl) dL_append_19 ?_
      have e3 : ∀ b, b ∈ LX → G b = F2 b := fun b hb => (hg b (hd b hb)).trans (e1 b hb)
      refine ⟨rfl, fun b hb hbo => (hg b hbo).trans (e2 b hb), _, hG, ?_⟩
      exact Or.inl ⟨ok, ok2, rfl, wu_s, dr.mv t2 e3⟩
  exact hgo
set_option maxRecDepth 100000 in
set_option maxHeartbeats 4000000 in
theorem m_L_perform (l : Launch) {LX M : List Nat} {F : Nat → PE} {K : Nat → Nat} {v : Int → Int} {kd sv n : Int} {H Q : Int → Int → Int} {kp bf : Int → Int} (hfl : l.flags = flags0) (t : dr LX F K v kd sv H kp Q n bf) {o : Nat} {u : Int → Int} (ho : o ∈ M) (hd : ∀ b, b ∈ LX → b ≠ o) (hu : F o = eL 1 u) : PMh l yL_perform cL_perform 3 (some .int) [(0, 8, 11, 13), (0, 8, 14, 15)] (rm 10 1 6) (LX ++ M) [.ref (K 0), .ref o] F (fun v9 L1 F1 => L1 = LX ++ M ∧ (∀ b, b ∈ M → b ≠ o → F1 b = F b) ∧ ∃ u1 : Int → Int, F1 o = eL 1 u1 ∧ (((0 < n ∧ sgR bf n.toNat = 0) ∧ ∃ v1 k1 c, rnF bf n n.toNat 0 v kd 0 = some (v1, k1, c) ∧ v9 = some (.int (iI 0)) ∧ u1 0 = c ∧ dr LX F1 K v1 k1 (hN sv) (hS sv H v) kp Q 0 bf) ∨ (¬ (0 < n ∧ sgR bf n.toNat = 0) ∧ v9 = some (.int (iI 1)) ∧ dr LX F1 K v kd sv H kp Q n bf) ∨ ((0 < n ∧ sgR bf n.toNat = 0) ∧ rnF bf n n.toNat 0 v kd 0 = none ∧ v9 = some (.int (iI 2)) ∧ dr LX F1 K v kd sv H kp Q n bf))) := by
  refine pmh_of cw_L_perform (by decide +kernel) (Nat.le_of_ble_eq_true rfl) (fun ZZ hZ => ?_)
  have hgo : ZZ 0 0 0 [some (.ref (K 0)), some (.ref o), none] [] (LX ++ M) F := by
    have fx := dr.fx t
    have r := fx.1.1
    refine zq_aload_n1 hZ dL_perform_0 ?_
    refine zq_iconst hZ dL_perform_1 ?_
    refine zq_aload_n0 hZ dL_perform_2 ?_
    refine zq_cV hZ (As := []) rfl dL_perform_3 ml_L_66 wy_X7_perform (pm_fr M (m_X7_perform l hfl t)) (List.mem_append_left _ (dr.L t 0 (by omega))) (dr.S t).2.1 rfl ⟨Nat.le_of_ble_eq_true rfl, Nat.le_of_ble_eq_true rfl⟩ ⟨Nat.le_of_ble_eq_true rfl, Nat.le_of_ble_eq_true rfl⟩ (Nat.le_of_ble_eq_true rfl) (fun E L9 F9 hx => ?_) (fun v9 L9 F9 hp => ?_)
    · obtain ⟨L2, F2, hx, rfl, e1, e2⟩ := hx
      obtain ⟨hx | hx, rfl, t2⟩ := hx
      · obtain ⟨rfl, no⟩ := hx
        refine ⟨11, hOk1 rfl (by decide) cl_L_13 ca_A, fun q => ?_⟩
        refine zq_astore_n2 hZ dL_perform_11 (by decide) rfl ?_
        refine zq_iconst hZ dL_perform_12 ?_
        refine zq_iret hZ rfl (Nat.le_of_ble_eq_true rfl) (Nat.le_of_ble_eq_true rfl) dL_perform_13 ?_
        refine ⟨rfl, fun b hb _ => e2 b hb, u, (e2 o ho).trans hu, ?_⟩
        exact Or.inr (Or.inl ⟨no, rfl, dr.mv t2 e1⟩)
      · obtain ⟨rfl, yes, no⟩ := hx
        refine ⟨14, hOk2 (by decide) cl_L_13 (fun _ z => z) rfl (by decide) cl_L_15 ca_S, fun q => ?_⟩
        refine zq_astore_n2 hZ dL_perform_14 (by decide) rfl ?_
        refine zq_iconst hZ dL_perform_15 ?_
        refine zq_iret hZ rfl (Nat.le_of_ble_eq_true rfl) (Nat.le_of_ble_eq_true rfl) dL_perform_16 ?_
        refine ⟨rfl, fun b hb _ => e2 b hb, u, (e2 o ho).trans hu, ?_⟩
        exact Or.inr (Or.inr ⟨yes, no, rfl, dr.mv t2 e1⟩)
    · obtain ⟨L2, F2, hp, rfl, e1, e2⟩ := hp
      obtain ⟨ok, v1, k1, c, hr, rfl, rfl, t2⟩ := hp
      have rr := rnF_rg _ _ _ _ _ _ _ _ hr
      refine zq_i2l hZ dL_perform_6 (by omega) ?_
      refine zq_lastore hZ dL_perform_7 (List.mem_append_right _ ho) ((e2 o ho).trans hu) ⟨by omega, by omega, by omega⟩ (fun G hG hg => ?_)
      refine zq_goto hZ (tgt := 17) dL_perform_8 rfl ?_
      refine zq_iconst hZ dL_perform_17 ?_
      refine zq_iret hZ rfl (Nat.le_of_ble_eq_true rfl) (Nat.le_of_ble_eq_true rfl) dL_perform_18 ?_
      have e3 : ∀ b, b ∈ LX → G b = F2 b := fun b hb => (hg b (hd b hb)).trans (e1 b hb)
      refine ⟨rfl, fun b hb hbo => (hg b hbo).trans (e2 b hb), _, hG, ?_⟩
      exact Or.inl ⟨ok, v1, k1, c, hr, rfl, wu_s, dr.mv t2 e3⟩
  exact hgo
set_option maxRecDepth 100000 in
set_option maxHeartbeats 4000000 in
theorem m_L_keep (l : Launch) {LX M : List Nat} {F : Nat → PE} {K : Nat → Nat} {v : Int → Int} {kd sv n : Int} {H Q : Int → Int → Int} {kp bf : Int → Int} (hfl : l.flags = flags0) (t : dr LX F K v kd sv H kp Q n bf) {y : Int} (hy : -2147483648 ≤ y ∧ y ≤ 2147483647) : PMh l yL_keep cL_keep 3 (some .int) [(0, 5, 8, 13)] (rm 8 1 6) (LX ++ M) [.ref (K 0), .int (iI y)] F (fun v9 L1 F1 => L1 = LX ++ M ∧ (∀ b, b ∈ M → F1 b = F b) ∧ (((0 ≤ y ∧ y ≤ 1) ∧ v9 = some (.int (iI 0)) ∧ dr LX F1 K v kd sv H (wu kp y 1) (wu Q y v) n bf) ∨ (¬ (0 ≤ y ∧ y ≤ 1) ∧ v9 = some (.int (iI 1)) ∧ dr LX F1 K v kd sv H kp Q n bf))) := by
  refine pmh_of cw_L_keep (by decide +kernel) (Nat.le_of_ble_eq_true rfl) (fun ZZ hZ => ?_)
  have hgo : ZZ 0 0 0 [some (.ref (K 0)), some (.int (iI y)), none] [] (LX ++ M) F := by
    have fx := dr.fx t
    have r := fx.1.1
    refine zq_aload_n0 hZ dL_keep_0 ?_
    refine zq_iload_n1 hZ dL_keep_1 ?_
    refine zq_cV hZ (As := [_]) rfl dL_keep_2 ml_L_69 wy_X7_keep (pm_fr M (m_X7_keep l hfl t hy)) (List.mem_append_left _ (dr.L t 0 (by omega))) (dr.S t).2.1 rfl ⟨Nat.le_of_ble_eq_true rfl, Nat.le_of_ble_eq_true rfl⟩ ⟨Nat.le_of_ble_eq_true rfl, Nat.le_of_ble_eq_true rfl⟩ (Nat.le_of_ble_eq_true rfl) (fun E L9 F9 hx => ?_) (fun v9 L9 F9 hp => ?_)
    · obtain ⟨L2, F2, hx, rfl, e1, e2⟩ := hx
      obtain ⟨⟨rfl, no⟩, rfl, rfl⟩ := hx
      refine ⟨8, hOk1 rfl (by decide) cl_L_13 ca_A, fun q => ?_⟩
      refine zq_astore_n2 hZ dL_keep_8 (by decide) rfl ?_
      refine zq_iconst hZ dL_keep_9 ?_
      refine zq_iret hZ rfl (Nat.le_of_ble_eq_true rfl) (Nat.le_of_ble_eq_true rfl) dL_keep_10 ?_
      refine ⟨rfl, e2, ?_⟩
      exact Or.inr ⟨no, rfl, dr.mv t e1⟩
    · obtain ⟨L2, F2, hp, rfl, e1, e2⟩ := hp
      obtain ⟨ok, rfl, rfl, t2⟩ := hp
      refine zq_goto hZ (tgt := 11) dL_keep_5 rfl ?_
      refine zq_iconst hZ dL_keep_11 ?_
      refine zq_iret hZ rfl (Nat.le_of_ble_eq_true rfl) (Nat.le_of_ble_eq_true rfl) dL_keep_12 ?_
      have e3 : ∀ b, b ∈ LX → F9 b = F2 b := e1
      refine ⟨rfl, e2, ?_⟩
      exact Or.inl ⟨ok, rfl, dr.mv t2 e3⟩
  exact hgo
set_option maxRecDepth 100000 in
set_option maxHeartbeats 4000000 in
theorem m_L_goBack (l : Launch) {LX M : List Nat} {F : Nat → PE} {K : Nat → Nat} {v : Int → Int} {kd sv n : Int} {H Q : Int → Int → Int} {kp bf : Int → Int} (hfl : l.flags = flags0) (t : dr LX F K v kd sv H kp Q n bf) {y : Int} (hy : -2147483648 ≤ y ∧ y ≤ 2147483647) : PMh l yL_goBack cL_goBack 3 (some .int) [(0, 5, 8, 13), (0, 5, 11, 15)] (rm 8 1 6) (LX ++ M) [.ref (K 0), .int (iI y)] F (fun v9 L1 F1 => L1 = LX ++ M ∧ (∀ b, b ∈ M → F1 b = F b) ∧ (((0 ≤ y ∧ y ≤ 1) ∧ kp y = 1 ∧ v9 = some (.int (iI 0)) ∧ dr LX F1 K (Q y) 0 (hN sv) (hS sv H v) kp Q n bf) ∨ (¬ (0 ≤ y ∧ y ≤ 1) ∧ v9 = some (.int (iI 1)) ∧ dr LX F1 K v kd sv H kp Q n bf) ∨ ((0 ≤ y ∧ y ≤ 1) ∧ ¬ kp y = 1 ∧ v9 = some (.int (iI 2)) ∧ dr LX F1 K v kd sv H kp Q n bf))) := by
  refine pmh_of cw_L_goBack (by decide +kernel) (Nat.le_of_ble_eq_true rfl) (fun ZZ hZ => ?_)
  have hgo : ZZ 0 0 0 [some (.ref (K 0)), some (.int (iI y)), none] [] (LX ++ M) F := by
    have fx := dr.fx t
    have r := fx.1.1
    refine zq_aload_n0 hZ dL_goBack_0 ?_
    refine zq_iload_n1 hZ dL_goBack_1 ?_
    refine zq_cV hZ (As := [_]) rfl dL_goBack_2 ml_L_73 wy_X7_goBack (pm_fr M (m_X7_goBack l hfl t hy)) (List.mem_append_left _ (dr.L t 0 (by omega))) (dr.S t).2.1 rfl ⟨Nat.le_of_ble_eq_true rfl, Nat.le_of_ble_eq_true rfl⟩ ⟨Nat.le_of_ble_eq_true rfl, Nat.le_of_ble_eq_true rfl⟩ (Nat.le_of_ble_eq_true rfl) (fun E L9 F9 hx => ?_) (fun v9 L9 F9 hp => ?_)
    · obtain ⟨L2, F2, hx, rfl, e1, e2⟩ := hx
      obtain ⟨hx | hx, rfl, rfl⟩ := hx
      · obtain ⟨rfl, no⟩ := hx
        refine ⟨8, hOk1 rfl (by decide) cl_L_13 ca_A, fun q => ?_⟩
        refine zq_astore_n2 hZ dL_goBack_8 (by decide) rfl ?_
        refine zq_iconst hZ dL_goBack_9 ?_
        refine zq_iret hZ rfl (Nat.le_of_ble_eq_true rfl) (Nat.le_of_ble_eq_true rfl) dL_goBack_10 ?_
        refine ⟨rfl, e2, ?_⟩
        exact Or.inr (Or.inl ⟨no, rfl, dr.mv t e1⟩)
      · obtain ⟨rfl, yes, no⟩ := hx
        refine ⟨11, hOk2 (by decide) cl_L_13 (fun _ z => z) rfl (by decide) cl_L_15 ca_S, fun q => ?_⟩
        refine zq_astore_n2 hZ dL_goBack_11 (by decide) rfl ?_
        refine zq_iconst hZ dL_goBack_12 ?_
        refine zq_iret hZ rfl (Nat.le_of_ble_eq_true rfl) (Nat.le_of_ble_eq_true rfl) dL_goBack_13 ?_
        refine ⟨rfl, e2, ?_⟩
        exact Or.inr (Or.inr ⟨yes, no, rfl, dr.mv t e1⟩)
    · obtain ⟨L2, F2, hp, rfl, e1, e2⟩ := hp
      obtain ⟨⟨ok, ok2⟩, rfl, rfl, t2⟩ := hp
      refine zq_goto hZ (tgt := 14) dL_goBack_5 rfl ?_
      refine zq_iconst hZ dL_goBack_14 ?_
      refine zq_iret hZ rfl (Nat.le_of_ble_eq_true rfl) (Nat.le_of_ble_eq_true rfl) dL_goBack_15 ?_
      have e3 : ∀ b, b ∈ LX → F9 b = F2 b := e1
      refine ⟨rfl, e2, ?_⟩
      exact Or.inl ⟨ok, ok2, rfl, dr.mv t2 e3⟩
  exact hgo
set_option maxRecDepth 100000 in
set_option maxHeartbeats 4000000 in
theorem m_L_undo (l : Launch) {LX M : List Nat} {F : Nat → PE} {K : Nat → Nat} {v : Int → Int} {kd sv n : Int} {H Q : Int → Int → Int} {kp bf : Int → Int} (hfl : l.flags = flags0) (t : dr LX F K v kd sv H kp Q n bf) : PMh l yL_undo cL_undo 2 (some .int) [(0, 4, 7, 15)] (rm 8 1 6) (LX ++ M) [.ref (K 0)] F (fun v9 L1 F1 => L1 = LX ++ M ∧ (∀ b, b ∈ M → F1 b = F b) ∧ ((0 < sv ∧ v9 = some (.int (iI 0)) ∧ dr LX F1 K (H sv) 0 (sv - 1) H kp Q n bf) ∨ (¬ 0 < sv ∧ v9 = some (.int (iI 1)) ∧ dr LX F1 K v kd sv H kp Q n bf))) := by
  refine pmh_of cw_L_undo (by decide +kernel) (Nat.le_of_ble_eq_true rfl) (fun ZZ hZ => ?_)
  have hgo : ZZ 0 0 0 [some (.ref (K 0)), none] [] (LX ++ M) F := by
    have fx := dr.fx t
    have r := fx.1.1
    refine zq_aload_n0 hZ dL_undo_0 ?_
    refine zq_cV hZ (As := []) rfl dL_undo_1 ml_L_76 wy_X7_undo (pm_fr M (m_X7_undo l hfl t)) (List.mem_append_left _ (dr.L t 0 (by omega))) (dr.S t).2.1 rfl ⟨Nat.le_of_ble_eq_true rfl, Nat.le_of_ble_eq_true rfl⟩ ⟨Nat.le_of_ble_eq_true rfl, Nat.le_of_ble_eq_true rfl⟩ (Nat.le_of_ble_eq_true rfl) (fun E L9 F9 hx => ?_) (fun v9 L9 F9 hp => ?_)
    · obtain ⟨L2, F2, hx, rfl, e1, e2⟩ := hx
      obtain ⟨⟨rfl, no⟩, rfl, rfl⟩ := hx
      refine ⟨7, hOk1 rfl (by decide) cl_L_15 ca_S, fun q => ?_⟩
      refine zq_astore_n1 hZ dL_undo_7 (by decide) rfl ?_
      refine zq_iconst hZ dL_undo_8 ?_
      refine zq_iret hZ rfl (Nat.le_of_ble_eq_true rfl) (Nat.le_of_ble_eq_true rfl) dL_undo_9 ?_
      refine ⟨rfl, e2, ?_⟩
      exact Or.inr ⟨no, rfl, dr.mv t e1⟩
    · obtain ⟨L2, F2, hp, rfl, e1, e2⟩ := hp
      obtain ⟨ok, rfl, rfl, t2⟩ := hp
      refine zq_goto hZ (tgt := 10) dL_undo_4 rfl ?_
      refine zq_iconst hZ dL_undo_10 ?_
      refine zq_iret hZ rfl (Nat.le_of_ble_eq_true rfl) (Nat.le_of_ble_eq_true rfl) dL_undo_11 ?_
      have e3 : ∀ b, b ∈ LX → F9 b = F2 b := e1
      refine ⟨rfl, e2, ?_⟩
      exact Or.inl ⟨ok, rfl, dr.mv t2 e3⟩
  exact hgo
set_option maxRecDepth 100000 in
set_option maxHeartbeats 4000000 in
theorem m_L_codeAt (l : Launch) {LX M : List Nat} {F : Nat → PE} {K : Nat → Nat} {v : Int → Int} {kd sv n : Int} {H Q : Int → Int → Int} {kp bf : Int → Int} (hfl : l.flags = flags0) (t : dr LX F K v kd sv H kp Q n bf) {o : Nat} {u : Int → Int} (ho : o ∈ M) (hd : ∀ b, b ∈ LX → b ≠ o) (hu : F o = eL 1 u) {y : Int} (hy : -2147483648 ≤ y ∧ y ≤ 2147483647) : PMh l yL_codeAt cL_codeAt 4 (some .int) [(0, 9, 12, 82)] (rm 8 1 6) (LX ++ M) [.ref (K 0), .int (iI y), .ref o] F (fun v9 L1 F1 => L1 = LX ++ M ∧ (∀ b, b ∈ M → b ≠ o → F1 b = F b) ∧ ∃ u1 : Int → Int, F1 o = eL 1 u1 ∧ (((0 ≤ y ∧ y < v 0) ∧ v9 = some (.int (iI 0)) ∧ u1 0 = v (18 + y) ∧ dr LX F1 K v kd sv H kp Q n bf) ∨ (¬ ((0 ≤ y ∧ y < v 0)) ∧ v9 = some (.int (iI 1)) ∧ dr LX F1 K v kd sv H kp Q n bf))) := by
  refine pmh_of cw_L_codeAt (by decide +kernel) (Nat.le_of_ble_eq_true rfl) (fun ZZ hZ => ?_)
  have hgo : ZZ 0 0 0 [some (.ref (K 0)), some (.int (iI y)), some (.ref o), none] [] (LX ++ M) F := by
    have fx := dr.fx t
    have r := fx.1.1
    refine zq_aload_n2 hZ dL_codeAt_0 ?_
    refine zq_iconst hZ dL_codeAt_1 ?_
    refine zq_aload_n0 hZ dL_codeAt_2 ?_
    refine zq_iload_n1 hZ dL_codeAt_3 ?_
    refine zq_cV hZ (As := [_]) rfl dL_codeAt_4 ml_L_79 wy_X7_codeAt (pm_fr M (m_X7_codeAt l hfl t hy)) (List.mem_append_left _ (dr.L t 0 (by omega))) (dr.S t).2.1 rfl ⟨Nat.le_of_ble_eq_true rfl, Nat.le_of_ble_eq_true rfl⟩ ⟨Nat.le_of_ble_eq_true rfl, Nat.le_of_ble_eq_true rfl⟩ (Nat.le_of_ble_eq_true rfl) (fun E L9 F9 hx => ?_) (fun v9 L9 F9 hp => ?_)
    · obtain ⟨L2, F2, hx, rfl, e1, e2⟩ := hx
      obtain ⟨rfl, no, rfl, rfl⟩ := hx
      refine ⟨12, hOk1 rfl (by decide) cl_L_82 ca_B, fun q => ?_⟩
      refine zq_astore_n3 hZ dL_codeAt_12 (by decide) rfl ?_
      refine zq_iconst hZ dL_codeAt_13 ?_
      refine zq_iret hZ rfl (Nat.le_of_ble_eq_true rfl) (Nat.le_of_ble_eq_true rfl) dL_codeAt_14 ?_
      refine ⟨rfl, fun b hb _ => e2 b hb, u, (e2 o ho).trans hu, ?_⟩
      exact Or.inr ⟨no, rfl, dr.mv t e1⟩
    · obtain ⟨L2, F2, hp, rfl, e1, e2⟩ := hp
      obtain ⟨ok, rfl, rfl, rfl⟩ := hp
      refine zq_i2l hZ dL_codeAt_7 (by have := fx.1.2.2.1 y ok.1 ok.2; unfold fT at this; omega) ?_
      refine zq_lastore hZ dL_codeAt_8 (List.mem_append_right _ ho) ((e2 o ho).trans hu) ⟨by omega, by omega, by omega⟩ (fun G hG hg => ?_)
      refine zq_goto hZ (tgt := 15) dL_codeAt_9 rfl ?_
      refine zq_iconst hZ dL_codeAt_15 ?_
      refine zq_iret hZ rfl (Nat.le_of_ble_eq_true rfl) (Nat.le_of_ble_eq_true rfl) dL_codeAt_16 ?_
      have e3 : ∀ b, b ∈ LX → G b = F b := fun b hb => (hg b (hd b hb)).trans (e1 b hb)
      refine ⟨rfl, fun b hb hbo => (hg b hbo).trans (e2 b hb), _, hG, ?_⟩
      exact Or.inl ⟨ok, rfl, wu_s, dr.mv t e3⟩
  exact hgo
set_option maxRecDepth 100000 in
set_option maxHeartbeats 4000000 in
theorem m_L_markAt (l : Launch) {LX M : List Nat} {F : Nat → PE} {K : Nat → Nat} {v : Int → Int} {kd sv n : Int} {H Q : Int → Int → Int} {kp bf : Int → Int} (hfl : l.flags = flags0) (t : dr LX F K v kd sv H kp Q n bf) {o : Nat} {u : Int → Int} (ho : o ∈ M) (hd : ∀ b, b ∈ LX → b ≠ o) (hu : F o = eL 1 u) : PMh l yL_markAt cL_markAt 3 (some .int) [(0, 8, 11, 15)] (rm 8 1 6) (LX ++ M) [.ref (K 0), .ref o] F (fun v9 L1 F1 => L1 = LX ++ M ∧ (∀ b, b ∈ M → b ≠ o → F1 b = F b) ∧ ∃ u1 : Int → Int, F1 o = eL 1 u1 ∧ ((v 2 ≠ -1 ∧ v9 = some (.int (iI 0)) ∧ u1 0 = v 2 ∧ dr LX F1 K v kd sv H kp Q n bf) ∨ (¬ (v 2 ≠ -1) ∧ v9 = some (.int (iI 1)) ∧ dr LX F1 K v kd sv H kp Q n bf))) := by
  refine pmh_of cw_L_markAt (by decide +kernel) (Nat.le_of_ble_eq_true rfl) (fun ZZ hZ => ?_)
  have hgo : ZZ 0 0 0 [some (.ref (K 0)), some (.ref o), none] [] (LX ++ M) F := by
    have fx := dr.fx t
    have r := fx.1.1
    refine zq_aload_n1 hZ dL_markAt_0 ?_
    refine zq_iconst hZ dL_markAt_1 ?_
    refine zq_aload_n0 hZ dL_markAt_2 ?_
    refine zq_cV hZ (As := []) rfl dL_markAt_3 ml_L_84 wy_X7_markAt (pm_fr M (m_X7_markAt l hfl t)) (List.mem_append_left _ (dr.L t 0 (by omega))) (dr.S t).2.1 rfl ⟨Nat.le_of_ble_eq_true rfl, Nat.le_of_ble_eq_true rfl⟩ ⟨Nat.le_of_ble_eq_true rfl, Nat.le_of_ble_eq_true rfl⟩ (Nat.le_of_ble_eq_true rfl) (fun E L9 F9 hx => ?_) (fun v9 L9 F9 hp => ?_)
    · obtain ⟨L2, F2, hx, rfl, e1, e2⟩ := hx
      obtain ⟨rfl, no, rfl, rfl⟩ := hx
      refine ⟨11, hOk1 rfl (by decide) cl_L_15 ca_S, fun q => ?_⟩
      refine zq_astore_n2 hZ dL_markAt_11 (by decide) rfl ?_
      refine zq_iconst hZ dL_markAt_12 ?_
      refine zq_iret hZ rfl (Nat.le_of_ble_eq_true rfl) (Nat.le_of_ble_eq_true rfl) dL_markAt_13 ?_
      refine ⟨rfl, fun b hb _ => e2 b hb, u, (e2 o ho).trans hu, ?_⟩
      exact Or.inr ⟨no, rfl, dr.mv t e1⟩
    · obtain ⟨L2, F2, hp, rfl, e1, e2⟩ := hp
      obtain ⟨ok, rfl, rfl, rfl⟩ := hp
      refine zq_i2l hZ dL_markAt_6 (by omega) ?_
      refine zq_lastore hZ dL_markAt_7 (List.mem_append_right _ ho) ((e2 o ho).trans hu) ⟨by omega, by omega, by omega⟩ (fun G hG hg => ?_)
      refine zq_goto hZ (tgt := 14) dL_markAt_8 rfl ?_
      refine zq_iconst hZ dL_markAt_14 ?_
      refine zq_iret hZ rfl (Nat.le_of_ble_eq_true rfl) (Nat.le_of_ble_eq_true rfl) dL_markAt_15 ?_
      have e3 : ∀ b, b ∈ LX → G b = F b := fun b hb => (hg b (hd b hb)).trans (e1 b hb)
      refine ⟨rfl, fun b hb hbo => (hg b hbo).trans (e2 b hb), _, hG, ?_⟩
      exact Or.inl ⟨ok, rfl, wu_s, dr.mv t e3⟩
  exact hgo
set_option maxRecDepth 100000 in
set_option maxHeartbeats 4000000 in
theorem m_L_between (l : Launch) {LX M : List Nat} {F : Nat → PE} {K : Nat → Nat} {v : Int → Int} {kd sv n : Int} {H Q : Int → Int → Int} {kp bf : Int → Int} (hfl : l.flags = flags0) (t : dr LX F K v kd sv H kp Q n bf) {o : Nat} {u : Int → Int} (ho : o ∈ M) (hd : ∀ b, b ∈ LX → b ≠ o) (hu : F o = eL 1 u) : PMh l yL_between cL_between 3 (some .int) [(0, 8, 11, 15)] (rm 8 1 6) (LX ++ M) [.ref (K 0), .ref o] F (fun v9 L1 F1 => L1 = LX ++ M ∧ (∀ b, b ∈ M → b ≠ o → F1 b = F b) ∧ ∃ u1 : Int → Int, F1 o = eL 1 u1 ∧ ((v 2 ≠ -1 ∧ v9 = some (.int (iI 0)) ∧ u1 0 = abI (v 2 - v 1) ∧ dr LX F1 K v kd sv H kp Q n bf) ∨ (¬ (v 2 ≠ -1) ∧ v9 = some (.int (iI 1)) ∧ dr LX F1 K v kd sv H kp Q n bf))) := by
  refine pmh_of cw_L_between (by decide +kernel) (Nat.le_of_ble_eq_true rfl) (fun ZZ hZ => ?_)
  have hgo : ZZ 0 0 0 [some (.ref (K 0)), some (.ref o), none] [] (LX ++ M) F := by
    have fx := dr.fx t
    have r := fx.1.1
    refine zq_aload_n1 hZ dL_between_0 ?_
    refine zq_iconst hZ dL_between_1 ?_
    refine zq_aload_n0 hZ dL_between_2 ?_
    refine zq_cV hZ (As := []) rfl dL_between_3 ml_L_87 wy_X7_between (pm_fr M (m_X7_between l hfl t)) (List.mem_append_left _ (dr.L t 0 (by omega))) (dr.S t).2.1 rfl ⟨Nat.le_of_ble_eq_true rfl, Nat.le_of_ble_eq_true rfl⟩ ⟨Nat.le_of_ble_eq_true rfl, Nat.le_of_ble_eq_true rfl⟩ (Nat.le_of_ble_eq_true rfl) (fun E L9 F9 hx => ?_) (fun v9 L9 F9 hp => ?_)
    · obtain ⟨L2, F2, hx, rfl, e1, e2⟩ := hx
      obtain ⟨rfl, no, rfl, rfl⟩ := hx
      refine ⟨11, hOk1 rfl (by decide) cl_L_15 ca_S, fun q => ?_⟩
      refine zq_astore_n2 hZ dL_between_11 (by decide) rfl ?_
      refine zq_iconst hZ dL_between_12 ?_
      refine zq_iret hZ rfl (Nat.le_of_ble_eq_true rfl) (Nat.le_of_ble_eq_true rfl) dL_between_13 ?_
      refine ⟨rfl, fun b hb _ => e2 b hb, u, (e2 o ho).trans hu, ?_⟩
      exact Or.inr ⟨no, rfl, dr.mv t e1⟩
    · obtain ⟨L2, F2, hp, rfl, e1, e2⟩ := hp
      obtain ⟨ok, rfl, rfl, rfl⟩ := hp
      refine zq_i2l hZ dL_between_6 (by have := abI_rg (a := v 2) (b := v 1) (by omega); omega) ?_
      refine zq_lastore hZ dL_between_7 (List.mem_append_right _ ho) ((e2 o ho).trans hu) ⟨by omega, by omega, by omega⟩ (fun G hG hg => ?_)
      refine zq_goto hZ (tgt := 14) dL_between_8 rfl ?_
      refine zq_iconst hZ dL_between_14 ?_
      refine zq_iret hZ rfl (Nat.le_of_ble_eq_true rfl) (Nat.le_of_ble_eq_true rfl) dL_between_15 ?_
      have e3 : ∀ b, b ∈ LX → G b = F b := fun b hb => (hg b (hd b hb)).trans (e1 b hb)
      refine ⟨rfl, fun b hb hbo => (hg b hbo).trans (e2 b hb), _, hG, ?_⟩
      exact Or.inl ⟨ok, rfl, wu_s, dr.mv t e3⟩
  exact hgo
set_option maxRecDepth 100000 in
set_option maxHeartbeats 4000000 in
theorem m_L_lengthOf (l : Launch) {LX M : List Nat} {F : Nat → PE} {K : Nat → Nat} {v : Int → Int} {kd sv n : Int} {H Q : Int → Int → Int} {kp bf : Int → Int} (hfl : l.flags = flags0) (t : dr LX F K v kd sv H kp Q n bf) {o : Nat} {u : Int → Int} (ho : o ∈ M) (hd : ∀ b, b ∈ LX → b ≠ o) (hu : F o = eL 1 u) {y : Int} (hy : -2147483648 ≤ y ∧ y ≤ 2147483647) : PMh l yL_lengthOf cL_lengthOf 4 (some .int) [(0, 9, 12, 82)] (rm 8 1 6) (LX ++ M) [.ref (K 0), .int (iI y), .ref o] F (fun v9 L1 F1 => L1 = LX ++ M ∧ (∀ b, b ∈ M → b ≠ o → F1 b = F b) ∧ ∃ u1 : Int → Int, F1 o = eL 1 u1 ∧ (((0 ≤ y ∧ y < v 3) ∧ v9 = some (.int (iI 0)) ∧ u1 0 = v (10 + y) ∧ dr LX F1 K v kd sv H kp Q n bf) ∨ (¬ ((0 ≤ y ∧ y < v 3)) ∧ v9 = some (.int (iI 1)) ∧ dr LX F1 K v kd sv H kp Q n bf))) := by
  refine pmh_of cw_L_lengthOf (by decide +kernel) (Nat.le_of_ble_eq_true rfl) (fun ZZ hZ => ?_)
  have hgo : ZZ 0 0 0 [some (.ref (K 0)), some (.int (iI y)), some (.ref o), none] [] (LX ++ M) F := by
    have fx := dr.fx t
    have r := fx.1.1
    refine zq_aload_n2 hZ dL_lengthOf_0 ?_
    refine zq_iconst hZ dL_lengthOf_1 ?_
    refine zq_aload_n0 hZ dL_lengthOf_2 ?_
    refine zq_iload_n1 hZ dL_lengthOf_3 ?_
    refine zq_cV hZ (As := [_]) rfl dL_lengthOf_4 ml_L_90 wy_X7_lengthOf (pm_fr M (m_X7_lengthOf l hfl t hy)) (List.mem_append_left _ (dr.L t 0 (by omega))) (dr.S t).2.1 rfl ⟨Nat.le_of_ble_eq_true rfl, Nat.le_of_ble_eq_true rfl⟩ ⟨Nat.le_of_ble_eq_true rfl, Nat.le_of_ble_eq_true rfl⟩ (Nat.le_of_ble_eq_true rfl) (fun E L9 F9 hx => ?_) (fun v9 L9 F9 hp => ?_)
    · obtain ⟨L2, F2, hx, rfl, e1, e2⟩ := hx
      obtain ⟨rfl, no, rfl, rfl⟩ := hx
      refine ⟨12, hOk1 rfl (by decide) cl_L_82 ca_B, fun q => ?_⟩
      refine zq_astore_n3 hZ dL_lengthOf_12 (by decide) rfl ?_
      refine zq_iconst hZ dL_lengthOf_13 ?_
      refine zq_iret hZ rfl (Nat.le_of_ble_eq_true rfl) (Nat.le_of_ble_eq_true rfl) dL_lengthOf_14 ?_
      refine ⟨rfl, fun b hb _ => e2 b hb, u, (e2 o ho).trans hu, ?_⟩
      exact Or.inr ⟨no, rfl, dr.mv t e1⟩
    · obtain ⟨L2, F2, hp, rfl, e1, e2⟩ := hp
      obtain ⟨ok, rfl, rfl, rfl⟩ := hp
      refine zq_i2l hZ dL_lengthOf_7 (by have := fx.1.2.1.1 y ok.1 ok.2; omega) ?_
      refine zq_lastore hZ dL_lengthOf_8 (List.mem_append_right _ ho) ((e2 o ho).trans hu) ⟨by omega, by omega, by omega⟩ (fun G hG hg => ?_)
      refine zq_goto hZ (tgt := 15) dL_lengthOf_9 rfl ?_
      refine zq_iconst hZ dL_lengthOf_15 ?_
      refine zq_iret hZ rfl (Nat.le_of_ble_eq_true rfl) (Nat.le_of_ble_eq_true rfl) dL_lengthOf_16 ?_
      have e3 : ∀ b, b ∈ LX → G b = F b := fun b hb => (hg b (hd b hb)).trans (e1 b hb)
      refine ⟨rfl, fun b hb hbo => (hg b hbo).trans (e2 b hb), _, hG, ?_⟩
      exact Or.inl ⟨ok, rfl, wu_s, dr.mv t e3⟩
  exact hgo
set_option maxRecDepth 100000 in
set_option maxHeartbeats 4000000 in
theorem m_L_codeIn (l : Launch) {LX M : List Nat} {F : Nat → PE} {K : Nat → Nat} {v : Int → Int} {kd sv n : Int} {H Q : Int → Int → Int} {kp bf : Int → Int} (hfl : l.flags = flags0) (t : dr LX F K v kd sv H kp Q n bf) {o : Nat} {u : Int → Int} (ho : o ∈ M) (hd : ∀ b, b ∈ LX → b ≠ o) (hu : F o = eL 1 u) {y : Int} (hy : -2147483648 ≤ y ∧ y ≤ 2147483647) {z : Int} (hz : -2147483648 ≤ z ∧ z ≤ 2147483647) : PMh l yL_codeIn cL_codeIn 5 (some .int) [(0, 10, 13, 82)] (rm 8 1 6) (LX ++ M) [.ref (K 0), .int (iI y), .int (iI z), .ref o] F (fun v9 L1 F1 => L1 = LX ++ M ∧ (∀ b, b ∈ M → b ≠ o → F1 b = F b) ∧ ∃ u1 : Int → Int, F1 o = eL 1 u1 ∧ (((0 ≤ y ∧ y < v 3 ∧ 0 ≤ z ∧ z < v (10 + y)) ∧ v9 = some (.int (iI 0)) ∧ u1 0 = v (218 + 200 * y + z) ∧ dr LX F1 K v kd sv H kp Q n bf) ∨ (¬ ((0 ≤ y ∧ y < v 3 ∧ 0 ≤ z ∧ z < v (10 + y))) ∧ v9 = some (.int (iI 1)) ∧ dr LX F1 K v kd sv H kp Q n bf))) := by
  refine pmh_of cw_L_codeIn (by decide +kernel) (Nat.le_of_ble_eq_true rfl) (fun ZZ hZ => ?_)
  have hgo : ZZ 0 0 0 [some (.ref (K 0)), some (.int (iI y)), some (.int (iI z)), some (.ref o), none] [] (LX ++ M) F := by
    have fx := dr.fx t
    have r := fx.1.1
    refine zq_aload_n3 hZ dL_codeIn_0 ?_
    refine zq_iconst hZ dL_codeIn_1 ?_
    refine zq_aload_n0 hZ dL_codeIn_2 ?_
    refine zq_iload_n1 hZ dL_codeIn_3 ?_
    refine zq_iload_n2 hZ dL_codeIn_4 ?_
    refine zq_cV hZ (As := [_, _]) rfl dL_codeIn_5 ml_L_93 wy_X7_codeIn (pm_fr M (m_X7_codeIn l hfl t hy hz)) (List.mem_append_left _ (dr.L t 0 (by omega))) (dr.S t).2.1 rfl ⟨Nat.le_of_ble_eq_true rfl, Nat.le_of_ble_eq_true rfl⟩ ⟨Nat.le_of_ble_eq_true rfl, Nat.le_of_ble_eq_true rfl⟩ (Nat.le_of_ble_eq_true rfl) (fun E L9 F9 hx => ?_) (fun v9 L9 F9 hp => ?_)
    · obtain ⟨L2, F2, hx, rfl, e1, e2⟩ := hx
      obtain ⟨rfl, no, rfl, rfl⟩ := hx
      refine ⟨13, hOk1 rfl (by decide) cl_L_82 ca_B, fun q => ?_⟩
      refine zq_astore4 hZ dL_codeIn_13 (by decide) rfl ?_
      refine zq_iconst hZ dL_codeIn_15 ?_
      refine zq_iret hZ rfl (Nat.le_of_ble_eq_true rfl) (Nat.le_of_ble_eq_true rfl) dL_codeIn_16 ?_
      refine ⟨rfl, fun b hb _ => e2 b hb, u, (e2 o ho).trans hu, ?_⟩
      exact Or.inr ⟨no, rfl, dr.mv t e1⟩
    · obtain ⟨L2, F2, hp, rfl, e1, e2⟩ := hp
      obtain ⟨ok, rfl, rfl, rfl⟩ := hp
      refine zq_i2l hZ dL_codeIn_8 (by have := fx.1.2.2.2 y z ok.1 ok.2.1 ok.2.2.1 ok.2.2.2; omega) ?_
      refine zq_lastore hZ dL_codeIn_9 (List.mem_append_right _ ho) ((e2 o ho).trans hu) ⟨by omega, by omega, by omega⟩ (fun G hG hg => ?_)
      refine zq_goto hZ (tgt := 17) dL_codeIn_10 rfl ?_
      refine zq_iconst hZ dL_codeIn_17 ?_
      refine zq_iret hZ rfl (Nat.le_of_ble_eq_true rfl) (Nat.le_of_ble_eq_true rfl) dL_codeIn_18 ?_
      have e3 : ∀ b, b ∈ LX → G b = F b := fun b hb => (hg b (hd b hb)).trans (e1 b hb)
      refine ⟨rfl, fun b hb hbo => (hg b hbo).trans (e2 b hb), _, hG, ?_⟩
      exact Or.inl ⟨ok, rfl, wu_s, dr.mv t e3⟩
  exact hgo
set_option maxRecDepth 100000 in
set_option maxHeartbeats 4000000 in
theorem m_L_nextHoard (l : Launch) {LX M : List Nat} {F : Nat → PE} {K : Nat → Nat} {v : Int → Int} {kd sv n : Int} {H Q : Int → Int → Int} {kp bf : Int → Int} (hfl : l.flags = flags0) (t : dr LX F K v kd sv H kp Q n bf) {o : Nat} {u : Int → Int} (ho : o ∈ M) (hd : ∀ b, b ∈ LX → b ≠ o) (hu : F o = eL 1 u) : PMh l yL_nextHoard cL_nextHoard 3 (some .int) [(0, 8, 11, 15)] (rm 8 1 6) (LX ++ M) [.ref (K 0), .ref o] F (fun v9 L1 F1 => L1 = LX ++ M ∧ (∀ b, b ∈ M → b ≠ o → F1 b = F b) ∧ ∃ u1 : Int → Int, F1 o = eL 1 u1 ∧ ((0 < v 3 ∧ v9 = some (.int (iI 0)) ∧ u1 0 = v 4 ∧ dr LX F1 K v kd sv H kp Q n bf) ∨ (¬ (0 < v 3) ∧ v9 = some (.int (iI 1)) ∧ dr LX F1 K v kd sv H kp Q n bf))) := by
  refine pmh_of cw_L_nextHoard (by decide +kernel) (Nat.le_of_ble_eq_true rfl) (fun ZZ hZ => ?_)
  have hgo : ZZ 0 0 0 [some (.ref (K 0)), some (.ref o), none] [] (LX ++ M) F := by
    have fx := dr.fx t
    have r := fx.1.1
    refine zq_aload_n1 hZ dL_nextHoard_0 ?_
    refine zq_iconst hZ dL_nextHoard_1 ?_
    refine zq_aload_n0 hZ dL_nextHoard_2 ?_
    refine zq_cV hZ (As := []) rfl dL_nextHoard_3 ml_L_97 wy_X7_nextHoard (pm_fr M (m_X7_nextHoard l hfl t)) (List.mem_append_left _ (dr.L t 0 (by omega))) (dr.S t).2.1 rfl ⟨Nat.le_of_ble_eq_true rfl, Nat.le_of_ble_eq_true rfl⟩ ⟨Nat.le_of_ble_eq_true rfl, Nat.le_of_ble_eq_true rfl⟩ (Nat.le_of_ble_eq_true rfl) (fun E L9 F9 hx => ?_) (fun v9 L9 F9 hp => ?_)
    · obtain ⟨L2, F2, hx, rfl, e1, e2⟩ := hx
      obtain ⟨rfl, no, rfl, rfl⟩ := hx
      refine ⟨11, hOk1 rfl (by decide) cl_L_15 ca_S, fun q => ?_⟩
      refine zq_astore_n2 hZ dL_nextHoard_11 (by decide) rfl ?_
      refine zq_iconst hZ dL_nextHoard_12 ?_
      refine zq_iret hZ rfl (Nat.le_of_ble_eq_true rfl) (Nat.le_of_ble_eq_true rfl) dL_nextHoard_13 ?_
      refine ⟨rfl, fun b hb _ => e2 b hb, u, (e2 o ho).trans hu, ?_⟩
      exact Or.inr ⟨no, rfl, dr.mv t e1⟩
    · obtain ⟨L2, F2, hp, rfl, e1, e2⟩ := hp
      obtain ⟨ok, rfl, rfl, rfl⟩ := hp
      refine zq_i2l hZ dL_nextHoard_6 (by have := fx.1.2.1.2.2.1 ok; omega) ?_
      refine zq_lastore hZ dL_nextHoard_7 (List.mem_append_right _ ho) ((e2 o ho).trans hu) ⟨by omega, by omega, by omega⟩ (fun G hG hg => ?_)
      refine zq_goto hZ (tgt := 14) dL_nextHoard_8 rfl ?_
      refine zq_iconst hZ dL_nextHoard_14 ?_
      refine zq_iret hZ rfl (Nat.le_of_ble_eq_true rfl) (Nat.le_of_ble_eq_true rfl) dL_nextHoard_15 ?_
      have e3 : ∀ b, b ∈ LX → G b = F b := fun b hb => (hg b (hd b hb)).trans (e1 b hb)
      refine ⟨rfl, fun b hb hbo => (hg b hbo).trans (e2 b hb), _, hG, ?_⟩
      exact Or.inl ⟨ok, rfl, wu_s, dr.mv t e3⟩
  exact hgo
set_option maxRecDepth 100000 in
set_option maxHeartbeats 4000000 in
theorem m_L_lengthIfYanked (l : Launch) {LX M : List Nat} {F : Nat → PE} {K : Nat → Nat} {v : Int → Int} {kd sv n : Int} {H Q : Int → Int → Int} {kp bf : Int → Int} (hfl : l.flags = flags0) (t : dr LX F K v kd sv H kp Q n bf) {o : Nat} {u : Int → Int} (ho : o ∈ M) (hd : ∀ b, b ∈ LX → b ≠ o) (hu : F o = eL 1 u) {y : Int} (hy : -2147483648 ≤ y ∧ y ≤ 2147483647) : PMh l yL_lengthIfYanked cL_lengthIfYanked 4 (some .int) [(0, 9, 12, 82)] (rm 8 1 6) (LX ++ M) [.ref (K 0), .int (iI y), .ref o] F (fun v9 L1 F1 => L1 = LX ++ M ∧ (∀ b, b ∈ M → b ≠ o → F1 b = F b) ∧ ∃ u1 : Int → Int, F1 o = eL 1 u1 ∧ (((0 ≤ y ∧ y < v 3) ∧ v9 = some (.int (iI 0)) ∧ u1 0 = v 0 + v (10 + y) ∧ dr LX F1 K v kd sv H kp Q n bf) ∨ (¬ ((0 ≤ y ∧ y < v 3)) ∧ v9 = some (.int (iI 1)) ∧ dr LX F1 K v kd sv H kp Q n bf))) := by
  refine pmh_of cw_L_lengthIfYanked (by decide +kernel) (Nat.le_of_ble_eq_true rfl) (fun ZZ hZ => ?_)
  have hgo : ZZ 0 0 0 [some (.ref (K 0)), some (.int (iI y)), some (.ref o), none] [] (LX ++ M) F := by
    have fx := dr.fx t
    have r := fx.1.1
    refine zq_aload_n2 hZ dL_lengthIfYanked_0 ?_
    refine zq_iconst hZ dL_lengthIfYanked_1 ?_
    refine zq_aload_n0 hZ dL_lengthIfYanked_2 ?_
    refine zq_iload_n1 hZ dL_lengthIfYanked_3 ?_
    refine zq_cV hZ (As := [_]) rfl dL_lengthIfYanked_4 ml_L_100 wy_X7_lengthIfYanked (pm_fr M (m_X7_lengthIfYanked l hfl t hy)) (List.mem_append_left _ (dr.L t 0 (by omega))) (dr.S t).2.1 rfl ⟨Nat.le_of_ble_eq_true rfl, Nat.le_of_ble_eq_true rfl⟩ ⟨Nat.le_of_ble_eq_true rfl, Nat.le_of_ble_eq_true rfl⟩ (Nat.le_of_ble_eq_true rfl) (fun E L9 F9 hx => ?_) (fun v9 L9 F9 hp => ?_)
    · obtain ⟨L2, F2, hx, rfl, e1, e2⟩ := hx
      obtain ⟨rfl, no, rfl, rfl⟩ := hx
      refine ⟨12, hOk1 rfl (by decide) cl_L_82 ca_B, fun q => ?_⟩
      refine zq_astore_n3 hZ dL_lengthIfYanked_12 (by decide) rfl ?_
      refine zq_iconst hZ dL_lengthIfYanked_13 ?_
      refine zq_iret hZ rfl (Nat.le_of_ble_eq_true rfl) (Nat.le_of_ble_eq_true rfl) dL_lengthIfYanked_14 ?_
      refine ⟨rfl, fun b hb _ => e2 b hb, u, (e2 o ho).trans hu, ?_⟩
      exact Or.inr ⟨no, rfl, dr.mv t e1⟩
    · obtain ⟨L2, F2, hp, rfl, e1, e2⟩ := hp
      obtain ⟨ok, rfl, rfl, rfl⟩ := hp
      refine zq_i2l hZ dL_lengthIfYanked_7 (by have := fx.1.2.1.1 y ok.1 ok.2; omega) ?_
      refine zq_lastore hZ dL_lengthIfYanked_8 (List.mem_append_right _ ho) ((e2 o ho).trans hu) ⟨by omega, by omega, by omega⟩ (fun G hG hg => ?_)
      refine zq_goto hZ (tgt := 15) dL_lengthIfYanked_9 rfl ?_
      refine zq_iconst hZ dL_lengthIfYanked_15 ?_
      refine zq_iret hZ rfl (Nat.le_of_ble_eq_true rfl) (Nat.le_of_ble_eq_true rfl) dL_lengthIfYanked_16 ?_
      have e3 : ∀ b, b ∈ LX → G b = F b := fun b hb => (hg b (hd b hb)).trans (e1 b hb)
      refine ⟨rfl, fun b hb hbo => (hg b hbo).trans (e2 b hb), _, hG, ?_⟩
      exact Or.inl ⟨ok, rfl, wu_s, dr.mv t e3⟩
  exact hgo
set_option maxRecDepth 100000 in
set_option maxHeartbeats 4000000 in
theorem m_L_heaviest (l : Launch) {LX M : List Nat} {F : Nat → PE} {K : Nat → Nat} {v : Int → Int} {kd sv n : Int} {H Q : Int → Int → Int} {kp bf : Int → Int} (hfl : l.flags = flags0) (t : dr LX F K v kd sv H kp Q n bf) {o : Nat} {u : Int → Int} (ho : o ∈ M) (hd : ∀ b, b ∈ LX → b ≠ o) (hu : F o = eL 1 u) : PMh l yL_heaviest cL_heaviest 3 (some .int) [(0, 8, 11, 15)] (rm 8 1 6) (LX ++ M) [.ref (K 0), .ref o] F (fun v9 L1 F1 => L1 = LX ++ M ∧ (∀ b, b ∈ M → b ≠ o → F1 b = F b) ∧ ∃ u1 : Int → Int, F1 o = eL 1 u1 ∧ ((0 < v 3 ∧ v9 = some (.int (iI 0)) ∧ u1 0 = lgA v ∧ dr LX F1 K v kd sv H kp Q n bf) ∨ (¬ (0 < v 3) ∧ v9 = some (.int (iI 1)) ∧ dr LX F1 K v kd sv H kp Q n bf))) := by
  refine pmh_of cw_L_heaviest (by decide +kernel) (Nat.le_of_ble_eq_true rfl) (fun ZZ hZ => ?_)
  have hgo : ZZ 0 0 0 [some (.ref (K 0)), some (.ref o), none] [] (LX ++ M) F := by
    have fx := dr.fx t
    have r := fx.1.1
    refine zq_aload_n1 hZ dL_heaviest_0 ?_
    refine zq_iconst hZ dL_heaviest_1 ?_
    refine zq_aload_n0 hZ dL_heaviest_2 ?_
    refine zq_cV hZ (As := []) rfl dL_heaviest_3 ml_L_103 wy_X7_heaviest (pm_fr M (m_X7_heaviest l hfl t)) (List.mem_append_left _ (dr.L t 0 (by omega))) (dr.S t).2.1 rfl ⟨Nat.le_of_ble_eq_true rfl, Nat.le_of_ble_eq_true rfl⟩ ⟨Nat.le_of_ble_eq_true rfl, Nat.le_of_ble_eq_true rfl⟩ (Nat.le_of_ble_eq_true rfl) (fun E L9 F9 hx => ?_) (fun v9 L9 F9 hp => ?_)
    · obtain ⟨L2, F2, hx, rfl, e1, e2⟩ := hx
      obtain ⟨rfl, no, rfl, rfl⟩ := hx
      refine ⟨11, hOk1 rfl (by decide) cl_L_15 ca_S, fun q => ?_⟩
      refine zq_astore_n2 hZ dL_heaviest_11 (by decide) rfl ?_
      refine zq_iconst hZ dL_heaviest_12 ?_
      refine zq_iret hZ rfl (Nat.le_of_ble_eq_true rfl) (Nat.le_of_ble_eq_true rfl) dL_heaviest_13 ?_
      refine ⟨rfl, fun b hb _ => e2 b hb, u, (e2 o ho).trans hu, ?_⟩
      exact Or.inr ⟨no, rfl, dr.mv t e1⟩
    · obtain ⟨L2, F2, hp, rfl, e1, e2⟩ := hp
      obtain ⟨ok, rfl, rfl, rfl⟩ := hp
      refine zq_i2l hZ dL_heaviest_6 (by have := lgH_rg (hl := fun i => v (10 + i)) (v 3).toNat; unfold lgA; omega) ?_
      refine zq_lastore hZ dL_heaviest_7 (List.mem_append_right _ ho) ((e2 o ho).trans hu) ⟨by omega, by omega, by omega⟩ (fun G hG hg => ?_)
      refine zq_goto hZ (tgt := 14) dL_heaviest_8 rfl ?_
      refine zq_iconst hZ dL_heaviest_14 ?_
      refine zq_iret hZ rfl (Nat.le_of_ble_eq_true rfl) (Nat.le_of_ble_eq_true rfl) dL_heaviest_15 ?_
      have e3 : ∀ b, b ∈ LX → G b = F b := fun b hb => (hg b (hd b hb)).trans (e1 b hb)
      refine ⟨rfl, fun b hb hbo => (hg b hbo).trans (e2 b hb), _, hG, ?_⟩
      exact Or.inl ⟨ok, rfl, wu_s, dr.mv t e3⟩
  exact hgo
