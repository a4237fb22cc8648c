/-! THE LAW'S OWN SMALL METHODS: a call of the class, its exceptions caught. -/
theorem ca_S : Cond.castable xS xS ∈ xtL := by decide +kernel
theorem ca_A : Cond.castable xA xA ∈ xtL := by decide +kernel
theorem ca_B : Cond.castable xB xB ∈ xtL := by decide +kernel
theorem hOk1 {Φ : State → Prop} {a b h ct pc : Nat} {rest : List (Nat × Nat × Nat × Nat)} {own E : String} (hc : covers ⟨a, b, h, ct⟩ pc = true) (h0 : ct ≠ 0) (cl : Cond.classLink own ct E ∈ wsG) (cs : Cond.castable E E ∈ xtL) : hOk Φ (tableOf ((a, b, h, ct) :: rest)) own pc E h :=
  ⟨[], ⟨a, b, h, ct⟩, tableOf rest, E, rfl, fun z hz => absurd hz List.not_mem_nil, hc, h0, cl, cs, rfl⟩
theorem hOk2 {Φ : State → Prop} {a b h ct a1 b1 h1 ct1 pc : Nat} {rest : List (Nat × Nat × Nat × Nat)} {own E E1 : String} (h01 : ct1 ≠ 0) (cl1 : Cond.classLink own ct1 E1 ∈ wsG) (hn : ∀ s, Φ s → va_Nc E E1 s) (hc : covers ⟨a, b, h, ct⟩ pc = true) (h0 : ct ≠ 0) (cl : Cond.classLink own ct E ∈ wsG) (cs : Cond.castable E E ∈ xtL) : hOk Φ (tableOf ((a1, b1, h1, ct1) :: (a, b, h, ct) :: rest)) own pc E h :=
  ⟨[⟨a1, b1, h1, ct1⟩], ⟨a, b, h, ct⟩, tableOf rest, E, rfl, fun z hz => by
    rcases List.mem_singleton.mp hz with rfl
    exact Or.inr ⟨h01, E1, cl1, hn⟩, hc, h0, cl, cs, rfl⟩
/-- what is told, or -2000001 -/
def mkQ (v : Int → Int) : Int := if v 2 ≠ -1 then v 2 else -2000001
def apQ (v : Int → Int) : Int := if v 2 ≠ -1 then abI (v 2 - v 1) else -2000001
def nxQ (v : Int → Int) : Int := if 0 < v 3 then v 4 else -2000001
def hvQ (v : Int → Int) : Int := if 0 < v 3 then lgA v else -2000001
def ciQ (v : Int → Int) (x y : Int) : Int := if 0 ≤ x ∧ x < v 3 ∧ 0 ≤ y ∧ y < v (10 + x) then v (218 + 200 * x + y) else -2000001
def iyQ (v : Int → Int) (x : Int) : Int := if 0 ≤ x ∧ x < v 3 then v 0 + v (10 + x) else -2000001
/-- a change that is refused, or made; c its kind -/
def aP (L : List Nat) (K : Nat → Nat) (v : Int → Int) (kd sv : Int) (H : Int → Int → Int) (kp : Int → Int) (Q : Int → Int → Int) (c : Int) : Option Value → List Nat → (Nat → PE) → Prop := fun v9 L1 F1 =>
  L = L1 ∧ ∃ (told n1 : Int) (bf1 : Int → Int), v9 = some (.int (iI told)) ∧ (-3000000 ≤ told ∧ told ≤ 100000) ∧
    ((told < 0 ∧ dr L1 F1 K v kd sv H kp Q n1 bf1) ∨ (0 ≤ told ∧ ∃ (v1 : Int → Int) (k1 : Int), dr L1 F1 K v1 k1 (hN sv) (hS sv H v) kp Q n1 bf1 ∧ jv v1 k1 ∧ kR c told v kd v1 k1))
theorem aP.no {L : List Nat} {F : Nat → PE} {K : Nat → Nat} {v : Int → Int} {kd sv n c told : Int} {H Q : Int → Int → Int} {kp bf : Int → Int} (t : dr L F K v kd sv H kp Q n bf) (h : -3000000 ≤ told ∧ told < 0) : aP L K v kd sv H kp Q c (some (.int (iI told))) L F :=
  ⟨rfl, told, n, bf, rfl, by omega, Or.inl ⟨h.2, t⟩⟩
theorem aP.yes {L : List Nat} {F : Nat → PE} {K : Nat → Nat} {v v1 : Int → Int} {kd k1 sv n c told : Int} {H Q : Int → Int → Int} {kp bf : Int → Int} (h : 0 ≤ told ∧ told ≤ 100000) (t : dr L F K v1 k1 (hN sv) (hS sv H v) kp Q n bf) (hj : jv v1 k1) (hk : kR c told v kd v1 k1) : aP L K v kd sv H kp Q c (some (.int (iI told))) L F :=
  ⟨rfl, told, n, bf, rfl, by omega, Or.inr ⟨h.1, v1, k1, t, hj, hk⟩⟩
set_option maxRecDepth 100000 in
set_option maxHeartbeats 4000000 in
theorem m_L_rub (l : Launch) {L : List Nat} {F : Nat → PE} {K : Nat → Nat} {v : Int → Int} {kd sv n : Int} {H Q : Int → Int → Int} {kp bf : Int → Int} (hfl : l.flags = flags0) (t : dr L F K v kd sv H kp Q n bf) {c : Int} (hc : c < 18 ∨ 22 < c) : PMh l yL_rub cL_rub 2 (some .int) [(0, 4, 5, 18)] (rm 9 1 6) L [.ref (K 0)] F (aP L K v kd sv H kp Q c) := by
  refine pmh_of cw_L_rub (by decide +kernel) (Nat.le_of_ble_eq_true rfl) (fun ZZ hZ => ?_)
  have hgo : ZZ 0 0 0 [some (.ref (K 0)), none] [] L F := by
    have fx := dr.fx t
    have r := fx.1.1
    refine zq_aload_n0 hZ dL_rub_0 ?_
    refine zq_cV hZ (As := []) rfl dL_rub_1 ml_L_21 wy_X7_rub (m_X7_rub l hfl t) (dr.L t 0 (by omega)) (dr.S t).2.1 rfl ⟨Nat.le_of_ble_eq_true rfl, Nat.le_of_ble_eq_true rfl⟩ ⟨Nat.le_of_ble_eq_true rfl, Nat.le_of_ble_eq_true rfl⟩ (Nat.le_of_ble_eq_true rfl) (fun E L9 F9 hx => ?_) (fun v9 L9 F9 hp => ?_)
    · obtain ⟨rfl, no, rfl, t2⟩ := hx
      refine ⟨5, hOk1 rfl (by decide) cl_L_18 ca_S, fun q => ?_⟩
      refine zq_astore_n1 hZ dL_rub_5 (by decide) rfl ?_
      refine zq_ldc hZ dL_rub_6 kc_L_17 ?_
      refine zq_iret hZ rfl (Nat.le_of_ble_eq_true rfl) (Nat.le_of_ble_eq_true rfl) dL_rub_8 ?_
      exact aP.no t2 (by omega)
    · obtain ⟨ok, rfl, rfl, t2⟩ := hp
      have rr := dAn_rg (d := 16) fx.1 (by decide) ok
      refine zq_iret hZ rfl (Nat.le_of_ble_eq_true rfl) (Nat.le_of_ble_eq_true rfl) dL_rub_4 ?_
      exact aP.yes (by omega) t2 (jv_to fx.1 ok) (kR_no hc)
  exact hgo
set_option maxRecDepth 100000 in
set_option maxHeartbeats 4000000 in
theorem m_L_swap (l : Launch) {L : List Nat} {F : Nat → PE} {K : Nat → Nat} {v : Int → Int} {kd sv n : Int} {H Q : Int → Int → Int} {kp bf : Int → Int} (hfl : l.flags = flags0) (t : dr L F K v kd sv H kp Q n bf) {c : Int} (hc : c < 18 ∨ 22 < c) : PMh l yL_swap cL_swap 2 (some .int) [(0, 4, 5, 18)] (rm 9 1 6) L [.ref (K 0)] F (aP L K v kd sv H kp Q c) := by
  refine pmh_of cw_L_swap (by decide +kernel) (Nat.le_of_ble_eq_true rfl) (fun ZZ hZ => ?_)
  have hgo : ZZ 0 0 0 [some (.ref (K 0)), none] [] L F := by
    have fx := dr.fx t
    have r := fx.1.1
    refine zq_aload_n0 hZ dL_swap_0 ?_
    refine zq_cV hZ (As := []) rfl dL_swap_1 ml_L_25 wy_X7_swap (m_X7_swap l hfl t) (dr.L t 0 (by omega)) (dr.S t).2.1 rfl ⟨Nat.le_of_ble_eq_true rfl, Nat.le_of_ble_eq_true rfl⟩ ⟨Nat.le_of_ble_eq_true rfl, Nat.le_of_ble_eq_true rfl⟩ (Nat.le_of_ble_eq_true rfl) (fun E L9 F9 hx => ?_) (fun v9 L9 F9 hp => ?_)
    · obtain ⟨rfl, no, rfl, t2⟩ := hx
      refine ⟨5, hOk1 rfl (by decide) cl_L_18 ca_S, fun q => ?_⟩
      refine zq_astore_n1 hZ dL_swap_5 (by decide) rfl ?_
      refine zq_ldc hZ dL_swap_6 kc_L_17 ?_
      refine zq_iret hZ rfl (Nat.le_of_ble_eq_true rfl) (Nat.le_of_ble_eq_true rfl) dL_swap_8 ?_
      exact aP.no t2 (by omega)
    · obtain ⟨ok, rfl, rfl, t2⟩ := hp
      have rr := dAn_rg (d := 17) fx.1 (by decide) ok
      refine zq_iret hZ rfl (Nat.le_of_ble_eq_true rfl) (Nat.le_of_ble_eq_true rfl) dL_swap_4 ?_
      exact aP.yes (by omega) t2 (jv_to fx.1 ok) (kR_no hc)
  exact hgo
set_option maxRecDepth 100000 in
set_option maxHeartbeats 4000000 in
theorem m_L_exchange (l : Launch) {L : List Nat} {F : Nat → PE} {K : Nat → Nat} {v : Int → Int} {kd sv n : Int} {H Q : Int → Int → Int} {kp bf : Int → Int} (hfl : l.flags = flags0) (t : dr L F K v kd sv H kp Q n bf) {c : Int} (hc : c < 18 ∨ 22 < c) : PMh l yL_exchange cL_exchange 2 (some .int) [(0, 4, 5, 18)] (rm 9 1 6) L [.ref (K 0)] F (aP L K v kd sv H kp Q c) := by
  refine pmh_of cw_L_exchange (by decide +kernel) (Nat.le_of_ble_eq_true rfl) (fun ZZ hZ => ?_)
  have hgo : ZZ 0 0 0 [some (.ref (K 0)), none] [] L F := by
    have fx := dr.fx t
    have r := fx.1.1
    refine zq_aload_n0 hZ dL_exchange_0 ?_
    refine zq_cV hZ (As := []) rfl dL_exchange_1 ml_L_34 wy_X7_exchange (m_X7_exchange l hfl t) (dr.L t 0 (by omega)) (dr.S t).2.1 rfl ⟨Nat.le_of_ble_eq_true rfl, Nat.le_of_ble_eq_true rfl⟩ ⟨Nat.le_of_ble_eq_true rfl, Nat.le_of_ble_eq_true rfl⟩ (Nat.le_of_ble_eq_true rfl) (fun E L9 F9 hx => ?_) (fun v9 L9 F9 hp => ?_)
    · obtain ⟨rfl, no, rfl, t2⟩ := hx
      refine ⟨5, hOk1 rfl (by decide) cl_L_18 ca_S, fun q => ?_⟩
      refine zq_astore_n1 hZ dL_exchange_5 (by decide) rfl ?_
      refine zq_ldc hZ dL_exchange_6 kc_L_17 ?_
      refine zq_iret hZ rfl (Nat.le_of_ble_eq_true rfl) (Nat.le_of_ble_eq_true rfl) dL_exchange_8 ?_
      exact aP.no t2 (by omega)
    · obtain ⟨ok, rfl, rfl, t2⟩ := hp
      have rr := dAn_rg (d := 7) fx.1 (by decide) ok
      refine zq_iret hZ rfl (Nat.le_of_ble_eq_true rfl) (Nat.le_of_ble_eq_true rfl) dL_exchange_4 ?_
      exact aP.yes (by omega) t2 (jv_to fx.1 ok) (kR_no hc)
  exact hgo
set_option maxRecDepth 100000 in
set_option maxHeartbeats 4000000 in
theorem m_L_word (l : Launch) {L : List Nat} {F : Nat → PE} {K : Nat → Nat} {v : Int → Int} {kd sv n : Int} {H Q : Int → Int → Int} {kp bf : Int → Int} (hfl : l.flags = flags0) (t : dr L F K v kd sv H kp Q n bf) {c : Int} : PMh l yL_word cL_word 2 (some .int) [(0, 4, 5, 18)] (rm 9 1 6) L [.ref (K 0)] F (aP L K v kd sv H kp Q c) := by
  refine pmh_of cw_L_word (by decide +kernel) (Nat.le_of_ble_eq_true rfl) (fun ZZ hZ => ?_)
  have hgo : ZZ 0 0 0 [some (.ref (K 0)), none] [] L F := by
    have fx := dr.fx t
    have r := fx.1.1
    refine zq_aload_n0 hZ dL_word_0 ?_
    refine zq_cV hZ (As := []) rfl dL_word_1 ml_L_40 wy_X7_killWord (m_X7_killWord l hfl t) (dr.L t 0 (by omega)) (dr.S t).2.1 rfl ⟨Nat.le_of_ble_eq_true rfl, Nat.le_of_ble_eq_true rfl⟩ ⟨Nat.le_of_ble_eq_true rfl, Nat.le_of_ble_eq_true rfl⟩ (Nat.le_of_ble_eq_true rfl) (fun E L9 F9 hx => ?_) (fun v9 L9 F9 hp => ?_)
    · obtain ⟨rfl, no, rfl, t2⟩ := hx
      refine ⟨5, hOk1 rfl (by decide) cl_L_18 ca_S, fun q => ?_⟩
      refine zq_astore_n1 hZ dL_word_5 (by decide) rfl ?_
      refine zq_ldc hZ dL_word_6 kc_L_17 ?_
      refine zq_iret hZ rfl (Nat.le_of_ble_eq_true rfl) (Nat.le_of_ble_eq_true rfl) dL_word_8 ?_
      exact aP.no t2 (by omega)
    · obtain ⟨ok, rfl, rfl, t2⟩ := hp
      have rr := dAn_rg (d := 8) fx.1 (by decide) ok
      refine zq_iret hZ rfl (Nat.le_of_ble_eq_true rfl) (Nat.le_of_ble_eq_true rfl) dL_word_4 ?_
      exact aP.yes (by omega) t2 (jv_to fx.1 ok) (kR_to fx.1 (by omega) ok)
  exact hgo
set_option maxRecDepth 100000 in
set_option maxHeartbeats 4000000 in
theorem m_L_ahead (l : Launch) {L : List Nat} {F : Nat → PE} {K : Nat → Nat} {v : Int → Int} {kd sv n : Int} {H Q : Int → Int → Int} {kp bf : Int → Int} (hfl : l.flags = flags0) (t : dr L F K v kd sv H kp Q n bf) {c : Int} : PMh l yL_ahead cL_ahead 2 (some .int) [(0, 4, 5, 18)] (rm 9 1 6) L [.ref (K 0)] F (aP L K v kd sv H kp Q c) := by
  refine pmh_of cw_L_ahead (by decide +kernel) (Nat.le_of_ble_eq_true rfl) (fun ZZ hZ => ?_)
  have hgo : ZZ 0 0 0 [some (.ref (K 0)), none] [] L F := by
    have fx := dr.fx t
    have r := fx.1.1
    refine zq_aload_n0 hZ dL_ahead_0 ?_
    refine zq_cV hZ (As := []) rfl dL_ahead_1 ml_L_43 wy_X7_killBack (m_X7_killBack l hfl t) (dr.L t 0 (by omega)) (dr.S t).2.1 rfl ⟨Nat.le_of_ble_eq_true rfl, Nat.le_of_ble_eq_true rfl⟩ ⟨Nat.le_of_ble_eq_true rfl, Nat.le_of_ble_eq_true rfl⟩ (Nat.le_of_ble_eq_true rfl) (fun E L9 F9 hx => ?_) (fun v9 L9 F9 hp => ?_)
    · obtain ⟨rfl, no, rfl, t2⟩ := hx
      refine ⟨5, hOk1 rfl (by decide) cl_L_18 ca_S, fun q => ?_⟩
      refine zq_astore_n1 hZ dL_ahead_5 (by decide) rfl ?_
      refine zq_ldc hZ dL_ahead_6 kc_L_17 ?_
      refine zq_iret hZ rfl (Nat.le_of_ble_eq_true rfl) (Nat.le_of_ble_eq_true rfl) dL_ahead_8 ?_
      exact aP.no t2 (by omega)
    · obtain ⟨ok, rfl, rfl, t2⟩ := hp
      have rr := dAn_rg (d := 9) fx.1 (by decide) ok
      refine zq_iret hZ rfl (Nat.le_of_ble_eq_true rfl) (Nat.le_of_ble_eq_true rfl) dL_ahead_4 ?_
      exact aP.yes (by omega) t2 (jv_to fx.1 ok) (kR_to fx.1 (by omega) ok)
  exact hgo
set_option maxRecDepth 100000 in
set_option maxHeartbeats 4000000 in
theorem m_L_line (l : Launch) {L : List Nat} {F : Nat → PE} {K : Nat → Nat} {v : Int → Int} {kd sv n : Int} {H Q : Int → Int → Int} {kp bf : Int → Int} (hfl : l.flags = flags0) (t : dr L F K v kd sv H kp Q n bf) {c : Int} : PMh l yL_line cL_line 2 (some .int) [(0, 4, 5, 18)] (rm 9 1 6) L [.ref (K 0)] F (aP L K v kd sv H kp Q c) := by
  refine pmh_of cw_L_line (by decide +kernel) (Nat.le_of_ble_eq_true rfl) (fun ZZ hZ => ?_)
  have hgo : ZZ 0 0 0 [some (.ref (K 0)), none] [] L F := by
    have fx := dr.fx t
    have r := fx.1.1
    refine zq_aload_n0 hZ dL_line_0 ?_
    refine zq_cV hZ (As := []) rfl dL_line_1 ml_L_46 wy_X7_killLine (m_X7_killLine l hfl t) (dr.L t 0 (by omega)) (dr.S t).2.1 rfl ⟨Nat.le_of_ble_eq_true rfl, Nat.le_of_ble_eq_true rfl⟩ ⟨Nat.le_of_ble_eq_true rfl, Nat.le_of_ble_eq_true rfl⟩ (Nat.le_of_ble_eq_true rfl) (fun E L9 F9 hx => ?_) (fun v9 L9 F9 hp => ?_)
    · obtain ⟨rfl, no, rfl, t2⟩ := hx
      refine ⟨5, hOk1 rfl (by decide) cl_L_18 ca_S, fun q => ?_⟩
      refine zq_astore_n1 hZ dL_line_5 (by decide) rfl ?_
      refine zq_ldc hZ dL_line_6 kc_L_17 ?_
      refine zq_iret hZ rfl (Nat.le_of_ble_eq_true rfl) (Nat.le_of_ble_eq_true rfl) dL_line_8 ?_
      exact aP.no t2 (by omega)
    · obtain ⟨ok, rfl, rfl, t2⟩ := hp
      have rr := dAn_rg (d := 10) fx.1 (by decide) ok
      refine zq_iret hZ rfl (Nat.le_of_ble_eq_true rfl) (Nat.le_of_ble_eq_true rfl) dL_line_4 ?_
      exact aP.yes (by omega) t2 (jv_to fx.1 ok) (kR_to fx.1 (by omega) ok)
  exact hgo
set_option maxRecDepth 100000 in
set_option maxHeartbeats 4000000 in
theorem m_L_between (l : Launch) {L : List Nat} {F : Nat → PE} {K : Nat → Nat} {v : Int → Int} {kd sv n : Int} {H Q : Int → Int → Int} {kp bf : Int → Int} (hfl : l.flags = flags0) (t : dr L F K v kd sv H kp Q n bf) {c : Int} : PMh l yL_between cL_between 2 (some .int) [(0, 4, 5, 18)] (rm 9 1 6) L [.ref (K 0)] F (aP L K v kd sv H kp Q c) := by
  refine pmh_of cw_L_between (by decide +kernel) (Nat.le_of_ble_eq_true rfl) (fun ZZ hZ => ?_)
  have hgo : ZZ 0 0 0 [some (.ref (K 0)), none] [] L F := by
    have fx := dr.fx t
    have r := fx.1.1
    refine zq_aload_n0 hZ dL_between_0 ?_
    refine zq_cV hZ (As := []) rfl dL_between_1 ml_L_49 wy_X7_killBetween (m_X7_killBetween l hfl t) (dr.L t 0 (by omega)) (dr.S t).2.1 rfl ⟨Nat.le_of_ble_eq_true rfl, Nat.le_of_ble_eq_true rfl⟩ ⟨Nat.le_of_ble_eq_true rfl, Nat.le_of_ble_eq_true rfl⟩ (Nat.le_of_ble_eq_true rfl) (fun E L9 F9 hx => ?_) (fun v9 L9 F9 hp => ?_)
    · obtain ⟨rfl, no, rfl, t2⟩ := hx
      refine ⟨5, hOk1 rfl (by decide) cl_L_18 ca_S, fun q => ?_⟩
      refine zq_astore_n1 hZ dL_between_5 (by decide) rfl ?_
      refine zq_ldc hZ dL_between_6 kc_L_17 ?_
      refine zq_iret hZ rfl (Nat.le_of_ble_eq_true rfl) (Nat.le_of_ble_eq_true rfl) dL_between_8 ?_
      exact aP.no t2 (by omega)
    · obtain ⟨ok, rfl, rfl, t2⟩ := hp
      have rr := dAn_rg (d := 11) fx.1 (by decide) ok
      refine zq_iret hZ rfl (Nat.le_of_ble_eq_true rfl) (Nat.le_of_ble_eq_true rfl) dL_between_4 ?_
      exact aP.yes (by omega) t2 (jv_to fx.1 ok) (kR_to fx.1 (by omega) ok)
  exact hgo
set_option maxRecDepth 100000 in
set_option maxHeartbeats 4000000 in
theorem m_L_copy (l : Launch) {L : List Nat} {F : Nat → PE} {K : Nat → Nat} {v : Int → Int} {kd sv n : Int} {H Q : Int → Int → Int} {kp bf : Int → Int} (hfl : l.flags = flags0) (t : dr L F K v kd sv H kp Q n bf) {c : Int} (hc : c < 18 ∨ 22 < c) : PMh l yL_copy cL_copy 2 (some .int) [(0, 4, 5, 18)] (rm 9 1 6) L [.ref (K 0)] F (aP L K v kd sv H kp Q c) := by
  refine pmh_of cw_L_copy (by decide +kernel) (Nat.le_of_ble_eq_true rfl) (fun ZZ hZ => ?_)
  have hgo : ZZ 0 0 0 [some (.ref (K 0)), none] [] L F := by
    have fx := dr.fx t
    have r := fx.1.1
    refine zq_aload_n0 hZ dL_copy_0 ?_
    refine zq_cV hZ (As := []) rfl dL_copy_1 ml_L_52 wy_X7_copyBetween (m_X7_copyBetween l hfl t) (dr.L t 0 (by omega)) (dr.S t).2.1 rfl ⟨Nat.le_of_ble_eq_true rfl, Nat.le_of_ble_eq_true rfl⟩ ⟨Nat.le_of_ble_eq_true rfl, Nat.le_of_ble_eq_true rfl⟩ (Nat.le_of_ble_eq_true rfl) (fun E L9 F9 hx => ?_) (fun v9 L9 F9 hp => ?_)
    · obtain ⟨rfl, no, rfl, t2⟩ := hx
      refine ⟨5, hOk1 rfl (by decide) cl_L_18 ca_S, fun q => ?_⟩
      refine zq_astore_n1 hZ dL_copy_5 (by decide) rfl ?_
      refine zq_ldc hZ dL_copy_6 kc_L_17 ?_
      refine zq_iret hZ rfl (Nat.le_of_ble_eq_true rfl) (Nat.le_of_ble_eq_true rfl) dL_copy_8 ?_
      exact aP.no t2 (by omega)
    · obtain ⟨ok, rfl, rfl, t2⟩ := hp
      have rr := dAn_rg (d := 12) fx.1 (by decide) ok
      refine zq_iret hZ rfl (Nat.le_of_ble_eq_true rfl) (Nat.le_of_ble_eq_true rfl) dL_copy_4 ?_
      exact aP.yes (by omega) t2 (jv_to fx.1 ok) (kR_no hc)
  exact hgo
set_option maxRecDepth 100000 in
set_option maxHeartbeats 4000000 in
theorem m_L_yank (l : Launch) {L : List Nat} {F : Nat → PE} {K : Nat → Nat} {v : Int → Int} {kd sv n : Int} {H Q : Int → Int → Int} {kp bf : Int → Int} (hfl : l.flags = flags0) (t : dr L F K v kd sv H kp Q n bf) {c : Int} (hc : c < 18 ∨ 22 < c) : PMh l yL_yank cL_yank 2 (some .int) [(0, 4, 5, 18)] (rm 9 1 6) L [.ref (K 0)] F (aP L K v kd sv H kp Q c) := by
  refine pmh_of cw_L_yank (by decide +kernel) (Nat.le_of_ble_eq_true rfl) (fun ZZ hZ => ?_)
  have hgo : ZZ 0 0 0 [some (.ref (K 0)), none] [] L F := by
    have fx := dr.fx t
    have r := fx.1.1
    refine zq_aload_n0 hZ dL_yank_0 ?_
    refine zq_cV hZ (As := []) rfl dL_yank_1 ml_L_55 wy_X7_yank (m_X7_yank l hfl t) (dr.L t 0 (by omega)) (dr.S t).2.1 rfl ⟨Nat.le_of_ble_eq_true rfl, Nat.le_of_ble_eq_true rfl⟩ ⟨Nat.le_of_ble_eq_true rfl, Nat.le_of_ble_eq_true rfl⟩ (Nat.le_of_ble_eq_true rfl) (fun E L9 F9 hx => ?_) (fun v9 L9 F9 hp => ?_)
    · obtain ⟨rfl, no, rfl, t2⟩ := hx
      refine ⟨5, hOk1 rfl (by decide) cl_L_18 ca_S, fun q => ?_⟩
      refine zq_astore_n1 hZ dL_yank_5 (by decide) rfl ?_
      refine zq_ldc hZ dL_yank_6 kc_L_17 ?_
      refine zq_iret hZ rfl (Nat.le_of_ble_eq_true rfl) (Nat.le_of_ble_eq_true rfl) dL_yank_8 ?_
      exact aP.no t2 (by omega)
    · obtain ⟨ok, rfl, rfl, t2⟩ := hp
      have rr := dAn_rg (d := 13) fx.1 (by decide) ok
      refine zq_iret hZ rfl (Nat.le_of_ble_eq_true rfl) (Nat.le_of_ble_eq_true rfl) dL_yank_4 ?_
      exact aP.yes (by omega) t2 (jv_to fx.1 ok) (kR_no hc)
  exact hgo
set_option maxRecDepth 100000 in
set_option maxHeartbeats 4000000 in
theorem m_L_other (l : Launch) {L : List Nat} {F : Nat → PE} {K : Nat → Nat} {v : Int → Int} {kd sv n : Int} {H Q : Int → Int → Int} {kp bf : Int → Int} (hfl : l.flags = flags0) (t : dr L F K v kd sv H kp Q n bf) {c : Int} (hc : c < 18 ∨ 22 < c) : PMh l yL_other cL_other 2 (some .int) [(0, 4, 5, 18)] (rm 9 1 6) L [.ref (K 0)] F (aP L K v kd sv H kp Q c) := by
  refine pmh_of cw_L_other (by decide +kernel) (Nat.le_of_ble_eq_true rfl) (fun ZZ hZ => ?_)
  have hgo : ZZ 0 0 0 [some (.ref (K 0)), none] [] L F := by
    have fx := dr.fx t
    have r := fx.1.1
    refine zq_aload_n0 hZ dL_other_0 ?_
    refine zq_cV hZ (As := []) rfl dL_other_1 ml_L_58 wy_X7_yankOther (m_X7_yankOther l hfl t) (dr.L t 0 (by omega)) (dr.S t).2.1 rfl ⟨Nat.le_of_ble_eq_true rfl, Nat.le_of_ble_eq_true rfl⟩ ⟨Nat.le_of_ble_eq_true rfl, Nat.le_of_ble_eq_true rfl⟩ (Nat.le_of_ble_eq_true rfl) (fun E L9 F9 hx => ?_) (fun v9 L9 F9 hp => ?_)
    · obtain ⟨rfl, no, rfl, t2⟩ := hx
      refine ⟨5, hOk1 rfl (by decide) cl_L_18 ca_S, fun q => ?_⟩
      refine zq_astore_n1 hZ dL_other_5 (by decide) rfl ?_
      refine zq_ldc hZ dL_other_6 kc_L_17 ?_
      refine zq_iret hZ rfl (Nat.le_of_ble_eq_true rfl) (Nat.le_of_ble_eq_true rfl) dL_other_8 ?_
      exact aP.no t2 (by omega)
    · obtain ⟨ok, rfl, rfl, t2⟩ := hp
      have rr := dAn_rg (d := 14) fx.1 (by decide) ok
      refine zq_iret hZ rfl (Nat.le_of_ble_eq_true rfl) (Nat.le_of_ble_eq_true rfl) dL_other_4 ?_
      exact aP.yes (by omega) t2 (jv_to fx.1 ok) (kR_no hc)
  exact hgo
set_option maxRecDepth 100000 in
set_option maxHeartbeats 4000000 in
theorem m_L_write (l : Launch) {L : List Nat} {F : Nat → PE} {K : Nat → Nat} {v : Int → Int} {kd sv n : Int} {H Q : Int → Int → Int} {kp bf : Int → Int} (hfl : l.flags = flags0) (t : dr L F K v kd sv H kp Q n bf) {y : Int} (hy : -2147483648 ≤ y ∧ y ≤ 2147483647) {c : Int} (hc : c < 18 ∨ 22 < c) : PMh l yL_write cL_write 3 (some .int) [(0, 5, 6, 15), (0, 5, 10, 18)] (rm 9 1 6) L [.ref (K 0), .int (iI y)] F (aP L K v kd sv H kp Q c) := by
  refine pmh_of cw_L_write (by decide +kernel) (Nat.le_of_ble_eq_true rfl) (fun ZZ hZ => ?_)
  have hgo : ZZ 0 0 0 [some (.ref (K 0)), some (.int (iI y)), none] [] L F := by
    have fx := dr.fx t
    have r := fx.1.1
    refine zq_aload_n0 hZ dL_write_0 ?_
    refine zq_iload_n1 hZ dL_write_1 ?_
    refine zq_cV hZ (As := [_]) rfl dL_write_2 ml_L_9 wy_X7_write (m_X7_write l hfl t hy) (dr.L t 0 (by omega)) (dr.S t).2.1 rfl ⟨Nat.le_of_ble_eq_true rfl, Nat.le_of_ble_eq_true rfl⟩ ⟨Nat.le_of_ble_eq_true rfl, Nat.le_of_ble_eq_true rfl⟩ (Nat.le_of_ble_eq_true rfl) (fun E L9 F9 hx => ?_) (fun v9 L9 F9 hp => ?_)
    · obtain ⟨hx | hx, rfl, t2⟩ := hx
      · obtain ⟨rfl, no⟩ := hx
        refine ⟨6, hOk1 rfl (by decide) cl_L_15 ca_A, fun q => ?_⟩
        refine zq_astore_n2 hZ dL_write_6 (by decide) rfl ?_
        refine zq_ldc hZ dL_write_7 kc_L_17 ?_
        refine zq_iret hZ rfl (Nat.le_of_ble_eq_true rfl) (Nat.le_of_ble_eq_true rfl) dL_write_9 ?_
        exact aP.no t2 (by omega)
      · obtain ⟨rfl, yes, no⟩ := hx
        refine ⟨10, hOk2 (by decide) cl_L_15 (fun _ z => z) rfl (by decide) cl_L_18 ca_S, fun q => ?_⟩
        refine zq_astore_n2 hZ dL_write_10 (by decide) rfl ?_
        refine zq_ldc hZ dL_write_11 kc_L_20 ?_
        refine zq_iret hZ rfl (Nat.le_of_ble_eq_true rfl) (Nat.le_of_ble_eq_true rfl) dL_write_13 ?_
        exact aP.no t2 (by omega)
    · obtain ⟨ok, ok2, rfl, rfl, t2⟩ := hp
      have rz := r
      refine zq_iret hZ rfl (Nat.le_of_ble_eq_true rfl) (Nat.le_of_ble_eq_true rfl) dL_write_5 ?_
      exact aP.yes (by omega) t2 jv0 (kR_no hc)
  exact hgo
set_option maxRecDepth 100000 in
set_option maxHeartbeats 4000000 in
theorem m_L_goTo (l : Launch) {L : List Nat} {F : Nat → PE} {K : Nat → Nat} {v : Int → Int} {kd sv n : Int} {H Q : Int → Int → Int} {kp bf : Int → Int} (hfl : l.flags = flags0) (t : dr L F K v kd sv H kp Q n bf) {y : Int} (hy : -2147483648 ≤ y ∧ y ≤ 2147483647) {c : Int} (hc : c < 18 ∨ 22 < c) : PMh l yL_goTo cL_goTo 3 (some .int) [(0, 5, 6, 15)] (rm 9 1 6) L [.ref (K 0), .int (iI y)] F (aP L K v kd sv H kp Q c) := by
  refine pmh_of cw_L_goTo (by decide +kernel) (Nat.le_of_ble_eq_true rfl) (fun ZZ hZ => ?_)
  have hgo : ZZ 0 0 0 [some (.ref (K 0)), some (.int (iI y)), none] [] L F := by
    have fx := dr.fx t
    have r := fx.1.1
    refine zq_aload_n0 hZ dL_goTo_0 ?_
    refine zq_iload_n1 hZ dL_goTo_1 ?_
    refine zq_cV hZ (As := [_]) rfl dL_goTo_2 ml_L_28 wy_X7_goTo (m_X7_goTo l hfl t hy) (dr.L t 0 (by omega)) (dr.S t).2.1 rfl ⟨Nat.le_of_ble_eq_true rfl, Nat.le_of_ble_eq_true rfl⟩ ⟨Nat.le_of_ble_eq_true rfl, Nat.le_of_ble_eq_true rfl⟩ (Nat.le_of_ble_eq_true rfl) (fun E L9 F9 hx => ?_) (fun v9 L9 F9 hp => ?_)
    · obtain ⟨hx | hx, rfl, t2⟩ := hx
      rotate_left
      · exact absurd True.intro hx.2.2
      obtain ⟨rfl, no⟩ := hx
      refine ⟨6, hOk1 rfl (by decide) cl_L_15 ca_A, fun q => ?_⟩
      refine zq_astore_n2 hZ dL_goTo_6 (by decide) rfl ?_
      refine zq_ldc hZ dL_goTo_7 kc_L_17 ?_
      refine zq_iret hZ rfl (Nat.le_of_ble_eq_true rfl) (Nat.le_of_ble_eq_true rfl) dL_goTo_9 ?_
      exact aP.no t2 (by omega)
    · obtain ⟨ok, ok2, rfl, rfl, t2⟩ := hp
      have rz := r
      refine zq_iret hZ rfl (Nat.le_of_ble_eq_true rfl) (Nat.le_of_ble_eq_true rfl) dL_goTo_5 ?_
      exact aP.yes (by omega) t2 jv0 (kR_no hc)
  exact hgo
set_option maxRecDepth 100000 in
set_option maxHeartbeats 4000000 in
theorem m_L_lines (l : Launch) {L : List Nat} {F : Nat → PE} {K : Nat → Nat} {v : Int → Int} {kd sv n : Int} {H Q : Int → Int → Int} {kp bf : Int → Int} (hfl : l.flags = flags0) (t : dr L F K v kd sv H kp Q n bf) {y : Int} (hy : -2147483648 ≤ y ∧ y ≤ 2147483647) {c : Int} (hc : c < 18 ∨ 22 < c) : PMh l yL_lines cL_lines 3 (some .int) [(0, 5, 6, 15), (0, 5, 10, 18)] (rm 9 1 6) L [.ref (K 0), .int (iI y)] F (aP L K v kd sv H kp Q c) := by
  refine pmh_of cw_L_lines (by decide +kernel) (Nat.le_of_ble_eq_true rfl) (fun ZZ hZ => ?_)
  have hgo : ZZ 0 0 0 [some (.ref (K 0)), some (.int (iI y)), none] [] L F := by
    have fx := dr.fx t
    have r := fx.1.1
    refine zq_aload_n0 hZ dL_lines_0 ?_
    refine zq_iload_n1 hZ dL_lines_1 ?_
    refine zq_cV hZ (As := [_]) rfl dL_lines_2 ml_L_31 wy_X7_goLines (m_X7_goLines l hfl t hy) (dr.L t 0 (by omega)) (dr.S t).2.1 rfl ⟨Nat.le_of_ble_eq_true rfl, Nat.le_of_ble_eq_true rfl⟩ ⟨Nat.le_of_ble_eq_true rfl, Nat.le_of_ble_eq_true rfl⟩ (Nat.le_of_ble_eq_true rfl) (fun E L9 F9 hx => ?_) (fun v9 L9 F9 hp => ?_)
    · obtain ⟨hx | hx, rfl, t2⟩ := hx
      · obtain ⟨rfl, no⟩ := hx
        refine ⟨6, hOk1 rfl (by decide) cl_L_15 ca_A, fun q => ?_⟩
        refine zq_astore_n2 hZ dL_lines_6 (by decide) rfl ?_
        refine zq_ldc hZ dL_lines_7 kc_L_17 ?_
        refine zq_iret hZ rfl (Nat.le_of_ble_eq_true rfl) (Nat.le_of_ble_eq_true rfl) dL_lines_9 ?_
        exact aP.no t2 (by omega)
      · obtain ⟨rfl, yes, no⟩ := hx
        refine ⟨10, hOk2 (by decide) cl_L_15 (fun _ z => z) rfl (by decide) cl_L_18 ca_S, fun q => ?_⟩
        refine zq_astore_n2 hZ dL_lines_10 (by decide) rfl ?_
        refine zq_ldc hZ dL_lines_11 kc_L_20 ?_
        refine zq_iret hZ rfl (Nat.le_of_ble_eq_true rfl) (Nat.le_of_ble_eq_true rfl) dL_lines_13 ?_
        exact aP.no t2 (by omega)
    · obtain ⟨ok, ok2, rfl, rfl, t2⟩ := hp
      have rz := glA_rg (z := y) fx.1
      refine zq_iret hZ rfl (Nat.le_of_ble_eq_true rfl) (Nat.le_of_ble_eq_true rfl) dL_lines_5 ?_
      exact aP.yes (by omega) t2 jv0 (kR_no hc)
  exact hgo
set_option maxRecDepth 100000 in
set_option maxHeartbeats 4000000 in
theorem m_L_turn (l : Launch) {L : List Nat} {F : Nat → PE} {K : Nat → Nat} {v : Int → Int} {kd sv n : Int} {H Q : Int → Int → Int} {kp bf : Int → Int} (hfl : l.flags = flags0) (t : dr L F K v kd sv H kp Q n bf) {y : Int} (hy : -2147483648 ≤ y ∧ y ≤ 2147483647) {c : Int} (hc : c < 18 ∨ 22 < c) : PMh l yL_turn cL_turn 3 (some .int) [(0, 5, 6, 15), (0, 5, 10, 18)] (rm 9 1 6) L [.ref (K 0), .int (iI y)] F (aP L K v kd sv H kp Q c) := by
  refine pmh_of cw_L_turn (by decide +kernel) (Nat.le_of_ble_eq_true rfl) (fun ZZ hZ => ?_)
  have hgo : ZZ 0 0 0 [some (.ref (K 0)), some (.int (iI y)), none] [] L F := by
    have fx := dr.fx t
    have r := fx.1.1
    refine zq_aload_n0 hZ dL_turn_0 ?_
    refine zq_iload_n1 hZ dL_turn_1 ?_
    refine zq_cV hZ (As := [_]) rfl dL_turn_2 ml_L_61 wy_X7_turn (m_X7_turn l hfl t hy) (dr.L t 0 (by omega)) (dr.S t).2.1 rfl ⟨Nat.le_of_ble_eq_true rfl, Nat.le_of_ble_eq_true rfl⟩ ⟨Nat.le_of_ble_eq_true rfl, Nat.le_of_ble_eq_true rfl⟩ (Nat.le_of_ble_eq_true rfl) (fun E L9 F9 hx => ?_) (fun v9 L9 F9 hp => ?_)
    · obtain ⟨hx | hx, rfl, t2⟩ := hx
      · obtain ⟨rfl, no⟩ := hx
        refine ⟨6, hOk1 rfl (by decide) cl_L_15 ca_A, fun q => ?_⟩
        refine zq_astore_n2 hZ dL_turn_6 (by decide) rfl ?_
        refine zq_ldc hZ dL_turn_7 kc_L_17 ?_
        refine zq_iret hZ rfl (Nat.le_of_ble_eq_true rfl) (Nat.le_of_ble_eq_true rfl) dL_turn_9 ?_
        exact aP.no t2 (by omega)
      · obtain ⟨rfl, yes, no⟩ := hx
        refine ⟨10, hOk2 (by decide) cl_L_15 (fun _ z => z) rfl (by decide) cl_L_18 ca_S, fun q => ?_⟩
        refine zq_astore_n2 hZ dL_turn_10 (by decide) rfl ?_
        refine zq_ldc hZ dL_turn_11 kc_L_20 ?_
        refine zq_iret hZ rfl (Nat.le_of_ble_eq_true rfl) (Nat.le_of_ble_eq_true rfl) dL_turn_13 ?_
        exact aP.no t2 (by omega)
    · obtain ⟨ok, ok2, rfl, rfl, t2⟩ := hp
      have rz := trA_rg (z := y) (v := v) ok2
      refine zq_iret hZ rfl (Nat.le_of_ble_eq_true rfl) (Nat.le_of_ble_eq_true rfl) dL_turn_5 ?_
      exact aP.yes (by omega) t2 jv0 (kR_no hc)
  exact hgo
set_option maxRecDepth 100000 in
set_option maxHeartbeats 4000000 in
theorem m_L_caves (l : Launch) {L : List Nat} {F : Nat → PE} {K : Nat → Nat} {v : Int → Int} {kd sv n : Int} {H Q : Int → Int → Int} {kp bf : Int → Int} (hfl : l.flags = flags0) (t : dr L F K v kd sv H kp Q n bf) {y : Int} (hy : -2147483648 ≤ y ∧ y ≤ 2147483647) {c : Int} (hc : c < 18 ∨ 22 < c) : PMh l yL_caves cL_caves 3 (some .int) [(0, 5, 6, 15)] (rm 9 1 6) L [.ref (K 0), .int (iI y)] F (aP L K v kd sv H kp Q c) := by
  refine pmh_of cw_L_caves (by decide +kernel) (Nat.le_of_ble_eq_true rfl) (fun ZZ hZ => ?_)
  have hgo : ZZ 0 0 0 [some (.ref (K 0)), some (.int (iI y)), none] [] L F := by
    have fx := dr.fx t
    have r := fx.1.1
    refine zq_aload_n0 hZ dL_caves_0 ?_
    refine zq_iload_n1 hZ dL_caves_1 ?_
    refine zq_cV hZ (As := [_]) rfl dL_caves_2 ml_L_64 wy_X7_changeCaves (m_X7_changeCaves l hfl t hy) (dr.L t 0 (by omega)) (dr.S t).2.1 rfl ⟨Nat.le_of_ble_eq_true rfl, Nat.le_of_ble_eq_true rfl⟩ ⟨Nat.le_of_ble_eq_true rfl, Nat.le_of_ble_eq_true rfl⟩ (Nat.le_of_ble_eq_true rfl) (fun E L9 F9 hx => ?_) (fun v9 L9 F9 hp => ?_)
    · obtain ⟨hx | hx, rfl, t2⟩ := hx
      rotate_left
      · exact absurd True.intro hx.2.2
      obtain ⟨rfl, no⟩ := hx
      refine ⟨6, hOk1 rfl (by decide) cl_L_15 ca_A, fun q => ?_⟩
      refine zq_astore_n2 hZ dL_caves_6 (by decide) rfl ?_
      refine zq_ldc hZ dL_caves_7 kc_L_17 ?_
      refine zq_iret hZ rfl (Nat.le_of_ble_eq_true rfl) (Nat.le_of_ble_eq_true rfl) dL_caves_9 ?_
      exact aP.no t2 (by omega)
    · obtain ⟨ok, ok2, rfl, rfl, t2⟩ := hp
      have rz := r
      refine zq_iret hZ rfl (Nat.le_of_ble_eq_true rfl) (Nat.le_of_ble_eq_true rfl) dL_caves_5 ?_
      exact aP.yes (by omega) t2 jv0 (kR_no hc)
  exact hgo
set_option maxRecDepth 100000 in
set_option maxHeartbeats 4000000 in
theorem m_L_append (l : Launch) {L : List Nat} {F : Nat → PE} {K : Nat → Nat} {v : Int → Int} {kd sv n : Int} {H Q : Int → Int → Int} {kp bf : Int → Int} (hfl : l.flags = flags0) (t : dr L F K v kd sv H kp Q n bf) {y : Int} (hy : -2147483648 ≤ y ∧ y ≤ 2147483647) : PMh l yL_append cL_append 3 (some .int) [(0, 5, 6, 15), (0, 5, 10, 18)] (rm 8 1 6) L [.ref (K 0), .int (iI y)] F (fun v9 L1 F1 => L = L1 ∧ ∃ (x : Int) (n1 : Int) (bf1 : Int → Int), v9 = some (.int (iI x)) ∧ dr L1 F1 K v kd sv H kp Q n1 bf1) := by
  refine pmh_of cw_L_append (by decide +kernel) (Nat.le_of_ble_eq_true rfl) (fun ZZ hZ => ?_)
  have hgo : ZZ 0 0 0 [some (.ref (K 0)), some (.int (iI y)), none] [] L F := by
    refine zq_aload_n0 hZ dL_append_0 ?_
    refine zq_iload_n1 hZ dL_append_1 ?_
    refine zq_cV hZ (As := [_]) rfl dL_append_2 ml_L_67 wy_X7_append (m_X7_append l hfl t hy) (dr.L t 0 (by omega)) (dr.S t).2.1 rfl ⟨Nat.le_of_ble_eq_true rfl, Nat.le_of_ble_eq_true rfl⟩ ⟨Nat.le_of_ble_eq_true rfl, Nat.le_of_ble_eq_true rfl⟩ (Nat.le_of_ble_eq_true rfl) (fun E L9 F9 hx => ?_) (fun v9 L9 F9 hp => ?_)
    · obtain ⟨hx | hx, rfl, rfl⟩ := hx
      · obtain ⟨rfl, no⟩ := hx
        refine ⟨6, hOk1 rfl (by decide) cl_L_15 ca_A, fun q => ?_⟩
        refine zq_astore_n2 hZ dL_append_6 (by decide) rfl ?_
        refine zq_ldc hZ dL_append_7 kc_L_17 ?_
        refine zq_iret hZ rfl (Nat.le_of_ble_eq_true rfl) (Nat.le_of_ble_eq_true rfl) dL_append_9 ?_
        exact ⟨rfl, _, _, _, rfl, t⟩
      · obtain ⟨rfl, yes, no⟩ := hx
        refine ⟨10, hOk2 (by decide) cl_L_15 (fun _ z => z) rfl (by decide) cl_L_18 ca_S, fun q => ?_⟩
        refine zq_astore_n2 hZ dL_append_10 (by decide) rfl ?_
        refine zq_ldc hZ dL_append_11 kc_L_20 ?_
        refine zq_iret hZ rfl (Nat.le_of_ble_eq_true rfl) (Nat.le_of_ble_eq_true rfl) dL_append_13 ?_
        exact ⟨rfl, _, _, _, rfl, t⟩
    · obtain ⟨⟨ok, ok2⟩, rfl, rfl, t2⟩ := hp
      refine zq_iret hZ rfl (Nat.le_of_ble_eq_true rfl) (Nat.le_of_ble_eq_true rfl) dL_append_5 ?_
      exact ⟨rfl, _, _, _, rfl, t2⟩
  exact hgo
set_option maxRecDepth 100000 in
set_option maxHeartbeats 4000000 in
theorem m_L_perform (l : Launch) {L : List Nat} {F : Nat → PE} {K : Nat → Nat} {v : Int → Int} {kd sv n : Int} {H Q : Int → Int → Int} {kp bf : Int → Int} (hfl : l.flags = flags0) (t : dr L F K v kd sv H kp Q n bf) (hj : jv v kd) {c : Int} (hc : c < 18 ∨ 22 < c) : PMh l yL_perform cL_perform 2 (some .int) [(0, 4, 5, 15), (0, 4, 9, 18)] (rm 10 1 6) L [.ref (K 0)] F (aP L K v kd sv H kp Q c) := by
  refine pmh_of cw_L_perform (by decide +kernel) (Nat.le_of_ble_eq_true rfl) (fun ZZ hZ => ?_)
  have hgo : ZZ 0 0 0 [some (.ref (K 0)), none] [] L F := by
    have fx := dr.fx t
    have r := fx.1.1
    refine zq_aload_n0 hZ dL_perform_0 ?_
    refine zq_cV hZ (As := []) rfl dL_perform_1 ml_L_70 wy_X7_perform (m_X7_perform l hfl t) (dr.L t 0 (by omega)) (dr.S t).2.1 rfl ⟨Nat.le_of_ble_eq_true rfl, Nat.le_of_ble_eq_true rfl⟩ ⟨Nat.le_of_ble_eq_true rfl, Nat.le_of_ble_eq_true rfl⟩ (Nat.le_of_ble_eq_true rfl) (fun E L9 F9 hx => ?_) (fun v9 L9 F9 hp => ?_)
    · obtain ⟨hx | hx, rfl, t2⟩ := hx
      · obtain ⟨rfl, no⟩ := hx
        refine ⟨5, hOk1 rfl (by decide) cl_L_15 ca_A, fun q => ?_⟩
        refine zq_astore_n1 hZ dL_perform_5 (by decide) rfl ?_
        refine zq_ldc hZ dL_perform_6 kc_L_17 ?_
        refine zq_iret hZ rfl (Nat.le_of_ble_eq_true rfl) (Nat.le_of_ble_eq_true rfl) dL_perform_8 ?_
        exact aP.no t2 (by omega)
      · obtain ⟨rfl, yes, no⟩ := hx
        refine ⟨9, hOk2 (by decide) cl_L_15 (fun _ z => z) rfl (by decide) cl_L_18 ca_S, fun q => ?_⟩
        refine zq_astore_n1 hZ dL_perform_9 (by decide) rfl ?_
        refine zq_ldc hZ dL_perform_10 kc_L_20 ?_
        refine zq_iret hZ rfl (Nat.le_of_ble_eq_true rfl) (Nat.le_of_ble_eq_true rfl) dL_perform_12 ?_
        exact aP.no t2 (by omega)
    · obtain ⟨ok, v1, k1, e, hr, rfl, rfl, t2⟩ := hp
      have rr := rnF_rg _ _ _ _ _ _ _ _ hr
      have rj := rn_jv fx.2.2.2.1 ok.2 _ _ _ _ _ _ _ _ (Int.le_refl 0) (by omega) rfl fx.1 hj hr
      refine zq_iret hZ rfl (Nat.le_of_ble_eq_true rfl) (Nat.le_of_ble_eq_true rfl) dL_perform_4 ?_
      exact aP.yes (by omega) t2 rj (kR_no hc)
  exact hgo
set_option maxRecDepth 100000 in
set_option maxHeartbeats 4000000 in
theorem m_L_keep (l : Launch) {L : List Nat} {F : Nat → PE} {K : Nat → Nat} {v : Int → Int} {kd sv n : Int} {H Q : Int → Int → Int} {kp bf : Int → Int} (hfl : l.flags = flags0) (t : dr L F K v kd sv H kp Q n bf) {y : Int} (hy : -2147483648 ≤ y ∧ y ≤ 2147483647) : PMh l yL_keep cL_keep 3 (some .int) [(0, 6, 7, 15)] (rm 8 1 6) L [.ref (K 0), .int (iI y)] F (fun v9 L1 F1 => L = L1 ∧ (((0 ≤ y ∧ y ≤ 1) ∧ v9 = some (.int (iI 0)) ∧ dr L1 F1 K v kd sv H (wu kp y 1) (wu Q y v) n bf) ∨ (¬ (0 ≤ y ∧ y ≤ 1) ∧ v9 = some (.int (iI (-2000001))) ∧ dr L1 F1 K v kd sv H kp Q n bf))) := by
  refine pmh_of cw_L_keep (by decide +kernel) (Nat.le_of_ble_eq_true rfl) (fun ZZ hZ => ?_)
  have hgo : ZZ 0 0 0 [some (.ref (K 0)), some (.int (iI y)), none] [] L F := by
    refine zq_aload_n0 hZ dL_keep_0 ?_
    refine zq_iload_n1 hZ dL_keep_1 ?_
    refine zq_cV hZ (As := [_]) rfl dL_keep_2 ml_L_73 wy_X7_keep (m_X7_keep l hfl t hy) (dr.L t 0 (by omega)) (dr.S t).2.1 rfl ⟨Nat.le_of_ble_eq_true rfl, Nat.le_of_ble_eq_true rfl⟩ ⟨Nat.le_of_ble_eq_true rfl, Nat.le_of_ble_eq_true rfl⟩ (Nat.le_of_ble_eq_true rfl) (fun E L9 F9 hx => ?_) (fun v9 L9 F9 hp => ?_)
    · obtain ⟨⟨rfl, no⟩, rfl, rfl⟩ := hx
      refine ⟨7, hOk1 rfl (by decide) cl_L_15 ca_A, fun q => ?_⟩
      refine zq_astore_n2 hZ dL_keep_7 (by decide) rfl ?_
      refine zq_ldc hZ dL_keep_8 kc_L_17 ?_
      refine zq_iret hZ rfl (Nat.le_of_ble_eq_true rfl) (Nat.le_of_ble_eq_true rfl) dL_keep_10 ?_
      exact ⟨rfl, Or.inr ⟨no, rfl, t⟩⟩
    · obtain ⟨ok, rfl, rfl, t2⟩ := hp
      refine zq_iconst hZ dL_keep_5 ?_
      refine zq_iret hZ rfl (Nat.le_of_ble_eq_true rfl) (Nat.le_of_ble_eq_true rfl) dL_keep_6 ?_
      exact ⟨rfl, Or.inl ⟨ok, rfl, t2⟩⟩
  exact hgo
set_option maxRecDepth 100000 in
set_option maxHeartbeats 4000000 in
theorem m_L_back (l : Launch) {L : List Nat} {F : Nat → PE} {K : Nat → Nat} {v : Int → Int} {kd sv n : Int} {H Q : Int → Int → Int} {kp bf : Int → Int} (hfl : l.flags = flags0) (t : dr L F K v kd sv H kp Q n bf) {y : Int} (hy : -2147483648 ≤ y ∧ y ≤ 2147483647) : PMh l yL_back cL_back 3 (some .int) [(0, 6, 7, 15), (0, 6, 11, 18)] (rm 8 1 6) L [.ref (K 0), .int (iI y)] F (fun v9 L1 F1 => L = L1 ∧ (((0 ≤ y ∧ y ≤ 1) ∧ kp y = 1 ∧ v9 = some (.int (iI 0)) ∧ dr L1 F1 K (Q y) 0 (hN sv) (hS sv H v) kp Q n bf) ∨ (¬ (0 ≤ y ∧ y ≤ 1) ∧ v9 = some (.int (iI (-2000001))) ∧ dr L1 F1 K v kd sv H kp Q n bf) ∨ ((0 ≤ y ∧ y ≤ 1) ∧ ¬ kp y = 1 ∧ v9 = some (.int (iI (-2000002))) ∧ dr L1 F1 K v kd sv H kp Q n bf))) := by
  refine pmh_of cw_L_back (by decide +kernel) (Nat.le_of_ble_eq_true rfl) (fun ZZ hZ => ?_)
  have hgo : ZZ 0 0 0 [some (.ref (K 0)), some (.int (iI y)), none] [] L F := by
    refine zq_aload_n0 hZ dL_back_0 ?_
    refine zq_iload_n1 hZ dL_back_1 ?_
    refine zq_cV hZ (As := [_]) rfl dL_back_2 ml_L_77 wy_X7_goBack (m_X7_goBack l hfl t hy) (dr.L t 0 (by omega)) (dr.S t).2.1 rfl ⟨Nat.le_of_ble_eq_true rfl, Nat.le_of_ble_eq_true rfl⟩ ⟨Nat.le_of_ble_eq_true rfl, Nat.le_of_ble_eq_true rfl⟩ (Nat.le_of_ble_eq_true rfl) (fun E L9 F9 hx => ?_) (fun v9 L9 F9 hp => ?_)
    · obtain ⟨hx | hx, rfl, rfl⟩ := hx
      · obtain ⟨rfl, no⟩ := hx
        refine ⟨7, hOk1 rfl (by decide) cl_L_15 ca_A, fun q => ?_⟩
        refine zq_astore_n2 hZ dL_back_7 (by decide) rfl ?_
        refine zq_ldc hZ dL_back_8 kc_L_17 ?_
        refine zq_iret hZ rfl (Nat.le_of_ble_eq_true rfl) (Nat.le_of_ble_eq_true rfl) dL_back_10 ?_
        exact ⟨rfl, Or.inr (Or.inl ⟨no, rfl, t⟩)⟩
      · obtain ⟨rfl, yes, no⟩ := hx
        refine ⟨11, hOk2 (by decide) cl_L_15 (fun _ z => z) rfl (by decide) cl_L_18 ca_S, fun q => ?_⟩
        refine zq_astore_n2 hZ dL_back_11 (by decide) rfl ?_
        refine zq_ldc hZ dL_back_12 kc_L_20 ?_
        refine zq_iret hZ rfl (Nat.le_of_ble_eq_true rfl) (Nat.le_of_ble_eq_true rfl) dL_back_14 ?_
        exact ⟨rfl, Or.inr (Or.inr ⟨yes, no, rfl, t⟩)⟩
    · obtain ⟨⟨ok, ok2⟩, rfl, rfl, t2⟩ := hp
      refine zq_iconst hZ dL_back_5 ?_
      refine zq_iret hZ rfl (Nat.le_of_ble_eq_true rfl) (Nat.le_of_ble_eq_true rfl) dL_back_6 ?_
      exact ⟨rfl, Or.inl ⟨ok, ok2, rfl, t2⟩⟩
  exact hgo
set_option maxRecDepth 100000 in
set_option maxHeartbeats 4000000 in
theorem m_L_undo (l : Launch) {L : List Nat} {F : Nat → PE} {K : Nat → Nat} {v : Int → Int} {kd sv n : Int} {H Q : Int → Int → Int} {kp bf : Int → Int} (hfl : l.flags = flags0) (t : dr L F K v kd sv H kp Q n bf) : PMh l yL_undo cL_undo 2 (some .int) [(0, 5, 6, 18)] (rm 8 1 6) L [.ref (K 0)] F (fun v9 L1 F1 => L = L1 ∧ ((0 < sv ∧ v9 = some (.int (iI 0)) ∧ dr L1 F1 K (H sv) 0 (sv - 1) H kp Q n bf) ∨ (¬ 0 < sv ∧ v9 = some (.int (iI (-2000001))) ∧ dr L1 F1 K v kd sv H kp Q n bf))) := by
  refine pmh_of cw_L_undo (by decide +kernel) (Nat.le_of_ble_eq_true rfl) (fun ZZ hZ => ?_)
  have hgo : ZZ 0 0 0 [some (.ref (K 0)), none] [] L F := by
    refine zq_aload_n0 hZ dL_undo_0 ?_
    refine zq_cV hZ (As := []) rfl dL_undo_1 ml_L_80 wy_X7_undo (m_X7_undo l hfl t) (dr.L t 0 (by omega)) (dr.S t).2.1 rfl ⟨Nat.le_of_ble_eq_true rfl, Nat.le_of_ble_eq_true rfl⟩ ⟨Nat.le_of_ble_eq_true rfl, Nat.le_of_ble_eq_true rfl⟩ (Nat.le_of_ble_eq_true rfl) (fun E L9 F9 hx => ?_) (fun v9 L9 F9 hp => ?_)
    · obtain ⟨⟨rfl, no⟩, rfl, rfl⟩ := hx
      refine ⟨6, hOk1 rfl (by decide) cl_L_18 ca_S, fun q => ?_⟩
      refine zq_astore_n1 hZ dL_undo_6 (by decide) rfl ?_
      refine zq_ldc hZ dL_undo_7 kc_L_17 ?_
      refine zq_iret hZ rfl (Nat.le_of_ble_eq_true rfl) (Nat.le_of_ble_eq_true rfl) dL_undo_9 ?_
      exact ⟨rfl, Or.inr ⟨no, rfl, t⟩⟩
    · obtain ⟨ok, rfl, rfl, t2⟩ := hp
      refine zq_iconst hZ dL_undo_4 ?_
      refine zq_iret hZ rfl (Nat.le_of_ble_eq_true rfl) (Nat.le_of_ble_eq_true rfl) dL_undo_5 ?_
      exact ⟨rfl, Or.inl ⟨ok, rfl, t2⟩⟩
  exact hgo
set_option maxRecDepth 100000 in
set_option maxHeartbeats 4000000 in
theorem m_L_markAt (l : Launch) {L : List Nat} {F : Nat → PE} {K : Nat → Nat} {v : Int → Int} {kd sv n : Int} {H Q : Int → Int → Int} {kp bf : Int → Int} (hfl : l.flags = flags0) (t : dr L F K v kd sv H kp Q n bf) : PMh l yL_markAt cL_markAt 2 (some .int) [(0, 4, 5, 18)] (rm 8 1 6) L [.ref (K 0)] F (fun v9 L1 F1 => v9 = some (.int (iI (mkQ v))) ∧ L = L1 ∧ F = F1) := by
  refine pmh_of cw_L_markAt (by decide +kernel) (Nat.le_of_ble_eq_true rfl) (fun ZZ hZ => ?_)
  have hgo : ZZ 0 0 0 [some (.ref (K 0)), none] [] L F := by
    refine zq_aload_n0 hZ dL_markAt_0 ?_
    refine zq_cV hZ (As := []) rfl dL_markAt_1 ml_L_88 wy_X7_markAt (m_X7_markAt l hfl t) (dr.L t 0 (by omega)) (dr.S t).2.1 rfl ⟨Nat.le_of_ble_eq_true rfl, Nat.le_of_ble_eq_true rfl⟩ ⟨Nat.le_of_ble_eq_true rfl, Nat.le_of_ble_eq_true rfl⟩ (Nat.le_of_ble_eq_true rfl) (fun E L9 F9 hx => ?_) (fun v9 L9 F9 hp => ?_)
    · obtain ⟨rfl, no, rfl, rfl⟩ := hx
      refine ⟨5, hOk1 rfl (by decide) cl_L_18 ca_S, fun q => ?_⟩
      refine zq_astore_n1 hZ dL_markAt_5 (by decide) rfl ?_
      refine zq_ldc hZ dL_markAt_6 kc_L_17 ?_
      refine zq_iret hZ rfl (Nat.le_of_ble_eq_true rfl) (Nat.le_of_ble_eq_true rfl) dL_markAt_8 ?_
      exact ⟨by rw [show mkQ v = _ from if_neg no], rfl, rfl⟩
    · obtain ⟨ok, rfl, rfl, rfl⟩ := hp
      refine zq_iret hZ rfl (Nat.le_of_ble_eq_true rfl) (Nat.le_of_ble_eq_true rfl) dL_markAt_4 ?_
      exact ⟨by rw [show mkQ v = _ from if_pos ok], rfl, rfl⟩
  exact hgo
set_option maxRecDepth 100000 in
set_option maxHeartbeats 4000000 in
theorem m_L_apart (l : Launch) {L : List Nat} {F : Nat → PE} {K : Nat → Nat} {v : Int → Int} {kd sv n : Int} {H Q : Int → Int → Int} {kp bf : Int → Int} (hfl : l.flags = flags0) (t : dr L F K v kd sv H kp Q n bf) : PMh l yL_apart cL_apart 2 (some .int) [(0, 4, 5, 18)] (rm 8 1 6) L [.ref (K 0)] F (fun v9 L1 F1 => v9 = some (.int (iI (apQ v))) ∧ L = L1 ∧ F = F1) := by
  refine pmh_of cw_L_apart (by decide +kernel) (Nat.le_of_ble_eq_true rfl) (fun ZZ hZ => ?_)
  have hgo : ZZ 0 0 0 [some (.ref (K 0)), none] [] L F := by
    refine zq_aload_n0 hZ dL_apart_0 ?_
    refine zq_cV hZ (As := []) rfl dL_apart_1 ml_L_91 wy_X7_between (m_X7_between l hfl t) (dr.L t 0 (by omega)) (dr.S t).2.1 rfl ⟨Nat.le_of_ble_eq_true rfl, Nat.le_of_ble_eq_true rfl⟩ ⟨Nat.le_of_ble_eq_true rfl, Nat.le_of_ble_eq_true rfl⟩ (Nat.le_of_ble_eq_true rfl) (fun E L9 F9 hx => ?_) (fun v9 L9 F9 hp => ?_)
    · obtain ⟨rfl, no, rfl, rfl⟩ := hx
      refine ⟨5, hOk1 rfl (by decide) cl_L_18 ca_S, fun q => ?_⟩
      refine zq_astore_n1 hZ dL_apart_5 (by decide) rfl ?_
      refine zq_ldc hZ dL_apart_6 kc_L_17 ?_
      refine zq_iret hZ rfl (Nat.le_of_ble_eq_true rfl) (Nat.le_of_ble_eq_true rfl) dL_apart_8 ?_
      exact ⟨by rw [show apQ v = _ from if_neg no], rfl, rfl⟩
    · obtain ⟨ok, rfl, rfl, rfl⟩ := hp
      refine zq_iret hZ rfl (Nat.le_of_ble_eq_true rfl) (Nat.le_of_ble_eq_true rfl) dL_apart_4 ?_
      exact ⟨by rw [show apQ v = _ from if_pos ok], rfl, rfl⟩
  exact hgo
set_option maxRecDepth 100000 in
set_option maxHeartbeats 4000000 in
theorem m_L_next (l : Launch) {L : List Nat} {F : Nat → PE} {K : Nat → Nat} {v : Int → Int} {kd sv n : Int} {H Q : Int → Int → Int} {kp bf : Int → Int} (hfl : l.flags = flags0) (t : dr L F K v kd sv H kp Q n bf) : PMh l yL_next cL_next 2 (some .int) [(0, 4, 5, 18)] (rm 8 1 6) L [.ref (K 0)] F (fun v9 L1 F1 => v9 = some (.int (iI (nxQ v))) ∧ L = L1 ∧ F = F1) := by
  refine pmh_of cw_L_next (by decide +kernel) (Nat.le_of_ble_eq_true rfl) (fun ZZ hZ => ?_)
  have hgo : ZZ 0 0 0 [some (.ref (K 0)), none] [] L F := by
    refine zq_aload_n0 hZ dL_next_0 ?_
    refine zq_cV hZ (As := []) rfl dL_next_1 ml_L_101 wy_X7_nextHoard (m_X7_nextHoard l hfl t) (dr.L t 0 (by omega)) (dr.S t).2.1 rfl ⟨Nat.le_of_ble_eq_true rfl, Nat.le_of_ble_eq_true rfl⟩ ⟨Nat.le_of_ble_eq_true rfl, Nat.le_of_ble_eq_true rfl⟩ (Nat.le_of_ble_eq_true rfl) (fun E L9 F9 hx => ?_) (fun v9 L9 F9 hp => ?_)
    · obtain ⟨rfl, no, rfl, rfl⟩ := hx
      refine ⟨5, hOk1 rfl (by decide) cl_L_18 ca_S, fun q => ?_⟩
      refine zq_astore_n1 hZ dL_next_5 (by decide) rfl ?_
      refine zq_ldc hZ dL_next_6 kc_L_17 ?_
      refine zq_iret hZ rfl (Nat.le_of_ble_eq_true rfl) (Nat.le_of_ble_eq_true rfl) dL_next_8 ?_
      exact ⟨by rw [show nxQ v = _ from if_neg no], rfl, rfl⟩
    · obtain ⟨ok, rfl, rfl, rfl⟩ := hp
      refine zq_iret hZ rfl (Nat.le_of_ble_eq_true rfl) (Nat.le_of_ble_eq_true rfl) dL_next_4 ?_
      exact ⟨by rw [show nxQ v = _ from if_pos ok], rfl, rfl⟩
  exact hgo
set_option maxRecDepth 100000 in
set_option maxHeartbeats 4000000 in
theorem m_L_heaviest (l : Launch) {L : List Nat} {F : Nat → PE} {K : Nat → Nat} {v : Int → Int} {kd sv n : Int} {H Q : Int → Int → Int} {kp bf : Int → Int} (hfl : l.flags = flags0) (t : dr L F K v kd sv H kp Q n bf) : PMh l yL_heaviest cL_heaviest 2 (some .int) [(0, 4, 5, 18)] (rm 8 1 6) L [.ref (K 0)] F (fun v9 L1 F1 => v9 = some (.int (iI (hvQ v))) ∧ L = L1 ∧ F = F1) := by
  refine pmh_of cw_L_heaviest (by decide +kernel) (Nat.le_of_ble_eq_true rfl) (fun ZZ hZ => ?_)
  have hgo : ZZ 0 0 0 [some (.ref (K 0)), none] [] L F := by
    refine zq_aload_n0 hZ dL_heaviest_0 ?_
    refine zq_cV hZ (As := []) rfl dL_heaviest_1 ml_L_107 wy_X7_heaviest (m_X7_heaviest l hfl t) (dr.L t 0 (by omega)) (dr.S t).2.1 rfl ⟨Nat.le_of_ble_eq_true rfl, Nat.le_of_ble_eq_true rfl⟩ ⟨Nat.le_of_ble_eq_true rfl, Nat.le_of_ble_eq_true rfl⟩ (Nat.le_of_ble_eq_true rfl) (fun E L9 F9 hx => ?_) (fun v9 L9 F9 hp => ?_)
    · obtain ⟨rfl, no, rfl, rfl⟩ := hx
      refine ⟨5, hOk1 rfl (by decide) cl_L_18 ca_S, fun q => ?_⟩
      refine zq_astore_n1 hZ dL_heaviest_5 (by decide) rfl ?_
      refine zq_ldc hZ dL_heaviest_6 kc_L_17 ?_
      refine zq_iret hZ rfl (Nat.le_of_ble_eq_true rfl) (Nat.le_of_ble_eq_true rfl) dL_heaviest_8 ?_
      exact ⟨by rw [show hvQ v = _ from if_neg no], rfl, rfl⟩
    · obtain ⟨ok, rfl, rfl, rfl⟩ := hp
      refine zq_iret hZ rfl (Nat.le_of_ble_eq_true rfl) (Nat.le_of_ble_eq_true rfl) dL_heaviest_4 ?_
      exact ⟨by rw [show hvQ v = _ from if_pos ok], rfl, rfl⟩
  exact hgo
set_option maxRecDepth 100000 in
set_option maxHeartbeats 4000000 in
theorem m_L_codeIn (l : Launch) {L : List Nat} {F : Nat → PE} {K : Nat → Nat} {v : Int → Int} {kd sv n : Int} {H Q : Int → Int → Int} {kp bf : Int → Int} (hfl : l.flags = flags0) (t : dr L F K v kd sv H kp Q n bf) {y : Int} {z : Int} (hy : -2147483648 ≤ y ∧ y ≤ 2147483647) (hz : -2147483648 ≤ z ∧ z ≤ 2147483647) : PMh l yL_codeIn cL_codeIn 4 (some .int) [(0, 6, 7, 86)] (rm 8 1 6) L [.ref (K 0), .int (iI y), .int (iI z)] F (fun v9 L1 F1 => v9 = some (.int (iI (ciQ v y z))) ∧ L = L1 ∧ F = F1) := by
  refine pmh_of cw_L_codeIn (by decide +kernel) (Nat.le_of_ble_eq_true rfl) (fun ZZ hZ => ?_)
  have hgo : ZZ 0 0 0 [some (.ref (K 0)), some (.int (iI y)), some (.int (iI z)), none] [] L F := by
    refine zq_aload_n0 hZ dL_codeIn_0 ?_
    refine zq_iload_n1 hZ dL_codeIn_1 ?_
    refine zq_iload_n2 hZ dL_codeIn_2 ?_
    refine zq_cV hZ (As := [_, _]) rfl dL_codeIn_3 ml_L_97 wy_X7_codeIn (m_X7_codeIn l hfl t hy hz) (dr.L t 0 (by omega)) (dr.S t).2.1 rfl ⟨Nat.le_of_ble_eq_true rfl, Nat.le_of_ble_eq_true rfl⟩ ⟨Nat.le_of_ble_eq_true rfl, Nat.le_of_ble_eq_true rfl⟩ (Nat.le_of_ble_eq_true rfl) (fun E L9 F9 hx => ?_) (fun v9 L9 F9 hp => ?_)
    · obtain ⟨rfl, no, rfl, rfl⟩ := hx
      refine ⟨7, hOk1 rfl (by decide) cl_L_86 ca_B, fun q => ?_⟩
      refine zq_astore_n3 hZ dL_codeIn_7 (by decide) rfl ?_
      refine zq_ldc hZ dL_codeIn_8 kc_L_17 ?_
      refine zq_iret hZ rfl (Nat.le_of_ble_eq_true rfl) (Nat.le_of_ble_eq_true rfl) dL_codeIn_10 ?_
      exact ⟨by rw [show ciQ v y z = _ from if_neg no], rfl, rfl⟩
    · obtain ⟨ok, rfl, rfl, rfl⟩ := hp
      refine zq_iret hZ rfl (Nat.le_of_ble_eq_true rfl) (Nat.le_of_ble_eq_true rfl) dL_codeIn_6 ?_
      exact ⟨by rw [show ciQ v y z = _ from if_pos ok], rfl, rfl⟩
  exact hgo
set_option maxRecDepth 100000 in
set_option maxHeartbeats 4000000 in
theorem m_L_ifYanked (l : Launch) {L : List Nat} {F : Nat → PE} {K : Nat → Nat} {v : Int → Int} {kd sv n : Int} {H Q : Int → Int → Int} {kp bf : Int → Int} (hfl : l.flags = flags0) (t : dr L F K v kd sv H kp Q n bf) {y : Int} (hy : -2147483648 ≤ y ∧ y ≤ 2147483647) : PMh l yL_ifYanked cL_ifYanked 3 (some .int) [(0, 5, 6, 86)] (rm 8 1 6) L [.ref (K 0), .int (iI y)] F (fun v9 L1 F1 => v9 = some (.int (iI (iyQ v y))) ∧ L = L1 ∧ F = F1) := by
  refine pmh_of cw_L_ifYanked (by decide +kernel) (Nat.le_of_ble_eq_true rfl) (fun ZZ hZ => ?_)
  have hgo : ZZ 0 0 0 [some (.ref (K 0)), some (.int (iI y)), none] [] L F := by
    refine zq_aload_n0 hZ dL_ifYanked_0 ?_
    refine zq_iload_n1 hZ dL_ifYanked_1 ?_
    refine zq_cV hZ (As := [_]) rfl dL_ifYanked_2 ml_L_104 wy_X7_lengthIfYanked (m_X7_lengthIfYanked l hfl t hy) (dr.L t 0 (by omega)) (dr.S t).2.1 rfl ⟨Nat.le_of_ble_eq_true rfl, Nat.le_of_ble_eq_true rfl⟩ ⟨Nat.le_of_ble_eq_true rfl, Nat.le_of_ble_eq_true rfl⟩ (Nat.le_of_ble_eq_true rfl) (fun E L9 F9 hx => ?_) (fun v9 L9 F9 hp => ?_)
    · obtain ⟨rfl, no, rfl, rfl⟩ := hx
      refine ⟨6, hOk1 rfl (by decide) cl_L_86 ca_B, fun q => ?_⟩
      refine zq_astore_n2 hZ dL_ifYanked_6 (by decide) rfl ?_
      refine zq_ldc hZ dL_ifYanked_7 kc_L_17 ?_
      refine zq_iret hZ rfl (Nat.le_of_ble_eq_true rfl) (Nat.le_of_ble_eq_true rfl) dL_ifYanked_9 ?_
      exact ⟨by rw [show iyQ v y = _ from if_neg no], rfl, rfl⟩
    · obtain ⟨ok, rfl, rfl, rfl⟩ := hp
      refine zq_iret hZ rfl (Nat.le_of_ble_eq_true rfl) (Nat.le_of_ble_eq_true rfl) dL_ifYanked_5 ?_
      exact ⟨by rw [show iyQ v y = _ from if_pos ok], rfl, rfl⟩
  exact hgo
set_option maxRecDepth 100000 in
set_option maxHeartbeats 4000000 in
theorem m_L_code0 (l : Launch) {L : List Nat} {F : Nat → PE} {K : Nat → Nat} {v : Int → Int} {kd sv n : Int} {H Q : Int → Int → Int} {kp bf : Int → Int} (hfl : l.flags = flags0) (t : dr L F K v kd sv H kp Q n bf) {y : Int} (hy : 0 ≤ y ∧ y < v 0) : PMh l yL_code cL_code 3 (some .int) [(0, 5, 6, 86)] (rm 8 0 0) L [.ref (K 0), .int (iI y)] F (fun v9 L1 F1 => v9 = some (.int (iI (v (18 + y)))) ∧ L = L1 ∧ F = F1) := by
  refine pmh_of cw_L_code (by decide +kernel) (Nat.le_of_ble_eq_true rfl) (fun ZZ hZ => ?_)
  have hgo : ZZ 0 0 0 [some (.ref (K 0)), some (.int (iI y)), none] [] L F := by
    refine zq_aload_n0 hZ dL_code_0 ?_
    refine zq_iload_n1 hZ dL_code_1 ?_
    refine zq_cV hZ (As := [_]) rfl dL_code_2 ml_L_83 wy_X7_codeAt (m_X7_codeAt0 l t hy) (dr.L t 0 (by omega)) (dr.S t).2.1 rfl ⟨Nat.le_of_ble_eq_true rfl, Nat.le_of_ble_eq_true rfl⟩ ⟨Nat.le_of_ble_eq_true rfl, Nat.le_of_ble_eq_true rfl⟩ (Nat.le_of_ble_eq_true rfl) (fun E L9 F9 hx => ?_) (fun v9 L9 F9 hp => ?_)
    · exact hx.elim
    · obtain ⟨rfl, rfl, rfl⟩ := hp
      refine zq_iret hZ rfl (Nat.le_of_ble_eq_true rfl) (Nat.le_of_ble_eq_true rfl) dL_code_5 ?_
      exact ⟨rfl, rfl, rfl⟩
  exact hgo
set_option maxRecDepth 100000 in
set_option maxHeartbeats 4000000 in
theorem m_L_hoard0 (l : Launch) {L : List Nat} {F : Nat → PE} {K : Nat → Nat} {v : Int → Int} {kd sv n : Int} {H Q : Int → Int → Int} {kp bf : Int → Int} (hfl : l.flags = flags0) (t : dr L F K v kd sv H kp Q n bf) {y : Int} (hy : 0 ≤ y ∧ y < v 3) : PMh l yL_hoard cL_hoard 3 (some .int) [(0, 5, 6, 86)] (rm 8 0 0) L [.ref (K 0), .int (iI y)] F (fun v9 L1 F1 => v9 = some (.int (iI (v (10 + y)))) ∧ L = L1 ∧ F = F1) := by
  refine pmh_of cw_L_hoard (by decide +kernel) (Nat.le_of_ble_eq_true rfl) (fun ZZ hZ => ?_)
  have hgo : ZZ 0 0 0 [some (.ref (K 0)), some (.int (iI y)), none] [] L F := by
    refine zq_aload_n0 hZ dL_hoard_0 ?_
    refine zq_iload_n1 hZ dL_hoard_1 ?_
    refine zq_cV hZ (As := [_]) rfl dL_hoard_2 ml_L_94 wy_X7_lengthOf (m_X7_lengthOf0 l t hy) (dr.L t 0 (by omega)) (dr.S t).2.1 rfl ⟨Nat.le_of_ble_eq_true rfl, Nat.le_of_ble_eq_true rfl⟩ ⟨Nat.le_of_ble_eq_true rfl, Nat.le_of_ble_eq_true rfl⟩ (Nat.le_of_ble_eq_true rfl) (fun E L9 F9 hx => ?_) (fun v9 L9 F9 hp => ?_)
    · exact hx.elim
    · obtain ⟨rfl, rfl, rfl⟩ := hp
      refine zq_iret hZ rfl (Nat.le_of_ble_eq_true rfl) (Nat.le_of_ble_eq_true rfl) dL_hoard_5 ?_
      exact ⟨rfl, rfl, rfl⟩
  exact hgo
set_option maxRecDepth 100000 in
set_option maxHeartbeats 4000000 in
theorem m_L_codeIn0 (l : Launch) {L : List Nat} {F : Nat → PE} {K : Nat → Nat} {v : Int → Int} {kd sv n : Int} {H Q : Int → Int → Int} {kp bf : Int → Int} (hfl : l.flags = flags0) (t : dr L F K v kd sv H kp Q n bf) {y : Int} {z : Int} (hy : (0 ≤ y ∧ y < v 3) ∧ 0 ≤ z ∧ z < v (10 + y)) : PMh l yL_codeIn cL_codeIn 4 (some .int) [(0, 6, 7, 86)] (rm 8 0 0) L [.ref (K 0), .int (iI y), .int (iI z)] F (fun v9 L1 F1 => v9 = some (.int (iI (v (218 + 200 * y + z)))) ∧ L = L1 ∧ F = F1) := by
  refine pmh_of cw_L_codeIn (by decide +kernel) (Nat.le_of_ble_eq_true rfl) (fun ZZ hZ => ?_)
  have hgo : ZZ 0 0 0 [some (.ref (K 0)), some (.int (iI y)), some (.int (iI z)), none] [] L F := by
    refine zq_aload_n0 hZ dL_codeIn_0 ?_
    refine zq_iload_n1 hZ dL_codeIn_1 ?_
    refine zq_iload_n2 hZ dL_codeIn_2 ?_
    refine zq_cV hZ (As := [_, _]) rfl dL_codeIn_3 ml_L_97 wy_X7_codeIn (m_X7_codeIn0 l t hy) (dr.L t 0 (by omega)) (dr.S t).2.1 rfl ⟨Nat.le_of_ble_eq_true rfl, Nat.le_of_ble_eq_true rfl⟩ ⟨Nat.le_of_ble_eq_true rfl, Nat.le_of_ble_eq_true rfl⟩ (Nat.le_of_ble_eq_true rfl) (fun E L9 F9 hx => ?_) (fun v9 L9 F9 hp => ?_)
    · exact hx.elim
    · obtain ⟨rfl, rfl, rfl⟩ := hp
      refine zq_iret hZ rfl (Nat.le_of_ble_eq_true rfl) (Nat.le_of_ble_eq_true rfl) dL_codeIn_6 ?_
      exact ⟨rfl, rfl, rfl⟩
  exact hgo
