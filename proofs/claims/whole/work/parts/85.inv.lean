/-! THE LAW'S INVARIANT. -/
def LI (LX : List Nat) (F : Nat → PE) (K : Nat → Nat) (m a q c o : Nat) : Prop := ∃ g kd sv kp n bf th pt tm sg u, dg LX F K g kd sv kp n bf ∧ mo (LX ++ [m, a, q, c, o]) F m a q c g sv th kd n pt tm sg kp bf ∧ F o = eL 1 u
def LSx (LX : List Nat) (m a q c o : Nat) : Prop := (∀ b, b ∈ LX → b ≠ m ∧ b ≠ a ∧ b ≠ q ∧ b ≠ c ∧ b ≠ o) ∧ o ≠ m ∧ o ≠ a ∧ o ≠ q ∧ o ≠ c
theorem mo.mv {L : List Nat} {F F1 : Nat → PE} {x a q c : Nat} {g : Int → Int} {sv th kd n pt tm sg : Int} {kp bf : Int → Int} (t : mo L F x a q c g sv th kd n pt tm sg kp bf) (h1 : F1 x = F x) (h2 : F1 a = F a) (h3 : F1 q = F q) (h4 : F1 c = F c) : mo L F1 x a q c g sv th kd n pt tm sg kp bf := ⟨t.1, h1.trans t.2.1, h2.trans t.2.2.1, h3.trans t.2.2.2.1, h4.trans t.2.2.2.2⟩
theorem dg.un {L : List Nat} {F : Nat → PE} {K : Nat → Nat} {g : Int → Int} {kd sv n : Int} {kp bf : Int → Int} (t : dr L F K (cpy g 0 9) kd sv (sH g) kp (sQ g) n bf) : dg L F K g kd sv kp n bf := dr.cg t (ag_cpy (by omega)).sy (fun _ _ _ => ag.rf) (fun _ _ _ => ag.rf)
theorem bk9 {g : Int → Int} : ∀ w, 0 ≤ w → w < 16362 → cpy (cpy g 0 9) 9 0 w = g w := by
  intro w w0 w1
  by_cases z : w < 1818
  · have e : cpy (cpy g 0 9) 9 0 w = cpy g 0 9 (w - 1818 * 0 + 1818 * 9) := if_pos (by omega)
    have e2 : cpy g 0 9 (w - 1818 * 0 + 1818 * 9) = g (w - 1818 * 0 + 1818 * 9 - 1818 * 9 + 1818 * 0) := if_pos (by omega)
    rw [e, e2]
    congr 1; omega
  · have e : cpy (cpy g 0 9) 9 0 w = cpy g 0 9 w := if_neg (by omega)
    have e2 : cpy g 0 9 w = g w := if_neg (by omega)
    rw [e, e2]
set_option maxRecDepth 100000 in
set_option maxHeartbeats 4000000 in
theorem m_X8_thrown (l : Launch) {L : List Nat} {F : Nat → PE} {x a q c : Nat} {g : Int → Int} {sv th kd n pt tm sg : Int} {kp bf : Int → Int} (o : mo L F x a q c g sv th kd n pt tm sg kp bf) : PM l yX8_thrown cX8_thrown 1 (some .int) (rm 1 0 0) L [.ref x] F (fun v9 L1 F1 => v9 = some (.int (iI th)) ∧ L = L1 ∧ F = F1) (fun _ _ _ => False) := by
  refine pm_of cd_X8_thrown (by decide +kernel) (Nat.le_of_ble_eq_true rfl) (fun ZZ hZ => ?_)
  have hgo : ZZ 0 0 0 [some (.ref x)] [] L F := by
    have hx := o.1.1.1
    have hF := o.2.1
    refine z_aload_n0 hZ dX8_thrown_0 ?_
    refine z_gf_X8_thrown hZ dX8_thrown_1 fl_X8_21 (by assumption) (by assumption) ?_
    exact z_iret hZ rfl (Nat.le_of_ble_eq_true rfl) (Nat.le_of_ble_eq_true rfl) dX8_thrown_4 (by exact ⟨rfl, rfl, rfl⟩)
  exact hgo

