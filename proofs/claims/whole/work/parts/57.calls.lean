/-! THE MODEL, 6: its deeds as the law calls them. -/
def aQ (d : Nat) (L : List Nat) (F : Nat → PE) (x a q c : Nat) (g : Int → Int) (sv kd n pt tm sg : Int) (kp bf : Int → Int) (v9 : Option Value) (L1 : List Nat) (F1 : Nat → PE) : Prop := L = L1 ∧ fm x a q c F F1 ∧ ((dOk d kd (cpy g 0 9) ∧ v9 = some (.int (iI (dAn d (cpy g 0 9)))) ∧ ∃ h, svP 9 sv (dTo d 0 kd (cpy g 0 9)) h ∧ mo L F1 x a q c h (hN sv) 0 (dKn d) n pt tm sg kp bf) ∨ (¬ dOk d kd (cpy g 0 9) ∧ v9 = some (.int (iI 0)) ∧ mo L F1 x a q c (cpy (cpy g 0 9) 9 0) sv 1 kd n pt tm sg kp bf))
set_option maxRecDepth 100000 in
set_option maxHeartbeats 4000000 in
theorem m_X8_rub (l : Launch) {L : List Nat} {F : Nat → PE} {x a q c : Nat} {g : Int → Int} {sv th kd n pt tm sg : Int} {kp bf : Int → Int} (o : mo L F x a q c g sv th kd n pt tm sg kp bf) (v : vf (cpy g 0 9) kd) (hs : 0 ≤ sv ∧ sv ≤ 6) : PM l yX8_rub cX8_rub 1 (some .int) (rm 10 0 0) L [.ref x] F (fun v9 L1 F1 => aQ 16 L F x a q c g sv kd n pt tm sg kp bf v9 L1 F1) (fun _ _ _ => False) := by
  refine pm_of cd_X8_rub (by decide +kernel) (Nat.le_of_ble_eq_true rfl) (fun ZZ hZ => ?_)
  have hgo : ZZ 0 0 0 [some (.ref x)] [] L F := by
    have z := m_X8_acts l (d := 16) o v hs (by omega)
    rw [show dI 16 = 117 from rfl] at z
    have hx := o.1.1.1
    have hF := o.2.1
    refine z_aload_n0 hZ dX8_rub_0 ?_
    refine z_bipush hZ dX8_rub_1 rfl ?_
    refine z_cV hZ (As := [_]) rfl dX8_rub_3 ml_X8_153 wy_X8_acts (z) (by assumption) (by assumption) rfl ⟨Nat.le_of_ble_eq_true rfl, Nat.le_of_ble_eq_true rfl⟩ ⟨Nat.le_of_ble_eq_true rfl, Nat.le_of_ble_eq_true rfl⟩ (Nat.le_of_ble_eq_true rfl) (fun _ _ _ h => h.elim) (fun v3 L3 G3 hp3 => ?_)
    obtain ⟨rfl, f3, h3⟩ := hp3
    obtain ⟨w, rfl⟩ : ∃ w, v3 = some (.int (iI w)) := by rcases h3 with ⟨_, e, _⟩ | ⟨_, e, _⟩ <;> exact ⟨_, e⟩
    exact z_iret hZ rfl (Nat.le_of_ble_eq_true rfl) (Nat.le_of_ble_eq_true rfl) dX8_rub_6 (by exact ⟨rfl, f3, h3⟩)
  exact hgo
set_option maxRecDepth 100000 in
set_option maxHeartbeats 4000000 in
theorem m_X8_swap (l : Launch) {L : List Nat} {F : Nat → PE} {x a q c : Nat} {g : Int → Int} {sv th kd n pt tm sg : Int} {kp bf : Int → Int} (o : mo L F x a q c g sv th kd n pt tm sg kp bf) (v : vf (cpy g 0 9) kd) (hs : 0 ≤ sv ∧ sv ≤ 6) : PM l yX8_swap cX8_swap 1 (some .int) (rm 10 0 0) L [.ref x] F (fun v9 L1 F1 => aQ 17 L F x a q c g sv kd n pt tm sg kp bf v9 L1 F1) (fun _ _ _ => False) := by
  refine pm_of cd_X8_swap (by decide +kernel) (Nat.le_of_ble_eq_true rfl) (fun ZZ hZ => ?_)
  have hgo : ZZ 0 0 0 [some (.ref x)] [] L F := by
    have z := m_X8_acts l (d := 17) o v hs (by omega)
    rw [show dI 17 = 115 from rfl] at z
    have hx := o.1.1.1
    have hF := o.2.1
    refine z_aload_n0 hZ dX8_swap_0 ?_
    refine z_bipush hZ dX8_swap_1 rfl ?_
    refine z_cV hZ (As := [_]) rfl dX8_swap_3 ml_X8_153 wy_X8_acts (z) (by assumption) (by assumption) rfl ⟨Nat.le_of_ble_eq_true rfl, Nat.le_of_ble_eq_true rfl⟩ ⟨Nat.le_of_ble_eq_true rfl, Nat.le_of_ble_eq_true rfl⟩ (Nat.le_of_ble_eq_true rfl) (fun _ _ _ h => h.elim) (fun v3 L3 G3 hp3 => ?_)
    obtain ⟨rfl, f3, h3⟩ := hp3
    obtain ⟨w, rfl⟩ : ∃ w, v3 = some (.int (iI w)) := by rcases h3 with ⟨_, e, _⟩ | ⟨_, e, _⟩ <;> exact ⟨_, e⟩
    exact z_iret hZ rfl (Nat.le_of_ble_eq_true rfl) (Nat.le_of_ble_eq_true rfl) dX8_swap_6 (by exact ⟨rfl, f3, h3⟩)
  exact hgo
set_option maxRecDepth 100000 in
set_option maxHeartbeats 4000000 in
theorem m_X8_greaten (l : Launch) {L : List Nat} {F : Nat → PE} {x a q c : Nat} {g : Int → Int} {sv th kd n pt tm sg : Int} {kp bf : Int → Int} (o : mo L F x a q c g sv th kd n pt tm sg kp bf) (v : vf (cpy g 0 9) kd) (hs : 0 ≤ sv ∧ sv ≤ 6) : PM l yX8_greaten cX8_greaten 1 (some .int) (rm 10 0 0) L [.ref x] F (fun v9 L1 F1 => aQ 18 L F x a q c g sv kd n pt tm sg kp bf v9 L1 F1) (fun _ _ _ => False) := by
  refine pm_of cd_X8_greaten (by decide +kernel) (Nat.le_of_ble_eq_true rfl) (fun ZZ hZ => ?_)
  have hgo : ZZ 0 0 0 [some (.ref x)] [] L F := by
    have z := m_X8_acts l (d := 18) o v hs (by omega)
    rw [show dI 18 = 103 from rfl] at z
    have hx := o.1.1.1
    have hF := o.2.1
    refine z_aload_n0 hZ dX8_greaten_0 ?_
    refine z_bipush hZ dX8_greaten_1 rfl ?_
    refine z_cV hZ (As := [_]) rfl dX8_greaten_3 ml_X8_153 wy_X8_acts (z) (by assumption) (by assumption) rfl ⟨Nat.le_of_ble_eq_true rfl, Nat.le_of_ble_eq_true rfl⟩ ⟨Nat.le_of_ble_eq_true rfl, Nat.le_of_ble_eq_true rfl⟩ (Nat.le_of_ble_eq_true rfl) (fun _ _ _ h => h.elim) (fun v3 L3 G3 hp3 => ?_)
    obtain ⟨rfl, f3, h3⟩ := hp3
    obtain ⟨w, rfl⟩ : ∃ w, v3 = some (.int (iI w)) := by rcases h3 with ⟨_, e, _⟩ | ⟨_, e, _⟩ <;> exact ⟨_, e⟩
    exact z_iret hZ rfl (Nat.le_of_ble_eq_true rfl) (Nat.le_of_ble_eq_true rfl) dX8_greaten_6 (by exact ⟨rfl, f3, h3⟩)
  exact hgo
set_option maxRecDepth 100000 in
set_option maxHeartbeats 4000000 in
theorem m_X8_wordOn (l : Launch) {L : List Nat} {F : Nat → PE} {x a q c : Nat} {g : Int → Int} {sv th kd n pt tm sg : Int} {kp bf : Int → Int} (o : mo L F x a q c g sv th kd n pt tm sg kp bf) (v : vf (cpy g 0 9) kd) (hs : 0 ≤ sv ∧ sv ≤ 6) : PM l yX8_wordOn cX8_wordOn 1 (some .int) (rm 10 0 0) L [.ref x] F (fun v9 L1 F1 => aQ 2 L F x a q c g sv kd n pt tm sg kp bf v9 L1 F1) (fun _ _ _ => False) := by
  refine pm_of cd_X8_wordOn (by decide +kernel) (Nat.le_of_ble_eq_true rfl) (fun ZZ hZ => ?_)
  have hgo : ZZ 0 0 0 [some (.ref x)] [] L F := by
    have z := m_X8_acts l (d := 2) o v hs (by omega)
    rw [show dI 2 = 70 from rfl] at z
    have hx := o.1.1.1
    have hF := o.2.1
    refine z_aload_n0 hZ dX8_wordOn_0 ?_
    refine z_bipush hZ dX8_wordOn_1 rfl ?_
    refine z_cV hZ (As := [_]) rfl dX8_wordOn_3 ml_X8_153 wy_X8_acts (z) (by assumption) (by assumption) rfl ⟨Nat.le_of_ble_eq_true rfl, Nat.le_of_ble_eq_true rfl⟩ ⟨Nat.le_of_ble_eq_true rfl, Nat.le_of_ble_eq_true rfl⟩ (Nat.le_of_ble_eq_true rfl) (fun _ _ _ h => h.elim) (fun v3 L3 G3 hp3 => ?_)
    obtain ⟨rfl, f3, h3⟩ := hp3
    obtain ⟨w, rfl⟩ : ∃ w, v3 = some (.int (iI w)) := by rcases h3 with ⟨_, e, _⟩ | ⟨_, e, _⟩ <;> exact ⟨_, e⟩
    exact z_iret hZ rfl (Nat.le_of_ble_eq_true rfl) (Nat.le_of_ble_eq_true rfl) dX8_wordOn_6 (by exact ⟨rfl, f3, h3⟩)
  exact hgo
set_option maxRecDepth 100000 in
set_option maxHeartbeats 4000000 in
theorem m_X8_wordBack (l : Launch) {L : List Nat} {F : Nat → PE} {x a q c : Nat} {g : Int → Int} {sv th kd n pt tm sg : Int} {kp bf : Int → Int} (o : mo L F x a q c g sv th kd n pt tm sg kp bf) (v : vf (cpy g 0 9) kd) (hs : 0 ≤ sv ∧ sv ≤ 6) : PM l yX8_wordBack cX8_wordBack 1 (some .int) (rm 10 0 0) L [.ref x] F (fun v9 L1 F1 => aQ 3 L F x a q c g sv kd n pt tm sg kp bf v9 L1 F1) (fun _ _ _ => False) := by
  refine pm_of cd_X8_wordBack (by decide +kernel) (Nat.le_of_ble_eq_true rfl) (fun ZZ hZ => ?_)
  have hgo : ZZ 0 0 0 [some (.ref x)] [] L F := by
    have z := m_X8_acts l (d := 3) o v hs (by omega)
    rw [show dI 3 = 66 from rfl] at z
    have hx := o.1.1.1
    have hF := o.2.1
    refine z_aload_n0 hZ dX8_wordBack_0 ?_
    refine z_bipush hZ dX8_wordBack_1 rfl ?_
    refine z_cV hZ (As := [_]) rfl dX8_wordBack_3 ml_X8_153 wy_X8_acts (z) (by assumption) (by assumption) rfl ⟨Nat.le_of_ble_eq_true rfl, Nat.le_of_ble_eq_true rfl⟩ ⟨Nat.le_of_ble_eq_true rfl, Nat.le_of_ble_eq_true rfl⟩ (Nat.le_of_ble_eq_true rfl) (fun _ _ _ h => h.elim) (fun v3 L3 G3 hp3 => ?_)
    obtain ⟨rfl, f3, h3⟩ := hp3
    obtain ⟨w, rfl⟩ : ∃ w, v3 = some (.int (iI w)) := by rcases h3 with ⟨_, e, _⟩ | ⟨_, e, _⟩ <;> exact ⟨_, e⟩
    exact z_iret hZ rfl (Nat.le_of_ble_eq_true rfl) (Nat.le_of_ble_eq_true rfl) dX8_wordBack_6 (by exact ⟨rfl, f3, h3⟩)
  exact hgo
set_option maxRecDepth 100000 in
set_option maxHeartbeats 4000000 in
theorem m_X8_lineBegin (l : Launch) {L : List Nat} {F : Nat → PE} {x a q c : Nat} {g : Int → Int} {sv th kd n pt tm sg : Int} {kp bf : Int → Int} (o : mo L F x a q c g sv th kd n pt tm sg kp bf) (v : vf (cpy g 0 9) kd) (hs : 0 ≤ sv ∧ sv ≤ 6) : PM l yX8_lineBegin cX8_lineBegin 1 (some .int) (rm 10 0 0) L [.ref x] F (fun v9 L1 F1 => aQ 4 L F x a q c g sv kd n pt tm sg kp bf v9 L1 F1) (fun _ _ _ => False) := by
  refine pm_of cd_X8_lineBegin (by decide +kernel) (Nat.le_of_ble_eq_true rfl) (fun ZZ hZ => ?_)
  have hgo : ZZ 0 0 0 [some (.ref x)] [] L F := by
    have z := m_X8_acts l (d := 4) o v hs (by omega)
    rw [show dI 4 = 97 from rfl] at z
    have hx := o.1.1.1
    have hF := o.2.1
    refine z_aload_n0 hZ dX8_lineBegin_0 ?_
    refine z_bipush hZ dX8_lineBegin_1 rfl ?_
    refine z_cV hZ (As := [_]) rfl dX8_lineBegin_3 ml_X8_153 wy_X8_acts (z) (by assumption) (by assumption) rfl ⟨Nat.le_of_ble_eq_true rfl, Nat.le_of_ble_eq_true rfl⟩ ⟨Nat.le_of_ble_eq_true rfl, Nat.le_of_ble_eq_true rfl⟩ (Nat.le_of_ble_eq_true rfl) (fun _ _ _ h => h.elim) (fun v3 L3 G3 hp3 => ?_)
    obtain ⟨rfl, f3, h3⟩ := hp3
    obtain ⟨w, rfl⟩ : ∃ w, v3 = some (.int (iI w)) := by rcases h3 with ⟨_, e, _⟩ | ⟨_, e, _⟩ <;> exact ⟨_, e⟩
    exact z_iret hZ rfl (Nat.le_of_ble_eq_true rfl) (Nat.le_of_ble_eq_true rfl) dX8_lineBegin_6 (by exact ⟨rfl, f3, h3⟩)
  exact hgo
set_option maxRecDepth 100000 in
set_option maxHeartbeats 4000000 in
theorem m_X8_lineEnd (l : Launch) {L : List Nat} {F : Nat → PE} {x a q c : Nat} {g : Int → Int} {sv th kd n pt tm sg : Int} {kp bf : Int → Int} (o : mo L F x a q c g sv th kd n pt tm sg kp bf) (v : vf (cpy g 0 9) kd) (hs : 0 ≤ sv ∧ sv ≤ 6) : PM l yX8_lineEnd cX8_lineEnd 1 (some .int) (rm 10 0 0) L [.ref x] F (fun v9 L1 F1 => aQ 5 L F x a q c g sv kd n pt tm sg kp bf v9 L1 F1) (fun _ _ _ => False) := by
  refine pm_of cd_X8_lineEnd (by decide +kernel) (Nat.le_of_ble_eq_true rfl) (fun ZZ hZ => ?_)
  have hgo : ZZ 0 0 0 [some (.ref x)] [] L F := by
    have z := m_X8_acts l (d := 5) o v hs (by omega)
    rw [show dI 5 = 101 from rfl] at z
    have hx := o.1.1.1
    have hF := o.2.1
    refine z_aload_n0 hZ dX8_lineEnd_0 ?_
    refine z_bipush hZ dX8_lineEnd_1 rfl ?_
    refine z_cV hZ (As := [_]) rfl dX8_lineEnd_3 ml_X8_153 wy_X8_acts (z) (by assumption) (by assumption) rfl ⟨Nat.le_of_ble_eq_true rfl, Nat.le_of_ble_eq_true rfl⟩ ⟨Nat.le_of_ble_eq_true rfl, Nat.le_of_ble_eq_true rfl⟩ (Nat.le_of_ble_eq_true rfl) (fun _ _ _ h => h.elim) (fun v3 L3 G3 hp3 => ?_)
    obtain ⟨rfl, f3, h3⟩ := hp3
    obtain ⟨w, rfl⟩ : ∃ w, v3 = some (.int (iI w)) := by rcases h3 with ⟨_, e, _⟩ | ⟨_, e, _⟩ <;> exact ⟨_, e⟩
    exact z_iret hZ rfl (Nat.le_of_ble_eq_true rfl) (Nat.le_of_ble_eq_true rfl) dX8_lineEnd_6 (by exact ⟨rfl, f3, h3⟩)
  exact hgo
set_option maxRecDepth 100000 in
set_option maxHeartbeats 4000000 in
theorem m_X8_mark (l : Launch) {L : List Nat} {F : Nat → PE} {x a q c : Nat} {g : Int → Int} {sv th kd n pt tm sg : Int} {kp bf : Int → Int} (o : mo L F x a q c g sv th kd n pt tm sg kp bf) (v : vf (cpy g 0 9) kd) (hs : 0 ≤ sv ∧ sv ≤ 6) : PM l yX8_mark cX8_mark 1 (some .int) (rm 10 0 0) L [.ref x] F (fun v9 L1 F1 => aQ 6 L F x a q c g sv kd n pt tm sg kp bf v9 L1 F1) (fun _ _ _ => False) := by
  refine pm_of cd_X8_mark (by decide +kernel) (Nat.le_of_ble_eq_true rfl) (fun ZZ hZ => ?_)
  have hgo : ZZ 0 0 0 [some (.ref x)] [] L F := by
    have z := m_X8_acts l (d := 6) o v hs (by omega)
    rw [show dI 6 = 109 from rfl] at z
    have hx := o.1.1.1
    have hF := o.2.1
    refine z_aload_n0 hZ dX8_mark_0 ?_
    refine z_bipush hZ dX8_mark_1 rfl ?_
    refine z_cV hZ (As := [_]) rfl dX8_mark_3 ml_X8_153 wy_X8_acts (z) (by assumption) (by assumption) rfl ⟨Nat.le_of_ble_eq_true rfl, Nat.le_of_ble_eq_true rfl⟩ ⟨Nat.le_of_ble_eq_true rfl, Nat.le_of_ble_eq_true rfl⟩ (Nat.le_of_ble_eq_true rfl) (fun _ _ _ h => h.elim) (fun v3 L3 G3 hp3 => ?_)
    obtain ⟨rfl, f3, h3⟩ := hp3
    obtain ⟨w, rfl⟩ : ∃ w, v3 = some (.int (iI w)) := by rcases h3 with ⟨_, e, _⟩ | ⟨_, e, _⟩ <;> exact ⟨_, e⟩
    exact z_iret hZ rfl (Nat.le_of_ble_eq_true rfl) (Nat.le_of_ble_eq_true rfl) dX8_mark_6 (by exact ⟨rfl, f3, h3⟩)
  exact hgo
set_option maxRecDepth 100000 in
set_option maxHeartbeats 4000000 in
theorem m_X8_exchange (l : Launch) {L : List Nat} {F : Nat → PE} {x a q c : Nat} {g : Int → Int} {sv th kd n pt tm sg : Int} {kp bf : Int → Int} (o : mo L F x a q c g sv th kd n pt tm sg kp bf) (v : vf (cpy g 0 9) kd) (hs : 0 ≤ sv ∧ sv ≤ 6) : PM l yX8_exchange cX8_exchange 1 (some .int) (rm 10 0 0) L [.ref x] F (fun v9 L1 F1 => aQ 7 L F x a q c g sv kd n pt tm sg kp bf v9 L1 F1) (fun _ _ _ => False) := by
  refine pm_of cd_X8_exchange (by decide +kernel) (Nat.le_of_ble_eq_true rfl) (fun ZZ hZ => ?_)
  have hgo : ZZ 0 0 0 [some (.ref x)] [] L F := by
    have z := m_X8_acts l (d := 7) o v hs (by omega)
    rw [show dI 7 = 120 from rfl] at z
    have hx := o.1.1.1
    have hF := o.2.1
    refine z_aload_n0 hZ dX8_exchange_0 ?_
    refine z_bipush hZ dX8_exchange_1 rfl ?_
    refine z_cV hZ (As := [_]) rfl dX8_exchange_3 ml_X8_153 wy_X8_acts (z) (by assumption) (by assumption) rfl ⟨Nat.le_of_ble_eq_true rfl, Nat.le_of_ble_eq_true rfl⟩ ⟨Nat.le_of_ble_eq_true rfl, Nat.le_of_ble_eq_true rfl⟩ (Nat.le_of_ble_eq_true rfl) (fun _ _ _ h => h.elim) (fun v3 L3 G3 hp3 => ?_)
    obtain ⟨rfl, f3, h3⟩ := hp3
    obtain ⟨w, rfl⟩ : ∃ w, v3 = some (.int (iI w)) := by rcases h3 with ⟨_, e, _⟩ | ⟨_, e, _⟩ <;> exact ⟨_, e⟩
    exact z_iret hZ rfl (Nat.le_of_ble_eq_true rfl) (Nat.le_of_ble_eq_true rfl) dX8_exchange_6 (by exact ⟨rfl, f3, h3⟩)
  exact hgo
set_option maxRecDepth 100000 in
set_option maxHeartbeats 4000000 in
theorem m_X8_killWord (l : Launch) {L : List Nat} {F : Nat → PE} {x a q c : Nat} {g : Int → Int} {sv th kd n pt tm sg : Int} {kp bf : Int → Int} (o : mo L F x a q c g sv th kd n pt tm sg kp bf) (v : vf (cpy g 0 9) kd) (hs : 0 ≤ sv ∧ sv ≤ 6) : PM l yX8_killWord cX8_killWord 1 (some .int) (rm 10 0 0) L [.ref x] F (fun v9 L1 F1 => aQ 8 L F x a q c g sv kd n pt tm sg kp bf v9 L1 F1) (fun _ _ _ => False) := by
  refine pm_of cd_X8_killWord (by decide +kernel) (Nat.le_of_ble_eq_true rfl) (fun ZZ hZ => ?_)
  have hgo : ZZ 0 0 0 [some (.ref x)] [] L F := by
    have z := m_X8_acts l (d := 8) o v hs (by omega)
    rw [show dI 8 = 119 from rfl] at z
    have hx := o.1.1.1
    have hF := o.2.1
    refine z_aload_n0 hZ dX8_killWord_0 ?_
    refine z_bipush hZ dX8_killWord_1 rfl ?_
    refine z_cV hZ (As := [_]) rfl dX8_killWord_3 ml_X8_153 wy_X8_acts (z) (by assumption) (by assumption) rfl ⟨Nat.le_of_ble_eq_true rfl, Nat.le_of_ble_eq_true rfl⟩ ⟨Nat.le_of_ble_eq_true rfl, Nat.le_of_ble_eq_true rfl⟩ (Nat.le_of_ble_eq_true rfl) (fun _ _ _ h => h.elim) (fun v3 L3 G3 hp3 => ?_)
    obtain ⟨rfl, f3, h3⟩ := hp3
    obtain ⟨w, rfl⟩ : ∃ w, v3 = some (.int (iI w)) := by rcases h3 with ⟨_, e, _⟩ | ⟨_, e, _⟩ <;> exact ⟨_, e⟩
    exact z_iret hZ rfl (Nat.le_of_ble_eq_true rfl) (Nat.le_of_ble_eq_true rfl) dX8_killWord_6 (by exact ⟨rfl, f3, h3⟩)
  exact hgo
set_option maxRecDepth 100000 in
set_option maxHeartbeats 4000000 in
theorem m_X8_killBack (l : Launch) {L : List Nat} {F : Nat → PE} {x a q c : Nat} {g : Int → Int} {sv th kd n pt tm sg : Int} {kp bf : Int → Int} (o : mo L F x a q c g sv th kd n pt tm sg kp bf) (v : vf (cpy g 0 9) kd) (hs : 0 ≤ sv ∧ sv ≤ 6) : PM l yX8_killBack cX8_killBack 1 (some .int) (rm 10 0 0) L [.ref x] F (fun v9 L1 F1 => aQ 9 L F x a q c g sv kd n pt tm sg kp bf v9 L1 F1) (fun _ _ _ => False) := by
  refine pm_of cd_X8_killBack (by decide +kernel) (Nat.le_of_ble_eq_true rfl) (fun ZZ hZ => ?_)
  have hgo : ZZ 0 0 0 [some (.ref x)] [] L F := by
    have z := m_X8_acts l (d := 9) o v hs (by omega)
    rw [show dI 9 = 87 from rfl] at z
    have hx := o.1.1.1
    have hF := o.2.1
    refine z_aload_n0 hZ dX8_killBack_0 ?_
    refine z_bipush hZ dX8_killBack_1 rfl ?_
    refine z_cV hZ (As := [_]) rfl dX8_killBack_3 ml_X8_153 wy_X8_acts (z) (by assumption) (by assumption) rfl ⟨Nat.le_of_ble_eq_true rfl, Nat.le_of_ble_eq_true rfl⟩ ⟨Nat.le_of_ble_eq_true rfl, Nat.le_of_ble_eq_true rfl⟩ (Nat.le_of_ble_eq_true rfl) (fun _ _ _ h => h.elim) (fun v3 L3 G3 hp3 => ?_)
    obtain ⟨rfl, f3, h3⟩ := hp3
    obtain ⟨w, rfl⟩ : ∃ w, v3 = some (.int (iI w)) := by rcases h3 with ⟨_, e, _⟩ | ⟨_, e, _⟩ <;> exact ⟨_, e⟩
    exact z_iret hZ rfl (Nat.le_of_ble_eq_true rfl) (Nat.le_of_ble_eq_true rfl) dX8_killBack_6 (by exact ⟨rfl, f3, h3⟩)
  exact hgo
set_option maxRecDepth 100000 in
set_option maxHeartbeats 4000000 in
theorem m_X8_killLine (l : Launch) {L : List Nat} {F : Nat → PE} {x a q c : Nat} {g : Int → Int} {sv th kd n pt tm sg : Int} {kp bf : Int → Int} (o : mo L F x a q c g sv th kd n pt tm sg kp bf) (v : vf (cpy g 0 9) kd) (hs : 0 ≤ sv ∧ sv ≤ 6) : PM l yX8_killLine cX8_killLine 1 (some .int) (rm 10 0 0) L [.ref x] F (fun v9 L1 F1 => aQ 10 L F x a q c g sv kd n pt tm sg kp bf v9 L1 F1) (fun _ _ _ => False) := by
  refine pm_of cd_X8_killLine (by decide +kernel) (Nat.le_of_ble_eq_true rfl) (fun ZZ hZ => ?_)
  have hgo : ZZ 0 0 0 [some (.ref x)] [] L F := by
    have z := m_X8_acts l (d := 10) o v hs (by omega)
    rw [show dI 10 = 107 from rfl] at z
    have hx := o.1.1.1
    have hF := o.2.1
    refine z_aload_n0 hZ dX8_killLine_0 ?_
    refine z_bipush hZ dX8_killLine_1 rfl ?_
    refine z_cV hZ (As := [_]) rfl dX8_killLine_3 ml_X8_153 wy_X8_acts (z) (by assumption) (by assumption) rfl ⟨Nat.le_of_ble_eq_true rfl, Nat.le_of_ble_eq_true rfl⟩ ⟨Nat.le_of_ble_eq_true rfl, Nat.le_of_ble_eq_true rfl⟩ (Nat.le_of_ble_eq_true rfl) (fun _ _ _ h => h.elim) (fun v3 L3 G3 hp3 => ?_)
    obtain ⟨rfl, f3, h3⟩ := hp3
    obtain ⟨w, rfl⟩ : ∃ w, v3 = some (.int (iI w)) := by rcases h3 with ⟨_, e, _⟩ | ⟨_, e, _⟩ <;> exact ⟨_, e⟩
    exact z_iret hZ rfl (Nat.le_of_ble_eq_true rfl) (Nat.le_of_ble_eq_true rfl) dX8_killLine_6 (by exact ⟨rfl, f3, h3⟩)
  exact hgo
set_option maxRecDepth 100000 in
set_option maxHeartbeats 4000000 in
theorem m_X8_killBetween (l : Launch) {L : List Nat} {F : Nat → PE} {x a q c : Nat} {g : Int → Int} {sv th kd n pt tm sg : Int} {kp bf : Int → Int} (o : mo L F x a q c g sv th kd n pt tm sg kp bf) (v : vf (cpy g 0 9) kd) (hs : 0 ≤ sv ∧ sv ≤ 6) : PM l yX8_killBetween cX8_killBetween 1 (some .int) (rm 10 0 0) L [.ref x] F (fun v9 L1 F1 => aQ 11 L F x a q c g sv kd n pt tm sg kp bf v9 L1 F1) (fun _ _ _ => False) := by
  refine pm_of cd_X8_killBetween (by decide +kernel) (Nat.le_of_ble_eq_true rfl) (fun ZZ hZ => ?_)
  have hgo : ZZ 0 0 0 [some (.ref x)] [] L F := by
    have z := m_X8_acts l (d := 11) o v hs (by omega)
    rw [show dI 11 = 114 from rfl] at z
    have hx := o.1.1.1
    have hF := o.2.1
    refine z_aload_n0 hZ dX8_killBetween_0 ?_
    refine z_bipush hZ dX8_killBetween_1 rfl ?_
    refine z_cV hZ (As := [_]) rfl dX8_killBetween_3 ml_X8_153 wy_X8_acts (z) (by assumption) (by assumption) rfl ⟨Nat.le_of_ble_eq_true rfl, Nat.le_of_ble_eq_true rfl⟩ ⟨Nat.le_of_ble_eq_true rfl, Nat.le_of_ble_eq_true rfl⟩ (Nat.le_of_ble_eq_true rfl) (fun _ _ _ h => h.elim) (fun v3 L3 G3 hp3 => ?_)
    obtain ⟨rfl, f3, h3⟩ := hp3
    obtain ⟨w, rfl⟩ : ∃ w, v3 = some (.int (iI w)) := by rcases h3 with ⟨_, e, _⟩ | ⟨_, e, _⟩ <;> exact ⟨_, e⟩
    exact z_iret hZ rfl (Nat.le_of_ble_eq_true rfl) (Nat.le_of_ble_eq_true rfl) dX8_killBetween_6 (by exact ⟨rfl, f3, h3⟩)
  exact hgo
set_option maxRecDepth 100000 in
set_option maxHeartbeats 4000000 in
theorem m_X8_copyBetween (l : Launch) {L : List Nat} {F : Nat → PE} {x a q c : Nat} {g : Int → Int} {sv th kd n pt tm sg : Int} {kp bf : Int → Int} (o : mo L F x a q c g sv th kd n pt tm sg kp bf) (v : vf (cpy g 0 9) kd) (hs : 0 ≤ sv ∧ sv ≤ 6) : PM l yX8_copyBetween cX8_copyBetween 1 (some .int) (rm 10 0 0) L [.ref x] F (fun v9 L1 F1 => aQ 12 L F x a q c g sv kd n pt tm sg kp bf v9 L1 F1) (fun _ _ _ => False) := by
  refine pm_of cd_X8_copyBetween (by decide +kernel) (Nat.le_of_ble_eq_true rfl) (fun ZZ hZ => ?_)
  have hgo : ZZ 0 0 0 [some (.ref x)] [] L F := by
    have z := m_X8_acts l (d := 12) o v hs (by omega)
    rw [show dI 12 = 99 from rfl] at z
    have hx := o.1.1.1
    have hF := o.2.1
    refine z_aload_n0 hZ dX8_copyBetween_0 ?_
    refine z_bipush hZ dX8_copyBetween_1 rfl ?_
    refine z_cV hZ (As := [_]) rfl dX8_copyBetween_3 ml_X8_153 wy_X8_acts (z) (by assumption) (by assumption) rfl ⟨Nat.le_of_ble_eq_true rfl, Nat.le_of_ble_eq_true rfl⟩ ⟨Nat.le_of_ble_eq_true rfl, Nat.le_of_ble_eq_true rfl⟩ (Nat.le_of_ble_eq_true rfl) (fun _ _ _ h => h.elim) (fun v3 L3 G3 hp3 => ?_)
    obtain ⟨rfl, f3, h3⟩ := hp3
    obtain ⟨w, rfl⟩ : ∃ w, v3 = some (.int (iI w)) := by rcases h3 with ⟨_, e, _⟩ | ⟨_, e, _⟩ <;> exact ⟨_, e⟩
    exact z_iret hZ rfl (Nat.le_of_ble_eq_true rfl) (Nat.le_of_ble_eq_true rfl) dX8_copyBetween_6 (by exact ⟨rfl, f3, h3⟩)
  exact hgo
set_option maxRecDepth 100000 in
set_option maxHeartbeats 4000000 in
theorem m_X8_yank (l : Launch) {L : List Nat} {F : Nat → PE} {x a q c : Nat} {g : Int → Int} {sv th kd n pt tm sg : Int} {kp bf : Int → Int} (o : mo L F x a q c g sv th kd n pt tm sg kp bf) (v : vf (cpy g 0 9) kd) (hs : 0 ≤ sv ∧ sv ≤ 6) : PM l yX8_yank cX8_yank 1 (some .int) (rm 10 0 0) L [.ref x] F (fun v9 L1 F1 => aQ 13 L F x a q c g sv kd n pt tm sg kp bf v9 L1 F1) (fun _ _ _ => False) := by
  refine pm_of cd_X8_yank (by decide +kernel) (Nat.le_of_ble_eq_true rfl) (fun ZZ hZ => ?_)
  have hgo : ZZ 0 0 0 [some (.ref x)] [] L F := by
    have z := m_X8_acts l (d := 13) o v hs (by omega)
    rw [show dI 13 = 121 from rfl] at z
    have hx := o.1.1.1
    have hF := o.2.1
    refine z_aload_n0 hZ dX8_yank_0 ?_
    refine z_bipush hZ dX8_yank_1 rfl ?_
    refine z_cV hZ (As := [_]) rfl dX8_yank_3 ml_X8_153 wy_X8_acts (z) (by assumption) (by assumption) rfl ⟨Nat.le_of_ble_eq_true rfl, Nat.le_of_ble_eq_true rfl⟩ ⟨Nat.le_of_ble_eq_true rfl, Nat.le_of_ble_eq_true rfl⟩ (Nat.le_of_ble_eq_true rfl) (fun _ _ _ h => h.elim) (fun v3 L3 G3 hp3 => ?_)
    obtain ⟨rfl, f3, h3⟩ := hp3
    obtain ⟨w, rfl⟩ : ∃ w, v3 = some (.int (iI w)) := by rcases h3 with ⟨_, e, _⟩ | ⟨_, e, _⟩ <;> exact ⟨_, e⟩
    exact z_iret hZ rfl (Nat.le_of_ble_eq_true rfl) (Nat.le_of_ble_eq_true rfl) dX8_yank_6 (by exact ⟨rfl, f3, h3⟩)
  exact hgo
set_option maxRecDepth 100000 in
set_option maxHeartbeats 4000000 in
theorem m_X8_yankOther (l : Launch) {L : List Nat} {F : Nat → PE} {x a q c : Nat} {g : Int → Int} {sv th kd n pt tm sg : Int} {kp bf : Int → Int} (o : mo L F x a q c g sv th kd n pt tm sg kp bf) (v : vf (cpy g 0 9) kd) (hs : 0 ≤ sv ∧ sv ≤ 6) : PM l yX8_yankOther cX8_yankOther 1 (some .int) (rm 10 0 0) L [.ref x] F (fun v9 L1 F1 => aQ 14 L F x a q c g sv kd n pt tm sg kp bf v9 L1 F1) (fun _ _ _ => False) := by
  refine pm_of cd_X8_yankOther (by decide +kernel) (Nat.le_of_ble_eq_true rfl) (fun ZZ hZ => ?_)
  have hgo : ZZ 0 0 0 [some (.ref x)] [] L F := by
    have z := m_X8_acts l (d := 14) o v hs (by omega)
    rw [show dI 14 = 112 from rfl] at z
    have hx := o.1.1.1
    have hF := o.2.1
    refine z_aload_n0 hZ dX8_yankOther_0 ?_
    refine z_bipush hZ dX8_yankOther_1 rfl ?_
    refine z_cV hZ (As := [_]) rfl dX8_yankOther_3 ml_X8_153 wy_X8_acts (z) (by assumption) (by assumption) rfl ⟨Nat.le_of_ble_eq_true rfl, Nat.le_of_ble_eq_true rfl⟩ ⟨Nat.le_of_ble_eq_true rfl, Nat.le_of_ble_eq_true rfl⟩ (Nat.le_of_ble_eq_true rfl) (fun _ _ _ h => h.elim) (fun v3 L3 G3 hp3 => ?_)
    obtain ⟨rfl, f3, h3⟩ := hp3
    obtain ⟨w, rfl⟩ : ∃ w, v3 = some (.int (iI w)) := by rcases h3 with ⟨_, e, _⟩ | ⟨_, e, _⟩ <;> exact ⟨_, e⟩
    exact z_iret hZ rfl (Nat.le_of_ble_eq_true rfl) (Nat.le_of_ble_eq_true rfl) dX8_yankOther_6 (by exact ⟨rfl, f3, h3⟩)
  exact hgo
def bQ (A B : Prop) (r : Int) (N : (Int → Int) → Int → Int) (L : List Nat) (F : Nat → PE) (x a q c : Nat) (g : Int → Int) (sv kd n pt tm sg : Int) (kp bf : Int → Int) (v9 : Option Value) (L1 : List Nat) (F1 : Nat → PE) : Prop := L = L1 ∧ fm x a q c F F1 ∧ ((A ∧ B ∧ v9 = some (.int (iI r)) ∧ ∃ h, svP 0 sv g h ∧ mo L F1 x a q c (N h) (hN sv) 0 0 n pt tm sg kp bf) ∨ (¬ A ∧ v9 = some (.int (iI 0)) ∧ mo L F1 x a q c g sv 1 kd n pt tm sg kp bf) ∨ (A ∧ ¬ B ∧ v9 = some (.int (iI 0)) ∧ mo L F1 x a q c g sv 2 kd n pt tm sg kp bf))
theorem b2_ne {P : Prop} [Decidable P] : b2 P ≠ 0 ↔ P := by
  by_cases h : P
  · rw [b2_t h]; exact ⟨fun _ => h, fun _ => by decide⟩
  · rw [b2_f h]; exact ⟨fun z => absurd rfl z, fun z => absurd z h⟩
theorem bQ.no {A B : Prop} {r : Int} {N : (Int → Int) → Int → Int} {L : List Nat} {F F1 : Nat → PE} {x a q c : Nat} {g : Int → Int} {sv kd n pt tm sg p1 p2 : Int} {kp bf : Int → Int} (h : ¬ goV p1 p2 1 = 0) (e1 : p1 ≠ 0 ↔ A) (e2 : p2 ≠ 0 ↔ B) (fr : fm x a q c F F1) (hA : mA L x a q c)
    (hF : F1 x = eO 8 [.ref a, .int (iI sv), .ref q, .int (iI (goV p1 p2 1)), .int (iI kd), .ref c, .int (iI n), .int (iI pt), .int (iI tm), .int (iI sg)]) (hg : F1 a = eI 0 18180 g) (hQ : F1 q = eI 1 2 kp) (hC : F1 c = eI 2 60 bf) : bQ A B r N L F x a q c g sv kd n pt tm sg kp bf (some (.int (iI 0))) L F1 := by
  refine ⟨rfl, fr, Or.inr ?_⟩
  by_cases q1 : p1 = 0
  · rw [show goV p1 p2 1 = 1 from if_pos q1] at hF
    exact Or.inl ⟨fun z => (e1.mpr z) q1, rfl, hA, hF, hg, hQ, hC⟩
  · have q2 : p2 = 0 := Decidable.byContradiction (fun q2 => h (goV_0.mpr ⟨q1, q2, by decide⟩))
    rw [show goV p1 p2 1 = 2 from (if_neg q1).trans (if_pos q2)] at hF
    exact Or.inr ⟨e1.mp q1, fun z => (e2.mpr z) q2, rfl, hA, hF, hg, hQ, hC⟩
theorem bQ.yes {A B : Prop} {r : Int} {N : (Int → Int) → Int → Int} {L : List Nat} {F F1 : Nat → PE} {x a q c : Nat} {g h9 h : Int → Int} {sv kd n pt tm sg p1 p2 : Int} {kp bf : Int → Int} (h0 : goV p1 p2 1 = 0) (e1 : p1 ≠ 0 ↔ A) (e2 : p2 ≠ 0 ↔ B) (hs : svP 0 sv g h) (eN : h9 = N h) (fr : fm x a q c F F1) (hA : mA L x a q c)
    (hF : F1 x = eO 8 [.ref a, .int (iI (hN sv)), .ref q, .int (iI (goV p1 p2 1)), .int (iI 0), .ref c, .int (iI n), .int (iI pt), .int (iI tm), .int (iI sg)]) (hg : F1 a = eI 0 18180 h9) (hQ : F1 q = eI 1 2 kp) (hC : F1 c = eI 2 60 bf) : bQ A B r N L F x a q c g sv kd n pt tm sg kp bf (some (.int (iI r))) L F1 := by
  have z := goV_0.mp h0
  rw [h0] at hF
  rw [eN] at hg
  exact ⟨rfl, fr, Or.inl ⟨e1.mp z.1, e2.mp z.2.1, rfl, h, hs, hA, hF, hg, hQ, hC⟩⟩
theorem glA_rg {g : Int → Int} {kd z : Int} (v : vf g kd) : -1 ≤ glA g z ∧ glA g z ≤ 200 := by
  have r := v.1
  have rl := lsO_rg (n := g 0) (f := fT g) (p := g 1) (z := z) (by omega) (by omega)
  have rb := lB_rg (n := g 0) (f := fT g) (p := g 1) (by omega)
  have re := lE_rg (n := g 0) (f := fT g) (p := lsO (g 0) (fT g) (g 1) z) rl.2
  unfold glA
  (repeat' split) <;> omega
set_option maxRecDepth 100000 in
set_option maxHeartbeats 4000000 in
theorem m_X8_write (l : Launch) {L : List Nat} {F : Nat → PE} {x a q c : Nat} {g : Int → Int} {sv th kd n pt tm sg : Int} {kp bf : Int → Int} (o : mo L F x a q c g sv th kd n pt tm sg kp bf) (v : vf g kd) (hs : 0 ≤ sv ∧ sv ≤ 6) {y : Int} (hy : -2147483648 ≤ y ∧ y ≤ 2147483647) : PM l yX8_write cX8_write 3 (some .int) (rm 4 0 0) L [.ref x, .int (iI y)] F (fun v9 L1 F1 => bQ (y = 10 ∨ 32 ≤ y ∧ y ≤ 126) (g 0 < 200) (g 0 + 1) (vWr y) L F x a q c g sv kd n pt tm sg kp bf v9 L1 F1) (fun _ _ _ => False) := by
  refine pm_of cd_X8_write (by decide +kernel) (Nat.le_of_ble_eq_true rfl) (fun ZZ hZ => ?_)
  have hgo : ZZ 0 0 0 [some (.ref x), some (.int (iI y)), none] [] L F := by
    obtain ⟨A, hF, hg, hQ, hC⟩ := o
    obtain ⟨⟨hx, ha, hqL, hcL⟩, hxa, hxq, hxc, haq, hac, hqc⟩ := id A
    have t := ms.of hx ha hxa hF hg
    have fr : fm x a q c F F := fm.rf
    have r := v.1
    refine z_iload_n1 hZ dX8_write_0 ?_
    refine z_bipush hZ dX8_write_1 rfl ?_
    refine z_icmp_eq hZ (tgt := 17) dX8_write_3 rfl (by omega) (fun hc3 => ?_) (fun hc3 => ?_)
    · refine z_iconst hZ dX8_write_17 ?_
      refine z_goto hZ (tgt := 22) dX8_write_18 rfl ?_
      refine z_istore_n2 hZ dX8_write_22 (by decide) rfl ?_
      refine z_aload_n0 hZ dX8_write_23 ?_
      refine z_iload_n2 hZ dX8_write_24 ?_
      refine z_aload_n0 hZ dX8_write_25 ?_
      refine z_gf_X8_s hZ dX8_write_26 fl_X8_7 (by assumption) (by assumption) ?_
      refine z_iconst hZ dX8_write_29 ?_
      refine z_iald hZ dX8_write_30 (by assumption) (by assumption) (by omega) (by first | exact (wu_n (by omega)).trans (by first | exact (wu_n (by omega)).trans (by first | exact (wu_n (by omega)).trans (by first | exact (wu_n (by omega)).trans (by first | exact (wu_n (by omega)).trans (by first | exact (wu_n (by omega)).trans (by first | exact if_neg (by omega) | rfl) | exact wu_s | exact wu_e (by omega) | exact if_neg (by omega) | rfl) | exact wu_s | exact wu_e (by omega) | exact if_neg (by omega) | rfl) | exact wu_s | exact wu_e (by omega) | exact if_neg (by omega) | rfl) | exact wu_s | exact wu_e (by omega) | exact if_neg (by omega) | rfl) | exact wu_s | exact wu_e (by omega) | exact if_neg (by omega) | rfl) | exact wu_s | exact wu_e (by omega) | exact if_neg (by omega) | rfl) ?_
      refine z_sipush hZ dX8_write_31 rfl ?_
      refine z_icmp_ge hZ (tgt := 41) dX8_write_34 rfl (by omega) (fun hc34 => ?_) (fun hc34 => ?_)
      · refine z_iconst hZ dX8_write_41 ?_
        refine z_iconst hZ dX8_write_42 ?_
        refine z_cV hZ (As := [_, _, _]) rfl dX8_write_43 ml_X8_146 wy_X8_goes (m_X8_goes l hx hF (by first | exact b2_in _ | omega) (by first | exact b2_in _ | omega) (by first | exact b2_in _ | omega)) (by assumption) (by assumption) rfl ⟨Nat.le_of_ble_eq_true rfl, Nat.le_of_ble_eq_true rfl⟩ ⟨Nat.le_of_ble_eq_true rfl, Nat.le_of_ble_eq_true rfl⟩ (Nat.le_of_ble_eq_true rfl) (fun _ _ _ h => h.elim) (fun v43 L43 G43 hp43 => ?_)
        obtain ⟨rfl, rfl, hF, f43⟩ := hp43
        have hF := hF
        have hg := (f43 a (Ne.symm hxa)).trans hg
        have hQ := (f43 q (Ne.symm hxq)).trans hQ
        have hC := (f43 c (Ne.symm hxc)).trans hC
        have t := ms.of hx ha hxa hF hg
        have fr := fm.x fr f43
        refine z_if_ne_b hZ (tgt := 51) dX8_write_46 rfl (fun hc46 => ?_) (fun hc46 => ?_)
        · have hz := goV_0.mp hc46
          refine z_aload_n0 hZ dX8_write_51 ?_
          refine z_cV hZ (As := []) rfl dX8_write_52 ml_X8_150 wy_X8_saves (m_X8_saves l hx ha hxa hF hg hs) (by assumption) (by assumption) rfl ⟨Nat.le_of_ble_eq_true rfl, Nat.le_of_ble_eq_true rfl⟩ ⟨Nat.le_of_ble_eq_true rfl, Nat.le_of_ble_eq_true rfl⟩ (Nat.le_of_ble_eq_true rfl) (fun _ _ _ h => h.elim) (fun v52 L52 G52 hp52 => ?_)
          obtain ⟨rfl, rfl, ⟨h, hsv, hg⟩, hF, f52⟩ := hp52
          have hQ := (f52 q (Ne.symm hxq) (Ne.symm haq)).trans hQ
          have hC := (f52 c (Ne.symm hxc) (Ne.symm hac)).trans hC
          have fr := fm.xa fr f52
          have t := ms.of hx ha hxa hF hg
          have e0 := hsv.1 0 (by omega) (by omega)
          have e1 := hsv.1 1 (by omega) (by omega)
          have e2 := hsv.1 2 (by omega) (by omega)
          have e3 := hsv.1 3 (by omega) (by omega)
          have e4 := hsv.1 4 (by omega) (by omega)
          have e5 := hsv.1 5 (by omega) (by omega)
          refine z_aload_n0 hZ dX8_write_55 ?_
          refine z_iconst hZ dX8_write_56 ?_
          refine z_pf_X8_kind hZ dX8_write_57 fl_X8_67 (by assumption) (by assumption) (fun F57 hF57 hf57 => ?_)
          have hF := hF57
          have hg := (hf57 a (Ne.symm hxa)).trans hg
          have hQ := (hf57 q (Ne.symm hxq)).trans hQ
          have hC := (hf57 c (Ne.symm hxc)).trans hC
          have t := ms.of hx ha hxa hF hg
          have fr := fm.x fr hf57
          refine z_aload_n0 hZ dX8_write_60 ?_
          refine z_iload_n1 hZ dX8_write_61 ?_
          refine z_cV hZ (As := [_]) rfl dX8_write_62 ml_X8_134 wy_X8_writes (m_X8_writes l t (by omega)) (by assumption) (by assumption) rfl ⟨Nat.le_of_ble_eq_true rfl, Nat.le_of_ble_eq_true rfl⟩ ⟨Nat.le_of_ble_eq_true rfl, Nat.le_of_ble_eq_true rfl⟩ (Nat.le_of_ble_eq_true rfl) (fun _ _ _ h => h.elim) (fun v62 L62 G62 hp62 => ?_)
          obtain ⟨rfl, rfl, hg, f62⟩ := hp62
          have hF := (f62 x hxa).trans hF
          have hQ := (f62 q (Ne.symm haq)).trans hQ
          have hC := (f62 c (Ne.symm hac)).trans hC
          have fr := fm.a fr f62
          first
            | (exfalso; omega)
            | (rw [if_pos (by omega)] at hg ⊢
               rw [e0]
               exact z_iret hZ rfl (Nat.le_of_ble_eq_true rfl) (Nat.le_of_ble_eq_true rfl) dX8_write_65 (bQ.yes hc46 (by first | exact b2_ne | omega) (by first | exact b2_ne | omega) hsv rfl fr A hF hg hQ hC))
        · have hz : ¬ _ := fun z => hc46 (goV_0.mpr z)
          refine z_iconst hZ dX8_write_49 ?_
          exact z_iret hZ rfl (Nat.le_of_ble_eq_true rfl) (Nat.le_of_ble_eq_true rfl) dX8_write_50 (by
            first
              | (exfalso; omega)
              | exact bQ.no hc46 (by first | exact b2_ne | omega) (by first | exact b2_ne | omega) fr A hF hg hQ hC)
      · refine z_iconst hZ dX8_write_37 ?_
        refine z_goto hZ (tgt := 42) dX8_write_38 rfl ?_
        refine z_iconst hZ dX8_write_42 ?_
        refine z_cV hZ (As := [_, _, _]) rfl dX8_write_43 ml_X8_146 wy_X8_goes (m_X8_goes l hx hF (by first | exact b2_in _ | omega) (by first | exact b2_in _ | omega) (by first | exact b2_in _ | omega)) (by assumption) (by assumption) rfl ⟨Nat.le_of_ble_eq_true rfl, Nat.le_of_ble_eq_true rfl⟩ ⟨Nat.le_of_ble_eq_true rfl, Nat.le_of_ble_eq_true rfl⟩ (Nat.le_of_ble_eq_true rfl) (fun _ _ _ h => h.elim) (fun v43 L43 G43 hp43 => ?_)
        obtain ⟨rfl, rfl, hF, f43⟩ := hp43
        have hF := hF
        have hg := (f43 a (Ne.symm hxa)).trans hg
        have hQ := (f43 q (Ne.symm hxq)).trans hQ
        have hC := (f43 c (Ne.symm hxc)).trans hC
        have t := ms.of hx ha hxa hF hg
        have fr := fm.x fr f43
        refine z_if_ne_b hZ (tgt := 51) dX8_write_46 rfl (fun hc46 => ?_) (fun hc46 => ?_)
        · have hz := goV_0.mp hc46
          refine z_aload_n0 hZ dX8_write_51 ?_
          refine z_cV hZ (As := []) rfl dX8_write_52 ml_X8_150 wy_X8_saves (m_X8_saves l hx ha hxa hF hg hs) (by assumption) (by assumption) rfl ⟨Nat.le_of_ble_eq_true rfl, Nat.le_of_ble_eq_true rfl⟩ ⟨Nat.le_of_ble_eq_true rfl, Nat.le_of_ble_eq_true rfl⟩ (Nat.le_of_ble_eq_true rfl) (fun _ _ _ h => h.elim) (fun v52 L52 G52 hp52 => ?_)
          obtain ⟨rfl, rfl, ⟨h, hsv, hg⟩, hF, f52⟩ := hp52
          have hQ := (f52 q (Ne.symm hxq) (Ne.symm haq)).trans hQ
          have hC := (f52 c (Ne.symm hxc) (Ne.symm hac)).trans hC
          have fr := fm.xa fr f52
          have t := ms.of hx ha hxa hF hg
          have e0 := hsv.1 0 (by omega) (by omega)
          have e1 := hsv.1 1 (by omega) (by omega)
          have e2 := hsv.1 2 (by omega) (by omega)
          have e3 := hsv.1 3 (by omega) (by omega)
          have e4 := hsv.1 4 (by omega) (by omega)
          have e5 := hsv.1 5 (by omega) (by omega)
          refine z_aload_n0 hZ dX8_write_55 ?_
          refine z_iconst hZ dX8_write_56 ?_
          refine z_pf_X8_kind hZ dX8_write_57 fl_X8_67 (by assumption) (by assumption) (fun F57 hF57 hf57 => ?_)
          have hF := hF57
          have hg := (hf57 a (Ne.symm hxa)).trans hg
          have hQ := (hf57 q (Ne.symm hxq)).trans hQ
          have hC := (hf57 c (Ne.symm hxc)).trans hC
          have t := ms.of hx ha hxa hF hg
          have fr := fm.x fr hf57
          refine z_aload_n0 hZ dX8_write_60 ?_
          refine z_iload_n1 hZ dX8_write_61 ?_
          refine z_cV hZ (As := [_]) rfl dX8_write_62 ml_X8_134 wy_X8_writes (m_X8_writes l t (by omega)) (by assumption) (by assumption) rfl ⟨Nat.le_of_ble_eq_true rfl, Nat.le_of_ble_eq_true rfl⟩ ⟨Nat.le_of_ble_eq_true rfl, Nat.le_of_ble_eq_true rfl⟩ (Nat.le_of_ble_eq_true rfl) (fun _ _ _ h => h.elim) (fun v62 L62 G62 hp62 => ?_)
          obtain ⟨rfl, rfl, hg, f62⟩ := hp62
          have hF := (f62 x hxa).trans hF
          have hQ := (f62 q (Ne.symm haq)).trans hQ
          have hC := (f62 c (Ne.symm hac)).trans hC
          have fr := fm.a fr f62
          first
            | (exfalso; omega)
            | (rw [if_pos (by omega)] at hg ⊢
               rw [e0]
               exact z_iret hZ rfl (Nat.le_of_ble_eq_true rfl) (Nat.le_of_ble_eq_true rfl) dX8_write_65 (bQ.yes hc46 (by first | exact b2_ne | omega) (by first | exact b2_ne | omega) hsv rfl fr A hF hg hQ hC))
        · have hz : ¬ _ := fun z => hc46 (goV_0.mpr z)
          refine z_iconst hZ dX8_write_49 ?_
          exact z_iret hZ rfl (Nat.le_of_ble_eq_true rfl) (Nat.le_of_ble_eq_true rfl) dX8_write_50 (by
            first
              | (exfalso; omega)
              | exact bQ.no hc46 (by first | exact b2_ne | omega) (by first | exact b2_ne | omega) fr A hF hg hQ hC)
    · refine z_iload_n1 hZ dX8_write_6 ?_
      refine z_bipush hZ dX8_write_7 rfl ?_
      refine z_bipush hZ dX8_write_9 rfl ?_
      refine z_cS hZ (As := [_, _, _]) rfl dX8_write_11 ml_X8_32 wy_X8_in (m_X8_in l (by omega) (by omega) (by omega)) ⟨Nat.le_of_ble_eq_true rfl, Nat.le_of_ble_eq_true rfl⟩ ⟨Nat.le_of_ble_eq_true rfl, Nat.le_of_ble_eq_true rfl⟩ (Nat.le_of_ble_eq_true rfl) (fun _ _ _ h => h.elim) (fun v11 L11 G11 hp11 => ?_)
      obtain ⟨rfl, rfl, rfl⟩ := hp11
      refine z_if_eq_b hZ (tgt := 21) dX8_write_14 rfl (fun hc14 => ?_) (fun hc14 => ?_)
      · refine z_iconst hZ dX8_write_21 ?_
        refine z_istore_n2 hZ dX8_write_22 (by decide) rfl ?_
        refine z_aload_n0 hZ dX8_write_23 ?_
        refine z_iload_n2 hZ dX8_write_24 ?_
        refine z_aload_n0 hZ dX8_write_25 ?_
        refine z_gf_X8_s hZ dX8_write_26 fl_X8_7 (by assumption) (by assumption) ?_
        refine z_iconst hZ dX8_write_29 ?_
        refine z_iald hZ dX8_write_30 (by assumption) (by assumption) (by omega) (by first | exact (wu_n (by omega)).trans (by first | exact (wu_n (by omega)).trans (by first | exact (wu_n (by omega)).trans (by first | exact (wu_n (by omega)).trans (by first | exact (wu_n (by omega)).trans (by first | exact (wu_n (by omega)).trans (by first | exact if_neg (by omega) | rfl) | exact wu_s | exact wu_e (by omega) | exact if_neg (by omega) | rfl) | exact wu_s | exact wu_e (by omega) | exact if_neg (by omega) | rfl) | exact wu_s | exact wu_e (by omega) | exact if_neg (by omega) | rfl) | exact wu_s | exact wu_e (by omega) | exact if_neg (by omega) | rfl) | exact wu_s | exact wu_e (by omega) | exact if_neg (by omega) | rfl) | exact wu_s | exact wu_e (by omega) | exact if_neg (by omega) | rfl) ?_
        refine z_sipush hZ dX8_write_31 rfl ?_
        refine z_icmp_ge hZ (tgt := 41) dX8_write_34 rfl (by omega) (fun hc34 => ?_) (fun hc34 => ?_)
        · refine z_iconst hZ dX8_write_41 ?_
          refine z_iconst hZ dX8_write_42 ?_
          refine z_cV hZ (As := [_, _, _]) rfl dX8_write_43 ml_X8_146 wy_X8_goes (m_X8_goes l hx hF (by first | exact b2_in _ | omega) (by first | exact b2_in _ | omega) (by first | exact b2_in _ | omega)) (by assumption) (by assumption) rfl ⟨Nat.le_of_ble_eq_true rfl, Nat.le_of_ble_eq_true rfl⟩ ⟨Nat.le_of_ble_eq_true rfl, Nat.le_of_ble_eq_true rfl⟩ (Nat.le_of_ble_eq_true rfl) (fun _ _ _ h => h.elim) (fun v43 L43 G43 hp43 => ?_)
          obtain ⟨rfl, rfl, hF, f43⟩ := hp43
          have hF := hF
          have hg := (f43 a (Ne.symm hxa)).trans hg
          have hQ := (f43 q (Ne.symm hxq)).trans hQ
          have hC := (f43 c (Ne.symm hxc)).trans hC
          have t := ms.of hx ha hxa hF hg
          have fr := fm.x fr f43
          refine z_if_ne_b hZ (tgt := 51) dX8_write_46 rfl (fun hc46 => ?_) (fun hc46 => ?_)
          · have hz := goV_0.mp hc46
            refine z_aload_n0 hZ dX8_write_51 ?_
            refine z_cV hZ (As := []) rfl dX8_write_52 ml_X8_150 wy_X8_saves (m_X8_saves l hx ha hxa hF hg hs) (by assumption) (by assumption) rfl ⟨Nat.le_of_ble_eq_true rfl, Nat.le_of_ble_eq_true rfl⟩ ⟨Nat.le_of_ble_eq_true rfl, Nat.le_of_ble_eq_true rfl⟩ (Nat.le_of_ble_eq_true rfl) (fun _ _ _ h => h.elim) (fun v52 L52 G52 hp52 => ?_)
            obtain ⟨rfl, rfl, ⟨h, hsv, hg⟩, hF, f52⟩ := hp52
            have hQ := (f52 q (Ne.symm hxq) (Ne.symm haq)).trans hQ
            have hC := (f52 c (Ne.symm hxc) (Ne.symm hac)).trans hC
            have fr := fm.xa fr f52
            have t := ms.of hx ha hxa hF hg
            have e0 := hsv.1 0 (by omega) (by omega)
            have e1 := hsv.1 1 (by omega) (by omega)
            have e2 := hsv.1 2 (by omega) (by omega)
            have e3 := hsv.1 3 (by omega) (by omega)
            have e4 := hsv.1 4 (by omega) (by omega)
            have e5 := hsv.1 5 (by omega) (by omega)
            refine z_aload_n0 hZ dX8_write_55 ?_
            refine z_iconst hZ dX8_write_56 ?_
            refine z_pf_X8_kind hZ dX8_write_57 fl_X8_67 (by assumption) (by assumption) (fun F57 hF57 hf57 => ?_)
            have hF := hF57
            have hg := (hf57 a (Ne.symm hxa)).trans hg
            have hQ := (hf57 q (Ne.symm hxq)).trans hQ
            have hC := (hf57 c (Ne.symm hxc)).trans hC
            have t := ms.of hx ha hxa hF hg
            have fr := fm.x fr hf57
            refine z_aload_n0 hZ dX8_write_60 ?_
            refine z_iload_n1 hZ dX8_write_61 ?_
            refine z_cV hZ (As := [_]) rfl dX8_write_62 ml_X8_134 wy_X8_writes (m_X8_writes l t (by omega)) (by assumption) (by assumption) rfl ⟨Nat.le_of_ble_eq_true rfl, Nat.le_of_ble_eq_true rfl⟩ ⟨Nat.le_of_ble_eq_true rfl, Nat.le_of_ble_eq_true rfl⟩ (Nat.le_of_ble_eq_true rfl) (fun _ _ _ h => h.elim) (fun v62 L62 G62 hp62 => ?_)
            obtain ⟨rfl, rfl, hg, f62⟩ := hp62
            have hF := (f62 x hxa).trans hF
            have hQ := (f62 q (Ne.symm haq)).trans hQ
            have hC := (f62 c (Ne.symm hac)).trans hC
            have fr := fm.a fr f62
            first
              | (exfalso; omega)
              | (rw [if_pos (by omega)] at hg ⊢
                 rw [e0]
                 exact z_iret hZ rfl (Nat.le_of_ble_eq_true rfl) (Nat.le_of_ble_eq_true rfl) dX8_write_65 (bQ.yes hc46 (by first | exact b2_ne | omega) (by first | exact b2_ne | omega) hsv rfl fr A hF hg hQ hC))
          · have hz : ¬ _ := fun z => hc46 (goV_0.mpr z)
            refine z_iconst hZ dX8_write_49 ?_
            exact z_iret hZ rfl (Nat.le_of_ble_eq_true rfl) (Nat.le_of_ble_eq_true rfl) dX8_write_50 (by
            first
              | (exfalso; omega)
              | exact bQ.no hc46 (by first | exact b2_ne | omega) (by first | exact b2_ne | omega) fr A hF hg hQ hC)
        · refine z_iconst hZ dX8_write_37 ?_
          refine z_goto hZ (tgt := 42) dX8_write_38 rfl ?_
          refine z_iconst hZ dX8_write_42 ?_
          refine z_cV hZ (As := [_, _, _]) rfl dX8_write_43 ml_X8_146 wy_X8_goes (m_X8_goes l hx hF (by first | exact b2_in _ | omega) (by first | exact b2_in _ | omega) (by first | exact b2_in _ | omega)) (by assumption) (by assumption) rfl ⟨Nat.le_of_ble_eq_true rfl, Nat.le_of_ble_eq_true rfl⟩ ⟨Nat.le_of_ble_eq_true rfl, Nat.le_of_ble_eq_true rfl⟩ (Nat.le_of_ble_eq_true rfl) (fun _ _ _ h => h.elim) (fun v43 L43 G43 hp43 => ?_)
          obtain ⟨rfl, rfl, hF, f43⟩ := hp43
          have hF := hF
          have hg := (f43 a (Ne.symm hxa)).trans hg
          have hQ := (f43 q (Ne.symm hxq)).trans hQ
          have hC := (f43 c (Ne.symm hxc)).trans hC
          have t := ms.of hx ha hxa hF hg
          have fr := fm.x fr f43
          refine z_if_ne_b hZ (tgt := 51) dX8_write_46 rfl (fun hc46 => ?_) (fun hc46 => ?_)
          · have hz := goV_0.mp hc46
            refine z_aload_n0 hZ dX8_write_51 ?_
            refine z_cV hZ (As := []) rfl dX8_write_52 ml_X8_150 wy_X8_saves (m_X8_saves l hx ha hxa hF hg hs) (by assumption) (by assumption) rfl ⟨Nat.le_of_ble_eq_true rfl, Nat.le_of_ble_eq_true rfl⟩ ⟨Nat.le_of_ble_eq_true rfl, Nat.le_of_ble_eq_true rfl⟩ (Nat.le_of_ble_eq_true rfl) (fun _ _ _ h => h.elim) (fun v52 L52 G52 hp52 => ?_)
            obtain ⟨rfl, rfl, ⟨h, hsv, hg⟩, hF, f52⟩ := hp52
            have hQ := (f52 q (Ne.symm hxq) (Ne.symm haq)).trans hQ
            have hC := (f52 c (Ne.symm hxc) (Ne.symm hac)).trans hC
            have fr := fm.xa fr f52
            have t := ms.of hx ha hxa hF hg
            have e0 := hsv.1 0 (by omega) (by omega)
            have e1 := hsv.1 1 (by omega) (by omega)
            have e2 := hsv.1 2 (by omega) (by omega)
            have e3 := hsv.1 3 (by omega) (by omega)
            have e4 := hsv.1 4 (by omega) (by omega)
            have e5 := hsv.1 5 (by omega) (by omega)
            refine z_aload_n0 hZ dX8_write_55 ?_
            refine z_iconst hZ dX8_write_56 ?_
            refine z_pf_X8_kind hZ dX8_write_57 fl_X8_67 (by assumption) (by assumption) (fun F57 hF57 hf57 => ?_)
            have hF := hF57
            have hg := (hf57 a (Ne.symm hxa)).trans hg
            have hQ := (hf57 q (Ne.symm hxq)).trans hQ
            have hC := (hf57 c (Ne.symm hxc)).trans hC
            have t := ms.of hx ha hxa hF hg
            have fr := fm.x fr hf57
            refine z_aload_n0 hZ dX8_write_60 ?_
            refine z_iload_n1 hZ dX8_write_61 ?_
            refine z_cV hZ (As := [_]) rfl dX8_write_62 ml_X8_134 wy_X8_writes (m_X8_writes l t (by omega)) (by assumption) (by assumption) rfl ⟨Nat.le_of_ble_eq_true rfl, Nat.le_of_ble_eq_true rfl⟩ ⟨Nat.le_of_ble_eq_true rfl, Nat.le_of_ble_eq_true rfl⟩ (Nat.le_of_ble_eq_true rfl) (fun _ _ _ h => h.elim) (fun v62 L62 G62 hp62 => ?_)
            obtain ⟨rfl, rfl, hg, f62⟩ := hp62
            have hF := (f62 x hxa).trans hF
            have hQ := (f62 q (Ne.symm haq)).trans hQ
            have hC := (f62 c (Ne.symm hac)).trans hC
            have fr := fm.a fr f62
            first
              | (exfalso; omega)
              | (rw [if_pos (by omega)] at hg ⊢
                 rw [e0]
                 exact z_iret hZ rfl (Nat.le_of_ble_eq_true rfl) (Nat.le_of_ble_eq_true rfl) dX8_write_65 (bQ.yes hc46 (by first | exact b2_ne | omega) (by first | exact b2_ne | omega) hsv rfl fr A hF hg hQ hC))
          · have hz : ¬ _ := fun z => hc46 (goV_0.mpr z)
            refine z_iconst hZ dX8_write_49 ?_
            exact z_iret hZ rfl (Nat.le_of_ble_eq_true rfl) (Nat.le_of_ble_eq_true rfl) dX8_write_50 (by
            first
              | (exfalso; omega)
              | exact bQ.no hc46 (by first | exact b2_ne | omega) (by first | exact b2_ne | omega) fr A hF hg hQ hC)
      · refine z_iconst hZ dX8_write_17 ?_
        refine z_goto hZ (tgt := 22) dX8_write_18 rfl ?_
        refine z_istore_n2 hZ dX8_write_22 (by decide) rfl ?_
        refine z_aload_n0 hZ dX8_write_23 ?_
        refine z_iload_n2 hZ dX8_write_24 ?_
        refine z_aload_n0 hZ dX8_write_25 ?_
        refine z_gf_X8_s hZ dX8_write_26 fl_X8_7 (by assumption) (by assumption) ?_
        refine z_iconst hZ dX8_write_29 ?_
        refine z_iald hZ dX8_write_30 (by assumption) (by assumption) (by omega) (by first | exact (wu_n (by omega)).trans (by first | exact (wu_n (by omega)).trans (by first | exact (wu_n (by omega)).trans (by first | exact (wu_n (by omega)).trans (by first | exact (wu_n (by omega)).trans (by first | exact (wu_n (by omega)).trans (by first | exact if_neg (by omega) | rfl) | exact wu_s | exact wu_e (by omega) | exact if_neg (by omega) | rfl) | exact wu_s | exact wu_e (by omega) | exact if_neg (by omega) | rfl) | exact wu_s | exact wu_e (by omega) | exact if_neg (by omega) | rfl) | exact wu_s | exact wu_e (by omega) | exact if_neg (by omega) | rfl) | exact wu_s | exact wu_e (by omega) | exact if_neg (by omega) | rfl) | exact wu_s | exact wu_e (by omega) | exact if_neg (by omega) | rfl) ?_
        refine z_sipush hZ dX8_write_31 rfl ?_
        refine z_icmp_ge hZ (tgt := 41) dX8_write_34 rfl (by omega) (fun hc34 => ?_) (fun hc34 => ?_)
        · refine z_iconst hZ dX8_write_41 ?_
          refine z_iconst hZ dX8_write_42 ?_
          refine z_cV hZ (As := [_, _, _]) rfl dX8_write_43 ml_X8_146 wy_X8_goes (m_X8_goes l hx hF (by first | exact b2_in _ | omega) (by first | exact b2_in _ | omega) (by first | exact b2_in _ | omega)) (by assumption) (by assumption) rfl ⟨Nat.le_of_ble_eq_true rfl, Nat.le_of_ble_eq_true rfl⟩ ⟨Nat.le_of_ble_eq_true rfl, Nat.le_of_ble_eq_true rfl⟩ (Nat.le_of_ble_eq_true rfl) (fun _ _ _ h => h.elim) (fun v43 L43 G43 hp43 => ?_)
          obtain ⟨rfl, rfl, hF, f43⟩ := hp43
          have hF := hF
          have hg := (f43 a (Ne.symm hxa)).trans hg
          have hQ := (f43 q (Ne.symm hxq)).trans hQ
          have hC := (f43 c (Ne.symm hxc)).trans hC
          have t := ms.of hx ha hxa hF hg
          have fr := fm.x fr f43
          refine z_if_ne_b hZ (tgt := 51) dX8_write_46 rfl (fun hc46 => ?_) (fun hc46 => ?_)
          · have hz := goV_0.mp hc46
            refine z_aload_n0 hZ dX8_write_51 ?_
            refine z_cV hZ (As := []) rfl dX8_write_52 ml_X8_150 wy_X8_saves (m_X8_saves l hx ha hxa hF hg hs) (by assumption) (by assumption) rfl ⟨Nat.le_of_ble_eq_true rfl, Nat.le_of_ble_eq_true rfl⟩ ⟨Nat.le_of_ble_eq_true rfl, Nat.le_of_ble_eq_true rfl⟩ (Nat.le_of_ble_eq_true rfl) (fun _ _ _ h => h.elim) (fun v52 L52 G52 hp52 => ?_)
            obtain ⟨rfl, rfl, ⟨h, hsv, hg⟩, hF, f52⟩ := hp52
            have hQ := (f52 q (Ne.symm hxq) (Ne.symm haq)).trans hQ
            have hC := (f52 c (Ne.symm hxc) (Ne.symm hac)).trans hC
            have fr := fm.xa fr f52
            have t := ms.of hx ha hxa hF hg
            have e0 := hsv.1 0 (by omega) (by omega)
            have e1 := hsv.1 1 (by omega) (by omega)
            have e2 := hsv.1 2 (by omega) (by omega)
            have e3 := hsv.1 3 (by omega) (by omega)
            have e4 := hsv.1 4 (by omega) (by omega)
            have e5 := hsv.1 5 (by omega) (by omega)
            refine z_aload_n0 hZ dX8_write_55 ?_
            refine z_iconst hZ dX8_write_56 ?_
            refine z_pf_X8_kind hZ dX8_write_57 fl_X8_67 (by assumption) (by assumption) (fun F57 hF57 hf57 => ?_)
            have hF := hF57
            have hg := (hf57 a (Ne.symm hxa)).trans hg
            have hQ := (hf57 q (Ne.symm hxq)).trans hQ
            have hC := (hf57 c (Ne.symm hxc)).trans hC
            have t := ms.of hx ha hxa hF hg
            have fr := fm.x fr hf57
            refine z_aload_n0 hZ dX8_write_60 ?_
            refine z_iload_n1 hZ dX8_write_61 ?_
            refine z_cV hZ (As := [_]) rfl dX8_write_62 ml_X8_134 wy_X8_writes (m_X8_writes l t (by omega)) (by assumption) (by assumption) rfl ⟨Nat.le_of_ble_eq_true rfl, Nat.le_of_ble_eq_true rfl⟩ ⟨Nat.le_of_ble_eq_true rfl, Nat.le_of_ble_eq_true rfl⟩ (Nat.le_of_ble_eq_true rfl) (fun _ _ _ h => h.elim) (fun v62 L62 G62 hp62 => ?_)
            obtain ⟨rfl, rfl, hg, f62⟩ := hp62
            have hF := (f62 x hxa).trans hF
            have hQ := (f62 q (Ne.symm haq)).trans hQ
            have hC := (f62 c (Ne.symm hac)).trans hC
            have fr := fm.a fr f62
            first
              | (exfalso; omega)
              | (rw [if_pos (by omega)] at hg ⊢
                 rw [e0]
                 exact z_iret hZ rfl (Nat.le_of_ble_eq_true rfl) (Nat.le_of_ble_eq_true rfl) dX8_write_65 (bQ.yes hc46 (by first | exact b2_ne | omega) (by first | exact b2_ne | omega) hsv rfl fr A hF hg hQ hC))
          · have hz : ¬ _ := fun z => hc46 (goV_0.mpr z)
            refine z_iconst hZ dX8_write_49 ?_
            exact z_iret hZ rfl (Nat.le_of_ble_eq_true rfl) (Nat.le_of_ble_eq_true rfl) dX8_write_50 (by
            first
              | (exfalso; omega)
              | exact bQ.no hc46 (by first | exact b2_ne | omega) (by first | exact b2_ne | omega) fr A hF hg hQ hC)
        · refine z_iconst hZ dX8_write_37 ?_
          refine z_goto hZ (tgt := 42) dX8_write_38 rfl ?_
          refine z_iconst hZ dX8_write_42 ?_
          refine z_cV hZ (As := [_, _, _]) rfl dX8_write_43 ml_X8_146 wy_X8_goes (m_X8_goes l hx hF (by first | exact b2_in _ | omega) (by first | exact b2_in _ | omega) (by first | exact b2_in _ | omega)) (by assumption) (by assumption) rfl ⟨Nat.le_of_ble_eq_true rfl, Nat.le_of_ble_eq_true rfl⟩ ⟨Nat.le_of_ble_eq_true rfl, Nat.le_of_ble_eq_true rfl⟩ (Nat.le_of_ble_eq_true rfl) (fun _ _ _ h => h.elim) (fun v43 L43 G43 hp43 => ?_)
          obtain ⟨rfl, rfl, hF, f43⟩ := hp43
          have hF := hF
          have hg := (f43 a (Ne.symm hxa)).trans hg
          have hQ := (f43 q (Ne.symm hxq)).trans hQ
          have hC := (f43 c (Ne.symm hxc)).trans hC
          have t := ms.of hx ha hxa hF hg
          have fr := fm.x fr f43
          refine z_if_ne_b hZ (tgt := 51) dX8_write_46 rfl (fun hc46 => ?_) (fun hc46 => ?_)
          · have hz := goV_0.mp hc46
            refine z_aload_n0 hZ dX8_write_51 ?_
            refine z_cV hZ (As := []) rfl dX8_write_52 ml_X8_150 wy_X8_saves (m_X8_saves l hx ha hxa hF hg hs) (by assumption) (by assumption) rfl ⟨Nat.le_of_ble_eq_true rfl, Nat.le_of_ble_eq_true rfl⟩ ⟨Nat.le_of_ble_eq_true rfl, Nat.le_of_ble_eq_true rfl⟩ (Nat.le_of_ble_eq_true rfl) (fun _ _ _ h => h.elim) (fun v52 L52 G52 hp52 => ?_)
            obtain ⟨rfl, rfl, ⟨h, hsv, hg⟩, hF, f52⟩ := hp52
            have hQ := (f52 q (Ne.symm hxq) (Ne.symm haq)).trans hQ
            have hC := (f52 c (Ne.symm hxc) (Ne.symm hac)).trans hC
            have fr := fm.xa fr f52
            have t := ms.of hx ha hxa hF hg
            have e0 := hsv.1 0 (by omega) (by omega)
            have e1 := hsv.1 1 (by omega) (by omega)
            have e2 := hsv.1 2 (by omega) (by omega)
            have e3 := hsv.1 3 (by omega) (by omega)
            have e4 := hsv.1 4 (by omega) (by omega)
            have e5 := hsv.1 5 (by omega) (by omega)
            refine z_aload_n0 hZ dX8_write_55 ?_
            refine z_iconst hZ dX8_write_56 ?_
            refine z_pf_X8_kind hZ dX8_write_57 fl_X8_67 (by assumption) (by assumption) (fun F57 hF57 hf57 => ?_)
            have hF := hF57
            have hg := (hf57 a (Ne.symm hxa)).trans hg
            have hQ := (hf57 q (Ne.symm hxq)).trans hQ
            have hC := (hf57 c (Ne.symm hxc)).trans hC
            have t := ms.of hx ha hxa hF hg
            have fr := fm.x fr hf57
            refine z_aload_n0 hZ dX8_write_60 ?_
            refine z_iload_n1 hZ dX8_write_61 ?_
            refine z_cV hZ (As := [_]) rfl dX8_write_62 ml_X8_134 wy_X8_writes (m_X8_writes l t (by omega)) (by assumption) (by assumption) rfl ⟨Nat.le_of_ble_eq_true rfl, Nat.le_of_ble_eq_true rfl⟩ ⟨Nat.le_of_ble_eq_true rfl, Nat.le_of_ble_eq_true rfl⟩ (Nat.le_of_ble_eq_true rfl) (fun _ _ _ h => h.elim) (fun v62 L62 G62 hp62 => ?_)
            obtain ⟨rfl, rfl, hg, f62⟩ := hp62
            have hF := (f62 x hxa).trans hF
            have hQ := (f62 q (Ne.symm haq)).trans hQ
            have hC := (f62 c (Ne.symm hac)).trans hC
            have fr := fm.a fr f62
            first
              | (exfalso; omega)
              | (rw [if_pos (by omega)] at hg ⊢
                 rw [e0]
                 exact z_iret hZ rfl (Nat.le_of_ble_eq_true rfl) (Nat.le_of_ble_eq_true rfl) dX8_write_65 (bQ.yes hc46 (by first | exact b2_ne | omega) (by first | exact b2_ne | omega) hsv rfl fr A hF hg hQ hC))
          · have hz : ¬ _ := fun z => hc46 (goV_0.mpr z)
            refine z_iconst hZ dX8_write_49 ?_
            exact z_iret hZ rfl (Nat.le_of_ble_eq_true rfl) (Nat.le_of_ble_eq_true rfl) dX8_write_50 (by
            first
              | (exfalso; omega)
              | exact bQ.no hc46 (by first | exact b2_ne | omega) (by first | exact b2_ne | omega) fr A hF hg hQ hC)
  exact hgo
set_option maxRecDepth 100000 in
set_option maxHeartbeats 4000000 in
theorem m_X8_goTo (l : Launch) {L : List Nat} {F : Nat → PE} {x a q c : Nat} {g : Int → Int} {sv th kd n pt tm sg : Int} {kp bf : Int → Int} (o : mo L F x a q c g sv th kd n pt tm sg kp bf) (v : vf g kd) (hs : 0 ≤ sv ∧ sv ≤ 6) {y : Int} (hy : -2147483648 ≤ y ∧ y ≤ 2147483647) : PM l yX8_goTo cX8_goTo 3 (some .int) (rm 3 0 0) L [.ref x, .int (iI y)] F (fun v9 L1 F1 => bQ (0 ≤ y ∧ y ≤ g 0) True (g 1) (vGo y) L F x a q c g sv kd n pt tm sg kp bf v9 L1 F1) (fun _ _ _ => False) := by
  refine pm_of cd_X8_goTo (by decide +kernel) (Nat.le_of_ble_eq_true rfl) (fun ZZ hZ => ?_)
  have hgo : ZZ 0 0 0 [some (.ref x), some (.int (iI y)), none] [] L F := by
    obtain ⟨A, hF, hg, hQ, hC⟩ := o
    obtain ⟨⟨hx, ha, hqL, hcL⟩, hxa, hxq, hxc, haq, hac, hqc⟩ := id A
    have t := ms.of hx ha hxa hF hg
    have fr : fm x a q c F F := fm.rf
    have r := v.1
    refine z_aload_n0 hZ dX8_goTo_0 ?_
    refine z_iload_n1 hZ dX8_goTo_1 ?_
    refine z_iconst hZ dX8_goTo_2 ?_
    refine z_aload_n0 hZ dX8_goTo_3 ?_
    refine z_gf_X8_s hZ dX8_goTo_4 fl_X8_7 (by assumption) (by assumption) ?_
    refine z_iconst hZ dX8_goTo_7 ?_
    refine z_iald hZ dX8_goTo_8 (by assumption) (by assumption) (by omega) (by first | exact (wu_n (by omega)).trans (by first | exact (wu_n (by omega)).trans (by first | exact (wu_n (by omega)).trans (by first | exact (wu_n (by omega)).trans (by first | exact (wu_n (by omega)).trans (by first | exact (wu_n (by omega)).trans (by first | exact if_neg (by omega) | rfl) | exact wu_s | exact wu_e (by omega) | exact if_neg (by omega) | rfl) | exact wu_s | exact wu_e (by omega) | exact if_neg (by omega) | rfl) | exact wu_s | exact wu_e (by omega) | exact if_neg (by omega) | rfl) | exact wu_s | exact wu_e (by omega) | exact if_neg (by omega) | rfl) | exact wu_s | exact wu_e (by omega) | exact if_neg (by omega) | rfl) | exact wu_s | exact wu_e (by omega) | exact if_neg (by omega) | rfl) ?_
    refine z_cS hZ (As := [_, _, _]) rfl dX8_goTo_9 ml_X8_32 wy_X8_in (m_X8_in l (by omega) (by omega) (by omega)) ⟨Nat.le_of_ble_eq_true rfl, Nat.le_of_ble_eq_true rfl⟩ ⟨Nat.le_of_ble_eq_true rfl, Nat.le_of_ble_eq_true rfl⟩ (Nat.le_of_ble_eq_true rfl) (fun _ _ _ h => h.elim) (fun v9 L9 G9 hp9 => ?_)
    obtain ⟨rfl, rfl, rfl⟩ := hp9
    refine z_iconst hZ dX8_goTo_12 ?_
    refine z_iconst hZ dX8_goTo_13 ?_
    refine z_cV hZ (As := [_, _, _]) rfl dX8_goTo_14 ml_X8_146 wy_X8_goes (m_X8_goes l hx hF (by first | exact b2_in _ | omega) (by first | exact b2_in _ | omega) (by first | exact b2_in _ | omega)) (by assumption) (by assumption) rfl ⟨Nat.le_of_ble_eq_true rfl, Nat.le_of_ble_eq_true rfl⟩ ⟨Nat.le_of_ble_eq_true rfl, Nat.le_of_ble_eq_true rfl⟩ (Nat.le_of_ble_eq_true rfl) (fun _ _ _ h => h.elim) (fun v14 L14 G14 hp14 => ?_)
    obtain ⟨rfl, rfl, hF, f14⟩ := hp14
    have hF := hF
    have hg := (f14 a (Ne.symm hxa)).trans hg
    have hQ := (f14 q (Ne.symm hxq)).trans hQ
    have hC := (f14 c (Ne.symm hxc)).trans hC
    have t := ms.of hx ha hxa hF hg
    have fr := fm.x fr f14
    refine z_if_ne_b hZ (tgt := 22) dX8_goTo_17 rfl (fun hc17 => ?_) (fun hc17 => ?_)
    · refine z_aload_n0 hZ dX8_goTo_22 ?_
      refine z_cV hZ (As := []) rfl dX8_goTo_23 ml_X8_150 wy_X8_saves (m_X8_saves l hx ha hxa hF hg hs) (by assumption) (by assumption) rfl ⟨Nat.le_of_ble_eq_true rfl, Nat.le_of_ble_eq_true rfl⟩ ⟨Nat.le_of_ble_eq_true rfl, Nat.le_of_ble_eq_true rfl⟩ (Nat.le_of_ble_eq_true rfl) (fun _ _ _ h => h.elim) (fun v23 L23 G23 hp23 => ?_)
      obtain ⟨rfl, rfl, ⟨h, hsv, hg⟩, hF, f23⟩ := hp23
      have hQ := (f23 q (Ne.symm hxq) (Ne.symm haq)).trans hQ
      have hC := (f23 c (Ne.symm hxc) (Ne.symm hac)).trans hC
      have fr := fm.xa fr f23
      have t := ms.of hx ha hxa hF hg
      have e0 := hsv.1 0 (by omega) (by omega)
      have e1 := hsv.1 1 (by omega) (by omega)
      have e2 := hsv.1 2 (by omega) (by omega)
      have e3 := hsv.1 3 (by omega) (by omega)
      have e4 := hsv.1 4 (by omega) (by omega)
      have e5 := hsv.1 5 (by omega) (by omega)
      refine z_aload_n0 hZ dX8_goTo_26 ?_
      refine z_iconst hZ dX8_goTo_27 ?_
      refine z_pf_X8_kind hZ dX8_goTo_28 fl_X8_67 (by assumption) (by assumption) (fun F28 hF28 hf28 => ?_)
      have hF := hF28
      have hg := (hf28 a (Ne.symm hxa)).trans hg
      have hQ := (hf28 q (Ne.symm hxq)).trans hQ
      have hC := (hf28 c (Ne.symm hxc)).trans hC
      have t := ms.of hx ha hxa hF hg
      have fr := fm.x fr hf28
      refine z_aload_n0 hZ dX8_goTo_31 ?_
      refine z_gf_X8_s hZ dX8_goTo_32 fl_X8_7 (by assumption) (by assumption) ?_
      refine z_iconst hZ dX8_goTo_35 ?_
      refine z_iald hZ dX8_goTo_36 (by assumption) (by assumption) (by omega) (by first | exact (wu_n (by omega)).trans (by first | exact (wu_n (by omega)).trans (by first | exact (wu_n (by omega)).trans (by first | exact (wu_n (by omega)).trans (by first | exact (wu_n (by omega)).trans (by first | exact (wu_n (by omega)).trans (by first | exact if_neg (by omega) | rfl) | exact wu_s | exact wu_e (by omega) | exact if_neg (by omega) | rfl) | exact wu_s | exact wu_e (by omega) | exact if_neg (by omega) | rfl) | exact wu_s | exact wu_e (by omega) | exact if_neg (by omega) | rfl) | exact wu_s | exact wu_e (by omega) | exact if_neg (by omega) | rfl) | exact wu_s | exact wu_e (by omega) | exact if_neg (by omega) | rfl) | exact wu_s | exact wu_e (by omega) | exact if_neg (by omega) | rfl) ?_
      refine z_istore_n2 hZ dX8_goTo_37 (by decide) rfl ?_
      refine z_aload_n0 hZ dX8_goTo_38 ?_
      refine z_gf_X8_s hZ dX8_goTo_39 fl_X8_7 (by assumption) (by assumption) ?_
      refine z_iconst hZ dX8_goTo_42 ?_
      refine z_iload_n1 hZ dX8_goTo_43 ?_
      refine z_iastore hZ dX8_goTo_44 (by assumption) (by assumption) (by omega) (fun F44 hF44 hf44 => ?_)
      have hF := (hf44 x hxa).trans hF
      have hg := hF44
      have hQ := (hf44 q (Ne.symm haq)).trans hQ
      have hC := (hf44 c (Ne.symm hac)).trans hC
      have t := ms.of hx ha hxa hF hg
      have fr := fm.a fr hf44
      refine z_iload_n2 hZ dX8_goTo_45 ?_
      exact z_iret hZ rfl (Nat.le_of_ble_eq_true rfl) (Nat.le_of_ble_eq_true rfl) dX8_goTo_46 (by
            rw [e1]
            exact bQ.yes hc17 b2_ne ⟨fun _ => True.intro, fun _ => by decide⟩ hsv rfl fr A hF hg hQ hC)
    · refine z_iconst hZ dX8_goTo_20 ?_
      exact z_iret hZ rfl (Nat.le_of_ble_eq_true rfl) (Nat.le_of_ble_eq_true rfl) dX8_goTo_21 (by exact bQ.no hc17 b2_ne ⟨fun _ => True.intro, fun _ => by decide⟩ fr A hF hg hQ hC)
  exact hgo
set_option maxRecDepth 100000 in
set_option maxHeartbeats 4000000 in
theorem m_X8_goLines (l : Launch) {L : List Nat} {F : Nat → PE} {x a q c : Nat} {g : Int → Int} {sv th kd n pt tm sg : Int} {kp bf : Int → Int} (o : mo L F x a q c g sv th kd n pt tm sg kp bf) (v : vf g kd) (hs : 0 ≤ sv ∧ sv ≤ 6) {y : Int} (hy : -2147483648 ≤ y ∧ y ≤ 2147483647) : PM l yX8_goLines cX8_goLines 4 (some .int) (rm 4 0 0) L [.ref x, .int (iI y)] F (fun v9 L1 F1 => bQ (-50 ≤ y ∧ y ≤ 50 ∧ y ≠ 0) (glA g y ≠ -1) (glA g y) (vGo (glA g y)) L F x a q c g sv kd n pt tm sg kp bf v9 L1 F1) (fun _ _ _ => False) := by
  refine pm_of cd_X8_goLines (by decide +kernel) (Nat.le_of_ble_eq_true rfl) (fun ZZ hZ => ?_)
  have hgo : ZZ 0 0 0 [some (.ref x), some (.int (iI y)), none, none] [] L F := by
    obtain ⟨A, hF, hg, hQ, hC⟩ := o
    obtain ⟨⟨hx, ha, hqL, hcL⟩, hxa, hxq, hxc, haq, hac, hqc⟩ := id A
    have t := ms.of hx ha hxa hF hg
    have fr : fm x a q c F F := fm.rf
    have r := v.1
    have rg := glA_rg (z := y) v
    have k34 : ∀ (p1 w : Int), (p1 = 0 ∨ p1 = 1) → (p1 = 1 → w = glA g y) → (p1 = 0 → w = -1) → (p1 ≠ 0 ↔ (-50 ≤ y ∧ y ≤ 50 ∧ y ≠ 0)) → ZZ 0 0 34 [some (.ref x), some (.int (iI y)), some (.int (iI p1)), none] [.int (iI w)] L F := by
      intro p1 w h1 hw h0 e1'
      refine z_istore_n3 hZ dX8_goLines_34 (by decide) rfl ?_
      refine z_aload_n0 hZ dX8_goLines_35 ?_
      refine z_iload_n2 hZ dX8_goLines_36 ?_
      refine z_iload_n3 hZ dX8_goLines_37 ?_
      refine z_if_lt hZ (tgt := 45) dX8_goLines_38 rfl (by omega) (fun hc38 => ?_) (fun hc38 => ?_)
      · refine z_iconst hZ dX8_goLines_45 ?_
        refine z_iconst hZ dX8_goLines_46 ?_
        refine z_cV hZ (As := [_, _, _]) rfl dX8_goLines_47 ml_X8_146 wy_X8_goes (m_X8_goes l hx hF (by first | exact b2_in _ | omega) (by first | exact b2_in _ | omega) (by first | exact b2_in _ | omega)) (by assumption) (by assumption) rfl ⟨Nat.le_of_ble_eq_true rfl, Nat.le_of_ble_eq_true rfl⟩ ⟨Nat.le_of_ble_eq_true rfl, Nat.le_of_ble_eq_true rfl⟩ (Nat.le_of_ble_eq_true rfl) (fun _ _ _ h => h.elim) (fun v47 L47 G47 hp47 => ?_)
        obtain ⟨rfl, rfl, hF, f47⟩ := hp47
        have hF := hF
        have hg := (f47 a (Ne.symm hxa)).trans hg
        have hQ := (f47 q (Ne.symm hxq)).trans hQ
        have hC := (f47 c (Ne.symm hxc)).trans hC
        have t := ms.of hx ha hxa hF hg
        have fr := fm.x fr f47
        refine z_if_ne_b hZ (tgt := 55) dX8_goLines_50 rfl (fun hc50 => ?_) (fun hc50 => ?_)
        · have hz := goV_0.mp hc50
          refine z_aload_n0 hZ dX8_goLines_55 ?_
          refine z_cV hZ (As := []) rfl dX8_goLines_56 ml_X8_150 wy_X8_saves (m_X8_saves l hx ha hxa hF hg hs) (by assumption) (by assumption) rfl ⟨Nat.le_of_ble_eq_true rfl, Nat.le_of_ble_eq_true rfl⟩ ⟨Nat.le_of_ble_eq_true rfl, Nat.le_of_ble_eq_true rfl⟩ (Nat.le_of_ble_eq_true rfl) (fun _ _ _ h => h.elim) (fun v56 L56 G56 hp56 => ?_)
          obtain ⟨rfl, rfl, ⟨h, hsv, hg⟩, hF, f56⟩ := hp56
          have hQ := (f56 q (Ne.symm hxq) (Ne.symm haq)).trans hQ
          have hC := (f56 c (Ne.symm hxc) (Ne.symm hac)).trans hC
          have fr := fm.xa fr f56
          have t := ms.of hx ha hxa hF hg
          have e0 := hsv.1 0 (by omega) (by omega)
          have e1 := hsv.1 1 (by omega) (by omega)
          have e2 := hsv.1 2 (by omega) (by omega)
          have e3 := hsv.1 3 (by omega) (by omega)
          have e4 := hsv.1 4 (by omega) (by omega)
          have e5 := hsv.1 5 (by omega) (by omega)
          refine z_aload_n0 hZ dX8_goLines_59 ?_
          refine z_iconst hZ dX8_goLines_60 ?_
          refine z_pf_X8_kind hZ dX8_goLines_61 fl_X8_67 (by assumption) (by assumption) (fun F61 hF61 hf61 => ?_)
          have hF := hF61
          have hg := (hf61 a (Ne.symm hxa)).trans hg
          have hQ := (hf61 q (Ne.symm hxq)).trans hQ
          have hC := (hf61 c (Ne.symm hxc)).trans hC
          have t := ms.of hx ha hxa hF hg
          have fr := fm.x fr hf61
          refine z_aload_n0 hZ dX8_goLines_64 ?_
          refine z_gf_X8_s hZ dX8_goLines_65 fl_X8_7 (by assumption) (by assumption) ?_
          refine z_iconst hZ dX8_goLines_68 ?_
          refine z_iload_n3 hZ dX8_goLines_69 ?_
          refine z_iastore hZ dX8_goLines_70 (by assumption) (by assumption) (by omega) (fun F70 hF70 hf70 => ?_)
          have hF := (hf70 x hxa).trans hF
          have hg := hF70
          have hQ := (hf70 q (Ne.symm haq)).trans hQ
          have hC := (hf70 c (Ne.symm hac)).trans hC
          have t := ms.of hx ha hxa hF hg
          have fr := fm.a fr hf70
          refine z_iload_n3 hZ dX8_goLines_71 ?_
          exact z_iret hZ rfl (Nat.le_of_ble_eq_true rfl) (Nat.le_of_ble_eq_true rfl) dX8_goLines_72 (by
            first
              | (exfalso; omega)
              | (have ew : w = glA g y := hw (by omega)
                 subst ew
                 exact bQ.yes hc50 e1' (by omega) hsv rfl fr A hF hg hQ hC))
        · have hz : ¬ _ := fun z => hc50 (goV_0.mpr z)
          refine z_iconst hZ dX8_goLines_53 ?_
          exact z_iret hZ rfl (Nat.le_of_ble_eq_true rfl) (Nat.le_of_ble_eq_true rfl) dX8_goLines_54 (by
            first
              | (exfalso; omega)
              | exact bQ.no hc50 e1' (by omega) fr A hF hg hQ hC
              | (by_cases q : p1 = 0
                 · rw [show goV p1 0 1 = goV p1 1 1 from (if_pos q).trans (if_pos q).symm] at hF
                   refine ⟨rfl, fr, Or.inr (Or.inl ⟨fun z => e1'.mpr z q, rfl, A, ?_, hg, hQ, hC⟩)⟩
                   rw [hF, show goV p1 1 1 = 1 from if_pos q]
                 · exact bQ.no hc50 e1' (by omega) fr A hF hg hQ hC))
      · refine z_iconst hZ dX8_goLines_41 ?_
        refine z_goto hZ (tgt := 46) dX8_goLines_42 rfl ?_
        refine z_iconst hZ dX8_goLines_46 ?_
        refine z_cV hZ (As := [_, _, _]) rfl dX8_goLines_47 ml_X8_146 wy_X8_goes (m_X8_goes l hx hF (by first | exact b2_in _ | omega) (by first | exact b2_in _ | omega) (by first | exact b2_in _ | omega)) (by assumption) (by assumption) rfl ⟨Nat.le_of_ble_eq_true rfl, Nat.le_of_ble_eq_true rfl⟩ ⟨Nat.le_of_ble_eq_true rfl, Nat.le_of_ble_eq_true rfl⟩ (Nat.le_of_ble_eq_true rfl) (fun _ _ _ h => h.elim) (fun v47 L47 G47 hp47 => ?_)
        obtain ⟨rfl, rfl, hF, f47⟩ := hp47
        have hF := hF
        have hg := (f47 a (Ne.symm hxa)).trans hg
        have hQ := (f47 q (Ne.symm hxq)).trans hQ
        have hC := (f47 c (Ne.symm hxc)).trans hC
        have t := ms.of hx ha hxa hF hg
        have fr := fm.x fr f47
        refine z_if_ne_b hZ (tgt := 55) dX8_goLines_50 rfl (fun hc50 => ?_) (fun hc50 => ?_)
        · have hz := goV_0.mp hc50
          refine z_aload_n0 hZ dX8_goLines_55 ?_
          refine z_cV hZ (As := []) rfl dX8_goLines_56 ml_X8_150 wy_X8_saves (m_X8_saves l hx ha hxa hF hg hs) (by assumption) (by assumption) rfl ⟨Nat.le_of_ble_eq_true rfl, Nat.le_of_ble_eq_true rfl⟩ ⟨Nat.le_of_ble_eq_true rfl, Nat.le_of_ble_eq_true rfl⟩ (Nat.le_of_ble_eq_true rfl) (fun _ _ _ h => h.elim) (fun v56 L56 G56 hp56 => ?_)
          obtain ⟨rfl, rfl, ⟨h, hsv, hg⟩, hF, f56⟩ := hp56
          have hQ := (f56 q (Ne.symm hxq) (Ne.symm haq)).trans hQ
          have hC := (f56 c (Ne.symm hxc) (Ne.symm hac)).trans hC
          have fr := fm.xa fr f56
          have t := ms.of hx ha hxa hF hg
          have e0 := hsv.1 0 (by omega) (by omega)
          have e1 := hsv.1 1 (by omega) (by omega)
          have e2 := hsv.1 2 (by omega) (by omega)
          have e3 := hsv.1 3 (by omega) (by omega)
          have e4 := hsv.1 4 (by omega) (by omega)
          have e5 := hsv.1 5 (by omega) (by omega)
          refine z_aload_n0 hZ dX8_goLines_59 ?_
          refine z_iconst hZ dX8_goLines_60 ?_
          refine z_pf_X8_kind hZ dX8_goLines_61 fl_X8_67 (by assumption) (by assumption) (fun F61 hF61 hf61 => ?_)
          have hF := hF61
          have hg := (hf61 a (Ne.symm hxa)).trans hg
          have hQ := (hf61 q (Ne.symm hxq)).trans hQ
          have hC := (hf61 c (Ne.symm hxc)).trans hC
          have t := ms.of hx ha hxa hF hg
          have fr := fm.x fr hf61
          refine z_aload_n0 hZ dX8_goLines_64 ?_
          refine z_gf_X8_s hZ dX8_goLines_65 fl_X8_7 (by assumption) (by assumption) ?_
          refine z_iconst hZ dX8_goLines_68 ?_
          refine z_iload_n3 hZ dX8_goLines_69 ?_
          refine z_iastore hZ dX8_goLines_70 (by assumption) (by assumption) (by omega) (fun F70 hF70 hf70 => ?_)
          have hF := (hf70 x hxa).trans hF
          have hg := hF70
          have hQ := (hf70 q (Ne.symm haq)).trans hQ
          have hC := (hf70 c (Ne.symm hac)).trans hC
          have t := ms.of hx ha hxa hF hg
          have fr := fm.a fr hf70
          refine z_iload_n3 hZ dX8_goLines_71 ?_
          exact z_iret hZ rfl (Nat.le_of_ble_eq_true rfl) (Nat.le_of_ble_eq_true rfl) dX8_goLines_72 (by
            first
              | (exfalso; omega)
              | (have ew : w = glA g y := hw (by omega)
                 subst ew
                 exact bQ.yes hc50 e1' (by omega) hsv rfl fr A hF hg hQ hC))
        · have hz : ¬ _ := fun z => hc50 (goV_0.mpr z)
          refine z_iconst hZ dX8_goLines_53 ?_
          exact z_iret hZ rfl (Nat.le_of_ble_eq_true rfl) (Nat.le_of_ble_eq_true rfl) dX8_goLines_54 (by
            first
              | (exfalso; omega)
              | exact bQ.no hc50 e1' (by omega) fr A hF hg hQ hC
              | (by_cases q : p1 = 0
                 · rw [show goV p1 0 1 = goV p1 1 1 from (if_pos q).trans (if_pos q).symm] at hF
                   refine ⟨rfl, fr, Or.inr (Or.inl ⟨fun z => e1'.mpr z q, rfl, A, ?_, hg, hQ, hC⟩)⟩
                   rw [hF, show goV p1 1 1 = 1 from if_pos q]
                 · exact bQ.no hc50 e1' (by omega) fr A hF hg hQ hC))
    refine z_iload_n1 hZ dX8_goLines_0 ?_
    refine z_if_eq hZ (tgt := 19) dX8_goLines_1 rfl (by omega) (fun hc1 => ?_) (fun hc1 => ?_)
    · refine z_iconst hZ dX8_goLines_19 ?_
      refine z_istore_n2 hZ dX8_goLines_20 (by decide) rfl ?_
      refine z_iload_n2 hZ dX8_goLines_21 ?_
      refine z_if_eq hZ (tgt := 33) dX8_goLines_22 rfl (by omega) (fun hc22 => ?_) (fun hc22 => ?_)
      · refine z_iconst hZ dX8_goLines_33 ?_
        first
          | (exfalso; omega)
          | exact k34 1 _ (Or.inr rfl) (fun _ => rfl) (fun q => absurd q (by decide)) (by omega)
          | exact k34 0 _ (Or.inl rfl) (fun q => absurd q (by decide)) (fun _ => rfl) (by omega)
      · refine z_aload_n0 hZ dX8_goLines_25 ?_
        refine z_iload_n1 hZ dX8_goLines_26 ?_
        refine z_cV hZ (As := [_]) rfl dX8_goLines_27 ml_X8_156 wy_X8_lineAt (m_X8_lineAt l t v (by omega)) (by assumption) (by assumption) rfl ⟨Nat.le_of_ble_eq_true rfl, Nat.le_of_ble_eq_true rfl⟩ ⟨Nat.le_of_ble_eq_true rfl, Nat.le_of_ble_eq_true rfl⟩ (Nat.le_of_ble_eq_true rfl) (fun _ _ _ h => h.elim) (fun v27 L27 G27 hp27 => ?_)
        obtain ⟨rfl, rfl, rfl⟩ := hp27
        refine z_goto hZ (tgt := 34) dX8_goLines_30 rfl ?_
        first
          | (exfalso; omega)
          | exact k34 1 _ (Or.inr rfl) (fun _ => rfl) (fun q => absurd q (by decide)) (by omega)
          | exact k34 0 _ (Or.inl rfl) (fun q => absurd q (by decide)) (fun _ => rfl) (by omega)
    · refine z_iload_n1 hZ dX8_goLines_4 ?_
      refine z_bipush hZ dX8_goLines_5 rfl ?_
      refine z_bipush hZ dX8_goLines_7 rfl ?_
      refine z_cS hZ (As := [_, _, _]) rfl dX8_goLines_9 ml_X8_32 wy_X8_in (m_X8_in l (by omega) (by omega) (by omega)) ⟨Nat.le_of_ble_eq_true rfl, Nat.le_of_ble_eq_true rfl⟩ ⟨Nat.le_of_ble_eq_true rfl, Nat.le_of_ble_eq_true rfl⟩ (Nat.le_of_ble_eq_true rfl) (fun _ _ _ h => h.elim) (fun v9 L9 G9 hp9 => ?_)
      obtain ⟨rfl, rfl, rfl⟩ := hp9
      refine z_if_eq_b hZ (tgt := 19) dX8_goLines_12 rfl (fun hc12 => ?_) (fun hc12 => ?_)
      · refine z_iconst hZ dX8_goLines_19 ?_
        refine z_istore_n2 hZ dX8_goLines_20 (by decide) rfl ?_
        refine z_iload_n2 hZ dX8_goLines_21 ?_
        refine z_if_eq hZ (tgt := 33) dX8_goLines_22 rfl (by omega) (fun hc22 => ?_) (fun hc22 => ?_)
        · refine z_iconst hZ dX8_goLines_33 ?_
          first
            | (exfalso; omega)
            | exact k34 1 _ (Or.inr rfl) (fun _ => rfl) (fun q => absurd q (by decide)) (by omega)
            | exact k34 0 _ (Or.inl rfl) (fun q => absurd q (by decide)) (fun _ => rfl) (by omega)
        · refine z_aload_n0 hZ dX8_goLines_25 ?_
          refine z_iload_n1 hZ dX8_goLines_26 ?_
          refine z_cV hZ (As := [_]) rfl dX8_goLines_27 ml_X8_156 wy_X8_lineAt (m_X8_lineAt l t v (by omega)) (by assumption) (by assumption) rfl ⟨Nat.le_of_ble_eq_true rfl, Nat.le_of_ble_eq_true rfl⟩ ⟨Nat.le_of_ble_eq_true rfl, Nat.le_of_ble_eq_true rfl⟩ (Nat.le_of_ble_eq_true rfl) (fun _ _ _ h => h.elim) (fun v27 L27 G27 hp27 => ?_)
          obtain ⟨rfl, rfl, rfl⟩ := hp27
          refine z_goto hZ (tgt := 34) dX8_goLines_30 rfl ?_
          first
            | (exfalso; omega)
            | exact k34 1 _ (Or.inr rfl) (fun _ => rfl) (fun q => absurd q (by decide)) (by omega)
            | exact k34 0 _ (Or.inl rfl) (fun q => absurd q (by decide)) (fun _ => rfl) (by omega)
      · refine z_iconst hZ dX8_goLines_15 ?_
        refine z_goto hZ (tgt := 20) dX8_goLines_16 rfl ?_
        refine z_istore_n2 hZ dX8_goLines_20 (by decide) rfl ?_
        refine z_iload_n2 hZ dX8_goLines_21 ?_
        refine z_if_eq hZ (tgt := 33) dX8_goLines_22 rfl (by omega) (fun hc22 => ?_) (fun hc22 => ?_)
        · refine z_iconst hZ dX8_goLines_33 ?_
          first
            | (exfalso; omega)
            | exact k34 1 _ (Or.inr rfl) (fun _ => rfl) (fun q => absurd q (by decide)) (by omega)
            | exact k34 0 _ (Or.inl rfl) (fun q => absurd q (by decide)) (fun _ => rfl) (by omega)
        · refine z_aload_n0 hZ dX8_goLines_25 ?_
          refine z_iload_n1 hZ dX8_goLines_26 ?_
          refine z_cV hZ (As := [_]) rfl dX8_goLines_27 ml_X8_156 wy_X8_lineAt (m_X8_lineAt l t v (by omega)) (by assumption) (by assumption) rfl ⟨Nat.le_of_ble_eq_true rfl, Nat.le_of_ble_eq_true rfl⟩ ⟨Nat.le_of_ble_eq_true rfl, Nat.le_of_ble_eq_true rfl⟩ (Nat.le_of_ble_eq_true rfl) (fun _ _ _ h => h.elim) (fun v27 L27 G27 hp27 => ?_)
          obtain ⟨rfl, rfl, rfl⟩ := hp27
          refine z_goto hZ (tgt := 34) dX8_goLines_30 rfl ?_
          first
            | (exfalso; omega)
            | exact k34 1 _ (Or.inr rfl) (fun _ => rfl) (fun q => absurd q (by decide)) (by omega)
            | exact k34 0 _ (Or.inl rfl) (fun q => absurd q (by decide)) (fun _ => rfl) (by omega)
  exact hgo
set_option maxRecDepth 100000 in
set_option maxHeartbeats 4000000 in
theorem m_X8_turn (l : Launch) {L : List Nat} {F : Nat → PE} {x a q c : Nat} {g : Int → Int} {sv th kd n pt tm sg : Int} {kp bf : Int → Int} (o : mo L F x a q c g sv th kd n pt tm sg kp bf) (v : vf g kd) (hs : 0 ≤ sv ∧ sv ≤ 6) {y : Int} (hy : -2147483648 ≤ y ∧ y ≤ 2147483647) : PM l yX8_turn cX8_turn 3 (some .int) (rm 3 0 0) L [.ref x, .int (iI y)] F (fun v9 L1 F1 => bQ (-20 ≤ y ∧ y ≤ 20) (0 < g 3) (trA y g) (vTr y) L F x a q c g sv kd n pt tm sg kp bf v9 L1 F1) (fun _ _ _ => False) := by
  refine pm_of cd_X8_turn (by decide +kernel) (Nat.le_of_ble_eq_true rfl) (fun ZZ hZ => ?_)
  have hgo : ZZ 0 0 0 [some (.ref x), some (.int (iI y)), none] [] L F := by
    obtain ⟨A, hF, hg, hQ, hC⟩ := o
    obtain ⟨⟨hx, ha, hqL, hcL⟩, hxa, hxq, hxc, haq, hac, hqc⟩ := id A
    have t := ms.of hx ha hxa hF hg
    have fr : fm x a q c F F := fm.rf
    have r := v.1
    have r4 : 0 ≤ g 4 ∧ g 4 ≤ 7 := by
      by_cases q : g 3 = 0
      · have z := v.2.1.2.1 q; omega
      · have z := v.2.1.2.2.1 (by omega); omega
    refine z_iload_n1 hZ dX8_turn_0 ?_
    refine z_bipush hZ dX8_turn_1 rfl ?_
    refine z_bipush hZ dX8_turn_3 rfl ?_
    refine z_cS hZ (As := [_, _, _]) rfl dX8_turn_5 ml_X8_32 wy_X8_in (m_X8_in l (by omega) (by omega) (by omega)) ⟨Nat.le_of_ble_eq_true rfl, Nat.le_of_ble_eq_true rfl⟩ ⟨Nat.le_of_ble_eq_true rfl, Nat.le_of_ble_eq_true rfl⟩ (Nat.le_of_ble_eq_true rfl) (fun _ _ _ h => h.elim) (fun v5 L5 G5 hp5 => ?_)
    obtain ⟨rfl, rfl, rfl⟩ := hp5
    refine z_istore_n2 hZ dX8_turn_8 (by decide) rfl ?_
    refine z_aload_n0 hZ dX8_turn_9 ?_
    refine z_iload_n2 hZ dX8_turn_10 ?_
    refine z_aload_n0 hZ dX8_turn_11 ?_
    refine z_gf_X8_s hZ dX8_turn_12 fl_X8_7 (by assumption) (by assumption) ?_
    refine z_iconst hZ dX8_turn_15 ?_
    refine z_iald hZ dX8_turn_16 (by assumption) (by assumption) (by omega) (by first | exact (wu_n (by omega)).trans (by first | exact (wu_n (by omega)).trans (by first | exact (wu_n (by omega)).trans (by first | exact (wu_n (by omega)).trans (by first | exact (wu_n (by omega)).trans (by first | exact (wu_n (by omega)).trans (by first | exact if_neg (by omega) | rfl) | exact wu_s | exact wu_e (by omega) | exact if_neg (by omega) | rfl) | exact wu_s | exact wu_e (by omega) | exact if_neg (by omega) | rfl) | exact wu_s | exact wu_e (by omega) | exact if_neg (by omega) | rfl) | exact wu_s | exact wu_e (by omega) | exact if_neg (by omega) | rfl) | exact wu_s | exact wu_e (by omega) | exact if_neg (by omega) | rfl) | exact wu_s | exact wu_e (by omega) | exact if_neg (by omega) | rfl) ?_
    refine z_if_le hZ (tgt := 24) dX8_turn_17 rfl (by omega) (fun hc17 => ?_) (fun hc17 => ?_)
    · refine z_iconst hZ dX8_turn_24 ?_
      refine z_iconst hZ dX8_turn_25 ?_
      refine z_cV hZ (As := [_, _, _]) rfl dX8_turn_26 ml_X8_146 wy_X8_goes (m_X8_goes l hx hF (by first | exact b2_in _ | omega) (by first | exact b2_in _ | omega) (by first | exact b2_in _ | omega)) (by assumption) (by assumption) rfl ⟨Nat.le_of_ble_eq_true rfl, Nat.le_of_ble_eq_true rfl⟩ ⟨Nat.le_of_ble_eq_true rfl, Nat.le_of_ble_eq_true rfl⟩ (Nat.le_of_ble_eq_true rfl) (fun _ _ _ h => h.elim) (fun v26 L26 G26 hp26 => ?_)
      obtain ⟨rfl, rfl, hF, f26⟩ := hp26
      have hF := hF
      have hg := (f26 a (Ne.symm hxa)).trans hg
      have hQ := (f26 q (Ne.symm hxq)).trans hQ
      have hC := (f26 c (Ne.symm hxc)).trans hC
      have t := ms.of hx ha hxa hF hg
      have fr := fm.x fr f26
      refine z_if_ne_b hZ (tgt := 34) dX8_turn_29 rfl (fun hc29 => ?_) (fun hc29 => ?_)
      · have hz := goV_0.mp hc29
        have hz2 : -20 ≤ y ∧ y ≤ 20 := b2_ne.mp hz.1
        refine z_aload_n0 hZ dX8_turn_34 ?_
        refine z_cV hZ (As := []) rfl dX8_turn_35 ml_X8_150 wy_X8_saves (m_X8_saves l hx ha hxa hF hg hs) (by assumption) (by assumption) rfl ⟨Nat.le_of_ble_eq_true rfl, Nat.le_of_ble_eq_true rfl⟩ ⟨Nat.le_of_ble_eq_true rfl, Nat.le_of_ble_eq_true rfl⟩ (Nat.le_of_ble_eq_true rfl) (fun _ _ _ h => h.elim) (fun v35 L35 G35 hp35 => ?_)
        obtain ⟨rfl, rfl, ⟨h, hsv, hg⟩, hF, f35⟩ := hp35
        have hQ := (f35 q (Ne.symm hxq) (Ne.symm haq)).trans hQ
        have hC := (f35 c (Ne.symm hxc) (Ne.symm hac)).trans hC
        have fr := fm.xa fr f35
        have t := ms.of hx ha hxa hF hg
        have e0 := hsv.1 0 (by omega) (by omega)
        have e1 := hsv.1 1 (by omega) (by omega)
        have e2 := hsv.1 2 (by omega) (by omega)
        have e3 := hsv.1 3 (by omega) (by omega)
        have e4 := hsv.1 4 (by omega) (by omega)
        have e5 := hsv.1 5 (by omega) (by omega)
        refine z_aload_n0 hZ dX8_turn_38 ?_
        refine z_iconst hZ dX8_turn_39 ?_
        refine z_pf_X8_kind hZ dX8_turn_40 fl_X8_67 (by assumption) (by assumption) (fun F40 hF40 hf40 => ?_)
        have hF := hF40
        have hg := (hf40 a (Ne.symm hxa)).trans hg
        have hQ := (hf40 q (Ne.symm hxq)).trans hQ
        have hC := (hf40 c (Ne.symm hxc)).trans hC
        have t := ms.of hx ha hxa hF hg
        have fr := fm.x fr hf40
        refine z_aload_n0 hZ dX8_turn_43 ?_
        refine z_iload_n1 hZ dX8_turn_44 ?_
        refine z_cV hZ (As := [_]) rfl dX8_turn_45 ml_X8_88 wy_X8_turns (m_X8_turns l t (by omega) (by omega)) (by assumption) (by assumption) rfl ⟨Nat.le_of_ble_eq_true rfl, Nat.le_of_ble_eq_true rfl⟩ ⟨Nat.le_of_ble_eq_true rfl, Nat.le_of_ble_eq_true rfl⟩ (Nat.le_of_ble_eq_true rfl) (fun _ _ _ h => h.elim) (fun v45 L45 G45 hp45 => ?_)
        obtain ⟨rfl, rfl, hg, f45⟩ := hp45
        have hF := (f45 x hxa).trans hF
        have hQ := (f45 q (Ne.symm haq)).trans hQ
        have hC := (f45 c (Ne.symm hac)).trans hC
        have fr := fm.a fr f45
        first
          | (exfalso; omega)
          | (rw [if_pos (by omega)] at hg ⊢
             rw [show trA y h = trA y g by unfold trA; rw [e3, e4]]
             exact z_iret hZ rfl (Nat.le_of_ble_eq_true rfl) (Nat.le_of_ble_eq_true rfl) dX8_turn_48 (bQ.yes hc29 b2_ne (by omega) hsv rfl fr A hF hg hQ hC))
      · have hz : ¬ _ := fun z => hc29 (goV_0.mpr z)
        refine z_iconst hZ dX8_turn_32 ?_
        exact z_iret hZ rfl (Nat.le_of_ble_eq_true rfl) (Nat.le_of_ble_eq_true rfl) dX8_turn_33 (by exact bQ.no hc29 b2_ne (by omega) fr A hF hg hQ hC)
    · refine z_iconst hZ dX8_turn_20 ?_
      refine z_goto hZ (tgt := 25) dX8_turn_21 rfl ?_
      refine z_iconst hZ dX8_turn_25 ?_
      refine z_cV hZ (As := [_, _, _]) rfl dX8_turn_26 ml_X8_146 wy_X8_goes (m_X8_goes l hx hF (by first | exact b2_in _ | omega) (by first | exact b2_in _ | omega) (by first | exact b2_in _ | omega)) (by assumption) (by assumption) rfl ⟨Nat.le_of_ble_eq_true rfl, Nat.le_of_ble_eq_true rfl⟩ ⟨Nat.le_of_ble_eq_true rfl, Nat.le_of_ble_eq_true rfl⟩ (Nat.le_of_ble_eq_true rfl) (fun _ _ _ h => h.elim) (fun v26 L26 G26 hp26 => ?_)
      obtain ⟨rfl, rfl, hF, f26⟩ := hp26
      have hF := hF
      have hg := (f26 a (Ne.symm hxa)).trans hg
      have hQ := (f26 q (Ne.symm hxq)).trans hQ
      have hC := (f26 c (Ne.symm hxc)).trans hC
      have t := ms.of hx ha hxa hF hg
      have fr := fm.x fr f26
      refine z_if_ne_b hZ (tgt := 34) dX8_turn_29 rfl (fun hc29 => ?_) (fun hc29 => ?_)
      · have hz := goV_0.mp hc29
        have hz2 : -20 ≤ y ∧ y ≤ 20 := b2_ne.mp hz.1
        refine z_aload_n0 hZ dX8_turn_34 ?_
        refine z_cV hZ (As := []) rfl dX8_turn_35 ml_X8_150 wy_X8_saves (m_X8_saves l hx ha hxa hF hg hs) (by assumption) (by assumption) rfl ⟨Nat.le_of_ble_eq_true rfl, Nat.le_of_ble_eq_true rfl⟩ ⟨Nat.le_of_ble_eq_true rfl, Nat.le_of_ble_eq_true rfl⟩ (Nat.le_of_ble_eq_true rfl) (fun _ _ _ h => h.elim) (fun v35 L35 G35 hp35 => ?_)
        obtain ⟨rfl, rfl, ⟨h, hsv, hg⟩, hF, f35⟩ := hp35
        have hQ := (f35 q (Ne.symm hxq) (Ne.symm haq)).trans hQ
        have hC := (f35 c (Ne.symm hxc) (Ne.symm hac)).trans hC
        have fr := fm.xa fr f35
        have t := ms.of hx ha hxa hF hg
        have e0 := hsv.1 0 (by omega) (by omega)
        have e1 := hsv.1 1 (by omega) (by omega)
        have e2 := hsv.1 2 (by omega) (by omega)
        have e3 := hsv.1 3 (by omega) (by omega)
        have e4 := hsv.1 4 (by omega) (by omega)
        have e5 := hsv.1 5 (by omega) (by omega)
        refine z_aload_n0 hZ dX8_turn_38 ?_
        refine z_iconst hZ dX8_turn_39 ?_
        refine z_pf_X8_kind hZ dX8_turn_40 fl_X8_67 (by assumption) (by assumption) (fun F40 hF40 hf40 => ?_)
        have hF := hF40
        have hg := (hf40 a (Ne.symm hxa)).trans hg
        have hQ := (hf40 q (Ne.symm hxq)).trans hQ
        have hC := (hf40 c (Ne.symm hxc)).trans hC
        have t := ms.of hx ha hxa hF hg
        have fr := fm.x fr hf40
        refine z_aload_n0 hZ dX8_turn_43 ?_
        refine z_iload_n1 hZ dX8_turn_44 ?_
        refine z_cV hZ (As := [_]) rfl dX8_turn_45 ml_X8_88 wy_X8_turns (m_X8_turns l t (by omega) (by omega)) (by assumption) (by assumption) rfl ⟨Nat.le_of_ble_eq_true rfl, Nat.le_of_ble_eq_true rfl⟩ ⟨Nat.le_of_ble_eq_true rfl, Nat.le_of_ble_eq_true rfl⟩ (Nat.le_of_ble_eq_true rfl) (fun _ _ _ h => h.elim) (fun v45 L45 G45 hp45 => ?_)
        obtain ⟨rfl, rfl, hg, f45⟩ := hp45
        have hF := (f45 x hxa).trans hF
        have hQ := (f45 q (Ne.symm haq)).trans hQ
        have hC := (f45 c (Ne.symm hac)).trans hC
        have fr := fm.a fr f45
        first
          | (exfalso; omega)
          | (rw [if_pos (by omega)] at hg ⊢
             rw [show trA y h = trA y g by unfold trA; rw [e3, e4]]
             exact z_iret hZ rfl (Nat.le_of_ble_eq_true rfl) (Nat.le_of_ble_eq_true rfl) dX8_turn_48 (bQ.yes hc29 b2_ne (by omega) hsv rfl fr A hF hg hQ hC))
      · have hz : ¬ _ := fun z => hc29 (goV_0.mpr z)
        refine z_iconst hZ dX8_turn_32 ?_
        exact z_iret hZ rfl (Nat.le_of_ble_eq_true rfl) (Nat.le_of_ble_eq_true rfl) dX8_turn_33 (by exact bQ.no hc29 b2_ne (by omega) fr A hF hg hQ hC)
  exact hgo
set_option maxRecDepth 100000 in
set_option maxHeartbeats 4000000 in
theorem m_X8_changeCaves (l : Launch) {L : List Nat} {F : Nat → PE} {x a q c : Nat} {g : Int → Int} {sv th kd n pt tm sg : Int} {kp bf : Int → Int} (o : mo L F x a q c g sv th kd n pt tm sg kp bf) (v : vf g kd) (hs : 0 ≤ sv ∧ sv ≤ 6) {y : Int} (hy : -2147483648 ≤ y ∧ y ≤ 2147483647) : PM l yX8_changeCaves cX8_changeCaves 3 (some .int) (rm 3 0 0) L [.ref x, .int (iI y)] F (fun v9 L1 F1 => bQ (1 ≤ y ∧ y ≤ 8) True (g 5) (vCC y) L F x a q c g sv kd n pt tm sg kp bf v9 L1 F1) (fun _ _ _ => False) := by
  refine pm_of cd_X8_changeCaves (by decide +kernel) (Nat.le_of_ble_eq_true rfl) (fun ZZ hZ => ?_)
  have hgo : ZZ 0 0 0 [some (.ref x), some (.int (iI y)), none] [] L F := by
    obtain ⟨A, hF, hg, hQ, hC⟩ := o
    obtain ⟨⟨hx, ha, hqL, hcL⟩, hxa, hxq, hxc, haq, hac, hqc⟩ := id A
    have t := ms.of hx ha hxa hF hg
    have fr : fm x a q c F F := fm.rf
    have r := v.1
    have r4 : 0 ≤ g 4 ∧ g 4 ≤ 7 := by
      by_cases q : g 3 = 0
      · have z := v.2.1.2.1 q; omega
      · have z := v.2.1.2.2.1 (by omega); omega
    refine z_aload_n0 hZ dX8_changeCaves_0 ?_
    refine z_iload_n1 hZ dX8_changeCaves_1 ?_
    refine z_iconst hZ dX8_changeCaves_2 ?_
    refine z_bipush hZ dX8_changeCaves_3 rfl ?_
    refine z_cS hZ (As := [_, _, _]) rfl dX8_changeCaves_5 ml_X8_32 wy_X8_in (m_X8_in l (by omega) (by omega) (by omega)) ⟨Nat.le_of_ble_eq_true rfl, Nat.le_of_ble_eq_true rfl⟩ ⟨Nat.le_of_ble_eq_true rfl, Nat.le_of_ble_eq_true rfl⟩ (Nat.le_of_ble_eq_true rfl) (fun _ _ _ h => h.elim) (fun v5 L5 G5 hp5 => ?_)
    obtain ⟨rfl, rfl, rfl⟩ := hp5
    refine z_iconst hZ dX8_changeCaves_8 ?_
    refine z_iconst hZ dX8_changeCaves_9 ?_
    refine z_cV hZ (As := [_, _, _]) rfl dX8_changeCaves_10 ml_X8_146 wy_X8_goes (m_X8_goes l hx hF (by first | exact b2_in _ | omega) (by first | exact b2_in _ | omega) (by first | exact b2_in _ | omega)) (by assumption) (by assumption) rfl ⟨Nat.le_of_ble_eq_true rfl, Nat.le_of_ble_eq_true rfl⟩ ⟨Nat.le_of_ble_eq_true rfl, Nat.le_of_ble_eq_true rfl⟩ (Nat.le_of_ble_eq_true rfl) (fun _ _ _ h => h.elim) (fun v10 L10 G10 hp10 => ?_)
    obtain ⟨rfl, rfl, hF, f10⟩ := hp10
    have hF := hF
    have hg := (f10 a (Ne.symm hxa)).trans hg
    have hQ := (f10 q (Ne.symm hxq)).trans hQ
    have hC := (f10 c (Ne.symm hxc)).trans hC
    have t := ms.of hx ha hxa hF hg
    have fr := fm.x fr f10
    refine z_if_ne_b hZ (tgt := 18) dX8_changeCaves_13 rfl (fun hc13 => ?_) (fun hc13 => ?_)
    · refine z_aload_n0 hZ dX8_changeCaves_18 ?_
      refine z_cV hZ (As := []) rfl dX8_changeCaves_19 ml_X8_150 wy_X8_saves (m_X8_saves l hx ha hxa hF hg hs) (by assumption) (by assumption) rfl ⟨Nat.le_of_ble_eq_true rfl, Nat.le_of_ble_eq_true rfl⟩ ⟨Nat.le_of_ble_eq_true rfl, Nat.le_of_ble_eq_true rfl⟩ (Nat.le_of_ble_eq_true rfl) (fun _ _ _ h => h.elim) (fun v19 L19 G19 hp19 => ?_)
      obtain ⟨rfl, rfl, ⟨h, hsv, hg⟩, hF, f19⟩ := hp19
      have hQ := (f19 q (Ne.symm hxq) (Ne.symm haq)).trans hQ
      have hC := (f19 c (Ne.symm hxc) (Ne.symm hac)).trans hC
      have fr := fm.xa fr f19
      have t := ms.of hx ha hxa hF hg
      have e0 := hsv.1 0 (by omega) (by omega)
      have e1 := hsv.1 1 (by omega) (by omega)
      have e2 := hsv.1 2 (by omega) (by omega)
      have e3 := hsv.1 3 (by omega) (by omega)
      have e4 := hsv.1 4 (by omega) (by omega)
      have e5 := hsv.1 5 (by omega) (by omega)
      refine z_aload_n0 hZ dX8_changeCaves_22 ?_
      refine z_iconst hZ dX8_changeCaves_23 ?_
      refine z_pf_X8_kind hZ dX8_changeCaves_24 fl_X8_67 (by assumption) (by assumption) (fun F24 hF24 hf24 => ?_)
      have hF := hF24
      have hg := (hf24 a (Ne.symm hxa)).trans hg
      have hQ := (hf24 q (Ne.symm hxq)).trans hQ
      have hC := (hf24 c (Ne.symm hxc)).trans hC
      have t := ms.of hx ha hxa hF hg
      have fr := fm.x fr hf24
      refine z_aload_n0 hZ dX8_changeCaves_27 ?_
      refine z_gf_X8_s hZ dX8_changeCaves_28 fl_X8_7 (by assumption) (by assumption) ?_
      refine z_iconst hZ dX8_changeCaves_31 ?_
      refine z_iald hZ dX8_changeCaves_32 (by assumption) (by assumption) (by omega) (by first | exact (wu_n (by omega)).trans (by first | exact (wu_n (by omega)).trans (by first | exact (wu_n (by omega)).trans (by first | exact (wu_n (by omega)).trans (by first | exact (wu_n (by omega)).trans (by first | exact (wu_n (by omega)).trans (by first | exact if_neg (by omega) | rfl) | exact wu_s | exact wu_e (by omega) | exact if_neg (by omega) | rfl) | exact wu_s | exact wu_e (by omega) | exact if_neg (by omega) | rfl) | exact wu_s | exact wu_e (by omega) | exact if_neg (by omega) | rfl) | exact wu_s | exact wu_e (by omega) | exact if_neg (by omega) | rfl) | exact wu_s | exact wu_e (by omega) | exact if_neg (by omega) | rfl) | exact wu_s | exact wu_e (by omega) | exact if_neg (by omega) | rfl) ?_
      refine z_istore_n2 hZ dX8_changeCaves_33 (by decide) rfl ?_
      refine z_aload_n0 hZ dX8_changeCaves_34 ?_
      refine z_gf_X8_s hZ dX8_changeCaves_35 fl_X8_7 (by assumption) (by assumption) ?_
      refine z_iconst hZ dX8_changeCaves_38 ?_
      refine z_iload_n1 hZ dX8_changeCaves_39 ?_
      refine z_iastore hZ dX8_changeCaves_40 (by assumption) (by assumption) (by omega) (fun F40 hF40 hf40 => ?_)
      have hF := (hf40 x hxa).trans hF
      have hg := hF40
      have hQ := (hf40 q (Ne.symm haq)).trans hQ
      have hC := (hf40 c (Ne.symm hac)).trans hC
      have t := ms.of hx ha hxa hF hg
      have fr := fm.a fr hf40
      refine z_aload_n0 hZ dX8_changeCaves_41 ?_
      refine z_gf_X8_s hZ dX8_changeCaves_42 fl_X8_7 (by assumption) (by assumption) ?_
      refine z_iconst hZ dX8_changeCaves_45 ?_
      refine z_iald hZ dX8_changeCaves_46 (by assumption) (by assumption) (by omega) (by first | exact (wu_n (by omega)).trans (by first | exact (wu_n (by omega)).trans (by first | exact (wu_n (by omega)).trans (by first | exact (wu_n (by omega)).trans (by first | exact (wu_n (by omega)).trans (by first | exact (wu_n (by omega)).trans (by first | exact if_neg (by omega) | rfl) | exact wu_s | exact wu_e (by omega) | exact if_neg (by omega) | rfl) | exact wu_s | exact wu_e (by omega) | exact if_neg (by omega) | rfl) | exact wu_s | exact wu_e (by omega) | exact if_neg (by omega) | rfl) | exact wu_s | exact wu_e (by omega) | exact if_neg (by omega) | rfl) | exact wu_s | exact wu_e (by omega) | exact if_neg (by omega) | rfl) | exact wu_s | exact wu_e (by omega) | exact if_neg (by omega) | rfl) ?_
      refine z_iload_n1 hZ dX8_changeCaves_47 ?_
      refine z_icmp_le hZ (tgt := 102) dX8_changeCaves_48 rfl (by omega) (fun hc48 => ?_) (fun hc48 => ?_)
      · first
          | (have eN : vCC y h = wu h 5 y := if_neg (by omega)
             rw [← eN] at hg
             refine z_iload_n2 hZ dX8_changeCaves_102 (z_iret hZ rfl (Nat.le_of_ble_eq_true rfl) (Nat.le_of_ble_eq_true rfl) dX8_changeCaves_103 ?_)
             rw [e5]
             exact bQ.yes hc13 b2_ne ⟨fun _ => True.intro, fun _ => by decide⟩ hsv rfl fr A hF hg hQ hC)
          | (have eN : vCC y h = wu (wu (wu (wu h 5 y) 9 (h 9 + (h 3 - y))) 3 y) 4 (h 4) := (if_pos (by omega)).trans (by rw [if_pos (by omega)])
             rw [← eN] at hg
             refine z_iload_n2 hZ dX8_changeCaves_102 (z_iret hZ rfl (Nat.le_of_ble_eq_true rfl) (Nat.le_of_ble_eq_true rfl) dX8_changeCaves_103 ?_)
             rw [e5]
             exact bQ.yes hc13 b2_ne ⟨fun _ => True.intro, fun _ => by decide⟩ hsv rfl fr A hF hg hQ hC)
          | (have eN : vCC y h = wu (wu (wu (wu h 5 y) 9 (h 9 + (h 3 - y))) 3 y) 4 0 := (if_pos (by omega)).trans (by rw [if_neg (by omega)])
             rw [← eN] at hg
             refine z_iload_n2 hZ dX8_changeCaves_102 (z_iret hZ rfl (Nat.le_of_ble_eq_true rfl) (Nat.le_of_ble_eq_true rfl) dX8_changeCaves_103 ?_)
             rw [e5]
             exact bQ.yes hc13 b2_ne ⟨fun _ => True.intro, fun _ => by decide⟩ hsv rfl fr A hF hg hQ hC)
      · refine z_aload_n0 hZ dX8_changeCaves_51 ?_
        refine z_gf_X8_s hZ dX8_changeCaves_52 fl_X8_7 (by assumption) (by assumption) ?_
        refine z_bipush hZ dX8_changeCaves_55 rfl ?_
        refine z_dup2 hZ dX8_changeCaves_57 rfl rfl ?_
        refine z_iald hZ dX8_changeCaves_58 (by assumption) (by assumption) (by omega) (by first | exact (wu_n (by omega)).trans (by first | exact (wu_n (by omega)).trans (by first | exact (wu_n (by omega)).trans (by first | exact (wu_n (by omega)).trans (by first | exact (wu_n (by omega)).trans (by first | exact (wu_n (by omega)).trans (by first | exact if_neg (by omega) | rfl) | exact wu_s | exact wu_e (by omega) | exact if_neg (by omega) | rfl) | exact wu_s | exact wu_e (by omega) | exact if_neg (by omega) | rfl) | exact wu_s | exact wu_e (by omega) | exact if_neg (by omega) | rfl) | exact wu_s | exact wu_e (by omega) | exact if_neg (by omega) | rfl) | exact wu_s | exact wu_e (by omega) | exact if_neg (by omega) | rfl) | exact wu_s | exact wu_e (by omega) | exact if_neg (by omega) | rfl) ?_
        refine z_aload_n0 hZ dX8_changeCaves_59 ?_
        refine z_gf_X8_s hZ dX8_changeCaves_60 fl_X8_7 (by assumption) (by assumption) ?_
        refine z_iconst hZ dX8_changeCaves_63 ?_
        refine z_iald hZ dX8_changeCaves_64 (by assumption) (by assumption) (by omega) (by first | exact (wu_n (by omega)).trans (by first | exact (wu_n (by omega)).trans (by first | exact (wu_n (by omega)).trans (by first | exact (wu_n (by omega)).trans (by first | exact (wu_n (by omega)).trans (by first | exact (wu_n (by omega)).trans (by first | exact if_neg (by omega) | rfl) | exact wu_s | exact wu_e (by omega) | exact if_neg (by omega) | rfl) | exact wu_s | exact wu_e (by omega) | exact if_neg (by omega) | rfl) | exact wu_s | exact wu_e (by omega) | exact if_neg (by omega) | rfl) | exact wu_s | exact wu_e (by omega) | exact if_neg (by omega) | rfl) | exact wu_s | exact wu_e (by omega) | exact if_neg (by omega) | rfl) | exact wu_s | exact wu_e (by omega) | exact if_neg (by omega) | rfl) ?_
        refine z_iload_n1 hZ dX8_changeCaves_65 ?_
        refine z_isub hZ dX8_changeCaves_66 ?_
        refine z_iadd hZ dX8_changeCaves_67 ?_
        refine z_iastore hZ dX8_changeCaves_68 (by assumption) (by assumption) (by omega) (fun F68 hF68 hf68 => ?_)
        have hF := (hf68 x hxa).trans hF
        have hg := hF68
        have hQ := (hf68 q (Ne.symm haq)).trans hQ
        have hC := (hf68 c (Ne.symm hac)).trans hC
        have t := ms.of hx ha hxa hF hg
        have fr := fm.a fr hf68
        refine z_aload_n0 hZ dX8_changeCaves_69 ?_
        refine z_gf_X8_s hZ dX8_changeCaves_70 fl_X8_7 (by assumption) (by assumption) ?_
        refine z_iconst hZ dX8_changeCaves_73 ?_
        refine z_iload_n1 hZ dX8_changeCaves_74 ?_
        refine z_iastore hZ dX8_changeCaves_75 (by assumption) (by assumption) (by omega) (fun F75 hF75 hf75 => ?_)
        have hF := (hf75 x hxa).trans hF
        have hg := hF75
        have hQ := (hf75 q (Ne.symm haq)).trans hQ
        have hC := (hf75 c (Ne.symm hac)).trans hC
        have t := ms.of hx ha hxa hF hg
        have fr := fm.a fr hf75
        refine z_aload_n0 hZ dX8_changeCaves_76 ?_
        refine z_gf_X8_s hZ dX8_changeCaves_77 fl_X8_7 (by assumption) (by assumption) ?_
        refine z_iconst hZ dX8_changeCaves_80 ?_
        refine z_aload_n0 hZ dX8_changeCaves_81 ?_
        refine z_gf_X8_s hZ dX8_changeCaves_82 fl_X8_7 (by assumption) (by assumption) ?_
        refine z_iconst hZ dX8_changeCaves_85 ?_
        refine z_iald hZ dX8_changeCaves_86 (by assumption) (by assumption) (by omega) (by first | exact (wu_n (by omega)).trans (by first | exact (wu_n (by omega)).trans (by first | exact (wu_n (by omega)).trans (by first | exact (wu_n (by omega)).trans (by first | exact (wu_n (by omega)).trans (by first | exact (wu_n (by omega)).trans (by first | exact if_neg (by omega) | rfl) | exact wu_s | exact wu_e (by omega) | exact if_neg (by omega) | rfl) | exact wu_s | exact wu_e (by omega) | exact if_neg (by omega) | rfl) | exact wu_s | exact wu_e (by omega) | exact if_neg (by omega) | rfl) | exact wu_s | exact wu_e (by omega) | exact if_neg (by omega) | rfl) | exact wu_s | exact wu_e (by omega) | exact if_neg (by omega) | rfl) | exact wu_s | exact wu_e (by omega) | exact if_neg (by omega) | rfl) ?_
        refine z_iload_n1 hZ dX8_changeCaves_87 ?_
        refine z_icmp_ge hZ (tgt := 100) dX8_changeCaves_88 rfl (by omega) (fun hc88 => ?_) (fun hc88 => ?_)
        · refine z_iconst hZ dX8_changeCaves_100 ?_
          refine z_iastore hZ dX8_changeCaves_101 (by assumption) (by assumption) (by omega) (fun F101 hF101 hf101 => ?_)
          have hF := (hf101 x hxa).trans hF
          have hg := hF101
          have hQ := (hf101 q (Ne.symm haq)).trans hQ
          have hC := (hf101 c (Ne.symm hac)).trans hC
          have t := ms.of hx ha hxa hF hg
          have fr := fm.a fr hf101
          first
            | (have eN : vCC y h = wu h 5 y := if_neg (by omega)
               rw [← eN] at hg
               refine z_iload_n2 hZ dX8_changeCaves_102 (z_iret hZ rfl (Nat.le_of_ble_eq_true rfl) (Nat.le_of_ble_eq_true rfl) dX8_changeCaves_103 ?_)
               rw [e5]
               exact bQ.yes hc13 b2_ne ⟨fun _ => True.intro, fun _ => by decide⟩ hsv rfl fr A hF hg hQ hC)
            | (have eN : vCC y h = wu (wu (wu (wu h 5 y) 9 (h 9 + (h 3 - y))) 3 y) 4 (h 4) := (if_pos (by omega)).trans (by rw [if_pos (by omega)])
               rw [← eN] at hg
               refine z_iload_n2 hZ dX8_changeCaves_102 (z_iret hZ rfl (Nat.le_of_ble_eq_true rfl) (Nat.le_of_ble_eq_true rfl) dX8_changeCaves_103 ?_)
               rw [e5]
               exact bQ.yes hc13 b2_ne ⟨fun _ => True.intro, fun _ => by decide⟩ hsv rfl fr A hF hg hQ hC)
            | (have eN : vCC y h = wu (wu (wu (wu h 5 y) 9 (h 9 + (h 3 - y))) 3 y) 4 0 := (if_pos (by omega)).trans (by rw [if_neg (by omega)])
               rw [← eN] at hg
               refine z_iload_n2 hZ dX8_changeCaves_102 (z_iret hZ rfl (Nat.le_of_ble_eq_true rfl) (Nat.le_of_ble_eq_true rfl) dX8_changeCaves_103 ?_)
               rw [e5]
               exact bQ.yes hc13 b2_ne ⟨fun _ => True.intro, fun _ => by decide⟩ hsv rfl fr A hF hg hQ hC)
        · refine z_aload_n0 hZ dX8_changeCaves_91 ?_
          refine z_gf_X8_s hZ dX8_changeCaves_92 fl_X8_7 (by assumption) (by assumption) ?_
          refine z_iconst hZ dX8_changeCaves_95 ?_
          refine z_iald hZ dX8_changeCaves_96 (by assumption) (by assumption) (by omega) (by first | exact (wu_n (by omega)).trans (by first | exact (wu_n (by omega)).trans (by first | exact (wu_n (by omega)).trans (by first | exact (wu_n (by omega)).trans (by first | exact (wu_n (by omega)).trans (by first | exact (wu_n (by omega)).trans (by first | exact if_neg (by omega) | rfl) | exact wu_s | exact wu_e (by omega) | exact if_neg (by omega) | rfl) | exact wu_s | exact wu_e (by omega) | exact if_neg (by omega) | rfl) | exact wu_s | exact wu_e (by omega) | exact if_neg (by omega) | rfl) | exact wu_s | exact wu_e (by omega) | exact if_neg (by omega) | rfl) | exact wu_s | exact wu_e (by omega) | exact if_neg (by omega) | rfl) | exact wu_s | exact wu_e (by omega) | exact if_neg (by omega) | rfl) ?_
          refine z_goto hZ (tgt := 101) dX8_changeCaves_97 rfl ?_
          refine z_iastore hZ dX8_changeCaves_101 (by assumption) (by assumption) (by omega) (fun F101 hF101 hf101 => ?_)
          have hF := (hf101 x hxa).trans hF
          have hg := hF101
          have hQ := (hf101 q (Ne.symm haq)).trans hQ
          have hC := (hf101 c (Ne.symm hac)).trans hC
          have t := ms.of hx ha hxa hF hg
          have fr := fm.a fr hf101
          first
            | (have eN : vCC y h = wu h 5 y := if_neg (by omega)
               rw [← eN] at hg
               refine z_iload_n2 hZ dX8_changeCaves_102 (z_iret hZ rfl (Nat.le_of_ble_eq_true rfl) (Nat.le_of_ble_eq_true rfl) dX8_changeCaves_103 ?_)
               rw [e5]
               exact bQ.yes hc13 b2_ne ⟨fun _ => True.intro, fun _ => by decide⟩ hsv rfl fr A hF hg hQ hC)
            | (have eN : vCC y h = wu (wu (wu (wu h 5 y) 9 (h 9 + (h 3 - y))) 3 y) 4 (h 4) := (if_pos (by omega)).trans (by rw [if_pos (by omega)])
               rw [← eN] at hg
               refine z_iload_n2 hZ dX8_changeCaves_102 (z_iret hZ rfl (Nat.le_of_ble_eq_true rfl) (Nat.le_of_ble_eq_true rfl) dX8_changeCaves_103 ?_)
               rw [e5]
               exact bQ.yes hc13 b2_ne ⟨fun _ => True.intro, fun _ => by decide⟩ hsv rfl fr A hF hg hQ hC)
            | (have eN : vCC y h = wu (wu (wu (wu h 5 y) 9 (h 9 + (h 3 - y))) 3 y) 4 0 := (if_pos (by omega)).trans (by rw [if_neg (by omega)])
               rw [← eN] at hg
               refine z_iload_n2 hZ dX8_changeCaves_102 (z_iret hZ rfl (Nat.le_of_ble_eq_true rfl) (Nat.le_of_ble_eq_true rfl) dX8_changeCaves_103 ?_)
               rw [e5]
               exact bQ.yes hc13 b2_ne ⟨fun _ => True.intro, fun _ => by decide⟩ hsv rfl fr A hF hg hQ hC)
    · refine z_iconst hZ dX8_changeCaves_16 ?_
      exact z_iret hZ rfl (Nat.le_of_ble_eq_true rfl) (Nat.le_of_ble_eq_true rfl) dX8_changeCaves_17 (by exact bQ.no hc13 b2_ne ⟨fun _ => True.intro, fun _ => by decide⟩ fr A hF hg hQ hC)
  exact hgo

