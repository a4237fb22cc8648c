/-! THE MODEL, 10: what it tells; its constructor. -/
set_option maxRecDepth 100000 in
set_option maxHeartbeats 4000000 in
theorem m_X8_plain (l : Launch) {L : List Nat} {F : Nat → PE} {x a q c : Nat} {g : Int → Int} {sv th kd n pt tm sg : Int} {kp bf : Int → Int} (o : mo L F x a q c g sv th kd n pt tm sg kp bf) (v : vf g kd) {w : Int} (hw : 0 ≤ w ∧ w ≤ 9) : PM l yX8_plain cX8_plain 2 (some .int) (rm 1 0 0) L [.ref x, .int (iI w)] F (fun v9 L1 F1 => v9 = some (.int (iI (g w))) ∧ L = L1 ∧ fm x a q c F F1 ∧ mo L F1 x a q c g sv 0 kd n pt tm sg kp bf) (fun _ _ _ => False) := by
  refine pm_of cd_X8_plain (by decide +kernel) (Nat.le_of_ble_eq_true rfl) (fun ZZ hZ => ?_)
  have hgo : ZZ 0 0 0 [some (.ref x), some (.int (iI w))] [] L F := by
    obtain ⟨A, hF, hg, hQ, hC⟩ := id o
    obtain ⟨⟨hx, ha, hqL, hcL⟩, hxa, hxq, hxc, haq, hac, hqc⟩ := id A
    have t := ms.of hx ha hxa hF hg
    have fr : fm x a q c F F := fm.rf
    have r := v.1
    refine z_aload_n0 hZ dX8_plain_0 ?_
    refine z_iconst hZ dX8_plain_1 ?_
    refine z_pf_X8_thrown hZ dX8_plain_2 fl_X8_21 (by assumption) (by assumption) (fun F2 hF2 hf2 => ?_)
    have hF := hF2
    have hg := (hf2 a (Ne.symm hxa)).trans hg
    have hQ := (hf2 q (Ne.symm hxq)).trans hQ
    have hC := (hf2 c (Ne.symm hxc)).trans hC
    have t := ms.of hx ha hxa hF hg
    have fr := fm.x fr hf2
    refine z_aload_n0 hZ dX8_plain_5 ?_
    refine z_gf_X8_s hZ dX8_plain_6 fl_X8_7 (by assumption) (by assumption) ?_
    refine z_iload_n1 hZ dX8_plain_9 ?_
    refine z_iald hZ dX8_plain_10 (by assumption) (by assumption) (by omega) (by rfl) ?_
    exact z_iret hZ rfl (Nat.le_of_ble_eq_true rfl) (Nat.le_of_ble_eq_true rfl) dX8_plain_11 (by exact ⟨rfl, rfl, fr, A, hF, hg, hQ, hC⟩)
  exact hgo
set_option maxRecDepth 100000 in
set_option maxHeartbeats 4000000 in
theorem m_X8_length (l : Launch) {L : List Nat} {F : Nat → PE} {x a q c : Nat} {g : Int → Int} {sv th kd n pt tm sg : Int} {kp bf : Int → Int} (o : mo L F x a q c g sv th kd n pt tm sg kp bf) (v : vf g kd) : PM l yX8_length cX8_length 1 (some .int) (rm 2 0 0) L [.ref x] F (fun v9 L1 F1 => v9 = some (.int (iI (g 0))) ∧ L = L1 ∧ fm x a q c F F1 ∧ mo L F1 x a q c g sv 0 kd n pt tm sg kp bf) (fun _ _ _ => False) := by
  refine pm_of cd_X8_length (by decide +kernel) (Nat.le_of_ble_eq_true rfl) (fun ZZ hZ => ?_)
  have hgo : ZZ 0 0 0 [some (.ref x)] [] L F := by
    have hx := o.1.1.1
    have hF := o.2.1
    refine z_aload_n0 hZ dX8_length_0 ?_
    refine z_iconst hZ dX8_length_1 ?_
    refine z_cV hZ (As := [_]) rfl dX8_length_2 ml_X8_187 wy_X8_plain (m_X8_plain l o v (by omega)) (by assumption) (by assumption) rfl ⟨Nat.le_of_ble_eq_true rfl, Nat.le_of_ble_eq_true rfl⟩ ⟨Nat.le_of_ble_eq_true rfl, Nat.le_of_ble_eq_true rfl⟩ (Nat.le_of_ble_eq_true rfl) (fun _ _ _ h => h.elim) (fun v2 L2 G2 hp2 => ?_)
    obtain ⟨rfl, rfl, fr, oo⟩ := hp2
    exact z_iret hZ rfl (Nat.le_of_ble_eq_true rfl) (Nat.le_of_ble_eq_true rfl) dX8_length_5 (by exact ⟨rfl, rfl, fr, oo⟩)
  exact hgo
set_option maxRecDepth 100000 in
set_option maxHeartbeats 4000000 in
theorem m_X8_point (l : Launch) {L : List Nat} {F : Nat → PE} {x a q c : Nat} {g : Int → Int} {sv th kd n pt tm sg : Int} {kp bf : Int → Int} (o : mo L F x a q c g sv th kd n pt tm sg kp bf) (v : vf g kd) : PM l yX8_point cX8_point 1 (some .int) (rm 2 0 0) L [.ref x] F (fun v9 L1 F1 => v9 = some (.int (iI (g 1))) ∧ L = L1 ∧ fm x a q c F F1 ∧ mo L F1 x a q c g sv 0 kd n pt tm sg kp bf) (fun _ _ _ => False) := by
  refine pm_of cd_X8_point (by decide +kernel) (Nat.le_of_ble_eq_true rfl) (fun ZZ hZ => ?_)
  have hgo : ZZ 0 0 0 [some (.ref x)] [] L F := by
    have hx := o.1.1.1
    have hF := o.2.1
    refine z_aload_n0 hZ dX8_point_0 ?_
    refine z_iconst hZ dX8_point_1 ?_
    refine z_cV hZ (As := [_]) rfl dX8_point_2 ml_X8_187 wy_X8_plain (m_X8_plain l o v (by omega)) (by assumption) (by assumption) rfl ⟨Nat.le_of_ble_eq_true rfl, Nat.le_of_ble_eq_true rfl⟩ ⟨Nat.le_of_ble_eq_true rfl, Nat.le_of_ble_eq_true rfl⟩ (Nat.le_of_ble_eq_true rfl) (fun _ _ _ h => h.elim) (fun v2 L2 G2 hp2 => ?_)
    obtain ⟨rfl, rfl, fr, oo⟩ := hp2
    exact z_iret hZ rfl (Nat.le_of_ble_eq_true rfl) (Nat.le_of_ble_eq_true rfl) dX8_point_5 (by exact ⟨rfl, rfl, fr, oo⟩)
  exact hgo
set_option maxRecDepth 100000 in
set_option maxHeartbeats 4000000 in
theorem m_X8_hoards (l : Launch) {L : List Nat} {F : Nat → PE} {x a q c : Nat} {g : Int → Int} {sv th kd n pt tm sg : Int} {kp bf : Int → Int} (o : mo L F x a q c g sv th kd n pt tm sg kp bf) (v : vf g kd) : PM l yX8_hoards cX8_hoards 1 (some .int) (rm 2 0 0) L [.ref x] F (fun v9 L1 F1 => v9 = some (.int (iI (g 3))) ∧ L = L1 ∧ fm x a q c F F1 ∧ mo L F1 x a q c g sv 0 kd n pt tm sg kp bf) (fun _ _ _ => False) := by
  refine pm_of cd_X8_hoards (by decide +kernel) (Nat.le_of_ble_eq_true rfl) (fun ZZ hZ => ?_)
  have hgo : ZZ 0 0 0 [some (.ref x)] [] L F := by
    have hx := o.1.1.1
    have hF := o.2.1
    refine z_aload_n0 hZ dX8_hoards_0 ?_
    refine z_iconst hZ dX8_hoards_1 ?_
    refine z_cV hZ (As := [_]) rfl dX8_hoards_2 ml_X8_187 wy_X8_plain (m_X8_plain l o v (by omega)) (by assumption) (by assumption) rfl ⟨Nat.le_of_ble_eq_true rfl, Nat.le_of_ble_eq_true rfl⟩ ⟨Nat.le_of_ble_eq_true rfl, Nat.le_of_ble_eq_true rfl⟩ (Nat.le_of_ble_eq_true rfl) (fun _ _ _ h => h.elim) (fun v2 L2 G2 hp2 => ?_)
    obtain ⟨rfl, rfl, fr, oo⟩ := hp2
    exact z_iret hZ rfl (Nat.le_of_ble_eq_true rfl) (Nat.le_of_ble_eq_true rfl) dX8_hoards_5 (by exact ⟨rfl, rfl, fr, oo⟩)
  exact hgo
set_option maxRecDepth 100000 in
set_option maxHeartbeats 4000000 in
theorem m_X8_caves (l : Launch) {L : List Nat} {F : Nat → PE} {x a q c : Nat} {g : Int → Int} {sv th kd n pt tm sg : Int} {kp bf : Int → Int} (o : mo L F x a q c g sv th kd n pt tm sg kp bf) (v : vf g kd) : PM l yX8_caves cX8_caves 1 (some .int) (rm 2 0 0) L [.ref x] F (fun v9 L1 F1 => v9 = some (.int (iI (g 5))) ∧ L = L1 ∧ fm x a q c F F1 ∧ mo L F1 x a q c g sv 0 kd n pt tm sg kp bf) (fun _ _ _ => False) := by
  refine pm_of cd_X8_caves (by decide +kernel) (Nat.le_of_ble_eq_true rfl) (fun ZZ hZ => ?_)
  have hgo : ZZ 0 0 0 [some (.ref x)] [] L F := by
    have hx := o.1.1.1
    have hF := o.2.1
    refine z_aload_n0 hZ dX8_caves_0 ?_
    refine z_iconst hZ dX8_caves_1 ?_
    refine z_cV hZ (As := [_]) rfl dX8_caves_2 ml_X8_187 wy_X8_plain (m_X8_plain l o v (by omega)) (by assumption) (by assumption) rfl ⟨Nat.le_of_ble_eq_true rfl, Nat.le_of_ble_eq_true rfl⟩ ⟨Nat.le_of_ble_eq_true rfl, Nat.le_of_ble_eq_true rfl⟩ (Nat.le_of_ble_eq_true rfl) (fun _ _ _ h => h.elim) (fun v2 L2 G2 hp2 => ?_)
    obtain ⟨rfl, rfl, fr, oo⟩ := hp2
    exact z_iret hZ rfl (Nat.le_of_ble_eq_true rfl) (Nat.le_of_ble_eq_true rfl) dX8_caves_5 (by exact ⟨rfl, rfl, fr, oo⟩)
  exact hgo
set_option maxRecDepth 100000 in
set_option maxHeartbeats 4000000 in
theorem m_X8_killed (l : Launch) {L : List Nat} {F : Nat → PE} {x a q c : Nat} {g : Int → Int} {sv th kd n pt tm sg : Int} {kp bf : Int → Int} (o : mo L F x a q c g sv th kd n pt tm sg kp bf) (v : vf g kd) : PM l yX8_killed cX8_killed 1 (some .int) (rm 2 0 0) L [.ref x] F (fun v9 L1 F1 => v9 = some (.int (iI (g 6))) ∧ L = L1 ∧ fm x a q c F F1 ∧ mo L F1 x a q c g sv 0 kd n pt tm sg kp bf) (fun _ _ _ => False) := by
  refine pm_of cd_X8_killed (by decide +kernel) (Nat.le_of_ble_eq_true rfl) (fun ZZ hZ => ?_)
  have hgo : ZZ 0 0 0 [some (.ref x)] [] L F := by
    have hx := o.1.1.1
    have hF := o.2.1
    refine z_aload_n0 hZ dX8_killed_0 ?_
    refine z_bipush hZ dX8_killed_1 rfl ?_
    refine z_cV hZ (As := [_]) rfl dX8_killed_3 ml_X8_187 wy_X8_plain (m_X8_plain l o v (by omega)) (by assumption) (by assumption) rfl ⟨Nat.le_of_ble_eq_true rfl, Nat.le_of_ble_eq_true rfl⟩ ⟨Nat.le_of_ble_eq_true rfl, Nat.le_of_ble_eq_true rfl⟩ (Nat.le_of_ble_eq_true rfl) (fun _ _ _ h => h.elim) (fun v3 L3 G3 hp3 => ?_)
    obtain ⟨rfl, rfl, fr, oo⟩ := hp3
    exact z_iret hZ rfl (Nat.le_of_ble_eq_true rfl) (Nat.le_of_ble_eq_true rfl) dX8_killed_6 (by exact ⟨rfl, rfl, fr, oo⟩)
  exact hgo
set_option maxRecDepth 100000 in
set_option maxHeartbeats 4000000 in
theorem m_X8_yanked (l : Launch) {L : List Nat} {F : Nat → PE} {x a q c : Nat} {g : Int → Int} {sv th kd n pt tm sg : Int} {kp bf : Int → Int} (o : mo L F x a q c g sv th kd n pt tm sg kp bf) (v : vf g kd) : PM l yX8_yanked cX8_yanked 1 (some .int) (rm 2 0 0) L [.ref x] F (fun v9 L1 F1 => v9 = some (.int (iI (g 7))) ∧ L = L1 ∧ fm x a q c F F1 ∧ mo L F1 x a q c g sv 0 kd n pt tm sg kp bf) (fun _ _ _ => False) := by
  refine pm_of cd_X8_yanked (by decide +kernel) (Nat.le_of_ble_eq_true rfl) (fun ZZ hZ => ?_)
  have hgo : ZZ 0 0 0 [some (.ref x)] [] L F := by
    have hx := o.1.1.1
    have hF := o.2.1
    refine z_aload_n0 hZ dX8_yanked_0 ?_
    refine z_bipush hZ dX8_yanked_1 rfl ?_
    refine z_cV hZ (As := [_]) rfl dX8_yanked_3 ml_X8_187 wy_X8_plain (m_X8_plain l o v (by omega)) (by assumption) (by assumption) rfl ⟨Nat.le_of_ble_eq_true rfl, Nat.le_of_ble_eq_true rfl⟩ ⟨Nat.le_of_ble_eq_true rfl, Nat.le_of_ble_eq_true rfl⟩ (Nat.le_of_ble_eq_true rfl) (fun _ _ _ h => h.elim) (fun v3 L3 G3 hp3 => ?_)
    obtain ⟨rfl, rfl, fr, oo⟩ := hp3
    exact z_iret hZ rfl (Nat.le_of_ble_eq_true rfl) (Nat.le_of_ble_eq_true rfl) dX8_yanked_6 (by exact ⟨rfl, rfl, fr, oo⟩)
  exact hgo
set_option maxRecDepth 100000 in
set_option maxHeartbeats 4000000 in
theorem m_X8_written (l : Launch) {L : List Nat} {F : Nat → PE} {x a q c : Nat} {g : Int → Int} {sv th kd n pt tm sg : Int} {kp bf : Int → Int} (o : mo L F x a q c g sv th kd n pt tm sg kp bf) (v : vf g kd) : PM l yX8_written cX8_written 1 (some .int) (rm 2 0 0) L [.ref x] F (fun v9 L1 F1 => v9 = some (.int (iI (g 8))) ∧ L = L1 ∧ fm x a q c F F1 ∧ mo L F1 x a q c g sv 0 kd n pt tm sg kp bf) (fun _ _ _ => False) := by
  refine pm_of cd_X8_written (by decide +kernel) (Nat.le_of_ble_eq_true rfl) (fun ZZ hZ => ?_)
  have hgo : ZZ 0 0 0 [some (.ref x)] [] L F := by
    have hx := o.1.1.1
    have hF := o.2.1
    refine z_aload_n0 hZ dX8_written_0 ?_
    refine z_bipush hZ dX8_written_1 rfl ?_
    refine z_cV hZ (As := [_]) rfl dX8_written_3 ml_X8_187 wy_X8_plain (m_X8_plain l o v (by omega)) (by assumption) (by assumption) rfl ⟨Nat.le_of_ble_eq_true rfl, Nat.le_of_ble_eq_true rfl⟩ ⟨Nat.le_of_ble_eq_true rfl, Nat.le_of_ble_eq_true rfl⟩ (Nat.le_of_ble_eq_true rfl) (fun _ _ _ h => h.elim) (fun v3 L3 G3 hp3 => ?_)
    obtain ⟨rfl, rfl, fr, oo⟩ := hp3
    exact z_iret hZ rfl (Nat.le_of_ble_eq_true rfl) (Nat.le_of_ble_eq_true rfl) dX8_written_6 (by exact ⟨rfl, rfl, fr, oo⟩)
  exact hgo
set_option maxRecDepth 100000 in
set_option maxHeartbeats 4000000 in
theorem m_X8_lostHoards (l : Launch) {L : List Nat} {F : Nat → PE} {x a q c : Nat} {g : Int → Int} {sv th kd n pt tm sg : Int} {kp bf : Int → Int} (o : mo L F x a q c g sv th kd n pt tm sg kp bf) (v : vf g kd) : PM l yX8_lostHoards cX8_lostHoards 1 (some .int) (rm 2 0 0) L [.ref x] F (fun v9 L1 F1 => v9 = some (.int (iI (g 9))) ∧ L = L1 ∧ fm x a q c F F1 ∧ mo L F1 x a q c g sv 0 kd n pt tm sg kp bf) (fun _ _ _ => False) := by
  refine pm_of cd_X8_lostHoards (by decide +kernel) (Nat.le_of_ble_eq_true rfl) (fun ZZ hZ => ?_)
  have hgo : ZZ 0 0 0 [some (.ref x)] [] L F := by
    have hx := o.1.1.1
    have hF := o.2.1
    refine z_aload_n0 hZ dX8_lostHoards_0 ?_
    refine z_bipush hZ dX8_lostHoards_1 rfl ?_
    refine z_cV hZ (As := [_]) rfl dX8_lostHoards_3 ml_X8_187 wy_X8_plain (m_X8_plain l o v (by omega)) (by assumption) (by assumption) rfl ⟨Nat.le_of_ble_eq_true rfl, Nat.le_of_ble_eq_true rfl⟩ ⟨Nat.le_of_ble_eq_true rfl, Nat.le_of_ble_eq_true rfl⟩ (Nat.le_of_ble_eq_true rfl) (fun _ _ _ h => h.elim) (fun v3 L3 G3 hp3 => ?_)
    obtain ⟨rfl, rfl, fr, oo⟩ := hp3
    exact z_iret hZ rfl (Nat.le_of_ble_eq_true rfl) (Nat.le_of_ble_eq_true rfl) dX8_lostHoards_6 (by exact ⟨rfl, rfl, fr, oo⟩)
  exact hgo
set_option maxRecDepth 100000 in
set_option maxHeartbeats 4000000 in
theorem m_X8_lengthByAccount (l : Launch) {L : List Nat} {F : Nat → PE} {x a q c : Nat} {g : Int → Int} {sv th kd n pt tm sg : Int} {kp bf : Int → Int} (o : mo L F x a q c g sv th kd n pt tm sg kp bf) (v : vf g kd) : PM l yX8_lengthByAccount cX8_lengthByAccount 1 (some .int) (rm 2 0 0) L [.ref x] F (fun v9 L1 F1 => v9 = some (.int (iI (g 0))) ∧ L = L1 ∧ fm x a q c F F1 ∧ mo L F1 x a q c g sv 0 kd n pt tm sg kp bf) (fun _ _ _ => False) := by
  refine pm_of cd_X8_lengthByAccount (by decide +kernel) (Nat.le_of_ble_eq_true rfl) (fun ZZ hZ => ?_)
  have hgo : ZZ 0 0 0 [some (.ref x)] [] L F := by
    have hx := o.1.1.1
    have hF := o.2.1
    refine z_aload_n0 hZ dX8_lengthByAccount_0 ?_
    refine z_iconst hZ dX8_lengthByAccount_1 ?_
    refine z_cV hZ (As := [_]) rfl dX8_lengthByAccount_2 ml_X8_187 wy_X8_plain (m_X8_plain l o v (by omega)) (by assumption) (by assumption) rfl ⟨Nat.le_of_ble_eq_true rfl, Nat.le_of_ble_eq_true rfl⟩ ⟨Nat.le_of_ble_eq_true rfl, Nat.le_of_ble_eq_true rfl⟩ (Nat.le_of_ble_eq_true rfl) (fun _ _ _ h => h.elim) (fun v2 L2 G2 hp2 => ?_)
    obtain ⟨rfl, rfl, fr, oo⟩ := hp2
    exact z_iret hZ rfl (Nat.le_of_ble_eq_true rfl) (Nat.le_of_ble_eq_true rfl) dX8_lengthByAccount_5 (by exact ⟨rfl, rfl, fr, oo⟩)
  exact hgo
set_option maxRecDepth 100000 in
set_option maxHeartbeats 4000000 in
theorem m_X8_savedStates (l : Launch) {L : List Nat} {F : Nat → PE} {x a q c : Nat} {g : Int → Int} {sv th kd n pt tm sg : Int} {kp bf : Int → Int} (o : mo L F x a q c g sv th kd n pt tm sg kp bf) (v : vf g kd) : PM l yX8_savedStates cX8_savedStates 1 (some .int) (rm 1 0 0) L [.ref x] F (fun v9 L1 F1 => v9 = some (.int (iI (sv))) ∧ L = L1 ∧ fm x a q c F F1 ∧ mo L F1 x a q c g sv 0 kd n pt tm sg kp bf) (fun _ _ _ => False) := by
  refine pm_of cd_X8_savedStates (by decide +kernel) (Nat.le_of_ble_eq_true rfl) (fun ZZ hZ => ?_)
  have hgo : ZZ 0 0 0 [some (.ref x)] [] L F := by
    obtain ⟨A, hF, hg, hQ, hC⟩ := id o
    obtain ⟨⟨hx, ha, hqL, hcL⟩, hxa, hxq, hxc, haq, hac, hqc⟩ := id A
    have t := ms.of hx ha hxa hF hg
    have fr : fm x a q c F F := fm.rf
    have r := v.1
    refine z_aload_n0 hZ dX8_savedStates_0 ?_
    refine z_iconst hZ dX8_savedStates_1 ?_
    refine z_pf_X8_thrown hZ dX8_savedStates_2 fl_X8_21 (by assumption) (by assumption) (fun F2 hF2 hf2 => ?_)
    have hF := hF2
    have hg := (hf2 a (Ne.symm hxa)).trans hg
    have hQ := (hf2 q (Ne.symm hxq)).trans hQ
    have hC := (hf2 c (Ne.symm hxc)).trans hC
    have t := ms.of hx ha hxa hF hg
    have fr := fm.x fr hf2
    refine z_aload_n0 hZ dX8_savedStates_5 ?_
    refine z_gf_X8_states hZ dX8_savedStates_6 fl_X8_25 (by assumption) (by assumption) ?_
    exact z_iret hZ rfl (Nat.le_of_ble_eq_true rfl) (Nat.le_of_ble_eq_true rfl) dX8_savedStates_9 (by exact ⟨rfl, rfl, fr, A, hF, hg, hQ, hC⟩)
  exact hgo
set_option maxRecDepth 100000 in
set_option maxHeartbeats 4000000 in
theorem m_X8_linesByEnds (l : Launch) {L : List Nat} {F : Nat → PE} {x a q c : Nat} {g : Int → Int} {sv th kd n pt tm sg : Int} {kp bf : Int → Int} (o : mo L F x a q c g sv th kd n pt tm sg kp bf) (v : vf g kd) : PM l yX8_linesByEnds cX8_linesByEnds 1 (some .int) (rm 3 0 0) L [.ref x] F (fun v9 L1 F1 => v9 = some (.int (iI (lnA g))) ∧ L = L1 ∧ fm x a q c F F1 ∧ mo L F1 x a q c g sv 0 kd n pt tm sg kp bf) (fun _ _ _ => False) := by
  refine pm_of cd_X8_linesByEnds (by decide +kernel) (Nat.le_of_ble_eq_true rfl) (fun ZZ hZ => ?_)
  have hgo : ZZ 0 0 0 [some (.ref x)] [] L F := by
    obtain ⟨A, hF, hg, hQ, hC⟩ := id o
    obtain ⟨⟨hx, ha, hqL, hcL⟩, hxa, hxq, hxc, haq, hac, hqc⟩ := id A
    have t := ms.of hx ha hxa hF hg
    have fr : fm x a q c F F := fm.rf
    have r := v.1
    refine z_aload_n0 hZ dX8_linesByEnds_0 ?_
    refine z_iconst hZ dX8_linesByEnds_1 ?_
    refine z_pf_X8_thrown hZ dX8_linesByEnds_2 fl_X8_21 (by assumption) (by assumption) (fun F2 hF2 hf2 => ?_)
    have hF := hF2
    have hg := (hf2 a (Ne.symm hxa)).trans hg
    have hQ := (hf2 q (Ne.symm hxq)).trans hQ
    have hC := (hf2 c (Ne.symm hxc)).trans hC
    have t := ms.of hx ha hxa hF hg
    have fr := fm.x fr hf2
    refine z_aload_n0 hZ dX8_linesByEnds_5 ?_
    refine z_aload_n0 hZ dX8_linesByEnds_6 ?_
    refine z_gf_X8_s hZ dX8_linesByEnds_7 fl_X8_7 (by assumption) (by assumption) ?_
    refine z_iconst hZ dX8_linesByEnds_10 ?_
    refine z_iald hZ dX8_linesByEnds_11 (by assumption) (by assumption) (by omega) (by rfl) ?_
    refine z_cV hZ (As := [_]) rfl dX8_linesByEnds_12 ml_X8_190 wy_X8_endsUntil (m_X8_endsUntil l t v (by omega)) (by assumption) (by assumption) rfl ⟨Nat.le_of_ble_eq_true rfl, Nat.le_of_ble_eq_true rfl⟩ ⟨Nat.le_of_ble_eq_true rfl, Nat.le_of_ble_eq_true rfl⟩ (Nat.le_of_ble_eq_true rfl) (fun _ _ _ h => h.elim) (fun v12 L12 G12 hp12 => ?_)
    obtain ⟨rfl, rfl, rfl⟩ := hp12
    refine z_iconst hZ dX8_linesByEnds_15 ?_
    refine z_iadd hZ dX8_linesByEnds_16 ?_
    exact z_iret hZ rfl (Nat.le_of_ble_eq_true rfl) (Nat.le_of_ble_eq_true rfl) dX8_linesByEnds_17 (by exact ⟨rfl, rfl, fr, A, hF, hg, hQ, hC⟩)
  exact hgo
set_option maxRecDepth 100000 in
set_option maxHeartbeats 4000000 in
theorem m_X8_linesByGoing (l : Launch) {L : List Nat} {F : Nat → PE} {x a q c : Nat} {g : Int → Int} {sv th kd n pt tm sg : Int} {kp bf : Int → Int} (o : mo L F x a q c g sv th kd n pt tm sg kp bf) (v : vf g kd) : PM l yX8_linesByGoing cX8_linesByGoing 1 (some .int) (rm 3 0 0) L [.ref x] F (fun v9 L1 F1 => v9 = some (.int (iI (lnA g))) ∧ L = L1 ∧ fm x a q c F F1 ∧ mo L F1 x a q c g sv 0 kd n pt tm sg kp bf) (fun _ _ _ => False) := by
  refine pm_of cd_X8_linesByGoing (by decide +kernel) (Nat.le_of_ble_eq_true rfl) (fun ZZ hZ => ?_)
  have hgo : ZZ 0 0 0 [some (.ref x)] [] L F := by
    obtain ⟨A, hF, hg, hQ, hC⟩ := id o
    obtain ⟨⟨hx, ha, hqL, hcL⟩, hxa, hxq, hxc, haq, hac, hqc⟩ := id A
    have t := ms.of hx ha hxa hF hg
    have fr : fm x a q c F F := fm.rf
    have r := v.1
    refine z_aload_n0 hZ dX8_linesByGoing_0 ?_
    refine z_iconst hZ dX8_linesByGoing_1 ?_
    refine z_pf_X8_thrown hZ dX8_linesByGoing_2 fl_X8_21 (by assumption) (by assumption) (fun F2 hF2 hf2 => ?_)
    have hF := hF2
    have hg := (hf2 a (Ne.symm hxa)).trans hg
    have hQ := (hf2 q (Ne.symm hxq)).trans hQ
    have hC := (hf2 c (Ne.symm hxc)).trans hC
    have t := ms.of hx ha hxa hF hg
    have fr := fm.x fr hf2
    refine z_aload_n0 hZ dX8_linesByGoing_5 ?_
    refine z_aload_n0 hZ dX8_linesByGoing_6 ?_
    refine z_gf_X8_s hZ dX8_linesByGoing_7 fl_X8_7 (by assumption) (by assumption) ?_
    refine z_iconst hZ dX8_linesByGoing_10 ?_
    refine z_iald hZ dX8_linesByGoing_11 (by assumption) (by assumption) (by omega) (by rfl) ?_
    refine z_cV hZ (As := [_]) rfl dX8_linesByGoing_12 ml_X8_190 wy_X8_endsUntil (m_X8_endsUntil l t v (by omega)) (by assumption) (by assumption) rfl ⟨Nat.le_of_ble_eq_true rfl, Nat.le_of_ble_eq_true rfl⟩ ⟨Nat.le_of_ble_eq_true rfl, Nat.le_of_ble_eq_true rfl⟩ (Nat.le_of_ble_eq_true rfl) (fun _ _ _ h => h.elim) (fun v12 L12 G12 hp12 => ?_)
    obtain ⟨rfl, rfl, rfl⟩ := hp12
    refine z_iconst hZ dX8_linesByGoing_15 ?_
    refine z_iadd hZ dX8_linesByGoing_16 ?_
    exact z_iret hZ rfl (Nat.le_of_ble_eq_true rfl) (Nat.le_of_ble_eq_true rfl) dX8_linesByGoing_17 (by exact ⟨rfl, rfl, fr, A, hF, hg, hQ, hC⟩)
  exact hgo
set_option maxRecDepth 100000 in
set_option maxHeartbeats 4000000 in
theorem m_X8_line (l : Launch) {L : List Nat} {F : Nat → PE} {x a q c : Nat} {g : Int → Int} {sv th kd n pt tm sg : Int} {kp bf : Int → Int} (o : mo L F x a q c g sv th kd n pt tm sg kp bf) (v : vf g kd) : PM l yX8_line cX8_line 1 (some .int) (rm 3 0 0) L [.ref x] F (fun v9 L1 F1 => v9 = some (.int (iI (liA g))) ∧ L = L1 ∧ fm x a q c F F1 ∧ mo L F1 x a q c g sv 0 kd n pt tm sg kp bf) (fun _ _ _ => False) := by
  refine pm_of cd_X8_line (by decide +kernel) (Nat.le_of_ble_eq_true rfl) (fun ZZ hZ => ?_)
  have hgo : ZZ 0 0 0 [some (.ref x)] [] L F := by
    obtain ⟨A, hF, hg, hQ, hC⟩ := id o
    obtain ⟨⟨hx, ha, hqL, hcL⟩, hxa, hxq, hxc, haq, hac, hqc⟩ := id A
    have t := ms.of hx ha hxa hF hg
    have fr : fm x a q c F F := fm.rf
    have r := v.1
    refine z_aload_n0 hZ dX8_line_0 ?_
    refine z_iconst hZ dX8_line_1 ?_
    refine z_pf_X8_thrown hZ dX8_line_2 fl_X8_21 (by assumption) (by assumption) (fun F2 hF2 hf2 => ?_)
    have hF := hF2
    have hg := (hf2 a (Ne.symm hxa)).trans hg
    have hQ := (hf2 q (Ne.symm hxq)).trans hQ
    have hC := (hf2 c (Ne.symm hxc)).trans hC
    have t := ms.of hx ha hxa hF hg
    have fr := fm.x fr hf2
    refine z_aload_n0 hZ dX8_line_5 ?_
    refine z_aload_n0 hZ dX8_line_6 ?_
    refine z_gf_X8_s hZ dX8_line_7 fl_X8_7 (by assumption) (by assumption) ?_
    refine z_iconst hZ dX8_line_10 ?_
    refine z_iald hZ dX8_line_11 (by assumption) (by assumption) (by omega) (by rfl) ?_
    refine z_cV hZ (As := [_]) rfl dX8_line_12 ml_X8_190 wy_X8_endsUntil (m_X8_endsUntil l t v (by omega)) (by assumption) (by assumption) rfl ⟨Nat.le_of_ble_eq_true rfl, Nat.le_of_ble_eq_true rfl⟩ ⟨Nat.le_of_ble_eq_true rfl, Nat.le_of_ble_eq_true rfl⟩ (Nat.le_of_ble_eq_true rfl) (fun _ _ _ h => h.elim) (fun v12 L12 G12 hp12 => ?_)
    obtain ⟨rfl, rfl, rfl⟩ := hp12
    exact z_iret hZ rfl (Nat.le_of_ble_eq_true rfl) (Nat.le_of_ble_eq_true rfl) dX8_line_15 (by exact ⟨rfl, rfl, fr, A, hF, hg, hQ, hC⟩)
  exact hgo
set_option maxRecDepth 100000 in
set_option maxHeartbeats 4000000 in
theorem m_X8_column (l : Launch) {L : List Nat} {F : Nat → PE} {x a q c : Nat} {g : Int → Int} {sv th kd n pt tm sg : Int} {kp bf : Int → Int} (o : mo L F x a q c g sv th kd n pt tm sg kp bf) (v : vf g kd) : PM l yX8_column cX8_column 1 (some .int) (rm 3 0 0) L [.ref x] F (fun v9 L1 F1 => v9 = some (.int (iI (g 1 - lB (g 0) (fT g) (g 1)))) ∧ L = L1 ∧ fm x a q c F F1 ∧ mo L F1 x a q c g sv 0 kd n pt tm sg kp bf) (fun _ _ _ => False) := by
  refine pm_of cd_X8_column (by decide +kernel) (Nat.le_of_ble_eq_true rfl) (fun ZZ hZ => ?_)
  have hgo : ZZ 0 0 0 [some (.ref x)] [] L F := by
    obtain ⟨A, hF, hg, hQ, hC⟩ := id o
    obtain ⟨⟨hx, ha, hqL, hcL⟩, hxa, hxq, hxc, haq, hac, hqc⟩ := id A
    have t := ms.of hx ha hxa hF hg
    have fr : fm x a q c F F := fm.rf
    have r := v.1
    refine z_aload_n0 hZ dX8_column_0 ?_
    refine z_iconst hZ dX8_column_1 ?_
    refine z_pf_X8_thrown hZ dX8_column_2 fl_X8_21 (by assumption) (by assumption) (fun F2 hF2 hf2 => ?_)
    have hF := hF2
    have hg := (hf2 a (Ne.symm hxa)).trans hg
    have hQ := (hf2 q (Ne.symm hxq)).trans hQ
    have hC := (hf2 c (Ne.symm hxc)).trans hC
    have t := ms.of hx ha hxa hF hg
    have fr := fm.x fr hf2
    refine z_aload_n0 hZ dX8_column_5 ?_
    refine z_gf_X8_s hZ dX8_column_6 fl_X8_7 (by assumption) (by assumption) ?_
    refine z_iconst hZ dX8_column_9 ?_
    refine z_iald hZ dX8_column_10 (by assumption) (by assumption) (by omega) (by rfl) ?_
    refine z_aload_n0 hZ dX8_column_11 ?_
    refine z_aload_n0 hZ dX8_column_12 ?_
    refine z_gf_X8_s hZ dX8_column_13 fl_X8_7 (by assumption) (by assumption) ?_
    refine z_iconst hZ dX8_column_16 ?_
    refine z_iald hZ dX8_column_17 (by assumption) (by assumption) (by omega) (by rfl) ?_
    refine z_cV hZ (As := [_]) rfl dX8_column_18 ml_X8_61 wy_X8_beginOf (m_X8_beginOf l t v (by omega)) (by assumption) (by assumption) rfl ⟨Nat.le_of_ble_eq_true rfl, Nat.le_of_ble_eq_true rfl⟩ ⟨Nat.le_of_ble_eq_true rfl, Nat.le_of_ble_eq_true rfl⟩ (Nat.le_of_ble_eq_true rfl) (fun _ _ _ h => h.elim) (fun v18 L18 G18 hp18 => ?_)
    obtain ⟨rfl, rfl, rfl⟩ := hp18
    refine z_isub hZ dX8_column_21 ?_
    exact z_iret hZ rfl (Nat.le_of_ble_eq_true rfl) (Nat.le_of_ble_eq_true rfl) dX8_column_22 (by exact ⟨rfl, rfl, fr, A, hF, hg, hQ, hC⟩)
  exact hgo
set_option maxRecDepth 100000 in
set_option maxHeartbeats 4000000 in
theorem m_X8_longestLine (l : Launch) {L : List Nat} {F : Nat → PE} {x a q c : Nat} {g : Int → Int} {sv th kd n pt tm sg : Int} {kp bf : Int → Int} (o : mo L F x a q c g sv th kd n pt tm sg kp bf) (v : vf g kd) : PM l yX8_longestLine cX8_longestLine 1 (some .int) (rm 4 0 0) L [.ref x] F (fun v9 L1 F1 => v9 = some (.int (iI (loA g))) ∧ L = L1 ∧ fm x a q c F F1 ∧ mo L F1 x a q c g sv 0 kd n pt tm sg kp bf) (fun _ _ _ => False) := by
  refine pm_of cd_X8_longestLine (by decide +kernel) (Nat.le_of_ble_eq_true rfl) (fun ZZ hZ => ?_)
  have hgo : ZZ 0 0 0 [some (.ref x)] [] L F := by
    obtain ⟨A, hF, hg, hQ, hC⟩ := id o
    obtain ⟨⟨hx, ha, hqL, hcL⟩, hxa, hxq, hxc, haq, hac, hqc⟩ := id A
    have t := ms.of hx ha hxa hF hg
    have fr : fm x a q c F F := fm.rf
    have r := v.1
    refine z_aload_n0 hZ dX8_longestLine_0 ?_
    refine z_iconst hZ dX8_longestLine_1 ?_
    refine z_pf_X8_thrown hZ dX8_longestLine_2 fl_X8_21 (by assumption) (by assumption) (fun F2 hF2 hf2 => ?_)
    have hF := hF2
    have hg := (hf2 a (Ne.symm hxa)).trans hg
    have hQ := (hf2 q (Ne.symm hxq)).trans hQ
    have hC := (hf2 c (Ne.symm hxc)).trans hC
    have t := ms.of hx ha hxa hF hg
    have fr := fm.x fr hf2
    refine z_aload_n0 hZ dX8_longestLine_5 ?_
    refine z_cV hZ (As := []) rfl dX8_longestLine_6 ml_X8_193 wy_X8_longest (m_X8_longest l t v) (by assumption) (by assumption) rfl ⟨Nat.le_of_ble_eq_true rfl, Nat.le_of_ble_eq_true rfl⟩ ⟨Nat.le_of_ble_eq_true rfl, Nat.le_of_ble_eq_true rfl⟩ (Nat.le_of_ble_eq_true rfl) (fun _ _ _ h => h.elim) (fun v6 L6 G6 hp6 => ?_)
    obtain ⟨rfl, rfl, rfl⟩ := hp6
    exact z_iret hZ rfl (Nat.le_of_ble_eq_true rfl) (Nat.le_of_ble_eq_true rfl) dX8_longestLine_9 (by exact ⟨rfl, rfl, fr, A, hF, hg, hQ, hC⟩)
  exact hgo
set_option maxRecDepth 100000 in
set_option maxHeartbeats 4000000 in
theorem m_X8_wordsByBegins (l : Launch) {L : List Nat} {F : Nat → PE} {x a q c : Nat} {g : Int → Int} {sv th kd n pt tm sg : Int} {kp bf : Int → Int} (o : mo L F x a q c g sv th kd n pt tm sg kp bf) (v : vf g kd) : PM l yX8_wordsByBegins cX8_wordsByBegins 1 (some .int) (rm 5 0 0) L [.ref x] F (fun v9 L1 F1 => v9 = some (.int (iI (wdA g))) ∧ L = L1 ∧ fm x a q c F F1 ∧ mo L F1 x a q c g sv 0 kd n pt tm sg kp bf) (fun _ _ _ => False) := by
  refine pm_of cd_X8_wordsByBegins (by decide +kernel) (Nat.le_of_ble_eq_true rfl) (fun ZZ hZ => ?_)
  have hgo : ZZ 0 0 0 [some (.ref x)] [] L F := by
    obtain ⟨A, hF, hg, hQ, hC⟩ := id o
    obtain ⟨⟨hx, ha, hqL, hcL⟩, hxa, hxq, hxc, haq, hac, hqc⟩ := id A
    have t := ms.of hx ha hxa hF hg
    have fr : fm x a q c F F := fm.rf
    have r := v.1
    refine z_aload_n0 hZ dX8_wordsByBegins_0 ?_
    refine z_iconst hZ dX8_wordsByBegins_1 ?_
    refine z_pf_X8_thrown hZ dX8_wordsByBegins_2 fl_X8_21 (by assumption) (by assumption) (fun F2 hF2 hf2 => ?_)
    have hF := hF2
    have hg := (hf2 a (Ne.symm hxa)).trans hg
    have hQ := (hf2 q (Ne.symm hxq)).trans hQ
    have hC := (hf2 c (Ne.symm hxc)).trans hC
    have t := ms.of hx ha hxa hF hg
    have fr := fm.x fr hf2
    refine z_aload_n0 hZ dX8_wordsByBegins_5 ?_
    refine z_cV hZ (As := []) rfl dX8_wordsByBegins_6 ml_X8_196 wy_X8_words (m_X8_words l t v) (by assumption) (by assumption) rfl ⟨Nat.le_of_ble_eq_true rfl, Nat.le_of_ble_eq_true rfl⟩ ⟨Nat.le_of_ble_eq_true rfl, Nat.le_of_ble_eq_true rfl⟩ (Nat.le_of_ble_eq_true rfl) (fun _ _ _ h => h.elim) (fun v6 L6 G6 hp6 => ?_)
    obtain ⟨rfl, rfl, rfl⟩ := hp6
    exact z_iret hZ rfl (Nat.le_of_ble_eq_true rfl) (Nat.le_of_ble_eq_true rfl) dX8_wordsByBegins_9 (by exact ⟨rfl, rfl, fr, A, hF, hg, hQ, hC⟩)
  exact hgo
set_option maxRecDepth 100000 in
set_option maxHeartbeats 4000000 in
theorem m_X8_wordsByGoing (l : Launch) {L : List Nat} {F : Nat → PE} {x a q c : Nat} {g : Int → Int} {sv th kd n pt tm sg : Int} {kp bf : Int → Int} (o : mo L F x a q c g sv th kd n pt tm sg kp bf) (v : vf g kd) : PM l yX8_wordsByGoing cX8_wordsByGoing 1 (some .int) (rm 5 0 0) L [.ref x] F (fun v9 L1 F1 => v9 = some (.int (iI (wdA g))) ∧ L = L1 ∧ fm x a q c F F1 ∧ mo L F1 x a q c g sv 0 kd n pt tm sg kp bf) (fun _ _ _ => False) := by
  refine pm_of cd_X8_wordsByGoing (by decide +kernel) (Nat.le_of_ble_eq_true rfl) (fun ZZ hZ => ?_)
  have hgo : ZZ 0 0 0 [some (.ref x)] [] L F := by
    obtain ⟨A, hF, hg, hQ, hC⟩ := id o
    obtain ⟨⟨hx, ha, hqL, hcL⟩, hxa, hxq, hxc, haq, hac, hqc⟩ := id A
    have t := ms.of hx ha hxa hF hg
    have fr : fm x a q c F F := fm.rf
    have r := v.1
    refine z_aload_n0 hZ dX8_wordsByGoing_0 ?_
    refine z_iconst hZ dX8_wordsByGoing_1 ?_
    refine z_pf_X8_thrown hZ dX8_wordsByGoing_2 fl_X8_21 (by assumption) (by assumption) (fun F2 hF2 hf2 => ?_)
    have hF := hF2
    have hg := (hf2 a (Ne.symm hxa)).trans hg
    have hQ := (hf2 q (Ne.symm hxq)).trans hQ
    have hC := (hf2 c (Ne.symm hxc)).trans hC
    have t := ms.of hx ha hxa hF hg
    have fr := fm.x fr hf2
    refine z_aload_n0 hZ dX8_wordsByGoing_5 ?_
    refine z_cV hZ (As := []) rfl dX8_wordsByGoing_6 ml_X8_196 wy_X8_words (m_X8_words l t v) (by assumption) (by assumption) rfl ⟨Nat.le_of_ble_eq_true rfl, Nat.le_of_ble_eq_true rfl⟩ ⟨Nat.le_of_ble_eq_true rfl, Nat.le_of_ble_eq_true rfl⟩ (Nat.le_of_ble_eq_true rfl) (fun _ _ _ h => h.elim) (fun v6 L6 G6 hp6 => ?_)
    obtain ⟨rfl, rfl, rfl⟩ := hp6
    exact z_iret hZ rfl (Nat.le_of_ble_eq_true rfl) (Nat.le_of_ble_eq_true rfl) dX8_wordsByGoing_9 (by exact ⟨rfl, rfl, fr, A, hF, hg, hQ, hC⟩)
  exact hgo
set_option maxRecDepth 100000 in
set_option maxHeartbeats 4000000 in
theorem m_X8_weight (l : Launch) {L : List Nat} {F : Nat → PE} {x a q c : Nat} {g : Int → Int} {sv th kd n pt tm sg : Int} {kp bf : Int → Int} (o : mo L F x a q c g sv th kd n pt tm sg kp bf) (v : vf g kd) : PM l yX8_weight cX8_weight 1 (some .int) (rm 2 0 0) L [.ref x] F (fun v9 L1 F1 => v9 = some (.int (iI (wgA g))) ∧ L = L1 ∧ fm x a q c F F1 ∧ mo L F1 x a q c g sv 0 kd n pt tm sg kp bf) (fun _ _ _ => False) := by
  refine pm_of cd_X8_weight (by decide +kernel) (Nat.le_of_ble_eq_true rfl) (fun ZZ hZ => ?_)
  have hgo : ZZ 0 0 0 [some (.ref x)] [] L F := by
    obtain ⟨A, hF, hg, hQ, hC⟩ := id o
    obtain ⟨⟨hx, ha, hqL, hcL⟩, hxa, hxq, hxc, haq, hac, hqc⟩ := id A
    have t := ms.of hx ha hxa hF hg
    have fr : fm x a q c F F := fm.rf
    have r := v.1
    refine z_aload_n0 hZ dX8_weight_0 ?_
    refine z_iconst hZ dX8_weight_1 ?_
    refine z_pf_X8_thrown hZ dX8_weight_2 fl_X8_21 (by assumption) (by assumption) (fun F2 hF2 hf2 => ?_)
    have hF := hF2
    have hg := (hf2 a (Ne.symm hxa)).trans hg
    have hQ := (hf2 q (Ne.symm hxq)).trans hQ
    have hC := (hf2 c (Ne.symm hxc)).trans hC
    have t := ms.of hx ha hxa hF hg
    have fr := fm.x fr hf2
    refine z_aload_n0 hZ dX8_weight_5 ?_
    refine z_cV hZ (As := []) rfl dX8_weight_6 ml_X8_202 wy_X8_sum (m_X8_sum l t v) (by assumption) (by assumption) rfl ⟨Nat.le_of_ble_eq_true rfl, Nat.le_of_ble_eq_true rfl⟩ ⟨Nat.le_of_ble_eq_true rfl, Nat.le_of_ble_eq_true rfl⟩ (Nat.le_of_ble_eq_true rfl) (fun _ _ _ h => h.elim) (fun v6 L6 G6 hp6 => ?_)
    obtain ⟨rfl, rfl, rfl⟩ := hp6
    exact z_iret hZ rfl (Nat.le_of_ble_eq_true rfl) (Nat.le_of_ble_eq_true rfl) dX8_weight_9 (by exact ⟨rfl, rfl, fr, A, hF, hg, hQ, hC⟩)
  exact hgo
set_option maxRecDepth 100000 in
set_option maxHeartbeats 4000000 in
theorem m_X8_isGrowing (l : Launch) {L : List Nat} {F : Nat → PE} {x a q c : Nat} {g : Int → Int} {sv th kd n pt tm sg : Int} {kp bf : Int → Int} (o : mo L F x a q c g sv th kd n pt tm sg kp bf) (v : vf g kd) : PM l yX8_isGrowing cX8_isGrowing 1 (some .boolean) (rm 1 0 0) L [.ref x] F (fun v9 L1 F1 => v9 = some (.int (iI (if kd = 1 then 1 else 0))) ∧ L = L1 ∧ fm x a q c F F1 ∧ mo L F1 x a q c g sv 0 kd n pt tm sg kp bf) (fun _ _ _ => False) := by
  refine pm_of cd_X8_isGrowing (by decide +kernel) (Nat.le_of_ble_eq_true rfl) (fun ZZ hZ => ?_)
  have hgo : ZZ 0 0 0 [some (.ref x)] [] L F := by
    obtain ⟨A, hF, hg, hQ, hC⟩ := id o
    obtain ⟨⟨hx, ha, hqL, hcL⟩, hxa, hxq, hxc, haq, hac, hqc⟩ := id A
    have t := ms.of hx ha hxa hF hg
    have fr : fm x a q c F F := fm.rf
    have r := v.1
    have rk := v.2.1.2.2.2.1
    refine z_aload_n0 hZ dX8_isGrowing_0 ?_
    refine z_iconst hZ dX8_isGrowing_1 ?_
    refine z_pf_X8_thrown hZ dX8_isGrowing_2 fl_X8_21 (by assumption) (by assumption) (fun F2 hF2 hf2 => ?_)
    have hF := hF2
    have hg := (hf2 a (Ne.symm hxa)).trans hg
    have hQ := (hf2 q (Ne.symm hxq)).trans hQ
    have hC := (hf2 c (Ne.symm hxc)).trans hC
    have t := ms.of hx ha hxa hF hg
    have fr := fm.x fr hf2
    refine z_aload_n0 hZ dX8_isGrowing_5 ?_
    refine z_gf_X8_kind hZ dX8_isGrowing_6 fl_X8_67 (by assumption) (by assumption) ?_
    refine z_iconst hZ dX8_isGrowing_9 ?_
    refine z_icmp_ne hZ (tgt := 17) dX8_isGrowing_10 rfl (by omega) (fun hc10 => ?_) (fun hc10 => ?_)
    · refine z_iconst hZ dX8_isGrowing_17 ?_
      exact z_zret hZ rfl (Nat.le_of_ble_eq_true rfl) (Nat.le_of_ble_eq_true rfl) dX8_isGrowing_18 (by omega) (by
            refine ⟨pv ?_, rfl, fr, A, hF, hg, hQ, hC⟩
            first
              | rw [if_pos (by omega)]
              | rw [if_neg (by omega)])
    · refine z_iconst hZ dX8_isGrowing_13 ?_
      refine z_goto hZ (tgt := 18) dX8_isGrowing_14 rfl ?_
      exact z_zret hZ rfl (Nat.le_of_ble_eq_true rfl) (Nat.le_of_ble_eq_true rfl) dX8_isGrowing_18 (by omega) (by
            refine ⟨pv ?_, rfl, fr, A, hF, hg, hQ, hC⟩
            first
              | rw [if_pos (by omega)]
              | rw [if_neg (by omega)])
  exact hgo
set_option maxRecDepth 100000 in
set_option maxHeartbeats 4000000 in
theorem m_X8_canTurnYank (l : Launch) {L : List Nat} {F : Nat → PE} {x a q c : Nat} {g : Int → Int} {sv th kd n pt tm sg : Int} {kp bf : Int → Int} (o : mo L F x a q c g sv th kd n pt tm sg kp bf) (v : vf g kd) : PM l yX8_canTurnYank cX8_canTurnYank 1 (some .boolean) (rm 1 0 0) L [.ref x] F (fun v9 L1 F1 => v9 = some (.int (iI (if kd = 2 then 1 else 0))) ∧ L = L1 ∧ fm x a q c F F1 ∧ mo L F1 x a q c g sv 0 kd n pt tm sg kp bf) (fun _ _ _ => False) := by
  refine pm_of cd_X8_canTurnYank (by decide +kernel) (Nat.le_of_ble_eq_true rfl) (fun ZZ hZ => ?_)
  have hgo : ZZ 0 0 0 [some (.ref x)] [] L F := by
    obtain ⟨A, hF, hg, hQ, hC⟩ := id o
    obtain ⟨⟨hx, ha, hqL, hcL⟩, hxa, hxq, hxc, haq, hac, hqc⟩ := id A
    have t := ms.of hx ha hxa hF hg
    have fr : fm x a q c F F := fm.rf
    have r := v.1
    have rk := v.2.1.2.2.2.1
    refine z_aload_n0 hZ dX8_canTurnYank_0 ?_
    refine z_iconst hZ dX8_canTurnYank_1 ?_
    refine z_pf_X8_thrown hZ dX8_canTurnYank_2 fl_X8_21 (by assumption) (by assumption) (fun F2 hF2 hf2 => ?_)
    have hF := hF2
    have hg := (hf2 a (Ne.symm hxa)).trans hg
    have hQ := (hf2 q (Ne.symm hxq)).trans hQ
    have hC := (hf2 c (Ne.symm hxc)).trans hC
    have t := ms.of hx ha hxa hF hg
    have fr := fm.x fr hf2
    refine z_aload_n0 hZ dX8_canTurnYank_5 ?_
    refine z_gf_X8_kind hZ dX8_canTurnYank_6 fl_X8_67 (by assumption) (by assumption) ?_
    refine z_iconst hZ dX8_canTurnYank_9 ?_
    refine z_icmp_ne hZ (tgt := 17) dX8_canTurnYank_10 rfl (by omega) (fun hc10 => ?_) (fun hc10 => ?_)
    · refine z_iconst hZ dX8_canTurnYank_17 ?_
      exact z_zret hZ rfl (Nat.le_of_ble_eq_true rfl) (Nat.le_of_ble_eq_true rfl) dX8_canTurnYank_18 (by omega) (by
            refine ⟨pv ?_, rfl, fr, A, hF, hg, hQ, hC⟩
            first
              | rw [if_pos (by omega)]
              | rw [if_neg (by omega)])
    · refine z_iconst hZ dX8_canTurnYank_13 ?_
      refine z_goto hZ (tgt := 18) dX8_canTurnYank_14 rfl ?_
      exact z_zret hZ rfl (Nat.le_of_ble_eq_true rfl) (Nat.le_of_ble_eq_true rfl) dX8_canTurnYank_18 (by omega) (by
            refine ⟨pv ?_, rfl, fr, A, hF, hg, hQ, hC⟩
            first
              | rw [if_pos (by omega)]
              | rw [if_neg (by omega)])
  exact hgo
set_option maxRecDepth 100000 in
set_option maxHeartbeats 4000000 in
theorem m_X8_markAt (l : Launch) {L : List Nat} {F : Nat → PE} {x a q c : Nat} {g : Int → Int} {sv th kd n pt tm sg : Int} {kp bf : Int → Int} (o : mo L F x a q c g sv th kd n pt tm sg kp bf) (v : vf g kd) : PM l yX8_markAt cX8_markAt 1 (some .int) (rm 2 0 0) L [.ref x] F (fun v9 L1 F1 => L = L1 ∧ fm x a q c F F1 ∧ ((g 2 ≠ -1 ∧ v9 = some (.int (iI (g 2))) ∧ mo L F1 x a q c g sv 0 kd n pt tm sg kp bf) ∨ (¬ (g 2 ≠ -1) ∧ v9 = some (.int (iI 0)) ∧ mo L F1 x a q c g sv 1 kd n pt tm sg kp bf))) (fun _ _ _ => False) := by
  refine pm_of cd_X8_markAt (by decide +kernel) (Nat.le_of_ble_eq_true rfl) (fun ZZ hZ => ?_)
  have hgo : ZZ 0 0 0 [some (.ref x)] [] L F := by
    obtain ⟨A, hF, hg, hQ, hC⟩ := id o
    obtain ⟨⟨hx, ha, hqL, hcL⟩, hxa, hxq, hxc, haq, hac, hqc⟩ := id A
    have t := ms.of hx ha hxa hF hg
    have fr : fm x a q c F F := fm.rf
    have r := v.1
    refine z_aload_n0 hZ dX8_markAt_0 ?_
    refine z_aload_n0 hZ dX8_markAt_1 ?_
    refine z_gf_X8_s hZ dX8_markAt_2 fl_X8_7 (by assumption) (by assumption) ?_
    refine z_iconst hZ dX8_markAt_5 ?_
    refine z_iald hZ dX8_markAt_6 (by assumption) (by assumption) (by omega) (by rfl) ?_
    refine z_if_lt hZ (tgt := 14) dX8_markAt_7 rfl (by omega) (fun hc7 => ?_) (fun hc7 => ?_)
    · refine z_iconst hZ dX8_markAt_14 ?_
      refine z_iconst hZ dX8_markAt_15 ?_
      refine z_iconst hZ dX8_markAt_16 ?_
      refine z_cV hZ (As := [_, _, _]) rfl dX8_markAt_17 ml_X8_146 wy_X8_goes (m_X8_goes l hx hF (by first | exact b2_in _ | omega) (by first | exact b2_in _ | omega) (by first | exact b2_in _ | omega)) (by assumption) (by assumption) rfl ⟨Nat.le_of_ble_eq_true rfl, Nat.le_of_ble_eq_true rfl⟩ ⟨Nat.le_of_ble_eq_true rfl, Nat.le_of_ble_eq_true rfl⟩ (Nat.le_of_ble_eq_true rfl) (fun _ _ _ h => h.elim) (fun v17 L17 G17 hp17 => ?_)
      obtain ⟨rfl, rfl, hF, f17⟩ := hp17
      have hF := hF
      have hg := (f17 a (Ne.symm hxa)).trans hg
      have hQ := (f17 q (Ne.symm hxq)).trans hQ
      have hC := (f17 c (Ne.symm hxc)).trans hC
      have t := ms.of hx ha hxa hF hg
      have fr := fm.x fr f17
      refine z_if_eq_b hZ (tgt := 32) dX8_markAt_20 rfl (fun hc20 => ?_) (fun hc20 => ?_)
      · have hz : ¬ _ := fun z => hc20 (goV_0.mpr z)
        refine z_iconst hZ dX8_markAt_32 ?_
        exact z_iret hZ rfl (Nat.le_of_ble_eq_true rfl) (Nat.le_of_ble_eq_true rfl) dX8_markAt_33 (by
            first
              | (exfalso; omega)
              | exact ⟨rfl, fr, Or.inl ⟨by omega, rfl, A, hF, hg, hQ, hC⟩⟩
              | exact ⟨rfl, fr, Or.inr ⟨by omega, rfl, A, hF, hg, hQ, hC⟩⟩)
      · have hz := goV_0.mp hc20
        refine z_aload_n0 hZ dX8_markAt_23 ?_
        refine z_gf_X8_s hZ dX8_markAt_24 fl_X8_7 (by assumption) (by assumption) ?_
        refine z_iconst hZ dX8_markAt_27 ?_
        refine z_iald hZ dX8_markAt_28 (by assumption) (by assumption) (by omega) (by rfl) ?_
        refine z_goto hZ (tgt := 33) dX8_markAt_29 rfl ?_
        exact z_iret hZ rfl (Nat.le_of_ble_eq_true rfl) (Nat.le_of_ble_eq_true rfl) dX8_markAt_33 (by
            first
              | (exfalso; omega)
              | exact ⟨rfl, fr, Or.inl ⟨by omega, rfl, A, hF, hg, hQ, hC⟩⟩
              | exact ⟨rfl, fr, Or.inr ⟨by omega, rfl, A, hF, hg, hQ, hC⟩⟩)
    · refine z_iconst hZ dX8_markAt_10 ?_
      refine z_goto hZ (tgt := 15) dX8_markAt_11 rfl ?_
      refine z_iconst hZ dX8_markAt_15 ?_
      refine z_iconst hZ dX8_markAt_16 ?_
      refine z_cV hZ (As := [_, _, _]) rfl dX8_markAt_17 ml_X8_146 wy_X8_goes (m_X8_goes l hx hF (by first | exact b2_in _ | omega) (by first | exact b2_in _ | omega) (by first | exact b2_in _ | omega)) (by assumption) (by assumption) rfl ⟨Nat.le_of_ble_eq_true rfl, Nat.le_of_ble_eq_true rfl⟩ ⟨Nat.le_of_ble_eq_true rfl, Nat.le_of_ble_eq_true rfl⟩ (Nat.le_of_ble_eq_true rfl) (fun _ _ _ h => h.elim) (fun v17 L17 G17 hp17 => ?_)
      obtain ⟨rfl, rfl, hF, f17⟩ := hp17
      have hF := hF
      have hg := (f17 a (Ne.symm hxa)).trans hg
      have hQ := (f17 q (Ne.symm hxq)).trans hQ
      have hC := (f17 c (Ne.symm hxc)).trans hC
      have t := ms.of hx ha hxa hF hg
      have fr := fm.x fr f17
      refine z_if_eq_b hZ (tgt := 32) dX8_markAt_20 rfl (fun hc20 => ?_) (fun hc20 => ?_)
      · have hz : ¬ _ := fun z => hc20 (goV_0.mpr z)
        refine z_iconst hZ dX8_markAt_32 ?_
        exact z_iret hZ rfl (Nat.le_of_ble_eq_true rfl) (Nat.le_of_ble_eq_true rfl) dX8_markAt_33 (by
            first
              | (exfalso; omega)
              | exact ⟨rfl, fr, Or.inl ⟨by omega, rfl, A, hF, hg, hQ, hC⟩⟩
              | exact ⟨rfl, fr, Or.inr ⟨by omega, rfl, A, hF, hg, hQ, hC⟩⟩)
      · have hz := goV_0.mp hc20
        refine z_aload_n0 hZ dX8_markAt_23 ?_
        refine z_gf_X8_s hZ dX8_markAt_24 fl_X8_7 (by assumption) (by assumption) ?_
        refine z_iconst hZ dX8_markAt_27 ?_
        refine z_iald hZ dX8_markAt_28 (by assumption) (by assumption) (by omega) (by rfl) ?_
        refine z_goto hZ (tgt := 33) dX8_markAt_29 rfl ?_
        exact z_iret hZ rfl (Nat.le_of_ble_eq_true rfl) (Nat.le_of_ble_eq_true rfl) dX8_markAt_33 (by
            first
              | (exfalso; omega)
              | exact ⟨rfl, fr, Or.inl ⟨by omega, rfl, A, hF, hg, hQ, hC⟩⟩
              | exact ⟨rfl, fr, Or.inr ⟨by omega, rfl, A, hF, hg, hQ, hC⟩⟩)
  exact hgo
set_option maxRecDepth 100000 in
set_option maxHeartbeats 4000000 in
theorem m_X8_between (l : Launch) {L : List Nat} {F : Nat → PE} {x a q c : Nat} {g : Int → Int} {sv th kd n pt tm sg : Int} {kp bf : Int → Int} (o : mo L F x a q c g sv th kd n pt tm sg kp bf) (v : vf g kd) : PM l yX8_between cX8_between 1 (some .int) (rm 2 0 0) L [.ref x] F (fun v9 L1 F1 => L = L1 ∧ fm x a q c F F1 ∧ ((g 2 ≠ -1 ∧ v9 = some (.int (iI (abI (g 2 - g 1)))) ∧ mo L F1 x a q c g sv 0 kd n pt tm sg kp bf) ∨ (¬ (g 2 ≠ -1) ∧ v9 = some (.int (iI 0)) ∧ mo L F1 x a q c g sv 1 kd n pt tm sg kp bf))) (fun _ _ _ => False) := by
  refine pm_of cd_X8_between (by decide +kernel) (Nat.le_of_ble_eq_true rfl) (fun ZZ hZ => ?_)
  have hgo : ZZ 0 0 0 [some (.ref x)] [] L F := by
    obtain ⟨A, hF, hg, hQ, hC⟩ := id o
    obtain ⟨⟨hx, ha, hqL, hcL⟩, hxa, hxq, hxc, haq, hac, hqc⟩ := id A
    have t := ms.of hx ha hxa hF hg
    have fr : fm x a q c F F := fm.rf
    have r := v.1
    refine z_aload_n0 hZ dX8_between_0 ?_
    refine z_aload_n0 hZ dX8_between_1 ?_
    refine z_gf_X8_s hZ dX8_between_2 fl_X8_7 (by assumption) (by assumption) ?_
    refine z_iconst hZ dX8_between_5 ?_
    refine z_iald hZ dX8_between_6 (by assumption) (by assumption) (by omega) (by rfl) ?_
    refine z_if_lt hZ (tgt := 14) dX8_between_7 rfl (by omega) (fun hc7 => ?_) (fun hc7 => ?_)
    · refine z_iconst hZ dX8_between_14 ?_
      refine z_iconst hZ dX8_between_15 ?_
      refine z_iconst hZ dX8_between_16 ?_
      refine z_cV hZ (As := [_, _, _]) rfl dX8_between_17 ml_X8_146 wy_X8_goes (m_X8_goes l hx hF (by first | exact b2_in _ | omega) (by first | exact b2_in _ | omega) (by first | exact b2_in _ | omega)) (by assumption) (by assumption) rfl ⟨Nat.le_of_ble_eq_true rfl, Nat.le_of_ble_eq_true rfl⟩ ⟨Nat.le_of_ble_eq_true rfl, Nat.le_of_ble_eq_true rfl⟩ (Nat.le_of_ble_eq_true rfl) (fun _ _ _ h => h.elim) (fun v17 L17 G17 hp17 => ?_)
      obtain ⟨rfl, rfl, hF, f17⟩ := hp17
      have hF := hF
      have hg := (f17 a (Ne.symm hxa)).trans hg
      have hQ := (f17 q (Ne.symm hxq)).trans hQ
      have hC := (f17 c (Ne.symm hxc)).trans hC
      have t := ms.of hx ha hxa hF hg
      have fr := fm.x fr f17
      refine z_if_eq_b hZ (tgt := 30) dX8_between_20 rfl (fun hc20 => ?_) (fun hc20 => ?_)
      · have hz : ¬ _ := fun z => hc20 (goV_0.mpr z)
        refine z_iconst hZ dX8_between_30 ?_
        exact z_iret hZ rfl (Nat.le_of_ble_eq_true rfl) (Nat.le_of_ble_eq_true rfl) dX8_between_31 (by
            first
              | (exfalso; omega)
              | exact ⟨rfl, fr, Or.inl ⟨by omega, rfl, A, hF, hg, hQ, hC⟩⟩
              | exact ⟨rfl, fr, Or.inr ⟨by omega, rfl, A, hF, hg, hQ, hC⟩⟩)
      · have hz := goV_0.mp hc20
        refine z_aload_n0 hZ dX8_between_23 ?_
        refine z_cV hZ (As := []) rfl dX8_between_24 ml_X8_84 wy_X8_apart (m_X8_apart l t (by omega)) (by assumption) (by assumption) rfl ⟨Nat.le_of_ble_eq_true rfl, Nat.le_of_ble_eq_true rfl⟩ ⟨Nat.le_of_ble_eq_true rfl, Nat.le_of_ble_eq_true rfl⟩ (Nat.le_of_ble_eq_true rfl) (fun _ _ _ h => h.elim) (fun v24 L24 G24 hp24 => ?_)
        obtain ⟨rfl, rfl, rfl⟩ := hp24
        refine z_goto hZ (tgt := 31) dX8_between_27 rfl ?_
        exact z_iret hZ rfl (Nat.le_of_ble_eq_true rfl) (Nat.le_of_ble_eq_true rfl) dX8_between_31 (by
            first
              | (exfalso; omega)
              | exact ⟨rfl, fr, Or.inl ⟨by omega, rfl, A, hF, hg, hQ, hC⟩⟩
              | exact ⟨rfl, fr, Or.inr ⟨by omega, rfl, A, hF, hg, hQ, hC⟩⟩)
    · refine z_iconst hZ dX8_between_10 ?_
      refine z_goto hZ (tgt := 15) dX8_between_11 rfl ?_
      refine z_iconst hZ dX8_between_15 ?_
      refine z_iconst hZ dX8_between_16 ?_
      refine z_cV hZ (As := [_, _, _]) rfl dX8_between_17 ml_X8_146 wy_X8_goes (m_X8_goes l hx hF (by first | exact b2_in _ | omega) (by first | exact b2_in _ | omega) (by first | exact b2_in _ | omega)) (by assumption) (by assumption) rfl ⟨Nat.le_of_ble_eq_true rfl, Nat.le_of_ble_eq_true rfl⟩ ⟨Nat.le_of_ble_eq_true rfl, Nat.le_of_ble_eq_true rfl⟩ (Nat.le_of_ble_eq_true rfl) (fun _ _ _ h => h.elim) (fun v17 L17 G17 hp17 => ?_)
      obtain ⟨rfl, rfl, hF, f17⟩ := hp17
      have hF := hF
      have hg := (f17 a (Ne.symm hxa)).trans hg
      have hQ := (f17 q (Ne.symm hxq)).trans hQ
      have hC := (f17 c (Ne.symm hxc)).trans hC
      have t := ms.of hx ha hxa hF hg
      have fr := fm.x fr f17
      refine z_if_eq_b hZ (tgt := 30) dX8_between_20 rfl (fun hc20 => ?_) (fun hc20 => ?_)
      · have hz : ¬ _ := fun z => hc20 (goV_0.mpr z)
        refine z_iconst hZ dX8_between_30 ?_
        exact z_iret hZ rfl (Nat.le_of_ble_eq_true rfl) (Nat.le_of_ble_eq_true rfl) dX8_between_31 (by
            first
              | (exfalso; omega)
              | exact ⟨rfl, fr, Or.inl ⟨by omega, rfl, A, hF, hg, hQ, hC⟩⟩
              | exact ⟨rfl, fr, Or.inr ⟨by omega, rfl, A, hF, hg, hQ, hC⟩⟩)
      · have hz := goV_0.mp hc20
        refine z_aload_n0 hZ dX8_between_23 ?_
        refine z_cV hZ (As := []) rfl dX8_between_24 ml_X8_84 wy_X8_apart (m_X8_apart l t (by omega)) (by assumption) (by assumption) rfl ⟨Nat.le_of_ble_eq_true rfl, Nat.le_of_ble_eq_true rfl⟩ ⟨Nat.le_of_ble_eq_true rfl, Nat.le_of_ble_eq_true rfl⟩ (Nat.le_of_ble_eq_true rfl) (fun _ _ _ h => h.elim) (fun v24 L24 G24 hp24 => ?_)
        obtain ⟨rfl, rfl, rfl⟩ := hp24
        refine z_goto hZ (tgt := 31) dX8_between_27 rfl ?_
        exact z_iret hZ rfl (Nat.le_of_ble_eq_true rfl) (Nat.le_of_ble_eq_true rfl) dX8_between_31 (by
            first
              | (exfalso; omega)
              | exact ⟨rfl, fr, Or.inl ⟨by omega, rfl, A, hF, hg, hQ, hC⟩⟩
              | exact ⟨rfl, fr, Or.inr ⟨by omega, rfl, A, hF, hg, hQ, hC⟩⟩)
  exact hgo
set_option maxRecDepth 100000 in
set_option maxHeartbeats 4000000 in
theorem m_X8_nextHoard (l : Launch) {L : List Nat} {F : Nat → PE} {x a q c : Nat} {g : Int → Int} {sv th kd n pt tm sg : Int} {kp bf : Int → Int} (o : mo L F x a q c g sv th kd n pt tm sg kp bf) (v : vf g kd) : PM l yX8_nextHoard cX8_nextHoard 1 (some .int) (rm 2 0 0) L [.ref x] F (fun v9 L1 F1 => L = L1 ∧ fm x a q c F F1 ∧ ((0 < g 3 ∧ v9 = some (.int (iI (g 4))) ∧ mo L F1 x a q c g sv 0 kd n pt tm sg kp bf) ∨ (¬ (0 < g 3) ∧ v9 = some (.int (iI 0)) ∧ mo L F1 x a q c g sv 1 kd n pt tm sg kp bf))) (fun _ _ _ => False) := by
  refine pm_of cd_X8_nextHoard (by decide +kernel) (Nat.le_of_ble_eq_true rfl) (fun ZZ hZ => ?_)
  have hgo : ZZ 0 0 0 [some (.ref x)] [] L F := by
    obtain ⟨A, hF, hg, hQ, hC⟩ := id o
    obtain ⟨⟨hx, ha, hqL, hcL⟩, hxa, hxq, hxc, haq, hac, hqc⟩ := id A
    have t := ms.of hx ha hxa hF hg
    have fr : fm x a q c F F := fm.rf
    have r := v.1
    refine z_aload_n0 hZ dX8_nextHoard_0 ?_
    refine z_aload_n0 hZ dX8_nextHoard_1 ?_
    refine z_gf_X8_s hZ dX8_nextHoard_2 fl_X8_7 (by assumption) (by assumption) ?_
    refine z_iconst hZ dX8_nextHoard_5 ?_
    refine z_iald hZ dX8_nextHoard_6 (by assumption) (by assumption) (by omega) (by rfl) ?_
    refine z_if_le hZ (tgt := 14) dX8_nextHoard_7 rfl (by omega) (fun hc7 => ?_) (fun hc7 => ?_)
    · refine z_iconst hZ dX8_nextHoard_14 ?_
      refine z_iconst hZ dX8_nextHoard_15 ?_
      refine z_iconst hZ dX8_nextHoard_16 ?_
      refine z_cV hZ (As := [_, _, _]) rfl dX8_nextHoard_17 ml_X8_146 wy_X8_goes (m_X8_goes l hx hF (by first | exact b2_in _ | omega) (by first | exact b2_in _ | omega) (by first | exact b2_in _ | omega)) (by assumption) (by assumption) rfl ⟨Nat.le_of_ble_eq_true rfl, Nat.le_of_ble_eq_true rfl⟩ ⟨Nat.le_of_ble_eq_true rfl, Nat.le_of_ble_eq_true rfl⟩ (Nat.le_of_ble_eq_true rfl) (fun _ _ _ h => h.elim) (fun v17 L17 G17 hp17 => ?_)
      obtain ⟨rfl, rfl, hF, f17⟩ := hp17
      have hF := hF
      have hg := (f17 a (Ne.symm hxa)).trans hg
      have hQ := (f17 q (Ne.symm hxq)).trans hQ
      have hC := (f17 c (Ne.symm hxc)).trans hC
      have t := ms.of hx ha hxa hF hg
      have fr := fm.x fr f17
      refine z_if_eq_b hZ (tgt := 32) dX8_nextHoard_20 rfl (fun hc20 => ?_) (fun hc20 => ?_)
      · have hz : ¬ _ := fun z => hc20 (goV_0.mpr z)
        refine z_iconst hZ dX8_nextHoard_32 ?_
        exact z_iret hZ rfl (Nat.le_of_ble_eq_true rfl) (Nat.le_of_ble_eq_true rfl) dX8_nextHoard_33 (by
            first
              | (exfalso; omega)
              | exact ⟨rfl, fr, Or.inl ⟨by omega, rfl, A, hF, hg, hQ, hC⟩⟩
              | exact ⟨rfl, fr, Or.inr ⟨by omega, rfl, A, hF, hg, hQ, hC⟩⟩)
      · have hz := goV_0.mp hc20
        refine z_aload_n0 hZ dX8_nextHoard_23 ?_
        refine z_gf_X8_s hZ dX8_nextHoard_24 fl_X8_7 (by assumption) (by assumption) ?_
        refine z_iconst hZ dX8_nextHoard_27 ?_
        refine z_iald hZ dX8_nextHoard_28 (by assumption) (by assumption) (by omega) (by rfl) ?_
        refine z_goto hZ (tgt := 33) dX8_nextHoard_29 rfl ?_
        exact z_iret hZ rfl (Nat.le_of_ble_eq_true rfl) (Nat.le_of_ble_eq_true rfl) dX8_nextHoard_33 (by
            first
              | (exfalso; omega)
              | exact ⟨rfl, fr, Or.inl ⟨by omega, rfl, A, hF, hg, hQ, hC⟩⟩
              | exact ⟨rfl, fr, Or.inr ⟨by omega, rfl, A, hF, hg, hQ, hC⟩⟩)
    · refine z_iconst hZ dX8_nextHoard_10 ?_
      refine z_goto hZ (tgt := 15) dX8_nextHoard_11 rfl ?_
      refine z_iconst hZ dX8_nextHoard_15 ?_
      refine z_iconst hZ dX8_nextHoard_16 ?_
      refine z_cV hZ (As := [_, _, _]) rfl dX8_nextHoard_17 ml_X8_146 wy_X8_goes (m_X8_goes l hx hF (by first | exact b2_in _ | omega) (by first | exact b2_in _ | omega) (by first | exact b2_in _ | omega)) (by assumption) (by assumption) rfl ⟨Nat.le_of_ble_eq_true rfl, Nat.le_of_ble_eq_true rfl⟩ ⟨Nat.le_of_ble_eq_true rfl, Nat.le_of_ble_eq_true rfl⟩ (Nat.le_of_ble_eq_true rfl) (fun _ _ _ h => h.elim) (fun v17 L17 G17 hp17 => ?_)
      obtain ⟨rfl, rfl, hF, f17⟩ := hp17
      have hF := hF
      have hg := (f17 a (Ne.symm hxa)).trans hg
      have hQ := (f17 q (Ne.symm hxq)).trans hQ
      have hC := (f17 c (Ne.symm hxc)).trans hC
      have t := ms.of hx ha hxa hF hg
      have fr := fm.x fr f17
      refine z_if_eq_b hZ (tgt := 32) dX8_nextHoard_20 rfl (fun hc20 => ?_) (fun hc20 => ?_)
      · have hz : ¬ _ := fun z => hc20 (goV_0.mpr z)
        refine z_iconst hZ dX8_nextHoard_32 ?_
        exact z_iret hZ rfl (Nat.le_of_ble_eq_true rfl) (Nat.le_of_ble_eq_true rfl) dX8_nextHoard_33 (by
            first
              | (exfalso; omega)
              | exact ⟨rfl, fr, Or.inl ⟨by omega, rfl, A, hF, hg, hQ, hC⟩⟩
              | exact ⟨rfl, fr, Or.inr ⟨by omega, rfl, A, hF, hg, hQ, hC⟩⟩)
      · have hz := goV_0.mp hc20
        refine z_aload_n0 hZ dX8_nextHoard_23 ?_
        refine z_gf_X8_s hZ dX8_nextHoard_24 fl_X8_7 (by assumption) (by assumption) ?_
        refine z_iconst hZ dX8_nextHoard_27 ?_
        refine z_iald hZ dX8_nextHoard_28 (by assumption) (by assumption) (by omega) (by rfl) ?_
        refine z_goto hZ (tgt := 33) dX8_nextHoard_29 rfl ?_
        exact z_iret hZ rfl (Nat.le_of_ble_eq_true rfl) (Nat.le_of_ble_eq_true rfl) dX8_nextHoard_33 (by
            first
              | (exfalso; omega)
              | exact ⟨rfl, fr, Or.inl ⟨by omega, rfl, A, hF, hg, hQ, hC⟩⟩
              | exact ⟨rfl, fr, Or.inr ⟨by omega, rfl, A, hF, hg, hQ, hC⟩⟩)
  exact hgo
set_option maxRecDepth 100000 in
set_option maxHeartbeats 4000000 in
theorem m_X8_heaviest (l : Launch) {L : List Nat} {F : Nat → PE} {x a q c : Nat} {g : Int → Int} {sv th kd n pt tm sg : Int} {kp bf : Int → Int} (o : mo L F x a q c g sv th kd n pt tm sg kp bf) (v : vf g kd) : PM l yX8_heaviest cX8_heaviest 1 (some .int) (rm 2 0 0) L [.ref x] F (fun v9 L1 F1 => L = L1 ∧ fm x a q c F F1 ∧ ((0 < g 3 ∧ v9 = some (.int (iI (lgA g))) ∧ mo L F1 x a q c g sv 0 kd n pt tm sg kp bf) ∨ (¬ (0 < g 3) ∧ v9 = some (.int (iI 0)) ∧ mo L F1 x a q c g sv 1 kd n pt tm sg kp bf))) (fun _ _ _ => False) := by
  refine pm_of cd_X8_heaviest (by decide +kernel) (Nat.le_of_ble_eq_true rfl) (fun ZZ hZ => ?_)
  have hgo : ZZ 0 0 0 [some (.ref x)] [] L F := by
    obtain ⟨A, hF, hg, hQ, hC⟩ := id o
    obtain ⟨⟨hx, ha, hqL, hcL⟩, hxa, hxq, hxc, haq, hac, hqc⟩ := id A
    have t := ms.of hx ha hxa hF hg
    have fr : fm x a q c F F := fm.rf
    have r := v.1
    refine z_aload_n0 hZ dX8_heaviest_0 ?_
    refine z_aload_n0 hZ dX8_heaviest_1 ?_
    refine z_gf_X8_s hZ dX8_heaviest_2 fl_X8_7 (by assumption) (by assumption) ?_
    refine z_iconst hZ dX8_heaviest_5 ?_
    refine z_iald hZ dX8_heaviest_6 (by assumption) (by assumption) (by omega) (by rfl) ?_
    refine z_if_le hZ (tgt := 14) dX8_heaviest_7 rfl (by omega) (fun hc7 => ?_) (fun hc7 => ?_)
    · refine z_iconst hZ dX8_heaviest_14 ?_
      refine z_iconst hZ dX8_heaviest_15 ?_
      refine z_iconst hZ dX8_heaviest_16 ?_
      refine z_cV hZ (As := [_, _, _]) rfl dX8_heaviest_17 ml_X8_146 wy_X8_goes (m_X8_goes l hx hF (by first | exact b2_in _ | omega) (by first | exact b2_in _ | omega) (by first | exact b2_in _ | omega)) (by assumption) (by assumption) rfl ⟨Nat.le_of_ble_eq_true rfl, Nat.le_of_ble_eq_true rfl⟩ ⟨Nat.le_of_ble_eq_true rfl, Nat.le_of_ble_eq_true rfl⟩ (Nat.le_of_ble_eq_true rfl) (fun _ _ _ h => h.elim) (fun v17 L17 G17 hp17 => ?_)
      obtain ⟨rfl, rfl, hF, f17⟩ := hp17
      have hF := hF
      have hg := (f17 a (Ne.symm hxa)).trans hg
      have hQ := (f17 q (Ne.symm hxq)).trans hQ
      have hC := (f17 c (Ne.symm hxc)).trans hC
      have t := ms.of hx ha hxa hF hg
      have fr := fm.x fr f17
      refine z_if_eq_b hZ (tgt := 30) dX8_heaviest_20 rfl (fun hc20 => ?_) (fun hc20 => ?_)
      · have hz : ¬ _ := fun z => hc20 (goV_0.mpr z)
        refine z_iconst hZ dX8_heaviest_30 ?_
        exact z_iret hZ rfl (Nat.le_of_ble_eq_true rfl) (Nat.le_of_ble_eq_true rfl) dX8_heaviest_31 (by
            first
              | (exfalso; omega)
              | exact ⟨rfl, fr, Or.inl ⟨by omega, rfl, A, hF, hg, hQ, hC⟩⟩
              | exact ⟨rfl, fr, Or.inr ⟨by omega, rfl, A, hF, hg, hQ, hC⟩⟩)
      · have hz := goV_0.mp hc20
        refine z_aload_n0 hZ dX8_heaviest_23 ?_
        refine z_cV hZ (As := []) rfl dX8_heaviest_24 ml_X8_205 wy_X8_heavy (m_X8_heavy l t v (by omega)) (by assumption) (by assumption) rfl ⟨Nat.le_of_ble_eq_true rfl, Nat.le_of_ble_eq_true rfl⟩ ⟨Nat.le_of_ble_eq_true rfl, Nat.le_of_ble_eq_true rfl⟩ (Nat.le_of_ble_eq_true rfl) (fun _ _ _ h => h.elim) (fun v24 L24 G24 hp24 => ?_)
        obtain ⟨rfl, rfl, rfl⟩ := hp24
        refine z_goto hZ (tgt := 31) dX8_heaviest_27 rfl ?_
        exact z_iret hZ rfl (Nat.le_of_ble_eq_true rfl) (Nat.le_of_ble_eq_true rfl) dX8_heaviest_31 (by
            first
              | (exfalso; omega)
              | exact ⟨rfl, fr, Or.inl ⟨by omega, rfl, A, hF, hg, hQ, hC⟩⟩
              | exact ⟨rfl, fr, Or.inr ⟨by omega, rfl, A, hF, hg, hQ, hC⟩⟩)
    · refine z_iconst hZ dX8_heaviest_10 ?_
      refine z_goto hZ (tgt := 15) dX8_heaviest_11 rfl ?_
      refine z_iconst hZ dX8_heaviest_15 ?_
      refine z_iconst hZ dX8_heaviest_16 ?_
      refine z_cV hZ (As := [_, _, _]) rfl dX8_heaviest_17 ml_X8_146 wy_X8_goes (m_X8_goes l hx hF (by first | exact b2_in _ | omega) (by first | exact b2_in _ | omega) (by first | exact b2_in _ | omega)) (by assumption) (by assumption) rfl ⟨Nat.le_of_ble_eq_true rfl, Nat.le_of_ble_eq_true rfl⟩ ⟨Nat.le_of_ble_eq_true rfl, Nat.le_of_ble_eq_true rfl⟩ (Nat.le_of_ble_eq_true rfl) (fun _ _ _ h => h.elim) (fun v17 L17 G17 hp17 => ?_)
      obtain ⟨rfl, rfl, hF, f17⟩ := hp17
      have hF := hF
      have hg := (f17 a (Ne.symm hxa)).trans hg
      have hQ := (f17 q (Ne.symm hxq)).trans hQ
      have hC := (f17 c (Ne.symm hxc)).trans hC
      have t := ms.of hx ha hxa hF hg
      have fr := fm.x fr f17
      refine z_if_eq_b hZ (tgt := 30) dX8_heaviest_20 rfl (fun hc20 => ?_) (fun hc20 => ?_)
      · have hz : ¬ _ := fun z => hc20 (goV_0.mpr z)
        refine z_iconst hZ dX8_heaviest_30 ?_
        exact z_iret hZ rfl (Nat.le_of_ble_eq_true rfl) (Nat.le_of_ble_eq_true rfl) dX8_heaviest_31 (by
            first
              | (exfalso; omega)
              | exact ⟨rfl, fr, Or.inl ⟨by omega, rfl, A, hF, hg, hQ, hC⟩⟩
              | exact ⟨rfl, fr, Or.inr ⟨by omega, rfl, A, hF, hg, hQ, hC⟩⟩)
      · have hz := goV_0.mp hc20
        refine z_aload_n0 hZ dX8_heaviest_23 ?_
        refine z_cV hZ (As := []) rfl dX8_heaviest_24 ml_X8_205 wy_X8_heavy (m_X8_heavy l t v (by omega)) (by assumption) (by assumption) rfl ⟨Nat.le_of_ble_eq_true rfl, Nat.le_of_ble_eq_true rfl⟩ ⟨Nat.le_of_ble_eq_true rfl, Nat.le_of_ble_eq_true rfl⟩ (Nat.le_of_ble_eq_true rfl) (fun _ _ _ h => h.elim) (fun v24 L24 G24 hp24 => ?_)
        obtain ⟨rfl, rfl, rfl⟩ := hp24
        refine z_goto hZ (tgt := 31) dX8_heaviest_27 rfl ?_
        exact z_iret hZ rfl (Nat.le_of_ble_eq_true rfl) (Nat.le_of_ble_eq_true rfl) dX8_heaviest_31 (by
            first
              | (exfalso; omega)
              | exact ⟨rfl, fr, Or.inl ⟨by omega, rfl, A, hF, hg, hQ, hC⟩⟩
              | exact ⟨rfl, fr, Or.inr ⟨by omega, rfl, A, hF, hg, hQ, hC⟩⟩)
  exact hgo
set_option maxRecDepth 100000 in
set_option maxHeartbeats 4000000 in
theorem m_X8_lengthOf (l : Launch) {L : List Nat} {F : Nat → PE} {x a q c : Nat} {g : Int → Int} {sv th kd n pt tm sg : Int} {kp bf : Int → Int} (o : mo L F x a q c g sv th kd n pt tm sg kp bf) (v : vf g kd) {y : Int} (hy : -2147483648 ≤ y ∧ y ≤ 2147483647) : PM l yX8_lengthOf cX8_lengthOf 2 (some .int) (rm 3 0 0) L [.ref x, .int (iI y)] F (fun v9 L1 F1 => L = L1 ∧ fm x a q c F F1 ∧ (((0 ≤ y ∧ y < g 3) ∧ v9 = some (.int (iI (g (10 + y)))) ∧ mo L F1 x a q c g sv 0 kd n pt tm sg kp bf) ∨ (¬ ((0 ≤ y ∧ y < g 3)) ∧ v9 = some (.int (iI 0)) ∧ mo L F1 x a q c g sv 1 kd n pt tm sg kp bf))) (fun _ _ _ => False) := by
  refine pm_of cd_X8_lengthOf (by decide +kernel) (Nat.le_of_ble_eq_true rfl) (fun ZZ hZ => ?_)
  have hgo : ZZ 0 0 0 [some (.ref x), some (.int (iI y))] [] L F := by
    obtain ⟨A, hF, hg, hQ, hC⟩ := id o
    obtain ⟨⟨hx, ha, hqL, hcL⟩, hxa, hxq, hxc, haq, hac, hqc⟩ := id A
    have t := ms.of hx ha hxa hF hg
    have fr : fm x a q c F F := fm.rf
    have r := v.1
    refine z_aload_n0 hZ dX8_lengthOf_0 ?_
    refine z_aload_n0 hZ dX8_lengthOf_1 ?_
    refine z_iload_n1 hZ dX8_lengthOf_2 ?_
    refine z_cV hZ (As := [_]) rfl dX8_lengthOf_3 ml_X8_199 wy_X8_isHoard (m_X8_isHoard l t v (by omega)) (by assumption) (by assumption) rfl ⟨Nat.le_of_ble_eq_true rfl, Nat.le_of_ble_eq_true rfl⟩ ⟨Nat.le_of_ble_eq_true rfl, Nat.le_of_ble_eq_true rfl⟩ (Nat.le_of_ble_eq_true rfl) (fun _ _ _ h => h.elim) (fun v3 L3 G3 hp3 => ?_)
    obtain ⟨rfl, rfl, rfl⟩ := hp3
    refine z_iconst hZ dX8_lengthOf_6 ?_
    refine z_iconst hZ dX8_lengthOf_7 ?_
    refine z_cV hZ (As := [_, _, _]) rfl dX8_lengthOf_8 ml_X8_146 wy_X8_goes (m_X8_goes l hx hF (by first | exact b2_in _ | omega) (by first | exact b2_in _ | omega) (by first | exact b2_in _ | omega)) (by assumption) (by assumption) rfl ⟨Nat.le_of_ble_eq_true rfl, Nat.le_of_ble_eq_true rfl⟩ ⟨Nat.le_of_ble_eq_true rfl, Nat.le_of_ble_eq_true rfl⟩ (Nat.le_of_ble_eq_true rfl) (fun _ _ _ h => h.elim) (fun v8 L8 G8 hp8 => ?_)
    obtain ⟨rfl, rfl, hF, f8⟩ := hp8
    have hF := hF
    have hg := (f8 a (Ne.symm hxa)).trans hg
    have hQ := (f8 q (Ne.symm hxq)).trans hQ
    have hC := (f8 c (Ne.symm hxc)).trans hC
    have t := ms.of hx ha hxa hF hg
    have fr := fm.x fr f8
    refine z_if_eq_b hZ (tgt := 26) dX8_lengthOf_11 rfl (fun hc11 => ?_) (fun hc11 => ?_)
    · refine z_iconst hZ dX8_lengthOf_26 ?_
      exact z_iret hZ rfl (Nat.le_of_ble_eq_true rfl) (Nat.le_of_ble_eq_true rfl) dX8_lengthOf_27 (by
            first
              | (rw [hc11] at hF; exact ⟨rfl, fr, Or.inl ⟨b2_ne.mp (goV_0.mp hc11).1, rfl, A, hF, hg, hQ, hC⟩⟩)
              | (have hno : ¬ ((0 ≤ y ∧ y < g 3)) := fun z => hc11 (goV_0.mpr ⟨b2_ne.mpr z, by decide, by decide⟩)
                 rw [show goV (b2 ((0 ≤ y ∧ y < g 3))) 1 1 = 1 from if_pos (b2_f hno)] at hF
                 exact ⟨rfl, fr, Or.inr ⟨hno, rfl, A, hF, hg, hQ, hC⟩⟩))
    · have hin : (0 ≤ y ∧ y < g 3) := b2_ne.mp (goV_0.mp hc11).1
      refine z_aload_n0 hZ dX8_lengthOf_14 ?_
      refine z_gf_X8_s hZ dX8_lengthOf_15 fl_X8_7 (by assumption) (by assumption) ?_
      refine z_bipush hZ dX8_lengthOf_18 rfl ?_
      refine z_iload_n1 hZ dX8_lengthOf_20 ?_
      refine z_iadd hZ dX8_lengthOf_21 ?_
      refine z_iald hZ dX8_lengthOf_22 (by assumption) (by assumption) (by omega) (by rfl) ?_
      refine z_goto hZ (tgt := 27) dX8_lengthOf_23 rfl ?_
      exact z_iret hZ rfl (Nat.le_of_ble_eq_true rfl) (Nat.le_of_ble_eq_true rfl) dX8_lengthOf_27 (by
            first
              | (rw [hc11] at hF; exact ⟨rfl, fr, Or.inl ⟨b2_ne.mp (goV_0.mp hc11).1, rfl, A, hF, hg, hQ, hC⟩⟩)
              | (have hno : ¬ ((0 ≤ y ∧ y < g 3)) := fun z => hc11 (goV_0.mpr ⟨b2_ne.mpr z, by decide, by decide⟩)
                 rw [show goV (b2 ((0 ≤ y ∧ y < g 3))) 1 1 = 1 from if_pos (b2_f hno)] at hF
                 exact ⟨rfl, fr, Or.inr ⟨hno, rfl, A, hF, hg, hQ, hC⟩⟩))
  exact hgo
set_option maxRecDepth 100000 in
set_option maxHeartbeats 4000000 in
theorem m_X8_lengthIfYanked (l : Launch) {L : List Nat} {F : Nat → PE} {x a q c : Nat} {g : Int → Int} {sv th kd n pt tm sg : Int} {kp bf : Int → Int} (o : mo L F x a q c g sv th kd n pt tm sg kp bf) (v : vf g kd) {y : Int} (hy : -2147483648 ≤ y ∧ y ≤ 2147483647) : PM l yX8_lengthIfYanked cX8_lengthIfYanked 2 (some .int) (rm 3 0 0) L [.ref x, .int (iI y)] F (fun v9 L1 F1 => L = L1 ∧ fm x a q c F F1 ∧ (((0 ≤ y ∧ y < g 3) ∧ v9 = some (.int (iI (g 0 + g (10 + y)))) ∧ mo L F1 x a q c g sv 0 kd n pt tm sg kp bf) ∨ (¬ ((0 ≤ y ∧ y < g 3)) ∧ v9 = some (.int (iI 0)) ∧ mo L F1 x a q c g sv 1 kd n pt tm sg kp bf))) (fun _ _ _ => False) := by
  refine pm_of cd_X8_lengthIfYanked (by decide +kernel) (Nat.le_of_ble_eq_true rfl) (fun ZZ hZ => ?_)
  have hgo : ZZ 0 0 0 [some (.ref x), some (.int (iI y))] [] L F := by
    obtain ⟨A, hF, hg, hQ, hC⟩ := id o
    obtain ⟨⟨hx, ha, hqL, hcL⟩, hxa, hxq, hxc, haq, hac, hqc⟩ := id A
    have t := ms.of hx ha hxa hF hg
    have fr : fm x a q c F F := fm.rf
    have r := v.1
    refine z_aload_n0 hZ dX8_lengthIfYanked_0 ?_
    refine z_aload_n0 hZ dX8_lengthIfYanked_1 ?_
    refine z_iload_n1 hZ dX8_lengthIfYanked_2 ?_
    refine z_cV hZ (As := [_]) rfl dX8_lengthIfYanked_3 ml_X8_199 wy_X8_isHoard (m_X8_isHoard l t v (by omega)) (by assumption) (by assumption) rfl ⟨Nat.le_of_ble_eq_true rfl, Nat.le_of_ble_eq_true rfl⟩ ⟨Nat.le_of_ble_eq_true rfl, Nat.le_of_ble_eq_true rfl⟩ (Nat.le_of_ble_eq_true rfl) (fun _ _ _ h => h.elim) (fun v3 L3 G3 hp3 => ?_)
    obtain ⟨rfl, rfl, rfl⟩ := hp3
    refine z_iconst hZ dX8_lengthIfYanked_6 ?_
    refine z_iconst hZ dX8_lengthIfYanked_7 ?_
    refine z_cV hZ (As := [_, _, _]) rfl dX8_lengthIfYanked_8 ml_X8_146 wy_X8_goes (m_X8_goes l hx hF (by first | exact b2_in _ | omega) (by first | exact b2_in _ | omega) (by first | exact b2_in _ | omega)) (by assumption) (by assumption) rfl ⟨Nat.le_of_ble_eq_true rfl, Nat.le_of_ble_eq_true rfl⟩ ⟨Nat.le_of_ble_eq_true rfl, Nat.le_of_ble_eq_true rfl⟩ (Nat.le_of_ble_eq_true rfl) (fun _ _ _ h => h.elim) (fun v8 L8 G8 hp8 => ?_)
    obtain ⟨rfl, rfl, hF, f8⟩ := hp8
    have hF := hF
    have hg := (f8 a (Ne.symm hxa)).trans hg
    have hQ := (f8 q (Ne.symm hxq)).trans hQ
    have hC := (f8 c (Ne.symm hxc)).trans hC
    have t := ms.of hx ha hxa hF hg
    have fr := fm.x fr f8
    refine z_if_eq_b hZ (tgt := 33) dX8_lengthIfYanked_11 rfl (fun hc11 => ?_) (fun hc11 => ?_)
    · refine z_iconst hZ dX8_lengthIfYanked_33 ?_
      exact z_iret hZ rfl (Nat.le_of_ble_eq_true rfl) (Nat.le_of_ble_eq_true rfl) dX8_lengthIfYanked_34 (by
            first
              | (rw [hc11] at hF; exact ⟨rfl, fr, Or.inl ⟨b2_ne.mp (goV_0.mp hc11).1, rfl, A, hF, hg, hQ, hC⟩⟩)
              | (have hno : ¬ ((0 ≤ y ∧ y < g 3)) := fun z => hc11 (goV_0.mpr ⟨b2_ne.mpr z, by decide, by decide⟩)
                 rw [show goV (b2 ((0 ≤ y ∧ y < g 3))) 1 1 = 1 from if_pos (b2_f hno)] at hF
                 exact ⟨rfl, fr, Or.inr ⟨hno, rfl, A, hF, hg, hQ, hC⟩⟩))
    · have hin : (0 ≤ y ∧ y < g 3) := b2_ne.mp (goV_0.mp hc11).1
      refine z_aload_n0 hZ dX8_lengthIfYanked_14 ?_
      refine z_gf_X8_s hZ dX8_lengthIfYanked_15 fl_X8_7 (by assumption) (by assumption) ?_
      refine z_iconst hZ dX8_lengthIfYanked_18 ?_
      refine z_iald hZ dX8_lengthIfYanked_19 (by assumption) (by assumption) (by omega) (by rfl) ?_
      refine z_aload_n0 hZ dX8_lengthIfYanked_20 ?_
      refine z_gf_X8_s hZ dX8_lengthIfYanked_21 fl_X8_7 (by assumption) (by assumption) ?_
      refine z_bipush hZ dX8_lengthIfYanked_24 rfl ?_
      refine z_iload_n1 hZ dX8_lengthIfYanked_26 ?_
      refine z_iadd hZ dX8_lengthIfYanked_27 ?_
      refine z_iald hZ dX8_lengthIfYanked_28 (by assumption) (by assumption) (by omega) (by rfl) ?_
      refine z_iadd hZ dX8_lengthIfYanked_29 ?_
      refine z_goto hZ (tgt := 34) dX8_lengthIfYanked_30 rfl ?_
      exact z_iret hZ rfl (Nat.le_of_ble_eq_true rfl) (Nat.le_of_ble_eq_true rfl) dX8_lengthIfYanked_34 (by
            first
              | (rw [hc11] at hF; exact ⟨rfl, fr, Or.inl ⟨b2_ne.mp (goV_0.mp hc11).1, rfl, A, hF, hg, hQ, hC⟩⟩)
              | (have hno : ¬ ((0 ≤ y ∧ y < g 3)) := fun z => hc11 (goV_0.mpr ⟨b2_ne.mpr z, by decide, by decide⟩)
                 rw [show goV (b2 ((0 ≤ y ∧ y < g 3))) 1 1 = 1 from if_pos (b2_f hno)] at hF
                 exact ⟨rfl, fr, Or.inr ⟨hno, rfl, A, hF, hg, hQ, hC⟩⟩))
  exact hgo
set_option maxRecDepth 100000 in
set_option maxHeartbeats 4000000 in
theorem m_X8_codeAt (l : Launch) {L : List Nat} {F : Nat → PE} {x a q c : Nat} {g : Int → Int} {sv th kd n pt tm sg : Int} {kp bf : Int → Int} (o : mo L F x a q c g sv th kd n pt tm sg kp bf) (v : vf g kd) {y : Int} (hy : -2147483648 ≤ y ∧ y ≤ 2147483647) : PM l yX8_codeAt cX8_codeAt 2 (some .int) (rm 2 0 0) L [.ref x, .int (iI y)] F (fun v9 L1 F1 => L = L1 ∧ fm x a q c F F1 ∧ (((0 ≤ y ∧ y < g 0) ∧ v9 = some (.int (iI (g (18 + y)))) ∧ mo L F1 x a q c g sv 0 kd n pt tm sg kp bf) ∨ (¬ ((0 ≤ y ∧ y < g 0)) ∧ v9 = some (.int (iI 0)) ∧ mo L F1 x a q c g sv 1 kd n pt tm sg kp bf))) (fun _ _ _ => False) := by
  refine pm_of cd_X8_codeAt (by decide +kernel) (Nat.le_of_ble_eq_true rfl) (fun ZZ hZ => ?_)
  have hgo : ZZ 0 0 0 [some (.ref x), some (.int (iI y))] [] L F := by
    obtain ⟨A, hF, hg, hQ, hC⟩ := id o
    obtain ⟨⟨hx, ha, hqL, hcL⟩, hxa, hxq, hxc, haq, hac, hqc⟩ := id A
    have t := ms.of hx ha hxa hF hg
    have fr : fm x a q c F F := fm.rf
    have r := v.1
    refine z_aload_n0 hZ dX8_codeAt_0 ?_
    refine z_iload_n1 hZ dX8_codeAt_1 ?_
    refine z_iconst hZ dX8_codeAt_2 ?_
    refine z_aload_n0 hZ dX8_codeAt_3 ?_
    refine z_gf_X8_s hZ dX8_codeAt_4 fl_X8_7 (by assumption) (by assumption) ?_
    refine z_iconst hZ dX8_codeAt_7 ?_
    refine z_iald hZ dX8_codeAt_8 (by assumption) (by assumption) (by omega) (by rfl) ?_
    refine z_iconst hZ dX8_codeAt_9 ?_
    refine z_isub hZ dX8_codeAt_10 ?_
    refine z_cS hZ (As := [_, _, _]) rfl dX8_codeAt_11 ml_X8_32 wy_X8_in (m_X8_in l (by omega) (by omega) (by omega)) ⟨Nat.le_of_ble_eq_true rfl, Nat.le_of_ble_eq_true rfl⟩ ⟨Nat.le_of_ble_eq_true rfl, Nat.le_of_ble_eq_true rfl⟩ (Nat.le_of_ble_eq_true rfl) (fun _ _ _ h => h.elim) (fun v11 L11 G11 hp11 => ?_)
    obtain ⟨rfl, rfl, rfl⟩ := hp11
    rw [show b2 (0 ≤ y ∧ y ≤ g 0 - 1) = b2 (0 ≤ y ∧ y < g 0) by unfold b2; split <;> split <;> first | rfl | (exfalso; omega)]
    refine z_iconst hZ dX8_codeAt_14 ?_
    refine z_iconst hZ dX8_codeAt_15 ?_
    refine z_cV hZ (As := [_, _, _]) rfl dX8_codeAt_16 ml_X8_146 wy_X8_goes (m_X8_goes l hx hF (by first | exact b2_in _ | omega) (by first | exact b2_in _ | omega) (by first | exact b2_in _ | omega)) (by assumption) (by assumption) rfl ⟨Nat.le_of_ble_eq_true rfl, Nat.le_of_ble_eq_true rfl⟩ ⟨Nat.le_of_ble_eq_true rfl, Nat.le_of_ble_eq_true rfl⟩ (Nat.le_of_ble_eq_true rfl) (fun _ _ _ h => h.elim) (fun v16 L16 G16 hp16 => ?_)
    obtain ⟨rfl, rfl, hF, f16⟩ := hp16
    have hF := hF
    have hg := (f16 a (Ne.symm hxa)).trans hg
    have hQ := (f16 q (Ne.symm hxq)).trans hQ
    have hC := (f16 c (Ne.symm hxc)).trans hC
    have t := ms.of hx ha hxa hF hg
    have fr := fm.x fr f16
    refine z_if_eq_b hZ (tgt := 30) dX8_codeAt_19 rfl (fun hc19 => ?_) (fun hc19 => ?_)
    · refine z_iconst hZ dX8_codeAt_30 ?_
      exact z_iret hZ rfl (Nat.le_of_ble_eq_true rfl) (Nat.le_of_ble_eq_true rfl) dX8_codeAt_31 (by
            first
              | (rw [hc19] at hF; exact ⟨rfl, fr, Or.inl ⟨b2_ne.mp (goV_0.mp hc19).1, rfl, A, hF, hg, hQ, hC⟩⟩)
              | (have hno : ¬ ((0 ≤ y ∧ y < g 0)) := fun z => hc19 (goV_0.mpr ⟨b2_ne.mpr z, by decide, by decide⟩)
                 rw [show goV (b2 ((0 ≤ y ∧ y < g 0))) 1 1 = 1 from if_pos (b2_f hno)] at hF
                 exact ⟨rfl, fr, Or.inr ⟨hno, rfl, A, hF, hg, hQ, hC⟩⟩))
    · have hin : (0 ≤ y ∧ y < g 0) := b2_ne.mp (goV_0.mp hc19).1
      refine z_aload_n0 hZ dX8_codeAt_22 ?_
      refine z_iload_n1 hZ dX8_codeAt_23 ?_
      refine z_cV hZ (As := [_]) rfl dX8_codeAt_24 ml_X8_36 wy_X8_code (m_X8_code l t (by omega)) (by assumption) (by assumption) rfl ⟨Nat.le_of_ble_eq_true rfl, Nat.le_of_ble_eq_true rfl⟩ ⟨Nat.le_of_ble_eq_true rfl, Nat.le_of_ble_eq_true rfl⟩ (Nat.le_of_ble_eq_true rfl) (fun _ _ _ h => h.elim) (fun v24 L24 G24 hp24 => ?_)
      obtain ⟨rfl, rfl, rfl⟩ := hp24
      refine z_goto hZ (tgt := 31) dX8_codeAt_27 rfl ?_
      exact z_iret hZ rfl (Nat.le_of_ble_eq_true rfl) (Nat.le_of_ble_eq_true rfl) dX8_codeAt_31 (by
            first
              | (rw [hc19] at hF; exact ⟨rfl, fr, Or.inl ⟨b2_ne.mp (goV_0.mp hc19).1, rfl, A, hF, hg, hQ, hC⟩⟩)
              | (have hno : ¬ ((0 ≤ y ∧ y < g 0)) := fun z => hc19 (goV_0.mpr ⟨b2_ne.mpr z, by decide, by decide⟩)
                 rw [show goV (b2 ((0 ≤ y ∧ y < g 0))) 1 1 = 1 from if_pos (b2_f hno)] at hF
                 exact ⟨rfl, fr, Or.inr ⟨hno, rfl, A, hF, hg, hQ, hC⟩⟩))
  exact hgo
set_option maxRecDepth 100000 in
set_option maxHeartbeats 4000000 in
theorem m_X8_codeIn (l : Launch) {L : List Nat} {F : Nat → PE} {x a q c : Nat} {g : Int → Int} {sv th kd n pt tm sg : Int} {kp bf : Int → Int} (o : mo L F x a q c g sv th kd n pt tm sg kp bf) (v : vf g kd) {y z : Int} (hy : -2147483648 ≤ y ∧ y ≤ 2147483647) (hz9 : -2147483648 ≤ z ∧ z ≤ 2147483647) : PM l yX8_codeIn cX8_codeIn 4 (some .int) (rm 3 0 0) L [.ref x, .int (iI y), .int (iI z)] F (fun v9 L1 F1 => L = L1 ∧ fm x a q c F F1 ∧ (((0 ≤ y ∧ y < g 3 ∧ 0 ≤ z ∧ z < g (10 + y)) ∧ v9 = some (.int (iI (g (218 + 200 * y + z)))) ∧ mo L F1 x a q c g sv 0 kd n pt tm sg kp bf) ∨ (¬ (0 ≤ y ∧ y < g 3 ∧ 0 ≤ z ∧ z < g (10 + y)) ∧ v9 = some (.int (iI 0)) ∧ mo L F1 x a q c g sv 1 kd n pt tm sg kp bf))) (fun _ _ _ => False) := by
  refine pm_of cd_X8_codeIn (by decide +kernel) (Nat.le_of_ble_eq_true rfl) (fun ZZ hZ => ?_)
  have hgo : ZZ 0 0 0 [some (.ref x), some (.int (iI y)), some (.int (iI z)), none] [] L F := by
    obtain ⟨A, hF, hg, hQ, hC⟩ := id o
    obtain ⟨⟨hx, ha, hqL, hcL⟩, hxa, hxq, hxc, haq, hac, hqc⟩ := id A
    have t := ms.of hx ha hxa hF hg
    have fr : fm x a q c F F := fm.rf
    have r := v.1
    by_cases qq : 0 ≤ y ∧ y < g 3
    · have eb : b2 (0 ≤ y ∧ y < g 3) = 1 := b2_t qq
      have hy9 := v.2.1.1 y qq.1 qq.2
      refine z_aload_n0 hZ dX8_codeIn_0 ?_
      refine z_iload_n1 hZ dX8_codeIn_1 ?_
      refine z_cV hZ (As := [_]) rfl dX8_codeIn_2 ml_X8_199 wy_X8_isHoard (m_X8_isHoard l t v (by omega)) (by assumption) (by assumption) rfl ⟨Nat.le_of_ble_eq_true rfl, Nat.le_of_ble_eq_true rfl⟩ ⟨Nat.le_of_ble_eq_true rfl, Nat.le_of_ble_eq_true rfl⟩ (Nat.le_of_ble_eq_true rfl) (fun _ _ _ h => h.elim) (fun v2 L2 G2 hp2 => ?_)
      obtain ⟨rfl, rfl, rfl⟩ := hp2
      rw [eb]
      refine z_istore_n3 hZ dX8_codeIn_5 (by decide) rfl ?_
      refine z_aload_n0 hZ dX8_codeIn_6 ?_
      refine z_iload_n3 hZ dX8_codeIn_7 ?_
      refine z_if_eq hZ (tgt := 42) dX8_codeIn_8 rfl (by omega) (fun hc8 => ?_) (fun hc8 => ?_)
      · refine z_iconst hZ dX8_codeIn_42 ?_
        refine z_iconst hZ dX8_codeIn_43 ?_
        refine z_iconst hZ dX8_codeIn_44 ?_
        refine z_cV hZ (As := [_, _, _]) rfl dX8_codeIn_45 ml_X8_146 wy_X8_goes (m_X8_goes l hx hF (by first | exact b2_in _ | omega) (by first | exact b2_in _ | omega) (by first | exact b2_in _ | omega)) (by assumption) (by assumption) rfl ⟨Nat.le_of_ble_eq_true rfl, Nat.le_of_ble_eq_true rfl⟩ ⟨Nat.le_of_ble_eq_true rfl, Nat.le_of_ble_eq_true rfl⟩ (Nat.le_of_ble_eq_true rfl) (fun _ _ _ h => h.elim) (fun v45 L45 G45 hp45 => ?_)
        obtain ⟨rfl, rfl, hF, f45⟩ := hp45
        have hF := hF
        have hg := (f45 a (Ne.symm hxa)).trans hg
        have hQ := (f45 q (Ne.symm hxq)).trans hQ
        have hC := (f45 c (Ne.symm hxc)).trans hC
        have t := ms.of hx ha hxa hF hg
        have fr := fm.x fr f45
        refine z_if_eq_b hZ (tgt := 70) dX8_codeIn_48 rfl (fun hc48 => ?_) (fun hc48 => ?_)
        · have hz : ¬ _ := fun z => hc48 (goV_0.mpr z)
          refine z_iconst hZ dX8_codeIn_70 ?_
          exact z_iret hZ rfl (Nat.le_of_ble_eq_true rfl) (Nat.le_of_ble_eq_true rfl) dX8_codeIn_71 (by
            first
              | (exfalso; omega)
              | exact ⟨rfl, fr, Or.inl ⟨⟨qq.1, qq.2, by omega, by omega⟩, rfl, A, hF, hg, hQ, hC⟩⟩
              | exact ⟨rfl, fr, Or.inr ⟨fun w => by have w3 := w.2.2; omega, rfl, A, hF, hg, hQ, hC⟩⟩)
        · have hz := goV_0.mp hc48
          refine z_aload_n0 hZ dX8_codeIn_51 ?_
          refine z_gf_X8_s hZ dX8_codeIn_52 fl_X8_7 (by assumption) (by assumption) ?_
          refine z_sipush hZ dX8_codeIn_55 rfl ?_
          refine z_sipush hZ dX8_codeIn_58 rfl ?_
          refine z_iload_n1 hZ dX8_codeIn_61 ?_
          refine z_imul hZ dX8_codeIn_62 ?_
          refine z_iadd hZ dX8_codeIn_63 ?_
          refine z_iload_n2 hZ dX8_codeIn_64 ?_
          refine z_iadd hZ dX8_codeIn_65 ?_
          refine z_iald hZ dX8_codeIn_66 (by assumption) (by assumption) (by omega) (by rfl) ?_
          refine z_goto hZ (tgt := 71) dX8_codeIn_67 rfl ?_
          exact z_iret hZ rfl (Nat.le_of_ble_eq_true rfl) (Nat.le_of_ble_eq_true rfl) dX8_codeIn_71 (by
            first
              | (exfalso; omega)
              | exact ⟨rfl, fr, Or.inl ⟨⟨qq.1, qq.2, by omega, by omega⟩, rfl, A, hF, hg, hQ, hC⟩⟩
              | exact ⟨rfl, fr, Or.inr ⟨fun w => by have w3 := w.2.2; omega, rfl, A, hF, hg, hQ, hC⟩⟩)
      · refine z_iload_n2 hZ dX8_codeIn_11 ?_
        refine z_iconst hZ dX8_codeIn_12 ?_
        refine z_aload_n0 hZ dX8_codeIn_13 ?_
        refine z_gf_X8_s hZ dX8_codeIn_14 fl_X8_7 (by assumption) (by assumption) ?_
        refine z_bipush hZ dX8_codeIn_17 rfl ?_
        refine z_iload_n3 hZ dX8_codeIn_19 ?_
        refine z_if_eq hZ (tgt := 27) dX8_codeIn_20 rfl (by omega) (fun hc20 => ?_) (fun hc20 => ?_)
        · exfalso; omega
        · refine z_iload_n1 hZ dX8_codeIn_23 ?_
          refine z_goto hZ (tgt := 28) dX8_codeIn_24 rfl ?_
          refine z_iadd hZ dX8_codeIn_28 ?_
          refine z_iald hZ dX8_codeIn_29 (by assumption) (by assumption) (by omega) (by rfl) ?_
          refine z_iconst hZ dX8_codeIn_30 ?_
          refine z_isub hZ dX8_codeIn_31 ?_
          refine z_cS hZ (As := [_, _, _]) rfl dX8_codeIn_32 ml_X8_32 wy_X8_in (m_X8_in l (by omega) (by omega) (by omega)) ⟨Nat.le_of_ble_eq_true rfl, Nat.le_of_ble_eq_true rfl⟩ ⟨Nat.le_of_ble_eq_true rfl, Nat.le_of_ble_eq_true rfl⟩ (Nat.le_of_ble_eq_true rfl) (fun _ _ _ h => h.elim) (fun v32 L32 G32 hp32 => ?_)
          obtain ⟨rfl, rfl, rfl⟩ := hp32
          refine z_if_eq_b hZ (tgt := 42) dX8_codeIn_35 rfl (fun hc35 => ?_) (fun hc35 => ?_)
          · refine z_iconst hZ dX8_codeIn_42 ?_
            refine z_iconst hZ dX8_codeIn_43 ?_
            refine z_iconst hZ dX8_codeIn_44 ?_
            refine z_cV hZ (As := [_, _, _]) rfl dX8_codeIn_45 ml_X8_146 wy_X8_goes (m_X8_goes l hx hF (by first | exact b2_in _ | omega) (by first | exact b2_in _ | omega) (by first | exact b2_in _ | omega)) (by assumption) (by assumption) rfl ⟨Nat.le_of_ble_eq_true rfl, Nat.le_of_ble_eq_true rfl⟩ ⟨Nat.le_of_ble_eq_true rfl, Nat.le_of_ble_eq_true rfl⟩ (Nat.le_of_ble_eq_true rfl) (fun _ _ _ h => h.elim) (fun v45 L45 G45 hp45 => ?_)
            obtain ⟨rfl, rfl, hF, f45⟩ := hp45
            have hF := hF
            have hg := (f45 a (Ne.symm hxa)).trans hg
            have hQ := (f45 q (Ne.symm hxq)).trans hQ
            have hC := (f45 c (Ne.symm hxc)).trans hC
            have t := ms.of hx ha hxa hF hg
            have fr := fm.x fr f45
            refine z_if_eq_b hZ (tgt := 70) dX8_codeIn_48 rfl (fun hc48 => ?_) (fun hc48 => ?_)
            · have hz : ¬ _ := fun z => hc48 (goV_0.mpr z)
              refine z_iconst hZ dX8_codeIn_70 ?_
              exact z_iret hZ rfl (Nat.le_of_ble_eq_true rfl) (Nat.le_of_ble_eq_true rfl) dX8_codeIn_71 (by
            first
              | (exfalso; omega)
              | exact ⟨rfl, fr, Or.inl ⟨⟨qq.1, qq.2, by omega, by omega⟩, rfl, A, hF, hg, hQ, hC⟩⟩
              | exact ⟨rfl, fr, Or.inr ⟨fun w => by have w3 := w.2.2; omega, rfl, A, hF, hg, hQ, hC⟩⟩)
            · have hz := goV_0.mp hc48
              refine z_aload_n0 hZ dX8_codeIn_51 ?_
              refine z_gf_X8_s hZ dX8_codeIn_52 fl_X8_7 (by assumption) (by assumption) ?_
              refine z_sipush hZ dX8_codeIn_55 rfl ?_
              refine z_sipush hZ dX8_codeIn_58 rfl ?_
              refine z_iload_n1 hZ dX8_codeIn_61 ?_
              refine z_imul hZ dX8_codeIn_62 ?_
              refine z_iadd hZ dX8_codeIn_63 ?_
              refine z_iload_n2 hZ dX8_codeIn_64 ?_
              refine z_iadd hZ dX8_codeIn_65 ?_
              refine z_iald hZ dX8_codeIn_66 (by assumption) (by assumption) (by omega) (by rfl) ?_
              refine z_goto hZ (tgt := 71) dX8_codeIn_67 rfl ?_
              exact z_iret hZ rfl (Nat.le_of_ble_eq_true rfl) (Nat.le_of_ble_eq_true rfl) dX8_codeIn_71 (by
            first
              | (exfalso; omega)
              | exact ⟨rfl, fr, Or.inl ⟨⟨qq.1, qq.2, by omega, by omega⟩, rfl, A, hF, hg, hQ, hC⟩⟩
              | exact ⟨rfl, fr, Or.inr ⟨fun w => by have w3 := w.2.2; omega, rfl, A, hF, hg, hQ, hC⟩⟩)
          · refine z_iconst hZ dX8_codeIn_38 ?_
            refine z_goto hZ (tgt := 43) dX8_codeIn_39 rfl ?_
            refine z_iconst hZ dX8_codeIn_43 ?_
            refine z_iconst hZ dX8_codeIn_44 ?_
            refine z_cV hZ (As := [_, _, _]) rfl dX8_codeIn_45 ml_X8_146 wy_X8_goes (m_X8_goes l hx hF (by first | exact b2_in _ | omega) (by first | exact b2_in _ | omega) (by first | exact b2_in _ | omega)) (by assumption) (by assumption) rfl ⟨Nat.le_of_ble_eq_true rfl, Nat.le_of_ble_eq_true rfl⟩ ⟨Nat.le_of_ble_eq_true rfl, Nat.le_of_ble_eq_true rfl⟩ (Nat.le_of_ble_eq_true rfl) (fun _ _ _ h => h.elim) (fun v45 L45 G45 hp45 => ?_)
            obtain ⟨rfl, rfl, hF, f45⟩ := hp45
            have hF := hF
            have hg := (f45 a (Ne.symm hxa)).trans hg
            have hQ := (f45 q (Ne.symm hxq)).trans hQ
            have hC := (f45 c (Ne.symm hxc)).trans hC
            have t := ms.of hx ha hxa hF hg
            have fr := fm.x fr f45
            refine z_if_eq_b hZ (tgt := 70) dX8_codeIn_48 rfl (fun hc48 => ?_) (fun hc48 => ?_)
            · have hz : ¬ _ := fun z => hc48 (goV_0.mpr z)
              refine z_iconst hZ dX8_codeIn_70 ?_
              exact z_iret hZ rfl (Nat.le_of_ble_eq_true rfl) (Nat.le_of_ble_eq_true rfl) dX8_codeIn_71 (by
            first
              | (exfalso; omega)
              | exact ⟨rfl, fr, Or.inl ⟨⟨qq.1, qq.2, by omega, by omega⟩, rfl, A, hF, hg, hQ, hC⟩⟩
              | exact ⟨rfl, fr, Or.inr ⟨fun w => by have w3 := w.2.2; omega, rfl, A, hF, hg, hQ, hC⟩⟩)
            · have hz := goV_0.mp hc48
              refine z_aload_n0 hZ dX8_codeIn_51 ?_
              refine z_gf_X8_s hZ dX8_codeIn_52 fl_X8_7 (by assumption) (by assumption) ?_
              refine z_sipush hZ dX8_codeIn_55 rfl ?_
              refine z_sipush hZ dX8_codeIn_58 rfl ?_
              refine z_iload_n1 hZ dX8_codeIn_61 ?_
              refine z_imul hZ dX8_codeIn_62 ?_
              refine z_iadd hZ dX8_codeIn_63 ?_
              refine z_iload_n2 hZ dX8_codeIn_64 ?_
              refine z_iadd hZ dX8_codeIn_65 ?_
              refine z_iald hZ dX8_codeIn_66 (by assumption) (by assumption) (by omega) (by rfl) ?_
              refine z_goto hZ (tgt := 71) dX8_codeIn_67 rfl ?_
              exact z_iret hZ rfl (Nat.le_of_ble_eq_true rfl) (Nat.le_of_ble_eq_true rfl) dX8_codeIn_71 (by
            first
              | (exfalso; omega)
              | exact ⟨rfl, fr, Or.inl ⟨⟨qq.1, qq.2, by omega, by omega⟩, rfl, A, hF, hg, hQ, hC⟩⟩
              | exact ⟨rfl, fr, Or.inr ⟨fun w => by have w3 := w.2.2; omega, rfl, A, hF, hg, hQ, hC⟩⟩)
    · have eb : b2 (0 ≤ y ∧ y < g 3) = 0 := b2_f qq
      refine z_aload_n0 hZ dX8_codeIn_0 ?_
      refine z_iload_n1 hZ dX8_codeIn_1 ?_
      refine z_cV hZ (As := [_]) rfl dX8_codeIn_2 ml_X8_199 wy_X8_isHoard (m_X8_isHoard l t v (by omega)) (by assumption) (by assumption) rfl ⟨Nat.le_of_ble_eq_true rfl, Nat.le_of_ble_eq_true rfl⟩ ⟨Nat.le_of_ble_eq_true rfl, Nat.le_of_ble_eq_true rfl⟩ (Nat.le_of_ble_eq_true rfl) (fun _ _ _ h => h.elim) (fun v2 L2 G2 hp2 => ?_)
      obtain ⟨rfl, rfl, rfl⟩ := hp2
      rw [eb]
      refine z_istore_n3 hZ dX8_codeIn_5 (by decide) rfl ?_
      refine z_aload_n0 hZ dX8_codeIn_6 ?_
      refine z_iload_n3 hZ dX8_codeIn_7 ?_
      refine z_if_eq hZ (tgt := 42) dX8_codeIn_8 rfl (by omega) (fun hc8 => ?_) (fun hc8 => ?_)
      · refine z_iconst hZ dX8_codeIn_42 ?_
        refine z_iconst hZ dX8_codeIn_43 ?_
        refine z_iconst hZ dX8_codeIn_44 ?_
        refine z_cV hZ (As := [_, _, _]) rfl dX8_codeIn_45 ml_X8_146 wy_X8_goes (m_X8_goes l hx hF (by first | exact b2_in _ | omega) (by first | exact b2_in _ | omega) (by first | exact b2_in _ | omega)) (by assumption) (by assumption) rfl ⟨Nat.le_of_ble_eq_true rfl, Nat.le_of_ble_eq_true rfl⟩ ⟨Nat.le_of_ble_eq_true rfl, Nat.le_of_ble_eq_true rfl⟩ (Nat.le_of_ble_eq_true rfl) (fun _ _ _ h => h.elim) (fun v45 L45 G45 hp45 => ?_)
        obtain ⟨rfl, rfl, hF, f45⟩ := hp45
        have hF := hF
        have hg := (f45 a (Ne.symm hxa)).trans hg
        have hQ := (f45 q (Ne.symm hxq)).trans hQ
        have hC := (f45 c (Ne.symm hxc)).trans hC
        have t := ms.of hx ha hxa hF hg
        have fr := fm.x fr f45
        refine z_if_eq_b hZ (tgt := 70) dX8_codeIn_48 rfl (fun hc48 => ?_) (fun hc48 => ?_)
        · refine z_iconst hZ dX8_codeIn_70 ?_
          exact z_iret hZ rfl (Nat.le_of_ble_eq_true rfl) (Nat.le_of_ble_eq_true rfl) dX8_codeIn_71 (by exact ⟨rfl, fr, Or.inr ⟨fun w => qq ⟨w.1, w.2.1⟩, rfl, A, hF, hg, hQ, hC⟩⟩)
        · have hz := goV_0.mp hc48
          exfalso; omega
      · exfalso; omega
  exact hgo

