/-! THE PUBLIC DEEDS. -/
theorem db.f0 {L : List Nat} {F F1 : Nat → PE} {K : Nat → Nat} {fi sv n : Int} {kp bf : Int → Int} {W : Nat → Int → Int} {D : Nat → Int} (t : db L F K fi sv kp n bf W D) {k m : Nat} (hm : m = 0 ∨ m = 26 ∨ m = 27 ∨ m = 203 ∨ 254 ≤ m) (hm2 : m < 257) (hk : k < 10) (f : fS (sK K k) F F1) : F1 (K m) = F (K m) := f _ (fun i hi => t.ne hm2 (by unfold sB; (repeat' split) <;> omega) (by unfold sB; (repeat' split) <;> omega))
set_option maxRecDepth 100000 in
set_option maxHeartbeats 4000000 in
theorem m_X7_greaten (l : Launch) {L : List Nat} {F : Nat → PE} {K : Nat → Nat} {v : Int → Int} {kd sv n : Int} {H Q : Int → Int → Int} {kp bf : Int → Int} (hfl : l.flags = flags0) (t : dr L F K v kd sv H kp Q n bf) : PM l yX7_greaten cX7_greaten 1 (some .int) (rm 8 1 6) L [.ref (K 0)] F (fun v9 L1 F1 => dOk 18 kd v ∧ v9 = some (.int (iI (dAn 18 v))) ∧ L = L1 ∧ dr L1 F1 K (dTo 18 0 kd v) (dKn 18) (hN sv) (hS sv H v) kp Q n bf) (fun E L1 F1 => E = xS ∧ ¬ dOk 18 kd v ∧ L = L1 ∧ dr L1 F1 K v kd sv H kp Q n bf) := by
  refine pm_of cd_X7_greaten (by decide +kernel) (Nat.le_of_ble_eq_true rfl) (fun ZZ hZ => ?_)
  have hgo : ZZ 0 0 0 [some (.ref (K 0))] [] L F := by
    obtain ⟨fi, W, D, hb, hl, hk⟩ := t
    have l0 := hb.1.1 0 (by omega)
    have h0 := hb.2.1
    have l1 := hb.1.1 1 (by omega)
    have l26 := hb.1.1 26 (by omega)
    have h26 := hb.2.2.1.1
    have hv := hl.1
    refine z_aload_n0 hZ dX7_greaten_0 ?_
    refine z_gf_X7_history hZ dX7_greaten_1 fl_X7_19 (by assumption) (by assumption) ?_
    refine z_aload_n0 hZ dX7_greaten_4 ?_
    refine z_gf_X7_now hZ dX7_greaten_5 fl_X7_10 (by assumption) (by assumption) ?_
    refine z_cV hZ (As := [_]) rfl dX7_greaten_8 ml_X7_47 wy_X2_prepare (m_X2_prepare l hb) (by assumption) (by assumption) rfl ⟨Nat.le_of_ble_eq_true rfl, Nat.le_of_ble_eq_true rfl⟩ ⟨Nat.le_of_ble_eq_true rfl, Nat.le_of_ble_eq_true rfl⟩ (Nat.le_of_ble_eq_true rfl) (fun _ _ _ h => h.elim) (fun v8 L8 G8 hp8 => ?_)
    obtain ⟨rfl, rfl, b8⟩ := hp8
    obtain ⟨k1, k2⟩ := hl.prep hb.2.2.1.2
    have S8 : stP L G8 (sK K 0) v kd := by have z := b8.2.2.2.2.2.2.2 0 (by omega); rw [k1.1, un_n (by have := ro_rg (i := fi + sv); omega), hk] at z; exact z
    have o8 : G8 (K 1) = _ := S8.ob
    have h0 := b8.2.1
    have J := b8.ij (k := 0) (by omega)
    have JL := b8.L (k := 0) (by omega)
    have hdk : un D (ro (fi + sv)) (D 0) 0 = kd := by rw [un_n (by have := ro_rg (i := fi + sv); omega)]; exact hk
    have rg := S8.rg
    have rW := wS_rg (n := v 0) (f := fT v) (p := v 1) (by omega)
    have rB := wB_rg (n := v 0) (f := fT v) (p := v 1) (by omega)
    have rS := lB_rg (n := v 0) (f := fT v) (p := v 1) (by omega)
    have rE := lE_rg (n := v 0) (f := fT v) (p := v 1) (by omega)
    have rG := grN_rg (v := v) (by omega)
    have rK : kLj v ≤ v 0 + 1 := by unfold kLj; split <;> omega
    have rmn : 0 ≤ mxI (v 2) (v 1) - mnI (v 2) (v 1) ∧ mxI (v 2) (v 1) - mnI (v 2) (v 1) ≤ 201 := by unfold mxI mnI; split <;> split <;> omega
    refine z_aload_n0 hZ dX7_greaten_11 ?_
    refine z_aload_n0 hZ dX7_greaten_12 ?_
    refine z_gf_X7_now hZ dX7_greaten_13 fl_X7_10 (by assumption) (by assumption) ?_
    refine z_cV hZ (As := []) rfl dX7_greaten_16 ml_X7_65 wy_X5_makeGreat (m_X5_makeGreat l J JL S8) (by assumption) (by assumption) rfl ⟨Nat.le_of_ble_eq_true rfl, Nat.le_of_ble_eq_true rfl⟩ ⟨Nat.le_of_ble_eq_true rfl, Nat.le_of_ble_eq_true rfl⟩ (Nat.le_of_ble_eq_true rfl) (fun _ _ _ h => h.elim) (fun v16 L16 G16 hp16 => ?_)
    obtain ⟨rfl, rfl, t16, f16⟩ := hp16
    have h0 : G16 (K 0) = _ := (b8.f0 (by omega) (by omega) (by omega) f16).trans h0
    have ha : -1 ≤ dAn 18 v ∧ dAn 18 v ≤ 1000000 := by show -1 ≤ grN v ∧ grN v ≤ 1000000; omega
    refine z_cV hZ (As := [_]) rfl dX7_greaten_19 ml_X7_55 wy_X7_settled (m_X7_settled l hfl ha (fun _ => b8.st (by omega) t16 f16)) (by assumption) (by assumption) rfl ⟨Nat.le_of_ble_eq_true rfl, Nat.le_of_ble_eq_true rfl⟩ ⟨Nat.le_of_ble_eq_true rfl, Nat.le_of_ble_eq_true rfl⟩ (Nat.le_of_ble_eq_true rfl) (fun _ _ _ h => absurd h.2.1 (by omega)) (fun v19 L19 G19 hp19 => ?_)
    obtain ⟨rfl, hne, rfl, t19⟩ := hp19
    exact z_iret hZ rfl (Nat.le_of_ble_eq_true rfl) (Nat.le_of_ble_eq_true rfl) dX7_greaten_22 (by exact ⟨True.intro, rfl, rfl, _, _, _, t19, lk.save (lk.op ⟨k1, k2⟩) hb.2.2.1.2, un_s⟩)
  exact hgo
set_option maxRecDepth 100000 in
set_option maxHeartbeats 4000000 in
theorem m_X7_wordOn (l : Launch) {L : List Nat} {F : Nat → PE} {K : Nat → Nat} {v : Int → Int} {kd sv n : Int} {H Q : Int → Int → Int} {kp bf : Int → Int} (hfl : l.flags = flags0) (t : dr L F K v kd sv H kp Q n bf) : PM l yX7_wordOn cX7_wordOn 1 (some .int) (rm 8 1 6) L [.ref (K 0)] F (fun v9 L1 F1 => dOk 2 kd v ∧ v9 = some (.int (iI (dAn 2 v))) ∧ L = L1 ∧ dr L1 F1 K (dTo 2 0 kd v) (dKn 2) (hN sv) (hS sv H v) kp Q n bf) (fun E L1 F1 => E = xS ∧ ¬ dOk 2 kd v ∧ L = L1 ∧ dr L1 F1 K v kd sv H kp Q n bf) := by
  refine pm_of cd_X7_wordOn (by decide +kernel) (Nat.le_of_ble_eq_true rfl) (fun ZZ hZ => ?_)
  have hgo : ZZ 0 0 0 [some (.ref (K 0))] [] L F := by
    obtain ⟨fi, W, D, hb, hl, hk⟩ := t
    have l0 := hb.1.1 0 (by omega)
    have h0 := hb.2.1
    have l1 := hb.1.1 1 (by omega)
    have l26 := hb.1.1 26 (by omega)
    have h26 := hb.2.2.1.1
    have hv := hl.1
    refine z_aload_n0 hZ dX7_wordOn_0 ?_
    refine z_gf_X7_history hZ dX7_wordOn_1 fl_X7_19 (by assumption) (by assumption) ?_
    refine z_aload_n0 hZ dX7_wordOn_4 ?_
    refine z_gf_X7_now hZ dX7_wordOn_5 fl_X7_10 (by assumption) (by assumption) ?_
    refine z_cV hZ (As := [_]) rfl dX7_wordOn_8 ml_X7_47 wy_X2_prepare (m_X2_prepare l hb) (by assumption) (by assumption) rfl ⟨Nat.le_of_ble_eq_true rfl, Nat.le_of_ble_eq_true rfl⟩ ⟨Nat.le_of_ble_eq_true rfl, Nat.le_of_ble_eq_true rfl⟩ (Nat.le_of_ble_eq_true rfl) (fun _ _ _ h => h.elim) (fun v8 L8 G8 hp8 => ?_)
    obtain ⟨rfl, rfl, b8⟩ := hp8
    obtain ⟨k1, k2⟩ := hl.prep hb.2.2.1.2
    have S8 : stP L G8 (sK K 0) v kd := by have z := b8.2.2.2.2.2.2.2 0 (by omega); rw [k1.1, un_n (by have := ro_rg (i := fi + sv); omega), hk] at z; exact z
    have o8 : G8 (K 1) = _ := S8.ob
    have h0 := b8.2.1
    have J := b8.ij (k := 0) (by omega)
    have JL := b8.L (k := 0) (by omega)
    have hdk : un D (ro (fi + sv)) (D 0) 0 = kd := by rw [un_n (by have := ro_rg (i := fi + sv); omega)]; exact hk
    have rg := S8.rg
    have rW := wS_rg (n := v 0) (f := fT v) (p := v 1) (by omega)
    have rB := wB_rg (n := v 0) (f := fT v) (p := v 1) (by omega)
    have rS := lB_rg (n := v 0) (f := fT v) (p := v 1) (by omega)
    have rE := lE_rg (n := v 0) (f := fT v) (p := v 1) (by omega)
    have rG := grN_rg (v := v) (by omega)
    have rK : kLj v ≤ v 0 + 1 := by unfold kLj; split <;> omega
    have rmn : 0 ≤ mxI (v 2) (v 1) - mnI (v 2) (v 1) ∧ mxI (v 2) (v 1) - mnI (v 2) (v 1) ≤ 201 := by unfold mxI mnI; split <;> split <;> omega
    refine z_aload_n0 hZ dX7_wordOn_11 ?_
    refine z_aload_n0 hZ dX7_wordOn_12 ?_
    refine z_gf_X7_now hZ dX7_wordOn_13 fl_X7_10 (by assumption) (by assumption) ?_
    refine z_cV hZ (As := []) rfl dX7_wordOn_16 ml_X7_85 wy_X5_goWordOn (m_X5_goWordOn l J JL S8) (by assumption) (by assumption) rfl ⟨Nat.le_of_ble_eq_true rfl, Nat.le_of_ble_eq_true rfl⟩ ⟨Nat.le_of_ble_eq_true rfl, Nat.le_of_ble_eq_true rfl⟩ (Nat.le_of_ble_eq_true rfl) (fun _ _ _ h => h.elim) (fun v16 L16 G16 hp16 => ?_)
    obtain ⟨rfl, rfl, t16, f16⟩ := hp16
    have h0 : G16 (K 0) = _ := (b8.f0 (by omega) (by omega) (by omega) f16).trans h0
    have ha : -1 ≤ dAn 2 v ∧ dAn 2 v ≤ 1000000 := ⟨Int.le_trans (by decide) (abI_rg (by omega)).1, Int.le_trans (abI_rg (by omega)).2 (by decide)⟩
    have hC : True := True.intro
    refine z_cV hZ (As := [_]) rfl dX7_wordOn_19 ml_X7_55 wy_X7_settled (m_X7_settled l hfl ha (fun _ => b8.st (by omega) t16 f16)) (by assumption) (by assumption) rfl ⟨Nat.le_of_ble_eq_true rfl, Nat.le_of_ble_eq_true rfl⟩ ⟨Nat.le_of_ble_eq_true rfl, Nat.le_of_ble_eq_true rfl⟩ (Nat.le_of_ble_eq_true rfl) (fun _ _ _ h => absurd h.2.1 (fun z => absurd (z ▸ (abI_rg (by omega)).1 : (0 : Int) ≤ -1) (by decide))) (fun v19 L19 G19 hp19 => ?_)
    obtain ⟨rfl, hne, rfl, t19⟩ := hp19
    exact z_iret hZ rfl (Nat.le_of_ble_eq_true rfl) (Nat.le_of_ble_eq_true rfl) dX7_wordOn_22 (by exact ⟨True.intro, rfl, rfl, _, _, _, t19, lk.save (lk.op ⟨k1, k2⟩) hb.2.2.1.2, un_s⟩)
  exact hgo
set_option maxRecDepth 100000 in
set_option maxHeartbeats 4000000 in
theorem m_X7_wordBack (l : Launch) {L : List Nat} {F : Nat → PE} {K : Nat → Nat} {v : Int → Int} {kd sv n : Int} {H Q : Int → Int → Int} {kp bf : Int → Int} (hfl : l.flags = flags0) (t : dr L F K v kd sv H kp Q n bf) : PM l yX7_wordBack cX7_wordBack 1 (some .int) (rm 8 1 6) L [.ref (K 0)] F (fun v9 L1 F1 => dOk 3 kd v ∧ v9 = some (.int (iI (dAn 3 v))) ∧ L = L1 ∧ dr L1 F1 K (dTo 3 0 kd v) (dKn 3) (hN sv) (hS sv H v) kp Q n bf) (fun E L1 F1 => E = xS ∧ ¬ dOk 3 kd v ∧ L = L1 ∧ dr L1 F1 K v kd sv H kp Q n bf) := by
  refine pm_of cd_X7_wordBack (by decide +kernel) (Nat.le_of_ble_eq_true rfl) (fun ZZ hZ => ?_)
  have hgo : ZZ 0 0 0 [some (.ref (K 0))] [] L F := by
    obtain ⟨fi, W, D, hb, hl, hk⟩ := t
    have l0 := hb.1.1 0 (by omega)
    have h0 := hb.2.1
    have l1 := hb.1.1 1 (by omega)
    have l26 := hb.1.1 26 (by omega)
    have h26 := hb.2.2.1.1
    have hv := hl.1
    refine z_aload_n0 hZ dX7_wordBack_0 ?_
    refine z_gf_X7_history hZ dX7_wordBack_1 fl_X7_19 (by assumption) (by assumption) ?_
    refine z_aload_n0 hZ dX7_wordBack_4 ?_
    refine z_gf_X7_now hZ dX7_wordBack_5 fl_X7_10 (by assumption) (by assumption) ?_
    refine z_cV hZ (As := [_]) rfl dX7_wordBack_8 ml_X7_47 wy_X2_prepare (m_X2_prepare l hb) (by assumption) (by assumption) rfl ⟨Nat.le_of_ble_eq_true rfl, Nat.le_of_ble_eq_true rfl⟩ ⟨Nat.le_of_ble_eq_true rfl, Nat.le_of_ble_eq_true rfl⟩ (Nat.le_of_ble_eq_true rfl) (fun _ _ _ h => h.elim) (fun v8 L8 G8 hp8 => ?_)
    obtain ⟨rfl, rfl, b8⟩ := hp8
    obtain ⟨k1, k2⟩ := hl.prep hb.2.2.1.2
    have S8 : stP L G8 (sK K 0) v kd := by have z := b8.2.2.2.2.2.2.2 0 (by omega); rw [k1.1, un_n (by have := ro_rg (i := fi + sv); omega), hk] at z; exact z
    have o8 : G8 (K 1) = _ := S8.ob
    have h0 := b8.2.1
    have J := b8.ij (k := 0) (by omega)
    have JL := b8.L (k := 0) (by omega)
    have hdk : un D (ro (fi + sv)) (D 0) 0 = kd := by rw [un_n (by have := ro_rg (i := fi + sv); omega)]; exact hk
    have rg := S8.rg
    have rW := wS_rg (n := v 0) (f := fT v) (p := v 1) (by omega)
    have rB := wB_rg (n := v 0) (f := fT v) (p := v 1) (by omega)
    have rS := lB_rg (n := v 0) (f := fT v) (p := v 1) (by omega)
    have rE := lE_rg (n := v 0) (f := fT v) (p := v 1) (by omega)
    have rG := grN_rg (v := v) (by omega)
    have rK : kLj v ≤ v 0 + 1 := by unfold kLj; split <;> omega
    have rmn : 0 ≤ mxI (v 2) (v 1) - mnI (v 2) (v 1) ∧ mxI (v 2) (v 1) - mnI (v 2) (v 1) ≤ 201 := by unfold mxI mnI; split <;> split <;> omega
    refine z_aload_n0 hZ dX7_wordBack_11 ?_
    refine z_aload_n0 hZ dX7_wordBack_12 ?_
    refine z_gf_X7_now hZ dX7_wordBack_13 fl_X7_10 (by assumption) (by assumption) ?_
    refine z_cV hZ (As := []) rfl dX7_wordBack_16 ml_X7_88 wy_X5_goWordBack (m_X5_goWordBack l J JL S8) (by assumption) (by assumption) rfl ⟨Nat.le_of_ble_eq_true rfl, Nat.le_of_ble_eq_true rfl⟩ ⟨Nat.le_of_ble_eq_true rfl, Nat.le_of_ble_eq_true rfl⟩ (Nat.le_of_ble_eq_true rfl) (fun _ _ _ h => h.elim) (fun v16 L16 G16 hp16 => ?_)
    obtain ⟨rfl, rfl, t16, f16⟩ := hp16
    have h0 : G16 (K 0) = _ := (b8.f0 (by omega) (by omega) (by omega) f16).trans h0
    have ha : -1 ≤ dAn 3 v ∧ dAn 3 v ≤ 1000000 := ⟨Int.le_trans (by decide) (abI_rg (by omega)).1, Int.le_trans (abI_rg (by omega)).2 (by decide)⟩
    have hC : True := True.intro
    refine z_cV hZ (As := [_]) rfl dX7_wordBack_19 ml_X7_55 wy_X7_settled (m_X7_settled l hfl ha (fun _ => b8.st (by omega) t16 f16)) (by assumption) (by assumption) rfl ⟨Nat.le_of_ble_eq_true rfl, Nat.le_of_ble_eq_true rfl⟩ ⟨Nat.le_of_ble_eq_true rfl, Nat.le_of_ble_eq_true rfl⟩ (Nat.le_of_ble_eq_true rfl) (fun _ _ _ h => absurd h.2.1 (fun z => absurd (z ▸ (abI_rg (by omega)).1 : (0 : Int) ≤ -1) (by decide))) (fun v19 L19 G19 hp19 => ?_)
    obtain ⟨rfl, hne, rfl, t19⟩ := hp19
    exact z_iret hZ rfl (Nat.le_of_ble_eq_true rfl) (Nat.le_of_ble_eq_true rfl) dX7_wordBack_22 (by exact ⟨True.intro, rfl, rfl, _, _, _, t19, lk.save (lk.op ⟨k1, k2⟩) hb.2.2.1.2, un_s⟩)
  exact hgo
set_option maxRecDepth 100000 in
set_option maxHeartbeats 4000000 in
theorem m_X7_lineBegin (l : Launch) {L : List Nat} {F : Nat → PE} {K : Nat → Nat} {v : Int → Int} {kd sv n : Int} {H Q : Int → Int → Int} {kp bf : Int → Int} (hfl : l.flags = flags0) (t : dr L F K v kd sv H kp Q n bf) : PM l yX7_lineBegin cX7_lineBegin 1 (some .int) (rm 8 1 6) L [.ref (K 0)] F (fun v9 L1 F1 => dOk 4 kd v ∧ v9 = some (.int (iI (dAn 4 v))) ∧ L = L1 ∧ dr L1 F1 K (dTo 4 0 kd v) (dKn 4) (hN sv) (hS sv H v) kp Q n bf) (fun E L1 F1 => E = xS ∧ ¬ dOk 4 kd v ∧ L = L1 ∧ dr L1 F1 K v kd sv H kp Q n bf) := by
  refine pm_of cd_X7_lineBegin (by decide +kernel) (Nat.le_of_ble_eq_true rfl) (fun ZZ hZ => ?_)
  have hgo : ZZ 0 0 0 [some (.ref (K 0))] [] L F := by
    obtain ⟨fi, W, D, hb, hl, hk⟩ := t
    have l0 := hb.1.1 0 (by omega)
    have h0 := hb.2.1
    have l1 := hb.1.1 1 (by omega)
    have l26 := hb.1.1 26 (by omega)
    have h26 := hb.2.2.1.1
    have hv := hl.1
    refine z_aload_n0 hZ dX7_lineBegin_0 ?_
    refine z_gf_X7_history hZ dX7_lineBegin_1 fl_X7_19 (by assumption) (by assumption) ?_
    refine z_aload_n0 hZ dX7_lineBegin_4 ?_
    refine z_gf_X7_now hZ dX7_lineBegin_5 fl_X7_10 (by assumption) (by assumption) ?_
    refine z_cV hZ (As := [_]) rfl dX7_lineBegin_8 ml_X7_47 wy_X2_prepare (m_X2_prepare l hb) (by assumption) (by assumption) rfl ⟨Nat.le_of_ble_eq_true rfl, Nat.le_of_ble_eq_true rfl⟩ ⟨Nat.le_of_ble_eq_true rfl, Nat.le_of_ble_eq_true rfl⟩ (Nat.le_of_ble_eq_true rfl) (fun _ _ _ h => h.elim) (fun v8 L8 G8 hp8 => ?_)
    obtain ⟨rfl, rfl, b8⟩ := hp8
    obtain ⟨k1, k2⟩ := hl.prep hb.2.2.1.2
    have S8 : stP L G8 (sK K 0) v kd := by have z := b8.2.2.2.2.2.2.2 0 (by omega); rw [k1.1, un_n (by have := ro_rg (i := fi + sv); omega), hk] at z; exact z
    have o8 : G8 (K 1) = _ := S8.ob
    have h0 := b8.2.1
    have J := b8.ij (k := 0) (by omega)
    have JL := b8.L (k := 0) (by omega)
    have hdk : un D (ro (fi + sv)) (D 0) 0 = kd := by rw [un_n (by have := ro_rg (i := fi + sv); omega)]; exact hk
    have rg := S8.rg
    have rW := wS_rg (n := v 0) (f := fT v) (p := v 1) (by omega)
    have rB := wB_rg (n := v 0) (f := fT v) (p := v 1) (by omega)
    have rS := lB_rg (n := v 0) (f := fT v) (p := v 1) (by omega)
    have rE := lE_rg (n := v 0) (f := fT v) (p := v 1) (by omega)
    have rG := grN_rg (v := v) (by omega)
    have rK : kLj v ≤ v 0 + 1 := by unfold kLj; split <;> omega
    have rmn : 0 ≤ mxI (v 2) (v 1) - mnI (v 2) (v 1) ∧ mxI (v 2) (v 1) - mnI (v 2) (v 1) ≤ 201 := by unfold mxI mnI; split <;> split <;> omega
    refine z_aload_n0 hZ dX7_lineBegin_11 ?_
    refine z_aload_n0 hZ dX7_lineBegin_12 ?_
    refine z_gf_X7_now hZ dX7_lineBegin_13 fl_X7_10 (by assumption) (by assumption) ?_
    refine z_cV hZ (As := []) rfl dX7_lineBegin_16 ml_X7_91 wy_X5_goLineStart (m_X5_goLineStart l J JL S8) (by assumption) (by assumption) rfl ⟨Nat.le_of_ble_eq_true rfl, Nat.le_of_ble_eq_true rfl⟩ ⟨Nat.le_of_ble_eq_true rfl, Nat.le_of_ble_eq_true rfl⟩ (Nat.le_of_ble_eq_true rfl) (fun _ _ _ h => h.elim) (fun v16 L16 G16 hp16 => ?_)
    obtain ⟨rfl, rfl, t16, f16⟩ := hp16
    have h0 : G16 (K 0) = _ := (b8.f0 (by omega) (by omega) (by omega) f16).trans h0
    have ha : -1 ≤ dAn 4 v ∧ dAn 4 v ≤ 1000000 := ⟨Int.le_trans (by decide) (abI_rg (by omega)).1, Int.le_trans (abI_rg (by omega)).2 (by decide)⟩
    have hC : True := True.intro
    refine z_cV hZ (As := [_]) rfl dX7_lineBegin_19 ml_X7_55 wy_X7_settled (m_X7_settled l hfl ha (fun _ => b8.st (by omega) t16 f16)) (by assumption) (by assumption) rfl ⟨Nat.le_of_ble_eq_true rfl, Nat.le_of_ble_eq_true rfl⟩ ⟨Nat.le_of_ble_eq_true rfl, Nat.le_of_ble_eq_true rfl⟩ (Nat.le_of_ble_eq_true rfl) (fun _ _ _ h => absurd h.2.1 (fun z => absurd (z ▸ (abI_rg (by omega)).1 : (0 : Int) ≤ -1) (by decide))) (fun v19 L19 G19 hp19 => ?_)
    obtain ⟨rfl, hne, rfl, t19⟩ := hp19
    exact z_iret hZ rfl (Nat.le_of_ble_eq_true rfl) (Nat.le_of_ble_eq_true rfl) dX7_lineBegin_22 (by exact ⟨True.intro, rfl, rfl, _, _, _, t19, lk.save (lk.op ⟨k1, k2⟩) hb.2.2.1.2, un_s⟩)
  exact hgo
set_option maxRecDepth 100000 in
set_option maxHeartbeats 4000000 in
theorem m_X7_lineEnd (l : Launch) {L : List Nat} {F : Nat → PE} {K : Nat → Nat} {v : Int → Int} {kd sv n : Int} {H Q : Int → Int → Int} {kp bf : Int → Int} (hfl : l.flags = flags0) (t : dr L F K v kd sv H kp Q n bf) : PM l yX7_lineEnd cX7_lineEnd 1 (some .int) (rm 8 1 6) L [.ref (K 0)] F (fun v9 L1 F1 => dOk 5 kd v ∧ v9 = some (.int (iI (dAn 5 v))) ∧ L = L1 ∧ dr L1 F1 K (dTo 5 0 kd v) (dKn 5) (hN sv) (hS sv H v) kp Q n bf) (fun E L1 F1 => E = xS ∧ ¬ dOk 5 kd v ∧ L = L1 ∧ dr L1 F1 K v kd sv H kp Q n bf) := by
  refine pm_of cd_X7_lineEnd (by decide +kernel) (Nat.le_of_ble_eq_true rfl) (fun ZZ hZ => ?_)
  have hgo : ZZ 0 0 0 [some (.ref (K 0))] [] L F := by
    obtain ⟨fi, W, D, hb, hl, hk⟩ := t
    have l0 := hb.1.1 0 (by omega)
    have h0 := hb.2.1
    have l1 := hb.1.1 1 (by omega)
    have l26 := hb.1.1 26 (by omega)
    have h26 := hb.2.2.1.1
    have hv := hl.1
    refine z_aload_n0 hZ dX7_lineEnd_0 ?_
    refine z_gf_X7_history hZ dX7_lineEnd_1 fl_X7_19 (by assumption) (by assumption) ?_
    refine z_aload_n0 hZ dX7_lineEnd_4 ?_
    refine z_gf_X7_now hZ dX7_lineEnd_5 fl_X7_10 (by assumption) (by assumption) ?_
    refine z_cV hZ (As := [_]) rfl dX7_lineEnd_8 ml_X7_47 wy_X2_prepare (m_X2_prepare l hb) (by assumption) (by assumption) rfl ⟨Nat.le_of_ble_eq_true rfl, Nat.le_of_ble_eq_true rfl⟩ ⟨Nat.le_of_ble_eq_true rfl, Nat.le_of_ble_eq_true rfl⟩ (Nat.le_of_ble_eq_true rfl) (fun _ _ _ h => h.elim) (fun v8 L8 G8 hp8 => ?_)
    obtain ⟨rfl, rfl, b8⟩ := hp8
    obtain ⟨k1, k2⟩ := hl.prep hb.2.2.1.2
    have S8 : stP L G8 (sK K 0) v kd := by have z := b8.2.2.2.2.2.2.2 0 (by omega); rw [k1.1, un_n (by have := ro_rg (i := fi + sv); omega), hk] at z; exact z
    have o8 : G8 (K 1) = _ := S8.ob
    have h0 := b8.2.1
    have J := b8.ij (k := 0) (by omega)
    have JL := b8.L (k := 0) (by omega)
    have hdk : un D (ro (fi + sv)) (D 0) 0 = kd := by rw [un_n (by have := ro_rg (i := fi + sv); omega)]; exact hk
    have rg := S8.rg
    have rW := wS_rg (n := v 0) (f := fT v) (p := v 1) (by omega)
    have rB := wB_rg (n := v 0) (f := fT v) (p := v 1) (by omega)
    have rS := lB_rg (n := v 0) (f := fT v) (p := v 1) (by omega)
    have rE := lE_rg (n := v 0) (f := fT v) (p := v 1) (by omega)
    have rG := grN_rg (v := v) (by omega)
    have rK : kLj v ≤ v 0 + 1 := by unfold kLj; split <;> omega
    have rmn : 0 ≤ mxI (v 2) (v 1) - mnI (v 2) (v 1) ∧ mxI (v 2) (v 1) - mnI (v 2) (v 1) ≤ 201 := by unfold mxI mnI; split <;> split <;> omega
    refine z_aload_n0 hZ dX7_lineEnd_11 ?_
    refine z_aload_n0 hZ dX7_lineEnd_12 ?_
    refine z_gf_X7_now hZ dX7_lineEnd_13 fl_X7_10 (by assumption) (by assumption) ?_
    refine z_cV hZ (As := []) rfl dX7_lineEnd_16 ml_X7_94 wy_X5_goLineStop (m_X5_goLineStop l J JL S8) (by assumption) (by assumption) rfl ⟨Nat.le_of_ble_eq_true rfl, Nat.le_of_ble_eq_true rfl⟩ ⟨Nat.le_of_ble_eq_true rfl, Nat.le_of_ble_eq_true rfl⟩ (Nat.le_of_ble_eq_true rfl) (fun _ _ _ h => h.elim) (fun v16 L16 G16 hp16 => ?_)
    obtain ⟨rfl, rfl, t16, f16⟩ := hp16
    have h0 : G16 (K 0) = _ := (b8.f0 (by omega) (by omega) (by omega) f16).trans h0
    have ha : -1 ≤ dAn 5 v ∧ dAn 5 v ≤ 1000000 := ⟨Int.le_trans (by decide) (abI_rg (by omega)).1, Int.le_trans (abI_rg (by omega)).2 (by decide)⟩
    have hC : True := True.intro
    refine z_cV hZ (As := [_]) rfl dX7_lineEnd_19 ml_X7_55 wy_X7_settled (m_X7_settled l hfl ha (fun _ => b8.st (by omega) t16 f16)) (by assumption) (by assumption) rfl ⟨Nat.le_of_ble_eq_true rfl, Nat.le_of_ble_eq_true rfl⟩ ⟨Nat.le_of_ble_eq_true rfl, Nat.le_of_ble_eq_true rfl⟩ (Nat.le_of_ble_eq_true rfl) (fun _ _ _ h => absurd h.2.1 (fun z => absurd (z ▸ (abI_rg (by omega)).1 : (0 : Int) ≤ -1) (by decide))) (fun v19 L19 G19 hp19 => ?_)
    obtain ⟨rfl, hne, rfl, t19⟩ := hp19
    exact z_iret hZ rfl (Nat.le_of_ble_eq_true rfl) (Nat.le_of_ble_eq_true rfl) dX7_lineEnd_22 (by exact ⟨True.intro, rfl, rfl, _, _, _, t19, lk.save (lk.op ⟨k1, k2⟩) hb.2.2.1.2, un_s⟩)
  exact hgo
set_option maxRecDepth 100000 in
set_option maxHeartbeats 4000000 in
theorem m_X7_mark (l : Launch) {L : List Nat} {F : Nat → PE} {K : Nat → Nat} {v : Int → Int} {kd sv n : Int} {H Q : Int → Int → Int} {kp bf : Int → Int} (hfl : l.flags = flags0) (t : dr L F K v kd sv H kp Q n bf) : PM l yX7_mark cX7_mark 1 (some .int) (rm 8 1 6) L [.ref (K 0)] F (fun v9 L1 F1 => dOk 6 kd v ∧ v9 = some (.int (iI (dAn 6 v))) ∧ L = L1 ∧ dr L1 F1 K (dTo 6 0 kd v) (dKn 6) (hN sv) (hS sv H v) kp Q n bf) (fun E L1 F1 => E = xS ∧ ¬ dOk 6 kd v ∧ L = L1 ∧ dr L1 F1 K v kd sv H kp Q n bf) := by
  refine pm_of cd_X7_mark (by decide +kernel) (Nat.le_of_ble_eq_true rfl) (fun ZZ hZ => ?_)
  have hgo : ZZ 0 0 0 [some (.ref (K 0))] [] L F := by
    obtain ⟨fi, W, D, hb, hl, hk⟩ := t
    have l0 := hb.1.1 0 (by omega)
    have h0 := hb.2.1
    have l1 := hb.1.1 1 (by omega)
    have l26 := hb.1.1 26 (by omega)
    have h26 := hb.2.2.1.1
    have hv := hl.1
    refine z_aload_n0 hZ dX7_mark_0 ?_
    refine z_gf_X7_history hZ dX7_mark_1 fl_X7_19 (by assumption) (by assumption) ?_
    refine z_aload_n0 hZ dX7_mark_4 ?_
    refine z_gf_X7_now hZ dX7_mark_5 fl_X7_10 (by assumption) (by assumption) ?_
    refine z_cV hZ (As := [_]) rfl dX7_mark_8 ml_X7_47 wy_X2_prepare (m_X2_prepare l hb) (by assumption) (by assumption) rfl ⟨Nat.le_of_ble_eq_true rfl, Nat.le_of_ble_eq_true rfl⟩ ⟨Nat.le_of_ble_eq_true rfl, Nat.le_of_ble_eq_true rfl⟩ (Nat.le_of_ble_eq_true rfl) (fun _ _ _ h => h.elim) (fun v8 L8 G8 hp8 => ?_)
    obtain ⟨rfl, rfl, b8⟩ := hp8
    obtain ⟨k1, k2⟩ := hl.prep hb.2.2.1.2
    have S8 : stP L G8 (sK K 0) v kd := by have z := b8.2.2.2.2.2.2.2 0 (by omega); rw [k1.1, un_n (by have := ro_rg (i := fi + sv); omega), hk] at z; exact z
    have o8 : G8 (K 1) = _ := S8.ob
    have h0 := b8.2.1
    have J := b8.ij (k := 0) (by omega)
    have JL := b8.L (k := 0) (by omega)
    have hdk : un D (ro (fi + sv)) (D 0) 0 = kd := by rw [un_n (by have := ro_rg (i := fi + sv); omega)]; exact hk
    have rg := S8.rg
    have rW := wS_rg (n := v 0) (f := fT v) (p := v 1) (by omega)
    have rB := wB_rg (n := v 0) (f := fT v) (p := v 1) (by omega)
    have rS := lB_rg (n := v 0) (f := fT v) (p := v 1) (by omega)
    have rE := lE_rg (n := v 0) (f := fT v) (p := v 1) (by omega)
    have rG := grN_rg (v := v) (by omega)
    have rK : kLj v ≤ v 0 + 1 := by unfold kLj; split <;> omega
    have rmn : 0 ≤ mxI (v 2) (v 1) - mnI (v 2) (v 1) ∧ mxI (v 2) (v 1) - mnI (v 2) (v 1) ≤ 201 := by unfold mxI mnI; split <;> split <;> omega
    refine z_aload_n0 hZ dX7_mark_11 ?_
    refine z_aload_n0 hZ dX7_mark_12 ?_
    refine z_gf_X7_now hZ dX7_mark_13 fl_X7_10 (by assumption) (by assumption) ?_
    refine z_cV hZ (As := []) rfl dX7_mark_16 ml_X7_102 wy_X5_setMark (m_X5_setMark l J JL S8) (by assumption) (by assumption) rfl ⟨Nat.le_of_ble_eq_true rfl, Nat.le_of_ble_eq_true rfl⟩ ⟨Nat.le_of_ble_eq_true rfl, Nat.le_of_ble_eq_true rfl⟩ (Nat.le_of_ble_eq_true rfl) (fun _ _ _ h => h.elim) (fun v16 L16 G16 hp16 => ?_)
    obtain ⟨rfl, rfl, t16, f16⟩ := hp16
    have h0 : G16 (K 0) = _ := (b8.f0 (by omega) (by omega) (by omega) f16).trans h0
    have ha : -1 ≤ dAn 6 v ∧ dAn 6 v ≤ 1000000 := by show -1 ≤ v 1 ∧ v 1 ≤ 1000000; omega
    refine z_cV hZ (As := [_]) rfl dX7_mark_19 ml_X7_55 wy_X7_settled (m_X7_settled l hfl ha (fun _ => b8.st (by omega) t16 f16)) (by assumption) (by assumption) rfl ⟨Nat.le_of_ble_eq_true rfl, Nat.le_of_ble_eq_true rfl⟩ ⟨Nat.le_of_ble_eq_true rfl, Nat.le_of_ble_eq_true rfl⟩ (Nat.le_of_ble_eq_true rfl) (fun _ _ _ h => absurd h.2.1 (by omega)) (fun v19 L19 G19 hp19 => ?_)
    obtain ⟨rfl, hne, rfl, t19⟩ := hp19
    exact z_iret hZ rfl (Nat.le_of_ble_eq_true rfl) (Nat.le_of_ble_eq_true rfl) dX7_mark_22 (by exact ⟨True.intro, rfl, rfl, _, _, _, t19, lk.save (lk.op ⟨k1, k2⟩) hb.2.2.1.2, un_s⟩)
  exact hgo
set_option maxRecDepth 100000 in
set_option maxHeartbeats 4000000 in
theorem m_X7_rub (l : Launch) {L : List Nat} {F : Nat → PE} {K : Nat → Nat} {v : Int → Int} {kd sv n : Int} {H Q : Int → Int → Int} {kp bf : Int → Int} (hfl : l.flags = flags0) (t : dr L F K v kd sv H kp Q n bf) : PM l yX7_rub cX7_rub 1 (some .int) (rm 8 1 6) L [.ref (K 0)] F (fun v9 L1 F1 => dOk 16 kd v ∧ v9 = some (.int (iI (dAn 16 v))) ∧ L = L1 ∧ dr L1 F1 K (dTo 16 0 kd v) (dKn 16) (hN sv) (hS sv H v) kp Q n bf) (fun E L1 F1 => E = xS ∧ ¬ dOk 16 kd v ∧ L = L1 ∧ dr L1 F1 K v kd sv H kp Q n bf) := by
  refine pm_of cd_X7_rub (by decide +kernel) (Nat.le_of_ble_eq_true rfl) (fun ZZ hZ => ?_)
  have hgo : ZZ 0 0 0 [some (.ref (K 0))] [] L F := by
    obtain ⟨fi, W, D, hb, hl, hk⟩ := t
    have l0 := hb.1.1 0 (by omega)
    have h0 := hb.2.1
    have l1 := hb.1.1 1 (by omega)
    have l26 := hb.1.1 26 (by omega)
    have h26 := hb.2.2.1.1
    have hv := hl.1
    refine z_aload_n0 hZ dX7_rub_0 ?_
    refine z_gf_X7_history hZ dX7_rub_1 fl_X7_19 (by assumption) (by assumption) ?_
    refine z_aload_n0 hZ dX7_rub_4 ?_
    refine z_gf_X7_now hZ dX7_rub_5 fl_X7_10 (by assumption) (by assumption) ?_
    refine z_cV hZ (As := [_]) rfl dX7_rub_8 ml_X7_47 wy_X2_prepare (m_X2_prepare l hb) (by assumption) (by assumption) rfl ⟨Nat.le_of_ble_eq_true rfl, Nat.le_of_ble_eq_true rfl⟩ ⟨Nat.le_of_ble_eq_true rfl, Nat.le_of_ble_eq_true rfl⟩ (Nat.le_of_ble_eq_true rfl) (fun _ _ _ h => h.elim) (fun v8 L8 G8 hp8 => ?_)
    obtain ⟨rfl, rfl, b8⟩ := hp8
    obtain ⟨k1, k2⟩ := hl.prep hb.2.2.1.2
    have S8 : stP L G8 (sK K 0) v kd := by have z := b8.2.2.2.2.2.2.2 0 (by omega); rw [k1.1, un_n (by have := ro_rg (i := fi + sv); omega), hk] at z; exact z
    have o8 : G8 (K 1) = _ := S8.ob
    have h0 := b8.2.1
    have J := b8.ij (k := 0) (by omega)
    have JL := b8.L (k := 0) (by omega)
    have hdk : un D (ro (fi + sv)) (D 0) 0 = kd := by rw [un_n (by have := ro_rg (i := fi + sv); omega)]; exact hk
    have rg := S8.rg
    have rW := wS_rg (n := v 0) (f := fT v) (p := v 1) (by omega)
    have rB := wB_rg (n := v 0) (f := fT v) (p := v 1) (by omega)
    have rS := lB_rg (n := v 0) (f := fT v) (p := v 1) (by omega)
    have rE := lE_rg (n := v 0) (f := fT v) (p := v 1) (by omega)
    have rG := grN_rg (v := v) (by omega)
    have rK : kLj v ≤ v 0 + 1 := by unfold kLj; split <;> omega
    have rmn : 0 ≤ mxI (v 2) (v 1) - mnI (v 2) (v 1) ∧ mxI (v 2) (v 1) - mnI (v 2) (v 1) ≤ 201 := by unfold mxI mnI; split <;> split <;> omega
    refine z_aload_n0 hZ dX7_rub_11 ?_
    refine z_aload_n0 hZ dX7_rub_12 ?_
    refine z_gf_X7_now hZ dX7_rub_13 fl_X7_10 (by assumption) (by assumption) ?_
    refine z_cV hZ (As := []) rfl dX7_rub_16 ml_X7_58 wy_X5_rubOut (m_X5_rubOut l J JL S8) (by assumption) (by assumption) rfl ⟨Nat.le_of_ble_eq_true rfl, Nat.le_of_ble_eq_true rfl⟩ ⟨Nat.le_of_ble_eq_true rfl, Nat.le_of_ble_eq_true rfl⟩ (Nat.le_of_ble_eq_true rfl) (fun _ _ _ h => h.elim) (fun v16 L16 G16 hp16 => ?_)
    obtain ⟨rfl, rfl, t16, f16⟩ := hp16
    have h0 : G16 (K 0) = _ := (b8.f0 (by omega) (by omega) (by omega) f16).trans h0
    have hcs : ((0 < v 1) ∧ (if 0 < v 1 then v (18 + (v 1 - 1)) else -1) = dAn 16 v ∧ 0 ≤ dAn 16 v ∧ dAn 16 v ≤ 100000 ∧ stP L G16 (sK K 0) (dTo 16 0 kd v) (dKn 16)) ∨ (¬ (0 < v 1) ∧ (if 0 < v 1 then v (18 + (v 1 - 1)) else -1) = -1 ∧ G16 = G8) := by
      by_cases q : 0 < v 1
      · rw [if_pos q] at t16 ⊢; exact Or.inl ⟨q, rfl, by show 0 ≤ v (18 + (v 1 - 1)); omega, by show v (18 + (v 1 - 1)) ≤ 100000; omega, t16.1⟩
      · rw [if_neg q] at t16 ⊢; exact Or.inr ⟨q, rfl, t16⟩
    obtain ⟨a, hae⟩ : ∃ a, a = (if 0 < v 1 then v (18 + (v 1 - 1)) else -1) := ⟨_, rfl⟩
    rw [← hae] at hcs ⊢
    have hcs2 : a ≠ -1 → _ := fun hne => hcs.resolve_right (fun z => hne z.2.1)
    have ha : -1 ≤ a ∧ a ≤ 1000000 := by rcases hcs with z | z <;> omega
    refine z_cV hZ (As := [_]) rfl dX7_rub_19 ml_X7_55 wy_X7_settled (m_X7_settled l hfl ha (fun hne => b8.st (by omega) (hcs2 hne).2.2.2.2 f16)) (by assumption) (by assumption) rfl ⟨Nat.le_of_ble_eq_true rfl, Nat.le_of_ble_eq_true rfl⟩ ⟨Nat.le_of_ble_eq_true rfl, Nat.le_of_ble_eq_true rfl⟩ (Nat.le_of_ble_eq_true rfl) (fun _ _ _ h => by obtain ⟨rfl, he, rfl, rfl⟩ := h; have hn := hcs.resolve_left (fun z => by omega); exact ⟨rfl, hn.1, rfl, fi, _, _, (by rw [hn.2.2]; exact b8), k1, hdk⟩) (fun v19 L19 G19 hp19 => ?_)
    obtain ⟨rfl, hne, rfl, t19⟩ := hp19
    exact z_iret hZ rfl (Nat.le_of_ble_eq_true rfl) (Nat.le_of_ble_eq_true rfl) dX7_rub_22 (by
            obtain ⟨z1, z2, z3⟩ := hcs2 hne
            exact ⟨z1, pv z2, rfl, _, _, _, t19, lk.save (lk.op ⟨k1, k2⟩) hb.2.2.1.2, un_s⟩)
  exact hgo
set_option maxRecDepth 100000 in
set_option maxHeartbeats 4000000 in
theorem m_X7_swap (l : Launch) {L : List Nat} {F : Nat → PE} {K : Nat → Nat} {v : Int → Int} {kd sv n : Int} {H Q : Int → Int → Int} {kp bf : Int → Int} (hfl : l.flags = flags0) (t : dr L F K v kd sv H kp Q n bf) : PM l yX7_swap cX7_swap 1 (some .int) (rm 8 1 6) L [.ref (K 0)] F (fun v9 L1 F1 => dOk 17 kd v ∧ v9 = some (.int (iI (dAn 17 v))) ∧ L = L1 ∧ dr L1 F1 K (dTo 17 0 kd v) (dKn 17) (hN sv) (hS sv H v) kp Q n bf) (fun E L1 F1 => E = xS ∧ ¬ dOk 17 kd v ∧ L = L1 ∧ dr L1 F1 K v kd sv H kp Q n bf) := by
  refine pm_of cd_X7_swap (by decide +kernel) (Nat.le_of_ble_eq_true rfl) (fun ZZ hZ => ?_)
  have hgo : ZZ 0 0 0 [some (.ref (K 0))] [] L F := by
    obtain ⟨fi, W, D, hb, hl, hk⟩ := t
    have l0 := hb.1.1 0 (by omega)
    have h0 := hb.2.1
    have l1 := hb.1.1 1 (by omega)
    have l26 := hb.1.1 26 (by omega)
    have h26 := hb.2.2.1.1
    have hv := hl.1
    refine z_aload_n0 hZ dX7_swap_0 ?_
    refine z_gf_X7_history hZ dX7_swap_1 fl_X7_19 (by assumption) (by assumption) ?_
    refine z_aload_n0 hZ dX7_swap_4 ?_
    refine z_gf_X7_now hZ dX7_swap_5 fl_X7_10 (by assumption) (by assumption) ?_
    refine z_cV hZ (As := [_]) rfl dX7_swap_8 ml_X7_47 wy_X2_prepare (m_X2_prepare l hb) (by assumption) (by assumption) rfl ⟨Nat.le_of_ble_eq_true rfl, Nat.le_of_ble_eq_true rfl⟩ ⟨Nat.le_of_ble_eq_true rfl, Nat.le_of_ble_eq_true rfl⟩ (Nat.le_of_ble_eq_true rfl) (fun _ _ _ h => h.elim) (fun v8 L8 G8 hp8 => ?_)
    obtain ⟨rfl, rfl, b8⟩ := hp8
    obtain ⟨k1, k2⟩ := hl.prep hb.2.2.1.2
    have S8 : stP L G8 (sK K 0) v kd := by have z := b8.2.2.2.2.2.2.2 0 (by omega); rw [k1.1, un_n (by have := ro_rg (i := fi + sv); omega), hk] at z; exact z
    have o8 : G8 (K 1) = _ := S8.ob
    have h0 := b8.2.1
    have J := b8.ij (k := 0) (by omega)
    have JL := b8.L (k := 0) (by omega)
    have hdk : un D (ro (fi + sv)) (D 0) 0 = kd := by rw [un_n (by have := ro_rg (i := fi + sv); omega)]; exact hk
    have rg := S8.rg
    have rW := wS_rg (n := v 0) (f := fT v) (p := v 1) (by omega)
    have rB := wB_rg (n := v 0) (f := fT v) (p := v 1) (by omega)
    have rS := lB_rg (n := v 0) (f := fT v) (p := v 1) (by omega)
    have rE := lE_rg (n := v 0) (f := fT v) (p := v 1) (by omega)
    have rG := grN_rg (v := v) (by omega)
    have rK : kLj v ≤ v 0 + 1 := by unfold kLj; split <;> omega
    have rmn : 0 ≤ mxI (v 2) (v 1) - mnI (v 2) (v 1) ∧ mxI (v 2) (v 1) - mnI (v 2) (v 1) ≤ 201 := by unfold mxI mnI; split <;> split <;> omega
    refine z_aload_n0 hZ dX7_swap_11 ?_
    refine z_aload_n0 hZ dX7_swap_12 ?_
    refine z_gf_X7_now hZ dX7_swap_13 fl_X7_10 (by assumption) (by assumption) ?_
    refine z_cV hZ (As := []) rfl dX7_swap_16 ml_X7_62 wy_X5_swapBoth (m_X5_swapBoth l J JL S8) (by assumption) (by assumption) rfl ⟨Nat.le_of_ble_eq_true rfl, Nat.le_of_ble_eq_true rfl⟩ ⟨Nat.le_of_ble_eq_true rfl, Nat.le_of_ble_eq_true rfl⟩ (Nat.le_of_ble_eq_true rfl) (fun _ _ _ h => h.elim) (fun v16 L16 G16 hp16 => ?_)
    obtain ⟨rfl, rfl, t16, f16⟩ := hp16
    have h0 : G16 (K 0) = _ := (b8.f0 (by omega) (by omega) (by omega) f16).trans h0
    have hcs : ((0 < v 1 ∧ v 1 < v 0) ∧ (if 0 < v 1 ∧ v 1 < v 0 then v (18 + v 1 - 1) else -1) = dAn 17 v ∧ 0 ≤ dAn 17 v ∧ dAn 17 v ≤ 100000 ∧ stP L G16 (sK K 0) (dTo 17 0 kd v) (dKn 17)) ∨ (¬ (0 < v 1 ∧ v 1 < v 0) ∧ (if 0 < v 1 ∧ v 1 < v 0 then v (18 + v 1 - 1) else -1) = -1 ∧ G16 = G8) := by
      by_cases q : 0 < v 1 ∧ v 1 < v 0
      · rw [if_pos q] at t16 ⊢; exact Or.inl ⟨q, rfl, by show 0 ≤ v (18 + v 1 - 1); omega, by show v (18 + v 1 - 1) ≤ 100000; omega, t16.1⟩
      · rw [if_neg q] at t16 ⊢; exact Or.inr ⟨q, rfl, t16⟩
    obtain ⟨a, hae⟩ : ∃ a, a = (if 0 < v 1 ∧ v 1 < v 0 then v (18 + v 1 - 1) else -1) := ⟨_, rfl⟩
    rw [← hae] at hcs ⊢
    have hcs2 : a ≠ -1 → _ := fun hne => hcs.resolve_right (fun z => hne z.2.1)
    have ha : -1 ≤ a ∧ a ≤ 1000000 := by rcases hcs with z | z <;> omega
    refine z_cV hZ (As := [_]) rfl dX7_swap_19 ml_X7_55 wy_X7_settled (m_X7_settled l hfl ha (fun hne => b8.st (by omega) (hcs2 hne).2.2.2.2 f16)) (by assumption) (by assumption) rfl ⟨Nat.le_of_ble_eq_true rfl, Nat.le_of_ble_eq_true rfl⟩ ⟨Nat.le_of_ble_eq_true rfl, Nat.le_of_ble_eq_true rfl⟩ (Nat.le_of_ble_eq_true rfl) (fun _ _ _ h => by obtain ⟨rfl, he, rfl, rfl⟩ := h; have hn := hcs.resolve_left (fun z => by omega); exact ⟨rfl, hn.1, rfl, fi, _, _, (by rw [hn.2.2]; exact b8), k1, hdk⟩) (fun v19 L19 G19 hp19 => ?_)
    obtain ⟨rfl, hne, rfl, t19⟩ := hp19
    exact z_iret hZ rfl (Nat.le_of_ble_eq_true rfl) (Nat.le_of_ble_eq_true rfl) dX7_swap_22 (by
            obtain ⟨z1, z2, z3⟩ := hcs2 hne
            exact ⟨z1, pv z2, rfl, _, _, _, t19, lk.save (lk.op ⟨k1, k2⟩) hb.2.2.1.2, un_s⟩)
  exact hgo
set_option maxRecDepth 100000 in
set_option maxHeartbeats 4000000 in
theorem m_X7_exchange (l : Launch) {L : List Nat} {F : Nat → PE} {K : Nat → Nat} {v : Int → Int} {kd sv n : Int} {H Q : Int → Int → Int} {kp bf : Int → Int} (hfl : l.flags = flags0) (t : dr L F K v kd sv H kp Q n bf) : PM l yX7_exchange cX7_exchange 1 (some .int) (rm 8 1 6) L [.ref (K 0)] F (fun v9 L1 F1 => dOk 7 kd v ∧ v9 = some (.int (iI (dAn 7 v))) ∧ L = L1 ∧ dr L1 F1 K (dTo 7 0 kd v) (dKn 7) (hN sv) (hS sv H v) kp Q n bf) (fun E L1 F1 => E = xS ∧ ¬ dOk 7 kd v ∧ L = L1 ∧ dr L1 F1 K v kd sv H kp Q n bf) := by
  refine pm_of cd_X7_exchange (by decide +kernel) (Nat.le_of_ble_eq_true rfl) (fun ZZ hZ => ?_)
  have hgo : ZZ 0 0 0 [some (.ref (K 0))] [] L F := by
    obtain ⟨fi, W, D, hb, hl, hk⟩ := t
    have l0 := hb.1.1 0 (by omega)
    have h0 := hb.2.1
    have l1 := hb.1.1 1 (by omega)
    have l26 := hb.1.1 26 (by omega)
    have h26 := hb.2.2.1.1
    have hv := hl.1
    refine z_aload_n0 hZ dX7_exchange_0 ?_
    refine z_gf_X7_history hZ dX7_exchange_1 fl_X7_19 (by assumption) (by assumption) ?_
    refine z_aload_n0 hZ dX7_exchange_4 ?_
    refine z_gf_X7_now hZ dX7_exchange_5 fl_X7_10 (by assumption) (by assumption) ?_
    refine z_cV hZ (As := [_]) rfl dX7_exchange_8 ml_X7_47 wy_X2_prepare (m_X2_prepare l hb) (by assumption) (by assumption) rfl ⟨Nat.le_of_ble_eq_true rfl, Nat.le_of_ble_eq_true rfl⟩ ⟨Nat.le_of_ble_eq_true rfl, Nat.le_of_ble_eq_true rfl⟩ (Nat.le_of_ble_eq_true rfl) (fun _ _ _ h => h.elim) (fun v8 L8 G8 hp8 => ?_)
    obtain ⟨rfl, rfl, b8⟩ := hp8
    obtain ⟨k1, k2⟩ := hl.prep hb.2.2.1.2
    have S8 : stP L G8 (sK K 0) v kd := by have z := b8.2.2.2.2.2.2.2 0 (by omega); rw [k1.1, un_n (by have := ro_rg (i := fi + sv); omega), hk] at z; exact z
    have o8 : G8 (K 1) = _ := S8.ob
    have h0 := b8.2.1
    have J := b8.ij (k := 0) (by omega)
    have JL := b8.L (k := 0) (by omega)
    have hdk : un D (ro (fi + sv)) (D 0) 0 = kd := by rw [un_n (by have := ro_rg (i := fi + sv); omega)]; exact hk
    have rg := S8.rg
    have rW := wS_rg (n := v 0) (f := fT v) (p := v 1) (by omega)
    have rB := wB_rg (n := v 0) (f := fT v) (p := v 1) (by omega)
    have rS := lB_rg (n := v 0) (f := fT v) (p := v 1) (by omega)
    have rE := lE_rg (n := v 0) (f := fT v) (p := v 1) (by omega)
    have rG := grN_rg (v := v) (by omega)
    have rK : kLj v ≤ v 0 + 1 := by unfold kLj; split <;> omega
    have rmn : 0 ≤ mxI (v 2) (v 1) - mnI (v 2) (v 1) ∧ mxI (v 2) (v 1) - mnI (v 2) (v 1) ≤ 201 := by unfold mxI mnI; split <;> split <;> omega
    refine z_aload_n0 hZ dX7_exchange_11 ?_
    refine z_aload_n0 hZ dX7_exchange_12 ?_
    refine z_gf_X7_now hZ dX7_exchange_13 fl_X7_10 (by assumption) (by assumption) ?_
    refine z_cV hZ (As := []) rfl dX7_exchange_16 ml_X7_105 wy_X5_exchangeBoth (m_X5_exchangeBoth l J JL S8) (by assumption) (by assumption) rfl ⟨Nat.le_of_ble_eq_true rfl, Nat.le_of_ble_eq_true rfl⟩ ⟨Nat.le_of_ble_eq_true rfl, Nat.le_of_ble_eq_true rfl⟩ (Nat.le_of_ble_eq_true rfl) (fun _ _ _ h => h.elim) (fun v16 L16 G16 hp16 => ?_)
    obtain ⟨rfl, rfl, t16, f16⟩ := hp16
    have h0 : G16 (K 0) = _ := (b8.f0 (by omega) (by omega) (by omega) f16).trans h0
    have hcs : ((v 2 ≠ -1) ∧ (if v 2 = -1 then -1 else v 2) = dAn 7 v ∧ 0 ≤ dAn 7 v ∧ dAn 7 v ≤ 100000 ∧ stP L G16 (sK K 0) (dTo 7 0 kd v) (dKn 7)) ∨ (¬ (v 2 ≠ -1) ∧ (if v 2 = -1 then -1 else v 2) = -1 ∧ G16 = G8) := by
      by_cases q : v 2 = -1
      · rw [if_pos q] at t16 ⊢; exact Or.inr ⟨fun z => z q, rfl, t16⟩
      · rw [if_neg q] at t16 ⊢; exact Or.inl ⟨q, rfl, by show 0 ≤ v 2; omega, by show v 2 ≤ 100000; omega, t16⟩
    obtain ⟨a, hae⟩ : ∃ a, a = (if v 2 = -1 then -1 else v 2) := ⟨_, rfl⟩
    rw [← hae] at hcs ⊢
    have hcs2 : a ≠ -1 → _ := fun hne => hcs.resolve_right (fun z => hne z.2.1)
    have ha : -1 ≤ a ∧ a ≤ 1000000 := by rcases hcs with z | z <;> omega
    refine z_cV hZ (As := [_]) rfl dX7_exchange_19 ml_X7_55 wy_X7_settled (m_X7_settled l hfl ha (fun hne => b8.st (by omega) (hcs2 hne).2.2.2.2 f16)) (by assumption) (by assumption) rfl ⟨Nat.le_of_ble_eq_true rfl, Nat.le_of_ble_eq_true rfl⟩ ⟨Nat.le_of_ble_eq_true rfl, Nat.le_of_ble_eq_true rfl⟩ (Nat.le_of_ble_eq_true rfl) (fun _ _ _ h => by obtain ⟨rfl, he, rfl, rfl⟩ := h; have hn := hcs.resolve_left (fun z => by omega); exact ⟨rfl, hn.1, rfl, fi, _, _, (by rw [hn.2.2]; exact b8), k1, hdk⟩) (fun v19 L19 G19 hp19 => ?_)
    obtain ⟨rfl, hne, rfl, t19⟩ := hp19
    exact z_iret hZ rfl (Nat.le_of_ble_eq_true rfl) (Nat.le_of_ble_eq_true rfl) dX7_exchange_22 (by
            obtain ⟨z1, z2, z3⟩ := hcs2 hne
            exact ⟨z1, pv z2, rfl, _, _, _, t19, lk.save (lk.op ⟨k1, k2⟩) hb.2.2.1.2, un_s⟩)
  exact hgo
set_option maxRecDepth 100000 in
set_option maxHeartbeats 4000000 in
theorem m_X7_killWord (l : Launch) {L : List Nat} {F : Nat → PE} {K : Nat → Nat} {v : Int → Int} {kd sv n : Int} {H Q : Int → Int → Int} {kp bf : Int → Int} (hfl : l.flags = flags0) (t : dr L F K v kd sv H kp Q n bf) : PM l yX7_killWord cX7_killWord 1 (some .int) (rm 8 1 6) L [.ref (K 0)] F (fun v9 L1 F1 => dOk 8 kd v ∧ v9 = some (.int (iI (dAn 8 v))) ∧ L = L1 ∧ dr L1 F1 K (dTo 8 0 kd v) (dKn 8) (hN sv) (hS sv H v) kp Q n bf) (fun E L1 F1 => E = xS ∧ ¬ dOk 8 kd v ∧ L = L1 ∧ dr L1 F1 K v kd sv H kp Q n bf) := by
  refine pm_of cd_X7_killWord (by decide +kernel) (Nat.le_of_ble_eq_true rfl) (fun ZZ hZ => ?_)
  have hgo : ZZ 0 0 0 [some (.ref (K 0))] [] L F := by
    obtain ⟨fi, W, D, hb, hl, hk⟩ := t
    have l0 := hb.1.1 0 (by omega)
    have h0 := hb.2.1
    have l1 := hb.1.1 1 (by omega)
    have l26 := hb.1.1 26 (by omega)
    have h26 := hb.2.2.1.1
    have hv := hl.1
    refine z_aload_n0 hZ dX7_killWord_0 ?_
    refine z_gf_X7_history hZ dX7_killWord_1 fl_X7_19 (by assumption) (by assumption) ?_
    refine z_aload_n0 hZ dX7_killWord_4 ?_
    refine z_gf_X7_now hZ dX7_killWord_5 fl_X7_10 (by assumption) (by assumption) ?_
    refine z_cV hZ (As := [_]) rfl dX7_killWord_8 ml_X7_47 wy_X2_prepare (m_X2_prepare l hb) (by assumption) (by assumption) rfl ⟨Nat.le_of_ble_eq_true rfl, Nat.le_of_ble_eq_true rfl⟩ ⟨Nat.le_of_ble_eq_true rfl, Nat.le_of_ble_eq_true rfl⟩ (Nat.le_of_ble_eq_true rfl) (fun _ _ _ h => h.elim) (fun v8 L8 G8 hp8 => ?_)
    obtain ⟨rfl, rfl, b8⟩ := hp8
    obtain ⟨k1, k2⟩ := hl.prep hb.2.2.1.2
    have S8 : stP L G8 (sK K 0) v kd := by have z := b8.2.2.2.2.2.2.2 0 (by omega); rw [k1.1, un_n (by have := ro_rg (i := fi + sv); omega), hk] at z; exact z
    have o8 : G8 (K 1) = _ := S8.ob
    have h0 := b8.2.1
    have J := b8.ij (k := 0) (by omega)
    have JL := b8.L (k := 0) (by omega)
    have hdk : un D (ro (fi + sv)) (D 0) 0 = kd := by rw [un_n (by have := ro_rg (i := fi + sv); omega)]; exact hk
    have rg := S8.rg
    have rW := wS_rg (n := v 0) (f := fT v) (p := v 1) (by omega)
    have rB := wB_rg (n := v 0) (f := fT v) (p := v 1) (by omega)
    have rS := lB_rg (n := v 0) (f := fT v) (p := v 1) (by omega)
    have rE := lE_rg (n := v 0) (f := fT v) (p := v 1) (by omega)
    have rG := grN_rg (v := v) (by omega)
    have rK : kLj v ≤ v 0 + 1 := by unfold kLj; split <;> omega
    have rmn : 0 ≤ mxI (v 2) (v 1) - mnI (v 2) (v 1) ∧ mxI (v 2) (v 1) - mnI (v 2) (v 1) ≤ 201 := by unfold mxI mnI; split <;> split <;> omega
    refine z_aload_n0 hZ dX7_killWord_11 ?_
    refine z_aload_n0 hZ dX7_killWord_12 ?_
    refine z_gf_X7_now hZ dX7_killWord_13 fl_X7_10 (by assumption) (by assumption) ?_
    refine z_cV hZ (As := []) rfl dX7_killWord_16 ml_X7_114 wy_X5_killWordOn (m_X5_killWordOn l J JL S8) (by assumption) (by assumption) rfl ⟨Nat.le_of_ble_eq_true rfl, Nat.le_of_ble_eq_true rfl⟩ ⟨Nat.le_of_ble_eq_true rfl, Nat.le_of_ble_eq_true rfl⟩ (Nat.le_of_ble_eq_true rfl) (fun _ _ _ h => h.elim) (fun v16 L16 G16 hp16 => ?_)
    obtain ⟨rfl, rfl, t16, f16⟩ := hp16
    have h0 : G16 (K 0) = _ := (b8.f0 (by omega) (by omega) (by omega) f16).trans h0
    have hcs : ((v 1 < wS (v 0) (fT v) (v 1)) ∧ (if v 1 < wS (v 0) (fT v) (v 1) then wS (v 0) (fT v) (v 1) - v 1 else -1) = dAn 8 v ∧ 0 ≤ dAn 8 v ∧ dAn 8 v ≤ 100000 ∧ stP L G16 (sK K 0) (dTo 8 0 kd v) (dKn 8)) ∨ (¬ (v 1 < wS (v 0) (fT v) (v 1)) ∧ (if v 1 < wS (v 0) (fT v) (v 1) then wS (v 0) (fT v) (v 1) - v 1 else -1) = -1 ∧ G16 = G8) := by
      by_cases q : v 1 < wS (v 0) (fT v) (v 1)
      · rw [if_pos q] at t16 ⊢; exact Or.inl ⟨q, rfl, by show 0 ≤ wS (v 0) (fT v) (v 1) - v 1; omega, by show wS (v 0) (fT v) (v 1) - v 1 ≤ 100000; omega, t16⟩
      · rw [if_neg q] at t16 ⊢; exact Or.inr ⟨q, rfl, t16⟩
    obtain ⟨a, hae⟩ : ∃ a, a = (if v 1 < wS (v 0) (fT v) (v 1) then wS (v 0) (fT v) (v 1) - v 1 else -1) := ⟨_, rfl⟩
    rw [← hae] at hcs ⊢
    have hcs2 : a ≠ -1 → _ := fun hne => hcs.resolve_right (fun z => hne z.2.1)
    have ha : -1 ≤ a ∧ a ≤ 1000000 := by rcases hcs with z | z <;> omega
    refine z_cV hZ (As := [_]) rfl dX7_killWord_19 ml_X7_55 wy_X7_settled (m_X7_settled l hfl ha (fun hne => b8.st (by omega) (hcs2 hne).2.2.2.2 f16)) (by assumption) (by assumption) rfl ⟨Nat.le_of_ble_eq_true rfl, Nat.le_of_ble_eq_true rfl⟩ ⟨Nat.le_of_ble_eq_true rfl, Nat.le_of_ble_eq_true rfl⟩ (Nat.le_of_ble_eq_true rfl) (fun _ _ _ h => by obtain ⟨rfl, he, rfl, rfl⟩ := h; have hn := hcs.resolve_left (fun z => by omega); exact ⟨rfl, hn.1, rfl, fi, _, _, (by rw [hn.2.2]; exact b8), k1, hdk⟩) (fun v19 L19 G19 hp19 => ?_)
    obtain ⟨rfl, hne, rfl, t19⟩ := hp19
    exact z_iret hZ rfl (Nat.le_of_ble_eq_true rfl) (Nat.le_of_ble_eq_true rfl) dX7_killWord_22 (by
            obtain ⟨z1, z2, z3⟩ := hcs2 hne
            exact ⟨z1, pv z2, rfl, _, _, _, t19, lk.save (lk.op ⟨k1, k2⟩) hb.2.2.1.2, un_s⟩)
  exact hgo
set_option maxRecDepth 100000 in
set_option maxHeartbeats 4000000 in
theorem m_X7_killBack (l : Launch) {L : List Nat} {F : Nat → PE} {K : Nat → Nat} {v : Int → Int} {kd sv n : Int} {H Q : Int → Int → Int} {kp bf : Int → Int} (hfl : l.flags = flags0) (t : dr L F K v kd sv H kp Q n bf) : PM l yX7_killBack cX7_killBack 1 (some .int) (rm 8 1 6) L [.ref (K 0)] F (fun v9 L1 F1 => dOk 9 kd v ∧ v9 = some (.int (iI (dAn 9 v))) ∧ L = L1 ∧ dr L1 F1 K (dTo 9 0 kd v) (dKn 9) (hN sv) (hS sv H v) kp Q n bf) (fun E L1 F1 => E = xS ∧ ¬ dOk 9 kd v ∧ L = L1 ∧ dr L1 F1 K v kd sv H kp Q n bf) := by
  refine pm_of cd_X7_killBack (by decide +kernel) (Nat.le_of_ble_eq_true rfl) (fun ZZ hZ => ?_)
  have hgo : ZZ 0 0 0 [some (.ref (K 0))] [] L F := by
    obtain ⟨fi, W, D, hb, hl, hk⟩ := t
    have l0 := hb.1.1 0 (by omega)
    have h0 := hb.2.1
    have l1 := hb.1.1 1 (by omega)
    have l26 := hb.1.1 26 (by omega)
    have h26 := hb.2.2.1.1
    have hv := hl.1
    refine z_aload_n0 hZ dX7_killBack_0 ?_
    refine z_gf_X7_history hZ dX7_killBack_1 fl_X7_19 (by assumption) (by assumption) ?_
    refine z_aload_n0 hZ dX7_killBack_4 ?_
    refine z_gf_X7_now hZ dX7_killBack_5 fl_X7_10 (by assumption) (by assumption) ?_
    refine z_cV hZ (As := [_]) rfl dX7_killBack_8 ml_X7_47 wy_X2_prepare (m_X2_prepare l hb) (by assumption) (by assumption) rfl ⟨Nat.le_of_ble_eq_true rfl, Nat.le_of_ble_eq_true rfl⟩ ⟨Nat.le_of_ble_eq_true rfl, Nat.le_of_ble_eq_true rfl⟩ (Nat.le_of_ble_eq_true rfl) (fun _ _ _ h => h.elim) (fun v8 L8 G8 hp8 => ?_)
    obtain ⟨rfl, rfl, b8⟩ := hp8
    obtain ⟨k1, k2⟩ := hl.prep hb.2.2.1.2
    have S8 : stP L G8 (sK K 0) v kd := by have z := b8.2.2.2.2.2.2.2 0 (by omega); rw [k1.1, un_n (by have := ro_rg (i := fi + sv); omega), hk] at z; exact z
    have o8 : G8 (K 1) = _ := S8.ob
    have h0 := b8.2.1
    have J := b8.ij (k := 0) (by omega)
    have JL := b8.L (k := 0) (by omega)
    have hdk : un D (ro (fi + sv)) (D 0) 0 = kd := by rw [un_n (by have := ro_rg (i := fi + sv); omega)]; exact hk
    have rg := S8.rg
    have rW := wS_rg (n := v 0) (f := fT v) (p := v 1) (by omega)
    have rB := wB_rg (n := v 0) (f := fT v) (p := v 1) (by omega)
    have rS := lB_rg (n := v 0) (f := fT v) (p := v 1) (by omega)
    have rE := lE_rg (n := v 0) (f := fT v) (p := v 1) (by omega)
    have rG := grN_rg (v := v) (by omega)
    have rK : kLj v ≤ v 0 + 1 := by unfold kLj; split <;> omega
    have rmn : 0 ≤ mxI (v 2) (v 1) - mnI (v 2) (v 1) ∧ mxI (v 2) (v 1) - mnI (v 2) (v 1) ≤ 201 := by unfold mxI mnI; split <;> split <;> omega
    refine z_aload_n0 hZ dX7_killBack_11 ?_
    refine z_aload_n0 hZ dX7_killBack_12 ?_
    refine z_gf_X7_now hZ dX7_killBack_13 fl_X7_10 (by assumption) (by assumption) ?_
    refine z_cV hZ (As := []) rfl dX7_killBack_16 ml_X7_117 wy_X5_killWordBack (m_X5_killWordBack l J JL S8) (by assumption) (by assumption) rfl ⟨Nat.le_of_ble_eq_true rfl, Nat.le_of_ble_eq_true rfl⟩ ⟨Nat.le_of_ble_eq_true rfl, Nat.le_of_ble_eq_true rfl⟩ (Nat.le_of_ble_eq_true rfl) (fun _ _ _ h => h.elim) (fun v16 L16 G16 hp16 => ?_)
    obtain ⟨rfl, rfl, t16, f16⟩ := hp16
    have h0 : G16 (K 0) = _ := (b8.f0 (by omega) (by omega) (by omega) f16).trans h0
    have hcs : ((wB (v 0) (fT v) (v 1) < v 1) ∧ (if wB (v 0) (fT v) (v 1) < v 1 then v 1 - wB (v 0) (fT v) (v 1) else -1) = dAn 9 v ∧ 0 ≤ dAn 9 v ∧ dAn 9 v ≤ 100000 ∧ stP L G16 (sK K 0) (dTo 9 0 kd v) (dKn 9)) ∨ (¬ (wB (v 0) (fT v) (v 1) < v 1) ∧ (if wB (v 0) (fT v) (v 1) < v 1 then v 1 - wB (v 0) (fT v) (v 1) else -1) = -1 ∧ G16 = G8) := by
      by_cases q : wB (v 0) (fT v) (v 1) < v 1
      · rw [if_pos q] at t16 ⊢; exact Or.inl ⟨q, rfl, by show 0 ≤ v 1 - wB (v 0) (fT v) (v 1); omega, by show v 1 - wB (v 0) (fT v) (v 1) ≤ 100000; omega, t16⟩
      · rw [if_neg q] at t16 ⊢; exact Or.inr ⟨q, rfl, t16⟩
    obtain ⟨a, hae⟩ : ∃ a, a = (if wB (v 0) (fT v) (v 1) < v 1 then v 1 - wB (v 0) (fT v) (v 1) else -1) := ⟨_, rfl⟩
    rw [← hae] at hcs ⊢
    have hcs2 : a ≠ -1 → _ := fun hne => hcs.resolve_right (fun z => hne z.2.1)
    have ha : -1 ≤ a ∧ a ≤ 1000000 := by rcases hcs with z | z <;> omega
    refine z_cV hZ (As := [_]) rfl dX7_killBack_19 ml_X7_55 wy_X7_settled (m_X7_settled l hfl ha (fun hne => b8.st (by omega) (hcs2 hne).2.2.2.2 f16)) (by assumption) (by assumption) rfl ⟨Nat.le_of_ble_eq_true rfl, Nat.le_of_ble_eq_true rfl⟩ ⟨Nat.le_of_ble_eq_true rfl, Nat.le_of_ble_eq_true rfl⟩ (Nat.le_of_ble_eq_true rfl) (fun _ _ _ h => by obtain ⟨rfl, he, rfl, rfl⟩ := h; have hn := hcs.resolve_left (fun z => by omega); exact ⟨rfl, hn.1, rfl, fi, _, _, (by rw [hn.2.2]; exact b8), k1, hdk⟩) (fun v19 L19 G19 hp19 => ?_)
    obtain ⟨rfl, hne, rfl, t19⟩ := hp19
    exact z_iret hZ rfl (Nat.le_of_ble_eq_true rfl) (Nat.le_of_ble_eq_true rfl) dX7_killBack_22 (by
            obtain ⟨z1, z2, z3⟩ := hcs2 hne
            exact ⟨z1, pv z2, rfl, _, _, _, t19, lk.save (lk.op ⟨k1, k2⟩) hb.2.2.1.2, un_s⟩)
  exact hgo
set_option maxRecDepth 100000 in
set_option maxHeartbeats 4000000 in
theorem m_X7_killLine (l : Launch) {L : List Nat} {F : Nat → PE} {K : Nat → Nat} {v : Int → Int} {kd sv n : Int} {H Q : Int → Int → Int} {kp bf : Int → Int} (hfl : l.flags = flags0) (t : dr L F K v kd sv H kp Q n bf) : PM l yX7_killLine cX7_killLine 1 (some .int) (rm 8 1 6) L [.ref (K 0)] F (fun v9 L1 F1 => dOk 10 kd v ∧ v9 = some (.int (iI (dAn 10 v))) ∧ L = L1 ∧ dr L1 F1 K (dTo 10 0 kd v) (dKn 10) (hN sv) (hS sv H v) kp Q n bf) (fun E L1 F1 => E = xS ∧ ¬ dOk 10 kd v ∧ L = L1 ∧ dr L1 F1 K v kd sv H kp Q n bf) := by
  refine pm_of cd_X7_killLine (by decide +kernel) (Nat.le_of_ble_eq_true rfl) (fun ZZ hZ => ?_)
  have hgo : ZZ 0 0 0 [some (.ref (K 0))] [] L F := by
    obtain ⟨fi, W, D, hb, hl, hk⟩ := t
    have l0 := hb.1.1 0 (by omega)
    have h0 := hb.2.1
    have l1 := hb.1.1 1 (by omega)
    have l26 := hb.1.1 26 (by omega)
    have h26 := hb.2.2.1.1
    have hv := hl.1
    refine z_aload_n0 hZ dX7_killLine_0 ?_
    refine z_gf_X7_history hZ dX7_killLine_1 fl_X7_19 (by assumption) (by assumption) ?_
    refine z_aload_n0 hZ dX7_killLine_4 ?_
    refine z_gf_X7_now hZ dX7_killLine_5 fl_X7_10 (by assumption) (by assumption) ?_
    refine z_cV hZ (As := [_]) rfl dX7_killLine_8 ml_X7_47 wy_X2_prepare (m_X2_prepare l hb) (by assumption) (by assumption) rfl ⟨Nat.le_of_ble_eq_true rfl, Nat.le_of_ble_eq_true rfl⟩ ⟨Nat.le_of_ble_eq_true rfl, Nat.le_of_ble_eq_true rfl⟩ (Nat.le_of_ble_eq_true rfl) (fun _ _ _ h => h.elim) (fun v8 L8 G8 hp8 => ?_)
    obtain ⟨rfl, rfl, b8⟩ := hp8
    obtain ⟨k1, k2⟩ := hl.prep hb.2.2.1.2
    have S8 : stP L G8 (sK K 0) v kd := by have z := b8.2.2.2.2.2.2.2 0 (by omega); rw [k1.1, un_n (by have := ro_rg (i := fi + sv); omega), hk] at z; exact z
    have o8 : G8 (K 1) = _ := S8.ob
    have h0 := b8.2.1
    have J := b8.ij (k := 0) (by omega)
    have JL := b8.L (k := 0) (by omega)
    have hdk : un D (ro (fi + sv)) (D 0) 0 = kd := by rw [un_n (by have := ro_rg (i := fi + sv); omega)]; exact hk
    have rg := S8.rg
    have rW := wS_rg (n := v 0) (f := fT v) (p := v 1) (by omega)
    have rB := wB_rg (n := v 0) (f := fT v) (p := v 1) (by omega)
    have rS := lB_rg (n := v 0) (f := fT v) (p := v 1) (by omega)
    have rE := lE_rg (n := v 0) (f := fT v) (p := v 1) (by omega)
    have rG := grN_rg (v := v) (by omega)
    have rK : kLj v ≤ v 0 + 1 := by unfold kLj; split <;> omega
    have rmn : 0 ≤ mxI (v 2) (v 1) - mnI (v 2) (v 1) ∧ mxI (v 2) (v 1) - mnI (v 2) (v 1) ≤ 201 := by unfold mxI mnI; split <;> split <;> omega
    refine z_aload_n0 hZ dX7_killLine_11 ?_
    refine z_aload_n0 hZ dX7_killLine_12 ?_
    refine z_gf_X7_now hZ dX7_killLine_13 fl_X7_10 (by assumption) (by assumption) ?_
    refine z_cV hZ (As := []) rfl dX7_killLine_16 ml_X7_120 wy_X5_killLineOn (m_X5_killLineOn l J JL S8) (by assumption) (by assumption) rfl ⟨Nat.le_of_ble_eq_true rfl, Nat.le_of_ble_eq_true rfl⟩ ⟨Nat.le_of_ble_eq_true rfl, Nat.le_of_ble_eq_true rfl⟩ (Nat.le_of_ble_eq_true rfl) (fun _ _ _ h => h.elim) (fun v16 L16 G16 hp16 => ?_)
    obtain ⟨rfl, rfl, t16, f16⟩ := hp16
    have h0 : G16 (K 0) = _ := (b8.f0 (by omega) (by omega) (by omega) f16).trans h0
    have hcs : ((v 1 < kLj v) ∧ (if v 1 < kLj v then kLj v - v 1 else -1) = dAn 10 v ∧ 0 ≤ dAn 10 v ∧ dAn 10 v ≤ 100000 ∧ stP L G16 (sK K 0) (dTo 10 0 kd v) (dKn 10)) ∨ (¬ (v 1 < kLj v) ∧ (if v 1 < kLj v then kLj v - v 1 else -1) = -1 ∧ G16 = G8) := by
      by_cases q : v 1 < kLj v
      · rw [if_pos q] at t16 ⊢; exact Or.inl ⟨q, rfl, by show 0 ≤ kLj v - v 1; omega, by show kLj v - v 1 ≤ 100000; omega, t16⟩
      · rw [if_neg q] at t16 ⊢; exact Or.inr ⟨q, rfl, t16⟩
    obtain ⟨a, hae⟩ : ∃ a, a = (if v 1 < kLj v then kLj v - v 1 else -1) := ⟨_, rfl⟩
    rw [← hae] at hcs ⊢
    have hcs2 : a ≠ -1 → _ := fun hne => hcs.resolve_right (fun z => hne z.2.1)
    have ha : -1 ≤ a ∧ a ≤ 1000000 := by rcases hcs with z | z <;> omega
    refine z_cV hZ (As := [_]) rfl dX7_killLine_19 ml_X7_55 wy_X7_settled (m_X7_settled l hfl ha (fun hne => b8.st (by omega) (hcs2 hne).2.2.2.2 f16)) (by assumption) (by assumption) rfl ⟨Nat.le_of_ble_eq_true rfl, Nat.le_of_ble_eq_true rfl⟩ ⟨Nat.le_of_ble_eq_true rfl, Nat.le_of_ble_eq_true rfl⟩ (Nat.le_of_ble_eq_true rfl) (fun _ _ _ h => by obtain ⟨rfl, he, rfl, rfl⟩ := h; have hn := hcs.resolve_left (fun z => by omega); exact ⟨rfl, hn.1, rfl, fi, _, _, (by rw [hn.2.2]; exact b8), k1, hdk⟩) (fun v19 L19 G19 hp19 => ?_)
    obtain ⟨rfl, hne, rfl, t19⟩ := hp19
    exact z_iret hZ rfl (Nat.le_of_ble_eq_true rfl) (Nat.le_of_ble_eq_true rfl) dX7_killLine_22 (by
            obtain ⟨z1, z2, z3⟩ := hcs2 hne
            exact ⟨z1, pv z2, rfl, _, _, _, t19, lk.save (lk.op ⟨k1, k2⟩) hb.2.2.1.2, un_s⟩)
  exact hgo
set_option maxRecDepth 100000 in
set_option maxHeartbeats 4000000 in
theorem m_X7_killBetween (l : Launch) {L : List Nat} {F : Nat → PE} {K : Nat → Nat} {v : Int → Int} {kd sv n : Int} {H Q : Int → Int → Int} {kp bf : Int → Int} (hfl : l.flags = flags0) (t : dr L F K v kd sv H kp Q n bf) : PM l yX7_killBetween cX7_killBetween 1 (some .int) (rm 8 1 6) L [.ref (K 0)] F (fun v9 L1 F1 => dOk 11 kd v ∧ v9 = some (.int (iI (dAn 11 v))) ∧ L = L1 ∧ dr L1 F1 K (dTo 11 0 kd v) (dKn 11) (hN sv) (hS sv H v) kp Q n bf) (fun E L1 F1 => E = xS ∧ ¬ dOk 11 kd v ∧ L = L1 ∧ dr L1 F1 K v kd sv H kp Q n bf) := by
  refine pm_of cd_X7_killBetween (by decide +kernel) (Nat.le_of_ble_eq_true rfl) (fun ZZ hZ => ?_)
  have hgo : ZZ 0 0 0 [some (.ref (K 0))] [] L F := by
    obtain ⟨fi, W, D, hb, hl, hk⟩ := t
    have l0 := hb.1.1 0 (by omega)
    have h0 := hb.2.1
    have l1 := hb.1.1 1 (by omega)
    have l26 := hb.1.1 26 (by omega)
    have h26 := hb.2.2.1.1
    have hv := hl.1
    refine z_aload_n0 hZ dX7_killBetween_0 ?_
    refine z_gf_X7_history hZ dX7_killBetween_1 fl_X7_19 (by assumption) (by assumption) ?_
    refine z_aload_n0 hZ dX7_killBetween_4 ?_
    refine z_gf_X7_now hZ dX7_killBetween_5 fl_X7_10 (by assumption) (by assumption) ?_
    refine z_cV hZ (As := [_]) rfl dX7_killBetween_8 ml_X7_47 wy_X2_prepare (m_X2_prepare l hb) (by assumption) (by assumption) rfl ⟨Nat.le_of_ble_eq_true rfl, Nat.le_of_ble_eq_true rfl⟩ ⟨Nat.le_of_ble_eq_true rfl, Nat.le_of_ble_eq_true rfl⟩ (Nat.le_of_ble_eq_true rfl) (fun _ _ _ h => h.elim) (fun v8 L8 G8 hp8 => ?_)
    obtain ⟨rfl, rfl, b8⟩ := hp8
    obtain ⟨k1, k2⟩ := hl.prep hb.2.2.1.2
    have S8 : stP L G8 (sK K 0) v kd := by have z := b8.2.2.2.2.2.2.2 0 (by omega); rw [k1.1, un_n (by have := ro_rg (i := fi + sv); omega), hk] at z; exact z
    have o8 : G8 (K 1) = _ := S8.ob
    have h0 := b8.2.1
    have J := b8.ij (k := 0) (by omega)
    have JL := b8.L (k := 0) (by omega)
    have hdk : un D (ro (fi + sv)) (D 0) 0 = kd := by rw [un_n (by have := ro_rg (i := fi + sv); omega)]; exact hk
    have rg := S8.rg
    have rW := wS_rg (n := v 0) (f := fT v) (p := v 1) (by omega)
    have rB := wB_rg (n := v 0) (f := fT v) (p := v 1) (by omega)
    have rS := lB_rg (n := v 0) (f := fT v) (p := v 1) (by omega)
    have rE := lE_rg (n := v 0) (f := fT v) (p := v 1) (by omega)
    have rG := grN_rg (v := v) (by omega)
    have rK : kLj v ≤ v 0 + 1 := by unfold kLj; split <;> omega
    have rmn : 0 ≤ mxI (v 2) (v 1) - mnI (v 2) (v 1) ∧ mxI (v 2) (v 1) - mnI (v 2) (v 1) ≤ 201 := by unfold mxI mnI; split <;> split <;> omega
    refine z_aload_n0 hZ dX7_killBetween_11 ?_
    refine z_aload_n0 hZ dX7_killBetween_12 ?_
    refine z_gf_X7_now hZ dX7_killBetween_13 fl_X7_10 (by assumption) (by assumption) ?_
    refine z_cV hZ (As := []) rfl dX7_killBetween_16 ml_X7_123 wy_X5_killToMark (m_X5_killToMark l J JL S8) (by assumption) (by assumption) rfl ⟨Nat.le_of_ble_eq_true rfl, Nat.le_of_ble_eq_true rfl⟩ ⟨Nat.le_of_ble_eq_true rfl, Nat.le_of_ble_eq_true rfl⟩ (Nat.le_of_ble_eq_true rfl) (fun _ _ _ h => h.elim) (fun v16 L16 G16 hp16 => ?_)
    obtain ⟨rfl, rfl, t16, f16⟩ := hp16
    have h0 : G16 (K 0) = _ := (b8.f0 (by omega) (by omega) (by omega) f16).trans h0
    have hcs : ((v 2 ≠ -1 ∧ mnI (v 2) (v 1) < mxI (v 2) (v 1)) ∧ (if v 2 ≠ -1 ∧ mnI (v 2) (v 1) < mxI (v 2) (v 1) then mxI (v 2) (v 1) - mnI (v 2) (v 1) else -1) = dAn 11 v ∧ 0 ≤ dAn 11 v ∧ dAn 11 v ≤ 100000 ∧ stP L G16 (sK K 0) (dTo 11 0 kd v) (dKn 11)) ∨ (¬ (v 2 ≠ -1 ∧ mnI (v 2) (v 1) < mxI (v 2) (v 1)) ∧ (if v 2 ≠ -1 ∧ mnI (v 2) (v 1) < mxI (v 2) (v 1) then mxI (v 2) (v 1) - mnI (v 2) (v 1) else -1) = -1 ∧ G16 = G8) := by
      by_cases q : v 2 ≠ -1 ∧ mnI (v 2) (v 1) < mxI (v 2) (v 1)
      · rw [if_pos q] at t16 ⊢; exact Or.inl ⟨q, rfl, by show 0 ≤ mxI (v 2) (v 1) - mnI (v 2) (v 1); omega, by show mxI (v 2) (v 1) - mnI (v 2) (v 1) ≤ 100000; omega, t16⟩
      · rw [if_neg q] at t16 ⊢; exact Or.inr ⟨q, rfl, t16⟩
    obtain ⟨a, hae⟩ : ∃ a, a = (if v 2 ≠ -1 ∧ mnI (v 2) (v 1) < mxI (v 2) (v 1) then mxI (v 2) (v 1) - mnI (v 2) (v 1) else -1) := ⟨_, rfl⟩
    rw [← hae] at hcs ⊢
    have hcs2 : a ≠ -1 → _ := fun hne => hcs.resolve_right (fun z => hne z.2.1)
    have ha : -1 ≤ a ∧ a ≤ 1000000 := by rcases hcs with z | z <;> omega
    refine z_cV hZ (As := [_]) rfl dX7_killBetween_19 ml_X7_55 wy_X7_settled (m_X7_settled l hfl ha (fun hne => b8.st (by omega) (hcs2 hne).2.2.2.2 f16)) (by assumption) (by assumption) rfl ⟨Nat.le_of_ble_eq_true rfl, Nat.le_of_ble_eq_true rfl⟩ ⟨Nat.le_of_ble_eq_true rfl, Nat.le_of_ble_eq_true rfl⟩ (Nat.le_of_ble_eq_true rfl) (fun _ _ _ h => by obtain ⟨rfl, he, rfl, rfl⟩ := h; have hn := hcs.resolve_left (fun z => by omega); exact ⟨rfl, hn.1, rfl, fi, _, _, (by rw [hn.2.2]; exact b8), k1, hdk⟩) (fun v19 L19 G19 hp19 => ?_)
    obtain ⟨rfl, hne, rfl, t19⟩ := hp19
    exact z_iret hZ rfl (Nat.le_of_ble_eq_true rfl) (Nat.le_of_ble_eq_true rfl) dX7_killBetween_22 (by
            obtain ⟨z1, z2, z3⟩ := hcs2 hne
            exact ⟨z1, pv z2, rfl, _, _, _, t19, lk.save (lk.op ⟨k1, k2⟩) hb.2.2.1.2, un_s⟩)
  exact hgo
set_option maxRecDepth 100000 in
set_option maxHeartbeats 4000000 in
theorem m_X7_copyBetween (l : Launch) {L : List Nat} {F : Nat → PE} {K : Nat → Nat} {v : Int → Int} {kd sv n : Int} {H Q : Int → Int → Int} {kp bf : Int → Int} (hfl : l.flags = flags0) (t : dr L F K v kd sv H kp Q n bf) : PM l yX7_copyBetween cX7_copyBetween 1 (some .int) (rm 8 1 6) L [.ref (K 0)] F (fun v9 L1 F1 => dOk 12 kd v ∧ v9 = some (.int (iI (dAn 12 v))) ∧ L = L1 ∧ dr L1 F1 K (dTo 12 0 kd v) (dKn 12) (hN sv) (hS sv H v) kp Q n bf) (fun E L1 F1 => E = xS ∧ ¬ dOk 12 kd v ∧ L = L1 ∧ dr L1 F1 K v kd sv H kp Q n bf) := by
  refine pm_of cd_X7_copyBetween (by decide +kernel) (Nat.le_of_ble_eq_true rfl) (fun ZZ hZ => ?_)
  have hgo : ZZ 0 0 0 [some (.ref (K 0))] [] L F := by
    obtain ⟨fi, W, D, hb, hl, hk⟩ := t
    have l0 := hb.1.1 0 (by omega)
    have h0 := hb.2.1
    have l1 := hb.1.1 1 (by omega)
    have l26 := hb.1.1 26 (by omega)
    have h26 := hb.2.2.1.1
    have hv := hl.1
    refine z_aload_n0 hZ dX7_copyBetween_0 ?_
    refine z_gf_X7_history hZ dX7_copyBetween_1 fl_X7_19 (by assumption) (by assumption) ?_
    refine z_aload_n0 hZ dX7_copyBetween_4 ?_
    refine z_gf_X7_now hZ dX7_copyBetween_5 fl_X7_10 (by assumption) (by assumption) ?_
    refine z_cV hZ (As := [_]) rfl dX7_copyBetween_8 ml_X7_47 wy_X2_prepare (m_X2_prepare l hb) (by assumption) (by assumption) rfl ⟨Nat.le_of_ble_eq_true rfl, Nat.le_of_ble_eq_true rfl⟩ ⟨Nat.le_of_ble_eq_true rfl, Nat.le_of_ble_eq_true rfl⟩ (Nat.le_of_ble_eq_true rfl) (fun _ _ _ h => h.elim) (fun v8 L8 G8 hp8 => ?_)
    obtain ⟨rfl, rfl, b8⟩ := hp8
    obtain ⟨k1, k2⟩ := hl.prep hb.2.2.1.2
    have S8 : stP L G8 (sK K 0) v kd := by have z := b8.2.2.2.2.2.2.2 0 (by omega); rw [k1.1, un_n (by have := ro_rg (i := fi + sv); omega), hk] at z; exact z
    have o8 : G8 (K 1) = _ := S8.ob
    have h0 := b8.2.1
    have J := b8.ij (k := 0) (by omega)
    have JL := b8.L (k := 0) (by omega)
    have hdk : un D (ro (fi + sv)) (D 0) 0 = kd := by rw [un_n (by have := ro_rg (i := fi + sv); omega)]; exact hk
    have rg := S8.rg
    have rW := wS_rg (n := v 0) (f := fT v) (p := v 1) (by omega)
    have rB := wB_rg (n := v 0) (f := fT v) (p := v 1) (by omega)
    have rS := lB_rg (n := v 0) (f := fT v) (p := v 1) (by omega)
    have rE := lE_rg (n := v 0) (f := fT v) (p := v 1) (by omega)
    have rG := grN_rg (v := v) (by omega)
    have rK : kLj v ≤ v 0 + 1 := by unfold kLj; split <;> omega
    have rmn : 0 ≤ mxI (v 2) (v 1) - mnI (v 2) (v 1) ∧ mxI (v 2) (v 1) - mnI (v 2) (v 1) ≤ 201 := by unfold mxI mnI; split <;> split <;> omega
    refine z_aload_n0 hZ dX7_copyBetween_11 ?_
    refine z_aload_n0 hZ dX7_copyBetween_12 ?_
    refine z_gf_X7_now hZ dX7_copyBetween_13 fl_X7_10 (by assumption) (by assumption) ?_
    refine z_cV hZ (As := []) rfl dX7_copyBetween_16 ml_X7_126 wy_X5_copyToMark (m_X5_copyToMark l J JL S8) (by assumption) (by assumption) rfl ⟨Nat.le_of_ble_eq_true rfl, Nat.le_of_ble_eq_true rfl⟩ ⟨Nat.le_of_ble_eq_true rfl, Nat.le_of_ble_eq_true rfl⟩ (Nat.le_of_ble_eq_true rfl) (fun _ _ _ h => h.elim) (fun v16 L16 G16 hp16 => ?_)
    obtain ⟨rfl, rfl, t16, f16⟩ := hp16
    have h0 : G16 (K 0) = _ := (b8.f0 (by omega) (by omega) (by omega) f16).trans h0
    have hcs : ((v 2 ≠ -1 ∧ mnI (v 2) (v 1) < mxI (v 2) (v 1)) ∧ (if v 2 ≠ -1 ∧ mnI (v 2) (v 1) < mxI (v 2) (v 1) then mxI (v 2) (v 1) - mnI (v 2) (v 1) else -1) = dAn 12 v ∧ 0 ≤ dAn 12 v ∧ dAn 12 v ≤ 100000 ∧ stP L G16 (sK K 0) (dTo 12 0 kd v) (dKn 12)) ∨ (¬ (v 2 ≠ -1 ∧ mnI (v 2) (v 1) < mxI (v 2) (v 1)) ∧ (if v 2 ≠ -1 ∧ mnI (v 2) (v 1) < mxI (v 2) (v 1) then mxI (v 2) (v 1) - mnI (v 2) (v 1) else -1) = -1 ∧ G16 = G8) := by
      by_cases q : v 2 ≠ -1 ∧ mnI (v 2) (v 1) < mxI (v 2) (v 1)
      · rw [if_pos q] at t16 ⊢; exact Or.inl ⟨q, rfl, by show 0 ≤ mxI (v 2) (v 1) - mnI (v 2) (v 1); omega, by show mxI (v 2) (v 1) - mnI (v 2) (v 1) ≤ 100000; omega, t16⟩
      · rw [if_neg q] at t16 ⊢; exact Or.inr ⟨q, rfl, t16⟩
    obtain ⟨a, hae⟩ : ∃ a, a = (if v 2 ≠ -1 ∧ mnI (v 2) (v 1) < mxI (v 2) (v 1) then mxI (v 2) (v 1) - mnI (v 2) (v 1) else -1) := ⟨_, rfl⟩
    rw [← hae] at hcs ⊢
    have hcs2 : a ≠ -1 → _ := fun hne => hcs.resolve_right (fun z => hne z.2.1)
    have ha : -1 ≤ a ∧ a ≤ 1000000 := by rcases hcs with z | z <;> omega
    refine z_cV hZ (As := [_]) rfl dX7_copyBetween_19 ml_X7_55 wy_X7_settled (m_X7_settled l hfl ha (fun hne => b8.st (by omega) (hcs2 hne).2.2.2.2 f16)) (by assumption) (by assumption) rfl ⟨Nat.le_of_ble_eq_true rfl, Nat.le_of_ble_eq_true rfl⟩ ⟨Nat.le_of_ble_eq_true rfl, Nat.le_of_ble_eq_true rfl⟩ (Nat.le_of_ble_eq_true rfl) (fun _ _ _ h => by obtain ⟨rfl, he, rfl, rfl⟩ := h; have hn := hcs.resolve_left (fun z => by omega); exact ⟨rfl, hn.1, rfl, fi, _, _, (by rw [hn.2.2]; exact b8), k1, hdk⟩) (fun v19 L19 G19 hp19 => ?_)
    obtain ⟨rfl, hne, rfl, t19⟩ := hp19
    exact z_iret hZ rfl (Nat.le_of_ble_eq_true rfl) (Nat.le_of_ble_eq_true rfl) dX7_copyBetween_22 (by
            obtain ⟨z1, z2, z3⟩ := hcs2 hne
            exact ⟨z1, pv z2, rfl, _, _, _, t19, lk.save (lk.op ⟨k1, k2⟩) hb.2.2.1.2, un_s⟩)
  exact hgo
set_option maxRecDepth 100000 in
set_option maxHeartbeats 4000000 in
theorem m_X7_yank (l : Launch) {L : List Nat} {F : Nat → PE} {K : Nat → Nat} {v : Int → Int} {kd sv n : Int} {H Q : Int → Int → Int} {kp bf : Int → Int} (hfl : l.flags = flags0) (t : dr L F K v kd sv H kp Q n bf) : PM l yX7_yank cX7_yank 1 (some .int) (rm 8 1 6) L [.ref (K 0)] F (fun v9 L1 F1 => dOk 13 kd v ∧ v9 = some (.int (iI (dAn 13 v))) ∧ L = L1 ∧ dr L1 F1 K (dTo 13 0 kd v) (dKn 13) (hN sv) (hS sv H v) kp Q n bf) (fun E L1 F1 => E = xS ∧ ¬ dOk 13 kd v ∧ L = L1 ∧ dr L1 F1 K v kd sv H kp Q n bf) := by
  refine pm_of cd_X7_yank (by decide +kernel) (Nat.le_of_ble_eq_true rfl) (fun ZZ hZ => ?_)
  have hgo : ZZ 0 0 0 [some (.ref (K 0))] [] L F := by
    obtain ⟨fi, W, D, hb, hl, hk⟩ := t
    have l0 := hb.1.1 0 (by omega)
    have h0 := hb.2.1
    have l1 := hb.1.1 1 (by omega)
    have l26 := hb.1.1 26 (by omega)
    have h26 := hb.2.2.1.1
    have hv := hl.1
    refine z_aload_n0 hZ dX7_yank_0 ?_
    refine z_gf_X7_history hZ dX7_yank_1 fl_X7_19 (by assumption) (by assumption) ?_
    refine z_aload_n0 hZ dX7_yank_4 ?_
    refine z_gf_X7_now hZ dX7_yank_5 fl_X7_10 (by assumption) (by assumption) ?_
    refine z_cV hZ (As := [_]) rfl dX7_yank_8 ml_X7_47 wy_X2_prepare (m_X2_prepare l hb) (by assumption) (by assumption) rfl ⟨Nat.le_of_ble_eq_true rfl, Nat.le_of_ble_eq_true rfl⟩ ⟨Nat.le_of_ble_eq_true rfl, Nat.le_of_ble_eq_true rfl⟩ (Nat.le_of_ble_eq_true rfl) (fun _ _ _ h => h.elim) (fun v8 L8 G8 hp8 => ?_)
    obtain ⟨rfl, rfl, b8⟩ := hp8
    obtain ⟨k1, k2⟩ := hl.prep hb.2.2.1.2
    have S8 : stP L G8 (sK K 0) v kd := by have z := b8.2.2.2.2.2.2.2 0 (by omega); rw [k1.1, un_n (by have := ro_rg (i := fi + sv); omega), hk] at z; exact z
    have o8 : G8 (K 1) = _ := S8.ob
    have h0 := b8.2.1
    have J := b8.ij (k := 0) (by omega)
    have JL := b8.L (k := 0) (by omega)
    have hdk : un D (ro (fi + sv)) (D 0) 0 = kd := by rw [un_n (by have := ro_rg (i := fi + sv); omega)]; exact hk
    have rg := S8.rg
    have rW := wS_rg (n := v 0) (f := fT v) (p := v 1) (by omega)
    have rB := wB_rg (n := v 0) (f := fT v) (p := v 1) (by omega)
    have rS := lB_rg (n := v 0) (f := fT v) (p := v 1) (by omega)
    have rE := lE_rg (n := v 0) (f := fT v) (p := v 1) (by omega)
    have rG := grN_rg (v := v) (by omega)
    have rK : kLj v ≤ v 0 + 1 := by unfold kLj; split <;> omega
    have rmn : 0 ≤ mxI (v 2) (v 1) - mnI (v 2) (v 1) ∧ mxI (v 2) (v 1) - mnI (v 2) (v 1) ≤ 201 := by unfold mxI mnI; split <;> split <;> omega
    refine z_aload_n0 hZ dX7_yank_11 ?_
    refine z_aload_n0 hZ dX7_yank_12 ?_
    refine z_gf_X7_now hZ dX7_yank_13 fl_X7_10 (by assumption) (by assumption) ?_
    refine z_cV hZ (As := []) rfl dX7_yank_16 ml_X7_129 wy_X5_yankNext (m_X5_yankNext l J JL S8) (by assumption) (by assumption) rfl ⟨Nat.le_of_ble_eq_true rfl, Nat.le_of_ble_eq_true rfl⟩ ⟨Nat.le_of_ble_eq_true rfl, Nat.le_of_ble_eq_true rfl⟩ (Nat.le_of_ble_eq_true rfl) (fun _ _ _ h => h.elim) (fun v16 L16 G16 hp16 => ?_)
    obtain ⟨rfl, rfl, t16, f16⟩ := hp16
    have h0 : G16 (K 0) = _ := (b8.f0 (by omega) (by omega) (by omega) f16).trans h0
    have hcs : ((0 < v 3 ∧ v 0 + nxL v ≤ 200) ∧ (if 0 < v 3 ∧ v 0 + nxL v ≤ 200 then nxL v else -1) = dAn 13 v ∧ 0 ≤ dAn 13 v ∧ dAn 13 v ≤ 100000 ∧ stP L G16 (sK K 0) (dTo 13 0 kd v) (dKn 13)) ∨ (¬ (0 < v 3 ∧ v 0 + nxL v ≤ 200) ∧ (if 0 < v 3 ∧ v 0 + nxL v ≤ 200 then nxL v else -1) = -1 ∧ G16 = G8) := by
      by_cases q : 0 < v 3 ∧ v 0 + nxL v ≤ 200
      · rw [if_pos q] at t16 ⊢; exact Or.inl ⟨q, rfl, by show 0 ≤ nxL v; omega, by show nxL v ≤ 100000; omega, t16.1⟩
      · rw [if_neg q] at t16 ⊢; exact Or.inr ⟨q, rfl, t16⟩
    obtain ⟨a, hae⟩ : ∃ a, a = (if 0 < v 3 ∧ v 0 + nxL v ≤ 200 then nxL v else -1) := ⟨_, rfl⟩
    rw [← hae] at hcs ⊢
    have hcs2 : a ≠ -1 → _ := fun hne => hcs.resolve_right (fun z => hne z.2.1)
    have ha : -1 ≤ a ∧ a ≤ 1000000 := by rcases hcs with z | z <;> omega
    refine z_cV hZ (As := [_]) rfl dX7_yank_19 ml_X7_55 wy_X7_settled (m_X7_settled l hfl ha (fun hne => b8.st (by omega) (hcs2 hne).2.2.2.2 f16)) (by assumption) (by assumption) rfl ⟨Nat.le_of_ble_eq_true rfl, Nat.le_of_ble_eq_true rfl⟩ ⟨Nat.le_of_ble_eq_true rfl, Nat.le_of_ble_eq_true rfl⟩ (Nat.le_of_ble_eq_true rfl) (fun _ _ _ h => by obtain ⟨rfl, he, rfl, rfl⟩ := h; have hn := hcs.resolve_left (fun z => by omega); exact ⟨rfl, hn.1, rfl, fi, _, _, (by rw [hn.2.2]; exact b8), k1, hdk⟩) (fun v19 L19 G19 hp19 => ?_)
    obtain ⟨rfl, hne, rfl, t19⟩ := hp19
    exact z_iret hZ rfl (Nat.le_of_ble_eq_true rfl) (Nat.le_of_ble_eq_true rfl) dX7_yank_22 (by
            obtain ⟨z1, z2, z3⟩ := hcs2 hne
            exact ⟨z1, pv z2, rfl, _, _, _, t19, lk.save (lk.op ⟨k1, k2⟩) hb.2.2.1.2, un_s⟩)
  exact hgo
set_option maxRecDepth 100000 in
set_option maxHeartbeats 4000000 in
theorem m_X7_yankOther (l : Launch) {L : List Nat} {F : Nat → PE} {K : Nat → Nat} {v : Int → Int} {kd sv n : Int} {H Q : Int → Int → Int} {kp bf : Int → Int} (hfl : l.flags = flags0) (t : dr L F K v kd sv H kp Q n bf) : PM l yX7_yankOther cX7_yankOther 1 (some .int) (rm 8 1 6) L [.ref (K 0)] F (fun v9 L1 F1 => dOk 14 kd v ∧ v9 = some (.int (iI (dAn 14 v))) ∧ L = L1 ∧ dr L1 F1 K (dTo 14 0 kd v) (dKn 14) (hN sv) (hS sv H v) kp Q n bf) (fun E L1 F1 => E = xS ∧ ¬ dOk 14 kd v ∧ L = L1 ∧ dr L1 F1 K v kd sv H kp Q n bf) := by
  refine pm_of cd_X7_yankOther (by decide +kernel) (Nat.le_of_ble_eq_true rfl) (fun ZZ hZ => ?_)
  have hgo : ZZ 0 0 0 [some (.ref (K 0))] [] L F := by
    obtain ⟨fi, W, D, hb, hl, hk⟩ := t
    have l0 := hb.1.1 0 (by omega)
    have h0 := hb.2.1
    have l1 := hb.1.1 1 (by omega)
    have l26 := hb.1.1 26 (by omega)
    have h26 := hb.2.2.1.1
    have hv := hl.1
    refine z_aload_n0 hZ dX7_yankOther_0 ?_
    refine z_gf_X7_history hZ dX7_yankOther_1 fl_X7_19 (by assumption) (by assumption) ?_
    refine z_aload_n0 hZ dX7_yankOther_4 ?_
    refine z_gf_X7_now hZ dX7_yankOther_5 fl_X7_10 (by assumption) (by assumption) ?_
    refine z_cV hZ (As := [_]) rfl dX7_yankOther_8 ml_X7_47 wy_X2_prepare (m_X2_prepare l hb) (by assumption) (by assumption) rfl ⟨Nat.le_of_ble_eq_true rfl, Nat.le_of_ble_eq_true rfl⟩ ⟨Nat.le_of_ble_eq_true rfl, Nat.le_of_ble_eq_true rfl⟩ (Nat.le_of_ble_eq_true rfl) (fun _ _ _ h => h.elim) (fun v8 L8 G8 hp8 => ?_)
    obtain ⟨rfl, rfl, b8⟩ := hp8
    obtain ⟨k1, k2⟩ := hl.prep hb.2.2.1.2
    have S8 : stP L G8 (sK K 0) v kd := by have z := b8.2.2.2.2.2.2.2 0 (by omega); rw [k1.1, un_n (by have := ro_rg (i := fi + sv); omega), hk] at z; exact z
    have o8 : G8 (K 1) = _ := S8.ob
    have h0 := b8.2.1
    have J := b8.ij (k := 0) (by omega)
    have JL := b8.L (k := 0) (by omega)
    have hdk : un D (ro (fi + sv)) (D 0) 0 = kd := by rw [un_n (by have := ro_rg (i := fi + sv); omega)]; exact hk
    have rg := S8.rg
    have rW := wS_rg (n := v 0) (f := fT v) (p := v 1) (by omega)
    have rB := wB_rg (n := v 0) (f := fT v) (p := v 1) (by omega)
    have rS := lB_rg (n := v 0) (f := fT v) (p := v 1) (by omega)
    have rE := lE_rg (n := v 0) (f := fT v) (p := v 1) (by omega)
    have rG := grN_rg (v := v) (by omega)
    have rK : kLj v ≤ v 0 + 1 := by unfold kLj; split <;> omega
    have rmn : 0 ≤ mxI (v 2) (v 1) - mnI (v 2) (v 1) ∧ mxI (v 2) (v 1) - mnI (v 2) (v 1) ≤ 201 := by unfold mxI mnI; split <;> split <;> omega
    refine z_aload_n0 hZ dX7_yankOther_11 ?_
    refine z_aload_n0 hZ dX7_yankOther_12 ?_
    refine z_gf_X7_now hZ dX7_yankOther_13 fl_X7_10 (by assumption) (by assumption) ?_
    refine z_cV hZ (As := []) rfl dX7_yankOther_16 ml_X7_132 wy_X5_yankOlder (m_X5_yankOlder l J JL S8) (by assumption) (by assumption) rfl ⟨Nat.le_of_ble_eq_true rfl, Nat.le_of_ble_eq_true rfl⟩ ⟨Nat.le_of_ble_eq_true rfl, Nat.le_of_ble_eq_true rfl⟩ (Nat.le_of_ble_eq_true rfl) (fun _ _ _ h => h.elim) (fun v16 L16 G16 hp16 => ?_)
    obtain ⟨rfl, rfl, t16, f16⟩ := hp16
    have h0 : G16 (K 0) = _ := (b8.f0 (by omega) (by omega) (by omega) f16).trans h0
    have hcs : ((kd = 2 ∧ v 0 - (v 1 - v 2) + oyL v ≤ 200) ∧ (if kd = 2 ∧ v 0 - (v 1 - v 2) + oyL v ≤ 200 then oyL v else -1) = dAn 14 v ∧ 0 ≤ dAn 14 v ∧ dAn 14 v ≤ 100000 ∧ stP L G16 (sK K 0) (dTo 14 0 kd v) (dKn 14)) ∨ (¬ (kd = 2 ∧ v 0 - (v 1 - v 2) + oyL v ≤ 200) ∧ (if kd = 2 ∧ v 0 - (v 1 - v 2) + oyL v ≤ 200 then oyL v else -1) = -1 ∧ G16 = G8) := by
      by_cases q : kd = 2 ∧ v 0 - (v 1 - v 2) + oyL v ≤ 200
      · rw [if_pos q] at t16 ⊢; exact Or.inl ⟨q, rfl, by show 0 ≤ oyL v; omega, by show oyL v ≤ 100000; omega, t16.1⟩
      · rw [if_neg q] at t16 ⊢; exact Or.inr ⟨q, rfl, t16⟩
    obtain ⟨a, hae⟩ : ∃ a, a = (if kd = 2 ∧ v 0 - (v 1 - v 2) + oyL v ≤ 200 then oyL v else -1) := ⟨_, rfl⟩
    rw [← hae] at hcs ⊢
    have hcs2 : a ≠ -1 → _ := fun hne => hcs.resolve_right (fun z => hne z.2.1)
    have ha : -1 ≤ a ∧ a ≤ 1000000 := by rcases hcs with z | z <;> omega
    refine z_cV hZ (As := [_]) rfl dX7_yankOther_19 ml_X7_55 wy_X7_settled (m_X7_settled l hfl ha (fun hne => b8.st (by omega) (hcs2 hne).2.2.2.2 f16)) (by assumption) (by assumption) rfl ⟨Nat.le_of_ble_eq_true rfl, Nat.le_of_ble_eq_true rfl⟩ ⟨Nat.le_of_ble_eq_true rfl, Nat.le_of_ble_eq_true rfl⟩ (Nat.le_of_ble_eq_true rfl) (fun _ _ _ h => by obtain ⟨rfl, he, rfl, rfl⟩ := h; have hn := hcs.resolve_left (fun z => by omega); exact ⟨rfl, hn.1, rfl, fi, _, _, (by rw [hn.2.2]; exact b8), k1, hdk⟩) (fun v19 L19 G19 hp19 => ?_)
    obtain ⟨rfl, hne, rfl, t19⟩ := hp19
    exact z_iret hZ rfl (Nat.le_of_ble_eq_true rfl) (Nat.le_of_ble_eq_true rfl) dX7_yankOther_22 (by
            obtain ⟨z1, z2, z3⟩ := hcs2 hne
            exact ⟨z1, pv z2, rfl, _, _, _, t19, lk.save (lk.op ⟨k1, k2⟩) hb.2.2.1.2, un_s⟩)
  exact hgo

