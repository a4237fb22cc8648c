/-! DEEDS BY THEIR LETTERS: d counts the letters; dI the letter, dOk when the deed can be done, dTo what it makes of a state, dKn its kind. -/
def dI : Nat → Int
  | 0 => 102
  | 1 => 98
  | 2 => 70
  | 3 => 66
  | 4 => 97
  | 5 => 101
  | 6 => 109
  | 7 => 120
  | 8 => 119
  | 9 => 87
  | 10 => 107
  | 11 => 114
  | 12 => 99
  | 13 => 121
  | 14 => 112
  | 15 => 116
  | 16 => 117
  | 17 => 115
  | 18 => 103
  | 19 => 110
  | 20 => 95
  | 21 => 39
  | _ => 0
def dOk (d : Nat) (kd : Int) (v : Int → Int) : Prop := match d with
  | 0 => 0 ≤ v 1 + 1 ∧ v 1 + 1 ≤ v 0
  | 1 => 0 ≤ v 1 - 1 ∧ v 1 - 1 ≤ v 0
  | 2 => True
  | 3 => True
  | 4 => True
  | 5 => True
  | 6 => True
  | 7 => v 2 ≠ -1
  | 8 => v 1 < wS (v 0) (fT v) (v 1)
  | 9 => wB (v 0) (fT v) (v 1) < v 1
  | 10 => v 1 < kLj v
  | 11 => v 2 ≠ -1 ∧ mnI (v 2) (v 1) < mxI (v 2) (v 1)
  | 12 => v 2 ≠ -1 ∧ mnI (v 2) (v 1) < mxI (v 2) (v 1)
  | 13 => 0 < v 3 ∧ v 0 + nxL v ≤ 200
  | 14 => kd = 2 ∧ v 0 - (v 1 - v 2) + oyL v ≤ 200
  | 15 => 0 < v 3
  | 16 => 0 < v 1
  | 17 => 0 < v 1 ∧ v 1 < v 0
  | 18 => True
  | 19 => v 0 < 200
  | 20 => v 0 < 200
  | 21 => v 0 < 200
  | _ => False
def dTo (d : Nat) (x kd : Int) (v : Int → Int) : Int → Int := match d with
  | 0 => vGo (v 1 + 1) v
  | 1 => vGo (v 1 - 1) v
  | 2 => vGo (wS (v 0) (fT v) (v 1)) v
  | 3 => vGo (wB (v 0) (fT v) (v 1)) v
  | 4 => vGo (lB (v 0) (fT v) (v 1)) v
  | 5 => vGo (lE (v 0) (fT v) (v 1)) v
  | 6 => vMk v
  | 7 => vEx v
  | 8 => vKl (v 1) (wS (v 0) (fT v) (v 1)) False kd v
  | 9 => vKl (wB (v 0) (fT v) (v 1)) (v 1) True kd v
  | 10 => vKl (v 1) (kLj v) False kd v
  | 11 => vKl (mnI (v 2) (v 1)) (mxI (v 2) (v 1)) (v 2 < v 1) kd v
  | 12 => vCol (mnI (v 2) (v 1)) (mxI (v 2) (v 1)) v
  | 13 => vYk v
  | 14 => vYo v
  | 15 => vTr 1 v
  | 16 => vRub v
  | 17 => vSwp v
  | 18 => vGrt v
  | 19 => vWr 10 v
  | 20 => vWr 32 v
  | 21 => vWr x v
  | _ => v
def dKn : Nat → Int
  | 8 => 1
  | 9 => 1
  | 10 => 1
  | 11 => 1
  | 13 => 2
  | 14 => 2
  | _ => 0
theorem dI_rg {d : Nat} (h : d < 22) : 39 ≤ dI d ∧ dI d ≤ 121 := by
  match d, h with
  | 0, _ => exact ⟨by decide, by decide⟩
  | 1, _ => exact ⟨by decide, by decide⟩
  | 2, _ => exact ⟨by decide, by decide⟩
  | 3, _ => exact ⟨by decide, by decide⟩
  | 4, _ => exact ⟨by decide, by decide⟩
  | 5, _ => exact ⟨by decide, by decide⟩
  | 6, _ => exact ⟨by decide, by decide⟩
  | 7, _ => exact ⟨by decide, by decide⟩
  | 8, _ => exact ⟨by decide, by decide⟩
  | 9, _ => exact ⟨by decide, by decide⟩
  | 10, _ => exact ⟨by decide, by decide⟩
  | 11, _ => exact ⟨by decide, by decide⟩
  | 12, _ => exact ⟨by decide, by decide⟩
  | 13, _ => exact ⟨by decide, by decide⟩
  | 14, _ => exact ⟨by decide, by decide⟩
  | 15, _ => exact ⟨by decide, by decide⟩
  | 16, _ => exact ⟨by decide, by decide⟩
  | 17, _ => exact ⟨by decide, by decide⟩
  | 18, _ => exact ⟨by decide, by decide⟩
  | 19, _ => exact ⟨by decide, by decide⟩
  | 20, _ => exact ⟨by decide, by decide⟩
  | 21, _ => exact ⟨by decide, by decide⟩
  | _ + 22, h => omega
theorem cn_add {P : Int → Bool} {k : Nat} : ∀ j : Nat, cn P k ≤ cn P (k + j) ∧ cn P (k + j) ≤ cn P k + j := by
  intro j
  induction j with
  | zero => exact ⟨Int.le_refl _, by show cn P k ≤ _; omega⟩
  | succ j ih =>
    show _ ≤ cn P (k + j + 1) ∧ cn P (k + j + 1) ≤ _
    have e : cn P (k + j + 1) = cn P (k + j) + (if P ((k + j : Nat) : Int) = true then 1 else 0) := rfl
    rw [e]
    split <;> omega
theorem grN_rg {v : Int → Int} (h : 0 ≤ v 1 ∧ v 1 ≤ v 0 ∧ v 0 ≤ 200) : 0 ≤ grN v ∧ grN v ≤ 200 := by
  have rt := wS_rg (n := v 0) (f := fT v) (p := v 1) (by omega)
  unfold grN
  have e : (wS (v 0) (fT v) (v 1)).toNat = (v 1).toNat + ((wS (v 0) (fT v) (v 1)).toNat - (v 1).toNat) := by omega
  rw [e]
  have := cn_add (P := fun k => smC (fT v k)) (k := (v 1).toNat) ((wS (v 0) (fT v) (v 1)).toNat - (v 1).toNat)
  omega
theorem abI_rg {a b : Int} (h : 0 ≤ a ∧ a ≤ 200 ∧ 0 ≤ b ∧ b ≤ 200) : 0 ≤ abI (a - b) ∧ abI (a - b) ≤ 200 := by unfold abI; split <;> omega
set_option maxRecDepth 100000 in
set_option maxHeartbeats 4000000 in
theorem m_X5_doDeed (l : Launch) {L : List Nat} {F : Nat → PE} {sa : Nat → Nat} {v : Int → Int} {kd x : Int} {d : Nat} (hj : ij sa) (hL : inL L sa) (t : stP L F sa v kd) (hd : d < 22) (hx : -1 ≤ x ∧ x ≤ 126) (hx2 : d = 21 → 10 ≤ x) : PM l yX5_doDeed cX5_doDeed 3 (some .int) (rm 7 0 0) L [.ref (sa 0), .int (iI (dI d)), .int (iI x)] F (fun v9 L1 F1 => L = L1 ∧ fS sa F F1 ∧ ((dOk d kd v ∧ (∃ a, v9 = some (.int (iI a)) ∧ 0 ≤ a ∧ a ≤ 1000) ∧ stP L F1 sa (dTo d x kd v) (dKn d)) ∨ (¬ dOk d kd v ∧ v9 = some (.int (iI (-1))) ∧ F1 = F))) (fun _ _ _ => False) := by
  refine pm_of cd_X5_doDeed (by decide +kernel) (Nat.le_of_ble_eq_true rfl) (fun ZZ hZ => ?_)
  have hgo : ZZ 0 0 0 [some (.ref (sa 0)), some (.int (iI (dI d))), some (.int (iI x))] [] L F := by
    have t1 := t
    obtain ⟨π, hl, hf, w, r, tt, hS, hR, hh, hA, he, hO, hi⟩ := t
    have l0 := hL 0 (by omega)
    have l1 := hL 1 (by omega)
    have hSc := hS.2.1
    have hn := hS.2.2.1.2.2.2.1
    have hp := hS.2.2.2
    have hm := hR.2.2.2.2.2.1
    have rW := wS_rg (n := v 0) (f := fT v) (p := v 1) (by omega)
    have rB := wB_rg (n := v 0) (f := fT v) (p := v 1) (by omega)
    have rS := lB_rg (n := v 0) (f := fT v) (p := v 1) (by omega)
    have rE := lE_rg (n := v 0) (f := fT v) (p := v 1) (by omega)
    have rG := grN_rg (v := v) (by omega)
    have rK : kLj v ≤ v 0 + 1 := by unfold kLj; split <;> omega
    have rT := trA_rg (z := 1) (v := v)
    have rmn : 0 ≤ mxI (v 2) (v 1) - mnI (v 2) (v 1) ∧ mxI (v 2) (v 1) - mnI (v 2) (v 1) ≤ 201 := by unfold mxI mnI; split <;> split <;> omega
    match d, hd with
    | 0, _ =>
      rw [show dI 0 = 102 from rfl]
      refine z_iload_n1 hZ dX5_doDeed_0 ?_
      refine z_tIn hZ (tgt := 348) (off := 347) dX5_doDeed_1 (by omega) rfl rfl ?_
      refine z_aload_n0 hZ dX5_doDeed_348 ?_
      refine z_aload_n0 hZ dX5_doDeed_349 ?_
      refine z_gf_X5_scroll hZ dX5_doDeed_350 fl_X5_12 (by assumption) (by assumption) ?_
      refine z_gf_X4_point hZ dX5_doDeed_353 fl_X5_49 (by assumption) (by assumption) ?_
      refine z_iconst hZ dX5_doDeed_356 ?_
      refine z_iadd hZ dX5_doDeed_357 ?_
      refine z_cV hZ (As := [_]) rfl dX5_doDeed_358 ml_X5_52 wy_X5_goPlace (m_X5_goPlace l hj hL t1 (by omega)) (by assumption) (by assumption) rfl ⟨Nat.le_of_ble_eq_true rfl, Nat.le_of_ble_eq_true rfl⟩ ⟨Nat.le_of_ble_eq_true rfl, Nat.le_of_ble_eq_true rfl⟩ (Nat.le_of_ble_eq_true rfl) (fun _ _ _ h => h.elim) (fun v358 L358 G358 hp358 => ?_)
      obtain ⟨rfl, rfl, t9, f9⟩ := hp358
      exact z_iret hZ rfl (Nat.le_of_ble_eq_true rfl) (Nat.le_of_ble_eq_true rfl) dX5_doDeed_361 (by
            by_cases q : 0 ≤ v 1 + 1 ∧ v 1 + 1 ≤ v 0
            · rw [if_pos q] at t9
              exact ⟨rfl, f9, Or.inl ⟨q, ⟨_, rfl, by rw [if_pos q]; omega, by rw [if_pos q]; omega⟩, t9⟩⟩
            · rw [if_neg q] at t9
              exact ⟨rfl, f9, Or.inr ⟨q, pv (if_neg q), t9⟩⟩)
    | 1, _ =>
      rw [show dI 1 = 98 from rfl]
      refine z_iload_n1 hZ dX5_doDeed_0 ?_
      refine z_tIn hZ (tgt := 362) (off := 361) dX5_doDeed_1 (by omega) rfl rfl ?_
      refine z_aload_n0 hZ dX5_doDeed_362 ?_
      refine z_aload_n0 hZ dX5_doDeed_363 ?_
      refine z_gf_X5_scroll hZ dX5_doDeed_364 fl_X5_12 (by assumption) (by assumption) ?_
      refine z_gf_X4_point hZ dX5_doDeed_367 fl_X5_49 (by assumption) (by assumption) ?_
      refine z_iconst hZ dX5_doDeed_370 ?_
      refine z_isub hZ dX5_doDeed_371 ?_
      refine z_cV hZ (As := [_]) rfl dX5_doDeed_372 ml_X5_52 wy_X5_goPlace (m_X5_goPlace l hj hL t1 (by omega)) (by assumption) (by assumption) rfl ⟨Nat.le_of_ble_eq_true rfl, Nat.le_of_ble_eq_true rfl⟩ ⟨Nat.le_of_ble_eq_true rfl, Nat.le_of_ble_eq_true rfl⟩ (Nat.le_of_ble_eq_true rfl) (fun _ _ _ h => h.elim) (fun v372 L372 G372 hp372 => ?_)
      obtain ⟨rfl, rfl, t9, f9⟩ := hp372
      exact z_iret hZ rfl (Nat.le_of_ble_eq_true rfl) (Nat.le_of_ble_eq_true rfl) dX5_doDeed_375 (by
            by_cases q : 0 ≤ v 1 - 1 ∧ v 1 - 1 ≤ v 0
            · rw [if_pos q] at t9
              exact ⟨rfl, f9, Or.inl ⟨q, ⟨_, rfl, by rw [if_pos q]; omega, by rw [if_pos q]; omega⟩, t9⟩⟩
            · rw [if_neg q] at t9
              exact ⟨rfl, f9, Or.inr ⟨q, pv (if_neg q), t9⟩⟩)
    | 2, _ =>
      rw [show dI 2 = 70 from rfl]
      refine z_iload_n1 hZ dX5_doDeed_0 ?_
      refine z_tIn hZ (tgt := 376) (off := 375) dX5_doDeed_1 (by omega) rfl rfl ?_
      refine z_aload_n0 hZ dX5_doDeed_376 ?_
      refine z_cV hZ (As := []) rfl dX5_doDeed_377 ml_X5_56 wy_X5_goWordOn (m_X5_goWordOn l hj hL t1) (by assumption) (by assumption) rfl ⟨Nat.le_of_ble_eq_true rfl, Nat.le_of_ble_eq_true rfl⟩ ⟨Nat.le_of_ble_eq_true rfl, Nat.le_of_ble_eq_true rfl⟩ (Nat.le_of_ble_eq_true rfl) (fun _ _ _ h => h.elim) (fun v377 L377 G377 hp377 => ?_)
      obtain ⟨rfl, rfl, t9, f9⟩ := hp377
      exact z_iret hZ rfl (Nat.le_of_ble_eq_true rfl) (Nat.le_of_ble_eq_true rfl) dX5_doDeed_380 (by exact ⟨rfl, f9, Or.inl ⟨True.intro, ⟨_, rfl, (abI_rg (by omega)).1, Int.le_trans (abI_rg (by omega)).2 (by decide)⟩, t9⟩⟩)
    | 3, _ =>
      rw [show dI 3 = 66 from rfl]
      refine z_iload_n1 hZ dX5_doDeed_0 ?_
      refine z_tIn hZ (tgt := 381) (off := 380) dX5_doDeed_1 (by omega) rfl rfl ?_
      refine z_aload_n0 hZ dX5_doDeed_381 ?_
      refine z_cV hZ (As := []) rfl dX5_doDeed_382 ml_X5_60 wy_X5_goWordBack (m_X5_goWordBack l hj hL t1) (by assumption) (by assumption) rfl ⟨Nat.le_of_ble_eq_true rfl, Nat.le_of_ble_eq_true rfl⟩ ⟨Nat.le_of_ble_eq_true rfl, Nat.le_of_ble_eq_true rfl⟩ (Nat.le_of_ble_eq_true rfl) (fun _ _ _ h => h.elim) (fun v382 L382 G382 hp382 => ?_)
      obtain ⟨rfl, rfl, t9, f9⟩ := hp382
      exact z_iret hZ rfl (Nat.le_of_ble_eq_true rfl) (Nat.le_of_ble_eq_true rfl) dX5_doDeed_385 (by exact ⟨rfl, f9, Or.inl ⟨True.intro, ⟨_, rfl, (abI_rg (by omega)).1, Int.le_trans (abI_rg (by omega)).2 (by decide)⟩, t9⟩⟩)
    | 4, _ =>
      rw [show dI 4 = 97 from rfl]
      refine z_iload_n1 hZ dX5_doDeed_0 ?_
      refine z_tIn hZ (tgt := 386) (off := 385) dX5_doDeed_1 (by omega) rfl rfl ?_
      refine z_aload_n0 hZ dX5_doDeed_386 ?_
      refine z_cV hZ (As := []) rfl dX5_doDeed_387 ml_X5_63 wy_X5_goLineStart (m_X5_goLineStart l hj hL t1) (by assumption) (by assumption) rfl ⟨Nat.le_of_ble_eq_true rfl, Nat.le_of_ble_eq_true rfl⟩ ⟨Nat.le_of_ble_eq_true rfl, Nat.le_of_ble_eq_true rfl⟩ (Nat.le_of_ble_eq_true rfl) (fun _ _ _ h => h.elim) (fun v387 L387 G387 hp387 => ?_)
      obtain ⟨rfl, rfl, t9, f9⟩ := hp387
      exact z_iret hZ rfl (Nat.le_of_ble_eq_true rfl) (Nat.le_of_ble_eq_true rfl) dX5_doDeed_390 (by exact ⟨rfl, f9, Or.inl ⟨True.intro, ⟨_, rfl, (abI_rg (by omega)).1, Int.le_trans (abI_rg (by omega)).2 (by decide)⟩, t9⟩⟩)
    | 5, _ =>
      rw [show dI 5 = 101 from rfl]
      refine z_iload_n1 hZ dX5_doDeed_0 ?_
      refine z_tIn hZ (tgt := 391) (off := 390) dX5_doDeed_1 (by omega) rfl rfl ?_
      refine z_aload_n0 hZ dX5_doDeed_391 ?_
      refine z_cV hZ (As := []) rfl dX5_doDeed_392 ml_X5_66 wy_X5_goLineStop (m_X5_goLineStop l hj hL t1) (by assumption) (by assumption) rfl ⟨Nat.le_of_ble_eq_true rfl, Nat.le_of_ble_eq_true rfl⟩ ⟨Nat.le_of_ble_eq_true rfl, Nat.le_of_ble_eq_true rfl⟩ (Nat.le_of_ble_eq_true rfl) (fun _ _ _ h => h.elim) (fun v392 L392 G392 hp392 => ?_)
      obtain ⟨rfl, rfl, t9, f9⟩ := hp392
      exact z_iret hZ rfl (Nat.le_of_ble_eq_true rfl) (Nat.le_of_ble_eq_true rfl) dX5_doDeed_395 (by exact ⟨rfl, f9, Or.inl ⟨True.intro, ⟨_, rfl, (abI_rg (by omega)).1, Int.le_trans (abI_rg (by omega)).2 (by decide)⟩, t9⟩⟩)
    | 6, _ =>
      rw [show dI 6 = 109 from rfl]
      refine z_iload_n1 hZ dX5_doDeed_0 ?_
      refine z_tIn hZ (tgt := 396) (off := 395) dX5_doDeed_1 (by omega) rfl rfl ?_
      refine z_aload_n0 hZ dX5_doDeed_396 ?_
      refine z_cV hZ (As := []) rfl dX5_doDeed_397 ml_X5_69 wy_X5_setMark (m_X5_setMark l hj hL t1) (by assumption) (by assumption) rfl ⟨Nat.le_of_ble_eq_true rfl, Nat.le_of_ble_eq_true rfl⟩ ⟨Nat.le_of_ble_eq_true rfl, Nat.le_of_ble_eq_true rfl⟩ (Nat.le_of_ble_eq_true rfl) (fun _ _ _ h => h.elim) (fun v397 L397 G397 hp397 => ?_)
      obtain ⟨rfl, rfl, t9, f9⟩ := hp397
      exact z_iret hZ rfl (Nat.le_of_ble_eq_true rfl) (Nat.le_of_ble_eq_true rfl) dX5_doDeed_400 (by exact ⟨rfl, f9, Or.inl ⟨True.intro, ⟨_, rfl, by omega, by omega⟩, t9⟩⟩)
    | 7, _ =>
      rw [show dI 7 = 120 from rfl]
      refine z_iload_n1 hZ dX5_doDeed_0 ?_
      refine z_tIn hZ (tgt := 401) (off := 400) dX5_doDeed_1 (by omega) rfl rfl ?_
      refine z_aload_n0 hZ dX5_doDeed_401 ?_
      refine z_cV hZ (As := []) rfl dX5_doDeed_402 ml_X5_72 wy_X5_exchangeBoth (m_X5_exchangeBoth l hj hL t1) (by assumption) (by assumption) rfl ⟨Nat.le_of_ble_eq_true rfl, Nat.le_of_ble_eq_true rfl⟩ ⟨Nat.le_of_ble_eq_true rfl, Nat.le_of_ble_eq_true rfl⟩ (Nat.le_of_ble_eq_true rfl) (fun _ _ _ h => h.elim) (fun v402 L402 G402 hp402 => ?_)
      obtain ⟨rfl, rfl, t9, f9⟩ := hp402
      exact z_iret hZ rfl (Nat.le_of_ble_eq_true rfl) (Nat.le_of_ble_eq_true rfl) dX5_doDeed_405 (by
            by_cases q : v 2 = -1
            · rw [if_pos q] at t9
              exact ⟨rfl, f9, Or.inr ⟨fun z => z q, pv (if_pos q), t9⟩⟩
            · rw [if_neg q] at t9
              exact ⟨rfl, f9, Or.inl ⟨q, ⟨_, rfl, by rw [if_neg q]; omega, by rw [if_neg q]; omega⟩, t9⟩⟩)
    | 8, _ =>
      rw [show dI 8 = 119 from rfl]
      refine z_iload_n1 hZ dX5_doDeed_0 ?_
      refine z_tIn hZ (tgt := 406) (off := 405) dX5_doDeed_1 (by omega) rfl rfl ?_
      refine z_aload_n0 hZ dX5_doDeed_406 ?_
      refine z_cV hZ (As := []) rfl dX5_doDeed_407 ml_X5_75 wy_X5_killWordOn (m_X5_killWordOn l hj hL t1) (by assumption) (by assumption) rfl ⟨Nat.le_of_ble_eq_true rfl, Nat.le_of_ble_eq_true rfl⟩ ⟨Nat.le_of_ble_eq_true rfl, Nat.le_of_ble_eq_true rfl⟩ (Nat.le_of_ble_eq_true rfl) (fun _ _ _ h => h.elim) (fun v407 L407 G407 hp407 => ?_)
      obtain ⟨rfl, rfl, t9, f9⟩ := hp407
      exact z_iret hZ rfl (Nat.le_of_ble_eq_true rfl) (Nat.le_of_ble_eq_true rfl) dX5_doDeed_410 (by
            by_cases q : v 1 < wS (v 0) (fT v) (v 1)
            · rw [if_pos q] at t9
              exact ⟨rfl, f9, Or.inl ⟨q, ⟨_, rfl, by rw [if_pos q]; omega, by rw [if_pos q]; omega⟩, t9⟩⟩
            · rw [if_neg q] at t9
              exact ⟨rfl, f9, Or.inr ⟨q, pv (if_neg q), t9⟩⟩)
    | 9, _ =>
      rw [show dI 9 = 87 from rfl]
      refine z_iload_n1 hZ dX5_doDeed_0 ?_
      refine z_tIn hZ (tgt := 411) (off := 410) dX5_doDeed_1 (by omega) rfl rfl ?_
      refine z_aload_n0 hZ dX5_doDeed_411 ?_
      refine z_cV hZ (As := []) rfl dX5_doDeed_412 ml_X5_78 wy_X5_killWordBack (m_X5_killWordBack l hj hL t1) (by assumption) (by assumption) rfl ⟨Nat.le_of_ble_eq_true rfl, Nat.le_of_ble_eq_true rfl⟩ ⟨Nat.le_of_ble_eq_true rfl, Nat.le_of_ble_eq_true rfl⟩ (Nat.le_of_ble_eq_true rfl) (fun _ _ _ h => h.elim) (fun v412 L412 G412 hp412 => ?_)
      obtain ⟨rfl, rfl, t9, f9⟩ := hp412
      exact z_iret hZ rfl (Nat.le_of_ble_eq_true rfl) (Nat.le_of_ble_eq_true rfl) dX5_doDeed_415 (by
            by_cases q : wB (v 0) (fT v) (v 1) < v 1
            · rw [if_pos q] at t9
              exact ⟨rfl, f9, Or.inl ⟨q, ⟨_, rfl, by rw [if_pos q]; omega, by rw [if_pos q]; omega⟩, t9⟩⟩
            · rw [if_neg q] at t9
              exact ⟨rfl, f9, Or.inr ⟨q, pv (if_neg q), t9⟩⟩)
    | 10, _ =>
      rw [show dI 10 = 107 from rfl]
      refine z_iload_n1 hZ dX5_doDeed_0 ?_
      refine z_tIn hZ (tgt := 416) (off := 415) dX5_doDeed_1 (by omega) rfl rfl ?_
      refine z_aload_n0 hZ dX5_doDeed_416 ?_
      refine z_cV hZ (As := []) rfl dX5_doDeed_417 ml_X5_81 wy_X5_killLineOn (m_X5_killLineOn l hj hL t1) (by assumption) (by assumption) rfl ⟨Nat.le_of_ble_eq_true rfl, Nat.le_of_ble_eq_true rfl⟩ ⟨Nat.le_of_ble_eq_true rfl, Nat.le_of_ble_eq_true rfl⟩ (Nat.le_of_ble_eq_true rfl) (fun _ _ _ h => h.elim) (fun v417 L417 G417 hp417 => ?_)
      obtain ⟨rfl, rfl, t9, f9⟩ := hp417
      exact z_iret hZ rfl (Nat.le_of_ble_eq_true rfl) (Nat.le_of_ble_eq_true rfl) dX5_doDeed_420 (by
            by_cases q : v 1 < kLj v
            · rw [if_pos q] at t9
              exact ⟨rfl, f9, Or.inl ⟨q, ⟨_, rfl, by rw [if_pos q]; omega, by rw [if_pos q]; omega⟩, t9⟩⟩
            · rw [if_neg q] at t9
              exact ⟨rfl, f9, Or.inr ⟨q, pv (if_neg q), t9⟩⟩)
    | 11, _ =>
      rw [show dI 11 = 114 from rfl]
      refine z_iload_n1 hZ dX5_doDeed_0 ?_
      refine z_tIn hZ (tgt := 421) (off := 420) dX5_doDeed_1 (by omega) rfl rfl ?_
      refine z_aload_n0 hZ dX5_doDeed_421 ?_
      refine z_cV hZ (As := []) rfl dX5_doDeed_422 ml_X5_84 wy_X5_killToMark (m_X5_killToMark l hj hL t1) (by assumption) (by assumption) rfl ⟨Nat.le_of_ble_eq_true rfl, Nat.le_of_ble_eq_true rfl⟩ ⟨Nat.le_of_ble_eq_true rfl, Nat.le_of_ble_eq_true rfl⟩ (Nat.le_of_ble_eq_true rfl) (fun _ _ _ h => h.elim) (fun v422 L422 G422 hp422 => ?_)
      obtain ⟨rfl, rfl, t9, f9⟩ := hp422
      exact z_iret hZ rfl (Nat.le_of_ble_eq_true rfl) (Nat.le_of_ble_eq_true rfl) dX5_doDeed_425 (by
            by_cases q : v 2 ≠ -1 ∧ mnI (v 2) (v 1) < mxI (v 2) (v 1)
            · rw [if_pos q] at t9
              exact ⟨rfl, f9, Or.inl ⟨q, ⟨_, rfl, by rw [if_pos q]; omega, by rw [if_pos q]; omega⟩, t9⟩⟩
            · rw [if_neg q] at t9
              exact ⟨rfl, f9, Or.inr ⟨q, pv (if_neg q), t9⟩⟩)
    | 12, _ =>
      rw [show dI 12 = 99 from rfl]
      refine z_iload_n1 hZ dX5_doDeed_0 ?_
      refine z_tIn hZ (tgt := 426) (off := 425) dX5_doDeed_1 (by omega) rfl rfl ?_
      refine z_aload_n0 hZ dX5_doDeed_426 ?_
      refine z_cV hZ (As := []) rfl dX5_doDeed_427 ml_X5_87 wy_X5_copyToMark (m_X5_copyToMark l hj hL t1) (by assumption) (by assumption) rfl ⟨Nat.le_of_ble_eq_true rfl, Nat.le_of_ble_eq_true rfl⟩ ⟨Nat.le_of_ble_eq_true rfl, Nat.le_of_ble_eq_true rfl⟩ (Nat.le_of_ble_eq_true rfl) (fun _ _ _ h => h.elim) (fun v427 L427 G427 hp427 => ?_)
      obtain ⟨rfl, rfl, t9, f9⟩ := hp427
      exact z_iret hZ rfl (Nat.le_of_ble_eq_true rfl) (Nat.le_of_ble_eq_true rfl) dX5_doDeed_430 (by
            by_cases q : v 2 ≠ -1 ∧ mnI (v 2) (v 1) < mxI (v 2) (v 1)
            · rw [if_pos q] at t9
              exact ⟨rfl, f9, Or.inl ⟨q, ⟨_, rfl, by rw [if_pos q]; omega, by rw [if_pos q]; omega⟩, t9⟩⟩
            · rw [if_neg q] at t9
              exact ⟨rfl, f9, Or.inr ⟨q, pv (if_neg q), t9⟩⟩)
    | 13, _ =>
      rw [show dI 13 = 121 from rfl]
      refine z_iload_n1 hZ dX5_doDeed_0 ?_
      refine z_tIn hZ (tgt := 431) (off := 430) dX5_doDeed_1 (by omega) rfl rfl ?_
      refine z_aload_n0 hZ dX5_doDeed_431 ?_
      refine z_cV hZ (As := []) rfl dX5_doDeed_432 ml_X5_90 wy_X5_yankNext (m_X5_yankNext l hj hL t1) (by assumption) (by assumption) rfl ⟨Nat.le_of_ble_eq_true rfl, Nat.le_of_ble_eq_true rfl⟩ ⟨Nat.le_of_ble_eq_true rfl, Nat.le_of_ble_eq_true rfl⟩ (Nat.le_of_ble_eq_true rfl) (fun _ _ _ h => h.elim) (fun v432 L432 G432 hp432 => ?_)
      obtain ⟨rfl, rfl, t9, f9⟩ := hp432
      exact z_iret hZ rfl (Nat.le_of_ble_eq_true rfl) (Nat.le_of_ble_eq_true rfl) dX5_doDeed_435 (by
            by_cases q : 0 < v 3 ∧ v 0 + nxL v ≤ 200
            · rw [if_pos q] at t9
              exact ⟨rfl, f9, Or.inl ⟨q, ⟨_, rfl, by rw [if_pos q]; omega, by rw [if_pos q]; omega⟩, t9.1⟩⟩
            · rw [if_neg q] at t9
              exact ⟨rfl, f9, Or.inr ⟨q, pv (if_neg q), t9⟩⟩)
    | 14, _ =>
      rw [show dI 14 = 112 from rfl]
      refine z_iload_n1 hZ dX5_doDeed_0 ?_
      refine z_tIn hZ (tgt := 436) (off := 435) dX5_doDeed_1 (by omega) rfl rfl ?_
      refine z_aload_n0 hZ dX5_doDeed_436 ?_
      refine z_cV hZ (As := []) rfl dX5_doDeed_437 ml_X5_93 wy_X5_yankOlder (m_X5_yankOlder l hj hL t1) (by assumption) (by assumption) rfl ⟨Nat.le_of_ble_eq_true rfl, Nat.le_of_ble_eq_true rfl⟩ ⟨Nat.le_of_ble_eq_true rfl, Nat.le_of_ble_eq_true rfl⟩ (Nat.le_of_ble_eq_true rfl) (fun _ _ _ h => h.elim) (fun v437 L437 G437 hp437 => ?_)
      obtain ⟨rfl, rfl, t9, f9⟩ := hp437
      exact z_iret hZ rfl (Nat.le_of_ble_eq_true rfl) (Nat.le_of_ble_eq_true rfl) dX5_doDeed_440 (by
            by_cases q : kd = 2 ∧ v 0 - (v 1 - v 2) + oyL v ≤ 200
            · rw [if_pos q] at t9
              exact ⟨rfl, f9, Or.inl ⟨q, ⟨_, rfl, by rw [if_pos q]; omega, by rw [if_pos q]; omega⟩, t9.1⟩⟩
            · rw [if_neg q] at t9
              exact ⟨rfl, f9, Or.inr ⟨q, pv (if_neg q), t9⟩⟩)
    | 15, _ =>
      rw [show dI 15 = 116 from rfl]
      refine z_iload_n1 hZ dX5_doDeed_0 ?_
      refine z_tIn hZ (tgt := 441) (off := 440) dX5_doDeed_1 (by omega) rfl rfl ?_
      refine z_aload_n0 hZ dX5_doDeed_441 ?_
      refine z_iconst hZ dX5_doDeed_442 ?_
      refine z_cV hZ (As := [_]) rfl dX5_doDeed_443 ml_X5_96 wy_X5_turnRing (m_X5_turnRing l hj hL t1 (by omega)) (by assumption) (by assumption) rfl ⟨Nat.le_of_ble_eq_true rfl, Nat.le_of_ble_eq_true rfl⟩ ⟨Nat.le_of_ble_eq_true rfl, Nat.le_of_ble_eq_true rfl⟩ (Nat.le_of_ble_eq_true rfl) (fun _ _ _ h => h.elim) (fun v443 L443 G443 hp443 => ?_)
      obtain ⟨rfl, rfl, t9, f9⟩ := hp443
      exact z_iret hZ rfl (Nat.le_of_ble_eq_true rfl) (Nat.le_of_ble_eq_true rfl) dX5_doDeed_446 (by
            by_cases q : 0 < v 3
            · rw [if_pos q] at t9
              exact ⟨rfl, f9, Or.inl ⟨q, ⟨_, rfl, by rw [if_pos q]; omega, by rw [if_pos q]; omega⟩, t9⟩⟩
            · rw [if_neg q] at t9
              exact ⟨rfl, f9, Or.inr ⟨q, pv (if_neg q), t9⟩⟩)
    | 16, _ =>
      rw [show dI 16 = 117 from rfl]
      refine z_iload_n1 hZ dX5_doDeed_0 ?_
      refine z_tIn hZ (tgt := 447) (off := 446) dX5_doDeed_1 (by omega) rfl rfl ?_
      refine z_aload_n0 hZ dX5_doDeed_447 ?_
      refine z_cV hZ (As := []) rfl dX5_doDeed_448 ml_X5_99 wy_X5_rubOut (m_X5_rubOut l hj hL t1) (by assumption) (by assumption) rfl ⟨Nat.le_of_ble_eq_true rfl, Nat.le_of_ble_eq_true rfl⟩ ⟨Nat.le_of_ble_eq_true rfl, Nat.le_of_ble_eq_true rfl⟩ (Nat.le_of_ble_eq_true rfl) (fun _ _ _ h => h.elim) (fun v448 L448 G448 hp448 => ?_)
      obtain ⟨rfl, rfl, t9, f9⟩ := hp448
      exact z_iret hZ rfl (Nat.le_of_ble_eq_true rfl) (Nat.le_of_ble_eq_true rfl) dX5_doDeed_451 (by
            by_cases q : 0 < v 1
            · rw [if_pos q] at t9
              exact ⟨rfl, f9, Or.inl ⟨q, ⟨_, rfl, by rw [if_pos q]; omega, by rw [if_pos q]; omega⟩, t9.1⟩⟩
            · rw [if_neg q] at t9
              exact ⟨rfl, f9, Or.inr ⟨q, pv (if_neg q), t9⟩⟩)
    | 17, _ =>
      rw [show dI 17 = 115 from rfl]
      refine z_iload_n1 hZ dX5_doDeed_0 ?_
      refine z_tIn hZ (tgt := 452) (off := 451) dX5_doDeed_1 (by omega) rfl rfl ?_
      refine z_aload_n0 hZ dX5_doDeed_452 ?_
      refine z_cV hZ (As := []) rfl dX5_doDeed_453 ml_X5_102 wy_X5_swapBoth (m_X5_swapBoth l hj hL t1) (by assumption) (by assumption) rfl ⟨Nat.le_of_ble_eq_true rfl, Nat.le_of_ble_eq_true rfl⟩ ⟨Nat.le_of_ble_eq_true rfl, Nat.le_of_ble_eq_true rfl⟩ (Nat.le_of_ble_eq_true rfl) (fun _ _ _ h => h.elim) (fun v453 L453 G453 hp453 => ?_)
      obtain ⟨rfl, rfl, t9, f9⟩ := hp453
      exact z_iret hZ rfl (Nat.le_of_ble_eq_true rfl) (Nat.le_of_ble_eq_true rfl) dX5_doDeed_456 (by
            by_cases q : 0 < v 1 ∧ v 1 < v 0
            · rw [if_pos q] at t9
              exact ⟨rfl, f9, Or.inl ⟨q, ⟨_, rfl, by rw [if_pos q]; omega, by rw [if_pos q]; omega⟩, t9.1⟩⟩
            · rw [if_neg q] at t9
              exact ⟨rfl, f9, Or.inr ⟨q, pv (if_neg q), t9⟩⟩)
    | 18, _ =>
      rw [show dI 18 = 103 from rfl]
      refine z_iload_n1 hZ dX5_doDeed_0 ?_
      refine z_tIn hZ (tgt := 457) (off := 456) dX5_doDeed_1 (by omega) rfl rfl ?_
      refine z_aload_n0 hZ dX5_doDeed_457 ?_
      refine z_cV hZ (As := []) rfl dX5_doDeed_458 ml_X5_105 wy_X5_makeGreat (m_X5_makeGreat l hj hL t1) (by assumption) (by assumption) rfl ⟨Nat.le_of_ble_eq_true rfl, Nat.le_of_ble_eq_true rfl⟩ ⟨Nat.le_of_ble_eq_true rfl, Nat.le_of_ble_eq_true rfl⟩ (Nat.le_of_ble_eq_true rfl) (fun _ _ _ h => h.elim) (fun v458 L458 G458 hp458 => ?_)
      obtain ⟨rfl, rfl, t9, f9⟩ := hp458
      exact z_iret hZ rfl (Nat.le_of_ble_eq_true rfl) (Nat.le_of_ble_eq_true rfl) dX5_doDeed_461 (by exact ⟨rfl, f9, Or.inl ⟨True.intro, ⟨_, rfl, by omega, by omega⟩, t9⟩⟩)
    | 19, _ =>
      rw [show dI 19 = 110 from rfl]
      refine z_iload_n1 hZ dX5_doDeed_0 ?_
      refine z_tIn hZ (tgt := 462) (off := 461) dX5_doDeed_1 (by omega) rfl rfl ?_
      refine z_aload_n0 hZ dX5_doDeed_462 ?_
      refine z_bipush hZ dX5_doDeed_463 rfl ?_
      refine z_cV hZ (As := [_]) rfl dX5_doDeed_465 ml_X5_108 wy_X5_writeCode (m_X5_writeCode l hj hL t1 (by omega)) (by assumption) (by assumption) rfl ⟨Nat.le_of_ble_eq_true rfl, Nat.le_of_ble_eq_true rfl⟩ ⟨Nat.le_of_ble_eq_true rfl, Nat.le_of_ble_eq_true rfl⟩ (Nat.le_of_ble_eq_true rfl) (fun _ _ _ h => h.elim) (fun v465 L465 G465 hp465 => ?_)
      obtain ⟨rfl, rfl, t9, f9⟩ := hp465
      exact z_iret hZ rfl (Nat.le_of_ble_eq_true rfl) (Nat.le_of_ble_eq_true rfl) dX5_doDeed_468 (by
            by_cases q : v 0 < 200
            · rw [if_pos q] at t9
              exact ⟨rfl, f9, Or.inl ⟨q, ⟨_, rfl, by rw [if_pos q]; omega, by rw [if_pos q]; omega⟩, t9⟩⟩
            · rw [if_neg q] at t9
              exact ⟨rfl, f9, Or.inr ⟨q, pv (if_neg q), t9⟩⟩)
    | 20, _ =>
      rw [show dI 20 = 95 from rfl]
      refine z_iload_n1 hZ dX5_doDeed_0 ?_
      refine z_tIn hZ (tgt := 469) (off := 468) dX5_doDeed_1 (by omega) rfl rfl ?_
      refine z_aload_n0 hZ dX5_doDeed_469 ?_
      refine z_bipush hZ dX5_doDeed_470 rfl ?_
      refine z_cV hZ (As := [_]) rfl dX5_doDeed_472 ml_X5_108 wy_X5_writeCode (m_X5_writeCode l hj hL t1 (by omega)) (by assumption) (by assumption) rfl ⟨Nat.le_of_ble_eq_true rfl, Nat.le_of_ble_eq_true rfl⟩ ⟨Nat.le_of_ble_eq_true rfl, Nat.le_of_ble_eq_true rfl⟩ (Nat.le_of_ble_eq_true rfl) (fun _ _ _ h => h.elim) (fun v472 L472 G472 hp472 => ?_)
      obtain ⟨rfl, rfl, t9, f9⟩ := hp472
      exact z_iret hZ rfl (Nat.le_of_ble_eq_true rfl) (Nat.le_of_ble_eq_true rfl) dX5_doDeed_475 (by
            by_cases q : v 0 < 200
            · rw [if_pos q] at t9
              exact ⟨rfl, f9, Or.inl ⟨q, ⟨_, rfl, by rw [if_pos q]; omega, by rw [if_pos q]; omega⟩, t9⟩⟩
            · rw [if_neg q] at t9
              exact ⟨rfl, f9, Or.inr ⟨q, pv (if_neg q), t9⟩⟩)
    | 21, _ =>
      rw [show dI 21 = 39 from rfl]
      have hx3 := hx2 rfl
      refine z_iload_n1 hZ dX5_doDeed_0 ?_
      refine z_tIn hZ (tgt := 476) (off := 475) dX5_doDeed_1 (by omega) rfl rfl ?_
      refine z_aload_n0 hZ dX5_doDeed_476 ?_
      refine z_iload_n2 hZ dX5_doDeed_477 ?_
      refine z_cV hZ (As := [_]) rfl dX5_doDeed_478 ml_X5_108 wy_X5_writeCode (m_X5_writeCode l hj hL t1 (by omega)) (by assumption) (by assumption) rfl ⟨Nat.le_of_ble_eq_true rfl, Nat.le_of_ble_eq_true rfl⟩ ⟨Nat.le_of_ble_eq_true rfl, Nat.le_of_ble_eq_true rfl⟩ (Nat.le_of_ble_eq_true rfl) (fun _ _ _ h => h.elim) (fun v478 L478 G478 hp478 => ?_)
      obtain ⟨rfl, rfl, t9, f9⟩ := hp478
      exact z_iret hZ rfl (Nat.le_of_ble_eq_true rfl) (Nat.le_of_ble_eq_true rfl) dX5_doDeed_481 (by
            by_cases q : v 0 < 200
            · rw [if_pos q] at t9
              exact ⟨rfl, f9, Or.inl ⟨q, ⟨_, rfl, by rw [if_pos q]; omega, by rw [if_pos q]; omega⟩, t9⟩⟩
            · rw [if_neg q] at t9
              exact ⟨rfl, f9, Or.inr ⟨q, pv (if_neg q), t9⟩⟩)
    | _ + 22, h => omega
  exact hgo

