/-! WHAT THE LAW'S CHECKS REST ON, without the machine: behind a yank what is between mark and point is the hoard that comes next; a growing hoard comes next. -/
def jv (v : Int → Int) (kd : Int) : Prop := (kd = 1 → v 4 = 0) ∧ (kd = 2 → v 2 + nxL v = v 1 ∧ ∀ k, 0 ≤ k → k < nxL v → v (18 + v 2 + k) = v (218 + 200 * v 4 + k))
theorem jv0 {v : Int → Int} : jv v 0 := ⟨fun q => by omega, fun q => by omega⟩
theorem jv_yk {g : Int → Int} {kd : Int} (v : vf g kd) (h : 0 < g 3 ∧ g 0 + nxL g ≤ 200) : jv (vYk g) 2 := by
  have r := v.1
  have r4 := v.2.1.2.2.1 h.1
  have rn : 1 ≤ nxL g ∧ nxL g ≤ 200 := v.2.1.1 (g 4) r4.1 r4.2
  have ef : ∀ x, x ≠ 1 → x ≠ 2 → x ≠ 7 → vYk g x = if 18 + g 1 ≤ x ∧ x < 18 + g 1 + nxL g then g (218 + 200 * g 4 + (x - 18 - g 1)) else vPar (nxL g) g x := fun x a b c => (wu_n c).trans ((wu_n a).trans (wu_n b))
  have e1 : vYk g 1 = g 1 + nxL g := (wu_n (by omega)).trans wu_s
  have e2 : vYk g 2 = g 1 := (wu_n (by omega)).trans ((wu_n (by omega)).trans wu_s)
  have ru : RU g (vYk g) := fun x hx => by
    rw [ef x (by omega) (by omega) (by omega), if_neg (by omega)]
    exact vPar_at (by omega) (by omega)
  have e4 : vYk g 4 = g 4 := ru 4 (by omega)
  have eN : nxL (vYk g) = nxL g := by
    unfold nxL
    rw [e4]
    exact ru _ (by omega)
  refine ⟨fun q => absurd q (by decide), fun _ => ⟨by rw [eN]; omega, fun k k0 k1 => ?_⟩⟩
  rw [eN] at k1
  rw [e2, e4, ru (218 + 200 * g 4 + k) (by omega), ef _ (by omega) (by omega) (by omega), if_pos (by omega)]
  congr 1
  omega
theorem jv_yo {g : Int → Int} (v : vf g 2) (h : g 0 - (g 1 - g 2) + oyL g ≤ 200) : jv (vYo g) 2 := by
  have r := v.1
  have z2 := v.2.1.2.2.2.2.2 rfl
  have rt := trA_rg (z := 1) (v := g) (by omega)
  obtain ⟨w, hw⟩ : ∃ w, w = vTk (g 2) (g 1) g := ⟨_, rfl⟩
  have v1 : vf w 0 := vf_tk (z := 6) v (i := g 2) (j := g 1) (by omega) (fun x hx => by rw [hw]) (by omega)
  have h3 : w 3 = g 3 := by rw [hw]; exact vTk_at (by omega) (by omega)
  have h4 : w 4 = g 4 := by rw [hw]; exact vTk_at (by omega) (by omega)
  have hA : w (10 + trA 1 g) = g (10 + trA 1 g) := by rw [hw]; exact vTk_at (by omega) (by omega)
  have h0 : w 0 = g 0 - (g 1 - g 2) := by rw [hw]; exact vTk_0
  have etr : trA 1 w = trA 1 g := by unfold trA; rw [h3, h4]
  have v2 := vf_tr (z := 1) v1 (by omega)
  have eN : nxL (vTr 1 w) = oyL g := by
    unfold nxL
    rw [show vTr 1 w 4 = trA 1 g from wu_s.trans etr, show vTr 1 w (10 + trA 1 g) = w (10 + trA 1 g) from wu_n (by omega), hA]
    rfl
  have e0 : vTr 1 w 0 = w 0 := wu_n (by omega)
  have e3 : vTr 1 w 3 = w 3 := wu_n (by omega)
  have z := jv_yk v2 ⟨by omega, by omega⟩
  unfold vYo
  rw [← hw]
  exact z
theorem kl_at {g : Int → Int} {kd i j x : Int} {B : Prop} [Decidable B] (hi : 0 ≤ i) (hx : 3 ≤ x ∧ x < 18 ∧ x ≠ 6) : vKl i j B kd g x = (if kd = 1 then vGrw i j B g else vCol i j g) x := by
  unfold vKl
  rw [wu_n hx.2.2]
  exact vTk_at (by omega) (by omega)
theorem kl_4 {g : Int → Int} {kd i j : Int} {B : Prop} [Decidable B] (hi : 0 ≤ i) : vKl i j B kd g 4 = 0 := by
  rw [kl_at hi (by omega)]
  by_cases q : kd = 1
  · rw [if_pos q]; exact wu_s
  · rw [if_neg q]; exact wu_s
theorem jv_kl {g : Int → Int} {kd i j : Int} {B : Prop} [Decidable B] (hi : 0 ≤ i) : jv (vKl i j B kd g) 1 := ⟨fun _ => kl_4 hi, fun q => absurd q (by decide)⟩
/-- where a deed kills: its part of the scroll -/
theorem kp_rg {g : Int → Int} {kd : Int} (v : vf g kd) : (0 ≤ wB (g 0) (fT g) (g 1) ∧ (g 2 ≠ -1 → 0 ≤ mnI (g 2) (g 1)) ∧ 0 ≤ g 1) ∧ wS (g 0) (fT g) (g 1) ≤ g 0 ∧ kLj g ≤ g 0 ∧ mxI (g 2) (g 1) ≤ g 0 := by
  have r := v.1
  have rW := wS_rg (n := g 0) (f := fT g) (p := g 1) (by omega)
  have rB := wB_rg (n := g 0) (f := fT g) (p := g 1) (by omega)
  have rE := lE_rg (n := g 0) (f := fT g) (p := g 1) (by omega)
  have rK : kLj g ≤ g 0 := by
    unfold kLj
    by_cases q : lE (g 0) (fT g) (g 1) = g 1 ∧ isE (g 0) (fT g) (g 1) = true
    · rw [if_pos q]
      have z := isE_iff.mp q.2
      by_cases q2 : g 1 < g 0
      · omega
      · rw [cdA_out (by omega)] at z; omega
    · rw [if_neg q]; omega
  have rm : (g 2 ≠ -1 → 0 ≤ mnI (g 2) (g 1)) ∧ mxI (g 2) (g 1) ≤ g 0 := by unfold mxI mnI; split <;> split <;> omega
  exact ⟨⟨rB.1, rm.1, by omega⟩, rW.2, rK, rm.2⟩
theorem jv_to {g : Int → Int} {kd c : Int} {d : Nat} (v : vf g kd) (h : dOk d kd g) : jv (dTo d c kd g) (dKn d) := by
  have r := v.1
  have rg := kp_rg v
  match d, h with
  | 0, _ => exact jv0
  | 1, _ => exact jv0
  | 2, _ => exact jv0
  | 3, _ => exact jv0
  | 4, _ => exact jv0
  | 5, _ => exact jv0
  | 6, _ => exact jv0
  | 7, _ => exact jv0
  | 8, _ => exact jv_kl (by omega)
  | 9, _ => exact jv_kl rg.1.1
  | 10, _ => exact jv_kl (by omega)
  | 11, h => exact jv_kl (rg.1.2.1 h.1)
  | 12, _ => exact jv0
  | 13, h => exact jv_yk v h
  | 14, h =>
    have h1 : kd = 2 := h.1
    have h2 : g 0 - (g 1 - g 2) + oyL g ≤ 200 := h.2
    subst h1
    exact jv_yo v h2
  | 15, _ => exact jv0
  | 16, _ => exact jv0
  | 17, _ => exact jv0
  | 18, _ => exact jv0
  | 19, _ => exact jv0
  | 20, _ => exact jv0
  | 21, _ => exact jv0
  | _ + 22, h => exact False.elim h
theorem dOk_lt {d : Nat} {kd : Int} {g : Int → Int} (h : dOk d kd g) : d < 22 := by
  match d, h with
  | 0, _ => omega
  | 1, _ => omega
  | 2, _ => omega
  | 3, _ => omega
  | 4, _ => omega
  | 5, _ => omega
  | 6, _ => omega
  | 7, _ => omega
  | 8, _ => omega
  | 9, _ => omega
  | 10, _ => omega
  | 11, _ => omega
  | 12, _ => omega
  | 13, _ => omega
  | 14, _ => omega
  | 15, _ => omega
  | 16, _ => omega
  | 17, _ => omega
  | 18, _ => omega
  | 19, _ => omega
  | 20, _ => omega
  | 21, _ => omega
  | _ + 22, h => exact False.elim h
theorem rp_jv {d : Nat} {x : Int} (hx : d = 21 → 10 ≤ x ∧ x ≤ 126) : ∀ (t : Nat) (v : Int → Int) (kd : Int) (w : (Int → Int) × Int), vf v kd → jv v kd → rpF d x t v kd = some w → vf w.1 w.2 ∧ jv w.1 w.2 := by
  intro t
  induction t with
  | zero =>
    intro v kd w hv hj h
    have h : some (v, kd) = some w := h
    have e := Option.some.inj h
    subst e
    exact ⟨hv, hj⟩
  | succ t ih =>
    intro v kd w hv hj h
    by_cases q : dOk d kd v
    · rw [rpF_t q] at h
      exact ih _ _ _ (vf_to hv (dOk_lt q) hx q) (jv_to hv q) h
    · rw [rpF_f q] at h
      cases h
theorem rn_jv {bf : Int → Int} {n : Int} (hb : ∀ k, 0 ≤ k → k < n → 10 ≤ bf k ∧ bf k ≤ 126) (hs : sgR bf n.toNat = 0) : ∀ (m : Nat) (a : Int) (v : Int → Int) (kd c : Int) (w : Int → Int) (k1 c1 : Int), 0 ≤ a → a ≤ n → sgR bf a.toNat = 0 → vf v kd → jv v kd → rnF bf n m a v kd c = some (w, k1, c1) → jv w k1 := by
  intro m
  induction m with
  | zero =>
    intro a v kd c w k1 c1 _ _ _ _ hj h
    have h : some (v, kd, c) = some (w, k1, c1) := h
    have e := Option.some.inj h
    have e1 : v = w := congrArg (fun z => z.1) e
    have e2 : kd = k1 := congrArg (fun z => z.2.1) e
    subst e1
    subst e2
    exact hj
  | succ m ih =>
    intro a v kd c w k1 c1 a0 a1 ha hv hj h
    have h : (if a < n then (rpF (lix (bf (pA1 bf n a))) (pSg bf n a) (pTm bf n a).toNat v kd).bind (fun w => rnF bf n m (pE bf n a) w.1 w.2 (c + pTm bf n a)) else some (v, kd, c)) = some (w, k1, c1) := h
    by_cases q : a < n
    · rw [if_pos q] at h
      have pw := part_wf a0 q ha hs
      have hsg : 10 ≤ pSg bf n a ∧ pSg bf n a ≤ 126 := by
        unfold pSg
        rcases pw.2.2 with z | z
        · rw [if_neg z.2.1]; exact hb _ (by omega) pw.1
        · rw [if_pos z.1]; exact hb _ (by omega) z.2.1
      have hpe : 0 ≤ pE bf n a ∧ pE bf n a ≤ n ∧ sgR bf (pE bf n a).toNat = 0 := by
        unfold pE
        rcases pw.2.2 with z | z
        · rw [if_neg z.2.1]; exact ⟨by omega, by omega, z.2.2⟩
        · rw [if_pos z.1]; exact ⟨by omega, by omega, z.2.2⟩
      rcases hr : rpF (lix (bf (pA1 bf n a))) (pSg bf n a) (pTm bf n a).toNat v kd with _ | z
      · rw [hr] at h; cases h
      · rw [hr] at h
        have y := rp_jv (fun _ => hsg) _ _ _ _ hv hj hr
        exact ih _ _ _ _ _ _ _ hpe.1 hpe.2.1 hpe.2.2 y.1 y.2 h
    · rw [if_neg q] at h
      have e := Option.some.inj h
      have e1 : v = w := congrArg (fun z => z.1) e
      have e2 : kd = k1 := congrArg (fun z => z.2.1) e
      subst e1
      subst e2
      exact hj
/-- what the law asks of a kill: c the kind of the call, told its answer -/
def kR (c told : Int) (v : Int → Int) (kd : Int) (v1 : Int → Int) (k1 : Int) : Prop := 18 ≤ c → c ≤ 22 → k1 = 1 ∧ v1 6 = v 6 + told ∧ v1 5 = v 5 ∧ (kd = 1 → v1 3 = v 3) ∧ (kd ≠ 1 → v1 10 = told ∧ v1 3 = if v 3 = v 5 then v 3 else v 3 + 1)
theorem kR_no {c told : Int} {v : Int → Int} {kd : Int} {v1 : Int → Int} {k1 : Int} (h : c < 18 ∨ 22 < c) : kR c told v kd v1 k1 := fun a b => by omega
theorem kR_kl {c i j : Int} {g : Int → Int} {kd : Int} {B : Prop} [Decidable B] (v : vf g kd) (h : 0 ≤ i ∧ i < j) : kR c (j - i) g kd (vKl i j B kd g) 1 := by
  intro _ _
  have r := v.1
  refine ⟨rfl, wu_s, ?_, fun q => ?_, fun q => ⟨?_, ?_⟩⟩
  · rw [kl_at h.1 (by omega)]
    by_cases q : kd = 1
    · subst q
      have k1 := v.2.1.2.2.2.2.1 rfl
      have h0 := v.2.1.1 0 (by omega) (by omega)
      rw [show (10 : Int) + 0 = 10 by omega] at h0
      rw [if_pos rfl]; exact vGrw_at (by omega) (by omega)
    · rw [if_neg q]; exact vCol_at (by omega) (by omega)
  · subst q
    have k1 := v.2.1.2.2.2.2.1 rfl
    have h0 := v.2.1.1 0 (by omega) (by omega)
    rw [show (10 : Int) + 0 = 10 by omega] at h0
    rw [kl_at h.1 (by omega), if_pos rfl]; exact vGrw_at (by omega) (by omega)
  · rw [kl_at h.1 (by omega), if_neg q]
    unfold vCol
    rw [wu_n (by omega)]
    show (if 218 ≤ (10 : Int) ∧ _ then _ else _) = _
    rw [if_neg (by omega)]
    exact wu_s
  · rw [kl_at h.1 (by omega), if_neg q]
    unfold vCol
    rw [wu_n (by omega)]
    show (if 218 ≤ (3 : Int) ∧ _ then _ else _) = _
    rw [if_neg (by omega), wu_n (by omega)]
    unfold vCol2
    rw [if_neg (by omega), if_neg (by omega)]
    show wu (wu g 3 (g 3 + (1 - fuA g))) 9 (g 9 + fuA g) 3 = _
    rw [wu_n (by omega), wu_s]
    unfold fuA
    by_cases q2 : g 3 = g 5
    · rw [if_pos q2, if_pos q2]; omega
    · rw [if_neg q2, if_neg q2]; omega
theorem kR_to {c x : Int} {g : Int → Int} {kd : Int} {d : Nat} (v : vf g kd) (hd : d = 8 ∨ d = 9 ∨ d = 10 ∨ d = 11) (h : dOk d kd g) : kR c (dAn d g) g kd (dTo d x kd g) (dKn d) := by
  have rg := kp_rg v
  rcases hd with rfl | rfl | rfl | rfl
  · exact kR_kl v ⟨rg.1.2.2, h⟩
  · exact kR_kl v ⟨rg.1.1, h⟩
  · exact kR_kl v ⟨rg.1.2.2, h⟩
  · exact kR_kl v ⟨rg.1.2.1 h.1, h.2⟩
/-! counting: the line of the point, the longest line, the heaviest hoard -/
theorem cn_mono {P : Int → Bool} {a : Nat} : ∀ m : Nat, cn P a ≤ cn P (a + m) := by
  intro m
  induction m with
  | zero => exact Int.le_refl _
  | succ m ih =>
    show cn P a ≤ cn P (a + m) + (if P ((a + m : Nat) : Int) = true then 1 else 0)
    split <;> omega
theorem li_lt {v : Int → Int} {kd : Int} (w : vf v kd) : liA v < lnA v := by
  have r := w.1
  have z := cn_mono (P := isE (v 0) (fT v)) (a := (v 1).toNat) ((v 0).toNat - (v 1).toNat)
  rw [show (v 1).toNat + ((v 0).toNat - (v 1).toNat) = (v 0).toNat by omega] at z
  unfold liA lnA
  omega
theorem mxL_ge {n : Int} {f : Int → Int} {k : Nat} : ∀ m : Nat, k < m → lE n f k - lB n f k ≤ mxL n f m := by
  intro m
  induction m with
  | zero => intro h; omega
  | succ m ih =>
    intro h
    show _ ≤ if mxL n f m < lE n f m - lB n f m then lE n f m - lB n f m else mxL n f m
    by_cases q : k = m
    · subst q; split <;> omega
    · have := ih (by omega)
      split <;> omega
theorem co_le {v : Int → Int} {kd : Int} (w : vf v kd) : v 1 - lB (v 0) (fT v) (v 1) ≤ loA v := by
  have r := w.1
  have rE := lE_rg (n := v 0) (f := fT v) (p := v 1) (by omega)
  have z := mxL_ge (n := v 0) (f := fT v) (k := (v 1).toNat) (v 0 + 1).toNat (by omega)
  rw [Int.toNat_of_nonneg (by omega)] at z
  unfold loA
  omega
theorem lgH_ge {hl : Int → Int} {k : Nat} : ∀ m : Nat, k < m → hl k ≤ hl (lgH hl m) := by
  intro m
  induction m with
  | zero => intro h; omega
  | succ m ih =>
    intro h
    have r := lgH_rg (hl := hl) m
    show hl k ≤ hl (if lgH hl m = -1 ∨ hl (lgH hl m) < hl m then (m : Int) else lgH hl m)
    by_cases q : lgH hl m = -1 ∨ hl (lgH hl m) < hl m
    · rw [if_pos q]
      by_cases e : k = m
      · subst e; exact Int.le_refl _
      · have := ih (by omega)
        rcases q with q | q
        · omega
        · omega
    · rw [if_neg q]
      by_cases e : k = m
      · subst e; omega
      · exact ih (by omega)
theorem lg_ge {v : Int → Int} {k : Int} (h : 0 ≤ k ∧ k < v 3) : v (10 + k) ≤ v (10 + lgA v) := by
  have z := lgH_ge (hl := fun i => v (10 + i)) (k := k.toNat) (v 3).toNat (by omega)
  rw [Int.toNat_of_nonneg h.1] at z
  exact z
theorem lg_rg {v : Int → Int} (h : 0 < v 3) : 0 ≤ lgA v ∧ lgA v < v 3 := by
  have z := lgH_rg (hl := fun i => v (10 + i)) (v 3).toNat
  unfold lgA
  omega
theorem wu_get {α : Type} {f : Int → α} {k : Int} {x : α} : wu f k x k = x := wu_s
theorem hS_top {sv : Int} {H : Int → Int → Int} {v : Int → Int} (h : 0 ≤ sv ∧ sv ≤ 6) : hS sv H v (hN sv) = v := by
  unfold hS hN
  by_cases q : sv < 6
  · rw [if_pos q, if_pos q, if_pos rfl]
  · rw [if_neg q, if_neg q, if_pos rfl]
