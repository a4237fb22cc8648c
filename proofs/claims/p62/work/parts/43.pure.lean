/-! WHAT HOLDS OF EVERY STATE, without the machine. -/
theorem db.mv {L : List Nat} {F F1 : Nat → PE} {K : Nat → Nat} {fi sv n : Int} {kp bf : Int → Int} {W : Nat → Int → Int} {D : Nat → Int} (t : db L F K fi sv kp n bf W D) (h : ∀ i, i < 257 → F1 (K i) = F (K i)) : db L F1 K fi sv kp n bf W D := by
  obtain ⟨t1, t2, ⟨t3, t4⟩, ⟨r, t5, t6⟩, ⟨r2, t7, t8⟩, ⟨t9, t10⟩, t11, t12⟩ := t
  exact ⟨t1, (h 0 (by omega)).trans t2, ⟨(h 26 (by omega)).trans t3, t4⟩, ⟨r, (h 27 (by omega)).trans t5, t6⟩, ⟨r2, (h 203 (by omega)).trans t7, t8⟩, ⟨(h 254 (by omega)).trans t9, t10⟩, t11.mv (h 255 (by omega)) (h 256 (by omega)), fun k hk => (t12 k hk).mv (fun i hi => h _ (by unfold sB; (repeat' split) <;> omega))⟩
theorem dr.L {L : List Nat} {F : Nat → PE} {K : Nat → Nat} {v : Int → Int} {kd sv n : Int} {H Q : Int → Int → Int} {kp bf : Int → Int} (t : dr L F K v kd sv H kp Q n bf) : ∀ i, i < 257 → K i ∈ L := by
  obtain ⟨fi, W, D, hb, hl, hk⟩ := t
  exact hb.1.1
theorem dr.S {L : List Nat} {F : Nat → PE} {K : Nat → Nat} {v : Int → Int} {kd sv n : Int} {H Q : Int → Int → Int} {kp bf : Int → Int} (t : dr L F K v kd sv H kp Q n bf) : stP L F (sK K 0) v kd ∧ F (K 0) = eO 7 [.ref (K 1), .ref (K 26), .ref (K 203), .ref (K 254), .ref (K 255)] ∧ inL L (sK K 0) ∧ tx L F (K 255) (K 256) 60 n bf ∧ F (K 254) = eI 1 2 kp ∧ (kp 0 = 0 ∨ kp 0 = 1) ∧ (kp 1 = 0 ∨ kp 1 = 1) := by
  obtain ⟨fi, W, D, hb, hl, hk⟩ := t
  have z := hb.2.2.2.2.2.2.2 0 (by omega)
  rw [hl.1, hk] at z
  exact ⟨z, hb.2.1, hb.L (by omega), hb.2.2.2.2.2.2.1, hb.2.2.2.2.2.1.1, hb.2.2.2.2.2.1.2⟩
def vf (g : Int → Int) (kd : Int) : Prop := (0 ≤ g 0 ∧ g 0 ≤ 200 ∧ 0 ≤ g 1 ∧ g 1 ≤ g 0 ∧ -1 ≤ g 2 ∧ g 2 ≤ g 0 ∧ 0 ≤ g 3 ∧ g 3 ≤ g 5 ∧ 1 ≤ g 5 ∧ g 5 ≤ 8) ∧ iv g kd ∧ (∀ k, 0 ≤ k → k < g 0 → 10 ≤ fT g k ∧ fT g k ≤ 126) ∧ ∀ i k, 0 ≤ i → i < g 3 → 0 ≤ k → k < g (10 + i) → 10 ≤ g (218 + 200 * i + k) ∧ g (218 + 200 * i + k) ≤ 126
theorem fuA_z {g : Int → Int} (r : 0 ≤ g 3 ∧ g 3 ≤ g 5 ∧ 1 ≤ g 5 ∧ g 5 ≤ 8) : 0 ≤ g 3 - fuA g ∧ g 3 - fuA g ≤ 7 ∧ (fuA g = 0 ∨ fuA g = 1) := by unfold fuA; split <;> omega
def clD (g : Int → Int) (m : Int) : Int → Int := wu (vCol2 (vCol1 g) (g 3 - fuA g)) 10 m
theorem clD_at {g : Int → Int} {m x : Int} (r : 0 ≤ g 3 ∧ g 3 ≤ g 5 ∧ 1 ≤ g 5 ∧ g 5 ≤ 8) (h : (18 ≤ x ∧ x < 218) ∨ (0 ≤ x ∧ x < 3) ∨ (4 ≤ x ∧ x < 9)) : clD g m x = g x := by
  have z := fuA_z r
  unfold clD vCol2
  rw [wu_n (by omega)]
  show (if 10 < x ∧ x ≤ 10 + (g 3 - fuA g) then _ else if _ then _ else vCol1 g x) = _
  rw [if_neg (by omega), if_neg (by omega)]
  unfold vCol1
  rw [wu_n (by omega), wu_n (by omega)]
theorem vCol_at {g : Int → Int} {i j x : Int} (r : 0 ≤ g 3 ∧ g 3 ≤ g 5 ∧ 1 ≤ g 5 ∧ g 5 ≤ 8) (h : (18 ≤ x ∧ x < 218) ∨ (0 ≤ x ∧ x < 3) ∨ (5 ≤ x ∧ x < 9)) : vCol i j g x = g x := by
  unfold vCol
  rw [wu_n (by omega)]
  show (if 218 ≤ x ∧ x < 218 + (j - i) then _ else clD g (j - i) x) = _
  rw [if_neg (by omega), clD_at r (by omega)]
def gA1 (g : Int → Int) (m : Int) (B : Prop) [Decidable B] : Int → Int := fun x => if B ∧ 218 + m ≤ x ∧ x < 218 + m + g 10 then g (x - m) else g x
theorem gA1_lo {g : Int → Int} {m x : Int} {B : Prop} [Decidable B] (hm : 0 ≤ m) (h : x < 218) : gA1 g m B x = g x := if_neg (fun z => by have := z.2; omega)
theorem vGrw_at {g : Int → Int} {i j x : Int} {B : Prop} [Decidable B] (hm : i ≤ j ∧ 0 ≤ g 10) (h : x < 218 ∧ x ≠ 10 ∧ x ≠ 4) : vGrw i j B g x = g x := by
  unfold vGrw
  rw [wu_n h.2.2, wu_n h.2.1]
  show (if 218 + (if B then 0 else g 10) ≤ x ∧ _ then _ else gA1 g (j - i) B x) = _
  rw [if_neg (by split <;> omega), gA1_lo (by omega) h.1]
theorem vPar_at {g : Int → Int} {m x : Int} (h : (x < 18 ∧ x ≠ 0 ∧ x ≠ 2) ∨ 18 + g 0 + m ≤ x) (h1 : 0 ≤ g 1 ∧ 0 ≤ m ∧ 0 ≤ g 0) : vPar m g x = g x := by
  unfold vPar
  rw [wu_n (by omega), wu_n (by omega)]
  exact if_neg (by omega)
theorem vTk_at {g : Int → Int} {i j x : Int} (h : x ≠ 0 ∧ x ≠ 1 ∧ x ≠ 2) (h2 : ¬ (18 + i ≤ x ∧ x < 18 + g 0 - (j - i))) : vTk i j g x = g x := by
  unfold vTk
  rw [wu_n (by omega), wu_n (by omega), wu_n (by omega)]
  exact if_neg h2
theorem vf.ru {g g1 : Int → Int} {kd : Int} (v : vf g kd) (ru : RU g g1) (rg : 0 ≤ g1 0 ∧ g1 0 ≤ 200 ∧ 0 ≤ g1 1 ∧ g1 1 ≤ g1 0 ∧ -1 ≤ g1 2 ∧ g1 2 ≤ g1 0) (hc : ∀ k, 0 ≤ k → k < g1 0 → 10 ≤ g1 (18 + k) ∧ g1 (18 + k) ≤ 126) : vf g1 0 := by
  have r := v.1
  have e3 := ru 3 (by omega)
  have e5 := ru 5 (by omega)
  refine ⟨by omega, v.2.1.ru ru (by omega), hc, fun i k i0 i1 k0 k1 => ?_⟩
  rw [ru _ (by omega)] at k1 ⊢
  exact v.2.2.2 i k i0 (by omega) k0 k1
theorem vf.k1 {g : Int → Int} {kd : Int} (v : vf g kd) (h : 1 ≤ g 3 ∧ g 10 + g 0 ≤ 200) : vf g 1 := ⟨v.1, ⟨v.2.1.1, v.2.1.2.1, v.2.1.2.2.1, by omega, fun _ => h, fun q => by omega⟩, v.2.2⟩
theorem vf.k2 {g : Int → Int} {kd : Int} (v : vf g kd) (h : 1 ≤ g 3 ∧ 0 ≤ g 2 ∧ g 2 ≤ g 1) : vf g 2 := ⟨v.1, ⟨v.2.1.1, v.2.1.2.1, v.2.1.2.2.1, by omega, fun q => by omega, fun _ => h⟩, v.2.2⟩
theorem vf.k0 {g : Int → Int} {kd : Int} (v : vf g kd) : vf g 0 := ⟨v.1, v.2.1.k0, v.2.2⟩
theorem vf_go {g : Int → Int} {kd q : Int} (v : vf g kd) (h : 0 ≤ q ∧ q ≤ g 0) : vf (vGo q g) 0 := by
  have r := v.1
  have e0 : vGo q g 0 = g 0 := wu_n (by omega)
  have e1 : vGo q g 1 = q := wu_s
  have e2 : vGo q g 2 = g 2 := wu_n (by omega)
  refine v.ru (fun x hx => wu_n (by omega)) (by omega) (fun k k0 k1 => ?_)
  rw [show vGo q g (18 + k) = g (18 + k) from wu_n (by omega)]
  exact v.2.2.1 k k0 (by omega)
theorem vf_mk {g : Int → Int} {kd : Int} (v : vf g kd) : vf (vMk g) 0 := by
  have r := v.1
  have e0 : vMk g 0 = g 0 := wu_n (by omega)
  have e1 : vMk g 1 = g 1 := wu_n (by omega)
  have e2 : vMk g 2 = g 1 := wu_s
  refine v.ru (fun x hx => wu_n (by omega)) (by omega) (fun k k0 k1 => ?_)
  rw [show vMk g (18 + k) = g (18 + k) from wu_n (by omega)]
  exact v.2.2.1 k k0 (by omega)
theorem vf_ex {g : Int → Int} {kd : Int} (v : vf g kd) (h : g 2 ≠ -1) : vf (vEx g) 0 := by
  have r := v.1
  have e0 : vEx g 0 = g 0 := (wu_n (by omega)).trans (wu_n (by omega))
  have e1 : vEx g 1 = g 2 := wu_s
  have e2 : vEx g 2 = g 1 := (wu_n (by omega)).trans wu_s
  refine v.ru (fun x hx => (wu_n (by omega)).trans (wu_n (by omega))) (by omega) (fun k k0 k1 => ?_)
  rw [show vEx g (18 + k) = g (18 + k) from (wu_n (by omega)).trans (wu_n (by omega))]
  exact v.2.2.1 k k0 (by omega)
theorem vf_wr {g : Int → Int} {kd c : Int} (v : vf g kd) (h : g 0 < 200) (hc : 10 ≤ c ∧ c ≤ 126) : vf (vWr c g) 0 := by
  have r := v.1
  have e0 : vWr c g 0 = g 0 + 1 := (by unfold vWr vPar shR wu; (try dsimp only); (repeat (first | rw [if_pos (by omega)] | rw [if_neg (by omega)])); (first | done | rfl | (congr 1; omega) | (split <;> omega)))
  have e1 : vWr c g 1 = g 1 + 1 := (by unfold vWr vPar shR wu; (try dsimp only); (repeat (first | rw [if_pos (by omega)] | rw [if_neg (by omega)])); (first | done | rfl | (congr 1; omega) | (split <;> omega)))
  have e2 : -1 ≤ vWr c g 2 ∧ vWr c g 2 ≤ g 0 + 1 := by
    have e : vWr c g 2 = g 2 + if g 1 < g 2 then 1 else 0 := (by unfold vWr vPar shR wu; (try dsimp only); (repeat (first | rw [if_pos (by omega)] | rw [if_neg (by omega)])); (first | done | rfl | (congr 1; omega) | (split <;> omega)))
    rw [e]; split <;> omega
  refine v.ru (fun y hy => (by unfold vWr vPar shR wu; (try dsimp only); (repeat (first | rw [if_pos (by omega)] | rw [if_neg (by omega)])); (first | done | rfl | (congr 1; omega) | (split <;> omega)))) (by omega) (fun k k0 k1 => ?_)
  by_cases q1 : k < g 1
  · rw [show vWr c g (18 + k) = g (18 + k) from (by unfold vWr vPar shR wu; (try dsimp only); (repeat (first | rw [if_pos (by omega)] | rw [if_neg (by omega)])); (first | done | rfl | (congr 1; omega) | (split <;> omega)))]
    exact v.2.2.1 k k0 (by omega)
  · by_cases q2 : k = g 1
    · subst q2
      rw [show vWr c g (18 + g 1) = c from (by unfold vWr vPar shR wu; (try dsimp only); (repeat (first | rw [if_pos (by omega)] | rw [if_neg (by omega)])); (first | done | rfl | (congr 1; omega) | (split <;> omega)))]
      exact hc
    · rw [show vWr c g (18 + k) = g (18 + (k - 1)) from (by unfold vWr vPar shR wu; (try dsimp only); (repeat (first | rw [if_pos (by omega)] | rw [if_neg (by omega)])); (first | done | rfl | (congr 1; omega) | (split <;> omega)))]
      exact v.2.2.1 (k - 1) (by omega) (by omega)
theorem mvA_rg {p i j n : Int} (h : 0 ≤ i ∧ i ≤ j ∧ j ≤ n ∧ p ≤ n) : mvA p i j ≤ n - (j - i) ∧ (0 ≤ p → 0 ≤ mvA p i j) ∧ (-1 ≤ p → -1 ≤ mvA p i j) := by
  unfold mvA
  (repeat' split) <;> omega
theorem vTk_0 {g : Int → Int} {i j : Int} : vTk i j g 0 = g 0 - (j - i) := by unfold vTk; exact (wu_n (by omega)).trans ((wu_n (by omega)).trans wu_s)
theorem vTk_1 {g : Int → Int} {i j : Int} : vTk i j g 1 = mvA (g 1) i j := by unfold vTk; exact (wu_n (by omega)).trans wu_s
theorem vTk_2 {g : Int → Int} {i j : Int} : vTk i j g 2 = mvA (g 2) i j := by unfold vTk; exact wu_s
theorem vTk_c {g : Int → Int} {i j k : Int} (h : 0 ≤ k) : vTk i j g (18 + k) = if i ≤ k ∧ k < g 0 - (j - i) then g (18 + (k + (j - i))) else g (18 + k) := by
  unfold vTk
  rw [wu_n (by omega), wu_n (by omega), wu_n (by omega)]
  unfold shL
  by_cases q : i ≤ k ∧ k < g 0 - (j - i)
  · rw [if_pos q, if_pos (by omega)]; congr 1; omega
  · rw [if_neg q, if_neg (by omega)]
theorem vf_tk {g g1 : Int → Int} {kd i j z : Int} (v : vf g kd) (h : 0 ≤ i ∧ i ≤ j ∧ j ≤ g 0) (hg : ∀ x, x ≠ z → g1 x = vTk i j g x) (hz : 6 ≤ z ∧ z ≤ 8) : vf g1 0 := by
  have r := v.1
  have m1 := mvA_rg (p := g 1) (i := i) (j := j) (n := g 0) (by omega)
  have m2 := mvA_rg (p := g 2) (i := i) (j := j) (n := g 0) (by omega)
  have e0 := (hg 0 (by omega)).trans vTk_0
  have e1 := (hg 1 (by omega)).trans vTk_1
  have e2 := (hg 2 (by omega)).trans vTk_2
  refine v.ru (fun y hy => ?_) (by omega) (fun k k0 k1 => ?_)
  · exact (hg y (by omega)).trans (vTk_at (by omega) (by omega))
  · rw [hg _ (by omega), vTk_c k0]
    by_cases q : i ≤ k ∧ k < g 0 - (j - i)
    · rw [if_pos q]; exact v.2.2.1 (k + (j - i)) (by omega) (by omega)
    · rw [if_neg q]; exact v.2.2.1 k (by omega) (by omega)
theorem vf_rub {g : Int → Int} {kd : Int} (v : vf g kd) (h : 0 < g 1) : vf (vRub g) 0 := by
  have r := v.1
  exact vf_tk (z := 8) v (i := g 1 - 1) (j := g 1) (by omega) (fun x hx => wu_n hx) (by omega)
theorem vf_swp {g : Int → Int} {kd : Int} (v : vf g kd) (h : 0 < g 1 ∧ g 1 < g 0) : vf (vSwp g) 0 := by
  have r := v.1
  have e0 : vSwp g 0 = g 0 := (by unfold vSwp wu; (try dsimp only); (repeat (first | rw [if_pos (by omega)] | rw [if_neg (by omega)])); (first | done | rfl | (congr 1; omega) | (split <;> omega)))
  have e1 : vSwp g 1 = g 1 + 1 := (by unfold vSwp wu; (try dsimp only); (repeat (first | rw [if_pos (by omega)] | rw [if_neg (by omega)])); (first | done | rfl | (congr 1; omega) | (split <;> omega)))
  have e2 : vSwp g 2 = g 2 := (by unfold vSwp wu; (try dsimp only); (repeat (first | rw [if_pos (by omega)] | rw [if_neg (by omega)])); (first | done | rfl | (congr 1; omega) | (split <;> omega)))
  refine v.ru (fun y hy => (by unfold vSwp wu; (try dsimp only); (repeat (first | rw [if_pos (by omega)] | rw [if_neg (by omega)])); (first | done | rfl | (congr 1; omega) | (split <;> omega)))) (by omega) (fun k k0 k1 => ?_)
  by_cases q1 : k = g 1 - 1
  · subst q1
    rw [show vSwp g (18 + (g 1 - 1)) = g (18 + g 1) from (by unfold vSwp wu; (try dsimp only); (repeat (first | rw [if_pos (by omega)] | rw [if_neg (by omega)])); (first | done | rfl | (congr 1; omega) | (split <;> omega)))]
    exact v.2.2.1 (g 1) (by omega) (by omega)
  · by_cases q2 : k = g 1
    · subst q2
      rw [show vSwp g (18 + g 1) = g (18 + (g 1 - 1)) from (by unfold vSwp wu; (try dsimp only); (repeat (first | rw [if_pos (by omega)] | rw [if_neg (by omega)])); (first | done | rfl | (congr 1; omega) | (split <;> omega)))]
      exact v.2.2.1 (g 1 - 1) (by omega) (by omega)
    · rw [show vSwp g (18 + k) = g (18 + k) from (by unfold vSwp wu; (try dsimp only); (repeat (first | rw [if_pos (by omega)] | rw [if_neg (by omega)])); (first | done | rfl | (congr 1; omega) | (split <;> omega)))]
      exact v.2.2.1 k k0 (by omega)
theorem vf_grt {g : Int → Int} {kd : Int} (v : vf g kd) : vf (vGrt g) 0 := by
  have r := v.1
  have rt := wS_rg (n := g 0) (f := fT g) (p := g 1) (by omega)
  have ea : ∀ x, x ≠ 1 → (x < 18 + g 1 ∨ 18 + wS (g 0) (fT g) (g 1) ≤ x) → vGrt g x = g x := fun x h1 h2 => (wu_n h1).trans (if_neg (fun z => by have a := z.1; have b := z.2.1; omega))
  have e0 := ea 0 (by omega) (by omega)
  have e1 : vGrt g 1 = wS (g 0) (fT g) (g 1) := wu_s
  have e2 := ea 2 (by omega) (by omega)
  refine v.ru (fun y hy => ea y (by omega) (by omega)) (by omega) (fun k k0 k1 => ?_)
  have c := v.2.2.1 k k0 (by omega)
  unfold fT at c
  have e : vGrt g (18 + k) = if 18 + g 1 ≤ 18 + k ∧ 18 + k < 18 + wS (g 0) (fT g) (g 1) ∧ smC (g (18 + k)) = true then g (18 + k) - 32 else g (18 + k) := wu_n (by omega)
  rw [e]
  by_cases q : 18 + g 1 ≤ 18 + k ∧ 18 + k < 18 + wS (g 0) (fT g) (g 1) ∧ smC (g (18 + k)) = true
  · rw [if_pos q]; have := smC_iff.mp q.2.2; omega
  · rw [if_neg q]; exact c
theorem vf_col {g : Int → Int} {kd i j : Int} (v : vf g kd) (h : 0 ≤ i ∧ i < j ∧ j ≤ g 0) : vf (vCol i j g) 0 ∧ 1 ≤ vCol i j g 3 ∧ vCol i j g 10 = j - i := by
  have r := v.1
  obtain ⟨c3, c4, c5, c9, c10, ca, ci, ch⟩ := vCol_r (i := i) (j := j) (hl := fun i => g (10 + i)) (hf := fun i k => g (218 + 200 * i + k)) v.2.1 (by omega) (by omega) (fun i _ _ => ⟨rfl, fun k _ _ => rfl⟩)
  have fu := fuA_rg (v := g) (by omega)
  have c0 := ca 0 (by omega)
  have c1 := ca 1 (by omega)
  have c2 := ca 2 (by omega)
  refine ⟨⟨by omega, ci, fun k k0 k1 => ?_, fun p k p0 p1 k0 k1 => ?_⟩, by omega, c10⟩
  · show 10 ≤ vCol i j g (18 + k) ∧ vCol i j g (18 + k) ≤ 126
    rw [ca _ (by omega)]; exact v.2.2.1 k k0 (by omega)
  · obtain ⟨h1, h2⟩ := ch p p0 p1
    have h2 := h2 k k0 (by omega)
    rw [← h1] at k1
    rw [← h2]
    unfold adH at k1 ⊢
    by_cases q : p = 0
    · rw [if_pos q] at k1 ⊢
      exact v.2.2.1 (i + k) (by omega) (by omega)
    · rw [if_neg q] at k1 ⊢
      rw [if_pos (by omega)] at k1 ⊢
      exact v.2.2.2 (p - 1) k (by omega) (by omega) k0 k1
theorem vf_grw {g : Int → Int} {i j : Int} {B : Prop} [Decidable B] (v : vf g 1) (h : 0 ≤ i ∧ i < j ∧ j ≤ g 0) : vf (vGrw i j B g) 0 ∧ 1 ≤ vGrw i j B g 3 ∧ vGrw i j B g 10 = g 10 + (j - i) := by
  have r := v.1
  have k1 := v.2.1.2.2.2.2.1 rfl
  have h0 := v.2.1.1 0 (by omega) (by omega)
  rw [show (10 : Int) + 0 = 10 by omega] at h0
  have ea : ∀ x, x < 218 → x ≠ 10 → x ≠ 4 → vGrw i j B g x = g x := fun x a b c => vGrw_at (by omega) ⟨a, b, c⟩
  have e10 : vGrw i j B g 10 = g 10 + (j - i) := (wu_n (by omega)).trans wu_s
  have e4 : vGrw i j B g 4 = 0 := wu_s
  have e0 := ea 0 (by omega) (by omega) (by omega)
  have e1 := ea 1 (by omega) (by omega) (by omega)
  have e2 := ea 2 (by omega) (by omega) (by omega)
  have e3 := ea 3 (by omega) (by omega) (by omega)
  have e5 := ea 5 (by omega) (by omega) (by omega)
  have ec : ∀ x, 218 ≤ x → vGrw i j B g x = if 218 + (if B then 0 else g 10) ≤ x ∧ x < 218 + (if B then 0 else g 10) + (j - i) then g (18 + i + (x - 218 - (if B then 0 else g 10))) else if B ∧ 218 + (j - i) ≤ x ∧ x < 218 + (j - i) + g 10 then g (x - (j - i)) else g x := fun x hx => (wu_n (by omega)).trans (wu_n (by omega))
  refine ⟨⟨by omega, ⟨fun p p0 p1 => ?_, fun q => by omega, fun q => by omega, by omega, fun q => by omega, fun q => by omega⟩, fun k k0 k1 => ?_, fun p k p0 p1 k0 k1 => ?_⟩, by omega, e10⟩
  · by_cases q : p = 0
    · subst q; rw [show (10 : Int) + 0 = 10 by omega, e10]; omega
    · rw [ea _ (by omega) (by omega) (by omega)]; exact v.2.1.1 p p0 (by omega)
  · show 10 ≤ vGrw i j B g (18 + k) ∧ vGrw i j B g (18 + k) ≤ 126
    rw [ea _ (by omega) (by omega) (by omega)]; exact v.2.2.1 k k0 (by omega)
  · rw [ec _ (by omega)]
    by_cases q : p = 0
    · subst q
      rw [show (10 : Int) + 0 = 10 by omega, e10] at k1
      rw [show 218 + 200 * (0 : Int) + k = 218 + k by omega]
      by_cases hB : B
      · simp only [hB, if_true, true_and]
        by_cases q1 : 218 + 0 ≤ 218 + k ∧ 218 + k < 218 + 0 + (j - i)
        · rw [if_pos q1, show 18 + i + (218 + k - 218 - 0) = 18 + (i + k) by omega]; exact v.2.2.1 (i + k) (by omega) (by omega)
        · rw [if_neg q1, if_pos (by omega), show 218 + k - (j - i) = 218 + 200 * 0 + (k - (j - i)) by omega]
          exact v.2.2.2 0 (k - (j - i)) (by omega) (by omega) (by omega) (by rw [show (10 : Int) + 0 = 10 by omega]; omega)
      · simp only [hB, if_false, false_and]
        by_cases q1 : 218 + g 10 ≤ 218 + k ∧ 218 + k < 218 + g 10 + (j - i)
        · rw [if_pos q1, show 18 + i + (218 + k - 218 - g 10) = 18 + (i + k - g 10) by omega]; exact v.2.2.1 (i + k - g 10) (by omega) (by omega)
        · rw [if_neg q1, show 218 + k = 218 + 200 * 0 + k by omega]
          exact v.2.2.2 0 k (by omega) (by omega) (by omega) (by rw [show (10 : Int) + 0 = 10 by omega]; omega)
    · rw [ea _ (by omega) (by omega) (by omega)] at k1
      rw [if_neg (by split <;> omega), if_neg (by omega)]
      exact v.2.2.2 p k p0 (by omega) k0 k1
theorem vf_kl {g : Int → Int} {kd i j : Int} {B : Prop} [Decidable B] (v : vf g kd) (h : 0 ≤ i ∧ i < j ∧ j ≤ g 0) : vf (vKl i j B kd g) 1 := by
  have r := v.1
  have key : ∀ h9 : Int → Int, vf h9 0 → 1 ≤ h9 3 → h9 10 + (g 0 - (j - i)) ≤ 200 → h9 0 = g 0 → ∀ y, vf (wu (vTk i j h9) 6 y) 1 := by
    intro h9 w w3 w10 w0 y
    refine (vf_tk (z := 6) w (by omega) (fun x hx => wu_n hx) (by omega)).k1 ⟨?_, ?_⟩
    · rw [wu_n (by omega), vTk_at (by omega) (by omega)]; exact w3
    · rw [wu_n (by omega), wu_n (by omega), vTk_at (by omega) (by omega), vTk_0]; omega
  unfold vKl
  by_cases q : kd = 1
  · rw [if_pos q]
    subst q
    have z := vf_grw (B := B) v h
    have k1 := v.2.1.2.2.2.2.1 rfl
    have h0 := v.2.1.1 0 (by omega) (by omega)
    rw [show (10 : Int) + 0 = 10 by omega] at h0
    exact key _ z.1 z.2.1 (by omega) (vGrw_at (by omega) (by omega)) _
  · rw [if_neg q]
    have z := vf_col v h
    exact key _ z.1 z.2.1 (by omega) (vCol_at (by omega) (by omega)) _
theorem vf_yk {g : Int → Int} {kd : Int} (v : vf g kd) (h : 0 < g 3 ∧ g 0 + nxL g ≤ 200) : vf (vYk g) 2 := by
  have r := v.1
  have r4 := v.2.1.2.2.1 h.1
  have rn : 1 ≤ nxL g ∧ nxL g ≤ 200 := v.2.1.1 (g 4) r4.1 r4.2
  have ef : ∀ x, x ≠ 1 → x ≠ 2 → x ≠ 7 → vYk g x = if 18 + g 1 ≤ x ∧ x < 18 + g 1 + nxL g then g (218 + 200 * g 4 + (x - 18 - g 1)) else vPar (nxL g) g x := fun x a b c => (wu_n c).trans ((wu_n a).trans (wu_n b))
  have e0 : vYk g 0 = g 0 + nxL g := by
    rw [ef 0 (by omega) (by omega) (by omega), if_neg (by omega)]
    exact (wu_n (by omega)).trans wu_s
  have e1 : vYk g 1 = g 1 + nxL g := (wu_n (by omega)).trans wu_s
  have e2 : vYk g 2 = g 1 := (wu_n (by omega)).trans ((wu_n (by omega)).trans wu_s)
  have ru : RU g (vYk g) := fun x hx => by
    rw [ef x (by omega) (by omega) (by omega), if_neg (by omega)]
    exact vPar_at (by omega) (by omega)
  refine (v.ru ru (by omega) (fun k k0 k1 => ?_)).k2 ⟨by rw [ru 3 (by omega)]; omega, by omega, by omega⟩
  rw [ef _ (by omega) (by omega) (by omega)]
  by_cases q : 18 + g 1 ≤ 18 + k ∧ 18 + k < 18 + g 1 + nxL g
  · rw [if_pos q]
    exact v.2.2.2 (g 4) (18 + k - 18 - g 1) r4.1 r4.2 (by omega) (by show _ < nxL g; omega)
  · rw [if_neg q]
    have e : vPar (nxL g) g (18 + k) = if 18 + g 1 + nxL g ≤ 18 + k ∧ 18 + k < 18 + g 0 + nxL g then g (18 + k - nxL g) else g (18 + k) := (wu_n (by omega)).trans (wu_n (by omega))
    rw [e]
    by_cases q1 : 18 + g 1 + nxL g ≤ 18 + k ∧ 18 + k < 18 + g 0 + nxL g
    · rw [if_pos q1, show 18 + k - nxL g = 18 + (k - nxL g) by omega]; exact v.2.2.1 (k - nxL g) (by omega) (by omega)
    · rw [if_neg q1]; exact v.2.2.1 k k0 (by omega)
theorem vf_tr {g : Int → Int} {kd z : Int} (v : vf g kd) (h : 0 < g 3) : vf (vTr z g) 0 := by
  have r := v.1
  have rt := trA_rg (z := z) (v := g) h
  have e : ∀ x, x ≠ 4 → vTr z g x = g x := fun x hx => wu_n hx
  have e4 : vTr z g 4 = trA z g := wu_s
  have e0 := e 0 (by omega)
  have e1 := e 1 (by omega)
  have e2 := e 2 (by omega)
  have e3 := e 3 (by omega)
  have e5 := e 5 (by omega)
  refine ⟨by omega, ⟨fun p p0 p1 => ?_, fun q => by omega, fun q => by omega, by omega, fun q => by omega, fun q => by omega⟩, fun k k0 k1 => ?_, fun p k p0 p1 k0 k1 => ?_⟩
  · rw [e _ (by omega)]; exact v.2.1.1 p p0 (by omega)
  · show 10 ≤ vTr z g (18 + k) ∧ vTr z g (18 + k) ≤ 126
    rw [e _ (by omega)]; exact v.2.2.1 k k0 (by omega)
  · rw [e _ (by omega)] at k1 ⊢
    exact v.2.2.2 p k p0 (by omega) k0 k1
theorem vf_yo {g : Int → Int} (v : vf g 2) (h : g 0 - (g 1 - g 2) + oyL g ≤ 200) : vf (vYo g) 2 := by
  have r := v.1
  have z2 := v.2.1.2.2.2.2.2 rfl
  have rt := trA_rg (z := 1) (v := g) (by omega)
  obtain ⟨w, hw⟩ : ∃ w, w = vTk (g 2) (g 1) g := ⟨_, rfl⟩
  have v1 : vf w 0 := vf_tk (z := 6) v (i := g 2) (j := g 1) (by omega) (fun x hx => by rw [hw]) (by omega)
  have h3 : w 3 = g 3 := by rw [hw]; exact vTk_at (by omega) (by omega)
  have h4 : w 4 = g 4 := by rw [hw]; exact vTk_at (by omega) (by omega)
  have hA : w (10 + trA 1 g) = g (10 + trA 1 g) := by rw [hw]; exact vTk_at (by omega) (by omega)
  have h0 : w 0 = g 0 - (g 1 - g 2) := by rw [hw]; exact vTk_0
  have etr : trA 1 w = trA 1 g := by unfold trA; rw [h3, h4]
  have v2 := vf_tr (z := 1) v1 (by omega)
  have eN : nxL (vTr 1 w) = oyL g := by
    unfold nxL
    rw [show vTr 1 w 4 = trA 1 g from wu_s.trans etr, show vTr 1 w (10 + trA 1 g) = w (10 + trA 1 g) from wu_n (by omega), hA]
    rfl
  have e0 : vTr 1 w 0 = w 0 := wu_n (by omega)
  have e3 : vTr 1 w 3 = w 3 := wu_n (by omega)
  have z := vf_yk v2 ⟨by omega, by omega⟩
  unfold vYo
  rw [← hw]
  exact z
theorem vf_to {g : Int → Int} {kd c : Int} {d : Nat} (v : vf g kd) (hd : d < 22) (hc : d = 21 → 10 ≤ c ∧ c ≤ 126) (h : dOk d kd g) : vf (dTo d c kd g) (dKn d) := by
  have r := v.1
  have rW := wS_rg (n := g 0) (f := fT g) (p := g 1) (by omega)
  have rB := wB_rg (n := g 0) (f := fT g) (p := g 1) (by omega)
  have rS := lB_rg (n := g 0) (f := fT g) (p := g 1) (by omega)
  have rE := lE_rg (n := g 0) (f := fT g) (p := g 1) (by omega)
  have rK : kLj g ≤ g 0 := by
    unfold kLj
    by_cases q : lE (g 0) (fT g) (g 1) = g 1 ∧ isE (g 0) (fT g) (g 1) = true
    · rw [if_pos q]
      have z := isE_iff.mp q.2
      by_cases q2 : g 1 < g 0
      · omega
      · rw [cdA_out (by omega)] at z; omega
    · rw [if_neg q]; omega
  have rm : mnI (g 2) (g 1) ≤ g 1 ∧ (g 2 ≠ -1 → 0 ≤ mnI (g 2) (g 1)) ∧ mxI (g 2) (g 1) ≤ g 0 := by unfold mxI mnI; split <;> split <;> omega
  match d, hd, hc, h with
  | 0, _, _, h => exact vf_go v h
  | 1, _, _, h => exact vf_go v h
  | 2, _, _, _ => exact vf_go v (by omega)
  | 3, _, _, _ => exact vf_go v (by omega)
  | 4, _, _, _ => exact vf_go v (by omega)
  | 5, _, _, _ => exact vf_go v (by omega)
  | 6, _, _, _ => exact vf_mk v
  | 7, _, _, h => exact vf_ex v h
  | 8, _, _, h => exact vf_kl v ⟨by omega, h, by omega⟩
  | 9, _, _, h => exact vf_kl v ⟨by omega, h, by omega⟩
  | 10, _, _, h => exact vf_kl v ⟨by omega, h, by omega⟩
  | 11, _, _, h => exact vf_kl v ⟨rm.2.1 h.1, h.2, rm.2.2⟩
  | 12, _, _, h => exact (vf_col v ⟨rm.2.1 h.1, h.2, rm.2.2⟩).1
  | 13, _, _, h => exact vf_yk v h
  | 14, _, _, h =>
    have h1 : kd = 2 := h.1
    have h2 : g 0 - (g 1 - g 2) + oyL g ≤ 200 := h.2
    subst h1
    exact vf_yo v h2
  | 15, _, _, h => exact vf_tr v h
  | 16, _, _, h => exact vf_rub v h
  | 17, _, _, h => exact vf_swp v h
  | 18, _, _, _ => exact vf_grt v
  | 19, _, _, h => exact vf_wr v h (by omega)
  | 20, _, _, h => exact vf_wr v h (by omega)
  | 21, _, hc, h => exact vf_wr v h (hc rfl)
  | _ + 22, h, _, _ => omega
/-- a state of the class is well formed -/
theorem stP.vf {L : List Nat} {F : Nat → PE} {sa : Nat → Nat} {v : Int → Int} {kd : Int} (t : stP L F sa v kd) : vf v kd := by
  have r := t.rg
  have i := t.iv
  have s := t.sc
  obtain ⟨π, hl, hf, w, q, tt, hS, hR, hh, -⟩ := t
  refine ⟨by omega, i, fun k k0 k1 => s.2.2.1.2.2.2.2 k k0 k1, fun p k p0 p1 k0 k1 => ?_⟩
  obtain ⟨h1, h2⟩ := hh p p0 p1
  rw [← h1] at k1
  rw [← h2 k k0 k1]
  exact (hR.tx p0 p1).2.2.2.2 k k0 k1
theorem glA_rg {g : Int → Int} {kd z : Int} (v : vf g kd) : -1 ≤ glA g z ∧ glA g z ≤ 200 := by
  have r := v.1
  have rl := lsO_rg (n := g 0) (f := fT g) (p := g 1) (z := z) (by omega) (by omega)
  have rb := lB_rg (n := g 0) (f := fT g) (p := g 1) (by omega)
  have re := lE_rg (n := g 0) (f := fT g) (p := lsO (g 0) (fT g) (g 1) z) rl.2
  unfold glA
  (repeat' split) <;> omega
theorem dr.mv {L : List Nat} {F F1 : Nat → PE} {K : Nat → Nat} {v : Int → Int} {kd sv n : Int} {H Q : Int → Int → Int} {kp bf : Int → Int} (t : dr L F K v kd sv H kp Q n bf) (h : ∀ b, b ∈ L → F1 b = F b) : dr L F1 K v kd sv H kp Q n bf := by
  obtain ⟨fi, W, D, hb, hl, hk⟩ := t
  refine ⟨fi, W, D, ?_, hl, hk⟩
  have iL := fun k (hk : k < 10) => hb.L hk
  obtain ⟨t1, t2, ⟨t3, t4⟩, ⟨r, t5, t6⟩, ⟨r2, t7, t8⟩, ⟨t9, t10⟩, t11, t12⟩ := hb
  have nk : ∀ i, i < 257 → F1 (K i) = F (K i) := fun i hi => h _ (t1.1 i hi)
  exact ⟨t1, (nk 0 (by omega)).trans t2, ⟨(nk 26 (by omega)).trans t3, t4⟩, ⟨r, (nk 27 (by omega)).trans t5, t6⟩, ⟨r2, (nk 203 (by omega)).trans t7, t8⟩, ⟨(nk 254 (by omega)).trans t9, t10⟩, t11.mv (nk 255 (by omega)) (nk 256 (by omega)), fun k hk => (t12 k hk).mv (fun i hi => h _ (iL k hk i hi))⟩
theorem dr.fx {L : List Nat} {F : Nat → PE} {K : Nat → Nat} {v : Int → Int} {kd sv n : Int} {H Q : Int → Int → Int} {kp bf : Int → Int} (t : dr L F K v kd sv H kp Q n bf) : vf v kd ∧ (0 ≤ sv ∧ sv ≤ 6) ∧ (0 ≤ n ∧ n ≤ 60) ∧ (∀ k, 0 ≤ k → k < n → 10 ≤ bf k ∧ bf k ≤ 126) ∧ ∀ s, (s = 0 ∨ s = 1) → kp s = 0 ∨ kp s = 1 := by
  have z := t.S.1.vf
  obtain ⟨fi, W, D, hb, hl, hk⟩ := t
  refine ⟨z, ⟨hb.2.2.1.2.2.2.1, hb.2.2.1.2.2.2.2⟩, hb.2.2.2.2.2.2.1.2.2.2.1, hb.2.2.2.2.2.2.1.2.2.2.2, fun s hs => ?_⟩
  rcases hs with rfl | rfl
  · exact hb.2.2.2.2.2.1.2.1
  · exact hb.2.2.2.2.2.1.2.2
theorem dAn_rg {v : Int → Int} {kd : Int} {d : Nat} (w : vf v kd) (hd : d < 22) (h : dOk d kd v) : 0 ≤ dAn d v ∧ dAn d v ≤ 1000 := by
  have r := w.1
  have rW := wS_rg (n := v 0) (f := fT v) (p := v 1) (by omega)
  have rB := wB_rg (n := v 0) (f := fT v) (p := v 1) (by omega)
  have rS := lB_rg (n := v 0) (f := fT v) (p := v 1) (by omega)
  have rE := lE_rg (n := v 0) (f := fT v) (p := v 1) (by omega)
  have rK : kLj v ≤ v 0 + 1 := by unfold kLj; split <;> omega
  have rG := grN_rg (v := v) (by omega)
  have rm : 0 ≤ mxI (v 2) (v 1) - mnI (v 2) (v 1) ∧ mxI (v 2) (v 1) - mnI (v 2) (v 1) ≤ 201 := by unfold mxI mnI; split <;> split <;> omega
  have rA : ∀ p, 0 ≤ p → p ≤ v 0 → 0 ≤ abI (p - v 1) ∧ abI (p - v 1) ≤ 1000 := fun p h0 h1 => by have := abI_rg (a := p) (b := v 1) (by omega); omega
  have rc : ∀ k, 0 ≤ k → k < v 0 → 10 ≤ v (18 + k) ∧ v (18 + k) ≤ 126 := w.2.2.1
  match d, hd, h with
  | 0, _, _ => show (0 : Int) ≤ 0 ∧ (0 : Int) ≤ 1000; omega
  | 1, _, _ => show (0 : Int) ≤ 0 ∧ (0 : Int) ≤ 1000; omega
  | 2, _, _ => exact rA _ (by omega) (by omega)
  | 3, _, _ => exact rA _ (by omega) (by omega)
  | 4, _, _ => exact rA _ (by omega) (by omega)
  | 5, _, _ => exact rA _ (by omega) (by omega)
  | 6, _, _ => show 0 ≤ v 1 ∧ v 1 ≤ 1000; omega
  | 7, _, h => have h : v 2 ≠ -1 := h; show 0 ≤ v 2 ∧ v 2 ≤ 1000; omega
  | 8, _, _ => show 0 ≤ wS (v 0) (fT v) (v 1) - v 1 ∧ wS (v 0) (fT v) (v 1) - v 1 ≤ 1000; omega
  | 9, _, _ => show 0 ≤ v 1 - wB (v 0) (fT v) (v 1) ∧ v 1 - wB (v 0) (fT v) (v 1) ≤ 1000; omega
  | 10, _, h => have h : v 1 < kLj v := h; show 0 ≤ kLj v - v 1 ∧ kLj v - v 1 ≤ 1000; omega
  | 11, _, _ => show 0 ≤ mxI (v 2) (v 1) - mnI (v 2) (v 1) ∧ mxI (v 2) (v 1) - mnI (v 2) (v 1) ≤ 1000; omega
  | 12, _, _ => show 0 ≤ mxI (v 2) (v 1) - mnI (v 2) (v 1) ∧ mxI (v 2) (v 1) - mnI (v 2) (v 1) ≤ 1000; omega
  | 13, _, h =>
    have h1 : 0 < v 3 := h.1
    have r4 := w.2.1.2.2.1 h1
    have rn : 1 ≤ nxL v ∧ nxL v ≤ 200 := w.2.1.1 (v 4) r4.1 r4.2
    show 0 ≤ nxL v ∧ nxL v ≤ 1000
    omega
  | 14, _, h =>
    have h1 : kd = 2 := h.1
    have z2 := w.2.1.2.2.2.2.2 h1
    have rt := trA_rg (z := 1) (v := v) (by omega)
    have ro : 1 ≤ oyL v ∧ oyL v ≤ 200 := w.2.1.1 (trA 1 v) rt.1 rt.2
    show 0 ≤ oyL v ∧ oyL v ≤ 1000
    omega
  | 15, _, _ => show (0 : Int) ≤ 0 ∧ (0 : Int) ≤ 1000; omega
  | 16, _, h =>
    have h : 0 < v 1 := h
    have c := rc (v 1 - 1) (by omega) (by omega)
    show 0 ≤ v (18 + (v 1 - 1)) ∧ v (18 + (v 1 - 1)) ≤ 1000
    omega
  | 17, _, h =>
    have h : 0 < v 1 ∧ v 1 < v 0 := h
    have c := rc (v 1 - 1) (by omega) (by omega)
    rw [show 18 + (v 1 - 1) = 18 + v 1 - 1 by omega] at c
    show 0 ≤ v (18 + v 1 - 1) ∧ v (18 + v 1 - 1) ≤ 1000
    omega
  | 18, _, _ => show 0 ≤ grN v ∧ grN v ≤ 1000; omega
  | 19, _, _ => show (0 : Int) ≤ 0 ∧ (0 : Int) ≤ 1000; omega
  | 20, _, _ => show (0 : Int) ≤ 0 ∧ (0 : Int) ≤ 1000; omega
  | 21, _, _ => show (0 : Int) ≤ 0 ∧ (0 : Int) ≤ 1000; omega
  | _ + 22, h, _ => omega
theorem rnF_rg {bf : Int → Int} {n : Int} : ∀ (m : Nat) (a : Int) (v : Int → Int) (kd c : Int) (w : Int → Int) (k1 c1 : Int), rnF bf n m a v kd c = some (w, k1, c1) → c ≤ c1 ∧ c1 ≤ c + 9 * m := by
  intro m
  induction m with
  | zero =>
    intro a v kd c w k1 c1 h
    have h : some (v, kd, c) = some (w, k1, c1) := h
    have e := congrArg (fun z => z.2.2) (Option.some.inj h)
    have e : c = c1 := e
    omega
  | succ m ih =>
    intro a v kd c w k1 c1 h
    have h : (if a < n then (rpF (lix (bf (pA1 bf n a))) (pSg bf n a) (pTm bf n a).toNat v kd).bind (fun w => rnF bf n m (pE bf n a) w.1 w.2 (c + pTm bf n a)) else some (v, kd, c)) = some (w, k1, c1) := h
    by_cases q : a < n
    · rw [if_pos q] at h
      rcases hr : rpF (lix (bf (pA1 bf n a))) (pSg bf n a) (pTm bf n a).toNat v kd with _ | z
      · rw [hr] at h; cases h
      · rw [hr] at h
        have y := ih _ _ _ _ _ _ _ h
        have t : 1 ≤ pTm bf n a ∧ pTm bf n a ≤ 9 := by unfold pTm; split <;> omega
        omega
    · rw [if_neg q] at h
      have e := congrArg (fun z => z.2.2) (Option.some.inj h)
      have e : c = c1 := e
      omega
