/-! THE CLASS AND THE MODEL SIDE BY SIDE. -/
def ag (v w : Int → Int) : Prop := ∀ y, 0 ≤ y → y < 1818 → v y = w y
theorem ag.rf {v : Int → Int} : ag v v := fun _ _ _ => rfl
theorem ag.sy {v w : Int → Int} (h : ag v w) : ag w v := fun y a b => (h y a b).symm
theorem stP.cg {L : List Nat} {F : Nat → PE} {sa : Nat → Nat} {v w : Int → Int} {kd : Int} (t : stP L F sa v kd) (h : ag v w) : stP L F sa w kd := by
  have r := t.rg
  have i := t.iv
  have e0 := h 0 (by omega) (by omega)
  have e1 := h 1 (by omega) (by omega)
  have e2 := h 2 (by omega) (by omega)
  have e3 := h 3 (by omega) (by omega)
  have e4 := h 4 (by omega) (by omega)
  have e5 := h 5 (by omega) (by omega)
  have e6 := h 6 (by omega) (by omega)
  have e7 := h 7 (by omega) (by omega)
  have e8 := h 8 (by omega) (by omega)
  have e9 := h 9 (by omega) (by omega)
  have e10 := h 10 (by omega) (by omega)
  obtain ⟨π, hl, hf, ww, q, tt, hS, hR, hh, hA, he, hO, hi⟩ := t
  have en : nxA w = nxA v := by unfold nxA; rw [e3, e4]
  refine ⟨π, hl, hf, ww, q, tt, ?_, ?_, fun p p0 p1 => ?_, ?_, ?_, hO, ?_⟩
  · rw [← e0, ← e1, ← e2]
    exact hS.cg (fun k k0 k1 => h (18 + k) (by omega) (by omega))
  · rw [← e3, ← e5, en]; exact hR
  · rw [← e3] at p1
    obtain ⟨h1, h2⟩ := hh p p0 p1
    have b := i.1 p p0 p1
    refine ⟨by rw [← h (10 + p) (by omega) (by omega)]; exact h1, fun k k0 k1 => ?_⟩
    rw [← h (218 + 200 * p + k) (by omega) (by omega)]
    exact h2 k k0 k1
  · rw [← e6, ← e7, ← e9]; exact hA
  · rw [← e0, ← e6, ← e7, ← e8]; exact he
  · refine ⟨fun p p0 p1 => ?_, fun z => ?_, fun z => ?_, i.2.2.2.1, fun z => ?_, fun z => ?_⟩
    · rw [← e3] at p1
      rw [← h (10 + p) (by omega) (by omega)]
      exact i.1 p p0 p1
    · have := i.2.1; omega
    · have := i.2.2.1; omega
    · have := i.2.2.2.2.1 z; omega
    · have := i.2.2.2.2.2 z; omega
theorem dr.mv {L : List Nat} {F F1 : Nat → PE} {K : Nat → Nat} {v : Int → Int} {kd sv n : Int} {H Q : Int → Int → Int} {kp bf : Int → Int} (t : dr L F K v kd sv H kp Q n bf) (h : ∀ b, b ∈ L → F1 b = F b) : dr L F1 K v kd sv H kp Q n bf := by
  obtain ⟨fi, W, D, hb, hl, hk⟩ := t
  refine ⟨fi, W, D, ?_, hl, hk⟩
  have iL := fun k (hk : k < 10) => hb.L hk
  obtain ⟨t1, t2, ⟨t3, t4⟩, ⟨r, t5, t6⟩, ⟨r2, t7, t8⟩, ⟨t9, t10⟩, t11, t12⟩ := hb
  have nk : ∀ i, i < 257 → F1 (K i) = F (K i) := fun i hi => h _ (t1.1 i hi)
  exact ⟨t1, (nk 0 (by omega)).trans t2, ⟨(nk 26 (by omega)).trans t3, t4⟩, ⟨r, (nk 27 (by omega)).trans t5, t6⟩, ⟨r2, (nk 203 (by omega)).trans t7, t8⟩, ⟨(nk 254 (by omega)).trans t9, t10⟩, t11.mv (nk 255 (by omega)) (nk 256 (by omega)), fun k hk => (t12 k hk).mv (fun i hi => h _ (iL k hk i hi))⟩
theorem dr.cg {L : List Nat} {F : Nat → PE} {K : Nat → Nat} {v v1 : Int → Int} {kd sv n : Int} {H Q H1 Q1 : Int → Int → Int} {kp bf : Int → Int} (t : dr L F K v kd sv H kp Q n bf) (hv : ag v v1) (hH : ∀ j, 1 ≤ j → j ≤ sv → ag (H j) (H1 j)) (hQ : ∀ s, (s = 0 ∨ s = 1) → kp s = 1 → ag (Q s) (Q1 s)) : dr L F K v1 kd sv H1 kp Q1 n bf := by
  obtain ⟨fi, W, D, hb, ⟨l1, l2, l3⟩, hk⟩ := t
  obtain ⟨t1, t2, ⟨t3, t4⟩, t5, t6, t7, t8, t9⟩ := hb
  have jj : ∀ i : Nat, 1 ≤ i → i < 8 → 1 ≤ ((i : Int) - 1 - fi) % 7 + 1 ∧ ((i : Int) - 1 - fi) % 7 + 1 ≤ 7 ∧ ro (fi + (((i : Int) - 1 - fi) % 7 + 1) - 1) = i := by
    intro i i1 i2
    unfold ro
    omega
  refine ⟨fi, fun i => if i = 0 then v1 else if i < 8 then (if ((i : Int) - 1 - fi) % 7 + 1 ≤ sv then H1 (((i : Int) - 1 - fi) % 7 + 1) else W i) else (if kp ((i : Int) - 8) = 1 then Q1 ((i : Int) - 8) else W i), D, ⟨t1, t2, ⟨t3, t4⟩, t5, t6, t7, t8, fun k hk10 => ?_⟩, ⟨if_pos rfl, fun j j1 j2 => ?_, fun s s1 s2 => ?_⟩, hk⟩
  · have z := t9 k hk10
    by_cases q0 : k = 0
    · subst q0
      rw [l1] at z
      exact z.cg hv
    · show stP L F (sK K k) (if k = 0 then v1 else _) (D k)
      rw [if_neg q0]
      by_cases q1 : k < 8
      · rw [if_pos q1]
        by_cases q2 : ((k : Int) - 1 - fi) % 7 + 1 ≤ sv
        · rw [if_pos q2]
          have w := jj k (by omega) q1
          have y := l2 (((k : Int) - 1 - fi) % 7 + 1) w.1 q2
          rw [w.2.2] at y
          rw [y] at z
          exact z.cg (hH _ w.1 q2)
        · rw [if_neg q2]; exact z
      · rw [if_neg q1]
        by_cases q2 : kp ((k : Int) - 8) = 1
        · rw [if_pos q2]
          have y := l3 ((k : Int) - 8) (by omega) q2
          rw [show 8 + ((k : Int) - 8).toNat = k by omega] at y
          rw [y] at z
          exact z.cg (hQ _ (by omega) q2)
        · rw [if_neg q2]; exact z
  · have w := ro_rg (i := fi + j - 1)
    have e : (((ro (fi + j - 1) : Nat) : Int) - 1 - fi) % 7 + 1 = j := by unfold ro; omega
    show (if ro (fi + j - 1) = 0 then v1 else _) = _
    rw [if_neg (by omega), if_pos w.2, e, if_pos j2]
  · show (if 8 + s.toNat = 0 then v1 else if 8 + s.toNat < 8 then _ else _) = _
    rw [if_neg (by omega), if_neg (by omega), show ((8 + s.toNat : Nat) : Int) - 8 = s by omega, if_pos s2]
theorem dr.fx {L : List Nat} {F : Nat → PE} {K : Nat → Nat} {v : Int → Int} {kd sv n : Int} {H Q : Int → Int → Int} {kp bf : Int → Int} (t : dr L F K v kd sv H kp Q n bf) : vf v kd ∧ (0 ≤ sv ∧ sv ≤ 6) ∧ (0 ≤ n ∧ n ≤ 60) ∧ (∀ k, 0 ≤ k → k < n → 10 ≤ bf k ∧ bf k ≤ 126) ∧ ∀ s, (s = 0 ∨ s = 1) → kp s = 0 ∨ kp s = 1 := by
  have z := t.S.1.vf
  obtain ⟨fi, W, D, hb, hl, hk⟩ := t
  refine ⟨z, ⟨hb.2.2.1.2.2.2.1, hb.2.2.1.2.2.2.2⟩, hb.2.2.2.2.2.2.1.2.2.2.1, hb.2.2.2.2.2.2.1.2.2.2.2, fun s hs => ?_⟩
  rcases hs with rfl | rfl
  · exact hb.2.2.2.2.2.1.2.1
  · exact hb.2.2.2.2.2.1.2.2
def sH (g : Int → Int) : Int → Int → Int := fun j y => g (1818 * j + y)
def sQ (g : Int → Int) : Int → Int → Int := fun s y => g (1818 * (7 + s) + y)
/-- the class shows what the model's row of numbers holds -/
def dg (L : List Nat) (F : Nat → PE) (K : Nat → Nat) (g : Int → Int) (kd sv : Int) (kp : Int → Int) (n : Int) (bf : Int → Int) : Prop := dr L F K g kd sv (sH g) kp (sQ g) n bf
theorem ag_cpy {g : Int → Int} {i j : Int} (h : 1 ≤ j) : ag g (cpy g i j) := fun y y0 y1 => by unfold cpy cpK; rw [if_neg (by omega)]
theorem dg.eq {L : List Nat} {F : Nat → PE} {K : Nat → Nat} {g g1 : Int → Int} {kd sv n : Int} {kp bf : Int → Int} (t : dg L F K g kd sv kp n bf) (h : ∀ w, 0 ≤ w → w < 16362 → g1 w = g w) : dg L F K g1 kd sv kp n bf := by
  have f := dr.fx t
  exact dr.cg t (fun y y0 y1 => (h y y0 (by omega)).symm) (fun j j1 j2 y y0 y1 => (h (1818 * j + y) (by omega) (by omega)).symm) (fun s hs _ y y0 y1 => (h (1818 * (7 + s) + y) (by omega) (by omega)).symm)
theorem dg.pre {L : List Nat} {F : Nat → PE} {K : Nat → Nat} {g : Int → Int} {kd sv n : Int} {kp bf : Int → Int} (t : dg L F K g kd sv kp n bf) : dr L F K (cpy g 0 9) kd sv (sH g) kp (sQ g) n bf :=
  dr.cg t (ag_cpy (by omega)) (fun _ _ _ => ag.rf) (fun _ _ _ => ag.rf)
/-- saved behind a deed: the state of before stood at the slot 9 -/
theorem dg.rem {L : List Nat} {F : Nat → PE} {K : Nat → Nat} {g N g2 : Int → Int} {kd sv n : Int} {kp bf : Int → Int} (hs : 0 ≤ sv ∧ sv ≤ 6) (t : dr L F K N kd (hN sv) (hS sv (sH g) (cpy g 0 9)) kp (sQ g) n bf) (hNz : ∀ z, 1818 ≤ z → N z = cpy g 0 9 z) (h : svP 9 sv N g2) : dg L F K g2 kd (hN sv) kp n bf := by
  have c9 : ∀ y, 0 ≤ y → y < 1818 → cpy g 0 9 (1818 * 9 + y) = g y := fun y y0 y1 => (if_pos (by omega)).trans (by congr 1; omega)
  have cg : ∀ z, z < 16362 → cpy g 0 9 z = g z := fun z hz => if_neg (by omega)
  have hn := dr.fx t
  have hr : hN sv ≤ 6 := by unfold hN; split <;> omega
  refine dr.cg t (fun y y0 y1 => (h.1 y y0 y1).symm) (fun j j1 j2 y y0 y1 => ?_) (fun s hs' _ y y0 y1 => ?_)
  · show hS sv (sH g) (cpy g 0 9) j y = g2 (1818 * j + y)
    rw [h.2.1 j y j1 j2 y0 y1]
    unfold hN at j2 ⊢
    unfold hS
    by_cases q : sv < 6
    · rw [if_pos q] at j2
      rw [if_pos q, if_pos q]
      by_cases q2 : j = sv + 1
      · rw [if_pos q2, if_pos q2, hNz _ (by omega), c9 y y0 y1, cg y (by omega)]
      · rw [if_neg q2, if_neg q2, if_pos q, hNz _ (by omega), cg _ (by omega)]; rfl
    · rw [if_neg q] at j2
      rw [if_neg q, if_neg q]
      by_cases q2 : j = 6
      · rw [if_pos q2, if_pos q2, hNz _ (by omega), c9 y y0 y1, cg y (by omega)]
      · rw [if_neg q2, if_neg q2, if_neg q, hNz _ (by omega), cg _ (by omega)]; rfl
  · show g (1818 * (7 + s) + y) = g2 (1818 * (7 + s) + y)
    rw [h.2.2 _ (by omega), hNz _ (by omega), cg _ (by omega)]
/-- saved ahead of a deed -/
theorem dg.sav {L : List Nat} {F : Nat → PE} {K : Nat → Nat} {g N N1 h : Int → Int} {kd sv n : Int} {kp bf : Int → Int} (hs : 0 ≤ sv ∧ sv ≤ 6) (t : dr L F K N kd (hN sv) (hS sv (sH g) g) kp (sQ g) n bf) (hv : svP 0 sv g h) (hNz : ∀ z, 1818 ≤ z → N1 z = h z) (ha : ag N N1) : dg L F K N1 kd (hN sv) kp n bf := by
  have hr : hN sv ≤ 6 := by unfold hN; split <;> omega
  refine dr.cg t ha (fun j j1 j2 y y0 y1 => ?_) (fun s hs' _ y y0 y1 => ?_)
  · show hS sv (sH g) g j y = N1 (1818 * j + y)
    rw [hNz _ (by omega), hv.2.1 j y j1 j2 y0 y1]
    unfold hN at j2 ⊢
    unfold hS
    by_cases q : sv < 6
    · rw [if_pos q] at j2
      rw [if_pos q, if_pos q]
      by_cases q2 : j = sv + 1
      · rw [if_pos q2, if_pos q2]; congr 1; omega
      · rw [if_neg q2, if_neg q2, if_pos q]; rfl
    · rw [if_neg q] at j2
      rw [if_neg q, if_neg q]
      by_cases q2 : j = 6
      · rw [if_pos q2, if_pos q2]; congr 1; omega
      · rw [if_neg q2, if_neg q2, if_neg q]; rfl
  · show g (1818 * (7 + s) + y) = N1 (1818 * (7 + s) + y)
    rw [hNz _ (by omega), hv.2.2 _ (by omega)]
theorem dg.undo {L : List Nat} {F : Nat → PE} {K : Nat → Nat} {g : Int → Int} {sv n : Int} {kp bf : Int → Int} (hs : 0 < sv ∧ sv ≤ 6) (t : dr L F K (sH g sv) 0 (sv - 1) (sH g) kp (sQ g) n bf) : dg L F K (cpy g sv 0) 0 (sv - 1) kp n bf := by
  have cg : ∀ z, 1818 ≤ z → cpy g sv 0 z = g z := fun z hz => if_neg (by omega)
  exact dr.cg t (fun y y0 y1 => ((if_pos (by omega)).trans (by show g _ = g _; congr 1; omega) : cpy g sv 0 y = sH g sv y).symm) (fun j j1 j2 y y0 y1 => (cg _ (by omega)).symm) (fun s hs' _ y y0 y1 => (cg _ (by omega)).symm)
theorem dg.keep {L : List Nat} {F : Nat → PE} {K : Nat → Nat} {g : Int → Int} {kd sv n y : Int} {kp bf : Int → Int} (hs : 0 ≤ sv ∧ sv ≤ 6) (hy : 0 ≤ y ∧ y ≤ 1) (t : dr L F K g kd sv (sH g) (wu kp y 1) (wu (sQ g) y g) n bf) : dg L F K (cpy g 0 (7 + y)) kd sv (wu kp y 1) n bf := by
  refine dr.cg t (ag_cpy (by omega)) (fun j j1 j2 z z0 z1 => ?_) (fun s hs' _ z z0 z1 => ?_)
  · exact (if_neg (by omega) : cpy g 0 (7 + y) (1818 * j + z) = g (1818 * j + z)).symm
  · show wu (sQ g) y g s z = cpy g 0 (7 + y) (1818 * (7 + s) + z)
    by_cases q : s = y
    · rw [q, wu_s]
      exact ((if_pos (by omega)).trans (by congr 1; omega) : cpy g 0 (7 + y) (1818 * (7 + y) + z) = g z).symm
    · rw [wu_n q]
      exact (if_neg (by omega) : cpy g 0 (7 + y) (1818 * (7 + s) + z) = g (1818 * (7 + s) + z)).symm
theorem dg.back {L : List Nat} {F : Nat → PE} {K : Nat → Nat} {g h : Int → Int} {sv n y : Int} {kp bf : Int → Int} (hs : 0 ≤ sv ∧ sv ≤ 6) (hy : 0 ≤ y ∧ y ≤ 1) (t : dr L F K (sQ g y) 0 (hN sv) (hS sv (sH g) g) kp (sQ g) n bf) (hv : svP 0 sv g h) : dg L F K (cpy h (7 + y) 0) 0 (hN sv) kp n bf :=
  dg.sav hs t hv (fun z hz => if_neg (by omega)) (fun z z0 z1 => ((if_pos (by omega)).trans (by rw [show z - 1818 * 0 + 1818 * (7 + y) = 1818 * (7 + y) + z by omega, hv.2.2 _ (by omega)]; rfl) : cpy h (7 + y) 0 z = sQ g y z).symm)
theorem ag_go {g h : Int → Int} {q : Int} (e : ag g h) : ag (vGo q g) (vGo q h) := fun y y0 y1 => by
  unfold vGo wu
  by_cases c : y = 1
  · rw [if_pos c, if_pos c]
  · rw [if_neg c, if_neg c]; exact e y y0 y1
theorem ag_tr {g h : Int → Int} {z : Int} (e : ag g h) : ag (vTr z g) (vTr z h) := fun y y0 y1 => by
  unfold vTr wu trA
  rw [e 3 (by omega) (by omega), e 4 (by omega) (by omega)]
  by_cases c : y = 4
  · rw [if_pos c, if_pos c]
  · rw [if_neg c, if_neg c]; exact e y y0 y1
theorem ag_wu {g h : Int → Int} {k z : Int} (e : ag g h) : ag (wu g k z) (wu h k z) := fun y y0 y1 => by
  unfold wu
  by_cases c : y = k
  · rw [if_pos c, if_pos c]
  · rw [if_neg c, if_neg c]; exact e y y0 y1
theorem ag_cc {g h : Int → Int} {z : Int} (e : ag g h) : ag (vCC z g) (vCC z h) := by
  unfold vCC
  rw [e 3 (by omega) (by omega), e 9 (by omega) (by omega), e 4 (by omega) (by omega)]
  by_cases c : z < h 3
  · rw [if_pos c, if_pos c]
    exact ag_wu (ag_wu (ag_wu (ag_wu e)))
  · rw [if_neg c, if_neg c]
    exact ag_wu e
theorem ag_wr {g h : Int → Int} {c : Int} (e : ag g h) (r : 0 ≤ g 0 ∧ g 0 ≤ 200 ∧ 0 ≤ g 1) : ag (vWr c g) (vWr c h) := by
  unfold vWr vPar
  rw [e 0 (by omega) (by omega), e 1 (by omega) (by omega), e 2 (by omega) (by omega), e 8 (by omega) (by omega)]
  refine ag_wu (ag_wu (ag_wu (ag_wu (ag_wu (fun y y0 y1 => ?_)))))
  unfold shR
  rw [e 0 (by omega) (by omega), e 1 (by omega) (by omega)]
  have e0 := e 0 (by omega) (by omega)
  have e1 := e 1 (by omega) (by omega)
  by_cases q : 18 + h 1 + 1 ≤ y ∧ y < 18 + h 0 + 1
  · rw [if_pos q, if_pos q]; exact e _ (by omega) (by omega)
  · rw [if_neg q, if_neg q]; exact e y y0 y1
theorem hi_go {h : Int → Int} {q z : Int} (hz : 1818 ≤ z) : vGo q h z = h z := wu_n (by omega)
theorem hi_tr {h : Int → Int} {q z : Int} (hz : 1818 ≤ z) : vTr q h z = h z := wu_n (by omega)
theorem hi_cc {h : Int → Int} {q z : Int} (hz : 1818 ≤ z) : vCC q h z = h z := by
  unfold vCC
  by_cases c : q < h 3
  · rw [if_pos c]; exact (wu_n (by omega)).trans ((wu_n (by omega)).trans ((wu_n (by omega)).trans (wu_n (by omega))))
  · rw [if_neg c]; exact wu_n (by omega)
theorem hi_wr {h : Int → Int} {c z : Int} (r : 0 ≤ h 0 ∧ h 0 ≤ 200 ∧ 0 ≤ h 1 ∧ h 1 ≤ h 0) (hz : 1818 ≤ z) : vWr c h z = h z := (by unfold vWr vPar shR wu; (try dsimp only); (repeat (first | rw [if_pos (by omega)] | rw [if_neg (by omega)])); (first | done | rfl | (congr 1; omega) | (split <;> omega)))

