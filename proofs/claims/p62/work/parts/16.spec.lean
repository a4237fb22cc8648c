/-! WHAT A STATE IS, as numbers by their places (v: 0 length, 1 point, 2 mark, 3 hoards, 4 next, 5 caves, 6 killed, 7 yanked, 8 written, 9 lost, 10.. lengths of hoards, 18.. characters, 218 + 200 i .. hoard i), and what each deed makes of it. -/
def fT (v : Int → Int) : Int → Int := fun k => v (18 + k)
def shR (v : Int → Int) (m : Int) : Int → Int := fun x => if 18 + v 1 + m ≤ x ∧ x < 18 + v 0 + m then v (x - m) else v x
def vPar (m : Int) (v : Int → Int) : Int → Int := wu (wu (shR v m) 0 (v 0 + m)) 2 (v 2 + if v 1 < v 2 then m else 0)
def vWr (x : Int) (v : Int → Int) : Int → Int := wu (wu (wu (vPar 1 v) (18 + v 1) x) 1 (v 1 + 1)) 8 (v 8 + 1)
def shL (v : Int → Int) (i j : Int) : Int → Int := fun x => if 18 + i ≤ x ∧ x < 18 + v 0 - (j - i) then v (x + (j - i)) else v x
def vTk (i j : Int) (v : Int → Int) : Int → Int := wu (wu (wu (shL v i j) 0 (v 0 - (j - i))) 1 (mvA (v 1) i j)) 2 (mvA (v 2) i j)
def vRub (v : Int → Int) : Int → Int := wu (vTk (v 1 - 1) (v 1) v) 8 (v 8 + 1)
def vSwp (v : Int → Int) : Int → Int := wu (wu (wu v (18 + v 1 - 1) (v (18 + v 1))) (18 + v 1) (v (18 + v 1 - 1))) 1 (v 1 + 1)
def vGrT (v : Int → Int) (to : Int) : Int → Int := fun x => if 18 + v 1 ≤ x ∧ x < 18 + to ∧ smC (v x) = true then v x - 32 else v x
def vGrt (v : Int → Int) : Int → Int := wu (vGrT v (wS (v 0) (fT v) (v 1))) 1 (wS (v 0) (fT v) (v 1))
def grN (v : Int → Int) : Int := cn (fun k => smC (fT v k)) (wS (v 0) (fT v) (v 1)).toNat - cn (fun k => smC (fT v k)) (v 1).toNat
def vGo (q : Int) (v : Int → Int) : Int → Int := wu v 1 q
def vMk (v : Int → Int) : Int → Int := wu v 2 (v 1)
def vEx (v : Int → Int) : Int → Int := wu (wu v 2 (v 1)) 1 (v 2)
/-- a new hoard of the characters from i up to j -/
def fuA (v : Int → Int) : Int := if v 3 = v 5 then 1 else 0
def vCol1 (v : Int → Int) : Int → Int := wu (wu v 3 (v 3 + (1 - fuA v))) 9 (v 9 + fuA v)
def vCol2 (v : Int → Int) (z : Int) : Int → Int := fun x =>
  if 10 < x ∧ x ≤ 10 + z then v (x - 1) else if 418 ≤ x ∧ x < 418 + 200 * z ∧ (x - 218) % 200 < v (9 + (x - 218) / 200) then v (x - 200) else v x
def vCol (i j : Int) (v : Int → Int) : Int → Int :=
  wu (fun x => if 218 ≤ x ∧ x < 218 + (j - i) then v (18 + i + (x - 218)) else wu (vCol2 (vCol1 v) (v 3 - fuA v)) 10 (j - i) x) 4 0
/-- the latest hoard grows -/
def vGrw (i j : Int) (ah : Prop) [Decidable ah] (v : Int → Int) : Int → Int :=
  wu (wu (fun x => if 218 + (if ah then 0 else v 10) ≤ x ∧ x < 218 + (if ah then 0 else v 10) + (j - i) then v (18 + i + (x - 218 - (if ah then 0 else v 10)))
    else if ah ∧ 218 + (j - i) ≤ x ∧ x < 218 + (j - i) + v 10 then v (x - (j - i)) else v x) 10 (v 10 + (j - i))) 4 0
def vKl (i j : Int) (ah : Prop) [Decidable ah] (kd : Int) (v : Int → Int) : Int → Int := wu (vTk i j (if kd = 1 then vGrw i j ah v else vCol i j v)) 6 (v 6 + (j - i))
def nxL (v : Int → Int) : Int := v (10 + v 4)
def vYk (v : Int → Int) : Int → Int :=
  wu (wu (wu (fun x => if 18 + v 1 ≤ x ∧ x < 18 + v 1 + nxL v then v (218 + 200 * v 4 + (x - 18 - v 1)) else vPar (nxL v) v x) 2 (v 1)) 1 (v 1 + nxL v)) 7 (v 7 + nxL v)
def trA (z : Int) (v : Int → Int) : Int := (v 4 + z + 40 * v 3) % v 3
def vTr (z : Int) (v : Int → Int) : Int → Int := wu v 4 (trA z v)
def vYo (v : Int → Int) : Int → Int := vYk (vTr 1 (vTk (v 2) (v 1) v))
def vCC (z : Int) (v : Int → Int) : Int → Int := if z < v 3 then wu (wu (wu (wu v 5 z) 9 (v 9 + (v 3 - z))) 3 z) 4 (if v 4 < z then v 4 else 0) else wu v 5 z
def glA (v : Int → Int) (z : Int) : Int := if lsO (v 0) (fT v) (v 1) z = -1 then -1 else
  (if lE (v 0) (fT v) (lsO (v 0) (fT v) (v 1) z) < lsO (v 0) (fT v) (v 1) z + (v 1 - lB (v 0) (fT v) (v 1)) then lE (v 0) (fT v) (lsO (v 0) (fT v) (v 1) z) else lsO (v 0) (fT v) (v 1) z + (v 1 - lB (v 0) (fT v) (v 1)))
def kLj (v : Int → Int) : Int := if lE (v 0) (fT v) (v 1) = v 1 ∧ isE (v 0) (fT v) (v 1) = true then v 1 + 1 else lE (v 0) (fT v) (v 1)
def mnI (a b : Int) : Int := if b < a then b else a
def mxI (a b : Int) : Int := if a < b then b else a
/-- what holds of every state -/
def iv (v : Int → Int) (kd : Int) : Prop :=
  (∀ i, 0 ≤ i → i < v 3 → 1 ≤ v (10 + i) ∧ v (10 + i) ≤ 200) ∧ (v 3 = 0 → v 4 = 0) ∧ (0 < v 3 → 0 ≤ v 4 ∧ v 4 < v 3) ∧ (0 ≤ kd ∧ kd ≤ 2) ∧ (kd = 1 → 1 ≤ v 3 ∧ v 10 + v 0 ≤ 200) ∧ (kd = 2 → 1 ≤ v 3 ∧ 0 ≤ v 2 ∧ v 2 ≤ v 1)
theorem iv.k0 {v : Int → Int} {kd : Int} (h : iv v kd) : iv v 0 := ⟨h.1, h.2.1, h.2.2.1, by omega, fun q => by omega, fun q => by omega⟩
def nxA (v : Int → Int) : Int := if v 3 = 0 then -1 else v 4
/-- the cells of a state: sa 0 itself, 1 2 3 the scroll, 4 .. 7, 9 .. 24 the ring, 8 the accounts -/
def stP (L : List Nat) (F : Nat → PE) (sa : Nat → Nat) (v : Int → Int) (kd : Int) : Prop :=
  ∃ (π : Int → Nat) (hl : Int → Int) (hf : Int → Int → Int) (w r t : Int),
    sc L F (sa 1) (sa 2) (sa 3) (v 0) (v 1) (v 2) (fT v) ∧ rgQ L F sa π (v 3) (v 5) (nxA v) hl hf ∧
    (∀ i, 0 ≤ i → i < v 3 → hl i = v (10 + i) ∧ ∀ k, 0 ≤ k → k < hl i → hf i k = v (218 + 200 * i + k)) ∧
    F (sa 8) = eO 0 [.int (iI w), .int (iI r), .int (iI (v 6)), .int (iI (v 7)), .int (iI t), .int (iI (v 9))] ∧ (v 8 = w + r ∧ v 0 = w + v 7 - v 6 - r - t) ∧
    F (sa 0) = eO 5 [.ref (sa 1), .ref (sa 4), .ref (sa 8), .int (iI kd)] ∧ iv v kd
def fS (sa : Nat → Nat) (F F1 : Nat → PE) : Prop := ∀ b, (∀ i, i < 25 → b ≠ sa i) → F1 b = F b
theorem fS.rf {sa : Nat → Nat} {F : Nat → PE} : fS sa F F := fun _ _ => rfl
theorem fS.tr {sa : Nat → Nat} {F F1 F2 : Nat → PE} (h : fS sa F F1) (h2 : fS sa F1 F2) : fS sa F F2 := fun b hb => (h2 b hb).trans (h b hb)
theorem f3 {sa : Nat → Nat} {F F1 : Nat → PE} (hj : ij sa) (h : ∀ b, b ≠ sa 1 → b ≠ sa 2 → b ≠ sa 3 → F1 b = F b) {i : Nat} (hi : i < 25) (n : i ≠ 1 ∧ i ≠ 2 ∧ i ≠ 3) : F1 (sa i) = F (sa i) := h _ (hj.ne hi (by omega) n.1) (hj.ne hi (by omega) n.2.1) (hj.ne hi (by omega) n.2.2)
theorem f1 {sa : Nat → Nat} {F F1 : Nat → PE} (hj : ij sa) {j : Nat} (hjj : j < 25) (h : ∀ b, b ≠ sa j → F1 b = F b) {i : Nat} (hi : i < 25) (n : i ≠ j) : F1 (sa i) = F (sa i) := h _ (hj.ne hi hjj n)
theorem f4 {sa : Nat → Nat} {F F1 : Nat → PE} (hj : ij sa) (h : fR sa F F1) {i : Nat} (hi : i < 4 ∨ i = 8) : F1 (sa i) = F (sa i) := h _ (fun j h4 h25 h8 => hj.ne (by omega) h25 (by omega))
theorem s3 {sa : Nat → Nat} {F F1 : Nat → PE} (h : ∀ b, b ≠ sa 1 → b ≠ sa 2 → b ≠ sa 3 → F1 b = F b) : fS sa F F1 := fun b hb => h b (hb 1 (by omega)) (hb 2 (by omega)) (hb 3 (by omega))
theorem s1 {sa : Nat → Nat} {F F1 : Nat → PE} {j : Nat} (hjj : j < 25) (h : ∀ b, b ≠ sa j → F1 b = F b) : fS sa F F1 := fun b hb => h b (hb j hjj)
theorem s4 {sa : Nat → Nat} {F F1 : Nat → PE} (h : fR sa F F1) : fS sa F F1 := fun b hb => h b (fun i _ h25 _ => hb i h25)
theorem sc.m1 {L : List Nat} {F F1 : Nat → PE} {sa : Nat → Nat} {n p mk : Int} {f : Int → Int} (hj : ij sa) {j : Nat} (hjj : j < 25) (n1 : j ≠ 1 ∧ j ≠ 2 ∧ j ≠ 3) (t : sc L F (sa 1) (sa 2) (sa 3) n p mk f) (h : ∀ b, b ≠ sa j → F1 b = F b) : sc L F1 (sa 1) (sa 2) (sa 3) n p mk f := t.mv (f1 hj hjj h (by omega) (Ne.symm n1.1)) (f1 hj hjj h (by omega) (Ne.symm n1.2.1)) (f1 hj hjj h (by omega) (Ne.symm n1.2.2))
theorem sc.m4 {L : List Nat} {F F1 : Nat → PE} {sa : Nat → Nat} {n p mk : Int} {f : Int → Int} (hj : ij sa) (t : sc L F (sa 1) (sa 2) (sa 3) n p mk f) (h : fR sa F F1) : sc L F1 (sa 1) (sa 2) (sa 3) n p mk f := t.mv (f4 hj h (by omega)) (f4 hj h (by omega)) (f4 hj h (by omega))
theorem rgQ.m1 {L : List Nat} {F F1 : Nat → PE} {sa : Nat → Nat} {π : Int → Nat} {m cv nx : Int} {hl : Int → Int} {hf : Int → Int → Int} (hj : ij sa) {j : Nat} (hjj : j < 4 ∨ j = 8) (t : rgQ L F sa π m cv nx hl hf) (h : ∀ b, b ≠ sa j → F1 b = F b) : rgQ L F1 sa π m cv nx hl hf := t.mv (fun i h1 h2 h3 => f1 hj (by omega) h h2 (by omega))
theorem rgQ.m3 {L : List Nat} {F F1 : Nat → PE} {sa : Nat → Nat} {π : Int → Nat} {m cv nx : Int} {hl : Int → Int} {hf : Int → Int → Int} (hj : ij sa) (t : rgQ L F sa π m cv nx hl hf) (h : ∀ b, b ≠ sa 1 → b ≠ sa 2 → b ≠ sa 3 → F1 b = F b) : rgQ L F1 sa π m cv nx hl hf := t.mv (fun i h1 h2 h3 => f3 hj h h2 (by omega))
/-- a scroll whose point or mark is put anew -/
theorem sc.pt {L : List Nat} {F F1 : Nat → PE} {sa : Nat → Nat} {n p mk p1 mk1 : Int} {f : Int → Int} (hj : ij sa) (t : sc L F (sa 1) (sa 2) (sa 3) n p mk f) (h1 : F1 (sa 1) = eO 4 [.ref (sa 2), .int (iI p1), .int (iI mk1)]) (h : ∀ b, b ≠ sa 1 → F1 b = F b) (hr : 0 ≤ p1 ∧ p1 ≤ n ∧ -1 ≤ mk1 ∧ mk1 ≤ n) : sc L F1 (sa 1) (sa 2) (sa 3) n p1 mk1 f :=
  ⟨t.1, h1, t.2.2.1.mv (f1 hj (by omega) h (by omega) (by omega)) (f1 hj (by omega) h (by omega) (by omega)), ⟨hr.1, hr.2.1⟩, hr.2.2⟩
/-- what a deed on the scroll leaves as it was -/
def RU (v v1 : Int → Int) : Prop := ∀ x, (3 ≤ x ∧ x ≤ 5) ∨ (10 ≤ x ∧ x < 18) ∨ 218 ≤ x → v1 x = v x
theorem iv.ru {v v1 : Int → Int} {kd : Int} (h : iv v kd) (r : RU v v1) (h3 : v 3 ≤ 8) : iv v1 0 := by
  have e3 := r 3 (by omega)
  have e4 := r 4 (by omega)
  refine ⟨fun i h0 h1 => ?_, fun q => ?_, fun q => ?_, by omega, fun q => by omega, fun q => by omega⟩
  · rw [e3] at h1
    rw [r _ (by omega)]
    exact h.1 i h0 h1
  · rw [e4]; exact h.2.1 (by omega)
  · rw [e4, e3]; exact h.2.2.1 (by omega)
theorem iv.ru2 {v v1 : Int → Int} {kd : Int} (h : iv v kd) (r : RU v v1) (h3 : v 3 ≤ 8) (h1 : 1 ≤ v 3 ∧ 0 ≤ v1 2 ∧ v1 2 ≤ v1 1) : iv v1 2 := by
  have e3 := r 3 (by omega)
  have := h.ru r h3
  exact ⟨this.1, this.2.1, this.2.2.1, by omega, fun q => by omega, fun _ => by omega⟩
theorem stP.sw {L : List Nat} {F : Nat → PE} {sa : Nat → Nat} {v v1 : Int → Int} {kd n p mk w r t k6 k7 k9 : Int} {f : Int → Int} {π : Int → Nat} {hl : Int → Int} {hf : Int → Int → Int}
    (hS : sc L F (sa 1) (sa 2) (sa 3) n p mk f) (hR : rgQ L F sa π (v 3) (v 5) (nxA v) hl hf) (hh : ∀ i, 0 ≤ i → i < v 3 → hl i = v (10 + i) ∧ ∀ k, 0 ≤ k → k < hl i → hf i k = v (218 + 200 * i + k))
    (hA : F (sa 8) = eO 0 [.int (iI w), .int (iI r), .int (iI k6), .int (iI k7), .int (iI t), .int (iI k9)]) (hO : F (sa 0) = eO 5 [.ref (sa 1), .ref (sa 4), .ref (sa 8), .int (iI kd)]) (ru : RU v v1)
    (e0 : v1 0 = n) (e1 : v1 1 = p) (e2 : v1 2 = mk) (ef : ∀ k, 0 ≤ k → k < n → v1 (18 + k) = f k) (e6 : v1 6 = k6) (e7 : v1 7 = k7) (e9 : v1 9 = k9) (he : v1 8 = w + r ∧ n = w + k7 - k6 - r - t) (hi : iv v1 kd) : stP L F sa v1 kd := by
  subst e0 e1 e2 e6 e7 e9
  have m3 := hR.2.2.2.2.2.1
  have e3 := ru 3 (by omega)
  have e4 := ru 4 (by omega)
  have e5 := ru 5 (by omega)
  refine ⟨π, hl, hf, w, r, t, hS.cg (fun k h0 h1 => (ef k h0 h1).symm), ?_, fun i h0 h1 => ?_, hA, he, hO, hi⟩
  · unfold nxA
    rw [e3, e4, e5]
    exact hR
  · rw [e3] at h1
    have z := hh i h0 h1
    rw [ru _ (by omega)]
    exact ⟨z.1, fun k g0 g1 => by rw [ru _ (by omega)]; exact z.2 k g0 g1⟩

