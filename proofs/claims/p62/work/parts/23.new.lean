/-! THE LAYER, 6: new objects of each class; chains of new addresses. -/
theorem ns_X7_9 : (RX7, 9, yX5_init, RX7) ∈ nstW := .head _
theorem ns_X5_11 : (RX5, 11, yX4_init, RX7) ∈ nstW := .tail _ (.head _)
theorem ns_X5_27 : (RX5, 27, yX0_init, RX7) ∈ nstW := .tail _ (.tail _ (.head _))
theorem ns_X2_17 : (RX2, 17, yX5_init, RX7) ∈ nstW := .tail _ (.tail _ (.tail _ (.head _)))
theorem in_Ax : Cond.initialized "java/lang/IllegalArgumentException" ∈ wsG := wg (tw1 14 rfl) rfl
theorem in_Sx : Cond.initialized "java/lang/IllegalStateException" ∈ wsG := wg (tw1 11 rfl) rfl
theorem in_Bx : Cond.initialized "java/lang/IndexOutOfBoundsException" ∈ wsG := wg (tw1 15 rfl) rfl
theorem st_135 : (135, "the times are out of range") ∈ strs := .head _
theorem st_140 : (140, "the caves are out of range") ∈ strs := .tail _ (.head _)
theorem st_150 : (150, "the buffer is full") ∈ strs := .tail _ (.tail _ (.head _))
theorem st_171 : (171, "the buffer does not tell deeds as a text") ∈ strs := .tail _ (.tail _ (.tail _ (.head _)))
theorem st_183 : (183, "the slot is out of range") ∈ strs := .tail _ (.tail _ (.tail _ (.tail _ (.head _))))
theorem st_185 : (185, "there is no snapshot in the slot") ∈ strs := .tail _ (.tail _ (.tail _ (.tail _ (.tail _ (.head _)))))
theorem st_194 : (194, "there is no saved state") ∈ strs := .tail _ (.tail _ (.tail _ (.tail _ (.tail _ (.tail _ (.head _))))))
theorem st_307 : (307, "that is not possible now") ∈ strs := .tail _ (.tail _ (.tail _ (.tail _ (.tail _ (.tail _ (.tail _ (.head _)))))))
theorem st_311 : (311, "there is no such place") ∈ strs := .tail _ (.tail _ (.tail _ (.tail _ (.tail _ (.tail _ (.tail _ (.tail _ (.head _))))))))
theorem st_42 : (42, "the code is out of range") ∈ strs := .tail _ (.tail _ (.tail _ (.tail _ (.tail _ (.tail _ (.tail _ (.tail _ (.tail _ (.head _)))))))))
theorem st_80 : (80, "the place is out of range") ∈ strs := .tail _ (.tail _ (.tail _ (.tail _ (.tail _ (.tail _ (.tail _ (.tail _ (.tail _ (.tail _ (.head _))))))))))
theorem st_97 : (97, "the lines are out of range, or 0") ∈ strs := .tail _ (.tail _ (.tail _ (.tail _ (.tail _ (.tail _ (.tail _ (.tail _ (.tail _ (.tail _ (.tail _ (.head _)))))))))))
section ZNW
variable {ZZ : ZT} {l : Launch} {y : MethodName} {cc : ByteArray} {nL : Nat} {ret : Option FieldType} {R : Room} {L0 : List Nat} {post : Option Value → List Nat → (Nat → PE) → Prop} {xp : String → List Nat → (Nat → PE) → Prop}
variable {k n pc : Nat} {lv : List (Option Value)} {st : List Value} {L : List Nat} {F : Nat → PE}
theorem z_new_X0 (hZ : ZZ = Zj l y cc nL ret R L0 post xp) {ix : Nat} (d : decode cc pc = .ok (.new ix, 3)) (hcl : Cond.classLink y.cls ix RX0 ∈ wsG) (hRc : k + 1 ≤ R.cells ∧ n + 6 ≤ R.slots)
    (kk : ∀ (q : Nat) (F1 : Nat → PE), q ∉ L → F1 q = eO 0 [.int (iI 0), .int (iI 0), .int (iI 0), .int (iI 0), .int (iI 0), .int (iI 0)] → (∀ b : Nat, b ≠ q → F1 b = F b) → ZZ (k + 1) (n + 6) (pc + 3) lv (.ref q :: st) (L ++ [q]) F1) : ZZ k n pc lv st L F :=
  z_newG hZ (T := TX0) (tyc := tyX0) d inw0 tyX0_ok hcl it_X0 in_X0 rfl (fun j hj => by rcases (show j = 0 ∨ j = 1 ∨ j = 2 ∨ j = 3 ∨ j = 4 ∨ j = 5 by omega) with rfl | rfl | rfl | rfl | rfl | rfl <;> rfl) hRc kk
theorem z_new_X2 (hZ : ZZ = Zj l y cc nL ret R L0 post xp) {ix : Nat} (d : decode cc pc = .ok (.new ix, 3)) (hcl : Cond.classLink y.cls ix RX2 ∈ wsG) (hRc : k + 1 ≤ R.cells ∧ n + 3 ≤ R.slots)
    (kk : ∀ (q : Nat) (F1 : Nat → PE), q ∉ L → F1 q = eO 2 [.null, .int (iI 0), .int (iI 0)] → (∀ b : Nat, b ≠ q → F1 b = F b) → ZZ (k + 1) (n + 3) (pc + 3) lv (.ref q :: st) (L ++ [q]) F1) : ZZ k n pc lv st L F :=
  z_newG hZ (T := TX2) (tyc := tyX2) d inw2 tyX2_ok hcl it_X2 in_X2 rfl (fun j hj => by rcases (show j = 0 ∨ j = 1 ∨ j = 2 by omega) with rfl | rfl | rfl <;> rfl) hRc kk
theorem z_new_X3 (hZ : ZZ = Zj l y cc nL ret R L0 post xp) {ix : Nat} (d : decode cc pc = .ok (.new ix, 3)) (hcl : Cond.classLink y.cls ix RX3 ∈ wsG) (hRc : k + 1 ≤ R.cells ∧ n + 5 ≤ R.slots)
    (kk : ∀ (q : Nat) (F1 : Nat → PE), q ∉ L → F1 q = eO 3 [.null, .null, .int (iI 0), .int (iI 0), .int (iI 0)] → (∀ b : Nat, b ≠ q → F1 b = F b) → ZZ (k + 1) (n + 5) (pc + 3) lv (.ref q :: st) (L ++ [q]) F1) : ZZ k n pc lv st L F :=
  z_newG hZ (T := TX3) (tyc := tyX3) d inw3 tyX3_ok hcl it_X3 in_X3 rfl (fun j hj => by rcases (show j = 0 ∨ j = 1 ∨ j = 2 ∨ j = 3 ∨ j = 4 by omega) with rfl | rfl | rfl | rfl | rfl <;> rfl) hRc kk
theorem z_new_X4 (hZ : ZZ = Zj l y cc nL ret R L0 post xp) {ix : Nat} (d : decode cc pc = .ok (.new ix, 3)) (hcl : Cond.classLink y.cls ix RX4 ∈ wsG) (hRc : k + 1 ≤ R.cells ∧ n + 3 ≤ R.slots)
    (kk : ∀ (q : Nat) (F1 : Nat → PE), q ∉ L → F1 q = eO 4 [.null, .int (iI 0), .int (iI 0)] → (∀ b : Nat, b ≠ q → F1 b = F b) → ZZ (k + 1) (n + 3) (pc + 3) lv (.ref q :: st) (L ++ [q]) F1) : ZZ k n pc lv st L F :=
  z_newG hZ (T := TX4) (tyc := tyX4) d inw4 tyX4_ok hcl it_X4 in_X4 rfl (fun j hj => by rcases (show j = 0 ∨ j = 1 ∨ j = 2 by omega) with rfl | rfl | rfl <;> rfl) hRc kk
theorem z_new_X5 (hZ : ZZ = Zj l y cc nL ret R L0 post xp) {ix : Nat} (d : decode cc pc = .ok (.new ix, 3)) (hcl : Cond.classLink y.cls ix RX5 ∈ wsG) (hRc : k + 1 ≤ R.cells ∧ n + 4 ≤ R.slots)
    (kk : ∀ (q : Nat) (F1 : Nat → PE), q ∉ L → F1 q = eO 5 [.null, .null, .null, .int (iI 0)] → (∀ b : Nat, b ≠ q → F1 b = F b) → ZZ (k + 1) (n + 4) (pc + 3) lv (.ref q :: st) (L ++ [q]) F1) : ZZ k n pc lv st L F :=
  z_newG hZ (T := TX5) (tyc := tyX5) d inw5 tyX5_ok hcl it_X5 in_X5 rfl (fun j hj => by rcases (show j = 0 ∨ j = 1 ∨ j = 2 ∨ j = 3 by omega) with rfl | rfl | rfl | rfl <;> rfl) hRc kk
theorem z_new_X6 (hZ : ZZ = Zj l y cc nL ret R L0 post xp) {ix : Nat} (d : decode cc pc = .ok (.new ix, 3)) (hcl : Cond.classLink y.cls ix RX6 ∈ wsG) (hRc : k + 1 ≤ R.cells ∧ n + 2 ≤ R.slots)
    (kk : ∀ (q : Nat) (F1 : Nat → PE), q ∉ L → F1 q = eO 6 [.null, .int (iI 0)] → (∀ b : Nat, b ≠ q → F1 b = F b) → ZZ (k + 1) (n + 2) (pc + 3) lv (.ref q :: st) (L ++ [q]) F1) : ZZ k n pc lv st L F :=
  z_newG hZ (T := TX6) (tyc := tyX6) d inw6 tyX6_ok hcl it_X6 in_X6 rfl (fun j hj => by rcases (show j = 0 ∨ j = 1 by omega) with rfl | rfl <;> rfl) hRc kk
theorem z_new_X7 (hZ : ZZ = Zj l y cc nL ret R L0 post xp) {ix : Nat} (d : decode cc pc = .ok (.new ix, 3)) (hcl : Cond.classLink y.cls ix RX7 ∈ wsG) (hRc : k + 1 ≤ R.cells ∧ n + 5 ≤ R.slots)
    (kk : ∀ (q : Nat) (F1 : Nat → PE), q ∉ L → F1 q = eO 7 [.null, .null, .null, .null, .null] → (∀ b : Nat, b ≠ q → F1 b = F b) → ZZ (k + 1) (n + 5) (pc + 3) lv (.ref q :: st) (L ++ [q]) F1) : ZZ k n pc lv st L F :=
  z_newG hZ (T := TX7) (tyc := tyX7) d inw7 tyX7_ok hcl it_X7 in_X7 rfl (fun j hj => by rcases (show j = 0 ∨ j = 1 ∨ j = 2 ∨ j = 3 ∨ j = 4 by omega) with rfl | rfl | rfl | rfl | rfl <;> rfl) hRc kk
end ZNW
/-- new addresses g 0 .. g (m-1), each made behind the one before -/
def nw (L L1 : List Nat) (g : Nat → Nat) (m : Nat) : Prop := (∀ i, i < m → g i ∉ L ∧ g i ∈ L1) ∧ (∀ i j, i < m → j < m → g i = g j → i = j) ∧ ∀ b, b ∈ L → b ∈ L1
theorem nw.zero {L : List Nat} {g : Nat → Nat} : nw L L g 0 := ⟨fun i h => absurd h (Nat.not_lt_zero i), fun i j h => absurd h (Nat.not_lt_zero i), fun b h => h⟩
theorem in_sn {L : List Nat} {q : Nat} : q ∈ L ++ [q] := List.mem_append_right _ (List.mem_singleton.mpr rfl)
theorem in_sl {L : List Nat} {q b : Nat} (h : b ∈ L) : b ∈ L ++ [q] := List.mem_append_left _ h
theorem not_sl {L : List Nat} {q b : Nat} (h : b ∉ L ++ [q]) : b ∉ L ∧ b ≠ q := ⟨fun z => h (in_sl z), fun z => h (z ▸ in_sn)⟩
theorem ne_in {L : List Nat} {a b : Nat} (h : a ∉ L) (h2 : b ∈ L) : b ≠ a := fun z => h (z ▸ h2)
def gp (g : Nat → Nat) (m q : Nat) : Nat → Nat := fun i => if i = m then q else g i
def gc (g : Nat → Nat) (m : Nat) (g2 : Nat → Nat) : Nat → Nat := fun i => if i < m then g i else g2 (i - m)
theorem gp_l {g : Nat → Nat} {m q i : Nat} (h : i < m) : gp g m q i = g i := if_neg (by omega)
theorem gp_m {g : Nat → Nat} {m q : Nat} : gp g m q m = q := if_pos rfl
theorem gc_l {g g2 : Nat → Nat} {m i : Nat} (h : i < m) : gc g m g2 i = g i := if_pos h
theorem gc_r {g g2 : Nat → Nat} {m i : Nat} : gc g m g2 (m + i) = g2 i := by unfold gc; rw [if_neg (by omega)]; congr 1; omega
theorem nw.push {L L1 : List Nat} {g : Nat → Nat} {m q : Nat} (h : nw L L1 g m) (hq : q ∉ L1) : nw L (L1 ++ [q]) (gp g m q) (m + 1) := by
  refine ⟨fun i hi => ?_, fun i j hi hj e => ?_, fun b hb => in_sl (h.2.2 b hb)⟩
  · by_cases c : i = m
    · subst c; rw [gp_m]; exact ⟨fun z => hq (h.2.2 _ z), in_sn⟩
    · rw [gp_l (by omega)]; exact ⟨(h.1 i (by omega)).1, in_sl (h.1 i (by omega)).2⟩
  · by_cases c : i = m
    · by_cases c2 : j = m
      · omega
      · subst c; rw [gp_m, gp_l (by omega)] at e; exact absurd (e ▸ (h.1 j (by omega)).2) hq
    · by_cases c2 : j = m
      · subst c2; rw [gp_m, gp_l (by omega)] at e; exact absurd (e ▸ (h.1 i (by omega)).2) hq
      · rw [gp_l (by omega), gp_l (by omega)] at e; exact h.2.1 i j (by omega) (by omega) e
theorem nw.cat {L L1 L2 : List Nat} {g g2 : Nat → Nat} {m m2 : Nat} (h : nw L L1 g m) (h2 : nw L1 L2 g2 m2) : nw L L2 (gc g m g2) (m + m2) := by
  have r : ∀ i, ¬ i < m → gc g m g2 i = g2 (i - m) := fun i c => if_neg c
  refine ⟨fun i hi => ?_, fun i j hi hj e => ?_, fun b hb => h2.2.2 b (h.2.2 b hb)⟩
  · by_cases c : i < m
    · rw [gc_l c]; exact ⟨(h.1 i c).1, h2.2.2 _ (h.1 i c).2⟩
    · rw [r i c]; exact ⟨fun z => (h2.1 (i - m) (by omega)).1 (h.2.2 _ z), (h2.1 (i - m) (by omega)).2⟩
  · by_cases c : i < m
    · by_cases c2 : j < m
      · rw [gc_l c, gc_l c2] at e; exact h.2.1 i j c c2 e
      · rw [gc_l c, r j c2] at e; exact absurd (e ▸ (h.1 i c).2) (h2.1 (j - m) (by omega)).1
    · by_cases c2 : j < m
      · rw [r i c, gc_l c2] at e; exact absurd (e ▸ (h.1 j c2).2) (h2.1 (i - m) (by omega)).1
      · rw [r i c, r j c2] at e; have := h2.2.1 (i - m) (j - m) (by omega) (by omega) e; omega
theorem nw.cg {L L1 : List Nat} {g g2 : Nat → Nat} {m : Nat} (h : nw L L1 g m) (e : ∀ i, i < m → g2 i = g i) : nw L L1 g2 m :=
  ⟨fun i hi => by rw [e i hi]; exact h.1 i hi, fun i j hi hj => by rw [e i hi, e j hj]; exact h.2.1 i j hi hj, h.2.2⟩
theorem nw.ne {L L1 : List Nat} {g : Nat → Nat} {m i j : Nat} (h : nw L L1 g m) (hi : i < m) (hj : j < m) (n : i ≠ j) : g i ≠ g j := fun e => n (h.2.1 i j hi hj e)
theorem nw.old {L L1 : List Nat} {g : Nat → Nat} {m i b : Nat} (h : nw L L1 g m) (hi : i < m) (hb : b ∈ L) : b ≠ g i := fun e => (h.1 i hi).1 (e ▸ hb)
