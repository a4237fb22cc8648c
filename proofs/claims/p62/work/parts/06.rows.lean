/-! THE LAYER, 3: a row an instruction. -/
def b2 (P : Prop) [Decidable P] : Int := if P then 1 else 0
theorem b2_t {P : Prop} [Decidable P] (h : P) : b2 P = 1 := if_pos h
theorem b2_f {P : Prop} [Decidable P] (h : ¬ P) : b2 P = 0 := if_neg h
theorem b2_in (P : Prop) [Decidable P] : b2 P = 0 ∨ b2 P = 1 := by by_cases h : P; exact Or.inr (b2_t h); exact Or.inl (b2_f h)
theorem lL_add (a b : Int) : lL a + lL b = lL (a + b) := (Int64.ofInt_add a b).symm
theorem lL_sub (a b : Int) : lL a - lL b = lL (a - b) := (Int64.ofInt_sub a b).symm
theorem lL_mul (a b : Int) : lL a * lL b = lL (a * b) := (Int64.ofInt_mul a b).symm
theorem lL_of (x : Int64) : ∃ z : Int, -9223372036854775808 ≤ z ∧ z ≤ 9223372036854775807 ∧ x = lL z := ⟨x.toInt, by have := Int64.minValue_le_toInt x; exact this, by have := Int64.toInt_le x; exact this, by
  apply Int64.toInt_inj.mp
  rw [lL, Int64.ofInt_toInt]⟩
theorem lL_toInt {z : Int} (h1 : -9223372036854775808 ≤ z) (h2 : z ≤ 9223372036854775807) : (lL z).toInt = z := by
  rw [lL, Int64.toInt_ofInt]
  have e : (Int64.size : Int) = 18446744073709551616 := rfl
  apply Int.bmod_eq_of_le <;> omega
theorem iI_L {z : Int} (h : okI z) : (iI z).toInt64 = lL z := by
  apply Int64.toInt_inj.mp
  rw [Int32.toInt_toInt64, iI_toInt h, lL_toInt (by have := h.1; omega) (by have := h.2; omega)]
theorem iI_pos {a : Int} (h : 0 ≤ a) : iI a = nI a.toNat := by
  rw [iI_nI, Int.toNat_of_nonneg h]
theorem iI_rem {a b : Int} (h0 : 0 ≤ a) (ha : okI a) (h1 : 0 < b) (hb : okI b) : iI a - iI a / iI b * iI b = iI (a % b) := by
  have e1 := ha.2
  have e2 := hb.2
  rw [iI_pos h0, iI_pos (Int.le_of_lt h1), pk_rem (by omega) (by omega) (by omega), iI_nI]
  congr 1
  rw [Int.natCast_emod, Int.toNat_of_nonneg h0, Int.toNat_of_nonneg (Int.le_of_lt h1)]
def zcp (f g : Int → Int) (sp dp n : Int) : Int → Int := fun j => if dp ≤ j ∧ j < dp + n then f (sp + (j - dp)) else g j
section ZR
variable {ZZ : ZT} {l : Launch} {y : MethodName} {cc : ByteArray} {nL : Nat} {ret : Option FieldType} {R : Room} {L0 : List Nat} {post : Option Value → List Nat → (Nat → PE) → Prop} {xp : String → List Nat → (Nat → PE) → Prop}
variable {k n pc : Nat} {lv : List (Option Value)} {st : List Value} {L : List Nat} {F : Nat → PE}
theorem z_iconst (hZ : ZZ = Zj l y cc nL ret R L0 post xp) {w : Int} (d : decode cc pc = .ok (.iconst w, 1)) (kk : ZZ k n (pc + 1) lv (.int (iI w) :: st) L F) : ZZ k n pc lv (st) L F := by
  subst hZ
  intro p e s m args below meth c D κ hx H locs ls hP hD hS hl
  refine lv_iconst hx.1 hx.2.1 d (v := iI w) rfl ?_
  exact kk p e s m args below meth c D κ hx H locs ls hP hD hS hl
theorem z_bipush (hZ : ZZ = Zj l y cc nL ret R L0 post xp) {c : Int} (d : decode cc pc = .ok (.bipush c, 2)) (hv : (Int8.ofInt c).toInt32 = iI c) (kk : ZZ k n (pc + 2) lv (.int (iI c) :: st) L F) : ZZ k n pc lv (st) L F := by
  subst hZ
  intro p e s m args below meth c D κ hx H locs ls hP hD hS hl
  refine lv_bipush hx.1 hx.2.1 d hv ?_
  exact kk p e s m args below meth c D κ hx H locs ls hP hD hS hl
theorem z_sipush (hZ : ZZ = Zj l y cc nL ret R L0 post xp) {c : Int} (d : decode cc pc = .ok (.sipush c, 3)) (hv : (Int16.ofInt c).toInt32 = iI c) (kk : ZZ k n (pc + 3) lv (.int (iI c) :: st) L F) : ZZ k n pc lv (st) L F := by
  subst hZ
  intro p e s m args below meth c D κ hx H locs ls hP hD hS hl
  refine lv_sipush hx.1 hx.2.1 d hv ?_
  exact kk p e s m args below meth c D κ hx H locs ls hP hD hS hl
theorem z_lconst (hZ : ZZ = Zj l y cc nL ret R L0 post xp) {c : Fin 2} {v : Int} (d : decode cc pc = .ok (.lconst c, 1)) (hv : Int64.ofNat (c : Nat) = lL v) (kk : ZZ k n (pc + 1) lv (.long (lL v) :: st) L F) : ZZ k n pc lv (st) L F := by
  subst hZ
  intro p e s m args below meth c D κ hx H locs ls hP hD hS hl
  refine lv_lconst hx.1 hx.2.1 d hv ?_
  exact kk p e s m args below meth c D κ hx H locs ls hP hD hS hl
theorem z_dconst0 (hZ : ZZ = Zj l y cc nL ret R L0 post xp) (d : decode cc pc = .ok (.dconst 0, 1)) (kk : ZZ k n (pc + 1) lv (.double FP.dconst0 :: st) L F) : ZZ k n pc lv (st) L F := by
  subst hZ
  intro p e s m args below meth c D κ hx H locs ls hP hD hS hl
  refine lv_dconst0 hx.1 hx.2.1 d ?_
  exact kk p e s m args below meth c D κ hx H locs ls hP hD hS hl
theorem z_dconst1 (hZ : ZZ = Zj l y cc nL ret R L0 post xp) (d : decode cc pc = .ok (.dconst 1, 1)) (kk : ZZ k n (pc + 1) lv (.double FP.dconst1 :: st) L F) : ZZ k n pc lv (st) L F := by
  subst hZ
  intro p e s m args below meth c D κ hx H locs ls hP hD hS hl
  refine lv_dconst1 hx.1 hx.2.1 d ?_
  exact kk p e s m args below meth c D κ hx H locs ls hP hD hS hl
theorem z_ldc2 (hZ : ZZ = Zj l y cc nL ret R L0 post xp) {ix : Nat} {v : Int64} (d : decode cc pc = .ok (.ldc2_w ix, 3)) (hw : Cond.constantLong y.cls ix v ∈ wsG) (kk : ZZ k n (pc + 3) lv (.long v :: st) L F) : ZZ k n pc lv (st) L F := by
  subst hZ
  intro p e s m args below meth c D κ hx H locs ls hP hD hS hl
  refine lv_ldc2 hx.1 hx.2.1 hx.2.2.2.1 (hx.2.2.2.2.1 _ hw) d ?_
  exact kk p e s m args below meth c D κ hx H locs ls hP hD hS hl
theorem z_ldc2d (hZ : ZZ = Zj l y cc nL ret R L0 post xp) {ix : Nat} {v : UInt64} (d : decode cc pc = .ok (.ldc2_w ix, 3)) (hw : Cond.constantDouble y.cls ix v ∈ wsG) (kk : ZZ k n (pc + 3) lv (.double v :: st) L F) : ZZ k n pc lv (st) L F := by
  subst hZ
  intro p e s m args below meth c D κ hx H locs ls hP hD hS hl
  refine lv_ldc2d hx.1 hx.2.1 hx.2.2.2.1 (hx.2.2.2.2.1 _ hw) d ?_
  exact kk p e s m args below meth c D κ hx H locs ls hP hD hS hl
theorem z_iload_n0 (hZ : ZZ = Zj l y cc nL ret R L0 post xp) {t : List (Option Value)} {z : Int32} (d : decode cc pc = .ok (.iload_n 0, 1)) (kk : ZZ k n (pc + 1) (some (.int z) :: t) (.int z :: st) L F) : ZZ k n pc (some (.int z) :: t) (st) L F := by
  subst hZ
  intro p e s m args below meth c D κ hx H locs ls hP hD hS hl
  refine lv_iload_n hx.1 hx.2.1 d rfl (hl.2.2 0 _ rfl) ?_
  exact kk p e s m args below meth c D κ hx H locs ls hP hD hS hl
theorem z_iload0 (hZ : ZZ = Zj l y cc nL ret R L0 post xp) {t : List (Option Value)} {z : Int32} (d : decode cc pc = .ok (.iload 0, 2)) (kk : ZZ k n (pc + 2) (some (.int z) :: t) (.int z :: st) L F) : ZZ k n pc (some (.int z) :: t) (st) L F := by
  subst hZ
  intro p e s m args below meth c D κ hx H locs ls hP hD hS hl
  refine lv_iload hx.1 hx.2.1 d (hl.2.2 0 _ rfl) ?_
  exact kk p e s m args below meth c D κ hx H locs ls hP hD hS hl
theorem z_aload_n0 (hZ : ZZ = Zj l y cc nL ret R L0 post xp) {t : List (Option Value)} {z : Nat} (d : decode cc pc = .ok (.aload_n 0, 1)) (kk : ZZ k n (pc + 1) (some (.ref z) :: t) (.ref z :: st) L F) : ZZ k n pc (some (.ref z) :: t) (st) L F := by
  subst hZ
  intro p e s m args below meth c D κ hx H locs ls hP hD hS hl
  refine lv_aload_n hx.1 hx.2.1 d rfl (hl.2.2 0 _ rfl) ?_
  exact kk p e s m args below meth c D κ hx H locs ls hP hD hS hl
theorem z_aload0 (hZ : ZZ = Zj l y cc nL ret R L0 post xp) {t : List (Option Value)} {z : Nat} (d : decode cc pc = .ok (.aload 0, 2)) (kk : ZZ k n (pc + 2) (some (.ref z) :: t) (.ref z :: st) L F) : ZZ k n pc (some (.ref z) :: t) (st) L F := by
  subst hZ
  intro p e s m args below meth c D κ hx H locs ls hP hD hS hl
  refine lv_aload hx.1 hx.2.1 d (hl.2.2 0 _ rfl) ?_
  exact kk p e s m args below meth c D κ hx H locs ls hP hD hS hl
theorem z_lload_n0 (hZ : ZZ = Zj l y cc nL ret R L0 post xp) {t : List (Option Value)} {z : Int64} (d : decode cc pc = .ok (.lload_n 0, 1)) (kk : ZZ k n (pc + 1) (some (.long z) :: t) (.long z :: st) L F) : ZZ k n pc (some (.long z) :: t) (st) L F := by
  subst hZ
  intro p e s m args below meth c D κ hx H locs ls hP hD hS hl
  refine lv_lload_n hx.1 hx.2.1 d rfl (hl.2.2 0 _ rfl) ?_
  exact kk p e s m args below meth c D κ hx H locs ls hP hD hS hl
theorem z_lload0 (hZ : ZZ = Zj l y cc nL ret R L0 post xp) {t : List (Option Value)} {z : Int64} (d : decode cc pc = .ok (.lload 0, 2)) (kk : ZZ k n (pc + 2) (some (.long z) :: t) (.long z :: st) L F) : ZZ k n pc (some (.long z) :: t) (st) L F := by
  subst hZ
  intro p e s m args below meth c D κ hx H locs ls hP hD hS hl
  refine lv_lload hx.1 hx.2.1 d (hl.2.2 0 _ rfl) ?_
  exact kk p e s m args below meth c D κ hx H locs ls hP hD hS hl
theorem z_dload_n0 (hZ : ZZ = Zj l y cc nL ret R L0 post xp) {t : List (Option Value)} {z : UInt64} (d : decode cc pc = .ok (.dload_n 0, 1)) (kk : ZZ k n (pc + 1) (some (.double z) :: t) (.double z :: st) L F) : ZZ k n pc (some (.double z) :: t) (st) L F := by
  subst hZ
  intro p e s m args below meth c D κ hx H locs ls hP hD hS hl
  refine lv_dload_n hx.1 hx.2.1 d rfl (hl.2.2 0 _ rfl) ?_
  exact kk p e s m args below meth c D κ hx H locs ls hP hD hS hl
theorem z_dload0 (hZ : ZZ = Zj l y cc nL ret R L0 post xp) {t : List (Option Value)} {z : UInt64} (d : decode cc pc = .ok (.dload 0, 2)) (kk : ZZ k n (pc + 2) (some (.double z) :: t) (.double z :: st) L F) : ZZ k n pc (some (.double z) :: t) (st) L F := by
  subst hZ
  intro p e s m args below meth c D κ hx H locs ls hP hD hS hl
  refine lv_dload hx.1 hx.2.1 d (hl.2.2 0 _ rfl) ?_
  exact kk p e s m args below meth c D κ hx H locs ls hP hD hS hl
theorem z_istore_n0 (hZ : ZZ = Zj l y cc nL ret R L0 post xp) {xi : Option Value} {t : List (Option Value)} {z : Int32} (d : decode cc pc = .ok (.istore_n 0, 1)) (hn : 0 < nL) (kk : ZZ k n (pc + 1) (some (.int z) :: t) st L F) : ZZ k n pc (xi :: t) (.int z :: st) L F := by
  subst hZ
  intro p e s m args below meth c D κ hx H locs ls hP hD hS hl
  exact lv_istore_n hx.1 hx.2.1 d rfl (lh_has hl) hn rfl (fun ls' h' => kk p e s m args below meth c D κ hx H locs ls' hP hD hS (lh_st1 (lv := xi :: t) h' (fun j w hj _ => absurd hj (by omega))))
theorem z_istore0 (hZ : ZZ = Zj l y cc nL ret R L0 post xp) {xi : Option Value} {t : List (Option Value)} {z : Int32} (d : decode cc pc = .ok (.istore 0, 2)) (hn : 0 < nL) (kk : ZZ k n (pc + 2) (some (.int z) :: t) st L F) : ZZ k n pc (xi :: t) (.int z :: st) L F := by
  subst hZ
  intro p e s m args below meth c D κ hx H locs ls hP hD hS hl
  exact lv_istore hx.1 hx.2.1 d (lh_has hl) hn rfl (fun ls' h' => kk p e s m args below meth c D κ hx H locs ls' hP hD hS (lh_st1 (lv := xi :: t) h' (fun j w hj _ => absurd hj (by omega))))
theorem z_astore_n0 (hZ : ZZ = Zj l y cc nL ret R L0 post xp) {xi : Option Value} {t : List (Option Value)} {z : Nat} (d : decode cc pc = .ok (.astore_n 0, 1)) (hn : 0 < nL) (kk : ZZ k n (pc + 1) (some (.ref z) :: t) st L F) : ZZ k n pc (xi :: t) (.ref z :: st) L F := by
  subst hZ
  intro p e s m args below meth c D κ hx H locs ls hP hD hS hl
  exact lv_astore_n hx.1 hx.2.1 d rfl (lh_has hl) hn rfl (fun ls' h' => kk p e s m args below meth c D κ hx H locs ls' hP hD hS (lh_st1 (lv := xi :: t) h' (fun j w hj _ => absurd hj (by omega))))
theorem z_astore0 (hZ : ZZ = Zj l y cc nL ret R L0 post xp) {xi : Option Value} {t : List (Option Value)} {z : Nat} (d : decode cc pc = .ok (.astore 0, 2)) (hn : 0 < nL) (kk : ZZ k n (pc + 2) (some (.ref z) :: t) st L F) : ZZ k n pc (xi :: t) (.ref z :: st) L F := by
  subst hZ
  intro p e s m args below meth c D κ hx H locs ls hP hD hS hl
  exact lv_astore hx.1 hx.2.1 d (lh_has hl) hn rfl (fun ls' h' => kk p e s m args below meth c D κ hx H locs ls' hP hD hS (lh_st1 (lv := xi :: t) h' (fun j w hj _ => absurd hj (by omega))))
theorem z_lstore_n0 (hZ : ZZ = Zj l y cc nL ret R L0 post xp) {xi xj : Option Value} {t : List (Option Value)} {z : Int64} (d : decode cc pc = .ok (.lstore_n 0, 1)) (hn : 0 + 1 < nL) (kk : ZZ k n (pc + 1) (some (.long z) :: none :: t) st L F) : ZZ k n pc (xi :: xj :: t) (.long z :: st) L F := by
  subst hZ
  intro p e s m args below meth c D κ hx H locs ls hP hD hS hl
  exact lv_lstore_n hx.1 hx.2.1 d rfl (lh_has hl) hn rfl (fun ls' h' => kk p e s m args below meth c D κ hx H locs ls' hP hD hS (lh_st2 (lv := xi :: xj :: t) h' (fun j w hj _ => absurd hj (by omega))))
theorem z_lstore0 (hZ : ZZ = Zj l y cc nL ret R L0 post xp) {xi xj : Option Value} {t : List (Option Value)} {z : Int64} (d : decode cc pc = .ok (.lstore 0, 2)) (hn : 0 + 1 < nL) (kk : ZZ k n (pc + 2) (some (.long z) :: none :: t) st L F) : ZZ k n pc (xi :: xj :: t) (.long z :: st) L F := by
  subst hZ
  intro p e s m args below meth c D κ hx H locs ls hP hD hS hl
  exact lv_lstore hx.1 hx.2.1 d (lh_has hl) hn rfl (fun ls' h' => kk p e s m args below meth c D κ hx H locs ls' hP hD hS (lh_st2 (lv := xi :: xj :: t) h' (fun j w hj _ => absurd hj (by omega))))
theorem z_dstore_n0 (hZ : ZZ = Zj l y cc nL ret R L0 post xp) {xi xj : Option Value} {t : List (Option Value)} {z : UInt64} (d : decode cc pc = .ok (.dstore_n 0, 1)) (hn : 0 + 1 < nL) (kk : ZZ k n (pc + 1) (some (.double z) :: none :: t) st L F) : ZZ k n pc (xi :: xj :: t) (.double z :: st) L F := by
  subst hZ
  intro p e s m args below meth c D κ hx H locs ls hP hD hS hl
  exact lv_dstore_n hx.1 hx.2.1 d rfl (lh_has hl) hn rfl (fun ls' h' => kk p e s m args below meth c D κ hx H locs ls' hP hD hS (lh_st2 (lv := xi :: xj :: t) h' (fun j w hj _ => absurd hj (by omega))))
theorem z_dstore0 (hZ : ZZ = Zj l y cc nL ret R L0 post xp) {xi xj : Option Value} {t : List (Option Value)} {z : UInt64} (d : decode cc pc = .ok (.dstore 0, 2)) (hn : 0 + 1 < nL) (kk : ZZ k n (pc + 2) (some (.double z) :: none :: t) st L F) : ZZ k n pc (xi :: xj :: t) (.double z :: st) L F := by
  subst hZ
  intro p e s m args below meth c D κ hx H locs ls hP hD hS hl
  exact lv_dstore hx.1 hx.2.1 d (lh_has hl) hn rfl (fun ls' h' => kk p e s m args below meth c D κ hx H locs ls' hP hD hS (lh_st2 (lv := xi :: xj :: t) h' (fun j w hj _ => absurd hj (by omega))))
theorem z_iinc0 (hZ : ZZ = Zj l y cc nL ret R L0 post xp) {t : List (Option Value)} {a q : Int} (d : decode cc pc = .ok (.iinc 0 q, 3)) (hn : 0 < nL) (kk : ZZ k n (pc + 3) (some (.int (iI (a + q))) :: t) st L F) : ZZ k n pc (some (.int (iI a)) :: t) st L F := by
  subst hZ
  intro p e s m args below meth c D κ hx H locs ls hP hD hS hl
  obtain ⟨k9, hk9⟩ := List.getElem?_of_mem (lpr_mem.mpr (show (some (Value.int (iI a)) :: t)[0]? = some (some (Value.int (iI a))) from rfl))
  exact lv_iinc hx.1 hx.2.1 d (lh_has hl) hk9 (iI_add a q) hn rfl (fun ls' h' => kk p e s m args below meth c D κ hx H locs ls' hP hD hS (lh_st1 (lv := some (.int (iI a)) :: t) h' (fun j w hj _ => absurd hj (by omega))))
theorem z_iload_n1 (hZ : ZZ = Zj l y cc nL ret R L0 post xp) {x0 : Option Value} {t : List (Option Value)} {z : Int32} (d : decode cc pc = .ok (.iload_n 1, 1)) (kk : ZZ k n (pc + 1) (x0 :: some (.int z) :: t) (.int z :: st) L F) : ZZ k n pc (x0 :: some (.int z) :: t) (st) L F := by
  subst hZ
  intro p e s m args below meth c D κ hx H locs ls hP hD hS hl
  refine lv_iload_n hx.1 hx.2.1 d rfl (hl.2.2 1 _ rfl) ?_
  exact kk p e s m args below meth c D κ hx H locs ls hP hD hS hl
theorem z_iload1 (hZ : ZZ = Zj l y cc nL ret R L0 post xp) {x0 : Option Value} {t : List (Option Value)} {z : Int32} (d : decode cc pc = .ok (.iload 1, 2)) (kk : ZZ k n (pc + 2) (x0 :: some (.int z) :: t) (.int z :: st) L F) : ZZ k n pc (x0 :: some (.int z) :: t) (st) L F := by
  subst hZ
  intro p e s m args below meth c D κ hx H locs ls hP hD hS hl
  refine lv_iload hx.1 hx.2.1 d (hl.2.2 1 _ rfl) ?_
  exact kk p e s m args below meth c D κ hx H locs ls hP hD hS hl
theorem z_aload_n1 (hZ : ZZ = Zj l y cc nL ret R L0 post xp) {x0 : Option Value} {t : List (Option Value)} {z : Nat} (d : decode cc pc = .ok (.aload_n 1, 1)) (kk : ZZ k n (pc + 1) (x0 :: some (.ref z) :: t) (.ref z :: st) L F) : ZZ k n pc (x0 :: some (.ref z) :: t) (st) L F := by
  subst hZ
  intro p e s m args below meth c D κ hx H locs ls hP hD hS hl
  refine lv_aload_n hx.1 hx.2.1 d rfl (hl.2.2 1 _ rfl) ?_
  exact kk p e s m args below meth c D κ hx H locs ls hP hD hS hl
theorem z_aload1 (hZ : ZZ = Zj l y cc nL ret R L0 post xp) {x0 : Option Value} {t : List (Option Value)} {z : Nat} (d : decode cc pc = .ok (.aload 1, 2)) (kk : ZZ k n (pc + 2) (x0 :: some (.ref z) :: t) (.ref z :: st) L F) : ZZ k n pc (x0 :: some (.ref z) :: t) (st) L F := by
  subst hZ
  intro p e s m args below meth c D κ hx H locs ls hP hD hS hl
  refine lv_aload hx.1 hx.2.1 d (hl.2.2 1 _ rfl) ?_
  exact kk p e s m args below meth c D κ hx H locs ls hP hD hS hl
theorem z_lload_n1 (hZ : ZZ = Zj l y cc nL ret R L0 post xp) {x0 : Option Value} {t : List (Option Value)} {z : Int64} (d : decode cc pc = .ok (.lload_n 1, 1)) (kk : ZZ k n (pc + 1) (x0 :: some (.long z) :: t) (.long z :: st) L F) : ZZ k n pc (x0 :: some (.long z) :: t) (st) L F := by
  subst hZ
  intro p e s m args below meth c D κ hx H locs ls hP hD hS hl
  refine lv_lload_n hx.1 hx.2.1 d rfl (hl.2.2 1 _ rfl) ?_
  exact kk p e s m args below meth c D κ hx H locs ls hP hD hS hl
theorem z_lload1 (hZ : ZZ = Zj l y cc nL ret R L0 post xp) {x0 : Option Value} {t : List (Option Value)} {z : Int64} (d : decode cc pc = .ok (.lload 1, 2)) (kk : ZZ k n (pc + 2) (x0 :: some (.long z) :: t) (.long z :: st) L F) : ZZ k n pc (x0 :: some (.long z) :: t) (st) L F := by
  subst hZ
  intro p e s m args below meth c D κ hx H locs ls hP hD hS hl
  refine lv_lload hx.1 hx.2.1 d (hl.2.2 1 _ rfl) ?_
  exact kk p e s m args below meth c D κ hx H locs ls hP hD hS hl
theorem z_dload_n1 (hZ : ZZ = Zj l y cc nL ret R L0 post xp) {x0 : Option Value} {t : List (Option Value)} {z : UInt64} (d : decode cc pc = .ok (.dload_n 1, 1)) (kk : ZZ k n (pc + 1) (x0 :: some (.double z) :: t) (.double z :: st) L F) : ZZ k n pc (x0 :: some (.double z) :: t) (st) L F := by
  subst hZ
  intro p e s m args below meth c D κ hx H locs ls hP hD hS hl
  refine lv_dload_n hx.1 hx.2.1 d rfl (hl.2.2 1 _ rfl) ?_
  exact kk p e s m args below meth c D κ hx H locs ls hP hD hS hl
theorem z_dload1 (hZ : ZZ = Zj l y cc nL ret R L0 post xp) {x0 : Option Value} {t : List (Option Value)} {z : UInt64} (d : decode cc pc = .ok (.dload 1, 2)) (kk : ZZ k n (pc + 2) (x0 :: some (.double z) :: t) (.double z :: st) L F) : ZZ k n pc (x0 :: some (.double z) :: t) (st) L F := by
  subst hZ
  intro p e s m args below meth c D κ hx H locs ls hP hD hS hl
  refine lv_dload hx.1 hx.2.1 d (hl.2.2 1 _ rfl) ?_
  exact kk p e s m args below meth c D κ hx H locs ls hP hD hS hl
theorem z_istore_n1 (hZ : ZZ = Zj l y cc nL ret R L0 post xp) {x0 : Option Value} {xi : Option Value} {t : List (Option Value)} {z : Int32} (d : decode cc pc = .ok (.istore_n 1, 1)) (hn : 1 < nL) (hc : c1 x0 = true) (kk : ZZ k n (pc + 1) (x0 :: some (.int z) :: t) st L F) : ZZ k n pc (x0 :: xi :: t) (.int z :: st) L F := by
  subst hZ
  intro p e s m args below meth c D κ hx H locs ls hP hD hS hl
  exact lv_istore_n hx.1 hx.2.1 d rfl (lh_has hl) hn rfl (fun ls' h' => kk p e s m args below meth c D κ hx H locs ls' hP hD hS (lh_st1 (lv := x0 :: xi :: t) h' (fun j w hj hw => by obtain rfl : j = 0 := (by omega); have hw := Option.some.inj hw; rw [hw] at hc; have := eq_of_beq (show (w.category == 1) = true from hc); omega)))
theorem z_istore1 (hZ : ZZ = Zj l y cc nL ret R L0 post xp) {x0 : Option Value} {xi : Option Value} {t : List (Option Value)} {z : Int32} (d : decode cc pc = .ok (.istore 1, 2)) (hn : 1 < nL) (hc : c1 x0 = true) (kk : ZZ k n (pc + 2) (x0 :: some (.int z) :: t) st L F) : ZZ k n pc (x0 :: xi :: t) (.int z :: st) L F := by
  subst hZ
  intro p e s m args below meth c D κ hx H locs ls hP hD hS hl
  exact lv_istore hx.1 hx.2.1 d (lh_has hl) hn rfl (fun ls' h' => kk p e s m args below meth c D κ hx H locs ls' hP hD hS (lh_st1 (lv := x0 :: xi :: t) h' (fun j w hj hw => by obtain rfl : j = 0 := (by omega); have hw := Option.some.inj hw; rw [hw] at hc; have := eq_of_beq (show (w.category == 1) = true from hc); omega)))
theorem z_astore_n1 (hZ : ZZ = Zj l y cc nL ret R L0 post xp) {x0 : Option Value} {xi : Option Value} {t : List (Option Value)} {z : Nat} (d : decode cc pc = .ok (.astore_n 1, 1)) (hn : 1 < nL) (hc : c1 x0 = true) (kk : ZZ k n (pc + 1) (x0 :: some (.ref z) :: t) st L F) : ZZ k n pc (x0 :: xi :: t) (.ref z :: st) L F := by
  subst hZ
  intro p e s m args below meth c D κ hx H locs ls hP hD hS hl
  exact lv_astore_n hx.1 hx.2.1 d rfl (lh_has hl) hn rfl (fun ls' h' => kk p e s m args below meth c D κ hx H locs ls' hP hD hS (lh_st1 (lv := x0 :: xi :: t) h' (fun j w hj hw => by obtain rfl : j = 0 := (by omega); have hw := Option.some.inj hw; rw [hw] at hc; have := eq_of_beq (show (w.category == 1) = true from hc); omega)))
theorem z_astore1 (hZ : ZZ = Zj l y cc nL ret R L0 post xp) {x0 : Option Value} {xi : Option Value} {t : List (Option Value)} {z : Nat} (d : decode cc pc = .ok (.astore 1, 2)) (hn : 1 < nL) (hc : c1 x0 = true) (kk : ZZ k n (pc + 2) (x0 :: some (.ref z) :: t) st L F) : ZZ k n pc (x0 :: xi :: t) (.ref z :: st) L F := by
  subst hZ
  intro p e s m args below meth c D κ hx H locs ls hP hD hS hl
  exact lv_astore hx.1 hx.2.1 d (lh_has hl) hn rfl (fun ls' h' => kk p e s m args below meth c D κ hx H locs ls' hP hD hS (lh_st1 (lv := x0 :: xi :: t) h' (fun j w hj hw => by obtain rfl : j = 0 := (by omega); have hw := Option.some.inj hw; rw [hw] at hc; have := eq_of_beq (show (w.category == 1) = true from hc); omega)))
theorem z_lstore_n1 (hZ : ZZ = Zj l y cc nL ret R L0 post xp) {x0 : Option Value} {xi xj : Option Value} {t : List (Option Value)} {z : Int64} (d : decode cc pc = .ok (.lstore_n 1, 1)) (hn : 1 + 1 < nL) (hc : c1 x0 = true) (kk : ZZ k n (pc + 1) (x0 :: some (.long z) :: none :: t) st L F) : ZZ k n pc (x0 :: xi :: xj :: t) (.long z :: st) L F := by
  subst hZ
  intro p e s m args below meth c D κ hx H locs ls hP hD hS hl
  exact lv_lstore_n hx.1 hx.2.1 d rfl (lh_has hl) hn rfl (fun ls' h' => kk p e s m args below meth c D κ hx H locs ls' hP hD hS (lh_st2 (lv := x0 :: xi :: xj :: t) h' (fun j w hj hw => by obtain rfl : j = 0 := (by omega); have hw := Option.some.inj hw; rw [hw] at hc; have := eq_of_beq (show (w.category == 1) = true from hc); omega)))
theorem z_lstore1 (hZ : ZZ = Zj l y cc nL ret R L0 post xp) {x0 : Option Value} {xi xj : Option Value} {t : List (Option Value)} {z : Int64} (d : decode cc pc = .ok (.lstore 1, 2)) (hn : 1 + 1 < nL) (hc : c1 x0 = true) (kk : ZZ k n (pc + 2) (x0 :: some (.long z) :: none :: t) st L F) : ZZ k n pc (x0 :: xi :: xj :: t) (.long z :: st) L F := by
  subst hZ
  intro p e s m args below meth c D κ hx H locs ls hP hD hS hl
  exact lv_lstore hx.1 hx.2.1 d (lh_has hl) hn rfl (fun ls' h' => kk p e s m args below meth c D κ hx H locs ls' hP hD hS (lh_st2 (lv := x0 :: xi :: xj :: t) h' (fun j w hj hw => by obtain rfl : j = 0 := (by omega); have hw := Option.some.inj hw; rw [hw] at hc; have := eq_of_beq (show (w.category == 1) = true from hc); omega)))
theorem z_dstore_n1 (hZ : ZZ = Zj l y cc nL ret R L0 post xp) {x0 : Option Value} {xi xj : Option Value} {t : List (Option Value)} {z : UInt64} (d : decode cc pc = .ok (.dstore_n 1, 1)) (hn : 1 + 1 < nL) (hc : c1 x0 = true) (kk : ZZ k n (pc + 1) (x0 :: some (.double z) :: none :: t) st L F) : ZZ k n pc (x0 :: xi :: xj :: t) (.double z :: st) L F := by
  subst hZ
  intro p e s m args below meth c D κ hx H locs ls hP hD hS hl
  exact lv_dstore_n hx.1 hx.2.1 d rfl (lh_has hl) hn rfl (fun ls' h' => kk p e s m args below meth c D κ hx H locs ls' hP hD hS (lh_st2 (lv := x0 :: xi :: xj :: t) h' (fun j w hj hw => by obtain rfl : j = 0 := (by omega); have hw := Option.some.inj hw; rw [hw] at hc; have := eq_of_beq (show (w.category == 1) = true from hc); omega)))
theorem z_dstore1 (hZ : ZZ = Zj l y cc nL ret R L0 post xp) {x0 : Option Value} {xi xj : Option Value} {t : List (Option Value)} {z : UInt64} (d : decode cc pc = .ok (.dstore 1, 2)) (hn : 1 + 1 < nL) (hc : c1 x0 = true) (kk : ZZ k n (pc + 2) (x0 :: some (.double z) :: none :: t) st L F) : ZZ k n pc (x0 :: xi :: xj :: t) (.double z :: st) L F := by
  subst hZ
  intro p e s m args below meth c D κ hx H locs ls hP hD hS hl
  exact lv_dstore hx.1 hx.2.1 d (lh_has hl) hn rfl (fun ls' h' => kk p e s m args below meth c D κ hx H locs ls' hP hD hS (lh_st2 (lv := x0 :: xi :: xj :: t) h' (fun j w hj hw => by obtain rfl : j = 0 := (by omega); have hw := Option.some.inj hw; rw [hw] at hc; have := eq_of_beq (show (w.category == 1) = true from hc); omega)))
theorem z_iinc1 (hZ : ZZ = Zj l y cc nL ret R L0 post xp) {x0 : Option Value} {t : List (Option Value)} {a q : Int} (d : decode cc pc = .ok (.iinc 1 q, 3)) (hn : 1 < nL) (hc : c1 x0 = true) (kk : ZZ k n (pc + 3) (x0 :: some (.int (iI (a + q))) :: t) st L F) : ZZ k n pc (x0 :: some (.int (iI a)) :: t) st L F := by
  subst hZ
  intro p e s m args below meth c D κ hx H locs ls hP hD hS hl
  obtain ⟨k9, hk9⟩ := List.getElem?_of_mem (lpr_mem.mpr (show (x0 :: some (Value.int (iI a)) :: t)[1]? = some (some (Value.int (iI a))) from rfl))
  exact lv_iinc hx.1 hx.2.1 d (lh_has hl) hk9 (iI_add a q) hn rfl (fun ls' h' => kk p e s m args below meth c D κ hx H locs ls' hP hD hS (lh_st1 (lv := x0 :: some (.int (iI a)) :: t) h' (fun j w hj hw => by obtain rfl : j = 0 := (by omega); have hw := Option.some.inj hw; rw [hw] at hc; have := eq_of_beq (show (w.category == 1) = true from hc); omega)))
theorem z_iload_n2 (hZ : ZZ = Zj l y cc nL ret R L0 post xp) {x0 x1 : Option Value} {t : List (Option Value)} {z : Int32} (d : decode cc pc = .ok (.iload_n 2, 1)) (kk : ZZ k n (pc + 1) (x0 :: x1 :: some (.int z) :: t) (.int z :: st) L F) : ZZ k n pc (x0 :: x1 :: some (.int z) :: t) (st) L F := by
  subst hZ
  intro p e s m args below meth c D κ hx H locs ls hP hD hS hl
  refine lv_iload_n hx.1 hx.2.1 d rfl (hl.2.2 2 _ rfl) ?_
  exact kk p e s m args below meth c D κ hx H locs ls hP hD hS hl
theorem z_iload2 (hZ : ZZ = Zj l y cc nL ret R L0 post xp) {x0 x1 : Option Value} {t : List (Option Value)} {z : Int32} (d : decode cc pc = .ok (.iload 2, 2)) (kk : ZZ k n (pc + 2) (x0 :: x1 :: some (.int z) :: t) (.int z :: st) L F) : ZZ k n pc (x0 :: x1 :: some (.int z) :: t) (st) L F := by
  subst hZ
  intro p e s m args below meth c D κ hx H locs ls hP hD hS hl
  refine lv_iload hx.1 hx.2.1 d (hl.2.2 2 _ rfl) ?_
  exact kk p e s m args below meth c D κ hx H locs ls hP hD hS hl
theorem z_aload_n2 (hZ : ZZ = Zj l y cc nL ret R L0 post xp) {x0 x1 : Option Value} {t : List (Option Value)} {z : Nat} (d : decode cc pc = .ok (.aload_n 2, 1)) (kk : ZZ k n (pc + 1) (x0 :: x1 :: some (.ref z) :: t) (.ref z :: st) L F) : ZZ k n pc (x0 :: x1 :: some (.ref z) :: t) (st) L F := by
  subst hZ
  intro p e s m args below meth c D κ hx H locs ls hP hD hS hl
  refine lv_aload_n hx.1 hx.2.1 d rfl (hl.2.2 2 _ rfl) ?_
  exact kk p e s m args below meth c D κ hx H locs ls hP hD hS hl
theorem z_aload2 (hZ : ZZ = Zj l y cc nL ret R L0 post xp) {x0 x1 : Option Value} {t : List (Option Value)} {z : Nat} (d : decode cc pc = .ok (.aload 2, 2)) (kk : ZZ k n (pc + 2) (x0 :: x1 :: some (.ref z) :: t) (.ref z :: st) L F) : ZZ k n pc (x0 :: x1 :: some (.ref z) :: t) (st) L F := by
  subst hZ
  intro p e s m args below meth c D κ hx H locs ls hP hD hS hl
  refine lv_aload hx.1 hx.2.1 d (hl.2.2 2 _ rfl) ?_
  exact kk p e s m args below meth c D κ hx H locs ls hP hD hS hl
theorem z_lload_n2 (hZ : ZZ = Zj l y cc nL ret R L0 post xp) {x0 x1 : Option Value} {t : List (Option Value)} {z : Int64} (d : decode cc pc = .ok (.lload_n 2, 1)) (kk : ZZ k n (pc + 1) (x0 :: x1 :: some (.long z) :: t) (.long z :: st) L F) : ZZ k n pc (x0 :: x1 :: some (.long z) :: t) (st) L F := by
  subst hZ
  intro p e s m args below meth c D κ hx H locs ls hP hD hS hl
  refine lv_lload_n hx.1 hx.2.1 d rfl (hl.2.2 2 _ rfl) ?_
  exact kk p e s m args below meth c D κ hx H locs ls hP hD hS hl
theorem z_lload2 (hZ : ZZ = Zj l y cc nL ret R L0 post xp) {x0 x1 : Option Value} {t : List (Option Value)} {z : Int64} (d : decode cc pc = .ok (.lload 2, 2)) (kk : ZZ k n (pc + 2) (x0 :: x1 :: some (.long z) :: t) (.long z :: st) L F) : ZZ k n pc (x0 :: x1 :: some (.long z) :: t) (st) L F := by
  subst hZ
  intro p e s m args below meth c D κ hx H locs ls hP hD hS hl
  refine lv_lload hx.1 hx.2.1 d (hl.2.2 2 _ rfl) ?_
  exact kk p e s m args below meth c D κ hx H locs ls hP hD hS hl
theorem z_dload_n2 (hZ : ZZ = Zj l y cc nL ret R L0 post xp) {x0 x1 : Option Value} {t : List (Option Value)} {z : UInt64} (d : decode cc pc = .ok (.dload_n 2, 1)) (kk : ZZ k n (pc + 1) (x0 :: x1 :: some (.double z) :: t) (.double z :: st) L F) : ZZ k n pc (x0 :: x1 :: some (.double z) :: t) (st) L F := by
  subst hZ
  intro p e s m args below meth c D κ hx H locs ls hP hD hS hl
  refine lv_dload_n hx.1 hx.2.1 d rfl (hl.2.2 2 _ rfl) ?_
  exact kk p e s m args below meth c D κ hx H locs ls hP hD hS hl
theorem z_dload2 (hZ : ZZ = Zj l y cc nL ret R L0 post xp) {x0 x1 : Option Value} {t : List (Option Value)} {z : UInt64} (d : decode cc pc = .ok (.dload 2, 2)) (kk : ZZ k n (pc + 2) (x0 :: x1 :: some (.double z) :: t) (.double z :: st) L F) : ZZ k n pc (x0 :: x1 :: some (.double z) :: t) (st) L F := by
  subst hZ
  intro p e s m args below meth c D κ hx H locs ls hP hD hS hl
  refine lv_dload hx.1 hx.2.1 d (hl.2.2 2 _ rfl) ?_
  exact kk p e s m args below meth c D κ hx H locs ls hP hD hS hl
theorem z_istore_n2 (hZ : ZZ = Zj l y cc nL ret R L0 post xp) {x0 x1 : Option Value} {xi : Option Value} {t : List (Option Value)} {z : Int32} (d : decode cc pc = .ok (.istore_n 2, 1)) (hn : 2 < nL) (hc : c1 x1 = true) (kk : ZZ k n (pc + 1) (x0 :: x1 :: some (.int z) :: t) st L F) : ZZ k n pc (x0 :: x1 :: xi :: t) (.int z :: st) L F := by
  subst hZ
  intro p e s m args below meth c D κ hx H locs ls hP hD hS hl
  exact lv_istore_n hx.1 hx.2.1 d rfl (lh_has hl) hn rfl (fun ls' h' => kk p e s m args below meth c D κ hx H locs ls' hP hD hS (lh_st1 (lv := x0 :: x1 :: xi :: t) h' (fun j w hj hw => by obtain rfl : j = 1 := (by omega); have hw := Option.some.inj hw; rw [hw] at hc; have := eq_of_beq (show (w.category == 1) = true from hc); omega)))
theorem z_istore2 (hZ : ZZ = Zj l y cc nL ret R L0 post xp) {x0 x1 : Option Value} {xi : Option Value} {t : List (Option Value)} {z : Int32} (d : decode cc pc = .ok (.istore 2, 2)) (hn : 2 < nL) (hc : c1 x1 = true) (kk : ZZ k n (pc + 2) (x0 :: x1 :: some (.int z) :: t) st L F) : ZZ k n pc (x0 :: x1 :: xi :: t) (.int z :: st) L F := by
  subst hZ
  intro p e s m args below meth c D κ hx H locs ls hP hD hS hl
  exact lv_istore hx.1 hx.2.1 d (lh_has hl) hn rfl (fun ls' h' => kk p e s m args below meth c D κ hx H locs ls' hP hD hS (lh_st1 (lv := x0 :: x1 :: xi :: t) h' (fun j w hj hw => by obtain rfl : j = 1 := (by omega); have hw := Option.some.inj hw; rw [hw] at hc; have := eq_of_beq (show (w.category == 1) = true from hc); omega)))
theorem z_astore_n2 (hZ : ZZ = Zj l y cc nL ret R L0 post xp) {x0 x1 : Option Value} {xi : Option Value} {t : List (Option Value)} {z : Nat} (d : decode cc pc = .ok (.astore_n 2, 1)) (hn : 2 < nL) (hc : c1 x1 = true) (kk : ZZ k n (pc + 1) (x0 :: x1 :: some (.ref z) :: t) st L F) : ZZ k n pc (x0 :: x1 :: xi :: t) (.ref z :: st) L F := by
  subst hZ
  intro p e s m args below meth c D κ hx H locs ls hP hD hS hl
  exact lv_astore_n hx.1 hx.2.1 d rfl (lh_has hl) hn rfl (fun ls' h' => kk p e s m args below meth c D κ hx H locs ls' hP hD hS (lh_st1 (lv := x0 :: x1 :: xi :: t) h' (fun j w hj hw => by obtain rfl : j = 1 := (by omega); have hw := Option.some.inj hw; rw [hw] at hc; have := eq_of_beq (show (w.category == 1) = true from hc); omega)))
theorem z_astore2 (hZ : ZZ = Zj l y cc nL ret R L0 post xp) {x0 x1 : Option Value} {xi : Option Value} {t : List (Option Value)} {z : Nat} (d : decode cc pc = .ok (.astore 2, 2)) (hn : 2 < nL) (hc : c1 x1 = true) (kk : ZZ k n (pc + 2) (x0 :: x1 :: some (.ref z) :: t) st L F) : ZZ k n pc (x0 :: x1 :: xi :: t) (.ref z :: st) L F := by
  subst hZ
  intro p e s m args below meth c D κ hx H locs ls hP hD hS hl
  exact lv_astore hx.1 hx.2.1 d (lh_has hl) hn rfl (fun ls' h' => kk p e s m args below meth c D κ hx H locs ls' hP hD hS (lh_st1 (lv := x0 :: x1 :: xi :: t) h' (fun j w hj hw => by obtain rfl : j = 1 := (by omega); have hw := Option.some.inj hw; rw [hw] at hc; have := eq_of_beq (show (w.category == 1) = true from hc); omega)))
theorem z_lstore_n2 (hZ : ZZ = Zj l y cc nL ret R L0 post xp) {x0 x1 : Option Value} {xi xj : Option Value} {t : List (Option Value)} {z : Int64} (d : decode cc pc = .ok (.lstore_n 2, 1)) (hn : 2 + 1 < nL) (hc : c1 x1 = true) (kk : ZZ k n (pc + 1) (x0 :: x1 :: some (.long z) :: none :: t) st L F) : ZZ k n pc (x0 :: x1 :: xi :: xj :: t) (.long z :: st) L F := by
  subst hZ
  intro p e s m args below meth c D κ hx H locs ls hP hD hS hl
  exact lv_lstore_n hx.1 hx.2.1 d rfl (lh_has hl) hn rfl (fun ls' h' => kk p e s m args below meth c D κ hx H locs ls' hP hD hS (lh_st2 (lv := x0 :: x1 :: xi :: xj :: t) h' (fun j w hj hw => by obtain rfl : j = 1 := (by omega); have hw := Option.some.inj hw; rw [hw] at hc; have := eq_of_beq (show (w.category == 1) = true from hc); omega)))
theorem z_lstore2 (hZ : ZZ = Zj l y cc nL ret R L0 post xp) {x0 x1 : Option Value} {xi xj : Option Value} {t : List (Option Value)} {z : Int64} (d : decode cc pc = .ok (.lstore 2, 2)) (hn : 2 + 1 < nL) (hc : c1 x1 = true) (kk : ZZ k n (pc + 2) (x0 :: x1 :: some (.long z) :: none :: t) st L F) : ZZ k n pc (x0 :: x1 :: xi :: xj :: t) (.long z :: st) L F := by
  subst hZ
  intro p e s m args below meth c D κ hx H locs ls hP hD hS hl
  exact lv_lstore hx.1 hx.2.1 d (lh_has hl) hn rfl (fun ls' h' => kk p e s m args below meth c D κ hx H locs ls' hP hD hS (lh_st2 (lv := x0 :: x1 :: xi :: xj :: t) h' (fun j w hj hw => by obtain rfl : j = 1 := (by omega); have hw := Option.some.inj hw; rw [hw] at hc; have := eq_of_beq (show (w.category == 1) = true from hc); omega)))
theorem z_dstore_n2 (hZ : ZZ = Zj l y cc nL ret R L0 post xp) {x0 x1 : Option Value} {xi xj : Option Value} {t : List (Option Value)} {z : UInt64} (d : decode cc pc = .ok (.dstore_n 2, 1)) (hn : 2 + 1 < nL) (hc : c1 x1 = true) (kk : ZZ k n (pc + 1) (x0 :: x1 :: some (.double z) :: none :: t) st L F) : ZZ k n pc (x0 :: x1 :: xi :: xj :: t) (.double z :: st) L F := by
  subst hZ
  intro p e s m args below meth c D κ hx H locs ls hP hD hS hl
  exact lv_dstore_n hx.1 hx.2.1 d rfl (lh_has hl) hn rfl (fun ls' h' => kk p e s m args below meth c D κ hx H locs ls' hP hD hS (lh_st2 (lv := x0 :: x1 :: xi :: xj :: t) h' (fun j w hj hw => by obtain rfl : j = 1 := (by omega); have hw := Option.some.inj hw; rw [hw] at hc; have := eq_of_beq (show (w.category == 1) = true from hc); omega)))
theorem z_dstore2 (hZ : ZZ = Zj l y cc nL ret R L0 post xp) {x0 x1 : Option Value} {xi xj : Option Value} {t : List (Option Value)} {z : UInt64} (d : decode cc pc = .ok (.dstore 2, 2)) (hn : 2 + 1 < nL) (hc : c1 x1 = true) (kk : ZZ k n (pc + 2) (x0 :: x1 :: some (.double z) :: none :: t) st L F) : ZZ k n pc (x0 :: x1 :: xi :: xj :: t) (.double z :: st) L F := by
  subst hZ
  intro p e s m args below meth c D κ hx H locs ls hP hD hS hl
  exact lv_dstore hx.1 hx.2.1 d (lh_has hl) hn rfl (fun ls' h' => kk p e s m args below meth c D κ hx H locs ls' hP hD hS (lh_st2 (lv := x0 :: x1 :: xi :: xj :: t) h' (fun j w hj hw => by obtain rfl : j = 1 := (by omega); have hw := Option.some.inj hw; rw [hw] at hc; have := eq_of_beq (show (w.category == 1) = true from hc); omega)))
theorem z_iinc2 (hZ : ZZ = Zj l y cc nL ret R L0 post xp) {x0 x1 : Option Value} {t : List (Option Value)} {a q : Int} (d : decode cc pc = .ok (.iinc 2 q, 3)) (hn : 2 < nL) (hc : c1 x1 = true) (kk : ZZ k n (pc + 3) (x0 :: x1 :: some (.int (iI (a + q))) :: t) st L F) : ZZ k n pc (x0 :: x1 :: some (.int (iI a)) :: t) st L F := by
  subst hZ
  intro p e s m args below meth c D κ hx H locs ls hP hD hS hl
  obtain ⟨k9, hk9⟩ := List.getElem?_of_mem (lpr_mem.mpr (show (x0 :: x1 :: some (Value.int (iI a)) :: t)[2]? = some (some (Value.int (iI a))) from rfl))
  exact lv_iinc hx.1 hx.2.1 d (lh_has hl) hk9 (iI_add a q) hn rfl (fun ls' h' => kk p e s m args below meth c D κ hx H locs ls' hP hD hS (lh_st1 (lv := x0 :: x1 :: some (.int (iI a)) :: t) h' (fun j w hj hw => by obtain rfl : j = 1 := (by omega); have hw := Option.some.inj hw; rw [hw] at hc; have := eq_of_beq (show (w.category == 1) = true from hc); omega)))
theorem z_iload_n3 (hZ : ZZ = Zj l y cc nL ret R L0 post xp) {x0 x1 x2 : Option Value} {t : List (Option Value)} {z : Int32} (d : decode cc pc = .ok (.iload_n 3, 1)) (kk : ZZ k n (pc + 1) (x0 :: x1 :: x2 :: some (.int z) :: t) (.int z :: st) L F) : ZZ k n pc (x0 :: x1 :: x2 :: some (.int z) :: t) (st) L F := by
  subst hZ
  intro p e s m args below meth c D κ hx H locs ls hP hD hS hl
  refine lv_iload_n hx.1 hx.2.1 d rfl (hl.2.2 3 _ rfl) ?_
  exact kk p e s m args below meth c D κ hx H locs ls hP hD hS hl
theorem z_iload3 (hZ : ZZ = Zj l y cc nL ret R L0 post xp) {x0 x1 x2 : Option Value} {t : List (Option Value)} {z : Int32} (d : decode cc pc = .ok (.iload 3, 2)) (kk : ZZ k n (pc + 2) (x0 :: x1 :: x2 :: some (.int z) :: t) (.int z :: st) L F) : ZZ k n pc (x0 :: x1 :: x2 :: some (.int z) :: t) (st) L F := by
  subst hZ
  intro p e s m args below meth c D κ hx H locs ls hP hD hS hl
  refine lv_iload hx.1 hx.2.1 d (hl.2.2 3 _ rfl) ?_
  exact kk p e s m args below meth c D κ hx H locs ls hP hD hS hl
theorem z_aload_n3 (hZ : ZZ = Zj l y cc nL ret R L0 post xp) {x0 x1 x2 : Option Value} {t : List (Option Value)} {z : Nat} (d : decode cc pc = .ok (.aload_n 3, 1)) (kk : ZZ k n (pc + 1) (x0 :: x1 :: x2 :: some (.ref z) :: t) (.ref z :: st) L F) : ZZ k n pc (x0 :: x1 :: x2 :: some (.ref z) :: t) (st) L F := by
  subst hZ
  intro p e s m args below meth c D κ hx H locs ls hP hD hS hl
  refine lv_aload_n hx.1 hx.2.1 d rfl (hl.2.2 3 _ rfl) ?_
  exact kk p e s m args below meth c D κ hx H locs ls hP hD hS hl
theorem z_aload3 (hZ : ZZ = Zj l y cc nL ret R L0 post xp) {x0 x1 x2 : Option Value} {t : List (Option Value)} {z : Nat} (d : decode cc pc = .ok (.aload 3, 2)) (kk : ZZ k n (pc + 2) (x0 :: x1 :: x2 :: some (.ref z) :: t) (.ref z :: st) L F) : ZZ k n pc (x0 :: x1 :: x2 :: some (.ref z) :: t) (st) L F := by
  subst hZ
  intro p e s m args below meth c D κ hx H locs ls hP hD hS hl
  refine lv_aload hx.1 hx.2.1 d (hl.2.2 3 _ rfl) ?_
  exact kk p e s m args below meth c D κ hx H locs ls hP hD hS hl
theorem z_lload_n3 (hZ : ZZ = Zj l y cc nL ret R L0 post xp) {x0 x1 x2 : Option Value} {t : List (Option Value)} {z : Int64} (d : decode cc pc = .ok (.lload_n 3, 1)) (kk : ZZ k n (pc + 1) (x0 :: x1 :: x2 :: some (.long z) :: t) (.long z :: st) L F) : ZZ k n pc (x0 :: x1 :: x2 :: some (.long z) :: t) (st) L F := by
  subst hZ
  intro p e s m args below meth c D κ hx H locs ls hP hD hS hl
  refine lv_lload_n hx.1 hx.2.1 d rfl (hl.2.2 3 _ rfl) ?_
  exact kk p e s m args below meth c D κ hx H locs ls hP hD hS hl
theorem z_lload3 (hZ : ZZ = Zj l y cc nL ret R L0 post xp) {x0 x1 x2 : Option Value} {t : List (Option Value)} {z : Int64} (d : decode cc pc = .ok (.lload 3, 2)) (kk : ZZ k n (pc + 2) (x0 :: x1 :: x2 :: some (.long z) :: t) (.long z :: st) L F) : ZZ k n pc (x0 :: x1 :: x2 :: some (.long z) :: t) (st) L F := by
  subst hZ
  intro p e s m args below meth c D κ hx H locs ls hP hD hS hl
  refine lv_lload hx.1 hx.2.1 d (hl.2.2 3 _ rfl) ?_
  exact kk p e s m args below meth c D κ hx H locs ls hP hD hS hl
theorem z_dload_n3 (hZ : ZZ = Zj l y cc nL ret R L0 post xp) {x0 x1 x2 : Option Value} {t : List (Option Value)} {z : UInt64} (d : decode cc pc = .ok (.dload_n 3, 1)) (kk : ZZ k n (pc + 1) (x0 :: x1 :: x2 :: some (.double z) :: t) (.double z :: st) L F) : ZZ k n pc (x0 :: x1 :: x2 :: some (.double z) :: t) (st) L F := by
  subst hZ
  intro p e s m args below meth c D κ hx H locs ls hP hD hS hl
  refine lv_dload_n hx.1 hx.2.1 d rfl (hl.2.2 3 _ rfl) ?_
  exact kk p e s m args below meth c D κ hx H locs ls hP hD hS hl
theorem z_dload3 (hZ : ZZ = Zj l y cc nL ret R L0 post xp) {x0 x1 x2 : Option Value} {t : List (Option Value)} {z : UInt64} (d : decode cc pc = .ok (.dload 3, 2)) (kk : ZZ k n (pc + 2) (x0 :: x1 :: x2 :: some (.double z) :: t) (.double z :: st) L F) : ZZ k n pc (x0 :: x1 :: x2 :: some (.double z) :: t) (st) L F := by
  subst hZ
  intro p e s m args below meth c D κ hx H locs ls hP hD hS hl
  refine lv_dload hx.1 hx.2.1 d (hl.2.2 3 _ rfl) ?_
  exact kk p e s m args below meth c D κ hx H locs ls hP hD hS hl
theorem z_istore_n3 (hZ : ZZ = Zj l y cc nL ret R L0 post xp) {x0 x1 x2 : Option Value} {xi : Option Value} {t : List (Option Value)} {z : Int32} (d : decode cc pc = .ok (.istore_n 3, 1)) (hn : 3 < nL) (hc : c1 x2 = true) (kk : ZZ k n (pc + 1) (x0 :: x1 :: x2 :: some (.int z) :: t) st L F) : ZZ k n pc (x0 :: x1 :: x2 :: xi :: t) (.int z :: st) L F := by
  subst hZ
  intro p e s m args below meth c D κ hx H locs ls hP hD hS hl
  exact lv_istore_n hx.1 hx.2.1 d rfl (lh_has hl) hn rfl (fun ls' h' => kk p e s m args below meth c D κ hx H locs ls' hP hD hS (lh_st1 (lv := x0 :: x1 :: x2 :: xi :: t) h' (fun j w hj hw => by obtain rfl : j = 2 := (by omega); have hw := Option.some.inj hw; rw [hw] at hc; have := eq_of_beq (show (w.category == 1) = true from hc); omega)))
theorem z_istore3 (hZ : ZZ = Zj l y cc nL ret R L0 post xp) {x0 x1 x2 : Option Value} {xi : Option Value} {t : List (Option Value)} {z : Int32} (d : decode cc pc = .ok (.istore 3, 2)) (hn : 3 < nL) (hc : c1 x2 = true) (kk : ZZ k n (pc + 2) (x0 :: x1 :: x2 :: some (.int z) :: t) st L F) : ZZ k n pc (x0 :: x1 :: x2 :: xi :: t) (.int z :: st) L F := by
  subst hZ
  intro p e s m args below meth c D κ hx H locs ls hP hD hS hl
  exact lv_istore hx.1 hx.2.1 d (lh_has hl) hn rfl (fun ls' h' => kk p e s m args below meth c D κ hx H locs ls' hP hD hS (lh_st1 (lv := x0 :: x1 :: x2 :: xi :: t) h' (fun j w hj hw => by obtain rfl : j = 2 := (by omega); have hw := Option.some.inj hw; rw [hw] at hc; have := eq_of_beq (show (w.category == 1) = true from hc); omega)))
theorem z_astore_n3 (hZ : ZZ = Zj l y cc nL ret R L0 post xp) {x0 x1 x2 : Option Value} {xi : Option Value} {t : List (Option Value)} {z : Nat} (d : decode cc pc = .ok (.astore_n 3, 1)) (hn : 3 < nL) (hc : c1 x2 = true) (kk : ZZ k n (pc + 1) (x0 :: x1 :: x2 :: some (.ref z) :: t) st L F) : ZZ k n pc (x0 :: x1 :: x2 :: xi :: t) (.ref z :: st) L F := by
  subst hZ
  intro p e s m args below meth c D κ hx H locs ls hP hD hS hl
  exact lv_astore_n hx.1 hx.2.1 d rfl (lh_has hl) hn rfl (fun ls' h' => kk p e s m args below meth c D κ hx H locs ls' hP hD hS (lh_st1 (lv := x0 :: x1 :: x2 :: xi :: t) h' (fun j w hj hw => by obtain rfl : j = 2 := (by omega); have hw := Option.some.inj hw; rw [hw] at hc; have := eq_of_beq (show (w.category == 1) = true from hc); omega)))
theorem z_astore3 (hZ : ZZ = Zj l y cc nL ret R L0 post xp) {x0 x1 x2 : Option Value} {xi : Option Value} {t : List (Option Value)} {z : Nat} (d : decode cc pc = .ok (.astore 3, 2)) (hn : 3 < nL) (hc : c1 x2 = true) (kk : ZZ k n (pc + 2) (x0 :: x1 :: x2 :: some (.ref z) :: t) st L F) : ZZ k n pc (x0 :: x1 :: x2 :: xi :: t) (.ref z :: st) L F := by
  subst hZ
  intro p e s m args below meth c D κ hx H locs ls hP hD hS hl
  exact lv_astore hx.1 hx.2.1 d (lh_has hl) hn rfl (fun ls' h' => kk p e s m args below meth c D κ hx H locs ls' hP hD hS (lh_st1 (lv := x0 :: x1 :: x2 :: xi :: t) h' (fun j w hj hw => by obtain rfl : j = 2 := (by omega); have hw := Option.some.inj hw; rw [hw] at hc; have := eq_of_beq (show (w.category == 1) = true from hc); omega)))
theorem z_lstore_n3 (hZ : ZZ = Zj l y cc nL ret R L0 post xp) {x0 x1 x2 : Option Value} {xi xj : Option Value} {t : List (Option Value)} {z : Int64} (d : decode cc pc = .ok (.lstore_n 3, 1)) (hn : 3 + 1 < nL) (hc : c1 x2 = true) (kk : ZZ k n (pc + 1) (x0 :: x1 :: x2 :: some (.long z) :: none :: t) st L F) : ZZ k n pc (x0 :: x1 :: x2 :: xi :: xj :: t) (.long z :: st) L F := by
  subst hZ
  intro p e s m args below meth c D κ hx H locs ls hP hD hS hl
  exact lv_lstore_n hx.1 hx.2.1 d rfl (lh_has hl) hn rfl (fun ls' h' => kk p e s m args below meth c D κ hx H locs ls' hP hD hS (lh_st2 (lv := x0 :: x1 :: x2 :: xi :: xj :: t) h' (fun j w hj hw => by obtain rfl : j = 2 := (by omega); have hw := Option.some.inj hw; rw [hw] at hc; have := eq_of_beq (show (w.category == 1) = true from hc); omega)))
theorem z_lstore3 (hZ : ZZ = Zj l y cc nL ret R L0 post xp) {x0 x1 x2 : Option Value} {xi xj : Option Value} {t : List (Option Value)} {z : Int64} (d : decode cc pc = .ok (.lstore 3, 2)) (hn : 3 + 1 < nL) (hc : c1 x2 = true) (kk : ZZ k n (pc + 2) (x0 :: x1 :: x2 :: some (.long z) :: none :: t) st L F) : ZZ k n pc (x0 :: x1 :: x2 :: xi :: xj :: t) (.long z :: st) L F := by
  subst hZ
  intro p e s m args below meth c D κ hx H locs ls hP hD hS hl
  exact lv_lstore hx.1 hx.2.1 d (lh_has hl) hn rfl (fun ls' h' => kk p e s m args below meth c D κ hx H locs ls' hP hD hS (lh_st2 (lv := x0 :: x1 :: x2 :: xi :: xj :: t) h' (fun j w hj hw => by obtain rfl : j = 2 := (by omega); have hw := Option.some.inj hw; rw [hw] at hc; have := eq_of_beq (show (w.category == 1) = true from hc); omega)))
theorem z_dstore_n3 (hZ : ZZ = Zj l y cc nL ret R L0 post xp) {x0 x1 x2 : Option Value} {xi xj : Option Value} {t : List (Option Value)} {z : UInt64} (d : decode cc pc = .ok (.dstore_n 3, 1)) (hn : 3 + 1 < nL) (hc : c1 x2 = true) (kk : ZZ k n (pc + 1) (x0 :: x1 :: x2 :: some (.double z) :: none :: t) st L F) : ZZ k n pc (x0 :: x1 :: x2 :: xi :: xj :: t) (.double z :: st) L F := by
  subst hZ
  intro p e s m args below meth c D κ hx H locs ls hP hD hS hl
  exact lv_dstore_n hx.1 hx.2.1 d rfl (lh_has hl) hn rfl (fun ls' h' => kk p e s m args below meth c D κ hx H locs ls' hP hD hS (lh_st2 (lv := x0 :: x1 :: x2 :: xi :: xj :: t) h' (fun j w hj hw => by obtain rfl : j = 2 := (by omega); have hw := Option.some.inj hw; rw [hw] at hc; have := eq_of_beq (show (w.category == 1) = true from hc); omega)))
theorem z_dstore3 (hZ : ZZ = Zj l y cc nL ret R L0 post xp) {x0 x1 x2 : Option Value} {xi xj : Option Value} {t : List (Option Value)} {z : UInt64} (d : decode cc pc = .ok (.dstore 3, 2)) (hn : 3 + 1 < nL) (hc : c1 x2 = true) (kk : ZZ k n (pc + 2) (x0 :: x1 :: x2 :: some (.double z) :: none :: t) st L F) : ZZ k n pc (x0 :: x1 :: x2 :: xi :: xj :: t) (.double z :: st) L F := by
  subst hZ
  intro p e s m args below meth c D κ hx H locs ls hP hD hS hl
  exact lv_dstore hx.1 hx.2.1 d (lh_has hl) hn rfl (fun ls' h' => kk p e s m args below meth c D κ hx H locs ls' hP hD hS (lh_st2 (lv := x0 :: x1 :: x2 :: xi :: xj :: t) h' (fun j w hj hw => by obtain rfl : j = 2 := (by omega); have hw := Option.some.inj hw; rw [hw] at hc; have := eq_of_beq (show (w.category == 1) = true from hc); omega)))
theorem z_iinc3 (hZ : ZZ = Zj l y cc nL ret R L0 post xp) {x0 x1 x2 : Option Value} {t : List (Option Value)} {a q : Int} (d : decode cc pc = .ok (.iinc 3 q, 3)) (hn : 3 < nL) (hc : c1 x2 = true) (kk : ZZ k n (pc + 3) (x0 :: x1 :: x2 :: some (.int (iI (a + q))) :: t) st L F) : ZZ k n pc (x0 :: x1 :: x2 :: some (.int (iI a)) :: t) st L F := by
  subst hZ
  intro p e s m args below meth c D κ hx H locs ls hP hD hS hl
  obtain ⟨k9, hk9⟩ := List.getElem?_of_mem (lpr_mem.mpr (show (x0 :: x1 :: x2 :: some (Value.int (iI a)) :: t)[3]? = some (some (Value.int (iI a))) from rfl))
  exact lv_iinc hx.1 hx.2.1 d (lh_has hl) hk9 (iI_add a q) hn rfl (fun ls' h' => kk p e s m args below meth c D κ hx H locs ls' hP hD hS (lh_st1 (lv := x0 :: x1 :: x2 :: some (.int (iI a)) :: t) h' (fun j w hj hw => by obtain rfl : j = 2 := (by omega); have hw := Option.some.inj hw; rw [hw] at hc; have := eq_of_beq (show (w.category == 1) = true from hc); omega)))
theorem z_iload4 (hZ : ZZ = Zj l y cc nL ret R L0 post xp) {x0 x1 x2 x3 : Option Value} {t : List (Option Value)} {z : Int32} (d : decode cc pc = .ok (.iload 4, 2)) (kk : ZZ k n (pc + 2) (x0 :: x1 :: x2 :: x3 :: some (.int z) :: t) (.int z :: st) L F) : ZZ k n pc (x0 :: x1 :: x2 :: x3 :: some (.int z) :: t) (st) L F := by
  subst hZ
  intro p e s m args below meth c D κ hx H locs ls hP hD hS hl
  refine lv_iload hx.1 hx.2.1 d (hl.2.2 4 _ rfl) ?_
  exact kk p e s m args below meth c D κ hx H locs ls hP hD hS hl
theorem z_aload4 (hZ : ZZ = Zj l y cc nL ret R L0 post xp) {x0 x1 x2 x3 : Option Value} {t : List (Option Value)} {z : Nat} (d : decode cc pc = .ok (.aload 4, 2)) (kk : ZZ k n (pc + 2) (x0 :: x1 :: x2 :: x3 :: some (.ref z) :: t) (.ref z :: st) L F) : ZZ k n pc (x0 :: x1 :: x2 :: x3 :: some (.ref z) :: t) (st) L F := by
  subst hZ
  intro p e s m args below meth c D κ hx H locs ls hP hD hS hl
  refine lv_aload hx.1 hx.2.1 d (hl.2.2 4 _ rfl) ?_
  exact kk p e s m args below meth c D κ hx H locs ls hP hD hS hl
theorem z_lload4 (hZ : ZZ = Zj l y cc nL ret R L0 post xp) {x0 x1 x2 x3 : Option Value} {t : List (Option Value)} {z : Int64} (d : decode cc pc = .ok (.lload 4, 2)) (kk : ZZ k n (pc + 2) (x0 :: x1 :: x2 :: x3 :: some (.long z) :: t) (.long z :: st) L F) : ZZ k n pc (x0 :: x1 :: x2 :: x3 :: some (.long z) :: t) (st) L F := by
  subst hZ
  intro p e s m args below meth c D κ hx H locs ls hP hD hS hl
  refine lv_lload hx.1 hx.2.1 d (hl.2.2 4 _ rfl) ?_
  exact kk p e s m args below meth c D κ hx H locs ls hP hD hS hl
theorem z_dload4 (hZ : ZZ = Zj l y cc nL ret R L0 post xp) {x0 x1 x2 x3 : Option Value} {t : List (Option Value)} {z : UInt64} (d : decode cc pc = .ok (.dload 4, 2)) (kk : ZZ k n (pc + 2) (x0 :: x1 :: x2 :: x3 :: some (.double z) :: t) (.double z :: st) L F) : ZZ k n pc (x0 :: x1 :: x2 :: x3 :: some (.double z) :: t) (st) L F := by
  subst hZ
  intro p e s m args below meth c D κ hx H locs ls hP hD hS hl
  refine lv_dload hx.1 hx.2.1 d (hl.2.2 4 _ rfl) ?_
  exact kk p e s m args below meth c D κ hx H locs ls hP hD hS hl
theorem z_istore4 (hZ : ZZ = Zj l y cc nL ret R L0 post xp) {x0 x1 x2 x3 : Option Value} {xi : Option Value} {t : List (Option Value)} {z : Int32} (d : decode cc pc = .ok (.istore 4, 2)) (hn : 4 < nL) (hc : c1 x3 = true) (kk : ZZ k n (pc + 2) (x0 :: x1 :: x2 :: x3 :: some (.int z) :: t) st L F) : ZZ k n pc (x0 :: x1 :: x2 :: x3 :: xi :: t) (.int z :: st) L F := by
  subst hZ
  intro p e s m args below meth c D κ hx H locs ls hP hD hS hl
  exact lv_istore hx.1 hx.2.1 d (lh_has hl) hn rfl (fun ls' h' => kk p e s m args below meth c D κ hx H locs ls' hP hD hS (lh_st1 (lv := x0 :: x1 :: x2 :: x3 :: xi :: t) h' (fun j w hj hw => by obtain rfl : j = 3 := (by omega); have hw := Option.some.inj hw; rw [hw] at hc; have := eq_of_beq (show (w.category == 1) = true from hc); omega)))
theorem z_astore4 (hZ : ZZ = Zj l y cc nL ret R L0 post xp) {x0 x1 x2 x3 : Option Value} {xi : Option Value} {t : List (Option Value)} {z : Nat} (d : decode cc pc = .ok (.astore 4, 2)) (hn : 4 < nL) (hc : c1 x3 = true) (kk : ZZ k n (pc + 2) (x0 :: x1 :: x2 :: x3 :: some (.ref z) :: t) st L F) : ZZ k n pc (x0 :: x1 :: x2 :: x3 :: xi :: t) (.ref z :: st) L F := by
  subst hZ
  intro p e s m args below meth c D κ hx H locs ls hP hD hS hl
  exact lv_astore hx.1 hx.2.1 d (lh_has hl) hn rfl (fun ls' h' => kk p e s m args below meth c D κ hx H locs ls' hP hD hS (lh_st1 (lv := x0 :: x1 :: x2 :: x3 :: xi :: t) h' (fun j w hj hw => by obtain rfl : j = 3 := (by omega); have hw := Option.some.inj hw; rw [hw] at hc; have := eq_of_beq (show (w.category == 1) = true from hc); omega)))
theorem z_lstore4 (hZ : ZZ = Zj l y cc nL ret R L0 post xp) {x0 x1 x2 x3 : Option Value} {xi xj : Option Value} {t : List (Option Value)} {z : Int64} (d : decode cc pc = .ok (.lstore 4, 2)) (hn : 4 + 1 < nL) (hc : c1 x3 = true) (kk : ZZ k n (pc + 2) (x0 :: x1 :: x2 :: x3 :: some (.long z) :: none :: t) st L F) : ZZ k n pc (x0 :: x1 :: x2 :: x3 :: xi :: xj :: t) (.long z :: st) L F := by
  subst hZ
  intro p e s m args below meth c D κ hx H locs ls hP hD hS hl
  exact lv_lstore hx.1 hx.2.1 d (lh_has hl) hn rfl (fun ls' h' => kk p e s m args below meth c D κ hx H locs ls' hP hD hS (lh_st2 (lv := x0 :: x1 :: x2 :: x3 :: xi :: xj :: t) h' (fun j w hj hw => by obtain rfl : j = 3 := (by omega); have hw := Option.some.inj hw; rw [hw] at hc; have := eq_of_beq (show (w.category == 1) = true from hc); omega)))
theorem z_dstore4 (hZ : ZZ = Zj l y cc nL ret R L0 post xp) {x0 x1 x2 x3 : Option Value} {xi xj : Option Value} {t : List (Option Value)} {z : UInt64} (d : decode cc pc = .ok (.dstore 4, 2)) (hn : 4 + 1 < nL) (hc : c1 x3 = true) (kk : ZZ k n (pc + 2) (x0 :: x1 :: x2 :: x3 :: some (.double z) :: none :: t) st L F) : ZZ k n pc (x0 :: x1 :: x2 :: x3 :: xi :: xj :: t) (.double z :: st) L F := by
  subst hZ
  intro p e s m args below meth c D κ hx H locs ls hP hD hS hl
  exact lv_dstore hx.1 hx.2.1 d (lh_has hl) hn rfl (fun ls' h' => kk p e s m args below meth c D κ hx H locs ls' hP hD hS (lh_st2 (lv := x0 :: x1 :: x2 :: x3 :: xi :: xj :: t) h' (fun j w hj hw => by obtain rfl : j = 3 := (by omega); have hw := Option.some.inj hw; rw [hw] at hc; have := eq_of_beq (show (w.category == 1) = true from hc); omega)))
theorem z_iinc4 (hZ : ZZ = Zj l y cc nL ret R L0 post xp) {x0 x1 x2 x3 : Option Value} {t : List (Option Value)} {a q : Int} (d : decode cc pc = .ok (.iinc 4 q, 3)) (hn : 4 < nL) (hc : c1 x3 = true) (kk : ZZ k n (pc + 3) (x0 :: x1 :: x2 :: x3 :: some (.int (iI (a + q))) :: t) st L F) : ZZ k n pc (x0 :: x1 :: x2 :: x3 :: some (.int (iI a)) :: t) st L F := by
  subst hZ
  intro p e s m args below meth c D κ hx H locs ls hP hD hS hl
  obtain ⟨k9, hk9⟩ := List.getElem?_of_mem (lpr_mem.mpr (show (x0 :: x1 :: x2 :: x3 :: some (Value.int (iI a)) :: t)[4]? = some (some (Value.int (iI a))) from rfl))
  exact lv_iinc hx.1 hx.2.1 d (lh_has hl) hk9 (iI_add a q) hn rfl (fun ls' h' => kk p e s m args below meth c D κ hx H locs ls' hP hD hS (lh_st1 (lv := x0 :: x1 :: x2 :: x3 :: some (.int (iI a)) :: t) h' (fun j w hj hw => by obtain rfl : j = 3 := (by omega); have hw := Option.some.inj hw; rw [hw] at hc; have := eq_of_beq (show (w.category == 1) = true from hc); omega)))
theorem z_iload5 (hZ : ZZ = Zj l y cc nL ret R L0 post xp) {x0 x1 x2 x3 x4 : Option Value} {t : List (Option Value)} {z : Int32} (d : decode cc pc = .ok (.iload 5, 2)) (kk : ZZ k n (pc + 2) (x0 :: x1 :: x2 :: x3 :: x4 :: some (.int z) :: t) (.int z :: st) L F) : ZZ k n pc (x0 :: x1 :: x2 :: x3 :: x4 :: some (.int z) :: t) (st) L F := by
  subst hZ
  intro p e s m args below meth c D κ hx H locs ls hP hD hS hl
  refine lv_iload hx.1 hx.2.1 d (hl.2.2 5 _ rfl) ?_
  exact kk p e s m args below meth c D κ hx H locs ls hP hD hS hl
theorem z_aload5 (hZ : ZZ = Zj l y cc nL ret R L0 post xp) {x0 x1 x2 x3 x4 : Option Value} {t : List (Option Value)} {z : Nat} (d : decode cc pc = .ok (.aload 5, 2)) (kk : ZZ k n (pc + 2) (x0 :: x1 :: x2 :: x3 :: x4 :: some (.ref z) :: t) (.ref z :: st) L F) : ZZ k n pc (x0 :: x1 :: x2 :: x3 :: x4 :: some (.ref z) :: t) (st) L F := by
  subst hZ
  intro p e s m args below meth c D κ hx H locs ls hP hD hS hl
  refine lv_aload hx.1 hx.2.1 d (hl.2.2 5 _ rfl) ?_
  exact kk p e s m args below meth c D κ hx H locs ls hP hD hS hl
theorem z_lload5 (hZ : ZZ = Zj l y cc nL ret R L0 post xp) {x0 x1 x2 x3 x4 : Option Value} {t : List (Option Value)} {z : Int64} (d : decode cc pc = .ok (.lload 5, 2)) (kk : ZZ k n (pc + 2) (x0 :: x1 :: x2 :: x3 :: x4 :: some (.long z) :: t) (.long z :: st) L F) : ZZ k n pc (x0 :: x1 :: x2 :: x3 :: x4 :: some (.long z) :: t) (st) L F := by
  subst hZ
  intro p e s m args below meth c D κ hx H locs ls hP hD hS hl
  refine lv_lload hx.1 hx.2.1 d (hl.2.2 5 _ rfl) ?_
  exact kk p e s m args below meth c D κ hx H locs ls hP hD hS hl
theorem z_dload5 (hZ : ZZ = Zj l y cc nL ret R L0 post xp) {x0 x1 x2 x3 x4 : Option Value} {t : List (Option Value)} {z : UInt64} (d : decode cc pc = .ok (.dload 5, 2)) (kk : ZZ k n (pc + 2) (x0 :: x1 :: x2 :: x3 :: x4 :: some (.double z) :: t) (.double z :: st) L F) : ZZ k n pc (x0 :: x1 :: x2 :: x3 :: x4 :: some (.double z) :: t) (st) L F := by
  subst hZ
  intro p e s m args below meth c D κ hx H locs ls hP hD hS hl
  refine lv_dload hx.1 hx.2.1 d (hl.2.2 5 _ rfl) ?_
  exact kk p e s m args below meth c D κ hx H locs ls hP hD hS hl
theorem z_istore5 (hZ : ZZ = Zj l y cc nL ret R L0 post xp) {x0 x1 x2 x3 x4 : Option Value} {xi : Option Value} {t : List (Option Value)} {z : Int32} (d : decode cc pc = .ok (.istore 5, 2)) (hn : 5 < nL) (hc : c1 x4 = true) (kk : ZZ k n (pc + 2) (x0 :: x1 :: x2 :: x3 :: x4 :: some (.int z) :: t) st L F) : ZZ k n pc (x0 :: x1 :: x2 :: x3 :: x4 :: xi :: t) (.int z :: st) L F := by
  subst hZ
  intro p e s m args below meth c D κ hx H locs ls hP hD hS hl
  exact lv_istore hx.1 hx.2.1 d (lh_has hl) hn rfl (fun ls' h' => kk p e s m args below meth c D κ hx H locs ls' hP hD hS (lh_st1 (lv := x0 :: x1 :: x2 :: x3 :: x4 :: xi :: t) h' (fun j w hj hw => by obtain rfl : j = 4 := (by omega); have hw := Option.some.inj hw; rw [hw] at hc; have := eq_of_beq (show (w.category == 1) = true from hc); omega)))
theorem z_astore5 (hZ : ZZ = Zj l y cc nL ret R L0 post xp) {x0 x1 x2 x3 x4 : Option Value} {xi : Option Value} {t : List (Option Value)} {z : Nat} (d : decode cc pc = .ok (.astore 5, 2)) (hn : 5 < nL) (hc : c1 x4 = true) (kk : ZZ k n (pc + 2) (x0 :: x1 :: x2 :: x3 :: x4 :: some (.ref z) :: t) st L F) : ZZ k n pc (x0 :: x1 :: x2 :: x3 :: x4 :: xi :: t) (.ref z :: st) L F := by
  subst hZ
  intro p e s m args below meth c D κ hx H locs ls hP hD hS hl
  exact lv_astore hx.1 hx.2.1 d (lh_has hl) hn rfl (fun ls' h' => kk p e s m args below meth c D κ hx H locs ls' hP hD hS (lh_st1 (lv := x0 :: x1 :: x2 :: x3 :: x4 :: xi :: t) h' (fun j w hj hw => by obtain rfl : j = 4 := (by omega); have hw := Option.some.inj hw; rw [hw] at hc; have := eq_of_beq (show (w.category == 1) = true from hc); omega)))
theorem z_lstore5 (hZ : ZZ = Zj l y cc nL ret R L0 post xp) {x0 x1 x2 x3 x4 : Option Value} {xi xj : Option Value} {t : List (Option Value)} {z : Int64} (d : decode cc pc = .ok (.lstore 5, 2)) (hn : 5 + 1 < nL) (hc : c1 x4 = true) (kk : ZZ k n (pc + 2) (x0 :: x1 :: x2 :: x3 :: x4 :: some (.long z) :: none :: t) st L F) : ZZ k n pc (x0 :: x1 :: x2 :: x3 :: x4 :: xi :: xj :: t) (.long z :: st) L F := by
  subst hZ
  intro p e s m args below meth c D κ hx H locs ls hP hD hS hl
  exact lv_lstore hx.1 hx.2.1 d (lh_has hl) hn rfl (fun ls' h' => kk p e s m args below meth c D κ hx H locs ls' hP hD hS (lh_st2 (lv := x0 :: x1 :: x2 :: x3 :: x4 :: xi :: xj :: t) h' (fun j w hj hw => by obtain rfl : j = 4 := (by omega); have hw := Option.some.inj hw; rw [hw] at hc; have := eq_of_beq (show (w.category == 1) = true from hc); omega)))
theorem z_dstore5 (hZ : ZZ = Zj l y cc nL ret R L0 post xp) {x0 x1 x2 x3 x4 : Option Value} {xi xj : Option Value} {t : List (Option Value)} {z : UInt64} (d : decode cc pc = .ok (.dstore 5, 2)) (hn : 5 + 1 < nL) (hc : c1 x4 = true) (kk : ZZ k n (pc + 2) (x0 :: x1 :: x2 :: x3 :: x4 :: some (.double z) :: none :: t) st L F) : ZZ k n pc (x0 :: x1 :: x2 :: x3 :: x4 :: xi :: xj :: t) (.double z :: st) L F := by
  subst hZ
  intro p e s m args below meth c D κ hx H locs ls hP hD hS hl
  exact lv_dstore hx.1 hx.2.1 d (lh_has hl) hn rfl (fun ls' h' => kk p e s m args below meth c D κ hx H locs ls' hP hD hS (lh_st2 (lv := x0 :: x1 :: x2 :: x3 :: x4 :: xi :: xj :: t) h' (fun j w hj hw => by obtain rfl : j = 4 := (by omega); have hw := Option.some.inj hw; rw [hw] at hc; have := eq_of_beq (show (w.category == 1) = true from hc); omega)))
theorem z_iinc5 (hZ : ZZ = Zj l y cc nL ret R L0 post xp) {x0 x1 x2 x3 x4 : Option Value} {t : List (Option Value)} {a q : Int} (d : decode cc pc = .ok (.iinc 5 q, 3)) (hn : 5 < nL) (hc : c1 x4 = true) (kk : ZZ k n (pc + 3) (x0 :: x1 :: x2 :: x3 :: x4 :: some (.int (iI (a + q))) :: t) st L F) : ZZ k n pc (x0 :: x1 :: x2 :: x3 :: x4 :: some (.int (iI a)) :: t) st L F := by
  subst hZ
  intro p e s m args below meth c D κ hx H locs ls hP hD hS hl
  obtain ⟨k9, hk9⟩ := List.getElem?_of_mem (lpr_mem.mpr (show (x0 :: x1 :: x2 :: x3 :: x4 :: some (Value.int (iI a)) :: t)[5]? = some (some (Value.int (iI a))) from rfl))
  exact lv_iinc hx.1 hx.2.1 d (lh_has hl) hk9 (iI_add a q) hn rfl (fun ls' h' => kk p e s m args below meth c D κ hx H locs ls' hP hD hS (lh_st1 (lv := x0 :: x1 :: x2 :: x3 :: x4 :: some (.int (iI a)) :: t) h' (fun j w hj hw => by obtain rfl : j = 4 := (by omega); have hw := Option.some.inj hw; rw [hw] at hc; have := eq_of_beq (show (w.category == 1) = true from hc); omega)))
theorem z_iload6 (hZ : ZZ = Zj l y cc nL ret R L0 post xp) {x0 x1 x2 x3 x4 x5 : Option Value} {t : List (Option Value)} {z : Int32} (d : decode cc pc = .ok (.iload 6, 2)) (kk : ZZ k n (pc + 2) (x0 :: x1 :: x2 :: x3 :: x4 :: x5 :: some (.int z) :: t) (.int z :: st) L F) : ZZ k n pc (x0 :: x1 :: x2 :: x3 :: x4 :: x5 :: some (.int z) :: t) (st) L F := by
  subst hZ
  intro p e s m args below meth c D κ hx H locs ls hP hD hS hl
  refine lv_iload hx.1 hx.2.1 d (hl.2.2 6 _ rfl) ?_
  exact kk p e s m args below meth c D κ hx H locs ls hP hD hS hl
theorem z_aload6 (hZ : ZZ = Zj l y cc nL ret R L0 post xp) {x0 x1 x2 x3 x4 x5 : Option Value} {t : List (Option Value)} {z : Nat} (d : decode cc pc = .ok (.aload 6, 2)) (kk : ZZ k n (pc + 2) (x0 :: x1 :: x2 :: x3 :: x4 :: x5 :: some (.ref z) :: t) (.ref z :: st) L F) : ZZ k n pc (x0 :: x1 :: x2 :: x3 :: x4 :: x5 :: some (.ref z) :: t) (st) L F := by
  subst hZ
  intro p e s m args below meth c D κ hx H locs ls hP hD hS hl
  refine lv_aload hx.1 hx.2.1 d (hl.2.2 6 _ rfl) ?_
  exact kk p e s m args below meth c D κ hx H locs ls hP hD hS hl
theorem z_lload6 (hZ : ZZ = Zj l y cc nL ret R L0 post xp) {x0 x1 x2 x3 x4 x5 : Option Value} {t : List (Option Value)} {z : Int64} (d : decode cc pc = .ok (.lload 6, 2)) (kk : ZZ k n (pc + 2) (x0 :: x1 :: x2 :: x3 :: x4 :: x5 :: some (.long z) :: t) (.long z :: st) L F) : ZZ k n pc (x0 :: x1 :: x2 :: x3 :: x4 :: x5 :: some (.long z) :: t) (st) L F := by
  subst hZ
  intro p e s m args below meth c D κ hx H locs ls hP hD hS hl
  refine lv_lload hx.1 hx.2.1 d (hl.2.2 6 _ rfl) ?_
  exact kk p e s m args below meth c D κ hx H locs ls hP hD hS hl
theorem z_dload6 (hZ : ZZ = Zj l y cc nL ret R L0 post xp) {x0 x1 x2 x3 x4 x5 : Option Value} {t : List (Option Value)} {z : UInt64} (d : decode cc pc = .ok (.dload 6, 2)) (kk : ZZ k n (pc + 2) (x0 :: x1 :: x2 :: x3 :: x4 :: x5 :: some (.double z) :: t) (.double z :: st) L F) : ZZ k n pc (x0 :: x1 :: x2 :: x3 :: x4 :: x5 :: some (.double z) :: t) (st) L F := by
  subst hZ
  intro p e s m args below meth c D κ hx H locs ls hP hD hS hl
  refine lv_dload hx.1 hx.2.1 d (hl.2.2 6 _ rfl) ?_
  exact kk p e s m args below meth c D κ hx H locs ls hP hD hS hl
theorem z_istore6 (hZ : ZZ = Zj l y cc nL ret R L0 post xp) {x0 x1 x2 x3 x4 x5 : Option Value} {xi : Option Value} {t : List (Option Value)} {z : Int32} (d : decode cc pc = .ok (.istore 6, 2)) (hn : 6 < nL) (hc : c1 x5 = true) (kk : ZZ k n (pc + 2) (x0 :: x1 :: x2 :: x3 :: x4 :: x5 :: some (.int z) :: t) st L F) : ZZ k n pc (x0 :: x1 :: x2 :: x3 :: x4 :: x5 :: xi :: t) (.int z :: st) L F := by
  subst hZ
  intro p e s m args below meth c D κ hx H locs ls hP hD hS hl
  exact lv_istore hx.1 hx.2.1 d (lh_has hl) hn rfl (fun ls' h' => kk p e s m args below meth c D κ hx H locs ls' hP hD hS (lh_st1 (lv := x0 :: x1 :: x2 :: x3 :: x4 :: x5 :: xi :: t) h' (fun j w hj hw => by obtain rfl : j = 5 := (by omega); have hw := Option.some.inj hw; rw [hw] at hc; have := eq_of_beq (show (w.category == 1) = true from hc); omega)))
theorem z_astore6 (hZ : ZZ = Zj l y cc nL ret R L0 post xp) {x0 x1 x2 x3 x4 x5 : Option Value} {xi : Option Value} {t : List (Option Value)} {z : Nat} (d : decode cc pc = .ok (.astore 6, 2)) (hn : 6 < nL) (hc : c1 x5 = true) (kk : ZZ k n (pc + 2) (x0 :: x1 :: x2 :: x3 :: x4 :: x5 :: some (.ref z) :: t) st L F) : ZZ k n pc (x0 :: x1 :: x2 :: x3 :: x4 :: x5 :: xi :: t) (.ref z :: st) L F := by
  subst hZ
  intro p e s m args below meth c D κ hx H locs ls hP hD hS hl
  exact lv_astore hx.1 hx.2.1 d (lh_has hl) hn rfl (fun ls' h' => kk p e s m args below meth c D κ hx H locs ls' hP hD hS (lh_st1 (lv := x0 :: x1 :: x2 :: x3 :: x4 :: x5 :: xi :: t) h' (fun j w hj hw => by obtain rfl : j = 5 := (by omega); have hw := Option.some.inj hw; rw [hw] at hc; have := eq_of_beq (show (w.category == 1) = true from hc); omega)))
theorem z_lstore6 (hZ : ZZ = Zj l y cc nL ret R L0 post xp) {x0 x1 x2 x3 x4 x5 : Option Value} {xi xj : Option Value} {t : List (Option Value)} {z : Int64} (d : decode cc pc = .ok (.lstore 6, 2)) (hn : 6 + 1 < nL) (hc : c1 x5 = true) (kk : ZZ k n (pc + 2) (x0 :: x1 :: x2 :: x3 :: x4 :: x5 :: some (.long z) :: none :: t) st L F) : ZZ k n pc (x0 :: x1 :: x2 :: x3 :: x4 :: x5 :: xi :: xj :: t) (.long z :: st) L F := by
  subst hZ
  intro p e s m args below meth c D κ hx H locs ls hP hD hS hl
  exact lv_lstore hx.1 hx.2.1 d (lh_has hl) hn rfl (fun ls' h' => kk p e s m args below meth c D κ hx H locs ls' hP hD hS (lh_st2 (lv := x0 :: x1 :: x2 :: x3 :: x4 :: x5 :: xi :: xj :: t) h' (fun j w hj hw => by obtain rfl : j = 5 := (by omega); have hw := Option.some.inj hw; rw [hw] at hc; have := eq_of_beq (show (w.category == 1) = true from hc); omega)))
theorem z_dstore6 (hZ : ZZ = Zj l y cc nL ret R L0 post xp) {x0 x1 x2 x3 x4 x5 : Option Value} {xi xj : Option Value} {t : List (Option Value)} {z : UInt64} (d : decode cc pc = .ok (.dstore 6, 2)) (hn : 6 + 1 < nL) (hc : c1 x5 = true) (kk : ZZ k n (pc + 2) (x0 :: x1 :: x2 :: x3 :: x4 :: x5 :: some (.double z) :: none :: t) st L F) : ZZ k n pc (x0 :: x1 :: x2 :: x3 :: x4 :: x5 :: xi :: xj :: t) (.double z :: st) L F := by
  subst hZ
  intro p e s m args below meth c D κ hx H locs ls hP hD hS hl
  exact lv_dstore hx.1 hx.2.1 d (lh_has hl) hn rfl (fun ls' h' => kk p e s m args below meth c D κ hx H locs ls' hP hD hS (lh_st2 (lv := x0 :: x1 :: x2 :: x3 :: x4 :: x5 :: xi :: xj :: t) h' (fun j w hj hw => by obtain rfl : j = 5 := (by omega); have hw := Option.some.inj hw; rw [hw] at hc; have := eq_of_beq (show (w.category == 1) = true from hc); omega)))
theorem z_iinc6 (hZ : ZZ = Zj l y cc nL ret R L0 post xp) {x0 x1 x2 x3 x4 x5 : Option Value} {t : List (Option Value)} {a q : Int} (d : decode cc pc = .ok (.iinc 6 q, 3)) (hn : 6 < nL) (hc : c1 x5 = true) (kk : ZZ k n (pc + 3) (x0 :: x1 :: x2 :: x3 :: x4 :: x5 :: some (.int (iI (a + q))) :: t) st L F) : ZZ k n pc (x0 :: x1 :: x2 :: x3 :: x4 :: x5 :: some (.int (iI a)) :: t) st L F := by
  subst hZ
  intro p e s m args below meth c D κ hx H locs ls hP hD hS hl
  obtain ⟨k9, hk9⟩ := List.getElem?_of_mem (lpr_mem.mpr (show (x0 :: x1 :: x2 :: x3 :: x4 :: x5 :: some (Value.int (iI a)) :: t)[6]? = some (some (Value.int (iI a))) from rfl))
  exact lv_iinc hx.1 hx.2.1 d (lh_has hl) hk9 (iI_add a q) hn rfl (fun ls' h' => kk p e s m args below meth c D κ hx H locs ls' hP hD hS (lh_st1 (lv := x0 :: x1 :: x2 :: x3 :: x4 :: x5 :: some (.int (iI a)) :: t) h' (fun j w hj hw => by obtain rfl : j = 5 := (by omega); have hw := Option.some.inj hw; rw [hw] at hc; have := eq_of_beq (show (w.category == 1) = true from hc); omega)))
theorem z_iload7 (hZ : ZZ = Zj l y cc nL ret R L0 post xp) {x0 x1 x2 x3 x4 x5 x6 : Option Value} {t : List (Option Value)} {z : Int32} (d : decode cc pc = .ok (.iload 7, 2)) (kk : ZZ k n (pc + 2) (x0 :: x1 :: x2 :: x3 :: x4 :: x5 :: x6 :: some (.int z) :: t) (.int z :: st) L F) : ZZ k n pc (x0 :: x1 :: x2 :: x3 :: x4 :: x5 :: x6 :: some (.int z) :: t) (st) L F := by
  subst hZ
  intro p e s m args below meth c D κ hx H locs ls hP hD hS hl
  refine lv_iload hx.1 hx.2.1 d (hl.2.2 7 _ rfl) ?_
  exact kk p e s m args below meth c D κ hx H locs ls hP hD hS hl
theorem z_aload7 (hZ : ZZ = Zj l y cc nL ret R L0 post xp) {x0 x1 x2 x3 x4 x5 x6 : Option Value} {t : List (Option Value)} {z : Nat} (d : decode cc pc = .ok (.aload 7, 2)) (kk : ZZ k n (pc + 2) (x0 :: x1 :: x2 :: x3 :: x4 :: x5 :: x6 :: some (.ref z) :: t) (.ref z :: st) L F) : ZZ k n pc (x0 :: x1 :: x2 :: x3 :: x4 :: x5 :: x6 :: some (.ref z) :: t) (st) L F := by
  subst hZ
  intro p e s m args below meth c D κ hx H locs ls hP hD hS hl
  refine lv_aload hx.1 hx.2.1 d (hl.2.2 7 _ rfl) ?_
  exact kk p e s m args below meth c D κ hx H locs ls hP hD hS hl
theorem z_lload7 (hZ : ZZ = Zj l y cc nL ret R L0 post xp) {x0 x1 x2 x3 x4 x5 x6 : Option Value} {t : List (Option Value)} {z : Int64} (d : decode cc pc = .ok (.lload 7, 2)) (kk : ZZ k n (pc + 2) (x0 :: x1 :: x2 :: x3 :: x4 :: x5 :: x6 :: some (.long z) :: t) (.long z :: st) L F) : ZZ k n pc (x0 :: x1 :: x2 :: x3 :: x4 :: x5 :: x6 :: some (.long z) :: t) (st) L F := by
  subst hZ
  intro p e s m args below meth c D κ hx H locs ls hP hD hS hl
  refine lv_lload hx.1 hx.2.1 d (hl.2.2 7 _ rfl) ?_
  exact kk p e s m args below meth c D κ hx H locs ls hP hD hS hl
theorem z_dload7 (hZ : ZZ = Zj l y cc nL ret R L0 post xp) {x0 x1 x2 x3 x4 x5 x6 : Option Value} {t : List (Option Value)} {z : UInt64} (d : decode cc pc = .ok (.dload 7, 2)) (kk : ZZ k n (pc + 2) (x0 :: x1 :: x2 :: x3 :: x4 :: x5 :: x6 :: some (.double z) :: t) (.double z :: st) L F) : ZZ k n pc (x0 :: x1 :: x2 :: x3 :: x4 :: x5 :: x6 :: some (.double z) :: t) (st) L F := by
  subst hZ
  intro p e s m args below meth c D κ hx H locs ls hP hD hS hl
  refine lv_dload hx.1 hx.2.1 d (hl.2.2 7 _ rfl) ?_
  exact kk p e s m args below meth c D κ hx H locs ls hP hD hS hl
theorem z_istore7 (hZ : ZZ = Zj l y cc nL ret R L0 post xp) {x0 x1 x2 x3 x4 x5 x6 : Option Value} {xi : Option Value} {t : List (Option Value)} {z : Int32} (d : decode cc pc = .ok (.istore 7, 2)) (hn : 7 < nL) (hc : c1 x6 = true) (kk : ZZ k n (pc + 2) (x0 :: x1 :: x2 :: x3 :: x4 :: x5 :: x6 :: some (.int z) :: t) st L F) : ZZ k n pc (x0 :: x1 :: x2 :: x3 :: x4 :: x5 :: x6 :: xi :: t) (.int z :: st) L F := by
  subst hZ
  intro p e s m args below meth c D κ hx H locs ls hP hD hS hl
  exact lv_istore hx.1 hx.2.1 d (lh_has hl) hn rfl (fun ls' h' => kk p e s m args below meth c D κ hx H locs ls' hP hD hS (lh_st1 (lv := x0 :: x1 :: x2 :: x3 :: x4 :: x5 :: x6 :: xi :: t) h' (fun j w hj hw => by obtain rfl : j = 6 := (by omega); have hw := Option.some.inj hw; rw [hw] at hc; have := eq_of_beq (show (w.category == 1) = true from hc); omega)))
theorem z_astore7 (hZ : ZZ = Zj l y cc nL ret R L0 post xp) {x0 x1 x2 x3 x4 x5 x6 : Option Value} {xi : Option Value} {t : List (Option Value)} {z : Nat} (d : decode cc pc = .ok (.astore 7, 2)) (hn : 7 < nL) (hc : c1 x6 = true) (kk : ZZ k n (pc + 2) (x0 :: x1 :: x2 :: x3 :: x4 :: x5 :: x6 :: some (.ref z) :: t) st L F) : ZZ k n pc (x0 :: x1 :: x2 :: x3 :: x4 :: x5 :: x6 :: xi :: t) (.ref z :: st) L F := by
  subst hZ
  intro p e s m args below meth c D κ hx H locs ls hP hD hS hl
  exact lv_astore hx.1 hx.2.1 d (lh_has hl) hn rfl (fun ls' h' => kk p e s m args below meth c D κ hx H locs ls' hP hD hS (lh_st1 (lv := x0 :: x1 :: x2 :: x3 :: x4 :: x5 :: x6 :: xi :: t) h' (fun j w hj hw => by obtain rfl : j = 6 := (by omega); have hw := Option.some.inj hw; rw [hw] at hc; have := eq_of_beq (show (w.category == 1) = true from hc); omega)))
theorem z_lstore7 (hZ : ZZ = Zj l y cc nL ret R L0 post xp) {x0 x1 x2 x3 x4 x5 x6 : Option Value} {xi xj : Option Value} {t : List (Option Value)} {z : Int64} (d : decode cc pc = .ok (.lstore 7, 2)) (hn : 7 + 1 < nL) (hc : c1 x6 = true) (kk : ZZ k n (pc + 2) (x0 :: x1 :: x2 :: x3 :: x4 :: x5 :: x6 :: some (.long z) :: none :: t) st L F) : ZZ k n pc (x0 :: x1 :: x2 :: x3 :: x4 :: x5 :: x6 :: xi :: xj :: t) (.long z :: st) L F := by
  subst hZ
  intro p e s m args below meth c D κ hx H locs ls hP hD hS hl
  exact lv_lstore hx.1 hx.2.1 d (lh_has hl) hn rfl (fun ls' h' => kk p e s m args below meth c D κ hx H locs ls' hP hD hS (lh_st2 (lv := x0 :: x1 :: x2 :: x3 :: x4 :: x5 :: x6 :: xi :: xj :: t) h' (fun j w hj hw => by obtain rfl : j = 6 := (by omega); have hw := Option.some.inj hw; rw [hw] at hc; have := eq_of_beq (show (w.category == 1) = true from hc); omega)))
theorem z_dstore7 (hZ : ZZ = Zj l y cc nL ret R L0 post xp) {x0 x1 x2 x3 x4 x5 x6 : Option Value} {xi xj : Option Value} {t : List (Option Value)} {z : UInt64} (d : decode cc pc = .ok (.dstore 7, 2)) (hn : 7 + 1 < nL) (hc : c1 x6 = true) (kk : ZZ k n (pc + 2) (x0 :: x1 :: x2 :: x3 :: x4 :: x5 :: x6 :: some (.double z) :: none :: t) st L F) : ZZ k n pc (x0 :: x1 :: x2 :: x3 :: x4 :: x5 :: x6 :: xi :: xj :: t) (.double z :: st) L F := by
  subst hZ
  intro p e s m args below meth c D κ hx H locs ls hP hD hS hl
  exact lv_dstore hx.1 hx.2.1 d (lh_has hl) hn rfl (fun ls' h' => kk p e s m args below meth c D κ hx H locs ls' hP hD hS (lh_st2 (lv := x0 :: x1 :: x2 :: x3 :: x4 :: x5 :: x6 :: xi :: xj :: t) h' (fun j w hj hw => by obtain rfl : j = 6 := (by omega); have hw := Option.some.inj hw; rw [hw] at hc; have := eq_of_beq (show (w.category == 1) = true from hc); omega)))
theorem z_iinc7 (hZ : ZZ = Zj l y cc nL ret R L0 post xp) {x0 x1 x2 x3 x4 x5 x6 : Option Value} {t : List (Option Value)} {a q : Int} (d : decode cc pc = .ok (.iinc 7 q, 3)) (hn : 7 < nL) (hc : c1 x6 = true) (kk : ZZ k n (pc + 3) (x0 :: x1 :: x2 :: x3 :: x4 :: x5 :: x6 :: some (.int (iI (a + q))) :: t) st L F) : ZZ k n pc (x0 :: x1 :: x2 :: x3 :: x4 :: x5 :: x6 :: some (.int (iI a)) :: t) st L F := by
  subst hZ
  intro p e s m args below meth c D κ hx H locs ls hP hD hS hl
  obtain ⟨k9, hk9⟩ := List.getElem?_of_mem (lpr_mem.mpr (show (x0 :: x1 :: x2 :: x3 :: x4 :: x5 :: x6 :: some (Value.int (iI a)) :: t)[7]? = some (some (Value.int (iI a))) from rfl))
  exact lv_iinc hx.1 hx.2.1 d (lh_has hl) hk9 (iI_add a q) hn rfl (fun ls' h' => kk p e s m args below meth c D κ hx H locs ls' hP hD hS (lh_st1 (lv := x0 :: x1 :: x2 :: x3 :: x4 :: x5 :: x6 :: some (.int (iI a)) :: t) h' (fun j w hj hw => by obtain rfl : j = 6 := (by omega); have hw := Option.some.inj hw; rw [hw] at hc; have := eq_of_beq (show (w.category == 1) = true from hc); omega)))
theorem z_iload8 (hZ : ZZ = Zj l y cc nL ret R L0 post xp) {x0 x1 x2 x3 x4 x5 x6 x7 : Option Value} {t : List (Option Value)} {z : Int32} (d : decode cc pc = .ok (.iload 8, 2)) (kk : ZZ k n (pc + 2) (x0 :: x1 :: x2 :: x3 :: x4 :: x5 :: x6 :: x7 :: some (.int z) :: t) (.int z :: st) L F) : ZZ k n pc (x0 :: x1 :: x2 :: x3 :: x4 :: x5 :: x6 :: x7 :: some (.int z) :: t) (st) L F := by
  subst hZ
  intro p e s m args below meth c D κ hx H locs ls hP hD hS hl
  refine lv_iload hx.1 hx.2.1 d (hl.2.2 8 _ rfl) ?_
  exact kk p e s m args below meth c D κ hx H locs ls hP hD hS hl
theorem z_aload8 (hZ : ZZ = Zj l y cc nL ret R L0 post xp) {x0 x1 x2 x3 x4 x5 x6 x7 : Option Value} {t : List (Option Value)} {z : Nat} (d : decode cc pc = .ok (.aload 8, 2)) (kk : ZZ k n (pc + 2) (x0 :: x1 :: x2 :: x3 :: x4 :: x5 :: x6 :: x7 :: some (.ref z) :: t) (.ref z :: st) L F) : ZZ k n pc (x0 :: x1 :: x2 :: x3 :: x4 :: x5 :: x6 :: x7 :: some (.ref z) :: t) (st) L F := by
  subst hZ
  intro p e s m args below meth c D κ hx H locs ls hP hD hS hl
  refine lv_aload hx.1 hx.2.1 d (hl.2.2 8 _ rfl) ?_
  exact kk p e s m args below meth c D κ hx H locs ls hP hD hS hl
theorem z_lload8 (hZ : ZZ = Zj l y cc nL ret R L0 post xp) {x0 x1 x2 x3 x4 x5 x6 x7 : Option Value} {t : List (Option Value)} {z : Int64} (d : decode cc pc = .ok (.lload 8, 2)) (kk : ZZ k n (pc + 2) (x0 :: x1 :: x2 :: x3 :: x4 :: x5 :: x6 :: x7 :: some (.long z) :: t) (.long z :: st) L F) : ZZ k n pc (x0 :: x1 :: x2 :: x3 :: x4 :: x5 :: x6 :: x7 :: some (.long z) :: t) (st) L F := by
  subst hZ
  intro p e s m args below meth c D κ hx H locs ls hP hD hS hl
  refine lv_lload hx.1 hx.2.1 d (hl.2.2 8 _ rfl) ?_
  exact kk p e s m args below meth c D κ hx H locs ls hP hD hS hl
theorem z_dload8 (hZ : ZZ = Zj l y cc nL ret R L0 post xp) {x0 x1 x2 x3 x4 x5 x6 x7 : Option Value} {t : List (Option Value)} {z : UInt64} (d : decode cc pc = .ok (.dload 8, 2)) (kk : ZZ k n (pc + 2) (x0 :: x1 :: x2 :: x3 :: x4 :: x5 :: x6 :: x7 :: some (.double z) :: t) (.double z :: st) L F) : ZZ k n pc (x0 :: x1 :: x2 :: x3 :: x4 :: x5 :: x6 :: x7 :: some (.double z) :: t) (st) L F := by
  subst hZ
  intro p e s m args below meth c D κ hx H locs ls hP hD hS hl
  refine lv_dload hx.1 hx.2.1 d (hl.2.2 8 _ rfl) ?_
  exact kk p e s m args below meth c D κ hx H locs ls hP hD hS hl
theorem z_istore8 (hZ : ZZ = Zj l y cc nL ret R L0 post xp) {x0 x1 x2 x3 x4 x5 x6 x7 : Option Value} {xi : Option Value} {t : List (Option Value)} {z : Int32} (d : decode cc pc = .ok (.istore 8, 2)) (hn : 8 < nL) (hc : c1 x7 = true) (kk : ZZ k n (pc + 2) (x0 :: x1 :: x2 :: x3 :: x4 :: x5 :: x6 :: x7 :: some (.int z) :: t) st L F) : ZZ k n pc (x0 :: x1 :: x2 :: x3 :: x4 :: x5 :: x6 :: x7 :: xi :: t) (.int z :: st) L F := by
  subst hZ
  intro p e s m args below meth c D κ hx H locs ls hP hD hS hl
  exact lv_istore hx.1 hx.2.1 d (lh_has hl) hn rfl (fun ls' h' => kk p e s m args below meth c D κ hx H locs ls' hP hD hS (lh_st1 (lv := x0 :: x1 :: x2 :: x3 :: x4 :: x5 :: x6 :: x7 :: xi :: t) h' (fun j w hj hw => by obtain rfl : j = 7 := (by omega); have hw := Option.some.inj hw; rw [hw] at hc; have := eq_of_beq (show (w.category == 1) = true from hc); omega)))
theorem z_astore8 (hZ : ZZ = Zj l y cc nL ret R L0 post xp) {x0 x1 x2 x3 x4 x5 x6 x7 : Option Value} {xi : Option Value} {t : List (Option Value)} {z : Nat} (d : decode cc pc = .ok (.astore 8, 2)) (hn : 8 < nL) (hc : c1 x7 = true) (kk : ZZ k n (pc + 2) (x0 :: x1 :: x2 :: x3 :: x4 :: x5 :: x6 :: x7 :: some (.ref z) :: t) st L F) : ZZ k n pc (x0 :: x1 :: x2 :: x3 :: x4 :: x5 :: x6 :: x7 :: xi :: t) (.ref z :: st) L F := by
  subst hZ
  intro p e s m args below meth c D κ hx H locs ls hP hD hS hl
  exact lv_astore hx.1 hx.2.1 d (lh_has hl) hn rfl (fun ls' h' => kk p e s m args below meth c D κ hx H locs ls' hP hD hS (lh_st1 (lv := x0 :: x1 :: x2 :: x3 :: x4 :: x5 :: x6 :: x7 :: xi :: t) h' (fun j w hj hw => by obtain rfl : j = 7 := (by omega); have hw := Option.some.inj hw; rw [hw] at hc; have := eq_of_beq (show (w.category == 1) = true from hc); omega)))
theorem z_lstore8 (hZ : ZZ = Zj l y cc nL ret R L0 post xp) {x0 x1 x2 x3 x4 x5 x6 x7 : Option Value} {xi xj : Option Value} {t : List (Option Value)} {z : Int64} (d : decode cc pc = .ok (.lstore 8, 2)) (hn : 8 + 1 < nL) (hc : c1 x7 = true) (kk : ZZ k n (pc + 2) (x0 :: x1 :: x2 :: x3 :: x4 :: x5 :: x6 :: x7 :: some (.long z) :: none :: t) st L F) : ZZ k n pc (x0 :: x1 :: x2 :: x3 :: x4 :: x5 :: x6 :: x7 :: xi :: xj :: t) (.long z :: st) L F := by
  subst hZ
  intro p e s m args below meth c D κ hx H locs ls hP hD hS hl
  exact lv_lstore hx.1 hx.2.1 d (lh_has hl) hn rfl (fun ls' h' => kk p e s m args below meth c D κ hx H locs ls' hP hD hS (lh_st2 (lv := x0 :: x1 :: x2 :: x3 :: x4 :: x5 :: x6 :: x7 :: xi :: xj :: t) h' (fun j w hj hw => by obtain rfl : j = 7 := (by omega); have hw := Option.some.inj hw; rw [hw] at hc; have := eq_of_beq (show (w.category == 1) = true from hc); omega)))
theorem z_dstore8 (hZ : ZZ = Zj l y cc nL ret R L0 post xp) {x0 x1 x2 x3 x4 x5 x6 x7 : Option Value} {xi xj : Option Value} {t : List (Option Value)} {z : UInt64} (d : decode cc pc = .ok (.dstore 8, 2)) (hn : 8 + 1 < nL) (hc : c1 x7 = true) (kk : ZZ k n (pc + 2) (x0 :: x1 :: x2 :: x3 :: x4 :: x5 :: x6 :: x7 :: some (.double z) :: none :: t) st L F) : ZZ k n pc (x0 :: x1 :: x2 :: x3 :: x4 :: x5 :: x6 :: x7 :: xi :: xj :: t) (.double z :: st) L F := by
  subst hZ
  intro p e s m args below meth c D κ hx H locs ls hP hD hS hl
  exact lv_dstore hx.1 hx.2.1 d (lh_has hl) hn rfl (fun ls' h' => kk p e s m args below meth c D κ hx H locs ls' hP hD hS (lh_st2 (lv := x0 :: x1 :: x2 :: x3 :: x4 :: x5 :: x6 :: x7 :: xi :: xj :: t) h' (fun j w hj hw => by obtain rfl : j = 7 := (by omega); have hw := Option.some.inj hw; rw [hw] at hc; have := eq_of_beq (show (w.category == 1) = true from hc); omega)))
theorem z_iinc8 (hZ : ZZ = Zj l y cc nL ret R L0 post xp) {x0 x1 x2 x3 x4 x5 x6 x7 : Option Value} {t : List (Option Value)} {a q : Int} (d : decode cc pc = .ok (.iinc 8 q, 3)) (hn : 8 < nL) (hc : c1 x7 = true) (kk : ZZ k n (pc + 3) (x0 :: x1 :: x2 :: x3 :: x4 :: x5 :: x6 :: x7 :: some (.int (iI (a + q))) :: t) st L F) : ZZ k n pc (x0 :: x1 :: x2 :: x3 :: x4 :: x5 :: x6 :: x7 :: some (.int (iI a)) :: t) st L F := by
  subst hZ
  intro p e s m args below meth c D κ hx H locs ls hP hD hS hl
  obtain ⟨k9, hk9⟩ := List.getElem?_of_mem (lpr_mem.mpr (show (x0 :: x1 :: x2 :: x3 :: x4 :: x5 :: x6 :: x7 :: some (Value.int (iI a)) :: t)[8]? = some (some (Value.int (iI a))) from rfl))
  exact lv_iinc hx.1 hx.2.1 d (lh_has hl) hk9 (iI_add a q) hn rfl (fun ls' h' => kk p e s m args below meth c D κ hx H locs ls' hP hD hS (lh_st1 (lv := x0 :: x1 :: x2 :: x3 :: x4 :: x5 :: x6 :: x7 :: some (.int (iI a)) :: t) h' (fun j w hj hw => by obtain rfl : j = 7 := (by omega); have hw := Option.some.inj hw; rw [hw] at hc; have := eq_of_beq (show (w.category == 1) = true from hc); omega)))
theorem z_iload9 (hZ : ZZ = Zj l y cc nL ret R L0 post xp) {x0 x1 x2 x3 x4 x5 x6 x7 x8 : Option Value} {t : List (Option Value)} {z : Int32} (d : decode cc pc = .ok (.iload 9, 2)) (kk : ZZ k n (pc + 2) (x0 :: x1 :: x2 :: x3 :: x4 :: x5 :: x6 :: x7 :: x8 :: some (.int z) :: t) (.int z :: st) L F) : ZZ k n pc (x0 :: x1 :: x2 :: x3 :: x4 :: x5 :: x6 :: x7 :: x8 :: some (.int z) :: t) (st) L F := by
  subst hZ
  intro p e s m args below meth c D κ hx H locs ls hP hD hS hl
  refine lv_iload hx.1 hx.2.1 d (hl.2.2 9 _ rfl) ?_
  exact kk p e s m args below meth c D κ hx H locs ls hP hD hS hl
theorem z_aload9 (hZ : ZZ = Zj l y cc nL ret R L0 post xp) {x0 x1 x2 x3 x4 x5 x6 x7 x8 : Option Value} {t : List (Option Value)} {z : Nat} (d : decode cc pc = .ok (.aload 9, 2)) (kk : ZZ k n (pc + 2) (x0 :: x1 :: x2 :: x3 :: x4 :: x5 :: x6 :: x7 :: x8 :: some (.ref z) :: t) (.ref z :: st) L F) : ZZ k n pc (x0 :: x1 :: x2 :: x3 :: x4 :: x5 :: x6 :: x7 :: x8 :: some (.ref z) :: t) (st) L F := by
  subst hZ
  intro p e s m args below meth c D κ hx H locs ls hP hD hS hl
  refine lv_aload hx.1 hx.2.1 d (hl.2.2 9 _ rfl) ?_
  exact kk p e s m args below meth c D κ hx H locs ls hP hD hS hl
theorem z_lload9 (hZ : ZZ = Zj l y cc nL ret R L0 post xp) {x0 x1 x2 x3 x4 x5 x6 x7 x8 : Option Value} {t : List (Option Value)} {z : Int64} (d : decode cc pc = .ok (.lload 9, 2)) (kk : ZZ k n (pc + 2) (x0 :: x1 :: x2 :: x3 :: x4 :: x5 :: x6 :: x7 :: x8 :: some (.long z) :: t) (.long z :: st) L F) : ZZ k n pc (x0 :: x1 :: x2 :: x3 :: x4 :: x5 :: x6 :: x7 :: x8 :: some (.long z) :: t) (st) L F := by
  subst hZ
  intro p e s m args below meth c D κ hx H locs ls hP hD hS hl
  refine lv_lload hx.1 hx.2.1 d (hl.2.2 9 _ rfl) ?_
  exact kk p e s m args below meth c D κ hx H locs ls hP hD hS hl
theorem z_dload9 (hZ : ZZ = Zj l y cc nL ret R L0 post xp) {x0 x1 x2 x3 x4 x5 x6 x7 x8 : Option Value} {t : List (Option Value)} {z : UInt64} (d : decode cc pc = .ok (.dload 9, 2)) (kk : ZZ k n (pc + 2) (x0 :: x1 :: x2 :: x3 :: x4 :: x5 :: x6 :: x7 :: x8 :: some (.double z) :: t) (.double z :: st) L F) : ZZ k n pc (x0 :: x1 :: x2 :: x3 :: x4 :: x5 :: x6 :: x7 :: x8 :: some (.double z) :: t) (st) L F := by
  subst hZ
  intro p e s m args below meth c D κ hx H locs ls hP hD hS hl
  refine lv_dload hx.1 hx.2.1 d (hl.2.2 9 _ rfl) ?_
  exact kk p e s m args below meth c D κ hx H locs ls hP hD hS hl
theorem z_istore9 (hZ : ZZ = Zj l y cc nL ret R L0 post xp) {x0 x1 x2 x3 x4 x5 x6 x7 x8 : Option Value} {xi : Option Value} {t : List (Option Value)} {z : Int32} (d : decode cc pc = .ok (.istore 9, 2)) (hn : 9 < nL) (hc : c1 x8 = true) (kk : ZZ k n (pc + 2) (x0 :: x1 :: x2 :: x3 :: x4 :: x5 :: x6 :: x7 :: x8 :: some (.int z) :: t) st L F) : ZZ k n pc (x0 :: x1 :: x2 :: x3 :: x4 :: x5 :: x6 :: x7 :: x8 :: xi :: t) (.int z :: st) L F := by
  subst hZ
  intro p e s m args below meth c D κ hx H locs ls hP hD hS hl
  exact lv_istore hx.1 hx.2.1 d (lh_has hl) hn rfl (fun ls' h' => kk p e s m args below meth c D κ hx H locs ls' hP hD hS (lh_st1 (lv := x0 :: x1 :: x2 :: x3 :: x4 :: x5 :: x6 :: x7 :: x8 :: xi :: t) h' (fun j w hj hw => by obtain rfl : j = 8 := (by omega); have hw := Option.some.inj hw; rw [hw] at hc; have := eq_of_beq (show (w.category == 1) = true from hc); omega)))
theorem z_astore9 (hZ : ZZ = Zj l y cc nL ret R L0 post xp) {x0 x1 x2 x3 x4 x5 x6 x7 x8 : Option Value} {xi : Option Value} {t : List (Option Value)} {z : Nat} (d : decode cc pc = .ok (.astore 9, 2)) (hn : 9 < nL) (hc : c1 x8 = true) (kk : ZZ k n (pc + 2) (x0 :: x1 :: x2 :: x3 :: x4 :: x5 :: x6 :: x7 :: x8 :: some (.ref z) :: t) st L F) : ZZ k n pc (x0 :: x1 :: x2 :: x3 :: x4 :: x5 :: x6 :: x7 :: x8 :: xi :: t) (.ref z :: st) L F := by
  subst hZ
  intro p e s m args below meth c D κ hx H locs ls hP hD hS hl
  exact lv_astore hx.1 hx.2.1 d (lh_has hl) hn rfl (fun ls' h' => kk p e s m args below meth c D κ hx H locs ls' hP hD hS (lh_st1 (lv := x0 :: x1 :: x2 :: x3 :: x4 :: x5 :: x6 :: x7 :: x8 :: xi :: t) h' (fun j w hj hw => by obtain rfl : j = 8 := (by omega); have hw := Option.some.inj hw; rw [hw] at hc; have := eq_of_beq (show (w.category == 1) = true from hc); omega)))
theorem z_lstore9 (hZ : ZZ = Zj l y cc nL ret R L0 post xp) {x0 x1 x2 x3 x4 x5 x6 x7 x8 : Option Value} {xi xj : Option Value} {t : List (Option Value)} {z : Int64} (d : decode cc pc = .ok (.lstore 9, 2)) (hn : 9 + 1 < nL) (hc : c1 x8 = true) (kk : ZZ k n (pc + 2) (x0 :: x1 :: x2 :: x3 :: x4 :: x5 :: x6 :: x7 :: x8 :: some (.long z) :: none :: t) st L F) : ZZ k n pc (x0 :: x1 :: x2 :: x3 :: x4 :: x5 :: x6 :: x7 :: x8 :: xi :: xj :: t) (.long z :: st) L F := by
  subst hZ
  intro p e s m args below meth c D κ hx H locs ls hP hD hS hl
  exact lv_lstore hx.1 hx.2.1 d (lh_has hl) hn rfl (fun ls' h' => kk p e s m args below meth c D κ hx H locs ls' hP hD hS (lh_st2 (lv := x0 :: x1 :: x2 :: x3 :: x4 :: x5 :: x6 :: x7 :: x8 :: xi :: xj :: t) h' (fun j w hj hw => by obtain rfl : j = 8 := (by omega); have hw := Option.some.inj hw; rw [hw] at hc; have := eq_of_beq (show (w.category == 1) = true from hc); omega)))
theorem z_dstore9 (hZ : ZZ = Zj l y cc nL ret R L0 post xp) {x0 x1 x2 x3 x4 x5 x6 x7 x8 : Option Value} {xi xj : Option Value} {t : List (Option Value)} {z : UInt64} (d : decode cc pc = .ok (.dstore 9, 2)) (hn : 9 + 1 < nL) (hc : c1 x8 = true) (kk : ZZ k n (pc + 2) (x0 :: x1 :: x2 :: x3 :: x4 :: x5 :: x6 :: x7 :: x8 :: some (.double z) :: none :: t) st L F) : ZZ k n pc (x0 :: x1 :: x2 :: x3 :: x4 :: x5 :: x6 :: x7 :: x8 :: xi :: xj :: t) (.double z :: st) L F := by
  subst hZ
  intro p e s m args below meth c D κ hx H locs ls hP hD hS hl
  exact lv_dstore hx.1 hx.2.1 d (lh_has hl) hn rfl (fun ls' h' => kk p e s m args below meth c D κ hx H locs ls' hP hD hS (lh_st2 (lv := x0 :: x1 :: x2 :: x3 :: x4 :: x5 :: x6 :: x7 :: x8 :: xi :: xj :: t) h' (fun j w hj hw => by obtain rfl : j = 8 := (by omega); have hw := Option.some.inj hw; rw [hw] at hc; have := eq_of_beq (show (w.category == 1) = true from hc); omega)))
theorem z_iinc9 (hZ : ZZ = Zj l y cc nL ret R L0 post xp) {x0 x1 x2 x3 x4 x5 x6 x7 x8 : Option Value} {t : List (Option Value)} {a q : Int} (d : decode cc pc = .ok (.iinc 9 q, 3)) (hn : 9 < nL) (hc : c1 x8 = true) (kk : ZZ k n (pc + 3) (x0 :: x1 :: x2 :: x3 :: x4 :: x5 :: x6 :: x7 :: x8 :: some (.int (iI (a + q))) :: t) st L F) : ZZ k n pc (x0 :: x1 :: x2 :: x3 :: x4 :: x5 :: x6 :: x7 :: x8 :: some (.int (iI a)) :: t) st L F := by
  subst hZ
  intro p e s m args below meth c D κ hx H locs ls hP hD hS hl
  obtain ⟨k9, hk9⟩ := List.getElem?_of_mem (lpr_mem.mpr (show (x0 :: x1 :: x2 :: x3 :: x4 :: x5 :: x6 :: x7 :: x8 :: some (Value.int (iI a)) :: t)[9]? = some (some (Value.int (iI a))) from rfl))
  exact lv_iinc hx.1 hx.2.1 d (lh_has hl) hk9 (iI_add a q) hn rfl (fun ls' h' => kk p e s m args below meth c D κ hx H locs ls' hP hD hS (lh_st1 (lv := x0 :: x1 :: x2 :: x3 :: x4 :: x5 :: x6 :: x7 :: x8 :: some (.int (iI a)) :: t) h' (fun j w hj hw => by obtain rfl : j = 8 := (by omega); have hw := Option.some.inj hw; rw [hw] at hc; have := eq_of_beq (show (w.category == 1) = true from hc); omega)))
theorem z_dup (hZ : ZZ = Zj l y cc nL ret R L0 post xp) {v : Value} (d : decode cc pc = .ok (.dup, 1)) (hv : v.category = 1) (kk : ZZ k n (pc + 1) lv (v :: v :: st) L F) : ZZ k n pc lv (v :: st) L F := by
  subst hZ
  intro p e s m args below meth c D κ hx H locs ls hP hD hS hl
  refine lv_dup hx.1 hx.2.1 d hv ?_
  exact kk p e s m args below meth c D κ hx H locs ls hP hD hS hl
theorem z_dup2 (hZ : ZZ = Zj l y cc nL ret R L0 post xp) {v w : Value} (d : decode cc pc = .ok (.dup2, 1)) (hv : v.category = 1) (hw : w.category = 1) (kk : ZZ k n (pc + 1) lv (v :: w :: v :: w :: st) L F) : ZZ k n pc lv (v :: w :: st) L F := by
  subst hZ
  intro p e s m args below meth c D κ hx H locs ls hP hD hS hl
  refine lv_dup2_11 hx.1 hx.2.1 d hv hw ?_
  exact kk p e s m args below meth c D κ hx H locs ls hP hD hS hl
theorem z_pop (hZ : ZZ = Zj l y cc nL ret R L0 post xp) {v : Value} (d : decode cc pc = .ok (.pop, 1)) (hv : v.category = 1) (kk : ZZ k n (pc + 1) lv (st) L F) : ZZ k n pc lv (v :: st) L F := by
  subst hZ
  intro p e s m args below meth c D κ hx H locs ls hP hD hS hl
  refine lv_pop hx.1 hx.2.1 d hv ?_
  exact kk p e s m args below meth c D κ hx H locs ls hP hD hS hl
theorem z_iadd (hZ : ZZ = Zj l y cc nL ret R L0 post xp) {a b : Int} (d : decode cc pc = .ok (.iadd, 1)) (kk : ZZ k n (pc + 1) lv (.int (iI (a + b)) :: st) L F) : ZZ k n pc lv (.int (iI b) :: .int (iI a) :: st) L F := by
  subst hZ
  intro p e s m args below meth c D κ hx H locs ls hP hD hS hl
  refine lv_iadd hx.1 hx.2.1 d ?_
  rw [iI_add]
  exact kk p e s m args below meth c D κ hx H locs ls hP hD hS hl
theorem z_isub (hZ : ZZ = Zj l y cc nL ret R L0 post xp) {a b : Int} (d : decode cc pc = .ok (.isub, 1)) (kk : ZZ k n (pc + 1) lv (.int (iI (a - b)) :: st) L F) : ZZ k n pc lv (.int (iI b) :: .int (iI a) :: st) L F := by
  subst hZ
  intro p e s m args below meth c D κ hx H locs ls hP hD hS hl
  refine lv_isub hx.1 hx.2.1 d ?_
  rw [iI_sub]
  exact kk p e s m args below meth c D κ hx H locs ls hP hD hS hl
theorem z_imul (hZ : ZZ = Zj l y cc nL ret R L0 post xp) {a b : Int} (d : decode cc pc = .ok (.imul, 1)) (kk : ZZ k n (pc + 1) lv (.int (iI (a * b)) :: st) L F) : ZZ k n pc lv (.int (iI b) :: .int (iI a) :: st) L F := by
  subst hZ
  intro p e s m args below meth c D κ hx H locs ls hP hD hS hl
  refine lv_imul hx.1 hx.2.1 d ?_
  rw [iI_mul]
  exact kk p e s m args below meth c D κ hx H locs ls hP hD hS hl
theorem z_ineg (hZ : ZZ = Zj l y cc nL ret R L0 post xp) {a : Int} (d : decode cc pc = .ok (.ineg, 1)) (kk : ZZ k n (pc + 1) lv (.int (iI (-a)) :: st) L F) : ZZ k n pc lv (.int (iI a) :: st) L F := by
  subst hZ
  intro p e s m args below meth c D κ hx H locs ls hP hD hS hl
  refine lv_ineg hx.1 hx.2.1 d ?_
  rw [iI_neg]
  exact kk p e s m args below meth c D κ hx H locs ls hP hD hS hl
theorem z_irem (hZ : ZZ = Zj l y cc nL ret R L0 post xp) {a b : Int} (d : decode cc pc = .ok (.irem, 1)) (h : 0 ≤ a ∧ a ≤ 2147483647 ∧ 0 < b ∧ b ≤ 2147483647) (kk : ZZ k n (pc + 1) lv (.int (iI (a % b)) :: st) L F) : ZZ k n pc lv (.int (iI b) :: .int (iI a) :: st) L F := by
  subst hZ
  intro p e s m args below meth c D κ hx H locs ls hP hD hS hl
  refine lv_irem hx.1 hx.2.1 d (fun q => by have := (iI_eq (b := 0) ⟨by omega, by omega⟩ ⟨by omega, by omega⟩).mp q; omega) ?_
  rw [iI_rem h.1 ⟨by omega, by omega⟩ h.2.2.1 ⟨by omega, by omega⟩]
  exact kk p e s m args below meth c D κ hx H locs ls hP hD hS hl
theorem z_iand (hZ : ZZ = Zj l y cc nL ret R L0 post xp) {a b : Int32} {r : Int32} (d : decode cc pc = .ok (.iand, 1)) (hr : a &&& b = r) (kk : ZZ k n (pc + 1) lv (.int r :: st) L F) : ZZ k n pc lv (.int b :: .int a :: st) L F := by
  subst hZ
  intro p e s m args below meth c D κ hx H locs ls hP hD hS hl
  refine lv_iand hx.1 hx.2.1 d ?_
  rw [hr]
  exact kk p e s m args below meth c D κ hx H locs ls hP hD hS hl
theorem z_ixor (hZ : ZZ = Zj l y cc nL ret R L0 post xp) {a b : Int32} {r : Int32} (d : decode cc pc = .ok (.ixor, 1)) (hr : a ^^^ b = r) (kk : ZZ k n (pc + 1) lv (.int r :: st) L F) : ZZ k n pc lv (.int b :: .int a :: st) L F := by
  subst hZ
  intro p e s m args below meth c D κ hx H locs ls hP hD hS hl
  refine lv_ixor hx.1 hx.2.1 d ?_
  rw [hr]
  exact kk p e s m args below meth c D κ hx H locs ls hP hD hS hl
theorem z_ishl (hZ : ZZ = Zj l y cc nL ret R L0 post xp) {a b : Int32} {r : Int32} (d : decode cc pc = .ok (.ishl, 1)) (hr : a <<< (b &&& 31) = r) (kk : ZZ k n (pc + 1) lv (.int r :: st) L F) : ZZ k n pc lv (.int b :: .int a :: st) L F := by
  subst hZ
  intro p e s m args below meth c D κ hx H locs ls hP hD hS hl
  refine lv_ishl hx.1 hx.2.1 d ?_
  rw [hr]
  exact kk p e s m args below meth c D κ hx H locs ls hP hD hS hl
theorem z_ishr (hZ : ZZ = Zj l y cc nL ret R L0 post xp) {a b : Int32} {r : Int32} (d : decode cc pc = .ok (.ishr, 1)) (hr : a >>> (b &&& 31) = r) (kk : ZZ k n (pc + 1) lv (.int r :: st) L F) : ZZ k n pc lv (.int b :: .int a :: st) L F := by
  subst hZ
  intro p e s m args below meth c D κ hx H locs ls hP hD hS hl
  refine lv_ishr hx.1 hx.2.1 d ?_
  rw [hr]
  exact kk p e s m args below meth c D κ hx H locs ls hP hD hS hl
theorem z_iushr (hZ : ZZ = Zj l y cc nL ret R L0 post xp) {a b : Int32} {r : Int32} (d : decode cc pc = .ok (.iushr, 1)) (hr : (a.toUInt32 >>> (b.toUInt32 &&& Int32.toUInt32 31)).toInt32 = r) (kk : ZZ k n (pc + 1) lv (.int r :: st) L F) : ZZ k n pc lv (.int b :: .int a :: st) L F := by
  subst hZ
  intro p e s m args below meth c D κ hx H locs ls hP hD hS hl
  refine lv_iushr hx.1 hx.2.1 d hr ?_
  exact kk p e s m args below meth c D κ hx H locs ls hP hD hS hl
theorem z_i2b (hZ : ZZ = Zj l y cc nL ret R L0 post xp) {a : Int32} {r : Int32} (d : decode cc pc = .ok (.i2b, 1)) (hr : a.toInt8.toInt32 = r) (kk : ZZ k n (pc + 1) lv (.int r :: st) L F) : ZZ k n pc lv (.int a :: st) L F := by
  subst hZ
  intro p e s m args below meth c D κ hx H locs ls hP hD hS hl
  refine lv_i2b hx.1 hx.2.1 d hr ?_
  exact kk p e s m args below meth c D κ hx H locs ls hP hD hS hl
theorem z_i2c (hZ : ZZ = Zj l y cc nL ret R L0 post xp) {a : Int32} {r : Int32} (d : decode cc pc = .ok (.i2c, 1)) (hr : (a.toUInt32 % 65536).toInt32 = r) (kk : ZZ k n (pc + 1) lv (.int r :: st) L F) : ZZ k n pc lv (.int a :: st) L F := by
  subst hZ
  intro p e s m args below meth c D κ hx H locs ls hP hD hS hl
  refine lv_i2c hx.1 hx.2.1 d hr ?_
  exact kk p e s m args below meth c D κ hx H locs ls hP hD hS hl
theorem z_ladd (hZ : ZZ = Zj l y cc nL ret R L0 post xp) {a b : Int} (d : decode cc pc = .ok (.ladd, 1)) (kk : ZZ k n (pc + 1) lv (.long (lL (a + b)) :: st) L F) : ZZ k n pc lv (.long (lL b) :: .long (lL a) :: st) L F := by
  subst hZ
  intro p e s m args below meth c D κ hx H locs ls hP hD hS hl
  refine lv_ladd hx.1 hx.2.1 d ?_
  rw [lL_add]
  exact kk p e s m args below meth c D κ hx H locs ls hP hD hS hl
theorem z_lsub (hZ : ZZ = Zj l y cc nL ret R L0 post xp) {a b : Int} (d : decode cc pc = .ok (.lsub, 1)) (kk : ZZ k n (pc + 1) lv (.long (lL (a - b)) :: st) L F) : ZZ k n pc lv (.long (lL b) :: .long (lL a) :: st) L F := by
  subst hZ
  intro p e s m args below meth c D κ hx H locs ls hP hD hS hl
  refine lv_lsub hx.1 hx.2.1 d ?_
  rw [lL_sub]
  exact kk p e s m args below meth c D κ hx H locs ls hP hD hS hl
theorem z_lmul (hZ : ZZ = Zj l y cc nL ret R L0 post xp) {a b : Int} (d : decode cc pc = .ok (.lmul, 1)) (kk : ZZ k n (pc + 1) lv (.long (lL (a * b)) :: st) L F) : ZZ k n pc lv (.long (lL b) :: .long (lL a) :: st) L F := by
  subst hZ
  intro p e s m args below meth c D κ hx H locs ls hP hD hS hl
  refine lv_lmul hx.1 hx.2.1 d ?_
  rw [lL_mul]
  exact kk p e s m args below meth c D κ hx H locs ls hP hD hS hl
theorem z_ldiv (hZ : ZZ = Zj l y cc nL ret R L0 post xp) {a b r : Int64} (d : decode cc pc = .ok (.ldiv, 1)) (h : ¬ b = 0) (hr : a / b = r) (kk : ZZ k n (pc + 1) lv (.long r :: st) L F) : ZZ k n pc lv (.long b :: .long a :: st) L F := by
  subst hZ
  intro p e s m args below meth c D κ hx H locs ls hP hD hS hl
  refine lv_ldiv hx.1 hx.2.1 d h ?_
  rw [hr]
  exact kk p e s m args below meth c D κ hx H locs ls hP hD hS hl
theorem z_lrem (hZ : ZZ = Zj l y cc nL ret R L0 post xp) {a b r : Int64} (d : decode cc pc = .ok (.lrem, 1)) (h : ¬ b = 0) (hr : a - a / b * b = r) (kk : ZZ k n (pc + 1) lv (.long r :: st) L F) : ZZ k n pc lv (.long b :: .long a :: st) L F := by
  subst hZ
  intro p e s m args below meth c D κ hx H locs ls hP hD hS hl
  refine lv_lrem hx.1 hx.2.1 d h ?_
  rw [hr]
  exact kk p e s m args below meth c D κ hx H locs ls hP hD hS hl
theorem z_lshl (hZ : ZZ = Zj l y cc nL ret R L0 post xp) {a r : Int64} {b : Int32} (d : decode cc pc = .ok (.lshl, 1)) (hr : a <<< (b.toInt64 &&& 63) = r) (kk : ZZ k n (pc + 1) lv (.long r :: st) L F) : ZZ k n pc lv (.int b :: .long a :: st) L F := by
  subst hZ
  intro p e s m args below meth c D κ hx H locs ls hP hD hS hl
  refine lv_lshl hx.1 hx.2.1 d hr ?_
  exact kk p e s m args below meth c D κ hx H locs ls hP hD hS hl
theorem z_i2l (hZ : ZZ = Zj l y cc nL ret R L0 post xp) {a : Int} (d : decode cc pc = .ok (.i2l, 1)) (h : -2147483648 ≤ a ∧ a ≤ 2147483647) (kk : ZZ k n (pc + 1) lv (.long (lL a) :: st) L F) : ZZ k n pc lv (.int (iI a) :: st) L F := by
  subst hZ
  intro p e s m args below meth c D κ hx H locs ls hP hD hS hl
  refine lv_i2l hx.1 hx.2.1 d (iI_L h) ?_
  exact kk p e s m args below meth c D κ hx H locs ls hP hD hS hl
theorem z_i2d (hZ : ZZ = Zj l y cc nL ret R L0 post xp) {a : Int32} (d : decode cc pc = .ok (.i2d, 1)) (kk : ZZ k n (pc + 1) lv (.double (FP.i2d a) :: st) L F) : ZZ k n pc lv (.int a :: st) L F := by
  subst hZ
  intro p e s m args below meth c D κ hx H locs ls hP hD hS hl
  refine lv_i2d hx.1 hx.2.1 d ?_
  exact kk p e s m args below meth c D κ hx H locs ls hP hD hS hl
theorem z_d2l (hZ : ZZ = Zj l y cc nL ret R L0 post xp) {a : UInt64} (d : decode cc pc = .ok (.d2l, 1)) (kk : ZZ k n (pc + 1) lv (.long (FP.d2l a) :: st) L F) : ZZ k n pc lv (.double a :: st) L F := by
  subst hZ
  intro p e s m args below meth c D κ hx H locs ls hP hD hS hl
  refine lv_d2l hx.1 hx.2.1 d ?_
  exact kk p e s m args below meth c D κ hx H locs ls hP hD hS hl
theorem z_l2d (hZ : ZZ = Zj l y cc nL ret R L0 post xp) {a : Int64} (d : decode cc pc = .ok (.l2d, 1)) (kk : ZZ k n (pc + 1) lv (.double (FP.l2d a) :: st) L F) : ZZ k n pc lv (.long a :: st) L F := by
  subst hZ
  intro p e s m args below meth c D κ hx H locs ls hP hD hS hl
  refine lv_l2d hx.1 hx.2.1 d ?_
  exact kk p e s m args below meth c D κ hx H locs ls hP hD hS hl
theorem z_ddiv (hZ : ZZ = Zj l y cc nL ret R L0 post xp) {a b : UInt64} (d : decode cc pc = .ok (.ddiv, 1)) (h : vf_n64 (FP.ddiv a b)) (kk : ZZ k n (pc + 1) lv (.double (FP.ddiv a b) :: st) L F) : ZZ k n pc lv (.double b :: .double a :: st) L F := by
  subst hZ
  intro p e s m args below meth c D κ hx H locs ls hP hD hS hl
  refine lv_ddiv hx.1 hx.2.1 d h ?_
  exact kk p e s m args below meth c D κ hx H locs ls hP hD hS hl
theorem z_dsub (hZ : ZZ = Zj l y cc nL ret R L0 post xp) {a b : UInt64} (d : decode cc pc = .ok (.dsub, 1)) (h : vf_n64 (FP.dsub a b)) (kk : ZZ k n (pc + 1) lv (.double (FP.dsub a b) :: st) L F) : ZZ k n pc lv (.double b :: .double a :: st) L F := by
  subst hZ
  intro p e s m args below meth c D κ hx H locs ls hP hD hS hl
  refine lv_dsub hx.1 hx.2.1 d h ?_
  exact kk p e s m args below meth c D κ hx H locs ls hP hD hS hl
theorem z_dmul (hZ : ZZ = Zj l y cc nL ret R L0 post xp) {a b : UInt64} (d : decode cc pc = .ok (.dmul, 1)) (h : vf_n64 (FP.dmul a b)) (kk : ZZ k n (pc + 1) lv (.double (FP.dmul a b) :: st) L F) : ZZ k n pc lv (.double b :: .double a :: st) L F := by
  subst hZ
  intro p e s m args below meth c D κ hx H locs ls hP hD hS hl
  refine lv_dmul hx.1 hx.2.1 d h ?_
  exact kk p e s m args below meth c D κ hx H locs ls hP hD hS hl
theorem z_lcmp (hZ : ZZ = Zj l y cc nL ret R L0 post xp) {a b : Int64} (d : decode cc pc = .ok (.lcmp, 1)) (kk : ZZ k n (pc + 1) lv (.int (lg_cmp a b) :: st) L F) : ZZ k n pc lv (.long b :: .long a :: st) L F := by
  subst hZ
  intro p e s m args below meth c D κ hx H locs ls hP hD hS hl
  refine W.lcmp hx.1 hx.2.1 d ?_
  exact kk p e s m args below meth c D κ hx H locs ls hP hD hS hl
theorem z_dcmp (hZ : ZZ = Zj l y cc nL ret R L0 post xp) {a b : UInt64} {op : CmpOp} (d : decode cc pc = .ok (.dcmp op, 1)) (kk : ZZ k n (pc + 1) lv (.int (Op.cmpValue (FP.dcmp a b) op) :: st) L F) : ZZ k n pc lv (.double b :: .double a :: st) L F := by
  subst hZ
  intro p e s m args below meth c D κ hx H locs ls hP hD hS hl
  refine lv_dcmp hx.1 hx.2.1 d ?_
  exact kk p e s m args below meth c D κ hx H locs ls hP hD hS hl
theorem z_icmp_eq (hZ : ZZ = Zj l y cc nL ret R L0 post xp) {a b : Int} {off : Int} {tgt : Nat} (d : decode cc pc = .ok (.if_icmp .eq off, 3)) (ht : (pc : Int) + off = (tgt : Int)) (hr : -2147483648 ≤ a ∧ a ≤ 2147483647 ∧ -2147483648 ≤ b ∧ b ≤ 2147483647) (kt : a = b → ZZ k n tgt lv st L F) (kf : ¬ a = b → ZZ k n (pc + 3) lv st L F) : ZZ k n pc lv (.int (iI b) :: .int (iI a) :: st) L F := by
  subst hZ
  intro p e s m args below meth c D κ hx H locs ls hP hD hS hl
  exact lv_icmp_eq hx.1 hx.2.1 d ht (fun h => kt ((iI_eq ⟨hr.1, hr.2.1⟩ hr.2.2).mp h) p e s m args below meth c D κ hx H locs ls hP hD hS hl) (fun h => kf (fun q => h ((iI_eq ⟨hr.1, hr.2.1⟩ hr.2.2).mpr q)) p e s m args below meth c D κ hx H locs ls hP hD hS hl)
theorem z_if_eq (hZ : ZZ = Zj l y cc nL ret R L0 post xp) {a : Int} {off : Int} {tgt : Nat} (d : decode cc pc = .ok (.ifCond .eq off, 3)) (ht : (pc : Int) + off = (tgt : Int)) (hr : -2147483648 ≤ a ∧ a ≤ 2147483647) (kt : a = 0 → ZZ k n tgt lv st L F) (kf : ¬ a = 0 → ZZ k n (pc + 3) lv st L F) : ZZ k n pc lv (.int (iI a) :: st) L F := by
  subst hZ
  intro p e s m args below meth c D κ hx H locs ls hP hD hS hl
  exact lv_if_eq hx.1 hx.2.1 d ht (fun h => kt ((iI_eq (b := 0) ⟨hr.1, hr.2⟩ ⟨by omega, by omega⟩).mp h) p e s m args below meth c D κ hx H locs ls hP hD hS hl) (fun h => kf (fun q => h ((iI_eq (b := 0) ⟨hr.1, hr.2⟩ ⟨by omega, by omega⟩).mpr q)) p e s m args below meth c D κ hx H locs ls hP hD hS hl)
theorem z_icmp_ne (hZ : ZZ = Zj l y cc nL ret R L0 post xp) {a b : Int} {off : Int} {tgt : Nat} (d : decode cc pc = .ok (.if_icmp .ne off, 3)) (ht : (pc : Int) + off = (tgt : Int)) (hr : -2147483648 ≤ a ∧ a ≤ 2147483647 ∧ -2147483648 ≤ b ∧ b ≤ 2147483647) (kt : ¬ a = b → ZZ k n tgt lv st L F) (kf : a = b → ZZ k n (pc + 3) lv st L F) : ZZ k n pc lv (.int (iI b) :: .int (iI a) :: st) L F := by
  subst hZ
  intro p e s m args below meth c D κ hx H locs ls hP hD hS hl
  exact lv_icmp_ne hx.1 hx.2.1 d ht (fun h => kt (fun q => h ((iI_eq ⟨hr.1, hr.2.1⟩ hr.2.2).mpr q)) p e s m args below meth c D κ hx H locs ls hP hD hS hl) (fun h => kf ((iI_eq ⟨hr.1, hr.2.1⟩ hr.2.2).mp h) p e s m args below meth c D κ hx H locs ls hP hD hS hl)
theorem z_if_ne (hZ : ZZ = Zj l y cc nL ret R L0 post xp) {a : Int} {off : Int} {tgt : Nat} (d : decode cc pc = .ok (.ifCond .ne off, 3)) (ht : (pc : Int) + off = (tgt : Int)) (hr : -2147483648 ≤ a ∧ a ≤ 2147483647) (kt : ¬ a = 0 → ZZ k n tgt lv st L F) (kf : a = 0 → ZZ k n (pc + 3) lv st L F) : ZZ k n pc lv (.int (iI a) :: st) L F := by
  subst hZ
  intro p e s m args below meth c D κ hx H locs ls hP hD hS hl
  exact lv_if_ne hx.1 hx.2.1 d ht (fun h => kt (fun q => h ((iI_eq (b := 0) ⟨hr.1, hr.2⟩ ⟨by omega, by omega⟩).mpr q)) p e s m args below meth c D κ hx H locs ls hP hD hS hl) (fun h => kf ((iI_eq (b := 0) ⟨hr.1, hr.2⟩ ⟨by omega, by omega⟩).mp h) p e s m args below meth c D κ hx H locs ls hP hD hS hl)
theorem z_icmp_lt (hZ : ZZ = Zj l y cc nL ret R L0 post xp) {a b : Int} {off : Int} {tgt : Nat} (d : decode cc pc = .ok (.if_icmp .lt off, 3)) (ht : (pc : Int) + off = (tgt : Int)) (hr : -2147483648 ≤ a ∧ a ≤ 2147483647 ∧ -2147483648 ≤ b ∧ b ≤ 2147483647) (kt : a < b → ZZ k n tgt lv st L F) (kf : b ≤ a → ZZ k n (pc + 3) lv st L F) : ZZ k n pc lv (.int (iI b) :: .int (iI a) :: st) L F := by
  subst hZ
  intro p e s m args below meth c D κ hx H locs ls hP hD hS hl
  exact lv_icmp_lt hx.1 hx.2.1 d ht (fun h => kt ((iI_lt ⟨hr.1, hr.2.1⟩ hr.2.2).mp h) p e s m args below meth c D κ hx H locs ls hP hD hS hl) (fun h => kf (by have := mt (iI_lt ⟨hr.1, hr.2.1⟩ hr.2.2).mpr h; omega) p e s m args below meth c D κ hx H locs ls hP hD hS hl)
theorem z_if_lt (hZ : ZZ = Zj l y cc nL ret R L0 post xp) {a : Int} {off : Int} {tgt : Nat} (d : decode cc pc = .ok (.ifCond .lt off, 3)) (ht : (pc : Int) + off = (tgt : Int)) (hr : -2147483648 ≤ a ∧ a ≤ 2147483647) (kt : a < 0 → ZZ k n tgt lv st L F) (kf : 0 ≤ a → ZZ k n (pc + 3) lv st L F) : ZZ k n pc lv (.int (iI a) :: st) L F := by
  subst hZ
  intro p e s m args below meth c D κ hx H locs ls hP hD hS hl
  exact lv_if_lt hx.1 hx.2.1 d ht (fun h => kt ((iI_lt (b := 0) ⟨hr.1, hr.2⟩ ⟨by omega, by omega⟩).mp h) p e s m args below meth c D κ hx H locs ls hP hD hS hl) (fun h => kf (by have := mt (iI_lt (b := 0) ⟨hr.1, hr.2⟩ ⟨by omega, by omega⟩).mpr h; omega) p e s m args below meth c D κ hx H locs ls hP hD hS hl)
theorem z_icmp_ge (hZ : ZZ = Zj l y cc nL ret R L0 post xp) {a b : Int} {off : Int} {tgt : Nat} (d : decode cc pc = .ok (.if_icmp .ge off, 3)) (ht : (pc : Int) + off = (tgt : Int)) (hr : -2147483648 ≤ a ∧ a ≤ 2147483647 ∧ -2147483648 ≤ b ∧ b ≤ 2147483647) (kt : b ≤ a → ZZ k n tgt lv st L F) (kf : a < b → ZZ k n (pc + 3) lv st L F) : ZZ k n pc lv (.int (iI b) :: .int (iI a) :: st) L F := by
  subst hZ
  intro p e s m args below meth c D κ hx H locs ls hP hD hS hl
  exact lv_icmp_ge hx.1 hx.2.1 d ht (fun h => kt ((iI_le hr.2.2 ⟨hr.1, hr.2.1⟩).mp h) p e s m args below meth c D κ hx H locs ls hP hD hS hl) (fun h => kf (by have := mt (iI_le hr.2.2 ⟨hr.1, hr.2.1⟩).mpr h; omega) p e s m args below meth c D κ hx H locs ls hP hD hS hl)
theorem z_if_ge (hZ : ZZ = Zj l y cc nL ret R L0 post xp) {a : Int} {off : Int} {tgt : Nat} (d : decode cc pc = .ok (.ifCond .ge off, 3)) (ht : (pc : Int) + off = (tgt : Int)) (hr : -2147483648 ≤ a ∧ a ≤ 2147483647) (kt : 0 ≤ a → ZZ k n tgt lv st L F) (kf : a < 0 → ZZ k n (pc + 3) lv st L F) : ZZ k n pc lv (.int (iI a) :: st) L F := by
  subst hZ
  intro p e s m args below meth c D κ hx H locs ls hP hD hS hl
  exact lv_if_ge hx.1 hx.2.1 d ht (fun h => kt ((iI_le (a := 0) ⟨by omega, by omega⟩ ⟨hr.1, hr.2⟩).mp h) p e s m args below meth c D κ hx H locs ls hP hD hS hl) (fun h => kf (by have := mt (iI_le (a := 0) ⟨by omega, by omega⟩ ⟨hr.1, hr.2⟩).mpr h; omega) p e s m args below meth c D κ hx H locs ls hP hD hS hl)
theorem z_icmp_gt (hZ : ZZ = Zj l y cc nL ret R L0 post xp) {a b : Int} {off : Int} {tgt : Nat} (d : decode cc pc = .ok (.if_icmp .gt off, 3)) (ht : (pc : Int) + off = (tgt : Int)) (hr : -2147483648 ≤ a ∧ a ≤ 2147483647 ∧ -2147483648 ≤ b ∧ b ≤ 2147483647) (kt : b < a → ZZ k n tgt lv st L F) (kf : a ≤ b → ZZ k n (pc + 3) lv st L F) : ZZ k n pc lv (.int (iI b) :: .int (iI a) :: st) L F := by
  subst hZ
  intro p e s m args below meth c D κ hx H locs ls hP hD hS hl
  exact lv_icmp_gt hx.1 hx.2.1 d ht (fun h => kt ((iI_lt hr.2.2 ⟨hr.1, hr.2.1⟩).mp h) p e s m args below meth c D κ hx H locs ls hP hD hS hl) (fun h => kf (by have := mt (iI_lt hr.2.2 ⟨hr.1, hr.2.1⟩).mpr h; omega) p e s m args below meth c D κ hx H locs ls hP hD hS hl)
theorem z_if_gt (hZ : ZZ = Zj l y cc nL ret R L0 post xp) {a : Int} {off : Int} {tgt : Nat} (d : decode cc pc = .ok (.ifCond .gt off, 3)) (ht : (pc : Int) + off = (tgt : Int)) (hr : -2147483648 ≤ a ∧ a ≤ 2147483647) (kt : 0 < a → ZZ k n tgt lv st L F) (kf : a ≤ 0 → ZZ k n (pc + 3) lv st L F) : ZZ k n pc lv (.int (iI a) :: st) L F := by
  subst hZ
  intro p e s m args below meth c D κ hx H locs ls hP hD hS hl
  exact lv_if_gt hx.1 hx.2.1 d ht (fun h => kt ((iI_lt (a := 0) ⟨by omega, by omega⟩ ⟨hr.1, hr.2⟩).mp h) p e s m args below meth c D κ hx H locs ls hP hD hS hl) (fun h => kf (by have := mt (iI_lt (a := 0) ⟨by omega, by omega⟩ ⟨hr.1, hr.2⟩).mpr h; omega) p e s m args below meth c D κ hx H locs ls hP hD hS hl)
theorem z_icmp_le (hZ : ZZ = Zj l y cc nL ret R L0 post xp) {a b : Int} {off : Int} {tgt : Nat} (d : decode cc pc = .ok (.if_icmp .le off, 3)) (ht : (pc : Int) + off = (tgt : Int)) (hr : -2147483648 ≤ a ∧ a ≤ 2147483647 ∧ -2147483648 ≤ b ∧ b ≤ 2147483647) (kt : a ≤ b → ZZ k n tgt lv st L F) (kf : b < a → ZZ k n (pc + 3) lv st L F) : ZZ k n pc lv (.int (iI b) :: .int (iI a) :: st) L F := by
  subst hZ
  intro p e s m args below meth c D κ hx H locs ls hP hD hS hl
  exact lv_icmp_le hx.1 hx.2.1 d ht (fun h => kt ((iI_le ⟨hr.1, hr.2.1⟩ hr.2.2).mp h) p e s m args below meth c D κ hx H locs ls hP hD hS hl) (fun h => kf (by have := mt (iI_le ⟨hr.1, hr.2.1⟩ hr.2.2).mpr h; omega) p e s m args below meth c D κ hx H locs ls hP hD hS hl)
theorem z_if_le (hZ : ZZ = Zj l y cc nL ret R L0 post xp) {a : Int} {off : Int} {tgt : Nat} (d : decode cc pc = .ok (.ifCond .le off, 3)) (ht : (pc : Int) + off = (tgt : Int)) (hr : -2147483648 ≤ a ∧ a ≤ 2147483647) (kt : a ≤ 0 → ZZ k n tgt lv st L F) (kf : 0 < a → ZZ k n (pc + 3) lv st L F) : ZZ k n pc lv (.int (iI a) :: st) L F := by
  subst hZ
  intro p e s m args below meth c D κ hx H locs ls hP hD hS hl
  exact lv_if_le hx.1 hx.2.1 d ht (fun h => kt ((iI_le (b := 0) ⟨hr.1, hr.2⟩ ⟨by omega, by omega⟩).mp h) p e s m args below meth c D κ hx H locs ls hP hD hS hl) (fun h => kf (by have := mt (iI_le (b := 0) ⟨hr.1, hr.2⟩ ⟨by omega, by omega⟩).mpr h; omega) p e s m args below meth c D κ hx H locs ls hP hD hS hl)
theorem z_if_eq_raw (hZ : ZZ = Zj l y cc nL ret R L0 post xp) {a : Int32} {off : Int} {tgt : Nat} (d : decode cc pc = .ok (.ifCond .eq off, 3)) (ht : (pc : Int) + off = (tgt : Int)) (kt : a = 0 → ZZ k n tgt lv st L F) (kf : ¬ a = 0 → ZZ k n (pc + 3) lv st L F) : ZZ k n pc lv (.int a :: st) L F := by
  subst hZ
  intro p e s m args below meth c D κ hx H locs ls hP hD hS hl
  exact lv_if_eq hx.1 hx.2.1 d ht (fun h => kt (h) p e s m args below meth c D κ hx H locs ls hP hD hS hl) (fun h => kf (h) p e s m args below meth c D κ hx H locs ls hP hD hS hl)
theorem z_if_ne_raw (hZ : ZZ = Zj l y cc nL ret R L0 post xp) {a : Int32} {off : Int} {tgt : Nat} (d : decode cc pc = .ok (.ifCond .ne off, 3)) (ht : (pc : Int) + off = (tgt : Int)) (kt : ¬ a = 0 → ZZ k n tgt lv st L F) (kf : a = 0 → ZZ k n (pc + 3) lv st L F) : ZZ k n pc lv (.int a :: st) L F := by
  subst hZ
  intro p e s m args below meth c D κ hx H locs ls hP hD hS hl
  exact lv_if_ne hx.1 hx.2.1 d ht (fun h => kt (h) p e s m args below meth c D κ hx H locs ls hP hD hS hl) (fun h => kf (h) p e s m args below meth c D κ hx H locs ls hP hD hS hl)
theorem z_if_lt_raw (hZ : ZZ = Zj l y cc nL ret R L0 post xp) {a : Int32} {off : Int} {tgt : Nat} (d : decode cc pc = .ok (.ifCond .lt off, 3)) (ht : (pc : Int) + off = (tgt : Int)) (kt : a < 0 → ZZ k n tgt lv st L F) (kf : ¬ a < 0 → ZZ k n (pc + 3) lv st L F) : ZZ k n pc lv (.int a :: st) L F := by
  subst hZ
  intro p e s m args below meth c D κ hx H locs ls hP hD hS hl
  exact lv_if_lt hx.1 hx.2.1 d ht (fun h => kt (h) p e s m args below meth c D κ hx H locs ls hP hD hS hl) (fun h => kf (h) p e s m args below meth c D κ hx H locs ls hP hD hS hl)
theorem z_if_ge_raw (hZ : ZZ = Zj l y cc nL ret R L0 post xp) {a : Int32} {off : Int} {tgt : Nat} (d : decode cc pc = .ok (.ifCond .ge off, 3)) (ht : (pc : Int) + off = (tgt : Int)) (kt : 0 ≤ a → ZZ k n tgt lv st L F) (kf : ¬ 0 ≤ a → ZZ k n (pc + 3) lv st L F) : ZZ k n pc lv (.int a :: st) L F := by
  subst hZ
  intro p e s m args below meth c D κ hx H locs ls hP hD hS hl
  exact lv_if_ge hx.1 hx.2.1 d ht (fun h => kt (h) p e s m args below meth c D κ hx H locs ls hP hD hS hl) (fun h => kf (h) p e s m args below meth c D κ hx H locs ls hP hD hS hl)
theorem z_icmp_ne_raw (hZ : ZZ = Zj l y cc nL ret R L0 post xp) {a b : Int32} {off : Int} {tgt : Nat} (d : decode cc pc = .ok (.if_icmp .ne off, 3)) (ht : (pc : Int) + off = (tgt : Int)) (kt : ¬ a = b → ZZ k n tgt lv st L F) (kf : a = b → ZZ k n (pc + 3) lv st L F) : ZZ k n pc lv (.int b :: .int a :: st) L F := by
  subst hZ
  intro p e s m args below meth c D κ hx H locs ls hP hD hS hl
  exact lv_icmp_ne hx.1 hx.2.1 d ht (fun h => kt (h) p e s m args below meth c D κ hx H locs ls hP hD hS hl) (fun h => kf (h) p e s m args below meth c D κ hx H locs ls hP hD hS hl)
theorem z_icmp_eq_raw (hZ : ZZ = Zj l y cc nL ret R L0 post xp) {a b : Int32} {off : Int} {tgt : Nat} (d : decode cc pc = .ok (.if_icmp .eq off, 3)) (ht : (pc : Int) + off = (tgt : Int)) (kt : a = b → ZZ k n tgt lv st L F) (kf : ¬ a = b → ZZ k n (pc + 3) lv st L F) : ZZ k n pc lv (.int b :: .int a :: st) L F := by
  subst hZ
  intro p e s m args below meth c D κ hx H locs ls hP hD hS hl
  exact lv_icmp_eq hx.1 hx.2.1 d ht (fun h => kt (h) p e s m args below meth c D κ hx H locs ls hP hD hS hl) (fun h => kf (h) p e s m args below meth c D κ hx H locs ls hP hD hS hl)
theorem z_if_eq_b (hZ : ZZ = Zj l y cc nL ret R L0 post xp) {P : Prop} [Decidable P] {off : Int} {tgt : Nat} (d : decode cc pc = .ok (.ifCond .eq off, 3)) (ht : (pc : Int) + off = (tgt : Int)) (kt : ¬ P → ZZ k n tgt lv st L F) (kf : P → ZZ k n (pc + 3) lv st L F) : ZZ k n pc lv (.int (iI (b2 P)) :: st) L F := by
  subst hZ
  intro p e s m args below meth c D κ hx H locs ls hP hD hS hl
  exact lv_if_eq hx.1 hx.2.1 d ht (fun h => kt (by have h := (iI_eq (a := b2 P) (b := 0) ⟨by rcases b2_in P with q | q <;> omega, by rcases b2_in P with q | q <;> omega⟩ ⟨by omega, by omega⟩).mp h; intro q; rw [b2_t q] at h; cases h) p e s m args below meth c D κ hx H locs ls hP hD hS hl) (fun h => kf (Decidable.byContradiction fun q => h ((iI_eq (a := b2 P) (b := 0) ⟨by rcases b2_in P with q | q <;> omega, by rcases b2_in P with q | q <;> omega⟩ ⟨by omega, by omega⟩).mpr (b2_f q))) p e s m args below meth c D κ hx H locs ls hP hD hS hl)
theorem z_if_ne_b (hZ : ZZ = Zj l y cc nL ret R L0 post xp) {P : Prop} [Decidable P] {off : Int} {tgt : Nat} (d : decode cc pc = .ok (.ifCond .ne off, 3)) (ht : (pc : Int) + off = (tgt : Int)) (kt : P → ZZ k n tgt lv st L F) (kf : ¬ P → ZZ k n (pc + 3) lv st L F) : ZZ k n pc lv (.int (iI (b2 P)) :: st) L F := by
  subst hZ
  intro p e s m args below meth c D κ hx H locs ls hP hD hS hl
  exact lv_if_ne hx.1 hx.2.1 d ht (fun h => kt (Decidable.byContradiction fun q => h ((iI_eq (a := b2 P) (b := 0) ⟨by rcases b2_in P with q | q <;> omega, by rcases b2_in P with q | q <;> omega⟩ ⟨by omega, by omega⟩).mpr (b2_f q))) p e s m args below meth c D κ hx H locs ls hP hD hS hl) (fun h => kf (by have h := (iI_eq (a := b2 P) (b := 0) ⟨by rcases b2_in P with q | q <;> omega, by rcases b2_in P with q | q <;> omega⟩ ⟨by omega, by omega⟩).mp h; intro q; rw [b2_t q] at h; cases h) p e s m args below meth c D κ hx H locs ls hP hD hS hl)
theorem z_goto (hZ : ZZ = Zj l y cc nL ret R L0 post xp) {off : Int} {tgt : Nat} (d : decode cc pc = .ok (.goto off, 3)) (ht : (pc : Int) + off = (tgt : Int)) (kk : ZZ k n tgt lv st L F) : ZZ k n pc lv st L F := by
  subst hZ
  intro p e s m args below meth c D κ hx H locs ls hP hD hS hl
  exact lv_goto hx.1 hx.2.1 d ht (kk p e s m args below meth c D κ hx H locs ls hP hD hS hl)
theorem z_tIn (hZ : ZZ = Zj l y cc nL ret R L0 post xp) {dflt lo hi off a : Int} {offs : Array Int} {len tgt : Nat} (d : decode cc pc = .ok (.tableswitch dflt lo hi offs, len)) (hr : -2147483648 ≤ a ∧ a ≤ 2147483647 ∧ lo ≤ a ∧ a ≤ hi) (ho : offs[(a - lo).toNat]? = some off) (ht : (pc : Int) + off = (tgt : Int)) (kk : ZZ k n tgt lv st L F) : ZZ k n pc lv (.int (iI a) :: st) L F := by
  subst hZ
  intro p e s m args below meth c D κ hx H locs ls hP hD hS hl
  exact lv_tableIn hx.1 hx.2.1 d (by rw [iI_toInt ⟨hr.1, hr.2.1⟩]; omega) (by rw [iI_toInt ⟨hr.1, hr.2.1⟩]; omega) (by rw [iI_toInt ⟨hr.1, hr.2.1⟩]; exact ho) ht (kk p e s m args below meth c D κ hx H locs ls hP hD hS hl)
theorem z_tOut (hZ : ZZ = Zj l y cc nL ret R L0 post xp) {dflt lo hi a : Int} {offs : Array Int} {len tgt : Nat} (d : decode cc pc = .ok (.tableswitch dflt lo hi offs, len)) (hr : -2147483648 ≤ a ∧ a ≤ 2147483647) (h : a < lo ∨ hi < a) (ht : (pc : Int) + dflt = (tgt : Int)) (kk : ZZ k n tgt lv st L F) : ZZ k n pc lv (.int (iI a) :: st) L F := by
  subst hZ
  intro p e s m args below meth c D κ hx H locs ls hP hD hS hl
  exact lv_tableOut hx.1 hx.2.1 d (by rw [iI_toInt hr]; exact h) ht (kk p e s m args below meth c D κ hx H locs ls hP hD hS hl)
theorem z_lsw (hZ : ZZ = Zj l y cc nL ret R L0 post xp) {dflt off a : Int} {ps : Array (Int × Int)} {len tgt : Nat} (d : decode cc pc = .ok (.lookupswitch dflt ps, len)) (hr : -2147483648 ≤ a ∧ a ≤ 2147483647) (hp : (ps.toList.zip (ps.toList.drop 1)).all (fun (a, next) => a.1 < next.1) = true) (ho : Op.lookupswitch.offset ps.toList dflt a = off) (ht : (pc : Int) + off = (tgt : Int)) (kk : ZZ k n tgt lv st L F) : ZZ k n pc lv (.int (iI a) :: st) L F := by
  subst hZ
  intro p e s m args below meth c D κ hx H locs ls hP hD hS hl
  exact lv_lookup hx.1 hx.2.1 d hp (by rw [iI_toInt hr]; exact ho) ht (kk p e s m args below meth c D κ hx H locs ls hP hD hS hl)
end ZR
