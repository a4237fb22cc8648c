/-! THE LAYER, 5: new objects, constructors called, throws. -/
theorem w_oiI : Cond.instanceMethod Lib.objectInit ∈ wsG := wg (tw1 27 rfl) rfl
theorem w_oiC : Cond.code Lib.objectInit ⟨#[0xb1]⟩ 1 none ∈ wsG := wg (tw1 28 rfl) rfl
section ZM
variable {ZZ : ZT} {l : Launch} {y : MethodName} {cc : ByteArray} {nL : Nat} {ret : Option FieldType} {R : Room} {L0 : List Nat} {post : Option Value → List Nat → (Nat → PE) → Prop} {xp : String → List Nat → (Nat → PE) → Prop}
variable {k n pc : Nat} {lv : List (Option Value)} {st : List Value} {L : List Nat} {F : Nat → PE}
theorem z_irem_g (hZ : ZZ = Zj l y cc nL ret R L0 post xp) {a b r : Int} (d : decode cc pc = .ok (.irem, 1)) (h : 0 < b ∧ b ≤ 2147483647) (hr : iI a - iI a / iI b * iI b = iI r) (kk : ZZ k n (pc + 1) lv (.int (iI r) :: st) L F) : ZZ k n pc lv (.int (iI b) :: .int (iI a) :: st) L F := by
  subst hZ
  intro p e s m args below meth c D κ hx H locs ls hP hD hS hl
  refine lv_irem hx.1 hx.2.1 d (fun q => by have := (iI_eq (b := 0) ⟨by omega, by omega⟩ ⟨by omega, by omega⟩).mp q; omega) ?_
  rw [hr]
  exact kk p e s m args below meth c D κ hx H locs ls hP hD hS hl
theorem z_objInit (hZ : ZZ = Zj l y cc nL ret R L0 post xp) {ix a : Nat} (d : decode cc pc = .ok (.invokespecial ix, 3)) (hw : Cond.methodLink y.cls ix Lib.objectInit ∈ wsG) (hR : 1 ≤ R.frames) (hR2 : 60 ≤ R.locals) (hst : (st.map fun v => v.category).sum ≤ 8) (kk : ZZ k n (pc + 3) lv st L F) : ZZ k n pc lv (.ref a :: st) L F := by
  subst hZ
  intro p e s m args below meth c D κ hx H locs ls hP hD hS hl
  refine W.objInit hx.1 hx.2.1 hx.2.2.2.1 (hx.2.2.2.2.1 _ hw) (hx.2.2.2.2.1 _ w_oiI) (hx.2.2.2.2.1 _ w_oiC) rfl (by rw [hx.2.2.1]; exact hl.1) rfl d hR ?_ ?_
  · have := lv_room (m := m) (pc := pc) (ls := ls) (rest := .ref a :: st) hst
    omega
  · exact W.eq (g2 := F0 m (pc + 3) ls st) rfl (kk p e s m args below meth c D κ hx H locs ls hP hD hS hl)
/-- what came last isn't in the pool -/
theorem pw_new {κ : Nat → ClassId} {A : Nat → Prop} {q : Nat} {e : va_E} (h : va_D A (pw κ L F ++ [(q, e)])) : q ∉ L := by
  intro hq
  obtain ⟨i, hi⟩ := pw_get (κ := κ) (F := F) hq rfl
  have hl := (List.getElem?_eq_some_iff.mp hi).1
  have e2 := h.1 i (pw κ L F).length (q, pT κ (F q)) (q, e) ((List.getElem?_append_left hl).trans hi) (by rw [List.getElem?_append_right (Nat.le_refl _), Nat.sub_self]; rfl) rfl
  omega
theorem pw_push {κ : Nat → ClassId} {q : Nat} {e : PE} (hq : q ∉ L) : pw κ L F ++ [(q, pT κ e)] = pw κ (L ++ [q]) (va_up F q e) := by
  refine (va_pl_push (f := fun a => pT κ (F a)) hq).trans (va_pl_congr fun b => ?_)
  unfold va_up
  split <;> rfl
theorem z_newG (hZ : ZZ = Zj l y cc nL ret R L0 post xp) {C : String} {T : u_T} {N ci ix : Nat} {fs : List Value} {tyc : Nat → FieldType} (d : decode cc pc = .ok (.new ix, 3)) (hin : ∀ w ∈ u_ws C T N, w ∈ wsG) (hty : ∀ k, k < N → parseFieldDescriptor (T k).2.2.1 = some (tyc k)) (hcl : Cond.classLink y.cls ix C ∈ wsG) (hit : Cond.instantiable C N ∈ wsG) (hini : Cond.initialized C ∈ wsG)
    (hc : vwCl[ci]? = some (C, T, N)) (hfs : ∀ j, j < N → defaultValue (tyc j) = vp_V fs j) (hRc : k + 1 ≤ R.cells ∧ n + N ≤ R.slots)
    (kk : ∀ (q : Nat) (F1 : Nat → PE), q ∉ L → F1 q = eO ci fs → (∀ b : Nat, b ≠ q → F1 b = F b) → ZZ (k + 1) (n + N) (pc + 3) lv (.ref q :: st) (L ++ [q]) F1) : ZZ k n pc lv st L F := by
  subst hZ
  intro p e s m args below meth c D κ hx H locs ls hP hD hS hl
  refine va_new hx.1 hx.2.1 (C := C) (T := T) (N := N) (ci := ci) (fs := fs) hx.2.2.2.2.1 hin tyc hty hx.2.2.2.1 (hx.2.2.2.2.1 _ hcl) (hx.2.2.2.2.1 _ hit) (hx.2.2.2.2.1 _ hini) hx.2.2.2.2.2.1.1 hP hD hS (fun q h => Or.inr h) hc hfs hRc.1 hRc.2 d (fun q H1 hP1 hD1 hS1 => ?_)
  have hq : q ∉ L := pw_new hD1
  refine kk q (va_up F q (eO ci fs)) hq (va_up_self _ _ _) (fun b hb => va_up_ne _ _ hb) p e s m args below meth c D κ hx H1 locs ls ?_ ?_ hS1 hl
  · rw [← pw_push hq]; exact hP1
  · rw [← pw_push hq]; exact hD1
theorem iI0 : iI 0 = 0 := rfl
theorem z_newarrI (hZ : ZZ = Zj l y cc nL ret R L0 post xp) {t N : Nat} {at1 : ArrayType} (d : decode cc pc = .ok (.newarray at1, 2)) (ht : (t = 0 ∧ at1 = .int) ∨ (t = 1 ∧ at1 = .boolean) ∨ (t = 2 ∧ at1 = .byte)) (hac : Cond.arrayClass (newarray.typeOf at1) ∈ wsG) (hN : N ≤ 100000) (hRc : k + 1 ≤ R.cells ∧ n + N ≤ R.slots)
    (kk : ∀ (q : Nat) (F1 : Nat → PE), q ∉ L → F1 q = eI t N (fun _ => 0) → (∀ b : Nat, b ≠ q → F1 b = F b) → ZZ (k + 1) (n + N) (pc + 2) lv (.ref q :: st) (L ++ [q]) F1) : ZZ k n pc lv (.int (iI N) :: st) L F := by
  subst hZ
  intro p e s m args below meth c D κ hx H locs ls hP hD hS hl
  have e1 := iI_clamp (z := N) ⟨by omega, by omega⟩ (by omega)
  have nn : ¬ iI N < 0 := fun hh => by
    have := (iI_lt (a := N) (b := 0) ⟨by omega, by omega⟩ ⟨by omega, by omega⟩).mp hh
    omega
  refine va_newa hx.1 hx.2.1 (hx.2.2.2.2.1 _ hac) rfl hx.2.2.2.2.2.1.1 hP hD hS (fun q h => Or.inr h) (a0 := (N, .inl (fun _ => 0))) (N' := N) (fun cA => by rcases ht with ⟨-, rfl⟩ | ⟨-, rfl⟩ | ⟨-, rfl⟩ <;> rfl) nn (by omega) (by rcases ht with ⟨-, rfl⟩ | ⟨-, rfl⟩ | ⟨-, rfl⟩ <;> simp [newarray.typeOf, componentBytes] <;> omega) hRc.1 hRc.2 d (fun q cA H1 hK1 hP1 hD1 hS1 => ?_)
  have hq : q ∉ L := pw_new hD1
  have hcA : cA = κ t := by
    have h1 := (hK1.2 6 _ rfl).2
    rcases ht with ⟨rfl, rfl⟩ | ⟨rfl, rfl⟩ | ⟨rfl, rfl⟩
    · exact Option.some.inj (h1.symm.trans (hx.2.2.2.2.2.1.1.2 0 _ rfl).2)
    · exact Option.some.inj (h1.symm.trans (hx.2.2.2.2.2.1.1.2 1 _ rfl).2)
    · exact Option.some.inj (h1.symm.trans (hx.2.2.2.2.2.1.1.2 2 _ rfl).2)
  subst hcA
  refine kk q (va_up F q (eI t N (fun _ => 0))) hq (va_up_self _ _ _) (fun b hb => va_up_ne _ _ hb) p e s m args below meth c D κ hx H1 locs ls ?_ ?_ hS1 hl
  · rw [← pw_push hq]; exact hP1
  · rw [← pw_push hq]; exact hD1
theorem z_newarrQ (hZ : ZZ = Zj l y cc nL ret R L0 post xp) {t N ix : Nat} {C : String} (d : decode cc pc = .ok (.anewarray ix, 3)) (ht : (t = 3 ∧ C = RX5) ∨ (t = 4 ∧ C = RX6)) (hcl : Cond.classLink y.cls ix C ∈ wsG) (hN : N ≤ 1000) (hRc : k + 1 ≤ R.cells ∧ n + N ≤ R.slots)
    (kk : ∀ (q : Nat) (F1 : Nat → PE), q ∉ L → F1 q = eQ t N (fun _ => none) → (∀ b : Nat, b ≠ q → F1 b = F b) → ZZ (k + 1) (n + N) (pc + 3) lv (.ref q :: st) (L ++ [q]) F1) : ZZ k n pc lv (.int (iI N) :: st) L F := by
  subst hZ
  intro p e s m args below meth c D κ hx H locs ls hP hD hS hl
  have e1 := iI_clamp (z := N) ⟨by omega, by omega⟩ (by omega)
  have nn : ¬ iI N < 0 := fun hh => by
    have := (iI_lt (a := N) (b := 0) ⟨by omega, by omega⟩ ⟨by omega, by omega⟩).mp hh
    omega
  have hN6 := hx.2.2.2.2.2.1.2.2.2.2.2.2.1
  refine va_newq hx.1 hx.2.1 (C := C) hx.2.2.2.1 (hx.2.2.2.2.1 _ hcl) (by rcases ht with ⟨-, rfl⟩ | ⟨-, rfl⟩; exact hN6.1; exact hN6.2) hx.2.2.2.2.2.1.1 hP hD hS (fun q h => Or.inr h) (N' := N) nn (by omega) (by omega) hRc.1 hRc.2 d (fun q cA H1 hK1 hP1 hD1 hS1 => ?_)
  have hq : q ∉ L := pw_new hD1
  have hcA : cA = κ t := by
    rcases ht with ⟨rfl, rfl⟩ | ⟨rfl, rfl⟩
    · obtain ⟨-, -, -, -, -, h1⟩ := (hK1.2 6 _ rfl).2
      obtain ⟨-, -, -, -, -, h2⟩ := (hx.2.2.2.2.2.1.1.2 3 _ rfl).2
      exact Option.some.inj (h1.symm.trans h2)
    · obtain ⟨-, -, -, -, -, h1⟩ := (hK1.2 6 _ rfl).2
      obtain ⟨-, -, -, -, -, h2⟩ := (hx.2.2.2.2.2.1.1.2 4 _ rfl).2
      exact Option.some.inj (h1.symm.trans h2)
  subst hcA
  refine kk q (va_up F q (eQ t N (fun _ => none))) hq (va_up_self _ _ _) (fun b hb => va_up_ne _ _ hb) p e s m args below meth c D κ hx H1 locs ls ?_ ?_ hS1 hl
  · rw [← pw_push hq]; exact hP1
  · rw [← pw_push hq]; exact hD1
/-- constructors called -/
theorem z_cI (hZ : ZZ = Zj l y cc nL ret R L0 post xp) {y1 : MethodName} {cc1 : ByteArray} {nL1 idx b : Nat} {R1 : Room} {As rest st0 : List Value} {post1 : Option Value → List Nat → (Nat → PE) → Prop} {xp1 : String → List Nat → (Nat → PE) → Prop}
    (hst : st0 = As.reverse ++ .ref b :: rest) (d : decode cc pc = .ok (.invokespecial idx, 3)) (hl : Cond.methodLink y.cls idx y1 ∈ wsG) (hw : wyI y1 As.length) (hM : PM l y1 cc1 nL1 none R1 L (.ref b :: As) F post1 xp1)
    (hR : R1.frames + 1 ≤ R.frames ∧ 8 + (nL1 + 11) + R1.locals ≤ R.locals) (hRc : k + R1.cells ≤ R.cells ∧ n + R1.slots ≤ R.slots) (hrest : (rest.map fun v => v.category).sum ≤ 8)
    (kx : ∀ (E : String) (L' : List Nat) (F' : Nat → PE), xp1 E L' F' → xp E L' F')
    (kk : ∀ (v : Option Value) (L' : List Nat) (F' : Nat → PE), post1 v L' F' → ZZ (k + R1.cells) (n + R1.slots) (pc + 3) lv (v.toList ++ rest) L' F') : ZZ k n pc lv st0 L F := by
  subst hZ
  intro p e s m args below meth c D κ hx H locs ls hP hD hS hl
  subst hst
  refine z_back (R1 := R1) hx hS hD hl (vx_runI (As := As) (b := b) ⟨hx.1, hx.2.1, hx.2.2.1, hx.2.2.2.1, hx.2.2.2.2.1⟩ (hM.2 D κ H.size) ⟨z_callB hx.2.2.2.2.1 hM.1 hw.1 ‹_› hR, hw.2.1, hx.2.2.2.2.1 _ hw.2.2⟩
    ⟨z_blind, fun U hU hW => ⟨rfl, z_pc hx.2.2.2.2.2.1 hS hP hD hU hW⟩⟩ rfl rfl hl.1 rfl (lv_room hrest) d hRc) (fun E L' F' h => ⟨kx E L' F' h, hRc⟩) kk
theorem z_cIN (hZ : ZZ = Zj l y cc nL ret R L0 post xp) {y1 : MethodName} {cc1 : ByteArray} {nL1 idx b : Nat} {R1 : Room} {As rest st0 : List Value} {post1 : Option Value → List Nat → (Nat → PE) → Prop} {xp1 : String → List Nat → (Nat → PE) → Prop} {host : String}
    (hst : st0 = As.reverse ++ .ref b :: rest) (d : decode cc pc = .ok (.invokespecial idx, 3)) (hl : (y.cls, idx, y1, host) ∈ nstW) (hw : wyI y1 As.length) (hM : PM l y1 cc1 nL1 none R1 L (.ref b :: As) F post1 xp1)
    (hR : R1.frames + 1 ≤ R.frames ∧ 8 + (nL1 + 11) + R1.locals ≤ R.locals) (hRc : k + R1.cells ≤ R.cells ∧ n + R1.slots ≤ R.slots) (hrest : (rest.map fun v => v.category).sum ≤ 8)
    (kx : ∀ (E : String) (L' : List Nat) (F' : Nat → PE), xp1 E L' F' → xp E L' F')
    (kk : ∀ (v : Option Value) (L' : List Nat) (F' : Nat → PE), post1 v L' F' → ZZ (k + R1.cells) (n + R1.slots) (pc + 3) lv (v.toList ++ rest) L' F') : ZZ k n pc lv st0 L F := by
  subst hZ
  intro p e s m args below meth c D κ hx H locs ls hP hD hS hl9
  subst hst
  have hnw : va_Nw (.methodLinkNest y.cls idx y1 host) s := hx.2.2.2.2.2.1.2.2.2.2.2.1 _ hl
  refine z_back (R1 := R1) hx hS hD hl9 (vx_runIN (As := As) (b := b) ⟨hx.1, hx.2.1, hx.2.2.1, hx.2.2.2.1, hx.2.2.2.2.1⟩ (hM.2 D κ H.size) ⟨va_cnB As.length hx.2.2.2.2.1 (wsG_GI hM.1) rfl rfl rfl hnw (hx.2.2.2.2.1 _ hw.1.1) ⟨hw.1.2.1.1, hw.1.2.1.2, hw.1.2.2⟩ hR, hw.2.1, hx.2.2.2.2.1 _ hw.2.2⟩
    ⟨z_blind, fun U hU hW => ⟨rfl, z_pc hx.2.2.2.2.2.1 hS hP hD hU hW⟩⟩ rfl rfl hl9.1 rfl (lv_room hrest) d hRc) (fun E L' F' h => ⟨kx E L' F' h, hRc⟩) kk
/-- throws -/
theorem xt_in {s : State} {args : Array Value} {B : List Cond} (hB : B = xtS ∨ B = xtA ∨ B = xtB) (hts : ∀ w ∈ wsG, w.before args s = true) (hN : pN s) (hin : ∀ w ∈ B.filter goodWord, w ∈ wsG) : ∀ w ∈ B, w.before args s = true := by
  intro w hw
  by_cases g : goodWord w = true
  · exact hts _ (hin w (List.mem_filter.mpr ⟨hw, g⟩))
  · have hm : w ∈ xtL := List.mem_filter.mpr ⟨by rcases hB with rfl | rfl | rfl <;> simp only [List.mem_append] <;> simp only [hw, true_or, or_true], by simp only [g, Bool.not_eq_true', Bool.not_eq_true] at g ⊢⟩
    exact (hN.2.2 w hm).use (isCD_on (xtL_cd w hm))
theorem xtS_in : ∀ w ∈ xtS.filter goodWord, w ∈ wsG := by
  have h : ∀ w ∈ xtS.filter goodWord, w ∈ lw_tbl := by decide +kernel
  exact fun w hw => wg (h w hw) (List.mem_filter.mp hw).2
theorem xtA_in : ∀ w ∈ xtA.filter goodWord, w ∈ wsG := by
  have h : ∀ w ∈ xtA.filter goodWord, w ∈ lw_tbl := by decide +kernel
  exact fun w hw => wg (h w hw) (List.mem_filter.mp hw).2
theorem xtB_in : ∀ w ∈ xtB.filter goodWord, w ∈ wsG := by
  have h : ∀ w ∈ xtB.filter goodWord, w ∈ lw_tbl := by decide +kernel
  exact fun w hw => wg (h w hw) (List.mem_filter.mp hw).2
theorem xtS_ot : ∀ w ∈ Cond.classLink RX7 148 "java/lang/IllegalStateException" :: Cond.initialized "java/lang/IllegalStateException" :: xtS, vx_ot w = true := by decide +kernel
theorem xtA_ot : ∀ w ∈ Cond.classLink RX7 40 "java/lang/IllegalArgumentException" :: Cond.initialized "java/lang/IllegalArgumentException" :: xtA, vx_ot w = true := by decide +kernel
theorem xtB_ot : ∀ w ∈ Cond.classLink RX7 309 "java/lang/IndexOutOfBoundsException" :: Cond.initialized "java/lang/IndexOutOfBoundsException" :: xtB, vx_ot w = true := by decide +kernel
theorem z_throw (hZ : ZZ = Zj l y cc nL ret R L0 post xp) (hf : l.flags = flags0) (hy : y.cls = RX7) {E text : String} {ik is ic : Nat} (hE : (E = "java/lang/IllegalStateException" ∧ ic = 152 ∧ ik = 148) ∨ (E = "java/lang/IllegalArgumentException" ∧ ic = 44 ∧ ik = 40))
    (d0 : decode cc pc = .ok (.new ik, 3)) (d3 : decode cc (pc + 3) = .ok (.dup, 1)) (d4 : decode cc (pc + 4) = .ok (.ldc is, 2)) (d6 : decode cc (pc + 6) = .ok (.invokespecial ic, 3)) (d9 : decode cc (pc + 9) = .ok (.athrow, 1)) (hk : Cond.classLink RX7 ik E ∈ wsG) (hini : Cond.initialized E ∈ wsG) (hs : (is, text) ∈ strs)
    (hRf : 5 < R.frames) (hRl : 100 ≤ R.locals) (hst : (st.map fun v => v.category).sum ≤ 8) (hRc : k + 1 ≤ R.cells ∧ n + 6 ≤ R.slots) (hx9 : xp E L F) : ZZ k n pc lv st L F := by
  subst hZ
  intro p e s m args below meth c D κ hx H locs ls hP hD hS hl
  obtain ⟨sa, hsa⟩ := hx.2.2.2.2.2.1.2.1 _ hs
  have hst9 : l.stackTraces = false := by unfold Launch.stackTraces; rw [hf]; rfl
  have key : ∀ B, B = vx_atS RX7 ic E ["java/lang/RuntimeException", "java/lang/Exception"] → (B = xtS ∨ B = xtA ∨ B = xtB) → (∀ w ∈ B.filter goodWord, w ∈ wsG) → (∀ w ∈ Cond.classLink RX7 ik E :: Cond.initialized E :: B, vx_ot w = true) → Bundle.fit E = true → W p l e R s m args below meth c H locs k n (vx_MQ below (pQ D κ (pA L0 s.heap.size) post) (pX D κ (pA L0 s.heap.size) xp) args s R.cells R.slots (pA L0 s.heap.size)) (F0 m pc ls st) := by
    intro B hB hB2 hB3 hB4 hfit
    refine vx_throwS (own := RX7) (cls := E) (text := text) (names := ["java/lang/RuntimeException", "java/lang/Exception"]) (ik := ik) (is := is) (ic := ic) (sa := sa) (A := pA L0 s.heap.size) hx.1 hx.2.1 hst9 (by rw [← hy]; exact hx.2.2.2.1) hfit (by decide +kernel) (hx.2.2.2.2.1 _ hk) (hx.2.2.2.2.1 _ hini) hsa (by rw [← hB]; exact xt_in hB2 hx.2.2.2.2.1 hx.2.2.2.2.2.1.2.2.2.2.2 hB3) (by rw [← hB]; exact hB4) hx.2.2.2.2.2.1.2.2.1 hx.2.2.2.2.2.1.2.2.2.1 hS (by rw [hx.2.2.1]; exact hl.1) d0 d3 d4 d6 d9 (fun x hx5 => (hx.2.2.2.2.2.2.2.2.1 x hx5).elim) (by show 2 + 3 < R.frames; omega) (by show _ + (13 * 3 + 43) ≤ R.locals; omega) hRc.1 hRc.2 hx.2.2.2.2.2.2.2.1 (fun t hal hsz hq => ?_) hS.2.2 hRc.1 hRc.2
    refine ⟨L, F, hx9, hP.kept (fun i q hi => hq _ (hP i q hi).lt), hD, Nat.le_trans hS.1 hsz, fun q h1 h2 => ?_⟩
    rw [hq q (Nat.lt_of_lt_of_le h1 hS.1)]
    exact hS.2.1 q h1 h2
  rcases hE with ⟨rfl, rfl, rfl⟩ | ⟨rfl, rfl, rfl⟩
  · exact key xtS rfl (Or.inl rfl) xtS_in xtS_ot (by decide +kernel)
  · exact key xtA rfl (Or.inr (Or.inl rfl)) xtA_in xtA_ot (by decide +kernel)
theorem z_throwW (hZ : ZZ = Zj l y cc nL ret R L0 post xp) (hf : l.flags = flags0) (hy : y.cls = RX7) {E text : String} {ik is ic : Nat} (hE : (E = "java/lang/IllegalStateException" ∧ ic = 152 ∧ ik = 148) ∨ (E = "java/lang/IndexOutOfBoundsException" ∧ ic = 313 ∧ ik = 309))
    (d0 : decode cc pc = .ok (.new ik, 3)) (d3 : decode cc (pc + 3) = .ok (.dup, 1)) (d4 : decode cc (pc + 4) = .ok (.ldc_w is, 3)) (d7 : decode cc (pc + 7) = .ok (.invokespecial ic, 3)) (d10 : decode cc (pc + 10) = .ok (.athrow, 1)) (hk : Cond.classLink RX7 ik E ∈ wsG) (hini : Cond.initialized E ∈ wsG) (hs : (is, text) ∈ strs)
    (hRf : 5 < R.frames) (hRl : 100 ≤ R.locals) (hst : (st.map fun v => v.category).sum ≤ 8) (hRc : k + 1 ≤ R.cells ∧ n + 6 ≤ R.slots) (hx9 : xp E L F) : ZZ k n pc lv st L F := by
  subst hZ
  intro p e s m args below meth c D κ hx H locs ls hP hD hS hl
  obtain ⟨sa, hsa⟩ := hx.2.2.2.2.2.1.2.1 _ hs
  have hst9 : l.stackTraces = false := by unfold Launch.stackTraces; rw [hf]; rfl
  have key : ∀ B, B = vx_atS RX7 ic E ["java/lang/RuntimeException", "java/lang/Exception"] → (B = xtS ∨ B = xtA ∨ B = xtB) → (∀ w ∈ B.filter goodWord, w ∈ wsG) → (∀ w ∈ Cond.classLink RX7 ik E :: Cond.initialized E :: B, vx_ot w = true) → Bundle.fit E = true → W p l e R s m args below meth c H locs k n (vx_MQ below (pQ D κ (pA L0 s.heap.size) post) (pX D κ (pA L0 s.heap.size) xp) args s R.cells R.slots (pA L0 s.heap.size)) (F0 m pc ls st) := by
    intro B hB hB2 hB3 hB4 hfit
    refine vx_throwSW (own := RX7) (cls := E) (text := text) (names := ["java/lang/RuntimeException", "java/lang/Exception"]) (ik := ik) (is := is) (ic := ic) (sa := sa) (A := pA L0 s.heap.size) hx.1 hx.2.1 hst9 (by rw [← hy]; exact hx.2.2.2.1) hfit (by decide +kernel) (hx.2.2.2.2.1 _ hk) (hx.2.2.2.2.1 _ hini) hsa (by rw [← hB]; exact xt_in hB2 hx.2.2.2.2.1 hx.2.2.2.2.2.1.2.2.2.2.2 hB3) (by rw [← hB]; exact hB4) hx.2.2.2.2.2.1.2.2.1 hx.2.2.2.2.2.1.2.2.2.1 hS (by rw [hx.2.2.1]; exact hl.1) d0 d3 d4 d7 d10 (fun x hx5 => (hx.2.2.2.2.2.2.2.2.1 x hx5).elim) (by show 2 + 3 < R.frames; omega) (by show _ + (13 * 3 + 43) ≤ R.locals; omega) hRc.1 hRc.2 hx.2.2.2.2.2.2.2.1 (fun t hal hsz hq => ?_) hS.2.2 hRc.1 hRc.2
    refine ⟨L, F, hx9, hP.kept (fun i q hi => hq _ (hP i q hi).lt), hD, Nat.le_trans hS.1 hsz, fun q h1 h2 => ?_⟩
    rw [hq q (Nat.lt_of_lt_of_le h1 hS.1)]
    exact hS.2.1 q h1 h2
  rcases hE with ⟨rfl, rfl, rfl⟩ | ⟨rfl, rfl, rfl⟩
  · exact key xtS rfl (Or.inl rfl) xtS_in xtS_ot (by decide +kernel)
  · exact key xtB rfl (Or.inr (Or.inr rfl)) xtB_in xtB_ot (by decide +kernel)
end ZM
