/-! THE LAYER FOR A STRING CONSTANT: its place a0, the place of its bytes b0. -/
def sS (a0 b0 : Nat) (A : Nat → Prop) (U : State) (H : Heap) : Prop := vk_S 1 [21] [ltrB] (fun _ => a0) (fun _ => b0) A U H ∧ va_Z "java/lang/String" "COMPACT_STRINGS" "Z" (.int 1) A U H
theorem sS.warm {a0 b0 : Nat} {A : Nat → Prop} {s U : State} {H : Heap} (hW : s.WarmedH U.vm) (h : sS a0 b0 A s H) : sS a0 b0 A U H := ⟨h.1.moved hW.alike, h.2.moved hW.alike⟩
theorem sS.kept {a0 b0 : Nat} {A : Nat → Prop} {U : State} {H H1 : Heap} (h : sS a0 b0 A U H) (hq : ∀ a : Nat, a < H.size → ¬ A a → H1[a]? = H[a]?) : sS a0 b0 A U H1 := ⟨h.1.kept hq, h.2.kept hq⟩
theorem sS.narrow {a0 b0 : Nat} {A B : Nat → Prop} {U : State} {H : Heap} (h : sS a0 b0 A U H) (hAB : ∀ q, B q → A q) : sS a0 b0 B U H := ⟨h.1.narrow hAB, h.2.narrow hAB⟩
theorem sS.calling {a0 b0 : Nat} {A : Nat → Prop} {U : State} {H : Heap} {g : JFrame} {mk : MethodId} {a : Array Value} (h : sS a0 b0 A U H) : sS a0 b0 A (U.calling g mk a) H := ⟨vk_S.moved (u := U) (Vm.Alike.refl U.vm) h.1, va_Z.moved (u := U) (Vm.Alike.refl U.vm) h.2⟩
theorem pS.s {A : Nat → Prop} {U : State} {H : Heap} (h : pS A U H) : ∃ a0 b0, sS a0 b0 A U H ∧ vk_R "DragonRing" 314 "fbFBaemxwWkrcyptusgn_" a0 U := by
  obtain ⟨⟨adK, adV, h1, h2⟩, h3⟩ := h
  refine ⟨adK 0, adV 0, ⟨⟨fun i hi => ?_, fun i j hi hj _ => by omega⟩, h3⟩, h2⟩
  obtain rfl : i = 0 := by omega
  exact h1.1 0 hi
def Zs (a0 b0 : Nat) (l : Launch) (y : MethodName) (cc : ByteArray) (nL : Nat) (ret : Option FieldType) (R : Room) (L0 : List Nat) (post : Option Value → List Nat → (Nat → PE) → Prop) (xp : String → List Nat → (Nat → PE) → Prop) (k n pc : Nat) (lv : List (Option Value)) (st : List Value) (L : List Nat) (F : Nat → PE) : Prop :=
  ∀ (p : Program) (e : Env) (s : State) (m : MethodId) (args : Array Value) (below : List Frame) (meth : Method) (c : Code) (D : va_G) (κ : Nat → ClassId), Zfx l y cc nL ret L0 p s m args meth c D κ ∧ sS a0 b0 (pA L0 s.heap.size) s s.heap →
    ∀ (H : Heap) (locs : List Loc) (ls : Array Slot), va_P D vwCl (pw κ L F) H → va_D (pA L0 s.heap.size) (pw κ L F) → va_S (pA L0 s.heap.size) s.heap H locs → lh ls nL lv →
      W p l e R s m args below meth c H locs k n (vx_MQ below (pQ D κ (pA L0 s.heap.size) post) (pX D κ (pA L0 s.heap.size) xp) args s R.cells R.slots (pA L0 s.heap.size)) (F0 m pc ls st)
def PMs (a0 b0 : Nat) (l : Launch) (y : MethodName) (cc : ByteArray) (nL : Nat) (ret : Option FieldType) (R : Room) (L0 : List Nat) (av : List Value) (F : Nat → PE) (post : Option Value → List Nat → (Nat → PE) → Prop) (xp : String → List Nat → (Nat → PE) → Prop) : Prop :=
  Cond.code y cc nL ret ∈ wsG ∧ ∀ (D : va_G) (κ : Nat → ClassId) (sz : Nat), vx_Met l y (Cond.code y cc nL ret :: wsG) R (va_Pc av (fun U => U.heap.size = sz ∧ va_P D vwCl (pw κ L0 F) U.heap ∧ va_D (fun _ => True) (pw κ L0 F) ∧ pK D κ (pA L0 sz) U U.heap ∧ sS a0 b0 (pA L0 sz) U U.heap))
    (pQ D κ (pA L0 sz) post) (pX D κ (pA L0 sz) xp) R.cells R.slots (pA L0 sz)
theorem pms_of {a0 b0 : Nat} {l : Launch} {y : MethodName} {cc : ByteArray} {nL : Nat} {ret : Option FieldType} {R : Room} {L0 : List Nat} {av : List Value} {F : Nat → PE} {post : Option Value → List Nat → (Nat → PE) → Prop} {xp : String → List Nat → (Nat → PE) → Prop}
    (hc : Cond.code y cc nL ret ∈ wsG) (hy : plainFor y = true) (hfit : (lg_sl av).length ≤ nL) (body : ∀ ZZ : ZT, ZZ = Zs a0 b0 l y cc nL ret R L0 post xp → ZZ 0 0 0 (lent av ++ List.replicate (nL - (lg_sl av).length) none) [] L0 F) : PMs a0 b0 l y cc nL ret R L0 av F post xp := by
  refine ⟨hc, fun D κ sz => ?_⟩
  refine vx_ofWF (cc := cc) (maxL := nL) (ret := ret) hy rfl ?_
  intro p e s m args below meth c s₁ B hml hex hv
  obtain ⟨rfl, hsz, hP, hD0, hK, hSS⟩ := hv
  subst hsz
  have hts := atoms_spec B.pre
  rw [lg_entry_eq]
  exact body _ rfl p e s m _ below meth c D κ ⟨⟨B.exec, B.bytes, hml, findClass_of_methodNamed B.named, fun w hw => hts w (List.mem_cons_of_mem _ hw), hK, B.returns, B.notSynchronized, hex, (name_of_methodNamed B.named B.method).1⟩, hSS⟩
    s.heap [] _ hP (pw_A hD0 (fun a ha => Or.inl ha)) va_S.rf (lent_has (lv_entry av hfit))
section ZSC
variable {ZZ : ZT} {a0 b0 : Nat} {l : Launch} {y : MethodName} {cc : ByteArray} {nL : Nat} {ret : Option FieldType} {R : Room} {L0 : List Nat} {post : Option Value → List Nat → (Nat → PE) → Prop} {xp : String → List Nat → (Nat → PE) → Prop}
variable {k n pc : Nat} {lv : List (Option Value)} {st : List Value} {L : List Nat} {F : Nat → PE}
theorem zs_iret (hZ : ZZ = Zs a0 b0 l y cc nL ret R L0 post xp) (hr : ret = some .int) {z : Int} (hk : k ≤ R.cells) (hn : n ≤ R.slots) (d : decode cc pc = .ok (.ireturn, 1)) (hp : post (some (.int (iI z))) L F) : ZZ k n pc lv [.int (iI z)] L F := by
  subst hZ
  intro p e s m args below meth c D κ hx H locs ls hP hD hS hl
  refine W.widen hk hn (vx_ret ?_)
  exact W.iret hx.1.1 hx.1.2.1 (hx.1.2.2.2.2.2.2.1.trans hr) (fun t ht hW => ⟨_, L, F, rfl, hp, by rw [ht]; exact hP, hD, hS.F ht⟩) hS.2.2 d hx.1.2.2.2.2.2.2.2.1
theorem zs_zret (hZ : ZZ = Zs a0 b0 l y cc nL ret R L0 post xp) (hr : ret = some .boolean) {z : Int} (hk : k ≤ R.cells) (hn : n ≤ R.slots) (d : decode cc pc = .ok (.ireturn, 1)) (hb : z = 0 ∨ z = 1) (hp : post (some (.int (iI z))) L F) : ZZ k n pc lv [.int (iI z)] L F := by
  subst hZ
  intro p e s m args below meth c D κ hx H locs ls hP hD hS hl
  refine W.widen hk hn (vx_ret ?_)
  exact W.zret hx.1.1 hx.1.2.1 (hx.1.2.2.2.2.2.2.1.trans hr) (by rcases hb with rfl | rfl <;> decide) (fun t ht hW => ⟨_, L, F, rfl, hp, by rw [ht]; exact hP, hD, hS.F ht⟩) hS.2.2 d hx.1.2.2.2.2.2.2.2.1
theorem zs_bret (hZ : ZZ = Zs a0 b0 l y cc nL ret R L0 post xp) (hr : ret = some .byte) (hk : k ≤ R.cells) (hn : n ≤ R.slots) (d : decode cc pc = .ok (.ireturn, 1)) (hp : post (some (.int (iI 0))) L F) : ZZ k n pc lv [.int (iI 0)] L F := by
  subst hZ
  intro p e s m args below meth c D κ hx H locs ls hP hD hS hl
  refine W.widen hk hn (vx_ret ?_)
  exact W.zret hx.1.1 hx.1.2.1 (hx.1.2.2.2.2.2.2.1.trans hr) (by decide) (fun t ht hW => ⟨_, L, F, rfl, hp, by rw [ht]; exact hP, hD, hS.F ht⟩) hS.2.2 d hx.1.2.2.2.2.2.2.2.1
theorem zs_back {p : Program} {e : Env} {s : State} {m : MethodId} {args : Array Value} {below : List Frame} {meth : Method} {c : Code} {D : va_G} {κ : Nat → ClassId} {H : Heap} {locs : List Loc} {ls : Array Slot} {R1 : Room} {a : Array Value} {rest st0 : List Value}
    {post1 : Option Value → List Nat → (Nat → PE) → Prop} {xp1 : String → List Nat → (Nat → PE) → Prop}
    (hx : Zfx l y cc nL ret L0 p s m args meth c D κ ∧ sS a0 b0 (pA L0 s.heap.size) s s.heap) (hS : va_S (pA L0 s.heap.size) s.heap H locs) (hD : va_D (pA L0 s.heap.size) (pw κ L F)) (hl : lh ls nL lv)
    (hr : vx_Run p l e R s m args below meth c H locs k n R1.cells R1.slots (F0 m pc ls st0) rest (pQ D κ (pA L H.size) post1 a) (pX D κ (pA L H.size) xp1) (pA L H.size))
    (kx : ∀ (E : String) (L' : List Nat) (F' : Nat → PE), xp1 E L' F' → xp E L' F' ∧ k + R1.cells ≤ R.cells ∧ n + R1.slots ≤ R.slots)
    (kk : ∀ (v : Option Value) (L' : List Nat) (F' : Nat → PE), post1 v L' F' → Zs a0 b0 l y cc nL ret R L0 post xp (k + R1.cells) (n + R1.slots) (pc + 3) lv (v.toList ++ rest) L' F') :
    W p l e R s m args below meth c H locs k n (vx_MQ below (pQ D κ (pA L0 s.heap.size) post) (pX D κ (pA L0 s.heap.size) xp) args s R.cells R.slots (pA L0 s.heap.size)) (F0 m pc ls st0) := by
  have hAA : ∀ q, pA L H.size q → pA L0 s.heap.size q := fun q h => h.elim (fun h => pw_in hD q h) (fun h => Or.inr (Nat.le_trans hS.1 h))
  intro T hT X
  rcases hr T hT X with ⟨v, st₀, t, T', Ls, h0, X', hL, e1, e2, ⟨v2, L', F', hv, hp, hP1, hD1, hF⟩, st⟩ | ⟨q, st₀, t, T', Ls, E, ce, h0, X', hL, e1, e2, ⟨L', F', hp, hP1, hD1, hF⟩, hce, hcv, hcl, st⟩
  · cases hv
    obtain ⟨k1, k2, k3⟩ := vx_keep h0 e1 hS (fun q _ h => hAA q h) hAA hL hF
    obtain ⟨t2, a1, b1⟩ := kk v L' F' hp p e s m args below meth c D κ hx T'.heap (locs ++ Ls) ls (by rw [e1]; exact hP1) ⟨hD1.1, fun k q hk => hAA _ (hD1.2 k q hk)⟩ k3 hl T' rfl X'
    exact ⟨t2, st t2 a1, b1⟩
  · obtain ⟨k1, k2, k3⟩ := vx_keep h0 e1 hS (fun q _ h => hAA q h) hAA hL hF
    obtain ⟨g1, g2, g3⟩ := kx E L' F' hp
    obtain ⟨t2, a1, b1⟩ := vx_out (Qc := pQ D κ (pA L0 s.heap.size) post) (XC := pX D κ (pA L0 s.heap.size) xp) (free := pA L0 s.heap.size) (pc := pc) (rest := rest) (ls := ls) (fun x hx9 => (hx.1.2.2.2.2.2.2.2.2.1 x hx9).elim) hx.1.2.2.2.2.2.2.2.1 (by rw [e1]; exact hce) hcv hcl
      (fun t3 ht3 hal => ⟨L', F', g1, by rw [ht3, e1]; exact hP1, ⟨hD1.1, fun k q hk => hAA _ (hD1.2 k q hk)⟩, k3.F ht3⟩) k3.2.2 g2 g3 T' rfl X'
    exact ⟨t2, st.trans a1, b1⟩
theorem zs_pc {s U : State} {D : va_G} {κ : Nat → ClassId} {H : Heap} {locs : List Loc} (hK : pK D κ (pA L0 s.heap.size) s s.heap) (hSS : sS a0 b0 (pA L0 s.heap.size) s s.heap) (hS : va_S (pA L0 s.heap.size) s.heap H locs) (hP : va_P D vwCl (pw κ L F) H) (hD : va_D (pA L0 s.heap.size) (pw κ L F)) (hU : U.heap = H) (hW : s.WarmedH U.vm) :
    U.heap.size = H.size ∧ va_P D vwCl (pw κ L F) U.heap ∧ va_D (fun _ => True) (pw κ L F) ∧ pK D κ (pA L H.size) U U.heap ∧ sS a0 b0 (pA L H.size) U U.heap := by
  have hAA : ∀ q, pA L H.size q → pA L0 s.heap.size q := fun q h => h.elim (fun h => pw_in hD q h) (fun h => Or.inr (Nat.le_trans hS.1 h))
  refine ⟨by rw [hU], by rw [hU]; exact hP, pw_A hD (fun _ _ => trivial), ?_, ?_⟩
  · rw [hU]; exact ((hK.kept hS.2.1).narrow hAA).warm hW
  · rw [hU]; exact ((hSS.kept hS.2.1).narrow hAA).warm hW
theorem zs_blind {D : va_G} {κ : Nat → ClassId} {av : List Value} {sz : Nat} : FrameBlind (va_Pc av (fun U => U.heap.size = sz ∧ va_P D vwCl (pw κ L F) U.heap ∧ va_D (fun _ => True) (pw κ L F) ∧ pK D κ (pA L sz) U U.heap ∧ sS a0 b0 (pA L sz) U U.heap)) := fun a U g mk q => ⟨q.1, q.2.1, q.2.2.1, q.2.2.2.1, q.2.2.2.2.1.calling, q.2.2.2.2.2.calling⟩
theorem zs_cV (hZ : ZZ = Zs a0 b0 l y cc nL ret R L0 post xp) {y1 : MethodName} {cc1 : ByteArray} {nL1 idx : Nat} {ret1 : Option FieldType} {R1 : Room} {As rest st0 : List Value} {post1 : Option Value → List Nat → (Nat → PE) → Prop} {xp1 : String → List Nat → (Nat → PE) → Prop}
    (hst : st0 = As.reverse ++ .ref a0 :: rest) (d : decode cc pc = .ok (.invokevirtual idx, 3)) (hl : Cond.methodLink y.cls idx y1 ∈ wsG) (hw : wyV y1 As.length) (hM : PMs a0 b0 l y1 cc1 nL1 ret1 R1 L (.ref a0 :: As) F post1 xp1)
    (hcl : y1.cls = "java/lang/String") (hR : R1.frames + 1 ≤ R.frames ∧ 8 + (nL1 + 11) + R1.locals ≤ R.locals) (hRc : k + R1.cells ≤ R.cells ∧ n + R1.slots ≤ R.slots) (hrest : (rest.map fun v => v.category).sum ≤ 8)
    (kx : ∀ (E : String) (L' : List Nat) (F' : Nat → PE), xp1 E L' F' → xp E L' F')
    (kk : ∀ (v : Option Value) (L' : List Nat) (F' : Nat → PE), post1 v L' F' → ZZ (k + R1.cells) (n + R1.slots) (pc + 3) lv (v.toList ++ rest) L' F') : ZZ k n pc lv st0 L F := by
  subst hZ
  intro p e s m args below meth c D κ hx H locs ls hP hD hS hl
  subst hst
  refine zs_back (R1 := R1) hx hS hD hl (vx_runV (As := As) (b := a0) (C := y1.cls) ⟨hx.1.1, hx.1.2.1, hx.1.2.2.1, hx.1.2.2.2.1, hx.1.2.2.2.2.1⟩ (hM.2 D κ H.size) ⟨z_callB hx.1.2.2.2.2.1 hM.1 hw.1 ‹_› hR, hx.1.2.2.2.2.1 _ hw.2.1, hx.1.2.2.2.2.1 _ hw.2.2⟩
    ⟨zs_blind, (by rw [hcl]; exact vk_recv (i := 0) hx.2.1 (by decide) hS), fun U hU hW => ⟨rfl, zs_pc hx.1.2.2.2.2.2.1 hx.2 hS hP hD hU hW⟩⟩ rfl rfl hl.1 rfl (lv_room hrest) d hRc) (fun E L' F' h => ⟨kx E L' F' h, hRc⟩) kk
theorem zs_cS (hZ : ZZ = Zs a0 b0 l y cc nL ret R L0 post xp) {y1 : MethodName} {cc1 : ByteArray} {nL1 idx : Nat} {ret1 : Option FieldType} {R1 : Room} {As rest st0 : List Value} {post1 : Option Value → List Nat → (Nat → PE) → Prop} {xp1 : String → List Nat → (Nat → PE) → Prop}
    (hst : st0 = As.reverse ++ rest) (d : decode cc pc = .ok (.invokestatic idx, 3)) (hl : Cond.methodLink y.cls idx y1 ∈ wsG) (hw : wyS y1 As.length) (hM : PMs a0 b0 l y1 cc1 nL1 ret1 R1 L As F post1 xp1)
    (hR : R1.frames + 1 ≤ R.frames ∧ 8 + (nL1 + 11) + R1.locals ≤ R.locals) (hRc : k + R1.cells ≤ R.cells ∧ n + R1.slots ≤ R.slots) (hrest : (rest.map fun v => v.category).sum ≤ 8)
    (kx : ∀ (E : String) (L' : List Nat) (F' : Nat → PE), xp1 E L' F' → xp E L' F')
    (kk : ∀ (v : Option Value) (L' : List Nat) (F' : Nat → PE), post1 v L' F' → ZZ (k + R1.cells) (n + R1.slots) (pc + 3) lv (v.toList ++ rest) L' F') : ZZ k n pc lv st0 L F := by
  subst hZ
  intro p e s m args below meth c D κ hx H locs ls hP hD hS hl
  subst hst
  refine zs_back (R1 := R1) hx hS hD hl (vx_runS (As := As) ⟨hx.1.1, hx.1.2.1, hx.1.2.2.1, hx.1.2.2.2.1, hx.1.2.2.2.2.1⟩ (hM.2 D κ H.size) ⟨z_callB hx.1.2.2.2.2.1 hM.1 hw.1 ‹_› hR, hx.1.2.2.2.2.1 _ hw.2⟩
    ⟨zs_blind, fun U hU hW => ⟨rfl, zs_pc hx.1.2.2.2.2.2.1 hx.2 hS hP hD hU hW⟩⟩ rfl rfl hl.1 rfl (lv_room hrest) d hRc) (fun E L' F' h => ⟨kx E L' F' h, hRc⟩) kk
theorem zs_iconst (hZ : ZZ = Zs a0 b0 l y cc nL ret R L0 post xp) {w : Int} (d : decode cc pc = .ok (.iconst w, 1)) (kk : ZZ k n (pc + 1) lv (.int (iI w) :: st) L F) : ZZ k n pc lv (st) L F := by
  subst hZ
  intro p e s m args below meth c D κ hx H locs ls hP hD hS hl
  refine lv_iconst hx.1.1 hx.1.2.1 d (v := iI w) rfl ?_
  exact kk p e s m args below meth c D κ hx H locs ls hP hD hS hl
theorem zs_bipush (hZ : ZZ = Zs a0 b0 l y cc nL ret R L0 post xp) {c : Int} (d : decode cc pc = .ok (.bipush c, 2)) (hv : (Int8.ofInt c).toInt32 = iI c) (kk : ZZ k n (pc + 2) lv (.int (iI c) :: st) L F) : ZZ k n pc lv (st) L F := by
  subst hZ
  intro p e s m args below meth c D κ hx H locs ls hP hD hS hl
  refine lv_bipush hx.1.1 hx.1.2.1 d hv ?_
  exact kk p e s m args below meth c D κ hx H locs ls hP hD hS hl
theorem zs_sipush (hZ : ZZ = Zs a0 b0 l y cc nL ret R L0 post xp) {c : Int} (d : decode cc pc = .ok (.sipush c, 3)) (hv : (Int16.ofInt c).toInt32 = iI c) (kk : ZZ k n (pc + 3) lv (.int (iI c) :: st) L F) : ZZ k n pc lv (st) L F := by
  subst hZ
  intro p e s m args below meth c D κ hx H locs ls hP hD hS hl
  refine lv_sipush hx.1.1 hx.1.2.1 d hv ?_
  exact kk p e s m args below meth c D κ hx H locs ls hP hD hS hl
theorem zs_iload_n0 (hZ : ZZ = Zs a0 b0 l y cc nL ret R L0 post xp) {t : List (Option Value)} {z : Int32} (d : decode cc pc = .ok (.iload_n 0, 1)) (kk : ZZ k n (pc + 1) (some (.int z) :: t) (.int z :: st) L F) : ZZ k n pc (some (.int z) :: t) (st) L F := by
  subst hZ
  intro p e s m args below meth c D κ hx H locs ls hP hD hS hl
  refine lv_iload_n hx.1.1 hx.1.2.1 d rfl (hl.2.2 0 _ rfl) ?_
  exact kk p e s m args below meth c D κ hx H locs ls hP hD hS hl
theorem zs_iload_n1 (hZ : ZZ = Zs a0 b0 l y cc nL ret R L0 post xp) {x0 : Option Value} {t : List (Option Value)} {z : Int32} (d : decode cc pc = .ok (.iload_n 1, 1)) (kk : ZZ k n (pc + 1) (x0 :: some (.int z) :: t) (.int z :: st) L F) : ZZ k n pc (x0 :: some (.int z) :: t) (st) L F := by
  subst hZ
  intro p e s m args below meth c D κ hx H locs ls hP hD hS hl
  refine lv_iload_n hx.1.1 hx.1.2.1 d rfl (hl.2.2 1 _ rfl) ?_
  exact kk p e s m args below meth c D κ hx H locs ls hP hD hS hl
theorem zs_iload_n2 (hZ : ZZ = Zs a0 b0 l y cc nL ret R L0 post xp) {x0 x1 : Option Value} {t : List (Option Value)} {z : Int32} (d : decode cc pc = .ok (.iload_n 2, 1)) (kk : ZZ k n (pc + 1) (x0 :: x1 :: some (.int z) :: t) (.int z :: st) L F) : ZZ k n pc (x0 :: x1 :: some (.int z) :: t) (st) L F := by
  subst hZ
  intro p e s m args below meth c D κ hx H locs ls hP hD hS hl
  refine lv_iload_n hx.1.1 hx.1.2.1 d rfl (hl.2.2 2 _ rfl) ?_
  exact kk p e s m args below meth c D κ hx H locs ls hP hD hS hl
theorem zs_iload_n3 (hZ : ZZ = Zs a0 b0 l y cc nL ret R L0 post xp) {x0 x1 x2 : Option Value} {t : List (Option Value)} {z : Int32} (d : decode cc pc = .ok (.iload_n 3, 1)) (kk : ZZ k n (pc + 1) (x0 :: x1 :: x2 :: some (.int z) :: t) (.int z :: st) L F) : ZZ k n pc (x0 :: x1 :: x2 :: some (.int z) :: t) (st) L F := by
  subst hZ
  intro p e s m args below meth c D κ hx H locs ls hP hD hS hl
  refine lv_iload_n hx.1.1 hx.1.2.1 d rfl (hl.2.2 3 _ rfl) ?_
  exact kk p e s m args below meth c D κ hx H locs ls hP hD hS hl
theorem zs_aload_n0 (hZ : ZZ = Zs a0 b0 l y cc nL ret R L0 post xp) {t : List (Option Value)} {z : Nat} (d : decode cc pc = .ok (.aload_n 0, 1)) (kk : ZZ k n (pc + 1) (some (.ref z) :: t) (.ref z :: st) L F) : ZZ k n pc (some (.ref z) :: t) (st) L F := by
  subst hZ
  intro p e s m args below meth c D κ hx H locs ls hP hD hS hl
  refine lv_aload_n hx.1.1 hx.1.2.1 d rfl (hl.2.2 0 _ rfl) ?_
  exact kk p e s m args below meth c D κ hx H locs ls hP hD hS hl
theorem zs_aload_n1 (hZ : ZZ = Zs a0 b0 l y cc nL ret R L0 post xp) {x0 : Option Value} {t : List (Option Value)} {z : Nat} (d : decode cc pc = .ok (.aload_n 1, 1)) (kk : ZZ k n (pc + 1) (x0 :: some (.ref z) :: t) (.ref z :: st) L F) : ZZ k n pc (x0 :: some (.ref z) :: t) (st) L F := by
  subst hZ
  intro p e s m args below meth c D κ hx H locs ls hP hD hS hl
  refine lv_aload_n hx.1.1 hx.1.2.1 d rfl (hl.2.2 1 _ rfl) ?_
  exact kk p e s m args below meth c D κ hx H locs ls hP hD hS hl
theorem zs_istore_n2 (hZ : ZZ = Zs a0 b0 l y cc nL ret R L0 post xp) {x0 x1 : Option Value} {xi : Option Value} {t : List (Option Value)} {z : Int32} (d : decode cc pc = .ok (.istore_n 2, 1)) (hn : 2 < nL) (hc : c1 x1 = true) (kk : ZZ k n (pc + 1) (x0 :: x1 :: some (.int z) :: t) st L F) : ZZ k n pc (x0 :: x1 :: xi :: t) (.int z :: st) L F := by
  subst hZ
  intro p e s m args below meth c D κ hx H locs ls hP hD hS hl
  exact lv_istore_n hx.1.1 hx.1.2.1 d rfl (lh_has hl) hn rfl (fun ls' h' => kk p e s m args below meth c D κ hx H locs ls' hP hD hS (lh_st1 (lv := x0 :: x1 :: xi :: t) h' (fun j w hj hw => by obtain rfl : j = 1 := (by omega); have hw := Option.some.inj hw; rw [hw] at hc; have := eq_of_beq (show (w.category == 1) = true from hc); omega)))
theorem zs_istore_n3 (hZ : ZZ = Zs a0 b0 l y cc nL ret R L0 post xp) {x0 x1 x2 : Option Value} {xi : Option Value} {t : List (Option Value)} {z : Int32} (d : decode cc pc = .ok (.istore_n 3, 1)) (hn : 3 < nL) (hc : c1 x2 = true) (kk : ZZ k n (pc + 1) (x0 :: x1 :: x2 :: some (.int z) :: t) st L F) : ZZ k n pc (x0 :: x1 :: x2 :: xi :: t) (.int z :: st) L F := by
  subst hZ
  intro p e s m args below meth c D κ hx H locs ls hP hD hS hl
  exact lv_istore_n hx.1.1 hx.1.2.1 d rfl (lh_has hl) hn rfl (fun ls' h' => kk p e s m args below meth c D κ hx H locs ls' hP hD hS (lh_st1 (lv := x0 :: x1 :: x2 :: xi :: t) h' (fun j w hj hw => by obtain rfl : j = 2 := (by omega); have hw := Option.some.inj hw; rw [hw] at hc; have := eq_of_beq (show (w.category == 1) = true from hc); omega)))
theorem zs_iload4 (hZ : ZZ = Zs a0 b0 l y cc nL ret R L0 post xp) {x0 x1 x2 x3 : Option Value} {t : List (Option Value)} {z : Int32} (d : decode cc pc = .ok (.iload 4, 2)) (kk : ZZ k n (pc + 2) (x0 :: x1 :: x2 :: x3 :: some (.int z) :: t) (.int z :: st) L F) : ZZ k n pc (x0 :: x1 :: x2 :: x3 :: some (.int z) :: t) (st) L F := by
  subst hZ
  intro p e s m args below meth c D κ hx H locs ls hP hD hS hl
  refine lv_iload hx.1.1 hx.1.2.1 d (hl.2.2 4 _ rfl) ?_
  exact kk p e s m args below meth c D κ hx H locs ls hP hD hS hl
theorem zs_iload5 (hZ : ZZ = Zs a0 b0 l y cc nL ret R L0 post xp) {x0 x1 x2 x3 x4 : Option Value} {t : List (Option Value)} {z : Int32} (d : decode cc pc = .ok (.iload 5, 2)) (kk : ZZ k n (pc + 2) (x0 :: x1 :: x2 :: x3 :: x4 :: some (.int z) :: t) (.int z :: st) L F) : ZZ k n pc (x0 :: x1 :: x2 :: x3 :: x4 :: some (.int z) :: t) (st) L F := by
  subst hZ
  intro p e s m args below meth c D κ hx H locs ls hP hD hS hl
  refine lv_iload hx.1.1 hx.1.2.1 d (hl.2.2 5 _ rfl) ?_
  exact kk p e s m args below meth c D κ hx H locs ls hP hD hS hl
theorem zs_istore4 (hZ : ZZ = Zs a0 b0 l y cc nL ret R L0 post xp) {x0 x1 x2 x3 : Option Value} {xi : Option Value} {t : List (Option Value)} {z : Int32} (d : decode cc pc = .ok (.istore 4, 2)) (hn : 4 < nL) (hc : c1 x3 = true) (kk : ZZ k n (pc + 2) (x0 :: x1 :: x2 :: x3 :: some (.int z) :: t) st L F) : ZZ k n pc (x0 :: x1 :: x2 :: x3 :: xi :: t) (.int z :: st) L F := by
  subst hZ
  intro p e s m args below meth c D κ hx H locs ls hP hD hS hl
  exact lv_istore hx.1.1 hx.1.2.1 d (lh_has hl) hn rfl (fun ls' h' => kk p e s m args below meth c D κ hx H locs ls' hP hD hS (lh_st1 (lv := x0 :: x1 :: x2 :: x3 :: xi :: t) h' (fun j w hj hw => by obtain rfl : j = 3 := (by omega); have hw := Option.some.inj hw; rw [hw] at hc; have := eq_of_beq (show (w.category == 1) = true from hc); omega)))
theorem zs_istore5 (hZ : ZZ = Zs a0 b0 l y cc nL ret R L0 post xp) {x0 x1 x2 x3 x4 : Option Value} {xi : Option Value} {t : List (Option Value)} {z : Int32} (d : decode cc pc = .ok (.istore 5, 2)) (hn : 5 < nL) (hc : c1 x4 = true) (kk : ZZ k n (pc + 2) (x0 :: x1 :: x2 :: x3 :: x4 :: some (.int z) :: t) st L F) : ZZ k n pc (x0 :: x1 :: x2 :: x3 :: x4 :: xi :: t) (.int z :: st) L F := by
  subst hZ
  intro p e s m args below meth c D κ hx H locs ls hP hD hS hl
  exact lv_istore hx.1.1 hx.1.2.1 d (lh_has hl) hn rfl (fun ls' h' => kk p e s m args below meth c D κ hx H locs ls' hP hD hS (lh_st1 (lv := x0 :: x1 :: x2 :: x3 :: x4 :: xi :: t) h' (fun j w hj hw => by obtain rfl : j = 4 := (by omega); have hw := Option.some.inj hw; rw [hw] at hc; have := eq_of_beq (show (w.category == 1) = true from hc); omega)))
theorem zs_iinc5 (hZ : ZZ = Zs a0 b0 l y cc nL ret R L0 post xp) {x0 x1 x2 x3 x4 : Option Value} {t : List (Option Value)} {a q : Int} (d : decode cc pc = .ok (.iinc 5 q, 3)) (hn : 5 < nL) (hc : c1 x4 = true) (kk : ZZ k n (pc + 3) (x0 :: x1 :: x2 :: x3 :: x4 :: some (.int (iI (a + q))) :: t) st L F) : ZZ k n pc (x0 :: x1 :: x2 :: x3 :: x4 :: some (.int (iI a)) :: t) st L F := by
  subst hZ
  intro p e s m args below meth c D κ hx H locs ls hP hD hS hl
  obtain ⟨k9, hk9⟩ := List.getElem?_of_mem (lpr_mem.mpr (show (x0 :: x1 :: x2 :: x3 :: x4 :: some (Value.int (iI a)) :: t)[5]? = some (some (Value.int (iI a))) from rfl))
  exact lv_iinc hx.1.1 hx.1.2.1 d (lh_has hl) hk9 (iI_add a q) hn rfl (fun ls' h' => kk p e s m args below meth c D κ hx H locs ls' hP hD hS (lh_st1 (lv := x0 :: x1 :: x2 :: x3 :: x4 :: some (.int (iI a)) :: t) h' (fun j w hj hw => by obtain rfl : j = 4 := (by omega); have hw := Option.some.inj hw; rw [hw] at hc; have := eq_of_beq (show (w.category == 1) = true from hc); omega)))
theorem zs_goto (hZ : ZZ = Zs a0 b0 l y cc nL ret R L0 post xp) {off : Int} {tgt : Nat} (d : decode cc pc = .ok (.goto off, 3)) (ht : (pc : Int) + off = (tgt : Int)) (kk : ZZ k n tgt lv st L F) : ZZ k n pc lv st L F := by
  subst hZ
  intro p e s m args below meth c D κ hx H locs ls hP hD hS hl
  exact lv_goto hx.1.1 hx.1.2.1 d ht (kk p e s m args below meth c D κ hx H locs ls hP hD hS hl)
theorem zs_ishr (hZ : ZZ = Zs a0 b0 l y cc nL ret R L0 post xp) {a b : Int32} {r : Int32} (d : decode cc pc = .ok (.ishr, 1)) (hr : a >>> (b &&& 31) = r) (kk : ZZ k n (pc + 1) lv (.int r :: st) L F) : ZZ k n pc lv (.int b :: .int a :: st) L F := by
  subst hZ
  intro p e s m args below meth c D κ hx H locs ls hP hD hS hl
  refine lv_ishr hx.1.1 hx.1.2.1 d ?_
  rw [hr]
  exact kk p e s m args below meth c D κ hx H locs ls hP hD hS hl
theorem zs_i2b (hZ : ZZ = Zs a0 b0 l y cc nL ret R L0 post xp) {a : Int32} {r : Int32} (d : decode cc pc = .ok (.i2b, 1)) (hr : a.toInt8.toInt32 = r) (kk : ZZ k n (pc + 1) lv (.int r :: st) L F) : ZZ k n pc lv (.int a :: st) L F := by
  subst hZ
  intro p e s m args below meth c D κ hx H locs ls hP hD hS hl
  refine lv_i2b hx.1.1 hx.1.2.1 d hr ?_
  exact kk p e s m args below meth c D κ hx H locs ls hP hD hS hl
theorem zs_if_eq (hZ : ZZ = Zs a0 b0 l y cc nL ret R L0 post xp) {a : Int} {off : Int} {tgt : Nat} (d : decode cc pc = .ok (.ifCond .eq off, 3)) (ht : (pc : Int) + off = (tgt : Int)) (hr : -2147483648 ≤ a ∧ a ≤ 2147483647) (kt : a = 0 → ZZ k n tgt lv st L F) (kf : ¬ a = 0 → ZZ k n (pc + 3) lv st L F) : ZZ k n pc lv (.int (iI a) :: st) L F := by
  subst hZ
  intro p e s m args below meth c D κ hx H locs ls hP hD hS hl
  exact lv_if_eq hx.1.1 hx.1.2.1 d ht (fun h => kt ((iI_eq (b := 0) ⟨hr.1, hr.2⟩ ⟨by omega, by omega⟩).mp h) p e s m args below meth c D κ hx H locs ls hP hD hS hl) (fun h => kf (fun q => h ((iI_eq (b := 0) ⟨hr.1, hr.2⟩ ⟨by omega, by omega⟩).mpr q)) p e s m args below meth c D κ hx H locs ls hP hD hS hl)
theorem zs_if_ne (hZ : ZZ = Zs a0 b0 l y cc nL ret R L0 post xp) {a : Int} {off : Int} {tgt : Nat} (d : decode cc pc = .ok (.ifCond .ne off, 3)) (ht : (pc : Int) + off = (tgt : Int)) (hr : -2147483648 ≤ a ∧ a ≤ 2147483647) (kt : ¬ a = 0 → ZZ k n tgt lv st L F) (kf : a = 0 → ZZ k n (pc + 3) lv st L F) : ZZ k n pc lv (.int (iI a) :: st) L F := by
  subst hZ
  intro p e s m args below meth c D κ hx H locs ls hP hD hS hl
  exact lv_if_ne hx.1.1 hx.1.2.1 d ht (fun h => kt (fun q => h ((iI_eq (b := 0) ⟨hr.1, hr.2⟩ ⟨by omega, by omega⟩).mpr q)) p e s m args below meth c D κ hx H locs ls hP hD hS hl) (fun h => kf ((iI_eq (b := 0) ⟨hr.1, hr.2⟩ ⟨by omega, by omega⟩).mp h) p e s m args below meth c D κ hx H locs ls hP hD hS hl)
theorem zs_if_lt (hZ : ZZ = Zs a0 b0 l y cc nL ret R L0 post xp) {a : Int} {off : Int} {tgt : Nat} (d : decode cc pc = .ok (.ifCond .lt off, 3)) (ht : (pc : Int) + off = (tgt : Int)) (hr : -2147483648 ≤ a ∧ a ≤ 2147483647) (kt : a < 0 → ZZ k n tgt lv st L F) (kf : 0 ≤ a → ZZ k n (pc + 3) lv st L F) : ZZ k n pc lv (.int (iI a) :: st) L F := by
  subst hZ
  intro p e s m args below meth c D κ hx H locs ls hP hD hS hl
  exact lv_if_lt hx.1.1 hx.1.2.1 d ht (fun h => kt ((iI_lt (b := 0) ⟨hr.1, hr.2⟩ ⟨by omega, by omega⟩).mp h) p e s m args below meth c D κ hx H locs ls hP hD hS hl) (fun h => kf (by have := mt (iI_lt (b := 0) ⟨hr.1, hr.2⟩ ⟨by omega, by omega⟩).mpr h; omega) p e s m args below meth c D κ hx H locs ls hP hD hS hl)
theorem zs_if_ge (hZ : ZZ = Zs a0 b0 l y cc nL ret R L0 post xp) {a : Int} {off : Int} {tgt : Nat} (d : decode cc pc = .ok (.ifCond .ge off, 3)) (ht : (pc : Int) + off = (tgt : Int)) (hr : -2147483648 ≤ a ∧ a ≤ 2147483647) (kt : 0 ≤ a → ZZ k n tgt lv st L F) (kf : a < 0 → ZZ k n (pc + 3) lv st L F) : ZZ k n pc lv (.int (iI a) :: st) L F := by
  subst hZ
  intro p e s m args below meth c D κ hx H locs ls hP hD hS hl
  exact lv_if_ge hx.1.1 hx.1.2.1 d ht (fun h => kt ((iI_le (a := 0) ⟨by omega, by omega⟩ ⟨hr.1, hr.2⟩).mp h) p e s m args below meth c D κ hx H locs ls hP hD hS hl) (fun h => kf (by have := mt (iI_le (a := 0) ⟨by omega, by omega⟩ ⟨hr.1, hr.2⟩).mpr h; omega) p e s m args below meth c D κ hx H locs ls hP hD hS hl)
theorem zs_if_gt (hZ : ZZ = Zs a0 b0 l y cc nL ret R L0 post xp) {a : Int} {off : Int} {tgt : Nat} (d : decode cc pc = .ok (.ifCond .gt off, 3)) (ht : (pc : Int) + off = (tgt : Int)) (hr : -2147483648 ≤ a ∧ a ≤ 2147483647) (kt : 0 < a → ZZ k n tgt lv st L F) (kf : a ≤ 0 → ZZ k n (pc + 3) lv st L F) : ZZ k n pc lv (.int (iI a) :: st) L F := by
  subst hZ
  intro p e s m args below meth c D κ hx H locs ls hP hD hS hl
  exact lv_if_gt hx.1.1 hx.1.2.1 d ht (fun h => kt ((iI_lt (a := 0) ⟨by omega, by omega⟩ ⟨hr.1, hr.2⟩).mp h) p e s m args below meth c D κ hx H locs ls hP hD hS hl) (fun h => kf (by have := mt (iI_lt (a := 0) ⟨by omega, by omega⟩ ⟨hr.1, hr.2⟩).mpr h; omega) p e s m args below meth c D κ hx H locs ls hP hD hS hl)
theorem zs_if_le (hZ : ZZ = Zs a0 b0 l y cc nL ret R L0 post xp) {a : Int} {off : Int} {tgt : Nat} (d : decode cc pc = .ok (.ifCond .le off, 3)) (ht : (pc : Int) + off = (tgt : Int)) (hr : -2147483648 ≤ a ∧ a ≤ 2147483647) (kt : a ≤ 0 → ZZ k n tgt lv st L F) (kf : 0 < a → ZZ k n (pc + 3) lv st L F) : ZZ k n pc lv (.int (iI a) :: st) L F := by
  subst hZ
  intro p e s m args below meth c D κ hx H locs ls hP hD hS hl
  exact lv_if_le hx.1.1 hx.1.2.1 d ht (fun h => kt ((iI_le (b := 0) ⟨hr.1, hr.2⟩ ⟨by omega, by omega⟩).mp h) p e s m args below meth c D κ hx H locs ls hP hD hS hl) (fun h => kf (by have := mt (iI_le (b := 0) ⟨hr.1, hr.2⟩ ⟨by omega, by omega⟩).mpr h; omega) p e s m args below meth c D κ hx H locs ls hP hD hS hl)
theorem zs_icmp_eq (hZ : ZZ = Zs a0 b0 l y cc nL ret R L0 post xp) {a b : Int} {off : Int} {tgt : Nat} (d : decode cc pc = .ok (.if_icmp .eq off, 3)) (ht : (pc : Int) + off = (tgt : Int)) (hr : -2147483648 ≤ a ∧ a ≤ 2147483647 ∧ -2147483648 ≤ b ∧ b ≤ 2147483647) (kt : a = b → ZZ k n tgt lv st L F) (kf : ¬ a = b → ZZ k n (pc + 3) lv st L F) : ZZ k n pc lv (.int (iI b) :: .int (iI a) :: st) L F := by
  subst hZ
  intro p e s m args below meth c D κ hx H locs ls hP hD hS hl
  exact lv_icmp_eq hx.1.1 hx.1.2.1 d ht (fun h => kt ((iI_eq ⟨hr.1, hr.2.1⟩ hr.2.2).mp h) p e s m args below meth c D κ hx H locs ls hP hD hS hl) (fun h => kf (fun q => h ((iI_eq ⟨hr.1, hr.2.1⟩ hr.2.2).mpr q)) p e s m args below meth c D κ hx H locs ls hP hD hS hl)
theorem zs_icmp_ne (hZ : ZZ = Zs a0 b0 l y cc nL ret R L0 post xp) {a b : Int} {off : Int} {tgt : Nat} (d : decode cc pc = .ok (.if_icmp .ne off, 3)) (ht : (pc : Int) + off = (tgt : Int)) (hr : -2147483648 ≤ a ∧ a ≤ 2147483647 ∧ -2147483648 ≤ b ∧ b ≤ 2147483647) (kt : ¬ a = b → ZZ k n tgt lv st L F) (kf : a = b → ZZ k n (pc + 3) lv st L F) : ZZ k n pc lv (.int (iI b) :: .int (iI a) :: st) L F := by
  subst hZ
  intro p e s m args below meth c D κ hx H locs ls hP hD hS hl
  exact lv_icmp_ne hx.1.1 hx.1.2.1 d ht (fun h => kt (fun q => h ((iI_eq ⟨hr.1, hr.2.1⟩ hr.2.2).mpr q)) p e s m args below meth c D κ hx H locs ls hP hD hS hl) (fun h => kf ((iI_eq ⟨hr.1, hr.2.1⟩ hr.2.2).mp h) p e s m args below meth c D κ hx H locs ls hP hD hS hl)
theorem zs_icmp_lt (hZ : ZZ = Zs a0 b0 l y cc nL ret R L0 post xp) {a b : Int} {off : Int} {tgt : Nat} (d : decode cc pc = .ok (.if_icmp .lt off, 3)) (ht : (pc : Int) + off = (tgt : Int)) (hr : -2147483648 ≤ a ∧ a ≤ 2147483647 ∧ -2147483648 ≤ b ∧ b ≤ 2147483647) (kt : a < b → ZZ k n tgt lv st L F) (kf : b ≤ a → ZZ k n (pc + 3) lv st L F) : ZZ k n pc lv (.int (iI b) :: .int (iI a) :: st) L F := by
  subst hZ
  intro p e s m args below meth c D κ hx H locs ls hP hD hS hl
  exact lv_icmp_lt hx.1.1 hx.1.2.1 d ht (fun h => kt ((iI_lt ⟨hr.1, hr.2.1⟩ hr.2.2).mp h) p e s m args below meth c D κ hx H locs ls hP hD hS hl) (fun h => kf (by have := mt (iI_lt ⟨hr.1, hr.2.1⟩ hr.2.2).mpr h; omega) p e s m args below meth c D κ hx H locs ls hP hD hS hl)
theorem zs_icmp_ge (hZ : ZZ = Zs a0 b0 l y cc nL ret R L0 post xp) {a b : Int} {off : Int} {tgt : Nat} (d : decode cc pc = .ok (.if_icmp .ge off, 3)) (ht : (pc : Int) + off = (tgt : Int)) (hr : -2147483648 ≤ a ∧ a ≤ 2147483647 ∧ -2147483648 ≤ b ∧ b ≤ 2147483647) (kt : b ≤ a → ZZ k n tgt lv st L F) (kf : a < b → ZZ k n (pc + 3) lv st L F) : ZZ k n pc lv (.int (iI b) :: .int (iI a) :: st) L F := by
  subst hZ
  intro p e s m args below meth c D κ hx H locs ls hP hD hS hl
  exact lv_icmp_ge hx.1.1 hx.1.2.1 d ht (fun h => kt ((iI_le hr.2.2 ⟨hr.1, hr.2.1⟩).mp h) p e s m args below meth c D κ hx H locs ls hP hD hS hl) (fun h => kf (by have := mt (iI_le hr.2.2 ⟨hr.1, hr.2.1⟩).mpr h; omega) p e s m args below meth c D κ hx H locs ls hP hD hS hl)
theorem zs_icmp_gt (hZ : ZZ = Zs a0 b0 l y cc nL ret R L0 post xp) {a b : Int} {off : Int} {tgt : Nat} (d : decode cc pc = .ok (.if_icmp .gt off, 3)) (ht : (pc : Int) + off = (tgt : Int)) (hr : -2147483648 ≤ a ∧ a ≤ 2147483647 ∧ -2147483648 ≤ b ∧ b ≤ 2147483647) (kt : b < a → ZZ k n tgt lv st L F) (kf : a ≤ b → ZZ k n (pc + 3) lv st L F) : ZZ k n pc lv (.int (iI b) :: .int (iI a) :: st) L F := by
  subst hZ
  intro p e s m args below meth c D κ hx H locs ls hP hD hS hl
  exact lv_icmp_gt hx.1.1 hx.1.2.1 d ht (fun h => kt ((iI_lt hr.2.2 ⟨hr.1, hr.2.1⟩).mp h) p e s m args below meth c D κ hx H locs ls hP hD hS hl) (fun h => kf (by have := mt (iI_lt hr.2.2 ⟨hr.1, hr.2.1⟩).mpr h; omega) p e s m args below meth c D κ hx H locs ls hP hD hS hl)
theorem zs_icmp_le (hZ : ZZ = Zs a0 b0 l y cc nL ret R L0 post xp) {a b : Int} {off : Int} {tgt : Nat} (d : decode cc pc = .ok (.if_icmp .le off, 3)) (ht : (pc : Int) + off = (tgt : Int)) (hr : -2147483648 ≤ a ∧ a ≤ 2147483647 ∧ -2147483648 ≤ b ∧ b ≤ 2147483647) (kt : a ≤ b → ZZ k n tgt lv st L F) (kf : b < a → ZZ k n (pc + 3) lv st L F) : ZZ k n pc lv (.int (iI b) :: .int (iI a) :: st) L F := by
  subst hZ
  intro p e s m args below meth c D κ hx H locs ls hP hD hS hl
  exact lv_icmp_le hx.1.1 hx.1.2.1 d ht (fun h => kt ((iI_le ⟨hr.1, hr.2.1⟩ hr.2.2).mp h) p e s m args below meth c D κ hx H locs ls hP hD hS hl) (fun h => kf (by have := mt (iI_le ⟨hr.1, hr.2.1⟩ hr.2.2).mpr h; omega) p e s m args below meth c D κ hx H locs ls hP hD hS hl)
theorem zs_min (hZ : ZZ = Zs a0 b0 l y cc nL ret R L0 post xp) {ix : Nat} {a b : Int} (d : decode cc pc = .ok (.invokestatic ix, 3)) (hw : Cond.methodLink y.cls ix Lib.Math.min.name ∈ wsG) (hr : -2147483648 ≤ a ∧ a ≤ 2147483647 ∧ -2147483648 ≤ b ∧ b ≤ 2147483647) (hR : 1 ≤ R.frames) (hR2 : 60 ≤ R.locals) (hst : (st.map fun v => v.category).sum ≤ 8) (hRc : k ≤ R.cells ∧ n ≤ R.slots) (kk : ZZ k n (pc + 3) lv (.int (iI (if b < a then b else a)) :: st) L F) : ZZ k n pc lv (.int (iI b) :: .int (iI a) :: st) L F := by
  subst hZ
  intro p e s m args below meth c D κ hx H locs ls hP hD hS hl
  have hk := kk p e s m args below meth c D κ hx H locs ls hP hD hS hl
  refine va_mmin hx.1.1 hx.1.2.1 (hx.1.2.2.1.trans hl.1.symm) hx.1.2.2.2.1 (hx.1.2.2.2.2.1 _ hw) (hx.1.2.2.2.2.1 _ w_minS) (hx.1.2.2.2.2.1 _ w_maIn) (hx.1.2.2.2.2.1 _ w_minC) hR (by omega) hRc.1 hRc.2 d ?_
  have e : (if iI b < iI a then iI b else iI a) = iI (if b < a then b else a) := by
    by_cases h : b < a
    · rw [if_pos h, if_pos ((iI_lt hr.2.2 ⟨hr.1, hr.2.1⟩).mpr h)]
    · rw [if_neg h, if_neg (fun q => h ((iI_lt hr.2.2 ⟨hr.1, hr.2.1⟩).mp q))]
  rw [e]; exact hk
theorem zs_max (hZ : ZZ = Zs a0 b0 l y cc nL ret R L0 post xp) {ix : Nat} {a b : Int} (d : decode cc pc = .ok (.invokestatic ix, 3)) (hw : Cond.methodLink y.cls ix Lib.Math.max.name ∈ wsG) (hr : -2147483648 ≤ a ∧ a ≤ 2147483647 ∧ -2147483648 ≤ b ∧ b ≤ 2147483647) (hR : 1 ≤ R.frames) (hR2 : 60 ≤ R.locals) (hst : (st.map fun v => v.category).sum ≤ 8) (hRc : k ≤ R.cells ∧ n ≤ R.slots) (kk : ZZ k n (pc + 3) lv (.int (iI (if a < b then b else a)) :: st) L F) : ZZ k n pc lv (.int (iI b) :: .int (iI a) :: st) L F := by
  subst hZ
  intro p e s m args below meth c D κ hx H locs ls hP hD hS hl
  have hk := kk p e s m args below meth c D κ hx H locs ls hP hD hS hl
  refine va_mmax hx.1.1 hx.1.2.1 (hx.1.2.2.1.trans hl.1.symm) hx.1.2.2.2.1 (hx.1.2.2.2.2.1 _ hw) (hx.1.2.2.2.2.1 _ w_maxS) (hx.1.2.2.2.2.1 _ w_maIn) (hx.1.2.2.2.2.1 _ w_maxC) hR (by omega) hRc.1 hRc.2 d ?_
  have e : (if iI a < iI b then iI b else iI a) = iI (if a < b then b else a) := by
    by_cases h : a < b
    · rw [if_pos h, if_pos ((iI_lt ⟨hr.1, hr.2.1⟩ hr.2.2).mpr h)]
    · rw [if_neg h, if_neg (fun q => h ((iI_lt ⟨hr.1, hr.2.1⟩ hr.2.2).mp q))]
  rw [e]; exact hk
theorem zs_gfVal (hZ : ZZ = Zs a0 b0 l y cc nL ret R L0 post xp) {ix : Nat} (d : decode cc pc = .ok (.getfield ix, 3)) (hw : Cond.fieldLink y.cls ix "java/lang/String" "value" "[B" ∈ wsG) (kk : ZZ k n (pc + 3) lv (.ref b0 :: st) L F) : ZZ k n pc lv (.ref a0 :: st) L F := by
  subst hZ
  intro p e s m args below meth c D κ hx H locs ls hP hD hS hl
  exact vk_getf hx.1.1 hx.1.2.1 (hx.2.1.1 0 (by decide)).2.2.1 hS hx.1.2.2.2.1 (hx.1.2.2.2.2.1 _ hw) (fun _ h => h) d (kk p e s m args below meth c D κ hx H locs ls hP hD hS hl)
theorem zs_gfCod (hZ : ZZ = Zs a0 b0 l y cc nL ret R L0 post xp) {ix : Nat} (d : decode cc pc = .ok (.getfield ix, 3)) (hw : Cond.fieldLink y.cls ix "java/lang/String" "coder" "B" ∈ wsG) (kk : ZZ k n (pc + 3) lv (.int (iI 0) :: st) L F) : ZZ k n pc lv (.ref a0 :: st) L F := by
  subst hZ
  intro p e s m args below meth c D κ hx H locs ls hP hD hS hl
  exact vk_getf hx.1.1 hx.1.2.1 (hx.2.1.1 0 (by decide)).2.1 hS hx.1.2.2.2.1 (hx.1.2.2.2.2.1 _ hw) (fun _ h => h) d (kk p e s m args below meth c D κ hx H locs ls hP hD hS hl)
theorem zs_gsCom (hZ : ZZ = Zs a0 b0 l y cc nL ret R L0 post xp) {ix : Nat} (d : decode cc pc = .ok (.getstatic ix, 3)) (hw : Cond.fieldLink y.cls ix "java/lang/String" "COMPACT_STRINGS" "Z" ∈ wsG) (kk : ZZ k n (pc + 3) lv (.int (iI 1) :: st) L F) : ZZ k n pc lv st L F := by
  subst hZ
  intro p e s m args below meth c D κ hx H locs ls hP hD hS hl
  exact va_gets hx.1.1 hx.1.2.1 hx.2.2 hS hx.1.2.2.2.1 (hx.1.2.2.2.2.1 _ hw) (fun _ h => h) d (kk p e s m args below meth c D κ hx H locs ls hP hD hS hl)
theorem zs_alen (hZ : ZZ = Zs a0 b0 l y cc nL ret R L0 post xp) (d : decode cc pc = .ok (.arraylength, 1)) (kk : ZZ k n (pc + 1) lv (.int (iI 21) :: st) L F) : ZZ k n pc lv (.ref b0 :: st) L F := by
  subst hZ
  intro p e s m args below meth c D κ hx H locs ls hP hD hS hl
  exact va_tlen hx.1.1 hx.1.2.1 (hx.2.1.1 0 (by decide)).2.2.2 hS (v := iI 21) rfl d (kk p e s m args below meth c D κ hx H locs ls hP hD hS hl)
/-- the letters by their places -/
def ltZ (i : Int) : Int := ([102, 98, 70, 66, 97, 101, 109, 120, 119, 87, 107, 114, 99, 121, 112, 116, 117, 115, 103, 110, 95] : List Int).getD i.toNat 0
theorem ltZ_rg {i : Int} (h : 0 ≤ i ∧ i < 21) : 66 ≤ ltZ i ∧ ltZ i ≤ 121 := by
  have : ∀ j : Nat, j < 21 → 66 ≤ ltZ (j : Int) ∧ ltZ (j : Int) ≤ 121 := by decide +kernel
  have z := this i.toNat (by omega)
  rwa [Int.toNat_of_nonneg h.1] at z
theorem zs_bald (hZ : ZZ = Zs a0 b0 l y cc nL ret R L0 post xp) {i : Int} (d : decode cc pc = .ok (.baload, 1)) (hi : 0 ≤ i ∧ i < 21) (kk : ZZ k n (pc + 1) lv (.int (iI (ltZ i)) :: st) L F) : ZZ k n pc lv (.int (iI i) :: .ref b0 :: st) L F := by
  subst hZ
  intro p e s m args below meth c D κ hx H locs ls hP hD hS hl
  have e1 := iI_clamp (z := i) ⟨by omega, by omega⟩ (by omega)
  have nn : ¬ iI i < 0 := fun hh => by
    have := (iI_lt (a := i) (b := 0) ⟨by omega, by omega⟩ ⟨by omega, by omega⟩).mp hh
    omega
  have hv : ∀ j : Nat, j < 21 → ltrB.getD j 0 = iI (ltZ (j : Int)) := by decide +kernel
  refine va_tb hx.1.1 hx.1.2.1 (hx.2.1.1 0 (by decide)).2.2.2 hS (i := iI i) (v := .int (iI (ltZ i))) (fun q => ?_) ?_ d (kk p e s m args below meth c D κ hx H locs ls hP hD hS hl)
  · rcases q with q | q
    · exact nn q
    · have q : 21 ≤ (iI i).toNatClampNeg := q
      omega
  · show Value.int (ltrB.getD (iI i).toNatClampNeg 0) = _
    rw [show (iI i).toNatClampNeg = i.toNat by omega, hv i.toNat (by omega), Int.toNat_of_nonneg hi.1]
end ZSC
theorem iI_8 {c : Int} (h : 0 ≤ c ∧ c ≤ 127) : (iI c).toInt8.toInt32 = iI c := by
  have : ∀ j : Nat, j < 128 → (iI (j : Int)).toInt8.toInt32 = iI (j : Int) := by decide +kernel
  have z := this c.toNat (by omega)
  rwa [Int.toNat_of_nonneg h.1] at z
theorem iI_16 {c : Int} (h : 0 ≤ c ∧ c ≤ 127) : ((iI c).toUInt32 % 65536).toInt32 = iI c := by
  have : ∀ j : Nat, j < 128 → ((iI (j : Int)).toUInt32 % 65536).toInt32 = iI (j : Int) := by decide +kernel
  have z := this c.toNat (by omega)
  rwa [Int.toNat_of_nonneg h.1] at z
