/-! THE LAYER FOR THE LAW: bodies with handlers, and the law's own body: Φ is what is known of the start, tbl the table of handlers. -/
def Zqx (tbl : List ExceptionTableEntry) (l : Launch) (y : MethodName) (cc : ByteArray) (nL : Nat) (ret : Option FieldType) (L0 : List Nat) (p : Program) (s : State) (m : MethodId) (args : Array Value) (meth : Method) (c : Code) (D : va_G) (κ : Nat → ClassId) : Prop :=
  p.tables.exec = Jvm.exec ∧ c.code = cc ∧ c.maxLocals = nL ∧ s.vm.findClass y.cls = some m.cls ∧ (∀ w ∈ wsG, w.before args s = true) ∧ pK D κ (pA L0 s.heap.size) s s.heap ∧ meth.sig.returnType = ret ∧ meth.locks = false ∧ c.exceptionTable.toList = tbl ∧ meth.name = y.name
def Zq (Φ : State → Prop) (tbl : List ExceptionTableEntry) (l : Launch) (y : MethodName) (cc : ByteArray) (nL : Nat) (ret : Option FieldType) (R : Room) (L0 : List Nat) (post : Option Value → List Nat → (Nat → PE) → Prop) (xp : String → List Nat → (Nat → PE) → Prop) (k n pc : Nat) (lv : List (Option Value)) (st : List Value) (L : List Nat) (F : Nat → PE) : Prop :=
  ∀ (p : Program) (e : Env) (s : State) (m : MethodId) (args : Array Value) (below : List Frame) (meth : Method) (c : Code) (D : va_G) (κ : Nat → ClassId), Zqx tbl l y cc nL ret L0 p s m args meth c D κ ∧ Φ s →
    ∀ (H : Heap) (locs : List Loc) (ls : Array Slot), va_P D vwCl (pw κ L F) H → va_D (pA L0 s.heap.size) (pw κ L F) → va_S (pA L0 s.heap.size) s.heap H locs → lh ls nL lv →
      W p l e R s m args below meth c H locs k n (vx_MQ below (pQ D κ (pA L0 s.heap.size) post) (pX D κ (pA L0 s.heap.size) xp) args s R.cells R.slots (pA L0 s.heap.size)) (F0 m pc ls st)
def PMh (l : Launch) (y : MethodName) (cc : ByteArray) (nL : Nat) (ret : Option FieldType) (hh : List (Nat × Nat × Nat × Nat)) (R : Room) (L0 : List Nat) (av : List Value) (F : Nat → PE) (post : Option Value → List Nat → (Nat → PE) → Prop) : Prop :=
  Cond.codeWith y cc nL ret hh ∈ wsG ∧ ∀ (D : va_G) (κ : Nat → ClassId) (sz : Nat), vx_Met l y (Cond.codeWith y cc nL ret hh :: wsG) R (va_Pc av (fun U => U.heap.size = sz ∧ va_P D vwCl (pw κ L0 F) U.heap ∧ va_D (fun _ => True) (pw κ L0 F) ∧ pK D κ (pA L0 sz) U U.heap ∧ va_Nc xS xA U))
    (pQ D κ (pA L0 sz) post) (pX D κ (pA L0 sz) (fun _ _ _ => False)) R.cells R.slots (pA L0 sz)
theorem pmh_of {l : Launch} {y : MethodName} {cc : ByteArray} {nL : Nat} {ret : Option FieldType} {hh : List (Nat × Nat × Nat × Nat)} {R : Room} {L0 : List Nat} {av : List Value} {F : Nat → PE} {post : Option Value → List Nat → (Nat → PE) → Prop}
    (hc : Cond.codeWith y cc nL ret hh ∈ wsG) (hy : plainName y.cls = true) (hfit : (lg_sl av).length ≤ nL) (body : ∀ ZZ : ZT, ZZ = Zq (va_Nc xS xA) (tableOf hh) l y cc nL ret R L0 post (fun _ _ _ => False) → ZZ 0 0 0 (lent av ++ List.replicate (nL - (lg_sl av).length) none) [] L0 F) : PMh l y cc nL ret hh R L0 av F post := by
  refine ⟨hc, fun D κ sz => ?_⟩
  refine vx_ofWH (cc := cc) (maxL := nL) (ret := ret) (hh := hh) hy rfl ?_
  intro p e s m args below meth c s₁ B hml hv
  obtain ⟨rfl, hsz, hP, hD0, hK, hN⟩ := hv
  subst hsz
  have hts := atoms_spec B.pre
  have htb := vx_table (x := y) B (hts _ List.mem_cons_self)
  rw [lg_entry_eq]
  exact body _ rfl p e s m _ below meth c D κ ⟨⟨B.exec, B.bytes, hml, findClass_of_methodNamed B.named, fun w hw => hts w (List.mem_cons_of_mem _ hw), hK, B.returns, B.notSynchronized, htb, (name_of_methodNamed B.named B.method).1⟩, hN⟩
    s.heap [] _ hP (pw_A hD0 (fun a ha => Or.inl ha)) va_S.rf (lent_has (lv_entry av hfit))
def PMf (Φ : State → Prop) (l : Launch) (y : MethodName) (cc : ByteArray) (nL : Nat) (ret : Option FieldType) (R : Room) (L0 : List Nat) (av : List Value) (F : Nat → PE) (post : Option Value → List Nat → (Nat → PE) → Prop) : Prop :=
  Cond.code y cc nL ret ∈ wsG ∧ ∀ (D : va_G) (κ : Nat → ClassId) (sz : Nat), vx_Met l y (Cond.code y cc nL ret :: wsG) R (va_Pc av (fun U => U.heap.size = sz ∧ va_P D vwCl (pw κ L0 F) U.heap ∧ va_D (fun _ => True) (pw κ L0 F) ∧ pK D κ (pA L0 sz) U U.heap ∧ Φ U))
    (pQ D κ (pA L0 sz) post) (pX D κ (pA L0 sz) (fun _ _ _ => False)) R.cells R.slots (pA L0 sz)
theorem pmf_of {Φ : State → Prop} {l : Launch} {y : MethodName} {cc : ByteArray} {nL : Nat} {ret : Option FieldType} {R : Room} {L0 : List Nat} {av : List Value} {F : Nat → PE} {post : Option Value → List Nat → (Nat → PE) → Prop}
    (hc : Cond.code y cc nL ret ∈ wsG) (hy : plainName y.cls = true) (hfit : (lg_sl av).length ≤ nL) (body : ∀ ZZ : ZT, ZZ = Zq Φ [] l y cc nL ret R L0 post (fun _ _ _ => False) → ZZ 0 0 0 (lent av ++ List.replicate (nL - (lg_sl av).length) none) [] L0 F) : PMf Φ l y cc nL ret R L0 av F post := by
  refine ⟨hc, fun D κ sz => ?_⟩
  refine vx_ofW (cc := cc) (maxL := nL) (ret := ret) hy rfl ?_
  intro p e s m args below meth c s₁ B hml hex hv
  obtain ⟨rfl, hsz, hP, hD0, hK, hN⟩ := hv
  subst hsz
  have hts := atoms_spec B.pre
  rw [lg_entry_eq]
  exact body _ rfl p e s m _ below meth c D κ ⟨⟨B.exec, B.bytes, hml, findClass_of_methodNamed B.named, fun w hw => hts w (List.mem_cons_of_mem _ hw), hK, B.returns, B.notSynchronized, List.eq_nil_iff_forall_not_mem.mpr hex, (name_of_methodNamed B.named B.method).1⟩, hN⟩
    s.heap [] _ hP (pw_A hD0 (fun a ha => Or.inl ha)) va_S.rf (lent_has (lv_entry av hfit))
theorem iI_mask (a : Int32) : ∃ r : Int, (0 ≤ r ∧ r ≤ 2147483647) ∧ a &&& iI 2147483647 = iI r := by
  obtain ⟨z, hz, e⟩ := iI_of (a &&& iI 2147483647)
  refine ⟨z, ⟨?_, hz.2⟩, e⟩
  have h1 : (a &&& iI 2147483647).toInt = z := by rw [e]; exact iI_toInt hz
  have h2 : (a &&& iI 2147483647).toBitVec.msb = false := by
    show (a.toBitVec &&& (iI 2147483647).toBitVec).msb = false
    rw [BitVec.msb_and, show (iI 2147483647).toBitVec.msb = false by decide, Bool.and_false]
  have h3 : (a &&& iI 2147483647).toInt = ((a &&& iI 2147483647).toBitVec.toNat : Int) := BitVec.toInt_eq_toNat_of_msb h2
  omega
theorem kc_L_7 : Cond.constant RL 7 (iI 48397) ∈ wsG := wg (tw1 236 rfl) rfl
theorem kc_L_8 : Cond.constant RL 8 (iI 2147483647) ∈ wsG := wg (tw1 237 rfl) rfl
theorem kc_L_17 : Cond.constant RL 17 (iI (-2000001)) ∈ wsG := wg (tw2 101 rfl) rfl
theorem kc_L_20 : Cond.constant RL 20 (iI (-2000002)) ∈ wsG := wg (tw2 151 rfl) rfl
section ZQC
variable {ZZ : ZT} {Φ : State → Prop} {tbl : List ExceptionTableEntry} {l : Launch} {y : MethodName} {cc : ByteArray} {nL : Nat} {ret : Option FieldType} {R : Room} {L0 : List Nat} {post : Option Value → List Nat → (Nat → PE) → Prop} {xp : String → List Nat → (Nat → PE) → Prop}
variable {k n pc : Nat} {lv : List (Option Value)} {st : List Value} {L : List Nat} {F : Nat → PE}
theorem zq_iret (hZ : ZZ = Zq Φ tbl l y cc nL ret R L0 post xp) (hr : ret = some .int) {z : Int} (hk : k ≤ R.cells) (hn : n ≤ R.slots) (d : decode cc pc = .ok (.ireturn, 1)) (hp : post (some (.int (iI z))) L F) : ZZ k n pc lv [.int (iI z)] L F := by
  subst hZ
  intro p e s m args below meth c D κ hx H locs ls hP hD hS hl
  refine W.widen hk hn (vx_ret ?_)
  exact W.iret hx.1.1 hx.1.2.1 (hx.1.2.2.2.2.2.2.1.trans hr) (fun t ht hW => ⟨_, L, F, rfl, hp, by rw [ht]; exact hP, hD, hS.F ht⟩) hS.2.2 d hx.1.2.2.2.2.2.2.2.1
theorem zq_zret (hZ : ZZ = Zq Φ tbl l y cc nL ret R L0 post xp) (hr : ret = some .boolean) {z : Int} (hk : k ≤ R.cells) (hn : n ≤ R.slots) (d : decode cc pc = .ok (.ireturn, 1)) (hb : z = 0 ∨ z = 1) (hp : post (some (.int (iI z))) L F) : ZZ k n pc lv [.int (iI z)] L F := by
  subst hZ
  intro p e s m args below meth c D κ hx H locs ls hP hD hS hl
  refine W.widen hk hn (vx_ret ?_)
  exact W.zret hx.1.1 hx.1.2.1 (hx.1.2.2.2.2.2.2.1.trans hr) (by rcases hb with rfl | rfl <;> decide) (fun t ht hW => ⟨_, L, F, rfl, hp, by rw [ht]; exact hP, hD, hS.F ht⟩) hS.2.2 d hx.1.2.2.2.2.2.2.2.1
/-- where a throw goes in a body with handlers -/
def hOk (Φ : State → Prop) (tbl : List ExceptionTableEntry) (own : String) (pc : Nat) (E : String) (h : Nat) : Prop :=
  ∃ (pre : List ExceptionTableEntry) (x : ExceptionTableEntry) (suf : List ExceptionTableEntry) (nm : String), tbl = pre ++ x :: suf ∧ (∀ z ∈ pre, covers z pc = false ∨ (z.catchType ≠ 0 ∧ ∃ nm2 : String, Cond.classLink own z.catchType nm2 ∈ wsG ∧ ∀ s, Φ s → va_Nc E nm2 s)) ∧ covers x pc = true ∧ x.catchType ≠ 0 ∧ Cond.classLink own x.catchType nm ∈ wsG ∧ Cond.castable E nm ∈ xtL ∧ x.handlerPc = h
theorem zq_back {p : Program} {e : Env} {s : State} {m : MethodId} {args : Array Value} {below : List Frame} {meth : Method} {c : Code} {D : va_G} {κ : Nat → ClassId} {H : Heap} {locs : List Loc} {ls : Array Slot} {R1 : Room} {a : Array Value} {rest st0 : List Value}
    {post1 : Option Value → List Nat → (Nat → PE) → Prop} {xp1 : String → List Nat → (Nat → PE) → Prop}
    (hx : Zqx tbl l y cc nL ret L0 p s m args meth c D κ ∧ Φ s) (hS : va_S (pA L0 s.heap.size) s.heap H locs) (hD : va_D (pA L0 s.heap.size) (pw κ L F)) (hl : lh ls nL lv)
    (hr : vx_Run p l e R s m args below meth c H locs k n R1.cells R1.slots (F0 m pc ls st0) rest (pQ D κ (pA L H.size) post1 a) (pX D κ (pA L H.size) xp1) (pA L H.size))
    (kx : ∀ (E : String) (L' : List Nat) (F' : Nat → PE), xp1 E L' F' → ∃ h : Nat, hOk Φ tbl y.cls pc E h ∧ ∀ q : Nat, Zq Φ tbl l y cc nL ret R L0 post xp (k + R1.cells) (n + R1.slots) h lv [.ref q] L' F')
    (kk : ∀ (v : Option Value) (L' : List Nat) (F' : Nat → PE), post1 v L' F' → Zq Φ tbl l y cc nL ret R L0 post xp (k + R1.cells) (n + R1.slots) (pc + 3) lv (v.toList ++ rest) L' F') :
    W p l e R s m args below meth c H locs k n (vx_MQ below (pQ D κ (pA L0 s.heap.size) post) (pX D κ (pA L0 s.heap.size) xp) args s R.cells R.slots (pA L0 s.heap.size)) (F0 m pc ls st0) := by
  have hAA : ∀ q, pA L H.size q → pA L0 s.heap.size q := fun q h => h.elim (fun h => pw_in hD q h) (fun h => Or.inr (Nat.le_trans hS.1 h))
  intro T hT X
  rcases hr T hT X with ⟨v, st₀, t, T', Ls, h0, X', hL, e1, e2, ⟨v2, L', F', hv, hp, hP1, hD1, hF⟩, st⟩ | ⟨q, st₀, t, T', Ls, E, ce, h0, X', hL, e1, e2, ⟨L', F', hp, hP1, hD1, hF⟩, hce, hcv, hcl, st⟩
  · cases hv
    obtain ⟨k1, k2, k3⟩ := vx_keep h0 e1 hS (fun q _ h => hAA q h) hAA hL hF
    obtain ⟨t2, a1, b1⟩ := kk v L' F' hp p e s m args below meth c D κ hx T'.heap (locs ++ Ls) ls (by rw [e1]; exact hP1) ⟨hD1.1, fun k q hk => hAA _ (hD1.2 k q hk)⟩ k3 hl T' rfl X'
    exact ⟨t2, st t2 a1, b1⟩
  · obtain ⟨k1, k2, k3⟩ := vx_keep h0 e1 hS (fun q _ h => hAA q h) hAA hL hF
    obtain ⟨h, ⟨pre, x, suf, nm, g1, g2, g3, g4, g5, g6, rfl⟩, g8⟩ := kx E L' F' hp
    obtain ⟨t2, a1, b1⟩ := vx_catch (Q := vx_MQ below (pQ D κ (pA L0 s.heap.size) post) (pX D κ (pA L0 s.heap.size) xp) args s R.cells R.slots (pA L0 s.heap.size)) (own := y.cls) (name := nm) (E := E) (pc := pc) (rest := rest) (ls := ls) hx.1.2.2.2.1 pre x suf (hx.1.2.2.2.2.2.2.2.2.1.trans g1)
      (fun z hz => by
        rcases g2 z hz with w | ⟨w1, nm2, w2, w3⟩
        · exact Or.inl w
        · exact Or.inr ⟨w1, nm2, hx.1.2.2.2.2.1 _ w2, w3 s hx.2⟩) g3 g4 (hx.1.2.2.2.2.1 _ g5) ((hx.1.2.2.2.2.2.1.2.2.2.2.2.2.2 _ g6).use (isCD_on (xtL_cd _ g6))) (by rw [e1]; exact hce) hcv hcl
      (g8 q p e s m args below meth c D κ hx T'.heap (locs ++ Ls) ls (by rw [e1]; exact hP1) ⟨hD1.1, fun k q hk => hAA _ (hD1.2 k q hk)⟩ k3 hl) T' rfl X'
    exact ⟨t2, st.trans a1, b1⟩
theorem zq_cV (hZ : ZZ = Zq Φ tbl l y cc nL ret R L0 post xp) {y1 : MethodName} {cc1 : ByteArray} {nL1 idx b ci : Nat} {ret1 : Option FieldType} {R1 : Room} {As rest st0 : List Value} {fs : List Value} {T1 : u_T} {N1 : Nat} {post1 : Option Value → List Nat → (Nat → PE) → Prop} {xp1 : String → List Nat → (Nat → PE) → Prop}
    (hst : st0 = As.reverse ++ .ref b :: rest) (d : decode cc pc = .ok (.invokevirtual idx, 3)) (hl : Cond.methodLink y.cls idx y1 ∈ wsG) (hw : wyV y1 As.length) (hM : PM l y1 cc1 nL1 ret1 R1 L (.ref b :: As) F post1 xp1)
    (hb : b ∈ L) (hF : F b = eO ci fs) (hci : vwCl[ci]? = some (y1.cls, T1, N1)) (hR : R1.frames + 1 ≤ R.frames ∧ 8 + (nL1 + 11) + R1.locals ≤ R.locals) (hRc : k + R1.cells ≤ R.cells ∧ n + R1.slots ≤ R.slots) (hrest : (rest.map fun v => v.category).sum ≤ 8)
    (kx : ∀ (E : String) (L' : List Nat) (F' : Nat → PE), xp1 E L' F' → ∃ h : Nat, hOk Φ tbl y.cls pc E h ∧ ∀ q : Nat, ZZ (k + R1.cells) (n + R1.slots) h lv [.ref q] L' F')
    (kk : ∀ (v : Option Value) (L' : List Nat) (F' : Nat → PE), post1 v L' F' → ZZ (k + R1.cells) (n + R1.slots) (pc + 3) lv (v.toList ++ rest) L' F') : ZZ k n pc lv st0 L F := by
  subst hZ
  intro p e s m args below meth c D κ hx H locs ls hP hD hS hl
  subst hst
  obtain ⟨q0, hq0⟩ := pw_get (κ := κ) hb hF
  refine zq_back (R1 := R1) hx hS hD hl (vx_runV (As := As) (b := b) (C := y1.cls) ⟨hx.1.1, hx.1.2.1, hx.1.2.2.1, hx.1.2.2.2.1, hx.1.2.2.2.2.1⟩ (hM.2 D κ H.size) ⟨z_callB hx.1.2.2.2.2.1 hM.1 hw.1 ‹_› hR, hx.1.2.2.2.2.1 _ hw.2.1, hx.1.2.2.2.2.1 _ hw.2.2⟩
    ⟨z_blind, va_recv hx.1.2.2.2.2.2.1.1 hP hci hq0, fun U hU hW => ⟨rfl, z_pc hx.1.2.2.2.2.2.1 hS hP hD hU hW⟩⟩ rfl rfl hl.1 rfl (lv_room hrest) d hRc) kx kk
theorem zq_cS (hZ : ZZ = Zq Φ tbl l y cc nL ret R L0 post xp) {y1 : MethodName} {cc1 : ByteArray} {nL1 idx : Nat} {ret1 : Option FieldType} {R1 : Room} {As rest st0 : List Value} {post1 : Option Value → List Nat → (Nat → PE) → Prop} {xp1 : String → List Nat → (Nat → PE) → Prop}
    (hst : st0 = As.reverse ++ rest) (d : decode cc pc = .ok (.invokestatic idx, 3)) (hl : Cond.methodLink y.cls idx y1 ∈ wsG) (hw : wyS y1 As.length) (hM : PM l y1 cc1 nL1 ret1 R1 L As F post1 xp1)
    (hR : R1.frames + 1 ≤ R.frames ∧ 8 + (nL1 + 11) + R1.locals ≤ R.locals) (hRc : k + R1.cells ≤ R.cells ∧ n + R1.slots ≤ R.slots) (hrest : (rest.map fun v => v.category).sum ≤ 8)
    (kx : ∀ (E : String) (L' : List Nat) (F' : Nat → PE), xp1 E L' F' → ∃ h : Nat, hOk Φ tbl y.cls pc E h ∧ ∀ q : Nat, ZZ (k + R1.cells) (n + R1.slots) h lv [.ref q] L' F')
    (kk : ∀ (v : Option Value) (L' : List Nat) (F' : Nat → PE), post1 v L' F' → ZZ (k + R1.cells) (n + R1.slots) (pc + 3) lv (v.toList ++ rest) L' F') : ZZ k n pc lv st0 L F := by
  subst hZ
  intro p e s m args below meth c D κ hx H locs ls hP hD hS hl
  subst hst
  refine zq_back (R1 := R1) hx hS hD hl (vx_runS (As := As) ⟨hx.1.1, hx.1.2.1, hx.1.2.2.1, hx.1.2.2.2.1, hx.1.2.2.2.2.1⟩ (hM.2 D κ H.size) ⟨z_callB hx.1.2.2.2.2.1 hM.1 hw.1 ‹_› hR, hx.1.2.2.2.2.1 _ hw.2⟩
    ⟨z_blind, fun U hU hW => ⟨rfl, z_pc hx.1.2.2.2.2.2.1 hS hP hD hU hW⟩⟩ rfl rfl hl.1 rfl (lv_room hrest) d hRc) kx kk
theorem zq_cI (hZ : ZZ = Zq Φ tbl l y cc nL ret R L0 post xp) {y1 : MethodName} {cc1 : ByteArray} {nL1 idx b : Nat} {R1 : Room} {As rest st0 : List Value} {post1 : Option Value → List Nat → (Nat → PE) → Prop} {xp1 : String → List Nat → (Nat → PE) → Prop}
    (hst : st0 = As.reverse ++ .ref b :: rest) (d : decode cc pc = .ok (.invokespecial idx, 3)) (hl : Cond.methodLink y.cls idx y1 ∈ wsG) (hw : wyI y1 As.length) (hM : PM l y1 cc1 nL1 none R1 L (.ref b :: As) F post1 xp1)
    (hR : R1.frames + 1 ≤ R.frames ∧ 8 + (nL1 + 11) + R1.locals ≤ R.locals) (hRc : k + R1.cells ≤ R.cells ∧ n + R1.slots ≤ R.slots) (hrest : (rest.map fun v => v.category).sum ≤ 8)
    (kx : ∀ (E : String) (L' : List Nat) (F' : Nat → PE), xp1 E L' F' → ∃ h : Nat, hOk Φ tbl y.cls pc E h ∧ ∀ q : Nat, ZZ (k + R1.cells) (n + R1.slots) h lv [.ref q] L' F')
    (kk : ∀ (v : Option Value) (L' : List Nat) (F' : Nat → PE), post1 v L' F' → ZZ (k + R1.cells) (n + R1.slots) (pc + 3) lv (v.toList ++ rest) L' F') : ZZ k n pc lv st0 L F := by
  subst hZ
  intro p e s m args below meth c D κ hx H locs ls hP hD hS hl
  subst hst
  refine zq_back (R1 := R1) hx hS hD hl (vx_runI (As := As) (b := b) ⟨hx.1.1, hx.1.2.1, hx.1.2.2.1, hx.1.2.2.2.1, hx.1.2.2.2.2.1⟩ (hM.2 D κ H.size) ⟨z_callB hx.1.2.2.2.2.1 hM.1 hw.1 ‹_› hR, hw.2.1, hx.1.2.2.2.2.1 _ hw.2.2⟩
    ⟨z_blind, fun U hU hW => ⟨rfl, z_pc hx.1.2.2.2.2.2.1 hS hP hD hU hW⟩⟩ rfl rfl hl.1 rfl (lv_room hrest) d hRc) kx kk
theorem zq_pc {s U : State} {D : va_G} {κ : Nat → ClassId} {H : Heap} {locs : List Loc} (hK : pK D κ (pA L0 s.heap.size) s s.heap) (hN : va_Nc xS xA s) (hS : va_S (pA L0 s.heap.size) s.heap H locs) (hP : va_P D vwCl (pw κ L F) H) (hD : va_D (pA L0 s.heap.size) (pw κ L F)) (hU : U.heap = H) (hW : s.WarmedH U.vm) :
    U.heap.size = H.size ∧ va_P D vwCl (pw κ L F) U.heap ∧ va_D (fun _ => True) (pw κ L F) ∧ pK D κ (pA L H.size) U U.heap ∧ va_Nc xS xA U := by
  have z := z_pc hK hS hP hD hU hW
  exact ⟨z.1, z.2.1, z.2.2.1, z.2.2.2, va_Nc.moved hW.alike hN⟩
theorem zq_blind {D : va_G} {κ : Nat → ClassId} {av : List Value} {sz : Nat} : FrameBlind (va_Pc av (fun U => U.heap.size = sz ∧ va_P D vwCl (pw κ L F) U.heap ∧ va_D (fun _ => True) (pw κ L F) ∧ pK D κ (pA L sz) U U.heap ∧ va_Nc xS xA U)) := fun a U g mk q => ⟨q.1, q.2.1, q.2.2.1, q.2.2.2.1, q.2.2.2.2.1.calling, va_Nc.moved (u := U) (U := U.calling g mk a) (Vm.Alike.refl U.vm) q.2.2.2.2.2⟩
theorem zq_cSh (hZ : ZZ = Zq Φ tbl l y cc nL ret R L0 post xp) (hΦ : ∀ s, Φ s → va_Nc xS xA s) {y1 : MethodName} {cc1 : ByteArray} {nL1 idx : Nat} {ret1 : Option FieldType} {hh : List (Nat × Nat × Nat × Nat)} {R1 : Room} {As rest st0 : List Value} {post1 : Option Value → List Nat → (Nat → PE) → Prop}
    (hst : st0 = As.reverse ++ rest) (d : decode cc pc = .ok (.invokestatic idx, 3)) (hl : Cond.methodLink y.cls idx y1 ∈ wsG) (hw : wyS y1 As.length) (hM : PMh l y1 cc1 nL1 ret1 hh R1 L As F post1)
    (hR : R1.frames + 1 ≤ R.frames ∧ 8 + (nL1 + 11) + R1.locals ≤ R.locals) (hRc : k + R1.cells ≤ R.cells ∧ n + R1.slots ≤ R.slots) (hrest : (rest.map fun v => v.category).sum ≤ 8)
    (kk : ∀ (v : Option Value) (L' : List Nat) (F' : Nat → PE), post1 v L' F' → ZZ (k + R1.cells) (n + R1.slots) (pc + 3) lv (v.toList ++ rest) L' F') : ZZ k n pc lv st0 L F := by
  subst hZ
  intro p e s m args below meth c D κ hx H locs ls hP hD hS hl9
  subst hst
  have hts := hx.1.2.2.2.2.1
  refine zq_back (R1 := R1) hx hS hD hl9 (vx_runSX (hh := hh) (As := As) ⟨hx.1.1, hx.1.2.1, hx.1.2.2.1, hx.1.2.2.2.1, hx.1.2.2.2.2.1⟩ (hM.2 D κ H.size) ⟨⟨rfl, rfl, hR.1, hR.2, pay_in hts (wsG_GI hM.1), List.mem_cons_self⟩, hts _ hM.1, hts _ hw.1.1, hw.1.2.1, fun sig h => by
      have h2 := hw.1.2.2
      rw [h] at h2
      exact (Option.some.inj h2).symm, hts _ hl, hts _ hw.2⟩
    ⟨zq_blind, fun U hU hW => ⟨rfl, zq_pc hx.1.2.2.2.2.2.1 (hΦ s hx.2) hS hP hD hU hW⟩⟩ rfl rfl hl9.1 rfl (lv_room hrest) d hRc) (fun _ _ _ h => h.elim) kk
theorem zq_iconst (hZ : ZZ = Zq Φ tbl l y cc nL ret R L0 post xp) {w : Int} (d : decode cc pc = .ok (.iconst w, 1)) (kk : ZZ k n (pc + 1) lv (.int (iI w) :: st) L F) : ZZ k n pc lv (st) L F := by
  subst hZ
  intro p e s m args below meth c D κ hx H locs ls hP hD hS hl
  refine lv_iconst hx.1.1 hx.1.2.1 d (v := iI w) rfl ?_
  exact kk p e s m args below meth c D κ hx H locs ls hP hD hS hl
theorem zq_bipush (hZ : ZZ = Zq Φ tbl l y cc nL ret R L0 post xp) {c : Int} (d : decode cc pc = .ok (.bipush c, 2)) (hv : (Int8.ofInt c).toInt32 = iI c) (kk : ZZ k n (pc + 2) lv (.int (iI c) :: st) L F) : ZZ k n pc lv (st) L F := by
  subst hZ
  intro p e s m args below meth c D κ hx H locs ls hP hD hS hl
  refine lv_bipush hx.1.1 hx.1.2.1 d hv ?_
  exact kk p e s m args below meth c D κ hx H locs ls hP hD hS hl
theorem zq_sipush (hZ : ZZ = Zq Φ tbl l y cc nL ret R L0 post xp) {c : Int} (d : decode cc pc = .ok (.sipush c, 3)) (hv : (Int16.ofInt c).toInt32 = iI c) (kk : ZZ k n (pc + 3) lv (.int (iI c) :: st) L F) : ZZ k n pc lv (st) L F := by
  subst hZ
  intro p e s m args below meth c D κ hx H locs ls hP hD hS hl
  refine lv_sipush hx.1.1 hx.1.2.1 d hv ?_
  exact kk p e s m args below meth c D κ hx H locs ls hP hD hS hl
theorem zq_pop (hZ : ZZ = Zq Φ tbl l y cc nL ret R L0 post xp) {v : Value} (d : decode cc pc = .ok (.pop, 1)) (hv : v.category = 1) (kk : ZZ k n (pc + 1) lv (st) L F) : ZZ k n pc lv (v :: st) L F := by
  subst hZ
  intro p e s m args below meth c D κ hx H locs ls hP hD hS hl
  refine lv_pop hx.1.1 hx.1.2.1 d hv ?_
  exact kk p e s m args below meth c D κ hx H locs ls hP hD hS hl
theorem zq_dup (hZ : ZZ = Zq Φ tbl l y cc nL ret R L0 post xp) {v : Value} (d : decode cc pc = .ok (.dup, 1)) (hv : v.category = 1) (kk : ZZ k n (pc + 1) lv (v :: v :: st) L F) : ZZ k n pc lv (v :: st) L F := by
  subst hZ
  intro p e s m args below meth c D κ hx H locs ls hP hD hS hl
  refine lv_dup hx.1.1 hx.1.2.1 d hv ?_
  exact kk p e s m args below meth c D κ hx H locs ls hP hD hS hl
theorem zq_imul (hZ : ZZ = Zq Φ tbl l y cc nL ret R L0 post xp) {a b : Int} (d : decode cc pc = .ok (.imul, 1)) (kk : ZZ k n (pc + 1) lv (.int (iI (a * b)) :: st) L F) : ZZ k n pc lv (.int (iI b) :: .int (iI a) :: st) L F := by
  subst hZ
  intro p e s m args below meth c D κ hx H locs ls hP hD hS hl
  refine lv_imul hx.1.1 hx.1.2.1 d ?_
  rw [iI_mul]
  exact kk p e s m args below meth c D κ hx H locs ls hP hD hS hl
theorem zq_irem (hZ : ZZ = Zq Φ tbl l y cc nL ret R L0 post xp) {a b : Int} (d : decode cc pc = .ok (.irem, 1)) (h : 0 ≤ a ∧ a ≤ 2147483647 ∧ 0 < b ∧ b ≤ 2147483647) (kk : ZZ k n (pc + 1) lv (.int (iI (a % b)) :: st) L F) : ZZ k n pc lv (.int (iI b) :: .int (iI a) :: st) L F := by
  subst hZ
  intro p e s m args below meth c D κ hx H locs ls hP hD hS hl
  refine lv_irem hx.1.1 hx.1.2.1 d (fun q => by have := (iI_eq (b := 0) ⟨by omega, by omega⟩ ⟨by omega, by omega⟩).mp q; omega) ?_
  rw [iI_rem h.1 ⟨by omega, by omega⟩ h.2.2.1 ⟨by omega, by omega⟩]
  exact kk p e s m args below meth c D κ hx H locs ls hP hD hS hl
theorem zq_iinc2 (hZ : ZZ = Zq Φ tbl l y cc nL ret R L0 post xp) {x0 x1 : Option Value} {t : List (Option Value)} {a q : Int} (d : decode cc pc = .ok (.iinc 2 q, 3)) (hn : 2 < nL) (hc : c1 x1 = true) (kk : ZZ k n (pc + 3) (x0 :: x1 :: some (.int (iI (a + q))) :: t) st L F) : ZZ k n pc (x0 :: x1 :: some (.int (iI a)) :: t) st L F := by
  subst hZ
  intro p e s m args below meth c D κ hx H locs ls hP hD hS hl
  obtain ⟨k9, hk9⟩ := List.getElem?_of_mem (lpr_mem.mpr (show (x0 :: x1 :: some (Value.int (iI a)) :: t)[2]? = some (some (Value.int (iI a))) from rfl))
  exact lv_iinc hx.1.1 hx.1.2.1 d (lh_has hl) hk9 (iI_add a q) hn rfl (fun ls' h' => kk p e s m args below meth c D κ hx H locs ls' hP hD hS (lh_st1 (lv := x0 :: x1 :: some (.int (iI a)) :: t) h' (fun j w hj hw => by obtain rfl : j = 1 := (by omega); have hw := Option.some.inj hw; rw [hw] at hc; have := eq_of_beq (show (w.category == 1) = true from hc); omega)))
theorem zq_iinc3 (hZ : ZZ = Zq Φ tbl l y cc nL ret R L0 post xp) {x0 x1 x2 : Option Value} {t : List (Option Value)} {a q : Int} (d : decode cc pc = .ok (.iinc 3 q, 3)) (hn : 3 < nL) (hc : c1 x2 = true) (kk : ZZ k n (pc + 3) (x0 :: x1 :: x2 :: some (.int (iI (a + q))) :: t) st L F) : ZZ k n pc (x0 :: x1 :: x2 :: some (.int (iI a)) :: t) st L F := by
  subst hZ
  intro p e s m args below meth c D κ hx H locs ls hP hD hS hl
  obtain ⟨k9, hk9⟩ := List.getElem?_of_mem (lpr_mem.mpr (show (x0 :: x1 :: x2 :: some (Value.int (iI a)) :: t)[3]? = some (some (Value.int (iI a))) from rfl))
  exact lv_iinc hx.1.1 hx.1.2.1 d (lh_has hl) hk9 (iI_add a q) hn rfl (fun ls' h' => kk p e s m args below meth c D κ hx H locs ls' hP hD hS (lh_st1 (lv := x0 :: x1 :: x2 :: some (.int (iI a)) :: t) h' (fun j w hj hw => by obtain rfl : j = 2 := (by omega); have hw := Option.some.inj hw; rw [hw] at hc; have := eq_of_beq (show (w.category == 1) = true from hc); omega)))
theorem zq_iadd (hZ : ZZ = Zq Φ tbl l y cc nL ret R L0 post xp) {a b : Int} (d : decode cc pc = .ok (.iadd, 1)) (kk : ZZ k n (pc + 1) lv (.int (iI (a + b)) :: st) L F) : ZZ k n pc lv (.int (iI b) :: .int (iI a) :: st) L F := by
  subst hZ
  intro p e s m args below meth c D κ hx H locs ls hP hD hS hl
  refine lv_iadd hx.1.1 hx.1.2.1 d ?_
  rw [iI_add]
  exact kk p e s m args below meth c D κ hx H locs ls hP hD hS hl
theorem zq_isub (hZ : ZZ = Zq Φ tbl l y cc nL ret R L0 post xp) {a b : Int} (d : decode cc pc = .ok (.isub, 1)) (kk : ZZ k n (pc + 1) lv (.int (iI (a - b)) :: st) L F) : ZZ k n pc lv (.int (iI b) :: .int (iI a) :: st) L F := by
  subst hZ
  intro p e s m args below meth c D κ hx H locs ls hP hD hS hl
  refine lv_isub hx.1.1 hx.1.2.1 d ?_
  rw [iI_sub]
  exact kk p e s m args below meth c D κ hx H locs ls hP hD hS hl
theorem zq_iand (hZ : ZZ = Zq Φ tbl l y cc nL ret R L0 post xp) {a b : Int32} {r : Int32} (d : decode cc pc = .ok (.iand, 1)) (hr : a &&& b = r) (kk : ZZ k n (pc + 1) lv (.int r :: st) L F) : ZZ k n pc lv (.int b :: .int a :: st) L F := by
  subst hZ
  intro p e s m args below meth c D κ hx H locs ls hP hD hS hl
  refine lv_iand hx.1.1 hx.1.2.1 d ?_
  rw [hr]
  exact kk p e s m args below meth c D κ hx H locs ls hP hD hS hl
theorem zq_goto (hZ : ZZ = Zq Φ tbl l y cc nL ret R L0 post xp) {off : Int} {tgt : Nat} (d : decode cc pc = .ok (.goto off, 3)) (ht : (pc : Int) + off = (tgt : Int)) (kk : ZZ k n tgt lv st L F) : ZZ k n pc lv st L F := by
  subst hZ
  intro p e s m args below meth c D κ hx H locs ls hP hD hS hl
  exact lv_goto hx.1.1 hx.1.2.1 d ht (kk p e s m args below meth c D κ hx H locs ls hP hD hS hl)
theorem zq_tIn (hZ : ZZ = Zq Φ tbl l y cc nL ret R L0 post xp) {dflt lo hi off a : Int} {offs : Array Int} {len tgt : Nat} (d : decode cc pc = .ok (.tableswitch dflt lo hi offs, len)) (hr : -2147483648 ≤ a ∧ a ≤ 2147483647 ∧ lo ≤ a ∧ a ≤ hi) (ho : offs[(a - lo).toNat]? = some off) (ht : (pc : Int) + off = (tgt : Int)) (kk : ZZ k n tgt lv st L F) : ZZ k n pc lv (.int (iI a) :: st) L F := by
  subst hZ
  intro p e s m args below meth c D κ hx H locs ls hP hD hS hl
  exact lv_tableIn hx.1.1 hx.1.2.1 d (by rw [iI_toInt ⟨hr.1, hr.2.1⟩]; omega) (by rw [iI_toInt ⟨hr.1, hr.2.1⟩]; omega) (by rw [iI_toInt ⟨hr.1, hr.2.1⟩]; exact ho) ht (kk p e s m args below meth c D κ hx H locs ls hP hD hS hl)
theorem zq_tOut (hZ : ZZ = Zq Φ tbl l y cc nL ret R L0 post xp) {dflt lo hi a : Int} {offs : Array Int} {len tgt : Nat} (d : decode cc pc = .ok (.tableswitch dflt lo hi offs, len)) (hr : -2147483648 ≤ a ∧ a ≤ 2147483647) (h : a < lo ∨ hi < a) (ht : (pc : Int) + dflt = (tgt : Int)) (kk : ZZ k n tgt lv st L F) : ZZ k n pc lv (.int (iI a) :: st) L F := by
  subst hZ
  intro p e s m args below meth c D κ hx H locs ls hP hD hS hl
  exact lv_tableOut hx.1.1 hx.1.2.1 d (by rw [iI_toInt hr]; exact h) ht (kk p e s m args below meth c D κ hx H locs ls hP hD hS hl)
theorem zq_if_eq (hZ : ZZ = Zq Φ tbl l y cc nL ret R L0 post xp) {a : Int} {off : Int} {tgt : Nat} (d : decode cc pc = .ok (.ifCond .eq off, 3)) (ht : (pc : Int) + off = (tgt : Int)) (hr : -2147483648 ≤ a ∧ a ≤ 2147483647) (kt : a = 0 → ZZ k n tgt lv st L F) (kf : ¬ a = 0 → ZZ k n (pc + 3) lv st L F) : ZZ k n pc lv (.int (iI a) :: st) L F := by
  subst hZ
  intro p e s m args below meth c D κ hx H locs ls hP hD hS hl
  exact lv_if_eq hx.1.1 hx.1.2.1 d ht (fun h => kt ((iI_eq (b := 0) ⟨hr.1, hr.2⟩ ⟨by omega, by omega⟩).mp h) p e s m args below meth c D κ hx H locs ls hP hD hS hl) (fun h => kf (fun q => h ((iI_eq (b := 0) ⟨hr.1, hr.2⟩ ⟨by omega, by omega⟩).mpr q)) p e s m args below meth c D κ hx H locs ls hP hD hS hl)
theorem zq_if_ne (hZ : ZZ = Zq Φ tbl l y cc nL ret R L0 post xp) {a : Int} {off : Int} {tgt : Nat} (d : decode cc pc = .ok (.ifCond .ne off, 3)) (ht : (pc : Int) + off = (tgt : Int)) (hr : -2147483648 ≤ a ∧ a ≤ 2147483647) (kt : ¬ a = 0 → ZZ k n tgt lv st L F) (kf : a = 0 → ZZ k n (pc + 3) lv st L F) : ZZ k n pc lv (.int (iI a) :: st) L F := by
  subst hZ
  intro p e s m args below meth c D κ hx H locs ls hP hD hS hl
  exact lv_if_ne hx.1.1 hx.1.2.1 d ht (fun h => kt (fun q => h ((iI_eq (b := 0) ⟨hr.1, hr.2⟩ ⟨by omega, by omega⟩).mpr q)) p e s m args below meth c D κ hx H locs ls hP hD hS hl) (fun h => kf ((iI_eq (b := 0) ⟨hr.1, hr.2⟩ ⟨by omega, by omega⟩).mp h) p e s m args below meth c D κ hx H locs ls hP hD hS hl)
theorem zq_if_lt (hZ : ZZ = Zq Φ tbl l y cc nL ret R L0 post xp) {a : Int} {off : Int} {tgt : Nat} (d : decode cc pc = .ok (.ifCond .lt off, 3)) (ht : (pc : Int) + off = (tgt : Int)) (hr : -2147483648 ≤ a ∧ a ≤ 2147483647) (kt : a < 0 → ZZ k n tgt lv st L F) (kf : 0 ≤ a → ZZ k n (pc + 3) lv st L F) : ZZ k n pc lv (.int (iI a) :: st) L F := by
  subst hZ
  intro p e s m args below meth c D κ hx H locs ls hP hD hS hl
  exact lv_if_lt hx.1.1 hx.1.2.1 d ht (fun h => kt ((iI_lt (b := 0) ⟨hr.1, hr.2⟩ ⟨by omega, by omega⟩).mp h) p e s m args below meth c D κ hx H locs ls hP hD hS hl) (fun h => kf (by have := mt (iI_lt (b := 0) ⟨hr.1, hr.2⟩ ⟨by omega, by omega⟩).mpr h; omega) p e s m args below meth c D κ hx H locs ls hP hD hS hl)
theorem zq_if_ge (hZ : ZZ = Zq Φ tbl l y cc nL ret R L0 post xp) {a : Int} {off : Int} {tgt : Nat} (d : decode cc pc = .ok (.ifCond .ge off, 3)) (ht : (pc : Int) + off = (tgt : Int)) (hr : -2147483648 ≤ a ∧ a ≤ 2147483647) (kt : 0 ≤ a → ZZ k n tgt lv st L F) (kf : a < 0 → ZZ k n (pc + 3) lv st L F) : ZZ k n pc lv (.int (iI a) :: st) L F := by
  subst hZ
  intro p e s m args below meth c D κ hx H locs ls hP hD hS hl
  exact lv_if_ge hx.1.1 hx.1.2.1 d ht (fun h => kt ((iI_le (a := 0) ⟨by omega, by omega⟩ ⟨hr.1, hr.2⟩).mp h) p e s m args below meth c D κ hx H locs ls hP hD hS hl) (fun h => kf (by have := mt (iI_le (a := 0) ⟨by omega, by omega⟩ ⟨hr.1, hr.2⟩).mpr h; omega) p e s m args below meth c D κ hx H locs ls hP hD hS hl)
theorem zq_if_gt (hZ : ZZ = Zq Φ tbl l y cc nL ret R L0 post xp) {a : Int} {off : Int} {tgt : Nat} (d : decode cc pc = .ok (.ifCond .gt off, 3)) (ht : (pc : Int) + off = (tgt : Int)) (hr : -2147483648 ≤ a ∧ a ≤ 2147483647) (kt : 0 < a → ZZ k n tgt lv st L F) (kf : a ≤ 0 → ZZ k n (pc + 3) lv st L F) : ZZ k n pc lv (.int (iI a) :: st) L F := by
  subst hZ
  intro p e s m args below meth c D κ hx H locs ls hP hD hS hl
  exact lv_if_gt hx.1.1 hx.1.2.1 d ht (fun h => kt ((iI_lt (a := 0) ⟨by omega, by omega⟩ ⟨hr.1, hr.2⟩).mp h) p e s m args below meth c D κ hx H locs ls hP hD hS hl) (fun h => kf (by have := mt (iI_lt (a := 0) ⟨by omega, by omega⟩ ⟨hr.1, hr.2⟩).mpr h; omega) p e s m args below meth c D κ hx H locs ls hP hD hS hl)
theorem zq_if_le (hZ : ZZ = Zq Φ tbl l y cc nL ret R L0 post xp) {a : Int} {off : Int} {tgt : Nat} (d : decode cc pc = .ok (.ifCond .le off, 3)) (ht : (pc : Int) + off = (tgt : Int)) (hr : -2147483648 ≤ a ∧ a ≤ 2147483647) (kt : a ≤ 0 → ZZ k n tgt lv st L F) (kf : 0 < a → ZZ k n (pc + 3) lv st L F) : ZZ k n pc lv (.int (iI a) :: st) L F := by
  subst hZ
  intro p e s m args below meth c D κ hx H locs ls hP hD hS hl
  exact lv_if_le hx.1.1 hx.1.2.1 d ht (fun h => kt ((iI_le (b := 0) ⟨hr.1, hr.2⟩ ⟨by omega, by omega⟩).mp h) p e s m args below meth c D κ hx H locs ls hP hD hS hl) (fun h => kf (by have := mt (iI_le (b := 0) ⟨hr.1, hr.2⟩ ⟨by omega, by omega⟩).mpr h; omega) p e s m args below meth c D κ hx H locs ls hP hD hS hl)
theorem zq_icmp_eq (hZ : ZZ = Zq Φ tbl l y cc nL ret R L0 post xp) {a b : Int} {off : Int} {tgt : Nat} (d : decode cc pc = .ok (.if_icmp .eq off, 3)) (ht : (pc : Int) + off = (tgt : Int)) (hr : -2147483648 ≤ a ∧ a ≤ 2147483647 ∧ -2147483648 ≤ b ∧ b ≤ 2147483647) (kt : a = b → ZZ k n tgt lv st L F) (kf : ¬ a = b → ZZ k n (pc + 3) lv st L F) : ZZ k n pc lv (.int (iI b) :: .int (iI a) :: st) L F := by
  subst hZ
  intro p e s m args below meth c D κ hx H locs ls hP hD hS hl
  exact lv_icmp_eq hx.1.1 hx.1.2.1 d ht (fun h => kt ((iI_eq ⟨hr.1, hr.2.1⟩ hr.2.2).mp h) p e s m args below meth c D κ hx H locs ls hP hD hS hl) (fun h => kf (fun q => h ((iI_eq ⟨hr.1, hr.2.1⟩ hr.2.2).mpr q)) p e s m args below meth c D κ hx H locs ls hP hD hS hl)
theorem zq_icmp_ne (hZ : ZZ = Zq Φ tbl l y cc nL ret R L0 post xp) {a b : Int} {off : Int} {tgt : Nat} (d : decode cc pc = .ok (.if_icmp .ne off, 3)) (ht : (pc : Int) + off = (tgt : Int)) (hr : -2147483648 ≤ a ∧ a ≤ 2147483647 ∧ -2147483648 ≤ b ∧ b ≤ 2147483647) (kt : ¬ a = b → ZZ k n tgt lv st L F) (kf : a = b → ZZ k n (pc + 3) lv st L F) : ZZ k n pc lv (.int (iI b) :: .int (iI a) :: st) L F := by
  subst hZ
  intro p e s m args below meth c D κ hx H locs ls hP hD hS hl
  exact lv_icmp_ne hx.1.1 hx.1.2.1 d ht (fun h => kt (fun q => h ((iI_eq ⟨hr.1, hr.2.1⟩ hr.2.2).mpr q)) p e s m args below meth c D κ hx H locs ls hP hD hS hl) (fun h => kf ((iI_eq ⟨hr.1, hr.2.1⟩ hr.2.2).mp h) p e s m args below meth c D κ hx H locs ls hP hD hS hl)
theorem zq_icmp_lt (hZ : ZZ = Zq Φ tbl l y cc nL ret R L0 post xp) {a b : Int} {off : Int} {tgt : Nat} (d : decode cc pc = .ok (.if_icmp .lt off, 3)) (ht : (pc : Int) + off = (tgt : Int)) (hr : -2147483648 ≤ a ∧ a ≤ 2147483647 ∧ -2147483648 ≤ b ∧ b ≤ 2147483647) (kt : a < b → ZZ k n tgt lv st L F) (kf : b ≤ a → ZZ k n (pc + 3) lv st L F) : ZZ k n pc lv (.int (iI b) :: .int (iI a) :: st) L F := by
  subst hZ
  intro p e s m args below meth c D κ hx H locs ls hP hD hS hl
  exact lv_icmp_lt hx.1.1 hx.1.2.1 d ht (fun h => kt ((iI_lt ⟨hr.1, hr.2.1⟩ hr.2.2).mp h) p e s m args below meth c D κ hx H locs ls hP hD hS hl) (fun h => kf (by have := mt (iI_lt ⟨hr.1, hr.2.1⟩ hr.2.2).mpr h; omega) p e s m args below meth c D κ hx H locs ls hP hD hS hl)
theorem zq_icmp_ge (hZ : ZZ = Zq Φ tbl l y cc nL ret R L0 post xp) {a b : Int} {off : Int} {tgt : Nat} (d : decode cc pc = .ok (.if_icmp .ge off, 3)) (ht : (pc : Int) + off = (tgt : Int)) (hr : -2147483648 ≤ a ∧ a ≤ 2147483647 ∧ -2147483648 ≤ b ∧ b ≤ 2147483647) (kt : b ≤ a → ZZ k n tgt lv st L F) (kf : a < b → ZZ k n (pc + 3) lv st L F) : ZZ k n pc lv (.int (iI b) :: .int (iI a) :: st) L F := by
  subst hZ
  intro p e s m args below meth c D κ hx H locs ls hP hD hS hl
  exact lv_icmp_ge hx.1.1 hx.1.2.1 d ht (fun h => kt ((iI_le hr.2.2 ⟨hr.1, hr.2.1⟩).mp h) p e s m args below meth c D κ hx H locs ls hP hD hS hl) (fun h => kf (by have := mt (iI_le hr.2.2 ⟨hr.1, hr.2.1⟩).mpr h; omega) p e s m args below meth c D κ hx H locs ls hP hD hS hl)
theorem zq_icmp_gt (hZ : ZZ = Zq Φ tbl l y cc nL ret R L0 post xp) {a b : Int} {off : Int} {tgt : Nat} (d : decode cc pc = .ok (.if_icmp .gt off, 3)) (ht : (pc : Int) + off = (tgt : Int)) (hr : -2147483648 ≤ a ∧ a ≤ 2147483647 ∧ -2147483648 ≤ b ∧ b ≤ 2147483647) (kt : b < a → ZZ k n tgt lv st L F) (kf : a ≤ b → ZZ k n (pc + 3) lv st L F) : ZZ k n pc lv (.int (iI b) :: .int (iI a) :: st) L F := by
  subst hZ
  intro p e s m args below meth c D κ hx H locs ls hP hD hS hl
  exact lv_icmp_gt hx.1.1 hx.1.2.1 d ht (fun h => kt ((iI_lt hr.2.2 ⟨hr.1, hr.2.1⟩).mp h) p e s m args below meth c D κ hx H locs ls hP hD hS hl) (fun h => kf (by have := mt (iI_lt hr.2.2 ⟨hr.1, hr.2.1⟩).mpr h; omega) p e s m args below meth c D κ hx H locs ls hP hD hS hl)
theorem zq_icmp_le (hZ : ZZ = Zq Φ tbl l y cc nL ret R L0 post xp) {a b : Int} {off : Int} {tgt : Nat} (d : decode cc pc = .ok (.if_icmp .le off, 3)) (ht : (pc : Int) + off = (tgt : Int)) (hr : -2147483648 ≤ a ∧ a ≤ 2147483647 ∧ -2147483648 ≤ b ∧ b ≤ 2147483647) (kt : a ≤ b → ZZ k n tgt lv st L F) (kf : b < a → ZZ k n (pc + 3) lv st L F) : ZZ k n pc lv (.int (iI b) :: .int (iI a) :: st) L F := by
  subst hZ
  intro p e s m args below meth c D κ hx H locs ls hP hD hS hl
  exact lv_icmp_le hx.1.1 hx.1.2.1 d ht (fun h => kt ((iI_le ⟨hr.1, hr.2.1⟩ hr.2.2).mp h) p e s m args below meth c D κ hx H locs ls hP hD hS hl) (fun h => kf (by have := mt (iI_le ⟨hr.1, hr.2.1⟩ hr.2.2).mpr h; omega) p e s m args below meth c D κ hx H locs ls hP hD hS hl)
theorem zq_if_eq_raw (hZ : ZZ = Zq Φ tbl l y cc nL ret R L0 post xp) {a : Int32} {off : Int} {tgt : Nat} (d : decode cc pc = .ok (.ifCond .eq off, 3)) (ht : (pc : Int) + off = (tgt : Int)) (kt : a = 0 → ZZ k n tgt lv st L F) (kf : ¬ a = 0 → ZZ k n (pc + 3) lv st L F) : ZZ k n pc lv (.int a :: st) L F := by
  subst hZ
  intro p e s m args below meth c D κ hx H locs ls hP hD hS hl
  exact lv_if_eq hx.1.1 hx.1.2.1 d ht (fun h => kt (h) p e s m args below meth c D κ hx H locs ls hP hD hS hl) (fun h => kf (h) p e s m args below meth c D κ hx H locs ls hP hD hS hl)
theorem zq_if_ne_raw (hZ : ZZ = Zq Φ tbl l y cc nL ret R L0 post xp) {a : Int32} {off : Int} {tgt : Nat} (d : decode cc pc = .ok (.ifCond .ne off, 3)) (ht : (pc : Int) + off = (tgt : Int)) (kt : ¬ a = 0 → ZZ k n tgt lv st L F) (kf : a = 0 → ZZ k n (pc + 3) lv st L F) : ZZ k n pc lv (.int a :: st) L F := by
  subst hZ
  intro p e s m args below meth c D κ hx H locs ls hP hD hS hl
  exact lv_if_ne hx.1.1 hx.1.2.1 d ht (fun h => kt (h) p e s m args below meth c D κ hx H locs ls hP hD hS hl) (fun h => kf (h) p e s m args below meth c D κ hx H locs ls hP hD hS hl)
theorem zq_if_lt_raw (hZ : ZZ = Zq Φ tbl l y cc nL ret R L0 post xp) {a : Int32} {off : Int} {tgt : Nat} (d : decode cc pc = .ok (.ifCond .lt off, 3)) (ht : (pc : Int) + off = (tgt : Int)) (kt : a < 0 → ZZ k n tgt lv st L F) (kf : ¬ a < 0 → ZZ k n (pc + 3) lv st L F) : ZZ k n pc lv (.int a :: st) L F := by
  subst hZ
  intro p e s m args below meth c D κ hx H locs ls hP hD hS hl
  exact lv_if_lt hx.1.1 hx.1.2.1 d ht (fun h => kt (h) p e s m args below meth c D κ hx H locs ls hP hD hS hl) (fun h => kf (h) p e s m args below meth c D κ hx H locs ls hP hD hS hl)
theorem zq_if_ge_raw (hZ : ZZ = Zq Φ tbl l y cc nL ret R L0 post xp) {a : Int32} {off : Int} {tgt : Nat} (d : decode cc pc = .ok (.ifCond .ge off, 3)) (ht : (pc : Int) + off = (tgt : Int)) (kt : 0 ≤ a → ZZ k n tgt lv st L F) (kf : ¬ 0 ≤ a → ZZ k n (pc + 3) lv st L F) : ZZ k n pc lv (.int a :: st) L F := by
  subst hZ
  intro p e s m args below meth c D κ hx H locs ls hP hD hS hl
  exact lv_if_ge hx.1.1 hx.1.2.1 d ht (fun h => kt (h) p e s m args below meth c D κ hx H locs ls hP hD hS hl) (fun h => kf (h) p e s m args below meth c D κ hx H locs ls hP hD hS hl)
theorem zq_icmp_ne_raw (hZ : ZZ = Zq Φ tbl l y cc nL ret R L0 post xp) {a b : Int32} {off : Int} {tgt : Nat} (d : decode cc pc = .ok (.if_icmp .ne off, 3)) (ht : (pc : Int) + off = (tgt : Int)) (kt : ¬ a = b → ZZ k n tgt lv st L F) (kf : a = b → ZZ k n (pc + 3) lv st L F) : ZZ k n pc lv (.int b :: .int a :: st) L F := by
  subst hZ
  intro p e s m args below meth c D κ hx H locs ls hP hD hS hl
  exact lv_icmp_ne hx.1.1 hx.1.2.1 d ht (fun h => kt (h) p e s m args below meth c D κ hx H locs ls hP hD hS hl) (fun h => kf (h) p e s m args below meth c D κ hx H locs ls hP hD hS hl)
theorem zq_icmp_eq_raw (hZ : ZZ = Zq Φ tbl l y cc nL ret R L0 post xp) {a b : Int32} {off : Int} {tgt : Nat} (d : decode cc pc = .ok (.if_icmp .eq off, 3)) (ht : (pc : Int) + off = (tgt : Int)) (kt : a = b → ZZ k n tgt lv st L F) (kf : ¬ a = b → ZZ k n (pc + 3) lv st L F) : ZZ k n pc lv (.int b :: .int a :: st) L F := by
  subst hZ
  intro p e s m args below meth c D κ hx H locs ls hP hD hS hl
  exact lv_icmp_eq hx.1.1 hx.1.2.1 d ht (fun h => kt (h) p e s m args below meth c D κ hx H locs ls hP hD hS hl) (fun h => kf (h) p e s m args below meth c D κ hx H locs ls hP hD hS hl)
theorem zq_if_eq_b (hZ : ZZ = Zq Φ tbl l y cc nL ret R L0 post xp) {P : Prop} [Decidable P] {off : Int} {tgt : Nat} (d : decode cc pc = .ok (.ifCond .eq off, 3)) (ht : (pc : Int) + off = (tgt : Int)) (kt : ¬ P → ZZ k n tgt lv st L F) (kf : P → ZZ k n (pc + 3) lv st L F) : ZZ k n pc lv (.int (iI (b2 P)) :: st) L F := by
  subst hZ
  intro p e s m args below meth c D κ hx H locs ls hP hD hS hl
  exact lv_if_eq hx.1.1 hx.1.2.1 d ht (fun h => kt (by have h := (iI_eq (a := b2 P) (b := 0) ⟨by rcases b2_in P with q | q <;> omega, by rcases b2_in P with q | q <;> omega⟩ ⟨by omega, by omega⟩).mp h; intro q; rw [b2_t q] at h; cases h) p e s m args below meth c D κ hx H locs ls hP hD hS hl) (fun h => kf (Decidable.byContradiction fun q => h ((iI_eq (a := b2 P) (b := 0) ⟨by rcases b2_in P with q | q <;> omega, by rcases b2_in P with q | q <;> omega⟩ ⟨by omega, by omega⟩).mpr (b2_f q))) p e s m args below meth c D κ hx H locs ls hP hD hS hl)
theorem zq_if_ne_b (hZ : ZZ = Zq Φ tbl l y cc nL ret R L0 post xp) {P : Prop} [Decidable P] {off : Int} {tgt : Nat} (d : decode cc pc = .ok (.ifCond .ne off, 3)) (ht : (pc : Int) + off = (tgt : Int)) (kt : P → ZZ k n tgt lv st L F) (kf : ¬ P → ZZ k n (pc + 3) lv st L F) : ZZ k n pc lv (.int (iI (b2 P)) :: st) L F := by
  subst hZ
  intro p e s m args below meth c D κ hx H locs ls hP hD hS hl
  exact lv_if_ne hx.1.1 hx.1.2.1 d ht (fun h => kt (Decidable.byContradiction fun q => h ((iI_eq (a := b2 P) (b := 0) ⟨by rcases b2_in P with q | q <;> omega, by rcases b2_in P with q | q <;> omega⟩ ⟨by omega, by omega⟩).mpr (b2_f q))) p e s m args below meth c D κ hx H locs ls hP hD hS hl) (fun h => kf (by have h := (iI_eq (a := b2 P) (b := 0) ⟨by rcases b2_in P with q | q <;> omega, by rcases b2_in P with q | q <;> omega⟩ ⟨by omega, by omega⟩).mp h; intro q; rw [b2_t q] at h; cases h) p e s m args below meth c D κ hx H locs ls hP hD hS hl)
theorem zq_iload_n0 (hZ : ZZ = Zq Φ tbl l y cc nL ret R L0 post xp) {t : List (Option Value)} {z : Int32} (d : decode cc pc = .ok (.iload_n 0, 1)) (kk : ZZ k n (pc + 1) (some (.int z) :: t) (.int z :: st) L F) : ZZ k n pc (some (.int z) :: t) (st) L F := by
  subst hZ
  intro p e s m args below meth c D κ hx H locs ls hP hD hS hl
  refine lv_iload_n hx.1.1 hx.1.2.1 d rfl (hl.2.2 0 _ rfl) ?_
  exact kk p e s m args below meth c D κ hx H locs ls hP hD hS hl
theorem zq_aload_n0 (hZ : ZZ = Zq Φ tbl l y cc nL ret R L0 post xp) {t : List (Option Value)} {z : Nat} (d : decode cc pc = .ok (.aload_n 0, 1)) (kk : ZZ k n (pc + 1) (some (.ref z) :: t) (.ref z :: st) L F) : ZZ k n pc (some (.ref z) :: t) (st) L F := by
  subst hZ
  intro p e s m args below meth c D κ hx H locs ls hP hD hS hl
  refine lv_aload_n hx.1.1 hx.1.2.1 d rfl (hl.2.2 0 _ rfl) ?_
  exact kk p e s m args below meth c D κ hx H locs ls hP hD hS hl
theorem zq_istore_n0 (hZ : ZZ = Zq Φ tbl l y cc nL ret R L0 post xp) {xi : Option Value} {t : List (Option Value)} {z : Int32} (d : decode cc pc = .ok (.istore_n 0, 1)) (hn : 0 < nL) (kk : ZZ k n (pc + 1) (some (.int z) :: t) st L F) : ZZ k n pc (xi :: t) (.int z :: st) L F := by
  subst hZ
  intro p e s m args below meth c D κ hx H locs ls hP hD hS hl
  exact lv_istore_n hx.1.1 hx.1.2.1 d rfl (lh_has hl) hn rfl (fun ls' h' => kk p e s m args below meth c D κ hx H locs ls' hP hD hS (lh_st1 (lv := xi :: t) h' (fun j w hj _ => absurd hj (by omega))))
theorem zq_astore_n0 (hZ : ZZ = Zq Φ tbl l y cc nL ret R L0 post xp) {xi : Option Value} {t : List (Option Value)} {z : Nat} (d : decode cc pc = .ok (.astore_n 0, 1)) (hn : 0 < nL) (kk : ZZ k n (pc + 1) (some (.ref z) :: t) st L F) : ZZ k n pc (xi :: t) (.ref z :: st) L F := by
  subst hZ
  intro p e s m args below meth c D κ hx H locs ls hP hD hS hl
  exact lv_astore_n hx.1.1 hx.1.2.1 d rfl (lh_has hl) hn rfl (fun ls' h' => kk p e s m args below meth c D κ hx H locs ls' hP hD hS (lh_st1 (lv := xi :: t) h' (fun j w hj _ => absurd hj (by omega))))
theorem zq_iload_n1 (hZ : ZZ = Zq Φ tbl l y cc nL ret R L0 post xp) {x0 : Option Value} {t : List (Option Value)} {z : Int32} (d : decode cc pc = .ok (.iload_n 1, 1)) (kk : ZZ k n (pc + 1) (x0 :: some (.int z) :: t) (.int z :: st) L F) : ZZ k n pc (x0 :: some (.int z) :: t) (st) L F := by
  subst hZ
  intro p e s m args below meth c D κ hx H locs ls hP hD hS hl
  refine lv_iload_n hx.1.1 hx.1.2.1 d rfl (hl.2.2 1 _ rfl) ?_
  exact kk p e s m args below meth c D κ hx H locs ls hP hD hS hl
theorem zq_aload_n1 (hZ : ZZ = Zq Φ tbl l y cc nL ret R L0 post xp) {x0 : Option Value} {t : List (Option Value)} {z : Nat} (d : decode cc pc = .ok (.aload_n 1, 1)) (kk : ZZ k n (pc + 1) (x0 :: some (.ref z) :: t) (.ref z :: st) L F) : ZZ k n pc (x0 :: some (.ref z) :: t) (st) L F := by
  subst hZ
  intro p e s m args below meth c D κ hx H locs ls hP hD hS hl
  refine lv_aload_n hx.1.1 hx.1.2.1 d rfl (hl.2.2 1 _ rfl) ?_
  exact kk p e s m args below meth c D κ hx H locs ls hP hD hS hl
theorem zq_istore_n1 (hZ : ZZ = Zq Φ tbl l y cc nL ret R L0 post xp) {x0 : Option Value} {xi : Option Value} {t : List (Option Value)} {z : Int32} (d : decode cc pc = .ok (.istore_n 1, 1)) (hn : 1 < nL) (hc : c1 x0 = true) (kk : ZZ k n (pc + 1) (x0 :: some (.int z) :: t) st L F) : ZZ k n pc (x0 :: xi :: t) (.int z :: st) L F := by
  subst hZ
  intro p e s m args below meth c D κ hx H locs ls hP hD hS hl
  exact lv_istore_n hx.1.1 hx.1.2.1 d rfl (lh_has hl) hn rfl (fun ls' h' => kk p e s m args below meth c D κ hx H locs ls' hP hD hS (lh_st1 (lv := x0 :: xi :: t) h' (fun j w hj hw => by obtain rfl : j = 0 := (by omega); have hw := Option.some.inj hw; rw [hw] at hc; have := eq_of_beq (show (w.category == 1) = true from hc); omega)))
theorem zq_astore_n1 (hZ : ZZ = Zq Φ tbl l y cc nL ret R L0 post xp) {x0 : Option Value} {xi : Option Value} {t : List (Option Value)} {z : Nat} (d : decode cc pc = .ok (.astore_n 1, 1)) (hn : 1 < nL) (hc : c1 x0 = true) (kk : ZZ k n (pc + 1) (x0 :: some (.ref z) :: t) st L F) : ZZ k n pc (x0 :: xi :: t) (.ref z :: st) L F := by
  subst hZ
  intro p e s m args below meth c D κ hx H locs ls hP hD hS hl
  exact lv_astore_n hx.1.1 hx.1.2.1 d rfl (lh_has hl) hn rfl (fun ls' h' => kk p e s m args below meth c D κ hx H locs ls' hP hD hS (lh_st1 (lv := x0 :: xi :: t) h' (fun j w hj hw => by obtain rfl : j = 0 := (by omega); have hw := Option.some.inj hw; rw [hw] at hc; have := eq_of_beq (show (w.category == 1) = true from hc); omega)))
theorem zq_iload_n2 (hZ : ZZ = Zq Φ tbl l y cc nL ret R L0 post xp) {x0 x1 : Option Value} {t : List (Option Value)} {z : Int32} (d : decode cc pc = .ok (.iload_n 2, 1)) (kk : ZZ k n (pc + 1) (x0 :: x1 :: some (.int z) :: t) (.int z :: st) L F) : ZZ k n pc (x0 :: x1 :: some (.int z) :: t) (st) L F := by
  subst hZ
  intro p e s m args below meth c D κ hx H locs ls hP hD hS hl
  refine lv_iload_n hx.1.1 hx.1.2.1 d rfl (hl.2.2 2 _ rfl) ?_
  exact kk p e s m args below meth c D κ hx H locs ls hP hD hS hl
theorem zq_aload_n2 (hZ : ZZ = Zq Φ tbl l y cc nL ret R L0 post xp) {x0 x1 : Option Value} {t : List (Option Value)} {z : Nat} (d : decode cc pc = .ok (.aload_n 2, 1)) (kk : ZZ k n (pc + 1) (x0 :: x1 :: some (.ref z) :: t) (.ref z :: st) L F) : ZZ k n pc (x0 :: x1 :: some (.ref z) :: t) (st) L F := by
  subst hZ
  intro p e s m args below meth c D κ hx H locs ls hP hD hS hl
  refine lv_aload_n hx.1.1 hx.1.2.1 d rfl (hl.2.2 2 _ rfl) ?_
  exact kk p e s m args below meth c D κ hx H locs ls hP hD hS hl
theorem zq_istore_n2 (hZ : ZZ = Zq Φ tbl l y cc nL ret R L0 post xp) {x0 x1 : Option Value} {xi : Option Value} {t : List (Option Value)} {z : Int32} (d : decode cc pc = .ok (.istore_n 2, 1)) (hn : 2 < nL) (hc : c1 x1 = true) (kk : ZZ k n (pc + 1) (x0 :: x1 :: some (.int z) :: t) st L F) : ZZ k n pc (x0 :: x1 :: xi :: t) (.int z :: st) L F := by
  subst hZ
  intro p e s m args below meth c D κ hx H locs ls hP hD hS hl
  exact lv_istore_n hx.1.1 hx.1.2.1 d rfl (lh_has hl) hn rfl (fun ls' h' => kk p e s m args below meth c D κ hx H locs ls' hP hD hS (lh_st1 (lv := x0 :: x1 :: xi :: t) h' (fun j w hj hw => by obtain rfl : j = 1 := (by omega); have hw := Option.some.inj hw; rw [hw] at hc; have := eq_of_beq (show (w.category == 1) = true from hc); omega)))
theorem zq_astore_n2 (hZ : ZZ = Zq Φ tbl l y cc nL ret R L0 post xp) {x0 x1 : Option Value} {xi : Option Value} {t : List (Option Value)} {z : Nat} (d : decode cc pc = .ok (.astore_n 2, 1)) (hn : 2 < nL) (hc : c1 x1 = true) (kk : ZZ k n (pc + 1) (x0 :: x1 :: some (.ref z) :: t) st L F) : ZZ k n pc (x0 :: x1 :: xi :: t) (.ref z :: st) L F := by
  subst hZ
  intro p e s m args below meth c D κ hx H locs ls hP hD hS hl
  exact lv_astore_n hx.1.1 hx.1.2.1 d rfl (lh_has hl) hn rfl (fun ls' h' => kk p e s m args below meth c D κ hx H locs ls' hP hD hS (lh_st1 (lv := x0 :: x1 :: xi :: t) h' (fun j w hj hw => by obtain rfl : j = 1 := (by omega); have hw := Option.some.inj hw; rw [hw] at hc; have := eq_of_beq (show (w.category == 1) = true from hc); omega)))
theorem zq_iload_n3 (hZ : ZZ = Zq Φ tbl l y cc nL ret R L0 post xp) {x0 x1 x2 : Option Value} {t : List (Option Value)} {z : Int32} (d : decode cc pc = .ok (.iload_n 3, 1)) (kk : ZZ k n (pc + 1) (x0 :: x1 :: x2 :: some (.int z) :: t) (.int z :: st) L F) : ZZ k n pc (x0 :: x1 :: x2 :: some (.int z) :: t) (st) L F := by
  subst hZ
  intro p e s m args below meth c D κ hx H locs ls hP hD hS hl
  refine lv_iload_n hx.1.1 hx.1.2.1 d rfl (hl.2.2 3 _ rfl) ?_
  exact kk p e s m args below meth c D κ hx H locs ls hP hD hS hl
theorem zq_aload_n3 (hZ : ZZ = Zq Φ tbl l y cc nL ret R L0 post xp) {x0 x1 x2 : Option Value} {t : List (Option Value)} {z : Nat} (d : decode cc pc = .ok (.aload_n 3, 1)) (kk : ZZ k n (pc + 1) (x0 :: x1 :: x2 :: some (.ref z) :: t) (.ref z :: st) L F) : ZZ k n pc (x0 :: x1 :: x2 :: some (.ref z) :: t) (st) L F := by
  subst hZ
  intro p e s m args below meth c D κ hx H locs ls hP hD hS hl
  refine lv_aload_n hx.1.1 hx.1.2.1 d rfl (hl.2.2 3 _ rfl) ?_
  exact kk p e s m args below meth c D κ hx H locs ls hP hD hS hl
theorem zq_istore_n3 (hZ : ZZ = Zq Φ tbl l y cc nL ret R L0 post xp) {x0 x1 x2 : Option Value} {xi : Option Value} {t : List (Option Value)} {z : Int32} (d : decode cc pc = .ok (.istore_n 3, 1)) (hn : 3 < nL) (hc : c1 x2 = true) (kk : ZZ k n (pc + 1) (x0 :: x1 :: x2 :: some (.int z) :: t) st L F) : ZZ k n pc (x0 :: x1 :: x2 :: xi :: t) (.int z :: st) L F := by
  subst hZ
  intro p e s m args below meth c D κ hx H locs ls hP hD hS hl
  exact lv_istore_n hx.1.1 hx.1.2.1 d rfl (lh_has hl) hn rfl (fun ls' h' => kk p e s m args below meth c D κ hx H locs ls' hP hD hS (lh_st1 (lv := x0 :: x1 :: x2 :: xi :: t) h' (fun j w hj hw => by obtain rfl : j = 2 := (by omega); have hw := Option.some.inj hw; rw [hw] at hc; have := eq_of_beq (show (w.category == 1) = true from hc); omega)))
theorem zq_astore_n3 (hZ : ZZ = Zq Φ tbl l y cc nL ret R L0 post xp) {x0 x1 x2 : Option Value} {xi : Option Value} {t : List (Option Value)} {z : Nat} (d : decode cc pc = .ok (.astore_n 3, 1)) (hn : 3 < nL) (hc : c1 x2 = true) (kk : ZZ k n (pc + 1) (x0 :: x1 :: x2 :: some (.ref z) :: t) st L F) : ZZ k n pc (x0 :: x1 :: x2 :: xi :: t) (.ref z :: st) L F := by
  subst hZ
  intro p e s m args below meth c D κ hx H locs ls hP hD hS hl
  exact lv_astore_n hx.1.1 hx.1.2.1 d rfl (lh_has hl) hn rfl (fun ls' h' => kk p e s m args below meth c D κ hx H locs ls' hP hD hS (lh_st1 (lv := x0 :: x1 :: x2 :: xi :: t) h' (fun j w hj hw => by obtain rfl : j = 2 := (by omega); have hw := Option.some.inj hw; rw [hw] at hc; have := eq_of_beq (show (w.category == 1) = true from hc); omega)))
theorem zq_iload4 (hZ : ZZ = Zq Φ tbl l y cc nL ret R L0 post xp) {x0 x1 x2 x3 : Option Value} {t : List (Option Value)} {z : Int32} (d : decode cc pc = .ok (.iload 4, 2)) (kk : ZZ k n (pc + 2) (x0 :: x1 :: x2 :: x3 :: some (.int z) :: t) (.int z :: st) L F) : ZZ k n pc (x0 :: x1 :: x2 :: x3 :: some (.int z) :: t) (st) L F := by
  subst hZ
  intro p e s m args below meth c D κ hx H locs ls hP hD hS hl
  refine lv_iload hx.1.1 hx.1.2.1 d (hl.2.2 4 _ rfl) ?_
  exact kk p e s m args below meth c D κ hx H locs ls hP hD hS hl
theorem zq_istore4 (hZ : ZZ = Zq Φ tbl l y cc nL ret R L0 post xp) {x0 x1 x2 x3 : Option Value} {xi : Option Value} {t : List (Option Value)} {z : Int32} (d : decode cc pc = .ok (.istore 4, 2)) (hn : 4 < nL) (hc : c1 x3 = true) (kk : ZZ k n (pc + 2) (x0 :: x1 :: x2 :: x3 :: some (.int z) :: t) st L F) : ZZ k n pc (x0 :: x1 :: x2 :: x3 :: xi :: t) (.int z :: st) L F := by
  subst hZ
  intro p e s m args below meth c D κ hx H locs ls hP hD hS hl
  exact lv_istore hx.1.1 hx.1.2.1 d (lh_has hl) hn rfl (fun ls' h' => kk p e s m args below meth c D κ hx H locs ls' hP hD hS (lh_st1 (lv := x0 :: x1 :: x2 :: x3 :: xi :: t) h' (fun j w hj hw => by obtain rfl : j = 3 := (by omega); have hw := Option.some.inj hw; rw [hw] at hc; have := eq_of_beq (show (w.category == 1) = true from hc); omega)))
theorem zq_iload5 (hZ : ZZ = Zq Φ tbl l y cc nL ret R L0 post xp) {x0 x1 x2 x3 x4 : Option Value} {t : List (Option Value)} {z : Int32} (d : decode cc pc = .ok (.iload 5, 2)) (kk : ZZ k n (pc + 2) (x0 :: x1 :: x2 :: x3 :: x4 :: some (.int z) :: t) (.int z :: st) L F) : ZZ k n pc (x0 :: x1 :: x2 :: x3 :: x4 :: some (.int z) :: t) (st) L F := by
  subst hZ
  intro p e s m args below meth c D κ hx H locs ls hP hD hS hl
  refine lv_iload hx.1.1 hx.1.2.1 d (hl.2.2 5 _ rfl) ?_
  exact kk p e s m args below meth c D κ hx H locs ls hP hD hS hl
theorem zq_istore5 (hZ : ZZ = Zq Φ tbl l y cc nL ret R L0 post xp) {x0 x1 x2 x3 x4 : Option Value} {xi : Option Value} {t : List (Option Value)} {z : Int32} (d : decode cc pc = .ok (.istore 5, 2)) (hn : 5 < nL) (hc : c1 x4 = true) (kk : ZZ k n (pc + 2) (x0 :: x1 :: x2 :: x3 :: x4 :: some (.int z) :: t) st L F) : ZZ k n pc (x0 :: x1 :: x2 :: x3 :: x4 :: xi :: t) (.int z :: st) L F := by
  subst hZ
  intro p e s m args below meth c D κ hx H locs ls hP hD hS hl
  exact lv_istore hx.1.1 hx.1.2.1 d (lh_has hl) hn rfl (fun ls' h' => kk p e s m args below meth c D κ hx H locs ls' hP hD hS (lh_st1 (lv := x0 :: x1 :: x2 :: x3 :: x4 :: xi :: t) h' (fun j w hj hw => by obtain rfl : j = 4 := (by omega); have hw := Option.some.inj hw; rw [hw] at hc; have := eq_of_beq (show (w.category == 1) = true from hc); omega)))
theorem zq_iload6 (hZ : ZZ = Zq Φ tbl l y cc nL ret R L0 post xp) {x0 x1 x2 x3 x4 x5 : Option Value} {t : List (Option Value)} {z : Int32} (d : decode cc pc = .ok (.iload 6, 2)) (kk : ZZ k n (pc + 2) (x0 :: x1 :: x2 :: x3 :: x4 :: x5 :: some (.int z) :: t) (.int z :: st) L F) : ZZ k n pc (x0 :: x1 :: x2 :: x3 :: x4 :: x5 :: some (.int z) :: t) (st) L F := by
  subst hZ
  intro p e s m args below meth c D κ hx H locs ls hP hD hS hl
  refine lv_iload hx.1.1 hx.1.2.1 d (hl.2.2 6 _ rfl) ?_
  exact kk p e s m args below meth c D κ hx H locs ls hP hD hS hl
theorem zq_istore6 (hZ : ZZ = Zq Φ tbl l y cc nL ret R L0 post xp) {x0 x1 x2 x3 x4 x5 : Option Value} {xi : Option Value} {t : List (Option Value)} {z : Int32} (d : decode cc pc = .ok (.istore 6, 2)) (hn : 6 < nL) (hc : c1 x5 = true) (kk : ZZ k n (pc + 2) (x0 :: x1 :: x2 :: x3 :: x4 :: x5 :: some (.int z) :: t) st L F) : ZZ k n pc (x0 :: x1 :: x2 :: x3 :: x4 :: x5 :: xi :: t) (.int z :: st) L F := by
  subst hZ
  intro p e s m args below meth c D κ hx H locs ls hP hD hS hl
  exact lv_istore hx.1.1 hx.1.2.1 d (lh_has hl) hn rfl (fun ls' h' => kk p e s m args below meth c D κ hx H locs ls' hP hD hS (lh_st1 (lv := x0 :: x1 :: x2 :: x3 :: x4 :: x5 :: xi :: t) h' (fun j w hj hw => by obtain rfl : j = 5 := (by omega); have hw := Option.some.inj hw; rw [hw] at hc; have := eq_of_beq (show (w.category == 1) = true from hc); omega)))
theorem zq_iload7 (hZ : ZZ = Zq Φ tbl l y cc nL ret R L0 post xp) {x0 x1 x2 x3 x4 x5 x6 : Option Value} {t : List (Option Value)} {z : Int32} (d : decode cc pc = .ok (.iload 7, 2)) (kk : ZZ k n (pc + 2) (x0 :: x1 :: x2 :: x3 :: x4 :: x5 :: x6 :: some (.int z) :: t) (.int z :: st) L F) : ZZ k n pc (x0 :: x1 :: x2 :: x3 :: x4 :: x5 :: x6 :: some (.int z) :: t) (st) L F := by
  subst hZ
  intro p e s m args below meth c D κ hx H locs ls hP hD hS hl
  refine lv_iload hx.1.1 hx.1.2.1 d (hl.2.2 7 _ rfl) ?_
  exact kk p e s m args below meth c D κ hx H locs ls hP hD hS hl
theorem zq_istore7 (hZ : ZZ = Zq Φ tbl l y cc nL ret R L0 post xp) {x0 x1 x2 x3 x4 x5 x6 : Option Value} {xi : Option Value} {t : List (Option Value)} {z : Int32} (d : decode cc pc = .ok (.istore 7, 2)) (hn : 7 < nL) (hc : c1 x6 = true) (kk : ZZ k n (pc + 2) (x0 :: x1 :: x2 :: x3 :: x4 :: x5 :: x6 :: some (.int z) :: t) st L F) : ZZ k n pc (x0 :: x1 :: x2 :: x3 :: x4 :: x5 :: x6 :: xi :: t) (.int z :: st) L F := by
  subst hZ
  intro p e s m args below meth c D κ hx H locs ls hP hD hS hl
  exact lv_istore hx.1.1 hx.1.2.1 d (lh_has hl) hn rfl (fun ls' h' => kk p e s m args below meth c D κ hx H locs ls' hP hD hS (lh_st1 (lv := x0 :: x1 :: x2 :: x3 :: x4 :: x5 :: x6 :: xi :: t) h' (fun j w hj hw => by obtain rfl : j = 6 := (by omega); have hw := Option.some.inj hw; rw [hw] at hc; have := eq_of_beq (show (w.category == 1) = true from hc); omega)))
theorem zq_iload8 (hZ : ZZ = Zq Φ tbl l y cc nL ret R L0 post xp) {x0 x1 x2 x3 x4 x5 x6 x7 : Option Value} {t : List (Option Value)} {z : Int32} (d : decode cc pc = .ok (.iload 8, 2)) (kk : ZZ k n (pc + 2) (x0 :: x1 :: x2 :: x3 :: x4 :: x5 :: x6 :: x7 :: some (.int z) :: t) (.int z :: st) L F) : ZZ k n pc (x0 :: x1 :: x2 :: x3 :: x4 :: x5 :: x6 :: x7 :: some (.int z) :: t) (st) L F := by
  subst hZ
  intro p e s m args below meth c D κ hx H locs ls hP hD hS hl
  refine lv_iload hx.1.1 hx.1.2.1 d (hl.2.2 8 _ rfl) ?_
  exact kk p e s m args below meth c D κ hx H locs ls hP hD hS hl
theorem zq_istore8 (hZ : ZZ = Zq Φ tbl l y cc nL ret R L0 post xp) {x0 x1 x2 x3 x4 x5 x6 x7 : Option Value} {xi : Option Value} {t : List (Option Value)} {z : Int32} (d : decode cc pc = .ok (.istore 8, 2)) (hn : 8 < nL) (hc : c1 x7 = true) (kk : ZZ k n (pc + 2) (x0 :: x1 :: x2 :: x3 :: x4 :: x5 :: x6 :: x7 :: some (.int z) :: t) st L F) : ZZ k n pc (x0 :: x1 :: x2 :: x3 :: x4 :: x5 :: x6 :: x7 :: xi :: t) (.int z :: st) L F := by
  subst hZ
  intro p e s m args below meth c D κ hx H locs ls hP hD hS hl
  exact lv_istore hx.1.1 hx.1.2.1 d (lh_has hl) hn rfl (fun ls' h' => kk p e s m args below meth c D κ hx H locs ls' hP hD hS (lh_st1 (lv := x0 :: x1 :: x2 :: x3 :: x4 :: x5 :: x6 :: x7 :: xi :: t) h' (fun j w hj hw => by obtain rfl : j = 7 := (by omega); have hw := Option.some.inj hw; rw [hw] at hc; have := eq_of_beq (show (w.category == 1) = true from hc); omega)))
theorem zq_iload9 (hZ : ZZ = Zq Φ tbl l y cc nL ret R L0 post xp) {x0 x1 x2 x3 x4 x5 x6 x7 x8 : Option Value} {t : List (Option Value)} {z : Int32} (d : decode cc pc = .ok (.iload 9, 2)) (kk : ZZ k n (pc + 2) (x0 :: x1 :: x2 :: x3 :: x4 :: x5 :: x6 :: x7 :: x8 :: some (.int z) :: t) (.int z :: st) L F) : ZZ k n pc (x0 :: x1 :: x2 :: x3 :: x4 :: x5 :: x6 :: x7 :: x8 :: some (.int z) :: t) (st) L F := by
  subst hZ
  intro p e s m args below meth c D κ hx H locs ls hP hD hS hl
  refine lv_iload hx.1.1 hx.1.2.1 d (hl.2.2 9 _ rfl) ?_
  exact kk p e s m args below meth c D κ hx H locs ls hP hD hS hl
theorem zq_istore9 (hZ : ZZ = Zq Φ tbl l y cc nL ret R L0 post xp) {x0 x1 x2 x3 x4 x5 x6 x7 x8 : Option Value} {xi : Option Value} {t : List (Option Value)} {z : Int32} (d : decode cc pc = .ok (.istore 9, 2)) (hn : 9 < nL) (hc : c1 x8 = true) (kk : ZZ k n (pc + 2) (x0 :: x1 :: x2 :: x3 :: x4 :: x5 :: x6 :: x7 :: x8 :: some (.int z) :: t) st L F) : ZZ k n pc (x0 :: x1 :: x2 :: x3 :: x4 :: x5 :: x6 :: x7 :: x8 :: xi :: t) (.int z :: st) L F := by
  subst hZ
  intro p e s m args below meth c D κ hx H locs ls hP hD hS hl
  exact lv_istore hx.1.1 hx.1.2.1 d (lh_has hl) hn rfl (fun ls' h' => kk p e s m args below meth c D κ hx H locs ls' hP hD hS (lh_st1 (lv := x0 :: x1 :: x2 :: x3 :: x4 :: x5 :: x6 :: x7 :: x8 :: xi :: t) h' (fun j w hj hw => by obtain rfl : j = 8 := (by omega); have hw := Option.some.inj hw; rw [hw] at hc; have := eq_of_beq (show (w.category == 1) = true from hc); omega)))
theorem zq_iload10 (hZ : ZZ = Zq Φ tbl l y cc nL ret R L0 post xp) {x0 x1 x2 x3 x4 x5 x6 x7 x8 x9 : Option Value} {t : List (Option Value)} {z : Int32} (d : decode cc pc = .ok (.iload 10, 2)) (kk : ZZ k n (pc + 2) (x0 :: x1 :: x2 :: x3 :: x4 :: x5 :: x6 :: x7 :: x8 :: x9 :: some (.int z) :: t) (.int z :: st) L F) : ZZ k n pc (x0 :: x1 :: x2 :: x3 :: x4 :: x5 :: x6 :: x7 :: x8 :: x9 :: some (.int z) :: t) (st) L F := by
  subst hZ
  intro p e s m args below meth c D κ hx H locs ls hP hD hS hl
  refine lv_iload hx.1.1 hx.1.2.1 d (hl.2.2 10 _ rfl) ?_
  exact kk p e s m args below meth c D κ hx H locs ls hP hD hS hl
theorem zq_istore10 (hZ : ZZ = Zq Φ tbl l y cc nL ret R L0 post xp) {x0 x1 x2 x3 x4 x5 x6 x7 x8 x9 : Option Value} {xi : Option Value} {t : List (Option Value)} {z : Int32} (d : decode cc pc = .ok (.istore 10, 2)) (hn : 10 < nL) (hc : c1 x9 = true) (kk : ZZ k n (pc + 2) (x0 :: x1 :: x2 :: x3 :: x4 :: x5 :: x6 :: x7 :: x8 :: x9 :: some (.int z) :: t) st L F) : ZZ k n pc (x0 :: x1 :: x2 :: x3 :: x4 :: x5 :: x6 :: x7 :: x8 :: x9 :: xi :: t) (.int z :: st) L F := by
  subst hZ
  intro p e s m args below meth c D κ hx H locs ls hP hD hS hl
  exact lv_istore hx.1.1 hx.1.2.1 d (lh_has hl) hn rfl (fun ls' h' => kk p e s m args below meth c D κ hx H locs ls' hP hD hS (lh_st1 (lv := x0 :: x1 :: x2 :: x3 :: x4 :: x5 :: x6 :: x7 :: x8 :: x9 :: xi :: t) h' (fun j w hj hw => by obtain rfl : j = 9 := (by omega); have hw := Option.some.inj hw; rw [hw] at hc; have := eq_of_beq (show (w.category == 1) = true from hc); omega)))
theorem zq_iload11 (hZ : ZZ = Zq Φ tbl l y cc nL ret R L0 post xp) {x0 x1 x2 x3 x4 x5 x6 x7 x8 x9 x10 : Option Value} {t : List (Option Value)} {z : Int32} (d : decode cc pc = .ok (.iload 11, 2)) (kk : ZZ k n (pc + 2) (x0 :: x1 :: x2 :: x3 :: x4 :: x5 :: x6 :: x7 :: x8 :: x9 :: x10 :: some (.int z) :: t) (.int z :: st) L F) : ZZ k n pc (x0 :: x1 :: x2 :: x3 :: x4 :: x5 :: x6 :: x7 :: x8 :: x9 :: x10 :: some (.int z) :: t) (st) L F := by
  subst hZ
  intro p e s m args below meth c D κ hx H locs ls hP hD hS hl
  refine lv_iload hx.1.1 hx.1.2.1 d (hl.2.2 11 _ rfl) ?_
  exact kk p e s m args below meth c D κ hx H locs ls hP hD hS hl
theorem zq_istore11 (hZ : ZZ = Zq Φ tbl l y cc nL ret R L0 post xp) {x0 x1 x2 x3 x4 x5 x6 x7 x8 x9 x10 : Option Value} {xi : Option Value} {t : List (Option Value)} {z : Int32} (d : decode cc pc = .ok (.istore 11, 2)) (hn : 11 < nL) (hc : c1 x10 = true) (kk : ZZ k n (pc + 2) (x0 :: x1 :: x2 :: x3 :: x4 :: x5 :: x6 :: x7 :: x8 :: x9 :: x10 :: some (.int z) :: t) st L F) : ZZ k n pc (x0 :: x1 :: x2 :: x3 :: x4 :: x5 :: x6 :: x7 :: x8 :: x9 :: x10 :: xi :: t) (.int z :: st) L F := by
  subst hZ
  intro p e s m args below meth c D κ hx H locs ls hP hD hS hl
  exact lv_istore hx.1.1 hx.1.2.1 d (lh_has hl) hn rfl (fun ls' h' => kk p e s m args below meth c D κ hx H locs ls' hP hD hS (lh_st1 (lv := x0 :: x1 :: x2 :: x3 :: x4 :: x5 :: x6 :: x7 :: x8 :: x9 :: x10 :: xi :: t) h' (fun j w hj hw => by obtain rfl : j = 10 := (by omega); have hw := Option.some.inj hw; rw [hw] at hc; have := eq_of_beq (show (w.category == 1) = true from hc); omega)))
theorem zq_iload12 (hZ : ZZ = Zq Φ tbl l y cc nL ret R L0 post xp) {x0 x1 x2 x3 x4 x5 x6 x7 x8 x9 x10 x11 : Option Value} {t : List (Option Value)} {z : Int32} (d : decode cc pc = .ok (.iload 12, 2)) (kk : ZZ k n (pc + 2) (x0 :: x1 :: x2 :: x3 :: x4 :: x5 :: x6 :: x7 :: x8 :: x9 :: x10 :: x11 :: some (.int z) :: t) (.int z :: st) L F) : ZZ k n pc (x0 :: x1 :: x2 :: x3 :: x4 :: x5 :: x6 :: x7 :: x8 :: x9 :: x10 :: x11 :: some (.int z) :: t) (st) L F := by
  subst hZ
  intro p e s m args below meth c D κ hx H locs ls hP hD hS hl
  refine lv_iload hx.1.1 hx.1.2.1 d (hl.2.2 12 _ rfl) ?_
  exact kk p e s m args below meth c D κ hx H locs ls hP hD hS hl
theorem zq_istore12 (hZ : ZZ = Zq Φ tbl l y cc nL ret R L0 post xp) {x0 x1 x2 x3 x4 x5 x6 x7 x8 x9 x10 x11 : Option Value} {xi : Option Value} {t : List (Option Value)} {z : Int32} (d : decode cc pc = .ok (.istore 12, 2)) (hn : 12 < nL) (hc : c1 x11 = true) (kk : ZZ k n (pc + 2) (x0 :: x1 :: x2 :: x3 :: x4 :: x5 :: x6 :: x7 :: x8 :: x9 :: x10 :: x11 :: some (.int z) :: t) st L F) : ZZ k n pc (x0 :: x1 :: x2 :: x3 :: x4 :: x5 :: x6 :: x7 :: x8 :: x9 :: x10 :: x11 :: xi :: t) (.int z :: st) L F := by
  subst hZ
  intro p e s m args below meth c D κ hx H locs ls hP hD hS hl
  exact lv_istore hx.1.1 hx.1.2.1 d (lh_has hl) hn rfl (fun ls' h' => kk p e s m args below meth c D κ hx H locs ls' hP hD hS (lh_st1 (lv := x0 :: x1 :: x2 :: x3 :: x4 :: x5 :: x6 :: x7 :: x8 :: x9 :: x10 :: x11 :: xi :: t) h' (fun j w hj hw => by obtain rfl : j = 11 := (by omega); have hw := Option.some.inj hw; rw [hw] at hc; have := eq_of_beq (show (w.category == 1) = true from hc); omega)))
theorem zq_newG (hZ : ZZ = Zq Φ tbl l y cc nL ret R L0 post xp) {C : String} {T : u_T} {N ci ix : Nat} {fs : List Value} {tyc : Nat → FieldType} (d : decode cc pc = .ok (.new ix, 3)) (hin : ∀ w ∈ u_ws C T N, w ∈ wsG) (hty : ∀ k, k < N → parseFieldDescriptor (T k).2.2.1 = some (tyc k)) (hcl : Cond.classLink y.cls ix C ∈ wsG) (hit : Cond.instantiable C N ∈ wsG) (hini : Cond.initialized C ∈ wsG)
    (hc : vwCl[ci]? = some (C, T, N)) (hfs : ∀ j, j < N → defaultValue (tyc j) = vp_V fs j) (hRc : k + 1 ≤ R.cells ∧ n + N ≤ R.slots)
    (kk : ∀ (q : Nat) (F1 : Nat → PE), q ∉ L → F1 q = eO ci fs → (∀ b : Nat, b ≠ q → F1 b = F b) → ZZ (k + 1) (n + N) (pc + 3) lv (.ref q :: st) (L ++ [q]) F1) : ZZ k n pc lv st L F := by
  subst hZ
  intro p e s m args below meth c D κ hx H locs ls hP hD hS hl
  refine va_new hx.1.1 hx.1.2.1 (C := C) (T := T) (N := N) (ci := ci) (fs := fs) hx.1.2.2.2.2.1 hin tyc hty hx.1.2.2.2.1 (hx.1.2.2.2.2.1 _ hcl) (hx.1.2.2.2.2.1 _ hit) (hx.1.2.2.2.2.1 _ hini) hx.1.2.2.2.2.2.1.1 hP hD hS (fun q h => Or.inr h) hc hfs hRc.1 hRc.2 d (fun q H1 hP1 hD1 hS1 => ?_)
  have hq : q ∉ L := pw_new hD1
  refine kk q (va_up F q (eO ci fs)) hq (va_up_self _ _ _) (fun b hb => va_up_ne _ _ hb) p e s m args below meth c D κ hx H1 locs ls ?_ ?_ hS1 hl
  · rw [← pw_push hq]; exact hP1
  · rw [← pw_push hq]; exact hD1
theorem zq_idiv (hZ : ZZ = Zq Φ tbl l y cc nL ret R L0 post xp) {a b : Int} (d : decode cc pc = .ok (.idiv, 1)) (h : 0 ≤ a ∧ a ≤ 2147483647 ∧ 0 < b ∧ b ≤ 2147483647) (kk : ZZ k n (pc + 1) lv (.int (iI (a / b)) :: st) L F) : ZZ k n pc lv (.int (iI b) :: .int (iI a) :: st) L F := by
  subst hZ
  intro p e s m args below meth c D κ hx H locs ls hP hD hS hl
  refine lv_idiv hx.1.1 hx.1.2.1 d (fun q => by have := (iI_eq (b := 0) ⟨by omega, by omega⟩ ⟨by omega, by omega⟩).mp q; omega) ?_
  have e1 : iI a / iI b = iI (a / b) := by
    rw [iI_pos h.1, iI_pos (Int.le_of_lt h.2.2.1), pk_div (by omega) (by omega) (by omega), iI_nI]
    congr 1
    rw [Int.natCast_ediv, Int.toNat_of_nonneg h.1, Int.toNat_of_nonneg (Int.le_of_lt h.2.2.1)]
  rw [e1]
  exact kk p e s m args below meth c D κ hx H locs ls hP hD hS hl
theorem zq_ldc (hZ : ZZ = Zq Φ tbl l y cc nL ret R L0 post xp) {ix : Nat} {v : Int} (d : decode cc pc = .ok (.ldc ix, 2)) (hw : Cond.constant y.cls ix (iI v) ∈ wsG) (kk : ZZ k n (pc + 2) lv (.int (iI v) :: st) L F) : ZZ k n pc lv st L F := by
  subst hZ
  intro p e s m args below meth c D κ hx H locs ls hP hD hS hl
  exact lv_ldc hx.1.1 hx.1.2.1 hx.1.2.2.2.1 (hx.1.2.2.2.2.1 _ hw) d (kk p e s m args below meth c D κ hx H locs ls hP hD hS hl)
theorem zq_iandM (hZ : ZZ = Zq Φ tbl l y cc nL ret R L0 post xp) {a : Int} (d : decode cc pc = .ok (.iand, 1)) (kk : ∀ r : Int, 0 ≤ r ∧ r ≤ 2147483647 → ZZ k n (pc + 1) lv (.int (iI r) :: st) L F) : ZZ k n pc lv (.int (iI 2147483647) :: .int (iI a) :: st) L F := by
  obtain ⟨r, hr, e⟩ := iI_mask (iI a)
  exact zq_iand hZ d e (kk r hr)
/-- the law's own script -/
theorem zq_sld (hZ : ZZ = Zq Φ tbl l y cc nL ret R L0 post xp) {b Ls : Nat} {sx : Int → Int} (hΦ : ∀ s, Φ s → va_X b Ls (fun j => iI (sx (j : Int))) s s.heap ∧ ¬ pA L0 s.heap.size b) {i : Int} (d : decode cc pc = .ok (.iaload, 1)) (hi : 0 ≤ i ∧ i < Ls ∧ i ≤ 2147483647) (kk : ZZ k n (pc + 1) lv (.int (iI (sx i)) :: st) L F) : ZZ k n pc lv (.int (iI i) :: .ref b :: st) L F := by
  subst hZ
  intro p e s m args below meth c D κ hx H locs ls hP hD hS hl
  have e1 := iI_clamp (z := i) ⟨by omega, hi.2.2⟩ hi.1
  have hb : b < s.heap.size := Nat.lt_of_not_le (fun z => (hΦ s hx.2).2 (Or.inr z))
  refine va_sld hx.1.1 hx.1.2.1 (hΦ s hx.2).1 hb (hΦ s hx.2).2 hS (iI_in ⟨by omega, hi.2.2⟩ hi.1 hi.2.1) d ?_
  rw [e1]
  exact kk p e s m args below meth c D κ hx H locs ls hP hD hS hl
theorem zq_slen (hZ : ZZ = Zq Φ tbl l y cc nL ret R L0 post xp) {b Ls : Nat} {sx : Int → Int} (hΦ : ∀ s, Φ s → va_X b Ls (fun j => iI (sx (j : Int))) s s.heap ∧ ¬ pA L0 s.heap.size b) (d : decode cc pc = .ok (.arraylength, 1)) (kk : ZZ k n (pc + 1) lv (.int (iI (Ls : Int)) :: st) L F) : ZZ k n pc lv (.ref b :: st) L F := by
  subst hZ
  intro p e s m args below meth c D κ hx H locs ls hP hD hS hl
  have hb : b < s.heap.size := Nat.lt_of_not_le (fun z => (hΦ s hx.2).2 (Or.inr z))
  refine va_slen hx.1.1 hx.1.2.1 (hΦ s hx.2).1 hb (hΦ s hx.2).2 hS d ?_
  rw [show Int32.ofNat Ls = iI (Ls : Int) from iI_nI Ls]
  exact kk p e s m args below meth c D κ hx H locs ls hP hD hS hl
/-- a call of a method of the law's that has no handlers -/
theorem zq_cSf (hZ : ZZ = Zq Φ tbl l y cc nL ret R L0 post xp) {Φ1 : State → Prop} (hB : ∀ (U : State) (g : JFrame) (mk : MethodId) (a : Array Value), Φ1 U → Φ1 (U.calling g mk a)) {y1 : MethodName} {cc1 : ByteArray} {nL1 idx : Nat} {ret1 : Option FieldType} {R1 : Room} {As rest st0 : List Value} {post1 : Option Value → List Nat → (Nat → PE) → Prop}
    (hΦ : ∀ (s U : State) (H : Heap) (locs : List Loc) (κ : Nat → ClassId), Φ s → va_D (pA L0 s.heap.size) (pw κ L F) → va_S (pA L0 s.heap.size) s.heap H locs → U.heap = H → s.WarmedH U.vm → Φ1 U)
    (hst : st0 = As.reverse ++ rest) (d : decode cc pc = .ok (.invokestatic idx, 3)) (hl : Cond.methodLink y.cls idx y1 ∈ wsG) (hw : wyS y1 As.length) (hM : PMf Φ1 l y1 cc1 nL1 ret1 R1 L As F post1)
    (hR : R1.frames + 1 ≤ R.frames ∧ 8 + (nL1 + 11) + R1.locals ≤ R.locals) (hRc : k + R1.cells ≤ R.cells ∧ n + R1.slots ≤ R.slots) (hrest : (rest.map fun v => v.category).sum ≤ 8)
    (kk : ∀ (v : Option Value) (L' : List Nat) (F' : Nat → PE), post1 v L' F' → ZZ (k + R1.cells) (n + R1.slots) (pc + 3) lv (v.toList ++ rest) L' F') : ZZ k n pc lv st0 L F := by
  subst hZ
  intro p e s m args below meth c D κ hx H locs ls hP hD hS hl9
  subst hst
  have hts := hx.1.2.2.2.2.1
  have hbl : FrameBlind (va_Pc As (fun U => U.heap.size = H.size ∧ va_P D vwCl (pw κ L F) U.heap ∧ va_D (fun _ => True) (pw κ L F) ∧ pK D κ (pA L H.size) U U.heap ∧ Φ1 U)) := fun a U g mk q => ⟨q.1, q.2.1, q.2.2.1, q.2.2.2.1, q.2.2.2.2.1.calling, hB _ _ _ _ q.2.2.2.2.2⟩
  refine zq_back (R1 := R1) hx hS hD hl9 (vx_runS (As := As) ⟨hx.1.1, hx.1.2.1, hx.1.2.2.1, hx.1.2.2.2.1, hx.1.2.2.2.2.1⟩ (hM.2 D κ H.size) ⟨z_callB hts hM.1 hw.1 hl hR, hts _ hw.2⟩
    ⟨hbl, fun U hU hW => ⟨rfl, by
      have z := z_pc hx.1.2.2.2.2.2.1 hS hP hD hU hW
      exact ⟨z.1, z.2.1, z.2.2.1, z.2.2.2, hΦ s U H locs κ hx.2 hD hS hU hW⟩⟩⟩ rfl rfl hl9.1 rfl (lv_room hrest) d hRc) (fun _ _ _ h => h.elim) kk
/-! the calls once more, with the rooms' numbers -/
theorem zq_cVr {D C S Lc d1 c1 s1 l1 : Nat} (hZ : ZZ = Zq Φ tbl l y cc nL ret { frames := D, cells := C, slots := S, locals := Lc } L0 post xp) {y1 : MethodName} {cc1 : ByteArray} {nL1 idx b ci : Nat} {ret1 : Option FieldType} {As rest st0 : List Value} {fs : List Value} {T1 : u_T} {N1 : Nat} {post1 : Option Value → List Nat → (Nat → PE) → Prop} {xp1 : String → List Nat → (Nat → PE) → Prop}
    (hst : st0 = As.reverse ++ .ref b :: rest) (d : decode cc pc = .ok (.invokevirtual idx, 3)) (hl : Cond.methodLink y.cls idx y1 ∈ wsG) (hw : wyV y1 As.length) (hM : PM l y1 cc1 nL1 ret1 { frames := d1, cells := c1, slots := s1, locals := l1 } L (.ref b :: As) F post1 xp1)
    (hb : b ∈ L) (hF : F b = eO ci fs) (hci : vwCl[ci]? = some (y1.cls, T1, N1)) (hR : d1 + 1 ≤ D ∧ 8 + (nL1 + 11) + l1 ≤ Lc) (hRc : k + c1 ≤ C ∧ n + s1 ≤ S) (hrest : (rest.map fun v => v.category).sum ≤ 8)
    (kx : ∀ (E : String) (L' : List Nat) (F' : Nat → PE), xp1 E L' F' → ∃ h : Nat, hOk Φ tbl y.cls pc E h ∧ ∀ q : Nat, ZZ (k + c1) (n + s1) h lv [.ref q] L' F')
    (kk : ∀ (v : Option Value) (L' : List Nat) (F' : Nat → PE), post1 v L' F' → ZZ (k + c1) (n + s1) (pc + 3) lv (v.toList ++ rest) L' F') : ZZ k n pc lv st0 L F := zq_cV hZ hst d hl hw hM hb hF hci hR hRc hrest kx kk
theorem zq_cSr {D C S Lc d1 c1 s1 l1 : Nat} (hZ : ZZ = Zq Φ tbl l y cc nL ret { frames := D, cells := C, slots := S, locals := Lc } L0 post xp) (hΦ : ∀ s, Φ s → va_Nc xS xA s) {y1 : MethodName} {cc1 : ByteArray} {nL1 idx : Nat} {ret1 : Option FieldType} {hh : List (Nat × Nat × Nat × Nat)} {As rest st0 : List Value} {post1 : Option Value → List Nat → (Nat → PE) → Prop}
    (hst : st0 = As.reverse ++ rest) (d : decode cc pc = .ok (.invokestatic idx, 3)) (hl : Cond.methodLink y.cls idx y1 ∈ wsG) (hw : wyS y1 As.length) (hM : PMh l y1 cc1 nL1 ret1 hh { frames := d1, cells := c1, slots := s1, locals := l1 } L As F post1)
    (hR : d1 + 1 ≤ D ∧ 8 + (nL1 + 11) + l1 ≤ Lc) (hRc : k + c1 ≤ C ∧ n + s1 ≤ S) (hrest : (rest.map fun v => v.category).sum ≤ 8)
    (kk : ∀ (v : Option Value) (L' : List Nat) (F' : Nat → PE), post1 v L' F' → ZZ (k + c1) (n + s1) (pc + 3) lv (v.toList ++ rest) L' F') : ZZ k n pc lv st0 L F := zq_cSh hZ hΦ hst d hl hw hM hR hRc hrest kk
theorem zq_cNr {D C S Lc d1 c1 s1 l1 : Nat} (hZ : ZZ = Zq Φ tbl l y cc nL ret { frames := D, cells := C, slots := S, locals := Lc } L0 post xp) (hΦ : ∀ s, Φ s → va_Nc xS xA s) {y1 : MethodName} {cc1 : ByteArray} {nL1 idx : Nat} {ret1 : Option FieldType} {As rest st0 : List Value} {post1 : Option Value → List Nat → (Nat → PE) → Prop}
    (hst : st0 = As.reverse ++ rest) (d : decode cc pc = .ok (.invokestatic idx, 3)) (hl : Cond.methodLink y.cls idx y1 ∈ wsG) (hw : wyS y1 As.length) (hM : PMf (va_Nc xS xA) l y1 cc1 nL1 ret1 { frames := d1, cells := c1, slots := s1, locals := l1 } L As F post1)
    (hR : d1 + 1 ≤ D ∧ 8 + (nL1 + 11) + l1 ≤ Lc) (hRc : k + c1 ≤ C ∧ n + s1 ≤ S) (hrest : (rest.map fun v => v.category).sum ≤ 8)
    (kk : ∀ (v : Option Value) (L' : List Nat) (F' : Nat → PE), post1 v L' F' → ZZ (k + c1) (n + s1) (pc + 3) lv (v.toList ++ rest) L' F') : ZZ k n pc lv st0 L F :=
  zq_cSf hZ (Φ1 := va_Nc xS xA) (fun U g mk a h => va_Nc.moved (u := U) (U := U.calling g mk a) (Vm.Alike.refl U.vm) h) (fun s U H locs κ h _ _ _ hW => va_Nc.moved hW.alike (hΦ s h)) hst d hl hw hM hR hRc hrest kk
end ZQC
