/-! THE LAYER, 2: locals as a list by their numbers; ZZ and contracts PM; calls and ends. -/
def lh (ls : Array Slot) (nL : Nat) (lv : List (Option Value)) : Prop := ls.size = nL ∧ lv_wf ls ∧ ∀ (i : Nat) (v : Value), lv[i]? = some (some v) → ls[i]? = some (.val v)
def lpr (lv : List (Option Value)) : List (Nat × Value) := (List.range lv.length).flatMap (fun i => match lv[i]? with | some (some v) => [(i, v)] | _ => [])
theorem lpr_mem {lv : List (Option Value)} {i : Nat} {v : Value} : (i, v) ∈ lpr lv ↔ lv[i]? = some (some v) := by
  unfold lpr
  rw [List.mem_flatMap]
  constructor
  · rintro ⟨j, -, h⟩
    rcases hq : lv[j]? with _ | o
    · rw [hq] at h; cases h
    · rcases o with _ | w
      · rw [hq] at h; cases h
      · rw [hq] at h
        have h2 := List.mem_singleton.mp h
        cases h2
        exact hq
  · intro h
    refine ⟨i, List.mem_range.mpr (List.getElem?_eq_some_iff.mp h).1, ?_⟩
    rw [h]
    exact List.mem_singleton.mpr rfl
theorem lh_has {ls : Array Slot} {nL : Nat} {lv : List (Option Value)} (h : lh ls nL lv) : lv_has ls nL (lpr lv) := ⟨h.1, h.2.1, fun q hq => h.2.2 q.1 q.2 (lpr_mem.mp hq)⟩
def c1 (o : Option Value) : Bool := match o with | none => true | some v => v.category == 1
theorem lh_st1 {ls' : Array Slot} {nL i : Nat} {lv : List (Option Value)} {v : Value} (h' : lv_has ls' nL ((i, v) :: (lpr lv).filter (fun q => !(q.1 == i) && !(q.1 + 1 == i && q.2.category == 2)))) (hp : ∀ (j : Nat) (w : Value), j + 1 = i → lv[j]? = some (some w) → ¬ w.category = 2) : lh ls' nL (lv.set i (some v)) := by
  refine ⟨h'.1, h'.2.1, fun j w hj => ?_⟩
  by_cases e : j = i
  · subst e
    have hlt := (List.getElem?_eq_some_iff.mp hj).1
    rw [List.length_set] at hlt
    rw [List.getElem?_set_self hlt] at hj
    cases hj
    exact h'.2.2 (j, v) List.mem_cons_self
  · rw [List.getElem?_set_ne (Ne.symm e)] at hj
    refine h'.2.2 (j, w) (List.mem_cons_of_mem _ (List.mem_filter.mpr ⟨lpr_mem.mpr hj, ?_⟩))
    have := hp j w
    simp only [Bool.and_eq_true, Bool.not_eq_true', beq_eq_false_iff_ne, ne_eq, Bool.and_eq_false_iff, beq_iff_eq]
    refine ⟨e, ?_⟩
    by_cases hh : j + 1 = i
    · exact Or.inr (this hh hj)
    · exact Or.inl hh
theorem lh_st2 {ls' : Array Slot} {nL i : Nat} {lv : List (Option Value)} {v : Value} (h' : lv_has ls' nL ((i, v) :: (lpr lv).filter (fun q => !(q.1 == i) && (!(q.1 == i + 1) && !(q.1 + 1 == i && q.2.category == 2))))) (hp : ∀ (j : Nat) (w : Value), j + 1 = i → lv[j]? = some (some w) → ¬ w.category = 2) : lh ls' nL ((lv.set i (some v)).set (i + 1) none) := by
  refine ⟨h'.1, h'.2.1, fun j w hj => ?_⟩
  by_cases e2 : j = i + 1
  · subst e2
    have hlt := (List.getElem?_eq_some_iff.mp hj).1
    rw [List.length_set] at hlt
    rw [List.getElem?_set_self hlt] at hj
    cases hj
  rw [List.getElem?_set_ne (Ne.symm e2)] at hj
  by_cases e : j = i
  · subst e
    have hlt := (List.getElem?_eq_some_iff.mp hj).1
    rw [List.length_set] at hlt
    rw [List.getElem?_set_self hlt] at hj
    cases hj
    exact h'.2.2 (j, v) List.mem_cons_self
  · rw [List.getElem?_set_ne (Ne.symm e)] at hj
    refine h'.2.2 (j, w) (List.mem_cons_of_mem _ (List.mem_filter.mpr ⟨lpr_mem.mpr hj, ?_⟩))
    have := hp j w
    simp only [Bool.and_eq_true, Bool.not_eq_true', beq_eq_false_iff_ne, ne_eq, Bool.and_eq_false_iff, beq_iff_eq]
    refine ⟨e, e2, ?_⟩
    by_cases hh : j + 1 = i
    · exact Or.inr (this hh hj)
    · exact Or.inl hh
/-- the locals at a method's entry -/
def lent : List Value → List (Option Value)
  | [] => []
  | v :: vs => if v.category = 2 then some v :: none :: lent vs else some v :: lent vs
theorem lent_args (vs : List Value) : ∀ (k i : Nat) (v : Value), (lent vs)[i]? = some (some v) → (k + i, v) ∈ lv_args k vs := by
  induction vs with
  | nil => intro k i v h; simp [lent] at h
  | cons w ws ih =>
    intro k i v h
    unfold lent at h
    unfold lv_args
    by_cases hc : w.category = 2
    · rw [if_pos hc] at h ⊢
      match i, h with
      | 0, h => cases h; exact List.mem_cons_self
      | 1, h => cases h
      | i + 2, h =>
        have := ih (k + 2) i v h
        rw [show k + (i + 2) = k + 2 + i by omega]
        exact List.mem_cons_of_mem _ this
    · rw [if_neg hc] at h ⊢
      match i, h with
      | 0, h => cases h; exact List.mem_cons_self
      | i + 1, h =>
        have := ih (k + 1) i v h
        rw [show k + (i + 1) = k + 1 + i by omega]
        exact List.mem_cons_of_mem _ this
theorem lent_has {ls : Array Slot} {nL n : Nat} {vs : List Value} (h : lv_has ls nL (lv_args 0 vs)) : lh ls nL (lent vs ++ List.replicate n none) := by
  refine ⟨h.1, h.2.1, fun i v hi => ?_⟩
  by_cases hl : i < (lent vs).length
  · rw [List.getElem?_append_left hl] at hi
    have := lent_args vs 0 i v hi
    rw [Nat.zero_add] at this
    exact h.2.2 (i, v) this
  · rw [List.getElem?_append_right (by omega), List.getElem?_replicate] at hi
    split at hi <;> cases hi
def pQ (D : va_G) (κ : Nat → ClassId) (A : Nat → Prop) (post : Option Value → List Nat → (Nat → PE) → Prop) : Array Value → State → Outcome → State → Prop := fun _ st oc t =>
  ∃ (v : Option Value) (L' : List Nat) (F' : Nat → PE), oc = .returned v ∧ post v L' F' ∧ va_P D vwCl (pw κ L' F') t.heap ∧ va_D A (pw κ L' F') ∧ va_F A st t
def pX (D : va_G) (κ : Nat → ClassId) (A : Nat → Prop) (xp : String → List Nat → (Nat → PE) → Prop) : String → State → State → Prop := fun E st t =>
  ∃ (L' : List Nat) (F' : Nat → PE), xp E L' F' ∧ va_P D vwCl (pw κ L' F') t.heap ∧ va_D A (pw κ L' F') ∧ va_F A st t
/-- what stays the same in a method's walk -/
def Zfx (l : Launch) (y : MethodName) (cc : ByteArray) (nL : Nat) (ret : Option FieldType) (L0 : List Nat) (p : Program) (s : State) (m : MethodId) (args : Array Value) (meth : Method) (c : Code) (D : va_G) (κ : Nat → ClassId) : Prop :=
  p.tables.exec = Jvm.exec ∧ c.code = cc ∧ c.maxLocals = nL ∧ s.vm.findClass y.cls = some m.cls ∧ (∀ w ∈ wsG, w.before args s = true) ∧ pK D κ (pA L0 s.heap.size) s s.heap ∧ meth.sig.returnType = ret ∧ meth.locks = false ∧ (∀ x ∈ c.exceptionTable.toList, False) ∧ meth.name = y.name
/-- the walk of a method from a place: locals, stack, pool, contents -/
def Zj (l : Launch) (y : MethodName) (cc : ByteArray) (nL : Nat) (ret : Option FieldType) (R : Room) (L0 : List Nat) (post : Option Value → List Nat → (Nat → PE) → Prop) (xp : String → List Nat → (Nat → PE) → Prop) (k n pc : Nat) (lv : List (Option Value)) (st : List Value) (L : List Nat) (F : Nat → PE) : Prop :=
  ∀ (p : Program) (e : Env) (s : State) (m : MethodId) (args : Array Value) (below : List Frame) (meth : Method) (c : Code) (D : va_G) (κ : Nat → ClassId), Zfx l y cc nL ret L0 p s m args meth c D κ →
    ∀ (H : Heap) (locs : List Loc) (ls : Array Slot), va_P D vwCl (pw κ L F) H → va_D (pA L0 s.heap.size) (pw κ L F) → va_S (pA L0 s.heap.size) s.heap H locs → lh ls nL lv →
      W p l e R s m args below meth c H locs k n (vx_MQ below (pQ D κ (pA L0 s.heap.size) post) (pX D κ (pA L0 s.heap.size) xp) args s R.cells R.slots (pA L0 s.heap.size)) (F0 m pc ls st)
abbrev ZT : Type := Nat → Nat → Nat → List (Option Value) → List Value → List Nat → (Nat → PE) → Prop
/-- a method's contract -/
def PM (l : Launch) (y : MethodName) (cc : ByteArray) (nL : Nat) (ret : Option FieldType) (R : Room) (L0 : List Nat) (av : List Value) (F : Nat → PE) (post : Option Value → List Nat → (Nat → PE) → Prop) (xp : String → List Nat → (Nat → PE) → Prop) : Prop :=
  Cond.code y cc nL ret ∈ wsG ∧ ∀ (D : va_G) (κ : Nat → ClassId) (sz : Nat), vx_Met l y (Cond.code y cc nL ret :: wsG) R (va_Pc av (fun U => U.heap.size = sz ∧ va_P D vwCl (pw κ L0 F) U.heap ∧ va_D (fun _ => True) (pw κ L0 F) ∧ pK D κ (pA L0 sz) U U.heap))
    (pQ D κ (pA L0 sz) post) (pX D κ (pA L0 sz) xp) R.cells R.slots (pA L0 sz)
theorem pw_A {κ : Nat → ClassId} {L : List Nat} {F : Nat → PE} {A B : Nat → Prop} (h : va_D A (pw κ L F)) (hB : ∀ a ∈ L, B a) : va_D B (pw κ L F) := by
  refine ⟨h.1, fun k q hk => ?_⟩
  obtain ⟨a, ha, rfl⟩ := List.mem_map.mp (List.mem_of_getElem? hk)
  exact hB a ha
theorem pw_in {κ : Nat → ClassId} {L : List Nat} {F : Nat → PE} {A : Nat → Prop} (h : va_D A (pw κ L F)) : ∀ a ∈ L, A a := fun a ha => by
  obtain ⟨k, hk⟩ := pw_get (κ := κ) (F := F) ha rfl
  exact h.2 k _ hk
theorem pm_of {l : Launch} {y : MethodName} {cc : ByteArray} {nL : Nat} {ret : Option FieldType} {R : Room} {L0 : List Nat} {av : List Value} {F : Nat → PE} {post : Option Value → List Nat → (Nat → PE) → Prop} {xp : String → List Nat → (Nat → PE) → Prop}
    (hc : Cond.code y cc nL ret ∈ wsG) (hy : plainName y.cls = true) (hfit : (lg_sl av).length ≤ nL) (body : ∀ ZZ : ZT, ZZ = Zj l y cc nL ret R L0 post xp → ZZ 0 0 0 (lent av ++ List.replicate (nL - (lg_sl av).length) none) [] L0 F) : PM l y cc nL ret R L0 av F post xp := by
  refine ⟨hc, fun D κ sz => ?_⟩
  refine vx_ofW (cc := cc) (maxL := nL) (ret := ret) hy rfl ?_
  intro p e s m args below meth c s₁ B hml hex hv
  obtain ⟨rfl, hsz, hP, hD0, hK⟩ := hv
  subst hsz
  have hts := atoms_spec B.pre
  rw [lg_entry_eq]
  exact body _ rfl p e s m _ below meth c D κ ⟨B.exec, B.bytes, hml, findClass_of_methodNamed B.named, fun w hw => hts w (List.mem_cons_of_mem _ hw), hK, B.returns, B.notSynchronized, hex, (name_of_methodNamed B.named B.method).1⟩
    s.heap [] _ hP (pw_A hD0 (fun a ha => Or.inl ha)) va_S.rf (lent_has (lv_entry av hfit))
section ZC
variable {ZZ : ZT} {l : Launch} {y : MethodName} {cc : ByteArray} {nL : Nat} {ret : Option FieldType} {R : Room} {L0 : List Nat} {post : Option Value → List Nat → (Nat → PE) → Prop} {xp : String → List Nat → (Nat → PE) → Prop}
variable {k n pc : Nat} {lv : List (Option Value)} {st : List Value} {L : List Nat} {F : Nat → PE}
/-- the ends -/
theorem z_iret (hZ : ZZ = Zj l y cc nL ret R L0 post xp) (hr : ret = some .int) {z : Int} (hk : k ≤ R.cells) (hn : n ≤ R.slots) (d : decode cc pc = .ok (.ireturn, 1)) (hp : post (some (.int (iI z))) L F) : ZZ k n pc lv [.int (iI z)] L F := by
  subst hZ
  intro p e s m args below meth c D κ hx H locs ls hP hD hS hl
  refine W.widen hk hn (vx_ret ?_)
  exact W.iret hx.1 hx.2.1 (hx.2.2.2.2.2.2.1.trans hr) (fun t ht hW => ⟨_, L, F, rfl, hp, by rw [ht]; exact hP, hD, hS.F ht⟩) hS.2.2 d hx.2.2.2.2.2.2.2.1
theorem z_zret (hZ : ZZ = Zj l y cc nL ret R L0 post xp) (hr : ret = some .boolean) {z : Int} (hk : k ≤ R.cells) (hn : n ≤ R.slots) (d : decode cc pc = .ok (.ireturn, 1)) (hb : z = 0 ∨ z = 1) (hp : post (some (.int (iI z))) L F) : ZZ k n pc lv [.int (iI z)] L F := by
  subst hZ
  intro p e s m args below meth c D κ hx H locs ls hP hD hS hl
  refine W.widen hk hn (vx_ret ?_)
  exact W.zret hx.1 hx.2.1 (hx.2.2.2.2.2.2.1.trans hr) (by rcases hb with rfl | rfl <;> decide) (fun t ht hW => ⟨_, L, F, rfl, hp, by rw [ht]; exact hP, hD, hS.F ht⟩) hS.2.2 d hx.2.2.2.2.2.2.2.1
theorem z_lret (hZ : ZZ = Zj l y cc nL ret R L0 post xp) (hr : ret = some .long) {z : Int64} (hk : k ≤ R.cells) (hn : n ≤ R.slots) (d : decode cc pc = .ok (.lreturn, 1)) (hp : post (some (.long z)) L F) : ZZ k n pc lv [.long z] L F := by
  subst hZ
  intro p e s m args below meth c D κ hx H locs ls hP hD hS hl
  refine W.widen hk hn (vx_ret ?_)
  exact W.lret hx.1 hx.2.1 (hx.2.2.2.2.2.2.1.trans hr) (fun t ht hW => ⟨_, L, F, rfl, hp, by rw [ht]; exact hP, hD, hS.F ht⟩) hS.2.2 d hx.2.2.2.2.2.2.2.1
theorem z_dret (hZ : ZZ = Zj l y cc nL ret R L0 post xp) (hr : ret = some .double) {z : UInt64} (hk : k ≤ R.cells) (hn : n ≤ R.slots) (d : decode cc pc = .ok (.dreturn, 1)) (hp : post (some (.double z)) L F) : ZZ k n pc lv [.double z] L F := by
  subst hZ
  intro p e s m args below meth c D κ hx H locs ls hP hD hS hl
  refine W.widen hk hn (vx_ret ?_)
  exact W.dret hx.1 hx.2.1 (hx.2.2.2.2.2.2.1.trans hr) (fun t ht hW => ⟨_, L, F, rfl, hp, by rw [ht]; exact hP, hD, hS.F ht⟩) hS.2.2 d hx.2.2.2.2.2.2.2.1
theorem z_vret (hZ : ZZ = Zj l y cc nL ret R L0 post xp) (hr : ret = none) (hk : k ≤ R.cells) (hn : n ≤ R.slots) (d : decode cc pc = .ok (.return_, 1)) (hp : post none L F) : ZZ k n pc lv [] L F := by
  subst hZ
  intro p e s m args below meth c D κ hx H locs ls hP hD hS hl
  refine W.widen hk hn (vx_ret ?_)
  exact W.vret hx.1 hx.2.1 (hx.2.2.2.2.2.2.1.trans hr) (fun t ht hW => ⟨_, L, F, rfl, hp, by rw [ht]; exact hP, hD, hS.F ht⟩) hS.2.2 d hx.2.2.2.2.2.2.2.1
theorem z_aret (hZ : ZZ = Zj l y cc nL ret R L0 post xp) {C : String} (hr : ret = some (.object C)) {a : Nat} (hk : k ≤ R.cells) (hn : n ≤ R.slots) (d : decode cc pc = .ok (.areturn, 1)) (hp : post (some (.ref a)) L F) : ZZ k n pc lv [.ref a] L F := by
  subst hZ
  intro p e s m args below meth c D κ hx H locs ls hP hD hS hl
  refine W.widen hk hn (vx_ret ?_)
  exact W.aret hx.1 hx.2.1 (hx.2.2.2.2.2.2.1.trans hr) (Or.inl ⟨C, rfl⟩) (Or.inr ⟨a, rfl⟩) (fun t ht hW => ⟨_, L, F, rfl, hp, by rw [ht]; exact hP, hD, hS.F ht⟩) hS.2.2 d hx.2.2.2.2.2.2.2.1
/-- calls: the core -/
def wyB (y : MethodName) (n : Nat) : Prop := Cond.initialized y.cls ∈ wsG ∧ (y.cls ≠ "java/lang/invoke/MethodHandle" ∧ y.cls ≠ "java/lang/invoke/VarHandle") ∧ (parseMethodDescriptor y.desc).map (fun d => d.parameters.length) = some n
def wyV (y : MethodName) (n : Nat) : Prop := wyB y n ∧ Cond.instanceMethod y ∈ wsG ∧ Cond.selects y.cls y y ∈ wsG
def wyS (y : MethodName) (n : Nat) : Prop := wyB y n ∧ Cond.static y ∈ wsG
def wyI (y : MethodName) (n : Nat) : Prop := wyB y n ∧ y.name = "<init>" ∧ Cond.instanceMethod y ∈ wsG
theorem wsG_GI {w : Cond} (h : w ∈ wsG) : GoodIn wsG (w :: wsG) := by
  intro z hz
  rcases List.mem_cons.mp hz with rfl | hz
  · exact ⟨h, good_of_word (List.mem_filter.mp h).2⟩
  · exact ⟨hz, good_of_word (List.mem_filter.mp hz).2⟩
theorem z_callB {s : State} {args : Array Value} {own : String} {idx n1 nL1 : Nat} {y1 : MethodName} {cc1 : ByteArray} {ret1 : Option FieldType} {R R1 : Room} (hts : ∀ w ∈ wsG, w.before args s = true) (hc : Cond.code y1 cc1 nL1 ret1 ∈ wsG) (hw : wyB y1 n1) (hl : Cond.methodLink own idx y1 ∈ wsG) (hR : R1.frames + 1 ≤ R.frames ∧ 8 + (nL1 + 11) + R1.locals ≤ R.locals) :
    CallB R s args own idx y1 cc1 nL1 ret1 (Cond.code y1 cc1 nL1 ret1 :: wsG) R1 R1.cells R1.slots n1 := by
  refine ⟨rfl, rfl, hR.1, hR.2, pay_in hts (wsG_GI hc), List.mem_cons_self, hts _ hc, hts _ hw.1, hw.2.1, fun sig h => ?_, hts _ hl⟩
  have h2 := hw.2.2
  rw [h] at h2
  exact (Option.some.inj h2).symm
/-- behind a call -/
theorem z_back {p : Program} {e : Env} {s : State} {m : MethodId} {args : Array Value} {below : List Frame} {meth : Method} {c : Code} {D : va_G} {κ : Nat → ClassId} {H : Heap} {locs : List Loc} {ls : Array Slot} {R1 : Room} {a : Array Value} {rest st0 : List Value}
    {post1 : Option Value → List Nat → (Nat → PE) → Prop} {xp1 : String → List Nat → (Nat → PE) → Prop}
    (hx : Zfx l y cc nL ret L0 p s m args meth c D κ) (hS : va_S (pA L0 s.heap.size) s.heap H locs) (hD : va_D (pA L0 s.heap.size) (pw κ L F)) (hl : lh ls nL lv)
    (hr : vx_Run p l e R s m args below meth c H locs k n R1.cells R1.slots (F0 m pc ls st0) rest (pQ D κ (pA L H.size) post1 a) (pX D κ (pA L H.size) xp1) (pA L H.size))
    (kx : ∀ (E : String) (L' : List Nat) (F' : Nat → PE), xp1 E L' F' → xp E L' F' ∧ k + R1.cells ≤ R.cells ∧ n + R1.slots ≤ R.slots)
    (kk : ∀ (v : Option Value) (L' : List Nat) (F' : Nat → PE), post1 v L' F' → Zj l y cc nL ret R L0 post xp (k + R1.cells) (n + R1.slots) (pc + 3) lv (v.toList ++ rest) L' F') :
    W p l e R s m args below meth c H locs k n (vx_MQ below (pQ D κ (pA L0 s.heap.size) post) (pX D κ (pA L0 s.heap.size) xp) args s R.cells R.slots (pA L0 s.heap.size)) (F0 m pc ls st0) := by
  have hAA : ∀ q, pA L H.size q → pA L0 s.heap.size q := fun q h => h.elim (fun h => pw_in hD q h) (fun h => Or.inr (Nat.le_trans hS.1 h))
  intro T hT X
  rcases hr T hT X with ⟨v, st₀, t, T', Ls, h0, X', hL, e1, e2, ⟨v2, L', F', hv, hp, hP1, hD1, hF⟩, st⟩ | ⟨q, st₀, t, T', Ls, E, ce, h0, X', hL, e1, e2, ⟨L', F', hp, hP1, hD1, hF⟩, hce, hcv, hcl, st⟩
  · cases hv
    obtain ⟨k1, k2, k3⟩ := vx_keep h0 e1 hS (fun q _ h => hAA q h) hAA hL hF
    obtain ⟨t2, a1, b1⟩ := kk v L' F' hp p e s m args below meth c D κ hx T'.heap (locs ++ Ls) ls (by rw [e1]; exact hP1) ⟨hD1.1, fun k q hk => hAA _ (hD1.2 k q hk)⟩ k3 hl T' rfl X'
    exact ⟨t2, st t2 a1, b1⟩
  · obtain ⟨k1, k2, k3⟩ := vx_keep h0 e1 hS (fun q _ h => hAA q h) hAA hL hF
    obtain ⟨g1, g2, g3⟩ := kx E L' F' hp
    obtain ⟨t2, a1, b1⟩ := vx_out (Qc := pQ D κ (pA L0 s.heap.size) post) (XC := pX D κ (pA L0 s.heap.size) xp) (free := pA L0 s.heap.size) (pc := pc) (rest := rest) (ls := ls) (fun x hx9 => (hx.2.2.2.2.2.2.2.2.1 x hx9).elim) hx.2.2.2.2.2.2.2.1 (by rw [e1]; exact hce) hcv hcl
      (fun t3 ht3 hal => ⟨L', F', g1, by rw [ht3, e1]; exact hP1, ⟨hD1.1, fun k q hk => hAA _ (hD1.2 k q hk)⟩, k3.F ht3⟩) k3.2.2 g2 g3 T' rfl X'
    exact ⟨t2, st.trans a1, b1⟩
theorem z_pc {s U : State} {D : va_G} {κ : Nat → ClassId} {H : Heap} {locs : List Loc} (hK : pK D κ (pA L0 s.heap.size) s s.heap) (hS : va_S (pA L0 s.heap.size) s.heap H locs) (hP : va_P D vwCl (pw κ L F) H) (hD : va_D (pA L0 s.heap.size) (pw κ L F)) (hU : U.heap = H) (hW : s.WarmedH U.vm) :
    U.heap.size = H.size ∧ va_P D vwCl (pw κ L F) U.heap ∧ va_D (fun _ => True) (pw κ L F) ∧ pK D κ (pA L H.size) U U.heap := by
  have hAA : ∀ q, pA L H.size q → pA L0 s.heap.size q := fun q h => h.elim (fun h => pw_in hD q h) (fun h => Or.inr (Nat.le_trans hS.1 h))
  refine ⟨by rw [hU], by rw [hU]; exact hP, pw_A hD (fun _ _ => trivial), ?_⟩
  rw [hU]
  exact ((hK.kept hS.2.1).narrow hAA).warm hW
theorem z_blind {D : va_G} {κ : Nat → ClassId} {av : List Value} {sz : Nat} : FrameBlind (va_Pc av (fun U => U.heap.size = sz ∧ va_P D vwCl (pw κ L F) U.heap ∧ va_D (fun _ => True) (pw κ L F) ∧ pK D κ (pA L sz) U U.heap)) := fun a U g mk q => ⟨q.1, q.2.1, q.2.2.1, q.2.2.2.1, q.2.2.2.2.calling⟩
theorem z_cV (hZ : ZZ = Zj l y cc nL ret R L0 post xp) {y1 : MethodName} {cc1 : ByteArray} {nL1 idx b ci : Nat} {ret1 : Option FieldType} {R1 : Room} {As rest st0 : List Value} {fs : List Value} {T1 : u_T} {N1 : Nat} {post1 : Option Value → List Nat → (Nat → PE) → Prop} {xp1 : String → List Nat → (Nat → PE) → Prop}
    (hst : st0 = As.reverse ++ .ref b :: rest) (d : decode cc pc = .ok (.invokevirtual idx, 3)) (hl : Cond.methodLink y.cls idx y1 ∈ wsG) (hw : wyV y1 As.length) (hM : PM l y1 cc1 nL1 ret1 R1 L (.ref b :: As) F post1 xp1)
    (hb : b ∈ L) (hF : F b = eO ci fs) (hci : vwCl[ci]? = some (y1.cls, T1, N1)) (hR : R1.frames + 1 ≤ R.frames ∧ 8 + (nL1 + 11) + R1.locals ≤ R.locals) (hRc : k + R1.cells ≤ R.cells ∧ n + R1.slots ≤ R.slots) (hrest : (rest.map fun v => v.category).sum ≤ 8)
    (kx : ∀ (E : String) (L' : List Nat) (F' : Nat → PE), xp1 E L' F' → xp E L' F')
    (kk : ∀ (v : Option Value) (L' : List Nat) (F' : Nat → PE), post1 v L' F' → ZZ (k + R1.cells) (n + R1.slots) (pc + 3) lv (v.toList ++ rest) L' F') : ZZ k n pc lv st0 L F := by
  subst hZ
  intro p e s m args below meth c D κ hx H locs ls hP hD hS hl
  subst hst
  obtain ⟨q0, hq0⟩ := pw_get (κ := κ) hb hF
  refine z_back (R1 := R1) hx hS hD hl (vx_runV (As := As) (b := b) (C := y1.cls) ⟨hx.1, hx.2.1, hx.2.2.1, hx.2.2.2.1, hx.2.2.2.2.1⟩ (hM.2 D κ H.size) ⟨z_callB hx.2.2.2.2.1 hM.1 hw.1 ‹_› hR, hx.2.2.2.2.1 _ hw.2.1, hx.2.2.2.2.1 _ hw.2.2⟩
    ⟨z_blind, va_recv hx.2.2.2.2.2.1.1 hP hci hq0, fun U hU hW => ⟨rfl, z_pc hx.2.2.2.2.2.1 hS hP hD hU hW⟩⟩ rfl rfl hl.1 rfl (lv_room hrest) d hRc) (fun E L' F' h => ⟨kx E L' F' h, hRc⟩) kk
theorem z_cS (hZ : ZZ = Zj l y cc nL ret R L0 post xp) {y1 : MethodName} {cc1 : ByteArray} {nL1 idx : Nat} {ret1 : Option FieldType} {R1 : Room} {As rest st0 : List Value} {post1 : Option Value → List Nat → (Nat → PE) → Prop} {xp1 : String → List Nat → (Nat → PE) → Prop}
    (hst : st0 = As.reverse ++ rest) (d : decode cc pc = .ok (.invokestatic idx, 3)) (hl : Cond.methodLink y.cls idx y1 ∈ wsG) (hw : wyS y1 As.length) (hM : PM l y1 cc1 nL1 ret1 R1 L As F post1 xp1)
    (hR : R1.frames + 1 ≤ R.frames ∧ 8 + (nL1 + 11) + R1.locals ≤ R.locals) (hRc : k + R1.cells ≤ R.cells ∧ n + R1.slots ≤ R.slots) (hrest : (rest.map fun v => v.category).sum ≤ 8)
    (kx : ∀ (E : String) (L' : List Nat) (F' : Nat → PE), xp1 E L' F' → xp E L' F')
    (kk : ∀ (v : Option Value) (L' : List Nat) (F' : Nat → PE), post1 v L' F' → ZZ (k + R1.cells) (n + R1.slots) (pc + 3) lv (v.toList ++ rest) L' F') : ZZ k n pc lv st0 L F := by
  subst hZ
  intro p e s m args below meth c D κ hx H locs ls hP hD hS hl
  subst hst
  refine z_back (R1 := R1) hx hS hD hl (vx_runS (As := As) ⟨hx.1, hx.2.1, hx.2.2.1, hx.2.2.2.1, hx.2.2.2.2.1⟩ (hM.2 D κ H.size) ⟨z_callB hx.2.2.2.2.1 hM.1 hw.1 ‹_› hR, hx.2.2.2.2.1 _ hw.2⟩
    ⟨z_blind, fun U hU hW => ⟨rfl, z_pc hx.2.2.2.2.2.1 hS hP hD hU hW⟩⟩ rfl rfl hl.1 rfl (lv_room hrest) d hRc) (fun E L' F' h => ⟨kx E L' F' h, hRc⟩) kk
end ZC
