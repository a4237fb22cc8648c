/-! THE LAYER: the world is a map from addresses to contents over Int (no places in lists, no cutting and joining); a method's walk is a walk of ZZ, which hides the machine. -/
def iI (z : Int) : Int32 := Int32.ofInt z
def lL (z : Int) : Int64 := Int64.ofInt z
theorem iI_add (a b : Int) : iI a + iI b = iI (a + b) := (Int32.ofInt_add a b).symm
theorem iI_sub (a b : Int) : iI a - iI b = iI (a - b) := (Int32.ofInt_sub a b).symm
theorem iI_mul (a b : Int) : iI a * iI b = iI (a * b) := (Int32.ofInt_mul a b).symm
theorem iI_neg (a : Int) : -iI a = iI (-a) := (Int32.ofInt_neg a).symm
theorem iI_nI (n : Nat) : nI n = iI (n : Int) := by
  apply Int32.toInt_inj.mp
  rw [iI, Int32.toInt_ofInt, nI, Int32.toInt_ofNat']
def okI (z : Int) : Prop := -2147483648 ≤ z ∧ z ≤ 2147483647
theorem iI_toInt {z : Int} (h : okI z) : (iI z).toInt = z := by
  rw [iI, Int32.toInt_ofInt]
  have e : (Int32.size : Int) = 4294967296 := rfl
  have h1 := h.1
  have h2 := h.2
  apply Int.bmod_eq_of_le <;> omega
theorem iI_eq {a b : Int} (ha : okI a) (hb : okI b) : iI a = iI b ↔ a = b := by
  rw [← Int32.toInt_inj, iI_toInt ha, iI_toInt hb]
theorem iI_lt {a b : Int} (ha : okI a) (hb : okI b) : iI a < iI b ↔ a < b := by
  rw [Int32.lt_iff_toInt_lt, iI_toInt ha, iI_toInt hb]
theorem iI_le {a b : Int} (ha : okI a) (hb : okI b) : iI a ≤ iI b ↔ a ≤ b := by
  rw [Int32.le_iff_toInt_le, iI_toInt ha, iI_toInt hb]
theorem iI_of (x : Int32) : ∃ z : Int, okI z ∧ x = iI z := ⟨x.toInt, ⟨by have := Int32.minValue_le_toInt x; exact this, by have := Int32.toInt_le x; exact this⟩, by
  apply Int32.toInt_inj.mp
  rw [iI, Int32.ofInt_toInt]⟩
theorem iI_clamp {z : Int} (h : okI z) (h0 : 0 ≤ z) : (((iI z).toNatClampNeg : Nat) : Int) = z := by
  rw [Int32.toNatClampNeg, iI_toInt h]
  omega
theorem iI_in {z : Int} {N : Nat} (h : okI z) (h0 : 0 ≤ z) (h1 : z < N) : vp_in (iI z) N := vp_in_iff.mpr (by rw [iI_toInt h]; exact ⟨h0, h1⟩)
/-- contents: arrays of ints (booleans, chars), of longs, of references; objects -/
abbrev PE : Type := (Nat × Nat × (Int → Int)) ⊕ (Nat × (Int → Int)) ⊕ (Nat × Nat × (Int → Option Nat)) ⊕ (Nat × List Value)
abbrev eI (t N : Nat) (g : Int → Int) : PE := .inl (t, N, g)
abbrev eL (N : Nat) (g : Int → Int) : PE := .inr (.inl (N, g))
abbrev eQ (t N : Nat) (r : Int → Option Nat) : PE := .inr (.inr (.inl (t, N, r)))
abbrev eO (ci : Nat) (fs : List Value) : PE := .inr (.inr (.inr (ci, fs)))
def pT (κ : Nat → ClassId) : PE → va_E
  | .inl (t, N, g) => .inl (κ t, N, .inl (fun j => iI (g (j : Int))))
  | .inr (.inl (N, g)) => .inl (κ 5, N, .inr (.inl (fun j => lL (g (j : Int)))))
  | .inr (.inr (.inl (t, N, r))) => .inl (κ t, N, .inr (.inr (.inr (.inr (fun j => r (j : Int))))))
  | .inr (.inr (.inr (ci, fs))) => .inr (ci, fs)
def tysK (κ : Nat → ClassId) : List (ClassId × FieldType) := [(κ 0, .int), (κ 1, .boolean), (κ 2, .byte), (κ 3, .object "DragonRing$State"), (κ 4, .object "DragonRing$Text"), (κ 5, .byte)]
def pw (κ : Nat → ClassId) (L : List Nat) (F : Nat → PE) : va_W := va_pl L (fun a => pT κ (F a))
def pA (L : List Nat) (sz : Nat) : Nat → Prop := fun q => q ∈ L ∨ sz ≤ q
def wu {α : Type} (f : Int → α) (k : Int) (v : α) : Int → α := fun j => if j = k then v else f j
theorem pw_get {κ : Nat → ClassId} {L : List Nat} {F : Nat → PE} {a : Nat} {e : PE} (h : a ∈ L) (hF : F a = e) : ∃ k : Nat, (pw κ L F)[k]? = some (a, pT κ e) := by
  subst hF
  exact va_pl_get (X := []) h
theorem pw_set {κ : Nat → ClassId} {L : List Nat} {F : Nat → PE} {A : Nat → Prop} {a k : Nat} {e0 e : PE} (hD : va_D A (pw κ L F)) (h : a ∈ L) (hF : F a = e0) (hk : (pw κ L F)[k]? = some (a, pT κ e0)) : (pw κ L F).set k (a, pT κ e) = pw κ L (va_up F a e) := by
  subst hF
  refine (va_pl_set (X := []) (e := pT κ e) hD h hk).trans ?_
  refine va_pl_congr fun b => ?_
  unfold va_up
  split <;> rfl
/-- the texts of the exceptions, by their places in the class file -/
def strs : List (Nat × String) := [(135, "the times are out of range"), (140, "the caves are out of range"), (150, "the buffer is full"), (171, "the buffer does not tell deeds as a text"), (183, "the slot is out of range"), (185, "there is no snapshot in the slot"), (194, "there is no saved state"), (307, "that is not possible now"), (311, "there is no such place"), (42, "the code is out of range"), (80, "the place is out of range"), (97, "the lines are out of range, or 0")]
/-- the letters of deeds, as the bytes of the text -/
def ltrB : List Int32 := [102, 98, 70, 66, 97, 101, 109, 120, 119, 87, 107, 114, 99, 121, 112, 116, 117, 115, 103, 110, 95]
def pS (A : Nat → Prop) (U : State) (H : Heap) : Prop := (∃ adK adV : Nat → Nat, vk_S 1 [21] [ltrB] adK adV A U H ∧ vk_R "DragonRing" 314 "fbFBaemxwWkrcyptusgn_" (adK 0) U) ∧ va_Z "java/lang/String" "COMPACT_STRINGS" "Z" (.int 1) A U H
/-- links to private constructors of nest mates -/
def nstW : List (String × Nat × MethodName × String) := [(RX7, 9, yX5_init, RX7), (RX5, 11, yX4_init, RX7), (RX5, 27, yX0_init, RX7), (RX2, 17, yX5_init, RX7)]
/-- the words of a throw that the good ones don't hold -/
def xtS : List Cond := vx_atS RX7 152 "java/lang/IllegalStateException" ["java/lang/RuntimeException", "java/lang/Exception"]
def xtA : List Cond := vx_atS RX7 44 "java/lang/IllegalArgumentException" ["java/lang/RuntimeException", "java/lang/Exception"]
def xtB : List Cond := vx_atS RX7 313 "java/lang/IndexOutOfBoundsException" ["java/lang/RuntimeException", "java/lang/Exception"]
def xtL : List Cond := (xtS ++ (xtA ++ xtB)).filter (fun w => !goodWord w)
def isCD (w : Cond) : Bool := match w with | .castable .. => true | .declares .. => true | _ => false
theorem xtL_cd : ∀ w ∈ xtL, isCD w = true := by decide +kernel
theorem isCD_on {w : Cond} (h : isCD w = true) : w.onTables = true := by
  cases w <;> first | rfl | cases h
theorem isCD_warm {w : Cond} (h : isCD w = true) {s U : State} (hW : s.WarmedH U.vm) (hZ : va_Nw w s) : va_Nw w U := by
  cases w <;> first | exact va_Nw.warmC hW hZ | exact va_Nw.warmD hW hZ | cases h
def pN (U : State) : Prop := (∀ q ∈ nstW, va_Nw (.methodLinkNest q.1 q.2.1 q.2.2.1 q.2.2.2) U) ∧ (va_AO RX5 U ∧ va_AO RX6 U) ∧ ∀ w ∈ xtL, va_Nw w U
theorem pN.warm {s U : State} (hW : s.WarmedH U.vm) (h : pN s) : pN U := ⟨fun q hq => (h.1 q hq).warmM hW, ⟨h.2.1.1.moved hW.alike, h.2.1.2.moved hW.alike⟩, fun w hw => isCD_warm (xtL_cd w hw) hW (h.2.2 w hw)⟩
theorem pN.same {u U : State} (hv : u.vm = U.vm) (h : pN u) : pN U := ⟨fun q hq => (h.1 q hq).same rfl hv, ⟨h.2.1.1.moved (hv ▸ Vm.Alike.refl _), h.2.1.2.moved (hv ▸ Vm.Alike.refl _)⟩, fun w hw => (h.2.2 w hw).same (isCD_on (xtL_cd w hw)) hv⟩
def pK (D : va_G) (κ : Nat → ClassId) (A : Nat → Prop) (U : State) (H : Heap) : Prop :=
  va_K D vwCl (tysK κ) U ∧ (∀ q ∈ strs, ∃ a, vk_R "DragonRing" q.1 q.2 a U) ∧ vx_Zq Bundle.tN "UNASSIGNED_STACK" Bundle.steD A U H ∧ vx_Zq Bundle.tN "SUPPRESSED_SENTINEL" Bundle.listD A U H ∧ pS A U H ∧ pN U
theorem pS.warm {A : Nat → Prop} {s U : State} {H : Heap} (hW : s.WarmedH U.vm) (h : pS A s H) : pS A U H := by
  obtain ⟨⟨adK, adV, h1, h2⟩, h3⟩ := h
  exact ⟨⟨adK, adV, h1.moved hW.alike, h2.warm hW⟩, h3.moved hW.alike⟩
theorem pS.kept {A : Nat → Prop} {U : State} {H H1 : Heap} (h : pS A U H) (hq : ∀ a : Nat, a < H.size → ¬ A a → H1[a]? = H[a]?) : pS A U H1 := by
  obtain ⟨⟨adK, adV, h1, h2⟩, h3⟩ := h
  exact ⟨⟨adK, adV, h1.kept hq, h2⟩, h3.kept hq⟩
theorem pS.narrow {A B : Nat → Prop} {U : State} {H : Heap} (h : pS A U H) (hAB : ∀ q, B q → A q) : pS B U H := by
  obtain ⟨⟨adK, adV, h1, h2⟩, h3⟩ := h
  exact ⟨⟨adK, adV, h1.narrow hAB, h2⟩, h3.narrow hAB⟩
theorem pK.warm {D : va_G} {κ : Nat → ClassId} {A : Nat → Prop} {s U : State} {H : Heap} (hW : s.WarmedH U.vm) (h : pK D κ A s H) : pK D κ A U H :=
  ⟨va_K.moved hW.alike h.1, fun q hq => (h.2.1 q hq).imp fun _ z => z.warm hW, h.2.2.1.moved hW.alike, h.2.2.2.1.moved hW.alike, h.2.2.2.2.1.warm hW, h.2.2.2.2.2.warm hW⟩
theorem pK.kept {D : va_G} {κ : Nat → ClassId} {A : Nat → Prop} {U : State} {H H1 : Heap} (h : pK D κ A U H) (hq : ∀ a : Nat, a < H.size → ¬ A a → H1[a]? = H[a]?) : pK D κ A U H1 :=
  ⟨h.1, h.2.1, h.2.2.1.kept hq, h.2.2.2.1.kept hq, h.2.2.2.2.1.kept hq, h.2.2.2.2.2⟩
theorem pK.narrow {D : va_G} {κ : Nat → ClassId} {A B : Nat → Prop} {U : State} {H : Heap} (h : pK D κ A U H) (hAB : ∀ q, B q → A q) : pK D κ B U H :=
  ⟨h.1, h.2.1, h.2.2.1.narrow hAB, h.2.2.2.1.narrow hAB, h.2.2.2.2.1.narrow hAB, h.2.2.2.2.2⟩
theorem pK.calling {D : va_G} {κ : Nat → ClassId} {A : Nat → Prop} {U : State} {H : Heap} {g : JFrame} {mk : MethodId} {a : Array Value} (h : pK D κ A U H) : pK D κ A (U.calling g mk a) H :=
  ⟨va_K.moved (u := U) (U := U.calling g mk a) (Vm.Alike.refl U.vm) h.1, fun q hq => (h.2.1 q hq).imp fun _ z => vk_R.same (u := U) rfl z, vx_Zq.moved (u := U) (Vm.Alike.refl U.vm) h.2.2.1, vx_Zq.moved (u := U) (Vm.Alike.refl U.vm) h.2.2.2.1, by
    obtain ⟨⟨adK, adV, h1, h2⟩, h3⟩ := h.2.2.2.2.1
    exact ⟨⟨adK, adV, vk_S.moved (u := U) (Vm.Alike.refl U.vm) h1, vk_R.same (u := U) rfl h2⟩, va_Z.moved (u := U) (Vm.Alike.refl U.vm) h3⟩, pN.same (u := U) rfl h.2.2.2.2.2⟩
/-- the words that any method may need -/
def wsG : List Cond := lw_tbl.filter goodWord
theorem wg {w : Cond} (h : w ∈ lw_tbl) (hg : goodWord w = true) : w ∈ wsG := List.mem_filter.mpr ⟨h, hg⟩
theorem goodG {w : Cond} (h : w ∈ wsG) (x : Cond) : GoodIn (x :: wsG) (w :: wsG) := by
  intro z hz
  rcases List.mem_cons.mp hz with rfl | hz
  · exact ⟨List.mem_cons_of_mem _ h, good_of_word (List.mem_filter.mp h).2⟩
  · exact ⟨List.mem_cons_of_mem _ hz, good_of_word (List.mem_filter.mp hz).2⟩
theorem goodT {w : Cond} (h : w ∈ wsG) : GoodIn lw_tbl (w :: wsG) := by
  intro z hz
  rcases List.mem_cons.mp hz with rfl | hz
  · exact ⟨(List.mem_filter.mp h).1, good_of_word (List.mem_filter.mp h).2⟩
  · exact ⟨(List.mem_filter.mp hz).1, good_of_word (List.mem_filter.mp hz).2⟩
theorem tw1 (i : Nat) {w : Cond} (h : tables_1_1[i]? = some w) : w ∈ lw_tbl := List.mem_append_right _ (List.mem_append_left _ (List.mem_of_getElem? h))
theorem tw2 (i : Nat) {w : Cond} (h : tables_1_2[i]? = some w) : w ∈ lw_tbl := List.mem_append_right _ (List.mem_append_right _ (List.mem_append_left _ (List.mem_of_getElem? h)))
theorem tw3 (i : Nat) {w : Cond} (h : tables_1_3[i]? = some w) : w ∈ lw_tbl := List.mem_append_right _ (List.mem_append_right _ (List.mem_append_right _ (List.mem_append_left _ (List.mem_of_getElem? h))))
theorem tw4 (i : Nat) {w : Cond} (h : tables_1_4[i]? = some w) : w ∈ lw_tbl := List.mem_append_right _ (List.mem_append_right _ (List.mem_append_right _ (List.mem_append_right _ (List.mem_append_left _ (List.mem_of_getElem? h)))))
theorem tw5 (i : Nat) {w : Cond} (h : tables_1_5[i]? = some w) : w ∈ lw_tbl := List.mem_append_right _ (List.mem_append_right _ (List.mem_append_right _ (List.mem_append_right _ (List.mem_append_right _ (List.mem_of_getElem? h)))))
theorem tw0 {q : MethodName × Nat} {w : Cond} (h : q ∈ lw_privs) (hw : w = .selects q.1.cls q.1 q.1) : w ∈ lw_tbl := by
  subst hw
  exact List.mem_append_left _ (List.mem_map.mpr ⟨q, h, rfl⟩)
