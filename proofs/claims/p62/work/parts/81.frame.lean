/-! THE FRAME RULE: a contract over a larger pool. -/
theorem pw_at {κ : Nat → ClassId} {L : List Nat} {F : Nat → PE} {k : Nat} {q : Nat × va_E} (h : (pw κ L F)[k]? = some q) : ∃ a, L[k]? = some a ∧ q = (a, pT κ (F a)) := by
  have h2 : (L.map (fun a => (a, pT κ (F a))))[k]? = some q := h
  rw [List.getElem?_map] at h2
  rcases hq : L[k]? with _ | a
  · rw [hq] at h2; cases h2
  · rw [hq] at h2; cases h2; exact ⟨a, rfl, rfl⟩
theorem pw_mk {κ : Nat → ClassId} {L : List Nat} {F : Nat → PE} {k a : Nat} (h : L[k]? = some a) : (pw κ L F)[k]? = some (a, pT κ (F a)) := by
  show (L.map (fun a => (a, pT κ (F a))))[k]? = _
  rw [List.getElem?_map, h]
  rfl
theorem pw_nd {κ : Nat → ClassId} {L : List Nat} {F : Nat → PE} {A : Nat → Prop} (h : va_D A (pw κ L F)) {i j a : Nat} (hi : L[i]? = some a) (hj : L[j]? = some a) : i = j := h.1 i j _ _ (pw_mk hi) (pw_mk hj) rfl
theorem pw_subP {κ : Nat → ClassId} {D : va_G} {L M : List Nat} {F : Nat → PE} {H : Heap} (h : va_P D vwCl (pw κ (L ++ M) F) H) : va_P D vwCl (pw κ L F) H := by
  intro k q hk
  obtain ⟨a, ha, rfl⟩ := pw_at hk
  exact h k _ (pw_mk (by rw [List.getElem?_append_left (List.getElem?_eq_some_iff.mp ha).1]; exact ha))
theorem pw_subD {κ : Nat → ClassId} {A : Nat → Prop} {L M : List Nat} {F : Nat → PE} (h : va_D A (pw κ (L ++ M) F)) : va_D A (pw κ L F) := by
  have up : ∀ (k : Nat) (q : Nat × va_E), (pw κ L F)[k]? = some q → (pw κ (L ++ M) F)[k]? = some q := by
    intro k q hk
    obtain ⟨a, ha, rfl⟩ := pw_at hk
    exact pw_mk (by rw [List.getElem?_append_left (List.getElem?_eq_some_iff.mp ha).1]; exact ha)
  exact ⟨fun i j p q hi hj e => h.1 i j p q (up _ _ hi) (up _ _ hj) e, fun k q hk => h.2 k q (up _ _ hk)⟩
theorem fr_join {κ : Nat → ClassId} {D : va_G} {L M L2 : List Nat} {F F2 : Nat → PE} {H H1 : Heap} {sz : Nat} (hsz : H.size = sz) (hP' : va_P D vwCl (pw κ (L ++ M) F) H) (hD' : va_D (fun _ => True) (pw κ (L ++ M) F)) (hP : va_P D vwCl (pw κ L2 F2) H1) (hD : va_D (pA L sz) (pw κ L2 F2)) (hF : ∀ q : Nat, q < sz → ¬ pA L sz q → H1[q]? = H[q]?) :
    ∃ F1 : Nat → PE, (∀ b, b ∈ L2 → F1 b = F2 b) ∧ (∀ b, b ∈ M → F1 b = F b) ∧ va_P D vwCl (pw κ (L2 ++ M) F1) H1 ∧ va_D (pA (L ++ M) sz) (pw κ (L2 ++ M) F1) := by
  have hM : ∀ b, b ∈ M → b < sz ∧ b ∉ L := by
    intro b hb
    obtain ⟨j, hj⟩ := List.getElem?_of_mem hb
    have hj2 : (L ++ M)[L.length + j]? = some b := by rw [List.getElem?_append_right (by omega), Nat.add_sub_cancel_left]; exact hj
    refine ⟨?_, fun hl => ?_⟩
    · have z := (hP' _ _ (pw_mk hj2)).lt
      rw [hsz] at z
      exact z
    · obtain ⟨i, hi⟩ := List.getElem?_of_mem hl
      have hl2 := (List.getElem?_eq_some_iff.mp hi).1
      have hi2 : (L ++ M)[i]? = some b := by rw [List.getElem?_append_left hl2]; exact hi
      have := pw_nd hD' hi2 hj2
      omega
  have hX : ∀ b, b ∈ L2 → b ∉ M := by
    intro b hb hm
    have z := pw_in hD b hb
    have y := hM b hm
    rcases z with z | z
    · exact y.2 z
    · omega
  refine ⟨fun b => if b ∈ M then F b else F2 b, fun b hb => if_neg (hX b hb), fun b hb => if_pos hb, ?_, ?_⟩
  · intro k q hk
    obtain ⟨b, hb, rfl⟩ := pw_at hk
    by_cases c : k < L2.length
    · rw [List.getElem?_append_left c] at hb
      rw [if_neg (hX b (List.mem_of_getElem? hb))]
      exact hP k _ (pw_mk hb)
    · rw [List.getElem?_append_right (by omega)] at hb
      have hm := List.mem_of_getElem? hb
      rw [if_pos hm]
      have hj2 : (L ++ M)[L.length + (k - L2.length)]? = some b := by rw [List.getElem?_append_right (by omega), Nat.add_sub_cancel_left]; exact hb
      have y := hM b hm
      exact (hP' _ _ (pw_mk hj2)).kept (hF b y.1 (fun z => by rcases z with z | z; exact y.2 z; omega))
  · refine ⟨fun i j p q hi hj e => ?_, fun k q hk => ?_⟩
    · obtain ⟨b, hb, rfl⟩ := pw_at hi
      obtain ⟨b2, hb2, rfl⟩ := pw_at hj
      have e : b = b2 := e
      subst e
      by_cases c : i < L2.length
      · rw [List.getElem?_append_left c] at hb
        by_cases c2 : j < L2.length
        · rw [List.getElem?_append_left c2] at hb2
          exact pw_nd hD hb hb2
        · rw [List.getElem?_append_right (by omega)] at hb2
          exact absurd (List.mem_of_getElem? hb2) (hX b (List.mem_of_getElem? hb))
      · rw [List.getElem?_append_right (by omega)] at hb
        by_cases c2 : j < L2.length
        · rw [List.getElem?_append_left c2] at hb2
          exact absurd (List.mem_of_getElem? hb) (hX b (List.mem_of_getElem? hb2))
        · rw [List.getElem?_append_right (by omega)] at hb2
          have e1 : (L ++ M)[L.length + (i - L2.length)]? = some b := by rw [List.getElem?_append_right (by omega), Nat.add_sub_cancel_left]; exact hb
          have e2 : (L ++ M)[L.length + (j - L2.length)]? = some b := by rw [List.getElem?_append_right (by omega), Nat.add_sub_cancel_left]; exact hb2
          have := pw_nd hD' e1 e2
          omega
    · obtain ⟨b, hb, rfl⟩ := pw_at hk
      rcases List.mem_append.mp (List.mem_of_getElem? hb) with z | z
      · rcases pw_in hD b z with y | y
        · exact Or.inl (List.mem_append_left _ y)
        · exact Or.inr y
      · exact Or.inl (List.mem_append_right _ z)
/-- a contract, where cells M stand beside its own -/
theorem pm_fr {l : Launch} {y : MethodName} {cc : ByteArray} {nL : Nat} {ret : Option FieldType} {R : Room} {L : List Nat} {av : List Value} {F : Nat → PE} {post : Option Value → List Nat → (Nat → PE) → Prop} {xp : String → List Nat → (Nat → PE) → Prop} (M : List Nat) (h : PM l y cc nL ret R L av F post xp) :
    PM l y cc nL ret R (L ++ M) av F (fun v L1 F1 => ∃ L2 F2, post v L2 F2 ∧ L1 = L2 ++ M ∧ (∀ b, b ∈ L2 → F1 b = F2 b) ∧ ∀ b, b ∈ M → F1 b = F b) (fun E L1 F1 => ∃ L2 F2, xp E L2 F2 ∧ L1 = L2 ++ M ∧ (∀ b, b ∈ L2 → F1 b = F2 b) ∧ ∀ b, b ∈ M → F1 b = F b) := by
  have up : ∀ sz q, pA L sz q → pA (L ++ M) sz q := fun sz q z => by
    rcases z with z | z
    · exact Or.inl (List.mem_append_left _ z)
    · exact Or.inr z
  refine ⟨h.1, fun D κ sz => ?_⟩
  refine MetFree.mono (h.2 D κ sz) ?_ (fun _ _ _ _ _ z => z) ?_
  · rintro a s ⟨ha, hsz, hP, hD, hK⟩
    exact ⟨ha, hsz, pw_subP hP, pw_subD hD, hK.narrow (up sz)⟩
  · rintro a s o t ⟨ha, hsz, hP, hD, hK⟩ hq
    rcases hq with ⟨⟨v, L2, F2, ho, hp, hP2, hD2, hF⟩, Ls, fe, hL⟩ | ⟨q, ho, E, ce, Ls, ⟨L2, F2, hp, hP2, hD2, hF⟩, h1, h2, h3, h4, h5, h6⟩
    · obtain ⟨F1, e1, e2, g1, g2⟩ := fr_join hsz hP hD hP2 hD2 (fun q hq hn => hF.2 q (by rw [hsz]; exact hq) hn)
      exact Or.inl ⟨⟨v, L2 ++ M, F1, ho, ⟨L2, F2, hp, rfl, e1, e2⟩, g1, g2, hF.1, fun q hq hn => hF.2 q hq (fun z => hn (up sz q z))⟩, Ls, fe, fun q hq => up sz _ (hL q hq)⟩
    · obtain ⟨F1, e1, e2, g1, g2⟩ := fr_join hsz hP hD hP2 hD2 (fun q hq hn => hF.2 q (by rw [hsz]; exact hq) hn)
      exact Or.inr ⟨q, ho, E, ce, Ls, ⟨L2 ++ M, F1, ⟨L2, F2, hp, rfl, e1, e2⟩, g1, g2, hF.1, fun q hq hn => hF.2 q hq (fun z => hn (up sz q z))⟩, h1, h2, h3, h4, h5, fun z hz => up sz _ (h6 z hz)⟩

