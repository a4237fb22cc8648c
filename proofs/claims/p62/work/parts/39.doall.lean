/-! DOING THE BUFFER. -/
def pA1 (bf : Int → Int) (n a : Int) : Int := if a < n ∧ 50 ≤ bf a ∧ bf a ≤ 57 then a + 1 else a
def pTm (bf : Int → Int) (n a : Int) : Int := if a < n ∧ 50 ≤ bf a ∧ bf a ≤ 57 then bf a - 48 else 1
def pE (bf : Int → Int) (n a : Int) : Int := if bf (pA1 bf n a) = 39 then pA1 bf n a + 2 else pA1 bf n a + 1
def pSg (bf : Int → Int) (n a : Int) : Int := if bf (pA1 bf n a) = 39 then bf (pA1 bf n a + 1) else bf (pA1 bf n a)
def lix (c : Int) : Nat := (ltL ++ [39]).idxOf c
theorem lix_l {c : Int} (h : 0 ≤ c ∧ c ≤ 127) (hl : isLb c = true) : lix c < 21 ∧ dI (lix c) = c := by
  have z : ∀ k : Nat, k < 128 → isLb (k : Int) = true → lix (k : Int) < 21 ∧ dI (lix (k : Int)) = (k : Int) := by decide +kernel
  have z := z c.toNat (by omega)
  rw [Int.toNat_of_nonneg h.1] at z
  exact z hl
theorem lix_q : lix 39 = 21 := by decide +kernel
theorem isLb_nd {c : Int} (h : (50 ≤ c ∧ c ≤ 57) ∨ c = 39) : isLb c = false := by
  have z : ∀ k : Nat, k < 128 → ((50 ≤ k ∧ k ≤ 57) ∨ k = 39) → isLb (k : Int) = false := by decide +kernel
  have z := z c.toNat (by omega) (by omega)
  rwa [Int.toNat_of_nonneg (by omega)] at z
theorem dI_nd {d : Nat} (h : d < 22) : ¬ (50 ≤ dI d ∧ dI d ≤ 57) ∧ (dI d = 39 ↔ d = 21) := by
  have z : ∀ d : Nat, d < 22 → ¬ (50 ≤ dI d ∧ dI d ≤ 57) ∧ (dI d = 39 ↔ d = 21) := by decide +kernel
  exact z d h
theorem part_wf {bf : Int → Int} {n a : Int} (h0 : 0 ≤ a) (h1 : a < n) (hs : sgR bf a.toNat = 0) (hn : sgR bf n.toNat = 0) : pA1 bf n a < n ∧ a ≤ pA1 bf n a ∧ ((isLb (bf (pA1 bf n a)) = true ∧ bf (pA1 bf n a) ≠ 39 ∧ sgR bf (pA1 bf n a + 1).toNat = 0) ∨ (bf (pA1 bf n a) = 39 ∧ pA1 bf n a + 1 < n ∧ sgR bf (pA1 bf n a + 2).toNat = 0)) := by
  have good : ∀ k : Int, 0 ≤ k → k ≤ n → sgR bf k.toNat ≠ -1 := fun k k0 k1 e => by
    have := sgR_bad e (n.toNat - k.toNat)
    rw [show k.toNat + (n.toNat - k.toNat) = n.toNat by omega] at this
    omega
  have deed : ∀ b : Int, 0 ≤ b → b < n → (sgR bf b.toNat = 0 ∨ sgR bf b.toNat = 1) → (sgR bf b.toNat = 0 → ¬ (50 ≤ bf b ∧ bf b ≤ 57)) → (isLb (bf b) = true ∧ bf b ≠ 39 ∧ sgR bf (b + 1).toNat = 0) ∨ (bf b = 39 ∧ b + 1 < n ∧ sgR bf (b + 2).toNat = 0) := by
    intro b b0 b1 hb hd
    have g := good (b + 1) (by omega) (by omega)
    have e := sgR_s (bf := bf) b0
    rw [e] at g
    unfold sgB at g e
    rw [if_neg (by omega), if_neg (by omega)] at g e
    by_cases q : bf b = 39
    · rw [if_pos q] at e
      have lt : b + 1 < n := by
        by_cases c : b + 1 = n
        · rw [c] at e; omega
        · omega
      refine Or.inr ⟨q, lt, ?_⟩
      have e2 := sgR_s (bf := bf) (show 0 ≤ b + 1 by omega)
      rw [show b + 1 + 1 = b + 2 by omega, e] at e2
      rw [e2]
      unfold sgB
      rw [if_neg (by omega), if_pos rfl]
    · rw [if_neg q] at g e
      by_cases c : isLb (bf b) = true
      · rw [if_pos c] at e
        exact Or.inl ⟨c, q, e⟩
      · rw [if_neg c, if_neg (by omega)] at g
        exact absurd rfl g
  unfold pA1
  by_cases c : a < n ∧ 50 ≤ bf a ∧ bf a ≤ 57
  · rw [if_pos c]
    have e := sgR_s (bf := bf) h0
    rw [hs] at e
    unfold sgB at e
    rw [if_neg (by omega), if_neg (by omega), if_neg (by omega), if_neg (by rw [isLb_nd (Or.inl c.2)]; decide), if_pos ⟨rfl, c.2⟩] at e
    have lt : a + 1 < n := by
      by_cases c2 : a + 1 = n
      · rw [c2] at e; omega
      · omega
    exact ⟨lt, by omega, deed (a + 1) (by omega) lt (Or.inr e) (fun z => by omega)⟩
  · rw [if_neg c]
    exact ⟨h1, by omega, deed a h0 h1 (Or.inl hs) (fun _ => by omega)⟩
noncomputable def rpF (d : Nat) (x : Int) : Nat → (Int → Int) → Int → Option ((Int → Int) × Int)
  | 0, v, kd => some (v, kd)
  | t + 1, v, kd => @ite _ (dOk d kd v) (Classical.propDecidable _) (rpF d x t (dTo d x kd v) (dKn d)) none
theorem rpF_t {d : Nat} {x : Int} {t : Nat} {v : Int → Int} {kd : Int} (h : dOk d kd v) : rpF d x (t + 1) v kd = rpF d x t (dTo d x kd v) (dKn d) := @if_pos _ (Classical.propDecidable _) h _ _ _
theorem rpF_f {d : Nat} {x : Int} {t : Nat} {v : Int → Int} {kd : Int} (h : ¬ dOk d kd v) : rpF d x (t + 1) v kd = none := @if_neg _ (Classical.propDecidable _) h _ _ _
noncomputable def rnF (bf : Int → Int) (n : Int) : Nat → Int → (Int → Int) → Int → Int → Option ((Int → Int) × Int × Int)
  | 0, _, v, kd, c => some (v, kd, c)
  | m + 1, a, v, kd, c => if a < n then (rpF (lix (bf (pA1 bf n a))) (pSg bf n a) (pTm bf n a).toNat v kd).bind (fun w => rnF bf n m (pE bf n a) w.1 w.2 (c + pTm bf n a)) else some (v, kd, c)
theorem un_un {α : Type} {W : Nat → α} {k : Nat} {a b : α} : un (un W k a) k b = un W k b := funext fun j => by
  unfold un
  split <;> rfl
theorem un_id {α : Type} {W : Nat → α} {k : Nat} : un W k (W k) = W := funext fun j => by
  unfold un
  split
  · rename_i h; rw [h]
  · rfl
set_option maxRecDepth 100000 in
set_option maxHeartbeats 4000000 in
theorem m_X7_deedsDone (l : Launch) {L : List Nat} {F : Nat → PE} {K : Nat → Nat} {fi sv n : Int} {kp bf : Int → Int} {W : Nat → Int → Int} {D : Nat → Int} (hb : db L F K fi sv kp n bf W D) (hn0 : 0 < n) (hs : sgR bf n.toNat = 0) : PM l yX7_deedsDone cX7_deedsDone 6 (some .int) (rm 8 0 0) L [.ref (K 0)] F (fun v9 L1 F1 => L = L1 ∧ ((∃ v1 k1 c, rnF bf n n.toNat 0 (W 0) (D 0) 0 = some (v1, k1, c) ∧ v9 = some (.int (iI c)) ∧ 0 ≤ c ∧ c ≤ 1000 ∧ db L F1 K fi sv kp n bf (un W 0 v1) (un D 0 k1)) ∨ (rnF bf n n.toNat 0 (W 0) (D 0) 0 = none ∧ v9 = some (.int (iI (-1))) ∧ ∃ v1 k1, db L F1 K fi sv kp n bf (un W 0 v1) (un D 0 k1)))) (fun _ _ _ => False) := by
  refine pm_of cd_X7_deedsDone (by decide +kernel) (Nat.le_of_ble_eq_true rfl) (fun ZZ hZ => ?_)
  have hgo : ZZ 0 0 0 [some (.ref (K 0)), none, none, none, none, none] [] L F := by
    have ht0 := hb.2.2.2.2.2.2.1
    have hn := ht0.2.2.2.1
    have hcr := ht0.2.2.2.2
    have l0 := hb.1.1 0 (by omega)
    have l1 := hb.1.1 1 (by omega)
    have l255 := hb.1.1 255 (by omega)
    have inner : ∀ (d : Nat) (x t c i : Int), d < 22 → (10 ≤ x ∧ x ≤ 126) → (0 ≤ i ∧ i < n ∧ bf i = x) → (1 ≤ t ∧ t ≤ 9) → ∀ (r : Nat) (k : Int) (v : Int → Int) (kd : Int) (G : Nat → PE), (t - k).toNat = r → 0 ≤ k → k ≤ t → db L G K fi sv kp n bf (un W 0 v) (un D 0 kd) →
        (rpF d x r v kd = none → rnF bf n n.toNat 0 (W 0) (D 0) 0 = none) →
        (∀ (w : Int → Int) (k1 : Int) (G1 : Nat → PE), rpF d x r v kd = some (w, k1) → db L G1 K fi sv kp n bf (un W 0 w) (un D 0 k1) → ZZ 0 0 92 [some (.ref (K 0)), some (.int (iI c)), some (.int (iI t)), some (.int (iI i)), some (.int (iI (dI d))), some (.int (iI t))] [] L G1) →
        ZZ 0 0 57 [some (.ref (K 0)), some (.int (iI c)), some (.int (iI t)), some (.int (iI i)), some (.int (iI (dI d))), some (.int (iI k))] [] L G := by
      intro d x t c i hd hx hi htt r
      induction r with
      | zero =>
        intro k v kd G hr k0 k1 b hno hyes
        have e : k = t := by omega
        subst e
        refine z_iload5 hZ dX7_deedsDone_57 ?_
        refine z_iload_n2 hZ dX7_deedsDone_59 ?_
        refine z_icmp_ge hZ (tgt := 92) dX7_deedsDone_60 rfl (by omega) (fun hc60 => ?_) (fun hc60 => ?_)
        · exact hyes v kd G rfl b
        · exfalso; omega
      | succ r ih =>
        intro k v kd G hr k0 k1 b hno hyes
        have h0 := b.2.1
        have ht := b.2.2.2.2.2.2.1
        have h255 := ht.2.1
        have S : stP L G (sK K 0) v kd := b.2.2.2.2.2.2.2 0 (by omega)
        have o1 : G (K 1) = _ := S.ob
        refine z_iload5 hZ dX7_deedsDone_57 ?_
        refine z_iload_n2 hZ dX7_deedsDone_59 ?_
        refine z_icmp_ge hZ (tgt := 92) dX7_deedsDone_60 rfl (by omega) (fun hc60 => ?_) (fun hc60 => ?_)
        · exfalso; omega
        · have ar : (t - (k + 1)).toNat = r ∧ 0 ≤ k + 1 ∧ k + 1 ≤ t := by omega
          refine z_aload_n0 hZ dX7_deedsDone_63 ?_
          refine z_gf_X7_now hZ dX7_deedsDone_64 fl_X7_10 (by assumption) (by assumption) ?_
          refine z_iload4 hZ dX7_deedsDone_67 ?_
          refine z_aload_n0 hZ dX7_deedsDone_69 ?_
          refine z_gf_X7_buffer hZ dX7_deedsDone_70 fl_X7_36 (by assumption) (by assumption) ?_
          refine z_iload_n3 hZ dX7_deedsDone_73 ?_
          refine z_cV hZ (As := [_]) rfl dX7_deedsDone_74 ml_X7_160 wy_X6_code (m_X6_code l ht (by omega)) (by assumption) (by assumption) rfl ⟨Nat.le_of_ble_eq_true rfl, Nat.le_of_ble_eq_true rfl⟩ ⟨Nat.le_of_ble_eq_true rfl, Nat.le_of_ble_eq_true rfl⟩ (Nat.le_of_ble_eq_true rfl) (fun _ _ _ h => h.elim) (fun v74 L74 G74 hp74 => ?_)
          obtain ⟨rfl, rfl, rfl⟩ := hp74
          rw [cdA_in (f := bf) (show 0 ≤ i ∧ i < n from ⟨hi.1, hi.2.1⟩), hi.2.2]
          refine z_cV hZ (As := [_, _]) rfl dX7_deedsDone_77 ml_X7_325 wy_X5_doDeed (m_X5_doDeed l (sa := sK K 0) (b.ij (by omega)) (b.L (by omega)) S hd (by omega) (fun _ => by omega)) (by assumption) (by assumption) rfl ⟨Nat.le_of_ble_eq_true rfl, Nat.le_of_ble_eq_true rfl⟩ ⟨Nat.le_of_ble_eq_true rfl, Nat.le_of_ble_eq_true rfl⟩ (Nat.le_of_ble_eq_true rfl) (fun _ _ _ h => h.elim) (fun v77 L77 G77 hp77 => ?_)
          obtain ⟨rfl, f77, t77⟩ := hp77
          obtain ⟨a, hva, ha1, ha2, hcs⟩ : ∃ a, v77 = some (.int (iI a)) ∧ -1 ≤ a ∧ a ≤ 1000 ∧ ((0 ≤ a ∧ dOk d kd v ∧ stP L G77 (sK K 0) (dTo d x kd v) (dKn d)) ∨ (a = -1 ∧ ¬ dOk d kd v ∧ G77 = G)) := by
            rcases t77 with ⟨ok, ⟨a, e, ha⟩, t⟩ | ⟨no, e, g⟩
            · exact ⟨a, e, by omega, by omega, Or.inl ⟨ha.1, ok, t⟩⟩
            · exact ⟨-1, e, by omega, by omega, Or.inr ⟨rfl, no, g⟩⟩
          subst hva
          refine z_iconst hZ dX7_deedsDone_80 ?_
          refine z_icmp_ne hZ (tgt := 86) dX7_deedsDone_81 rfl (by omega) (fun hc81 => ?_) (fun hc81 => ?_)
          · refine z_iinc5 hZ dX7_deedsDone_86 (by decide) rfl ?_
            refine z_goto hZ (tgt := 57) dX7_deedsDone_89 rfl ?_
            have z := hcs.resolve_right (fun z => by omega)
            rw [rpF_t z.2.1] at hno hyes
            have b2 := b.st (k := 0) (by omega) z.2.2 f77
            rw [un_un, un_un] at b2
            exact ih (k + 1) _ _ G77 ar.1 ar.2.1 ar.2.2 b2 hno hyes
          · refine z_iconst hZ dX7_deedsDone_84 ?_
            exact z_iret hZ rfl (Nat.le_of_ble_eq_true rfl) (Nat.le_of_ble_eq_true rfl) dX7_deedsDone_85 (by
            have z := hcs.resolve_left (fun z => by omega)
            exact ⟨rfl, Or.inr ⟨hno (rpF_f z.2.1), rfl, v, kd, by rw [z.2.2]; exact b⟩⟩)
    have main : ∀ (m : Nat) (a c : Int) (v : Int → Int) (kd : Int) (G : Nat → PE) (l4 l5 : Option Value), (n - a).toNat ≤ m → 0 ≤ a → a ≤ n → sgR bf a.toNat = 0 → 0 ≤ c → c ≤ 9 * a → db L G K fi sv kp n bf (un W 0 v) (un D 0 kd) → rnF bf n m a v kd c = rnF bf n n.toNat 0 (W 0) (D 0) 0 →
        ZZ 0 0 6 [some (.ref (K 0)), some (.int (iI c)), some (.int (iI 1)), some (.int (iI a)), l4, l5] [] L G := by
      intro m
      have fin : ∀ (m : Nat) (a c : Int) (v : Int → Int) (kd : Int) (G : Nat → PE) (l4 l5 : Option Value), a = n → 0 ≤ c → c ≤ 9 * a → db L G K fi sv kp n bf (un W 0 v) (un D 0 kd) → rnF bf n m a v kd c = rnF bf n n.toNat 0 (W 0) (D 0) 0 →
          ZZ 0 0 6 [some (.ref (K 0)), some (.int (iI c)), some (.int (iI 1)), some (.int (iI a)), l4, l5] [] L G := by
        intro m a c v kd G l4 l5 ha c0 c1 b hr
        subst ha
        have h0 := b.2.1
        have ht := b.2.2.2.2.2.2.1
        have h255 := ht.2.1
        have e : rnF bf a m a v kd c = some (v, kd, c) := by
          cases m with
          | zero => rfl
          | succ m => exact if_neg (by omega)
        refine z_iload_n3 hZ dX7_deedsDone_6 ?_
        refine z_aload_n0 hZ dX7_deedsDone_7 ?_
        refine z_gf_X7_buffer hZ dX7_deedsDone_8 fl_X7_36 (by assumption) (by assumption) ?_
        refine z_cV hZ (As := []) rfl dX7_deedsDone_11 ml_X7_77 wy_X6_count (m_X6_count l ht) (by assumption) (by assumption) rfl ⟨Nat.le_of_ble_eq_true rfl, Nat.le_of_ble_eq_true rfl⟩ ⟨Nat.le_of_ble_eq_true rfl, Nat.le_of_ble_eq_true rfl⟩ (Nat.le_of_ble_eq_true rfl) (fun _ _ _ h => h.elim) (fun v11 L11 G11 hp11 => ?_)
        obtain ⟨rfl, rfl, rfl⟩ := hp11
        refine z_icmp_ge hZ (tgt := 104) dX7_deedsDone_14 rfl (by omega) (fun hc14 => ?_) (fun hc14 => ?_)
        · refine z_iload_n1 hZ dX7_deedsDone_104 ?_
          exact z_iret hZ rfl (Nat.le_of_ble_eq_true rfl) (Nat.le_of_ble_eq_true rfl) dX7_deedsDone_105 (by exact ⟨rfl, Or.inl ⟨v, kd, c, hr.symm.trans e, rfl, by omega, by omega, b⟩⟩)
        · exfalso; omega
      induction m with
      | zero =>
        intro a c v kd G l4 l5 hm a0 a1 hs1 c0 c1 b hr
        exact fin 0 a c v kd G l4 l5 (by omega) c0 c1 b hr
      | succ m ih =>
        intro a c v kd G l4 l5 hm a0 a1 hs1 c0 c1 b hr
        by_cases hlt : a < n
        · have wf := part_wf a0 hlt hs1 hs
          have hr2 : rnF bf n (m + 1) a v kd c = (rpF (lix (bf (pA1 bf n a))) (pSg bf n a) (pTm bf n a).toNat v kd).bind (fun w => rnF bf n m (pE bf n a) w.1 w.2 (c + pTm bf n a)) := if_pos hlt
          have h0 := b.2.1
          have ht := b.2.2.2.2.2.2.1
          have h255 := ht.2.1
          have ca := hcr (pA1 bf n a) (by omega) wf.1
          have tr : 1 ≤ pTm bf n a ∧ pTm bf n a ≤ 9 := by unfold pTm; split <;> omega
          have hdd : lix (bf (pA1 bf n a)) < 22 ∧ dI (lix (bf (pA1 bf n a))) = bf (pA1 bf n a) := by
            rcases wf.2.2 with q | q
            · have z := lix_l (by omega) q.1; exact ⟨by omega, z.2⟩
            · rw [q.1, lix_q]; exact ⟨by omega, rfl⟩
          obtain ⟨d, hde⟩ : ∃ d, d = lix (bf (pA1 bf n a)) := ⟨_, rfl⟩
          obtain ⟨x, hxe⟩ : ∃ x, x = pSg bf n a := ⟨_, rfl⟩
          obtain ⟨t, hte⟩ : ∃ t, t = pTm bf n a := ⟨_, rfl⟩
          obtain ⟨b1, hbe⟩ : ∃ b1, b1 = pA1 bf n a := ⟨_, rfl⟩
          obtain ⟨en, hee⟩ : ∃ en, en = pE bf n a := ⟨_, rfl⟩
          have he1 : en = if bf b1 = 39 then b1 + 2 else b1 + 1 := by rw [hee, hbe]; rfl
          have hx1 : x = if bf b1 = 39 then bf (b1 + 1) else bf b1 := by rw [hxe, hbe]; rfl
          rw [← hde] at hdd hr2
          rw [← hxe, ← hte, ← hee] at hr2
          rw [← hte] at tr
          rw [← hbe] at wf ca hdd
          have hnd := dI_nd hdd.1
          have enr : en ≤ n ∧ a < en ∧ sgR bf en.toNat = 0 := by
            rw [he1]
            rcases wf.2.2 with q | q
            · rw [if_neg q.2.1]; exact ⟨by omega, by omega, q.2.2⟩
            · rw [if_pos q.1]; exact ⟨by omega, by omega, q.2.2⟩
          have k92 : ∀ i : Int, i + 1 = en → ∀ (w : Int → Int) (k1 : Int) (G1 : Nat → PE), rpF d x t.toNat v kd = some (w, k1) → db L G1 K fi sv kp n bf (un W 0 w) (un D 0 k1) → ZZ 0 0 92 [some (.ref (K 0)), some (.int (iI c)), some (.int (iI t)), some (.int (iI i)), some (.int (iI (dI d))), some (.int (iI t))] [] L G1 := by
            intro i hi w k1 G1 hrp b2
            rw [hrp] at hr2
            refine z_iload_n1 hZ dX7_deedsDone_92 ?_
            refine z_iload_n2 hZ dX7_deedsDone_93 ?_
            refine z_iadd hZ dX7_deedsDone_94 ?_
            refine z_istore_n1 hZ dX7_deedsDone_95 (by decide) rfl ?_
            refine z_iconst hZ dX7_deedsDone_96 ?_
            refine z_istore_n2 hZ dX7_deedsDone_97 (by decide) rfl ?_
            refine z_iinc3 hZ dX7_deedsDone_98 (by decide) rfl ?_
            refine z_goto hZ (tgt := 6) dX7_deedsDone_101 rfl ?_
            rw [hi]
            exact ih en (c + t) w k1 G1 _ _ (by omega) (by omega) enr.1 enr.2.2 (by omega) (by omega) b2 (hr2.symm.trans hr)
          have hno : rpF d x t.toNat v kd = none → rnF bf n n.toNat 0 (W 0) (D 0) 0 = none := fun z => by rw [z] at hr2; exact hr.symm.trans hr2
          have deed : ∀ l4 l5 : Option Value, ZZ 0 0 6 [some (.ref (K 0)), some (.int (iI c)), some (.int (iI t)), some (.int (iI b1)), l4, l5] [] L G := by
            intro l4 l5
            have hb1 : 0 ≤ b1 := by omega
            by_cases q : bf b1 = 39
            · have q2 : b1 + 1 < n := by rcases wf.2.2 with z | z; exact absurd q z.2.1; exact z.2.1
              rw [if_pos q] at hx1 he1
              have cx := hcr (b1 + 1) (by omega) q2
              refine z_iload_n3 hZ dX7_deedsDone_6 ?_
              refine z_aload_n0 hZ dX7_deedsDone_7 ?_
              refine z_gf_X7_buffer hZ dX7_deedsDone_8 fl_X7_36 (by assumption) (by assumption) ?_
              refine z_cV hZ (As := []) rfl dX7_deedsDone_11 ml_X7_77 wy_X6_count (m_X6_count l ht) (by assumption) (by assumption) rfl ⟨Nat.le_of_ble_eq_true rfl, Nat.le_of_ble_eq_true rfl⟩ ⟨Nat.le_of_ble_eq_true rfl, Nat.le_of_ble_eq_true rfl⟩ (Nat.le_of_ble_eq_true rfl) (fun _ _ _ h => h.elim) (fun v11 L11 G11 hp11 => ?_)
              obtain ⟨rfl, rfl, rfl⟩ := hp11
              refine z_icmp_ge hZ (tgt := 104) dX7_deedsDone_14 rfl (by omega) (fun hc14 => ?_) (fun hc14 => ?_)
              · exfalso; omega
              · refine z_aload_n0 hZ dX7_deedsDone_17 ?_
                refine z_gf_X7_buffer hZ dX7_deedsDone_18 fl_X7_36 (by assumption) (by assumption) ?_
                refine z_iload_n3 hZ dX7_deedsDone_21 ?_
                refine z_cV hZ (As := [_]) rfl dX7_deedsDone_22 ml_X7_160 wy_X6_code (m_X6_code l ht (by omega)) (by assumption) (by assumption) rfl ⟨Nat.le_of_ble_eq_true rfl, Nat.le_of_ble_eq_true rfl⟩ ⟨Nat.le_of_ble_eq_true rfl, Nat.le_of_ble_eq_true rfl⟩ (Nat.le_of_ble_eq_true rfl) (fun _ _ _ h => h.elim) (fun v22 L22 G22 hp22 => ?_)
                obtain ⟨rfl, rfl, rfl⟩ := hp22
                refine z_istore4 hZ dX7_deedsDone_25 (by decide) rfl ?_
                rw [cdA_in (f := bf) (show 0 ≤ b1 ∧ b1 < n by omega), ← hdd.2]
                refine z_iload4 hZ dX7_deedsDone_27 ?_
                refine z_cS hZ (As := [_]) rfl dX7_deedsDone_29 ml_X7_321 wy_X7_isNumber (m_X7_isNumber l (by omega)) ⟨Nat.le_of_ble_eq_true rfl, Nat.le_of_ble_eq_true rfl⟩ ⟨Nat.le_of_ble_eq_true rfl, Nat.le_of_ble_eq_true rfl⟩ (Nat.le_of_ble_eq_true rfl) (fun _ _ _ h => h.elim) (fun v29 L29 G29 hp29 => ?_)
                obtain ⟨rfl, rfl, rfl⟩ := hp29
                refine z_if_eq_b hZ (tgt := 44) dX7_deedsDone_32 rfl (fun hc32 => ?_) (fun hc32 => ?_)
                · refine z_iload4 hZ dX7_deedsDone_44 ?_
                  refine z_bipush hZ dX7_deedsDone_46 rfl ?_
                  refine z_icmp_ne hZ (tgt := 54) dX7_deedsDone_48 rfl (by omega) (fun hc48 => ?_) (fun hc48 => ?_)
                  · exfalso; omega
                    skip
                  · refine z_iinc3 hZ dX7_deedsDone_51 (by decide) rfl ?_
                    refine z_iconst hZ dX7_deedsDone_54 ?_
                    refine z_istore5 hZ dX7_deedsDone_55 (by decide) rfl ?_
                    exact inner d x t c (b1 + 1) hdd.1 (by omega) ⟨by omega, q2, hx1.symm⟩ tr t.toNat 0 v kd G (by omega) (by omega) (by omega) b hno (k92 (b1 + 1) (by omega))
                · exact absurd (by assumption) hnd.1
            · rw [if_neg q] at hx1 he1
              refine z_iload_n3 hZ dX7_deedsDone_6 ?_
              refine z_aload_n0 hZ dX7_deedsDone_7 ?_
              refine z_gf_X7_buffer hZ dX7_deedsDone_8 fl_X7_36 (by assumption) (by assumption) ?_
              refine z_cV hZ (As := []) rfl dX7_deedsDone_11 ml_X7_77 wy_X6_count (m_X6_count l ht) (by assumption) (by assumption) rfl ⟨Nat.le_of_ble_eq_true rfl, Nat.le_of_ble_eq_true rfl⟩ ⟨Nat.le_of_ble_eq_true rfl, Nat.le_of_ble_eq_true rfl⟩ (Nat.le_of_ble_eq_true rfl) (fun _ _ _ h => h.elim) (fun v11 L11 G11 hp11 => ?_)
              obtain ⟨rfl, rfl, rfl⟩ := hp11
              refine z_icmp_ge hZ (tgt := 104) dX7_deedsDone_14 rfl (by omega) (fun hc14 => ?_) (fun hc14 => ?_)
              · exfalso; omega
              · refine z_aload_n0 hZ dX7_deedsDone_17 ?_
                refine z_gf_X7_buffer hZ dX7_deedsDone_18 fl_X7_36 (by assumption) (by assumption) ?_
                refine z_iload_n3 hZ dX7_deedsDone_21 ?_
                refine z_cV hZ (As := [_]) rfl dX7_deedsDone_22 ml_X7_160 wy_X6_code (m_X6_code l ht (by omega)) (by assumption) (by assumption) rfl ⟨Nat.le_of_ble_eq_true rfl, Nat.le_of_ble_eq_true rfl⟩ ⟨Nat.le_of_ble_eq_true rfl, Nat.le_of_ble_eq_true rfl⟩ (Nat.le_of_ble_eq_true rfl) (fun _ _ _ h => h.elim) (fun v22 L22 G22 hp22 => ?_)
                obtain ⟨rfl, rfl, rfl⟩ := hp22
                refine z_istore4 hZ dX7_deedsDone_25 (by decide) rfl ?_
                rw [cdA_in (f := bf) (show 0 ≤ b1 ∧ b1 < n by omega), ← hdd.2]
                refine z_iload4 hZ dX7_deedsDone_27 ?_
                refine z_cS hZ (As := [_]) rfl dX7_deedsDone_29 ml_X7_321 wy_X7_isNumber (m_X7_isNumber l (by omega)) ⟨Nat.le_of_ble_eq_true rfl, Nat.le_of_ble_eq_true rfl⟩ ⟨Nat.le_of_ble_eq_true rfl, Nat.le_of_ble_eq_true rfl⟩ (Nat.le_of_ble_eq_true rfl) (fun _ _ _ h => h.elim) (fun v29 L29 G29 hp29 => ?_)
                obtain ⟨rfl, rfl, rfl⟩ := hp29
                refine z_if_eq_b hZ (tgt := 44) dX7_deedsDone_32 rfl (fun hc32 => ?_) (fun hc32 => ?_)
                · refine z_iload4 hZ dX7_deedsDone_44 ?_
                  refine z_bipush hZ dX7_deedsDone_46 rfl ?_
                  refine z_icmp_ne hZ (tgt := 54) dX7_deedsDone_48 rfl (by omega) (fun hc48 => ?_) (fun hc48 => ?_)
                  · refine z_iconst hZ dX7_deedsDone_54 ?_
                    refine z_istore5 hZ dX7_deedsDone_55 (by decide) rfl ?_
                    exact inner d x t c b1 hdd.1 (by omega) ⟨by omega, by omega, hx1.symm⟩ tr t.toNat 0 v kd G (by omega) (by omega) (by omega) b hno (k92 b1 (by omega))
                  · exfalso; omega
                · exact absurd (by assumption) hnd.1
          by_cases hdg : a < n ∧ 50 ≤ bf a ∧ bf a ≤ 57
          · have et : t = bf a - 48 := hte.trans (if_pos hdg)
            have eb : b1 = a + 1 := hbe.trans (if_pos hdg)
            refine z_iload_n3 hZ dX7_deedsDone_6 ?_
            refine z_aload_n0 hZ dX7_deedsDone_7 ?_
            refine z_gf_X7_buffer hZ dX7_deedsDone_8 fl_X7_36 (by assumption) (by assumption) ?_
            refine z_cV hZ (As := []) rfl dX7_deedsDone_11 ml_X7_77 wy_X6_count (m_X6_count l ht) (by assumption) (by assumption) rfl ⟨Nat.le_of_ble_eq_true rfl, Nat.le_of_ble_eq_true rfl⟩ ⟨Nat.le_of_ble_eq_true rfl, Nat.le_of_ble_eq_true rfl⟩ (Nat.le_of_ble_eq_true rfl) (fun _ _ _ h => h.elim) (fun v11 L11 G11 hp11 => ?_)
            obtain ⟨rfl, rfl, rfl⟩ := hp11
            refine z_icmp_ge hZ (tgt := 104) dX7_deedsDone_14 rfl (by omega) (fun hc14 => ?_) (fun hc14 => ?_)
            · exfalso; omega
            · refine z_aload_n0 hZ dX7_deedsDone_17 ?_
              refine z_gf_X7_buffer hZ dX7_deedsDone_18 fl_X7_36 (by assumption) (by assumption) ?_
              refine z_iload_n3 hZ dX7_deedsDone_21 ?_
              refine z_cV hZ (As := [_]) rfl dX7_deedsDone_22 ml_X7_160 wy_X6_code (m_X6_code l ht (by omega)) (by assumption) (by assumption) rfl ⟨Nat.le_of_ble_eq_true rfl, Nat.le_of_ble_eq_true rfl⟩ ⟨Nat.le_of_ble_eq_true rfl, Nat.le_of_ble_eq_true rfl⟩ (Nat.le_of_ble_eq_true rfl) (fun _ _ _ h => h.elim) (fun v22 L22 G22 hp22 => ?_)
              obtain ⟨rfl, rfl, rfl⟩ := hp22
              refine z_istore4 hZ dX7_deedsDone_25 (by decide) rfl ?_
              rw [cdA_in (f := bf) (show 0 ≤ a ∧ a < n by omega)]
              refine z_iload4 hZ dX7_deedsDone_27 ?_
              refine z_cS hZ (As := [_]) rfl dX7_deedsDone_29 ml_X7_321 wy_X7_isNumber (m_X7_isNumber l (by omega)) ⟨Nat.le_of_ble_eq_true rfl, Nat.le_of_ble_eq_true rfl⟩ ⟨Nat.le_of_ble_eq_true rfl, Nat.le_of_ble_eq_true rfl⟩ (Nat.le_of_ble_eq_true rfl) (fun _ _ _ h => h.elim) (fun v29 L29 G29 hp29 => ?_)
              obtain ⟨rfl, rfl, rfl⟩ := hp29
              refine z_if_eq_b hZ (tgt := 44) dX7_deedsDone_32 rfl (fun hc32 => ?_) (fun hc32 => ?_)
              · exact absurd hdg.2 (by assumption)
              · refine z_iload4 hZ dX7_deedsDone_35 ?_
                refine z_bipush hZ dX7_deedsDone_37 rfl ?_
                refine z_isub hZ dX7_deedsDone_39 ?_
                refine z_istore_n2 hZ dX7_deedsDone_40 (by decide) rfl ?_
                refine z_goto hZ (tgt := 98) dX7_deedsDone_41 rfl ?_
                refine z_iinc3 hZ dX7_deedsDone_98 (by decide) rfl ?_
                refine z_goto hZ (tgt := 6) dX7_deedsDone_101 rfl ?_
                rw [← et, ← eb]
                exact deed _ _
          · have et : t = 1 := hte.trans (if_neg hdg)
            have eb : b1 = a := hbe.trans (if_neg hdg)
            have z := deed l4 l5
            rw [et, eb] at z
            exact z
        · exact fin (m + 1) a c v kd G l4 l5 (by omega) c0 c1 b hr
    refine z_iconst hZ dX7_deedsDone_0 ?_
    refine z_istore_n1 hZ dX7_deedsDone_1 (by decide) rfl ?_
    refine z_iconst hZ dX7_deedsDone_2 ?_
    refine z_istore_n2 hZ dX7_deedsDone_3 (by decide) rfl ?_
    refine z_iconst hZ dX7_deedsDone_4 ?_
    refine z_istore_n3 hZ dX7_deedsDone_5 (by decide) rfl ?_
    exact main n.toNat 0 0 (W 0) (D 0) F none none (by omega) (by omega) (by omega) rfl (by omega) (by omega) (by rw [un_id, un_id]; exact hb) rfl
  exact hgo

