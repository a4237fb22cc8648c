/-! RING, 2: hoards that come, grow, are copied; accounts. -/
theorem fR.rf {sa : Nat → Nat} {F : Nat → PE} : fR sa F F := fun _ _ => rfl
theorem fR.tr {sa : Nat → Nat} {F F1 F2 : Nat → PE} (h : fR sa F F1) (h2 : fR sa F1 F2) : fR sa F F2 := fun b hb => (h2 b hb).trans (h b hb)
theorem wu_s {α : Type} {f : Int → α} {k : Int} {x : α} : wu f k x k = x := if_pos rfl
theorem wu_n {α : Type} {f : Int → α} {k j : Int} {x : α} (h : j ≠ k) : wu f k x j = f j := if_neg h
set_option maxRecDepth 100000 in
set_option maxHeartbeats 4000000 in
theorem m_X3_copyFrom (l : Launch) {L : List Nat} {F : Nat → PE} {sa sb : Nat → Nat} {π πb : Int → Nat} {m cv nx mb cb nb : Int} {hl hlb : Int → Int} {hf hfb : Int → Int → Int} (hj : ij sa) (hL : inL L sa) (hLb : inL L sb) (ap : apt sa sb) (t : rgQ L F sa π m cv nx hl hf) (tb : rgQ L F sb πb mb cb nb hlb hfb) : PM l yX3_copyFrom cX3_copyFrom 3 none (rm 3 0 0) L [.ref (sa 4), .ref (sb 4)] F (fun v9 L1 F1 => v9 = none ∧ L = L1 ∧ rgQ L F1 sa π mb cb nb (fun i => if i < mb then hlb i else hl i) (fun i => if i < mb then hfb i else hf i) ∧ fR sa F F1) (fun _ _ _ => False) := by
  refine pm_of cd_X3_copyFrom (by decide +kernel) (Nat.le_of_ble_eq_true rfl) (fun ZZ hZ => ?_)
  have hgo : ZZ 0 0 0 [some (.ref (sa 4)), some (.ref (sb 4)), none] [] L F := by
    have t' := t
    have tb' := tb
    have a4 := t.1
    have b4 := tb.1
    have l4 := hL 4 (by omega)
    have l5 := hL 5 (by omega)
    have g4 := hLb 4 (by omega)
    have g5 := hLb 5 (by omega)
    have hm := tb.2.2.2.2.2.1
    have hn := tb.2.2.2.2.2.2
    have k26 : ∀ (w : Nat) (G : Nat → PE) (j : Int), 0 ≤ j → j ≤ mb → rgQ L G sa π mb cb nb (fun i => if i < j then hlb i else hl i) (fun i => if i < j then hfb i else hf i) → rgQ L G sb πb mb cb nb hlb hfb → fR sa F G → (mb - j).toNat < w → ZZ 0 0 26 [some (.ref (sa 4)), some (.ref (sb 4)), some (.int (iI j))] [] L G := by
      intro w
      induction w with
      | zero => intro G j _ _ _ _ _ hw; omega
      | succ w ih =>
        intro G j h0 h1 hq hqb hfr hw
        obtain ⟨c4, ⟨ρ, c5, cρ⟩, -⟩ := id hq
        obtain ⟨d4, ⟨ρb, d5, dρ⟩, -⟩ := id hqb
        refine z_iload_n2 hZ dX3_copyFrom_26 ?_
        refine z_aload_n0 hZ dX3_copyFrom_27 ?_
        refine z_gf_X3_count hZ dX3_copyFrom_28 fl_X3_31 (by assumption) (by assumption) ?_
        refine z_icmp_ge hZ (tgt := 61) dX3_copyFrom_31 rfl (by omega) (fun hc31 => ?_) (fun hc31 => ?_)
        · exact z_vret hZ rfl (Nat.le_of_ble_eq_true rfl) (Nat.le_of_ble_eq_true rfl) dX3_copyFrom_61 (by exact ⟨rfl, rfl, by rw [show j = mb by omega] at hq; exact hq, hfr⟩)
        · refine z_iload_n2 hZ dX3_copyFrom_34 ?_
          refine z_bipush hZ dX3_copyFrom_35 rfl ?_
          refine z_icmp_ge hZ (tgt := 61) dX3_copyFrom_37 rfl (by omega) (fun hc37 => ?_) (fun hc37 => ?_)
          · exfalso; omega
          · have e1 := cρ j (by omega) (by omega)
            have e2 := dρ j (by omega) (by omega)
            have tj := (hq.2.2.2.1 j (by omega) (by omega)).2
            have pj := (hq.2.2.2.1 j (by omega) (by omega)).1
            have tk := hqb.tx (i := j) (by omega) (by omega)
            have pk := (hqb.2.2.2.1 j (by omega) (by omega)).1
            refine z_aload_n0 hZ dX3_copyFrom_40 ?_
            refine z_gf_X3_rows hZ dX3_copyFrom_41 fl_X3_11 (by assumption) (by assumption) ?_
            refine z_iload_n2 hZ dX3_copyFrom_44 ?_
            refine z_aaload_Text hZ dX3_copyFrom_45 (by assumption) (by assumption) (by omega) (by assumption) ?_
            refine z_aload_n1 hZ dX3_copyFrom_46 ?_
            refine z_gf_X3_rows hZ dX3_copyFrom_47 fl_X3_11 (by assumption) (by assumption) ?_
            refine z_iload_n2 hZ dX3_copyFrom_50 ?_
            refine z_aaload_Text hZ dX3_copyFrom_51 (by assumption) (by assumption) (by omega) (by assumption) ?_
            refine z_cV hZ (As := [_]) rfl dX3_copyFrom_52 ml_X3_34 wy_X6_copyFrom (m_X6_copyFrom l tj tk ⟨ap _ _ (by omega) (by omega), ap _ _ (by omega) (by omega), ap _ _ (by omega) (by omega), ap _ _ (by omega) (by omega)⟩ (by have := tk.2.2.2.1; omega)) tj.1.1 tj.2.1 rfl ⟨Nat.le_of_ble_eq_true rfl, Nat.le_of_ble_eq_true rfl⟩ ⟨Nat.le_of_ble_eq_true rfl, Nat.le_of_ble_eq_true rfl⟩ (Nat.le_of_ble_eq_true rfl) (fun _ _ _ h => h.elim) (fun v52 L52 G52 hp52 => ?_)
            obtain ⟨rfl, rfl, t52, f52⟩ := hp52
            refine z_iinc2 hZ dX3_copyFrom_55 (by decide) rfl ?_
            refine z_goto hZ (tgt := 26) dX3_copyFrom_58 rfl ?_
            refine ih _ _ (by omega) (by omega) ((hq.set hj (by omega) (by omega) t52 f52).cg (fun i g0 g1 => ?_)) (hqb.mv (fun i g0 g1 g2 => f52 _ (Ne.symm (ap _ _ (by omega) (by omega))) (Ne.symm (ap _ _ (by omega) (by omega))))) (hfr.tr (fun b hb => f52 b (hb _ (by omega) (by omega) (by omega)) (hb _ (by omega) (by omega) (by omega)))) (by omega)
            by_cases q : i = j
            · subst q
              rw [wu_s, wu_s]
              refine ⟨?_, fun k _ _ => ?_⟩ <;> rw [if_pos (by omega)]
            · rw [wu_n q, wu_n q]
              by_cases q2 : i < j
              · rw [if_pos q2, if_pos q2, if_pos (by omega), if_pos (by omega)]; exact ⟨rfl, fun _ _ _ => rfl⟩
              · rw [if_neg q2, if_neg q2, if_neg (by omega), if_neg (by omega)]; exact ⟨rfl, fun _ _ _ => rfl⟩
    have nb4 : sb 4 ≠ sa 4 := Ne.symm (ap 4 4 (by omega) (by omega))
    refine z_aload_n0 hZ dX3_copyFrom_0 ?_
    refine z_aload_n1 hZ dX3_copyFrom_1 ?_
    refine z_gf_X3_count hZ dX3_copyFrom_2 fl_X3_31 (by assumption) (by assumption) ?_
    refine z_pf_X3_count hZ dX3_copyFrom_5 fl_X3_31 (by assumption) (by assumption) (fun F5 hF5 hf5 => ?_)
    have b4 := (hf5 _ nb4).trans b4
    refine z_aload_n0 hZ dX3_copyFrom_8 ?_
    refine z_aload_n1 hZ dX3_copyFrom_9 ?_
    refine z_gf_X3_caves hZ dX3_copyFrom_10 fl_X3_24 (by assumption) (by assumption) ?_
    refine z_pf_X3_caves hZ dX3_copyFrom_13 fl_X3_24 (by assumption) (by assumption) (fun F13 hF13 hf13 => ?_)
    have b4 := (hf13 _ nb4).trans b4
    refine z_aload_n0 hZ dX3_copyFrom_16 ?_
    refine z_aload_n1 hZ dX3_copyFrom_17 ?_
    refine z_gf_X3_next hZ dX3_copyFrom_18 fl_X3_28 (by assumption) (by assumption) ?_
    refine z_pf_X3_next hZ dX3_copyFrom_21 fl_X3_28 (by assumption) (by assumption) (fun F21 hF21 hf21 => ?_)
    refine z_iconst hZ dX3_copyFrom_24 ?_
    refine z_istore_n2 hZ dX3_copyFrom_25 (by decide) rfl ?_
    refine k26 _ F21 0 (by omega) hm.1 ((t'.obj hj hF21 (fun b hb => ((hf21 b hb).trans (hf13 b hb)).trans (hf5 b hb)) hm hn).cg (fun i g0 g1 => ?_)) (tb'.mv (fun i g0 g1 g2 => ?_)) (fun b hb => ?_) (Nat.lt_succ_self _)
    · rw [if_neg (by omega), if_neg (by omega)]; exact ⟨rfl, fun _ _ _ => rfl⟩
    · have := Ne.symm (ap 4 i (by omega) g1); exact ((hf21 _ this).trans (hf13 _ this)).trans (hf5 _ this)
    · have := hb 4 (by omega) (by omega) (by omega); exact ((hf21 _ this).trans (hf13 _ this)).trans (hf5 _ this)
  exact hgo
set_option maxRecDepth 100000 in
set_option maxHeartbeats 4000000 in
theorem m_X3_grow (l : Launch) {L : List Nat} {F : Nat → PE} {sa : Nat → Nat} {π : Int → Nat} {m cv nx : Int} {hl : Int → Int} {hf : Int → Int → Int} {h c N : Nat} {n a b : Int} {f : Int → Int} {B : Prop} [Decidable B] (hj : ij sa) (hL : inL L sa) (t : rgQ L F sa π m cv nx hl hf) (ts : tx L F h c N n f) (hd : ∀ i, 4 ≤ i → i < 25 → i ≠ 8 → sa i ≠ h ∧ sa i ≠ c) (hr : 1 ≤ m ∧ 0 ≤ a ∧ a ≤ b ∧ b ≤ n ∧ hl 0 + (b - a) ≤ 200) : PM l yX3_grow cX3_grow 6 none (rm 4 0 0) L [.ref (sa 4), .ref h, .int (iI a), .int (iI b), .int (iI (b2 B))] F (fun v9 L1 F1 => v9 = none ∧ L = L1 ∧ rgQ L F1 sa π m cv 0 (wu hl 0 (hl 0 + (b - a))) (wu hf 0 (insA (hf 0) (if B then 0 else hl 0) (b - a) (fun k => f (a + k)))) ∧ fR sa F F1) (fun _ _ _ => False) := by
  refine pm_of cd_X3_grow (by decide +kernel) (Nat.le_of_ble_eq_true rfl) (fun ZZ hZ => ?_)
  have hgo : ZZ 0 0 0 [some (.ref (sa 4)), some (.ref h), some (.int (iI a)), some (.int (iI b)), some (.int (iI (b2 B))), none] [] L F := by
    have t' := t
    have a4 := t.1
    have l4 := hL 4 (by omega)
    have hm := t.2.2.2.2.2.1
    have t0 := t.tx (i := 0) (by omega) (by omega)
    have p0 := (t.2.2.2.1 0 (by omega) (by omega)).1
    have n0 := t0.2.2.2.1
    have d0 := hd (9 + π 0) (by omega) (by omega) (by omega)
    have d1 := hd (17 + π 0) (by omega) (by omega) (by omega)
    have fin : ∀ F2 : Nat → PE, tx L F2 (sa (9 + π 0)) (sa (17 + π 0)) 200 (hl 0 + (b - a)) (insA (hf 0) (if B then 0 else hl 0) (b - a) (fun k => f (a + k))) → (∀ b, b ≠ sa (9 + π 0) → b ≠ sa (17 + π 0) → F2 b = F b) → ∀ F3 : Nat → PE, F3 (sa 4) = eO 3 [.ref (sa 5), .ref (sa 6), .int (iI m), .int (iI cv), .int (iI 0)] → (∀ b, b ≠ sa 4 → F3 b = F2 b) → rgQ L F3 sa π m cv 0 (wu hl 0 (hl 0 + (b - a))) (wu hf 0 (insA (hf 0) (if B then 0 else hl 0) (b - a) (fun k => f (a + k)))) ∧ fR sa F F3 := by
      intro F2 h2 f2 F3 h3 f3
      exact ⟨(t'.set hj (by omega) (by omega) h2 f2).obj hj h3 f3 hm (by omega), fun b hb => (f3 b (hb 4 (by omega) (by omega) (by omega))).trans (f2 b (hb _ (by omega) (by omega) (by omega)) (hb _ (by omega) (by omega) (by omega)))⟩
    refine z_aload_n0 hZ dX3_grow_0 ?_
    refine z_iconst hZ dX3_grow_1 ?_
    refine z_cV hZ (As := [_]) rfl dX3_grow_2 ml_X3_38 wy_X3_hoard (m_X3_hoard l hL t' ⟨by omega, by omega⟩) (by assumption) (by assumption) rfl ⟨Nat.le_of_ble_eq_true rfl, Nat.le_of_ble_eq_true rfl⟩ ⟨Nat.le_of_ble_eq_true rfl, Nat.le_of_ble_eq_true rfl⟩ (Nat.le_of_ble_eq_true rfl) (fun _ _ _ h => h.elim) (fun v2 L2 G2 hp2 => ?_)
    obtain ⟨rfl, rfl, rfl⟩ := hp2
    refine z_astore5 hZ dX3_grow_5 (by decide) rfl ?_
    refine z_aload5 hZ dX3_grow_7 ?_
    refine z_iload4 hZ dX3_grow_9 ?_
    refine z_if_eq_b hZ (tgt := 18) dX3_grow_11 rfl (fun hc11 => ?_) (fun hc11 => ?_)
    · refine z_aload5 hZ dX3_grow_18 ?_
      refine z_cV hZ (As := []) rfl dX3_grow_20 ml_X3_42 wy_X6_count (m_X6_count l t0) t0.1.1 t0.2.1 rfl ⟨Nat.le_of_ble_eq_true rfl, Nat.le_of_ble_eq_true rfl⟩ ⟨Nat.le_of_ble_eq_true rfl, Nat.le_of_ble_eq_true rfl⟩ (Nat.le_of_ble_eq_true rfl) (fun _ _ _ h => h.elim) (fun v20 L20 G20 hp20 => ?_)
      obtain ⟨rfl, rfl, rfl⟩ := hp20
      refine z_aload_n1 hZ dX3_grow_23 ?_
      refine z_iload_n2 hZ dX3_grow_24 ?_
      refine z_iload_n3 hZ dX3_grow_25 ?_
      refine z_cV hZ (As := [_, _, _, _]) rfl dX3_grow_26 ml_X3_57 wy_X6_insertPart (m_X6_insertPart l t0 ts ⟨d0.1, d0.2, d1.1, d1.2⟩ (by omega)) t0.1.1 t0.2.1 rfl ⟨Nat.le_of_ble_eq_true rfl, Nat.le_of_ble_eq_true rfl⟩ ⟨Nat.le_of_ble_eq_true rfl, Nat.le_of_ble_eq_true rfl⟩ (Nat.le_of_ble_eq_true rfl) (fun _ _ _ h => h.elim) (fun v26 L26 G26 hp26 => ?_)
      obtain ⟨rfl, rfl, t26, f26⟩ := hp26
      have a4 := (f26 _ (hj.ne (by omega) (by omega) (by omega)) (hj.ne (by omega) (by omega) (by omega))).trans a4
      refine z_aload_n0 hZ dX3_grow_29 ?_
      refine z_iconst hZ dX3_grow_30 ?_
      refine z_pf_X3_next hZ dX3_grow_31 fl_X3_28 (by assumption) (by assumption) (fun F31 hF31 hf31 => ?_)
      exact z_vret hZ rfl (Nat.le_of_ble_eq_true rfl) (Nat.le_of_ble_eq_true rfl) dX3_grow_34 (by first | exact ⟨rfl, rfl, fin _ (by rw [if_pos hc11]; exact t26) f26 _ hF31 hf31⟩ | exact ⟨rfl, rfl, fin _ (by rw [if_neg hc11]; exact t26) f26 _ hF31 hf31⟩)
    · refine z_iconst hZ dX3_grow_14 ?_
      refine z_goto hZ (tgt := 23) dX3_grow_15 rfl ?_
      refine z_aload_n1 hZ dX3_grow_23 ?_
      refine z_iload_n2 hZ dX3_grow_24 ?_
      refine z_iload_n3 hZ dX3_grow_25 ?_
      refine z_cV hZ (As := [_, _, _, _]) rfl dX3_grow_26 ml_X3_57 wy_X6_insertPart (m_X6_insertPart l t0 ts ⟨d0.1, d0.2, d1.1, d1.2⟩ (by omega)) t0.1.1 t0.2.1 rfl ⟨Nat.le_of_ble_eq_true rfl, Nat.le_of_ble_eq_true rfl⟩ ⟨Nat.le_of_ble_eq_true rfl, Nat.le_of_ble_eq_true rfl⟩ (Nat.le_of_ble_eq_true rfl) (fun _ _ _ h => h.elim) (fun v26 L26 G26 hp26 => ?_)
      obtain ⟨rfl, rfl, t26, f26⟩ := hp26
      have a4 := (f26 _ (hj.ne (by omega) (by omega) (by omega)) (hj.ne (by omega) (by omega) (by omega))).trans a4
      refine z_aload_n0 hZ dX3_grow_29 ?_
      refine z_iconst hZ dX3_grow_30 ?_
      refine z_pf_X3_next hZ dX3_grow_31 fl_X3_28 (by assumption) (by assumption) (fun F31 hF31 hf31 => ?_)
      exact z_vret hZ rfl (Nat.le_of_ble_eq_true rfl) (Nat.le_of_ble_eq_true rfl) dX3_grow_34 (by first | exact ⟨rfl, rfl, fin _ (by rw [if_pos hc11]; exact t26) f26 _ hF31 hf31⟩ | exact ⟨rfl, rfl, fin _ (by rw [if_neg hc11]; exact t26) f26 _ hF31 hf31⟩)
  exact hgo
/-- a hoard that comes: who stands where then -/
def adP (π : Int → Nat) (z : Int) : Int → Nat := fun j => if j = 0 then π z else if j ≤ z then π (j - 1) else π j
def adH {α : Type} (g : Int → α) (z : Int) (x : α) : Int → α := fun j => if j = 0 then x else if j ≤ z then g (j - 1) else g j
set_option maxRecDepth 100000 in
set_option maxHeartbeats 4000000 in
theorem m_X3_add (l : Launch) {L : List Nat} {F : Nat → PE} {sa : Nat → Nat} {π : Int → Nat} {m cv nx : Int} {hl : Int → Int} {hf : Int → Int → Int} {h c N : Nat} {n a b : Int} {f : Int → Int} (hj : ij sa) (hL : inL L sa) (t : rgQ L F sa π m cv nx hl hf) (ts : tx L F h c N n f) (hd : ∀ i, 4 ≤ i → i < 25 → i ≠ 8 → sa i ≠ h ∧ sa i ≠ c) (hr : 0 ≤ a ∧ a ≤ b ∧ b ≤ n ∧ b - a ≤ 200) : PM l yX3_add cX3_add 8 (some .int) (rm 4 0 0) L [.ref (sa 4), .ref h, .int (iI a), .int (iI b)] F (fun v9 L1 F1 => v9 = some (.int (iI (if cv ≤ m then 1 else 0))) ∧ L = L1 ∧ (∃ π1, rgQ L F1 sa π1 (m + 1 - (if cv ≤ m then 1 else 0)) cv 0 (adH hl (m - (if cv ≤ m then 1 else 0)) (b - a)) (adH hf (m - (if cv ≤ m then 1 else 0)) (fun k => f (a + k)))) ∧ fR sa F F1) (fun _ _ _ => False) := by
  refine pm_of cd_X3_add (by decide +kernel) (Nat.le_of_ble_eq_true rfl) (fun ZZ hZ => ?_)
  have hgo : ZZ 0 0 0 [some (.ref (sa 4)), some (.ref h), some (.int (iI a)), some (.int (iI b)), none, none, none, none] [] L F := by
    have t' := t
    have hm := t.2.2.2.2.2.1
    have hinj := t.2.2.2.2.1
    obtain ⟨a4, ⟨ρ, a5, aρ⟩, aT, aX, -⟩ := id t
    have l4 := hL 4 (by omega)
    have l5 := hL 5 (by omega)
    have lh := ts.1.1
    obtain ⟨q, hq⟩ : ∃ q, q = (if cv ≤ m then (1 : Int) else 0) := ⟨_, rfl⟩
    have hq2 : 0 ≤ q ∧ q ≤ 1 ∧ 0 ≤ m - q ∧ m + 1 - q ≤ cv := by rw [hq]; split <;> omega
    have key : ZZ 0 0 16 [some (.ref (sa 4)), some (.ref h), some (.int (iI a)), some (.int (iI b)), none, none, none, none] [.int (iI q)] L F := by
      have pz := (aX (m - q) (by omega) (by omega)).1
      have tz := (aX (m - q) (by omega) (by omega)).2
      have k61 : ∀ (w : Nat) (G : Nat → PE) (r : Int → Option Nat) (j : Int), 0 ≤ j → j ≤ m - q → G (sa 5) = eQ 4 8 r → (∀ i, 0 ≤ i → i < 8 → r i = if j < i ∧ i ≤ m - q then ρ (i - 1) else ρ i) → G (sa 4) = eO 3 [.ref (sa 5), .ref (sa 6), .int (iI (m + 1 - q)), .int (iI cv), .int (iI nx)] → (∀ b, b ≠ sa 4 → b ≠ sa 5 → G b = F b) → j.toNat < w → ZZ 0 0 61 [some (.ref (sa 4)), some (.ref h), some (.int (iI a)), some (.int (iI b)), some (.int (iI q)), some (.int (iI (m - q))), some (.ref (sa (9 + π (m - q)))), some (.int (iI j))] [] L G := by
        intro w
        induction w with
        | zero => intro G r j _ _ _ _ _ _ hw; omega
        | succ w ih =>
          intro G r j h0 h1 g5 gr g4 gf hw
          refine z_iload7 hZ dX3_add_61 ?_
          refine z_if_le hZ (tgt := 88) dX3_add_63 rfl (by omega) (fun hc63 => ?_) (fun hc63 => ?_)
          · have j0 : j = 0 := by omega
            subst j0
            have n1 := hj.ne (i := 9 + π (m - q)) (j := 4) (by omega) (by omega) (by omega)
            have n2 := hj.ne (i := 9 + π (m - q)) (j := 5) (by omega) (by omega) (by omega)
            have n3 := hj.ne (i := 17 + π (m - q)) (j := 4) (by omega) (by omega) (by omega)
            have n4 := hj.ne (i := 17 + π (m - q)) (j := 5) (by omega) (by omega) (by omega)
            have tz := tz.mv (gf _ n1 n2) (gf _ n3 n4)
            refine z_aload_n0 hZ dX3_add_88 ?_
            refine z_gf_X3_rows hZ dX3_add_89 fl_X3_11 (by assumption) (by assumption) ?_
            refine z_iconst hZ dX3_add_92 ?_
            refine z_aload6 hZ dX3_add_93 ?_
            refine z_aastore_Text hZ dX3_add_95 (by assumption) (by assumption) (by omega) tz.1.1 tz.2.1 (fun F95 hF95 hf95 => ?_)
            have tz := tz.mv (hf95 _ n2) (hf95 _ n4)
            have d4 := hd 4 (by omega) (by omega) (by omega)
            have d5 := hd 5 (by omega) (by omega) (by omega)
            have ts := ts.mv ((hf95 _ (Ne.symm d5.1)).trans (gf _ (Ne.symm d4.1) (Ne.symm d5.1))) ((hf95 _ (Ne.symm d5.2)).trans (gf _ (Ne.symm d4.2) (Ne.symm d5.2)))
            have g4 := (hf95 _ (hj.ne (by omega) (by omega) (by omega))).trans g4
            refine z_aload6 hZ dX3_add_96 ?_
            refine z_cV hZ (As := []) rfl dX3_add_98 ml_X3_54 wy_X6_empty (m_X6_empty l tz) tz.1.1 tz.2.1 rfl ⟨Nat.le_of_ble_eq_true rfl, Nat.le_of_ble_eq_true rfl⟩ ⟨Nat.le_of_ble_eq_true rfl, Nat.le_of_ble_eq_true rfl⟩ (Nat.le_of_ble_eq_true rfl) (fun _ _ _ h => h.elim) (fun v98 L98 G98 hp98 => ?_)
            obtain ⟨rfl, rfl, t98, f98⟩ := hp98
            have dz := hd (9 + π (m - q)) (by omega) (by omega) (by omega)
            have dy := hd (17 + π (m - q)) (by omega) (by omega) (by omega)
            have ts := ts.mv (f98 _ (Ne.symm dz.1) (Ne.symm dy.1)) (f98 _ (Ne.symm dz.2) (Ne.symm dy.2))
            have g4 := (f98 _ (Ne.symm n1) (Ne.symm n3)).trans g4
            refine z_aload6 hZ dX3_add_101 ?_
            refine z_iconst hZ dX3_add_103 ?_
            refine z_aload_n1 hZ dX3_add_104 ?_
            refine z_iload_n2 hZ dX3_add_105 ?_
            refine z_iload_n3 hZ dX3_add_106 ?_
            refine z_cV hZ (As := [_, _, _, _]) rfl dX3_add_107 ml_X3_57 wy_X6_insertPart (m_X6_insertPart l t98 ts ⟨dz.1, dz.2, dy.1, dy.2⟩ (by omega)) t98.1.1 t98.2.1 rfl ⟨Nat.le_of_ble_eq_true rfl, Nat.le_of_ble_eq_true rfl⟩ ⟨Nat.le_of_ble_eq_true rfl, Nat.le_of_ble_eq_true rfl⟩ (Nat.le_of_ble_eq_true rfl) (fun _ _ _ h => h.elim) (fun v107 L107 G107 hp107 => ?_)
            obtain ⟨rfl, rfl, t107, f107⟩ := hp107
            have g4 := (f107 _ (Ne.symm n1) (Ne.symm n3)).trans g4
            refine z_aload_n0 hZ dX3_add_110 ?_
            refine z_iconst hZ dX3_add_111 ?_
            refine z_pf_X3_next hZ dX3_add_112 fl_X3_28 (by assumption) (by assumption) (fun F112 hF112 hf112 => ?_)
            refine z_iload4 hZ dX3_add_115 ?_
            exact z_iret hZ rfl (Nat.le_of_ble_eq_true rfl) (Nat.le_of_ble_eq_true rfl) dX3_add_117 (by
            have ff : ∀ b, b ≠ sa 4 → b ≠ sa 5 → b ≠ sa (9 + π (m - q)) → b ≠ sa (17 + π (m - q)) → F112 b = F b := fun b b4 b5 b6 b7 => ((((hf112 b b4).trans (f107 b b6 b7)).trans (f98 b b6 b7)).trans (hf95 b b5)).trans (gf b b4 b5)
            have m6 := hj.ne (i := 6) (j := 9 + π (m - q)) (by omega) (by omega) (by omega)
            have m7 := hj.ne (i := 7) (j := 9 + π (m - q)) (by omega) (by omega) (by omega)
            have e5 : F112 (sa 5) = eQ 4 8 (wu r 0 (some (sa (9 + π (m - q))))) := (hf112 _ (hj.ne (by omega) (by omega) (by omega))).trans ((f107 _ (Ne.symm n2) (Ne.symm n4)).trans ((f98 _ (Ne.symm n2) (Ne.symm n4)).trans hF95))
            have tn : tx L F112 (sa (9 + π (m - q))) (sa (17 + π (m - q))) 200 (b - a) (fun k => f (a + k)) := by
              have := (t107.mv (hf112 _ n1) (hf112 _ n3)).cg (f1 := fun k => f (a + k)) (fun k g0 g1 => by unfold insA; rw [if_neg (by omega), if_pos (by omega)]; show f (a + (k - 0)) = f (a + k); rw [Int.sub_zero])
              rw [Int.zero_add] at this
              exact this
            rw [← hq]
            refine ⟨rfl, rfl, ⟨adP π (m - q), hF112, ⟨_, e5, fun i i0 i1 => ?_⟩, aT.mv (ff _ (hj.ne (by omega) (by omega) (by omega)) (hj.ne (by omega) (by omega) (by omega)) (hj.ne (by omega) (by omega) (by omega)) (hj.ne (by omega) (by omega) (by omega))) (ff _ (hj.ne (by omega) (by omega) (by omega)) (hj.ne (by omega) (by omega) (by omega)) (hj.ne (by omega) (by omega) (by omega)) (hj.ne (by omega) (by omega) (by omega))), fun i i0 i1 => ?_, fun i j i0 i1 j0 j1 e => ?_, by omega, fun z => by omega, fun _ => by omega⟩, fun b hb => ff b (hb _ (by omega) (by omega) (by omega)) (hb _ (by omega) (by omega) (by omega)) (hb _ (by omega) (by omega) (by omega)) (hb _ (by omega) (by omega) (by omega))⟩
            · unfold wu adP
              by_cases z : i = 0
              · rw [if_pos z, if_pos z]
              · rw [if_neg z, if_neg z, gr i i0 i1]
                by_cases z2 : i ≤ m - q
                · rw [if_pos (by omega), if_pos z2]; exact aρ _ (by omega) (by omega)
                · rw [if_neg (by omega), if_neg z2]; exact aρ _ i0 i1
            · unfold adP adH
              by_cases z : i = 0
              · rw [if_pos z, if_pos z, if_pos z]; exact ⟨pz, tn⟩
              · rw [if_neg z, if_neg z, if_neg z]
                by_cases z2 : i ≤ m - q
                · rw [if_pos z2, if_pos z2, if_pos z2]
                  have px := (aX (i - 1) (by omega) (by omega)).1
                  have pn : π (i - 1) ≠ π (m - q) := fun y => by have := hinj _ _ (by omega) (by omega) (by omega) (by omega) y; omega
                  exact ⟨px, (aX (i - 1) (by omega) (by omega)).2.mv (ff _ (hj.ne (by omega) (by omega) (by omega)) (hj.ne (by omega) (by omega) (by omega)) (hj.ne (by omega) (by omega) (by omega)) (hj.ne (by omega) (by omega) (by omega))) (ff _ (hj.ne (by omega) (by omega) (by omega)) (hj.ne (by omega) (by omega) (by omega)) (hj.ne (by omega) (by omega) (by omega)) (hj.ne (by omega) (by omega) (by omega)))⟩
                · rw [if_neg z2, if_neg z2, if_neg z2]
                  have px := (aX i i0 i1).1
                  have pn : π i ≠ π (m - q) := fun y => by have := hinj _ _ i0 i1 (by omega) (by omega) y; omega
                  exact ⟨px, (aX i i0 i1).2.mv (ff _ (hj.ne (by omega) (by omega) (by omega)) (hj.ne (by omega) (by omega) (by omega)) (hj.ne (by omega) (by omega) (by omega)) (hj.ne (by omega) (by omega) (by omega))) (ff _ (hj.ne (by omega) (by omega) (by omega)) (hj.ne (by omega) (by omega) (by omega)) (hj.ne (by omega) (by omega) (by omega)) (hj.ne (by omega) (by omega) (by omega)))⟩
            · unfold adP at e
              by_cases z : i = 0 <;> by_cases y : j = 0
              · omega
              · rw [if_pos z, if_neg y] at e
                split at e
                · have := hinj _ _ (by omega) (by omega) (by omega) (by omega) e; omega
                · have := hinj _ _ (by omega) (by omega) (by omega) (by omega) e; omega
              · rw [if_neg z, if_pos y] at e
                split at e
                · have := hinj _ _ (by omega) (by omega) (by omega) (by omega) e; omega
                · have := hinj _ _ (by omega) (by omega) (by omega) (by omega) e; omega
              · rw [if_neg z, if_neg y] at e
                split at e <;> split at e
                · have := hinj _ _ (by omega) (by omega) (by omega) (by omega) e; omega
                · have := hinj _ _ (by omega) (by omega) (by omega) (by omega) e; omega
                · have := hinj _ _ (by omega) (by omega) (by omega) (by omega) e; omega
                · have := hinj _ _ (by omega) (by omega) (by omega) (by omega) e; omega)
          · have e1 : r (j - 1) = some (sa (9 + π (j - 1))) := by rw [gr _ (by omega) (by omega), if_neg (by omega)]; exact aρ _ (by omega) (by omega)
            have pj := (aX (j - 1) (by omega) (by omega)).1
            have tj := (aX (j - 1) (by omega) (by omega)).2.mv (gf _ (hj.ne (by omega) (by omega) (by omega)) (hj.ne (by omega) (by omega) (by omega))) (gf _ (hj.ne (by omega) (by omega) (by omega)) (hj.ne (by omega) (by omega) (by omega)))
            refine z_aload_n0 hZ dX3_add_66 ?_
            refine z_gf_X3_rows hZ dX3_add_67 fl_X3_11 (by assumption) (by assumption) ?_
            refine z_iload7 hZ dX3_add_70 ?_
            refine z_aload_n0 hZ dX3_add_72 ?_
            refine z_gf_X3_rows hZ dX3_add_73 fl_X3_11 (by assumption) (by assumption) ?_
            refine z_iload7 hZ dX3_add_76 ?_
            refine z_iconst hZ dX3_add_78 ?_
            refine z_isub hZ dX3_add_79 ?_
            refine z_aaload_Text hZ dX3_add_80 (by assumption) (by assumption) (by omega) (by assumption) ?_
            refine z_aastore_Text hZ dX3_add_81 (by assumption) (by assumption) (by omega) tj.1.1 tj.2.1 (fun F81 hF81 hf81 => ?_)
            refine z_iinc7 hZ dX3_add_82 (by decide) rfl ?_
            refine z_goto hZ (tgt := 61) dX3_add_85 rfl ?_
            refine ih _ _ _ (by omega) (by omega) hF81 (fun i i0 i1 => ?_) ((hf81 _ (hj.ne (by omega) (by omega) (by omega))).trans g4) (fun b b4 b5 => (hf81 b b5).trans (gf b b4 b5)) (by omega)
            unfold wu
            by_cases z : i = j
            · rw [if_pos z, if_pos (by omega), z]; exact (aρ _ (by omega) (by omega)).symm
            · rw [if_neg z, gr i i0 i1]
              by_cases z2 : j < i ∧ i ≤ m - q
              · rw [if_pos z2, if_pos (by omega)]
              · rw [if_neg z2, if_neg (by omega)]
      refine z_istore4 hZ dX3_add_16 (by decide) rfl ?_
      refine z_aload_n0 hZ dX3_add_18 ?_
      refine z_aload_n0 hZ dX3_add_19 ?_
      refine z_gf_X3_count hZ dX3_add_20 fl_X3_31 (by assumption) (by assumption) ?_
      refine z_iconst hZ dX3_add_23 ?_
      refine z_iadd hZ dX3_add_24 ?_
      refine z_iload4 hZ dX3_add_25 ?_
      refine z_isub hZ dX3_add_27 ?_
      refine z_pf_X3_count hZ dX3_add_28 fl_X3_31 (by assumption) (by assumption) (fun F28 hF28 hf28 => ?_)
      have a5 := (hf28 _ (hj.ne (by omega) (by omega) (by omega))).trans a5
      refine z_iconst hZ dX3_add_31 ?_
      refine z_aload_n0 hZ dX3_add_32 ?_
      refine z_gf_X3_count hZ dX3_add_33 fl_X3_31 (by assumption) (by assumption) ?_
      refine z_bipush hZ dX3_add_36 rfl ?_
      refine z_min hZ dX3_add_38 ml_X3_45 (by omega) (Nat.le_of_ble_eq_true rfl) (Nat.le_of_ble_eq_true rfl) (Nat.le_of_ble_eq_true rfl) ⟨Nat.le_of_ble_eq_true rfl, Nat.le_of_ble_eq_true rfl⟩ ?_
      rw [if_neg (show ¬ (8 : Int) < m + 1 - q by omega)]
      refine z_iconst hZ dX3_add_41 ?_
      refine z_isub hZ dX3_add_42 ?_
      refine z_max hZ dX3_add_43 ml_X3_51 (by omega) (Nat.le_of_ble_eq_true rfl) (Nat.le_of_ble_eq_true rfl) (Nat.le_of_ble_eq_true rfl) ⟨Nat.le_of_ble_eq_true rfl, Nat.le_of_ble_eq_true rfl⟩ ?_
      rw [show (if (0 : Int) < m + 1 - q - 1 then m + 1 - q - 1 else 0) = m - q by split <;> omega]
      refine z_istore5 hZ dX3_add_46 (by decide) rfl ?_
      have ez := aρ (m - q) (by omega) (by omega)
      refine z_aload_n0 hZ dX3_add_48 ?_
      refine z_gf_X3_rows hZ dX3_add_49 fl_X3_11 (by assumption) (by assumption) ?_
      refine z_iload5 hZ dX3_add_52 ?_
      refine z_aaload_Text hZ dX3_add_54 (by assumption) (by assumption) (by omega) (by assumption) ?_
      refine z_astore6 hZ dX3_add_55 (by decide) rfl ?_
      refine z_iload5 hZ dX3_add_57 ?_
      refine z_istore7 hZ dX3_add_59 (by decide) rfl ?_
      exact k61 _ F28 ρ (m - q) (by omega) (by omega) a5 (fun i i0 i1 => by rw [if_neg (by omega)]) hF28 (fun b b4 _ => hf28 b b4) (Nat.lt_succ_self _)
    refine z_aload_n0 hZ dX3_add_0 ?_
    refine z_gf_X3_count hZ dX3_add_1 fl_X3_31 (by assumption) (by assumption) ?_
    refine z_aload_n0 hZ dX3_add_4 ?_
    refine z_gf_X3_caves hZ dX3_add_5 fl_X3_24 (by assumption) (by assumption) ?_
    refine z_icmp_lt hZ (tgt := 15) dX3_add_8 rfl (by omega) (fun hc8 => ?_) (fun hc8 => ?_)
    · refine z_iconst hZ dX3_add_15 ?_
      first | (rw [show q = 1 by rw [hq, if_pos (by omega)]] at key; exact key) | (rw [show q = 0 by rw [hq, if_neg (by omega)]] at key; exact key)
    · refine z_iconst hZ dX3_add_11 ?_
      refine z_goto hZ (tgt := 16) dX3_add_12 rfl ?_
      first | (rw [show q = 1 by rw [hq, if_pos (by omega)]] at key; exact key) | (rw [show q = 0 by rw [hq, if_neg (by omega)]] at key; exact key)
  exact hgo
set_option maxRecDepth 100000 in
set_option maxHeartbeats 4000000 in
theorem m_X0_copyFrom (l : Launch) {L : List Nat} {F : Nat → PE} {s s1 : Nat} {a0 a1 a2 a3 a4 a5 b0 b1 b2 b3 b4 b5 : Int32} (hs : s ∈ L) (hs1 : s1 ∈ L) (hd : s1 ≠ s) (t : F s = eO 0 [.int a0, .int a1, .int a2, .int a3, .int a4, .int a5]) (t1 : F s1 = eO 0 [.int b0, .int b1, .int b2, .int b3, .int b4, .int b5]) : PM l yX0_copyFrom cX0_copyFrom 2 none (rm 1 0 0) L [.ref s, .ref s1] F (fun v9 L1 F1 => v9 = none ∧ L = L1 ∧ F1 s = eO 0 [.int b0, .int b1, .int b2, .int b3, .int b4, .int b5] ∧ ∀ b, b ≠ s → F1 b = F b) (fun _ _ _ => False) := by
  refine pm_of cd_X0_copyFrom (by decide +kernel) (Nat.le_of_ble_eq_true rfl) (fun ZZ hZ => ?_)
  have hgo : ZZ 0 0 0 [some (.ref s), some (.ref s1)] [] L F := by
    refine z_aload_n0 hZ dX0_copyFrom_0 ?_
    refine z_aload_n1 hZ dX0_copyFrom_1 ?_
    refine z_gf_X0_written hZ dX0_copyFrom_2 fl_X0_7 (by assumption) (by assumption) ?_
    refine z_pf_X0_written hZ dX0_copyFrom_5 fl_X0_7 (by assumption) (by assumption) (fun F5 hF5 hf5 => ?_)
    have t1 := (hf5 _ hd).trans t1
    refine z_aload_n0 hZ dX0_copyFrom_8 ?_
    refine z_aload_n1 hZ dX0_copyFrom_9 ?_
    refine z_gf_X0_rubbed hZ dX0_copyFrom_10 fl_X0_13 (by assumption) (by assumption) ?_
    refine z_pf_X0_rubbed hZ dX0_copyFrom_13 fl_X0_13 (by assumption) (by assumption) (fun F13 hF13 hf13 => ?_)
    have t1 := (hf13 _ hd).trans t1
    refine z_aload_n0 hZ dX0_copyFrom_16 ?_
    refine z_aload_n1 hZ dX0_copyFrom_17 ?_
    refine z_gf_X0_killed hZ dX0_copyFrom_18 fl_X0_16 (by assumption) (by assumption) ?_
    refine z_pf_X0_killed hZ dX0_copyFrom_21 fl_X0_16 (by assumption) (by assumption) (fun F21 hF21 hf21 => ?_)
    have t1 := (hf21 _ hd).trans t1
    refine z_aload_n0 hZ dX0_copyFrom_24 ?_
    refine z_aload_n1 hZ dX0_copyFrom_25 ?_
    refine z_gf_X0_yanked hZ dX0_copyFrom_26 fl_X0_19 (by assumption) (by assumption) ?_
    refine z_pf_X0_yanked hZ dX0_copyFrom_29 fl_X0_19 (by assumption) (by assumption) (fun F29 hF29 hf29 => ?_)
    have t1 := (hf29 _ hd).trans t1
    refine z_aload_n0 hZ dX0_copyFrom_32 ?_
    refine z_aload_n1 hZ dX0_copyFrom_33 ?_
    refine z_gf_X0_takenOut hZ dX0_copyFrom_34 fl_X0_22 (by assumption) (by assumption) ?_
    refine z_pf_X0_takenOut hZ dX0_copyFrom_37 fl_X0_22 (by assumption) (by assumption) (fun F37 hF37 hf37 => ?_)
    have t1 := (hf37 _ hd).trans t1
    refine z_aload_n0 hZ dX0_copyFrom_40 ?_
    refine z_aload_n1 hZ dX0_copyFrom_41 ?_
    refine z_gf_X0_lost hZ dX0_copyFrom_42 fl_X0_25 (by assumption) (by assumption) ?_
    refine z_pf_X0_lost hZ dX0_copyFrom_45 fl_X0_25 (by assumption) (by assumption) (fun F45 hF45 hf45 => ?_)
    exact z_vret hZ rfl (Nat.le_of_ble_eq_true rfl) (Nat.le_of_ble_eq_true rfl) dX0_copyFrom_48 (by exact ⟨rfl, rfl, hF45, fun b h => ((((((hf45 b h).trans (hf37 b h)).trans (hf29 b h)).trans (hf21 b h)).trans (hf13 b h)).trans (hf5 b h))⟩)
  exact hgo
set_option maxRecDepth 100000 in
set_option maxHeartbeats 4000000 in
theorem m_X0_balance (l : Launch) {L : List Nat} {F : Nat → PE} {s : Nat} {a0 a1 a2 a3 a4 : Int} {a5 : Int32} (hs : s ∈ L) (t : F s = eO 0 [.int (iI a0), .int (iI a1), .int (iI a2), .int (iI a3), .int (iI a4), .int a5]) : PM l yX0_balance cX0_balance 1 (some .int) (rm 1 0 0) L [.ref s] F (fun v9 L1 F1 => v9 = some (.int (iI (a0 + a3 - a2 - a1 - a4))) ∧ L = L1 ∧ F = F1) (fun _ _ _ => False) := by
  refine pm_of cd_X0_balance (by decide +kernel) (Nat.le_of_ble_eq_true rfl) (fun ZZ hZ => ?_)
  have hgo : ZZ 0 0 0 [some (.ref s)] [] L F := by
    refine z_aload_n0 hZ dX0_balance_0 ?_
    refine z_gf_X0_written hZ dX0_balance_1 fl_X0_7 (by assumption) (by assumption) ?_
    refine z_aload_n0 hZ dX0_balance_4 ?_
    refine z_gf_X0_yanked hZ dX0_balance_5 fl_X0_19 (by assumption) (by assumption) ?_
    refine z_iadd hZ dX0_balance_8 ?_
    refine z_aload_n0 hZ dX0_balance_9 ?_
    refine z_gf_X0_killed hZ dX0_balance_10 fl_X0_16 (by assumption) (by assumption) ?_
    refine z_isub hZ dX0_balance_13 ?_
    refine z_aload_n0 hZ dX0_balance_14 ?_
    refine z_gf_X0_rubbed hZ dX0_balance_15 fl_X0_13 (by assumption) (by assumption) ?_
    refine z_isub hZ dX0_balance_18 ?_
    refine z_aload_n0 hZ dX0_balance_19 ?_
    refine z_gf_X0_takenOut hZ dX0_balance_20 fl_X0_22 (by assumption) (by assumption) ?_
    refine z_isub hZ dX0_balance_23 ?_
    exact z_iret hZ rfl (Nat.le_of_ble_eq_true rfl) (Nat.le_of_ble_eq_true rfl) dX0_balance_24 (by exact ⟨rfl, rfl, rfl⟩)
  exact hgo

