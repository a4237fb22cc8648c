/-! THE LAW, its beginning. -/
set_option maxRecDepth 100000 in
set_option maxHeartbeats 8000000 in
theorem lw_begin (l : Launch) (hfl : l.flags = flags0) {ZZ : ZT} {tbl : List ExceptionTableEntry} {nm ds : String} {Φ : State → Prop} {post : Option Value → List Nat → (Nat → PE) → Prop} {xp : String → List Nat → (Nat → PE) → Prop} (hZ : ZZ = Zq Φ tbl l ⟨"DragonRingLaw", nm, ds⟩ cL_law 13 (some .boolean) room_1 [] post xp) (hΦ : ∀ s, Φ s → va_Nc xS xA s) {b Ls : Nat} {sx : Int → Int} (hsx : ∀ s, Φ s → va_X b Ls (fun j => iI (sx (j : Int))) s s.heap ∧ b < s.heap.size) (hLs : Ls ≤ 260) (hpost : ∀ L F, post (some (.int (iI 1))) L F) (F : Nat → PE) :
    ZZ 0 0 0 [some (.ref b), none, none, none, none, none, none, none, none, none, none, none, none] [] [] F := by
  refine zq_newG hZ (ci := 7) (T := TX7) (tyc := tyX7) dL_law_0 inw7 tyX7_ok cl_L_10 it_X7 in_X7 rfl (fun j hj => by rcases (show j = 0 ∨ j = 1 ∨ j = 2 ∨ j = 3 ∨ j = 4 by omega) with rfl | rfl | rfl | rfl | rfl <;> rfl) ⟨Nat.le_of_ble_eq_true rfl, Nat.le_of_ble_eq_true rfl⟩ (fs := [.null, .null, .null, .null, .null]) (fun x F1 nx hx1 fx1 => ?_)
  refine zq_dup hZ dL_law_3 rfl ?_
  refine zq_cI hZ (As := []) rfl dL_law_4 ml_L_251 wy_X7_init (m_X7_init l in_sn hx1) ⟨Nat.le_of_ble_eq_true rfl, Nat.le_of_ble_eq_true rfl⟩ ⟨Nat.le_of_ble_eq_true rfl, Nat.le_of_ble_eq_true rfl⟩ (Nat.le_of_ble_eq_true rfl) (fun _ _ _ h => h.elim) (fun v9 L F2 hp => ?_)
  obtain ⟨rfl, K, hK0, nwK, ⟨kp, rfl, hdb⟩, e2⟩ := hp
  subst hK0
  have t : dr L F2 K vI 0 0 (fun _ => vI) (fun _ => 0) (fun _ => vI) 0 (fun _ => 0) := ⟨0, fun _ => vI, fun _ => 0, hdb, ⟨rfl, fun j j1 j2 => by omega, fun s _ h => absurd h (show ¬ (0 : Int) = 1 by decide)⟩, rfl⟩
  refine zq_astore_n1 hZ dL_law_7 (by decide) rfl ?_
  show ZZ (0 + 1 + 256) (0 + 5 + 18536) 8 [some (.ref b), some (.ref (K 0)), none, none, none, none, none, none, none, none, none, none, none] [] L F2
  refine zq_aload_n1 hZ dL_law_8 ?_
  refine zq_cSr hZ hΦ (As := [_]) rfl dL_law_9 ml_L_252 wy_L_undo (m_L_undo l hfl t) ⟨Nat.le_of_ble_eq_true rfl, Nat.le_of_ble_eq_true rfl⟩ (by omega) (Nat.le_of_ble_eq_true rfl) (fun v9 L9 F9 hp9 => ?_)
  obtain ⟨rfl, ⟨q, -⟩ | ⟨-, rfl, t1⟩⟩ := hp9
  · exact absurd q (by decide)
  refine zq_ldc hZ dL_law_12 kc_L_17 ?_
  refine zq_icmp_ne_raw hZ (tgt := 48) dL_law_14 rfl (fun hc14 => ?_) (fun hc14 => ?_)
  · exact absurd rfl hc14
  · refine zq_aload_n1 hZ dL_law_17 ?_
    refine zq_iconst hZ dL_law_18 ?_
    refine zq_cSr hZ hΦ (As := [_, _]) rfl dL_law_19 ml_L_254 wy_L_back (m_L_back l hfl t1 (by omega)) ⟨Nat.le_of_ble_eq_true rfl, Nat.le_of_ble_eq_true rfl⟩ (by omega) (Nat.le_of_ble_eq_true rfl) (fun v19 L19 F19 hp19 => ?_)
    obtain ⟨rfl, ⟨-, q, -⟩ | ⟨q, -⟩ | ⟨-, -, rfl, t2⟩⟩ := hp19
    · exact absurd q (show ¬ (0 : Int) = 1 by decide)
    · exact absurd (by omega) q
    refine zq_ldc hZ dL_law_22 kc_L_20 ?_
    refine zq_icmp_ne_raw hZ (tgt := 48) dL_law_24 rfl (fun hc24 => ?_) (fun hc24 => ?_)
    · exact absurd rfl hc24
    · refine zq_aload_n1 hZ dL_law_27 ?_
      refine zq_iconst hZ dL_law_28 ?_
      refine zq_cSr hZ hΦ (As := [_, _]) rfl dL_law_29 ml_L_257 wy_L_keep (m_L_keep l hfl t2 (by omega)) ⟨Nat.le_of_ble_eq_true rfl, Nat.le_of_ble_eq_true rfl⟩ (by omega) (Nat.le_of_ble_eq_true rfl) (fun v29 L29 F29 hp29 => ?_)
      obtain ⟨rfl, ⟨q, -⟩ | ⟨-, rfl, t3⟩⟩ := hp29
      · exact absurd q (by omega)
      refine zq_ldc hZ dL_law_32 kc_L_17 ?_
      refine zq_icmp_ne_raw hZ (tgt := 48) dL_law_34 rfl (fun hc34 => ?_) (fun hc34 => ?_)
      · exact absurd rfl hc34
      · refine zq_aload_n1 hZ dL_law_37 ?_
        refine zq_cNr hZ hΦ (As := [_]) rfl dL_law_38 ml_L_259 wy_L_hangs (m_L_hangs l hfl t3 jv0) ⟨Nat.le_of_ble_eq_true rfl, Nat.le_of_ble_eq_true rfl⟩ (by omega) (Nat.le_of_ble_eq_true rfl) (fun v38 L38 F38 hp38 => ?_)
        obtain ⟨rfl, rfl, rfl⟩ := hp38
        refine zq_if_eq hZ (tgt := 48) dL_law_41 rfl (by omega) (fun hc41 => ?_) (fun hc41 => ?_)
        · exfalso; omega
        · refine zq_iconst hZ dL_law_44 ?_
          refine zq_goto hZ (tgt := 49) dL_law_45 rfl ?_
          refine zq_istore_n2 hZ dL_law_49 (by decide) rfl ?_
          refine zq_iconst hZ dL_law_50 ?_
          refine zq_istore_n3 hZ dL_law_51 (by decide) rfl ?_
          exact lw_loop l hfl hZ hΦ hsx hLs hpost _ 0 _ _ _ _ _ _ _ _ _ _ _ _ _ _ _ _ _ _ _ (Nat.lt_succ_self _) (by omega) (by omega) (by omega) (by omega) t3 jv0
