/-! THE LAW, its beginning. -/
set_option maxRecDepth 100000 in
set_option maxHeartbeats 4000000 in
theorem lw_begin (l : Launch) (hfl : l.flags = flags0) {ZZ : ZT} {tbl : List ExceptionTableEntry} {nm ds : String} {Φ : State → Prop} {post : Option Value → List Nat → (Nat → PE) → Prop} {xp : String → List Nat → (Nat → PE) → Prop} (hZ : ZZ = Zq Φ tbl l ⟨"DragonRingLaw", nm, ds⟩ cL_law 9 (some .boolean) room_1 [] post xp) (hΦ : ∀ s, Φ s → va_Nc xS xA s) {b Ls : Nat} {sx : Int → Int} (hsx : ∀ s, Φ s → va_X b Ls (fun j => iI (sx (j : Int))) s s.heap ∧ b < s.heap.size) (hok : ∀ j, -2147483648 ≤ sx j ∧ sx j ≤ 2147483647) (hLs : Ls ≤ 1536) (hpost : ∀ L F, post (some (.int (iI 1))) L F) (F : Nat → PE) :
    ZZ 0 0 0 [some (.ref b), none, none, none, none, none, none, none, none] [] [] F := by
  refine zq_newG hZ (ci := 7) (T := TX7) (tyc := tyX7) dL_law_0 inw7 tyX7_ok cl_L_8 it_X7 in_X7 rfl (fun j hj => by rcases (show j = 0 ∨ j = 1 ∨ j = 2 ∨ j = 3 ∨ j = 4 by omega) with rfl | rfl | rfl | rfl | rfl <;> rfl) ⟨Nat.le_of_ble_eq_true rfl, Nat.le_of_ble_eq_true rfl⟩ (fs := [.null, .null, .null, .null, .null]) (fun x F1 nx hx1 fx1 => ?_)
  refine zq_dup hZ dL_law_3 rfl ?_
  refine zq_cI hZ (As := []) rfl dL_law_4 ml_L_106 wy_X7_init (m_X7_init l in_sn hx1) ⟨Nat.le_of_ble_eq_true rfl, Nat.le_of_ble_eq_true rfl⟩ ⟨Nat.le_of_ble_eq_true rfl, Nat.le_of_ble_eq_true rfl⟩ (Nat.le_of_ble_eq_true rfl) (fun _ _ _ h => h.elim) (fun v9 LX F2 hp => ?_)
  obtain ⟨rfl, K, hK0, nwK, ⟨kp, rfl, hdb⟩, e2⟩ := hp
  subst hK0
  refine zq_astore_n1 hZ dL_law_7 (by decide) rfl ?_
  refine zq_newG hZ (ci := 8) (T := TX8) (tyc := tyX8) dL_law_8 inw8 tyX8_ok cl_L_107 it_X8 in_X8 rfl (fun j hj => by rcases (show j = 0 ∨ j = 1 ∨ j = 2 ∨ j = 3 ∨ j = 4 ∨ j = 5 ∨ j = 6 ∨ j = 7 ∨ j = 8 ∨ j = 9 by omega) with rfl | rfl | rfl | rfl | rfl | rfl | rfl | rfl | rfl | rfl <;> rfl) ⟨Nat.le_of_ble_eq_true rfl, Nat.le_of_ble_eq_true rfl⟩ (fs := [.null, .int (iI 0), .null, .int (iI 0), .int (iI 0), .null, .int (iI 0), .int (iI 0), .int (iI 0), .int (iI 0)]) (fun m F3 nm3 hm3 fm3 => ?_)
  refine zq_dup hZ dL_law_11 rfl ?_
  refine zq_cI hZ (As := []) rfl dL_law_12 ml_L_109 wy_X8_init (m_X8_init l in_sn hm3) ⟨Nat.le_of_ble_eq_true rfl, Nat.le_of_ble_eq_true rfl⟩ ⟨Nat.le_of_ble_eq_true rfl, Nat.le_of_ble_eq_true rfl⟩ (Nat.le_of_ble_eq_true rfl) (fun _ _ _ h => h.elim) (fun v9 L4 F4 hp => ?_)
  obtain ⟨rfl, a, q, c, ⟨na, nq, nc⟩, rfl, hmo, e4⟩ := hp
  refine zq_astore_n2 hZ dL_law_15 (by decide) rfl ?_
  refine zq_iconst hZ dL_law_16 ?_
  refine zq_newarrL hZ (N := 1) dL_law_17 ac_long (by decide) ⟨Nat.le_of_ble_eq_true rfl, Nat.le_of_ble_eq_true rfl⟩ (fun o F5 no ho5 fo5 => ?_)
  refine zq_astore_n3 hZ dL_law_19 (by decide) rfl ?_
  refine zq_iconst hZ dL_law_20 ?_
  refine zq_istore4 hZ dL_law_21 (by decide) rfl ?_
  have hmA := hmo.1
  obtain ⟨⟨lm, la, lq, lc⟩, dma, dmq, dmc, daq, dac, dqc⟩ := hmA
  have om : o ≠ m := fun e => no (e ▸ lm)
  have oa : o ≠ a := fun e => no (e ▸ la)
  have oq : o ≠ q := fun e => no (e ▸ lq)
  have oc : o ≠ c := fun e => no (e ▸ lc)
  have hLS : LSx LX m a q c o := by
    refine ⟨fun b hb => ⟨fun e => nm3 (e ▸ hb), fun e => na (e ▸ in_sl hb), fun e => nq (e ▸ in_sl hb), fun e => nc (e ▸ in_sl hb), fun e => no (e ▸ in_sl (in_sl (in_sl (in_sl hb))))⟩, om, oa, oq, oc⟩
  have hKL : ∀ i, i < 257 → F5 (K i) = F2 (K i) := by
    intro i hi
    have hb := hdb.1.1 i hi
    have z := hLS.1 _ hb
    rw [fo5 _ z.2.2.2.2, e4 _ (in_sl hb) z.1, fm3 _ z.1]
  have hdg : dg LX F5 K vI 0 0 (fun _ => 0) 0 (fun _ => 0) := by
    refine ⟨0, fun _ => vI, fun _ => 0, hdb.mv hKL, ⟨rfl, fun j j1 j2 => by omega, fun s _ h => absurd h (show ¬ (0 : Int) = 1 by decide)⟩, rfl⟩
  have hpool : LX ++ [m] ++ [a] ++ [q] ++ [c] ++ [o] = LX ++ [m, a, q, c, o] := by simp [List.append_assoc]
  have hmo5 : mo (LX ++ [m, a, q, c, o]) F5 m a q c vI 0 0 0 0 0 0 0 (fun _ => 0) (fun _ => 0) := by
    have z := mo.mv (F1 := F5) hmo (fo5 _ (Ne.symm om)) (fo5 _ (Ne.symm oa)) (fo5 _ (Ne.symm oq)) (fo5 _ (Ne.symm oc))
    rw [g00_vI] at z
    exact ⟨⟨⟨by simp, by simp, by simp, by simp⟩, dma, dmq, dmc, daq, dac, dqc⟩, z.2⟩
  have hLI : LI LX F5 K m a q c o := ⟨vI, 0, 0, _, 0, _, 0, 0, 0, 0, _, hdg, hmo5, ho5⟩
  have fin := lw_loop l hfl hZ hΦ hsx hok hLS hLs hpost (Ls + 3) 0 (0 + 1 + (rm 6 256 18536).cells + 1 + (rm 1 3 18242).cells + 1) (0 + 5 + (rm 6 256 18536).slots + 10 + (rm 1 3 18242).slots + 1) F5 none none none none (by omega) (by omega) (by omega) hLI (by decide) (by decide)
  rw [← hpool] at fin
  exact fin
