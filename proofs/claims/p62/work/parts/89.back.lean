/-! THE LAW, a change taken back. -/
set_option maxRecDepth 100000 in
set_option maxHeartbeats 8000000 in
theorem lw_back (l : Launch) (hfl : l.flags = flags0) {ZZ : ZT} {tbl : List ExceptionTableEntry} {nm ds : String} {Φ : State → Prop} {post : Option Value → List Nat → (Nat → PE) → Prop} {xp : String → List Nat → (Nat → PE) → Prop} (hZ : ZZ = Zq Φ tbl l ⟨"DragonRingLaw", nm, ds⟩ cL_law 13 (some .boolean) room_1 [] post xp) (hΦ : ∀ s, Φ s → va_Nc xS xA s) {b : Nat} {L : List Nat} {K : Nat → Nat} {i y gr told : Int} {v : Int → Int} {kd sv : Int} (hy : 0 ≤ y ∧ y ≤ 2147483647) (hsv : 0 ≤ sv ∧ sv ≤ 6) {A B : Nat} (hA : A ≤ 200000) (hB : B ≤ 2000000)
    (nxt : ∀ (a1 b1 : Nat) (F1 : Nat → PE) (x11 x12 : Option Value) (v2 : Int → Int) (kd2 sv2 : Int) (H2 Q2 : Int → Int → Int) (kp2 bf2 : Int → Int), a1 ≤ A + 20 → b1 ≤ B + 120 → dr L F1 K v2 kd2 sv2 H2 kp2 Q2 0 bf2 → jv v2 kd2 → ZZ a1 b1 412 [some (.ref b), some (.ref (K 0)), some (.int (iI 1)), some (.int (iI i)), some (.int (iI y)), some (.int (iI (nuA v))), some (.int (iI sv)), some (.int (iI gr)), some (.int (iI (v 3))), some (.int (iI (v 6))), some (.int (iI told)), x11, x12] [] L F1)
    {H Q : Int → Int → Int} {kp bf v1 : Int → Int} {k1 : Int} {F : Nat → PE} (t : dr L F K v1 k1 (hN sv) (hS sv H v) kp Q 0 bf) (hj : jv v1 k1) (a0 b0 : Nat) (ha : a0 ≤ A) (hb : b0 ≤ B) (x11 x12 : Option Value) (hc : c1 x11 = true) :
    ZZ a0 b0 311 [some (.ref b), some (.ref (K 0)), some (.int (iI 1)), some (.int (iI i)), some (.int (iI y)), some (.int (iI (nuA v))), some (.int (iI sv)), some (.int (iI gr)), some (.int (iI (v 3))), some (.int (iI (v 6))), some (.int (iI told)), x11, x12] [] L F := by
  have hh : (sv = 6 ∧ hN sv = 6) ∨ (sv < 6 ∧ hN sv = sv + 1) := by
    unfold hN
    by_cases q : sv < 6
    · exact Or.inr ⟨q, if_pos q⟩
    · exact Or.inl ⟨by omega, if_neg q⟩
  refine zq_iload_n2 hZ dL_law_311 ?_
  refine zq_if_eq hZ (tgt := 412) dL_law_312 rfl (by omega) (fun hc312 => ?_) (fun hc312 => ?_)
  · exfalso; omega
  · refine zq_iload4 hZ dL_law_315 ?_
    refine zq_bipush hZ dL_law_317 rfl ?_
    refine zq_idiv hZ dL_law_319 (by omega) ?_
    refine zq_iconst hZ dL_law_320 ?_
    refine zq_irem hZ dL_law_321 (by omega) ?_
    refine zq_if_ne hZ (tgt := 412) dL_law_322 rfl (by omega) (fun hc322 => ?_) (fun hc322 => ?_)
    · exact nxt _ _ _ _ _ _ _ _ _ _ _ _ (by omega) (by omega) t hj
    · refine zq_aload_n1 hZ dL_law_325 ?_
      refine zq_cNr hZ hΦ (As := [_]) rfl dL_law_326 ml_L_267 wy_L_numbers (m_L_numbers l hfl t) ⟨Nat.le_of_ble_eq_true rfl, Nat.le_of_ble_eq_true rfl⟩ (by omega) (Nat.le_of_ble_eq_true rfl) (fun v326 L326 F326 hp326 => ?_)
      obtain ⟨rfl, rfl, rfl⟩ := hp326
      refine zq_istore12 hZ dL_law_329 (by decide) hc ?_
      refine zq_aload_n1 hZ dL_law_331 ?_
      refine zq_iconst hZ dL_law_332 ?_
      refine zq_cSr hZ hΦ (As := [_, _]) rfl dL_law_333 ml_L_257 wy_L_keep (m_L_keep l hfl t (by omega)) ⟨Nat.le_of_ble_eq_true rfl, Nat.le_of_ble_eq_true rfl⟩ (by omega) (Nat.le_of_ble_eq_true rfl) (fun v333 L333 F333 hp333 => ?_)
      obtain ⟨rfl, ⟨-, rfl, t3⟩ | ⟨q, -⟩⟩ := hp333
      rotate_left
      · exact absurd (by omega) q
      refine zq_if_ne hZ (tgt := 410) dL_law_336 rfl (by omega) (fun hc336 => ?_) (fun hc336 => ?_)
      · exfalso; omega
      · refine zq_aload_n1 hZ dL_law_339 ?_
        refine zq_cSr hZ hΦ (As := [_]) rfl dL_law_340 ml_L_252 wy_L_undo (m_L_undo l hfl t3) ⟨Nat.le_of_ble_eq_true rfl, Nat.le_of_ble_eq_true rfl⟩ (by omega) (Nat.le_of_ble_eq_true rfl) (fun v340 L340 F340 hp340 => ?_)
        obtain ⟨rfl, ⟨-, rfl, t4⟩ | ⟨q, -⟩⟩ := hp340
        rotate_left
        · exact absurd (by omega) q
        rw [hS_top hsv] at t4
        have hK4 := dr.L t4 0 (by omega)
        have hF4 := (dr.S t4).2.1
        refine zq_if_ne hZ (tgt := 410) dL_law_343 rfl (by omega) (fun hc343 => ?_) (fun hc343 => ?_)
        · exfalso; omega
        · refine zq_aload_n1 hZ dL_law_346 ?_
          refine zq_cVr hZ (As := []) rfl dL_law_347 ml_L_270 wy_X7_savedStates (m_X7_savedStates l t4) hK4 hF4 rfl ⟨Nat.le_of_ble_eq_true rfl, Nat.le_of_ble_eq_true rfl⟩ (by omega) (Nat.le_of_ble_eq_true rfl) (fun _ _ _ h => h.elim) (fun v347 L347 F347 hp347 => ?_)
          obtain ⟨rfl, rfl, rfl⟩ := hp347
          refine zq_iload6 hZ dL_law_350 ?_
          refine zq_bipush hZ dL_law_352 rfl ?_
          refine zq_icmp_ne hZ (tgt := 361) dL_law_354 rfl (by omega) (fun hc354 => ?_) (fun hc354 => ?_)
          · refine zq_iload6 hZ dL_law_361 ?_
            refine zq_icmp_ne hZ (tgt := 410) dL_law_363 rfl (by omega) (fun hc363 => ?_) (fun hc363 => ?_)
            · exfalso; omega
            · refine zq_aload_n1 hZ dL_law_366 ?_
              refine zq_cNr hZ hΦ (As := [_]) rfl dL_law_367 ml_L_267 wy_L_numbers (m_L_numbers l hfl t4) ⟨Nat.le_of_ble_eq_true rfl, Nat.le_of_ble_eq_true rfl⟩ (by omega) (Nat.le_of_ble_eq_true rfl) (fun v367 L367 F367 hp367 => ?_)
              obtain ⟨rfl, rfl, rfl⟩ := hp367
              refine zq_iload5 hZ dL_law_370 ?_
              refine zq_icmp_ne_raw hZ (tgt := 410) dL_law_372 rfl (fun hc372 => ?_) (fun hc372 => ?_)
              · exact absurd rfl hc372
              · refine zq_aload_n1 hZ dL_law_375 ?_
                refine zq_cVr hZ (As := []) rfl dL_law_376 ml_L_236 wy_X7_isGrowing (m_X7_isGrowing l t4) hK4 hF4 rfl ⟨Nat.le_of_ble_eq_true rfl, Nat.le_of_ble_eq_true rfl⟩ (by omega) (Nat.le_of_ble_eq_true rfl) (fun _ _ _ h => h.elim) (fun v376 L376 F376 hp376 => ?_)
                obtain ⟨rfl, rfl, rfl⟩ := hp376
                rw [if_neg (by decide)]
                refine zq_if_ne hZ (tgt := 410) dL_law_379 rfl (by omega) (fun hc379 => ?_) (fun hc379 => ?_)
                · exfalso; omega
                · refine zq_aload_n1 hZ dL_law_382 ?_
                  refine zq_cVr hZ (As := []) rfl dL_law_383 ml_L_240 wy_X7_canTurnYank (m_X7_canTurnYank l t4) hK4 hF4 rfl ⟨Nat.le_of_ble_eq_true rfl, Nat.le_of_ble_eq_true rfl⟩ (by omega) (Nat.le_of_ble_eq_true rfl) (fun _ _ _ h => h.elim) (fun v383 L383 F383 hp383 => ?_)
                  obtain ⟨rfl, rfl, rfl⟩ := hp383
                  rw [if_neg (by decide)]
                  refine zq_if_ne hZ (tgt := 410) dL_law_386 rfl (by omega) (fun hc386 => ?_) (fun hc386 => ?_)
                  · exfalso; omega
                  · refine zq_aload_n1 hZ dL_law_389 ?_
                    refine zq_iconst hZ dL_law_390 ?_
                    refine zq_cSr hZ hΦ (As := [_, _]) rfl dL_law_391 ml_L_254 wy_L_back (m_L_back l hfl t4 (by omega)) ⟨Nat.le_of_ble_eq_true rfl, Nat.le_of_ble_eq_true rfl⟩ (by omega) (Nat.le_of_ble_eq_true rfl) (fun v391 L391 F391 hp391 => ?_)
                    obtain ⟨rfl, ⟨-, -, rfl, t5⟩ | ⟨q, -⟩ | ⟨-, q, -⟩⟩ := hp391
                    rotate_left
                    · exact absurd (by omega) q
                    · exact absurd wu_s q
                    rw [show wu Q 1 v1 1 = v1 from wu_s] at t5
                    refine zq_if_ne hZ (tgt := 410) dL_law_394 rfl (by omega) (fun hc394 => ?_) (fun hc394 => ?_)
                    · exfalso; omega
                    · refine zq_aload_n1 hZ dL_law_397 ?_
                      refine zq_cNr hZ hΦ (As := [_]) rfl dL_law_398 ml_L_267 wy_L_numbers (m_L_numbers l hfl t5) ⟨Nat.le_of_ble_eq_true rfl, Nat.le_of_ble_eq_true rfl⟩ (by omega) (Nat.le_of_ble_eq_true rfl) (fun v398 L398 F398 hp398 => ?_)
                      obtain ⟨rfl, rfl, rfl⟩ := hp398
                      refine zq_iload12 hZ dL_law_401 ?_
                      refine zq_icmp_ne_raw hZ (tgt := 410) dL_law_403 rfl (fun hc403 => ?_) (fun hc403 => ?_)
                      · exact absurd rfl hc403
                      · refine zq_iconst hZ dL_law_406 ?_
                        refine zq_goto hZ (tgt := 411) dL_law_407 rfl ?_
                        refine zq_istore_n2 hZ dL_law_411 (by decide) rfl ?_
                        exact nxt _ _ _ _ _ _ _ _ _ _ _ _ (by omega) (by omega) t5 jv0
          · refine zq_iconst hZ dL_law_357 ?_
            refine zq_goto hZ (tgt := 363) dL_law_358 rfl ?_
            refine zq_icmp_ne hZ (tgt := 410) dL_law_363 rfl (by omega) (fun hc363 => ?_) (fun hc363 => ?_)
            · exfalso; omega
            · refine zq_aload_n1 hZ dL_law_366 ?_
              refine zq_cNr hZ hΦ (As := [_]) rfl dL_law_367 ml_L_267 wy_L_numbers (m_L_numbers l hfl t4) ⟨Nat.le_of_ble_eq_true rfl, Nat.le_of_ble_eq_true rfl⟩ (by omega) (Nat.le_of_ble_eq_true rfl) (fun v367 L367 F367 hp367 => ?_)
              obtain ⟨rfl, rfl, rfl⟩ := hp367
              refine zq_iload5 hZ dL_law_370 ?_
              refine zq_icmp_ne_raw hZ (tgt := 410) dL_law_372 rfl (fun hc372 => ?_) (fun hc372 => ?_)
              · exact absurd rfl hc372
              · refine zq_aload_n1 hZ dL_law_375 ?_
                refine zq_cVr hZ (As := []) rfl dL_law_376 ml_L_236 wy_X7_isGrowing (m_X7_isGrowing l t4) hK4 hF4 rfl ⟨Nat.le_of_ble_eq_true rfl, Nat.le_of_ble_eq_true rfl⟩ (by omega) (Nat.le_of_ble_eq_true rfl) (fun _ _ _ h => h.elim) (fun v376 L376 F376 hp376 => ?_)
                obtain ⟨rfl, rfl, rfl⟩ := hp376
                rw [if_neg (by decide)]
                refine zq_if_ne hZ (tgt := 410) dL_law_379 rfl (by omega) (fun hc379 => ?_) (fun hc379 => ?_)
                · exfalso; omega
                · refine zq_aload_n1 hZ dL_law_382 ?_
                  refine zq_cVr hZ (As := []) rfl dL_law_383 ml_L_240 wy_X7_canTurnYank (m_X7_canTurnYank l t4) hK4 hF4 rfl ⟨Nat.le_of_ble_eq_true rfl, Nat.le_of_ble_eq_true rfl⟩ (by omega) (Nat.le_of_ble_eq_true rfl) (fun _ _ _ h => h.elim) (fun v383 L383 F383 hp383 => ?_)
                  obtain ⟨rfl, rfl, rfl⟩ := hp383
                  rw [if_neg (by decide)]
                  refine zq_if_ne hZ (tgt := 410) dL_law_386 rfl (by omega) (fun hc386 => ?_) (fun hc386 => ?_)
                  · exfalso; omega
                  · refine zq_aload_n1 hZ dL_law_389 ?_
                    refine zq_iconst hZ dL_law_390 ?_
                    refine zq_cSr hZ hΦ (As := [_, _]) rfl dL_law_391 ml_L_254 wy_L_back (m_L_back l hfl t4 (by omega)) ⟨Nat.le_of_ble_eq_true rfl, Nat.le_of_ble_eq_true rfl⟩ (by omega) (Nat.le_of_ble_eq_true rfl) (fun v391 L391 F391 hp391 => ?_)
                    obtain ⟨rfl, ⟨-, -, rfl, t5⟩ | ⟨q, -⟩ | ⟨-, q, -⟩⟩ := hp391
                    rotate_left
                    · exact absurd (by omega) q
                    · exact absurd wu_s q
                    rw [show wu Q 1 v1 1 = v1 from wu_s] at t5
                    refine zq_if_ne hZ (tgt := 410) dL_law_394 rfl (by omega) (fun hc394 => ?_) (fun hc394 => ?_)
                    · exfalso; omega
                    · refine zq_aload_n1 hZ dL_law_397 ?_
                      refine zq_cNr hZ hΦ (As := [_]) rfl dL_law_398 ml_L_267 wy_L_numbers (m_L_numbers l hfl t5) ⟨Nat.le_of_ble_eq_true rfl, Nat.le_of_ble_eq_true rfl⟩ (by omega) (Nat.le_of_ble_eq_true rfl) (fun v398 L398 F398 hp398 => ?_)
                      obtain ⟨rfl, rfl, rfl⟩ := hp398
                      refine zq_iload12 hZ dL_law_401 ?_
                      refine zq_icmp_ne_raw hZ (tgt := 410) dL_law_403 rfl (fun hc403 => ?_) (fun hc403 => ?_)
                      · exact absurd rfl hc403
                      · refine zq_iconst hZ dL_law_406 ?_
                        refine zq_goto hZ (tgt := 411) dL_law_407 rfl ?_
                        refine zq_istore_n2 hZ dL_law_411 (by decide) rfl ?_
                        exact nxt _ _ _ _ _ _ _ _ _ _ _ _ (by omega) (by omega) t5 jv0
