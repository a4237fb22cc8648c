/-! THE SCROLL, THE RING AND THE ACCOUNTS TELL THE SAME. -/
theorem smH_s {hl : Int → Int} {i : Int} (q : 0 ≤ i) : smH hl (i + 1).toNat = smH hl i.toNat + hl i := by
  rw [show (i + 1).toNat = i.toNat + 1 by omega]
  show smH hl i.toNat + hl (i.toNat : Int) = _
  rw [Int.toNat_of_nonneg q]
set_option maxRecDepth 100000 in
set_option maxHeartbeats 8000000 in
theorem m_L_hangs (l : Launch) {L : List Nat} {F : Nat → PE} {K : Nat → Nat} {v : Int → Int} {kd sv n : Int} {H Q : Int → Int → Int} {kp bf : Int → Int} (hfl : l.flags = flags0) (t : dr L F K v kd sv H kp Q n bf) (hj : jv v kd) : PMf (va_Nc xS xA) l yL_hangs cL_hangs 4 (some .boolean) (rm 9 800 4800) L [.ref (K 0)] F (fun v9 L1 F1 => v9 = some (.int (iI 1)) ∧ L = L1 ∧ F = F1) := by
  refine pmf_of cd_L_hangs (by decide +kernel) (Nat.le_of_ble_eq_true rfl) (fun ZZ hZ => ?_)
  have hgo : ZZ 0 0 0 [some (.ref (K 0)), none, none, none] [] L F := by
    have fx := dr.fx t
    have r := fx.1.1
    have hi := fx.1.2.1
    have hK0 := dr.L t 0 (by omega)
    have hF0 := (dr.S t).2.1
    obtain ⟨gr, hgr⟩ : ∃ gr : Int, gr = if kd = 1 then 1 else 0 := ⟨_, rfl⟩
    obtain ⟨cy, hcy⟩ : ∃ cy : Int, cy = if kd = 2 then 1 else 0 := ⟨_, rfl⟩
    have gg : (kd = 1 ∧ gr = 1) ∨ (kd ≠ 1 ∧ gr = 0) := by
      by_cases q : kd = 1
      · exact Or.inl ⟨q, by rw [hgr, if_pos q]⟩
      · exact Or.inr ⟨q, by rw [hgr, if_neg q]⟩
    have cc2 : (kd = 2 ∧ cy = 1) ∨ (kd ≠ 2 ∧ cy = 0) := by
      by_cases q : kd = 2
      · exact Or.inl ⟨q, by rw [hcy, if_pos q]⟩
      · exact Or.inr ⟨q, by rw [hcy, if_neg q]⟩
    have hk1 := hi.2.2.2.2.1
    have hk2 := hi.2.2.2.2.2
    have hn4 := hi.2.2.1
    have hmk : (v 2 = -1 ∧ mkQ v = -2000001 ∧ apQ v = -2000001) ∨ (0 ≤ v 2 ∧ mkQ v = v 2 ∧ apQ v = abI (v 2 - v 1) ∧ 0 ≤ apQ v ∧ apQ v ≤ 200) := by
      by_cases q : v 2 ≠ -1
      · have e1 : mkQ v = v 2 := if_pos q
        have e2 : apQ v = abI (v 2 - v 1) := if_pos q
        have := abI_rg (a := v 2) (b := v 1) (by omega)
        exact Or.inr ⟨by omega, e1, e2, by omega, by omega⟩
      · exact Or.inl ⟨by omega, if_neg q, if_neg q⟩
    have rl := li_lt fx.1
    have rl0 : 0 ≤ liA v := (cn_rg _).1
    have rl1 : lnA v ≤ 201 := by
      have z := (cn_rg (P := isE (v 0) (fT v)) (v 0).toNat).2
      unfold lnA
      omega
    have rlo : 0 ≤ loA v ∧ loA v ≤ 201 := by
      have z := mxL_rg (n := v 0) (f := fT v) (v 0 + 1).toNat (by omega)
      unfold loA
      omega
    have rco := co_le fx.1
    have rB := lB_rg (n := v 0) (f := fT v) (p := v 1) (by omega)
    have k439 : ∀ (a b : Nat) (x1 x3 : Option Value), a ≤ 780 → b ≤ 4680 → ZZ a b 439 [some (.ref (K 0)), x1, some (.int (iI 1)), x3] [] L F := by
      intro a b x1 x3 ha hb
      refine zq_iload_n2 hZ dL_hangs_439 ?_
      refine zq_if_eq hZ (tgt := 461) dL_hangs_440 rfl (by omega) (fun hc440 => ?_) (fun hc440 => ?_)
      · exfalso; omega
      · refine zq_aload_n0 hZ dL_hangs_443 ?_
        refine zq_cVr hZ (As := []) rfl dL_hangs_444 ml_L_236 wy_X7_isGrowing (m_X7_isGrowing l t) hK0 hF0 rfl ⟨Nat.le_of_ble_eq_true rfl, Nat.le_of_ble_eq_true rfl⟩ (by omega) (Nat.le_of_ble_eq_true rfl) (fun _ _ _ h => h.elim) (fun v444 L444 F444 hp444 => ?_)
        obtain ⟨rfl, rfl, rfl⟩ := hp444
        rw [← hgr]
        refine zq_if_eq hZ (tgt := 457) dL_hangs_447 rfl (by omega) (fun hc447 => ?_) (fun hc447 => ?_)
        · refine zq_iconst hZ dL_hangs_457 ?_
          refine zq_goto hZ (tgt := 462) dL_hangs_458 rfl ?_
          exact zq_zret hZ rfl (by show _ ≤ 800; omega) (by show _ ≤ 4800; omega) dL_hangs_462 (by omega) (by exact ⟨rfl, rfl, rfl⟩)
        · refine zq_aload_n0 hZ dL_hangs_450 ?_
          refine zq_cSr hZ (fun _ h => h) (As := [_]) rfl dL_hangs_451 ml_L_207 wy_L_next (m_L_next l hfl t) ⟨Nat.le_of_ble_eq_true rfl, Nat.le_of_ble_eq_true rfl⟩ (by omega) (Nat.le_of_ble_eq_true rfl) (fun v451 L451 F451 hp451 => ?_)
          obtain ⟨rfl, rfl, rfl⟩ := hp451
          have enx : nxQ v = v 4 := if_pos (by omega)
          have e4 := hj.1 (by omega)
          rw [enx]
          refine zq_if_ne hZ (tgt := 461) dL_hangs_454 rfl (by omega) (fun hc454 => ?_) (fun hc454 => ?_)
          · exfalso; omega
          · refine zq_iconst hZ dL_hangs_457 ?_
            refine zq_goto hZ (tgt := 462) dL_hangs_458 rfl ?_
            exact zq_zret hZ rfl (by show _ ≤ 800; omega) (by show _ ≤ 4800; omega) dL_hangs_462 (by omega) (by exact ⟨rfl, rfl, rfl⟩)
    have k389 : kd = 2 → ∀ (m : Nat) (j : Int) (a b : Nat), 0 ≤ j → j ≤ v (10 + v 4) → (a : Int) ≤ 100 + 3 * j → (b : Int) ≤ 600 + 18 * j → (v (10 + v 4) - j).toNat < m → ZZ a b 389 [some (.ref (K 0)), some (.int (iI (wgA v))), some (.int (iI 1)), some (.int (iI j))] [] L F := by
      intro k2
      have q2 := hk2 k2
      have q4 := hn4 (by omega)
      have hb4 := hi.1 (v 4) q4.1 q4.2
      have jj := hj.2 k2
      have jn : v 2 + v (10 + v 4) = v 1 := jj.1
      have enx : nxQ v = v 4 := if_pos (by omega)
      intro m
      induction m with
      | zero => intro j a b _ _ _ _ hm; omega
      | succ m ih =>
        intro j a b j0 j1 ha hb hm
        refine zq_iload_n3 hZ dL_hangs_389 ?_
        refine zq_aload_n0 hZ dL_hangs_390 ?_
        refine zq_aload_n0 hZ dL_hangs_391 ?_
        refine zq_cSr hZ (fun _ h => h) (As := [_]) rfl dL_hangs_392 ml_L_207 wy_L_next (m_L_next l hfl t) ⟨Nat.le_of_ble_eq_true rfl, Nat.le_of_ble_eq_true rfl⟩ (by omega) (Nat.le_of_ble_eq_true rfl) (fun v392 L392 F392 hp392 => ?_)
        obtain ⟨rfl, rfl, rfl⟩ := hp392
        rw [enx]
        refine zq_cSr hZ (fun _ h => h) (As := [_, _]) rfl dL_hangs_395 ml_L_189 wy_L_hoard (m_L_hoard0 l hfl t (⟨by omega, by omega⟩)) ⟨Nat.le_of_ble_eq_true rfl, Nat.le_of_ble_eq_true rfl⟩ (by omega) (Nat.le_of_ble_eq_true rfl) (fun v395 L395 F395 hp395 => ?_)
        obtain ⟨rfl, rfl, rfl⟩ := hp395
        refine zq_icmp_ge hZ (tgt := 439) dL_hangs_398 rfl (by omega) (fun hc398 => ?_) (fun hc398 => ?_)
        · exact k439 _ _ _ _ (by omega) (by omega)
        · refine zq_iload_n2 hZ dL_hangs_401 ?_
          refine zq_if_eq hZ (tgt := 439) dL_hangs_402 rfl (by omega) (fun hc402 => ?_) (fun hc402 => ?_)
          · exfalso; omega
          · refine zq_aload_n0 hZ dL_hangs_405 ?_
            refine zq_aload_n0 hZ dL_hangs_406 ?_
            refine zq_cSr hZ (fun _ h => h) (As := [_]) rfl dL_hangs_407 ml_L_179 wy_L_markAt (m_L_markAt l hfl t) ⟨Nat.le_of_ble_eq_true rfl, Nat.le_of_ble_eq_true rfl⟩ (by omega) (Nat.le_of_ble_eq_true rfl) (fun v407 L407 F407 hp407 => ?_)
            obtain ⟨rfl, rfl, rfl⟩ := hp407
            rw [show mkQ v = v 2 by omega]
            refine zq_iload_n3 hZ dL_hangs_410 ?_
            refine zq_iadd hZ dL_hangs_411 ?_
            refine zq_cSr hZ (fun _ h => h) (As := [_, _]) rfl dL_hangs_412 ml_L_183 wy_L_code (m_L_code0 l hfl t (⟨by omega, by omega⟩)) ⟨Nat.le_of_ble_eq_true rfl, Nat.le_of_ble_eq_true rfl⟩ (by omega) (Nat.le_of_ble_eq_true rfl) (fun v412 L412 F412 hp412 => ?_)
            obtain ⟨rfl, rfl, rfl⟩ := hp412
            refine zq_aload_n0 hZ dL_hangs_415 ?_
            refine zq_aload_n0 hZ dL_hangs_416 ?_
            refine zq_cSr hZ (fun _ h => h) (As := [_]) rfl dL_hangs_417 ml_L_207 wy_L_next (m_L_next l hfl t) ⟨Nat.le_of_ble_eq_true rfl, Nat.le_of_ble_eq_true rfl⟩ (by omega) (Nat.le_of_ble_eq_true rfl) (fun v417 L417 F417 hp417 => ?_)
            obtain ⟨rfl, rfl, rfl⟩ := hp417
            rw [enx]
            refine zq_iload_n3 hZ dL_hangs_420 ?_
            refine zq_cSr hZ (fun _ h => h) (As := [_, _, _]) rfl dL_hangs_421 ml_L_192 wy_L_codeIn (m_L_codeIn0 l hfl t (⟨⟨by omega, by omega⟩, by omega, by omega⟩)) ⟨Nat.le_of_ble_eq_true rfl, Nat.le_of_ble_eq_true rfl⟩ (by omega) (Nat.le_of_ble_eq_true rfl) (fun v421 L421 F421 hp421 => ?_)
            obtain ⟨rfl, rfl, rfl⟩ := hp421
            have ej := jj.2 j j0 (by show j < v (10 + v 4); omega)
            rw [show 18 + v 2 + j = 18 + (v 2 + j) by omega] at ej
            refine zq_icmp_ne_raw hZ (tgt := 431) dL_hangs_424 rfl (fun hc424 => ?_) (fun hc424 => ?_)
            · exact absurd (congrArg iI ej) hc424
            · refine zq_iconst hZ dL_hangs_427 ?_
              refine zq_goto hZ (tgt := 432) dL_hangs_428 rfl ?_
              refine zq_istore_n2 hZ dL_hangs_432 (by decide) rfl ?_
              refine zq_iinc3 hZ dL_hangs_433 (by decide) rfl ?_
              refine zq_goto hZ (tgt := 389) dL_hangs_436 rfl ?_
              exact ih (j + 1) _ _ (by omega) (by omega) (by omega) (by omega) (by omega)
    have k326 : ∀ (a b : Nat) (x3 : Option Value), a ≤ 50 → b ≤ 300 → ZZ a b 326 [some (.ref (K 0)), some (.int (iI (wgA v))), some (.int (iI 1)), x3] [] L F := by
      intro a b x3 ha hb
      refine zq_iconst hZ dL_hangs_326 ?_
      refine zq_goto hZ (tgt := 331) dL_hangs_327 rfl ?_
      refine zq_istore_n2 hZ dL_hangs_331 (by decide) rfl ?_
      refine zq_iload_n2 hZ dL_hangs_332 ?_
      refine zq_if_eq hZ (tgt := 439) dL_hangs_333 rfl (by omega) (fun hc333 => ?_) (fun hc333 => ?_)
      · exfalso; omega
      · refine zq_aload_n0 hZ dL_hangs_336 ?_
        refine zq_cVr hZ (As := []) rfl dL_hangs_337 ml_L_240 wy_X7_canTurnYank (m_X7_canTurnYank l t) hK0 hF0 rfl ⟨Nat.le_of_ble_eq_true rfl, Nat.le_of_ble_eq_true rfl⟩ (by omega) (Nat.le_of_ble_eq_true rfl) (fun _ _ _ h => h.elim) (fun v337 L337 F337 hp337 => ?_)
        obtain ⟨rfl, rfl, rfl⟩ := hp337
        rw [← hcy]
        refine zq_if_eq hZ (tgt := 439) dL_hangs_340 rfl (by omega) (fun hc340 => ?_) (fun hc340 => ?_)
        · exact k439 _ _ _ _ (by omega) (by omega)
        · have k2 : kd = 2 := by omega
          have q2 := hk2 k2
          have q4 := hn4 (by omega)
          have hb4 := hi.1 (v 4) q4.1 q4.2
          have jn : v 2 + v (10 + v 4) = v 1 := (hj.2 k2).1
          have enx : nxQ v = v 4 := if_pos (by omega)
          have ea : abI (v 2 - v 1) = v 1 - v 2 := by unfold abI; split <;> omega
          refine zq_aload_n0 hZ dL_hangs_343 ?_
          refine zq_cVr hZ (As := []) rfl dL_hangs_344 ml_L_186 wy_X7_hoards (m_X7_hoards l t) hK0 hF0 rfl ⟨Nat.le_of_ble_eq_true rfl, Nat.le_of_ble_eq_true rfl⟩ (by omega) (Nat.le_of_ble_eq_true rfl) (fun _ _ _ h => h.elim) (fun v344 L344 F344 hp344 => ?_)
          obtain ⟨rfl, rfl, rfl⟩ := hp344
          refine zq_if_le hZ (tgt := 385) dL_hangs_347 rfl (by omega) (fun hc347 => ?_) (fun hc347 => ?_)
          · exfalso; omega
          · refine zq_aload_n0 hZ dL_hangs_350 ?_
            refine zq_cSr hZ (fun _ h => h) (As := [_]) rfl dL_hangs_351 ml_L_233 wy_L_apart (m_L_apart l hfl t) ⟨Nat.le_of_ble_eq_true rfl, Nat.le_of_ble_eq_true rfl⟩ (by omega) (Nat.le_of_ble_eq_true rfl) (fun v351 L351 F351 hp351 => ?_)
            obtain ⟨rfl, rfl, rfl⟩ := hp351
            rw [show apQ v = v 1 - v 2 by omega]
            refine zq_aload_n0 hZ dL_hangs_354 ?_
            refine zq_aload_n0 hZ dL_hangs_355 ?_
            refine zq_cSr hZ (fun _ h => h) (As := [_]) rfl dL_hangs_356 ml_L_207 wy_L_next (m_L_next l hfl t) ⟨Nat.le_of_ble_eq_true rfl, Nat.le_of_ble_eq_true rfl⟩ (by omega) (Nat.le_of_ble_eq_true rfl) (fun v356 L356 F356 hp356 => ?_)
            obtain ⟨rfl, rfl, rfl⟩ := hp356
            rw [enx]
            refine zq_cSr hZ (fun _ h => h) (As := [_, _]) rfl dL_hangs_359 ml_L_189 wy_L_hoard (m_L_hoard0 l hfl t (⟨by omega, by omega⟩)) ⟨Nat.le_of_ble_eq_true rfl, Nat.le_of_ble_eq_true rfl⟩ (by omega) (Nat.le_of_ble_eq_true rfl) (fun v359 L359 F359 hp359 => ?_)
            obtain ⟨rfl, rfl, rfl⟩ := hp359
            refine zq_icmp_ne hZ (tgt := 385) dL_hangs_362 rfl (by omega) (fun hc362 => ?_) (fun hc362 => ?_)
            · exfalso; omega
            · refine zq_aload_n0 hZ dL_hangs_365 ?_
              refine zq_cSr hZ (fun _ h => h) (As := [_]) rfl dL_hangs_366 ml_L_179 wy_L_markAt (m_L_markAt l hfl t) ⟨Nat.le_of_ble_eq_true rfl, Nat.le_of_ble_eq_true rfl⟩ (by omega) (Nat.le_of_ble_eq_true rfl) (fun v366 L366 F366 hp366 => ?_)
              obtain ⟨rfl, rfl, rfl⟩ := hp366
              rw [show mkQ v = v 2 by omega]
              refine zq_aload_n0 hZ dL_hangs_369 ?_
              refine zq_cSr hZ (fun _ h => h) (As := [_]) rfl dL_hangs_370 ml_L_233 wy_L_apart (m_L_apart l hfl t) ⟨Nat.le_of_ble_eq_true rfl, Nat.le_of_ble_eq_true rfl⟩ (by omega) (Nat.le_of_ble_eq_true rfl) (fun v370 L370 F370 hp370 => ?_)
              obtain ⟨rfl, rfl, rfl⟩ := hp370
              rw [show apQ v = v 1 - v 2 by omega]
              refine zq_iadd hZ dL_hangs_373 ?_
              refine zq_aload_n0 hZ dL_hangs_374 ?_
              refine zq_cVr hZ (As := []) rfl dL_hangs_375 ml_L_176 wy_X7_point (m_X7_point l t) hK0 hF0 rfl ⟨Nat.le_of_ble_eq_true rfl, Nat.le_of_ble_eq_true rfl⟩ (by omega) (Nat.le_of_ble_eq_true rfl) (fun _ _ _ h => h.elim) (fun v375 L375 F375 hp375 => ?_)
              obtain ⟨rfl, rfl, rfl⟩ := hp375
              refine zq_icmp_ne hZ (tgt := 385) dL_hangs_378 rfl (by omega) (fun hc378 => ?_) (fun hc378 => ?_)
              · exfalso; omega
              · refine zq_iconst hZ dL_hangs_381 ?_
                refine zq_goto hZ (tgt := 386) dL_hangs_382 rfl ?_
                refine zq_istore_n2 hZ dL_hangs_386 (by decide) rfl ?_
                refine zq_iconst hZ dL_hangs_387 ?_
                refine zq_istore_n3 hZ dL_hangs_388 (by decide) rfl ?_
                exact k389 k2 _ 0 _ _ (by omega) (by omega) (by omega) (by omega) (Nat.lt_succ_self _)
    have k261 : ∀ (a b : Nat) (x3 : Option Value), a ≤ 40 → b ≤ 240 → ZZ a b 261 [some (.ref (K 0)), some (.int (iI (wgA v))), some (.int (iI 1)), x3] [] L F := by
      intro a b x3 ha hb
      refine zq_iload_n2 hZ dL_hangs_261 ?_
      refine zq_if_eq hZ (tgt := 330) dL_hangs_262 rfl (by omega) (fun hc262 => ?_) (fun hc262 => ?_)
      · exfalso; omega
      · refine zq_iload_n1 hZ dL_hangs_265 ?_
        refine zq_aload_n0 hZ dL_hangs_266 ?_
        refine zq_cVr hZ (As := []) rfl dL_hangs_267 ml_L_248 wy_X7_weight (m_X7_weight l t) hK0 hF0 rfl ⟨Nat.le_of_ble_eq_true rfl, Nat.le_of_ble_eq_true rfl⟩ (by omega) (Nat.le_of_ble_eq_true rfl) (fun _ _ _ h => h.elim) (fun v267 L267 F267 hp267 => ?_)
        obtain ⟨rfl, rfl, rfl⟩ := hp267
        refine zq_icmp_ne_raw hZ (tgt := 330) dL_hangs_270 rfl (fun hc270 => ?_) (fun hc270 => ?_)
        · exact absurd rfl hc270
        · refine zq_aload_n0 hZ dL_hangs_273 ?_
          refine zq_cVr hZ (As := []) rfl dL_hangs_274 ml_L_186 wy_X7_hoards (m_X7_hoards l t) hK0 hF0 rfl ⟨Nat.le_of_ble_eq_true rfl, Nat.le_of_ble_eq_true rfl⟩ (by omega) (Nat.le_of_ble_eq_true rfl) (fun _ _ _ h => h.elim) (fun v274 L274 F274 hp274 => ?_)
          obtain ⟨rfl, rfl, rfl⟩ := hp274
          refine zq_if_le hZ (tgt := 301) dL_hangs_277 rfl (by omega) (fun hc277 => ?_) (fun hc277 => ?_)
          · have enx : nxQ v = -2000001 := if_neg (by omega)
            have ehv : hvQ v = -2000001 := if_neg (by omega)
            refine zq_aload_n0 hZ dL_hangs_301 ?_
            refine zq_cSr hZ (fun _ h => h) (As := [_]) rfl dL_hangs_302 ml_L_207 wy_L_next (m_L_next l hfl t) ⟨Nat.le_of_ble_eq_true rfl, Nat.le_of_ble_eq_true rfl⟩ (by omega) (Nat.le_of_ble_eq_true rfl) (fun v302 L302 F302 hp302 => ?_)
            obtain ⟨rfl, rfl, rfl⟩ := hp302
            rw [enx]
            refine zq_ldc hZ dL_hangs_305 kc_L_17 ?_
            refine zq_icmp_ne_raw hZ (tgt := 330) dL_hangs_307 rfl (fun hc307 => ?_) (fun hc307 => ?_)
            · exact absurd rfl hc307
            · refine zq_aload_n0 hZ dL_hangs_310 ?_
              refine zq_cSr hZ (fun _ h => h) (As := [_]) rfl dL_hangs_311 ml_L_246 wy_L_heaviest (m_L_heaviest l hfl t) ⟨Nat.le_of_ble_eq_true rfl, Nat.le_of_ble_eq_true rfl⟩ (by omega) (Nat.le_of_ble_eq_true rfl) (fun v311 L311 F311 hp311 => ?_)
              obtain ⟨rfl, rfl, rfl⟩ := hp311
              rw [ehv]
              refine zq_ldc hZ dL_hangs_314 kc_L_17 ?_
              refine zq_icmp_ne_raw hZ (tgt := 330) dL_hangs_316 rfl (fun hc316 => ?_) (fun hc316 => ?_)
              · exact absurd rfl hc316
              · refine zq_aload_n0 hZ dL_hangs_319 ?_
                refine zq_cVr hZ (As := []) rfl dL_hangs_320 ml_L_236 wy_X7_isGrowing (m_X7_isGrowing l t) hK0 hF0 rfl ⟨Nat.le_of_ble_eq_true rfl, Nat.le_of_ble_eq_true rfl⟩ (by omega) (Nat.le_of_ble_eq_true rfl) (fun _ _ _ h => h.elim) (fun v320 L320 F320 hp320 => ?_)
                obtain ⟨rfl, rfl, rfl⟩ := hp320
                rw [← hgr]
                refine zq_if_ne hZ (tgt := 330) dL_hangs_323 rfl (by omega) (fun hc323 => ?_) (fun hc323 => ?_)
                · exfalso; omega
                · exact k326 _ _ _ (by omega) (by omega)
          · have enx : nxQ v = v 4 := if_pos (by omega)
            have q4 := hn4 (by omega)
            refine zq_aload_n0 hZ dL_hangs_280 ?_
            refine zq_cSr hZ (fun _ h => h) (As := [_]) rfl dL_hangs_281 ml_L_207 wy_L_next (m_L_next l hfl t) ⟨Nat.le_of_ble_eq_true rfl, Nat.le_of_ble_eq_true rfl⟩ (by omega) (Nat.le_of_ble_eq_true rfl) (fun v281 L281 F281 hp281 => ?_)
            obtain ⟨rfl, rfl, rfl⟩ := hp281
            rw [enx]
            refine zq_if_lt hZ (tgt := 330) dL_hangs_284 rfl (by omega) (fun hc284 => ?_) (fun hc284 => ?_)
            · exfalso; omega
            · refine zq_aload_n0 hZ dL_hangs_287 ?_
              refine zq_cSr hZ (fun _ h => h) (As := [_]) rfl dL_hangs_288 ml_L_207 wy_L_next (m_L_next l hfl t) ⟨Nat.le_of_ble_eq_true rfl, Nat.le_of_ble_eq_true rfl⟩ (by omega) (Nat.le_of_ble_eq_true rfl) (fun v288 L288 F288 hp288 => ?_)
              obtain ⟨rfl, rfl, rfl⟩ := hp288
              rw [enx]
              refine zq_aload_n0 hZ dL_hangs_291 ?_
              refine zq_cVr hZ (As := []) rfl dL_hangs_292 ml_L_186 wy_X7_hoards (m_X7_hoards l t) hK0 hF0 rfl ⟨Nat.le_of_ble_eq_true rfl, Nat.le_of_ble_eq_true rfl⟩ (by omega) (Nat.le_of_ble_eq_true rfl) (fun _ _ _ h => h.elim) (fun v292 L292 F292 hp292 => ?_)
              obtain ⟨rfl, rfl, rfl⟩ := hp292
              refine zq_icmp_ge hZ (tgt := 330) dL_hangs_295 rfl (by omega) (fun hc295 => ?_) (fun hc295 => ?_)
              · exfalso; omega
              · refine zq_goto hZ (tgt := 326) dL_hangs_298 rfl ?_
                exact k326 _ _ _ (by omega) (by omega)
    have k160 : ∀ (m : Nat) (i w : Int) (a b : Nat), 0 ≤ i → i ≤ v 3 → w = smH (fun i => v (10 + i)) i.toNat → (a : Int) ≤ 3 + 3 * i → (b : Int) ≤ 18 + 18 * i → (v 3 - i).toNat < m → ZZ a b 160 [some (.ref (K 0)), some (.int (iI w)), some (.int (iI 1)), some (.int (iI i))] [] L F := by
      intro m
      induction m with
      | zero => intro i w a b _ _ _ _ _ hm; omega
      | succ m ih =>
        intro i w a b i0 i1 hw ha hb hm
        refine zq_iload_n3 hZ dL_hangs_160 ?_
        refine zq_aload_n0 hZ dL_hangs_161 ?_
        refine zq_cVr hZ (As := []) rfl dL_hangs_162 ml_L_186 wy_X7_hoards (m_X7_hoards l t) hK0 hF0 rfl ⟨Nat.le_of_ble_eq_true rfl, Nat.le_of_ble_eq_true rfl⟩ (by omega) (Nat.le_of_ble_eq_true rfl) (fun _ _ _ h => h.elim) (fun v162 L162 F162 hp162 => ?_)
        obtain ⟨rfl, rfl, rfl⟩ := hp162
        refine zq_icmp_ge hZ (tgt := 261) dL_hangs_165 rfl (by omega) (fun hc165 => ?_) (fun hc165 => ?_)
        · rw [hw, show i = v 3 by omega]
          exact k261 _ _ _ (by omega) (by omega)
        · have i2 : i < v 3 := by omega
          have hb1 := hi.1 i i0 i2
          have lr := lg_rg (v := v) (by omega)
          have hb2 := hi.1 (lgA v) lr.1 lr.2
          have lge := lg_ge (v := v) ⟨i0, i2⟩
          have eci : ciQ v i (v (10 + i)) = -2000001 := if_neg (by omega)
          have eiy : iyQ v i = v 0 + v (10 + i) := if_pos ⟨i0, i2⟩
          have ehv : hvQ v = lgA v := if_pos (by omega)
          refine zq_iload_n2 hZ dL_hangs_168 ?_
          refine zq_if_eq hZ (tgt := 261) dL_hangs_169 rfl (by omega) (fun hc169 => ?_) (fun hc169 => ?_)
          · exfalso; omega
          · refine zq_aload_n0 hZ dL_hangs_172 ?_
            refine zq_iload_n3 hZ dL_hangs_173 ?_
            refine zq_cSr hZ (fun _ h => h) (As := [_, _]) rfl dL_hangs_174 ml_L_189 wy_L_hoard (m_L_hoard0 l hfl t (⟨by omega, by omega⟩)) ⟨Nat.le_of_ble_eq_true rfl, Nat.le_of_ble_eq_true rfl⟩ (by omega) (Nat.le_of_ble_eq_true rfl) (fun v174 L174 F174 hp174 => ?_)
            obtain ⟨rfl, rfl, rfl⟩ := hp174
            refine zq_iconst hZ dL_hangs_177 ?_
            refine zq_icmp_lt hZ (tgt := 245) dL_hangs_178 rfl (by omega) (fun hc178 => ?_) (fun hc178 => ?_)
            · exfalso; omega
            · refine zq_aload_n0 hZ dL_hangs_181 ?_
              refine zq_iload_n3 hZ dL_hangs_182 ?_
              refine zq_cSr hZ (fun _ h => h) (As := [_, _]) rfl dL_hangs_183 ml_L_189 wy_L_hoard (m_L_hoard0 l hfl t (⟨by omega, by omega⟩)) ⟨Nat.le_of_ble_eq_true rfl, Nat.le_of_ble_eq_true rfl⟩ (by omega) (Nat.le_of_ble_eq_true rfl) (fun v183 L183 F183 hp183 => ?_)
              obtain ⟨rfl, rfl, rfl⟩ := hp183
              refine zq_sipush hZ dL_hangs_186 rfl ?_
              refine zq_icmp_gt hZ (tgt := 245) dL_hangs_189 rfl (by omega) (fun hc189 => ?_) (fun hc189 => ?_)
              · exfalso; omega
              · refine zq_aload_n0 hZ dL_hangs_192 ?_
                refine zq_iload_n3 hZ dL_hangs_193 ?_
                refine zq_aload_n0 hZ dL_hangs_194 ?_
                refine zq_iload_n3 hZ dL_hangs_195 ?_
                refine zq_cSr hZ (fun _ h => h) (As := [_, _]) rfl dL_hangs_196 ml_L_189 wy_L_hoard (m_L_hoard0 l hfl t (⟨by omega, by omega⟩)) ⟨Nat.le_of_ble_eq_true rfl, Nat.le_of_ble_eq_true rfl⟩ (by omega) (Nat.le_of_ble_eq_true rfl) (fun v196 L196 F196 hp196 => ?_)
                obtain ⟨rfl, rfl, rfl⟩ := hp196
                refine zq_cSr hZ (fun _ h => h) (As := [_, _, _]) rfl dL_hangs_199 ml_L_192 wy_L_codeIn (m_L_codeIn l hfl t (by omega) (by omega)) ⟨Nat.le_of_ble_eq_true rfl, Nat.le_of_ble_eq_true rfl⟩ (by omega) (Nat.le_of_ble_eq_true rfl) (fun v199 L199 F199 hp199 => ?_)
                obtain ⟨rfl, rfl, rfl⟩ := hp199
                rw [eci]
                refine zq_ldc hZ dL_hangs_202 kc_L_17 ?_
                refine zq_icmp_ne_raw hZ (tgt := 245) dL_hangs_204 rfl (fun hc204 => ?_) (fun hc204 => ?_)
                · exact absurd rfl hc204
                · refine zq_aload_n0 hZ dL_hangs_207 ?_
                  refine zq_iload_n3 hZ dL_hangs_208 ?_
                  refine zq_cSr hZ (fun _ h => h) (As := [_, _]) rfl dL_hangs_209 ml_L_243 wy_L_ifYanked (m_L_ifYanked l hfl t (by omega)) ⟨Nat.le_of_ble_eq_true rfl, Nat.le_of_ble_eq_true rfl⟩ (by omega) (Nat.le_of_ble_eq_true rfl) (fun v209 L209 F209 hp209 => ?_)
                  obtain ⟨rfl, rfl, rfl⟩ := hp209
                  rw [eiy]
                  refine zq_aload_n0 hZ dL_hangs_212 ?_
                  refine zq_cVr hZ (As := []) rfl dL_hangs_213 ml_L_123 wy_X7_length (m_X7_length l t) hK0 hF0 rfl ⟨Nat.le_of_ble_eq_true rfl, Nat.le_of_ble_eq_true rfl⟩ (by omega) (Nat.le_of_ble_eq_true rfl) (fun _ _ _ h => h.elim) (fun v213 L213 F213 hp213 => ?_)
                  obtain ⟨rfl, rfl, rfl⟩ := hp213
                  refine zq_aload_n0 hZ dL_hangs_216 ?_
                  refine zq_iload_n3 hZ dL_hangs_217 ?_
                  refine zq_cSr hZ (fun _ h => h) (As := [_, _]) rfl dL_hangs_218 ml_L_189 wy_L_hoard (m_L_hoard0 l hfl t (⟨by omega, by omega⟩)) ⟨Nat.le_of_ble_eq_true rfl, Nat.le_of_ble_eq_true rfl⟩ (by omega) (Nat.le_of_ble_eq_true rfl) (fun v218 L218 F218 hp218 => ?_)
                  obtain ⟨rfl, rfl, rfl⟩ := hp218
                  refine zq_iadd hZ dL_hangs_221 ?_
                  refine zq_icmp_ne_raw hZ (tgt := 245) dL_hangs_222 rfl (fun hc222 => ?_) (fun hc222 => ?_)
                  · exact absurd rfl hc222
                  · refine zq_aload_n0 hZ dL_hangs_225 ?_
                    refine zq_aload_n0 hZ dL_hangs_226 ?_
                    refine zq_cSr hZ (fun _ h => h) (As := [_]) rfl dL_hangs_227 ml_L_246 wy_L_heaviest (m_L_heaviest l hfl t) ⟨Nat.le_of_ble_eq_true rfl, Nat.le_of_ble_eq_true rfl⟩ (by omega) (Nat.le_of_ble_eq_true rfl) (fun v227 L227 F227 hp227 => ?_)
                    obtain ⟨rfl, rfl, rfl⟩ := hp227
                    rw [ehv]
                    refine zq_cSr hZ (fun _ h => h) (As := [_, _]) rfl dL_hangs_230 ml_L_189 wy_L_hoard (m_L_hoard0 l hfl t (⟨by omega, by omega⟩)) ⟨Nat.le_of_ble_eq_true rfl, Nat.le_of_ble_eq_true rfl⟩ (by omega) (Nat.le_of_ble_eq_true rfl) (fun v230 L230 F230 hp230 => ?_)
                    obtain ⟨rfl, rfl, rfl⟩ := hp230
                    refine zq_aload_n0 hZ dL_hangs_233 ?_
                    refine zq_iload_n3 hZ dL_hangs_234 ?_
                    refine zq_cSr hZ (fun _ h => h) (As := [_, _]) rfl dL_hangs_235 ml_L_189 wy_L_hoard (m_L_hoard0 l hfl t (⟨by omega, by omega⟩)) ⟨Nat.le_of_ble_eq_true rfl, Nat.le_of_ble_eq_true rfl⟩ (by omega) (Nat.le_of_ble_eq_true rfl) (fun v235 L235 F235 hp235 => ?_)
                    obtain ⟨rfl, rfl, rfl⟩ := hp235
                    refine zq_icmp_lt hZ (tgt := 245) dL_hangs_238 rfl (by omega) (fun hc238 => ?_) (fun hc238 => ?_)
                    · exfalso; omega
                    · refine zq_iconst hZ dL_hangs_241 ?_
                      refine zq_goto hZ (tgt := 246) dL_hangs_242 rfl ?_
                      refine zq_istore_n2 hZ dL_hangs_246 (by decide) rfl ?_
                      refine zq_iload_n1 hZ dL_hangs_247 ?_
                      refine zq_aload_n0 hZ dL_hangs_248 ?_
                      refine zq_iload_n3 hZ dL_hangs_249 ?_
                      refine zq_cSr hZ (fun _ h => h) (As := [_, _]) rfl dL_hangs_250 ml_L_189 wy_L_hoard (m_L_hoard0 l hfl t (⟨by omega, by omega⟩)) ⟨Nat.le_of_ble_eq_true rfl, Nat.le_of_ble_eq_true rfl⟩ (by omega) (Nat.le_of_ble_eq_true rfl) (fun v250 L250 F250 hp250 => ?_)
                      obtain ⟨rfl, rfl, rfl⟩ := hp250
                      refine zq_iadd hZ dL_hangs_253 ?_
                      refine zq_istore_n1 hZ dL_hangs_254 (by decide) rfl ?_
                      refine zq_iinc3 hZ dL_hangs_255 (by decide) rfl ?_
                      refine zq_goto hZ (tgt := 160) dL_hangs_258 rfl ?_
                      exact ih (i + 1) _ _ _ (by omega) (by omega) (by rw [smH_s i0, ← hw]) (by omega) (by omega) (by omega)
    have k138 : ZZ 3 18 138 [some (.ref (K 0)), some (.int (iI 0)), none, none] [] L F := by
      refine zq_aload_n0 hZ dL_hangs_138 ?_
      refine zq_cVr hZ (As := []) rfl dL_hangs_139 ml_L_236 wy_X7_isGrowing (m_X7_isGrowing l t) hK0 hF0 rfl ⟨Nat.le_of_ble_eq_true rfl, Nat.le_of_ble_eq_true rfl⟩ (by omega) (Nat.le_of_ble_eq_true rfl) (fun _ _ _ h => h.elim) (fun v139 L139 F139 hp139 => ?_)
      obtain ⟨rfl, rfl, rfl⟩ := hp139
      rw [← hgr]
      refine zq_if_eq hZ (tgt := 152) dL_hangs_142 rfl (by omega) (fun hc142 => ?_) (fun hc142 => ?_)
      · refine zq_iconst hZ dL_hangs_152 ?_
        refine zq_goto hZ (tgt := 157) dL_hangs_153 rfl ?_
        refine zq_istore_n2 hZ dL_hangs_157 (by decide) rfl ?_
        refine zq_iconst hZ dL_hangs_158 ?_
        refine zq_istore_n3 hZ dL_hangs_159 (by decide) rfl ?_
        exact k160 _ 0 0 _ _ (by omega) (by omega) rfl (by omega) (by omega) (Nat.lt_succ_self _)
      · refine zq_aload_n0 hZ dL_hangs_145 ?_
        refine zq_cVr hZ (As := []) rfl dL_hangs_146 ml_L_240 wy_X7_canTurnYank (m_X7_canTurnYank l t) hK0 hF0 rfl ⟨Nat.le_of_ble_eq_true rfl, Nat.le_of_ble_eq_true rfl⟩ (by omega) (Nat.le_of_ble_eq_true rfl) (fun _ _ _ h => h.elim) (fun v146 L146 F146 hp146 => ?_)
        obtain ⟨rfl, rfl, rfl⟩ := hp146
        rw [← hcy]
        refine zq_if_ne hZ (tgt := 156) dL_hangs_149 rfl (by omega) (fun hc149 => ?_) (fun hc149 => ?_)
        · exfalso; omega
        · refine zq_iconst hZ dL_hangs_152 ?_
          refine zq_goto hZ (tgt := 157) dL_hangs_153 rfl ?_
          refine zq_istore_n2 hZ dL_hangs_157 (by decide) rfl ?_
          refine zq_iconst hZ dL_hangs_158 ?_
          refine zq_istore_n3 hZ dL_hangs_159 (by decide) rfl ?_
          exact k160 _ 0 0 _ _ (by omega) (by omega) rfl (by omega) (by omega) (Nat.lt_succ_self _)
    refine zq_iconst hZ dL_hangs_0 ?_
    refine zq_istore_n1 hZ dL_hangs_1 (by decide) rfl ?_
    refine zq_aload_n0 hZ dL_hangs_2 ?_
    refine zq_cVr hZ (As := []) rfl dL_hangs_3 ml_L_123 wy_X7_length (m_X7_length l t) hK0 hF0 rfl ⟨Nat.le_of_ble_eq_true rfl, Nat.le_of_ble_eq_true rfl⟩ (by omega) (Nat.le_of_ble_eq_true rfl) (fun _ _ _ h => h.elim) (fun v3 L3 F3 hp3 => ?_)
    obtain ⟨rfl, rfl, rfl⟩ := hp3
    refine zq_aload_n0 hZ dL_hangs_6 ?_
    refine zq_cVr hZ (As := []) rfl dL_hangs_7 ml_L_210 wy_X7_lengthByAccount (m_X7_lengthByAccount l t) hK0 hF0 rfl ⟨Nat.le_of_ble_eq_true rfl, Nat.le_of_ble_eq_true rfl⟩ (by omega) (Nat.le_of_ble_eq_true rfl) (fun _ _ _ h => h.elim) (fun v7 L7 F7 hp7 => ?_)
    obtain ⟨rfl, rfl, rfl⟩ := hp7
    refine zq_icmp_ne_raw hZ (tgt := 156) dL_hangs_10 rfl (fun hc10 => ?_) (fun hc10 => ?_)
    · exact absurd rfl hc10
    · refine zq_aload_n0 hZ dL_hangs_13 ?_
      refine zq_cVr hZ (As := []) rfl dL_hangs_14 ml_L_123 wy_X7_length (m_X7_length l t) hK0 hF0 rfl ⟨Nat.le_of_ble_eq_true rfl, Nat.le_of_ble_eq_true rfl⟩ (by omega) (Nat.le_of_ble_eq_true rfl) (fun _ _ _ h => h.elim) (fun v14 L14 F14 hp14 => ?_)
      obtain ⟨rfl, rfl, rfl⟩ := hp14
      refine zq_sipush hZ dL_hangs_17 rfl ?_
      refine zq_icmp_gt hZ (tgt := 156) dL_hangs_20 rfl (by omega) (fun hc20 => ?_) (fun hc20 => ?_)
      · exfalso; omega
      · refine zq_aload_n0 hZ dL_hangs_23 ?_
        refine zq_cVr hZ (As := []) rfl dL_hangs_24 ml_L_176 wy_X7_point (m_X7_point l t) hK0 hF0 rfl ⟨Nat.le_of_ble_eq_true rfl, Nat.le_of_ble_eq_true rfl⟩ (by omega) (Nat.le_of_ble_eq_true rfl) (fun _ _ _ h => h.elim) (fun v24 L24 F24 hp24 => ?_)
        obtain ⟨rfl, rfl, rfl⟩ := hp24
        refine zq_aload_n0 hZ dL_hangs_27 ?_
        refine zq_cVr hZ (As := []) rfl dL_hangs_28 ml_L_123 wy_X7_length (m_X7_length l t) hK0 hF0 rfl ⟨Nat.le_of_ble_eq_true rfl, Nat.le_of_ble_eq_true rfl⟩ (by omega) (Nat.le_of_ble_eq_true rfl) (fun _ _ _ h => h.elim) (fun v28 L28 F28 hp28 => ?_)
        obtain ⟨rfl, rfl, rfl⟩ := hp28
        refine zq_icmp_gt hZ (tgt := 156) dL_hangs_31 rfl (by omega) (fun hc31 => ?_) (fun hc31 => ?_)
        · exfalso; omega
        · refine zq_aload_n0 hZ dL_hangs_34 ?_
          refine zq_cVr hZ (As := []) rfl dL_hangs_35 ml_L_186 wy_X7_hoards (m_X7_hoards l t) hK0 hF0 rfl ⟨Nat.le_of_ble_eq_true rfl, Nat.le_of_ble_eq_true rfl⟩ (by omega) (Nat.le_of_ble_eq_true rfl) (fun _ _ _ h => h.elim) (fun v35 L35 F35 hp35 => ?_)
          obtain ⟨rfl, rfl, rfl⟩ := hp35
          refine zq_aload_n0 hZ dL_hangs_38 ?_
          refine zq_cVr hZ (As := []) rfl dL_hangs_39 ml_L_181 wy_X7_caves (m_X7_caves l t) hK0 hF0 rfl ⟨Nat.le_of_ble_eq_true rfl, Nat.le_of_ble_eq_true rfl⟩ (by omega) (Nat.le_of_ble_eq_true rfl) (fun _ _ _ h => h.elim) (fun v39 L39 F39 hp39 => ?_)
          obtain ⟨rfl, rfl, rfl⟩ := hp39
          refine zq_icmp_gt hZ (tgt := 156) dL_hangs_42 rfl (by omega) (fun hc42 => ?_) (fun hc42 => ?_)
          · exfalso; omega
          · refine zq_aload_n0 hZ dL_hangs_45 ?_
            refine zq_cVr hZ (As := []) rfl dL_hangs_46 ml_L_213 wy_X7_linesByEnds (m_X7_linesByEnds l t) hK0 hF0 rfl ⟨Nat.le_of_ble_eq_true rfl, Nat.le_of_ble_eq_true rfl⟩ (by omega) (Nat.le_of_ble_eq_true rfl) (fun _ _ _ h => h.elim) (fun v46 L46 F46 hp46 => ?_)
            obtain ⟨rfl, rfl, rfl⟩ := hp46
            refine zq_aload_n0 hZ dL_hangs_49 ?_
            refine zq_cVr hZ (As := []) rfl dL_hangs_50 ml_L_216 wy_X7_linesByGoing (m_X7_linesByGoing l t) hK0 hF0 rfl ⟨Nat.le_of_ble_eq_true rfl, Nat.le_of_ble_eq_true rfl⟩ (by omega) (Nat.le_of_ble_eq_true rfl) (fun _ _ _ h => h.elim) (fun v50 L50 F50 hp50 => ?_)
            obtain ⟨rfl, rfl, rfl⟩ := hp50
            refine zq_icmp_ne_raw hZ (tgt := 156) dL_hangs_53 rfl (fun hc53 => ?_) (fun hc53 => ?_)
            · exact absurd rfl hc53
            · refine zq_aload_n0 hZ dL_hangs_56 ?_
              refine zq_cVr hZ (As := []) rfl dL_hangs_57 ml_L_219 wy_X7_wordsByBegins (m_X7_wordsByBegins l t) hK0 hF0 rfl ⟨Nat.le_of_ble_eq_true rfl, Nat.le_of_ble_eq_true rfl⟩ (by omega) (Nat.le_of_ble_eq_true rfl) (fun _ _ _ h => h.elim) (fun v57 L57 F57 hp57 => ?_)
              obtain ⟨rfl, rfl, rfl⟩ := hp57
              refine zq_aload_n0 hZ dL_hangs_60 ?_
              refine zq_cVr hZ (As := []) rfl dL_hangs_61 ml_L_222 wy_X7_wordsByGoing (m_X7_wordsByGoing l t) hK0 hF0 rfl ⟨Nat.le_of_ble_eq_true rfl, Nat.le_of_ble_eq_true rfl⟩ (by omega) (Nat.le_of_ble_eq_true rfl) (fun _ _ _ h => h.elim) (fun v61 L61 F61 hp61 => ?_)
              obtain ⟨rfl, rfl, rfl⟩ := hp61
              refine zq_icmp_ne_raw hZ (tgt := 156) dL_hangs_64 rfl (fun hc64 => ?_) (fun hc64 => ?_)
              · exact absurd rfl hc64
              · refine zq_aload_n0 hZ dL_hangs_67 ?_
                refine zq_cVr hZ (As := []) rfl dL_hangs_68 ml_L_225 wy_X7_line (m_X7_line l t) hK0 hF0 rfl ⟨Nat.le_of_ble_eq_true rfl, Nat.le_of_ble_eq_true rfl⟩ (by omega) (Nat.le_of_ble_eq_true rfl) (fun _ _ _ h => h.elim) (fun v68 L68 F68 hp68 => ?_)
                obtain ⟨rfl, rfl, rfl⟩ := hp68
                refine zq_aload_n0 hZ dL_hangs_71 ?_
                refine zq_cVr hZ (As := []) rfl dL_hangs_72 ml_L_213 wy_X7_linesByEnds (m_X7_linesByEnds l t) hK0 hF0 rfl ⟨Nat.le_of_ble_eq_true rfl, Nat.le_of_ble_eq_true rfl⟩ (by omega) (Nat.le_of_ble_eq_true rfl) (fun _ _ _ h => h.elim) (fun v72 L72 F72 hp72 => ?_)
                obtain ⟨rfl, rfl, rfl⟩ := hp72
                refine zq_icmp_ge hZ (tgt := 156) dL_hangs_75 rfl (by omega) (fun hc75 => ?_) (fun hc75 => ?_)
                · exfalso; omega
                · refine zq_aload_n0 hZ dL_hangs_78 ?_
                  refine zq_cVr hZ (As := []) rfl dL_hangs_79 ml_L_227 wy_X7_column (m_X7_column l t) hK0 hF0 rfl ⟨Nat.le_of_ble_eq_true rfl, Nat.le_of_ble_eq_true rfl⟩ (by omega) (Nat.le_of_ble_eq_true rfl) (fun _ _ _ h => h.elim) (fun v79 L79 F79 hp79 => ?_)
                  obtain ⟨rfl, rfl, rfl⟩ := hp79
                  refine zq_aload_n0 hZ dL_hangs_82 ?_
                  refine zq_cVr hZ (As := []) rfl dL_hangs_83 ml_L_230 wy_X7_longestLine (m_X7_longestLine l t) hK0 hF0 rfl ⟨Nat.le_of_ble_eq_true rfl, Nat.le_of_ble_eq_true rfl⟩ (by omega) (Nat.le_of_ble_eq_true rfl) (fun _ _ _ h => h.elim) (fun v83 L83 F83 hp83 => ?_)
                  obtain ⟨rfl, rfl, rfl⟩ := hp83
                  refine zq_icmp_gt hZ (tgt := 156) dL_hangs_86 rfl (by omega) (fun hc86 => ?_) (fun hc86 => ?_)
                  · exfalso; omega
                  · refine zq_aload_n0 hZ dL_hangs_89 ?_
                    refine zq_cVr hZ (As := []) rfl dL_hangs_90 ml_L_227 wy_X7_column (m_X7_column l t) hK0 hF0 rfl ⟨Nat.le_of_ble_eq_true rfl, Nat.le_of_ble_eq_true rfl⟩ (by omega) (Nat.le_of_ble_eq_true rfl) (fun _ _ _ h => h.elim) (fun v90 L90 F90 hp90 => ?_)
                    obtain ⟨rfl, rfl, rfl⟩ := hp90
                    refine zq_aload_n0 hZ dL_hangs_93 ?_
                    refine zq_cVr hZ (As := []) rfl dL_hangs_94 ml_L_176 wy_X7_point (m_X7_point l t) hK0 hF0 rfl ⟨Nat.le_of_ble_eq_true rfl, Nat.le_of_ble_eq_true rfl⟩ (by omega) (Nat.le_of_ble_eq_true rfl) (fun _ _ _ h => h.elim) (fun v94 L94 F94 hp94 => ?_)
                    obtain ⟨rfl, rfl, rfl⟩ := hp94
                    refine zq_icmp_gt hZ (tgt := 156) dL_hangs_97 rfl (by omega) (fun hc97 => ?_) (fun hc97 => ?_)
                    · exfalso; omega
                    · refine zq_aload_n0 hZ dL_hangs_100 ?_
                      refine zq_cSr hZ (fun _ h => h) (As := [_]) rfl dL_hangs_101 ml_L_179 wy_L_markAt (m_L_markAt l hfl t) ⟨Nat.le_of_ble_eq_true rfl, Nat.le_of_ble_eq_true rfl⟩ (by omega) (Nat.le_of_ble_eq_true rfl) (fun v101 L101 F101 hp101 => ?_)
                      obtain ⟨rfl, rfl, rfl⟩ := hp101
                      refine zq_aload_n0 hZ dL_hangs_104 ?_
                      refine zq_cVr hZ (As := []) rfl dL_hangs_105 ml_L_123 wy_X7_length (m_X7_length l t) hK0 hF0 rfl ⟨Nat.le_of_ble_eq_true rfl, Nat.le_of_ble_eq_true rfl⟩ (by omega) (Nat.le_of_ble_eq_true rfl) (fun _ _ _ h => h.elim) (fun v105 L105 F105 hp105 => ?_)
                      obtain ⟨rfl, rfl, rfl⟩ := hp105
                      refine zq_icmp_gt hZ (tgt := 156) dL_hangs_108 rfl (by omega) (fun hc108 => ?_) (fun hc108 => ?_)
                      · exfalso; omega
                      · refine zq_aload_n0 hZ dL_hangs_111 ?_
                        refine zq_cSr hZ (fun _ h => h) (As := [_]) rfl dL_hangs_112 ml_L_179 wy_L_markAt (m_L_markAt l hfl t) ⟨Nat.le_of_ble_eq_true rfl, Nat.le_of_ble_eq_true rfl⟩ (by omega) (Nat.le_of_ble_eq_true rfl) (fun v112 L112 F112 hp112 => ?_)
                        obtain ⟨rfl, rfl, rfl⟩ := hp112
                        refine zq_if_ge hZ (tgt := 122) dL_hangs_115 rfl (by omega) (fun hc115 => ?_) (fun hc115 => ?_)
                        · refine zq_iconst hZ dL_hangs_122 ?_
                          refine zq_aload_n0 hZ dL_hangs_123 ?_
                          refine zq_cSr hZ (fun _ h => h) (As := [_]) rfl dL_hangs_124 ml_L_233 wy_L_apart (m_L_apart l hfl t) ⟨Nat.le_of_ble_eq_true rfl, Nat.le_of_ble_eq_true rfl⟩ (by omega) (Nat.le_of_ble_eq_true rfl) (fun v124 L124 F124 hp124 => ?_)
                          obtain ⟨rfl, rfl, rfl⟩ := hp124
                          refine zq_if_ge hZ (tgt := 134) dL_hangs_127 rfl (by omega) (fun hc127 => ?_) (fun hc127 => ?_)
                          · refine zq_iconst hZ dL_hangs_134 ?_
                            refine zq_icmp_ne hZ (tgt := 156) dL_hangs_135 rfl (by omega) (fun hc135 => ?_) (fun hc135 => ?_)
                            · exfalso; omega
                            · exact k138
                          · refine zq_iconst hZ dL_hangs_130 ?_
                            refine zq_goto hZ (tgt := 135) dL_hangs_131 rfl ?_
                            refine zq_icmp_ne hZ (tgt := 156) dL_hangs_135 rfl (by omega) (fun hc135 => ?_) (fun hc135 => ?_)
                            · exfalso; omega
                            · exact k138
                        · refine zq_iconst hZ dL_hangs_118 ?_
                          refine zq_goto hZ (tgt := 123) dL_hangs_119 rfl ?_
                          refine zq_aload_n0 hZ dL_hangs_123 ?_
                          refine zq_cSr hZ (fun _ h => h) (As := [_]) rfl dL_hangs_124 ml_L_233 wy_L_apart (m_L_apart l hfl t) ⟨Nat.le_of_ble_eq_true rfl, Nat.le_of_ble_eq_true rfl⟩ (by omega) (Nat.le_of_ble_eq_true rfl) (fun v124 L124 F124 hp124 => ?_)
                          obtain ⟨rfl, rfl, rfl⟩ := hp124
                          refine zq_if_ge hZ (tgt := 134) dL_hangs_127 rfl (by omega) (fun hc127 => ?_) (fun hc127 => ?_)
                          · refine zq_iconst hZ dL_hangs_134 ?_
                            refine zq_icmp_ne hZ (tgt := 156) dL_hangs_135 rfl (by omega) (fun hc135 => ?_) (fun hc135 => ?_)
                            · exfalso; omega
                            · exact k138
                          · refine zq_iconst hZ dL_hangs_130 ?_
                            refine zq_goto hZ (tgt := 135) dL_hangs_131 rfl ?_
                            refine zq_icmp_ne hZ (tgt := 156) dL_hangs_135 rfl (by omega) (fun hc135 => ?_) (fun hc135 => ?_)
                            · exfalso; omega
                            · exact k138
  exact hgo
