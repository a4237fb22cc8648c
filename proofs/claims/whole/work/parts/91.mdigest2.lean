/-! THE MODEL, 13: the digest. -/
set_option maxRecDepth 100000 in
set_option maxHeartbeats 4000000 in
theorem m_X8_digest (l : Launch) {L : List Nat} {F : Nat → PE} {x a q c : Nat} {g : Int → Int} {sv th kd n pt tm sg : Int} {kp bf : Int → Int} (o : mo L F x a q c g sv th kd n pt tm sg kp bf) (v : vf g kd) (hs : 0 ≤ sv ∧ sv ≤ 6) (hn : 0 ≤ n ∧ n ≤ 60) (hb : ∀ k, 0 ≤ k → k < n → 10 ≤ bf k ∧ bf k ≤ 126) (hk0 : kp 0 = 0 ∨ kp 0 = 1) (hk1 : kp 1 = 0 ∨ kp 1 = 1) : PM l yX8_digest cX8_digest 5 (some .long) (rm 6 0 0) L [.ref x] F (fun v9 L1 F1 => v9 = some (.long (lL (dgA g kd sv kp n bf))) ∧ L = L1 ∧ fm x a q c F F1 ∧ mo L F1 x a q c g sv 0 kd n pt tm sg kp bf) (fun _ _ _ => False) := by
  refine pm_of cd_X8_digest (by decide +kernel) (Nat.le_of_ble_eq_true rfl) (fun ZZ hZ => ?_)
  have hgo : ZZ 0 0 0 [some (.ref x), none, none, none, none] [] L F := by
    obtain ⟨A, hF, hg, hQ, hC⟩ := id o
    obtain ⟨⟨hx, ha', hqL, hcL⟩, hxa, hxq, hxc, haq, hac, hqc⟩ := id A
    have t := ms.of hx ha' hxa hF hg
    have fr : fm x a q c F F := fm.rf
    have r := v.1
    have s6 := sI_rg (z := g 6)
    have s7 := sI_rg (z := g 7)
    have s8 := sI_rg (z := g 8)
    have s9 := sI_rg (z := g 9)
    have l0 := lgH_rg (hl := fun i => g (10 + i)) (g 3).toNat
    have l1 : -1 ≤ lgA g ∧ lgA g ≤ 8 := by unfold lgA; omega
    have l2 : g 3 = 0 → lgA g = -1 := fun z => by unfold lgA; rw [z]; rfl
    have w1 := wg_rg v.2.1 (by omega)
    have kr := v.2.1.2.2.2.1
    have n4 : 0 < g 3 → 0 ≤ g 4 ∧ g 4 < g 3 := v.2.1.2.2.1
    have c419 : ∀ (m : Nat) (i : Int) (w4 : Option Value), (n - i).toNat = m → 0 ≤ i → i ≤ n → ∀ h, hxT (ha h n) bf n.toNat = dgA g kd sv kp n bf → ZZ 0 0 419 [some (.ref x), some (.long (lL (hxT (ha h n) bf i.toNat))), none, some (.int (iI i)), w4] [] L F := by
      intro m
      induction m with
      | zero =>
        intro i w4 hm i0 i1 h hh
        have e : i = n := by omega
        have ha := ha'
        refine z_iload_n3 hZ dX8_digest_419 ?_
        refine z_aload_n0 hZ dX8_digest_420 ?_
        refine z_gf_X8_typed hZ dX8_digest_421 fl_X8_159 (by assumption) (by assumption) ?_
        refine z_icmp_ge hZ (tgt := 447) dX8_digest_424 rfl (by omega) (fun hc424 => ?_) (fun hc424 => ?_)
        · refine z_aload_n0 hZ dX8_digest_447 ?_
          refine z_iconst hZ dX8_digest_448 ?_
          refine z_pf_X8_thrown hZ dX8_digest_449 fl_X8_21 (by assumption) (by assumption) (fun F449 hF449 hf449 => ?_)
          have hF := hF449
          have hg := (hf449 a (Ne.symm hxa)).trans hg
          have hQ := (hf449 q (Ne.symm hxq)).trans hQ
          have hC := (hf449 c (Ne.symm hxc)).trans hC
          have t := ms.of hx ha hxa hF hg
          have fr := fm.x fr hf449
          refine z_lload_n1 hZ dX8_digest_452 ?_
          exact z_lret hZ rfl (Nat.le_of_ble_eq_true rfl) (Nat.le_of_ble_eq_true rfl) dX8_digest_453 (by exact ⟨by rw [e, hh], rfl, fr, A, hF, hg, hQ, hC⟩)
        · exfalso; omega
      | succ m ih =>
        intro i w4 hm i0 i1 h hh
        have bi := hb i i0 (by omega)
        refine z_iload_n3 hZ dX8_digest_419 ?_
        refine z_aload_n0 hZ dX8_digest_420 ?_
        refine z_gf_X8_typed hZ dX8_digest_421 fl_X8_159 (by assumption) (by assumption) ?_
        refine z_icmp_ge hZ (tgt := 447) dX8_digest_424 rfl (by omega) (fun hc424 => ?_) (fun hc424 => ?_)
        · exfalso; omega
        · refine z_ldc2 hZ dX8_digest_427 kl_X8_216 ?_
          rw [show (31 : Int64) = lL 31 from rfl]
          refine z_lload_n1 hZ dX8_digest_430 ?_
          refine z_lmul hZ dX8_digest_431 ?_
          refine z_aload_n0 hZ dX8_digest_432 ?_
          refine z_gf_X8_text hZ dX8_digest_433 fl_X8_17 (by assumption) (by assumption) ?_
          refine z_iload_n3 hZ dX8_digest_436 ?_
          refine z_caload hZ dX8_digest_437 (by assumption) (by assumption) (by omega) ?_
          refine z_i2l hZ dX8_digest_438 (by omega) ?_
          refine z_ladd hZ dX8_digest_439 ?_
          refine z_lstore_n1 hZ dX8_digest_440 (by decide) rfl ?_
          refine z_iinc3 hZ dX8_digest_441 (by decide) rfl ?_
          refine z_goto hZ (tgt := 419) dX8_digest_444 rfl ?_
          have z := ih (i + 1) w4 (by omega) (by omega) (by omega) h hh
          rw [hxT_s i0] at z
          exact z
    have c405 : ∀ (w3 w4 : Option Value) (h : Int), hT h n bf = dgA g kd sv kp n bf → ZZ 0 0 405 [some (.ref x), some (.long (lL (h))), none, w3, w4] [] L F := by
      intro w3 w4 h hh
      refine z_ldc2 hZ dX8_digest_405 kl_X8_216 ?_
      rw [show (31 : Int64) = lL 31 from rfl]
      refine z_lload_n1 hZ dX8_digest_408 ?_
      refine z_lmul hZ dX8_digest_409 ?_
      refine z_aload_n0 hZ dX8_digest_410 ?_
      refine z_gf_X8_typed hZ dX8_digest_411 fl_X8_159 (by assumption) (by assumption) ?_
      refine z_i2l hZ dX8_digest_414 (by omega) ?_
      refine z_ladd hZ dX8_digest_415 ?_
      refine z_lstore_n1 hZ dX8_digest_416 (by decide) rfl ?_
      refine z_iconst hZ dX8_digest_417 ?_
      refine z_istore_n3 hZ dX8_digest_418 (by decide) rfl ?_
      exact c419 n.toNat 0 w4 (by omega) (by omega) (by omega) h hh
    have c372c : ∀ (w4 : Option Value) (h : Int), hT h n bf = dgA g kd sv kp n bf → ZZ 0 0 372 [some (.ref x), some (.long (lL (h))), none, some (.int (iI 2)), w4] [] L F := by
      intro w4 h hh
      refine z_iload_n3 hZ dX8_digest_372 ?_
      refine z_iconst hZ dX8_digest_373 ?_
      refine z_icmp_ge hZ (tgt := 405) dX8_digest_374 rfl (by omega) (fun hc374 => ?_) (fun hc374 => ?_)
      · exact c405 _ w4 h hh
      · exfalso; omega
    have c372b : ∀ (w4 : Option Value) (h : Int), hT (ha h (kp 1)) n bf = dgA g kd sv kp n bf → ZZ 0 0 372 [some (.ref x), some (.long (lL (h))), none, some (.int (iI 1)), w4] [] L F := by
      intro w4 h hh
      refine z_iload_n3 hZ dX8_digest_372 ?_
      refine z_iconst hZ dX8_digest_373 ?_
      refine z_icmp_ge hZ (tgt := 405) dX8_digest_374 rfl (by omega) (fun hc374 => ?_) (fun hc374 => ?_)
      · exfalso; omega
      · refine z_ldc2 hZ dX8_digest_377 kl_X8_216 ?_
        rw [show (31 : Int64) = lL 31 from rfl]
        refine z_lload_n1 hZ dX8_digest_380 ?_
        refine z_lmul hZ dX8_digest_381 ?_
        refine z_aload_n0 hZ dX8_digest_382 ?_
        refine z_gf_X8_isKept hZ dX8_digest_383 fl_X8_13 (by assumption) (by assumption) ?_
        refine z_iload_n3 hZ dX8_digest_386 ?_
        refine z_baload hZ dX8_digest_387 (by assumption) (by assumption) (by omega) ?_
        refine z_if_eq hZ (tgt := 395) dX8_digest_388 rfl (by omega) (fun hc388 => ?_) (fun hc388 => ?_)
        · have k9 : kp 1 = 0 := by omega
          refine z_iconst hZ dX8_digest_395 ?_
          refine z_i2l hZ dX8_digest_396 (by omega) ?_
          refine z_ladd hZ dX8_digest_397 ?_
          refine z_lstore_n1 hZ dX8_digest_398 (by decide) rfl ?_
          refine z_iinc3 hZ dX8_digest_399 (by decide) rfl ?_
          refine z_goto hZ (tgt := 372) dX8_digest_402 rfl ?_
          have z := c372c w4 (ha h (kp 1)) hh
          rw [k9] at z
          exact z
        · have k9 : kp 1 = 1 := by omega
          refine z_iconst hZ dX8_digest_391 ?_
          refine z_goto hZ (tgt := 396) dX8_digest_392 rfl ?_
          refine z_i2l hZ dX8_digest_396 (by omega) ?_
          refine z_ladd hZ dX8_digest_397 ?_
          refine z_lstore_n1 hZ dX8_digest_398 (by decide) rfl ?_
          refine z_iinc3 hZ dX8_digest_399 (by decide) rfl ?_
          refine z_goto hZ (tgt := 372) dX8_digest_402 rfl ?_
          have z := c372c w4 (ha h (kp 1)) hh
          rw [k9] at z
          exact z
    have c372a : ∀ (w4 : Option Value) (h : Int), hT (ha (ha h (kp 0)) (kp 1)) n bf = dgA g kd sv kp n bf → ZZ 0 0 372 [some (.ref x), some (.long (lL (h))), none, some (.int (iI 0)), w4] [] L F := by
      intro w4 h hh
      refine z_iload_n3 hZ dX8_digest_372 ?_
      refine z_iconst hZ dX8_digest_373 ?_
      refine z_icmp_ge hZ (tgt := 405) dX8_digest_374 rfl (by omega) (fun hc374 => ?_) (fun hc374 => ?_)
      · exfalso; omega
      · refine z_ldc2 hZ dX8_digest_377 kl_X8_216 ?_
        rw [show (31 : Int64) = lL 31 from rfl]
        refine z_lload_n1 hZ dX8_digest_380 ?_
        refine z_lmul hZ dX8_digest_381 ?_
        refine z_aload_n0 hZ dX8_digest_382 ?_
        refine z_gf_X8_isKept hZ dX8_digest_383 fl_X8_13 (by assumption) (by assumption) ?_
        refine z_iload_n3 hZ dX8_digest_386 ?_
        refine z_baload hZ dX8_digest_387 (by assumption) (by assumption) (by omega) ?_
        refine z_if_eq hZ (tgt := 395) dX8_digest_388 rfl (by omega) (fun hc388 => ?_) (fun hc388 => ?_)
        · have k9 : kp 0 = 0 := by omega
          refine z_iconst hZ dX8_digest_395 ?_
          refine z_i2l hZ dX8_digest_396 (by omega) ?_
          refine z_ladd hZ dX8_digest_397 ?_
          refine z_lstore_n1 hZ dX8_digest_398 (by decide) rfl ?_
          refine z_iinc3 hZ dX8_digest_399 (by decide) rfl ?_
          refine z_goto hZ (tgt := 372) dX8_digest_402 rfl ?_
          have z := c372b w4 (ha h (kp 0)) hh
          rw [k9] at z
          exact z
        · have k9 : kp 0 = 1 := by omega
          refine z_iconst hZ dX8_digest_391 ?_
          refine z_goto hZ (tgt := 396) dX8_digest_392 rfl ?_
          refine z_i2l hZ dX8_digest_396 (by omega) ?_
          refine z_ladd hZ dX8_digest_397 ?_
          refine z_lstore_n1 hZ dX8_digest_398 (by decide) rfl ?_
          refine z_iinc3 hZ dX8_digest_399 (by decide) rfl ?_
          refine z_goto hZ (tgt := 372) dX8_digest_402 rfl ?_
          have z := c372b w4 (ha h (kp 0)) hh
          rw [k9] at z
          exact z
    have c337 : ∀ (w3 w4 : Option Value) (h : Int), hT (ha (ha (ha h (btA g)) (kp 0)) (kp 1)) n bf = dgA g kd sv kp n bf → ZZ 0 0 337 [some (.ref x), some (.long (lL (h))), none, w3, w4] [] L F := by
      intro w3 w4 h hh
      by_cases q3 : 0 < g 3
      · have eb : btA g = ((mB (wgA g).toNat (g 3).toNat : Nat) : Int) := if_pos q3
        have e1 : wgA g = (((wgA g).toNat : Nat) : Int) := by omega
        have e2 : g 3 = (((g 3).toNat : Nat) : Int) := by omega
        have con : PM l yX8_bits cX8_bits 9 (some .long) (rm 1 0 0) L [.int (iI (wgA g)), .int (iI (g 3))] F (fun v9 L1 F1 => v9 = some (.long (lL (btA g))) ∧ L = L1 ∧ F = F1) (fun _ _ _ => False) := by
          have z := m_X8_bits l (L := L) (F := F) (s := (wgA g).toNat) (c := (g 3).toNat) (by omega)
          rw [← e1, ← e2, ← eb] at z
          exact z
        refine z_ldc2 hZ dX8_digest_337 kl_X8_216 ?_
        rw [show (31 : Int64) = lL 31 from rfl]
        refine z_lload_n1 hZ dX8_digest_340 ?_
        refine z_lmul hZ dX8_digest_341 ?_
        refine z_aload_n0 hZ dX8_digest_342 ?_
        refine z_gf_X8_s hZ dX8_digest_343 fl_X8_7 (by assumption) (by assumption) ?_
        refine z_iconst hZ dX8_digest_346 ?_
        refine z_iald hZ dX8_digest_347 (by assumption) (by assumption) (by omega) (by rfl) ?_
        refine z_if_ne hZ (tgt := 355) dX8_digest_348 rfl (by omega) (fun hc348 => ?_) (fun hc348 => ?_)
        · refine z_aload_n0 hZ dX8_digest_355 ?_
          refine z_cV hZ (As := []) rfl dX8_digest_356 ml_X8_202 wy_X8_sum (m_X8_sum l t v) (by assumption) (by assumption) rfl ⟨Nat.le_of_ble_eq_true rfl, Nat.le_of_ble_eq_true rfl⟩ ⟨Nat.le_of_ble_eq_true rfl, Nat.le_of_ble_eq_true rfl⟩ (Nat.le_of_ble_eq_true rfl) (fun _ _ _ h => h.elim) (fun v356 L356 G356 hp356 => ?_)
          obtain ⟨rfl, rfl, rfl⟩ := hp356
          refine z_aload_n0 hZ dX8_digest_359 ?_
          refine z_gf_X8_s hZ dX8_digest_360 fl_X8_7 (by assumption) (by assumption) ?_
          refine z_iconst hZ dX8_digest_363 ?_
          refine z_iald hZ dX8_digest_364 (by assumption) (by assumption) (by omega) (by rfl) ?_
          refine z_cS hZ (As := [_, _]) rfl dX8_digest_365 ml_X8_222 wy_X8_bits (con) ⟨Nat.le_of_ble_eq_true rfl, Nat.le_of_ble_eq_true rfl⟩ ⟨Nat.le_of_ble_eq_true rfl, Nat.le_of_ble_eq_true rfl⟩ (Nat.le_of_ble_eq_true rfl) (fun _ _ _ h => h.elim) (fun v365 L365 G365 hp365 => ?_)
          obtain ⟨rfl, rfl, rfl⟩ := hp365
          refine z_ladd hZ dX8_digest_368 ?_
          refine z_lstore_n1 hZ dX8_digest_369 (by decide) rfl ?_
          refine z_iconst hZ dX8_digest_370 ?_
          refine z_istore_n3 hZ dX8_digest_371 (by decide) rfl ?_
          exact c372a w4 (ha h (btA g)) hh
        · exfalso; omega
      · have eb : btA g = 0 := if_neg q3
        refine z_ldc2 hZ dX8_digest_337 kl_X8_216 ?_
        rw [show (31 : Int64) = lL 31 from rfl]
        refine z_lload_n1 hZ dX8_digest_340 ?_
        refine z_lmul hZ dX8_digest_341 ?_
        refine z_aload_n0 hZ dX8_digest_342 ?_
        refine z_gf_X8_s hZ dX8_digest_343 fl_X8_7 (by assumption) (by assumption) ?_
        refine z_iconst hZ dX8_digest_346 ?_
        refine z_iald hZ dX8_digest_347 (by assumption) (by assumption) (by omega) (by rfl) ?_
        refine z_if_ne hZ (tgt := 355) dX8_digest_348 rfl (by omega) (fun hc348 => ?_) (fun hc348 => ?_)
        · exfalso; omega
        · refine z_lconst hZ (v := 0) dX8_digest_351 rfl ?_
          refine z_goto hZ (tgt := 368) dX8_digest_352 rfl ?_
          refine z_ladd hZ dX8_digest_368 ?_
          refine z_lstore_n1 hZ dX8_digest_369 (by decide) rfl ?_
          refine z_iconst hZ dX8_digest_370 ?_
          refine z_istore_n3 hZ dX8_digest_371 (by decide) rfl ?_
          have z := c372a w4 (ha h (btA g)) hh
          rw [eb] at z
          exact z
    have c251 : ∀ (w3 w4 : Option Value) (h : Int), hT (ha (ha (hNm h g sv) (kp 0)) (kp 1)) n bf = dgA g kd sv kp n bf → ZZ 0 0 251 [some (.ref x), some (.long (lL (h))), none, w3, w4] [] L F := by
      intro w3 w4 h hh
      refine z_ldc2 hZ dX8_digest_251 kl_X8_216 ?_
      rw [show (31 : Int64) = lL 31 from rfl]
      refine z_lload_n1 hZ dX8_digest_254 ?_
      refine z_lmul hZ dX8_digest_255 ?_
      refine z_aload_n0 hZ dX8_digest_256 ?_
      refine z_gf_X8_s hZ dX8_digest_257 fl_X8_7 (by assumption) (by assumption) ?_
      refine z_bipush hZ dX8_digest_260 rfl ?_
      refine z_iald hZ dX8_digest_262 (by assumption) (by assumption) (by omega) (by rfl) ?_
      rw [sI_iI (z := g 6)]
      refine z_i2l hZ dX8_digest_263 (by omega) ?_
      refine z_ladd hZ dX8_digest_264 ?_
      refine z_lstore_n1 hZ dX8_digest_265 (by decide) rfl ?_
      refine z_ldc2 hZ dX8_digest_266 kl_X8_216 ?_
      rw [show (31 : Int64) = lL 31 from rfl]
      refine z_lload_n1 hZ dX8_digest_269 ?_
      refine z_lmul hZ dX8_digest_270 ?_
      refine z_aload_n0 hZ dX8_digest_271 ?_
      refine z_gf_X8_s hZ dX8_digest_272 fl_X8_7 (by assumption) (by assumption) ?_
      refine z_bipush hZ dX8_digest_275 rfl ?_
      refine z_iald hZ dX8_digest_277 (by assumption) (by assumption) (by omega) (by rfl) ?_
      rw [sI_iI (z := g 7)]
      refine z_i2l hZ dX8_digest_278 (by omega) ?_
      refine z_ladd hZ dX8_digest_279 ?_
      refine z_lstore_n1 hZ dX8_digest_280 (by decide) rfl ?_
      refine z_ldc2 hZ dX8_digest_281 kl_X8_216 ?_
      rw [show (31 : Int64) = lL 31 from rfl]
      refine z_lload_n1 hZ dX8_digest_284 ?_
      refine z_lmul hZ dX8_digest_285 ?_
      refine z_aload_n0 hZ dX8_digest_286 ?_
      refine z_gf_X8_s hZ dX8_digest_287 fl_X8_7 (by assumption) (by assumption) ?_
      refine z_bipush hZ dX8_digest_290 rfl ?_
      refine z_iald hZ dX8_digest_292 (by assumption) (by assumption) (by omega) (by rfl) ?_
      rw [sI_iI (z := g 8)]
      refine z_i2l hZ dX8_digest_293 (by omega) ?_
      refine z_ladd hZ dX8_digest_294 ?_
      refine z_lstore_n1 hZ dX8_digest_295 (by decide) rfl ?_
      refine z_ldc2 hZ dX8_digest_296 kl_X8_216 ?_
      rw [show (31 : Int64) = lL 31 from rfl]
      refine z_lload_n1 hZ dX8_digest_299 ?_
      refine z_lmul hZ dX8_digest_300 ?_
      refine z_aload_n0 hZ dX8_digest_301 ?_
      refine z_gf_X8_s hZ dX8_digest_302 fl_X8_7 (by assumption) (by assumption) ?_
      refine z_bipush hZ dX8_digest_305 rfl ?_
      refine z_iald hZ dX8_digest_307 (by assumption) (by assumption) (by omega) (by rfl) ?_
      rw [sI_iI (z := g 9)]
      refine z_i2l hZ dX8_digest_308 (by omega) ?_
      refine z_ladd hZ dX8_digest_309 ?_
      refine z_lstore_n1 hZ dX8_digest_310 (by decide) rfl ?_
      refine z_ldc2 hZ dX8_digest_311 kl_X8_216 ?_
      rw [show (31 : Int64) = lL 31 from rfl]
      refine z_lload_n1 hZ dX8_digest_314 ?_
      refine z_lmul hZ dX8_digest_315 ?_
      refine z_aload_n0 hZ dX8_digest_316 ?_
      refine z_gf_X8_s hZ dX8_digest_317 fl_X8_7 (by assumption) (by assumption) ?_
      refine z_iconst hZ dX8_digest_320 ?_
      refine z_iald hZ dX8_digest_321 (by assumption) (by assumption) (by omega) (by rfl) ?_
      refine z_i2l hZ dX8_digest_322 (by omega) ?_
      refine z_ladd hZ dX8_digest_323 ?_
      refine z_lstore_n1 hZ dX8_digest_324 (by decide) rfl ?_
      refine z_ldc2 hZ dX8_digest_325 kl_X8_216 ?_
      rw [show (31 : Int64) = lL 31 from rfl]
      refine z_lload_n1 hZ dX8_digest_328 ?_
      refine z_lmul hZ dX8_digest_329 ?_
      refine z_aload_n0 hZ dX8_digest_330 ?_
      refine z_gf_X8_states hZ dX8_digest_331 fl_X8_25 (by assumption) (by assumption) ?_
      refine z_i2l hZ dX8_digest_334 (by omega) ?_
      refine z_ladd hZ dX8_digest_335 ?_
      refine z_lstore_n1 hZ dX8_digest_336 (by decide) rfl ?_
      exact c337 w3 w4 _ hh
    have c224 : ∀ (w3 w4 : Option Value) (h : Int), hT (ha (ha (hNm (ha h (lgA g + 1)) g sv) (kp 0)) (kp 1)) n bf = dgA g kd sv kp n bf → ZZ 0 0 224 [some (.ref x), some (.long (lL (h))), none, w3, w4] [] L F := by
      intro w3 w4 h hh
      refine z_ldc2 hZ dX8_digest_224 kl_X8_216 ?_
      rw [show (31 : Int64) = lL 31 from rfl]
      refine z_lload_n1 hZ dX8_digest_227 ?_
      refine z_lmul hZ dX8_digest_228 ?_
      refine z_aload_n0 hZ dX8_digest_229 ?_
      refine z_gf_X8_s hZ dX8_digest_230 fl_X8_7 (by assumption) (by assumption) ?_
      refine z_iconst hZ dX8_digest_233 ?_
      refine z_iald hZ dX8_digest_234 (by assumption) (by assumption) (by omega) (by rfl) ?_
      refine z_if_le hZ (tgt := 247) dX8_digest_235 rfl (by omega) (fun hc235 => ?_) (fun hc235 => ?_)
      · have l3 := l2 (by omega)
        refine z_iconst hZ dX8_digest_247 ?_
        refine z_i2l hZ dX8_digest_248 (by omega) ?_
        refine z_ladd hZ dX8_digest_249 ?_
        refine z_lstore_n1 hZ dX8_digest_250 (by decide) rfl ?_
        have z := c251 w3 w4 (ha h (lgA g + 1)) hh
        first
          | exact z
          | (rw [l3] at z; exact z)
      · refine z_aload_n0 hZ dX8_digest_238 ?_
        refine z_cV hZ (As := []) rfl dX8_digest_239 ml_X8_205 wy_X8_heavy (m_X8_heavy l t v (by omega)) (by assumption) (by assumption) rfl ⟨Nat.le_of_ble_eq_true rfl, Nat.le_of_ble_eq_true rfl⟩ ⟨Nat.le_of_ble_eq_true rfl, Nat.le_of_ble_eq_true rfl⟩ (Nat.le_of_ble_eq_true rfl) (fun _ _ _ h => h.elim) (fun v239 L239 G239 hp239 => ?_)
        obtain ⟨rfl, rfl, rfl⟩ := hp239
        refine z_iconst hZ dX8_digest_242 ?_
        refine z_iadd hZ dX8_digest_243 ?_
        refine z_goto hZ (tgt := 248) dX8_digest_244 rfl ?_
        refine z_i2l hZ dX8_digest_248 (by omega) ?_
        refine z_ladd hZ dX8_digest_249 ?_
        refine z_lstore_n1 hZ dX8_digest_250 (by decide) rfl ?_
        have z := c251 w3 w4 (ha h (lgA g + 1)) hh
        first
          | exact z
          | (rw [l3] at z; exact z)
    have c212 : ∀ (w3 w4 : Option Value) (h : Int), hT (ha (ha (hNm (ha (ha h (wgA g)) (lgA g + 1)) g sv) (kp 0)) (kp 1)) n bf = dgA g kd sv kp n bf → ZZ 0 0 212 [some (.ref x), some (.long (lL (h))), none, w3, w4] [] L F := by
      intro w3 w4 h hh
      refine z_ldc2 hZ dX8_digest_212 kl_X8_216 ?_
      rw [show (31 : Int64) = lL 31 from rfl]
      refine z_lload_n1 hZ dX8_digest_215 ?_
      refine z_lmul hZ dX8_digest_216 ?_
      refine z_aload_n0 hZ dX8_digest_217 ?_
      refine z_cV hZ (As := []) rfl dX8_digest_218 ml_X8_202 wy_X8_sum (m_X8_sum l t v) (by assumption) (by assumption) rfl ⟨Nat.le_of_ble_eq_true rfl, Nat.le_of_ble_eq_true rfl⟩ ⟨Nat.le_of_ble_eq_true rfl, Nat.le_of_ble_eq_true rfl⟩ (Nat.le_of_ble_eq_true rfl) (fun _ _ _ h => h.elim) (fun v218 L218 G218 hp218 => ?_)
      obtain ⟨rfl, rfl, rfl⟩ := hp218
      refine z_i2l hZ dX8_digest_221 (by omega) ?_
      refine z_ladd hZ dX8_digest_222 ?_
      refine z_lstore_n1 hZ dX8_digest_223 (by decide) rfl ?_
      exact c224 w3 w4 (ha h (wgA g)) hh
    have c191 : ∀ (w3 w4 : Option Value) (h : Int), hT (ha (ha (hNm (ha (ha (ha h (if kd = 2 then 1 else 0)) (wgA g)) (lgA g + 1)) g sv) (kp 0)) (kp 1)) n bf = dgA g kd sv kp n bf → ZZ 0 0 191 [some (.ref x), some (.long (lL (h))), none, w3, w4] [] L F := by
      intro w3 w4 h hh
      refine z_ldc2 hZ dX8_digest_191 kl_X8_216 ?_
      rw [show (31 : Int64) = lL 31 from rfl]
      refine z_lload_n1 hZ dX8_digest_194 ?_
      refine z_lmul hZ dX8_digest_195 ?_
      refine z_aload_n0 hZ dX8_digest_196 ?_
      refine z_gf_X8_kind hZ dX8_digest_197 fl_X8_67 (by assumption) (by assumption) ?_
      refine z_iconst hZ dX8_digest_200 ?_
      refine z_icmp_ne hZ (tgt := 208) dX8_digest_201 rfl (by omega) (fun hc201 => ?_) (fun hc201 => ?_)
      · have k9 : (if kd = 2 then (1 : Int) else 0) = 0 := if_neg (by omega)
        refine z_iconst hZ dX8_digest_208 ?_
        refine z_i2l hZ dX8_digest_209 (by omega) ?_
        refine z_ladd hZ dX8_digest_210 ?_
        refine z_lstore_n1 hZ dX8_digest_211 (by decide) rfl ?_
        have z := c212 w3 w4 (ha h (if kd = 2 then 1 else 0)) hh
        rw [k9] at z
        exact z
      · have k9 : (if kd = 2 then (1 : Int) else 0) = 1 := if_pos (by omega)
        refine z_iconst hZ dX8_digest_204 ?_
        refine z_goto hZ (tgt := 209) dX8_digest_205 rfl ?_
        refine z_i2l hZ dX8_digest_209 (by omega) ?_
        refine z_ladd hZ dX8_digest_210 ?_
        refine z_lstore_n1 hZ dX8_digest_211 (by decide) rfl ?_
        have z := c212 w3 w4 (ha h (if kd = 2 then 1 else 0)) hh
        rw [k9] at z
        exact z
    have c170 : ∀ (w3 w4 : Option Value) (h : Int), hT (ha (ha (hNm (ha (ha (ha (ha h (if kd = 1 then 1 else 0)) (if kd = 2 then 1 else 0)) (wgA g)) (lgA g + 1)) g sv) (kp 0)) (kp 1)) n bf = dgA g kd sv kp n bf → ZZ 0 0 170 [some (.ref x), some (.long (lL (h))), none, w3, w4] [] L F := by
      intro w3 w4 h hh
      refine z_ldc2 hZ dX8_digest_170 kl_X8_216 ?_
      rw [show (31 : Int64) = lL 31 from rfl]
      refine z_lload_n1 hZ dX8_digest_173 ?_
      refine z_lmul hZ dX8_digest_174 ?_
      refine z_aload_n0 hZ dX8_digest_175 ?_
      refine z_gf_X8_kind hZ dX8_digest_176 fl_X8_67 (by assumption) (by assumption) ?_
      refine z_iconst hZ dX8_digest_179 ?_
      refine z_icmp_ne hZ (tgt := 187) dX8_digest_180 rfl (by omega) (fun hc180 => ?_) (fun hc180 => ?_)
      · have k9 : (if kd = 1 then (1 : Int) else 0) = 0 := if_neg (by omega)
        refine z_iconst hZ dX8_digest_187 ?_
        refine z_i2l hZ dX8_digest_188 (by omega) ?_
        refine z_ladd hZ dX8_digest_189 ?_
        refine z_lstore_n1 hZ dX8_digest_190 (by decide) rfl ?_
        have z := c191 w3 w4 (ha h (if kd = 1 then 1 else 0)) hh
        rw [k9] at z
        exact z
      · have k9 : (if kd = 1 then (1 : Int) else 0) = 1 := if_pos (by omega)
        refine z_iconst hZ dX8_digest_183 ?_
        refine z_goto hZ (tgt := 188) dX8_digest_184 rfl ?_
        refine z_i2l hZ dX8_digest_188 (by omega) ?_
        refine z_ladd hZ dX8_digest_189 ?_
        refine z_lstore_n1 hZ dX8_digest_190 (by decide) rfl ?_
        have z := c191 w3 w4 (ha h (if kd = 1 then 1 else 0)) hh
        rw [k9] at z
        exact z
    have c141 : ∀ (w3 w4 : Option Value) (h : Int), hT (ha (ha (hNm (ha (ha (ha (ha (ha h (nxA g + 1)) (if kd = 1 then 1 else 0)) (if kd = 2 then 1 else 0)) (wgA g)) (lgA g + 1)) g sv) (kp 0)) (kp 1)) n bf = dgA g kd sv kp n bf → ZZ 0 0 141 [some (.ref x), some (.long (lL (h))), none, w3, w4] [] L F := by
      intro w3 w4 h hh
      have x1 : g 3 = 0 → nxA g = -1 := fun z => if_pos z
      have x2 : g 3 ≠ 0 → nxA g = g 4 := fun z => if_neg z
      refine z_ldc2 hZ dX8_digest_141 kl_X8_216 ?_
      rw [show (31 : Int64) = lL 31 from rfl]
      refine z_lload_n1 hZ dX8_digest_144 ?_
      refine z_lmul hZ dX8_digest_145 ?_
      refine z_aload_n0 hZ dX8_digest_146 ?_
      refine z_gf_X8_s hZ dX8_digest_147 fl_X8_7 (by assumption) (by assumption) ?_
      refine z_iconst hZ dX8_digest_150 ?_
      refine z_iald hZ dX8_digest_151 (by assumption) (by assumption) (by omega) (by rfl) ?_
      refine z_if_le hZ (tgt := 166) dX8_digest_152 rfl (by omega) (fun hc152 => ?_) (fun hc152 => ?_)
      · have k9 := x1 (by omega)
        refine z_iconst hZ dX8_digest_166 ?_
        refine z_i2l hZ dX8_digest_167 (by omega) ?_
        refine z_ladd hZ dX8_digest_168 ?_
        refine z_lstore_n1 hZ dX8_digest_169 (by decide) rfl ?_
        have z := c170 w3 w4 (ha h (nxA g + 1)) hh
        rw [k9] at z
        exact z
      · have k9 := x2 (by omega)
        refine z_aload_n0 hZ dX8_digest_155 ?_
        refine z_gf_X8_s hZ dX8_digest_156 fl_X8_7 (by assumption) (by assumption) ?_
        refine z_iconst hZ dX8_digest_159 ?_
        refine z_iald hZ dX8_digest_160 (by assumption) (by assumption) (by omega) (by rfl) ?_
        refine z_iconst hZ dX8_digest_161 ?_
        refine z_iadd hZ dX8_digest_162 ?_
        refine z_goto hZ (tgt := 167) dX8_digest_163 rfl ?_
        refine z_i2l hZ dX8_digest_167 (by omega) ?_
        refine z_ladd hZ dX8_digest_168 ?_
        refine z_lstore_n1 hZ dX8_digest_169 (by decide) rfl ?_
        have z := c170 w3 w4 (ha h (nxA g + 1)) hh
        rw [k9] at z
        exact z
    have c65 : ∀ (i h : Int), 0 ≤ i → i < g 3 → (∀ w4 : Option Value, ZZ 0 0 35 [some (.ref x), some (.long (lL (ha (hT h (g (10 + i)) (fun j => g (218 + 200 * i + j))) (g 0 + g (10 + i))))), none, some (.int (iI (i + 1))), w4] [] L F) → ∀ (m : Nat) (j : Int), (g (10 + i) - j).toNat = m → 0 ≤ j → j ≤ g (10 + i) → ZZ 0 0 65 [some (.ref x), some (.long (lL (hxT (ha h (g (10 + i))) (fun j => g (218 + 200 * i + j)) j.toNat))), none, some (.int (iI i)), some (.int (iI j))] [] L F := by
      intro i h i0 i1 nxt
      have hi := v.2.1.1 i i0 i1
      intro m
      induction m with
      | zero =>
        intro j hm j0 j1
        have e : j = g (10 + i) := by omega
        refine z_iload4 hZ dX8_digest_65 ?_
        refine z_aload_n0 hZ dX8_digest_67 ?_
        refine z_gf_X8_s hZ dX8_digest_68 fl_X8_7 (by assumption) (by assumption) ?_
        refine z_bipush hZ dX8_digest_71 rfl ?_
        refine z_iload_n3 hZ dX8_digest_73 ?_
        refine z_iadd hZ dX8_digest_74 ?_
        refine z_iald hZ dX8_digest_75 (by assumption) (by assumption) (by omega) (by rfl) ?_
        refine z_icmp_ge hZ (tgt := 110) dX8_digest_76 rfl (by omega) (fun hc76 => ?_) (fun hc76 => ?_)
        · refine z_ldc2 hZ dX8_digest_110 kl_X8_216 ?_
          rw [show (31 : Int64) = lL 31 from rfl]
          refine z_lload_n1 hZ dX8_digest_113 ?_
          refine z_lmul hZ dX8_digest_114 ?_
          refine z_aload_n0 hZ dX8_digest_115 ?_
          refine z_gf_X8_s hZ dX8_digest_116 fl_X8_7 (by assumption) (by assumption) ?_
          refine z_iconst hZ dX8_digest_119 ?_
          refine z_iald hZ dX8_digest_120 (by assumption) (by assumption) (by omega) (by rfl) ?_
          refine z_i2l hZ dX8_digest_121 (by omega) ?_
          refine z_ladd hZ dX8_digest_122 ?_
          refine z_aload_n0 hZ dX8_digest_123 ?_
          refine z_gf_X8_s hZ dX8_digest_124 fl_X8_7 (by assumption) (by assumption) ?_
          refine z_bipush hZ dX8_digest_127 rfl ?_
          refine z_iload_n3 hZ dX8_digest_129 ?_
          refine z_iadd hZ dX8_digest_130 ?_
          refine z_iald hZ dX8_digest_131 (by assumption) (by assumption) (by omega) (by rfl) ?_
          refine z_i2l hZ dX8_digest_132 (by omega) ?_
          refine z_ladd hZ dX8_digest_133 ?_
          refine z_lstore_n1 hZ dX8_digest_134 (by decide) rfl ?_
          refine z_iinc3 hZ dX8_digest_135 (by decide) rfl ?_
          refine z_goto hZ (tgt := 35) dX8_digest_138 rfl ?_
          have z := nxt (some (.int (iI j)))
          rw [show hT h (g (10 + i)) (fun j => g (218 + 200 * i + j)) = hxT (ha h (g (10 + i))) (fun j => g (218 + 200 * i + j)) j.toNat by rw [e]; rfl] at z
          unfold ha at z ⊢
          rw [← Int.add_assoc] at z
          exact z
        · exfalso; omega
      | succ m ih =>
        intro j hm j0 j1
        have cr := v.2.2.2 i j i0 i1 j0 (by omega)
        refine z_iload4 hZ dX8_digest_65 ?_
        refine z_aload_n0 hZ dX8_digest_67 ?_
        refine z_gf_X8_s hZ dX8_digest_68 fl_X8_7 (by assumption) (by assumption) ?_
        refine z_bipush hZ dX8_digest_71 rfl ?_
        refine z_iload_n3 hZ dX8_digest_73 ?_
        refine z_iadd hZ dX8_digest_74 ?_
        refine z_iald hZ dX8_digest_75 (by assumption) (by assumption) (by omega) (by rfl) ?_
        refine z_icmp_ge hZ (tgt := 110) dX8_digest_76 rfl (by omega) (fun hc76 => ?_) (fun hc76 => ?_)
        · exfalso; omega
        · refine z_ldc2 hZ dX8_digest_79 kl_X8_216 ?_
          rw [show (31 : Int64) = lL 31 from rfl]
          refine z_lload_n1 hZ dX8_digest_82 ?_
          refine z_lmul hZ dX8_digest_83 ?_
          refine z_aload_n0 hZ dX8_digest_84 ?_
          refine z_gf_X8_s hZ dX8_digest_85 fl_X8_7 (by assumption) (by assumption) ?_
          refine z_sipush hZ dX8_digest_88 rfl ?_
          refine z_sipush hZ dX8_digest_91 rfl ?_
          refine z_iload_n3 hZ dX8_digest_94 ?_
          refine z_imul hZ dX8_digest_95 ?_
          refine z_iadd hZ dX8_digest_96 ?_
          refine z_iload4 hZ dX8_digest_97 ?_
          refine z_iadd hZ dX8_digest_99 ?_
          refine z_iald hZ dX8_digest_100 (by assumption) (by assumption) (by omega) (by rfl) ?_
          refine z_i2l hZ dX8_digest_101 (by omega) ?_
          refine z_ladd hZ dX8_digest_102 ?_
          refine z_lstore_n1 hZ dX8_digest_103 (by decide) rfl ?_
          refine z_iinc4 hZ dX8_digest_104 (by decide) rfl ?_
          refine z_goto hZ (tgt := 65) dX8_digest_107 rfl ?_
          have z := ih (j + 1) (by omega) (by omega) (by omega)
          rw [hxT_s j0] at z
          exact z
    have c35 : ∀ (m : Nat) (i : Int) (w4 : Option Value), (g 3 - i).toNat = m → 0 ≤ i → i ≤ g 3 → ZZ 0 0 35 [some (.ref x), some (.long (lL (hRi g (ha (ha (hSc 4457 g) (g 3)) (g 5)) i.toNat))), none, some (.int (iI i)), w4] [] L F := by
      intro m
      induction m with
      | zero =>
        intro i w4 hm i0 i1
        have e : i = g 3 := by omega
        refine z_iload_n3 hZ dX8_digest_35 ?_
        refine z_aload_n0 hZ dX8_digest_36 ?_
        refine z_gf_X8_s hZ dX8_digest_37 fl_X8_7 (by assumption) (by assumption) ?_
        refine z_iconst hZ dX8_digest_40 ?_
        refine z_iald hZ dX8_digest_41 (by assumption) (by assumption) (by omega) (by rfl) ?_
        refine z_icmp_ge hZ (tgt := 141) dX8_digest_42 rfl (by omega) (fun hc42 => ?_) (fun hc42 => ?_)
        · rw [e]; exact c141 _ w4 _ rfl
        · exfalso; omega
      | succ m ih =>
        intro i w4 hm i0 i1
        have hi := v.2.1.1 i i0 (by omega)
        refine z_iload_n3 hZ dX8_digest_35 ?_
        refine z_aload_n0 hZ dX8_digest_36 ?_
        refine z_gf_X8_s hZ dX8_digest_37 fl_X8_7 (by assumption) (by assumption) ?_
        refine z_iconst hZ dX8_digest_40 ?_
        refine z_iald hZ dX8_digest_41 (by assumption) (by assumption) (by omega) (by rfl) ?_
        refine z_icmp_ge hZ (tgt := 141) dX8_digest_42 rfl (by omega) (fun hc42 => ?_) (fun hc42 => ?_)
        · exfalso; omega
        · refine z_ldc2 hZ dX8_digest_45 kl_X8_216 ?_
          rw [show (31 : Int64) = lL 31 from rfl]
          refine z_lload_n1 hZ dX8_digest_48 ?_
          refine z_lmul hZ dX8_digest_49 ?_
          refine z_aload_n0 hZ dX8_digest_50 ?_
          refine z_gf_X8_s hZ dX8_digest_51 fl_X8_7 (by assumption) (by assumption) ?_
          refine z_bipush hZ dX8_digest_54 rfl ?_
          refine z_iload_n3 hZ dX8_digest_56 ?_
          refine z_iadd hZ dX8_digest_57 ?_
          refine z_iald hZ dX8_digest_58 (by assumption) (by assumption) (by omega) (by rfl) ?_
          refine z_i2l hZ dX8_digest_59 (by omega) ?_
          refine z_ladd hZ dX8_digest_60 ?_
          refine z_lstore_n1 hZ dX8_digest_61 (by decide) rfl ?_
          refine z_iconst hZ dX8_digest_62 ?_
          refine z_istore4 hZ dX8_digest_63 (by decide) rfl ?_
          exact c65 i (hRi g (ha (ha (hSc 4457 g) (g 3)) (g 5)) i.toNat) i0 (by omega) (fun w4 => by have z := ih (i + 1) w4 (by omega) (by omega) (by omega); rw [hRi_s i0] at z; exact z) (g (10 + i)).toNat 0 (by omega) (by omega) (by omega)
    refine z_aload_n0 hZ dX8_digest_0 ?_
    refine z_cV hZ (As := []) rfl dX8_digest_1 ml_X8_218 wy_X8_hashOfScroll (m_X8_hashOfScroll l t v) (by assumption) (by assumption) rfl ⟨Nat.le_of_ble_eq_true rfl, Nat.le_of_ble_eq_true rfl⟩ ⟨Nat.le_of_ble_eq_true rfl, Nat.le_of_ble_eq_true rfl⟩ (Nat.le_of_ble_eq_true rfl) (fun _ _ _ h => h.elim) (fun v1 L1 G1 hp1 => ?_)
    obtain ⟨rfl, rfl, rfl⟩ := hp1
    refine z_lstore_n1 hZ dX8_digest_4 (by decide) rfl ?_
    refine z_ldc2 hZ dX8_digest_5 kl_X8_216 ?_
    rw [show (31 : Int64) = lL 31 from rfl]
    refine z_lload_n1 hZ dX8_digest_8 ?_
    refine z_lmul hZ dX8_digest_9 ?_
    refine z_aload_n0 hZ dX8_digest_10 ?_
    refine z_gf_X8_s hZ dX8_digest_11 fl_X8_7 (by assumption) (by assumption) ?_
    refine z_iconst hZ dX8_digest_14 ?_
    refine z_iald hZ dX8_digest_15 (by assumption) (by assumption) (by omega) (by rfl) ?_
    refine z_i2l hZ dX8_digest_16 (by omega) ?_
    refine z_ladd hZ dX8_digest_17 ?_
    refine z_lstore_n1 hZ dX8_digest_18 (by decide) rfl ?_
    refine z_ldc2 hZ dX8_digest_19 kl_X8_216 ?_
    rw [show (31 : Int64) = lL 31 from rfl]
    refine z_lload_n1 hZ dX8_digest_22 ?_
    refine z_lmul hZ dX8_digest_23 ?_
    refine z_aload_n0 hZ dX8_digest_24 ?_
    refine z_gf_X8_s hZ dX8_digest_25 fl_X8_7 (by assumption) (by assumption) ?_
    refine z_iconst hZ dX8_digest_28 ?_
    refine z_iald hZ dX8_digest_29 (by assumption) (by assumption) (by omega) (by rfl) ?_
    refine z_i2l hZ dX8_digest_30 (by omega) ?_
    refine z_ladd hZ dX8_digest_31 ?_
    refine z_lstore_n1 hZ dX8_digest_32 (by decide) rfl ?_
    refine z_iconst hZ dX8_digest_33 ?_
    refine z_istore_n3 hZ dX8_digest_34 (by decide) rfl ?_
    exact c35 (g 3).toNat 0 _ (by omega) (by omega) (by omega)
  exact hgo

