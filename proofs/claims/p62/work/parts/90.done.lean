/-! THE LAW, a change made. -/
set_option maxRecDepth 100000 in
set_option maxHeartbeats 8000000 in
theorem lw_done (l : Launch) (hfl : l.flags = flags0) {ZZ : ZT} {tbl : List ExceptionTableEntry} {nm ds : String} {Φ : State → Prop} {post : Option Value → List Nat → (Nat → PE) → Prop} {xp : String → List Nat → (Nat → PE) → Prop} (hZ : ZZ = Zq Φ tbl l ⟨"DragonRingLaw", nm, ds⟩ cL_law 13 (some .boolean) room_1 [] post xp) (hΦ : ∀ s, Φ s → va_Nc xS xA s) {b : Nat} {L : List Nat} {K : Nat → Nat} {i y gr told : Int} {v : Int → Int} {kd sv : Int} (hv : vf v kd) (hgr : (kd = 1 ∧ gr = 1) ∨ (kd ≠ 1 ∧ gr = 0)) (hy : 0 ≤ y ∧ y ≤ 2147483647) (hsv : 0 ≤ sv ∧ sv ≤ 6) {A B : Nat} (hA : A ≤ 200000) (hB : B ≤ 2000000)
    (nxt : ∀ (a1 b1 : Nat) (F1 : Nat → PE) (x11 x12 : Option Value) (v2 : Int → Int) (kd2 sv2 : Int) (H2 Q2 : Int → Int → Int) (kp2 bf2 : Int → Int), a1 ≤ A + 20 → b1 ≤ B + 120 → dr L F1 K v2 kd2 sv2 H2 kp2 Q2 0 bf2 → jv v2 kd2 → ZZ a1 b1 412 [some (.ref b), some (.ref (K 0)), some (.int (iI 1)), some (.int (iI i)), some (.int (iI y)), some (.int (iI (nuA v))), some (.int (iI sv)), some (.int (iI gr)), some (.int (iI (v 3))), some (.int (iI (v 6))), some (.int (iI told)), x11, x12] [] L F1)
    {H Q : Int → Int → Int} {kp bf v1 : Int → Int} {k1 : Int} {F : Nat → PE} (t : dr L F K v1 k1 (hN sv) (hS sv H v) kp Q 0 bf) (hj : jv v1 k1) (hkr : kR (y % 32) told v kd v1 k1) (ht : 0 ≤ told ∧ told ≤ 100000) (a0 b0 : Nat) (ha : a0 + 800 ≤ A) (hb : b0 + 4800 ≤ B) (x11 x12 : Option Value) :
    ZZ a0 b0 173 [some (.ref b), some (.ref (K 0)), some (.int (iI 1)), some (.int (iI i)), some (.int (iI y)), some (.int (iI (nuA v))), some (.int (iI sv)), some (.int (iI gr)), some (.int (iI (v 3))), some (.int (iI (v 6))), some (.int (iI told)), x11, x12] [] L F := by
  have hh : (sv = 6 ∧ hN sv = 6) ∨ (sv < 6 ∧ hN sv = sv + 1) := by
    unfold hN
    by_cases q : sv < 6
    · exact Or.inr ⟨q, if_pos q⟩
    · exact Or.inl ⟨by omega, if_neg q⟩
  have r := hv.1
  have fx1 := dr.fx t
  have r1 := fx1.1.1
  have hK0 := dr.L t 0 (by omega)
  have hF0 := (dr.S t).2.1
  have k311 : ∀ (a1 b1 : Nat) (x12 : Option Value), a1 ≤ A → b1 ≤ B → ZZ a1 b1 311 [some (.ref b), some (.ref (K 0)), some (.int (iI 1)), some (.int (iI i)), some (.int (iI y)), some (.int (iI (nuA v))), some (.int (iI sv)), some (.int (iI gr)), some (.int (iI (v 3))), some (.int (iI (v 6))), some (.int (iI told)), some (.int (iI (y % 32))), x12] [] L F := fun a1 b1 x12 h1 h2 => lw_back l hfl hZ hΦ (kd := kd) hy hsv hA hB nxt t hj a1 b1 h1 h2 _ x12 rfl
  have k234 : 18 ≤ y % 32 → y % 32 ≤ 22 → ∀ (a1 b1 : Nat), a1 ≤ A → b1 ≤ B → ZZ a1 b1 234 [some (.ref b), some (.ref (K 0)), some (.int (iI 1)), some (.int (iI i)), some (.int (iI y)), some (.int (iI (nuA v))), some (.int (iI sv)), some (.int (iI gr)), some (.int (iI (v 3))), some (.int (iI (v 6))), some (.int (iI told)), some (.int (iI (y % 32))), x12] [] L F := by
    intro y0 y1 a1 b1 ha1 hb1
    have kr := hkr y0 y1
    have e10 : k1 = 1 := kr.1
    have k3 := (fx1.1.2.1.2.2.2.2.1 e10).1
    have kc : kd ≠ 1 → (v 3 = v 5 ∧ v1 3 = v 3) ∨ (v 3 ≠ v 5 ∧ v1 3 = v 3 + 1) := fun q => by
      have z := (kr.2.2.2.2 q).2
      by_cases c : v 3 = v 5
      · rw [if_pos c] at z; exact Or.inl ⟨c, z⟩
      · rw [if_neg c] at z; exact Or.inr ⟨c, z⟩
    have e5 := kr.2.2.1
    refine zq_aload_n1 hZ dL_law_234 ?_
    refine zq_cVr hZ (As := []) rfl dL_law_235 ml_L_236 wy_X7_isGrowing (m_X7_isGrowing l t) hK0 hF0 rfl ⟨Nat.le_of_ble_eq_true rfl, Nat.le_of_ble_eq_true rfl⟩ (by omega) (Nat.le_of_ble_eq_true rfl) (fun _ _ _ h => h.elim) (fun v235 L235 F235 hp235 => ?_)
    obtain ⟨rfl, rfl, rfl⟩ := hp235
    rw [if_pos e10]
    refine zq_if_eq hZ (tgt := 309) dL_law_238 rfl (by omega) (fun hc238 => ?_) (fun hc238 => ?_)
    · exfalso; omega
    · refine zq_aload_n1 hZ dL_law_241 ?_
      refine zq_cVr hZ (As := []) rfl dL_law_242 ml_L_195 wy_X7_killed (m_X7_killed l t) hK0 hF0 rfl ⟨Nat.le_of_ble_eq_true rfl, Nat.le_of_ble_eq_true rfl⟩ (by omega) (Nat.le_of_ble_eq_true rfl) (fun _ _ _ h => h.elim) (fun v242 L242 F242 hp242 => ?_)
      obtain ⟨rfl, rfl, rfl⟩ := hp242
      refine zq_iload9 hZ dL_law_245 ?_
      refine zq_iload10 hZ dL_law_247 ?_
      refine zq_iadd hZ dL_law_249 ?_
      refine zq_icmp_ne_raw hZ (tgt := 309) dL_law_250 rfl (fun hc250 => ?_) (fun hc250 => ?_)
      · exact absurd (congrArg iI kr.2.1) hc250
      · refine zq_iload7 hZ dL_law_253 ?_
        refine zq_if_eq hZ (tgt := 270) dL_law_255 rfl (by omega) (fun hc255 => ?_) (fun hc255 => ?_)
        · have kc := kc (by omega)
          refine zq_aload_n1 hZ dL_law_270 ?_
          refine zq_iconst hZ dL_law_271 ?_
          refine zq_cSr hZ hΦ (As := [_, _]) rfl dL_law_272 ml_L_189 wy_L_hoard (m_L_hoard0 l hfl t (⟨by omega, by omega⟩)) ⟨Nat.le_of_ble_eq_true rfl, Nat.le_of_ble_eq_true rfl⟩ (by omega) (Nat.le_of_ble_eq_true rfl) (fun v272 L272 F272 hp272 => ?_)
          obtain ⟨rfl, rfl, rfl⟩ := hp272
          refine zq_iload10 hZ dL_law_275 ?_
          refine zq_icmp_ne_raw hZ (tgt := 309) dL_law_277 rfl (fun hc277 => ?_) (fun hc277 => ?_)
          · exact absurd (congrArg iI (show v1 (10 + 0) = told from (kr.2.2.2.2 (by omega)).1)) hc277
          · refine zq_aload_n1 hZ dL_law_280 ?_
            refine zq_cVr hZ (As := []) rfl dL_law_281 ml_L_186 wy_X7_hoards (m_X7_hoards l t) hK0 hF0 rfl ⟨Nat.le_of_ble_eq_true rfl, Nat.le_of_ble_eq_true rfl⟩ (by omega) (Nat.le_of_ble_eq_true rfl) (fun _ _ _ h => h.elim) (fun v281 L281 F281 hp281 => ?_)
            obtain ⟨rfl, rfl, rfl⟩ := hp281
            refine zq_iload8 hZ dL_law_284 ?_
            refine zq_aload_n1 hZ dL_law_286 ?_
            refine zq_cVr hZ (As := []) rfl dL_law_287 ml_L_181 wy_X7_caves (m_X7_caves l t) hK0 hF0 rfl ⟨Nat.le_of_ble_eq_true rfl, Nat.le_of_ble_eq_true rfl⟩ (by omega) (Nat.le_of_ble_eq_true rfl) (fun _ _ _ h => h.elim) (fun v287 L287 F287 hp287 => ?_)
            obtain ⟨rfl, rfl, rfl⟩ := hp287
            refine zq_icmp_ne hZ (tgt := 298) dL_law_290 rfl (by omega) (fun hc290 => ?_) (fun hc290 => ?_)
            · refine zq_iload8 hZ dL_law_298 ?_
              refine zq_iconst hZ dL_law_300 ?_
              refine zq_iadd hZ dL_law_301 ?_
              refine zq_icmp_ne hZ (tgt := 309) dL_law_302 rfl (by omega) (fun hc302 => ?_) (fun hc302 => ?_)
              · exfalso; omega
              · refine zq_iconst hZ dL_law_305 ?_
                refine zq_goto hZ (tgt := 310) dL_law_306 rfl ?_
                refine zq_istore_n2 hZ dL_law_310 (by decide) rfl ?_
                exact k311 _ _ _ (by omega) (by omega)
            · refine zq_iload8 hZ dL_law_293 ?_
              refine zq_goto hZ (tgt := 302) dL_law_295 rfl ?_
              refine zq_icmp_ne hZ (tgt := 309) dL_law_302 rfl (by omega) (fun hc302 => ?_) (fun hc302 => ?_)
              · exfalso; omega
              · refine zq_iconst hZ dL_law_305 ?_
                refine zq_goto hZ (tgt := 310) dL_law_306 rfl ?_
                refine zq_istore_n2 hZ dL_law_310 (by decide) rfl ?_
                exact k311 _ _ _ (by omega) (by omega)
        · refine zq_aload_n1 hZ dL_law_258 ?_
          refine zq_cVr hZ (As := []) rfl dL_law_259 ml_L_186 wy_X7_hoards (m_X7_hoards l t) hK0 hF0 rfl ⟨Nat.le_of_ble_eq_true rfl, Nat.le_of_ble_eq_true rfl⟩ (by omega) (Nat.le_of_ble_eq_true rfl) (fun _ _ _ h => h.elim) (fun v259 L259 F259 hp259 => ?_)
          obtain ⟨rfl, rfl, rfl⟩ := hp259
          refine zq_iload8 hZ dL_law_262 ?_
          refine zq_icmp_ne_raw hZ (tgt := 309) dL_law_264 rfl (fun hc264 => ?_) (fun hc264 => ?_)
          · exact absurd (congrArg iI (kr.2.2.2.1 (by omega))) hc264
          · refine zq_goto hZ (tgt := 305) dL_law_267 rfl ?_
            refine zq_iconst hZ dL_law_305 ?_
            refine zq_goto hZ (tgt := 310) dL_law_306 rfl ?_
            refine zq_istore_n2 hZ dL_law_310 (by decide) rfl ?_
            exact k311 _ _ _ (by omega) (by omega)
  refine zq_aload_n1 hZ dL_law_173 ?_
  refine zq_cVr hZ (As := []) rfl dL_law_174 ml_L_270 wy_X7_savedStates (m_X7_savedStates l t) hK0 hF0 rfl ⟨Nat.le_of_ble_eq_true rfl, Nat.le_of_ble_eq_true rfl⟩ (by omega) (Nat.le_of_ble_eq_true rfl) (fun _ _ _ h => h.elim) (fun v174 L174 F174 hp174 => ?_)
  obtain ⟨rfl, rfl, rfl⟩ := hp174
  refine zq_iload6 hZ dL_law_177 ?_
  refine zq_bipush hZ dL_law_179 rfl ?_
  refine zq_icmp_ne hZ (tgt := 189) dL_law_181 rfl (by omega) (fun hc181 => ?_) (fun hc181 => ?_)
  · refine zq_iload6 hZ dL_law_189 ?_
    refine zq_iconst hZ dL_law_191 ?_
    refine zq_iadd hZ dL_law_192 ?_
    refine zq_icmp_ne hZ (tgt := 207) dL_law_193 rfl (by omega) (fun hc193 => ?_) (fun hc193 => ?_)
    · exfalso; omega
    · refine zq_aload_n1 hZ dL_law_196 ?_
      refine zq_cNr hZ hΦ (As := [_]) rfl dL_law_197 ml_L_259 wy_L_hangs (m_L_hangs l hfl t hj) ⟨Nat.le_of_ble_eq_true rfl, Nat.le_of_ble_eq_true rfl⟩ (by omega) (Nat.le_of_ble_eq_true rfl) (fun v197 L197 F197 hp197 => ?_)
      obtain ⟨rfl, rfl, rfl⟩ := hp197
      refine zq_if_eq hZ (tgt := 207) dL_law_200 rfl (by omega) (fun hc200 => ?_) (fun hc200 => ?_)
      · exfalso; omega
      · refine zq_iconst hZ dL_law_203 ?_
        refine zq_goto hZ (tgt := 208) dL_law_204 rfl ?_
        refine zq_istore_n2 hZ dL_law_208 (by decide) rfl ?_
        refine zq_iload4 hZ dL_law_209 ?_
        refine zq_bipush hZ dL_law_211 rfl ?_
        refine zq_irem hZ dL_law_213 (by omega) ?_
        refine zq_istore11 hZ dL_law_214 (by decide) rfl ?_
        refine zq_iload_n2 hZ dL_law_216 ?_
        refine zq_if_eq hZ (tgt := 311) dL_law_217 rfl (by omega) (fun hc217 => ?_) (fun hc217 => ?_)
        · exfalso; omega
        · refine zq_iload11 hZ dL_law_220 ?_
          refine zq_bipush hZ dL_law_222 rfl ?_
          refine zq_icmp_lt hZ (tgt := 311) dL_law_224 rfl (by omega) (fun hc224 => ?_) (fun hc224 => ?_)
          · exact k311 _ _ _ (by omega) (by omega)
          · refine zq_iload11 hZ dL_law_227 ?_
            refine zq_bipush hZ dL_law_229 rfl ?_
            refine zq_icmp_gt hZ (tgt := 311) dL_law_231 rfl (by omega) (fun hc231 => ?_) (fun hc231 => ?_)
            · exact k311 _ _ _ (by omega) (by omega)
            · exact k234 (by omega) (by omega) _ _ (by omega) (by omega)
  · refine zq_bipush hZ dL_law_184 rfl ?_
    refine zq_goto hZ (tgt := 193) dL_law_186 rfl ?_
    refine zq_icmp_ne hZ (tgt := 207) dL_law_193 rfl (by omega) (fun hc193 => ?_) (fun hc193 => ?_)
    · exfalso; omega
    · refine zq_aload_n1 hZ dL_law_196 ?_
      refine zq_cNr hZ hΦ (As := [_]) rfl dL_law_197 ml_L_259 wy_L_hangs (m_L_hangs l hfl t hj) ⟨Nat.le_of_ble_eq_true rfl, Nat.le_of_ble_eq_true rfl⟩ (by omega) (Nat.le_of_ble_eq_true rfl) (fun v197 L197 F197 hp197 => ?_)
      obtain ⟨rfl, rfl, rfl⟩ := hp197
      refine zq_if_eq hZ (tgt := 207) dL_law_200 rfl (by omega) (fun hc200 => ?_) (fun hc200 => ?_)
      · exfalso; omega
      · refine zq_iconst hZ dL_law_203 ?_
        refine zq_goto hZ (tgt := 208) dL_law_204 rfl ?_
        refine zq_istore_n2 hZ dL_law_208 (by decide) rfl ?_
        refine zq_iload4 hZ dL_law_209 ?_
        refine zq_bipush hZ dL_law_211 rfl ?_
        refine zq_irem hZ dL_law_213 (by omega) ?_
        refine zq_istore11 hZ dL_law_214 (by decide) rfl ?_
        refine zq_iload_n2 hZ dL_law_216 ?_
        refine zq_if_eq hZ (tgt := 311) dL_law_217 rfl (by omega) (fun hc217 => ?_) (fun hc217 => ?_)
        · exfalso; omega
        · refine zq_iload11 hZ dL_law_220 ?_
          refine zq_bipush hZ dL_law_222 rfl ?_
          refine zq_icmp_lt hZ (tgt := 311) dL_law_224 rfl (by omega) (fun hc224 => ?_) (fun hc224 => ?_)
          · exact k311 _ _ _ (by omega) (by omega)
          · refine zq_iload11 hZ dL_law_227 ?_
            refine zq_bipush hZ dL_law_229 rfl ?_
            refine zq_icmp_gt hZ (tgt := 311) dL_law_231 rfl (by omega) (fun hc231 => ?_) (fun hc231 => ?_)
            · exact k311 _ _ _ (by omega) (by omega)
            · exact k234 (by omega) (by omega) _ _ (by omega) (by omega)
