/-! A CHANGE BY A CELL. -/
set_option maxRecDepth 100000 in
set_option maxHeartbeats 8000000 in
theorem m_L_acts (l : Launch) {L : List Nat} {F : Nat → PE} {K : Nat → Nat} {v : Int → Int} {kd sv n : Int} {H Q : Int → Int → Int} {kp bf : Int → Int} (hfl : l.flags = flags0) (t : dr L F K v kd sv H kp Q n bf) (hj : jv v kd) {y : Int} (hy : 0 ≤ y ∧ y ≤ 2147483647) : PMf (va_Nc xS xA) l yL_acts cL_acts 3 (some .int) (rm 11 8 48) L [.ref (K 0), .int (iI y)] F (aP L K v kd sv H kp Q (y % 32)) := by
  refine pmf_of cd_L_acts (by decide +kernel) (Nat.le_of_ble_eq_true rfl) (fun ZZ hZ => ?_)
  have hgo : ZZ 0 0 0 [some (.ref (K 0)), some (.int (iI y)), none] [] L F := by
    have fx := dr.fx t
    have r := fx.1.1
    have hK0 := dr.L t 0 (by omega)
    have hF0 := (dr.S t).2.1
    obtain ⟨z, hz⟩ : ∃ z, z = y / 32 := ⟨_, rfl⟩
    have z0 : 0 ≤ z ∧ z ≤ 67108863 := by omega
    have b144 : (y % 32 < 18 ∨ 22 < y % 32) → ZZ 0 0 144 [some (.ref (K 0)), some (.int (iI y)), some (.int (iI z))] [] L F := by
      intro hc
      refine zq_aload_n0 hZ dL_acts_144 ?_
      refine zq_iload_n2 hZ dL_acts_145 ?_
      refine zq_bipush hZ dL_acts_146 rfl ?_
      refine zq_irem hZ dL_acts_148 (by omega) ?_
      refine zq_if_ne hZ (tgt := 157) dL_acts_149 rfl (by omega) (fun hc149 => ?_) (fun hc149 => ?_)
      · refine zq_iload_n2 hZ dL_acts_157 ?_
        refine zq_bipush hZ dL_acts_158 rfl ?_
        refine zq_irem hZ dL_acts_160 (by omega) ?_
        refine zq_iconst hZ dL_acts_161 ?_
        refine zq_icmp_ne hZ (tgt := 170) dL_acts_162 rfl (by omega) (fun hc162 => ?_) (fun hc162 => ?_)
        · refine zq_bipush hZ dL_acts_170 rfl ?_
          refine zq_iload_n2 hZ dL_acts_172 ?_
          refine zq_bipush hZ dL_acts_173 rfl ?_
          refine zq_idiv hZ dL_acts_175 (by omega) ?_
          refine zq_bipush hZ dL_acts_176 rfl ?_
          refine zq_irem hZ dL_acts_178 (by omega) ?_
          refine zq_iadd hZ dL_acts_179 ?_
          refine zq_cSr hZ (fun _ h => h) (As := [_, _]) rfl dL_acts_180 ml_L_110 wy_L_write (m_L_write l hfl t (by omega) (c := y % 32) hc) ⟨Nat.le_of_ble_eq_true rfl, Nat.le_of_ble_eq_true rfl⟩ ⟨Nat.le_of_ble_eq_true rfl, Nat.le_of_ble_eq_true rfl⟩ (Nat.le_of_ble_eq_true rfl) (fun v180 L180 F180 hp180 => ?_)
          obtain ⟨rfl, told180, n180, bf180, rfl, hp180⟩ := hp180
          exact zq_iret hZ rfl (Nat.le_of_ble_eq_true rfl) (Nat.le_of_ble_eq_true rfl) dL_acts_183 (by exact ⟨rfl, told180, n180, bf180, rfl, hp180⟩)
        · refine zq_bipush hZ dL_acts_165 rfl ?_
          refine zq_goto hZ (tgt := 180) dL_acts_167 rfl ?_
          refine zq_cSr hZ (fun _ h => h) (As := [_, _]) rfl dL_acts_180 ml_L_110 wy_L_write (m_L_write l hfl t (by omega) (c := y % 32) hc) ⟨Nat.le_of_ble_eq_true rfl, Nat.le_of_ble_eq_true rfl⟩ ⟨Nat.le_of_ble_eq_true rfl, Nat.le_of_ble_eq_true rfl⟩ (Nat.le_of_ble_eq_true rfl) (fun v180 L180 F180 hp180 => ?_)
          obtain ⟨rfl, told180, n180, bf180, rfl, hp180⟩ := hp180
          exact zq_iret hZ rfl (Nat.le_of_ble_eq_true rfl) (Nat.le_of_ble_eq_true rfl) dL_acts_183 (by exact ⟨rfl, told180, n180, bf180, rfl, hp180⟩)
      · refine zq_bipush hZ dL_acts_152 rfl ?_
        refine zq_goto hZ (tgt := 180) dL_acts_154 rfl ?_
        refine zq_cSr hZ (fun _ h => h) (As := [_, _]) rfl dL_acts_180 ml_L_110 wy_L_write (m_L_write l hfl t (by omega) (c := y % 32) hc) ⟨Nat.le_of_ble_eq_true rfl, Nat.le_of_ble_eq_true rfl⟩ ⟨Nat.le_of_ble_eq_true rfl, Nat.le_of_ble_eq_true rfl⟩ (Nat.le_of_ble_eq_true rfl) (fun v180 L180 F180 hp180 => ?_)
        obtain ⟨rfl, told180, n180, bf180, rfl, hp180⟩ := hp180
        exact zq_iret hZ rfl (Nat.le_of_ble_eq_true rfl) (Nat.le_of_ble_eq_true rfl) dL_acts_183 (by exact ⟨rfl, told180, n180, bf180, rfl, hp180⟩)
    have b184 : (y % 32 < 18 ∨ 22 < y % 32) → ZZ 0 0 184 [some (.ref (K 0)), some (.int (iI y)), some (.int (iI z))] [] L F := by
      intro hc
      refine zq_aload_n0 hZ dL_acts_184 ?_
      refine zq_cSr hZ (fun _ h => h) (As := [_]) rfl dL_acts_185 ml_L_115 wy_L_rub (m_L_rub l hfl t (c := y % 32) hc) ⟨Nat.le_of_ble_eq_true rfl, Nat.le_of_ble_eq_true rfl⟩ ⟨Nat.le_of_ble_eq_true rfl, Nat.le_of_ble_eq_true rfl⟩ (Nat.le_of_ble_eq_true rfl) (fun v185 L185 F185 hp185 => ?_)
      obtain ⟨rfl, told185, n185, bf185, rfl, hp185⟩ := hp185
      exact zq_iret hZ rfl (Nat.le_of_ble_eq_true rfl) (Nat.le_of_ble_eq_true rfl) dL_acts_188 (by exact ⟨rfl, told185, n185, bf185, rfl, hp185⟩)
    have b189 : (y % 32 < 18 ∨ 22 < y % 32) → ZZ 0 0 189 [some (.ref (K 0)), some (.int (iI y)), some (.int (iI z))] [] L F := by
      intro hc
      refine zq_aload_n0 hZ dL_acts_189 ?_
      refine zq_cSr hZ (fun _ h => h) (As := [_]) rfl dL_acts_190 ml_L_118 wy_L_swap (m_L_swap l hfl t (c := y % 32) hc) ⟨Nat.le_of_ble_eq_true rfl, Nat.le_of_ble_eq_true rfl⟩ ⟨Nat.le_of_ble_eq_true rfl, Nat.le_of_ble_eq_true rfl⟩ (Nat.le_of_ble_eq_true rfl) (fun v190 L190 F190 hp190 => ?_)
      obtain ⟨rfl, told190, n190, bf190, rfl, hp190⟩ := hp190
      exact zq_iret hZ rfl (Nat.le_of_ble_eq_true rfl) (Nat.le_of_ble_eq_true rfl) dL_acts_193 (by exact ⟨rfl, told190, n190, bf190, rfl, hp190⟩)
    have b194 : (y % 32 < 18 ∨ 22 < y % 32) → ZZ 0 0 194 [some (.ref (K 0)), some (.int (iI y)), some (.int (iI z))] [] L F := by
      intro hc
      refine zq_aload_n0 hZ dL_acts_194 ?_
      refine zq_cVr hZ (As := []) rfl dL_acts_195 ml_L_120 wy_X7_greaten (m_X7_greaten l hfl t) hK0 hF0 rfl ⟨Nat.le_of_ble_eq_true rfl, Nat.le_of_ble_eq_true rfl⟩ ⟨Nat.le_of_ble_eq_true rfl, Nat.le_of_ble_eq_true rfl⟩ (Nat.le_of_ble_eq_true rfl) (fun _ _ _ h => (h.2.1 trivial).elim) (fun v195 L195 F195 hp195 => ?_)
      obtain ⟨ok, rfl, rfl, t2⟩ := hp195
      have rr := dAn_rg (d := 18) fx.1 (by decide) ok
      exact zq_iret hZ rfl (Nat.le_of_ble_eq_true rfl) (Nat.le_of_ble_eq_true rfl) dL_acts_198 (by exact aP.yes (by omega) t2 jv0 (kR_no hc))
    have b199 : (y % 32 < 18 ∨ 22 < y % 32) → ZZ 0 0 199 [some (.ref (K 0)), some (.int (iI y)), some (.int (iI z))] [] L F := by
      intro hc
      refine zq_aload_n0 hZ dL_acts_199 ?_
      refine zq_iload_n2 hZ dL_acts_200 ?_
      refine zq_aload_n0 hZ dL_acts_201 ?_
      refine zq_cVr hZ (As := []) rfl dL_acts_202 ml_L_123 wy_X7_length (m_X7_length l t) hK0 hF0 rfl ⟨Nat.le_of_ble_eq_true rfl, Nat.le_of_ble_eq_true rfl⟩ ⟨Nat.le_of_ble_eq_true rfl, Nat.le_of_ble_eq_true rfl⟩ (Nat.le_of_ble_eq_true rfl) (fun _ _ _ h => h.elim) (fun v202 L202 F202 hp202 => ?_)
      obtain ⟨rfl, rfl, rfl⟩ := hp202
      refine zq_iconst hZ dL_acts_205 ?_
      refine zq_iadd hZ dL_acts_206 ?_
      refine zq_irem hZ dL_acts_207 (by omega) ?_
      have em := Int.emod_nonneg z (b := v 0 + 2) (by omega)
      have em2 := Int.emod_lt_of_pos z (b := v 0 + 2) (by omega)
      refine zq_cSr hZ (fun _ h => h) (As := [_, _]) rfl dL_acts_208 ml_L_126 wy_L_goTo (m_L_goTo l hfl t (by omega) (c := y % 32) hc) ⟨Nat.le_of_ble_eq_true rfl, Nat.le_of_ble_eq_true rfl⟩ ⟨Nat.le_of_ble_eq_true rfl, Nat.le_of_ble_eq_true rfl⟩ (Nat.le_of_ble_eq_true rfl) (fun v208 L208 F208 hp208 => ?_)
      obtain ⟨rfl, told208, n208, bf208, rfl, hp208⟩ := hp208
      exact zq_iret hZ rfl (Nat.le_of_ble_eq_true rfl) (Nat.le_of_ble_eq_true rfl) dL_acts_211 (by exact ⟨rfl, told208, n208, bf208, rfl, hp208⟩)
    have b212 : (y % 32 < 18 ∨ 22 < y % 32) → ZZ 0 0 212 [some (.ref (K 0)), some (.int (iI y)), some (.int (iI z))] [] L F := by
      intro hc
      refine zq_aload_n0 hZ dL_acts_212 ?_
      refine zq_cVr hZ (As := []) rfl dL_acts_213 ml_L_128 wy_X7_wordOn (m_X7_wordOn l hfl t) hK0 hF0 rfl ⟨Nat.le_of_ble_eq_true rfl, Nat.le_of_ble_eq_true rfl⟩ ⟨Nat.le_of_ble_eq_true rfl, Nat.le_of_ble_eq_true rfl⟩ (Nat.le_of_ble_eq_true rfl) (fun _ _ _ h => (h.2.1 trivial).elim) (fun v213 L213 F213 hp213 => ?_)
      obtain ⟨ok, rfl, rfl, t2⟩ := hp213
      have rr := dAn_rg (d := 2) fx.1 (by decide) ok
      exact zq_iret hZ rfl (Nat.le_of_ble_eq_true rfl) (Nat.le_of_ble_eq_true rfl) dL_acts_216 (by exact aP.yes (by omega) t2 jv0 (kR_no hc))
    have b217 : (y % 32 < 18 ∨ 22 < y % 32) → ZZ 0 0 217 [some (.ref (K 0)), some (.int (iI y)), some (.int (iI z))] [] L F := by
      intro hc
      refine zq_aload_n0 hZ dL_acts_217 ?_
      refine zq_cVr hZ (As := []) rfl dL_acts_218 ml_L_131 wy_X7_wordBack (m_X7_wordBack l hfl t) hK0 hF0 rfl ⟨Nat.le_of_ble_eq_true rfl, Nat.le_of_ble_eq_true rfl⟩ ⟨Nat.le_of_ble_eq_true rfl, Nat.le_of_ble_eq_true rfl⟩ (Nat.le_of_ble_eq_true rfl) (fun _ _ _ h => (h.2.1 trivial).elim) (fun v218 L218 F218 hp218 => ?_)
      obtain ⟨ok, rfl, rfl, t2⟩ := hp218
      have rr := dAn_rg (d := 3) fx.1 (by decide) ok
      exact zq_iret hZ rfl (Nat.le_of_ble_eq_true rfl) (Nat.le_of_ble_eq_true rfl) dL_acts_221 (by exact aP.yes (by omega) t2 jv0 (kR_no hc))
    have b222 : (y % 32 < 18 ∨ 22 < y % 32) → ZZ 0 0 222 [some (.ref (K 0)), some (.int (iI y)), some (.int (iI z))] [] L F := by
      intro hc
      refine zq_iload_n2 hZ dL_acts_222 ?_
      refine zq_iconst hZ dL_acts_223 ?_
      refine zq_irem hZ dL_acts_224 (by omega) ?_
      refine zq_if_ne hZ (tgt := 235) dL_acts_225 rfl (by omega) (fun hc225 => ?_) (fun hc225 => ?_)
      · refine zq_aload_n0 hZ dL_acts_235 ?_
        refine zq_cVr hZ (As := []) rfl dL_acts_236 ml_L_137 wy_X7_lineEnd (m_X7_lineEnd l hfl t) hK0 hF0 rfl ⟨Nat.le_of_ble_eq_true rfl, Nat.le_of_ble_eq_true rfl⟩ ⟨Nat.le_of_ble_eq_true rfl, Nat.le_of_ble_eq_true rfl⟩ (Nat.le_of_ble_eq_true rfl) (fun _ _ _ h => (h.2.1 trivial).elim) (fun v236 L236 F236 hp236 => ?_)
        obtain ⟨ok, rfl, rfl, t2⟩ := hp236
        have rr := dAn_rg (d := 5) fx.1 (by decide) ok
        exact zq_iret hZ rfl (Nat.le_of_ble_eq_true rfl) (Nat.le_of_ble_eq_true rfl) dL_acts_239 (by exact aP.yes (by omega) t2 jv0 (kR_no hc))
      · refine zq_aload_n0 hZ dL_acts_228 ?_
        refine zq_cVr hZ (As := []) rfl dL_acts_229 ml_L_134 wy_X7_lineBegin (m_X7_lineBegin l hfl t) hK0 hF0 rfl ⟨Nat.le_of_ble_eq_true rfl, Nat.le_of_ble_eq_true rfl⟩ ⟨Nat.le_of_ble_eq_true rfl, Nat.le_of_ble_eq_true rfl⟩ (Nat.le_of_ble_eq_true rfl) (fun _ _ _ h => (h.2.1 trivial).elim) (fun v229 L229 F229 hp229 => ?_)
        obtain ⟨ok, rfl, rfl, t2⟩ := hp229
        have rr := dAn_rg (d := 4) fx.1 (by decide) ok
        refine zq_goto hZ (tgt := 239) dL_acts_232 rfl ?_
        exact zq_iret hZ rfl (Nat.le_of_ble_eq_true rfl) (Nat.le_of_ble_eq_true rfl) dL_acts_239 (by exact aP.yes (by omega) t2 jv0 (kR_no hc))
    have b240 : (y % 32 < 18 ∨ 22 < y % 32) → ZZ 0 0 240 [some (.ref (K 0)), some (.int (iI y)), some (.int (iI z))] [] L F := by
      intro hc
      refine zq_aload_n0 hZ dL_acts_240 ?_
      refine zq_iload_n2 hZ dL_acts_241 ?_
      refine zq_iconst hZ dL_acts_242 ?_
      refine zq_irem hZ dL_acts_243 (by omega) ?_
      refine zq_iconst hZ dL_acts_244 ?_
      refine zq_isub hZ dL_acts_245 ?_
      refine zq_cSr hZ (fun _ h => h) (As := [_, _]) rfl dL_acts_246 ml_L_140 wy_L_lines (m_L_lines l hfl t (by omega) (c := y % 32) hc) ⟨Nat.le_of_ble_eq_true rfl, Nat.le_of_ble_eq_true rfl⟩ ⟨Nat.le_of_ble_eq_true rfl, Nat.le_of_ble_eq_true rfl⟩ (Nat.le_of_ble_eq_true rfl) (fun v246 L246 F246 hp246 => ?_)
      obtain ⟨rfl, told246, n246, bf246, rfl, hp246⟩ := hp246
      exact zq_iret hZ rfl (Nat.le_of_ble_eq_true rfl) (Nat.le_of_ble_eq_true rfl) dL_acts_249 (by exact ⟨rfl, told246, n246, bf246, rfl, hp246⟩)
    have b250 : (y % 32 < 18 ∨ 22 < y % 32) → ZZ 0 0 250 [some (.ref (K 0)), some (.int (iI y)), some (.int (iI z))] [] L F := by
      intro hc
      refine zq_aload_n0 hZ dL_acts_250 ?_
      refine zq_cVr hZ (As := []) rfl dL_acts_251 ml_L_143 wy_X7_mark (m_X7_mark l hfl t) hK0 hF0 rfl ⟨Nat.le_of_ble_eq_true rfl, Nat.le_of_ble_eq_true rfl⟩ ⟨Nat.le_of_ble_eq_true rfl, Nat.le_of_ble_eq_true rfl⟩ (Nat.le_of_ble_eq_true rfl) (fun _ _ _ h => (h.2.1 trivial).elim) (fun v251 L251 F251 hp251 => ?_)
      obtain ⟨ok, rfl, rfl, t2⟩ := hp251
      have rr := dAn_rg (d := 6) fx.1 (by decide) ok
      exact zq_iret hZ rfl (Nat.le_of_ble_eq_true rfl) (Nat.le_of_ble_eq_true rfl) dL_acts_254 (by exact aP.yes (by omega) t2 jv0 (kR_no hc))
    have b255 : (y % 32 < 18 ∨ 22 < y % 32) → ZZ 0 0 255 [some (.ref (K 0)), some (.int (iI y)), some (.int (iI z))] [] L F := by
      intro hc
      refine zq_aload_n0 hZ dL_acts_255 ?_
      refine zq_cSr hZ (fun _ h => h) (As := [_]) rfl dL_acts_256 ml_L_146 wy_L_exchange (m_L_exchange l hfl t (c := y % 32) hc) ⟨Nat.le_of_ble_eq_true rfl, Nat.le_of_ble_eq_true rfl⟩ ⟨Nat.le_of_ble_eq_true rfl, Nat.le_of_ble_eq_true rfl⟩ (Nat.le_of_ble_eq_true rfl) (fun v256 L256 F256 hp256 => ?_)
      obtain ⟨rfl, told256, n256, bf256, rfl, hp256⟩ := hp256
      exact zq_iret hZ rfl (Nat.le_of_ble_eq_true rfl) (Nat.le_of_ble_eq_true rfl) dL_acts_259 (by exact ⟨rfl, told256, n256, bf256, rfl, hp256⟩)
    have b260 : ZZ 0 0 260 [some (.ref (K 0)), some (.int (iI y)), some (.int (iI z))] [] L F := by
      refine zq_aload_n0 hZ dL_acts_260 ?_
      refine zq_cSr hZ (fun _ h => h) (As := [_]) rfl dL_acts_261 ml_L_148 wy_L_word (m_L_word l hfl t (c := y % 32)) ⟨Nat.le_of_ble_eq_true rfl, Nat.le_of_ble_eq_true rfl⟩ ⟨Nat.le_of_ble_eq_true rfl, Nat.le_of_ble_eq_true rfl⟩ (Nat.le_of_ble_eq_true rfl) (fun v261 L261 F261 hp261 => ?_)
      obtain ⟨rfl, told261, n261, bf261, rfl, hp261⟩ := hp261
      exact zq_iret hZ rfl (Nat.le_of_ble_eq_true rfl) (Nat.le_of_ble_eq_true rfl) dL_acts_264 (by exact ⟨rfl, told261, n261, bf261, rfl, hp261⟩)
    have b265 : ZZ 0 0 265 [some (.ref (K 0)), some (.int (iI y)), some (.int (iI z))] [] L F := by
      refine zq_aload_n0 hZ dL_acts_265 ?_
      refine zq_cSr hZ (fun _ h => h) (As := [_]) rfl dL_acts_266 ml_L_151 wy_L_ahead (m_L_ahead l hfl t (c := y % 32)) ⟨Nat.le_of_ble_eq_true rfl, Nat.le_of_ble_eq_true rfl⟩ ⟨Nat.le_of_ble_eq_true rfl, Nat.le_of_ble_eq_true rfl⟩ (Nat.le_of_ble_eq_true rfl) (fun v266 L266 F266 hp266 => ?_)
      obtain ⟨rfl, told266, n266, bf266, rfl, hp266⟩ := hp266
      exact zq_iret hZ rfl (Nat.le_of_ble_eq_true rfl) (Nat.le_of_ble_eq_true rfl) dL_acts_269 (by exact ⟨rfl, told266, n266, bf266, rfl, hp266⟩)
    have b270 : ZZ 0 0 270 [some (.ref (K 0)), some (.int (iI y)), some (.int (iI z))] [] L F := by
      refine zq_aload_n0 hZ dL_acts_270 ?_
      refine zq_cSr hZ (fun _ h => h) (As := [_]) rfl dL_acts_271 ml_L_154 wy_L_line (m_L_line l hfl t (c := y % 32)) ⟨Nat.le_of_ble_eq_true rfl, Nat.le_of_ble_eq_true rfl⟩ ⟨Nat.le_of_ble_eq_true rfl, Nat.le_of_ble_eq_true rfl⟩ (Nat.le_of_ble_eq_true rfl) (fun v271 L271 F271 hp271 => ?_)
      obtain ⟨rfl, told271, n271, bf271, rfl, hp271⟩ := hp271
      exact zq_iret hZ rfl (Nat.le_of_ble_eq_true rfl) (Nat.le_of_ble_eq_true rfl) dL_acts_274 (by exact ⟨rfl, told271, n271, bf271, rfl, hp271⟩)
    have b275 : ZZ 0 0 275 [some (.ref (K 0)), some (.int (iI y)), some (.int (iI z))] [] L F := by
      refine zq_aload_n0 hZ dL_acts_275 ?_
      refine zq_cSr hZ (fun _ h => h) (As := [_]) rfl dL_acts_276 ml_L_157 wy_L_between (m_L_between l hfl t (c := y % 32)) ⟨Nat.le_of_ble_eq_true rfl, Nat.le_of_ble_eq_true rfl⟩ ⟨Nat.le_of_ble_eq_true rfl, Nat.le_of_ble_eq_true rfl⟩ (Nat.le_of_ble_eq_true rfl) (fun v276 L276 F276 hp276 => ?_)
      obtain ⟨rfl, told276, n276, bf276, rfl, hp276⟩ := hp276
      exact zq_iret hZ rfl (Nat.le_of_ble_eq_true rfl) (Nat.le_of_ble_eq_true rfl) dL_acts_279 (by exact ⟨rfl, told276, n276, bf276, rfl, hp276⟩)
    have b280 : (y % 32 < 18 ∨ 22 < y % 32) → ZZ 0 0 280 [some (.ref (K 0)), some (.int (iI y)), some (.int (iI z))] [] L F := by
      intro hc
      refine zq_aload_n0 hZ dL_acts_280 ?_
      refine zq_cSr hZ (fun _ h => h) (As := [_]) rfl dL_acts_281 ml_L_159 wy_L_copy (m_L_copy l hfl t (c := y % 32) hc) ⟨Nat.le_of_ble_eq_true rfl, Nat.le_of_ble_eq_true rfl⟩ ⟨Nat.le_of_ble_eq_true rfl, Nat.le_of_ble_eq_true rfl⟩ (Nat.le_of_ble_eq_true rfl) (fun v281 L281 F281 hp281 => ?_)
      obtain ⟨rfl, told281, n281, bf281, rfl, hp281⟩ := hp281
      exact zq_iret hZ rfl (Nat.le_of_ble_eq_true rfl) (Nat.le_of_ble_eq_true rfl) dL_acts_284 (by exact ⟨rfl, told281, n281, bf281, rfl, hp281⟩)
    have b285 : (y % 32 < 18 ∨ 22 < y % 32) → ZZ 0 0 285 [some (.ref (K 0)), some (.int (iI y)), some (.int (iI z))] [] L F := by
      intro hc
      refine zq_aload_n0 hZ dL_acts_285 ?_
      refine zq_cSr hZ (fun _ h => h) (As := [_]) rfl dL_acts_286 ml_L_162 wy_L_yank (m_L_yank l hfl t (c := y % 32) hc) ⟨Nat.le_of_ble_eq_true rfl, Nat.le_of_ble_eq_true rfl⟩ ⟨Nat.le_of_ble_eq_true rfl, Nat.le_of_ble_eq_true rfl⟩ (Nat.le_of_ble_eq_true rfl) (fun v286 L286 F286 hp286 => ?_)
      obtain ⟨rfl, told286, n286, bf286, rfl, hp286⟩ := hp286
      exact zq_iret hZ rfl (Nat.le_of_ble_eq_true rfl) (Nat.le_of_ble_eq_true rfl) dL_acts_289 (by exact ⟨rfl, told286, n286, bf286, rfl, hp286⟩)
    have b290 : (y % 32 < 18 ∨ 22 < y % 32) → ZZ 0 0 290 [some (.ref (K 0)), some (.int (iI y)), some (.int (iI z))] [] L F := by
      intro hc
      refine zq_aload_n0 hZ dL_acts_290 ?_
      refine zq_cSr hZ (fun _ h => h) (As := [_]) rfl dL_acts_291 ml_L_164 wy_L_other (m_L_other l hfl t (c := y % 32) hc) ⟨Nat.le_of_ble_eq_true rfl, Nat.le_of_ble_eq_true rfl⟩ ⟨Nat.le_of_ble_eq_true rfl, Nat.le_of_ble_eq_true rfl⟩ (Nat.le_of_ble_eq_true rfl) (fun v291 L291 F291 hp291 => ?_)
      obtain ⟨rfl, told291, n291, bf291, rfl, hp291⟩ := hp291
      exact zq_iret hZ rfl (Nat.le_of_ble_eq_true rfl) (Nat.le_of_ble_eq_true rfl) dL_acts_294 (by exact ⟨rfl, told291, n291, bf291, rfl, hp291⟩)
    have b295 : (y % 32 < 18 ∨ 22 < y % 32) → ZZ 0 0 295 [some (.ref (K 0)), some (.int (iI y)), some (.int (iI z))] [] L F := by
      intro hc
      refine zq_aload_n0 hZ dL_acts_295 ?_
      refine zq_iload_n2 hZ dL_acts_296 ?_
      refine zq_bipush hZ dL_acts_297 rfl ?_
      refine zq_irem hZ dL_acts_299 (by omega) ?_
      refine zq_bipush hZ dL_acts_300 rfl ?_
      refine zq_isub hZ dL_acts_302 ?_
      refine zq_cSr hZ (fun _ h => h) (As := [_, _]) rfl dL_acts_303 ml_L_167 wy_L_turn (m_L_turn l hfl t (by omega) (c := y % 32) hc) ⟨Nat.le_of_ble_eq_true rfl, Nat.le_of_ble_eq_true rfl⟩ ⟨Nat.le_of_ble_eq_true rfl, Nat.le_of_ble_eq_true rfl⟩ (Nat.le_of_ble_eq_true rfl) (fun v303 L303 F303 hp303 => ?_)
      obtain ⟨rfl, told303, n303, bf303, rfl, hp303⟩ := hp303
      exact zq_iret hZ rfl (Nat.le_of_ble_eq_true rfl) (Nat.le_of_ble_eq_true rfl) dL_acts_306 (by exact ⟨rfl, told303, n303, bf303, rfl, hp303⟩)
    have b307 : (y % 32 < 18 ∨ 22 < y % 32) → ZZ 0 0 307 [some (.ref (K 0)), some (.int (iI y)), some (.int (iI z))] [] L F := by
      intro hc
      refine zq_aload_n0 hZ dL_acts_307 ?_
      refine zq_iload_n2 hZ dL_acts_308 ?_
      refine zq_bipush hZ dL_acts_309 rfl ?_
      refine zq_irem hZ dL_acts_311 (by omega) ?_
      refine zq_cSr hZ (fun _ h => h) (As := [_, _]) rfl dL_acts_312 ml_L_169 wy_L_caves (m_L_caves l hfl t (by omega) (c := y % 32) hc) ⟨Nat.le_of_ble_eq_true rfl, Nat.le_of_ble_eq_true rfl⟩ ⟨Nat.le_of_ble_eq_true rfl, Nat.le_of_ble_eq_true rfl⟩ (Nat.le_of_ble_eq_true rfl) (fun v312 L312 F312 hp312 => ?_)
      obtain ⟨rfl, told312, n312, bf312, rfl, hp312⟩ := hp312
      exact zq_iret hZ rfl (Nat.le_of_ble_eq_true rfl) (Nat.le_of_ble_eq_true rfl) dL_acts_315 (by exact ⟨rfl, told312, n312, bf312, rfl, hp312⟩)
    have b316 : (y % 32 < 18 ∨ 22 < y % 32) → ZZ 0 0 316 [some (.ref (K 0)), some (.int (iI y)), some (.int (iI z))] [] L F := by
      intro hc
      refine zq_aload_n0 hZ dL_acts_316 ?_
      refine zq_iload_n2 hZ dL_acts_317 ?_
      refine zq_iconst hZ dL_acts_318 ?_
      refine zq_irem hZ dL_acts_319 (by omega) ?_
      refine zq_if_ne hZ (tgt := 328) dL_acts_320 rfl (by omega) (fun hc320 => ?_) (fun hc320 => ?_)
      · refine zq_bipush hZ dL_acts_328 rfl ?_
        refine zq_cSr hZ (fun _ h => h) (As := [_, _]) rfl dL_acts_330 ml_L_172 wy_L_append (m_L_append l hfl t (by omega)) ⟨Nat.le_of_ble_eq_true rfl, Nat.le_of_ble_eq_true rfl⟩ ⟨Nat.le_of_ble_eq_true rfl, Nat.le_of_ble_eq_true rfl⟩ (Nat.le_of_ble_eq_true rfl) (fun v330 L330 F330 hp330 => ?_)
        obtain ⟨rfl, x1, n1, b1, rfl, t1⟩ := hp330
        refine zq_pop hZ dL_acts_333 rfl ?_
        refine zq_aload_n0 hZ dL_acts_334 ?_
        refine zq_bipush hZ dL_acts_335 rfl ?_
        refine zq_cSr hZ (fun _ h => h) (As := [_, _]) rfl dL_acts_337 ml_L_172 wy_L_append (m_L_append l hfl t1 (by omega)) ⟨Nat.le_of_ble_eq_true rfl, Nat.le_of_ble_eq_true rfl⟩ ⟨Nat.le_of_ble_eq_true rfl, Nat.le_of_ble_eq_true rfl⟩ (Nat.le_of_ble_eq_true rfl) (fun v337 L337 F337 hp337 => ?_)
        obtain ⟨rfl, x2, n2, b2, rfl, t2⟩ := hp337
        refine zq_pop hZ dL_acts_340 rfl ?_
        refine zq_aload_n0 hZ dL_acts_341 ?_
        refine zq_bipush hZ dL_acts_342 rfl ?_
        refine zq_iload_n2 hZ dL_acts_344 ?_
        refine zq_iconst hZ dL_acts_345 ?_
        refine zq_idiv hZ dL_acts_346 (by omega) ?_
        refine zq_bipush hZ dL_acts_347 rfl ?_
        refine zq_irem hZ dL_acts_349 (by omega) ?_
        refine zq_iadd hZ dL_acts_350 ?_
        refine zq_cSr hZ (fun _ h => h) (As := [_, _]) rfl dL_acts_351 ml_L_172 wy_L_append (m_L_append l hfl t2 (by omega)) ⟨Nat.le_of_ble_eq_true rfl, Nat.le_of_ble_eq_true rfl⟩ ⟨Nat.le_of_ble_eq_true rfl, Nat.le_of_ble_eq_true rfl⟩ (Nat.le_of_ble_eq_true rfl) (fun v351 L351 F351 hp351 => ?_)
        obtain ⟨rfl, x3, n3, b3, rfl, t3⟩ := hp351
        refine zq_pop hZ dL_acts_354 rfl ?_
        refine zq_aload_n0 hZ dL_acts_355 ?_
        refine zq_bipush hZ dL_acts_356 rfl ?_
        refine zq_cSr hZ (fun _ h => h) (As := [_, _]) rfl dL_acts_358 ml_L_172 wy_L_append (m_L_append l hfl t3 (by omega)) ⟨Nat.le_of_ble_eq_true rfl, Nat.le_of_ble_eq_true rfl⟩ ⟨Nat.le_of_ble_eq_true rfl, Nat.le_of_ble_eq_true rfl⟩ (Nat.le_of_ble_eq_true rfl) (fun v358 L358 F358 hp358 => ?_)
        obtain ⟨rfl, x4, n4, b4, rfl, t4⟩ := hp358
        refine zq_pop hZ dL_acts_361 rfl ?_
        refine zq_aload_n0 hZ dL_acts_362 ?_
        refine zq_cSr hZ (fun _ h => h) (As := [_]) rfl dL_acts_363 ml_L_174 wy_L_perform (m_L_perform l hfl t4 hj (c := y % 32) hc) ⟨Nat.le_of_ble_eq_true rfl, Nat.le_of_ble_eq_true rfl⟩ ⟨Nat.le_of_ble_eq_true rfl, Nat.le_of_ble_eq_true rfl⟩ (Nat.le_of_ble_eq_true rfl) (fun v363 L363 F363 hp363 => ?_)
        obtain ⟨rfl, told363, n363, bf363, rfl, hp363⟩ := hp363
        exact zq_iret hZ rfl (Nat.le_of_ble_eq_true rfl) (Nat.le_of_ble_eq_true rfl) dL_acts_366 (by exact ⟨rfl, told363, n363, bf363, rfl, hp363⟩)
      · refine zq_bipush hZ dL_acts_323 rfl ?_
        refine zq_goto hZ (tgt := 330) dL_acts_325 rfl ?_
        refine zq_cSr hZ (fun _ h => h) (As := [_, _]) rfl dL_acts_330 ml_L_172 wy_L_append (m_L_append l hfl t (by omega)) ⟨Nat.le_of_ble_eq_true rfl, Nat.le_of_ble_eq_true rfl⟩ ⟨Nat.le_of_ble_eq_true rfl, Nat.le_of_ble_eq_true rfl⟩ (Nat.le_of_ble_eq_true rfl) (fun v330 L330 F330 hp330 => ?_)
        obtain ⟨rfl, x1, n1, b1, rfl, t1⟩ := hp330
        refine zq_pop hZ dL_acts_333 rfl ?_
        refine zq_aload_n0 hZ dL_acts_334 ?_
        refine zq_bipush hZ dL_acts_335 rfl ?_
        refine zq_cSr hZ (fun _ h => h) (As := [_, _]) rfl dL_acts_337 ml_L_172 wy_L_append (m_L_append l hfl t1 (by omega)) ⟨Nat.le_of_ble_eq_true rfl, Nat.le_of_ble_eq_true rfl⟩ ⟨Nat.le_of_ble_eq_true rfl, Nat.le_of_ble_eq_true rfl⟩ (Nat.le_of_ble_eq_true rfl) (fun v337 L337 F337 hp337 => ?_)
        obtain ⟨rfl, x2, n2, b2, rfl, t2⟩ := hp337
        refine zq_pop hZ dL_acts_340 rfl ?_
        refine zq_aload_n0 hZ dL_acts_341 ?_
        refine zq_bipush hZ dL_acts_342 rfl ?_
        refine zq_iload_n2 hZ dL_acts_344 ?_
        refine zq_iconst hZ dL_acts_345 ?_
        refine zq_idiv hZ dL_acts_346 (by omega) ?_
        refine zq_bipush hZ dL_acts_347 rfl ?_
        refine zq_irem hZ dL_acts_349 (by omega) ?_
        refine zq_iadd hZ dL_acts_350 ?_
        refine zq_cSr hZ (fun _ h => h) (As := [_, _]) rfl dL_acts_351 ml_L_172 wy_L_append (m_L_append l hfl t2 (by omega)) ⟨Nat.le_of_ble_eq_true rfl, Nat.le_of_ble_eq_true rfl⟩ ⟨Nat.le_of_ble_eq_true rfl, Nat.le_of_ble_eq_true rfl⟩ (Nat.le_of_ble_eq_true rfl) (fun v351 L351 F351 hp351 => ?_)
        obtain ⟨rfl, x3, n3, b3, rfl, t3⟩ := hp351
        refine zq_pop hZ dL_acts_354 rfl ?_
        refine zq_aload_n0 hZ dL_acts_355 ?_
        refine zq_bipush hZ dL_acts_356 rfl ?_
        refine zq_cSr hZ (fun _ h => h) (As := [_, _]) rfl dL_acts_358 ml_L_172 wy_L_append (m_L_append l hfl t3 (by omega)) ⟨Nat.le_of_ble_eq_true rfl, Nat.le_of_ble_eq_true rfl⟩ ⟨Nat.le_of_ble_eq_true rfl, Nat.le_of_ble_eq_true rfl⟩ (Nat.le_of_ble_eq_true rfl) (fun v358 L358 F358 hp358 => ?_)
        obtain ⟨rfl, x4, n4, b4, rfl, t4⟩ := hp358
        refine zq_pop hZ dL_acts_361 rfl ?_
        refine zq_aload_n0 hZ dL_acts_362 ?_
        refine zq_cSr hZ (fun _ h => h) (As := [_]) rfl dL_acts_363 ml_L_174 wy_L_perform (m_L_perform l hfl t4 hj (c := y % 32) hc) ⟨Nat.le_of_ble_eq_true rfl, Nat.le_of_ble_eq_true rfl⟩ ⟨Nat.le_of_ble_eq_true rfl, Nat.le_of_ble_eq_true rfl⟩ (Nat.le_of_ble_eq_true rfl) (fun v363 L363 F363 hp363 => ?_)
        obtain ⟨rfl, told363, n363, bf363, rfl, hp363⟩ := hp363
        exact zq_iret hZ rfl (Nat.le_of_ble_eq_true rfl) (Nat.le_of_ble_eq_true rfl) dL_acts_366 (by exact ⟨rfl, told363, n363, bf363, rfl, hp363⟩)
    refine zq_iload_n1 hZ dL_acts_0 ?_
    refine zq_bipush hZ dL_acts_1 rfl ?_
    refine zq_idiv hZ dL_acts_3 (by omega) ?_
    rw [← hz]
    refine zq_istore_n2 hZ dL_acts_4 (by decide) rfl ?_
    refine zq_iload_n1 hZ dL_acts_5 ?_
    refine zq_bipush hZ dL_acts_6 rfl ?_
    refine zq_irem hZ dL_acts_8 (by omega) ?_
    have hcase : y % 32 = 0 ∨ y % 32 = 1 ∨ y % 32 = 2 ∨ y % 32 = 3 ∨ y % 32 = 4 ∨ y % 32 = 5 ∨ y % 32 = 6 ∨ y % 32 = 7 ∨ y % 32 = 8 ∨ y % 32 = 9 ∨ y % 32 = 10 ∨ y % 32 = 11 ∨ y % 32 = 12 ∨ y % 32 = 13 ∨ y % 32 = 14 ∨ y % 32 = 15 ∨ y % 32 = 16 ∨ y % 32 = 17 ∨ y % 32 = 18 ∨ y % 32 = 19 ∨ y % 32 = 20 ∨ y % 32 = 21 ∨ y % 32 = 22 ∨ y % 32 = 23 ∨ y % 32 = 24 ∨ y % 32 = 25 ∨ y % 32 = 26 ∨ y % 32 = 27 ∨ y % 32 = 28 ∨ y % 32 = 29 ∨ y % 32 = 30 ∨ y % 32 = 31 := by omega
    rcases hcase with e | e | e | e | e | e | e | e | e | e | e | e | e | e | e | e | e | e | e | e | e | e | e | e | e | e | e | e | e | e | e | e
    · rw [e]; exact zq_tIn hZ (tgt := 144) (off := 135) dL_acts_9 (by omega) rfl rfl (b144 (by omega))
    · rw [e]; exact zq_tIn hZ (tgt := 144) (off := 135) dL_acts_9 (by omega) rfl rfl (b144 (by omega))
    · rw [e]; exact zq_tIn hZ (tgt := 144) (off := 135) dL_acts_9 (by omega) rfl rfl (b144 (by omega))
    · rw [e]; exact zq_tIn hZ (tgt := 144) (off := 135) dL_acts_9 (by omega) rfl rfl (b144 (by omega))
    · rw [e]; exact zq_tIn hZ (tgt := 144) (off := 135) dL_acts_9 (by omega) rfl rfl (b144 (by omega))
    · rw [e]; exact zq_tIn hZ (tgt := 184) (off := 175) dL_acts_9 (by omega) rfl rfl (b184 (by omega))
    · rw [e]; exact zq_tIn hZ (tgt := 189) (off := 180) dL_acts_9 (by omega) rfl rfl (b189 (by omega))
    · rw [e]; exact zq_tIn hZ (tgt := 194) (off := 185) dL_acts_9 (by omega) rfl rfl (b194 (by omega))
    · rw [e]; exact zq_tIn hZ (tgt := 199) (off := 190) dL_acts_9 (by omega) rfl rfl (b199 (by omega))
    · rw [e]; exact zq_tIn hZ (tgt := 199) (off := 190) dL_acts_9 (by omega) rfl rfl (b199 (by omega))
    · rw [e]; exact zq_tIn hZ (tgt := 199) (off := 190) dL_acts_9 (by omega) rfl rfl (b199 (by omega))
    · rw [e]; exact zq_tIn hZ (tgt := 212) (off := 203) dL_acts_9 (by omega) rfl rfl (b212 (by omega))
    · rw [e]; exact zq_tIn hZ (tgt := 217) (off := 208) dL_acts_9 (by omega) rfl rfl (b217 (by omega))
    · rw [e]; exact zq_tIn hZ (tgt := 222) (off := 213) dL_acts_9 (by omega) rfl rfl (b222 (by omega))
    · rw [e]; exact zq_tIn hZ (tgt := 240) (off := 231) dL_acts_9 (by omega) rfl rfl (b240 (by omega))
    · rw [e]; exact zq_tIn hZ (tgt := 250) (off := 241) dL_acts_9 (by omega) rfl rfl (b250 (by omega))
    · rw [e]; exact zq_tIn hZ (tgt := 250) (off := 241) dL_acts_9 (by omega) rfl rfl (b250 (by omega))
    · rw [e]; exact zq_tIn hZ (tgt := 255) (off := 246) dL_acts_9 (by omega) rfl rfl (b255 (by omega))
    · rw [e]; exact zq_tIn hZ (tgt := 260) (off := 251) dL_acts_9 (by omega) rfl rfl (b260)
    · rw [e]; exact zq_tIn hZ (tgt := 260) (off := 251) dL_acts_9 (by omega) rfl rfl (b260)
    · rw [e]; exact zq_tIn hZ (tgt := 265) (off := 256) dL_acts_9 (by omega) rfl rfl (b265)
    · rw [e]; exact zq_tIn hZ (tgt := 270) (off := 261) dL_acts_9 (by omega) rfl rfl (b270)
    · rw [e]; exact zq_tIn hZ (tgt := 275) (off := 266) dL_acts_9 (by omega) rfl rfl (b275)
    · rw [e]; exact zq_tIn hZ (tgt := 280) (off := 271) dL_acts_9 (by omega) rfl rfl (b280 (by omega))
    · rw [e]; exact zq_tIn hZ (tgt := 280) (off := 271) dL_acts_9 (by omega) rfl rfl (b280 (by omega))
    · rw [e]; exact zq_tIn hZ (tgt := 285) (off := 276) dL_acts_9 (by omega) rfl rfl (b285 (by omega))
    · rw [e]; exact zq_tIn hZ (tgt := 285) (off := 276) dL_acts_9 (by omega) rfl rfl (b285 (by omega))
    · rw [e]; exact zq_tIn hZ (tgt := 290) (off := 281) dL_acts_9 (by omega) rfl rfl (b290 (by omega))
    · rw [e]; exact zq_tIn hZ (tgt := 295) (off := 286) dL_acts_9 (by omega) rfl rfl (b295 (by omega))
    · rw [e]; exact zq_tIn hZ (tgt := 307) (off := 298) dL_acts_9 (by omega) rfl rfl (b307 (by omega))
    · rw [e]; exact zq_tOut hZ (tgt := 316) dL_acts_9 (by omega) (Or.inr (by omega)) rfl (b316 (by omega))
    · rw [e]; exact zq_tOut hZ (tgt := 316) dL_acts_9 (by omega) (Or.inr (by omega)) rfl (b316 (by omega))
  exact hgo
