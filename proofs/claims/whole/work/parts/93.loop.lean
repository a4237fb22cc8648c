/-! THE LAW, its loop. -/
theorem and63 (x : Int32) : ∃ z : Int, 0 ≤ z ∧ z ≤ 63 ∧ x &&& iI 63 = iI z := by
  have h1 : (x &&& iI 63).toBitVec = x.toBitVec &&& 63#32 := rfl
  have h2 : (x.toBitVec &&& 63#32).toNat ≤ 63 := by rw [BitVec.toNat_and]; exact Nat.and_le_right
  have h3 : (x.toBitVec &&& 63#32).toInt = ((x.toBitVec &&& 63#32).toNat : Int) := BitVec.toInt_eq_toNat_of_lt (by omega)
  refine ⟨(x &&& iI 63).toInt, ?_, ?_, by unfold iI; rw [Int32.ofInt_toInt]⟩
  · show 0 ≤ (x.toBitVec &&& 63#32).toInt
    omega
  · show (x.toBitVec &&& 63#32).toInt ≤ 63
    omega
set_option maxRecDepth 100000 in
set_option maxHeartbeats 4000000 in
theorem lw_loop (l : Launch) (hfl : l.flags = flags0) {ZZ : ZT} {tbl : List ExceptionTableEntry} {nm ds : String} {Φ : State → Prop} {post : Option Value → List Nat → (Nat → PE) → Prop} {xp : String → List Nat → (Nat → PE) → Prop} (hZ : ZZ = Zq Φ tbl l ⟨"DragonRingLaw", nm, ds⟩ cL_law 9 (some .boolean) room_1 [] post xp) (hΦ : ∀ s, Φ s → va_Nc xS xA s) {b Ls : Nat} {sx : Int → Int} (hsx : ∀ s, Φ s → va_X b Ls (fun j => iI (sx (j : Int))) s s.heap ∧ b < s.heap.size) (hok : ∀ j, -2147483648 ≤ sx j ∧ sx j ≤ 2147483647) {LX : List Nat} {K : Nat → Nat} {m a q c o : Nat} (hL : LSx LX m a q c o) (hLs : Ls ≤ 1536) (hpost : ∀ L F, post (some (.int (iI 1))) L F) :
    ∀ (w : Nat) (i : Int) (k n : Nat) (F : Nat → PE) (s5 s6 s7 s8 : Option Value), (Ls - i + 3).toNat ≤ w → 0 ≤ i → i ≤ Ls + 3 → LI LX F K m a q c o → (k : Int) ≤ 300 + i → (n : Int) ≤ 60000 + 2 * i → ZZ k n 23 [some (.ref b), some (.ref (K 0)), some (.ref m), some (.ref o), some (.int (iI i)), s5, s6, s7, s8] [] (LX ++ [m, a, q, c, o]) F := by
  intro w
  induction w with
  | zero =>
    intro i k n F s5 s6 s7 s8 hw i0 i1 hI hk hn
    refine zq_iload4 hZ dL_law_23 ?_
    refine zq_aload_n0 hZ dL_law_25 ?_
    refine zq_slen hZ hsx rfl dL_law_26 ?_
    refine zq_iconst hZ dL_law_27 ?_
    refine zq_isub hZ dL_law_28 ?_
    refine zq_icmp_gt hZ (tgt := 2085) dL_law_29 rfl (by omega) (fun _ => ?_) (fun hc => by omega)
    refine zq_iconst hZ dL_law_2085 ?_
    exact zq_zret hZ rfl (by show k ≤ 601024; omega) (by show n ≤ 7293034; omega) dL_law_2086 (Or.inr rfl) (hpost _ _)
  | succ w ih =>
    intro i k n F s5 s6 s7 s8 hw i0 i1 hI hk hn
    refine zq_iload4 hZ dL_law_23 ?_
    refine zq_aload_n0 hZ dL_law_25 ?_
    refine zq_slen hZ hsx rfl dL_law_26 ?_
    refine zq_iconst hZ dL_law_27 ?_
    refine zq_isub hZ dL_law_28 ?_
    refine zq_icmp_gt hZ (tgt := 2085) dL_law_29 rfl (by omega) (fun _ => ?_) (fun hc => ?_)
    · refine zq_iconst hZ dL_law_2085 ?_
      exact zq_zret hZ rfl (by show k ≤ 601024; omega) (by show n ≤ 7293034; omega) dL_law_2086 (Or.inr rfl) (hpost _ _)
    refine zq_aload_n0 hZ dL_law_32 ?_
    refine zq_iload4 hZ dL_law_33 ?_
    refine zq_sld hZ hsx rfl dL_law_35 (by omega) ?_
    refine zq_bipush hZ dL_law_36 rfl ?_
    obtain ⟨z, z0, z1, hz⟩ := and63 (iI (sx i))
    refine zq_iand hZ dL_law_38 hz ?_
    have nxt : ∀ (k2 n2 : Nat) (F2 : Nat → PE) (t5 t6 t7 t8 : Option Value), k2 ≤ k + 1 → n2 ≤ n + 6 → LI LX F2 K m a q c o → ZZ k2 n2 2079 [some (.ref b), some (.ref (K 0)), some (.ref m), some (.ref o), some (.int (iI i)), t5, t6, t7, t8] [] (LX ++ [m, a, q, c, o]) F2 := by
      intro k2 n2 F2 t5 t6 t7 t8 hk2 hn2 hI2
      refine zq_iinc4 hZ dL_law_2079 (by decide) rfl ?_
      refine zq_goto hZ (tgt := 23) dL_law_2082 rfl ?_
      exact ih (i + 3) k2 n2 F2 t5 t6 t7 t8 (by omega) (by omega) (by omega) hI2 (by omega) (by omega)
    by_cases zb : 58 < z
    · exact zq_tOut hZ (tgt := 2079) dL_law_39 (by omega) (Or.inr zb) rfl (nxt k n F s5 s6 s7 s8 (by omega) (by omega) hI)
    have hi : 0 ≤ i ∧ i + 2 < Ls ∧ Ls ≤ 1536 := by omega
    have hkn : k + 1 ≤ 601024 ∧ n + 6 ≤ 7293034 := by omega
    by_cases z0_ : z = 0
    · subst z0_
      exact zq_tIn hZ (off := 249) (tgt := 288) dL_law_39 (by omega) rfl rfl (lc_0 l hfl hZ hΦ hsx hok hL hI hi hkn nxt)
    by_cases z1_ : z = 1
    · subst z1_
      exact zq_tIn hZ (off := 305) (tgt := 344) dL_law_39 (by omega) rfl rfl (lc_1 l hfl hZ hΦ hsx hok hL hI hi hkn nxt)
    by_cases z2_ : z = 2
    · subst z2_
      exact zq_tIn hZ (off := 349) (tgt := 388) dL_law_39 (by omega) rfl rfl (lc_2 l hfl hZ hΦ hsx hok hL hI hi hkn nxt)
    by_cases z3_ : z = 3
    · subst z3_
      exact zq_tIn hZ (off := 393) (tgt := 432) dL_law_39 (by omega) rfl rfl (lc_3 l hfl hZ hΦ hsx hok hL hI hi hkn nxt)
    by_cases z4_ : z = 4
    · subst z4_
      exact zq_tIn hZ (off := 406) (tgt := 445) dL_law_39 (by omega) rfl rfl (lc_4 l hfl hZ hΦ hsx hok hL hI hi hkn nxt)
    by_cases z5_ : z = 5
    · subst z5_
      exact zq_tIn hZ (off := 462) (tgt := 501) dL_law_39 (by omega) rfl rfl (lc_5 l hfl hZ hΦ hsx hok hL hI hi hkn nxt)
    by_cases z6_ : z = 6
    · subst z6_
      exact zq_tIn hZ (off := 475) (tgt := 514) dL_law_39 (by omega) rfl rfl (lc_6 l hfl hZ hΦ hsx hok hL hI hi hkn nxt)
    by_cases z7_ : z = 7
    · subst z7_
      exact zq_tIn hZ (off := 488) (tgt := 527) dL_law_39 (by omega) rfl rfl (lc_7 l hfl hZ hΦ hsx hok hL hI hi hkn nxt)
    by_cases z8_ : z = 8
    · subst z8_
      exact zq_tIn hZ (off := 501) (tgt := 540) dL_law_39 (by omega) rfl rfl (lc_8 l hfl hZ hΦ hsx hok hL hI hi hkn nxt)
    by_cases z9_ : z = 9
    · subst z9_
      exact zq_tIn hZ (off := 514) (tgt := 553) dL_law_39 (by omega) rfl rfl (lc_9 l hfl hZ hΦ hsx hok hL hI hi hkn nxt)
    by_cases z10_ : z = 10
    · subst z10_
      exact zq_tIn hZ (off := 570) (tgt := 609) dL_law_39 (by omega) rfl rfl (lc_10 l hfl hZ hΦ hsx hok hL hI hi hkn nxt)
    by_cases z11_ : z = 11
    · subst z11_
      exact zq_tIn hZ (off := 583) (tgt := 622) dL_law_39 (by omega) rfl rfl (lc_11 l hfl hZ hΦ hsx hok hL hI hi hkn nxt)
    by_cases z12_ : z = 12
    · subst z12_
      exact zq_tIn hZ (off := 627) (tgt := 666) dL_law_39 (by omega) rfl rfl (lc_12 l hfl hZ hΦ hsx hok hL hI hi hkn nxt)
    by_cases z13_ : z = 13
    · subst z13_
      exact zq_tIn hZ (off := 671) (tgt := 710) dL_law_39 (by omega) rfl rfl (lc_13 l hfl hZ hΦ hsx hok hL hI hi hkn nxt)
    by_cases z14_ : z = 14
    · subst z14_
      exact zq_tIn hZ (off := 715) (tgt := 754) dL_law_39 (by omega) rfl rfl (lc_14 l hfl hZ hΦ hsx hok hL hI hi hkn nxt)
    by_cases z15_ : z = 15
    · subst z15_
      exact zq_tIn hZ (off := 759) (tgt := 798) dL_law_39 (by omega) rfl rfl (lc_15 l hfl hZ hΦ hsx hok hL hI hi hkn nxt)
    by_cases z16_ : z = 16
    · subst z16_
      exact zq_tIn hZ (off := 803) (tgt := 842) dL_law_39 (by omega) rfl rfl (lc_16 l hfl hZ hΦ hsx hok hL hI hi hkn nxt)
    by_cases z17_ : z = 17
    · subst z17_
      exact zq_tIn hZ (off := 847) (tgt := 886) dL_law_39 (by omega) rfl rfl (lc_17 l hfl hZ hΦ hsx hok hL hI hi hkn nxt)
    by_cases z18_ : z = 18
    · subst z18_
      exact zq_tIn hZ (off := 891) (tgt := 930) dL_law_39 (by omega) rfl rfl (lc_18 l hfl hZ hΦ hsx hok hL hI hi hkn nxt)
    by_cases z19_ : z = 19
    · subst z19_
      exact zq_tIn hZ (off := 935) (tgt := 974) dL_law_39 (by omega) rfl rfl (lc_19 l hfl hZ hΦ hsx hok hL hI hi hkn nxt)
    by_cases z20_ : z = 20
    · subst z20_
      exact zq_tIn hZ (off := 979) (tgt := 1018) dL_law_39 (by omega) rfl rfl (lc_20 l hfl hZ hΦ hsx hok hL hI hi hkn nxt)
    by_cases z21_ : z = 21
    · subst z21_
      exact zq_tIn hZ (off := 1035) (tgt := 1074) dL_law_39 (by omega) rfl rfl (lc_21 l hfl hZ hΦ hsx hok hL hI hi hkn nxt)
    by_cases z22_ : z = 22
    · subst z22_
      exact zq_tIn hZ (off := 1091) (tgt := 1130) dL_law_39 (by omega) rfl rfl (lc_22 l hfl hZ hΦ hsx hok hL hI hi hkn nxt)
    by_cases z23_ : z = 23
    · subst z23_
      exact zq_tIn hZ (off := 1147) (tgt := 1186) dL_law_39 (by omega) rfl rfl (lc_23 l hfl hZ hΦ hsx hok hL hI hi hkn nxt)
    by_cases z24_ : z = 24
    · subst z24_
      exact zq_tIn hZ (off := 1160) (tgt := 1199) dL_law_39 (by omega) rfl rfl (lc_24 l hfl hZ hΦ hsx hok hL hI hi hkn nxt)
    by_cases z25_ : z = 25
    · subst z25_
      exact zq_tIn hZ (off := 1173) (tgt := 1212) dL_law_39 (by omega) rfl rfl (lc_25 l hfl hZ hΦ hsx hok hL hI hi hkn nxt)
    by_cases z26_ : z = 26
    · subst z26_
      exact zq_tIn hZ (off := 1217) (tgt := 1256) dL_law_39 (by omega) rfl rfl (lc_26 l hfl hZ hΦ hsx hok hL hI hi hkn nxt)
    by_cases z27_ : z = 27
    · subst z27_
      exact zq_tIn hZ (off := 1253) (tgt := 1292) dL_law_39 (by omega) rfl rfl (lc_27 l hfl hZ hΦ hsx hok hL hI hi hkn nxt)
    by_cases z28_ : z = 28
    · subst z28_
      exact zq_tIn hZ (off := 1289) (tgt := 1328) dL_law_39 (by omega) rfl rfl (lc_28 l hfl hZ hΦ hsx hok hL hI hi hkn nxt)
    by_cases z29_ : z = 29
    · subst z29_
      exact zq_tIn hZ (off := 1313) (tgt := 1352) dL_law_39 (by omega) rfl rfl (lc_29 l hfl hZ hΦ hsx hok hL hI hi hkn nxt)
    by_cases z30_ : z = 30
    · subst z30_
      exact zq_tIn hZ (off := 1326) (tgt := 1365) dL_law_39 (by omega) rfl rfl (lc_30 l hfl hZ hΦ hsx hok hL hI hi hkn nxt)
    by_cases z31_ : z = 31
    · subst z31_
      exact zq_tIn hZ (off := 1339) (tgt := 1378) dL_law_39 (by omega) rfl rfl (lc_31 l hfl hZ hΦ hsx hok hL hI hi hkn nxt)
    by_cases z32_ : z = 32
    · subst z32_
      exact zq_tIn hZ (off := 1395) (tgt := 1434) dL_law_39 (by omega) rfl rfl (lc_32 l hfl hZ hΦ hsx hok hL hI hi hkn nxt)
    by_cases z33_ : z = 33
    · subst z33_
      exact zq_tIn hZ (off := 1408) (tgt := 1447) dL_law_39 (by omega) rfl rfl (lc_33 l hfl hZ hΦ hsx hok hL hI hi hkn nxt)
    by_cases z34_ : z = 34
    · subst z34_
      exact zq_tIn hZ (off := 1452) (tgt := 1491) dL_law_39 (by omega) rfl rfl (lc_34 l hfl hZ hΦ hsx hok hL hI hi hkn nxt)
    by_cases z35_ : z = 35
    · subst z35_
      exact zq_tIn hZ (off := 1496) (tgt := 1535) dL_law_39 (by omega) rfl rfl (lc_35 l hfl hZ hΦ hsx hok hL hI hi hkn nxt)
    by_cases z36_ : z = 36
    · subst z36_
      exact zq_tIn hZ (off := 1509) (tgt := 1548) dL_law_39 (by omega) rfl rfl (lc_36 l hfl hZ hΦ hsx hok hL hI hi hkn nxt)
    by_cases z37_ : z = 37
    · subst z37_
      exact zq_tIn hZ (off := 1522) (tgt := 1561) dL_law_39 (by omega) rfl rfl (lc_37 l hfl hZ hΦ hsx hok hL hI hi hkn nxt)
    by_cases z38_ : z = 38
    · subst z38_
      exact zq_tIn hZ (off := 1535) (tgt := 1574) dL_law_39 (by omega) rfl rfl (lc_38 l hfl hZ hΦ hsx hok hL hI hi hkn nxt)
    by_cases z39_ : z = 39
    · subst z39_
      exact zq_tIn hZ (off := 1548) (tgt := 1587) dL_law_39 (by omega) rfl rfl (lc_39 l hfl hZ hΦ hsx hok hL hI hi hkn nxt)
    by_cases z40_ : z = 40
    · subst z40_
      exact zq_tIn hZ (off := 1561) (tgt := 1600) dL_law_39 (by omega) rfl rfl (lc_40 l hfl hZ hΦ hsx hok hL hI hi hkn nxt)
    by_cases z41_ : z = 41
    · subst z41_
      exact zq_tIn hZ (off := 1574) (tgt := 1613) dL_law_39 (by omega) rfl rfl (lc_41 l hfl hZ hΦ hsx hok hL hI hi hkn nxt)
    by_cases z42_ : z = 42
    · subst z42_
      exact zq_tIn hZ (off := 1587) (tgt := 1626) dL_law_39 (by omega) rfl rfl (lc_42 l hfl hZ hΦ hsx hok hL hI hi hkn nxt)
    by_cases z43_ : z = 43
    · subst z43_
      exact zq_tIn hZ (off := 1600) (tgt := 1639) dL_law_39 (by omega) rfl rfl (lc_43 l hfl hZ hΦ hsx hok hL hI hi hkn nxt)
    by_cases z44_ : z = 44
    · subst z44_
      exact zq_tIn hZ (off := 1613) (tgt := 1652) dL_law_39 (by omega) rfl rfl (lc_44 l hfl hZ hΦ hsx hok hL hI hi hkn nxt)
    by_cases z45_ : z = 45
    · subst z45_
      exact zq_tIn hZ (off := 1669) (tgt := 1708) dL_law_39 (by omega) rfl rfl (lc_45 l hfl hZ hΦ hsx hok hL hI hi hkn nxt)
    by_cases z46_ : z = 46
    · subst z46_
      exact zq_tIn hZ (off := 1737) (tgt := 1776) dL_law_39 (by omega) rfl rfl (lc_46 l hfl hZ hΦ hsx hok hL hI hi hkn nxt)
    by_cases z47_ : z = 47
    · subst z47_
      exact zq_tIn hZ (off := 1781) (tgt := 1820) dL_law_39 (by omega) rfl rfl (lc_47 l hfl hZ hΦ hsx hok hL hI hi hkn nxt)
    by_cases z48_ : z = 48
    · subst z48_
      exact zq_tIn hZ (off := 1794) (tgt := 1833) dL_law_39 (by omega) rfl rfl (lc_48 l hfl hZ hΦ hsx hok hL hI hi hkn nxt)
    by_cases z49_ : z = 49
    · subst z49_
      exact zq_tIn hZ (off := 1807) (tgt := 1846) dL_law_39 (by omega) rfl rfl (lc_49 l hfl hZ hΦ hsx hok hL hI hi hkn nxt)
    by_cases z50_ : z = 50
    · subst z50_
      exact zq_tIn hZ (off := 1863) (tgt := 1902) dL_law_39 (by omega) rfl rfl (lc_50 l hfl hZ hΦ hsx hok hL hI hi hkn nxt)
    by_cases z51_ : z = 51
    · subst z51_
      exact zq_tIn hZ (off := 1876) (tgt := 1915) dL_law_39 (by omega) rfl rfl (lc_51 l hfl hZ hΦ hsx hok hL hI hi hkn nxt)
    by_cases z52_ : z = 52
    · subst z52_
      exact zq_tIn hZ (off := 1920) (tgt := 1959) dL_law_39 (by omega) rfl rfl (lc_52 l hfl hZ hΦ hsx hok hL hI hi hkn nxt)
    by_cases z53_ : z = 53
    · subst z53_
      exact zq_tIn hZ (off := 1933) (tgt := 1972) dL_law_39 (by omega) rfl rfl (lc_53 l hfl hZ hΦ hsx hok hL hI hi hkn nxt)
    by_cases z54_ : z = 54
    · subst z54_
      exact zq_tIn hZ (off := 1946) (tgt := 1985) dL_law_39 (by omega) rfl rfl (lc_54 l hfl hZ hΦ hsx hok hL hI hi hkn nxt)
    by_cases z55_ : z = 55
    · subst z55_
      exact zq_tIn hZ (off := 1959) (tgt := 1998) dL_law_39 (by omega) rfl rfl (lc_55 l hfl hZ hΦ hsx hok hL hI hi hkn nxt)
    by_cases z56_ : z = 56
    · subst z56_
      exact zq_tIn hZ (off := 1972) (tgt := 2011) dL_law_39 (by omega) rfl rfl (lc_56 l hfl hZ hΦ hsx hok hL hI hi hkn nxt)
    by_cases z57_ : z = 57
    · subst z57_
      exact zq_tIn hZ (off := 1985) (tgt := 2024) dL_law_39 (by omega) rfl rfl (lc_57 l hfl hZ hΦ hsx hok hL hI hi hkn nxt)
    by_cases z58_ : z = 58
    · subst z58_
      exact zq_tIn hZ (off := 2026) (tgt := 2065) dL_law_39 (by omega) rfl rfl (lc_58 l hfl hZ hΦ hsx hok hL hI hi hkn nxt)
    omega
