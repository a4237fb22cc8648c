/-! THE BITS OF A MEAN. -/
def dlt (r q : UInt64) : Bool := decide (Op.cmpValue (FP.dcmp r q) .l < 0)
def d1 : UInt64 := 4607182418800017408
def d2 : UInt64 := 4611686018427387904
def d52 : UInt64 := 4841369599423283200
def n64 (r : UInt64) : Bool := decide (r &&& 0x7fffffffffffffff ≤ 0x7ff0000000000000)
def bLp : Nat → UInt64 → Nat → UInt64 × Nat
  | 0, r, e => (r, e)
  | k + 1, r, e => if dlt r d2 = true then (r, e) else bLp k (FP.ddiv r d2) (e + 1)
def bok : Nat → UInt64 → Bool
  | 0, r => dlt r d2
  | k + 1, r => dlt r d2 || (n64 (FP.ddiv r d2) && bok k (FP.ddiv r d2))
def bO (r : UInt64) : Int64 := (Int64.ofNat (bLp 8 r 1023).2 <<< 52) + FP.d2l (FP.dmul (FP.dsub (bLp 8 r 1023).1 d1) d52)
def mbL : Nat → Nat → Nat → Nat → Nat × Nat
  | 0, _, t, h => (t, h)
  | k + 1, c, t, h => if t / c < 4503599627370496 then mbL k c (2 * t) (h + 1) else (t, h)
def mbF (c t : Nat) : Nat := t / c + (if t % c * 2 > c ∨ (t % c * 2 = c ∧ t / c % 2 = 1) then 1 else 0)
def mB (s c : Nat) : Nat :=
  if mbF c (mbL 60 c s 0).1 = 9007199254740992 then (1075 - ((mbL 60 c s 0).2 - 1)) * 4503599627370496 else (1075 - (mbL 60 c s 0).2) * 4503599627370496 + (mbF c (mbL 60 c s 0).1 - 4503599627370496)
def chk (c s : Nat) : Bool :=
  n64 (FP.ddiv (FP.i2d (iI s)) (FP.i2d (iI c))) && (!dlt (FP.ddiv (FP.i2d (iI s)) (FP.i2d (iI c))) d1) && bok 8 (FP.ddiv (FP.i2d (iI s)) (FP.i2d (iI c))) &&
  n64 (FP.dsub (bLp 8 (FP.ddiv (FP.i2d (iI s)) (FP.i2d (iI c))) 1023).1 d1) && n64 (FP.dmul (FP.dsub (bLp 8 (FP.ddiv (FP.i2d (iI s)) (FP.i2d (iI c))) 1023).1 d1) d52) &&
  decide (bO (FP.ddiv (FP.i2d (iI s)) (FP.i2d (iI c))) = Int64.ofNat (mB s c))
theorem chk_1_0 : (List.range 150).all (fun i => chk 1 (1 + i)) = true := by decide +kernel
theorem chk_1_1 : (List.range 50).all (fun i => chk 1 (151 + i)) = true := by decide +kernel
theorem chk_1 {s : Nat} (h : 1 ≤ s ∧ s ≤ 200) : chk 1 s = true := by
  by_cases q0 : s < 151
  · have z := List.all_eq_true.mp chk_1_0 (s - 1) (List.mem_range.mpr (by omega))
    rw [show 1 + (s - 1) = s by omega] at z
    exact z
  by_cases q1 : s < 201
  · have z := List.all_eq_true.mp chk_1_1 (s - 151) (List.mem_range.mpr (by omega))
    rw [show 151 + (s - 151) = s by omega] at z
    exact z
  omega
theorem chk_2_0 : (List.range 150).all (fun i => chk 2 (2 + i)) = true := by decide +kernel
theorem chk_2_1 : (List.range 150).all (fun i => chk 2 (152 + i)) = true := by decide +kernel
theorem chk_2_2 : (List.range 99).all (fun i => chk 2 (302 + i)) = true := by decide +kernel
theorem chk_2 {s : Nat} (h : 2 ≤ s ∧ s ≤ 400) : chk 2 s = true := by
  by_cases q0 : s < 152
  · have z := List.all_eq_true.mp chk_2_0 (s - 2) (List.mem_range.mpr (by omega))
    rw [show 2 + (s - 2) = s by omega] at z
    exact z
  by_cases q1 : s < 302
  · have z := List.all_eq_true.mp chk_2_1 (s - 152) (List.mem_range.mpr (by omega))
    rw [show 152 + (s - 152) = s by omega] at z
    exact z
  by_cases q2 : s < 401
  · have z := List.all_eq_true.mp chk_2_2 (s - 302) (List.mem_range.mpr (by omega))
    rw [show 302 + (s - 302) = s by omega] at z
    exact z
  omega
theorem chk_3_0 : (List.range 150).all (fun i => chk 3 (3 + i)) = true := by decide +kernel
theorem chk_3_1 : (List.range 150).all (fun i => chk 3 (153 + i)) = true := by decide +kernel
theorem chk_3_2 : (List.range 150).all (fun i => chk 3 (303 + i)) = true := by decide +kernel
theorem chk_3_3 : (List.range 148).all (fun i => chk 3 (453 + i)) = true := by decide +kernel
theorem chk_3 {s : Nat} (h : 3 ≤ s ∧ s ≤ 600) : chk 3 s = true := by
  by_cases q0 : s < 153
  · have z := List.all_eq_true.mp chk_3_0 (s - 3) (List.mem_range.mpr (by omega))
    rw [show 3 + (s - 3) = s by omega] at z
    exact z
  by_cases q1 : s < 303
  · have z := List.all_eq_true.mp chk_3_1 (s - 153) (List.mem_range.mpr (by omega))
    rw [show 153 + (s - 153) = s by omega] at z
    exact z
  by_cases q2 : s < 453
  · have z := List.all_eq_true.mp chk_3_2 (s - 303) (List.mem_range.mpr (by omega))
    rw [show 303 + (s - 303) = s by omega] at z
    exact z
  by_cases q3 : s < 601
  · have z := List.all_eq_true.mp chk_3_3 (s - 453) (List.mem_range.mpr (by omega))
    rw [show 453 + (s - 453) = s by omega] at z
    exact z
  omega
theorem chk_4_0 : (List.range 150).all (fun i => chk 4 (4 + i)) = true := by decide +kernel
theorem chk_4_1 : (List.range 150).all (fun i => chk 4 (154 + i)) = true := by decide +kernel
theorem chk_4_2 : (List.range 150).all (fun i => chk 4 (304 + i)) = true := by decide +kernel
theorem chk_4_3 : (List.range 150).all (fun i => chk 4 (454 + i)) = true := by decide +kernel
theorem chk_4_4 : (List.range 150).all (fun i => chk 4 (604 + i)) = true := by decide +kernel
theorem chk_4_5 : (List.range 47).all (fun i => chk 4 (754 + i)) = true := by decide +kernel
theorem chk_4 {s : Nat} (h : 4 ≤ s ∧ s ≤ 800) : chk 4 s = true := by
  by_cases q0 : s < 154
  · have z := List.all_eq_true.mp chk_4_0 (s - 4) (List.mem_range.mpr (by omega))
    rw [show 4 + (s - 4) = s by omega] at z
    exact z
  by_cases q1 : s < 304
  · have z := List.all_eq_true.mp chk_4_1 (s - 154) (List.mem_range.mpr (by omega))
    rw [show 154 + (s - 154) = s by omega] at z
    exact z
  by_cases q2 : s < 454
  · have z := List.all_eq_true.mp chk_4_2 (s - 304) (List.mem_range.mpr (by omega))
    rw [show 304 + (s - 304) = s by omega] at z
    exact z
  by_cases q3 : s < 604
  · have z := List.all_eq_true.mp chk_4_3 (s - 454) (List.mem_range.mpr (by omega))
    rw [show 454 + (s - 454) = s by omega] at z
    exact z
  by_cases q4 : s < 754
  · have z := List.all_eq_true.mp chk_4_4 (s - 604) (List.mem_range.mpr (by omega))
    rw [show 604 + (s - 604) = s by omega] at z
    exact z
  by_cases q5 : s < 801
  · have z := List.all_eq_true.mp chk_4_5 (s - 754) (List.mem_range.mpr (by omega))
    rw [show 754 + (s - 754) = s by omega] at z
    exact z
  omega
theorem chk_5_0 : (List.range 150).all (fun i => chk 5 (5 + i)) = true := by decide +kernel
theorem chk_5_1 : (List.range 150).all (fun i => chk 5 (155 + i)) = true := by decide +kernel
theorem chk_5_2 : (List.range 150).all (fun i => chk 5 (305 + i)) = true := by decide +kernel
theorem chk_5_3 : (List.range 150).all (fun i => chk 5 (455 + i)) = true := by decide +kernel
theorem chk_5_4 : (List.range 150).all (fun i => chk 5 (605 + i)) = true := by decide +kernel
theorem chk_5_5 : (List.range 150).all (fun i => chk 5 (755 + i)) = true := by decide +kernel
theorem chk_5_6 : (List.range 96).all (fun i => chk 5 (905 + i)) = true := by decide +kernel
theorem chk_5 {s : Nat} (h : 5 ≤ s ∧ s ≤ 1000) : chk 5 s = true := by
  by_cases q0 : s < 155
  · have z := List.all_eq_true.mp chk_5_0 (s - 5) (List.mem_range.mpr (by omega))
    rw [show 5 + (s - 5) = s by omega] at z
    exact z
  by_cases q1 : s < 305
  · have z := List.all_eq_true.mp chk_5_1 (s - 155) (List.mem_range.mpr (by omega))
    rw [show 155 + (s - 155) = s by omega] at z
    exact z
  by_cases q2 : s < 455
  · have z := List.all_eq_true.mp chk_5_2 (s - 305) (List.mem_range.mpr (by omega))
    rw [show 305 + (s - 305) = s by omega] at z
    exact z
  by_cases q3 : s < 605
  · have z := List.all_eq_true.mp chk_5_3 (s - 455) (List.mem_range.mpr (by omega))
    rw [show 455 + (s - 455) = s by omega] at z
    exact z
  by_cases q4 : s < 755
  · have z := List.all_eq_true.mp chk_5_4 (s - 605) (List.mem_range.mpr (by omega))
    rw [show 605 + (s - 605) = s by omega] at z
    exact z
  by_cases q5 : s < 905
  · have z := List.all_eq_true.mp chk_5_5 (s - 755) (List.mem_range.mpr (by omega))
    rw [show 755 + (s - 755) = s by omega] at z
    exact z
  by_cases q6 : s < 1001
  · have z := List.all_eq_true.mp chk_5_6 (s - 905) (List.mem_range.mpr (by omega))
    rw [show 905 + (s - 905) = s by omega] at z
    exact z
  omega
