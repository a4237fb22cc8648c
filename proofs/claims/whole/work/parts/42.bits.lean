/-! THE BITS OF A MEAN. -/
def dlt (r q : UInt64) : Bool := decide (Op.cmpValue (FP.dcmp r q) .l < 0)
def d1 : UInt64 := 4607182418800017408
def d2 : UInt64 := 4611686018427387904
def d52 : UInt64 := 4841369599423283200
def n64 (r : UInt64) : Bool := decide (r &&& 0x7fffffffffffffff ≤ 0x7ff0000000000000)
def bLp : Nat → UInt64 → Nat → UInt64 × Nat
  | 0, r, e => (r, e)
  | k + 1, r, e => if dlt r d2 = true then (r, e) else bLp k (FP.ddiv r d2) (e + 1)
def bok : Nat → UInt64 → Bool
  | 0, r => dlt r d2
  | k + 1, r => dlt r d2 || (n64 (FP.ddiv r d2) && bok k (FP.ddiv r d2))
def bO (r : UInt64) : Int64 := (Int64.ofNat (bLp 8 r 1023).2 <<< 52) + FP.d2l (FP.dmul (FP.dsub (bLp 8 r 1023).1 d1) d52)
def mbL : Nat → Nat → Nat → Nat → Nat × Nat
  | 0, _, t, h => (t, h)
  | k + 1, c, t, h => if t / c < 4503599627370496 then mbL k c (2 * t) (h + 1) else (t, h)
def mbF (c t : Nat) : Nat := t / c + (if t % c * 2 > c ∨ (t % c * 2 = c ∧ t / c % 2 = 1) then 1 else 0)
def mB (s c : Nat) : Nat :=
  if mbF c (mbL 60 c s 0).1 = 9007199254740992 then (1075 - ((mbL 60 c s 0).2 - 1)) * 4503599627370496 else (1075 - (mbL 60 c s 0).2) * 4503599627370496 + (mbF c (mbL 60 c s 0).1 - 4503599627370496)
def chk (c s : Nat) : Bool :=
  n64 (FP.ddiv (FP.i2d (iI s)) (FP.i2d (iI c))) && (!dlt (FP.ddiv (FP.i2d (iI s)) (FP.i2d (iI c))) d1) && bok 8 (FP.ddiv (FP.i2d (iI s)) (FP.i2d (iI c))) &&
  n64 (FP.dsub (bLp 8 (FP.ddiv (FP.i2d (iI s)) (FP.i2d (iI c))) 1023).1 d1) && n64 (FP.dmul (FP.dsub (bLp 8 (FP.ddiv (FP.i2d (iI s)) (FP.i2d (iI c))) 1023).1 d1) d52) &&
  decide (bO (FP.ddiv (FP.i2d (iI s)) (FP.i2d (iI c))) = Int64.ofNat (mB s c))
theorem chk_1 : (List.range 201).all (fun s => s < 1 || chk 1 s) = true := by decide +kernel
theorem chk_2 : (List.range 401).all (fun s => s < 2 || chk 2 s) = true := by decide +kernel
theorem chk_3 : (List.range 601).all (fun s => s < 3 || chk 3 s) = true := by decide +kernel
theorem chk_4 : (List.range 801).all (fun s => s < 4 || chk 4 s) = true := by decide +kernel
theorem chk_5 : (List.range 1001).all (fun s => s < 5 || chk 5 s) = true := by decide +kernel
theorem chk_6 : (List.range 1201).all (fun s => s < 6 || chk 6 s) = true := by decide +kernel
theorem chk_7 : (List.range 1401).all (fun s => s < 7 || chk 7 s) = true := by decide +kernel
theorem chk_8 : (List.range 1601).all (fun s => s < 8 || chk 8 s) = true := by decide +kernel
theorem chk_all {c s : Nat} (hc : 1 ≤ c ∧ c ≤ 8) (hs : c ≤ s ∧ s ≤ 200 * c) : chk c s = true := by
  have z : (List.range (200 * c + 1)).all (fun s => s < c || chk c s) = true := by
    obtain ⟨h1, h2⟩ := hc
    rcases (show c = 1 ∨ c = 2 ∨ c = 3 ∨ c = 4 ∨ c = 5 ∨ c = 6 ∨ c = 7 ∨ c = 8 by omega) with rfl | rfl | rfl | rfl | rfl | rfl | rfl | rfl
    · exact chk_1
    · exact chk_2
    · exact chk_3
    · exact chk_4
    · exact chk_5
    · exact chk_6
    · exact chk_7
    · exact chk_8
  have q := List.all_eq_true.mp z s (List.mem_range.mpr (by omega))
  simp only [Bool.or_eq_true, decide_eq_true_eq] at q
  exact q.resolve_left (by omega)

