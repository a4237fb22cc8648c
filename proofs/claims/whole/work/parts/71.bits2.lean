/-! THE BITS OF A MEAN, 2. -/
theorem chk_6_0 : (List.range 150).all (fun i => chk 6 (6 + i)) = true := by decide +kernel
theorem chk_6_1 : (List.range 150).all (fun i => chk 6 (156 + i)) = true := by decide +kernel
theorem chk_6_2 : (List.range 150).all (fun i => chk 6 (306 + i)) = true := by decide +kernel
theorem chk_6_3 : (List.range 150).all (fun i => chk 6 (456 + i)) = true := by decide +kernel
theorem chk_6_4 : (List.range 150).all (fun i => chk 6 (606 + i)) = true := by decide +kernel
theorem chk_6_5 : (List.range 150).all (fun i => chk 6 (756 + i)) = true := by decide +kernel
theorem chk_6_6 : (List.range 150).all (fun i => chk 6 (906 + i)) = true := by decide +kernel
theorem chk_6_7 : (List.range 145).all (fun i => chk 6 (1056 + i)) = true := by decide +kernel
theorem chk_6 {s : Nat} (h : 6 ≤ s ∧ s ≤ 1200) : chk 6 s = true := by
  by_cases q0 : s < 156
  · have z := List.all_eq_true.mp chk_6_0 (s - 6) (List.mem_range.mpr (by omega))
    rw [show 6 + (s - 6) = s by omega] at z
    exact z
  by_cases q1 : s < 306
  · have z := List.all_eq_true.mp chk_6_1 (s - 156) (List.mem_range.mpr (by omega))
    rw [show 156 + (s - 156) = s by omega] at z
    exact z
  by_cases q2 : s < 456
  · have z := List.all_eq_true.mp chk_6_2 (s - 306) (List.mem_range.mpr (by omega))
    rw [show 306 + (s - 306) = s by omega] at z
    exact z
  by_cases q3 : s < 606
  · have z := List.all_eq_true.mp chk_6_3 (s - 456) (List.mem_range.mpr (by omega))
    rw [show 456 + (s - 456) = s by omega] at z
    exact z
  by_cases q4 : s < 756
  · have z := List.all_eq_true.mp chk_6_4 (s - 606) (List.mem_range.mpr (by omega))
    rw [show 606 + (s - 606) = s by omega] at z
    exact z
  by_cases q5 : s < 906
  · have z := List.all_eq_true.mp chk_6_5 (s - 756) (List.mem_range.mpr (by omega))
    rw [show 756 + (s - 756) = s by omega] at z
    exact z
  by_cases q6 : s < 1056
  · have z := List.all_eq_true.mp chk_6_6 (s - 906) (List.mem_range.mpr (by omega))
    rw [show 906 + (s - 906) = s by omega] at z
    exact z
  by_cases q7 : s < 1201
  · have z := List.all_eq_true.mp chk_6_7 (s - 1056) (List.mem_range.mpr (by omega))
    rw [show 1056 + (s - 1056) = s by omega] at z
    exact z
  omega
theorem chk_7_0 : (List.range 150).all (fun i => chk 7 (7 + i)) = true := by decide +kernel
theorem chk_7_1 : (List.range 150).all (fun i => chk 7 (157 + i)) = true := by decide +kernel
theorem chk_7_2 : (List.range 150).all (fun i => chk 7 (307 + i)) = true := by decide +kernel
theorem chk_7_3 : (List.range 150).all (fun i => chk 7 (457 + i)) = true := by decide +kernel
theorem chk_7_4 : (List.range 150).all (fun i => chk 7 (607 + i)) = true := by decide +kernel
theorem chk_7_5 : (List.range 150).all (fun i => chk 7 (757 + i)) = true := by decide +kernel
theorem chk_7_6 : (List.range 150).all (fun i => chk 7 (907 + i)) = true := by decide +kernel
theorem chk_7_7 : (List.range 150).all (fun i => chk 7 (1057 + i)) = true := by decide +kernel
theorem chk_7_8 : (List.range 150).all (fun i => chk 7 (1207 + i)) = true := by decide +kernel
theorem chk_7_9 : (List.range 44).all (fun i => chk 7 (1357 + i)) = true := by decide +kernel
theorem chk_7 {s : Nat} (h : 7 ≤ s ∧ s ≤ 1400) : chk 7 s = true := by
  by_cases q0 : s < 157
  · have z := List.all_eq_true.mp chk_7_0 (s - 7) (List.mem_range.mpr (by omega))
    rw [show 7 + (s - 7) = s by omega] at z
    exact z
  by_cases q1 : s < 307
  · have z := List.all_eq_true.mp chk_7_1 (s - 157) (List.mem_range.mpr (by omega))
    rw [show 157 + (s - 157) = s by omega] at z
    exact z
  by_cases q2 : s < 457
  · have z := List.all_eq_true.mp chk_7_2 (s - 307) (List.mem_range.mpr (by omega))
    rw [show 307 + (s - 307) = s by omega] at z
    exact z
  by_cases q3 : s < 607
  · have z := List.all_eq_true.mp chk_7_3 (s - 457) (List.mem_range.mpr (by omega))
    rw [show 457 + (s - 457) = s by omega] at z
    exact z
  by_cases q4 : s < 757
  · have z := List.all_eq_true.mp chk_7_4 (s - 607) (List.mem_range.mpr (by omega))
    rw [show 607 + (s - 607) = s by omega] at z
    exact z
  by_cases q5 : s < 907
  · have z := List.all_eq_true.mp chk_7_5 (s - 757) (List.mem_range.mpr (by omega))
    rw [show 757 + (s - 757) = s by omega] at z
    exact z
  by_cases q6 : s < 1057
  · have z := List.all_eq_true.mp chk_7_6 (s - 907) (List.mem_range.mpr (by omega))
    rw [show 907 + (s - 907) = s by omega] at z
    exact z
  by_cases q7 : s < 1207
  · have z := List.all_eq_true.mp chk_7_7 (s - 1057) (List.mem_range.mpr (by omega))
    rw [show 1057 + (s - 1057) = s by omega] at z
    exact z
  by_cases q8 : s < 1357
  · have z := List.all_eq_true.mp chk_7_8 (s - 1207) (List.mem_range.mpr (by omega))
    rw [show 1207 + (s - 1207) = s by omega] at z
    exact z
  by_cases q9 : s < 1401
  · have z := List.all_eq_true.mp chk_7_9 (s - 1357) (List.mem_range.mpr (by omega))
    rw [show 1357 + (s - 1357) = s by omega] at z
    exact z
  omega
theorem chk_8_0 : (List.range 150).all (fun i => chk 8 (8 + i)) = true := by decide +kernel
theorem chk_8_1 : (List.range 150).all (fun i => chk 8 (158 + i)) = true := by decide +kernel
theorem chk_8_2 : (List.range 150).all (fun i => chk 8 (308 + i)) = true := by decide +kernel
theorem chk_8_3 : (List.range 150).all (fun i => chk 8 (458 + i)) = true := by decide +kernel
theorem chk_8_4 : (List.range 150).all (fun i => chk 8 (608 + i)) = true := by decide +kernel
theorem chk_8_5 : (List.range 150).all (fun i => chk 8 (758 + i)) = true := by decide +kernel
theorem chk_8_6 : (List.range 150).all (fun i => chk 8 (908 + i)) = true := by decide +kernel
theorem chk_8_7 : (List.range 150).all (fun i => chk 8 (1058 + i)) = true := by decide +kernel
theorem chk_8_8 : (List.range 150).all (fun i => chk 8 (1208 + i)) = true := by decide +kernel
theorem chk_8_9 : (List.range 150).all (fun i => chk 8 (1358 + i)) = true := by decide +kernel
theorem chk_8_10 : (List.range 93).all (fun i => chk 8 (1508 + i)) = true := by decide +kernel
theorem chk_8 {s : Nat} (h : 8 ≤ s ∧ s ≤ 1600) : chk 8 s = true := by
  by_cases q0 : s < 158
  · have z := List.all_eq_true.mp chk_8_0 (s - 8) (List.mem_range.mpr (by omega))
    rw [show 8 + (s - 8) = s by omega] at z
    exact z
  by_cases q1 : s < 308
  · have z := List.all_eq_true.mp chk_8_1 (s - 158) (List.mem_range.mpr (by omega))
    rw [show 158 + (s - 158) = s by omega] at z
    exact z
  by_cases q2 : s < 458
  · have z := List.all_eq_true.mp chk_8_2 (s - 308) (List.mem_range.mpr (by omega))
    rw [show 308 + (s - 308) = s by omega] at z
    exact z
  by_cases q3 : s < 608
  · have z := List.all_eq_true.mp chk_8_3 (s - 458) (List.mem_range.mpr (by omega))
    rw [show 458 + (s - 458) = s by omega] at z
    exact z
  by_cases q4 : s < 758
  · have z := List.all_eq_true.mp chk_8_4 (s - 608) (List.mem_range.mpr (by omega))
    rw [show 608 + (s - 608) = s by omega] at z
    exact z
  by_cases q5 : s < 908
  · have z := List.all_eq_true.mp chk_8_5 (s - 758) (List.mem_range.mpr (by omega))
    rw [show 758 + (s - 758) = s by omega] at z
    exact z
  by_cases q6 : s < 1058
  · have z := List.all_eq_true.mp chk_8_6 (s - 908) (List.mem_range.mpr (by omega))
    rw [show 908 + (s - 908) = s by omega] at z
    exact z
  by_cases q7 : s < 1208
  · have z := List.all_eq_true.mp chk_8_7 (s - 1058) (List.mem_range.mpr (by omega))
    rw [show 1058 + (s - 1058) = s by omega] at z
    exact z
  by_cases q8 : s < 1358
  · have z := List.all_eq_true.mp chk_8_8 (s - 1208) (List.mem_range.mpr (by omega))
    rw [show 1208 + (s - 1208) = s by omega] at z
    exact z
  by_cases q9 : s < 1508
  · have z := List.all_eq_true.mp chk_8_9 (s - 1358) (List.mem_range.mpr (by omega))
    rw [show 1358 + (s - 1358) = s by omega] at z
    exact z
  by_cases q10 : s < 1601
  · have z := List.all_eq_true.mp chk_8_10 (s - 1508) (List.mem_range.mpr (by omega))
    rw [show 1508 + (s - 1508) = s by omega] at z
    exact z
  omega
theorem chk_all {c s : Nat} (hc : 1 ≤ c ∧ c ≤ 8) (hs : c ≤ s ∧ s ≤ 200 * c) : chk c s = true := by
  obtain ⟨h1, h2⟩ := hc
  rcases (show c = 1 ∨ c = 2 ∨ c = 3 ∨ c = 4 ∨ c = 5 ∨ c = 6 ∨ c = 7 ∨ c = 8 by omega) with rfl | rfl | rfl | rfl | rfl | rfl | rfl | rfl
  · exact chk_1 (by omega)
  · exact chk_2 (by omega)
  · exact chk_3 (by omega)
  · exact chk_4 (by omega)
  · exact chk_5 (by omega)
  · exact chk_6 (by omega)
  · exact chk_7 (by omega)
  · exact chk_8 (by omega)
