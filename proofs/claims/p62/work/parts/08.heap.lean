/-! THE LAYER, 4: fields, arrays, new objects. -/
theorem inw0 : ∀ w ∈ u_ws RX0 TX0 6, w ∈ wsG := by
  have h : ∀ w ∈ u_ws RX0 TX0 6, w ∈ lw_tbl ∧ goodWord w = true := by decide +kernel
  exact fun w hw => wg (h w hw).1 (h w hw).2
theorem inw2 : ∀ w ∈ u_ws RX2 TX2 3, w ∈ wsG := by
  have h : ∀ w ∈ u_ws RX2 TX2 3, w ∈ lw_tbl ∧ goodWord w = true := by decide +kernel
  exact fun w hw => wg (h w hw).1 (h w hw).2
theorem inw3 : ∀ w ∈ u_ws RX3 TX3 5, w ∈ wsG := by
  have h : ∀ w ∈ u_ws RX3 TX3 5, w ∈ lw_tbl ∧ goodWord w = true := by decide +kernel
  exact fun w hw => wg (h w hw).1 (h w hw).2
theorem inw4 : ∀ w ∈ u_ws RX4 TX4 3, w ∈ wsG := by
  have h : ∀ w ∈ u_ws RX4 TX4 3, w ∈ lw_tbl ∧ goodWord w = true := by decide +kernel
  exact fun w hw => wg (h w hw).1 (h w hw).2
theorem inw5 : ∀ w ∈ u_ws RX5 TX5 4, w ∈ wsG := by
  have h : ∀ w ∈ u_ws RX5 TX5 4, w ∈ lw_tbl ∧ goodWord w = true := by decide +kernel
  exact fun w hw => wg (h w hw).1 (h w hw).2
theorem inw6 : ∀ w ∈ u_ws RX6 TX6 2, w ∈ wsG := by
  have h : ∀ w ∈ u_ws RX6 TX6 2, w ∈ lw_tbl ∧ goodWord w = true := by decide +kernel
  exact fun w hw => wg (h w hw).1 (h w hw).2
theorem inw7 : ∀ w ∈ u_ws RX7 TX7 5, w ∈ wsG := by
  have h : ∀ w ∈ u_ws RX7 TX7 5, w ∈ lw_tbl ∧ goodWord w = true := by decide +kernel
  exact fun w hw => wg (h w hw).1 (h w hw).2
section ZH
variable {ZZ : ZT} {l : Launch} {y : MethodName} {cc : ByteArray} {nL : Nat} {ret : Option FieldType} {R : Room} {L0 : List Nat} {post : Option Value → List Nat → (Nat → PE) → Prop} {xp : String → List Nat → (Nat → PE) → Prop}
variable {k n pc : Nat} {lv : List (Option Value)} {st : List Value} {L : List Nat} {F : Nat → PE}
theorem z_gf_X0_written (hZ : ZZ = Zj l y cc nL ret R L0 post xp) {a ix : Nat} {v0 v1 v2 v3 v4 v5 : Value} (d : decode cc pc = .ok (.getfield ix, 3)) (hw : Cond.fieldLink y.cls ix "DragonRing$Accounts" "written" "I" ∈ wsG) (ha : a ∈ L) (hF : F a = eO 0 [v0, v1, v2, v3, v4, v5]) (kk : ZZ k n (pc + 3) lv (v0 :: st) L F) : ZZ k n pc lv (.ref a :: st) L F := by
  subst hZ
  intro p e s m args below meth c D κ hx H locs ls hP hD hS hl
  obtain ⟨q0, hq0⟩ := pw_get (κ := κ) ha hF
  exact va_get hx.1 hx.2.1 (C := RX0) (T := TX0) (N := 6) (ci := 0) (ref := "DragonRing$Accounts") hx.2.2.2.2.1 inw0 hx.2.2.2.1 hx.2.2.2.2.2.1.1 hP q0 hq0 rfl 0 (by decide) (hx.2.2.2.2.1 _ hw) (fun _ h => h) rfl d (kk p e s m args below meth c D κ hx H locs ls hP hD hS hl)
theorem z_pf_X0_written (hZ : ZZ = Zj l y cc nL ret R L0 post xp) {a ix : Nat} {v0 v1 v2 v3 v4 v5 : Value} {x : Int32} (d : decode cc pc = .ok (.putfield ix, 3)) (hw : Cond.fieldLink y.cls ix "DragonRing$Accounts" "written" "I" ∈ wsG) (ha : a ∈ L) (hF : F a = eO 0 [v0, v1, v2, v3, v4, v5]) (kk : ∀ F1 : Nat → PE, F1 a = eO 0 [.int x, v1, v2, v3, v4, v5] → (∀ b : Nat, b ≠ a → F1 b = F b) → ZZ k n (pc + 3) lv st L F1) : ZZ k n pc lv (.int x :: .ref a :: st) L F := by
  subst hZ
  intro p e s m args below meth c D κ hx H locs ls hP hD hS hl
  obtain ⟨q0, hq0⟩ := pw_get (κ := κ) ha hF
  refine va_put (v := .int x) (ty := .int) hx.1 hx.2.1 (C := RX0) (T := TX0) (N := 6) (ci := 0) (ref := "DragonRing$Accounts") hx.2.2.2.2.1 inw0 tyX0 tyX0_ok nmX0 hx.2.2.2.1 hx.2.2.2.2.2.1.1 hP hD hS q0 hq0 rfl 0 (by decide) (hx.2.2.2.2.1 _ hw) (fun _ h => h) rfl (by decide +kernel) rfl rfl (Nat.le_of_ble_eq_true rfl) d (fun H1 locs1 hP1 hD1 hS1 => ?_)
  refine kk (va_up F a (eO 0 [.int x, v1, v2, v3, v4, v5])) (va_up_self _ _ _) (fun b hb => va_up_ne _ _ hb) p e s m args below meth c D κ hx H1 locs1 ls ?_ ?_ hS1 hl
  · rw [← pw_set (e := eO 0 [.int x, v1, v2, v3, v4, v5]) hD ha hF hq0]; exact hP1
  · rw [← pw_set (e := eO 0 [.int x, v1, v2, v3, v4, v5]) hD ha hF hq0]; exact hD1
theorem z_gf_X0_rubbed (hZ : ZZ = Zj l y cc nL ret R L0 post xp) {a ix : Nat} {v0 v1 v2 v3 v4 v5 : Value} (d : decode cc pc = .ok (.getfield ix, 3)) (hw : Cond.fieldLink y.cls ix "DragonRing$Accounts" "rubbed" "I" ∈ wsG) (ha : a ∈ L) (hF : F a = eO 0 [v0, v1, v2, v3, v4, v5]) (kk : ZZ k n (pc + 3) lv (v1 :: st) L F) : ZZ k n pc lv (.ref a :: st) L F := by
  subst hZ
  intro p e s m args below meth c D κ hx H locs ls hP hD hS hl
  obtain ⟨q0, hq0⟩ := pw_get (κ := κ) ha hF
  exact va_get hx.1 hx.2.1 (C := RX0) (T := TX0) (N := 6) (ci := 0) (ref := "DragonRing$Accounts") hx.2.2.2.2.1 inw0 hx.2.2.2.1 hx.2.2.2.2.2.1.1 hP q0 hq0 rfl 1 (by decide) (hx.2.2.2.2.1 _ hw) (fun _ h => h) rfl d (kk p e s m args below meth c D κ hx H locs ls hP hD hS hl)
theorem z_pf_X0_rubbed (hZ : ZZ = Zj l y cc nL ret R L0 post xp) {a ix : Nat} {v0 v1 v2 v3 v4 v5 : Value} {x : Int32} (d : decode cc pc = .ok (.putfield ix, 3)) (hw : Cond.fieldLink y.cls ix "DragonRing$Accounts" "rubbed" "I" ∈ wsG) (ha : a ∈ L) (hF : F a = eO 0 [v0, v1, v2, v3, v4, v5]) (kk : ∀ F1 : Nat → PE, F1 a = eO 0 [v0, .int x, v2, v3, v4, v5] → (∀ b : Nat, b ≠ a → F1 b = F b) → ZZ k n (pc + 3) lv st L F1) : ZZ k n pc lv (.int x :: .ref a :: st) L F := by
  subst hZ
  intro p e s m args below meth c D κ hx H locs ls hP hD hS hl
  obtain ⟨q0, hq0⟩ := pw_get (κ := κ) ha hF
  refine va_put (v := .int x) (ty := .int) hx.1 hx.2.1 (C := RX0) (T := TX0) (N := 6) (ci := 0) (ref := "DragonRing$Accounts") hx.2.2.2.2.1 inw0 tyX0 tyX0_ok nmX0 hx.2.2.2.1 hx.2.2.2.2.2.1.1 hP hD hS q0 hq0 rfl 1 (by decide) (hx.2.2.2.2.1 _ hw) (fun _ h => h) rfl (by decide +kernel) rfl rfl (Nat.le_of_ble_eq_true rfl) d (fun H1 locs1 hP1 hD1 hS1 => ?_)
  refine kk (va_up F a (eO 0 [v0, .int x, v2, v3, v4, v5])) (va_up_self _ _ _) (fun b hb => va_up_ne _ _ hb) p e s m args below meth c D κ hx H1 locs1 ls ?_ ?_ hS1 hl
  · rw [← pw_set (e := eO 0 [v0, .int x, v2, v3, v4, v5]) hD ha hF hq0]; exact hP1
  · rw [← pw_set (e := eO 0 [v0, .int x, v2, v3, v4, v5]) hD ha hF hq0]; exact hD1
theorem z_gf_X0_killed (hZ : ZZ = Zj l y cc nL ret R L0 post xp) {a ix : Nat} {v0 v1 v2 v3 v4 v5 : Value} (d : decode cc pc = .ok (.getfield ix, 3)) (hw : Cond.fieldLink y.cls ix "DragonRing$Accounts" "killed" "I" ∈ wsG) (ha : a ∈ L) (hF : F a = eO 0 [v0, v1, v2, v3, v4, v5]) (kk : ZZ k n (pc + 3) lv (v2 :: st) L F) : ZZ k n pc lv (.ref a :: st) L F := by
  subst hZ
  intro p e s m args below meth c D κ hx H locs ls hP hD hS hl
  obtain ⟨q0, hq0⟩ := pw_get (κ := κ) ha hF
  exact va_get hx.1 hx.2.1 (C := RX0) (T := TX0) (N := 6) (ci := 0) (ref := "DragonRing$Accounts") hx.2.2.2.2.1 inw0 hx.2.2.2.1 hx.2.2.2.2.2.1.1 hP q0 hq0 rfl 2 (by decide) (hx.2.2.2.2.1 _ hw) (fun _ h => h) rfl d (kk p e s m args below meth c D κ hx H locs ls hP hD hS hl)
theorem z_pf_X0_killed (hZ : ZZ = Zj l y cc nL ret R L0 post xp) {a ix : Nat} {v0 v1 v2 v3 v4 v5 : Value} {x : Int32} (d : decode cc pc = .ok (.putfield ix, 3)) (hw : Cond.fieldLink y.cls ix "DragonRing$Accounts" "killed" "I" ∈ wsG) (ha : a ∈ L) (hF : F a = eO 0 [v0, v1, v2, v3, v4, v5]) (kk : ∀ F1 : Nat → PE, F1 a = eO 0 [v0, v1, .int x, v3, v4, v5] → (∀ b : Nat, b ≠ a → F1 b = F b) → ZZ k n (pc + 3) lv st L F1) : ZZ k n pc lv (.int x :: .ref a :: st) L F := by
  subst hZ
  intro p e s m args below meth c D κ hx H locs ls hP hD hS hl
  obtain ⟨q0, hq0⟩ := pw_get (κ := κ) ha hF
  refine va_put (v := .int x) (ty := .int) hx.1 hx.2.1 (C := RX0) (T := TX0) (N := 6) (ci := 0) (ref := "DragonRing$Accounts") hx.2.2.2.2.1 inw0 tyX0 tyX0_ok nmX0 hx.2.2.2.1 hx.2.2.2.2.2.1.1 hP hD hS q0 hq0 rfl 2 (by decide) (hx.2.2.2.2.1 _ hw) (fun _ h => h) rfl (by decide +kernel) rfl rfl (Nat.le_of_ble_eq_true rfl) d (fun H1 locs1 hP1 hD1 hS1 => ?_)
  refine kk (va_up F a (eO 0 [v0, v1, .int x, v3, v4, v5])) (va_up_self _ _ _) (fun b hb => va_up_ne _ _ hb) p e s m args below meth c D κ hx H1 locs1 ls ?_ ?_ hS1 hl
  · rw [← pw_set (e := eO 0 [v0, v1, .int x, v3, v4, v5]) hD ha hF hq0]; exact hP1
  · rw [← pw_set (e := eO 0 [v0, v1, .int x, v3, v4, v5]) hD ha hF hq0]; exact hD1
theorem z_gf_X0_yanked (hZ : ZZ = Zj l y cc nL ret R L0 post xp) {a ix : Nat} {v0 v1 v2 v3 v4 v5 : Value} (d : decode cc pc = .ok (.getfield ix, 3)) (hw : Cond.fieldLink y.cls ix "DragonRing$Accounts" "yanked" "I" ∈ wsG) (ha : a ∈ L) (hF : F a = eO 0 [v0, v1, v2, v3, v4, v5]) (kk : ZZ k n (pc + 3) lv (v3 :: st) L F) : ZZ k n pc lv (.ref a :: st) L F := by
  subst hZ
  intro p e s m args below meth c D κ hx H locs ls hP hD hS hl
  obtain ⟨q0, hq0⟩ := pw_get (κ := κ) ha hF
  exact va_get hx.1 hx.2.1 (C := RX0) (T := TX0) (N := 6) (ci := 0) (ref := "DragonRing$Accounts") hx.2.2.2.2.1 inw0 hx.2.2.2.1 hx.2.2.2.2.2.1.1 hP q0 hq0 rfl 3 (by decide) (hx.2.2.2.2.1 _ hw) (fun _ h => h) rfl d (kk p e s m args below meth c D κ hx H locs ls hP hD hS hl)
theorem z_pf_X0_yanked (hZ : ZZ = Zj l y cc nL ret R L0 post xp) {a ix : Nat} {v0 v1 v2 v3 v4 v5 : Value} {x : Int32} (d : decode cc pc = .ok (.putfield ix, 3)) (hw : Cond.fieldLink y.cls ix "DragonRing$Accounts" "yanked" "I" ∈ wsG) (ha : a ∈ L) (hF : F a = eO 0 [v0, v1, v2, v3, v4, v5]) (kk : ∀ F1 : Nat → PE, F1 a = eO 0 [v0, v1, v2, .int x, v4, v5] → (∀ b : Nat, b ≠ a → F1 b = F b) → ZZ k n (pc + 3) lv st L F1) : ZZ k n pc lv (.int x :: .ref a :: st) L F := by
  subst hZ
  intro p e s m args below meth c D κ hx H locs ls hP hD hS hl
  obtain ⟨q0, hq0⟩ := pw_get (κ := κ) ha hF
  refine va_put (v := .int x) (ty := .int) hx.1 hx.2.1 (C := RX0) (T := TX0) (N := 6) (ci := 0) (ref := "DragonRing$Accounts") hx.2.2.2.2.1 inw0 tyX0 tyX0_ok nmX0 hx.2.2.2.1 hx.2.2.2.2.2.1.1 hP hD hS q0 hq0 rfl 3 (by decide) (hx.2.2.2.2.1 _ hw) (fun _ h => h) rfl (by decide +kernel) rfl rfl (Nat.le_of_ble_eq_true rfl) d (fun H1 locs1 hP1 hD1 hS1 => ?_)
  refine kk (va_up F a (eO 0 [v0, v1, v2, .int x, v4, v5])) (va_up_self _ _ _) (fun b hb => va_up_ne _ _ hb) p e s m args below meth c D κ hx H1 locs1 ls ?_ ?_ hS1 hl
  · rw [← pw_set (e := eO 0 [v0, v1, v2, .int x, v4, v5]) hD ha hF hq0]; exact hP1
  · rw [← pw_set (e := eO 0 [v0, v1, v2, .int x, v4, v5]) hD ha hF hq0]; exact hD1
theorem z_gf_X0_takenOut (hZ : ZZ = Zj l y cc nL ret R L0 post xp) {a ix : Nat} {v0 v1 v2 v3 v4 v5 : Value} (d : decode cc pc = .ok (.getfield ix, 3)) (hw : Cond.fieldLink y.cls ix "DragonRing$Accounts" "takenOut" "I" ∈ wsG) (ha : a ∈ L) (hF : F a = eO 0 [v0, v1, v2, v3, v4, v5]) (kk : ZZ k n (pc + 3) lv (v4 :: st) L F) : ZZ k n pc lv (.ref a :: st) L F := by
  subst hZ
  intro p e s m args below meth c D κ hx H locs ls hP hD hS hl
  obtain ⟨q0, hq0⟩ := pw_get (κ := κ) ha hF
  exact va_get hx.1 hx.2.1 (C := RX0) (T := TX0) (N := 6) (ci := 0) (ref := "DragonRing$Accounts") hx.2.2.2.2.1 inw0 hx.2.2.2.1 hx.2.2.2.2.2.1.1 hP q0 hq0 rfl 4 (by decide) (hx.2.2.2.2.1 _ hw) (fun _ h => h) rfl d (kk p e s m args below meth c D κ hx H locs ls hP hD hS hl)
theorem z_pf_X0_takenOut (hZ : ZZ = Zj l y cc nL ret R L0 post xp) {a ix : Nat} {v0 v1 v2 v3 v4 v5 : Value} {x : Int32} (d : decode cc pc = .ok (.putfield ix, 3)) (hw : Cond.fieldLink y.cls ix "DragonRing$Accounts" "takenOut" "I" ∈ wsG) (ha : a ∈ L) (hF : F a = eO 0 [v0, v1, v2, v3, v4, v5]) (kk : ∀ F1 : Nat → PE, F1 a = eO 0 [v0, v1, v2, v3, .int x, v5] → (∀ b : Nat, b ≠ a → F1 b = F b) → ZZ k n (pc + 3) lv st L F1) : ZZ k n pc lv (.int x :: .ref a :: st) L F := by
  subst hZ
  intro p e s m args below meth c D κ hx H locs ls hP hD hS hl
  obtain ⟨q0, hq0⟩ := pw_get (κ := κ) ha hF
  refine va_put (v := .int x) (ty := .int) hx.1 hx.2.1 (C := RX0) (T := TX0) (N := 6) (ci := 0) (ref := "DragonRing$Accounts") hx.2.2.2.2.1 inw0 tyX0 tyX0_ok nmX0 hx.2.2.2.1 hx.2.2.2.2.2.1.1 hP hD hS q0 hq0 rfl 4 (by decide) (hx.2.2.2.2.1 _ hw) (fun _ h => h) rfl (by decide +kernel) rfl rfl (Nat.le_of_ble_eq_true rfl) d (fun H1 locs1 hP1 hD1 hS1 => ?_)
  refine kk (va_up F a (eO 0 [v0, v1, v2, v3, .int x, v5])) (va_up_self _ _ _) (fun b hb => va_up_ne _ _ hb) p e s m args below meth c D κ hx H1 locs1 ls ?_ ?_ hS1 hl
  · rw [← pw_set (e := eO 0 [v0, v1, v2, v3, .int x, v5]) hD ha hF hq0]; exact hP1
  · rw [← pw_set (e := eO 0 [v0, v1, v2, v3, .int x, v5]) hD ha hF hq0]; exact hD1
theorem z_gf_X0_lost (hZ : ZZ = Zj l y cc nL ret R L0 post xp) {a ix : Nat} {v0 v1 v2 v3 v4 v5 : Value} (d : decode cc pc = .ok (.getfield ix, 3)) (hw : Cond.fieldLink y.cls ix "DragonRing$Accounts" "lost" "I" ∈ wsG) (ha : a ∈ L) (hF : F a = eO 0 [v0, v1, v2, v3, v4, v5]) (kk : ZZ k n (pc + 3) lv (v5 :: st) L F) : ZZ k n pc lv (.ref a :: st) L F := by
  subst hZ
  intro p e s m args below meth c D κ hx H locs ls hP hD hS hl
  obtain ⟨q0, hq0⟩ := pw_get (κ := κ) ha hF
  exact va_get hx.1 hx.2.1 (C := RX0) (T := TX0) (N := 6) (ci := 0) (ref := "DragonRing$Accounts") hx.2.2.2.2.1 inw0 hx.2.2.2.1 hx.2.2.2.2.2.1.1 hP q0 hq0 rfl 5 (by decide) (hx.2.2.2.2.1 _ hw) (fun _ h => h) rfl d (kk p e s m args below meth c D κ hx H locs ls hP hD hS hl)
theorem z_pf_X0_lost (hZ : ZZ = Zj l y cc nL ret R L0 post xp) {a ix : Nat} {v0 v1 v2 v3 v4 v5 : Value} {x : Int32} (d : decode cc pc = .ok (.putfield ix, 3)) (hw : Cond.fieldLink y.cls ix "DragonRing$Accounts" "lost" "I" ∈ wsG) (ha : a ∈ L) (hF : F a = eO 0 [v0, v1, v2, v3, v4, v5]) (kk : ∀ F1 : Nat → PE, F1 a = eO 0 [v0, v1, v2, v3, v4, .int x] → (∀ b : Nat, b ≠ a → F1 b = F b) → ZZ k n (pc + 3) lv st L F1) : ZZ k n pc lv (.int x :: .ref a :: st) L F := by
  subst hZ
  intro p e s m args below meth c D κ hx H locs ls hP hD hS hl
  obtain ⟨q0, hq0⟩ := pw_get (κ := κ) ha hF
  refine va_put (v := .int x) (ty := .int) hx.1 hx.2.1 (C := RX0) (T := TX0) (N := 6) (ci := 0) (ref := "DragonRing$Accounts") hx.2.2.2.2.1 inw0 tyX0 tyX0_ok nmX0 hx.2.2.2.1 hx.2.2.2.2.2.1.1 hP hD hS q0 hq0 rfl 5 (by decide) (hx.2.2.2.2.1 _ hw) (fun _ h => h) rfl (by decide +kernel) rfl rfl (Nat.le_of_ble_eq_true rfl) d (fun H1 locs1 hP1 hD1 hS1 => ?_)
  refine kk (va_up F a (eO 0 [v0, v1, v2, v3, v4, .int x])) (va_up_self _ _ _) (fun b hb => va_up_ne _ _ hb) p e s m args below meth c D κ hx H1 locs1 ls ?_ ?_ hS1 hl
  · rw [← pw_set (e := eO 0 [v0, v1, v2, v3, v4, .int x]) hD ha hF hq0]; exact hP1
  · rw [← pw_set (e := eO 0 [v0, v1, v2, v3, v4, .int x]) hD ha hF hq0]; exact hD1
theorem z_gf_X2_rows (hZ : ZZ = Zj l y cc nL ret R L0 post xp) {a ix : Nat} {v0 v1 v2 : Value} (d : decode cc pc = .ok (.getfield ix, 3)) (hw : Cond.fieldLink y.cls ix "DragonRing$History" "rows" "[LDragonRing$State;" ∈ wsG) (ha : a ∈ L) (hF : F a = eO 2 [v0, v1, v2]) (kk : ZZ k n (pc + 3) lv (v0 :: st) L F) : ZZ k n pc lv (.ref a :: st) L F := by
  subst hZ
  intro p e s m args below meth c D κ hx H locs ls hP hD hS hl
  obtain ⟨q0, hq0⟩ := pw_get (κ := κ) ha hF
  exact va_get hx.1 hx.2.1 (C := RX2) (T := TX2) (N := 3) (ci := 2) (ref := "DragonRing$History") hx.2.2.2.2.1 inw2 hx.2.2.2.1 hx.2.2.2.2.2.1.1 hP q0 hq0 rfl 0 (by decide) (hx.2.2.2.2.1 _ hw) (fun _ h => h) rfl d (kk p e s m args below meth c D κ hx H locs ls hP hD hS hl)
theorem z_pf_X2_rows (hZ : ZZ = Zj l y cc nL ret R L0 post xp) {a ix : Nat} {v0 v1 v2 : Value} {x : Nat} (d : decode cc pc = .ok (.putfield ix, 3)) (hw : Cond.fieldLink y.cls ix "DragonRing$History" "rows" "[LDragonRing$State;" ∈ wsG) (hyc : y.cls = RX2) (hyn : y.name = "<init>") (ha : a ∈ L) (hF : F a = eO 2 [v0, v1, v2]) (kk : ∀ F1 : Nat → PE, F1 a = eO 2 [.ref x, v1, v2] → (∀ b : Nat, b ≠ a → F1 b = F b) → ZZ k n (pc + 3) lv st L F1) : ZZ k n pc lv (.ref x :: .ref a :: st) L F := by
  subst hZ
  intro p e s m args below meth c D κ hx H locs ls hP hD hS hl
  obtain ⟨q0, hq0⟩ := pw_get (κ := κ) ha hF
  refine va_putF (v := .ref x) (ty := .array (.object "DragonRing$State")) hx.1 hx.2.1 (C := RX2) (T := TX2) (N := 3) (ci := 2) (ref := "DragonRing$History") hx.2.2.2.2.1 inw2 tyX2 tyX2_ok nmX2 hx.2.2.2.1 hx.2.2.2.2.2.1.1 hP hD hS q0 hq0 rfl 0 (by decide) (hx.2.2.2.2.1 _ hw) (fun _ h => h) rfl (hx.2.2.2.2.2.2.2.2.2.trans hyn) hyc.symm (by decide +kernel) rfl rfl (Nat.le_of_ble_eq_true rfl) d (fun H1 locs1 hP1 hD1 hS1 => ?_)
  refine kk (va_up F a (eO 2 [.ref x, v1, v2])) (va_up_self _ _ _) (fun b hb => va_up_ne _ _ hb) p e s m args below meth c D κ hx H1 locs1 ls ?_ ?_ hS1 hl
  · rw [← pw_set (e := eO 2 [.ref x, v1, v2]) hD ha hF hq0]; exact hP1
  · rw [← pw_set (e := eO 2 [.ref x, v1, v2]) hD ha hF hq0]; exact hD1
theorem z_gf_X2_first (hZ : ZZ = Zj l y cc nL ret R L0 post xp) {a ix : Nat} {v0 v1 v2 : Value} (d : decode cc pc = .ok (.getfield ix, 3)) (hw : Cond.fieldLink y.cls ix "DragonRing$History" "first" "I" ∈ wsG) (ha : a ∈ L) (hF : F a = eO 2 [v0, v1, v2]) (kk : ZZ k n (pc + 3) lv (v1 :: st) L F) : ZZ k n pc lv (.ref a :: st) L F := by
  subst hZ
  intro p e s m args below meth c D κ hx H locs ls hP hD hS hl
  obtain ⟨q0, hq0⟩ := pw_get (κ := κ) ha hF
  exact va_get hx.1 hx.2.1 (C := RX2) (T := TX2) (N := 3) (ci := 2) (ref := "DragonRing$History") hx.2.2.2.2.1 inw2 hx.2.2.2.1 hx.2.2.2.2.2.1.1 hP q0 hq0 rfl 1 (by decide) (hx.2.2.2.2.1 _ hw) (fun _ h => h) rfl d (kk p e s m args below meth c D κ hx H locs ls hP hD hS hl)
theorem z_pf_X2_first (hZ : ZZ = Zj l y cc nL ret R L0 post xp) {a ix : Nat} {v0 v1 v2 : Value} {x : Int32} (d : decode cc pc = .ok (.putfield ix, 3)) (hw : Cond.fieldLink y.cls ix "DragonRing$History" "first" "I" ∈ wsG) (ha : a ∈ L) (hF : F a = eO 2 [v0, v1, v2]) (kk : ∀ F1 : Nat → PE, F1 a = eO 2 [v0, .int x, v2] → (∀ b : Nat, b ≠ a → F1 b = F b) → ZZ k n (pc + 3) lv st L F1) : ZZ k n pc lv (.int x :: .ref a :: st) L F := by
  subst hZ
  intro p e s m args below meth c D κ hx H locs ls hP hD hS hl
  obtain ⟨q0, hq0⟩ := pw_get (κ := κ) ha hF
  refine va_put (v := .int x) (ty := .int) hx.1 hx.2.1 (C := RX2) (T := TX2) (N := 3) (ci := 2) (ref := "DragonRing$History") hx.2.2.2.2.1 inw2 tyX2 tyX2_ok nmX2 hx.2.2.2.1 hx.2.2.2.2.2.1.1 hP hD hS q0 hq0 rfl 1 (by decide) (hx.2.2.2.2.1 _ hw) (fun _ h => h) rfl (by decide +kernel) rfl rfl (Nat.le_of_ble_eq_true rfl) d (fun H1 locs1 hP1 hD1 hS1 => ?_)
  refine kk (va_up F a (eO 2 [v0, .int x, v2])) (va_up_self _ _ _) (fun b hb => va_up_ne _ _ hb) p e s m args below meth c D κ hx H1 locs1 ls ?_ ?_ hS1 hl
  · rw [← pw_set (e := eO 2 [v0, .int x, v2]) hD ha hF hq0]; exact hP1
  · rw [← pw_set (e := eO 2 [v0, .int x, v2]) hD ha hF hq0]; exact hD1
theorem z_gf_X2_saved (hZ : ZZ = Zj l y cc nL ret R L0 post xp) {a ix : Nat} {v0 v1 v2 : Value} (d : decode cc pc = .ok (.getfield ix, 3)) (hw : Cond.fieldLink y.cls ix "DragonRing$History" "saved" "I" ∈ wsG) (ha : a ∈ L) (hF : F a = eO 2 [v0, v1, v2]) (kk : ZZ k n (pc + 3) lv (v2 :: st) L F) : ZZ k n pc lv (.ref a :: st) L F := by
  subst hZ
  intro p e s m args below meth c D κ hx H locs ls hP hD hS hl
  obtain ⟨q0, hq0⟩ := pw_get (κ := κ) ha hF
  exact va_get hx.1 hx.2.1 (C := RX2) (T := TX2) (N := 3) (ci := 2) (ref := "DragonRing$History") hx.2.2.2.2.1 inw2 hx.2.2.2.1 hx.2.2.2.2.2.1.1 hP q0 hq0 rfl 2 (by decide) (hx.2.2.2.2.1 _ hw) (fun _ h => h) rfl d (kk p e s m args below meth c D κ hx H locs ls hP hD hS hl)
theorem z_pf_X2_saved (hZ : ZZ = Zj l y cc nL ret R L0 post xp) {a ix : Nat} {v0 v1 v2 : Value} {x : Int32} (d : decode cc pc = .ok (.putfield ix, 3)) (hw : Cond.fieldLink y.cls ix "DragonRing$History" "saved" "I" ∈ wsG) (ha : a ∈ L) (hF : F a = eO 2 [v0, v1, v2]) (kk : ∀ F1 : Nat → PE, F1 a = eO 2 [v0, v1, .int x] → (∀ b : Nat, b ≠ a → F1 b = F b) → ZZ k n (pc + 3) lv st L F1) : ZZ k n pc lv (.int x :: .ref a :: st) L F := by
  subst hZ
  intro p e s m args below meth c D κ hx H locs ls hP hD hS hl
  obtain ⟨q0, hq0⟩ := pw_get (κ := κ) ha hF
  refine va_put (v := .int x) (ty := .int) hx.1 hx.2.1 (C := RX2) (T := TX2) (N := 3) (ci := 2) (ref := "DragonRing$History") hx.2.2.2.2.1 inw2 tyX2 tyX2_ok nmX2 hx.2.2.2.1 hx.2.2.2.2.2.1.1 hP hD hS q0 hq0 rfl 2 (by decide) (hx.2.2.2.2.1 _ hw) (fun _ h => h) rfl (by decide +kernel) rfl rfl (Nat.le_of_ble_eq_true rfl) d (fun H1 locs1 hP1 hD1 hS1 => ?_)
  refine kk (va_up F a (eO 2 [v0, v1, .int x])) (va_up_self _ _ _) (fun b hb => va_up_ne _ _ hb) p e s m args below meth c D κ hx H1 locs1 ls ?_ ?_ hS1 hl
  · rw [← pw_set (e := eO 2 [v0, v1, .int x]) hD ha hF hq0]; exact hP1
  · rw [← pw_set (e := eO 2 [v0, v1, .int x]) hD ha hF hq0]; exact hD1
theorem z_gf_X3_rows (hZ : ZZ = Zj l y cc nL ret R L0 post xp) {a ix : Nat} {v0 v1 v2 v3 v4 : Value} (d : decode cc pc = .ok (.getfield ix, 3)) (hw : Cond.fieldLink y.cls ix "DragonRing$Ring" "rows" "[LDragonRing$Text;" ∈ wsG) (ha : a ∈ L) (hF : F a = eO 3 [v0, v1, v2, v3, v4]) (kk : ZZ k n (pc + 3) lv (v0 :: st) L F) : ZZ k n pc lv (.ref a :: st) L F := by
  subst hZ
  intro p e s m args below meth c D κ hx H locs ls hP hD hS hl
  obtain ⟨q0, hq0⟩ := pw_get (κ := κ) ha hF
  exact va_get hx.1 hx.2.1 (C := RX3) (T := TX3) (N := 5) (ci := 3) (ref := "DragonRing$Ring") hx.2.2.2.2.1 inw3 hx.2.2.2.1 hx.2.2.2.2.2.1.1 hP q0 hq0 rfl 0 (by decide) (hx.2.2.2.2.1 _ hw) (fun _ h => h) rfl d (kk p e s m args below meth c D κ hx H locs ls hP hD hS hl)
theorem z_pf_X3_rows (hZ : ZZ = Zj l y cc nL ret R L0 post xp) {a ix : Nat} {v0 v1 v2 v3 v4 : Value} {x : Nat} (d : decode cc pc = .ok (.putfield ix, 3)) (hw : Cond.fieldLink y.cls ix "DragonRing$Ring" "rows" "[LDragonRing$Text;" ∈ wsG) (hyc : y.cls = RX3) (hyn : y.name = "<init>") (ha : a ∈ L) (hF : F a = eO 3 [v0, v1, v2, v3, v4]) (kk : ∀ F1 : Nat → PE, F1 a = eO 3 [.ref x, v1, v2, v3, v4] → (∀ b : Nat, b ≠ a → F1 b = F b) → ZZ k n (pc + 3) lv st L F1) : ZZ k n pc lv (.ref x :: .ref a :: st) L F := by
  subst hZ
  intro p e s m args below meth c D κ hx H locs ls hP hD hS hl
  obtain ⟨q0, hq0⟩ := pw_get (κ := κ) ha hF
  refine va_putF (v := .ref x) (ty := .array (.object "DragonRing$Text")) hx.1 hx.2.1 (C := RX3) (T := TX3) (N := 5) (ci := 3) (ref := "DragonRing$Ring") hx.2.2.2.2.1 inw3 tyX3 tyX3_ok nmX3 hx.2.2.2.1 hx.2.2.2.2.2.1.1 hP hD hS q0 hq0 rfl 0 (by decide) (hx.2.2.2.2.1 _ hw) (fun _ h => h) rfl (hx.2.2.2.2.2.2.2.2.2.trans hyn) hyc.symm (by decide +kernel) rfl rfl (Nat.le_of_ble_eq_true rfl) d (fun H1 locs1 hP1 hD1 hS1 => ?_)
  refine kk (va_up F a (eO 3 [.ref x, v1, v2, v3, v4])) (va_up_self _ _ _) (fun b hb => va_up_ne _ _ hb) p e s m args below meth c D κ hx H1 locs1 ls ?_ ?_ hS1 hl
  · rw [← pw_set (e := eO 3 [.ref x, v1, v2, v3, v4]) hD ha hF hq0]; exact hP1
  · rw [← pw_set (e := eO 3 [.ref x, v1, v2, v3, v4]) hD ha hF hq0]; exact hD1
theorem z_gf_X3_noHoard (hZ : ZZ = Zj l y cc nL ret R L0 post xp) {a ix : Nat} {v0 v1 v2 v3 v4 : Value} (d : decode cc pc = .ok (.getfield ix, 3)) (hw : Cond.fieldLink y.cls ix "DragonRing$Ring" "noHoard" "LDragonRing$Text;" ∈ wsG) (ha : a ∈ L) (hF : F a = eO 3 [v0, v1, v2, v3, v4]) (kk : ZZ k n (pc + 3) lv (v1 :: st) L F) : ZZ k n pc lv (.ref a :: st) L F := by
  subst hZ
  intro p e s m args below meth c D κ hx H locs ls hP hD hS hl
  obtain ⟨q0, hq0⟩ := pw_get (κ := κ) ha hF
  exact va_get hx.1 hx.2.1 (C := RX3) (T := TX3) (N := 5) (ci := 3) (ref := "DragonRing$Ring") hx.2.2.2.2.1 inw3 hx.2.2.2.1 hx.2.2.2.2.2.1.1 hP q0 hq0 rfl 1 (by decide) (hx.2.2.2.2.1 _ hw) (fun _ h => h) rfl d (kk p e s m args below meth c D κ hx H locs ls hP hD hS hl)
theorem z_pf_X3_noHoard (hZ : ZZ = Zj l y cc nL ret R L0 post xp) {a ix : Nat} {v0 v1 v2 v3 v4 : Value} {x : Nat} (d : decode cc pc = .ok (.putfield ix, 3)) (hw : Cond.fieldLink y.cls ix "DragonRing$Ring" "noHoard" "LDragonRing$Text;" ∈ wsG) (hyc : y.cls = RX3) (hyn : y.name = "<init>") (ha : a ∈ L) (hF : F a = eO 3 [v0, v1, v2, v3, v4]) (kk : ∀ F1 : Nat → PE, F1 a = eO 3 [v0, .ref x, v2, v3, v4] → (∀ b : Nat, b ≠ a → F1 b = F b) → ZZ k n (pc + 3) lv st L F1) : ZZ k n pc lv (.ref x :: .ref a :: st) L F := by
  subst hZ
  intro p e s m args below meth c D κ hx H locs ls hP hD hS hl
  obtain ⟨q0, hq0⟩ := pw_get (κ := κ) ha hF
  refine va_putF (v := .ref x) (ty := .object "DragonRing$Text") hx.1 hx.2.1 (C := RX3) (T := TX3) (N := 5) (ci := 3) (ref := "DragonRing$Ring") hx.2.2.2.2.1 inw3 tyX3 tyX3_ok nmX3 hx.2.2.2.1 hx.2.2.2.2.2.1.1 hP hD hS q0 hq0 rfl 1 (by decide) (hx.2.2.2.2.1 _ hw) (fun _ h => h) rfl (hx.2.2.2.2.2.2.2.2.2.trans hyn) hyc.symm (by decide +kernel) rfl rfl (Nat.le_of_ble_eq_true rfl) d (fun H1 locs1 hP1 hD1 hS1 => ?_)
  refine kk (va_up F a (eO 3 [v0, .ref x, v2, v3, v4])) (va_up_self _ _ _) (fun b hb => va_up_ne _ _ hb) p e s m args below meth c D κ hx H1 locs1 ls ?_ ?_ hS1 hl
  · rw [← pw_set (e := eO 3 [v0, .ref x, v2, v3, v4]) hD ha hF hq0]; exact hP1
  · rw [← pw_set (e := eO 3 [v0, .ref x, v2, v3, v4]) hD ha hF hq0]; exact hD1
theorem z_gf_X3_count (hZ : ZZ = Zj l y cc nL ret R L0 post xp) {a ix : Nat} {v0 v1 v2 v3 v4 : Value} (d : decode cc pc = .ok (.getfield ix, 3)) (hw : Cond.fieldLink y.cls ix "DragonRing$Ring" "count" "I" ∈ wsG) (ha : a ∈ L) (hF : F a = eO 3 [v0, v1, v2, v3, v4]) (kk : ZZ k n (pc + 3) lv (v2 :: st) L F) : ZZ k n pc lv (.ref a :: st) L F := by
  subst hZ
  intro p e s m args below meth c D κ hx H locs ls hP hD hS hl
  obtain ⟨q0, hq0⟩ := pw_get (κ := κ) ha hF
  exact va_get hx.1 hx.2.1 (C := RX3) (T := TX3) (N := 5) (ci := 3) (ref := "DragonRing$Ring") hx.2.2.2.2.1 inw3 hx.2.2.2.1 hx.2.2.2.2.2.1.1 hP q0 hq0 rfl 2 (by decide) (hx.2.2.2.2.1 _ hw) (fun _ h => h) rfl d (kk p e s m args below meth c D κ hx H locs ls hP hD hS hl)
theorem z_pf_X3_count (hZ : ZZ = Zj l y cc nL ret R L0 post xp) {a ix : Nat} {v0 v1 v2 v3 v4 : Value} {x : Int32} (d : decode cc pc = .ok (.putfield ix, 3)) (hw : Cond.fieldLink y.cls ix "DragonRing$Ring" "count" "I" ∈ wsG) (ha : a ∈ L) (hF : F a = eO 3 [v0, v1, v2, v3, v4]) (kk : ∀ F1 : Nat → PE, F1 a = eO 3 [v0, v1, .int x, v3, v4] → (∀ b : Nat, b ≠ a → F1 b = F b) → ZZ k n (pc + 3) lv st L F1) : ZZ k n pc lv (.int x :: .ref a :: st) L F := by
  subst hZ
  intro p e s m args below meth c D κ hx H locs ls hP hD hS hl
  obtain ⟨q0, hq0⟩ := pw_get (κ := κ) ha hF
  refine va_put (v := .int x) (ty := .int) hx.1 hx.2.1 (C := RX3) (T := TX3) (N := 5) (ci := 3) (ref := "DragonRing$Ring") hx.2.2.2.2.1 inw3 tyX3 tyX3_ok nmX3 hx.2.2.2.1 hx.2.2.2.2.2.1.1 hP hD hS q0 hq0 rfl 2 (by decide) (hx.2.2.2.2.1 _ hw) (fun _ h => h) rfl (by decide +kernel) rfl rfl (Nat.le_of_ble_eq_true rfl) d (fun H1 locs1 hP1 hD1 hS1 => ?_)
  refine kk (va_up F a (eO 3 [v0, v1, .int x, v3, v4])) (va_up_self _ _ _) (fun b hb => va_up_ne _ _ hb) p e s m args below meth c D κ hx H1 locs1 ls ?_ ?_ hS1 hl
  · rw [← pw_set (e := eO 3 [v0, v1, .int x, v3, v4]) hD ha hF hq0]; exact hP1
  · rw [← pw_set (e := eO 3 [v0, v1, .int x, v3, v4]) hD ha hF hq0]; exact hD1
theorem z_gf_X3_caves (hZ : ZZ = Zj l y cc nL ret R L0 post xp) {a ix : Nat} {v0 v1 v2 v3 v4 : Value} (d : decode cc pc = .ok (.getfield ix, 3)) (hw : Cond.fieldLink y.cls ix "DragonRing$Ring" "caves" "I" ∈ wsG) (ha : a ∈ L) (hF : F a = eO 3 [v0, v1, v2, v3, v4]) (kk : ZZ k n (pc + 3) lv (v3 :: st) L F) : ZZ k n pc lv (.ref a :: st) L F := by
  subst hZ
  intro p e s m args below meth c D κ hx H locs ls hP hD hS hl
  obtain ⟨q0, hq0⟩ := pw_get (κ := κ) ha hF
  exact va_get hx.1 hx.2.1 (C := RX3) (T := TX3) (N := 5) (ci := 3) (ref := "DragonRing$Ring") hx.2.2.2.2.1 inw3 hx.2.2.2.1 hx.2.2.2.2.2.1.1 hP q0 hq0 rfl 3 (by decide) (hx.2.2.2.2.1 _ hw) (fun _ h => h) rfl d (kk p e s m args below meth c D κ hx H locs ls hP hD hS hl)
theorem z_pf_X3_caves (hZ : ZZ = Zj l y cc nL ret R L0 post xp) {a ix : Nat} {v0 v1 v2 v3 v4 : Value} {x : Int32} (d : decode cc pc = .ok (.putfield ix, 3)) (hw : Cond.fieldLink y.cls ix "DragonRing$Ring" "caves" "I" ∈ wsG) (ha : a ∈ L) (hF : F a = eO 3 [v0, v1, v2, v3, v4]) (kk : ∀ F1 : Nat → PE, F1 a = eO 3 [v0, v1, v2, .int x, v4] → (∀ b : Nat, b ≠ a → F1 b = F b) → ZZ k n (pc + 3) lv st L F1) : ZZ k n pc lv (.int x :: .ref a :: st) L F := by
  subst hZ
  intro p e s m args below meth c D κ hx H locs ls hP hD hS hl
  obtain ⟨q0, hq0⟩ := pw_get (κ := κ) ha hF
  refine va_put (v := .int x) (ty := .int) hx.1 hx.2.1 (C := RX3) (T := TX3) (N := 5) (ci := 3) (ref := "DragonRing$Ring") hx.2.2.2.2.1 inw3 tyX3 tyX3_ok nmX3 hx.2.2.2.1 hx.2.2.2.2.2.1.1 hP hD hS q0 hq0 rfl 3 (by decide) (hx.2.2.2.2.1 _ hw) (fun _ h => h) rfl (by decide +kernel) rfl rfl (Nat.le_of_ble_eq_true rfl) d (fun H1 locs1 hP1 hD1 hS1 => ?_)
  refine kk (va_up F a (eO 3 [v0, v1, v2, .int x, v4])) (va_up_self _ _ _) (fun b hb => va_up_ne _ _ hb) p e s m args below meth c D κ hx H1 locs1 ls ?_ ?_ hS1 hl
  · rw [← pw_set (e := eO 3 [v0, v1, v2, .int x, v4]) hD ha hF hq0]; exact hP1
  · rw [← pw_set (e := eO 3 [v0, v1, v2, .int x, v4]) hD ha hF hq0]; exact hD1
theorem z_gf_X3_next (hZ : ZZ = Zj l y cc nL ret R L0 post xp) {a ix : Nat} {v0 v1 v2 v3 v4 : Value} (d : decode cc pc = .ok (.getfield ix, 3)) (hw : Cond.fieldLink y.cls ix "DragonRing$Ring" "next" "I" ∈ wsG) (ha : a ∈ L) (hF : F a = eO 3 [v0, v1, v2, v3, v4]) (kk : ZZ k n (pc + 3) lv (v4 :: st) L F) : ZZ k n pc lv (.ref a :: st) L F := by
  subst hZ
  intro p e s m args below meth c D κ hx H locs ls hP hD hS hl
  obtain ⟨q0, hq0⟩ := pw_get (κ := κ) ha hF
  exact va_get hx.1 hx.2.1 (C := RX3) (T := TX3) (N := 5) (ci := 3) (ref := "DragonRing$Ring") hx.2.2.2.2.1 inw3 hx.2.2.2.1 hx.2.2.2.2.2.1.1 hP q0 hq0 rfl 4 (by decide) (hx.2.2.2.2.1 _ hw) (fun _ h => h) rfl d (kk p e s m args below meth c D κ hx H locs ls hP hD hS hl)
theorem z_pf_X3_next (hZ : ZZ = Zj l y cc nL ret R L0 post xp) {a ix : Nat} {v0 v1 v2 v3 v4 : Value} {x : Int32} (d : decode cc pc = .ok (.putfield ix, 3)) (hw : Cond.fieldLink y.cls ix "DragonRing$Ring" "next" "I" ∈ wsG) (ha : a ∈ L) (hF : F a = eO 3 [v0, v1, v2, v3, v4]) (kk : ∀ F1 : Nat → PE, F1 a = eO 3 [v0, v1, v2, v3, .int x] → (∀ b : Nat, b ≠ a → F1 b = F b) → ZZ k n (pc + 3) lv st L F1) : ZZ k n pc lv (.int x :: .ref a :: st) L F := by
  subst hZ
  intro p e s m args below meth c D κ hx H locs ls hP hD hS hl
  obtain ⟨q0, hq0⟩ := pw_get (κ := κ) ha hF
  refine va_put (v := .int x) (ty := .int) hx.1 hx.2.1 (C := RX3) (T := TX3) (N := 5) (ci := 3) (ref := "DragonRing$Ring") hx.2.2.2.2.1 inw3 tyX3 tyX3_ok nmX3 hx.2.2.2.1 hx.2.2.2.2.2.1.1 hP hD hS q0 hq0 rfl 4 (by decide) (hx.2.2.2.2.1 _ hw) (fun _ h => h) rfl (by decide +kernel) rfl rfl (Nat.le_of_ble_eq_true rfl) d (fun H1 locs1 hP1 hD1 hS1 => ?_)
  refine kk (va_up F a (eO 3 [v0, v1, v2, v3, .int x])) (va_up_self _ _ _) (fun b hb => va_up_ne _ _ hb) p e s m args below meth c D κ hx H1 locs1 ls ?_ ?_ hS1 hl
  · rw [← pw_set (e := eO 3 [v0, v1, v2, v3, .int x]) hD ha hF hq0]; exact hP1
  · rw [← pw_set (e := eO 3 [v0, v1, v2, v3, .int x]) hD ha hF hq0]; exact hD1
theorem z_gf_X4_text (hZ : ZZ = Zj l y cc nL ret R L0 post xp) {a ix : Nat} {v0 v1 v2 : Value} (d : decode cc pc = .ok (.getfield ix, 3)) (hw : Cond.fieldLink y.cls ix "DragonRing$Scroll" "text" "LDragonRing$Text;" ∈ wsG) (ha : a ∈ L) (hF : F a = eO 4 [v0, v1, v2]) (kk : ZZ k n (pc + 3) lv (v0 :: st) L F) : ZZ k n pc lv (.ref a :: st) L F := by
  subst hZ
  intro p e s m args below meth c D κ hx H locs ls hP hD hS hl
  obtain ⟨q0, hq0⟩ := pw_get (κ := κ) ha hF
  exact va_get hx.1 hx.2.1 (C := RX4) (T := TX4) (N := 3) (ci := 4) (ref := "DragonRing$Scroll") hx.2.2.2.2.1 inw4 hx.2.2.2.1 hx.2.2.2.2.2.1.1 hP q0 hq0 rfl 0 (by decide) (hx.2.2.2.2.1 _ hw) (fun _ h => h) rfl d (kk p e s m args below meth c D κ hx H locs ls hP hD hS hl)
theorem z_pf_X4_text (hZ : ZZ = Zj l y cc nL ret R L0 post xp) {a ix : Nat} {v0 v1 v2 : Value} {x : Nat} (d : decode cc pc = .ok (.putfield ix, 3)) (hw : Cond.fieldLink y.cls ix "DragonRing$Scroll" "text" "LDragonRing$Text;" ∈ wsG) (hyc : y.cls = RX4) (hyn : y.name = "<init>") (ha : a ∈ L) (hF : F a = eO 4 [v0, v1, v2]) (kk : ∀ F1 : Nat → PE, F1 a = eO 4 [.ref x, v1, v2] → (∀ b : Nat, b ≠ a → F1 b = F b) → ZZ k n (pc + 3) lv st L F1) : ZZ k n pc lv (.ref x :: .ref a :: st) L F := by
  subst hZ
  intro p e s m args below meth c D κ hx H locs ls hP hD hS hl
  obtain ⟨q0, hq0⟩ := pw_get (κ := κ) ha hF
  refine va_putF (v := .ref x) (ty := .object "DragonRing$Text") hx.1 hx.2.1 (C := RX4) (T := TX4) (N := 3) (ci := 4) (ref := "DragonRing$Scroll") hx.2.2.2.2.1 inw4 tyX4 tyX4_ok nmX4 hx.2.2.2.1 hx.2.2.2.2.2.1.1 hP hD hS q0 hq0 rfl 0 (by decide) (hx.2.2.2.2.1 _ hw) (fun _ h => h) rfl (hx.2.2.2.2.2.2.2.2.2.trans hyn) hyc.symm (by decide +kernel) rfl rfl (Nat.le_of_ble_eq_true rfl) d (fun H1 locs1 hP1 hD1 hS1 => ?_)
  refine kk (va_up F a (eO 4 [.ref x, v1, v2])) (va_up_self _ _ _) (fun b hb => va_up_ne _ _ hb) p e s m args below meth c D κ hx H1 locs1 ls ?_ ?_ hS1 hl
  · rw [← pw_set (e := eO 4 [.ref x, v1, v2]) hD ha hF hq0]; exact hP1
  · rw [← pw_set (e := eO 4 [.ref x, v1, v2]) hD ha hF hq0]; exact hD1
theorem z_gf_X4_point (hZ : ZZ = Zj l y cc nL ret R L0 post xp) {a ix : Nat} {v0 v1 v2 : Value} (d : decode cc pc = .ok (.getfield ix, 3)) (hw : Cond.fieldLink y.cls ix "DragonRing$Scroll" "point" "I" ∈ wsG) (ha : a ∈ L) (hF : F a = eO 4 [v0, v1, v2]) (kk : ZZ k n (pc + 3) lv (v1 :: st) L F) : ZZ k n pc lv (.ref a :: st) L F := by
  subst hZ
  intro p e s m args below meth c D κ hx H locs ls hP hD hS hl
  obtain ⟨q0, hq0⟩ := pw_get (κ := κ) ha hF
  exact va_get hx.1 hx.2.1 (C := RX4) (T := TX4) (N := 3) (ci := 4) (ref := "DragonRing$Scroll") hx.2.2.2.2.1 inw4 hx.2.2.2.1 hx.2.2.2.2.2.1.1 hP q0 hq0 rfl 1 (by decide) (hx.2.2.2.2.1 _ hw) (fun _ h => h) rfl d (kk p e s m args below meth c D κ hx H locs ls hP hD hS hl)
theorem z_pf_X4_point (hZ : ZZ = Zj l y cc nL ret R L0 post xp) {a ix : Nat} {v0 v1 v2 : Value} {x : Int32} (d : decode cc pc = .ok (.putfield ix, 3)) (hw : Cond.fieldLink y.cls ix "DragonRing$Scroll" "point" "I" ∈ wsG) (ha : a ∈ L) (hF : F a = eO 4 [v0, v1, v2]) (kk : ∀ F1 : Nat → PE, F1 a = eO 4 [v0, .int x, v2] → (∀ b : Nat, b ≠ a → F1 b = F b) → ZZ k n (pc + 3) lv st L F1) : ZZ k n pc lv (.int x :: .ref a :: st) L F := by
  subst hZ
  intro p e s m args below meth c D κ hx H locs ls hP hD hS hl
  obtain ⟨q0, hq0⟩ := pw_get (κ := κ) ha hF
  refine va_put (v := .int x) (ty := .int) hx.1 hx.2.1 (C := RX4) (T := TX4) (N := 3) (ci := 4) (ref := "DragonRing$Scroll") hx.2.2.2.2.1 inw4 tyX4 tyX4_ok nmX4 hx.2.2.2.1 hx.2.2.2.2.2.1.1 hP hD hS q0 hq0 rfl 1 (by decide) (hx.2.2.2.2.1 _ hw) (fun _ h => h) rfl (by decide +kernel) rfl rfl (Nat.le_of_ble_eq_true rfl) d (fun H1 locs1 hP1 hD1 hS1 => ?_)
  refine kk (va_up F a (eO 4 [v0, .int x, v2])) (va_up_self _ _ _) (fun b hb => va_up_ne _ _ hb) p e s m args below meth c D κ hx H1 locs1 ls ?_ ?_ hS1 hl
  · rw [← pw_set (e := eO 4 [v0, .int x, v2]) hD ha hF hq0]; exact hP1
  · rw [← pw_set (e := eO 4 [v0, .int x, v2]) hD ha hF hq0]; exact hD1
theorem z_gf_X4_mark (hZ : ZZ = Zj l y cc nL ret R L0 post xp) {a ix : Nat} {v0 v1 v2 : Value} (d : decode cc pc = .ok (.getfield ix, 3)) (hw : Cond.fieldLink y.cls ix "DragonRing$Scroll" "mark" "I" ∈ wsG) (ha : a ∈ L) (hF : F a = eO 4 [v0, v1, v2]) (kk : ZZ k n (pc + 3) lv (v2 :: st) L F) : ZZ k n pc lv (.ref a :: st) L F := by
  subst hZ
  intro p e s m args below meth c D κ hx H locs ls hP hD hS hl
  obtain ⟨q0, hq0⟩ := pw_get (κ := κ) ha hF
  exact va_get hx.1 hx.2.1 (C := RX4) (T := TX4) (N := 3) (ci := 4) (ref := "DragonRing$Scroll") hx.2.2.2.2.1 inw4 hx.2.2.2.1 hx.2.2.2.2.2.1.1 hP q0 hq0 rfl 2 (by decide) (hx.2.2.2.2.1 _ hw) (fun _ h => h) rfl d (kk p e s m args below meth c D κ hx H locs ls hP hD hS hl)
theorem z_pf_X4_mark (hZ : ZZ = Zj l y cc nL ret R L0 post xp) {a ix : Nat} {v0 v1 v2 : Value} {x : Int32} (d : decode cc pc = .ok (.putfield ix, 3)) (hw : Cond.fieldLink y.cls ix "DragonRing$Scroll" "mark" "I" ∈ wsG) (ha : a ∈ L) (hF : F a = eO 4 [v0, v1, v2]) (kk : ∀ F1 : Nat → PE, F1 a = eO 4 [v0, v1, .int x] → (∀ b : Nat, b ≠ a → F1 b = F b) → ZZ k n (pc + 3) lv st L F1) : ZZ k n pc lv (.int x :: .ref a :: st) L F := by
  subst hZ
  intro p e s m args below meth c D κ hx H locs ls hP hD hS hl
  obtain ⟨q0, hq0⟩ := pw_get (κ := κ) ha hF
  refine va_put (v := .int x) (ty := .int) hx.1 hx.2.1 (C := RX4) (T := TX4) (N := 3) (ci := 4) (ref := "DragonRing$Scroll") hx.2.2.2.2.1 inw4 tyX4 tyX4_ok nmX4 hx.2.2.2.1 hx.2.2.2.2.2.1.1 hP hD hS q0 hq0 rfl 2 (by decide) (hx.2.2.2.2.1 _ hw) (fun _ h => h) rfl (by decide +kernel) rfl rfl (Nat.le_of_ble_eq_true rfl) d (fun H1 locs1 hP1 hD1 hS1 => ?_)
  refine kk (va_up F a (eO 4 [v0, v1, .int x])) (va_up_self _ _ _) (fun b hb => va_up_ne _ _ hb) p e s m args below meth c D κ hx H1 locs1 ls ?_ ?_ hS1 hl
  · rw [← pw_set (e := eO 4 [v0, v1, .int x]) hD ha hF hq0]; exact hP1
  · rw [← pw_set (e := eO 4 [v0, v1, .int x]) hD ha hF hq0]; exact hD1
theorem z_gf_X5_scroll (hZ : ZZ = Zj l y cc nL ret R L0 post xp) {a ix : Nat} {v0 v1 v2 v3 : Value} (d : decode cc pc = .ok (.getfield ix, 3)) (hw : Cond.fieldLink y.cls ix "DragonRing$State" "scroll" "LDragonRing$Scroll;" ∈ wsG) (ha : a ∈ L) (hF : F a = eO 5 [v0, v1, v2, v3]) (kk : ZZ k n (pc + 3) lv (v0 :: st) L F) : ZZ k n pc lv (.ref a :: st) L F := by
  subst hZ
  intro p e s m args below meth c D κ hx H locs ls hP hD hS hl
  obtain ⟨q0, hq0⟩ := pw_get (κ := κ) ha hF
  exact va_get hx.1 hx.2.1 (C := RX5) (T := TX5) (N := 4) (ci := 5) (ref := "DragonRing$State") hx.2.2.2.2.1 inw5 hx.2.2.2.1 hx.2.2.2.2.2.1.1 hP q0 hq0 rfl 0 (by decide) (hx.2.2.2.2.1 _ hw) (fun _ h => h) rfl d (kk p e s m args below meth c D κ hx H locs ls hP hD hS hl)
theorem z_pf_X5_scroll (hZ : ZZ = Zj l y cc nL ret R L0 post xp) {a ix : Nat} {v0 v1 v2 v3 : Value} {x : Nat} (d : decode cc pc = .ok (.putfield ix, 3)) (hw : Cond.fieldLink y.cls ix "DragonRing$State" "scroll" "LDragonRing$Scroll;" ∈ wsG) (hyc : y.cls = RX5) (hyn : y.name = "<init>") (ha : a ∈ L) (hF : F a = eO 5 [v0, v1, v2, v3]) (kk : ∀ F1 : Nat → PE, F1 a = eO 5 [.ref x, v1, v2, v3] → (∀ b : Nat, b ≠ a → F1 b = F b) → ZZ k n (pc + 3) lv st L F1) : ZZ k n pc lv (.ref x :: .ref a :: st) L F := by
  subst hZ
  intro p e s m args below meth c D κ hx H locs ls hP hD hS hl
  obtain ⟨q0, hq0⟩ := pw_get (κ := κ) ha hF
  refine va_putF (v := .ref x) (ty := .object "DragonRing$Scroll") hx.1 hx.2.1 (C := RX5) (T := TX5) (N := 4) (ci := 5) (ref := "DragonRing$State") hx.2.2.2.2.1 inw5 tyX5 tyX5_ok nmX5 hx.2.2.2.1 hx.2.2.2.2.2.1.1 hP hD hS q0 hq0 rfl 0 (by decide) (hx.2.2.2.2.1 _ hw) (fun _ h => h) rfl (hx.2.2.2.2.2.2.2.2.2.trans hyn) hyc.symm (by decide +kernel) rfl rfl (Nat.le_of_ble_eq_true rfl) d (fun H1 locs1 hP1 hD1 hS1 => ?_)
  refine kk (va_up F a (eO 5 [.ref x, v1, v2, v3])) (va_up_self _ _ _) (fun b hb => va_up_ne _ _ hb) p e s m args below meth c D κ hx H1 locs1 ls ?_ ?_ hS1 hl
  · rw [← pw_set (e := eO 5 [.ref x, v1, v2, v3]) hD ha hF hq0]; exact hP1
  · rw [← pw_set (e := eO 5 [.ref x, v1, v2, v3]) hD ha hF hq0]; exact hD1
theorem z_gf_X5_ring (hZ : ZZ = Zj l y cc nL ret R L0 post xp) {a ix : Nat} {v0 v1 v2 v3 : Value} (d : decode cc pc = .ok (.getfield ix, 3)) (hw : Cond.fieldLink y.cls ix "DragonRing$State" "ring" "LDragonRing$Ring;" ∈ wsG) (ha : a ∈ L) (hF : F a = eO 5 [v0, v1, v2, v3]) (kk : ZZ k n (pc + 3) lv (v1 :: st) L F) : ZZ k n pc lv (.ref a :: st) L F := by
  subst hZ
  intro p e s m args below meth c D κ hx H locs ls hP hD hS hl
  obtain ⟨q0, hq0⟩ := pw_get (κ := κ) ha hF
  exact va_get hx.1 hx.2.1 (C := RX5) (T := TX5) (N := 4) (ci := 5) (ref := "DragonRing$State") hx.2.2.2.2.1 inw5 hx.2.2.2.1 hx.2.2.2.2.2.1.1 hP q0 hq0 rfl 1 (by decide) (hx.2.2.2.2.1 _ hw) (fun _ h => h) rfl d (kk p e s m args below meth c D κ hx H locs ls hP hD hS hl)
theorem z_pf_X5_ring (hZ : ZZ = Zj l y cc nL ret R L0 post xp) {a ix : Nat} {v0 v1 v2 v3 : Value} {x : Nat} (d : decode cc pc = .ok (.putfield ix, 3)) (hw : Cond.fieldLink y.cls ix "DragonRing$State" "ring" "LDragonRing$Ring;" ∈ wsG) (hyc : y.cls = RX5) (hyn : y.name = "<init>") (ha : a ∈ L) (hF : F a = eO 5 [v0, v1, v2, v3]) (kk : ∀ F1 : Nat → PE, F1 a = eO 5 [v0, .ref x, v2, v3] → (∀ b : Nat, b ≠ a → F1 b = F b) → ZZ k n (pc + 3) lv st L F1) : ZZ k n pc lv (.ref x :: .ref a :: st) L F := by
  subst hZ
  intro p e s m args below meth c D κ hx H locs ls hP hD hS hl
  obtain ⟨q0, hq0⟩ := pw_get (κ := κ) ha hF
  refine va_putF (v := .ref x) (ty := .object "DragonRing$Ring") hx.1 hx.2.1 (C := RX5) (T := TX5) (N := 4) (ci := 5) (ref := "DragonRing$State") hx.2.2.2.2.1 inw5 tyX5 tyX5_ok nmX5 hx.2.2.2.1 hx.2.2.2.2.2.1.1 hP hD hS q0 hq0 rfl 1 (by decide) (hx.2.2.2.2.1 _ hw) (fun _ h => h) rfl (hx.2.2.2.2.2.2.2.2.2.trans hyn) hyc.symm (by decide +kernel) rfl rfl (Nat.le_of_ble_eq_true rfl) d (fun H1 locs1 hP1 hD1 hS1 => ?_)
  refine kk (va_up F a (eO 5 [v0, .ref x, v2, v3])) (va_up_self _ _ _) (fun b hb => va_up_ne _ _ hb) p e s m args below meth c D κ hx H1 locs1 ls ?_ ?_ hS1 hl
  · rw [← pw_set (e := eO 5 [v0, .ref x, v2, v3]) hD ha hF hq0]; exact hP1
  · rw [← pw_set (e := eO 5 [v0, .ref x, v2, v3]) hD ha hF hq0]; exact hD1
theorem z_gf_X5_accounts (hZ : ZZ = Zj l y cc nL ret R L0 post xp) {a ix : Nat} {v0 v1 v2 v3 : Value} (d : decode cc pc = .ok (.getfield ix, 3)) (hw : Cond.fieldLink y.cls ix "DragonRing$State" "accounts" "LDragonRing$Accounts;" ∈ wsG) (ha : a ∈ L) (hF : F a = eO 5 [v0, v1, v2, v3]) (kk : ZZ k n (pc + 3) lv (v2 :: st) L F) : ZZ k n pc lv (.ref a :: st) L F := by
  subst hZ
  intro p e s m args below meth c D κ hx H locs ls hP hD hS hl
  obtain ⟨q0, hq0⟩ := pw_get (κ := κ) ha hF
  exact va_get hx.1 hx.2.1 (C := RX5) (T := TX5) (N := 4) (ci := 5) (ref := "DragonRing$State") hx.2.2.2.2.1 inw5 hx.2.2.2.1 hx.2.2.2.2.2.1.1 hP q0 hq0 rfl 2 (by decide) (hx.2.2.2.2.1 _ hw) (fun _ h => h) rfl d (kk p e s m args below meth c D κ hx H locs ls hP hD hS hl)
theorem z_pf_X5_accounts (hZ : ZZ = Zj l y cc nL ret R L0 post xp) {a ix : Nat} {v0 v1 v2 v3 : Value} {x : Nat} (d : decode cc pc = .ok (.putfield ix, 3)) (hw : Cond.fieldLink y.cls ix "DragonRing$State" "accounts" "LDragonRing$Accounts;" ∈ wsG) (hyc : y.cls = RX5) (hyn : y.name = "<init>") (ha : a ∈ L) (hF : F a = eO 5 [v0, v1, v2, v3]) (kk : ∀ F1 : Nat → PE, F1 a = eO 5 [v0, v1, .ref x, v3] → (∀ b : Nat, b ≠ a → F1 b = F b) → ZZ k n (pc + 3) lv st L F1) : ZZ k n pc lv (.ref x :: .ref a :: st) L F := by
  subst hZ
  intro p e s m args below meth c D κ hx H locs ls hP hD hS hl
  obtain ⟨q0, hq0⟩ := pw_get (κ := κ) ha hF
  refine va_putF (v := .ref x) (ty := .object "DragonRing$Accounts") hx.1 hx.2.1 (C := RX5) (T := TX5) (N := 4) (ci := 5) (ref := "DragonRing$State") hx.2.2.2.2.1 inw5 tyX5 tyX5_ok nmX5 hx.2.2.2.1 hx.2.2.2.2.2.1.1 hP hD hS q0 hq0 rfl 2 (by decide) (hx.2.2.2.2.1 _ hw) (fun _ h => h) rfl (hx.2.2.2.2.2.2.2.2.2.trans hyn) hyc.symm (by decide +kernel) rfl rfl (Nat.le_of_ble_eq_true rfl) d (fun H1 locs1 hP1 hD1 hS1 => ?_)
  refine kk (va_up F a (eO 5 [v0, v1, .ref x, v3])) (va_up_self _ _ _) (fun b hb => va_up_ne _ _ hb) p e s m args below meth c D κ hx H1 locs1 ls ?_ ?_ hS1 hl
  · rw [← pw_set (e := eO 5 [v0, v1, .ref x, v3]) hD ha hF hq0]; exact hP1
  · rw [← pw_set (e := eO 5 [v0, v1, .ref x, v3]) hD ha hF hq0]; exact hD1
theorem z_gf_X5_kind (hZ : ZZ = Zj l y cc nL ret R L0 post xp) {a ix : Nat} {v0 v1 v2 v3 : Value} (d : decode cc pc = .ok (.getfield ix, 3)) (hw : Cond.fieldLink y.cls ix "DragonRing$State" "kind" "I" ∈ wsG) (ha : a ∈ L) (hF : F a = eO 5 [v0, v1, v2, v3]) (kk : ZZ k n (pc + 3) lv (v3 :: st) L F) : ZZ k n pc lv (.ref a :: st) L F := by
  subst hZ
  intro p e s m args below meth c D κ hx H locs ls hP hD hS hl
  obtain ⟨q0, hq0⟩ := pw_get (κ := κ) ha hF
  exact va_get hx.1 hx.2.1 (C := RX5) (T := TX5) (N := 4) (ci := 5) (ref := "DragonRing$State") hx.2.2.2.2.1 inw5 hx.2.2.2.1 hx.2.2.2.2.2.1.1 hP q0 hq0 rfl 3 (by decide) (hx.2.2.2.2.1 _ hw) (fun _ h => h) rfl d (kk p e s m args below meth c D κ hx H locs ls hP hD hS hl)
theorem z_pf_X5_kind (hZ : ZZ = Zj l y cc nL ret R L0 post xp) {a ix : Nat} {v0 v1 v2 v3 : Value} {x : Int32} (d : decode cc pc = .ok (.putfield ix, 3)) (hw : Cond.fieldLink y.cls ix "DragonRing$State" "kind" "I" ∈ wsG) (ha : a ∈ L) (hF : F a = eO 5 [v0, v1, v2, v3]) (kk : ∀ F1 : Nat → PE, F1 a = eO 5 [v0, v1, v2, .int x] → (∀ b : Nat, b ≠ a → F1 b = F b) → ZZ k n (pc + 3) lv st L F1) : ZZ k n pc lv (.int x :: .ref a :: st) L F := by
  subst hZ
  intro p e s m args below meth c D κ hx H locs ls hP hD hS hl
  obtain ⟨q0, hq0⟩ := pw_get (κ := κ) ha hF
  refine va_put (v := .int x) (ty := .int) hx.1 hx.2.1 (C := RX5) (T := TX5) (N := 4) (ci := 5) (ref := "DragonRing$State") hx.2.2.2.2.1 inw5 tyX5 tyX5_ok nmX5 hx.2.2.2.1 hx.2.2.2.2.2.1.1 hP hD hS q0 hq0 rfl 3 (by decide) (hx.2.2.2.2.1 _ hw) (fun _ h => h) rfl (by decide +kernel) rfl rfl (Nat.le_of_ble_eq_true rfl) d (fun H1 locs1 hP1 hD1 hS1 => ?_)
  refine kk (va_up F a (eO 5 [v0, v1, v2, .int x])) (va_up_self _ _ _) (fun b hb => va_up_ne _ _ hb) p e s m args below meth c D κ hx H1 locs1 ls ?_ ?_ hS1 hl
  · rw [← pw_set (e := eO 5 [v0, v1, v2, .int x]) hD ha hF hq0]; exact hP1
  · rw [← pw_set (e := eO 5 [v0, v1, v2, .int x]) hD ha hF hq0]; exact hD1
theorem z_gf_X6_codes (hZ : ZZ = Zj l y cc nL ret R L0 post xp) {a ix : Nat} {v0 v1 : Value} (d : decode cc pc = .ok (.getfield ix, 3)) (hw : Cond.fieldLink y.cls ix "DragonRing$Text" "codes" "[I" ∈ wsG) (ha : a ∈ L) (hF : F a = eO 6 [v0, v1]) (kk : ZZ k n (pc + 3) lv (v0 :: st) L F) : ZZ k n pc lv (.ref a :: st) L F := by
  subst hZ
  intro p e s m args below meth c D κ hx H locs ls hP hD hS hl
  obtain ⟨q0, hq0⟩ := pw_get (κ := κ) ha hF
  exact va_get hx.1 hx.2.1 (C := RX6) (T := TX6) (N := 2) (ci := 6) (ref := "DragonRing$Text") hx.2.2.2.2.1 inw6 hx.2.2.2.1 hx.2.2.2.2.2.1.1 hP q0 hq0 rfl 0 (by decide) (hx.2.2.2.2.1 _ hw) (fun _ h => h) rfl d (kk p e s m args below meth c D κ hx H locs ls hP hD hS hl)
theorem z_pf_X6_codes (hZ : ZZ = Zj l y cc nL ret R L0 post xp) {a ix : Nat} {v0 v1 : Value} {x : Nat} (d : decode cc pc = .ok (.putfield ix, 3)) (hw : Cond.fieldLink y.cls ix "DragonRing$Text" "codes" "[I" ∈ wsG) (hyc : y.cls = RX6) (hyn : y.name = "<init>") (ha : a ∈ L) (hF : F a = eO 6 [v0, v1]) (kk : ∀ F1 : Nat → PE, F1 a = eO 6 [.ref x, v1] → (∀ b : Nat, b ≠ a → F1 b = F b) → ZZ k n (pc + 3) lv st L F1) : ZZ k n pc lv (.ref x :: .ref a :: st) L F := by
  subst hZ
  intro p e s m args below meth c D κ hx H locs ls hP hD hS hl
  obtain ⟨q0, hq0⟩ := pw_get (κ := κ) ha hF
  refine va_putF (v := .ref x) (ty := .array .int) hx.1 hx.2.1 (C := RX6) (T := TX6) (N := 2) (ci := 6) (ref := "DragonRing$Text") hx.2.2.2.2.1 inw6 tyX6 tyX6_ok nmX6 hx.2.2.2.1 hx.2.2.2.2.2.1.1 hP hD hS q0 hq0 rfl 0 (by decide) (hx.2.2.2.2.1 _ hw) (fun _ h => h) rfl (hx.2.2.2.2.2.2.2.2.2.trans hyn) hyc.symm (by decide +kernel) rfl rfl (Nat.le_of_ble_eq_true rfl) d (fun H1 locs1 hP1 hD1 hS1 => ?_)
  refine kk (va_up F a (eO 6 [.ref x, v1])) (va_up_self _ _ _) (fun b hb => va_up_ne _ _ hb) p e s m args below meth c D κ hx H1 locs1 ls ?_ ?_ hS1 hl
  · rw [← pw_set (e := eO 6 [.ref x, v1]) hD ha hF hq0]; exact hP1
  · rw [← pw_set (e := eO 6 [.ref x, v1]) hD ha hF hq0]; exact hD1
theorem z_gf_X6_count (hZ : ZZ = Zj l y cc nL ret R L0 post xp) {a ix : Nat} {v0 v1 : Value} (d : decode cc pc = .ok (.getfield ix, 3)) (hw : Cond.fieldLink y.cls ix "DragonRing$Text" "count" "I" ∈ wsG) (ha : a ∈ L) (hF : F a = eO 6 [v0, v1]) (kk : ZZ k n (pc + 3) lv (v1 :: st) L F) : ZZ k n pc lv (.ref a :: st) L F := by
  subst hZ
  intro p e s m args below meth c D κ hx H locs ls hP hD hS hl
  obtain ⟨q0, hq0⟩ := pw_get (κ := κ) ha hF
  exact va_get hx.1 hx.2.1 (C := RX6) (T := TX6) (N := 2) (ci := 6) (ref := "DragonRing$Text") hx.2.2.2.2.1 inw6 hx.2.2.2.1 hx.2.2.2.2.2.1.1 hP q0 hq0 rfl 1 (by decide) (hx.2.2.2.2.1 _ hw) (fun _ h => h) rfl d (kk p e s m args below meth c D κ hx H locs ls hP hD hS hl)
theorem z_pf_X6_count (hZ : ZZ = Zj l y cc nL ret R L0 post xp) {a ix : Nat} {v0 v1 : Value} {x : Int32} (d : decode cc pc = .ok (.putfield ix, 3)) (hw : Cond.fieldLink y.cls ix "DragonRing$Text" "count" "I" ∈ wsG) (ha : a ∈ L) (hF : F a = eO 6 [v0, v1]) (kk : ∀ F1 : Nat → PE, F1 a = eO 6 [v0, .int x] → (∀ b : Nat, b ≠ a → F1 b = F b) → ZZ k n (pc + 3) lv st L F1) : ZZ k n pc lv (.int x :: .ref a :: st) L F := by
  subst hZ
  intro p e s m args below meth c D κ hx H locs ls hP hD hS hl
  obtain ⟨q0, hq0⟩ := pw_get (κ := κ) ha hF
  refine va_put (v := .int x) (ty := .int) hx.1 hx.2.1 (C := RX6) (T := TX6) (N := 2) (ci := 6) (ref := "DragonRing$Text") hx.2.2.2.2.1 inw6 tyX6 tyX6_ok nmX6 hx.2.2.2.1 hx.2.2.2.2.2.1.1 hP hD hS q0 hq0 rfl 1 (by decide) (hx.2.2.2.2.1 _ hw) (fun _ h => h) rfl (by decide +kernel) rfl rfl (Nat.le_of_ble_eq_true rfl) d (fun H1 locs1 hP1 hD1 hS1 => ?_)
  refine kk (va_up F a (eO 6 [v0, .int x])) (va_up_self _ _ _) (fun b hb => va_up_ne _ _ hb) p e s m args below meth c D κ hx H1 locs1 ls ?_ ?_ hS1 hl
  · rw [← pw_set (e := eO 6 [v0, .int x]) hD ha hF hq0]; exact hP1
  · rw [← pw_set (e := eO 6 [v0, .int x]) hD ha hF hq0]; exact hD1
theorem z_gf_X7_now (hZ : ZZ = Zj l y cc nL ret R L0 post xp) {a ix : Nat} {v0 v1 v2 v3 v4 : Value} (d : decode cc pc = .ok (.getfield ix, 3)) (hw : Cond.fieldLink y.cls ix "DragonRing" "now" "LDragonRing$State;" ∈ wsG) (ha : a ∈ L) (hF : F a = eO 7 [v0, v1, v2, v3, v4]) (kk : ZZ k n (pc + 3) lv (v0 :: st) L F) : ZZ k n pc lv (.ref a :: st) L F := by
  subst hZ
  intro p e s m args below meth c D κ hx H locs ls hP hD hS hl
  obtain ⟨q0, hq0⟩ := pw_get (κ := κ) ha hF
  exact va_get hx.1 hx.2.1 (C := RX7) (T := TX7) (N := 5) (ci := 7) (ref := "DragonRing") hx.2.2.2.2.1 inw7 hx.2.2.2.1 hx.2.2.2.2.2.1.1 hP q0 hq0 rfl 0 (by decide) (hx.2.2.2.2.1 _ hw) (fun _ h => h) rfl d (kk p e s m args below meth c D κ hx H locs ls hP hD hS hl)
theorem z_pf_X7_now (hZ : ZZ = Zj l y cc nL ret R L0 post xp) {a ix : Nat} {v0 v1 v2 v3 v4 : Value} {x : Nat} (d : decode cc pc = .ok (.putfield ix, 3)) (hw : Cond.fieldLink y.cls ix "DragonRing" "now" "LDragonRing$State;" ∈ wsG) (hyc : y.cls = RX7) (hyn : y.name = "<init>") (ha : a ∈ L) (hF : F a = eO 7 [v0, v1, v2, v3, v4]) (kk : ∀ F1 : Nat → PE, F1 a = eO 7 [.ref x, v1, v2, v3, v4] → (∀ b : Nat, b ≠ a → F1 b = F b) → ZZ k n (pc + 3) lv st L F1) : ZZ k n pc lv (.ref x :: .ref a :: st) L F := by
  subst hZ
  intro p e s m args below meth c D κ hx H locs ls hP hD hS hl
  obtain ⟨q0, hq0⟩ := pw_get (κ := κ) ha hF
  refine va_putF (v := .ref x) (ty := .object "DragonRing$State") hx.1 hx.2.1 (C := RX7) (T := TX7) (N := 5) (ci := 7) (ref := "DragonRing") hx.2.2.2.2.1 inw7 tyX7 tyX7_ok nmX7 hx.2.2.2.1 hx.2.2.2.2.2.1.1 hP hD hS q0 hq0 rfl 0 (by decide) (hx.2.2.2.2.1 _ hw) (fun _ h => h) rfl (hx.2.2.2.2.2.2.2.2.2.trans hyn) hyc.symm (by decide +kernel) rfl rfl (Nat.le_of_ble_eq_true rfl) d (fun H1 locs1 hP1 hD1 hS1 => ?_)
  refine kk (va_up F a (eO 7 [.ref x, v1, v2, v3, v4])) (va_up_self _ _ _) (fun b hb => va_up_ne _ _ hb) p e s m args below meth c D κ hx H1 locs1 ls ?_ ?_ hS1 hl
  · rw [← pw_set (e := eO 7 [.ref x, v1, v2, v3, v4]) hD ha hF hq0]; exact hP1
  · rw [← pw_set (e := eO 7 [.ref x, v1, v2, v3, v4]) hD ha hF hq0]; exact hD1
theorem z_gf_X7_history (hZ : ZZ = Zj l y cc nL ret R L0 post xp) {a ix : Nat} {v0 v1 v2 v3 v4 : Value} (d : decode cc pc = .ok (.getfield ix, 3)) (hw : Cond.fieldLink y.cls ix "DragonRing" "history" "LDragonRing$History;" ∈ wsG) (ha : a ∈ L) (hF : F a = eO 7 [v0, v1, v2, v3, v4]) (kk : ZZ k n (pc + 3) lv (v1 :: st) L F) : ZZ k n pc lv (.ref a :: st) L F := by
  subst hZ
  intro p e s m args below meth c D κ hx H locs ls hP hD hS hl
  obtain ⟨q0, hq0⟩ := pw_get (κ := κ) ha hF
  exact va_get hx.1 hx.2.1 (C := RX7) (T := TX7) (N := 5) (ci := 7) (ref := "DragonRing") hx.2.2.2.2.1 inw7 hx.2.2.2.1 hx.2.2.2.2.2.1.1 hP q0 hq0 rfl 1 (by decide) (hx.2.2.2.2.1 _ hw) (fun _ h => h) rfl d (kk p e s m args below meth c D κ hx H locs ls hP hD hS hl)
theorem z_pf_X7_history (hZ : ZZ = Zj l y cc nL ret R L0 post xp) {a ix : Nat} {v0 v1 v2 v3 v4 : Value} {x : Nat} (d : decode cc pc = .ok (.putfield ix, 3)) (hw : Cond.fieldLink y.cls ix "DragonRing" "history" "LDragonRing$History;" ∈ wsG) (hyc : y.cls = RX7) (hyn : y.name = "<init>") (ha : a ∈ L) (hF : F a = eO 7 [v0, v1, v2, v3, v4]) (kk : ∀ F1 : Nat → PE, F1 a = eO 7 [v0, .ref x, v2, v3, v4] → (∀ b : Nat, b ≠ a → F1 b = F b) → ZZ k n (pc + 3) lv st L F1) : ZZ k n pc lv (.ref x :: .ref a :: st) L F := by
  subst hZ
  intro p e s m args below meth c D κ hx H locs ls hP hD hS hl
  obtain ⟨q0, hq0⟩ := pw_get (κ := κ) ha hF
  refine va_putF (v := .ref x) (ty := .object "DragonRing$History") hx.1 hx.2.1 (C := RX7) (T := TX7) (N := 5) (ci := 7) (ref := "DragonRing") hx.2.2.2.2.1 inw7 tyX7 tyX7_ok nmX7 hx.2.2.2.1 hx.2.2.2.2.2.1.1 hP hD hS q0 hq0 rfl 1 (by decide) (hx.2.2.2.2.1 _ hw) (fun _ h => h) rfl (hx.2.2.2.2.2.2.2.2.2.trans hyn) hyc.symm (by decide +kernel) rfl rfl (Nat.le_of_ble_eq_true rfl) d (fun H1 locs1 hP1 hD1 hS1 => ?_)
  refine kk (va_up F a (eO 7 [v0, .ref x, v2, v3, v4])) (va_up_self _ _ _) (fun b hb => va_up_ne _ _ hb) p e s m args below meth c D κ hx H1 locs1 ls ?_ ?_ hS1 hl
  · rw [← pw_set (e := eO 7 [v0, .ref x, v2, v3, v4]) hD ha hF hq0]; exact hP1
  · rw [← pw_set (e := eO 7 [v0, .ref x, v2, v3, v4]) hD ha hF hq0]; exact hD1
theorem z_gf_X7_slots (hZ : ZZ = Zj l y cc nL ret R L0 post xp) {a ix : Nat} {v0 v1 v2 v3 v4 : Value} (d : decode cc pc = .ok (.getfield ix, 3)) (hw : Cond.fieldLink y.cls ix "DragonRing" "slots" "[LDragonRing$State;" ∈ wsG) (ha : a ∈ L) (hF : F a = eO 7 [v0, v1, v2, v3, v4]) (kk : ZZ k n (pc + 3) lv (v2 :: st) L F) : ZZ k n pc lv (.ref a :: st) L F := by
  subst hZ
  intro p e s m args below meth c D κ hx H locs ls hP hD hS hl
  obtain ⟨q0, hq0⟩ := pw_get (κ := κ) ha hF
  exact va_get hx.1 hx.2.1 (C := RX7) (T := TX7) (N := 5) (ci := 7) (ref := "DragonRing") hx.2.2.2.2.1 inw7 hx.2.2.2.1 hx.2.2.2.2.2.1.1 hP q0 hq0 rfl 2 (by decide) (hx.2.2.2.2.1 _ hw) (fun _ h => h) rfl d (kk p e s m args below meth c D κ hx H locs ls hP hD hS hl)
theorem z_pf_X7_slots (hZ : ZZ = Zj l y cc nL ret R L0 post xp) {a ix : Nat} {v0 v1 v2 v3 v4 : Value} {x : Nat} (d : decode cc pc = .ok (.putfield ix, 3)) (hw : Cond.fieldLink y.cls ix "DragonRing" "slots" "[LDragonRing$State;" ∈ wsG) (hyc : y.cls = RX7) (hyn : y.name = "<init>") (ha : a ∈ L) (hF : F a = eO 7 [v0, v1, v2, v3, v4]) (kk : ∀ F1 : Nat → PE, F1 a = eO 7 [v0, v1, .ref x, v3, v4] → (∀ b : Nat, b ≠ a → F1 b = F b) → ZZ k n (pc + 3) lv st L F1) : ZZ k n pc lv (.ref x :: .ref a :: st) L F := by
  subst hZ
  intro p e s m args below meth c D κ hx H locs ls hP hD hS hl
  obtain ⟨q0, hq0⟩ := pw_get (κ := κ) ha hF
  refine va_putF (v := .ref x) (ty := .array (.object "DragonRing$State")) hx.1 hx.2.1 (C := RX7) (T := TX7) (N := 5) (ci := 7) (ref := "DragonRing") hx.2.2.2.2.1 inw7 tyX7 tyX7_ok nmX7 hx.2.2.2.1 hx.2.2.2.2.2.1.1 hP hD hS q0 hq0 rfl 2 (by decide) (hx.2.2.2.2.1 _ hw) (fun _ h => h) rfl (hx.2.2.2.2.2.2.2.2.2.trans hyn) hyc.symm (by decide +kernel) rfl rfl (Nat.le_of_ble_eq_true rfl) d (fun H1 locs1 hP1 hD1 hS1 => ?_)
  refine kk (va_up F a (eO 7 [v0, v1, .ref x, v3, v4])) (va_up_self _ _ _) (fun b hb => va_up_ne _ _ hb) p e s m args below meth c D κ hx H1 locs1 ls ?_ ?_ hS1 hl
  · rw [← pw_set (e := eO 7 [v0, v1, .ref x, v3, v4]) hD ha hF hq0]; exact hP1
  · rw [← pw_set (e := eO 7 [v0, v1, .ref x, v3, v4]) hD ha hF hq0]; exact hD1
theorem z_gf_X7_isKept (hZ : ZZ = Zj l y cc nL ret R L0 post xp) {a ix : Nat} {v0 v1 v2 v3 v4 : Value} (d : decode cc pc = .ok (.getfield ix, 3)) (hw : Cond.fieldLink y.cls ix "DragonRing" "isKept" "[Z" ∈ wsG) (ha : a ∈ L) (hF : F a = eO 7 [v0, v1, v2, v3, v4]) (kk : ZZ k n (pc + 3) lv (v3 :: st) L F) : ZZ k n pc lv (.ref a :: st) L F := by
  subst hZ
  intro p e s m args below meth c D κ hx H locs ls hP hD hS hl
  obtain ⟨q0, hq0⟩ := pw_get (κ := κ) ha hF
  exact va_get hx.1 hx.2.1 (C := RX7) (T := TX7) (N := 5) (ci := 7) (ref := "DragonRing") hx.2.2.2.2.1 inw7 hx.2.2.2.1 hx.2.2.2.2.2.1.1 hP q0 hq0 rfl 3 (by decide) (hx.2.2.2.2.1 _ hw) (fun _ h => h) rfl d (kk p e s m args below meth c D κ hx H locs ls hP hD hS hl)
theorem z_pf_X7_isKept (hZ : ZZ = Zj l y cc nL ret R L0 post xp) {a ix : Nat} {v0 v1 v2 v3 v4 : Value} {x : Nat} (d : decode cc pc = .ok (.putfield ix, 3)) (hw : Cond.fieldLink y.cls ix "DragonRing" "isKept" "[Z" ∈ wsG) (hyc : y.cls = RX7) (hyn : y.name = "<init>") (ha : a ∈ L) (hF : F a = eO 7 [v0, v1, v2, v3, v4]) (kk : ∀ F1 : Nat → PE, F1 a = eO 7 [v0, v1, v2, .ref x, v4] → (∀ b : Nat, b ≠ a → F1 b = F b) → ZZ k n (pc + 3) lv st L F1) : ZZ k n pc lv (.ref x :: .ref a :: st) L F := by
  subst hZ
  intro p e s m args below meth c D κ hx H locs ls hP hD hS hl
  obtain ⟨q0, hq0⟩ := pw_get (κ := κ) ha hF
  refine va_putF (v := .ref x) (ty := .array .boolean) hx.1 hx.2.1 (C := RX7) (T := TX7) (N := 5) (ci := 7) (ref := "DragonRing") hx.2.2.2.2.1 inw7 tyX7 tyX7_ok nmX7 hx.2.2.2.1 hx.2.2.2.2.2.1.1 hP hD hS q0 hq0 rfl 3 (by decide) (hx.2.2.2.2.1 _ hw) (fun _ h => h) rfl (hx.2.2.2.2.2.2.2.2.2.trans hyn) hyc.symm (by decide +kernel) rfl rfl (Nat.le_of_ble_eq_true rfl) d (fun H1 locs1 hP1 hD1 hS1 => ?_)
  refine kk (va_up F a (eO 7 [v0, v1, v2, .ref x, v4])) (va_up_self _ _ _) (fun b hb => va_up_ne _ _ hb) p e s m args below meth c D κ hx H1 locs1 ls ?_ ?_ hS1 hl
  · rw [← pw_set (e := eO 7 [v0, v1, v2, .ref x, v4]) hD ha hF hq0]; exact hP1
  · rw [← pw_set (e := eO 7 [v0, v1, v2, .ref x, v4]) hD ha hF hq0]; exact hD1
theorem z_gf_X7_buffer (hZ : ZZ = Zj l y cc nL ret R L0 post xp) {a ix : Nat} {v0 v1 v2 v3 v4 : Value} (d : decode cc pc = .ok (.getfield ix, 3)) (hw : Cond.fieldLink y.cls ix "DragonRing" "buffer" "LDragonRing$Text;" ∈ wsG) (ha : a ∈ L) (hF : F a = eO 7 [v0, v1, v2, v3, v4]) (kk : ZZ k n (pc + 3) lv (v4 :: st) L F) : ZZ k n pc lv (.ref a :: st) L F := by
  subst hZ
  intro p e s m args below meth c D κ hx H locs ls hP hD hS hl
  obtain ⟨q0, hq0⟩ := pw_get (κ := κ) ha hF
  exact va_get hx.1 hx.2.1 (C := RX7) (T := TX7) (N := 5) (ci := 7) (ref := "DragonRing") hx.2.2.2.2.1 inw7 hx.2.2.2.1 hx.2.2.2.2.2.1.1 hP q0 hq0 rfl 4 (by decide) (hx.2.2.2.2.1 _ hw) (fun _ h => h) rfl d (kk p e s m args below meth c D κ hx H locs ls hP hD hS hl)
theorem z_pf_X7_buffer (hZ : ZZ = Zj l y cc nL ret R L0 post xp) {a ix : Nat} {v0 v1 v2 v3 v4 : Value} {x : Nat} (d : decode cc pc = .ok (.putfield ix, 3)) (hw : Cond.fieldLink y.cls ix "DragonRing" "buffer" "LDragonRing$Text;" ∈ wsG) (hyc : y.cls = RX7) (hyn : y.name = "<init>") (ha : a ∈ L) (hF : F a = eO 7 [v0, v1, v2, v3, v4]) (kk : ∀ F1 : Nat → PE, F1 a = eO 7 [v0, v1, v2, v3, .ref x] → (∀ b : Nat, b ≠ a → F1 b = F b) → ZZ k n (pc + 3) lv st L F1) : ZZ k n pc lv (.ref x :: .ref a :: st) L F := by
  subst hZ
  intro p e s m args below meth c D κ hx H locs ls hP hD hS hl
  obtain ⟨q0, hq0⟩ := pw_get (κ := κ) ha hF
  refine va_putF (v := .ref x) (ty := .object "DragonRing$Text") hx.1 hx.2.1 (C := RX7) (T := TX7) (N := 5) (ci := 7) (ref := "DragonRing") hx.2.2.2.2.1 inw7 tyX7 tyX7_ok nmX7 hx.2.2.2.1 hx.2.2.2.2.2.1.1 hP hD hS q0 hq0 rfl 4 (by decide) (hx.2.2.2.2.1 _ hw) (fun _ h => h) rfl (hx.2.2.2.2.2.2.2.2.2.trans hyn) hyc.symm (by decide +kernel) rfl rfl (Nat.le_of_ble_eq_true rfl) d (fun H1 locs1 hP1 hD1 hS1 => ?_)
  refine kk (va_up F a (eO 7 [v0, v1, v2, v3, .ref x])) (va_up_self _ _ _) (fun b hb => va_up_ne _ _ hb) p e s m args below meth c D κ hx H1 locs1 ls ?_ ?_ hS1 hl
  · rw [← pw_set (e := eO 7 [v0, v1, v2, v3, .ref x]) hD ha hF hq0]; exact hP1
  · rw [← pw_set (e := eO 7 [v0, v1, v2, v3, .ref x]) hD ha hF hq0]; exact hD1
theorem z_iaload (hZ : ZZ = Zj l y cc nL ret R L0 post xp) {a N : Nat} {g : Int → Int} {i : Int} (d : decode cc pc = .ok (.iaload, 1)) (ha : a ∈ L) (hF : F a = eI 0 N g) (hi : 0 ≤ i ∧ i < N ∧ i ≤ 2147483647) (kk : ZZ k n (pc + 1) lv (.int (iI (g i)) :: st) L F) : ZZ k n pc lv (.int (iI i) :: .ref a :: st) L F := by
  subst hZ
  intro p e s m args below meth c D κ hx H locs ls hP hD hS hl
  obtain ⟨q0, hq0⟩ := pw_get (κ := κ) ha hF
  have hk := kk p e s m args below meth c D κ hx H locs ls hP hD hS hl
  refine va_iald hx.1 hx.2.1 hx.2.2.2.2.2.1.1 hP q0 0 hq0 rfl (iI_in ⟨by omega, by omega⟩ hi.1 hi.2.1) d ?_
  rw [iI_clamp ⟨by omega, by omega⟩ hi.1]
  exact hk
theorem z_iastore (hZ : ZZ = Zj l y cc nL ret R L0 post xp) {a N : Nat} {g : Int → Int} {i x : Int} (d : decode cc pc = .ok (.iastore, 1)) (ha : a ∈ L) (hF : F a = eI 0 N g) (hi : 0 ≤ i ∧ i < N ∧ i ≤ 2147483647) (kk : ∀ F1 : Nat → PE, F1 a = eI 0 N (wu g i x) → (∀ b : Nat, b ≠ a → F1 b = F b) → ZZ k n (pc + 1) lv st L F1) : ZZ k n pc lv (.int (iI x) :: .int (iI i) :: .ref a :: st) L F := by
  subst hZ
  intro p e s m args below meth c D κ hx H locs ls hP hD hS hl
  obtain ⟨q0, hq0⟩ := pw_get (κ := κ) ha hF
  have hup : ∀ z : Int32, z = iI x → (upd (fun j : Nat => iI (g (j : Int))) (iI i).toNatClampNeg z) = fun j : Nat => iI (wu g i x (j : Int)) := by
    intro z hz; subst hz; funext j
    have e := iI_clamp (z := i) ⟨by omega, by omega⟩ hi.1
    unfold upd wu
    by_cases h : j = (iI i).toNatClampNeg
    · subst h; rw [if_pos rfl, if_pos e]
    · rw [if_neg h, if_neg (fun q => h (by omega))]
  refine va_iast hx.1 hx.2.1 hx.2.2.2.2.2.1.1 hP hD hS q0 0 hq0 rfl (iI_in ⟨by omega, by omega⟩ hi.1 hi.2.1) d (fun H1 locs1 hP1 hD1 hS1 => ?_)
  rw [hup _ rfl] at hP1 hD1
  refine kk (va_up F a (eI 0 N (wu g i x))) (va_up_self _ _ _) (fun b hb => va_up_ne _ _ hb) p e s m args below meth c D κ hx H1 locs1 ls ?_ ?_ hS1 hl
  · rw [← pw_set (e := eI 0 N (wu g i x)) hD ha hF hq0]; exact hP1
  · rw [← pw_set (e := eI 0 N (wu g i x)) hD ha hF hq0]; exact hD1
theorem z_baload (hZ : ZZ = Zj l y cc nL ret R L0 post xp) {a N : Nat} {g : Int → Int} {i : Int} (d : decode cc pc = .ok (.baload, 1)) (ha : a ∈ L) (hF : F a = eI 1 N g) (hi : 0 ≤ i ∧ i < N ∧ i ≤ 2147483647) (kk : ZZ k n (pc + 1) lv (.int (iI (g i)) :: st) L F) : ZZ k n pc lv (.int (iI i) :: .ref a :: st) L F := by
  subst hZ
  intro p e s m args below meth c D κ hx H locs ls hP hD hS hl
  obtain ⟨q0, hq0⟩ := pw_get (κ := κ) ha hF
  have hk := kk p e s m args below meth c D κ hx H locs ls hP hD hS hl
  refine va_zald hx.1 hx.2.1 hx.2.2.2.2.2.1.1 hP q0 1 hq0 rfl (iI_in ⟨by omega, by omega⟩ hi.1 hi.2.1) d ?_
  rw [iI_clamp ⟨by omega, by omega⟩ hi.1]
  exact hk
theorem z_bastore (hZ : ZZ = Zj l y cc nL ret R L0 post xp) {a N : Nat} {g : Int → Int} {i x : Int} (d : decode cc pc = .ok (.bastore, 1)) (ha : a ∈ L) (hF : F a = eI 1 N g) (hi : 0 ≤ i ∧ i < N ∧ i ≤ 2147483647) (hb : x = 0 ∨ x = 1) (kk : ∀ F1 : Nat → PE, F1 a = eI 1 N (wu g i x) → (∀ b : Nat, b ≠ a → F1 b = F b) → ZZ k n (pc + 1) lv st L F1) : ZZ k n pc lv (.int (iI x) :: .int (iI i) :: .ref a :: st) L F := by
  subst hZ
  intro p e s m args below meth c D κ hx H locs ls hP hD hS hl
  obtain ⟨q0, hq0⟩ := pw_get (κ := κ) ha hF
  have hnar : vp_nar .boolean (iI x) = iI x := by
    rcases hb with rfl | rfl <;> decide
  have hup : ∀ z : Int32, z = iI x → (upd (fun j : Nat => iI (g (j : Int))) (iI i).toNatClampNeg z) = fun j : Nat => iI (wu g i x (j : Int)) := by
    intro z hz; subst hz; funext j
    have e := iI_clamp (z := i) ⟨by omega, by omega⟩ hi.1
    unfold upd wu
    by_cases h : j = (iI i).toNatClampNeg
    · subst h; rw [if_pos rfl, if_pos e]
    · rw [if_neg h, if_neg (fun q => h (by omega))]
  refine va_zast hx.1 hx.2.1 hx.2.2.2.2.2.1.1 hP hD hS q0 1 hq0 rfl (iI_in ⟨by omega, by omega⟩ hi.1 hi.2.1) d (fun H1 locs1 hP1 hD1 hS1 => ?_)
  rw [hup _ hnar] at hP1 hD1
  refine kk (va_up F a (eI 1 N (wu g i x))) (va_up_self _ _ _) (fun b hb => va_up_ne _ _ hb) p e s m args below meth c D κ hx H1 locs1 ls ?_ ?_ hS1 hl
  · rw [← pw_set (e := eI 1 N (wu g i x)) hD ha hF hq0]; exact hP1
  · rw [← pw_set (e := eI 1 N (wu g i x)) hD ha hF hq0]; exact hD1
theorem z_aaload_State (hZ : ZZ = Zj l y cc nL ret R L0 post xp) {a N q : Nat} {r : Int → Option Nat} {i : Int} (d : decode cc pc = .ok (.aaload, 1)) (ha : a ∈ L) (hF : F a = eQ 3 N r) (hi : 0 ≤ i ∧ i < N ∧ i ≤ 2147483647) (hq : r i = some q) (kk : ZZ k n (pc + 1) lv (.ref q :: st) L F) : ZZ k n pc lv (.int (iI i) :: .ref a :: st) L F := by
  subst hZ
  intro p e s m args below meth c D κ hx H locs ls hP hD hS hl
  obtain ⟨q0, hq0⟩ := pw_get (κ := κ) ha hF
  have hk := kk p e s m args below meth c D κ hx H locs ls hP hD hS hl
  refine va_aldq hx.1 hx.2.1 hx.2.2.2.2.2.1.1 hP q0 3 hq0 rfl (iI_in ⟨by omega, by omega⟩ hi.1 hi.2.1) d ?_
  rw [iI_clamp ⟨by omega, by omega⟩ hi.1, hq]
  exact hk
theorem z_aastore_State (hZ : ZZ = Zj l y cc nL ret R L0 post xp) {a N v : Nat} {r : Int → Option Nat} {i : Int} {vs : List Value} (d : decode cc pc = .ok (.aastore, 1)) (ha : a ∈ L) (hF : F a = eQ 3 N r) (hi : 0 ≤ i ∧ i < N ∧ i ≤ 2147483647) (hv : v ∈ L) (hFv : F v = eO 5 vs) (kk : ∀ F1 : Nat → PE, F1 a = eQ 3 N (wu r i (some v)) → (∀ b : Nat, b ≠ a → F1 b = F b) → ZZ k n (pc + 1) lv st L F1) : ZZ k n pc lv (.ref v :: .int (iI i) :: .ref a :: st) L F := by
  subst hZ
  intro p e s m args below meth c D κ hx H locs ls hP hD hS hl
  obtain ⟨q0, hq0⟩ := pw_get (κ := κ) ha hF
  obtain ⟨q1, hq1⟩ := pw_get (κ := κ) hv hFv
  have hup : (va_up (fun j : Nat => r (j : Int)) (iI i).toNatClampNeg (some v)) = fun j : Nat => wu r i (some v) (j : Int) := by
    funext j
    have e := iI_clamp (z := i) ⟨by omega, by omega⟩ hi.1
    unfold va_up wu
    by_cases h : j = (iI i).toNatClampNeg
    · subst h; rw [if_pos rfl, if_pos e]
    · rw [if_neg h, if_neg (fun q => h (by omega))]
  refine va_astq hx.1 hx.2.1 hx.2.2.2.2.2.1.1 hP hD hS q0 3 q1 5 hq0 rfl hq1 rfl (iI_in ⟨by omega, by omega⟩ hi.1 hi.2.1) d (fun H1 locs1 hP1 hD1 hS1 => ?_)
  rw [hup] at hP1 hD1
  refine kk (va_up F a (eQ 3 N (wu r i (some v)))) (va_up_self _ _ _) (fun b hb => va_up_ne _ _ hb) p e s m args below meth c D κ hx H1 locs1 ls ?_ ?_ hS1 hl
  · rw [← pw_set (e := eQ 3 N (wu r i (some v))) hD ha hF hq0]; exact hP1
  · rw [← pw_set (e := eQ 3 N (wu r i (some v))) hD ha hF hq0]; exact hD1
theorem z_aaload_Text (hZ : ZZ = Zj l y cc nL ret R L0 post xp) {a N q : Nat} {r : Int → Option Nat} {i : Int} (d : decode cc pc = .ok (.aaload, 1)) (ha : a ∈ L) (hF : F a = eQ 4 N r) (hi : 0 ≤ i ∧ i < N ∧ i ≤ 2147483647) (hq : r i = some q) (kk : ZZ k n (pc + 1) lv (.ref q :: st) L F) : ZZ k n pc lv (.int (iI i) :: .ref a :: st) L F := by
  subst hZ
  intro p e s m args below meth c D κ hx H locs ls hP hD hS hl
  obtain ⟨q0, hq0⟩ := pw_get (κ := κ) ha hF
  have hk := kk p e s m args below meth c D κ hx H locs ls hP hD hS hl
  refine va_aldq hx.1 hx.2.1 hx.2.2.2.2.2.1.1 hP q0 4 hq0 rfl (iI_in ⟨by omega, by omega⟩ hi.1 hi.2.1) d ?_
  rw [iI_clamp ⟨by omega, by omega⟩ hi.1, hq]
  exact hk
theorem z_aastore_Text (hZ : ZZ = Zj l y cc nL ret R L0 post xp) {a N v : Nat} {r : Int → Option Nat} {i : Int} {vs : List Value} (d : decode cc pc = .ok (.aastore, 1)) (ha : a ∈ L) (hF : F a = eQ 4 N r) (hi : 0 ≤ i ∧ i < N ∧ i ≤ 2147483647) (hv : v ∈ L) (hFv : F v = eO 6 vs) (kk : ∀ F1 : Nat → PE, F1 a = eQ 4 N (wu r i (some v)) → (∀ b : Nat, b ≠ a → F1 b = F b) → ZZ k n (pc + 1) lv st L F1) : ZZ k n pc lv (.ref v :: .int (iI i) :: .ref a :: st) L F := by
  subst hZ
  intro p e s m args below meth c D κ hx H locs ls hP hD hS hl
  obtain ⟨q0, hq0⟩ := pw_get (κ := κ) ha hF
  obtain ⟨q1, hq1⟩ := pw_get (κ := κ) hv hFv
  have hup : (va_up (fun j : Nat => r (j : Int)) (iI i).toNatClampNeg (some v)) = fun j : Nat => wu r i (some v) (j : Int) := by
    funext j
    have e := iI_clamp (z := i) ⟨by omega, by omega⟩ hi.1
    unfold va_up wu
    by_cases h : j = (iI i).toNatClampNeg
    · subst h; rw [if_pos rfl, if_pos e]
    · rw [if_neg h, if_neg (fun q => h (by omega))]
  refine va_astq hx.1 hx.2.1 hx.2.2.2.2.2.1.1 hP hD hS q0 4 q1 6 hq0 rfl hq1 rfl (iI_in ⟨by omega, by omega⟩ hi.1 hi.2.1) d (fun H1 locs1 hP1 hD1 hS1 => ?_)
  rw [hup] at hP1 hD1
  refine kk (va_up F a (eQ 4 N (wu r i (some v)))) (va_up_self _ _ _) (fun b hb => va_up_ne _ _ hb) p e s m args below meth c D κ hx H1 locs1 ls ?_ ?_ hS1 hl
  · rw [← pw_set (e := eQ 4 N (wu r i (some v))) hD ha hF hq0]; exact hP1
  · rw [← pw_set (e := eQ 4 N (wu r i (some v))) hD ha hF hq0]; exact hD1
theorem z_alen0 (hZ : ZZ = Zj l y cc nL ret R L0 post xp) {a N : Nat} {g : Int → Int} (d : decode cc pc = .ok (.arraylength, 1)) (ha : a ∈ L) (hF : F a = eI 0 N g) (kk : ZZ k n (pc + 1) lv (.int (iI N) :: st) L F) : ZZ k n pc lv (.ref a :: st) L F := by
  subst hZ
  intro p e s m args below meth c D κ hx H locs ls hP hD hS hl
  obtain ⟨q0, hq0⟩ := pw_get (κ := κ) ha hF
  exact va_alen hx.1 hx.2.1 hx.2.2.2.2.2.1.1 hP q0 0 hq0 rfl (iI_nI N) d (kk p e s m args below meth c D κ hx H locs ls hP hD hS hl)
theorem z_alen1 (hZ : ZZ = Zj l y cc nL ret R L0 post xp) {a N : Nat} {g : Int → Int} (d : decode cc pc = .ok (.arraylength, 1)) (ha : a ∈ L) (hF : F a = eI 1 N g) (kk : ZZ k n (pc + 1) lv (.int (iI N) :: st) L F) : ZZ k n pc lv (.ref a :: st) L F := by
  subst hZ
  intro p e s m args below meth c D κ hx H locs ls hP hD hS hl
  obtain ⟨q0, hq0⟩ := pw_get (κ := κ) ha hF
  exact va_alen hx.1 hx.2.1 hx.2.2.2.2.2.1.1 hP q0 1 hq0 rfl (iI_nI N) d (kk p e s m args below meth c D κ hx H locs ls hP hD hS hl)
theorem z_alen2 (hZ : ZZ = Zj l y cc nL ret R L0 post xp) {a N : Nat} {g : Int → Int} (d : decode cc pc = .ok (.arraylength, 1)) (ha : a ∈ L) (hF : F a = eI 2 N g) (kk : ZZ k n (pc + 1) lv (.int (iI N) :: st) L F) : ZZ k n pc lv (.ref a :: st) L F := by
  subst hZ
  intro p e s m args below meth c D κ hx H locs ls hP hD hS hl
  obtain ⟨q0, hq0⟩ := pw_get (κ := κ) ha hF
  exact va_alen hx.1 hx.2.1 hx.2.2.2.2.2.1.1 hP q0 2 hq0 rfl (iI_nI N) d (kk p e s m args below meth c D κ hx H locs ls hP hD hS hl)
theorem z_copyi (hZ : ZZ = Zj l y cc nL ret R L0 post xp) {a0 a1 n0 n1 ix : Nat} {f g : Int → Int} {sp dp q : Int} (d : decode cc pc = .ok (.invokestatic ix, 3)) (hw : Cond.methodLink y.cls ix arraycopyName ∈ wsG) (ha0 : a0 ∈ L) (hF0 : F a0 = eI 0 n0 f) (ha1 : a1 ∈ L) (hF1 : F a1 = eI 0 n1 g)
    (hn0 : n0 ≤ 100000) (hn1 : n1 ≤ 100000) (h : 0 ≤ sp ∧ 0 ≤ dp ∧ 0 ≤ q ∧ sp + q ≤ n0 ∧ dp + q ≤ n1) (hR : 1 ≤ R.frames) (hR2 : 60 ≤ R.locals) (hst : (st.map fun v => v.category).sum ≤ 8)
    (kk : ∀ F1 : Nat → PE, F1 a1 = eI 0 n1 (zcp f g sp dp q) → (∀ b : Nat, b ≠ a1 → F1 b = F b) → ZZ k n (pc + 3) lv st L F1) : ZZ k n pc lv (.int (iI q) :: .int (iI dp) :: .ref a1 :: .int (iI sp) :: .ref a0 :: st) L F := by
  subst hZ
  intro p e s m args below meth c D κ hx H locs ls hP hD hS hl
  obtain ⟨q0, hq0⟩ := pw_get (κ := κ) ha0 hF0
  obtain ⟨q1, hq1⟩ := pw_get (κ := κ) ha1 hF1
  have e1 := iI_clamp (z := sp) ⟨by omega, by omega⟩ h.1
  have e2 := iI_clamp (z := dp) ⟨by omega, by omega⟩ h.2.1
  have e3 := iI_clamp (z := q) ⟨by omega, by omega⟩ h.2.2.1
  have nn : ∀ z : Int, 0 ≤ z → z ≤ 2147483647 → ¬ iI z < 0 := fun z h0 h1 hh => by
    have := (iI_lt (a := z) (b := 0) ⟨by omega, by omega⟩ ⟨by omega, by omega⟩).mp hh
    omega
  have hup : (va_cpy (fun j : Nat => iI (f (j : Int))) (fun j : Nat => iI (g (j : Int))) (iI sp).toNatClampNeg (iI dp).toNatClampNeg (iI q).toNatClampNeg) = fun j : Nat => iI (zcp f g sp dp q (j : Int)) := by
    funext j
    unfold va_cpy zcp
    by_cases hj : dp ≤ (j : Int) ∧ (j : Int) < dp + q
    · rw [if_pos (by omega), if_pos hj]
      have e4 : (((iI sp).toNatClampNeg + (j - (iI dp).toNatClampNeg) : Nat) : Int) = sp + ((j : Int) - dp) := by omega
      exact congrArg (fun z => iI (f z)) e4
    · rw [if_neg (by omega), if_neg hj]
  refine va_copyi hx.1 hx.2.1 (hx.2.2.1.trans hl.1.symm) hx.2.2.2.1 (hx.2.2.2.2.1 _ hw) (hx.2.2.2.2.1 _ w_acN) (hx.2.2.2.2.1 _ w_acS) (hx.2.2.2.2.1 _ in_J10) hx.2.2.2.2.2.1.1 hP hD hS q0 q1 0 0 hq0 hq1 rfl rfl rfl (nn sp h.1 (by omega)) (nn dp h.2.1 (by omega)) (nn q h.2.2.1 (by omega)) (by omega) (by omega) (fun _ _ => rfl) hR ?_ d (fun H1 locs1 hP1 hD1 hS1 => ?_)
  · have : nativeFrameWords "java/lang/System" "arraycopy" 5 + 11 ≤ 52 := by decide +kernel
    omega
  rw [hup] at hP1 hD1
  refine kk (va_up F a1 (eI 0 n1 (zcp f g sp dp q))) (va_up_self _ _ _) (fun b hb => va_up_ne _ _ hb) p e s m args below meth c D κ hx H1 locs1 ls ?_ ?_ hS1 hl
  · rw [← pw_set (e := eI 0 n1 (zcp f g sp dp q)) hD ha1 hF1 hq1]; exact hP1
  · rw [← pw_set (e := eI 0 n1 (zcp f g sp dp q)) hD ha1 hF1 hq1]; exact hD1
theorem z_min (hZ : ZZ = Zj l y cc nL ret R L0 post xp) {ix : Nat} {a b : Int} (d : decode cc pc = .ok (.invokestatic ix, 3)) (hw : Cond.methodLink y.cls ix Lib.Math.min.name ∈ wsG) (hr : -2147483648 ≤ a ∧ a ≤ 2147483647 ∧ -2147483648 ≤ b ∧ b ≤ 2147483647) (hR : 1 ≤ R.frames) (hR2 : 60 ≤ R.locals) (hst : (st.map fun v => v.category).sum ≤ 8) (hRc : k ≤ R.cells ∧ n ≤ R.slots) (kk : ZZ k n (pc + 3) lv (.int (iI (if b < a then b else a)) :: st) L F) : ZZ k n pc lv (.int (iI b) :: .int (iI a) :: st) L F := by
  subst hZ
  intro p e s m args below meth c D κ hx H locs ls hP hD hS hl
  have hk := kk p e s m args below meth c D κ hx H locs ls hP hD hS hl
  refine va_mmin hx.1 hx.2.1 (hx.2.2.1.trans hl.1.symm) hx.2.2.2.1 (hx.2.2.2.2.1 _ hw) (hx.2.2.2.2.1 _ w_minS) (hx.2.2.2.2.1 _ w_maIn) (hx.2.2.2.2.1 _ w_minC) hR (by omega) hRc.1 hRc.2 d ?_
  have e : (if iI b < iI a then iI b else iI a) = iI (if b < a then b else a) := by
    by_cases h : b < a
    · rw [if_pos h, if_pos ((iI_lt hr.2.2 ⟨hr.1, hr.2.1⟩).mpr h)]
    · rw [if_neg h, if_neg (fun q => h ((iI_lt hr.2.2 ⟨hr.1, hr.2.1⟩).mp q))]
  rw [e]; exact hk
theorem z_max (hZ : ZZ = Zj l y cc nL ret R L0 post xp) {ix : Nat} {a b : Int} (d : decode cc pc = .ok (.invokestatic ix, 3)) (hw : Cond.methodLink y.cls ix Lib.Math.max.name ∈ wsG) (hr : -2147483648 ≤ a ∧ a ≤ 2147483647 ∧ -2147483648 ≤ b ∧ b ≤ 2147483647) (hR : 1 ≤ R.frames) (hR2 : 60 ≤ R.locals) (hst : (st.map fun v => v.category).sum ≤ 8) (hRc : k ≤ R.cells ∧ n ≤ R.slots) (kk : ZZ k n (pc + 3) lv (.int (iI (if a < b then b else a)) :: st) L F) : ZZ k n pc lv (.int (iI b) :: .int (iI a) :: st) L F := by
  subst hZ
  intro p e s m args below meth c D κ hx H locs ls hP hD hS hl
  have hk := kk p e s m args below meth c D κ hx H locs ls hP hD hS hl
  refine va_mmax hx.1 hx.2.1 (hx.2.2.1.trans hl.1.symm) hx.2.2.2.1 (hx.2.2.2.2.1 _ hw) (hx.2.2.2.2.1 _ w_maxS) (hx.2.2.2.2.1 _ w_maIn) (hx.2.2.2.2.1 _ w_maxC) hR (by omega) hRc.1 hRc.2 d ?_
  have e : (if iI a < iI b then iI b else iI a) = iI (if a < b then b else a) := by
    by_cases h : a < b
    · rw [if_pos h, if_pos ((iI_lt ⟨hr.1, hr.2.1⟩ hr.2.2).mpr h)]
    · rw [if_neg h, if_neg (fun q => h ((iI_lt ⟨hr.1, hr.2.1⟩ hr.2.2).mp q))]
  rw [e]; exact hk
theorem z_abs (hZ : ZZ = Zj l y cc nL ret R L0 post xp) {ix : Nat} {a : Int} (d : decode cc pc = .ok (.invokestatic ix, 3)) (hw : Cond.methodLink y.cls ix Lib.Math.abs.name ∈ wsG) (hr : -2147483648 ≤ a ∧ a ≤ 2147483647) (hR : 1 ≤ R.frames) (hR2 : 60 ≤ R.locals) (hst : (st.map fun v => v.category).sum ≤ 8) (hRc : k ≤ R.cells ∧ n ≤ R.slots) (kk : ZZ k n (pc + 3) lv (.int (iI (if 0 ≤ a then a else 0 - a)) :: st) L F) : ZZ k n pc lv (.int (iI a) :: st) L F := by
  subst hZ
  intro p e s m args below meth c D κ hx H locs ls hP hD hS hl
  have hk := kk p e s m args below meth c D κ hx H locs ls hP hD hS hl
  refine va_mabs hx.1 hx.2.1 (hx.2.2.1.trans hl.1.symm) hx.2.2.2.1 (hx.2.2.2.2.1 _ hw) (hx.2.2.2.2.1 _ w_absS) (hx.2.2.2.2.1 _ w_maIn) (hx.2.2.2.2.1 _ w_absC) hR (by omega) hRc.1 hRc.2 d ?_
  have e : (if 0 ≤ iI a then iI a else 0 - iI a) = iI (if 0 ≤ a then a else 0 - a) := by
    by_cases h : 0 ≤ a
    · rw [if_pos h]
      exact if_pos ((iI_le (a := 0) ⟨by omega, by omega⟩ hr).mpr h)
    · rw [if_neg h]
      exact (if_neg (fun q => h ((iI_le (a := 0) ⟨by omega, by omega⟩ hr).mp q))).trans (iI_sub 0 a)
  rw [e]; exact hk
end ZH
