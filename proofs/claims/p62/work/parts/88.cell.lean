/-! A CELL OF THE SCRIPT. -/
def cPh (b Ls : Nat) (sx : Int → Int) (L : List Nat) (U : State) : Prop := va_X b Ls (fun j => iI (sx (j : Int))) U U.heap ∧ ¬ pA L U.heap.size b
theorem cPh.calling {b Ls : Nat} {sx : Int → Int} {L : List Nat} (U : State) (g : JFrame) (mk : MethodId) (a : Array Value) (h : cPh b Ls sx L U) : cPh b Ls sx L (U.calling g mk a) := ⟨va_X.moved (u := U) (U := U.calling g mk a) (Vm.Alike.refl U.vm) h.1, h.2⟩
theorem cPh.of {b Ls : Nat} {sx : Int → Int} {L : List Nat} {F : Nat → PE} {Φ : State → Prop} (hsx : ∀ s, Φ s → va_X b Ls (fun j => iI (sx (j : Int))) s s.heap ∧ b < s.heap.size) (s U : State) (H : Heap) (locs : List Loc) (κ : Nat → ClassId) (h : Φ s) (hD : va_D (pA [] s.heap.size) (pw κ L F)) (hS : va_S (pA [] s.heap.size) s.heap H locs) (hU : U.heap = H) (hW : s.WarmedH U.vm) : cPh b Ls sx L U := by
  obtain ⟨x, hb⟩ := hsx s h
  have nb : ¬ pA [] s.heap.size b := fun z => by
    rcases z with z | z
    · cases z
    · omega
  refine ⟨?_, fun z => ?_⟩
  · rw [hU]
    exact va_X.moved hW.alike (va_X.kept x (hS.2.1 b hb nb))
  · rcases z with z | z
    · exact nb (pw_in hD b z)
    · have := hS.1
      rw [hU] at z
      omega
set_option maxRecDepth 100000 in
set_option maxHeartbeats 8000000 in
theorem m_L_cell (l : Launch) {L : List Nat} {F : Nat → PE} {b Ls : Nat} {sx : Int → Int} (hLs : Ls ≤ 260) {i : Int} (hi : 0 ≤ i ∧ i < 60) : PMf (cPh b Ls sx L) l yL_cell cL_cell 2 (some .int) (rm 1 0 0) L [.ref b, .int (iI i)] F (fun v9 L1 F1 => (∃ c : Int, v9 = some (.int (iI c)) ∧ 0 ≤ c ∧ c ≤ 2147483647) ∧ L = L1 ∧ F = F1) := by
  refine pmf_of cd_L_cell (by decide +kernel) (Nat.le_of_ble_eq_true rfl) (fun ZZ hZ => ?_)
  have hgo : ZZ 0 0 0 [some (.ref b), some (.int (iI i))] [] L F := by
    have k24 : ∀ x : Int, ZZ 0 0 24 [some (.ref b), some (.int (iI i))] [.int (iI x)] L F := by
      intro x
      refine zq_ldc hZ dL_cell_24 kc_L_8 ?_
      refine zq_iandM hZ dL_cell_26 (fun r hr => ?_)
      exact zq_iret hZ rfl (Nat.le_of_ble_eq_true rfl) (Nat.le_of_ble_eq_true rfl) dL_cell_27 ⟨⟨r, rfl, hr.1, hr.2⟩, rfl, rfl⟩
    refine zq_iload_n1 hZ dL_cell_0 ?_
    refine zq_aload_n0 hZ dL_cell_1 ?_
    refine zq_slen hZ (fun _ h => h) dL_cell_2 ?_
    refine zq_icmp_ge hZ (tgt := 12) dL_cell_3 rfl (by omega) (fun hc3 => ?_) (fun hc3 => ?_)
    · refine zq_ldc hZ dL_cell_12 kc_L_7 ?_
      refine zq_iload_n1 hZ dL_cell_14 ?_
      refine zq_sipush hZ dL_cell_15 rfl ?_
      refine zq_irem hZ dL_cell_18 (by omega) ?_
      refine zq_imul hZ dL_cell_19 ?_
      refine zq_sipush hZ dL_cell_20 rfl ?_
      refine zq_iadd hZ dL_cell_23 ?_
      exact k24 _
    · refine zq_aload_n0 hZ dL_cell_6 ?_
      refine zq_iload_n1 hZ dL_cell_7 ?_
      refine zq_sld hZ (fun _ h => h) dL_cell_8 (by omega) ?_
      refine zq_goto hZ (tgt := 24) dL_cell_9 rfl ?_
      exact k24 _
  exact hgo
