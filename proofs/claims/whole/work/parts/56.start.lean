theorem arr_of {s : State} {args : Array Value} {ty : FieldType} (h : (Cond.arrayClass ty).before args s = true) (hp : isPrimB ty = true) : ∃ cA : ClassId, ArrOfT s cA ty ∧ va_RA s cA ty := by
  obtain ⟨cA, kA, comp, hfind, hk, hkind⟩ := Cond.arrayClass_spec h
  refine ⟨cA, fun n z => ⟨fun k h => (by cases h), kA, hk, comp, hkind⟩, ?_⟩
  cases ty <;> first | exact hfind | (exact absurd hp (by decide)) | (simp [isPrimB] at hp)
theorem arr_over {s : State} {args : Array Value} (h : (Cond.arrayOver (.array .int)).before args s = true) : ∃ cA : ClassId, ArrOfT s cA (.array .int) ∧ va_RA s cA (.array .int) := by
  obtain ⟨comp, cA, kA, hcomp, hidx, hk, hkind, hname⟩ := arrayOverA_spec h
  exact ⟨cA, fun n z => ⟨fun k h => (by cases h), kA, hk, comp, hkind⟩, hname⟩
theorem lw_gx {s : State} {b : Nat} (hts : ∀ w ∈ lw_tbl, w.before #[Value.ref b] s = true) (hgv : (Jvm.Cond.and given_1 narrow_1).before #[Value.ref b] s = true) {A : Nat → Prop} (hA : ∀ a : Nat, a < s.heap.size → ¬ A a) : ∃ t, gx t A s := by
  have hs := flat_of_before _ hgv
  have e : ∀ j : Nat, j < 5 → (Term.elem (.static "TrueOnceWeek" "CASES_WITH_FACT" "[I") (.int (Int32.ofNat j))).eval #[Value.ref b] s none [] s = some (.int (cF j)) := by
    intro j hj
    rcases (show j = 0 ∨ j = 1 ∨ j = 2 ∨ j = 3 ∨ j = 4 by omega) with rfl | rfl | rfl | rfl | rfl
    · exact va_eqt (hs (Cond.eq (.elem (.static "TrueOnceWeek" "CASES_WITH_FACT" "[I") (.int 0)) (.int (-1431655766))) (by decide +kernel))
    · exact va_eqt (hs (Cond.eq (.elem (.static "TrueOnceWeek" "CASES_WITH_FACT" "[I") (.int 1)) (.int (-858993460))) (by decide +kernel))
    · exact va_eqt (hs (Cond.eq (.elem (.static "TrueOnceWeek" "CASES_WITH_FACT" "[I") (.int 2)) (.int (-252645136))) (by decide +kernel))
    · exact va_eqt (hs (Cond.eq (.elem (.static "TrueOnceWeek" "CASES_WITH_FACT" "[I") (.int 3)) (.int (-16711936))) (by decide +kernel))
    · exact va_eqt (hs (Cond.eq (.elem (.static "TrueOnceWeek" "CASES_WITH_FACT" "[I") (.int 4)) (.int (-65536))) (by decide +kernel))
  obtain ⟨t, ht, hT⟩ := va_Tof (N := 5) (f := fun i => .int (cF i)) (A := A) (by decide) (hs (Cond.arrayOf (.static "TrueOnceWeek" "CASES_WITH_FACT" "[I") .int) (by decide +kernel)) (va_eqt (hs (Cond.eq (.length (.static "TrueOnceWeek" "CASES_WITH_FACT" "[I")) (.int 5)) (by decide +kernel))) e hA
  refine ⟨t, fun q hq => ?_, fun q hq => ?_, va_Zof (hts _ wq_ls) (hts (Cond.initialized RX9) wq_init_X9) ht hA, hT, ?_⟩
  · exact va_Nw.of rfl (hts _ (wq_pick wq_nF q hq))
  · exact va_Nw.of rfl (hts _ (wq_pick wq_nM q hq))
  · exact (show (Cond.arrayOver (.array .int)).before #[] s = true from hts _ wq_ao)
theorem lw_K {s : State} {b : Nat} (hts : ∀ w ∈ lw_tbl, w.before #[Value.ref b] s = true) : ∃ (dC : Nat → ClassId) (dI : Nat → Nat → Nat) (cI cJ cZ cQ : ClassId), va_K (dC, dI) vwCl (kT cI cJ cZ cQ) s := by
  obtain ⟨c0, iS0, hKn0⟩ := u_known (C := RX0) (T := TX0) (N := 4) (n := 4) hts inX0 (hts _ wq_inst_X0)
  obtain ⟨c1, iS1, hKn1⟩ := u_known (C := RX1) (T := TX1) (N := 5) (n := 5) hts inX1 (hts _ wq_inst_X1)
  obtain ⟨c2, iS2, hKn2⟩ := u_known (C := RX2) (T := TX2) (N := 2) (n := 2) hts inX2 (hts _ wq_inst_X2)
  obtain ⟨c3, iS3, hKn3⟩ := u_known (C := RX3) (T := TX3) (N := 2) (n := 2) hts inX3 (hts _ wq_inst_X3)
  obtain ⟨c4, iS4, hKn4⟩ := u_known (C := RX4) (T := TX4) (N := 6) (n := 6) hts inX4 (hts _ wq_inst_X4)
  obtain ⟨c5, iS5, hKn5⟩ := u_known (C := RX5) (T := TX5) (N := 2) (n := 2) hts inX5 (hts _ wq_inst_X5)
  obtain ⟨c6, iS6, hKn6⟩ := u_known (C := RX7) (T := TX7) (N := 4) (n := 4) hts inX7 (hts _ wq_inst_X7)
  obtain ⟨c7, iS7, hKn7⟩ := u_known (C := RX9) (T := TX9) (N := 11) (n := 11) hts inX9 (hts _ wq_inst_X9)
  obtain ⟨c8, iS8, hKn8⟩ := u_known (C := RX10) (T := TX10) (N := 31) (n := 31) hts inX10 (hts _ wq_inst_X10)
  obtain ⟨cI, hI⟩ := arr_of (hts _ wq_ac_int) rfl
  obtain ⟨cJ, hJ⟩ := arr_of (hts _ wq_ac_long) rfl
  obtain ⟨cZ, hZ⟩ := arr_of (hts _ wq_ac_boolean) rfl
  obtain ⟨cQ, hQ⟩ := arr_over (hts _ wq_ao)
  refine ⟨fun k => if k = 0 then c0 else if k = 1 then c1 else if k = 2 then c2 else if k = 3 then c3 else if k = 4 then c4 else if k = 5 then c5 else if k = 6 then c6 else if k = 7 then c7 else c8, fun k => if k = 0 then iS0 else if k = 1 then iS1 else if k = 2 then iS2 else if k = 3 then iS3 else if k = 4 then iS4 else if k = 5 then iS5 else if k = 6 then iS6 else if k = 7 then iS7 else iS8, cI, cJ, cZ, cQ, fun k q hq => ?_, fun k q hq => ?_⟩
  · match k, hq with
    | 0, hq => cases hq; exact hKn0
    | 1, hq => cases hq; exact hKn1
    | 2, hq => cases hq; exact hKn2
    | 3, hq => cases hq; exact hKn3
    | 4, hq => cases hq; exact hKn4
    | 5, hq => cases hq; exact hKn5
    | 6, hq => cases hq; exact hKn6
    | 7, hq => cases hq; exact hKn7
    | 8, hq => cases hq; exact hKn8
    | k + 9, hq => simp [vwCl] at hq
  · match k, hq with
    | 0, hq => cases hq; exact hI
    | 1, hq => cases hq; exact hJ
    | 2, hq => cases hq; exact hZ
    | 3, hq => cases hq; exact hQ
    | k + 4, hq => simp [kT] at hq
