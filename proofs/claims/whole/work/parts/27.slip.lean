theorem q38_le (j : Nat) (hj : j < 2147483648) : ((38 : Int32) ≤ nI j) = (38 ≤ j) := propext (nI_leI (a := 38) (b := j) (by decide) hj)
theorem q38_lt (j : Nat) (hj : j < 2147483648) : ((38 : Int32) < nI j) = (38 < j) := propext (nI_ltI (a := 38) (b := j) (by decide) hj)
theorem q38_gt (j : Nat) (hj : j < 2147483648) : (nI j < (38 : Int32)) = (j < 38) := propext (nI_ltI (a := j) (b := 38) hj (by decide))
theorem q38_eq (j : Nat) (hj : j < 2147483648) : (nI j = (38 : Int32)) = (j = 38) := propext (nI_eq (a := j) (b := 38) hj (by decide))
theorem q48_le (j : Nat) (hj : j < 2147483648) : ((48 : Int32) ≤ nI j) = (48 ≤ j) := propext (nI_leI (a := 48) (b := j) (by decide) hj)
theorem q48_lt (j : Nat) (hj : j < 2147483648) : ((48 : Int32) < nI j) = (48 < j) := propext (nI_ltI (a := 48) (b := j) (by decide) hj)
theorem q48_gt (j : Nat) (hj : j < 2147483648) : (nI j < (48 : Int32)) = (j < 48) := propext (nI_ltI (a := j) (b := 48) hj (by decide))
theorem q48_eq (j : Nat) (hj : j < 2147483648) : (nI j = (48 : Int32)) = (j = 48) := propext (nI_eq (a := j) (b := 48) hj (by decide))
theorem q54_le (j : Nat) (hj : j < 2147483648) : ((54 : Int32) ≤ nI j) = (54 ≤ j) := propext (nI_leI (a := 54) (b := j) (by decide) hj)
theorem q54_lt (j : Nat) (hj : j < 2147483648) : ((54 : Int32) < nI j) = (54 < j) := propext (nI_ltI (a := 54) (b := j) (by decide) hj)
theorem q54_gt (j : Nat) (hj : j < 2147483648) : (nI j < (54 : Int32)) = (j < 54) := propext (nI_ltI (a := j) (b := 54) hj (by decide))
theorem q54_eq (j : Nat) (hj : j < 2147483648) : (nI j = (54 : Int32)) = (j = 54) := propext (nI_eq (a := j) (b := 54) hj (by decide))
theorem q94_le (j : Nat) (hj : j < 2147483648) : ((94 : Int32) ≤ nI j) = (94 ≤ j) := propext (nI_leI (a := 94) (b := j) (by decide) hj)
theorem q94_lt (j : Nat) (hj : j < 2147483648) : ((94 : Int32) < nI j) = (94 < j) := propext (nI_ltI (a := 94) (b := j) (by decide) hj)
theorem q94_gt (j : Nat) (hj : j < 2147483648) : (nI j < (94 : Int32)) = (j < 94) := propext (nI_ltI (a := j) (b := 94) hj (by decide))
theorem q94_eq (j : Nat) (hj : j < 2147483648) : (nI j = (94 : Int32)) = (j = 94) := propext (nI_eq (a := j) (b := 94) hj (by decide))
theorem q97_le (j : Nat) (hj : j < 2147483648) : ((97 : Int32) ≤ nI j) = (97 ≤ j) := propext (nI_leI (a := 97) (b := j) (by decide) hj)
theorem q97_lt (j : Nat) (hj : j < 2147483648) : ((97 : Int32) < nI j) = (97 < j) := propext (nI_ltI (a := 97) (b := j) (by decide) hj)
theorem q97_gt (j : Nat) (hj : j < 2147483648) : (nI j < (97 : Int32)) = (j < 97) := propext (nI_ltI (a := j) (b := 97) hj (by decide))
theorem q97_eq (j : Nat) (hj : j < 2147483648) : (nI j = (97 : Int32)) = (j = 97) := propext (nI_eq (a := j) (b := 97) hj (by decide))
theorem q101_le (j : Nat) (hj : j < 2147483648) : ((101 : Int32) ≤ nI j) = (101 ≤ j) := propext (nI_leI (a := 101) (b := j) (by decide) hj)
theorem q101_lt (j : Nat) (hj : j < 2147483648) : ((101 : Int32) < nI j) = (101 < j) := propext (nI_ltI (a := 101) (b := j) (by decide) hj)
theorem q101_gt (j : Nat) (hj : j < 2147483648) : (nI j < (101 : Int32)) = (j < 101) := propext (nI_ltI (a := j) (b := 101) hj (by decide))
theorem q101_eq (j : Nat) (hj : j < 2147483648) : (nI j = (101 : Int32)) = (j = 101) := propext (nI_eq (a := j) (b := 101) hj (by decide))
theorem q110_le (j : Nat) (hj : j < 2147483648) : ((110 : Int32) ≤ nI j) = (110 ≤ j) := propext (nI_leI (a := 110) (b := j) (by decide) hj)
theorem q110_lt (j : Nat) (hj : j < 2147483648) : ((110 : Int32) < nI j) = (110 < j) := propext (nI_ltI (a := 110) (b := j) (by decide) hj)
theorem q110_gt (j : Nat) (hj : j < 2147483648) : (nI j < (110 : Int32)) = (j < 110) := propext (nI_ltI (a := j) (b := 110) hj (by decide))
theorem q110_eq (j : Nat) (hj : j < 2147483648) : (nI j = (110 : Int32)) = (j = 110) := propext (nI_eq (a := j) (b := 110) hj (by decide))
theorem q116_le (j : Nat) (hj : j < 2147483648) : ((116 : Int32) ≤ nI j) = (116 ≤ j) := propext (nI_leI (a := 116) (b := j) (by decide) hj)
theorem q116_lt (j : Nat) (hj : j < 2147483648) : ((116 : Int32) < nI j) = (116 < j) := propext (nI_ltI (a := 116) (b := j) (by decide) hj)
theorem q116_gt (j : Nat) (hj : j < 2147483648) : (nI j < (116 : Int32)) = (j < 116) := propext (nI_ltI (a := j) (b := 116) hj (by decide))
theorem q116_eq (j : Nat) (hj : j < 2147483648) : (nI j = (116 : Int32)) = (j = 116) := propext (nI_eq (a := j) (b := 116) hj (by decide))
theorem q121_le (j : Nat) (hj : j < 2147483648) : ((121 : Int32) ≤ nI j) = (121 ≤ j) := propext (nI_leI (a := 121) (b := j) (by decide) hj)
theorem q121_lt (j : Nat) (hj : j < 2147483648) : ((121 : Int32) < nI j) = (121 < j) := propext (nI_ltI (a := 121) (b := j) (by decide) hj)
theorem q121_gt (j : Nat) (hj : j < 2147483648) : (nI j < (121 : Int32)) = (j < 121) := propext (nI_ltI (a := j) (b := 121) hj (by decide))
theorem q121_eq (j : Nat) (hj : j < 2147483648) : (nI j = (121 : Int32)) = (j = 121) := propext (nI_eq (a := j) (b := 121) hj (by decide))
theorem q124_le (j : Nat) (hj : j < 2147483648) : ((124 : Int32) ≤ nI j) = (124 ≤ j) := propext (nI_leI (a := 124) (b := j) (by decide) hj)
theorem q124_lt (j : Nat) (hj : j < 2147483648) : ((124 : Int32) < nI j) = (124 < j) := propext (nI_ltI (a := 124) (b := j) (by decide) hj)
theorem q124_gt (j : Nat) (hj : j < 2147483648) : (nI j < (124 : Int32)) = (j < 124) := propext (nI_ltI (a := j) (b := 124) hj (by decide))
theorem q124_eq (j : Nat) (hj : j < 2147483648) : (nI j = (124 : Int32)) = (j = 124) := propext (nI_eq (a := j) (b := 124) hj (by decide))
/-- a letter that is a question by itself -/
def lf (nf b : Nat) : Bool := (decide (97 ≤ b) && decide (b < 97 + nf)) || decide (b = 116) || (decide (48 ≤ b) && decide (b ≤ 54)) || decide (b = 121)
/-- how many questions a letter wants behind it; 3: it is no letter of one -/
def kd (nf b : Nat) : Nat := if b = 110 then 1 else if b = 38 ∨ b = 124 ∨ b = 94 then 2 else if lf nf b = true then 0 else 3
def kI (k : Nat) : Int32 := if k = 3 then -9 else nI k
/-- the simple question of a letter -/
def sq (b : Nat) : Nat := if b = 116 then 5 else if b = 121 then 18 else if b < 97 then b - 48 + 6 else b - 97
theorem wants_eq : ∀ nf, nf < 6 → ∀ b, b < 256 → m_X10_wants (nI b) (nI nf) = some (kI (kd nf b)) := by decide +kernel
theorem join_eq : ∀ nf, nf < 6 → ∀ b, b < 256 → m_X5_isJoin (nI b) = some (b2i (kd nf b == 2)) := by decide +kernel
theorem sign_eq : ∀ nf, nf < 6 → ∀ b, b < 256 → m_X5_isSign (nI b) = some (b2i (kd nf b == 1 || kd nf b == 2)) := by decide +kernel
theorem hass_eq : ∀ nf, nf < 6 → ∀ b, b < 256 → (kd nf b = 0 ∨ kd nf b = 3) → ((m_X5_simpleOf (nI b)).isSome = true ∧ m_X1_hasSimple ((m_X5_simpleOf (nI b)).getD 0) (nI nf) = some (b2i (kd nf b == 0))) := by decide +kernel
theorem sof_eq : ∀ nf, nf < 6 → ∀ b, b < 256 → kd nf b = 0 → m_X5_simpleOf (nI b) = some (nI (sq b)) ∧ sq b < 19 := by decide +kernel
theorem kd_lt (nf b : Nat) : kd nf b < 4 := by
  unfold kd
  split
  · omega
  · split
    · omega
    · split <;> omega
theorem at_eq {i n : Nat} (hi : i < n) (hn : n ≤ 16) (v : Nat → Int32) : m_X3_at (nI i) 16 (nI n) v = some (v i) := by
  unfold m_X3_at
  simp (disch := omega) only [nm_eq, bd1_some, bd2_some, bd3_some, bd4_some, bd5_some, bd6_some, gd_t, inB_nI, nI_clamp, n_le, n_lt, n_eq, nI_1, Nat.le_refl, Nat.lt_irrefl, Nat.not_lt_zero, Nat.zero_le, ↓reduceIte, q0_le, q0_ge, q0_lt, q0_gt, q0_eq, q0_qe, q1_le, q1_ge, q1_lt, q1_gt, q1_eq, q1_qe, q2_le, q2_ge, q2_lt, q2_gt, q2_eq, q2_qe, q3_le, q3_ge, q3_lt, q3_gt, q3_eq, q3_qe, q5_le, q5_ge, q5_lt, q5_gt, q5_eq, q5_qe, q6_le, q6_ge, q6_lt, q6_gt, q6_eq, q6_qe, q7_le, q7_ge, q7_lt, q7_gt, q7_eq, q7_qe, q10_le, q10_ge, q10_lt, q10_gt, q10_eq, q10_qe, q19_le, q19_ge, q19_lt, q19_gt, q19_eq, q19_qe, q28_le, q28_ge, q28_lt, q28_gt, q28_eq, q28_qe, q32_le, q32_ge, q32_lt, q32_gt, q32_eq, q32_qe, Nat.not_le.mpr hi]
/-- both read a question alike -/
theorem ff_eq {nf n : Nat} (hf : nf < 6) (hn : n ≤ 16) (cb mb : Nat → Int32) (L : Nat → Nat) (hL : ∀ i, i < n → L i < 256 ∧ cb i = nI (L i) ∧ mb i = nI (L i)) (K : Int32 → Option Int32) :
    ∀ fuel j x, j ≤ n → L_X5_firstFault_4 (nI n) cb (nI nf) 16 fuel x (nI j) K = L_X10_slipOf_4 (nI n) (nI nf) mb fuel x (nI j) K := by
  intro fuel
  induction fuel with
  | zero => intro j x hj; rfl
  | succ fuel ih =>
    intro j x hj
    rw [L_X5_firstFault_4.eq_2, L_X10_slipOf_4.eq_2]
    by_cases he : j = n
    · subst he
      simp (disch := omega) only [nm_eq, bd1_some, bd2_some, bd3_some, bd4_some, bd5_some, bd6_some, gd_t, inB_nI, nI_clamp, n_le, n_lt, n_eq, nI_1, Nat.le_refl, Nat.lt_irrefl, Nat.not_lt_zero, Nat.zero_le, ↓reduceIte, q0_le, q0_ge, q0_lt, q0_gt, q0_eq, q0_qe, q1_le, q1_ge, q1_lt, q1_gt, q1_eq, q1_qe, q2_le, q2_ge, q2_lt, q2_gt, q2_eq, q2_qe, q3_le, q3_ge, q3_lt, q3_gt, q3_eq, q3_qe, q5_le, q5_ge, q5_lt, q5_gt, q5_eq, q5_qe, q6_le, q6_ge, q6_lt, q6_gt, q6_eq, q6_qe, q7_le, q7_ge, q7_lt, q7_gt, q7_eq, q7_qe, q10_le, q10_ge, q10_lt, q10_gt, q10_eq, q10_qe, q19_le, q19_ge, q19_lt, q19_gt, q19_eq, q19_qe, q28_le, q28_ge, q28_lt, q28_gt, q28_eq, q28_qe, q32_le, q32_ge, q32_lt, q32_gt, q32_eq, q32_qe]
    · have hlt : j < n := by omega
      obtain ⟨hb, h1, h2⟩ := hL j hlt
      have e1 := join_eq nf hf (L j) hb
      have e2 := sign_eq nf hf (L j) hb
      have e3 := wants_eq nf hf (L j) hb
      simp (disch := omega) only [nm_eq, bd1_some, bd2_some, bd3_some, bd4_some, bd5_some, bd6_some, gd_t, inB_nI, nI_clamp, n_le, n_lt, n_eq, nI_1, Nat.le_refl, Nat.lt_irrefl, Nat.not_lt_zero, Nat.zero_le, ↓reduceIte, q0_le, q0_ge, q0_lt, q0_gt, q0_eq, q0_qe, q1_le, q1_ge, q1_lt, q1_gt, q1_eq, q1_qe, q2_le, q2_ge, q2_lt, q2_gt, q2_eq, q2_qe, q3_le, q3_ge, q3_lt, q3_gt, q3_eq, q3_qe, q5_le, q5_ge, q5_lt, q5_gt, q5_eq, q5_qe, q6_le, q6_ge, q6_lt, q6_gt, q6_eq, q6_qe, q7_le, q7_ge, q7_lt, q7_gt, q7_eq, q7_qe, q10_le, q10_ge, q10_lt, q10_gt, q10_eq, q10_qe, q19_le, q19_ge, q19_lt, q19_gt, q19_eq, q19_qe, q28_le, q28_ge, q28_lt, q28_gt, q28_eq, q28_qe, q32_le, q32_ge, q32_lt, q32_gt, q32_eq, q32_qe, Nat.not_le.mpr hlt, at_eq hlt hn, h1, h2, e1, e2, e3, ih (j + 1) _ hlt]
      by_cases hx : x = 0
      · simp only [hx, ↓reduceIte]
      · simp only [hx, ↓reduceIte]
        have hk := kd_lt nf (L j)
        rcases (show kd nf (L j) = 0 ∨ kd nf (L j) = 1 ∨ kd nf (L j) = 2 ∨ kd nf (L j) = 3 by omega) with k | k | k | k
        · obtain ⟨s1, s2⟩ := sof_eq nf hf (L j) hb k
          have s3 := (hass_eq nf hf (L j) hb (Or.inl k)).2
          rw [s1] at s3
          have n110 : ¬ L j = 110 := by
            intro e; rw [e] at k; revert k; unfold kd; simp
          rw [k] at s3 ⊢
          rw [s1, bd1_some, show (some (nI (sq (L j)))).getD 0 = nI (sq (L j)) from rfl] at *
          rw [s3]
          simp only [show ((0 : Nat) == 0) = true from rfl, show ((0 : Nat) == 1) = false from rfl, show ((0 : Nat) == 2) = false from rfl, show ((1 : Nat) == 0) = false from rfl, show ((1 : Nat) == 1) = true from rfl, show ((1 : Nat) == 2) = false from rfl, show ((2 : Nat) == 0) = false from rfl, show ((2 : Nat) == 1) = false from rfl, show ((2 : Nat) == 2) = true from rfl, show ((3 : Nat) == 0) = false from rfl, show ((3 : Nat) == 1) = false from rfl, show ((3 : Nat) == 2) = false from rfl, Bool.or_false, Bool.false_or, Bool.or_true, Bool.true_or, Bool.or_self, b2i_t, b2i_f, show ¬ (1 : Int32) = 0 by decide, ↓reduceIte, bd1_some, kI, show ¬ (0 : Nat) = 3 by decide, nI_0, show ¬ (0 : Int32) = -9 by decide]
          simp only [q110_eq (L j) (by omega), n110, ↓reduceIte]
          rfl
        · have n110 : L j = 110 := by
            by_cases e : L j = 110
            · exact e
            · exfalso; revert k; unfold kd; rw [if_neg e]; split
              · omega
              · split <;> omega
          rw [k]
          simp only [n110, show ((0 : Nat) == 0) = true from rfl, show ((0 : Nat) == 1) = false from rfl, show ((0 : Nat) == 2) = false from rfl, show ((1 : Nat) == 0) = false from rfl, show ((1 : Nat) == 1) = true from rfl, show ((1 : Nat) == 2) = false from rfl, show ((2 : Nat) == 0) = false from rfl, show ((2 : Nat) == 1) = false from rfl, show ((2 : Nat) == 2) = true from rfl, show ((3 : Nat) == 0) = false from rfl, show ((3 : Nat) == 1) = false from rfl, show ((3 : Nat) == 2) = false from rfl, Bool.or_false, Bool.false_or, Bool.or_true, Bool.true_or, Bool.or_self, b2i_t, b2i_f, show ¬ (1 : Int32) = 0 by decide, ↓reduceIte, kI, show ¬ (1 : Nat) = 3 by decide, show nI 1 = 1 from rfl, show ¬ (1 : Int32) = -9 by decide, show nI 110 = 110 from rfl]
          rw [show x + (1 - 1) = x by rw [show (1 : Int32) - 1 = 0 by decide, Int32.add_zero]]
        · rw [k]
          simp only [show ((0 : Nat) == 0) = true from rfl, show ((0 : Nat) == 1) = false from rfl, show ((0 : Nat) == 2) = false from rfl, show ((1 : Nat) == 0) = false from rfl, show ((1 : Nat) == 1) = true from rfl, show ((1 : Nat) == 2) = false from rfl, show ((2 : Nat) == 0) = false from rfl, show ((2 : Nat) == 1) = false from rfl, show ((2 : Nat) == 2) = true from rfl, show ((3 : Nat) == 0) = false from rfl, show ((3 : Nat) == 1) = false from rfl, show ((3 : Nat) == 2) = false from rfl, Bool.or_false, Bool.false_or, Bool.or_true, Bool.true_or, Bool.or_self, b2i_t, b2i_f, show ¬ (1 : Int32) = 0 by decide, ↓reduceIte, kI, show ¬ (2 : Nat) = 3 by decide, show nI 2 = 2 from rfl, show ¬ (2 : Int32) = -9 by decide]
          rw [show (2 : Int32) - 1 = 1 by decide]
        · obtain ⟨s2, s3⟩ := hass_eq nf hf (L j) hb (Or.inr k)
          obtain ⟨r, hr⟩ := Option.isSome_iff_exists.mp s2
          rw [hr, k] at s3
          rw [k, hr, bd1_some]
          rw [show (some r).getD 0 = r from rfl] at s3
          rw [s3]
          simp only [show ((0 : Nat) == 0) = true from rfl, show ((0 : Nat) == 1) = false from rfl, show ((0 : Nat) == 2) = false from rfl, show ((1 : Nat) == 0) = false from rfl, show ((1 : Nat) == 1) = true from rfl, show ((1 : Nat) == 2) = false from rfl, show ((2 : Nat) == 0) = false from rfl, show ((2 : Nat) == 1) = false from rfl, show ((2 : Nat) == 2) = true from rfl, show ((3 : Nat) == 0) = false from rfl, show ((3 : Nat) == 1) = false from rfl, show ((3 : Nat) == 2) = false from rfl, Bool.or_false, Bool.false_or, Bool.or_true, Bool.true_or, Bool.or_self, b2i_t, b2i_f, ↓reduceIte, bd1_some, kI]
