-- rows of seven sets
def orv (v : Nat → Int32) : Nat → Int32
  | 0 => 0
  | n + 1 => orv v n ||| v n
def pcn (x : Int32) : Nat := fb_ct (bt x) 32
theorem pcn_le (x : Int32) : pcn x ≤ 32 := fb_ct_le _ _
theorem sm7_le (f : Nat → Int32) : ∀ n, fb_sm (fun d => pcn (f d)) n ≤ 32 * n
  | 0 => Nat.le_refl _
  | n + 1 => by
    rw [fb_sm_succ]
    have := sm7_le f n
    have := pcn_le (f n)
    omega
theorem of7 : Int32.ofNat 7 = 7 := rfl
theorem w_count (v : Nat → Int32) : m_X8_count 7 v = some (nI (fb_sm (fun d => pcn (v d)) 7)) := by
  unfold m_X8_count
  rw [nm_eq, of7]
  obtain ⟨s, h1, h2⟩ := loop_u (fun n (s : Int32) j => L_X8_count_10 v 7 7 n s (nI j) (fun x4 => some x4)) (fun s => some s) 7 (fun j s => s = nI (fb_sm (fun d => pcn (v d)) j))
    (by
      intro n s h
      rw [L_X8_count_10.eq_2]
      simp (disch := omega) only [nm_eq, bd1_some, bd2_some, bd3_some, bd4_some, bd5_some, bd6_some, gd_t, inB_nI, nI_clamp, n_le, n_lt, n_eq, nI_1, Nat.le_refl, Nat.lt_irrefl, Nat.not_lt_zero, Nat.zero_le, ↓reduceIte, q0_le, q0_ge, q0_lt, q0_gt, q0_eq, q0_qe, q1_le, q1_ge, q1_lt, q1_gt, q1_eq, q1_qe, q2_le, q2_ge, q2_lt, q2_gt, q2_eq, q2_qe, q3_le, q3_ge, q3_lt, q3_gt, q3_eq, q3_qe, q5_le, q5_ge, q5_lt, q5_gt, q5_eq, q5_qe, q6_le, q6_ge, q6_lt, q6_gt, q6_eq, q6_qe, q7_le, q7_ge, q7_lt, q7_gt, q7_eq, q7_qe, q10_le, q10_ge, q10_lt, q10_gt, q10_eq, q10_qe, q19_le, q19_ge, q19_lt, q19_gt, q19_eq, q19_qe, q28_le, q28_ge, q28_lt, q28_gt, q28_eq, q28_qe, q32_le, q32_ge, q32_lt, q32_gt, q32_eq, q32_qe])
    (by
      intro n s j hj h
      refine Exists.intro ?w ⟨?h1, ?h2⟩
      case h2 =>
        rw [L_X8_count_10.eq_2]
        simp (disch := omega) only [nm_eq, bd1_some, bd2_some, bd3_some, bd4_some, bd5_some, bd6_some, gd_t, inB_nI, nI_clamp, n_le, n_lt, n_eq, nI_1, Nat.le_refl, Nat.lt_irrefl, Nat.not_lt_zero, Nat.zero_le, ↓reduceIte, q0_le, q0_ge, q0_lt, q0_gt, q0_eq, q0_qe, q1_le, q1_ge, q1_lt, q1_gt, q1_eq, q1_qe, q2_le, q2_ge, q2_lt, q2_gt, q2_eq, q2_qe, q3_le, q3_ge, q3_lt, q3_gt, q3_eq, q3_qe, q5_le, q5_ge, q5_lt, q5_gt, q5_eq, q5_qe, q6_le, q6_ge, q6_lt, q6_gt, q6_eq, q6_qe, q7_le, q7_ge, q7_lt, q7_gt, q7_eq, q7_qe, q10_le, q10_ge, q10_lt, q10_gt, q10_eq, q10_qe, q19_le, q19_ge, q19_lt, q19_gt, q19_eq, q19_qe, q28_le, q28_ge, q28_lt, q28_gt, q28_eq, q28_qe, q32_le, q32_ge, q32_lt, q32_gt, q32_eq, q32_qe, Nat.not_le.mpr hj, m_bitCount]
        rfl
      case h1 => rw [h, fb_sm_succ, nI_add]; rfl)
    (j := 0) (s := 0) (fuel := 1024) (by decide) (by decide) rfl
  rw [← h1]
  exact h2
theorem k_count (v : Nat → Int32) {N : Nat} (hN : 7 ≤ N) : m_X10_knownMany N v = some (nI (fb_sm (fun d => pcn (v d)) 7)) := by
  unfold m_X10_knownMany
  obtain ⟨s, h1, h2⟩ := loop_u (fun n (s : Int32) j => L_X10_knownMany_4 v N n s (nI j) (fun x4 => some x4)) (fun s => some s) 7 (fun j s => s = nI (fb_sm (fun d => pcn (v d)) j))
    (by
      intro n s h
      rw [L_X10_knownMany_4.eq_2]
      simp (disch := omega) only [nm_eq, bd1_some, bd2_some, bd3_some, bd4_some, bd5_some, bd6_some, gd_t, inB_nI, nI_clamp, n_le, n_lt, n_eq, nI_1, Nat.le_refl, Nat.lt_irrefl, Nat.not_lt_zero, Nat.zero_le, ↓reduceIte, q0_le, q0_ge, q0_lt, q0_gt, q0_eq, q0_qe, q1_le, q1_ge, q1_lt, q1_gt, q1_eq, q1_qe, q2_le, q2_ge, q2_lt, q2_gt, q2_eq, q2_qe, q3_le, q3_ge, q3_lt, q3_gt, q3_eq, q3_qe, q5_le, q5_ge, q5_lt, q5_gt, q5_eq, q5_qe, q6_le, q6_ge, q6_lt, q6_gt, q6_eq, q6_qe, q7_le, q7_ge, q7_lt, q7_gt, q7_eq, q7_qe, q10_le, q10_ge, q10_lt, q10_gt, q10_eq, q10_qe, q19_le, q19_ge, q19_lt, q19_gt, q19_eq, q19_qe, q28_le, q28_ge, q28_lt, q28_gt, q28_eq, q28_qe, q32_le, q32_ge, q32_lt, q32_gt, q32_eq, q32_qe])
    (by
      intro n s j hj h
      refine Exists.intro ?w ⟨?h1, ?h2⟩
      case h2 =>
        rw [L_X10_knownMany_4.eq_2]
        simp (disch := omega) only [nm_eq, bd1_some, bd2_some, bd3_some, bd4_some, bd5_some, bd6_some, gd_t, inB_nI, nI_clamp, n_le, n_lt, n_eq, nI_1, Nat.le_refl, Nat.lt_irrefl, Nat.not_lt_zero, Nat.zero_le, ↓reduceIte, q0_le, q0_ge, q0_lt, q0_gt, q0_eq, q0_qe, q1_le, q1_ge, q1_lt, q1_gt, q1_eq, q1_qe, q2_le, q2_ge, q2_lt, q2_gt, q2_eq, q2_qe, q3_le, q3_ge, q3_lt, q3_gt, q3_eq, q3_qe, q5_le, q5_ge, q5_lt, q5_gt, q5_eq, q5_qe, q6_le, q6_ge, q6_lt, q6_gt, q6_eq, q6_qe, q7_le, q7_ge, q7_lt, q7_gt, q7_eq, q7_qe, q10_le, q10_ge, q10_lt, q10_gt, q10_eq, q10_qe, q19_le, q19_ge, q19_lt, q19_gt, q19_eq, q19_qe, q28_le, q28_ge, q28_lt, q28_gt, q28_eq, q28_qe, q32_le, q32_ge, q32_lt, q32_gt, q32_eq, q32_qe, Nat.not_le.mpr hj, m_many]
        rfl
      case h1 => rw [h, fb_sm_succ, nI_add]; rfl)
    (j := 0) (s := 0) (fuel := 1024) (by decide) (by decide) rfl
  rw [← h1]
  exact h2
theorem cwf_eq {f : Nat} (hf : f < 5) : m_X9_casesWithFact (nI f) = some (cF f) := (by decide +kernel : ∀ f, f < 5 → m_X9_casesWithFact (nI f) = some (cF f)) f hf
theorem w_cwf (v : Nat → Int32) {f : Nat} (hf : f < 5) : m_X8_countWithFact (nI f) 7 v = some (nI (fb_sm (fun d => pcn (v d &&& cF f)) 7)) := by
  unfold m_X8_countWithFact
  rw [nm_eq, of7]
  obtain ⟨s, h1, h2⟩ := loop_u (fun n (s : Int32) j => L_X8_countWithFact_11 v (nI f) 7 7 n s (nI j) (fun x4 => some x4)) (fun s => some s) 7 (fun j s => s = nI (fb_sm (fun d => pcn (v d &&& cF f)) j))
    (by
      intro n s h
      rw [L_X8_countWithFact_11.eq_2]
      simp (disch := omega) only [nm_eq, bd1_some, bd2_some, bd3_some, bd4_some, bd5_some, bd6_some, gd_t, inB_nI, nI_clamp, n_le, n_lt, n_eq, nI_1, Nat.le_refl, Nat.lt_irrefl, Nat.not_lt_zero, Nat.zero_le, ↓reduceIte, q0_le, q0_ge, q0_lt, q0_gt, q0_eq, q0_qe, q1_le, q1_ge, q1_lt, q1_gt, q1_eq, q1_qe, q2_le, q2_ge, q2_lt, q2_gt, q2_eq, q2_qe, q3_le, q3_ge, q3_lt, q3_gt, q3_eq, q3_qe, q5_le, q5_ge, q5_lt, q5_gt, q5_eq, q5_qe, q6_le, q6_ge, q6_lt, q6_gt, q6_eq, q6_qe, q7_le, q7_ge, q7_lt, q7_gt, q7_eq, q7_qe, q10_le, q10_ge, q10_lt, q10_gt, q10_eq, q10_qe, q19_le, q19_ge, q19_lt, q19_gt, q19_eq, q19_qe, q28_le, q28_ge, q28_lt, q28_gt, q28_eq, q28_qe, q32_le, q32_ge, q32_lt, q32_gt, q32_eq, q32_qe])
    (by
      intro n s j hj h
      refine Exists.intro ?w ⟨?h1, ?h2⟩
      case h2 =>
        rw [L_X8_countWithFact_11.eq_2]
        simp (disch := omega) only [nm_eq, bd1_some, bd2_some, bd3_some, bd4_some, bd5_some, bd6_some, gd_t, inB_nI, nI_clamp, n_le, n_lt, n_eq, nI_1, Nat.le_refl, Nat.lt_irrefl, Nat.not_lt_zero, Nat.zero_le, ↓reduceIte, q0_le, q0_ge, q0_lt, q0_gt, q0_eq, q0_qe, q1_le, q1_ge, q1_lt, q1_gt, q1_eq, q1_qe, q2_le, q2_ge, q2_lt, q2_gt, q2_eq, q2_qe, q3_le, q3_ge, q3_lt, q3_gt, q3_eq, q3_qe, q5_le, q5_ge, q5_lt, q5_gt, q5_eq, q5_qe, q6_le, q6_ge, q6_lt, q6_gt, q6_eq, q6_qe, q7_le, q7_ge, q7_lt, q7_gt, q7_eq, q7_qe, q10_le, q10_ge, q10_lt, q10_gt, q10_eq, q10_qe, q19_le, q19_ge, q19_lt, q19_gt, q19_eq, q19_qe, q28_le, q28_ge, q28_lt, q28_gt, q28_eq, q28_qe, q32_le, q32_ge, q32_lt, q32_gt, q32_eq, q32_qe, Nat.not_le.mpr hj, m_bitCount, cwf_eq hf]
        rfl
      case h1 => rw [h, fb_sm_succ, nI_add]; rfl)
    (j := 0) (s := 0) (fuel := 1024) (by decide) (by decide) rfl
  rw [← h1]
  exact h2
theorem w_ca (v : Nat → Int32) {q g wd : Nat} (hq : q < 19) (hg : g < 3) (hw : wd < 7) : m_X8_countAnswered (nI q) (nI g) (nI wd) 7 v = some (nI (fb_sm (fun d => pcn (v d &&& CA q g wd d)) 7)) := by
  unfold m_X8_countAnswered
  obtain ⟨s, h1, h2⟩ := loop_u (fun n (s : Int32) j => L_X8_countAnswered_6 v (nI q) (nI g) (nI wd) 7 n s (nI j) (fun x4 => some x4)) (fun s => some s) 7 (fun j s => s = nI (fb_sm (fun d => pcn (v d &&& CA q g wd d)) j))
    (by
      intro n s h
      rw [L_X8_countAnswered_6.eq_2, of7]
      simp (disch := omega) only [nm_eq, bd1_some, bd2_some, bd3_some, bd4_some, bd5_some, bd6_some, gd_t, inB_nI, nI_clamp, n_le, n_lt, n_eq, nI_1, Nat.le_refl, Nat.lt_irrefl, Nat.not_lt_zero, Nat.zero_le, ↓reduceIte, q0_le, q0_ge, q0_lt, q0_gt, q0_eq, q0_qe, q1_le, q1_ge, q1_lt, q1_gt, q1_eq, q1_qe, q2_le, q2_ge, q2_lt, q2_gt, q2_eq, q2_qe, q3_le, q3_ge, q3_lt, q3_gt, q3_eq, q3_qe, q5_le, q5_ge, q5_lt, q5_gt, q5_eq, q5_qe, q6_le, q6_ge, q6_lt, q6_gt, q6_eq, q6_qe, q7_le, q7_ge, q7_lt, q7_gt, q7_eq, q7_qe, q10_le, q10_ge, q10_lt, q10_gt, q10_eq, q10_qe, q19_le, q19_ge, q19_lt, q19_gt, q19_eq, q19_qe, q28_le, q28_ge, q28_lt, q28_gt, q28_eq, q28_qe, q32_le, q32_ge, q32_lt, q32_gt, q32_eq, q32_qe])
    (by
      intro n s j hj h
      refine Exists.intro ?w ⟨?h1, ?h2⟩
      case h2 =>
        rw [L_X8_countAnswered_6.eq_2, of7]
        simp (disch := omega) only [nm_eq, bd1_some, bd2_some, bd3_some, bd4_some, bd5_some, bd6_some, gd_t, inB_nI, nI_clamp, n_le, n_lt, n_eq, nI_1, Nat.le_refl, Nat.lt_irrefl, Nat.not_lt_zero, Nat.zero_le, ↓reduceIte, q0_le, q0_ge, q0_lt, q0_gt, q0_eq, q0_qe, q1_le, q1_ge, q1_lt, q1_gt, q1_eq, q1_qe, q2_le, q2_ge, q2_lt, q2_gt, q2_eq, q2_qe, q3_le, q3_ge, q3_lt, q3_gt, q3_eq, q3_qe, q5_le, q5_ge, q5_lt, q5_gt, q5_eq, q5_qe, q6_le, q6_ge, q6_lt, q6_gt, q6_eq, q6_qe, q7_le, q7_ge, q7_lt, q7_gt, q7_eq, q7_qe, q10_le, q10_ge, q10_lt, q10_gt, q10_eq, q10_qe, q19_le, q19_ge, q19_lt, q19_gt, q19_eq, q19_qe, q28_le, q28_ge, q28_lt, q28_gt, q28_eq, q28_qe, q32_le, q32_ge, q32_lt, q32_gt, q32_eq, q32_qe, Nat.not_le.mpr hj, m_bitCount, (ca_eq hq hg hw hj).1]
        rfl
      case h1 => rw [h, fb_sm_succ, nI_add]; rfl)
    (j := 0) (s := 0) (fuel := 1024) (by decide) (by decide) rfl
  rw [← h1]
  exact h2
theorem w_any (v : Nat → Int32) : m_X8_casesOfAnyDay 7 v = some (orv v 7) := by
  unfold m_X8_casesOfAnyDay
  rw [nm_eq, of7]
  obtain ⟨s, h1, h2⟩ := loop_u (fun n (s : Int32) j => L_X8_casesOfAnyDay_10 v 7 7 n s (nI j) (fun x4 => some x4)) (fun s => some s) 7 (fun j s => s = orv v j)
    (by
      intro n s h
      rw [L_X8_casesOfAnyDay_10.eq_2]
      simp (disch := omega) only [nm_eq, bd1_some, bd2_some, bd3_some, bd4_some, bd5_some, bd6_some, gd_t, inB_nI, nI_clamp, n_le, n_lt, n_eq, nI_1, Nat.le_refl, Nat.lt_irrefl, Nat.not_lt_zero, Nat.zero_le, ↓reduceIte, q0_le, q0_ge, q0_lt, q0_gt, q0_eq, q0_qe, q1_le, q1_ge, q1_lt, q1_gt, q1_eq, q1_qe, q2_le, q2_ge, q2_lt, q2_gt, q2_eq, q2_qe, q3_le, q3_ge, q3_lt, q3_gt, q3_eq, q3_qe, q5_le, q5_ge, q5_lt, q5_gt, q5_eq, q5_qe, q6_le, q6_ge, q6_lt, q6_gt, q6_eq, q6_qe, q7_le, q7_ge, q7_lt, q7_gt, q7_eq, q7_qe, q10_le, q10_ge, q10_lt, q10_gt, q10_eq, q10_qe, q19_le, q19_ge, q19_lt, q19_gt, q19_eq, q19_qe, q28_le, q28_ge, q28_lt, q28_gt, q28_eq, q28_qe, q32_le, q32_ge, q32_lt, q32_gt, q32_eq, q32_qe])
    (by
      intro n s j hj h
      refine Exists.intro ?w ⟨?h1, ?h2⟩
      case h2 =>
        rw [L_X8_casesOfAnyDay_10.eq_2]
        simp (disch := omega) only [nm_eq, bd1_some, bd2_some, bd3_some, bd4_some, bd5_some, bd6_some, gd_t, inB_nI, nI_clamp, n_le, n_lt, n_eq, nI_1, Nat.le_refl, Nat.lt_irrefl, Nat.not_lt_zero, Nat.zero_le, ↓reduceIte, q0_le, q0_ge, q0_lt, q0_gt, q0_eq, q0_qe, q1_le, q1_ge, q1_lt, q1_gt, q1_eq, q1_qe, q2_le, q2_ge, q2_lt, q2_gt, q2_eq, q2_qe, q3_le, q3_ge, q3_lt, q3_gt, q3_eq, q3_qe, q5_le, q5_ge, q5_lt, q5_gt, q5_eq, q5_qe, q6_le, q6_ge, q6_lt, q6_gt, q6_eq, q6_qe, q7_le, q7_ge, q7_lt, q7_gt, q7_eq, q7_qe, q10_le, q10_ge, q10_lt, q10_gt, q10_eq, q10_qe, q19_le, q19_ge, q19_lt, q19_gt, q19_eq, q19_qe, q28_le, q28_ge, q28_lt, q28_gt, q28_eq, q28_qe, q32_le, q32_ge, q32_lt, q32_gt, q32_eq, q32_qe, Nat.not_le.mpr hj]
        rfl
      case h1 => rw [h]; rfl)
    (j := 0) (s := 0) (fuel := 1024) (by decide) (by decide) rfl
  rw [← h1]
  exact h2
theorem w_fill (x : Int32) (v : Nat → Int32) : ∃ w, m_X8_fill x 7 v = some w ∧ ∀ i, i < 7 → w i = x := by
  unfold m_X8_fill
  obtain ⟨s, h1, h2⟩ := loop_u (fun n (s : Nat → Int32) j => L_X8_fill_2 x 7 n (nI j) s (fun x4 => some x4)) (fun s => some s) 7 (fun j s => ∀ i, i < j → s i = x)
    (by
      intro n s h
      rw [L_X8_fill_2.eq_2, of7]
      simp (disch := omega) only [nm_eq, bd1_some, bd2_some, bd3_some, bd4_some, bd5_some, bd6_some, gd_t, inB_nI, nI_clamp, n_le, n_lt, n_eq, nI_1, Nat.le_refl, Nat.lt_irrefl, Nat.not_lt_zero, Nat.zero_le, ↓reduceIte, q0_le, q0_ge, q0_lt, q0_gt, q0_eq, q0_qe, q1_le, q1_ge, q1_lt, q1_gt, q1_eq, q1_qe, q2_le, q2_ge, q2_lt, q2_gt, q2_eq, q2_qe, q3_le, q3_ge, q3_lt, q3_gt, q3_eq, q3_qe, q5_le, q5_ge, q5_lt, q5_gt, q5_eq, q5_qe, q6_le, q6_ge, q6_lt, q6_gt, q6_eq, q6_qe, q7_le, q7_ge, q7_lt, q7_gt, q7_eq, q7_qe, q10_le, q10_ge, q10_lt, q10_gt, q10_eq, q10_qe, q19_le, q19_ge, q19_lt, q19_gt, q19_eq, q19_qe, q28_le, q28_ge, q28_lt, q28_gt, q28_eq, q28_qe, q32_le, q32_ge, q32_lt, q32_gt, q32_eq, q32_qe])
    (by
      intro n s j hj h
      refine Exists.intro ?w ⟨?h1, ?h2⟩
      case h2 =>
        rw [L_X8_fill_2.eq_2, of7]
        simp (disch := omega) only [nm_eq, bd1_some, bd2_some, bd3_some, bd4_some, bd5_some, bd6_some, gd_t, inB_nI, nI_clamp, n_le, n_lt, n_eq, nI_1, Nat.le_refl, Nat.lt_irrefl, Nat.not_lt_zero, Nat.zero_le, ↓reduceIte, q0_le, q0_ge, q0_lt, q0_gt, q0_eq, q0_qe, q1_le, q1_ge, q1_lt, q1_gt, q1_eq, q1_qe, q2_le, q2_ge, q2_lt, q2_gt, q2_eq, q2_qe, q3_le, q3_ge, q3_lt, q3_gt, q3_eq, q3_qe, q5_le, q5_ge, q5_lt, q5_gt, q5_eq, q5_qe, q6_le, q6_ge, q6_lt, q6_gt, q6_eq, q6_qe, q7_le, q7_ge, q7_lt, q7_gt, q7_eq, q7_qe, q10_le, q10_ge, q10_lt, q10_gt, q10_eq, q10_qe, q19_le, q19_ge, q19_lt, q19_gt, q19_eq, q19_qe, q28_le, q28_ge, q28_lt, q28_gt, q28_eq, q28_qe, q32_le, q32_ge, q32_lt, q32_gt, q32_eq, q32_qe, Nat.not_le.mpr hj]
        rfl
      case h1 =>
        intro i hi
        by_cases e : i = j
        · subst e; exact pk_us
        · rw [pk_un e]; exact h i (by omega))
    (j := 0) (s := v) (fuel := 1024) (by decide) (by decide) (fun i hi => absurd hi (Nat.not_lt_zero i))
  exact ⟨s, h2, h1⟩
/-- narrowing into another row -/
theorem w_narrow (v w : Nat → Int32) {q g wd : Nat} (hq : q < 19) (hg : g < 3) (hw : wd < 7) : ∃ w', m_X8_narrow (nI q) (nI g) (nI wd) 7 7 v w = some w' ∧ ∀ i, i < 7 → w' i = v i &&& CA q g wd i := by
  unfold m_X8_narrow
  rw [nm_eq, of7, if_neg (by decide)]
  obtain ⟨s, h1, h2⟩ := loop_u (fun n (s : Nat → Int32) j => L_X8_narrow_12 v (nI q) (nI g) (nI wd) 7 7 7 n (nI j) s (fun x4 => some x4)) (fun s => some s) 7 (fun j s => ∀ i, i < j → s i = v i &&& CA q g wd i)
    (by
      intro n s h
      rw [L_X8_narrow_12.eq_2]
      simp (disch := omega) only [nm_eq, bd1_some, bd2_some, bd3_some, bd4_some, bd5_some, bd6_some, gd_t, inB_nI, nI_clamp, n_le, n_lt, n_eq, nI_1, Nat.le_refl, Nat.lt_irrefl, Nat.not_lt_zero, Nat.zero_le, ↓reduceIte, q0_le, q0_ge, q0_lt, q0_gt, q0_eq, q0_qe, q1_le, q1_ge, q1_lt, q1_gt, q1_eq, q1_qe, q2_le, q2_ge, q2_lt, q2_gt, q2_eq, q2_qe, q3_le, q3_ge, q3_lt, q3_gt, q3_eq, q3_qe, q5_le, q5_ge, q5_lt, q5_gt, q5_eq, q5_qe, q6_le, q6_ge, q6_lt, q6_gt, q6_eq, q6_qe, q7_le, q7_ge, q7_lt, q7_gt, q7_eq, q7_qe, q10_le, q10_ge, q10_lt, q10_gt, q10_eq, q10_qe, q19_le, q19_ge, q19_lt, q19_gt, q19_eq, q19_qe, q28_le, q28_ge, q28_lt, q28_gt, q28_eq, q28_qe, q32_le, q32_ge, q32_lt, q32_gt, q32_eq, q32_qe])
    (by
      intro n s j hj h
      refine Exists.intro ?w ⟨?h1, ?h2⟩
      case h2 =>
        rw [L_X8_narrow_12.eq_2]
        simp (disch := omega) only [nm_eq, bd1_some, bd2_some, bd3_some, bd4_some, bd5_some, bd6_some, gd_t, inB_nI, nI_clamp, n_le, n_lt, n_eq, nI_1, Nat.le_refl, Nat.lt_irrefl, Nat.not_lt_zero, Nat.zero_le, ↓reduceIte, q0_le, q0_ge, q0_lt, q0_gt, q0_eq, q0_qe, q1_le, q1_ge, q1_lt, q1_gt, q1_eq, q1_qe, q2_le, q2_ge, q2_lt, q2_gt, q2_eq, q2_qe, q3_le, q3_ge, q3_lt, q3_gt, q3_eq, q3_qe, q5_le, q5_ge, q5_lt, q5_gt, q5_eq, q5_qe, q6_le, q6_ge, q6_lt, q6_gt, q6_eq, q6_qe, q7_le, q7_ge, q7_lt, q7_gt, q7_eq, q7_qe, q10_le, q10_ge, q10_lt, q10_gt, q10_eq, q10_qe, q19_le, q19_ge, q19_lt, q19_gt, q19_eq, q19_qe, q28_le, q28_ge, q28_lt, q28_gt, q28_eq, q28_qe, q32_le, q32_ge, q32_lt, q32_gt, q32_eq, q32_qe, Nat.not_le.mpr hj, (ca_eq hq hg hw hj).1]
        rfl
      case h1 =>
        intro i hi
        by_cases e : i = j
        · subst e; exact pk_us
        · rw [pk_un e]; exact h i (by omega))
    (j := 0) (s := w) (fuel := 1024) (by decide) (by decide) (fun i hi => absurd hi (Nat.not_lt_zero i))
  exact ⟨s, h2, h1⟩
/-- narrowing in place -/
theorem w_narrow1 (v : Nat → Int32) {q g wd : Nat} (hq : q < 19) (hg : g < 3) (hw : wd < 7) : ∃ w', m_X8_narrow_e01 (nI q) (nI g) (nI wd) 7 v = some w' ∧ ∀ i, i < 7 → w' i = v i &&& CA q g wd i := by
  unfold m_X8_narrow_e01
  rw [nm_eq, of7, if_neg (by decide)]
  obtain ⟨s, h1, h2⟩ := loop_u (fun n (s : Nat → Int32) j => L_X8_narrow_e01_12 (nI q) (nI g) (nI wd) 7 7 n (nI j) s (fun x4 => some x4)) (fun s => some s) 7 (fun j s => (∀ i, i < j → s i = v i &&& CA q g wd i) ∧ ∀ i, j ≤ i → s i = v i)
    (by
      intro n s h
      rw [L_X8_narrow_e01_12.eq_2]
      simp (disch := omega) only [nm_eq, bd1_some, bd2_some, bd3_some, bd4_some, bd5_some, bd6_some, gd_t, inB_nI, nI_clamp, n_le, n_lt, n_eq, nI_1, Nat.le_refl, Nat.lt_irrefl, Nat.not_lt_zero, Nat.zero_le, ↓reduceIte, q0_le, q0_ge, q0_lt, q0_gt, q0_eq, q0_qe, q1_le, q1_ge, q1_lt, q1_gt, q1_eq, q1_qe, q2_le, q2_ge, q2_lt, q2_gt, q2_eq, q2_qe, q3_le, q3_ge, q3_lt, q3_gt, q3_eq, q3_qe, q5_le, q5_ge, q5_lt, q5_gt, q5_eq, q5_qe, q6_le, q6_ge, q6_lt, q6_gt, q6_eq, q6_qe, q7_le, q7_ge, q7_lt, q7_gt, q7_eq, q7_qe, q10_le, q10_ge, q10_lt, q10_gt, q10_eq, q10_qe, q19_le, q19_ge, q19_lt, q19_gt, q19_eq, q19_qe, q28_le, q28_ge, q28_lt, q28_gt, q28_eq, q28_qe, q32_le, q32_ge, q32_lt, q32_gt, q32_eq, q32_qe])
    (by
      intro n s j hj h
      refine Exists.intro ?w ⟨?h1, ?h2⟩
      case h2 =>
        rw [L_X8_narrow_e01_12.eq_2]
        simp (disch := omega) only [nm_eq, bd1_some, bd2_some, bd3_some, bd4_some, bd5_some, bd6_some, gd_t, inB_nI, nI_clamp, n_le, n_lt, n_eq, nI_1, Nat.le_refl, Nat.lt_irrefl, Nat.not_lt_zero, Nat.zero_le, ↓reduceIte, q0_le, q0_ge, q0_lt, q0_gt, q0_eq, q0_qe, q1_le, q1_ge, q1_lt, q1_gt, q1_eq, q1_qe, q2_le, q2_ge, q2_lt, q2_gt, q2_eq, q2_qe, q3_le, q3_ge, q3_lt, q3_gt, q3_eq, q3_qe, q5_le, q5_ge, q5_lt, q5_gt, q5_eq, q5_qe, q6_le, q6_ge, q6_lt, q6_gt, q6_eq, q6_qe, q7_le, q7_ge, q7_lt, q7_gt, q7_eq, q7_qe, q10_le, q10_ge, q10_lt, q10_gt, q10_eq, q10_qe, q19_le, q19_ge, q19_lt, q19_gt, q19_eq, q19_qe, q28_le, q28_ge, q28_lt, q28_gt, q28_eq, q28_qe, q32_le, q32_ge, q32_lt, q32_gt, q32_eq, q32_qe, Nat.not_le.mpr hj, (ca_eq hq hg hw hj).1]
        rfl
      case h1 =>
        refine ⟨fun i hi => ?_, fun i hi => ?_⟩
        · by_cases e : i = j
          · subst e; rw [pk_us, h.2 i (Nat.le_refl i)]
          · rw [pk_un e]; exact h.1 i (by omega)
        · rw [pk_un (by omega)]; exact h.2 i (by omega))
    (j := 0) (s := v) (fuel := 1024) (by decide) (by decide) ⟨fun i hi => absurd hi (Nat.not_lt_zero i), fun i _ => rfl⟩
  exact ⟨s, h2, h1.1⟩
/-- the true days of a row -/
theorem w_days (v : Nat → Int32) : ∃ r, m_X8_trueDays 7 v = some r ∧ ∀ i, i < 32 → bt r i = (decide (i < 7) && !(decide (v i = 0))) := by
  unfold m_X8_trueDays
  obtain ⟨s, h1, h2⟩ := loop_u (fun n (s : Int32) j => L_X8_trueDays_4 v 7 n s (nI j) (fun x4 => some x4)) (fun s => some s) 7 (fun j s => ∀ i, i < 32 → bt s i = (decide (i < j) && !(decide (v i = 0))))
    (by
      intro n s h
      rw [L_X8_trueDays_4.eq_2, of7]
      simp (disch := omega) only [nm_eq, bd1_some, bd2_some, bd3_some, bd4_some, bd5_some, bd6_some, gd_t, inB_nI, nI_clamp, n_le, n_lt, n_eq, nI_1, Nat.le_refl, Nat.lt_irrefl, Nat.not_lt_zero, Nat.zero_le, ↓reduceIte, q0_le, q0_ge, q0_lt, q0_gt, q0_eq, q0_qe, q1_le, q1_ge, q1_lt, q1_gt, q1_eq, q1_qe, q2_le, q2_ge, q2_lt, q2_gt, q2_eq, q2_qe, q3_le, q3_ge, q3_lt, q3_gt, q3_eq, q3_qe, q5_le, q5_ge, q5_lt, q5_gt, q5_eq, q5_qe, q6_le, q6_ge, q6_lt, q6_gt, q6_eq, q6_qe, q7_le, q7_ge, q7_lt, q7_gt, q7_eq, q7_qe, q10_le, q10_ge, q10_lt, q10_gt, q10_eq, q10_qe, q19_le, q19_ge, q19_lt, q19_gt, q19_eq, q19_qe, q28_le, q28_ge, q28_lt, q28_gt, q28_eq, q28_qe, q32_le, q32_ge, q32_lt, q32_gt, q32_eq, q32_qe])
    (by
      intro n s j hj h
      have hb := or_bit (f := fun i => !(decide (v i = 0))) (by omega : j < 32) h
      by_cases hv : v j = 0
      · refine ⟨s, fun i hi => ?_, ?_⟩
        · have := hb i hi
          simp only [hv, decide_true, Bool.not_true, reduceCtorEq, ↓reduceIte] at this
          rw [← this]
          rw [b_or, b_0, Bool.or_false]
        · rw [L_X8_trueDays_4.eq_2, of7]
          simp (disch := omega) only [nm_eq, bd1_some, bd2_some, bd3_some, bd4_some, bd5_some, bd6_some, gd_t, inB_nI, nI_clamp, n_le, n_lt, n_eq, nI_1, Nat.le_refl, Nat.lt_irrefl, Nat.not_lt_zero, Nat.zero_le, ↓reduceIte, q0_le, q0_ge, q0_lt, q0_gt, q0_eq, q0_qe, q1_le, q1_ge, q1_lt, q1_gt, q1_eq, q1_qe, q2_le, q2_ge, q2_lt, q2_gt, q2_eq, q2_qe, q3_le, q3_ge, q3_lt, q3_gt, q3_eq, q3_qe, q5_le, q5_ge, q5_lt, q5_gt, q5_eq, q5_qe, q6_le, q6_ge, q6_lt, q6_gt, q6_eq, q6_qe, q7_le, q7_ge, q7_lt, q7_gt, q7_eq, q7_qe, q10_le, q10_ge, q10_lt, q10_gt, q10_eq, q10_qe, q19_le, q19_ge, q19_lt, q19_gt, q19_eq, q19_qe, q28_le, q28_ge, q28_lt, q28_gt, q28_eq, q28_qe, q32_le, q32_ge, q32_lt, q32_gt, q32_eq, q32_qe, Nat.not_le.mpr hj, hv]
      · refine ⟨s ||| (1 : Int32) <<< (nI j &&& 31), fun i hi => ?_, ?_⟩
        · have := hb i hi
          simp only [hv, decide_false, Bool.not_false, ↓reduceIte] at this
          exact this
        · rw [L_X8_trueDays_4.eq_2, of7]
          simp (disch := omega) only [nm_eq, bd1_some, bd2_some, bd3_some, bd4_some, bd5_some, bd6_some, gd_t, inB_nI, nI_clamp, n_le, n_lt, n_eq, nI_1, Nat.le_refl, Nat.lt_irrefl, Nat.not_lt_zero, Nat.zero_le, ↓reduceIte, q0_le, q0_ge, q0_lt, q0_gt, q0_eq, q0_qe, q1_le, q1_ge, q1_lt, q1_gt, q1_eq, q1_qe, q2_le, q2_ge, q2_lt, q2_gt, q2_eq, q2_qe, q3_le, q3_ge, q3_lt, q3_gt, q3_eq, q3_qe, q5_le, q5_ge, q5_lt, q5_gt, q5_eq, q5_qe, q6_le, q6_ge, q6_lt, q6_gt, q6_eq, q6_qe, q7_le, q7_ge, q7_lt, q7_gt, q7_eq, q7_qe, q10_le, q10_ge, q10_lt, q10_gt, q10_eq, q10_qe, q19_le, q19_ge, q19_lt, q19_gt, q19_eq, q19_qe, q28_le, q28_ge, q28_lt, q28_gt, q28_eq, q28_qe, q32_le, q32_ge, q32_lt, q32_gt, q32_eq, q32_qe, Nat.not_le.mpr hj, hv])
    (j := 0) (s := 0) (fuel := 1024) (by decide) (by decide) (fun i hi => by rw [b_0]; simp)
  exact ⟨s, h2, h1⟩
theorem k_days (v : Nat → Int32) {N : Nat} (hN : 7 ≤ N) : ∃ r, m_X10_daysOf N v = some r ∧ ∀ i, i < 32 → bt r i = (decide (i < 7) && !(decide (v i = 0))) := by
  unfold m_X10_daysOf
  obtain ⟨s, h1, h2⟩ := loop_u (fun n (s : Int32) j => L_X10_daysOf_4 v N n s (nI j) (fun x4 => some x4)) (fun s => some s) 7 (fun j s => ∀ i, i < 32 → bt s i = (decide (i < j) && !(decide (v i = 0))))
    (by
      intro n s h
      rw [L_X10_daysOf_4.eq_2]
      simp (disch := omega) only [nm_eq, bd1_some, bd2_some, bd3_some, bd4_some, bd5_some, bd6_some, gd_t, inB_nI, nI_clamp, n_le, n_lt, n_eq, nI_1, Nat.le_refl, Nat.lt_irrefl, Nat.not_lt_zero, Nat.zero_le, ↓reduceIte, q0_le, q0_ge, q0_lt, q0_gt, q0_eq, q0_qe, q1_le, q1_ge, q1_lt, q1_gt, q1_eq, q1_qe, q2_le, q2_ge, q2_lt, q2_gt, q2_eq, q2_qe, q3_le, q3_ge, q3_lt, q3_gt, q3_eq, q3_qe, q5_le, q5_ge, q5_lt, q5_gt, q5_eq, q5_qe, q6_le, q6_ge, q6_lt, q6_gt, q6_eq, q6_qe, q7_le, q7_ge, q7_lt, q7_gt, q7_eq, q7_qe, q10_le, q10_ge, q10_lt, q10_gt, q10_eq, q10_qe, q19_le, q19_ge, q19_lt, q19_gt, q19_eq, q19_qe, q28_le, q28_ge, q28_lt, q28_gt, q28_eq, q28_qe, q32_le, q32_ge, q32_lt, q32_gt, q32_eq, q32_qe])
    (by
      intro n s j hj h
      have hb := or_bit (f := fun i => !(decide (v i = 0))) (by omega : j < 32) h
      refine ⟨s ||| (if v j = 0 then 0 else (1 : Int32) <<< (nI j &&& 31)), fun i hi => ?_, ?_⟩
      · have := hb i hi
        by_cases hv : v j = 0
        · simp only [hv, decide_true, Bool.not_true, reduceCtorEq, ↓reduceIte] at this ⊢
          exact this
        · simp only [hv, decide_false, Bool.not_false, ↓reduceIte] at this ⊢
          exact this
      · rw [L_X10_daysOf_4.eq_2]
        simp only [nm_ite]
        simp (disch := omega) only [nm_eq, bd1_some, bd2_some, bd3_some, bd4_some, bd5_some, bd6_some, gd_t, inB_nI, nI_clamp, n_le, n_lt, n_eq, nI_1, Nat.le_refl, Nat.lt_irrefl, Nat.not_lt_zero, Nat.zero_le, ↓reduceIte, q0_le, q0_ge, q0_lt, q0_gt, q0_eq, q0_qe, q1_le, q1_ge, q1_lt, q1_gt, q1_eq, q1_qe, q2_le, q2_ge, q2_lt, q2_gt, q2_eq, q2_qe, q3_le, q3_ge, q3_lt, q3_gt, q3_eq, q3_qe, q5_le, q5_ge, q5_lt, q5_gt, q5_eq, q5_qe, q6_le, q6_ge, q6_lt, q6_gt, q6_eq, q6_qe, q7_le, q7_ge, q7_lt, q7_gt, q7_eq, q7_qe, q10_le, q10_ge, q10_lt, q10_gt, q10_eq, q10_qe, q19_le, q19_ge, q19_lt, q19_gt, q19_eq, q19_qe, q28_le, q28_ge, q28_lt, q28_gt, q28_eq, q28_qe, q32_le, q32_ge, q32_lt, q32_gt, q32_eq, q32_qe, Nat.not_le.mpr hj])
    (j := 0) (s := 0) (fuel := 1024) (by decide) (by decide) (fun i hi => by rw [b_0]; simp)
  exact ⟨s, h2, h1⟩
