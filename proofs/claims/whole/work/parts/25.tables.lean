theorem m_in (x a b : Int64) : m_X10_in x a b = some (b2i (decide (a ≤ x) && decide (x ≤ b))) := by
  unfold m_X10_in
  have c1 : (lg_cmp x a < 0) ↔ x < a := by
    unfold lg_cmp
    by_cases h : a < x
    · rw [if_pos h]
      exact ⟨fun q => absurd q (by decide), fun q => absurd q (Int64.lt_asymm h)⟩
    · rw [if_neg h]
      replace h := Int64.not_lt.mp h
      by_cases e : x = a
      · rw [if_pos e, e]
        exact ⟨fun q => absurd q (by decide), fun q => absurd q (Int64.lt_irrefl)⟩
      · rw [if_neg e]
        exact ⟨fun _ => Int64.lt_of_le_of_ne h e, fun _ => by decide⟩
  have c2 : (0 < lg_cmp x b) ↔ b < x := by
    unfold lg_cmp
    by_cases h : b < x
    · rw [if_pos h]
      exact ⟨fun _ => h, fun _ => by decide⟩
    · rw [if_neg h]
      replace h := Int64.not_lt.mp h
      by_cases e : x = b
      · rw [if_pos e, e]
        exact ⟨fun q => absurd q (by decide), fun q => absurd q (Int64.lt_irrefl)⟩
      · rw [if_neg e]
        exact ⟨fun q => absurd q (by decide), fun q => absurd q (Int64.not_lt.mpr h)⟩
  rw [nm_eq]
  by_cases h1 : x < a
  · rw [if_pos (c1.mpr h1), decide_eq_false (Int64.not_le.mpr h1)]; rfl
  · rw [if_neg (fun q => h1 (c1.mp q)), decide_eq_true (Int64.not_lt.mp h1)]
    by_cases h2 : b < x
    · rw [if_pos (c2.mpr h2), decide_eq_false (Int64.not_le.mpr h2)]; rfl
    · rw [if_neg (fun q => h2 (c2.mp q)), decide_eq_true (Int64.not_lt.mp h2)]; rfl
/-- whether an int lies between two small numbers -/
theorem m_inI (x : Int32) (a b : Int32) : m_X10_in (Int32.toInt64 x) (Int32.toInt64 a) (Int32.toInt64 b) = some (b2i (decide (a ≤ x) && decide (x ≤ b))) := by
  rw [m_in]
  simp only [fa_wide_le]
theorem m_in0 (x : Int32) (b : Int32) (B : Int64) (hB : B = Int32.toInt64 b) : m_X10_in (Int32.toInt64 x) (0 : Int64) B = some (b2i (decide (0 ≤ x) && decide (x ≤ b))) := by
  rw [hB]
  exact m_inI x 0 b
/-- the simple questions that there are -/
def okS (nf q : Nat) : Bool := if q < 5 then decide (q < nf) else if 13 ≤ q ∧ q < 18 then decide (q - 13 < nf) else true
theorem hs_key : ∀ nf, nf < 6 → ∀ q, q < 19 → m_X1_hasSimple (nI q) (nI nf) = some (b2i (okS nf q)) ∧ m_X10_noSimple (nI q) (nI nf) = some (b2i (!okS nf q)) := by decide +kernel
/-- any int: it is a simple question that there is, or both refuse it -/
theorem hs_any (x : Int32) {nf : Nat} (hf : nf < 6) : (∃ q, q < 19 ∧ okS nf q = true ∧ x = nI q ∧ m_X1_hasSimple x (nI nf) = some 1 ∧ m_X10_noSimple x (nI nf) = some 0) ∨ (m_X1_hasSimple x (nI nf) = some 0 ∧ m_X10_noSimple x (nI nf) = some 1) := by
  have hout : (x < 0 ∨ nI 19 ≤ x) → (m_X1_hasSimple x (nI nf) = some 0 ∧ m_X10_noSimple x (nI nf) = some 1) := by
    intro h
    constructor
    · unfold m_X1_hasSimple
      rcases h with h | h
      · rw [if_pos h]
      · by_cases h0 : x < 0
        · rw [if_pos h0]
        · rw [if_neg h0, if_neg (show ¬ x < 19 from Int32.not_lt.mpr h)]
    · unfold m_X10_noSimple
      have : m_X10_in (Int32.toInt64 x) (0 : Int64) (18 : Int64) = some 0 := by
        rw [m_in0 x 18 18 rfl]
        rcases h with h | h
        · rw [decide_eq_false (Int32.not_le.mpr h)]; rfl
        · rw [decide_eq_false (p := x ≤ 18) (fun q => absurd (Int32.le_trans h q) (by decide)), Bool.and_false]; rfl
      rw [this, bd1_some, nm_eq, if_pos rfl]
  rcases pk_ix x (n := 19) (by decide) with h | h | ⟨q, hq, rfl⟩
  · exact Or.inr (hout (Or.inl h))
  · exact Or.inr (hout (Or.inr h))
  · obtain ⟨h1, h2⟩ := hs_key nf hf q hq
    cases ho : okS nf q
    · rw [ho] at h1 h2
      exact Or.inr ⟨h1, h2⟩
    · rw [ho] at h1 h2
      exact Or.inl ⟨q, hq, ho, rfl, h1, h2⟩
-- what all know
theorem ag_class {nf : Nat} (hf : nf < 6) (so cm : Int32) : ∃ r, m_X1_casesThatAgree (nI nf) so cm = some r ∧ ∀ i, i < 32 → bt r i = (decide (i < 2 ^ nf) && decide (((nI i ^^^ so) &&& cm) = 0)) := by
  have hN : 2 ^ nf ≤ 32 := (by decide : ∀ n, n < 6 → 2 ^ n ≤ 32) nf hf
  unfold m_X1_casesThatAgree
  have e0 := one_shl nf (by omega)
  generalize 2 ^ nf = N at hN e0 ⊢
  obtain ⟨s, h1, h2⟩ := loop_u (fun n (s : Int32) j => L_X1_casesThatAgree_4 (nI nf) so cm n s (nI j) (fun x4 => some x4)) (fun s => some s) N (fun j s => ∀ i, i < 32 → bt s i = (decide (i < j) && decide (((nI i ^^^ so) &&& cm) = 0)))
    (by
      intro n s h
      rw [L_X1_casesThatAgree_4.eq_2, e0]
      simp (disch := omega) only [nm_eq, bd1_some, bd2_some, bd3_some, bd4_some, bd5_some, bd6_some, gd_t, inB_nI, nI_clamp, n_le, n_lt, n_eq, nI_1, Nat.le_refl, Nat.lt_irrefl, Nat.not_lt_zero, Nat.zero_le, ↓reduceIte, q0_le, q0_ge, q0_lt, q0_gt, q0_eq, q0_qe, q1_le, q1_ge, q1_lt, q1_gt, q1_eq, q1_qe, q2_le, q2_ge, q2_lt, q2_gt, q2_eq, q2_qe, q3_le, q3_ge, q3_lt, q3_gt, q3_eq, q3_qe, q5_le, q5_ge, q5_lt, q5_gt, q5_eq, q5_qe, q6_le, q6_ge, q6_lt, q6_gt, q6_eq, q6_qe, q7_le, q7_ge, q7_lt, q7_gt, q7_eq, q7_qe, q10_le, q10_ge, q10_lt, q10_gt, q10_eq, q10_qe, q19_le, q19_ge, q19_lt, q19_gt, q19_eq, q19_qe, q28_le, q28_ge, q28_lt, q28_gt, q28_eq, q28_qe, q32_le, q32_ge, q32_lt, q32_gt, q32_eq, q32_qe])
    (by
      intro n s j hj h
      have hb := or_bit (f := fun i => decide (((nI i ^^^ so) &&& cm) = 0)) (by omega : j < 32) h
      by_cases hv : ((nI j ^^^ so) &&& cm) = 0
      · refine ⟨s ||| (1 : Int32) <<< (nI j &&& 31), fun i hi => ?_, ?_⟩
        · have := hb i hi
          simp only [hv, decide_true, ↓reduceIte] at this
          exact this
        · rw [L_X1_casesThatAgree_4.eq_2, e0]
          simp (disch := omega) only [nm_eq, bd1_some, bd2_some, bd3_some, bd4_some, bd5_some, bd6_some, gd_t, inB_nI, nI_clamp, n_le, n_lt, n_eq, nI_1, Nat.le_refl, Nat.lt_irrefl, Nat.not_lt_zero, Nat.zero_le, ↓reduceIte, q0_le, q0_ge, q0_lt, q0_gt, q0_eq, q0_qe, q1_le, q1_ge, q1_lt, q1_gt, q1_eq, q1_qe, q2_le, q2_ge, q2_lt, q2_gt, q2_eq, q2_qe, q3_le, q3_ge, q3_lt, q3_gt, q3_eq, q3_qe, q5_le, q5_ge, q5_lt, q5_gt, q5_eq, q5_qe, q6_le, q6_ge, q6_lt, q6_gt, q6_eq, q6_qe, q7_le, q7_ge, q7_lt, q7_gt, q7_eq, q7_qe, q10_le, q10_ge, q10_lt, q10_gt, q10_eq, q10_qe, q19_le, q19_ge, q19_lt, q19_gt, q19_eq, q19_qe, q28_le, q28_ge, q28_lt, q28_gt, q28_eq, q28_qe, q32_le, q32_ge, q32_lt, q32_gt, q32_eq, q32_qe, Nat.not_le.mpr hj, hv]
      · refine ⟨s, fun i hi => ?_, ?_⟩
        · have := hb i hi
          simp only [hv, decide_false, reduceCtorEq, ↓reduceIte] at this
          rw [← this, b_or, b_0, Bool.or_false]
        · rw [L_X1_casesThatAgree_4.eq_2, e0]
          simp (disch := omega) only [nm_eq, bd1_some, bd2_some, bd3_some, bd4_some, bd5_some, bd6_some, gd_t, inB_nI, nI_clamp, n_le, n_lt, n_eq, nI_1, Nat.le_refl, Nat.lt_irrefl, Nat.not_lt_zero, Nat.zero_le, ↓reduceIte, q0_le, q0_ge, q0_lt, q0_gt, q0_eq, q0_qe, q1_le, q1_ge, q1_lt, q1_gt, q1_eq, q1_qe, q2_le, q2_ge, q2_lt, q2_gt, q2_eq, q2_qe, q3_le, q3_ge, q3_lt, q3_gt, q3_eq, q3_qe, q5_le, q5_ge, q5_lt, q5_gt, q5_eq, q5_qe, q6_le, q6_ge, q6_lt, q6_gt, q6_eq, q6_qe, q7_le, q7_ge, q7_lt, q7_gt, q7_eq, q7_qe, q10_le, q10_ge, q10_lt, q10_gt, q10_eq, q10_qe, q19_le, q19_ge, q19_lt, q19_gt, q19_eq, q19_qe, q28_le, q28_ge, q28_lt, q28_gt, q28_eq, q28_qe, q32_le, q32_ge, q32_lt, q32_gt, q32_eq, q32_qe, Nat.not_le.mpr hj, hv])
    (j := 0) (s := 0) (fuel := 1024) (by omega) (by omega) (fun i hi => by rw [b_0]; simp)
  exact ⟨s, h2, h1⟩
theorem ag_model {nf : Nat} (hf : nf < 6) (so cm : Int32) : ∃ r, m_X10_agreed (nI nf) so cm = some r ∧ ∀ i, i < 32 → bt r i = (decide (i < 2 ^ nf) && decide (((nI i ^^^ so) &&& cm) = 0)) := by
  have hN : 2 ^ nf ≤ 32 := (by decide : ∀ n, n < 6 → 2 ^ n ≤ 32) nf hf
  unfold m_X10_agreed
  have e0 := one_shl nf (by omega)
  generalize 2 ^ nf = N at hN e0 ⊢
  obtain ⟨s, h1, h2⟩ := loop_u (fun n (s : Int32) j => L_X10_agreed_4 (nI nf) so cm n s (nI j) (fun x4 => some x4)) (fun s => some s) N (fun j s => ∀ i, i < 32 → bt s i = (decide (i < j) && decide (((nI i ^^^ so) &&& cm) = 0)))
    (by
      intro n s h
      rw [L_X10_agreed_4.eq_2, e0]
      simp (disch := omega) only [nm_eq, bd1_some, bd2_some, bd3_some, bd4_some, bd5_some, bd6_some, gd_t, inB_nI, nI_clamp, n_le, n_lt, n_eq, nI_1, Nat.le_refl, Nat.lt_irrefl, Nat.not_lt_zero, Nat.zero_le, ↓reduceIte, q0_le, q0_ge, q0_lt, q0_gt, q0_eq, q0_qe, q1_le, q1_ge, q1_lt, q1_gt, q1_eq, q1_qe, q2_le, q2_ge, q2_lt, q2_gt, q2_eq, q2_qe, q3_le, q3_ge, q3_lt, q3_gt, q3_eq, q3_qe, q5_le, q5_ge, q5_lt, q5_gt, q5_eq, q5_qe, q6_le, q6_ge, q6_lt, q6_gt, q6_eq, q6_qe, q7_le, q7_ge, q7_lt, q7_gt, q7_eq, q7_qe, q10_le, q10_ge, q10_lt, q10_gt, q10_eq, q10_qe, q19_le, q19_ge, q19_lt, q19_gt, q19_eq, q19_qe, q28_le, q28_ge, q28_lt, q28_gt, q28_eq, q28_qe, q32_le, q32_ge, q32_lt, q32_gt, q32_eq, q32_qe])
    (by
      intro n s j hj h
      have hb := or_bit (f := fun i => decide (((nI i ^^^ so) &&& cm) = 0)) (by omega : j < 32) h
      refine ⟨s ||| (if ((nI j ^^^ so) &&& cm) = 0 then (1 : Int32) <<< (nI j &&& 31) else 0), fun i hi => ?_, ?_⟩
      · have := hb i hi
        simp only [decide_eq_true_eq] at this
        exact this
      · rw [L_X10_agreed_4.eq_2, e0]
        simp only [nm_ite]
        simp (disch := omega) only [nm_eq, bd1_some, bd2_some, bd3_some, bd4_some, bd5_some, bd6_some, gd_t, inB_nI, nI_clamp, n_le, n_lt, n_eq, nI_1, Nat.le_refl, Nat.lt_irrefl, Nat.not_lt_zero, Nat.zero_le, ↓reduceIte, q0_le, q0_ge, q0_lt, q0_gt, q0_eq, q0_qe, q1_le, q1_ge, q1_lt, q1_gt, q1_eq, q1_qe, q2_le, q2_ge, q2_lt, q2_gt, q2_eq, q2_qe, q3_le, q3_ge, q3_lt, q3_gt, q3_eq, q3_qe, q5_le, q5_ge, q5_lt, q5_gt, q5_eq, q5_qe, q6_le, q6_ge, q6_lt, q6_gt, q6_eq, q6_qe, q7_le, q7_ge, q7_lt, q7_gt, q7_eq, q7_qe, q10_le, q10_ge, q10_lt, q10_gt, q10_eq, q10_qe, q19_le, q19_ge, q19_lt, q19_gt, q19_eq, q19_qe, q28_le, q28_ge, q28_lt, q28_gt, q28_eq, q28_qe, q32_le, q32_ge, q32_lt, q32_gt, q32_eq, q32_qe, Nat.not_le.mpr hj])
    (j := 0) (s := 0) (fuel := 1024) (by omega) (by omega) (fun i hi => by rw [b_0]; simp)
  exact ⟨s, h2, h1⟩
-- the reference's tables
def FacOK (fo : Nat → Int32) : Prop := ∀ f, f < 5 → fo f = cF f
def TabRow (nf : Nat) (ye no : Nat → Int32) (k : Nat) : Prop := ∀ i, i < 32 → bt (ye k) i = (decide (i < 2 ^ nf) && decide (sans (k / 49) (k / 7 % 7) (k % 7) i = 1)) ∧ bt (no k) i = (decide (i < 2 ^ nf) && decide (sans (k / 49) (k / 7 % 7) (k % 7) i = 0))
def TabOK (nf : Nat) (ye no : Nat → Int32) : Prop := ∀ k, k < 931 → TabRow nf ye no k
theorem cF_bit : ∀ f, f < 5 → ∀ i, i < 32 → bt (cF f) i = bt (nI i) f := by decide +kernel
theorem aI9_1 {a : Nat} (h : a < 3) : aI9 a = 1 ↔ a = 1 := by rcases (show a = 0 ∨ a = 1 ∨ a = 2 by omega) with rfl | rfl | rfl <;> decide
theorem aI9_0 {a : Nat} (h : a < 3) : aI9 a = 0 ↔ a = 0 := by rcases (show a = 0 ∨ a = 1 ∨ a = 2 by omega) with rfl | rfl | rfl <;> decide
theorem aI9_inj {a b : Nat} (h : a < 3) (h2 : b < 3) : aI9 a = aI9 b ↔ a = b := by
  rcases (show a = 0 ∨ a = 1 ∨ a = 2 by omega) with rfl | rfl | rfl <;> rcases (show b = 0 ∨ b = 1 ∨ b = 2 by omega) with rfl | rfl | rfl <;> decide
theorem sans_lt (q wd td i : Nat) : sans q wd td i < 3 := ansS_lt _ _ _
theorem lay_fac (K : (Nat → Int32) → Option ((Nat → Int32) × (Nat → Int32) × (Nat → Int32) × (Nat → Int32))) (fo : Nat → Int32) : ∃ w, FacOK w ∧ L_X10_layAnswers_2 1024 0 fo K = K w := by
  obtain ⟨s, h1, h2⟩ := loop_u (fun n (s : Nat → Int32) j => L_X10_layAnswers_2 n (nI j) s K) (fun s => K s) 5 (fun j s => ∀ f, f < j → s f = cF f)
    (by
      intro n s h
      rw [L_X10_layAnswers_2.eq_2]
      simp (disch := omega) only [nm_eq, bd1_some, bd2_some, bd3_some, bd4_some, bd5_some, bd6_some, gd_t, inB_nI, nI_clamp, n_le, n_lt, n_eq, nI_1, Nat.le_refl, Nat.lt_irrefl, Nat.not_lt_zero, Nat.zero_le, ↓reduceIte, q0_le, q0_ge, q0_lt, q0_gt, q0_eq, q0_qe, q1_le, q1_ge, q1_lt, q1_gt, q1_eq, q1_qe, q2_le, q2_ge, q2_lt, q2_gt, q2_eq, q2_qe, q3_le, q3_ge, q3_lt, q3_gt, q3_eq, q3_qe, q5_le, q5_ge, q5_lt, q5_gt, q5_eq, q5_qe, q6_le, q6_ge, q6_lt, q6_gt, q6_eq, q6_qe, q7_le, q7_ge, q7_lt, q7_gt, q7_eq, q7_qe, q10_le, q10_ge, q10_lt, q10_gt, q10_eq, q10_qe, q19_le, q19_ge, q19_lt, q19_gt, q19_eq, q19_qe, q28_le, q28_ge, q28_lt, q28_gt, q28_eq, q28_qe, q32_le, q32_ge, q32_lt, q32_gt, q32_eq, q32_qe])
    (by
      intro n s j hj h
      have inner : ∀ (K2 : (Nat → Int32) → Option ((Nat → Int32) × (Nat → Int32) × (Nat → Int32) × (Nat → Int32))), ∃ w, (∀ f, f < j + 1 → w f = cF f) ∧ L_X10_layAnswers_16 (nI j) 1024 0 (upd s j 0) K2 = K2 w := by
        intro K2
        obtain ⟨w, g1, g2⟩ := loop_u (fun n (w : Nat → Int32) i => L_X10_layAnswers_16 (nI j) n (nI i) w K2) (fun w => K2 w) 32 (fun i w => (∀ f, f ≠ j → w f = s f) ∧ ∀ b, b < 32 → bt (w j) b = (decide (b < i) && bt (nI b) j))
          (by
            intro n w g
            rw [L_X10_layAnswers_16.eq_2]
            simp (disch := omega) only [nm_eq, bd1_some, bd2_some, bd3_some, bd4_some, bd5_some, bd6_some, gd_t, inB_nI, nI_clamp, n_le, n_lt, n_eq, nI_1, Nat.le_refl, Nat.lt_irrefl, Nat.not_lt_zero, Nat.zero_le, ↓reduceIte, q0_le, q0_ge, q0_lt, q0_gt, q0_eq, q0_qe, q1_le, q1_ge, q1_lt, q1_gt, q1_eq, q1_qe, q2_le, q2_ge, q2_lt, q2_gt, q2_eq, q2_qe, q3_le, q3_ge, q3_lt, q3_gt, q3_eq, q3_qe, q5_le, q5_ge, q5_lt, q5_gt, q5_eq, q5_qe, q6_le, q6_ge, q6_lt, q6_gt, q6_eq, q6_qe, q7_le, q7_ge, q7_lt, q7_gt, q7_eq, q7_qe, q10_le, q10_ge, q10_lt, q10_gt, q10_eq, q10_qe, q19_le, q19_ge, q19_lt, q19_gt, q19_eq, q19_qe, q28_le, q28_ge, q28_lt, q28_gt, q28_eq, q28_qe, q32_le, q32_ge, q32_lt, q32_gt, q32_eq, q32_qe])
          (by
            intro n w i hi g
            have hb := or_bit (f := fun b => bt (nI b) j) (by omega : i < 32) g.2
            refine ⟨upd w j (w j ||| (if bt (nI i) j = true then (1 : Int32) <<< (nI i &&& 31) else 0)), ⟨fun f hf => ?_, fun b hb2 => ?_⟩, ?_⟩
            · rw [pk_un hf]; exact g.1 f hf
            · rw [pk_us]; exact hb b hb2
            · rw [L_X10_layAnswers_16.eq_2]
              simp only [nm_ite]
              simp (disch := omega) only [nm_eq, bd1_some, bd2_some, bd3_some, bd4_some, bd5_some, bd6_some, gd_t, inB_nI, nI_clamp, n_le, n_lt, n_eq, nI_1, Nat.le_refl, Nat.lt_irrefl, Nat.not_lt_zero, Nat.zero_le, ↓reduceIte, q0_le, q0_ge, q0_lt, q0_gt, q0_eq, q0_qe, q1_le, q1_ge, q1_lt, q1_gt, q1_eq, q1_qe, q2_le, q2_ge, q2_lt, q2_gt, q2_eq, q2_qe, q3_le, q3_ge, q3_lt, q3_gt, q3_eq, q3_qe, q5_le, q5_ge, q5_lt, q5_gt, q5_eq, q5_qe, q6_le, q6_ge, q6_lt, q6_gt, q6_eq, q6_qe, q7_le, q7_ge, q7_lt, q7_gt, q7_eq, q7_qe, q10_le, q10_ge, q10_lt, q10_gt, q10_eq, q10_qe, q19_le, q19_ge, q19_lt, q19_gt, q19_eq, q19_qe, q28_le, q28_ge, q28_lt, q28_gt, q28_eq, q28_qe, q32_le, q32_ge, q32_lt, q32_gt, q32_eq, q32_qe, Nat.not_le.mpr hi, m_has, b2i_0]
              cases bt (nI i) j <;> simp only [reduceCtorEq, ↓reduceIte])
          (j := 0) (s := upd s j 0) (fuel := 1024) (by decide) (by decide) ⟨fun f hf => pk_un hf, fun b hb => by rw [pk_us, b_0]; simp⟩
        refine ⟨w, fun f hf => ?_, g2⟩
        by_cases e : f = j
        · subst e
          apply b_ext
          intro b hb
          rw [g1.2 b hb, cF_bit f hj b hb]
          simp [hb]
        · rw [g1.1 f e]
          exact h f (by omega)
      obtain ⟨w, g1, g2⟩ := inner (fun (w8 : (Nat → Int32)) => nm (nI j + (1 : Int32)) (fun (x17 : Int32) => L_X10_layAnswers_2 n x17 w8 K))
      refine ⟨w, g1, ?_⟩
      rw [L_X10_layAnswers_2.eq_2]
      simp (disch := omega) only [nm_eq, bd1_some, bd2_some, bd3_some, bd4_some, bd5_some, bd6_some, gd_t, inB_nI, nI_clamp, n_le, n_lt, n_eq, nI_1, Nat.le_refl, Nat.lt_irrefl, Nat.not_lt_zero, Nat.zero_le, ↓reduceIte, q0_le, q0_ge, q0_lt, q0_gt, q0_eq, q0_qe, q1_le, q1_ge, q1_lt, q1_gt, q1_eq, q1_qe, q2_le, q2_ge, q2_lt, q2_gt, q2_eq, q2_qe, q3_le, q3_ge, q3_lt, q3_gt, q3_eq, q3_qe, q5_le, q5_ge, q5_lt, q5_gt, q5_eq, q5_qe, q6_le, q6_ge, q6_lt, q6_gt, q6_eq, q6_qe, q7_le, q7_ge, q7_lt, q7_gt, q7_eq, q7_qe, q10_le, q10_ge, q10_lt, q10_gt, q10_eq, q10_qe, q19_le, q19_ge, q19_lt, q19_gt, q19_eq, q19_qe, q28_le, q28_ge, q28_lt, q28_gt, q28_eq, q28_qe, q32_le, q32_ge, q32_lt, q32_gt, q32_eq, q32_qe, Nat.not_le.mpr hj]
      rw [nm_eq, nI_1] at g2
      simp only [nm_eq, nI_1] at g2
      exact g2)
    (j := 0) (s := fo) (fuel := 1024) (by decide) (by decide) (fun f hf => absurd hf (Nat.not_lt_zero f))
  exact ⟨s, h1, h2⟩
