theorem lay_tab {nf : Nat} (hf : nf < 6) (zq : Int32) (zs : Nat → Int32) (K : (Nat → Int32) → (Nat → Int32) → (Nat → Int32) → Option ((Nat → Int32) × (Nat → Int32) × (Nat → Int32) × (Nat → Int32))) (ye no st : Nat → Int32) :
    ∃ y n, TabOK nf y n ∧ L_X10_layAnswers_60 zq (nI nf) zs 1024 0 ye no st K = K y n st := by
  have hN : 2 ^ nf ≤ 32 := (by decide : ∀ n, n < 6 → 2 ^ n ≤ 32) nf hf
  have e0 := one_shl nf (by omega)
  obtain ⟨N, eN⟩ : ∃ N, N = 2 ^ nf := ⟨_, rfl⟩
  rw [← eN] at hN e0
  obtain ⟨⟨y, n⟩, h1, h2⟩ := loop_u (fun n (s : (Nat → Int32) × (Nat → Int32)) j => L_X10_layAnswers_60 zq (nI nf) zs n (nI j) s.1 s.2 st K) (fun s => K s.1 s.2 st) 931 (fun j s => ∀ k, k < j → TabRow nf s.1 s.2 k)
    (by
      intro n s h
      rw [L_X10_layAnswers_60.eq_2]
      simp (disch := omega) only [nm_eq, bd1_some, bd2_some, bd3_some, bd4_some, bd5_some, bd6_some, gd_t, inB_nI, nI_clamp, n_le, n_lt, n_eq, nI_1, Nat.le_refl, Nat.lt_irrefl, Nat.not_lt_zero, Nat.zero_le, ↓reduceIte, q0_le, q0_ge, q0_lt, q0_gt, q0_eq, q0_qe, q1_le, q1_ge, q1_lt, q1_gt, q1_eq, q1_qe, q2_le, q2_ge, q2_lt, q2_gt, q2_eq, q2_qe, q3_le, q3_ge, q3_lt, q3_gt, q3_eq, q3_qe, q5_le, q5_ge, q5_lt, q5_gt, q5_eq, q5_qe, q6_le, q6_ge, q6_lt, q6_gt, q6_eq, q6_qe, q7_le, q7_ge, q7_lt, q7_gt, q7_eq, q7_qe, q10_le, q10_ge, q10_lt, q10_gt, q10_eq, q10_qe, q19_le, q19_ge, q19_lt, q19_gt, q19_eq, q19_qe, q28_le, q28_ge, q28_lt, q28_gt, q28_eq, q28_qe, q32_le, q32_ge, q32_lt, q32_gt, q32_eq, q32_qe, q931_le])
    (by
      rintro n ⟨y0, n0⟩ k hk h
      have inner : ∀ (K2 : (Nat → Int32) → (Nat → Int32) → (Nat → Int32) → Option ((Nat → Int32) × (Nat → Int32) × (Nat → Int32) × (Nat → Int32))), ∃ y n, (∀ j, j < k + 1 → TabRow nf y n j) ∧ L_X10_layAnswers_83 zq (nI nf) zs (nI k) 1024 0 (upd y0 k 0) (upd n0 k 0) st K2 = K2 y n st := by
        intro K2
        obtain ⟨⟨y, n⟩, g1, g2⟩ := loop_u (fun n (s : (Nat → Int32) × (Nat → Int32)) i => L_X10_layAnswers_83 zq (nI nf) zs (nI k) n (nI i) s.1 s.2 st K2) (fun s => K2 s.1 s.2 st) N
          (fun i s => (∀ j, j ≠ k → s.1 j = y0 j ∧ s.2 j = n0 j) ∧ (∀ b, b < 32 → bt (s.1 k) b = (decide (b < i) && decide (sans (k / 49) (k / 7 % 7) (k % 7) b = 1))) ∧ ∀ b, b < 32 → bt (s.2 k) b = (decide (b < i) && decide (sans (k / 49) (k / 7 % 7) (k % 7) b = 0)))
          (by
            intro n w g
            rw [L_X10_layAnswers_83.eq_2, e0]
            simp (disch := omega) only [nm_eq, bd1_some, bd2_some, bd3_some, bd4_some, bd5_some, bd6_some, gd_t, inB_nI, nI_clamp, n_le, n_lt, n_eq, nI_1, Nat.le_refl, Nat.lt_irrefl, Nat.not_lt_zero, Nat.zero_le, ↓reduceIte, q0_le, q0_ge, q0_lt, q0_gt, q0_eq, q0_qe, q1_le, q1_ge, q1_lt, q1_gt, q1_eq, q1_qe, q2_le, q2_ge, q2_lt, q2_gt, q2_eq, q2_qe, q3_le, q3_ge, q3_lt, q3_gt, q3_eq, q3_qe, q5_le, q5_ge, q5_lt, q5_gt, q5_eq, q5_qe, q6_le, q6_ge, q6_lt, q6_gt, q6_eq, q6_qe, q7_le, q7_ge, q7_lt, q7_gt, q7_eq, q7_qe, q10_le, q10_ge, q10_lt, q10_gt, q10_eq, q10_qe, q19_le, q19_ge, q19_lt, q19_gt, q19_eq, q19_qe, q28_le, q28_ge, q28_lt, q28_gt, q28_eq, q28_qe, q32_le, q32_ge, q32_lt, q32_gt, q32_eq, q32_qe])
          (by
            rintro n ⟨y, m⟩ i hi ⟨g1, g2, g3⟩
            dsimp only at g1 g2 g3
            have hb1 := or_bit (f := fun b => decide (sans (k / 49) (k / 7 % 7) (k % 7) b = 1)) (by omega : i < 32) g2
            have hb2 := or_bit (f := fun b => decide (sans (k / 49) (k / 7 % 7) (k % 7) b = 0)) (by omega : i < 32) g3
            have hl := sans_lt (k / 49) (k / 7 % 7) (k % 7) i
            refine ⟨(upd y k (y k ||| (if sans (k / 49) (k / 7 % 7) (k % 7) i = 1 then (1 : Int32) <<< (nI i &&& 31) else 0)), upd m k (m k ||| (if sans (k / 49) (k / 7 % 7) (k % 7) i = 0 then (1 : Int32) <<< (nI i &&& 31) else 0))), ⟨fun j hj => ?_, fun b hb => ?_, fun b hb => ?_⟩, ?_⟩
            · exact ⟨by dsimp only; rw [pk_un hj]; exact (g1 j hj).1, by dsimp only; rw [pk_un hj]; exact (g1 j hj).2⟩
            · dsimp only
              rw [pk_us]
              have := hb1 b hb
              simp only [decide_eq_true_eq] at this
              exact this
            · dsimp only
              rw [pk_us]
              have := hb2 b hb
              simp only [decide_eq_true_eq] at this
              exact this
            · dsimp only
              have ea : m_X10_answerOf (nI k / 49) (nI k / 7 - nI k / 7 / 7 * 7) (nI k - nI k / 7 * 7) (nI k - nI k / 7 * 7) (nI i) zq (nI nf) zs st = some (aI9 (sans (k / 49) (k / 7 % 7) (k % 7) i), st) := by
                have d1 : nI k / 49 = nI (k / 49) := pk_div (by omega) (by decide) (by decide)
                have d2 : nI k / 7 = nI (k / 7) := pk_div (by omega) (by decide) (by decide)
                rw [rem7 (by omega), d1, d2, rem7 (by omega), ao_simple (by omega) (by omega) (by omega) (by omega) (by omega)]
                unfold sans
                rw [Nat.mod_mod]
              rw [L_X10_layAnswers_83.eq_2, e0]
              simp only [nm_ite]
              simp (disch := omega) only [nm_eq, bd1_some, bd2_some, bd3_some, bd4_some, bd5_some, bd6_some, gd_t, inB_nI, nI_clamp, n_le, n_lt, n_eq, nI_1, Nat.le_refl, Nat.lt_irrefl, Nat.not_lt_zero, Nat.zero_le, ↓reduceIte, q0_le, q0_ge, q0_lt, q0_gt, q0_eq, q0_qe, q1_le, q1_ge, q1_lt, q1_gt, q1_eq, q1_qe, q2_le, q2_ge, q2_lt, q2_gt, q2_eq, q2_qe, q3_le, q3_ge, q3_lt, q3_gt, q3_eq, q3_qe, q5_le, q5_ge, q5_lt, q5_gt, q5_eq, q5_qe, q6_le, q6_ge, q6_lt, q6_gt, q6_eq, q6_qe, q7_le, q7_ge, q7_lt, q7_gt, q7_eq, q7_qe, q10_le, q10_ge, q10_lt, q10_gt, q10_eq, q10_qe, q19_le, q19_ge, q19_lt, q19_gt, q19_eq, q19_qe, q28_le, q28_ge, q28_lt, q28_gt, q28_eq, q28_qe, q32_le, q32_ge, q32_lt, q32_gt, q32_eq, q32_qe, Nat.not_le.mpr hi, ea, aI9_1 hl, aI9_0 hl])
          (j := 0) (s := (upd y0 k 0, upd n0 k 0)) (fuel := 1024) (by omega) (by omega) ⟨fun j hj => ⟨pk_un hj, pk_un hj⟩, fun b hb => by dsimp only; rw [pk_us, b_0]; simp, fun b hb => by dsimp only; rw [pk_us, b_0]; simp⟩
        refine ⟨y, n, fun j hj i hi => ?_, g2⟩
        obtain ⟨a1, a2, a3⟩ := g1
        dsimp only at a1 a2 a3
        by_cases e : j = k
        · subst e
          rw [← eN]
          exact ⟨a2 i hi, a3 i hi⟩
        · have := h j (by omega) i hi
          rw [(a1 j e).1, (a1 j e).2]
          exact this
      obtain ⟨y, m, g1, g2⟩ := inner (fun (w32 : (Nat → Int32)) (w33 : (Nat → Int32)) (w34 : (Nat → Int32)) => L_X10_layAnswers_60 zq (nI nf) zs n (nI (k + 1)) w32 w33 w34 K)
      refine ⟨(y, m), g1, ?_⟩
      rw [L_X10_layAnswers_60.eq_2]
      simp (disch := omega) only [nm_eq, bd1_some, bd2_some, bd3_some, bd4_some, bd5_some, bd6_some, gd_t, inB_nI, nI_clamp, n_le, n_lt, n_eq, nI_1, Nat.le_refl, Nat.lt_irrefl, Nat.not_lt_zero, Nat.zero_le, ↓reduceIte, q0_le, q0_ge, q0_lt, q0_gt, q0_eq, q0_qe, q1_le, q1_ge, q1_lt, q1_gt, q1_eq, q1_qe, q2_le, q2_ge, q2_lt, q2_gt, q2_eq, q2_qe, q3_le, q3_ge, q3_lt, q3_gt, q3_eq, q3_qe, q5_le, q5_ge, q5_lt, q5_gt, q5_eq, q5_qe, q6_le, q6_ge, q6_lt, q6_gt, q6_eq, q6_qe, q7_le, q7_ge, q7_lt, q7_gt, q7_eq, q7_qe, q10_le, q10_ge, q10_lt, q10_gt, q10_eq, q10_qe, q19_le, q19_ge, q19_lt, q19_gt, q19_eq, q19_qe, q28_le, q28_ge, q28_lt, q28_gt, q28_eq, q28_qe, q32_le, q32_ge, q32_lt, q32_gt, q32_eq, q32_qe, Nat.not_le.mpr hk, q931_le]
      exact g2)
    (j := 0) (s := (ye, no)) (fuel := 1024) (by decide) (by decide) (fun k hk => absurd hk (Nat.not_lt_zero k))
  exact ⟨y, n, h1, h2⟩
theorem m_lay {nf : Nat} (hf : nf < 6) (zq : Int32) (fo ye no zs st : Nat → Int32) : ∃ f y n, FacOK f ∧ TabOK nf y n ∧ m_X10_layAnswers zq (nI nf) fo ye no zs st = some (f, y, n, st) := by
  unfold m_X10_layAnswers
  obtain ⟨f, h1, h2⟩ := lay_fac (fun w3 => L_X10_layAnswers_60 zq (nI nf) zs 1024 (0 : Int32) ye no st (fun w22 w23 w24 => some (w3, w22, w23, w24))) fo
  obtain ⟨y, n, h3, h4⟩ := lay_tab hf zq zs (fun w22 w23 w24 => some (f, w22, w23, w24)) ye no st
  exact ⟨f, y, n, h1, h3, by rw [h2, h4]⟩
/-- only cases that there are -/
def sub (nf : Nat) (x : Int32) : Prop := ∀ i, i < 32 → bt x i = true → i < 2 ^ nf
theorem sub_and {nf : Nat} {x : Int32} (h : sub nf x) (y : Int32) : sub nf (x &&& y) := by
  intro i hi hb
  rw [b_and, Bool.and_eq_true] at hb
  exact h i hi hb.1
theorem sub_or {nf : Nat} {x y : Int32} (h : sub nf x) (h2 : sub nf y) : sub nf (x ||| y) := by
  intro i hi hb
  rw [b_or, Bool.or_eq_true] at hb
  exact hb.elim (h i hi) (h2 i hi)
theorem sub_0 (nf : Nat) : sub nf 0 := fun i _ h => by rw [b_0] at h; cases h
theorem sub_orv {nf : Nat} {v : Nat → Int32} (h : ∀ i, i < 7 → sub nf (v i)) : ∀ n, n ≤ 7 → sub nf (orv v n)
  | 0, _ => sub_0 nf
  | n + 1, hn => sub_or (sub_orv h n (by omega)) (h n (by omega))
/-- what a table says of an answer, within the cases that there are -/
theorem tab_and {nf q g wd td : Nat} (hq : q < 19) (hg : g < 3) (hw : wd < 7) (ht : td < 7) {ye no : Nat → Int32} (hT : TabOK nf ye no) {x : Int32} (hx : sub nf x) (w : Int32)
    (hw2 : w = (if g = 1 then ye (49 * q + 7 * wd + td) else if g = 0 then no (49 * q + 7 * wd + td) else (ye (49 * q + 7 * wd + td) ||| no (49 * q + 7 * wd + td)) ^^^ (-1))) : x &&& w = x &&& CA q g wd td := by
  have hk := hT (49 * q + 7 * wd + td) (by omega)
  have k1 : (49 * q + 7 * wd + td) / 49 = q := by omega
  have k2 : (49 * q + 7 * wd + td) / 7 % 7 = wd := by omega
  have k3 : (49 * q + 7 * wd + td) % 7 = td := by omega
  apply b_ext
  intro i hi
  obtain ⟨h1, h2⟩ := hk i hi
  rw [k1, k2, k3] at h1 h2
  rw [b_and, b_and, (ca_eq hq hg hw ht).2 i hi]
  cases hb : bt x i
  · rfl
  · have hlt := hx i hi hb
    rw [decide_eq_true hlt, Bool.true_and] at h1 h2
    rw [Bool.true_and, Bool.true_and, hw2]
    have hl := sans_lt q wd td i
    rcases (show g = 0 ∨ g = 1 ∨ g = 2 by omega) with rfl | rfl | rfl
    · rw [if_neg (by decide), if_pos rfl, h2]
    · rw [if_pos rfl, h1]
    · rw [if_neg (by decide), if_neg (by decide), b_not _ hi, b_or, h1, h2]
      rcases (show sans q wd td i = 0 ∨ sans q wd td i = 1 ∨ sans q wd td i = 2 by omega) with e | e | e <;> rw [e] <;> rfl
theorem aI9_c {g : Nat} (hg : g < 3) : (aI9 g = 1 ↔ g = 1) ∧ (aI9 g = 0 ↔ g = 0) := ⟨aI9_1 hg, aI9_0 hg⟩
/-- the reference parts a row by a simple question -/
theorem p_simple {nf q g dd : Nat} (hq : q < 19) (hg : g < 3) (hd : dd < 1000) {ye no : Nat → Int32} (hT : TabOK nf ye no) (v w zs st : Nat → Int32) (hv : ∀ i, i < 7 → sub nf (v i)) (zq zf : Int32) {N M : Nat} (hN : 7 ≤ N) (hM : 7 ≤ M) :
    ∃ w', m_X10_part (nI q) (nI dd) (aI9 g) N M zq zf v zs st ye no w = some (st, w') ∧ ∀ i, i < 7 → w' i = v i &&& CA q g (dd % 7) i := by
  unfold m_X10_part
  obtain ⟨s, h1, h2⟩ := loop_u (fun n (s : Nat → Int32) j => L_X10_part_3 zq zf v zs ye no (nI q) (nI dd) (aI9 g) N M n (nI j) st s (fun w4 w5 => some (w4, w5))) (fun s => some (st, s)) 7 (fun j s => ∀ i, i < j → s i = v i &&& CA q g (dd % 7) i)
    (by
      intro n s h
      rw [L_X10_part_3.eq_2]
      simp (disch := omega) only [nm_eq, bd1_some, bd2_some, bd3_some, bd4_some, bd5_some, bd6_some, gd_t, inB_nI, nI_clamp, n_le, n_lt, n_eq, nI_1, Nat.le_refl, Nat.lt_irrefl, Nat.not_lt_zero, Nat.zero_le, ↓reduceIte, q0_le, q0_ge, q0_lt, q0_gt, q0_eq, q0_qe, q1_le, q1_ge, q1_lt, q1_gt, q1_eq, q1_qe, q2_le, q2_ge, q2_lt, q2_gt, q2_eq, q2_qe, q3_le, q3_ge, q3_lt, q3_gt, q3_eq, q3_qe, q5_le, q5_ge, q5_lt, q5_gt, q5_eq, q5_qe, q6_le, q6_ge, q6_lt, q6_gt, q6_eq, q6_qe, q7_le, q7_ge, q7_lt, q7_gt, q7_eq, q7_qe, q10_le, q10_ge, q10_lt, q10_gt, q10_eq, q10_qe, q19_le, q19_ge, q19_lt, q19_gt, q19_eq, q19_qe, q28_le, q28_ge, q28_lt, q28_gt, q28_eq, q28_qe, q32_le, q32_ge, q32_lt, q32_gt, q32_eq, q32_qe])
    (by
      intro n s j hj h
      have ek : ((49 : Int32) * nI q + 7 * (nI dd - nI dd / 7 * 7)) + nI j = nI (49 * q + 7 * (dd % 7) + j) := by
        rw [rem7 (by omega), show (49 : Int32) = nI 49 from rfl, show (7 : Int32) = nI 7 from rfl, pk_mul, pk_mul, nI_add, nI_add]
      have hx := tab_and hq hg (by omega : dd % 7 < 7) hj hT (hv j hj) _ rfl
      obtain ⟨c1, c0⟩ := aI9_c hg
      refine ⟨upd s j (v j &&& CA q g (dd % 7) j), fun i hi => ?_, ?_⟩
      · by_cases e : i = j
        · subst e; exact pk_us
        · rw [pk_un e]; exact h i (by omega)
      · rw [L_X10_part_3.eq_2, ek]
        rw [← hx]
        rcases (show g = 0 ∨ g = 1 ∨ g = 2 by omega) with rfl | rfl | rfl
        · simp only [show aI9 0 = 0 from rfl, show ¬ (0 : Int32) = 1 by decide]
          simp (disch := omega) only [nm_eq, bd1_some, bd2_some, bd3_some, bd4_some, bd5_some, bd6_some, gd_t, inB_nI, nI_clamp, n_le, n_lt, n_eq, nI_1, Nat.le_refl, Nat.lt_irrefl, Nat.not_lt_zero, Nat.zero_le, ↓reduceIte, q0_le, q0_ge, q0_lt, q0_gt, q0_eq, q0_qe, q1_le, q1_ge, q1_lt, q1_gt, q1_eq, q1_qe, q2_le, q2_ge, q2_lt, q2_gt, q2_eq, q2_qe, q3_le, q3_ge, q3_lt, q3_gt, q3_eq, q3_qe, q5_le, q5_ge, q5_lt, q5_gt, q5_eq, q5_qe, q6_le, q6_ge, q6_lt, q6_gt, q6_eq, q6_qe, q7_le, q7_ge, q7_lt, q7_gt, q7_eq, q7_qe, q10_le, q10_ge, q10_lt, q10_gt, q10_eq, q10_qe, q19_le, q19_ge, q19_lt, q19_gt, q19_eq, q19_qe, q28_le, q28_ge, q28_lt, q28_gt, q28_eq, q28_qe, q32_le, q32_ge, q32_lt, q32_gt, q32_eq, q32_qe, Nat.not_le.mpr hj, nI_ne9]
          simp only [show ¬ (0 : Nat) = 1 by decide, ↓reduceIte]
        · simp only [show aI9 1 = 1 from rfl]
          simp (disch := omega) only [nm_eq, bd1_some, bd2_some, bd3_some, bd4_some, bd5_some, bd6_some, gd_t, inB_nI, nI_clamp, n_le, n_lt, n_eq, nI_1, Nat.le_refl, Nat.lt_irrefl, Nat.not_lt_zero, Nat.zero_le, ↓reduceIte, q0_le, q0_ge, q0_lt, q0_gt, q0_eq, q0_qe, q1_le, q1_ge, q1_lt, q1_gt, q1_eq, q1_qe, q2_le, q2_ge, q2_lt, q2_gt, q2_eq, q2_qe, q3_le, q3_ge, q3_lt, q3_gt, q3_eq, q3_qe, q5_le, q5_ge, q5_lt, q5_gt, q5_eq, q5_qe, q6_le, q6_ge, q6_lt, q6_gt, q6_eq, q6_qe, q7_le, q7_ge, q7_lt, q7_gt, q7_eq, q7_qe, q10_le, q10_ge, q10_lt, q10_gt, q10_eq, q10_qe, q19_le, q19_ge, q19_lt, q19_gt, q19_eq, q19_qe, q28_le, q28_ge, q28_lt, q28_gt, q28_eq, q28_qe, q32_le, q32_ge, q32_lt, q32_gt, q32_eq, q32_qe, Nat.not_le.mpr hj, nI_ne9]
        · simp only [show aI9 2 = -9 from rfl, show ¬ (-9 : Int32) = 1 by decide, show ¬ (-9 : Int32) = 0 by decide]
          simp (disch := omega) only [nm_eq, bd1_some, bd2_some, bd3_some, bd4_some, bd5_some, bd6_some, gd_t, inB_nI, nI_clamp, n_le, n_lt, n_eq, nI_1, Nat.le_refl, Nat.lt_irrefl, Nat.not_lt_zero, Nat.zero_le, ↓reduceIte, q0_le, q0_ge, q0_lt, q0_gt, q0_eq, q0_qe, q1_le, q1_ge, q1_lt, q1_gt, q1_eq, q1_qe, q2_le, q2_ge, q2_lt, q2_gt, q2_eq, q2_qe, q3_le, q3_ge, q3_lt, q3_gt, q3_eq, q3_qe, q5_le, q5_ge, q5_lt, q5_gt, q5_eq, q5_qe, q6_le, q6_ge, q6_lt, q6_gt, q6_eq, q6_qe, q7_le, q7_ge, q7_lt, q7_gt, q7_eq, q7_qe, q10_le, q10_ge, q10_lt, q10_gt, q10_eq, q10_qe, q19_le, q19_ge, q19_lt, q19_gt, q19_eq, q19_qe, q28_le, q28_ge, q28_lt, q28_gt, q28_eq, q28_qe, q32_le, q32_ge, q32_lt, q32_gt, q32_eq, q32_qe, Nat.not_le.mpr hj, nI_ne9]
          simp only [show ¬ (2 : Nat) = 1 by decide, show ¬ (2 : Nat) = 0 by decide, ↓reduceIte])
    (j := 0) (s := w) (fuel := 1024) (by decide) (by decide) (fun i hi => absurd hi (Nat.not_lt_zero i))
  exact ⟨s, h2, h1⟩
-- a fact in all, in none
theorem or_0 (a b : Int32) : a ||| b = 0 ↔ a = 0 ∧ b = 0 := by
  constructor
  · intro h
    refine ⟨b_ext fun i hi => ?_, b_ext fun i hi => ?_⟩
    · have := congrArg (fun x => bt x i) h
      simp only [b_or, b_0, Bool.or_eq_false_iff] at this
      rw [this.1, b_0]
    · have := congrArg (fun x => bt x i) h
      simp only [b_or, b_0, Bool.or_eq_false_iff] at this
      rw [this.2, b_0]
  · rintro ⟨rfl, rfl⟩
    decide
theorem and_or_d (a b c : Int32) : (a ||| b) &&& c = (a &&& c) ||| (b &&& c) := by
  apply b_ext
  intro i hi
  rw [b_and, b_or, b_or, b_and, b_and]
  cases bt a i <;> cases bt b i <;> cases bt c i <;> rfl
def tfR (a c : Int32) : Int32 := if a &&& c = 0 then 0 else if a &&& (c ^^^ (-1)) = 0 then 1 else -9
theorem tf_eq (v fo : Nat → Int32) {f N : Nat} (hf : f < 5) (hF : FacOK fo) (hN : 7 ≤ N) : m_X10_tellsFact (nI f) N v fo = some (tfR (orv v 7) (cF f)) := by
  unfold m_X10_tellsFact
  obtain ⟨⟨a, b⟩, ⟨h1, h1'⟩, h2⟩ := loop_u (fun n (s : Int32 × Int32) j => L_X10_tellsFact_8 v fo (nI f) N n s.1 s.2 (nI j) (fun (x4 : Int32) (x5 : Int32) => nm (if x4 = (0 : Int32) then some (0 : Int32) else some (1 : Int32)) (fun (k87 : Option (Int32)) => if x4 = (0 : Int32) then k87 else if x5 = (0 : Int32) then k87 else some (-9 : Int32)))) (fun s => nm (if s.1 = (0 : Int32) then some (0 : Int32) else some (1 : Int32)) (fun (k87 : Option (Int32)) => if s.1 = (0 : Int32) then k87 else if s.2 = (0 : Int32) then k87 else some (-9 : Int32))) 7
    (fun j s => s.1 = b2i (!(decide (orv v j &&& cF f = 0))) ∧ s.2 = b2i (!(decide (orv v j &&& (cF f ^^^ (-1)) = 0))))
    (by
      intro n s h
      rw [L_X10_tellsFact_8.eq_2]
      simp (disch := omega) only [nm_eq, bd1_some, bd2_some, bd3_some, bd4_some, bd5_some, bd6_some, gd_t, inB_nI, nI_clamp, n_le, n_lt, n_eq, nI_1, Nat.le_refl, Nat.lt_irrefl, Nat.not_lt_zero, Nat.zero_le, ↓reduceIte, q0_le, q0_ge, q0_lt, q0_gt, q0_eq, q0_qe, q1_le, q1_ge, q1_lt, q1_gt, q1_eq, q1_qe, q2_le, q2_ge, q2_lt, q2_gt, q2_eq, q2_qe, q3_le, q3_ge, q3_lt, q3_gt, q3_eq, q3_qe, q5_le, q5_ge, q5_lt, q5_gt, q5_eq, q5_qe, q6_le, q6_ge, q6_lt, q6_gt, q6_eq, q6_qe, q7_le, q7_ge, q7_lt, q7_gt, q7_eq, q7_qe, q10_le, q10_ge, q10_lt, q10_gt, q10_eq, q10_qe, q19_le, q19_ge, q19_lt, q19_gt, q19_eq, q19_qe, q28_le, q28_ge, q28_lt, q28_gt, q28_eq, q28_qe, q32_le, q32_ge, q32_lt, q32_gt, q32_eq, q32_qe])
    (by
      rintro n ⟨a, b⟩ j hj ⟨h1, h2⟩
      refine ⟨(b2i (!(decide (orv v (j + 1) &&& cF f = 0))), b2i (!(decide (orv v (j + 1) &&& (cF f ^^^ (-1)) = 0)))), ⟨rfl, rfl⟩, ?_⟩
      dsimp only at h1 h2
      subst h1
      subst h2
      dsimp only
      rw [L_X10_tellsFact_8.eq_2]
      have e1 : (orv v (j + 1) &&& cF f = 0) ↔ (orv v j &&& cF f = 0 ∧ v j &&& cF f = 0) := by
        rw [show orv v (j + 1) = orv v j ||| v j from rfl, and_or_d, or_0]
      have e2 : (orv v (j + 1) &&& (cF f ^^^ (-1)) = 0) ↔ (orv v j &&& (cF f ^^^ (-1)) = 0 ∧ v j &&& (cF f ^^^ (-1)) = 0) := by
        rw [show orv v (j + 1) = orv v j ||| v j from rfl, and_or_d, or_0]
      simp (disch := omega) only [nm_eq, bd1_some, bd2_some, bd3_some, bd4_some, bd5_some, bd6_some, gd_t, inB_nI, nI_clamp, n_le, n_lt, n_eq, nI_1, Nat.le_refl, Nat.lt_irrefl, Nat.not_lt_zero, Nat.zero_le, ↓reduceIte, q0_le, q0_ge, q0_lt, q0_gt, q0_eq, q0_qe, q1_le, q1_ge, q1_lt, q1_gt, q1_eq, q1_qe, q2_le, q2_ge, q2_lt, q2_gt, q2_eq, q2_qe, q3_le, q3_ge, q3_lt, q3_gt, q3_eq, q3_qe, q5_le, q5_ge, q5_lt, q5_gt, q5_eq, q5_qe, q6_le, q6_ge, q6_lt, q6_gt, q6_eq, q6_qe, q7_le, q7_ge, q7_lt, q7_gt, q7_eq, q7_qe, q10_le, q10_ge, q10_lt, q10_gt, q10_eq, q10_qe, q19_le, q19_ge, q19_lt, q19_gt, q19_eq, q19_qe, q28_le, q28_ge, q28_lt, q28_gt, q28_eq, q28_qe, q32_le, q32_ge, q32_lt, q32_gt, q32_eq, q32_qe, Nat.not_le.mpr hj, hF f hf, e1, e2]
      by_cases p1 : orv v j &&& cF f = 0 <;> by_cases p2 : orv v j &&& (cF f ^^^ (-1)) = 0 <;> by_cases p3 : v j &&& cF f = 0 <;> by_cases p4 : v j &&& (cF f ^^^ (-1)) = 0 <;>
        simp only [p1, p2, p3, p4, decide_true, decide_false, Bool.not_true, Bool.not_false, b2i_t, b2i_f, and_self, and_true, true_and, and_false, false_and, show ¬ (1 : Int32) = 0 by decide, ↓reduceIte])
    (j := 0) (s := (0, 0)) (fuel := 1024) (by decide) (by decide) (by
      have z : ∀ c : Int32, orv v 0 &&& c = 0 := fun c => b_ext fun i hi => by rw [b_and, show orv v 0 = 0 from rfl, b_0, Bool.false_and]
      exact ⟨by rw [decide_eq_true (z _)]; rfl, by rw [decide_eq_true (z _)]; rfl⟩)
  refine Eq.trans h2 ?_
  dsimp only at h1 h1' ⊢
  rw [h1, h1', nm_eq]
  unfold tfR
  by_cases p1 : orv v 7 &&& cF f = 0 <;> by_cases p2 : orv v 7 &&& (cF f ^^^ (-1)) = 0 <;>
    simp only [p1, p2, decide_true, decide_false, Bool.not_true, Bool.not_false, b2i_t, b2i_f, show ¬ (1 : Int32) = 0 by decide, ↓reduceIte]
