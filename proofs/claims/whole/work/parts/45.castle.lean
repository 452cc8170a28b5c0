theorem nI_n9 {j : Nat} (h : j < 2147483648) : ¬ nI j = -9 := fun e => nI_pos (n := j) h (by rw [e]; decide)
theorem q70_eq (j : Nat) (hj : j < 2147483648) : (nI j = (70 : Int32)) = (j = 70) := propext (nI_eq (a := j) (b := 70) hj (by decide))
theorem q77_eq (j : Nat) (hj : j < 2147483648) : (nI j = (77 : Int32)) = (j = 77) := propext (nI_eq (a := j) (b := 77) hj (by decide))
def RC (L : Nat → Nat) (n : Nat) (r3 : Int32) (o : Option (Int32 × Int32 × Int32 × Int32 × Int32 × Int32)) : Prop := ∃ r w2 w3 w4 w5, o = some (r, w2, w3, w4, w5, r3) ∧ FF L n r ∧ (r = -9 → w3 = nI ((n - 2) / 3) ∧ w4 = rs L 1 ((n - 2) / 3) ∧ w5 = rs L 2 ((n - 2) / 3) ∧ (n - 2) / 3 < 6)
theorem rc67 {n : Nat} (hn : n ≤ 24) {L : Nat → Nat} {tx : Nat → Int32} (hL : ∀ i, i < n → L i < 256 ∧ tx i = nI (L i)) (h2 : 2 ≤ n) (f0 : ft 0 (L 0) = true) (f1 : ft 1 (L 1) = true) (r3 : Int32) :
    RC L n r3 (L_X10_readCastle_67 (nI n) tx r3 1024 (nI 2) 0 0 0 (fun (w11 : Int32) (w12 : Int32) (w13 : Int32) (w14 : Int32) => some ((-9 : Int32), w11, w12, w13, w14, r3))) := by
  have lt1 : ∀ k, 2 + 3 * k < n → (∀ i, i < 2 + 3 * k → ft i (L i) = true) → ft (2 + 3 * k) (L (2 + 3 * k)) = true → ∀ i, i < 2 + 3 * k + 1 → ft i (L i) = true := by
    intro k _ h1 h2 i hi
    by_cases e : i = 2 + 3 * k
    · rw [e]; exact h2
    · exact h1 i (by omega)
  exact loop_r (fun m (s : Int32 × Int32) k => L_X10_readCastle_67 (nI n) tx r3 m (nI (2 + 3 * k)) (nI k) s.1 s.2 (fun (w11 : Int32) (w12 : Int32) (w13 : Int32) (w14 : Int32) => some ((-9 : Int32), w11, w12, w13, w14, r3))) 5 (fun k s => 2 + 3 * k ≤ n ∧ (∀ i, i < 2 + 3 * k → ft i (L i) = true) ∧ s.1 = rs L 1 k ∧ s.2 = rs L 2 k) (RC L n r3)
    (by
      rintro m ⟨s1, s2⟩ ⟨g1, g2, g3, g4⟩
      dsimp only at g3 g4 ⊢
      rw [L_X10_readCastle_67.eq_2]
      by_cases e : n = 17
      · subst e
        rw [if_pos (Int32.le_refl _)]
        exact ⟨_, _, _, _, _, rfl, Or.inl ⟨rfl, by decide, by decide, g2⟩, fun _ => ⟨rfl, g3, g4, by decide⟩⟩
      · have hlt : 17 < n := by omega
        have hff : FF L n (nI 17) := Or.inr (Or.inl ⟨17, hlt, rfl, ft_17 (by decide), g2⟩)
        rw [if_neg (show ¬ nI n ≤ nI (2 + 3 * 5) by rw [n_le _ _ (by omega) (by omega)]; omega), inB_nI (by omega) (by omega), gd_t, nm_eq, if_pos (show nI 5 = 5 from rfl)]
        refine ⟨nI 17, nI 17, nI 5, s1, s2, ?_, hff, fun e => absurd e (nI_n9 (by decide))⟩
        split <;> rfl)
    (by
      rintro m ⟨s1, s2⟩ k hk ⟨g1, g2, g3, g4⟩
      dsimp only at g3 g4 ⊢
      rw [L_X10_readCastle_67.eq_2]
      by_cases e : n = 2 + 3 * k
      · rw [if_pos (show nI n ≤ nI (2 + 3 * k) by rw [e]; exact Int32.le_refl _)]
        refine Or.inl ⟨_, _, _, _, _, rfl, Or.inl ⟨rfl, h2, by omega, fun i hi => g2 i (by omega)⟩, fun _ => ?_⟩
        rw [show (n - 2) / 3 = k by omega]
        exact ⟨rfl, g3, g4, by omega⟩
      · have hlt : 2 + 3 * k < n := by omega
        have hl0 := (hL _ hlt).1
        rw [if_neg (show ¬ nI n ≤ nI (2 + 3 * k) by rw [n_le _ _ (by omega) (by omega)]; omega), inB_nI (by omega) (by omega), gd_t, nm_eq, nI_clamp (by omega), (hL _ hlt).2]
        by_cases c70 : L (2 + 3 * k) = 70
        · have hf0 : ft (2 + 3 * k) (L (2 + 3 * k)) = true := by rw [ft_F hk, c70]; rfl
          have ok1 := lt1 k hlt g2 hf0
          rw [if_pos (show nI (L (2 + 3 * k)) = 70 by rw [q70_eq _ (by omega)]; exact c70), if_neg (show ¬ nI k = 5 by rw [q5_eq _ (by omega)]; omega), nI_1, nm_eq, show m_X10_figure 0 1 (nI n) (nI (2 + 3 * k + 1)) tx = _ from fig_eq (h := 1) (by omega) hn (Or.inl rfl) hL]
          by_cases d1 : 2 + 3 * k + 1 < n ∧ 48 ≤ L (2 + 3 * k + 1) ∧ L (2 + 3 * k + 1) ≤ 48 + 1
          · have hf1 : ft (2 + 3 * k + 1) (L (2 + 3 * k + 1)) = true := by rw [ft_d hk (Or.inl rfl), decide_eq_true d1.2.1, decide_eq_true (by omega)]; rfl
            have ok2 : ∀ i, i < 2 + 3 * k + 2 → ft i (L i) = true := fun i hi => by
              by_cases e : i = 2 + 3 * k + 1
              · rw [e]; exact hf1
              · exact ok1 i (by omega)
            rw [if_pos d1, bd2_some, nm_eq, if_neg (show ¬ nI (L (2 + 3 * k + 1) - 48) = -9 from nI_n9 (by omega)), show m_X10_figure 0 1 (nI n) (nI (2 + 3 * k + 1 + 1)) tx = _ from fig_eq (h := 1) (p := 2 + 3 * k + 2) (by omega) hn (Or.inl rfl) hL]
            by_cases d2 : 2 + 3 * k + 2 < n ∧ 48 ≤ L (2 + 3 * k + 2) ∧ L (2 + 3 * k + 2) ≤ 48 + 1
            · have hf2 : ft (2 + 3 * k + 2) (L (2 + 3 * k + 2)) = true := by rw [ft_d hk (Or.inr rfl), decide_eq_true d2.2.1, decide_eq_true (by omega)]; rfl
              rw [if_pos d2, bd2_some]
              dsimp only
              rw [if_neg (show ¬ nI (L (2 + 3 * k + 2) - 48) = -9 from nI_n9 (by omega)), nm_eq, nm_eq, nm_eq, nI_1, show 2 + 3 * k + 2 + 1 = 2 + 3 * (k + 1) by omega, g3, g4]
              refine Or.inr ⟨(rs L 1 (k + 1), rs L 2 (k + 1)), ⟨by omega, fun i hi => ?_, rfl, rfl⟩, rfl⟩
              by_cases e : i = 2 + 3 * k + 2
              · rw [e]; exact hf2
              · exact ok2 i (by omega)
            · rw [if_neg d2, bd2_some]
              dsimp only
              rw [if_pos rfl]
              refine Or.inl ⟨_, _, _, _, _, rfl, ?_, fun e => absurd e (nI_n9 (by omega))⟩
              by_cases en : 2 + 3 * k + 2 = n
              · exact Or.inr (Or.inr ⟨by rw [← en], fun i hi => ok2 i (by omega), Or.inr (by omega)⟩)
              · refine Or.inr (Or.inl ⟨2 + 3 * k + 2, by omega, rfl, ?_, ok2⟩)
                rw [ft_d hk (Or.inr rfl)]
                cases ha : decide (48 ≤ L (2 + 3 * k + 2))
                · rfl
                · cases hb : decide (L (2 + 3 * k + 2) ≤ 49)
                  · rfl
                  · exact absurd ⟨by omega, of_decide_eq_true ha, by have := of_decide_eq_true hb; omega⟩ d2
          · rw [if_neg d1, bd2_some, nm_eq, if_pos rfl]
            dsimp only
            rw [if_pos rfl]
            refine Or.inl ⟨_, _, _, _, _, rfl, ?_, fun e => absurd e (nI_n9 (by omega))⟩
            by_cases en : 2 + 3 * k + 1 = n
            · exact Or.inr (Or.inr ⟨by rw [← en], fun i hi => ok1 i (by omega), Or.inr (by omega)⟩)
            · refine Or.inr (Or.inl ⟨2 + 3 * k + 1, by omega, rfl, ?_, ok1⟩)
              rw [ft_d hk (Or.inl rfl)]
              cases ha : decide (48 ≤ L (2 + 3 * k + 1))
              · rfl
              · cases hb : decide (L (2 + 3 * k + 1) ≤ 49)
                · rfl
                · exact absurd ⟨by omega, of_decide_eq_true ha, by have := of_decide_eq_true hb; omega⟩ d1
        · rw [if_neg (show ¬ nI (L (2 + 3 * k)) = 70 by rw [q70_eq _ (by omega)]; exact c70)]
          refine Or.inl ⟨_, _, _, _, _, rfl, Or.inr (Or.inl ⟨2 + 3 * k, hlt, rfl, ?_, g2⟩), fun e => absurd e (nI_n9 (by omega))⟩
          rw [ft_F hk]
          exact beq_false_of_ne c70)
    5 0 (0, 0) 1024 rfl (by decide) (by decide) ⟨by omega, fun i hi => by
      rcases (show i = 0 ∨ i = 1 by omega) with rfl | rfl
      · exact f0
      · exact f1, rfl, rfl⟩
theorem rc_model {n : Nat} (hn : n ≤ 24) {L : Nat → Nat} {tx : Nat → Int32} (hL : ∀ i, i < n → L i < 256 ∧ tx i = nI (L i)) (z2 z3 z4 z5 z6 : Int32) :
    ∃ r w2 w3 w4 w5 w6, m_X10_readCastle (nI n) z2 z3 z4 z5 z6 tx = some (r, w2, w3, w4, w5, w6) ∧ FF L n r ∧ (r = -9 → w3 = nI ((n - 2) / 3) ∧ w4 = rs L 1 ((n - 2) / 3) ∧ w5 = rs L 2 ((n - 2) / 3) ∧ (n - 2) / 3 < 6 ∧ w6 = nI (L 1 - 48)) := by
  unfold m_X10_readCastle
  by_cases n0 : n = 0
  · subst n0
    rw [if_pos (show nI 0 = 0 from rfl)]
    exact ⟨_, _, _, _, _, _, rfl, Or.inr (Or.inr ⟨rfl, fun i hi => absurd hi (Nat.not_lt_zero i), Or.inl (by decide)⟩), fun e => absurd e (by decide)⟩
  · rw [if_neg (nI_ne0 (by omega) (by omega)), show Int32.toNatClampNeg 0 = 0 from rfl, (hL 0 (by omega)).2]
    have hl0 := (hL 0 (by omega)).1
    by_cases c77 : L 0 = 77
    · have f0 : ft 0 (L 0) = true := by rw [c77]; rfl
      have ok0 : ∀ i, i < 1 → ft i (L i) = true := fun i hi => by rw [show i = 0 by omega]; exact f0
      rw [if_pos (show nI (L 0) = 77 by rw [q77_eq _ (by omega)]; exact c77), show m_X10_figure 0 6 (nI n) 1 tx = _ from fig_eq (h := 6) (p := 1) (by omega) hn (Or.inr rfl) hL]
      by_cases d1 : 1 < n ∧ 48 ≤ L 1 ∧ L 1 ≤ 48 + 6
      · have f1 : ft 1 (L 1) = true := by
          unfold ft
          rw [if_neg (by decide), if_pos rfl, decide_eq_true d1.2.1, decide_eq_true (by omega)]; rfl
        rw [if_pos d1, bd2_some, if_neg (nI_n9 (by omega))]
        obtain ⟨r, w2, w3, w4, w5, a1, a2, a3⟩ := rc67 hn hL (by omega) f0 f1 (nI (L 1 - 48))
        exact ⟨r, w2, w3, w4, w5, _, a1, a2, fun e => ⟨(a3 e).1, (a3 e).2.1, (a3 e).2.2.1, (a3 e).2.2.2, rfl⟩⟩
      · rw [if_neg d1, bd2_some, if_pos rfl]
        refine ⟨_, _, _, _, _, _, rfl, ?_, fun e => absurd e (by decide)⟩
        by_cases en : n = 1
        · exact Or.inr (Or.inr ⟨by rw [en]; rfl, fun i hi => ok0 i (by omega), Or.inl (by omega)⟩)
        · refine Or.inr (Or.inl ⟨1, by omega, rfl, ?_, ok0⟩)
          unfold ft
          rw [if_neg (by decide), if_pos rfl]
          cases ha : decide (48 ≤ L 1)
          · rfl
          · cases hb : decide (L 1 ≤ 54)
            · rfl
            · exact absurd ⟨by omega, of_decide_eq_true ha, by have := of_decide_eq_true hb; omega⟩ d1
    · rw [if_neg (show ¬ nI (L 0) = 77 by rw [q77_eq _ (by omega)]; exact c77)]
      refine ⟨_, _, _, _, _, _, rfl, Or.inr (Or.inl ⟨0, by omega, rfl, ?_, fun i hi => absurd hi (Nat.not_lt_zero i)⟩), fun e => absurd e (by decide)⟩
      unfold ft
      rw [if_pos rfl]
      exact beq_false_of_ne c77
theorem op_fault {tl tz : Int32} {tb tx : Nat → Int32} (h : RText 24 tl tz tb tx) (th z2 z3 z4 z5 z6 : Int32) : ∃ r w2 w3 w4 w5 w6, m_X9_fault 24 tl tb = some r ∧ m_X10_fault th tz z2 z3 z4 z5 z6 tx = some (r, 0, w2, w3, w4, w5, w6) := by
  obtain ⟨n, L, hn, rfl, rfl, hL⟩ := h
  obtain ⟨r, a1, a2⟩ := ff_class hn (tb := tb) (fun i hi => ⟨(hL i hi).1, (hL i hi).2.1⟩)
  obtain ⟨r', w2, w3, w4, w5, w6, b1, b2, -⟩ := rc_model hn (tx := tx) (fun i hi => ⟨(hL i hi).1, (hL i hi).2.2⟩) z2 z3 z4 z5 z6
  have e := FF_one a2 b2
  subst e
  unfold m_X9_fault m_X10_fault
  rw [a1, b1, bd1_some, bd6_some]
  exact ⟨_, _, _, _, _, _, rfl, rfl⟩
