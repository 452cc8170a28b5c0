def ft (i b : Nat) : Bool := if i = 0 then b == 77 else if i = 1 then decide (48 ≤ b) && decide (b ≤ 54) else if i < 17 then (if (i - 2) % 3 = 0 then b == 70 else decide (48 ≤ b) && decide (b ≤ 49)) else false
theorem fits_eq : ∀ i, i < 24 → ∀ b, b < 256 → m_X1_fits (nI i) (nI b) = some (b2i (ft i b)) := by decide +kernel
/-- where a castle's text is at fault -/
def FF (L : Nat → Nat) (n : Nat) (r : Int32) : Prop := (r = -9 ∧ 2 ≤ n ∧ (n - 2) % 3 = 0 ∧ ∀ i, i < n → ft i (L i) = true) ∨ (∃ j, j < n ∧ r = nI j ∧ ft j (L j) = false ∧ ∀ i, i < j → ft i (L i) = true) ∨ (r = nI n ∧ (∀ i, i < n → ft i (L i) = true) ∧ (n < 2 ∨ ¬ (n - 2) % 3 = 0))
theorem FF_one {L : Nat → Nat} {n : Nat} {r s : Int32} (h : FF L n r) (g : FF L n s) : r = s := by
  rcases h with ⟨h1, h2, h3, h4⟩ | ⟨j, h1, h2, h3, h4⟩ | ⟨h1, h2, h3⟩ <;> rcases g with ⟨g1, g2, g3, g4⟩ | ⟨i, g1, g2, g3, g4⟩ | ⟨g1, g2, g3⟩
  · rw [h1, g1]
  · rw [h4 i g1] at g3; cases g3
  · rcases g3 with g3 | g3
    · omega
    · exact absurd h3 g3
  · rw [g4 j h1] at h3; cases h3
  · rcases Nat.lt_trichotomy i j with e | e | e
    · rw [h4 i e] at g3; cases g3
    · rw [h2, g2, e]
    · rw [g4 j e] at h3; cases h3
  · rw [g2 j h1] at h3; cases h3
  · rcases h3 with h3 | h3
    · omega
    · exact absurd g3 h3
  · rw [h2 i g1] at g3; cases g3
  · rw [h1, g1]
theorem at24 {i n : Nat} (hi : i < n) (hn : n ≤ 24) (v : Nat → Int32) : m_X3_at (nI i) 24 (nI n) v = some (v i) := by
  unfold m_X3_at
  rw [nm_eq, if_neg (nI_pos (by omega)), if_neg (show ¬ nI n ≤ nI i by rw [n_le _ _ (by omega) (by omega)]; omega), inB_nI (by omega) (by omega), gd_t, nI_clamp (by omega)]
theorem rem3 {n : Nat} (h : n < 2147483648) : nI n - nI n / 3 * 3 = nI (n % 3) := pk_rem h (by decide) (by decide)
theorem sub2 {n : Nat} (h : 2 ≤ n) : nI n - 2 = nI (n - 2) := by
  rw [show (2 : Int32) = nI 2 from rfl]
  exact pk_sub h
theorem ff_class {n : Nat} (hn : n ≤ 24) {L : Nat → Nat} {tb : Nat → Int32} (hL : ∀ i, i < n → L i < 256 ∧ tb i = nI (L i)) : ∃ r, m_X1_firstFault 24 (nI n) tb = some r ∧ FF L n r := by
  unfold m_X1_firstFault
  exact loop_r (fun m (s : Unit) j => L_X1_firstFault_2 (nI n) tb 24 m (nI j) (nm (fun (x9 : Int32) => if x9 = (0 : Int32) then some (nI n) else some (-9 : Int32)) (fun (k54 : Int32 → Option (Int32)) => nm (k54 (0 : Int32)) (fun (k53 : Option (Int32)) => if nI n < (2 : Int32) then k53 else if ((nI n - (2 : Int32)) - (nI n - (2 : Int32)) / (3 : Int32) * (3 : Int32)) = (0 : Int32) then k54 (1 : Int32) else k53)))) n (fun j _ => ∀ i, i < j → ft i (L i) = true) (fun o => ∃ r, o = some r ∧ FF L n r)
    (by
      intro m s h
      rw [L_X1_firstFault_2.eq_2, if_pos (Int32.le_refl _), nm_eq, nm_eq]
      dsimp only
      rw [if_00, if_10]
      by_cases h2 : n < 2
      · rw [if_pos (show nI n < 2 by rw [q2_gt _ (by omega)]; exact h2)]
        exact ⟨_, rfl, Or.inr (Or.inr ⟨rfl, h, Or.inl h2⟩)⟩
      · rw [if_neg (show ¬ nI n < 2 by rw [q2_gt _ (by omega)]; exact h2), sub2 (by omega), rem3 (by omega)]
        by_cases h3 : (n - 2) % 3 = 0
        · rw [if_pos (show nI ((n - 2) % 3) = 0 by rw [h3]; rfl)]
          exact ⟨_, rfl, Or.inl ⟨rfl, by omega, h3, h⟩⟩
        · rw [if_neg (nI_ne0 (by omega) (by omega))]
          exact ⟨_, rfl, Or.inr (Or.inr ⟨rfl, h, Or.inr h3⟩)⟩)
    (by
      intro m s j hj h
      rw [L_X1_firstFault_2.eq_2, if_neg (show ¬ nI n ≤ nI j by rw [n_le _ _ (by omega) (by omega)]; omega), at24 hj hn, bd1_some, (hL j hj).2, fits_eq j (by omega) _ (hL j hj).1, bd1_some]
      cases e : ft j (L j)
      · rw [show b2i false = 0 from rfl, if_00]
        exact Or.inl ⟨_, rfl, Or.inr (Or.inl ⟨j, hj, rfl, e, h⟩)⟩
      · rw [show b2i true = 1 from rfl, if_10, nm_eq, nI_1]
        refine Or.inr ⟨(), fun i hi => ?_, rfl⟩
        by_cases ei : i = j
        · rw [ei]; exact e
        · exact h i (by omega))
    n 0 () 1024 rfl (Nat.zero_le n) (by omega) (fun i hi => absurd hi (Nat.not_lt_zero i))
theorem fig_eq {n p h : Nat} (hp : p ≤ n) (hn : n ≤ 24) (hh : h = 1 ∨ h = 6) {L : Nat → Nat} {tx : Nat → Int32} (hL : ∀ i, i < n → L i < 256 ∧ tx i = nI (L i)) : m_X10_figure 0 (nI h) (nI n) (nI p) tx = some (if p < n ∧ 48 ≤ L p ∧ L p ≤ 48 + h then (nI (L p - 48), nI (p + 1)) else (-9, nI p)) := by
  unfold m_X10_figure
  by_cases e : p = n
  · subst e
    rw [if_pos rfl, if_neg (by omega)]
  · have hpn : p < n := by omega
    rw [if_neg (show ¬ nI p = nI n by rw [nI_eq (by omega) (by omega)]; exact e), inB_nI (by omega) (by omega), gd_t, nI_clamp (by omega), (hL p hpn).2, m_inI, bd1_some]
    have := (by decide +kernel : ∀ h, h < 7 → (h = 1 ∨ h = 6) → ∀ b, b < 256 → (decide (0 ≤ nI b - 48) && decide (nI b - 48 ≤ nI h)) = decide (48 ≤ b ∧ b ≤ 48 + h)) h (by omega) hh (L p) (hL p hpn).1
    rw [this]
    by_cases c : 48 ≤ L p ∧ L p ≤ 48 + h
    · rw [decide_eq_true c, show b2i true = 1 from rfl, if_10, if_pos ⟨hpn, c⟩, nm_eq, nI_1, nI_sub1 (by omega), show p + 1 - 1 = p by omega, inB_nI (by omega) (by omega), gd_t, nI_clamp (by omega), (hL p hpn).2, show (48 : Int32) = nI 48 from rfl, pk_sub c.1]
    · rw [decide_eq_false c, show b2i false = 0 from rfl, if_00, if_neg (fun h => c h.2)]
def rs (L : Nat → Nat) (c : Nat) : Nat → Int32
  | 0 => 0
  | k + 1 => rs L c k ||| (nI (L (2 + 3 * k + c) - 48) <<< (nI k &&& 31))
theorem ft_F {k b : Nat} (hk : k < 5) : ft (2 + 3 * k) b = (b == 70) := by
  unfold ft
  rw [if_neg (by omega), if_neg (by omega), if_pos (by omega), if_pos (by omega)]
theorem ft_d {k c b : Nat} (hk : k < 5) (hc : c = 1 ∨ c = 2) : ft (2 + 3 * k + c) b = (decide (48 ≤ b) && decide (b ≤ 49)) := by
  unfold ft
  rw [if_neg (by omega), if_neg (by omega), if_pos (by omega), if_neg (by omega)]
theorem ft_17 {i b : Nat} (hi : 17 ≤ i) : ft i b = false := by
  unfold ft
  rw [if_neg (by omega), if_neg (by omega), if_neg (by omega)]
