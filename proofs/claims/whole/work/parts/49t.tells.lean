/-- how many kinds of what is asked for are left -/
def knd (x : Nat) (v : Nat → Int32) : Nat := if x = 5 then fb_ct (fun i => !(decide (v i = 0))) 7 else (if orv v 7 &&& cF x = 0 then 0 else 1) + (if orv v 7 &&& (cF x ^^^ (-1)) = 0 then 0 else 1)
theorem kl_eq {x : Nat} (hx : x < 6) (v : Nat → Int32) : m_X2_kindsLeft (nI x) 7 v = some (nI (knd x v)) := by
  unfold m_X2_kindsLeft knd
  by_cases h5 : x = 5
  · subst h5
    obtain ⟨r, a1, a2⟩ := w_days v
    rw [if_pos (show nI 5 = 5 from rfl), if_pos rfl, a1, bd1_some, m_bitCount, bd1_some]
    have e1 : fb_ct (bt r) 32 = fb_ct (fun i => !(decide (v i = 0))) 7 := by
      have hs := fb_ct_split (bt r) 7 25
      rw [fb_ct_zero (p := fun k => bt r (7 + k)) (n := 25) |>.mpr (fun k hk => by rw [a2 _ (by omega), decide_eq_false (by omega)]; rfl)] at hs
      rw [show (32 : Nat) = 7 + 25 from rfl, hs, Nat.add_zero]
      exact fb_ct_cong (fun i hi => by rw [a2 i (by omega), decide_eq_true hi, Bool.true_and])
    rw [e1]
  · rw [if_neg (show ¬ nI x = 5 by rw [q5_eq _ (by omega)]; exact h5), if_neg h5, w_any, bd1_some]
    unfold m_X9_isSoInAll m_X9_isSoInNone
    rw [cwf_eq (by omega), bd1_some, bd1_some]
    by_cases h1 : orv v 7 &&& cF x = 0
    · by_cases h2 : orv v 7 &&& (cF x ^^^ (-1)) = 0
      · rw [if_pos h1, if_pos h2, if_pos h1, if_pos h2]; rfl
      · rw [if_pos h1, if_neg h2, if_pos h1, if_neg h2]; rfl
    · by_cases h2 : orv v 7 &&& (cF x ^^^ (-1)) = 0
      · rw [if_neg h1, if_pos h2, if_neg h1, if_pos h2]; rfl
      · rw [if_neg h1, if_neg h2, if_neg h1, if_neg h2]; rfl
theorem knd_le {x : Nat} (v : Nat → Int32) : knd x v ≤ 7 := by
  unfold knd
  split
  · exact fb_ct_le _ _
  · split <;> split <;> omega
