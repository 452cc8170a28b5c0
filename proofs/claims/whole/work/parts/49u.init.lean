theorem st_class : ∃ kn, m_X9_init = some (1, 0, 0, 0, 0, 0, kn) ∧ ∀ i, i < 7 → kn i = 1 := by
  obtain ⟨w, h1, h2⟩ := w_fill 1 (fun _ => (0 : Int32))
  refine ⟨w, ?_, h2⟩
  unfold m_X9_init m_X1_init m_X4_begin
  rw [bd1_some, h1, bd1_some, bd6_some]
theorem init142 (pg : Nat → Int32) (K : (Nat → Int32) → Option ((Nat → Int32) × (Nat → Int32) × (Nat → Int32) × (Nat → Int32) × (Nat → Int32))) : ∃ w, (∀ i, i < 7 → w i = 1) ∧ (∀ i, 7 ≤ i → w i = pg i) ∧ L_X10_init_142 1024 0 pg K = K w := by
  obtain ⟨s, ⟨h1, h1'⟩, h2⟩ := loop_u (fun n (s : Nat → Int32) j => L_X10_init_142 n (nI j) s K) (fun s => K s) 7 (fun j s => (∀ i, i < j → s i = 1) ∧ ∀ i, 7 ≤ i → s i = pg i)
    (by
      intro n s h
      rw [L_X10_init_142.eq_2, if_pos (by decide)])
    (by
      rintro n s j hj ⟨g1, g2⟩
      refine ⟨upd s j 1, ⟨fun i hi => ?_, fun i hi => ?_⟩, ?_⟩
      · by_cases e : i = j
        · subst e; exact pk_us
        · rw [pk_un e]; exact g1 i (by omega)
      · rw [pk_un (by omega)]; exact g2 i hi
      · rw [L_X10_init_142.eq_2, if_neg (show ¬ (7 : Int32) ≤ nI j by rw [q7_le _ (by omega)]; omega), inB_nI (by omega) (by omega), gd_t, nm_eq, nI_1, nI_clamp (by omega)])
    (j := 0) (s := pg) (fuel := 1024) (by decide) (by decide) ⟨fun i hi => absurd hi (Nat.not_lt_zero i), fun i _ => rfl⟩
  exact ⟨s, h1, h1', h2⟩
theorem st_model : ∃ pg ye no fo st, m_X10_init = some (pg, ye, no, fo, st) ∧ (∀ i, i < 7 → pg i = 1) ∧ (∀ i, 7 ≤ i → pg i = 0) ∧ FacOK fo ∧ TabOK 0 ye no := by
  unfold m_X10_init
  obtain ⟨f, y, n, h1, h2, h3⟩ := m_lay (nf := 0) (by decide) 0 (fun _ => (0 : Int32)) (fun _ => (0 : Int32)) (fun _ => (0 : Int32)) (fun _ => (0 : Int32)) (fun _ => (0 : Int32))
  obtain ⟨w, g1, g2, g3⟩ := init142 (fun _ => (0 : Int32)) (fun (w3 : (Nat → Int32)) => bd4 (m_X10_layAnswers (0 : Int32) (0 : Int32) (fun _ => (0 : Int32)) (fun _ => (0 : Int32)) (fun _ => (0 : Int32)) (fun _ => (0 : Int32)) (fun _ => (0 : Int32))) (fun (w7 : (Nat → Int32)) (w8 : (Nat → Int32)) (w9 : (Nat → Int32)) (w10 : (Nat → Int32)) => some (w3, w8, w9, w7, w10)))
  rw [g3, show m_X10_layAnswers (0 : Int32) (0 : Int32) (fun _ => (0 : Int32)) (fun _ => (0 : Int32)) (fun _ => (0 : Int32)) (fun _ => (0 : Int32)) (fun _ => (0 : Int32)) = _ from h3, bd4_some]
  exact ⟨_, _, _, _, _, rfl, g1, g2, h1, h2⟩
theorem st_now {kn pg : Nat → Int32} (hk : ∀ i, i < 7 → kn i = 1) (h1 : ∀ i, i < 7 → pg i = 1) (h0 : ∀ i, 7 ≤ i → pg i = 0) : RNow 0 0 0 0 0 0 0 kn pg := by
  refine ⟨pg, ⟨⟨0, 0, 0, 0, 0, h0 7 (by decide), h0 8 (by decide), h0 9 (by decide), h0 10 (by decide), h0 11 (by decide), by decide, by decide, by decide, by decide, by decide, ?_⟩, fun i hi => ?_⟩, (h0 7 (by decide)).symm, (h0 8 (by decide)).symm, (h0 9 (by decide)).symm, (h0 10 (by decide)).symm, (h0 11 (by decide)).symm, fun i hi => by rw [hk i hi, h1 i hi], fun i hi => rfl⟩
  · rw [h1 0 (by decide)]; decide
  · rw [h1 i hi]
    exact (by decide : ∀ i, i < 32 → bt 1 i = true → i < 2 ^ 0)
theorem st_cas : RCas 0 0 0 1 := by
  unfold RCas
  decide +kernel
