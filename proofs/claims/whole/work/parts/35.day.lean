theorem ush33 (p : Int64) : ∃ n, n < 2147483648 ∧ j_lushr p 33 = Int64.ofNat n := by
  refine ⟨(p.toUInt64 >>> 33).toNat, ?_, ?_⟩
  · rw [UInt64.toNat_shiftRight]
    have h1 : p.toUInt64.toNat < 18446744073709551616 := p.toUInt64.toNat_lt
    have h2 : (33 : UInt64).toNat % 64 = 33 := rfl
    rw [h2, Nat.shiftRight_eq_div_pow]
    omega
  · show (p.toUInt64 >>> 33).toInt64 = _
    rw [← UInt64.toInt64_ofNat', UInt64.ofNat_toNat]
theorem dd_lt (p : Int64) : ∃ j, j < 7 ∧ Int64.toInt32 ((j_lushr p (33 : Int32)) - (j_lushr p (33 : Int32)) / (7 : Int64) * (7 : Int64)) = nI j := by
  obtain ⟨n, hn, e⟩ := ush33 p
  rw [e]
  refine ⟨n % 7, Nat.mod_lt _ (by decide), ?_⟩
  have h0 : (Int64.ofNat n).toInt = (n : Int) := Int64.toInt_ofNat_of_lt (by omega)
  have h7 : (7 : Int64).toInt = 7 := rfl
  have h1 : (Int64.ofNat n / 7).toInt = ((n / 7 : Nat) : Int) := by
    rw [Int64.toInt_div, h0, h7, Int.tdiv_eq_ediv_of_nonneg (by omega)]
    rw [Int.bmod_eq_of_le (by omega) (by omega)]
    omega
  have h2 : (Int64.ofNat n / 7 * 7).toInt = ((n / 7 * 7 : Nat) : Int) := by
    rw [Int64.toInt_mul, h1, h7, Int.bmod_eq_of_le (by omega) (by omega)]
    omega
  have h3 : (Int64.ofNat n - Int64.ofNat n / 7 * 7).toInt = ((n % 7 : Nat) : Int) := by
    rw [Int64.toInt_sub, h0, h2, Int.bmod_eq_of_le (by omega) (by omega)]
    omega
  apply Int32.toInt_inj.mp
  rw [Int64.toInt_toInt32, h3, Int.bmod_eq_of_le (by omega) (by omega)]
  exact (Int32.toInt_ofNat_of_lt (by omega)).symm
theorem day92 (page : Nat → Int32) (x5 x6 r10 : Int32) (K : Int32 → Option (Int32 × Int32 × Int64 × Int32 × (Nat → Int32) × (Nat → Int32) × (Nat → Int64))) : L_X10_day_92 page x5 x6 r10 1024 0 0 K = K (orv page 7) := by
  obtain ⟨s, h1, h2⟩ := loop_u (fun n (s : Int32) j => L_X10_day_92 page x5 x6 r10 n s (nI j) K) (fun s => K s) 7 (fun j s => s = orv page j)
    (by
      intro n s h
      rw [L_X10_day_92.eq_2, if_pos (by decide)])
    (by
      intro n s j hj g1
      refine ⟨orv page (j + 1), rfl, ?_⟩
      rw [L_X10_day_92.eq_2, if_neg (show ¬ (7 : Int32) ≤ nI j by rw [q7_le _ (by omega)]; omega), inB_nI (by omega) (by omega), gd_t, nm_eq, nm_eq, nI_1, nI_clamp (by omega), cn7.1, cn7.2.1, cn7.2.2.1, cn7.2.2.2.1]
      rw [pk_un (show j ≠ 8 by omega), pk_un (show j ≠ 7 by omega), pk_un (show j ≠ 7 by omega), pk_un (show j ≠ 10 by omega), pk_un (show j ≠ 9 by omega), g1]
      rfl)
    (j := 0) (s := 0) (fuel := 1024) (by decide) (by decide) rfl
  rw [← h1]
  exact h2
theorem day115 (x15 : Int32) (w : Nat → Int32) (K : (Nat → Int32) → Option (Int32 × Int32 × Int64 × Int32 × (Nat → Int32) × (Nat → Int32) × (Nat → Int64))) : ∃ w', (∀ i, i < 7 → w' i = x15) ∧ (∀ i, 7 ≤ i → w' i = w i) ∧ L_X10_day_115 x15 1024 0 w K = K w' := by
  obtain ⟨s, ⟨h1, h1'⟩, h2⟩ := loop_u (fun n (s : Nat → Int32) j => L_X10_day_115 x15 n (nI j) s K) (fun s => K s) 7 (fun j s => (∀ i, i < j → s i = x15) ∧ ∀ i, 7 ≤ i → s i = w i)
    (by
      intro n s h
      rw [L_X10_day_115.eq_2, if_pos (by decide)])
    (by
      rintro n s j hj ⟨g1, g2⟩
      refine ⟨upd s j x15, ⟨fun i hi => ?_, fun i hi => ?_⟩, ?_⟩
      · by_cases e : i = j
        · subst e; exact pk_us
        · rw [pk_un e]; exact g1 i (by omega)
      · rw [pk_un (by omega)]; exact g2 i hi
      · rw [L_X10_day_115.eq_2, if_neg (show ¬ (7 : Int32) ≤ nI j by rw [q7_le _ (by omega)]; omega), inB_nI (by omega) (by omega), gd_t, nm_eq, nI_1, nI_clamp (by omega)])
    (j := 0) (s := w) (fuel := 1024) (by decide) (by decide) ⟨fun i hi => absurd hi (Nat.not_lt_zero i), fun i _ => rfl⟩
  exact ⟨s, h1, h1', h2⟩
theorem rem28 {n : Nat} (h : n < 2147483648) : nI n - nI n / 28 * 28 = nI (n % 28) := pk_rem h (by decide) (by decide)
theorem op_day {nf so : Nat} {d t a c k : Int32} {kn pg : Nat → Int32} (h : RNow nf so d t a c k kn pg) {nx ac aa : Int32} {mo bk : Nat → Int32} {se bs : Nat → Int64} (hA : RActs nf so nx ac aa mo bk se bs) (sd : Int64) (th : Int32) :
    ∃ r sd' nx' ac' d' t' a' c' mo' kn' se' bk' pg' bs', m_X9_day sd nx ac d t a c k mo kn se = some (r, sd', nx', ac', d', t', a', c', mo', kn', se') ∧ m_X10_day th sd aa bk pg bs = some (r, 0, sd', ac', bk', pg', bs') ∧ RNow nf so d' t' a' c' k kn' pg' ∧ RActs nf so nx' ac' ac' mo' bk' se' bs' := by
  obtain ⟨M, hM, rfl, rfl, rfl, rfl, rfl, hk, hp⟩ := h
  obtain ⟨na, nn, rfl, rfl, rfl, hA⟩ := hA
  obtain ⟨a', nx', mo', bk', se', bs', g1, g2, g3⟩ := rec_note hA hM kn pg hk hp sd
  have hM2 := hM
  obtain ⟨⟨d, t, a, c, k, h7, h8, h9, h10, h11, b1, b2, b3, b4, b5, b6⟩, hsub⟩ := hM2
  obtain ⟨c', hc', ec'⟩ : ∃ c', c' < 3 ∧ (if nI c = 2 then (0 : Int32) else nI c) = nI c' := by
    by_cases h : c = 2
    · subst h; exact ⟨0, by decide, rfl⟩
    · exact ⟨c, b4, if_neg (show ¬ nI c = 2 by rw [q2_eq _ (by omega)]; exact h)⟩
  unfold m_X9_day m_X10_day
  rw [g2, g3, bd4_some, bd3_some]
  unfold m_X4_dayGoesBy
  rw [h7, nI_1, rem28 (by omega), nm_eq, nm_ite, nm_ite, cn7.1, cn7.2.1, cn7.2.2.1, cn7.2.2.2.1, pk_un (show 10 ≠ 9 by decide), hp 10 (by decide), h10, ec', pk_un (show 7 ≠ 10 by decide), pk_un (show 7 ≠ 9 by decide), hp 7 (by decide), h7, nI_1, nm_eq]
  rw [nm_eq]
  dsimp only
  rw [pk_us]
  by_cases e28 : d = 27
  · subst e28
    obtain ⟨j, hj, ej⟩ := dd_lt (sd * 6364136223846793005 + 1442695040888963407)
    obtain ⟨wf, f1, f2⟩ := w_fill (orv kn 7) kn
    have e : orv kn 7 = orv pg 7 := orv_cong 7 (fun i hi => by rw [hk i hi, hp i (by omega)])
    rw [if_pos (show nI ((27 + 1) % 28) = 0 from rfl), bd4_some, nm_eq, if_neg (show ¬ (1 : Int32) = 0 by decide), if_pos (show nI (27 + 1) = 28 from rfl)]
    unfold m_X9_nextSeed m_X9_drawnDay m_X10_drawDay m_X4_beginMonth
    rw [bd1_some, bd1_some, w_any, bd1_some, f1, bd1_some, bd2_some, nm_eq, bd2_some, ej, day92]
    obtain ⟨w', u1, u2, u3⟩ := day115 (orv pg 7) (upd (upd (upd (upd (upd pg 9 0) 10 (nI c')) 7 (nI (27 + 1))) 7 0) 8 (nI j)) (fun (w22 : (Nat → Int32)) => some (w22 7, (0 : Int32), sd * 6364136223846793005 + 1442695040888963407, nI a', bk', w22, bs'))
    rw [u3]
    have e7 : w' 7 = 0 := by rw [u2 7 (by decide), pk_un (by decide), pk_us]
    rw [e7]
    refine ⟨_, _, _, _, _, _, _, _, _, _, _, _, _, _, rfl, rfl, ⟨w', ⟨⟨0, j, 0, c', k, ?_, ?_, ?_, ?_, ?_, by decide, hj, by decide, hc', b5, ?_⟩, fun i hi => ?_⟩, ?_, ?_, ?_, ?_, ?_, fun i hi => ?_, fun i hi => rfl⟩, _, _, rfl, rfl, rfl, g1⟩
    · exact e7
    · rw [u2 8 (by decide), pk_us]
    · rw [u2 9 (by decide), pk_un (by decide), pk_un (by decide), pk_un (by decide), pk_un (by decide), pk_us]; rfl
    · rw [u2 10 (by decide), pk_un (by decide), pk_un (by decide), pk_un (by decide), pk_us]
    · rw [u2 11 (by decide), pk_un (by decide), pk_un (by decide), pk_un (by decide), pk_un (by decide), pk_un (by decide), hp 11 (by decide)]; exact h11
    · rw [u1 j hj]
      exact orv_bit (t := t) (by rw [hp t (by omega)]; exact b6) 7 b2
    · rw [u1 i hi]
      exact sub_orv (fun i hi => by rw [hp i (by omega)]; exact hsub i hi) 7 (by decide)
    · exact e7.symm
    · rw [u2 8 (by decide), pk_us]
    · rw [u2 9 (by decide), pk_un (by decide), pk_un (by decide), pk_un (by decide), pk_un (by decide), pk_us]
    · rw [u2 10 (by decide), pk_un (by decide), pk_un (by decide), pk_un (by decide), pk_us]
    · rw [u2 11 (by decide), pk_un (by decide), pk_un (by decide), pk_un (by decide), pk_un (by decide), pk_un (by decide), hp 11 (by decide)]
    · rw [u1 i hi, f2 i hi, e]
  · rw [if_neg (show ¬ nI ((d + 1) % 28) = 0 from nI_ne0 (by omega) (by omega)), bd4_some, nm_eq, if_pos (show (0 : Int32) = 0 from rfl), if_neg (show ¬ nI (d + 1) = 28 by rw [q28_eq _ (by omega)]; omega), show (d + 1) % 28 = d + 1 by omega]
    refine ⟨_, _, _, _, _, _, _, _, _, _, _, _, _, _, rfl, rfl, ⟨upd (upd (upd M 9 0) 10 (nI c')) 7 (nI (d + 1)), ⟨⟨d + 1, t, 0, c', k, ?_, ?_, ?_, ?_, ?_, by omega, b2, by decide, hc', b5, ?_⟩, fun i hi => ?_⟩, ?_, ?_, ?_, ?_, ?_, fun i hi => ?_, fun i hi => ?_⟩, _, _, rfl, rfl, rfl, g1⟩
    · rw [pk_us]
    · rw [pk_un (by decide), pk_un (by decide), pk_un (by decide)]; exact h8
    · rw [pk_un (by decide), pk_un (by decide), pk_us]; rfl
    · rw [pk_un (by decide), pk_us]
    · rw [pk_un (by decide), pk_un (by decide), pk_un (by decide)]; exact h11
    · rw [pk_un (by omega), pk_un (by omega), pk_un (by omega)]; exact b6
    · rw [pk_un (by omega), pk_un (by omega), pk_un (by omega)]; exact hsub i hi
    · rw [pk_us]
    · rw [pk_un (by decide), pk_un (by decide), pk_un (by decide)]
    · rw [pk_un (by decide), pk_un (by decide), pk_us]
    · rw [pk_un (by decide), pk_us]
    · rw [pk_un (by decide), pk_un (by decide), pk_un (by decide)]
    · rw [pk_un (by omega), pk_un (by omega), pk_un (by omega)]; exact hk i hi
    · by_cases e7 : i = 7
      · subst e7; rw [pk_us, pk_us]
      · rw [pk_un e7, pk_un e7]
        by_cases e10 : i = 10
        · subst e10; rw [pk_us, pk_us]
        · rw [pk_un e10, pk_un e10]
          by_cases e9 : i = 9
          · subst e9; rw [pk_us, pk_us]
          · rw [pk_un e9, pk_un e9]; exact hp i hi
