def nL (n : Nat) : Int64 := Int64.ofNat n
theorem nL_int {n : Nat} (h : n < 9223372036854775808) : (nL n).toInt = (n : Int) := Int64.toInt_ofNat_of_lt h
theorem nL_div {a d : Nat} (ha : a < 9223372036854775808) (hd0 : 0 < d) (hd : d < 9223372036854775808) : nL a / nL d = nL (a / d) := by
  have h2 : a / d ≤ a := Nat.div_le_self a d
  apply Int64.toInt_inj.mp
  rw [Int64.toInt_div, nL_int ha, nL_int hd, nL_int (by omega), Int.tdiv_eq_ediv_of_nonneg (by omega), ← Int.natCast_ediv]
  obtain ⟨q, hq⟩ : ∃ q, q = a / d := ⟨_, rfl⟩
  rw [← hq] at h2 ⊢
  rw [Int.bmod_eq_of_le (by omega) (by omega)]
theorem nL_rem {a : Nat} (ha : a < 9223372036854775808) : nL a - nL a / 100 * 100 = nL (a % 100) := by
  rw [show (100 : Int64) = nL 100 from rfl, nL_div ha (by decide) (by decide)]
  apply Int64.toInt_inj.mp
  have h1 : (nL (a / 100) * nL 100).toInt = ((a / 100 * 100 : Nat) : Int) := by
    rw [Int64.toInt_mul, nL_int (by omega), nL_int (by decide), Int.bmod_eq_of_le (by omega) (by omega)]
    omega
  rw [Int64.toInt_sub, h1, nL_int ha, nL_int (by omega), Int.bmod_eq_of_le (by omega) (by omega)]
  omega
theorem nL_32 {a : Nat} (ha : a < 2147483648) : Int64.toInt32 (nL a) = nI a := by
  apply Int32.toInt_inj.mp
  rw [Int64.toInt_toInt32, nL_int (by omega), Int.bmod_eq_of_le (by omega) (by omega)]
  exact (Int32.toInt_ofNat_of_lt (by omega)).symm
theorem nL_of {x : Int64} (h : ¬ x < 0) : ∃ a, a < 9223372036854775808 ∧ x = nL a := by
  have h0 : 0 ≤ x.toInt := by
    have := Int64.le_iff_toInt_le.mp (Int64.not_lt.mp h)
    exact this
  have h1 : x.toInt < 9223372036854775808 := Int64.toInt_lt x
  refine ⟨x.toInt.toNat, by omega, ?_⟩
  apply Int64.toInt_inj.mp
  rw [nL_int (by omega)]
  omega
theorem hund : ∀ p, p < 6 → m_X10_hundred (nI p) = some (nL (100 ^ p)) := by decide +kernel
/-- the j-th question of a row of p -/
def dg (a p j : Nat) : Nat := a / 100 ^ (p - 1 - j) % 100
def okq (nf q : Nat) : Prop := q < 19 ∧ m_X1_hasSimple (nI q) (nI nf) = some 1 ∧ m_X10_noSimple (nI q) (nI nf) = some 0
theorem okq_any {nf q : Nat} (hf : nf < 6) (hq : q < 100) : okq nf q ∨ (¬ okq nf q ∧ m_X1_hasSimple (nI q) (nI nf) = some 0 ∧ m_X10_noSimple (nI q) (nI nf) = some 1) := by
  rcases hs_any (nI q) hf with ⟨q', h1, -, h2, e1, e2⟩ | ⟨e1, e2⟩
  · rw [nI_eq (by omega) (by omega)] at h2
    subst h2
    exact Or.inl ⟨h1, e1, e2⟩
  · refine Or.inr ⟨fun h => ?_, e1, e2⟩
    rw [h.2.1] at e1
    exact absurd (Option.some.inj e1) (by decide)
theorem lg_eq0 (x : Int64) : lg_cmp x 0 = 0 ↔ x = 0 := by
  unfold lg_cmp
  by_cases h : 0 < x
  · rw [if_pos h]
    exact ⟨fun q => absurd q (by decide), fun q => by rw [q] at h; exact absurd h Int64.lt_irrefl⟩
  · rw [if_neg h]
    by_cases e : x = 0
    · rw [if_pos e]; exact ⟨fun _ => e, fun _ => rfl⟩
    · rw [if_neg e]; exact ⟨fun q => absurd q (by decide), fun q => absurd q e⟩
theorem lg_ge0 (x : Int64) : 0 ≤ lg_cmp x 0 ↔ ¬ x < 0 := by
  unfold lg_cmp
  by_cases h : 0 < x
  · rw [if_pos h]
    exact ⟨fun _ => Int64.lt_asymm h, fun _ => by decide⟩
  · rw [if_neg h]
    by_cases e : x = 0
    · rw [if_pos e, e]; exact ⟨fun _ => Int64.lt_irrefl, fun _ => by decide⟩
    · rw [if_neg e]
      exact ⟨fun q => absurd q (by decide), fun q => absurd (Int64.lt_of_le_of_ne (Int64.not_lt.mp h) e) q⟩
theorem nL_0 {a : Nat} (h : a < 9223372036854775808) : nL a = 0 ↔ a = 0 := by
  constructor
  · intro e
    have := congrArg Int64.toInt e
    rw [nL_int h] at this
    have h0 : (0 : Int64).toInt = 0 := rfl
    omega
  · intro e; subst e; rfl
theorem row_class {nf : Nat} (hf : nf < 6) {p a : Nat} (hp0 : 0 < p) (hp : p < 6) (ha : a < 9223372036854775808) (row : Nat → Int32) :
    ∃ w, (m_X2_readRow (nI p) (nL a) (nI nf) row = some (1, w) ∧ a < 100 ^ p ∧ ∀ i, i < p → okq nf (dg a p i) ∧ w i = nI (dg a p i)) ∨ (m_X2_readRow (nI p) (nL a) (nI nf) row = some (0, w) ∧ ¬ (a < 100 ^ p ∧ ∀ i, i < p → okq nf (dg a p i))) := by
  unfold m_X2_readRow
  have hx : ¬ nL a < 0 := fun e => by
    have := Int64.lt_iff_toInt_lt.mp e
    rw [nL_int ha] at this
    have h0 : (0 : Int64).toInt = 0 := rfl
    omega
  rw [if_neg (show ¬ nI p < 1 by rw [q1_gt _ (by omega)]; omega), if_neg (show ¬ (5 : Int32) < nI p by rw [q5_lt _ (by omega)]; omega), if_pos ((lg_ge0 _).mpr hx), nm_eq]
  exact loop_d (fun m (s : Int64 × (Nat → Int32)) j => L_X2_readRow_26 (nI nf) m s.1 (nI j - 1) s.2 (fun (x8 : Int64) (w9 : (Nat → Int32)) => if (lg_cmp x8 (0 : Int64)) = (0 : Int32) then some ((1 : Int32), w9) else some ((0 : Int32), w9)))
    (fun j s => j ≤ p ∧ s.1 = nL (a / 100 ^ (p - j)) ∧ ∀ i, j ≤ i → i < p → okq nf (dg a p i) ∧ s.2 i = nI (dg a p i))
    (fun o => ∃ w, (o = some (1, w) ∧ a < 100 ^ p ∧ ∀ i, i < p → okq nf (dg a p i) ∧ w i = nI (dg a p i)) ∨ (o = some (0, w) ∧ ¬ (a < 100 ^ p ∧ ∀ i, i < p → okq nf (dg a p i))))
    (by
      rintro m ⟨s1, s2⟩ ⟨g1, g2, g3⟩
      dsimp only at g2 g3 ⊢
      rw [Nat.sub_zero] at g2
      have hq := Nat.div_le_self a (100 ^ p)
      rw [L_X2_readRow_26.eq_2, if_pos (show nI 0 - 1 < 0 by decide), g2]
      refine ⟨s2, ?_⟩
      by_cases c : a < 100 ^ p
      · left
        refine ⟨?_, c, fun i hi => g3 i (Nat.zero_le i) hi⟩
        rw [if_pos ((lg_eq0 _).mpr ((nL_0 (by omega)).mpr (Nat.div_eq_of_lt c)))]
      · right
        refine ⟨?_, fun h => c h.1⟩
        have hpos : 0 < a / 100 ^ p := Nat.div_pos (by omega) (Nat.pow_pos (by decide))
        rw [if_neg (fun e => by have := (nL_0 (by omega)).mp ((lg_eq0 _).mp e); omega)])
    (by
      rintro m ⟨s1, s2⟩ j ⟨g1, g2, g3⟩
      dsimp only at g2 g3 ⊢
      have hq := Nat.div_le_self a (100 ^ (p - (j + 1)))
      have hd : dg a p j = a / 100 ^ (p - (j + 1)) % 100 := by
        unfold dg
        rw [show p - 1 - j = p - (j + 1) by omega]
      have hd100 : dg a p j < 100 := Nat.mod_lt _ (by decide)
      rw [L_X2_readRow_26.eq_2, nI_sub1 (by omega), show j + 1 - 1 = j by omega, if_neg (nI_pos (by omega)), g2, nL_rem (by omega), ← hd, nL_32 (by omega), nm_eq]
      rcases okq_any hf hd100 with hok | ⟨hno, e1, -⟩
      · right
        refine ⟨(nL (a / 100 ^ (p - j)), upd s2 j (nI (dg a p j))), ⟨by omega, rfl, fun i hi1 hi2 => ?_⟩, ?_⟩
        · dsimp only
          by_cases e : i = j
          · subst e; exact ⟨hok, pk_us⟩
          · rw [pk_un e]; exact g3 i (by omega) hi2
        · dsimp only
          rw [hok.2.1, bd1_some, if_10, inB_nI (by omega) (by omega), gd_t, nm_eq, nm_eq, nI_m1', show (100 : Int64) = nL 100 from rfl, nL_div (by omega) (by decide) (by decide), Nat.div_div_eq_div_mul, ← Nat.pow_succ, show (p - (j + 1)).succ = p - j by omega, nI_clamp (by omega)]
      · left
        rw [e1, bd1_some, if_00]
        exact ⟨_, Or.inr ⟨rfl, fun h => hno (h.2 j (by omega))⟩⟩)
    p (nL a, row) 1024 (by omega) ⟨Nat.le_refl p, by rw [Nat.sub_self, Nat.pow_zero, Nat.div_one], fun i h1 h2 => absurd h2 (by omega)⟩
