theorem in_rng (x : Int32) {n : Nat} (hn : n < 2147483648) (B : Int64) (hB : B = Int32.toInt64 (nI n)) : (∃ j, j ≤ n ∧ x = nI j ∧ m_X10_in (Int32.toInt64 x) (0 : Int64) B = some 1) ∨ ((x < 0 ∨ nI n < x) ∧ m_X10_in (Int32.toInt64 x) (0 : Int64) B = some 0) := by
  rw [m_in0 x (nI n) B hB]
  by_cases h0 : x < 0
  · exact Or.inr ⟨Or.inl h0, by rw [decide_eq_false (Int32.not_le.mpr h0)]; rfl⟩
  · by_cases h1 : nI n < x
    · exact Or.inr ⟨Or.inr h1, by rw [decide_eq_false (p := x ≤ nI n) (Int32.not_le.mpr h1), Bool.and_false]; rfl⟩
    · obtain ⟨j, hj, rfl⟩ := nI_of h0
      rw [n_lt _ _ hn hj] at h1
      refine Or.inl ⟨j, by omega, rfl, ?_⟩
      rw [decide_eq_true (Int32.not_lt.mp h0), decide_eq_true (p := nI j ≤ nI n) (by rw [n_le _ _ hj hn]; omega)]
      rfl
-- texts
def RText (n0 : Nat) (tl tz : Int32) (tb tx : Nat → Int32) : Prop := ∃ (n : Nat) (L : Nat → Nat), n ≤ n0 ∧ tl = nI n ∧ tz = nI n ∧ ∀ i, i < n → L i < 256 ∧ tb i = nI (L i) ∧ tx i = nI (L i)
theorem app_both {n0 : Nat} (hn0 : n0 < 1000) {tl tz : Int32} {tb tx : Nat → Int32} (h : RText n0 tl tz tb tx) (x : Int32) :
    (∃ j n, j ≤ 255 ∧ x = nI j ∧ n < n0 ∧ tl = nI n ∧ tz = nI n ∧ m_X3_append x n0 tl tb = some (nI (n + 1), nI (n + 1), upd tb n x) ∧ RText n0 (nI (n + 1)) (nI (n + 1)) (upd tb n x) (upd tx n x)) ∨ (∃ j, j ≤ 255 ∧ x = nI j ∧ tz = nI n0 ∧ m_X3_append x n0 tl tb = some (-4, tl, tb)) ∨ ((x < 0 ∨ nI 255 < x) ∧ m_X3_append x n0 tl tb = some (-2, tl, tb)) := by
  obtain ⟨n, L, hn, rfl, rfl, hL⟩ := h
  unfold m_X3_append
  by_cases h0 : x < 0
  · exact Or.inr (Or.inr ⟨Or.inl h0, by rw [if_pos h0]⟩)
  · obtain ⟨j, hj, rfl⟩ := nI_of h0
    rw [if_neg h0]
    by_cases h1 : j ≤ 255
    · rw [if_pos (show nI j ≤ 255 by rw [q255_ge _ hj]; exact h1), show Int32.ofNat n0 = nI n0 from rfl]
      by_cases h2 : n < n0
      · left
        refine ⟨j, n, h1, rfl, h2, rfl, rfl, ?_, n + 1, fun i => if i = n then j else L i, by omega, rfl, rfl, fun i hi => ?_⟩
        · rw [if_pos (show nI n < nI n0 by rw [n_lt _ _ (by omega) (by omega)]; exact h2), inB_nI (by omega) h2, gd_t, nm_eq, nI_1, nI_clamp (by omega)]
        · dsimp only
          by_cases e : i = n
          · rw [if_pos e, e, pk_us, pk_us]
            exact ⟨by omega, rfl, rfl⟩
          · rw [if_neg e, pk_un e, pk_un e]
            exact hL i (by omega)
      · right; left
        exact ⟨j, h1, rfl, by rw [show n = n0 by omega], by rw [if_neg (show ¬ nI n < nI n0 by rw [n_lt _ _ (by omega) (by omega)]; exact h2)]⟩
    · right; right
      refine ⟨Or.inr (by rw [n_lt _ _ (by decide) hj]; omega), ?_⟩
      rw [if_neg (show ¬ nI j ≤ 255 by rw [q255_ge _ hj]; exact h1)]
theorem op_write {tl tz : Int32} {tb tx : Nat → Int32} (h : RText 24 tl tz tb tx) (x th : Int32) : ∃ r tl' tb' tz' tx', m_X9_write x 24 tl tb = some (r, tl', tb') ∧ m_X10_write x th tz tx = some (r, 0, tz', tx') ∧ RText 24 tl' tz' tb' tx' := by
  unfold m_X9_write m_X10_write
  rcases in_rng x (n := 255) (by decide) 255 (by decide) with ⟨j, hj, ex, hi⟩ | ⟨hb, hi⟩
  · rcases app_both (by decide) h x with ⟨j2, n, -, -, hn, e1, e2, e3, e4⟩ | ⟨j2, -, -, e2, e3⟩ | ⟨hb, -⟩
    · rw [e3, bd3_some, hi, bd1_some, if_neg (by decide), e2, if_neg (show ¬ nI n = 24 by rw [q24_eq _ (by omega)]; omega), inB_nI (by omega) hn, gd_t, nm_eq, nI_1, nI_clamp (by omega)]
      exact ⟨_, _, _, _, _, rfl, rfl, e4⟩
    · rw [e3, bd3_some, hi, bd1_some, if_neg (by decide), e2, if_pos (show nI 24 = 24 from rfl)]
      exact ⟨_, _, _, _, _, rfl, rfl, e2 ▸ h⟩
    · exfalso
      rcases hb with hb | hb
      · exact nI_pos (by omega) (ex ▸ hb)
      · rw [ex, n_lt _ _ (by decide) (by omega)] at hb; omega
  · rcases app_both (by decide) h x with ⟨j, n, hj, ex, -⟩ | ⟨j, hj, ex, -⟩ | ⟨-, e3⟩
    · exfalso
      rcases hb with hb | hb
      · exact nI_pos (by omega) (ex ▸ hb)
      · rw [ex, n_lt _ _ (by decide) (by omega)] at hb; omega
    · exfalso
      rcases hb with hb | hb
      · exact nI_pos (by omega) (ex ▸ hb)
      · rw [ex, n_lt _ _ (by decide) (by omega)] at hb; omega
    · rw [e3, bd3_some, hi, bd1_some, if_pos rfl]
      exact ⟨_, _, _, _, _, rfl, rfl, h⟩
theorem op_quill {tl tz : Int32} {tb tx : Nat → Int32} (h : RText 16 tl tz tb tx) (x th : Int32) : ∃ r tl' tb' tz' tx', m_X9_quill x 16 tl tb = some (r, tl', tb') ∧ m_X10_quill x th tz tx = some (r, 0, tz', tx') ∧ RText 16 tl' tz' tb' tx' := by
  unfold m_X9_quill m_X10_quill
  rcases in_rng x (n := 255) (by decide) 255 (by decide) with ⟨j, hj, ex, hi⟩ | ⟨hb, hi⟩
  · rcases app_both (by decide) h x with ⟨j2, n, -, -, hn, e1, e2, e3, e4⟩ | ⟨j2, -, -, e2, e3⟩ | ⟨hb, -⟩
    · rw [e3, bd3_some, hi, bd1_some, if_neg (by decide), e2, if_neg (show ¬ nI n = 16 by rw [q16_eq _ (by omega)]; omega), inB_nI (by omega) hn, gd_t, nm_eq, nI_1, nI_clamp (by omega)]
      exact ⟨_, _, _, _, _, rfl, rfl, e4⟩
    · rw [e3, bd3_some, hi, bd1_some, if_neg (by decide), e2, if_pos (show nI 16 = 16 from rfl)]
      exact ⟨_, _, _, _, _, rfl, rfl, e2 ▸ h⟩
    · exfalso
      rcases hb with hb | hb
      · exact nI_pos (by omega) (ex ▸ hb)
      · rw [ex, n_lt _ _ (by decide) (by omega)] at hb; omega
  · rcases app_both (by decide) h x with ⟨j, n, hj, ex, -⟩ | ⟨j, hj, ex, -⟩ | ⟨-, e3⟩
    · exfalso
      rcases hb with hb | hb
      · exact nI_pos (by omega) (ex ▸ hb)
      · rw [ex, n_lt _ _ (by decide) (by omega)] at hb; omega
    · exfalso
      rcases hb with hb | hb
      · exact nI_pos (by omega) (ex ▸ hb)
      · rw [ex, n_lt _ _ (by decide) (by omega)] at hb; omega
    · rw [e3, bd3_some, hi, bd1_some, if_pos rfl]
      exact ⟨_, _, _, _, _, rfl, rfl, h⟩
theorem text_0 (n0 : Nat) (tb tx : Nat → Int32) : RText n0 0 0 tb tx := ⟨0, fun _ => 0, Nat.zero_le _, rfl, rfl, fun i hi => absurd hi (Nat.not_lt_zero i)⟩
theorem op_wipe {tl tz : Int32} {tb tx : Nat → Int32} (h : RText 24 tl tz tb tx) (th : Int32) : ∃ r, m_X9_wipe tl = some (r, 0) ∧ m_X10_wipe th tz = some (r, 0, 0) := by
  obtain ⟨n, L, -, rfl, rfl, -⟩ := h
  exact ⟨nI n, rfl, rfl⟩
theorem op_blot {tl tz : Int32} {tb tx : Nat → Int32} (h : RText 16 tl tz tb tx) (th : Int32) : ∃ r, m_X9_blot tl = some (r, 0) ∧ m_X10_blot th tz = some (r, 0, 0) := by
  obtain ⟨n, L, -, rfl, rfl, -⟩ := h
  exact ⟨nI n, rfl, rfl⟩
/-- both tell the question's fault alike; without one it is well formed -/
theorem slip_both {ql qz : Int32} {qb qu : Nat → Int32} (h : RText 16 ql qz qb qu) {nf : Nat} (hf : nf < 6) : ∃ r, m_X5_firstFault 16 ql qb (nI nf) = some r ∧ m_X10_slipOf qz (nI nf) qu = some r ∧ (r = -9 → ∃ n L, ql = nI n ∧ qz = nI n ∧ Que nf n L qb qu ∧ WF nf L n) := by
  obtain ⟨n, L, hn, rfl, rfl, hL⟩ := h
  obtain ⟨r, h1, h2⟩ := slip_val hf hn qu L (fun i hi => ⟨(hL i hi).1, (hL i hi).2.2⟩)
  refine ⟨r, ?_, h1, fun e => ⟨n, L, rfl, rfl, ⟨hn, hL⟩, h2 e⟩⟩
  rw [← h1]
  exact ff_eq hf hn qb qu L hL _ 1024 0 1 (Nat.zero_le n)
theorem op_slip {ql qz : Int32} {qb qu : Nat → Int32} (h : RText 16 ql qz qb qu) {nf : Nat} (hf : nf < 6) (th : Int32) : ∃ r, m_X9_slip 16 ql qb (nI nf) = some r ∧ m_X10_slip th qz (nI nf) qu = some (r, 0) := by
  obtain ⟨r, h1, h2, -⟩ := slip_both h hf
  refine ⟨r, ?_, ?_⟩
  · unfold m_X9_slip; rw [h1, bd1_some]
  · unfold m_X10_slip; rw [h2, bd1_some]
-- now
def RNow (nf so : Nat) (d t a c k : Int32) (kn pg : Nat → Int32) : Prop := ∃ M, MomP nf so M ∧ d = M 7 ∧ t = M 8 ∧ a = M 9 ∧ c = M 10 ∧ k = M 11 ∧ (∀ i, i < 7 → kn i = M i) ∧ ∀ i, i < 12 → pg i = M i
theorem sm_cong {f g : Nat → Int32} (h : ∀ i, i < 7 → f i = g i) : fb_sm (fun d => pcn (f d)) 7 = fb_sm (fun d => pcn (g d)) 7 := fb_sm_cong (fun k hk => by rw [h k hk])
theorem orv_cong {f g : Nat → Int32} : ∀ n, (∀ i, i < n → f i = g i) → orv f n = orv g n
  | 0, _ => rfl
  | n + 1, h => by rw [orv, orv, orv_cong n (fun i hi => h i (by omega)), h n (by omega)]
theorem cn7 : Int32.toNatClampNeg 7 = 7 ∧ Int32.toNatClampNeg 8 = 8 ∧ Int32.toNatClampNeg 9 = 9 ∧ Int32.toNatClampNeg 10 = 10 ∧ Int32.toNatClampNeg 11 = 11 := by decide
theorem op_about {nf so : Nat} {d t a c k : Int32} {kn pg : Nat → Int32} (h : RNow nf so d t a c k kn pg) (x ql tl tc ac fa th : Int32) : ∃ r, m_X9_about x d t a c k kn ql tl tc ac fa = some r ∧ m_X10_about x th tl ql fa ac tc pg = some (r, 0) := by
  obtain ⟨M, hM, rfl, rfl, rfl, rfl, rfl, hk, hp⟩ := h
  obtain ⟨⟨d, t, a, c, k, -, -, h9, -, -, -, -, ha, -⟩, -⟩ := hM
  unfold m_X9_about m_X10_about
  rw [cn7.1, cn7.2.1, cn7.2.2.1, cn7.2.2.2.1, cn7.2.2.2.2, hp 7 (by decide), hp 8 (by decide), hp 9 (by decide), hp 10 (by decide), hp 11 (by decide)]
  by_cases h0 : x = 0
  · simp only [h0, ↓reduceIte]; exact ⟨_, rfl, rfl⟩
  by_cases h1 : x = 1
  · rw [if_neg h0, if_neg h0, if_pos h1, if_pos h1]; exact ⟨_, rfl, rfl⟩
  by_cases h2 : x = 2
  · rw [if_neg h0, if_neg h0, if_neg h1, if_neg h1, if_pos h2, if_pos h2, w_count, k_count _ (by decide), bd1_some, bd1_some, sm_cong (f := pg) (g := kn) (fun i hi => by rw [hp i (by omega), hk i hi])]
    exact ⟨_, rfl, rfl⟩
  by_cases h3 : x = 3
  · rw [if_neg h0, if_neg h0, if_neg h1, if_neg h1, if_neg h2, if_neg h2, if_pos h3, if_pos h3, h9]
    rcases (show a = 0 ∨ a = 1 by omega) with rfl | rfl
    · exact ⟨_, rfl, rfl⟩
    · exact ⟨_, rfl, rfl⟩
  by_cases h4 : x = 4
  · rw [if_neg h0, if_neg h0, if_neg h1, if_neg h1, if_neg h2, if_neg h2, if_neg h3, if_neg h3, if_pos h4, if_pos h4]; exact ⟨_, rfl, rfl⟩
  by_cases h5 : x = 5
  · rw [if_neg h0, if_neg h0, if_neg h1, if_neg h1, if_neg h2, if_neg h2, if_neg h3, if_neg h3, if_neg h4, if_neg h4, if_pos h5, if_pos h5]; exact ⟨_, rfl, rfl⟩
  by_cases h6 : x = 6
  · rw [if_neg h0, if_neg h0, if_neg h1, if_neg h1, if_neg h2, if_neg h2, if_neg h3, if_neg h3, if_neg h4, if_neg h4, if_neg h5, if_neg h5, if_pos h6, if_pos h6]; exact ⟨_, rfl, rfl⟩
  by_cases h7 : x = 7
  · rw [if_neg h0, if_neg h0, if_neg h1, if_neg h1, if_neg h2, if_neg h2, if_neg h3, if_neg h3, if_neg h4, if_neg h4, if_neg h5, if_neg h5, if_neg h6, if_neg h6, if_pos h7, if_pos h7]; exact ⟨_, rfl, rfl⟩
  rw [if_neg h0, if_neg h0, if_neg h1, if_neg h1, if_neg h2, if_neg h2, if_neg h3, if_neg h3, if_neg h4, if_neg h4, if_neg h5, if_neg h5, if_neg h6, if_neg h6, if_neg h7, if_neg h7]
  by_cases h8 : x = 8
  · rw [if_pos h8, if_pos h8]; exact ⟨_, rfl, rfl⟩
  by_cases h9' : x = 9
  · rw [if_neg h8, if_neg h8, if_pos h9', if_pos h9']; exact ⟨_, rfl, rfl⟩
  by_cases h10 : x = 10
  · rw [if_neg h8, if_neg h8, if_neg h9', if_neg h9', if_pos h10, if_pos h10]
    obtain ⟨r1, a1, a2⟩ := w_days kn
    obtain ⟨r2, b1, b2⟩ := k_days pg (N := 12) (by decide)
    rw [a1, b1, bd1_some, bd1_some]
    have : r2 = r1 := b_ext fun i hi => by
      rw [a2 i hi, b2 i hi]
      by_cases hi7 : i < 7
      · rw [hp i (by omega), hk i hi7]
      · rw [decide_eq_false hi7]; rfl
    exact ⟨r1, rfl, by rw [this]⟩
  by_cases h11 : x = 11
  · rw [if_neg h8, if_neg h8, if_neg h9', if_neg h9', if_neg h10, if_neg h10, if_pos h11, if_pos h11]; exact ⟨_, rfl, rfl⟩
  rw [if_neg h8, if_neg h8, if_neg h9', if_neg h9', if_neg h10, if_neg h10, if_neg h11, if_neg h11]
  exact ⟨_, rfl, rfl⟩
