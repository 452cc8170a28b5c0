theorem nz_t {n : Nat} (h0 : 0 < n) (h : n < 2147483648) : nzB (nI n) = true := by
  unfold nzB
  rw [decide_eq_false (nI_ne0 (by omega) h)]
  rfl
theorem gdv {a b : Nat} (ha : a < 1000) (hb : b < 1000) (hb0 : 0 < b) (K : Option Int32) (hK : K = some 1) : ∀ j f, j < 1000 → j < f → Nat.gcd a b ≤ j → L_X9_greatestDivisor_2 (nI a) (nI b) f (nI j) K = some (nI (Nat.gcd a b)) := by
  have hg0 : 0 < Nat.gcd a b := Nat.gcd_pos_of_pos_right a hb0
  intro j
  induction j with
  | zero => intro f _ _ h; omega
  | succ j ih =>
    intro f hj hf hg
    obtain ⟨f, rfl⟩ : ∃ f', f = f' + 1 := ⟨f - 1, by omega⟩
    rw [L_X9_greatestDivisor_2.eq_2]
    by_cases h1 : j = 0
    · subst h1
      rw [if_pos (show nI (0 + 1) ≤ 1 by decide), hK, show Nat.gcd a b = 1 by omega]
      rfl
    · rw [if_neg (show ¬ nI (j + 1) ≤ 1 by rw [show (1 : Int32) = nI 1 from rfl, n_le _ _ (by omega) (by decide)]; omega), nz_t (by omega) (by omega), gd_t, nm_eq, nm_eq, pk_rem (by omega) (by omega) (by omega), pk_rem (by omega) (by omega) (by omega), gd_t, nI_m1', nI_sub1 (by omega), show j + 1 - 1 = j by omega]
      have step : ¬ (a % (j + 1) = 0 ∧ b % (j + 1) = 0) → Nat.gcd a b ≤ j := by
        intro h
        rcases Nat.lt_or_ge j (Nat.gcd a b) with h2 | h2
        · have e : Nat.gcd a b = j + 1 := by omega
          exact absurd ⟨Nat.mod_eq_zero_of_dvd (e ▸ Nat.gcd_dvd_left a b), Nat.mod_eq_zero_of_dvd (e ▸ Nat.gcd_dvd_right a b)⟩ h
        · exact h2
      by_cases c1 : a % (j + 1) = 0
      · rw [if_pos (show nI (a % (j + 1)) = 0 by rw [c1]; rfl)]
        by_cases c2 : b % (j + 1) = 0
        · rw [if_pos (show nI (b % (j + 1)) = 0 by rw [c2]; rfl)]
          have hd : (j + 1) ∣ Nat.gcd a b := Nat.dvd_gcd (Nat.dvd_of_mod_eq_zero c1) (Nat.dvd_of_mod_eq_zero c2)
          have := Nat.le_of_dvd hg0 hd
          rw [show Nat.gcd a b = j + 1 by omega]
        · have := Nat.mod_lt b (show 0 < j + 1 by omega)
          rw [if_neg (nI_ne0 (by omega) (by omega))]
          exact ih f (by omega) (by omega) (step (fun h => c2 h.2))
      · have := Nat.mod_lt a (show 0 < j + 1 by omega)
        rw [if_neg (nI_ne0 (by omega) (by omega))]
        exact ih f (by omega) (by omega) (step (fun h => c1 h.1))
theorem euc (K : Int32 → Option Int32) : ∀ f x y, x < 1000 → y < 1000 → y < f → L_X10_divisor_4 f (nI x) (nI y) K = K (nI (Nat.gcd x y)) := by
  intro f
  induction f with
  | zero => intro x y _ _ h; omega
  | succ f ih =>
    intro x y hx hy hf
    rw [L_X10_divisor_4.eq_2]
    by_cases h0 : y = 0
    · subst h0
      rw [if_pos (show nI 0 = 0 from rfl), Nat.gcd_zero_right]
    · have := Nat.mod_lt x (show 0 < y by omega)
      rw [if_neg (nI_ne0 (by omega) (by omega)), nz_t (by omega) (by omega), gd_t, nm_eq, pk_rem (by omega) (by omega) (by omega), ih y (x % y) hy (by omega) (by omega)]
      rw [Nat.gcd_comm y (x % y), ← Nat.gcd_rec, Nat.gcd_comm]
theorem pcn_sub {nf : Nat} {x : Int32} (h : sub nf x) (hf : nf < 6) : pcn x = fb_ct (bt x) (2 ^ nf) := by
  have hq : 2 ^ nf ≤ 32 := (by decide : ∀ n, n < 6 → 2 ^ n ≤ 32) nf hf
  have hz : fb_ct (fun k => bt x (2 ^ nf + k)) (32 - 2 ^ nf) = 0 := fb_ct_zero.mpr (fun k hk => by
    cases hb : bt x (2 ^ nf + k)
    · rfl
    · have := h _ (by omega) hb
      omega)
  have hs := fb_ct_split (bt x) (2 ^ nf) (32 - 2 ^ nf)
  rw [hz, show 2 ^ nf + (32 - 2 ^ nf) = 32 by omega] at hs
  exact hs
def lc (pg : Nat → Int32) (p d i : Nat) : Bool := bt (pg d) i && (if 5 ≤ p then d == p - 6 else bt (nI i) p)
theorem lik42 {nf : Nat} (hf : nf < 6) (pg : Nat → Int32) {p d : Nat} (hp : p < 13) (hp5 : p ≠ 5) (hd : d < 7) (x : Int32) (K : Int32 → Option (Int32 × Int32)) :
    L_X10_likely_42 (nI nf) pg (nI p) (nI d) 1024 x 0 K = K (x + nI (fb_ct (lc pg p d) (2 ^ nf))) := by
  have hq : 2 ^ nf ≤ 32 := (by decide : ∀ n, n < 6 → 2 ^ n ≤ 32) nf hf
  obtain ⟨s, h1, h2⟩ := loop_u (fun n (s : Int32) j => L_X10_likely_42 (nI nf) pg (nI p) (nI d) n s (nI j) K) (fun s => K s) (2 ^ nf) (fun j s => s = x + nI (fb_ct (lc pg p d) j))
    (by
      intro n s h
      rw [L_X10_likely_42.eq_2, one_shl nf (by omega), if_pos (Int32.le_refl _)])
    (by
      intro n s j hj g1
      refine ⟨_, rfl, ?_⟩
      have e0 : x + nI (fb_ct (lc pg p d) (j + 1)) = s + b2i (lc pg p d j) := by
        rw [fb_ct_succ, g1, Int32.add_assoc]
        cases lc pg p d j
        · rw [show b2i false = nI 0 from rfl, nI_add]; rfl
        · rw [show b2i true = nI 1 from rfl, nI_add]; rfl
      rw [e0, L_X10_likely_42.eq_2, one_shl nf (by omega), if_neg (show ¬ nI (2 ^ nf) ≤ nI j by rw [n_le _ _ (by omega) (by omega)]; omega), inB_nI (by omega) (by omega), gd_t, nI_clamp (by omega), m_has _ (by omega), bd1_some]
      simp only [nm_eq]
      rw [nI_1]
      cases hb : bt (pg d) j
      · have hz : lc pg p d j = false := by unfold lc; rw [hb, Bool.false_and]
        rw [hz, show b2i false = 0 from rfl, if_00]
      · rw [show b2i true = 1 from rfl, if_10]
        by_cases h5 : 5 ≤ p
        · rw [if_pos (show (5 : Int32) ≤ nI p by rw [q5_le _ (by omega)]; exact h5)]
          have e6 : nI p - 6 = nI (p - 6) := by
            rw [show (6 : Int32) = nI 6 from rfl]
            exact pk_sub (by omega)
          by_cases hd6 : d = p - 6
          · have hz : lc pg p d j = true := by unfold lc; rw [hb, if_pos h5, hd6]; simp
            rw [hz, e6, if_pos (show nI d = nI (p - 6) by rw [hd6])]
            rfl
          · have hz : lc pg p d j = false := by unfold lc; rw [hb, if_pos h5, show (d == p - 6) = false from beq_false_of_ne hd6]; rfl
            rw [hz, e6, if_neg (show ¬ nI d = nI (p - 6) by rw [nI_eq (by omega) (by omega)]; exact hd6)]
            rfl
        · rw [if_neg (show ¬ (5 : Int32) ≤ nI p by rw [q5_le _ (by omega)]; exact h5), m_has _ (by omega), bd1_some]
          cases hc : bt (nI j) p
          · have hz : lc pg p d j = false := by unfold lc; rw [hb, if_neg h5, hc]; rfl
            rw [hz, show b2i false = 0 from rfl, if_00]
          · have hz : lc pg p d j = true := by unfold lc; rw [hb, if_neg h5, hc]; rfl
            rw [hz, show b2i true = 1 from rfl, if_10])
    (j := 0) (s := x) (fuel := 1024) (Nat.zero_le _) (by omega) (show x = x + 0 from (Int32.add_zero x).symm)
  rw [← h1]
  exact h2
theorem lik32 {nf : Nat} (hf : nf < 6) (pg : Nat → Int32) {p : Nat} (hp : p < 13) (hp5 : p ≠ 5) (K : Int32 → Option (Int32 × Int32)) :
    L_X10_likely_32 (nI nf) pg (nI p) 1024 0 0 K = K (nI (fb_sm (fun d => fb_ct (lc pg p d) (2 ^ nf)) 7)) := by
  obtain ⟨s, h1, h2⟩ := loop_u (fun n (s : Int32) j => L_X10_likely_32 (nI nf) pg (nI p) n s (nI j) K) (fun s => K s) 7 (fun j s => s = nI (fb_sm (fun d => fb_ct (lc pg p d) (2 ^ nf)) j))
    (by
      intro n s h
      rw [L_X10_likely_32.eq_2, if_pos (by decide)])
    (by
      intro n s j hj g1
      refine ⟨_, rfl, ?_⟩
      rw [L_X10_likely_32.eq_2, if_neg (show ¬ (7 : Int32) ≤ nI j by rw [q7_le _ (by omega)]; omega), lik42 hf pg hp hp5 hj, nm_eq, nI_1, g1, nI_add, fb_sm_succ])
    (j := 0) (s := 0) (fuel := 1024) (by decide) (by decide) rfl
  rw [← h1]
  exact h2
theorem lik_div {a b : Nat} (ha : a < 1000) (hb : b < 1000) (hb0 : 0 < b) : m_X9_greatestDivisor (nI a) (nI b) = some (nI (Nat.gcd a b)) ∧ m_X10_divisor (nI a) (nI b) = some (nI (Nat.gcd a b)) ∧ nzB (nI (Nat.gcd a b)) = true := by
  have hg0 : 0 < Nat.gcd a b := Nat.gcd_pos_of_pos_right a hb0
  have hg1 : Nat.gcd a b ≤ b := Nat.le_of_dvd hb0 (Nat.gcd_dvd_right a b)
  refine ⟨?_, ?_, nz_t hg0 (by omega)⟩
  · unfold m_X9_greatestDivisor
    exact gdv ha hb hb0 _ rfl b 1024 hb (by omega) hg1
  · unfold m_X10_divisor
    exact euc _ 1024 a b ha hb (by omega)
theorem op_likely {nf so : Nat} (hf : nf < 6) {d t a c k : Int32} {kn pg : Nat → Int32} (h : RNow nf so d t a c k kn pg) (x y th : Int32) :
    ∃ r, m_X9_likely x y (nI nf) kn = some r ∧ m_X10_likely x y th (nI nf) pg = some (r, 0) := by
  obtain ⟨M, hM, rfl, rfl, rfl, rfl, rfl, hk, hp⟩ := h
  obtain ⟨⟨d, t, a, c, k, h7, h8, h9, h10, h11, b1, b2, b3, b4, b5, b6⟩, hsub⟩ := hM
  have hkp : ∀ i, i < 7 → pg i = kn i := fun i hi => by rw [hk i hi, hp i (by omega)]
  have hc : fb_sm (fun d => pcn (pg d)) 7 = fb_sm (fun d => pcn (kn d)) 7 := sm_cong hkp
  have hc7 : fb_sm (fun d => pcn (kn d)) 7 ≤ 224 := sm7_le kn 7
  have hc0 : 0 < fb_sm (fun d => pcn (kn d)) 7 := by
    have : ¬ orv kn 7 = 0 := ne0_of_bit (orv_bit (t := t) (s := so) (by rw [hk t b2]; exact b6) 7 b2)
    have : ¬ fb_sm (fun d => pcn (kn d)) 7 = 0 := fun h => this ((sm_0 kn 7).mp h)
    omega
  have fin : ∀ n, n < 1000 → ∃ r, (bd1 (m_X8_count 7 kn) (fun (r4 : Int32) => bd1 (m_X9_greatestDivisor (nI n) r4) (fun (r6 : Int32) => nm (fun (x8 : Int32) => gd (nzB r6) (some (x8 / r6))) (fun (k85 : Int32 → Option (Int32)) => if y = (0 : Int32) then k85 r4 else k85 (nI n))))) = some r ∧ (bd1 (m_X10_knownMany 12 pg) (fun (r27 : Int32) => bd1 (m_X10_divisor (nI n) r27) (fun (r29 : Int32) => if y = (0 : Int32) then bd1 (m_X10_knownMany 12 pg) (fun (r32 : Int32) => gd (nzB r29) (some ((r32 / r29), (0 : Int32)))) else gd (nzB r29) (some ((nI n / r29), (0 : Int32)))))) = some (r, 0) := by
    intro n hn
    obtain ⟨g1, g2, g3⟩ := lik_div hn (b := fb_sm (fun d => pcn (kn d)) 7) (by omega) hc0
    rw [w_count, k_count _ (by decide), bd1_some, bd1_some, hc, g1, g2, bd1_some, bd1_some, bd1_some, nm_ite, g3, gd_t, gd_t, gd_t]
    by_cases hy : y = 0
    · rw [if_pos hy, if_pos hy]; exact ⟨_, rfl, rfl⟩
    · rw [if_neg hy, if_neg hy]; exact ⟨_, rfl, rfl⟩
  unfold m_X9_likely m_X10_likely
  rcases hf_any x hf with ⟨f, hlt, rfl, e1, -⟩ | ⟨e1, -⟩
  · rw [e1, bd1_some, nm_eq, if_10, w_cwf kn (by omega), bd1_some]
    rcases hs_any (nI f) hf with ⟨q, hq, -, -, -, e2⟩ | ⟨e2, -⟩
    · rw [e2, bd1_some, if_00, if_neg (show ¬ nI f = 5 by rw [q5_eq _ (by omega)]; omega), if_pos (show nI f ≤ 12 by rw [q12_ge _ (by omega)]; omega), lik32 hf pg (by omega) (by omega)]
      have e3 : fb_sm (fun d => fb_ct (lc pg f d) (2 ^ nf)) 7 = fb_sm (fun d => pcn (kn d &&& cF f)) 7 := fb_sm_cong (fun d hd => by
        rw [pcn_sub (sub_and (by rw [hk d hd]; exact hsub d hd) _) hf]
        have hq : 2 ^ nf ≤ 32 := (by decide : ∀ n, n < 6 → 2 ^ n ≤ 32) nf hf
        refine fb_ct_cong (fun i hi => ?_)
        unfold lc
        rw [if_neg (by omega), b_and, cF_bit f (by omega) i (by omega), hkp d hd])
      rw [e3]
      have := sm7_le (fun d => kn d &&& cF f) 7
      exact fin _ (by omega)
    · have := (by decide +kernel : ∀ nf, nf < 6 → ∀ f, f < nf → m_X1_hasSimple (nI f) (nI nf) = some 1) nf hf f hlt
      rw [this] at e2
      exact absurd (Option.some.inj e2) (by decide)
  · rw [e1, bd1_some, nm_eq, if_00]
    rcases hs_any x hf with ⟨q, hq, hok, rfl, -, e2⟩ | ⟨-, e2⟩
    · have h5 := (by decide +kernel : ∀ nf, nf < 6 → ∀ q, q < 19 → okS nf q = true → m_X1_hasFact (nI q) (nI nf) = some 0 → 5 ≤ q) nf hf q hq hok e1
      rw [e2, bd1_some, if_00, (by decide +kernel : ∀ q, q < 19 → m_X6_isOfDay (nI q) = some (b2i (decide (6 ≤ q) && decide (q < 13)))) q hq, bd1_some]
      by_cases e5 : q = 5
      · subst e5
        exact ⟨_, rfl, rfl⟩
      · by_cases h12 : q ≤ 12
        · rw [decide_eq_true (show 6 ≤ q by omega), decide_eq_true (show q < 13 by omega), show b2i (true && true) = 1 from rfl, if_10, if_neg (show ¬ nI q = 5 by rw [q5_eq _ (by omega)]; omega), if_pos (show nI q ≤ 12 by rw [q12_ge _ (by omega)]; omega), lik32 hf pg (by omega) (by omega)]
          have e6 : nI q - 6 = nI (q - 6) := by
            rw [show (6 : Int32) = nI 6 from rfl]
            exact pk_sub (by omega)
          rw [e6, inB_nI (by omega) (by omega), gd_t, nI_clamp (by omega), m_bitCount, bd1_some]
          obtain ⟨e, he, rfl⟩ : ∃ e, e < 7 ∧ q = e + 6 := ⟨q - 6, by omega, by omega⟩
          rw [show e + 6 - 6 = e by omega]
          have e3 : fb_sm (fun d => fb_ct (lc pg (e + 6) d) (2 ^ nf)) 7 = pcn (kn e) := by
            rw [fb_sm_cong (g := fun d => if d = e then pcn (kn e) else 0) (fun d hd => by
              by_cases ed : d = e
              · subst ed
                rw [if_pos rfl, pcn_sub (by rw [hk d hd]; exact hsub d hd) hf]
                refine fb_ct_cong (fun i hi => ?_)
                unfold lc
                rw [if_pos (by omega), hkp d hd]
                simp
              · rw [if_neg ed]
                refine fb_ct_zero.mpr (fun i hi => ?_)
                unfold lc
                rw [if_pos (by omega), show (d == e + 6 - 6) = false from beq_false_of_ne (by omega), Bool.and_false])]
            rcases (show e = 0 ∨ e = 1 ∨ e = 2 ∨ e = 3 ∨ e = 4 ∨ e = 5 ∨ e = 6 by omega) with rfl | rfl | rfl | rfl | rfl | rfl | rfl <;> simp [fb_sm]
          rw [e3]
          have := pcn_le (kn e)
          exact fin (pcn (kn e)) (by omega)
        · rw [decide_eq_false (show ¬ q < 13 by omega), Bool.and_false, show b2i false = 0 from rfl, if_00, if_neg (show ¬ nI q = 5 by rw [q5_eq _ (by omega)]; omega), if_neg (show ¬ nI q ≤ 12 by rw [q12_ge _ (by omega)]; omega)]
          exact ⟨_, rfl, rfl⟩
    · rw [e2, bd1_some, if_10]
      have : m_X6_isOfDay x = some 0 := by
        unfold m_X6_isOfDay
        rw [nm_eq]
        by_cases h6 : x < 6
        · rw [if_pos h6]
        · rw [if_neg h6]
          by_cases h13 : 13 ≤ x
          · rw [if_pos h13]
          · obtain ⟨j, hj, rfl⟩ := nI_of (x := x) (fun e => h6 (Int32.lt_trans e (by decide)))
            rw [q6_gt _ hj] at h6
            rw [q13_le _ hj] at h13
            have := (by decide +kernel : ∀ nf, nf < 6 → ∀ j, j < 13 → 6 ≤ j → m_X10_noSimple (nI j) (nI nf) = some 0) nf hf j (by omega) (by omega)
            rw [this] at e2
            exact absurd (Option.some.inj e2) (by decide)
      rw [this, bd1_some, if_00]
      exact ⟨_, rfl, rfl⟩
