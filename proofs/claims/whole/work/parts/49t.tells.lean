/-- how many kinds of what is asked for are left -/
def knd (x : Nat) (v : Nat → Int32) : Nat := if x = 5 then fb_ct (fun i => !(decide (v i = 0))) 7 else (if orv v 7 &&& cF x = 0 then 0 else 1) + (if orv v 7 &&& (cF x ^^^ (-1)) = 0 then 0 else 1)
theorem kl_eq {x : Nat} (hx : x < 6) (v : Nat → Int32) : m_X2_kindsLeft (nI x) 7 v = some (nI (knd x v)) := by
  unfold m_X2_kindsLeft knd
  by_cases h5 : x = 5
  · subst h5
    obtain ⟨r, a1, a2⟩ := w_days v
    rw [if_pos (show nI 5 = 5 from rfl), if_pos rfl, a1, bd1_some, m_bitCount, bd1_some]
    have e1 : fb_ct (bt r) 32 = fb_ct (fun i => !(decide (v i = 0))) 7 := by
      have hs := fb_ct_split (bt r) 7 25
      rw [fb_ct_zero (p := fun k => bt r (7 + k)) (n := 25) |>.mpr (fun k hk => by rw [a2 _ (by omega), decide_eq_false (by omega)]; rfl)] at hs
      rw [show (32 : Nat) = 7 + 25 from rfl, hs, Nat.add_zero]
      exact fb_ct_cong (fun i hi => by rw [a2 i (by omega), decide_eq_true hi, Bool.true_and])
    rw [e1]
  · rw [if_neg (show ¬ nI x = 5 by rw [q5_eq _ (by omega)]; exact h5), if_neg h5, w_any, bd1_some]
    unfold m_X9_isSoInAll m_X9_isSoInNone
    rw [cwf_eq (by omega), bd1_some, bd1_some]
    by_cases h1 : orv v 7 &&& cF x = 0
    · by_cases h2 : orv v 7 &&& (cF x ^^^ (-1)) = 0
      · rw [if_pos h1, if_pos h2, if_pos h1, if_pos h2]; rfl
      · rw [if_pos h1, if_neg h2, if_pos h1, if_neg h2]; rfl
    · by_cases h2 : orv v 7 &&& (cF x ^^^ (-1)) = 0
      · rw [if_neg h1, if_pos h2, if_neg h1, if_pos h2]; rfl
      · rw [if_neg h1, if_neg h2, if_neg h1, if_neg h2]; rfl
theorem knd_le {x : Nat} (v : Nat → Int32) : knd x v ≤ 7 := by
  unfold knd
  split
  · exact fb_ct_le _ _
  · split <;> split <;> omega
def enc (b0 b1 b2 b3 b4 b5 b6 : Bool) : Int32 := nI (b0.toNat + 2 * b1.toNat + 4 * b2.toNat + 8 * b3.toNat + 16 * b4.toNat + 32 * b5.toNat + 64 * b6.toNat)
theorem enc_bit : ∀ b0 b1 b2 b3 b4 b5 b6 : Bool, ∀ i, i < 32 → bt (enc b0 b1 b2 b3 b4 b5 b6) i = (if i = 0 then b0 else if i = 1 then b1 else if i = 2 then b2 else if i = 3 then b3 else if i = 4 then b4 else if i = 5 then b5 else if i = 6 then b6 else false) := by decide +kernel
theorem enc_one : ∀ b0 b1 b2 b3 b4 b5 b6 : Bool, (enc b0 b1 b2 b3 b4 b5 b6 &&& (enc b0 b1 b2 b3 b4 b5 b6 - 1) = 0) ↔ b0.toNat + b1.toNat + b2.toNat + b3.toNat + b4.toNat + b5.toNat + b6.toNat ≤ 1 := by decide +kernel
theorem it_eq {x N : Nat} (hx : x < 6) (hN : 7 ≤ N) (v fo : Nat → Int32) (hF : FacOK fo) : m_X10_isTold (nI x) N v fo = some (b2i (decide (knd x v ≤ 1))) := by
  unfold m_X10_isTold
  by_cases h5 : x = 5
  · subst h5
    obtain ⟨r, a1, a2⟩ := k_days v hN
    rw [if_pos (show (5 : Int32) ≤ nI 5 by decide), a1, bd1_some]
    have er : r = enc (!(decide (v 0 = 0))) (!(decide (v 1 = 0))) (!(decide (v 2 = 0))) (!(decide (v 3 = 0))) (!(decide (v 4 = 0))) (!(decide (v 5 = 0))) (!(decide (v 6 = 0))) := b_ext fun i hi => by
      rw [a2 i hi, enc_bit _ _ _ _ _ _ _ i hi]
      by_cases h7 : i < 7
      · rcases (show i = 0 ∨ i = 1 ∨ i = 2 ∨ i = 3 ∨ i = 4 ∨ i = 5 ∨ i = 6 by omega) with rfl | rfl | rfl | rfl | rfl | rfl | rfl <;> rfl
      · rw [decide_eq_false h7, if_neg (by omega), if_neg (by omega), if_neg (by omega), if_neg (by omega), if_neg (by omega), if_neg (by omega), if_neg (by omega)]; rfl
    have hk : knd 5 v = (!(decide (v 0 = 0))).toNat + (!(decide (v 1 = 0))).toNat + (!(decide (v 2 = 0))).toNat + (!(decide (v 3 = 0))).toNat + (!(decide (v 4 = 0))).toNat + (!(decide (v 5 = 0))).toNat + (!(decide (v 6 = 0))).toNat := by
      have tn : ∀ b : Bool, (if b = true then 1 else 0) = b.toNat := by decide
      unfold knd
      rw [if_pos rfl]
      simp only [fb_ct_succ, tn]
      show 0 + _ + _ + _ + _ + _ + _ + _ = _
      rw [Nat.zero_add]
    rw [er, hk]
    by_cases h : (!(decide (v 0 = 0))).toNat + (!(decide (v 1 = 0))).toNat + (!(decide (v 2 = 0))).toNat + (!(decide (v 3 = 0))).toNat + (!(decide (v 4 = 0))).toNat + (!(decide (v 5 = 0))).toNat + (!(decide (v 6 = 0))).toNat ≤ 1
    · rw [if_pos ((enc_one _ _ _ _ _ _ _).mpr h), decide_eq_true h]; rfl
    · rw [if_neg (fun e => h ((enc_one _ _ _ _ _ _ _).mp e)), decide_eq_false h]; rfl
  · rw [if_neg (show ¬ (5 : Int32) ≤ nI x by rw [q5_le _ (by omega)]; omega), tf_eq v fo (by omega) hF hN, bd1_some]
    unfold knd tfR
    rw [if_neg h5]
    by_cases h1 : orv v 7 &&& cF x = 0
    · by_cases h2 : orv v 7 &&& (cF x ^^^ (-1)) = 0
      · rw [if_pos h1, if_pos h1, if_pos h2]; rfl
      · rw [if_pos h1, if_pos h1, if_neg h2]; rfl
    · by_cases h2 : orv v 7 &&& (cF x ^^^ (-1)) = 0
      · rw [if_neg h1, if_pos h2, if_neg h1, if_pos h2]; rfl
      · rw [if_neg h1, if_neg h2, if_neg h1, if_neg h2]; rfl
/-- a simple question has two answers at most -/
theorem two_ans : ∀ q, q < 19 → ∀ wd, wd < 7 → ∀ td, td < 7 → ∀ i, i < 32 → sans q wd td i ≠ (if q = 18 then 0 else 2) := by decide +kernel
theorem orv_split {v a b : Nat → Int32} : ∀ n, (∀ i, i < n → v i = a i ||| b i) → orv v n = orv a n ||| orv b n
  | 0, _ => (show (0 : Int32) = 0 ||| 0 by decide)
  | n + 1, h => by
    show orv v n ||| v n = (orv a n ||| a n) ||| (orv b n ||| b n)
    rw [orv_split n (fun i hi => h i (by omega)), h n (by omega)]
    apply b_ext
    intro i hi
    simp only [b_or]
    cases bt (orv a n) i <;> cases bt (orv b n) i <;> cases bt (a n) i <;> cases bt (b n) i <;> rfl
theorem and_or_0 (a b c : Int32) : (a ||| b) &&& c = 0 ↔ a &&& c = 0 ∧ b &&& c = 0 := by
  rw [← or_0]
  have : (a ||| b) &&& c = (a &&& c) ||| (b &&& c) := by
    apply b_ext
    intro i hi
    simp only [b_or, b_and]
    cases bt a i <;> cases bt b i <;> cases bt c i <;> rfl
  rw [this]
theorem ct_or (p q : Nat → Bool) : ∀ n, fb_ct (fun i => p i || q i) n ≤ fb_ct p n + fb_ct q n
  | 0 => Nat.le_refl 0
  | n + 1 => by
    have := ct_or p q n
    rw [fb_ct_succ, fb_ct_succ, fb_ct_succ]
    cases p n <;> cases q n <;> simp <;> omega
theorem knd_add {x : Nat} {v a b : Nat → Int32} (h : ∀ i, i < 7 → v i = a i ||| b i) : knd x v ≤ knd x a + knd x b := by
  unfold knd
  by_cases h5 : x = 5
  · rw [if_pos h5, if_pos h5, if_pos h5]
    refine Nat.le_trans (Nat.le_of_eq (fb_ct_cong (fun i hi => ?_))) (ct_or _ _ 7)
    rw [h i hi]
    by_cases ha : a i = 0
    · by_cases hb : b i = 0
      · rw [decide_eq_true ((or_0 _ _).mpr ⟨ha, hb⟩), decide_eq_true ha, decide_eq_true hb]; rfl
      · rw [decide_eq_false (fun e => hb ((or_0 _ _).mp e).2), decide_eq_false hb, Bool.not_false, Bool.or_true]
    · rw [decide_eq_false (fun e => ha ((or_0 _ _).mp e).1), decide_eq_false ha, Bool.not_false, Bool.true_or]
  · rw [if_neg h5, if_neg h5, if_neg h5, orv_split 7 h]
    have key : ∀ c : Int32, (if (orv a 7 ||| orv b 7) &&& c = 0 then 0 else 1) ≤ (if orv a 7 &&& c = 0 then 0 else 1) + (if orv b 7 &&& c = 0 then 0 else 1) := by
      intro c
      by_cases ha : orv a 7 &&& c = 0
      · by_cases hb : orv b 7 &&& c = 0
        · rw [if_pos ((and_or_0 _ _ _).mpr ⟨ha, hb⟩)]; exact Nat.zero_le _
        · rw [if_neg (fun e => hb ((and_or_0 _ _ _).mp e).2), if_neg hb]; omega
      · rw [if_neg (fun e => ha ((and_or_0 _ _ _).mp e).1), if_neg ha]; omega
    have k1 := key (cF x)
    have k2 := key (cF x ^^^ (-1))
    omega
def nar (v : Nat → Int32) (q g wd : Nat) : Nat → Int32 := fun i => v i &&& CA q g wd i
/-- what can be told within so many questions -/
def Ek (nf x : Nat) : Nat → (Nat → Int32) → Nat → Prop
  | 0, v, _ => knd x v ≤ 1
  | k + 1, v, wd => knd x v ≤ 1 ∨ ∃ q, okq nf q ∧ ∀ g, g < 3 → Ek nf x k (nar v q g (wd % 7)) (wd + 1)
theorem nar_split (v : Nat → Int32) {q wd : Nat} (hq : q < 19) (hw : wd < 7) : ∀ i, i < 7 → v i = nar v q 1 wd i ||| nar v q (if q = 18 then 2 else 0) wd i := by
  intro i hi
  have hg : (if q = 18 then 2 else 0) < 3 := by split <;> decide
  apply b_ext
  intro j hj
  unfold nar
  rw [b_or, b_and, b_and, (ca_eq hq (g := 1) (by decide) hw hi).2 j hj, (ca_eq hq hg hw hi).2 j hj]
  have h1 := two_ans q hq wd hw i hi j hj
  have h2 := sans_lt q wd i j
  cases bt (v i) j
  · rfl
  · rw [Bool.true_and, Bool.true_and]
    by_cases e : sans q wd i j = 1
    · rw [decide_eq_true e]; rfl
    · rw [decide_eq_false e, Bool.false_or, eq_comm]
      apply decide_eq_true
      by_cases hq8 : q = 18
      · rw [if_pos hq8] at h1 ⊢; omega
      · rw [if_neg hq8] at h1 ⊢; omega
theorem Ek_bound (nf x : Nat) : ∀ k v wd, Ek nf x k v wd → knd x v ≤ 2 ^ k
  | 0, v, wd, h => h
  | k + 1, v, wd, h => by
    have hp : 0 < 2 ^ k := Nat.pow_pos (by decide)
    rw [Nat.pow_succ]
    rcases h with h | ⟨q, hq, h⟩
    · omega
    · have h1 := Ek_bound nf x k _ _ (h 1 (by decide))
      have h2 := Ek_bound nf x k _ _ (h (if q = 18 then 2 else 0) (by split <;> decide))
      have := knd_add (x := x) (nar_split v hq.1 (wd := wd % 7) (Nat.mod_lt _ (by decide)))
      omega
/-- behind the last question the class only looks -/
theorem k3_eq {x : Nat} (hx : x < 6) (z : Int32) (v : Nat → Int32) (f : Int32) : m_X2_isToldIn_k3 0 (nI x) z v f = some (b2i (decide (knd x v ≤ 1))) := by
  have hl := knd_le (x := x) v
  unfold m_X2_isToldIn_k3
  rw [kl_eq hx, bd1_some]
  by_cases h : knd x v ≤ 1
  · rw [if_neg (show ¬ (1 : Int32) < nI (knd x v) by rw [q1_lt _ (by omega)]; omega), decide_eq_true h]; rfl
  · rw [if_pos (show (1 : Int32) < nI (knd x v) by rw [q1_lt _ (by omega)]; omega), if_neg (show ¬ nI (knd x v) ≤ (1 : Int32) <<< ((0 : Int32) &&& 31) by
      rw [show (1 : Int32) <<< ((0 : Int32) &&& 31) = nI 1 by decide, n_le _ _ (by omega) (by decide)]; omega), decide_eq_false h]; rfl
