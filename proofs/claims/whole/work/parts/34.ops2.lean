theorem if_10 {α : Type} (a b : α) : (if (1 : Int32) = 0 then a else b) = b := if_neg (by decide)
theorem if_00 {α : Type} (a b : α) : (if (0 : Int32) = 0 then a else b) = a := if_pos rfl
theorem hf_any (x : Int32) {nf : Nat} (hf : nf < 6) : (∃ f, f < nf ∧ x = nI f ∧ m_X1_hasFact x (nI nf) = some 1 ∧ m_X10_in (Int32.toInt64 x) (0 : Int64) (Int32.toInt64 (nI nf - 1)) = some 1) ∨ (m_X1_hasFact x (nI nf) = some 0 ∧ m_X10_in (Int32.toInt64 x) (0 : Int64) (Int32.toInt64 (nI nf - 1)) = some 0) := by
  unfold m_X1_hasFact
  rw [nm_eq]
  rcases Nat.eq_zero_or_pos nf with h0 | h0
  · subst h0
    right
    constructor
    · by_cases h : x < 0
      · rw [if_pos h]
      · rw [if_neg h, if_pos (show nI 0 ≤ x from Int32.not_lt.mp h)]
    · rw [m_in0 x (nI 0 - 1) _ rfl]
      by_cases h : x < 0
      · rw [decide_eq_false (Int32.not_le.mpr h)]; rfl
      · rw [decide_eq_false (p := x ≤ nI 0 - 1) (fun q => h (Int32.lt_of_le_of_lt q (by decide))), Bool.and_false]; rfl
  · rw [nI_sub1 h0]
    rcases in_rng x (n := nf - 1) (by omega) _ rfl with ⟨j, hj, ex, hi⟩ | ⟨hb, hi⟩
    · left
      refine ⟨j, by omega, ex, ?_, hi⟩
      rw [ex, if_neg (nI_pos (by omega)), if_neg (show ¬ nI nf ≤ nI j by rw [n_le _ _ (by omega) (by omega)]; omega)]
    · right
      refine ⟨?_, hi⟩
      by_cases h : x < 0
      · rw [if_pos h]
      · rw [if_neg h]
        rcases hb with hb | hb
        · exact absurd hb h
        · obtain ⟨j, hj, rfl⟩ := nI_of h
          rw [n_lt _ _ (by omega) hj] at hb
          rw [if_pos (show nI nf ≤ nI j by rw [n_le _ _ (by omega) hj]; omega)]
theorem orv_bit {v : Nat → Int32} {t s : Nat} (h : bt (v t) s = true) : ∀ n, t < n → bt (orv v n) s = true
  | 0, ht => absurd ht (Nat.not_lt_zero t)
  | n + 1, ht => by
    show bt (orv v n ||| v n) s = true
    rw [b_or]
    by_cases e : t = n
    · subst e; rw [h, Bool.or_true]
    · rw [orv_bit h n (by omega), Bool.true_or]
theorem so32 {nf so : Nat} (hf : nf < 6) (hs : so < 2 ^ nf) : so < 32 := Nat.lt_of_lt_of_le hs ((by decide : ∀ n, n < 6 → 2 ^ n ≤ 32) nf hf)
theorem ne0_of_bit {x : Int32} {s : Nat} (h : bt x s = true) : ¬ x = 0 := fun e => by rw [e, b_0] at h; cases h
theorem split0 {A c : Int32} (h1 : A &&& c = 0) (h2 : A &&& (c ^^^ (-1)) = 0) : A = 0 := by
  apply b_ext
  intro i hi
  have a := congrArg (fun x => bt x i) h1
  have b := congrArg (fun x => bt x i) h2
  simp only [b_and, b_0, b_not _ hi] at a b
  rw [b_0]
  cases h : bt A i
  · rfl
  · rw [h] at a b
    simp at a b
    rw [a] at b
    cases b
theorem kof_eq {A : Int32} (hA : ¬ A = 0) {f : Nat} (hf : f < 5) : (bd1 (m_X9_isSoInAll A (nI f)) (fun (r3 : Int32) => if r3 = (0 : Int32) then bd1 (m_X9_isSoInNone A (nI f)) (fun (r6 : Int32) => if r6 = (0 : Int32) then some (-9 : Int32) else some (0 : Int32)) else some (1 : Int32))) = some (tfR A (cF f)) := by
  unfold m_X9_isSoInAll m_X9_isSoInNone tfR
  rw [cwf_eq hf, bd1_some, bd1_some]
  by_cases h2 : A &&& (cF f ^^^ (-1)) = 0
  · rw [if_pos h2, bd1_some, if_neg (by decide), if_neg (fun h1 => hA (split0 h1 h2)), if_pos h2]
  · rw [if_neg h2, bd1_some, if_pos rfl]
    by_cases h1 : A &&& cF f = 0
    · rw [if_pos h1, bd1_some, if_neg (by decide), if_pos h1]
    · rw [if_neg h1, bd1_some, if_pos rfl, if_neg h1, if_neg h2]
theorem op_fact {nf so : Nat} (hf : nf < 6) {d t a c k : Int32} {kn pg : Nat → Int32} (h : RNow nf so d t a c k kn pg) {fo : Nat → Int32} (hF : FacOK fo) (x y S C th : Int32) : ∃ r, m_X9_fact x y (nI nf) S C kn = some r ∧ m_X10_fact x y th (nI nf) S C pg fo = some (r, 0) := by
  obtain ⟨M, ⟨⟨d, t, a, c, k, -, -, -, -, -, -, ht, -, -, -, hb⟩, hsub⟩, -, -, -, -, -, hk, hp⟩ := h
  unfold m_X9_fact m_X10_fact
  rcases hf_any x hf with ⟨f, hlt, rfl, e1, e2⟩ | ⟨e1, e2⟩
  · rw [e1, e2, bd1_some, bd1_some, if_10, if_10]
    by_cases h0 : y = 0
    · rw [if_pos h0, if_pos h0]; exact ⟨_, rfl, rfl⟩
    by_cases h1 : y = 1
    · rw [if_neg h0, if_neg h0, if_pos h1, if_pos h1]; exact ⟨_, rfl, rfl⟩
    by_cases h2 : y = 2
    · rw [if_neg h0, if_neg h0, if_neg h1, if_neg h1, if_pos h2, if_pos h2]
      unfold m_X9_knownOfFact
      have e : orv kn 7 = orv pg 7 := orv_cong 7 (fun i hi => by rw [hk i hi, hp i (by omega)])
      have hA : ¬ orv kn 7 = 0 := ne0_of_bit (orv_bit (t := t) (s := so) (by rw [hk t ht]; exact hb) 7 ht)
      rw [w_any, bd1_some, kof_eq hA (by omega), bd1_some, tf_eq pg fo (by omega) hF (by decide), bd1_some, e]
      exact ⟨_, rfl, rfl⟩
    · rw [if_neg h0, if_neg h0, if_neg h1, if_neg h1, if_neg h2, if_neg h2]; exact ⟨_, rfl, rfl⟩
  · rw [e1, e2, bd1_some, bd1_some, if_00, if_00]; exact ⟨_, rfl, rfl⟩
/-- the acts with their counters -/
def RActs (nf so : Nat) (nx ac aa : Int32) (mo bk : Nat → Int32) (se bs : Nat → Int64) : Prop := ∃ a n, ac = nI a ∧ aa = nI a ∧ nx = nI n ∧ ActsR nf so a n mo bk se bs
theorem acts_0 (nf so : Nat) {nx ac aa : Int32} {mo bk : Nat → Int32} {se bs : Nat → Int64} (h : RActs nf so nx ac aa mo bk se bs) (nf' so' : Nat) : RActs nf' so' nx 0 0 mo bk se bs := by
  obtain ⟨a, n, -, -, e, h1, h2, -⟩ := h
  exact ⟨0, n, rfl, rfl, e, Nat.zero_le _, h2, fun i hi => absurd hi (Nat.not_lt_zero i)⟩
theorem op_cloth {nf so : Nat} {d t a c k : Int32} {kn pg : Nat → Int32} (h : RNow nf so d t a c k kn pg) {nx ac aa : Int32} {mo bk : Nat → Int32} {se bs : Nat → Int64} (hA : RActs nf so nx ac aa mo bk se bs) (sd : Int64) (th : Int32) :
    ∃ r nx' ac' c' mo' se' bk' pg' bs', m_X9_cloth sd nx ac d t a c k mo kn se = some (r, nx', ac', c', mo', se') ∧ m_X10_cloth th sd aa bk pg bs = some (r, 0, ac', bk', pg', bs') ∧ RNow nf so d t a c' k kn pg' ∧ RActs nf so nx' ac' ac' mo' bk' se' bs' := by
  obtain ⟨M, hM, rfl, rfl, rfl, rfl, rfl, hk, hp⟩ := h
  obtain ⟨na, nn, rfl, rfl, rfl, hA⟩ := hA
  obtain ⟨a', nx', mo', bk', se', bs', g1, g2, g3⟩ := rec_note hA hM kn pg hk hp sd
  have hM2 := hM
  obtain ⟨⟨d, t, a, c, k, h7, h8, h9, h10, h11, b1, b2, b3, b4, b5, b6⟩, hsub⟩ := hM2
  unfold m_X9_cloth m_X10_cloth
  rw [g2, g3, bd4_some, bd3_some, nm_ite, nm_ite, cn7.2.2.2.1, hp 10 (by decide), h10, pk_us]
  have key : ∀ (x5 : Int32) (c' : Nat), x5 = nI c' → c' < 3 → RNow nf so (M 7) (M 8) (M 9) x5 (M 11) kn (upd pg 10 x5) := by
    intro x5 c' e hc
    refine ⟨upd M 10 x5, ⟨⟨d, t, a, c', k, ?_, ?_, ?_, ?_, ?_, b1, b2, b3, hc, b5, ?_⟩, fun i hi => ?_⟩, ?_, ?_, ?_, ?_, ?_, fun i hi => ?_, fun i hi => ?_⟩
    · rw [pk_un (by decide)]; exact h7
    · rw [pk_un (by decide)]; exact h8
    · rw [pk_un (by decide)]; exact h9
    · rw [pk_us, e]
    · rw [pk_un (by decide)]; exact h11
    · rw [pk_un (by omega)]; exact b6
    · rw [pk_un (by omega)]; exact hsub i hi
    · rw [pk_un (by decide)]
    · rw [pk_un (by decide)]
    · rw [pk_un (by decide)]
    · rw [pk_us]
    · rw [pk_un (by decide)]
    · rw [pk_un (by omega)]; exact hk i hi
    · by_cases e10 : i = 10
      · subst e10; rw [pk_us, pk_us]
      · rw [pk_un e10, pk_un e10]; exact hp i hi
  by_cases h1 : c = 1
  · rw [h1, if_pos (show nI 1 = 1 from rfl), if_neg (by decide), if_neg (by decide)]
    exact ⟨_, _, _, _, _, _, _, _, _, rfl, rfl, key 2 2 rfl (by decide), _, _, rfl, rfl, rfl, g1⟩
  · rw [if_neg (show ¬ nI c = 1 by rw [q1_eq _ (by omega)]; exact h1), if_pos rfl, if_pos rfl]
    exact ⟨_, _, _, _, _, _, _, _, _, rfl, rfl, key 1 1 rfl (by decide), _, _, rfl, rfl, rfl, g1⟩
theorem undo27 (bk page : Nat → Int32) {a : Nat} (ha : a < 10) (K : (Nat → Int32) → Option (Int32 × Int32 × Int64 × Int32 × (Nat → Int32))) : ∃ p, (∀ j, j < 12 → p j = bk (12 * a + j)) ∧ L_X10_undo_27 bk (nI a) 1024 0 page K = K p := by
  obtain ⟨s, h1, h2⟩ := loop_u (fun n (s : Nat → Int32) j => L_X10_undo_27 bk (nI a) n (nI j) s K) (fun s => K s) 12 (fun j s => ∀ i, i < j → s i = bk (12 * a + i))
    (by
      intro n s h
      rw [L_X10_undo_27.eq_2, if_pos (by decide)])
    (by
      intro n s j hj g1
      refine ⟨upd s j (bk (12 * a + j)), fun i hi => ?_, ?_⟩
      · by_cases e : i = j
        · subst e; exact pk_us
        · rw [pk_un e]; exact g1 i (by omega)
      · rw [L_X10_undo_27.eq_2, if_neg (show ¬ (12 : Int32) ≤ nI j by rw [q12_le' _ (by omega)]; omega), show (12 : Int32) * nI a + nI j = nI (12 * a + j) by rw [show (12 : Int32) = nI 12 from rfl, pk_mul, nI_add], inB_nI (by omega) (by omega), gd_t, inB_nI (by omega) hj, gd_t, nm_eq, nI_1, nI_clamp (by omega), nI_clamp (by omega)])
    (j := 0) (s := page) (fuel := 1024) (by decide) (by decide) (fun i hi => absurd hi (Nat.not_lt_zero i))
  exact ⟨s, h1, h2⟩
theorem bd9_some {A1 A2 A3 A4 A5 A6 A7 A8 A9 γ : Type} (a1 : A1) (a2 : A2) (a3 : A3) (a4 : A4) (a5 : A5) (a6 : A6) (a7 : A7) (a8 : A8) (a9 : A9) (f : A1 → A2 → A3 → A4 → A5 → A6 → A7 → A8 → A9 → Option γ) : bd9 (some (a1, a2, a3, a4, a5, a6, a7, a8, a9)) f = f a1 a2 a3 a4 a5 a6 a7 a8 a9 := rfl
theorem op_undo {nf so : Nat} {d t a c k : Int32} {kn pg : Nat → Int32} (h : RNow nf so d t a c k kn pg) {nx ac aa : Int32} {mo bk : Nat → Int32} {se bs : Nat → Int64} (hA : RActs nf so nx ac aa mo bk se bs) (sd : Int64) (th : Int32) :
    ∃ r sd' nx' ac' d' t' a' c' k' kn' pg', m_X9_undo sd nx ac d t a c k mo kn se = some (r, sd', nx', ac', d', t', a', c', k', kn') ∧ m_X10_undo th sd aa bk pg bs = some (r, 0, sd', ac', pg') ∧ RNow nf so d' t' a' c' k' kn' pg' ∧ RActs nf so nx' ac' ac' mo bk se bs := by
  have h' := h
  obtain ⟨na, nn, rfl, rfl, rfl, ha, hn, hE⟩ := hA
  unfold m_X9_undo m_X10_undo
  by_cases h0 : na = 0
  · subst h0
    rw [if_pos (show nI 0 = 0 from rfl), if_pos (show nI 0 = 0 from rfl)]
    exact ⟨_, _, _, _, _, _, _, _, _, _, _, rfl, rfl, h', 0, nn, rfl, rfl, rfl, ha, hn, hE⟩
  · obtain ⟨M, m1, m2, m3, m4⟩ := hE (na - 1) (by omega)
    have ep : (nn + 10 - na + (na - 1)) % 10 = (nn + 10 - 1) % 10 := by omega
    rw [ep] at m2 m4
    obtain ⟨kn', l1, l2⟩ := load_eq (p := (nn + 10 - 1) % 10) (N := 120) m1 mo kn m2 (by omega) (by omega) d t a c k
    obtain ⟨p, u1, u2⟩ := undo27 bk pg (a := na - 1) (by omega) (fun (w5 : (Nat → Int32)) => gd (inB (nI (na - 1)) 10) (nm ((bs (Int32.toNatClampNeg (nI (na - 1))))) (fun (x11 : Int64) => some (nI (na - 1), (0 : Int32), x11, nI (na - 1), w5))))
    have hne : ¬ nI na = 0 := nI_ne0 (by omega) (by omega)
    have hx : m_X0_takeBack sd (nI nn) (nI na) d t a c k mo kn se = some (se ((nn + 10 - 1) % 10), nI ((nn + 10 - 1) % 10), nI (na - 1), M 7, M 8, M 9, M 10, M 11, kn') := by
      unfold m_X0_takeBack
      rw [if_neg hne, nI_lit_add _ 10 10 rfl, nI_sub1 (by omega), rem10 (by omega), nm_eq, nI_sub1 (by omega), nm_eq, l1, bd6_some, inB_nI (by omega) (by omega), gd_t, nI_clamp (by omega)]
    rw [if_neg hne, if_neg hne, hx, bd9_some, nI_sub1 (by omega), nm_eq, u2, inB_nI (by omega) (by omega), gd_t, nm_eq, nI_clamp (by omega), m4]
    refine ⟨_, _, _, _, _, _, _, _, _, _, _, rfl, rfl, ⟨M, m1, rfl, rfl, rfl, rfl, rfl, l2, fun i hi => by rw [u1 i hi]; exact m3 i hi⟩, na - 1, (nn + 10 - 1) % 10, rfl, rfl, rfl, by omega, by omega, fun i hi => ?_⟩
    obtain ⟨M2, q1, q2, q3, q4⟩ := hE i (by omega)
    have ep2 : ((nn + 10 - 1) % 10 + 10 - (na - 1) + i) % 10 = (nn + 10 - na + i) % 10 := by omega
    exact ⟨M2, q1, by rw [ep2]; exact q2, q3, by rw [ep2]; exact q4⟩
