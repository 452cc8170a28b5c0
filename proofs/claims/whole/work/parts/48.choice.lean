/-- what is left behind a row of questions -/
def lft (q : Nat → Nat) (d td so : Nat) (v : Nat → Int32) : Nat → Nat → Int32
  | 0 => v
  | j + 1 => fun i => lft q d td so v j i &&& CA (q j) (sans (q j) ((d + j) % 7) td so) ((d + j) % 7) i
theorem lft_cong (q : Nat → Nat) (d td so : Nat) {v w : Nat → Int32} (h : ∀ i, i < 7 → v i = w i) : ∀ j i, i < 7 → lft q d td so v j i = lft q d td so w j i
  | 0, i, hi => h i hi
  | j + 1, i, hi => by
    show lft q d td so v j i &&& _ = lft q d td so w j i &&& _
    rw [lft_cong q d td so h j i hi]
theorem lft_sub (q : Nat → Nat) (d td so : Nat) {nf : Nat} {v : Nat → Int32} (h : ∀ i, i < 7 → sub nf (v i)) : ∀ j i, i < 7 → sub nf (lft q d td so v j i)
  | 0, i, hi => h i hi
  | j + 1, i, hi => sub_and (lft_sub q d td so h j i hi) _
theorem lbr {p d td so : Nat} (hp : p < 6) (hd : d < 28) (ht : td < 7) (hs : so < 32) {q : Nat → Nat} {row : Nat → Int32} (hr : ∀ i, i < p → q i < 19 ∧ row i = nI (q i)) (kn l0 : Nat → Int32) :
    ∃ w, m_X2_leftBehindRow (nI p) (nI td) (nI so) (nI d) kn l0 row = some (nI (fb_sm (fun i => pcn (lft q d td so kn p i)) 7), w) := by
  unfold m_X2_leftBehindRow
  rw [show cpB 0 0 7 7 7 = true from cpB_t (a := 0) (b := 0) (n := 7) (by decide) (by decide) (by decide) (by omega) (by omega), gd_t, show (0 : Int32).toNatClampNeg = 0 from rfl, show (7 : Int32).toNatClampNeg = 7 from rfl]
  obtain ⟨s, h1, h2⟩ := loop_u (fun m (s : Nat → Int32) j => L_X2_leftBehindRow_24 (nI d) row (nI p) (nI td) (nI so) m (nI j) s (fun (w4 : (Nat → Int32)) => bd1 (m_X8_count 7 w4) (fun (r15 : Int32) => some (r15, w4)))) (fun w4 => bd1 (m_X8_count 7 w4) (fun (r15 : Int32) => some (r15, w4))) p (fun j s => ∀ i, i < 7 → s i = lft q d td so kn j i)
    (by
      intro m s h
      rw [L_X2_leftBehindRow_24.eq_2, if_pos (Int32.le_refl _)])
    (by
      intro m s j hj g
      obtain ⟨w', n1, n2⟩ := w_narrow1 s (hr j hj).1 (g := sans (q j) ((d + j) % 7) td so) (sans_lt _ _ _ _) (wd := (d + j) % 7) (by omega)
      refine ⟨w', fun i hi => ?_, ?_⟩
      · rw [n2 i hi, g i hi]; rfl
      · rw [L_X2_leftBehindRow_24.eq_2, if_neg (show ¬ nI p ≤ nI j by rw [n_le _ _ (by omega) (by omega)]; omega), if_neg (show ¬ (5 : Int32) ≤ nI j by rw [q5_le _ (by omega)]; omega), nI_add, rem7 (by omega), nm_eq, inB_nI (by omega) (by omega), gd_t, nI_clamp (by omega), (hr j hj).2, sai_eq (hr j hj).1 (by omega) ht hs, bd1_some, gd_t, n1, bd1_some, nm_eq, nI_1])
    (j := 0) (s := va_cpy kn l0 0 0 7) (fuel := 1024) (Nat.zero_le _) (by omega) (fun i hi => by
      rw [pk_cpy_in (by omega) (by omega), show 0 + (i - 0) = i by omega]; rfl)
  refine ⟨s, ?_⟩
  refine Eq.trans h2 ?_
  rw [w_count, bd1_some, sm_cong h1]
theorem ch107 (pg on : Nat → Int32) (K : (Nat → Int32) → Option (Int32 × Int32 × (Nat → Int32) × (Nat → Int32) × (Nat → Int32))) : ∃ w, (∀ i, i < 7 → w i = pg i) ∧ L_X10_choice_107 pg 1024 0 on K = K w := by
  obtain ⟨s, h1, h2⟩ := loop_u (fun n (s : Nat → Int32) j => L_X10_choice_107 pg n (nI j) s K) (fun s => K s) 7 (fun j s => ∀ i, i < j → s i = pg i)
    (by
      intro n s h
      rw [L_X10_choice_107.eq_2, if_pos (by decide)])
    (by
      intro n s j hj g1
      refine ⟨upd s j (pg j), fun i hi => ?_, ?_⟩
      · by_cases e : i = j
        · subst e; exact pk_us
        · rw [pk_un e]; exact g1 i (by omega)
      · rw [L_X10_choice_107.eq_2, if_neg (show ¬ (7 : Int32) ≤ nI j by rw [q7_le _ (by omega)]; omega), inB_nI (by omega) (by omega), gd_t, inB_nI (by omega) hj, gd_t, nm_eq, nI_1, nI_clamp (by omega)])
    (j := 0) (s := on) (fuel := 1024) (by decide) (by decide) (fun i hi => absurd hi (Nat.not_lt_zero i))
  exact ⟨s, h1, h2⟩
theorem ch208 (pg on : Nat → Int32) (K : (Nat → Int32) → Option (Int32 × Int32 × (Nat → Int32) × (Nat → Int32) × (Nat → Int32))) : ∃ w, (∀ i, i < 7 → w i = pg i) ∧ L_X10_choice_208 pg 1024 0 on K = K w := by
  obtain ⟨s, h1, h2⟩ := loop_u (fun n (s : Nat → Int32) j => L_X10_choice_208 pg n (nI j) s K) (fun s => K s) 7 (fun j s => ∀ i, i < j → s i = pg i)
    (by
      intro n s h
      rw [L_X10_choice_208.eq_2, if_pos (by decide)])
    (by
      intro n s j hj g1
      refine ⟨upd s j (pg j), fun i hi => ?_, ?_⟩
      · by_cases e : i = j
        · subst e; exact pk_us
        · rw [pk_un e]; exact g1 i (by omega)
      · rw [L_X10_choice_208.eq_2, if_neg (show ¬ (7 : Int32) ≤ nI j by rw [q7_le _ (by omega)]; omega), inB_nI (by omega) hj, gd_t, gd_t, nm_eq, nI_1, nI_clamp (by omega)])
    (j := 0) (s := on) (fuel := 1024) (by decide) (by decide) (fun i hi => absurd hi (Nat.not_lt_zero i))
  exact ⟨s, h1, h2⟩
theorem pow5 : ∀ p, p < 6 → 0 < 100 ^ p ∧ 100 ^ p < 9223372036854775808 := by decide
theorem nzL_t {n : Nat} (h0 : 0 < n) (h : n < 9223372036854775808) : nzL (nL n) = true := by
  unfold nzL
  rw [decide_eq_false (fun e => by have := (nL_0 h).mp e; omega)]
  rfl
/-- the digit that the model reads -/
theorem dig {p j a : Nat} (hp : p < 6) (hj : j < p) (ha : a < 9223372036854775808) : ∃ h, m_X10_hundred (nI p - 1 - nI j) = some h ∧ nzL h = true ∧ Int64.toInt32 ((nL a / h) - (nL a / h) / (100 : Int64) * (100 : Int64)) = nI (dg a p j) := by
  have hb := pow5 (p - 1 - j) (by omega)
  have hq := Nat.div_le_self a (100 ^ (p - 1 - j))
  refine ⟨nL (100 ^ (p - 1 - j)), ?_, nzL_t hb.1 hb.2, ?_⟩
  · rw [nI_sub1 (by omega), pk_sub (by omega), hund _ (by omega)]
  · rw [nL_div ha hb.1 hb.2, nL_rem (by omega)]
    have : a / 100 ^ (p - 1 - j) % 100 < 100 := Nat.mod_lt _ (by decide)
    rw [nL_32 (by omega)]
    rfl
theorem ch137 {nf so : Nat} (hso : so < 32) {ye no : Nat → Int32} (hT : TabOK nf ye no) {p a d td : Nat} (hp : p < 6) (ha : a < 9223372036854775808) (hd : d < 28) (ht : td < 7) {pg : Nat → Int32} (h7 : pg 7 = nI d) (hr : ∀ i, i < p → dg a p i < 19) (qz : Int32) (qu v w st tw : Nat → Int32) (hv : ∀ i, i < 7 → sub nf (v i)) (hw : ∀ i, i < 7 → w i = v i) (K : (Nat → Int32) → (Nat → Int32) → (Nat → Int32) → Option (Int32 × Int32 × (Nat → Int32) × (Nat → Int32) × (Nat → Int32))) :
    ∃ w' tw', (∀ i, i < 7 → w' i = lft (dg a p) d td so v p i) ∧ L_X10_choice_137 qz (nI nf) (nI so) pg qu ye no (nI p) (nL a) (nI td) 1024 0 w st tw K = K w' st tw' := by
  obtain ⟨⟨s1, s2⟩, h1, h2⟩ := loop_u (fun m (s : (Nat → Int32) × (Nat → Int32)) j => L_X10_choice_137 qz (nI nf) (nI so) pg qu ye no (nI p) (nL a) (nI td) m (nI j) s.1 st s.2 K) (fun s => K s.1 st s.2) p (fun j s => ∀ i, i < 7 → s.1 i = lft (dg a p) d td so v j i)
    (by
      intro m s h
      rw [L_X10_choice_137.eq_2, if_pos (Int32.le_refl _)])
    (by
      rintro m ⟨s1, s2⟩ j hj g
      dsimp only at g
      obtain ⟨h, e1, e2, e3⟩ := dig hp hj ha
      obtain ⟨w', p1, p2⟩ := p_simple (hr j hj) (g := sans (dg a p j) ((d + j) % 7) td so) (dd := d + j) (sans_lt _ _ _ _) (by omega) hT s1 s2 qu st (fun i hi => by rw [g i hi]; exact lft_sub _ _ _ _ hv j i hi) qz (nI nf) (N := 7) (M := 7) (by decide) (by decide)
      obtain ⟨v', c1, c2⟩ := ch208 w' s1 (fun (w61 : (Nat → Int32)) => nm (nI j + (1 : Int32)) (fun (x66 : Int32) => L_X10_choice_137 qz (nI nf) (nI so) pg qu ye no (nI p) (nL a) (nI td) m x66 w61 st w' K))
      refine ⟨(v', w'), fun i hi => ?_, ?_⟩
      · show v' i = _
        rw [c1 i hi, p2 i hi, g i hi]; rfl
      · dsimp only
        rw [L_X10_choice_137.eq_2, if_neg (show ¬ nI p ≤ nI j by rw [n_le _ _ (by omega) (by omega)]; omega), e1, bd1_some, e2, gd_t, e3, nm_eq, cn7.1, h7, nI_add, nm_eq, ao_simple (hr j hj) (by omega) ht ht hso, bd2_some]
        rw [show aI9 (ansS (sso (dg a p j) ((d + j) % 7 == td) td so true) (sso (dg a p j) ((d + j) % 7 == td) td so false) ((d + j) % 7 == td)) = aI9 (sans (dg a p j) ((d + j) % 7) td so) from rfl, p1, bd2_some, c2, nm_eq, nI_1])
    (j := 0) (s := (w, tw)) (fuel := 1024) (Nat.zero_le _) (by omega) (fun i hi => hw i hi)
  exact ⟨s1, s2, h1, h2⟩
