theorem pcn_0 (x : Int32) : pcn x = 0 ↔ x = 0 := by
  constructor
  · intro h
    have := fb_ct_zero.mp h
    exact b_ext fun i hi => by rw [this i hi, b_0]
  · intro h
    subst h
    exact fb_ct_zero.mpr (fun i _ => b_0 i)
theorem sm_0 (v : Nat → Int32) : ∀ n, fb_sm (fun d => pcn (v d)) n = 0 ↔ orv v n = 0
  | 0 => ⟨fun _ => rfl, fun _ => rfl⟩
  | n + 1 => by
    rw [fb_sm_succ]
    show _ ↔ orv v n ||| v n = 0
    rw [or_0, ← sm_0 v n, ← pcn_0 (v n)]
    omega
theorem march22 {nf : Nat} {so cm r : Int32} (h : m_X10_agreed (nI nf) so cm = some r) (on : Nat → Int32) (K : (Nat → Int32) → Option (Int32 × Int32 × (Nat → Int32) × (Nat → Int32) × (Nat → Int32))) : ∃ w, (∀ i, i < 7 → w i = r) ∧ L_X10_march_22 (nI nf) so cm 1024 0 on K = K w := by
  obtain ⟨s, h1, h2⟩ := loop_u (fun n (s : Nat → Int32) j => L_X10_march_22 (nI nf) so cm n (nI j) s K) (fun s => K s) 7 (fun j s => ∀ i, i < j → s i = r)
    (by
      intro n s h
      rw [L_X10_march_22.eq_2, if_pos (by decide)])
    (by
      intro n s j hj g1
      refine ⟨upd s j r, fun i hi => ?_, ?_⟩
      · by_cases e : i = j
        · subst e; exact pk_us
        · rw [pk_un e]; exact g1 i (by omega)
      · rw [L_X10_march_22.eq_2, if_neg (show ¬ (7 : Int32) ≤ nI j by rw [q7_le _ (by omega)]; omega), h, bd1_some, inB_nI (by omega) hj, gd_t, nm_eq, nI_1, nI_clamp (by omega)])
    (j := 0) (s := on) (fuel := 1024) (by decide) (by decide) (fun i hi => absurd hi (Nat.not_lt_zero i))
  exact ⟨s, h1, h2⟩
theorem march107 (w v : Nat → Int32) (K : (Nat → Int32) → Option (Int32 × Int32 × (Nat → Int32) × (Nat → Int32) × (Nat → Int32))) : ∃ w', (∀ i, i < 7 → w' i = w i) ∧ L_X10_march_107 w 1024 0 v K = K w' := by
  obtain ⟨s, h1, h2⟩ := loop_u (fun n (s : Nat → Int32) j => L_X10_march_107 w n (nI j) s K) (fun s => K s) 7 (fun j s => ∀ i, i < j → s i = w i)
    (by
      intro n s h
      rw [L_X10_march_107.eq_2, if_pos (by decide)])
    (by
      intro n s j hj g1
      refine ⟨upd s j (w j), fun i hi => ?_, ?_⟩
      · by_cases e : i = j
        · subst e; exact pk_us
        · rw [pk_un e]; exact g1 i (by omega)
      · rw [L_X10_march_107.eq_2, if_neg (show ¬ (7 : Int32) ≤ nI j by rw [q7_le _ (by omega)]; omega), inB_nI (by omega) hj, gd_t, gd_t, nm_eq, nI_1, nI_clamp (by omega)])
    (j := 0) (s := v) (fuel := 1024) (by decide) (by decide) (fun i hi => absurd hi (Nat.not_lt_zero i))
  exact ⟨s, h1, h2⟩
theorem march46 {nf : Nat} (hf : nf < 6) {ye no : Nat → Int32} (hT : TabOK nf ye no) {tc mt : Int32} {ts td ta ms md my : Nat → Int32} (h : RTold tc mt ts td ta ms md my) (qz : Int32) (qu st : Nat → Int32) (K : (Nat → Int32) → (Nat → Int32) → (Nat → Int32) → Option (Int32 × Int32 × (Nat → Int32) × (Nat → Int32) × (Nat → Int32))) (w1 w2 tw : Nat → Int32) (hw : ∀ i, i < 7 → w1 i = w2 i ∧ sub nf (w2 i)) :
    ∃ w w' tw', m_X7_narrow 7 tc ts (nI nf) ta td w1 = some w ∧ L_X10_march_46 qz (nI nf) mt ms md my qu ye no 1024 0 w2 st tw K = K w' st tw' ∧ ∀ i, i < 7 → w i = w' i ∧ sub nf (w' i) := by
  obtain ⟨n, hn, rfl, rfl, hE⟩ := h
  unfold m_X7_narrow
  exact loop_2 (fun m (s : Nat → Int32) j => L_X7_narrow_2 (nI n) ts (nI nf) ta td 7 m (nI j) s (fun (w3 : (Nat → Int32)) => some w3))
    (fun m (s : (Nat → Int32) × (Nat → Int32)) j => L_X10_march_46 qz (nI nf) (nI n) ms md my qu ye no m (nI j) s.1 st s.2 K)
    n (fun j s t => ∀ i, i < 7 → s i = t.1 i ∧ sub nf (t.1 i)) (fun x y => ∃ w w' tw', x = some w ∧ y = K w' st tw' ∧ ∀ i, i < 7 → w i = w' i ∧ sub nf (w' i))
    (by
      rintro m m' s ⟨t1, t2⟩ e
      dsimp only at e ⊢
      rw [L_X7_narrow_2.eq_2, L_X10_march_46.eq_2, if_pos (Int32.le_refl _), if_pos (Int32.le_refl _)]
      exact ⟨_, _, _, rfl, rfl, e⟩)
    (by
      rintro m s ⟨t1, t2⟩ j hj e
      dsimp only at e ⊢
      refine Or.inr ?_
      have hlt : ¬ nI n ≤ nI j := by rw [n_le _ _ (by omega) (by omega)]; omega
      obtain ⟨q, d, y, g1, g2, g3, g4, g5, g6, g7, g8, g9⟩ := hE j hj
      rw [L_X7_narrow_2.eq_2, L_X10_march_46.eq_2, if_neg hlt, if_neg hlt, inB_nI (by omega) (by omega), gd_t, gd_t, nI_clamp (by omega), g4, g5, g6, g7, g8, g9]
      rcases hs_any (nI q) hf with ⟨-, -, -, -, e1, e2⟩ | ⟨e1, e2⟩
      · obtain ⟨s', n1, n2⟩ := w_narrow1 s g1 (g := y) (by omega) g2
        obtain ⟨w', p1, p2⟩ := p_simple g1 (g := y) (dd := d) (by omega) (by omega) hT t1 t2 qu st (fun i hi => (e i hi).2) qz (nI nf) (N := 7) (M := 7) (by decide) (by decide)
        rw [show d % 7 = d by omega] at p2
        have ey : (if nI y = 0 then (0 : Int32) else 1) = aI9 y := by
          rcases (show y = 0 ∨ y = 1 by omega) with rfl | rfl <;> rfl
        rw [e1, e2, bd1_some, bd1_some, nm_eq, nm_eq, if_10, if_00, gd_t, gd_t, gd_t, gd_t, gd_t, gd_t, nm_ite, ey, n1, bd1_some, p1, bd2_some]
        simp only [nm_eq]
        rw [nI_1]
        obtain ⟨v', c1, c2⟩ := march107 w' t1 (fun (w37 : (Nat → Int32)) => L_X10_march_46 qz (nI nf) (nI n) ms md my qu ye no m (nI (j + 1)) w37 st w' K)
        rw [c2]
        exact ⟨s', (v', w'), fun i hi => ⟨by show s' i = v' i; rw [n2 i hi, c1 i hi, p2 i hi, (e i hi).1], by show sub nf (v' i); rw [c1 i hi, p2 i hi]; exact sub_and (e i hi).2 _⟩, rfl, rfl⟩
      · rw [e1, e2, bd1_some, bd1_some, nm_eq, nm_eq, if_00, if_10]
        simp only [nm_eq]
        rw [nI_1]
        exact ⟨s, (t1, t2), e, rfl, rfl⟩)
    (s := w1) (t := (w2, tw)) (f := 1024) (by omega) hw
def mfv (e A : Int32) : Nat → Int32
  | 0 => 0
  | j + 1 => mfv e A j ||| (if tfR A (cF j) = e then (1 : Int32) <<< (nI j &&& 31) else 0)
theorem march171 {nf : Nat} (hf : nf < 6) {fo : Nat → Int32} (hF : FacOK fo) (p : Int32) (w : Nat → Int32) (K : Int32 → Option (Int32 × Int32 × (Nat → Int32) × (Nat → Int32) × (Nat → Int32))) : L_X10_march_171 (nI nf) fo p w 1024 0 0 K = K (mfv (if p = 2 then 1 else 0) (orv w 7) nf) := by
  obtain ⟨s, h1, h2⟩ := loop_u (fun n (s : Int32) j => L_X10_march_171 (nI nf) fo p w n s (nI j) K) (fun s => K s) nf (fun j s => s = mfv (if p = 2 then 1 else 0) (orv w 7) j)
    (by
      intro n s h
      rw [L_X10_march_171.eq_2, if_pos (Int32.le_refl _)])
    (by
      intro n s j hj g1
      refine ⟨_, rfl, ?_⟩
      rw [L_X10_march_171.eq_2, if_neg (show ¬ nI nf ≤ nI j by rw [n_le _ _ (by omega) (by omega)]; omega), tf_eq w fo (by omega) hF (by decide), bd1_some, nm_ite, nm_ite, nm_eq, nm_eq, nI_1, g1]
      rfl)
    (j := 0) (s := 0) (fuel := 1024) (by omega) (by omega) rfl
  rw [← h1]
  exact h2
theorem fm20 {nf : Nat} (hf : nf < 6) {A : Int32} (hA : ¬ A = 0) (b : Bool) : L_X9_factsOfMarch_20 (nI nf) (b2i b) A 1024 0 0 (fun (x6 : Int32) => some x6) = some (mfv (b2i b) A nf) := by
  obtain ⟨s, h1, h2⟩ := loop_u (fun n (s : Int32) j => L_X9_factsOfMarch_20 (nI nf) (b2i b) A n s (nI j) (fun (x6 : Int32) => some x6)) (fun s => some s) nf (fun j s => s = mfv (b2i b) A j)
    (by
      intro n s h
      rw [L_X9_factsOfMarch_20.eq_2, if_pos (Int32.le_refl _)])
    (by
      intro n s j hj g1
      refine ⟨_, rfl, ?_⟩
      rw [L_X9_factsOfMarch_20.eq_2, if_neg (show ¬ nI nf ≤ nI j by rw [n_le _ _ (by omega) (by omega)]; omega), g1]
      unfold m_X9_isSoInAll m_X9_isSoInNone
      simp only [nm_eq]
      rw [cwf_eq (by omega), bd1_some, bd1_some, nI_1]
      show _ = L_X9_factsOfMarch_20 (nI nf) (b2i b) A n (mfv (b2i b) A j ||| (if tfR A (cF j) = b2i b then (1 : Int32) <<< (nI j &&& 31) else 0)) (nI (j + 1)) _
      unfold tfR
      cases b
      · rw [if_pos (show b2i false = 0 from rfl)]
        by_cases h1 : A &&& cF j = 0
        · rw [if_pos h1, if_pos h1, bd1_some, if_10, if_pos (show (0 : Int32) = b2i false from rfl)]
        · rw [if_neg h1, if_neg h1, bd1_some, if_00]
          by_cases h2 : A &&& (cF j ^^^ (-1)) = 0
          · rw [if_pos h2, if_neg (show ¬ (1 : Int32) = b2i false by decide), Int32.or_zero]
          · rw [if_neg h2, if_neg (show ¬ (-9 : Int32) = b2i false by decide), Int32.or_zero]
      · rw [if_neg (show ¬ b2i true = 0 by decide)]
        by_cases h2 : A &&& (cF j ^^^ (-1)) = 0
        · rw [if_pos h2, if_pos h2, bd1_some, if_10, if_neg (fun h1 => hA (split0 h1 h2)), if_pos (show (1 : Int32) = b2i true from rfl)]
        · rw [if_neg h2, if_neg h2, bd1_some, if_00]
          by_cases h1 : A &&& cF j = 0
          · rw [if_pos h1, if_neg (show ¬ (0 : Int32) = b2i true by decide), Int32.or_zero]
          · rw [if_neg h1, if_neg (show ¬ (-9 : Int32) = b2i true by decide), Int32.or_zero])
    (j := 0) (s := 0) (fuel := 1024) (by omega) (by omega) rfl
  rw [← h1]
  exact h2
theorem days_eq {v w : Nat → Int32} (h : ∀ i, i < 7 → v i = w i) : ∃ r, m_X8_trueDays 7 v = some r ∧ m_X10_daysOf 7 w = some r := by
  obtain ⟨r1, a1, a2⟩ := w_days v
  obtain ⟨r2, b1, b2⟩ := k_days w (N := 7) (by decide)
  have : r2 = r1 := b_ext fun i hi => by
    rw [a2 i hi, b2 i hi]
    by_cases hi7 : i < 7
    · rw [h i hi7]
    · rw [decide_eq_false hi7]; rfl
  exact ⟨r1, a1, by rw [b1, this]⟩
theorem op_march {nf : Nat} (hf : nf < 6) {so cm cs : Int32} (hC : ∀ i, i < 32 → bt cs i = (decide (i < 2 ^ nf) && decide (((nI i ^^^ so) &&& cm) = 0))) {ye no fo : Nat → Int32} (hT : TabOK nf ye no) (hF : FacOK fo) {tc mt : Int32} {ts td ta ms md my : Nat → Int32} (h : RTold tc mt ts td ta ms md my) (x th qz : Int32) (mw qu st on tw : Nat → Int32) :
    ∃ r mw' on' tw', m_X9_march x (nI nf) cs mw tc ts ta td = some (r, mw') ∧ m_X10_march x th qz (nI nf) so cm mt on ms md my qu st ye no tw fo = some (r, 0, on', st, tw') := by
  unfold m_X9_march m_X10_march
  rcases in_rng x (n := 3) (by decide) 3 rfl with ⟨p, hp, rfl, hi⟩ | ⟨hb, hi⟩
  · obtain ⟨r, a1, a2⟩ := ag_model hf so cm
    have er : r = cs := b_ext fun i hi => by rw [a2 i hi, hC i hi]
    subst er
    have hsub : sub nf r := fun i hi hb => by
      rw [hC i hi, Bool.and_eq_true] at hb
      exact of_decide_eq_true hb.1
    obtain ⟨w1, f1, f2⟩ := w_fill r mw
    rw [hi, bd1_some, if_10, if_neg (nI_pos (by omega)), if_pos (show nI p ≤ 3 by rw [show (3 : Int32) = nI 3 from rfl, n_le _ _ (by omega) (by decide)]; exact hp), f1, bd1_some]
    obtain ⟨w2, m1, m2⟩ := march22 a1 on (fun (w6 : (Nat → Int32)) => L_X10_march_46 qz (nI nf) mt ms md my qu ye no 1024 (0 : Int32) w6 st tw (fun (w16 : (Nat → Int32)) (w17 : (Nat → Int32)) (w18 : (Nat → Int32)) => bd1 (m_X10_knownMany 7 w16) (fun (r43 : Int32) => if (2 : Int32) ≤ nI p then L_X10_march_171 (nI nf) fo (nI p) w16 1024 (0 : Int32) (0 : Int32) (fun (x48 : Int32) => if r43 = (0 : Int32) then some ((-9 : Int32), (0 : Int32), w16, w17, w18) else some (x48, (0 : Int32), w16, w17, w18)) else if nI p = (0 : Int32) then some (r43, (0 : Int32), w16, w17, w18) else bd1 (m_X10_daysOf 7 w16) (fun (r60 : Int32) => some (r60, (0 : Int32), w16, w17, w18)))))
    rw [m2]
    obtain ⟨w, w', tw', g1, g2, g3⟩ := march46 hf hT h qz qu st (fun (w16 : (Nat → Int32)) (w17 : (Nat → Int32)) (w18 : (Nat → Int32)) => bd1 (m_X10_knownMany 7 w16) (fun (r43 : Int32) => if (2 : Int32) ≤ nI p then L_X10_march_171 (nI nf) fo (nI p) w16 1024 (0 : Int32) (0 : Int32) (fun (x48 : Int32) => if r43 = (0 : Int32) then some ((-9 : Int32), (0 : Int32), w16, w17, w18) else some (x48, (0 : Int32), w16, w17, w18)) else if nI p = (0 : Int32) then some (r43, (0 : Int32), w16, w17, w18) else bd1 (m_X10_daysOf 7 w16) (fun (r60 : Int32) => some (r60, (0 : Int32), w16, w17, w18)))) w1 w2 tw (fun i hi => ⟨by rw [f2 i hi, m1 i hi], by rw [m1 i hi]; exact hsub⟩)
    rw [g1, bd1_some, g2, k_count _ (by decide), bd1_some]
    have e : orv w 7 = orv w' 7 := orv_cong 7 (fun i hi => (g3 i hi).1)
    have ec : fb_sm (fun d => pcn (w d)) 7 = fb_sm (fun d => pcn (w' d)) 7 := sm_cong (fun i hi => (g3 i hi).1)
    have hc7 : fb_sm (fun d => pcn (w' d)) 7 ≤ 224 := sm7_le w' 7
    rcases (show p = 0 ∨ p = 1 ∨ 2 ≤ p by omega) with rfl | rfl | h2
    · rw [if_pos (show nI 0 = 0 from rfl), if_neg (show ¬ (2 : Int32) ≤ nI 0 by decide), if_pos (show nI 0 = 0 from rfl), w_count, bd1_some, ec]
      exact ⟨_, _, _, _, rfl, rfl⟩
    · obtain ⟨rd, d1, d2⟩ := days_eq (fun i hi => (g3 i hi).1)
      rw [if_neg (show ¬ nI 1 = 0 by decide), if_pos (show nI 1 = 1 from rfl), if_neg (show ¬ (2 : Int32) ≤ nI 1 by decide), if_neg (show ¬ nI 1 = 0 by decide), d1, d2, bd1_some, bd1_some]
      exact ⟨_, _, _, _, rfl, rfl⟩
    · obtain ⟨b, eb⟩ : ∃ b : Bool, (if nI p = 2 then (1 : Int32) else 0) = b2i b := by
        by_cases e2 : nI p = 2
        · exact ⟨true, if_pos e2⟩
        · exact ⟨false, if_neg e2⟩
      rw [if_neg (show ¬ nI p = 0 from nI_ne0 (by omega) (by omega)), if_neg (show ¬ nI p = 1 by rw [q1_eq _ (by omega)]; omega), if_pos (show (2 : Int32) ≤ nI p by rw [q2_le _ (by omega)]; exact h2), nm_ite, march171 hf hF, eb]
      unfold m_X9_factsOfMarch
      rw [w_any, bd1_some, e]
      by_cases hA : orv w' 7 = 0
      · rw [if_pos hA, bd1_some, if_pos (show nI (fb_sm (fun d => pcn (w' d)) 7) = 0 by rw [(sm_0 w' 7).mpr hA]; rfl)]
        exact ⟨_, _, _, _, rfl, rfl⟩
      · have : ¬ fb_sm (fun d => pcn (w' d)) 7 = 0 := fun h => hA ((sm_0 w' 7).mp h)
        rw [if_neg hA, fm20 hf hA b, bd1_some, if_neg (nI_ne0 (by omega) (by omega))]
        exact ⟨_, _, _, _, rfl, rfl⟩
  · rw [hi, bd1_some, if_00]
    rcases hb with hb | hb
    · rw [if_pos hb]; exact ⟨_, _, _, _, rfl, rfl⟩
    · by_cases h0 : x < 0
      · rw [if_pos h0]; exact ⟨_, _, _, _, rfl, rfl⟩
      · rw [if_neg h0, if_neg (show ¬ x ≤ 3 from Int32.not_le.mpr hb)]; exact ⟨_, _, _, _, rfl, rfl⟩
