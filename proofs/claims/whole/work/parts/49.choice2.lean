theorem nL_le {a b : Nat} (ha : a < 9223372036854775808) (hb : b < 9223372036854775808) : nL a ≤ nL b ↔ a ≤ b := by
  rw [Int64.le_iff_toInt_le, nL_int ha, nL_int hb]
  omega
theorem ch48 {nf : Nat} (hf : nf < 6) (on st tw : Nat → Int32) {p a : Nat} (hp : p < 6) (ha : a < 9223372036854775808) (K : Option (Int32 × Int32 × (Nat → Int32) × (Nat → Int32) × (Nat → Int32))) :
    ((∀ i, i < p → okq nf (dg a p i)) ∧ L_X10_choice_48 (nI nf) on st tw (nI p) (nL a) 1024 0 K = K) ∨ (¬ (∀ i, i < p → okq nf (dg a p i)) ∧ L_X10_choice_48 (nI nf) on st tw (nI p) (nL a) 1024 0 K = some (-2, 0, on, st, tw)) :=
  loop_r (fun m (s : Unit) j => L_X10_choice_48 (nI nf) on st tw (nI p) (nL a) m (nI j) K) p (fun j _ => ∀ i, i < j → okq nf (dg a p i)) (fun o => ((∀ i, i < p → okq nf (dg a p i)) ∧ o = K) ∨ (¬ (∀ i, i < p → okq nf (dg a p i)) ∧ o = some (-2, 0, on, st, tw)))
    (by
      intro m s h
      rw [L_X10_choice_48.eq_2, if_pos (Int32.le_refl _)]
      exact Or.inl ⟨h, rfl⟩)
    (by
      intro m s j hj h
      obtain ⟨hh, e1, e2, e3⟩ := dig hp hj ha
      have hd100 : dg a p j < 100 := Nat.mod_lt _ (by decide)
      rw [L_X10_choice_48.eq_2, if_neg (show ¬ nI p ≤ nI j by rw [n_le _ _ (by omega) (by omega)]; omega), e1, bd1_some, e2, gd_t, e3]
      rcases okq_any hf hd100 with hok | ⟨hno, -, f2⟩
      · right
        rw [hok.2.2, bd1_some, if_00, nm_eq, nI_1]
        refine ⟨(), fun i hi => ?_, rfl⟩
        by_cases ei : i = j
        · rw [ei]; exact hok
        · exact h i (by omega)
      · left
        rw [f2, bd1_some, if_10]
        exact Or.inr ⟨fun h => hno (h j hj), rfl⟩)
    p 0 () 1024 rfl (Nat.zero_le p) (by omega) (fun i hi => absurd hi (Nat.not_lt_zero i))
theorem ch_loops {nf so : Nat} (hf : nf < 6) (hso : so < 32) {ye no : Nat → Int32} (hT : TabOK nf ye no) {p a d : Nat} (hp : p < 6) (ha : a < 9223372036854775808) (hd : d < 28) {M kn pg : Nat → Int32} (h7 : M 7 = nI d) (hk : ∀ i, i < 7 → kn i = M i) (hpg : ∀ i, i < 12 → pg i = M i) (hsub : ∀ i, i < 7 → sub nf (M i)) (hr : ∀ i, i < p → dg a p i < 19) {row : Nat → Int32} (hrow : ∀ i, i < p → row i = nI (dg a p i)) (y qz : Int32) (l0 qu on st tw : Nat → Int32) :
    ∃ r l0' on' tw', L_X9_choice_39 (nI so) (nI d) kn (nI p) row 1024 (0 : Int32) (-1 : Int32) (0 : Int32) l0 (fun (x11 : Int32) (x12 : Int32) (w13 : (Nat → Int32)) => if y = (0 : Int32) then some (x11, row, w13) else some (x12, row, w13)) = some (r, row, l0') ∧
      L_X10_choice_97 qz (nI nf) (nI so) pg qu ye no (nI p) (nL a) 1024 (-9 : Int32) (-9 : Int32) (0 : Int32) on st tw (fun (x27 : Int32) (x28 : Int32) (w29 : (Nat → Int32)) (w30 : (Nat → Int32)) (w31 : (Nat → Int32)) => if y = (0 : Int32) then some (x27, (0 : Int32), w29, w30, w31) else some (x28, (0 : Int32), w29, w30, w31)) = some (r, 0, on', st, tw') :=
  loop_2 (fun m (s : Int32 × Int32 × (Nat → Int32)) j => L_X9_choice_39 (nI so) (nI d) kn (nI p) row m s.1 s.2.1 (nI j) s.2.2 (fun (x11 : Int32) (x12 : Int32) (w13 : (Nat → Int32)) => if y = (0 : Int32) then some (x11, row, w13) else some (x12, row, w13)))
    (fun m (s : Int32 × Int32 × (Nat → Int32) × (Nat → Int32)) j => L_X10_choice_97 qz (nI nf) (nI so) pg qu ye no (nI p) (nL a) m s.1 s.2.1 (nI j) s.2.2.1 st s.2.2.2 (fun (x27 : Int32) (x28 : Int32) (w29 : (Nat → Int32)) (w30 : (Nat → Int32)) (w31 : (Nat → Int32)) => if y = (0 : Int32) then some (x27, (0 : Int32), w29, w30, w31) else some (x28, (0 : Int32), w29, w30, w31)))
    7 (fun j s t => (j = 0 ∧ s.2.1 = -1 ∧ t.2.1 = -9) ∨ (0 < j ∧ s.1 = t.1 ∧ s.2.1 = t.2.1)) (fun o o' => ∃ r l0' on' tw', o = some (r, row, l0') ∧ o' = some (r, 0, on', st, tw'))
    (by
      rintro m m' ⟨s1, s2, s3⟩ ⟨t1, t2, t3, t4⟩ (⟨h, -⟩ | ⟨-, e1, e2⟩)
      · omega
      · dsimp only at e1 e2 ⊢
        rw [L_X9_choice_39.eq_2, L_X10_choice_97.eq_2, if_pos (show (7 : Int32) ≤ nI 7 by decide), if_pos (show (7 : Int32) ≤ nI 7 by decide), e1, e2]
        by_cases hy : y = 0
        · rw [if_pos hy, if_pos hy]; exact ⟨_, _, _, _, rfl, rfl⟩
        · rw [if_neg hy, if_neg hy]; exact ⟨_, _, _, _, rfl, rfl⟩)
    (by
      rintro m ⟨s1, s2, s3⟩ ⟨t1, t2, t3, t4⟩ j hj hP
      dsimp only at hP ⊢
      refine Or.inr ?_
      have hlt : ¬ (7 : Int32) ≤ nI j := by rw [q7_le _ (by omega)]; omega
      obtain ⟨w, e1⟩ := lbr hp hd hj hso (q := dg a p) (fun i hi => ⟨hr i hi, hrow i hi⟩) kn s3
      obtain ⟨w1, c1, c2⟩ := ch107 pg t3 (fun (w35 : (Nat → Int32)) => L_X10_choice_137 qz (nI nf) (nI so) pg qu ye no (nI p) (nL a) (nI j) 1024 (0 : Int32) w35 st t4 (fun (w44 : (Nat → Int32)) (w45 : (Nat → Int32)) (w46 : (Nat → Int32)) => bd1 (m_X10_knownMany 7 w44) (fun (r67 : Int32) => nm (fun (x69 : Int32) (x70 : Int32) => nm (nI j + (1 : Int32)) (fun (x71 : Int32) => L_X10_choice_97 qz (nI nf) (nI so) pg qu ye no (nI p) (nL a) m x69 x70 x71 w44 w45 w46 (fun (x27 : Int32) (x28 : Int32) (w29 : (Nat → Int32)) (w30 : (Nat → Int32)) (w31 : (Nat → Int32)) => if y = (0 : Int32) then some (x27, (0 : Int32), w29, w30, w31) else some (x28, (0 : Int32), w29, w30, w31)))) (fun (k265 : Int32 → Int32 → Option (Int32 × Int32 × (Nat → Int32) × (Nat → Int32) × (Nat → Int32))) => if r67 ≤ t2 then k265 t1 t2 else k265 (nI j) r67))))
      obtain ⟨w2, tw2, d1, d2⟩ := ch137 (pg := pg) hso hT hp ha hd hj (by rw [hpg 7 (by decide)]; exact h7) hr qz qu M w1 st t4 hsub (fun i hi => by rw [c1 i hi, hpg i (by omega)]) (fun (w44 : (Nat → Int32)) (w45 : (Nat → Int32)) (w46 : (Nat → Int32)) => bd1 (m_X10_knownMany 7 w44) (fun (r67 : Int32) => nm (fun (x69 : Int32) (x70 : Int32) => nm (nI j + (1 : Int32)) (fun (x71 : Int32) => L_X10_choice_97 qz (nI nf) (nI so) pg qu ye no (nI p) (nL a) m x69 x70 x71 w44 w45 w46 (fun (x27 : Int32) (x28 : Int32) (w29 : (Nat → Int32)) (w30 : (Nat → Int32)) (w31 : (Nat → Int32)) => if y = (0 : Int32) then some (x27, (0 : Int32), w29, w30, w31) else some (x28, (0 : Int32), w29, w30, w31)))) (fun (k265 : Int32 → Int32 → Option (Int32 × Int32 × (Nat → Int32) × (Nat → Int32) × (Nat → Int32))) => if r67 ≤ t2 then k265 t1 t2 else k265 (nI j) r67)))
      have ec : fb_sm (fun i => pcn (w2 i)) 7 = fb_sm (fun i => pcn (lft (dg a p) d j so kn p i)) 7 := sm_cong (fun i hi => by rw [d1 i hi, lft_cong _ _ _ _ hk p i hi])
      have hc : fb_sm (fun i => pcn (lft (dg a p) d j so kn p i)) 7 ≤ 224 := sm7_le (lft (dg a p) d j so kn p) 7
      obtain ⟨C, eC⟩ : ∃ C, C = fb_sm (fun i => pcn (lft (dg a p) d j so kn p i)) 7 := ⟨_, rfl⟩
      rw [← eC] at e1 ec hc
      rw [L_X9_choice_39.eq_2, L_X10_choice_97.eq_2, if_neg hlt, if_neg hlt, e1, bd2_some, c2, d2, k_count _ (by decide), ec, bd1_some]
      simp only [nm_eq]
      rw [nI_1]
      rcases hP with ⟨j0, e2, e3⟩ | ⟨j0, e2, e3⟩
      · subst e2 e3
        rw [if_neg (show ¬ nI C ≤ -1 from fun e => nI_pos (n := C) (by omega) (Int32.lt_of_le_of_lt e (by decide))), if_neg (show ¬ nI C ≤ -9 from fun e => nI_pos (n := C) (by omega) (Int32.lt_of_le_of_lt e (by decide)))]
        exact ⟨(nI j, nI C, w), (nI j, nI C, w2, tw2), Or.inr ⟨by omega, rfl, rfl⟩, rfl, rfl⟩
      · subst e2 e3
        by_cases hle : nI C ≤ s2
        · rw [if_pos hle, if_pos hle]
          exact ⟨(s1, s2, w), (s1, s2, w2, tw2), Or.inr ⟨by omega, rfl, rfl⟩, rfl, rfl⟩
        · rw [if_neg hle, if_neg hle]
          exact ⟨(nI j, nI C, w), (nI j, nI C, w2, tw2), Or.inr ⟨by omega, rfl, rfl⟩, rfl, rfl⟩)
    (s := (0, -1, l0)) (t := (-9, -9, on, tw)) (f := 1024) (by decide) (Or.inl ⟨rfl, rfl, rfl⟩)
theorem op_choice {nf so : Nat} (hf : nf < 6) (hso : so < 2 ^ nf) {ye no : Nat → Int32} (hT : TabOK nf ye no) {d t a c k : Int32} {kn pg : Nat → Int32} (h : RNow nf so d t a c k kn pg) (x : Int32) (z : Int64) (y th qz : Int32) (row l0 qu on st tw : Nat → Int32) :
    ∃ r row' l0' on' tw', m_X9_choice x z y (nI nf) (nI so) row d kn l0 = some (r, row', l0') ∧ m_X10_choice x z y th qz (nI nf) (nI so) pg on qu st ye no tw = some (r, 0, on', st, tw') := by
  obtain ⟨M, hM, rfl, rfl, rfl, rfl, rfl, hk, hp⟩ := h
  obtain ⟨⟨d, t, a, c, k, h7, h8, h9, h10, h11, b1, b2, b3, b4, b5, b6⟩, hsub⟩ := hM
  unfold m_X9_choice m_X10_choice
  rw [show m_X10_in (Int32.toInt64 x) (1 : Int64) (5 : Int64) = some (b2i (decide (1 ≤ x) && decide (x ≤ 5))) from m_inI x 1 5, bd1_some]
  by_cases x1 : x < 1
  · rw [decide_eq_false (Int32.not_le.mpr x1), Bool.false_and, show b2i false = 0 from rfl, if_00]
    unfold m_X2_readRow
    rw [if_pos x1, bd2_some, if_00]
    exact ⟨_, _, _, _, _, rfl, rfl⟩
  by_cases x5 : 5 < x
  · rw [decide_eq_false (p := x ≤ 5) (Int32.not_le.mpr x5), Bool.and_false, show b2i false = 0 from rfl, if_00]
    unfold m_X2_readRow
    rw [if_neg x1, if_pos x5, bd2_some, if_00]
    exact ⟨_, _, _, _, _, rfl, rfl⟩
  rw [decide_eq_true (Int32.not_lt.mp x1), decide_eq_true (p := x ≤ 5) (Int32.not_lt.mp x5), show b2i (true && true) = 1 from rfl, if_10]
  obtain ⟨p, hp31, rfl⟩ := nI_of (x := x) (fun e => x1 (Int32.lt_trans e (by decide)))
  rw [q1_gt _ hp31] at x1
  rw [q5_lt _ hp31] at x5
  have h5 := pow5 p (by omega)
  rw [hund p (by omega), bd1_some, m_in, bd1_some]
  have em : nL (100 ^ p) - 1 = nL (100 ^ p - 1) := (by decide : ∀ p, p < 6 → nL (100 ^ p) - 1 = nL (100 ^ p - 1)) p (by omega)
  rw [em]
  by_cases z0 : z < 0
  · rw [decide_eq_false (Int64.not_le.mpr z0), Bool.false_and, show b2i false = 0 from rfl, if_00]
    unfold m_X2_readRow
    rw [if_neg (show ¬ nI p < 1 by rw [q1_gt _ (by omega)]; omega), if_neg (show ¬ (5 : Int32) < nI p by rw [q5_lt _ (by omega)]; omega), if_neg (fun e => (lg_ge0 z).mp e z0), bd2_some, if_00]
    exact ⟨_, _, _, _, _, rfl, rfl⟩
  obtain ⟨a, ha, rfl⟩ := nL_of z0
  rw [decide_eq_true (Int64.not_lt.mp z0), Bool.true_and]
  obtain ⟨w, ⟨e1, lt, hrow⟩ | ⟨e1, hno⟩⟩ := row_class hf (p := p) (by omega) (by omega) ha row
  · rw [e1, bd2_some, if_10, decide_eq_true ((nL_le ha (by omega)).mpr (by omega)), show b2i true = 1 from rfl, if_10]
    rcases in_rng y (n := 1) (by decide) 1 rfl with ⟨j, hj, rfl, hi⟩ | ⟨hb, hi⟩
    · rw [hi, bd1_some, if_10, if_neg (nI_pos (by omega)), if_pos (show nI j ≤ 1 by rw [show (1 : Int32) = nI 1 from rfl, n_le _ _ (by omega) (by decide)]; exact hj)]
      rcases ch48 hf on st tw (p := p) (by omega) ha (L_X10_choice_97 qz (nI nf) (nI so) pg qu ye no (nI p) (nL a) 1024 (-9 : Int32) (-9 : Int32) (0 : Int32) on st tw (fun (x27 : Int32) (x28 : Int32) (w29 : (Nat → Int32)) (w30 : (Nat → Int32)) (w31 : (Nat → Int32)) => if nI j = (0 : Int32) then some (x27, (0 : Int32), w29, w30, w31) else some (x28, (0 : Int32), w29, w30, w31))) with ⟨-, e2⟩ | ⟨hn, -⟩
      · rw [e2, h7]
        obtain ⟨r, l0', on', tw', f1, f2⟩ := ch_loops hf (so32 hf hso) hT (p := p) (by omega) ha b1 h7 hk hp hsub (fun i hi => (hrow i hi).1.1) (fun i hi => (hrow i hi).2) (nI j) qz l0 qu on st tw
        exact ⟨r, _, l0', on', tw', f1, f2⟩
      · exact absurd (fun i hi => (hrow i hi).1) hn
    · rw [hi, bd1_some, if_00]
      by_cases y0 : y < 0
      · rw [if_pos y0]; exact ⟨_, _, _, _, _, rfl, rfl⟩
      · rcases hb with hb | hb
        · exact absurd hb y0
        · rw [if_neg y0, if_neg (show ¬ y ≤ 1 from Int32.not_le.mpr hb)]; exact ⟨_, _, _, _, _, rfl, rfl⟩
  · rw [e1, bd2_some, if_00]
    by_cases lt : a < 100 ^ p
    · rw [decide_eq_true ((nL_le ha (by omega)).mpr (by omega)), show b2i true = 1 from rfl, if_10]
      rcases in_rng y (n := 1) (by decide) 1 rfl with ⟨j, hj, rfl, hi⟩ | ⟨hb, hi⟩
      · rw [hi, bd1_some, if_10]
        rcases ch48 hf on st tw (p := p) (by omega) ha (L_X10_choice_97 qz (nI nf) (nI so) pg qu ye no (nI p) (nL a) 1024 (-9 : Int32) (-9 : Int32) (0 : Int32) on st tw (fun (x27 : Int32) (x28 : Int32) (w29 : (Nat → Int32)) (w30 : (Nat → Int32)) (w31 : (Nat → Int32)) => if nI j = (0 : Int32) then some (x27, (0 : Int32), w29, w30, w31) else some (x28, (0 : Int32), w29, w30, w31))) with ⟨hy, -⟩ | ⟨-, e2⟩
        · exact absurd ⟨lt, hy⟩ hno
        · rw [e2]; exact ⟨_, _, _, _, _, rfl, rfl⟩
      · rw [hi, bd1_some, if_00]; exact ⟨_, _, _, _, _, rfl, rfl⟩
    · rw [decide_eq_false (fun e => lt (by have := (nL_le ha (by omega)).mp e; omega)), show b2i false = 0 from rfl, if_00]
      exact ⟨_, _, _, _, _, rfl, rfl⟩
