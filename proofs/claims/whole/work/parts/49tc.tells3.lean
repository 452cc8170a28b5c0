theorem Pq_cong {nf x k dd q : Nat} {v w : Nat → Int32} (h : ∀ i, i < 7 → v i = w i) : Pq nf x k v dd q ↔ Pq nf x k w dd q := by
  have e : ∀ g, Ek nf x k (nar v q g (dd % 7)) (dd + 1) ↔ Ek nf x k (nar w q g (dd % 7)) (dd + 1) := fun g => Ek_cong nf x k (dd + 1) (fun i hi => by unfold nar; rw [h i hi])
  unfold Pq
  simp only [e]
theorem goal_any (y : Int32) {nf : Nat} (hf : nf < 6) :
    (∃ g, g < 6 ∧ y = nI g ∧ (∀ {α : Type} (K : Int32 → Option α), nm K (fun (k21 : Int32 → Option α) => nm (k21 (1 : Int32)) (fun (k16 : Option α) => if y = (5 : Int32) then k16 else bd1 (m_X1_hasFact y (nI nf)) (fun (r16 : Int32) => if r16 = (0 : Int32) then k21 (0 : Int32) else k16))) = K 1) ∧
      (∀ {α : Type} (K E : Option α), nm K (fun (k38 : Option α) => if y = (5 : Int32) then k38 else bd1 (m_X10_in (Int32.toInt64 y) (0 : Int64) (Int32.toInt64 (nI nf - (1 : Int32)))) (fun (r55 : Int32) => if r55 = (0 : Int32) then E else k38)) = K)) ∨
    ((∀ {α : Type} (K : Int32 → Option α), nm K (fun (k21 : Int32 → Option α) => nm (k21 (1 : Int32)) (fun (k16 : Option α) => if y = (5 : Int32) then k16 else bd1 (m_X1_hasFact y (nI nf)) (fun (r16 : Int32) => if r16 = (0 : Int32) then k21 (0 : Int32) else k16))) = K 0) ∧
      (∀ {α : Type} (K E : Option α), nm K (fun (k38 : Option α) => if y = (5 : Int32) then k38 else bd1 (m_X10_in (Int32.toInt64 y) (0 : Int64) (Int32.toInt64 (nI nf - (1 : Int32)))) (fun (r55 : Int32) => if r55 = (0 : Int32) then E else k38)) = E)) := by
  by_cases h5 : y = 5
  · refine Or.inl ⟨5, by decide, h5, fun K => ?_, fun K E => ?_⟩
    · show (if y = (5 : Int32) then K 1 else _) = K 1
      rw [if_pos h5]
    · show (if y = (5 : Int32) then K else _) = K
      rw [if_pos h5]
  · rcases hf_any y hf with ⟨f, hlt, ey, e1, e2⟩ | ⟨e1, e2⟩
    · refine Or.inl ⟨f, by omega, ey, fun K => ?_, fun K E => ?_⟩
      · show (if y = (5 : Int32) then K 1 else bd1 (m_X1_hasFact y (nI nf)) (fun (r16 : Int32) => if r16 = (0 : Int32) then K (0 : Int32) else K 1)) = K 1
        rw [if_neg h5, e1, bd1_some, if_10]
      · show (if y = (5 : Int32) then K else bd1 (m_X10_in (Int32.toInt64 y) (0 : Int64) (Int32.toInt64 (nI nf - (1 : Int32)))) (fun (r55 : Int32) => if r55 = (0 : Int32) then E else K)) = K
        rw [if_neg h5, e2, bd1_some, if_10]
    · refine Or.inr ⟨fun K => ?_, fun K E => ?_⟩
      · show (if y = (5 : Int32) then K 1 else bd1 (m_X1_hasFact y (nI nf)) (fun (r16 : Int32) => if r16 = (0 : Int32) then K (0 : Int32) else K 1)) = K 0
        rw [if_neg h5, e1, bd1_some, if_00]
      · show (if y = (5 : Int32) then K else bd1 (m_X10_in (Int32.toInt64 y) (0 : Int64) (Int32.toInt64 (nI nf - (1 : Int32)))) (fun (r55 : Int32) => if r55 = (0 : Int32) then E else K)) = E
        rw [if_neg h5, e2, bd1_some, if_00]
theorem tdisp {γ : Type} {nf x k dd q : Nat} (hf : nf < 6) (hx : x < 6) (hq : q < 19) (hk : k < 3) (hd : dd < 100) {ye no fo : Nat → Int32} (hT : TabOK nf ye no) (hF : FacOK fo) (qz : Int32) (v zs st : Nat → Int32) (hv : ∀ i, i < 7 → sub nf (v i)) (w10 w11 w12 : Nat → Int32) (K : Int32 → (Nat → Int32) → (Nat → Int32) → (Nat → Int32) → (Nat → Int32) → Option γ) :
    ∃ b a c d, (if nI (k + 1) = (1 : Int32) then bd3 (m_X10_doesOne (nI q) (nI dd) (nI x) 12 qz (nI nf) v zs st ye no w10 fo) (fun (r48 : Int32) (w49 : (Nat → Int32)) (w50 : (Nat → Int32)) => K r48 w49 w50 w11 w12) else if nI (k + 1) = (2 : Int32) then bd4 (m_X10_doesTwo (nI q) (nI dd) (nI x) 12 qz (nI nf) v zs st ye no w11 fo w10) (fun (r43 : Int32) (w44 : (Nat → Int32)) (w45 : (Nat → Int32)) (w46 : (Nat → Int32)) => K r43 w44 w46 w45 w12) else bd5 (m_X10_doesThree (nI q) (nI dd) (nI x) 12 qz (nI nf) v zs st ye no w12 fo w11 w10) (fun (r37 : Int32) (w38 : (Nat → Int32)) (w39 : (Nat → Int32)) (w40 : (Nat → Int32)) (w41 : (Nat → Int32)) => K r37 w38 w41 w40 w39)) = K (b2i b) st a c d ∧ (b = true ↔ ∀ g, g < 3 → Ek nf x k (nar v q g (dd % 7)) (dd + 1)) := by
  rcases (show k = 0 ∨ k = 1 ∨ k = 2 by omega) with rfl | rfl | rfl
  · obtain ⟨b, y1, e, hb⟩ := doesOne hq hf hx (dd := dd) (by omega) (N := 12) (by decide) hT hF qz v zs st hv w10
    rw [if_pos (show nI (0 + 1) = (1 : Int32) by decide), e, bd3_some]
    exact ⟨b, _, _, _, rfl, hb⟩
  · obtain ⟨b, ⟨y1, y2⟩, e, hb⟩ := doesTwo hq hf hx (dd := dd) (by omega) (N := 12) (by decide) hT hF qz v zs st hv w11 w10
    rw [if_neg (show ¬ nI (1 + 1) = (1 : Int32) by decide), if_pos (show nI (1 + 1) = (2 : Int32) by decide), e, bd4_some]
    exact ⟨b, _, _, _, rfl, hb⟩
  · obtain ⟨b, ⟨y1, y2, y3⟩, e, hb⟩ := doesThree hq hf hx (dd := dd) (by omega) (N := 12) (by decide) hT hF qz v zs st hv w12 w11 w10
    rw [if_neg (show ¬ nI (2 + 1) = (1 : Int32) by decide), if_neg (show ¬ nI (2 + 1) = (2 : Int32) by decide), e, bd5_some]
    exact ⟨b, _, _, _, rfl, hb⟩
theorem tells63 {nf x k dd : Nat} (hf : nf < 6) (hx : x < 6) (hk : k < 3) (hd : dd < 100) {ye no fo : Nat → Int32} (hT : TabOK nf ye no) (hF : FacOK fo) (qz z : Int32) (v zs st : Nat → Int32) (hv : ∀ i, i < 7 → sub nf (v i)) (w10 w11 w12 : Nat → Int32) :
    ∃ s' : (Nat → Int32) × (Nat → Int32) × (Nat → Int32), (∃ q, q < 19 ∧ Pq nf x k v dd q ∧ (∀ j, j < q → ¬ Pq nf x k v dd j) ∧ L_X10_tells_63 qz (nI nf) v zs ye no fo (nI (k + 1)) (nI x) z (nI dd) 1024 (0 : Int32) st w10 w11 w12 (fun (w13 : (Nat → Int32)) (w14 : (Nat → Int32)) (w15 : (Nat → Int32)) (w16 : (Nat → Int32)) => if z = (0 : Int32) then some ((0 : Int32), (0 : Int32), w13, w14, w15, w16) else some ((-9 : Int32), (0 : Int32), w13, w14, w15, w16)) = if z = (0 : Int32) then some ((1 : Int32), (0 : Int32), st, s') else some (nI q, (0 : Int32), st, s')) ∨
      ((∀ j, j < 19 → ¬ Pq nf x k v dd j) ∧ L_X10_tells_63 qz (nI nf) v zs ye no fo (nI (k + 1)) (nI x) z (nI dd) 1024 (0 : Int32) st w10 w11 w12 (fun (w13 : (Nat → Int32)) (w14 : (Nat → Int32)) (w15 : (Nat → Int32)) (w16 : (Nat → Int32)) => if z = (0 : Int32) then some ((0 : Int32), (0 : Int32), w13, w14, w15, w16) else some ((-9 : Int32), (0 : Int32), w13, w14, w15, w16)) = if z = (0 : Int32) then some ((0 : Int32), (0 : Int32), st, s') else some (-9, (0 : Int32), st, s')) :=
  least_gen (fun n (s : (Nat → Int32) × (Nat → Int32) × (Nat → Int32)) j => L_X10_tells_63 qz (nI nf) v zs ye no fo (nI (k + 1)) (nI x) z (nI dd) n (nI j) st s.1 s.2.1 s.2.2 (fun (w13 : (Nat → Int32)) (w14 : (Nat → Int32)) (w15 : (Nat → Int32)) (w16 : (Nat → Int32)) => if z = (0 : Int32) then some ((0 : Int32), (0 : Int32), w13, w14, w15, w16) else some ((-9 : Int32), (0 : Int32), w13, w14, w15, w16)))
    (fun q s => if z = (0 : Int32) then some ((1 : Int32), (0 : Int32), st, s) else some (nI q, (0 : Int32), st, s)) (fun s => if z = (0 : Int32) then some ((0 : Int32), (0 : Int32), st, s) else some (-9, (0 : Int32), st, s)) (Pq nf x k v dd)
    (fun n s => by (try dsimp only); rw [L_X10_tells_63.eq_2, if_pos (by decide)])
    (by
      rintro n ⟨u1, u2, u3⟩ j hj
      try dsimp only
      rw [L_X10_tells_63.eq_2, if_neg (show ¬ (19 : Int32) ≤ nI j by rw [q19_le _ (by omega)]; omega)]
      rcases okq_any hf (q := j) (by omega) with ho | ⟨hno, -, e1⟩
      · obtain ⟨b, y1, y2, y3, e, hb⟩ := tdisp hf hx hj hk hd hT hF qz v zs st hv u1 u2 u3 (fun (x21 : Int32) (w22 : (Nat → Int32)) (w23 : (Nat → Int32)) (w24 : (Nat → Int32)) (w25 : (Nat → Int32)) => if x21 = (0 : Int32) then nm (nI j + (1 : Int32)) (fun (x27 : Int32) => L_X10_tells_63 qz (nI nf) v zs ye no fo (nI (k + 1)) (nI x) z (nI dd) n x27 w22 w23 w24 w25 (fun (w13 : (Nat → Int32)) (w14 : (Nat → Int32)) (w15 : (Nat → Int32)) (w16 : (Nat → Int32)) => if z = (0 : Int32) then some ((0 : Int32), (0 : Int32), w13, w14, w15, w16) else some ((-9 : Int32), (0 : Int32), w13, w14, w15, w16))) else if z = (0 : Int32) then some ((1 : Int32), (0 : Int32), w22, w23, w24, w25) else some (nI j, (0 : Int32), w22, w23, w24, w25))
        refine ⟨(y1, y2, y3), ?_⟩
        rw [ho.2.2, bd1_some, nm_ite, if_00]
        simp only [nm_eq, if_10]
        simp only [nm_eq] at e
        rw [e]
        cases b
        · right
          rw [b2i_f, if_00, nI_1 j]
          exact ⟨fun h => (by have := hb.mpr h.2; cases this), rfl⟩
        · left
          rw [b2i_t, if_10]
          exact ⟨⟨ho, hb.mp rfl⟩, rfl⟩
      · refine ⟨(u1, u2, u3), Or.inr ?_⟩
        rw [e1, bd1_some, nm_ite, if_10]
        simp only [nm_eq, if_00]
        rw [nI_1 j]
        exact ⟨fun h => hno h.1, rfl⟩) (w10, w11, w12)
theorem op_tells {nf so : Nat} (hf : nf < 6) {ye no fo : Nat → Int32} (hT : TabOK nf ye no) (hF : FacOK fo) {d t a c k : Int32} {kn pg : Nat → Int32} (h : RNow nf so d t a c k kn pg) (x y z th qz : Int32) (l0 l1 l2 l3 qu st t1 t2 t3 : Nat → Int32) :
    ∃ r l0' l1' l2' l3' t1' t2' t3', m_X9_tells x y z (nI nf) d kn l0 l1 l2 l3 = some (r, l0', l1', l2', l3') ∧ m_X10_tells x y z th qz (nI nf) pg qu st ye no t3 fo t2 t1 = some (r, 0, st, t3', t2', t1') := by
  obtain ⟨M, hM, rfl, rfl, rfl, rfl, rfl, hk, hp⟩ := h
  obtain ⟨⟨d, t, a, c, k, h7, h8, h9, h10, h11, b1, b2, b3, b4, b5, b6⟩, hsub⟩ := hM
  unfold m_X9_tells m_X10_tells
  rw [show m_X10_in (Int32.toInt64 x) (1 : Int64) (3 : Int64) = some (b2i (decide (1 ≤ x) && decide (x ≤ 3))) from m_inI x 1 3, bd1_some]
  rcases goal_any y hf with ⟨g, hg, rfl, g1, g2⟩ | ⟨g1, g2⟩
  · rw [g1, g2]
    by_cases x1 : x < 1
    · rw [decide_eq_false (Int32.not_le.mpr x1), Bool.false_and, show b2i false = 0 from rfl, if_00, if_pos x1]
      exact ⟨_, _, _, _, _, _, _, _, rfl, rfl⟩
    by_cases x3 : 3 < x
    · rw [decide_eq_false (p := x ≤ 3) (Int32.not_le.mpr x3), Bool.and_false, show b2i false = 0 from rfl, if_00, if_neg x1, if_pos x3]
      exact ⟨_, _, _, _, _, _, _, _, rfl, rfl⟩
    rw [decide_eq_true (Int32.not_lt.mp x1), decide_eq_true (p := x ≤ 3) (Int32.not_lt.mp x3), show b2i (true && true) = 1 from rfl, if_10, if_neg x1, if_neg x3, if_10]
    obtain ⟨p, hp31, rfl⟩ := nI_of (x := x) (fun e => x1 (Int32.lt_trans e (by decide)))
    rw [q1_gt _ hp31] at x1
    rw [q3_lt _ hp31] at x3
    obtain ⟨k', rfl⟩ : ∃ k', p = k' + 1 := ⟨p - 1, by omega⟩
    rcases in_rng z (n := 1) (by decide) 1 rfl with ⟨j, hj, rfl, hi⟩ | ⟨hb, hi⟩
    · rw [hi, bd1_some, if_10, if_neg (nI_pos (by omega)), if_pos (show nI j ≤ 1 by rw [show (1 : Int32) = nI 1 from rfl, n_le _ _ (by omega) (by decide)]; exact hj), nm_eq, cn7.1, hp 7 (by decide), h7]
      unfold m_X2_firstToAsk
      rw [show cpB 0 0 7 7 7 = true from cpB_t (a := 0) (b := 0) (n := 7) (by decide) (by decide) (by decide) (by omega) (by omega), gd_t, show (0 : Int32).toNatClampNeg = 0 from rfl, cn7.1]
      have hc : ∀ i, i < 7 → va_cpy kn l0 0 0 7 i = M i := fun i hi => by
        rw [pk_cpy_in (by omega) (by omega), show 0 + (i - 0) = i by omega, hk i hi]
      have hc' : ∀ i, i < 7 → pg i = M i := fun i hi => hp i (by omega)
      obtain ⟨⟨y1, y2, y3⟩, hA⟩ := lt0 hf hg (k := k') (dd := d) (by omega) (by omega) (va_cpy kn l0 0 0 7) l1 l2 l3
      obtain ⟨⟨u1, u2, u3⟩, hB⟩ := tells63 hf hg (k := k') (dd := d) (by omega) (by omega) hT hF qz (nI j) pg qu st (fun i hi => by rw [hc' i hi]; exact hsub i hi) t3 t2 t1
      simp only [Pq_cong hc] at hA
      simp only [Pq_cong hc'] at hB
      rcases hA with ⟨q, hq, pq, mq, eA⟩ | ⟨nq, eA⟩
      · rcases hB with ⟨q', hq', pq', mq', eB⟩ | ⟨nq', eB⟩
        · have eq : q' = q := by
            rcases Nat.lt_trichotomy q q' with h | h | h
            · exact absurd pq (mq' q h)
            · exact h.symm
            · exact absurd pq' (mq q' h)
          subst eq
          rw [eA, eB, bd4_some, bd5_some]
          rcases (show j = 0 ∨ j = 1 by omega) with rfl | rfl
          · rw [if_neg (show ¬ nI 0 = (1 : Int32) by decide), if_neg (nI_ne9 (by omega)), if_pos (show nI 0 = (0 : Int32) from rfl)]
            exact ⟨_, _, _, _, _, _, _, _, rfl, rfl⟩
          · rw [if_pos (show nI 1 = (1 : Int32) from rfl), if_neg (show ¬ nI 1 = (0 : Int32) by decide)]
            exact ⟨_, _, _, _, _, _, _, _, rfl, rfl⟩
        · exact absurd pq (nq' q hq)
      · rcases hB with ⟨q', hq', pq', mq', eB⟩ | ⟨nq', eB⟩
        · exact absurd pq' (nq q' hq')
        · rw [eA, eB, bd4_some, bd5_some]
          rcases (show j = 0 ∨ j = 1 by omega) with rfl | rfl
          · rw [if_neg (show ¬ nI 0 = (1 : Int32) by decide), if_pos rfl, if_pos (show nI 0 = (0 : Int32) from rfl)]
            exact ⟨_, _, _, _, _, _, _, _, rfl, rfl⟩
          · rw [if_pos (show nI 1 = (1 : Int32) from rfl), if_neg (show ¬ nI 1 = (0 : Int32) by decide)]
            exact ⟨_, _, _, _, _, _, _, _, rfl, rfl⟩
    · rw [hi, bd1_some, if_00]
      by_cases y0 : z < 0
      · rw [if_pos y0]; exact ⟨_, _, _, _, _, _, _, _, rfl, rfl⟩
      · rcases hb with hb | hb
        · exact absurd hb y0
        · rw [if_neg y0, if_neg (show ¬ z ≤ 1 from Int32.not_le.mpr hb)]; exact ⟨_, _, _, _, _, _, _, _, rfl, rfl⟩
  · rw [g1, g2, if_00]
    have e2 : ∀ {α : Type} (A : α), (if x < 1 then A else if 3 < x then A else A) = A := fun A => by
      by_cases x1 : x < 1
      · rw [if_pos x1]
      · by_cases x3 : 3 < x
        · rw [if_neg x1, if_pos x3]
        · rw [if_neg x1, if_neg x3]
    rw [e2]
    by_cases hb : b2i (decide (1 ≤ x) && decide (x ≤ 3)) = 0
    · rw [if_pos hb]; exact ⟨_, _, _, _, _, _, _, _, rfl, rfl⟩
    · rw [if_neg hb]; exact ⟨_, _, _, _, _, _, _, _, rfl, rfl⟩
