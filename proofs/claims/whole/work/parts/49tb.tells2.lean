theorem knd_cong {x : Nat} {v w : Nat → Int32} (h : ∀ i, i < 7 → v i = w i) : knd x v = knd x w := by
  unfold knd
  rw [orv_cong 7 h, fb_ct_cong (p := fun i => !(decide (v i = 0))) (q := fun i => !(decide (w i = 0))) (n := 7) (fun i hi => by rw [h i hi])]
theorem Ek_cong (nf x : Nat) : ∀ k {v w : Nat → Int32} (wd : Nat), (∀ i, i < 7 → v i = w i) → (Ek nf x k v wd ↔ Ek nf x k w wd)
  | 0, v, w, wd, h => by
    show knd x v ≤ 1 ↔ knd x w ≤ 1
    rw [knd_cong h]
  | k + 1, v, w, wd, h => by
    have e : ∀ q g, Ek nf x k (nar v q g (wd % 7)) (wd + 1) ↔ Ek nf x k (nar w q g (wd % 7)) (wd + 1) := fun q g => Ek_cong nf x k (wd + 1) (fun i hi => by unfold nar; rw [h i hi])
    show (knd x v ≤ 1 ∨ ∃ q, okq nf q ∧ ∀ g, g < 3 → Ek nf x k (nar v q g (wd % 7)) (wd + 1)) ↔ (knd x w ≤ 1 ∨ ∃ q, okq nf q ∧ ∀ g, g < 3 → Ek nf x k (nar w q g (wd % 7)) (wd + 1))
    rw [knd_cong h]
    simp only [e]
theorem Ek_told {nf x : Nat} : ∀ k {v : Nat → Int32} {wd : Nat}, knd x v ≤ 1 → Ek nf x k v wd
  | 0, _, _, h => h
  | _ + 1, _, _, h => Or.inl h
/-- the question tells, within so many more -/
def Pq (nf x k : Nat) (v : Nat → Int32) (dd q : Nat) : Prop := okq nf q ∧ ∀ g, g < 3 → Ek nf x k (nar v q g (dd % 7)) (dd + 1)
theorem all_gen {S : Type} (L : Nat → S → Nat → Option (Int32 × S)) (P : Nat → Prop) (hx : ∀ n s, L (n + 1) s 3 = some (1, s)) (hs : ∀ n s j, j < 3 → ∃ s', (P j ∧ L (n + 1) s j = L n s' (j + 1)) ∨ (¬ P j ∧ L (n + 1) s j = some (0, s'))) (s : S) : ∃ b s', L 1024 s 0 = some (b2i b, s') ∧ (b = true ↔ ∀ g, g < 3 → P g) :=
  loop_r L 3 (fun j _ => ∀ g, g < j → P g) (fun o => ∃ b s', o = some (b2i b, s') ∧ (b = true ↔ ∀ g, g < 3 → P g))
    (fun n s h => ⟨true, s, hx n s, ⟨fun _ => h, fun _ => rfl⟩⟩)
    (fun n s j hj h => by
      obtain ⟨s', ⟨h1, h2⟩ | ⟨h1, h2⟩⟩ := hs n s j hj
      · refine Or.inr ⟨s', fun g hg => ?_, h2⟩
        by_cases e : g = j
        · subst e; exact h1
        · exact h g (by omega)
      · exact Or.inl ⟨false, s', h2, ⟨fun e => (by cases e), fun e => absurd (e j hj) h1⟩⟩)
    3 0 s 1024 rfl (Nat.zero_le 3) (by decide) (fun g hg => absurd hg (Nat.not_lt_zero g))
theorem least_gen {S α : Type} (L : Nat → S → Nat → α) (F : Nat → S → α) (G : S → α) (P : Nat → Prop) (hx : ∀ n s, L (n + 1) s 19 = G s) (hs : ∀ n s j, j < 19 → ∃ s', (P j ∧ L (n + 1) s j = F j s') ∨ (¬ P j ∧ L (n + 1) s j = L n s' (j + 1))) (s : S) : ∃ s', (∃ q, q < 19 ∧ P q ∧ (∀ j, j < q → ¬ P j) ∧ L 1024 s 0 = F q s') ∨ ((∀ j, j < 19 → ¬ P j) ∧ L 1024 s 0 = G s') :=
  loop_r L 19 (fun j _ => ∀ g, g < j → ¬ P g) (fun o => ∃ s', (∃ q, q < 19 ∧ P q ∧ (∀ j, j < q → ¬ P j) ∧ o = F q s') ∨ ((∀ j, j < 19 → ¬ P j) ∧ o = G s'))
    (fun n s h => ⟨s, Or.inr ⟨h, hx n s⟩⟩)
    (fun n s j hj h => by
      obtain ⟨s', ⟨h1, h2⟩ | ⟨h1, h2⟩⟩ := hs n s j hj
      · exact Or.inl ⟨s', Or.inl ⟨j, hj, h1, h, h2⟩⟩
      · refine Or.inr ⟨s', fun g hg => ?_, h2⟩
        by_cases e : g = j
        · subst e; exact h1
        · exact h g (by omega))
    19 0 s 1024 rfl (Nat.zero_le 19) (by decide) (fun g hg => absurd hg (Nat.not_lt_zero g))
theorem ti3 {nf x k dd : Nat} (hx : x < 6) (hk : k < 1) (v : Nat → Int32) : ∃ b, m_X2_isToldIn_k3 (nI k) (nI x) (nI dd) v (nI nf) = some (b2i b) ∧ (b = true ↔ Ek nf x k v dd) := by
  obtain rfl : k = 0 := by omega
  exact ⟨decide (knd x v ≤ 1), k3_eq hx _ v _, decide_eq_true_iff⟩
theorem tb2 {nf x q k dd : Nat} (hf : nf < 6) (hx : x < 6) (hq : q < 19) (hk : k < 1) (hd : dd < 102) (v w1 : Nat → Int32) : ∃ (b : Bool) (s' : (Nat → Int32)), m_X2_tellsBehind_k2 (nI q) (nI (k + 1)) (nI x) (nI dd) v w1 (nI nf) = some (b2i b, s') ∧ (b = true ↔ ∀ g, g < 3 → Ek nf x k (nar v q g (dd % 7)) (dd + 1)) := by
  unfold m_X2_tellsBehind_k2
  exact all_gen (fun n (s : (Nat → Int32)) j => L_X2_tellsBehind_k2_14 v (nI nf) (nI q) (nI (k + 1)) (nI x) (nI dd) n (nI j) s (fun (z1 : (Nat → Int32)) => some ((1 : Int32), z1))) (fun g => Ek nf x k (nar v q g (dd % 7)) (dd + 1))
    (fun n s => by (try dsimp only); rw [L_X2_tellsBehind_k2_14.eq_2, if_pos (by decide)])
    (by
      rintro n u1 j hj
      obtain ⟨y, n1, n2⟩ := w_narrow v u1 hq hj (wd := dd % 7) (by omega)
      have ec := Ek_cong nf x k (dd + 1) (v := y) (w := nar v q j (dd % 7)) n2
      obtain ⟨b, e, hb⟩ := ti3 (nf := nf) (dd := dd + 1) hx hk y
      try dsimp only
      rw [L_X2_tellsBehind_k2_14.eq_2, if_neg (show ¬ (3 : Int32) ≤ nI j by rw [q3_le _ (by omega)]; omega), rem7 (by omega), n1, bd1_some, nI_sub1 (by omega), Nat.add_sub_cancel, nI_1 dd, e, bd1_some]
      refine ⟨y, ?_⟩
      cases b
      · right
        rw [b2i_f, if_00]
        exact ⟨fun h => (by have := hb.mpr (ec.mpr h); cases this), rfl⟩
      · left
        rw [b2i_t, if_10, nm_eq, nI_1 j]
        exact ⟨ec.mp (hb.mp rfl), rfl⟩) w1
theorem lt2 {nf x k dd : Nat} (hf : nf < 6) (hx : x < 6) (hk : k < 1) (hd : dd < 102) (v w1 : Nat → Int32) : ∃ (s' : (Nat → Int32)), (∃ q, q < 19 ∧ Pq nf x k v dd q ∧ (∀ j, j < q → ¬ Pq nf x k v dd j) ∧ m_X2_leastThatTells_k2 (nI (k + 1)) (nI x) (nI dd) (nI nf) v w1 = some (nI q, s')) ∨ ((∀ j, j < 19 → ¬ Pq nf x k v dd j) ∧ m_X2_leastThatTells_k2 (nI (k + 1)) (nI x) (nI dd) (nI nf) v w1 = some (-9, s')) := by
  unfold m_X2_leastThatTells_k2
  exact least_gen (fun n (s : (Nat → Int32)) j => L_X2_leastThatTells_k2_3 (nI nf) v (nI (k + 1)) (nI x) (nI dd) n (nI j) s (fun (z1 : (Nat → Int32)) => some ((-9 : Int32), z1))) (fun q s => some (nI q, s)) (fun s => some (-9, s)) (Pq nf x k v dd)
    (fun n s => by (try dsimp only); rw [L_X2_leastThatTells_k2_3.eq_2, if_pos (by decide)])
    (by
      rintro n u1 j hj
      try dsimp only
      rw [L_X2_leastThatTells_k2_3.eq_2, if_neg (show ¬ (19 : Int32) ≤ nI j by rw [q19_le _ (by omega)]; omega)]
      rcases okq_any hf (q := j) (by omega) with ho | ⟨hno, e1, -⟩
      · obtain ⟨b, y1, e, hb⟩ := tb2 hf hx hj hk hd v u1
        refine ⟨y1, ?_⟩
        rw [ho.2.1, bd1_some, nm_eq, if_10, e, bd2_some]
        cases b
        · right
          rw [b2i_f, if_00]
          try dsimp only
          rw [nm_eq, nI_1 j]
          exact ⟨fun h => (by have := hb.mpr h.2; cases this), rfl⟩
        · left
          rw [b2i_t, if_10]
          exact ⟨⟨ho, hb.mp rfl⟩, rfl⟩
      · refine ⟨u1, Or.inr ?_⟩
        rw [e1, bd1_some, nm_eq, if_00]
        try dsimp only
        rw [nm_eq, nI_1 j]
        exact ⟨fun h => hno h.1, rfl⟩) w1
theorem ti2 {nf x k dd : Nat} (hf : nf < 6) (hx : x < 6) (hk : k < 2) (hd : dd < 102) (v w1 : Nat → Int32) : ∃ (b : Bool) (s' : (Nat → Int32)), m_X2_isToldIn_k2 (nI k) (nI x) (nI dd) v (nI nf) w1 = some (b2i b, s') ∧ (b = true ↔ Ek nf x k v dd) := by
  have hl := knd_le (x := x) v
  have h2 : 2 ^ k ≤ 8 := (by decide : ∀ k, k < 4 → 2 ^ k ≤ 8) k (by omega)
  unfold m_X2_isToldIn_k2
  rw [kl_eq hx, bd1_some]
  by_cases h : knd x v ≤ 1
  · rw [if_neg (show ¬ (1 : Int32) < nI (knd x v) by rw [q1_lt _ (by omega)]; omega)]
    exact ⟨true, w1, rfl, iff_of_true rfl (Ek_told k h)⟩
  · rw [if_pos (show (1 : Int32) < nI (knd x v) by rw [q1_lt _ (by omega)]; omega), one_shl k (by omega)]
    by_cases hp : knd x v ≤ 2 ^ k
    · rw [if_pos (show nI (knd x v) ≤ nI (2 ^ k) by rw [n_le _ _ (by omega) (by omega)]; exact hp)]
      rcases k with _ | k
      · exact absurd hp h
      · obtain ⟨y1, ⟨q, hq, hP, -, e⟩ | ⟨hn, e⟩⟩ := lt2 hf hx (k := k) (by omega) hd v w1
        · rw [e, bd2_some, if_neg (nI_ne9 (by omega))]
          exact ⟨true, y1, rfl, iff_of_true rfl (Or.inr ⟨q, hP⟩)⟩
        · rw [e, bd2_some, if_pos rfl]
          refine ⟨false, y1, rfl, iff_of_false (by decide) ?_⟩
          rintro (h' | ⟨q, hq⟩)
          · exact h h'
          · exact hn q hq.1.1 hq
    · rw [if_neg (show ¬ nI (knd x v) ≤ nI (2 ^ k) by rw [n_le _ _ (by omega) (by omega)]; exact hp)]
      exact ⟨false, w1, rfl, iff_of_false (by decide) (fun e => hp (Ek_bound nf x k v dd e))⟩
theorem tb1 {nf x q k dd : Nat} (hf : nf < 6) (hx : x < 6) (hq : q < 19) (hk : k < 2) (hd : dd < 101) (v w1 w2 : Nat → Int32) : ∃ (b : Bool) (s' : (Nat → Int32) × (Nat → Int32)), m_X2_tellsBehind_k1 (nI q) (nI (k + 1)) (nI x) (nI dd) v w1 (nI nf) w2 = some (b2i b, s') ∧ (b = true ↔ ∀ g, g < 3 → Ek nf x k (nar v q g (dd % 7)) (dd + 1)) := by
  unfold m_X2_tellsBehind_k1
  exact all_gen (fun n (s : (Nat → Int32) × (Nat → Int32)) j => L_X2_tellsBehind_k1_14 v (nI nf) (nI q) (nI (k + 1)) (nI x) (nI dd) n (nI j) s.1 s.2 (fun (z1 : (Nat → Int32)) (z2 : (Nat → Int32)) => some ((1 : Int32), z1, z2))) (fun g => Ek nf x k (nar v q g (dd % 7)) (dd + 1))
    (fun n s => by (try dsimp only); rw [L_X2_tellsBehind_k1_14.eq_2, if_pos (by decide)])
    (by
      rintro n ⟨u1, u2⟩ j hj
      obtain ⟨y, n1, n2⟩ := w_narrow v u1 hq hj (wd := dd % 7) (by omega)
      have ec := Ek_cong nf x k (dd + 1) (v := y) (w := nar v q j (dd % 7)) n2
      obtain ⟨b, y1, e, hb⟩ := ti2 (nf := nf) hf hx hk (dd := dd + 1) (by omega) y u2
      try dsimp only
      rw [L_X2_tellsBehind_k1_14.eq_2, if_neg (show ¬ (3 : Int32) ≤ nI j by rw [q3_le _ (by omega)]; omega), rem7 (by omega), n1, bd1_some, nI_sub1 (by omega), Nat.add_sub_cancel, nI_1 dd, e, bd2_some]
      refine ⟨(y, y1), ?_⟩
      cases b
      · right
        rw [b2i_f, if_00]
        exact ⟨fun h => (by have := hb.mpr (ec.mpr h); cases this), rfl⟩
      · left
        rw [b2i_t, if_10, nm_eq, nI_1 j]
        exact ⟨ec.mp (hb.mp rfl), rfl⟩) (w1, w2)
theorem lt1 {nf x k dd : Nat} (hf : nf < 6) (hx : x < 6) (hk : k < 2) (hd : dd < 101) (v w1 w2 : Nat → Int32) : ∃ (s' : (Nat → Int32) × (Nat → Int32)), (∃ q, q < 19 ∧ Pq nf x k v dd q ∧ (∀ j, j < q → ¬ Pq nf x k v dd j) ∧ m_X2_leastThatTells_k1 (nI (k + 1)) (nI x) (nI dd) (nI nf) v w1 w2 = some (nI q, s')) ∨ ((∀ j, j < 19 → ¬ Pq nf x k v dd j) ∧ m_X2_leastThatTells_k1 (nI (k + 1)) (nI x) (nI dd) (nI nf) v w1 w2 = some (-9, s')) := by
  unfold m_X2_leastThatTells_k1
  exact least_gen (fun n (s : (Nat → Int32) × (Nat → Int32)) j => L_X2_leastThatTells_k1_3 (nI nf) v (nI (k + 1)) (nI x) (nI dd) n (nI j) s.1 s.2 (fun (z1 : (Nat → Int32)) (z2 : (Nat → Int32)) => some ((-9 : Int32), z1, z2))) (fun q s => some (nI q, s)) (fun s => some (-9, s)) (Pq nf x k v dd)
    (fun n s => by (try dsimp only); rw [L_X2_leastThatTells_k1_3.eq_2, if_pos (by decide)])
    (by
      rintro n ⟨u1, u2⟩ j hj
      try dsimp only
      rw [L_X2_leastThatTells_k1_3.eq_2, if_neg (show ¬ (19 : Int32) ≤ nI j by rw [q19_le _ (by omega)]; omega)]
      rcases okq_any hf (q := j) (by omega) with ho | ⟨hno, e1, -⟩
      · obtain ⟨b, ⟨y1, y2⟩, e, hb⟩ := tb1 hf hx hj hk hd v u1 u2
        refine ⟨(y1, y2), ?_⟩
        rw [ho.2.1, bd1_some, nm_eq, if_10, e, bd3_some]
        cases b
        · right
          rw [b2i_f, if_00]
          try dsimp only
          rw [nm_eq, nI_1 j]
          exact ⟨fun h => (by have := hb.mpr h.2; cases this), rfl⟩
        · left
          rw [b2i_t, if_10]
          exact ⟨⟨ho, hb.mp rfl⟩, rfl⟩
      · refine ⟨(u1, u2), Or.inr ?_⟩
        rw [e1, bd1_some, nm_eq, if_00]
        try dsimp only
        rw [nm_eq, nI_1 j]
        exact ⟨fun h => hno h.1, rfl⟩) (w1, w2)
theorem ti1 {nf x k dd : Nat} (hf : nf < 6) (hx : x < 6) (hk : k < 3) (hd : dd < 101) (v w1 w2 : Nat → Int32) : ∃ (b : Bool) (s' : (Nat → Int32) × (Nat → Int32)), m_X2_isToldIn_k1 (nI k) (nI x) (nI dd) v (nI nf) w1 w2 = some (b2i b, s') ∧ (b = true ↔ Ek nf x k v dd) := by
  have hl := knd_le (x := x) v
  have h2 : 2 ^ k ≤ 8 := (by decide : ∀ k, k < 4 → 2 ^ k ≤ 8) k (by omega)
  unfold m_X2_isToldIn_k1
  rw [kl_eq hx, bd1_some]
  by_cases h : knd x v ≤ 1
  · rw [if_neg (show ¬ (1 : Int32) < nI (knd x v) by rw [q1_lt _ (by omega)]; omega)]
    exact ⟨true, (w1, w2), rfl, iff_of_true rfl (Ek_told k h)⟩
  · rw [if_pos (show (1 : Int32) < nI (knd x v) by rw [q1_lt _ (by omega)]; omega), one_shl k (by omega)]
    by_cases hp : knd x v ≤ 2 ^ k
    · rw [if_pos (show nI (knd x v) ≤ nI (2 ^ k) by rw [n_le _ _ (by omega) (by omega)]; exact hp)]
      rcases k with _ | k
      · exact absurd hp h
      · obtain ⟨⟨y1, y2⟩, ⟨q, hq, hP, -, e⟩ | ⟨hn, e⟩⟩ := lt1 hf hx (k := k) (by omega) hd v w1 w2
        · rw [e, bd3_some, if_neg (nI_ne9 (by omega))]
          exact ⟨true, (y1, y2), rfl, iff_of_true rfl (Or.inr ⟨q, hP⟩)⟩
        · rw [e, bd3_some, if_pos rfl]
          refine ⟨false, (y1, y2), rfl, iff_of_false (by decide) ?_⟩
          rintro (h' | ⟨q, hq⟩)
          · exact h h'
          · exact hn q hq.1.1 hq
    · rw [if_neg (show ¬ nI (knd x v) ≤ nI (2 ^ k) by rw [n_le _ _ (by omega) (by omega)]; exact hp)]
      exact ⟨false, (w1, w2), rfl, iff_of_false (by decide) (fun e => hp (Ek_bound nf x k v dd e))⟩
theorem tb0 {nf x q k dd : Nat} (hf : nf < 6) (hx : x < 6) (hq : q < 19) (hk : k < 3) (hd : dd < 100) (v w1 w2 w3 : Nat → Int32) : ∃ (b : Bool) (s' : (Nat → Int32) × (Nat → Int32) × (Nat → Int32)), m_X2_tellsBehind_k0 (nI q) (nI (k + 1)) (nI x) (nI dd) v w1 (nI nf) w2 w3 = some (b2i b, s') ∧ (b = true ↔ ∀ g, g < 3 → Ek nf x k (nar v q g (dd % 7)) (dd + 1)) := by
  unfold m_X2_tellsBehind_k0
  exact all_gen (fun n (s : (Nat → Int32) × (Nat → Int32) × (Nat → Int32)) j => L_X2_tellsBehind_k0_14 v (nI nf) (nI q) (nI (k + 1)) (nI x) (nI dd) n (nI j) s.1 s.2.1 s.2.2 (fun (z1 : (Nat → Int32)) (z2 : (Nat → Int32)) (z3 : (Nat → Int32)) => some ((1 : Int32), z1, z2, z3))) (fun g => Ek nf x k (nar v q g (dd % 7)) (dd + 1))
    (fun n s => by (try dsimp only); rw [L_X2_tellsBehind_k0_14.eq_2, if_pos (by decide)])
    (by
      rintro n ⟨u1, u2, u3⟩ j hj
      obtain ⟨y, n1, n2⟩ := w_narrow v u1 hq hj (wd := dd % 7) (by omega)
      have ec := Ek_cong nf x k (dd + 1) (v := y) (w := nar v q j (dd % 7)) n2
      obtain ⟨b, ⟨y1, y2⟩, e, hb⟩ := ti1 (nf := nf) hf hx hk (dd := dd + 1) (by omega) y u2 u3
      try dsimp only
      rw [L_X2_tellsBehind_k0_14.eq_2, if_neg (show ¬ (3 : Int32) ≤ nI j by rw [q3_le _ (by omega)]; omega), rem7 (by omega), n1, bd1_some, nI_sub1 (by omega), Nat.add_sub_cancel, nI_1 dd, e, bd3_some]
      refine ⟨(y, y1, y2), ?_⟩
      cases b
      · right
        rw [b2i_f, if_00]
        exact ⟨fun h => (by have := hb.mpr (ec.mpr h); cases this), rfl⟩
      · left
        rw [b2i_t, if_10, nm_eq, nI_1 j]
        exact ⟨ec.mp (hb.mp rfl), rfl⟩) (w1, w2, w3)
theorem lt0 {nf x k dd : Nat} (hf : nf < 6) (hx : x < 6) (hk : k < 3) (hd : dd < 100) (v w1 w2 w3 : Nat → Int32) : ∃ (s' : (Nat → Int32) × (Nat → Int32) × (Nat → Int32)), (∃ q, q < 19 ∧ Pq nf x k v dd q ∧ (∀ j, j < q → ¬ Pq nf x k v dd j) ∧ m_X2_leastThatTells_k0 (nI (k + 1)) (nI x) (nI dd) (nI nf) v w1 w2 w3 = some (nI q, s')) ∨ ((∀ j, j < 19 → ¬ Pq nf x k v dd j) ∧ m_X2_leastThatTells_k0 (nI (k + 1)) (nI x) (nI dd) (nI nf) v w1 w2 w3 = some (-9, s')) := by
  unfold m_X2_leastThatTells_k0
  exact least_gen (fun n (s : (Nat → Int32) × (Nat → Int32) × (Nat → Int32)) j => L_X2_leastThatTells_k0_3 (nI nf) v (nI (k + 1)) (nI x) (nI dd) n (nI j) s.1 s.2.1 s.2.2 (fun (z1 : (Nat → Int32)) (z2 : (Nat → Int32)) (z3 : (Nat → Int32)) => some ((-9 : Int32), z1, z2, z3))) (fun q s => some (nI q, s)) (fun s => some (-9, s)) (Pq nf x k v dd)
    (fun n s => by (try dsimp only); rw [L_X2_leastThatTells_k0_3.eq_2, if_pos (by decide)])
    (by
      rintro n ⟨u1, u2, u3⟩ j hj
      try dsimp only
      rw [L_X2_leastThatTells_k0_3.eq_2, if_neg (show ¬ (19 : Int32) ≤ nI j by rw [q19_le _ (by omega)]; omega)]
      rcases okq_any hf (q := j) (by omega) with ho | ⟨hno, e1, -⟩
      · obtain ⟨b, ⟨y1, y2, y3⟩, e, hb⟩ := tb0 hf hx hj hk hd v u1 u2 u3
        refine ⟨(y1, y2, y3), ?_⟩
        rw [ho.2.1, bd1_some, nm_eq, if_10, e, bd4_some]
        cases b
        · right
          rw [b2i_f, if_00]
          try dsimp only
          rw [nm_eq, nI_1 j]
          exact ⟨fun h => (by have := hb.mpr h.2; cases this), rfl⟩
        · left
          rw [b2i_t, if_10]
          exact ⟨⟨ho, hb.mp rfl⟩, rfl⟩
      · refine ⟨(u1, u2, u3), Or.inr ?_⟩
        rw [e1, bd1_some, nm_eq, if_00]
        try dsimp only
        rw [nm_eq, nI_1 j]
        exact ⟨fun h => hno h.1, rfl⟩) (w1, w2, w3)
theorem at3 {j : Nat} (hj : j < 3) : m_X10_answerAt (nI j) = some (aI9 j) := (by decide : ∀ j, j < 3 → m_X10_answerAt (nI j) = some (aI9 j)) j hj
theorem does_gen' {S : Type} (st : Nat → Int32) (L : Nat → Int32 → S → Nat → Option (Int32 × (Nat → Int32) × S)) (P : Nat → Prop) (hx : ∀ n b s, L (n + 1) (b2i b) s 3 = some (b2i b, st, s)) (h0 : ∀ n s j, j < 3 → L (n + 1) 0 s j = some (0, st, s)) (hs : ∀ n s j, j < 3 → ∃ b s', (b = true ↔ P j) ∧ L (n + 1) 1 s j = L n (b2i b) s' (j + 1)) (s : S) : ∃ b s', L 1024 1 s 0 = some (b2i b, st, s') ∧ (b = true ↔ ∀ g, g < 3 → P g) :=
  loop_r (fun n (s : Bool × S) j => L n (b2i s.1) s.2 j) 3 (fun j s => s.1 = true ↔ ∀ g, g < j → P g) (fun o => ∃ b s', o = some (b2i b, st, s') ∧ (b = true ↔ ∀ g, g < 3 → P g))
    (fun n s h => ⟨s.1, s.2, hx n s.1 s.2, h⟩)
    (by
      rintro n ⟨b, s⟩ j hj h
      dsimp only at h ⊢
      cases b
      · refine Or.inl ⟨false, s, h0 n s j hj, ⟨fun e => (by cases e), fun e => ?_⟩⟩
        exact h.mpr (fun g hg => e g (by omega))
      · obtain ⟨b, s', h1, h2⟩ := hs n s j hj
        refine Or.inr ⟨(b, s'), ?_, h2⟩
        try dsimp only
        rw [h1]
        constructor
        · intro hp g hg
          by_cases e : g = j
          · subst e; exact hp
          · exact h.mp rfl g (by omega)
        · intro e
          exact e j (by omega))
    3 0 (true, s) 1024 rfl (Nat.zero_le 3) (by decide) ⟨fun _ g hg => absurd hg (Nat.not_lt_zero g), fun _ => rfl⟩
theorem in_gen' {S : Type} (st : Nat → Int32) (L : Nat → Int32 → S → Nat → Option (Int32 × (Nat → Int32) × S)) (P : Nat → Prop) (hx : ∀ n b s, L (n + 1) (b2i b) s 19 = some (b2i b, st, s)) (h0 : ∀ n s j, j < 19 → L (n + 1) 1 s j = some (1, st, s)) (hs : ∀ n s j, j < 19 → ∃ b s', (b = true ↔ P j) ∧ L (n + 1) 0 s j = L n (b2i b) s' (j + 1)) (b0 : Bool) (s : S) : ∃ b s', L 1024 (b2i b0) s 0 = some (b2i b, st, s') ∧ (b = true ↔ b0 = true ∨ ∃ q, q < 19 ∧ P q) :=
  loop_r (fun n (s : Bool × S) j => L n (b2i s.1) s.2 j) 19 (fun j s => s.1 = true ↔ (b0 = true ∨ ∃ q, q < j ∧ P q)) (fun o => ∃ b s', o = some (b2i b, st, s') ∧ (b = true ↔ b0 = true ∨ ∃ q, q < 19 ∧ P q))
    (fun n s h => ⟨s.1, s.2, hx n s.1 s.2, h⟩)
    (by
      rintro n ⟨b, s⟩ j hj h
      dsimp only at h ⊢
      cases b
      · obtain ⟨b, s', h1, h2⟩ := hs n s j hj
        refine Or.inr ⟨(b, s'), ?_, h2⟩
        try dsimp only
        rw [h1]
        constructor
        · intro hp
          exact Or.inr ⟨j, by omega, hp⟩
        · rintro (e | ⟨q, hq, hp⟩)
          · have := h.mpr (Or.inl e); cases this
          · by_cases e : q = j
            · subst e; exact hp
            · have := h.mpr (Or.inr ⟨q, by omega, hp⟩); cases this
      · refine Or.inl ⟨true, s, h0 n s j hj, ⟨fun _ => ?_, fun _ => rfl⟩⟩
        rcases h.mp rfl with e | ⟨q, hq, hp⟩
        · exact Or.inl e
        · exact Or.inr ⟨q, by omega, hp⟩)
    19 0 (b0, s) 1024 rfl (Nat.zero_le 19) (by decide) ⟨fun e => Or.inl e, fun e => by
      rcases e with e | ⟨q, hq, -⟩
      · exact e
      · exact absurd hq (Nat.not_lt_zero q)⟩
theorem doesOne {q : Nat} (hq : q < 19) {nf x dd N : Nat} (hf : nf < 6) (hx : x < 6) (hd : dd < 102) (hN : 7 ≤ N) {ye no fo : Nat → Int32} (hT : TabOK nf ye no) (hF : FacOK fo) (qz : Int32) (v zs st : Nat → Int32) (hv : ∀ i, i < 7 → sub nf (v i)) (w1 : Nat → Int32) : ∃ (b : Bool) (s' : (Nat → Int32)), m_X10_doesOne (nI q) (nI dd) (nI x) N qz (nI nf) v zs st ye no w1 fo = some (b2i b, st, s') ∧ (b = true ↔ ∀ g, g < 3 → Ek nf x 0 (nar v q g (dd % 7)) (dd + 1)) := by
  unfold m_X10_doesOne
  exact does_gen' st (fun n x1 (s : (Nat → Int32)) j => L_X10_doesOne_6 qz (nI nf) v zs ye no fo (nI q) (nI dd) (nI x) N n x1 (nI j) st s (fun (x7 : Int32) (z0 : (Nat → Int32)) (z1 : (Nat → Int32)) => gd (zB x7) (some (x7, z0, z1)))) (fun g => Ek nf x 0 (nar v q g (dd % 7)) (dd + 1))
    (fun n b s => by (try dsimp only); rw [L_X10_doesOne_6.eq_2, if_pos (by decide), zB_b2i, gd_t])
    (fun n s j hj => by (try dsimp only); rw [L_X10_doesOne_6.eq_2, if_neg (show ¬ (3 : Int32) ≤ nI j by rw [q3_le _ (by omega)]; omega), if_00, show zB 0 = true from rfl, gd_t])
    (by
      rintro n u1 j hj
      obtain ⟨y, n1, n2⟩ := p_simple hq hj (dd := dd) (by omega) hT v u1 zs st hv qz (nI nf) hN (M := 7) (by decide)
      have ec := Ek_cong nf x 0 (dd + 1) (v := y) (w := nar v q j (dd % 7)) n2
      have hi := it_eq hx (N := 7) (by decide) y fo hF
      refine ⟨decide (knd x y ≤ 1), y, ?_, ?_⟩
      · try dsimp only
        rw [decide_eq_true_iff]
        exact ec
      · try dsimp only
        rw [L_X10_doesOne_6.eq_2, if_neg (show ¬ (3 : Int32) ≤ nI j by rw [q3_le _ (by omega)]; omega), if_10, at3 hj, bd1_some, n1, bd2_some, hi, bd1_some, nm_eq, nI_1 j]) w1
theorem inOne {nf x dd N : Nat} (hf : nf < 6) (hx : x < 6) (hd : dd < 102) (hN : 7 ≤ N) {ye no fo : Nat → Int32} (hT : TabOK nf ye no) (hF : FacOK fo) (qz : Int32) (v zs st : Nat → Int32) (hv : ∀ i, i < 7 → sub nf (v i)) (w1 : Nat → Int32) : ∃ (b : Bool) (s' : (Nat → Int32)), m_X10_inOne (nI dd) (nI x) N qz (nI nf) v fo zs st ye no w1 = some (b2i b, st, s') ∧ (b = true ↔ Ek nf x 1 v dd) := by
  unfold m_X10_inOne
  rw [it_eq hx hN v fo hF, bd1_some]
  obtain ⟨b, s', h1, h2⟩ := in_gen' st (fun n x1 (s : (Nat → Int32)) j => L_X10_inOne_11 qz (nI nf) v fo zs ye no (nI dd) (nI x) N n x1 (nI j) st s (fun (x7 : Int32) (z0 : (Nat → Int32)) (z1 : (Nat → Int32)) => gd (zB x7) (some (x7, z0, z1)))) (Pq nf x 0 v dd)
    (fun n b s => by (try dsimp only); rw [L_X10_inOne_11.eq_2, if_pos (by decide), zB_b2i, gd_t])
    (fun n s j hj => by (try dsimp only); rw [L_X10_inOne_11.eq_2, if_neg (show ¬ (19 : Int32) ≤ nI j by rw [q19_le _ (by omega)]; omega), if_10, show zB 1 = true from rfl, gd_t])
    (by
      rintro n u1 j hj
      try dsimp only
      rw [L_X10_inOne_11.eq_2, if_neg (show ¬ (19 : Int32) ≤ nI j by rw [q19_le _ (by omega)]; omega), if_00]
      rcases okq_any hf (q := j) (by omega) with ho | ⟨hno, -, e1⟩
      · obtain ⟨b, y1, e, hb⟩ := doesOne hj hf hx hd hN hT hF qz v zs st hv u1
        refine ⟨b, y1, ⟨fun h => ⟨ho, hb.mp h⟩, fun h => hb.mpr h.2⟩, ?_⟩
        rw [ho.2.2, bd1_some, nm_eq, nm_eq, if_00, e, bd3_some]
        cases b
        · rw [b2i_f, if_00]
          try dsimp only
          rw [nm_eq, nI_1 j]
        · rw [b2i_t, if_10]
          try dsimp only
          rw [nm_eq, nI_1 j]
      · refine ⟨false, u1, ⟨fun h => (by cases h), fun h => absurd h.1 hno⟩, ?_⟩
        rw [e1, bd1_some, nm_eq, nm_eq, if_10]
        try dsimp only
        rw [nm_eq, nI_1 j, b2i_f]) (decide (knd x v ≤ 1)) w1
  refine ⟨b, s', h1, h2.trans ?_⟩
  show _ ↔ (knd x v ≤ 1 ∨ ∃ q, Pq nf x 0 v dd q)
  rw [decide_eq_true_iff]
  exact or_congr Iff.rfl ⟨fun ⟨q, _, h⟩ => ⟨q, h⟩, fun ⟨q, h⟩ => ⟨q, h.1.1, h⟩⟩
theorem doesTwo {q : Nat} (hq : q < 19) {nf x dd N : Nat} (hf : nf < 6) (hx : x < 6) (hd : dd < 101) (hN : 7 ≤ N) {ye no fo : Nat → Int32} (hT : TabOK nf ye no) (hF : FacOK fo) (qz : Int32) (v zs st : Nat → Int32) (hv : ∀ i, i < 7 → sub nf (v i)) (w1 w2 : Nat → Int32) : ∃ (b : Bool) (s' : (Nat → Int32) × (Nat → Int32)), m_X10_doesTwo (nI q) (nI dd) (nI x) N qz (nI nf) v zs st ye no w1 fo w2 = some (b2i b, st, s') ∧ (b = true ↔ ∀ g, g < 3 → Ek nf x 1 (nar v q g (dd % 7)) (dd + 1)) := by
  unfold m_X10_doesTwo
  exact does_gen' st (fun n x1 (s : (Nat → Int32) × (Nat → Int32)) j => L_X10_doesTwo_6 qz (nI nf) v zs ye no fo (nI q) (nI dd) (nI x) N n x1 (nI j) st s.1 s.2 (fun (x7 : Int32) (z0 : (Nat → Int32)) (z1 : (Nat → Int32)) (z2 : (Nat → Int32)) => gd (zB x7) (some (x7, z0, z1, z2)))) (fun g => Ek nf x 1 (nar v q g (dd % 7)) (dd + 1))
    (fun n b s => by (try dsimp only); rw [L_X10_doesTwo_6.eq_2, if_pos (by decide), zB_b2i, gd_t])
    (fun n s j hj => by (try dsimp only); rw [L_X10_doesTwo_6.eq_2, if_neg (show ¬ (3 : Int32) ≤ nI j by rw [q3_le _ (by omega)]; omega), if_00, show zB 0 = true from rfl, gd_t])
    (by
      rintro n ⟨u1, u2⟩ j hj
      obtain ⟨y, n1, n2⟩ := p_simple hq hj (dd := dd) (by omega) hT v u1 zs st hv qz (nI nf) hN (M := 7) (by decide)
      have ec := Ek_cong nf x 1 (dd + 1) (v := y) (w := nar v q j (dd % 7)) n2
      obtain ⟨b, y1, hi, hb⟩ := inOne hf hx (dd := dd + 1) (by omega) (N := 7) (by decide) hT hF qz y zs st (fun i hi => by rw [n2 i hi]; exact sub_and (hv i hi) _) u2
      refine ⟨b, (y, y1), hb.trans ec, ?_⟩
      · try dsimp only
        rw [L_X10_doesTwo_6.eq_2, if_neg (show ¬ (3 : Int32) ≤ nI j by rw [q3_le _ (by omega)]; omega), if_10, at3 hj, bd1_some, n1, bd2_some, nI_1 dd, hi, bd3_some, nm_eq, nI_1 j]) (w1, w2)
theorem inTwo {nf x dd N : Nat} (hf : nf < 6) (hx : x < 6) (hd : dd < 101) (hN : 7 ≤ N) {ye no fo : Nat → Int32} (hT : TabOK nf ye no) (hF : FacOK fo) (qz : Int32) (v zs st : Nat → Int32) (hv : ∀ i, i < 7 → sub nf (v i)) (w1 w2 : Nat → Int32) : ∃ (b : Bool) (s' : (Nat → Int32) × (Nat → Int32)), m_X10_inTwo (nI dd) (nI x) N qz (nI nf) v fo zs st ye no w1 w2 = some (b2i b, st, s') ∧ (b = true ↔ Ek nf x 2 v dd) := by
  unfold m_X10_inTwo
  rw [it_eq hx hN v fo hF, bd1_some]
  obtain ⟨b, s', h1, h2⟩ := in_gen' st (fun n x1 (s : (Nat → Int32) × (Nat → Int32)) j => L_X10_inTwo_11 qz (nI nf) v fo zs ye no (nI dd) (nI x) N n x1 (nI j) st s.1 s.2 (fun (x7 : Int32) (z0 : (Nat → Int32)) (z1 : (Nat → Int32)) (z2 : (Nat → Int32)) => gd (zB x7) (some (x7, z0, z1, z2)))) (Pq nf x 1 v dd)
    (fun n b s => by (try dsimp only); rw [L_X10_inTwo_11.eq_2, if_pos (by decide), zB_b2i, gd_t])
    (fun n s j hj => by (try dsimp only); rw [L_X10_inTwo_11.eq_2, if_neg (show ¬ (19 : Int32) ≤ nI j by rw [q19_le _ (by omega)]; omega), if_10, show zB 1 = true from rfl, gd_t])
    (by
      rintro n ⟨u1, u2⟩ j hj
      try dsimp only
      rw [L_X10_inTwo_11.eq_2, if_neg (show ¬ (19 : Int32) ≤ nI j by rw [q19_le _ (by omega)]; omega), if_00]
      rcases okq_any hf (q := j) (by omega) with ho | ⟨hno, -, e1⟩
      · obtain ⟨b, ⟨y1, y2⟩, e, hb⟩ := doesTwo hj hf hx hd hN hT hF qz v zs st hv u1 u2
        refine ⟨b, (y1, y2), ⟨fun h => ⟨ho, hb.mp h⟩, fun h => hb.mpr h.2⟩, ?_⟩
        rw [ho.2.2, bd1_some, nm_eq, nm_eq, if_00, e, bd4_some]
        cases b
        · rw [b2i_f, if_00]
          try dsimp only
          rw [nm_eq, nI_1 j]
        · rw [b2i_t, if_10]
          try dsimp only
          rw [nm_eq, nI_1 j]
      · refine ⟨false, (u1, u2), ⟨fun h => (by cases h), fun h => absurd h.1 hno⟩, ?_⟩
        rw [e1, bd1_some, nm_eq, nm_eq, if_10]
        try dsimp only
        rw [nm_eq, nI_1 j, b2i_f]) (decide (knd x v ≤ 1)) (w1, w2)
  refine ⟨b, s', h1, h2.trans ?_⟩
  show _ ↔ (knd x v ≤ 1 ∨ ∃ q, Pq nf x 1 v dd q)
  rw [decide_eq_true_iff]
  exact or_congr Iff.rfl ⟨fun ⟨q, _, h⟩ => ⟨q, h⟩, fun ⟨q, h⟩ => ⟨q, h.1.1, h⟩⟩
theorem doesThree {q : Nat} (hq : q < 19) {nf x dd N : Nat} (hf : nf < 6) (hx : x < 6) (hd : dd < 100) (hN : 7 ≤ N) {ye no fo : Nat → Int32} (hT : TabOK nf ye no) (hF : FacOK fo) (qz : Int32) (v zs st : Nat → Int32) (hv : ∀ i, i < 7 → sub nf (v i)) (w1 w2 w3 : Nat → Int32) : ∃ (b : Bool) (s' : (Nat → Int32) × (Nat → Int32) × (Nat → Int32)), m_X10_doesThree (nI q) (nI dd) (nI x) N qz (nI nf) v zs st ye no w1 fo w2 w3 = some (b2i b, st, s') ∧ (b = true ↔ ∀ g, g < 3 → Ek nf x 2 (nar v q g (dd % 7)) (dd + 1)) := by
  unfold m_X10_doesThree
  exact does_gen' st (fun n x1 (s : (Nat → Int32) × (Nat → Int32) × (Nat → Int32)) j => L_X10_doesThree_6 qz (nI nf) v zs ye no fo (nI q) (nI dd) (nI x) N n x1 (nI j) st s.1 s.2.1 s.2.2 (fun (x7 : Int32) (z0 : (Nat → Int32)) (z1 : (Nat → Int32)) (z2 : (Nat → Int32)) (z3 : (Nat → Int32)) => gd (zB x7) (some (x7, z0, z1, z2, z3)))) (fun g => Ek nf x 2 (nar v q g (dd % 7)) (dd + 1))
    (fun n b s => by (try dsimp only); rw [L_X10_doesThree_6.eq_2, if_pos (by decide), zB_b2i, gd_t])
    (fun n s j hj => by (try dsimp only); rw [L_X10_doesThree_6.eq_2, if_neg (show ¬ (3 : Int32) ≤ nI j by rw [q3_le _ (by omega)]; omega), if_00, show zB 0 = true from rfl, gd_t])
    (by
      rintro n ⟨u1, u2, u3⟩ j hj
      obtain ⟨y, n1, n2⟩ := p_simple hq hj (dd := dd) (by omega) hT v u1 zs st hv qz (nI nf) hN (M := 7) (by decide)
      have ec := Ek_cong nf x 2 (dd + 1) (v := y) (w := nar v q j (dd % 7)) n2
      obtain ⟨b, ⟨y1, y2⟩, hi, hb⟩ := inTwo hf hx (dd := dd + 1) (by omega) (N := 7) (by decide) hT hF qz y zs st (fun i hi => by rw [n2 i hi]; exact sub_and (hv i hi) _) u2 u3
      refine ⟨b, (y, y1, y2), hb.trans ec, ?_⟩
      · try dsimp only
        rw [L_X10_doesThree_6.eq_2, if_neg (show ¬ (3 : Int32) ≤ nI j by rw [q3_le _ (by omega)]; omega), if_10, at3 hj, bd1_some, n1, bd2_some, nI_1 dd, hi, bd4_some, nm_eq, nI_1 j]) (w1, w2, w3)
