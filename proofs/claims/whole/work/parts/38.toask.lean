/-- two loops side by side -/
theorem loop_2 {σ τ α β : Type} (L : Nat → σ → Nat → α) (L' : Nat → τ → Nat → β) (N : Nat) (P : Nat → σ → τ → Prop) (Q : α → β → Prop) (hx : ∀ n m s t, P N s t → Q (L (n + 1) s N) (L' (m + 1) t N)) (hs : ∀ n s t j, j < N → P j s t → Q (L (n + 1) s j) (L' (n + 1) t j) ∨ ∃ s' t', P (j + 1) s' t' ∧ L (n + 1) s j = L n s' (j + 1) ∧ L' (n + 1) t j = L' n t' (j + 1)) {s : σ} {t : τ} {f : Nat} (hf : N < f) (h : P 0 s t) : Q (L f s 0) (L' f t 0) :=
  loop_r (fun n (s : σ × τ) j => (L n s.1 j, L' n s.2 j)) N (fun j s => P j s.1 s.2) (fun r => Q r.1 r.2) (fun n s h => hx n n s.1 s.2 h) (fun n s j hj hp => by
    rcases hs n s.1 s.2 j hj hp with h | ⟨s', t', h1, h2, h3⟩
    · exact Or.inl h
    · refine Or.inr ⟨(s', t'), h1, ?_⟩
      show (L (n + 1) s.1 j, L' (n + 1) s.2 j) = _
      rw [h2, h3]) N 0 (s, t) f rfl (Nat.zero_le N) hf h
def cnt (v : Nat → Int32) (q g wd : Nat) : Nat := fb_sm (fun i => pcn (v i &&& CA q g wd i)) 7
theorem cnt_le (v : Nat → Int32) (q g wd : Nat) : cnt v q g wd ≤ 224 := sm7_le (fun i => v i &&& CA q g wd i) 7
theorem cnt_cong {v w : Nat → Int32} (h : ∀ i, i < 7 → v i = w i) (q g wd : Nat) : cnt v q g wd = cnt w q g wd := sm_cong (f := fun i => v i &&& CA q g wd i) (g := fun i => w i &&& CA q g wd i) (fun i hi => by rw [h i hi])
def mxw (v : Nat → Int32) (q wd : Nat) : Nat → Nat
  | 0 => 0
  | g + 1 => if mxw v q wd g < cnt v q g wd then cnt v q g wd else mxw v q wd g
theorem mxw_le (v : Nat → Int32) (q wd : Nat) : ∀ g, mxw v q wd g ≤ 224
  | 0 => Nat.zero_le _
  | g + 1 => by
    unfold mxw
    split
    · exact cnt_le _ _ _ _
    · exact mxw_le v q wd g
theorem mxw_cong {v w : Nat → Int32} (h : ∀ i, i < 7 → v i = w i) (q wd : Nat) : ∀ g, mxw v q wd g = mxw w q wd g
  | 0 => rfl
  | g + 1 => by
    unfold mxw
    rw [cnt_cong h, mxw_cong h q wd g]
theorem lawst {q d : Nat} (hq : q < 19) (hd : d < 28) (kn : Nat → Int32) : m_X9_leftAtWorst (nI q) (nI d) kn = some (nI (mxw kn q (d % 7) 3)) := by
  unfold m_X9_leftAtWorst
  obtain ⟨s, h1, h2⟩ := loop_u (fun n (s : Int32) j => L_X9_leftAtWorst_4 (nI d) kn (nI q) n s (nI j) (fun x4 => some x4)) (fun s => some s) 3 (fun j s => s = nI (mxw kn q (d % 7) j))
    (by
      intro n s h
      rw [L_X9_leftAtWorst_4.eq_2, if_pos (by decide)])
    (by
      intro n s j hj h
      refine ⟨nI (mxw kn q (d % 7) (j + 1)), rfl, ?_⟩
      have a1 := mxw_le kn q (d % 7) j
      have a2 := cnt_le kn q j (d % 7)
      rw [L_X9_leftAtWorst_4.eq_2, if_neg (show ¬ (3 : Int32) ≤ nI j by rw [q3_le _ (by omega)]; omega), wd_eq (by omega), bd1_some, w_ca kn hq hj (by omega), bd1_some, nm_eq, nm_eq, nI_1, h]
      show L_X9_leftAtWorst_4 (nI d) kn (nI q) n (if nI (mxw kn q (d % 7) j) < nI (cnt kn q j (d % 7)) then nI (cnt kn q j (d % 7)) else nI (mxw kn q (d % 7) j)) (nI (j + 1)) _ = _
      rw [show mxw kn q (d % 7) (j + 1) = if mxw kn q (d % 7) j < cnt kn q j (d % 7) then cnt kn q j (d % 7) else mxw kn q (d % 7) j from rfl]
      by_cases hc : mxw kn q (d % 7) j < cnt kn q j (d % 7)
      · rw [if_pos hc, if_pos (show nI (mxw kn q (d % 7) j) < nI (cnt kn q j (d % 7)) by rw [n_lt _ _ (by omega) (by omega)]; exact hc)]
      · rw [if_neg hc, if_neg (show ¬ nI (mxw kn q (d % 7) j) < nI (cnt kn q j (d % 7)) by rw [n_lt _ _ (by omega) (by omega)]; exact hc)])
    (j := 0) (s := 0) (fuel := 1024) (by decide) (by decide) rfl
  rw [← h1]
  exact h2
theorem ta32 {nf so q : Nat} (hq : q < 19) {ye no : Nat → Int32} (hT : TabOK nf ye no) {M : Nat → Int32} (hM : MomP nf so M) {d : Nat} (hd : d < 28) (h7 : M 7 = nI d) {pg : Nat → Int32} (hp : ∀ i, i < 12 → pg i = M i) (zq zf : Int32) (zs st on : Nat → Int32) (K : Int32 → (Nat → Int32) → (Nat → Int32) → Option (Int32 × Int32 × (Nat → Int32) × (Nat → Int32))) :
    ∃ on', L_X10_toAsk_32 zq zf pg zs ye no (nI q) 1024 0 0 st on K = K (nI (mxw M q (d % 7) 3)) st on' := by
  obtain ⟨⟨s1, s2⟩, h1, h2⟩ := loop_u (fun n (s : Int32 × (Nat → Int32)) j => L_X10_toAsk_32 zq zf pg zs ye no (nI q) n s.1 (nI j) st s.2 K) (fun s => K s.1 st s.2) 3 (fun j s => s.1 = nI (mxw M q (d % 7) j))
    (by
      intro n s h
      rw [L_X10_toAsk_32.eq_2, if_pos (by decide)])
    (by
      rintro n ⟨s1, s2⟩ j hj h
      dsimp only at h
      obtain ⟨w2, e3⟩ := pms hq hT hM hd h7 hp hj zq zf zs st s2
      refine ⟨(nI (mxw M q (d % 7) (j + 1)), w2), rfl, ?_⟩
      have a1 := mxw_le M q (d % 7) j
      have a2 := cnt_le M q j (d % 7)
      dsimp only
      rw [L_X10_toAsk_32.eq_2, if_neg (show ¬ (3 : Int32) ≤ nI j by rw [q3_le _ (by omega)]; omega), e3, bd3_some, nm_ite, nm_eq, nI_1, h]
      show L_X10_toAsk_32 zq zf pg zs ye no (nI q) n (if nI (cnt M q j (d % 7)) ≤ nI (mxw M q (d % 7) j) then nI (mxw M q (d % 7) j) else nI (cnt M q j (d % 7))) (nI (j + 1)) st w2 K = _
      rw [show mxw M q (d % 7) (j + 1) = if mxw M q (d % 7) j < cnt M q j (d % 7) then cnt M q j (d % 7) else mxw M q (d % 7) j from rfl]
      by_cases hc : mxw M q (d % 7) j < cnt M q j (d % 7)
      · rw [if_pos hc, if_neg (show ¬ nI (cnt M q j (d % 7)) ≤ nI (mxw M q (d % 7) j) by rw [n_le _ _ (by omega) (by omega)]; omega)]
      · rw [if_neg hc, if_pos (show nI (cnt M q j (d % 7)) ≤ nI (mxw M q (d % 7) j) by rw [n_le _ _ (by omega) (by omega)]; omega)])
    (j := 0) (s := (0, on)) (fuel := 1024) (by decide) (by decide) rfl
  dsimp only at h1 h2
  refine ⟨s2, ?_⟩
  rw [← h1]
  exact h2
theorem op_toAsk {nf so : Nat} (hf : nf < 6) {ye no : Nat → Int32} (hT : TabOK nf ye no) {d t a c k : Int32} {kn pg : Nat → Int32} (h : RNow nf so d t a c k kn pg) (th qz : Int32) (qu st on : Nat → Int32) :
    ∃ r on', m_X9_toAsk (nI nf) d kn = some r ∧ m_X10_toAsk th qz (nI nf) pg qu st ye no on = some (r, 0, st, on') := by
  obtain ⟨M, hM, rfl, rfl, rfl, rfl, rfl, hk, hp⟩ := h
  have hM2 := hM
  obtain ⟨⟨d, t, a, c, k, h7, h8, h9, h10, h11, b1, b2, b3, b4, b5, b6⟩, hsub⟩ := hM2
  unfold m_X9_toAsk m_X10_toAsk
  rw [h7]
  exact loop_2 (fun n (s : Int32 × Int32) j => L_X9_toAsk_7 (nI nf) (nI d) kn n s.1 s.2 (nI j) (fun (x4 : Int32) => some x4))
    (fun n (s : Int32 × Int32 × (Nat → Int32)) j => L_X10_toAsk_12 qz (nI nf) pg qu ye no n s.1 s.2.1 (nI j) st s.2.2 (fun (x6 : Int32) (w7 : (Nat → Int32)) (w8 : (Nat → Int32)) => some (x6, (0 : Int32), w7, w8)))
    19 (fun j s t => s.1 = t.1 ∧ s.2 = t.2.1) (fun x y => ∃ r on', x = some r ∧ y = some (r, 0, st, on'))
    (by
      rintro n m ⟨s1, s2⟩ ⟨t1, t2, t3⟩ ⟨e1, e2⟩
      dsimp only at e1 e2 ⊢
      rw [L_X9_toAsk_7.eq_2, L_X10_toAsk_12.eq_2, if_pos (show (19 : Int32) ≤ nI 19 by decide), if_pos (show (19 : Int32) ≤ nI 19 by decide), e1]
      exact ⟨_, _, rfl, rfl⟩)
    (by
      rintro n ⟨s1, s2⟩ ⟨t1, t2, t3⟩ j hj ⟨e1, e2⟩
      dsimp only at e1 e2 ⊢
      subst e1 e2
      have hlt : ¬ (19 : Int32) ≤ nI j := by rw [q19_le _ (by omega)]; omega
      refine Or.inr ?_
      rw [L_X9_toAsk_7.eq_2, L_X10_toAsk_12.eq_2, if_neg hlt, if_neg hlt]
      rcases hs_any (nI j) hf with ⟨q, hq, -, -, e1, e2⟩ | ⟨e1, e2⟩
      · obtain ⟨on', u1⟩ := ta32 hj hT hM b1 h7 hp qz (nI nf) qu st t3 (fun (x22 : Int32) (w23 : (Nat → Int32)) (w24 : (Nat → Int32)) => nm ((fun (x12 : Int32) (x13 : Int32) (w14 : (Nat → Int32)) (w15 : (Nat → Int32)) => nm (nI j + (1 : Int32)) (fun (x16 : Int32) => L_X10_toAsk_12 qz (nI nf) pg qu ye no n x12 x13 x16 w14 w15 (fun (x6 : Int32) (w7 : (Nat → Int32)) (w8 : (Nat → Int32)) => some (x6, (0 : Int32), w7, w8)))) (nI j) x22 w23 w24) (fun (k81 : Option (Int32 × Int32 × (Nat → Int32) × (Nat → Int32))) => if s1 = (-9 : Int32) then k81 else if s2 ≤ x22 then (fun (x12 : Int32) (x13 : Int32) (w14 : (Nat → Int32)) (w15 : (Nat → Int32)) => nm (nI j + (1 : Int32)) (fun (x16 : Int32) => L_X10_toAsk_12 qz (nI nf) pg qu ye no n x12 x13 x16 w14 w15 (fun (x6 : Int32) (w7 : (Nat → Int32)) (w8 : (Nat → Int32)) => some (x6, (0 : Int32), w7, w8)))) s1 s2 w23 w24 else k81))
        rw [e1, e2, bd1_some, bd1_some, nm_eq, nm_eq, if_10, if_00, lawst hj b1, bd1_some, u1, nm_eq, nm_eq, mxw_cong hk]
        dsimp only
        rw [nm_eq, nm_eq, nm_eq, nm_eq, nI_1]
        by_cases c9 : s1 = -9
        · rw [if_pos c9, if_pos c9]
          exact ⟨(_, _), (_, _, _), ⟨rfl, rfl⟩, rfl, rfl⟩
        · rw [if_neg c9, if_neg c9]
          by_cases cl : s2 ≤ nI (mxw M j (d % 7) 3)
          · rw [if_pos cl, if_pos cl]
            exact ⟨(_, _), (_, _, _), ⟨rfl, rfl⟩, rfl, rfl⟩
          · rw [if_neg cl, if_neg cl]
            exact ⟨(_, _), (_, _, _), ⟨rfl, rfl⟩, rfl, rfl⟩
      · rw [e1, e2, bd1_some, bd1_some, nm_eq, nm_eq, if_10, if_00]
        dsimp only
        rw [nm_eq, nm_eq, nI_1]
        exact ⟨(_, _), (_, _, _), ⟨rfl, rfl⟩, rfl, rfl⟩)
    (s := (-9, 0)) (t := (-9, 0, on)) (f := 1024) (by decide) ⟨rfl, rfl⟩
theorem op_dumb {nf so : Nat} (hf : nf < 6) {ye no : Nat → Int32} (hT : TabOK nf ye no) {d t a c k : Int32} {kn pg : Nat → Int32} (h : RNow nf so d t a c k kn pg) (th qz : Int32) (qu st on : Nat → Int32) :
    ∃ r on', m_X9_dumb (nI nf) d kn = some r ∧ m_X10_dumb th qz (nI nf) pg qu st ye no on = some (r, 0, st, on') := by
  obtain ⟨M, hM, rfl, rfl, rfl, rfl, rfl, hk, hp⟩ := h
  have hM2 := hM
  obtain ⟨⟨d, t, a, c, k, h7, h8, h9, h10, h11, b1, b2, b3, b4, b5, b6⟩, hsub⟩ := hM2
  unfold m_X9_dumb m_X10_dumb
  rw [h7]
  exact loop_2 (fun n (s : Int32) j => L_X9_dumb_4 (nI nf) (nI d) kn n s (nI j) (fun (x4 : Int32) => some x4))
    (fun n (s : Int32 × (Nat → Int32)) j => L_X10_dumb_9 qz (nI nf) pg qu ye no n s.1 (nI j) st s.2 (fun (x6 : Int32) (w7 : (Nat → Int32)) (w8 : (Nat → Int32)) => some (x6, (0 : Int32), w7, w8)))
    19 (fun j s t => s = t.1) (fun x y => ∃ r on', x = some r ∧ y = some (r, 0, st, on'))
    (by
      rintro n m s1 ⟨t1, t3⟩ e1
      dsimp only at e1 ⊢
      rw [L_X9_dumb_4.eq_2, L_X10_dumb_9.eq_2, if_pos (show (19 : Int32) ≤ nI 19 by decide), if_pos (show (19 : Int32) ≤ nI 19 by decide), e1]
      exact ⟨_, _, rfl, rfl⟩)
    (by
      rintro n s1 ⟨t1, t3⟩ j hj e1
      dsimp only at e1 ⊢
      subst e1
      have hlt : ¬ (19 : Int32) ≤ nI j := by rw [q19_le _ (by omega)]; omega
      refine Or.inr ?_
      rw [L_X9_dumb_4.eq_2, L_X10_dumb_9.eq_2, if_neg hlt, if_neg hlt]
      rcases hs_any (nI j) hf with ⟨q, hq, -, -, e1, e2⟩ | ⟨e1, e2⟩
      · obtain ⟨w2, e3⟩ := pms hj hT hM b1 h7 hp (g := 2) (by decide) qz (nI nf) qu st t3
        rw [show nI 2 = 2 from rfl] at e3
        have ec := w_ca kn hj (g := 2) (by decide) (show d % 7 < 7 by omega)
        rw [show nI 2 = 2 from rfl] at ec
        have hcc : fb_sm (fun i => pcn (M i &&& CA j 2 (d % 7) i)) 7 = fb_sm (fun i => pcn (kn i &&& CA j 2 (d % 7) i)) 7 := sm_cong (f := fun i => M i &&& CA j 2 (d % 7) i) (g := fun i => kn i &&& CA j 2 (d % 7) i) (fun i hi => by rw [hk i hi])
        rw [e1, e2, bd1_some, bd1_some]
        simp only [nm_eq, if_10, if_00]
        rw [wd_eq (by omega), bd1_some, ec, bd1_some, e3, bd3_some, hcc, nI_1]
        by_cases c9 : nI (fb_sm (fun i => pcn (kn i &&& CA j 2 (d % 7) i)) 7) ≤ 0
        · rw [if_pos c9, if_pos c9, Int32.or_zero]
          exact ⟨_, (_, _), rfl, rfl, rfl⟩
        · rw [if_neg c9, if_neg c9]
          exact ⟨_, (_, _), rfl, rfl, rfl⟩
      · rw [e1, e2, bd1_some, bd1_some]
        simp only [nm_eq, if_10, if_00]
        rw [Int32.or_zero, nI_1]
        exact ⟨_, (_, _), rfl, rfl, rfl⟩)
    (s := 0) (t := (0, on)) (f := 1024) (by decide) rfl
