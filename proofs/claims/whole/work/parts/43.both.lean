theorem aI9_in2 {a b : Nat} (ha : a < 3) (hb : b < 3) : aI9 a = aI9 b ↔ a = b := (by decide : ∀ a, a < 3 → ∀ b, b < 3 → (aI9 a = aI9 b ↔ a = b)) a ha b hb
def bcp (L : Nat → Nat) (n wd p g0 g1 : Nat) (pg : Nat → Int32) (d i : Nat) : Bool := bt (pg d) i && (if p = 0 then decide (qans L n wd d d i = g0) && decide (qans L n wd d ((d + 1) % 7) i = g1) else decide (qans L n wd d d i = qans L n wd d ((d + 1) % 7) i))
theorem b112 {nf n : Nat} (hf : nf < 6) {L : Nat → Nat} {cb mb : Nat → Int32} (hQ : Que nf n L cb mb) (hW : WF nf L n) (pg : Nat → Int32) {p dd d g0 g1 : Nat} (hp : p < 2) (hdd : dd < 28) (hd : d < 7) (hg0 : g0 < 3) (hg1 : g1 < 3) (x : Int32) (st : Nat → Int32) (K : Int32 → (Nat → Int32) → Option (Int32 × Int32 × (Nat → Int32))) :
    ∃ st', L_X10_both_112 (nI n) (nI nf) mb pg (nI p) (nI dd) (aI9 g0) (aI9 g1) (nI d) 1024 x 0 st K = K (x + nI (fb_ct (bcp L n (dd % 7) p g0 g1 pg d) (2 ^ nf))) st' := by
  have hq : 2 ^ nf ≤ 32 := (by decide : ∀ n, n < 6 → 2 ^ n ≤ 32) nf hf
  obtain ⟨⟨s, s2⟩, h1, h2⟩ := loop_u (fun m (s : Int32 × (Nat → Int32)) j => L_X10_both_112 (nI n) (nI nf) mb pg (nI p) (nI dd) (aI9 g0) (aI9 g1) (nI d) m s.1 (nI j) s.2 K) (fun s => K s.1 s.2) (2 ^ nf) (fun j s => s.1 = x + nI (fb_ct (bcp L n (dd % 7) p g0 g1 pg d) j))
    (by
      intro m s h
      rw [L_X10_both_112.eq_2, one_shl nf (by omega), if_pos (Int32.le_refl _)])
    (by
      rintro m ⟨s, st⟩ j hj g1'
      dsimp only at g1'
      have e0 : x + nI (fb_ct (bcp L n (dd % 7) p g0 g1 pg d) (j + 1)) = s + b2i (bcp L n (dd % 7) p g0 g1 pg d j) := by
        rw [fb_ct_succ, g1', Int32.add_assoc]
        cases bcp L n (dd % 7) p g0 g1 pg d j
        · rw [show b2i false = nI 0 from rfl, nI_add]; rfl
        · rw [show b2i true = nI 1 from rfl, nI_add]; rfl
      dsimp only
      rw [L_X10_both_112.eq_2, one_shl nf (by omega), if_neg (show ¬ nI (2 ^ nf) ≤ nI j by rw [n_le _ _ (by omega) (by omega)]; omega), inB_nI (by omega) (by omega), gd_t, nI_clamp (by omega), m_has _ (by omega), bd1_some, nm_eq]
      cases hb : bt (pg d) j
      · have hz : bcp L n (dd % 7) p g0 g1 pg d j = false := by unfold bcp; rw [hb, Bool.false_and]
        refine ⟨(s, st), ?_, ?_⟩
        · show s = x + nI (fb_ct (bcp L n (dd % 7) p g0 g1 pg d) (j + 1))
          rw [e0, hz, show b2i false = 0 from rfl, Int32.add_zero]
        · rw [show b2i false = 0 from rfl, if_00]
          dsimp only
          rw [nm_eq, nI_1]
      · obtain ⟨w1, e1⟩ := ao_q hf hQ hW (dd := dd) (td := d) (mr := d) (st := j) (by omega) hd hd (by omega) st
        obtain ⟨w2, e2⟩ := ao_q hf hQ hW (dd := dd) (td := d) (mr := (d + 1) % 7) (st := j) (by omega) hd (by omega) (by omega) w1
        have l1 : qans L n (dd % 7) d d j < 3 := qans_lt _ _ _ _ _ _
        have l2 : qans L n (dd % 7) d ((d + 1) % 7) j < 3 := qans_lt _ _ _ _ _ _
        refine ⟨(x + nI (fb_ct (bcp L n (dd % 7) p g0 g1 pg d) (j + 1)), w2), rfl, ?_⟩
        dsimp only
        rw [show b2i true = 1 from rfl, if_10, e1, bd2_some, nI_1, rem7 (by omega), e2, bd2_some]
        simp only [nm_eq]
        rw [e0, nI_1]
        by_cases p0 : p = 0
        · subst p0
          rw [if_pos (show nI 0 = 0 from rfl)]
          by_cases c1 : qans L n (dd % 7) d d j = g0
          · rw [if_pos ((aI9_in2 l1 hg0).mpr c1)]
            by_cases c2 : qans L n (dd % 7) d ((d + 1) % 7) j = g1
            · rw [if_pos ((aI9_in2 l2 hg1).mpr c2), show bcp L n (dd % 7) 0 g0 g1 pg d j = true by
                unfold bcp; rw [hb, if_pos rfl, decide_eq_true c1, decide_eq_true c2]; rfl]
              rfl
            · rw [if_neg (fun e => c2 ((aI9_in2 l2 hg1).mp e)), show bcp L n (dd % 7) 0 g0 g1 pg d j = false by
                unfold bcp; rw [hb, if_pos rfl, decide_eq_false c2, Bool.and_false]; rfl]
              rfl
          · rw [if_neg (fun e => c1 ((aI9_in2 l1 hg0).mp e)), show bcp L n (dd % 7) 0 g0 g1 pg d j = false by
              unfold bcp; rw [hb, if_pos rfl, decide_eq_false c1, Bool.false_and]; rfl]
            rfl
        · rw [if_neg (nI_ne0 (by omega) (by omega))]
          by_cases c1 : qans L n (dd % 7) d d j = qans L n (dd % 7) d ((d + 1) % 7) j
          · rw [if_pos ((aI9_in2 l1 l2).mpr c1), show bcp L n (dd % 7) p g0 g1 pg d j = true by
              unfold bcp; rw [hb, if_neg p0, decide_eq_true c1]; rfl]
            rfl
          · rw [if_neg (fun e => c1 ((aI9_in2 l1 l2).mp e)), show bcp L n (dd % 7) p g0 g1 pg d j = false by
              unfold bcp; rw [hb, if_neg p0, decide_eq_false c1]; rfl]
            rfl)
    (j := 0) (s := (x, st)) (fuel := 1024) (Nat.zero_le _) (by omega) (show x = x + 0 from (Int32.add_zero x).symm)
  dsimp only at h1 h2
  refine ⟨s2, ?_⟩
  rw [← h1]
  exact h2
theorem b102 {nf n : Nat} (hf : nf < 6) {L : Nat → Nat} {cb mb : Nat → Int32} (hQ : Que nf n L cb mb) (hW : WF nf L n) (pg : Nat → Int32) {p dd g0 g1 : Nat} (hp : p < 2) (hdd : dd < 28) (hg0 : g0 < 3) (hg1 : g1 < 3) (st : Nat → Int32) (K : Int32 → (Nat → Int32) → Option (Int32 × Int32 × (Nat → Int32))) :
    ∃ st', L_X10_both_102 (nI n) (nI nf) mb pg (nI p) (nI dd) (aI9 g0) (aI9 g1) 1024 0 0 st K = K (nI (fb_sm (fun d => fb_ct (bcp L n (dd % 7) p g0 g1 pg d) (2 ^ nf)) 7)) st' := by
  obtain ⟨⟨s, s2⟩, h1, h2⟩ := loop_u (fun m (s : Int32 × (Nat → Int32)) j => L_X10_both_102 (nI n) (nI nf) mb pg (nI p) (nI dd) (aI9 g0) (aI9 g1) m s.1 (nI j) s.2 K) (fun s => K s.1 s.2) 7 (fun j s => s.1 = nI (fb_sm (fun d => fb_ct (bcp L n (dd % 7) p g0 g1 pg d) (2 ^ nf)) j))
    (by
      intro m s h
      rw [L_X10_both_102.eq_2, if_pos (by decide)])
    (by
      rintro m ⟨s, st⟩ j hj g1'
      dsimp only at g1'
      dsimp only
      rw [L_X10_both_102.eq_2, if_neg (show ¬ (7 : Int32) ≤ nI j by rw [q7_le _ (by omega)]; omega)]
      obtain ⟨st', e⟩ := b112 hf hQ hW pg hp hdd hj hg0 hg1 s st (fun (x23 : Int32) (w24 : (Nat → Int32)) => nm (nI j + (1 : Int32)) (fun (x45 : Int32) => L_X10_both_102 (nI n) (nI nf) mb pg (nI p) (nI dd) (aI9 g0) (aI9 g1) m x23 x45 w24 K))
      refine ⟨(nI (fb_sm (fun d => fb_ct (bcp L n (dd % 7) p g0 g1 pg d) (2 ^ nf)) (j + 1)), st'), rfl, ?_⟩
      dsimp only
      rw [e, nm_eq, nI_1, g1', nI_add, fb_sm_succ])
    (j := 0) (s := (0, st)) (fuel := 1024) (by decide) (by decide) rfl
  dsimp only at h1 h2
  refine ⟨s2, ?_⟩
  rw [← h1]
  exact h2
def kb (L : Nat → Nat) (n wd g0 g1 : Nat) (kn : Nat → Int32) (d : Nat) : Int32 := kn d &&& QA L n g0 wd d d &&& QA L n g1 wd d ((d + 1) % 7)
theorem kb_bit (L : Nat → Nat) (n wd : Nat) {g0 g1 : Nat} (h0 : g0 < 3) (h1 : g1 < 3) (kn : Nat → Int32) (d : Nat) {i : Nat} (hi : i < 32) : bt (kb L n wd g0 g1 kn d) i = (bt (kn d) i && decide (qans L n wd d d i = g0) && decide (qans L n wd d ((d + 1) % 7) i = g1)) := by
  unfold kb
  rw [b_and, b_and, (QA_eq L n h0 wd d d).2 i hi, (QA_eq L n h1 wd d ((d + 1) % 7)).2 i hi]
theorem kbb62 {nf n : Nat} (hf : nf < 6) {L : Nat → Nat} {cb mb : Nat → Int32} (hQ : Que nf n L cb mb) (hW : WF nf L n) {g0 g1 wd : Nat} (hg0 : g0 < 3) (hg1 : g1 < 3) (hw : wd < 7) (kn st : Nat → Int32) (K : Int32 → (Nat → Int32) → Option (Int32 × (Nat → Int32))) :
    ∃ st', L_X9_knownByBoth_62 (nI n) cb kn 16 (nI wd) (nI g0) (nI g1) 1024 0 0 st K = K (nI (fb_sm (fun d => pcn (kb L n wd g0 g1 kn d)) 7)) st' := by
  obtain ⟨⟨s1, s2⟩, h1, h2⟩ := loop_u (fun m (s : Int32 × (Nat → Int32)) j => L_X9_knownByBoth_62 (nI n) cb kn 16 (nI wd) (nI g0) (nI g1) m s.1 (nI j) s.2 K) (fun s => K s.1 s.2) 7 (fun j s => s.1 = nI (fb_sm (fun d => pcn (kb L n wd g0 g1 kn d)) j))
    (by
      intro m s h
      rw [L_X9_knownByBoth_62.eq_2, if_pos (by decide)])
    (by
      rintro m ⟨s1, s2⟩ j hj gi
      dsimp only at gi
      obtain ⟨v', e⟩ := ca_q hf hQ hW hg0 hw hj (o := 0) (by decide) s2
      obtain ⟨v2, e2⟩ := ca_q hf hQ hW hg1 hw hj (o := 1) (by decide) v'
      rw [show (j + 0) % 7 = j by omega, show nI 0 = 0 from rfl] at e
      rw [show nI 1 = 1 from rfl] at e2
      refine ⟨(s1 + nI (pcn (kb L n wd g0 g1 kn j)), v2), ?_, ?_⟩
      rotate_left
      · dsimp only
        rw [L_X9_knownByBoth_62.eq_2, if_neg (show ¬ (7 : Int32) ≤ nI j by rw [q7_le _ (by omega)]; omega), inB_nI (by omega) hj, gd_t, e, bd2_some, e2, bd2_some, m_bitCount, bd1_some, nm_eq, nm_eq, nI_1, nI_clamp (by omega)]
        rfl
      · dsimp only
        rw [gi, fb_sm_succ, nI_add])
    (j := 0) (s := (0, st)) (fuel := 1024) (by decide) (by decide) rfl
  dsimp only at h1 h2
  refine ⟨s2, ?_⟩
  rw [← h1]
  exact h2
theorem abb21 {nf n : Nat} (hf : nf < 6) {L : Nat → Nat} {cb mb : Nat → Int32} (hQ : Que nf n L cb mb) (hW : WF nf L n) {d wd : Nat} (hd : d < 7) (hw : wd < 7) (x : Int32) (kn st : Nat → Int32) (K : Int32 → (Nat → Int32) → Option (Int32 × (Nat → Int32))) :
    ∃ st', L_X9_alikeByBoth_21 kn (nI n) cb 16 (nI wd) (nI d) 1024 x 0 st K = K (x + nI (fb_sm (fun g => pcn (kb L n wd g g kn d)) 3)) st' := by
  obtain ⟨⟨s1, s2⟩, h1, h2⟩ := loop_u (fun m (s : Int32 × (Nat → Int32)) j => L_X9_alikeByBoth_21 kn (nI n) cb 16 (nI wd) (nI d) m s.1 (nI j) s.2 K) (fun s => K s.1 s.2) 3 (fun j s => s.1 = x + nI (fb_sm (fun g => pcn (kb L n wd g g kn d)) j))
    (by
      intro m s h
      rw [L_X9_alikeByBoth_21.eq_2, if_pos (by decide)])
    (by
      rintro m ⟨s1, s2⟩ j hj g1
      dsimp only at g1
      obtain ⟨v', e⟩ := ca_q hf hQ hW hj hw hd (o := 0) (by decide) s2
      obtain ⟨v2, e2⟩ := ca_q hf hQ hW hj hw hd (o := 1) (by decide) v'
      rw [show (d + 0) % 7 = d by omega, show nI 0 = 0 from rfl] at e
      rw [show nI 1 = 1 from rfl] at e2
      refine ⟨(s1 + nI (pcn (kb L n wd j j kn d)), v2), ?_, ?_⟩
      · dsimp only
        rw [g1, fb_sm_succ, Int32.add_assoc, nI_add]
      · dsimp only
        rw [L_X9_alikeByBoth_21.eq_2, if_neg (show ¬ (3 : Int32) ≤ nI j by rw [q3_le _ (by omega)]; omega), inB_nI (by omega) hd, gd_t, e, bd2_some, e2, bd2_some, m_bitCount, bd1_some, nm_eq, nm_eq, nI_1, nI_clamp (by omega)]
        rfl)
    (j := 0) (s := (x, st)) (fuel := 1024) (by decide) (by decide) (show x = x + 0 from (Int32.add_zero x).symm)
  dsimp only at h1 h2
  refine ⟨s2, ?_⟩
  rw [← h1]
  exact h2
theorem abb12 {nf n : Nat} (hf : nf < 6) {L : Nat → Nat} {cb mb : Nat → Int32} (hQ : Que nf n L cb mb) (hW : WF nf L n) {wd : Nat} (hw : wd < 7) (kn st : Nat → Int32) (K : Int32 → (Nat → Int32) → Option (Int32 × (Nat → Int32))) :
    ∃ st', L_X9_alikeByBoth_12 kn (nI n) cb 16 (nI wd) 1024 0 0 st K = K (nI (fb_sm (fun d => fb_sm (fun g => pcn (kb L n wd g g kn d)) 3) 7)) st' := by
  obtain ⟨⟨s1, s2⟩, h1, h2⟩ := loop_u (fun m (s : Int32 × (Nat → Int32)) j => L_X9_alikeByBoth_12 kn (nI n) cb 16 (nI wd) m s.1 (nI j) s.2 K) (fun s => K s.1 s.2) 7 (fun j s => s.1 = nI (fb_sm (fun d => fb_sm (fun g => pcn (kb L n wd g g kn d)) 3) j))
    (by
      intro m s h
      rw [L_X9_alikeByBoth_12.eq_2, if_pos (by decide)])
    (by
      rintro m ⟨s1, s2⟩ j hj g1
      dsimp only at g1
      obtain ⟨st', e⟩ := abb21 hf hQ hW hj hw s1 kn s2 (fun (x12 : Int32) (w13 : (Nat → Int32)) => nm (nI j + (1 : Int32)) (fun (x26 : Int32) => L_X9_alikeByBoth_12 kn (nI n) cb 16 (nI wd) m x12 x26 w13 K))
      refine ⟨(nI (fb_sm (fun d => fb_sm (fun g => pcn (kb L n wd g g kn d)) 3) (j + 1)), st'), rfl, ?_⟩
      dsimp only
      rw [L_X9_alikeByBoth_12.eq_2, if_neg (show ¬ (7 : Int32) ≤ nI j by rw [q7_le _ (by omega)]; omega), e, nm_eq, nI_1, g1, nI_add]
      rfl)
    (j := 0) (s := (0, st)) (fuel := 1024) (by decide) (by decide) rfl
  dsimp only at h1 h2
  refine ⟨s2, ?_⟩
  rw [← h1]
  exact h2
theorem three_ways (b : Nat → Bool) (u v : Nat → Nat) (hu : ∀ i, u i < 3) : ∀ N, fb_sm (fun g => fb_ct (fun i => b i && decide (u i = g) && decide (v i = g)) N) 3 = fb_ct (fun i => b i && decide (u i = v i)) N
  | 0 => rfl
  | N + 1 => by
    have ih := three_ways b u v hu N
    have e := hu N
    simp only [fb_sm, fb_ct_succ] at ih ⊢
    rcases (show u N = 0 ∨ u N = 1 ∨ u N = 2 by omega) with h | h | h <;> rw [h] <;> cases b N <;> by_cases hv : v N = 0 <;> by_cases hv1 : v N = 1 <;> by_cases hv2 : v N = 2 <;> simp_all <;> omega
theorem both_sum (L : Nat → Nat) (n wd : Nat) {nf g0 g1 : Nat} (hf : nf < 6) (h0 : g0 < 3) (h1 : g1 < 3) {kn pg : Nat → Int32} (hkp : ∀ i, i < 7 → pg i = kn i) (hsub : ∀ i, i < 7 → sub nf (kn i)) : fb_sm (fun d => fb_ct (bcp L n wd 0 g0 g1 pg d) (2 ^ nf)) 7 = fb_sm (fun d => pcn (kb L n wd g0 g1 kn d)) 7 := by
  have hq : 2 ^ nf ≤ 32 := (by decide : ∀ n, n < 6 → 2 ^ n ≤ 32) nf hf
  refine fb_sm_cong (fun d hd => ?_)
  rw [pcn_sub (x := kb L n wd g0 g1 kn d) (sub_and (sub_and (hsub d hd) _) _) hf]
  refine fb_ct_cong (fun i hi => ?_)
  rw [kb_bit L n wd h0 h1 kn d (by omega)]
  unfold bcp
  rw [if_pos rfl, hkp d hd, Bool.and_assoc]
theorem alike_sum (L : Nat → Nat) (n wd : Nat) {nf p g0 g1 : Nat} (hf : nf < 6) (hp : ¬ p = 0) {kn pg : Nat → Int32} (hkp : ∀ i, i < 7 → pg i = kn i) (hsub : ∀ i, i < 7 → sub nf (kn i)) : fb_sm (fun d => fb_ct (bcp L n wd p g0 g1 pg d) (2 ^ nf)) 7 = fb_sm (fun d => fb_sm (fun g => pcn (kb L n wd g g kn d)) 3) 7 := by
  have hq : 2 ^ nf ≤ 32 := (by decide : ∀ n, n < 6 → 2 ^ n ≤ 32) nf hf
  refine fb_sm_cong (fun d hd => ?_)
  rw [fb_sm_cong (f := fun g => pcn (kb L n wd g g kn d)) (g := fun g => fb_ct (fun i => bt (kn d) i && decide (qans L n wd d d i = g) && decide (qans L n wd d ((d + 1) % 7) i = g)) (2 ^ nf)) (fun g hg => by
    rw [pcn_sub (x := kb L n wd g g kn d) (sub_and (sub_and (hsub d hd) _) _) hf]
    exact fb_ct_cong (fun i hi => kb_bit L n wd hg hg kn d (by omega))), three_ways (bt (kn d)) (fun i => qans L n wd d d i) (fun i => qans L n wd d ((d + 1) % 7) i) (fun i => qans_lt _ _ _ _ _ _)]
  refine fb_ct_cong (fun i hi => ?_)
  unfold bcp
  rw [if_neg hp, hkp d hd]
theorem op_both {nf so : Nat} (hf : nf < 6) (hso : so < 2 ^ nf) {ql qz : Int32} {qb qu : Nat → Int32} (hT : RText 16 ql qz qb qu) {d t a c k : Int32} {kn pg : Nat → Int32} (h : RNow nf so d t a c k kn pg) (x th : Int32) (st1 st2 : Nat → Int32) :
    ∃ r st1' st2', m_X9_both x 16 ql qb (nI nf) (nI so) d t st1 kn = some (r, st1') ∧ m_X10_both x th qz (nI nf) (nI so) qu pg st2 = some (r, 0, st2') := by
  obtain ⟨M, hM, rfl, rfl, rfl, rfl, rfl, hk, hp⟩ := h
  obtain ⟨⟨d, t, a, c, k, h7, h8, h9, h10, h11, b1, b2, b3, b4, b5, b6⟩, hsub⟩ := hM
  have hkp : ∀ i, i < 7 → pg i = kn i := fun i hi => by rw [hk i hi, hp i (by omega)]
  have hsub' : ∀ i, i < 7 → sub nf (kn i) := fun i hi => by rw [hk i hi]; exact hsub i hi
  obtain ⟨r, s1, s2, s3⟩ := slip_both hT hf
  unfold m_X9_both m_X10_both
  rcases in_rng x (n := 1) (by decide) 1 rfl with ⟨p, hp1, rfl, hi⟩ | ⟨hb, hi⟩
  · rw [hi, bd1_some, if_10, if_neg (nI_pos (by omega)), if_pos (show nI p ≤ 1 by rw [show (1 : Int32) = nI 1 from rfl, n_le _ _ (by omega) (by decide)]; exact hp1), hslip_eq s1, s2, bd1_some, bd1_some]
    by_cases er : r = -9
    · obtain ⟨n, L, rfl, rfl, hQ, hW⟩ := s3 er
      rw [if_pos er, if_pos er, if_00, cn7.1, cn7.2.1, hp 7 (by decide), hp 8 (by decide), h7, h8, nI_1, rem7 (by omega), nm_eq]
      obtain ⟨w1, e1⟩ := ao_q hf hQ hW (dd := d) (td := t) (mr := t) (st := so) (by omega) b2 b2 (so32 hf hso) st2
      obtain ⟨w2, e2⟩ := ao_q hf hQ hW (dd := d) (td := t) (mr := (t + 1) % 7) (st := so) (by omega) b2 (by omega) (so32 hf hso) w1
      obtain ⟨g0, eg0⟩ : ∃ g, g = qans L n (d % 7) t t so := ⟨_, rfl⟩
      obtain ⟨g1, eg1⟩ : ∃ g, g = qans L n (d % 7) t ((t + 1) % 7) so := ⟨_, rfl⟩
      have hg0 : g0 < 3 := by rw [eg0]; exact qans_lt _ _ _ _ _ _
      have hg1 : g1 < 3 := by rw [eg1]; exact qans_lt _ _ _ _ _ _
      rw [← eg0] at e1
      rw [← eg1] at e2
      obtain ⟨w3, e3⟩ := b102 hf hQ hW pg (p := p) (dd := d) (by omega) b1 hg0 hg1 w2 (fun (x17 : Int32) (w18 : (Nat → Int32)) => some (x17, (0 : Int32), w18))
      rw [e1, bd2_some, e2, bd2_some, e3]
      by_cases p0 : p = 0
      · subst p0
        rw [if_pos (show nI 0 = 0 from rfl), both_sum L n (d % 7) hf hg0 hg1 hkp hsub']
        unfold m_X9_knownByBoth
        obtain ⟨v1, c1⟩ := ai_q hf hQ hW (wd := d % 7) (td := t) (o := 0) (st := so) (by omega) b2 (by decide) (so32 hf hso) st1
        obtain ⟨v2, c2⟩ := ai_q hf hQ hW (wd := d % 7) (td := t) (o := 1) (st := so) (by omega) b2 (by decide) (so32 hf hso) v1
        rw [show (t + 0) % 7 = t by omega, show nI 0 = 0 from rfl, ← eg0] at c1
        rw [show nI 1 = 1 from rfl, ← eg1] at c2
        obtain ⟨v3, c3⟩ := kbb62 hf hQ hW hg0 hg1 (wd := d % 7) (by omega) kn v2 (fun (x12 : Int32) (w13 : (Nat → Int32)) => some (x12, w13))
        rw [wd_eq (by omega), bd1_some, c1, bd2_some, c2, bd2_some, c3, bd2_some]
        exact ⟨_, _, _, rfl, rfl⟩
      · rw [if_neg (show ¬ nI p = 0 from nI_ne0 (by omega) (by omega)), alike_sum L n (d % 7) hf p0 hkp hsub']
        unfold m_X9_alikeByBoth
        obtain ⟨v3, c3⟩ := abb12 hf hQ hW (wd := d % 7) (by omega) kn st1 (fun (x12 : Int32) (w13 : (Nat → Int32)) => some (x12, w13))
        rw [wd_eq (by omega), bd1_some, c3, bd2_some]
        exact ⟨_, _, _, rfl, rfl⟩
    · rw [if_neg er, if_neg er, if_10]; exact ⟨_, _, _, rfl, rfl⟩
  · rw [hi, bd1_some, if_00]
    by_cases h0 : x < 0
    · rw [if_pos h0]; exact ⟨_, _, _, rfl, rfl⟩
    · rcases hb with hb | hb
      · exact absurd hb h0
      · rw [if_neg h0, if_neg (show ¬ x ≤ 1 from Int32.not_le.mpr hb)]; exact ⟨_, _, _, rfl, rfl⟩
