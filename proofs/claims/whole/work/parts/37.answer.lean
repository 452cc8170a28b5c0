theorem rg_any (x : Int32) {n : Nat} (hn0 : 0 < n) (hn : n < 2147483648) (c : Prop) [Decidable c] (hc : c ↔ nI n ≤ x) (B : Int64) (hB : B = Int32.toInt64 (nI (n - 1))) : (∃ j, j < n ∧ x = nI j ∧ (nm (some (0 : Int32)) (fun (k : Option (Int32)) => if x < (0 : Int32) then k else if c then k else some (1 : Int32))) = some 1 ∧ m_X10_in (Int32.toInt64 x) (0 : Int64) B = some 1) ∨ ((nm (some (0 : Int32)) (fun (k : Option (Int32)) => if x < (0 : Int32) then k else if c then k else some (1 : Int32))) = some 0 ∧ m_X10_in (Int32.toInt64 x) (0 : Int64) B = some 0) := by
  rw [nm_eq]
  rcases in_rng x (n := n - 1) (by omega) B hB with ⟨j, hj, ex, hi⟩ | ⟨hb, hi⟩
  · refine Or.inl ⟨j, by omega, ex, ?_, hi⟩
    rw [if_neg (by rw [ex]; exact nI_pos (by omega)), if_neg (fun h => by
      have := hc.mp h
      rw [ex, n_le _ _ hn (by omega)] at this
      omega)]
  · refine Or.inr ⟨?_, hi⟩
    by_cases h : x < 0
    · rw [if_pos h]
    · rw [if_neg h]
      rcases hb with hb | hb
      · exact absurd hb h
      · obtain ⟨j, hj, rfl⟩ := nI_of h
        rw [n_lt _ _ (by omega) hj] at hb
        rw [if_pos (hc.mpr (by rw [n_le _ _ hn hj]; omega))]
theorem wk_any (x : Int32) : (∃ j, j < 7 ∧ x = nI j ∧ m_X9_isWeekday x = some 1 ∧ m_X10_in (Int32.toInt64 x) (0 : Int64) (6 : Int64) = some 1) ∨ (m_X9_isWeekday x = some 0 ∧ m_X10_in (Int32.toInt64 x) (0 : Int64) (6 : Int64) = some 0) := rg_any x (n := 7) (by decide) (by decide) (7 ≤ x) Iff.rfl 6 rfl
theorem an_any (x : Int32) : (∃ j, j < 3 ∧ x = nI j ∧ m_X9_isAnswer x = some 1 ∧ m_X10_in (Int32.toInt64 x) (0 : Int64) (2 : Int64) = some 1) ∨ (m_X9_isAnswer x = some 0 ∧ m_X10_in (Int32.toInt64 x) (0 : Int64) (2 : Int64) = some 0) := rg_any x (n := 3) (by decide) (by decide) ((2 : Int32) < x) (by
  constructor
  · intro h
    have h0 : ¬ x < 0 := fun e => absurd (Int32.lt_trans h e) (by decide)
    obtain ⟨j, hj, rfl⟩ := nI_of h0
    rw [q2_lt _ hj] at h
    rw [n_le _ _ (by decide) hj]; omega
  · intro h
    exact Int32.lt_of_lt_of_le (by decide) h) 2 rfl
theorem case_any (x : Int32) {nf : Nat} (hf : nf < 6) : (∃ j, j < 2 ^ nf ∧ x = nI j ∧ m_X1_hasCase x (nI nf) = some 1 ∧ m_X10_in (Int32.toInt64 x) (0 : Int64) (Int32.toInt64 (((1 : Int32) <<< (nI nf &&& 31)) - (1 : Int32))) = some 1) ∨ (m_X1_hasCase x (nI nf) = some 0 ∧ m_X10_in (Int32.toInt64 x) (0 : Int64) (Int32.toInt64 (((1 : Int32) <<< (nI nf &&& 31)) - (1 : Int32))) = some 0) := by
  unfold m_X1_hasCase
  have hp : 0 < 2 ^ nf := Nat.pow_pos (by decide)
  have hq : 2 ^ nf ≤ 32 := (by decide : ∀ n, n < 6 → 2 ^ n ≤ 32) nf hf
  rw [one_shl nf (by omega), nI_sub1 hp]
  exact rg_any x hp (by omega) (nI (2 ^ nf) ≤ x) Iff.rfl _ rfl
theorem op_answer {nf so : Nat} (hf : nf < 6) {ql qz : Int32} {qb qu : Nat → Int32} (hT : RText 16 ql qz qb qu) {d t a c k : Int32} {kn pg : Nat → Int32} (h : RNow nf so d t a c k kn pg) (x y th : Int32) (st1 st2 : Nat → Int32) :
    ∃ r st1' st2', m_X9_answer x y 16 (nI nf) ql qb d st1 = some (r, st1') ∧ m_X10_answer x y th qz (nI nf) qu pg st2 = some (r, 0, st2') := by
  obtain ⟨M, ⟨⟨d, t, a, c, k, h7, h8, h9, h10, h11, b1, b2, b3, b4, b5, b6⟩, hsub⟩, rfl, rfl, rfl, rfl, rfl, hk, hp⟩ := h
  obtain ⟨r, s1, s2, s3⟩ := slip_both hT hf
  unfold m_X9_answer m_X10_answer
  rcases wk_any x with ⟨i, hi, rfl, e1, e2⟩ | ⟨e1, e2⟩
  · rw [e1, e2, bd1_some, bd1_some, if_10, if_10]
    rcases case_any y hf with ⟨j, hj, rfl, e1, e2⟩ | ⟨e1, e2⟩
    · rw [e1, e2, bd1_some, bd1_some, if_10, if_10, hslip_eq s1, s2, bd1_some, bd1_some]
      by_cases er : r = -9
      · obtain ⟨n, L, rfl, rfl, hQ, hW⟩ := s3 er
        rw [if_pos er, if_pos er, if_00, cn7.1, hp 7 (by decide), h7, wd_eq (by omega), bd1_some]
        obtain ⟨v1, e1⟩ := ai_q hf hQ hW (wd := d % 7) (td := i) (o := 0) (st := j) (by omega) hi (by decide) (so32 hf hj) st1
        obtain ⟨w1, e2⟩ := ao_q hf hQ hW (dd := d) (td := i) (mr := i) (st := j) (by omega) hi hi (so32 hf hj) st2
        rw [show (i + 0) % 7 = i by omega, show nI 0 = 0 from rfl] at e1
        rw [e1, e2, bd2_some, bd2_some, told_eq (qans_lt _ _ _ _ _ _), bd1_some]
        exact ⟨_, _, _, rfl, rfl⟩
      · rw [if_neg er, if_neg er, if_10]; exact ⟨_, _, _, rfl, rfl⟩
    · rw [e1, e2, bd1_some, bd1_some, if_00, if_00]; exact ⟨_, _, _, rfl, rfl⟩
  · rw [e1, e2, bd1_some, bd1_some, if_00, if_00]; exact ⟨_, _, _, rfl, rfl⟩
theorem parts33 {nf n : Nat} (hf : nf < 6) {L : Nat → Nat} {cb mb : Nat → Int32} (hQ : Que nf n L cb mb) (hW : WF nf L n) {g wd : Nat} (hg : g < 3) (hw : wd < 7) (kn st : Nat → Int32) (K : Int32 → (Nat → Int32) → Option (Int32 × (Nat → Int32))) :
    ∃ st', L_X9_parts_33 (nI n) cb kn (nI g) 16 (nI wd) 1024 0 0 st K = K (nI (fb_sm (fun d => pcn (kn d &&& QA L n g wd d d)) 7)) st' := by
  obtain ⟨⟨s1, s2⟩, h1, h2⟩ := loop_u (fun m (s : Int32 × (Nat → Int32)) j => L_X9_parts_33 (nI n) cb kn (nI g) 16 (nI wd) m s.1 (nI j) s.2 K) (fun s => K s.1 s.2) 7 (fun j s => s.1 = nI (fb_sm (fun d => pcn (kn d &&& QA L n g wd d d)) j))
    (by
      intro m s h
      rw [L_X9_parts_33.eq_2, if_pos (by decide)])
    (by
      rintro m ⟨s1, s2⟩ j hj g1
      dsimp only at g1
      obtain ⟨v', e⟩ := ca_q hf hQ hW hg hw hj (o := 0) (by decide) s2
      rw [show (j + 0) % 7 = j by omega, show nI 0 = 0 from rfl] at e
      refine ⟨(s1 + nI (pcn (kn j &&& QA L n g wd j j)), v'), ?_, ?_⟩
      · dsimp only
        rw [g1, fb_sm_succ, nI_add]
      · dsimp only
        rw [L_X9_parts_33.eq_2, if_neg (show ¬ (7 : Int32) ≤ nI j by rw [q7_le _ (by omega)]; omega), inB_nI (by omega) hj, gd_t, e, bd2_some, m_bitCount, bd1_some, nm_eq, nm_eq, nI_1, nI_clamp (by omega)]
        rfl)
    (j := 0) (s := (0, st)) (fuel := 1024) (by decide) (by decide) rfl
  dsimp only at h1 h2
  refine ⟨s2, ?_⟩
  rw [← h1]
  exact h2
theorem pm_in {g : Nat} (hg : g < 3) : (if nI g = 2 then (-9 : Int32) else nI g) = aI9 g := by
  rcases (show g = 0 ∨ g = 1 ∨ g = 2 by omega) with rfl | rfl | rfl <;> rfl
/-- a question's part of a page -/
theorem pmq {nf so n : Nat} (hf : nf < 6) {L : Nat → Nat} {cb mb : Nat → Int32} (hQ : Que nf n L cb mb) (hW : WF nf L n) {M : Nat → Int32} (hM : MomP nf so M) {d : Nat} (hd : d < 28) (h7 : M 7 = nI d) {pg : Nat → Int32} (hp : ∀ i, i < 12 → pg i = M i) {g : Nat} (hg : g < 3) (st ye no on : Nat → Int32) :
    ∃ st' on', m_X10_partMany (-9) (nI g) (nI n) (nI nf) pg mb st ye no on = some (nI (fb_sm (fun i => pcn (M i &&& QA L n g (d % 7) i i)) 7), st', on') := by
  unfold m_X10_partMany
  rw [nm_ite, pm_in hg, cn7.1, hp 7 (by decide), h7]
  obtain ⟨w2, w3, e3, e4⟩ := p_quest hf hQ hW (g := g) (dd := d) hg (by omega) ye no pg on st (fun i hi => by rw [hp i (by omega)]; exact hM.2 i hi) (N := 12) (M := 7) (by decide) (by decide)
  rw [e3, bd2_some, k_count _ (by decide), bd1_some]
  refine ⟨w2, w3, ?_⟩
  rw [sm_cong (f := w3) (g := fun i => M i &&& QA L n g (d % 7) i i) (fun i hi => by rw [e4 i hi, hp i (by omega)])]
/-- a simple question's part of a page -/
theorem pms {nf so q : Nat} (hq : q < 19) {ye no : Nat → Int32} (hT : TabOK nf ye no) {M : Nat → Int32} (hM : MomP nf so M) {d : Nat} (hd : d < 28) (h7 : M 7 = nI d) {pg : Nat → Int32} (hp : ∀ i, i < 12 → pg i = M i) {g : Nat} (hg : g < 3) (zq zf : Int32) (zs st on : Nat → Int32) :
    ∃ on', m_X10_partMany (nI q) (nI g) zq zf pg zs st ye no on = some (nI (fb_sm (fun i => pcn (M i &&& CA q g (d % 7) i)) 7), st, on') := by
  unfold m_X10_partMany
  rw [nm_ite, pm_in hg, cn7.1, hp 7 (by decide), h7]
  obtain ⟨w3, e3, e4⟩ := p_simple hq (g := g) (dd := d) hg (by omega) hT pg on zs st (fun i hi => by rw [hp i (by omega)]; exact hM.2 i hi) zq zf (N := 12) (M := 7) (by decide) (by decide)
  rw [e3, bd2_some, k_count _ (by decide), bd1_some]
  refine ⟨w3, ?_⟩
  rw [sm_cong (f := w3) (g := fun i => M i &&& CA q g (d % 7) i) (fun i hi => by rw [e4 i hi, hp i (by omega)])]
theorem op_parts {nf so : Nat} (hf : nf < 6) {ql qz : Int32} {qb qu : Nat → Int32} (hT : RText 16 ql qz qb qu) {d t a c k : Int32} {kn pg : Nat → Int32} (h : RNow nf so d t a c k kn pg) (x th : Int32) (st1 st2 ye no on : Nat → Int32) :
    ∃ r st1' st2' on', m_X9_parts x 16 ql qb (nI nf) d kn st1 = some (r, st1') ∧ m_X10_parts x th qz (nI nf) qu pg st2 ye no on = some (r, 0, st2', on') := by
  obtain ⟨M, hM, rfl, rfl, rfl, rfl, rfl, hk, hp⟩ := h
  have hM2 := hM
  obtain ⟨⟨d, t, a, c, k, h7, h8, h9, h10, h11, b1, b2, b3, b4, b5, b6⟩, hsub⟩ := hM2
  obtain ⟨r, s1, s2, s3⟩ := slip_both hT hf
  unfold m_X9_parts m_X10_parts
  rcases an_any x with ⟨g, hg, rfl, e1, e2⟩ | ⟨e1, e2⟩
  · rw [e1, e2, bd1_some, bd1_some, if_10, if_10, hslip_eq s1, s2, bd1_some, bd1_some]
    by_cases er : r = -9
    · obtain ⟨n, L, rfl, rfl, hQ, hW⟩ := s3 er
      obtain ⟨v1, e1⟩ := parts33 hf hQ hW hg (wd := d % 7) (by omega) kn st1 (fun (x12 : Int32) (w13 : (Nat → Int32)) => some (x12, w13))
      obtain ⟨w1, w2, e2⟩ := pmq hf hQ hW hM b1 h7 hp hg st2 ye no on
      rw [if_pos er, if_pos er, if_00, e2, bd3_some, h7, wd_eq (by omega), bd1_some, e1]
      rw [sm_cong (f := fun i => M i &&& QA L n g (d % 7) i i) (g := fun i => kn i &&& QA L n g (d % 7) i i) (fun i hi => by rw [hk i hi])]
      exact ⟨_, _, _, _, rfl, rfl⟩
    · rw [if_neg er, if_neg er, if_10]; exact ⟨_, _, _, _, rfl, rfl⟩
  · rw [e1, e2, bd1_some, bd1_some, if_00, if_00]; exact ⟨_, _, _, _, rfl, rfl⟩
theorem op_simpleParts {nf so : Nat} (hf : nf < 6) {ye no : Nat → Int32} (hT : TabOK nf ye no) {d t a c k : Int32} {kn pg : Nat → Int32} (h : RNow nf so d t a c k kn pg) (x y th qz : Int32) (qu st on : Nat → Int32) :
    ∃ r on', m_X9_simpleParts x y (nI nf) d kn = some r ∧ m_X10_simpleParts x y th qz (nI nf) pg qu st ye no on = some (r, 0, st, on') := by
  obtain ⟨M, hM, rfl, rfl, rfl, rfl, rfl, hk, hp⟩ := h
  have hM2 := hM
  obtain ⟨⟨d, t, a, c, k, h7, h8, h9, h10, h11, b1, b2, b3, b4, b5, b6⟩, hsub⟩ := hM2
  unfold m_X9_simpleParts m_X10_simpleParts
  rcases hs_any x hf with ⟨q, hq, -, rfl, e1, e2⟩ | ⟨e1, e2⟩
  · rw [e1, e2, bd1_some, bd1_some, nm_eq, if_10, if_00]
    rcases an_any y with ⟨g, hg, rfl, e1, e2⟩ | ⟨e1, e2⟩
    · obtain ⟨w2, e3⟩ := pms hq hT hM b1 h7 hp hg qz (nI nf) qu st on
      rw [e1, e2, bd1_some, bd1_some, if_10, if_10, h7, wd_eq (by omega), bd1_some, w_ca kn hq hg (by omega), bd1_some, e3, bd3_some]
      rw [sm_cong (f := fun i => M i &&& CA q g (d % 7) i) (g := fun i => kn i &&& CA q g (d % 7) i) (fun i hi => by rw [hk i hi])]
      exact ⟨_, _, rfl, rfl⟩
    · rw [e1, e2, bd1_some, bd1_some, if_00, if_00]; exact ⟨_, _, rfl, rfl⟩
  · rw [e1, e2, bd1_some, bd1_some, nm_eq, if_00, if_10]; exact ⟨_, _, rfl, rfl⟩
