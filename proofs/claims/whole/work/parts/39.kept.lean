/-- what was told -/
def RTold (tc mt : Int32) (ts td ta ms md my : Nat → Int32) : Prop := ∃ n, n ≤ 6 ∧ tc = nI n ∧ mt = nI n ∧ ∀ i, i < n → ∃ q d y, q < 19 ∧ d < 7 ∧ y < 2 ∧ ts i = nI q ∧ ms i = nI q ∧ td i = nI d ∧ md i = nI d ∧ ta i = nI y ∧ my i = nI y
theorem op_tell {nf : Nat} (hf : nf < 6) {tc mt : Int32} {ts td ta ms md my : Nat → Int32} (h : RTold tc mt ts td ta ms md my) (x y th : Int32) (b : Bool) :
    ∃ r tc' ts' td' ta' ms' md' my', m_X9_tell x y (b2i b) (nI nf) tc ts td ta = some (r, tc', ts', td', ta') ∧ m_X10_tell x y (b2i b) th (nI nf) mt ms md my = some (r, 0, tc', ms', md', my') ∧ RTold tc' tc' ts' td' ta' ms' md' my' := by
  have h' := h
  obtain ⟨n, hn, rfl, rfl, hE⟩ := h
  unfold m_X9_tell m_X10_tell
  rcases hs_any x hf with ⟨q, hq, -, rfl, e1, e2⟩ | ⟨e1, e2⟩
  · rw [e1, e2, bd1_some, bd1_some, if_10, if_00]
    rcases wk_any y with ⟨d, hd, rfl, e1, e2⟩ | ⟨e1, e2⟩
    · rw [e1, e2, bd1_some, bd1_some, if_10, if_10, nm_ite]
      have eb : (if b2i b = 0 then (0 : Int32) else 1) = b2i b := by cases b <;> rfl
      have en : vp_nar .boolean (b2i b) = b2i b := by cases b <;> decide
      rw [eb, en]
      unfold m_X7_add
      by_cases h6 : n = 6
      · subst h6
        rw [if_pos (show nI 6 = 6 from rfl), if_neg (show ¬ nI 6 < 6 by decide), bd5_some]
        exact ⟨_, _, _, _, _, _, _, _, rfl, rfl, h'⟩
      · rw [if_neg (show ¬ nI n = 6 by rw [q6_eq _ (by omega)]; exact h6), if_pos (show nI n < 6 by rw [q6_gt _ (by omega)]; omega), inB_nI (by omega) (by omega), gd_t, gd_t, gd_t, gd_t, gd_t, gd_t, nm_eq, nm_eq, bd5_some, nI_1, nI_clamp (by omega)]
        refine ⟨_, _, _, _, _, _, _, _, rfl, rfl, n + 1, by omega, rfl, rfl, fun i hi => ?_⟩
        by_cases e : i = n
        · subst e
          refine ⟨q, d, (if b then 1 else 0), hq, hd, by cases b <;> decide, pk_us, pk_us, pk_us, pk_us, ?_, ?_⟩
          · rw [pk_us]; cases b <;> rfl
          · rw [pk_us]; cases b <;> rfl
        · obtain ⟨q, d, y, g1, g2, g3, g4, g5, g6, g7, g8, g9⟩ := hE i (by omega)
          exact ⟨q, d, y, g1, g2, g3, by rw [pk_un e]; exact g4, by rw [pk_un e]; exact g5, by rw [pk_un e]; exact g6, by rw [pk_un e]; exact g7, by rw [pk_un e]; exact g8, by rw [pk_un e]; exact g9⟩
    · rw [e1, e2, bd1_some, bd1_some, if_00, if_00]
      exact ⟨_, _, _, _, _, _, _, _, rfl, rfl, h'⟩
  · rw [e1, e2, bd1_some, bd1_some, if_00, if_10]
    exact ⟨_, _, _, _, _, _, _, _, rfl, rfl, h'⟩
theorem op_untell {tc mt : Int32} {ts td ta ms md my : Nat → Int32} (h : RTold tc mt ts td ta ms md my) (th : Int32) :
    ∃ r, m_X9_untell tc = some (r, 0) ∧ m_X10_untell th mt = some (r, 0, 0) ∧ RTold 0 0 ts td ta ms md my := by
  obtain ⟨n, hn, rfl, rfl, hE⟩ := h
  exact ⟨_, rfl, rfl, 0, by decide, rfl, rfl, fun i hi => absurd hi (Nat.not_lt_zero i)⟩
theorem op_seed (x : Int64) (th : Int32) (sd : Int64) : ∃ r, m_X9_seed x sd = some (r, x) ∧ m_X10_seed x th sd = some (r, 0, x) := ⟨_, rfl, rfl⟩
/-- the two slots -/
def RKept (nf so : Nat) (ik mi km kp : Nat → Int32) : Prop := ∀ s, s < 2 → ∃ b, b < 2 ∧ ik s = nI b ∧ mi s = nI b ∧ (b = 1 → ∃ M, MomP nf so M ∧ (∀ j, j < 12 → km (s * 12 + j) = M (pm j)) ∧ ∀ j, j < 12 → kp (12 * s + j) = M j)
theorem slot_any (x : Int32) : (∃ j, j < 2 ∧ x = nI j ∧ m_X9_isSlot x = some 1 ∧ m_X10_in (Int32.toInt64 x) (0 : Int64) (1 : Int64) = some 1) ∨ (m_X9_isSlot x = some 0 ∧ m_X10_in (Int32.toInt64 x) (0 : Int64) (1 : Int64) = some 0) := rg_any x (n := 2) (by decide) (by decide) (2 ≤ x) Iff.rfl 1 rfl
theorem keep26 (page kp : Nat → Int32) {a : Nat} (ha : a < 2) (K : (Nat → Int32) → Option (Int32 × Int32 × (Nat → Int32) × (Nat → Int32))) :
    ∃ b, (∀ j, j < 12 → b (12 * a + j) = page j) ∧ (∀ i, (i < 12 * a ∨ 12 * a + 12 ≤ i) → b i = kp i) ∧ L_X10_keep_26 page (nI a) 1024 0 kp K = K b := by
  obtain ⟨s, ⟨h1, h1'⟩, h2⟩ := loop_u (fun n (s : Nat → Int32) j => L_X10_keep_26 page (nI a) n (nI j) s K) (fun s => K s) 12 (fun j s => (∀ i, i < j → s (12 * a + i) = page i) ∧ ∀ i, (i < 12 * a ∨ 12 * a + 12 ≤ i) → s i = kp i)
    (by
      intro n s h
      rw [L_X10_keep_26.eq_2, if_pos (by decide)])
    (by
      rintro n s j hj ⟨g1, g2⟩
      refine ⟨upd s (12 * a + j) (page j), ⟨fun i hi => ?_, fun i hi => ?_⟩, ?_⟩
      · by_cases e : i = j
        · subst e; exact pk_us
        · rw [pk_un (by omega)]; exact g1 i (by omega)
      · rw [pk_un (by omega)]; exact g2 i hi
      · rw [L_X10_keep_26.eq_2, if_neg (show ¬ (12 : Int32) ≤ nI j by rw [q12_le' _ (by omega)]; omega), inB_nI (by omega) hj, gd_t, show (12 : Int32) * nI a + nI j = nI (12 * a + j) by rw [show (12 : Int32) = nI 12 from rfl, pk_mul, nI_add], inB_nI (by omega) (by omega), gd_t, nm_eq, nI_1, nI_clamp (by omega), nI_clamp (by omega)])
    (j := 0) (s := kp) (fuel := 1024) (by decide) (by decide) ⟨fun i hi => absurd hi (Nat.not_lt_zero i), fun i _ => rfl⟩
  exact ⟨s, h1, h1', h2⟩
theorem again31 (kp page : Nat → Int32) {a : Nat} (ha : a < 2) (K : (Nat → Int32) → Option (Int32 × Int32 × Int32 × (Nat → Int32))) :
    ∃ p, (∀ j, j < 12 → p j = kp (12 * a + j)) ∧ L_X10_again_31 kp (nI a) 1024 0 page K = K p := by
  obtain ⟨s, h1, h2⟩ := loop_u (fun n (s : Nat → Int32) j => L_X10_again_31 kp (nI a) n (nI j) s K) (fun s => K s) 12 (fun j s => ∀ i, i < j → s i = kp (12 * a + i))
    (by
      intro n s h
      rw [L_X10_again_31.eq_2, if_pos (by decide)])
    (by
      intro n s j hj g1
      refine ⟨upd s j (kp (12 * a + j)), fun i hi => ?_, ?_⟩
      · by_cases e : i = j
        · subst e; exact pk_us
        · rw [pk_un e]; exact g1 i (by omega)
      · rw [L_X10_again_31.eq_2, if_neg (show ¬ (12 : Int32) ≤ nI j by rw [q12_le' _ (by omega)]; omega), show (12 : Int32) * nI a + nI j = nI (12 * a + j) by rw [show (12 : Int32) = nI 12 from rfl, pk_mul, nI_add], inB_nI (by omega) (by omega), gd_t, inB_nI (by omega) hj, gd_t, nm_eq, nI_1, nI_clamp (by omega), nI_clamp (by omega)])
    (j := 0) (s := page) (fuel := 1024) (by decide) (by decide) (fun i hi => absurd hi (Nat.not_lt_zero i))
  exact ⟨s, h1, h2⟩
theorem op_keep {nf so : Nat} {d t a c k : Int32} {kn pg : Nat → Int32} (h : RNow nf so d t a c k kn pg) {ik mi km kp : Nat → Int32} (hK : RKept nf so ik mi km kp) (x th : Int32) :
    ∃ r km' ik' mi' kp', m_X9_keep x d t a c k km kn ik = some (r, km', ik') ∧ m_X10_keep x th mi pg kp = some (r, 0, mi', kp') ∧ RKept nf so ik' mi' km' kp' := by
  obtain ⟨M, hM, rfl, rfl, rfl, rfl, rfl, hk, hp⟩ := h
  unfold m_X9_keep m_X10_keep
  rcases slot_any x with ⟨s, hs, rfl, e1, e2⟩ | ⟨e1, e2⟩
  · obtain ⟨km', s1, s2, s3⟩ := save_eq (p := s) (N := 24) hM km kn hk (by omega) (by omega)
    obtain ⟨kp', b1, b2, b3⟩ := keep26 pg kp hs (fun (w7 : (Nat → Int32)) => bd1 (m_X10_knownMany 12 pg) (fun (r12 : Int32) => some (r12, (0 : Int32), (upd mi (Int32.toNatClampNeg (nI s)) (vp_nar .boolean (1 : Int32))), w7)))
    rw [e1, e2, bd1_some, bd1_some, if_10, if_10, s1, bd1_some, inB_nI (by omega) hs, gd_t, gd_t, w_count, bd1_some, b3, k_count _ (by decide), bd1_some, nI_clamp (by omega), sm_cong (f := pg) (g := kn) (fun i hi => by rw [hp i (by omega), hk i hi])]
    refine ⟨_, _, _, _, _, rfl, rfl, fun s' hs' => ?_⟩
    by_cases e : s' = s
    · subst e
      exact ⟨1, by decide, by rw [pk_us]; decide, by rw [pk_us]; decide, fun _ => ⟨M, hM, s2, fun j hj => by rw [b1 j hj]; exact hp j hj⟩⟩
    · obtain ⟨b, g1, g2, g3, g4⟩ := hK s' hs'
      refine ⟨b, g1, by rw [pk_un e]; exact g2, by rw [pk_un e]; exact g3, fun hb => ?_⟩
      obtain ⟨M2, m1, m2, m3⟩ := g4 hb
      exact ⟨M2, m1, fun j hj => by rw [s3 _ (by omega)]; exact m2 j hj, fun j hj => by rw [b2 _ (by omega)]; exact m3 j hj⟩
  · rw [e1, e2, bd1_some, bd1_some, if_00, if_00]
    exact ⟨_, _, _, _, _, rfl, rfl, hK⟩
theorem op_again {nf so : Nat} {d t a c k : Int32} {kn pg : Nat → Int32} (h : RNow nf so d t a c k kn pg) {ik mi km kp : Nat → Int32} (hK : RKept nf so ik mi km kp) {nx ac aa : Int32} {mo bk : Nat → Int32} {se bs : Nat → Int64} (hA : RActs nf so nx ac aa mo bk se bs) (x th : Int32) :
    ∃ r d' t' a' c' k' kn' ac' pg', m_X9_again x ik d t a c k km kn ac = some (r, d', t', a', c', k', kn', ac') ∧ m_X10_again x th aa mi kp pg = some (r, 0, ac', pg') ∧ RNow nf so d' t' a' c' k' kn' pg' ∧ RActs nf so nx ac' ac' mo bk se bs := by
  have eA : aa = ac := by
    obtain ⟨a, n, rfl, rfl, -⟩ := hA
    rfl
  subst eA
  unfold m_X9_again m_X10_again
  rcases slot_any x with ⟨s, hs, rfl, e1, e2⟩ | ⟨e1, e2⟩
  · obtain ⟨b, g1, g2, g3, g4⟩ := hK s hs
    rw [e1, e2, bd1_some, bd1_some, if_10, if_10, inB_nI (by omega) hs, gd_t, gd_t, nI_clamp (by omega), g2, g3]
    by_cases hb : b = 0
    · subst hb
      rw [if_pos (show nI 0 = 0 from rfl), if_pos (show nI 0 = 0 from rfl)]
      exact ⟨_, _, _, _, _, _, _, _, _, rfl, rfl, h, hA⟩
    · obtain ⟨M, m1, m2, m3⟩ := g4 (by omega)
      obtain ⟨kn', l1, l2⟩ := load_eq (p := s) (N := 24) m1 km kn m2 (by omega) (by omega) d t a c k
      obtain ⟨p, u1, u2⟩ := again31 kp pg hs (fun (w8 : (Nat → Int32)) => bd1 (m_X10_knownMany 12 w8) (fun (r13 : Int32) => some (r13, (0 : Int32), (0 : Int32), w8)))
      rw [if_neg (nI_ne0 (by omega) (by omega)), if_neg (nI_ne0 (by omega) (by omega)), l1, bd6_some, u2, k_count _ (by decide), bd1_some]
      unfold m_X0_forget
      rw [bd1_some, w_count, bd1_some, sm_cong (f := p) (g := kn') (fun i hi => by rw [u1 i (by omega), l2 i hi, m3 i (by omega)])]
      exact ⟨_, _, _, _, _, _, _, _, _, rfl, rfl, ⟨M, m1, rfl, rfl, rfl, rfl, rfl, l2, fun i hi => by rw [u1 i hi]; exact m3 i hi⟩, acts_0 nf so hA nf so⟩
  · rw [e1, e2, bd1_some, bd1_some, if_00, if_00]
    exact ⟨_, _, _, _, _, _, _, _, _, rfl, rfl, h, hA⟩
