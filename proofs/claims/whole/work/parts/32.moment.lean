/-- the class's layout of a moment, by the reference's -/
def pm (j : Nat) : Nat := if j < 5 then 7 + j else j - 5
/-- a moment that can be: twelve numbers in the reference's layout -/
def MomP (nf so : Nat) (M : Nat → Int32) : Prop := (∃ d t a c k, M 7 = nI d ∧ M 8 = nI t ∧ M 9 = nI a ∧ M 10 = nI c ∧ M 11 = nI k ∧ d < 28 ∧ t < 7 ∧ a < 2 ∧ c < 3 ∧ k ≤ 3 ∧ bt (M t) so = true) ∧ ∀ i, i < 7 → sub nf (M i)
theorem cpB_t {a b n n0 n1 : Nat} (ha : a < 2147483648) (hb : b < 2147483648) (hn : n < 2147483648) (h0 : a + n ≤ n0) (h1 : b + n ≤ n1) : cpB (nI a) (nI b) (nI n) n0 n1 = true := by
  unfold cpB
  rw [nI_clamp ha, nI_clamp hb, nI_clamp hn]
  simp [nI_pos ha, nI_pos hb, nI_pos hn, h0, h1]
theorem nI_lit_add (a c : Nat) (C : Int32) (h : C = nI c) : nI a + C = nI (a + c) := by rw [h, nI_add]
theorem save_eq {nf so p N : Nat} {M : Nat → Int32} (hM : MomP nf so M) (rows kn : Nat → Int32) (hk : ∀ i, i < 7 → kn i = M i) (hp : p * 12 + 12 ≤ N) (hN : N < 100000) :
    ∃ r, m_X4_saveTo (nI p) N (M 7) (M 8) (M 9) (M 10) (M 11) rows kn = some r ∧ (∀ j, j < 12 → r (p * 12 + j) = M (pm j)) ∧ ∀ i, (i < p * 12 ∨ p * 12 + 12 ≤ i) → r i = rows i := by
  obtain ⟨⟨d, t, a, c, k, -, -, h9, -, -, -, -, ha, -⟩, -⟩ := hM
  unfold m_X4_saveTo
  rw [show nI p * 12 = nI (p * 12) by rw [show (12 : Int32) = nI 12 from rfl, pk_mul], nm_eq, if_neg (nI_pos (show p * 12 < 2 ^ 31 by omega))]
  rw [nI_lit_add _ 12 12 rfl, nI_lit_add _ 1 1 rfl, nI_lit_add _ 2 2 rfl, nI_lit_add _ 3 3 rfl, nI_lit_add _ 4 4 rfl, nI_lit_add _ 5 5 rfl, show Int32.ofNat N = nI N from rfl]
  rw [if_pos (show nI (p * 12 + 12) ≤ nI N by rw [n_le _ _ (by omega) (by omega)]; omega)]
  rw [inB_nI (by omega) (by omega), inB_nI (by omega) (by omega), inB_nI (by omega) (by omega), inB_nI (by omega) (by omega), inB_nI (by omega) (by omega), gd_t, gd_t, nm_ite]
  rw [gd_t, gd_t, gd_t, show cpB 0 (nI (p * 12 + 5)) 7 7 N = true from cpB_t (a := 0) (n := 7) (by decide) (by omega) (by decide) (by omega) (by omega), gd_t]
  rw [show (if M 9 = 0 then (0 : Int32) else 1) = M 9 by
    rw [h9]
    rcases (show a = 0 ∨ a = 1 by omega) with rfl | rfl <;> decide]
  rw [nI_clamp (by omega), nI_clamp (by omega), nI_clamp (by omega), nI_clamp (by omega), nI_clamp (by omega), nI_clamp (by omega), show (0 : Int32).toNatClampNeg = 0 from rfl, show (7 : Int32).toNatClampNeg = 7 from rfl]
  refine ⟨_, rfl, fun j hj => ?_, fun i hi => ?_⟩
  · by_cases h5 : 5 ≤ j
    · rw [pk_cpy_in (by omega) (by omega), hk _ (by omega)]
      unfold pm
      rw [if_neg (by omega)]
      congr 1
      omega
    · rw [pk_cpy_out (by omega)]
      unfold pm
      rw [if_pos (by omega)]
      rcases (show j = 0 ∨ j = 1 ∨ j = 2 ∨ j = 3 ∨ j = 4 by omega) with rfl | rfl | rfl | rfl | rfl
      · rw [pk_un (by omega), pk_un (by omega), pk_un (by omega), pk_un (by omega), Nat.add_zero, pk_us]
      · rw [pk_un (by omega), pk_un (by omega), pk_un (by omega), pk_us]
      · rw [pk_un (by omega), pk_un (by omega), pk_us]
      · rw [pk_un (by omega), pk_us]
      · rw [pk_us]
  · rw [pk_cpy_out (by omega), pk_un (by omega), pk_un (by omega), pk_un (by omega), pk_un (by omega), pk_un (by omega)]
theorem load_eq {nf so p N : Nat} {M : Nat → Int32} (hM : MomP nf so M) (rows kn : Nat → Int32) (hr : ∀ j, j < 12 → rows (p * 12 + j) = M (pm j)) (hp : p * 12 + 12 ≤ N) (hN : N < 100000) (z1 z2 z3 z4 z5 : Int32) :
    ∃ r, m_X4_loadFrom (nI p) N z1 z2 z3 z4 z5 rows kn = some (M 7, M 8, M 9, M 10, M 11, r) ∧ ∀ i, i < 7 → r i = M i := by
  obtain ⟨⟨d, t, a, c, k, -, -, h9, -, -, -, -, ha, -⟩, -⟩ := hM
  unfold m_X4_loadFrom
  rw [show nI p * 12 = nI (p * 12) by rw [show (12 : Int32) = nI 12 from rfl, pk_mul], nm_eq, if_neg (nI_pos (show p * 12 < 2 ^ 31 by omega))]
  rw [nI_lit_add _ 12 12 rfl, nI_lit_add _ 1 1 rfl, nI_lit_add _ 2 2 rfl, nI_lit_add _ 3 3 rfl, nI_lit_add _ 4 4 rfl, nI_lit_add _ 5 5 rfl, show Int32.ofNat N = nI N from rfl]
  rw [if_pos (show nI (p * 12 + 12) ≤ nI N by rw [n_le _ _ (by omega) (by omega)]; omega)]
  rw [inB_nI (by omega) (by omega), inB_nI (by omega) (by omega), inB_nI (by omega) (by omega), inB_nI (by omega) (by omega), inB_nI (by omega) (by omega), gd_t, nm_eq, gd_t, nm_eq, gd_t, nm_ite]
  rw [nI_clamp (by omega), nI_clamp (by omega), nI_clamp (by omega), nI_clamp (by omega), nI_clamp (by omega), nI_clamp (by omega), show (0 : Int32).toNatClampNeg = 0 from rfl, show (7 : Int32).toNatClampNeg = 7 from rfl]
  have r0 := hr 0 (by decide)
  have r1 := hr 1 (by decide)
  have r2 := hr 2 (by decide)
  have r3 := hr 3 (by decide)
  have r4 := hr 4 (by decide)
  rw [Nat.add_zero] at r0
  rw [r0, r1, r2, r3, r4]
  rw [show pm 0 = 7 from rfl, show pm 1 = 8 from rfl, show pm 2 = 9 from rfl, show pm 3 = 10 from rfl, show pm 4 = 11 from rfl]
  rw [show (if M 9 = 1 then (1 : Int32) else 0) = M 9 by
    rw [h9]
    rcases (show a = 0 ∨ a = 1 by omega) with rfl | rfl <;> decide]
  rw [show zB (M 9) = true by
    rw [h9]
    rcases (show a = 0 ∨ a = 1 by omega) with rfl | rfl <;> decide, gd_t, gd_t, nm_eq, gd_t, nm_eq, show cpB (nI (p * 12 + 5)) 0 7 N 7 = true from cpB_t (b := 0) (n := 7) (by omega) (by decide) (by decide) (by omega) (by omega), gd_t]
  refine ⟨_, rfl, fun i hi => ?_⟩
  rw [pk_cpy_in (by omega) (by omega), show p * 12 + 5 + (i - 0) = p * 12 + (5 + i) by omega, hr _ (by omega)]
  unfold pm
  rw [if_neg (by omega)]
  congr 1
  omega
theorem q12_le' (j : Nat) (hj : j < 2147483648) : ((12 : Int32) ≤ nI j) = (12 ≤ j) := q12_le j hj
theorem q108_le (j : Nat) (hj : j < 2147483648) : ((108 : Int32) ≤ nI j) = (108 ≤ j) := propext (nI_leI (a := 108) (b := j) (by decide) hj)
theorem q9_le (j : Nat) (hj : j < 2147483648) : ((9 : Int32) ≤ nI j) = (9 ≤ j) := propext (nI_leI (a := 9) (b := j) (by decide) hj)
/-- the reference lays a page behind the others -/
theorem note78 (page book : Nat → Int32) {a : Nat} (ha : a < 10) (K : (Nat → Int32) → Option (Int32 × (Nat → Int32) × (Nat → Int64))) :
    ∃ b, (∀ j, j < 12 → b (12 * a + j) = page j) ∧ (∀ i, i < 12 * a → b i = book i) ∧ L_X10_note_78 page (nI a) 1024 0 book K = K b := by
  obtain ⟨s, ⟨h1, h1'⟩, h2⟩ := loop_u (fun n (s : Nat → Int32) j => L_X10_note_78 page (nI a) n (nI j) s K) (fun s => K s) 12 (fun j s => (∀ i, i < j → s (12 * a + i) = page i) ∧ ∀ i, i < 12 * a → s i = book i)
    (by
      intro n s h
      rw [L_X10_note_78.eq_2, if_pos (by decide)])
    (by
      rintro n s j hj ⟨g1, g2⟩
      refine ⟨upd s (12 * a + j) (page j), ⟨fun i hi => ?_, fun i hi => ?_⟩, ?_⟩
      · by_cases e : i = j
        · subst e; exact pk_us
        · rw [pk_un (by omega)]; exact g1 i (by omega)
      · rw [pk_un (by omega)]; exact g2 i hi
      · rw [L_X10_note_78.eq_2, if_neg (show ¬ (12 : Int32) ≤ nI j by rw [q12_le' _ (by omega)]; omega), inB_nI (by omega) hj, gd_t, show (12 : Int32) * nI a + nI j = nI (12 * a + j) by rw [show (12 : Int32) = nI 12 from rfl, pk_mul, nI_add], inB_nI (by omega) (by omega), gd_t, nm_eq, nI_1, nI_clamp (by omega), nI_clamp (by omega)])
    (j := 0) (s := book) (fuel := 1024) (by decide) (by decide) ⟨fun i hi => absurd hi (Nat.not_lt_zero i), fun i _ => rfl⟩
  exact ⟨s, h1, h1', h2⟩
theorem note11 (book : Nat → Int32) (K : (Nat → Int32) → Option (Int32 × (Nat → Int32) × (Nat → Int64))) :
    ∃ b, (∀ i, i < 108 → b i = book (i + 12)) ∧ L_X10_note_11 1024 0 book K = K b := by
  obtain ⟨s, ⟨h1, h1'⟩, h2⟩ := loop_u (fun n (s : Nat → Int32) j => L_X10_note_11 n (nI j) s K) (fun s => K s) 108 (fun j s => (∀ i, i < j → s i = book (i + 12)) ∧ ∀ i, j ≤ i → s i = book i)
    (by
      intro n s h
      rw [L_X10_note_11.eq_2, if_pos (by decide)])
    (by
      rintro n s j hj ⟨g1, g2⟩
      refine ⟨upd s j (s (j + 12)), ⟨fun i hi => ?_, fun i hi => ?_⟩, ?_⟩
      · by_cases e : i = j
        · subst e; rw [pk_us, g2 _ (by omega)]
        · rw [pk_un e]; exact g1 i (by omega)
      · rw [pk_un (by omega)]; exact g2 i (by omega)
      · rw [L_X10_note_11.eq_2, if_neg (show ¬ (108 : Int32) ≤ nI j by rw [q108_le _ (by omega)]; omega), nI_lit_add _ 12 12 rfl, inB_nI (by omega) (by omega), gd_t, inB_nI (by omega) (by omega), gd_t, nm_eq, nI_1, nI_clamp (by omega), nI_clamp (by omega)])
    (j := 0) (s := book) (fuel := 1024) (by decide) (by decide) ⟨fun i hi => absurd hi (Nat.not_lt_zero i), fun i _ => rfl⟩
  exact ⟨s, h1, h2⟩
theorem note40 (bs : Nat → Int64) (K : (Nat → Int64) → Option (Int32 × (Nat → Int32) × (Nat → Int64))) :
    ∃ b, (∀ i, i < 9 → b i = bs (i + 1)) ∧ L_X10_note_40 1024 0 bs K = K b := by
  obtain ⟨s, ⟨h1, h1'⟩, h2⟩ := loop_u (fun n (s : Nat → Int64) j => L_X10_note_40 n (nI j) s K) (fun s => K s) 9 (fun j s => (∀ i, i < j → s i = bs (i + 1)) ∧ ∀ i, j ≤ i → s i = bs i)
    (by
      intro n s h
      rw [L_X10_note_40.eq_2, if_pos (by decide)])
    (by
      rintro n s j hj ⟨g1, g2⟩
      refine ⟨vp_updL s j (s (j + 1)), ⟨fun i hi => ?_, fun i hi => ?_⟩, ?_⟩
      · by_cases e : i = j
        · subst e; rw [pk_uLs, g2 _ (by omega)]
        · rw [pk_uLn e]; exact g1 i (by omega)
      · rw [pk_uLn (by omega)]; exact g2 i (by omega)
      · rw [L_X10_note_40.eq_2, if_neg (show ¬ (9 : Int32) ≤ nI j by rw [q9_le _ (by omega)]; omega), nI_1, inB_nI (by omega) (by omega), gd_t, inB_nI (by omega) (by omega), gd_t, nm_eq, nI_clamp (by omega), nI_clamp (by omega)])
    (j := 0) (s := bs) (fuel := 1024) (by decide) (by decide) ⟨fun i hi => absurd hi (Nat.not_lt_zero i), fun i _ => rfl⟩
  exact ⟨s, h1, h2⟩
/-- the acts, as both hold them: the class in a ring -/
def ActsR (nf so a nx : Nat) (mo bk : Nat → Int32) (se bs : Nat → Int64) : Prop := a ≤ 10 ∧ nx < 10 ∧ ∀ i, i < a → ∃ M, MomP nf so M ∧ (∀ j, j < 12 → mo ((nx + 10 - a + i) % 10 * 12 + j) = M (pm j)) ∧ (∀ j, j < 12 → bk (12 * i + j) = M j) ∧ se ((nx + 10 - a + i) % 10) = bs i
theorem rem10 {n : Nat} (h : n < 2147483648) : nI n - nI n / 10 * 10 = nI (n % 10) := pk_rem h (by decide) (by decide)
/-- an act is recorded by both -/
theorem rec_note {nf so a nx : Nat} {mo bk : Nat → Int32} {se bs : Nat → Int64} (hA : ActsR nf so a nx mo bk se bs) {M : Nat → Int32} (hM : MomP nf so M) (kn page : Nat → Int32) (hk : ∀ i, i < 7 → kn i = M i) (hpg : ∀ i, i < 12 → page i = M i) (sd : Int64) :
    ∃ a' nx' mo' bk' se' bs', ActsR nf so a' nx' mo' bk' se' bs' ∧ m_X0_remember sd (nI nx) (nI a) (M 7) (M 8) (M 9) (M 10) (M 11) mo kn se = some (nI nx', nI a', mo', se') ∧ m_X10_note sd (nI a) bk page bs = some (nI a', bk', bs') := by
  obtain ⟨ha, hnx, hE⟩ := hA
  obtain ⟨mo', hs1, hs2, hs3⟩ := save_eq (p := nx) (N := 120) hM mo kn hk (by omega) (by omega)
  have hrec : m_X0_remember sd (nI nx) (nI a) (M 7) (M 8) (M 9) (M 10) (M 11) mo kn se = some (nI ((nx + 1) % 10), nI (if a < 10 then a + 1 else 10), mo', vp_updL se nx sd) := by
    unfold m_X0_remember
    rw [hs1, bd1_some, inB_nI (by omega) hnx, gd_t, nm_eq, nm_eq, nI_1, nI_1, rem10 (by omega), nI_clamp (by omega)]
    by_cases h : a < 10
    · rw [if_pos h]
      by_cases h9 : a + 1 < 10
      · rw [if_pos (show nI (a + 1) < 10 by rw [q10_gt _ (by omega)]; omega)]
      · rw [if_neg (show ¬ nI (a + 1) < 10 by rw [q10_gt _ (by omega)]; omega), show a + 1 = 10 by omega]; rfl
    · rw [if_neg h, if_neg (show ¬ nI (a + 1) < 10 by rw [q10_gt _ (by omega)]; omega)]; rfl
  rcases Nat.lt_or_ge a 10 with h | h
  · -- there is room
    obtain ⟨bk', b1, b2, b3⟩ := note78 page bk h (fun (w6 : (Nat → Int32)) => gd (inB (nI a) 10) (nm ((nI a + (1 : Int32))) (fun (x12 : Int32) => some (x12, w6, (vp_updL bs (Int32.toNatClampNeg (nI a)) sd)))))
    refine ⟨a + 1, (nx + 1) % 10, mo', bk', vp_updL se nx sd, vp_updL bs a sd, ⟨by omega, by omega, fun i hi => ?_⟩, by rw [hrec, if_pos h], ?_⟩
    · by_cases e : i = a
      · subst e
        refine ⟨M, hM, fun j hj => ?_, fun j hj => ?_, ?_⟩
        · rw [show ((nx + 1) % 10 + 10 - (i + 1) + i) % 10 = nx by omega]; exact hs2 j hj
        · rw [b1 j hj]; exact hpg j hj
        · rw [show ((nx + 1) % 10 + 10 - (i + 1) + i) % 10 = nx by omega, pk_uLs, pk_uLs]
      · obtain ⟨M2, m1, m2, m3, m4⟩ := hE i (by omega)
        have ep : ((nx + 1) % 10 + 10 - (a + 1) + i) % 10 = (nx + 10 - a + i) % 10 := by omega
        refine ⟨M2, m1, fun j hj => ?_, fun j hj => ?_, ?_⟩
        · rw [ep, hs3 _ (by omega)]; exact m2 j hj
        · rw [b2 _ (by omega)]; exact m3 j hj
        · rw [ep, pk_uLn (by omega), pk_uLn e]; exact m4
    · unfold m_X10_note
      rw [nm_eq, if_neg (show ¬ nI a = 10 by rw [q10_eq _ (by omega)]; omega)]
      dsimp only
      rw [b3, inB_nI (by omega) h, gd_t, nm_eq, nI_1, nI_clamp (by omega)]
  · -- the first one is forgotten
    obtain rfl : a = 10 := by omega
    obtain ⟨bk1, c1, c2⟩ := note11 bk (fun (w16 : (Nat → Int32)) => L_X10_note_40 1024 (0 : Int32) bs (fun (w23 : (Nat → Int64)) => nm ((nI 10 - (1 : Int32))) (fun (x28 : Int32) => (fun (w1 : Int32) (w2 : (Nat → Int32)) (w3 : (Nat → Int64)) => L_X10_note_78 page w1 1024 (0 : Int32) w2 (fun (w6 : (Nat → Int32)) => gd (inB w1 10) (nm ((w1 + (1 : Int32))) (fun (x12 : Int32) => some (x12, w6, (vp_updL w3 (Int32.toNatClampNeg w1) sd)))))) x28 w16 w23)))
    obtain ⟨bs1, e1, e2⟩ := note40 bs (fun (w23 : (Nat → Int64)) => nm ((nI 10 - (1 : Int32))) (fun (x28 : Int32) => (fun (w1 : Int32) (w2 : (Nat → Int32)) (w3 : (Nat → Int64)) => L_X10_note_78 page w1 1024 (0 : Int32) w2 (fun (w6 : (Nat → Int32)) => gd (inB w1 10) (nm ((w1 + (1 : Int32))) (fun (x12 : Int32) => some (x12, w6, (vp_updL w3 (Int32.toNatClampNeg w1) sd)))))) x28 bk1 w23))
    obtain ⟨bk', b1, b2, b3⟩ := note78 page bk1 (a := 9) (by decide) (fun (w6 : (Nat → Int32)) => gd (inB (nI 9) 10) (nm ((nI 9 + (1 : Int32))) (fun (x12 : Int32) => some (x12, w6, (vp_updL bs1 (Int32.toNatClampNeg (nI 9)) sd)))))
    refine ⟨10, (nx + 1) % 10, mo', bk', vp_updL se nx sd, vp_updL bs1 9 sd, ⟨by omega, by omega, fun i hi => ?_⟩, by rw [hrec, if_neg (by omega)], ?_⟩
    · by_cases e : i = 9
      · subst e
        refine ⟨M, hM, fun j hj => ?_, fun j hj => ?_, ?_⟩
        · rw [show ((nx + 1) % 10 + 10 - 10 + 9) % 10 = nx by omega]; exact hs2 j hj
        · rw [b1 j hj]; exact hpg j hj
        · rw [show ((nx + 1) % 10 + 10 - 10 + 9) % 10 = nx by omega, pk_uLs, pk_uLs]
      · obtain ⟨M2, m1, m2, m3, m4⟩ := hE (i + 1) (by omega)
        have ep : ((nx + 1) % 10 + 10 - 10 + i) % 10 = (nx + 10 - 10 + (i + 1)) % 10 := by omega
        refine ⟨M2, m1, fun j hj => ?_, fun j hj => ?_, ?_⟩
        · rw [ep, hs3 _ (by omega)]; exact m2 j hj
        · rw [b2 _ (by omega), c1 _ (by omega), show 12 * i + j + 12 = 12 * (i + 1) + j by omega]; exact m3 j hj
        · rw [ep, pk_uLn (by omega), pk_uLn e, e1 _ (by omega)]; exact m4
    · unfold m_X10_note
      rw [nm_eq, if_pos (show nI 10 = 10 from rfl), c2, e2, nm_eq, show nI 10 - 1 = nI 9 by decide]
      dsimp only
      rw [b3, inB_nI (by decide) (by decide), gd_t, nm_eq, nI_1, nI_clamp (by decide)]
