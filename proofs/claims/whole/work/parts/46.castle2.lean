def RCas (nf : Nat) (so cm cs : Int32) : Prop := ∀ i, i < 32 → bt cs i = (decide (i < 2 ^ nf) && decide (((nI i ^^^ so) &&& cm) = 0))
theorem or_shl : ∀ k, k < 5 → ∀ s, s < 32 → s < 2 ^ k → ∀ b, b < 2 → nI s ||| (nI b <<< (nI k &&& 31)) = nI (s + b * 2 ^ k) := by decide +kernel
theorem rs_nat {L : Nat → Nat} {c : Nat} : ∀ k, k ≤ 5 → (∀ j, j < k → 48 ≤ L (2 + 3 * j + c) ∧ L (2 + 3 * j + c) ≤ 49) → ∃ s, s < 2 ^ k ∧ rs L c k = nI s
  | 0, _, _ => ⟨0, by decide, rfl⟩
  | k + 1, hk, h => by
    obtain ⟨s, h1, h2⟩ := rs_nat k (by omega) (fun j hj => h j (by omega))
    have hd := h k (by omega)
    have h32 : 2 ^ k ≤ 32 := (by decide : ∀ n, n < 6 → 2 ^ n ≤ 32) k (by omega)
    have hb : L (2 + 3 * k + c) - 48 < 2 := by omega
    refine ⟨s + (L (2 + 3 * k + c) - 48) * 2 ^ k, ?_, ?_⟩
    · have : (L (2 + 3 * k + c) - 48) * 2 ^ k ≤ 1 * 2 ^ k := Nat.mul_le_mul_right _ (by omega)
      rw [Nat.pow_succ]
      omega
    · show rs L c k ||| (nI (L (2 + 3 * k + c) - 48) <<< (nI k &&& 31)) = _
      rw [h2, or_shl k (by omega) s (by omega) h1 _ hb]
theorem sub48 {b : Nat} (h : 48 ≤ b) : nI b - 48 = nI (b - 48) := by
  rw [show (48 : Int32) = nI 48 from rfl]
  exact pk_sub h
theorem read40 {n : Nat} (hn : n ≤ 24) {L : Nat → Nat} {tb : Nat → Int32} (hL : ∀ i, i < n → L i < 256 ∧ tb i = nI (L i)) {k : Nat} (hk : 2 + 3 * k = n) (hk6 : k < 6) (hd : ∀ c, c = 1 ∨ c = 2 → ∀ j, j < k → 48 ≤ L (2 + 3 * j + c) ∧ L (2 + 3 * j + c) ≤ 49) (K : Int32 → Int32 → Option (Int32 × Int32 × Int32 × Int32 × Int32)) :
    L_X1_read_40 (nI n) tb 24 (nI k) 1024 0 0 0 K = K (rs L 1 k) (rs L 2 k) := by
  obtain ⟨⟨s1, s2⟩, ⟨h1, h1'⟩, h2⟩ := loop_u (fun m (s : Int32 × Int32) j => L_X1_read_40 (nI n) tb 24 (nI k) m (nI j) s.1 s.2 K) (fun s => K s.1 s.2) k (fun j s => s.1 = rs L 1 j ∧ s.2 = rs L 2 j)
    (by
      intro m s h
      rw [L_X1_read_40.eq_2, if_pos (Int32.le_refl _)])
    (by
      rintro m ⟨s1, s2⟩ j hj ⟨g1, g2⟩
      dsimp only at g1 g2
      refine ⟨(rs L 1 (j + 1), rs L 2 (j + 1)), ⟨rfl, rfl⟩, ?_⟩
      have d1 := hd 1 (Or.inl rfl) j hj
      have d2 := hd 2 (Or.inr rfl) j hj
      dsimp only
      rw [L_X1_read_40.eq_2, if_neg (show ¬ nI k ≤ nI j by rw [n_le _ _ (by omega) (by omega)]; omega), show (2 : Int32) + nI j * 3 = nI (2 + 3 * j) by rw [show (3 : Int32) = nI 3 from rfl, pk_mul, show (2 : Int32) = nI 2 from rfl, nI_add, Nat.mul_comm j 3], nm_eq, nI_1, at24 (by omega) hn, bd1_some, nI_lit_add _ 2 2 rfl, at24 (by omega) hn, nm_eq, bd1_some, nm_eq, nm_eq, nI_1, (hL _ (by omega)).2, (hL _ (by omega)).2, sub48 d1.1, sub48 d2.1, g1, g2]
      rfl)
    (j := 0) (s := (0, 0)) (fuel := 1024) (Nat.zero_le _) (by omega) ⟨rfl, rfl⟩
  dsimp only at h1 h1' h2
  rw [← h1, ← h1']
  exact h2
theorem read_eq {n : Nat} (hn : n ≤ 24) {L : Nat → Nat} {tb : Nat → Int32} (hL : ∀ i, i < n → L i < 256 ∧ tb i = nI (L i)) {k : Nat} (hk : 2 + 3 * k = n) (hk6 : k < 6) (hd0 : 48 ≤ L 1) (hd : ∀ c, c = 1 ∨ c = 2 → ∀ j, j < k → 48 ≤ L (2 + 3 * j + c) ∧ L (2 + 3 * j + c) ≤ 49) (z1 z2 z3 z4 z5 : Int32) :
    ∃ cs, m_X1_read 24 z1 z2 z3 z4 z5 (nI n) tb = some (nI k, rs L 1 k, rs L 2 k, cs, nI (L 1 - 48)) ∧ RCas k (rs L 1 k) (rs L 2 k) cs := by
  obtain ⟨cs, c1, c2⟩ := ag_class hk6 (rs L 1 k) (rs L 2 k)
  refine ⟨cs, ?_, c2⟩
  unfold m_X1_read
  rw [show m_X3_at 1 24 (nI n) tb = some (tb 1) from at24 (i := 1) (by omega) hn tb, bd1_some, (hL 1 (by omega)).2, sub48 hd0, nm_eq, nm_eq, sub2 (by omega), show nI (n - 2) / 3 = nI k by
    rw [show (3 : Int32) = nI 3 from rfl, pk_div (by omega) (by omega) (by decide), show (n - 2) / 3 = k by omega]]
  rw [show (if nI k < 5 then nI k else 5) = nI k by
    by_cases h5 : k < 5
    · rw [if_pos (show nI k < 5 by rw [q5_gt _ (by omega)]; exact h5)]
    · rw [if_neg (show ¬ nI k < 5 by rw [q5_gt _ (by omega)]; exact h5), show k = 5 by omega]; rfl]
  rw [read40 hn hL hk hk6 hd, c1, bd1_some]
theorem cas46 (ik : Nat → Int32) (K : (Nat → Int32) → Option (Int32 × Int32 × Int32 × Int32 × Int32 × Int32 × Int32 × Int32 × Int32 × Int32 × Int32 × (Nat → Int32) × Int32 × (Nat → Int32))) : ∃ w, (∀ i, i < 2 → w i = 0) ∧ L_X9_castle_56 1024 0 ik K = K w := by
  obtain ⟨s, h1, h2⟩ := loop_u (fun n (s : Nat → Int32) j => L_X9_castle_56 n (nI j) s K) (fun s => K s) 2 (fun j s => ∀ i, i < j → s i = 0)
    (by
      intro n s h
      rw [L_X9_castle_56.eq_2, if_pos (by decide)])
    (by
      intro n s j hj g1
      refine ⟨upd s j (vp_nar .boolean 0), fun i hi => ?_, ?_⟩
      · by_cases e : i = j
        · subst e; rw [pk_us]; decide
        · rw [pk_un e]; exact g1 i (by omega)
      · rw [L_X9_castle_56.eq_2, if_neg (show ¬ (2 : Int32) ≤ nI j by rw [q2_le _ (by omega)]; omega), inB_nI (by omega) hj, gd_t, nm_eq, nI_1, nI_clamp (by omega)])
    (j := 0) (s := ik) (fuel := 1024) (by decide) (by decide) (fun i hi => absurd hi (Nat.not_lt_zero i))
  exact ⟨s, h1, h2⟩
theorem cas47 {f so cm r : Int32} (h : m_X10_agreed f so cm = some r) (pg : Nat → Int32) (K : (Nat → Int32) → Option (Int32 × Int32 × Int32 × Int32 × Int32 × Int32 × Int32 × Int32 × Int32 × Int32 × Int32 × (Nat → Int32) × (Nat → Int32) × (Nat → Int32) × (Nat → Int32) × (Nat → Int32) × (Nat → Int32))) : ∃ w, (∀ i, i < 7 → w i = r) ∧ L_X10_castle_47 f so cm 1024 0 pg K = K w := by
  obtain ⟨s, h1, h2⟩ := loop_u (fun n (s : Nat → Int32) j => L_X10_castle_47 f so cm n (nI j) s K) (fun s => K s) 7 (fun j s => ∀ i, i < j → s i = r)
    (by
      intro n s h
      rw [L_X10_castle_47.eq_2, if_pos (by decide)])
    (by
      intro n s j hj g1
      refine ⟨upd s j r, fun i hi => ?_, ?_⟩
      · by_cases e : i = j
        · subst e; exact pk_us
        · rw [pk_un e]; exact g1 i (by omega)
      · rw [L_X10_castle_47.eq_2, if_neg (show ¬ (7 : Int32) ≤ nI j by rw [q7_le _ (by omega)]; omega), h, bd1_some, inB_nI (by omega) (by omega), gd_t, nm_eq, nI_1, nI_clamp (by omega)])
    (j := 0) (s := pg) (fuel := 1024) (by decide) (by decide) (fun i hi => absurd hi (Nat.not_lt_zero i))
  exact ⟨s, h1, h2⟩
theorem op_castle {nf so : Nat} (hf : nf < 6) (hso : so < 2 ^ nf) {tl tz : Int32} {tb tx : Nat → Int32} (hX : RText 24 tl tz tb tx) {cm cs : Int32} (hC : RCas nf (nI so) cm cs) {d t a c k : Int32} {kn pg : Nat → Int32} (h : RNow nf so d t a c k kn pg) {nx ac aa : Int32} {mo bk : Nat → Int32} {se bs : Nat → Int64} (hA : RActs nf so nx ac aa mo bk se bs) {ik mi km kp : Nat → Int32} (hK : RKept nf so ik mi km kp) {ye no fo : Nat → Int32} (hT : TabOK nf ye no) (hF : FacOK fo) (fd th pl qz z1 z2 z3 z4 : Int32) (qu st : Nat → Int32) :
    ∃ r nf' so' cm' cs' fd' d' t' a' c' k' kn' ac' ik' w2 w3 w4 w5 w6 fo' ye' no' pg' mi', nf' < 6 ∧ so' < 2 ^ nf' ∧
      m_X9_castle 24 tl tb (nI nf) (nI so) cm cs fd d t a c k kn ac ik = some (r, nI nf', nI so', cm', cs', fd', d', t', a', c', k', kn', ac', ik') ∧
      m_X10_castle th tz pl qz (nI nf) (nI so) cm z1 z2 z3 z4 aa tx fo ye no qu st pg mi = some (r, 0, w2, nI nf', nI so', cm', w3, w4, w5, w6, ac', fo', ye', no', st, pg', mi') ∧
      RCas nf' (nI so') cm' cs' ∧ RNow nf' so' d' t' a' c' k' kn' pg' ∧ RActs nf' so' nx ac' ac' mo bk se bs ∧ RKept nf' so' ik' mi' km kp ∧ TabOK nf' ye' no' ∧ FacOK fo' := by
  obtain ⟨n, L, hn, rfl, rfl, hL⟩ := hX
  have hL1 : ∀ i, i < n → L i < 256 ∧ tb i = nI (L i) := fun i hi => ⟨(hL i hi).1, (hL i hi).2.1⟩
  have hL2 : ∀ i, i < n → L i < 256 ∧ tx i = nI (L i) := fun i hi => ⟨(hL i hi).1, (hL i hi).2.2⟩
  obtain ⟨r, a1, a2⟩ := ff_class hn hL1
  obtain ⟨r', w2, w3, w4, w5, w6, b1, b2, b3⟩ := rc_model hn hL2 pl z1 z2 z3 z4
  have e := FF_one a2 b2
  subst e
  unfold m_X9_castle m_X10_castle
  rw [a1, b1, bd1_some, bd6_some]
  by_cases er : r = -9
  · obtain ⟨rfl, rfl, rfl, k6, rfl⟩ := b3 er
    obtain ⟨h2n, h3n, hok⟩ : 2 ≤ n ∧ (n - 2) % 3 = 0 ∧ ∀ i, i < n → ft i (L i) = true := by
      rcases a2 with ⟨-, x1, x2, x3⟩ | ⟨j, x1, x2, -⟩ | ⟨x1, -⟩
      · exact ⟨x1, x2, x3⟩
      · rw [er] at x2; exact absurd x2.symm (nI_n9 (by omega))
      · rw [er] at x1; exact absurd x1.symm (nI_n9 (by omega))
    obtain ⟨q, hq⟩ : ∃ q, q = (n - 2) / 3 := ⟨_, rfl⟩
    rw [← hq] at k6 ⊢
    have hkn : 2 + 3 * q = n := by omega
    have hd0 : 48 ≤ L 1 ∧ L 1 ≤ 54 := by
      have := hok 1 (by omega)
      unfold ft at this
      rw [if_neg (by decide), if_pos rfl, Bool.and_eq_true] at this
      exact ⟨of_decide_eq_true this.1, of_decide_eq_true this.2⟩
    have hd : ∀ c, c = 1 ∨ c = 2 → ∀ j, j < q → 48 ≤ L (2 + 3 * j + c) ∧ L (2 + 3 * j + c) ≤ 49 := by
      intro c hc j hj
      have := hok (2 + 3 * j + c) (by omega)
      rw [ft_d (by omega) hc, Bool.and_eq_true] at this
      exact ⟨of_decide_eq_true this.1, of_decide_eq_true this.2⟩
    obtain ⟨s, hs, es⟩ := rs_nat (L := L) (c := 1) q (by omega) (hd 1 (Or.inl rfl))
    obtain ⟨cs', c1, c2⟩ := read_eq hn hL1 hkn k6 hd0.1 hd (nI nf) (nI so) cm cs fd
    obtain ⟨fo', ye', no', l1, l2, l3⟩ := m_lay k6 qz fo ye no qu st
    obtain ⟨ag, g1, g2⟩ := ag_model k6 (rs L 1 q) (rs L 2 q)
    have eag : ag = cs' := b_ext fun i hi => by rw [g2 i hi, c2 i hi]
    subst eag
    obtain ⟨kn', f1, f2⟩ := w_fill ag kn
    obtain ⟨ik', i1, i2⟩ := cas46 ik (fun (w21 : (Nat → Int32)) => some (nI q, nI q, rs L 1 q, rs L 2 q, ag, nI (L 1 - 48), (0 : Int32), nI (L 1 - 48), (0 : Int32), (0 : Int32), (0 : Int32), kn', (0 : Int32), w21))
    obtain ⟨p, p1, p2⟩ := cas47 g1 pg (fun (w16 : (Nat → Int32)) => some (nI q, (0 : Int32), w2, nI q, rs L 1 q, rs L 2 q, nI q, rs L 1 q, rs L 2 q, nI (L 1 - 48), (0 : Int32), fo', ye', no', st, (upd (upd (upd (upd (upd w16 7 (0 : Int32)) 8 (nI (L 1 - 48))) 9 (0 : Int32)) 10 (0 : Int32)) 11 (0 : Int32)), (upd (upd mi 0 (vp_nar .boolean (0 : Int32))) 1 (vp_nar .boolean (0 : Int32)))))
    rw [if_pos er, if_pos er, c1, bd5_some]
    unfold m_X4_begin m_X0_forget
    rw [f1, bd1_some, bd6_some, bd1_some, i2, l3, bd4_some, cn7.1, cn7.2.1, cn7.2.2.1, cn7.2.2.2.1, cn7.2.2.2.2, show Int32.toNatClampNeg 0 = 0 from rfl, show Int32.toNatClampNeg 1 = 1 from rfl, p2, es]
    rw [es] at c2
    refine ⟨_, q, s, _, _, _, _, _, _, _, _, _, _, _, _, _, _, _, _, _, _, _, _, _, k6, hs, rfl, rfl, c2, ⟨_, ⟨⟨0, L 1 - 48, 0, 0, 0, ?_, ?_, ?_, ?_, pk_us, by decide, by omega, by decide, by decide, by decide, ?_⟩, fun i hi => ?_⟩, ?_, ?_, ?_, ?_, pk_us.symm, fun i hi => ?_, fun i hi => rfl⟩, acts_0 nf so hA q s, fun i hi => ?_, l2, l1⟩
    · rw [pk_un (by decide), pk_un (by decide), pk_un (by decide), pk_un (by decide), pk_us]; rfl
    · rw [pk_un (by decide), pk_un (by decide), pk_un (by decide), pk_us]
    · rw [pk_un (by decide), pk_un (by decide), pk_us]; rfl
    · rw [pk_un (by decide), pk_us]; rfl
    · rw [pk_un (by omega), pk_un (by omega), pk_un (by omega), pk_un (by omega), pk_un (by omega), p1 _ (by omega), c2 s (so32 k6 hs), decide_eq_true hs, Int32.xor_self, Int32.zero_and]
      rfl
    · rw [pk_un (by omega), pk_un (by omega), pk_un (by omega), pk_un (by omega), pk_un (by omega), p1 _ (by omega)]
      intro j hj hb
      rw [c2 j hj, Bool.and_eq_true] at hb
      exact of_decide_eq_true hb.1
    · rw [pk_un (by decide), pk_un (by decide), pk_un (by decide), pk_un (by decide), pk_us]
    · rw [pk_un (by decide), pk_un (by decide), pk_un (by decide), pk_us]
    · rw [pk_un (by decide), pk_un (by decide), pk_us]
    · rw [pk_un (by decide), pk_us]
    · rw [pk_un (by omega), pk_un (by omega), pk_un (by omega), pk_un (by omega), pk_un (by omega), p1 _ (by omega), f2 i hi]
    · refine ⟨0, by decide, i1 i hi, ?_, fun e => absurd e (by decide)⟩
      rcases (show i = 0 ∨ i = 1 by omega) with rfl | rfl
      · rw [pk_un (by decide), pk_us]; decide
      · rw [pk_us]; decide
  · rw [if_neg er, if_neg er]
    have eA : aa = ac := by
      obtain ⟨a, n, rfl, rfl, -⟩ := hA
      rfl
    subst eA
    exact ⟨_, nf, so, _, _, _, _, _, _, _, _, _, _, _, _, _, _, _, _, _, _, _, _, _, hf, hso, rfl, rfl, hC, h, hA, hK, hT, hF⟩
