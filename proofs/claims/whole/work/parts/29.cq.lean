theorem cq_s1 {nf n m : Nat} (hf : nf < 6) (hn : n ≤ 16) (hm : m < n) {cb : Nat → Int32} {b : Nat} (hb : b < 256) (hc : cb m = nI b) (y : Bool) {wd td : Nat} (hw : wd < 7) (ht : td < 7) (w : Nat → Int32) (K : Int32 → (Nat → Int32) → Option (Int32 × (Nat → Int32))) (fuel : Nat) (k : kd nf b = 1) {l : Nat} (hl : l < 16) : L_X5_casesSo_14 (nI n) cb (b2i y) (nI wd) (nI td) 16 (fuel + 1) (nI (l + 1)) (nI m) w K = L_X5_casesSo_14 (nI n) cb (b2i y) (nI wd) (nI td) 16 fuel (nI (l + 1)) (nI m - 1) (upd w l (w l ^^^ (-1))) K := by
  have a1 := kd_1.mp k
  rw [L_X5_casesSo_14.eq_2]
  rw [if_neg (nI_pos (show m < 2 ^ 31 by omega)), at_eq hm hn, bd1_some, hc, nm_eq, if_pos (show nI b = 110 by rw [a1]; rfl), if_neg (show ¬ nI (l + 1) < 1 by rw [q1_gt _ (by omega)]; omega), nI_pred, inB_nI (by omega) hl, gd_t, nm_eq, gd_t]
  dsimp only
  rw [nm_eq, nI_clamp (by omega), nI_m1']
theorem cq_s0 {nf n m : Nat} (hf : nf < 6) (hn : n ≤ 16) (hm : m < n) {cb : Nat → Int32} {b : Nat} (hb : b < 256) (hc : cb m = nI b) (y : Bool) {wd td : Nat} (hw : wd < 7) (ht : td < 7) (w : Nat → Int32) (K : Int32 → (Nat → Int32) → Option (Int32 × (Nat → Int32))) (fuel : Nat) (k : kd nf b = 0) {l : Nat} (hl : l < 16) : L_X5_casesSo_14 (nI n) cb (b2i y) (nI wd) (nI td) 16 (fuel + 1) (nI l) (nI m) w K = L_X5_casesSo_14 (nI n) cb (b2i y) (nI wd) (nI td) 16 fuel (nI (l + 1)) (nI m - 1) (upd w l (lfv y (wd == td) td b)) K := by
  have e1 := join_eq nf hf b hb
  obtain ⟨s1, s2⟩ := sof_eq nf hf b hb k
  have a1 : ¬ b = 110 := fun e => by rw [kd_1.mpr e] at k; omega
  have hcs := cs_eq (sq b) s2 y wd hw td ht
  rw [k] at e1
  rw [L_X5_casesSo_14.eq_2]
  rw [if_neg (nI_pos (show m < 2 ^ 31 by omega)), at_eq hm hn, bd1_some, hc, nm_eq, if_neg (show ¬ nI b = 110 by rw [q110_eq _ (by omega)]; exact a1), e1, bd1_some, if_pos (show b2i (0 == 2) = 0 from rfl), if_neg (show ¬ (16 : Int32) ≤ nI l by rw [q16_le _ (by omega)]; omega), s1, bd1_some, hcs, bd1_some, inB_nI (by omega) hl, gd_t, nm_eq]
  dsimp only
  rw [nm_eq, nI_1, nI_clamp (by omega), nI_m1']
  rfl
theorem cq_s2 {nf n m : Nat} (hf : nf < 6) (hn : n ≤ 16) (hm : m < n) {cb : Nat → Int32} {b : Nat} (hb : b < 256) (hc : cb m = nI b) (y : Bool) {wd td : Nat} (hw : wd < 7) (ht : td < 7) (w : Nat → Int32) (K : Int32 → (Nat → Int32) → Option (Int32 × (Nat → Int32))) (fuel : Nat) (k : kd nf b = 2) {l : Nat} (hl : l + 1 < 16) : L_X5_casesSo_14 (nI n) cb (b2i y) (nI wd) (nI td) 16 (fuel + 1) (nI (l + 2)) (nI m) w K = L_X5_casesSo_14 (nI n) cb (b2i y) (nI wd) (nI td) 16 fuel (nI (l + 1)) (nI m - 1) (upd w l (if b = 38 then w (l + 1) &&& w l else if b = 124 then w (l + 1) ||| w l else w (l + 1) ^^^ w l)) K := by
  have e1 := join_eq nf hf b hb
  have a2 := kd_2.mp k
  have a1 : ¬ b = 110 := by omega
  have ej : ∀ z1 z2 : Int32, m_X5_joined (nI b) z1 z2 = some (if b = 38 then z1 &&& z2 else if b = 124 then z1 ||| z2 else z1 ^^^ z2) := by
    intro z1 z2
    unfold m_X5_joined
    rcases a2 with e | e | e <;> subst e <;> rfl
  rw [k] at e1
  rw [L_X5_casesSo_14.eq_2]
  rw [if_neg (nI_pos (show m < 2 ^ 31 by omega)), at_eq hm hn, bd1_some, hc, nm_eq, if_neg (show ¬ nI b = 110 by rw [q110_eq _ (by omega)]; exact a1), e1, bd1_some, if_neg (show ¬ b2i (2 == 2) = 0 by decide), if_neg (show ¬ nI (l + 2) < 2 by rw [q2_gt _ (by omega)]; omega), nm_eq, show nI (l + 2) + (-1) = nI (l + 1) from pk_m1 (l + 1), nI_pred, inB_nI (by omega) hl, gd_t, inB_nI (by omega) (by omega), gd_t, nI_clamp (by omega), nI_clamp (by omega), ej, bd1_some, gd_t]
  dsimp only
  rw [nm_eq, nI_m1']
theorem cq_step {nf n m : Nat} (hf : nf < 6) (hn : n ≤ 16) (hm : m < n) {cb : Nat → Int32} {b : Nat} (hb : b < 256) (hc : cb m = nI b) (k3 : kd nf b < 3) (y : Bool) {wd td : Nat} (hw : wd < 7) (ht : td < 7) {st : List Int32} (l2 : st.length < 16) (l1 : kd nf b ≤ st.length) {w : Nat → Int32} (h2 : AR w st)
    (K : Int32 → (Nat → Int32) → Option (Int32 × (Nat → Int32))) (fuel : Nat) :
    ∃ w', AR w' (qstep (lfv y (wd == td) td) b st) ∧ L_X5_casesSo_14 (nI n) cb (b2i y) (nI wd) (nI td) 16 (fuel + 1) (nI st.length) (nI (m + 1) - 1) w K = L_X5_casesSo_14 (nI n) cb (b2i y) (nI wd) (nI td) 16 fuel (nI (qstep (lfv y (wd == td) td) b st).length) (nI m - 1) w' K := by
  rw [nI_pred]
  rcases (show kd nf b = 0 ∨ kd nf b = 1 ∨ kd nf b = 2 by omega) with k | k | k
  · have a1 : ¬ b = 110 := fun e => by rw [kd_1.mpr e] at k; omega
    have a2 : ¬ (b = 38 ∨ b = 124 ∨ b = 94) := fun e => by rw [kd_2.mpr e] at k; omega
    have eq2 : qstep (lfv y (wd == td) td) b st = lfv y (wd == td) td b :: st := by
      unfold qstep
      rw [if_neg a1, if_neg (by omega), if_neg (by omega), if_neg (by omega)]
    rw [eq2, List.length_cons]
    exact ⟨upd w st.length (lfv y (wd == td) td b), ⟨pk_us, AR_upd (Nat.le_refl _) h2⟩, cq_s0 hf hn hm hb hc y hw ht w K fuel k l2⟩
  · have a1 := kd_1.mp k
    cases st with
    | nil => rw [k] at l1; simp at l1
    | cons a r =>
      have eq2 : qstep (lfv y (wd == td) td) b (a :: r) = (a ^^^ (-1)) :: r := by
        unfold qstep
        rw [if_pos a1]
      rw [List.length_cons] at l2
      have := cq_s1 hf hn hm hb hc y hw ht w K fuel k (l := r.length) (by omega)
      rw [h2.1] at this
      rw [eq2, List.length_cons, List.length_cons]
      exact ⟨upd w r.length (a ^^^ (-1)), ⟨pk_us, AR_upd (Nat.le_refl _) h2.2⟩, this⟩
  · have a2 := kd_2.mp k
    have a1 : ¬ b = 110 := by omega
    cases st with
    | nil => rw [k] at l1; simp at l1
    | cons a r =>
      cases r with
      | nil => rw [k] at l1; simp at l1
      | cons c r =>
        obtain ⟨h21, h22, h23⟩ := h2
        simp only [List.length_cons] at l1 l2 h21
        have eq2 : qstep (lfv y (wd == td) td) b (a :: c :: r) = (if b = 38 then a &&& c else if b = 124 then a ||| c else a ^^^ c) :: r := by
          unfold qstep
          rw [if_neg a1]
          by_cases e38 : b = 38
          · simp only [e38, ↓reduceIte]
          · by_cases e124 : b = 124
            · simp only [e124, show ¬ (124 : Nat) = 38 by decide, ↓reduceIte]
            · simp only [e38, e124, show b = 94 by omega, show ¬ (94 : Nat) = 38 by decide, show ¬ (94 : Nat) = 124 by decide, ↓reduceIte]
        have := cq_s2 hf hn hm hb hc y hw ht w K fuel k (l := r.length) (by omega)
        rw [h21, h22] at this
        rw [eq2, List.length_cons, List.length_cons, List.length_cons]
        exact ⟨upd w r.length (if b = 38 then a &&& c else if b = 124 then a ||| c else a ^^^ c), ⟨pk_us, AR_upd (Nat.le_refl _) h23⟩, this⟩
theorem qs_at (lv : Nat → Int32) (L : Nat → Nat) {n m : Nat} (hm : m < n) : qs lv L n (n - m) = qstep lv (L m) (qs lv L n (n - (m + 1))) := by
  rw [show n - m = (n - (m + 1)) + 1 by omega]
  show qstep _ (L (n - 1 - (n - (m + 1)))) _ = _
  rw [show n - 1 - (n - (m + 1)) = m by omega]
theorem qs_fit (lv : Nat → Int32) {nf : Nat} {L : Nat → Nat} {n m : Nat} {D : Nat → Nat} (dn : D n = 0) (dd : ∀ i, i < n → 1 ≤ D i ∧ kd nf (L i) < 3 ∧ D (i + 1) + 1 = D i + kd nf (L i)) (hm : m < n) (hn : n ≤ 16) : (qs lv L n (n - (m + 1))).length < 16 ∧ kd nf (L m) ≤ (qs lv L n (n - (m + 1))).length := by
  obtain ⟨l1, l2⟩ := qs_len lv dn dd (n - (m + 1)) (by omega)
  obtain ⟨d1, d2, d3⟩ := dd m hm
  rw [show n - (n - (m + 1)) = m + 1 by omega] at l1
  constructor <;> omega
theorem qs_one (lv : Nat → Int32) {nf : Nat} {L : Nat → Nat} {n : Nat} {D : Nat → Nat} (d0 : D 0 = 1) (dn : D n = 0) (dd : ∀ i, i < n → 1 ≤ D i ∧ kd nf (L i) < 3 ∧ D (i + 1) + 1 = D i + kd nf (L i)) : qs lv L n n = [QV lv L n] := by
  obtain ⟨l1, -⟩ := qs_len lv dn dd n (Nat.le_refl n)
  rw [Nat.sub_self, d0] at l1
  unfold QV
  generalize qs lv L n n = st at *
  cases st with
  | nil => simp at l1
  | cons a r =>
    cases r with
    | nil => rfl
    | cons c r => simp at l1
/-- the class works a question out -/
theorem cq_eq {nf n : Nat} (hf : nf < 6) (hn : n ≤ 16) (cb : Nat → Int32) (L : Nat → Nat) (hL : ∀ i, i < n → L i < 256 ∧ cb i = nI (L i)) (hW : WF nf L n) (y : Bool) {wd td : Nat} (hw : wd < 7) (ht : td < 7) (v : Nat → Int32) :
    ∃ v', m_X5_casesSo (b2i y) (nI wd) (nI td) 16 (nI n) cb v = some (QV (lfv y (wd == td) td) L n, v') := by
  obtain ⟨D, d0, dn, dd⟩ := hW
  have one := qs_one (lfv y (wd == td) td) d0 dn dd
  unfold m_X5_casesSo
  rw [nm_eq]
  generalize hK : (fun (x5 : Int32) (w6 : (Nat → Int32)) => if x5 < (1 : Int32) then some ((0 : Int32), w6) else gd (inB (x5 - (1 : Int32)) 16) (some ((w6 (Int32.toNatClampNeg (x5 - (1 : Int32)))), w6))) = K
  obtain ⟨⟨h, v1⟩, ⟨g1, g2, g4⟩, g3⟩ := loop_dn (fun fuel (s : Int32 × (Nat → Int32)) m => L_X5_casesSo_14 (nI n) cb (b2i y) (nI wd) (nI td) 16 fuel s.1 (nI m - 1) s.2 K)
    (fun s => K s.1 s.2)
    (fun m s => m ≤ n ∧ s.1 = nI (qs (lfv y (wd == td) td) L n (n - m)).length ∧ AR s.2 (qs (lfv y (wd == td) td) L n (n - m)))
    (by
      rintro fuel ⟨h, w⟩ ⟨-, h1, h2⟩
      dsimp only
      rw [L_X5_casesSo_14.eq_2]
      simp only [m0_lt, ↓reduceIte])
    (by
      rintro fuel ⟨h, w⟩ m ⟨hm, h1, h2⟩
      dsimp only at h1 h2
      obtain ⟨hb, hc⟩ := hL m (by omega)
      obtain ⟨l2, l1⟩ := qs_fit (lfv y (wd == td) td) dn dd (by omega : m < n) hn
      obtain ⟨w', a1, a2⟩ := cq_step hf hn (by omega : m < n) hb hc (dd m (by omega)).2.1 y hw ht l2 l1 h2 K fuel
      rw [← qs_at (lfv y (wd == td) td) L (by omega : m < n)] at a1 a2
      refine ⟨(_, w'), ⟨by omega, rfl, a1⟩, ?_⟩
      rw [h1]
      exact a2)
    (j := n) (s := (0, v)) (fuel := 1024) (by omega) ⟨Nat.le_refl n, by rw [Nat.sub_self]; rfl, by rw [Nat.sub_self]; trivial⟩
  refine ⟨v1, Eq.trans g3 ?_⟩
  dsimp only at g2 g4 ⊢
  rw [Nat.sub_zero, one] at g2 g4
  have hv : v1 0 = QV (lfv y (wd == td) td) L n := g4.1
  rw [g2, ← hK]
  show (if nI 1 < 1 then _ else gd (inB (nI 1 - 1) 16) (some (v1 (Int32.toNatClampNeg (nI 1 - 1)), v1))) = some (_, v1)
  rw [if_neg (by decide), show nI 1 - 1 = nI 0 by decide, inB_nI (by decide) (by decide), gd_t, nI_clamp (by decide), hv]
