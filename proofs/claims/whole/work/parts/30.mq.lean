theorem nar_b (x : Bool) : vp_nar .boolean (b2i x) = b2i x := by cases x <;> decide
theorem inv_b (x : Bool) : (if b2i x = 0 then (1 : Int32) else 0) = b2i (!x) := by cases x <;> decide
theorem mq_s1 {nf n m : Nat} (hf : nf < 6) (hn : n ≤ 16) (hm : m < n) {mb : Nat → Int32} {b : Nat} (hb : b < 256) (hc : mb m = nI b) (y : Bool) {dd td st : Nat} (hd : dd < 1000) (ht : td < 7) (hs : st < 32) (w : Nat → Int32) (K : (Nat → Int32) → Option (Int32 × (Nat → Int32))) (fuel : Nat) (k : kd nf b = 1) {l : Nat} (hl : l < 16) {A : Bool} (hA : w l = b2i A) : L_X10_isQuestion_11 (nI nf) mb (nI dd) (nI td) (nI st) (b2i y) (fuel + 1) (nI (l + 1)) (nI m) w K = L_X10_isQuestion_11 (nI nf) mb (nI dd) (nI td) (nI st) (b2i y) fuel (nI (l + 1)) (nI m - 1) (upd w l (b2i (!A))) K := by
  have a1 := kd_1.mp k
  rw [L_X10_isQuestion_11.eq_2]
  rw [if_neg (nI_pos (show m < 2 ^ 31 by omega)), inB_nI (by omega) (by omega), gd_t, nm_eq, nI_clamp (by omega), hc, nm_eq, if_pos (show nI b = 110 by rw [a1]; rfl), nI_pred, inB_nI (by omega) (by omega), gd_t, nm_ite, gd_t, nI_clamp (by omega), hA, inv_b, nar_b]
  dsimp only
  rw [nm_eq, nI_m1']
theorem mq_s2 {nf n m : Nat} (hf : nf < 6) (hn : n ≤ 16) (hm : m < n) {mb : Nat → Int32} {b : Nat} (hb : b < 256) (hc : mb m = nI b) (y : Bool) {dd td st : Nat} (hd : dd < 1000) (ht : td < 7) (hs : st < 32) (w : Nat → Int32) (K : (Nat → Int32) → Option (Int32 × (Nat → Int32))) (fuel : Nat) (k : kd nf b = 2) {l : Nat} (hl : l + 1 < 16) {A B : Bool} (hA : w (l + 1) = b2i A) (hB : w l = b2i B) : L_X10_isQuestion_11 (nI nf) mb (nI dd) (nI td) (nI st) (b2i y) (fuel + 1) (nI (l + 2)) (nI m) w K = L_X10_isQuestion_11 (nI nf) mb (nI dd) (nI td) (nI st) (b2i y) fuel (nI (l + 1)) (nI m - 1) (upd w l (b2i (if b = 38 then A && B else if b = 124 then A || B else A ^^ B))) K := by
  have a2 := kd_2.mp k
  have a1 : ¬ b = 110 := by omega
  have e3 := wants_eq nf hf b hb
  rw [k] at e3
  rw [L_X10_isQuestion_11.eq_2]
  rw [if_neg (nI_pos (show m < 2 ^ 31 by omega)), inB_nI (by omega) (by omega), gd_t, nm_eq, nI_clamp (by omega), hc, nm_eq, if_neg (show ¬ nI b = 110 by rw [q110_eq _ (by omega)]; exact a1), e3, bd1_some, if_pos (show kI 2 = 2 from rfl), show nI (l + 2) - 1 = nI (l + 1) from nI_pred (l + 1), show nI (l + 2) - 2 = nI l by rw [show (2 : Int32) = nI 2 from rfl, pk_sub (by omega)]; rfl, inB_nI (by omega) (by omega), gd_t, nm_eq, inB_nI (by omega) (by omega), gd_t, nm_eq, nm_eq, show nI (l + 2) + (-1) = nI (l + 1) from pk_m1 (l + 1), nI_pred, inB_nI (by omega) (by omega), nI_clamp (by omega), nI_clamp (by omega), hA, hB]
  have fin : ∀ (F : Int32 → Option (Int32 × (Nat → Int32))), nm F (fun (k166 : Int32 → Option (Int32 × (Nat → Int32))) => if nI b = (38 : Int32) then nm (k166 (0 : Int32)) (fun (k125 : Option (Int32 × (Nat → Int32))) => if b2i A = (0 : Int32) then k125 else if b2i B = (0 : Int32) then k125 else k166 (1 : Int32)) else if nI b = (124 : Int32) then nm (k166 (1 : Int32)) (fun (k146 : Option (Int32 × (Nat → Int32))) => if b2i A = (0 : Int32) then if b2i B = (0 : Int32) then k166 (0 : Int32) else k146 else k146) else if b2i A = b2i B then k166 (0 : Int32) else k166 (1 : Int32)) = F (b2i (if b = 38 then A && B else if b = 124 then A || B else A ^^ B)) := by
    intro F
    rw [nm_eq]
    rcases a2 with e | e | e <;> subst e <;> cases A <;> cases B <;> rfl
  rw [fin, gd_t, nar_b]
  dsimp only
  rw [nm_eq, nI_m1']
theorem bt_nI (st k : Nat) (h : st < 4294967296) : bt (nI st) k = st.testBit k := by rw [bt_tn, tn_nI h]
theorem mq_leaf : ∀ nf, nf < 6 → ∀ b, b < 256 → kd nf b = 0 → (b = 116 ∨ b = 121 ∨ (48 ≤ b ∧ b ≤ 54) ∨ (97 ≤ b ∧ b < 102)) := by decide +kernel
theorem mq_s0 {nf n m : Nat} (hf : nf < 6) (hn : n ≤ 16) (hm : m < n) {mb : Nat → Int32} {b : Nat} (hb : b < 256) (hc : mb m = nI b) (y : Bool) {dd td st : Nat} (hd : dd < 1000) (ht : td < 7) (hs : st < 32) (w : Nat → Int32) (K : (Nat → Int32) → Option (Int32 × (Nat → Int32))) (fuel : Nat) (k : kd nf b = 0) {l : Nat} (hl : l < 16) : L_X10_isQuestion_11 (nI nf) mb (nI dd) (nI td) (nI st) (b2i y) (fuel + 1) (nI l) (nI m) w K = L_X10_isQuestion_11 (nI nf) mb (nI dd) (nI td) (nI st) (b2i y) fuel (nI (l + 1)) (nI m - 1) (upd w l (b2i (sso (sq b) (dd % 7 == td) td st y))) K := by
  have a1 : ¬ b = 110 := fun e => by rw [kd_1.mpr e] at k; omega
  have e3 := wants_eq nf hf b hb
  rw [k] at e3
  rw [L_X10_isQuestion_11.eq_2]
  rw [if_neg (nI_pos (show m < 2 ^ 31 by omega)), inB_nI (by omega) (by omega), gd_t, nm_eq, nI_clamp (by omega), hc, nm_eq, if_neg (show ¬ nI b = 110 by rw [q110_eq _ (by omega)]; exact a1), e3, bd1_some, if_neg (show ¬ kI 0 = 2 by decide), inB_nI (by omega) (by omega), nI_clamp (by omega), nI_1]
  have fin : ∀ (F : Int32 → Option (Int32 × (Nat → Int32))), nm F (fun (k244 : Int32 → Option (Int32 × (Nat → Int32))) => if nI b = (116 : Int32) then if (nI dd - nI dd / (7 : Int32) * (7 : Int32)) = nI td then k244 (1 : Int32) else k244 (0 : Int32) else if nI b = (121 : Int32) then k244 (b2i y) else if nI b < (97 : Int32) then if nI td = (nI b - (48 : Int32)) then k244 (1 : Int32) else k244 (0 : Int32) else bd1 (m_X10_has (nI st) (nI b - (97 : Int32))) (fun (r23 : Int32) => k244 r23)) = F (b2i (sso (sq b) (dd % 7 == td) td st y)) := by
    intro F
    rw [nm_eq, rem7 (by omega)]
    rcases mq_leaf nf hf b hb k with e | e | e | e
    · subst e
      rw [if_pos (by decide), show sso (sq 116) (dd % 7 == td) td st y = (dd % 7 == td) from rfl, ← nI_inj7 (a := dd % 7) (b := td) (by omega) (by omega)]
      by_cases h : nI (dd % 7) = nI td
      · rw [if_pos h, decide_eq_true h]; rfl
      · rw [if_neg h, decide_eq_false h]; rfl
    · subst e
      rw [if_neg (by decide), if_pos (by decide)]
      rfl
    · rw [if_neg (show ¬ nI b = 116 by rw [q116_eq _ (by omega)]; omega), if_neg (show ¬ nI b = 121 by rw [q121_eq _ (by omega)]; omega), if_pos (show nI b < 97 by rw [q97_gt _ (by omega)]; omega)]
      have e1 : sq b = b - 48 + 6 := by unfold sq; rw [if_neg (by omega), if_neg (by omega), if_pos (by omega)]
      have e2 : sso (sq b) (dd % 7 == td) td st y = (td == b - 48) := by
        rw [e1]; unfold sso
        rw [if_neg (by omega), if_neg (by omega), if_pos (by omega), Nat.add_sub_cancel]
      rw [e2, show nI b - 48 = nI (b - 48) by rw [show (48 : Int32) = nI 48 from rfl, pk_sub (by omega)], ← nI_inj7 (a := td) (b := b - 48) (by omega) (by omega)]
      by_cases h : nI td = nI (b - 48)
      · rw [if_pos h, decide_eq_true h]; rfl
      · rw [if_neg h, decide_eq_false h]; rfl
    · rw [if_neg (show ¬ nI b = 116 by rw [q116_eq _ (by omega)]; omega), if_neg (show ¬ nI b = 121 by rw [q121_eq _ (by omega)]; omega), if_neg (show ¬ nI b < 97 by rw [q97_gt _ (by omega)]; omega)]
      have e1 : sq b = b - 97 := by unfold sq; rw [if_neg (by omega), if_neg (by omega), if_neg (by omega)]
      have e2 : sso (sq b) (dd % 7 == td) td st y = st.testBit (b - 97) := by
        rw [e1]; unfold sso
        rw [if_pos (by omega)]
      rw [e2, show nI b - 97 = nI (b - 97) by rw [show (97 : Int32) = nI 97 from rfl, pk_sub (by omega)], m_has _ (by omega), bd1_some, bt_nI _ _ (by omega)]
  rw [fin, gd_t, nm_eq, nar_b]
  dsimp only
  rw [nm_eq, nI_m1']
def AM (w : Nat → Int32) (st : Nat) : List Int32 → Prop
  | [] => True
  | a :: r => w r.length = b2i (bt a st) ∧ AM w st r
theorem AM_upd {w : Nat → Int32} {st k : Nat} {x : Int32} : ∀ {r : List Int32}, r.length ≤ k → AM w st r → AM (upd w k x) st r
  | [], _, _ => trivial
  | a :: r, h, ⟨h1, h2⟩ => by
    rw [List.length_cons] at h
    exact ⟨by rw [pk_un (by omega)]; exact h1, AM_upd (by omega) h2⟩
theorem mq_step {nf n m : Nat} (hf : nf < 6) (hn : n ≤ 16) (hm : m < n) {mb : Nat → Int32} {b : Nat} (hb : b < 256) (hc : mb m = nI b) (y : Bool) {dd td st : Nat} (hd : dd < 1000) (ht : td < 7) (hs : st < 32) (w : Nat → Int32) (K : (Nat → Int32) → Option (Int32 × (Nat → Int32))) (fuel : Nat) (k3 : kd nf b < 3) {ls : List Int32} (l2 : ls.length < 16) (l1 : kd nf b ≤ ls.length) (h2 : AM w st ls) :
    ∃ w', AM w' st (qstep (lfv y (dd % 7 == td) td) b ls) ∧ L_X10_isQuestion_11 (nI nf) mb (nI dd) (nI td) (nI st) (b2i y) (fuel + 1) (nI ls.length) (nI (m + 1) - 1) w K = L_X10_isQuestion_11 (nI nf) mb (nI dd) (nI td) (nI st) (b2i y) fuel (nI (qstep (lfv y (dd % 7 == td) td) b ls).length) (nI m - 1) w' K := by
  rw [nI_pred]
  rcases (show kd nf b = 0 ∨ kd nf b = 1 ∨ kd nf b = 2 by omega) with k | k | k
  · have a1 : ¬ b = 110 := fun e => by rw [kd_1.mpr e] at k; omega
    have a2 : ¬ (b = 38 ∨ b = 124 ∨ b = 94) := fun e => by rw [kd_2.mpr e] at k; omega
    have eq2 : qstep (lfv y (dd % 7 == td) td) b ls = lfv y (dd % 7 == td) td b :: ls := by
      unfold qstep
      rw [if_neg a1, if_neg (by omega), if_neg (by omega), if_neg (by omega)]
    have hv : bt (lfv y (dd % 7 == td) td b) st = sso (sq b) (dd % 7 == td) td st y := sCS_bit (sq b) (sof_eq nf hf b hb k).2 y _ td ht st hs
    rw [eq2, List.length_cons]
    refine ⟨upd w ls.length (b2i (sso (sq b) (dd % 7 == td) td st y)), ⟨?_, AM_upd (Nat.le_refl _) h2⟩, mq_s0 hf hn hm hb hc y hd ht hs w K fuel k l2⟩
    rw [pk_us, hv]
  · have a1 := kd_1.mp k
    cases ls with
    | nil => rw [k] at l1; simp at l1
    | cons a r =>
      have eq2 : qstep (lfv y (dd % 7 == td) td) b (a :: r) = (a ^^^ (-1)) :: r := by
        unfold qstep
        rw [if_pos a1]
      rw [List.length_cons] at l2
      have := mq_s1 hf hn hm hb hc y hd ht hs w K fuel k (l := r.length) (by omega) h2.1
      rw [eq2, List.length_cons, List.length_cons]
      refine ⟨_, ⟨?_, AM_upd (Nat.le_refl _) h2.2⟩, this⟩
      rw [pk_us, b_not _ hs]
  · have a2 := kd_2.mp k
    have a1 : ¬ b = 110 := by omega
    cases ls with
    | nil => rw [k] at l1; simp at l1
    | cons a r =>
      cases r with
      | nil => rw [k] at l1; simp at l1
      | cons c r =>
        obtain ⟨h21, h22, h23⟩ := h2
        simp only [List.length_cons] at l1 l2 h21
        have eq2 : qstep (lfv y (dd % 7 == td) td) b (a :: c :: r) = (if b = 38 then a &&& c else if b = 124 then a ||| c else a ^^^ c) :: r := by
          unfold qstep
          rw [if_neg a1]
          rcases a2 with e | e | e <;> subst e <;> rfl
        have := mq_s2 hf hn hm hb hc y hd ht hs w K fuel k (l := r.length) (by omega) h21 h22
        rw [eq2, List.length_cons, List.length_cons, List.length_cons]
        refine ⟨_, ⟨?_, AM_upd (Nat.le_refl _) h23⟩, this⟩
        rw [pk_us]
        rcases a2 with e | e | e <;> subst e
        · show b2i (bt a st && bt c st) = b2i (bt (a &&& c) st)
          rw [b_and]
        · show b2i (bt a st || bt c st) = b2i (bt (a ||| c) st)
          rw [b_or]
        · show b2i (bt a st ^^ bt c st) = b2i (bt (a ^^^ c) st)
          rw [b_xor]
/-- the reference works a question out, case by case -/
theorem mq_eq {nf n : Nat} (hf : nf < 6) (hn : n ≤ 16) (mb : Nat → Int32) (L : Nat → Nat) (hL : ∀ i, i < n → L i < 256 ∧ mb i = nI (L i)) (hW : WF nf L n) (y : Bool) {dd td st : Nat} (hd : dd < 1000) (ht : td < 7) (hs : st < 32) (v : Nat → Int32) :
    ∃ v', m_X10_isQuestion (nI dd) (nI td) (nI st) (b2i y) (nI n) (nI nf) mb v = some (b2i (bt (QV (lfv y (dd % 7 == td) td) L n) st), v') := by
  obtain ⟨D, d0, dn, dd2⟩ := hW
  have one := qs_one (lfv y (dd % 7 == td) td) d0 dn dd2
  unfold m_X10_isQuestion
  rw [nm_eq]
  generalize hK : (fun (w5 : (Nat → Int32)) => gd (zB (w5 (Int32.toNatClampNeg (0 : Int32)))) (some ((w5 (Int32.toNatClampNeg (0 : Int32))), w5))) = K
  obtain ⟨⟨h, v1⟩, ⟨g1, g2, g4⟩, g3⟩ := loop_dn (fun fuel (s : Int32 × (Nat → Int32)) m => L_X10_isQuestion_11 (nI nf) mb (nI dd) (nI td) (nI st) (b2i y) fuel s.1 (nI m - 1) s.2 K)
    (fun s => K s.2)
    (fun m s => m ≤ n ∧ s.1 = nI (qs (lfv y (dd % 7 == td) td) L n (n - m)).length ∧ AM s.2 st (qs (lfv y (dd % 7 == td) td) L n (n - m)))
    (by
      rintro fuel ⟨h, w⟩ ⟨-, h1, h2⟩
      dsimp only
      rw [L_X10_isQuestion_11.eq_2, if_pos (by decide)])
    (by
      rintro fuel ⟨h, w⟩ m ⟨hm, h1, h2⟩
      dsimp only at h1 h2
      obtain ⟨hb, hc⟩ := hL m (by omega)
      obtain ⟨l2, l1⟩ := qs_fit (lfv y (dd % 7 == td) td) dn dd2 (by omega : m < n) hn
      obtain ⟨w', a1, a2⟩ := mq_step hf hn (by omega : m < n) hb hc y hd ht hs w K fuel (dd2 m (by omega)).2.1 l2 l1 h2
      rw [← qs_at (lfv y (dd % 7 == td) td) L (by omega : m < n)] at a1 a2
      refine ⟨(_, w'), ⟨by omega, rfl, a1⟩, ?_⟩
      rw [h1]
      exact a2)
    (j := n) (s := (0, v)) (fuel := 1024) (by omega) ⟨Nat.le_refl n, by rw [Nat.sub_self]; rfl, by rw [Nat.sub_self]; trivial⟩
  refine ⟨v1, Eq.trans g3 ?_⟩
  dsimp only at g2 g4 ⊢
  rw [Nat.sub_zero, one] at g4
  have hv : v1 0 = b2i (bt (QV (lfv y (dd % 7 == td) td) L n) st) := g4.1
  rw [← hK]
  show gd (zB (v1 0)) (some (v1 0, v1)) = some (_, v1)
  rw [hv, zB_b2i, gd_t]
