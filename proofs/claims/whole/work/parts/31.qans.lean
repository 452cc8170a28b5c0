/-- what a mirror answers that is honest on the day mr -/
def qans (L : Nat → Nat) (n wd td mr i : Nat) : Nat := ansS (bt (QV (lfv true (wd == td) td) L n) i) (bt (QV (lfv false (wd == td) td) L n) i) (wd == mr)
theorem qans_lt (L : Nat → Nat) (n wd td mr i : Nat) : qans L n wd td mr i < 3 := ansS_lt _ _ _
def QA (L : Nat → Nat) (n g wd td mr : Nat) : Int32 := (m_X9_casesGiving (nI g) (QV (lfv true (wd == td) td) L n) (QV (lfv false (wd == td) td) L n) (b2i (wd == mr))).getD 0
theorem QA_eq (L : Nat → Nat) (n : Nat) {g : Nat} (hg : g < 3) (wd td mr : Nat) : m_X9_casesGiving (nI g) (QV (lfv true (wd == td) td) L n) (QV (lfv false (wd == td) td) L n) (b2i (wd == mr)) = some (QA L n g wd td mr) ∧ ∀ i, i < 32 → bt (QA L n g wd td mr) i = decide (qans L n wd td mr i = g) := by
  obtain ⟨r, h1, h2⟩ := cg_eq (QV (lfv true (wd == td) td) L n) (QV (lfv false (wd == td) td) L n) (wd == mr) hg
  have e : QA L n g wd td mr = r := by unfold QA; rw [h1]; rfl
  rw [e]
  exact ⟨h1, h2⟩
/-- a question that can be asked: its letters, as both hold them -/
def Que (nf n : Nat) (L : Nat → Nat) (cb mb : Nat → Int32) : Prop := n ≤ 16 ∧ ∀ i, i < n → L i < 256 ∧ cb i = nI (L i) ∧ mb i = nI (L i)
theorem ca_q {nf n : Nat} (hf : nf < 6) {L : Nat → Nat} {cb mb : Nat → Int32} (hQ : Que nf n L cb mb) (hW : WF nf L n) {g wd td o : Nat} (hg : g < 3) (hw : wd < 7) (ht : td < 7) (ho : o < 2) (v : Nat → Int32) :
    ∃ v', m_X5_casesAnswered (nI g) (nI wd) (nI td) (nI o) 16 (nI n) cb v = some (QA L n g wd td ((td + o) % 7), v') := by
  obtain ⟨hn, hL⟩ := hQ
  obtain ⟨v1, h1⟩ := cq_eq hf hn cb L (fun i hi => ⟨(hL i hi).1, (hL i hi).2.1⟩) hW true hw ht v
  obtain ⟨v2, h2⟩ := cq_eq hf hn cb L (fun i hi => ⟨(hL i hi).1, (hL i hi).2.1⟩) hW false hw ht v1
  refine ⟨v2, ?_⟩
  unfold m_X5_casesAnswered
  rw [show (1 : Int32) = b2i true from rfl, show (0 : Int32) = b2i false from rfl, h1, bd2_some, h2, bd2_some, nm_ite, nI_add, rem7 (by omega)]
  rw [show (if nI wd = nI ((td + o) % 7) then b2i true else b2i false) = b2i (wd == (td + o) % 7) by
    rw [← nI_inj7 (a := wd) (b := (td + o) % 7) (by omega) (by omega)]
    by_cases h : nI wd = nI ((td + o) % 7)
    · rw [if_pos h, decide_eq_true h]
    · rw [if_neg h, decide_eq_false h]]
  rw [(QA_eq L n hg wd td ((td + o) % 7)).1, bd1_some]
theorem ai_q {nf n : Nat} (hf : nf < 6) {L : Nat → Nat} {cb mb : Nat → Int32} (hQ : Que nf n L cb mb) (hW : WF nf L n) {wd td o st : Nat} (hw : wd < 7) (ht : td < 7) (ho : o < 2) (hs : st < 32) (v : Nat → Int32) :
    ∃ v', m_X5_answerIn (nI wd) (nI td) (nI st) (nI o) 16 (nI n) cb v = some (nI (qans L n wd td ((td + o) % 7) st), v') := by
  obtain ⟨v1, h1⟩ := ca_q hf hQ hW (g := 1) (by decide) hw ht ho v
  obtain ⟨v2, h2⟩ := ca_q hf hQ hW (g := 0) (by decide) hw ht ho v1
  refine ⟨v2, ?_⟩
  unfold m_X5_answerIn
  rw [show (1 : Int32) = nI 1 from rfl, show (0 : Int32) = nI 0 from rfl, h1, bd2_some, h2, bd2_some, aa_eq _ _ hs, bd1_some, (QA_eq L n (by decide) wd td ((td + o) % 7)).2 st hs, (QA_eq L n (by decide) wd td ((td + o) % 7)).2 st hs]
  have := qans_lt L n wd td ((td + o) % 7) st
  generalize qans L n wd td ((td + o) % 7) st = a at *
  rcases (show a = 0 ∨ a = 1 ∨ a = 2 by omega) with rfl | rfl | rfl <;> rfl
theorem ao_q {nf n : Nat} (hf : nf < 6) {L : Nat → Nat} {cb mb : Nat → Int32} (hQ : Que nf n L cb mb) (hW : WF nf L n) {dd td mr st : Nat} (hd : dd < 1000) (ht : td < 7) (hm : mr < 7) (hs : st < 32) (w : Nat → Int32) :
    ∃ w', m_X10_answerOf (-9) (nI dd) (nI td) (nI mr) (nI st) (nI n) (nI nf) mb w = some (aI9 (qans L n (dd % 7) td mr st), w') := by
  obtain ⟨hn, hL⟩ := hQ
  obtain ⟨v1, h1⟩ := mq_eq hf hn mb L (fun i hi => ⟨(hL i hi).1, (hL i hi).2.2⟩) hW true hd ht hs w
  obtain ⟨v2, h2⟩ := mq_eq hf hn mb L (fun i hi => ⟨(hL i hi).1, (hL i hi).2.2⟩) hW false hd ht hs v1
  unfold m_X10_answerOf
  rw [nm_ite, nm_eq, if_pos rfl, show (1 : Int32) = b2i true from rfl, show (0 : Int32) = b2i false from rfl, h1, bd2_some, rem7 (by omega),
    show (if nI (dd % 7) = nI mr then b2i true else b2i false) = b2i (dd % 7 == mr) by
      rw [← nI_inj7 (a := dd % 7) (b := mr) (by omega) (by omega)]
      by_cases h : nI (dd % 7) = nI mr
      · rw [if_pos h, decide_eq_true h]
      · rw [if_neg h, decide_eq_false h]]
  dsimp only
  rw [nm_eq, if_pos rfl, h2, bd2_some]
  unfold qans
  cases bt (QV (lfv true (dd % 7 == td) td) L n) st <;> cases bt (QV (lfv false (dd % 7 == td) td) L n) st <;> cases (dd % 7 == mr) <;> first | exact ⟨v1, rfl⟩ | exact ⟨v2, rfl⟩
/-- the reference parts a row by the question -/
theorem p_quest {nf n : Nat} (hf : nf < 6) {L : Nat → Nat} {cb mb : Nat → Int32} (hQ : Que nf n L cb mb) (hW : WF nf L n) {g dd : Nat} (hg : g < 3) (hd : dd < 1000) (ye no v w st : Nat → Int32) (hv : ∀ i, i < 7 → sub nf (v i)) {N M : Nat} (hN : 7 ≤ N) (hM : 7 ≤ M) :
    ∃ st' w', m_X10_part (-9) (nI dd) (aI9 g) N M (nI n) (nI nf) v mb st ye no w = some (st', w') ∧ ∀ i, i < 7 → w' i = v i &&& QA L n g (dd % 7) i i := by
  have hB : 2 ^ nf ≤ 32 := (by decide : ∀ n, n < 6 → 2 ^ n ≤ 32) nf hf
  have e0 := one_shl nf (by omega)
  obtain ⟨B, eB⟩ : ∃ B, B = 2 ^ nf := ⟨_, rfl⟩
  rw [← eB] at hB e0
  unfold m_X10_part
  obtain ⟨⟨s1, s2⟩, h1, h2⟩ := loop_u (fun fuel (s : (Nat → Int32) × (Nat → Int32)) j => L_X10_part_3 (nI n) (nI nf) v mb ye no (-9) (nI dd) (aI9 g) N M fuel (nI j) s.1 s.2 (fun w4 w5 => some (w4, w5))) (fun s => some (s.1, s.2)) 7 (fun j s => ∀ i, i < j → s.2 i = v i &&& QA L n g (dd % 7) i i)
    (by
      rintro fuel ⟨a, b⟩ h
      dsimp only
      rw [L_X10_part_3.eq_2, if_pos (by decide)])
    (by
      rintro fuel ⟨a, b⟩ d hd7 h
      dsimp only at h ⊢
      have inner : ∀ (K2 : Int32 → (Nat → Int32) → Option ((Nat → Int32) × (Nat → Int32))), ∃ x w', (∀ i, i < 32 → bt x i = (decide (i < B) && (bt (v d) i && decide (qans L n (dd % 7) d d i = g)))) ∧ L_X10_part_22 (nI n) (nI nf) v mb (-9) (nI dd) (aI9 g) N (nI d) 1024 0 0 a K2 = K2 x w' := by
        intro K2
        obtain ⟨⟨x, w'⟩, g1, g2⟩ := loop_u (fun fuel (s : Int32 × (Nat → Int32)) i => L_X10_part_22 (nI n) (nI nf) v mb (-9) (nI dd) (aI9 g) N (nI d) fuel s.1 (nI i) s.2 K2) (fun s => K2 s.1 s.2) B (fun i s => ∀ j, j < 32 → bt s.1 j = (decide (j < i) && (bt (v d) j && decide (qans L n (dd % 7) d d j = g))))
          (by
            rintro fuel ⟨x, w2⟩ q
            dsimp only
            rw [L_X10_part_22.eq_2, e0, if_pos (Int32.le_refl _)])
          (by
            rintro fuel ⟨x, w2⟩ i hi q
            dsimp only at q ⊢
            have hb := or_bit (f := fun j => bt (v d) j && decide (qans L n (dd % 7) d d j = g)) (by omega : i < 32) q
            obtain ⟨w3, ew⟩ := ao_q hf hQ hW hd (by omega : d < 7) (by omega : d < 7) (by omega : i < 32) w2
            have hl := qans_lt L n (dd % 7) d d i
            rw [L_X10_part_22.eq_2, e0, if_neg (show ¬ nI B ≤ nI i by rw [n_le _ _ (by omega) (by omega)]; omega), inB_nI (by omega) (by omega), gd_t, nI_clamp (by omega), m_has _ (by omega : i < 32), bd1_some, nm_eq, nm_eq]
            cases hbit : bt (v d) i
            · refine ⟨(x ||| 0, w2), fun j hj => ?_, ?_⟩
              · have := hb j hj
                simp only [hbit, Bool.false_and, reduceCtorEq, ↓reduceIte] at this
                exact this
              · rw [if_pos (show b2i false = 0 from rfl)]
                dsimp only
                rw [nm_eq, nm_eq, nI_1]
            · rw [if_neg (show ¬ b2i true = 0 by decide), ew, bd2_some]
              by_cases hg2 : qans L n (dd % 7) d d i = g
              · refine ⟨(x ||| (1 : Int32) <<< (nI i &&& 31), w3), fun j hj => ?_, ?_⟩
                · have := hb j hj
                  simp only [hbit, hg2, decide_true, Bool.true_and, ↓reduceIte] at this
                  exact this
                · rw [if_pos (by rw [hg2])]
                  dsimp only
                  rw [nm_eq, nm_eq, nI_1]
              · refine ⟨(x ||| 0, w3), fun j hj => ?_, ?_⟩
                · have := hb j hj
                  simp only [hbit, hg2, decide_false, Bool.and_false, reduceCtorEq, ↓reduceIte] at this
                  exact this
                · rw [if_neg (by rw [aI9_inj hl hg]; exact hg2)]
                  dsimp only
                  rw [nm_eq, nm_eq, nI_1])
          (j := 0) (s := (0, a)) (fuel := 1024) (by omega) (by omega) (fun j hj => by dsimp only; rw [b_0]; simp)
        exact ⟨x, w', g1, g2⟩
      obtain ⟨x, w', g1, g2⟩ := inner (fun (x24 : Int32) (w25 : (Nat → Int32)) => (fun (x7 : Int32) (w8 : (Nat → Int32)) => gd (inB (nI d) N) (gd (inB (nI d) M) (nm (nI d + (1 : Int32)) (fun (x11 : Int32) => L_X10_part_3 (nI n) (nI nf) v mb ye no (-9) (nI dd) (aI9 g) N M fuel x11 w8 (upd b (Int32.toNatClampNeg (nI d)) ((v (Int32.toNatClampNeg (nI d))) &&& x7)) (fun w4 w5 => some (w4, w5)))))) x24 w25)
      refine ⟨(w', upd b d (v d &&& x)), fun i hi => ?_, ?_⟩
      · dsimp only
        by_cases e : i = d
        · subst e
          rw [pk_us]
          apply b_ext
          intro j hj
          rw [b_and, b_and, g1 j hj, (QA_eq L n hg (dd % 7) i i).2 j hj]
          cases hbit : bt (v i) j
          · rfl
          · have := hv i hd7 j hj hbit
            rw [← eB] at this
            simp [this]
        · rw [pk_un e]; exact h i (by omega)
      · rw [L_X10_part_3.eq_2, if_neg (show ¬ (7 : Int32) ≤ nI d by rw [q7_le _ (by omega)]; omega), nm_eq, if_pos rfl, g2]
        dsimp only
        rw [inB_nI (by omega) (by omega), gd_t, inB_nI (by omega) (by omega), gd_t, nm_eq, nI_1, nI_clamp (by omega)])
    (j := 0) (s := (st, w)) (fuel := 1024) (by decide) (by decide) (fun i hi => absurd hi (Nat.not_lt_zero i))
  exact ⟨s1, s2, h2, h1⟩
