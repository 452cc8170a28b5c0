theorem told_eq {g : Nat} (hg : g < 3) : m_X9_told (nI g) = some (aI9 g) := by
  rcases (show g = 0 ∨ g = 1 ∨ g = 2 by omega) with rfl | rfl | rfl <;> rfl
theorem wd_eq {d : Nat} (hd : d < 1000) : m_X4_weekday (nI d) = some (nI (d % 7)) := by
  unfold m_X4_weekday
  rw [rem7 (by omega)]
theorem hslip_eq {ql : Int32} {qb : Nat → Int32} {x r : Int32} (h : m_X5_firstFault 16 ql qb x = some r) : m_X9_hasSlip 16 ql qb x = some (if r = -9 then 0 else 1) := by
  unfold m_X9_hasSlip
  rw [h, bd1_some]
  by_cases e : r = -9
  · rw [if_pos e, if_pos e]
  · rw [if_neg e, if_neg e]
theorem ask69 {nf n : Nat} (hf : nf < 6) {L : Nat → Nat} {cb mb : Nat → Int32} (hQ : Que nf n L cb mb) (hW : WF nf L n) {g wd : Nat} (hg : g < 3) (hw : wd < 7) (kn st : Nat → Int32) (K : (Nat → Int32) → (Nat → Int32) → Option (Int32 × Int32 × Int32 × Int32 × Int32 × (Nat → Int32) × (Nat → Int32) × (Nat → Int64) × (Nat → Int32))) :
    ∃ kn' st', (∀ i, i < 7 → kn' i = kn i &&& QA L n g wd i i) ∧ L_X9_ask_69 (nI n) cb 16 (nI wd) (nI g) 1024 0 kn st K = K kn' st' := by
  obtain ⟨⟨s1, s2⟩, ⟨h1, h1'⟩, h2⟩ := loop_u (fun m (s : (Nat → Int32) × (Nat → Int32)) j => L_X9_ask_69 (nI n) cb 16 (nI wd) (nI g) m (nI j) s.1 s.2 K) (fun s => K s.1 s.2) 7 (fun j s => (∀ i, i < j → s.1 i = kn i &&& QA L n g wd i i) ∧ ∀ i, j ≤ i → s.1 i = kn i)
    (by
      intro m s h
      rw [L_X9_ask_69.eq_2, if_pos (by decide)])
    (by
      rintro m ⟨s1, s2⟩ j hj ⟨g1, g2⟩
      dsimp only at g1 g2
      obtain ⟨v', e⟩ := ca_q hf hQ hW hg hw hj (o := 0) (by decide) s2
      rw [show (j + 0) % 7 = j by omega, show nI 0 = 0 from rfl] at e
      refine ⟨(upd s1 j (s1 j &&& QA L n g wd j j), v'), ⟨fun i hi => ?_, fun i hi => ?_⟩, ?_⟩
      · dsimp only
        by_cases e : i = j
        · subst e; rw [pk_us, g2 i (Nat.le_refl i)]
        · rw [pk_un e]; exact g1 i (by omega)
      · dsimp only
        rw [pk_un (by omega)]; exact g2 i (by omega)
      · dsimp only
        rw [L_X9_ask_69.eq_2, if_neg (show ¬ (7 : Int32) ≤ nI j by rw [q7_le _ (by omega)]; omega), inB_nI (by omega) hj, gd_t, e, bd2_some, gd_t, nm_eq, nI_1, nI_clamp (by omega)])
    (j := 0) (s := (kn, st)) (fuel := 1024) (by decide) (by decide) ⟨fun i hi => absurd hi (Nat.not_lt_zero i), fun i _ => rfl⟩
  exact ⟨s1, s2, h1, h2⟩
theorem ask109 (w page : Nat → Int32) (K : (Nat → Int32) → Option (Int32 × Int32 × Int32 × (Nat → Int32) × (Nat → Int32) × (Nat → Int64) × (Nat → Int32) × (Nat → Int32))) : ∃ p, (∀ i, i < 7 → p i = w i) ∧ (∀ i, 7 ≤ i → p i = page i) ∧ L_X10_ask_109 w 1024 0 page K = K p := by
  obtain ⟨s, ⟨h1, h1'⟩, h2⟩ := loop_u (fun n (s : Nat → Int32) j => L_X10_ask_109 w n (nI j) s K) (fun s => K s) 7 (fun j s => (∀ i, i < j → s i = w i) ∧ ∀ i, 7 ≤ i → s i = page i)
    (by
      intro n s h
      rw [L_X10_ask_109.eq_2, if_pos (by decide)])
    (by
      rintro n s j hj ⟨g1, g2⟩
      refine ⟨upd s j (w j), ⟨fun i hi => ?_, fun i hi => ?_⟩, ?_⟩
      · by_cases e : i = j
        · subst e; exact pk_us
        · rw [pk_un e]; exact g1 i (by omega)
      · rw [pk_un (by omega)]; exact g2 i hi
      · rw [L_X10_ask_109.eq_2, if_neg (show ¬ (7 : Int32) ≤ nI j by rw [q7_le _ (by omega)]; omega), inB_nI (by omega) hj, gd_t, inB_nI (by omega) (by omega), gd_t, nm_eq, nI_1, nI_clamp (by omega)])
    (j := 0) (s := page) (fuel := 1024) (by decide) (by decide) ⟨fun i hi => absurd hi (Nat.not_lt_zero i), fun i _ => rfl⟩
  exact ⟨s, h1, h1', h2⟩
theorem cba_eq {a c k : Nat} (ha : a < 2) (hc : c < 3) (hk : k ≤ 3) : m_X4_canBeAsked (nI a) (nI c) (nI k) = some (b2i (a == 0 && c == 0 && !(k == 3))) := by
  have := (by decide +kernel : ∀ a, a < 2 → ∀ c, c < 3 → ∀ k, k < 4 → m_X4_canBeAsked (nI a) (nI c) (nI k) = some (b2i (a == 0 && c == 0 && !(k == 3))))
  exact this a ha c hc k (by omega)
theorem op_ask {nf so : Nat} (hf : nf < 6) (hso : so < 2 ^ nf) {ql qz : Int32} {qb qu : Nat → Int32} (hT : RText 16 ql qz qb qu) {d t a c k : Int32} {kn pg : Nat → Int32} (h : RNow nf so d t a c k kn pg) {nx ac aa : Int32} {mo bk : Nat → Int32} {se bs : Nat → Int64} (hA : RActs nf so nx ac aa mo bk se bs) (sd : Int64) (th : Int32) (st1 st2 ye no on : Nat → Int32) :
    ∃ r a' k' nx' ac' mo' kn' se' st1' pg' bk' bs' st2' on', m_X9_ask 16 sd ql qb (nI nf) (nI so) d t a c k nx ac mo kn se st1 = some (r, a', k', nx', ac', mo', kn', se', st1') ∧ m_X10_ask th qz (nI nf) (nI so) sd aa qu pg bk bs st2 ye no on = some (r, 0, ac', pg', bk', bs', st2', on') ∧ RNow nf so d t a' c k' kn' pg' ∧ RActs nf so nx' ac' ac' mo' bk' se' bs' := by
  have h' := h
  have hA' := hA
  obtain ⟨M, hM, rfl, rfl, rfl, rfl, rfl, hk, hp⟩ := h
  obtain ⟨na, nn, rfl, rfl, rfl, hA⟩ := hA
  have hM2 := hM
  obtain ⟨⟨d, t, a, c, k, h7, h8, h9, h10, h11, b1, b2, b3, b4, b5, b6⟩, hsub⟩ := hM2
  obtain ⟨r, s1, s2, s3⟩ := slip_both hT hf
  unfold m_X9_ask m_X10_ask
  rw [hslip_eq s1, s2, bd1_some, bd1_some]
  by_cases er : r = -9
  · rw [if_pos er, if_pos er, if_00]
    obtain ⟨n, L, rfl, rfl, hQ, hW⟩ := s3 er
    rw [show m_X4_canBeAsked (M 9) (M 10) (M 11) = some (b2i (a == 0 && c == 0 && !(k == 3))) by rw [h9, h10, h11]; exact cba_eq b3 b4 b5, bd1_some]
    rw [cn7.1, cn7.2.1, cn7.2.2.1, cn7.2.2.2.1, cn7.2.2.2.2, hp 7 (by decide), hp 8 (by decide), hp 9 (by decide), hp 10 (by decide), hp 11 (by decide)]
    by_cases a0 : a = 0
    · by_cases c0 : c = 0
      · by_cases k3 : k = 3
        · subst a0 c0 k3
          rw [show b2i (0 == 0 && 0 == 0 && !(3 == 3)) = 0 from rfl, if_00, if_neg (show ¬ M 9 = 1 by rw [h9]; decide), if_pos (show M 10 = 0 by rw [h10]; rfl), if_pos (show M 11 = 3 by rw [h11]; rfl)]
          exact ⟨_, _, _, _, _, _, _, _, _, _, _, _, _, _, rfl, rfl, h', hA'⟩
        · subst a0 c0
          obtain ⟨a', nx', mo', bk', se', bs', g1, g2, g3⟩ := rec_note hA hM kn pg hk hp sd
          rw [show b2i (0 == 0 && 0 == 0 && !(k == 3)) = 1 by rw [show (k == 3) = false from beq_false_of_ne k3]; rfl, if_10, if_neg (show ¬ M 9 = 1 by rw [h9]; decide), if_pos (show M 10 = 0 by rw [h10]; rfl), if_neg (show ¬ M 11 = 3 by rw [h11, q3_eq _ (by omega)]; exact k3)]
          rw [g2, g3, bd4_some, bd3_some, h7, wd_eq (by omega), bd1_some, h8]
          obtain ⟨v1, e1⟩ := ai_q hf hQ hW (wd := d % 7) (td := t) (o := 0) (st := so) (by omega) b2 (by decide) (so32 hf hso) st1
          obtain ⟨w1, e2⟩ := ao_q hf hQ hW (dd := d) (td := t) (mr := t) (st := so) (by omega) b2 b2 (so32 hf hso) st2
          rw [show (t + 0) % 7 = t by omega] at e1
          rw [show nI 0 = 0 from rfl] at e1
          rw [e1, e2, bd2_some, bd2_some]
          have hg : qans L n (d % 7) t t so < 3 := qans_lt _ _ _ _ _ _
          obtain ⟨g, eg⟩ : ∃ g, g = qans L n (d % 7) t t so := ⟨_, rfl⟩
          rw [← eg] at hg ⊢
          obtain ⟨w2, w3, e3, e4⟩ := p_quest hf hQ hW (g := g) (dd := d) hg (by omega) ye no pg on w1 (fun i hi => by rw [hp i (by omega)]; exact hsub i hi) (N := 12) (M := 7) (by decide) (by decide)
          rw [e3, bd2_some]
          obtain ⟨kn', st', u1, u2⟩ := ask69 hf hQ hW hg (wd := d % 7) (by omega) kn v1 (fun (w20 : (Nat → Int32)) (w21 : (Nat → Int32)) => nm (fun (w29 : Int32) => bd1 (m_X9_told (nI g)) (fun (r30 : Int32) => some (r30, (1 : Int32), w29, nI nx', nI a', mo', w20, se', w21))) (fun (k130 : Int32 → Option (Int32 × Int32 × Int32 × Int32 × Int32 × (Nat → Int32) × (Nat → Int32) × (Nat → Int64) × (Nat → Int32))) => if nI g = (2 : Int32) then nm ((M 11 + (1 : Int32))) (fun (x33 : Int32) => k130 x33) else k130 (M 11)))
          obtain ⟨p, v2, v3, v4⟩ := ask109 w3 pg (fun (w19 : (Nat → Int32)) => nm (fun (x24 : Int32) => nm ((((upd w19 9 (1 : Int32)) 11) + x24)) (fun (x25 : Int32) => some (aI9 g, (0 : Int32), nI a', (upd (upd w19 9 (1 : Int32)) 11 x25), bk', bs', w2, w3))) (fun (k160 : Int32 → Option (Int32 × Int32 × Int32 × (Nat → Int32) × (Nat → Int32) × (Nat → Int64) × (Nat → Int32) × (Nat → Int32))) => if aI9 g = (-9 : Int32) then k160 (1 : Int32) else k160 (0 : Int32)))
          rw [u2, v4, nm_ite, pk_un (show 11 ≠ 9 by decide), v3 11 (by decide), hp 11 (by decide), nm_eq, nm_eq, nm_eq, h11]
          dsimp only
          rw [told_eq hg, bd1_some, bd1_some]
          have key : ∀ k', k' ≤ 3 → RNow nf so (nI d) (nI t) 1 (M 10) (nI k') kn' (upd (upd p 9 1) 11 (nI k')) := by
            intro k' hk'
            have low : ∀ i, i < 7 → (upd (upd p 9 1) 11 (nI k')) i = pg i &&& QA L n g (d % 7) i i := fun i hi => by rw [pk_un (by omega), pk_un (by omega), v2 i hi, e4 i hi]
            have top : ∀ i, 7 ≤ i → i ≠ 9 → i ≠ 11 → (upd (upd p 9 1) 11 (nI k')) i = pg i := fun i hi h1 h2 => by rw [pk_un h2, pk_un h1, v3 i hi]
            refine ⟨_, ⟨⟨d, t, 1, 0, k', ?_, ?_, ?_, ?_, pk_us, b1, b2, by decide, by decide, hk', ?_⟩, fun i hi => ?_⟩, ?_, ?_, ?_, ?_, pk_us.symm, fun i hi => ?_, fun i hi => rfl⟩
            · rw [top 7 (by decide) (by decide) (by decide), hp 7 (by decide)]; exact h7
            · rw [top 8 (by decide) (by decide) (by decide), hp 8 (by decide)]; exact h8
            · rw [pk_un (by decide), pk_us]; rfl
            · rw [top 10 (by decide) (by decide) (by decide), hp 10 (by decide)]; exact h10
            · rw [low t b2, b_and, hp t (by omega), b6, (QA_eq L n hg (d % 7) t t).2 so (so32 hf hso), ← eg]
              simp
            · rw [low i hi]
              exact sub_and (by rw [hp i (by omega)]; exact hsub i hi) _
            · rw [top 7 (by decide) (by decide) (by decide), hp 7 (by decide)]; exact h7.symm
            · rw [top 8 (by decide) (by decide) (by decide), hp 8 (by decide)]; exact h8.symm
            · rw [pk_un (by decide), pk_us]
            · rw [top 10 (by decide) (by decide) (by decide), hp 10 (by decide)]
            · rw [low i hi, u1 i hi, hk i hi, hp i (by omega)]
          by_cases g2 : g = 2
          · subst g2
            rw [if_pos (show nI 2 = 2 from rfl), if_pos (show aI9 2 = -9 from rfl), nI_1]
            exact ⟨_, _, _, _, _, _, _, _, _, _, _, _, _, _, rfl, rfl, key _ (by omega), _, _, rfl, rfl, rfl, g1⟩
          · rw [if_neg (show ¬ nI g = 2 by rw [q2_eq _ (by omega)]; exact g2), if_neg (show ¬ aI9 g = -9 by
              rcases (show g = 0 ∨ g = 1 by omega) with rfl | rfl <;> decide), Int32.add_zero]
            exact ⟨_, _, _, _, _, _, _, _, _, _, _, _, _, _, rfl, rfl, key _ b5, _, _, rfl, rfl, rfl, g1⟩
      · subst a0
        rw [show b2i (0 == 0 && c == 0 && !(k == 3)) = 0 by rw [show (c == 0) = false from beq_false_of_ne c0]; rfl, if_00, if_neg (show ¬ M 9 = 1 by rw [h9]; decide), if_neg (show ¬ M 10 = 0 by rw [h10]; exact nI_ne0 (by omega) (by omega))]
        exact ⟨_, _, _, _, _, _, _, _, _, _, _, _, _, _, rfl, rfl, h', hA'⟩
    · obtain rfl : a = 1 := by omega
      rw [show b2i (1 == 0 && c == 0 && !(k == 3)) = 0 from rfl, if_00, if_pos (show M 9 = 1 by rw [h9]; rfl)]
      exact ⟨_, _, _, _, _, _, _, _, _, _, _, _, _, _, rfl, rfl, h', hA'⟩
  · rw [if_neg er, if_neg er, if_10]
    exact ⟨_, _, _, _, _, _, _, _, _, _, _, _, _, _, rfl, rfl, h', hA'⟩
