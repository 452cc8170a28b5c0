theorem op_year {nf so : Nat} (hf : nf < 6) (hso : so < 2 ^ nf) {ql qz : Int32} {qb qu : Nat → Int32} (hT : RText 16 ql qz qb qu) {d t a c k : Int32} {kn pg : Nat → Int32} (h : RNow nf so d t a c k kn pg) (x th : Int32) (sd : Int64) (st1 st2 : Nat → Int32) :
    ∃ r sd' st1' st2', m_X9_year x 16 sd ql qb (nI nf) (nI so) d t st1 = some (r, sd', st1') ∧ m_X10_year x th qz (nI nf) (nI so) sd qu pg st2 = some (r, 0, sd', st2') := by
  obtain ⟨M, hM, rfl, rfl, rfl, rfl, rfl, hk, hp⟩ := h
  obtain ⟨⟨d, t, a, c, k, h7, h8, h9, h10, h11, b1, b2, b3, b4, b5, b6⟩, hsub⟩ := hM
  obtain ⟨r, s1, s2, s3⟩ := slip_both hT hf
  unfold m_X9_year m_X10_year
  rw [show m_X10_in (Int32.toInt64 x) (1 : Int64) (60 : Int64) = some (b2i (decide (1 ≤ x) && decide (x ≤ 60))) from m_inI x 1 60, bd1_some]
  by_cases x1 : x < 1
  · rw [if_pos x1, decide_eq_false (Int32.not_le.mpr x1), show b2i (false && decide (x ≤ 60)) = 0 from rfl, if_00]
    exact ⟨_, _, _, _, rfl, rfl⟩
  by_cases x2 : x ≤ 60
  · rw [if_neg x1, if_pos x2, decide_eq_true (Int32.not_lt.mp x1), decide_eq_true x2, show b2i (true && true) = 1 from rfl, if_10, hslip_eq s1, s2, bd1_some, bd1_some]
    by_cases er : r = -9
    · obtain ⟨n, L, rfl, rfl, hQ, hW⟩ := s3 er
      obtain ⟨p, hp31, rfl⟩ := nI_of (x := x) (fun e => x1 (Int32.lt_trans e (by decide)))
      have hp60 : p ≤ 60 := by rw [q60_ge _ hp31] at x2; exact x2
      rw [if_pos er, if_pos er, if_00, cn7.1, cn7.2.1, hp 7 (by decide), hp 8 (by decide), h7, h8, nm_eq, nm_eq]
      exact loop_2 (fun m (s : Int32 × Int32 × Int32 × Int64 × (Nat → Int32)) j => L_X9_year_46 (nI n) qb (nI so) (nI p) 16 m s.1 s.2.1 s.2.2.1 (nI j) s.2.2.2.1 s.2.2.2.2 (fun (x12 : Int32) (w13 : Int64) (w14 : (Nat → Int32)) => some (x12, w13, w14)))
        (fun m (s : Int32 × Int32 × Int32 × Int64 × (Nat → Int32)) j => L_X10_year_54 (nI n) (nI nf) (nI so) qu (nI p) m s.1 s.2.1 s.2.2.1 (nI j) s.2.2.2.1 s.2.2.2.2 (fun (x15 : Int32) (w16 : Int64) (w17 : (Nat → Int32)) => some (x15, (0 : Int32), w16, w17)))
        p (fun j s t => ∃ d y, d < 28 ∧ y < 7 ∧ s.1 = nI d ∧ t.1 = nI d ∧ s.2.1 = nI y ∧ t.2.1 = nI y ∧ s.2.2.1 = t.2.2.1 ∧ s.2.2.2.1 = t.2.2.2.1) (fun x y => ∃ r sd' st1' st2', x = some (r, sd', st1') ∧ y = some (r, 0, sd', st2'))
        (by
          rintro m m' ⟨u1, u2, u3, u4, u5⟩ ⟨v1, v2, v3, v4, v5⟩ ⟨d, y, -, -, -, -, -, -, e1, e2⟩
          dsimp only at e1 e2 ⊢
          rw [L_X9_year_46.eq_2, L_X10_year_54.eq_2, if_pos (Int32.le_refl _), if_pos (Int32.le_refl _), e1, e2]
          exact ⟨_, _, _, _, rfl, rfl⟩)
        (by
          rintro m ⟨u1, u2, u3, u4, u5⟩ ⟨v1, v2, v3, v4, v5⟩ j hj ⟨d, y, hd, hy, e1, e2, e3, e4, e5, e6⟩
          dsimp only at e1 e2 e3 e4 e5 e6 ⊢
          subst e1 e2 e3 e4 e5 e6
          refine Or.inr ?_
          have hlt : ¬ nI p ≤ nI j := by rw [n_le _ _ (by omega) (by omega)]; omega
          have key : ∀ d' y' (sd' : Int64), d' < 28 → y' < 7 → ∃ s' t' : Int32 × Int32 × Int32 × Int64 × (Nat → Int32), (∃ d y, d < 28 ∧ y < 7 ∧ s'.1 = nI d ∧ t'.1 = nI d ∧ s'.2.1 = nI y ∧ t'.2.1 = nI y ∧ s'.2.2.1 = t'.2.2.1 ∧ s'.2.2.2.1 = t'.2.2.2.1) ∧
              (bd2 (m_X5_answerIn (nI d' - nI d' / (7 : Int32) * (7 : Int32)) (nI y') (nI so) (0 : Int32) 16 (nI n) qb u5) (fun (r19 : Int32) (w20 : (Nat → Int32)) => nm (fun (x22 : Int32) => nm (nI j + (1 : Int32)) (fun (x23 : Int32) => L_X9_year_46 (nI n) qb (nI so) (nI p) 16 m (nI d') (nI y') x22 x23 sd' w20 (fun (x12 : Int32) (w13 : Int64) (w14 : (Nat → Int32)) => some (x12, w13, w14)))) (fun (k109 : Int32 → Option (Int32 × Int64 × (Nat → Int32))) => if r19 = (1 : Int32) then nm (u3 + (1 : Int32)) (fun (x25 : Int32) => k109 x25) else k109 u3))) = L_X9_year_46 (nI n) qb (nI so) (nI p) 16 m s'.1 s'.2.1 s'.2.2.1 (nI (j + 1)) s'.2.2.2.1 s'.2.2.2.2 (fun (x12 : Int32) (w13 : Int64) (w14 : (Nat → Int32)) => some (x12, w13, w14)) ∧
              (bd2 (m_X10_answerOf (-9 : Int32) (nI d') (nI y') (nI y') (nI so) (nI n) (nI nf) qu v5) (fun (r23 : Int32) (w24 : (Nat → Int32)) => nm (fun (x26 : Int32) => nm ((u3 + x26)) (fun (x27 : Int32) => nm (nI j + (1 : Int32)) (fun (x28 : Int32) => L_X10_year_54 (nI n) (nI nf) (nI so) qu (nI p) m (nI d') (nI y') x27 x28 sd' w24 (fun (x15 : Int32) (w16 : Int64) (w17 : (Nat → Int32)) => some (x15, (0 : Int32), w16, w17))))) (fun (k100 : Int32 → Option (Int32 × Int32 × Int64 × (Nat → Int32))) => if r23 = (1 : Int32) then k100 (1 : Int32) else k100 (0 : Int32)))) = L_X10_year_54 (nI n) (nI nf) (nI so) qu (nI p) m t'.1 t'.2.1 t'.2.2.1 (nI (j + 1)) t'.2.2.2.1 t'.2.2.2.2 (fun (x15 : Int32) (w16 : Int64) (w17 : (Nat → Int32)) => some (x15, (0 : Int32), w16, w17)) := by
            intro d' y' sd' hd' hy'
            obtain ⟨v1, e1⟩ := ai_q hf hQ hW (wd := d' % 7) (td := y') (o := 0) (st := so) (by omega) hy' (by decide) (so32 hf hso) u5
            obtain ⟨w1, e2⟩ := ao_q hf hQ hW (dd := d') (td := y') (mr := y') (st := so) (by omega) hy' hy' (so32 hf hso) v5
            rw [show (y' + 0) % 7 = y' by omega, show nI 0 = 0 from rfl] at e1
            rw [rem7 (by omega), e1, e2, bd2_some, bd2_some, nm_ite]
            simp only [nm_eq]
            rw [nI_1]
            have hg : qans L n (d' % 7) y' y' so < 3 := qans_lt _ _ _ _ _ _
            by_cases g1 : qans L n (d' % 7) y' y' so = 1
            · rw [g1, if_pos (show nI 1 = 1 from rfl), if_pos (show aI9 1 = 1 from rfl)]
              exact ⟨(nI d', nI y', u3 + 1, sd', v1), (nI d', nI y', u3 + 1, sd', w1), ⟨d', y', hd', hy', rfl, rfl, rfl, rfl, rfl, rfl⟩, rfl, rfl⟩
            · rw [if_neg (show ¬ nI (qans L n (d' % 7) y' y' so) = 1 by rw [q1_eq _ (by omega)]; exact g1), if_neg (fun e => g1 ((aI9_1 hg).mp e)), Int32.add_zero]
              exact ⟨(nI d', nI y', u3, sd', v1), (nI d', nI y', u3, sd', w1), ⟨d', y', hd', hy', rfl, rfl, rfl, rfl, rfl, rfl⟩, rfl, rfl⟩
          rw [L_X9_year_46.eq_2, L_X10_year_54.eq_2, if_neg hlt, if_neg hlt, nI_1, rem28 (by omega), nm_eq, nm_eq, nm_eq, nm_eq]
          by_cases e27 : d = 27
          · subst e27
            obtain ⟨y', hy', ej⟩ := dd_lt (u4 * 6364136223846793005 + 1442695040888963407)
            rw [if_pos (show nI ((27 + 1) % 28) = 0 from rfl), if_pos (show nI (27 + 1) = 28 from rfl)]
            unfold m_X9_nextSeed m_X9_drawnDay m_X10_drawDay
            rw [bd1_some, bd1_some, nm_eq, bd2_some, ej]
            exact key 0 y' _ (by decide) hy'
          · rw [if_neg (show ¬ nI ((d + 1) % 28) = 0 from nI_ne0 (by omega) (by omega)), if_neg (show ¬ nI (d + 1) = 28 by rw [q28_eq _ (by omega)]; omega), show (d + 1) % 28 = d + 1 by omega]
            exact key (d + 1) y _ (by omega) hy)
        (s := (nI d, nI t, 0, sd, st1)) (t := (nI d, nI t, 0, sd, st2)) (f := 1024) (by omega) ⟨d, t, b1, b2, rfl, rfl, rfl, rfl, rfl, rfl⟩
    · rw [if_neg er, if_neg er, if_10]; exact ⟨_, _, _, _, rfl, rfl⟩
  · rw [if_neg x1, if_neg x2, decide_eq_false (p := x ≤ 60) x2, Bool.and_false, show b2i false = 0 from rfl, if_00]
    exact ⟨_, _, _, _, rfl, rfl⟩
