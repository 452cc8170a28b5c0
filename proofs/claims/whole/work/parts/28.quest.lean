/-- a question without a fault: how many questions are wanted at each place -/
def WF (nf : Nat) (L : Nat → Nat) (n : Nat) : Prop := ∃ D : Nat → Nat, D 0 = 1 ∧ D n = 0 ∧ ∀ i, i < n → 1 ≤ D i ∧ kd nf (L i) < 3 ∧ D (i + 1) + 1 = D i + kd nf (L i)
theorem slip_val {nf n : Nat} (hf : nf < 6) (hn : n ≤ 16) (mb : Nat → Int32) (L : Nat → Nat) (hL : ∀ i, i < n → L i < 256 ∧ mb i = nI (L i)) : ∃ r, m_X10_slipOf (nI n) (nI nf) mb = some r ∧ (r = -9 → WF nf L n) := by
  unfold m_X10_slipOf
  refine loop_r (fun fuel (s : Int32) j => L_X10_slipOf_4 (nI n) (nI nf) mb fuel s (nI j) (fun (x3 : Int32) => if x3 = (0 : Int32) then some (-9 : Int32) else some (nI n))) n
    (fun j s => ∃ D : Nat → Nat, D 0 = 1 ∧ s = nI (D j) ∧ D j ≤ j + 1 ∧ ∀ i, i < j → 1 ≤ D i ∧ kd nf (L i) < 3 ∧ D (i + 1) + 1 = D i + kd nf (L i))
    (fun r => ∃ v, r = some v ∧ (v = -9 → WF nf L n)) ?_ ?_ n 0 1 1024 rfl (Nat.zero_le n) (by omega) ⟨fun _ => 1, rfl, rfl, Nat.le_refl 1, fun i hi => absurd hi (Nat.not_lt_zero i)⟩
  · rintro fuel s ⟨D, d0, ds, dl, dd⟩
    rw [L_X10_slipOf_4.eq_2]
    simp (disch := omega) only [nm_eq, bd1_some, bd2_some, bd3_some, bd4_some, bd5_some, bd6_some, gd_t, inB_nI, nI_clamp, n_le, n_lt, n_eq, nI_1, Nat.le_refl, Nat.lt_irrefl, Nat.not_lt_zero, Nat.zero_le, ↓reduceIte, q0_le, q0_ge, q0_lt, q0_gt, q0_eq, q0_qe, q1_le, q1_ge, q1_lt, q1_gt, q1_eq, q1_qe, q2_le, q2_ge, q2_lt, q2_gt, q2_eq, q2_qe, q3_le, q3_ge, q3_lt, q3_gt, q3_eq, q3_qe, q5_le, q5_ge, q5_lt, q5_gt, q5_eq, q5_qe, q6_le, q6_ge, q6_lt, q6_gt, q6_eq, q6_qe, q7_le, q7_ge, q7_lt, q7_gt, q7_eq, q7_qe, q10_le, q10_ge, q10_lt, q10_gt, q10_eq, q10_qe, q19_le, q19_ge, q19_lt, q19_gt, q19_eq, q19_qe, q28_le, q28_ge, q28_lt, q28_gt, q28_eq, q28_qe, q32_le, q32_ge, q32_lt, q32_gt, q32_eq, q32_qe]
    subst ds
    by_cases h : D n = 0
    · refine ⟨-9, ?_, fun _ => ⟨D, d0, h, dd⟩⟩
      rw [h, nI_0, if_pos rfl]
    · refine ⟨nI n, ?_, fun e => absurd e (nI_ne9 (by omega))⟩
      rw [if_neg (nI_ne0 (by omega) (by omega))]
  · rintro fuel s j hj ⟨D, d0, ds, dl, dd⟩
    obtain ⟨hb, h2⟩ := hL j hj
    have e3 := wants_eq nf hf (L j) hb
    have hk := kd_lt nf (L j)
    rw [L_X10_slipOf_4.eq_2]
    simp (disch := omega) only [nm_eq, bd1_some, bd2_some, bd3_some, bd4_some, bd5_some, bd6_some, gd_t, inB_nI, nI_clamp, n_le, n_lt, n_eq, nI_1, Nat.le_refl, Nat.lt_irrefl, Nat.not_lt_zero, Nat.zero_le, ↓reduceIte, q0_le, q0_ge, q0_lt, q0_gt, q0_eq, q0_qe, q1_le, q1_ge, q1_lt, q1_gt, q1_eq, q1_qe, q2_le, q2_ge, q2_lt, q2_gt, q2_eq, q2_qe, q3_le, q3_ge, q3_lt, q3_gt, q3_eq, q3_qe, q5_le, q5_ge, q5_lt, q5_gt, q5_eq, q5_qe, q6_le, q6_ge, q6_lt, q6_gt, q6_eq, q6_qe, q7_le, q7_ge, q7_lt, q7_gt, q7_eq, q7_qe, q10_le, q10_ge, q10_lt, q10_gt, q10_eq, q10_qe, q19_le, q19_ge, q19_lt, q19_gt, q19_eq, q19_qe, q28_le, q28_ge, q28_lt, q28_gt, q28_eq, q28_qe, q32_le, q32_ge, q32_lt, q32_gt, q32_eq, q32_qe, Nat.not_le.mpr hj, h2, e3]
    by_cases h0 : D j = 0
    · refine Or.inl ⟨nI j, ?_, fun e => absurd e (nI_ne9 (by omega))⟩
      rw [if_pos (by rw [ds, h0]; rfl)]
    · rw [if_neg (show ¬ s = 0 by rw [ds]; exact nI_ne0 (by omega) (by omega))]
      by_cases h3 : kd nf (L j) = 3
      · refine Or.inl ⟨nI j, ?_, fun e => absurd e (nI_ne9 (by omega))⟩
        rw [h3, if_pos (show kI 3 = -9 from rfl)]
      · refine Or.inr ⟨nI (D j + kd nf (L j) - 1), ⟨fun i => if i = j + 1 then D j + kd nf (L j) - 1 else D i, ?_, ?_, ?_, ?_⟩, ?_⟩
        · dsimp only; rw [if_neg (by omega)]; exact d0
        · dsimp only; rw [if_pos rfl]
        · dsimp only; rw [if_pos rfl]; omega
        · intro i hi
          dsimp only
          rw [if_neg (show ¬ i = j + 1 by omega)]
          by_cases e : i = j
          · subst e
            rw [if_pos rfl]
            exact ⟨by omega, by omega, by omega⟩
          · rw [if_neg (by omega)]
            exact dd i (by omega)
        · have ek : kI (kd nf (L j)) = nI (kd nf (L j)) := by unfold kI; rw [if_neg h3]
          rw [ek, if_neg (nI_ne9 (by omega))]
          congr 1
          rw [ds]
          rcases (show kd nf (L j) = 0 ∨ kd nf (L j) = 1 ∨ kd nf (L j) = 2 by omega) with k | k | k
          · rw [k, show nI 0 - 1 = -1 by decide, show D j + 0 - 1 = D j - 1 by omega]
            exact sb_m1 (by omega)
          · rw [k, show nI 1 - 1 = 0 by decide, Int32.add_zero, Nat.add_sub_cancel]
          · rw [k, show nI 2 - 1 = 1 by decide, nI_1]
            rfl
-- the class: sets on a stack
def qstep (lv : Nat → Int32) (b : Nat) (st : List Int32) : List Int32 :=
  if b = 110 then (match st with | a :: r => (a ^^^ (-1)) :: r | [] => [])
  else if b = 38 then (match st with | a :: c :: r => (a &&& c) :: r | s => s)
  else if b = 124 then (match st with | a :: c :: r => (a ||| c) :: r | s => s)
  else if b = 94 then (match st with | a :: c :: r => (a ^^^ c) :: r | s => s)
  else lv b :: st
def qs (lv : Nat → Int32) (L : Nat → Nat) (n : Nat) : Nat → List Int32
  | 0 => []
  | j + 1 => qstep lv (L (n - 1 - j)) (qs lv L n j)
/-- the value of a question: the cases in which it is so -/
def QV (lv : Nat → Int32) (L : Nat → Nat) (n : Nat) : Int32 := (qs lv L n n).headD 0
theorem kd_1 {nf b : Nat} : kd nf b = 1 ↔ b = 110 := by
  unfold kd
  constructor
  · intro h
    by_cases e : b = 110
    · exact e
    · rw [if_neg e] at h
      split at h
      · omega
      · split at h <;> omega
  · intro e
    rw [if_pos e]
theorem kd_2 {nf b : Nat} : kd nf b = 2 ↔ (b = 38 ∨ b = 124 ∨ b = 94) := by
  unfold kd
  constructor
  · intro h
    by_cases e : b = 110
    · rw [if_pos e] at h; omega
    · rw [if_neg e] at h
      split at h
      · assumption
      · split at h <;> omega
  · intro e
    rw [if_neg (by omega), if_pos e]
theorem qs_len (lv : Nat → Int32) {nf : Nat} {L : Nat → Nat} {n : Nat} {D : Nat → Nat} (hn : D n = 0) (hD : ∀ i, i < n → 1 ≤ D i ∧ kd nf (L i) < 3 ∧ D (i + 1) + 1 = D i + kd nf (L i)) : ∀ j, j ≤ n → (qs lv L n j).length = D (n - j) ∧ (qs lv L n j).length ≤ j := by
  intro j
  induction j with
  | zero => intro _; exact ⟨by rw [Nat.sub_zero, hn]; rfl, Nat.le_refl 0⟩
  | succ j ih =>
    intro hj
    obtain ⟨h1, h2⟩ := ih (by omega)
    obtain ⟨d1, d2, d3⟩ := hD (n - 1 - j) (by omega)
    rw [show n - 1 - j + 1 = n - j by omega, ← h1] at d3
    rw [show n - (j + 1) = n - 1 - j by omega]
    show (qstep lv (L (n - 1 - j)) (qs lv L n j)).length = _ ∧ (qstep lv (L (n - 1 - j)) (qs lv L n j)).length ≤ _
    generalize qs lv L n j = st at *
    generalize L (n - 1 - j) = b at *
    rcases (show kd nf b = 0 ∨ kd nf b = 1 ∨ kd nf b = 2 by omega) with k | k | k
    · have a1 : ¬ b = 110 := fun e => by rw [kd_1.mpr e] at k; omega
      have a2 : ¬ (b = 38 ∨ b = 124 ∨ b = 94) := fun e => by rw [kd_2.mpr e] at k; omega
      unfold qstep
      rw [if_neg a1, if_neg (by omega), if_neg (by omega), if_neg (by omega), List.length_cons]
      omega
    · have a1 := kd_1.mp k
      unfold qstep
      rw [if_pos a1]
      cases st with
      | nil => simp at d3 d1; omega
      | cons a r => simp only [List.length_cons] at *; omega
    · have a2 := kd_2.mp k
      unfold qstep
      rw [if_neg (by omega)]
      cases st with
      | nil => simp at d3 d1; omega
      | cons a r =>
        cases r with
        | nil => simp only [List.length_cons, List.length_nil] at *; omega
        | cons c r =>
          simp only [List.length_cons] at *
          rcases a2 with e | e | e
          · rw [if_pos e]; simp only [List.length_cons]; omega
          · rw [if_neg (by omega), if_pos e]; simp only [List.length_cons]; omega
          · rw [if_neg (by omega), if_neg (by omega), if_pos e]; simp only [List.length_cons]; omega
def AR (v : Nat → Int32) : List Int32 → Prop
  | [] => True
  | a :: r => v r.length = a ∧ AR v r
theorem AR_upd {v : Nat → Int32} {k : Nat} {x : Int32} : ∀ {r : List Int32}, r.length ≤ k → AR v r → AR (upd v k x) r
  | [], _, _ => trivial
  | a :: r, h, ⟨h1, h2⟩ => by
    rw [List.length_cons] at h
    exact ⟨by rw [pk_un (by omega)]; exact h1, AR_upd (by omega) h2⟩
theorem nI_m1' (n : Nat) : nI n + (-1) = nI n - 1 := by rw [Int32.sub_eq_add_neg]
theorem nI_sub1 {n : Nat} (h : 0 < n) : nI n - 1 = nI (n - 1) := by
  obtain ⟨m, rfl⟩ : ∃ m, n = m + 1 := ⟨n - 1, by omega⟩
  rw [nI_pred, Nat.add_sub_cancel]
def lfv (y e : Bool) (td : Nat) (b : Nat) : Int32 := sCS (sq b) y e td
theorem m0_lt : (nI 0 - 1 < 0) = True := by decide
