def b2i (b : Bool) : Int32 := if b = true then 1 else 0
theorem b2i_t : b2i true = 1 := rfl
theorem b2i_f : b2i false = 0 := rfl
theorem b2i_0 (b : Bool) : b2i b = 0 ↔ b = false := by cases b <;> decide
theorem b2i_1 (b : Bool) : b2i b = 1 ↔ b = true := by cases b <;> decide
theorem zB_b2i (b : Bool) : zB (b2i b) = true := by cases b <;> decide
theorem b2i_inj {a b : Bool} : b2i a = b2i b ↔ a = b := by cases a <;> cases b <;> decide
theorem nm_eq {α β : Type} (e : α) (f : α → β) : nm e f = f e := rfl
theorem gd_t {α : Type} (x : Option α) : gd true x = x := rfl
theorem bd1_some {A1 γ : Type} (a : A1) (f : A1 → Option γ) : bd1 (some a) f = f a := rfl
theorem bd2_some {A1 A2 γ : Type} (a : A1) (b : A2) (f : A1 → A2 → Option γ) : bd2 (some (a, b)) f = f a b := rfl
theorem bd3_some {A1 A2 A3 γ : Type} (a : A1) (b : A2) (c : A3) (f : A1 → A2 → A3 → Option γ) : bd3 (some (a, b, c)) f = f a b c := rfl
theorem bd4_some {A1 A2 A3 A4 γ : Type} (a : A1) (b : A2) (c : A3) (d : A4) (f : A1 → A2 → A3 → A4 → Option γ) : bd4 (some (a, b, c, d)) f = f a b c d := rfl
theorem bd5_some {A1 A2 A3 A4 A5 γ : Type} (a : A1) (b : A2) (c : A3) (d : A4) (e : A5) (f : A1 → A2 → A3 → A4 → A5 → Option γ) : bd5 (some (a, b, c, d, e)) f = f a b c d e := rfl
theorem bd6_some {A1 A2 A3 A4 A5 A6 γ : Type} (a : A1) (b : A2) (c : A3) (d : A4) (e : A5) (g : A6) (f : A1 → A2 → A3 → A4 → A5 → A6 → Option γ) : bd6 (some (a, b, c, d, e, g)) f = f a b c d e g := rfl
theorem inB_nI {i n : Nat} (hi : i < 2 ^ 31) (h : i < n) : inB (nI i) n = true := by
  unfold inB
  rw [nI_clamp hi]
  simp [h, nI_pos hi]
theorem nI_lt0 {n : Nat} (h : n < 2 ^ 31) : (nI n < 0) = False := eq_false (nI_pos h)
theorem loop_r {σ α : Type} (L : Nat → σ → Nat → α) (N : Nat) (P : Nat → σ → Prop) (Q : α → Prop) (hx : ∀ n s, P N s → Q (L (n + 1) s N)) (hs : ∀ n s j, j < N → P j s → Q (L (n + 1) s j) ∨ ∃ s', P (j + 1) s' ∧ L (n + 1) s j = L n s' (j + 1)) :
    ∀ m j s fuel, m = N - j → j ≤ N → m < fuel → P j s → Q (L fuel s j) := by
  intro m
  induction m with
  | zero =>
    intro j s fuel hm hj hf hP
    obtain rfl : j = N := by omega
    obtain ⟨f, rfl⟩ : ∃ f, fuel = f + 1 := ⟨fuel - 1, by omega⟩
    exact hx f s hP
  | succ m ih =>
    intro j s fuel hm hj hf hP
    obtain ⟨f, rfl⟩ : ∃ f, fuel = f + 1 := ⟨fuel - 1, by omega⟩
    rcases hs f s j (by omega) hP with h | ⟨s', h1, h2⟩
    · exact h
    · rw [h2]
      exact ih (j + 1) s' f (by omega) (by omega) (by omega) h1
theorem loop_u {σ α : Type} (L : Nat → σ → Nat → α) (E : σ → α) (N : Nat) (P : Nat → σ → Prop) (hx : ∀ n s, P N s → L (n + 1) s N = E s) (hs : ∀ n s j, j < N → P j s → ∃ s', P (j + 1) s' ∧ L (n + 1) s j = L n s' (j + 1))
    {j : Nat} {s : σ} {fuel : Nat} (hj : j ≤ N) (hf : N - j < fuel) (hP : P j s) : ∃ s', P N s' ∧ L fuel s j = E s' :=
  loop_r L N P (fun r => ∃ s', P N s' ∧ r = E s') (fun n s h => ⟨s, h, hx n s h⟩) (fun n s j h1 h2 => Or.inr (hs n s j h1 h2)) (N - j) j s fuel rfl hj hf hP
theorem loop_d {σ α : Type} (L : Nat → σ → Nat → α) (P : Nat → σ → Prop) (Q : α → Prop) (hx : ∀ n s, P 0 s → Q (L (n + 1) s 0)) (hs : ∀ n s j, P (j + 1) s → Q (L (n + 1) s (j + 1)) ∨ ∃ s', P j s' ∧ L (n + 1) s (j + 1) = L n s' j) :
    ∀ j s fuel, j < fuel → P j s → Q (L fuel s j) := by
  intro j
  induction j with
  | zero =>
    intro s fuel hf hP
    obtain ⟨f, rfl⟩ : ∃ f, fuel = f + 1 := ⟨fuel - 1, by omega⟩
    exact hx f s hP
  | succ j ih =>
    intro s fuel hf hP
    obtain ⟨f, rfl⟩ : ∃ f, fuel = f + 1 := ⟨fuel - 1, by omega⟩
    rcases hs f s j hP with h | ⟨s', h1, h2⟩
    · exact h
    · rw [h2]
      exact ih s' f (by omega) h1
theorem loop_dn {σ α : Type} (L : Nat → σ → Nat → α) (E : σ → α) (P : Nat → σ → Prop) (hx : ∀ n s, P 0 s → L (n + 1) s 0 = E s) (hs : ∀ n s j, P (j + 1) s → ∃ s', P j s' ∧ L (n + 1) s (j + 1) = L n s' j)
    {j : Nat} {s : σ} {fuel : Nat} (hf : j < fuel) (hP : P j s) : ∃ s', P 0 s' ∧ L fuel s j = E s' :=
  loop_d L P (fun r => ∃ s', P 0 s' ∧ r = E s') (fun n s h => ⟨s, h, hx n s h⟩) (fun n s j h2 => Or.inr (hs n s j h2)) j s fuel hf hP
-- bits
theorem b_not (x : Int32) {i : Nat} (hi : i < 32) : bt (x ^^^ (-1)) i = !bt x i := by rw [b_xor, b_m1 i hi]; simp
theorem bt_one : ∀ k, k < 32 → ∀ i, i < 32 → bt ((1 : Int32) <<< (nI k &&& 31)) i = decide (i = k) := by decide +kernel
theorem bt_1 (i : Nat) : bt 1 i = decide (i = 0) := by
  rcases Nat.lt_or_ge i 32 with h | h
  · exact (by decide +kernel : ∀ i, i < 32 → bt 1 i = decide (i = 0)) i h
  · rw [b_big h, decide_eq_false (by omega)]
theorem bit_of (x : Int32) {k : Nat} (hk : k < 32) : (x >>> (nI k &&& 31)) &&& 1 = b2i (bt x k) := by
  apply b_ext
  intro i hi
  rw [b_and, bt_1, b_sshr k hk x hi]
  by_cases h0 : i = 0
  · subst h0
    rw [if_pos (by omega)]
    cases h : bt x k
    · simp [h, b2i, b_0]
    · simp [h, b2i, bt_1]
  · cases h : bt x k
    · simp [h0, b2i, b_0]
    · simp [h0, b2i, bt_1]
theorem m_has (x : Int32) {k : Nat} (hk : k < 32) : m_X10_has x (nI k) = some (b2i (bt x k)) := by
  unfold m_X10_has
  rw [bit_of x hk]
  cases bt x k <;> rfl
/-- how many of the first n hold -/
abbrev cn (p : Nat → Bool) (n : Nat) : Nat := fb_ct p n
theorem q0_le (j : Nat) (hj : j < 2147483648) : ((0 : Int32) ≤ nI j) = (0 ≤ j) := propext (nI_leI (a := 0) (b := j) (by decide) hj)
theorem q0_ge (j : Nat) (hj : j < 2147483648) : (nI j ≤ (0 : Int32)) = (j ≤ 0) := propext (nI_leI (a := j) (b := 0) hj (by decide))
theorem q0_lt (j : Nat) (hj : j < 2147483648) : ((0 : Int32) < nI j) = (0 < j) := propext (nI_ltI (a := 0) (b := j) (by decide) hj)
theorem q0_gt (j : Nat) (hj : j < 2147483648) : (nI j < (0 : Int32)) = (j < 0) := propext (nI_ltI (a := j) (b := 0) hj (by decide))
theorem q0_eq (j : Nat) (hj : j < 2147483648) : (nI j = (0 : Int32)) = (j = 0) := propext (nI_eq (a := j) (b := 0) hj (by decide))
theorem q0_qe (j : Nat) (hj : j < 2147483648) : ((0 : Int32) = nI j) = (0 = j) := propext (nI_eq (a := 0) (b := j) (by decide) hj)
theorem q1_le (j : Nat) (hj : j < 2147483648) : ((1 : Int32) ≤ nI j) = (1 ≤ j) := propext (nI_leI (a := 1) (b := j) (by decide) hj)
theorem q1_ge (j : Nat) (hj : j < 2147483648) : (nI j ≤ (1 : Int32)) = (j ≤ 1) := propext (nI_leI (a := j) (b := 1) hj (by decide))
theorem q1_lt (j : Nat) (hj : j < 2147483648) : ((1 : Int32) < nI j) = (1 < j) := propext (nI_ltI (a := 1) (b := j) (by decide) hj)
theorem q1_gt (j : Nat) (hj : j < 2147483648) : (nI j < (1 : Int32)) = (j < 1) := propext (nI_ltI (a := j) (b := 1) hj (by decide))
theorem q1_eq (j : Nat) (hj : j < 2147483648) : (nI j = (1 : Int32)) = (j = 1) := propext (nI_eq (a := j) (b := 1) hj (by decide))
theorem q1_qe (j : Nat) (hj : j < 2147483648) : ((1 : Int32) = nI j) = (1 = j) := propext (nI_eq (a := 1) (b := j) (by decide) hj)
theorem q2_le (j : Nat) (hj : j < 2147483648) : ((2 : Int32) ≤ nI j) = (2 ≤ j) := propext (nI_leI (a := 2) (b := j) (by decide) hj)
theorem q2_ge (j : Nat) (hj : j < 2147483648) : (nI j ≤ (2 : Int32)) = (j ≤ 2) := propext (nI_leI (a := j) (b := 2) hj (by decide))
theorem q2_lt (j : Nat) (hj : j < 2147483648) : ((2 : Int32) < nI j) = (2 < j) := propext (nI_ltI (a := 2) (b := j) (by decide) hj)
theorem q2_gt (j : Nat) (hj : j < 2147483648) : (nI j < (2 : Int32)) = (j < 2) := propext (nI_ltI (a := j) (b := 2) hj (by decide))
theorem q2_eq (j : Nat) (hj : j < 2147483648) : (nI j = (2 : Int32)) = (j = 2) := propext (nI_eq (a := j) (b := 2) hj (by decide))
theorem q2_qe (j : Nat) (hj : j < 2147483648) : ((2 : Int32) = nI j) = (2 = j) := propext (nI_eq (a := 2) (b := j) (by decide) hj)
theorem q3_le (j : Nat) (hj : j < 2147483648) : ((3 : Int32) ≤ nI j) = (3 ≤ j) := propext (nI_leI (a := 3) (b := j) (by decide) hj)
theorem q3_ge (j : Nat) (hj : j < 2147483648) : (nI j ≤ (3 : Int32)) = (j ≤ 3) := propext (nI_leI (a := j) (b := 3) hj (by decide))
theorem q3_lt (j : Nat) (hj : j < 2147483648) : ((3 : Int32) < nI j) = (3 < j) := propext (nI_ltI (a := 3) (b := j) (by decide) hj)
theorem q3_gt (j : Nat) (hj : j < 2147483648) : (nI j < (3 : Int32)) = (j < 3) := propext (nI_ltI (a := j) (b := 3) hj (by decide))
theorem q3_eq (j : Nat) (hj : j < 2147483648) : (nI j = (3 : Int32)) = (j = 3) := propext (nI_eq (a := j) (b := 3) hj (by decide))
theorem q3_qe (j : Nat) (hj : j < 2147483648) : ((3 : Int32) = nI j) = (3 = j) := propext (nI_eq (a := 3) (b := j) (by decide) hj)
theorem q4_le (j : Nat) (hj : j < 2147483648) : ((4 : Int32) ≤ nI j) = (4 ≤ j) := propext (nI_leI (a := 4) (b := j) (by decide) hj)
theorem q4_ge (j : Nat) (hj : j < 2147483648) : (nI j ≤ (4 : Int32)) = (j ≤ 4) := propext (nI_leI (a := j) (b := 4) hj (by decide))
theorem q4_lt (j : Nat) (hj : j < 2147483648) : ((4 : Int32) < nI j) = (4 < j) := propext (nI_ltI (a := 4) (b := j) (by decide) hj)
theorem q4_gt (j : Nat) (hj : j < 2147483648) : (nI j < (4 : Int32)) = (j < 4) := propext (nI_ltI (a := j) (b := 4) hj (by decide))
theorem q4_eq (j : Nat) (hj : j < 2147483648) : (nI j = (4 : Int32)) = (j = 4) := propext (nI_eq (a := j) (b := 4) hj (by decide))
theorem q4_qe (j : Nat) (hj : j < 2147483648) : ((4 : Int32) = nI j) = (4 = j) := propext (nI_eq (a := 4) (b := j) (by decide) hj)
theorem q5_le (j : Nat) (hj : j < 2147483648) : ((5 : Int32) ≤ nI j) = (5 ≤ j) := propext (nI_leI (a := 5) (b := j) (by decide) hj)
theorem q5_ge (j : Nat) (hj : j < 2147483648) : (nI j ≤ (5 : Int32)) = (j ≤ 5) := propext (nI_leI (a := j) (b := 5) hj (by decide))
theorem q5_lt (j : Nat) (hj : j < 2147483648) : ((5 : Int32) < nI j) = (5 < j) := propext (nI_ltI (a := 5) (b := j) (by decide) hj)
theorem q5_gt (j : Nat) (hj : j < 2147483648) : (nI j < (5 : Int32)) = (j < 5) := propext (nI_ltI (a := j) (b := 5) hj (by decide))
theorem q5_eq (j : Nat) (hj : j < 2147483648) : (nI j = (5 : Int32)) = (j = 5) := propext (nI_eq (a := j) (b := 5) hj (by decide))
theorem q5_qe (j : Nat) (hj : j < 2147483648) : ((5 : Int32) = nI j) = (5 = j) := propext (nI_eq (a := 5) (b := j) (by decide) hj)
theorem q6_le (j : Nat) (hj : j < 2147483648) : ((6 : Int32) ≤ nI j) = (6 ≤ j) := propext (nI_leI (a := 6) (b := j) (by decide) hj)
theorem q6_ge (j : Nat) (hj : j < 2147483648) : (nI j ≤ (6 : Int32)) = (j ≤ 6) := propext (nI_leI (a := j) (b := 6) hj (by decide))
theorem q6_lt (j : Nat) (hj : j < 2147483648) : ((6 : Int32) < nI j) = (6 < j) := propext (nI_ltI (a := 6) (b := j) (by decide) hj)
theorem q6_gt (j : Nat) (hj : j < 2147483648) : (nI j < (6 : Int32)) = (j < 6) := propext (nI_ltI (a := j) (b := 6) hj (by decide))
theorem q6_eq (j : Nat) (hj : j < 2147483648) : (nI j = (6 : Int32)) = (j = 6) := propext (nI_eq (a := j) (b := 6) hj (by decide))
theorem q6_qe (j : Nat) (hj : j < 2147483648) : ((6 : Int32) = nI j) = (6 = j) := propext (nI_eq (a := 6) (b := j) (by decide) hj)
theorem q7_le (j : Nat) (hj : j < 2147483648) : ((7 : Int32) ≤ nI j) = (7 ≤ j) := propext (nI_leI (a := 7) (b := j) (by decide) hj)
theorem q7_ge (j : Nat) (hj : j < 2147483648) : (nI j ≤ (7 : Int32)) = (j ≤ 7) := propext (nI_leI (a := j) (b := 7) hj (by decide))
theorem q7_lt (j : Nat) (hj : j < 2147483648) : ((7 : Int32) < nI j) = (7 < j) := propext (nI_ltI (a := 7) (b := j) (by decide) hj)
theorem q7_gt (j : Nat) (hj : j < 2147483648) : (nI j < (7 : Int32)) = (j < 7) := propext (nI_ltI (a := j) (b := 7) hj (by decide))
theorem q7_eq (j : Nat) (hj : j < 2147483648) : (nI j = (7 : Int32)) = (j = 7) := propext (nI_eq (a := j) (b := 7) hj (by decide))
theorem q7_qe (j : Nat) (hj : j < 2147483648) : ((7 : Int32) = nI j) = (7 = j) := propext (nI_eq (a := 7) (b := j) (by decide) hj)
theorem q10_le (j : Nat) (hj : j < 2147483648) : ((10 : Int32) ≤ nI j) = (10 ≤ j) := propext (nI_leI (a := 10) (b := j) (by decide) hj)
theorem q10_ge (j : Nat) (hj : j < 2147483648) : (nI j ≤ (10 : Int32)) = (j ≤ 10) := propext (nI_leI (a := j) (b := 10) hj (by decide))
theorem q10_lt (j : Nat) (hj : j < 2147483648) : ((10 : Int32) < nI j) = (10 < j) := propext (nI_ltI (a := 10) (b := j) (by decide) hj)
theorem q10_gt (j : Nat) (hj : j < 2147483648) : (nI j < (10 : Int32)) = (j < 10) := propext (nI_ltI (a := j) (b := 10) hj (by decide))
theorem q10_eq (j : Nat) (hj : j < 2147483648) : (nI j = (10 : Int32)) = (j = 10) := propext (nI_eq (a := j) (b := 10) hj (by decide))
theorem q10_qe (j : Nat) (hj : j < 2147483648) : ((10 : Int32) = nI j) = (10 = j) := propext (nI_eq (a := 10) (b := j) (by decide) hj)
theorem q12_le (j : Nat) (hj : j < 2147483648) : ((12 : Int32) ≤ nI j) = (12 ≤ j) := propext (nI_leI (a := 12) (b := j) (by decide) hj)
theorem q12_ge (j : Nat) (hj : j < 2147483648) : (nI j ≤ (12 : Int32)) = (j ≤ 12) := propext (nI_leI (a := j) (b := 12) hj (by decide))
theorem q12_lt (j : Nat) (hj : j < 2147483648) : ((12 : Int32) < nI j) = (12 < j) := propext (nI_ltI (a := 12) (b := j) (by decide) hj)
theorem q12_gt (j : Nat) (hj : j < 2147483648) : (nI j < (12 : Int32)) = (j < 12) := propext (nI_ltI (a := j) (b := 12) hj (by decide))
theorem q12_eq (j : Nat) (hj : j < 2147483648) : (nI j = (12 : Int32)) = (j = 12) := propext (nI_eq (a := j) (b := 12) hj (by decide))
theorem q12_qe (j : Nat) (hj : j < 2147483648) : ((12 : Int32) = nI j) = (12 = j) := propext (nI_eq (a := 12) (b := j) (by decide) hj)
theorem q13_le (j : Nat) (hj : j < 2147483648) : ((13 : Int32) ≤ nI j) = (13 ≤ j) := propext (nI_leI (a := 13) (b := j) (by decide) hj)
theorem q13_ge (j : Nat) (hj : j < 2147483648) : (nI j ≤ (13 : Int32)) = (j ≤ 13) := propext (nI_leI (a := j) (b := 13) hj (by decide))
theorem q13_lt (j : Nat) (hj : j < 2147483648) : ((13 : Int32) < nI j) = (13 < j) := propext (nI_ltI (a := 13) (b := j) (by decide) hj)
theorem q13_gt (j : Nat) (hj : j < 2147483648) : (nI j < (13 : Int32)) = (j < 13) := propext (nI_ltI (a := j) (b := 13) hj (by decide))
theorem q13_eq (j : Nat) (hj : j < 2147483648) : (nI j = (13 : Int32)) = (j = 13) := propext (nI_eq (a := j) (b := 13) hj (by decide))
theorem q13_qe (j : Nat) (hj : j < 2147483648) : ((13 : Int32) = nI j) = (13 = j) := propext (nI_eq (a := 13) (b := j) (by decide) hj)
theorem q16_le (j : Nat) (hj : j < 2147483648) : ((16 : Int32) ≤ nI j) = (16 ≤ j) := propext (nI_leI (a := 16) (b := j) (by decide) hj)
theorem q16_ge (j : Nat) (hj : j < 2147483648) : (nI j ≤ (16 : Int32)) = (j ≤ 16) := propext (nI_leI (a := j) (b := 16) hj (by decide))
theorem q16_lt (j : Nat) (hj : j < 2147483648) : ((16 : Int32) < nI j) = (16 < j) := propext (nI_ltI (a := 16) (b := j) (by decide) hj)
theorem q16_gt (j : Nat) (hj : j < 2147483648) : (nI j < (16 : Int32)) = (j < 16) := propext (nI_ltI (a := j) (b := 16) hj (by decide))
theorem q16_eq (j : Nat) (hj : j < 2147483648) : (nI j = (16 : Int32)) = (j = 16) := propext (nI_eq (a := j) (b := 16) hj (by decide))
theorem q16_qe (j : Nat) (hj : j < 2147483648) : ((16 : Int32) = nI j) = (16 = j) := propext (nI_eq (a := 16) (b := j) (by decide) hj)
theorem q18_le (j : Nat) (hj : j < 2147483648) : ((18 : Int32) ≤ nI j) = (18 ≤ j) := propext (nI_leI (a := 18) (b := j) (by decide) hj)
theorem q18_ge (j : Nat) (hj : j < 2147483648) : (nI j ≤ (18 : Int32)) = (j ≤ 18) := propext (nI_leI (a := j) (b := 18) hj (by decide))
theorem q18_lt (j : Nat) (hj : j < 2147483648) : ((18 : Int32) < nI j) = (18 < j) := propext (nI_ltI (a := 18) (b := j) (by decide) hj)
theorem q18_gt (j : Nat) (hj : j < 2147483648) : (nI j < (18 : Int32)) = (j < 18) := propext (nI_ltI (a := j) (b := 18) hj (by decide))
theorem q18_eq (j : Nat) (hj : j < 2147483648) : (nI j = (18 : Int32)) = (j = 18) := propext (nI_eq (a := j) (b := 18) hj (by decide))
theorem q18_qe (j : Nat) (hj : j < 2147483648) : ((18 : Int32) = nI j) = (18 = j) := propext (nI_eq (a := 18) (b := j) (by decide) hj)
theorem q19_le (j : Nat) (hj : j < 2147483648) : ((19 : Int32) ≤ nI j) = (19 ≤ j) := propext (nI_leI (a := 19) (b := j) (by decide) hj)
theorem q19_ge (j : Nat) (hj : j < 2147483648) : (nI j ≤ (19 : Int32)) = (j ≤ 19) := propext (nI_leI (a := j) (b := 19) hj (by decide))
theorem q19_lt (j : Nat) (hj : j < 2147483648) : ((19 : Int32) < nI j) = (19 < j) := propext (nI_ltI (a := 19) (b := j) (by decide) hj)
theorem q19_gt (j : Nat) (hj : j < 2147483648) : (nI j < (19 : Int32)) = (j < 19) := propext (nI_ltI (a := j) (b := 19) hj (by decide))
theorem q19_eq (j : Nat) (hj : j < 2147483648) : (nI j = (19 : Int32)) = (j = 19) := propext (nI_eq (a := j) (b := 19) hj (by decide))
theorem q19_qe (j : Nat) (hj : j < 2147483648) : ((19 : Int32) = nI j) = (19 = j) := propext (nI_eq (a := 19) (b := j) (by decide) hj)
theorem q24_le (j : Nat) (hj : j < 2147483648) : ((24 : Int32) ≤ nI j) = (24 ≤ j) := propext (nI_leI (a := 24) (b := j) (by decide) hj)
theorem q24_ge (j : Nat) (hj : j < 2147483648) : (nI j ≤ (24 : Int32)) = (j ≤ 24) := propext (nI_leI (a := j) (b := 24) hj (by decide))
theorem q24_lt (j : Nat) (hj : j < 2147483648) : ((24 : Int32) < nI j) = (24 < j) := propext (nI_ltI (a := 24) (b := j) (by decide) hj)
theorem q24_gt (j : Nat) (hj : j < 2147483648) : (nI j < (24 : Int32)) = (j < 24) := propext (nI_ltI (a := j) (b := 24) hj (by decide))
theorem q24_eq (j : Nat) (hj : j < 2147483648) : (nI j = (24 : Int32)) = (j = 24) := propext (nI_eq (a := j) (b := 24) hj (by decide))
theorem q24_qe (j : Nat) (hj : j < 2147483648) : ((24 : Int32) = nI j) = (24 = j) := propext (nI_eq (a := 24) (b := j) (by decide) hj)
theorem q28_le (j : Nat) (hj : j < 2147483648) : ((28 : Int32) ≤ nI j) = (28 ≤ j) := propext (nI_leI (a := 28) (b := j) (by decide) hj)
theorem q28_ge (j : Nat) (hj : j < 2147483648) : (nI j ≤ (28 : Int32)) = (j ≤ 28) := propext (nI_leI (a := j) (b := 28) hj (by decide))
theorem q28_lt (j : Nat) (hj : j < 2147483648) : ((28 : Int32) < nI j) = (28 < j) := propext (nI_ltI (a := 28) (b := j) (by decide) hj)
theorem q28_gt (j : Nat) (hj : j < 2147483648) : (nI j < (28 : Int32)) = (j < 28) := propext (nI_ltI (a := j) (b := 28) hj (by decide))
theorem q28_eq (j : Nat) (hj : j < 2147483648) : (nI j = (28 : Int32)) = (j = 28) := propext (nI_eq (a := j) (b := 28) hj (by decide))
theorem q28_qe (j : Nat) (hj : j < 2147483648) : ((28 : Int32) = nI j) = (28 = j) := propext (nI_eq (a := 28) (b := j) (by decide) hj)
theorem q32_le (j : Nat) (hj : j < 2147483648) : ((32 : Int32) ≤ nI j) = (32 ≤ j) := propext (nI_leI (a := 32) (b := j) (by decide) hj)
theorem q32_ge (j : Nat) (hj : j < 2147483648) : (nI j ≤ (32 : Int32)) = (j ≤ 32) := propext (nI_leI (a := j) (b := 32) hj (by decide))
theorem q32_lt (j : Nat) (hj : j < 2147483648) : ((32 : Int32) < nI j) = (32 < j) := propext (nI_ltI (a := 32) (b := j) (by decide) hj)
theorem q32_gt (j : Nat) (hj : j < 2147483648) : (nI j < (32 : Int32)) = (j < 32) := propext (nI_ltI (a := j) (b := 32) hj (by decide))
theorem q32_eq (j : Nat) (hj : j < 2147483648) : (nI j = (32 : Int32)) = (j = 32) := propext (nI_eq (a := j) (b := 32) hj (by decide))
theorem q32_qe (j : Nat) (hj : j < 2147483648) : ((32 : Int32) = nI j) = (32 = j) := propext (nI_eq (a := 32) (b := j) (by decide) hj)
theorem q60_le (j : Nat) (hj : j < 2147483648) : ((60 : Int32) ≤ nI j) = (60 ≤ j) := propext (nI_leI (a := 60) (b := j) (by decide) hj)
theorem q60_ge (j : Nat) (hj : j < 2147483648) : (nI j ≤ (60 : Int32)) = (j ≤ 60) := propext (nI_leI (a := j) (b := 60) hj (by decide))
theorem q60_lt (j : Nat) (hj : j < 2147483648) : ((60 : Int32) < nI j) = (60 < j) := propext (nI_ltI (a := 60) (b := j) (by decide) hj)
theorem q60_gt (j : Nat) (hj : j < 2147483648) : (nI j < (60 : Int32)) = (j < 60) := propext (nI_ltI (a := j) (b := 60) hj (by decide))
theorem q60_eq (j : Nat) (hj : j < 2147483648) : (nI j = (60 : Int32)) = (j = 60) := propext (nI_eq (a := j) (b := 60) hj (by decide))
theorem q60_qe (j : Nat) (hj : j < 2147483648) : ((60 : Int32) = nI j) = (60 = j) := propext (nI_eq (a := 60) (b := j) (by decide) hj)
theorem q255_le (j : Nat) (hj : j < 2147483648) : ((255 : Int32) ≤ nI j) = (255 ≤ j) := propext (nI_leI (a := 255) (b := j) (by decide) hj)
theorem q255_ge (j : Nat) (hj : j < 2147483648) : (nI j ≤ (255 : Int32)) = (j ≤ 255) := propext (nI_leI (a := j) (b := 255) hj (by decide))
theorem q255_lt (j : Nat) (hj : j < 2147483648) : ((255 : Int32) < nI j) = (255 < j) := propext (nI_ltI (a := 255) (b := j) (by decide) hj)
theorem q255_gt (j : Nat) (hj : j < 2147483648) : (nI j < (255 : Int32)) = (j < 255) := propext (nI_ltI (a := j) (b := 255) hj (by decide))
theorem q255_eq (j : Nat) (hj : j < 2147483648) : (nI j = (255 : Int32)) = (j = 255) := propext (nI_eq (a := j) (b := 255) hj (by decide))
theorem q255_qe (j : Nat) (hj : j < 2147483648) : ((255 : Int32) = nI j) = (255 = j) := propext (nI_eq (a := 255) (b := j) (by decide) hj)
theorem q931_le (j : Nat) (hj : j < 2147483648) : ((931 : Int32) ≤ nI j) = (931 ≤ j) := propext (nI_leI (a := 931) (b := j) (by decide) hj)
theorem q931_ge (j : Nat) (hj : j < 2147483648) : (nI j ≤ (931 : Int32)) = (j ≤ 931) := propext (nI_leI (a := j) (b := 931) hj (by decide))
theorem q931_lt (j : Nat) (hj : j < 2147483648) : ((931 : Int32) < nI j) = (931 < j) := propext (nI_ltI (a := 931) (b := j) (by decide) hj)
theorem q931_gt (j : Nat) (hj : j < 2147483648) : (nI j < (931 : Int32)) = (j < 931) := propext (nI_ltI (a := j) (b := 931) hj (by decide))
theorem q931_eq (j : Nat) (hj : j < 2147483648) : (nI j = (931 : Int32)) = (j = 931) := propext (nI_eq (a := j) (b := 931) hj (by decide))
theorem q931_qe (j : Nat) (hj : j < 2147483648) : ((931 : Int32) = nI j) = (931 = j) := propext (nI_eq (a := 931) (b := j) (by decide) hj)
theorem n_le (a b : Nat) (ha : a < 2147483648) (hb : b < 2147483648) : (nI a ≤ nI b) = (a ≤ b) := propext (nI_leI ha hb)
theorem n_lt (a b : Nat) (ha : a < 2147483648) (hb : b < 2147483648) : (nI a < nI b) = (a < b) := propext (nI_ltI ha hb)
theorem n_eq (a b : Nat) (ha : a < 2147483648) (hb : b < 2147483648) : (nI a = nI b) = (a = b) := propext (nI_eq ha hb)
theorem m_many (x : Int32) : m_X10_many x = some (nI (fb_ct (bt x) 32)) := by
  obtain ⟨s, h1, h2⟩ := loop_u (fun n (s : Int32) j => L_X10_many_4 x n s (nI j) (fun x3 => some x3)) (fun s => some s) 32 (fun j s => s = nI (fb_ct (bt x) j))
    (by
      intro n s h
      try dsimp only
      rw [L_X10_many_4.eq_2]
      simp (disch := omega) only [nm_eq, bd1_some, bd2_some, bd3_some, bd4_some, bd5_some, bd6_some, gd_t, inB_nI, nI_clamp, n_le, n_lt, n_eq, nI_1, Nat.le_refl, Nat.lt_irrefl, Nat.not_lt_zero, Nat.zero_le, ↓reduceIte, q0_le, q0_ge, q0_lt, q0_gt, q0_eq, q0_qe, q1_le, q1_ge, q1_lt, q1_gt, q1_eq, q1_qe, q2_le, q2_ge, q2_lt, q2_gt, q2_eq, q2_qe, q3_le, q3_ge, q3_lt, q3_gt, q3_eq, q3_qe, q5_le, q5_ge, q5_lt, q5_gt, q5_eq, q5_qe, q6_le, q6_ge, q6_lt, q6_gt, q6_eq, q6_qe, q7_le, q7_ge, q7_lt, q7_gt, q7_eq, q7_qe, q10_le, q10_ge, q10_lt, q10_gt, q10_eq, q10_qe, q19_le, q19_ge, q19_lt, q19_gt, q19_eq, q19_qe, q28_le, q28_ge, q28_lt, q28_gt, q28_eq, q28_qe, q32_le, q32_ge, q32_lt, q32_gt, q32_eq, q32_qe])
    (by
      intro n s j hj h
      refine Exists.intro ?w ⟨?h1, ?h2⟩
      case h2 =>
        try dsimp only
        rw [L_X10_many_4.eq_2]
        simp (disch := omega) only [nm_eq, bd1_some, bd2_some, bd3_some, bd4_some, bd5_some, bd6_some, gd_t, inB_nI, nI_clamp, n_le, n_lt, n_eq, nI_1, Nat.le_refl, Nat.lt_irrefl, Nat.not_lt_zero, Nat.zero_le, ↓reduceIte, q0_le, q0_ge, q0_lt, q0_gt, q0_eq, q0_qe, q1_le, q1_ge, q1_lt, q1_gt, q1_eq, q1_qe, q2_le, q2_ge, q2_lt, q2_gt, q2_eq, q2_qe, q3_le, q3_ge, q3_lt, q3_gt, q3_eq, q3_qe, q5_le, q5_ge, q5_lt, q5_gt, q5_eq, q5_qe, q6_le, q6_ge, q6_lt, q6_gt, q6_eq, q6_qe, q7_le, q7_ge, q7_lt, q7_gt, q7_eq, q7_qe, q10_le, q10_ge, q10_lt, q10_gt, q10_eq, q10_qe, q19_le, q19_ge, q19_lt, q19_gt, q19_eq, q19_qe, q28_le, q28_ge, q28_lt, q28_gt, q28_eq, q28_qe, q32_le, q32_ge, q32_lt, q32_gt, q32_eq, q32_qe, Nat.not_le.mpr hj, bit_of]
        rfl
      case h1 =>
        rw [h, fb_ct_succ]
        cases bt x j
        · simp [b2i]
        · simp [b2i, nI_1])
    (j := 0) (s := 0) (fuel := 1024) (by decide) (by decide) rfl
  rw [← h1]
  exact h2
