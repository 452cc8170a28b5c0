theorem nm_ite {α β : Type} (K : α → β) (c : Prop) [Decidable c] (a b : α) : nm K (fun k => if c then k a else k b) = K (if c then a else b) := by
  show (if c then K a else K b) = K (if c then a else b)
  by_cases h : c
  · rw [if_pos h, if_pos h]
  · rw [if_neg h, if_neg h]
theorem ite_b2i (c : Prop) [Decidable c] : (if c then (1 : Int32) else 0) = b2i (decide c) := by
  by_cases h : c <;> simp [h, b2i]
theorem one_shl : ∀ n, n < 31 → (1 : Int32) <<< (nI n &&& 31) = nI (2 ^ n) := by decide +kernel
theorem or_bit {f : Nat → Bool} {s : Int32} {j : Nat} (hj : j < 32) (h : ∀ i, i < 32 → bt s i = (decide (i < j) && f i)) : ∀ i, i < 32 → bt (s ||| (if f j = true then (1 : Int32) <<< (nI j &&& 31) else 0)) i = (decide (i < j + 1) && f i) := by
  intro i hi
  rw [b_or, h i hi]
  by_cases hf : f j = true
  · rw [if_pos hf, bt_one j hj i hi]
    by_cases e : i = j
    · subst e
      simp [hf]
    · simp [e, show (i < j + 1) = (i < j) from propext ⟨fun _ => by omega, fun _ => by omega⟩]
  · rw [if_neg hf, b_0]
    by_cases e : i = j
    · subst e
      simp [hf]
    · simp [show (i < j + 1) = (i < j) from propext ⟨fun _ => by omega, fun _ => by omega⟩]
/-- the answer of one that is honest or lies, by whether the question is so by yes, by no: 1 yes, 0 no, 2 none -/
def ansS (y n h : Bool) : Nat := if y == h then 1 else if n != h then 0 else 2
theorem ansS_lt (y n h : Bool) : ansS y n h < 3 := by cases y <;> cases n <;> cases h <;> decide
/-- whether a simple question is so: e: today is the true day -/
def sso (q : Nat) (e : Bool) (td st : Nat) (y : Bool) : Bool :=
  if q < 5 then st.testBit q else if q = 5 then e else if q < 13 then td == q - 6 else if q = 18 then y else st.testBit (q - 13) != e
def eci (b : Bool) : Int32 := if b = true then -1 else 0
def sCS (q : Nat) (y e : Bool) (td : Nat) : Int32 :=
  if q < 5 then cF q else if q = 5 then eci e else if q < 13 then eci (td == q - 6) else if q = 18 then eci y else cF (q - 13) ^^^ eci e
theorem cs_eq : ∀ q, q < 19 → ∀ y : Bool, ∀ wd, wd < 7 → ∀ td, td < 7 → m_X6_casesSo (nI q) (b2i y) (nI wd) (nI td) = some (sCS q y (wd == td) td) := by decide +kernel
theorem sCS_bit : ∀ q, q < 19 → ∀ y e : Bool, ∀ td, td < 7 → ∀ st, st < 32 → bt (sCS q y e td) st = sso q e td st y := by decide +kernel
theorem cg_eq (a b : Int32) (h : Bool) {g : Nat} (hg : g < 3) : ∃ r, m_X9_casesGiving (nI g) a b (b2i h) = some r ∧ ∀ i, i < 32 → bt r i = decide (ansS (bt a i) (bt b i) h = g) := by
  unfold m_X9_casesGiving
  simp only [nm_ite, b2i_0]
  rcases (show g = 0 ∨ g = 1 ∨ g = 2 by omega) with rfl | rfl | rfl
  · rw [if_neg (by decide), nm_eq, if_pos (by decide)]
    refine ⟨_, rfl, fun i hi => ?_⟩
    cases h <;> simp only [reduceCtorEq, ↓reduceIte, b_and, b_or, b_not _ hi] <;> cases bt a i <;> cases bt b i <;> rfl
  · rw [if_pos (by decide)]
    refine ⟨_, rfl, fun i hi => ?_⟩
    cases h <;> simp only [reduceCtorEq, ↓reduceIte, b_and, b_or, b_not _ hi] <;> cases bt a i <;> cases bt b i <;> rfl
  · rw [if_neg (by decide), nm_eq, if_neg (by decide)]
    refine ⟨_, rfl, fun i hi => ?_⟩
    cases h <;> simp only [reduceCtorEq, ↓reduceIte, b_and, b_or, b_not _ hi] <;> cases bt a i <;> cases bt b i <;> rfl
/-- the cases of an answer to a simple question -/
def CA (q g wd td : Nat) : Int32 := (m_X6_casesAnswered (nI q) (nI g) (nI wd) (nI td)).getD 0
def sans (q wd td st : Nat) : Nat := ansS (sso q (wd == td) td st true) (sso q (wd == td) td st false) (wd == td)
theorem ca_eq {q g wd td : Nat} (hq : q < 19) (hg : g < 3) (hw : wd < 7) (ht : td < 7) : m_X6_casesAnswered (nI q) (nI g) (nI wd) (nI td) = some (CA q g wd td) ∧ ∀ i, i < 32 → bt (CA q g wd td) i = decide (sans q wd td i = g) := by
  obtain ⟨r, h1, h2⟩ := cg_eq (sCS q true (wd == td) td) (sCS q false (wd == td) td) (wd == td) hg
  have e : m_X6_casesAnswered (nI q) (nI g) (nI wd) (nI td) = some r := by
    unfold m_X6_casesAnswered
    rw [show (1 : Int32) = b2i true from rfl, show (0 : Int32) = b2i false from rfl, cs_eq q hq true wd hw td ht, cs_eq q hq false wd hw td ht, bd1_some, bd1_some, nm_ite]
    rw [show (if nI wd = nI td then b2i true else b2i false) = b2i (wd == td) by
      by_cases h : wd = td
      · rw [if_pos (by rw [h]), h]; simp
      · rw [if_neg (by rw [nI_eq (by omega) (by omega)]; exact h), beq_eq_false_iff_ne.mpr h]]
    rw [h1, bd1_some]
  refine ⟨by unfold CA; rw [e]; rfl, fun i hi => ?_⟩
  have hr : CA q g wd td = r := by unfold CA; rw [e]; rfl
  rw [hr, h2 i hi, sCS_bit q hq _ _ td ht i hi, sCS_bit q hq _ _ td ht i hi]
  rfl
theorem aa_eq (a b : Int32) {i : Nat} (hi : i < 32) : m_X9_answerAt (nI i) a b = some (if bt a i = true then 1 else if bt b i = true then 0 else 2) := by
  have key : ∀ x : Int32, (j_iushr x (nI i) &&& 1) = b2i (bt x i) := by
    intro x
    apply b_ext
    intro k hk
    rw [b_and, bt_1]
    have := b_ushr i hi x k
    unfold j_iushr
    rw [this]
    by_cases h0 : k = 0
    · subst h0
      cases h : bt x i <;> simp [h, b2i, b_0, bt_1]
    · cases h : bt x i <;> simp [h0, b2i, b_0, bt_1]
  unfold m_X9_answerAt
  rw [key, key]
  cases bt a i <;> cases bt b i <;> rfl
/-- an answer as the class tells it inside -/
theorem sai_eq {q wd td st : Nat} (hq : q < 19) (hw : wd < 7) (ht : td < 7) (hs : st < 32) : m_X6_answerIn (nI q) (nI wd) (nI td) (nI st) = some (nI (sans q wd td st)) := by
  obtain ⟨e1, f1⟩ := ca_eq (g := 1) hq (by decide) hw ht
  obtain ⟨e0, f0⟩ := ca_eq (g := 0) hq (by decide) hw ht
  unfold m_X6_answerIn
  rw [show (1 : Int32) = nI 1 from rfl, show (0 : Int32) = nI 0 from rfl, e1, e0, bd1_some, bd1_some, aa_eq _ _ hs, bd1_some, f1 st hs, f0 st hs]
  have := ansS_lt (sso q (wd == td) td st true) (sso q (wd == td) td st false) (wd == td)
  unfold sans
  rcases (show ansS (sso q (wd == td) td st true) (sso q (wd == td) td st false) (wd == td) = 0 ∨ ansS (sso q (wd == td) td st true) (sso q (wd == td) td st false) (wd == td) = 1 ∨ ansS (sso q (wd == td) td st true) (sso q (wd == td) td st false) (wd == td) = 2 by omega) with h | h | h <;> rw [h] <;> rfl
-- the reference's simple questions
theorem rem7 {n : Nat} (h : n < 2147483648) : nI n - nI n / 7 * 7 = nI (n % 7) := pk_rem h (by decide) (by decide)
theorem nI_inj7 {a b : Nat} (ha : a < 2147483648) (hb : b < 2147483648) : decide (nI a = nI b) = (a == b) := by
  by_cases h : a = b
  · subst h; simp
  · rw [decide_eq_false (by rw [nI_eq ha hb]; exact h)]; simp [h]
theorem isS_key : ∀ q, q < 19 → ∀ e y : Bool, ∀ td, td < 7 → ∀ st, st < 32 → m_X10_isSimple (nI q) (nI (if e = true then td else td + 1)) (nI td) (nI st) (b2i y) = some (b2i (sso q e td st y)) := by decide +kernel
theorem is_eq {q dd td st : Nat} (hq : q < 19) (hd : dd < 1000) (ht : td < 7) (hs : st < 32) (y : Bool) : m_X10_isSimple (nI q) (nI dd) (nI td) (nI st) (b2i y) = some (b2i (sso q (dd % 7 == td) td st y)) := by
  rw [← isS_key q hq (dd % 7 == td) y td ht st hs]
  unfold m_X10_isSimple
  have e1 : (nI dd - nI dd / 7 * 7 = nI td) ↔ dd % 7 = td := by rw [rem7 (by omega), nI_eq (by omega) (by omega)]
  have e2 : (nI (if (dd % 7 == td) = true then td else td + 1) - nI (if (dd % 7 == td) = true then td else td + 1) / 7 * 7 = nI td) ↔ dd % 7 = td := by
    by_cases h : dd % 7 = td
    · rw [if_pos (by simpa using h), rem7 (by omega), nI_eq (by omega) (by omega)]
      simp only [h, iff_true]
      omega
    · rw [if_neg (by simpa using h), rem7 (by omega), nI_eq (by omega) (by omega)]
      simp only [h, iff_false]
      omega
  simp only [e1, e2]
/-- an answer as the reference tells it -/
def aI9 (a : Nat) : Int32 := if a = 2 then -9 else nI a
theorem nI_ne9 {q : Nat} (h : q < 2147483648) : ¬ nI q = -9 := by
  intro e
  have := congrArg Int32.toInt e
  rw [nI_toInt h] at this
  rw [show (-9 : Int32).toInt = -9 from rfl] at this
  omega
theorem ao_simple {q dd td mr st : Nat} (hq : q < 19) (hd : dd < 1000) (ht : td < 7) (hm : mr < 7) (hs : st < 32) (zq zf : Int32) (zs w : Nat → Int32) :
    m_X10_answerOf (nI q) (nI dd) (nI td) (nI mr) (nI st) zq zf zs w = some (aI9 (ansS (sso q (dd % 7 == td) td st true) (sso q (dd % 7 == td) td st false) (dd % 7 == mr)), w) := by
  unfold m_X10_answerOf
  simp only [nm_ite]
  simp only [if_neg (nI_ne9 (show q < 2147483648 by omega)), nm_eq]
  rw [show (1 : Int32) = b2i true from rfl, show (0 : Int32) = b2i false from rfl, is_eq hq hd ht hs, is_eq hq hd ht hs, bd1_some, bd1_some, rem7 (by omega),
    show (if nI (dd % 7) = nI mr then b2i true else b2i false) = b2i (dd % 7 == mr) by
      rw [← nI_inj7 (a := dd % 7) (b := mr) (by omega) (by omega)]
      by_cases h : nI (dd % 7) = nI mr <;> simp [h]]
  simp only [b2i_inj]
  cases sso q (dd % 7 == td) td st true <;> cases sso q (dd % 7 == td) td st false <;> cases (dd % 7 == mr) <;> rfl
