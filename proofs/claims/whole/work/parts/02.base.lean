def nestF : List (String × Nat × String × String × String) := [(RX1, 15, "TrueOnceWeek$Letters", "length", "I"), (RX5, 24, "TrueOnceWeek$Letters", "length", "I"), (RX9, 135, "TrueOnceWeek$Letters", "length", "I"), (RX9, 104, "TrueOnceWeek$Question", "letters", "LTrueOnceWeek$Letters;"), (RX9, 101, "TrueOnceWeek$Castle", "facts", "I"), (RX9, 148, "TrueOnceWeek$Castle", "so", "I"), (RX9, 151, "TrueOnceWeek$Castle", "common", "I"), (RX9, 75, "TrueOnceWeek$Castle", "cases", "I"), (RX9, 71, "TrueOnceWeek$Castle", "firstTrueDay", "I"), (RX2, 31, "TrueOnceWeek$Moment", "date", "I"), (RX9, 110, "TrueOnceWeek$Moment", "date", "I"), (RX9, 141, "TrueOnceWeek$Moment", "trueDay", "I"), (RX9, 122, "TrueOnceWeek$Moment", "wasAsked", "Z"), (RX9, 126, "TrueOnceWeek$Moment", "clothState", "I"), (RX9, 129, "TrueOnceWeek$Moment", "cracks", "I"), (RX2, 20, "TrueOnceWeek$Moment", "known", "[I"), (RX9, 113, "TrueOnceWeek$Moment", "known", "[I"), (RX9, 132, "TrueOnceWeek$Acts", "count", "I"), (RX9, 134, "TrueOnceWeek$Told", "count", "I")]
def nestM : List (String × Nat × MethodName) := [(RX9, 20, yX5_init), (RX9, 27, yX1_init), (RX9, 34, yX4_init), (RX9, 41, yX0_init), (RX9, 48, yX7_init), (RX9, 55, yX2_init), (RX6, 11, yX9_everyCaseIf), (RX6, 23, yX9_casesWithFact), (RX5, 60, yX9_casesGiving), (RX5, 68, yX9_answerAt), (RX6, 30, yX9_casesGiving), (RX2, 78, yX9_isSoInNone), (RX2, 82, yX9_isSoInAll), (RX6, 38, yX9_answerAt), (RX8, 15, yX9_casesWithFact)]
def cF : Nat → Int32 := fun i => ([(-1431655766), (-858993460), (-252645136), (-16711936), (-65536)] : List Int32).getD i 0
abbrev kT (cI cJ cZ cQ : ClassId) : List (ClassId × FieldType) := [(cI, .int), (cJ, .long), (cZ, .boolean), (cQ, .array .int)]
abbrev aI (cA : ClassId) (a n : Nat) (f : Nat → Int32) : Nat × va_E := (a, .inl (cA, n, .inl f))
abbrev aJ (cA : ClassId) (a n : Nat) (f : Nat → Int64) : Nat × va_E := (a, .inl (cA, n, .inr (.inl f)))
abbrev aQ (cA : ClassId) (a n : Nat) (f : Nat → Option Nat) : Nat × va_E := (a, .inl (cA, n, .inr (.inr (.inr (.inr f)))))
def q4 (a b c d : Nat) : Nat → Option Nat := fun i => [some a, some b, some c, some d].getD i none
abbrev oX0 (h : Nat) (f0 f1 f2 f3 : Value) : Nat × va_E := (h, .inr (0, [f0, f1, f2, f3]))
abbrev oX1 (h : Nat) (f0 f1 f2 f3 f4 : Value) : Nat × va_E := (h, .inr (1, [f0, f1, f2, f3, f4]))
abbrev oX2 (h : Nat) (f0 f1 : Value) : Nat × va_E := (h, .inr (2, [f0, f1]))
abbrev oX3 (h : Nat) (f0 f1 : Value) : Nat × va_E := (h, .inr (3, [f0, f1]))
abbrev oX4 (h : Nat) (f0 f1 f2 f3 f4 f5 : Value) : Nat × va_E := (h, .inr (4, [f0, f1, f2, f3, f4, f5]))
abbrev oX5 (h : Nat) (f0 f1 : Value) : Nat × va_E := (h, .inr (5, [f0, f1]))
abbrev oX7 (h : Nat) (f0 f1 f2 f3 : Value) : Nat × va_E := (h, .inr (6, [f0, f1, f2, f3]))
abbrev oX9 (h : Nat) (f0 f1 f2 f3 f4 f5 f6 f7 f8 f9 f10 : Value) : Nat × va_E := (h, .inr (7, [f0, f1, f2, f3, f4, f5, f6, f7, f8, f9, f10]))
abbrev oX10 (h : Nat) (f0 f1 f2 f3 f4 f5 f6 f7 f8 f9 f10 f11 f12 f13 f14 f15 f16 f17 f18 f19 f20 f21 f22 f23 f24 f25 f26 f27 f28 f29 f30 : Value) : Nat × va_E := (h, .inr (8, [f0, f1, f2, f3, f4, f5, f6, f7, f8, f9, f10, f11, f12, f13, f14, f15, f16, f17, f18, f19, f20, f21, f22, f23, f24, f25, f26, f27, f28, f29, f30]))
/-- what every contract takes of the launch: the links among nest mates, and the row of the cases with each fact -/
def gx (t : Nat) (A : Nat → Prop) (U : State) : Prop :=
  (∀ q : String × Nat × String × String × String, q ∈ nestF → va_Nw (.fieldLinkNest q.1 q.2.1 q.2.2.1 q.2.2.2.1 q.2.2.2.2 "TrueOnceWeek") U) ∧ (∀ q : String × Nat × MethodName, q ∈ nestM → va_Nw (.methodLinkNest q.1 q.2.1 q.2.2 "TrueOnceWeek") U) ∧ va_Z "TrueOnceWeek" "CASES_WITH_FACT" "[I" (.ref t) A U U.heap ∧ va_T .int t 5 (fun i => .int (cF i)) A U U.heap ∧ va_AOA .int U
theorem gx.call {t : Nat} {A B : Nat → Prop} {s U : State} {H : Heap} {locs : List Loc} (h : gx t A s) (hS : va_S A s.heap H locs) (hU : U.heap = H) (hW : s.WarmedH U.vm) (hBA : ∀ q, B q → A q) : gx t B U := by
  obtain ⟨h1, h2, h3, h4, h5⟩ := h
  refine ⟨fun q hq => va_Nw.warmF hW (h1 q hq), fun q hq => va_Nw.warmM hW (h2 q hq), ?_, ?_, over_moved hW.alike h5⟩
  · rw [hU]
    exact ((h3.kept hS.2.1).moved hW.alike).narrow hBA
  · rw [hU]
    exact ((h4.kept hS.2.1).moved hW.alike).narrow hBA
theorem gx.blind {t : Nat} {A : Nat → Prop} {U : State} {g : JFrame} {mk : MethodId} {a : Array Value} (h : gx t A U) : gx t A (U.calling g mk a) := by
  obtain ⟨h1, h2, h3, h4, h5⟩ := h
  exact ⟨fun q hq => va_Nw.same rfl rfl (h1 q hq), fun q hq => va_Nw.same rfl rfl (h2 q hq), va_Z.moved (u := U) (U := U.calling g mk a) (Vm.Alike.refl U.vm) h3, va_T.moved (u := U) (U := U.calling g mk a) (Vm.Alike.refl U.vm) h4, over_moved (u := U) (E := U.calling g mk a) (Vm.Alike.refl U.vm) h5⟩
/-- a contract's start: the cells ws, and nothing else is known -/
def cP (D : va_G) (T : List (ClassId × FieldType)) (t sz : Nat) (ws : va_W) (U : State) : Prop := U.heap.size = sz ∧ va_P D vwCl ws U.heap ∧ va_K D vwCl T U ∧ va_D (fun _ => True) ws ∧ gx t (va_A ws sz) U
abbrev cQi (D : va_G) (A : Nat → Prop) (Rv : Int32) (ws : va_W) : Array Value → State → Outcome → State → Prop := va_Qi (S := Unit) (fun r _ => r = Rv) (fun _ u => va_P D vwCl ws u.heap) A
abbrev cQl (D : va_G) (A : Nat → Prop) (Rv : Int64) (ws : va_W) : Array Value → State → Outcome → State → Prop := va_Ql (S := Unit) (fun r _ => r = Rv) (fun _ u => va_P D vwCl ws u.heap) A
abbrev cQv (D : va_G) (A : Nat → Prop) (ws : va_W) : Array Value → State → Outcome → State → Prop := va_Qv (S := Unit) (fun _ => True) (fun _ u => va_P D vwCl ws u.heap) A
theorem kb_pick {D : va_G} {cl : List vw_C} {w0 wc : va_W} {H : Heap} (hP : va_P D cl w0 H) (is : List Nat) (hC : is.map (fun i => w0[i]?) = wc.map some) : va_P D cl wc H := by
  intro k q hk
  have h1 : (wc.map some)[k]? = some (some q) := by rw [List.getElem?_map, hk]; rfl
  rw [← hC, List.getElem?_map] at h1
  cases h2 : is[k]? with
  | none => rw [h2] at h1; cases h1
  | some i => rw [h2] at h1; exact hP i q (Option.some.inj h1)
theorem kb_D {A : Nat → Prop} {w0 w2 : va_W} (hD : va_D A w0) (h : w2.map Prod.fst = w0.map Prod.fst) : va_D A w2 := by
  have at' : ∀ (k : Nat) (q : Nat × va_E), w2[k]? = some q → ∃ q0, w0[k]? = some q0 ∧ q0.1 = q.1 := by
    intro k q hk
    have h1 : (w2.map Prod.fst)[k]? = some q.1 := by rw [List.getElem?_map, hk]; rfl
    rw [h, List.getElem?_map] at h1
    cases h2 : w0[k]? with
    | none => rw [h2] at h1; cases h1
    | some q0 => rw [h2] at h1; exact ⟨q0, rfl, Option.some.inj h1⟩
  refine ⟨fun i j p q hp hq e => ?_, fun k q hk => ?_⟩
  · obtain ⟨p0, hp0, ep⟩ := at' i p hp
    obtain ⟨q0, hq0, eq⟩ := at' j q hq
    exact hD.1 i j p0 q0 hp0 hq0 (by rw [ep, eq, e])
  · obtain ⟨q0, hq0, eq⟩ := at' k q hk
    rw [← eq]
    exact hD.2 k q0 hq0
theorem kb_join {A : Nat → Prop} {D : va_G} {cl : List vw_C} {w0 wc w1 w2 : va_W} {H H1 : Heap} (hP : va_P D cl w0 H) (hD : va_D A w0) (isC : List Nat) (hC : isC.map (fun i => w0[i]?) = wc.map some)
    (hk : ∀ q : Nat, q < H.size → ¬ va_A wc H.size q → H1[q]? = H[q]?) (hP1 : va_P D cl w1 H1) (src : List (Bool × Nat)) (hs : src.map (fun z => if z.1 = true then w1[z.2]? else w0[z.2]?) = w2.map some) (hd : src.all (fun z => z.1 || !(isC.contains z.2)) = true) : va_P D cl w2 H1 := by
  intro k q hq
  have h1 : (src.map (fun z => if z.1 = true then w1[z.2]? else w0[z.2]?))[k]? = some (some q) := by rw [hs, List.getElem?_map, hq]; rfl
  rw [List.getElem?_map] at h1
  cases h2 : src[k]? with
  | none => rw [h2] at h1; cases h1
  | some z =>
    rw [h2] at h1
    have h3 : (if z.1 = true then w1[z.2]? else w0[z.2]?) = some q := Option.some.inj h1
    have h4 := List.all_eq_true.mp hd z (List.mem_of_getElem? h2)
    by_cases hz : z.1 = true
    · rw [if_pos hz] at h3
      exact hP1 z.2 q h3
    · rw [if_neg hz] at h3
      have hni : z.2 ∉ isC := by
        intro hm
        have : isC.contains z.2 = true := List.contains_iff_mem.mpr hm
        rw [this] at h4
        simp at h4
        exact hz h4
      have hl := (hP z.2 q h3).lt
      refine (hP z.2 q h3).kept (hk q.1 hl (fun h => ?_))
      rcases h with ⟨k2, e, h⟩ | h
      · have g1 : (isC.map (fun i => w0[i]?))[k2]? = some (some (q.1, e)) := by rw [hC, List.getElem?_map, h]; rfl
        rw [List.getElem?_map] at g1
        cases g2 : isC[k2]? with
        | none => rw [g2] at g1; cases g1
        | some j =>
          rw [g2] at g1
          have g3 := Option.some.inj g1
          have hij := hD.1 z.2 j q (q.1, e) h3 g3 rfl
          exact hni (hij ▸ List.mem_of_getElem? g2)
      · exact absurd hl (Nat.not_lt.mpr h)
theorem cP.blind {D : va_G} {T : List (ClassId × FieldType)} {t sz : Nat} {ws : va_W} {av : List Value} : FrameBlind (va_Pc av (cP D T t sz ws)) := by
  intro a U g mk q
  obtain ⟨q0, q1, qP, qK, qD, qG⟩ := q
  exact ⟨q0, q1, qP, va_K.moved (u := U) (U := U.calling g mk a) (Vm.Alike.refl U.vm) qK, qD, qG.blind⟩
theorem kb_pre {D : va_G} {T : List (ClassId × FieldType)} {t : Nat} {A : Nat → Prop} {s : State} {H : Heap} {locs : List Loc} {w0 wc : va_W} {As : List Value} (hK : va_K D vwCl T s) (hG : gx t A s) (hP : va_P D vwCl w0 H) (hD : va_D A w0) (hS : va_S A s.heap H locs) (hA : ∀ q, s.heap.size ≤ q → A q) (isC : List Nat) (hC : isC.map (fun i => w0[i]?) = wc.map some) (hn : va_nd isC = true) :
    PreS s H (va_Pc As (cP D T t H.size wc)) As :=
  ⟨cP.blind, fun U hU hW => ⟨rfl, by rw [hU], by rw [hU]; exact kb_pick hP isC hC, va_K.moved hW.alike hK, (hD.sub isC hn hC).weaken (fun _ _ _ _ => trivial), hG.call hS hU hW (va_free hD hS hA isC hC)⟩⟩
theorem kb_h {D : va_G} {cl : List vw_C} {ws : va_W} {H : Heap} {t : State} (hP : va_P D cl ws H) (ht : t.heap = H) : va_P D cl ws t.heap := by rw [ht]; exact hP
def nm {α β : Type} (e : α) (f : α → β) : β := f e
theorem nm_t {α β : Type} {x e : α} {f : α → β} {r : β} (ex : x = e) (h : nm e f = r) : f x = r := by
  subst ex
  exact h
theorem nm_s {α β : Type} {e : α} {f : α → β} {r : β} (h : nm e f = r) : ∃ x, x = e ∧ f x = r := ⟨e, rfl, h⟩
def gd {α : Type} (b : Bool) (x : Option α) : Option α := if b = true then x else none
theorem gd_s {α : Type} {b : Bool} {x : Option α} {o : α} (h : gd b x = some o) : b = true ∧ x = some o := by
  unfold gd at h
  by_cases hb : b = true
  · rw [if_pos hb] at h
    exact ⟨hb, h⟩
  · rw [if_neg hb] at h
    cases h
theorem ite_t {α : Type} {c : Prop} [Decidable c] {x y r : α} (hc : c) (h : (if c then x else y) = r) : x = r := by rwa [if_pos hc] at h
theorem ite_f {α : Type} {c : Prop} [Decidable c] {x y r : α} (hc : ¬ c) (h : (if c then x else y) = r) : y = r := by rwa [if_neg hc] at h
def inB (i : Int32) (n : Nat) : Bool := !(decide (i < 0)) && decide (i.toNatClampNeg < n)
theorem inB_s {i : Int32} {n : Nat} (h : inB i n = true) : vp_in i n := by
  simp only [inB, Bool.and_eq_true, Bool.not_eq_true', decide_eq_false_iff_not, decide_eq_true_eq] at h
  intro q
  rcases q with q | q
  · exact h.1 q
  · exact absurd h.2 (Nat.not_lt.mpr q)
def nzB (y : Int32) : Bool := !(decide (y = 0))
theorem nzB_s {y : Int32} (h : nzB y = true) : ¬ y = 0 := by simpa [nzB] using h
def nzL (y : Int64) : Bool := !(decide (y = 0))
theorem nzL_s {y : Int64} (h : nzL y = true) : ¬ y = 0 := by simpa [nzL] using h
def zB (x : Int32) : Bool := decide (x = 0) || decide (x = 1)
theorem zB_n {x : Int32} (h : zB x = true) : narrow .boolean (.int x) = .int x := by
  simp only [zB, Bool.or_eq_true, decide_eq_true_eq] at h
  rcases h with rfl | rfl <;> rfl
theorem zB_f {x : Int32} (h : zB x = true) : fits .boolean (.int x) = true := by
  simp only [zB, Bool.or_eq_true, decide_eq_true_eq] at h
  rcases h with rfl | rfl <;> rfl
def cpB (sp dp n : Int32) (n0 n1 : Nat) : Bool := !(decide (sp < 0)) && (!(decide (dp < 0)) && (!(decide (n < 0)) && (decide (sp.toNatClampNeg + n.toNatClampNeg ≤ n0) && decide (dp.toNatClampNeg + n.toNatClampNeg ≤ n1))))
theorem cpB_s {sp dp n : Int32} {n0 n1 : Nat} (h : cpB sp dp n n0 n1 = true) : ¬ sp < 0 ∧ ¬ dp < 0 ∧ ¬ n < 0 ∧ sp.toNatClampNeg + n.toNatClampNeg ≤ n0 ∧ dp.toNatClampNeg + n.toNatClampNeg ≤ n1 := by
  simpa only [cpB, Bool.and_eq_true, Bool.not_eq_true', decide_eq_false_iff_not, decide_eq_true_eq] using h
def j_iushr (x y : Int32) : Int32 := (x.toUInt32 >>> (y.toUInt32 &&& Int32.toUInt32 31)).toInt32
def j_lushr (x : Int64) (y : Int32) : Int64 := (x.toUInt64 >>> (y.toInt64.toUInt64 &&& Int64.toUInt64 63)).toInt64
def j_lshl (x : Int64) (y : Int32) : Int64 := x <<< (y.toInt64 &&& 63)
def bd1 {A1 γ : Type} (x : Option (A1)) (f : A1 → Option γ) : Option γ := x.bind (fun o => f o)
theorem bd1_s {A1 γ : Type} {x : Option (A1)} {f : A1 → Option γ} {r : γ} (h : bd1 x f = some r) : ∃ a1, x = some a1 ∧ f a1 = some r := by
  obtain ⟨o, h1, h2⟩ := Option.bind_eq_some_iff.mp h
  exact ⟨o, h1, h2⟩
def bd2 {A1 A2 γ : Type} (x : Option (A1 × A2)) (f : A1 → A2 → Option γ) : Option γ := x.bind (fun o => f o.1 o.2)
theorem bd2_s {A1 A2 γ : Type} {x : Option (A1 × A2)} {f : A1 → A2 → Option γ} {r : γ} (h : bd2 x f = some r) : ∃ a1 a2, x = some (a1, a2) ∧ f a1 a2 = some r := by
  obtain ⟨o, h1, h2⟩ := Option.bind_eq_some_iff.mp h
  exact ⟨o.1, o.2, h1, h2⟩
def bd3 {A1 A2 A3 γ : Type} (x : Option (A1 × A2 × A3)) (f : A1 → A2 → A3 → Option γ) : Option γ := x.bind (fun o => f o.1 o.2.1 o.2.2)
theorem bd3_s {A1 A2 A3 γ : Type} {x : Option (A1 × A2 × A3)} {f : A1 → A2 → A3 → Option γ} {r : γ} (h : bd3 x f = some r) : ∃ a1 a2 a3, x = some (a1, a2, a3) ∧ f a1 a2 a3 = some r := by
  obtain ⟨o, h1, h2⟩ := Option.bind_eq_some_iff.mp h
  exact ⟨o.1, o.2.1, o.2.2, h1, h2⟩
def bd4 {A1 A2 A3 A4 γ : Type} (x : Option (A1 × A2 × A3 × A4)) (f : A1 → A2 → A3 → A4 → Option γ) : Option γ := x.bind (fun o => f o.1 o.2.1 o.2.2.1 o.2.2.2)
theorem bd4_s {A1 A2 A3 A4 γ : Type} {x : Option (A1 × A2 × A3 × A4)} {f : A1 → A2 → A3 → A4 → Option γ} {r : γ} (h : bd4 x f = some r) : ∃ a1 a2 a3 a4, x = some (a1, a2, a3, a4) ∧ f a1 a2 a3 a4 = some r := by
  obtain ⟨o, h1, h2⟩ := Option.bind_eq_some_iff.mp h
  exact ⟨o.1, o.2.1, o.2.2.1, o.2.2.2, h1, h2⟩
def bd5 {A1 A2 A3 A4 A5 γ : Type} (x : Option (A1 × A2 × A3 × A4 × A5)) (f : A1 → A2 → A3 → A4 → A5 → Option γ) : Option γ := x.bind (fun o => f o.1 o.2.1 o.2.2.1 o.2.2.2.1 o.2.2.2.2)
theorem bd5_s {A1 A2 A3 A4 A5 γ : Type} {x : Option (A1 × A2 × A3 × A4 × A5)} {f : A1 → A2 → A3 → A4 → A5 → Option γ} {r : γ} (h : bd5 x f = some r) : ∃ a1 a2 a3 a4 a5, x = some (a1, a2, a3, a4, a5) ∧ f a1 a2 a3 a4 a5 = some r := by
  obtain ⟨o, h1, h2⟩ := Option.bind_eq_some_iff.mp h
  exact ⟨o.1, o.2.1, o.2.2.1, o.2.2.2.1, o.2.2.2.2, h1, h2⟩
def bd6 {A1 A2 A3 A4 A5 A6 γ : Type} (x : Option (A1 × A2 × A3 × A4 × A5 × A6)) (f : A1 → A2 → A3 → A4 → A5 → A6 → Option γ) : Option γ := x.bind (fun o => f o.1 o.2.1 o.2.2.1 o.2.2.2.1 o.2.2.2.2.1 o.2.2.2.2.2)
theorem bd6_s {A1 A2 A3 A4 A5 A6 γ : Type} {x : Option (A1 × A2 × A3 × A4 × A5 × A6)} {f : A1 → A2 → A3 → A4 → A5 → A6 → Option γ} {r : γ} (h : bd6 x f = some r) : ∃ a1 a2 a3 a4 a5 a6, x = some (a1, a2, a3, a4, a5, a6) ∧ f a1 a2 a3 a4 a5 a6 = some r := by
  obtain ⟨o, h1, h2⟩ := Option.bind_eq_some_iff.mp h
  exact ⟨o.1, o.2.1, o.2.2.1, o.2.2.2.1, o.2.2.2.2.1, o.2.2.2.2.2, h1, h2⟩
def bd7 {A1 A2 A3 A4 A5 A6 A7 γ : Type} (x : Option (A1 × A2 × A3 × A4 × A5 × A6 × A7)) (f : A1 → A2 → A3 → A4 → A5 → A6 → A7 → Option γ) : Option γ := x.bind (fun o => f o.1 o.2.1 o.2.2.1 o.2.2.2.1 o.2.2.2.2.1 o.2.2.2.2.2.1 o.2.2.2.2.2.2)
theorem bd7_s {A1 A2 A3 A4 A5 A6 A7 γ : Type} {x : Option (A1 × A2 × A3 × A4 × A5 × A6 × A7)} {f : A1 → A2 → A3 → A4 → A5 → A6 → A7 → Option γ} {r : γ} (h : bd7 x f = some r) : ∃ a1 a2 a3 a4 a5 a6 a7, x = some (a1, a2, a3, a4, a5, a6, a7) ∧ f a1 a2 a3 a4 a5 a6 a7 = some r := by
  obtain ⟨o, h1, h2⟩ := Option.bind_eq_some_iff.mp h
  exact ⟨o.1, o.2.1, o.2.2.1, o.2.2.2.1, o.2.2.2.2.1, o.2.2.2.2.2.1, o.2.2.2.2.2.2, h1, h2⟩
def bd8 {A1 A2 A3 A4 A5 A6 A7 A8 γ : Type} (x : Option (A1 × A2 × A3 × A4 × A5 × A6 × A7 × A8)) (f : A1 → A2 → A3 → A4 → A5 → A6 → A7 → A8 → Option γ) : Option γ := x.bind (fun o => f o.1 o.2.1 o.2.2.1 o.2.2.2.1 o.2.2.2.2.1 o.2.2.2.2.2.1 o.2.2.2.2.2.2.1 o.2.2.2.2.2.2.2)
theorem bd8_s {A1 A2 A3 A4 A5 A6 A7 A8 γ : Type} {x : Option (A1 × A2 × A3 × A4 × A5 × A6 × A7 × A8)} {f : A1 → A2 → A3 → A4 → A5 → A6 → A7 → A8 → Option γ} {r : γ} (h : bd8 x f = some r) : ∃ a1 a2 a3 a4 a5 a6 a7 a8, x = some (a1, a2, a3, a4, a5, a6, a7, a8) ∧ f a1 a2 a3 a4 a5 a6 a7 a8 = some r := by
  obtain ⟨o, h1, h2⟩ := Option.bind_eq_some_iff.mp h
  exact ⟨o.1, o.2.1, o.2.2.1, o.2.2.2.1, o.2.2.2.2.1, o.2.2.2.2.2.1, o.2.2.2.2.2.2.1, o.2.2.2.2.2.2.2, h1, h2⟩
def bd9 {A1 A2 A3 A4 A5 A6 A7 A8 A9 γ : Type} (x : Option (A1 × A2 × A3 × A4 × A5 × A6 × A7 × A8 × A9)) (f : A1 → A2 → A3 → A4 → A5 → A6 → A7 → A8 → A9 → Option γ) : Option γ := x.bind (fun o => f o.1 o.2.1 o.2.2.1 o.2.2.2.1 o.2.2.2.2.1 o.2.2.2.2.2.1 o.2.2.2.2.2.2.1 o.2.2.2.2.2.2.2.1 o.2.2.2.2.2.2.2.2)
theorem bd9_s {A1 A2 A3 A4 A5 A6 A7 A8 A9 γ : Type} {x : Option (A1 × A2 × A3 × A4 × A5 × A6 × A7 × A8 × A9)} {f : A1 → A2 → A3 → A4 → A5 → A6 → A7 → A8 → A9 → Option γ} {r : γ} (h : bd9 x f = some r) : ∃ a1 a2 a3 a4 a5 a6 a7 a8 a9, x = some (a1, a2, a3, a4, a5, a6, a7, a8, a9) ∧ f a1 a2 a3 a4 a5 a6 a7 a8 a9 = some r := by
  obtain ⟨o, h1, h2⟩ := Option.bind_eq_some_iff.mp h
  exact ⟨o.1, o.2.1, o.2.2.1, o.2.2.2.1, o.2.2.2.2.1, o.2.2.2.2.2.1, o.2.2.2.2.2.2.1, o.2.2.2.2.2.2.2.1, o.2.2.2.2.2.2.2.2, h1, h2⟩
def bd10 {A1 A2 A3 A4 A5 A6 A7 A8 A9 A10 γ : Type} (x : Option (A1 × A2 × A3 × A4 × A5 × A6 × A7 × A8 × A9 × A10)) (f : A1 → A2 → A3 → A4 → A5 → A6 → A7 → A8 → A9 → A10 → Option γ) : Option γ := x.bind (fun o => f o.1 o.2.1 o.2.2.1 o.2.2.2.1 o.2.2.2.2.1 o.2.2.2.2.2.1 o.2.2.2.2.2.2.1 o.2.2.2.2.2.2.2.1 o.2.2.2.2.2.2.2.2.1 o.2.2.2.2.2.2.2.2.2)
theorem bd10_s {A1 A2 A3 A4 A5 A6 A7 A8 A9 A10 γ : Type} {x : Option (A1 × A2 × A3 × A4 × A5 × A6 × A7 × A8 × A9 × A10)} {f : A1 → A2 → A3 → A4 → A5 → A6 → A7 → A8 → A9 → A10 → Option γ} {r : γ} (h : bd10 x f = some r) : ∃ a1 a2 a3 a4 a5 a6 a7 a8 a9 a10, x = some (a1, a2, a3, a4, a5, a6, a7, a8, a9, a10) ∧ f a1 a2 a3 a4 a5 a6 a7 a8 a9 a10 = some r := by
  obtain ⟨o, h1, h2⟩ := Option.bind_eq_some_iff.mp h
  exact ⟨o.1, o.2.1, o.2.2.1, o.2.2.2.1, o.2.2.2.2.1, o.2.2.2.2.2.1, o.2.2.2.2.2.2.1, o.2.2.2.2.2.2.2.1, o.2.2.2.2.2.2.2.2.1, o.2.2.2.2.2.2.2.2.2, h1, h2⟩
def bd11 {A1 A2 A3 A4 A5 A6 A7 A8 A9 A10 A11 γ : Type} (x : Option (A1 × A2 × A3 × A4 × A5 × A6 × A7 × A8 × A9 × A10 × A11)) (f : A1 → A2 → A3 → A4 → A5 → A6 → A7 → A8 → A9 → A10 → A11 → Option γ) : Option γ := x.bind (fun o => f o.1 o.2.1 o.2.2.1 o.2.2.2.1 o.2.2.2.2.1 o.2.2.2.2.2.1 o.2.2.2.2.2.2.1 o.2.2.2.2.2.2.2.1 o.2.2.2.2.2.2.2.2.1 o.2.2.2.2.2.2.2.2.2.1 o.2.2.2.2.2.2.2.2.2.2)
theorem bd11_s {A1 A2 A3 A4 A5 A6 A7 A8 A9 A10 A11 γ : Type} {x : Option (A1 × A2 × A3 × A4 × A5 × A6 × A7 × A8 × A9 × A10 × A11)} {f : A1 → A2 → A3 → A4 → A5 → A6 → A7 → A8 → A9 → A10 → A11 → Option γ} {r : γ} (h : bd11 x f = some r) : ∃ a1 a2 a3 a4 a5 a6 a7 a8 a9 a10 a11, x = some (a1, a2, a3, a4, a5, a6, a7, a8, a9, a10, a11) ∧ f a1 a2 a3 a4 a5 a6 a7 a8 a9 a10 a11 = some r := by
  obtain ⟨o, h1, h2⟩ := Option.bind_eq_some_iff.mp h
  exact ⟨o.1, o.2.1, o.2.2.1, o.2.2.2.1, o.2.2.2.2.1, o.2.2.2.2.2.1, o.2.2.2.2.2.2.1, o.2.2.2.2.2.2.2.1, o.2.2.2.2.2.2.2.2.1, o.2.2.2.2.2.2.2.2.2.1, o.2.2.2.2.2.2.2.2.2.2, h1, h2⟩
def bd12 {A1 A2 A3 A4 A5 A6 A7 A8 A9 A10 A11 A12 γ : Type} (x : Option (A1 × A2 × A3 × A4 × A5 × A6 × A7 × A8 × A9 × A10 × A11 × A12)) (f : A1 → A2 → A3 → A4 → A5 → A6 → A7 → A8 → A9 → A10 → A11 → A12 → Option γ) : Option γ := x.bind (fun o => f o.1 o.2.1 o.2.2.1 o.2.2.2.1 o.2.2.2.2.1 o.2.2.2.2.2.1 o.2.2.2.2.2.2.1 o.2.2.2.2.2.2.2.1 o.2.2.2.2.2.2.2.2.1 o.2.2.2.2.2.2.2.2.2.1 o.2.2.2.2.2.2.2.2.2.2.1 o.2.2.2.2.2.2.2.2.2.2.2)
theorem bd12_s {A1 A2 A3 A4 A5 A6 A7 A8 A9 A10 A11 A12 γ : Type} {x : Option (A1 × A2 × A3 × A4 × A5 × A6 × A7 × A8 × A9 × A10 × A11 × A12)} {f : A1 → A2 → A3 → A4 → A5 → A6 → A7 → A8 → A9 → A10 → A11 → A12 → Option γ} {r : γ} (h : bd12 x f = some r) : ∃ a1 a2 a3 a4 a5 a6 a7 a8 a9 a10 a11 a12, x = some (a1, a2, a3, a4, a5, a6, a7, a8, a9, a10, a11, a12) ∧ f a1 a2 a3 a4 a5 a6 a7 a8 a9 a10 a11 a12 = some r := by
  obtain ⟨o, h1, h2⟩ := Option.bind_eq_some_iff.mp h
  exact ⟨o.1, o.2.1, o.2.2.1, o.2.2.2.1, o.2.2.2.2.1, o.2.2.2.2.2.1, o.2.2.2.2.2.2.1, o.2.2.2.2.2.2.2.1, o.2.2.2.2.2.2.2.2.1, o.2.2.2.2.2.2.2.2.2.1, o.2.2.2.2.2.2.2.2.2.2.1, o.2.2.2.2.2.2.2.2.2.2.2, h1, h2⟩
def bd13 {A1 A2 A3 A4 A5 A6 A7 A8 A9 A10 A11 A12 A13 γ : Type} (x : Option (A1 × A2 × A3 × A4 × A5 × A6 × A7 × A8 × A9 × A10 × A11 × A12 × A13)) (f : A1 → A2 → A3 → A4 → A5 → A6 → A7 → A8 → A9 → A10 → A11 → A12 → A13 → Option γ) : Option γ := x.bind (fun o => f o.1 o.2.1 o.2.2.1 o.2.2.2.1 o.2.2.2.2.1 o.2.2.2.2.2.1 o.2.2.2.2.2.2.1 o.2.2.2.2.2.2.2.1 o.2.2.2.2.2.2.2.2.1 o.2.2.2.2.2.2.2.2.2.1 o.2.2.2.2.2.2.2.2.2.2.1 o.2.2.2.2.2.2.2.2.2.2.2.1 o.2.2.2.2.2.2.2.2.2.2.2.2)
theorem bd13_s {A1 A2 A3 A4 A5 A6 A7 A8 A9 A10 A11 A12 A13 γ : Type} {x : Option (A1 × A2 × A3 × A4 × A5 × A6 × A7 × A8 × A9 × A10 × A11 × A12 × A13)} {f : A1 → A2 → A3 → A4 → A5 → A6 → A7 → A8 → A9 → A10 → A11 → A12 → A13 → Option γ} {r : γ} (h : bd13 x f = some r) : ∃ a1 a2 a3 a4 a5 a6 a7 a8 a9 a10 a11 a12 a13, x = some (a1, a2, a3, a4, a5, a6, a7, a8, a9, a10, a11, a12, a13) ∧ f a1 a2 a3 a4 a5 a6 a7 a8 a9 a10 a11 a12 a13 = some r := by
  obtain ⟨o, h1, h2⟩ := Option.bind_eq_some_iff.mp h
  exact ⟨o.1, o.2.1, o.2.2.1, o.2.2.2.1, o.2.2.2.2.1, o.2.2.2.2.2.1, o.2.2.2.2.2.2.1, o.2.2.2.2.2.2.2.1, o.2.2.2.2.2.2.2.2.1, o.2.2.2.2.2.2.2.2.2.1, o.2.2.2.2.2.2.2.2.2.2.1, o.2.2.2.2.2.2.2.2.2.2.2.1, o.2.2.2.2.2.2.2.2.2.2.2.2, h1, h2⟩
def bd14 {A1 A2 A3 A4 A5 A6 A7 A8 A9 A10 A11 A12 A13 A14 γ : Type} (x : Option (A1 × A2 × A3 × A4 × A5 × A6 × A7 × A8 × A9 × A10 × A11 × A12 × A13 × A14)) (f : A1 → A2 → A3 → A4 → A5 → A6 → A7 → A8 → A9 → A10 → A11 → A12 → A13 → A14 → Option γ) : Option γ := x.bind (fun o => f o.1 o.2.1 o.2.2.1 o.2.2.2.1 o.2.2.2.2.1 o.2.2.2.2.2.1 o.2.2.2.2.2.2.1 o.2.2.2.2.2.2.2.1 o.2.2.2.2.2.2.2.2.1 o.2.2.2.2.2.2.2.2.2.1 o.2.2.2.2.2.2.2.2.2.2.1 o.2.2.2.2.2.2.2.2.2.2.2.1 o.2.2.2.2.2.2.2.2.2.2.2.2.1 o.2.2.2.2.2.2.2.2.2.2.2.2.2)
theorem bd14_s {A1 A2 A3 A4 A5 A6 A7 A8 A9 A10 A11 A12 A13 A14 γ : Type} {x : Option (A1 × A2 × A3 × A4 × A5 × A6 × A7 × A8 × A9 × A10 × A11 × A12 × A13 × A14)} {f : A1 → A2 → A3 → A4 → A5 → A6 → A7 → A8 → A9 → A10 → A11 → A12 → A13 → A14 → Option γ} {r : γ} (h : bd14 x f = some r) : ∃ a1 a2 a3 a4 a5 a6 a7 a8 a9 a10 a11 a12 a13 a14, x = some (a1, a2, a3, a4, a5, a6, a7, a8, a9, a10, a11, a12, a13, a14) ∧ f a1 a2 a3 a4 a5 a6 a7 a8 a9 a10 a11 a12 a13 a14 = some r := by
  obtain ⟨o, h1, h2⟩ := Option.bind_eq_some_iff.mp h
  exact ⟨o.1, o.2.1, o.2.2.1, o.2.2.2.1, o.2.2.2.2.1, o.2.2.2.2.2.1, o.2.2.2.2.2.2.1, o.2.2.2.2.2.2.2.1, o.2.2.2.2.2.2.2.2.1, o.2.2.2.2.2.2.2.2.2.1, o.2.2.2.2.2.2.2.2.2.2.1, o.2.2.2.2.2.2.2.2.2.2.2.1, o.2.2.2.2.2.2.2.2.2.2.2.2.1, o.2.2.2.2.2.2.2.2.2.2.2.2.2, h1, h2⟩
def bd15 {A1 A2 A3 A4 A5 A6 A7 A8 A9 A10 A11 A12 A13 A14 A15 γ : Type} (x : Option (A1 × A2 × A3 × A4 × A5 × A6 × A7 × A8 × A9 × A10 × A11 × A12 × A13 × A14 × A15)) (f : A1 → A2 → A3 → A4 → A5 → A6 → A7 → A8 → A9 → A10 → A11 → A12 → A13 → A14 → A15 → Option γ) : Option γ := x.bind (fun o => f o.1 o.2.1 o.2.2.1 o.2.2.2.1 o.2.2.2.2.1 o.2.2.2.2.2.1 o.2.2.2.2.2.2.1 o.2.2.2.2.2.2.2.1 o.2.2.2.2.2.2.2.2.1 o.2.2.2.2.2.2.2.2.2.1 o.2.2.2.2.2.2.2.2.2.2.1 o.2.2.2.2.2.2.2.2.2.2.2.1 o.2.2.2.2.2.2.2.2.2.2.2.2.1 o.2.2.2.2.2.2.2.2.2.2.2.2.2.1 o.2.2.2.2.2.2.2.2.2.2.2.2.2.2)
theorem bd15_s {A1 A2 A3 A4 A5 A6 A7 A8 A9 A10 A11 A12 A13 A14 A15 γ : Type} {x : Option (A1 × A2 × A3 × A4 × A5 × A6 × A7 × A8 × A9 × A10 × A11 × A12 × A13 × A14 × A15)} {f : A1 → A2 → A3 → A4 → A5 → A6 → A7 → A8 → A9 → A10 → A11 → A12 → A13 → A14 → A15 → Option γ} {r : γ} (h : bd15 x f = some r) : ∃ a1 a2 a3 a4 a5 a6 a7 a8 a9 a10 a11 a12 a13 a14 a15, x = some (a1, a2, a3, a4, a5, a6, a7, a8, a9, a10, a11, a12, a13, a14, a15) ∧ f a1 a2 a3 a4 a5 a6 a7 a8 a9 a10 a11 a12 a13 a14 a15 = some r := by
  obtain ⟨o, h1, h2⟩ := Option.bind_eq_some_iff.mp h
  exact ⟨o.1, o.2.1, o.2.2.1, o.2.2.2.1, o.2.2.2.2.1, o.2.2.2.2.2.1, o.2.2.2.2.2.2.1, o.2.2.2.2.2.2.2.1, o.2.2.2.2.2.2.2.2.1, o.2.2.2.2.2.2.2.2.2.1, o.2.2.2.2.2.2.2.2.2.2.1, o.2.2.2.2.2.2.2.2.2.2.2.1, o.2.2.2.2.2.2.2.2.2.2.2.2.1, o.2.2.2.2.2.2.2.2.2.2.2.2.2.1, o.2.2.2.2.2.2.2.2.2.2.2.2.2.2, h1, h2⟩
def bd16 {A1 A2 A3 A4 A5 A6 A7 A8 A9 A10 A11 A12 A13 A14 A15 A16 γ : Type} (x : Option (A1 × A2 × A3 × A4 × A5 × A6 × A7 × A8 × A9 × A10 × A11 × A12 × A13 × A14 × A15 × A16)) (f : A1 → A2 → A3 → A4 → A5 → A6 → A7 → A8 → A9 → A10 → A11 → A12 → A13 → A14 → A15 → A16 → Option γ) : Option γ := x.bind (fun o => f o.1 o.2.1 o.2.2.1 o.2.2.2.1 o.2.2.2.2.1 o.2.2.2.2.2.1 o.2.2.2.2.2.2.1 o.2.2.2.2.2.2.2.1 o.2.2.2.2.2.2.2.2.1 o.2.2.2.2.2.2.2.2.2.1 o.2.2.2.2.2.2.2.2.2.2.1 o.2.2.2.2.2.2.2.2.2.2.2.1 o.2.2.2.2.2.2.2.2.2.2.2.2.1 o.2.2.2.2.2.2.2.2.2.2.2.2.2.1 o.2.2.2.2.2.2.2.2.2.2.2.2.2.2.1 o.2.2.2.2.2.2.2.2.2.2.2.2.2.2.2)
theorem bd16_s {A1 A2 A3 A4 A5 A6 A7 A8 A9 A10 A11 A12 A13 A14 A15 A16 γ : Type} {x : Option (A1 × A2 × A3 × A4 × A5 × A6 × A7 × A8 × A9 × A10 × A11 × A12 × A13 × A14 × A15 × A16)} {f : A1 → A2 → A3 → A4 → A5 → A6 → A7 → A8 → A9 → A10 → A11 → A12 → A13 → A14 → A15 → A16 → Option γ} {r : γ} (h : bd16 x f = some r) : ∃ a1 a2 a3 a4 a5 a6 a7 a8 a9 a10 a11 a12 a13 a14 a15 a16, x = some (a1, a2, a3, a4, a5, a6, a7, a8, a9, a10, a11, a12, a13, a14, a15, a16) ∧ f a1 a2 a3 a4 a5 a6 a7 a8 a9 a10 a11 a12 a13 a14 a15 a16 = some r := by
  obtain ⟨o, h1, h2⟩ := Option.bind_eq_some_iff.mp h
  exact ⟨o.1, o.2.1, o.2.2.1, o.2.2.2.1, o.2.2.2.2.1, o.2.2.2.2.2.1, o.2.2.2.2.2.2.1, o.2.2.2.2.2.2.2.1, o.2.2.2.2.2.2.2.2.1, o.2.2.2.2.2.2.2.2.2.1, o.2.2.2.2.2.2.2.2.2.2.1, o.2.2.2.2.2.2.2.2.2.2.2.1, o.2.2.2.2.2.2.2.2.2.2.2.2.1, o.2.2.2.2.2.2.2.2.2.2.2.2.2.1, o.2.2.2.2.2.2.2.2.2.2.2.2.2.2.1, o.2.2.2.2.2.2.2.2.2.2.2.2.2.2.2, h1, h2⟩
def bd17 {A1 A2 A3 A4 A5 A6 A7 A8 A9 A10 A11 A12 A13 A14 A15 A16 A17 γ : Type} (x : Option (A1 × A2 × A3 × A4 × A5 × A6 × A7 × A8 × A9 × A10 × A11 × A12 × A13 × A14 × A15 × A16 × A17)) (f : A1 → A2 → A3 → A4 → A5 → A6 → A7 → A8 → A9 → A10 → A11 → A12 → A13 → A14 → A15 → A16 → A17 → Option γ) : Option γ := x.bind (fun o => f o.1 o.2.1 o.2.2.1 o.2.2.2.1 o.2.2.2.2.1 o.2.2.2.2.2.1 o.2.2.2.2.2.2.1 o.2.2.2.2.2.2.2.1 o.2.2.2.2.2.2.2.2.1 o.2.2.2.2.2.2.2.2.2.1 o.2.2.2.2.2.2.2.2.2.2.1 o.2.2.2.2.2.2.2.2.2.2.2.1 o.2.2.2.2.2.2.2.2.2.2.2.2.1 o.2.2.2.2.2.2.2.2.2.2.2.2.2.1 o.2.2.2.2.2.2.2.2.2.2.2.2.2.2.1 o.2.2.2.2.2.2.2.2.2.2.2.2.2.2.2.1 o.2.2.2.2.2.2.2.2.2.2.2.2.2.2.2.2)
theorem bd17_s {A1 A2 A3 A4 A5 A6 A7 A8 A9 A10 A11 A12 A13 A14 A15 A16 A17 γ : Type} {x : Option (A1 × A2 × A3 × A4 × A5 × A6 × A7 × A8 × A9 × A10 × A11 × A12 × A13 × A14 × A15 × A16 × A17)} {f : A1 → A2 → A3 → A4 → A5 → A6 → A7 → A8 → A9 → A10 → A11 → A12 → A13 → A14 → A15 → A16 → A17 → Option γ} {r : γ} (h : bd17 x f = some r) : ∃ a1 a2 a3 a4 a5 a6 a7 a8 a9 a10 a11 a12 a13 a14 a15 a16 a17, x = some (a1, a2, a3, a4, a5, a6, a7, a8, a9, a10, a11, a12, a13, a14, a15, a16, a17) ∧ f a1 a2 a3 a4 a5 a6 a7 a8 a9 a10 a11 a12 a13 a14 a15 a16 a17 = some r := by
  obtain ⟨o, h1, h2⟩ := Option.bind_eq_some_iff.mp h
  exact ⟨o.1, o.2.1, o.2.2.1, o.2.2.2.1, o.2.2.2.2.1, o.2.2.2.2.2.1, o.2.2.2.2.2.2.1, o.2.2.2.2.2.2.2.1, o.2.2.2.2.2.2.2.2.1, o.2.2.2.2.2.2.2.2.2.1, o.2.2.2.2.2.2.2.2.2.2.1, o.2.2.2.2.2.2.2.2.2.2.2.1, o.2.2.2.2.2.2.2.2.2.2.2.2.1, o.2.2.2.2.2.2.2.2.2.2.2.2.2.1, o.2.2.2.2.2.2.2.2.2.2.2.2.2.2.1, o.2.2.2.2.2.2.2.2.2.2.2.2.2.2.2.1, o.2.2.2.2.2.2.2.2.2.2.2.2.2.2.2.2, h1, h2⟩
def bd18 {A1 A2 A3 A4 A5 A6 A7 A8 A9 A10 A11 A12 A13 A14 A15 A16 A17 A18 γ : Type} (x : Option (A1 × A2 × A3 × A4 × A5 × A6 × A7 × A8 × A9 × A10 × A11 × A12 × A13 × A14 × A15 × A16 × A17 × A18)) (f : A1 → A2 → A3 → A4 → A5 → A6 → A7 → A8 → A9 → A10 → A11 → A12 → A13 → A14 → A15 → A16 → A17 → A18 → Option γ) : Option γ := x.bind (fun o => f o.1 o.2.1 o.2.2.1 o.2.2.2.1 o.2.2.2.2.1 o.2.2.2.2.2.1 o.2.2.2.2.2.2.1 o.2.2.2.2.2.2.2.1 o.2.2.2.2.2.2.2.2.1 o.2.2.2.2.2.2.2.2.2.1 o.2.2.2.2.2.2.2.2.2.2.1 o.2.2.2.2.2.2.2.2.2.2.2.1 o.2.2.2.2.2.2.2.2.2.2.2.2.1 o.2.2.2.2.2.2.2.2.2.2.2.2.2.1 o.2.2.2.2.2.2.2.2.2.2.2.2.2.2.1 o.2.2.2.2.2.2.2.2.2.2.2.2.2.2.2.1 o.2.2.2.2.2.2.2.2.2.2.2.2.2.2.2.2.1 o.2.2.2.2.2.2.2.2.2.2.2.2.2.2.2.2.2)
theorem bd18_s {A1 A2 A3 A4 A5 A6 A7 A8 A9 A10 A11 A12 A13 A14 A15 A16 A17 A18 γ : Type} {x : Option (A1 × A2 × A3 × A4 × A5 × A6 × A7 × A8 × A9 × A10 × A11 × A12 × A13 × A14 × A15 × A16 × A17 × A18)} {f : A1 → A2 → A3 → A4 → A5 → A6 → A7 → A8 → A9 → A10 → A11 → A12 → A13 → A14 → A15 → A16 → A17 → A18 → Option γ} {r : γ} (h : bd18 x f = some r) : ∃ a1 a2 a3 a4 a5 a6 a7 a8 a9 a10 a11 a12 a13 a14 a15 a16 a17 a18, x = some (a1, a2, a3, a4, a5, a6, a7, a8, a9, a10, a11, a12, a13, a14, a15, a16, a17, a18) ∧ f a1 a2 a3 a4 a5 a6 a7 a8 a9 a10 a11 a12 a13 a14 a15 a16 a17 a18 = some r := by
  obtain ⟨o, h1, h2⟩ := Option.bind_eq_some_iff.mp h
  exact ⟨o.1, o.2.1, o.2.2.1, o.2.2.2.1, o.2.2.2.2.1, o.2.2.2.2.2.1, o.2.2.2.2.2.2.1, o.2.2.2.2.2.2.2.1, o.2.2.2.2.2.2.2.2.1, o.2.2.2.2.2.2.2.2.2.1, o.2.2.2.2.2.2.2.2.2.2.1, o.2.2.2.2.2.2.2.2.2.2.2.1, o.2.2.2.2.2.2.2.2.2.2.2.2.1, o.2.2.2.2.2.2.2.2.2.2.2.2.2.1, o.2.2.2.2.2.2.2.2.2.2.2.2.2.2.1, o.2.2.2.2.2.2.2.2.2.2.2.2.2.2.2.1, o.2.2.2.2.2.2.2.2.2.2.2.2.2.2.2.2.1, o.2.2.2.2.2.2.2.2.2.2.2.2.2.2.2.2.2, h1, h2⟩
section KB
variable {p : Program} {l : Launch} {e : Env} {R : Room} {s : State} {m : MethodId} {args : Array Value} {below : List Frame} {meth : Method} {c : Code} {H : Heap} {locs : List Loc} {cells slots : Nat} {Q : State → Prop}
variable {pc : Nat} {ls : Array Slot} {rest st0 : List Value} {a : Array Value} {A : Nat → Prop} {D : va_G} {w0 wc w1 w2 : va_W}
theorem kb_gen {g : JFrame} {Q0 : State → Prop} (h : ∀ Q : State → Prop, Q = Q0 → W p l e R s m args below meth c H locs cells slots Q g) : W p l e R s m args below meth c H locs cells slots Q0 g := h _ rfl
theorem kb_aald {cc : ByteArray} {tys : List (ClassId × FieldType)} {cl : List vw_C} {ws : va_W} {aa : Nat} (hexec : p.tables.exec = Jvm.exec) (hb : c.code = cc) (hK : va_K D cl tys s) (hP : va_P D cl ws H) (q0 t0 : Nat) {cA : ClassId} {n y : Nat} {f : Nat → Option Nat} (ha : ws[q0]? = some (aa, .inl (cA, n, .inr (.inr (.inr (.inr f)))))) (ht : tys[t0]? = some (cA, .array .int)) {i : Int32} (hin : vp_in i n) (hv : f i.toNatClampNeg = some y) (hdg : decode cc pc = .ok (.aaload, 1))
    (kk : W p l e R s m args below meth c H locs cells slots Q (F0 m (pc + 1) ls (.ref y :: rest))) : W p l e R s m args below meth c H locs cells slots Q (F0 m pc ls (.int i :: .ref aa :: rest)) := by
  have hlt : i.toNatClampNeg < n := Nat.not_le.mp fun q => hin (Or.inr q)
  have kk' : W p l e R s m args below meth c H locs cells slots Q (F0 m (pc + 1) ls (va_rf (f i.toNatClampNeg) :: rest)) := by rw [hv]; exact kk
  exact W.aald (v := va_rf (f i.toNatClampNeg)) (ty := .array .int) hexec hb (hP q0 _ ha) ((hK.2 t0 _ ht).1 n (fun j => va_rf (f j))) rfl (fun q => by cases q) (by show ¬ (i < 0 ∨ (arrV _ _ _).slots.size ≤ _); rw [arrV_size]; exact hin) (by show (arrV _ _ _).slots[_]? = _; rw [arrV_read _ _ hlt]) rfl rfl hdg kk' 
theorem kb_calli {Rv : Int32} (hr : va_Run p l e R s m args below meth c H locs cells slots 0 0 (F0 m pc ls st0) rest (cQi D (va_A wc H.size) Rv w1 a) (va_A wc H.size)) (hP : va_P D vwCl w0 H) (hD : va_D A w0) (hS : va_S A s.heap H locs) (hA : ∀ q, s.heap.size ≤ q → A q) (isC : List Nat) (hC : isC.map (fun i => w0[i]?) = wc.map some) (src : List (Bool × Nat)) (hs : src.map (fun z => if z.1 = true then w1[z.2]? else w0[z.2]?) = w2.map some) (hd : src.all (fun z => z.1 || !(isC.contains z.2)) = true)
    (kk : ∀ (H1 : Heap) (locs1 : List Loc), va_P D vwCl w2 H1 → va_S A s.heap H1 locs1 → W p l e R s m args below meth c H1 locs1 cells slots Q (F0 m (pc + 3) ls (.int Rv :: rest))) : W p l e R s m args below meth c H locs cells slots Q (F0 m pc ls st0) := by
  have hFc := va_free hD hS hA isC hC
  refine va_calli hr hS (fun q _ h => hFc q h) hFc (fun r u t H1 locs1 ht hvm hw hB hz1 hk1 hS1 => ?_)
  subst hw
  rw [ht] at hB
  exact kk H1 locs1 (kb_join hP hD isC hC hk1 hB src hs hd) hS1
theorem kb_calll {Rv : Int64} (hr : va_Run p l e R s m args below meth c H locs cells slots 0 0 (F0 m pc ls st0) rest (cQl D (va_A wc H.size) Rv w1 a) (va_A wc H.size)) (hP : va_P D vwCl w0 H) (hD : va_D A w0) (hS : va_S A s.heap H locs) (hA : ∀ q, s.heap.size ≤ q → A q) (isC : List Nat) (hC : isC.map (fun i => w0[i]?) = wc.map some) (src : List (Bool × Nat)) (hs : src.map (fun z => if z.1 = true then w1[z.2]? else w0[z.2]?) = w2.map some) (hd : src.all (fun z => z.1 || !(isC.contains z.2)) = true)
    (kk : ∀ (H1 : Heap) (locs1 : List Loc), va_P D vwCl w2 H1 → va_S A s.heap H1 locs1 → W p l e R s m args below meth c H1 locs1 cells slots Q (F0 m (pc + 3) ls (.long Rv :: rest))) : W p l e R s m args below meth c H locs cells slots Q (F0 m pc ls st0) := by
  have hFc := va_free hD hS hA isC hC
  refine va_calll hr hS (fun q _ h => hFc q h) hFc (fun r u t H1 locs1 ht hvm hw hB hz1 hk1 hS1 => ?_)
  subst hw
  rw [ht] at hB
  exact kk H1 locs1 (kb_join hP hD isC hC hk1 hB src hs hd) hS1
theorem kb_callv (hr : va_Run p l e R s m args below meth c H locs cells slots 0 0 (F0 m pc ls st0) rest (cQv D (va_A wc H.size) w1 a) (va_A wc H.size)) (hP : va_P D vwCl w0 H) (hD : va_D A w0) (hS : va_S A s.heap H locs) (hA : ∀ q, s.heap.size ≤ q → A q) (isC : List Nat) (hC : isC.map (fun i => w0[i]?) = wc.map some) (src : List (Bool × Nat)) (hs : src.map (fun z => if z.1 = true then w1[z.2]? else w0[z.2]?) = w2.map some) (hd : src.all (fun z => z.1 || !(isC.contains z.2)) = true)
    (kk : ∀ (H1 : Heap) (locs1 : List Loc), va_P D vwCl w2 H1 → va_S A s.heap H1 locs1 → W p l e R s m args below meth c H1 locs1 cells slots Q (F0 m (pc + 3) ls (rest))) : W p l e R s m args below meth c H locs cells slots Q (F0 m pc ls st0) := by
  have hFc := va_free hD hS hA isC hC
  refine va_callv hr hS (fun q _ h => hFc q h) hFc (fun u t H1 locs1 ht hvm hw hB hz1 hk1 hS1 => ?_)
  rw [ht] at hB
  exact kk H1 locs1 (kb_join hP hD isC hC hk1 hB src hs hd) hS1
def isPrimB (ty : FieldType) : Bool := match ty with
  | .object _ => false
  | _ => true
theorem kb_cls {cl : List vw_C} {tys : List (ClassId × FieldType)} {ty : FieldType} {cA cB : ClassId} (hno : isPrimB ty = true) (hK : va_K D cl tys s) (t0 : Nat) (ht : tys[t0]? = some (cA, ty)) (hK2 : va_K D cl (tys ++ [(cB, ty)]) s) : cB = cA := by
  have h1 := (hK.2 t0 _ ht).2
  have h2 := (hK2.2 tys.length (cB, ty) (by rw [List.getElem?_append_right (Nat.le_refl _), Nat.sub_self]; rfl)).2
  cases ty with
  | object C => cases hno
  | _ => exact Option.some.inj (h2.symm.trans h1)
theorem kb_newa {cc : ByteArray} {tys : List (ClassId × FieldType)} {cl : List vw_C} {ws : va_W} {H0 : Heap} (hexec : p.tables.exec = Jvm.exec) (hb : c.code = cc) {atype : ArrayType} (harr : (Cond.arrayClass (newarray.typeOf atype)).before args s = true) {ty : FieldType} (hty : newarray.typeOf atype = ty) (hK : va_K D cl tys s) (t0 : Nat) {cA : ClassId} (ht : tys[t0]? = some (cA, ty)) (hno : isPrimB ty = true) (hP : va_P D cl ws H) (hD : va_D A ws) (hS : va_S A H0 H locs) (hA : ∀ q, H0.size ≤ q → A q)
    {n : Int32} {N' : Nat} {a0 : vp_A} (ha : ∀ cA : ClassId, vp_cell cA a0 = arrV cA N' (fun _ => defaultValue ty)) (hn : ¬ n < 0) (hN : n.toNatClampNeg = N') (hbytes : N' * componentBytes ty ≤ 536870912) (hcells : cells + 1 ≤ R.cells) (hslots : slots + N' ≤ R.slots) (hdg : decode cc pc = .ok (.newarray atype, 2))
    (kk : ∀ (q : Nat) (H1 : Heap), va_P D cl (ws ++ [(q, .inl (cA, a0))]) H1 → va_D A (ws ++ [(q, .inl (cA, a0))]) → va_S A H0 H1 locs → W p l e R s m args below meth c H1 locs (cells + 1) (slots + N') Q (F0 m (pc + 2) ls (.ref q :: rest))) : W p l e R s m args below meth c H locs cells slots Q (F0 m pc ls (.int n :: rest)) := by
  refine va_newa (a0 := a0) hexec hb harr hty hK hP hD hS hA ha hn hN hbytes hcells hslots hdg (fun q cB H1 hK2 hP hD hS => ?_)
  obtain rfl := kb_cls hno hK t0 ht hK2
  exact kk q H1 hP hD hS
theorem kb_mna {cc : ByteArray} {tys : List (ClassId × FieldType)} {cl : List vw_C} {ws : va_W} {H0 : Heap} {own : String} {index : Nat} {cI cQ : ClassId} (hexec : p.tables.exec = Jvm.exec) (hb : c.code = cc) (hown : s.vm.findClass own = some m.cls) (hclink : (Cond.classLink own index "[[I").before args s = true) (hover : va_AOA .int s) (harr : (Cond.arrayClass .int).before args s = true)
    (hK : va_K D cl tys s) (h0 : tys[0]? = some (cI, .int)) (h3 : tys[3]? = some (cQ, .array .int)) (hP : va_P D cl ws H) (hD : va_D A ws) (hS : va_S A H0 H locs) (hA : ∀ q, H0.size ≤ q → A q) (hcells : cells + 5 ≤ R.cells) (hslots : slots + 32 ≤ R.slots) (hdg : decode cc pc = .ok (.multianewarray index 2, 4))
    (kk : ∀ (q r0 r1 r2 r3 : Nat) (H1 : Heap), va_P D cl (ws ++ [aQ cQ q 4 (q4 r0 r1 r2 r3), aI cI r0 7 (fun _ => 0), aI cI r1 7 (fun _ => 0), aI cI r2 7 (fun _ => 0), aI cI r3 7 (fun _ => 0)]) H1 → va_D A (ws ++ [aQ cQ q 4 (q4 r0 r1 r2 r3), aI cI r0 7 (fun _ => 0), aI cI r1 7 (fun _ => 0), aI cI r2 7 (fun _ => 0), aI cI r3 7 (fun _ => 0)]) → va_S A H0 H1 locs →
      W p l e R s m args below meth c H1 locs (cells + 5) (slots + 32) Q (F0 m (pc + 4) ls (.ref q :: rest))) : W p l e R s m args below meth c H locs cells slots Q (F0 m pc ls (.int (7 : Int32) :: .int (4 : Int32) :: rest)) := by
  have hcy : s.vm.findClass (FieldType.array .int).toString = some cI := (hK.2 0 _ h0).2
  refine va_mna (X := ws) (L := []) (f := fun _ => .inl (cI, 7, .inl (fun _ => 0))) (z := (7, .inl (fun _ => 0))) (cy := cI) (ty := .int) (N' := 4) (K' := 7) hexec hb hown hclink hover harr hcy hK (by show va_P D cl (ws ++ []) H; rw [List.append_nil]; exact hP) (by show va_D A (ws ++ []); rw [List.append_nil]; exact hD) hS hA (by decide) (by decide) (by decide) (by decide) (by decide) (by decide) (by decide) rfl rfl hcells hslots (fun c => by show ({ cls := c, slots := Array.replicate 7 (.int 0), vm := .none } : Cell) = _; rw [arrV_new]; rfl) hdg (fun q r cA H1 _ _ hK2 hP hD hS => ?_)
  obtain rfl := kb_cls rfl hK 3 h3 hK2
  have e1 : (fun i => if i < 4 then some (r i) else none) = q4 (r 0) (r 1) (r 2) (r 3) := by
    funext i
    match i with
    | 0 => rfl
    | 1 => rfl
    | 2 => rfl
    | 3 => rfl
    | j + 4 => simp [q4]
  have e2 : va_pl ([] ++ (List.range 4).map r) (vr_up (fun _ => .inl (cI, 7, .inl (fun _ => 0))) ((List.range 4).map r) (.inl (cI, (7, .inl (fun _ => 0))))) = [aI cI (r 0) 7 (fun _ => 0), aI cI (r 1) 7 (fun _ => 0), aI cI (r 2) 7 (fun _ => 0), aI cI (r 3) 7 (fun _ => 0)] := by
    show List.map _ [r 0, r 1, r 2, r 3] = _
    simp [vr_up]
  rw [e1, e2, List.append_assoc] at hP hD
  exact kk q (r 0) (r 1) (r 2) (r 3) H1 hP hD hS
end KB
